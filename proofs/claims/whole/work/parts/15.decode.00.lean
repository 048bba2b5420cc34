/-! THE CODE TABLES ARE THE CODE: each entry is what decode reads there, each target is where the branch goes. -/
def px_len : Instr → Nat
  | .bipush _ => 2
  | .sipush _ => 3
  | .ldc _ => 2
  | .ldc_w _ => 3
  | .iload _ => 2
  | .aload _ => 2
  | .istore _ => 2
  | .astore _ => 2
  | .iinc _ _ => 3
  | .ifCond _ _ => 3
  | .if_icmp _ _ => 3
  | .goto _ => 3
  | .tableswitch _ _ _ _ => 0
  | .lookupswitch _ _ => 0
  | .getfield _ => 3
  | .putfield _ => 3
  | .invokevirtual _ => 3
  | .invokespecial _ => 3
  | .invokestatic _ => 3
  | .new _ => 3
  | .newarray _ => 2
  | _ => 1
def px_off : Instr → Option Int
  | .ifCond _ o => some o
  | .if_icmp _ o => some o
  | .goto o => some o
  | _ => none
def px_swc (M pc : Nat) (I : Instr) : Bool := match I with
  | .tableswitch d lo hi offs => decide ((pc : Int) + d = (px_tg M pc : Int)) && decide (offs.toList.map (fun q => (pc : Int) + q) = px_tl.map (fun t => ((t : Nat) : Int))) && decide (lo + (offs.size : Int) = hi + 1)
  | .lookupswitch d ps => Nat.beq pc 1 && decide (d = 89) && decide (ps.toList = [(39, 84), (40, 59), (41, 70), (44, 65), (91, 59), (93, 77)])
  | _ => true
def px_chk (M pc : Nat) (I : Instr) : Bool :=
  (match decode (px_b M) pc with
    | .ok (J, n) => decide (J = I) && (Nat.beq (px_len I) 0 || Nat.beq n (px_len I))
    | _ => false) &&
  (match px_off I with
    | some q => decide ((pc : Int) + q = (px_tg M pc : Int))
    | none => true) && px_swc M pc I
def px_all (M : Nat) : Bool := (List.range (px_bl M)).all fun pc => match px_cd M pc with
  | some I => px_chk M pc I
  | none => true
def px_rg (a n : Nat) : Bool := (List.range n).all fun i => px_all (a + i)
def px_rp (M a n : Nat) : Bool := (List.range n).all fun i => match px_cd M (a + i) with
  | some I => px_chk M (a + i) I
  | none => true
