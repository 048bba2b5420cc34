/-! THE PURE MACHINE. A world is a list of cells; a reference is a place in that list. The tables px_cd (code), px_fl (fields), px_nw (classes), px_kl (callees) .. stand in the part before this one. -/
/-- a place in an array -/
def px_in (i : Int32) (n : Nat) : Bool := (!decide (i < 0)) && Nat.blt i.toNatClampNeg n
/-- may a value of this kind be stored in a field of that type -/
def px_fit (ty : FieldType) (v : Value) : Bool := match ty, v with
  | .int, .int _ => true
  | .boolean, .int x => decide (x = 0) || decide (x = 1)
  | .object _, .ref _ => true
  | .object _, .null => true
  | .array _, .ref _ => true
  | .array _, .null => true
  | _, _ => false
/-- one instruction that calls no method of ours: X is the script, its length and its ints -/
def px_ins (X : Nat × (Nat → Int32)) (M : Nat) (I : Instr) (pc : Nat) (lv st : List Value) (w : px_W) (k z : Nat) : Option px_C :=
  match I with
  | .iconst v => some (pc + 1, lv, .int (Int32.ofInt v) :: st, w, k, z)
  | .bipush v => some (pc + 2, lv, .int (Int8.ofInt v).toInt32 :: st, w, k, z)
  | .sipush v => some (pc + 3, lv, .int (Int16.ofInt v).toInt32 :: st, w, k, z)
  | .aconst_null => some (pc + 1, lv, .null :: st, w, k, z)
  | .lconst n => some (pc + 1, lv, .long (Int64.ofNat n.val) :: st, w, k, z)
  | .ldc_w i => match px_lc M i with
    | some v => some (pc + 3, lv, .int v :: st, w, k, z)
    | none => none
  | .i2l => match st with
    | .int x :: r => some (pc + 1, lv, .long x.toInt64 :: r, w, k, z)
    | _ => none
  | .lcmp => match st with
    | .long y :: .long x :: r => some (pc + 1, lv, .int (lg_cmp x y) :: r, w, k, z)
    | _ => none
  | .laload => match st with
    | .int i :: .ref a :: r => match w[a]? with
      | some (.inr (.inl (n, f))) => match px_in i n with
        | true => some (pc + 1, lv, .long (f i.toNatClampNeg) :: r, w, k, z)
        | false => none
      | _ => none
    | _ => none
  | .lastore => match st with
    | .long x :: .int i :: .ref a :: r => match w[a]? with
      | some (.inr (.inl (n, f))) => match px_in i n with
        | true => some (pc + 1, lv, r, w.set a (.inr (.inl (n, vp_updL f i.toNatClampNeg x))), k, z)
        | false => none
      | _ => none
    | _ => none
  | .baload => match st with
    | .int i :: .ref a :: r => match w[a]? with
      | some (.inl (1, n, f)) => match px_in i n with
        | true => some (pc + 1, lv, .int (f i.toNatClampNeg) :: r, w, k, z)
        | false => none
      | _ => none
    | _ => none
  | .bastore => match st with
    | .int x :: .int i :: .ref a :: r => match w[a]? with
      | some (.inl (1, n, f)) => match px_in i n with
        | true => some (pc + 1, lv, r, w.set a (.inl (1, n, upd f i.toNatClampNeg (x &&& 1))), k, z)
        | false => none
      | _ => none
    | _ => none
  | .ldc i => match px_lc M i with
    | some v => some (pc + 2, lv, .int v :: st, w, k, z)
    | none => none
  | .iload i => match lv[i]? with
    | some (.int x) => some (pc + 2, lv, .int x :: st, w, k, z)
    | _ => none
  | .iload_n i => match lv[i.val]? with
    | some (.int x) => some (pc + 1, lv, .int x :: st, w, k, z)
    | _ => none
  | .aload i => match lv[i]? with
    | some (.ref x) => some (pc + 2, lv, .ref x :: st, w, k, z)
    | some .null => some (pc + 2, lv, .null :: st, w, k, z)
    | some (.retAddr (j + 1)) => some (pc + 2, lv, .retAddr (j + 1) :: st, w, k, z)
    | _ => none
  | .aload_n i => match lv[i.val]? with
    | some (.ref x) => some (pc + 1, lv, .ref x :: st, w, k, z)
    | some .null => some (pc + 1, lv, .null :: st, w, k, z)
    | some (.retAddr (j + 1)) => some (pc + 1, lv, .retAddr (j + 1) :: st, w, k, z)
    | _ => none
  | .istore i => match st with
    | .int x :: r => match Nat.blt i lv.length with
      | true => some (pc + 2, lv.set i (.int x), r, w, k, z)
      | false => none
    | _ => none
  | .istore_n i => match st with
    | .int x :: r => match Nat.blt i.val lv.length with
      | true => some (pc + 1, lv.set i.val (.int x), r, w, k, z)
      | false => none
    | _ => none
  | .astore i => match st with
    | .ref x :: r => match Nat.blt i lv.length with
      | true => some (pc + 2, lv.set i (.ref x), r, w, k, z)
      | false => none
    | .null :: r => match Nat.blt i lv.length with
      | true => some (pc + 2, lv.set i .null, r, w, k, z)
      | false => none
    | .retAddr (j + 1) :: r => match Nat.blt i lv.length with
      | true => some (pc + 2, lv.set i (.retAddr (j + 1)), r, w, k, z)
      | false => none
    | _ => none
  | .astore_n i => match st with
    | .ref x :: r => match Nat.blt i.val lv.length with
      | true => some (pc + 1, lv.set i.val (.ref x), r, w, k, z)
      | false => none
    | .null :: r => match Nat.blt i.val lv.length with
      | true => some (pc + 1, lv.set i.val .null, r, w, k, z)
      | false => none
    | .retAddr (j + 1) :: r => match Nat.blt i.val lv.length with
      | true => some (pc + 1, lv.set i.val (.retAddr (j + 1)), r, w, k, z)
      | false => none
    | _ => none
  | .iinc i n => match lv[i]? with
    | some (.int x) => some (pc + 3, lv.set i (.int (x + Int32.ofInt n)), st, w, k, z)
    | _ => none
  | .iadd => match st with
    | .int y :: .int x :: r => some (pc + 1, lv, .int (x + y) :: r, w, k, z)
    | _ => none
  | .isub => match st with
    | .int y :: .int x :: r => some (pc + 1, lv, .int (x - y) :: r, w, k, z)
    | _ => none
  | .imul => match st with
    | .int y :: .int x :: r => some (pc + 1, lv, .int (x * y) :: r, w, k, z)
    | _ => none
  | .iand => match st with
    | .int y :: .int x :: r => some (pc + 1, lv, .int (x &&& y) :: r, w, k, z)
    | _ => none
  | .ior => match st with
    | .int y :: .int x :: r => some (pc + 1, lv, .int (x ||| y) :: r, w, k, z)
    | _ => none
  | .ixor => match st with
    | .int y :: .int x :: r => some (pc + 1, lv, .int (x ^^^ y) :: r, w, k, z)
    | _ => none
  | .ishl => match st with
    | .int y :: .int x :: r => some (pc + 1, lv, .int (x <<< (y &&& 31)) :: r, w, k, z)
    | _ => none
  | .ishr => match st with
    | .int y :: .int x :: r => some (pc + 1, lv, .int (x >>> (y &&& 31)) :: r, w, k, z)
    | _ => none
  | .iushr => match st with
    | .int y :: .int x :: r => some (pc + 1, lv, .int ((x.toUInt32 >>> (y.toUInt32 &&& Int32.toUInt32 31)).toInt32) :: r, w, k, z)
    | _ => none
  | .idiv => match st with
    | .int y :: .int x :: r => match decide (y = 0) with
      | true => none
      | false => some (pc + 1, lv, .int (x / y) :: r, w, k, z)
    | _ => none
  | .irem => match st with
    | .int y :: .int x :: r => match decide (y = 0) with
      | true => none
      | false => some (pc + 1, lv, .int (x - x / y * y) :: r, w, k, z)
    | _ => none
  | .ineg => match st with
    | .int x :: r => some (pc + 1, lv, .int (-x) :: r, w, k, z)
    | _ => none
  | .dup => match st with
    | .int x :: r => some (pc + 1, lv, .int x :: .int x :: r, w, k, z)
    | .ref x :: r => some (pc + 1, lv, .ref x :: .ref x :: r, w, k, z)
    | _ => none
  | .pop => match st with
    | .int _ :: r => some (pc + 1, lv, r, w, k, z)
    | .ref _ :: r => some (pc + 1, lv, r, w, k, z)
    | .retAddr (_ + 1) :: r => some (pc + 1, lv, r, w, k, z)
    | _ => none
  | .dup_x1 => match st with
    | .int y :: .int x :: r => some (pc + 1, lv, .int y :: .int x :: .int y :: r, w, k, z)
    | .int y :: .ref x :: r => some (pc + 1, lv, .int y :: .ref x :: .int y :: r, w, k, z)
    | _ => none
  | .dup_x2 => match st with
    | .int y :: .int x :: .ref u :: r => some (pc + 1, lv, .int y :: .int x :: .ref u :: .int y :: r, w, k, z)
    | _ => none
  | .dup2 => match st with
    | .int y :: .ref x :: r => some (pc + 1, lv, .int y :: .ref x :: .int y :: .ref x :: r, w, k, z)
    | _ => none
  | .ifCond c _ => match st with
    | .int x :: r => match px_if c x with
      | true => some (px_tg M pc, lv, r, w, k, z)
      | false => some (pc + 3, lv, r, w, k, z)
    | _ => none
  | .if_icmp c _ => match st with
    | .int y :: .int x :: r => match px_ic c x y with
      | true => some (px_tg M pc, lv, r, w, k, z)
      | false => some (pc + 3, lv, r, w, k, z)
    | _ => none
  | .goto _ => some (px_tg M pc, lv, st, w, k, z)
  | .arraylength => match st with
    | .ref a :: r => match w[a]? with
      | some (.inl (0, n, _)) => some (pc + 1, lv, .int (Int32.ofNat n) :: r, w, k, z)
      | _ => none
    | .retAddr 1 :: r => some (pc + 1, lv, .int (Int32.ofNat X.1) :: r, w, k, z)
    | _ => none
  | .iaload => match st with
    | .int i :: .ref a :: r => match w[a]? with
      | some (.inl (0, n, f)) => match px_in i n with
        | true => some (pc + 1, lv, .int (f i.toNatClampNeg) :: r, w, k, z)
        | false => none
      | _ => none
    | .int i :: .retAddr 1 :: r => match px_in i X.1 with
      | true => some (pc + 1, lv, .int (X.2 i.toNatClampNeg) :: r, w, k, z)
      | false => none
    | _ => none
  | .iastore => match st with
    | .int x :: .int i :: .ref a :: r => match w[a]? with
      | some (.inl (0, n, f)) => match px_in i n with
        | true => some (pc + 1, lv, r, w.set a (.inl (0, n, upd f i.toNatClampNeg x)), k, z)
        | false => none
      | _ => none
    | _ => none
  | .getfield j => match st with
    | .ref a :: r => match px_fl M j with
      | some (ci, f) => match w[a]? with
        | some (.inr (.inr (cj, fs))) => match Nat.beq ci cj with
          | true => match fs[f]? with
            | some v => some (pc + 3, lv, v :: r, w, k, z)
            | none => none
          | false => none
        | _ => none
      | none => none
    | _ => none
  | .putfield j => match st with
    | v :: .ref a :: r => match px_fl M j with
      | some (ci, f) => match w[a]? with
        | some (.inr (.inr (cj, fs))) => match Nat.beq ci cj && Nat.blt f fs.length && px_fit (px_ty ci f) v && px_pf M ci f with
          | true => some (pc + 3, lv, r, w.set a (.inr (.inr (ci, fs.set f v))), k, z)
          | false => none
        | _ => none
      | none => none
    | _ => none
  | .newarray .int => match st with
    | .int n :: r => match px_in n 60000000 with
      | true => some (pc + 2, lv, .ref w.length :: r, w ++ [.inl (0, n.toNatClampNeg, fun _ => 0)], k + 1, z + n.toNatClampNeg)
      | false => none
    | _ => none
  | .newarray .boolean => match st with
    | .int n :: r => match px_in n 60000000 with
      | true => some (pc + 2, lv, .ref w.length :: r, w ++ [.inl (1, n.toNatClampNeg, fun _ => 0)], k + 1, z + n.toNatClampNeg)
      | false => none
    | _ => none
  | .newarray .long => match st with
    | .int n :: r => match px_in n 60000000 with
      | true => some (pc + 2, lv, .ref w.length :: r, w ++ [.inr (.inl (n.toNatClampNeg, fun _ => 0))], k + 1, z + n.toNatClampNeg)
      | false => none
    | _ => none
  | .new j => match px_nw M j with
    | some ci => some (pc + 3, lv, .ref w.length :: st, w ++ [.inr (.inr (ci, px_df ci))], k + 1, z + px_sz ci)
    | none => none
  | .invokespecial j => match px_oi M j with
    | true => match st with
      | .ref _ :: r => match Nat.ble (px_w r) 8 with
        | true => some (pc + 3, lv, r, w, k, z)
        | false => none
      | _ => none
    | false => none
  | .invokestatic j => match px_ik M j with
    | some 0 => match st with
      | .int y :: .int x :: r => match Nat.ble (px_w r) 8 with
        | true => some (pc + 3, lv, .int (if x < y then y else x) :: r, w, k, z)
        | false => none
      | _ => none
    | some 1 => match st with
      | .int y :: .int x :: r => match Nat.ble (px_w r) 8 with
        | true => some (pc + 3, lv, .int (if y < x then y else x) :: r, w, k, z)
        | false => none
      | _ => none
    | some 2 => match st with
      | .int n :: .int dp :: .ref a1 :: .int sp :: .ref a0 :: r => match w[a0]?, w[a1]? with
        | some (.inl (0, n0, f)), some (.inl (0, n1, g)) => match Nat.ble (px_w r) 8 && (!decide (sp < 0)) && (!decide (dp < 0)) && (!decide (n < 0)) && Nat.ble (sp.toNatClampNeg + n.toNatClampNeg) n0 && Nat.ble (dp.toNatClampNeg + n.toNatClampNeg) n1 with
          | true => some (pc + 3, lv, r, w.set a1 (.inl (0, n1, va_cpy f g sp.toNatClampNeg dp.toNatClampNeg n.toNatClampNeg)), k, z)
          | false => none
        | _, _ => none
      | _ => none
    | _ => none
  | .tableswitch _ lo hi _ => match st with
    | .int x :: r => some (px_ts M pc lo hi x, lv, r, w, k, z)
    | _ => none
  | .lookupswitch _ _ => match st with
    | .int x :: r => some (px_ls x, lv, r, w, k, z)
    | _ => none
  | _ => none
def px_step (X : Nat × (Nat → Int32)) (M : Nat) (c : px_C) : Option px_C := match c with
  | (pc, lv, st, w, k, z) => match px_cd M pc with
    | none => none
    | some I => px_ins X M I pc lv st w k z
/-- is the receiver an object of the callee's class -/
def px_rcv (N : Nat) (a : List Value) (w : px_W) : Bool := match a with
  | .ref i :: _ => match w[i]? with
    | some (.inr (.inr (ci, _))) => Nat.beq ci (px_on N)
    | _ => false
  | _ => false
/-- a call of a method of ours: the callee, its arguments, what stays on the stack -/
def px_cal (M pc : Nat) (st : List Value) (w : px_W) : Option (Nat × List Value × List Value) := match px_cd M pc with
  | some (.invokevirtual j) => match px_kl M j with
    | some N => match Nat.beq (px_kd N) 0 && Nat.ble (px_ar N) st.length && Nat.ble (px_w (st.drop (px_ar N))) 8 && px_rcv N (st.take (px_ar N)).reverse w with
      | true => some (N, (st.take (px_ar N)).reverse, st.drop (px_ar N))
      | false => none
    | none => none
  | some (.invokestatic j) => match px_kl M j with
    | some N => match (Nat.beq (px_kd N) 1 || Nat.beq (px_kd N) 3) && Nat.ble (px_ar N) st.length && Nat.ble (px_w (st.drop (px_ar N))) 8 with
      | true => some (N, (st.take (px_ar N)).reverse, st.drop (px_ar N))
      | false => none
    | none => none
  | some (.invokespecial j) => match px_kl M j with
    | some N => match Nat.beq (px_kd N) 2 && Nat.ble (px_ar N) st.length && Nat.ble (px_w (st.drop (px_ar N))) 8 && px_rcv N (st.take (px_ar N)).reverse w with
      | true => some (N, (st.take (px_ar N)).reverse, st.drop (px_ar N))
      | false => none
    | none => none
  | _ => none
/-- a method's end -/
def px_fin (M : Nat) (c : px_C) : Option px_Z := match c with
  | (pc, _, st, w, k, z) => match px_cd M pc with
    | some .ireturn => match st with
      | [.int v] => match px_rt M with
        | some .int => some (some (some (.int v)), w, k, z)
        | some .boolean => match decide (v = 0) || decide (v = 1) with
          | true => some (some (some (.int v)), w, k, z)
          | false => none
        | _ => none
      | _ => none
    | some .areturn => match st with
      | [.ref a] => match px_rt M with
        | some (.array _) => some (some (some (.ref a)), w, k, z)
        | some (.object _) => some (some (some (.ref a)), w, k, z)
        | _ => none
      | _ => none
    | some .return_ => match st with
      | [] => match px_rt M with
        | none => some (some none, w, k, z)
        | _ => none
      | _ => none
    | _ => none
/-- to a method's end in n steps; 'call' says what calls do -/
def px_go (X : Nat × (Nat → Int32)) (call : Nat → List Value → px_W → px_Z → Prop) (M : Nat) : Nat → px_C → px_Z → Prop
  | 0, c, r => px_fin M c = some r
  | n + 1, (pc, lv, st, w, k, z), r =>
    (∃ c1, px_step X M (pc, lv, st, w, k, z) = some c1 ∧ px_go X call M n c1 r) ∨
    (∃ (N : Nat) (a rest : List Value) (v : Option Value) (w1 : px_W) (k1 z1 : Nat), px_cal M pc st w = some (N, a, rest) ∧ call N a w (some v, w1, k1, z1) ∧ px_go X call M n (pc + 3, lv, v.toList ++ rest, w1, k + k1, z + z1) r) ∨
    (∃ (N : Nat) (a rest : List Value) (w1 : px_W) (k1 z1 : Nat), px_cal M pc st w = some (N, a, rest) ∧ px_kd N < 2 ∧ call N a w (none, w1, k1, z1) ∧
      match px_hd M pc with
      | some t => px_go X call M n (t, lv, [.retAddr 2], w1, k + k1, z + z1) r
      | none => r = (none, w1, k + k1, z + z1))
def px_loc (N : Nat) (a : List Value) : List Value := a ++ List.replicate (px_ml N - a.length) (.retAddr 0)
/-- a check that fails: the number x is below 0, or not below what the field fh of the cell in field f holds -/
def px_tb (N : Nat) (a : List Value) (w : px_W) : Prop := ∃ (f ch fh i : Nat) (x : Int32) (fs : List Value) (t : Nat) (gs : List Value) (v : Int32), px_tr N = some (f, ch, fh) ∧ a = [.ref i, .int x] ∧ w[i]? = some (.inr (.inr (6, fs))) ∧ fs[f]? = some (.ref t) ∧ w[t]? = some (.inr (.inr (ch, gs))) ∧ gs[fh]? = some (.int v) ∧ (x < 0 ∨ v ≤ x)
/-- a call of N with arguments a in the world w, of at most d frames, ends as r says -/
def px_ev (X : Nat × (Nat → Int32)) : Nat → Nat → List Value → px_W → px_Z → Prop
  | 0, _, _, _, _ => False
  | d + 1, N, a, w, r => (N < 173 ∧ a.length = px_ar N ∧ px_w a = px_ar N ∧ (r.1 = none → px_kd N < 2) ∧ ∃ n, px_go X (px_ev X d) N n (0, px_loc N a, [], w, 0, 0) r) ∨ (6 ≤ d ∧ px_tb N a w ∧ r = (none, w, 1, 6))
def px_to (X : Nat × (Nat → Int32)) (d M : Nat) (c : px_C) (r : px_Z) : Prop := ∃ n, px_go X (px_ev X d) M n c r
section PXT
variable {X : Nat × (Nat → Int32)} {d M pc k z : Nat} {lv st : List Value} {w : px_W} {c c1 : px_C} {r : px_Z}
theorem px_toS (h : px_step X M c = some c1) (kk : px_to X d M c1 r) : px_to X d M c r := by
  obtain ⟨n, hn⟩ := kk
  obtain ⟨pc, lv, st, w, k, z⟩ := c
  exact ⟨n + 1, Or.inl ⟨c1, h, hn⟩⟩
theorem px_toC {N : Nat} {a rest : List Value} {v : Option Value} {w1 : px_W} {k1 z1 : Nat} (h : px_cal M pc st w = some (N, a, rest)) (hc : px_ev X d N a w (some v, w1, k1, z1)) (kk : px_to X d M (pc + 3, lv, v.toList ++ rest, w1, k + k1, z + z1) r) : px_to X d M (pc, lv, st, w, k, z) r := by
  obtain ⟨n, hn⟩ := kk
  exact ⟨n + 1, Or.inr (Or.inl ⟨N, a, rest, v, w1, k1, z1, h, hc, hn⟩)⟩
theorem px_toX {N : Nat} {a rest : List Value} {w1 : px_W} {k1 z1 : Nat} (h : px_cal M pc st w = some (N, a, rest)) (h2 : px_kd N < 2) (hc : px_ev X d N a w (none, w1, k1, z1)) (hh : px_hd M pc = none) : px_to X d M (pc, lv, st, w, k, z) (none, w1, k + k1, z + z1) :=
  ⟨1, Or.inr (Or.inr ⟨N, a, rest, w1, k1, z1, h, h2, hc, by rw [hh]⟩)⟩
theorem px_toH {N t : Nat} {a rest : List Value} {w1 : px_W} {k1 z1 : Nat} (h : px_cal M pc st w = some (N, a, rest)) (h2 : px_kd N < 2) (hc : px_ev X d N a w (none, w1, k1, z1)) (hh : px_hd M pc = some t) (kk : px_to X d M (t, lv, [.retAddr 2], w1, k + k1, z + z1) r) : px_to X d M (pc, lv, st, w, k, z) r := by
  obtain ⟨n, hn⟩ := kk
  exact ⟨n + 1, Or.inr (Or.inr ⟨N, a, rest, w1, k1, z1, h, h2, hc, by rw [hh]; exact hn⟩)⟩
theorem px_toF (h : px_fin M c = some r) : px_to X d M c r := by
  obtain ⟨pc, lv, st, w, k, z⟩ := c
  exact ⟨0, h⟩
theorem px_ev.of {N : Nat} {a : List Value} (hN : N < 173) (ha : a.length = px_ar N) (hw : px_w a = px_ar N) (hr : r.1 = none → px_kd N < 2) (h : px_to X d N (0, px_loc N a, [], w, 0, 0) r) : px_ev X (d + 1) N a w r := Or.inl ⟨hN, ha, hw, hr, h⟩
theorem px_ev.tb {N : Nat} {a : List Value} (hd : 6 ≤ d) (h : px_tb N a w) : px_ev X (d + 1) N a w (none, w, 1, 6) := Or.inr ⟨hd, h, rfl⟩
theorem px_go.up {c1 c2 : Nat → List Value → px_W → px_Z → Prop} (hc : ∀ N a w r, c1 N a w r → c2 N a w r) : ∀ (n : Nat) (c : px_C) (r : px_Z), px_go X c1 M n c r → px_go X c2 M n c r
  | 0, _, _, h => h
  | n + 1, (pc, lv, st, w, k, z), r, h => by
    rcases h with ⟨c1, h1, h2⟩ | ⟨N, a, rest, v, w1, k1, z1, h1, h2, h3⟩ | ⟨N, a, rest, w1, k1, z1, h1, h0, h2, h3⟩
    · exact Or.inl ⟨c1, h1, px_go.up hc n _ _ h2⟩
    · exact Or.inr (Or.inl ⟨N, a, rest, v, w1, k1, z1, h1, hc _ _ _ _ h2, px_go.up hc n _ _ h3⟩)
    · refine Or.inr (Or.inr ⟨N, a, rest, w1, k1, z1, h1, h0, hc _ _ _ _ h2, ?_⟩)
      cases hh : px_hd M pc with
      | none => rw [hh] at h3; exact h3
      | some t => rw [hh] at h3; exact px_go.up hc n _ _ h3
theorem px_ev.up1 : ∀ (d N : Nat) (a : List Value) (w : px_W) (r : px_Z), px_ev X d N a w r → px_ev X (d + 1) N a w r
  | 0, _, _, _, _, h => h.elim
  | d + 1, N, a, w, r, Or.inl ⟨h9, h0, h1, h2, n, h⟩ => Or.inl ⟨h9, h0, h1, h2, n, px_go.up (px_ev.up1 d) n _ _ h⟩
  | d + 1, N, a, w, r, Or.inr ⟨h9, h⟩ => Or.inr ⟨Nat.le_succ_of_le h9, h⟩
theorem px_ev.up {d1 N : Nat} {a : List Value} (h : px_ev X d N a w r) (hd : d ≤ d1) : px_ev X d1 N a w r := by
  obtain ⟨j, rfl⟩ := Nat.le.dest hd
  clear hd
  induction j with
  | zero => exact h
  | succ j ih => exact px_ev.up1 _ _ _ _ _ ih
theorem px_step_mono {c1 : px_C} (h : px_step X M (pc, lv, st, w, k, z) = some c1) : k ≤ c1.2.2.2.2.1 ∧ z ≤ c1.2.2.2.2.2 := by
  unfold px_step at h
  dsimp only at h
  split at h
  · cases h
  · unfold px_ins at h
    repeat' split at h
    all_goals first
      | (cases h; done)
      | (simp only [Option.some.injEq] at h; subst h; simp; done)
      | (simp only [Option.some.injEq] at h; subst h; exact ⟨by dsimp only; omega, by dsimp only; omega⟩)
theorem px_step_len {c1 : px_C} (h : px_step X M (pc, lv, st, w, k, z) = some c1) : c1.2.1.length = lv.length := by
  unfold px_step at h
  dsimp only at h
  split at h
  · cases h
  · unfold px_ins at h
    repeat' split at h
    all_goals first
      | (cases h; done)
      | (simp only [Option.some.injEq] at h; subst h; simp; done)
theorem px_fin_mono (h : px_fin M (pc, lv, st, w, k, z) = some r) : k ≤ r.2.2.1 ∧ z ≤ r.2.2.2 := by
  unfold px_fin at h
  dsimp only at h
  repeat' split at h
  all_goals first
    | (cases h; done)
    | (simp only [Option.some.injEq] at h; subst h; exact ⟨by dsimp only; omega, by dsimp only; omega⟩)
theorem px_go_mono {call : Nat → List Value → px_W → px_Z → Prop} : ∀ (n : Nat) (pc : Nat) (lv st : List Value) (w : px_W) (k z : Nat) (r : px_Z), px_go X call M n (pc, lv, st, w, k, z) r → k ≤ r.2.2.1 ∧ z ≤ r.2.2.2
  | 0, _, _, _, _, _, _, _, h => px_fin_mono h
  | n + 1, pc, lv, st, w, k, z, r, h => by
    rcases h with ⟨⟨pc1, lv1, st1, w1, k1, z1⟩, h1, h2⟩ | ⟨N, a, rest, v, w1, k1, z1, h1, h2, h3⟩ | ⟨N, a, rest, w1, k1, z1, h1, h0, h2, h3⟩
    · have q1 := px_step_mono h1
      have q2 := px_go_mono n _ _ _ _ _ _ _ h2
      dsimp only at q1
      omega
    · have q2 := px_go_mono n _ _ _ _ _ _ _ h3
      omega
    · cases hh : px_hd M pc with
      | none =>
        rw [hh] at h3
        dsimp only at h3
        subst h3
        dsimp only
        omega
      | some t =>
        rw [hh] at h3
        have q2 := px_go_mono n _ _ _ _ _ _ _ h3
        omega
end PXT
