/-! ONE WORLD OF RECORDS, AND ROWS OF STEPS IN NUMBERS (wip/whole/gen/mk74.py) -/
def CA : Type := Nat → Nat → Nat
def CA.bu (A : CA) : Nat → Nat := A 0
def CA.rc (A : CA) : Nat := A 1 0
def CA.ov (A : CA) : Nat := A 2 0
def CA.sn (A : CA) : Nat := A 3 0
def CA.ps (A : CA) : Nat := A 4 0
def CA.pl (A : CA) : Nat := A 5 0
def CA.dp (A : CA) : Nat := A 6 0
def CA.kd (A : CA) : Nat → Nat := A 7
def CA.ks (A : CA) : Nat → Nat := A 8
def CA.km (A : CA) : Nat → Nat := A 9
def CA.fa (A : CA) : Nat → Nat := A 10
def CA.qu (A : CA) : Nat → Nat := A 11
def CA.qn (A : CA) : Nat := A 12 0
def CA.pa (A : CA) : Nat → Nat := A 13
def CA.fc (A : CA) : Nat := A 14 0
def CA.fo (A : CA) : Nat → Nat := A 15
def CA.se (A : CA) : Nat → Nat := A 16
def CA.st (A : CA) : Nat := A 17 0
def CA.dc (A : CA) : Nat := A 18 0
def CA.dn (A : CA) : Nat → Nat := A 19
def CA.wc (A : CA) : Nat := A 20 0
def CA.rl (A : CA) : Nat → Nat := A 21
def CA.rr (A : CA) : Nat → Nat := A 22
def CA.wg (A : CA) : Nat → Nat := A 23
def CA.sc (A : CA) : Nat := A 24 0
def CA.sg (A : CA) : Nat → Nat := A 25
def CA.su (A : CA) : Nat → Nat := A 26
def CA.us (A : CA) : Nat → Nat := A 27
def CA.bc (A : CA) : Nat := A 28 0
def CA.tx (A : CA) : Nat → Nat := A 29
def CA.od (A : CA) : Nat → Nat := A 30
def CA.t (A : CA) : Nat → Nat := A 31
def CA.fl (A : CA) : Nat := A 32 0
def CA.sl (A : CA) : Nat := A 33 0
def CA.P (A : CA) : Nat := A 34 0
def CA.Mv (A : CA) : Nat := A 35 0
def CA.s_bu (A : CA) (x : Nat → Nat) : CA := fun i => cond (Nat.beq i 0) x (A i)
def CA.s_rc (A : CA) (x : Nat) : CA := fun i => cond (Nat.beq i 1) (fun _ => x) (A i)
def CA.s_ov (A : CA) (x : Nat) : CA := fun i => cond (Nat.beq i 2) (fun _ => x) (A i)
def CA.s_sn (A : CA) (x : Nat) : CA := fun i => cond (Nat.beq i 3) (fun _ => x) (A i)
def CA.s_ps (A : CA) (x : Nat) : CA := fun i => cond (Nat.beq i 4) (fun _ => x) (A i)
def CA.s_pl (A : CA) (x : Nat) : CA := fun i => cond (Nat.beq i 5) (fun _ => x) (A i)
def CA.s_dp (A : CA) (x : Nat) : CA := fun i => cond (Nat.beq i 6) (fun _ => x) (A i)
def CA.s_kd (A : CA) (x : Nat → Nat) : CA := fun i => cond (Nat.beq i 7) x (A i)
def CA.s_ks (A : CA) (x : Nat → Nat) : CA := fun i => cond (Nat.beq i 8) x (A i)
def CA.s_km (A : CA) (x : Nat → Nat) : CA := fun i => cond (Nat.beq i 9) x (A i)
def CA.s_fa (A : CA) (x : Nat → Nat) : CA := fun i => cond (Nat.beq i 10) x (A i)
def CA.s_qu (A : CA) (x : Nat → Nat) : CA := fun i => cond (Nat.beq i 11) x (A i)
def CA.s_qn (A : CA) (x : Nat) : CA := fun i => cond (Nat.beq i 12) (fun _ => x) (A i)
def CA.s_pa (A : CA) (x : Nat → Nat) : CA := fun i => cond (Nat.beq i 13) x (A i)
def CA.s_fc (A : CA) (x : Nat) : CA := fun i => cond (Nat.beq i 14) (fun _ => x) (A i)
def CA.s_fo (A : CA) (x : Nat → Nat) : CA := fun i => cond (Nat.beq i 15) x (A i)
def CA.s_se (A : CA) (x : Nat → Nat) : CA := fun i => cond (Nat.beq i 16) x (A i)
def CA.s_st (A : CA) (x : Nat) : CA := fun i => cond (Nat.beq i 17) (fun _ => x) (A i)
def CA.s_dc (A : CA) (x : Nat) : CA := fun i => cond (Nat.beq i 18) (fun _ => x) (A i)
def CA.s_dn (A : CA) (x : Nat → Nat) : CA := fun i => cond (Nat.beq i 19) x (A i)
def CA.s_wc (A : CA) (x : Nat) : CA := fun i => cond (Nat.beq i 20) (fun _ => x) (A i)
def CA.s_rl (A : CA) (x : Nat → Nat) : CA := fun i => cond (Nat.beq i 21) x (A i)
def CA.s_rr (A : CA) (x : Nat → Nat) : CA := fun i => cond (Nat.beq i 22) x (A i)
def CA.s_wg (A : CA) (x : Nat → Nat) : CA := fun i => cond (Nat.beq i 23) x (A i)
def CA.s_sc (A : CA) (x : Nat) : CA := fun i => cond (Nat.beq i 24) (fun _ => x) (A i)
def CA.s_sg (A : CA) (x : Nat → Nat) : CA := fun i => cond (Nat.beq i 25) x (A i)
def CA.s_su (A : CA) (x : Nat → Nat) : CA := fun i => cond (Nat.beq i 26) x (A i)
def CA.s_us (A : CA) (x : Nat → Nat) : CA := fun i => cond (Nat.beq i 27) x (A i)
def CA.s_bc (A : CA) (x : Nat) : CA := fun i => cond (Nat.beq i 28) (fun _ => x) (A i)
def CA.s_tx (A : CA) (x : Nat → Nat) : CA := fun i => cond (Nat.beq i 29) x (A i)
def CA.s_od (A : CA) (x : Nat → Nat) : CA := fun i => cond (Nat.beq i 30) x (A i)
def CA.s_t (A : CA) (x : Nat → Nat) : CA := fun i => cond (Nat.beq i 31) x (A i)
def CA.s_fl (A : CA) (x : Nat) : CA := fun i => cond (Nat.beq i 32) (fun _ => x) (A i)
def CA.s_sl (A : CA) (x : Nat) : CA := fun i => cond (Nat.beq i 33) (fun _ => x) (A i)
def CA.s_P (A : CA) (x : Nat) : CA := fun i => cond (Nat.beq i 34) (fun _ => x) (A i)
def CA.s_Mv (A : CA) (x : Nat) : CA := fun i => cond (Nat.beq i 35) (fun _ => x) (A i)
def RA : Type := Nat → Nat → Nat
def RA.cm (R : RA) : Nat → Nat := R 0
def RA.mn (R : RA) : Nat := R 1 0
def RA.tm (R : RA) : Nat := R 2 0
def RA.dp (R : RA) : Nat := R 3 0
def RA.ki (R : RA) : Nat → Nat := R 4
def RA.fr (R : RA) : Nat → Nat := R 5
def RA.mi (R : RA) : Nat → Nat := R 6
def RA.s (R : RA) : Nat → Nat := R 7
def RA.ot (R : RA) : Nat → Nat := R 8
def RA.dd (R : RA) : Nat := R 9 0
def RA.di (R : RA) : Nat → Nat := R 10
def RA.is (R : RA) : Nat → Nat := R 11
def RA.qu (R : RA) : Nat → Nat := R 12
def RA.fa (R : RA) : Nat → Nat := R 13
def RA.th (R : RA) : Nat := R 14 0
def RA.nw (R : RA) : Nat → Nat := R 15
def RA.tl (R : RA) : Nat := R 16 0
def RA.te (R : RA) : Nat → Nat := R 17
def RA.wc (R : RA) : Nat := R 18 0
def RA.ln (R : RA) : Nat → Nat := R 19
def RA.rr (R : RA) : Nat → Nat := R 20
def RA.sc (R : RA) : Nat := R 21 0
def RA.go (R : RA) : Nat → Nat := R 22
def RA.us (R : RA) : Nat → Nat := R 23
def RA.ud (R : RA) : Nat → Nat := R 24
def RA.sz (R : RA) : Nat := R 25 0
def RA.tx (R : RA) : Nat → Nat := R 26
def RA.t (R : RA) : Nat → Nat := R 27
def RA.P (R : RA) : Nat := R 28 0
def RA.Mv (R : RA) : Nat := R 29 0
def RA.s_cm (R : RA) (x : Nat → Nat) : RA := fun i => cond (Nat.beq i 0) x (R i)
def RA.s_mn (R : RA) (x : Nat) : RA := fun i => cond (Nat.beq i 1) (fun _ => x) (R i)
def RA.s_tm (R : RA) (x : Nat) : RA := fun i => cond (Nat.beq i 2) (fun _ => x) (R i)
def RA.s_dp (R : RA) (x : Nat) : RA := fun i => cond (Nat.beq i 3) (fun _ => x) (R i)
def RA.s_ki (R : RA) (x : Nat → Nat) : RA := fun i => cond (Nat.beq i 4) x (R i)
def RA.s_fr (R : RA) (x : Nat → Nat) : RA := fun i => cond (Nat.beq i 5) x (R i)
def RA.s_mi (R : RA) (x : Nat → Nat) : RA := fun i => cond (Nat.beq i 6) x (R i)
def RA.s_s (R : RA) (x : Nat → Nat) : RA := fun i => cond (Nat.beq i 7) x (R i)
def RA.s_ot (R : RA) (x : Nat → Nat) : RA := fun i => cond (Nat.beq i 8) x (R i)
def RA.s_dd (R : RA) (x : Nat) : RA := fun i => cond (Nat.beq i 9) (fun _ => x) (R i)
def RA.s_di (R : RA) (x : Nat → Nat) : RA := fun i => cond (Nat.beq i 10) x (R i)
def RA.s_is (R : RA) (x : Nat → Nat) : RA := fun i => cond (Nat.beq i 11) x (R i)
def RA.s_qu (R : RA) (x : Nat → Nat) : RA := fun i => cond (Nat.beq i 12) x (R i)
def RA.s_fa (R : RA) (x : Nat → Nat) : RA := fun i => cond (Nat.beq i 13) x (R i)
def RA.s_th (R : RA) (x : Nat) : RA := fun i => cond (Nat.beq i 14) (fun _ => x) (R i)
def RA.s_nw (R : RA) (x : Nat → Nat) : RA := fun i => cond (Nat.beq i 15) x (R i)
def RA.s_tl (R : RA) (x : Nat) : RA := fun i => cond (Nat.beq i 16) (fun _ => x) (R i)
def RA.s_te (R : RA) (x : Nat → Nat) : RA := fun i => cond (Nat.beq i 17) x (R i)
def RA.s_wc (R : RA) (x : Nat) : RA := fun i => cond (Nat.beq i 18) (fun _ => x) (R i)
def RA.s_ln (R : RA) (x : Nat → Nat) : RA := fun i => cond (Nat.beq i 19) x (R i)
def RA.s_rr (R : RA) (x : Nat → Nat) : RA := fun i => cond (Nat.beq i 20) x (R i)
def RA.s_sc (R : RA) (x : Nat) : RA := fun i => cond (Nat.beq i 21) (fun _ => x) (R i)
def RA.s_go (R : RA) (x : Nat → Nat) : RA := fun i => cond (Nat.beq i 22) x (R i)
def RA.s_us (R : RA) (x : Nat → Nat) : RA := fun i => cond (Nat.beq i 23) x (R i)
def RA.s_ud (R : RA) (x : Nat → Nat) : RA := fun i => cond (Nat.beq i 24) x (R i)
def RA.s_sz (R : RA) (x : Nat) : RA := fun i => cond (Nat.beq i 25) (fun _ => x) (R i)
def RA.s_tx (R : RA) (x : Nat → Nat) : RA := fun i => cond (Nat.beq i 26) x (R i)
def RA.s_t (R : RA) (x : Nat → Nat) : RA := fun i => cond (Nat.beq i 27) x (R i)
def RA.s_P (R : RA) (x : Nat) : RA := fun i => cond (Nat.beq i 28) (fun _ => x) (R i)
def RA.s_Mv (R : RA) (x : Nat) : RA := fun i => cond (Nat.beq i 29) (fun _ => x) (R i)
def WW (A : CA) (R : RA) (o : Nat → Int64) : px_W := [
  .inr (.inr (6, [.ref 1, .ref 4, .ref 10, .ref 14, .ref 18, .ref 21, .ref 25, .int (nI A.dc), .int (nI A.st)])),
  .inr (.inr (0, [.int (nI A.P), .int (nI A.Mv), .ref 2, .ref 3])),
  .inl (0, 42, fun q => nI (A.t q)),
  .inl (0, 6, fun q => nI (A.od q)),
  .inr (.inr (1, [.ref 1, .ref 5, .int (nI A.bc), .ref 6, .ref 7, .ref 8, .int (nI A.dp), .ref 9, .int (nI A.rc), .int (nI A.ov), .int (nI A.ps), .int (nI A.pl), .int (nI A.sn)])),
  .inl (0, 100, fun q => nI (A.tx q)),
  .inl (0, 8, fun q => nI (A.kd q)),
  .inl (0, 8, fun q => nI (A.ks q)),
  .inl (0, 8, fun q => nI (A.km q)),
  .inl (0, 400, fun q => nI (A.bu q)),
  .inr (.inr (2, [.ref 1, .ref 11, .ref 12, .ref 13, .int (nI A.wc)])),
  .inl (0, 30, fun q => nI (A.rl q)),
  .inl (0, 1200, fun q => nI (A.rr q)),
  .inl (0, 210, fun q => nI (A.wg q)),
  .inr (.inr (3, [.ref 10, .ref 15, .ref 16, .ref 17, .int (nI A.sc)])),
  .inl (0, 8, fun q => nI (A.sg q)),
  .inl (0, 8, fun q => nI (A.su q)),
  .inl (0, 96, fun q => nI (A.us q)),
  .inr (.inr (4, [.ref 1, .ref 19, .ref 20, .int (nI A.fc)])),
  .inl (0, A.fl, fun q => nI (A.fo q)),
  .inl (0, A.sl, fun q => nI (A.se q)),
  .inr (.inr (5, [.ref 1, .ref 22, .ref 23, .int (nI A.qn), .ref 24])),
  .inl (0, 512, fun q => nI (A.fa q)),
  .inl (0, 512, fun q => nI (A.qu q)),
  .inl (0, 9, fun q => nI (A.pa q)),
  .inl (0, 7, fun q => nI (A.dn q)),
  .inr (.inr (7, [.int (nI R.th), .int (nI R.P), .int (nI R.Mv), .ref 27, .ref 28, .int (nI R.sz), .ref 29, .int (nI R.wc), .ref 30, .ref 31, .int (nI R.mn), .ref 32, .int (nI R.dp), .ref 33, .ref 34, .ref 35, .int (nI R.tm), .int (nI R.sc), .ref 36, .ref 37, .ref 38, .int (nI R.dd), .ref 39, .ref 40, .ref 41, .ref 42, .ref 43, .ref 44, .int (nI R.tl), .ref 45])),
  .inl (0, 42, fun q => nI (R.t q)),
  .inl (0, 7, fun q => nI (R.nw q)),
  .inl (0, 100, fun q => nI (R.tx q)),
  .inl (0, 30, fun q => nI (R.ln q)),
  .inl (0, 1200, fun q => nI (R.rr q)),
  .inl (0, 400, fun q => nI (R.cm q)),
  .inl (0, 8, fun q => nI (R.ki q)),
  .inl (0, 8, fun q => nI (R.fr q)),
  .inl (0, 8, fun q => nI (R.mi q)),
  .inl (0, 8, fun q => nI (R.go q)),
  .inl (0, 8, fun q => nI (R.us q)),
  .inl (0, 96, fun q => nI (R.ud q)),
  .inl (0, 8, fun q => nI (R.di q)),
  .inl (0, 7, fun q => nI (R.s q)),
  .inl (0, 7, fun q => nI (R.ot q)),
  .inl (1, 5040, fun q => nI (R.is q)),
  .inl (0, 5040, fun q => nI (R.qu q)),
  .inl (0, 343, fun q => nI (R.fa q)),
  .inl (0, 8, fun q => nI (R.te q)),
  .inr (.inl (1, o))]
def cw (A : CA) (R : RA) (o : Nat → Int64) : Nat → px_E := fun i => (WW A R o).getD i (.inl (0, 0, fun _ => 0))
theorem wl_of {l : px_W} {e : px_E} : wl l.length (fun i => l.getD i e) = l := by
  apply List.ext_getElem?
  intro j
  by_cases hj : j < l.length
  · rw [wl_get hj, List.getD_eq_getElem?_getD, List.getElem?_eq_getElem hj]
    rfl
  · rw [List.getElem?_eq_none (by rw [wl_len]; omega), List.getElem?_eq_none (by omega)]
theorem W_wl (A : CA) (R : RA) (o : Nat → Int64) : wl 47 (cw A R o) = WW A R o := wl_of (l := WW A R o)
def wp (X : Nat × (Nat → Int32)) (d M : Nat) (c : px_C) (Q : px_Z → Prop) : Prop := ∃ r, px_to X d M c r ∧ Q r
section WZ
variable {X : Nat × (Nat → Int32)} {d M pc p9 k z n : Nat} {lv st : List Value} {w : px_W} {c : Nat → px_E} {Q : px_Z → Prop} {A : CA} {R : RA} {o : Nat → Int64}
theorem wz_ins {I : Instr} {c1 : px_C} (h : px_cd M pc = some I) (hi : px_ins X M I pc lv st w k z = some c1) (kk : wp X d M c1 Q) : wp X d M (pc, lv, st, w, k, z) Q :=
  let ⟨r, h1, h2⟩ := kk
  ⟨r, tz_ins h hi h1, h2⟩
theorem wz_iconst {v : Int} {x : Int32} (h : px_cd M pc = some (.iconst v)) (hp : pc + 1 = p9) (hx : Int32.ofInt v = x) (kk : wp X d M (p9, lv, (.int x :: st), w, k, z) Q) : wp X d M (pc, lv, st, w, k, z) Q := by
  subst hp
  exact wz_ins h (by subst hx; rfl) kk
theorem wz_bipush {v : Int} {x : Int32} (h : px_cd M pc = some (.bipush v)) (hp : pc + 2 = p9) (hx : (Int8.ofInt v).toInt32 = x) (kk : wp X d M (p9, lv, (.int x :: st), w, k, z) Q) : wp X d M (pc, lv, st, w, k, z) Q := by
  subst hp
  exact wz_ins h (by subst hx; rfl) kk
theorem wz_sipush {v : Int} {x : Int32} (h : px_cd M pc = some (.sipush v)) (hp : pc + 3 = p9) (hx : (Int16.ofInt v).toInt32 = x) (kk : wp X d M (p9, lv, (.int x :: st), w, k, z) Q) : wp X d M (pc, lv, st, w, k, z) Q := by
  subst hp
  exact wz_ins h (by subst hx; rfl) kk
theorem wz_ldc_w {j : Nat} {x : Int32} (h : px_cd M pc = some (.ldc_w j)) (hp : pc + 3 = p9) (hx : px_lc M j = some x) (kk : wp X d M (p9, lv, (.int x :: st), w, k, z) Q) : wp X d M (pc, lv, st, w, k, z) Q := by
  subst hp
  exact wz_ins h (by simp only [px_ins, hx]) kk
theorem wz_lconst {j : Fin 2} {x : Int64} (h : px_cd M pc = some (.lconst j)) (hp : pc + 1 = p9) (hx : Int64.ofNat j.val = x) (kk : wp X d M (p9, lv, (.long x :: st), w, k, z) Q) : wp X d M (pc, lv, st, w, k, z) Q := by
  subst hp
  exact wz_ins h (by subst hx; rfl) kk
theorem wz_iload {i : Nat} {x : Int32} (h : px_cd M pc = some (.iload i)) (hp : pc + 2 = p9) (hx : lv[i]? = some (.int x)) (kk : wp X d M (p9, lv, (.int x :: st), w, k, z) Q) : wp X d M (pc, lv, st, w, k, z) Q := by
  subst hp
  exact wz_ins h (by simp only [px_ins, hx]) kk
theorem wz_iload_n {i : Fin 4} {x : Int32} (h : px_cd M pc = some (.iload_n i)) (hp : pc + 1 = p9) (hx : lv[i.val]? = some (.int x)) (kk : wp X d M (p9, lv, (.int x :: st), w, k, z) Q) : wp X d M (pc, lv, st, w, k, z) Q := by
  subst hp
  exact wz_ins h (by simp only [px_ins, hx]) kk
theorem wz_aload {i : Nat} {x : Nat} (h : px_cd M pc = some (.aload i)) (hp : pc + 2 = p9) (hx : lv[i]? = some (.ref x)) (kk : wp X d M (p9, lv, (.ref x :: st), w, k, z) Q) : wp X d M (pc, lv, st, w, k, z) Q := by
  subst hp
  exact wz_ins h (by simp only [px_ins, hx]) kk
theorem wz_aloadS {i : Nat} (h : px_cd M pc = some (.aload i)) (hp : pc + 2 = p9) (hx : lv[i]? = some (.retAddr 1)) (kk : wp X d M (p9, lv, (.retAddr 1 :: st), w, k, z) Q) : wp X d M (pc, lv, st, w, k, z) Q := by
  subst hp
  exact wz_ins h (by simp only [px_ins, hx]) kk
theorem wz_aload_n {i : Fin 4} {x : Nat} (h : px_cd M pc = some (.aload_n i)) (hp : pc + 1 = p9) (hx : lv[i.val]? = some (.ref x)) (kk : wp X d M (p9, lv, (.ref x :: st), w, k, z) Q) : wp X d M (pc, lv, st, w, k, z) Q := by
  subst hp
  exact wz_ins h (by simp only [px_ins, hx]) kk
theorem wz_aload_nS {i : Fin 4} (h : px_cd M pc = some (.aload_n i)) (hp : pc + 1 = p9) (hx : lv[i.val]? = some (.retAddr 1)) (kk : wp X d M (p9, lv, (.retAddr 1 :: st), w, k, z) Q) : wp X d M (pc, lv, st, w, k, z) Q := by
  subst hp
  exact wz_ins h (by simp only [px_ins, hx]) kk
theorem wz_istore {i : Nat} {x : Int32} {l9 : List Value} (h : px_cd M pc = some (.istore i)) (hp : pc + 2 = p9) (hi : Nat.blt i lv.length = true) (hl : lv.set i (.int x) = l9) (kk : wp X d M (p9, l9, st, w, k, z) Q) : wp X d M (pc, lv, (.int x :: st), w, k, z) Q := by
  subst hp
  exact wz_ins h (by subst hl; simp only [px_ins, hi]) kk
theorem wz_istore_n {i : Fin 4} {x : Int32} {l9 : List Value} (h : px_cd M pc = some (.istore_n i)) (hp : pc + 1 = p9) (hi : Nat.blt i.val lv.length = true) (hl : lv.set i.val (.int x) = l9) (kk : wp X d M (p9, l9, st, w, k, z) Q) : wp X d M (pc, lv, (.int x :: st), w, k, z) Q := by
  subst hp
  exact wz_ins h (by subst hl; simp only [px_ins, hi]) kk
theorem wz_astore {i : Nat} {x : Nat} {l9 : List Value} (h : px_cd M pc = some (.astore i)) (hp : pc + 2 = p9) (hi : Nat.blt i lv.length = true) (hl : lv.set i (.ref x) = l9) (kk : wp X d M (p9, l9, st, w, k, z) Q) : wp X d M (pc, lv, (.ref x :: st), w, k, z) Q := by
  subst hp
  exact wz_ins h (by subst hl; simp only [px_ins, hi]) kk
theorem wz_astoreX {i : Nat} {j : Nat} {l9 : List Value} (h : px_cd M pc = some (.astore i)) (hp : pc + 2 = p9) (hi : Nat.blt i lv.length = true) (hl : lv.set i (.retAddr (j + 1)) = l9) (kk : wp X d M (p9, l9, st, w, k, z) Q) : wp X d M (pc, lv, (.retAddr (j + 1) :: st), w, k, z) Q := by
  subst hp
  exact wz_ins h (by subst hl; simp only [px_ins, hi]) kk
theorem wz_astore_n {i : Fin 4} {x : Nat} {l9 : List Value} (h : px_cd M pc = some (.astore_n i)) (hp : pc + 1 = p9) (hi : Nat.blt i.val lv.length = true) (hl : lv.set i.val (.ref x) = l9) (kk : wp X d M (p9, l9, st, w, k, z) Q) : wp X d M (pc, lv, (.ref x :: st), w, k, z) Q := by
  subst hp
  exact wz_ins h (by subst hl; simp only [px_ins, hi]) kk
theorem wz_astore_nX {i : Fin 4} {j : Nat} {l9 : List Value} (h : px_cd M pc = some (.astore_n i)) (hp : pc + 1 = p9) (hi : Nat.blt i.val lv.length = true) (hl : lv.set i.val (.retAddr (j + 1)) = l9) (kk : wp X d M (p9, l9, st, w, k, z) Q) : wp X d M (pc, lv, (.retAddr (j + 1) :: st), w, k, z) Q := by
  subst hp
  exact wz_ins h (by subst hl; simp only [px_ins, hi]) kk
theorem wz_iinc {i : Nat} {j : Int} {x y : Int32} {l9 : List Value} (h : px_cd M pc = some (.iinc i j)) (hp : pc + 3 = p9) (hx : lv[i]? = some (.int x)) (hy : x + Int32.ofInt j = y) (hl : lv.set i (.int y) = l9) (kk : wp X d M (p9, l9, st, w, k, z) Q) : wp X d M (pc, lv, st, w, k, z) Q := by
  subst hp
  exact wz_ins h (by subst hl; subst hy; simp only [px_ins, hx]) kk
theorem wz_iadd {x y v : Int32} (h : px_cd M pc = some (.iadd)) (hp : pc + 1 = p9) (hv : x + y = v) (kk : wp X d M (p9, lv, (.int v :: st), w, k, z) Q) : wp X d M (pc, lv, (.int y :: .int x :: st), w, k, z) Q := by
  subst hp
  exact wz_ins h (by subst hv; rfl) kk
theorem wz_isub {x y v : Int32} (h : px_cd M pc = some (.isub)) (hp : pc + 1 = p9) (hv : x - y = v) (kk : wp X d M (p9, lv, (.int v :: st), w, k, z) Q) : wp X d M (pc, lv, (.int y :: .int x :: st), w, k, z) Q := by
  subst hp
  exact wz_ins h (by subst hv; rfl) kk
theorem wz_imul {x y v : Int32} (h : px_cd M pc = some (.imul)) (hp : pc + 1 = p9) (hv : x * y = v) (kk : wp X d M (p9, lv, (.int v :: st), w, k, z) Q) : wp X d M (pc, lv, (.int y :: .int x :: st), w, k, z) Q := by
  subst hp
  exact wz_ins h (by subst hv; rfl) kk
theorem wz_iand {x y v : Int32} (h : px_cd M pc = some (.iand)) (hp : pc + 1 = p9) (hv : x &&& y = v) (kk : wp X d M (p9, lv, (.int v :: st), w, k, z) Q) : wp X d M (pc, lv, (.int y :: .int x :: st), w, k, z) Q := by
  subst hp
  exact wz_ins h (by subst hv; rfl) kk
theorem wz_ior {x y v : Int32} (h : px_cd M pc = some (.ior)) (hp : pc + 1 = p9) (hv : x ||| y = v) (kk : wp X d M (p9, lv, (.int v :: st), w, k, z) Q) : wp X d M (pc, lv, (.int y :: .int x :: st), w, k, z) Q := by
  subst hp
  exact wz_ins h (by subst hv; rfl) kk
theorem wz_ixor {x y v : Int32} (h : px_cd M pc = some (.ixor)) (hp : pc + 1 = p9) (hv : x ^^^ y = v) (kk : wp X d M (p9, lv, (.int v :: st), w, k, z) Q) : wp X d M (pc, lv, (.int y :: .int x :: st), w, k, z) Q := by
  subst hp
  exact wz_ins h (by subst hv; rfl) kk
theorem wz_ishl {x y v : Int32} (h : px_cd M pc = some (.ishl)) (hp : pc + 1 = p9) (hv : x <<< (y &&& 31) = v) (kk : wp X d M (p9, lv, (.int v :: st), w, k, z) Q) : wp X d M (pc, lv, (.int y :: .int x :: st), w, k, z) Q := by
  subst hp
  exact wz_ins h (by subst hv; rfl) kk
theorem wz_ishr {x y v : Int32} (h : px_cd M pc = some (.ishr)) (hp : pc + 1 = p9) (hv : x >>> (y &&& 31) = v) (kk : wp X d M (p9, lv, (.int v :: st), w, k, z) Q) : wp X d M (pc, lv, (.int y :: .int x :: st), w, k, z) Q := by
  subst hp
  exact wz_ins h (by subst hv; rfl) kk
theorem wz_iushr {x y v : Int32} (h : px_cd M pc = some (.iushr)) (hp : pc + 1 = p9) (hv : (x.toUInt32 >>> (y.toUInt32 &&& Int32.toUInt32 31)).toInt32 = v) (kk : wp X d M (p9, lv, (.int v :: st), w, k, z) Q) : wp X d M (pc, lv, (.int y :: .int x :: st), w, k, z) Q := by
  subst hp
  exact wz_ins h (by subst hv; rfl) kk
theorem wz_idiv {x y v : Int32} (h : px_cd M pc = some (.idiv)) (hp : pc + 1 = p9) (hy : ¬ y = 0) (hv : x / y = v) (kk : wp X d M (p9, lv, (.int v :: st), w, k, z) Q) : wp X d M (pc, lv, (.int y :: .int x :: st), w, k, z) Q := by
  subst hp
  exact wz_ins h (by subst hv; simp only [px_ins, decide_eq_false hy]) kk
theorem wz_irem {x y v : Int32} (h : px_cd M pc = some (.irem)) (hp : pc + 1 = p9) (hy : ¬ y = 0) (hv : x - x / y * y = v) (kk : wp X d M (p9, lv, (.int v :: st), w, k, z) Q) : wp X d M (pc, lv, (.int y :: .int x :: st), w, k, z) Q := by
  subst hp
  exact wz_ins h (by subst hv; simp only [px_ins, decide_eq_false hy]) kk
theorem wz_ineg {x v : Int32} (h : px_cd M pc = some (.ineg)) (hp : pc + 1 = p9) (hv : -x = v) (kk : wp X d M (p9, lv, (.int v :: st), w, k, z) Q) : wp X d M (pc, lv, (.int x :: st), w, k, z) Q := by
  subst hp
  exact wz_ins h (by subst hv; rfl) kk
theorem wz_i2l {x : Int32} (h : px_cd M pc = some (.i2l)) (hp : pc + 1 = p9) (kk : wp X d M (p9, lv, (.long x.toInt64 :: st), w, k, z) Q) : wp X d M (pc, lv, (.int x :: st), w, k, z) Q := by
  subst hp
  exact wz_ins h (rfl) kk
theorem wz_lcmp {x y : Int64} (h : px_cd M pc = some (.lcmp)) (hp : pc + 1 = p9) (kk : wp X d M (p9, lv, (.int (lg_cmp x y) :: st), w, k, z) Q) : wp X d M (pc, lv, (.long y :: .long x :: st), w, k, z) Q := by
  subst hp
  exact wz_ins h (rfl) kk
theorem wz_dupi {x : Int32} (h : px_cd M pc = some (.dup)) (hp : pc + 1 = p9) (kk : wp X d M (p9, lv, (.int x :: .int x :: st), w, k, z) Q) : wp X d M (pc, lv, (.int x :: st), w, k, z) Q := by
  subst hp
  exact wz_ins h (rfl) kk
theorem wz_dupr {x : Nat} (h : px_cd M pc = some (.dup)) (hp : pc + 1 = p9) (kk : wp X d M (p9, lv, (.ref x :: .ref x :: st), w, k, z) Q) : wp X d M (pc, lv, (.ref x :: st), w, k, z) Q := by
  subst hp
  exact wz_ins h (rfl) kk
theorem wz_popi {x : Int32} (h : px_cd M pc = some (.pop)) (hp : pc + 1 = p9) (kk : wp X d M (p9, lv, st, w, k, z) Q) : wp X d M (pc, lv, (.int x :: st), w, k, z) Q := by
  subst hp
  exact wz_ins h (rfl) kk
theorem wz_dup_x1 {y : Int32} {x : Nat} (h : px_cd M pc = some (.dup_x1)) (hp : pc + 1 = p9) (kk : wp X d M (p9, lv, (.int y :: .ref x :: .int y :: st), w, k, z) Q) : wp X d M (pc, lv, (.int y :: .ref x :: st), w, k, z) Q := by
  subst hp
  exact wz_ins h (rfl) kk
theorem wz_dup_x2 {y x : Int32} {u : Nat} (h : px_cd M pc = some (.dup_x2)) (hp : pc + 1 = p9) (kk : wp X d M (p9, lv, (.int y :: .int x :: .ref u :: .int y :: st), w, k, z) Q) : wp X d M (pc, lv, (.int y :: .int x :: .ref u :: st), w, k, z) Q := by
  subst hp
  exact wz_ins h (rfl) kk
theorem wz_dup2 {y : Int32} {x : Nat} (h : px_cd M pc = some (.dup2)) (hp : pc + 1 = p9) (kk : wp X d M (p9, lv, (.int y :: .ref x :: .int y :: .ref x :: st), w, k, z) Q) : wp X d M (pc, lv, (.int y :: .ref x :: st), w, k, z) Q := by
  subst hp
  exact wz_ins h (rfl) kk
theorem wz_goto {q : Int} (h : px_cd M pc = some (.goto q)) (hp : px_tg M pc = p9) (kk : wp X d M (p9, lv, st, w, k, z) Q) : wp X d M (pc, lv, st, w, k, z) Q := by
  subst hp
  exact wz_ins h rfl kk
theorem wz_ifeq {q : Int} {x : Int32} {t9 : Nat} (h : px_cd M pc = some (.ifCond .eq q)) (ht : px_tg M pc = t9) (hp : pc + 3 = p9) (kt : x = 0 → wp X d M (t9, lv, st, w, k, z) Q) (kf : ¬ x = 0 → wp X d M (p9, lv, st, w, k, z) Q) : wp X d M (pc, lv, (.int x :: st), w, k, z) Q := by
  subst ht; subst hp
  by_cases hq : x = 0
  · exact wz_ins h (by simp only [px_ins, px_if, decide_eq_true hq]) (kt hq)
  · exact wz_ins h (by simp only [px_ins, px_if, decide_eq_false hq]) (kf (hq))
theorem wz_ifne {q : Int} {x : Int32} {t9 : Nat} (h : px_cd M pc = some (.ifCond .ne q)) (ht : px_tg M pc = t9) (hp : pc + 3 = p9) (kt : ¬ x = 0 → wp X d M (t9, lv, st, w, k, z) Q) (kf : x = 0 → wp X d M (p9, lv, st, w, k, z) Q) : wp X d M (pc, lv, (.int x :: st), w, k, z) Q := by
  subst ht; subst hp
  by_cases hq : ¬ x = 0
  · exact wz_ins h (by simp only [px_ins, px_if, decide_eq_true hq]) (kt hq)
  · exact wz_ins h (by simp only [px_ins, px_if, decide_eq_false hq]) (kf (Decidable.not_not.mp hq))
theorem wz_iflt {q : Int} {x : Int32} {t9 : Nat} (h : px_cd M pc = some (.ifCond .lt q)) (ht : px_tg M pc = t9) (hp : pc + 3 = p9) (kt : x < 0 → wp X d M (t9, lv, st, w, k, z) Q) (kf : ¬ x < 0 → wp X d M (p9, lv, st, w, k, z) Q) : wp X d M (pc, lv, (.int x :: st), w, k, z) Q := by
  subst ht; subst hp
  by_cases hq : x < 0
  · exact wz_ins h (by simp only [px_ins, px_if, decide_eq_true hq]) (kt hq)
  · exact wz_ins h (by simp only [px_ins, px_if, decide_eq_false hq]) (kf (hq))
theorem wz_ifge {q : Int} {x : Int32} {t9 : Nat} (h : px_cd M pc = some (.ifCond .ge q)) (ht : px_tg M pc = t9) (hp : pc + 3 = p9) (kt : 0 ≤ x → wp X d M (t9, lv, st, w, k, z) Q) (kf : ¬ 0 ≤ x → wp X d M (p9, lv, st, w, k, z) Q) : wp X d M (pc, lv, (.int x :: st), w, k, z) Q := by
  subst ht; subst hp
  by_cases hq : 0 ≤ x
  · exact wz_ins h (by simp only [px_ins, px_if, decide_eq_true hq]) (kt hq)
  · exact wz_ins h (by simp only [px_ins, px_if, decide_eq_false hq]) (kf (hq))
theorem wz_ifgt {q : Int} {x : Int32} {t9 : Nat} (h : px_cd M pc = some (.ifCond .gt q)) (ht : px_tg M pc = t9) (hp : pc + 3 = p9) (kt : 0 < x → wp X d M (t9, lv, st, w, k, z) Q) (kf : ¬ 0 < x → wp X d M (p9, lv, st, w, k, z) Q) : wp X d M (pc, lv, (.int x :: st), w, k, z) Q := by
  subst ht; subst hp
  by_cases hq : 0 < x
  · exact wz_ins h (by simp only [px_ins, px_if, decide_eq_true hq]) (kt hq)
  · exact wz_ins h (by simp only [px_ins, px_if, decide_eq_false hq]) (kf (hq))
theorem wz_ifle {q : Int} {x : Int32} {t9 : Nat} (h : px_cd M pc = some (.ifCond .le q)) (ht : px_tg M pc = t9) (hp : pc + 3 = p9) (kt : x ≤ 0 → wp X d M (t9, lv, st, w, k, z) Q) (kf : ¬ x ≤ 0 → wp X d M (p9, lv, st, w, k, z) Q) : wp X d M (pc, lv, (.int x :: st), w, k, z) Q := by
  subst ht; subst hp
  by_cases hq : x ≤ 0
  · exact wz_ins h (by simp only [px_ins, px_if, decide_eq_true hq]) (kt hq)
  · exact wz_ins h (by simp only [px_ins, px_if, decide_eq_false hq]) (kf (hq))
theorem wz_iceq {q : Int} {x y : Int32} {t9 : Nat} (h : px_cd M pc = some (.if_icmp .eq q)) (ht : px_tg M pc = t9) (hp : pc + 3 = p9) (kt : x = y → wp X d M (t9, lv, st, w, k, z) Q) (kf : ¬ x = y → wp X d M (p9, lv, st, w, k, z) Q) : wp X d M (pc, lv, (.int y :: .int x :: st), w, k, z) Q := by
  subst ht; subst hp
  by_cases hq : x = y
  · exact wz_ins h (by simp only [px_ins, px_ic, decide_eq_true hq]) (kt hq)
  · exact wz_ins h (by simp only [px_ins, px_ic, decide_eq_false hq]) (kf (hq))
theorem wz_icne {q : Int} {x y : Int32} {t9 : Nat} (h : px_cd M pc = some (.if_icmp .ne q)) (ht : px_tg M pc = t9) (hp : pc + 3 = p9) (kt : ¬ x = y → wp X d M (t9, lv, st, w, k, z) Q) (kf : x = y → wp X d M (p9, lv, st, w, k, z) Q) : wp X d M (pc, lv, (.int y :: .int x :: st), w, k, z) Q := by
  subst ht; subst hp
  by_cases hq : ¬ x = y
  · exact wz_ins h (by simp only [px_ins, px_ic, decide_eq_true hq]) (kt hq)
  · exact wz_ins h (by simp only [px_ins, px_ic, decide_eq_false hq]) (kf (Decidable.not_not.mp hq))
theorem wz_iclt {q : Int} {x y : Int32} {t9 : Nat} (h : px_cd M pc = some (.if_icmp .lt q)) (ht : px_tg M pc = t9) (hp : pc + 3 = p9) (kt : x < y → wp X d M (t9, lv, st, w, k, z) Q) (kf : ¬ x < y → wp X d M (p9, lv, st, w, k, z) Q) : wp X d M (pc, lv, (.int y :: .int x :: st), w, k, z) Q := by
  subst ht; subst hp
  by_cases hq : x < y
  · exact wz_ins h (by simp only [px_ins, px_ic, decide_eq_true hq]) (kt hq)
  · exact wz_ins h (by simp only [px_ins, px_ic, decide_eq_false hq]) (kf (hq))
theorem wz_icge {q : Int} {x y : Int32} {t9 : Nat} (h : px_cd M pc = some (.if_icmp .ge q)) (ht : px_tg M pc = t9) (hp : pc + 3 = p9) (kt : y ≤ x → wp X d M (t9, lv, st, w, k, z) Q) (kf : ¬ y ≤ x → wp X d M (p9, lv, st, w, k, z) Q) : wp X d M (pc, lv, (.int y :: .int x :: st), w, k, z) Q := by
  subst ht; subst hp
  by_cases hq : y ≤ x
  · exact wz_ins h (by simp only [px_ins, px_ic, decide_eq_true hq]) (kt hq)
  · exact wz_ins h (by simp only [px_ins, px_ic, decide_eq_false hq]) (kf (hq))
theorem wz_icgt {q : Int} {x y : Int32} {t9 : Nat} (h : px_cd M pc = some (.if_icmp .gt q)) (ht : px_tg M pc = t9) (hp : pc + 3 = p9) (kt : y < x → wp X d M (t9, lv, st, w, k, z) Q) (kf : ¬ y < x → wp X d M (p9, lv, st, w, k, z) Q) : wp X d M (pc, lv, (.int y :: .int x :: st), w, k, z) Q := by
  subst ht; subst hp
  by_cases hq : y < x
  · exact wz_ins h (by simp only [px_ins, px_ic, decide_eq_true hq]) (kt hq)
  · exact wz_ins h (by simp only [px_ins, px_ic, decide_eq_false hq]) (kf (hq))
theorem wz_icle {q : Int} {x y : Int32} {t9 : Nat} (h : px_cd M pc = some (.if_icmp .le q)) (ht : px_tg M pc = t9) (hp : pc + 3 = p9) (kt : x ≤ y → wp X d M (t9, lv, st, w, k, z) Q) (kf : ¬ x ≤ y → wp X d M (p9, lv, st, w, k, z) Q) : wp X d M (pc, lv, (.int y :: .int x :: st), w, k, z) Q := by
  subst ht; subst hp
  by_cases hq : x ≤ y
  · exact wz_ins h (by simp only [px_ins, px_ic, decide_eq_true hq]) (kt hq)
  · exact wz_ins h (by simp only [px_ins, px_ic, decide_eq_false hq]) (kf (hq))
theorem wz_slen {v : Int32} (h : px_cd M pc = some (.arraylength)) (hp : pc + 1 = p9) (hv : Int32.ofNat X.1 = v) (kk : wp X d M (p9, lv, (.int v :: st), w, k, z) Q) : wp X d M (pc, lv, (.retAddr 1 :: st), w, k, z) Q := by
  subst hp
  exact wz_ins h (by subst hv; rfl) kk
theorem wz_sald {i v : Int32} (h : px_cd M pc = some (.iaload)) (hp : pc + 1 = p9) (hi : px_in i X.1 = true) (hv : X.2 i.toNatClampNeg = v) (kk : wp X d M (p9, lv, (.int v :: st), w, k, z) Q) : wp X d M (pc, lv, (.int i :: .retAddr 1 :: st), w, k, z) Q := by
  subst hp
  exact wz_ins h (by subst hv; simp only [px_ins, hi]) kk
theorem wz_oinit {j a : Nat} (h : px_cd M pc = some (.invokespecial j)) (hp : pc + 3 = p9) (ho : px_oi M j = true) (hw : Nat.ble (px_w st) 8 = true) (kk : wp X d M (p9, lv, st, w, k, z) Q) : wp X d M (pc, lv, (.ref a :: st), w, k, z) Q := by
  subst hp
  exact wz_ins h (by simp only [px_ins, ho, hw]) kk
theorem wz_max {j : Nat} {x y v : Int32} (h : px_cd M pc = some (.invokestatic j)) (hp : pc + 3 = p9) (ho : px_ik M j = some 0) (hw : Nat.ble (px_w st) 8 = true) (hv : (if x < y then y else x) = v) (kk : wp X d M (p9, lv, (.int v :: st), w, k, z) Q) : wp X d M (pc, lv, (.int y :: .int x :: st), w, k, z) Q := by
  subst hp
  exact wz_ins h (by subst hv; simp only [px_ins, ho, hw]) kk
theorem wz_min {j : Nat} {x y v : Int32} (h : px_cd M pc = some (.invokestatic j)) (hp : pc + 3 = p9) (ho : px_ik M j = some 1) (hw : Nat.ble (px_w st) 8 = true) (hv : (if y < x then y else x) = v) (kk : wp X d M (p9, lv, (.int v :: st), w, k, z) Q) : wp X d M (pc, lv, (.int y :: .int x :: st), w, k, z) Q := by
  subst hp
  exact wz_ins h (by subst hv; simp only [px_ins, ho, hw]) kk
theorem wz_tsw {q lo hi : Int} {offs : Array Int} {x : Int32} {t9 : Nat} (h : px_cd M pc = some (.tableswitch q lo hi offs)) (ht : px_ts M pc lo hi x = t9) (kk : wp X d M (t9, lv, st, w, k, z) Q) : wp X d M (pc, lv, .int x :: st, w, k, z) Q := by
  subst ht
  exact wz_ins h rfl kk
theorem wz_lsw {q : Int} {ps : Array (Int × Int)} {x : Int32} {t9 : Nat} (h : px_cd M pc = some (.lookupswitch q ps)) (ht : px_ls x = t9) (kk : wp X d M (t9, lv, st, w, k, z) Q) : wp X d M (pc, lv, .int x :: st, w, k, z) Q := by
  subst ht
  exact wz_ins h rfl kk
theorem wz_alen {a m : Nat} {t : Nat} {f : Nat → Int32} {v : Int32} (h : px_cd M pc = some (.arraylength)) (hp : pc + 1 = p9) (hw : w[a]? = some (.inl (0, m, f))) (hv : Int32.ofNat m = v) (kk : wp X d M (p9, lv, (.int v :: st), w, k, z) Q) : wp X d M (pc, lv, (.ref a :: st), w, k, z) Q := by
  subst hp
  exact wz_ins h (by subst hv; simp only [px_ins, hw]) kk
theorem wz_get {a j ci f : Nat} {fs : List Value} {v : Value} (h : px_cd M pc = some (.getfield j)) (hp : pc + 3 = p9) (hf : px_fl M j = some (ci, f)) (hw : w[a]? = some (.inr (.inr (ci, fs)))) (hv : fs[f]? = some v) (kk : wp X d M (p9, lv, (v :: st), w, k, z) Q) : wp X d M (pc, lv, (.ref a :: st), w, k, z) Q := by
  subst hp
  exact wz_ins h (by simp only [px_ins, hf, hw, Nat.beq_refl, hv]) kk
theorem wz_put {a j ci f : Nat} {fs : List Value} {v : Value} {w1 : px_W} (h : px_cd M pc = some (.putfield j)) (hp : pc + 3 = p9) (hf : px_fl M j = some (ci, f)) (hw : w[a]? = some (.inr (.inr (ci, fs)))) (hl : Nat.blt f fs.length = true) (hv : px_fit (px_ty ci f) v = true) (hp2 : px_pf M ci f = true) (hg : w.set a (.inr (.inr (ci, fs.set f v))) = w1) (kk : wp X d M (p9, lv, st, w1, k, z) Q) : wp X d M (pc, lv, (v :: .ref a :: st), w, k, z) Q := by
  subst hp
  exact wz_ins h (by subst hg; simp only [px_ins, hf, hw, Nat.beq_refl, hl, hv, hp2, Bool.and_self]) kk
theorem wz_iald {a m : Nat} {f : Nat → Int32} {i v : Int32} (h : px_cd M pc = some (.iaload)) (hp : pc + 1 = p9) (hw : w[a]? = some (.inl (0, m, f))) (hi : px_in i m = true) (hv : f i.toNatClampNeg = v) (kk : wp X d M (p9, lv, (.int v :: st), w, k, z) Q) : wp X d M (pc, lv, (.int i :: .ref a :: st), w, k, z) Q := by
  subst hp
  exact wz_ins h (by subst hv; simp only [px_ins, hw, hi]) kk
theorem wz_bald {a m : Nat} {f : Nat → Int32} {i v : Int32} (h : px_cd M pc = some (.baload)) (hp : pc + 1 = p9) (hw : w[a]? = some (.inl (1, m, f))) (hi : px_in i m = true) (hv : f i.toNatClampNeg = v) (kk : wp X d M (p9, lv, (.int v :: st), w, k, z) Q) : wp X d M (pc, lv, (.int i :: .ref a :: st), w, k, z) Q := by
  subst hp
  exact wz_ins h (by subst hv; simp only [px_ins, hw, hi]) kk
theorem wz_lald {a m : Nat} {f : Nat → Int64} {i : Int32} {v : Int64} (h : px_cd M pc = some (.laload)) (hp : pc + 1 = p9) (hw : w[a]? = some (.inr (.inl (m, f)))) (hi : px_in i m = true) (hv : f i.toNatClampNeg = v) (kk : wp X d M (p9, lv, (.long v :: st), w, k, z) Q) : wp X d M (pc, lv, (.int i :: .ref a :: st), w, k, z) Q := by
  subst hp
  exact wz_ins h (by subst hv; simp only [px_ins, hw, hi]) kk
theorem wz_iast {a m : Nat} {f : Nat → Int32} {i x : Int32} {w1 : px_W} (h : px_cd M pc = some (.iastore)) (hp : pc + 1 = p9) (hw : w[a]? = some (.inl (0, m, f))) (hi : px_in i m = true) (hg : w.set a (.inl (0, m, upd f i.toNatClampNeg x)) = w1) (kk : wp X d M (p9, lv, st, w1, k, z) Q) : wp X d M (pc, lv, (.int x :: .int i :: .ref a :: st), w, k, z) Q := by
  subst hp
  exact wz_ins h (by subst hg; simp only [px_ins, hw, hi]) kk
theorem wz_bast {a m : Nat} {f : Nat → Int32} {i x : Int32} {w1 : px_W} (h : px_cd M pc = some (.bastore)) (hp : pc + 1 = p9) (hw : w[a]? = some (.inl (1, m, f))) (hi : px_in i m = true) (hg : w.set a (.inl (1, m, upd f i.toNatClampNeg (x &&& 1))) = w1) (kk : wp X d M (p9, lv, st, w1, k, z) Q) : wp X d M (pc, lv, (.int x :: .int i :: .ref a :: st), w, k, z) Q := by
  subst hp
  exact wz_ins h (by subst hg; simp only [px_ins, hw, hi]) kk
theorem wz_last {a m : Nat} {f : Nat → Int64} {i : Int32} {x : Int64} {w1 : px_W} (h : px_cd M pc = some (.lastore)) (hp : pc + 1 = p9) (hw : w[a]? = some (.inr (.inl (m, f)))) (hi : px_in i m = true) (hg : w.set a (.inr (.inl (m, vp_updL f i.toNatClampNeg x))) = w1) (kk : wp X d M (p9, lv, st, w1, k, z) Q) : wp X d M (pc, lv, (.long x :: .int i :: .ref a :: st), w, k, z) Q := by
  subst hp
  exact wz_ins h (by subst hg; simp only [px_ins, hw, hi]) kk
theorem wz_new {j ci m : Nat} {fs : List Value} (h : px_cd M pc = some (.new j)) (hp : pc + 3 = p9) (hn : px_nw M j = some ci) (hd : px_df ci = fs) (hm : px_sz ci = m) (hl : w.length = n) (kk : wp X d M (p9, lv, (.ref n :: st), w ++ [.inr (.inr (ci, fs))], (k + 1), (z + m)) Q) : wp X d M (pc, lv, st, w, k, z) Q := by
  subst hp
  exact wz_ins h (by subst hm; subst hd; subst hl; simp only [px_ins, hn]) kk
theorem wz_newa {x : Nat} (h : px_cd M pc = some (.newarray .int)) (hp : pc + 2 = p9) (hx : x < 60000000) (hl : w.length = n) (kk : wp X d M (p9, lv, (.ref n :: st), w ++ [.inl (0, x, fun _ => nI 0)], (k + 1), (z + x)) Q) : wp X d M (pc, lv, (.int (nI x) :: st), w, k, z) Q := by
  subst hp
  exact wz_ins h (by subst hl; simp only [px_ins, q_in hx (show 60000000 ≤ 2147483648 by decide), q_c (show x < 2147483648 by omega)]; rfl) kk
theorem wz_newz {x : Nat} (h : px_cd M pc = some (.newarray .boolean)) (hp : pc + 2 = p9) (hx : x < 60000000) (hl : w.length = n) (kk : wp X d M (p9, lv, (.ref n :: st), w ++ [.inl (1, x, fun _ => nI 0)], (k + 1), (z + x)) Q) : wp X d M (pc, lv, (.int (nI x) :: st), w, k, z) Q := by
  subst hp
  exact wz_ins h (by subst hl; simp only [px_ins, q_in hx (show 60000000 ≤ 2147483648 by decide), q_c (show x < 2147483648 by omega)]; rfl) kk
theorem wz_newj {x : Nat} (h : px_cd M pc = some (.newarray .long)) (hp : pc + 2 = p9) (hx : x < 60000000) (hl : w.length = n) (kk : wp X d M (p9, lv, (.ref n :: st), w ++ [.inr (.inl (x, fun _ => 0))], (k + 1), (z + x)) Q) : wp X d M (pc, lv, (.int (nI x) :: st), w, k, z) Q := by
  subst hp
  exact wz_ins h (by subst hl; simp only [px_ins, q_in hx (show 60000000 ≤ 2147483648 by decide), q_c (show x < 2147483648 by omega)]) kk
theorem wz_c1 {N : Nat} {a rest : List Value} {u : Value} {w1 : px_W} (h : px_cal M pc st w = some (N, a, rest)) (hp : pc + 3 = p9) (hc : px_ev X d N a w (some (some u), w1, 0, 0)) (kk : wp X d M (p9, lv, u :: rest, w1, k, z) Q) : wp X d M (pc, lv, st, w, k, z) Q :=
  let ⟨r, h1, h2⟩ := kk
  ⟨r, tz_c1 h hp hc h1, h2⟩
theorem wz_c0 {N : Nat} {a rest : List Value} {w1 : px_W} (h : px_cal M pc st w = some (N, a, rest)) (hp : pc + 3 = p9) (hc : px_ev X d N a w (some none, w1, 0, 0)) (kk : wp X d M (p9, lv, rest, w1, k, z) Q) : wp X d M (pc, lv, st, w, k, z) Q :=
  let ⟨r, h1, h2⟩ := kk
  ⟨r, tz_c0 h hp hc h1, h2⟩
theorem wz_ck {N : Nat} {a rest : List Value} {w1 : px_W} {k1 z1 : Nat} (h : px_cal M pc st w = some (N, a, rest)) (hp : pc + 3 = p9) (hc : px_ev X d N a w (some none, w1, k1, z1)) (kk : wp X d M (p9, lv, rest, w1, k + k1, z + z1) Q) : wp X d M (pc, lv, st, w, k, z) Q := by
  subst hp
  obtain ⟨r, h1, h2⟩ := kk
  exact ⟨r, px_toC h hc h1, h2⟩
theorem wz_cx {N : Nat} {a rest : List Value} {w1 : px_W} {k1 z1 : Nat} (h : px_cal M pc st w = some (N, a, rest)) (h2 : px_kd N < 2) (hc : px_ev X d N a w (none, w1, k1, z1)) (hh : px_hd M pc = none) (hq : Q (none, w1, k + k1, z + z1)) : wp X d M (pc, lv, st, w, k, z) Q := ⟨_, px_toX h h2 hc hh, hq⟩
theorem wz_ch {N t9 : Nat} {a rest : List Value} {w1 : px_W} {k1 z1 : Nat} (h : px_cal M pc st w = some (N, a, rest)) (h2 : px_kd N < 2) (hc : px_ev X d N a w (none, w1, k1, z1)) (hh : px_hd M pc = some t9) (kk : wp X d M (t9, lv, [.retAddr 2], w1, k + k1, z + z1) Q) : wp X d M (pc, lv, st, w, k, z) Q := by
  obtain ⟨r, h3, h4⟩ := kk
  exact ⟨r, px_toH h h2 hc hh h3, h4⟩
theorem wz_reti {v : Int32} (h : px_cd M pc = some .ireturn) (hr : px_rt M = some .int) (hq : Q (some (some (.int v)), w, k, z)) : wp X d M (pc, lv, [.int v], w, k, z) Q := ⟨_, tz_reti h hr, hq⟩
theorem wz_retz {v : Int32} (h : px_cd M pc = some .ireturn) (hr : px_rt M = some .boolean) (hv : v = 0 ∨ v = 1) (hq : Q (some (some (.int v)), w, k, z)) : wp X d M (pc, lv, [.int v], w, k, z) Q := ⟨_, tz_retz h hr hv, hq⟩
theorem wz_reta {a : Nat} {ty : FieldType} (h : px_cd M pc = some .areturn) (hr : px_rt M = some (.array ty)) (hq : Q (some (some (.ref a)), w, k, z)) : wp X d M (pc, lv, [.ref a], w, k, z) Q := ⟨_, tz_reta h hr, hq⟩
theorem wz_retv (h : px_cd M pc = some .return_) (hr : px_rt M = none) (hq : Q (some none, w, k, z)) : wp X d M (pc, lv, [], w, k, z) Q := ⟨_, tz_retv h hr, hq⟩
theorem wp_ev {N : Nat} {a : List Value} {r : px_Z} (hN : N < 173) (ha : a.length = px_ar N) (hw : px_w a = px_ar N) (hr : r.1 = none → px_kd N < 2) (h : wp X d N (0, px_loc N a, [], w, 0, 0) (fun q => q = r)) : px_ev X (d + 1) N a w r := by
  obtain ⟨q, h1, rfl⟩ := h
  exact px_ev.of hN ha hw hr h1
theorem wp_ex {α : Type} {N : Nat} {a : List Value} {f : α → px_Z} {T : α → Prop} (hN : N < 173) (ha : a.length = px_ar N) (hw : px_w a = px_ar N) (hr : ∀ x, (f x).1 = none → px_kd N < 2) (h : wp X d N (0, px_loc N a, [], w, 0, 0) (fun q => ∃ x, q = f x ∧ T x)) : ∃ x, px_ev X (d + 1) N a w (f x) ∧ T x := by
  obtain ⟨q, h1, x, rfl, h2⟩ := h
  exact ⟨x, px_ev.of hN ha hw (hr x) h1, h2⟩
theorem wp_of {M : Nat} {cf : px_C} {r : px_Z} (h : wp X d M cf (fun q => q = r)) : px_to X d M cf r := by
  obtain ⟨q, h1, rfl⟩ := h
  exact h1
theorem wn_add {a b : Nat} (h : px_cd M pc = some .iadd) (hp : pc + 1 = p9) (kk : wp X d M (p9, lv, .int (nI (a + b)) :: st, w, k, z) Q) : wp X d M (pc, lv, .int (nI b) :: .int (nI a) :: st, w, k, z) Q := wz_iadd h hp (nI_add a b) kk
theorem wn_sub {a b : Nat} (h : px_cd M pc = some .isub) (hp : pc + 1 = p9) (hs : b ≤ a) (kk : wp X d M (p9, lv, .int (nI (a - b)) :: st, w, k, z) Q) : wp X d M (pc, lv, .int (nI b) :: .int (nI a) :: st, w, k, z) Q := wz_isub h hp (q_sub hs) kk
theorem wn_mul {a b : Nat} (h : px_cd M pc = some .imul) (hp : pc + 1 = p9) (kk : wp X d M (p9, lv, .int (nI (a * b)) :: st, w, k, z) Q) : wp X d M (pc, lv, .int (nI b) :: .int (nI a) :: st, w, k, z) Q := wz_imul h hp (q_mul a b) kk
theorem wn_and {a b : Nat} (h : px_cd M pc = some .iand) (hp : pc + 1 = p9) (kk : wp X d M (p9, lv, .int (nI (a &&& b)) :: st, w, k, z) Q) : wp X d M (pc, lv, .int (nI b) :: .int (nI a) :: st, w, k, z) Q := wz_iand h hp (q_and a b) kk
theorem wn_or {a b : Nat} (h : px_cd M pc = some .ior) (hp : pc + 1 = p9) (kk : wp X d M (p9, lv, .int (nI (a ||| b)) :: st, w, k, z) Q) : wp X d M (pc, lv, .int (nI b) :: .int (nI a) :: st, w, k, z) Q := wz_ior h hp (q_or a b) kk
theorem wn_xor {a b : Nat} (h : px_cd M pc = some .ixor) (hp : pc + 1 = p9) (kk : wp X d M (p9, lv, .int (nI (a ^^^ b)) :: st, w, k, z) Q) : wp X d M (pc, lv, .int (nI b) :: .int (nI a) :: st, w, k, z) Q := wz_ixor h hp (q_xor a b) kk
theorem wn_shl {a b : Nat} (h : px_cd M pc = some .ishl) (hp : pc + 1 = p9) (hb : b < 32) (kk : wp X d M (p9, lv, .int (nI (a * 2 ^ b)) :: st, w, k, z) Q) : wp X d M (pc, lv, .int (nI b) :: .int (nI a) :: st, w, k, z) Q := wz_ishl h hp (q_shl a hb) kk
theorem wn_shr {a b : Nat} (h : px_cd M pc = some .ishr) (hp : pc + 1 = p9) (ha : a < 2147483648) (hb : b < 32) (kk : wp X d M (p9, lv, .int (nI (a / 2 ^ b)) :: st, w, k, z) Q) : wp X d M (pc, lv, .int (nI b) :: .int (nI a) :: st, w, k, z) Q := wz_ishr h hp (q_shr ha hb) kk
theorem wn_div {a b : Nat} (h : px_cd M pc = some .idiv) (hp : pc + 1 = p9) (ha : a < 2147483648) (h0 : 0 < b) (hb : b < 2147483648) (kk : wp X d M (p9, lv, .int (nI (a / b)) :: st, w, k, z) Q) : wp X d M (pc, lv, .int (nI b) :: .int (nI a) :: st, w, k, z) Q := wz_idiv h hp (nI_ne0 h0 (by omega)) (pk_div (by omega) h0 (by omega)) kk
theorem wn_rem {a b : Nat} (h : px_cd M pc = some .irem) (hp : pc + 1 = p9) (ha : a < 2147483648) (h0 : 0 < b) (hb : b < 2147483648) (kk : wp X d M (p9, lv, .int (nI (a % b)) :: st, w, k, z) Q) : wp X d M (pc, lv, .int (nI b) :: .int (nI a) :: st, w, k, z) Q := wz_irem h hp (nI_ne0 h0 (by omega)) (pk_rem (by omega) h0 (by omega)) kk
theorem wn_and1 {a : Nat} (h : px_cd M pc = some .iand) (hp : pc + 1 = p9) (kk : wp X d M (p9, lv, .int (nI (a % 2)) :: st, w, k, z) Q) : wp X d M (pc, lv, .int (nI 1) :: .int (nI a) :: st, w, k, z) Q := wz_iand h hp (q_1 a) kk
theorem wn_and7 {a : Nat} (h : px_cd M pc = some .iand) (hp : pc + 1 = p9) (kk : wp X d M (p9, lv, .int (nI (a % 8)) :: st, w, k, z) Q) : wp X d M (pc, lv, .int (nI 7) :: .int (nI a) :: st, w, k, z) Q := wz_iand h hp (q_7 a) kk
theorem wn_and15 {a : Nat} (h : px_cd M pc = some .iand) (hp : pc + 1 = p9) (kk : wp X d M (p9, lv, .int (nI (a % 16)) :: st, w, k, z) Q) : wp X d M (pc, lv, .int (nI 15) :: .int (nI a) :: st, w, k, z) Q := wz_iand h hp (q_15 a) kk
theorem wn_and31 {a : Nat} (h : px_cd M pc = some .iand) (hp : pc + 1 = p9) (kk : wp X d M (p9, lv, .int (nI (a % 32)) :: st, w, k, z) Q) : wp X d M (pc, lv, .int (nI 31) :: .int (nI a) :: st, w, k, z) Q := wz_iand h hp (q_31 a) kk
theorem q_or16 {m t : Nat} (h : t < 16) : m * 16 ||| t = m * 16 + t := by
  have := Nat.shiftLeft_add_eq_or_of_lt (show t < 2 ^ 4 from h) m
  rw [Nat.shiftLeft_eq] at this
  exact this.symm
theorem wn_or16 {a b : Nat} (h : px_cd M pc = some .ior) (hp : pc + 1 = p9) (hb : b < 16) (kk : wp X d M (p9, lv, .int (nI (a * 16 + b)) :: st, w, k, z) Q) : wp X d M (pc, lv, .int (nI b) :: .int (nI (a * 16)) :: st, w, k, z) Q := wz_ior h hp (by rw [q_or, q_or16 hb]) kk
theorem wn_shl4 {a : Nat} (h : px_cd M pc = some .ishl) (hp : pc + 1 = p9) (kk : wp X d M (p9, lv, .int (nI (a * 16)) :: st, w, k, z) Q) : wp X d M (pc, lv, .int (nI 4) :: .int (nI a) :: st, w, k, z) Q := wz_ishl h hp (q_shl a (k := 4) (by decide)) kk
theorem wn_shr4 {a : Nat} (h : px_cd M pc = some .ishr) (hp : pc + 1 = p9) (ha : a < 2147483648) (kk : wp X d M (p9, lv, .int (nI (a / 16)) :: st, w, k, z) Q) : wp X d M (pc, lv, .int (nI 4) :: .int (nI a) :: st, w, k, z) Q := wz_ishr h hp (q_shr (k := 4) ha (by decide)) kk
theorem wn_shr5 {a : Nat} (h : px_cd M pc = some .ishr) (hp : pc + 1 = p9) (ha : a < 2147483648) (kk : wp X d M (p9, lv, .int (nI (a / 32)) :: st, w, k, z) Q) : wp X d M (pc, lv, .int (nI 5) :: .int (nI a) :: st, w, k, z) Q := wz_ishr h hp (q_shr (k := 5) ha (by decide)) kk
theorem wn_inc {i a b : Nat} {j : Int} {l9 : List Value} (h : px_cd M pc = some (.iinc i j)) (hp : pc + 3 = p9) (hx : lv[i]? = some (.int (nI a))) (hj : Int32.ofInt j = nI b) (hl : lv.set i (.int (nI (a + b))) = l9) (kk : wp X d M (p9, l9, st, w, k, z) Q) : wp X d M (pc, lv, st, w, k, z) Q :=
  wz_iinc h hp hx (by rw [hj]; exact nI_add a b) hl kk
theorem wn_dec {i a : Nat} {l9 : List Value} (h : px_cd M pc = some (.iinc i (-1))) (hp : pc + 3 = p9) (hx : lv[i]? = some (.int (nI a))) (h0 : 0 < a) (hl : lv.set i (.int (nI (a - 1))) = l9) (kk : wp X d M (p9, l9, st, w, k, z) Q) : wp X d M (pc, lv, st, w, k, z) Q :=
  wz_iinc h hp hx (by
    obtain ⟨b, rfl⟩ : ∃ b, a = b + 1 := ⟨a - 1, by omega⟩
    exact pk_m1 b) hl kk
theorem wn_iceq {q9 : Int} {a b t9 : Nat} (h : px_cd M pc = some (.if_icmp .eq q9)) (ht : px_tg M pc = t9) (hp : pc + 3 = p9) (ha : a < 2147483648) (hb : b < 2147483648) (kt : a = b → wp X d M (t9, lv, st, w, k, z) Q) (kf : a ≠ b → wp X d M (p9, lv, st, w, k, z) Q) : wp X d M (pc, lv, .int (nI b) :: .int (nI a) :: st, w, k, z) Q := wz_iceq h ht hp (fun q => kt ((nI_eq (by omega) (by omega)).mp q)) (fun q => kf (fun q2 => q ((nI_eq (by omega) (by omega)).mpr q2)))
theorem wn_ifeq {q9 : Int} {a t9 : Nat} (h : px_cd M pc = some (.ifCond .eq q9)) (ht : px_tg M pc = t9) (hp : pc + 3 = p9) (ha : a < 2147483648) (kt : a = 0 → wp X d M (t9, lv, st, w, k, z) Q) (kf : a ≠ 0 → wp X d M (p9, lv, st, w, k, z) Q) : wp X d M (pc, lv, .int (nI a) :: st, w, k, z) Q := wz_ifeq h ht hp (fun q => kt ((nI_eq (b := 0) (by omega) (by omega)).mp q)) (fun q => kf (fun q2 => q ((nI_eq (b := 0) (by omega) (by omega)).mpr q2)))
theorem wn_icne {q9 : Int} {a b t9 : Nat} (h : px_cd M pc = some (.if_icmp .ne q9)) (ht : px_tg M pc = t9) (hp : pc + 3 = p9) (ha : a < 2147483648) (hb : b < 2147483648) (kt : a ≠ b → wp X d M (t9, lv, st, w, k, z) Q) (kf : a = b → wp X d M (p9, lv, st, w, k, z) Q) : wp X d M (pc, lv, .int (nI b) :: .int (nI a) :: st, w, k, z) Q := wz_icne h ht hp (fun q => kt (fun q2 => q ((nI_eq (by omega) (by omega)).mpr q2))) (fun q => kf ((nI_eq (by omega) (by omega)).mp q))
theorem wn_ifne {q9 : Int} {a t9 : Nat} (h : px_cd M pc = some (.ifCond .ne q9)) (ht : px_tg M pc = t9) (hp : pc + 3 = p9) (ha : a < 2147483648) (kt : a ≠ 0 → wp X d M (t9, lv, st, w, k, z) Q) (kf : a = 0 → wp X d M (p9, lv, st, w, k, z) Q) : wp X d M (pc, lv, .int (nI a) :: st, w, k, z) Q := wz_ifne h ht hp (fun q => kt (fun q2 => q ((nI_eq (b := 0) (by omega) (by omega)).mpr q2))) (fun q => kf ((nI_eq (b := 0) (by omega) (by omega)).mp q))
theorem wn_iclt {q9 : Int} {a b t9 : Nat} (h : px_cd M pc = some (.if_icmp .lt q9)) (ht : px_tg M pc = t9) (hp : pc + 3 = p9) (ha : a < 2147483648) (hb : b < 2147483648) (kt : a < b → wp X d M (t9, lv, st, w, k, z) Q) (kf : b ≤ a → wp X d M (p9, lv, st, w, k, z) Q) : wp X d M (pc, lv, .int (nI b) :: .int (nI a) :: st, w, k, z) Q := wz_iclt h ht hp (fun q => kt ((nI_ltI (by omega) (by omega)).mp q)) (fun q => kf (Nat.le_of_not_lt (fun q2 => q ((nI_ltI (by omega) (by omega)).mpr q2))))
theorem wn_iflt {q9 : Int} {a t9 : Nat} (h : px_cd M pc = some (.ifCond .lt q9)) (ht : px_tg M pc = t9) (hp : pc + 3 = p9) (ha : a < 2147483648) (kt : a < 0 → wp X d M (t9, lv, st, w, k, z) Q) (kf : 0 ≤ a → wp X d M (p9, lv, st, w, k, z) Q) : wp X d M (pc, lv, .int (nI a) :: st, w, k, z) Q := wz_iflt h ht hp (fun q => kt ((nI_ltI (b := 0) (by omega) (by omega)).mp q)) (fun q => kf (Nat.le_of_not_lt (fun q2 => q ((nI_ltI (b := 0) (by omega) (by omega)).mpr q2))))
theorem wn_icge {q9 : Int} {a b t9 : Nat} (h : px_cd M pc = some (.if_icmp .ge q9)) (ht : px_tg M pc = t9) (hp : pc + 3 = p9) (ha : a < 2147483648) (hb : b < 2147483648) (kt : b ≤ a → wp X d M (t9, lv, st, w, k, z) Q) (kf : a < b → wp X d M (p9, lv, st, w, k, z) Q) : wp X d M (pc, lv, .int (nI b) :: .int (nI a) :: st, w, k, z) Q := wz_icge h ht hp (fun q => kt ((nI_leI (by omega) (by omega)).mp q)) (fun q => kf (Nat.lt_of_not_le (fun q2 => q ((nI_leI (by omega) (by omega)).mpr q2))))
theorem wn_ifge {q9 : Int} {a t9 : Nat} (h : px_cd M pc = some (.ifCond .ge q9)) (ht : px_tg M pc = t9) (hp : pc + 3 = p9) (ha : a < 2147483648) (kt : 0 ≤ a → wp X d M (t9, lv, st, w, k, z) Q) (kf : a < 0 → wp X d M (p9, lv, st, w, k, z) Q) : wp X d M (pc, lv, .int (nI a) :: st, w, k, z) Q := wz_ifge h ht hp (fun q => kt ((nI_leI (a := 0) (by omega) (by omega)).mp q)) (fun q => kf (Nat.lt_of_not_le (fun q2 => q ((nI_leI (a := 0) (by omega) (by omega)).mpr q2))))
theorem wn_icgt {q9 : Int} {a b t9 : Nat} (h : px_cd M pc = some (.if_icmp .gt q9)) (ht : px_tg M pc = t9) (hp : pc + 3 = p9) (ha : a < 2147483648) (hb : b < 2147483648) (kt : b < a → wp X d M (t9, lv, st, w, k, z) Q) (kf : a ≤ b → wp X d M (p9, lv, st, w, k, z) Q) : wp X d M (pc, lv, .int (nI b) :: .int (nI a) :: st, w, k, z) Q := wz_icgt h ht hp (fun q => kt ((nI_ltI (by omega) (by omega)).mp q)) (fun q => kf (Nat.le_of_not_lt (fun q2 => q ((nI_ltI (by omega) (by omega)).mpr q2))))
theorem wn_ifgt {q9 : Int} {a t9 : Nat} (h : px_cd M pc = some (.ifCond .gt q9)) (ht : px_tg M pc = t9) (hp : pc + 3 = p9) (ha : a < 2147483648) (kt : 0 < a → wp X d M (t9, lv, st, w, k, z) Q) (kf : a ≤ 0 → wp X d M (p9, lv, st, w, k, z) Q) : wp X d M (pc, lv, .int (nI a) :: st, w, k, z) Q := wz_ifgt h ht hp (fun q => kt ((nI_ltI (a := 0) (by omega) (by omega)).mp q)) (fun q => kf (Nat.le_of_not_lt (fun q2 => q ((nI_ltI (a := 0) (by omega) (by omega)).mpr q2))))
theorem wn_icle {q9 : Int} {a b t9 : Nat} (h : px_cd M pc = some (.if_icmp .le q9)) (ht : px_tg M pc = t9) (hp : pc + 3 = p9) (ha : a < 2147483648) (hb : b < 2147483648) (kt : a ≤ b → wp X d M (t9, lv, st, w, k, z) Q) (kf : b < a → wp X d M (p9, lv, st, w, k, z) Q) : wp X d M (pc, lv, .int (nI b) :: .int (nI a) :: st, w, k, z) Q := wz_icle h ht hp (fun q => kt ((nI_leI (by omega) (by omega)).mp q)) (fun q => kf (Nat.lt_of_not_le (fun q2 => q ((nI_leI (by omega) (by omega)).mpr q2))))
theorem wn_ifle {q9 : Int} {a t9 : Nat} (h : px_cd M pc = some (.ifCond .le q9)) (ht : px_tg M pc = t9) (hp : pc + 3 = p9) (ha : a < 2147483648) (kt : a ≤ 0 → wp X d M (t9, lv, st, w, k, z) Q) (kf : 0 < a → wp X d M (p9, lv, st, w, k, z) Q) : wp X d M (pc, lv, .int (nI a) :: st, w, k, z) Q := wz_ifle h ht hp (fun q => kt ((nI_leI (b := 0) (by omega) (by omega)).mp q)) (fun q => kf (Nat.lt_of_not_le (fun q2 => q ((nI_leI (b := 0) (by omega) (by omega)).mpr q2))))
theorem wp_Adc {x j : Nat} (h : px_cd M pc = some (.putfield j)) (hp : pc + 3 = p9) (hf : px_fl M j = some (6, 7)) (hp2 : px_pf M 6 7 = true) {A1 : CA} (hA : WW (A.s_dc x) R o = WW A1 R o) (kk : wp X d M (p9, lv, st, WW A1 R o, k, z) Q) : wp X d M (pc, lv, .int (nI x) :: .ref 0 :: st, WW A R o, k, z) Q := wz_put (w := WW A R o) h hp hf rfl rfl rfl hp2 (by rw [← hA]; rfl) kk
theorem wp_Ast {x j : Nat} (h : px_cd M pc = some (.putfield j)) (hp : pc + 3 = p9) (hf : px_fl M j = some (6, 8)) (hp2 : px_pf M 6 8 = true) {A1 : CA} (hA : WW (A.s_st x) R o = WW A1 R o) (kk : wp X d M (p9, lv, st, WW A1 R o, k, z) Q) : wp X d M (pc, lv, .int (nI x) :: .ref 0 :: st, WW A R o, k, z) Q := wz_put (w := WW A R o) h hp hf rfl rfl rfl hp2 (by rw [← hA]; rfl) kk
theorem wl_At {i : Nat} {f : Nat → Nat} (hf : A.t = f) (h : px_cd M pc = some (.iaload)) (hp : pc + 1 = p9) (hi : i < 42) (kk : wp X d M (p9, lv, .int (nI (f i)) :: st, WW A R o, k, z) Q) : wp X d M (pc, lv, .int (nI i) :: .ref 2 :: st, WW A R o, k, z) Q := wz_iald (w := WW A R o) h hp rfl (q_in hi (by decide)) (by subst hf; show nI (A.t _) = nI (A.t i); rw [q_c (by omega)]) kk
theorem ws_At {i x : Nat} {f : Nat → Nat} (hf : A.t = f) (h : px_cd M pc = some (.iastore)) (hp : pc + 1 = p9) (hi : i < 42) {A1 : CA} (hA : WW (A.s_t (un f i x)) R o = WW A1 R o) (kk : wp X d M (p9, lv, st, WW A1 R o, k, z) Q) : wp X d M (pc, lv, .int (nI x) :: .int (nI i) :: .ref 2 :: st, WW A R o, k, z) Q := wz_iast (w := WW A R o) (w1 := WW A1 R o) h hp rfl (q_in hi (by decide)) (by rw [← hA]; subst hf; rw [q_c (by omega), q_un]; rfl) kk
theorem wl_Aod {i : Nat} {f : Nat → Nat} (hf : A.od = f) (h : px_cd M pc = some (.iaload)) (hp : pc + 1 = p9) (hi : i < 6) (kk : wp X d M (p9, lv, .int (nI (f i)) :: st, WW A R o, k, z) Q) : wp X d M (pc, lv, .int (nI i) :: .ref 3 :: st, WW A R o, k, z) Q := wz_iald (w := WW A R o) h hp rfl (q_in hi (by decide)) (by subst hf; show nI (A.od _) = nI (A.od i); rw [q_c (by omega)]) kk
theorem ws_Aod {i x : Nat} {f : Nat → Nat} (hf : A.od = f) (h : px_cd M pc = some (.iastore)) (hp : pc + 1 = p9) (hi : i < 6) {A1 : CA} (hA : WW (A.s_od (un f i x)) R o = WW A1 R o) (kk : wp X d M (p9, lv, st, WW A1 R o, k, z) Q) : wp X d M (pc, lv, .int (nI x) :: .int (nI i) :: .ref 3 :: st, WW A R o, k, z) Q := wz_iast (w := WW A R o) (w1 := WW A1 R o) h hp rfl (q_in hi (by decide)) (by rw [← hA]; subst hf; rw [q_c (by omega), q_un]; rfl) kk
theorem wp_Abc {x j : Nat} (h : px_cd M pc = some (.putfield j)) (hp : pc + 3 = p9) (hf : px_fl M j = some (1, 2)) (hp2 : px_pf M 1 2 = true) {A1 : CA} (hA : WW (A.s_bc x) R o = WW A1 R o) (kk : wp X d M (p9, lv, st, WW A1 R o, k, z) Q) : wp X d M (pc, lv, .int (nI x) :: .ref 4 :: st, WW A R o, k, z) Q := wz_put (w := WW A R o) h hp hf rfl rfl rfl hp2 (by rw [← hA]; rfl) kk
theorem wp_Adp {x j : Nat} (h : px_cd M pc = some (.putfield j)) (hp : pc + 3 = p9) (hf : px_fl M j = some (1, 6)) (hp2 : px_pf M 1 6 = true) {A1 : CA} (hA : WW (A.s_dp x) R o = WW A1 R o) (kk : wp X d M (p9, lv, st, WW A1 R o, k, z) Q) : wp X d M (pc, lv, .int (nI x) :: .ref 4 :: st, WW A R o, k, z) Q := wz_put (w := WW A R o) h hp hf rfl rfl rfl hp2 (by rw [← hA]; rfl) kk
theorem wp_Arc {x j : Nat} (h : px_cd M pc = some (.putfield j)) (hp : pc + 3 = p9) (hf : px_fl M j = some (1, 8)) (hp2 : px_pf M 1 8 = true) {A1 : CA} (hA : WW (A.s_rc x) R o = WW A1 R o) (kk : wp X d M (p9, lv, st, WW A1 R o, k, z) Q) : wp X d M (pc, lv, .int (nI x) :: .ref 4 :: st, WW A R o, k, z) Q := wz_put (w := WW A R o) h hp hf rfl rfl rfl hp2 (by rw [← hA]; rfl) kk
theorem wp_Aov {x j : Nat} (h : px_cd M pc = some (.putfield j)) (hp : pc + 3 = p9) (hf : px_fl M j = some (1, 9)) (hp2 : px_pf M 1 9 = true) (hx : x < 2) {A1 : CA} (hA : WW (A.s_ov x) R o = WW A1 R o) (kk : wp X d M (p9, lv, st, WW A1 R o, k, z) Q) : wp X d M (pc, lv, .int (nI x) :: .ref 4 :: st, WW A R o, k, z) Q := wz_put (w := WW A R o) h hp hf rfl rfl (by match x, hx with | 0, _ => rfl | 1, _ => rfl) hp2 (by rw [← hA]; rfl) kk
theorem wp_Aps {x j : Nat} (h : px_cd M pc = some (.putfield j)) (hp : pc + 3 = p9) (hf : px_fl M j = some (1, 10)) (hp2 : px_pf M 1 10 = true) {A1 : CA} (hA : WW (A.s_ps x) R o = WW A1 R o) (kk : wp X d M (p9, lv, st, WW A1 R o, k, z) Q) : wp X d M (pc, lv, .int (nI x) :: .ref 4 :: st, WW A R o, k, z) Q := wz_put (w := WW A R o) h hp hf rfl rfl rfl hp2 (by rw [← hA]; rfl) kk
theorem wp_Apl {x j : Nat} (h : px_cd M pc = some (.putfield j)) (hp : pc + 3 = p9) (hf : px_fl M j = some (1, 11)) (hp2 : px_pf M 1 11 = true) (hx : x < 2) {A1 : CA} (hA : WW (A.s_pl x) R o = WW A1 R o) (kk : wp X d M (p9, lv, st, WW A1 R o, k, z) Q) : wp X d M (pc, lv, .int (nI x) :: .ref 4 :: st, WW A R o, k, z) Q := wz_put (w := WW A R o) h hp hf rfl rfl (by match x, hx with | 0, _ => rfl | 1, _ => rfl) hp2 (by rw [← hA]; rfl) kk
theorem wp_Asn {x j : Nat} (h : px_cd M pc = some (.putfield j)) (hp : pc + 3 = p9) (hf : px_fl M j = some (1, 12)) (hp2 : px_pf M 1 12 = true) {A1 : CA} (hA : WW (A.s_sn x) R o = WW A1 R o) (kk : wp X d M (p9, lv, st, WW A1 R o, k, z) Q) : wp X d M (pc, lv, .int (nI x) :: .ref 4 :: st, WW A R o, k, z) Q := wz_put (w := WW A R o) h hp hf rfl rfl rfl hp2 (by rw [← hA]; rfl) kk
theorem wl_Atx {i : Nat} {f : Nat → Nat} (hf : A.tx = f) (h : px_cd M pc = some (.iaload)) (hp : pc + 1 = p9) (hi : i < 100) (kk : wp X d M (p9, lv, .int (nI (f i)) :: st, WW A R o, k, z) Q) : wp X d M (pc, lv, .int (nI i) :: .ref 5 :: st, WW A R o, k, z) Q := wz_iald (w := WW A R o) h hp rfl (q_in hi (by decide)) (by subst hf; show nI (A.tx _) = nI (A.tx i); rw [q_c (by omega)]) kk
theorem ws_Atx {i x : Nat} {f : Nat → Nat} (hf : A.tx = f) (h : px_cd M pc = some (.iastore)) (hp : pc + 1 = p9) (hi : i < 100) {A1 : CA} (hA : WW (A.s_tx (un f i x)) R o = WW A1 R o) (kk : wp X d M (p9, lv, st, WW A1 R o, k, z) Q) : wp X d M (pc, lv, .int (nI x) :: .int (nI i) :: .ref 5 :: st, WW A R o, k, z) Q := wz_iast (w := WW A R o) (w1 := WW A1 R o) h hp rfl (q_in hi (by decide)) (by rw [← hA]; subst hf; rw [q_c (by omega), q_un]; rfl) kk
theorem wl_Akd {i : Nat} {f : Nat → Nat} (hf : A.kd = f) (h : px_cd M pc = some (.iaload)) (hp : pc + 1 = p9) (hi : i < 8) (kk : wp X d M (p9, lv, .int (nI (f i)) :: st, WW A R o, k, z) Q) : wp X d M (pc, lv, .int (nI i) :: .ref 6 :: st, WW A R o, k, z) Q := wz_iald (w := WW A R o) h hp rfl (q_in hi (by decide)) (by subst hf; show nI (A.kd _) = nI (A.kd i); rw [q_c (by omega)]) kk
theorem ws_Akd {i x : Nat} {f : Nat → Nat} (hf : A.kd = f) (h : px_cd M pc = some (.iastore)) (hp : pc + 1 = p9) (hi : i < 8) {A1 : CA} (hA : WW (A.s_kd (un f i x)) R o = WW A1 R o) (kk : wp X d M (p9, lv, st, WW A1 R o, k, z) Q) : wp X d M (pc, lv, .int (nI x) :: .int (nI i) :: .ref 6 :: st, WW A R o, k, z) Q := wz_iast (w := WW A R o) (w1 := WW A1 R o) h hp rfl (q_in hi (by decide)) (by rw [← hA]; subst hf; rw [q_c (by omega), q_un]; rfl) kk
theorem wl_Aks {i : Nat} {f : Nat → Nat} (hf : A.ks = f) (h : px_cd M pc = some (.iaload)) (hp : pc + 1 = p9) (hi : i < 8) (kk : wp X d M (p9, lv, .int (nI (f i)) :: st, WW A R o, k, z) Q) : wp X d M (pc, lv, .int (nI i) :: .ref 7 :: st, WW A R o, k, z) Q := wz_iald (w := WW A R o) h hp rfl (q_in hi (by decide)) (by subst hf; show nI (A.ks _) = nI (A.ks i); rw [q_c (by omega)]) kk
theorem ws_Aks {i x : Nat} {f : Nat → Nat} (hf : A.ks = f) (h : px_cd M pc = some (.iastore)) (hp : pc + 1 = p9) (hi : i < 8) {A1 : CA} (hA : WW (A.s_ks (un f i x)) R o = WW A1 R o) (kk : wp X d M (p9, lv, st, WW A1 R o, k, z) Q) : wp X d M (pc, lv, .int (nI x) :: .int (nI i) :: .ref 7 :: st, WW A R o, k, z) Q := wz_iast (w := WW A R o) (w1 := WW A1 R o) h hp rfl (q_in hi (by decide)) (by rw [← hA]; subst hf; rw [q_c (by omega), q_un]; rfl) kk
theorem wl_Akm {i : Nat} {f : Nat → Nat} (hf : A.km = f) (h : px_cd M pc = some (.iaload)) (hp : pc + 1 = p9) (hi : i < 8) (kk : wp X d M (p9, lv, .int (nI (f i)) :: st, WW A R o, k, z) Q) : wp X d M (pc, lv, .int (nI i) :: .ref 8 :: st, WW A R o, k, z) Q := wz_iald (w := WW A R o) h hp rfl (q_in hi (by decide)) (by subst hf; show nI (A.km _) = nI (A.km i); rw [q_c (by omega)]) kk
theorem ws_Akm {i x : Nat} {f : Nat → Nat} (hf : A.km = f) (h : px_cd M pc = some (.iastore)) (hp : pc + 1 = p9) (hi : i < 8) {A1 : CA} (hA : WW (A.s_km (un f i x)) R o = WW A1 R o) (kk : wp X d M (p9, lv, st, WW A1 R o, k, z) Q) : wp X d M (pc, lv, .int (nI x) :: .int (nI i) :: .ref 8 :: st, WW A R o, k, z) Q := wz_iast (w := WW A R o) (w1 := WW A1 R o) h hp rfl (q_in hi (by decide)) (by rw [← hA]; subst hf; rw [q_c (by omega), q_un]; rfl) kk
theorem wl_Abu {i : Nat} {f : Nat → Nat} (hf : A.bu = f) (h : px_cd M pc = some (.iaload)) (hp : pc + 1 = p9) (hi : i < 400) (kk : wp X d M (p9, lv, .int (nI (f i)) :: st, WW A R o, k, z) Q) : wp X d M (pc, lv, .int (nI i) :: .ref 9 :: st, WW A R o, k, z) Q := wz_iald (w := WW A R o) h hp rfl (q_in hi (by decide)) (by subst hf; show nI (A.bu _) = nI (A.bu i); rw [q_c (by omega)]) kk
theorem ws_Abu {i x : Nat} {f : Nat → Nat} (hf : A.bu = f) (h : px_cd M pc = some (.iastore)) (hp : pc + 1 = p9) (hi : i < 400) {A1 : CA} (hA : WW (A.s_bu (un f i x)) R o = WW A1 R o) (kk : wp X d M (p9, lv, st, WW A1 R o, k, z) Q) : wp X d M (pc, lv, .int (nI x) :: .int (nI i) :: .ref 9 :: st, WW A R o, k, z) Q := wz_iast (w := WW A R o) (w1 := WW A1 R o) h hp rfl (q_in hi (by decide)) (by rw [← hA]; subst hf; rw [q_c (by omega), q_un]; rfl) kk
theorem wp_Awc {x j : Nat} (h : px_cd M pc = some (.putfield j)) (hp : pc + 3 = p9) (hf : px_fl M j = some (2, 4)) (hp2 : px_pf M 2 4 = true) {A1 : CA} (hA : WW (A.s_wc x) R o = WW A1 R o) (kk : wp X d M (p9, lv, st, WW A1 R o, k, z) Q) : wp X d M (pc, lv, .int (nI x) :: .ref 10 :: st, WW A R o, k, z) Q := wz_put (w := WW A R o) h hp hf rfl rfl rfl hp2 (by rw [← hA]; rfl) kk
theorem wl_Arl {i : Nat} {f : Nat → Nat} (hf : A.rl = f) (h : px_cd M pc = some (.iaload)) (hp : pc + 1 = p9) (hi : i < 30) (kk : wp X d M (p9, lv, .int (nI (f i)) :: st, WW A R o, k, z) Q) : wp X d M (pc, lv, .int (nI i) :: .ref 11 :: st, WW A R o, k, z) Q := wz_iald (w := WW A R o) h hp rfl (q_in hi (by decide)) (by subst hf; show nI (A.rl _) = nI (A.rl i); rw [q_c (by omega)]) kk
theorem ws_Arl {i x : Nat} {f : Nat → Nat} (hf : A.rl = f) (h : px_cd M pc = some (.iastore)) (hp : pc + 1 = p9) (hi : i < 30) {A1 : CA} (hA : WW (A.s_rl (un f i x)) R o = WW A1 R o) (kk : wp X d M (p9, lv, st, WW A1 R o, k, z) Q) : wp X d M (pc, lv, .int (nI x) :: .int (nI i) :: .ref 11 :: st, WW A R o, k, z) Q := wz_iast (w := WW A R o) (w1 := WW A1 R o) h hp rfl (q_in hi (by decide)) (by rw [← hA]; subst hf; rw [q_c (by omega), q_un]; rfl) kk
theorem wl_Arr {i : Nat} {f : Nat → Nat} (hf : A.rr = f) (h : px_cd M pc = some (.iaload)) (hp : pc + 1 = p9) (hi : i < 1200) (kk : wp X d M (p9, lv, .int (nI (f i)) :: st, WW A R o, k, z) Q) : wp X d M (pc, lv, .int (nI i) :: .ref 12 :: st, WW A R o, k, z) Q := wz_iald (w := WW A R o) h hp rfl (q_in hi (by decide)) (by subst hf; show nI (A.rr _) = nI (A.rr i); rw [q_c (by omega)]) kk
theorem ws_Arr {i x : Nat} {f : Nat → Nat} (hf : A.rr = f) (h : px_cd M pc = some (.iastore)) (hp : pc + 1 = p9) (hi : i < 1200) {A1 : CA} (hA : WW (A.s_rr (un f i x)) R o = WW A1 R o) (kk : wp X d M (p9, lv, st, WW A1 R o, k, z) Q) : wp X d M (pc, lv, .int (nI x) :: .int (nI i) :: .ref 12 :: st, WW A R o, k, z) Q := wz_iast (w := WW A R o) (w1 := WW A1 R o) h hp rfl (q_in hi (by decide)) (by rw [← hA]; subst hf; rw [q_c (by omega), q_un]; rfl) kk
theorem wl_Awg {i : Nat} {f : Nat → Nat} (hf : A.wg = f) (h : px_cd M pc = some (.iaload)) (hp : pc + 1 = p9) (hi : i < 210) (kk : wp X d M (p9, lv, .int (nI (f i)) :: st, WW A R o, k, z) Q) : wp X d M (pc, lv, .int (nI i) :: .ref 13 :: st, WW A R o, k, z) Q := wz_iald (w := WW A R o) h hp rfl (q_in hi (by decide)) (by subst hf; show nI (A.wg _) = nI (A.wg i); rw [q_c (by omega)]) kk
theorem ws_Awg {i x : Nat} {f : Nat → Nat} (hf : A.wg = f) (h : px_cd M pc = some (.iastore)) (hp : pc + 1 = p9) (hi : i < 210) {A1 : CA} (hA : WW (A.s_wg (un f i x)) R o = WW A1 R o) (kk : wp X d M (p9, lv, st, WW A1 R o, k, z) Q) : wp X d M (pc, lv, .int (nI x) :: .int (nI i) :: .ref 13 :: st, WW A R o, k, z) Q := wz_iast (w := WW A R o) (w1 := WW A1 R o) h hp rfl (q_in hi (by decide)) (by rw [← hA]; subst hf; rw [q_c (by omega), q_un]; rfl) kk
theorem wp_Asc {x j : Nat} (h : px_cd M pc = some (.putfield j)) (hp : pc + 3 = p9) (hf : px_fl M j = some (3, 4)) (hp2 : px_pf M 3 4 = true) {A1 : CA} (hA : WW (A.s_sc x) R o = WW A1 R o) (kk : wp X d M (p9, lv, st, WW A1 R o, k, z) Q) : wp X d M (pc, lv, .int (nI x) :: .ref 14 :: st, WW A R o, k, z) Q := wz_put (w := WW A R o) h hp hf rfl rfl rfl hp2 (by rw [← hA]; rfl) kk
theorem wl_Asg {i : Nat} {f : Nat → Nat} (hf : A.sg = f) (h : px_cd M pc = some (.iaload)) (hp : pc + 1 = p9) (hi : i < 8) (kk : wp X d M (p9, lv, .int (nI (f i)) :: st, WW A R o, k, z) Q) : wp X d M (pc, lv, .int (nI i) :: .ref 15 :: st, WW A R o, k, z) Q := wz_iald (w := WW A R o) h hp rfl (q_in hi (by decide)) (by subst hf; show nI (A.sg _) = nI (A.sg i); rw [q_c (by omega)]) kk
theorem ws_Asg {i x : Nat} {f : Nat → Nat} (hf : A.sg = f) (h : px_cd M pc = some (.iastore)) (hp : pc + 1 = p9) (hi : i < 8) {A1 : CA} (hA : WW (A.s_sg (un f i x)) R o = WW A1 R o) (kk : wp X d M (p9, lv, st, WW A1 R o, k, z) Q) : wp X d M (pc, lv, .int (nI x) :: .int (nI i) :: .ref 15 :: st, WW A R o, k, z) Q := wz_iast (w := WW A R o) (w1 := WW A1 R o) h hp rfl (q_in hi (by decide)) (by rw [← hA]; subst hf; rw [q_c (by omega), q_un]; rfl) kk
theorem wl_Asu {i : Nat} {f : Nat → Nat} (hf : A.su = f) (h : px_cd M pc = some (.iaload)) (hp : pc + 1 = p9) (hi : i < 8) (kk : wp X d M (p9, lv, .int (nI (f i)) :: st, WW A R o, k, z) Q) : wp X d M (pc, lv, .int (nI i) :: .ref 16 :: st, WW A R o, k, z) Q := wz_iald (w := WW A R o) h hp rfl (q_in hi (by decide)) (by subst hf; show nI (A.su _) = nI (A.su i); rw [q_c (by omega)]) kk
theorem ws_Asu {i x : Nat} {f : Nat → Nat} (hf : A.su = f) (h : px_cd M pc = some (.iastore)) (hp : pc + 1 = p9) (hi : i < 8) {A1 : CA} (hA : WW (A.s_su (un f i x)) R o = WW A1 R o) (kk : wp X d M (p9, lv, st, WW A1 R o, k, z) Q) : wp X d M (pc, lv, .int (nI x) :: .int (nI i) :: .ref 16 :: st, WW A R o, k, z) Q := wz_iast (w := WW A R o) (w1 := WW A1 R o) h hp rfl (q_in hi (by decide)) (by rw [← hA]; subst hf; rw [q_c (by omega), q_un]; rfl) kk
theorem wl_Aus {i : Nat} {f : Nat → Nat} (hf : A.us = f) (h : px_cd M pc = some (.iaload)) (hp : pc + 1 = p9) (hi : i < 96) (kk : wp X d M (p9, lv, .int (nI (f i)) :: st, WW A R o, k, z) Q) : wp X d M (pc, lv, .int (nI i) :: .ref 17 :: st, WW A R o, k, z) Q := wz_iald (w := WW A R o) h hp rfl (q_in hi (by decide)) (by subst hf; show nI (A.us _) = nI (A.us i); rw [q_c (by omega)]) kk
theorem ws_Aus {i x : Nat} {f : Nat → Nat} (hf : A.us = f) (h : px_cd M pc = some (.iastore)) (hp : pc + 1 = p9) (hi : i < 96) {A1 : CA} (hA : WW (A.s_us (un f i x)) R o = WW A1 R o) (kk : wp X d M (p9, lv, st, WW A1 R o, k, z) Q) : wp X d M (pc, lv, .int (nI x) :: .int (nI i) :: .ref 17 :: st, WW A R o, k, z) Q := wz_iast (w := WW A R o) (w1 := WW A1 R o) h hp rfl (q_in hi (by decide)) (by rw [← hA]; subst hf; rw [q_c (by omega), q_un]; rfl) kk
theorem wp_Afc {x j : Nat} (h : px_cd M pc = some (.putfield j)) (hp : pc + 3 = p9) (hf : px_fl M j = some (4, 3)) (hp2 : px_pf M 4 3 = true) {A1 : CA} (hA : WW (A.s_fc x) R o = WW A1 R o) (kk : wp X d M (p9, lv, st, WW A1 R o, k, z) Q) : wp X d M (pc, lv, .int (nI x) :: .ref 18 :: st, WW A R o, k, z) Q := wz_put (w := WW A R o) h hp hf rfl rfl rfl hp2 (by rw [← hA]; rfl) kk
theorem wl_Afo {i : Nat} {f : Nat → Nat} (hf : A.fo = f) (h : px_cd M pc = some (.iaload)) (hp : pc + 1 = p9) (hm : A.fl ≤ 2147483648) (hi : i < A.fl) (kk : wp X d M (p9, lv, .int (nI (f i)) :: st, WW A R o, k, z) Q) : wp X d M (pc, lv, .int (nI i) :: .ref 19 :: st, WW A R o, k, z) Q := wz_iald (w := WW A R o) h hp rfl (q_in hi hm) (by subst hf; show nI (A.fo _) = nI (A.fo i); rw [q_c (by omega)]) kk
theorem ws_Afo {i x : Nat} {f : Nat → Nat} (hf : A.fo = f) (h : px_cd M pc = some (.iastore)) (hp : pc + 1 = p9) (hm : A.fl ≤ 2147483648) (hi : i < A.fl) {A1 : CA} (hA : WW (A.s_fo (un f i x)) R o = WW A1 R o) (kk : wp X d M (p9, lv, st, WW A1 R o, k, z) Q) : wp X d M (pc, lv, .int (nI x) :: .int (nI i) :: .ref 19 :: st, WW A R o, k, z) Q := wz_iast (w := WW A R o) (w1 := WW A1 R o) h hp rfl (q_in hi hm) (by rw [← hA]; subst hf; rw [q_c (by omega), q_un]; rfl) kk
theorem wl_Ase {i : Nat} {f : Nat → Nat} (hf : A.se = f) (h : px_cd M pc = some (.iaload)) (hp : pc + 1 = p9) (hm : A.sl ≤ 2147483648) (hi : i < A.sl) (kk : wp X d M (p9, lv, .int (nI (f i)) :: st, WW A R o, k, z) Q) : wp X d M (pc, lv, .int (nI i) :: .ref 20 :: st, WW A R o, k, z) Q := wz_iald (w := WW A R o) h hp rfl (q_in hi hm) (by subst hf; show nI (A.se _) = nI (A.se i); rw [q_c (by omega)]) kk
theorem ws_Ase {i x : Nat} {f : Nat → Nat} (hf : A.se = f) (h : px_cd M pc = some (.iastore)) (hp : pc + 1 = p9) (hm : A.sl ≤ 2147483648) (hi : i < A.sl) {A1 : CA} (hA : WW (A.s_se (un f i x)) R o = WW A1 R o) (kk : wp X d M (p9, lv, st, WW A1 R o, k, z) Q) : wp X d M (pc, lv, .int (nI x) :: .int (nI i) :: .ref 20 :: st, WW A R o, k, z) Q := wz_iast (w := WW A R o) (w1 := WW A1 R o) h hp rfl (q_in hi hm) (by rw [← hA]; subst hf; rw [q_c (by omega), q_un]; rfl) kk
theorem wp_Aqn {x j : Nat} (h : px_cd M pc = some (.putfield j)) (hp : pc + 3 = p9) (hf : px_fl M j = some (5, 3)) (hp2 : px_pf M 5 3 = true) {A1 : CA} (hA : WW (A.s_qn x) R o = WW A1 R o) (kk : wp X d M (p9, lv, st, WW A1 R o, k, z) Q) : wp X d M (pc, lv, .int (nI x) :: .ref 21 :: st, WW A R o, k, z) Q := wz_put (w := WW A R o) h hp hf rfl rfl rfl hp2 (by rw [← hA]; rfl) kk
theorem wl_Afa {i : Nat} {f : Nat → Nat} (hf : A.fa = f) (h : px_cd M pc = some (.iaload)) (hp : pc + 1 = p9) (hi : i < 512) (kk : wp X d M (p9, lv, .int (nI (f i)) :: st, WW A R o, k, z) Q) : wp X d M (pc, lv, .int (nI i) :: .ref 22 :: st, WW A R o, k, z) Q := wz_iald (w := WW A R o) h hp rfl (q_in hi (by decide)) (by subst hf; show nI (A.fa _) = nI (A.fa i); rw [q_c (by omega)]) kk
theorem ws_Afa {i x : Nat} {f : Nat → Nat} (hf : A.fa = f) (h : px_cd M pc = some (.iastore)) (hp : pc + 1 = p9) (hi : i < 512) {A1 : CA} (hA : WW (A.s_fa (un f i x)) R o = WW A1 R o) (kk : wp X d M (p9, lv, st, WW A1 R o, k, z) Q) : wp X d M (pc, lv, .int (nI x) :: .int (nI i) :: .ref 22 :: st, WW A R o, k, z) Q := wz_iast (w := WW A R o) (w1 := WW A1 R o) h hp rfl (q_in hi (by decide)) (by rw [← hA]; subst hf; rw [q_c (by omega), q_un]; rfl) kk
theorem wl_Aqu {i : Nat} {f : Nat → Nat} (hf : A.qu = f) (h : px_cd M pc = some (.iaload)) (hp : pc + 1 = p9) (hi : i < 512) (kk : wp X d M (p9, lv, .int (nI (f i)) :: st, WW A R o, k, z) Q) : wp X d M (pc, lv, .int (nI i) :: .ref 23 :: st, WW A R o, k, z) Q := wz_iald (w := WW A R o) h hp rfl (q_in hi (by decide)) (by subst hf; show nI (A.qu _) = nI (A.qu i); rw [q_c (by omega)]) kk
theorem ws_Aqu {i x : Nat} {f : Nat → Nat} (hf : A.qu = f) (h : px_cd M pc = some (.iastore)) (hp : pc + 1 = p9) (hi : i < 512) {A1 : CA} (hA : WW (A.s_qu (un f i x)) R o = WW A1 R o) (kk : wp X d M (p9, lv, st, WW A1 R o, k, z) Q) : wp X d M (pc, lv, .int (nI x) :: .int (nI i) :: .ref 23 :: st, WW A R o, k, z) Q := wz_iast (w := WW A R o) (w1 := WW A1 R o) h hp rfl (q_in hi (by decide)) (by rw [← hA]; subst hf; rw [q_c (by omega), q_un]; rfl) kk
theorem wl_Apa {i : Nat} {f : Nat → Nat} (hf : A.pa = f) (h : px_cd M pc = some (.iaload)) (hp : pc + 1 = p9) (hi : i < 9) (kk : wp X d M (p9, lv, .int (nI (f i)) :: st, WW A R o, k, z) Q) : wp X d M (pc, lv, .int (nI i) :: .ref 24 :: st, WW A R o, k, z) Q := wz_iald (w := WW A R o) h hp rfl (q_in hi (by decide)) (by subst hf; show nI (A.pa _) = nI (A.pa i); rw [q_c (by omega)]) kk
theorem ws_Apa {i x : Nat} {f : Nat → Nat} (hf : A.pa = f) (h : px_cd M pc = some (.iastore)) (hp : pc + 1 = p9) (hi : i < 9) {A1 : CA} (hA : WW (A.s_pa (un f i x)) R o = WW A1 R o) (kk : wp X d M (p9, lv, st, WW A1 R o, k, z) Q) : wp X d M (pc, lv, .int (nI x) :: .int (nI i) :: .ref 24 :: st, WW A R o, k, z) Q := wz_iast (w := WW A R o) (w1 := WW A1 R o) h hp rfl (q_in hi (by decide)) (by rw [← hA]; subst hf; rw [q_c (by omega), q_un]; rfl) kk
theorem wl_Adn {i : Nat} {f : Nat → Nat} (hf : A.dn = f) (h : px_cd M pc = some (.iaload)) (hp : pc + 1 = p9) (hi : i < 7) (kk : wp X d M (p9, lv, .int (nI (f i)) :: st, WW A R o, k, z) Q) : wp X d M (pc, lv, .int (nI i) :: .ref 25 :: st, WW A R o, k, z) Q := wz_iald (w := WW A R o) h hp rfl (q_in hi (by decide)) (by subst hf; show nI (A.dn _) = nI (A.dn i); rw [q_c (by omega)]) kk
theorem ws_Adn {i x : Nat} {f : Nat → Nat} (hf : A.dn = f) (h : px_cd M pc = some (.iastore)) (hp : pc + 1 = p9) (hi : i < 7) {A1 : CA} (hA : WW (A.s_dn (un f i x)) R o = WW A1 R o) (kk : wp X d M (p9, lv, st, WW A1 R o, k, z) Q) : wp X d M (pc, lv, .int (nI x) :: .int (nI i) :: .ref 25 :: st, WW A R o, k, z) Q := wz_iast (w := WW A R o) (w1 := WW A1 R o) h hp rfl (q_in hi (by decide)) (by rw [← hA]; subst hf; rw [q_c (by omega), q_un]; rfl) kk
theorem wp_Rth {x j : Nat} (h : px_cd M pc = some (.putfield j)) (hp : pc + 3 = p9) (hf : px_fl M j = some (7, 0)) (hp2 : px_pf M 7 0 = true) {R1 : RA} (hA : WW A (R.s_th x) o = WW A R1 o) (kk : wp X d M (p9, lv, st, WW A R1 o, k, z) Q) : wp X d M (pc, lv, .int (nI x) :: .ref 26 :: st, WW A R o, k, z) Q := wz_put (w := WW A R o) h hp hf rfl rfl rfl hp2 (by rw [← hA]; rfl) kk
theorem wp_Rsz {x j : Nat} (h : px_cd M pc = some (.putfield j)) (hp : pc + 3 = p9) (hf : px_fl M j = some (7, 5)) (hp2 : px_pf M 7 5 = true) {R1 : RA} (hA : WW A (R.s_sz x) o = WW A R1 o) (kk : wp X d M (p9, lv, st, WW A R1 o, k, z) Q) : wp X d M (pc, lv, .int (nI x) :: .ref 26 :: st, WW A R o, k, z) Q := wz_put (w := WW A R o) h hp hf rfl rfl rfl hp2 (by rw [← hA]; rfl) kk
theorem wp_Rwc {x j : Nat} (h : px_cd M pc = some (.putfield j)) (hp : pc + 3 = p9) (hf : px_fl M j = some (7, 7)) (hp2 : px_pf M 7 7 = true) {R1 : RA} (hA : WW A (R.s_wc x) o = WW A R1 o) (kk : wp X d M (p9, lv, st, WW A R1 o, k, z) Q) : wp X d M (pc, lv, .int (nI x) :: .ref 26 :: st, WW A R o, k, z) Q := wz_put (w := WW A R o) h hp hf rfl rfl rfl hp2 (by rw [← hA]; rfl) kk
theorem wp_Rmn {x j : Nat} (h : px_cd M pc = some (.putfield j)) (hp : pc + 3 = p9) (hf : px_fl M j = some (7, 10)) (hp2 : px_pf M 7 10 = true) {R1 : RA} (hA : WW A (R.s_mn x) o = WW A R1 o) (kk : wp X d M (p9, lv, st, WW A R1 o, k, z) Q) : wp X d M (pc, lv, .int (nI x) :: .ref 26 :: st, WW A R o, k, z) Q := wz_put (w := WW A R o) h hp hf rfl rfl rfl hp2 (by rw [← hA]; rfl) kk
theorem wp_Rdp {x j : Nat} (h : px_cd M pc = some (.putfield j)) (hp : pc + 3 = p9) (hf : px_fl M j = some (7, 12)) (hp2 : px_pf M 7 12 = true) {R1 : RA} (hA : WW A (R.s_dp x) o = WW A R1 o) (kk : wp X d M (p9, lv, st, WW A R1 o, k, z) Q) : wp X d M (pc, lv, .int (nI x) :: .ref 26 :: st, WW A R o, k, z) Q := wz_put (w := WW A R o) h hp hf rfl rfl rfl hp2 (by rw [← hA]; rfl) kk
theorem wp_Rtm {x j : Nat} (h : px_cd M pc = some (.putfield j)) (hp : pc + 3 = p9) (hf : px_fl M j = some (7, 16)) (hp2 : px_pf M 7 16 = true) (hx : x < 2) {R1 : RA} (hA : WW A (R.s_tm x) o = WW A R1 o) (kk : wp X d M (p9, lv, st, WW A R1 o, k, z) Q) : wp X d M (pc, lv, .int (nI x) :: .ref 26 :: st, WW A R o, k, z) Q := wz_put (w := WW A R o) h hp hf rfl rfl (by match x, hx with | 0, _ => rfl | 1, _ => rfl) hp2 (by rw [← hA]; rfl) kk
theorem wp_Rsc {x j : Nat} (h : px_cd M pc = some (.putfield j)) (hp : pc + 3 = p9) (hf : px_fl M j = some (7, 17)) (hp2 : px_pf M 7 17 = true) {R1 : RA} (hA : WW A (R.s_sc x) o = WW A R1 o) (kk : wp X d M (p9, lv, st, WW A R1 o, k, z) Q) : wp X d M (pc, lv, .int (nI x) :: .ref 26 :: st, WW A R o, k, z) Q := wz_put (w := WW A R o) h hp hf rfl rfl rfl hp2 (by rw [← hA]; rfl) kk
theorem wp_Rdd {x j : Nat} (h : px_cd M pc = some (.putfield j)) (hp : pc + 3 = p9) (hf : px_fl M j = some (7, 21)) (hp2 : px_pf M 7 21 = true) {R1 : RA} (hA : WW A (R.s_dd x) o = WW A R1 o) (kk : wp X d M (p9, lv, st, WW A R1 o, k, z) Q) : wp X d M (pc, lv, .int (nI x) :: .ref 26 :: st, WW A R o, k, z) Q := wz_put (w := WW A R o) h hp hf rfl rfl rfl hp2 (by rw [← hA]; rfl) kk
theorem wp_Rtl {x j : Nat} (h : px_cd M pc = some (.putfield j)) (hp : pc + 3 = p9) (hf : px_fl M j = some (7, 28)) (hp2 : px_pf M 7 28 = true) {R1 : RA} (hA : WW A (R.s_tl x) o = WW A R1 o) (kk : wp X d M (p9, lv, st, WW A R1 o, k, z) Q) : wp X d M (pc, lv, .int (nI x) :: .ref 26 :: st, WW A R o, k, z) Q := wz_put (w := WW A R o) h hp hf rfl rfl rfl hp2 (by rw [← hA]; rfl) kk
theorem wl_Rt {i : Nat} {f : Nat → Nat} (hf : R.t = f) (h : px_cd M pc = some (.iaload)) (hp : pc + 1 = p9) (hi : i < 42) (kk : wp X d M (p9, lv, .int (nI (f i)) :: st, WW A R o, k, z) Q) : wp X d M (pc, lv, .int (nI i) :: .ref 27 :: st, WW A R o, k, z) Q := wz_iald (w := WW A R o) h hp rfl (q_in hi (by decide)) (by subst hf; show nI (R.t _) = nI (R.t i); rw [q_c (by omega)]) kk
theorem ws_Rt {i x : Nat} {f : Nat → Nat} (hf : R.t = f) (h : px_cd M pc = some (.iastore)) (hp : pc + 1 = p9) (hi : i < 42) {R1 : RA} (hA : WW A (R.s_t (un f i x)) o = WW A R1 o) (kk : wp X d M (p9, lv, st, WW A R1 o, k, z) Q) : wp X d M (pc, lv, .int (nI x) :: .int (nI i) :: .ref 27 :: st, WW A R o, k, z) Q := wz_iast (w := WW A R o) (w1 := WW A R1 o) h hp rfl (q_in hi (by decide)) (by rw [← hA]; subst hf; rw [q_c (by omega), q_un]; rfl) kk
theorem wl_Rnw {i : Nat} {f : Nat → Nat} (hf : R.nw = f) (h : px_cd M pc = some (.iaload)) (hp : pc + 1 = p9) (hi : i < 7) (kk : wp X d M (p9, lv, .int (nI (f i)) :: st, WW A R o, k, z) Q) : wp X d M (pc, lv, .int (nI i) :: .ref 28 :: st, WW A R o, k, z) Q := wz_iald (w := WW A R o) h hp rfl (q_in hi (by decide)) (by subst hf; show nI (R.nw _) = nI (R.nw i); rw [q_c (by omega)]) kk
theorem ws_Rnw {i x : Nat} {f : Nat → Nat} (hf : R.nw = f) (h : px_cd M pc = some (.iastore)) (hp : pc + 1 = p9) (hi : i < 7) {R1 : RA} (hA : WW A (R.s_nw (un f i x)) o = WW A R1 o) (kk : wp X d M (p9, lv, st, WW A R1 o, k, z) Q) : wp X d M (pc, lv, .int (nI x) :: .int (nI i) :: .ref 28 :: st, WW A R o, k, z) Q := wz_iast (w := WW A R o) (w1 := WW A R1 o) h hp rfl (q_in hi (by decide)) (by rw [← hA]; subst hf; rw [q_c (by omega), q_un]; rfl) kk
theorem wl_Rtx {i : Nat} {f : Nat → Nat} (hf : R.tx = f) (h : px_cd M pc = some (.iaload)) (hp : pc + 1 = p9) (hi : i < 100) (kk : wp X d M (p9, lv, .int (nI (f i)) :: st, WW A R o, k, z) Q) : wp X d M (pc, lv, .int (nI i) :: .ref 29 :: st, WW A R o, k, z) Q := wz_iald (w := WW A R o) h hp rfl (q_in hi (by decide)) (by subst hf; show nI (R.tx _) = nI (R.tx i); rw [q_c (by omega)]) kk
theorem ws_Rtx {i x : Nat} {f : Nat → Nat} (hf : R.tx = f) (h : px_cd M pc = some (.iastore)) (hp : pc + 1 = p9) (hi : i < 100) {R1 : RA} (hA : WW A (R.s_tx (un f i x)) o = WW A R1 o) (kk : wp X d M (p9, lv, st, WW A R1 o, k, z) Q) : wp X d M (pc, lv, .int (nI x) :: .int (nI i) :: .ref 29 :: st, WW A R o, k, z) Q := wz_iast (w := WW A R o) (w1 := WW A R1 o) h hp rfl (q_in hi (by decide)) (by rw [← hA]; subst hf; rw [q_c (by omega), q_un]; rfl) kk
theorem wl_Rln {i : Nat} {f : Nat → Nat} (hf : R.ln = f) (h : px_cd M pc = some (.iaload)) (hp : pc + 1 = p9) (hi : i < 30) (kk : wp X d M (p9, lv, .int (nI (f i)) :: st, WW A R o, k, z) Q) : wp X d M (pc, lv, .int (nI i) :: .ref 30 :: st, WW A R o, k, z) Q := wz_iald (w := WW A R o) h hp rfl (q_in hi (by decide)) (by subst hf; show nI (R.ln _) = nI (R.ln i); rw [q_c (by omega)]) kk
theorem ws_Rln {i x : Nat} {f : Nat → Nat} (hf : R.ln = f) (h : px_cd M pc = some (.iastore)) (hp : pc + 1 = p9) (hi : i < 30) {R1 : RA} (hA : WW A (R.s_ln (un f i x)) o = WW A R1 o) (kk : wp X d M (p9, lv, st, WW A R1 o, k, z) Q) : wp X d M (pc, lv, .int (nI x) :: .int (nI i) :: .ref 30 :: st, WW A R o, k, z) Q := wz_iast (w := WW A R o) (w1 := WW A R1 o) h hp rfl (q_in hi (by decide)) (by rw [← hA]; subst hf; rw [q_c (by omega), q_un]; rfl) kk
theorem wl_Rrr {i : Nat} {f : Nat → Nat} (hf : R.rr = f) (h : px_cd M pc = some (.iaload)) (hp : pc + 1 = p9) (hi : i < 1200) (kk : wp X d M (p9, lv, .int (nI (f i)) :: st, WW A R o, k, z) Q) : wp X d M (pc, lv, .int (nI i) :: .ref 31 :: st, WW A R o, k, z) Q := wz_iald (w := WW A R o) h hp rfl (q_in hi (by decide)) (by subst hf; show nI (R.rr _) = nI (R.rr i); rw [q_c (by omega)]) kk
theorem ws_Rrr {i x : Nat} {f : Nat → Nat} (hf : R.rr = f) (h : px_cd M pc = some (.iastore)) (hp : pc + 1 = p9) (hi : i < 1200) {R1 : RA} (hA : WW A (R.s_rr (un f i x)) o = WW A R1 o) (kk : wp X d M (p9, lv, st, WW A R1 o, k, z) Q) : wp X d M (pc, lv, .int (nI x) :: .int (nI i) :: .ref 31 :: st, WW A R o, k, z) Q := wz_iast (w := WW A R o) (w1 := WW A R1 o) h hp rfl (q_in hi (by decide)) (by rw [← hA]; subst hf; rw [q_c (by omega), q_un]; rfl) kk
theorem wl_Rcm {i : Nat} {f : Nat → Nat} (hf : R.cm = f) (h : px_cd M pc = some (.iaload)) (hp : pc + 1 = p9) (hi : i < 400) (kk : wp X d M (p9, lv, .int (nI (f i)) :: st, WW A R o, k, z) Q) : wp X d M (pc, lv, .int (nI i) :: .ref 32 :: st, WW A R o, k, z) Q := wz_iald (w := WW A R o) h hp rfl (q_in hi (by decide)) (by subst hf; show nI (R.cm _) = nI (R.cm i); rw [q_c (by omega)]) kk
theorem ws_Rcm {i x : Nat} {f : Nat → Nat} (hf : R.cm = f) (h : px_cd M pc = some (.iastore)) (hp : pc + 1 = p9) (hi : i < 400) {R1 : RA} (hA : WW A (R.s_cm (un f i x)) o = WW A R1 o) (kk : wp X d M (p9, lv, st, WW A R1 o, k, z) Q) : wp X d M (pc, lv, .int (nI x) :: .int (nI i) :: .ref 32 :: st, WW A R o, k, z) Q := wz_iast (w := WW A R o) (w1 := WW A R1 o) h hp rfl (q_in hi (by decide)) (by rw [← hA]; subst hf; rw [q_c (by omega), q_un]; rfl) kk
theorem wl_Rki {i : Nat} {f : Nat → Nat} (hf : R.ki = f) (h : px_cd M pc = some (.iaload)) (hp : pc + 1 = p9) (hi : i < 8) (kk : wp X d M (p9, lv, .int (nI (f i)) :: st, WW A R o, k, z) Q) : wp X d M (pc, lv, .int (nI i) :: .ref 33 :: st, WW A R o, k, z) Q := wz_iald (w := WW A R o) h hp rfl (q_in hi (by decide)) (by subst hf; show nI (R.ki _) = nI (R.ki i); rw [q_c (by omega)]) kk
theorem ws_Rki {i x : Nat} {f : Nat → Nat} (hf : R.ki = f) (h : px_cd M pc = some (.iastore)) (hp : pc + 1 = p9) (hi : i < 8) {R1 : RA} (hA : WW A (R.s_ki (un f i x)) o = WW A R1 o) (kk : wp X d M (p9, lv, st, WW A R1 o, k, z) Q) : wp X d M (pc, lv, .int (nI x) :: .int (nI i) :: .ref 33 :: st, WW A R o, k, z) Q := wz_iast (w := WW A R o) (w1 := WW A R1 o) h hp rfl (q_in hi (by decide)) (by rw [← hA]; subst hf; rw [q_c (by omega), q_un]; rfl) kk
theorem wl_Rfr {i : Nat} {f : Nat → Nat} (hf : R.fr = f) (h : px_cd M pc = some (.iaload)) (hp : pc + 1 = p9) (hi : i < 8) (kk : wp X d M (p9, lv, .int (nI (f i)) :: st, WW A R o, k, z) Q) : wp X d M (pc, lv, .int (nI i) :: .ref 34 :: st, WW A R o, k, z) Q := wz_iald (w := WW A R o) h hp rfl (q_in hi (by decide)) (by subst hf; show nI (R.fr _) = nI (R.fr i); rw [q_c (by omega)]) kk
theorem ws_Rfr {i x : Nat} {f : Nat → Nat} (hf : R.fr = f) (h : px_cd M pc = some (.iastore)) (hp : pc + 1 = p9) (hi : i < 8) {R1 : RA} (hA : WW A (R.s_fr (un f i x)) o = WW A R1 o) (kk : wp X d M (p9, lv, st, WW A R1 o, k, z) Q) : wp X d M (pc, lv, .int (nI x) :: .int (nI i) :: .ref 34 :: st, WW A R o, k, z) Q := wz_iast (w := WW A R o) (w1 := WW A R1 o) h hp rfl (q_in hi (by decide)) (by rw [← hA]; subst hf; rw [q_c (by omega), q_un]; rfl) kk
theorem wl_Rmi {i : Nat} {f : Nat → Nat} (hf : R.mi = f) (h : px_cd M pc = some (.iaload)) (hp : pc + 1 = p9) (hi : i < 8) (kk : wp X d M (p9, lv, .int (nI (f i)) :: st, WW A R o, k, z) Q) : wp X d M (pc, lv, .int (nI i) :: .ref 35 :: st, WW A R o, k, z) Q := wz_iald (w := WW A R o) h hp rfl (q_in hi (by decide)) (by subst hf; show nI (R.mi _) = nI (R.mi i); rw [q_c (by omega)]) kk
theorem ws_Rmi {i x : Nat} {f : Nat → Nat} (hf : R.mi = f) (h : px_cd M pc = some (.iastore)) (hp : pc + 1 = p9) (hi : i < 8) {R1 : RA} (hA : WW A (R.s_mi (un f i x)) o = WW A R1 o) (kk : wp X d M (p9, lv, st, WW A R1 o, k, z) Q) : wp X d M (pc, lv, .int (nI x) :: .int (nI i) :: .ref 35 :: st, WW A R o, k, z) Q := wz_iast (w := WW A R o) (w1 := WW A R1 o) h hp rfl (q_in hi (by decide)) (by rw [← hA]; subst hf; rw [q_c (by omega), q_un]; rfl) kk
theorem wl_Rgo {i : Nat} {f : Nat → Nat} (hf : R.go = f) (h : px_cd M pc = some (.iaload)) (hp : pc + 1 = p9) (hi : i < 8) (kk : wp X d M (p9, lv, .int (nI (f i)) :: st, WW A R o, k, z) Q) : wp X d M (pc, lv, .int (nI i) :: .ref 36 :: st, WW A R o, k, z) Q := wz_iald (w := WW A R o) h hp rfl (q_in hi (by decide)) (by subst hf; show nI (R.go _) = nI (R.go i); rw [q_c (by omega)]) kk
theorem ws_Rgo {i x : Nat} {f : Nat → Nat} (hf : R.go = f) (h : px_cd M pc = some (.iastore)) (hp : pc + 1 = p9) (hi : i < 8) {R1 : RA} (hA : WW A (R.s_go (un f i x)) o = WW A R1 o) (kk : wp X d M (p9, lv, st, WW A R1 o, k, z) Q) : wp X d M (pc, lv, .int (nI x) :: .int (nI i) :: .ref 36 :: st, WW A R o, k, z) Q := wz_iast (w := WW A R o) (w1 := WW A R1 o) h hp rfl (q_in hi (by decide)) (by rw [← hA]; subst hf; rw [q_c (by omega), q_un]; rfl) kk
theorem wl_Rus {i : Nat} {f : Nat → Nat} (hf : R.us = f) (h : px_cd M pc = some (.iaload)) (hp : pc + 1 = p9) (hi : i < 8) (kk : wp X d M (p9, lv, .int (nI (f i)) :: st, WW A R o, k, z) Q) : wp X d M (pc, lv, .int (nI i) :: .ref 37 :: st, WW A R o, k, z) Q := wz_iald (w := WW A R o) h hp rfl (q_in hi (by decide)) (by subst hf; show nI (R.us _) = nI (R.us i); rw [q_c (by omega)]) kk
theorem ws_Rus {i x : Nat} {f : Nat → Nat} (hf : R.us = f) (h : px_cd M pc = some (.iastore)) (hp : pc + 1 = p9) (hi : i < 8) {R1 : RA} (hA : WW A (R.s_us (un f i x)) o = WW A R1 o) (kk : wp X d M (p9, lv, st, WW A R1 o, k, z) Q) : wp X d M (pc, lv, .int (nI x) :: .int (nI i) :: .ref 37 :: st, WW A R o, k, z) Q := wz_iast (w := WW A R o) (w1 := WW A R1 o) h hp rfl (q_in hi (by decide)) (by rw [← hA]; subst hf; rw [q_c (by omega), q_un]; rfl) kk
theorem wl_Rud {i : Nat} {f : Nat → Nat} (hf : R.ud = f) (h : px_cd M pc = some (.iaload)) (hp : pc + 1 = p9) (hi : i < 96) (kk : wp X d M (p9, lv, .int (nI (f i)) :: st, WW A R o, k, z) Q) : wp X d M (pc, lv, .int (nI i) :: .ref 38 :: st, WW A R o, k, z) Q := wz_iald (w := WW A R o) h hp rfl (q_in hi (by decide)) (by subst hf; show nI (R.ud _) = nI (R.ud i); rw [q_c (by omega)]) kk
theorem ws_Rud {i x : Nat} {f : Nat → Nat} (hf : R.ud = f) (h : px_cd M pc = some (.iastore)) (hp : pc + 1 = p9) (hi : i < 96) {R1 : RA} (hA : WW A (R.s_ud (un f i x)) o = WW A R1 o) (kk : wp X d M (p9, lv, st, WW A R1 o, k, z) Q) : wp X d M (pc, lv, .int (nI x) :: .int (nI i) :: .ref 38 :: st, WW A R o, k, z) Q := wz_iast (w := WW A R o) (w1 := WW A R1 o) h hp rfl (q_in hi (by decide)) (by rw [← hA]; subst hf; rw [q_c (by omega), q_un]; rfl) kk
theorem wl_Rdi {i : Nat} {f : Nat → Nat} (hf : R.di = f) (h : px_cd M pc = some (.iaload)) (hp : pc + 1 = p9) (hi : i < 8) (kk : wp X d M (p9, lv, .int (nI (f i)) :: st, WW A R o, k, z) Q) : wp X d M (pc, lv, .int (nI i) :: .ref 39 :: st, WW A R o, k, z) Q := wz_iald (w := WW A R o) h hp rfl (q_in hi (by decide)) (by subst hf; show nI (R.di _) = nI (R.di i); rw [q_c (by omega)]) kk
theorem ws_Rdi {i x : Nat} {f : Nat → Nat} (hf : R.di = f) (h : px_cd M pc = some (.iastore)) (hp : pc + 1 = p9) (hi : i < 8) {R1 : RA} (hA : WW A (R.s_di (un f i x)) o = WW A R1 o) (kk : wp X d M (p9, lv, st, WW A R1 o, k, z) Q) : wp X d M (pc, lv, .int (nI x) :: .int (nI i) :: .ref 39 :: st, WW A R o, k, z) Q := wz_iast (w := WW A R o) (w1 := WW A R1 o) h hp rfl (q_in hi (by decide)) (by rw [← hA]; subst hf; rw [q_c (by omega), q_un]; rfl) kk
theorem wl_Rs {i : Nat} {f : Nat → Nat} (hf : R.s = f) (h : px_cd M pc = some (.iaload)) (hp : pc + 1 = p9) (hi : i < 7) (kk : wp X d M (p9, lv, .int (nI (f i)) :: st, WW A R o, k, z) Q) : wp X d M (pc, lv, .int (nI i) :: .ref 40 :: st, WW A R o, k, z) Q := wz_iald (w := WW A R o) h hp rfl (q_in hi (by decide)) (by subst hf; show nI (R.s _) = nI (R.s i); rw [q_c (by omega)]) kk
theorem ws_Rs {i x : Nat} {f : Nat → Nat} (hf : R.s = f) (h : px_cd M pc = some (.iastore)) (hp : pc + 1 = p9) (hi : i < 7) {R1 : RA} (hA : WW A (R.s_s (un f i x)) o = WW A R1 o) (kk : wp X d M (p9, lv, st, WW A R1 o, k, z) Q) : wp X d M (pc, lv, .int (nI x) :: .int (nI i) :: .ref 40 :: st, WW A R o, k, z) Q := wz_iast (w := WW A R o) (w1 := WW A R1 o) h hp rfl (q_in hi (by decide)) (by rw [← hA]; subst hf; rw [q_c (by omega), q_un]; rfl) kk
theorem wl_Rot {i : Nat} {f : Nat → Nat} (hf : R.ot = f) (h : px_cd M pc = some (.iaload)) (hp : pc + 1 = p9) (hi : i < 7) (kk : wp X d M (p9, lv, .int (nI (f i)) :: st, WW A R o, k, z) Q) : wp X d M (pc, lv, .int (nI i) :: .ref 41 :: st, WW A R o, k, z) Q := wz_iald (w := WW A R o) h hp rfl (q_in hi (by decide)) (by subst hf; show nI (R.ot _) = nI (R.ot i); rw [q_c (by omega)]) kk
theorem ws_Rot {i x : Nat} {f : Nat → Nat} (hf : R.ot = f) (h : px_cd M pc = some (.iastore)) (hp : pc + 1 = p9) (hi : i < 7) {R1 : RA} (hA : WW A (R.s_ot (un f i x)) o = WW A R1 o) (kk : wp X d M (p9, lv, st, WW A R1 o, k, z) Q) : wp X d M (pc, lv, .int (nI x) :: .int (nI i) :: .ref 41 :: st, WW A R o, k, z) Q := wz_iast (w := WW A R o) (w1 := WW A R1 o) h hp rfl (q_in hi (by decide)) (by rw [← hA]; subst hf; rw [q_c (by omega), q_un]; rfl) kk
theorem wl_Ris {i : Nat} {f : Nat → Nat} (hf : R.is = f) (h : px_cd M pc = some (.baload)) (hp : pc + 1 = p9) (hi : i < 5040) (kk : wp X d M (p9, lv, .int (nI (f i)) :: st, WW A R o, k, z) Q) : wp X d M (pc, lv, .int (nI i) :: .ref 42 :: st, WW A R o, k, z) Q := wz_bald (w := WW A R o) h hp rfl (q_in hi (by decide)) (by subst hf; show nI (R.is _) = nI (R.is i); rw [q_c (by omega)]) kk
theorem ws_Ris {i x : Nat} {f : Nat → Nat} (hf : R.is = f) (h : px_cd M pc = some (.bastore)) (hp : pc + 1 = p9) (hi : i < 5040) (hx : x < 2) {R1 : RA} (hA : WW A (R.s_is (un f i x)) o = WW A R1 o) (kk : wp X d M (p9, lv, st, WW A R1 o, k, z) Q) : wp X d M (pc, lv, .int (nI x) :: .int (nI i) :: .ref 42 :: st, WW A R o, k, z) Q := wz_bast (w := WW A R o) (w1 := WW A R1 o) h hp rfl (q_in hi (by decide)) (by rw [← hA]; subst hf; rw [q_c (by omega), q_1, Nat.mod_eq_of_lt hx, q_un]; rfl) kk
theorem wl_Rqu {i : Nat} {f : Nat → Nat} (hf : R.qu = f) (h : px_cd M pc = some (.iaload)) (hp : pc + 1 = p9) (hi : i < 5040) (kk : wp X d M (p9, lv, .int (nI (f i)) :: st, WW A R o, k, z) Q) : wp X d M (pc, lv, .int (nI i) :: .ref 43 :: st, WW A R o, k, z) Q := wz_iald (w := WW A R o) h hp rfl (q_in hi (by decide)) (by subst hf; show nI (R.qu _) = nI (R.qu i); rw [q_c (by omega)]) kk
theorem ws_Rqu {i x : Nat} {f : Nat → Nat} (hf : R.qu = f) (h : px_cd M pc = some (.iastore)) (hp : pc + 1 = p9) (hi : i < 5040) {R1 : RA} (hA : WW A (R.s_qu (un f i x)) o = WW A R1 o) (kk : wp X d M (p9, lv, st, WW A R1 o, k, z) Q) : wp X d M (pc, lv, .int (nI x) :: .int (nI i) :: .ref 43 :: st, WW A R o, k, z) Q := wz_iast (w := WW A R o) (w1 := WW A R1 o) h hp rfl (q_in hi (by decide)) (by rw [← hA]; subst hf; rw [q_c (by omega), q_un]; rfl) kk
theorem wl_Rfa {i : Nat} {f : Nat → Nat} (hf : R.fa = f) (h : px_cd M pc = some (.iaload)) (hp : pc + 1 = p9) (hi : i < 343) (kk : wp X d M (p9, lv, .int (nI (f i)) :: st, WW A R o, k, z) Q) : wp X d M (pc, lv, .int (nI i) :: .ref 44 :: st, WW A R o, k, z) Q := wz_iald (w := WW A R o) h hp rfl (q_in hi (by decide)) (by subst hf; show nI (R.fa _) = nI (R.fa i); rw [q_c (by omega)]) kk
theorem ws_Rfa {i x : Nat} {f : Nat → Nat} (hf : R.fa = f) (h : px_cd M pc = some (.iastore)) (hp : pc + 1 = p9) (hi : i < 343) {R1 : RA} (hA : WW A (R.s_fa (un f i x)) o = WW A R1 o) (kk : wp X d M (p9, lv, st, WW A R1 o, k, z) Q) : wp X d M (pc, lv, .int (nI x) :: .int (nI i) :: .ref 44 :: st, WW A R o, k, z) Q := wz_iast (w := WW A R o) (w1 := WW A R1 o) h hp rfl (q_in hi (by decide)) (by rw [← hA]; subst hf; rw [q_c (by omega), q_un]; rfl) kk
theorem wl_Rte {i : Nat} {f : Nat → Nat} (hf : R.te = f) (h : px_cd M pc = some (.iaload)) (hp : pc + 1 = p9) (hi : i < 8) (kk : wp X d M (p9, lv, .int (nI (f i)) :: st, WW A R o, k, z) Q) : wp X d M (pc, lv, .int (nI i) :: .ref 45 :: st, WW A R o, k, z) Q := wz_iald (w := WW A R o) h hp rfl (q_in hi (by decide)) (by subst hf; show nI (R.te _) = nI (R.te i); rw [q_c (by omega)]) kk
theorem ws_Rte {i x : Nat} {f : Nat → Nat} (hf : R.te = f) (h : px_cd M pc = some (.iastore)) (hp : pc + 1 = p9) (hi : i < 8) {R1 : RA} (hA : WW A (R.s_te (un f i x)) o = WW A R1 o) (kk : wp X d M (p9, lv, st, WW A R1 o, k, z) Q) : wp X d M (pc, lv, .int (nI x) :: .int (nI i) :: .ref 45 :: st, WW A R o, k, z) Q := wz_iast (w := WW A R o) (w1 := WW A R1 o) h hp rfl (q_in hi (by decide)) (by rw [← hA]; subst hf; rw [q_c (by omega), q_un]; rfl) kk
theorem wa_v {N j i : Nat} {As rest : List Value} {fs : List Value} (h : px_cd M pc = some (.invokevirtual j)) (hk : px_kl M j = some N) (h0 : px_kd N = 0) (ha : As.length + 1 = px_ar N) (hw : Nat.ble (px_w rest) 8 = true) (hi : w[i]? = some (.inr (.inr (px_on N, fs)))) (hs : As.reverse ++ .ref i :: rest = st) : px_cal M pc st w = some (N, .ref i :: As, rest) := by
  have hs2 : (Value.ref i :: As).reverse ++ rest = st := by rw [List.reverse_cons, List.append_assoc]; exact hs
  subst hs2
  obtain ⟨t1, t2, t3⟩ := tz_take (As := Value.ref i :: As) (rest := rest) (m := px_ar N) (by rw [List.length_cons]; exact ha)
  unfold px_cal
  rw [h]
  dsimp only
  rw [hk]
  dsimp only
  rw [t1, t2, h0]
  simp only [px_rcv, hi, Nat.beq_refl, hw, Nat.ble_eq_true_of_le t3, Bool.and_self]
theorem wa_i {N j i : Nat} {As rest : List Value} {fs : List Value} (h : px_cd M pc = some (.invokespecial j)) (hk : px_kl M j = some N) (h0 : px_kd N = 2) (ha : As.length + 1 = px_ar N) (hw : Nat.ble (px_w rest) 8 = true) (hi : w[i]? = some (.inr (.inr (px_on N, fs)))) (hs : As.reverse ++ .ref i :: rest = st) : px_cal M pc st w = some (N, .ref i :: As, rest) := by
  have hs2 : (Value.ref i :: As).reverse ++ rest = st := by rw [List.reverse_cons, List.append_assoc]; exact hs
  subst hs2
  obtain ⟨t1, t2, t3⟩ := tz_take (As := Value.ref i :: As) (rest := rest) (m := px_ar N) (by rw [List.length_cons]; exact ha)
  unfold px_cal
  rw [h]
  dsimp only
  rw [hk]
  dsimp only
  rw [t1, t2, h0]
  simp only [px_rcv, hi, Nat.beq_refl, hw, Nat.ble_eq_true_of_le t3, Bool.and_self]
end WZ
