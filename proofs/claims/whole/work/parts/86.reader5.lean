/-! THE READER OF THE CLASS: what holds while a text is read; readRows (wip/whole/gen/mk86.py) -/
/-- only what the reader needs for reading has changed -/
def sR (A A1 : CA) : Prop := A1.fa = A.fa ∧ A1.qu = A.qu ∧ A1.qn = A.qn ∧ A1.pa = A.pa ∧ A1.fc = A.fc ∧ A1.fo = A.fo ∧ A1.se = A.se ∧ A1.st = A.st ∧ A1.dc = A.dc ∧ A1.dn = A.dn ∧ A1.wc = A.wc ∧ A1.rl = A.rl ∧ A1.rr = A.rr ∧ A1.wg = A.wg ∧ A1.sc = A.sc ∧ A1.sg = A.sg ∧ A1.su = A.su ∧ A1.us = A.us ∧ A1.bc = A.bc ∧ A1.tx = A.tx ∧ A1.od = A.od ∧ A1.t = A.t ∧ A1.fl = A.fl ∧ A1.sl = A.sl ∧ A1.P = A.P ∧ A1.Mv = A.Mv
theorem sR.fa {A A1 : CA} (h : sR A A1) : A1.fa = A.fa := h.1
theorem sR.qu {A A1 : CA} (h : sR A A1) : A1.qu = A.qu := h.2.1
theorem sR.qn {A A1 : CA} (h : sR A A1) : A1.qn = A.qn := h.2.2.1
theorem sR.pa {A A1 : CA} (h : sR A A1) : A1.pa = A.pa := h.2.2.2.1
theorem sR.fc {A A1 : CA} (h : sR A A1) : A1.fc = A.fc := h.2.2.2.2.1
theorem sR.fo {A A1 : CA} (h : sR A A1) : A1.fo = A.fo := h.2.2.2.2.2.1
theorem sR.se {A A1 : CA} (h : sR A A1) : A1.se = A.se := h.2.2.2.2.2.2.1
theorem sR.st {A A1 : CA} (h : sR A A1) : A1.st = A.st := h.2.2.2.2.2.2.2.1
theorem sR.dc {A A1 : CA} (h : sR A A1) : A1.dc = A.dc := h.2.2.2.2.2.2.2.2.1
theorem sR.dn {A A1 : CA} (h : sR A A1) : A1.dn = A.dn := h.2.2.2.2.2.2.2.2.2.1
theorem sR.wc {A A1 : CA} (h : sR A A1) : A1.wc = A.wc := h.2.2.2.2.2.2.2.2.2.2.1
theorem sR.rl {A A1 : CA} (h : sR A A1) : A1.rl = A.rl := h.2.2.2.2.2.2.2.2.2.2.2.1
theorem sR.rr {A A1 : CA} (h : sR A A1) : A1.rr = A.rr := h.2.2.2.2.2.2.2.2.2.2.2.2.1
theorem sR.wg {A A1 : CA} (h : sR A A1) : A1.wg = A.wg := h.2.2.2.2.2.2.2.2.2.2.2.2.2.1
theorem sR.sc {A A1 : CA} (h : sR A A1) : A1.sc = A.sc := h.2.2.2.2.2.2.2.2.2.2.2.2.2.2.1
theorem sR.sg {A A1 : CA} (h : sR A A1) : A1.sg = A.sg := h.2.2.2.2.2.2.2.2.2.2.2.2.2.2.2.1
theorem sR.su {A A1 : CA} (h : sR A A1) : A1.su = A.su := h.2.2.2.2.2.2.2.2.2.2.2.2.2.2.2.2.1
theorem sR.us {A A1 : CA} (h : sR A A1) : A1.us = A.us := h.2.2.2.2.2.2.2.2.2.2.2.2.2.2.2.2.2.1
theorem sR.bc {A A1 : CA} (h : sR A A1) : A1.bc = A.bc := h.2.2.2.2.2.2.2.2.2.2.2.2.2.2.2.2.2.2.1
theorem sR.tx {A A1 : CA} (h : sR A A1) : A1.tx = A.tx := h.2.2.2.2.2.2.2.2.2.2.2.2.2.2.2.2.2.2.2.1
theorem sR.od {A A1 : CA} (h : sR A A1) : A1.od = A.od := h.2.2.2.2.2.2.2.2.2.2.2.2.2.2.2.2.2.2.2.2.1
theorem sR.t {A A1 : CA} (h : sR A A1) : A1.t = A.t := h.2.2.2.2.2.2.2.2.2.2.2.2.2.2.2.2.2.2.2.2.2.1
theorem sR.fl {A A1 : CA} (h : sR A A1) : A1.fl = A.fl := h.2.2.2.2.2.2.2.2.2.2.2.2.2.2.2.2.2.2.2.2.2.2.1
theorem sR.sl {A A1 : CA} (h : sR A A1) : A1.sl = A.sl := h.2.2.2.2.2.2.2.2.2.2.2.2.2.2.2.2.2.2.2.2.2.2.2.1
theorem sR.P {A A1 : CA} (h : sR A A1) : A1.P = A.P := h.2.2.2.2.2.2.2.2.2.2.2.2.2.2.2.2.2.2.2.2.2.2.2.2.1
theorem sR.Mv {A A1 : CA} (h : sR A A1) : A1.Mv = A.Mv := h.2.2.2.2.2.2.2.2.2.2.2.2.2.2.2.2.2.2.2.2.2.2.2.2.2
theorem sR.rf {A : CA} : sR A A := ⟨rfl, rfl, rfl, rfl, rfl, rfl, rfl, rfl, rfl, rfl, rfl, rfl, rfl, rfl, rfl, rfl, rfl, rfl, rfl, rfl, rfl, rfl, rfl, rfl, rfl, rfl⟩
theorem sR.tr {A A1 A2 : CA} (h : sR A A1) (h2 : sR A1 A2) : sR A A2 := ⟨h2.fa.trans h.fa, h2.qu.trans h.qu, h2.qn.trans h.qn, h2.pa.trans h.pa, h2.fc.trans h.fc, h2.fo.trans h.fo, h2.se.trans h.se, h2.st.trans h.st, h2.dc.trans h.dc, h2.dn.trans h.dn, h2.wc.trans h.wc, h2.rl.trans h.rl, h2.rr.trans h.rr, h2.wg.trans h.wg, h2.sc.trans h.sc, h2.sg.trans h.sg, h2.su.trans h.su, h2.us.trans h.us, h2.bc.trans h.bc, h2.tx.trans h.tx, h2.od.trans h.od, h2.t.trans h.t, h2.fl.trans h.fl, h2.sl.trans h.sl, h2.P.trans h.P, h2.Mv.trans h.Mv⟩
theorem BV_cp {od : Nat → Nat} : ∀ (j f : Nat) (b : Nat × (Nat → Nat) × Nat), BV od b → f + j ≤ b.1 → BV od (cp f j b)
  | 0, _, b, h, _ => h
  | j + 1, f, b, h, hj => BV_cp j (f + 1) _ (BV_pu h (h.2.1 f (by omega))) (by have := pu_le (b := b) (x := b.2.1 f); omega)
theorem BV_rp {od : Nat → Nat} {f e : Nat} (hf : f ≤ e) : ∀ (j : Nat) (b : Nat × (Nat → Nat) × Nat), BV od b → e ≤ b.1 → BV od (rp f e j b)
  | 0, b, h, _ => h
  | j + 1, b, h, he => BV_rp hf j _ (BV_cp _ _ _ h (by omega)) (Nat.le_trans he (cp_ge _ _ _))
theorem rp_ge {f e : Nat} : ∀ (j : Nat) (b : Nat × (Nat → Nat) × Nat), b.1 ≤ (rp f e j b).1
  | 0, b => Nat.le_refl _
  | j + 1, b => Nat.le_trans (cp_ge (e - f) f b) (rp_ge j _)
theorem rlt_1 {od : Nat → Nat} {p x : Nat} {b : Nat × (Nat → Nat) × Nat} : (rlt od p x b).1 = b.1 := by
  unfold rlt
  split <;> rfl
theorem ro_mk {od : Nat → Nat} (ho : ∀ m, m < 6 → 1 ≤ od m ∧ od m ≤ 12) {m x : Nat} (hm : m < 6) : ro od (m * 16 + x % od m) := by
  have h1 := ho m hm
  have h2 : x % od m < od m := Nat.mod_lt _ (by omega)
  have h3 : (m * 16 + x % od m) / 16 = m := by omega
  have h4 : (m * 16 + x % od m) % 16 = x % od m := by omega
  exact ⟨by omega, by rw [h3, h4]; exact h2⟩
theorem BV_rlt {od : Nat → Nat} (ho : ∀ m, m < 6 → 1 ≤ od m ∧ od m ≤ 12) {p x : Nat} {b : Nat × (Nat → Nat) × Nat} (h : BV od b) : BV od (rlt od p x b) := by
  unfold rlt
  split
  · rename_i hp
    refine ⟨h.1, fun i hi => ?_, h.2.2⟩
    show ro od (un b.2.1 p _ i)
    by_cases hq : i = p
    · rw [hq, un_at]
      exact ro_mk ho (by have := (h.2.1 p hp).1; omega)
    · rw [un_ne hq]; exact h.2.1 i hi
  · exact h
theorem BV_rv {od : Nat → Nat} (ho : ∀ m, m < 6 → 1 ≤ od m ∧ od m ≤ 12) {lo hi v : Nat} {f : Nat → Nat} (h : BV od (hi, f, v)) : BV od (hi, rv od lo hi f, v) := by
  refine ⟨h.1, fun i hi' => ?_, h.2.2⟩
  show ro od (rv od lo hi f i)
  have hi2 : i < hi := hi'
  unfold rv
  split
  · exact ro_tw ho (h.2.1 _ (by show _ < hi; omega))
  · exact h.2.1 i hi'
set_option maxHeartbeats 4000000 in
theorem NV_nx {A A1 : CA} {u : Nat} (hu : u < 256) (N : NV A) (e : nx A u = some A1) : NV A1 ∧ sR A A1 := by
  obtain ⟨T, hb, h8, hk, hs, hp, hl, hn⟩ := N
  have h4 : A.rc ≤ 400 := hb.1
  have hb3 : A.ov < 2 := hb.2.2
  unfold nx at e
  by_cases h1 : u = 40 ∨ u = 91
  · rw [if_pos h1] at e
    by_cases h2 : A.dp < 8
    · rw [if_pos h2] at e
      cases e
      refine ⟨⟨T, hb, (show A.dp + 1 ≤ 8 by omega), fun q => ?_, fun i hi => ?_, fun q => absurd rfl q, hl, (show 0 < 3 by decide)⟩, ⟨rfl, rfl, rfl, rfl, rfl, rfl, rfl, rfl, rfl, rfl, rfl, rfl, rfl, rfl, rfl, rfl, rfl, rfl, rfl, rfl, rfl, rfl, rfl, rfl, rfl, rfl⟩⟩
      · show un A.kd A.dp u q < 256
        by_cases hq : q = A.dp
        · rw [hq, un_at]; exact hu
        · rw [un_ne hq]; exact hk q
      · show un A.ks A.dp A.rc i ≤ A.rc ∧ (un A.kd A.dp u i = 44 → un A.ks A.dp A.rc i ≤ A.km i ∧ A.km i ≤ A.rc)
        have hi2 : i < A.dp + 1 := hi
        by_cases hq : i = A.dp
        · rw [hq, un_at, un_at]; exact ⟨Nat.le_refl _, fun h => by omega⟩
        · rw [un_ne hq, un_ne hq]; exact hs i (by omega)
    · rw [if_neg h2] at e; cases e
  rw [if_neg h1] at e
  by_cases h2 : u = 44
  · rw [if_pos h2] at e
    by_cases h3 : 0 < A.dp ∧ A.kd (A.dp - 1) = 91
    · rw [if_pos h3] at e
      cases e
      refine ⟨⟨T, hb, h8, fun q => ?_, fun i hi => ?_, fun q => absurd rfl q, hl, (show 0 < 3 by decide)⟩, ⟨rfl, rfl, rfl, rfl, rfl, rfl, rfl, rfl, rfl, rfl, rfl, rfl, rfl, rfl, rfl, rfl, rfl, rfl, rfl, rfl, rfl, rfl, rfl, rfl, rfl, rfl⟩⟩
      · show un A.kd (A.dp - 1) 44 q < 256
        by_cases hq : q = A.dp - 1
        · rw [hq, un_at]; decide
        · rw [un_ne hq]; exact hk q
      · show A.ks i ≤ A.rc ∧ (un A.kd (A.dp - 1) 44 i = 44 → A.ks i ≤ un A.km (A.dp - 1) A.rc i ∧ un A.km (A.dp - 1) A.rc i ≤ A.rc)
        have hi2 : i < A.dp := hi
        have h9 := hs i hi2
        by_cases hq : i = A.dp - 1
        · rw [hq, un_at, un_at]; rw [hq] at h9; exact ⟨h9.1, fun _ => ⟨h9.1, Nat.le_refl _⟩⟩
        · rw [un_ne hq, un_ne hq]; exact h9
    · rw [if_neg h3] at e; cases e
  rw [if_neg h2] at e
  by_cases h3 : u = 41
  · rw [if_pos h3] at e
    by_cases h3 : 0 < A.dp ∧ A.kd (A.dp - 1) = 40
    · rw [if_pos h3] at e
      cases e
      exact ⟨⟨T, hb, (show A.dp - 1 ≤ 8 by omega), hk, fun i hi => hs i (by have : i < A.dp - 1 := hi; omega), fun _ => (hs (A.dp - 1) (by omega)).1, (show 0 < 2 by decide), (show 2 < 3 by decide)⟩, ⟨rfl, rfl, rfl, rfl, rfl, rfl, rfl, rfl, rfl, rfl, rfl, rfl, rfl, rfl, rfl, rfl, rfl, rfl, rfl, rfl, rfl, rfl, rfl, rfl, rfl, rfl⟩⟩
    · rw [if_neg h3] at e; cases e
  rw [if_neg h3] at e
  by_cases h5 : u = 93
  · rw [if_pos h5] at e
    by_cases h3 : 0 < A.dp ∧ A.kd (A.dp - 1) = 44
    · rw [if_pos h3] at e
      cases e
      have h9 := hs (A.dp - 1) (by omega)
      have h10 := h9.2 h3.2
      have B1 := BV_pt T.oo (A.km (A.dp - 1) - A.ks (A.dp - 1)) (f := A.ks (A.dp - 1)) _ hb (show A.ks (A.dp - 1) + (A.km (A.dp - 1) - A.ks (A.dp - 1)) ≤ A.rc by omega)
      have G1 : A.rc ≤ _ := pt_ge (od := A.od) (f := A.ks (A.dp - 1)) (A.km (A.dp - 1) - A.ks (A.dp - 1)) (A.rc, A.bu, A.ov)
      have B2 := BV_pt T.oo (A.rc - A.km (A.dp - 1)) (f := A.km (A.dp - 1)) _ B1 (by omega)
      have G2 := Nat.le_trans G1 (pt_ge (od := A.od) (f := A.km (A.dp - 1)) (A.rc - A.km (A.dp - 1)) _)
      exact ⟨⟨T, B2, (show A.dp - 1 ≤ 8 by omega), hk, fun i hi => ⟨Nat.le_trans (hs i (by have : i < A.dp - 1 := hi; omega)).1 G2, fun e => ⟨((hs i (by have : i < A.dp - 1 := hi; omega)).2 e).1, Nat.le_trans ((hs i (by have : i < A.dp - 1 := hi; omega)).2 e).2 G2⟩⟩, fun _ => Nat.le_trans h9.1 G2, (show 0 < 2 by decide), (show 2 < 3 by decide)⟩, ⟨rfl, rfl, rfl, rfl, rfl, rfl, rfl, rfl, rfl, rfl, rfl, rfl, rfl, rfl, rfl, rfl, rfl, rfl, rfl, rfl, rfl, rfl, rfl, rfl, rfl, rfl⟩⟩
    · rw [if_neg h3] at e; cases e
  rw [if_neg h5] at e
  by_cases h6 : u = 39
  · rw [if_pos h6] at e
    by_cases h3 : A.sn ≠ 0
    · rw [if_pos h3] at e
      cases e
      exact ⟨⟨T, BV_rv T.oo hb, h8, hk, hs, fun q => absurd rfl q, hl, (show 0 < 3 by decide)⟩, ⟨rfl, rfl, rfl, rfl, rfl, rfl, rfl, rfl, rfl, rfl, rfl, rfl, rfl, rfl, rfl, rfl, rfl, rfl, rfl, rfl, rfl, rfl, rfl, rfl, rfl, rfl⟩⟩
    · rw [if_neg h3] at e; cases e
  rw [if_neg h6] at e
  by_cases h7 : 50 ≤ u ∧ u ≤ 57
  · rw [if_pos h7] at e
    by_cases h3 : A.sn = 2
    · rw [if_pos h3] at e
      have hp := hp (by omega)
      by_cases h9 : A.pl = 1
      · rw [if_pos h9] at e
        cases e
        have e1 : (rlt A.od A.ps (u - 48) (A.rc, A.bu, A.ov)).1 = A.rc := rlt_1
        refine ⟨⟨T, BV_rlt T.oo hb, h8, hk, fun i hi => ?_, ?_, hl, (show 1 < 3 by decide)⟩, ⟨rfl, rfl, rfl, rfl, rfl, rfl, rfl, rfl, rfl, rfl, rfl, rfl, rfl, rfl, rfl, rfl, rfl, rfl, rfl, rfl, rfl, rfl, rfl, rfl, rfl, rfl⟩⟩
        · show A.ks i ≤ (rlt A.od A.ps (u - 48) (A.rc, A.bu, A.ov)).1 ∧ (A.kd i = 44 → A.ks i ≤ A.km i ∧ A.km i ≤ (rlt A.od A.ps (u - 48) (A.rc, A.bu, A.ov)).1)
          rw [e1]; exact hs i hi
        · show _ → A.ps ≤ (rlt A.od A.ps (u - 48) (A.rc, A.bu, A.ov)).1
          rw [e1]; exact fun _ => hp
      · rw [if_neg h9] at e
        cases e
        have G : A.rc ≤ _ := rp_ge (f := A.ps) (e := A.rc) (u - 48 - 1) (A.rc, A.bu, A.ov)
        exact ⟨⟨T, BV_rp hp _ _ hb (Nat.le_refl _), h8, hk, fun i hi => ⟨Nat.le_trans (hs i hi).1 G, fun e => ⟨((hs i hi).2 e).1, Nat.le_trans ((hs i hi).2 e).2 G⟩⟩, fun _ => Nat.le_trans hp G, hl, (show 1 < 3 by decide)⟩, ⟨rfl, rfl, rfl, rfl, rfl, rfl, rfl, rfl, rfl, rfl, rfl, rfl, rfl, rfl, rfl, rfl, rfl, rfl, rfl, rfl, rfl, rfl, rfl, rfl, rfl, rfl⟩⟩
    · rw [if_neg h3] at e; cases e
  rw [if_neg h7] at e
  by_cases h9 : 97 ≤ u ∧ u - 97 < A.Mv
  · rw [if_pos h9] at e
    cases e
    have hm6 := T.m6
    have G : A.rc ≤ _ := pu_le (b := (A.rc, A.bu, A.ov)) (x := (u - 97) * 16 + 1 % A.od (u - 97))
    exact ⟨⟨T, BV_pu hb (ro_mk T.oo (by omega)), h8, hk, fun i hi => ⟨Nat.le_trans (hs i hi).1 G, fun e => ⟨((hs i hi).2 e).1, Nat.le_trans ((hs i hi).2 e).2 G⟩⟩, fun _ => G, (show 1 < 2 by decide), (show 2 < 3 by decide)⟩, ⟨rfl, rfl, rfl, rfl, rfl, rfl, rfl, rfl, rfl, rfl, rfl, rfl, rfl, rfl, rfl, rfl, rfl, rfl, rfl, rfl, rfl, rfl, rfl, rfl, rfl, rfl⟩⟩
  · rw [if_neg h9] at e; cases e
/-- j bytes from the i-th on: the place of the first that can't be there, and the reader behind all that were taken -/
def rt : Nat → Nat → CA → Nat × CA
  | 0, i, A => (i, A)
  | j + 1, i, A => match nx A (A.tx i) with
    | none => (i, A)
    | some A1 => rt j (i + 1) A1
theorem l_readRows {X : Nat × (Nat → Int32)} {d : Nat} {R : RA} {o : Nat → Int64} {k z : Nat} {Q : px_Z → Prop} : ∀ (j i : Nat) (A : CA), i + j = A.bc → A.bc ≤ 100 → (∀ q, A.tx q < 256) → NV A → Q (some (some (.int (nI (rt j i A).1))), WW (rt j i A).2 R o, k, z) → wp X (d + 5) 13 (22, [.ref 4, .int (nI i)], [], WW A R o, k, z) Q
  | 0, i, A, hj, hb, ht, N, kk => by
    obtain rfl : i = A.bc := by omega
    refine wz_iload_n (p9 := 23) rfl rfl rfl ?_
    refine wz_aload_n (p9 := 24) rfl rfl rfl ?_
    refine wz_get (v := .int (nI A.bc)) (p9 := 27) rfl rfl rfl rfl rfl ?_
    refine wn_icge (t9 := 51) (p9 := 30) rfl rfl rfl (by omega) (by omega) (fun _ => ?_) (fun h9 => by omega)
    refine wz_aload_n (p9 := 52) rfl rfl rfl ?_
    refine wz_get (v := .int (nI A.bc)) (p9 := 55) rfl rfl rfl rfl rfl ?_
    exact wz_reti rfl rfl kk
  | j + 1, i, A, hj, hb, ht, N, kk => by
    have hc := g_takesNext (X := X) (d := d) (A := A) (R := R) (o := o) (ht i) N
    have e9 : rt (j + 1) i A = match nx A (A.tx i) with
      | none => (i, A)
      | some A1 => rt j (i + 1) A1 := rfl
    cases e : nx A (A.tx i) with
    | none =>
      rw [e] at hc e9
      rw [e9] at kk
      refine wz_iload_n (p9 := 23) rfl rfl rfl ?_
      refine wz_aload_n (p9 := 24) rfl rfl rfl ?_
      refine wz_get (v := .int (nI A.bc)) (p9 := 27) rfl rfl rfl rfl rfl ?_
      refine wn_icge (t9 := 51) (p9 := 30) rfl rfl rfl (by omega) (by omega) (fun h9 => by omega) (fun _ => ?_)
      refine wz_aload_n (p9 := 31) rfl rfl rfl ?_
      refine wz_aload_n (p9 := 32) rfl rfl rfl ?_
      refine wz_get (v := .ref 5) (p9 := 35) rfl rfl rfl rfl rfl ?_
      refine wz_iload_n (p9 := 36) rfl rfl rfl ?_
      refine wl_Atx (f := A.tx) (p9 := 37) rfl rfl rfl (by omega) ?_
      refine wz_c1 (p9 := 40) (w1 := WW A R o) (u := .int (nI 0)) (wa_v (N := 14) (i := 4) (As := [.int (nI (A.tx i))]) (rest := []) rfl rfl rfl rfl rfl rfl rfl) rfl hc ?_
      refine wn_ifne (t9 := 45) (p9 := 43) rfl rfl rfl (by omega) (fun h9 => absurd h9 (by decide)) (fun _ => ?_)
      refine wz_iload_n (p9 := 44) rfl rfl rfl ?_
      exact wz_reti rfl rfl kk
    | some A1 =>
      rw [e] at hc e9
      rw [e9] at kk
      obtain ⟨N1, s1⟩ := NV_nx (ht i) N e
      refine wz_iload_n (p9 := 23) rfl rfl rfl ?_
      refine wz_aload_n (p9 := 24) rfl rfl rfl ?_
      refine wz_get (v := .int (nI A.bc)) (p9 := 27) rfl rfl rfl rfl rfl ?_
      refine wn_icge (t9 := 51) (p9 := 30) rfl rfl rfl (by omega) (by omega) (fun h9 => by omega) (fun _ => ?_)
      refine wz_aload_n (p9 := 31) rfl rfl rfl ?_
      refine wz_aload_n (p9 := 32) rfl rfl rfl ?_
      refine wz_get (v := .ref 5) (p9 := 35) rfl rfl rfl rfl rfl ?_
      refine wz_iload_n (p9 := 36) rfl rfl rfl ?_
      refine wl_Atx (f := A.tx) (p9 := 37) rfl rfl rfl (by omega) ?_
      refine wz_c1 (p9 := 40) (w1 := WW A1 R o) (u := .int (nI 1)) (wa_v (N := 14) (i := 4) (As := [.int (nI (A.tx i))]) (rest := []) rfl rfl rfl rfl rfl rfl rfl) rfl hc ?_
      refine wn_ifne (t9 := 45) (p9 := 43) rfl rfl rfl (by omega) (fun _ => ?_) (fun h9 => absurd h9 (by decide))
      refine wn_inc (b := 1) (l9 := [.ref 4, .int (nI (i + 1))]) (p9 := 48) rfl rfl rfl (by decide) rfl ?_
      refine wz_goto (p9 := 22) rfl rfl ?_
      exact l_readRows j (i + 1) A1 (by rw [s1.bc]; omega) (by rw [s1.bc]; exact hb) (by rw [s1.tx]; exact ht) N1 kk
theorem g_readRows {X : Nat × (Nat → Int32)} {d : Nat} {A : CA} {R : RA} {o : Nat → Int64} (hb : A.bc ≤ 100) (ht : ∀ q, A.tx q < 256) (N : NV (CA.s_sn (CA.s_ov (CA.s_rc (CA.s_dp A 0) 0) 0) 0)) : px_ev X (d + 6) 13 [.ref 4] (WW A R o) (some (some (.int (nI (rt A.bc 0 (CA.s_sn (CA.s_ov (CA.s_rc (CA.s_dp A 0) 0) 0) 0)).1))), WW ((rt A.bc 0 (CA.s_sn (CA.s_ov (CA.s_rc (CA.s_dp A 0) 0) 0) 0)).2) R o, 0, 0) := by
  refine wp_ev (d := d + 5) (by decide) rfl rfl (fun h => by cases h) ?_
  show wp X (d + 5) 13 (0, [.ref 4, .retAddr 0], [], WW A R o, 0, 0) _
  refine wz_aload_n (p9 := 1) rfl rfl rfl ?_
  refine wz_iconst (x := nI 0) (p9 := 2) rfl rfl (by decide) ?_
  refine wp_Adp (x := 0) (p9 := 5) rfl rfl rfl rfl (A1 := (CA.s_dp A 0)) rfl ?_
  refine wz_aload_n (p9 := 6) rfl rfl rfl ?_
  refine wz_iconst (x := nI 0) (p9 := 7) rfl rfl (by decide) ?_
  refine wp_Arc (x := 0) (p9 := 10) rfl rfl rfl rfl (A1 := (CA.s_dp (CA.s_rc A 0) 0)) rfl ?_
  refine wz_aload_n (p9 := 11) rfl rfl rfl ?_
  refine wz_iconst (x := nI 0) (p9 := 12) rfl rfl (by decide) ?_
  refine wp_Aov (x := 0) (p9 := 15) rfl rfl rfl rfl (by omega) (A1 := (CA.s_dp (CA.s_ov (CA.s_rc A 0) 0) 0)) rfl ?_
  refine wz_aload_n (p9 := 16) rfl rfl rfl ?_
  refine wz_iconst (x := nI 0) (p9 := 17) rfl rfl (by decide) ?_
  refine wp_Asn (x := 0) (p9 := 20) rfl rfl rfl rfl (A1 := (CA.s_dp (CA.s_sn (CA.s_ov (CA.s_rc A 0) 0) 0) 0)) rfl ?_
  refine wz_iconst (x := nI 0) (p9 := 21) rfl rfl (by decide) ?_
  refine wz_istore_n (l9 := [.ref 4, .int (nI 0)]) (p9 := 22) rfl rfl rfl rfl ?_
  exact l_readRows A.bc 0 (CA.s_sn (CA.s_ov (CA.s_rc (CA.s_dp A 0) 0) 0) 0) (Nat.zero_add _) hb ht N rfl
