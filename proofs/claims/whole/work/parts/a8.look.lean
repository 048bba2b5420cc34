/-! TEXTS READ BY CLASS AND REFERENCE, SIDE BY SIDE: look (wip/whole/gen/mka8.py) -/
/-- only what the reference needs for reading has changed -/
def sM (R R1 : RA) : Prop := R1.s = R.s ∧ R1.ot = R.ot ∧ R1.dd = R.dd ∧ R1.di = R.di ∧ R1.is = R.is ∧ R1.qu = R.qu ∧ R1.fa = R.fa ∧ R1.th = R.th ∧ R1.nw = R.nw ∧ R1.tl = R.tl ∧ R1.te = R.te ∧ R1.wc = R.wc ∧ R1.ln = R.ln ∧ R1.rr = R.rr ∧ R1.sc = R.sc ∧ R1.go = R.go ∧ R1.us = R.us ∧ R1.ud = R.ud ∧ R1.sz = R.sz ∧ R1.tx = R.tx ∧ R1.t = R.t ∧ R1.P = R.P ∧ R1.Mv = R.Mv
theorem sM.s {R R1 : RA} (h : sM R R1) : R1.s = R.s := h.1
theorem sM.ot {R R1 : RA} (h : sM R R1) : R1.ot = R.ot := h.2.1
theorem sM.dd {R R1 : RA} (h : sM R R1) : R1.dd = R.dd := h.2.2.1
theorem sM.di {R R1 : RA} (h : sM R R1) : R1.di = R.di := h.2.2.2.1
theorem sM.is {R R1 : RA} (h : sM R R1) : R1.is = R.is := h.2.2.2.2.1
theorem sM.qu {R R1 : RA} (h : sM R R1) : R1.qu = R.qu := h.2.2.2.2.2.1
theorem sM.fa {R R1 : RA} (h : sM R R1) : R1.fa = R.fa := h.2.2.2.2.2.2.1
theorem sM.th {R R1 : RA} (h : sM R R1) : R1.th = R.th := h.2.2.2.2.2.2.2.1
theorem sM.nw {R R1 : RA} (h : sM R R1) : R1.nw = R.nw := h.2.2.2.2.2.2.2.2.1
theorem sM.tl {R R1 : RA} (h : sM R R1) : R1.tl = R.tl := h.2.2.2.2.2.2.2.2.2.1
theorem sM.te {R R1 : RA} (h : sM R R1) : R1.te = R.te := h.2.2.2.2.2.2.2.2.2.2.1
theorem sM.wc {R R1 : RA} (h : sM R R1) : R1.wc = R.wc := h.2.2.2.2.2.2.2.2.2.2.2.1
theorem sM.ln {R R1 : RA} (h : sM R R1) : R1.ln = R.ln := h.2.2.2.2.2.2.2.2.2.2.2.2.1
theorem sM.rr {R R1 : RA} (h : sM R R1) : R1.rr = R.rr := h.2.2.2.2.2.2.2.2.2.2.2.2.2.1
theorem sM.sc {R R1 : RA} (h : sM R R1) : R1.sc = R.sc := h.2.2.2.2.2.2.2.2.2.2.2.2.2.2.1
theorem sM.go {R R1 : RA} (h : sM R R1) : R1.go = R.go := h.2.2.2.2.2.2.2.2.2.2.2.2.2.2.2.1
theorem sM.us {R R1 : RA} (h : sM R R1) : R1.us = R.us := h.2.2.2.2.2.2.2.2.2.2.2.2.2.2.2.2.1
theorem sM.ud {R R1 : RA} (h : sM R R1) : R1.ud = R.ud := h.2.2.2.2.2.2.2.2.2.2.2.2.2.2.2.2.2.1
theorem sM.sz {R R1 : RA} (h : sM R R1) : R1.sz = R.sz := h.2.2.2.2.2.2.2.2.2.2.2.2.2.2.2.2.2.2.1
theorem sM.tx {R R1 : RA} (h : sM R R1) : R1.tx = R.tx := h.2.2.2.2.2.2.2.2.2.2.2.2.2.2.2.2.2.2.2.1
theorem sM.t {R R1 : RA} (h : sM R R1) : R1.t = R.t := h.2.2.2.2.2.2.2.2.2.2.2.2.2.2.2.2.2.2.2.2.1
theorem sM.P {R R1 : RA} (h : sM R R1) : R1.P = R.P := h.2.2.2.2.2.2.2.2.2.2.2.2.2.2.2.2.2.2.2.2.2.1
theorem sM.Mv {R R1 : RA} (h : sM R R1) : R1.Mv = R.Mv := h.2.2.2.2.2.2.2.2.2.2.2.2.2.2.2.2.2.2.2.2.2.2
theorem sM.rf {R : RA} : sM R R := ⟨rfl, rfl, rfl, rfl, rfl, rfl, rfl, rfl, rfl, rfl, rfl, rfl, rfl, rfl, rfl, rfl, rfl, rfl, rfl, rfl, rfl, rfl, rfl⟩
theorem sM.tr {R R1 R2 : RA} (h : sM R R1) (h2 : sM R1 R2) : sM R R2 := ⟨h2.s.trans h.s, h2.ot.trans h.ot, h2.dd.trans h.dd, h2.di.trans h.di, h2.is.trans h.is, h2.qu.trans h.qu, h2.fa.trans h.fa, h2.th.trans h.th, h2.nw.trans h.nw, h2.tl.trans h.tl, h2.te.trans h.te, h2.wc.trans h.wc, h2.ln.trans h.ln, h2.rr.trans h.rr, h2.sc.trans h.sc, h2.go.trans h.go, h2.us.trans h.us, h2.ud.trans h.ud, h2.sz.trans h.sz, h2.tx.trans h.tx, h2.t.trans h.t, h2.P.trans h.P, h2.Mv.trans h.Mv⟩
/-- what the signs forbid at the place i -/
def sgn (C : CA) (i : Nat) : Prop := i < C.bc → (C.sn = 2 → ¬ (50 ≤ C.tx i ∧ C.tx i ≤ 57)) ∧ (C.sn ≠ 0 → C.tx i ≠ 39)
/-- the answer of look -/
def lkr (n : Nat) (q : Nat × CA) : Int32 := if q.1 < n then nI q.1 else if 0 < q.2.dp then nI n else -1
theorem rt_stop {C : CA} {i n : Nat} (h : i < n) (e : nx C (C.tx i) = none) : rt (n - i) i C = (i, C) := by
  rw [show n - i = (n - (i + 1)) + 1 by omega]
  show (match nx C (C.tx i) with | none => (i, C) | some A1 => rt (n - (i + 1)) (i + 1) A1) = _
  rw [e]
theorem rt_end {C : CA} {i n : Nat} (h : n ≤ i) : rt (n - i) i C = (i, C) := by
  rw [show n - i = 0 by omega]
  rfl
theorem l_lookL {X : Nat × (Nat → Int32)} {d : Nat} {A : CA} {o : Nat → Int64} {k z i : Nat} {Q : px_Z → Prop} {C : CA} {R : RA} {v2 v3 : Value} (hi : i < C.bc) (S : SI C R (R.mn, R.cm, R.tm)) (c : 97 ≤ C.tx i ∧ C.tx i - 97 < C.Mv) (IH : ∀ (i2 : Nat) (C2 : CA) (R2 : RA) (v2 v3 : Value), i < i2 → i2 ≤ C.bc → C2.bc = C.bc → SI C2 R2 (R2.mn, R2.cm, R2.tm) → sgn C2 i2 → rt (C.bc - i) i C = rt (C.bc - i2) i2 C2 → sM R R2 → wp X (d + 6) 108 (17, [.ref 26, .int (nI i2), v2, v3], [], WW A R2 o, k, z) Q) : wp X (d + 6) 108 (17, [.ref 26, .int (nI i), v2, v3], [], WW A R o, k, z) Q := by
  have hN := S.nv
  have T := S.T
  have b100 := S.bc
  have hsz := S.sz
  have htx := congrFun S.tx i
  have ht8 := S.t8 i
  have hdp := S.dp
  have hdp8 : C.dp ≤ 8 := hN.2.2.1
  have m6 := T.m6
  have hmv := S.m
  have e1 : C.rc = R.mn := S.eq.1
  have e2 : C.ov = R.tm := S.eq.2.1
  have h400 : C.rc ≤ 400 := S.ov.1
  have hs : R.sz ≤ 100 := by omega
  have h101 : i + 1 ≤ 100 := by omega
  have hx : ∀ q, R.tx q < 256 := by rw [S.tx]; exact S.t8
  have o1 := T.o1 (m := C.tx i - 97) (by omega)
  have o12 := T.o12 (m := C.tx i - 97) (by omega)
  have c102 : C.tx i ≤ 102 := by omega
  have o19 : 1 ≤ C.od (R.tx i - 97) := by rw [htx]; exact o1
  have o129 : C.od (R.tx i - 97) ≤ 12 := by rw [htx]; exact o12
  refine wz_iload_n (p9 := 18) rfl rfl rfl ?_
  refine wz_aload_n (p9 := 19) rfl rfl rfl ?_
  refine wz_get (v := .int (nI R.sz)) (p9 := 22) rfl rfl rfl rfl rfl ?_
  refine wn_icge (t9 := 361) (p9 := 25) rfl rfl rfl (by omega) (by omega) (fun h9 => by omega) (fun _ => ?_)
  refine wz_aload_n (p9 := 26) rfl rfl rfl ?_
  refine wz_get (v := .ref 29) (p9 := 29) rfl rfl rfl rfl rfl ?_
  refine wz_iload_n (p9 := 30) rfl rfl rfl ?_
  refine wl_Rtx (f := R.tx) (p9 := 31) rfl rfl rfl (by omega) ?_
  refine wz_istore_n (l9 := [.ref 26, .int (nI i), .int (nI (R.tx i)), v3]) (p9 := 32) rfl rfl rfl rfl ?_
  refine wz_iload_n (p9 := 33) rfl rfl rfl ?_
  refine wz_bipush (x := nI 97) (p9 := 35) rfl rfl (by decide) ?_
  refine wn_iclt (t9 := 84) (p9 := 38) rfl rfl rfl (by omega) (by omega) (fun h9 => by omega) (fun _ => ?_)
  refine wz_iload_n (p9 := 39) rfl rfl rfl ?_
  refine wz_bipush (x := nI 97) (p9 := 41) rfl rfl (by decide) ?_
  refine wz_aload_n (p9 := 42) rfl rfl rfl ?_
  refine wz_get (v := .int (nI R.Mv)) (p9 := 45) rfl rfl rfl rfl rfl ?_
  refine wn_add (p9 := 46) rfl rfl ?_
  refine wn_icge (t9 := 84) (p9 := 49) rfl rfl rfl (by omega) (by omega) (fun h9 => by omega) (fun _ => ?_)
  refine wz_aload_n (p9 := 50) rfl rfl rfl ?_
  refine wz_get (v := .int (nI R.mn)) (p9 := 53) rfl rfl rfl rfl rfl ?_
  refine wz_istore_n (l9 := [.ref 26, .int (nI i), .int (nI (R.tx i)), .int (nI R.mn)]) (p9 := 54) rfl rfl rfl rfl ?_
  refine wz_aload_n (p9 := 55) rfl rfl rfl ?_
  refine wz_iload_n (p9 := 56) rfl rfl rfl ?_
  refine wz_bipush (x := nI 97) (p9 := 58) rfl rfl (by decide) ?_
  refine wn_sub (p9 := 59) rfl rfl (by omega) ?_
  refine wz_iconst (x := nI 1) (p9 := 60) rfl rfl (by decide) ?_
  refine wz_aload_n (p9 := 61) rfl rfl rfl ?_
  refine wz_iload_n (p9 := 62) rfl rfl rfl ?_
  refine wz_bipush (x := nI 97) (p9 := 64) rfl rfl (by decide) ?_
  refine wn_sub (p9 := 65) rfl rfl (by omega) ?_
  refine wz_c1 (p9 := 68) (w1 := WW A R o) (u := .int (nI (C.od (R.tx i - 97)))) (wa_v (N := 103) (i := 26) (As := [.int (nI ((R.tx i) - 97))]) (rest := [.int (nI 1), .int (nI ((R.tx i) - 97)), .ref 26]) rfl rfl rfl rfl rfl rfl rfl) rfl ((g_mOrder (d := 0) T (show R.tx i - 97 < 6 by omega)).up (by omega)) ?_
  refine wn_rem (p9 := 69) rfl rfl (by decide) (by omega) (by omega) ?_
  refine wz_c0 (p9 := 72) (w1 := WW A (RA.s_tm (RA.s_mn (RA.s_cm R ((pu ((R.tx i - 97) * 16 + 1 % C.od (R.tx i - 97)) (R.mn, R.cm, R.tm)).2.1)) ((pu ((R.tx i - 97) * 16 + 1 % C.od (R.tx i - 97)) (R.mn, R.cm, R.tm)).1)) ((pu ((R.tx i - 97) * 16 + 1 % C.od (R.tx i - 97)) (R.mn, R.cm, R.tm)).2.2)) o) (wa_v (N := 109) (i := 26) (As := [.int (nI ((R.tx i) - 97)), .int (nI (1 % (C.od (R.tx i - 97))))]) (rest := []) rfl rfl rfl rfl rfl rfl rfl) rfl ((g_come (d := 0) (b := (R.mn, R.cm, R.tm)) rfl (show R.mn ≤ 400 by omega)).up (by omega)) ?_
  refine wz_aload_n (p9 := 73) rfl rfl rfl ?_
  refine wz_iload_n (p9 := 74) rfl rfl rfl ?_
  refine wz_iconst (x := nI 1) (p9 := 75) rfl rfl (by decide) ?_
  refine wn_add (p9 := 76) rfl rfl ?_
  refine wz_iload_n (p9 := 77) rfl rfl rfl ?_
  simp only [htx]
  have en : nx C (C.tx i) = some (CA.s_bu (CA.s_sn (CA.s_pl (CA.s_ps (CA.s_ov (CA.s_rc C (pu ((C.tx i - 97) * 16 + 1 % C.od (C.tx i - 97)) (C.rc, C.bu, C.ov)).1) (pu ((C.tx i - 97) * 16 + 1 % C.od (C.tx i - 97)) (C.rc, C.bu, C.ov)).2.2) C.rc) 1) 2) (pu ((C.tx i - 97) * 16 + 1 % C.od (C.tx i - 97)) (C.rc, C.bu, C.ov)).2.1) := by
    unfold nx
    rw [if_neg (by omega), if_neg (by omega), if_neg (by omega), if_neg (by omega), if_neg (by omega), if_neg (by omega), if_pos c]
  obtain ⟨N1, s1⟩ := NV_nx (S.t8 i) hN en
  have S1 : SI (CA.s_bu (CA.s_sn (CA.s_pl (CA.s_ps (CA.s_ov (CA.s_rc C (pu ((C.tx i - 97) * 16 + 1 % C.od (C.tx i - 97)) (C.rc, C.bu, C.ov)).1) (pu ((C.tx i - 97) * 16 + 1 % C.od (C.tx i - 97)) (C.rc, C.bu, C.ov)).2.2) C.rc) 1) 2) (pu ((C.tx i - 97) * 16 + 1 % C.od (C.tx i - 97)) (C.rc, C.bu, C.ov)).2.1) R (pu ((C.tx i - 97) * 16 + 1 % C.od (C.tx i - 97)) (R.mn, R.cm, R.tm)) := ⟨N1, S.p, S.m, S.t, S.sz, S.tx, S.bc, S.t8, S.dp, OV_pu S.ov, ev_pu S.eq S.ov (fun _ => rfl), S.kd⟩
  have B1 := S1.BO
  have hov := S.ov.2.2
  have hov2 := S.ov.2.1
  have L1 : lpart (CA.s_bu (CA.s_sn (CA.s_pl (CA.s_ps (CA.s_ov (CA.s_rc C (pu ((C.tx i - 97) * 16 + 1 % C.od (C.tx i - 97)) (C.rc, C.bu, C.ov)).1) (pu ((C.tx i - 97) * 16 + 1 % C.od (C.tx i - 97)) (C.rc, C.bu, C.ov)).2.2) C.rc) 1) 2) (pu ((C.tx i - 97) * 16 + 1 % C.od (C.tx i - 97)) (C.rc, C.bu, C.ov)).2.1) := by
    refine ⟨rfl, pu_le (b := (C.rc, C.bu, C.ov)), fun _ => ?_⟩
    by_cases h4 : C.rc < 400
    · have ep : pu ((C.tx i - 97) * 16 + 1 % C.od (C.tx i - 97)) (C.rc, C.bu, C.ov) = (C.rc + 1, un C.bu C.rc ((C.tx i - 97) * 16 + 1 % C.od (C.tx i - 97)), C.ov) := if_pos h4
      left
      rw [ep]
      refine ⟨rfl, ?_, ?_⟩
      · show C.ov = 0
        by_cases e : C.ov = 1
        · have : C.rc = 400 := hov e
          omega
        · have : C.ov < 2 := hov2
          omega
      · show un C.bu C.rc ((C.tx i - 97) * 16 + 1 % C.od (C.tx i - 97)) C.rc % 16 = 1 % C.od (un C.bu C.rc ((C.tx i - 97) * 16 + 1 % C.od (C.tx i - 97)) C.rc / 16)
        rw [un_at]
        have q1 : 1 % C.od (C.tx i - 97) < C.od (C.tx i - 97) := Nat.mod_lt _ (by omega)
        rw [show ((C.tx i - 97) * 16 + 1 % C.od (C.tx i - 97)) / 16 = C.tx i - 97 by omega]
        omega
    · right
      rw [show pu ((C.tx i - 97) * 16 + 1 % C.od (C.tx i - 97)) (C.rc, C.bu, C.ov) = (C.rc, C.bu, 1) from if_neg h4]
      exact ⟨rfl, rfl⟩
  obtain ⟨C2, i2, x, l, hd, hl, hpi, S2, f1, f2, f3, f4, f5, f6, f7⟩ := sim_dig (p := i + 1) S1 L1 hi
  have f1 : C2.ps = R.mn := f1.trans e1
  have S2 : SI C2 R (tl1 C.od C.rc x l (pu ((C.tx i - 97) * 16 + 1 % C.od (C.tx i - 97)) (R.mn, R.cm, R.tm))) := S2
  rw [e1] at S2
  have g1 : C2.bc = C.bc := f4.bc
  have g2 : C2.tx = C.tx := f4.tx
  have g3 : C2.od = C.od := f4.od
  obtain ⟨C3, ρ, hq, S3, k1, k2, k3, k4⟩ := sim_quo S2 f2 f3 (show i2 ≤ C2.bc by rw [g1]; exact f5) (fun q r => by rw [g2]; exact f7 q (by rw [g1] at r; exact r))
  rw [g1, g2] at hq
  rw [g1, g2] at k4
  rw [g1] at k2 k3
  rw [f1, g3] at S3
  have hd9 : (i + 1 < R.sz ∧ 50 ≤ R.tx (i + 1) ∧ R.tx (i + 1) ≤ 57 ∧ i2 = i + 1 + 1 ∧ x = R.tx (i + 1) - 48) ∨ (¬ (i + 1 < R.sz ∧ 50 ≤ R.tx (i + 1) ∧ R.tx (i + 1) ≤ 57) ∧ i2 = i + 1 ∧ x = 1) := by rw [S.sz, S.tx]; exact hd
  have hq9 : (i2 < R.sz ∧ R.tx i2 = 39 ∧ ρ = 1) ∨ (¬ (i2 < R.sz ∧ R.tx i2 = 39) ∧ ρ = 0) := by rw [S.sz, S.tx]; exact hq
  have hps : ((CA.s_bu (CA.s_sn (CA.s_pl (CA.s_ps (CA.s_ov (CA.s_rc C (pu ((C.tx i - 97) * 16 + 1 % C.od (C.tx i - 97)) (C.rc, C.bu, C.ov)).1) (pu ((C.tx i - 97) * 16 + 1 % C.od (C.tx i - 97)) (C.rc, C.bu, C.ov)).2.2) C.rc) 1) 2) (pu ((C.tx i - 97) * 16 + 1 % C.od (C.tx i - 97)) (C.rc, C.bu, C.ov)).2.1)).ps = R.mn := e1
  have hl9 : (((pu ((C.tx i - 97) * 16 + 1 % C.od (C.tx i - 97)) (R.mn, R.cm, R.tm)).1 = R.mn + 1 ∧ 0 < i + 1 ∧ 97 ≤ R.tx (i + 1 - 1) ∧ R.tx (i + 1 - 1) ≤ 102) ∧ l = 1 ∧ (pu ((C.tx i - 97) * 16 + 1 % C.od (C.tx i - 97)) (R.mn, R.cm, R.tm)).2.2 = 0) ∨ (¬ ((pu ((C.tx i - 97) * 16 + 1 % C.od (C.tx i - 97)) (R.mn, R.cm, R.tm)).1 = R.mn + 1 ∧ 0 < i + 1 ∧ 97 ≤ R.tx (i + 1 - 1) ∧ R.tx (i + 1 - 1) ≤ 102) ∧ l = 0) := by
    rw [hps] at hl
    have q0 : R.tx (i + 1 - 1) = C.tx i := htx
    rcases hl with ⟨q1, q2, q3, q4⟩ | ⟨q1, q2⟩
    · exact Or.inl ⟨⟨q2, Nat.succ_pos i, q0 ▸ c.1, q0 ▸ c102⟩, q4, q3⟩
    · exact Or.inr ⟨fun q => q1 ⟨rfl, q.1⟩, q2⟩
  have T2 := T
  have hf9 : R.mn ≤ (pu ((C.tx i - 97) * 16 + 1 % C.od (C.tx i - 97)) (R.mn, R.cm, R.tm)).1 := pu_le (b := (R.mn, R.cm, R.tm))
  have hb9 : sgn C3 (i2 + ρ) := by
    intro q
    rw [k1.bc, g1] at q
    rw [k1.tx, g2]
    exact k4 q
  refine wz_c1 (p9 := 80) (w1 := WW A (RA.s_tm (RA.s_mn (RA.s_cm R ((tl2 C.od R.mn ρ (tl1 C.od R.mn x l (pu ((C.tx i - 97) * 16 + 1 % C.od (C.tx i - 97)) (R.mn, R.cm, R.tm)))).2.1)) ((tl2 C.od R.mn ρ (tl1 C.od R.mn x l (pu ((C.tx i - 97) * 16 + 1 % C.od (C.tx i - 97)) (R.mn, R.cm, R.tm)))).1)) ((tl2 C.od R.mn ρ (tl1 C.od R.mn x l (pu ((C.tx i - 97) * 16 + 1 % C.od (C.tx i - 97)) (R.mn, R.cm, R.tm)))).2.2)) o) (u := .int (nI (i2 + ρ))) (wa_v (N := 110) (i := 26) (As := [.int (nI (i + 1)), .int (nI R.mn)]) (rest := []) rfl rfl rfl rfl rfl rfl rfl) rfl ((g_tail (d := 0) (A := A) (R := (RA.s_tm (RA.s_mn (RA.s_cm R ((pu ((C.tx i - 97) * 16 + 1 % C.od (C.tx i - 97)) (R.mn, R.cm, R.tm)).2.1)) ((pu ((C.tx i - 97) * 16 + 1 % C.od (C.tx i - 97)) (R.mn, R.cm, R.tm)).1)) ((pu ((C.tx i - 97) * 16 + 1 % C.od (C.tx i - 97)) (R.mn, R.cm, R.tm)).2.2))) T2 hs hx (i := i2) (x := x) (ρ := ρ) (l := l) h101 hd9 hq9 hl9 B1 hf9).up (Nat.le_trans (m := 6) (by decide) (Nat.le_add_left 6 d))) ?_
  refine wz_istore_n (l9 := [.ref 26, .int (nI (i2 + ρ)), .int (nI (C.tx i)), .int (nI R.mn)]) (p9 := 81) rfl rfl rfl rfl ?_
  refine wz_goto (p9 := 358) rfl rfl ?_
  refine wz_goto (p9 := 17) rfl rfl ?_
  exact IH _ C3 _ _ _ (Nat.lt_of_lt_of_le (Nat.lt_of_succ_le hpi) (Nat.le_add_right i2 ρ)) k2 (by rw [k1.bc, g1]) S3 hb9 ((rt_step hi en).trans (f6.trans k3)) ⟨rfl, rfl, rfl, rfl, rfl, rfl, rfl, rfl, rfl, rfl, rfl, rfl, rfl, rfl, rfl, rfl, rfl, rfl, rfl, rfl, rfl, rfl, rfl⟩
theorem l_lookO0 {X : Nat × (Nat → Int32)} {d : Nat} {A : CA} {o : Nat → Int64} {k z i : Nat} {Q : px_Z → Prop} {C : CA} {R : RA} {v2 v3 : Value} (hi : i < C.bc) (S : SI C R (R.mn, R.cm, R.tm)) (c : C.tx i = 40 ∧ C.dp < 8) (IH : ∀ (i2 : Nat) (C2 : CA) (R2 : RA) (v2 v3 : Value), i < i2 → i2 ≤ C.bc → C2.bc = C.bc → SI C2 R2 (R2.mn, R2.cm, R2.tm) → sgn C2 i2 → rt (C.bc - i) i C = rt (C.bc - i2) i2 C2 → sM R R2 → wp X (d + 6) 108 (17, [.ref 26, .int (nI i2), v2, v3], [], WW A R2 o, k, z) Q) : wp X (d + 6) 108 (17, [.ref 26, .int (nI i), v2, v3], [], WW A R o, k, z) Q := by
  have hN := S.nv
  have T := S.T
  have b100 := S.bc
  have hsz := S.sz
  have htx := congrFun S.tx i
  have ht8 := S.t8 i
  have hdp := S.dp
  have hdp8 : C.dp ≤ 8 := hN.2.2.1
  have m6 := T.m6
  have hmv := S.m
  have e1 : C.rc = R.mn := S.eq.1
  have e2 : C.ov = R.tm := S.eq.2.1
  have h400 : C.rc ≤ 400 := S.ov.1
  have hs : R.sz ≤ 100 := by omega
  have h101 : i + 1 ≤ 100 := by omega
  have hx : ∀ q, R.tx q < 256 := by rw [S.tx]; exact S.t8
  have en : nx C (C.tx i) = some (CA.s_ks (CA.s_kd (CA.s_sn (CA.s_dp C (C.dp + 1)) 0) (un C.kd C.dp (C.tx i))) (un C.ks C.dp C.rc)) := by
    unfold nx
    rw [if_pos (by omega), if_pos c.2]
  obtain ⟨N1, s1⟩ := NV_nx (S.t8 i) hN en
  have S1 : SI (CA.s_ks (CA.s_kd (CA.s_sn (CA.s_dp C (C.dp + 1)) 0) (un C.kd C.dp (C.tx i))) (un C.ks C.dp C.rc)) (RA.s_fr (RA.s_ki (RA.s_dp R (R.dp + 1)) (un R.ki R.dp 0)) (un R.fr R.dp R.mn)) (R.mn, R.cm, R.tm) := by
    refine ⟨N1, S.p, S.m, S.t, S.sz, S.tx, S.bc, S.t8, (show R.dp + 1 = C.dp + 1 by omega), S.ov, S.eq, fun q hq => ?_⟩
    show un R.fr R.dp R.mn q = un C.ks C.dp C.rc q ∧ ((un C.kd C.dp (C.tx i) q = 40 ∧ un R.ki R.dp 0 q = 0) ∨ (un C.kd C.dp (C.tx i) q = 91 ∧ un R.ki R.dp 0 q = 1) ∨ (un C.kd C.dp (C.tx i) q = 44 ∧ un R.ki R.dp 0 q = 2 ∧ R.mi q = C.km q))
    have hq2 : q < C.dp + 1 := hq
    rw [hdp]
    by_cases e : q = C.dp
    · rw [e, un_at, un_at, un_at, un_at]
      exact ⟨e1.symm, by omega⟩
    · rw [un_ne e, un_ne e, un_ne e, un_ne e]
      exact S.kd q (by omega)
  refine wz_iload_n (p9 := 18) rfl rfl rfl ?_
  refine wz_aload_n (p9 := 19) rfl rfl rfl ?_
  refine wz_get (v := .int (nI R.sz)) (p9 := 22) rfl rfl rfl rfl rfl ?_
  refine wn_icge (t9 := 361) (p9 := 25) rfl rfl rfl (by omega) (by omega) (fun h9 => by omega) (fun _ => ?_)
  refine wz_aload_n (p9 := 26) rfl rfl rfl ?_
  refine wz_get (v := .ref 29) (p9 := 29) rfl rfl rfl rfl rfl ?_
  refine wz_iload_n (p9 := 30) rfl rfl rfl ?_
  refine wl_Rtx (f := R.tx) (p9 := 31) rfl rfl rfl (by omega) ?_
  refine wz_istore_n (l9 := [.ref 26, .int (nI i), .int (nI (R.tx i)), v3]) (p9 := 32) rfl rfl rfl rfl ?_
  refine wz_iload_n (p9 := 33) rfl rfl rfl ?_
  refine wz_bipush (x := nI 97) (p9 := 35) rfl rfl (by decide) ?_
  refine wn_iclt (t9 := 84) (p9 := 38) rfl rfl rfl (by omega) (by omega) (fun _ => ?_) (fun h9 => by omega)
  refine wz_iload_n (p9 := 85) rfl rfl rfl ?_
  refine wz_bipush (x := nI 40) (p9 := 87) rfl rfl (by decide) ?_
  refine wn_iceq (t9 := 96) (p9 := 90) rfl rfl rfl (by omega) (by omega) (fun _ => ?_) (fun h9 => by omega)
  refine wz_aload_n (p9 := 97) rfl rfl rfl ?_
  refine wz_get (v := .int (nI R.dp)) (p9 := 100) rfl rfl rfl rfl rfl ?_
  refine wz_bipush (x := nI 8) (p9 := 102) rfl rfl (by decide) ?_
  refine wn_icge (t9 := 154) (p9 := 105) rfl rfl rfl (by omega) (by omega) (fun h9 => by omega) (fun _ => ?_)
  refine wz_aload_n (p9 := 106) rfl rfl rfl ?_
  refine wz_get (v := .ref 33) (p9 := 109) rfl rfl rfl rfl rfl ?_
  refine wz_aload_n (p9 := 110) rfl rfl rfl ?_
  refine wz_get (v := .int (nI R.dp)) (p9 := 113) rfl rfl rfl rfl rfl ?_
  refine wz_iload_n (p9 := 114) rfl rfl rfl ?_
  refine wz_bipush (x := nI 40) (p9 := 116) rfl rfl (by decide) ?_
  refine wn_icne (t9 := 123) (p9 := 119) rfl rfl rfl (by omega) (by omega) (fun h9 => by omega) (fun _ => ?_)
  refine wz_iconst (x := nI 0) (p9 := 120) rfl rfl (by decide) ?_
  refine wz_goto (p9 := 124) rfl rfl ?_
  refine ws_Rki (f := R.ki) (p9 := 125) rfl rfl rfl (by omega) (R1 := (RA.s_ki R (un R.ki R.dp 0))) rfl ?_
  refine wz_aload_n (p9 := 126) rfl rfl rfl ?_
  refine wz_get (v := .ref 34) (p9 := 129) rfl rfl rfl rfl rfl ?_
  refine wz_aload_n (p9 := 130) rfl rfl rfl ?_
  refine wz_get (v := .int (nI R.dp)) (p9 := 133) rfl rfl rfl rfl rfl ?_
  refine wz_aload_n (p9 := 134) rfl rfl rfl ?_
  refine wz_get (v := .int (nI R.mn)) (p9 := 137) rfl rfl rfl rfl rfl ?_
  refine ws_Rfr (f := R.fr) (p9 := 138) rfl rfl rfl (by omega) (R1 := (RA.s_fr (RA.s_ki R (un R.ki R.dp 0)) (un R.fr R.dp R.mn))) rfl ?_
  refine wz_aload_n (p9 := 139) rfl rfl rfl ?_
  refine wz_dupr (p9 := 140) rfl rfl ?_
  refine wz_get (v := .int (nI R.dp)) (p9 := 143) rfl rfl rfl rfl rfl ?_
  refine wz_iconst (x := nI 1) (p9 := 144) rfl rfl (by decide) ?_
  refine wn_add (p9 := 145) rfl rfl ?_
  refine wp_Rdp (x := (R.dp + 1)) (p9 := 148) rfl rfl rfl rfl (R1 := (RA.s_fr (RA.s_ki (RA.s_dp R (R.dp + 1)) (un R.ki R.dp 0)) (un R.fr R.dp R.mn))) rfl ?_
  refine wn_inc (b := 1) (l9 := [.ref 26, .int (nI (i + 1)), .int (nI (R.tx i)), v3]) (p9 := 151) rfl rfl rfl (by decide) rfl ?_
  refine wz_goto (p9 := 358) rfl rfl ?_
  refine wz_goto (p9 := 17) rfl rfl ?_
  exact IH _ (CA.s_ks (CA.s_kd (CA.s_sn (CA.s_dp C (C.dp + 1)) 0) (un C.kd C.dp (C.tx i))) (un C.ks C.dp C.rc)) _ _ _ (Nat.lt_succ_self i) (by omega) rfl S1 (fun _ => ⟨fun q => (by cases q), fun q => absurd rfl q⟩) (rt_step hi en) ⟨rfl, rfl, rfl, rfl, rfl, rfl, rfl, rfl, rfl, rfl, rfl, rfl, rfl, rfl, rfl, rfl, rfl, rfl, rfl, rfl, rfl, rfl, rfl⟩
theorem l_lookO1 {X : Nat × (Nat → Int32)} {d : Nat} {A : CA} {o : Nat → Int64} {k z i : Nat} {Q : px_Z → Prop} {C : CA} {R : RA} {v2 v3 : Value} (hi : i < C.bc) (S : SI C R (R.mn, R.cm, R.tm)) (c : C.tx i = 91 ∧ C.dp < 8) (IH : ∀ (i2 : Nat) (C2 : CA) (R2 : RA) (v2 v3 : Value), i < i2 → i2 ≤ C.bc → C2.bc = C.bc → SI C2 R2 (R2.mn, R2.cm, R2.tm) → sgn C2 i2 → rt (C.bc - i) i C = rt (C.bc - i2) i2 C2 → sM R R2 → wp X (d + 6) 108 (17, [.ref 26, .int (nI i2), v2, v3], [], WW A R2 o, k, z) Q) : wp X (d + 6) 108 (17, [.ref 26, .int (nI i), v2, v3], [], WW A R o, k, z) Q := by
  have hN := S.nv
  have T := S.T
  have b100 := S.bc
  have hsz := S.sz
  have htx := congrFun S.tx i
  have ht8 := S.t8 i
  have hdp := S.dp
  have hdp8 : C.dp ≤ 8 := hN.2.2.1
  have m6 := T.m6
  have hmv := S.m
  have e1 : C.rc = R.mn := S.eq.1
  have e2 : C.ov = R.tm := S.eq.2.1
  have h400 : C.rc ≤ 400 := S.ov.1
  have hs : R.sz ≤ 100 := by omega
  have h101 : i + 1 ≤ 100 := by omega
  have hx : ∀ q, R.tx q < 256 := by rw [S.tx]; exact S.t8
  have en : nx C (C.tx i) = some (CA.s_ks (CA.s_kd (CA.s_sn (CA.s_dp C (C.dp + 1)) 0) (un C.kd C.dp (C.tx i))) (un C.ks C.dp C.rc)) := by
    unfold nx
    rw [if_pos (by omega), if_pos c.2]
  obtain ⟨N1, s1⟩ := NV_nx (S.t8 i) hN en
  have S1 : SI (CA.s_ks (CA.s_kd (CA.s_sn (CA.s_dp C (C.dp + 1)) 0) (un C.kd C.dp (C.tx i))) (un C.ks C.dp C.rc)) (RA.s_fr (RA.s_ki (RA.s_dp R (R.dp + 1)) (un R.ki R.dp 1)) (un R.fr R.dp R.mn)) (R.mn, R.cm, R.tm) := by
    refine ⟨N1, S.p, S.m, S.t, S.sz, S.tx, S.bc, S.t8, (show R.dp + 1 = C.dp + 1 by omega), S.ov, S.eq, fun q hq => ?_⟩
    show un R.fr R.dp R.mn q = un C.ks C.dp C.rc q ∧ ((un C.kd C.dp (C.tx i) q = 40 ∧ un R.ki R.dp 1 q = 0) ∨ (un C.kd C.dp (C.tx i) q = 91 ∧ un R.ki R.dp 1 q = 1) ∨ (un C.kd C.dp (C.tx i) q = 44 ∧ un R.ki R.dp 1 q = 2 ∧ R.mi q = C.km q))
    have hq2 : q < C.dp + 1 := hq
    rw [hdp]
    by_cases e : q = C.dp
    · rw [e, un_at, un_at, un_at, un_at]
      exact ⟨e1.symm, by omega⟩
    · rw [un_ne e, un_ne e, un_ne e, un_ne e]
      exact S.kd q (by omega)
  refine wz_iload_n (p9 := 18) rfl rfl rfl ?_
  refine wz_aload_n (p9 := 19) rfl rfl rfl ?_
  refine wz_get (v := .int (nI R.sz)) (p9 := 22) rfl rfl rfl rfl rfl ?_
  refine wn_icge (t9 := 361) (p9 := 25) rfl rfl rfl (by omega) (by omega) (fun h9 => by omega) (fun _ => ?_)
  refine wz_aload_n (p9 := 26) rfl rfl rfl ?_
  refine wz_get (v := .ref 29) (p9 := 29) rfl rfl rfl rfl rfl ?_
  refine wz_iload_n (p9 := 30) rfl rfl rfl ?_
  refine wl_Rtx (f := R.tx) (p9 := 31) rfl rfl rfl (by omega) ?_
  refine wz_istore_n (l9 := [.ref 26, .int (nI i), .int (nI (R.tx i)), v3]) (p9 := 32) rfl rfl rfl rfl ?_
  refine wz_iload_n (p9 := 33) rfl rfl rfl ?_
  refine wz_bipush (x := nI 97) (p9 := 35) rfl rfl (by decide) ?_
  refine wn_iclt (t9 := 84) (p9 := 38) rfl rfl rfl (by omega) (by omega) (fun _ => ?_) (fun h9 => by omega)
  refine wz_iload_n (p9 := 85) rfl rfl rfl ?_
  refine wz_bipush (x := nI 40) (p9 := 87) rfl rfl (by decide) ?_
  refine wn_iceq (t9 := 96) (p9 := 90) rfl rfl rfl (by omega) (by omega) (fun h9 => by omega) (fun _ => ?_)
  refine wz_iload_n (p9 := 91) rfl rfl rfl ?_
  refine wz_bipush (x := nI 91) (p9 := 93) rfl rfl (by decide) ?_
  refine wn_icne (t9 := 154) (p9 := 96) rfl rfl rfl (by omega) (by omega) (fun h9 => by omega) (fun _ => ?_)
  refine wz_aload_n (p9 := 97) rfl rfl rfl ?_
  refine wz_get (v := .int (nI R.dp)) (p9 := 100) rfl rfl rfl rfl rfl ?_
  refine wz_bipush (x := nI 8) (p9 := 102) rfl rfl (by decide) ?_
  refine wn_icge (t9 := 154) (p9 := 105) rfl rfl rfl (by omega) (by omega) (fun h9 => by omega) (fun _ => ?_)
  refine wz_aload_n (p9 := 106) rfl rfl rfl ?_
  refine wz_get (v := .ref 33) (p9 := 109) rfl rfl rfl rfl rfl ?_
  refine wz_aload_n (p9 := 110) rfl rfl rfl ?_
  refine wz_get (v := .int (nI R.dp)) (p9 := 113) rfl rfl rfl rfl rfl ?_
  refine wz_iload_n (p9 := 114) rfl rfl rfl ?_
  refine wz_bipush (x := nI 40) (p9 := 116) rfl rfl (by decide) ?_
  refine wn_icne (t9 := 123) (p9 := 119) rfl rfl rfl (by omega) (by omega) (fun _ => ?_) (fun h9 => by omega)
  refine wz_iconst (x := nI 1) (p9 := 124) rfl rfl (by decide) ?_
  refine ws_Rki (f := R.ki) (p9 := 125) rfl rfl rfl (by omega) (R1 := (RA.s_ki R (un R.ki R.dp 1))) rfl ?_
  refine wz_aload_n (p9 := 126) rfl rfl rfl ?_
  refine wz_get (v := .ref 34) (p9 := 129) rfl rfl rfl rfl rfl ?_
  refine wz_aload_n (p9 := 130) rfl rfl rfl ?_
  refine wz_get (v := .int (nI R.dp)) (p9 := 133) rfl rfl rfl rfl rfl ?_
  refine wz_aload_n (p9 := 134) rfl rfl rfl ?_
  refine wz_get (v := .int (nI R.mn)) (p9 := 137) rfl rfl rfl rfl rfl ?_
  refine ws_Rfr (f := R.fr) (p9 := 138) rfl rfl rfl (by omega) (R1 := (RA.s_fr (RA.s_ki R (un R.ki R.dp 1)) (un R.fr R.dp R.mn))) rfl ?_
  refine wz_aload_n (p9 := 139) rfl rfl rfl ?_
  refine wz_dupr (p9 := 140) rfl rfl ?_
  refine wz_get (v := .int (nI R.dp)) (p9 := 143) rfl rfl rfl rfl rfl ?_
  refine wz_iconst (x := nI 1) (p9 := 144) rfl rfl (by decide) ?_
  refine wn_add (p9 := 145) rfl rfl ?_
  refine wp_Rdp (x := (R.dp + 1)) (p9 := 148) rfl rfl rfl rfl (R1 := (RA.s_fr (RA.s_ki (RA.s_dp R (R.dp + 1)) (un R.ki R.dp 1)) (un R.fr R.dp R.mn))) rfl ?_
  refine wn_inc (b := 1) (l9 := [.ref 26, .int (nI (i + 1)), .int (nI (R.tx i)), v3]) (p9 := 151) rfl rfl rfl (by decide) rfl ?_
  refine wz_goto (p9 := 358) rfl rfl ?_
  refine wz_goto (p9 := 17) rfl rfl ?_
  exact IH _ (CA.s_ks (CA.s_kd (CA.s_sn (CA.s_dp C (C.dp + 1)) 0) (un C.kd C.dp (C.tx i))) (un C.ks C.dp C.rc)) _ _ _ (Nat.lt_succ_self i) (by omega) rfl S1 (fun _ => ⟨fun q => (by cases q), fun q => absurd rfl q⟩) (rt_step hi en) ⟨rfl, rfl, rfl, rfl, rfl, rfl, rfl, rfl, rfl, rfl, rfl, rfl, rfl, rfl, rfl, rfl, rfl, rfl, rfl, rfl, rfl, rfl, rfl⟩
theorem l_lookC {X : Nat × (Nat → Int32)} {d : Nat} {A : CA} {o : Nat → Int64} {k z i : Nat} {Q : px_Z → Prop} {C : CA} {R : RA} {v2 v3 : Value} (hi : i < C.bc) (S : SI C R (R.mn, R.cm, R.tm)) (c : C.tx i = 44 ∧ 0 < C.dp ∧ C.kd (C.dp - 1) = 91) (IH : ∀ (i2 : Nat) (C2 : CA) (R2 : RA) (v2 v3 : Value), i < i2 → i2 ≤ C.bc → C2.bc = C.bc → SI C2 R2 (R2.mn, R2.cm, R2.tm) → sgn C2 i2 → rt (C.bc - i) i C = rt (C.bc - i2) i2 C2 → sM R R2 → wp X (d + 6) 108 (17, [.ref 26, .int (nI i2), v2, v3], [], WW A R2 o, k, z) Q) : wp X (d + 6) 108 (17, [.ref 26, .int (nI i), v2, v3], [], WW A R o, k, z) Q := by
  have hN := S.nv
  have T := S.T
  have b100 := S.bc
  have hsz := S.sz
  have htx := congrFun S.tx i
  have ht8 := S.t8 i
  have hdp := S.dp
  have hdp8 : C.dp ≤ 8 := hN.2.2.1
  have m6 := T.m6
  have hmv := S.m
  have e1 : C.rc = R.mn := S.eq.1
  have e2 : C.ov = R.tm := S.eq.2.1
  have h400 : C.rc ≤ 400 := S.ov.1
  have hs : R.sz ≤ 100 := by omega
  have h101 : i + 1 ≤ 100 := by omega
  have hx : ∀ q, R.tx q < 256 := by rw [S.tx]; exact S.t8
  have en : nx C (C.tx i) = some (CA.s_km (CA.s_kd (CA.s_sn C 0) (un C.kd (C.dp - 1) 44)) (un C.km (C.dp - 1) C.rc)) := by
    unfold nx
    rw [if_neg (by omega), if_pos c.1, if_pos c.2]
  obtain ⟨N1, s1⟩ := NV_nx (S.t8 i) hN en
  have hk := S.kd (C.dp - 1) (by omega)
  have hki : R.ki (R.dp - 1) = 1 := by rw [hdp]; omega
  have S1 : SI (CA.s_km (CA.s_kd (CA.s_sn C 0) (un C.kd (C.dp - 1) 44)) (un C.km (C.dp - 1) C.rc)) (RA.s_mi (RA.s_ki R (un R.ki (R.dp - 1) 2)) (un R.mi (R.dp - 1) R.mn)) (R.mn, R.cm, R.tm) := by
    refine ⟨N1, S.p, S.m, S.t, S.sz, S.tx, S.bc, S.t8, S.dp, S.ov, S.eq, fun q hq => ?_⟩
    show R.fr q = C.ks q ∧ ((un C.kd (C.dp - 1) 44 q = 40 ∧ un R.ki (R.dp - 1) 2 q = 0) ∨ (un C.kd (C.dp - 1) 44 q = 91 ∧ un R.ki (R.dp - 1) 2 q = 1) ∨ (un C.kd (C.dp - 1) 44 q = 44 ∧ un R.ki (R.dp - 1) 2 q = 2 ∧ un R.mi (R.dp - 1) R.mn q = un C.km (C.dp - 1) C.rc q))
    have hq2 : q < C.dp := hq
    have h9 := S.kd q hq2
    rw [hdp]
    by_cases e : q = C.dp - 1
    · rw [e, un_at, un_at, un_at, un_at]
      rw [e] at h9
      exact ⟨h9.1, Or.inr (Or.inr ⟨rfl, rfl, e1.symm⟩)⟩
    · rw [un_ne e, un_ne e, un_ne e, un_ne e]
      exact h9
  refine wz_iload_n (p9 := 18) rfl rfl rfl ?_
  refine wz_aload_n (p9 := 19) rfl rfl rfl ?_
  refine wz_get (v := .int (nI R.sz)) (p9 := 22) rfl rfl rfl rfl rfl ?_
  refine wn_icge (t9 := 361) (p9 := 25) rfl rfl rfl (by omega) (by omega) (fun h9 => by omega) (fun _ => ?_)
  refine wz_aload_n (p9 := 26) rfl rfl rfl ?_
  refine wz_get (v := .ref 29) (p9 := 29) rfl rfl rfl rfl rfl ?_
  refine wz_iload_n (p9 := 30) rfl rfl rfl ?_
  refine wl_Rtx (f := R.tx) (p9 := 31) rfl rfl rfl (by omega) ?_
  refine wz_istore_n (l9 := [.ref 26, .int (nI i), .int (nI (R.tx i)), v3]) (p9 := 32) rfl rfl rfl rfl ?_
  refine wz_iload_n (p9 := 33) rfl rfl rfl ?_
  refine wz_bipush (x := nI 97) (p9 := 35) rfl rfl (by decide) ?_
  refine wn_iclt (t9 := 84) (p9 := 38) rfl rfl rfl (by omega) (by omega) (fun _ => ?_) (fun h9 => by omega)
  refine wz_iload_n (p9 := 85) rfl rfl rfl ?_
  refine wz_bipush (x := nI 40) (p9 := 87) rfl rfl (by decide) ?_
  refine wn_iceq (t9 := 96) (p9 := 90) rfl rfl rfl (by omega) (by omega) (fun h9 => by omega) (fun _ => ?_)
  refine wz_iload_n (p9 := 91) rfl rfl rfl ?_
  refine wz_bipush (x := nI 91) (p9 := 93) rfl rfl (by decide) ?_
  refine wn_icne (t9 := 154) (p9 := 96) rfl rfl rfl (by omega) (by omega) (fun _ => ?_) (fun h9 => by omega)
  refine wz_iload_n (p9 := 155) rfl rfl rfl ?_
  refine wz_bipush (x := nI 44) (p9 := 157) rfl rfl (by decide) ?_
  refine wn_icne (t9 := 215) (p9 := 160) rfl rfl rfl (by omega) (by omega) (fun h9 => by omega) (fun _ => ?_)
  refine wz_aload_n (p9 := 161) rfl rfl rfl ?_
  refine wz_get (v := .int (nI R.dp)) (p9 := 164) rfl rfl rfl rfl rfl ?_
  refine wn_ifle (t9 := 215) (p9 := 167) rfl rfl rfl (by omega) (fun h9 => by omega) (fun _ => ?_)
  refine wz_aload_n (p9 := 168) rfl rfl rfl ?_
  refine wz_get (v := .ref 33) (p9 := 171) rfl rfl rfl rfl rfl ?_
  refine wz_aload_n (p9 := 172) rfl rfl rfl ?_
  refine wz_get (v := .int (nI R.dp)) (p9 := 175) rfl rfl rfl rfl rfl ?_
  refine wz_iconst (x := nI 1) (p9 := 176) rfl rfl (by decide) ?_
  refine wn_sub (p9 := 177) rfl rfl (by omega) ?_
  refine wl_Rki (f := R.ki) (p9 := 178) rfl rfl rfl (by omega) ?_
  refine wz_iconst (x := nI 1) (p9 := 179) rfl rfl (by decide) ?_
  refine wn_icne (t9 := 215) (p9 := 182) rfl rfl rfl (by omega) (by omega) (fun h9 => by omega) (fun _ => ?_)
  refine wz_aload_n (p9 := 183) rfl rfl rfl ?_
  refine wz_get (v := .ref 33) (p9 := 186) rfl rfl rfl rfl rfl ?_
  refine wz_aload_n (p9 := 187) rfl rfl rfl ?_
  refine wz_get (v := .int (nI R.dp)) (p9 := 190) rfl rfl rfl rfl rfl ?_
  refine wz_iconst (x := nI 1) (p9 := 191) rfl rfl (by decide) ?_
  refine wn_sub (p9 := 192) rfl rfl (by omega) ?_
  refine wz_iconst (x := nI 2) (p9 := 193) rfl rfl (by decide) ?_
  refine ws_Rki (f := R.ki) (p9 := 194) rfl rfl rfl (by omega) (R1 := (RA.s_ki R (un R.ki (R.dp - 1) 2))) rfl ?_
  refine wz_aload_n (p9 := 195) rfl rfl rfl ?_
  refine wz_get (v := .ref 35) (p9 := 198) rfl rfl rfl rfl rfl ?_
  refine wz_aload_n (p9 := 199) rfl rfl rfl ?_
  refine wz_get (v := .int (nI R.dp)) (p9 := 202) rfl rfl rfl rfl rfl ?_
  refine wz_iconst (x := nI 1) (p9 := 203) rfl rfl (by decide) ?_
  refine wn_sub (p9 := 204) rfl rfl (by omega) ?_
  refine wz_aload_n (p9 := 205) rfl rfl rfl ?_
  refine wz_get (v := .int (nI R.mn)) (p9 := 208) rfl rfl rfl rfl rfl ?_
  refine ws_Rmi (f := R.mi) (p9 := 209) rfl rfl rfl (by omega) (R1 := (RA.s_mi (RA.s_ki R (un R.ki (R.dp - 1) 2)) (un R.mi (R.dp - 1) R.mn))) rfl ?_
  refine wn_inc (b := 1) (l9 := [.ref 26, .int (nI (i + 1)), .int (nI (R.tx i)), v3]) (p9 := 212) rfl rfl rfl (by decide) rfl ?_
  refine wz_goto (p9 := 358) rfl rfl ?_
  refine wz_goto (p9 := 17) rfl rfl ?_
  exact IH _ (CA.s_km (CA.s_kd (CA.s_sn C 0) (un C.kd (C.dp - 1) 44)) (un C.km (C.dp - 1) C.rc)) _ _ _ (Nat.lt_succ_self i) (by omega) rfl S1 (fun _ => ⟨fun q => (by cases q), fun q => absurd rfl q⟩) (rt_step hi en) ⟨rfl, rfl, rfl, rfl, rfl, rfl, rfl, rfl, rfl, rfl, rfl, rfl, rfl, rfl, rfl, rfl, rfl, rfl, rfl, rfl, rfl, rfl, rfl⟩
theorem l_lookR {X : Nat × (Nat → Int32)} {d : Nat} {A : CA} {o : Nat → Int64} {k z i : Nat} {Q : px_Z → Prop} {C : CA} {R : RA} {v2 v3 : Value} (hi : i < C.bc) (S : SI C R (R.mn, R.cm, R.tm)) (c : C.tx i = 41 ∧ 0 < C.dp ∧ C.kd (C.dp - 1) = 40) (IH : ∀ (i2 : Nat) (C2 : CA) (R2 : RA) (v2 v3 : Value), i < i2 → i2 ≤ C.bc → C2.bc = C.bc → SI C2 R2 (R2.mn, R2.cm, R2.tm) → sgn C2 i2 → rt (C.bc - i) i C = rt (C.bc - i2) i2 C2 → sM R R2 → wp X (d + 6) 108 (17, [.ref 26, .int (nI i2), v2, v3], [], WW A R2 o, k, z) Q) : wp X (d + 6) 108 (17, [.ref 26, .int (nI i), v2, v3], [], WW A R o, k, z) Q := by
  have hN := S.nv
  have T := S.T
  have b100 := S.bc
  have hsz := S.sz
  have htx := congrFun S.tx i
  have ht8 := S.t8 i
  have hdp := S.dp
  have hdp8 : C.dp ≤ 8 := hN.2.2.1
  have m6 := T.m6
  have hmv := S.m
  have e1 : C.rc = R.mn := S.eq.1
  have e2 : C.ov = R.tm := S.eq.2.1
  have h400 : C.rc ≤ 400 := S.ov.1
  have hs : R.sz ≤ 100 := by omega
  have h101 : i + 1 ≤ 100 := by omega
  have hx : ∀ q, R.tx q < 256 := by rw [S.tx]; exact S.t8
  have en : nx C (C.tx i) = some (CA.s_sn (CA.s_pl (CA.s_ps (CA.s_dp C (C.dp - 1)) (C.ks (C.dp - 1))) 0) 2) := by
    unfold nx
    rw [if_neg (by omega), if_neg (by omega), if_pos c.1, if_pos c.2]
  obtain ⟨N1, s1⟩ := NV_nx (S.t8 i) hN en
  have hk := S.kd (C.dp - 1) (by omega)
  have hs9 := hN.2.2.2.2.1 (C.dp - 1) (by omega)
  have S1 : SI (CA.s_sn (CA.s_pl (CA.s_ps (CA.s_dp C (C.dp - 1)) (C.ks (C.dp - 1))) 0) 2) (RA.s_dp R (R.dp - 1)) (R.mn, R.cm, R.tm) := ⟨N1, S.p, S.m, S.t, S.sz, S.tx, S.bc, S.t8, (show R.dp - 1 = C.dp - 1 by omega), S.ov, S.eq, fun q hq => S.kd q (by have : q < C.dp - 1 := hq; omega)⟩
  have hf9 : C.ks (C.dp - 1) ≤ R.mn := by rw [← e1]; exact hs9.1
  have hki : R.ki (R.dp - 1) = 0 := by rw [hdp]; omega
  have hfr : R.fr (R.dp - 1) = C.ks (C.dp - 1) := by rw [hdp]; exact hk.1
  refine wz_iload_n (p9 := 18) rfl rfl rfl ?_
  refine wz_aload_n (p9 := 19) rfl rfl rfl ?_
  refine wz_get (v := .int (nI R.sz)) (p9 := 22) rfl rfl rfl rfl rfl ?_
  refine wn_icge (t9 := 361) (p9 := 25) rfl rfl rfl (by omega) (by omega) (fun h9 => by omega) (fun _ => ?_)
  refine wz_aload_n (p9 := 26) rfl rfl rfl ?_
  refine wz_get (v := .ref 29) (p9 := 29) rfl rfl rfl rfl rfl ?_
  refine wz_iload_n (p9 := 30) rfl rfl rfl ?_
  refine wl_Rtx (f := R.tx) (p9 := 31) rfl rfl rfl (by omega) ?_
  refine wz_istore_n (l9 := [.ref 26, .int (nI i), .int (nI (R.tx i)), v3]) (p9 := 32) rfl rfl rfl rfl ?_
  refine wz_iload_n (p9 := 33) rfl rfl rfl ?_
  refine wz_bipush (x := nI 97) (p9 := 35) rfl rfl (by decide) ?_
  refine wn_iclt (t9 := 84) (p9 := 38) rfl rfl rfl (by omega) (by omega) (fun _ => ?_) (fun h9 => by omega)
  refine wz_iload_n (p9 := 85) rfl rfl rfl ?_
  refine wz_bipush (x := nI 40) (p9 := 87) rfl rfl (by decide) ?_
  refine wn_iceq (t9 := 96) (p9 := 90) rfl rfl rfl (by omega) (by omega) (fun h9 => by omega) (fun _ => ?_)
  refine wz_iload_n (p9 := 91) rfl rfl rfl ?_
  refine wz_bipush (x := nI 91) (p9 := 93) rfl rfl (by decide) ?_
  refine wn_icne (t9 := 154) (p9 := 96) rfl rfl rfl (by omega) (by omega) (fun _ => ?_) (fun h9 => by omega)
  refine wz_iload_n (p9 := 155) rfl rfl rfl ?_
  refine wz_bipush (x := nI 44) (p9 := 157) rfl rfl (by decide) ?_
  refine wn_icne (t9 := 215) (p9 := 160) rfl rfl rfl (by omega) (by omega) (fun _ => ?_) (fun h9 => by omega)
  refine wz_iload_n (p9 := 216) rfl rfl rfl ?_
  refine wz_bipush (x := nI 41) (p9 := 218) rfl rfl (by decide) ?_
  refine wn_icne (t9 := 242) (p9 := 221) rfl rfl rfl (by omega) (by omega) (fun h9 => by omega) (fun _ => ?_)
  refine wz_aload_n (p9 := 222) rfl rfl rfl ?_
  refine wz_get (v := .int (nI R.dp)) (p9 := 225) rfl rfl rfl rfl rfl ?_
  refine wn_ifle (t9 := 242) (p9 := 228) rfl rfl rfl (by omega) (fun h9 => by omega) (fun _ => ?_)
  refine wz_aload_n (p9 := 229) rfl rfl rfl ?_
  refine wz_get (v := .ref 33) (p9 := 232) rfl rfl rfl rfl rfl ?_
  refine wz_aload_n (p9 := 233) rfl rfl rfl ?_
  refine wz_get (v := .int (nI R.dp)) (p9 := 236) rfl rfl rfl rfl rfl ?_
  refine wz_iconst (x := nI 1) (p9 := 237) rfl rfl (by decide) ?_
  refine wn_sub (p9 := 238) rfl rfl (by omega) ?_
  refine wl_Rki (f := R.ki) (p9 := 239) rfl rfl rfl (by omega) ?_
  refine wn_ifeq (t9 := 270) (p9 := 242) rfl rfl rfl (by omega) (fun _ => ?_) (fun h9 => by omega)
  refine wz_aload_n (p9 := 271) rfl rfl rfl ?_
  refine wz_dupr (p9 := 272) rfl rfl ?_
  refine wz_get (v := .int (nI R.dp)) (p9 := 275) rfl rfl rfl rfl rfl ?_
  refine wz_iconst (x := nI 1) (p9 := 276) rfl rfl (by decide) ?_
  refine wn_sub (p9 := 277) rfl rfl (by omega) ?_
  refine wp_Rdp (x := (R.dp - 1)) (p9 := 280) rfl rfl rfl rfl (R1 := (RA.s_dp R (R.dp - 1))) rfl ?_
  refine wz_aload_n (p9 := 281) rfl rfl rfl ?_
  refine wz_get (v := .ref 33) (p9 := 284) rfl rfl rfl rfl rfl ?_
  refine wz_aload_n (p9 := 285) rfl rfl rfl ?_
  refine wz_get (v := .int (nI (R.dp - 1))) (p9 := 288) rfl rfl rfl rfl rfl ?_
  refine wl_Rki (f := R.ki) (p9 := 289) rfl rfl rfl (by omega) ?_
  refine wz_iconst (x := nI 2) (p9 := 290) rfl rfl (by decide) ?_
  refine wn_icne (t9 := 336) (p9 := 293) rfl rfl rfl (by omega) (by omega) (fun _ => ?_) (fun h9 => by omega)
  refine wz_aload_n (p9 := 337) rfl rfl rfl ?_
  refine wz_iload_n (p9 := 338) rfl rfl rfl ?_
  refine wz_iconst (x := nI 1) (p9 := 339) rfl rfl (by decide) ?_
  refine wn_add (p9 := 340) rfl rfl ?_
  refine wz_aload_n (p9 := 341) rfl rfl rfl ?_
  refine wz_get (v := .ref 34) (p9 := 344) rfl rfl rfl rfl rfl ?_
  refine wz_aload_n (p9 := 345) rfl rfl rfl ?_
  refine wz_get (v := .int (nI (R.dp - 1))) (p9 := 348) rfl rfl rfl rfl rfl ?_
  refine wl_Rfr (f := R.fr) (p9 := 349) rfl rfl rfl (by omega) ?_
  rw [hfr]
  have c41 : C.tx i < 97 := by omega
  have B1 := S1.BO
  have L1 : lpart (CA.s_sn (CA.s_pl (CA.s_ps (CA.s_dp C (C.dp - 1)) (C.ks (C.dp - 1))) 0) 2) := ⟨rfl, N1.2.2.2.2.2.1 (show 2 ≠ 0 by decide), fun q => by cases q⟩
  obtain ⟨C2, i2, x, l, hd, hl, hpi, S2, f1, f2, f3, f4, f5, f6, f7⟩ := sim_dig (p := i + 1) S1 L1 hi
  have f1 : C2.ps = C.ks (C.dp - 1) := f1
  have g1 : C2.bc = C.bc := f4.bc
  have g2 : C2.tx = C.tx := f4.tx
  have g3 : C2.od = C.od := f4.od
  obtain ⟨C3, ρ, hq, S3, k1, k2, k3, k4⟩ := sim_quo S2 f2 f3 (show i2 ≤ C2.bc by rw [g1]; exact f5) (fun q r => by rw [g2]; exact f7 q (by rw [g1] at r; exact r))
  rw [g1, g2] at hq
  rw [g1, g2] at k4
  rw [g1] at k2 k3
  rw [f1, g3] at S3
  have hd9 : (i + 1 < R.sz ∧ 50 ≤ R.tx (i + 1) ∧ R.tx (i + 1) ≤ 57 ∧ i2 = i + 1 + 1 ∧ x = R.tx (i + 1) - 48) ∨ (¬ (i + 1 < R.sz ∧ 50 ≤ R.tx (i + 1) ∧ R.tx (i + 1) ≤ 57) ∧ i2 = i + 1 ∧ x = 1) := by rw [S.sz, S.tx]; exact hd
  have hq9 : (i2 < R.sz ∧ R.tx i2 = 39 ∧ ρ = 1) ∨ (¬ (i2 < R.sz ∧ R.tx i2 = 39) ∧ ρ = 0) := by rw [S.sz, S.tx]; exact hq
  have hl9 : (((R.mn, R.cm, R.tm).1 = C.ks (C.dp - 1) + 1 ∧ 0 < i + 1 ∧ 97 ≤ R.tx (i + 1 - 1) ∧ R.tx (i + 1 - 1) ≤ 102) ∧ l = 1 ∧ (R.mn, R.cm, R.tm).2.2 = 0) ∨ (¬ ((R.mn, R.cm, R.tm).1 = C.ks (C.dp - 1) + 1 ∧ 0 < i + 1 ∧ 97 ≤ R.tx (i + 1 - 1) ∧ R.tx (i + 1 - 1) ≤ 102) ∧ l = 0) := by
    have q0 : R.tx (i + 1 - 1) = C.tx i := htx
    rcases hl with ⟨q1, _⟩ | ⟨_, q2⟩
    · cases q1
    · exact Or.inr ⟨fun q => absurd (q0 ▸ q.2.2.1) (Nat.not_le.mpr c41), q2⟩
  have T2 := T
  have hb9 : sgn C3 (i2 + ρ) := by
    intro q
    rw [k1.bc, g1] at q
    rw [k1.tx, g2]
    exact k4 q
  refine wz_c1 (p9 := 352) (w1 := WW A (RA.s_dp (RA.s_tm (RA.s_mn (RA.s_cm R ((tl2 C.od (C.ks (C.dp - 1)) ρ (tl1 C.od (C.ks (C.dp - 1)) x l (R.mn, R.cm, R.tm))).2.1)) ((tl2 C.od (C.ks (C.dp - 1)) ρ (tl1 C.od (C.ks (C.dp - 1)) x l (R.mn, R.cm, R.tm))).1)) ((tl2 C.od (C.ks (C.dp - 1)) ρ (tl1 C.od (C.ks (C.dp - 1)) x l (R.mn, R.cm, R.tm))).2.2)) (R.dp - 1)) o) (u := .int (nI (i2 + ρ))) (wa_v (N := 110) (i := 26) (As := [.int (nI (i + 1)), .int (nI (C.ks (C.dp - 1)))]) (rest := []) rfl rfl rfl rfl rfl rfl rfl) rfl ((g_tail (d := 0) (A := A) (R := (RA.s_dp R (R.dp - 1))) T2 hs hx (i := i2) (x := x) (ρ := ρ) (l := l) h101 hd9 hq9 hl9 B1 hf9).up (Nat.le_trans (m := 6) (by decide) (Nat.le_add_left 6 d))) ?_
  refine wz_istore_n (l9 := [.ref 26, .int (nI (i2 + ρ)), .int (nI (R.tx i)), v3]) (p9 := 353) rfl rfl rfl rfl ?_
  refine wz_goto (p9 := 358) rfl rfl ?_
  refine wz_goto (p9 := 17) rfl rfl ?_
  exact IH _ C3 _ _ _ (Nat.lt_of_lt_of_le (Nat.lt_of_succ_le hpi) (Nat.le_add_right i2 ρ)) k2 (by rw [k1.bc, g1]) S3 hb9 ((rt_step hi en).trans (f6.trans k3)) ⟨rfl, rfl, rfl, rfl, rfl, rfl, rfl, rfl, rfl, rfl, rfl, rfl, rfl, rfl, rfl, rfl, rfl, rfl, rfl, rfl, rfl, rfl, rfl⟩
theorem l_lookB {X : Nat × (Nat → Int32)} {d : Nat} {A : CA} {o : Nat → Int64} {k z i : Nat} {Q : px_Z → Prop} {C : CA} {R : RA} {v2 v3 : Value} (hi : i < C.bc) (S : SI C R (R.mn, R.cm, R.tm)) (c : C.tx i = 93 ∧ 0 < C.dp ∧ C.kd (C.dp - 1) = 44) (IH : ∀ (i2 : Nat) (C2 : CA) (R2 : RA) (v2 v3 : Value), i < i2 → i2 ≤ C.bc → C2.bc = C.bc → SI C2 R2 (R2.mn, R2.cm, R2.tm) → sgn C2 i2 → rt (C.bc - i) i C = rt (C.bc - i2) i2 C2 → sM R R2 → wp X (d + 6) 108 (17, [.ref 26, .int (nI i2), v2, v3], [], WW A R2 o, k, z) Q) : wp X (d + 6) 108 (17, [.ref 26, .int (nI i), v2, v3], [], WW A R o, k, z) Q := by
  have hN := S.nv
  have T := S.T
  have b100 := S.bc
  have hsz := S.sz
  have htx := congrFun S.tx i
  have ht8 := S.t8 i
  have hdp := S.dp
  have hdp8 : C.dp ≤ 8 := hN.2.2.1
  have m6 := T.m6
  have hmv := S.m
  have e1 : C.rc = R.mn := S.eq.1
  have e2 : C.ov = R.tm := S.eq.2.1
  have h400 : C.rc ≤ 400 := S.ov.1
  have hs : R.sz ≤ 100 := by omega
  have h101 : i + 1 ≤ 100 := by omega
  have hx : ∀ q, R.tx q < 256 := by rw [S.tx]; exact S.t8
  have en : nx C (C.tx i) = some (CA.s_bu (CA.s_sn (CA.s_pl (CA.s_ps (CA.s_ov (CA.s_rc (CA.s_dp C (C.dp - 1)) (pt C.od (C.km (C.dp - 1)) (C.rc - C.km (C.dp - 1)) (pt C.od (C.ks (C.dp - 1)) (C.km (C.dp - 1) - C.ks (C.dp - 1)) (C.rc, C.bu, C.ov))).1) (pt C.od (C.km (C.dp - 1)) (C.rc - C.km (C.dp - 1)) (pt C.od (C.ks (C.dp - 1)) (C.km (C.dp - 1) - C.ks (C.dp - 1)) (C.rc, C.bu, C.ov))).2.2) (C.ks (C.dp - 1))) 0) 2) (pt C.od (C.km (C.dp - 1)) (C.rc - C.km (C.dp - 1)) (pt C.od (C.ks (C.dp - 1)) (C.km (C.dp - 1) - C.ks (C.dp - 1)) (C.rc, C.bu, C.ov))).2.1) := by
    unfold nx
    rw [if_neg (by omega), if_neg (by omega), if_neg (by omega), if_pos c.1, if_pos c.2]
  obtain ⟨N1, s1⟩ := NV_nx (S.t8 i) hN en
  have hk := S.kd (C.dp - 1) (by omega)
  have hs9 := hN.2.2.2.2.1 (C.dp - 1) (by omega)
  have hs10 := hs9.2 c.2.2
  have hmi : R.mi (R.dp - 1) = C.km (C.dp - 1) := by rw [hdp]; omega
  have ev1 : ev (pt C.od (C.ks (C.dp - 1)) (C.km (C.dp - 1) - C.ks (C.dp - 1)) (C.rc, C.bu, C.ov)) (pt C.od (C.ks (C.dp - 1)) (C.km (C.dp - 1) - C.ks (C.dp - 1)) (R.mn, R.cm, R.tm)) := ev_pt _ _ _ S.eq S.ov (show C.ks (C.dp - 1) + (C.km (C.dp - 1) - C.ks (C.dp - 1)) ≤ C.rc by omega)
  have ov1 := OV_pt (od := C.od) (f := C.ks (C.dp - 1)) (C.km (C.dp - 1) - C.ks (C.dp - 1)) _ S.ov
  have ge1 : C.rc ≤ (pt C.od (C.ks (C.dp - 1)) (C.km (C.dp - 1) - C.ks (C.dp - 1)) (C.rc, C.bu, C.ov)).1 := pt_ge (od := C.od) (f := C.ks (C.dp - 1)) (C.km (C.dp - 1) - C.ks (C.dp - 1)) (C.rc, C.bu, C.ov)
  have ev2 : ev (pt C.od (C.km (C.dp - 1)) (C.rc - C.km (C.dp - 1)) (pt C.od (C.ks (C.dp - 1)) (C.km (C.dp - 1) - C.ks (C.dp - 1)) (C.rc, C.bu, C.ov))) (pt C.od (C.km (C.dp - 1)) (R.mn - C.km (C.dp - 1)) (pt C.od (C.ks (C.dp - 1)) (C.km (C.dp - 1) - C.ks (C.dp - 1)) (R.mn, R.cm, R.tm))) := by
    rw [← e1]
    exact ev_pt _ _ _ (by rw [← e1] at ev1; exact ev1) ov1 (by omega)
  have ov2 := OV_pt (od := C.od) (f := C.km (C.dp - 1)) (C.rc - C.km (C.dp - 1)) _ ov1
  have S1 : SI (CA.s_bu (CA.s_sn (CA.s_pl (CA.s_ps (CA.s_ov (CA.s_rc (CA.s_dp C (C.dp - 1)) (pt C.od (C.km (C.dp - 1)) (C.rc - C.km (C.dp - 1)) (pt C.od (C.ks (C.dp - 1)) (C.km (C.dp - 1) - C.ks (C.dp - 1)) (C.rc, C.bu, C.ov))).1) (pt C.od (C.km (C.dp - 1)) (C.rc - C.km (C.dp - 1)) (pt C.od (C.ks (C.dp - 1)) (C.km (C.dp - 1) - C.ks (C.dp - 1)) (C.rc, C.bu, C.ov))).2.2) (C.ks (C.dp - 1))) 0) 2) (pt C.od (C.km (C.dp - 1)) (C.rc - C.km (C.dp - 1)) (pt C.od (C.ks (C.dp - 1)) (C.km (C.dp - 1) - C.ks (C.dp - 1)) (C.rc, C.bu, C.ov))).2.1) (RA.s_dp R (R.dp - 1)) (pt C.od (C.km (C.dp - 1)) (R.mn - C.km (C.dp - 1)) (pt C.od (C.ks (C.dp - 1)) (C.km (C.dp - 1) - C.ks (C.dp - 1)) (R.mn, R.cm, R.tm))) := ⟨N1, S.p, S.m, S.t, S.sz, S.tx, S.bc, S.t8, (show R.dp - 1 = C.dp - 1 by omega), ov2, ev2, fun q hq => S.kd q (by have : q < C.dp - 1 := hq; omega)⟩
  have B0 := S.BO
  have B01 := BO_pt T.oo (f := C.ks (C.dp - 1)) (C.km (C.dp - 1) - C.ks (C.dp - 1)) _ B0 (show C.ks (C.dp - 1) + (C.km (C.dp - 1) - C.ks (C.dp - 1)) ≤ R.mn by omega)
  have hf9 : C.ks (C.dp - 1) ≤ (pt C.od (C.km (C.dp - 1)) (R.mn - C.km (C.dp - 1)) (pt C.od (C.ks (C.dp - 1)) (C.km (C.dp - 1) - C.ks (C.dp - 1)) (R.mn, R.cm, R.tm))).1 := by
    have q1 := pt_ge (od := C.od) (f := C.ks (C.dp - 1)) (C.km (C.dp - 1) - C.ks (C.dp - 1)) (R.mn, R.cm, R.tm)
    have q2 := pt_ge (od := C.od) (f := C.km (C.dp - 1)) (R.mn - C.km (C.dp - 1)) (pt C.od (C.ks (C.dp - 1)) (C.km (C.dp - 1) - C.ks (C.dp - 1)) (R.mn, R.cm, R.tm))
    have q3 : R.mn ≤ (pt C.od (C.ks (C.dp - 1)) (C.km (C.dp - 1) - C.ks (C.dp - 1)) (R.mn, R.cm, R.tm)).1 := q1
    omega
  have hki : R.ki (R.dp - 1) = 2 := by rw [hdp]; omega
  have hfr : R.fr (R.dp - 1) = C.ks (C.dp - 1) := by rw [hdp]; exact hk.1
  refine wz_iload_n (p9 := 18) rfl rfl rfl ?_
  refine wz_aload_n (p9 := 19) rfl rfl rfl ?_
  refine wz_get (v := .int (nI R.sz)) (p9 := 22) rfl rfl rfl rfl rfl ?_
  refine wn_icge (t9 := 361) (p9 := 25) rfl rfl rfl (by omega) (by omega) (fun h9 => by omega) (fun _ => ?_)
  refine wz_aload_n (p9 := 26) rfl rfl rfl ?_
  refine wz_get (v := .ref 29) (p9 := 29) rfl rfl rfl rfl rfl ?_
  refine wz_iload_n (p9 := 30) rfl rfl rfl ?_
  refine wl_Rtx (f := R.tx) (p9 := 31) rfl rfl rfl (by omega) ?_
  refine wz_istore_n (l9 := [.ref 26, .int (nI i), .int (nI (R.tx i)), v3]) (p9 := 32) rfl rfl rfl rfl ?_
  refine wz_iload_n (p9 := 33) rfl rfl rfl ?_
  refine wz_bipush (x := nI 97) (p9 := 35) rfl rfl (by decide) ?_
  refine wn_iclt (t9 := 84) (p9 := 38) rfl rfl rfl (by omega) (by omega) (fun _ => ?_) (fun h9 => by omega)
  refine wz_iload_n (p9 := 85) rfl rfl rfl ?_
  refine wz_bipush (x := nI 40) (p9 := 87) rfl rfl (by decide) ?_
  refine wn_iceq (t9 := 96) (p9 := 90) rfl rfl rfl (by omega) (by omega) (fun h9 => by omega) (fun _ => ?_)
  refine wz_iload_n (p9 := 91) rfl rfl rfl ?_
  refine wz_bipush (x := nI 91) (p9 := 93) rfl rfl (by decide) ?_
  refine wn_icne (t9 := 154) (p9 := 96) rfl rfl rfl (by omega) (by omega) (fun _ => ?_) (fun h9 => by omega)
  refine wz_iload_n (p9 := 155) rfl rfl rfl ?_
  refine wz_bipush (x := nI 44) (p9 := 157) rfl rfl (by decide) ?_
  refine wn_icne (t9 := 215) (p9 := 160) rfl rfl rfl (by omega) (by omega) (fun _ => ?_) (fun h9 => by omega)
  refine wz_iload_n (p9 := 216) rfl rfl rfl ?_
  refine wz_bipush (x := nI 41) (p9 := 218) rfl rfl (by decide) ?_
  refine wn_icne (t9 := 242) (p9 := 221) rfl rfl rfl (by omega) (by omega) (fun _ => ?_) (fun h9 => by omega)
  refine wz_iload_n (p9 := 243) rfl rfl rfl ?_
  refine wz_bipush (x := nI 93) (p9 := 245) rfl rfl (by decide) ?_
  refine wn_icne (t9 := 356) (p9 := 248) rfl rfl rfl (by omega) (by omega) (fun h9 => by omega) (fun _ => ?_)
  refine wz_aload_n (p9 := 249) rfl rfl rfl ?_
  refine wz_get (v := .int (nI R.dp)) (p9 := 252) rfl rfl rfl rfl rfl ?_
  refine wn_ifle (t9 := 356) (p9 := 255) rfl rfl rfl (by omega) (fun h9 => by omega) (fun _ => ?_)
  refine wz_aload_n (p9 := 256) rfl rfl rfl ?_
  refine wz_get (v := .ref 33) (p9 := 259) rfl rfl rfl rfl rfl ?_
  refine wz_aload_n (p9 := 260) rfl rfl rfl ?_
  refine wz_get (v := .int (nI R.dp)) (p9 := 263) rfl rfl rfl rfl rfl ?_
  refine wz_iconst (x := nI 1) (p9 := 264) rfl rfl (by decide) ?_
  refine wn_sub (p9 := 265) rfl rfl (by omega) ?_
  refine wl_Rki (f := R.ki) (p9 := 266) rfl rfl rfl (by omega) ?_
  refine wz_iconst (x := nI 2) (p9 := 267) rfl rfl (by decide) ?_
  refine wn_icne (t9 := 356) (p9 := 270) rfl rfl rfl (by omega) (by omega) (fun h9 => by omega) (fun _ => ?_)
  refine wz_aload_n (p9 := 271) rfl rfl rfl ?_
  refine wz_dupr (p9 := 272) rfl rfl ?_
  refine wz_get (v := .int (nI R.dp)) (p9 := 275) rfl rfl rfl rfl rfl ?_
  refine wz_iconst (x := nI 1) (p9 := 276) rfl rfl (by decide) ?_
  refine wn_sub (p9 := 277) rfl rfl (by omega) ?_
  refine wp_Rdp (x := (R.dp - 1)) (p9 := 280) rfl rfl rfl rfl (R1 := (RA.s_dp R (R.dp - 1))) rfl ?_
  refine wz_aload_n (p9 := 281) rfl rfl rfl ?_
  refine wz_get (v := .ref 33) (p9 := 284) rfl rfl rfl rfl rfl ?_
  refine wz_aload_n (p9 := 285) rfl rfl rfl ?_
  refine wz_get (v := .int (nI (R.dp - 1))) (p9 := 288) rfl rfl rfl rfl rfl ?_
  refine wl_Rki (f := R.ki) (p9 := 289) rfl rfl rfl (by omega) ?_
  refine wz_iconst (x := nI 2) (p9 := 290) rfl rfl (by decide) ?_
  refine wn_icne (t9 := 336) (p9 := 293) rfl rfl rfl (by omega) (by omega) (fun h9 => by omega) (fun _ => ?_)
  refine wz_aload_n (p9 := 294) rfl rfl rfl ?_
  refine wz_get (v := .int (nI R.mn)) (p9 := 297) rfl rfl rfl rfl rfl ?_
  refine wz_istore_n (l9 := [.ref 26, .int (nI i), .int (nI (R.tx i)), .int (nI R.mn)]) (p9 := 298) rfl rfl rfl rfl ?_
  refine wz_aload_n (p9 := 299) rfl rfl rfl ?_
  refine wz_aload_n (p9 := 300) rfl rfl rfl ?_
  refine wz_get (v := .ref 34) (p9 := 303) rfl rfl rfl rfl rfl ?_
  refine wz_aload_n (p9 := 304) rfl rfl rfl ?_
  refine wz_get (v := .int (nI (R.dp - 1))) (p9 := 307) rfl rfl rfl rfl rfl ?_
  refine wl_Rfr (f := R.fr) (p9 := 308) rfl rfl rfl (by omega) ?_
  refine wz_aload_n (p9 := 309) rfl rfl rfl ?_
  refine wz_get (v := .ref 35) (p9 := 312) rfl rfl rfl rfl rfl ?_
  refine wz_aload_n (p9 := 313) rfl rfl rfl ?_
  refine wz_get (v := .int (nI (R.dp - 1))) (p9 := 316) rfl rfl rfl rfl rfl ?_
  refine wl_Rmi (f := R.mi) (p9 := 317) rfl rfl rfl (by omega) ?_
  refine wz_iconst (x := nI 1) (p9 := 318) rfl rfl (by decide) ?_
  rw [hfr, hmi]
  refine wz_c0 (p9 := 321) (w1 := WW A (RA.s_dp (RA.s_tm (RA.s_mn (RA.s_cm R ((pt C.od (C.ks (C.dp - 1)) (C.km (C.dp - 1) - C.ks (C.dp - 1)) (R.mn, R.cm, R.tm)).2.1)) ((pt C.od (C.ks (C.dp - 1)) (C.km (C.dp - 1) - C.ks (C.dp - 1)) (R.mn, R.cm, R.tm)).1)) ((pt C.od (C.ks (C.dp - 1)) (C.km (C.dp - 1) - C.ks (C.dp - 1)) (R.mn, R.cm, R.tm)).2.2)) (R.dp - 1)) o) (wa_v (N := 112) (i := 26) (As := [.int (nI (C.ks (C.dp - 1))), .int (nI (C.km (C.dp - 1))), .int (nI 1)]) (rest := []) rfl rfl rfl rfl rfl rfl rfl) rfl ((g_again1 (d := 0) (A := A) (R := (RA.s_dp R (R.dp - 1))) T (b := (R.mn, R.cm, R.tm)) rfl B0 hs10.1 (show C.km (C.dp - 1) ≤ R.mn by omega)).up (by omega)) ?_
  refine wz_aload_n (p9 := 322) rfl rfl rfl ?_
  refine wz_aload_n (p9 := 323) rfl rfl rfl ?_
  refine wz_get (v := .ref 35) (p9 := 326) rfl rfl rfl rfl rfl ?_
  refine wz_aload_n (p9 := 327) rfl rfl rfl ?_
  refine wz_get (v := .int (nI (R.dp - 1))) (p9 := 330) rfl rfl rfl rfl rfl ?_
  refine wl_Rmi (f := R.mi) (p9 := 331) rfl rfl rfl (by omega) ?_
  refine wz_iload_n (p9 := 332) rfl rfl rfl ?_
  refine wz_iconst (x := nI 1) (p9 := 333) rfl rfl (by decide) ?_
  rw [hmi]
  refine wz_c0 (p9 := 336) (w1 := WW A (RA.s_dp (RA.s_tm (RA.s_mn (RA.s_cm R ((pt C.od (C.km (C.dp - 1)) (R.mn - C.km (C.dp - 1)) (pt C.od (C.ks (C.dp - 1)) (C.km (C.dp - 1) - C.ks (C.dp - 1)) (R.mn, R.cm, R.tm))).2.1)) ((pt C.od (C.km (C.dp - 1)) (R.mn - C.km (C.dp - 1)) (pt C.od (C.ks (C.dp - 1)) (C.km (C.dp - 1) - C.ks (C.dp - 1)) (R.mn, R.cm, R.tm))).1)) ((pt C.od (C.km (C.dp - 1)) (R.mn - C.km (C.dp - 1)) (pt C.od (C.ks (C.dp - 1)) (C.km (C.dp - 1) - C.ks (C.dp - 1)) (R.mn, R.cm, R.tm))).2.2)) (R.dp - 1)) o) (wa_v (N := 112) (i := 26) (As := [.int (nI (C.km (C.dp - 1))), .int (nI R.mn), .int (nI 1)]) (rest := []) rfl rfl rfl rfl rfl rfl rfl) rfl ((g_again1 (d := 0) (A := A) (R := (RA.s_dp (RA.s_tm (RA.s_mn (RA.s_cm R ((pt C.od (C.ks (C.dp - 1)) (C.km (C.dp - 1) - C.ks (C.dp - 1)) (R.mn, R.cm, R.tm)).2.1)) ((pt C.od (C.ks (C.dp - 1)) (C.km (C.dp - 1) - C.ks (C.dp - 1)) (R.mn, R.cm, R.tm)).1)) ((pt C.od (C.ks (C.dp - 1)) (C.km (C.dp - 1) - C.ks (C.dp - 1)) (R.mn, R.cm, R.tm)).2.2)) (R.dp - 1))) T (b := (pt C.od (C.ks (C.dp - 1)) (C.km (C.dp - 1) - C.ks (C.dp - 1)) (R.mn, R.cm, R.tm))) rfl B01 (show C.km (C.dp - 1) ≤ R.mn by omega) (pt_ge (od := C.od) (f := C.ks (C.dp - 1)) (C.km (C.dp - 1) - C.ks (C.dp - 1)) (R.mn, R.cm, R.tm))).up (by omega)) ?_
  refine wz_aload_n (p9 := 337) rfl rfl rfl ?_
  refine wz_iload_n (p9 := 338) rfl rfl rfl ?_
  refine wz_iconst (x := nI 1) (p9 := 339) rfl rfl (by decide) ?_
  refine wn_add (p9 := 340) rfl rfl ?_
  refine wz_aload_n (p9 := 341) rfl rfl rfl ?_
  refine wz_get (v := .ref 34) (p9 := 344) rfl rfl rfl rfl rfl ?_
  refine wz_aload_n (p9 := 345) rfl rfl rfl ?_
  refine wz_get (v := .int (nI (R.dp - 1))) (p9 := 348) rfl rfl rfl rfl rfl ?_
  refine wl_Rfr (f := R.fr) (p9 := 349) rfl rfl rfl (by omega) ?_
  rw [hfr]
  have c41 : C.tx i < 97 := by omega
  have B1 := S1.BO
  have L1 : lpart (CA.s_bu (CA.s_sn (CA.s_pl (CA.s_ps (CA.s_ov (CA.s_rc (CA.s_dp C (C.dp - 1)) (pt C.od (C.km (C.dp - 1)) (C.rc - C.km (C.dp - 1)) (pt C.od (C.ks (C.dp - 1)) (C.km (C.dp - 1) - C.ks (C.dp - 1)) (C.rc, C.bu, C.ov))).1) (pt C.od (C.km (C.dp - 1)) (C.rc - C.km (C.dp - 1)) (pt C.od (C.ks (C.dp - 1)) (C.km (C.dp - 1) - C.ks (C.dp - 1)) (C.rc, C.bu, C.ov))).2.2) (C.ks (C.dp - 1))) 0) 2) (pt C.od (C.km (C.dp - 1)) (C.rc - C.km (C.dp - 1)) (pt C.od (C.ks (C.dp - 1)) (C.km (C.dp - 1) - C.ks (C.dp - 1)) (C.rc, C.bu, C.ov))).2.1) := ⟨rfl, N1.2.2.2.2.2.1 (show 2 ≠ 0 by decide), fun q => by cases q⟩
  obtain ⟨C2, i2, x, l, hd, hl, hpi, S2, f1, f2, f3, f4, f5, f6, f7⟩ := sim_dig (p := i + 1) S1 L1 hi
  have f1 : C2.ps = C.ks (C.dp - 1) := f1
  have g1 : C2.bc = C.bc := f4.bc
  have g2 : C2.tx = C.tx := f4.tx
  have g3 : C2.od = C.od := f4.od
  obtain ⟨C3, ρ, hq, S3, k1, k2, k3, k4⟩ := sim_quo S2 f2 f3 (show i2 ≤ C2.bc by rw [g1]; exact f5) (fun q r => by rw [g2]; exact f7 q (by rw [g1] at r; exact r))
  rw [g1, g2] at hq
  rw [g1, g2] at k4
  rw [g1] at k2 k3
  rw [f1, g3] at S3
  have hd9 : (i + 1 < R.sz ∧ 50 ≤ R.tx (i + 1) ∧ R.tx (i + 1) ≤ 57 ∧ i2 = i + 1 + 1 ∧ x = R.tx (i + 1) - 48) ∨ (¬ (i + 1 < R.sz ∧ 50 ≤ R.tx (i + 1) ∧ R.tx (i + 1) ≤ 57) ∧ i2 = i + 1 ∧ x = 1) := by rw [S.sz, S.tx]; exact hd
  have hq9 : (i2 < R.sz ∧ R.tx i2 = 39 ∧ ρ = 1) ∨ (¬ (i2 < R.sz ∧ R.tx i2 = 39) ∧ ρ = 0) := by rw [S.sz, S.tx]; exact hq
  have hl9 : (((pt C.od (C.km (C.dp - 1)) (R.mn - C.km (C.dp - 1)) (pt C.od (C.ks (C.dp - 1)) (C.km (C.dp - 1) - C.ks (C.dp - 1)) (R.mn, R.cm, R.tm))).1 = C.ks (C.dp - 1) + 1 ∧ 0 < i + 1 ∧ 97 ≤ R.tx (i + 1 - 1) ∧ R.tx (i + 1 - 1) ≤ 102) ∧ l = 1 ∧ (pt C.od (C.km (C.dp - 1)) (R.mn - C.km (C.dp - 1)) (pt C.od (C.ks (C.dp - 1)) (C.km (C.dp - 1) - C.ks (C.dp - 1)) (R.mn, R.cm, R.tm))).2.2 = 0) ∨ (¬ ((pt C.od (C.km (C.dp - 1)) (R.mn - C.km (C.dp - 1)) (pt C.od (C.ks (C.dp - 1)) (C.km (C.dp - 1) - C.ks (C.dp - 1)) (R.mn, R.cm, R.tm))).1 = C.ks (C.dp - 1) + 1 ∧ 0 < i + 1 ∧ 97 ≤ R.tx (i + 1 - 1) ∧ R.tx (i + 1 - 1) ≤ 102) ∧ l = 0) := by
    have q0 : R.tx (i + 1 - 1) = C.tx i := htx
    rcases hl with ⟨q1, _⟩ | ⟨_, q2⟩
    · cases q1
    · exact Or.inr ⟨fun q => absurd (q0 ▸ q.2.2.1) (Nat.not_le.mpr c41), q2⟩
  have T2 := T
  have hb9 : sgn C3 (i2 + ρ) := by
    intro q
    rw [k1.bc, g1] at q
    rw [k1.tx, g2]
    exact k4 q
  refine wz_c1 (p9 := 352) (w1 := WW A (RA.s_dp (RA.s_tm (RA.s_mn (RA.s_cm R ((tl2 C.od (C.ks (C.dp - 1)) ρ (tl1 C.od (C.ks (C.dp - 1)) x l (pt C.od (C.km (C.dp - 1)) (R.mn - C.km (C.dp - 1)) (pt C.od (C.ks (C.dp - 1)) (C.km (C.dp - 1) - C.ks (C.dp - 1)) (R.mn, R.cm, R.tm))))).2.1)) ((tl2 C.od (C.ks (C.dp - 1)) ρ (tl1 C.od (C.ks (C.dp - 1)) x l (pt C.od (C.km (C.dp - 1)) (R.mn - C.km (C.dp - 1)) (pt C.od (C.ks (C.dp - 1)) (C.km (C.dp - 1) - C.ks (C.dp - 1)) (R.mn, R.cm, R.tm))))).1)) ((tl2 C.od (C.ks (C.dp - 1)) ρ (tl1 C.od (C.ks (C.dp - 1)) x l (pt C.od (C.km (C.dp - 1)) (R.mn - C.km (C.dp - 1)) (pt C.od (C.ks (C.dp - 1)) (C.km (C.dp - 1) - C.ks (C.dp - 1)) (R.mn, R.cm, R.tm))))).2.2)) (R.dp - 1)) o) (u := .int (nI (i2 + ρ))) (wa_v (N := 110) (i := 26) (As := [.int (nI (i + 1)), .int (nI (C.ks (C.dp - 1)))]) (rest := []) rfl rfl rfl rfl rfl rfl rfl) rfl ((g_tail (d := 0) (A := A) (R := (RA.s_dp (RA.s_tm (RA.s_mn (RA.s_cm R ((pt C.od (C.km (C.dp - 1)) (R.mn - C.km (C.dp - 1)) (pt C.od (C.ks (C.dp - 1)) (C.km (C.dp - 1) - C.ks (C.dp - 1)) (R.mn, R.cm, R.tm))).2.1)) ((pt C.od (C.km (C.dp - 1)) (R.mn - C.km (C.dp - 1)) (pt C.od (C.ks (C.dp - 1)) (C.km (C.dp - 1) - C.ks (C.dp - 1)) (R.mn, R.cm, R.tm))).1)) ((pt C.od (C.km (C.dp - 1)) (R.mn - C.km (C.dp - 1)) (pt C.od (C.ks (C.dp - 1)) (C.km (C.dp - 1) - C.ks (C.dp - 1)) (R.mn, R.cm, R.tm))).2.2)) (R.dp - 1))) T2 hs hx (i := i2) (x := x) (ρ := ρ) (l := l) h101 hd9 hq9 hl9 B1 hf9).up (Nat.le_trans (m := 6) (by decide) (Nat.le_add_left 6 d))) ?_
  refine wz_istore_n (l9 := [.ref 26, .int (nI (i2 + ρ)), .int (nI (R.tx i)), .int (nI R.mn)]) (p9 := 353) rfl rfl rfl rfl ?_
  refine wz_goto (p9 := 358) rfl rfl ?_
  refine wz_goto (p9 := 17) rfl rfl ?_
  exact IH _ C3 _ _ _ (Nat.lt_of_lt_of_le (Nat.lt_of_succ_le hpi) (Nat.le_add_right i2 ρ)) k2 (by rw [k1.bc, g1]) S3 hb9 ((rt_step hi en).trans (f6.trans k3)) ⟨rfl, rfl, rfl, rfl, rfl, rfl, rfl, rfl, rfl, rfl, rfl, rfl, rfl, rfl, rfl, rfl, rfl, rfl, rfl, rfl, rfl, rfl, rfl⟩
theorem l_lookN {X : Nat × (Nat → Int32)} {d : Nat} {A : CA} {o : Nat → Int64} {k z i : Nat} {Q : px_Z → Prop} {C : CA} {R : RA} {v2 v3 : Value} (hi : i < C.bc) (S : SI C R (R.mn, R.cm, R.tm)) (G : sgn C i) (n1 : ¬ (97 ≤ C.tx i ∧ C.tx i - 97 < C.Mv)) (n2 : ¬ (C.tx i = 40 ∧ C.dp < 8)) (n3 : ¬ (C.tx i = 91 ∧ C.dp < 8)) (n4 : ¬ (C.tx i = 44 ∧ 0 < C.dp ∧ C.kd (C.dp - 1) = 91)) (n5 : ¬ (C.tx i = 41 ∧ 0 < C.dp ∧ C.kd (C.dp - 1) = 40)) (n6 : ¬ (C.tx i = 93 ∧ 0 < C.dp ∧ C.kd (C.dp - 1) = 44)) (kk : (∀ R2, SI (rt (C.bc - i) i C).2 R2 (R2.mn, R2.cm, R2.tm) → sM R R2 → Q (some (some (.int (lkr C.bc (rt (C.bc - i) i C)))), WW A R2 o, k, z))) : wp X (d + 6) 108 (17, [.ref 26, .int (nI i), v2, v3], [], WW A R o, k, z) Q := by
  have hN := S.nv
  have T := S.T
  have b100 := S.bc
  have hsz := S.sz
  have htx := congrFun S.tx i
  have ht8 := S.t8 i
  have hdp := S.dp
  have hdp8 : C.dp ≤ 8 := hN.2.2.1
  have m6 := T.m6
  have hmv := S.m
  have e1 : C.rc = R.mn := S.eq.1
  have e2 : C.ov = R.tm := S.eq.2.1
  have h400 : C.rc ≤ 400 := S.ov.1
  have hs : R.sz ≤ 100 := by omega
  have h101 : i + 1 ≤ 100 := by omega
  have hx : ∀ q, R.tx q < 256 := by rw [S.tx]; exact S.t8
  have en : nx C (C.tx i) = none := by
    have G2 := G hi
    have hn3 : C.sn < 3 := hN.2.2.2.2.2.2.2
    unfold nx
    by_cases a1 : C.tx i = 40 ∨ C.tx i = 91
    · rw [if_pos a1, if_neg (by omega)]
    rw [if_neg a1]
    by_cases a2 : C.tx i = 44
    · rw [if_pos a2, if_neg (fun q => n4 ⟨a2, q⟩)]
    rw [if_neg a2]
    by_cases a3 : C.tx i = 41
    · rw [if_pos a3, if_neg (fun q => n5 ⟨a3, q⟩)]
    rw [if_neg a3]
    by_cases a4 : C.tx i = 93
    · rw [if_pos a4, if_neg (fun q => n6 ⟨a4, q⟩)]
    rw [if_neg a4]
    by_cases a5 : C.tx i = 39
    · rw [if_pos a5, if_neg (fun q => G2.2 q a5)]
    rw [if_neg a5]
    by_cases a6 : 50 ≤ C.tx i ∧ C.tx i ≤ 57
    · rw [if_pos a6, if_neg (fun q => G2.1 q a6)]
    rw [if_neg a6, if_neg n1]
  rw [rt_stop hi en] at kk
  have kk2 := kk R S sM.rf
  rw [show lkr C.bc (i, C) = nI i from if_pos hi] at kk2
  refine wz_iload_n (p9 := 18) rfl rfl rfl ?_
  refine wz_aload_n (p9 := 19) rfl rfl rfl ?_
  refine wz_get (v := .int (nI R.sz)) (p9 := 22) rfl rfl rfl rfl rfl ?_
  refine wn_icge (t9 := 361) (p9 := 25) rfl rfl rfl (by omega) (by omega) (fun h9 => by omega) (fun _ => ?_)
  refine wz_aload_n (p9 := 26) rfl rfl rfl ?_
  refine wz_get (v := .ref 29) (p9 := 29) rfl rfl rfl rfl rfl ?_
  refine wz_iload_n (p9 := 30) rfl rfl rfl ?_
  refine wl_Rtx (f := R.tx) (p9 := 31) rfl rfl rfl (by omega) ?_
  refine wz_istore_n (l9 := [.ref 26, .int (nI i), .int (nI (R.tx i)), v3]) (p9 := 32) rfl rfl rfl rfl ?_
  refine wz_iload_n (p9 := 33) rfl rfl rfl ?_
  refine wz_bipush (x := nI 97) (p9 := 35) rfl rfl (by decide) ?_
  refine wn_iclt (t9 := 84) (p9 := 38) rfl rfl rfl (by omega) (by omega) (fun h35 => ?_) (fun h35 => ?_)
  · refine wz_iload_n (p9 := 85) rfl rfl rfl ?_
    refine wz_bipush (x := nI 40) (p9 := 87) rfl rfl (by decide) ?_
    refine wn_iceq (t9 := 96) (p9 := 90) rfl rfl rfl (by omega) (by omega) (fun h87 => ?_) (fun h87 => ?_)
    · refine wz_aload_n (p9 := 97) rfl rfl rfl ?_
      refine wz_get (v := .int (nI R.dp)) (p9 := 100) rfl rfl rfl rfl rfl ?_
      refine wz_bipush (x := nI 8) (p9 := 102) rfl rfl (by decide) ?_
      refine wn_icge (t9 := 154) (p9 := 105) rfl rfl rfl (by omega) (by omega) (fun h102 => ?_) (fun h102 => ?_)
      · refine wz_iload_n (p9 := 155) rfl rfl rfl ?_
        refine wz_bipush (x := nI 44) (p9 := 157) rfl rfl (by decide) ?_
        refine wn_icne (t9 := 215) (p9 := 160) rfl rfl rfl (by omega) (by omega) (fun h157 => ?_) (fun h157 => ?_)
        · refine wz_iload_n (p9 := 216) rfl rfl rfl ?_
          refine wz_bipush (x := nI 41) (p9 := 218) rfl rfl (by decide) ?_
          refine wn_icne (t9 := 242) (p9 := 221) rfl rfl rfl (by omega) (by omega) (fun h218 => ?_) (fun h218 => ?_)
          · refine wz_iload_n (p9 := 243) rfl rfl rfl ?_
            refine wz_bipush (x := nI 93) (p9 := 245) rfl rfl (by decide) ?_
            refine wn_icne (t9 := 356) (p9 := 248) rfl rfl rfl (by omega) (by omega) (fun h245 => ?_) (fun h245 => ?_)
            · refine wz_iload_n (p9 := 357) rfl rfl rfl ?_
              exact wz_reti rfl rfl kk2
            · refine wz_aload_n (p9 := 249) rfl rfl rfl ?_
              refine wz_get (v := .int (nI R.dp)) (p9 := 252) rfl rfl rfl rfl rfl ?_
              refine wn_ifle (t9 := 356) (p9 := 255) rfl rfl rfl (by omega) (fun h252 => ?_) (fun h252 => ?_)
              · refine wz_iload_n (p9 := 357) rfl rfl rfl ?_
                exact wz_reti rfl rfl kk2
              · refine wz_aload_n (p9 := 256) rfl rfl rfl ?_
                refine wz_get (v := .ref 33) (p9 := 259) rfl rfl rfl rfl rfl ?_
                refine wz_aload_n (p9 := 260) rfl rfl rfl ?_
                refine wz_get (v := .int (nI R.dp)) (p9 := 263) rfl rfl rfl rfl rfl ?_
                refine wz_iconst (x := nI 1) (p9 := 264) rfl rfl (by decide) ?_
                refine wn_sub (p9 := 265) rfl rfl (by omega) ?_
                have bki : R.ki (R.dp - 1) < 3 := by rw [hdp]; have := S.kd (C.dp - 1) (by omega); omega
                refine wl_Rki (f := R.ki) (p9 := 266) rfl rfl rfl (by omega) ?_
                refine wz_iconst (x := nI 2) (p9 := 267) rfl rfl (by decide) ?_
                refine wn_icne (t9 := 356) (p9 := 270) rfl rfl rfl (by omega) (by omega) (fun h267 => ?_) (fun h267 => ?_)
                · refine wz_iload_n (p9 := 357) rfl rfl rfl ?_
                  exact wz_reti rfl rfl kk2
                · exact (n6 ⟨by omega, by omega, by rw [hdp] at h267; have := S.kd (C.dp - 1) (by omega); omega⟩).elim
          · refine wz_aload_n (p9 := 222) rfl rfl rfl ?_
            refine wz_get (v := .int (nI R.dp)) (p9 := 225) rfl rfl rfl rfl rfl ?_
            refine wn_ifle (t9 := 242) (p9 := 228) rfl rfl rfl (by omega) (fun h225 => ?_) (fun h225 => ?_)
            · refine wz_iload_n (p9 := 243) rfl rfl rfl ?_
              refine wz_bipush (x := nI 93) (p9 := 245) rfl rfl (by decide) ?_
              refine wn_icne (t9 := 356) (p9 := 248) rfl rfl rfl (by omega) (by omega) (fun h245 => ?_) (fun h245 => ?_)
              · refine wz_iload_n (p9 := 357) rfl rfl rfl ?_
                exact wz_reti rfl rfl kk2
              · refine wz_aload_n (p9 := 249) rfl rfl rfl ?_
                refine wz_get (v := .int (nI R.dp)) (p9 := 252) rfl rfl rfl rfl rfl ?_
                refine wn_ifle (t9 := 356) (p9 := 255) rfl rfl rfl (by omega) (fun h252 => ?_) (fun h252 => ?_)
                · refine wz_iload_n (p9 := 357) rfl rfl rfl ?_
                  exact wz_reti rfl rfl kk2
                · refine wz_aload_n (p9 := 256) rfl rfl rfl ?_
                  refine wz_get (v := .ref 33) (p9 := 259) rfl rfl rfl rfl rfl ?_
                  refine wz_aload_n (p9 := 260) rfl rfl rfl ?_
                  refine wz_get (v := .int (nI R.dp)) (p9 := 263) rfl rfl rfl rfl rfl ?_
                  refine wz_iconst (x := nI 1) (p9 := 264) rfl rfl (by decide) ?_
                  refine wn_sub (p9 := 265) rfl rfl (by omega) ?_
                  have bki : R.ki (R.dp - 1) < 3 := by rw [hdp]; have := S.kd (C.dp - 1) (by omega); omega
                  refine wl_Rki (f := R.ki) (p9 := 266) rfl rfl rfl (by omega) ?_
                  refine wz_iconst (x := nI 2) (p9 := 267) rfl rfl (by decide) ?_
                  refine wn_icne (t9 := 356) (p9 := 270) rfl rfl rfl (by omega) (by omega) (fun h267 => ?_) (fun h267 => ?_)
                  · refine wz_iload_n (p9 := 357) rfl rfl rfl ?_
                    exact wz_reti rfl rfl kk2
                  · exact (n6 ⟨by omega, by omega, by rw [hdp] at h267; have := S.kd (C.dp - 1) (by omega); omega⟩).elim
            · refine wz_aload_n (p9 := 229) rfl rfl rfl ?_
              refine wz_get (v := .ref 33) (p9 := 232) rfl rfl rfl rfl rfl ?_
              refine wz_aload_n (p9 := 233) rfl rfl rfl ?_
              refine wz_get (v := .int (nI R.dp)) (p9 := 236) rfl rfl rfl rfl rfl ?_
              refine wz_iconst (x := nI 1) (p9 := 237) rfl rfl (by decide) ?_
              refine wn_sub (p9 := 238) rfl rfl (by omega) ?_
              have bki : R.ki (R.dp - 1) < 3 := by rw [hdp]; have := S.kd (C.dp - 1) (by omega); omega
              refine wl_Rki (f := R.ki) (p9 := 239) rfl rfl rfl (by omega) ?_
              refine wn_ifeq (t9 := 270) (p9 := 242) rfl rfl rfl (by omega) (fun h239 => ?_) (fun h239 => ?_)
              · exact (n5 ⟨by omega, by omega, by rw [hdp] at h239; have := S.kd (C.dp - 1) (by omega); omega⟩).elim
              · refine wz_iload_n (p9 := 243) rfl rfl rfl ?_
                refine wz_bipush (x := nI 93) (p9 := 245) rfl rfl (by decide) ?_
                refine wn_icne (t9 := 356) (p9 := 248) rfl rfl rfl (by omega) (by omega) (fun h245 => ?_) (fun h245 => ?_)
                · refine wz_iload_n (p9 := 357) rfl rfl rfl ?_
                  exact wz_reti rfl rfl kk2
                · refine wz_aload_n (p9 := 249) rfl rfl rfl ?_
                  refine wz_get (v := .int (nI R.dp)) (p9 := 252) rfl rfl rfl rfl rfl ?_
                  refine wn_ifle (t9 := 356) (p9 := 255) rfl rfl rfl (by omega) (fun h252 => ?_) (fun h252 => ?_)
                  · refine wz_iload_n (p9 := 357) rfl rfl rfl ?_
                    exact wz_reti rfl rfl kk2
                  · refine wz_aload_n (p9 := 256) rfl rfl rfl ?_
                    refine wz_get (v := .ref 33) (p9 := 259) rfl rfl rfl rfl rfl ?_
                    refine wz_aload_n (p9 := 260) rfl rfl rfl ?_
                    refine wz_get (v := .int (nI R.dp)) (p9 := 263) rfl rfl rfl rfl rfl ?_
                    refine wz_iconst (x := nI 1) (p9 := 264) rfl rfl (by decide) ?_
                    refine wn_sub (p9 := 265) rfl rfl (by omega) ?_
                    have bki : R.ki (R.dp - 1) < 3 := by rw [hdp]; have := S.kd (C.dp - 1) (by omega); omega
                    refine wl_Rki (f := R.ki) (p9 := 266) rfl rfl rfl (by omega) ?_
                    refine wz_iconst (x := nI 2) (p9 := 267) rfl rfl (by decide) ?_
                    refine wn_icne (t9 := 356) (p9 := 270) rfl rfl rfl (by omega) (by omega) (fun h267 => ?_) (fun h267 => ?_)
                    · refine wz_iload_n (p9 := 357) rfl rfl rfl ?_
                      exact wz_reti rfl rfl kk2
                    · exact (n6 ⟨by omega, by omega, by rw [hdp] at h267; have := S.kd (C.dp - 1) (by omega); omega⟩).elim
        · refine wz_aload_n (p9 := 161) rfl rfl rfl ?_
          refine wz_get (v := .int (nI R.dp)) (p9 := 164) rfl rfl rfl rfl rfl ?_
          refine wn_ifle (t9 := 215) (p9 := 167) rfl rfl rfl (by omega) (fun h164 => ?_) (fun h164 => ?_)
          · refine wz_iload_n (p9 := 216) rfl rfl rfl ?_
            refine wz_bipush (x := nI 41) (p9 := 218) rfl rfl (by decide) ?_
            refine wn_icne (t9 := 242) (p9 := 221) rfl rfl rfl (by omega) (by omega) (fun h218 => ?_) (fun h218 => ?_)
            · refine wz_iload_n (p9 := 243) rfl rfl rfl ?_
              refine wz_bipush (x := nI 93) (p9 := 245) rfl rfl (by decide) ?_
              refine wn_icne (t9 := 356) (p9 := 248) rfl rfl rfl (by omega) (by omega) (fun h245 => ?_) (fun h245 => ?_)
              · refine wz_iload_n (p9 := 357) rfl rfl rfl ?_
                exact wz_reti rfl rfl kk2
              · refine wz_aload_n (p9 := 249) rfl rfl rfl ?_
                refine wz_get (v := .int (nI R.dp)) (p9 := 252) rfl rfl rfl rfl rfl ?_
                refine wn_ifle (t9 := 356) (p9 := 255) rfl rfl rfl (by omega) (fun h252 => ?_) (fun h252 => ?_)
                · refine wz_iload_n (p9 := 357) rfl rfl rfl ?_
                  exact wz_reti rfl rfl kk2
                · refine wz_aload_n (p9 := 256) rfl rfl rfl ?_
                  refine wz_get (v := .ref 33) (p9 := 259) rfl rfl rfl rfl rfl ?_
                  refine wz_aload_n (p9 := 260) rfl rfl rfl ?_
                  refine wz_get (v := .int (nI R.dp)) (p9 := 263) rfl rfl rfl rfl rfl ?_
                  refine wz_iconst (x := nI 1) (p9 := 264) rfl rfl (by decide) ?_
                  refine wn_sub (p9 := 265) rfl rfl (by omega) ?_
                  have bki : R.ki (R.dp - 1) < 3 := by rw [hdp]; have := S.kd (C.dp - 1) (by omega); omega
                  refine wl_Rki (f := R.ki) (p9 := 266) rfl rfl rfl (by omega) ?_
                  refine wz_iconst (x := nI 2) (p9 := 267) rfl rfl (by decide) ?_
                  refine wn_icne (t9 := 356) (p9 := 270) rfl rfl rfl (by omega) (by omega) (fun h267 => ?_) (fun h267 => ?_)
                  · refine wz_iload_n (p9 := 357) rfl rfl rfl ?_
                    exact wz_reti rfl rfl kk2
                  · exact (n6 ⟨by omega, by omega, by rw [hdp] at h267; have := S.kd (C.dp - 1) (by omega); omega⟩).elim
            · refine wz_aload_n (p9 := 222) rfl rfl rfl ?_
              refine wz_get (v := .int (nI R.dp)) (p9 := 225) rfl rfl rfl rfl rfl ?_
              refine wn_ifle (t9 := 242) (p9 := 228) rfl rfl rfl (by omega) (fun h225 => ?_) (fun h225 => ?_)
              · refine wz_iload_n (p9 := 243) rfl rfl rfl ?_
                refine wz_bipush (x := nI 93) (p9 := 245) rfl rfl (by decide) ?_
                refine wn_icne (t9 := 356) (p9 := 248) rfl rfl rfl (by omega) (by omega) (fun h245 => ?_) (fun h245 => ?_)
                · refine wz_iload_n (p9 := 357) rfl rfl rfl ?_
                  exact wz_reti rfl rfl kk2
                · refine wz_aload_n (p9 := 249) rfl rfl rfl ?_
                  refine wz_get (v := .int (nI R.dp)) (p9 := 252) rfl rfl rfl rfl rfl ?_
                  refine wn_ifle (t9 := 356) (p9 := 255) rfl rfl rfl (by omega) (fun h252 => ?_) (fun h252 => ?_)
                  · refine wz_iload_n (p9 := 357) rfl rfl rfl ?_
                    exact wz_reti rfl rfl kk2
                  · refine wz_aload_n (p9 := 256) rfl rfl rfl ?_
                    refine wz_get (v := .ref 33) (p9 := 259) rfl rfl rfl rfl rfl ?_
                    refine wz_aload_n (p9 := 260) rfl rfl rfl ?_
                    refine wz_get (v := .int (nI R.dp)) (p9 := 263) rfl rfl rfl rfl rfl ?_
                    refine wz_iconst (x := nI 1) (p9 := 264) rfl rfl (by decide) ?_
                    refine wn_sub (p9 := 265) rfl rfl (by omega) ?_
                    have bki : R.ki (R.dp - 1) < 3 := by rw [hdp]; have := S.kd (C.dp - 1) (by omega); omega
                    refine wl_Rki (f := R.ki) (p9 := 266) rfl rfl rfl (by omega) ?_
                    refine wz_iconst (x := nI 2) (p9 := 267) rfl rfl (by decide) ?_
                    refine wn_icne (t9 := 356) (p9 := 270) rfl rfl rfl (by omega) (by omega) (fun h267 => ?_) (fun h267 => ?_)
                    · refine wz_iload_n (p9 := 357) rfl rfl rfl ?_
                      exact wz_reti rfl rfl kk2
                    · exact (n6 ⟨by omega, by omega, by rw [hdp] at h267; have := S.kd (C.dp - 1) (by omega); omega⟩).elim
              · refine wz_aload_n (p9 := 229) rfl rfl rfl ?_
                refine wz_get (v := .ref 33) (p9 := 232) rfl rfl rfl rfl rfl ?_
                refine wz_aload_n (p9 := 233) rfl rfl rfl ?_
                refine wz_get (v := .int (nI R.dp)) (p9 := 236) rfl rfl rfl rfl rfl ?_
                refine wz_iconst (x := nI 1) (p9 := 237) rfl rfl (by decide) ?_
                refine wn_sub (p9 := 238) rfl rfl (by omega) ?_
                have bki : R.ki (R.dp - 1) < 3 := by rw [hdp]; have := S.kd (C.dp - 1) (by omega); omega
                refine wl_Rki (f := R.ki) (p9 := 239) rfl rfl rfl (by omega) ?_
                refine wn_ifeq (t9 := 270) (p9 := 242) rfl rfl rfl (by omega) (fun h239 => ?_) (fun h239 => ?_)
                · exact (n5 ⟨by omega, by omega, by rw [hdp] at h239; have := S.kd (C.dp - 1) (by omega); omega⟩).elim
                · refine wz_iload_n (p9 := 243) rfl rfl rfl ?_
                  refine wz_bipush (x := nI 93) (p9 := 245) rfl rfl (by decide) ?_
                  refine wn_icne (t9 := 356) (p9 := 248) rfl rfl rfl (by omega) (by omega) (fun h245 => ?_) (fun h245 => ?_)
                  · refine wz_iload_n (p9 := 357) rfl rfl rfl ?_
                    exact wz_reti rfl rfl kk2
                  · refine wz_aload_n (p9 := 249) rfl rfl rfl ?_
                    refine wz_get (v := .int (nI R.dp)) (p9 := 252) rfl rfl rfl rfl rfl ?_
                    refine wn_ifle (t9 := 356) (p9 := 255) rfl rfl rfl (by omega) (fun h252 => ?_) (fun h252 => ?_)
                    · refine wz_iload_n (p9 := 357) rfl rfl rfl ?_
                      exact wz_reti rfl rfl kk2
                    · refine wz_aload_n (p9 := 256) rfl rfl rfl ?_
                      refine wz_get (v := .ref 33) (p9 := 259) rfl rfl rfl rfl rfl ?_
                      refine wz_aload_n (p9 := 260) rfl rfl rfl ?_
                      refine wz_get (v := .int (nI R.dp)) (p9 := 263) rfl rfl rfl rfl rfl ?_
                      refine wz_iconst (x := nI 1) (p9 := 264) rfl rfl (by decide) ?_
                      refine wn_sub (p9 := 265) rfl rfl (by omega) ?_
                      have bki : R.ki (R.dp - 1) < 3 := by rw [hdp]; have := S.kd (C.dp - 1) (by omega); omega
                      refine wl_Rki (f := R.ki) (p9 := 266) rfl rfl rfl (by omega) ?_
                      refine wz_iconst (x := nI 2) (p9 := 267) rfl rfl (by decide) ?_
                      refine wn_icne (t9 := 356) (p9 := 270) rfl rfl rfl (by omega) (by omega) (fun h267 => ?_) (fun h267 => ?_)
                      · refine wz_iload_n (p9 := 357) rfl rfl rfl ?_
                        exact wz_reti rfl rfl kk2
                      · exact (n6 ⟨by omega, by omega, by rw [hdp] at h267; have := S.kd (C.dp - 1) (by omega); omega⟩).elim
          · refine wz_aload_n (p9 := 168) rfl rfl rfl ?_
            refine wz_get (v := .ref 33) (p9 := 171) rfl rfl rfl rfl rfl ?_
            refine wz_aload_n (p9 := 172) rfl rfl rfl ?_
            refine wz_get (v := .int (nI R.dp)) (p9 := 175) rfl rfl rfl rfl rfl ?_
            refine wz_iconst (x := nI 1) (p9 := 176) rfl rfl (by decide) ?_
            refine wn_sub (p9 := 177) rfl rfl (by omega) ?_
            have bki : R.ki (R.dp - 1) < 3 := by rw [hdp]; have := S.kd (C.dp - 1) (by omega); omega
            refine wl_Rki (f := R.ki) (p9 := 178) rfl rfl rfl (by omega) ?_
            refine wz_iconst (x := nI 1) (p9 := 179) rfl rfl (by decide) ?_
            refine wn_icne (t9 := 215) (p9 := 182) rfl rfl rfl (by omega) (by omega) (fun h179 => ?_) (fun h179 => ?_)
            · refine wz_iload_n (p9 := 216) rfl rfl rfl ?_
              refine wz_bipush (x := nI 41) (p9 := 218) rfl rfl (by decide) ?_
              refine wn_icne (t9 := 242) (p9 := 221) rfl rfl rfl (by omega) (by omega) (fun h218 => ?_) (fun h218 => ?_)
              · refine wz_iload_n (p9 := 243) rfl rfl rfl ?_
                refine wz_bipush (x := nI 93) (p9 := 245) rfl rfl (by decide) ?_
                refine wn_icne (t9 := 356) (p9 := 248) rfl rfl rfl (by omega) (by omega) (fun h245 => ?_) (fun h245 => ?_)
                · refine wz_iload_n (p9 := 357) rfl rfl rfl ?_
                  exact wz_reti rfl rfl kk2
                · refine wz_aload_n (p9 := 249) rfl rfl rfl ?_
                  refine wz_get (v := .int (nI R.dp)) (p9 := 252) rfl rfl rfl rfl rfl ?_
                  refine wn_ifle (t9 := 356) (p9 := 255) rfl rfl rfl (by omega) (fun h252 => ?_) (fun h252 => ?_)
                  · refine wz_iload_n (p9 := 357) rfl rfl rfl ?_
                    exact wz_reti rfl rfl kk2
                  · refine wz_aload_n (p9 := 256) rfl rfl rfl ?_
                    refine wz_get (v := .ref 33) (p9 := 259) rfl rfl rfl rfl rfl ?_
                    refine wz_aload_n (p9 := 260) rfl rfl rfl ?_
                    refine wz_get (v := .int (nI R.dp)) (p9 := 263) rfl rfl rfl rfl rfl ?_
                    refine wz_iconst (x := nI 1) (p9 := 264) rfl rfl (by decide) ?_
                    refine wn_sub (p9 := 265) rfl rfl (by omega) ?_
                    have bki : R.ki (R.dp - 1) < 3 := by rw [hdp]; have := S.kd (C.dp - 1) (by omega); omega
                    refine wl_Rki (f := R.ki) (p9 := 266) rfl rfl rfl (by omega) ?_
                    refine wz_iconst (x := nI 2) (p9 := 267) rfl rfl (by decide) ?_
                    refine wn_icne (t9 := 356) (p9 := 270) rfl rfl rfl (by omega) (by omega) (fun h267 => ?_) (fun h267 => ?_)
                    · refine wz_iload_n (p9 := 357) rfl rfl rfl ?_
                      exact wz_reti rfl rfl kk2
                    · exact (n6 ⟨by omega, by omega, by rw [hdp] at h267; have := S.kd (C.dp - 1) (by omega); omega⟩).elim
              · refine wz_aload_n (p9 := 222) rfl rfl rfl ?_
                refine wz_get (v := .int (nI R.dp)) (p9 := 225) rfl rfl rfl rfl rfl ?_
                refine wn_ifle (t9 := 242) (p9 := 228) rfl rfl rfl (by omega) (fun h225 => ?_) (fun h225 => ?_)
                · refine wz_iload_n (p9 := 243) rfl rfl rfl ?_
                  refine wz_bipush (x := nI 93) (p9 := 245) rfl rfl (by decide) ?_
                  refine wn_icne (t9 := 356) (p9 := 248) rfl rfl rfl (by omega) (by omega) (fun h245 => ?_) (fun h245 => ?_)
                  · refine wz_iload_n (p9 := 357) rfl rfl rfl ?_
                    exact wz_reti rfl rfl kk2
                  · refine wz_aload_n (p9 := 249) rfl rfl rfl ?_
                    refine wz_get (v := .int (nI R.dp)) (p9 := 252) rfl rfl rfl rfl rfl ?_
                    refine wn_ifle (t9 := 356) (p9 := 255) rfl rfl rfl (by omega) (fun h252 => ?_) (fun h252 => ?_)
                    · refine wz_iload_n (p9 := 357) rfl rfl rfl ?_
                      exact wz_reti rfl rfl kk2
                    · refine wz_aload_n (p9 := 256) rfl rfl rfl ?_
                      refine wz_get (v := .ref 33) (p9 := 259) rfl rfl rfl rfl rfl ?_
                      refine wz_aload_n (p9 := 260) rfl rfl rfl ?_
                      refine wz_get (v := .int (nI R.dp)) (p9 := 263) rfl rfl rfl rfl rfl ?_
                      refine wz_iconst (x := nI 1) (p9 := 264) rfl rfl (by decide) ?_
                      refine wn_sub (p9 := 265) rfl rfl (by omega) ?_
                      have bki : R.ki (R.dp - 1) < 3 := by rw [hdp]; have := S.kd (C.dp - 1) (by omega); omega
                      refine wl_Rki (f := R.ki) (p9 := 266) rfl rfl rfl (by omega) ?_
                      refine wz_iconst (x := nI 2) (p9 := 267) rfl rfl (by decide) ?_
                      refine wn_icne (t9 := 356) (p9 := 270) rfl rfl rfl (by omega) (by omega) (fun h267 => ?_) (fun h267 => ?_)
                      · refine wz_iload_n (p9 := 357) rfl rfl rfl ?_
                        exact wz_reti rfl rfl kk2
                      · exact (n6 ⟨by omega, by omega, by rw [hdp] at h267; have := S.kd (C.dp - 1) (by omega); omega⟩).elim
                · refine wz_aload_n (p9 := 229) rfl rfl rfl ?_
                  refine wz_get (v := .ref 33) (p9 := 232) rfl rfl rfl rfl rfl ?_
                  refine wz_aload_n (p9 := 233) rfl rfl rfl ?_
                  refine wz_get (v := .int (nI R.dp)) (p9 := 236) rfl rfl rfl rfl rfl ?_
                  refine wz_iconst (x := nI 1) (p9 := 237) rfl rfl (by decide) ?_
                  refine wn_sub (p9 := 238) rfl rfl (by omega) ?_
                  have bki : R.ki (R.dp - 1) < 3 := by rw [hdp]; have := S.kd (C.dp - 1) (by omega); omega
                  refine wl_Rki (f := R.ki) (p9 := 239) rfl rfl rfl (by omega) ?_
                  refine wn_ifeq (t9 := 270) (p9 := 242) rfl rfl rfl (by omega) (fun h239 => ?_) (fun h239 => ?_)
                  · exact (n5 ⟨by omega, by omega, by rw [hdp] at h239; have := S.kd (C.dp - 1) (by omega); omega⟩).elim
                  · refine wz_iload_n (p9 := 243) rfl rfl rfl ?_
                    refine wz_bipush (x := nI 93) (p9 := 245) rfl rfl (by decide) ?_
                    refine wn_icne (t9 := 356) (p9 := 248) rfl rfl rfl (by omega) (by omega) (fun h245 => ?_) (fun h245 => ?_)
                    · refine wz_iload_n (p9 := 357) rfl rfl rfl ?_
                      exact wz_reti rfl rfl kk2
                    · refine wz_aload_n (p9 := 249) rfl rfl rfl ?_
                      refine wz_get (v := .int (nI R.dp)) (p9 := 252) rfl rfl rfl rfl rfl ?_
                      refine wn_ifle (t9 := 356) (p9 := 255) rfl rfl rfl (by omega) (fun h252 => ?_) (fun h252 => ?_)
                      · refine wz_iload_n (p9 := 357) rfl rfl rfl ?_
                        exact wz_reti rfl rfl kk2
                      · refine wz_aload_n (p9 := 256) rfl rfl rfl ?_
                        refine wz_get (v := .ref 33) (p9 := 259) rfl rfl rfl rfl rfl ?_
                        refine wz_aload_n (p9 := 260) rfl rfl rfl ?_
                        refine wz_get (v := .int (nI R.dp)) (p9 := 263) rfl rfl rfl rfl rfl ?_
                        refine wz_iconst (x := nI 1) (p9 := 264) rfl rfl (by decide) ?_
                        refine wn_sub (p9 := 265) rfl rfl (by omega) ?_
                        have bki : R.ki (R.dp - 1) < 3 := by rw [hdp]; have := S.kd (C.dp - 1) (by omega); omega
                        refine wl_Rki (f := R.ki) (p9 := 266) rfl rfl rfl (by omega) ?_
                        refine wz_iconst (x := nI 2) (p9 := 267) rfl rfl (by decide) ?_
                        refine wn_icne (t9 := 356) (p9 := 270) rfl rfl rfl (by omega) (by omega) (fun h267 => ?_) (fun h267 => ?_)
                        · refine wz_iload_n (p9 := 357) rfl rfl rfl ?_
                          exact wz_reti rfl rfl kk2
                        · exact (n6 ⟨by omega, by omega, by rw [hdp] at h267; have := S.kd (C.dp - 1) (by omega); omega⟩).elim
            · exact (n4 ⟨by omega, by omega, by rw [hdp] at h179; have := S.kd (C.dp - 1) (by omega); omega⟩).elim
      · exact (n2 ⟨by omega, by omega⟩).elim
    · refine wz_iload_n (p9 := 91) rfl rfl rfl ?_
      refine wz_bipush (x := nI 91) (p9 := 93) rfl rfl (by decide) ?_
      refine wn_icne (t9 := 154) (p9 := 96) rfl rfl rfl (by omega) (by omega) (fun h93 => ?_) (fun h93 => ?_)
      · refine wz_iload_n (p9 := 155) rfl rfl rfl ?_
        refine wz_bipush (x := nI 44) (p9 := 157) rfl rfl (by decide) ?_
        refine wn_icne (t9 := 215) (p9 := 160) rfl rfl rfl (by omega) (by omega) (fun h157 => ?_) (fun h157 => ?_)
        · refine wz_iload_n (p9 := 216) rfl rfl rfl ?_
          refine wz_bipush (x := nI 41) (p9 := 218) rfl rfl (by decide) ?_
          refine wn_icne (t9 := 242) (p9 := 221) rfl rfl rfl (by omega) (by omega) (fun h218 => ?_) (fun h218 => ?_)
          · refine wz_iload_n (p9 := 243) rfl rfl rfl ?_
            refine wz_bipush (x := nI 93) (p9 := 245) rfl rfl (by decide) ?_
            refine wn_icne (t9 := 356) (p9 := 248) rfl rfl rfl (by omega) (by omega) (fun h245 => ?_) (fun h245 => ?_)
            · refine wz_iload_n (p9 := 357) rfl rfl rfl ?_
              exact wz_reti rfl rfl kk2
            · refine wz_aload_n (p9 := 249) rfl rfl rfl ?_
              refine wz_get (v := .int (nI R.dp)) (p9 := 252) rfl rfl rfl rfl rfl ?_
              refine wn_ifle (t9 := 356) (p9 := 255) rfl rfl rfl (by omega) (fun h252 => ?_) (fun h252 => ?_)
              · refine wz_iload_n (p9 := 357) rfl rfl rfl ?_
                exact wz_reti rfl rfl kk2
              · refine wz_aload_n (p9 := 256) rfl rfl rfl ?_
                refine wz_get (v := .ref 33) (p9 := 259) rfl rfl rfl rfl rfl ?_
                refine wz_aload_n (p9 := 260) rfl rfl rfl ?_
                refine wz_get (v := .int (nI R.dp)) (p9 := 263) rfl rfl rfl rfl rfl ?_
                refine wz_iconst (x := nI 1) (p9 := 264) rfl rfl (by decide) ?_
                refine wn_sub (p9 := 265) rfl rfl (by omega) ?_
                have bki : R.ki (R.dp - 1) < 3 := by rw [hdp]; have := S.kd (C.dp - 1) (by omega); omega
                refine wl_Rki (f := R.ki) (p9 := 266) rfl rfl rfl (by omega) ?_
                refine wz_iconst (x := nI 2) (p9 := 267) rfl rfl (by decide) ?_
                refine wn_icne (t9 := 356) (p9 := 270) rfl rfl rfl (by omega) (by omega) (fun h267 => ?_) (fun h267 => ?_)
                · refine wz_iload_n (p9 := 357) rfl rfl rfl ?_
                  exact wz_reti rfl rfl kk2
                · exact (n6 ⟨by omega, by omega, by rw [hdp] at h267; have := S.kd (C.dp - 1) (by omega); omega⟩).elim
          · refine wz_aload_n (p9 := 222) rfl rfl rfl ?_
            refine wz_get (v := .int (nI R.dp)) (p9 := 225) rfl rfl rfl rfl rfl ?_
            refine wn_ifle (t9 := 242) (p9 := 228) rfl rfl rfl (by omega) (fun h225 => ?_) (fun h225 => ?_)
            · refine wz_iload_n (p9 := 243) rfl rfl rfl ?_
              refine wz_bipush (x := nI 93) (p9 := 245) rfl rfl (by decide) ?_
              refine wn_icne (t9 := 356) (p9 := 248) rfl rfl rfl (by omega) (by omega) (fun h245 => ?_) (fun h245 => ?_)
              · refine wz_iload_n (p9 := 357) rfl rfl rfl ?_
                exact wz_reti rfl rfl kk2
              · refine wz_aload_n (p9 := 249) rfl rfl rfl ?_
                refine wz_get (v := .int (nI R.dp)) (p9 := 252) rfl rfl rfl rfl rfl ?_
                refine wn_ifle (t9 := 356) (p9 := 255) rfl rfl rfl (by omega) (fun h252 => ?_) (fun h252 => ?_)
                · refine wz_iload_n (p9 := 357) rfl rfl rfl ?_
                  exact wz_reti rfl rfl kk2
                · refine wz_aload_n (p9 := 256) rfl rfl rfl ?_
                  refine wz_get (v := .ref 33) (p9 := 259) rfl rfl rfl rfl rfl ?_
                  refine wz_aload_n (p9 := 260) rfl rfl rfl ?_
                  refine wz_get (v := .int (nI R.dp)) (p9 := 263) rfl rfl rfl rfl rfl ?_
                  refine wz_iconst (x := nI 1) (p9 := 264) rfl rfl (by decide) ?_
                  refine wn_sub (p9 := 265) rfl rfl (by omega) ?_
                  have bki : R.ki (R.dp - 1) < 3 := by rw [hdp]; have := S.kd (C.dp - 1) (by omega); omega
                  refine wl_Rki (f := R.ki) (p9 := 266) rfl rfl rfl (by omega) ?_
                  refine wz_iconst (x := nI 2) (p9 := 267) rfl rfl (by decide) ?_
                  refine wn_icne (t9 := 356) (p9 := 270) rfl rfl rfl (by omega) (by omega) (fun h267 => ?_) (fun h267 => ?_)
                  · refine wz_iload_n (p9 := 357) rfl rfl rfl ?_
                    exact wz_reti rfl rfl kk2
                  · exact (n6 ⟨by omega, by omega, by rw [hdp] at h267; have := S.kd (C.dp - 1) (by omega); omega⟩).elim
            · refine wz_aload_n (p9 := 229) rfl rfl rfl ?_
              refine wz_get (v := .ref 33) (p9 := 232) rfl rfl rfl rfl rfl ?_
              refine wz_aload_n (p9 := 233) rfl rfl rfl ?_
              refine wz_get (v := .int (nI R.dp)) (p9 := 236) rfl rfl rfl rfl rfl ?_
              refine wz_iconst (x := nI 1) (p9 := 237) rfl rfl (by decide) ?_
              refine wn_sub (p9 := 238) rfl rfl (by omega) ?_
              have bki : R.ki (R.dp - 1) < 3 := by rw [hdp]; have := S.kd (C.dp - 1) (by omega); omega
              refine wl_Rki (f := R.ki) (p9 := 239) rfl rfl rfl (by omega) ?_
              refine wn_ifeq (t9 := 270) (p9 := 242) rfl rfl rfl (by omega) (fun h239 => ?_) (fun h239 => ?_)
              · exact (n5 ⟨by omega, by omega, by rw [hdp] at h239; have := S.kd (C.dp - 1) (by omega); omega⟩).elim
              · refine wz_iload_n (p9 := 243) rfl rfl rfl ?_
                refine wz_bipush (x := nI 93) (p9 := 245) rfl rfl (by decide) ?_
                refine wn_icne (t9 := 356) (p9 := 248) rfl rfl rfl (by omega) (by omega) (fun h245 => ?_) (fun h245 => ?_)
                · refine wz_iload_n (p9 := 357) rfl rfl rfl ?_
                  exact wz_reti rfl rfl kk2
                · refine wz_aload_n (p9 := 249) rfl rfl rfl ?_
                  refine wz_get (v := .int (nI R.dp)) (p9 := 252) rfl rfl rfl rfl rfl ?_
                  refine wn_ifle (t9 := 356) (p9 := 255) rfl rfl rfl (by omega) (fun h252 => ?_) (fun h252 => ?_)
                  · refine wz_iload_n (p9 := 357) rfl rfl rfl ?_
                    exact wz_reti rfl rfl kk2
                  · refine wz_aload_n (p9 := 256) rfl rfl rfl ?_
                    refine wz_get (v := .ref 33) (p9 := 259) rfl rfl rfl rfl rfl ?_
                    refine wz_aload_n (p9 := 260) rfl rfl rfl ?_
                    refine wz_get (v := .int (nI R.dp)) (p9 := 263) rfl rfl rfl rfl rfl ?_
                    refine wz_iconst (x := nI 1) (p9 := 264) rfl rfl (by decide) ?_
                    refine wn_sub (p9 := 265) rfl rfl (by omega) ?_
                    have bki : R.ki (R.dp - 1) < 3 := by rw [hdp]; have := S.kd (C.dp - 1) (by omega); omega
                    refine wl_Rki (f := R.ki) (p9 := 266) rfl rfl rfl (by omega) ?_
                    refine wz_iconst (x := nI 2) (p9 := 267) rfl rfl (by decide) ?_
                    refine wn_icne (t9 := 356) (p9 := 270) rfl rfl rfl (by omega) (by omega) (fun h267 => ?_) (fun h267 => ?_)
                    · refine wz_iload_n (p9 := 357) rfl rfl rfl ?_
                      exact wz_reti rfl rfl kk2
                    · exact (n6 ⟨by omega, by omega, by rw [hdp] at h267; have := S.kd (C.dp - 1) (by omega); omega⟩).elim
        · refine wz_aload_n (p9 := 161) rfl rfl rfl ?_
          refine wz_get (v := .int (nI R.dp)) (p9 := 164) rfl rfl rfl rfl rfl ?_
          refine wn_ifle (t9 := 215) (p9 := 167) rfl rfl rfl (by omega) (fun h164 => ?_) (fun h164 => ?_)
          · refine wz_iload_n (p9 := 216) rfl rfl rfl ?_
            refine wz_bipush (x := nI 41) (p9 := 218) rfl rfl (by decide) ?_
            refine wn_icne (t9 := 242) (p9 := 221) rfl rfl rfl (by omega) (by omega) (fun h218 => ?_) (fun h218 => ?_)
            · refine wz_iload_n (p9 := 243) rfl rfl rfl ?_
              refine wz_bipush (x := nI 93) (p9 := 245) rfl rfl (by decide) ?_
              refine wn_icne (t9 := 356) (p9 := 248) rfl rfl rfl (by omega) (by omega) (fun h245 => ?_) (fun h245 => ?_)
              · refine wz_iload_n (p9 := 357) rfl rfl rfl ?_
                exact wz_reti rfl rfl kk2
              · refine wz_aload_n (p9 := 249) rfl rfl rfl ?_
                refine wz_get (v := .int (nI R.dp)) (p9 := 252) rfl rfl rfl rfl rfl ?_
                refine wn_ifle (t9 := 356) (p9 := 255) rfl rfl rfl (by omega) (fun h252 => ?_) (fun h252 => ?_)
                · refine wz_iload_n (p9 := 357) rfl rfl rfl ?_
                  exact wz_reti rfl rfl kk2
                · refine wz_aload_n (p9 := 256) rfl rfl rfl ?_
                  refine wz_get (v := .ref 33) (p9 := 259) rfl rfl rfl rfl rfl ?_
                  refine wz_aload_n (p9 := 260) rfl rfl rfl ?_
                  refine wz_get (v := .int (nI R.dp)) (p9 := 263) rfl rfl rfl rfl rfl ?_
                  refine wz_iconst (x := nI 1) (p9 := 264) rfl rfl (by decide) ?_
                  refine wn_sub (p9 := 265) rfl rfl (by omega) ?_
                  have bki : R.ki (R.dp - 1) < 3 := by rw [hdp]; have := S.kd (C.dp - 1) (by omega); omega
                  refine wl_Rki (f := R.ki) (p9 := 266) rfl rfl rfl (by omega) ?_
                  refine wz_iconst (x := nI 2) (p9 := 267) rfl rfl (by decide) ?_
                  refine wn_icne (t9 := 356) (p9 := 270) rfl rfl rfl (by omega) (by omega) (fun h267 => ?_) (fun h267 => ?_)
                  · refine wz_iload_n (p9 := 357) rfl rfl rfl ?_
                    exact wz_reti rfl rfl kk2
                  · exact (n6 ⟨by omega, by omega, by rw [hdp] at h267; have := S.kd (C.dp - 1) (by omega); omega⟩).elim
            · refine wz_aload_n (p9 := 222) rfl rfl rfl ?_
              refine wz_get (v := .int (nI R.dp)) (p9 := 225) rfl rfl rfl rfl rfl ?_
              refine wn_ifle (t9 := 242) (p9 := 228) rfl rfl rfl (by omega) (fun h225 => ?_) (fun h225 => ?_)
              · refine wz_iload_n (p9 := 243) rfl rfl rfl ?_
                refine wz_bipush (x := nI 93) (p9 := 245) rfl rfl (by decide) ?_
                refine wn_icne (t9 := 356) (p9 := 248) rfl rfl rfl (by omega) (by omega) (fun h245 => ?_) (fun h245 => ?_)
                · refine wz_iload_n (p9 := 357) rfl rfl rfl ?_
                  exact wz_reti rfl rfl kk2
                · refine wz_aload_n (p9 := 249) rfl rfl rfl ?_
                  refine wz_get (v := .int (nI R.dp)) (p9 := 252) rfl rfl rfl rfl rfl ?_
                  refine wn_ifle (t9 := 356) (p9 := 255) rfl rfl rfl (by omega) (fun h252 => ?_) (fun h252 => ?_)
                  · refine wz_iload_n (p9 := 357) rfl rfl rfl ?_
                    exact wz_reti rfl rfl kk2
                  · refine wz_aload_n (p9 := 256) rfl rfl rfl ?_
                    refine wz_get (v := .ref 33) (p9 := 259) rfl rfl rfl rfl rfl ?_
                    refine wz_aload_n (p9 := 260) rfl rfl rfl ?_
                    refine wz_get (v := .int (nI R.dp)) (p9 := 263) rfl rfl rfl rfl rfl ?_
                    refine wz_iconst (x := nI 1) (p9 := 264) rfl rfl (by decide) ?_
                    refine wn_sub (p9 := 265) rfl rfl (by omega) ?_
                    have bki : R.ki (R.dp - 1) < 3 := by rw [hdp]; have := S.kd (C.dp - 1) (by omega); omega
                    refine wl_Rki (f := R.ki) (p9 := 266) rfl rfl rfl (by omega) ?_
                    refine wz_iconst (x := nI 2) (p9 := 267) rfl rfl (by decide) ?_
                    refine wn_icne (t9 := 356) (p9 := 270) rfl rfl rfl (by omega) (by omega) (fun h267 => ?_) (fun h267 => ?_)
                    · refine wz_iload_n (p9 := 357) rfl rfl rfl ?_
                      exact wz_reti rfl rfl kk2
                    · exact (n6 ⟨by omega, by omega, by rw [hdp] at h267; have := S.kd (C.dp - 1) (by omega); omega⟩).elim
              · refine wz_aload_n (p9 := 229) rfl rfl rfl ?_
                refine wz_get (v := .ref 33) (p9 := 232) rfl rfl rfl rfl rfl ?_
                refine wz_aload_n (p9 := 233) rfl rfl rfl ?_
                refine wz_get (v := .int (nI R.dp)) (p9 := 236) rfl rfl rfl rfl rfl ?_
                refine wz_iconst (x := nI 1) (p9 := 237) rfl rfl (by decide) ?_
                refine wn_sub (p9 := 238) rfl rfl (by omega) ?_
                have bki : R.ki (R.dp - 1) < 3 := by rw [hdp]; have := S.kd (C.dp - 1) (by omega); omega
                refine wl_Rki (f := R.ki) (p9 := 239) rfl rfl rfl (by omega) ?_
                refine wn_ifeq (t9 := 270) (p9 := 242) rfl rfl rfl (by omega) (fun h239 => ?_) (fun h239 => ?_)
                · exact (n5 ⟨by omega, by omega, by rw [hdp] at h239; have := S.kd (C.dp - 1) (by omega); omega⟩).elim
                · refine wz_iload_n (p9 := 243) rfl rfl rfl ?_
                  refine wz_bipush (x := nI 93) (p9 := 245) rfl rfl (by decide) ?_
                  refine wn_icne (t9 := 356) (p9 := 248) rfl rfl rfl (by omega) (by omega) (fun h245 => ?_) (fun h245 => ?_)
                  · refine wz_iload_n (p9 := 357) rfl rfl rfl ?_
                    exact wz_reti rfl rfl kk2
                  · refine wz_aload_n (p9 := 249) rfl rfl rfl ?_
                    refine wz_get (v := .int (nI R.dp)) (p9 := 252) rfl rfl rfl rfl rfl ?_
                    refine wn_ifle (t9 := 356) (p9 := 255) rfl rfl rfl (by omega) (fun h252 => ?_) (fun h252 => ?_)
                    · refine wz_iload_n (p9 := 357) rfl rfl rfl ?_
                      exact wz_reti rfl rfl kk2
                    · refine wz_aload_n (p9 := 256) rfl rfl rfl ?_
                      refine wz_get (v := .ref 33) (p9 := 259) rfl rfl rfl rfl rfl ?_
                      refine wz_aload_n (p9 := 260) rfl rfl rfl ?_
                      refine wz_get (v := .int (nI R.dp)) (p9 := 263) rfl rfl rfl rfl rfl ?_
                      refine wz_iconst (x := nI 1) (p9 := 264) rfl rfl (by decide) ?_
                      refine wn_sub (p9 := 265) rfl rfl (by omega) ?_
                      have bki : R.ki (R.dp - 1) < 3 := by rw [hdp]; have := S.kd (C.dp - 1) (by omega); omega
                      refine wl_Rki (f := R.ki) (p9 := 266) rfl rfl rfl (by omega) ?_
                      refine wz_iconst (x := nI 2) (p9 := 267) rfl rfl (by decide) ?_
                      refine wn_icne (t9 := 356) (p9 := 270) rfl rfl rfl (by omega) (by omega) (fun h267 => ?_) (fun h267 => ?_)
                      · refine wz_iload_n (p9 := 357) rfl rfl rfl ?_
                        exact wz_reti rfl rfl kk2
                      · exact (n6 ⟨by omega, by omega, by rw [hdp] at h267; have := S.kd (C.dp - 1) (by omega); omega⟩).elim
          · refine wz_aload_n (p9 := 168) rfl rfl rfl ?_
            refine wz_get (v := .ref 33) (p9 := 171) rfl rfl rfl rfl rfl ?_
            refine wz_aload_n (p9 := 172) rfl rfl rfl ?_
            refine wz_get (v := .int (nI R.dp)) (p9 := 175) rfl rfl rfl rfl rfl ?_
            refine wz_iconst (x := nI 1) (p9 := 176) rfl rfl (by decide) ?_
            refine wn_sub (p9 := 177) rfl rfl (by omega) ?_
            have bki : R.ki (R.dp - 1) < 3 := by rw [hdp]; have := S.kd (C.dp - 1) (by omega); omega
            refine wl_Rki (f := R.ki) (p9 := 178) rfl rfl rfl (by omega) ?_
            refine wz_iconst (x := nI 1) (p9 := 179) rfl rfl (by decide) ?_
            refine wn_icne (t9 := 215) (p9 := 182) rfl rfl rfl (by omega) (by omega) (fun h179 => ?_) (fun h179 => ?_)
            · refine wz_iload_n (p9 := 216) rfl rfl rfl ?_
              refine wz_bipush (x := nI 41) (p9 := 218) rfl rfl (by decide) ?_
              refine wn_icne (t9 := 242) (p9 := 221) rfl rfl rfl (by omega) (by omega) (fun h218 => ?_) (fun h218 => ?_)
              · refine wz_iload_n (p9 := 243) rfl rfl rfl ?_
                refine wz_bipush (x := nI 93) (p9 := 245) rfl rfl (by decide) ?_
                refine wn_icne (t9 := 356) (p9 := 248) rfl rfl rfl (by omega) (by omega) (fun h245 => ?_) (fun h245 => ?_)
                · refine wz_iload_n (p9 := 357) rfl rfl rfl ?_
                  exact wz_reti rfl rfl kk2
                · refine wz_aload_n (p9 := 249) rfl rfl rfl ?_
                  refine wz_get (v := .int (nI R.dp)) (p9 := 252) rfl rfl rfl rfl rfl ?_
                  refine wn_ifle (t9 := 356) (p9 := 255) rfl rfl rfl (by omega) (fun h252 => ?_) (fun h252 => ?_)
                  · refine wz_iload_n (p9 := 357) rfl rfl rfl ?_
                    exact wz_reti rfl rfl kk2
                  · refine wz_aload_n (p9 := 256) rfl rfl rfl ?_
                    refine wz_get (v := .ref 33) (p9 := 259) rfl rfl rfl rfl rfl ?_
                    refine wz_aload_n (p9 := 260) rfl rfl rfl ?_
                    refine wz_get (v := .int (nI R.dp)) (p9 := 263) rfl rfl rfl rfl rfl ?_
                    refine wz_iconst (x := nI 1) (p9 := 264) rfl rfl (by decide) ?_
                    refine wn_sub (p9 := 265) rfl rfl (by omega) ?_
                    have bki : R.ki (R.dp - 1) < 3 := by rw [hdp]; have := S.kd (C.dp - 1) (by omega); omega
                    refine wl_Rki (f := R.ki) (p9 := 266) rfl rfl rfl (by omega) ?_
                    refine wz_iconst (x := nI 2) (p9 := 267) rfl rfl (by decide) ?_
                    refine wn_icne (t9 := 356) (p9 := 270) rfl rfl rfl (by omega) (by omega) (fun h267 => ?_) (fun h267 => ?_)
                    · refine wz_iload_n (p9 := 357) rfl rfl rfl ?_
                      exact wz_reti rfl rfl kk2
                    · exact (n6 ⟨by omega, by omega, by rw [hdp] at h267; have := S.kd (C.dp - 1) (by omega); omega⟩).elim
              · refine wz_aload_n (p9 := 222) rfl rfl rfl ?_
                refine wz_get (v := .int (nI R.dp)) (p9 := 225) rfl rfl rfl rfl rfl ?_
                refine wn_ifle (t9 := 242) (p9 := 228) rfl rfl rfl (by omega) (fun h225 => ?_) (fun h225 => ?_)
                · refine wz_iload_n (p9 := 243) rfl rfl rfl ?_
                  refine wz_bipush (x := nI 93) (p9 := 245) rfl rfl (by decide) ?_
                  refine wn_icne (t9 := 356) (p9 := 248) rfl rfl rfl (by omega) (by omega) (fun h245 => ?_) (fun h245 => ?_)
                  · refine wz_iload_n (p9 := 357) rfl rfl rfl ?_
                    exact wz_reti rfl rfl kk2
                  · refine wz_aload_n (p9 := 249) rfl rfl rfl ?_
                    refine wz_get (v := .int (nI R.dp)) (p9 := 252) rfl rfl rfl rfl rfl ?_
                    refine wn_ifle (t9 := 356) (p9 := 255) rfl rfl rfl (by omega) (fun h252 => ?_) (fun h252 => ?_)
                    · refine wz_iload_n (p9 := 357) rfl rfl rfl ?_
                      exact wz_reti rfl rfl kk2
                    · refine wz_aload_n (p9 := 256) rfl rfl rfl ?_
                      refine wz_get (v := .ref 33) (p9 := 259) rfl rfl rfl rfl rfl ?_
                      refine wz_aload_n (p9 := 260) rfl rfl rfl ?_
                      refine wz_get (v := .int (nI R.dp)) (p9 := 263) rfl rfl rfl rfl rfl ?_
                      refine wz_iconst (x := nI 1) (p9 := 264) rfl rfl (by decide) ?_
                      refine wn_sub (p9 := 265) rfl rfl (by omega) ?_
                      have bki : R.ki (R.dp - 1) < 3 := by rw [hdp]; have := S.kd (C.dp - 1) (by omega); omega
                      refine wl_Rki (f := R.ki) (p9 := 266) rfl rfl rfl (by omega) ?_
                      refine wz_iconst (x := nI 2) (p9 := 267) rfl rfl (by decide) ?_
                      refine wn_icne (t9 := 356) (p9 := 270) rfl rfl rfl (by omega) (by omega) (fun h267 => ?_) (fun h267 => ?_)
                      · refine wz_iload_n (p9 := 357) rfl rfl rfl ?_
                        exact wz_reti rfl rfl kk2
                      · exact (n6 ⟨by omega, by omega, by rw [hdp] at h267; have := S.kd (C.dp - 1) (by omega); omega⟩).elim
                · refine wz_aload_n (p9 := 229) rfl rfl rfl ?_
                  refine wz_get (v := .ref 33) (p9 := 232) rfl rfl rfl rfl rfl ?_
                  refine wz_aload_n (p9 := 233) rfl rfl rfl ?_
                  refine wz_get (v := .int (nI R.dp)) (p9 := 236) rfl rfl rfl rfl rfl ?_
                  refine wz_iconst (x := nI 1) (p9 := 237) rfl rfl (by decide) ?_
                  refine wn_sub (p9 := 238) rfl rfl (by omega) ?_
                  have bki : R.ki (R.dp - 1) < 3 := by rw [hdp]; have := S.kd (C.dp - 1) (by omega); omega
                  refine wl_Rki (f := R.ki) (p9 := 239) rfl rfl rfl (by omega) ?_
                  refine wn_ifeq (t9 := 270) (p9 := 242) rfl rfl rfl (by omega) (fun h239 => ?_) (fun h239 => ?_)
                  · exact (n5 ⟨by omega, by omega, by rw [hdp] at h239; have := S.kd (C.dp - 1) (by omega); omega⟩).elim
                  · refine wz_iload_n (p9 := 243) rfl rfl rfl ?_
                    refine wz_bipush (x := nI 93) (p9 := 245) rfl rfl (by decide) ?_
                    refine wn_icne (t9 := 356) (p9 := 248) rfl rfl rfl (by omega) (by omega) (fun h245 => ?_) (fun h245 => ?_)
                    · refine wz_iload_n (p9 := 357) rfl rfl rfl ?_
                      exact wz_reti rfl rfl kk2
                    · refine wz_aload_n (p9 := 249) rfl rfl rfl ?_
                      refine wz_get (v := .int (nI R.dp)) (p9 := 252) rfl rfl rfl rfl rfl ?_
                      refine wn_ifle (t9 := 356) (p9 := 255) rfl rfl rfl (by omega) (fun h252 => ?_) (fun h252 => ?_)
                      · refine wz_iload_n (p9 := 357) rfl rfl rfl ?_
                        exact wz_reti rfl rfl kk2
                      · refine wz_aload_n (p9 := 256) rfl rfl rfl ?_
                        refine wz_get (v := .ref 33) (p9 := 259) rfl rfl rfl rfl rfl ?_
                        refine wz_aload_n (p9 := 260) rfl rfl rfl ?_
                        refine wz_get (v := .int (nI R.dp)) (p9 := 263) rfl rfl rfl rfl rfl ?_
                        refine wz_iconst (x := nI 1) (p9 := 264) rfl rfl (by decide) ?_
                        refine wn_sub (p9 := 265) rfl rfl (by omega) ?_
                        have bki : R.ki (R.dp - 1) < 3 := by rw [hdp]; have := S.kd (C.dp - 1) (by omega); omega
                        refine wl_Rki (f := R.ki) (p9 := 266) rfl rfl rfl (by omega) ?_
                        refine wz_iconst (x := nI 2) (p9 := 267) rfl rfl (by decide) ?_
                        refine wn_icne (t9 := 356) (p9 := 270) rfl rfl rfl (by omega) (by omega) (fun h267 => ?_) (fun h267 => ?_)
                        · refine wz_iload_n (p9 := 357) rfl rfl rfl ?_
                          exact wz_reti rfl rfl kk2
                        · exact (n6 ⟨by omega, by omega, by rw [hdp] at h267; have := S.kd (C.dp - 1) (by omega); omega⟩).elim
            · exact (n4 ⟨by omega, by omega, by rw [hdp] at h179; have := S.kd (C.dp - 1) (by omega); omega⟩).elim
      · refine wz_aload_n (p9 := 97) rfl rfl rfl ?_
        refine wz_get (v := .int (nI R.dp)) (p9 := 100) rfl rfl rfl rfl rfl ?_
        refine wz_bipush (x := nI 8) (p9 := 102) rfl rfl (by decide) ?_
        refine wn_icge (t9 := 154) (p9 := 105) rfl rfl rfl (by omega) (by omega) (fun h102 => ?_) (fun h102 => ?_)
        · refine wz_iload_n (p9 := 155) rfl rfl rfl ?_
          refine wz_bipush (x := nI 44) (p9 := 157) rfl rfl (by decide) ?_
          refine wn_icne (t9 := 215) (p9 := 160) rfl rfl rfl (by omega) (by omega) (fun h157 => ?_) (fun h157 => ?_)
          · refine wz_iload_n (p9 := 216) rfl rfl rfl ?_
            refine wz_bipush (x := nI 41) (p9 := 218) rfl rfl (by decide) ?_
            refine wn_icne (t9 := 242) (p9 := 221) rfl rfl rfl (by omega) (by omega) (fun h218 => ?_) (fun h218 => ?_)
            · refine wz_iload_n (p9 := 243) rfl rfl rfl ?_
              refine wz_bipush (x := nI 93) (p9 := 245) rfl rfl (by decide) ?_
              refine wn_icne (t9 := 356) (p9 := 248) rfl rfl rfl (by omega) (by omega) (fun h245 => ?_) (fun h245 => ?_)
              · refine wz_iload_n (p9 := 357) rfl rfl rfl ?_
                exact wz_reti rfl rfl kk2
              · refine wz_aload_n (p9 := 249) rfl rfl rfl ?_
                refine wz_get (v := .int (nI R.dp)) (p9 := 252) rfl rfl rfl rfl rfl ?_
                refine wn_ifle (t9 := 356) (p9 := 255) rfl rfl rfl (by omega) (fun h252 => ?_) (fun h252 => ?_)
                · refine wz_iload_n (p9 := 357) rfl rfl rfl ?_
                  exact wz_reti rfl rfl kk2
                · refine wz_aload_n (p9 := 256) rfl rfl rfl ?_
                  refine wz_get (v := .ref 33) (p9 := 259) rfl rfl rfl rfl rfl ?_
                  refine wz_aload_n (p9 := 260) rfl rfl rfl ?_
                  refine wz_get (v := .int (nI R.dp)) (p9 := 263) rfl rfl rfl rfl rfl ?_
                  refine wz_iconst (x := nI 1) (p9 := 264) rfl rfl (by decide) ?_
                  refine wn_sub (p9 := 265) rfl rfl (by omega) ?_
                  have bki : R.ki (R.dp - 1) < 3 := by rw [hdp]; have := S.kd (C.dp - 1) (by omega); omega
                  refine wl_Rki (f := R.ki) (p9 := 266) rfl rfl rfl (by omega) ?_
                  refine wz_iconst (x := nI 2) (p9 := 267) rfl rfl (by decide) ?_
                  refine wn_icne (t9 := 356) (p9 := 270) rfl rfl rfl (by omega) (by omega) (fun h267 => ?_) (fun h267 => ?_)
                  · refine wz_iload_n (p9 := 357) rfl rfl rfl ?_
                    exact wz_reti rfl rfl kk2
                  · exact (n6 ⟨by omega, by omega, by rw [hdp] at h267; have := S.kd (C.dp - 1) (by omega); omega⟩).elim
            · refine wz_aload_n (p9 := 222) rfl rfl rfl ?_
              refine wz_get (v := .int (nI R.dp)) (p9 := 225) rfl rfl rfl rfl rfl ?_
              refine wn_ifle (t9 := 242) (p9 := 228) rfl rfl rfl (by omega) (fun h225 => ?_) (fun h225 => ?_)
              · refine wz_iload_n (p9 := 243) rfl rfl rfl ?_
                refine wz_bipush (x := nI 93) (p9 := 245) rfl rfl (by decide) ?_
                refine wn_icne (t9 := 356) (p9 := 248) rfl rfl rfl (by omega) (by omega) (fun h245 => ?_) (fun h245 => ?_)
                · refine wz_iload_n (p9 := 357) rfl rfl rfl ?_
                  exact wz_reti rfl rfl kk2
                · refine wz_aload_n (p9 := 249) rfl rfl rfl ?_
                  refine wz_get (v := .int (nI R.dp)) (p9 := 252) rfl rfl rfl rfl rfl ?_
                  refine wn_ifle (t9 := 356) (p9 := 255) rfl rfl rfl (by omega) (fun h252 => ?_) (fun h252 => ?_)
                  · refine wz_iload_n (p9 := 357) rfl rfl rfl ?_
                    exact wz_reti rfl rfl kk2
                  · refine wz_aload_n (p9 := 256) rfl rfl rfl ?_
                    refine wz_get (v := .ref 33) (p9 := 259) rfl rfl rfl rfl rfl ?_
                    refine wz_aload_n (p9 := 260) rfl rfl rfl ?_
                    refine wz_get (v := .int (nI R.dp)) (p9 := 263) rfl rfl rfl rfl rfl ?_
                    refine wz_iconst (x := nI 1) (p9 := 264) rfl rfl (by decide) ?_
                    refine wn_sub (p9 := 265) rfl rfl (by omega) ?_
                    have bki : R.ki (R.dp - 1) < 3 := by rw [hdp]; have := S.kd (C.dp - 1) (by omega); omega
                    refine wl_Rki (f := R.ki) (p9 := 266) rfl rfl rfl (by omega) ?_
                    refine wz_iconst (x := nI 2) (p9 := 267) rfl rfl (by decide) ?_
                    refine wn_icne (t9 := 356) (p9 := 270) rfl rfl rfl (by omega) (by omega) (fun h267 => ?_) (fun h267 => ?_)
                    · refine wz_iload_n (p9 := 357) rfl rfl rfl ?_
                      exact wz_reti rfl rfl kk2
                    · exact (n6 ⟨by omega, by omega, by rw [hdp] at h267; have := S.kd (C.dp - 1) (by omega); omega⟩).elim
              · refine wz_aload_n (p9 := 229) rfl rfl rfl ?_
                refine wz_get (v := .ref 33) (p9 := 232) rfl rfl rfl rfl rfl ?_
                refine wz_aload_n (p9 := 233) rfl rfl rfl ?_
                refine wz_get (v := .int (nI R.dp)) (p9 := 236) rfl rfl rfl rfl rfl ?_
                refine wz_iconst (x := nI 1) (p9 := 237) rfl rfl (by decide) ?_
                refine wn_sub (p9 := 238) rfl rfl (by omega) ?_
                have bki : R.ki (R.dp - 1) < 3 := by rw [hdp]; have := S.kd (C.dp - 1) (by omega); omega
                refine wl_Rki (f := R.ki) (p9 := 239) rfl rfl rfl (by omega) ?_
                refine wn_ifeq (t9 := 270) (p9 := 242) rfl rfl rfl (by omega) (fun h239 => ?_) (fun h239 => ?_)
                · exact (n5 ⟨by omega, by omega, by rw [hdp] at h239; have := S.kd (C.dp - 1) (by omega); omega⟩).elim
                · refine wz_iload_n (p9 := 243) rfl rfl rfl ?_
                  refine wz_bipush (x := nI 93) (p9 := 245) rfl rfl (by decide) ?_
                  refine wn_icne (t9 := 356) (p9 := 248) rfl rfl rfl (by omega) (by omega) (fun h245 => ?_) (fun h245 => ?_)
                  · refine wz_iload_n (p9 := 357) rfl rfl rfl ?_
                    exact wz_reti rfl rfl kk2
                  · refine wz_aload_n (p9 := 249) rfl rfl rfl ?_
                    refine wz_get (v := .int (nI R.dp)) (p9 := 252) rfl rfl rfl rfl rfl ?_
                    refine wn_ifle (t9 := 356) (p9 := 255) rfl rfl rfl (by omega) (fun h252 => ?_) (fun h252 => ?_)
                    · refine wz_iload_n (p9 := 357) rfl rfl rfl ?_
                      exact wz_reti rfl rfl kk2
                    · refine wz_aload_n (p9 := 256) rfl rfl rfl ?_
                      refine wz_get (v := .ref 33) (p9 := 259) rfl rfl rfl rfl rfl ?_
                      refine wz_aload_n (p9 := 260) rfl rfl rfl ?_
                      refine wz_get (v := .int (nI R.dp)) (p9 := 263) rfl rfl rfl rfl rfl ?_
                      refine wz_iconst (x := nI 1) (p9 := 264) rfl rfl (by decide) ?_
                      refine wn_sub (p9 := 265) rfl rfl (by omega) ?_
                      have bki : R.ki (R.dp - 1) < 3 := by rw [hdp]; have := S.kd (C.dp - 1) (by omega); omega
                      refine wl_Rki (f := R.ki) (p9 := 266) rfl rfl rfl (by omega) ?_
                      refine wz_iconst (x := nI 2) (p9 := 267) rfl rfl (by decide) ?_
                      refine wn_icne (t9 := 356) (p9 := 270) rfl rfl rfl (by omega) (by omega) (fun h267 => ?_) (fun h267 => ?_)
                      · refine wz_iload_n (p9 := 357) rfl rfl rfl ?_
                        exact wz_reti rfl rfl kk2
                      · exact (n6 ⟨by omega, by omega, by rw [hdp] at h267; have := S.kd (C.dp - 1) (by omega); omega⟩).elim
          · refine wz_aload_n (p9 := 161) rfl rfl rfl ?_
            refine wz_get (v := .int (nI R.dp)) (p9 := 164) rfl rfl rfl rfl rfl ?_
            refine wn_ifle (t9 := 215) (p9 := 167) rfl rfl rfl (by omega) (fun h164 => ?_) (fun h164 => ?_)
            · refine wz_iload_n (p9 := 216) rfl rfl rfl ?_
              refine wz_bipush (x := nI 41) (p9 := 218) rfl rfl (by decide) ?_
              refine wn_icne (t9 := 242) (p9 := 221) rfl rfl rfl (by omega) (by omega) (fun h218 => ?_) (fun h218 => ?_)
              · refine wz_iload_n (p9 := 243) rfl rfl rfl ?_
                refine wz_bipush (x := nI 93) (p9 := 245) rfl rfl (by decide) ?_
                refine wn_icne (t9 := 356) (p9 := 248) rfl rfl rfl (by omega) (by omega) (fun h245 => ?_) (fun h245 => ?_)
                · refine wz_iload_n (p9 := 357) rfl rfl rfl ?_
                  exact wz_reti rfl rfl kk2
                · refine wz_aload_n (p9 := 249) rfl rfl rfl ?_
                  refine wz_get (v := .int (nI R.dp)) (p9 := 252) rfl rfl rfl rfl rfl ?_
                  refine wn_ifle (t9 := 356) (p9 := 255) rfl rfl rfl (by omega) (fun h252 => ?_) (fun h252 => ?_)
                  · refine wz_iload_n (p9 := 357) rfl rfl rfl ?_
                    exact wz_reti rfl rfl kk2
                  · refine wz_aload_n (p9 := 256) rfl rfl rfl ?_
                    refine wz_get (v := .ref 33) (p9 := 259) rfl rfl rfl rfl rfl ?_
                    refine wz_aload_n (p9 := 260) rfl rfl rfl ?_
                    refine wz_get (v := .int (nI R.dp)) (p9 := 263) rfl rfl rfl rfl rfl ?_
                    refine wz_iconst (x := nI 1) (p9 := 264) rfl rfl (by decide) ?_
                    refine wn_sub (p9 := 265) rfl rfl (by omega) ?_
                    have bki : R.ki (R.dp - 1) < 3 := by rw [hdp]; have := S.kd (C.dp - 1) (by omega); omega
                    refine wl_Rki (f := R.ki) (p9 := 266) rfl rfl rfl (by omega) ?_
                    refine wz_iconst (x := nI 2) (p9 := 267) rfl rfl (by decide) ?_
                    refine wn_icne (t9 := 356) (p9 := 270) rfl rfl rfl (by omega) (by omega) (fun h267 => ?_) (fun h267 => ?_)
                    · refine wz_iload_n (p9 := 357) rfl rfl rfl ?_
                      exact wz_reti rfl rfl kk2
                    · exact (n6 ⟨by omega, by omega, by rw [hdp] at h267; have := S.kd (C.dp - 1) (by omega); omega⟩).elim
              · refine wz_aload_n (p9 := 222) rfl rfl rfl ?_
                refine wz_get (v := .int (nI R.dp)) (p9 := 225) rfl rfl rfl rfl rfl ?_
                refine wn_ifle (t9 := 242) (p9 := 228) rfl rfl rfl (by omega) (fun h225 => ?_) (fun h225 => ?_)
                · refine wz_iload_n (p9 := 243) rfl rfl rfl ?_
                  refine wz_bipush (x := nI 93) (p9 := 245) rfl rfl (by decide) ?_
                  refine wn_icne (t9 := 356) (p9 := 248) rfl rfl rfl (by omega) (by omega) (fun h245 => ?_) (fun h245 => ?_)
                  · refine wz_iload_n (p9 := 357) rfl rfl rfl ?_
                    exact wz_reti rfl rfl kk2
                  · refine wz_aload_n (p9 := 249) rfl rfl rfl ?_
                    refine wz_get (v := .int (nI R.dp)) (p9 := 252) rfl rfl rfl rfl rfl ?_
                    refine wn_ifle (t9 := 356) (p9 := 255) rfl rfl rfl (by omega) (fun h252 => ?_) (fun h252 => ?_)
                    · refine wz_iload_n (p9 := 357) rfl rfl rfl ?_
                      exact wz_reti rfl rfl kk2
                    · refine wz_aload_n (p9 := 256) rfl rfl rfl ?_
                      refine wz_get (v := .ref 33) (p9 := 259) rfl rfl rfl rfl rfl ?_
                      refine wz_aload_n (p9 := 260) rfl rfl rfl ?_
                      refine wz_get (v := .int (nI R.dp)) (p9 := 263) rfl rfl rfl rfl rfl ?_
                      refine wz_iconst (x := nI 1) (p9 := 264) rfl rfl (by decide) ?_
                      refine wn_sub (p9 := 265) rfl rfl (by omega) ?_
                      have bki : R.ki (R.dp - 1) < 3 := by rw [hdp]; have := S.kd (C.dp - 1) (by omega); omega
                      refine wl_Rki (f := R.ki) (p9 := 266) rfl rfl rfl (by omega) ?_
                      refine wz_iconst (x := nI 2) (p9 := 267) rfl rfl (by decide) ?_
                      refine wn_icne (t9 := 356) (p9 := 270) rfl rfl rfl (by omega) (by omega) (fun h267 => ?_) (fun h267 => ?_)
                      · refine wz_iload_n (p9 := 357) rfl rfl rfl ?_
                        exact wz_reti rfl rfl kk2
                      · exact (n6 ⟨by omega, by omega, by rw [hdp] at h267; have := S.kd (C.dp - 1) (by omega); omega⟩).elim
                · refine wz_aload_n (p9 := 229) rfl rfl rfl ?_
                  refine wz_get (v := .ref 33) (p9 := 232) rfl rfl rfl rfl rfl ?_
                  refine wz_aload_n (p9 := 233) rfl rfl rfl ?_
                  refine wz_get (v := .int (nI R.dp)) (p9 := 236) rfl rfl rfl rfl rfl ?_
                  refine wz_iconst (x := nI 1) (p9 := 237) rfl rfl (by decide) ?_
                  refine wn_sub (p9 := 238) rfl rfl (by omega) ?_
                  have bki : R.ki (R.dp - 1) < 3 := by rw [hdp]; have := S.kd (C.dp - 1) (by omega); omega
                  refine wl_Rki (f := R.ki) (p9 := 239) rfl rfl rfl (by omega) ?_
                  refine wn_ifeq (t9 := 270) (p9 := 242) rfl rfl rfl (by omega) (fun h239 => ?_) (fun h239 => ?_)
                  · exact (n5 ⟨by omega, by omega, by rw [hdp] at h239; have := S.kd (C.dp - 1) (by omega); omega⟩).elim
                  · refine wz_iload_n (p9 := 243) rfl rfl rfl ?_
                    refine wz_bipush (x := nI 93) (p9 := 245) rfl rfl (by decide) ?_
                    refine wn_icne (t9 := 356) (p9 := 248) rfl rfl rfl (by omega) (by omega) (fun h245 => ?_) (fun h245 => ?_)
                    · refine wz_iload_n (p9 := 357) rfl rfl rfl ?_
                      exact wz_reti rfl rfl kk2
                    · refine wz_aload_n (p9 := 249) rfl rfl rfl ?_
                      refine wz_get (v := .int (nI R.dp)) (p9 := 252) rfl rfl rfl rfl rfl ?_
                      refine wn_ifle (t9 := 356) (p9 := 255) rfl rfl rfl (by omega) (fun h252 => ?_) (fun h252 => ?_)
                      · refine wz_iload_n (p9 := 357) rfl rfl rfl ?_
                        exact wz_reti rfl rfl kk2
                      · refine wz_aload_n (p9 := 256) rfl rfl rfl ?_
                        refine wz_get (v := .ref 33) (p9 := 259) rfl rfl rfl rfl rfl ?_
                        refine wz_aload_n (p9 := 260) rfl rfl rfl ?_
                        refine wz_get (v := .int (nI R.dp)) (p9 := 263) rfl rfl rfl rfl rfl ?_
                        refine wz_iconst (x := nI 1) (p9 := 264) rfl rfl (by decide) ?_
                        refine wn_sub (p9 := 265) rfl rfl (by omega) ?_
                        have bki : R.ki (R.dp - 1) < 3 := by rw [hdp]; have := S.kd (C.dp - 1) (by omega); omega
                        refine wl_Rki (f := R.ki) (p9 := 266) rfl rfl rfl (by omega) ?_
                        refine wz_iconst (x := nI 2) (p9 := 267) rfl rfl (by decide) ?_
                        refine wn_icne (t9 := 356) (p9 := 270) rfl rfl rfl (by omega) (by omega) (fun h267 => ?_) (fun h267 => ?_)
                        · refine wz_iload_n (p9 := 357) rfl rfl rfl ?_
                          exact wz_reti rfl rfl kk2
                        · exact (n6 ⟨by omega, by omega, by rw [hdp] at h267; have := S.kd (C.dp - 1) (by omega); omega⟩).elim
            · refine wz_aload_n (p9 := 168) rfl rfl rfl ?_
              refine wz_get (v := .ref 33) (p9 := 171) rfl rfl rfl rfl rfl ?_
              refine wz_aload_n (p9 := 172) rfl rfl rfl ?_
              refine wz_get (v := .int (nI R.dp)) (p9 := 175) rfl rfl rfl rfl rfl ?_
              refine wz_iconst (x := nI 1) (p9 := 176) rfl rfl (by decide) ?_
              refine wn_sub (p9 := 177) rfl rfl (by omega) ?_
              have bki : R.ki (R.dp - 1) < 3 := by rw [hdp]; have := S.kd (C.dp - 1) (by omega); omega
              refine wl_Rki (f := R.ki) (p9 := 178) rfl rfl rfl (by omega) ?_
              refine wz_iconst (x := nI 1) (p9 := 179) rfl rfl (by decide) ?_
              refine wn_icne (t9 := 215) (p9 := 182) rfl rfl rfl (by omega) (by omega) (fun h179 => ?_) (fun h179 => ?_)
              · refine wz_iload_n (p9 := 216) rfl rfl rfl ?_
                refine wz_bipush (x := nI 41) (p9 := 218) rfl rfl (by decide) ?_
                refine wn_icne (t9 := 242) (p9 := 221) rfl rfl rfl (by omega) (by omega) (fun h218 => ?_) (fun h218 => ?_)
                · refine wz_iload_n (p9 := 243) rfl rfl rfl ?_
                  refine wz_bipush (x := nI 93) (p9 := 245) rfl rfl (by decide) ?_
                  refine wn_icne (t9 := 356) (p9 := 248) rfl rfl rfl (by omega) (by omega) (fun h245 => ?_) (fun h245 => ?_)
                  · refine wz_iload_n (p9 := 357) rfl rfl rfl ?_
                    exact wz_reti rfl rfl kk2
                  · refine wz_aload_n (p9 := 249) rfl rfl rfl ?_
                    refine wz_get (v := .int (nI R.dp)) (p9 := 252) rfl rfl rfl rfl rfl ?_
                    refine wn_ifle (t9 := 356) (p9 := 255) rfl rfl rfl (by omega) (fun h252 => ?_) (fun h252 => ?_)
                    · refine wz_iload_n (p9 := 357) rfl rfl rfl ?_
                      exact wz_reti rfl rfl kk2
                    · refine wz_aload_n (p9 := 256) rfl rfl rfl ?_
                      refine wz_get (v := .ref 33) (p9 := 259) rfl rfl rfl rfl rfl ?_
                      refine wz_aload_n (p9 := 260) rfl rfl rfl ?_
                      refine wz_get (v := .int (nI R.dp)) (p9 := 263) rfl rfl rfl rfl rfl ?_
                      refine wz_iconst (x := nI 1) (p9 := 264) rfl rfl (by decide) ?_
                      refine wn_sub (p9 := 265) rfl rfl (by omega) ?_
                      have bki : R.ki (R.dp - 1) < 3 := by rw [hdp]; have := S.kd (C.dp - 1) (by omega); omega
                      refine wl_Rki (f := R.ki) (p9 := 266) rfl rfl rfl (by omega) ?_
                      refine wz_iconst (x := nI 2) (p9 := 267) rfl rfl (by decide) ?_
                      refine wn_icne (t9 := 356) (p9 := 270) rfl rfl rfl (by omega) (by omega) (fun h267 => ?_) (fun h267 => ?_)
                      · refine wz_iload_n (p9 := 357) rfl rfl rfl ?_
                        exact wz_reti rfl rfl kk2
                      · exact (n6 ⟨by omega, by omega, by rw [hdp] at h267; have := S.kd (C.dp - 1) (by omega); omega⟩).elim
                · refine wz_aload_n (p9 := 222) rfl rfl rfl ?_
                  refine wz_get (v := .int (nI R.dp)) (p9 := 225) rfl rfl rfl rfl rfl ?_
                  refine wn_ifle (t9 := 242) (p9 := 228) rfl rfl rfl (by omega) (fun h225 => ?_) (fun h225 => ?_)
                  · refine wz_iload_n (p9 := 243) rfl rfl rfl ?_
                    refine wz_bipush (x := nI 93) (p9 := 245) rfl rfl (by decide) ?_
                    refine wn_icne (t9 := 356) (p9 := 248) rfl rfl rfl (by omega) (by omega) (fun h245 => ?_) (fun h245 => ?_)
                    · refine wz_iload_n (p9 := 357) rfl rfl rfl ?_
                      exact wz_reti rfl rfl kk2
                    · refine wz_aload_n (p9 := 249) rfl rfl rfl ?_
                      refine wz_get (v := .int (nI R.dp)) (p9 := 252) rfl rfl rfl rfl rfl ?_
                      refine wn_ifle (t9 := 356) (p9 := 255) rfl rfl rfl (by omega) (fun h252 => ?_) (fun h252 => ?_)
                      · refine wz_iload_n (p9 := 357) rfl rfl rfl ?_
                        exact wz_reti rfl rfl kk2
                      · refine wz_aload_n (p9 := 256) rfl rfl rfl ?_
                        refine wz_get (v := .ref 33) (p9 := 259) rfl rfl rfl rfl rfl ?_
                        refine wz_aload_n (p9 := 260) rfl rfl rfl ?_
                        refine wz_get (v := .int (nI R.dp)) (p9 := 263) rfl rfl rfl rfl rfl ?_
                        refine wz_iconst (x := nI 1) (p9 := 264) rfl rfl (by decide) ?_
                        refine wn_sub (p9 := 265) rfl rfl (by omega) ?_
                        have bki : R.ki (R.dp - 1) < 3 := by rw [hdp]; have := S.kd (C.dp - 1) (by omega); omega
                        refine wl_Rki (f := R.ki) (p9 := 266) rfl rfl rfl (by omega) ?_
                        refine wz_iconst (x := nI 2) (p9 := 267) rfl rfl (by decide) ?_
                        refine wn_icne (t9 := 356) (p9 := 270) rfl rfl rfl (by omega) (by omega) (fun h267 => ?_) (fun h267 => ?_)
                        · refine wz_iload_n (p9 := 357) rfl rfl rfl ?_
                          exact wz_reti rfl rfl kk2
                        · exact (n6 ⟨by omega, by omega, by rw [hdp] at h267; have := S.kd (C.dp - 1) (by omega); omega⟩).elim
                  · refine wz_aload_n (p9 := 229) rfl rfl rfl ?_
                    refine wz_get (v := .ref 33) (p9 := 232) rfl rfl rfl rfl rfl ?_
                    refine wz_aload_n (p9 := 233) rfl rfl rfl ?_
                    refine wz_get (v := .int (nI R.dp)) (p9 := 236) rfl rfl rfl rfl rfl ?_
                    refine wz_iconst (x := nI 1) (p9 := 237) rfl rfl (by decide) ?_
                    refine wn_sub (p9 := 238) rfl rfl (by omega) ?_
                    have bki : R.ki (R.dp - 1) < 3 := by rw [hdp]; have := S.kd (C.dp - 1) (by omega); omega
                    refine wl_Rki (f := R.ki) (p9 := 239) rfl rfl rfl (by omega) ?_
                    refine wn_ifeq (t9 := 270) (p9 := 242) rfl rfl rfl (by omega) (fun h239 => ?_) (fun h239 => ?_)
                    · exact (n5 ⟨by omega, by omega, by rw [hdp] at h239; have := S.kd (C.dp - 1) (by omega); omega⟩).elim
                    · refine wz_iload_n (p9 := 243) rfl rfl rfl ?_
                      refine wz_bipush (x := nI 93) (p9 := 245) rfl rfl (by decide) ?_
                      refine wn_icne (t9 := 356) (p9 := 248) rfl rfl rfl (by omega) (by omega) (fun h245 => ?_) (fun h245 => ?_)
                      · refine wz_iload_n (p9 := 357) rfl rfl rfl ?_
                        exact wz_reti rfl rfl kk2
                      · refine wz_aload_n (p9 := 249) rfl rfl rfl ?_
                        refine wz_get (v := .int (nI R.dp)) (p9 := 252) rfl rfl rfl rfl rfl ?_
                        refine wn_ifle (t9 := 356) (p9 := 255) rfl rfl rfl (by omega) (fun h252 => ?_) (fun h252 => ?_)
                        · refine wz_iload_n (p9 := 357) rfl rfl rfl ?_
                          exact wz_reti rfl rfl kk2
                        · refine wz_aload_n (p9 := 256) rfl rfl rfl ?_
                          refine wz_get (v := .ref 33) (p9 := 259) rfl rfl rfl rfl rfl ?_
                          refine wz_aload_n (p9 := 260) rfl rfl rfl ?_
                          refine wz_get (v := .int (nI R.dp)) (p9 := 263) rfl rfl rfl rfl rfl ?_
                          refine wz_iconst (x := nI 1) (p9 := 264) rfl rfl (by decide) ?_
                          refine wn_sub (p9 := 265) rfl rfl (by omega) ?_
                          have bki : R.ki (R.dp - 1) < 3 := by rw [hdp]; have := S.kd (C.dp - 1) (by omega); omega
                          refine wl_Rki (f := R.ki) (p9 := 266) rfl rfl rfl (by omega) ?_
                          refine wz_iconst (x := nI 2) (p9 := 267) rfl rfl (by decide) ?_
                          refine wn_icne (t9 := 356) (p9 := 270) rfl rfl rfl (by omega) (by omega) (fun h267 => ?_) (fun h267 => ?_)
                          · refine wz_iload_n (p9 := 357) rfl rfl rfl ?_
                            exact wz_reti rfl rfl kk2
                          · exact (n6 ⟨by omega, by omega, by rw [hdp] at h267; have := S.kd (C.dp - 1) (by omega); omega⟩).elim
              · exact (n4 ⟨by omega, by omega, by rw [hdp] at h179; have := S.kd (C.dp - 1) (by omega); omega⟩).elim
        · exact (n3 ⟨by omega, by omega⟩).elim
  · refine wz_iload_n (p9 := 39) rfl rfl rfl ?_
    refine wz_bipush (x := nI 97) (p9 := 41) rfl rfl (by decide) ?_
    refine wz_aload_n (p9 := 42) rfl rfl rfl ?_
    refine wz_get (v := .int (nI R.Mv)) (p9 := 45) rfl rfl rfl rfl rfl ?_
    refine wn_add (p9 := 46) rfl rfl ?_
    refine wn_icge (t9 := 84) (p9 := 49) rfl rfl rfl (by omega) (by omega) (fun h46 => ?_) (fun h46 => ?_)
    · refine wz_iload_n (p9 := 85) rfl rfl rfl ?_
      refine wz_bipush (x := nI 40) (p9 := 87) rfl rfl (by decide) ?_
      refine wn_iceq (t9 := 96) (p9 := 90) rfl rfl rfl (by omega) (by omega) (fun h87 => ?_) (fun h87 => ?_)
      · refine wz_aload_n (p9 := 97) rfl rfl rfl ?_
        refine wz_get (v := .int (nI R.dp)) (p9 := 100) rfl rfl rfl rfl rfl ?_
        refine wz_bipush (x := nI 8) (p9 := 102) rfl rfl (by decide) ?_
        refine wn_icge (t9 := 154) (p9 := 105) rfl rfl rfl (by omega) (by omega) (fun h102 => ?_) (fun h102 => ?_)
        · refine wz_iload_n (p9 := 155) rfl rfl rfl ?_
          refine wz_bipush (x := nI 44) (p9 := 157) rfl rfl (by decide) ?_
          refine wn_icne (t9 := 215) (p9 := 160) rfl rfl rfl (by omega) (by omega) (fun h157 => ?_) (fun h157 => ?_)
          · refine wz_iload_n (p9 := 216) rfl rfl rfl ?_
            refine wz_bipush (x := nI 41) (p9 := 218) rfl rfl (by decide) ?_
            refine wn_icne (t9 := 242) (p9 := 221) rfl rfl rfl (by omega) (by omega) (fun h218 => ?_) (fun h218 => ?_)
            · refine wz_iload_n (p9 := 243) rfl rfl rfl ?_
              refine wz_bipush (x := nI 93) (p9 := 245) rfl rfl (by decide) ?_
              refine wn_icne (t9 := 356) (p9 := 248) rfl rfl rfl (by omega) (by omega) (fun h245 => ?_) (fun h245 => ?_)
              · refine wz_iload_n (p9 := 357) rfl rfl rfl ?_
                exact wz_reti rfl rfl kk2
              · refine wz_aload_n (p9 := 249) rfl rfl rfl ?_
                refine wz_get (v := .int (nI R.dp)) (p9 := 252) rfl rfl rfl rfl rfl ?_
                refine wn_ifle (t9 := 356) (p9 := 255) rfl rfl rfl (by omega) (fun h252 => ?_) (fun h252 => ?_)
                · refine wz_iload_n (p9 := 357) rfl rfl rfl ?_
                  exact wz_reti rfl rfl kk2
                · refine wz_aload_n (p9 := 256) rfl rfl rfl ?_
                  refine wz_get (v := .ref 33) (p9 := 259) rfl rfl rfl rfl rfl ?_
                  refine wz_aload_n (p9 := 260) rfl rfl rfl ?_
                  refine wz_get (v := .int (nI R.dp)) (p9 := 263) rfl rfl rfl rfl rfl ?_
                  refine wz_iconst (x := nI 1) (p9 := 264) rfl rfl (by decide) ?_
                  refine wn_sub (p9 := 265) rfl rfl (by omega) ?_
                  have bki : R.ki (R.dp - 1) < 3 := by rw [hdp]; have := S.kd (C.dp - 1) (by omega); omega
                  refine wl_Rki (f := R.ki) (p9 := 266) rfl rfl rfl (by omega) ?_
                  refine wz_iconst (x := nI 2) (p9 := 267) rfl rfl (by decide) ?_
                  refine wn_icne (t9 := 356) (p9 := 270) rfl rfl rfl (by omega) (by omega) (fun h267 => ?_) (fun h267 => ?_)
                  · refine wz_iload_n (p9 := 357) rfl rfl rfl ?_
                    exact wz_reti rfl rfl kk2
                  · exact (n6 ⟨by omega, by omega, by rw [hdp] at h267; have := S.kd (C.dp - 1) (by omega); omega⟩).elim
            · refine wz_aload_n (p9 := 222) rfl rfl rfl ?_
              refine wz_get (v := .int (nI R.dp)) (p9 := 225) rfl rfl rfl rfl rfl ?_
              refine wn_ifle (t9 := 242) (p9 := 228) rfl rfl rfl (by omega) (fun h225 => ?_) (fun h225 => ?_)
              · refine wz_iload_n (p9 := 243) rfl rfl rfl ?_
                refine wz_bipush (x := nI 93) (p9 := 245) rfl rfl (by decide) ?_
                refine wn_icne (t9 := 356) (p9 := 248) rfl rfl rfl (by omega) (by omega) (fun h245 => ?_) (fun h245 => ?_)
                · refine wz_iload_n (p9 := 357) rfl rfl rfl ?_
                  exact wz_reti rfl rfl kk2
                · refine wz_aload_n (p9 := 249) rfl rfl rfl ?_
                  refine wz_get (v := .int (nI R.dp)) (p9 := 252) rfl rfl rfl rfl rfl ?_
                  refine wn_ifle (t9 := 356) (p9 := 255) rfl rfl rfl (by omega) (fun h252 => ?_) (fun h252 => ?_)
                  · refine wz_iload_n (p9 := 357) rfl rfl rfl ?_
                    exact wz_reti rfl rfl kk2
                  · refine wz_aload_n (p9 := 256) rfl rfl rfl ?_
                    refine wz_get (v := .ref 33) (p9 := 259) rfl rfl rfl rfl rfl ?_
                    refine wz_aload_n (p9 := 260) rfl rfl rfl ?_
                    refine wz_get (v := .int (nI R.dp)) (p9 := 263) rfl rfl rfl rfl rfl ?_
                    refine wz_iconst (x := nI 1) (p9 := 264) rfl rfl (by decide) ?_
                    refine wn_sub (p9 := 265) rfl rfl (by omega) ?_
                    have bki : R.ki (R.dp - 1) < 3 := by rw [hdp]; have := S.kd (C.dp - 1) (by omega); omega
                    refine wl_Rki (f := R.ki) (p9 := 266) rfl rfl rfl (by omega) ?_
                    refine wz_iconst (x := nI 2) (p9 := 267) rfl rfl (by decide) ?_
                    refine wn_icne (t9 := 356) (p9 := 270) rfl rfl rfl (by omega) (by omega) (fun h267 => ?_) (fun h267 => ?_)
                    · refine wz_iload_n (p9 := 357) rfl rfl rfl ?_
                      exact wz_reti rfl rfl kk2
                    · exact (n6 ⟨by omega, by omega, by rw [hdp] at h267; have := S.kd (C.dp - 1) (by omega); omega⟩).elim
              · refine wz_aload_n (p9 := 229) rfl rfl rfl ?_
                refine wz_get (v := .ref 33) (p9 := 232) rfl rfl rfl rfl rfl ?_
                refine wz_aload_n (p9 := 233) rfl rfl rfl ?_
                refine wz_get (v := .int (nI R.dp)) (p9 := 236) rfl rfl rfl rfl rfl ?_
                refine wz_iconst (x := nI 1) (p9 := 237) rfl rfl (by decide) ?_
                refine wn_sub (p9 := 238) rfl rfl (by omega) ?_
                have bki : R.ki (R.dp - 1) < 3 := by rw [hdp]; have := S.kd (C.dp - 1) (by omega); omega
                refine wl_Rki (f := R.ki) (p9 := 239) rfl rfl rfl (by omega) ?_
                refine wn_ifeq (t9 := 270) (p9 := 242) rfl rfl rfl (by omega) (fun h239 => ?_) (fun h239 => ?_)
                · exact (n5 ⟨by omega, by omega, by rw [hdp] at h239; have := S.kd (C.dp - 1) (by omega); omega⟩).elim
                · refine wz_iload_n (p9 := 243) rfl rfl rfl ?_
                  refine wz_bipush (x := nI 93) (p9 := 245) rfl rfl (by decide) ?_
                  refine wn_icne (t9 := 356) (p9 := 248) rfl rfl rfl (by omega) (by omega) (fun h245 => ?_) (fun h245 => ?_)
                  · refine wz_iload_n (p9 := 357) rfl rfl rfl ?_
                    exact wz_reti rfl rfl kk2
                  · refine wz_aload_n (p9 := 249) rfl rfl rfl ?_
                    refine wz_get (v := .int (nI R.dp)) (p9 := 252) rfl rfl rfl rfl rfl ?_
                    refine wn_ifle (t9 := 356) (p9 := 255) rfl rfl rfl (by omega) (fun h252 => ?_) (fun h252 => ?_)
                    · refine wz_iload_n (p9 := 357) rfl rfl rfl ?_
                      exact wz_reti rfl rfl kk2
                    · refine wz_aload_n (p9 := 256) rfl rfl rfl ?_
                      refine wz_get (v := .ref 33) (p9 := 259) rfl rfl rfl rfl rfl ?_
                      refine wz_aload_n (p9 := 260) rfl rfl rfl ?_
                      refine wz_get (v := .int (nI R.dp)) (p9 := 263) rfl rfl rfl rfl rfl ?_
                      refine wz_iconst (x := nI 1) (p9 := 264) rfl rfl (by decide) ?_
                      refine wn_sub (p9 := 265) rfl rfl (by omega) ?_
                      have bki : R.ki (R.dp - 1) < 3 := by rw [hdp]; have := S.kd (C.dp - 1) (by omega); omega
                      refine wl_Rki (f := R.ki) (p9 := 266) rfl rfl rfl (by omega) ?_
                      refine wz_iconst (x := nI 2) (p9 := 267) rfl rfl (by decide) ?_
                      refine wn_icne (t9 := 356) (p9 := 270) rfl rfl rfl (by omega) (by omega) (fun h267 => ?_) (fun h267 => ?_)
                      · refine wz_iload_n (p9 := 357) rfl rfl rfl ?_
                        exact wz_reti rfl rfl kk2
                      · exact (n6 ⟨by omega, by omega, by rw [hdp] at h267; have := S.kd (C.dp - 1) (by omega); omega⟩).elim
          · refine wz_aload_n (p9 := 161) rfl rfl rfl ?_
            refine wz_get (v := .int (nI R.dp)) (p9 := 164) rfl rfl rfl rfl rfl ?_
            refine wn_ifle (t9 := 215) (p9 := 167) rfl rfl rfl (by omega) (fun h164 => ?_) (fun h164 => ?_)
            · refine wz_iload_n (p9 := 216) rfl rfl rfl ?_
              refine wz_bipush (x := nI 41) (p9 := 218) rfl rfl (by decide) ?_
              refine wn_icne (t9 := 242) (p9 := 221) rfl rfl rfl (by omega) (by omega) (fun h218 => ?_) (fun h218 => ?_)
              · refine wz_iload_n (p9 := 243) rfl rfl rfl ?_
                refine wz_bipush (x := nI 93) (p9 := 245) rfl rfl (by decide) ?_
                refine wn_icne (t9 := 356) (p9 := 248) rfl rfl rfl (by omega) (by omega) (fun h245 => ?_) (fun h245 => ?_)
                · refine wz_iload_n (p9 := 357) rfl rfl rfl ?_
                  exact wz_reti rfl rfl kk2
                · refine wz_aload_n (p9 := 249) rfl rfl rfl ?_
                  refine wz_get (v := .int (nI R.dp)) (p9 := 252) rfl rfl rfl rfl rfl ?_
                  refine wn_ifle (t9 := 356) (p9 := 255) rfl rfl rfl (by omega) (fun h252 => ?_) (fun h252 => ?_)
                  · refine wz_iload_n (p9 := 357) rfl rfl rfl ?_
                    exact wz_reti rfl rfl kk2
                  · refine wz_aload_n (p9 := 256) rfl rfl rfl ?_
                    refine wz_get (v := .ref 33) (p9 := 259) rfl rfl rfl rfl rfl ?_
                    refine wz_aload_n (p9 := 260) rfl rfl rfl ?_
                    refine wz_get (v := .int (nI R.dp)) (p9 := 263) rfl rfl rfl rfl rfl ?_
                    refine wz_iconst (x := nI 1) (p9 := 264) rfl rfl (by decide) ?_
                    refine wn_sub (p9 := 265) rfl rfl (by omega) ?_
                    have bki : R.ki (R.dp - 1) < 3 := by rw [hdp]; have := S.kd (C.dp - 1) (by omega); omega
                    refine wl_Rki (f := R.ki) (p9 := 266) rfl rfl rfl (by omega) ?_
                    refine wz_iconst (x := nI 2) (p9 := 267) rfl rfl (by decide) ?_
                    refine wn_icne (t9 := 356) (p9 := 270) rfl rfl rfl (by omega) (by omega) (fun h267 => ?_) (fun h267 => ?_)
                    · refine wz_iload_n (p9 := 357) rfl rfl rfl ?_
                      exact wz_reti rfl rfl kk2
                    · exact (n6 ⟨by omega, by omega, by rw [hdp] at h267; have := S.kd (C.dp - 1) (by omega); omega⟩).elim
              · refine wz_aload_n (p9 := 222) rfl rfl rfl ?_
                refine wz_get (v := .int (nI R.dp)) (p9 := 225) rfl rfl rfl rfl rfl ?_
                refine wn_ifle (t9 := 242) (p9 := 228) rfl rfl rfl (by omega) (fun h225 => ?_) (fun h225 => ?_)
                · refine wz_iload_n (p9 := 243) rfl rfl rfl ?_
                  refine wz_bipush (x := nI 93) (p9 := 245) rfl rfl (by decide) ?_
                  refine wn_icne (t9 := 356) (p9 := 248) rfl rfl rfl (by omega) (by omega) (fun h245 => ?_) (fun h245 => ?_)
                  · refine wz_iload_n (p9 := 357) rfl rfl rfl ?_
                    exact wz_reti rfl rfl kk2
                  · refine wz_aload_n (p9 := 249) rfl rfl rfl ?_
                    refine wz_get (v := .int (nI R.dp)) (p9 := 252) rfl rfl rfl rfl rfl ?_
                    refine wn_ifle (t9 := 356) (p9 := 255) rfl rfl rfl (by omega) (fun h252 => ?_) (fun h252 => ?_)
                    · refine wz_iload_n (p9 := 357) rfl rfl rfl ?_
                      exact wz_reti rfl rfl kk2
                    · refine wz_aload_n (p9 := 256) rfl rfl rfl ?_
                      refine wz_get (v := .ref 33) (p9 := 259) rfl rfl rfl rfl rfl ?_
                      refine wz_aload_n (p9 := 260) rfl rfl rfl ?_
                      refine wz_get (v := .int (nI R.dp)) (p9 := 263) rfl rfl rfl rfl rfl ?_
                      refine wz_iconst (x := nI 1) (p9 := 264) rfl rfl (by decide) ?_
                      refine wn_sub (p9 := 265) rfl rfl (by omega) ?_
                      have bki : R.ki (R.dp - 1) < 3 := by rw [hdp]; have := S.kd (C.dp - 1) (by omega); omega
                      refine wl_Rki (f := R.ki) (p9 := 266) rfl rfl rfl (by omega) ?_
                      refine wz_iconst (x := nI 2) (p9 := 267) rfl rfl (by decide) ?_
                      refine wn_icne (t9 := 356) (p9 := 270) rfl rfl rfl (by omega) (by omega) (fun h267 => ?_) (fun h267 => ?_)
                      · refine wz_iload_n (p9 := 357) rfl rfl rfl ?_
                        exact wz_reti rfl rfl kk2
                      · exact (n6 ⟨by omega, by omega, by rw [hdp] at h267; have := S.kd (C.dp - 1) (by omega); omega⟩).elim
                · refine wz_aload_n (p9 := 229) rfl rfl rfl ?_
                  refine wz_get (v := .ref 33) (p9 := 232) rfl rfl rfl rfl rfl ?_
                  refine wz_aload_n (p9 := 233) rfl rfl rfl ?_
                  refine wz_get (v := .int (nI R.dp)) (p9 := 236) rfl rfl rfl rfl rfl ?_
                  refine wz_iconst (x := nI 1) (p9 := 237) rfl rfl (by decide) ?_
                  refine wn_sub (p9 := 238) rfl rfl (by omega) ?_
                  have bki : R.ki (R.dp - 1) < 3 := by rw [hdp]; have := S.kd (C.dp - 1) (by omega); omega
                  refine wl_Rki (f := R.ki) (p9 := 239) rfl rfl rfl (by omega) ?_
                  refine wn_ifeq (t9 := 270) (p9 := 242) rfl rfl rfl (by omega) (fun h239 => ?_) (fun h239 => ?_)
                  · exact (n5 ⟨by omega, by omega, by rw [hdp] at h239; have := S.kd (C.dp - 1) (by omega); omega⟩).elim
                  · refine wz_iload_n (p9 := 243) rfl rfl rfl ?_
                    refine wz_bipush (x := nI 93) (p9 := 245) rfl rfl (by decide) ?_
                    refine wn_icne (t9 := 356) (p9 := 248) rfl rfl rfl (by omega) (by omega) (fun h245 => ?_) (fun h245 => ?_)
                    · refine wz_iload_n (p9 := 357) rfl rfl rfl ?_
                      exact wz_reti rfl rfl kk2
                    · refine wz_aload_n (p9 := 249) rfl rfl rfl ?_
                      refine wz_get (v := .int (nI R.dp)) (p9 := 252) rfl rfl rfl rfl rfl ?_
                      refine wn_ifle (t9 := 356) (p9 := 255) rfl rfl rfl (by omega) (fun h252 => ?_) (fun h252 => ?_)
                      · refine wz_iload_n (p9 := 357) rfl rfl rfl ?_
                        exact wz_reti rfl rfl kk2
                      · refine wz_aload_n (p9 := 256) rfl rfl rfl ?_
                        refine wz_get (v := .ref 33) (p9 := 259) rfl rfl rfl rfl rfl ?_
                        refine wz_aload_n (p9 := 260) rfl rfl rfl ?_
                        refine wz_get (v := .int (nI R.dp)) (p9 := 263) rfl rfl rfl rfl rfl ?_
                        refine wz_iconst (x := nI 1) (p9 := 264) rfl rfl (by decide) ?_
                        refine wn_sub (p9 := 265) rfl rfl (by omega) ?_
                        have bki : R.ki (R.dp - 1) < 3 := by rw [hdp]; have := S.kd (C.dp - 1) (by omega); omega
                        refine wl_Rki (f := R.ki) (p9 := 266) rfl rfl rfl (by omega) ?_
                        refine wz_iconst (x := nI 2) (p9 := 267) rfl rfl (by decide) ?_
                        refine wn_icne (t9 := 356) (p9 := 270) rfl rfl rfl (by omega) (by omega) (fun h267 => ?_) (fun h267 => ?_)
                        · refine wz_iload_n (p9 := 357) rfl rfl rfl ?_
                          exact wz_reti rfl rfl kk2
                        · exact (n6 ⟨by omega, by omega, by rw [hdp] at h267; have := S.kd (C.dp - 1) (by omega); omega⟩).elim
            · refine wz_aload_n (p9 := 168) rfl rfl rfl ?_
              refine wz_get (v := .ref 33) (p9 := 171) rfl rfl rfl rfl rfl ?_
              refine wz_aload_n (p9 := 172) rfl rfl rfl ?_
              refine wz_get (v := .int (nI R.dp)) (p9 := 175) rfl rfl rfl rfl rfl ?_
              refine wz_iconst (x := nI 1) (p9 := 176) rfl rfl (by decide) ?_
              refine wn_sub (p9 := 177) rfl rfl (by omega) ?_
              have bki : R.ki (R.dp - 1) < 3 := by rw [hdp]; have := S.kd (C.dp - 1) (by omega); omega
              refine wl_Rki (f := R.ki) (p9 := 178) rfl rfl rfl (by omega) ?_
              refine wz_iconst (x := nI 1) (p9 := 179) rfl rfl (by decide) ?_
              refine wn_icne (t9 := 215) (p9 := 182) rfl rfl rfl (by omega) (by omega) (fun h179 => ?_) (fun h179 => ?_)
              · refine wz_iload_n (p9 := 216) rfl rfl rfl ?_
                refine wz_bipush (x := nI 41) (p9 := 218) rfl rfl (by decide) ?_
                refine wn_icne (t9 := 242) (p9 := 221) rfl rfl rfl (by omega) (by omega) (fun h218 => ?_) (fun h218 => ?_)
                · refine wz_iload_n (p9 := 243) rfl rfl rfl ?_
                  refine wz_bipush (x := nI 93) (p9 := 245) rfl rfl (by decide) ?_
                  refine wn_icne (t9 := 356) (p9 := 248) rfl rfl rfl (by omega) (by omega) (fun h245 => ?_) (fun h245 => ?_)
                  · refine wz_iload_n (p9 := 357) rfl rfl rfl ?_
                    exact wz_reti rfl rfl kk2
                  · refine wz_aload_n (p9 := 249) rfl rfl rfl ?_
                    refine wz_get (v := .int (nI R.dp)) (p9 := 252) rfl rfl rfl rfl rfl ?_
                    refine wn_ifle (t9 := 356) (p9 := 255) rfl rfl rfl (by omega) (fun h252 => ?_) (fun h252 => ?_)
                    · refine wz_iload_n (p9 := 357) rfl rfl rfl ?_
                      exact wz_reti rfl rfl kk2
                    · refine wz_aload_n (p9 := 256) rfl rfl rfl ?_
                      refine wz_get (v := .ref 33) (p9 := 259) rfl rfl rfl rfl rfl ?_
                      refine wz_aload_n (p9 := 260) rfl rfl rfl ?_
                      refine wz_get (v := .int (nI R.dp)) (p9 := 263) rfl rfl rfl rfl rfl ?_
                      refine wz_iconst (x := nI 1) (p9 := 264) rfl rfl (by decide) ?_
                      refine wn_sub (p9 := 265) rfl rfl (by omega) ?_
                      have bki : R.ki (R.dp - 1) < 3 := by rw [hdp]; have := S.kd (C.dp - 1) (by omega); omega
                      refine wl_Rki (f := R.ki) (p9 := 266) rfl rfl rfl (by omega) ?_
                      refine wz_iconst (x := nI 2) (p9 := 267) rfl rfl (by decide) ?_
                      refine wn_icne (t9 := 356) (p9 := 270) rfl rfl rfl (by omega) (by omega) (fun h267 => ?_) (fun h267 => ?_)
                      · refine wz_iload_n (p9 := 357) rfl rfl rfl ?_
                        exact wz_reti rfl rfl kk2
                      · exact (n6 ⟨by omega, by omega, by rw [hdp] at h267; have := S.kd (C.dp - 1) (by omega); omega⟩).elim
                · refine wz_aload_n (p9 := 222) rfl rfl rfl ?_
                  refine wz_get (v := .int (nI R.dp)) (p9 := 225) rfl rfl rfl rfl rfl ?_
                  refine wn_ifle (t9 := 242) (p9 := 228) rfl rfl rfl (by omega) (fun h225 => ?_) (fun h225 => ?_)
                  · refine wz_iload_n (p9 := 243) rfl rfl rfl ?_
                    refine wz_bipush (x := nI 93) (p9 := 245) rfl rfl (by decide) ?_
                    refine wn_icne (t9 := 356) (p9 := 248) rfl rfl rfl (by omega) (by omega) (fun h245 => ?_) (fun h245 => ?_)
                    · refine wz_iload_n (p9 := 357) rfl rfl rfl ?_
                      exact wz_reti rfl rfl kk2
                    · refine wz_aload_n (p9 := 249) rfl rfl rfl ?_
                      refine wz_get (v := .int (nI R.dp)) (p9 := 252) rfl rfl rfl rfl rfl ?_
                      refine wn_ifle (t9 := 356) (p9 := 255) rfl rfl rfl (by omega) (fun h252 => ?_) (fun h252 => ?_)
                      · refine wz_iload_n (p9 := 357) rfl rfl rfl ?_
                        exact wz_reti rfl rfl kk2
                      · refine wz_aload_n (p9 := 256) rfl rfl rfl ?_
                        refine wz_get (v := .ref 33) (p9 := 259) rfl rfl rfl rfl rfl ?_
                        refine wz_aload_n (p9 := 260) rfl rfl rfl ?_
                        refine wz_get (v := .int (nI R.dp)) (p9 := 263) rfl rfl rfl rfl rfl ?_
                        refine wz_iconst (x := nI 1) (p9 := 264) rfl rfl (by decide) ?_
                        refine wn_sub (p9 := 265) rfl rfl (by omega) ?_
                        have bki : R.ki (R.dp - 1) < 3 := by rw [hdp]; have := S.kd (C.dp - 1) (by omega); omega
                        refine wl_Rki (f := R.ki) (p9 := 266) rfl rfl rfl (by omega) ?_
                        refine wz_iconst (x := nI 2) (p9 := 267) rfl rfl (by decide) ?_
                        refine wn_icne (t9 := 356) (p9 := 270) rfl rfl rfl (by omega) (by omega) (fun h267 => ?_) (fun h267 => ?_)
                        · refine wz_iload_n (p9 := 357) rfl rfl rfl ?_
                          exact wz_reti rfl rfl kk2
                        · exact (n6 ⟨by omega, by omega, by rw [hdp] at h267; have := S.kd (C.dp - 1) (by omega); omega⟩).elim
                  · refine wz_aload_n (p9 := 229) rfl rfl rfl ?_
                    refine wz_get (v := .ref 33) (p9 := 232) rfl rfl rfl rfl rfl ?_
                    refine wz_aload_n (p9 := 233) rfl rfl rfl ?_
                    refine wz_get (v := .int (nI R.dp)) (p9 := 236) rfl rfl rfl rfl rfl ?_
                    refine wz_iconst (x := nI 1) (p9 := 237) rfl rfl (by decide) ?_
                    refine wn_sub (p9 := 238) rfl rfl (by omega) ?_
                    have bki : R.ki (R.dp - 1) < 3 := by rw [hdp]; have := S.kd (C.dp - 1) (by omega); omega
                    refine wl_Rki (f := R.ki) (p9 := 239) rfl rfl rfl (by omega) ?_
                    refine wn_ifeq (t9 := 270) (p9 := 242) rfl rfl rfl (by omega) (fun h239 => ?_) (fun h239 => ?_)
                    · exact (n5 ⟨by omega, by omega, by rw [hdp] at h239; have := S.kd (C.dp - 1) (by omega); omega⟩).elim
                    · refine wz_iload_n (p9 := 243) rfl rfl rfl ?_
                      refine wz_bipush (x := nI 93) (p9 := 245) rfl rfl (by decide) ?_
                      refine wn_icne (t9 := 356) (p9 := 248) rfl rfl rfl (by omega) (by omega) (fun h245 => ?_) (fun h245 => ?_)
                      · refine wz_iload_n (p9 := 357) rfl rfl rfl ?_
                        exact wz_reti rfl rfl kk2
                      · refine wz_aload_n (p9 := 249) rfl rfl rfl ?_
                        refine wz_get (v := .int (nI R.dp)) (p9 := 252) rfl rfl rfl rfl rfl ?_
                        refine wn_ifle (t9 := 356) (p9 := 255) rfl rfl rfl (by omega) (fun h252 => ?_) (fun h252 => ?_)
                        · refine wz_iload_n (p9 := 357) rfl rfl rfl ?_
                          exact wz_reti rfl rfl kk2
                        · refine wz_aload_n (p9 := 256) rfl rfl rfl ?_
                          refine wz_get (v := .ref 33) (p9 := 259) rfl rfl rfl rfl rfl ?_
                          refine wz_aload_n (p9 := 260) rfl rfl rfl ?_
                          refine wz_get (v := .int (nI R.dp)) (p9 := 263) rfl rfl rfl rfl rfl ?_
                          refine wz_iconst (x := nI 1) (p9 := 264) rfl rfl (by decide) ?_
                          refine wn_sub (p9 := 265) rfl rfl (by omega) ?_
                          have bki : R.ki (R.dp - 1) < 3 := by rw [hdp]; have := S.kd (C.dp - 1) (by omega); omega
                          refine wl_Rki (f := R.ki) (p9 := 266) rfl rfl rfl (by omega) ?_
                          refine wz_iconst (x := nI 2) (p9 := 267) rfl rfl (by decide) ?_
                          refine wn_icne (t9 := 356) (p9 := 270) rfl rfl rfl (by omega) (by omega) (fun h267 => ?_) (fun h267 => ?_)
                          · refine wz_iload_n (p9 := 357) rfl rfl rfl ?_
                            exact wz_reti rfl rfl kk2
                          · exact (n6 ⟨by omega, by omega, by rw [hdp] at h267; have := S.kd (C.dp - 1) (by omega); omega⟩).elim
              · exact (n4 ⟨by omega, by omega, by rw [hdp] at h179; have := S.kd (C.dp - 1) (by omega); omega⟩).elim
        · exact (n2 ⟨by omega, by omega⟩).elim
      · refine wz_iload_n (p9 := 91) rfl rfl rfl ?_
        refine wz_bipush (x := nI 91) (p9 := 93) rfl rfl (by decide) ?_
        refine wn_icne (t9 := 154) (p9 := 96) rfl rfl rfl (by omega) (by omega) (fun h93 => ?_) (fun h93 => ?_)
        · refine wz_iload_n (p9 := 155) rfl rfl rfl ?_
          refine wz_bipush (x := nI 44) (p9 := 157) rfl rfl (by decide) ?_
          refine wn_icne (t9 := 215) (p9 := 160) rfl rfl rfl (by omega) (by omega) (fun h157 => ?_) (fun h157 => ?_)
          · refine wz_iload_n (p9 := 216) rfl rfl rfl ?_
            refine wz_bipush (x := nI 41) (p9 := 218) rfl rfl (by decide) ?_
            refine wn_icne (t9 := 242) (p9 := 221) rfl rfl rfl (by omega) (by omega) (fun h218 => ?_) (fun h218 => ?_)
            · refine wz_iload_n (p9 := 243) rfl rfl rfl ?_
              refine wz_bipush (x := nI 93) (p9 := 245) rfl rfl (by decide) ?_
              refine wn_icne (t9 := 356) (p9 := 248) rfl rfl rfl (by omega) (by omega) (fun h245 => ?_) (fun h245 => ?_)
              · refine wz_iload_n (p9 := 357) rfl rfl rfl ?_
                exact wz_reti rfl rfl kk2
              · refine wz_aload_n (p9 := 249) rfl rfl rfl ?_
                refine wz_get (v := .int (nI R.dp)) (p9 := 252) rfl rfl rfl rfl rfl ?_
                refine wn_ifle (t9 := 356) (p9 := 255) rfl rfl rfl (by omega) (fun h252 => ?_) (fun h252 => ?_)
                · refine wz_iload_n (p9 := 357) rfl rfl rfl ?_
                  exact wz_reti rfl rfl kk2
                · refine wz_aload_n (p9 := 256) rfl rfl rfl ?_
                  refine wz_get (v := .ref 33) (p9 := 259) rfl rfl rfl rfl rfl ?_
                  refine wz_aload_n (p9 := 260) rfl rfl rfl ?_
                  refine wz_get (v := .int (nI R.dp)) (p9 := 263) rfl rfl rfl rfl rfl ?_
                  refine wz_iconst (x := nI 1) (p9 := 264) rfl rfl (by decide) ?_
                  refine wn_sub (p9 := 265) rfl rfl (by omega) ?_
                  have bki : R.ki (R.dp - 1) < 3 := by rw [hdp]; have := S.kd (C.dp - 1) (by omega); omega
                  refine wl_Rki (f := R.ki) (p9 := 266) rfl rfl rfl (by omega) ?_
                  refine wz_iconst (x := nI 2) (p9 := 267) rfl rfl (by decide) ?_
                  refine wn_icne (t9 := 356) (p9 := 270) rfl rfl rfl (by omega) (by omega) (fun h267 => ?_) (fun h267 => ?_)
                  · refine wz_iload_n (p9 := 357) rfl rfl rfl ?_
                    exact wz_reti rfl rfl kk2
                  · exact (n6 ⟨by omega, by omega, by rw [hdp] at h267; have := S.kd (C.dp - 1) (by omega); omega⟩).elim
            · refine wz_aload_n (p9 := 222) rfl rfl rfl ?_
              refine wz_get (v := .int (nI R.dp)) (p9 := 225) rfl rfl rfl rfl rfl ?_
              refine wn_ifle (t9 := 242) (p9 := 228) rfl rfl rfl (by omega) (fun h225 => ?_) (fun h225 => ?_)
              · refine wz_iload_n (p9 := 243) rfl rfl rfl ?_
                refine wz_bipush (x := nI 93) (p9 := 245) rfl rfl (by decide) ?_
                refine wn_icne (t9 := 356) (p9 := 248) rfl rfl rfl (by omega) (by omega) (fun h245 => ?_) (fun h245 => ?_)
                · refine wz_iload_n (p9 := 357) rfl rfl rfl ?_
                  exact wz_reti rfl rfl kk2
                · refine wz_aload_n (p9 := 249) rfl rfl rfl ?_
                  refine wz_get (v := .int (nI R.dp)) (p9 := 252) rfl rfl rfl rfl rfl ?_
                  refine wn_ifle (t9 := 356) (p9 := 255) rfl rfl rfl (by omega) (fun h252 => ?_) (fun h252 => ?_)
                  · refine wz_iload_n (p9 := 357) rfl rfl rfl ?_
                    exact wz_reti rfl rfl kk2
                  · refine wz_aload_n (p9 := 256) rfl rfl rfl ?_
                    refine wz_get (v := .ref 33) (p9 := 259) rfl rfl rfl rfl rfl ?_
                    refine wz_aload_n (p9 := 260) rfl rfl rfl ?_
                    refine wz_get (v := .int (nI R.dp)) (p9 := 263) rfl rfl rfl rfl rfl ?_
                    refine wz_iconst (x := nI 1) (p9 := 264) rfl rfl (by decide) ?_
                    refine wn_sub (p9 := 265) rfl rfl (by omega) ?_
                    have bki : R.ki (R.dp - 1) < 3 := by rw [hdp]; have := S.kd (C.dp - 1) (by omega); omega
                    refine wl_Rki (f := R.ki) (p9 := 266) rfl rfl rfl (by omega) ?_
                    refine wz_iconst (x := nI 2) (p9 := 267) rfl rfl (by decide) ?_
                    refine wn_icne (t9 := 356) (p9 := 270) rfl rfl rfl (by omega) (by omega) (fun h267 => ?_) (fun h267 => ?_)
                    · refine wz_iload_n (p9 := 357) rfl rfl rfl ?_
                      exact wz_reti rfl rfl kk2
                    · exact (n6 ⟨by omega, by omega, by rw [hdp] at h267; have := S.kd (C.dp - 1) (by omega); omega⟩).elim
              · refine wz_aload_n (p9 := 229) rfl rfl rfl ?_
                refine wz_get (v := .ref 33) (p9 := 232) rfl rfl rfl rfl rfl ?_
                refine wz_aload_n (p9 := 233) rfl rfl rfl ?_
                refine wz_get (v := .int (nI R.dp)) (p9 := 236) rfl rfl rfl rfl rfl ?_
                refine wz_iconst (x := nI 1) (p9 := 237) rfl rfl (by decide) ?_
                refine wn_sub (p9 := 238) rfl rfl (by omega) ?_
                have bki : R.ki (R.dp - 1) < 3 := by rw [hdp]; have := S.kd (C.dp - 1) (by omega); omega
                refine wl_Rki (f := R.ki) (p9 := 239) rfl rfl rfl (by omega) ?_
                refine wn_ifeq (t9 := 270) (p9 := 242) rfl rfl rfl (by omega) (fun h239 => ?_) (fun h239 => ?_)
                · exact (n5 ⟨by omega, by omega, by rw [hdp] at h239; have := S.kd (C.dp - 1) (by omega); omega⟩).elim
                · refine wz_iload_n (p9 := 243) rfl rfl rfl ?_
                  refine wz_bipush (x := nI 93) (p9 := 245) rfl rfl (by decide) ?_
                  refine wn_icne (t9 := 356) (p9 := 248) rfl rfl rfl (by omega) (by omega) (fun h245 => ?_) (fun h245 => ?_)
                  · refine wz_iload_n (p9 := 357) rfl rfl rfl ?_
                    exact wz_reti rfl rfl kk2
                  · refine wz_aload_n (p9 := 249) rfl rfl rfl ?_
                    refine wz_get (v := .int (nI R.dp)) (p9 := 252) rfl rfl rfl rfl rfl ?_
                    refine wn_ifle (t9 := 356) (p9 := 255) rfl rfl rfl (by omega) (fun h252 => ?_) (fun h252 => ?_)
                    · refine wz_iload_n (p9 := 357) rfl rfl rfl ?_
                      exact wz_reti rfl rfl kk2
                    · refine wz_aload_n (p9 := 256) rfl rfl rfl ?_
                      refine wz_get (v := .ref 33) (p9 := 259) rfl rfl rfl rfl rfl ?_
                      refine wz_aload_n (p9 := 260) rfl rfl rfl ?_
                      refine wz_get (v := .int (nI R.dp)) (p9 := 263) rfl rfl rfl rfl rfl ?_
                      refine wz_iconst (x := nI 1) (p9 := 264) rfl rfl (by decide) ?_
                      refine wn_sub (p9 := 265) rfl rfl (by omega) ?_
                      have bki : R.ki (R.dp - 1) < 3 := by rw [hdp]; have := S.kd (C.dp - 1) (by omega); omega
                      refine wl_Rki (f := R.ki) (p9 := 266) rfl rfl rfl (by omega) ?_
                      refine wz_iconst (x := nI 2) (p9 := 267) rfl rfl (by decide) ?_
                      refine wn_icne (t9 := 356) (p9 := 270) rfl rfl rfl (by omega) (by omega) (fun h267 => ?_) (fun h267 => ?_)
                      · refine wz_iload_n (p9 := 357) rfl rfl rfl ?_
                        exact wz_reti rfl rfl kk2
                      · exact (n6 ⟨by omega, by omega, by rw [hdp] at h267; have := S.kd (C.dp - 1) (by omega); omega⟩).elim
          · refine wz_aload_n (p9 := 161) rfl rfl rfl ?_
            refine wz_get (v := .int (nI R.dp)) (p9 := 164) rfl rfl rfl rfl rfl ?_
            refine wn_ifle (t9 := 215) (p9 := 167) rfl rfl rfl (by omega) (fun h164 => ?_) (fun h164 => ?_)
            · refine wz_iload_n (p9 := 216) rfl rfl rfl ?_
              refine wz_bipush (x := nI 41) (p9 := 218) rfl rfl (by decide) ?_
              refine wn_icne (t9 := 242) (p9 := 221) rfl rfl rfl (by omega) (by omega) (fun h218 => ?_) (fun h218 => ?_)
              · refine wz_iload_n (p9 := 243) rfl rfl rfl ?_
                refine wz_bipush (x := nI 93) (p9 := 245) rfl rfl (by decide) ?_
                refine wn_icne (t9 := 356) (p9 := 248) rfl rfl rfl (by omega) (by omega) (fun h245 => ?_) (fun h245 => ?_)
                · refine wz_iload_n (p9 := 357) rfl rfl rfl ?_
                  exact wz_reti rfl rfl kk2
                · refine wz_aload_n (p9 := 249) rfl rfl rfl ?_
                  refine wz_get (v := .int (nI R.dp)) (p9 := 252) rfl rfl rfl rfl rfl ?_
                  refine wn_ifle (t9 := 356) (p9 := 255) rfl rfl rfl (by omega) (fun h252 => ?_) (fun h252 => ?_)
                  · refine wz_iload_n (p9 := 357) rfl rfl rfl ?_
                    exact wz_reti rfl rfl kk2
                  · refine wz_aload_n (p9 := 256) rfl rfl rfl ?_
                    refine wz_get (v := .ref 33) (p9 := 259) rfl rfl rfl rfl rfl ?_
                    refine wz_aload_n (p9 := 260) rfl rfl rfl ?_
                    refine wz_get (v := .int (nI R.dp)) (p9 := 263) rfl rfl rfl rfl rfl ?_
                    refine wz_iconst (x := nI 1) (p9 := 264) rfl rfl (by decide) ?_
                    refine wn_sub (p9 := 265) rfl rfl (by omega) ?_
                    have bki : R.ki (R.dp - 1) < 3 := by rw [hdp]; have := S.kd (C.dp - 1) (by omega); omega
                    refine wl_Rki (f := R.ki) (p9 := 266) rfl rfl rfl (by omega) ?_
                    refine wz_iconst (x := nI 2) (p9 := 267) rfl rfl (by decide) ?_
                    refine wn_icne (t9 := 356) (p9 := 270) rfl rfl rfl (by omega) (by omega) (fun h267 => ?_) (fun h267 => ?_)
                    · refine wz_iload_n (p9 := 357) rfl rfl rfl ?_
                      exact wz_reti rfl rfl kk2
                    · exact (n6 ⟨by omega, by omega, by rw [hdp] at h267; have := S.kd (C.dp - 1) (by omega); omega⟩).elim
              · refine wz_aload_n (p9 := 222) rfl rfl rfl ?_
                refine wz_get (v := .int (nI R.dp)) (p9 := 225) rfl rfl rfl rfl rfl ?_
                refine wn_ifle (t9 := 242) (p9 := 228) rfl rfl rfl (by omega) (fun h225 => ?_) (fun h225 => ?_)
                · refine wz_iload_n (p9 := 243) rfl rfl rfl ?_
                  refine wz_bipush (x := nI 93) (p9 := 245) rfl rfl (by decide) ?_
                  refine wn_icne (t9 := 356) (p9 := 248) rfl rfl rfl (by omega) (by omega) (fun h245 => ?_) (fun h245 => ?_)
                  · refine wz_iload_n (p9 := 357) rfl rfl rfl ?_
                    exact wz_reti rfl rfl kk2
                  · refine wz_aload_n (p9 := 249) rfl rfl rfl ?_
                    refine wz_get (v := .int (nI R.dp)) (p9 := 252) rfl rfl rfl rfl rfl ?_
                    refine wn_ifle (t9 := 356) (p9 := 255) rfl rfl rfl (by omega) (fun h252 => ?_) (fun h252 => ?_)
                    · refine wz_iload_n (p9 := 357) rfl rfl rfl ?_
                      exact wz_reti rfl rfl kk2
                    · refine wz_aload_n (p9 := 256) rfl rfl rfl ?_
                      refine wz_get (v := .ref 33) (p9 := 259) rfl rfl rfl rfl rfl ?_
                      refine wz_aload_n (p9 := 260) rfl rfl rfl ?_
                      refine wz_get (v := .int (nI R.dp)) (p9 := 263) rfl rfl rfl rfl rfl ?_
                      refine wz_iconst (x := nI 1) (p9 := 264) rfl rfl (by decide) ?_
                      refine wn_sub (p9 := 265) rfl rfl (by omega) ?_
                      have bki : R.ki (R.dp - 1) < 3 := by rw [hdp]; have := S.kd (C.dp - 1) (by omega); omega
                      refine wl_Rki (f := R.ki) (p9 := 266) rfl rfl rfl (by omega) ?_
                      refine wz_iconst (x := nI 2) (p9 := 267) rfl rfl (by decide) ?_
                      refine wn_icne (t9 := 356) (p9 := 270) rfl rfl rfl (by omega) (by omega) (fun h267 => ?_) (fun h267 => ?_)
                      · refine wz_iload_n (p9 := 357) rfl rfl rfl ?_
                        exact wz_reti rfl rfl kk2
                      · exact (n6 ⟨by omega, by omega, by rw [hdp] at h267; have := S.kd (C.dp - 1) (by omega); omega⟩).elim
                · refine wz_aload_n (p9 := 229) rfl rfl rfl ?_
                  refine wz_get (v := .ref 33) (p9 := 232) rfl rfl rfl rfl rfl ?_
                  refine wz_aload_n (p9 := 233) rfl rfl rfl ?_
                  refine wz_get (v := .int (nI R.dp)) (p9 := 236) rfl rfl rfl rfl rfl ?_
                  refine wz_iconst (x := nI 1) (p9 := 237) rfl rfl (by decide) ?_
                  refine wn_sub (p9 := 238) rfl rfl (by omega) ?_
                  have bki : R.ki (R.dp - 1) < 3 := by rw [hdp]; have := S.kd (C.dp - 1) (by omega); omega
                  refine wl_Rki (f := R.ki) (p9 := 239) rfl rfl rfl (by omega) ?_
                  refine wn_ifeq (t9 := 270) (p9 := 242) rfl rfl rfl (by omega) (fun h239 => ?_) (fun h239 => ?_)
                  · exact (n5 ⟨by omega, by omega, by rw [hdp] at h239; have := S.kd (C.dp - 1) (by omega); omega⟩).elim
                  · refine wz_iload_n (p9 := 243) rfl rfl rfl ?_
                    refine wz_bipush (x := nI 93) (p9 := 245) rfl rfl (by decide) ?_
                    refine wn_icne (t9 := 356) (p9 := 248) rfl rfl rfl (by omega) (by omega) (fun h245 => ?_) (fun h245 => ?_)
                    · refine wz_iload_n (p9 := 357) rfl rfl rfl ?_
                      exact wz_reti rfl rfl kk2
                    · refine wz_aload_n (p9 := 249) rfl rfl rfl ?_
                      refine wz_get (v := .int (nI R.dp)) (p9 := 252) rfl rfl rfl rfl rfl ?_
                      refine wn_ifle (t9 := 356) (p9 := 255) rfl rfl rfl (by omega) (fun h252 => ?_) (fun h252 => ?_)
                      · refine wz_iload_n (p9 := 357) rfl rfl rfl ?_
                        exact wz_reti rfl rfl kk2
                      · refine wz_aload_n (p9 := 256) rfl rfl rfl ?_
                        refine wz_get (v := .ref 33) (p9 := 259) rfl rfl rfl rfl rfl ?_
                        refine wz_aload_n (p9 := 260) rfl rfl rfl ?_
                        refine wz_get (v := .int (nI R.dp)) (p9 := 263) rfl rfl rfl rfl rfl ?_
                        refine wz_iconst (x := nI 1) (p9 := 264) rfl rfl (by decide) ?_
                        refine wn_sub (p9 := 265) rfl rfl (by omega) ?_
                        have bki : R.ki (R.dp - 1) < 3 := by rw [hdp]; have := S.kd (C.dp - 1) (by omega); omega
                        refine wl_Rki (f := R.ki) (p9 := 266) rfl rfl rfl (by omega) ?_
                        refine wz_iconst (x := nI 2) (p9 := 267) rfl rfl (by decide) ?_
                        refine wn_icne (t9 := 356) (p9 := 270) rfl rfl rfl (by omega) (by omega) (fun h267 => ?_) (fun h267 => ?_)
                        · refine wz_iload_n (p9 := 357) rfl rfl rfl ?_
                          exact wz_reti rfl rfl kk2
                        · exact (n6 ⟨by omega, by omega, by rw [hdp] at h267; have := S.kd (C.dp - 1) (by omega); omega⟩).elim
            · refine wz_aload_n (p9 := 168) rfl rfl rfl ?_
              refine wz_get (v := .ref 33) (p9 := 171) rfl rfl rfl rfl rfl ?_
              refine wz_aload_n (p9 := 172) rfl rfl rfl ?_
              refine wz_get (v := .int (nI R.dp)) (p9 := 175) rfl rfl rfl rfl rfl ?_
              refine wz_iconst (x := nI 1) (p9 := 176) rfl rfl (by decide) ?_
              refine wn_sub (p9 := 177) rfl rfl (by omega) ?_
              have bki : R.ki (R.dp - 1) < 3 := by rw [hdp]; have := S.kd (C.dp - 1) (by omega); omega
              refine wl_Rki (f := R.ki) (p9 := 178) rfl rfl rfl (by omega) ?_
              refine wz_iconst (x := nI 1) (p9 := 179) rfl rfl (by decide) ?_
              refine wn_icne (t9 := 215) (p9 := 182) rfl rfl rfl (by omega) (by omega) (fun h179 => ?_) (fun h179 => ?_)
              · refine wz_iload_n (p9 := 216) rfl rfl rfl ?_
                refine wz_bipush (x := nI 41) (p9 := 218) rfl rfl (by decide) ?_
                refine wn_icne (t9 := 242) (p9 := 221) rfl rfl rfl (by omega) (by omega) (fun h218 => ?_) (fun h218 => ?_)
                · refine wz_iload_n (p9 := 243) rfl rfl rfl ?_
                  refine wz_bipush (x := nI 93) (p9 := 245) rfl rfl (by decide) ?_
                  refine wn_icne (t9 := 356) (p9 := 248) rfl rfl rfl (by omega) (by omega) (fun h245 => ?_) (fun h245 => ?_)
                  · refine wz_iload_n (p9 := 357) rfl rfl rfl ?_
                    exact wz_reti rfl rfl kk2
                  · refine wz_aload_n (p9 := 249) rfl rfl rfl ?_
                    refine wz_get (v := .int (nI R.dp)) (p9 := 252) rfl rfl rfl rfl rfl ?_
                    refine wn_ifle (t9 := 356) (p9 := 255) rfl rfl rfl (by omega) (fun h252 => ?_) (fun h252 => ?_)
                    · refine wz_iload_n (p9 := 357) rfl rfl rfl ?_
                      exact wz_reti rfl rfl kk2
                    · refine wz_aload_n (p9 := 256) rfl rfl rfl ?_
                      refine wz_get (v := .ref 33) (p9 := 259) rfl rfl rfl rfl rfl ?_
                      refine wz_aload_n (p9 := 260) rfl rfl rfl ?_
                      refine wz_get (v := .int (nI R.dp)) (p9 := 263) rfl rfl rfl rfl rfl ?_
                      refine wz_iconst (x := nI 1) (p9 := 264) rfl rfl (by decide) ?_
                      refine wn_sub (p9 := 265) rfl rfl (by omega) ?_
                      have bki : R.ki (R.dp - 1) < 3 := by rw [hdp]; have := S.kd (C.dp - 1) (by omega); omega
                      refine wl_Rki (f := R.ki) (p9 := 266) rfl rfl rfl (by omega) ?_
                      refine wz_iconst (x := nI 2) (p9 := 267) rfl rfl (by decide) ?_
                      refine wn_icne (t9 := 356) (p9 := 270) rfl rfl rfl (by omega) (by omega) (fun h267 => ?_) (fun h267 => ?_)
                      · refine wz_iload_n (p9 := 357) rfl rfl rfl ?_
                        exact wz_reti rfl rfl kk2
                      · exact (n6 ⟨by omega, by omega, by rw [hdp] at h267; have := S.kd (C.dp - 1) (by omega); omega⟩).elim
                · refine wz_aload_n (p9 := 222) rfl rfl rfl ?_
                  refine wz_get (v := .int (nI R.dp)) (p9 := 225) rfl rfl rfl rfl rfl ?_
                  refine wn_ifle (t9 := 242) (p9 := 228) rfl rfl rfl (by omega) (fun h225 => ?_) (fun h225 => ?_)
                  · refine wz_iload_n (p9 := 243) rfl rfl rfl ?_
                    refine wz_bipush (x := nI 93) (p9 := 245) rfl rfl (by decide) ?_
                    refine wn_icne (t9 := 356) (p9 := 248) rfl rfl rfl (by omega) (by omega) (fun h245 => ?_) (fun h245 => ?_)
                    · refine wz_iload_n (p9 := 357) rfl rfl rfl ?_
                      exact wz_reti rfl rfl kk2
                    · refine wz_aload_n (p9 := 249) rfl rfl rfl ?_
                      refine wz_get (v := .int (nI R.dp)) (p9 := 252) rfl rfl rfl rfl rfl ?_
                      refine wn_ifle (t9 := 356) (p9 := 255) rfl rfl rfl (by omega) (fun h252 => ?_) (fun h252 => ?_)
                      · refine wz_iload_n (p9 := 357) rfl rfl rfl ?_
                        exact wz_reti rfl rfl kk2
                      · refine wz_aload_n (p9 := 256) rfl rfl rfl ?_
                        refine wz_get (v := .ref 33) (p9 := 259) rfl rfl rfl rfl rfl ?_
                        refine wz_aload_n (p9 := 260) rfl rfl rfl ?_
                        refine wz_get (v := .int (nI R.dp)) (p9 := 263) rfl rfl rfl rfl rfl ?_
                        refine wz_iconst (x := nI 1) (p9 := 264) rfl rfl (by decide) ?_
                        refine wn_sub (p9 := 265) rfl rfl (by omega) ?_
                        have bki : R.ki (R.dp - 1) < 3 := by rw [hdp]; have := S.kd (C.dp - 1) (by omega); omega
                        refine wl_Rki (f := R.ki) (p9 := 266) rfl rfl rfl (by omega) ?_
                        refine wz_iconst (x := nI 2) (p9 := 267) rfl rfl (by decide) ?_
                        refine wn_icne (t9 := 356) (p9 := 270) rfl rfl rfl (by omega) (by omega) (fun h267 => ?_) (fun h267 => ?_)
                        · refine wz_iload_n (p9 := 357) rfl rfl rfl ?_
                          exact wz_reti rfl rfl kk2
                        · exact (n6 ⟨by omega, by omega, by rw [hdp] at h267; have := S.kd (C.dp - 1) (by omega); omega⟩).elim
                  · refine wz_aload_n (p9 := 229) rfl rfl rfl ?_
                    refine wz_get (v := .ref 33) (p9 := 232) rfl rfl rfl rfl rfl ?_
                    refine wz_aload_n (p9 := 233) rfl rfl rfl ?_
                    refine wz_get (v := .int (nI R.dp)) (p9 := 236) rfl rfl rfl rfl rfl ?_
                    refine wz_iconst (x := nI 1) (p9 := 237) rfl rfl (by decide) ?_
                    refine wn_sub (p9 := 238) rfl rfl (by omega) ?_
                    have bki : R.ki (R.dp - 1) < 3 := by rw [hdp]; have := S.kd (C.dp - 1) (by omega); omega
                    refine wl_Rki (f := R.ki) (p9 := 239) rfl rfl rfl (by omega) ?_
                    refine wn_ifeq (t9 := 270) (p9 := 242) rfl rfl rfl (by omega) (fun h239 => ?_) (fun h239 => ?_)
                    · exact (n5 ⟨by omega, by omega, by rw [hdp] at h239; have := S.kd (C.dp - 1) (by omega); omega⟩).elim
                    · refine wz_iload_n (p9 := 243) rfl rfl rfl ?_
                      refine wz_bipush (x := nI 93) (p9 := 245) rfl rfl (by decide) ?_
                      refine wn_icne (t9 := 356) (p9 := 248) rfl rfl rfl (by omega) (by omega) (fun h245 => ?_) (fun h245 => ?_)
                      · refine wz_iload_n (p9 := 357) rfl rfl rfl ?_
                        exact wz_reti rfl rfl kk2
                      · refine wz_aload_n (p9 := 249) rfl rfl rfl ?_
                        refine wz_get (v := .int (nI R.dp)) (p9 := 252) rfl rfl rfl rfl rfl ?_
                        refine wn_ifle (t9 := 356) (p9 := 255) rfl rfl rfl (by omega) (fun h252 => ?_) (fun h252 => ?_)
                        · refine wz_iload_n (p9 := 357) rfl rfl rfl ?_
                          exact wz_reti rfl rfl kk2
                        · refine wz_aload_n (p9 := 256) rfl rfl rfl ?_
                          refine wz_get (v := .ref 33) (p9 := 259) rfl rfl rfl rfl rfl ?_
                          refine wz_aload_n (p9 := 260) rfl rfl rfl ?_
                          refine wz_get (v := .int (nI R.dp)) (p9 := 263) rfl rfl rfl rfl rfl ?_
                          refine wz_iconst (x := nI 1) (p9 := 264) rfl rfl (by decide) ?_
                          refine wn_sub (p9 := 265) rfl rfl (by omega) ?_
                          have bki : R.ki (R.dp - 1) < 3 := by rw [hdp]; have := S.kd (C.dp - 1) (by omega); omega
                          refine wl_Rki (f := R.ki) (p9 := 266) rfl rfl rfl (by omega) ?_
                          refine wz_iconst (x := nI 2) (p9 := 267) rfl rfl (by decide) ?_
                          refine wn_icne (t9 := 356) (p9 := 270) rfl rfl rfl (by omega) (by omega) (fun h267 => ?_) (fun h267 => ?_)
                          · refine wz_iload_n (p9 := 357) rfl rfl rfl ?_
                            exact wz_reti rfl rfl kk2
                          · exact (n6 ⟨by omega, by omega, by rw [hdp] at h267; have := S.kd (C.dp - 1) (by omega); omega⟩).elim
              · exact (n4 ⟨by omega, by omega, by rw [hdp] at h179; have := S.kd (C.dp - 1) (by omega); omega⟩).elim
        · refine wz_aload_n (p9 := 97) rfl rfl rfl ?_
          refine wz_get (v := .int (nI R.dp)) (p9 := 100) rfl rfl rfl rfl rfl ?_
          refine wz_bipush (x := nI 8) (p9 := 102) rfl rfl (by decide) ?_
          refine wn_icge (t9 := 154) (p9 := 105) rfl rfl rfl (by omega) (by omega) (fun h102 => ?_) (fun h102 => ?_)
          · refine wz_iload_n (p9 := 155) rfl rfl rfl ?_
            refine wz_bipush (x := nI 44) (p9 := 157) rfl rfl (by decide) ?_
            refine wn_icne (t9 := 215) (p9 := 160) rfl rfl rfl (by omega) (by omega) (fun h157 => ?_) (fun h157 => ?_)
            · refine wz_iload_n (p9 := 216) rfl rfl rfl ?_
              refine wz_bipush (x := nI 41) (p9 := 218) rfl rfl (by decide) ?_
              refine wn_icne (t9 := 242) (p9 := 221) rfl rfl rfl (by omega) (by omega) (fun h218 => ?_) (fun h218 => ?_)
              · refine wz_iload_n (p9 := 243) rfl rfl rfl ?_
                refine wz_bipush (x := nI 93) (p9 := 245) rfl rfl (by decide) ?_
                refine wn_icne (t9 := 356) (p9 := 248) rfl rfl rfl (by omega) (by omega) (fun h245 => ?_) (fun h245 => ?_)
                · refine wz_iload_n (p9 := 357) rfl rfl rfl ?_
                  exact wz_reti rfl rfl kk2
                · refine wz_aload_n (p9 := 249) rfl rfl rfl ?_
                  refine wz_get (v := .int (nI R.dp)) (p9 := 252) rfl rfl rfl rfl rfl ?_
                  refine wn_ifle (t9 := 356) (p9 := 255) rfl rfl rfl (by omega) (fun h252 => ?_) (fun h252 => ?_)
                  · refine wz_iload_n (p9 := 357) rfl rfl rfl ?_
                    exact wz_reti rfl rfl kk2
                  · refine wz_aload_n (p9 := 256) rfl rfl rfl ?_
                    refine wz_get (v := .ref 33) (p9 := 259) rfl rfl rfl rfl rfl ?_
                    refine wz_aload_n (p9 := 260) rfl rfl rfl ?_
                    refine wz_get (v := .int (nI R.dp)) (p9 := 263) rfl rfl rfl rfl rfl ?_
                    refine wz_iconst (x := nI 1) (p9 := 264) rfl rfl (by decide) ?_
                    refine wn_sub (p9 := 265) rfl rfl (by omega) ?_
                    have bki : R.ki (R.dp - 1) < 3 := by rw [hdp]; have := S.kd (C.dp - 1) (by omega); omega
                    refine wl_Rki (f := R.ki) (p9 := 266) rfl rfl rfl (by omega) ?_
                    refine wz_iconst (x := nI 2) (p9 := 267) rfl rfl (by decide) ?_
                    refine wn_icne (t9 := 356) (p9 := 270) rfl rfl rfl (by omega) (by omega) (fun h267 => ?_) (fun h267 => ?_)
                    · refine wz_iload_n (p9 := 357) rfl rfl rfl ?_
                      exact wz_reti rfl rfl kk2
                    · exact (n6 ⟨by omega, by omega, by rw [hdp] at h267; have := S.kd (C.dp - 1) (by omega); omega⟩).elim
              · refine wz_aload_n (p9 := 222) rfl rfl rfl ?_
                refine wz_get (v := .int (nI R.dp)) (p9 := 225) rfl rfl rfl rfl rfl ?_
                refine wn_ifle (t9 := 242) (p9 := 228) rfl rfl rfl (by omega) (fun h225 => ?_) (fun h225 => ?_)
                · refine wz_iload_n (p9 := 243) rfl rfl rfl ?_
                  refine wz_bipush (x := nI 93) (p9 := 245) rfl rfl (by decide) ?_
                  refine wn_icne (t9 := 356) (p9 := 248) rfl rfl rfl (by omega) (by omega) (fun h245 => ?_) (fun h245 => ?_)
                  · refine wz_iload_n (p9 := 357) rfl rfl rfl ?_
                    exact wz_reti rfl rfl kk2
                  · refine wz_aload_n (p9 := 249) rfl rfl rfl ?_
                    refine wz_get (v := .int (nI R.dp)) (p9 := 252) rfl rfl rfl rfl rfl ?_
                    refine wn_ifle (t9 := 356) (p9 := 255) rfl rfl rfl (by omega) (fun h252 => ?_) (fun h252 => ?_)
                    · refine wz_iload_n (p9 := 357) rfl rfl rfl ?_
                      exact wz_reti rfl rfl kk2
                    · refine wz_aload_n (p9 := 256) rfl rfl rfl ?_
                      refine wz_get (v := .ref 33) (p9 := 259) rfl rfl rfl rfl rfl ?_
                      refine wz_aload_n (p9 := 260) rfl rfl rfl ?_
                      refine wz_get (v := .int (nI R.dp)) (p9 := 263) rfl rfl rfl rfl rfl ?_
                      refine wz_iconst (x := nI 1) (p9 := 264) rfl rfl (by decide) ?_
                      refine wn_sub (p9 := 265) rfl rfl (by omega) ?_
                      have bki : R.ki (R.dp - 1) < 3 := by rw [hdp]; have := S.kd (C.dp - 1) (by omega); omega
                      refine wl_Rki (f := R.ki) (p9 := 266) rfl rfl rfl (by omega) ?_
                      refine wz_iconst (x := nI 2) (p9 := 267) rfl rfl (by decide) ?_
                      refine wn_icne (t9 := 356) (p9 := 270) rfl rfl rfl (by omega) (by omega) (fun h267 => ?_) (fun h267 => ?_)
                      · refine wz_iload_n (p9 := 357) rfl rfl rfl ?_
                        exact wz_reti rfl rfl kk2
                      · exact (n6 ⟨by omega, by omega, by rw [hdp] at h267; have := S.kd (C.dp - 1) (by omega); omega⟩).elim
                · refine wz_aload_n (p9 := 229) rfl rfl rfl ?_
                  refine wz_get (v := .ref 33) (p9 := 232) rfl rfl rfl rfl rfl ?_
                  refine wz_aload_n (p9 := 233) rfl rfl rfl ?_
                  refine wz_get (v := .int (nI R.dp)) (p9 := 236) rfl rfl rfl rfl rfl ?_
                  refine wz_iconst (x := nI 1) (p9 := 237) rfl rfl (by decide) ?_
                  refine wn_sub (p9 := 238) rfl rfl (by omega) ?_
                  have bki : R.ki (R.dp - 1) < 3 := by rw [hdp]; have := S.kd (C.dp - 1) (by omega); omega
                  refine wl_Rki (f := R.ki) (p9 := 239) rfl rfl rfl (by omega) ?_
                  refine wn_ifeq (t9 := 270) (p9 := 242) rfl rfl rfl (by omega) (fun h239 => ?_) (fun h239 => ?_)
                  · exact (n5 ⟨by omega, by omega, by rw [hdp] at h239; have := S.kd (C.dp - 1) (by omega); omega⟩).elim
                  · refine wz_iload_n (p9 := 243) rfl rfl rfl ?_
                    refine wz_bipush (x := nI 93) (p9 := 245) rfl rfl (by decide) ?_
                    refine wn_icne (t9 := 356) (p9 := 248) rfl rfl rfl (by omega) (by omega) (fun h245 => ?_) (fun h245 => ?_)
                    · refine wz_iload_n (p9 := 357) rfl rfl rfl ?_
                      exact wz_reti rfl rfl kk2
                    · refine wz_aload_n (p9 := 249) rfl rfl rfl ?_
                      refine wz_get (v := .int (nI R.dp)) (p9 := 252) rfl rfl rfl rfl rfl ?_
                      refine wn_ifle (t9 := 356) (p9 := 255) rfl rfl rfl (by omega) (fun h252 => ?_) (fun h252 => ?_)
                      · refine wz_iload_n (p9 := 357) rfl rfl rfl ?_
                        exact wz_reti rfl rfl kk2
                      · refine wz_aload_n (p9 := 256) rfl rfl rfl ?_
                        refine wz_get (v := .ref 33) (p9 := 259) rfl rfl rfl rfl rfl ?_
                        refine wz_aload_n (p9 := 260) rfl rfl rfl ?_
                        refine wz_get (v := .int (nI R.dp)) (p9 := 263) rfl rfl rfl rfl rfl ?_
                        refine wz_iconst (x := nI 1) (p9 := 264) rfl rfl (by decide) ?_
                        refine wn_sub (p9 := 265) rfl rfl (by omega) ?_
                        have bki : R.ki (R.dp - 1) < 3 := by rw [hdp]; have := S.kd (C.dp - 1) (by omega); omega
                        refine wl_Rki (f := R.ki) (p9 := 266) rfl rfl rfl (by omega) ?_
                        refine wz_iconst (x := nI 2) (p9 := 267) rfl rfl (by decide) ?_
                        refine wn_icne (t9 := 356) (p9 := 270) rfl rfl rfl (by omega) (by omega) (fun h267 => ?_) (fun h267 => ?_)
                        · refine wz_iload_n (p9 := 357) rfl rfl rfl ?_
                          exact wz_reti rfl rfl kk2
                        · exact (n6 ⟨by omega, by omega, by rw [hdp] at h267; have := S.kd (C.dp - 1) (by omega); omega⟩).elim
            · refine wz_aload_n (p9 := 161) rfl rfl rfl ?_
              refine wz_get (v := .int (nI R.dp)) (p9 := 164) rfl rfl rfl rfl rfl ?_
              refine wn_ifle (t9 := 215) (p9 := 167) rfl rfl rfl (by omega) (fun h164 => ?_) (fun h164 => ?_)
              · refine wz_iload_n (p9 := 216) rfl rfl rfl ?_
                refine wz_bipush (x := nI 41) (p9 := 218) rfl rfl (by decide) ?_
                refine wn_icne (t9 := 242) (p9 := 221) rfl rfl rfl (by omega) (by omega) (fun h218 => ?_) (fun h218 => ?_)
                · refine wz_iload_n (p9 := 243) rfl rfl rfl ?_
                  refine wz_bipush (x := nI 93) (p9 := 245) rfl rfl (by decide) ?_
                  refine wn_icne (t9 := 356) (p9 := 248) rfl rfl rfl (by omega) (by omega) (fun h245 => ?_) (fun h245 => ?_)
                  · refine wz_iload_n (p9 := 357) rfl rfl rfl ?_
                    exact wz_reti rfl rfl kk2
                  · refine wz_aload_n (p9 := 249) rfl rfl rfl ?_
                    refine wz_get (v := .int (nI R.dp)) (p9 := 252) rfl rfl rfl rfl rfl ?_
                    refine wn_ifle (t9 := 356) (p9 := 255) rfl rfl rfl (by omega) (fun h252 => ?_) (fun h252 => ?_)
                    · refine wz_iload_n (p9 := 357) rfl rfl rfl ?_
                      exact wz_reti rfl rfl kk2
                    · refine wz_aload_n (p9 := 256) rfl rfl rfl ?_
                      refine wz_get (v := .ref 33) (p9 := 259) rfl rfl rfl rfl rfl ?_
                      refine wz_aload_n (p9 := 260) rfl rfl rfl ?_
                      refine wz_get (v := .int (nI R.dp)) (p9 := 263) rfl rfl rfl rfl rfl ?_
                      refine wz_iconst (x := nI 1) (p9 := 264) rfl rfl (by decide) ?_
                      refine wn_sub (p9 := 265) rfl rfl (by omega) ?_
                      have bki : R.ki (R.dp - 1) < 3 := by rw [hdp]; have := S.kd (C.dp - 1) (by omega); omega
                      refine wl_Rki (f := R.ki) (p9 := 266) rfl rfl rfl (by omega) ?_
                      refine wz_iconst (x := nI 2) (p9 := 267) rfl rfl (by decide) ?_
                      refine wn_icne (t9 := 356) (p9 := 270) rfl rfl rfl (by omega) (by omega) (fun h267 => ?_) (fun h267 => ?_)
                      · refine wz_iload_n (p9 := 357) rfl rfl rfl ?_
                        exact wz_reti rfl rfl kk2
                      · exact (n6 ⟨by omega, by omega, by rw [hdp] at h267; have := S.kd (C.dp - 1) (by omega); omega⟩).elim
                · refine wz_aload_n (p9 := 222) rfl rfl rfl ?_
                  refine wz_get (v := .int (nI R.dp)) (p9 := 225) rfl rfl rfl rfl rfl ?_
                  refine wn_ifle (t9 := 242) (p9 := 228) rfl rfl rfl (by omega) (fun h225 => ?_) (fun h225 => ?_)
                  · refine wz_iload_n (p9 := 243) rfl rfl rfl ?_
                    refine wz_bipush (x := nI 93) (p9 := 245) rfl rfl (by decide) ?_
                    refine wn_icne (t9 := 356) (p9 := 248) rfl rfl rfl (by omega) (by omega) (fun h245 => ?_) (fun h245 => ?_)
                    · refine wz_iload_n (p9 := 357) rfl rfl rfl ?_
                      exact wz_reti rfl rfl kk2
                    · refine wz_aload_n (p9 := 249) rfl rfl rfl ?_
                      refine wz_get (v := .int (nI R.dp)) (p9 := 252) rfl rfl rfl rfl rfl ?_
                      refine wn_ifle (t9 := 356) (p9 := 255) rfl rfl rfl (by omega) (fun h252 => ?_) (fun h252 => ?_)
                      · refine wz_iload_n (p9 := 357) rfl rfl rfl ?_
                        exact wz_reti rfl rfl kk2
                      · refine wz_aload_n (p9 := 256) rfl rfl rfl ?_
                        refine wz_get (v := .ref 33) (p9 := 259) rfl rfl rfl rfl rfl ?_
                        refine wz_aload_n (p9 := 260) rfl rfl rfl ?_
                        refine wz_get (v := .int (nI R.dp)) (p9 := 263) rfl rfl rfl rfl rfl ?_
                        refine wz_iconst (x := nI 1) (p9 := 264) rfl rfl (by decide) ?_
                        refine wn_sub (p9 := 265) rfl rfl (by omega) ?_
                        have bki : R.ki (R.dp - 1) < 3 := by rw [hdp]; have := S.kd (C.dp - 1) (by omega); omega
                        refine wl_Rki (f := R.ki) (p9 := 266) rfl rfl rfl (by omega) ?_
                        refine wz_iconst (x := nI 2) (p9 := 267) rfl rfl (by decide) ?_
                        refine wn_icne (t9 := 356) (p9 := 270) rfl rfl rfl (by omega) (by omega) (fun h267 => ?_) (fun h267 => ?_)
                        · refine wz_iload_n (p9 := 357) rfl rfl rfl ?_
                          exact wz_reti rfl rfl kk2
                        · exact (n6 ⟨by omega, by omega, by rw [hdp] at h267; have := S.kd (C.dp - 1) (by omega); omega⟩).elim
                  · refine wz_aload_n (p9 := 229) rfl rfl rfl ?_
                    refine wz_get (v := .ref 33) (p9 := 232) rfl rfl rfl rfl rfl ?_
                    refine wz_aload_n (p9 := 233) rfl rfl rfl ?_
                    refine wz_get (v := .int (nI R.dp)) (p9 := 236) rfl rfl rfl rfl rfl ?_
                    refine wz_iconst (x := nI 1) (p9 := 237) rfl rfl (by decide) ?_
                    refine wn_sub (p9 := 238) rfl rfl (by omega) ?_
                    have bki : R.ki (R.dp - 1) < 3 := by rw [hdp]; have := S.kd (C.dp - 1) (by omega); omega
                    refine wl_Rki (f := R.ki) (p9 := 239) rfl rfl rfl (by omega) ?_
                    refine wn_ifeq (t9 := 270) (p9 := 242) rfl rfl rfl (by omega) (fun h239 => ?_) (fun h239 => ?_)
                    · exact (n5 ⟨by omega, by omega, by rw [hdp] at h239; have := S.kd (C.dp - 1) (by omega); omega⟩).elim
                    · refine wz_iload_n (p9 := 243) rfl rfl rfl ?_
                      refine wz_bipush (x := nI 93) (p9 := 245) rfl rfl (by decide) ?_
                      refine wn_icne (t9 := 356) (p9 := 248) rfl rfl rfl (by omega) (by omega) (fun h245 => ?_) (fun h245 => ?_)
                      · refine wz_iload_n (p9 := 357) rfl rfl rfl ?_
                        exact wz_reti rfl rfl kk2
                      · refine wz_aload_n (p9 := 249) rfl rfl rfl ?_
                        refine wz_get (v := .int (nI R.dp)) (p9 := 252) rfl rfl rfl rfl rfl ?_
                        refine wn_ifle (t9 := 356) (p9 := 255) rfl rfl rfl (by omega) (fun h252 => ?_) (fun h252 => ?_)
                        · refine wz_iload_n (p9 := 357) rfl rfl rfl ?_
                          exact wz_reti rfl rfl kk2
                        · refine wz_aload_n (p9 := 256) rfl rfl rfl ?_
                          refine wz_get (v := .ref 33) (p9 := 259) rfl rfl rfl rfl rfl ?_
                          refine wz_aload_n (p9 := 260) rfl rfl rfl ?_
                          refine wz_get (v := .int (nI R.dp)) (p9 := 263) rfl rfl rfl rfl rfl ?_
                          refine wz_iconst (x := nI 1) (p9 := 264) rfl rfl (by decide) ?_
                          refine wn_sub (p9 := 265) rfl rfl (by omega) ?_
                          have bki : R.ki (R.dp - 1) < 3 := by rw [hdp]; have := S.kd (C.dp - 1) (by omega); omega
                          refine wl_Rki (f := R.ki) (p9 := 266) rfl rfl rfl (by omega) ?_
                          refine wz_iconst (x := nI 2) (p9 := 267) rfl rfl (by decide) ?_
                          refine wn_icne (t9 := 356) (p9 := 270) rfl rfl rfl (by omega) (by omega) (fun h267 => ?_) (fun h267 => ?_)
                          · refine wz_iload_n (p9 := 357) rfl rfl rfl ?_
                            exact wz_reti rfl rfl kk2
                          · exact (n6 ⟨by omega, by omega, by rw [hdp] at h267; have := S.kd (C.dp - 1) (by omega); omega⟩).elim
              · refine wz_aload_n (p9 := 168) rfl rfl rfl ?_
                refine wz_get (v := .ref 33) (p9 := 171) rfl rfl rfl rfl rfl ?_
                refine wz_aload_n (p9 := 172) rfl rfl rfl ?_
                refine wz_get (v := .int (nI R.dp)) (p9 := 175) rfl rfl rfl rfl rfl ?_
                refine wz_iconst (x := nI 1) (p9 := 176) rfl rfl (by decide) ?_
                refine wn_sub (p9 := 177) rfl rfl (by omega) ?_
                have bki : R.ki (R.dp - 1) < 3 := by rw [hdp]; have := S.kd (C.dp - 1) (by omega); omega
                refine wl_Rki (f := R.ki) (p9 := 178) rfl rfl rfl (by omega) ?_
                refine wz_iconst (x := nI 1) (p9 := 179) rfl rfl (by decide) ?_
                refine wn_icne (t9 := 215) (p9 := 182) rfl rfl rfl (by omega) (by omega) (fun h179 => ?_) (fun h179 => ?_)
                · refine wz_iload_n (p9 := 216) rfl rfl rfl ?_
                  refine wz_bipush (x := nI 41) (p9 := 218) rfl rfl (by decide) ?_
                  refine wn_icne (t9 := 242) (p9 := 221) rfl rfl rfl (by omega) (by omega) (fun h218 => ?_) (fun h218 => ?_)
                  · refine wz_iload_n (p9 := 243) rfl rfl rfl ?_
                    refine wz_bipush (x := nI 93) (p9 := 245) rfl rfl (by decide) ?_
                    refine wn_icne (t9 := 356) (p9 := 248) rfl rfl rfl (by omega) (by omega) (fun h245 => ?_) (fun h245 => ?_)
                    · refine wz_iload_n (p9 := 357) rfl rfl rfl ?_
                      exact wz_reti rfl rfl kk2
                    · refine wz_aload_n (p9 := 249) rfl rfl rfl ?_
                      refine wz_get (v := .int (nI R.dp)) (p9 := 252) rfl rfl rfl rfl rfl ?_
                      refine wn_ifle (t9 := 356) (p9 := 255) rfl rfl rfl (by omega) (fun h252 => ?_) (fun h252 => ?_)
                      · refine wz_iload_n (p9 := 357) rfl rfl rfl ?_
                        exact wz_reti rfl rfl kk2
                      · refine wz_aload_n (p9 := 256) rfl rfl rfl ?_
                        refine wz_get (v := .ref 33) (p9 := 259) rfl rfl rfl rfl rfl ?_
                        refine wz_aload_n (p9 := 260) rfl rfl rfl ?_
                        refine wz_get (v := .int (nI R.dp)) (p9 := 263) rfl rfl rfl rfl rfl ?_
                        refine wz_iconst (x := nI 1) (p9 := 264) rfl rfl (by decide) ?_
                        refine wn_sub (p9 := 265) rfl rfl (by omega) ?_
                        have bki : R.ki (R.dp - 1) < 3 := by rw [hdp]; have := S.kd (C.dp - 1) (by omega); omega
                        refine wl_Rki (f := R.ki) (p9 := 266) rfl rfl rfl (by omega) ?_
                        refine wz_iconst (x := nI 2) (p9 := 267) rfl rfl (by decide) ?_
                        refine wn_icne (t9 := 356) (p9 := 270) rfl rfl rfl (by omega) (by omega) (fun h267 => ?_) (fun h267 => ?_)
                        · refine wz_iload_n (p9 := 357) rfl rfl rfl ?_
                          exact wz_reti rfl rfl kk2
                        · exact (n6 ⟨by omega, by omega, by rw [hdp] at h267; have := S.kd (C.dp - 1) (by omega); omega⟩).elim
                  · refine wz_aload_n (p9 := 222) rfl rfl rfl ?_
                    refine wz_get (v := .int (nI R.dp)) (p9 := 225) rfl rfl rfl rfl rfl ?_
                    refine wn_ifle (t9 := 242) (p9 := 228) rfl rfl rfl (by omega) (fun h225 => ?_) (fun h225 => ?_)
                    · refine wz_iload_n (p9 := 243) rfl rfl rfl ?_
                      refine wz_bipush (x := nI 93) (p9 := 245) rfl rfl (by decide) ?_
                      refine wn_icne (t9 := 356) (p9 := 248) rfl rfl rfl (by omega) (by omega) (fun h245 => ?_) (fun h245 => ?_)
                      · refine wz_iload_n (p9 := 357) rfl rfl rfl ?_
                        exact wz_reti rfl rfl kk2
                      · refine wz_aload_n (p9 := 249) rfl rfl rfl ?_
                        refine wz_get (v := .int (nI R.dp)) (p9 := 252) rfl rfl rfl rfl rfl ?_
                        refine wn_ifle (t9 := 356) (p9 := 255) rfl rfl rfl (by omega) (fun h252 => ?_) (fun h252 => ?_)
                        · refine wz_iload_n (p9 := 357) rfl rfl rfl ?_
                          exact wz_reti rfl rfl kk2
                        · refine wz_aload_n (p9 := 256) rfl rfl rfl ?_
                          refine wz_get (v := .ref 33) (p9 := 259) rfl rfl rfl rfl rfl ?_
                          refine wz_aload_n (p9 := 260) rfl rfl rfl ?_
                          refine wz_get (v := .int (nI R.dp)) (p9 := 263) rfl rfl rfl rfl rfl ?_
                          refine wz_iconst (x := nI 1) (p9 := 264) rfl rfl (by decide) ?_
                          refine wn_sub (p9 := 265) rfl rfl (by omega) ?_
                          have bki : R.ki (R.dp - 1) < 3 := by rw [hdp]; have := S.kd (C.dp - 1) (by omega); omega
                          refine wl_Rki (f := R.ki) (p9 := 266) rfl rfl rfl (by omega) ?_
                          refine wz_iconst (x := nI 2) (p9 := 267) rfl rfl (by decide) ?_
                          refine wn_icne (t9 := 356) (p9 := 270) rfl rfl rfl (by omega) (by omega) (fun h267 => ?_) (fun h267 => ?_)
                          · refine wz_iload_n (p9 := 357) rfl rfl rfl ?_
                            exact wz_reti rfl rfl kk2
                          · exact (n6 ⟨by omega, by omega, by rw [hdp] at h267; have := S.kd (C.dp - 1) (by omega); omega⟩).elim
                    · refine wz_aload_n (p9 := 229) rfl rfl rfl ?_
                      refine wz_get (v := .ref 33) (p9 := 232) rfl rfl rfl rfl rfl ?_
                      refine wz_aload_n (p9 := 233) rfl rfl rfl ?_
                      refine wz_get (v := .int (nI R.dp)) (p9 := 236) rfl rfl rfl rfl rfl ?_
                      refine wz_iconst (x := nI 1) (p9 := 237) rfl rfl (by decide) ?_
                      refine wn_sub (p9 := 238) rfl rfl (by omega) ?_
                      have bki : R.ki (R.dp - 1) < 3 := by rw [hdp]; have := S.kd (C.dp - 1) (by omega); omega
                      refine wl_Rki (f := R.ki) (p9 := 239) rfl rfl rfl (by omega) ?_
                      refine wn_ifeq (t9 := 270) (p9 := 242) rfl rfl rfl (by omega) (fun h239 => ?_) (fun h239 => ?_)
                      · exact (n5 ⟨by omega, by omega, by rw [hdp] at h239; have := S.kd (C.dp - 1) (by omega); omega⟩).elim
                      · refine wz_iload_n (p9 := 243) rfl rfl rfl ?_
                        refine wz_bipush (x := nI 93) (p9 := 245) rfl rfl (by decide) ?_
                        refine wn_icne (t9 := 356) (p9 := 248) rfl rfl rfl (by omega) (by omega) (fun h245 => ?_) (fun h245 => ?_)
                        · refine wz_iload_n (p9 := 357) rfl rfl rfl ?_
                          exact wz_reti rfl rfl kk2
                        · refine wz_aload_n (p9 := 249) rfl rfl rfl ?_
                          refine wz_get (v := .int (nI R.dp)) (p9 := 252) rfl rfl rfl rfl rfl ?_
                          refine wn_ifle (t9 := 356) (p9 := 255) rfl rfl rfl (by omega) (fun h252 => ?_) (fun h252 => ?_)
                          · refine wz_iload_n (p9 := 357) rfl rfl rfl ?_
                            exact wz_reti rfl rfl kk2
                          · refine wz_aload_n (p9 := 256) rfl rfl rfl ?_
                            refine wz_get (v := .ref 33) (p9 := 259) rfl rfl rfl rfl rfl ?_
                            refine wz_aload_n (p9 := 260) rfl rfl rfl ?_
                            refine wz_get (v := .int (nI R.dp)) (p9 := 263) rfl rfl rfl rfl rfl ?_
                            refine wz_iconst (x := nI 1) (p9 := 264) rfl rfl (by decide) ?_
                            refine wn_sub (p9 := 265) rfl rfl (by omega) ?_
                            have bki : R.ki (R.dp - 1) < 3 := by rw [hdp]; have := S.kd (C.dp - 1) (by omega); omega
                            refine wl_Rki (f := R.ki) (p9 := 266) rfl rfl rfl (by omega) ?_
                            refine wz_iconst (x := nI 2) (p9 := 267) rfl rfl (by decide) ?_
                            refine wn_icne (t9 := 356) (p9 := 270) rfl rfl rfl (by omega) (by omega) (fun h267 => ?_) (fun h267 => ?_)
                            · refine wz_iload_n (p9 := 357) rfl rfl rfl ?_
                              exact wz_reti rfl rfl kk2
                            · exact (n6 ⟨by omega, by omega, by rw [hdp] at h267; have := S.kd (C.dp - 1) (by omega); omega⟩).elim
                · exact (n4 ⟨by omega, by omega, by rw [hdp] at h179; have := S.kd (C.dp - 1) (by omega); omega⟩).elim
          · exact (n3 ⟨by omega, by omega⟩).elim
    · exact (n1 ⟨by omega, by omega⟩).elim
theorem l_look {X : Nat × (Nat → Int32)} {d : Nat} {A : CA} {o : Nat → Int64} {k z : Nat} {Q : px_Z → Prop} : ∀ (j i : Nat) (C : CA) (R : RA) (v2 v3 : Value), i ≤ C.bc → C.bc - i ≤ j → SI C R (R.mn, R.cm, R.tm) → sgn C i → (∀ R2, SI (rt (C.bc - i) i C).2 R2 (R2.mn, R2.cm, R2.tm) → sM R R2 → Q (some (some (.int (lkr C.bc (rt (C.bc - i) i C)))), WW A R2 o, k, z)) → wp X (d + 6) 108 (17, [.ref 26, .int (nI i), v2, v3], [], WW A R o, k, z) Q := by
  intro j
  induction j with
  | zero =>
    intro i C R v2 v3 hi hj S G kk
    rw [rt_end (by omega)] at kk
    have b100 := S.bc
    have hsz := S.sz
    have hdp := S.dp
    have hdp8 : C.dp ≤ 8 := S.nv.2.2.1
    refine wz_iload_n (p9 := 18) rfl rfl rfl ?_
    refine wz_aload_n (p9 := 19) rfl rfl rfl ?_
    refine wz_get (v := .int (nI R.sz)) (p9 := 22) rfl rfl rfl rfl rfl ?_
    refine wn_icge (t9 := 361) (p9 := 25) rfl rfl rfl (by omega) (by omega) (fun _ => ?_) (fun h9 => by omega)
    refine wz_aload_n (p9 := 362) rfl rfl rfl ?_
    refine wz_get (v := .int (nI R.dp)) (p9 := 365) rfl rfl rfl rfl rfl ?_
    refine wn_ifle (t9 := 375) (p9 := 368) rfl rfl rfl (by omega) (fun h365 => ?_) (fun h365 => ?_)
    · refine wz_iconst (x := (-1)) (p9 := 376) rfl rfl (by decide) ?_
      exact wz_reti rfl rfl (by rw [show lkr C.bc (i, C) = -1 from (if_neg (show ¬ i < C.bc by omega)).trans (if_neg (show ¬ 0 < C.dp by omega))] at kk; exact kk R S sM.rf)
    · refine wz_aload_n (p9 := 369) rfl rfl rfl ?_
      refine wz_get (v := .int (nI R.sz)) (p9 := 372) rfl rfl rfl rfl rfl ?_
      refine wz_goto (p9 := 376) rfl rfl ?_
      exact wz_reti rfl rfl (by rw [show lkr C.bc (i, C) = nI R.sz from (if_neg (show ¬ i < C.bc by omega)).trans ((if_pos (show 0 < C.dp by omega)).trans (by rw [S.sz]))] at kk; exact kk R S sM.rf)
  | succ j ih =>
    intro i C R v2 v3 hi hj S G kk
    by_cases hi2 : i < C.bc
    · have IH : ∀ (i2 : Nat) (C2 : CA) (R2 : RA) (v2 v3 : Value), i < i2 → i2 ≤ C.bc → C2.bc = C.bc → SI C2 R2 (R2.mn, R2.cm, R2.tm) → sgn C2 i2 → rt (C.bc - i) i C = rt (C.bc - i2) i2 C2 → sM R R2 → wp X (d + 6) 108 (17, [.ref 26, .int (nI i2), v2, v3], [], WW A R2 o, k, z) Q := by
        intro i2 C2 R2 w2 w3 a1 a2 a3 a4 a5 a6 a7
        refine ih i2 C2 R2 w2 w3 (by omega) (by omega) a4 a5 (fun R3 b1 b2 => ?_)
        rw [a3] at b1 ⊢
        rw [← a6] at b1 ⊢
        exact kk R3 b1 (a7.tr b2)
      by_cases c1 : 97 ≤ C.tx i ∧ C.tx i - 97 < C.Mv
      · exact l_lookL hi2 S c1 IH
      by_cases c2 : C.tx i = 40 ∧ C.dp < 8
      · exact l_lookO0 hi2 S c2 IH
      by_cases c3 : C.tx i = 91 ∧ C.dp < 8
      · exact l_lookO1 hi2 S c3 IH
      by_cases c4 : C.tx i = 44 ∧ 0 < C.dp ∧ C.kd (C.dp - 1) = 91
      · exact l_lookC hi2 S c4 IH
      by_cases c5 : C.tx i = 41 ∧ 0 < C.dp ∧ C.kd (C.dp - 1) = 40
      · exact l_lookR hi2 S c5 IH
      by_cases c6 : C.tx i = 93 ∧ 0 < C.dp ∧ C.kd (C.dp - 1) = 44
      · exact l_lookB hi2 S c6 IH
      exact l_lookN hi2 S G c1 c2 c3 c4 c5 c6 kk
    · exact ih i C R v2 v3 hi (by omega) S G kk
