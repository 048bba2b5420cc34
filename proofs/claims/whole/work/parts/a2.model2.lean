/-! THE REFERENCE: rows that come (wip/whole/gen/mka2.py) -/
def sbr (R : RA) (b : Nat × (Nat → Nat) × Nat) : RA := RA.s_tm (RA.s_mn (RA.s_cm R b.2.1) b.1) b.2.2
/-- what holds of the rows that came -/
def BO (od : Nat → Nat) (b : Nat × (Nat → Nat) × Nat) : Prop := b.1 ≤ 400 ∧ b.2.2 < 2 ∧ (b.2.2 = 1 → b.1 = 400) ∧ (b.2.2 = 0 → ∀ i, i < b.1 → ro od (b.2.1 i))
theorem pu_ov {x : Nat} {b : Nat × (Nat → Nat) × Nat} (h1 : b.2.2 = 1) (h4 : b.1 = 400) : pu x b = b := by
  unfold pu
  rw [if_neg (by omega), ← h1]
theorem pt_ov {od : Nat → Nat} {f : Nat} {b : Nat × (Nat → Nat) × Nat} (h1 : b.2.2 = 1) (h4 : b.1 = 400) : ∀ j, pt od f j b = b
  | 0 => rfl
  | j + 1 => by
    show pt od f j (pu (tw od (b.2.1 (f + j))) b) = b
    rw [pu_ov h1 h4, pt_ov h1 h4 j]
theorem cp_ov {b : Nat × (Nat → Nat) × Nat} (h1 : b.2.2 = 1) (h4 : b.1 = 400) : ∀ j f, cp f j b = b
  | 0, _ => rfl
  | j + 1, f => by
    show cp (f + 1) j (pu (b.2.1 f) b) = b
    rw [pu_ov h1 h4, cp_ov h1 h4 j]
theorem BO_pu {od : Nat → Nat} {x : Nat} {b : Nat × (Nat → Nat) × Nat} (h : BO od b) (hx : b.2.2 = 0 → ro od x) : BO od (pu x b) := by
  obtain ⟨h1, h2, h3, h4⟩ := h
  unfold pu
  split
  · refine ⟨by show b.1 + 1 ≤ 400; omega, h2, fun e => by have : b.2.2 = 1 := e; have := h3 this; omega, fun e i hi => ?_⟩
    show ro od (un b.2.1 b.1 x i)
    by_cases hq : i = b.1
    · rw [hq, un_at]; exact hx e
    · rw [un_ne hq]; exact h4 e i (by have : i < b.1 + 1 := hi; omega)
  · exact ⟨h1, show 1 < 2 by decide, fun _ => by show b.1 = 400; omega, fun e => by cases e⟩
theorem g_come {X : Nat × (Nat → Int32)} {d : Nat} {A : CA} {R : RA} {o : Nat → Int64} {m x : Nat} {b : Nat × (Nat → Nat) × Nat} (hb : (R.mn, R.cm, R.tm) = b) (h4 : b.1 ≤ 400) : px_ev X (d + 1) 109 [.ref 26, .int (nI m), .int (nI x)] (WW A R o) (some none, WW A (sbr R (pu (m * 16 + x) b)) o, 0, 0) := by
  refine wp_ev (d := d + 0) (by decide) rfl rfl (fun h => by cases h) ?_
  show wp X (d + 0) 109 (0, [.ref 26, .int (nI m), .int (nI x)], [], WW A R o, 0, 0) _
  subst hb
  have h4 : R.mn ≤ 400 := h4
  rw [Nat.mul_comm m 16]
  refine wz_aload_n (p9 := 1) rfl rfl rfl ?_
  refine wz_get (v := .int (nI R.mn)) (p9 := 4) rfl rfl rfl rfl rfl ?_
  refine wz_sipush (x := nI 400) (p9 := 7) rfl rfl (by decide) ?_
  refine wn_icne (t9 := 16) (p9 := 10) rfl rfl rfl (by omega) (by omega) (fun h7 => ?_) (fun h7 => ?_)
  · refine wz_aload_n (p9 := 17) rfl rfl rfl ?_
    refine wz_get (v := .ref 32) (p9 := 20) rfl rfl rfl rfl rfl ?_
    refine wz_aload_n (p9 := 21) rfl rfl rfl ?_
    refine wz_get (v := .int (nI R.mn)) (p9 := 24) rfl rfl rfl rfl rfl ?_
    refine wz_bipush (x := nI 16) (p9 := 26) rfl rfl (by decide) ?_
    refine wz_iload_n (p9 := 27) rfl rfl rfl ?_
    refine wn_mul (p9 := 28) rfl rfl ?_
    refine wz_iload_n (p9 := 29) rfl rfl rfl ?_
    refine wn_add (p9 := 30) rfl rfl ?_
    refine ws_Rcm (f := R.cm) (p9 := 31) rfl rfl rfl (by omega) (R1 := (RA.s_cm R (un R.cm R.mn ((16 * m) + x)))) rfl ?_
    refine wz_aload_n (p9 := 32) rfl rfl rfl ?_
    refine wz_dupr (p9 := 33) rfl rfl ?_
    refine wz_get (v := .int (nI R.mn)) (p9 := 36) rfl rfl rfl rfl rfl ?_
    refine wz_iconst (x := nI 1) (p9 := 37) rfl rfl (by decide) ?_
    refine wn_add (p9 := 38) rfl rfl ?_
    refine wp_Rmn (x := (R.mn + 1)) (p9 := 41) rfl rfl rfl rfl (R1 := (RA.s_mn (RA.s_cm R (un R.cm R.mn ((16 * m) + x))) (R.mn + 1))) rfl ?_
    exact wz_retv rfl rfl (by rw [show pu (16 * m + x) (R.mn, R.cm, R.tm) = (R.mn + 1, un R.cm R.mn (16 * m + x), R.tm) from if_pos (by show R.mn < 400; omega)]; rfl)
  · refine wz_aload_n (p9 := 11) rfl rfl rfl ?_
    refine wz_iconst (x := nI 1) (p9 := 12) rfl rfl (by decide) ?_
    refine wp_Rtm (x := 1) (p9 := 15) rfl rfl rfl rfl (by omega) (R1 := (RA.s_tm R 1)) rfl ?_
    exact wz_retv rfl rfl (by rw [show pu (16 * m + x) (R.mn, R.cm, R.tm) = (R.mn, R.cm, 1) from if_neg (by show ¬ R.mn < 400; omega)]; rfl)
theorem l_again1 {X : Nat × (Nat → Int32)} {d : Nat} {A : CA} {R : RA} {o : Nat → Int64} {od : Nat → Nat} (T : TV R.P R.Mv R.t od) {k z f e : Nat} (he : e ≤ 400) {Q : px_Z → Prop} : ∀ (j k9 : Nat) (b : Nat × (Nat → Nat) × Nat) (v5 v6 v7 : Value), k9 + j = e - f → (f ≤ e) → BO od b → e ≤ b.1 → (BO od (pt od f j b) → ∀ lv, wp X (d + 3) 112 (97, .ref 26 :: lv, [], WW A (RA.s_tm (RA.s_mn (RA.s_cm R ((pt od f j b).2.1)) ((pt od f j b).1)) ((pt od f j b).2.2)) o, k, z) Q) → wp X (d + 3) 112 (3, [.ref 26, .int (nI f), .int (nI e), .int (nI 1), .int (nI k9), v5, v6, v7], [], WW A (RA.s_tm (RA.s_mn (RA.s_cm R b.2.1) b.1) b.2.2) o, k, z) Q
  | 0, k9, b, v5, v6, v7, hj, hf, h, hb, kk => by
    have h1 := h.1
    refine wz_iload (p9 := 5) rfl rfl rfl ?_
    refine wz_iload_n (p9 := 6) rfl rfl rfl ?_
    refine wz_iload_n (p9 := 7) rfl rfl rfl ?_
    refine wn_sub (p9 := 8) rfl rfl (by omega) ?_
    refine wn_icge (t9 := 97) (p9 := 11) rfl rfl rfl (by omega) (by omega) (fun _ => ?_) (fun h9 => by omega)
    exact kk h _
  | j + 1, k9, b, v5, v6, v7, hj, hf, h, hb, kk => by
    have h1 := h.1
    have h2 := h.2.1
    by_cases hov : b.2.2 = 1
    · rw [pt_ov hov (h.2.2.1 hov)] at kk
      refine wz_iload (p9 := 5) rfl rfl rfl ?_
      refine wz_iload_n (p9 := 6) rfl rfl rfl ?_
      refine wz_iload_n (p9 := 7) rfl rfl rfl ?_
      refine wn_sub (p9 := 8) rfl rfl (by omega) ?_
      refine wn_icge (t9 := 97) (p9 := 11) rfl rfl rfl (by omega) (by omega) (fun h9 => by omega) (fun _ => ?_)
      refine wz_aload_n (p9 := 12) rfl rfl rfl ?_
      refine wz_get (v := .int (nI b.2.2)) (p9 := 15) rfl rfl rfl rfl rfl ?_
      refine wn_ifne (t9 := 97) (p9 := 18) rfl rfl rfl (by omega) (fun _ => ?_) (fun h9 => by omega)
      exact kk h _
    refine wz_iload (p9 := 5) rfl rfl rfl ?_
    refine wz_iload_n (p9 := 6) rfl rfl rfl ?_
    refine wz_iload_n (p9 := 7) rfl rfl rfl ?_
    refine wn_sub (p9 := 8) rfl rfl (by omega) ?_
    refine wn_icge (t9 := 97) (p9 := 11) rfl rfl rfl (by omega) (by omega) (fun h9 => by omega) (fun _ => ?_)
    refine wz_aload_n (p9 := 12) rfl rfl rfl ?_
    refine wz_get (v := .int (nI b.2.2)) (p9 := 15) rfl rfl rfl rfl rfl ?_
    refine wn_ifne (t9 := 97) (p9 := 18) rfl rfl rfl (by omega) (fun h9 => by omega) (fun _ => ?_)
    refine wz_iload_n (p9 := 19) rfl rfl rfl ?_
    refine wn_ifeq (t9 := 36) (p9 := 22) rfl rfl rfl (by omega) (fun h9 => by omega) (fun _ => ?_)
    have hR := h.2.2.2 (by omega) (f + j) (by omega)
    have hR1 := hR.1
    have hR2 := hR.2
    have o1 := T.o1 (m := b.2.1 (f + j) / 16) (by omega)
    have o12 := T.o12 (m := b.2.1 (f + j) / 16) (by omega)
    refine wz_aload_n (p9 := 23) rfl rfl rfl ?_
    refine wz_get (v := .ref 32) (p9 := 26) rfl rfl rfl rfl rfl ?_
    refine wz_iload_n (p9 := 27) rfl rfl rfl ?_
    refine wz_iconst (x := nI 1) (p9 := 28) rfl rfl (by decide) ?_
    refine wn_sub (p9 := 29) rfl rfl (by omega) ?_
    refine wz_iload (p9 := 31) rfl rfl rfl ?_
    refine wn_sub (p9 := 32) rfl rfl (by omega) ?_
    rw [show (e - 1) - k9 = (f + j) by omega]
    refine wl_Rcm (f := b.2.1) (p9 := 33) rfl rfl rfl (by omega) ?_
    refine wz_goto (p9 := 45) rfl rfl ?_
    refine wz_istore (l9 := [.ref 26, .int (nI f), .int (nI e), .int (nI 1), .int (nI k9), .int (nI (b.2.1 (f + j))), v6, v7]) (p9 := 47) rfl rfl rfl rfl ?_
    refine wz_iload (p9 := 49) rfl rfl rfl ?_
    refine wz_bipush (x := nI 16) (p9 := 51) rfl rfl (by decide) ?_
    refine wn_div (p9 := 52) rfl rfl (by omega) (by omega) (by omega) ?_
    refine wz_istore (l9 := [.ref 26, .int (nI f), .int (nI e), .int (nI 1), .int (nI k9), .int (nI (b.2.1 (f + j))), .int (nI ((b.2.1 (f + j)) / 16)), v7]) (p9 := 54) rfl rfl rfl rfl ?_
    refine wz_aload_n (p9 := 55) rfl rfl rfl ?_
    refine wz_iload (p9 := 57) rfl rfl rfl ?_
    refine wz_c1 (p9 := 60) (w1 := WW A (RA.s_tm (RA.s_mn (RA.s_cm R b.2.1) b.1) b.2.2) o) (u := .int (nI (od ((b.2.1 (f + j)) / 16)))) (wa_v (N := 103) (i := 26) (As := [.int (nI ((b.2.1 (f + j)) / 16))]) (rest := []) rfl rfl rfl rfl rfl rfl rfl) rfl ((g_mOrder (d := 0) (A := A) (R := (RA.s_tm (RA.s_mn (RA.s_cm R b.2.1) b.1) b.2.2)) T (by omega)).up (by omega)) ?_
    refine wz_istore (l9 := [.ref 26, .int (nI f), .int (nI e), .int (nI 1), .int (nI k9), .int (nI (b.2.1 (f + j))), .int (nI ((b.2.1 (f + j)) / 16)), .int (nI (od ((b.2.1 (f + j)) / 16)))]) (p9 := 62) rfl rfl rfl rfl ?_
    refine wz_aload_n (p9 := 63) rfl rfl rfl ?_
    refine wz_iload (p9 := 65) rfl rfl rfl ?_
    refine wz_iload_n (p9 := 66) rfl rfl rfl ?_
    refine wn_ifeq (t9 := 83) (p9 := 69) rfl rfl rfl (by omega) (fun h9 => by omega) (fun _ => ?_)
    refine wz_iload (p9 := 71) rfl rfl rfl ?_
    refine wz_iload (p9 := 73) rfl rfl rfl ?_
    refine wz_bipush (x := nI 16) (p9 := 75) rfl rfl (by decide) ?_
    refine wn_rem (p9 := 76) rfl rfl (by omega) (by omega) (by omega) ?_
    refine wn_sub (p9 := 77) rfl rfl (by omega) ?_
    refine wz_iload (p9 := 79) rfl rfl rfl ?_
    refine wn_rem (p9 := 80) rfl rfl (by omega) (by omega) (by omega) ?_
    refine wz_goto (p9 := 88) rfl rfl ?_
    refine wz_c0 (p9 := 91) (w1 := WW A (RA.s_tm (RA.s_mn (RA.s_cm R ((pu (((b.2.1 (f + j)) / 16) * 16 + (((od ((b.2.1 (f + j)) / 16)) - ((b.2.1 (f + j)) % 16)) % (od ((b.2.1 (f + j)) / 16)))) b).2.1)) ((pu (((b.2.1 (f + j)) / 16) * 16 + (((od ((b.2.1 (f + j)) / 16)) - ((b.2.1 (f + j)) % 16)) % (od ((b.2.1 (f + j)) / 16)))) b).1)) ((pu (((b.2.1 (f + j)) / 16) * 16 + (((od ((b.2.1 (f + j)) / 16)) - ((b.2.1 (f + j)) % 16)) % (od ((b.2.1 (f + j)) / 16)))) b).2.2)) o) (wa_v (N := 109) (i := 26) (As := [.int (nI ((b.2.1 (f + j)) / 16)), .int (nI (((od ((b.2.1 (f + j)) / 16)) - ((b.2.1 (f + j)) % 16)) % (od ((b.2.1 (f + j)) / 16))))]) (rest := []) rfl rfl rfl rfl rfl rfl rfl) rfl ((g_come (d := 0) (A := A) (R := (RA.s_tm (RA.s_mn (RA.s_cm R b.2.1) b.1) b.2.2)) (b := b) rfl h.1).up (by omega)) ?_
    refine wn_inc (b := 1) (l9 := [.ref 26, .int (nI f), .int (nI e), .int (nI 1), .int (nI (k9 + 1)), .int (nI (b.2.1 (f + j))), .int (nI ((b.2.1 (f + j)) / 16)), .int (nI (od ((b.2.1 (f + j)) / 16)))]) (p9 := 94) rfl rfl rfl (by decide) rfl ?_
    refine wz_goto (p9 := 3) rfl rfl ?_
    exact l_again1 T he j (k9 + 1) (pu (tw od (b.2.1 (f + j))) b) _ _ _ (by omega) hf (BO_pu h (fun _ => ro_tw T.oo hR)) (Nat.le_trans hb pu_le) kk
theorem g_again1 {X : Nat × (Nat → Int32)} {d : Nat} {A : CA} {R : RA} {o : Nat → Int64} {od : Nat → Nat} (T : TV R.P R.Mv R.t od) {f e : Nat} {b : Nat × (Nat → Nat) × Nat} (hb : (R.mn, R.cm, R.tm) = b) (h : BO od b) (hf : f ≤ e) (he : e ≤ b.1) : px_ev X (d + 4) 112 [.ref 26, .int (nI f), .int (nI e), .int (nI 1)] (WW A R o) (some none, WW A (sbr R (pt od f (e - f) b)) o, 0, 0) := by
  refine wp_ev (d := d + 3) (by decide) rfl rfl (fun h => by cases h) ?_
  show wp X (d + 3) 112 (0, [.ref 26, .int (nI f), .int (nI e), .int (nI 1), .retAddr 0, .retAddr 0, .retAddr 0, .retAddr 0], [], WW A R o, 0, 0) _
  subst hb
  refine wz_iconst (x := nI 0) (p9 := 1) rfl rfl (by decide) ?_
  refine wz_istore (l9 := [.ref 26, .int (nI f), .int (nI e), .int (nI 1), .int (nI 0), .retAddr 0, .retAddr 0, .retAddr 0]) (p9 := 3) rfl rfl rfl rfl ?_
  refine l_again1 (R := R) T (by have := h.1; omega) (e - f) 0 (R.mn, R.cm, R.tm) _ _ _ (Nat.zero_add _) hf h he (fun _ lv => ?_)
  exact wz_retv rfl rfl rfl
theorem l_again0 {X : Nat × (Nat → Int32)} {d : Nat} {A : CA} {R : RA} {o : Nat → Int64} {od : Nat → Nat} (T : TV R.P R.Mv R.t od) {k z f e : Nat} (he : e ≤ 400) {Q : px_Z → Prop} : ∀ (j k9 i : Nat) (b : Nat × (Nat → Nat) × Nat) (v5 v6 v7 : Value), k9 + j = e - f → f ≤ e → i = f + k9 → BO od b → e ≤ b.1 → (BO od (cp i j b) → ∀ lv, wp X (d + 3) 112 (97, .ref 26 :: lv, [], WW A (RA.s_tm (RA.s_mn (RA.s_cm R ((cp i j b).2.1)) ((cp i j b).1)) ((cp i j b).2.2)) o, k, z) Q) → wp X (d + 3) 112 (3, [.ref 26, .int (nI f), .int (nI e), .int (nI 0), .int (nI k9), v5, v6, v7], [], WW A (RA.s_tm (RA.s_mn (RA.s_cm R b.2.1) b.1) b.2.2) o, k, z) Q
  | 0, k9, i, b, v5, v6, v7, hj, hf, hi, h, hb, kk => by
    have h1 := h.1
    refine wz_iload (p9 := 5) rfl rfl rfl ?_
    refine wz_iload_n (p9 := 6) rfl rfl rfl ?_
    refine wz_iload_n (p9 := 7) rfl rfl rfl ?_
    refine wn_sub (p9 := 8) rfl rfl (by omega) ?_
    refine wn_icge (t9 := 97) (p9 := 11) rfl rfl rfl (by omega) (by omega) (fun _ => ?_) (fun h9 => by omega)
    exact kk h _
  | j + 1, k9, i, b, v5, v6, v7, hj, hf, hi, h, hb, kk => by
    have h1 := h.1
    have h2 := h.2.1
    by_cases hov : b.2.2 = 1
    · rw [cp_ov hov (h.2.2.1 hov)] at kk
      refine wz_iload (p9 := 5) rfl rfl rfl ?_
      refine wz_iload_n (p9 := 6) rfl rfl rfl ?_
      refine wz_iload_n (p9 := 7) rfl rfl rfl ?_
      refine wn_sub (p9 := 8) rfl rfl (by omega) ?_
      refine wn_icge (t9 := 97) (p9 := 11) rfl rfl rfl (by omega) (by omega) (fun h9 => by omega) (fun _ => ?_)
      refine wz_aload_n (p9 := 12) rfl rfl rfl ?_
      refine wz_get (v := .int (nI b.2.2)) (p9 := 15) rfl rfl rfl rfl rfl ?_
      refine wn_ifne (t9 := 97) (p9 := 18) rfl rfl rfl (by omega) (fun _ => ?_) (fun h9 => by omega)
      exact kk h _
    refine wz_iload (p9 := 5) rfl rfl rfl ?_
    refine wz_iload_n (p9 := 6) rfl rfl rfl ?_
    refine wz_iload_n (p9 := 7) rfl rfl rfl ?_
    refine wn_sub (p9 := 8) rfl rfl (by omega) ?_
    refine wn_icge (t9 := 97) (p9 := 11) rfl rfl rfl (by omega) (by omega) (fun h9 => by omega) (fun _ => ?_)
    refine wz_aload_n (p9 := 12) rfl rfl rfl ?_
    refine wz_get (v := .int (nI b.2.2)) (p9 := 15) rfl rfl rfl rfl rfl ?_
    refine wn_ifne (t9 := 97) (p9 := 18) rfl rfl rfl (by omega) (fun h9 => by omega) (fun _ => ?_)
    refine wz_iload_n (p9 := 19) rfl rfl rfl ?_
    refine wn_ifeq (t9 := 36) (p9 := 22) rfl rfl rfl (by omega) (fun _ => ?_) (fun h9 => by omega)
    have hR := h.2.2.2 (by omega) i (by omega)
    have hR1 := hR.1
    have hR2 := hR.2
    have o1 := T.o1 (m := b.2.1 i / 16) (by omega)
    have o12 := T.o12 (m := b.2.1 i / 16) (by omega)
    refine wz_aload_n (p9 := 37) rfl rfl rfl ?_
    refine wz_get (v := .ref 32) (p9 := 40) rfl rfl rfl rfl rfl ?_
    refine wz_iload_n (p9 := 41) rfl rfl rfl ?_
    refine wz_iload (p9 := 43) rfl rfl rfl ?_
    refine wn_add (p9 := 44) rfl rfl ?_
    rw [show f + k9 = i by omega]
    refine wl_Rcm (f := b.2.1) (p9 := 45) rfl rfl rfl (by omega) ?_
    refine wz_istore (l9 := [.ref 26, .int (nI f), .int (nI e), .int (nI 0), .int (nI k9), .int (nI (b.2.1 i)), v6, v7]) (p9 := 47) rfl rfl rfl rfl ?_
    refine wz_iload (p9 := 49) rfl rfl rfl ?_
    refine wz_bipush (x := nI 16) (p9 := 51) rfl rfl (by decide) ?_
    refine wn_div (p9 := 52) rfl rfl (by omega) (by omega) (by omega) ?_
    refine wz_istore (l9 := [.ref 26, .int (nI f), .int (nI e), .int (nI 0), .int (nI k9), .int (nI (b.2.1 i)), .int (nI ((b.2.1 i) / 16)), v7]) (p9 := 54) rfl rfl rfl rfl ?_
    refine wz_aload_n (p9 := 55) rfl rfl rfl ?_
    refine wz_iload (p9 := 57) rfl rfl rfl ?_
    refine wz_c1 (p9 := 60) (w1 := WW A (RA.s_tm (RA.s_mn (RA.s_cm R b.2.1) b.1) b.2.2) o) (u := .int (nI (od ((b.2.1 i) / 16)))) (wa_v (N := 103) (i := 26) (As := [.int (nI ((b.2.1 i) / 16))]) (rest := []) rfl rfl rfl rfl rfl rfl rfl) rfl ((g_mOrder (d := 0) (A := A) (R := (RA.s_tm (RA.s_mn (RA.s_cm R b.2.1) b.1) b.2.2)) T (by omega)).up (by omega)) ?_
    refine wz_istore (l9 := [.ref 26, .int (nI f), .int (nI e), .int (nI 0), .int (nI k9), .int (nI (b.2.1 i)), .int (nI ((b.2.1 i) / 16)), .int (nI (od ((b.2.1 i) / 16)))]) (p9 := 62) rfl rfl rfl rfl ?_
    refine wz_aload_n (p9 := 63) rfl rfl rfl ?_
    refine wz_iload (p9 := 65) rfl rfl rfl ?_
    refine wz_iload_n (p9 := 66) rfl rfl rfl ?_
    refine wn_ifeq (t9 := 83) (p9 := 69) rfl rfl rfl (by omega) (fun _ => ?_) (fun h9 => by omega)
    refine wz_iload (p9 := 85) rfl rfl rfl ?_
    refine wz_bipush (x := nI 16) (p9 := 87) rfl rfl (by decide) ?_
    refine wn_rem (p9 := 88) rfl rfl (by omega) (by omega) (by omega) ?_
    refine wz_c0 (p9 := 91) (w1 := WW A (RA.s_tm (RA.s_mn (RA.s_cm R ((pu (((b.2.1 i) / 16) * 16 + ((b.2.1 i) % 16)) b).2.1)) ((pu (((b.2.1 i) / 16) * 16 + ((b.2.1 i) % 16)) b).1)) ((pu (((b.2.1 i) / 16) * 16 + ((b.2.1 i) % 16)) b).2.2)) o) (wa_v (N := 109) (i := 26) (As := [.int (nI ((b.2.1 i) / 16)), .int (nI ((b.2.1 i) % 16))]) (rest := []) rfl rfl rfl rfl rfl rfl rfl) rfl ((g_come (d := 0) (A := A) (R := (RA.s_tm (RA.s_mn (RA.s_cm R b.2.1) b.1) b.2.2)) (b := b) rfl h.1).up (by omega)) ?_
    refine wn_inc (b := 1) (l9 := [.ref 26, .int (nI f), .int (nI e), .int (nI 0), .int (nI (k9 + 1)), .int (nI (b.2.1 i)), .int (nI ((b.2.1 i) / 16)), .int (nI (od ((b.2.1 i) / 16)))]) (p9 := 94) rfl rfl rfl (by decide) rfl ?_
    refine wz_goto (p9 := 3) rfl rfl ?_
    rw [show b.2.1 i / 16 * 16 + b.2.1 i % 16 = b.2.1 i by omega]
    exact l_again0 T he j (k9 + 1) (i + 1) (pu (b.2.1 i) b) _ _ _ (by omega) hf (by omega) (BO_pu h (fun _ => hR)) (Nat.le_trans hb pu_le) kk
theorem g_again0 {X : Nat × (Nat → Int32)} {d : Nat} {A : CA} {R : RA} {o : Nat → Int64} {od : Nat → Nat} (T : TV R.P R.Mv R.t od) {f e : Nat} {b : Nat × (Nat → Nat) × Nat} (hb : (R.mn, R.cm, R.tm) = b) (h : BO od b) (hf : f ≤ e) (he : e ≤ b.1) : px_ev X (d + 4) 112 [.ref 26, .int (nI f), .int (nI e), .int (nI 0)] (WW A R o) (some none, WW A (sbr R (cp f (e - f) b)) o, 0, 0) := by
  refine wp_ev (d := d + 3) (by decide) rfl rfl (fun h => by cases h) ?_
  show wp X (d + 3) 112 (0, [.ref 26, .int (nI f), .int (nI e), .int (nI 0), .retAddr 0, .retAddr 0, .retAddr 0, .retAddr 0], [], WW A R o, 0, 0) _
  subst hb
  refine wz_iconst (x := nI 0) (p9 := 1) rfl rfl (by decide) ?_
  refine wz_istore (l9 := [.ref 26, .int (nI f), .int (nI e), .int (nI 0), .int (nI 0), .retAddr 0, .retAddr 0, .retAddr 0]) (p9 := 3) rfl rfl rfl rfl ?_
  refine l_again0 (R := R) T (by have := h.1; omega) (e - f) 0 f (R.mn, R.cm, R.tm) _ _ _ (Nat.zero_add _) hf rfl h he (fun _ lv => ?_)
  exact wz_retv rfl rfl rfl
/-- rows turned, from lo on, the first below i -/
def tz1 (od f : Nat → Nat) (lo i : Nat) : Nat → Nat := fun q => if lo ≤ q ∧ q < i then tw od (f q) else f q
theorem tz1_0 {od f : Nat → Nat} {lo : Nat} : tz1 od f lo lo = f := by funext q; unfold tz1; rw [if_neg (by omega)]
theorem tz1_s {od f : Nat → Nat} {lo i : Nat} (h : lo ≤ i) : un (tz1 od f lo i) i (tw od (f i)) = tz1 od f lo (i + 1) := by
  funext q
  by_cases e : q = i
  · rw [e, un_at]; unfold tz1; rw [if_pos (by omega)]
  · rw [un_ne e]
    unfold tz1
    by_cases h2 : lo ≤ q ∧ q < i
    · rw [if_pos h2, if_pos (by omega)]
    · rw [if_neg h2, if_neg (by omega)]
theorem tz1_ge {od f : Nat → Nat} {lo i q : Nat} (h : i ≤ q) : tz1 od f lo i q = f q := by unfold tz1; rw [if_neg (by omega)]
/-- k pairs at the ends of lo .. hi exchanged -/
def sw2 (f : Nat → Nat) (lo hi k : Nat) : Nat → Nat := fun q => if lo ≤ q ∧ q < hi ∧ (q < lo + k ∨ hi - k ≤ q) then f (lo + hi - 1 - q) else f q
theorem sw2_0 {f : Nat → Nat} {lo hi : Nat} : sw2 f lo hi 0 = f := by funext q; unfold sw2; rw [if_neg (by omega)]
theorem sw2_s {f : Nat → Nat} {lo hi k : Nat} (h : k < (hi - lo) / 2) : un (un (sw2 f lo hi k) (lo + k) (sw2 f lo hi k (hi - 1 - k))) (hi - 1 - k) (sw2 f lo hi k (lo + k)) = sw2 f lo hi (k + 1) := by
  have e1 : sw2 f lo hi k (hi - 1 - k) = f (hi - 1 - k) := by unfold sw2; rw [if_neg (by omega)]
  have e2 : sw2 f lo hi k (lo + k) = f (lo + k) := by unfold sw2; rw [if_neg (by omega)]
  rw [e1, e2]
  funext q
  by_cases h1 : q = hi - 1 - k
  · rw [h1, un_at]; unfold sw2; rw [if_pos (by omega)]; congr 1; omega
  · rw [un_ne h1]
    by_cases h2 : q = lo + k
    · rw [h2, un_at]; unfold sw2; rw [if_pos (by omega)]; congr 1; omega
    · rw [un_ne h2]
      unfold sw2
      by_cases h3 : lo ≤ q ∧ q < hi ∧ (q < lo + k ∨ hi - k ≤ q)
      · rw [if_pos h3, if_pos (by omega)]
      · rw [if_neg h3, if_neg (by omega)]
theorem sw2_rv {od f : Nat → Nat} {lo hi : Nat} : sw2 (tz1 od f lo hi) lo hi ((hi - lo) / 2) = rv od lo hi f := by
  funext q
  unfold sw2 rv
  by_cases h : lo ≤ q ∧ q < hi
  · rw [if_pos h]
    by_cases h2 : lo ≤ q ∧ q < hi ∧ (q < lo + (hi - lo) / 2 ∨ hi - (hi - lo) / 2 ≤ q)
    · rw [if_pos h2]; unfold tz1; rw [if_pos (by omega)]
    · rw [if_neg h2]
      unfold tz1
      rw [if_pos h]
      have e : lo + hi - 1 - q = q := by omega
      rw [e]
  · rw [if_neg h, if_neg (by omega)]
    unfold tz1
    rw [if_neg h]
theorem l_tr1 {X : Nat × (Nat → Int32)} {d : Nat} {A : CA} {R : RA} {o : Nat → Int64} {od : Nat → Nat} (T : TV R.P R.Mv R.t od) (h4 : R.mn ≤ 400) {f k z : Nat} (hr : ∀ i, f ≤ i → i < R.mn → ro od (R.cm i)) {Q : px_Z → Prop} (kk : ∀ v4, wp X (d + 3) 113 (67, [.ref 26, .int (nI f), .int (nI R.mn), .int (nI R.mn), v4], [], WW A (RA.s_cm R (tz1 od R.cm f R.mn)) o, k, z) Q) : ∀ (j i : Nat), i + j = R.mn → f ≤ i → ∀ v4, wp X (d + 3) 113 (7, [.ref 26, .int (nI f), .int (nI R.mn), .int (nI i), v4], [], WW A (RA.s_cm R (tz1 od R.cm f i)) o, k, z) Q
  | 0, i, hj, hf => by
    obtain rfl : i = R.mn := by omega
    intro v4
    refine wz_iload_n (p9 := 8) rfl rfl rfl ?_
    refine wz_iload_n (p9 := 9) rfl rfl rfl ?_
    refine wn_icge (t9 := 67) (p9 := 12) rfl rfl rfl (by omega) (by omega) (fun _ => ?_) (fun h9 => by omega)
    exact kk _
  | j + 1, i, hj, hf => by
    intro v4
    refine wz_iload_n (p9 := 8) rfl rfl rfl ?_
    refine wz_iload_n (p9 := 9) rfl rfl rfl ?_
    refine wn_icge (t9 := 67) (p9 := 12) rfl rfl rfl (by omega) (by omega) (fun h9 => by omega) (fun _ => ?_)
    have e9 : tz1 od R.cm f i i = R.cm i := tz1_ge (Nat.le_refl _)
    have hR := hr i (by omega) (by omega)
    have hR1 := hR.1
    have hR2 := hR.2
    have o1 := T.o1 (m := R.cm i / 16) (by omega)
    have o12 := T.o12 (m := R.cm i / 16) (by omega)
    refine wz_aload_n (p9 := 13) rfl rfl rfl ?_
    refine wz_aload_n (p9 := 14) rfl rfl rfl ?_
    refine wz_get (v := .ref 32) (p9 := 17) rfl rfl rfl rfl rfl ?_
    refine wz_iload_n (p9 := 18) rfl rfl rfl ?_
    refine wl_Rcm (f := tz1 od R.cm f i) (p9 := 19) rfl rfl rfl (by omega) ?_
    rw [e9]
    refine wz_bipush (x := nI 16) (p9 := 21) rfl rfl (by decide) ?_
    refine wn_div (p9 := 22) rfl rfl (by omega) (by omega) (by omega) ?_
    refine wz_c1 (p9 := 25) (w1 := WW A (RA.s_cm R (tz1 od R.cm f i)) o) (u := .int (nI (od ((R.cm i) / 16)))) (wa_v (N := 103) (i := 26) (As := [.int (nI ((R.cm i) / 16))]) (rest := []) rfl rfl rfl rfl rfl rfl rfl) rfl ((g_mOrder (d := 0) (A := A) (R := (RA.s_cm R (tz1 od R.cm f i))) T (by omega)).up (by omega)) ?_
    refine wz_istore (l9 := [.ref 26, .int (nI f), .int (nI R.mn), .int (nI i), .int (nI (od ((R.cm i) / 16)))]) (p9 := 27) rfl rfl rfl rfl ?_
    refine wz_aload_n (p9 := 28) rfl rfl rfl ?_
    refine wz_get (v := .ref 32) (p9 := 31) rfl rfl rfl rfl rfl ?_
    refine wz_iload_n (p9 := 32) rfl rfl rfl ?_
    refine wz_aload_n (p9 := 33) rfl rfl rfl ?_
    refine wz_get (v := .ref 32) (p9 := 36) rfl rfl rfl rfl rfl ?_
    refine wz_iload_n (p9 := 37) rfl rfl rfl ?_
    refine wl_Rcm (f := tz1 od R.cm f i) (p9 := 38) rfl rfl rfl (by omega) ?_
    rw [e9]
    refine wz_bipush (x := nI 16) (p9 := 40) rfl rfl (by decide) ?_
    refine wn_div (p9 := 41) rfl rfl (by omega) (by omega) (by omega) ?_
    refine wz_bipush (x := nI 16) (p9 := 43) rfl rfl (by decide) ?_
    refine wn_mul (p9 := 44) rfl rfl ?_
    refine wz_iload (p9 := 46) rfl rfl rfl ?_
    refine wz_aload_n (p9 := 47) rfl rfl rfl ?_
    refine wz_get (v := .ref 32) (p9 := 50) rfl rfl rfl rfl rfl ?_
    refine wz_iload_n (p9 := 51) rfl rfl rfl ?_
    refine wl_Rcm (f := tz1 od R.cm f i) (p9 := 52) rfl rfl rfl (by omega) ?_
    rw [e9]
    refine wz_bipush (x := nI 16) (p9 := 54) rfl rfl (by decide) ?_
    refine wn_rem (p9 := 55) rfl rfl (by omega) (by omega) (by omega) ?_
    refine wn_sub (p9 := 56) rfl rfl (by omega) ?_
    refine wz_iload (p9 := 58) rfl rfl rfl ?_
    refine wn_rem (p9 := 59) rfl rfl (by omega) (by omega) (by omega) ?_
    refine wn_add (p9 := 60) rfl rfl ?_
    refine ws_Rcm (f := tz1 od R.cm f i) (p9 := 61) rfl rfl rfl (by omega) (R1 := (RA.s_cm R (un (tz1 od R.cm f i) i ((((R.cm i) / 16) * 16) + (((od ((R.cm i) / 16)) - ((R.cm i) % 16)) % (od ((R.cm i) / 16))))))) rfl ?_
    refine wn_inc (b := 1) (l9 := [.ref 26, .int (nI f), .int (nI R.mn), .int (nI (i + 1)), .int (nI (od ((R.cm i) / 16)))]) (p9 := 64) rfl rfl rfl (by decide) rfl ?_
    refine wz_goto (p9 := 7) rfl rfl ?_
    rw [show un (tz1 od R.cm f i) i (R.cm i / 16 * 16 + (od (R.cm i / 16) - R.cm i % 16) % od (R.cm i / 16)) = tz1 od R.cm f (i + 1) from tz1_s hf]
    exact l_tr1 T h4 hr kk j (i + 1) (by omega) (by omega) _
theorem l_tr2 {X : Nat × (Nat → Int32)} {d : Nat} {A : CA} {R : RA} {o : Nat → Int64} (h4 : R.mn ≤ 400) {f k z : Nat} (hf : f ≤ R.mn) {Q : px_Z → Prop} (kk : Q (some none, WW A (RA.s_cm R (sw2 R.cm f R.mn ((R.mn - f) / 2))) o, k, z)) : ∀ (j i : Nat), i + j = (R.mn - f) / 2 → ∀ v4, wp X (d + 3) 113 (69, [.ref 26, .int (nI f), .int (nI R.mn), .int (nI i), v4], [], WW A (RA.s_cm R (sw2 R.cm f R.mn i)) o, k, z) Q
  | 0, i, hj => by
    obtain rfl : i = (R.mn - f) / 2 := by omega
    intro v4
    refine wz_iload_n (p9 := 70) rfl rfl rfl ?_
    refine wz_iload_n (p9 := 71) rfl rfl rfl ?_
    refine wz_iload_n (p9 := 72) rfl rfl rfl ?_
    refine wn_sub (p9 := 73) rfl rfl (by omega) ?_
    refine wz_iconst (x := nI 2) (p9 := 74) rfl rfl (by decide) ?_
    refine wn_div (p9 := 75) rfl rfl (by omega) (by omega) (by omega) ?_
    refine wn_icge (t9 := 124) (p9 := 78) rfl rfl rfl (by omega) (by omega) (fun _ => ?_) (fun h9 => by omega)
    exact wz_retv rfl rfl kk
  | j + 1, i, hj => by
    intro v4
    refine wz_iload_n (p9 := 70) rfl rfl rfl ?_
    refine wz_iload_n (p9 := 71) rfl rfl rfl ?_
    refine wz_iload_n (p9 := 72) rfl rfl rfl ?_
    refine wn_sub (p9 := 73) rfl rfl (by omega) ?_
    refine wz_iconst (x := nI 2) (p9 := 74) rfl rfl (by decide) ?_
    refine wn_div (p9 := 75) rfl rfl (by omega) (by omega) (by omega) ?_
    refine wn_icge (t9 := 124) (p9 := 78) rfl rfl rfl (by omega) (by omega) (fun h9 => by omega) (fun _ => ?_)
    refine wz_aload_n (p9 := 79) rfl rfl rfl ?_
    refine wz_get (v := .ref 32) (p9 := 82) rfl rfl rfl rfl rfl ?_
    refine wz_iload_n (p9 := 83) rfl rfl rfl ?_
    refine wz_iload_n (p9 := 84) rfl rfl rfl ?_
    refine wn_add (p9 := 85) rfl rfl ?_
    refine wl_Rcm (f := sw2 R.cm f R.mn i) (p9 := 86) rfl rfl rfl (by omega) ?_
    refine wz_istore (l9 := [.ref 26, .int (nI f), .int (nI R.mn), .int (nI i), .int (nI ((sw2 R.cm f R.mn i) (f + i)))]) (p9 := 88) rfl rfl rfl rfl ?_
    refine wz_aload_n (p9 := 89) rfl rfl rfl ?_
    refine wz_get (v := .ref 32) (p9 := 92) rfl rfl rfl rfl rfl ?_
    refine wz_iload_n (p9 := 93) rfl rfl rfl ?_
    refine wz_iload_n (p9 := 94) rfl rfl rfl ?_
    refine wn_add (p9 := 95) rfl rfl ?_
    refine wz_aload_n (p9 := 96) rfl rfl rfl ?_
    refine wz_get (v := .ref 32) (p9 := 99) rfl rfl rfl rfl rfl ?_
    refine wz_iload_n (p9 := 100) rfl rfl rfl ?_
    refine wz_iconst (x := nI 1) (p9 := 101) rfl rfl (by decide) ?_
    refine wn_sub (p9 := 102) rfl rfl (by omega) ?_
    refine wz_iload_n (p9 := 103) rfl rfl rfl ?_
    refine wn_sub (p9 := 104) rfl rfl (by omega) ?_
    refine wl_Rcm (f := sw2 R.cm f R.mn i) (p9 := 105) rfl rfl rfl (by omega) ?_
    refine ws_Rcm (f := sw2 R.cm f R.mn i) (p9 := 106) rfl rfl rfl (by omega) (R1 := (RA.s_cm R (un (sw2 R.cm f R.mn i) (f + i) ((sw2 R.cm f R.mn i) ((R.mn - 1) - i))))) rfl ?_
    refine wz_aload_n (p9 := 107) rfl rfl rfl ?_
    refine wz_get (v := .ref 32) (p9 := 110) rfl rfl rfl rfl rfl ?_
    refine wz_iload_n (p9 := 111) rfl rfl rfl ?_
    refine wz_iconst (x := nI 1) (p9 := 112) rfl rfl (by decide) ?_
    refine wn_sub (p9 := 113) rfl rfl (by omega) ?_
    refine wz_iload_n (p9 := 114) rfl rfl rfl ?_
    refine wn_sub (p9 := 115) rfl rfl (by omega) ?_
    refine wz_iload (p9 := 117) rfl rfl rfl ?_
    refine ws_Rcm (f := un (sw2 R.cm f R.mn i) (f + i) ((sw2 R.cm f R.mn i) ((R.mn - 1) - i))) (p9 := 118) rfl rfl rfl (by omega) (R1 := (RA.s_cm R (un (un (sw2 R.cm f R.mn i) (f + i) ((sw2 R.cm f R.mn i) ((R.mn - 1) - i))) ((R.mn - 1) - i) ((sw2 R.cm f R.mn i) (f + i))))) rfl ?_
    refine wn_inc (b := 1) (l9 := [.ref 26, .int (nI f), .int (nI R.mn), .int (nI (i + 1)), .int (nI ((sw2 R.cm f R.mn i) (f + i)))]) (p9 := 121) rfl rfl rfl (by decide) rfl ?_
    refine wz_goto (p9 := 69) rfl rfl ?_
    rw [sw2_s (by omega)]
    exact l_tr2 h4 hf kk j (i + 1) (by omega) _
theorem g_turnRound {X : Nat × (Nat → Int32)} {d : Nat} {A : CA} {R : RA} {o : Nat → Int64} {od : Nat → Nat} (T : TV R.P R.Mv R.t od) {f : Nat} (h4 : R.mn ≤ 400) (hf : f ≤ R.mn) (hr : ∀ i, f ≤ i → i < R.mn → ro od (R.cm i)) : px_ev X (d + 4) 113 [.ref 26, .int (nI f)] (WW A R o) (some none, WW A (RA.s_cm R (rv od f R.mn R.cm)) o, 0, 0) := by
  refine wp_ev (d := d + 3) (by decide) rfl rfl (fun h => by cases h) ?_
  show wp X (d + 3) 113 (0, [.ref 26, .int (nI f), .retAddr 0, .retAddr 0, .retAddr 0], [], WW A R o, 0, 0) _
  refine wz_aload_n (p9 := 1) rfl rfl rfl ?_
  refine wz_get (v := .int (nI R.mn)) (p9 := 4) rfl rfl rfl rfl rfl ?_
  refine wz_istore_n (l9 := [.ref 26, .int (nI f), .int (nI R.mn), .retAddr 0, .retAddr 0]) (p9 := 5) rfl rfl rfl rfl ?_
  refine wz_iload_n (p9 := 6) rfl rfl rfl ?_
  refine wz_istore_n (l9 := [.ref 26, .int (nI f), .int (nI R.mn), .int (nI f), .retAddr 0]) (p9 := 7) rfl rfl rfl rfl ?_
  have h8 := l_tr1 (X := X) (d := d) (A := A) (R := R) (o := o) (f := f) (k := 0) (z := 0) (Q := fun q => q = (some none, WW A (RA.s_cm R (rv od f R.mn R.cm)) o, 0, 0)) T h4 hr (fun v4 => ?_) (R.mn - f) f (by omega) (Nat.le_refl _) (.retAddr 0)
  · rw [tz1_0] at h8; exact h8
  refine wz_iconst (x := nI 0) (p9 := 68) rfl rfl (by decide) ?_
  refine wz_istore_n (l9 := [.ref 26, .int (nI f), .int (nI R.mn), .int (nI 0), v4]) (p9 := 69) rfl rfl rfl rfl ?_
  have h9 := l_tr2 (X := X) (d := d) (A := A) (R := RA.s_cm R (tz1 od R.cm f R.mn)) (o := o) (k := 0) (z := 0) (Q := fun q => q = (some none, WW A (RA.s_cm R (rv od f R.mn R.cm)) o, 0, 0)) h4 hf (by rw [← sw2_rv]; rfl) ((R.mn - f) / 2) 0 (Nat.zero_add _) v4
  rw [sw2_0] at h9
  exact h9
