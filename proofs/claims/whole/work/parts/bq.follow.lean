/-! CLASS AND REFERENCE SIDE BY SIDE: set-ups (wip/whole/gen/mkbq.py) -/
def RT (A : CA) (R : RA) : Prop := (TV A.P A.Mv A.t A.od) ∧ (R.P = A.P) ∧ (R.Mv = A.Mv) ∧ (R.t = A.t)
theorem RT.T {A : CA} {R : RA} (h : RT A R) : TV A.P A.Mv A.t A.od := h.1
theorem RT.p {A : CA} {R : RA} (h : RT A R) : R.P = A.P := h.2.1
theorem RT.m {A : CA} {R : RA} (h : RT A R) : R.Mv = A.Mv := h.2.2.1
theorem RT.t {A : CA} {R : RA} (h : RT A R) : R.t = A.t := h.2.2.2
theorem RT.TR {A : CA} {R : RA} (h : RT A R) : TV R.P R.Mv R.t A.od := by
  rw [h.p, h.m, h.t]
  exact h.T
theorem it_1 (f : Nat → Nat) (t y : Nat) : it f (t + 1) y = f (it f t y) := by
  rw [Nat.add_comm]
  exact it_add f t 1 y
theorem f1_at {tf : Nat → Nat → Nat} {F : Nat → Nat} {v m y q : Nat} : ∀ {j t y2 : Nat}, tf m y2 = it (tf m) t y → f1 tf F v m j t y2 = some q → ∃ s, t ≤ s ∧ s < t + j ∧ q = m * 16 + s ∧ F (it (tf m) s y) = v
  | 0, t, y2, _, e => by cases e
  | j + 1, t, y2, h, e => by
    unfold f1 at e
    split at e
    · rename_i hh
      cases e
      exact ⟨t, Nat.le_refl _, by omega, rfl, by rw [← h]; exact hh⟩
    · obtain ⟨s, h1, h2, h3, h4⟩ := f1_at (y := y) (by rw [h, it_1]) e
      exact ⟨s, by omega, by omega, h3, h4⟩
theorem f1_no {tf : Nat → Nat → Nat} {F : Nat → Nat} {v m y : Nat} : ∀ {j t y2 : Nat}, tf m y2 = it (tf m) t y → f1 tf F v m j t y2 = none → ∀ s, t ≤ s → s < t + j → F (it (tf m) s y) ≠ v
  | 0, t, y2, _, e, s, h1, h2 => absurd h1 (by omega)
  | j + 1, t, y2, h, e, s, h1, h2 => by
    unfold f1 at e
    split at e
    · cases e
    · rename_i hh
      by_cases c : s = t
      · rw [c, ← h]; exact hh
      · exact f1_no (by rw [h, it_1]) e s (by omega) (by omega)
theorem f2_at {tf : Nat → Nat → Nat} {od F : Nat → Nat} {v y q : Nat} : ∀ {j m : Nat}, f2 tf od F v y j m = some q → ∃ m2 s, m ≤ m2 ∧ m2 < m + j ∧ 1 ≤ s ∧ s < od m2 ∧ q = m2 * 16 + s ∧ F (it (tf m2) s y) = v
  | 0, m, e => by cases e
  | j + 1, m, e => by
    unfold f2 at e
    split at e
    · rename_i q2 hh
      cases e
      obtain ⟨s, h1, h2, h3, h4⟩ := f1_at (y := y) (t := 1) rfl hh
      exact ⟨m, s, Nat.le_refl _, by omega, h1, by omega, h3, h4⟩
    · obtain ⟨m2, s, h1, h2, h3⟩ := f2_at e
      exact ⟨m2, s, by omega, by omega, h3⟩
theorem f2_ex {tf : Nat → Nat → Nat} {od F : Nat → Nat} {v y m2 s : Nat} (h3 : 1 ≤ s) (h4 : s < od m2) (h5 : F (it (tf m2) s y) = v) : ∀ {j m : Nat}, m ≤ m2 → m2 < m + j → ∃ q, f2 tf od F v y j m = some q
  | 0, m, h1, h2 => absurd h1 (by omega)
  | j + 1, m, h1, h2 => by
    unfold f2
    split
    · rename_i q2 _; exact ⟨q2, rfl⟩
    · rename_i hh
      by_cases c : m2 = m
      · subst c
        exact absurd h5 (f1_no (y := y) (t := 1) rfl hh s h3 (by omega))
      · exact f2_ex h3 h4 h5 (by omega) (by omega)
theorem l_fo1 {X : Nat × (Nat → Int32)} {d : Nat} {A : CA} {R : RA} {o : Nat → Int64} (H : RT A R) {F : Nat → Nat} {v y : Nat} (hok : ok7 R.P (kp y)) (hfy : R.fa (kp y) = v + 1) (hb : ∀ q, q < 343 → R.fa q < 100) (hmn : R.mn < 100) {m : Nat} (hm : m < A.Mv) (hF : ∀ s, 1 ≤ s → s < A.od m → (R.fa (st7 R.t (kp y) m s) = v ↔ F (it ((fun m x => t3 (fun q => A.t (m * 7 + q)) x 3) m) s y) = v)) {k z : Nat} {Q : px_Z → Prop} : ∀ (j t y2 : Nat), t + j = A.od m → 1 ≤ t → (fun m x => t3 (fun q => A.t (m * 7 + q)) x 3) m y2 = it ((fun m x => t3 (fun q => A.t (m * 7 + q)) x 3) m) t y → (f1 (fun m x => t3 (fun q => A.t (m * 7 + q)) x 3) F v m j t y2 = none → wp X (d + 3) 150 (93, [.ref 26, .int (nI (kp y)), .int (nI m), .int (nI (A.od m)), .int (nI (A.od m))], [], WW A R o, k, z) Q) → (∀ s, 1 ≤ s → s < A.od m → f1 (fun m x => t3 (fun q => A.t (m * 7 + q)) x 3) F v m j t y2 = some (m * 16 + s) → Q (some (some (.int (nI (st7 R.t (kp y) m s)))), WW A (RA.s_mn (RA.s_cm R (un R.cm R.mn (m * 16 + s))) (R.mn + 1)) o, k, z)) → wp X (d + 3) 150 (19, [.ref 26, .int (nI (kp y)), .int (nI m), .int (nI (A.od m)), .int (nI t)], [], WW A R o, k, z) Q
  | 0, t, y2, hj, h1, hy2, kN, kS => by
    have m6 := H.T.m6
    have h12 := (H.T.ho m (by omega)).2.1
    obtain rfl : t = A.od m := by omega
    refine wz_iload (p9 := 21) rfl rfl rfl ?_
    refine wz_iload_n (p9 := 22) rfl rfl rfl ?_
    refine wn_icge (t9 := 93) (p9 := 25) rfl rfl rfl (by omega) (by omega) (fun _ => ?_) (fun h9 => by omega)
    exact kN rfl
  | j + 1, t, y2, hj, h1, hy2, kN, kS => by
    have m6 := H.T.m6
    have h12 := (H.T.ho m (by omega)).2.1
    have p7 := H.TR.p7
    have hst3 := ok7_lt p7 (st7_ok (s := t) p7 (H.TR.ht m) hok)
    have hk3 := ok7_lt p7 hok
    have hb9 := hb _ hst3
    have hb8 := hb _ hk3
    have hft := hF t h1 (by omega)
    by_cases hh : F (it ((fun m x => t3 (fun q => A.t (m * 7 + q)) x 3) m) t y) = v
    · have hft2 := hft.mpr hh
      refine wz_iload (p9 := 21) rfl rfl rfl ?_
      refine wz_iload_n (p9 := 22) rfl rfl rfl ?_
      refine wn_icge (t9 := 93) (p9 := 25) rfl rfl rfl (by omega) (by omega) (fun h9 => by omega) (fun _ => ?_)
      refine wz_aload_n (p9 := 26) rfl rfl rfl ?_
      refine wz_get (v := .ref 44) (p9 := 29) rfl rfl rfl rfl rfl ?_
      refine wz_aload_n (p9 := 30) rfl rfl rfl ?_
      refine wz_iload_n (p9 := 31) rfl rfl rfl ?_
      refine wz_iload_n (p9 := 32) rfl rfl rfl ?_
      refine wz_iload (p9 := 34) rfl rfl rfl ?_
      refine wz_c1 (p9 := 37) (w1 := WW A R o) (u := .int (nI (st7 R.t (kp y) m t))) (wa_v (N := 149) (i := 26) (As := [.int (nI (kp y)), .int (nI m), .int (nI t)]) (rest := [.ref 44]) rfl rfl rfl rfl rfl rfl rfl) rfl ((g_seats (d := 0) H.TR hok (by omega) (by omega)).up (by omega)) ?_
      refine wl_Rfa (f := R.fa) (p9 := 38) rfl rfl rfl hst3 ?_
      refine wz_aload_n (p9 := 39) rfl rfl rfl ?_
      refine wz_get (v := .ref 44) (p9 := 42) rfl rfl rfl rfl rfl ?_
      refine wz_iload_n (p9 := 43) rfl rfl rfl ?_
      refine wl_Rfa (f := R.fa) (p9 := 44) rfl rfl rfl (by omega) ?_
      refine wz_iconst (x := nI 1) (p9 := 45) rfl rfl (by decide) ?_
      refine wn_sub (p9 := 46) rfl rfl (by omega) ?_
      refine wn_iceq (t9 := 52) (p9 := 49) rfl rfl rfl (by omega) (by omega) (fun _ => ?_) (fun h9 => by omega)
      refine wz_aload_n (p9 := 53) rfl rfl rfl ?_
      refine wz_get (v := .ref 32) (p9 := 56) rfl rfl rfl rfl rfl ?_
      refine wz_aload_n (p9 := 57) rfl rfl rfl ?_
      refine wz_get (v := .int (nI R.mn)) (p9 := 60) rfl rfl rfl rfl rfl ?_
      refine wz_bipush (x := nI 16) (p9 := 62) rfl rfl (by decide) ?_
      refine wz_iload_n (p9 := 63) rfl rfl rfl ?_
      refine wn_mul (p9 := 64) rfl rfl ?_
      refine wz_iload (p9 := 66) rfl rfl rfl ?_
      refine wn_add (p9 := 67) rfl rfl ?_
      refine ws_Rcm (f := R.cm) (p9 := 68) rfl rfl rfl (by omega) (R1 := (RA.s_cm R (un R.cm R.mn ((16 * m) + t)))) rfl ?_
      refine wz_aload_n (p9 := 69) rfl rfl rfl ?_
      refine wz_dupr (p9 := 70) rfl rfl ?_
      refine wz_get (v := .int (nI R.mn)) (p9 := 73) rfl rfl rfl rfl rfl ?_
      refine wz_iconst (x := nI 1) (p9 := 74) rfl rfl (by decide) ?_
      refine wn_add (p9 := 75) rfl rfl ?_
      refine wp_Rmn (x := (R.mn + 1)) (p9 := 78) rfl rfl rfl rfl (R1 := (RA.s_mn (RA.s_cm R (un R.cm R.mn ((16 * m) + t))) (R.mn + 1))) rfl ?_
      refine wz_aload_n (p9 := 79) rfl rfl rfl ?_
      refine wz_iload_n (p9 := 80) rfl rfl rfl ?_
      refine wz_iload_n (p9 := 81) rfl rfl rfl ?_
      refine wz_iload (p9 := 83) rfl rfl rfl ?_
      refine wz_c1 (p9 := 86) (w1 := WW A (RA.s_mn (RA.s_cm R (un R.cm R.mn ((16 * m) + t))) (R.mn + 1)) o) (u := .int (nI (st7 R.t (kp y) m t))) (wa_v (N := 149) (i := 26) (As := [.int (nI (kp y)), .int (nI m), .int (nI t)]) (rest := []) rfl rfl rfl rfl rfl rfl rfl) rfl ((g_seats (d := 0) (A := A) (R := (RA.s_mn (RA.s_cm R (un R.cm R.mn ((16 * m) + t))) (R.mn + 1))) H.TR hok (by omega) (by omega)).up (by omega)) ?_
      rw [Nat.mul_comm 16 m]
      exact wz_reti rfl rfl (kS t h1 (by omega) (if_pos (by rw [hy2]; exact hh)))
    · have hft2 : R.fa (st7 R.t (kp y) m t) ≠ v := fun q => hh (hft.mp q)
      refine wz_iload (p9 := 21) rfl rfl rfl ?_
      refine wz_iload_n (p9 := 22) rfl rfl rfl ?_
      refine wn_icge (t9 := 93) (p9 := 25) rfl rfl rfl (by omega) (by omega) (fun h9 => by omega) (fun _ => ?_)
      refine wz_aload_n (p9 := 26) rfl rfl rfl ?_
      refine wz_get (v := .ref 44) (p9 := 29) rfl rfl rfl rfl rfl ?_
      refine wz_aload_n (p9 := 30) rfl rfl rfl ?_
      refine wz_iload_n (p9 := 31) rfl rfl rfl ?_
      refine wz_iload_n (p9 := 32) rfl rfl rfl ?_
      refine wz_iload (p9 := 34) rfl rfl rfl ?_
      refine wz_c1 (p9 := 37) (w1 := WW A R o) (u := .int (nI (st7 R.t (kp y) m t))) (wa_v (N := 149) (i := 26) (As := [.int (nI (kp y)), .int (nI m), .int (nI t)]) (rest := [.ref 44]) rfl rfl rfl rfl rfl rfl rfl) rfl ((g_seats (d := 0) H.TR hok (by omega) (by omega)).up (by omega)) ?_
      refine wl_Rfa (f := R.fa) (p9 := 38) rfl rfl rfl hst3 ?_
      refine wz_aload_n (p9 := 39) rfl rfl rfl ?_
      refine wz_get (v := .ref 44) (p9 := 42) rfl rfl rfl rfl rfl ?_
      refine wz_iload_n (p9 := 43) rfl rfl rfl ?_
      refine wl_Rfa (f := R.fa) (p9 := 44) rfl rfl rfl (by omega) ?_
      refine wz_iconst (x := nI 1) (p9 := 45) rfl rfl (by decide) ?_
      refine wn_sub (p9 := 46) rfl rfl (by omega) ?_
      refine wn_iceq (t9 := 52) (p9 := 49) rfl rfl rfl (by omega) (by omega) (fun h9 => by omega) (fun _ => ?_)
      refine wz_goto (p9 := 87) rfl rfl ?_
      refine wn_inc (b := 1) (l9 := [.ref 26, .int (nI (kp y)), .int (nI m), .int (nI (A.od m)), .int (nI (t + 1))]) (p9 := 90) rfl rfl rfl (by decide) rfl ?_
      refine wz_goto (p9 := 19) rfl rfl ?_
      have e7 : f1 (fun m x => t3 (fun q => A.t (m * 7 + q)) x 3) F v m (j + 1) t y2 = f1 (fun m x => t3 (fun q => A.t (m * 7 + q)) x 3) F v m j (t + 1) ((fun m x => t3 (fun q => A.t (m * 7 + q)) x 3) m y2) := if_neg (by rw [hy2]; exact hh)
      exact l_fo1 H hok hfy hb hmn hm hF j (t + 1) _ (by omega) (by omega) (by rw [hy2, it_1]) (fun e => kN (e7.trans e)) (fun s a1 a2 e => kS s a1 a2 (e7.trans e))
theorem l_fo2 {X : Nat × (Nat → Int32)} {d : Nat} {A : CA} {R : RA} {o : Nat → Int64} (H : RT A R) {F : Nat → Nat} {v y : Nat} (hok : ok7 R.P (kp y)) (hfy : R.fa (kp y) = v + 1) (hb : ∀ q, q < 343 → R.fa q < 100) (hmn : R.mn < 100) (hF : ∀ m s, m < A.Mv → 1 ≤ s → s < A.od m → (R.fa (st7 R.t (kp y) m s) = v ↔ F (it ((fun m x => t3 (fun q => A.t (m * 7 + q)) x 3) m) s y) = v)) {k z row : Nat} {Q : px_Z → Prop} : ∀ (j m : Nat), m + j = A.Mv → f2 (fun m x => t3 (fun q => A.t (m * 7 + q)) x 3) A.od F v y j m = some row → (∀ m s, m < A.Mv → 1 ≤ s → s < A.od m → row = m * 16 + s → Q (some (some (.int (nI (st7 R.t (kp y) m s)))), WW A (RA.s_mn (RA.s_cm R (un R.cm R.mn (m * 16 + s))) (R.mn + 1)) o, k, z)) → ∀ v3 v4, wp X (d + 3) 150 (2, [.ref 26, .int (nI (kp y)), .int (nI m), v3, v4], [], WW A R o, k, z) Q
  | 0, m, hj, e, kS => by cases e
  | j + 1, m, hj, e, kS => by
    intro v3 v4
    have m6 := H.T.m6
    have hMv : R.Mv = A.Mv := H.m
    have h1o := (H.T.ho m (by omega)).1
    refine wz_iload_n (p9 := 3) rfl rfl rfl ?_
    refine wz_aload_n (p9 := 4) rfl rfl rfl ?_
    refine wz_get (v := .int (nI R.Mv)) (p9 := 7) rfl rfl rfl rfl rfl ?_
    refine wn_icge (t9 := 99) (p9 := 10) rfl rfl rfl (by omega) (by omega) (fun h9 => by omega) (fun _ => ?_)
    refine wz_aload_n (p9 := 11) rfl rfl rfl ?_
    refine wz_iload_n (p9 := 12) rfl rfl rfl ?_
    refine wz_c1 (p9 := 15) (w1 := WW A R o) (u := .int (nI (A.od m))) (wa_v (N := 103) (i := 26) (As := [.int (nI m)]) (rest := []) rfl rfl rfl rfl rfl rfl rfl) rfl ((g_mOrder (d := 0) H.TR (by omega)).up (by omega)) ?_
    refine wz_istore_n (l9 := [.ref 26, .int (nI (kp y)), .int (nI m), .int (nI (A.od m)), v4]) (p9 := 16) rfl rfl rfl rfl ?_
    refine wz_iconst (x := nI 1) (p9 := 17) rfl rfl (by decide) ?_
    refine wz_istore (l9 := [.ref 26, .int (nI (kp y)), .int (nI m), .int (nI (A.od m)), .int (nI 1)]) (p9 := 19) rfl rfl rfl rfl ?_
    refine l_fo1 H hok hfy hb hmn (by omega) (fun s a1 a2 => hF m s (by omega) a1 a2) (A.od m - 1) 1 y (by omega) (by omega) rfl (fun e1 => ?_) (fun s a1 a2 e1 => ?_)
    · have e2 : f2 (fun m x => t3 (fun q => A.t (m * 7 + q)) x 3) A.od F v y j (m + 1) = some row := by
        unfold f2 at e
        rw [e1] at e
        exact e
      refine wn_inc (b := 1) (l9 := [.ref 26, .int (nI (kp y)), .int (nI (m + 1)), .int (nI (A.od m)), .int (nI (A.od m))]) (p9 := 96) rfl rfl rfl (by decide) rfl ?_
      refine wz_goto (p9 := 2) rfl rfl ?_
      exact l_fo2 H hok hfy hb hmn hF j (m + 1) (by omega) e2 kS _ _
    · refine kS m s (by omega) a1 a2 ?_
      unfold f2 at e
      rw [e1] at e
      exact (Option.some.inj e).symm
theorem g_mFollow {X : Nat × (Nat → Int32)} {d : Nat} {A : CA} {R : RA} {o : Nat → Int64} (H : RT A R) {F : Nat → Nat} {v y : Nat} (hok : ok7 R.P (kp y)) (hfy : R.fa (kp y) = v + 1) (hb : ∀ q, q < 343 → R.fa q < 100) (hmn : R.mn < 100) (hF : ∀ m s, m < A.Mv → 1 ≤ s → s < A.od m → (R.fa (st7 R.t (kp y) m s) = v ↔ F (it ((fun m x => t3 (fun q => A.t (m * 7 + q)) x 3) m) s y) = v)) {row : Nat} (e : f2 (fun m x => t3 (fun q => A.t (m * 7 + q)) x 3) A.od F v y A.Mv 0 = some row) : ∃ m s, m < A.Mv ∧ 1 ≤ s ∧ s < A.od m ∧ row = m * 16 + s ∧ F (it ((fun m x => t3 (fun q => A.t (m * 7 + q)) x 3) m) s y) = v ∧ px_ev X (d + 4) 150 [.ref 26, .int (nI (kp y))] (WW A R o) (some (some (.int (nI (st7 R.t (kp y) m s)))), WW A (RA.s_mn (RA.s_cm R (un R.cm R.mn row)) (R.mn + 1)) o, 0, 0) := by
  obtain ⟨m, s, _, h2, h3, h4, h5, h6⟩ := f2_at e
  have m6 := H.T.m6
  have h12 := (H.T.ho m (by omega)).2.1
  refine ⟨m, s, by omega, h3, h4, h5, h6, wp_ev (d := d + 3) (by decide) rfl rfl (fun h => by cases h) ?_⟩
  show wp X (d + 3) 150 (0, [.ref 26, .int (nI (kp y)), .retAddr 0, .retAddr 0, .retAddr 0], [], WW A R o, 0, 0) _
  refine wz_iconst (x := nI 0) (p9 := 1) rfl rfl (by decide) ?_
  refine wz_istore_n (l9 := [.ref 26, .int (nI (kp y)), .int (nI 0), .retAddr 0, .retAddr 0]) (p9 := 2) rfl rfl rfl rfl ?_
  refine l_fo2 H hok hfy hb hmn hF A.Mv 0 (by omega) e (fun m2 s2 a1 a2 a3 a4 => ?_) _ _
  have h12b := (H.T.ho m2 (by omega)).2.1
  obtain rfl : m2 = m := by omega
  obtain rfl : s2 = s := by omega
  rw [h5]
theorem wk_ds {P Mv e : Nat} {tf : Nat → Nat → Nat} {od : Nat → Nat} {r y : Nat} (h : ds (wk tf od Mv e) (r + 1) y) : ∃ m s, m < Mv ∧ 1 ≤ s ∧ s < od m ∧ ds (wk tf od Mv e) r (it (tf m) s y) := by
  obtain ⟨⟨m, s, h1, h2, h3, h4⟩, h5⟩ := h
  exact ⟨m, s, h1, h2, h3, h4, fun q hq hw => h5 (q + 1) (by omega) ⟨m, s, h1, h2, h3, hw⟩⟩
theorem l_path {X : Nat × (Nat → Int32)} {d : Nat} {A : CA} {R : RA} {o : Nat → Int64} (H : RT A R) {F : Nat → Nat} {e N : Nat} (hN : N ≤ 9) (hb : ∀ q, q < 343 → R.fa q < 100) (hFF : ∀ x r, x < 512 → o3 A.P x → r < 1000 → (F x = r ↔ ds (wk (fun m x => t3 (fun q => A.t (m * 7 + q)) x 3) A.od A.Mv e) r x)) (hfa : ∀ x r, x < 512 → o3 A.P x → r ≤ N → (R.fa (kp x) = r ↔ ds (wk (fun m x => t3 (fun q => A.t (m * 7 + q)) x 3) A.od A.Mv e) r x)) {v1 v2 v3 : Value} {k z : Nat} {Q : px_Z → Prop} : ∀ (j c y : Nat) (cm2 pa2 : Nat → Nat), y < 512 → o3 A.P y → ds (wk (fun m x => t3 (fun q => A.t (m * 7 + q)) x 3) A.od A.Mv e) j y → j ≤ N → c + j ≤ 9 → (∀ q, q < c → cm2 q = pa2 q) → (∀ cm1 h4, (∀ q, q < c + j → cm1 q = fp (fun m x => t3 (fun q => A.t (m * 7 + q)) x 3) A.od F A.Mv j c y pa2 q) → wp X (d + 4) 144 (152, [.ref 26, v1, v2, v3, h4], [], WW A (RA.s_mn (RA.s_cm R cm1) (c + j)) o, k, z) Q) → wp X (d + 4) 144 (131, [.ref 26, v1, v2, v3, .int (nI (kp y))], [], WW A (RA.s_mn (RA.s_cm R cm2) c) o, k, z) Q
  | 0, c, y, cm2, pa2, hy, hy3, hds, hjN, hcj, hcm, kk => by
    have p7 := H.T.p7
    have hk3 := ok7_lt p7 (kp_ok p7 hy3)
    have hf9 := (hfa y 0 hy hy3 hjN).mpr hds
    refine wz_aload_n (p9 := 132) rfl rfl rfl ?_
    refine wz_get (v := .ref 44) (p9 := 135) rfl rfl rfl rfl rfl ?_
    refine wz_iload (p9 := 137) rfl rfl rfl ?_
    refine wl_Rfa (f := R.fa) (p9 := 138) rfl rfl rfl (by omega) ?_
    refine wn_ifle (t9 := 152) (p9 := 141) rfl rfl rfl (by omega) (fun _ => ?_) (fun h9 => by omega)
    exact kk cm2 _ (fun q hq => hcm q hq)
  | j + 1, c, y, cm2, pa2, hy, hy3, hds, hjN, hcj, hcm, kk => by
    have p7 := H.T.p7
    have m6 := H.T.m6
    have hk7 := kp_ok p7 hy3
    have hk3 := ok7_lt p7 hk7
    have hf9 := (hfa y (j + 1) hy hy3 hjN).mpr hds
    have hit : ∀ m s, it ((fun m x => t3 (fun q => A.t (m * 7 + q)) x 3) m) s y < 512 ∧ o3 A.P (it ((fun m x => t3 (fun q => A.t (m * 7 + q)) x 3) m) s y) := fun m s => it_ok (fun y h => o3_t3 p7 H.T.ht h) s y hy hy3
    have hkp : ∀ m s, st7 R.t (kp y) m s = kp (it ((fun m x => t3 (fun q => A.t (m * 7 + q)) x 3) m) s y) := fun m s => by rw [H.t]; exact (kp_it p7 H.T.ht hy3).symm
    have hF : ∀ m s, m < A.Mv → 1 ≤ s → s < A.od m → (R.fa (st7 R.t (kp y) m s) = j ↔ F (it ((fun m x => t3 (fun q => A.t (m * 7 + q)) x 3) m) s y) = j) := fun m s _ _ _ => by
      rw [hkp, hfa _ j (hit m s).1 (hit m s).2 (by omega), hFF _ j (hit m s).1 (hit m s).2 (by omega)]
    obtain ⟨m0, s0, a1, a2, a3, a4⟩ := wk_ds (P := A.P) hds
    obtain ⟨row, hrow⟩ := f2_ex (tf := (fun m x => t3 (fun q => A.t (m * 7 + q)) x 3)) (od := A.od) (F := F) a2 a3 ((hFF _ j (hit m0 s0).1 (hit m0 s0).2 (by omega)).mpr a4) (j := A.Mv) (m := 0) (by omega) (by omega)
    obtain ⟨m, s, b1, b2, b3, b4, b5, hfol⟩ := g_mFollow (X := X) (d := 0) (A := A) (R := (RA.s_mn (RA.s_cm R cm2) c)) (o := o) (F := F) (v := j) (y := y) H (by rw [show RA.P (RA.s_mn (RA.s_cm R cm2) c) = A.P from H.p]; exact hk7) hf9 hb (show c < 100 by omega) hF hrow
    have h12 := (H.T.ho m (by omega)).2.1
    refine wz_aload_n (p9 := 132) rfl rfl rfl ?_
    refine wz_get (v := .ref 44) (p9 := 135) rfl rfl rfl rfl rfl ?_
    refine wz_iload (p9 := 137) rfl rfl rfl ?_
    refine wl_Rfa (f := R.fa) (p9 := 138) rfl rfl rfl (by omega) ?_
    refine wn_ifle (t9 := 152) (p9 := 141) rfl rfl rfl (by omega) (fun h9 => by omega) (fun _ => ?_)
    refine wz_aload_n (p9 := 142) rfl rfl rfl ?_
    refine wz_iload (p9 := 144) rfl rfl rfl ?_
    refine wz_c1 (p9 := 147) (w1 := WW A (RA.s_mn (RA.s_cm R (un cm2 c row)) (c + 1)) o) (u := .int (nI (st7 R.t (kp y) m s))) (wa_v (N := 150) (i := 26) (As := [.int (nI (kp y))]) (rest := []) rfl rfl rfl rfl rfl rfl rfl) rfl (hfol.up (by omega)) ?_
    refine wz_istore (l9 := [.ref 26, v1, v2, v3, .int (nI (st7 R.t (kp y) m s))]) (p9 := 149) rfl rfl rfl rfl ?_
    refine wz_goto (p9 := 131) rfl rfl ?_
    rw [hkp m s]
    have e16 : row / 16 = m := by omega
    have e17 : row % 16 = s := by omega
    have efp : fp (fun m x => t3 (fun q => A.t (m * 7 + q)) x 3) A.od F A.Mv (j + 1) c y pa2 = fp (fun m x => t3 (fun q => A.t (m * 7 + q)) x 3) A.od F A.Mv j (c + 1) (it ((fun m x => t3 (fun q => A.t (m * 7 + q)) x 3) m) s y) (un pa2 c row) := by
      show fp (fun m x => t3 (fun q => A.t (m * 7 + q)) x 3) A.od F A.Mv j (c + 1) (it ((fun m x => t3 (fun q => A.t (m * 7 + q)) x 3) ((f2 (fun m x => t3 (fun q => A.t (m * 7 + q)) x 3) A.od F j y A.Mv 0).getD 0 / 16)) ((f2 (fun m x => t3 (fun q => A.t (m * 7 + q)) x 3) A.od F j y A.Mv 0).getD 0 % 16) y) (un pa2 c ((f2 (fun m x => t3 (fun q => A.t (m * 7 + q)) x 3) A.od F j y A.Mv 0).getD 0)) = _
      rw [hrow, show (some row).getD 0 = row from rfl, e16, e17]
    refine l_path H hN hb hFF hfa j (c + 1) (it ((fun m x => t3 (fun q => A.t (m * 7 + q)) x 3) m) s y) (un cm2 c row) (un pa2 c row) (hit m s).1 (hit m s).2 ((hFF _ j (hit m s).1 (hit m s).2 (by omega)).mp b5) (by omega) (by omega) (fun q hq => ?_) (fun cm1 h4 h5 => ?_)
    · by_cases c9 : q = c
      · rw [c9, un_at, un_at]
      · rw [un_ne c9, un_ne c9]; exact hcm q (by omega)
    · have h9 := kk cm1 h4 (fun q hq => by rw [efp]; exact h5 q (by omega))
      rw [show c + 1 + j = c + (j + 1) by omega]
      exact h9
