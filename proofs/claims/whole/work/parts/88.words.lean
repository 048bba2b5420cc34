/-! THE CLASS: shortenRows, words (wip/whole/gen/mk88.py) -/
/-- rows shortened: j rows left, from the i-th on; k are kept -/
def sh (od : Nat → Nat) : Nat → Nat → Nat → (Nat → Nat) → Nat × (Nat → Nat)
  | 0, _, k, f => (k, f)
  | j + 1, i, k, f =>
    if 0 < k ∧ f (k - 1) / 16 = f i / 16 then (if 0 < (f i % 16 + f (k - 1) % 16) % od (f i / 16) then sh od j (i + 1) (k - 1 + 1) (un f (k - 1) (f i / 16 * 16 + (f i % 16 + f (k - 1) % 16) % od (f i / 16))) else sh od j (i + 1) (k - 1) f)
    else (if 0 < f i % 16 then sh od j (i + 1) (k + 1) (un f k (f i / 16 * 16 + f i % 16)) else sh od j (i + 1) k f)
theorem ro_un {od : Nat → Nat} {f : Nat → Nat} {n k v : Nat} (h : ∀ q, q < n → ro od (f q)) (hv : ro od v) : ∀ q, q < n → ro od (un f k v q) := by
  intro q hq
  by_cases e : q = k
  · rw [e, un_at]; exact hv
  · rw [un_ne e]; exact h q hq
theorem l_shorten {X : Nat × (Nat → Int32)} {d : Nat} {A : CA} {R : RA} {o : Nat → Int64} (T : TV A.P A.Mv A.t A.od) (h4 : A.rc ≤ 400) {kk0 z : Nat} {Q : px_Z → Prop} : ∀ (j i k : Nat) (f : Nat → Nat) (v3 v4 : Value), i + j = A.rc → k ≤ i → (∀ q, q < A.rc → ro A.od (f q)) → (∀ i8 v3 v4, wp X (d + 1) 30 (101, [.ref 4, .int (nI (sh A.od j i k f).1), i8, v3, v4], [], WW (CA.s_bu A (sh A.od j i k f).2) R o, kk0, z) Q) → wp X (d + 1) 30 (4, [.ref 4, .int (nI k), .int (nI i), v3, v4], [], WW (CA.s_bu A f) R o, kk0, z) Q
  | 0, i, k, f, v3, v4, hj, hk, hr, kk => by
    refine wz_iload_n (p9 := 5) rfl rfl rfl ?_
    refine wz_aload_n (p9 := 6) rfl rfl rfl ?_
    refine wz_get (v := .int (nI A.rc)) (p9 := 9) rfl rfl rfl rfl rfl ?_
    refine wn_icge (t9 := 101) (p9 := 12) rfl rfl rfl (by omega) (by omega) (fun _ => ?_) (fun h9 => by omega)
    exact kk _ _ _
  | j + 1, i, k, f, v3, v4, hj, hk, hr, kk => by
    refine wz_iload_n (p9 := 5) rfl rfl rfl ?_
    refine wz_aload_n (p9 := 6) rfl rfl rfl ?_
    refine wz_get (v := .int (nI A.rc)) (p9 := 9) rfl rfl rfl rfl rfl ?_
    refine wn_icge (t9 := 101) (p9 := 12) rfl rfl rfl (by omega) (by omega) (fun h9 => by omega) (fun _ => ?_)
    have b0 := (hr i (by omega)).1
    have b1 := T.o1 (m := f i / 16) (by omega)
    have b2 := T.o12 (m := f i / 16) (by omega)
    have b3 : (f i % 16 + f (k - 1) % 16) % A.od (f i / 16) < A.od (f i / 16) := Nat.mod_lt _ (by omega)
    have b4 : 0 < k → f (k - 1) < 96 := fun h => (hr (k - 1) (by omega)).1
    refine wz_aload_n (p9 := 13) rfl rfl rfl ?_
    refine wz_get (v := .ref 9) (p9 := 16) rfl rfl rfl rfl rfl ?_
    refine wz_iload_n (p9 := 17) rfl rfl rfl ?_
    refine wl_Abu (f := f) (p9 := 18) rfl rfl rfl (by omega) ?_
    refine wz_iconst (x := nI 4) (p9 := 19) rfl rfl (by decide) ?_
    refine wn_shr4 (p9 := 20) rfl rfl (by omega) ?_
    refine wz_istore_n (l9 := [.ref 4, .int (nI k), .int (nI i), .int (nI ((f i) / 16)), v4]) (p9 := 21) rfl rfl rfl rfl ?_
    refine wz_aload_n (p9 := 22) rfl rfl rfl ?_
    refine wz_get (v := .ref 9) (p9 := 25) rfl rfl rfl rfl rfl ?_
    refine wz_iload_n (p9 := 26) rfl rfl rfl ?_
    refine wl_Abu (f := f) (p9 := 27) rfl rfl rfl (by omega) ?_
    refine wz_bipush (x := nI 15) (p9 := 29) rfl rfl (by decide) ?_
    refine wn_and15 (p9 := 30) rfl rfl ?_
    refine wz_istore (l9 := [.ref 4, .int (nI k), .int (nI i), .int (nI ((f i) / 16)), .int (nI ((f i) % 16))]) (p9 := 32) rfl rfl rfl rfl ?_
    refine wz_iload_n (p9 := 33) rfl rfl rfl ?_
    refine wn_ifle (t9 := 75) (p9 := 36) rfl rfl rfl (by omega) (fun h33 => ?_) (fun h33 => ?_)
    · refine wz_iload (p9 := 77) rfl rfl rfl ?_
      refine wn_ifle (t9 := 95) (p9 := 80) rfl rfl rfl (by omega) (fun h77 => ?_) (fun h77 => ?_)
      · refine wn_inc (b := 1) (l9 := [.ref 4, .int (nI k), .int (nI (i + 1)), .int (nI ((f i) / 16)), .int (nI ((f i) % 16))]) (p9 := 98) rfl rfl rfl (by decide) rfl ?_
        refine wz_goto (p9 := 4) rfl rfl ?_
        have e9 : sh A.od (j + 1) i k f = sh A.od j (i + 1) k f := (if_neg (fun q => absurd q.1 (by omega))).trans (if_neg (by omega))
        rw [e9] at kk
        exact l_shorten T h4 j (i + 1) k f _ _ (by omega) (by omega) hr kk
      · refine wz_aload_n (p9 := 81) rfl rfl rfl ?_
        refine wz_get (v := .ref 9) (p9 := 84) rfl rfl rfl rfl rfl ?_
        refine wz_iload_n (p9 := 85) rfl rfl rfl ?_
        refine wz_iload_n (p9 := 86) rfl rfl rfl ?_
        refine wz_iconst (x := nI 4) (p9 := 87) rfl rfl (by decide) ?_
        refine wn_shl4 (p9 := 88) rfl rfl ?_
        refine wz_iload (p9 := 90) rfl rfl rfl ?_
        refine wn_or16 (p9 := 91) rfl rfl (by omega) ?_
        refine ws_Abu (f := f) (p9 := 92) rfl rfl rfl (by omega) (A1 := (CA.s_bu A (un f k (((f i) / 16) * 16 + ((f i) % 16))))) rfl ?_
        refine wn_inc (b := 1) (l9 := [.ref 4, .int (nI (k + 1)), .int (nI i), .int (nI ((f i) / 16)), .int (nI ((f i) % 16))]) (p9 := 95) rfl rfl rfl (by decide) rfl ?_
        refine wn_inc (b := 1) (l9 := [.ref 4, .int (nI (k + 1)), .int (nI (i + 1)), .int (nI ((f i) / 16)), .int (nI ((f i) % 16))]) (p9 := 98) rfl rfl rfl (by decide) rfl ?_
        refine wz_goto (p9 := 4) rfl rfl ?_
        have e9 : sh A.od (j + 1) i k f = sh A.od j (i + 1) (k + 1) (un f k (((f i) / 16) * 16 + ((f i) % 16))) := (if_neg (fun q => absurd q.1 (by omega))).trans (if_pos h77)
        rw [e9] at kk
        exact l_shorten T h4 j (i + 1) (k + 1) (un f k (((f i) / 16) * 16 + ((f i) % 16))) _ _ (by omega) (by omega) (ro_un hr (by rw [show f i / 16 * 16 + f i % 16 = f i by omega]; exact hr i (by omega))) kk
    · refine wz_aload_n (p9 := 37) rfl rfl rfl ?_
      refine wz_get (v := .ref 9) (p9 := 40) rfl rfl rfl rfl rfl ?_
      refine wz_iload_n (p9 := 41) rfl rfl rfl ?_
      refine wz_iconst (x := nI 1) (p9 := 42) rfl rfl (by decide) ?_
      refine wn_sub (p9 := 43) rfl rfl (by omega) ?_
      refine wl_Abu (f := f) (p9 := 44) rfl rfl rfl (by omega) ?_
      refine wz_iconst (x := nI 4) (p9 := 45) rfl rfl (by decide) ?_
      refine wn_shr4 (p9 := 46) rfl rfl (by omega) ?_
      refine wz_iload_n (p9 := 47) rfl rfl rfl ?_
      refine wn_icne (t9 := 75) (p9 := 50) rfl rfl rfl (by omega) (by omega) (fun h47 => ?_) (fun h47 => ?_)
      · refine wz_iload (p9 := 77) rfl rfl rfl ?_
        refine wn_ifle (t9 := 95) (p9 := 80) rfl rfl rfl (by omega) (fun h77 => ?_) (fun h77 => ?_)
        · refine wn_inc (b := 1) (l9 := [.ref 4, .int (nI k), .int (nI (i + 1)), .int (nI ((f i) / 16)), .int (nI ((f i) % 16))]) (p9 := 98) rfl rfl rfl (by decide) rfl ?_
          refine wz_goto (p9 := 4) rfl rfl ?_
          have e9 : sh A.od (j + 1) i k f = sh A.od j (i + 1) k f := (if_neg (fun q => h47 q.2)).trans (if_neg (by omega))
          rw [e9] at kk
          exact l_shorten T h4 j (i + 1) k f _ _ (by omega) (by omega) hr kk
        · refine wz_aload_n (p9 := 81) rfl rfl rfl ?_
          refine wz_get (v := .ref 9) (p9 := 84) rfl rfl rfl rfl rfl ?_
          refine wz_iload_n (p9 := 85) rfl rfl rfl ?_
          refine wz_iload_n (p9 := 86) rfl rfl rfl ?_
          refine wz_iconst (x := nI 4) (p9 := 87) rfl rfl (by decide) ?_
          refine wn_shl4 (p9 := 88) rfl rfl ?_
          refine wz_iload (p9 := 90) rfl rfl rfl ?_
          refine wn_or16 (p9 := 91) rfl rfl (by omega) ?_
          refine ws_Abu (f := f) (p9 := 92) rfl rfl rfl (by omega) (A1 := (CA.s_bu A (un f k (((f i) / 16) * 16 + ((f i) % 16))))) rfl ?_
          refine wn_inc (b := 1) (l9 := [.ref 4, .int (nI (k + 1)), .int (nI i), .int (nI ((f i) / 16)), .int (nI ((f i) % 16))]) (p9 := 95) rfl rfl rfl (by decide) rfl ?_
          refine wn_inc (b := 1) (l9 := [.ref 4, .int (nI (k + 1)), .int (nI (i + 1)), .int (nI ((f i) / 16)), .int (nI ((f i) % 16))]) (p9 := 98) rfl rfl rfl (by decide) rfl ?_
          refine wz_goto (p9 := 4) rfl rfl ?_
          have e9 : sh A.od (j + 1) i k f = sh A.od j (i + 1) (k + 1) (un f k (((f i) / 16) * 16 + ((f i) % 16))) := (if_neg (fun q => h47 q.2)).trans (if_pos h77)
          rw [e9] at kk
          exact l_shorten T h4 j (i + 1) (k + 1) (un f k (((f i) / 16) * 16 + ((f i) % 16))) _ _ (by omega) (by omega) (ro_un hr (by rw [show f i / 16 * 16 + f i % 16 = f i by omega]; exact hr i (by omega))) kk
      · refine wn_dec (l9 := [.ref 4, .int (nI (k - 1)), .int (nI i), .int (nI ((f i) / 16)), .int (nI ((f i) % 16))]) (p9 := 53) rfl rfl rfl (by omega) rfl ?_
        refine wz_aload_n (p9 := 54) rfl rfl rfl ?_
        refine wz_get (v := .ref 1) (p9 := 57) rfl rfl rfl rfl rfl ?_
        refine wz_iload_n (p9 := 58) rfl rfl rfl ?_
        refine wz_iload (p9 := 60) rfl rfl rfl ?_
        refine wz_aload_n (p9 := 61) rfl rfl rfl ?_
        refine wz_get (v := .ref 9) (p9 := 64) rfl rfl rfl rfl rfl ?_
        refine wz_iload_n (p9 := 65) rfl rfl rfl ?_
        refine wl_Abu (f := f) (p9 := 66) rfl rfl rfl (by omega) ?_
        refine wz_bipush (x := nI 15) (p9 := 68) rfl rfl (by decide) ?_
        refine wn_and15 (p9 := 69) rfl rfl ?_
        refine wn_add (p9 := 70) rfl rfl ?_
        refine wz_c1 (p9 := 73) (w1 := WW (CA.s_bu A f) R o) (u := .int (nI ((((f i) % 16) + ((f (k - 1)) % 16)) % A.od ((f i) / 16)))) (wa_v (N := 3) (i := 1) (As := [.int (nI ((f i) / 16)), .int (nI (((f i) % 16) + ((f (k - 1)) % 16)))]) (rest := []) rfl rfl rfl rfl rfl rfl rfl) rfl ((g_less (d := 0) (A := (CA.s_bu A f)) (R := R) T (by omega) (by omega)).up (by omega)) ?_
        refine wz_istore (l9 := [.ref 4, .int (nI (k - 1)), .int (nI i), .int (nI ((f i) / 16)), .int (nI ((((f i) % 16) + ((f (k - 1)) % 16)) % A.od ((f i) / 16)))]) (p9 := 75) rfl rfl rfl rfl ?_
        refine wz_iload (p9 := 77) rfl rfl rfl ?_
        refine wn_ifle (t9 := 95) (p9 := 80) rfl rfl rfl (by omega) (fun h77 => ?_) (fun h77 => ?_)
        · refine wn_inc (b := 1) (l9 := [.ref 4, .int (nI (k - 1)), .int (nI (i + 1)), .int (nI ((f i) / 16)), .int (nI ((((f i) % 16) + ((f (k - 1)) % 16)) % A.od ((f i) / 16)))]) (p9 := 98) rfl rfl rfl (by decide) rfl ?_
          refine wz_goto (p9 := 4) rfl rfl ?_
          have e9 : sh A.od (j + 1) i k f = sh A.od j (i + 1) (k - 1) f := (if_pos ⟨h33, h47⟩).trans (if_neg (by omega))
          rw [e9] at kk
          exact l_shorten T h4 j (i + 1) (k - 1) f _ _ (by omega) (by omega) hr kk
        · refine wz_aload_n (p9 := 81) rfl rfl rfl ?_
          refine wz_get (v := .ref 9) (p9 := 84) rfl rfl rfl rfl rfl ?_
          refine wz_iload_n (p9 := 85) rfl rfl rfl ?_
          refine wz_iload_n (p9 := 86) rfl rfl rfl ?_
          refine wz_iconst (x := nI 4) (p9 := 87) rfl rfl (by decide) ?_
          refine wn_shl4 (p9 := 88) rfl rfl ?_
          refine wz_iload (p9 := 90) rfl rfl rfl ?_
          refine wn_or16 (p9 := 91) rfl rfl (by omega) ?_
          refine ws_Abu (f := f) (p9 := 92) rfl rfl rfl (by omega) (A1 := (CA.s_bu A (un f (k - 1) (((f i) / 16) * 16 + ((((f i) % 16) + ((f (k - 1)) % 16)) % A.od ((f i) / 16)))))) rfl ?_
          refine wn_inc (b := 1) (l9 := [.ref 4, .int (nI ((k - 1) + 1)), .int (nI i), .int (nI ((f i) / 16)), .int (nI ((((f i) % 16) + ((f (k - 1)) % 16)) % A.od ((f i) / 16)))]) (p9 := 95) rfl rfl rfl (by decide) rfl ?_
          refine wn_inc (b := 1) (l9 := [.ref 4, .int (nI ((k - 1) + 1)), .int (nI (i + 1)), .int (nI ((f i) / 16)), .int (nI ((((f i) % 16) + ((f (k - 1)) % 16)) % A.od ((f i) / 16)))]) (p9 := 98) rfl rfl rfl (by decide) rfl ?_
          refine wz_goto (p9 := 4) rfl rfl ?_
          have e9 : sh A.od (j + 1) i k f = sh A.od j (i + 1) ((k - 1) + 1) (un f (k - 1) (((f i) / 16) * 16 + ((((f i) % 16) + ((f (k - 1)) % 16)) % A.od ((f i) / 16)))) := (if_pos ⟨h33, h47⟩).trans (if_pos h77)
          rw [e9] at kk
          exact l_shorten T h4 j (i + 1) ((k - 1) + 1) (un f (k - 1) (((f i) / 16) * 16 + ((((f i) % 16) + ((f (k - 1)) % 16)) % A.od ((f i) / 16)))) _ _ (by omega) (by omega) (ro_un hr (ro_mk T.oo (by omega))) kk
theorem g_shorten {X : Nat × (Nat → Int32)} {d : Nat} {A : CA} {R : RA} {o : Nat → Int64} (T : TV A.P A.Mv A.t A.od) (h : BV A.od (A.rc, A.bu, A.ov)) : px_ev X (d + 2) 30 [.ref 4] (WW A R o) (some (some (.int (nI (sh A.od A.rc 0 0 A.bu).1))), WW (CA.s_rc (CA.s_bu A (sh A.od A.rc 0 0 A.bu).2) (sh A.od A.rc 0 0 A.bu).1) R o, 0, 0) := by
  refine wp_ev (d := d + 1) (by decide) rfl rfl (fun h => by cases h) ?_
  show wp X (d + 1) 30 (0, [.ref 4, .retAddr 0, .retAddr 0, .retAddr 0, .retAddr 0], [], WW A R o, 0, 0) _
  refine wz_iconst (x := nI 0) (p9 := 1) rfl rfl (by decide) ?_
  refine wz_istore_n (l9 := [.ref 4, .int (nI 0), .retAddr 0, .retAddr 0, .retAddr 0]) (p9 := 2) rfl rfl rfl rfl ?_
  refine wz_iconst (x := nI 0) (p9 := 3) rfl rfl (by decide) ?_
  refine wz_istore_n (l9 := [.ref 4, .int (nI 0), .int (nI 0), .retAddr 0, .retAddr 0]) (p9 := 4) rfl rfl rfl rfl ?_
  refine l_shorten (A := A) T h.1 A.rc 0 0 A.bu _ _ (Nat.zero_add _) (Nat.le_refl _) h.2.1 (fun i8 v3 v4 => ?_)
  refine wz_aload_n (p9 := 102) rfl rfl rfl ?_
  refine wz_iload_n (p9 := 103) rfl rfl rfl ?_
  refine wp_Arc (x := ((sh A.od A.rc 0 0 A.bu).1)) (p9 := 106) rfl rfl rfl rfl (A1 := (CA.s_rc (CA.s_bu A ((sh A.od A.rc 0 0 A.bu).2)) ((sh A.od A.rc 0 0 A.bu).1))) rfl ?_
  refine wz_iload_n (p9 := 107) rfl rfl rfl ?_
  exact wz_reti rfl rfl rfl
theorem g_isFull {X : Nat × (Nat → Int32)} {d : Nat} {A : CA} {R : RA} {o : Nat → Int64} (h : A.wc ≤ 30) : px_ev X (d + 1) 33 [.ref 10] (WW A R o) (some (some (.int (nI (if A.wc = 30 then 1 else 0)))), WW A R o, 0, 0) := by
  refine wp_ev (d := d + 0) (by decide) rfl rfl (fun h => by cases h) ?_
  show wp X (d + 0) 33 (0, [.ref 10], [], WW A R o, 0, 0) _
  refine wz_aload_n (p9 := 1) rfl rfl rfl ?_
  refine wz_get (v := .int (nI A.wc)) (p9 := 4) rfl rfl rfl rfl rfl ?_
  refine wz_bipush (x := nI 30) (p9 := 6) rfl rfl (by decide) ?_
  refine wn_iclt (t9 := 13) (p9 := 9) rfl rfl rfl (by omega) (by omega) (fun h6 => ?_) (fun h6 => ?_)
  · refine wz_iconst (x := nI 0) (p9 := 14) rfl rfl (by decide) ?_
    exact wz_retz rfl rfl (by decide) (by rw [if_neg (by omega)])
  · refine wz_iconst (x := nI 1) (p9 := 10) rfl rfl (by decide) ?_
    refine wz_goto (p9 := 14) rfl rfl ?_
    exact wz_retz rfl rfl (by decide) (by rw [if_pos (by omega)])
theorem g_forgetW {X : Nat × (Nat → Int32)} {d : Nat} {A : CA} {R : RA} {o : Nat → Int64}  : px_ev X (d + 1) 36 [.ref 10] (WW A R o) (some none, WW (CA.s_wc A 0) R o, 0, 0) := by
  refine wp_ev (d := d + 0) (by decide) rfl rfl (fun h => by cases h) ?_
  show wp X (d + 0) 36 (0, [.ref 10], [], WW A R o, 0, 0) _
  refine wz_aload_n (p9 := 1) rfl rfl rfl ?_
  refine wz_iconst (x := nI 0) (p9 := 2) rfl rfl (by decide) ?_
  refine wp_Awc (x := 0) (p9 := 5) rfl rfl rfl rfl (A1 := (CA.s_wc A 0)) rfl ?_
  exact wz_retv rfl rfl rfl
theorem g_forgetS {X : Nat × (Nat → Int32)} {d : Nat} {A : CA} {R : RA} {o : Nat → Int64}  : px_ev X (d + 1) 48 [.ref 14] (WW A R o) (some none, WW (CA.s_sc A 0) R o, 0, 0) := by
  refine wp_ev (d := d + 0) (by decide) rfl rfl (fun h => by cases h) ?_
  show wp X (d + 0) 48 (0, [.ref 14], [], WW A R o, 0, 0) _
  refine wz_aload_n (p9 := 1) rfl rfl rfl ?_
  refine wz_iconst (x := nI 0) (p9 := 2) rfl rfl (by decide) ?_
  refine wp_Asc (x := 0) (p9 := 5) rfl rfl rfl rfl (A1 := (CA.s_sc A 0)) rfl ?_
  exact wz_retv rfl rfl rfl
theorem g_forgetR {X : Nat × (Nat → Int32)} {d : Nat} {A : CA} {R : RA} {o : Nat → Int64}  : px_ev X (d + 1) 58 [.ref 18] (WW A R o) (some none, WW (CA.s_fc A 0) R o, 0, 0) := by
  refine wp_ev (d := d + 0) (by decide) rfl rfl (fun h => by cases h) ?_
  show wp X (d + 0) 58 (0, [.ref 18], [], WW A R o, 0, 0) _
  refine wz_aload_n (p9 := 1) rfl rfl rfl ?_
  refine wz_iconst (x := nI 0) (p9 := 2) rfl rfl (by decide) ?_
  refine wp_Afc (x := 0) (p9 := 5) rfl rfl rfl rfl (A1 := (CA.s_fc A 0)) rfl ?_
  exact wz_retv rfl rfl rfl
theorem g_rowCountOf {X : Nat × (Nat → Int32)} {d : Nat} {A : CA} {R : RA} {o : Nat → Int64} {w : Nat} (hw : w < 30) : px_ev X (d + 1) 38 [.ref 10, .int (nI w)] (WW A R o) (some (some (.int (nI (A.rl w)))), WW A R o, 0, 0) := by
  refine wp_ev (d := d + 0) (by decide) rfl rfl (fun h => by cases h) ?_
  show wp X (d + 0) 38 (0, [.ref 10, .int (nI w)], [], WW A R o, 0, 0) _
  refine wz_aload_n (p9 := 1) rfl rfl rfl ?_
  refine wz_get (v := .ref 11) (p9 := 4) rfl rfl rfl rfl rfl ?_
  refine wz_iload_n (p9 := 5) rfl rfl rfl ?_
  refine wl_Arl (f := A.rl) (p9 := 6) rfl rfl rfl (by omega) ?_
  exact wz_reti rfl rfl rfl
theorem g_hasW1 {X : Nat × (Nat → Int32)} {d : Nat} {A : CA} {R : RA} {o : Nat → Int64} {m : Nat} (hm : m < A.wc) (hM : A.wc < 100) : px_ev X (d + 1) 37 [.ref 10, .int (nI m)] (WW A R o) (some (some (.int (nI 1))), WW A R o, 0, 0) := by
  refine wp_ev (d := d + 0) (by decide) rfl rfl (fun h => by cases h) ?_
  show wp X (d + 0) 37 (0, [.ref 10, .int (nI m)], [], WW A R o, 0, 0) _
  refine wz_iload_n (p9 := 1) rfl rfl rfl ?_
  refine wn_iflt (t9 := 16) (p9 := 4) rfl rfl rfl (by omega) (fun h9 => by omega) (fun _ => ?_)
  refine wz_iload_n (p9 := 5) rfl rfl rfl ?_
  refine wz_aload_n (p9 := 6) rfl rfl rfl ?_
  refine wz_get (v := .int (nI A.wc)) (p9 := 9) rfl rfl rfl rfl rfl ?_
  refine wn_icge (t9 := 16) (p9 := 12) rfl rfl rfl (by omega) (by omega) (fun h9 => by omega) (fun _ => ?_)
  refine wz_iconst (x := nI 1) (p9 := 13) rfl rfl (by decide) ?_
  refine wz_goto (p9 := 17) rfl rfl ?_
  exact wz_retz rfl rfl (by decide) rfl
theorem g_hasS1 {X : Nat × (Nat → Int32)} {d : Nat} {A : CA} {R : RA} {o : Nat → Int64} {m : Nat} (hm : m < A.sc) (hM : A.sc < 100) : px_ev X (d + 1) 49 [.ref 14, .int (nI m)] (WW A R o) (some (some (.int (nI 1))), WW A R o, 0, 0) := by
  refine wp_ev (d := d + 0) (by decide) rfl rfl (fun h => by cases h) ?_
  show wp X (d + 0) 49 (0, [.ref 14, .int (nI m)], [], WW A R o, 0, 0) _
  refine wz_iload_n (p9 := 1) rfl rfl rfl ?_
  refine wn_iflt (t9 := 16) (p9 := 4) rfl rfl rfl (by omega) (fun h9 => by omega) (fun _ => ?_)
  refine wz_iload_n (p9 := 5) rfl rfl rfl ?_
  refine wz_aload_n (p9 := 6) rfl rfl rfl ?_
  refine wz_get (v := .int (nI A.sc)) (p9 := 9) rfl rfl rfl rfl rfl ?_
  refine wn_icge (t9 := 16) (p9 := 12) rfl rfl rfl (by omega) (by omega) (fun h9 => by omega) (fun _ => ?_)
  refine wz_iconst (x := nI 1) (p9 := 13) rfl rfl (by decide) ?_
  refine wz_goto (p9 := 17) rfl rfl ?_
  exact wz_retz rfl rfl (by decide) rfl
theorem g_rowOf {X : Nat × (Nat → Int32)} {d : Nat} {A : CA} {R : RA} {o : Nat → Int64} {w k : Nat} (hw : w < 30) (hk : k < 2147483648) (hl : A.rl w ≤ 40) : px_ev X (d + 1) 39 [.ref 10, .int (nI w), .int (nI k)] (WW A R o) (some (some (.int (if k < A.rl w then nI (A.rr (w * 40 + k)) else -1))), WW A R o, 0, 0) := by
  refine wp_ev (d := d + 0) (by decide) rfl rfl (fun h => by cases h) ?_
  show wp X (d + 0) 39 (0, [.ref 10, .int (nI w), .int (nI k)], [], WW A R o, 0, 0) _
  refine wz_iload_n (p9 := 1) rfl rfl rfl ?_
  refine wn_iflt (t9 := 28) (p9 := 4) rfl rfl rfl (by omega) (fun h9 => by omega) (fun _ => ?_)
  refine wz_iload_n (p9 := 5) rfl rfl rfl ?_
  refine wz_aload_n (p9 := 6) rfl rfl rfl ?_
  refine wz_get (v := .ref 11) (p9 := 9) rfl rfl rfl rfl rfl ?_
  refine wz_iload_n (p9 := 10) rfl rfl rfl ?_
  refine wl_Arl (f := A.rl) (p9 := 11) rfl rfl rfl (by omega) ?_
  refine wn_icge (t9 := 28) (p9 := 14) rfl rfl rfl (by omega) (by omega) (fun h11 => ?_) (fun h11 => ?_)
  · refine wz_iconst (x := (-1)) (p9 := 29) rfl rfl (by decide) ?_
    exact wz_reti rfl rfl (by rw [if_neg (by omega)])
  · refine wz_aload_n (p9 := 15) rfl rfl rfl ?_
    refine wz_get (v := .ref 12) (p9 := 18) rfl rfl rfl rfl rfl ?_
    refine wz_iload_n (p9 := 19) rfl rfl rfl ?_
    refine wz_bipush (x := nI 40) (p9 := 21) rfl rfl (by decide) ?_
    refine wn_mul (p9 := 22) rfl rfl ?_
    refine wz_iload_n (p9 := 23) rfl rfl rfl ?_
    refine wn_add (p9 := 24) rfl rfl ?_
    refine wl_Arr (f := A.rr) (p9 := 25) rfl rfl rfl (by omega) ?_
    refine wz_goto (p9 := 29) rfl rfl ?_
    exact wz_reti rfl rfl (by rw [if_pos h11])
theorem g_rowOfN {X : Nat × (Nat → Int32)} {d : Nat} {A : CA} {R : RA} {o : Nat → Int64} {w : Nat} {k : Int32} (hk : k < 0) : px_ev X (d + 1) 39 [.ref 10, .int (nI w), .int k] (WW A R o) (some (some (.int (-1))), WW A R o, 0, 0) := by
  refine wp_ev (d := d + 0) (by decide) rfl rfl (fun h => by cases h) ?_
  show wp X (d + 0) 39 (0, [.ref 10, .int (nI w), .int k], [], WW A R o, 0, 0) _
  refine wz_iload_n (p9 := 1) rfl rfl rfl ?_
  refine wz_iflt (t9 := 28) (p9 := 4) rfl rfl rfl (fun _ => ?_) (fun h9 => absurd hk h9)
  refine wz_iconst (x := (-1)) (p9 := 29) rfl rfl (by decide) ?_
  exact wz_reti rfl rfl rfl
def bn (x : Nat) : Nat := if x < 2 then 1 else if x < 10 then 2 else 3
def br (x i : Nat) : Nat := if i = 0 then 97 + x / 16 else if i = 1 ∧ 10 ≤ x % 16 then 48 + x % 16 / 10 else 48 + x % 16 % 10
/-- the byte i of the rows f k, f (k + 1) .. -/
def bo (f : Nat → Nat) : Nat → Nat → Nat → Option Nat
  | 0, _, _ => none
  | j + 1, k, i => if i < bn (f k % 16) then some (br (f k) i) else bo f j (k + 1) (i - bn (f k % 16))
theorem g_byteCount {X : Nat × (Nat → Int32)} {d : Nat} {A : CA} {R : RA} {o : Nat → Int64} {x : Nat} (hx : x < 16) : px_ev X (d + 1) 44 [.ref 10, .int (nI x)] (WW A R o) (some (some (.int (nI (bn x)))), WW A R o, 0, 0) := by
  refine wp_ev (d := d + 0) (by decide) rfl rfl (fun h => by cases h) ?_
  show wp X (d + 0) 44 (0, [.ref 10, .int (nI x)], [], WW A R o, 0, 0) _
  refine wz_iload_n (p9 := 1) rfl rfl rfl ?_
  refine wz_iconst (x := nI 2) (p9 := 2) rfl rfl (by decide) ?_
  refine wn_icge (t9 := 7) (p9 := 5) rfl rfl rfl (by omega) (by omega) (fun h2 => ?_) (fun h2 => ?_)
  · refine wz_iload_n (p9 := 8) rfl rfl rfl ?_
    refine wz_bipush (x := nI 10) (p9 := 10) rfl rfl (by decide) ?_
    refine wn_icge (t9 := 17) (p9 := 13) rfl rfl rfl (by omega) (by omega) (fun h10 => ?_) (fun h10 => ?_)
    · refine wz_iconst (x := nI 3) (p9 := 18) rfl rfl (by decide) ?_
      exact wz_reti rfl rfl (by unfold bn; rw [if_neg (by omega), if_neg (by omega)])
    · refine wz_iconst (x := nI 2) (p9 := 14) rfl rfl (by decide) ?_
      refine wz_goto (p9 := 18) rfl rfl ?_
      exact wz_reti rfl rfl (by unfold bn; rw [if_neg (by omega), if_pos h10])
  · refine wz_iconst (x := nI 1) (p9 := 6) rfl rfl (by decide) ?_
    exact wz_reti rfl rfl (by unfold bn; rw [if_pos h2])
theorem g_byteOfRow {X : Nat × (Nat → Int32)} {d : Nat} {A : CA} {R : RA} {o : Nat → Int64} {x i : Nat} (hx : x < 96) (hi : i < 10) : px_ev X (d + 1) 45 [.ref 10, .int (nI x), .int (nI i)] (WW A R o) (some (some (.int (nI (br x i)))), WW A R o, 0, 0) := by
  refine wp_ev (d := d + 0) (by decide) rfl rfl (fun h => by cases h) ?_
  show wp X (d + 0) 45 (0, [.ref 10, .int (nI x), .int (nI i), .retAddr 0], [], WW A R o, 0, 0) _
  refine wz_iload_n (p9 := 1) rfl rfl rfl ?_
  refine wz_bipush (x := nI 15) (p9 := 3) rfl rfl (by decide) ?_
  refine wn_and15 (p9 := 4) rfl rfl ?_
  refine wz_istore_n (l9 := [.ref 10, .int (nI x), .int (nI i), .int (nI (x % 16))]) (p9 := 5) rfl rfl rfl rfl ?_
  refine wz_iload_n (p9 := 6) rfl rfl rfl ?_
  refine wn_ifne (t9 := 16) (p9 := 9) rfl rfl rfl (by omega) (fun h6 => ?_) (fun h6 => ?_)
  · refine wz_iload_n (p9 := 17) rfl rfl rfl ?_
    refine wz_iconst (x := nI 1) (p9 := 18) rfl rfl (by decide) ?_
    refine wn_icne (t9 := 37) (p9 := 21) rfl rfl rfl (by omega) (by omega) (fun h18 => ?_) (fun h18 => ?_)
    · refine wz_bipush (x := nI 48) (p9 := 39) rfl rfl (by decide) ?_
      refine wz_iload_n (p9 := 40) rfl rfl rfl ?_
      refine wz_bipush (x := nI 10) (p9 := 42) rfl rfl (by decide) ?_
      refine wn_rem (p9 := 43) rfl rfl (by omega) (by omega) (by omega) ?_
      refine wn_add (p9 := 44) rfl rfl ?_
      exact wz_reti rfl rfl (by unfold br; rw [if_neg h6, if_neg (by omega)])
    · refine wz_iload_n (p9 := 22) rfl rfl rfl ?_
      refine wz_bipush (x := nI 10) (p9 := 24) rfl rfl (by decide) ?_
      refine wn_iclt (t9 := 37) (p9 := 27) rfl rfl rfl (by omega) (by omega) (fun h24 => ?_) (fun h24 => ?_)
      · refine wz_bipush (x := nI 48) (p9 := 39) rfl rfl (by decide) ?_
        refine wz_iload_n (p9 := 40) rfl rfl rfl ?_
        refine wz_bipush (x := nI 10) (p9 := 42) rfl rfl (by decide) ?_
        refine wn_rem (p9 := 43) rfl rfl (by omega) (by omega) (by omega) ?_
        refine wn_add (p9 := 44) rfl rfl ?_
        exact wz_reti rfl rfl (by unfold br; rw [if_neg h6, if_neg (by omega)])
      · refine wz_bipush (x := nI 48) (p9 := 29) rfl rfl (by decide) ?_
        refine wz_iload_n (p9 := 30) rfl rfl rfl ?_
        refine wz_bipush (x := nI 10) (p9 := 32) rfl rfl (by decide) ?_
        refine wn_div (p9 := 33) rfl rfl (by omega) (by omega) (by omega) ?_
        refine wn_add (p9 := 34) rfl rfl ?_
        refine wz_goto (p9 := 44) rfl rfl ?_
        exact wz_reti rfl rfl (by unfold br; rw [if_neg h6, if_pos ⟨h18, h24⟩])
  · refine wz_bipush (x := nI 97) (p9 := 11) rfl rfl (by decide) ?_
    refine wz_iload_n (p9 := 12) rfl rfl rfl ?_
    refine wz_iconst (x := nI 4) (p9 := 13) rfl rfl (by decide) ?_
    refine wn_shr4 (p9 := 14) rfl rfl (by omega) ?_
    refine wn_add (p9 := 15) rfl rfl ?_
    exact wz_reti rfl rfl (by unfold br; rw [if_pos h6])
theorem l_byteOf {X : Nat × (Nat → Int32)} {d : Nat} {A : CA} {R : RA} {o : Nat → Int64} {w : Nat} (hw : w < 30) (hl : A.rl w ≤ 40) (hr : ∀ k, k < A.rl w → A.rr (w * 40 + k) < 96) {kk0 z : Nat} {Q : px_Z → Prop} : ∀ (j k i : Nat) (v v5 v6 : Value), k + j = A.rl w → i < 2147483648 → Q (some (some (.int (oi (bo (fun k => A.rr (w * 40 + k)) j k i)))), WW A R o, kk0, z) → wp X (d + 1) 43 (5, [.ref 10, .int (nI w), v, .int (nI i), .int (nI k), v5, v6], [], WW A R o, kk0, z) Q
  | 0, k, i, v, v5, v6, hj, hi, kk => by
    refine wz_iload (p9 := 7) rfl rfl rfl ?_
    refine wz_aload_n (p9 := 8) rfl rfl rfl ?_
    refine wz_get (v := .ref 11) (p9 := 11) rfl rfl rfl rfl rfl ?_
    refine wz_iload_n (p9 := 12) rfl rfl rfl ?_
    refine wl_Arl (f := A.rl) (p9 := 13) rfl rfl rfl (by omega) ?_
    refine wn_icge (t9 := 70) (p9 := 16) rfl rfl rfl (by omega) (by omega) (fun _ => ?_) (fun h9 => by omega)
    refine wz_iconst (x := (-1)) (p9 := 71) rfl rfl (by decide) ?_
    exact wz_reti rfl rfl kk
  | j + 1, k, i, v, v5, v6, hj, hi, kk => by
    refine wz_iload (p9 := 7) rfl rfl rfl ?_
    refine wz_aload_n (p9 := 8) rfl rfl rfl ?_
    refine wz_get (v := .ref 11) (p9 := 11) rfl rfl rfl rfl rfl ?_
    refine wz_iload_n (p9 := 12) rfl rfl rfl ?_
    refine wl_Arl (f := A.rl) (p9 := 13) rfl rfl rfl (by omega) ?_
    refine wn_icge (t9 := 70) (p9 := 16) rfl rfl rfl (by omega) (by omega) (fun h9 => by omega) (fun _ => ?_)
    refine wz_iload_n (p9 := 17) rfl rfl rfl ?_
    refine wn_iflt (t9 := 70) (p9 := 20) rfl rfl rfl (by omega) (fun h9 => by omega) (fun _ => ?_)
    have b0 := hr k (by omega)
    have b1 : bn (A.rr (w * 40 + k) % 16) ≤ 3 := by unfold bn; split; omega; split <;> omega
    refine wz_aload_n (p9 := 21) rfl rfl rfl ?_
    refine wz_get (v := .ref 12) (p9 := 24) rfl rfl rfl rfl rfl ?_
    refine wz_iload_n (p9 := 25) rfl rfl rfl ?_
    refine wz_bipush (x := nI 40) (p9 := 27) rfl rfl (by decide) ?_
    refine wn_mul (p9 := 28) rfl rfl ?_
    refine wz_iload (p9 := 30) rfl rfl rfl ?_
    refine wn_add (p9 := 31) rfl rfl ?_
    refine wl_Arr (f := A.rr) (p9 := 32) rfl rfl rfl (by omega) ?_
    refine wz_istore (l9 := [.ref 10, .int (nI w), v, .int (nI i), .int (nI k), .int (nI (A.rr ((w * 40) + k))), v6]) (p9 := 34) rfl rfl rfl rfl ?_
    refine wz_aload_n (p9 := 35) rfl rfl rfl ?_
    refine wz_iload (p9 := 37) rfl rfl rfl ?_
    refine wz_bipush (x := nI 15) (p9 := 39) rfl rfl (by decide) ?_
    refine wn_and15 (p9 := 40) rfl rfl ?_
    refine wz_c1 (p9 := 43) (w1 := WW A R o) (u := .int (nI (bn ((A.rr ((w * 40) + k)) % 16)))) (wa_v (N := 44) (i := 10) (As := [.int (nI ((A.rr ((w * 40) + k)) % 16))]) (rest := []) rfl rfl rfl rfl rfl rfl rfl) rfl ((g_byteCount (d := 0) (by omega)).up (by omega)) ?_
    refine wz_istore (l9 := [.ref 10, .int (nI w), v, .int (nI i), .int (nI k), .int (nI (A.rr ((w * 40) + k))), .int (nI (bn ((A.rr ((w * 40) + k)) % 16)))]) (p9 := 45) rfl rfl rfl rfl ?_
    refine wz_iload_n (p9 := 46) rfl rfl rfl ?_
    refine wz_iload (p9 := 48) rfl rfl rfl ?_
    refine wn_icge (t9 := 59) (p9 := 51) rfl rfl rfl (by omega) (by omega) (fun h48 => ?_) (fun h48 => ?_)
    · refine wz_iload_n (p9 := 60) rfl rfl rfl ?_
      refine wz_iload (p9 := 62) rfl rfl rfl ?_
      refine wn_sub (p9 := 63) rfl rfl (by omega) ?_
      refine wz_istore_n (l9 := [.ref 10, .int (nI w), v, .int (nI (i - (bn ((A.rr ((w * 40) + k)) % 16)))), .int (nI k), .int (nI (A.rr ((w * 40) + k))), .int (nI (bn ((A.rr ((w * 40) + k)) % 16)))]) (p9 := 64) rfl rfl rfl rfl ?_
      refine wn_inc (b := 1) (l9 := [.ref 10, .int (nI w), v, .int (nI (i - (bn ((A.rr ((w * 40) + k)) % 16)))), .int (nI (k + 1)), .int (nI (A.rr ((w * 40) + k))), .int (nI (bn ((A.rr ((w * 40) + k)) % 16)))]) (p9 := 67) rfl rfl rfl (by decide) rfl ?_
      refine wz_goto (p9 := 5) rfl rfl ?_
      rw [show bo (fun k => A.rr (w * 40 + k)) (j + 1) k i = bo (fun k => A.rr (w * 40 + k)) j (k + 1) (i - bn (A.rr (w * 40 + k) % 16)) from if_neg (Nat.not_lt.mpr h48)] at kk
      exact l_byteOf hw hl hr j (k + 1) (i - bn (A.rr (w * 40 + k) % 16)) _ _ _ (by omega) (by omega) kk
    · refine wz_aload_n (p9 := 52) rfl rfl rfl ?_
      refine wz_iload (p9 := 54) rfl rfl rfl ?_
      refine wz_iload_n (p9 := 55) rfl rfl rfl ?_
      refine wz_c1 (p9 := 58) (w1 := WW A R o) (u := .int (nI (br (A.rr ((w * 40) + k)) i))) (wa_v (N := 45) (i := 10) (As := [.int (nI (A.rr ((w * 40) + k))), .int (nI i)]) (rest := []) rfl rfl rfl rfl rfl rfl rfl) rfl ((g_byteOfRow (d := 0) (hr k (by omega)) (by omega)).up (by omega)) ?_
      rw [show bo (fun k => A.rr (w * 40 + k)) (j + 1) k i = some (br (A.rr (w * 40 + k)) i) from if_pos h48] at kk
      exact wz_reti rfl rfl kk
theorem g_byteOf {X : Nat × (Nat → Int32)} {d : Nat} {A : CA} {R : RA} {o : Nat → Int64} {w i : Nat} (hw : w < 30) (hl : A.rl w ≤ 40) (hr : ∀ k, k < A.rl w → A.rr (w * 40 + k) < 96) (hi : i < 2147483648) : px_ev X (d + 2) 43 [.ref 10, .int (nI w), .int (nI i)] (WW A R o) (some (some (.int (oi (bo (fun k => A.rr (w * 40 + k)) (A.rl w) 0 i)))), WW A R o, 0, 0) := by
  refine wp_ev (d := d + 1) (by decide) rfl rfl (fun h => by cases h) ?_
  show wp X (d + 1) 43 (0, [.ref 10, .int (nI w), .int (nI i), .retAddr 0, .retAddr 0, .retAddr 0, .retAddr 0], [], WW A R o, 0, 0) _
  refine wz_iload_n (p9 := 1) rfl rfl rfl ?_
  refine wz_istore_n (l9 := [.ref 10, .int (nI w), .int (nI i), .int (nI i), .retAddr 0, .retAddr 0, .retAddr 0]) (p9 := 2) rfl rfl rfl rfl ?_
  refine wz_iconst (x := nI 0) (p9 := 3) rfl rfl (by decide) ?_
  refine wz_istore (l9 := [.ref 10, .int (nI w), .int (nI i), .int (nI i), .int (nI 0), .retAddr 0, .retAddr 0]) (p9 := 5) rfl rfl rfl rfl ?_
  exact l_byteOf hw hl hr (A.rl w) 0 i _ _ _ (Nat.zero_add _) hi rfl
theorem g_byteOfN {X : Nat × (Nat → Int32)} {d : Nat} {A : CA} {R : RA} {o : Nat → Int64} {w : Nat} {i : Int32} (hw : w < 30) (hl : A.rl w ≤ 40) (hi : i < 0) : px_ev X (d + 2) 43 [.ref 10, .int (nI w), .int i] (WW A R o) (some (some (.int (-1))), WW A R o, 0, 0) := by
  refine wp_ev (d := d + 1) (by decide) rfl rfl (fun h => by cases h) ?_
  show wp X (d + 1) 43 (0, [.ref 10, .int (nI w), .int i, .retAddr 0, .retAddr 0, .retAddr 0, .retAddr 0], [], WW A R o, 0, 0) _
  refine wz_iload_n (p9 := 1) rfl rfl rfl ?_
  refine wz_istore_n (l9 := [.ref 10, .int (nI w), .int i, .int i, .retAddr 0, .retAddr 0, .retAddr 0]) (p9 := 2) rfl rfl rfl rfl ?_
  refine wz_iconst (x := nI 0) (p9 := 3) rfl rfl (by decide) ?_
  refine wz_istore (l9 := [.ref 10, .int (nI w), .int i, .int i, .int (nI 0), .retAddr 0, .retAddr 0]) (p9 := 5) rfl rfl rfl rfl ?_
  refine wz_iload (p9 := 7) rfl rfl rfl ?_
  refine wz_aload_n (p9 := 8) rfl rfl rfl ?_
  refine wz_get (v := .ref 11) (p9 := 11) rfl rfl rfl rfl rfl ?_
  refine wz_iload_n (p9 := 12) rfl rfl rfl ?_
  refine wl_Arl (f := A.rl) (p9 := 13) rfl rfl rfl (by omega) ?_
  refine wn_icge (t9 := 70) (p9 := 16) rfl rfl rfl (by omega) (by omega) (fun h13 => ?_) (fun h13 => ?_)
  · refine wz_iconst (x := (-1)) (p9 := 71) rfl rfl (by decide) ?_
    exact wz_reti rfl rfl rfl
  · refine wz_iload_n (p9 := 17) rfl rfl rfl ?_
    refine wz_iflt (t9 := 70) (p9 := 20) rfl rfl rfl (fun _ => ?_) (fun h9 => absurd hi h9)
    refine wz_iconst (x := (-1)) (p9 := 71) rfl rfl (by decide) ?_
    exact wz_reti rfl rfl rfl
theorem g_addS1 {X : Nat × (Nat → Int32)} {d : Nat} {A : CA} {R : RA} {o : Nat → Int64} (h : A.sc < 8) : px_ev X (d + 1) 47 [.ref 14] (WW A R o) (some (some (.int (nI A.sc))), WW (CA.s_su (CA.s_sg (CA.s_sc A (A.sc + 1)) (un A.sg A.sc 0)) (un A.su A.sc 0)) R o, 0, 0) := by
  refine wp_ev (d := d + 0) (by decide) rfl rfl (fun h => by cases h) ?_
  show wp X (d + 0) 47 (0, [.ref 14], [], WW A R o, 0, 0) _
  refine wz_aload_n (p9 := 1) rfl rfl rfl ?_
  refine wz_get (v := .int (nI A.sc)) (p9 := 4) rfl rfl rfl rfl rfl ?_
  refine wz_bipush (x := nI 8) (p9 := 6) rfl rfl (by decide) ?_
  refine wn_iclt (t9 := 11) (p9 := 9) rfl rfl rfl (by omega) (by omega) (fun _ => ?_) (fun h9 => by omega)
  refine wz_aload_n (p9 := 12) rfl rfl rfl ?_
  refine wz_get (v := .ref 15) (p9 := 15) rfl rfl rfl rfl rfl ?_
  refine wz_aload_n (p9 := 16) rfl rfl rfl ?_
  refine wz_get (v := .int (nI A.sc)) (p9 := 19) rfl rfl rfl rfl rfl ?_
  refine wz_iconst (x := nI 0) (p9 := 20) rfl rfl (by decide) ?_
  refine ws_Asg (f := A.sg) (p9 := 21) rfl rfl rfl (by omega) (A1 := (CA.s_sg A (un A.sg A.sc 0))) rfl ?_
  refine wz_aload_n (p9 := 22) rfl rfl rfl ?_
  refine wz_get (v := .ref 16) (p9 := 25) rfl rfl rfl rfl rfl ?_
  refine wz_aload_n (p9 := 26) rfl rfl rfl ?_
  refine wz_get (v := .int (nI A.sc)) (p9 := 29) rfl rfl rfl rfl rfl ?_
  refine wz_iconst (x := nI 0) (p9 := 30) rfl rfl (by decide) ?_
  refine ws_Asu (f := A.su) (p9 := 31) rfl rfl rfl (by omega) (A1 := (CA.s_su (CA.s_sg A (un A.sg A.sc 0)) (un A.su A.sc 0))) rfl ?_
  refine wz_aload_n (p9 := 32) rfl rfl rfl ?_
  refine wz_dupr (p9 := 33) rfl rfl ?_
  refine wz_get (v := .int (nI A.sc)) (p9 := 36) rfl rfl rfl rfl rfl ?_
  refine wz_iconst (x := nI 1) (p9 := 37) rfl rfl (by decide) ?_
  refine wn_add (p9 := 38) rfl rfl ?_
  refine wp_Asc (x := (A.sc + 1)) (p9 := 41) rfl rfl rfl rfl (A1 := (CA.s_su (CA.s_sg (CA.s_sc A (A.sc + 1)) (un A.sg A.sc 0)) (un A.su A.sc 0))) rfl ?_
  refine wz_aload_n (p9 := 42) rfl rfl rfl ?_
  refine wz_get (v := .int (nI (A.sc + 1))) (p9 := 45) rfl rfl rfl rfl rfl ?_
  refine wz_iconst (x := nI 1) (p9 := 46) rfl rfl (by decide) ?_
  refine wn_sub (p9 := 47) rfl rfl (by omega) ?_
  exact wz_reti rfl rfl (by rw [show A.sc + 1 - 1 = A.sc by omega])
theorem g_addS0 {X : Nat × (Nat → Int32)} {d : Nat} {A : CA} {R : RA} {o : Nat → Int64} (h : A.sc = 8) : px_ev X (d + 1) 47 [.ref 14] (WW A R o) (some (some (.int (-1))), WW A R o, 0, 0) := by
  refine wp_ev (d := d + 0) (by decide) rfl rfl (fun h => by cases h) ?_
  show wp X (d + 0) 47 (0, [.ref 14], [], WW A R o, 0, 0) _
  refine wz_aload_n (p9 := 1) rfl rfl rfl ?_
  refine wz_get (v := .int (nI A.sc)) (p9 := 4) rfl rfl rfl rfl rfl ?_
  refine wz_bipush (x := nI 8) (p9 := 6) rfl rfl (by decide) ?_
  refine wn_iclt (t9 := 11) (p9 := 9) rfl rfl rfl (by omega) (by omega) (fun h9 => by omega) (fun _ => ?_)
  refine wz_iconst (x := (-1)) (p9 := 10) rfl rfl (by decide) ?_
  exact wz_reti rfl rfl rfl
theorem g_setGoal00 {X : Nat × (Nat → Int32)} {d : Nat} {A : CA} {R : RA} {o : Nat → Int64} {s p : Nat} (hs : s < 8) (hp : p < 7) (hg : A.sg s < 128) (h : A.sg s / 2 ^ p % 2 = 0) : px_ev X (d + 1) 50 [.ref 14, .int (nI s), .int (nI p), .int (nI 0)] (WW A R o) (some (some (.int (nI 0))), WW A R o, 0, 0) := by
  refine wp_ev (d := d + 0) (by decide) rfl rfl (fun h => by cases h) ?_
  show wp X (d + 0) 50 (0, [.ref 14, .int (nI s), .int (nI p), .int (nI 0), .retAddr 0], [], WW A R o, 0, 0) _
  refine wz_aload_n (p9 := 1) rfl rfl rfl ?_
  refine wz_get (v := .ref 15) (p9 := 4) rfl rfl rfl rfl rfl ?_
  refine wz_iload_n (p9 := 5) rfl rfl rfl ?_
  refine wl_Asg (f := A.sg) (p9 := 6) rfl rfl rfl (by omega) ?_
  refine wz_iload_n (p9 := 7) rfl rfl rfl ?_
  refine wn_shr (p9 := 8) rfl rfl (by omega) (by omega) ?_
  refine wz_iconst (x := nI 1) (p9 := 9) rfl rfl (by decide) ?_
  refine wn_and1 (p9 := 10) rfl rfl ?_
  refine wz_iconst (x := nI 1) (p9 := 11) rfl rfl (by decide) ?_
  refine wn_icne (t9 := 18) (p9 := 14) rfl rfl rfl (by omega) (by omega) (fun _ => ?_) (fun h9 => by omega)
  refine wz_iconst (x := nI 0) (p9 := 19) rfl rfl (by decide) ?_
  refine wz_istore (l9 := [.ref 14, .int (nI s), .int (nI p), .int (nI 0), .int (nI 0)]) (p9 := 21) rfl rfl rfl rfl ?_
  refine wz_iload (p9 := 23) rfl rfl rfl ?_
  refine wz_iload_n (p9 := 24) rfl rfl rfl ?_
  refine wn_icne (t9 := 29) (p9 := 27) rfl rfl rfl (by omega) (by omega) (fun h9 => by omega) (fun _ => ?_)
  refine wz_iconst (x := nI 0) (p9 := 28) rfl rfl (by decide) ?_
  exact wz_retz rfl rfl (by decide) rfl
theorem g_setGoal10 {X : Nat × (Nat → Int32)} {d : Nat} {A : CA} {R : RA} {o : Nat → Int64} {s p : Nat} (hs : s < 8) (hp : p < 7) (hg : A.sg s < 128) (h : A.sg s / 2 ^ p % 2 = 1) : px_ev X (d + 1) 50 [.ref 14, .int (nI s), .int (nI p), .int (nI 0)] (WW A R o) (some (some (.int (nI 1))), WW (CA.s_sg A (un A.sg s (A.sg s ^^^ 1 * 2 ^ p))) R o, 0, 0) := by
  refine wp_ev (d := d + 0) (by decide) rfl rfl (fun h => by cases h) ?_
  show wp X (d + 0) 50 (0, [.ref 14, .int (nI s), .int (nI p), .int (nI 0), .retAddr 0], [], WW A R o, 0, 0) _
  refine wz_aload_n (p9 := 1) rfl rfl rfl ?_
  refine wz_get (v := .ref 15) (p9 := 4) rfl rfl rfl rfl rfl ?_
  refine wz_iload_n (p9 := 5) rfl rfl rfl ?_
  refine wl_Asg (f := A.sg) (p9 := 6) rfl rfl rfl (by omega) ?_
  refine wz_iload_n (p9 := 7) rfl rfl rfl ?_
  refine wn_shr (p9 := 8) rfl rfl (by omega) (by omega) ?_
  refine wz_iconst (x := nI 1) (p9 := 9) rfl rfl (by decide) ?_
  refine wn_and1 (p9 := 10) rfl rfl ?_
  refine wz_iconst (x := nI 1) (p9 := 11) rfl rfl (by decide) ?_
  refine wn_icne (t9 := 18) (p9 := 14) rfl rfl rfl (by omega) (by omega) (fun h9 => by omega) (fun _ => ?_)
  refine wz_iconst (x := nI 1) (p9 := 15) rfl rfl (by decide) ?_
  refine wz_goto (p9 := 19) rfl rfl ?_
  refine wz_istore (l9 := [.ref 14, .int (nI s), .int (nI p), .int (nI 0), .int (nI 1)]) (p9 := 21) rfl rfl rfl rfl ?_
  refine wz_iload (p9 := 23) rfl rfl rfl ?_
  refine wz_iload_n (p9 := 24) rfl rfl rfl ?_
  refine wn_icne (t9 := 29) (p9 := 27) rfl rfl rfl (by omega) (by omega) (fun _ => ?_) (fun h9 => by omega)
  refine wz_aload_n (p9 := 30) rfl rfl rfl ?_
  refine wz_get (v := .ref 15) (p9 := 33) rfl rfl rfl rfl rfl ?_
  refine wz_iload_n (p9 := 34) rfl rfl rfl ?_
  refine wz_dup2 (p9 := 35) rfl rfl ?_
  refine wl_Asg (f := A.sg) (p9 := 36) rfl rfl rfl (by omega) ?_
  refine wz_iconst (x := nI 1) (p9 := 37) rfl rfl (by decide) ?_
  refine wz_iload_n (p9 := 38) rfl rfl rfl ?_
  refine wn_shl (p9 := 39) rfl rfl (by omega) ?_
  refine wn_xor (p9 := 40) rfl rfl ?_
  refine ws_Asg (f := A.sg) (p9 := 41) rfl rfl rfl (by omega) (A1 := (CA.s_sg A (un A.sg s ((A.sg s) ^^^ (1 * 2 ^ p))))) rfl ?_
  refine wz_iconst (x := nI 1) (p9 := 42) rfl rfl (by decide) ?_
  exact wz_retz rfl rfl (by decide) rfl
theorem g_setGoal01 {X : Nat × (Nat → Int32)} {d : Nat} {A : CA} {R : RA} {o : Nat → Int64} {s p : Nat} (hs : s < 8) (hp : p < 7) (hg : A.sg s < 128) (h : A.sg s / 2 ^ p % 2 = 0) : px_ev X (d + 1) 50 [.ref 14, .int (nI s), .int (nI p), .int (nI 1)] (WW A R o) (some (some (.int (nI 1))), WW (CA.s_sg A (un A.sg s (A.sg s ^^^ 1 * 2 ^ p))) R o, 0, 0) := by
  refine wp_ev (d := d + 0) (by decide) rfl rfl (fun h => by cases h) ?_
  show wp X (d + 0) 50 (0, [.ref 14, .int (nI s), .int (nI p), .int (nI 1), .retAddr 0], [], WW A R o, 0, 0) _
  refine wz_aload_n (p9 := 1) rfl rfl rfl ?_
  refine wz_get (v := .ref 15) (p9 := 4) rfl rfl rfl rfl rfl ?_
  refine wz_iload_n (p9 := 5) rfl rfl rfl ?_
  refine wl_Asg (f := A.sg) (p9 := 6) rfl rfl rfl (by omega) ?_
  refine wz_iload_n (p9 := 7) rfl rfl rfl ?_
  refine wn_shr (p9 := 8) rfl rfl (by omega) (by omega) ?_
  refine wz_iconst (x := nI 1) (p9 := 9) rfl rfl (by decide) ?_
  refine wn_and1 (p9 := 10) rfl rfl ?_
  refine wz_iconst (x := nI 1) (p9 := 11) rfl rfl (by decide) ?_
  refine wn_icne (t9 := 18) (p9 := 14) rfl rfl rfl (by omega) (by omega) (fun _ => ?_) (fun h9 => by omega)
  refine wz_iconst (x := nI 0) (p9 := 19) rfl rfl (by decide) ?_
  refine wz_istore (l9 := [.ref 14, .int (nI s), .int (nI p), .int (nI 1), .int (nI 0)]) (p9 := 21) rfl rfl rfl rfl ?_
  refine wz_iload (p9 := 23) rfl rfl rfl ?_
  refine wz_iload_n (p9 := 24) rfl rfl rfl ?_
  refine wn_icne (t9 := 29) (p9 := 27) rfl rfl rfl (by omega) (by omega) (fun _ => ?_) (fun h9 => by omega)
  refine wz_aload_n (p9 := 30) rfl rfl rfl ?_
  refine wz_get (v := .ref 15) (p9 := 33) rfl rfl rfl rfl rfl ?_
  refine wz_iload_n (p9 := 34) rfl rfl rfl ?_
  refine wz_dup2 (p9 := 35) rfl rfl ?_
  refine wl_Asg (f := A.sg) (p9 := 36) rfl rfl rfl (by omega) ?_
  refine wz_iconst (x := nI 1) (p9 := 37) rfl rfl (by decide) ?_
  refine wz_iload_n (p9 := 38) rfl rfl rfl ?_
  refine wn_shl (p9 := 39) rfl rfl (by omega) ?_
  refine wn_xor (p9 := 40) rfl rfl ?_
  refine ws_Asg (f := A.sg) (p9 := 41) rfl rfl rfl (by omega) (A1 := (CA.s_sg A (un A.sg s ((A.sg s) ^^^ (1 * 2 ^ p))))) rfl ?_
  refine wz_iconst (x := nI 1) (p9 := 42) rfl rfl (by decide) ?_
  exact wz_retz rfl rfl (by decide) rfl
theorem g_setGoal11 {X : Nat × (Nat → Int32)} {d : Nat} {A : CA} {R : RA} {o : Nat → Int64} {s p : Nat} (hs : s < 8) (hp : p < 7) (hg : A.sg s < 128) (h : A.sg s / 2 ^ p % 2 = 1) : px_ev X (d + 1) 50 [.ref 14, .int (nI s), .int (nI p), .int (nI 1)] (WW A R o) (some (some (.int (nI 0))), WW A R o, 0, 0) := by
  refine wp_ev (d := d + 0) (by decide) rfl rfl (fun h => by cases h) ?_
  show wp X (d + 0) 50 (0, [.ref 14, .int (nI s), .int (nI p), .int (nI 1), .retAddr 0], [], WW A R o, 0, 0) _
  refine wz_aload_n (p9 := 1) rfl rfl rfl ?_
  refine wz_get (v := .ref 15) (p9 := 4) rfl rfl rfl rfl rfl ?_
  refine wz_iload_n (p9 := 5) rfl rfl rfl ?_
  refine wl_Asg (f := A.sg) (p9 := 6) rfl rfl rfl (by omega) ?_
  refine wz_iload_n (p9 := 7) rfl rfl rfl ?_
  refine wn_shr (p9 := 8) rfl rfl (by omega) (by omega) ?_
  refine wz_iconst (x := nI 1) (p9 := 9) rfl rfl (by decide) ?_
  refine wn_and1 (p9 := 10) rfl rfl ?_
  refine wz_iconst (x := nI 1) (p9 := 11) rfl rfl (by decide) ?_
  refine wn_icne (t9 := 18) (p9 := 14) rfl rfl rfl (by omega) (by omega) (fun h9 => by omega) (fun _ => ?_)
  refine wz_iconst (x := nI 1) (p9 := 15) rfl rfl (by decide) ?_
  refine wz_goto (p9 := 19) rfl rfl ?_
  refine wz_istore (l9 := [.ref 14, .int (nI s), .int (nI p), .int (nI 1), .int (nI 1)]) (p9 := 21) rfl rfl rfl rfl ?_
  refine wz_iload (p9 := 23) rfl rfl rfl ?_
  refine wz_iload_n (p9 := 24) rfl rfl rfl ?_
  refine wn_icne (t9 := 29) (p9 := 27) rfl rfl rfl (by omega) (by omega) (fun h9 => by omega) (fun _ => ?_)
  refine wz_iconst (x := nI 0) (p9 := 28) rfl rfl (by decide) ?_
  exact wz_retz rfl rfl (by decide) rfl
theorem g_addUse1 {X : Nat × (Nat → Int32)} {d : Nat} {A : CA} {R : RA} {o : Nat → Int64} {s w : Nat} (hs : s < 8) (hu : A.su s < 12) : px_ev X (d + 1) 51 [.ref 14, .int (nI s), .int (nI w)] (WW A R o) (some (some (.int (nI 1))), WW (CA.s_us (CA.s_su A (un A.su s (A.su s + 1))) (un A.us (s * 12 + A.su s) w)) R o, 0, 0) := by
  refine wp_ev (d := d + 0) (by decide) rfl rfl (fun h => by cases h) ?_
  show wp X (d + 0) 51 (0, [.ref 14, .int (nI s), .int (nI w), .retAddr 0], [], WW A R o, 0, 0) _
  refine wz_aload_n (p9 := 1) rfl rfl rfl ?_
  refine wz_get (v := .ref 16) (p9 := 4) rfl rfl rfl rfl rfl ?_
  refine wz_iload_n (p9 := 5) rfl rfl rfl ?_
  refine wl_Asu (f := A.su) (p9 := 6) rfl rfl rfl (by omega) ?_
  refine wz_istore_n (l9 := [.ref 14, .int (nI s), .int (nI w), .int (nI (A.su s))]) (p9 := 7) rfl rfl rfl rfl ?_
  refine wz_iload_n (p9 := 8) rfl rfl rfl ?_
  refine wz_bipush (x := nI 12) (p9 := 10) rfl rfl (by decide) ?_
  refine wn_iclt (t9 := 15) (p9 := 13) rfl rfl rfl (by omega) (by omega) (fun _ => ?_) (fun h9 => by omega)
  refine wz_aload_n (p9 := 16) rfl rfl rfl ?_
  refine wz_get (v := .ref 17) (p9 := 19) rfl rfl rfl rfl rfl ?_
  refine wz_iload_n (p9 := 20) rfl rfl rfl ?_
  refine wz_bipush (x := nI 12) (p9 := 22) rfl rfl (by decide) ?_
  refine wn_mul (p9 := 23) rfl rfl ?_
  refine wz_iload_n (p9 := 24) rfl rfl rfl ?_
  refine wn_add (p9 := 25) rfl rfl ?_
  refine wz_iload_n (p9 := 26) rfl rfl rfl ?_
  refine ws_Aus (f := A.us) (p9 := 27) rfl rfl rfl (by omega) (A1 := (CA.s_us A (un A.us ((s * 12) + (A.su s)) w))) rfl ?_
  refine wz_aload_n (p9 := 28) rfl rfl rfl ?_
  refine wz_get (v := .ref 16) (p9 := 31) rfl rfl rfl rfl rfl ?_
  refine wz_iload_n (p9 := 32) rfl rfl rfl ?_
  refine wz_iload_n (p9 := 33) rfl rfl rfl ?_
  refine wz_iconst (x := nI 1) (p9 := 34) rfl rfl (by decide) ?_
  refine wn_add (p9 := 35) rfl rfl ?_
  refine ws_Asu (f := A.su) (p9 := 36) rfl rfl rfl (by omega) (A1 := (CA.s_us (CA.s_su A (un A.su s ((A.su s) + 1))) (un A.us ((s * 12) + (A.su s)) w))) rfl ?_
  refine wz_iconst (x := nI 1) (p9 := 37) rfl rfl (by decide) ?_
  exact wz_retz rfl rfl (by decide) rfl
theorem g_addUse0 {X : Nat × (Nat → Int32)} {d : Nat} {A : CA} {R : RA} {o : Nat → Int64} {s w : Nat} (hs : s < 8) (hu : A.su s = 12) : px_ev X (d + 1) 51 [.ref 14, .int (nI s), .int (nI w)] (WW A R o) (some (some (.int (nI 0))), WW A R o, 0, 0) := by
  refine wp_ev (d := d + 0) (by decide) rfl rfl (fun h => by cases h) ?_
  show wp X (d + 0) 51 (0, [.ref 14, .int (nI s), .int (nI w), .retAddr 0], [], WW A R o, 0, 0) _
  refine wz_aload_n (p9 := 1) rfl rfl rfl ?_
  refine wz_get (v := .ref 16) (p9 := 4) rfl rfl rfl rfl rfl ?_
  refine wz_iload_n (p9 := 5) rfl rfl rfl ?_
  refine wl_Asu (f := A.su) (p9 := 6) rfl rfl rfl (by omega) ?_
  refine wz_istore_n (l9 := [.ref 14, .int (nI s), .int (nI w), .int (nI (A.su s))]) (p9 := 7) rfl rfl rfl rfl ?_
  refine wz_iload_n (p9 := 8) rfl rfl rfl ?_
  refine wz_bipush (x := nI 12) (p9 := 10) rfl rfl (by decide) ?_
  refine wn_iclt (t9 := 15) (p9 := 13) rfl rfl rfl (by omega) (by omega) (fun h9 => by omega) (fun _ => ?_)
  refine wz_iconst (x := nI 0) (p9 := 14) rfl rfl (by decide) ?_
  exact wz_retz rfl rfl (by decide) rfl
theorem q_xor8 {x y : Nat} (hx : x < 1073741824) (hy : y < 1073741824) : x ^^^ y < 1073741824 := Nat.xor_lt_two_pow (n := 30) hx hy
theorem g_swapped {X : Nat × (Nat → Int32)} {d : Nat} {A : CA} {R : RA} {o : Nat → Int64} {x i j : Nat} (hx : x < 1073741824) (hi : i < 7) (hj : j < 7) : px_ev X (d + 2) 154 [.int (nI x), .int (nI i), .int (nI j)] (WW A R o) (some (some (.int (nI (x ^^^ (dg x i ^^^ dg x j) * 8 ^ i ^^^ (dg x i ^^^ dg x j) * 8 ^ j)))), WW A R o, 0, 0) := by
  refine wp_ev (d := d + 1) (by decide) rfl rfl (fun h => by cases h) ?_
  show wp X (d + 1) 154 (0, [.int (nI x), .int (nI i), .int (nI j), .retAddr 0], [], WW A R o, 0, 0) _
  refine wz_iload_n (p9 := 1) rfl rfl rfl ?_
  refine wz_iload_n (p9 := 2) rfl rfl rfl ?_
  refine wz_c1 (p9 := 5) (w1 := WW A R o) (u := .int (nI (dg x i))) (tz_calS (N := 152) (As := [.int (nI x), .int (nI i)]) (rest := []) rfl rfl rfl rfl rfl rfl) rfl ((g_pieceAt (d := 0) (by omega) (by omega)).up (by omega)) ?_
  refine wz_iload_n (p9 := 6) rfl rfl rfl ?_
  refine wz_iload_n (p9 := 7) rfl rfl rfl ?_
  refine wz_c1 (p9 := 10) (w1 := WW A R o) (u := .int (nI (dg x j))) (tz_calS (N := 152) (As := [.int (nI x), .int (nI j)]) (rest := [.int (nI (dg x i))]) rfl rfl rfl rfl rfl rfl) rfl ((g_pieceAt (d := 0) (by omega) (by omega)).up (by omega)) ?_
  refine wn_xor (p9 := 11) rfl rfl ?_
  refine wz_istore_n (l9 := [.int (nI x), .int (nI i), .int (nI j), .int (nI ((dg x i) ^^^ (dg x j)))]) (p9 := 12) rfl rfl rfl rfl ?_
  refine wz_iload_n (p9 := 13) rfl rfl rfl ?_
  refine wz_iload_n (p9 := 14) rfl rfl rfl ?_
  refine wz_iload_n (p9 := 15) rfl rfl rfl ?_
  refine wz_c1 (p9 := 18) (w1 := WW A R o) (u := .int (nI (((dg x i) ^^^ (dg x j)) * 8 ^ i))) (tz_calS (N := 153) (As := [.int (nI ((dg x i) ^^^ (dg x j))), .int (nI i)]) (rest := [.int (nI x)]) rfl rfl rfl rfl rfl rfl) rfl ((g_pieceTo (d := 0) (by omega)).up (by omega)) ?_
  refine wn_xor (p9 := 19) rfl rfl ?_
  refine wz_iload_n (p9 := 20) rfl rfl rfl ?_
  refine wz_iload_n (p9 := 21) rfl rfl rfl ?_
  refine wz_c1 (p9 := 24) (w1 := WW A R o) (u := .int (nI (((dg x i) ^^^ (dg x j)) * 8 ^ j))) (tz_calS (N := 153) (As := [.int (nI ((dg x i) ^^^ (dg x j))), .int (nI j)]) (rest := [.int (nI (x ^^^ (((dg x i) ^^^ (dg x j)) * 8 ^ i)))]) rfl rfl rfl rfl rfl rfl) rfl ((g_pieceTo (d := 0) (by omega)).up (by omega)) ?_
  refine wn_xor (p9 := 25) rfl rfl ?_
  exact wz_reti rfl rfl rfl
