/-! CLASS AND REFERENCE SIDE BY SIDE: states and fails, counted (wip/whole/gen/mkbo.py) -/
/-- a state that counts; a state that counts and fails -/
noncomputable def c0 (g x : Nat) : Nat := if mtb x g then 1 else 0
noncomputable def c1 (G : Nat → Bool × Nat × List Nat) (g x : Nat) : Nat := if mtb x g then (if (G x).1 && mtb (G x).2.1 g then 0 else 1) else 0
theorem c0_1 {g x : Nat} (h : mt x g) : c0 g x = 1 := by unfold c0; rw [mtb_1 h]; rfl
theorem c0_0 {g x : Nat} (h : ¬ mt x g) : c0 g x = 0 := by unfold c0; rw [mtb_0 h]; rfl
theorem c1_0 {G : Nat → Bool × Nat × List Nat} {g x : Nat} (h : ¬ mt x g) : c1 G g x = 0 := by unfold c1; rw [mtb_0 h]; rfl
theorem c1_f {G : Nat → Bool × Nat × List Nat} {g x : Nat} (h : mt x g) (h2 : (G x).1 = false) : c1 G g x = 1 := by unfold c1; rw [mtb_1 h, h2]; rfl
theorem c1_n {G : Nat → Bool × Nat × List Nat} {g x : Nat} (h : mt x g) (h3 : ¬ mt (G x).2.1 g) : c1 G g x = 1 := by unfold c1; rw [mtb_1 h, mtb_0 h3, Bool.and_false]; rfl
theorem c1_k {G : Nat → Bool × Nat × List Nat} {g x : Nat} (h : mt x g) (h2 : (G x).1 = true) (h3 : mt (G x).2.1 g) : c1 G g x = 0 := by unfold c1; rw [mtb_1 h, h2, mtb_1 h3]; rfl
theorem sm_c {f : Nat → Nat} (h : ∀ q, f q ≤ 1) : ∀ n, sm f n ≤ n
  | 0 => Nat.le_refl _
  | n + 1 => Nat.add_le_add (sm_c h n) (h n)
theorem c0_le {g x : Nat} : c0 g x ≤ 1 := by unfold c0; split <;> decide
theorem c1_le {G : Nat → Bool × Nat × List Nat} {g x : Nat} : c1 G g x ≤ 1 := by
  unfold c1
  split
  · split <;> decide
  · decide
theorem l_cS {X : Nat × (Nat → Int32)} {d : Nat} {A : CA} {R : RA} {o : Nat → Int64} (T : TV A.P A.Mv A.t A.od) (V : WV A.wc A.rl A.rr A.wg) (S : SV A.sc A.sg A.su A.us) {s N : Nat} {f : Nat → Nat} (hs : s < A.sc) (hl : A.fl ≤ 5040) (hN : N ≤ A.fl) (hf : ∀ i, i < N → A.fo i = f i ∧ pm A.P (f i)) {k z : Nat} {Q : px_Z → Prop} (kk : Q (some (some (.int (nI (sm (fun q => c0 (gb A.sg s) (f q)) N)))), WW A R o, k, z)) : ∀ (j i : Nat), i + j = N → wp X (d + 2) 94 (28, [.ref 0, .int (nI s), .int (nI (gb A.sg s)), .int (nI N), .int (nI (sm (fun q => c0 (gb A.sg s) (f q)) i)), .int (nI i)], [], WW A R o, k, z) Q
  | 0, i, hj => by
    obtain rfl : N = i := by omega
    refine wz_iload (p9 := 30) rfl rfl rfl ?_
    refine wz_iload_n (p9 := 31) rfl rfl rfl ?_
    refine wn_icge (t9 := 59) (p9 := 34) rfl rfl rfl (by omega) (by omega) (fun _ => ?_) (fun h9 => by omega)
    refine wz_iload (p9 := 61) rfl rfl rfl ?_
    exact wz_reti rfl rfl kk
  | j + 1, i, hj => by
    have p7 := T.p7
    have hsc := S.sc
    have h5 := sm_c (f := (fun q => c0 (gb A.sg s) (f q))) (fun q => c0_le) i
    obtain ⟨e1, hpm⟩ := hf i (by omega)
    have hx9 := pm_lt p7 hpm
    have hg9 := gb_lt S.sg s
    by_cases hm : mt (f i) (gb A.sg s)
    · skip
      refine wz_iload (p9 := 30) rfl rfl rfl ?_
      refine wz_iload_n (p9 := 31) rfl rfl rfl ?_
      refine wn_icge (t9 := 59) (p9 := 34) rfl rfl rfl (by omega) (by omega) (fun h9 => by omega) (fun _ => ?_)
      refine wz_aload_n (p9 := 35) rfl rfl rfl ?_
      refine wz_get (v := .ref 18) (p9 := 38) rfl rfl rfl rfl rfl ?_
      refine wz_iload (p9 := 40) rfl rfl rfl ?_
      refine wz_c1 (p9 := 43) (w1 := WW A R o) (u := .int (nI (f i))) (wa_v (N := 63) (i := 18) (As := [.int (nI i)]) (rest := []) rfl rfl rfl rfl rfl rfl rfl) rfl (by have h9 := (g_stateAt (X := X) (d := 0) (A := A) (R := R) (o := o) (i := i) hl (by omega)).up (show 0 + 1 ≤ d + 2 by omega); rw [e1] at h9; exact h9) ?_
      refine wz_iload_n (p9 := 44) rfl rfl rfl ?_
      refine wz_c1 (p9 := 47) (w1 := WW A R o) (u := .int (nI 1)) (tz_calS (N := 155) (As := [.int (nI (f i)), .int (nI (gb A.sg s))]) (rest := []) rfl rfl rfl rfl rfl rfl) rfl ((g_meets1 (d := 0) (by omega) (by omega) hm).up (by omega)) ?_
      refine wn_ifeq (t9 := 53) (p9 := 50) rfl rfl rfl (by omega) (fun h9 => by omega) (fun _ => ?_)
      refine wn_inc (b := 1) (l9 := [.ref 0, .int (nI s), .int (nI (gb A.sg s)), .int (nI N), .int (nI ((sm (fun q => c0 (gb A.sg s) (f q)) i) + 1)), .int (nI i)]) (p9 := 53) rfl rfl rfl (by decide) rfl ?_
      refine wn_inc (b := 1) (l9 := [.ref 0, .int (nI s), .int (nI (gb A.sg s)), .int (nI N), .int (nI ((sm (fun q => c0 (gb A.sg s) (f q)) i) + 1)), .int (nI (i + 1))]) (p9 := 56) rfl rfl rfl (by decide) rfl ?_
      refine wz_goto (p9 := 28) rfl rfl ?_
      rw [show sm (fun q => c0 (gb A.sg s) (f q)) i + 1 = sm (fun q => c0 (gb A.sg s) (f q)) (i + 1) by show _ = sm _ i + c0 _ (f i); rw [c0_1 hm]]
      exact l_cS T V S hs hl hN hf kk j (i + 1) (by omega)
    · skip
      refine wz_iload (p9 := 30) rfl rfl rfl ?_
      refine wz_iload_n (p9 := 31) rfl rfl rfl ?_
      refine wn_icge (t9 := 59) (p9 := 34) rfl rfl rfl (by omega) (by omega) (fun h9 => by omega) (fun _ => ?_)
      refine wz_aload_n (p9 := 35) rfl rfl rfl ?_
      refine wz_get (v := .ref 18) (p9 := 38) rfl rfl rfl rfl rfl ?_
      refine wz_iload (p9 := 40) rfl rfl rfl ?_
      refine wz_c1 (p9 := 43) (w1 := WW A R o) (u := .int (nI (f i))) (wa_v (N := 63) (i := 18) (As := [.int (nI i)]) (rest := []) rfl rfl rfl rfl rfl rfl rfl) rfl (by have h9 := (g_stateAt (X := X) (d := 0) (A := A) (R := R) (o := o) (i := i) hl (by omega)).up (show 0 + 1 ≤ d + 2 by omega); rw [e1] at h9; exact h9) ?_
      refine wz_iload_n (p9 := 44) rfl rfl rfl ?_
      refine wz_c1 (p9 := 47) (w1 := WW A R o) (u := .int (nI 0)) (tz_calS (N := 155) (As := [.int (nI (f i)), .int (nI (gb A.sg s))]) (rest := []) rfl rfl rfl rfl rfl rfl) rfl ((g_meets0 (d := 0) (by omega) (by omega) hm).up (by omega)) ?_
      refine wn_ifeq (t9 := 53) (p9 := 50) rfl rfl rfl (by omega) (fun _ => ?_) (fun h9 => by omega)
      refine wn_inc (b := 1) (l9 := [.ref 0, .int (nI s), .int (nI (gb A.sg s)), .int (nI N), .int (nI (sm (fun q => c0 (gb A.sg s) (f q)) i)), .int (nI (i + 1))]) (p9 := 56) rfl rfl rfl (by decide) rfl ?_
      refine wz_goto (p9 := 28) rfl rfl ?_
      rw [show sm (fun q => c0 (gb A.sg s) (f q)) i = sm (fun q => c0 (gb A.sg s) (f q)) (i + 1) by show _ = sm _ i + c0 _ (f i); rw [c0_0 hm]; rfl]
      exact l_cS T V S hs hl hN hf kk j (i + 1) (by omega)
theorem l_cF {X : Nat × (Nat → Int32)} {d : Nat} {A : CA} {R : RA} {o : Nat → Int64} (T : TV A.P A.Mv A.t A.od) (V : WV A.wc A.rl A.rr A.wg) (S : SV A.sc A.sg A.su A.us) {s N : Nat} {f : Nat → Nat} (hs : s < A.sc) (hl : A.fl ≤ 5040) (hN : N ≤ A.fl) (hf : ∀ i, i < N → A.fo i = f i ∧ pm A.P (f i)) {k z : Nat} {Q : px_Z → Prop} (kk : Q (some (some (.int (nI (sm (fun q => c1 (gs A.P A.wg A.us (A.sg s) (A.su s) s 7) (gb A.sg s) (f q)) N)))), WW A R o, k, z)) : ∀ (j i : Nat), i + j = N → ∀ v6, wp X (d + 4) 95 (28, [.ref 0, .int (nI s), .int (nI (gb A.sg s)), .int (nI N), .int (nI (sm (fun q => c1 (gs A.P A.wg A.us (A.sg s) (A.su s) s 7) (gb A.sg s) (f q)) i)), .int (nI i), v6], [], WW A R o, k, z) Q
  | 0, i, hj => by
    intro v6
    obtain rfl : N = i := by omega
    refine wz_iload (p9 := 30) rfl rfl rfl ?_
    refine wz_iload_n (p9 := 31) rfl rfl rfl ?_
    refine wn_icge (t9 := 77) (p9 := 34) rfl rfl rfl (by omega) (by omega) (fun _ => ?_) (fun h9 => by omega)
    refine wz_iload (p9 := 79) rfl rfl rfl ?_
    exact wz_reti rfl rfl kk
  | j + 1, i, hj => by
    intro v6
    have p7 := T.p7
    have hsc := S.sc
    have h5 := sm_c (f := (fun q => c1 (gs A.P A.wg A.us (A.sg s) (A.su s) s 7) (gb A.sg s) (f q))) (fun q => c1_le) i
    obtain ⟨e1, hpm⟩ := hf i (by omega)
    have hx9 := pm_lt p7 hpm
    have hg9 := gb_lt S.sg s
    by_cases hm : mt (f i) (gb A.sg s)
    · cases he : (((gs A.P A.wg A.us (A.sg s) (A.su s) s) 7 (f i)).1 && mtb ((gs A.P A.wg A.us (A.sg s) (A.su s) s) 7 (f i)).2.1 (gb A.sg s)) with
      | true =>
        refine wz_iload (p9 := 30) rfl rfl rfl ?_
        refine wz_iload_n (p9 := 31) rfl rfl rfl ?_
        refine wn_icge (t9 := 77) (p9 := 34) rfl rfl rfl (by omega) (by omega) (fun h9 => by omega) (fun _ => ?_)
        refine wz_aload_n (p9 := 35) rfl rfl rfl ?_
        refine wz_get (v := .ref 18) (p9 := 38) rfl rfl rfl rfl rfl ?_
        refine wz_iload (p9 := 40) rfl rfl rfl ?_
        refine wz_c1 (p9 := 43) (w1 := WW A R o) (u := .int (nI (f i))) (wa_v (N := 63) (i := 18) (As := [.int (nI i)]) (rest := []) rfl rfl rfl rfl rfl rfl rfl) rfl (by have h9 := (g_stateAt (X := X) (d := 0) (A := A) (R := R) (o := o) (i := i) hl (by omega)).up (show 0 + 1 ≤ d + 4 by omega); rw [e1] at h9; exact h9) ?_
        refine wz_istore (l9 := [.ref 0, .int (nI s), .int (nI (gb A.sg s)), .int (nI N), .int (nI (sm (fun q => c1 (gs A.P A.wg A.us (A.sg s) (A.su s) s 7) (gb A.sg s) (f q)) i)), .int (nI i), .int (nI (f i))]) (p9 := 45) rfl rfl rfl rfl ?_
        refine wz_iload (p9 := 47) rfl rfl rfl ?_
        refine wz_iload_n (p9 := 48) rfl rfl rfl ?_
        refine wz_c1 (p9 := 51) (w1 := WW A R o) (u := .int (nI 1)) (tz_calS (N := 155) (As := [.int (nI (f i)), .int (nI (gb A.sg s))]) (rest := []) rfl rfl rfl rfl rfl rfl) rfl ((g_meets1 (d := 0) (by omega) (by omega) hm).up (by omega)) ?_
        refine wn_ifeq (t9 := 71) (p9 := 54) rfl rfl rfl (by omega) (fun h9 => by omega) (fun _ => ?_)
        refine wz_aload_n (p9 := 55) rfl rfl rfl ?_
        refine wz_get (v := .ref 14) (p9 := 58) rfl rfl rfl rfl rfl ?_
        refine wz_iload_n (p9 := 59) rfl rfl rfl ?_
        refine wz_iload (p9 := 61) rfl rfl rfl ?_
        refine wz_iload_n (p9 := 62) rfl rfl rfl ?_
        refine wz_c1 (p9 := 65) (w1 := WW A R o) (u := .int (nI 1)) (wa_v (N := 56) (i := 14) (As := [.int (nI s), .int (nI (f i)), .int (nI (gb A.sg s))]) (rest := []) rfl rfl rfl rfl rfl rfl rfl) rfl (by have h9 := (g_endsWell (X := X) (d := 0) (A := A) (R := R) (o := o) T V S (s := s) (x := f i) (y := (gb A.sg s)) (by omega) (by omega) (by omega)).up (show 0 + 4 ≤ d + 4 by omega); rw [show (((gs A.P A.wg A.us (A.sg s) (A.su s) s) 7 (f i)).1 && mtb ((gs A.P A.wg A.us (A.sg s) (A.su s) s) 7 (f i)).2.1 (gb A.sg s)) = true from he] at h9; exact h9) ?_
        refine wn_ifne (t9 := 71) (p9 := 68) rfl rfl rfl (by omega) (fun _ => ?_) (fun h9 => by omega)
        refine wn_inc (b := 1) (l9 := [.ref 0, .int (nI s), .int (nI (gb A.sg s)), .int (nI N), .int (nI (sm (fun q => c1 (gs A.P A.wg A.us (A.sg s) (A.su s) s 7) (gb A.sg s) (f q)) i)), .int (nI (i + 1)), .int (nI (f i))]) (p9 := 74) rfl rfl rfl (by decide) rfl ?_
        refine wz_goto (p9 := 28) rfl rfl ?_
        rw [show sm (fun q => c1 (gs A.P A.wg A.us (A.sg s) (A.su s) s 7) (gb A.sg s) (f q)) i = sm (fun q => c1 (gs A.P A.wg A.us (A.sg s) (A.su s) s 7) (gb A.sg s) (f q)) (i + 1) by show _ = sm _ i + c1 _ _ (f i); rw [show c1 (gs A.P A.wg A.us (A.sg s) (A.su s) s 7) (gb A.sg s) (f i) = 0 by unfold c1; rw [mtb_1 hm, he]; rfl]; rfl]
        exact l_cF T V S hs hl hN hf kk j (i + 1) (by omega) _
      | false =>
        refine wz_iload (p9 := 30) rfl rfl rfl ?_
        refine wz_iload_n (p9 := 31) rfl rfl rfl ?_
        refine wn_icge (t9 := 77) (p9 := 34) rfl rfl rfl (by omega) (by omega) (fun h9 => by omega) (fun _ => ?_)
        refine wz_aload_n (p9 := 35) rfl rfl rfl ?_
        refine wz_get (v := .ref 18) (p9 := 38) rfl rfl rfl rfl rfl ?_
        refine wz_iload (p9 := 40) rfl rfl rfl ?_
        refine wz_c1 (p9 := 43) (w1 := WW A R o) (u := .int (nI (f i))) (wa_v (N := 63) (i := 18) (As := [.int (nI i)]) (rest := []) rfl rfl rfl rfl rfl rfl rfl) rfl (by have h9 := (g_stateAt (X := X) (d := 0) (A := A) (R := R) (o := o) (i := i) hl (by omega)).up (show 0 + 1 ≤ d + 4 by omega); rw [e1] at h9; exact h9) ?_
        refine wz_istore (l9 := [.ref 0, .int (nI s), .int (nI (gb A.sg s)), .int (nI N), .int (nI (sm (fun q => c1 (gs A.P A.wg A.us (A.sg s) (A.su s) s 7) (gb A.sg s) (f q)) i)), .int (nI i), .int (nI (f i))]) (p9 := 45) rfl rfl rfl rfl ?_
        refine wz_iload (p9 := 47) rfl rfl rfl ?_
        refine wz_iload_n (p9 := 48) rfl rfl rfl ?_
        refine wz_c1 (p9 := 51) (w1 := WW A R o) (u := .int (nI 1)) (tz_calS (N := 155) (As := [.int (nI (f i)), .int (nI (gb A.sg s))]) (rest := []) rfl rfl rfl rfl rfl rfl) rfl ((g_meets1 (d := 0) (by omega) (by omega) hm).up (by omega)) ?_
        refine wn_ifeq (t9 := 71) (p9 := 54) rfl rfl rfl (by omega) (fun h9 => by omega) (fun _ => ?_)
        refine wz_aload_n (p9 := 55) rfl rfl rfl ?_
        refine wz_get (v := .ref 14) (p9 := 58) rfl rfl rfl rfl rfl ?_
        refine wz_iload_n (p9 := 59) rfl rfl rfl ?_
        refine wz_iload (p9 := 61) rfl rfl rfl ?_
        refine wz_iload_n (p9 := 62) rfl rfl rfl ?_
        refine wz_c1 (p9 := 65) (w1 := WW A R o) (u := .int (nI 0)) (wa_v (N := 56) (i := 14) (As := [.int (nI s), .int (nI (f i)), .int (nI (gb A.sg s))]) (rest := []) rfl rfl rfl rfl rfl rfl rfl) rfl (by have h9 := (g_endsWell (X := X) (d := 0) (A := A) (R := R) (o := o) T V S (s := s) (x := f i) (y := (gb A.sg s)) (by omega) (by omega) (by omega)).up (show 0 + 4 ≤ d + 4 by omega); rw [show (((gs A.P A.wg A.us (A.sg s) (A.su s) s) 7 (f i)).1 && mtb ((gs A.P A.wg A.us (A.sg s) (A.su s) s) 7 (f i)).2.1 (gb A.sg s)) = false from he] at h9; exact h9) ?_
        refine wn_ifne (t9 := 71) (p9 := 68) rfl rfl rfl (by omega) (fun h9 => by omega) (fun _ => ?_)
        refine wn_inc (b := 1) (l9 := [.ref 0, .int (nI s), .int (nI (gb A.sg s)), .int (nI N), .int (nI ((sm (fun q => c1 (gs A.P A.wg A.us (A.sg s) (A.su s) s 7) (gb A.sg s) (f q)) i) + 1)), .int (nI i), .int (nI (f i))]) (p9 := 71) rfl rfl rfl (by decide) rfl ?_
        refine wn_inc (b := 1) (l9 := [.ref 0, .int (nI s), .int (nI (gb A.sg s)), .int (nI N), .int (nI ((sm (fun q => c1 (gs A.P A.wg A.us (A.sg s) (A.su s) s 7) (gb A.sg s) (f q)) i) + 1)), .int (nI (i + 1)), .int (nI (f i))]) (p9 := 74) rfl rfl rfl (by decide) rfl ?_
        refine wz_goto (p9 := 28) rfl rfl ?_
        rw [show sm (fun q => c1 (gs A.P A.wg A.us (A.sg s) (A.su s) s 7) (gb A.sg s) (f q)) i + 1 = sm (fun q => c1 (gs A.P A.wg A.us (A.sg s) (A.su s) s 7) (gb A.sg s) (f q)) (i + 1) by show _ = sm _ i + c1 _ _ (f i); rw [show c1 (gs A.P A.wg A.us (A.sg s) (A.su s) s 7) (gb A.sg s) (f i) = 1 by unfold c1; rw [mtb_1 hm, he]; rfl]]
        exact l_cF T V S hs hl hN hf kk j (i + 1) (by omega) _
    · skip
      refine wz_iload (p9 := 30) rfl rfl rfl ?_
      refine wz_iload_n (p9 := 31) rfl rfl rfl ?_
      refine wn_icge (t9 := 77) (p9 := 34) rfl rfl rfl (by omega) (by omega) (fun h9 => by omega) (fun _ => ?_)
      refine wz_aload_n (p9 := 35) rfl rfl rfl ?_
      refine wz_get (v := .ref 18) (p9 := 38) rfl rfl rfl rfl rfl ?_
      refine wz_iload (p9 := 40) rfl rfl rfl ?_
      refine wz_c1 (p9 := 43) (w1 := WW A R o) (u := .int (nI (f i))) (wa_v (N := 63) (i := 18) (As := [.int (nI i)]) (rest := []) rfl rfl rfl rfl rfl rfl rfl) rfl (by have h9 := (g_stateAt (X := X) (d := 0) (A := A) (R := R) (o := o) (i := i) hl (by omega)).up (show 0 + 1 ≤ d + 4 by omega); rw [e1] at h9; exact h9) ?_
      refine wz_istore (l9 := [.ref 0, .int (nI s), .int (nI (gb A.sg s)), .int (nI N), .int (nI (sm (fun q => c1 (gs A.P A.wg A.us (A.sg s) (A.su s) s 7) (gb A.sg s) (f q)) i)), .int (nI i), .int (nI (f i))]) (p9 := 45) rfl rfl rfl rfl ?_
      refine wz_iload (p9 := 47) rfl rfl rfl ?_
      refine wz_iload_n (p9 := 48) rfl rfl rfl ?_
      refine wz_c1 (p9 := 51) (w1 := WW A R o) (u := .int (nI 0)) (tz_calS (N := 155) (As := [.int (nI (f i)), .int (nI (gb A.sg s))]) (rest := []) rfl rfl rfl rfl rfl rfl) rfl ((g_meets0 (d := 0) (by omega) (by omega) hm).up (by omega)) ?_
      refine wn_ifeq (t9 := 71) (p9 := 54) rfl rfl rfl (by omega) (fun _ => ?_) (fun h9 => by omega)
      refine wn_inc (b := 1) (l9 := [.ref 0, .int (nI s), .int (nI (gb A.sg s)), .int (nI N), .int (nI (sm (fun q => c1 (gs A.P A.wg A.us (A.sg s) (A.su s) s 7) (gb A.sg s) (f q)) i)), .int (nI (i + 1)), .int (nI (f i))]) (p9 := 74) rfl rfl rfl (by decide) rfl ?_
      refine wz_goto (p9 := 28) rfl rfl ?_
      rw [show sm (fun q => c1 (gs A.P A.wg A.us (A.sg s) (A.su s) s 7) (gb A.sg s) (f q)) i = sm (fun q => c1 (gs A.P A.wg A.us (A.sg s) (A.su s) s 7) (gb A.sg s) (f q)) (i + 1) by show _ = sm _ i + c1 _ _ (f i); rw [c1_0 hm]; rfl]
      exact l_cF T V S hs hl hN hf kk j (i + 1) (by omega) _
theorem l_mS {X : Nat × (Nat → Int32)} {d : Nat} {A : CA} {R : RA} {o : Nat → Int64} (H : RG A R) {s : Nat} (hs : s < A.sc) (hQ : ∀ q, q < (bf0 A.P A.Mv A.t).1 → R.qu q = (rk A.P ((bf0 A.P A.Mv A.t).2.1 q) A.P).1) {k z : Nat} {Q : px_Z → Prop} (kk : ∀ s1 ot1, Q (some (some (.int (nI (sm (fun q => c0 (gb A.sg s) ((bf0 A.P A.Mv A.t).2.1 q)) (bf0 A.P A.Mv A.t).1)))), WW A (RA.s_ot (RA.s_s R s1) ot1) o, k, z)) : ∀ (j i : Nat) (s2 ot2 : Nat → Nat), i + j = (bf0 A.P A.Mv A.t).1 → wp X (d + 4) 138 (11, [.ref 26, .int (nI s), .int (nI 0), .int (nI (bf0 A.P A.Mv A.t).1), .int (nI (sm (fun q => c0 (gb A.sg s) ((bf0 A.P A.Mv A.t).2.1 q)) i)), .int (nI i)], [], WW A (RA.s_ot (RA.s_s R s2) ot2) o, k, z) Q
  | 0, i, s2, ot2, hj => by
    have hfa := fac_le H.T.p7
    have hb5 : (bf0 A.P A.Mv A.t).1 ≤ fac A.P := by have := (bf0_BF H.T).1.1; omega
    obtain rfl : i = (bf0 A.P A.Mv A.t).1 := by omega
    refine wz_iload (p9 := 13) rfl rfl rfl ?_
    refine wz_iload_n (p9 := 14) rfl rfl rfl ?_
    refine wn_icge (t9 := 75) (p9 := 17) rfl rfl rfl (by omega) (by omega) (fun _ => ?_) (fun h9 => by omega)
    refine wz_iload (p9 := 77) rfl rfl rfl ?_
    exact wz_reti rfl rfl (kk s2 ot2)
  | j + 1, i, s2, ot2, hj => by
    have p7 := H.T.p7
    have hP7 := H.TR.p7
    have hP2 := H.TR.p2
    have hsc := H.S.sc
    have h5 := sm_c (f := (fun q => c0 (gb A.sg s) ((bf0 A.P A.Mv A.t).2.1 q))) (fun q => c0_le) i
    have hfa := fac_le p7
    obtain ⟨hB, hB1⟩ := bf0_BF H.T
    have hb5 : (bf0 A.P A.Mv A.t).1 ≤ fac A.P := by have := hB.1; omega
    have hxA := hB.2.1 i (by omega)
    have hxR : pm R.P ((bf0 A.P A.Mv A.t).2.1 i) := by rw [H.p]; exact hxA
    have hS5 : SD R.P (cz (dg ((bf0 A.P A.Mv A.t).2.1 i)) s2 R.P) ((bf0 A.P A.Mv A.t).2.1 i) := fun p hp => by unfold cz; rw [if_pos hp]
    by_cases hm : mt ((bf0 A.P A.Mv A.t).2.1 i) (gb A.sg s)
    · skip
      refine wz_iload (p9 := 13) rfl rfl rfl ?_
      refine wz_iload_n (p9 := 14) rfl rfl rfl ?_
      refine wn_icge (t9 := 75) (p9 := 17) rfl rfl rfl (by omega) (by omega) (fun h9 => by omega) (fun _ => ?_)
      refine wz_aload_n (p9 := 18) rfl rfl rfl ?_
      refine wz_aload_n (p9 := 19) rfl rfl rfl ?_
      refine wz_get (v := .ref 43) (p9 := 22) rfl rfl rfl rfl rfl ?_
      refine wz_iload (p9 := 24) rfl rfl rfl ?_
      refine wl_Rqu (f := R.qu) (p9 := 25) rfl rfl rfl (by omega) ?_
      rw [show nI (R.qu i) = nI ((rk R.P ((bf0 A.P A.Mv A.t).2.1 i) R.P).1) by rw [hQ i (by omega), H.p]]
      refine wz_c0 (p9 := 28) (w1 := WW A (RA.s_ot (RA.s_s R (cz (dg ((bf0 A.P A.Mv A.t).2.1 i)) s2 R.P)) (ud (fun q => sm (lw (dg ((bf0 A.P A.Mv A.t).2.1 i)) q) R.P) ot2 R.P 0)) o) (wa_v (N := 140) (i := 26) (As := [.int (nI ((rk R.P ((bf0 A.P A.Mv A.t).2.1 i) R.P).1))]) (rest := []) rfl rfl rfl rfl rfl rfl rfl) rfl ((g_unrank (d := 0) (A := A) (R := (RA.s_ot (RA.s_s R s2) ot2)) (o := o) hP7 hP2 (x := ((bf0 A.P A.Mv A.t).2.1 i)) hxR).up (by omega)) ?_
      refine wz_aload_n (p9 := 29) rfl rfl rfl ?_
      refine wz_iload_n (p9 := 30) rfl rfl rfl ?_
      refine wz_c1 (p9 := 33) (w1 := WW A (RA.s_ot (RA.s_s R (cz (dg ((bf0 A.P A.Mv A.t).2.1 i)) s2 R.P)) (ud (fun q => sm (lw (dg ((bf0 A.P A.Mv A.t).2.1 i)) q) R.P) ot2 R.P 0)) o) (u := .int (nI 1)) (wa_v (N := 142) (i := 26) (As := [.int (nI s)]) (rest := []) rfl rfl rfl rfl rfl rfl rfl) rfl ((g_mMet1 (d := 0) (A := A) (R := (RA.s_ot (RA.s_s R (cz (dg ((bf0 A.P A.Mv A.t).2.1 i)) s2 R.P)) (ud (fun q => sm (lw (dg ((bf0 A.P A.Mv A.t).2.1 i)) q) R.P) ot2 R.P 0))) (o := o) H (by omega) hS5 hm).up (by omega)) ?_
      refine wn_ifne (t9 := 39) (p9 := 36) rfl rfl rfl (by omega) (fun _ => ?_) (fun h9 => by omega)
      refine wz_iload (p9 := 41) rfl rfl rfl ?_
      refine wz_iload_n (p9 := 42) rfl rfl rfl ?_
      refine wn_ifeq (t9 := 61) (p9 := 45) rfl rfl rfl (by omega) (fun _ => ?_) (fun h9 => by omega)
      refine wz_iconst (x := nI 1) (p9 := 62) rfl rfl (by decide) ?_
      refine wz_goto (p9 := 66) rfl rfl ?_
      refine wn_add (p9 := 67) rfl rfl ?_
      refine wz_istore (l9 := [.ref 26, .int (nI s), .int (nI 0), .int (nI ((bf0 A.P A.Mv A.t).1)), .int (nI ((sm (fun q => c0 (gb A.sg s) ((bf0 A.P A.Mv A.t).2.1 q)) i) + 1)), .int (nI i)]) (p9 := 69) rfl rfl rfl rfl ?_
      refine wn_inc (b := 1) (l9 := [.ref 26, .int (nI s), .int (nI 0), .int (nI ((bf0 A.P A.Mv A.t).1)), .int (nI ((sm (fun q => c0 (gb A.sg s) ((bf0 A.P A.Mv A.t).2.1 q)) i) + 1)), .int (nI (i + 1))]) (p9 := 72) rfl rfl rfl (by decide) rfl ?_
      refine wz_goto (p9 := 11) rfl rfl ?_
      rw [show sm (fun q => c0 (gb A.sg s) ((bf0 A.P A.Mv A.t).2.1 q)) i + 1 = sm (fun q => c0 (gb A.sg s) ((bf0 A.P A.Mv A.t).2.1 q)) (i + 1) by show _ = sm _ i + c0 _ _; rw [c0_1 hm]]
      exact l_mS H hs hQ kk j (i + 1) _ _ (by omega)
    · skip
      refine wz_iload (p9 := 13) rfl rfl rfl ?_
      refine wz_iload_n (p9 := 14) rfl rfl rfl ?_
      refine wn_icge (t9 := 75) (p9 := 17) rfl rfl rfl (by omega) (by omega) (fun h9 => by omega) (fun _ => ?_)
      refine wz_aload_n (p9 := 18) rfl rfl rfl ?_
      refine wz_aload_n (p9 := 19) rfl rfl rfl ?_
      refine wz_get (v := .ref 43) (p9 := 22) rfl rfl rfl rfl rfl ?_
      refine wz_iload (p9 := 24) rfl rfl rfl ?_
      refine wl_Rqu (f := R.qu) (p9 := 25) rfl rfl rfl (by omega) ?_
      rw [show nI (R.qu i) = nI ((rk R.P ((bf0 A.P A.Mv A.t).2.1 i) R.P).1) by rw [hQ i (by omega), H.p]]
      refine wz_c0 (p9 := 28) (w1 := WW A (RA.s_ot (RA.s_s R (cz (dg ((bf0 A.P A.Mv A.t).2.1 i)) s2 R.P)) (ud (fun q => sm (lw (dg ((bf0 A.P A.Mv A.t).2.1 i)) q) R.P) ot2 R.P 0)) o) (wa_v (N := 140) (i := 26) (As := [.int (nI ((rk R.P ((bf0 A.P A.Mv A.t).2.1 i) R.P).1))]) (rest := []) rfl rfl rfl rfl rfl rfl rfl) rfl ((g_unrank (d := 0) (A := A) (R := (RA.s_ot (RA.s_s R s2) ot2)) (o := o) hP7 hP2 (x := ((bf0 A.P A.Mv A.t).2.1 i)) hxR).up (by omega)) ?_
      refine wz_aload_n (p9 := 29) rfl rfl rfl ?_
      refine wz_iload_n (p9 := 30) rfl rfl rfl ?_
      refine wz_c1 (p9 := 33) (w1 := WW A (RA.s_ot (RA.s_s R (cz (dg ((bf0 A.P A.Mv A.t).2.1 i)) s2 R.P)) (ud (fun q => sm (lw (dg ((bf0 A.P A.Mv A.t).2.1 i)) q) R.P) ot2 R.P 0)) o) (u := .int (nI 0)) (wa_v (N := 142) (i := 26) (As := [.int (nI s)]) (rest := []) rfl rfl rfl rfl rfl rfl rfl) rfl ((g_mMet0 (d := 0) (A := A) (R := (RA.s_ot (RA.s_s R (cz (dg ((bf0 A.P A.Mv A.t).2.1 i)) s2 R.P)) (ud (fun q => sm (lw (dg ((bf0 A.P A.Mv A.t).2.1 i)) q) R.P) ot2 R.P 0))) (o := o) H (by omega) hS5 hm).up (by omega)) ?_
      refine wn_ifne (t9 := 39) (p9 := 36) rfl rfl rfl (by omega) (fun h9 => by omega) (fun _ => ?_)
      refine wz_goto (p9 := 69) rfl rfl ?_
      refine wn_inc (b := 1) (l9 := [.ref 26, .int (nI s), .int (nI 0), .int (nI ((bf0 A.P A.Mv A.t).1)), .int (nI (sm (fun q => c0 (gb A.sg s) ((bf0 A.P A.Mv A.t).2.1 q)) i)), .int (nI (i + 1))]) (p9 := 72) rfl rfl rfl (by decide) rfl ?_
      refine wz_goto (p9 := 11) rfl rfl ?_
      rw [show sm (fun q => c0 (gb A.sg s) ((bf0 A.P A.Mv A.t).2.1 q)) i = sm (fun q => c0 (gb A.sg s) ((bf0 A.P A.Mv A.t).2.1 q)) (i + 1) by show _ = sm _ i + c0 _ _; rw [c0_0 hm]; rfl]
      exact l_mS H hs hQ kk j (i + 1) _ _ (by omega)
theorem l_mF {X : Nat × (Nat → Int32)} {d : Nat} {A : CA} {R : RA} {o : Nat → Int64} (H : RG A R) {s : Nat} (hs : s < A.sc) (hQ : ∀ q, q < (bf0 A.P A.Mv A.t).1 → R.qu q = (rk A.P ((bf0 A.P A.Mv A.t).2.1 q) A.P).1) {k z : Nat} {Q : px_Z → Prop} (kk : ∀ s1 ot1 dd1 di1, Q (some (some (.int (nI (sm (fun q => c1 (gs A.P A.wg A.us (A.sg s) (A.su s) s 7) (gb A.sg s) ((bf0 A.P A.Mv A.t).2.1 q)) (bf0 A.P A.Mv A.t).1)))), WW A (RA.s_di (RA.s_dd (RA.s_ot (RA.s_s R s1) ot1) dd1) di1) o, k, z)) : ∀ (j i : Nat) (s2 ot2 : Nat → Nat) (dd2 : Nat) (di2 : Nat → Nat), i + j = (bf0 A.P A.Mv A.t).1 → wp X (d + 4) 138 (11, [.ref 26, .int (nI s), .int (nI 1), .int (nI (bf0 A.P A.Mv A.t).1), .int (nI (sm (fun q => c1 (gs A.P A.wg A.us (A.sg s) (A.su s) s 7) (gb A.sg s) ((bf0 A.P A.Mv A.t).2.1 q)) i)), .int (nI i)], [], WW A (RA.s_di (RA.s_dd (RA.s_ot (RA.s_s R s2) ot2) dd2) di2) o, k, z) Q
  | 0, i, s2, ot2, dd2, di2, hj => by
    have hfa := fac_le H.T.p7
    have hb5 : (bf0 A.P A.Mv A.t).1 ≤ fac A.P := by have := (bf0_BF H.T).1.1; omega
    obtain rfl : i = (bf0 A.P A.Mv A.t).1 := by omega
    refine wz_iload (p9 := 13) rfl rfl rfl ?_
    refine wz_iload_n (p9 := 14) rfl rfl rfl ?_
    refine wn_icge (t9 := 75) (p9 := 17) rfl rfl rfl (by omega) (by omega) (fun _ => ?_) (fun h9 => by omega)
    refine wz_iload (p9 := 77) rfl rfl rfl ?_
    exact wz_reti rfl rfl (kk s2 ot2 dd2 di2)
  | j + 1, i, s2, ot2, dd2, di2, hj => by
    have p7 := H.T.p7
    have hP7 := H.TR.p7
    have hP2 := H.TR.p2
    have hsc := H.S.sc
    have h5 := sm_c (f := (fun q => c1 (gs A.P A.wg A.us (A.sg s) (A.su s) s 7) (gb A.sg s) ((bf0 A.P A.Mv A.t).2.1 q))) (fun q => c1_le) i
    have hfa := fac_le p7
    obtain ⟨hB, hB1⟩ := bf0_BF H.T
    have hb5 : (bf0 A.P A.Mv A.t).1 ≤ fac A.P := by have := hB.1; omega
    have hxA := hB.2.1 i (by omega)
    have hxR : pm R.P ((bf0 A.P A.Mv A.t).2.1 i) := by rw [H.p]; exact hxA
    have hS5 : SD R.P (cz (dg ((bf0 A.P A.Mv A.t).2.1 i)) s2 R.P) ((bf0 A.P A.Mv A.t).2.1 i) := fun p hp => by unfold cz; rw [if_pos hp]
    by_cases hm : mt ((bf0 A.P A.Mv A.t).2.1 i) (gb A.sg s)
    · obtain ⟨s1, ot1, di1, hS1, _, hgo⟩ := g_mGo (X := X) (d := 0) (A := A) (R := (RA.s_di (RA.s_dd (RA.s_ot (RA.s_s R (cz (dg ((bf0 A.P A.Mv A.t).2.1 i)) s2 R.P)) (ud (fun q => sm (lw (dg ((bf0 A.P A.Mv A.t).2.1 i)) q) R.P) ot2 R.P 0)) dd2) di2)) (o := o) (s := s) (x := ((bf0 A.P A.Mv A.t).2.1 i)) H hs hxA hS5
      have hS9 : SD R.P s1 (gs A.P A.wg A.us (A.sg s) (A.su s) s 7 ((bf0 A.P A.Mv A.t).2.1 i)).2.1 := hS1
      cases hok : (gs A.P A.wg A.us (A.sg s) (A.su s) s 7 ((bf0 A.P A.Mv A.t).2.1 i)).1 with
      | false =>
        refine wz_iload (p9 := 13) rfl rfl rfl ?_
        refine wz_iload_n (p9 := 14) rfl rfl rfl ?_
        refine wn_icge (t9 := 75) (p9 := 17) rfl rfl rfl (by omega) (by omega) (fun h9 => by omega) (fun _ => ?_)
        refine wz_aload_n (p9 := 18) rfl rfl rfl ?_
        refine wz_aload_n (p9 := 19) rfl rfl rfl ?_
        refine wz_get (v := .ref 43) (p9 := 22) rfl rfl rfl rfl rfl ?_
        refine wz_iload (p9 := 24) rfl rfl rfl ?_
        refine wl_Rqu (f := R.qu) (p9 := 25) rfl rfl rfl (by omega) ?_
        rw [show nI (R.qu i) = nI ((rk R.P ((bf0 A.P A.Mv A.t).2.1 i) R.P).1) by rw [hQ i (by omega), H.p]]
        refine wz_c0 (p9 := 28) (w1 := WW A (RA.s_di (RA.s_dd (RA.s_ot (RA.s_s R (cz (dg ((bf0 A.P A.Mv A.t).2.1 i)) s2 R.P)) (ud (fun q => sm (lw (dg ((bf0 A.P A.Mv A.t).2.1 i)) q) R.P) ot2 R.P 0)) dd2) di2) o) (wa_v (N := 140) (i := 26) (As := [.int (nI ((rk R.P ((bf0 A.P A.Mv A.t).2.1 i) R.P).1))]) (rest := []) rfl rfl rfl rfl rfl rfl rfl) rfl ((g_unrank (d := 0) (A := A) (R := (RA.s_di (RA.s_dd (RA.s_ot (RA.s_s R s2) ot2) dd2) di2)) (o := o) hP7 hP2 (x := ((bf0 A.P A.Mv A.t).2.1 i)) hxR).up (by omega)) ?_
        refine wz_aload_n (p9 := 29) rfl rfl rfl ?_
        refine wz_iload_n (p9 := 30) rfl rfl rfl ?_
        refine wz_c1 (p9 := 33) (w1 := WW A (RA.s_di (RA.s_dd (RA.s_ot (RA.s_s R (cz (dg ((bf0 A.P A.Mv A.t).2.1 i)) s2 R.P)) (ud (fun q => sm (lw (dg ((bf0 A.P A.Mv A.t).2.1 i)) q) R.P) ot2 R.P 0)) dd2) di2) o) (u := .int (nI 1)) (wa_v (N := 142) (i := 26) (As := [.int (nI s)]) (rest := []) rfl rfl rfl rfl rfl rfl rfl) rfl ((g_mMet1 (d := 0) (A := A) (R := (RA.s_di (RA.s_dd (RA.s_ot (RA.s_s R (cz (dg ((bf0 A.P A.Mv A.t).2.1 i)) s2 R.P)) (ud (fun q => sm (lw (dg ((bf0 A.P A.Mv A.t).2.1 i)) q) R.P) ot2 R.P 0)) dd2) di2)) (o := o) H (by omega) hS5 hm).up (by omega)) ?_
        refine wn_ifne (t9 := 39) (p9 := 36) rfl rfl rfl (by omega) (fun _ => ?_) (fun h9 => by omega)
        refine wz_iload (p9 := 41) rfl rfl rfl ?_
        refine wz_iload_n (p9 := 42) rfl rfl rfl ?_
        refine wn_ifeq (t9 := 61) (p9 := 45) rfl rfl rfl (by omega) (fun h9 => by omega) (fun _ => ?_)
        refine wz_aload_n (p9 := 46) rfl rfl rfl ?_
        refine wz_iload_n (p9 := 47) rfl rfl rfl ?_
        refine wz_c1 (p9 := 50) (w1 := WW A (RA.s_di (RA.s_dd (RA.s_ot (RA.s_s R s1) ot1) ((gs A.P A.wg A.us (A.sg s) (A.su s) s 7 ((bf0 A.P A.Mv A.t).2.1 i)).2.2.length)) di1) o) (u := .int (nI 0)) (wa_v (N := 133) (i := 26) (As := [.int (nI s)]) (rest := [.int (nI (sm (fun q => c1 (gs A.P A.wg A.us (A.sg s) (A.su s) s 7) (gb A.sg s) ((bf0 A.P A.Mv A.t).2.1 q)) i))]) rfl rfl rfl rfl rfl rfl rfl) rfl (by have h9 := hgo.up (show 0 + 4 ≤ d + 4 by omega); rw [hok] at h9; exact h9) ?_
        refine wn_ifeq (t9 := 61) (p9 := 53) rfl rfl rfl (by omega) (fun _ => ?_) (fun h9 => by omega)
        refine wz_iconst (x := nI 1) (p9 := 62) rfl rfl (by decide) ?_
        refine wz_goto (p9 := 66) rfl rfl ?_
        refine wn_add (p9 := 67) rfl rfl ?_
        refine wz_istore (l9 := [.ref 26, .int (nI s), .int (nI 1), .int (nI ((bf0 A.P A.Mv A.t).1)), .int (nI ((sm (fun q => c1 (gs A.P A.wg A.us (A.sg s) (A.su s) s 7) (gb A.sg s) ((bf0 A.P A.Mv A.t).2.1 q)) i) + 1)), .int (nI i)]) (p9 := 69) rfl rfl rfl rfl ?_
        refine wn_inc (b := 1) (l9 := [.ref 26, .int (nI s), .int (nI 1), .int (nI ((bf0 A.P A.Mv A.t).1)), .int (nI ((sm (fun q => c1 (gs A.P A.wg A.us (A.sg s) (A.su s) s 7) (gb A.sg s) ((bf0 A.P A.Mv A.t).2.1 q)) i) + 1)), .int (nI (i + 1))]) (p9 := 72) rfl rfl rfl (by decide) rfl ?_
        refine wz_goto (p9 := 11) rfl rfl ?_
        rw [show sm (fun q => c1 (gs A.P A.wg A.us (A.sg s) (A.su s) s 7) (gb A.sg s) ((bf0 A.P A.Mv A.t).2.1 q)) i + 1 = sm (fun q => c1 (gs A.P A.wg A.us (A.sg s) (A.su s) s 7) (gb A.sg s) ((bf0 A.P A.Mv A.t).2.1 q)) (i + 1) by show _ = sm _ i + c1 _ _ _; rw [c1_f hm hok]]
        exact l_mF H hs hQ kk j (i + 1) _ _ _ _ (by omega)
      | true =>
        by_cases hm2 : mt (gs A.P A.wg A.us (A.sg s) (A.su s) s 7 ((bf0 A.P A.Mv A.t).2.1 i)).2.1 (gb A.sg s)
        · skip
          refine wz_iload (p9 := 13) rfl rfl rfl ?_
          refine wz_iload_n (p9 := 14) rfl rfl rfl ?_
          refine wn_icge (t9 := 75) (p9 := 17) rfl rfl rfl (by omega) (by omega) (fun h9 => by omega) (fun _ => ?_)
          refine wz_aload_n (p9 := 18) rfl rfl rfl ?_
          refine wz_aload_n (p9 := 19) rfl rfl rfl ?_
          refine wz_get (v := .ref 43) (p9 := 22) rfl rfl rfl rfl rfl ?_
          refine wz_iload (p9 := 24) rfl rfl rfl ?_
          refine wl_Rqu (f := R.qu) (p9 := 25) rfl rfl rfl (by omega) ?_
          rw [show nI (R.qu i) = nI ((rk R.P ((bf0 A.P A.Mv A.t).2.1 i) R.P).1) by rw [hQ i (by omega), H.p]]
          refine wz_c0 (p9 := 28) (w1 := WW A (RA.s_di (RA.s_dd (RA.s_ot (RA.s_s R (cz (dg ((bf0 A.P A.Mv A.t).2.1 i)) s2 R.P)) (ud (fun q => sm (lw (dg ((bf0 A.P A.Mv A.t).2.1 i)) q) R.P) ot2 R.P 0)) dd2) di2) o) (wa_v (N := 140) (i := 26) (As := [.int (nI ((rk R.P ((bf0 A.P A.Mv A.t).2.1 i) R.P).1))]) (rest := []) rfl rfl rfl rfl rfl rfl rfl) rfl ((g_unrank (d := 0) (A := A) (R := (RA.s_di (RA.s_dd (RA.s_ot (RA.s_s R s2) ot2) dd2) di2)) (o := o) hP7 hP2 (x := ((bf0 A.P A.Mv A.t).2.1 i)) hxR).up (by omega)) ?_
          refine wz_aload_n (p9 := 29) rfl rfl rfl ?_
          refine wz_iload_n (p9 := 30) rfl rfl rfl ?_
          refine wz_c1 (p9 := 33) (w1 := WW A (RA.s_di (RA.s_dd (RA.s_ot (RA.s_s R (cz (dg ((bf0 A.P A.Mv A.t).2.1 i)) s2 R.P)) (ud (fun q => sm (lw (dg ((bf0 A.P A.Mv A.t).2.1 i)) q) R.P) ot2 R.P 0)) dd2) di2) o) (u := .int (nI 1)) (wa_v (N := 142) (i := 26) (As := [.int (nI s)]) (rest := []) rfl rfl rfl rfl rfl rfl rfl) rfl ((g_mMet1 (d := 0) (A := A) (R := (RA.s_di (RA.s_dd (RA.s_ot (RA.s_s R (cz (dg ((bf0 A.P A.Mv A.t).2.1 i)) s2 R.P)) (ud (fun q => sm (lw (dg ((bf0 A.P A.Mv A.t).2.1 i)) q) R.P) ot2 R.P 0)) dd2) di2)) (o := o) H (by omega) hS5 hm).up (by omega)) ?_
          refine wn_ifne (t9 := 39) (p9 := 36) rfl rfl rfl (by omega) (fun _ => ?_) (fun h9 => by omega)
          refine wz_iload (p9 := 41) rfl rfl rfl ?_
          refine wz_iload_n (p9 := 42) rfl rfl rfl ?_
          refine wn_ifeq (t9 := 61) (p9 := 45) rfl rfl rfl (by omega) (fun h9 => by omega) (fun _ => ?_)
          refine wz_aload_n (p9 := 46) rfl rfl rfl ?_
          refine wz_iload_n (p9 := 47) rfl rfl rfl ?_
          refine wz_c1 (p9 := 50) (w1 := WW A (RA.s_di (RA.s_dd (RA.s_ot (RA.s_s R s1) ot1) ((gs A.P A.wg A.us (A.sg s) (A.su s) s 7 ((bf0 A.P A.Mv A.t).2.1 i)).2.2.length)) di1) o) (u := .int (nI 1)) (wa_v (N := 133) (i := 26) (As := [.int (nI s)]) (rest := [.int (nI (sm (fun q => c1 (gs A.P A.wg A.us (A.sg s) (A.su s) s 7) (gb A.sg s) ((bf0 A.P A.Mv A.t).2.1 q)) i))]) rfl rfl rfl rfl rfl rfl rfl) rfl (by have h9 := hgo.up (show 0 + 4 ≤ d + 4 by omega); rw [hok] at h9; exact h9) ?_
          refine wn_ifeq (t9 := 61) (p9 := 53) rfl rfl rfl (by omega) (fun h9 => by omega) (fun _ => ?_)
          refine wz_aload_n (p9 := 54) rfl rfl rfl ?_
          refine wz_iload_n (p9 := 55) rfl rfl rfl ?_
          refine wz_c1 (p9 := 58) (w1 := WW A (RA.s_di (RA.s_dd (RA.s_ot (RA.s_s R s1) ot1) ((gs A.P A.wg A.us (A.sg s) (A.su s) s 7 ((bf0 A.P A.Mv A.t).2.1 i)).2.2.length)) di1) o) (u := .int (nI 1)) (wa_v (N := 142) (i := 26) (As := [.int (nI s)]) (rest := [.int (nI (sm (fun q => c1 (gs A.P A.wg A.us (A.sg s) (A.su s) s 7) (gb A.sg s) ((bf0 A.P A.Mv A.t).2.1 q)) i))]) rfl rfl rfl rfl rfl rfl rfl) rfl ((g_mMet1 (d := 0) (A := A) (R := (RA.s_di (RA.s_dd (RA.s_ot (RA.s_s R s1) ot1) ((gs A.P A.wg A.us (A.sg s) (A.su s) s 7 ((bf0 A.P A.Mv A.t).2.1 i)).2.2.length)) di1)) (o := o) H (by omega) hS9 hm2).up (by omega)) ?_
          refine wn_ifne (t9 := 65) (p9 := 61) rfl rfl rfl (by omega) (fun _ => ?_) (fun h9 => by omega)
          refine wz_iconst (x := nI 0) (p9 := 66) rfl rfl (by decide) ?_
          refine wn_add (p9 := 67) rfl rfl ?_
          refine wz_istore (l9 := [.ref 26, .int (nI s), .int (nI 1), .int (nI ((bf0 A.P A.Mv A.t).1)), .int (nI ((sm (fun q => c1 (gs A.P A.wg A.us (A.sg s) (A.su s) s 7) (gb A.sg s) ((bf0 A.P A.Mv A.t).2.1 q)) i) + 0)), .int (nI i)]) (p9 := 69) rfl rfl rfl rfl ?_
          refine wn_inc (b := 1) (l9 := [.ref 26, .int (nI s), .int (nI 1), .int (nI ((bf0 A.P A.Mv A.t).1)), .int (nI ((sm (fun q => c1 (gs A.P A.wg A.us (A.sg s) (A.su s) s 7) (gb A.sg s) ((bf0 A.P A.Mv A.t).2.1 q)) i) + 0)), .int (nI (i + 1))]) (p9 := 72) rfl rfl rfl (by decide) rfl ?_
          refine wz_goto (p9 := 11) rfl rfl ?_
          rw [show sm (fun q => c1 (gs A.P A.wg A.us (A.sg s) (A.su s) s 7) (gb A.sg s) ((bf0 A.P A.Mv A.t).2.1 q)) i + 0 = sm (fun q => c1 (gs A.P A.wg A.us (A.sg s) (A.su s) s 7) (gb A.sg s) ((bf0 A.P A.Mv A.t).2.1 q)) (i + 1) by show _ = sm _ i + c1 _ _ _; rw [c1_k hm hok hm2]]
          exact l_mF H hs hQ kk j (i + 1) _ _ _ _ (by omega)
        · skip
          refine wz_iload (p9 := 13) rfl rfl rfl ?_
          refine wz_iload_n (p9 := 14) rfl rfl rfl ?_
          refine wn_icge (t9 := 75) (p9 := 17) rfl rfl rfl (by omega) (by omega) (fun h9 => by omega) (fun _ => ?_)
          refine wz_aload_n (p9 := 18) rfl rfl rfl ?_
          refine wz_aload_n (p9 := 19) rfl rfl rfl ?_
          refine wz_get (v := .ref 43) (p9 := 22) rfl rfl rfl rfl rfl ?_
          refine wz_iload (p9 := 24) rfl rfl rfl ?_
          refine wl_Rqu (f := R.qu) (p9 := 25) rfl rfl rfl (by omega) ?_
          rw [show nI (R.qu i) = nI ((rk R.P ((bf0 A.P A.Mv A.t).2.1 i) R.P).1) by rw [hQ i (by omega), H.p]]
          refine wz_c0 (p9 := 28) (w1 := WW A (RA.s_di (RA.s_dd (RA.s_ot (RA.s_s R (cz (dg ((bf0 A.P A.Mv A.t).2.1 i)) s2 R.P)) (ud (fun q => sm (lw (dg ((bf0 A.P A.Mv A.t).2.1 i)) q) R.P) ot2 R.P 0)) dd2) di2) o) (wa_v (N := 140) (i := 26) (As := [.int (nI ((rk R.P ((bf0 A.P A.Mv A.t).2.1 i) R.P).1))]) (rest := []) rfl rfl rfl rfl rfl rfl rfl) rfl ((g_unrank (d := 0) (A := A) (R := (RA.s_di (RA.s_dd (RA.s_ot (RA.s_s R s2) ot2) dd2) di2)) (o := o) hP7 hP2 (x := ((bf0 A.P A.Mv A.t).2.1 i)) hxR).up (by omega)) ?_
          refine wz_aload_n (p9 := 29) rfl rfl rfl ?_
          refine wz_iload_n (p9 := 30) rfl rfl rfl ?_
          refine wz_c1 (p9 := 33) (w1 := WW A (RA.s_di (RA.s_dd (RA.s_ot (RA.s_s R (cz (dg ((bf0 A.P A.Mv A.t).2.1 i)) s2 R.P)) (ud (fun q => sm (lw (dg ((bf0 A.P A.Mv A.t).2.1 i)) q) R.P) ot2 R.P 0)) dd2) di2) o) (u := .int (nI 1)) (wa_v (N := 142) (i := 26) (As := [.int (nI s)]) (rest := []) rfl rfl rfl rfl rfl rfl rfl) rfl ((g_mMet1 (d := 0) (A := A) (R := (RA.s_di (RA.s_dd (RA.s_ot (RA.s_s R (cz (dg ((bf0 A.P A.Mv A.t).2.1 i)) s2 R.P)) (ud (fun q => sm (lw (dg ((bf0 A.P A.Mv A.t).2.1 i)) q) R.P) ot2 R.P 0)) dd2) di2)) (o := o) H (by omega) hS5 hm).up (by omega)) ?_
          refine wn_ifne (t9 := 39) (p9 := 36) rfl rfl rfl (by omega) (fun _ => ?_) (fun h9 => by omega)
          refine wz_iload (p9 := 41) rfl rfl rfl ?_
          refine wz_iload_n (p9 := 42) rfl rfl rfl ?_
          refine wn_ifeq (t9 := 61) (p9 := 45) rfl rfl rfl (by omega) (fun h9 => by omega) (fun _ => ?_)
          refine wz_aload_n (p9 := 46) rfl rfl rfl ?_
          refine wz_iload_n (p9 := 47) rfl rfl rfl ?_
          refine wz_c1 (p9 := 50) (w1 := WW A (RA.s_di (RA.s_dd (RA.s_ot (RA.s_s R s1) ot1) ((gs A.P A.wg A.us (A.sg s) (A.su s) s 7 ((bf0 A.P A.Mv A.t).2.1 i)).2.2.length)) di1) o) (u := .int (nI 1)) (wa_v (N := 133) (i := 26) (As := [.int (nI s)]) (rest := [.int (nI (sm (fun q => c1 (gs A.P A.wg A.us (A.sg s) (A.su s) s 7) (gb A.sg s) ((bf0 A.P A.Mv A.t).2.1 q)) i))]) rfl rfl rfl rfl rfl rfl rfl) rfl (by have h9 := hgo.up (show 0 + 4 ≤ d + 4 by omega); rw [hok] at h9; exact h9) ?_
          refine wn_ifeq (t9 := 61) (p9 := 53) rfl rfl rfl (by omega) (fun h9 => by omega) (fun _ => ?_)
          refine wz_aload_n (p9 := 54) rfl rfl rfl ?_
          refine wz_iload_n (p9 := 55) rfl rfl rfl ?_
          refine wz_c1 (p9 := 58) (w1 := WW A (RA.s_di (RA.s_dd (RA.s_ot (RA.s_s R s1) ot1) ((gs A.P A.wg A.us (A.sg s) (A.su s) s 7 ((bf0 A.P A.Mv A.t).2.1 i)).2.2.length)) di1) o) (u := .int (nI 0)) (wa_v (N := 142) (i := 26) (As := [.int (nI s)]) (rest := [.int (nI (sm (fun q => c1 (gs A.P A.wg A.us (A.sg s) (A.su s) s 7) (gb A.sg s) ((bf0 A.P A.Mv A.t).2.1 q)) i))]) rfl rfl rfl rfl rfl rfl rfl) rfl ((g_mMet0 (d := 0) (A := A) (R := (RA.s_di (RA.s_dd (RA.s_ot (RA.s_s R s1) ot1) ((gs A.P A.wg A.us (A.sg s) (A.su s) s 7 ((bf0 A.P A.Mv A.t).2.1 i)).2.2.length)) di1)) (o := o) H (by omega) hS9 hm2).up (by omega)) ?_
          refine wn_ifne (t9 := 65) (p9 := 61) rfl rfl rfl (by omega) (fun h9 => by omega) (fun _ => ?_)
          refine wz_iconst (x := nI 1) (p9 := 62) rfl rfl (by decide) ?_
          refine wz_goto (p9 := 66) rfl rfl ?_
          refine wn_add (p9 := 67) rfl rfl ?_
          refine wz_istore (l9 := [.ref 26, .int (nI s), .int (nI 1), .int (nI ((bf0 A.P A.Mv A.t).1)), .int (nI ((sm (fun q => c1 (gs A.P A.wg A.us (A.sg s) (A.su s) s 7) (gb A.sg s) ((bf0 A.P A.Mv A.t).2.1 q)) i) + 1)), .int (nI i)]) (p9 := 69) rfl rfl rfl rfl ?_
          refine wn_inc (b := 1) (l9 := [.ref 26, .int (nI s), .int (nI 1), .int (nI ((bf0 A.P A.Mv A.t).1)), .int (nI ((sm (fun q => c1 (gs A.P A.wg A.us (A.sg s) (A.su s) s 7) (gb A.sg s) ((bf0 A.P A.Mv A.t).2.1 q)) i) + 1)), .int (nI (i + 1))]) (p9 := 72) rfl rfl rfl (by decide) rfl ?_
          refine wz_goto (p9 := 11) rfl rfl ?_
          rw [show sm (fun q => c1 (gs A.P A.wg A.us (A.sg s) (A.su s) s 7) (gb A.sg s) ((bf0 A.P A.Mv A.t).2.1 q)) i + 1 = sm (fun q => c1 (gs A.P A.wg A.us (A.sg s) (A.su s) s 7) (gb A.sg s) ((bf0 A.P A.Mv A.t).2.1 q)) (i + 1) by show _ = sm _ i + c1 _ _ _; rw [c1_n hm hm2]]
          exact l_mF H hs hQ kk j (i + 1) _ _ _ _ (by omega)
    · skip
      refine wz_iload (p9 := 13) rfl rfl rfl ?_
      refine wz_iload_n (p9 := 14) rfl rfl rfl ?_
      refine wn_icge (t9 := 75) (p9 := 17) rfl rfl rfl (by omega) (by omega) (fun h9 => by omega) (fun _ => ?_)
      refine wz_aload_n (p9 := 18) rfl rfl rfl ?_
      refine wz_aload_n (p9 := 19) rfl rfl rfl ?_
      refine wz_get (v := .ref 43) (p9 := 22) rfl rfl rfl rfl rfl ?_
      refine wz_iload (p9 := 24) rfl rfl rfl ?_
      refine wl_Rqu (f := R.qu) (p9 := 25) rfl rfl rfl (by omega) ?_
      rw [show nI (R.qu i) = nI ((rk R.P ((bf0 A.P A.Mv A.t).2.1 i) R.P).1) by rw [hQ i (by omega), H.p]]
      refine wz_c0 (p9 := 28) (w1 := WW A (RA.s_di (RA.s_dd (RA.s_ot (RA.s_s R (cz (dg ((bf0 A.P A.Mv A.t).2.1 i)) s2 R.P)) (ud (fun q => sm (lw (dg ((bf0 A.P A.Mv A.t).2.1 i)) q) R.P) ot2 R.P 0)) dd2) di2) o) (wa_v (N := 140) (i := 26) (As := [.int (nI ((rk R.P ((bf0 A.P A.Mv A.t).2.1 i) R.P).1))]) (rest := []) rfl rfl rfl rfl rfl rfl rfl) rfl ((g_unrank (d := 0) (A := A) (R := (RA.s_di (RA.s_dd (RA.s_ot (RA.s_s R s2) ot2) dd2) di2)) (o := o) hP7 hP2 (x := ((bf0 A.P A.Mv A.t).2.1 i)) hxR).up (by omega)) ?_
      refine wz_aload_n (p9 := 29) rfl rfl rfl ?_
      refine wz_iload_n (p9 := 30) rfl rfl rfl ?_
      refine wz_c1 (p9 := 33) (w1 := WW A (RA.s_di (RA.s_dd (RA.s_ot (RA.s_s R (cz (dg ((bf0 A.P A.Mv A.t).2.1 i)) s2 R.P)) (ud (fun q => sm (lw (dg ((bf0 A.P A.Mv A.t).2.1 i)) q) R.P) ot2 R.P 0)) dd2) di2) o) (u := .int (nI 0)) (wa_v (N := 142) (i := 26) (As := [.int (nI s)]) (rest := []) rfl rfl rfl rfl rfl rfl rfl) rfl ((g_mMet0 (d := 0) (A := A) (R := (RA.s_di (RA.s_dd (RA.s_ot (RA.s_s R (cz (dg ((bf0 A.P A.Mv A.t).2.1 i)) s2 R.P)) (ud (fun q => sm (lw (dg ((bf0 A.P A.Mv A.t).2.1 i)) q) R.P) ot2 R.P 0)) dd2) di2)) (o := o) H (by omega) hS5 hm).up (by omega)) ?_
      refine wn_ifne (t9 := 39) (p9 := 36) rfl rfl rfl (by omega) (fun h9 => by omega) (fun _ => ?_)
      refine wz_goto (p9 := 69) rfl rfl ?_
      refine wn_inc (b := 1) (l9 := [.ref 26, .int (nI s), .int (nI 1), .int (nI ((bf0 A.P A.Mv A.t).1)), .int (nI (sm (fun q => c1 (gs A.P A.wg A.us (A.sg s) (A.su s) s 7) (gb A.sg s) ((bf0 A.P A.Mv A.t).2.1 q)) i)), .int (nI (i + 1))]) (p9 := 72) rfl rfl rfl (by decide) rfl ?_
      refine wz_goto (p9 := 11) rfl rfl ?_
      rw [show sm (fun q => c1 (gs A.P A.wg A.us (A.sg s) (A.su s) s 7) (gb A.sg s) ((bf0 A.P A.Mv A.t).2.1 q)) i = sm (fun q => c1 (gs A.P A.wg A.us (A.sg s) (A.su s) s 7) (gb A.sg s) ((bf0 A.P A.Mv A.t).2.1 q)) (i + 1) by show _ = sm _ i + c1 _ _ _; rw [c1_0 hm]; rfl]
      exact l_mF H hs hQ kk j (i + 1) _ _ _ _ (by omega)
theorem g_mCntS {X : Nat × (Nat → Int32)} {d : Nat} {A : CA} {R : RA} {o : Nat → Int64} (H : RG A R) {s : Nat} (hs : s < A.sc) : ∃ s1 ot1 is1 qu1, px_ev X (d + 5) 138 [.ref 26, .int (nI s), .int (nI 0)] (WW A R o) (some (some (.int (nI (sm (fun q => c0 (gb A.sg s) ((bf0 A.P A.Mv A.t).2.1 q)) (bf0 A.P A.Mv A.t).1)))), WW A (RA.s_qu (RA.s_is (RA.s_ot (RA.s_s R s1) ot1) is1) qu1) o, 0, 0) := by
  obtain ⟨t1, p1, i1, q1, hq1, hsp⟩ := g_spread (X := X) (d := 0) (A := A) (R := R) (o := o) H
  have h0 : wp X (d + 4) 138 (0, [.ref 26, .int (nI s), .int (nI 0), .retAddr 0, .retAddr 0, .retAddr 0], [], WW A R o, 0, 0) (fun q => ∃ s1 ot1 is1 qu1, q = (some (some (.int (nI (sm (fun q => c0 (gb A.sg s) ((bf0 A.P A.Mv A.t).2.1 q)) (bf0 A.P A.Mv A.t).1)))), WW A (RA.s_qu (RA.s_is (RA.s_ot (RA.s_s R s1) ot1) is1) qu1) o, 0, 0)) := by
    refine wz_aload_n (p9 := 1) rfl rfl rfl ?_
    refine wz_c1 (p9 := 4) (w1 := WW A (RA.s_qu (RA.s_is (RA.s_ot (RA.s_s R t1) p1) i1) q1) o) (u := .int (nI ((bf0 A.P A.Mv A.t).1))) (wa_v (N := 139) (i := 26) (As := []) (rest := []) rfl rfl rfl rfl rfl rfl rfl) rfl (hsp.up (by omega)) ?_
    refine wz_istore_n (l9 := [.ref 26, .int (nI s), .int (nI 0), .int (nI ((bf0 A.P A.Mv A.t).1)), .retAddr 0, .retAddr 0]) (p9 := 5) rfl rfl rfl rfl ?_
    refine wz_iconst (x := nI 0) (p9 := 6) rfl rfl (by decide) ?_
    refine wz_istore (l9 := [.ref 26, .int (nI s), .int (nI 0), .int (nI ((bf0 A.P A.Mv A.t).1)), .int (nI 0), .retAddr 0]) (p9 := 8) rfl rfl rfl rfl ?_
    refine wz_iconst (x := nI 0) (p9 := 9) rfl rfl (by decide) ?_
    refine wz_istore (l9 := [.ref 26, .int (nI s), .int (nI 0), .int (nI ((bf0 A.P A.Mv A.t).1)), .int (nI 0), .int (nI 0)]) (p9 := 11) rfl rfl rfl rfl ?_
    exact l_mS (R := (RA.s_qu (RA.s_is (RA.s_ot (RA.s_s R t1) p1) i1) q1)) H hs hq1.1 (fun s1 ot1 => by exact ⟨s1, ot1, i1, q1, rfl⟩) (bf0 A.P A.Mv A.t).1 0 t1 p1 (by omega)
  obtain ⟨r9, hr, s1, ot1, is1, qu1, rfl⟩ := h0
  exact ⟨s1, ot1, is1, qu1, wp_ev (d := d + 4) (by decide) rfl rfl (fun h => by cases h) ⟨_, hr, rfl⟩⟩
theorem g_mS1 {X : Nat × (Nat → Int32)} {d : Nat} {A : CA} {R : RA} {o : Nat → Int64} (H : RG A R) {s : Nat} (hs : s < A.sc) : ∃ s1 ot1 is1 qu1, px_ev X (d + 6) 137 [.ref 26, .int (nI s)] (WW A R o) (some (some (.int (nI (sm (fun q => c0 (gb A.sg s) ((bf0 A.P A.Mv A.t).2.1 q)) (bf0 A.P A.Mv A.t).1)))), WW A (RA.s_th (RA.s_qu (RA.s_is (RA.s_ot (RA.s_s R s1) ot1) is1) qu1) 0) o, 0, 0) := by
  have hsc := H.S.sc
  have hRs : s < R.sc := by rw [H.sc]; exact hs
  have hRc : R.sc ≤ 8 := by rw [H.sc]; exact hsc
  obtain ⟨s1, ot1, is1, qu1, hcn⟩ := g_mCntS (X := X) (d := 0) (A := A) (R := RA.s_th R 0) (o := o) (s := s) H hs
  refine ⟨s1, ot1, is1, qu1, ?_⟩
  refine wp_ev (d := d + 5) (by decide) rfl rfl (fun h => by cases h) ?_
  show wp X (d + 5) 137 (0, [.ref 26, .int (nI s)], [], WW A R o, 0, 0) _
  refine wz_aload_n (p9 := 1) rfl rfl rfl ?_
  refine wz_aload_n (p9 := 2) rfl rfl rfl ?_
  refine wz_iload_n (p9 := 3) rfl rfl rfl ?_
  refine wz_c1 (p9 := 6) (w1 := WW A R o) (u := .int (nI 1)) (wa_v (N := 130) (i := 26) (As := [.int (nI s)]) (rest := [.ref 26]) rfl rfl rfl rfl rfl rfl rfl) rfl ((g_mStage1 (d := 0) (by omega) (by omega)).up (Nat.le_trans (m := 5) (by decide) (Nat.le_add_left 5 d))) ?_
  refine wn_ifne (t9 := 13) (p9 := 9) rfl rfl rfl (by omega) (fun _ => ?_) (fun h9 => by omega)
  refine wz_iconst (x := nI 0) (p9 := 14) rfl rfl (by decide) ?_
  refine wz_c1 (p9 := 17) (w1 := WW A (RA.s_th R 0) o) (u := .int (nI 0)) (wa_v (N := 101) (i := 26) (As := [.int (nI 0)]) (rest := []) rfl rfl rfl rfl rfl rfl rfl) rfl ((g_throws0 (d := 0) ).up (Nat.le_trans (m := 5) (by decide) (Nat.le_add_left 5 d))) ?_
  refine wn_ifeq (t9 := 24) (p9 := 20) rfl rfl rfl (by omega) (fun _ => ?_) (fun h9 => by omega)
  refine wz_aload_n (p9 := 25) rfl rfl rfl ?_
  refine wz_iload_n (p9 := 26) rfl rfl rfl ?_
  refine wz_iconst (x := nI 0) (p9 := 27) rfl rfl (by decide) ?_
  refine wz_c1 (p9 := 30) (w1 := WW A (RA.s_th (RA.s_qu (RA.s_is (RA.s_ot (RA.s_s R s1) ot1) is1) qu1) 0) o) (u := .int (nI (sm (fun q => c0 (gb A.sg s) ((bf0 A.P A.Mv A.t).2.1 q)) (bf0 A.P A.Mv A.t).1))) (wa_v (N := 138) (i := 26) (As := [.int (nI s), .int (nI 0)]) (rest := []) rfl rfl rfl rfl rfl rfl rfl) rfl (hcn.up (by omega)) ?_
  exact wz_reti rfl rfl rfl
theorem g_mSX {X : Nat × (Nat → Int32)} {d : Nat} {A : CA} {R : RA} {o : Nat → Int64} {w : Int32} (h : inb w R.sc = 0) : px_ev X (d + 2) 137 [.ref 26, .int w] (WW A R o) (some (some (.int (nI 0))), WW A (RA.s_th R 1) o, 0, 0) := by
  refine wp_ev (d := d + 1) (by decide) rfl rfl (fun h => by cases h) ?_
  show wp X (d + 1) 137 (0, [.ref 26, .int w], [], WW A R o, 0, 0) _
  refine wz_aload_n (p9 := 1) rfl rfl rfl ?_
  refine wz_aload_n (p9 := 2) rfl rfl rfl ?_
  refine wz_iload_n (p9 := 3) rfl rfl rfl ?_
  refine wz_c1 (p9 := 6) (w1 := WW A R o) (u := .int (nI (inb w R.sc))) (wa_v (N := 130) (i := 26) (As := [.int w]) (rest := [.ref 26]) rfl rfl rfl rfl rfl rfl rfl) rfl ((g_mStageR (d := 0) ).up (Nat.le_trans (m := 1) (by decide) (Nat.le_add_left 1 d))) ?_
  refine wn_ifne (t9 := 13) (p9 := 9) rfl rfl rfl (by omega) (fun h9 => absurd h h9) (fun _ => ?_)
  refine wz_iconst (x := nI 1) (p9 := 10) rfl rfl (by decide) ?_
  refine wz_goto (p9 := 14) rfl rfl ?_
  refine wz_c1 (p9 := 17) (w1 := WW A (RA.s_th R 1) o) (u := .int (nI 1)) (wa_v (N := 101) (i := 26) (As := [.int (nI 1)]) (rest := []) rfl rfl rfl rfl rfl rfl rfl) rfl ((g_throws1 (d := 0) ).up (Nat.le_trans (m := 1) (by decide) (Nat.le_add_left 1 d))) ?_
  refine wn_ifeq (t9 := 24) (p9 := 20) rfl rfl rfl (by omega) (fun h9 => by omega) (fun _ => ?_)
  refine wz_iconst (x := nI 0) (p9 := 21) rfl rfl (by decide) ?_
  refine wz_goto (p9 := 30) rfl rfl ?_
  exact wz_reti rfl rfl rfl
theorem g_mCntF {X : Nat × (Nat → Int32)} {d : Nat} {A : CA} {R : RA} {o : Nat → Int64} (H : RG A R) {s : Nat} (hs : s < A.sc) : ∃ s1 ot1 is1 qu1 dd1 di1, px_ev X (d + 5) 138 [.ref 26, .int (nI s), .int (nI 1)] (WW A R o) (some (some (.int (nI (sm (fun q => c1 (gs A.P A.wg A.us (A.sg s) (A.su s) s 7) (gb A.sg s) ((bf0 A.P A.Mv A.t).2.1 q)) (bf0 A.P A.Mv A.t).1)))), WW A (RA.s_qu (RA.s_is (RA.s_di (RA.s_dd (RA.s_ot (RA.s_s R s1) ot1) dd1) di1) is1) qu1) o, 0, 0) := by
  obtain ⟨t1, p1, i1, q1, hq1, hsp⟩ := g_spread (X := X) (d := 0) (A := A) (R := R) (o := o) H
  have h0 : wp X (d + 4) 138 (0, [.ref 26, .int (nI s), .int (nI 1), .retAddr 0, .retAddr 0, .retAddr 0], [], WW A R o, 0, 0) (fun q => ∃ s1 ot1 is1 qu1 dd1 di1, q = (some (some (.int (nI (sm (fun q => c1 (gs A.P A.wg A.us (A.sg s) (A.su s) s 7) (gb A.sg s) ((bf0 A.P A.Mv A.t).2.1 q)) (bf0 A.P A.Mv A.t).1)))), WW A (RA.s_qu (RA.s_is (RA.s_di (RA.s_dd (RA.s_ot (RA.s_s R s1) ot1) dd1) di1) is1) qu1) o, 0, 0)) := by
    refine wz_aload_n (p9 := 1) rfl rfl rfl ?_
    refine wz_c1 (p9 := 4) (w1 := WW A (RA.s_qu (RA.s_is (RA.s_ot (RA.s_s R t1) p1) i1) q1) o) (u := .int (nI ((bf0 A.P A.Mv A.t).1))) (wa_v (N := 139) (i := 26) (As := []) (rest := []) rfl rfl rfl rfl rfl rfl rfl) rfl (hsp.up (by omega)) ?_
    refine wz_istore_n (l9 := [.ref 26, .int (nI s), .int (nI 1), .int (nI ((bf0 A.P A.Mv A.t).1)), .retAddr 0, .retAddr 0]) (p9 := 5) rfl rfl rfl rfl ?_
    refine wz_iconst (x := nI 0) (p9 := 6) rfl rfl (by decide) ?_
    refine wz_istore (l9 := [.ref 26, .int (nI s), .int (nI 1), .int (nI ((bf0 A.P A.Mv A.t).1)), .int (nI 0), .retAddr 0]) (p9 := 8) rfl rfl rfl rfl ?_
    refine wz_iconst (x := nI 0) (p9 := 9) rfl rfl (by decide) ?_
    refine wz_istore (l9 := [.ref 26, .int (nI s), .int (nI 1), .int (nI ((bf0 A.P A.Mv A.t).1)), .int (nI 0), .int (nI 0)]) (p9 := 11) rfl rfl rfl rfl ?_
    exact l_mF (R := (RA.s_qu (RA.s_is (RA.s_ot (RA.s_s R t1) p1) i1) q1)) H hs hq1.1 (fun s1 ot1 dd1 di1 => by exact ⟨s1, ot1, i1, q1, dd1, di1, rfl⟩) (bf0 A.P A.Mv A.t).1 0 t1 p1 R.dd R.di (by omega)
  obtain ⟨r9, hr, s1, ot1, is1, qu1, dd1, di1, rfl⟩ := h0
  exact ⟨s1, ot1, is1, qu1, dd1, di1, wp_ev (d := d + 4) (by decide) rfl rfl (fun h => by cases h) ⟨_, hr, rfl⟩⟩
theorem g_mF1 {X : Nat × (Nat → Int32)} {d : Nat} {A : CA} {R : RA} {o : Nat → Int64} (H : RG A R) {s : Nat} (hs : s < A.sc) : ∃ s1 ot1 is1 qu1 dd1 di1, px_ev X (d + 6) 143 [.ref 26, .int (nI s)] (WW A R o) (some (some (.int (nI (sm (fun q => c1 (gs A.P A.wg A.us (A.sg s) (A.su s) s 7) (gb A.sg s) ((bf0 A.P A.Mv A.t).2.1 q)) (bf0 A.P A.Mv A.t).1)))), WW A (RA.s_th (RA.s_qu (RA.s_is (RA.s_di (RA.s_dd (RA.s_ot (RA.s_s R s1) ot1) dd1) di1) is1) qu1) 0) o, 0, 0) := by
  have hsc := H.S.sc
  have hRs : s < R.sc := by rw [H.sc]; exact hs
  have hRc : R.sc ≤ 8 := by rw [H.sc]; exact hsc
  obtain ⟨s1, ot1, is1, qu1, dd1, di1, hcn⟩ := g_mCntF (X := X) (d := 0) (A := A) (R := RA.s_th R 0) (o := o) (s := s) H hs
  refine ⟨s1, ot1, is1, qu1, dd1, di1, ?_⟩
  refine wp_ev (d := d + 5) (by decide) rfl rfl (fun h => by cases h) ?_
  show wp X (d + 5) 143 (0, [.ref 26, .int (nI s)], [], WW A R o, 0, 0) _
  refine wz_aload_n (p9 := 1) rfl rfl rfl ?_
  refine wz_aload_n (p9 := 2) rfl rfl rfl ?_
  refine wz_iload_n (p9 := 3) rfl rfl rfl ?_
  refine wz_c1 (p9 := 6) (w1 := WW A R o) (u := .int (nI 1)) (wa_v (N := 130) (i := 26) (As := [.int (nI s)]) (rest := [.ref 26]) rfl rfl rfl rfl rfl rfl rfl) rfl ((g_mStage1 (d := 0) (by omega) (by omega)).up (Nat.le_trans (m := 5) (by decide) (Nat.le_add_left 5 d))) ?_
  refine wn_ifne (t9 := 13) (p9 := 9) rfl rfl rfl (by omega) (fun _ => ?_) (fun h9 => by omega)
  refine wz_iconst (x := nI 0) (p9 := 14) rfl rfl (by decide) ?_
  refine wz_c1 (p9 := 17) (w1 := WW A (RA.s_th R 0) o) (u := .int (nI 0)) (wa_v (N := 101) (i := 26) (As := [.int (nI 0)]) (rest := []) rfl rfl rfl rfl rfl rfl rfl) rfl ((g_throws0 (d := 0) ).up (Nat.le_trans (m := 5) (by decide) (Nat.le_add_left 5 d))) ?_
  refine wn_ifeq (t9 := 24) (p9 := 20) rfl rfl rfl (by omega) (fun _ => ?_) (fun h9 => by omega)
  refine wz_aload_n (p9 := 25) rfl rfl rfl ?_
  refine wz_iload_n (p9 := 26) rfl rfl rfl ?_
  refine wz_iconst (x := nI 1) (p9 := 27) rfl rfl (by decide) ?_
  refine wz_c1 (p9 := 30) (w1 := WW A (RA.s_th (RA.s_qu (RA.s_is (RA.s_di (RA.s_dd (RA.s_ot (RA.s_s R s1) ot1) dd1) di1) is1) qu1) 0) o) (u := .int (nI (sm (fun q => c1 (gs A.P A.wg A.us (A.sg s) (A.su s) s 7) (gb A.sg s) ((bf0 A.P A.Mv A.t).2.1 q)) (bf0 A.P A.Mv A.t).1))) (wa_v (N := 138) (i := 26) (As := [.int (nI s), .int (nI 1)]) (rest := []) rfl rfl rfl rfl rfl rfl rfl) rfl (hcn.up (by omega)) ?_
  exact wz_reti rfl rfl rfl
theorem g_mFX {X : Nat × (Nat → Int32)} {d : Nat} {A : CA} {R : RA} {o : Nat → Int64} {w : Int32} (h : inb w R.sc = 0) : px_ev X (d + 2) 143 [.ref 26, .int w] (WW A R o) (some (some (.int (nI 0))), WW A (RA.s_th R 1) o, 0, 0) := by
  refine wp_ev (d := d + 1) (by decide) rfl rfl (fun h => by cases h) ?_
  show wp X (d + 1) 143 (0, [.ref 26, .int w], [], WW A R o, 0, 0) _
  refine wz_aload_n (p9 := 1) rfl rfl rfl ?_
  refine wz_aload_n (p9 := 2) rfl rfl rfl ?_
  refine wz_iload_n (p9 := 3) rfl rfl rfl ?_
  refine wz_c1 (p9 := 6) (w1 := WW A R o) (u := .int (nI (inb w R.sc))) (wa_v (N := 130) (i := 26) (As := [.int w]) (rest := [.ref 26]) rfl rfl rfl rfl rfl rfl rfl) rfl ((g_mStageR (d := 0) ).up (Nat.le_trans (m := 1) (by decide) (Nat.le_add_left 1 d))) ?_
  refine wn_ifne (t9 := 13) (p9 := 9) rfl rfl rfl (by omega) (fun h9 => absurd h h9) (fun _ => ?_)
  refine wz_iconst (x := nI 1) (p9 := 10) rfl rfl (by decide) ?_
  refine wz_goto (p9 := 14) rfl rfl ?_
  refine wz_c1 (p9 := 17) (w1 := WW A (RA.s_th R 1) o) (u := .int (nI 1)) (wa_v (N := 101) (i := 26) (As := [.int (nI 1)]) (rest := []) rfl rfl rfl rfl rfl rfl rfl) rfl ((g_throws1 (d := 0) ).up (Nat.le_trans (m := 1) (by decide) (Nat.le_add_left 1 d))) ?_
  refine wn_ifeq (t9 := 24) (p9 := 20) rfl rfl rfl (by omega) (fun h9 => by omega) (fun _ => ?_)
  refine wz_iconst (x := nI 0) (p9 := 21) rfl rfl (by decide) ?_
  refine wz_goto (p9 := 30) rfl rfl ?_
  exact wz_reti rfl rfl rfl
theorem g_found {X : Nat × (Nat → Int32)} {d : Nat} {A : CA} {R : RA} {o : Nat → Int64} (H : RE A R) : ∃ fc2 fo2 se2, fc2 = (bf0 A.P A.Mv A.t).1 ∧ (∀ i, i < fc2 → fo2 i = (bf0 A.P A.Mv A.t).2.1 i) ∧ (∀ q, se2 q < 4294967296) ∧ px_ev X (d + 5) 59 [.ref 18] (WW A R o) (some (some (.int (nI fc2))), WW (CA.s_se (CA.s_fo (CA.s_fc A fc2) fo2) se2) R o, 0, 0) := by
  have p7 := H.T.p7
  have hfa := fac_le p7
  obtain ⟨hB, hB1⟩ := bf0_BF H.T
  have hb5 : (bf0 A.P A.Mv A.t).1 ≤ fac A.P := by have := hB.1; omega
  rcases H.fc with h | ⟨h1, h2⟩
  · obtain ⟨se2, hev, hse, _⟩ := g_foundCount0 (X := X) (d := d) (A := A) (R := R) (o := o) H.T (by rw [H.fl]; exact hfa) H.sl (ok := pm A.P) (fun x hx => ⟨pm_lt p7 hx, fun p hp => by have := hx.2.1 p hp; omega, by rw [H.fl]; exact rk_fac p7 hx⟩) (fun x m hx hm => pm_tr (mv_pf H.T m (by have := H.T.m6; omega)) hx) (pm_hm p7) H.se h
    have hq : BQ (bfS (fun x => (rk A.P x A.P).1) (fun m x => tr (fun q => A.t (m * 7 + q)) x A.P) A.Mv A.fl 0 (1, un A.fo 0 (hm8 A.P), un (fun _ => 0) (rk A.P (hm8 A.P) A.P).1 1)) (bf0 A.P A.Mv A.t) := by
      unfold bf0
      rw [H.fl]
      refine BQ_bf _ _ _ _ ⟨rfl, rfl, fun i hi => ?_⟩
      replace hi : i < 1 := hi
      obtain rfl : i = 0 := by omega
      show un A.fo 0 (hm8 A.P) 0 = un (fun _ => 0) 0 (hm8 A.P) 0
      rw [un_at, un_at]
    exact ⟨_, _, se2, hq.1, hq.2.2, hse, hev⟩
  · exact ⟨A.fc, A.fo, A.se, h1, h2, H.se, (g_foundCount1 (d := d) (A := A) (R := R) (o := o) (by omega) (by omega)).up (by omega)⟩
theorem j_states {X : Nat × (Nat → Int32)} {d : Nat} {A : CA} {R : RA} {o : Nat → Int64} (H : RE A R) {x : Int32} : JT X d 94 [.ref 0, .int x] 137 [.ref 26, .int x] A R o := by
  have p7 := H.T.p7
  have m6 := H.T.m6
  have hwc := H.V.wc
  have hsc := H.S.sc
  rcases ix1 x A.sc (by have := H.S.sc; omega) with hx | ⟨x9, hx, rfl⟩
  · refine Or.inl ⟨?_, fun o2 => ⟨_, _, (g_mSX (d := 0) (A := A) (R := R) (o := o2) (by rw [H.sc]; exact inb_bad hx)).up (Nat.le_trans (m := 10) (by decide) (Nat.le_add_left 10 d)), rfl, ⟨H.T, H.p, H.m, H.t, H.V, H.wi, H.wc, H.ln, H.rr, H.S, H.sP, H.uw, H.sc, H.go, H.us, H.ud, H.bc, H.tx, H.sz, H.te, H.kd, H.pl, H.fl, H.sl, H.se, H.fc, H.st, H.nw, H.dc, H.tl, H.dn⟩⟩⟩
    refine wp_ev (d := d + 9) (by decide) rfl rfl (fun _ => by decide) ?_
    show wp X (d + 9) 94 (0, [.ref 0, .int x, .retAddr 0, .retAddr 0, .retAddr 0, .retAddr 0], [], WW A R o, 0, 0) _
    refine wz_aload_n (p9 := 1) rfl rfl rfl ?_
    refine wz_iload_n (p9 := 2) rfl rfl rfl ?_
    exact wz_cx (wa_v (N := 91) (i := 0) (As := [.int x]) (rest := []) rfl rfl rfl rfl rfl rfl rfl) (by decide) ((g_cx91 (d := 0) hx).up (Nat.le_trans (m := 9) (by decide) (Nat.le_add_left 9 d))) rfl rfl
  obtain ⟨s, hs9⟩ : ∃ s, s = x9 := ⟨x9, rfl⟩
  subst hs9
  have hfa := fac_le p7
  obtain ⟨hB, hB1⟩ := bf0_BF H.T
  have hb5 : (bf0 A.P A.Mv A.t).1 ≤ fac A.P := by have := hB.1; omega
  obtain ⟨fc2, fo2, se2, e1, e2, e3, hfd⟩ := g_found (X := X) (d := 0) (o := o) H
  subst e1
  have hRE : RE (CA.s_se (CA.s_fo (CA.s_fc A (bf0 A.P A.Mv A.t).1) fo2) se2) R := ⟨H.T, H.p, H.m, H.t, H.V, H.wi, H.wc, H.ln, H.rr, H.S, H.sP, H.uw, H.sc, H.go, H.us, H.ud, H.bc, H.tx, H.sz, H.te, H.kd, H.pl, H.fl, H.sl, e3, (Or.inr ⟨rfl, e2⟩), H.st, H.nw, H.dc, H.tl, H.dn⟩
  refine Or.inr ⟨(CA.s_se (CA.s_fo (CA.s_fc A (bf0 A.P A.Mv A.t).1) fo2) se2), nI (sm (fun q => c0 (gb A.sg s) ((bf0 A.P A.Mv A.t).2.1 q)) (bf0 A.P A.Mv A.t).1), ?_, fun o2 => ?_⟩
  · skip
    refine wp_ev (d := d + 9) (by decide) rfl rfl (fun h => by cases h) ?_
    show wp X (d + 9) 94 (0, [.ref 0, .int (nI s), .retAddr 0, .retAddr 0, .retAddr 0, .retAddr 0], [], WW A R o, 0, 0) _
    refine wz_aload_n (p9 := 1) rfl rfl rfl ?_
    refine wz_iload_n (p9 := 2) rfl rfl rfl ?_
    refine wz_c0 (p9 := 5) (w1 := WW A R o) (wa_v (N := 91) (i := 0) (As := [.int (nI s)]) (rest := []) rfl rfl rfl rfl rfl rfl rfl) rfl ((g_ck91 (d := 0) (by omega) (by omega)).up (Nat.le_trans (m := 9) (by decide) (Nat.le_add_left 9 d))) ?_
    refine wz_aload_n (p9 := 6) rfl rfl rfl ?_
    refine wz_get (v := .ref 14) (p9 := 9) rfl rfl rfl rfl rfl ?_
    refine wz_iload_n (p9 := 10) rfl rfl rfl ?_
    refine wz_c1 (p9 := 13) (w1 := WW A R o) (u := .int (nI (gb A.sg s))) (wa_v (N := 55) (i := 14) (As := [.int (nI s)]) (rest := []) rfl rfl rfl rfl rfl rfl rfl) rfl ((g_goalBefore (d := 0) H.S (by omega)).up (by omega)) ?_
    refine wz_istore_n (l9 := [.ref 0, .int (nI s), .int (nI (gb A.sg s)), .retAddr 0, .retAddr 0, .retAddr 0]) (p9 := 14) rfl rfl rfl rfl ?_
    refine wz_aload_n (p9 := 15) rfl rfl rfl ?_
    refine wz_get (v := .ref 18) (p9 := 18) rfl rfl rfl rfl rfl ?_
    refine wz_c1 (p9 := 21) (w1 := WW (CA.s_se (CA.s_fo (CA.s_fc A ((bf0 A.P A.Mv A.t).1)) fo2) se2) R o) (u := .int (nI ((bf0 A.P A.Mv A.t).1))) (wa_v (N := 59) (i := 18) (As := []) (rest := []) rfl rfl rfl rfl rfl rfl rfl) rfl (hfd.up (by omega)) ?_
    refine wz_istore_n (l9 := [.ref 0, .int (nI s), .int (nI (gb A.sg s)), .int (nI ((bf0 A.P A.Mv A.t).1)), .retAddr 0, .retAddr 0]) (p9 := 22) rfl rfl rfl rfl ?_
    refine wz_iconst (x := nI 0) (p9 := 23) rfl rfl (by decide) ?_
    refine wz_istore (l9 := [.ref 0, .int (nI s), .int (nI (gb A.sg s)), .int (nI ((bf0 A.P A.Mv A.t).1)), .int (nI 0), .retAddr 0]) (p9 := 25) rfl rfl rfl rfl ?_
    refine wz_iconst (x := nI 0) (p9 := 26) rfl rfl (by decide) ?_
    refine wz_istore (l9 := [.ref 0, .int (nI s), .int (nI (gb A.sg s)), .int (nI ((bf0 A.P A.Mv A.t).1)), .int (nI 0), .int (nI 0)]) (p9 := 28) rfl rfl rfl rfl ?_
    exact l_cS (f := (bf0 A.P A.Mv A.t).2.1) (A := (CA.s_se (CA.s_fo (CA.s_fc A (bf0 A.P A.Mv A.t).1) fo2) se2)) (R := R) (o := o) (d := d + 7) H.T H.V H.S hx (show A.fl ≤ 5040 by rw [H.fl]; exact hfa) (show (bf0 A.P A.Mv A.t).1 ≤ A.fl by rw [H.fl]; exact hb5) (fun i hi => ⟨e2 i hi, hB.2.1 i (by omega)⟩) (by exact rfl) (bf0 A.P A.Mv A.t).1 0 (by omega)
  · obtain ⟨s1, ot1, is1, qu1, hev⟩ := g_mS1 (X := X) (d := 0) (A := (CA.s_se (CA.s_fo (CA.s_fc A (bf0 A.P A.Mv A.t).1) fo2) se2)) (R := R) (o := o2) (s := s) hRE.g hx
    exact ⟨_, hev.up (Nat.le_trans (m := 10) (by decide) (Nat.le_add_left 10 d)), rfl, ⟨hRE.T, hRE.p, hRE.m, hRE.t, hRE.V, hRE.wi, hRE.wc, hRE.ln, hRE.rr, hRE.S, hRE.sP, hRE.uw, hRE.sc, hRE.go, hRE.us, hRE.ud, hRE.bc, hRE.tx, hRE.sz, hRE.te, hRE.kd, hRE.pl, hRE.fl, hRE.sl, hRE.se, hRE.fc, hRE.st, hRE.nw, hRE.dc, hRE.tl, hRE.dn⟩⟩
theorem j_fails {X : Nat × (Nat → Int32)} {d : Nat} {A : CA} {R : RA} {o : Nat → Int64} (H : RE A R) {x : Int32} : JT X d 95 [.ref 0, .int x] 143 [.ref 26, .int x] A R o := by
  have p7 := H.T.p7
  have m6 := H.T.m6
  have hwc := H.V.wc
  have hsc := H.S.sc
  rcases ix1 x A.sc (by have := H.S.sc; omega) with hx | ⟨x9, hx, rfl⟩
  · refine Or.inl ⟨?_, fun o2 => ⟨_, _, (g_mFX (d := 0) (A := A) (R := R) (o := o2) (by rw [H.sc]; exact inb_bad hx)).up (Nat.le_trans (m := 10) (by decide) (Nat.le_add_left 10 d)), rfl, ⟨H.T, H.p, H.m, H.t, H.V, H.wi, H.wc, H.ln, H.rr, H.S, H.sP, H.uw, H.sc, H.go, H.us, H.ud, H.bc, H.tx, H.sz, H.te, H.kd, H.pl, H.fl, H.sl, H.se, H.fc, H.st, H.nw, H.dc, H.tl, H.dn⟩⟩⟩
    refine wp_ev (d := d + 9) (by decide) rfl rfl (fun _ => by decide) ?_
    show wp X (d + 9) 95 (0, [.ref 0, .int x, .retAddr 0, .retAddr 0, .retAddr 0, .retAddr 0, .retAddr 0], [], WW A R o, 0, 0) _
    refine wz_aload_n (p9 := 1) rfl rfl rfl ?_
    refine wz_iload_n (p9 := 2) rfl rfl rfl ?_
    exact wz_cx (wa_v (N := 91) (i := 0) (As := [.int x]) (rest := []) rfl rfl rfl rfl rfl rfl rfl) (by decide) ((g_cx91 (d := 0) hx).up (Nat.le_trans (m := 9) (by decide) (Nat.le_add_left 9 d))) rfl rfl
  obtain ⟨s, hs9⟩ : ∃ s, s = x9 := ⟨x9, rfl⟩
  subst hs9
  have hfa := fac_le p7
  obtain ⟨hB, hB1⟩ := bf0_BF H.T
  have hb5 : (bf0 A.P A.Mv A.t).1 ≤ fac A.P := by have := hB.1; omega
  obtain ⟨fc2, fo2, se2, e1, e2, e3, hfd⟩ := g_found (X := X) (d := 0) (o := o) H
  subst e1
  have hRE : RE (CA.s_se (CA.s_fo (CA.s_fc A (bf0 A.P A.Mv A.t).1) fo2) se2) R := ⟨H.T, H.p, H.m, H.t, H.V, H.wi, H.wc, H.ln, H.rr, H.S, H.sP, H.uw, H.sc, H.go, H.us, H.ud, H.bc, H.tx, H.sz, H.te, H.kd, H.pl, H.fl, H.sl, e3, (Or.inr ⟨rfl, e2⟩), H.st, H.nw, H.dc, H.tl, H.dn⟩
  refine Or.inr ⟨(CA.s_se (CA.s_fo (CA.s_fc A (bf0 A.P A.Mv A.t).1) fo2) se2), nI (sm (fun q => c1 (gs A.P A.wg A.us (A.sg s) (A.su s) s 7) (gb A.sg s) ((bf0 A.P A.Mv A.t).2.1 q)) (bf0 A.P A.Mv A.t).1), ?_, fun o2 => ?_⟩
  · skip
    refine wp_ev (d := d + 9) (by decide) rfl rfl (fun h => by cases h) ?_
    show wp X (d + 9) 95 (0, [.ref 0, .int (nI s), .retAddr 0, .retAddr 0, .retAddr 0, .retAddr 0, .retAddr 0], [], WW A R o, 0, 0) _
    refine wz_aload_n (p9 := 1) rfl rfl rfl ?_
    refine wz_iload_n (p9 := 2) rfl rfl rfl ?_
    refine wz_c0 (p9 := 5) (w1 := WW A R o) (wa_v (N := 91) (i := 0) (As := [.int (nI s)]) (rest := []) rfl rfl rfl rfl rfl rfl rfl) rfl ((g_ck91 (d := 0) (by omega) (by omega)).up (Nat.le_trans (m := 9) (by decide) (Nat.le_add_left 9 d))) ?_
    refine wz_aload_n (p9 := 6) rfl rfl rfl ?_
    refine wz_get (v := .ref 14) (p9 := 9) rfl rfl rfl rfl rfl ?_
    refine wz_iload_n (p9 := 10) rfl rfl rfl ?_
    refine wz_c1 (p9 := 13) (w1 := WW A R o) (u := .int (nI (gb A.sg s))) (wa_v (N := 55) (i := 14) (As := [.int (nI s)]) (rest := []) rfl rfl rfl rfl rfl rfl rfl) rfl ((g_goalBefore (d := 0) H.S (by omega)).up (by omega)) ?_
    refine wz_istore_n (l9 := [.ref 0, .int (nI s), .int (nI (gb A.sg s)), .retAddr 0, .retAddr 0, .retAddr 0, .retAddr 0]) (p9 := 14) rfl rfl rfl rfl ?_
    refine wz_aload_n (p9 := 15) rfl rfl rfl ?_
    refine wz_get (v := .ref 18) (p9 := 18) rfl rfl rfl rfl rfl ?_
    refine wz_c1 (p9 := 21) (w1 := WW (CA.s_se (CA.s_fo (CA.s_fc A ((bf0 A.P A.Mv A.t).1)) fo2) se2) R o) (u := .int (nI ((bf0 A.P A.Mv A.t).1))) (wa_v (N := 59) (i := 18) (As := []) (rest := []) rfl rfl rfl rfl rfl rfl rfl) rfl (hfd.up (by omega)) ?_
    refine wz_istore_n (l9 := [.ref 0, .int (nI s), .int (nI (gb A.sg s)), .int (nI ((bf0 A.P A.Mv A.t).1)), .retAddr 0, .retAddr 0, .retAddr 0]) (p9 := 22) rfl rfl rfl rfl ?_
    refine wz_iconst (x := nI 0) (p9 := 23) rfl rfl (by decide) ?_
    refine wz_istore (l9 := [.ref 0, .int (nI s), .int (nI (gb A.sg s)), .int (nI ((bf0 A.P A.Mv A.t).1)), .int (nI 0), .retAddr 0, .retAddr 0]) (p9 := 25) rfl rfl rfl rfl ?_
    refine wz_iconst (x := nI 0) (p9 := 26) rfl rfl (by decide) ?_
    refine wz_istore (l9 := [.ref 0, .int (nI s), .int (nI (gb A.sg s)), .int (nI ((bf0 A.P A.Mv A.t).1)), .int (nI 0), .int (nI 0), .retAddr 0]) (p9 := 28) rfl rfl rfl rfl ?_
    exact l_cF (f := (bf0 A.P A.Mv A.t).2.1) (A := (CA.s_se (CA.s_fo (CA.s_fc A (bf0 A.P A.Mv A.t).1) fo2) se2)) (R := R) (o := o) (d := d + 5) H.T H.V H.S hx (show A.fl ≤ 5040 by rw [H.fl]; exact hfa) (show (bf0 A.P A.Mv A.t).1 ≤ A.fl by rw [H.fl]; exact hb5) (fun i hi => ⟨e2 i hi, hB.2.1 i (by omega)⟩) (by exact rfl) (bf0 A.P A.Mv A.t).1 0 (by omega) _
  · obtain ⟨s1, ot1, is1, qu1, dd1, di1, hev⟩ := g_mF1 (X := X) (d := 0) (A := (CA.s_se (CA.s_fo (CA.s_fc A (bf0 A.P A.Mv A.t).1) fo2) se2)) (R := R) (o := o2) (s := s) hRE.g hx
    exact ⟨_, hev.up (Nat.le_trans (m := 10) (by decide) (Nat.le_add_left 10 d)), rfl, ⟨hRE.T, hRE.p, hRE.m, hRE.t, hRE.V, hRE.wi, hRE.wc, hRE.ln, hRE.rr, hRE.S, hRE.sP, hRE.uw, hRE.sc, hRE.go, hRE.us, hRE.ud, hRE.bc, hRE.tx, hRE.sz, hRE.te, hRE.kd, hRE.pl, hRE.fl, hRE.sl, hRE.se, hRE.fc, hRE.st, hRE.nw, hRE.dc, hRE.tl, hRE.dn⟩⟩
