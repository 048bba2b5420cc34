/-! THE READER OF THE CLASS: bytes taken (wip/whole/gen/mk82.py) -/
theorem rv_step {od : Nat → Nat} {lo hi : Nat} {f : Nat → Nat} (h : lo < hi) : rv od (lo + 1) (hi - 1) (un (un f lo (tw od (f (hi - 1)))) (hi - 1) (tw od (f lo))) = rv od lo hi f := by
  funext q
  unfold rv
  by_cases h1 : lo + 1 ≤ q ∧ q < hi - 1
  · rw [if_pos h1, if_pos (by omega), un_ne (by omega), un_ne (by omega), show lo + 1 + (hi - 1) - 1 - q = lo + hi - 1 - q by omega]
  · rw [if_neg h1]
    by_cases h2 : lo ≤ q ∧ q < hi
    · rw [if_pos h2]
      by_cases h3 : q = hi - 1
      · rw [h3, un_at, show lo + hi - 1 - (hi - 1) = lo by omega]
      · have h4 : q = lo := by omega
        rw [un_ne h3, h4, un_at, show lo + hi - 1 - lo = hi - 1 by omega]
    · rw [if_neg h2, un_ne (by omega), un_ne (by omega)]
theorem rv_none {od : Nat → Nat} {lo hi : Nat} {f : Nat → Nat} (h : hi ≤ lo) : rv od lo hi f = f := by
  funext q
  unfold rv
  rw [if_neg (by omega)]
theorem q_m1lt {a b : Nat} (hb : b < 1073741824) (ha : a < 1073741824) (h : b ≤ a) : nI b + (-1) < nI a := Int32.lt_iff_toInt_lt.mpr (by rw [q_m1 hb, nI_toInt (by omega)]; omega)
theorem l_takesTurn {X : Nat × (Nat → Int32)} {d : Nat} {A : CA} {R : RA} {o : Nat → Int64} (T : TV A.P A.Mv A.t A.od) {k z : Nat} {Q : px_Z → Prop} : ∀ (j lo hi : Nat) (f : Nat → Nat) (v : Value), hi ≤ lo + j → hi ≤ 400 → lo < 1000 → (∀ q, lo ≤ q → q < hi → ro A.od (f q)) → (∀ lv, wp X (d + 2) 22 (74, .ref 4 :: lv, [], WW (CA.s_bu A (rv A.od lo hi f)) R o, k, z) Q) → wp X (d + 2) 22 (26, [.ref 4, .int (nI lo), .int (nI hi + (-1)), v], [], WW (CA.s_bu A f) R o, k, z) Q
  | 0, lo, hi, f, v, hj, h4, h5, hf, kk => by
    rw [rv_none (by omega)] at kk
    refine wz_iload_n (p9 := 27) rfl rfl rfl ?_
    refine wz_iload_n (p9 := 28) rfl rfl rfl ?_
    refine wz_icgt (t9 := 74) (p9 := 31) rfl rfl rfl (fun _ => ?_) (fun h9 => absurd (q_m1lt (by omega) (by omega) (by omega)) h9)
    exact kk _
  | j + 1, lo, hi, f, v, hj, h4, h5, hf, kk => by
    by_cases hq : hi ≤ lo
    · rw [rv_none hq] at kk
      refine wz_iload_n (p9 := 27) rfl rfl rfl ?_
      refine wz_iload_n (p9 := 28) rfl rfl rfl ?_
      refine wz_icgt (t9 := 74) (p9 := 31) rfl rfl rfl (fun _ => ?_) (fun h9 => absurd (q_m1lt (by omega) (by omega) (by omega)) h9)
      exact kk _
    obtain ⟨e9, rfl⟩ : ∃ e9, hi = e9 + 1 := ⟨hi - 1, by omega⟩
    rw [pk_m1 e9]
    refine wz_iload_n (p9 := 27) rfl rfl rfl ?_
    refine wz_iload_n (p9 := 28) rfl rfl rfl ?_
    refine wn_icgt (t9 := 74) (p9 := 31) rfl rfl rfl (by omega) (by omega) (fun h9 => by omega) (fun _ => ?_)
    refine wz_aload_n (p9 := 32) rfl rfl rfl ?_
    refine wz_aload_n (p9 := 33) rfl rfl rfl ?_
    refine wz_get (v := .ref 9) (p9 := 36) rfl rfl rfl rfl rfl ?_
    refine wz_iload_n (p9 := 37) rfl rfl rfl ?_
    refine wl_Abu (f := f) (p9 := 38) rfl rfl rfl (by omega) ?_
    refine wz_c1 (p9 := 41) (w1 := WW (CA.s_bu A f) R o) (u := .int (nI (tw A.od (f lo)))) (wa_v (N := 19) (i := 4) (As := [.int (nI (f lo))]) (rest := []) rfl rfl rfl rfl rfl rfl rfl) rfl ((g_turnedRow (d := 0) (A := (CA.s_bu A f)) (R := R) T (hf lo (by omega) (by omega))).up (by omega)) ?_
    refine wz_istore_n (l9 := [.ref 4, .int (nI lo), .int (nI e9), .int (nI (tw A.od (f lo)))]) (p9 := 42) rfl rfl rfl rfl ?_
    refine wz_aload_n (p9 := 43) rfl rfl rfl ?_
    refine wz_get (v := .ref 9) (p9 := 46) rfl rfl rfl rfl rfl ?_
    refine wz_iload_n (p9 := 47) rfl rfl rfl ?_
    refine wz_aload_n (p9 := 48) rfl rfl rfl ?_
    refine wz_aload_n (p9 := 49) rfl rfl rfl ?_
    refine wz_get (v := .ref 9) (p9 := 52) rfl rfl rfl rfl rfl ?_
    refine wz_iload_n (p9 := 53) rfl rfl rfl ?_
    refine wl_Abu (f := f) (p9 := 54) rfl rfl rfl (by omega) ?_
    refine wz_c1 (p9 := 57) (w1 := WW (CA.s_bu A f) R o) (u := .int (nI (tw A.od (f e9)))) (wa_v (N := 19) (i := 4) (As := [.int (nI (f e9))]) (rest := [.int (nI lo), .ref 9]) rfl rfl rfl rfl rfl rfl rfl) rfl ((g_turnedRow (d := 0) (A := (CA.s_bu A f)) (R := R) T (hf (e9) (by omega) (by omega))).up (by omega)) ?_
    refine ws_Abu (f := f) (p9 := 58) rfl rfl rfl (by omega) (A1 := (CA.s_bu A (un f lo (tw A.od (f e9))))) rfl ?_
    refine wz_aload_n (p9 := 59) rfl rfl rfl ?_
    refine wz_get (v := .ref 9) (p9 := 62) rfl rfl rfl rfl rfl ?_
    refine wz_iload_n (p9 := 63) rfl rfl rfl ?_
    refine wz_iload_n (p9 := 64) rfl rfl rfl ?_
    refine ws_Abu (f := un f lo (tw A.od (f e9))) (p9 := 65) rfl rfl rfl (by omega) (A1 := (CA.s_bu A (un (un f lo (tw A.od (f e9))) e9 (tw A.od (f lo))))) rfl ?_
    refine wn_inc (b := 1) (l9 := [.ref 4, .int (nI (lo + 1)), .int (nI e9), .int (nI (tw A.od (f lo)))]) (p9 := 68) rfl rfl rfl (by decide) rfl ?_
    refine wz_iinc (y := ((nI e9) + (-1))) (l9 := [.ref 4, .int (nI (lo + 1)), .int ((nI e9) + (-1)), .int (nI (tw A.od (f lo)))]) (p9 := 71) rfl rfl rfl rfl rfl ?_
    refine wz_goto (p9 := 26) rfl rfl ?_
    rw [← rv_step (by omega)] at kk
    refine l_takesTurn T j (lo + 1) e9 _ _ (by omega) (by omega) (by omega) (fun q h1 h2 => ?_) kk
    rw [un_ne (by omega), un_ne (by omega)]
    exact hf q (by omega) (by omega)
theorem g_takesTurn1 {X : Nat × (Nat → Int32)} {d : Nat} {A : CA} {R : RA} {o : Nat → Int64} (T : TV A.P A.Mv A.t A.od) (hs : A.sn < 3) (hs0 : A.sn ≠ 0) (hp : A.ps ≤ 400) (hr : A.rc ≤ 400) (hf : ∀ q, A.ps ≤ q → q < A.rc → ro A.od (A.bu q)) : px_ev X (d + 3) 22 [.ref 4] (WW A R o) (some (some (.int (nI 1))), WW (CA.s_bu (CA.s_sn A 0) (rv A.od A.ps A.rc A.bu)) R o, 0, 0) := by
  refine wp_ev (d := d + 2) (by decide) rfl rfl (fun h => by cases h) ?_
  show wp X (d + 2) 22 (0, [.ref 4, .retAddr 0, .retAddr 0, .retAddr 0], [], WW A R o, 0, 0) _
  refine wz_aload_n (p9 := 1) rfl rfl rfl ?_
  refine wz_get (v := .int (nI A.sn)) (p9 := 4) rfl rfl rfl rfl rfl ?_
  refine wn_ifne (t9 := 9) (p9 := 7) rfl rfl rfl (by omega) (fun _ => ?_) (fun h9 => by omega)
  refine wz_aload_n (p9 := 10) rfl rfl rfl ?_
  refine wz_iconst (x := nI 0) (p9 := 11) rfl rfl (by decide) ?_
  refine wp_Asn (x := 0) (p9 := 14) rfl rfl rfl rfl (A1 := (CA.s_sn A 0)) rfl ?_
  refine wz_aload_n (p9 := 15) rfl rfl rfl ?_
  refine wz_get (v := .int (nI A.ps)) (p9 := 18) rfl rfl rfl rfl rfl ?_
  refine wz_istore_n (l9 := [.ref 4, .int (nI A.ps), .retAddr 0, .retAddr 0]) (p9 := 19) rfl rfl rfl rfl ?_
  refine wz_aload_n (p9 := 20) rfl rfl rfl ?_
  refine wz_get (v := .int (nI A.rc)) (p9 := 23) rfl rfl rfl rfl rfl ?_
  refine wz_iconst (x := nI 1) (p9 := 24) rfl rfl (by decide) ?_
  refine wz_isub (v := (nI A.rc + (-1))) (p9 := 25) rfl rfl (Int32.sub_eq_add_neg _ _) ?_
  refine wz_istore_n (l9 := [.ref 4, .int (nI A.ps), .int (nI A.rc + (-1)), .retAddr 0]) (p9 := 26) rfl rfl rfl rfl ?_
  refine l_takesTurn (A := CA.s_sn A 0) T 400 A.ps A.rc A.bu _ (by omega) hr (by omega) hf (fun lv => ?_)
  refine wz_iconst (x := nI 1) (p9 := 75) rfl rfl (by decide) ?_
  exact wz_retz rfl rfl (by decide) rfl
theorem g_takesTurn0 {X : Nat × (Nat → Int32)} {d : Nat} {A : CA} {R : RA} {o : Nat → Int64} (hs : A.sn = 0) : px_ev X (d + 1) 22 [.ref 4] (WW A R o) (some (some (.int (nI 0))), WW A R o, 0, 0) := by
  refine wp_ev (d := d + 0) (by decide) rfl rfl (fun h => by cases h) ?_
  show wp X (d + 0) 22 (0, [.ref 4, .retAddr 0, .retAddr 0, .retAddr 0], [], WW A R o, 0, 0) _
  have h9 := hs
  refine wz_aload_n (p9 := 1) rfl rfl rfl ?_
  refine wz_get (v := .int (nI A.sn)) (p9 := 4) rfl rfl rfl rfl rfl ?_
  refine wn_ifne (t9 := 9) (p9 := 7) rfl rfl rfl (by omega) (fun h9 => by omega) (fun _ => ?_)
  refine wz_iconst (x := nI 0) (p9 := 8) rfl rfl (by decide) ?_
  exact wz_retz rfl rfl (by decide) rfl
theorem g_takesDigit0 {X : Nat × (Nat → Int32)} {d : Nat} {A : CA} {R : RA} {o : Nat → Int64} {x : Nat} (hs : A.sn < 3) (h : A.sn ≠ 2) : px_ev X (d + 1) 23 [.ref 4, .int (nI x)] (WW A R o) (some (some (.int (nI 0))), WW A R o, 0, 0) := by
  refine wp_ev (d := d + 0) (by decide) rfl rfl (fun h => by cases h) ?_
  show wp X (d + 0) 23 (0, [.ref 4, .int (nI x)], [], WW A R o, 0, 0) _
  refine wz_aload_n (p9 := 1) rfl rfl rfl ?_
  refine wz_get (v := .int (nI A.sn)) (p9 := 4) rfl rfl rfl rfl rfl ?_
  refine wz_iconst (x := nI 2) (p9 := 5) rfl rfl (by decide) ?_
  refine wn_iceq (t9 := 10) (p9 := 8) rfl rfl rfl (by omega) (by omega) (fun h9 => by omega) (fun _ => ?_)
  refine wz_iconst (x := nI 0) (p9 := 9) rfl rfl (by decide) ?_
  exact wz_retz rfl rfl (by decide) rfl
theorem g_takesDigitL {X : Nat × (Nat → Int32)} {d : Nat} {A : CA} {R : RA} {o : Nat → Int64} (T : TV A.P A.Mv A.t A.od) {x : Nat} (h : BV A.od (A.rc, A.bu, A.ov)) (hp : A.ps ≤ 400) (hx : x < 10) (hs : A.sn = 2) (hl : A.pl = 1) : px_ev X (d + 3) 23 [.ref 4, .int (nI x)] (WW A R o) (some (some (.int (nI 1))), WW (CA.s_bu (CA.s_sn (CA.s_ov (CA.s_rc A (rlt A.od A.ps x (A.rc, A.bu, A.ov)).1) (rlt A.od A.ps x (A.rc, A.bu, A.ov)).2.2) 1) (rlt A.od A.ps x (A.rc, A.bu, A.ov)).2.1) R o, 0, 0) := by
  refine wp_ev (d := d + 2) (by decide) rfl rfl (fun h => by cases h) ?_
  show wp X (d + 2) 23 (0, [.ref 4, .int (nI x)], [], WW A R o, 0, 0) _
  refine wz_aload_n (p9 := 1) rfl rfl rfl ?_
  refine wz_get (v := .int (nI A.sn)) (p9 := 4) rfl rfl rfl rfl rfl ?_
  refine wz_iconst (x := nI 2) (p9 := 5) rfl rfl (by decide) ?_
  refine wn_iceq (t9 := 10) (p9 := 8) rfl rfl rfl (by omega) (by omega) (fun _ => ?_) (fun h9 => by omega)
  refine wz_aload_n (p9 := 11) rfl rfl rfl ?_
  refine wz_iconst (x := nI 1) (p9 := 12) rfl rfl (by decide) ?_
  refine wp_Asn (x := 1) (p9 := 15) rfl rfl rfl rfl (A1 := (CA.s_sn A 1)) rfl ?_
  refine wz_aload_n (p9 := 16) rfl rfl rfl ?_
  refine wz_get (v := .int (nI A.pl)) (p9 := 19) rfl rfl rfl rfl rfl ?_
  refine wn_ifeq (t9 := 30) (p9 := 22) rfl rfl rfl (by omega) (fun h9 => by omega) (fun _ => ?_)
  refine wz_aload_n (p9 := 23) rfl rfl rfl ?_
  refine wz_iload_n (p9 := 24) rfl rfl rfl ?_
  refine wz_c0 (p9 := 27) (w1 := WW (CA.s_sn (CA.s_ov (CA.s_rc (CA.s_bu A ((rlt A.od A.ps x (A.rc, A.bu, A.ov)).2.1)) ((rlt A.od A.ps x (A.rc, A.bu, A.ov)).1)) ((rlt A.od A.ps x (A.rc, A.bu, A.ov)).2.2)) 1) R o) (wa_v (N := 24) (i := 4) (As := [.int (nI x)]) (rest := []) rfl rfl rfl rfl rfl rfl rfl) rfl ((g_repeatLetter (d := 0) (A := (CA.s_sn A 1)) (R := R) T rfl h hp hx).up (by omega)) ?_
  refine wz_goto (p9 := 35) rfl rfl ?_
  refine wz_iconst (x := nI 1) (p9 := 36) rfl rfl (by decide) ?_
  exact wz_retz rfl rfl (by decide) rfl
theorem g_takesDigitP {X : Nat × (Nat → Int32)} {d : Nat} {A : CA} {R : RA} {o : Nat → Int64} (T : TV A.P A.Mv A.t A.od) {x : Nat} (h : BV A.od (A.rc, A.bu, A.ov)) (hp : A.ps ≤ A.rc) (hx : x < 10) (hs : A.sn = 2) (hl : A.pl = 0) : px_ev X (d + 3) 23 [.ref 4, .int (nI x)] (WW A R o) (some (some (.int (nI 1))), WW (CA.s_bu (CA.s_sn (CA.s_ov (CA.s_rc A (rp A.ps A.rc (x - 1) (A.rc, A.bu, A.ov)).1) (rp A.ps A.rc (x - 1) (A.rc, A.bu, A.ov)).2.2) 1) (rp A.ps A.rc (x - 1) (A.rc, A.bu, A.ov)).2.1) R o, 0, 0) := by
  refine wp_ev (d := d + 2) (by decide) rfl rfl (fun h => by cases h) ?_
  show wp X (d + 2) 23 (0, [.ref 4, .int (nI x)], [], WW A R o, 0, 0) _
  refine wz_aload_n (p9 := 1) rfl rfl rfl ?_
  refine wz_get (v := .int (nI A.sn)) (p9 := 4) rfl rfl rfl rfl rfl ?_
  refine wz_iconst (x := nI 2) (p9 := 5) rfl rfl (by decide) ?_
  refine wn_iceq (t9 := 10) (p9 := 8) rfl rfl rfl (by omega) (by omega) (fun _ => ?_) (fun h9 => by omega)
  refine wz_aload_n (p9 := 11) rfl rfl rfl ?_
  refine wz_iconst (x := nI 1) (p9 := 12) rfl rfl (by decide) ?_
  refine wp_Asn (x := 1) (p9 := 15) rfl rfl rfl rfl (A1 := (CA.s_sn A 1)) rfl ?_
  refine wz_aload_n (p9 := 16) rfl rfl rfl ?_
  refine wz_get (v := .int (nI A.pl)) (p9 := 19) rfl rfl rfl rfl rfl ?_
  refine wn_ifeq (t9 := 30) (p9 := 22) rfl rfl rfl (by omega) (fun _ => ?_) (fun h9 => by omega)
  refine wz_aload_n (p9 := 31) rfl rfl rfl ?_
  refine wz_iload_n (p9 := 32) rfl rfl rfl ?_
  refine wz_c0 (p9 := 35) (w1 := WW (CA.s_sn (CA.s_ov (CA.s_rc (CA.s_bu A ((rp A.ps A.rc (x - 1) (A.rc, A.bu, A.ov)).2.1)) ((rp A.ps A.rc (x - 1) (A.rc, A.bu, A.ov)).1)) ((rp A.ps A.rc (x - 1) (A.rc, A.bu, A.ov)).2.2)) 1) R o) (wa_v (N := 25) (i := 4) (As := [.int (nI x)]) (rest := []) rfl rfl rfl rfl rfl rfl rfl) rfl ((g_repeatPart (d := 0) (A := (CA.s_sn A 1)) (R := R) rfl h.1 hp hx).up (by omega)) ?_
  refine wz_iconst (x := nI 1) (p9 := 36) rfl rfl (by decide) ?_
  exact wz_retz rfl rfl (by decide) rfl
theorem g_hasMove1 {X : Nat × (Nat → Int32)} {d : Nat} {A : CA} {R : RA} {o : Nat → Int64} {m : Nat} (hm : m < A.Mv) (hM : A.Mv < 100) : px_ev X (d + 1) 4 [.ref 1, .int (nI m)] (WW A R o) (some (some (.int (nI 1))), WW A R o, 0, 0) := by
  refine wp_ev (d := d + 0) (by decide) rfl rfl (fun h => by cases h) ?_
  show wp X (d + 0) 4 (0, [.ref 1, .int (nI m)], [], WW A R o, 0, 0) _
  refine wz_iload_n (p9 := 1) rfl rfl rfl ?_
  refine wn_iflt (t9 := 16) (p9 := 4) rfl rfl rfl (by omega) (fun h9 => by omega) (fun _ => ?_)
  refine wz_iload_n (p9 := 5) rfl rfl rfl ?_
  refine wz_aload_n (p9 := 6) rfl rfl rfl ?_
  refine wz_get (v := .int (nI A.Mv)) (p9 := 9) rfl rfl rfl rfl rfl ?_
  refine wn_icge (t9 := 16) (p9 := 12) rfl rfl rfl (by omega) (by omega) (fun h9 => by omega) (fun _ => ?_)
  refine wz_iconst (x := nI 1) (p9 := 13) rfl rfl (by decide) ?_
  refine wz_goto (p9 := 17) rfl rfl ?_
  exact wz_retz rfl rfl (by decide) rfl
theorem g_hasMove0 {X : Nat × (Nat → Int32)} {d : Nat} {A : CA} {R : RA} {o : Nat → Int64} {m : Int32} (h : ¬ m < 0 → nI A.Mv ≤ m) : px_ev X (d + 1) 4 [.ref 1, .int m] (WW A R o) (some (some (.int (nI 0))), WW A R o, 0, 0) := by
  refine wp_ev (d := d + 0) (by decide) rfl rfl (fun h => by cases h) ?_
  show wp X (d + 0) 4 (0, [.ref 1, .int m], [], WW A R o, 0, 0) _
  refine wz_iload_n (p9 := 1) rfl rfl rfl ?_
  refine wz_iflt (t9 := 16) (p9 := 4) rfl rfl rfl (fun h1 => ?_) (fun h1 => ?_)
  · refine wz_iconst (x := nI 0) (p9 := 17) rfl rfl (by decide) ?_
    exact wz_retz rfl rfl (by decide) rfl
  · refine wz_iload_n (p9 := 5) rfl rfl rfl ?_
    refine wz_aload_n (p9 := 6) rfl rfl rfl ?_
    refine wz_get (v := .int (nI A.Mv)) (p9 := 9) rfl rfl rfl rfl rfl ?_
    refine wz_icge (t9 := 16) (p9 := 12) rfl rfl rfl (fun _ => ?_) (fun h9 => absurd (h h1) h9)
    refine wz_iconst (x := nI 0) (p9 := 17) rfl rfl (by decide) ?_
    exact wz_retz rfl rfl (by decide) rfl
theorem g_hasPlace1 {X : Nat × (Nat → Int32)} {d : Nat} {A : CA} {R : RA} {o : Nat → Int64} {m : Nat} (hm : m < A.P) (hM : A.P < 100) : px_ev X (d + 1) 6 [.ref 1, .int (nI m)] (WW A R o) (some (some (.int (nI 1))), WW A R o, 0, 0) := by
  refine wp_ev (d := d + 0) (by decide) rfl rfl (fun h => by cases h) ?_
  show wp X (d + 0) 6 (0, [.ref 1, .int (nI m)], [], WW A R o, 0, 0) _
  refine wz_iload_n (p9 := 1) rfl rfl rfl ?_
  refine wn_iflt (t9 := 16) (p9 := 4) rfl rfl rfl (by omega) (fun h9 => by omega) (fun _ => ?_)
  refine wz_iload_n (p9 := 5) rfl rfl rfl ?_
  refine wz_aload_n (p9 := 6) rfl rfl rfl ?_
  refine wz_get (v := .int (nI A.P)) (p9 := 9) rfl rfl rfl rfl rfl ?_
  refine wn_icge (t9 := 16) (p9 := 12) rfl rfl rfl (by omega) (by omega) (fun h9 => by omega) (fun _ => ?_)
  refine wz_iconst (x := nI 1) (p9 := 13) rfl rfl (by decide) ?_
  refine wz_goto (p9 := 17) rfl rfl ?_
  exact wz_retz rfl rfl (by decide) rfl
theorem g_hasPlace0 {X : Nat × (Nat → Int32)} {d : Nat} {A : CA} {R : RA} {o : Nat → Int64} {m : Int32} (h : ¬ m < 0 → nI A.P ≤ m) : px_ev X (d + 1) 6 [.ref 1, .int m] (WW A R o) (some (some (.int (nI 0))), WW A R o, 0, 0) := by
  refine wp_ev (d := d + 0) (by decide) rfl rfl (fun h => by cases h) ?_
  show wp X (d + 0) 6 (0, [.ref 1, .int m], [], WW A R o, 0, 0) _
  refine wz_iload_n (p9 := 1) rfl rfl rfl ?_
  refine wz_iflt (t9 := 16) (p9 := 4) rfl rfl rfl (fun h1 => ?_) (fun h1 => ?_)
  · refine wz_iconst (x := nI 0) (p9 := 17) rfl rfl (by decide) ?_
    exact wz_retz rfl rfl (by decide) rfl
  · refine wz_iload_n (p9 := 5) rfl rfl rfl ?_
    refine wz_aload_n (p9 := 6) rfl rfl rfl ?_
    refine wz_get (v := .int (nI A.P)) (p9 := 9) rfl rfl rfl rfl rfl ?_
    refine wz_icge (t9 := 16) (p9 := 12) rfl rfl rfl (fun _ => ?_) (fun h9 => absurd (h h1) h9)
    refine wz_iconst (x := nI 0) (p9 := 17) rfl rfl (by decide) ?_
    exact wz_retz rfl rfl (by decide) rfl
theorem g_takesLetter0 {X : Nat × (Nat → Int32)} {d : Nat} {A : CA} {R : RA} {o : Nat → Int64} {m : Int32} (h : ¬ m < 0 → nI A.Mv ≤ m) : px_ev X (d + 2) 26 [.ref 4, .int m] (WW A R o) (some (some (.int (nI 0))), WW A R o, 0, 0) := by
  refine wp_ev (d := d + 1) (by decide) rfl rfl (fun h => by cases h) ?_
  show wp X (d + 1) 26 (0, [.ref 4, .int m], [], WW A R o, 0, 0) _
  refine wz_aload_n (p9 := 1) rfl rfl rfl ?_
  refine wz_get (v := .ref 1) (p9 := 4) rfl rfl rfl rfl rfl ?_
  refine wz_iload_n (p9 := 5) rfl rfl rfl ?_
  refine wz_c1 (p9 := 8) (w1 := WW A R o) (u := .int (nI 0)) (wa_v (N := 4) (i := 1) (As := [.int m]) (rest := []) rfl rfl rfl rfl rfl rfl rfl) rfl ((g_hasMove0 (d := 0) h).up (by omega)) ?_
  refine wn_ifne (t9 := 13) (p9 := 11) rfl rfl rfl (by omega) (fun h9 => by omega) (fun _ => ?_)
  refine wz_iconst (x := nI 0) (p9 := 12) rfl rfl (by decide) ?_
  exact wz_retz rfl rfl (by decide) rfl
theorem g_takesLetter1 {X : Nat × (Nat → Int32)} {d : Nat} {A : CA} {R : RA} {o : Nat → Int64} (T : TV A.P A.Mv A.t A.od) {m : Nat} (hm : m < A.Mv) (h4 : A.rc ≤ 400) : px_ev X (d + 2) 26 [.ref 4, .int (nI m)] (WW A R o) (some (some (.int (nI 1))), WW (CA.s_bu (CA.s_sn (CA.s_pl (CA.s_ps (CA.s_ov (CA.s_rc A (pu (m * 16 + 1 % A.od m) (A.rc, A.bu, A.ov)).1) (pu (m * 16 + 1 % A.od m) (A.rc, A.bu, A.ov)).2.2) A.rc) 1) 2) (pu (m * 16 + 1 % A.od m) (A.rc, A.bu, A.ov)).2.1) R o, 0, 0) := by
  refine wp_ev (d := d + 1) (by decide) rfl rfl (fun h => by cases h) ?_
  show wp X (d + 1) 26 (0, [.ref 4, .int (nI m)], [], WW A R o, 0, 0) _
  have h6 := T.m6
  have h7 := T.o12 (m := m) (by omega)
  have h8 := T.o1 (m := m) (by omega)
  have h9 : 1 % A.od m < A.od m := Nat.mod_lt _ (by omega)
  refine wz_aload_n (p9 := 1) rfl rfl rfl ?_
  refine wz_get (v := .ref 1) (p9 := 4) rfl rfl rfl rfl rfl ?_
  refine wz_iload_n (p9 := 5) rfl rfl rfl ?_
  refine wz_c1 (p9 := 8) (w1 := WW A R o) (u := .int (nI 1)) (wa_v (N := 4) (i := 1) (As := [.int (nI m)]) (rest := []) rfl rfl rfl rfl rfl rfl rfl) rfl ((g_hasMove1 (d := 0) (by omega) (by omega)).up (by omega)) ?_
  refine wn_ifne (t9 := 13) (p9 := 11) rfl rfl rfl (by omega) (fun _ => ?_) (fun h9 => by omega)
  refine wz_aload_n (p9 := 14) rfl rfl rfl ?_
  refine wz_aload_n (p9 := 15) rfl rfl rfl ?_
  refine wz_get (v := .int (nI A.rc)) (p9 := 18) rfl rfl rfl rfl rfl ?_
  refine wz_iconst (x := nI 1) (p9 := 19) rfl rfl (by decide) ?_
  refine wz_c0 (p9 := 22) (w1 := WW (CA.s_pl (CA.s_ps (CA.s_sn A 2) A.rc) 1) R o) (wa_v (N := 21) (i := 4) (As := [.int (nI A.rc), .int (nI 1)]) (rest := []) rfl rfl rfl rfl rfl rfl rfl) rfl ((g_endPart (d := 0) (by decide)).up (by omega)) ?_
  refine wz_aload_n (p9 := 23) rfl rfl rfl ?_
  refine wz_iload_n (p9 := 24) rfl rfl rfl ?_
  refine wz_iconst (x := nI 4) (p9 := 25) rfl rfl (by decide) ?_
  refine wn_shl4 (p9 := 26) rfl rfl ?_
  refine wz_aload_n (p9 := 27) rfl rfl rfl ?_
  refine wz_get (v := .ref 1) (p9 := 30) rfl rfl rfl rfl rfl ?_
  refine wz_iload_n (p9 := 31) rfl rfl rfl ?_
  refine wz_iconst (x := nI 1) (p9 := 32) rfl rfl (by decide) ?_
  refine wz_c1 (p9 := 35) (w1 := WW (CA.s_pl (CA.s_ps (CA.s_sn A 2) A.rc) 1) R o) (u := .int (nI (1 % A.od m))) (wa_v (N := 3) (i := 1) (As := [.int (nI m), .int (nI 1)]) (rest := [.int (nI (m * 16)), .ref 4]) rfl rfl rfl rfl rfl rfl rfl) rfl ((g_less (d := 0) (A := (CA.s_pl (CA.s_ps (CA.s_sn A 2) A.rc) 1)) (R := R) T (by omega) (by omega)).up (by omega)) ?_
  refine wn_or16 (p9 := 36) rfl rfl (by omega) ?_
  refine wz_c0 (p9 := 39) (w1 := WW (CA.s_pl (CA.s_ps (CA.s_sn (CA.s_ov (CA.s_rc (CA.s_bu A ((pu (m * 16 + (1 % A.od m)) (A.rc, A.bu, A.ov)).2.1)) ((pu (m * 16 + (1 % A.od m)) (A.rc, A.bu, A.ov)).1)) ((pu (m * 16 + (1 % A.od m)) (A.rc, A.bu, A.ov)).2.2)) 2) A.rc) 1) R o) (wa_v (N := 20) (i := 4) (As := [.int (nI (m * 16 + (1 % A.od m)))]) (rest := []) rfl rfl rfl rfl rfl rfl rfl) rfl ((g_push (d := 0) (A := (CA.s_pl (CA.s_ps (CA.s_sn A 2) A.rc) 1)) (R := R) rfl h4).up (by omega)) ?_
  refine wz_iconst (x := nI 1) (p9 := 40) rfl rfl (by decide) ?_
  exact wz_retz rfl rfl (by decide) rfl
theorem g_takesOpening1 {X : Nat × (Nat → Int32)} {d : Nat} {A : CA} {R : RA} {o : Nat → Int64} {u : Nat} (h : A.dp < 8) : px_ev X (d + 1) 15 [.ref 4, .int (nI u)] (WW A R o) (some (some (.int (nI 1))), WW (CA.s_ks (CA.s_kd (CA.s_sn (CA.s_dp A (A.dp + 1)) 0) (un A.kd A.dp u)) (un A.ks A.dp A.rc)) R o, 0, 0) := by
  refine wp_ev (d := d + 0) (by decide) rfl rfl (fun h => by cases h) ?_
  show wp X (d + 0) 15 (0, [.ref 4, .int (nI u)], [], WW A R o, 0, 0) _
  refine wz_aload_n (p9 := 1) rfl rfl rfl ?_
  refine wz_get (v := .int (nI A.dp)) (p9 := 4) rfl rfl rfl rfl rfl ?_
  refine wz_bipush (x := nI 8) (p9 := 6) rfl rfl (by decide) ?_
  refine wn_iclt (t9 := 11) (p9 := 9) rfl rfl rfl (by omega) (by omega) (fun _ => ?_) (fun h9 => by omega)
  refine wz_aload_n (p9 := 12) rfl rfl rfl ?_
  refine wz_get (v := .ref 6) (p9 := 15) rfl rfl rfl rfl rfl ?_
  refine wz_aload_n (p9 := 16) rfl rfl rfl ?_
  refine wz_get (v := .int (nI A.dp)) (p9 := 19) rfl rfl rfl rfl rfl ?_
  refine wz_iload_n (p9 := 20) rfl rfl rfl ?_
  refine ws_Akd (f := A.kd) (p9 := 21) rfl rfl rfl (by omega) (A1 := (CA.s_kd A (un A.kd A.dp u))) rfl ?_
  refine wz_aload_n (p9 := 22) rfl rfl rfl ?_
  refine wz_get (v := .ref 7) (p9 := 25) rfl rfl rfl rfl rfl ?_
  refine wz_aload_n (p9 := 26) rfl rfl rfl ?_
  refine wz_get (v := .int (nI A.dp)) (p9 := 29) rfl rfl rfl rfl rfl ?_
  refine wz_aload_n (p9 := 30) rfl rfl rfl ?_
  refine wz_get (v := .int (nI A.rc)) (p9 := 33) rfl rfl rfl rfl rfl ?_
  refine ws_Aks (f := A.ks) (p9 := 34) rfl rfl rfl (by omega) (A1 := (CA.s_ks (CA.s_kd A (un A.kd A.dp u)) (un A.ks A.dp A.rc))) rfl ?_
  refine wz_aload_n (p9 := 35) rfl rfl rfl ?_
  refine wz_dupr (p9 := 36) rfl rfl ?_
  refine wz_get (v := .int (nI A.dp)) (p9 := 39) rfl rfl rfl rfl rfl ?_
  refine wz_iconst (x := nI 1) (p9 := 40) rfl rfl (by decide) ?_
  refine wn_add (p9 := 41) rfl rfl ?_
  refine wp_Adp (x := (A.dp + 1)) (p9 := 44) rfl rfl rfl rfl (A1 := (CA.s_ks (CA.s_kd (CA.s_dp A (A.dp + 1)) (un A.kd A.dp u)) (un A.ks A.dp A.rc))) rfl ?_
  refine wz_aload_n (p9 := 45) rfl rfl rfl ?_
  refine wz_iconst (x := nI 0) (p9 := 46) rfl rfl (by decide) ?_
  refine wp_Asn (x := 0) (p9 := 49) rfl rfl rfl rfl (A1 := (CA.s_ks (CA.s_kd (CA.s_dp (CA.s_sn A 0) (A.dp + 1)) (un A.kd A.dp u)) (un A.ks A.dp A.rc))) rfl ?_
  refine wz_iconst (x := nI 1) (p9 := 50) rfl rfl (by decide) ?_
  exact wz_retz rfl rfl (by decide) rfl
theorem g_takesOpening0 {X : Nat × (Nat → Int32)} {d : Nat} {A : CA} {R : RA} {o : Nat → Int64} {u : Nat} (h : A.dp = 8) : px_ev X (d + 1) 15 [.ref 4, .int (nI u)] (WW A R o) (some (some (.int (nI 0))), WW A R o, 0, 0) := by
  refine wp_ev (d := d + 0) (by decide) rfl rfl (fun h => by cases h) ?_
  show wp X (d + 0) 15 (0, [.ref 4, .int (nI u)], [], WW A R o, 0, 0) _
  refine wz_aload_n (p9 := 1) rfl rfl rfl ?_
  refine wz_get (v := .int (nI A.dp)) (p9 := 4) rfl rfl rfl rfl rfl ?_
  refine wz_bipush (x := nI 8) (p9 := 6) rfl rfl (by decide) ?_
  refine wn_iclt (t9 := 11) (p9 := 9) rfl rfl rfl (by omega) (by omega) (fun h9 => by omega) (fun _ => ?_)
  refine wz_iconst (x := nI 0) (p9 := 10) rfl rfl (by decide) ?_
  exact wz_retz rfl rfl (by decide) rfl
theorem g_takesComma1 {X : Nat × (Nat → Int32)} {d : Nat} {A : CA} {R : RA} {o : Nat → Int64} (h0 : 0 < A.dp) (h8 : A.dp ≤ 8) (h : A.kd (A.dp - 1) = 91) : px_ev X (d + 1) 16 [.ref 4] (WW A R o) (some (some (.int (nI 1))), WW (CA.s_km (CA.s_kd (CA.s_sn A 0) (un A.kd (A.dp - 1) 44)) (un A.km (A.dp - 1) A.rc)) R o, 0, 0) := by
  refine wp_ev (d := d + 0) (by decide) rfl rfl (fun h => by cases h) ?_
  show wp X (d + 0) 16 (0, [.ref 4], [], WW A R o, 0, 0) _
  refine wz_aload_n (p9 := 1) rfl rfl rfl ?_
  refine wz_get (v := .int (nI A.dp)) (p9 := 4) rfl rfl rfl rfl rfl ?_
  refine wn_ifeq (t9 := 23) (p9 := 7) rfl rfl rfl (by omega) (fun h9 => by omega) (fun _ => ?_)
  refine wz_aload_n (p9 := 8) rfl rfl rfl ?_
  refine wz_get (v := .ref 6) (p9 := 11) rfl rfl rfl rfl rfl ?_
  refine wz_aload_n (p9 := 12) rfl rfl rfl ?_
  refine wz_get (v := .int (nI A.dp)) (p9 := 15) rfl rfl rfl rfl rfl ?_
  refine wz_iconst (x := nI 1) (p9 := 16) rfl rfl (by decide) ?_
  refine wn_sub (p9 := 17) rfl rfl (by omega) ?_
  refine wl_Akd (f := A.kd) (p9 := 18) rfl rfl rfl (by omega) ?_
  refine wz_bipush (x := nI 91) (p9 := 20) rfl rfl (by decide) ?_
  refine wn_iceq (t9 := 25) (p9 := 23) rfl rfl rfl (by omega) (by omega) (fun _ => ?_) (fun h9 => by omega)
  refine wz_aload_n (p9 := 26) rfl rfl rfl ?_
  refine wz_get (v := .ref 6) (p9 := 29) rfl rfl rfl rfl rfl ?_
  refine wz_aload_n (p9 := 30) rfl rfl rfl ?_
  refine wz_get (v := .int (nI A.dp)) (p9 := 33) rfl rfl rfl rfl rfl ?_
  refine wz_iconst (x := nI 1) (p9 := 34) rfl rfl (by decide) ?_
  refine wn_sub (p9 := 35) rfl rfl (by omega) ?_
  refine wz_bipush (x := nI 44) (p9 := 37) rfl rfl (by decide) ?_
  refine ws_Akd (f := A.kd) (p9 := 38) rfl rfl rfl (by omega) (A1 := (CA.s_kd A (un A.kd (A.dp - 1) 44))) rfl ?_
  refine wz_aload_n (p9 := 39) rfl rfl rfl ?_
  refine wz_get (v := .ref 8) (p9 := 42) rfl rfl rfl rfl rfl ?_
  refine wz_aload_n (p9 := 43) rfl rfl rfl ?_
  refine wz_get (v := .int (nI A.dp)) (p9 := 46) rfl rfl rfl rfl rfl ?_
  refine wz_iconst (x := nI 1) (p9 := 47) rfl rfl (by decide) ?_
  refine wn_sub (p9 := 48) rfl rfl (by omega) ?_
  refine wz_aload_n (p9 := 49) rfl rfl rfl ?_
  refine wz_get (v := .int (nI A.rc)) (p9 := 52) rfl rfl rfl rfl rfl ?_
  refine ws_Akm (f := A.km) (p9 := 53) rfl rfl rfl (by omega) (A1 := (CA.s_km (CA.s_kd A (un A.kd (A.dp - 1) 44)) (un A.km (A.dp - 1) A.rc))) rfl ?_
  refine wz_aload_n (p9 := 54) rfl rfl rfl ?_
  refine wz_iconst (x := nI 0) (p9 := 55) rfl rfl (by decide) ?_
  refine wp_Asn (x := 0) (p9 := 58) rfl rfl rfl rfl (A1 := (CA.s_km (CA.s_kd (CA.s_sn A 0) (un A.kd (A.dp - 1) 44)) (un A.km (A.dp - 1) A.rc))) rfl ?_
  refine wz_iconst (x := nI 1) (p9 := 59) rfl rfl (by decide) ?_
  exact wz_retz rfl rfl (by decide) rfl
theorem g_takesComma0 {X : Nat × (Nat → Int32)} {d : Nat} {A : CA} {R : RA} {o : Nat → Int64} (h8 : A.dp ≤ 8) (hk : ∀ q, A.kd q < 256) (h : 0 < A.dp → A.kd (A.dp - 1) ≠ 91) : px_ev X (d + 1) 16 [.ref 4] (WW A R o) (some (some (.int (nI 0))), WW A R o, 0, 0) := by
  refine wp_ev (d := d + 0) (by decide) rfl rfl (fun h => by cases h) ?_
  show wp X (d + 0) 16 (0, [.ref 4], [], WW A R o, 0, 0) _
  have h1 := hk (A.dp - 1)
  refine wz_aload_n (p9 := 1) rfl rfl rfl ?_
  refine wz_get (v := .int (nI A.dp)) (p9 := 4) rfl rfl rfl rfl rfl ?_
  refine wn_ifeq (t9 := 23) (p9 := 7) rfl rfl rfl (by omega) (fun h4 => ?_) (fun h4 => ?_)
  · refine wz_iconst (x := nI 0) (p9 := 24) rfl rfl (by decide) ?_
    exact wz_retz rfl rfl (by decide) rfl
  · refine wz_aload_n (p9 := 8) rfl rfl rfl ?_
    refine wz_get (v := .ref 6) (p9 := 11) rfl rfl rfl rfl rfl ?_
    refine wz_aload_n (p9 := 12) rfl rfl rfl ?_
    refine wz_get (v := .int (nI A.dp)) (p9 := 15) rfl rfl rfl rfl rfl ?_
    refine wz_iconst (x := nI 1) (p9 := 16) rfl rfl (by decide) ?_
    refine wn_sub (p9 := 17) rfl rfl (by omega) ?_
    refine wl_Akd (f := A.kd) (p9 := 18) rfl rfl rfl (by omega) ?_
    refine wz_bipush (x := nI 91) (p9 := 20) rfl rfl (by decide) ?_
    refine wn_iceq (t9 := 25) (p9 := 23) rfl rfl rfl (by omega) (by omega) (fun h20 => ?_) (fun h20 => ?_)
    · exact (h (by omega) h20).elim
    · refine wz_iconst (x := nI 0) (p9 := 24) rfl rfl (by decide) ?_
      exact wz_retz rfl rfl (by decide) rfl
theorem g_takesClosing0 {X : Nat × (Nat → Int32)} {d : Nat} {A : CA} {R : RA} {o : Nat → Int64} {u : Nat} (h8 : A.dp ≤ 8) (hu : u < 256) (hk : ∀ q, A.kd q < 256) (h : 0 < A.dp → A.kd (A.dp - 1) ≠ u) : px_ev X (d + 1) 17 [.ref 4, .int (nI u)] (WW A R o) (some (some (.int (nI 0))), WW A R o, 0, 0) := by
  refine wp_ev (d := d + 0) (by decide) rfl rfl (fun h => by cases h) ?_
  show wp X (d + 0) 17 (0, [.ref 4, .int (nI u), .retAddr 0, .retAddr 0, .retAddr 0], [], WW A R o, 0, 0) _
  have h1 := hk (A.dp - 1)
  refine wz_aload_n (p9 := 1) rfl rfl rfl ?_
  refine wz_get (v := .int (nI A.dp)) (p9 := 4) rfl rfl rfl rfl rfl ?_
  refine wn_ifeq (t9 := 22) (p9 := 7) rfl rfl rfl (by omega) (fun h4 => ?_) (fun h4 => ?_)
  · refine wz_iconst (x := nI 0) (p9 := 23) rfl rfl (by decide) ?_
    exact wz_retz rfl rfl (by decide) rfl
  · refine wz_aload_n (p9 := 8) rfl rfl rfl ?_
    refine wz_get (v := .ref 6) (p9 := 11) rfl rfl rfl rfl rfl ?_
    refine wz_aload_n (p9 := 12) rfl rfl rfl ?_
    refine wz_get (v := .int (nI A.dp)) (p9 := 15) rfl rfl rfl rfl rfl ?_
    refine wz_iconst (x := nI 1) (p9 := 16) rfl rfl (by decide) ?_
    refine wn_sub (p9 := 17) rfl rfl (by omega) ?_
    refine wl_Akd (f := A.kd) (p9 := 18) rfl rfl rfl (by omega) ?_
    refine wz_iload_n (p9 := 19) rfl rfl rfl ?_
    refine wn_iceq (t9 := 24) (p9 := 22) rfl rfl rfl (by omega) (by omega) (fun h19 => ?_) (fun h19 => ?_)
    · exact (h (by omega) h19).elim
    · refine wz_iconst (x := nI 0) (p9 := 23) rfl rfl (by decide) ?_
      exact wz_retz rfl rfl (by decide) rfl
theorem g_takesClosingR {X : Nat × (Nat → Int32)} {d : Nat} {A : CA} {R : RA} {o : Nat → Int64} (h0 : 0 < A.dp) (h8 : A.dp ≤ 8) (h : A.kd (A.dp - 1) = 40) : px_ev X (d + 2) 17 [.ref 4, .int (nI 40)] (WW A R o) (some (some (.int (nI 1))), WW (CA.s_sn (CA.s_pl (CA.s_ps (CA.s_dp A (A.dp - 1)) (A.ks (A.dp - 1))) 0) 2) R o, 0, 0) := by
  refine wp_ev (d := d + 1) (by decide) rfl rfl (fun h => by cases h) ?_
  show wp X (d + 1) 17 (0, [.ref 4, .int (nI 40), .retAddr 0, .retAddr 0, .retAddr 0], [], WW A R o, 0, 0) _
  refine wz_aload_n (p9 := 1) rfl rfl rfl ?_
  refine wz_get (v := .int (nI A.dp)) (p9 := 4) rfl rfl rfl rfl rfl ?_
  refine wn_ifeq (t9 := 22) (p9 := 7) rfl rfl rfl (by omega) (fun h9 => by omega) (fun _ => ?_)
  refine wz_aload_n (p9 := 8) rfl rfl rfl ?_
  refine wz_get (v := .ref 6) (p9 := 11) rfl rfl rfl rfl rfl ?_
  refine wz_aload_n (p9 := 12) rfl rfl rfl ?_
  refine wz_get (v := .int (nI A.dp)) (p9 := 15) rfl rfl rfl rfl rfl ?_
  refine wz_iconst (x := nI 1) (p9 := 16) rfl rfl (by decide) ?_
  refine wn_sub (p9 := 17) rfl rfl (by omega) ?_
  refine wl_Akd (f := A.kd) (p9 := 18) rfl rfl rfl (by omega) ?_
  refine wz_iload_n (p9 := 19) rfl rfl rfl ?_
  refine wn_iceq (t9 := 24) (p9 := 22) rfl rfl rfl (by omega) (by omega) (fun _ => ?_) (fun h9 => by omega)
  refine wz_aload_n (p9 := 25) rfl rfl rfl ?_
  refine wz_dupr (p9 := 26) rfl rfl ?_
  refine wz_get (v := .int (nI A.dp)) (p9 := 29) rfl rfl rfl rfl rfl ?_
  refine wz_iconst (x := nI 1) (p9 := 30) rfl rfl (by decide) ?_
  refine wn_sub (p9 := 31) rfl rfl (by omega) ?_
  refine wp_Adp (x := (A.dp - 1)) (p9 := 34) rfl rfl rfl rfl (A1 := (CA.s_dp A (A.dp - 1))) rfl ?_
  refine wz_aload_n (p9 := 35) rfl rfl rfl ?_
  refine wz_get (v := .ref 7) (p9 := 38) rfl rfl rfl rfl rfl ?_
  refine wz_aload_n (p9 := 39) rfl rfl rfl ?_
  refine wz_get (v := .int (nI (A.dp - 1))) (p9 := 42) rfl rfl rfl rfl rfl ?_
  refine wl_Aks (f := A.ks) (p9 := 43) rfl rfl rfl (by omega) ?_
  refine wz_istore_n (l9 := [.ref 4, .int (nI 40), .int (nI (A.ks (A.dp - 1))), .retAddr 0, .retAddr 0]) (p9 := 44) rfl rfl rfl rfl ?_
  refine wz_iload_n (p9 := 45) rfl rfl rfl ?_
  refine wz_bipush (x := nI 44) (p9 := 47) rfl rfl (by decide) ?_
  refine wn_icne (t9 := 79) (p9 := 50) rfl rfl rfl (by omega) (by omega) (fun _ => ?_) (fun h9 => by omega)
  refine wz_aload_n (p9 := 80) rfl rfl rfl ?_
  refine wz_iload_n (p9 := 81) rfl rfl rfl ?_
  refine wz_iconst (x := nI 0) (p9 := 82) rfl rfl (by decide) ?_
  refine wz_c0 (p9 := 85) (w1 := WW (CA.s_dp (CA.s_pl (CA.s_ps (CA.s_sn A 2) (A.ks (A.dp - 1))) 0) (A.dp - 1)) R o) (wa_v (N := 21) (i := 4) (As := [.int (nI (A.ks (A.dp - 1))), .int (nI 0)]) (rest := []) rfl rfl rfl rfl rfl rfl rfl) rfl ((g_endPart (d := 0) (A := (CA.s_dp A (A.dp - 1))) (R := R) (by decide)).up (by omega)) ?_
  refine wz_iconst (x := nI 1) (p9 := 86) rfl rfl (by decide) ?_
  exact wz_retz rfl rfl (by decide) rfl
theorem pt_ge {od : Nat → Nat} {f : Nat} : ∀ (j : Nat) (b : Nat × (Nat → Nat) × Nat), b.1 ≤ (pt od f j b).1
  | 0, b => Nat.le_refl _
  | j + 1, b => Nat.le_trans (pu_le (x := tw od (b.2.1 (f + j)))) (pt_ge j _)
theorem BV_pt {od : Nat → Nat} (ho : ∀ m, m < 6 → 1 ≤ od m ∧ od m ≤ 12) {f : Nat} : ∀ (j : Nat) (b : Nat × (Nat → Nat) × Nat), BV od b → f + j ≤ b.1 → BV od (pt od f j b)
  | 0, b, h, _ => h
  | j + 1, b, h, hj => BV_pt ho j _ (BV_pu h (ro_tw ho (h.2.1 _ (by omega)))) (by have := pu_le (b := b) (x := tw od (b.2.1 (f + j))); omega)
theorem TV.oo {P Mv : Nat} {t od : Nat → Nat} (T : TV P Mv t od) : ∀ m, m < 6 → 1 ≤ od m ∧ od m ≤ 12 := fun m h => ⟨T.o1 h, T.o12 h⟩
theorem g_takesClosingC {X : Nat × (Nat → Int32)} {d : Nat} {A : CA} {R : RA} {o : Nat → Int64} (T : TV A.P A.Mv A.t A.od) (h0 : 0 < A.dp) (h8 : A.dp ≤ 8) (h : A.kd (A.dp - 1) = 44) (hb : BV A.od (A.rc, A.bu, A.ov)) (hs : A.ks (A.dp - 1) ≤ A.km (A.dp - 1)) (hm : A.km (A.dp - 1) ≤ A.rc) : px_ev X (d + 4) 17 [.ref 4, .int (nI 44)] (WW A R o) (some (some (.int (nI 1))), WW (CA.s_bu (CA.s_sn (CA.s_pl (CA.s_ps (CA.s_ov (CA.s_rc (CA.s_dp A (A.dp - 1)) (pt A.od (A.km (A.dp - 1)) (A.rc - A.km (A.dp - 1)) (pt A.od (A.ks (A.dp - 1)) (A.km (A.dp - 1) - A.ks (A.dp - 1)) (A.rc, A.bu, A.ov))).1) (pt A.od (A.km (A.dp - 1)) (A.rc - A.km (A.dp - 1)) (pt A.od (A.ks (A.dp - 1)) (A.km (A.dp - 1) - A.ks (A.dp - 1)) (A.rc, A.bu, A.ov))).2.2) (A.ks (A.dp - 1))) 0) 2) (pt A.od (A.km (A.dp - 1)) (A.rc - A.km (A.dp - 1)) (pt A.od (A.ks (A.dp - 1)) (A.km (A.dp - 1) - A.ks (A.dp - 1)) (A.rc, A.bu, A.ov))).2.1) R o, 0, 0) := by
  refine wp_ev (d := d + 3) (by decide) rfl rfl (fun h => by cases h) ?_
  show wp X (d + 3) 17 (0, [.ref 4, .int (nI 44), .retAddr 0, .retAddr 0, .retAddr 0], [], WW A R o, 0, 0) _
  refine wz_aload_n (p9 := 1) rfl rfl rfl ?_
  refine wz_get (v := .int (nI A.dp)) (p9 := 4) rfl rfl rfl rfl rfl ?_
  refine wn_ifeq (t9 := 22) (p9 := 7) rfl rfl rfl (by omega) (fun h9 => by omega) (fun _ => ?_)
  refine wz_aload_n (p9 := 8) rfl rfl rfl ?_
  refine wz_get (v := .ref 6) (p9 := 11) rfl rfl rfl rfl rfl ?_
  refine wz_aload_n (p9 := 12) rfl rfl rfl ?_
  refine wz_get (v := .int (nI A.dp)) (p9 := 15) rfl rfl rfl rfl rfl ?_
  refine wz_iconst (x := nI 1) (p9 := 16) rfl rfl (by decide) ?_
  refine wn_sub (p9 := 17) rfl rfl (by omega) ?_
  refine wl_Akd (f := A.kd) (p9 := 18) rfl rfl rfl (by omega) ?_
  refine wz_iload_n (p9 := 19) rfl rfl rfl ?_
  refine wn_iceq (t9 := 24) (p9 := 22) rfl rfl rfl (by omega) (by omega) (fun _ => ?_) (fun h9 => by omega)
  refine wz_aload_n (p9 := 25) rfl rfl rfl ?_
  refine wz_dupr (p9 := 26) rfl rfl ?_
  refine wz_get (v := .int (nI A.dp)) (p9 := 29) rfl rfl rfl rfl rfl ?_
  refine wz_iconst (x := nI 1) (p9 := 30) rfl rfl (by decide) ?_
  refine wn_sub (p9 := 31) rfl rfl (by omega) ?_
  refine wp_Adp (x := (A.dp - 1)) (p9 := 34) rfl rfl rfl rfl (A1 := (CA.s_dp A (A.dp - 1))) rfl ?_
  refine wz_aload_n (p9 := 35) rfl rfl rfl ?_
  refine wz_get (v := .ref 7) (p9 := 38) rfl rfl rfl rfl rfl ?_
  refine wz_aload_n (p9 := 39) rfl rfl rfl ?_
  refine wz_get (v := .int (nI (A.dp - 1))) (p9 := 42) rfl rfl rfl rfl rfl ?_
  refine wl_Aks (f := A.ks) (p9 := 43) rfl rfl rfl (by omega) ?_
  refine wz_istore_n (l9 := [.ref 4, .int (nI 44), .int (nI (A.ks (A.dp - 1))), .retAddr 0, .retAddr 0]) (p9 := 44) rfl rfl rfl rfl ?_
  refine wz_iload_n (p9 := 45) rfl rfl rfl ?_
  refine wz_bipush (x := nI 44) (p9 := 47) rfl rfl (by decide) ?_
  refine wn_icne (t9 := 79) (p9 := 50) rfl rfl rfl (by omega) (by omega) (fun h9 => by omega) (fun _ => ?_)
  refine wz_aload_n (p9 := 51) rfl rfl rfl ?_
  refine wz_get (v := .ref 8) (p9 := 54) rfl rfl rfl rfl rfl ?_
  refine wz_aload_n (p9 := 55) rfl rfl rfl ?_
  refine wz_get (v := .int (nI (A.dp - 1))) (p9 := 58) rfl rfl rfl rfl rfl ?_
  refine wl_Akm (f := A.km) (p9 := 59) rfl rfl rfl (by omega) ?_
  refine wz_istore_n (l9 := [.ref 4, .int (nI 44), .int (nI (A.ks (A.dp - 1))), .int (nI (A.km (A.dp - 1))), .retAddr 0]) (p9 := 60) rfl rfl rfl rfl ?_
  refine wz_aload_n (p9 := 61) rfl rfl rfl ?_
  refine wz_get (v := .int (nI A.rc)) (p9 := 64) rfl rfl rfl rfl rfl ?_
  refine wz_istore (l9 := [.ref 4, .int (nI 44), .int (nI (A.ks (A.dp - 1))), .int (nI (A.km (A.dp - 1))), .int (nI A.rc)]) (p9 := 66) rfl rfl rfl rfl ?_
  refine wz_aload_n (p9 := 67) rfl rfl rfl ?_
  refine wz_iload_n (p9 := 68) rfl rfl rfl ?_
  refine wz_iload_n (p9 := 69) rfl rfl rfl ?_
  refine wz_c0 (p9 := 72) (w1 := WW (CA.s_dp (CA.s_ov (CA.s_rc (CA.s_bu A ((pt A.od (A.ks (A.dp - 1)) ((A.km (A.dp - 1)) - (A.ks (A.dp - 1))) (A.rc, A.bu, A.ov)).2.1)) ((pt A.od (A.ks (A.dp - 1)) ((A.km (A.dp - 1)) - (A.ks (A.dp - 1))) (A.rc, A.bu, A.ov)).1)) ((pt A.od (A.ks (A.dp - 1)) ((A.km (A.dp - 1)) - (A.ks (A.dp - 1))) (A.rc, A.bu, A.ov)).2.2)) (A.dp - 1)) R o) (wa_v (N := 18) (i := 4) (As := [.int (nI (A.ks (A.dp - 1))), .int (nI (A.km (A.dp - 1)))]) (rest := []) rfl rfl rfl rfl rfl rfl rfl) rfl ((g_pushTurned (d := 0) (A := (CA.s_dp A (A.dp - 1))) (R := R) T rfl hb hs hm).up (by omega)) ?_
  refine wz_aload_n (p9 := 73) rfl rfl rfl ?_
  refine wz_iload_n (p9 := 74) rfl rfl rfl ?_
  refine wz_iload (p9 := 76) rfl rfl rfl ?_
  refine wz_c0 (p9 := 79) (w1 := WW (CA.s_dp (CA.s_ov (CA.s_rc (CA.s_bu A ((pt A.od (A.km (A.dp - 1)) (A.rc - (A.km (A.dp - 1))) (pt A.od (A.ks (A.dp - 1)) (A.km (A.dp - 1) - A.ks (A.dp - 1)) (A.rc, A.bu, A.ov))).2.1)) ((pt A.od (A.km (A.dp - 1)) (A.rc - (A.km (A.dp - 1))) (pt A.od (A.ks (A.dp - 1)) (A.km (A.dp - 1) - A.ks (A.dp - 1)) (A.rc, A.bu, A.ov))).1)) ((pt A.od (A.km (A.dp - 1)) (A.rc - (A.km (A.dp - 1))) (pt A.od (A.ks (A.dp - 1)) (A.km (A.dp - 1) - A.ks (A.dp - 1)) (A.rc, A.bu, A.ov))).2.2)) (A.dp - 1)) R o) (wa_v (N := 18) (i := 4) (As := [.int (nI (A.km (A.dp - 1))), .int (nI A.rc)]) (rest := []) rfl rfl rfl rfl rfl rfl rfl) rfl ((g_pushTurned (d := 0) (A := (CA.s_dp (CA.s_ov (CA.s_rc (CA.s_bu A ((pt A.od (A.ks (A.dp - 1)) ((A.km (A.dp - 1)) - (A.ks (A.dp - 1))) (A.rc, A.bu, A.ov)).2.1)) ((pt A.od (A.ks (A.dp - 1)) ((A.km (A.dp - 1)) - (A.ks (A.dp - 1))) (A.rc, A.bu, A.ov)).1)) ((pt A.od (A.ks (A.dp - 1)) ((A.km (A.dp - 1)) - (A.ks (A.dp - 1))) (A.rc, A.bu, A.ov)).2.2)) (A.dp - 1))) (R := R) T rfl (BV_pt T.oo _ _ hb (by show _ ≤ A.rc; omega)) hm (pt_ge (od := A.od) (f := A.ks (A.dp - 1)) (A.km (A.dp - 1) - A.ks (A.dp - 1)) (A.rc, A.bu, A.ov))).up (by omega)) ?_
  refine wz_aload_n (p9 := 80) rfl rfl rfl ?_
  refine wz_iload_n (p9 := 81) rfl rfl rfl ?_
  refine wz_iconst (x := nI 0) (p9 := 82) rfl rfl (by decide) ?_
  refine wz_c0 (p9 := 85) (w1 := WW (CA.s_dp (CA.s_pl (CA.s_ps (CA.s_sn (CA.s_ov (CA.s_rc (CA.s_bu A ((pt A.od (A.km (A.dp - 1)) (A.rc - (A.km (A.dp - 1))) (pt A.od (A.ks (A.dp - 1)) (A.km (A.dp - 1) - A.ks (A.dp - 1)) (A.rc, A.bu, A.ov))).2.1)) ((pt A.od (A.km (A.dp - 1)) (A.rc - (A.km (A.dp - 1))) (pt A.od (A.ks (A.dp - 1)) (A.km (A.dp - 1) - A.ks (A.dp - 1)) (A.rc, A.bu, A.ov))).1)) ((pt A.od (A.km (A.dp - 1)) (A.rc - (A.km (A.dp - 1))) (pt A.od (A.ks (A.dp - 1)) (A.km (A.dp - 1) - A.ks (A.dp - 1)) (A.rc, A.bu, A.ov))).2.2)) 2) (A.ks (A.dp - 1))) 0) (A.dp - 1)) R o) (wa_v (N := 21) (i := 4) (As := [.int (nI (A.ks (A.dp - 1))), .int (nI 0)]) (rest := []) rfl rfl rfl rfl rfl rfl rfl) rfl ((g_endPart (d := 0) (A := (CA.s_dp (CA.s_ov (CA.s_rc (CA.s_bu A ((pt A.od (A.km (A.dp - 1)) (A.rc - (A.km (A.dp - 1))) (pt A.od (A.ks (A.dp - 1)) (A.km (A.dp - 1) - A.ks (A.dp - 1)) (A.rc, A.bu, A.ov))).2.1)) ((pt A.od (A.km (A.dp - 1)) (A.rc - (A.km (A.dp - 1))) (pt A.od (A.ks (A.dp - 1)) (A.km (A.dp - 1) - A.ks (A.dp - 1)) (A.rc, A.bu, A.ov))).1)) ((pt A.od (A.km (A.dp - 1)) (A.rc - (A.km (A.dp - 1))) (pt A.od (A.ks (A.dp - 1)) (A.km (A.dp - 1) - A.ks (A.dp - 1)) (A.rc, A.bu, A.ov))).2.2)) (A.dp - 1))) (R := R) (by decide)).up (by omega)) ?_
  refine wz_iconst (x := nI 1) (p9 := 86) rfl rfl (by decide) ?_
  exact wz_retz rfl rfl (by decide) rfl
