/-! CLASS AND REFERENCE SIDE BY SIDE: text, act, exchange (wip/whole/gen/mkba.py) -/
theorem bo_1 {f : Nat → Nat} {j k i : Nat} (h : i < bn (f k % 16)) : bo f (j + 1) k i = some (br (f k) i) := if_pos h
theorem bo_2 {f : Nat → Nat} {j k i : Nat} (h : ¬ i < bn (f k % 16)) : bo f (j + 1) k i = bo f j (k + 1) (i - bn (f k % 16)) := if_neg h
theorem bn_p (x : Nat) : 0 < bn x := by
  unfold bn
  split
  · decide
  · split <;> decide
theorem bn_1 {x : Nat} (h : x < 2) : bn x = 1 := if_pos h
theorem bn_2 {x : Nat} (h : ¬ x < 2) (h2 : x < 10) : bn x = 2 := (if_neg h).trans (if_pos h2)
theorem bn_3 {x : Nat} (h2 : 10 ≤ x) : bn x = 3 := (if_neg (by omega)).trans (if_neg (by omega))
theorem tx_n {x : Int32} {c : Nat} (h : x < 0) (hc : c < 1000) : x - nI c ≠ 0 := by
  intro e
  have h2 : x = nI c := by
    have h3 := Int32.sub_add_cancel x (nI c)
    rw [e, Int32.zero_add] at h3
    exact h3.symm
  rw [h2] at h
  exact absurd ((nI_ltI (a := c) (b := 0) (by omega) (by decide)).mp h) (by omega)
theorem tx_d {x : Int32} {c : Nat} : x - nI c + (-1) = x - nI (c + 1) := by
  rw [show nI (c + 1) = nI c + 1 from (nI_add c 1).symm, Int32.sub_eq_add_neg, Int32.sub_eq_add_neg, Int32.neg_add, Int32.sub_eq_add_neg, Int32.add_assoc]
theorem tx_n1 {x : Int32} {c : Nat} (h : x < 0) (hc : c < 900) : x - nI c + (-1) ≠ 0 := by rw [tx_d]; exact tx_n h (by omega)
theorem tx_n2 {x : Int32} {c : Nat} (h : x < 0) (hc : c < 800) : x - nI c + (-1) + (-1) ≠ 0 := by rw [tx_d]; exact tx_n1 (c := c + 1) h (by omega)
theorem l_mText {X : Nat × (Nat → Int32)} {d : Nat} {A : CA} {R : RA} {o : Nat → Int64} {w : Nat} (hw : w < 30) (hl : R.ln w ≤ 40) (hr : ∀ q, R.rr q < 96) {x2 : Value} {k0 z0 : Nat} {Q : px_Z → Prop} : ∀ (j k i : Nat), k + j = R.ln w → i < 2147483648 → ∀ v5, Q (some (some (.int (oi (bo (fun k => R.rr (w * 40 + k)) j k i)))), WW A R o, k0, z0) → wp X d 121 (27, [.ref 26, .int (nI w), x2, .int (nI i), .int (nI k), v5], [], WW A R o, k0, z0) Q
  | 0, k, i, hj, hi => by
    intro v5 kk
    obtain rfl : k = R.ln w := by omega
    refine wz_iload (p9 := 29) rfl rfl rfl ?_
    refine wz_aload_n (p9 := 30) rfl rfl rfl ?_
    refine wz_get (v := .ref 30) (p9 := 33) rfl rfl rfl rfl rfl ?_
    refine wz_iload_n (p9 := 34) rfl rfl rfl ?_
    refine wl_Rln (f := R.ln) (p9 := 35) rfl rfl rfl (by omega) ?_
    refine wn_icge (t9 := 126) (p9 := 38) rfl rfl rfl (by omega) (by omega) (fun _ => ?_) (fun h9 => by omega)
    refine wz_iconst (x := (-1)) (p9 := 127) rfl rfl (by decide) ?_
    exact wz_reti rfl rfl kk
  | j + 1, k, i, hj, hi => by
    intro v5 kk
    have hr9 := hr (w * 40 + k)
    have hrw : R.rr (40 * w + k) = R.rr (w * 40 + k) := by rw [Nat.mul_comm 40 w]
    refine wz_iload (p9 := 29) rfl rfl rfl ?_
    refine wz_aload_n (p9 := 30) rfl rfl rfl ?_
    refine wz_get (v := .ref 30) (p9 := 33) rfl rfl rfl rfl rfl ?_
    refine wz_iload_n (p9 := 34) rfl rfl rfl ?_
    refine wl_Rln (f := R.ln) (p9 := 35) rfl rfl rfl (by omega) ?_
    refine wn_icge (t9 := 126) (p9 := 38) rfl rfl rfl (by omega) (by omega) (fun h9 => by omega) (fun _ => ?_)
    refine wz_aload_n (p9 := 39) rfl rfl rfl ?_
    refine wz_get (v := .ref 31) (p9 := 42) rfl rfl rfl rfl rfl ?_
    refine wz_bipush (x := nI 40) (p9 := 44) rfl rfl (by decide) ?_
    refine wz_iload_n (p9 := 45) rfl rfl rfl ?_
    refine wn_mul (p9 := 46) rfl rfl ?_
    refine wz_iload (p9 := 48) rfl rfl rfl ?_
    refine wn_add (p9 := 49) rfl rfl ?_
    refine wl_Rrr (f := R.rr) (p9 := 50) rfl rfl rfl (by omega) ?_
    refine wz_bipush (x := nI 16) (p9 := 52) rfl rfl (by decide) ?_
    refine wn_rem (p9 := 53) rfl rfl (by omega) (by omega) (by omega) ?_
    refine wz_istore (l9 := [.ref 26, .int (nI w), x2, .int (nI i), .int (nI k), .int (nI ((R.rr ((40 * w) + k)) % 16))]) (p9 := 55) rfl rfl rfl rfl ?_
    refine wz_iload_n (p9 := 56) rfl rfl rfl ?_
    refine wn_ifne (t9 := 78) (p9 := 59) rfl rfl rfl (by omega) (fun h56 => ?_) (fun h56 => ?_)
    · refine wn_dec (l9 := [.ref 26, .int (nI w), x2, .int (nI (i - 1)), .int (nI k), .int (nI ((R.rr ((40 * w) + k)) % 16))]) (p9 := 81) rfl rfl rfl (by omega) rfl ?_
      refine wz_iload (p9 := 83) rfl rfl rfl ?_
      refine wz_bipush (x := nI 9) (p9 := 85) rfl rfl (by decide) ?_
      refine wn_icle (t9 := 98) (p9 := 88) rfl rfl rfl (by omega) (by omega) (fun h85 => ?_) (fun h85 => ?_)
      · refine wz_iload (p9 := 100) rfl rfl rfl ?_
        refine wz_iconst (x := nI 1) (p9 := 101) rfl rfl (by decide) ?_
        refine wn_icle (t9 := 120) (p9 := 104) rfl rfl rfl (by omega) (by omega) (fun h101 => ?_) (fun h101 => ?_)
        · refine wn_inc (b := 1) (l9 := [.ref 26, .int (nI w), x2, .int (nI (i - 1)), .int (nI (k + 1)), .int (nI ((R.rr ((40 * w) + k)) % 16))]) (p9 := 123) rfl rfl rfl (by decide) rfl ?_
          refine wz_goto (p9 := 27) rfl rfl ?_
          have e8 : bn (R.rr (w * 40 + k) % 16) = 1 := bn_1 (by omega)
          have e9 : bo (fun k => R.rr (w * 40 + k)) (j + 1) k i = bo (fun k => R.rr (w * 40 + k)) j (k + 1) (i - 1) := (bo_2 (by show ¬ i < bn (R.rr (w * 40 + k) % 16); rw [e8]; omega)).trans (congrArg (bo (fun k => R.rr (w * 40 + k)) j (k + 1)) (by show i - bn (R.rr (w * 40 + k) % 16) = _; omega))
          rw [e9] at kk
          exact l_mText hw hl hr j (k + 1) (i - 1) (by omega) (by omega) _ kk
        · refine wz_iload_n (p9 := 105) rfl rfl rfl ?_
          refine wn_ifne (t9 := 117) (p9 := 108) rfl rfl rfl (by omega) (fun h105 => ?_) (fun h105 => ?_)
          · refine wn_dec (l9 := [.ref 26, .int (nI w), x2, .int (nI ((i - 1) - 1)), .int (nI k), .int (nI ((R.rr ((40 * w) + k)) % 16))]) (p9 := 120) rfl rfl rfl (by omega) rfl ?_
            refine wn_inc (b := 1) (l9 := [.ref 26, .int (nI w), x2, .int (nI ((i - 1) - 1)), .int (nI (k + 1)), .int (nI ((R.rr ((40 * w) + k)) % 16))]) (p9 := 123) rfl rfl rfl (by decide) rfl ?_
            refine wz_goto (p9 := 27) rfl rfl ?_
            have e8 : bn (R.rr (w * 40 + k) % 16) = 2 := bn_2 (by omega) (by omega)
            have e9 : bo (fun k => R.rr (w * 40 + k)) (j + 1) k i = bo (fun k => R.rr (w * 40 + k)) j (k + 1) ((i - 1) - 1) := (bo_2 (by show ¬ i < bn (R.rr (w * 40 + k) % 16); rw [e8]; omega)).trans (congrArg (bo (fun k => R.rr (w * 40 + k)) j (k + 1)) (by show i - bn (R.rr (w * 40 + k) % 16) = _; omega))
            rw [e9] at kk
            exact l_mText hw hl hr j (k + 1) ((i - 1) - 1) (by omega) (by omega) _ kk
          · refine wz_bipush (x := nI 48) (p9 := 110) rfl rfl (by decide) ?_
            refine wz_iload (p9 := 112) rfl rfl rfl ?_
            refine wz_bipush (x := nI 10) (p9 := 114) rfl rfl (by decide) ?_
            refine wn_rem (p9 := 115) rfl rfl (by omega) (by omega) (by omega) ?_
            refine wn_add (p9 := 116) rfl rfl ?_
            have e9 : bo (fun k => R.rr (w * 40 + k)) (j + 1) k i = some (48 + R.rr (w * 40 + k) % 16 % 10) := by rw [bo_1 (by show i < bn (R.rr (w * 40 + k) % 16); rw [bn_2 (by omega) (by omega)]; omega), show i = 1 by omega]; show some (br (R.rr (w * 40 + k)) 1) = _; unfold br; rw [if_neg (by decide), if_neg (by omega)]
            rw [e9] at kk
            rw [show 40 * w = w * 40 from Nat.mul_comm _ _]
            exact wz_reti rfl rfl kk
      · refine wz_iload_n (p9 := 89) rfl rfl rfl ?_
        refine wn_ifne (t9 := 95) (p9 := 92) rfl rfl rfl (by omega) (fun h89 => ?_) (fun h89 => ?_)
        · refine wn_dec (l9 := [.ref 26, .int (nI w), x2, .int (nI ((i - 1) - 1)), .int (nI k), .int (nI ((R.rr ((40 * w) + k)) % 16))]) (p9 := 98) rfl rfl rfl (by omega) rfl ?_
          refine wz_iload (p9 := 100) rfl rfl rfl ?_
          refine wz_iconst (x := nI 1) (p9 := 101) rfl rfl (by decide) ?_
          refine wn_icle (t9 := 120) (p9 := 104) rfl rfl rfl (by omega) (by omega) (fun h101 => ?_) (fun h101 => ?_)
          · refine wn_inc (b := 1) (l9 := [.ref 26, .int (nI w), x2, .int (nI ((i - 1) - 1)), .int (nI (k + 1)), .int (nI ((R.rr ((40 * w) + k)) % 16))]) (p9 := 123) rfl rfl rfl (by decide) rfl ?_
            refine wz_goto (p9 := 27) rfl rfl ?_
            exfalso; omega
          · refine wz_iload_n (p9 := 105) rfl rfl rfl ?_
            refine wn_ifne (t9 := 117) (p9 := 108) rfl rfl rfl (by omega) (fun h105 => ?_) (fun h105 => ?_)
            · refine wn_dec (l9 := [.ref 26, .int (nI w), x2, .int (nI (((i - 1) - 1) - 1)), .int (nI k), .int (nI ((R.rr ((40 * w) + k)) % 16))]) (p9 := 120) rfl rfl rfl (by omega) rfl ?_
              refine wn_inc (b := 1) (l9 := [.ref 26, .int (nI w), x2, .int (nI (((i - 1) - 1) - 1)), .int (nI (k + 1)), .int (nI ((R.rr ((40 * w) + k)) % 16))]) (p9 := 123) rfl rfl rfl (by decide) rfl ?_
              refine wz_goto (p9 := 27) rfl rfl ?_
              have e8 : bn (R.rr (w * 40 + k) % 16) = 3 := bn_3 (by omega)
              have e9 : bo (fun k => R.rr (w * 40 + k)) (j + 1) k i = bo (fun k => R.rr (w * 40 + k)) j (k + 1) (((i - 1) - 1) - 1) := (bo_2 (by show ¬ i < bn (R.rr (w * 40 + k) % 16); rw [e8]; omega)).trans (congrArg (bo (fun k => R.rr (w * 40 + k)) j (k + 1)) (by show i - bn (R.rr (w * 40 + k) % 16) = _; omega))
              rw [e9] at kk
              exact l_mText hw hl hr j (k + 1) (((i - 1) - 1) - 1) (by omega) (by omega) _ kk
            · refine wz_bipush (x := nI 48) (p9 := 110) rfl rfl (by decide) ?_
              refine wz_iload (p9 := 112) rfl rfl rfl ?_
              refine wz_bipush (x := nI 10) (p9 := 114) rfl rfl (by decide) ?_
              refine wn_rem (p9 := 115) rfl rfl (by omega) (by omega) (by omega) ?_
              refine wn_add (p9 := 116) rfl rfl ?_
              have e9 : bo (fun k => R.rr (w * 40 + k)) (j + 1) k i = some (48 + R.rr (w * 40 + k) % 16 % 10) := by rw [bo_1 (by show i < bn (R.rr (w * 40 + k) % 16); rw [bn_3 (by omega)]; omega), show i = 2 by omega]; show some (br (R.rr (w * 40 + k)) 2) = _; unfold br; rw [if_neg (by decide), if_neg (by omega)]
              rw [e9] at kk
              rw [show 40 * w = w * 40 from Nat.mul_comm _ _]
              exact wz_reti rfl rfl kk
        · refine wz_bipush (x := nI 49) (p9 := 94) rfl rfl (by decide) ?_
          have e9 : bo (fun k => R.rr (w * 40 + k)) (j + 1) k i = some 49 := by rw [bo_1 (by show i < bn (R.rr (w * 40 + k) % 16); rw [bn_3 (by omega)]; omega), show i = 1 by omega]; show some (br (R.rr (w * 40 + k)) 1) = some 49; unfold br; rw [if_neg (by decide), if_pos ⟨rfl, by omega⟩]; congr 1; omega
          rw [e9] at kk
          exact wz_reti rfl rfl kk
    · refine wz_bipush (x := nI 97) (p9 := 61) rfl rfl (by decide) ?_
      refine wz_aload_n (p9 := 62) rfl rfl rfl ?_
      refine wz_get (v := .ref 31) (p9 := 65) rfl rfl rfl rfl rfl ?_
      refine wz_bipush (x := nI 40) (p9 := 67) rfl rfl (by decide) ?_
      refine wz_iload_n (p9 := 68) rfl rfl rfl ?_
      refine wn_mul (p9 := 69) rfl rfl ?_
      refine wz_iload (p9 := 71) rfl rfl rfl ?_
      refine wn_add (p9 := 72) rfl rfl ?_
      refine wl_Rrr (f := R.rr) (p9 := 73) rfl rfl rfl (by omega) ?_
      refine wz_bipush (x := nI 16) (p9 := 75) rfl rfl (by decide) ?_
      refine wn_div (p9 := 76) rfl rfl (by omega) (by omega) (by omega) ?_
      refine wn_add (p9 := 77) rfl rfl ?_
      have e9 : bo (fun k => R.rr (w * 40 + k)) (j + 1) k i = some (97 + R.rr (w * 40 + k) / 16) := by rw [bo_1 (by have := bn_p (R.rr (w * 40 + k) % 16); show i < bn (R.rr (w * 40 + k) % 16); omega), show i = 0 by omega]; rfl
      rw [e9] at kk
      rw [show 40 * w = w * 40 from Nat.mul_comm _ _]
      exact wz_reti rfl rfl kk
theorem l_mTextN {X : Nat × (Nat → Int32)} {d : Nat} {A : CA} {R : RA} {o : Nat → Int64} {w : Nat} (hw : w < 30) (hl : R.ln w ≤ 40) (hr : ∀ q, R.rr q < 96) {x2 : Value} {k0 z0 : Nat} {Q : px_Z → Prop} {x : Int32} (hx : x < 0) : ∀ (j k c : Nat), k + j = R.ln w → c ≤ 3 * k → ∀ v5, Q (some (some (.int (-1))), WW A R o, k0, z0) → wp X d 121 (27, [.ref 26, .int (nI w), x2, .int (x - nI c), .int (nI k), v5], [], WW A R o, k0, z0) Q
  | 0, k, c, hj, hc => by
    intro v5 kk
    obtain rfl : k = R.ln w := by omega
    refine wz_iload (p9 := 29) rfl rfl rfl ?_
    refine wz_aload_n (p9 := 30) rfl rfl rfl ?_
    refine wz_get (v := .ref 30) (p9 := 33) rfl rfl rfl rfl rfl ?_
    refine wz_iload_n (p9 := 34) rfl rfl rfl ?_
    refine wl_Rln (f := R.ln) (p9 := 35) rfl rfl rfl (by omega) ?_
    refine wn_icge (t9 := 126) (p9 := 38) rfl rfl rfl (by omega) (by omega) (fun _ => ?_) (fun h9 => by omega)
    refine wz_iconst (x := (-1)) (p9 := 127) rfl rfl (by decide) ?_
    exact wz_reti rfl rfl kk
  | j + 1, k, c, hj, hc => by
    intro v5 kk
    have hr9 := hr (w * 40 + k)
    have hrw : R.rr (40 * w + k) = R.rr (w * 40 + k) := by rw [Nat.mul_comm 40 w]
    refine wz_iload (p9 := 29) rfl rfl rfl ?_
    refine wz_aload_n (p9 := 30) rfl rfl rfl ?_
    refine wz_get (v := .ref 30) (p9 := 33) rfl rfl rfl rfl rfl ?_
    refine wz_iload_n (p9 := 34) rfl rfl rfl ?_
    refine wl_Rln (f := R.ln) (p9 := 35) rfl rfl rfl (by omega) ?_
    refine wn_icge (t9 := 126) (p9 := 38) rfl rfl rfl (by omega) (by omega) (fun h9 => by omega) (fun _ => ?_)
    refine wz_aload_n (p9 := 39) rfl rfl rfl ?_
    refine wz_get (v := .ref 31) (p9 := 42) rfl rfl rfl rfl rfl ?_
    refine wz_bipush (x := nI 40) (p9 := 44) rfl rfl (by decide) ?_
    refine wz_iload_n (p9 := 45) rfl rfl rfl ?_
    refine wn_mul (p9 := 46) rfl rfl ?_
    refine wz_iload (p9 := 48) rfl rfl rfl ?_
    refine wn_add (p9 := 49) rfl rfl ?_
    refine wl_Rrr (f := R.rr) (p9 := 50) rfl rfl rfl (by omega) ?_
    refine wz_bipush (x := nI 16) (p9 := 52) rfl rfl (by decide) ?_
    refine wn_rem (p9 := 53) rfl rfl (by omega) (by omega) (by omega) ?_
    refine wz_istore (l9 := [.ref 26, .int (nI w), x2, .int (x - nI c), .int (nI k), .int (nI ((R.rr ((40 * w) + k)) % 16))]) (p9 := 55) rfl rfl rfl rfl ?_
    refine wz_iload_n (p9 := 56) rfl rfl rfl ?_
    refine wz_ifne (t9 := 78) (p9 := 59) rfl rfl rfl (fun _ => ?_) (fun h9 => absurd h9 (tx_n hx (by omega)))
    refine wz_iinc (y := ((x - nI c) + (-1))) (l9 := [.ref 26, .int (nI w), x2, .int ((x - nI c) + (-1)), .int (nI k), .int (nI ((R.rr ((40 * w) + k)) % 16))]) (p9 := 81) rfl rfl rfl rfl rfl ?_
    refine wz_iload (p9 := 83) rfl rfl rfl ?_
    refine wz_bipush (x := nI 9) (p9 := 85) rfl rfl (by decide) ?_
    refine wn_icle (t9 := 98) (p9 := 88) rfl rfl rfl (by omega) (by omega) (fun h85 => ?_) (fun h85 => ?_)
    · refine wz_iload (p9 := 100) rfl rfl rfl ?_
      refine wz_iconst (x := nI 1) (p9 := 101) rfl rfl (by decide) ?_
      refine wn_icle (t9 := 120) (p9 := 104) rfl rfl rfl (by omega) (by omega) (fun h101 => ?_) (fun h101 => ?_)
      · refine wn_inc (b := 1) (l9 := [.ref 26, .int (nI w), x2, .int ((x - nI c) + (-1)), .int (nI (k + 1)), .int (nI ((R.rr ((40 * w) + k)) % 16))]) (p9 := 123) rfl rfl rfl (by decide) rfl ?_
        refine wz_goto (p9 := 27) rfl rfl ?_
        rw [tx_d]
        exact l_mTextN hw hl hr hx j (k + 1) (c + 1) (by omega) (by omega) _ kk
      · refine wz_iload_n (p9 := 105) rfl rfl rfl ?_
        refine wz_ifne (t9 := 117) (p9 := 108) rfl rfl rfl (fun _ => ?_) (fun h9 => absurd h9 (by simp only [tx_d]; exact tx_n hx (by omega)))
        refine wz_iinc (y := (((x - nI c) + (-1)) + (-1))) (l9 := [.ref 26, .int (nI w), x2, .int (((x - nI c) + (-1)) + (-1)), .int (nI k), .int (nI ((R.rr ((40 * w) + k)) % 16))]) (p9 := 120) rfl rfl rfl rfl rfl ?_
        refine wn_inc (b := 1) (l9 := [.ref 26, .int (nI w), x2, .int (((x - nI c) + (-1)) + (-1)), .int (nI (k + 1)), .int (nI ((R.rr ((40 * w) + k)) % 16))]) (p9 := 123) rfl rfl rfl (by decide) rfl ?_
        refine wz_goto (p9 := 27) rfl rfl ?_
        rw [tx_d, tx_d]
        exact l_mTextN hw hl hr hx j (k + 1) (c + 1 + 1) (by omega) (by omega) _ kk
    · refine wz_iload_n (p9 := 89) rfl rfl rfl ?_
      refine wz_ifne (t9 := 95) (p9 := 92) rfl rfl rfl (fun _ => ?_) (fun h9 => absurd h9 (tx_n1 hx (by omega)))
      refine wz_iinc (y := (((x - nI c) + (-1)) + (-1))) (l9 := [.ref 26, .int (nI w), x2, .int (((x - nI c) + (-1)) + (-1)), .int (nI k), .int (nI ((R.rr ((40 * w) + k)) % 16))]) (p9 := 98) rfl rfl rfl rfl rfl ?_
      refine wz_iload (p9 := 100) rfl rfl rfl ?_
      refine wz_iconst (x := nI 1) (p9 := 101) rfl rfl (by decide) ?_
      refine wn_icle (t9 := 120) (p9 := 104) rfl rfl rfl (by omega) (by omega) (fun h101 => ?_) (fun h101 => ?_)
      · refine wn_inc (b := 1) (l9 := [.ref 26, .int (nI w), x2, .int (((x - nI c) + (-1)) + (-1)), .int (nI (k + 1)), .int (nI ((R.rr ((40 * w) + k)) % 16))]) (p9 := 123) rfl rfl rfl (by decide) rfl ?_
        refine wz_goto (p9 := 27) rfl rfl ?_
        exfalso; omega
      · refine wz_iload_n (p9 := 105) rfl rfl rfl ?_
        refine wz_ifne (t9 := 117) (p9 := 108) rfl rfl rfl (fun _ => ?_) (fun h9 => absurd h9 (by simp only [tx_d]; exact tx_n hx (by omega)))
        refine wz_iinc (y := ((((x - nI c) + (-1)) + (-1)) + (-1))) (l9 := [.ref 26, .int (nI w), x2, .int ((((x - nI c) + (-1)) + (-1)) + (-1)), .int (nI k), .int (nI ((R.rr ((40 * w) + k)) % 16))]) (p9 := 120) rfl rfl rfl rfl rfl ?_
        refine wn_inc (b := 1) (l9 := [.ref 26, .int (nI w), x2, .int ((((x - nI c) + (-1)) + (-1)) + (-1)), .int (nI (k + 1)), .int (nI ((R.rr ((40 * w) + k)) % 16))]) (p9 := 123) rfl rfl rfl (by decide) rfl ?_
        refine wz_goto (p9 := 27) rfl rfl ?_
        rw [tx_d, tx_d, tx_d]
        exact l_mTextN hw hl hr hx j (k + 1) (c + 1 + 1 + 1) (by omega) (by omega) _ kk
theorem g_mText1 {X : Nat × (Nat → Int32)} {d : Nat} {A : CA} {R : RA} {o : Nat → Int64} (V : WV R.wc R.ln R.rr (fun _ => 0)) {w i : Nat} (hw : w < R.wc) (hi : i < 2147483648) : px_ev X (d + 2) 121 [.ref 26, .int (nI w), .int (nI i)] (WW A R o) (some (some (.int (oi (bo (fun k => R.rr (w * 40 + k)) (R.ln w) 0 i)))), WW A (RA.s_th R 0) o, 0, 0) := by
  have hwc := V.wc
  refine wp_ev (d := d + 1) (by decide) rfl rfl (fun h => by cases h) ?_
  show wp X (d + 1) 121 (0, [.ref 26, .int (nI w), .int (nI i), .retAddr 0, .retAddr 0, .retAddr 0], [], WW A R o, 0, 0) _
  refine wz_aload_n (p9 := 1) rfl rfl rfl ?_
  refine wz_aload_n (p9 := 2) rfl rfl rfl ?_
  refine wz_iload_n (p9 := 3) rfl rfl rfl ?_
  refine wz_c1 (p9 := 6) (w1 := WW A R o) (u := .int (nI 1)) (wa_v (N := 117) (i := 26) (As := [.int (nI w)]) (rest := [.ref 26]) rfl rfl rfl rfl rfl rfl rfl) rfl ((g_mWord1 (d := 0) (by omega) (by omega)).up (Nat.le_trans (m := 1) (by decide) (Nat.le_add_left 1 d))) ?_
  refine wn_ifne (t9 := 13) (p9 := 9) rfl rfl rfl (by omega) (fun _ => ?_) (fun h9 => by omega)
  refine wz_iconst (x := nI 0) (p9 := 14) rfl rfl (by decide) ?_
  refine wz_c1 (p9 := 17) (w1 := WW A (RA.s_th R 0) o) (u := .int (nI 0)) (wa_v (N := 101) (i := 26) (As := [.int (nI 0)]) (rest := []) rfl rfl rfl rfl rfl rfl rfl) rfl ((g_throws0 (d := 0) ).up (Nat.le_trans (m := 1) (by decide) (Nat.le_add_left 1 d))) ?_
  refine wn_ifeq (t9 := 22) (p9 := 20) rfl rfl rfl (by omega) (fun _ => ?_) (fun h9 => by omega)
  refine wz_iload_n (p9 := 23) rfl rfl rfl ?_
  refine wz_istore_n (l9 := [.ref 26, .int (nI w), .int (nI i), .int (nI i), .retAddr 0, .retAddr 0]) (p9 := 24) rfl rfl rfl rfl ?_
  refine wz_iconst (x := nI 0) (p9 := 25) rfl rfl (by decide) ?_
  refine wz_istore (l9 := [.ref 26, .int (nI w), .int (nI i), .int (nI i), .int (nI 0), .retAddr 0]) (p9 := 27) rfl rfl rfl rfl ?_
  exact l_mText (R := RA.s_th R 0) (Q := fun q => q = (some (some (.int (oi (bo (fun k => R.rr (w * 40 + k)) (R.ln w) 0 i)))), WW A (RA.s_th R 0) o, 0, 0)) (by have := V.wc; omega) (V.rl w) V.rr (R.ln w) 0 i (Nat.zero_add _) hi _ rfl
theorem g_mTextN {X : Nat × (Nat → Int32)} {d : Nat} {A : CA} {R : RA} {o : Nat → Int64} (V : WV R.wc R.ln R.rr (fun _ => 0)) {w : Nat} {x : Int32} (hw : w < R.wc) (hx : x < 0) : px_ev X (d + 2) 121 [.ref 26, .int (nI w), .int x] (WW A R o) (some (some (.int (-1))), WW A (RA.s_th R 0) o, 0, 0) := by
  have hwc := V.wc
  refine wp_ev (d := d + 1) (by decide) rfl rfl (fun h => by cases h) ?_
  show wp X (d + 1) 121 (0, [.ref 26, .int (nI w), .int x, .retAddr 0, .retAddr 0, .retAddr 0], [], WW A R o, 0, 0) _
  refine wz_aload_n (p9 := 1) rfl rfl rfl ?_
  refine wz_aload_n (p9 := 2) rfl rfl rfl ?_
  refine wz_iload_n (p9 := 3) rfl rfl rfl ?_
  refine wz_c1 (p9 := 6) (w1 := WW A R o) (u := .int (nI 1)) (wa_v (N := 117) (i := 26) (As := [.int (nI w)]) (rest := [.ref 26]) rfl rfl rfl rfl rfl rfl rfl) rfl ((g_mWord1 (d := 0) (by omega) (by omega)).up (Nat.le_trans (m := 1) (by decide) (Nat.le_add_left 1 d))) ?_
  refine wn_ifne (t9 := 13) (p9 := 9) rfl rfl rfl (by omega) (fun _ => ?_) (fun h9 => by omega)
  refine wz_iconst (x := nI 0) (p9 := 14) rfl rfl (by decide) ?_
  refine wz_c1 (p9 := 17) (w1 := WW A (RA.s_th R 0) o) (u := .int (nI 0)) (wa_v (N := 101) (i := 26) (As := [.int (nI 0)]) (rest := []) rfl rfl rfl rfl rfl rfl rfl) rfl ((g_throws0 (d := 0) ).up (Nat.le_trans (m := 1) (by decide) (Nat.le_add_left 1 d))) ?_
  refine wn_ifeq (t9 := 22) (p9 := 20) rfl rfl rfl (by omega) (fun _ => ?_) (fun h9 => by omega)
  refine wz_iload_n (p9 := 23) rfl rfl rfl ?_
  refine wz_istore_n (l9 := [.ref 26, .int (nI w), .int x, .int x, .retAddr 0, .retAddr 0]) (p9 := 24) rfl rfl rfl rfl ?_
  refine wz_iconst (x := nI 0) (p9 := 25) rfl rfl (by decide) ?_
  refine wz_istore (l9 := [.ref 26, .int (nI w), .int x, .int x, .int (nI 0), .retAddr 0]) (p9 := 27) rfl rfl rfl rfl ?_
  have h9 := l_mTextN (X := X) (d := d + 1) (A := A) (R := RA.s_th R 0) (o := o) (w := w) (x2 := .int x) (k0 := 0) (z0 := 0) (Q := fun q => q = (some (some (.int (-1))), WW A (RA.s_th R 0) o, 0, 0)) (by have := V.wc; omega) (V.rl w) V.rr hx (R.ln w) 0 0 (Nat.zero_add _) (by omega) (.retAddr 0) rfl
  rw [show x - nI 0 = x from Int32.sub_zero x] at h9
  exact h9
theorem g_mTextX {X : Nat × (Nat → Int32)} {d : Nat} {A : CA} {R : RA} {o : Nat → Int64} {w x : Int32} (h : inb w R.wc = 0) : px_ev X (d + 2) 121 [.ref 26, .int w, .int x] (WW A R o) (some (some (.int (nI 0))), WW A (RA.s_th R 1) o, 0, 0) := by
  refine wp_ev (d := d + 1) (by decide) rfl rfl (fun h => by cases h) ?_
  show wp X (d + 1) 121 (0, [.ref 26, .int w, .int x, .retAddr 0, .retAddr 0, .retAddr 0], [], WW A R o, 0, 0) _
  refine wz_aload_n (p9 := 1) rfl rfl rfl ?_
  refine wz_aload_n (p9 := 2) rfl rfl rfl ?_
  refine wz_iload_n (p9 := 3) rfl rfl rfl ?_
  refine wz_c1 (p9 := 6) (w1 := WW A R o) (u := .int (nI (inb w R.wc))) (wa_v (N := 117) (i := 26) (As := [.int w]) (rest := [.ref 26]) rfl rfl rfl rfl rfl rfl rfl) rfl ((g_mWordR (d := 0) ).up (Nat.le_trans (m := 1) (by decide) (Nat.le_add_left 1 d))) ?_
  refine wn_ifne (t9 := 13) (p9 := 9) rfl rfl rfl (by omega) (fun h9 => absurd h h9) (fun _ => ?_)
  refine wz_iconst (x := nI 1) (p9 := 10) rfl rfl (by decide) ?_
  refine wz_goto (p9 := 14) rfl rfl ?_
  refine wz_c1 (p9 := 17) (w1 := WW A (RA.s_th R 1) o) (u := .int (nI 1)) (wa_v (N := 101) (i := 26) (As := [.int (nI 1)]) (rest := []) rfl rfl rfl rfl rfl rfl rfl) rfl ((g_throws1 (d := 0) ).up (Nat.le_trans (m := 1) (by decide) (Nat.le_add_left 1 d))) ?_
  refine wn_ifeq (t9 := 22) (p9 := 20) rfl rfl rfl (by omega) (fun h9 => by omega) (fun _ => ?_)
  refine wz_iconst (x := nI 0) (p9 := 21) rfl rfl (by decide) ?_
  exact wz_reti rfl rfl rfl
theorem j_text {X : Nat × (Nat → Int32)} {d : Nat} {A : CA} {R : RA} {o : Nat → Int64} (H : RE A R) {x : Int32} {y : Int32} : JT X d 96 [.ref 0, .int x, .int y] 121 [.ref 26, .int x, .int y] A R o := by
  have p7 := H.T.p7
  have m6 := H.T.m6
  have hwc := H.V.wc
  have hsc := H.S.sc
  rcases ix1 x A.wc (by have := H.V.wc; omega) with hx | ⟨x9, hx, rfl⟩
  · refine Or.inl ⟨?_, fun o2 => ⟨_, _, (g_mTextX (d := 0) (A := A) (R := R) (o := o2) (by rw [H.wc]; exact inb_bad hx)).up (Nat.le_trans (m := 10) (by decide) (Nat.le_add_left 10 d)), rfl, ⟨H.T, H.p, H.m, H.t, H.V, H.wi, H.wc, H.ln, H.rr, H.S, H.sP, H.uw, H.sc, H.go, H.us, H.ud, H.bc, H.tx, H.sz, H.te, H.kd, H.pl, H.fl, H.sl, H.se, H.fc, H.st, H.nw, H.dc, H.tl, H.dn⟩⟩⟩
    refine wp_ev (d := d + 9) (by decide) rfl rfl (fun _ => by decide) ?_
    show wp X (d + 9) 96 (0, [.ref 0, .int x, .int y], [], WW A R o, 0, 0) _
    refine wz_aload_n (p9 := 1) rfl rfl rfl ?_
    refine wz_iload_n (p9 := 2) rfl rfl rfl ?_
    exact wz_cx (wa_v (N := 84) (i := 0) (As := [.int x]) (rest := []) rfl rfl rfl rfl rfl rfl rfl) (by decide) ((g_cx84 (d := 0) hx).up (Nat.le_trans (m := 9) (by decide) (Nat.le_add_left 9 d))) rfl rfl
  by_cases hy : y < 0
  · refine Or.inr ⟨A, -1, ?_, fun o2 => ⟨_, (g_mTextN (d := 0) (A := A) (R := R) (o := o2) H.VR (show x9 < R.wc by rw [H.wc]; exact hx) hy).up (Nat.le_trans (m := 10) (by decide) (Nat.le_add_left 10 d)), rfl, ⟨H.T, H.p, H.m, H.t, H.V, H.wi, H.wc, H.ln, H.rr, H.S, H.sP, H.uw, H.sc, H.go, H.us, H.ud, H.bc, H.tx, H.sz, H.te, H.kd, H.pl, H.fl, H.sl, H.se, H.fc, H.st, H.nw, H.dc, H.tl, H.dn⟩⟩⟩
    refine wp_ev (d := d + 9) (by decide) rfl rfl (fun h => by cases h) ?_
    show wp X (d + 9) 96 (0, [.ref 0, .int (nI x9), .int y], [], WW A R o, 0, 0) _
    refine wz_aload_n (p9 := 1) rfl rfl rfl ?_
    refine wz_iload_n (p9 := 2) rfl rfl rfl ?_
    refine wz_c0 (p9 := 5) (w1 := WW A R o) (wa_v (N := 84) (i := 0) (As := [.int (nI x9)]) (rest := []) rfl rfl rfl rfl rfl rfl rfl) rfl ((g_ck84 (d := 0) (by omega) (by omega)).up (Nat.le_trans (m := 9) (by decide) (Nat.le_add_left 9 d))) ?_
    refine wz_aload_n (p9 := 6) rfl rfl rfl ?_
    refine wz_get (v := .ref 10) (p9 := 9) rfl rfl rfl rfl rfl ?_
    refine wz_iload_n (p9 := 10) rfl rfl rfl ?_
    refine wz_iload_n (p9 := 11) rfl rfl rfl ?_
    refine wz_c1 (p9 := 14) (w1 := WW A R o) (u := .int (-1)) (wa_v (N := 43) (i := 10) (As := [.int (nI x9), .int y]) (rest := []) rfl rfl rfl rfl rfl rfl rfl) rfl ((g_byteOfN (d := 0) (by omega) (H.V.rl x9) hy).up (by omega)) ?_
    exact wz_reti rfl rfl rfl
  · obtain ⟨y9, hy9, rfl⟩ := nI_of hy
    refine Or.inr ⟨A, oi (bo (fun k => A.rr (x9 * 40 + k)) (A.rl x9) 0 y9), ?_, fun o2 => ⟨RA.s_th R 0, (by have h := g_mText1 (X := X) (d := 0) (A := A) (R := R) (o := o2) H.VR (show x9 < R.wc by rw [H.wc]; exact hx) hy9; rw [H.ln, H.rr] at h; exact h.up (Nat.le_trans (m := 10) (by decide) (Nat.le_add_left 10 d))), rfl, ⟨H.T, H.p, H.m, H.t, H.V, H.wi, H.wc, H.ln, H.rr, H.S, H.sP, H.uw, H.sc, H.go, H.us, H.ud, H.bc, H.tx, H.sz, H.te, H.kd, H.pl, H.fl, H.sl, H.se, H.fc, H.st, H.nw, H.dc, H.tl, H.dn⟩⟩⟩
    refine wp_ev (d := d + 9) (by decide) rfl rfl (fun h => by cases h) ?_
    show wp X (d + 9) 96 (0, [.ref 0, .int (nI x9), .int (nI y9)], [], WW A R o, 0, 0) _
    refine wz_aload_n (p9 := 1) rfl rfl rfl ?_
    refine wz_iload_n (p9 := 2) rfl rfl rfl ?_
    refine wz_c0 (p9 := 5) (w1 := WW A R o) (wa_v (N := 84) (i := 0) (As := [.int (nI x9)]) (rest := []) rfl rfl rfl rfl rfl rfl rfl) rfl ((g_ck84 (d := 0) (by omega) (by omega)).up (Nat.le_trans (m := 9) (by decide) (Nat.le_add_left 9 d))) ?_
    refine wz_aload_n (p9 := 6) rfl rfl rfl ?_
    refine wz_get (v := .ref 10) (p9 := 9) rfl rfl rfl rfl rfl ?_
    refine wz_iload_n (p9 := 10) rfl rfl rfl ?_
    refine wz_iload_n (p9 := 11) rfl rfl rfl ?_
    refine wz_c1 (p9 := 14) (w1 := WW A R o) (u := .int (oi (bo (fun k => A.rr (x9 * 40 + k)) (A.rl x9) 0 y9))) (wa_v (N := 43) (i := 10) (As := [.int (nI x9), .int (nI y9)]) (rest := []) rfl rfl rfl rfl rfl rfl rfl) rfl ((g_byteOf (d := 0) (by omega) (H.V.rl x9) (fun k _ => H.V.rr _) hy9).up (by omega)) ?_
    exact wz_reti rfl rfl rfl
/-- a call without an answer that may throw -/
def JV (X : Nat × (Nat → Int32)) (d N : Nat) (ca : List Value) (M : Nat) (ma : List Value) (A : CA) (R : RA) (o : Nat → Int64) : Prop :=
  (px_ev X (d + 10) N ca (WW A R o) (none, WW A R o, 1, 6) ∧ ∀ o2, ∃ R2 : RA, px_ev X (d + 10) M ma (WW A R o2) (some none, WW A R2 o2, 0, 0) ∧ R2.th = 1 ∧ RE A R2) ∨
  (∃ A2 : CA, px_ev X (d + 10) N ca (WW A R o) (some none, WW A2 R o, 0, 0) ∧ ∀ o2, ∃ R2 : RA, px_ev X (d + 10) M ma (WW A2 R o2) (some none, WW A2 R2 o2, 0, 0) ∧ R2.th = 0 ∧ RE A2 R2)
theorem g_mAct1 {X : Nat × (Nat → Int32)} {d : Nat} {A : CA} {R : RA} {o : Nat → Int64} {od : Nat → Nat} (T : TV R.P R.Mv R.t od) (V : WV R.wc R.ln R.rr (fun _ => 0)) {x : Nat} (hx : x < R.wc) : px_ev X (d + 4) 122 [.ref 26, .int (nI x)] (WW A R o) (some none, WW A (RA.s_nw (RA.s_th (RA.s_ot (RA.s_s R (cz (sct (im R.t (fun k => R.rr (x * 40 + k)) (R.ln x)) (cz R.nw R.s 7) R.ot R.P) (cz R.nw R.s 7) R.P)) (sct (im R.t (fun k => R.rr (x * 40 + k)) (R.ln x)) (cz R.nw R.s 7) R.ot R.P)) 0) (cz (cz (sct (im R.t (fun k => R.rr (x * 40 + k)) (R.ln x)) (cz R.nw R.s 7) R.ot R.P) (cz R.nw R.s 7) R.P) R.nw 7)) o, 0, 0) := by
  have hwc := V.wc
  refine wp_ev (d := d + 3) (by decide) rfl rfl (fun h => by cases h) ?_
  show wp X (d + 3) 122 (0, [.ref 26, .int (nI x)], [], WW A R o, 0, 0) _
  refine wz_aload_n (p9 := 1) rfl rfl rfl ?_
  refine wz_aload_n (p9 := 2) rfl rfl rfl ?_
  refine wz_iload_n (p9 := 3) rfl rfl rfl ?_
  refine wz_c1 (p9 := 6) (w1 := WW A R o) (u := .int (nI 1)) (wa_v (N := 117) (i := 26) (As := [.int (nI x)]) (rest := [.ref 26]) rfl rfl rfl rfl rfl rfl rfl) rfl ((g_mWord1 (d := 0) (by omega) (by omega)).up (Nat.le_trans (m := 3) (by decide) (Nat.le_add_left 3 d))) ?_
  refine wn_ifne (t9 := 13) (p9 := 9) rfl rfl rfl (by omega) (fun _ => ?_) (fun h9 => by omega)
  refine wz_iconst (x := nI 0) (p9 := 14) rfl rfl (by decide) ?_
  refine wz_c1 (p9 := 17) (w1 := WW A (RA.s_th R 0) o) (u := .int (nI 0)) (wa_v (N := 101) (i := 26) (As := [.int (nI 0)]) (rest := []) rfl rfl rfl rfl rfl rfl rfl) rfl ((g_throws0 (d := 0) ).up (Nat.le_trans (m := 3) (by decide) (Nat.le_add_left 3 d))) ?_
  refine wn_ifeq (t9 := 21) (p9 := 20) rfl rfl rfl (by omega) (fun _ => ?_) (fun h9 => by omega)
  refine wz_aload_n (p9 := 22) rfl rfl rfl ?_
  refine wz_c0 (p9 := 25) (w1 := WW A (RA.s_th (RA.s_s R (cz R.nw R.s 7)) 0) o) (wa_v (N := 123) (i := 26) (As := []) (rest := []) rfl rfl rfl rfl rfl rfl rfl) rfl ((g_takeNow (d := 0) (A := A) (R := (RA.s_th R 0)) ).up (Nat.le_trans (m := 3) (by decide) (Nat.le_add_left 3 d))) ?_
  refine wz_aload_n (p9 := 26) rfl rfl rfl ?_
  refine wz_iload_n (p9 := 27) rfl rfl rfl ?_
  refine wz_c0 (p9 := 30) (w1 := WW A (RA.s_th (RA.s_ot (RA.s_s R (cz (sct (im R.t (fun k => R.rr (x * 40 + k)) (R.ln x)) (cz R.nw R.s 7) R.ot R.P) (cz R.nw R.s 7) R.P)) (sct (im R.t (fun k => R.rr (x * 40 + k)) (R.ln x)) (cz R.nw R.s 7) R.ot R.P)) 0) o) (wa_v (N := 124) (i := 26) (As := [.int (nI x)]) (rest := []) rfl rfl rfl rfl rfl rfl rfl) rfl ((g_mDone (d := 0) (A := A) (R := (RA.s_th (RA.s_s R (cz R.nw R.s 7)) 0)) T V (by have := V.wc; omega)).up (Nat.le_trans (m := 3) (by decide) (Nat.le_add_left 3 d))) ?_
  refine wz_aload_n (p9 := 31) rfl rfl rfl ?_
  refine wz_c0 (p9 := 34) (w1 := WW A (RA.s_nw (RA.s_th (RA.s_ot (RA.s_s R (cz (sct (im R.t (fun k => R.rr (x * 40 + k)) (R.ln x)) (cz R.nw R.s 7) R.ot R.P) (cz R.nw R.s 7) R.P)) (sct (im R.t (fun k => R.rr (x * 40 + k)) (R.ln x)) (cz R.nw R.s 7) R.ot R.P)) 0) (cz (cz (sct (im R.t (fun k => R.rr (x * 40 + k)) (R.ln x)) (cz R.nw R.s 7) R.ot R.P) (cz R.nw R.s 7) R.P) R.nw 7)) o) (wa_v (N := 125) (i := 26) (As := []) (rest := []) rfl rfl rfl rfl rfl rfl rfl) rfl ((g_putNow (d := 0) (A := A) (R := (RA.s_th (RA.s_ot (RA.s_s R (cz (sct (im R.t (fun k => R.rr (x * 40 + k)) (R.ln x)) (cz R.nw R.s 7) R.ot R.P) (cz R.nw R.s 7) R.P)) (sct (im R.t (fun k => R.rr (x * 40 + k)) (R.ln x)) (cz R.nw R.s 7) R.ot R.P)) 0)) ).up (Nat.le_trans (m := 3) (by decide) (Nat.le_add_left 3 d))) ?_
  exact wz_retv rfl rfl rfl
theorem g_mActX {X : Nat × (Nat → Int32)} {d : Nat} {A : CA} {R : RA} {o : Nat → Int64} {w : Int32} (h : inb w R.wc = 0) : px_ev X (d + 2) 122 [.ref 26, .int w] (WW A R o) (some none, WW A (RA.s_th R 1) o, 0, 0) := by
  refine wp_ev (d := d + 1) (by decide) rfl rfl (fun h => by cases h) ?_
  show wp X (d + 1) 122 (0, [.ref 26, .int w], [], WW A R o, 0, 0) _
  refine wz_aload_n (p9 := 1) rfl rfl rfl ?_
  refine wz_aload_n (p9 := 2) rfl rfl rfl ?_
  refine wz_iload_n (p9 := 3) rfl rfl rfl ?_
  refine wz_c1 (p9 := 6) (w1 := WW A R o) (u := .int (nI (inb w R.wc))) (wa_v (N := 117) (i := 26) (As := [.int w]) (rest := [.ref 26]) rfl rfl rfl rfl rfl rfl rfl) rfl ((g_mWordR (d := 0) ).up (Nat.le_trans (m := 1) (by decide) (Nat.le_add_left 1 d))) ?_
  refine wn_ifne (t9 := 13) (p9 := 9) rfl rfl rfl (by omega) (fun h9 => absurd h h9) (fun _ => ?_)
  refine wz_iconst (x := nI 1) (p9 := 10) rfl rfl (by decide) ?_
  refine wz_goto (p9 := 14) rfl rfl ?_
  refine wz_c1 (p9 := 17) (w1 := WW A (RA.s_th R 1) o) (u := .int (nI 1)) (wa_v (N := 101) (i := 26) (As := [.int (nI 1)]) (rest := []) rfl rfl rfl rfl rfl rfl rfl) rfl ((g_throws1 (d := 0) ).up (Nat.le_trans (m := 1) (by decide) (Nat.le_add_left 1 d))) ?_
  refine wn_ifeq (t9 := 21) (p9 := 20) rfl rfl rfl (by omega) (fun h9 => by omega) (fun _ => ?_)
  exact wz_retv rfl rfl rfl
theorem SD_cz {P : Nat} {f g : Nat → Nat} {x : Nat} (h7 : P ≤ 7) (h : SD P f x) : SD P (cz f g 7) x := fun p hp => by
  unfold cz
  rw [if_pos (by omega)]
  exact h p hp
theorem RE.imE {A : CA} {R : RA} (H : RE A R) (w : Nat) : im R.t (fun k => R.rr (w * 40 + k)) (R.ln w) = im A.t (fun k => A.rr (w * 40 + k)) (A.rl w) := by rw [H.t, H.rr, H.ln]
theorem RE.trw {A : CA} {R : RA} (H : RE A R) {w : Nat} (hw : w < A.wc) (x : Nat) : tr (fun q => A.wg (w * 7 + q)) x A.P = tr (im A.t (fun k => A.rr (w * 40 + k)) (A.rl w)) x A.P := tr_congr A.P (fun q hq => H.wi w hw q hq)
theorem j_act {X : Nat × (Nat → Int32)} {d : Nat} {A : CA} {R : RA} {o : Nat → Int64} (H : RE A R) {x : Int32} : JV X d 87 [.ref 0, .int x] 122 [.ref 26, .int x] A R o := by
  have p7 := H.T.p7
  have hwc := H.V.wc
  have hst := pm_lt p7 H.st
  rcases ix1 x A.wc (by omega) with hx | ⟨x9, hx, rfl⟩
  · refine Or.inl ⟨?_, fun o2 => ⟨_, (g_mActX (d := 0) (A := A) (R := R) (o := o2) (by rw [H.wc]; exact inb_bad hx)).up (Nat.le_trans (m := 10) (by decide) (Nat.le_add_left 10 d)), rfl, ⟨H.T, H.p, H.m, H.t, H.V, H.wi, H.wc, H.ln, H.rr, H.S, H.sP, H.uw, H.sc, H.go, H.us, H.ud, H.bc, H.tx, H.sz, H.te, H.kd, H.pl, H.fl, H.sl, H.se, H.fc, H.st, H.nw, H.dc, H.tl, H.dn⟩⟩⟩
    refine wp_ev (d := d + 9) (by decide) rfl rfl (fun _ => by decide) ?_
    show wp X (d + 9) 87 (0, [.ref 0, .int x], [], WW A R o, 0, 0) _
    refine wz_aload_n (p9 := 1) rfl rfl rfl ?_
    refine wz_iload_n (p9 := 2) rfl rfl rfl ?_
    exact wz_cx (wa_v (N := 84) (i := 0) (As := [.int x]) (rest := []) rfl rfl rfl rfl rfl rfl rfl) (by decide) ((g_cx84 (d := 0) hx).up (Nat.le_trans (m := 9) (by decide) (Nat.le_add_left 9 d))) rfl rfl
  · have hR : x9 < R.wc := by rw [H.wc]; exact hx
    have hpf := H.wpf hx
    have hnw : SD A.P ((RA.s_nw (RA.s_th (RA.s_ot (RA.s_s R (cz (sct (im R.t (fun k => R.rr (x9 * 40 + k)) (R.ln x9)) (cz R.nw R.s 7) R.ot R.P) (cz R.nw R.s 7) R.P)) (sct (im R.t (fun k => R.rr (x9 * 40 + k)) (R.ln x9)) (cz R.nw R.s 7) R.ot R.P)) 0) (cz (cz (sct (im R.t (fun k => R.rr (x9 * 40 + k)) (R.ln x9)) (cz R.nw R.s 7) R.ot R.P) (cz R.nw R.s 7) R.P) R.nw 7))).nw (tr (fun q => A.wg (x9 * 7 + q)) A.st A.P) := by
      rw [H.trw hx]
      refine SD_cz p7 ?_
      show SD A.P (cz (sct (im R.t (fun k => R.rr (x9 * 40 + k)) (R.ln x9)) (cz R.nw R.s 7) R.ot R.P) (cz R.nw R.s 7) R.P) _
      rw [H.imE x9, H.p]
      exact SD_done (im_pf H.T (fun k => H.V.rr _) _) (SD_cz p7 H.nw)
    refine Or.inr ⟨(CA.s_st A (tr (fun q => A.wg (x9 * 7 + q)) A.st A.P)), ?_, fun o2 => ⟨_, (g_mAct1 (d := 0) (A := (CA.s_st A (tr (fun q => A.wg (x9 * 7 + q)) A.st A.P))) (R := R) (o := o2) H.TR H.VR hR).up (Nat.le_trans (m := 10) (by decide) (Nat.le_add_left 10 d)), rfl, ⟨H.T, H.p, H.m, H.t, H.V, H.wi, H.wc, H.ln, H.rr, H.S, H.sP, H.uw, H.sc, H.go, H.us, H.ud, H.bc, H.tx, H.sz, H.te, H.kd, H.pl, H.fl, H.sl, H.se, H.fc, (pm_tr hpf H.st), hnw, H.dc, H.tl, H.dn⟩⟩⟩
    refine wp_ev (d := d + 9) (by decide) rfl rfl (fun h => by cases h) ?_
    show wp X (d + 9) 87 (0, [.ref 0, .int (nI x9)], [], WW A R o, 0, 0) _
    refine wz_aload_n (p9 := 1) rfl rfl rfl ?_
    refine wz_iload_n (p9 := 2) rfl rfl rfl ?_
    refine wz_c0 (p9 := 5) (w1 := WW A R o) (wa_v (N := 84) (i := 0) (As := [.int (nI x9)]) (rest := []) rfl rfl rfl rfl rfl rfl rfl) rfl ((g_ck84 (d := 0) (by omega) (by omega)).up (Nat.le_trans (m := 9) (by decide) (Nat.le_add_left 9 d))) ?_
    refine wz_aload_n (p9 := 6) rfl rfl rfl ?_
    refine wz_aload_n (p9 := 7) rfl rfl rfl ?_
    refine wz_get (v := .ref 10) (p9 := 10) rfl rfl rfl rfl rfl ?_
    refine wz_iload_n (p9 := 11) rfl rfl rfl ?_
    refine wz_aload_n (p9 := 12) rfl rfl rfl ?_
    refine wz_get (v := .int (nI A.st)) (p9 := 15) rfl rfl rfl rfl rfl ?_
    refine wz_c1 (p9 := 18) (w1 := WW A R o) (u := .int (nI (tr (fun q => A.wg (x9 * 7 + q)) A.st A.P))) (wa_v (N := 41) (i := 10) (As := [.int (nI x9), .int (nI A.st)]) (rest := [.ref 0]) rfl rfl rfl rfl rfl rfl rfl) rfl ((g_wTurned (d := 0) H.T H.V (by omega) (by omega)).up (by omega)) ?_
    refine wp_Ast (x := (tr (fun q => A.wg (x9 * 7 + q)) A.st A.P)) (p9 := 21) rfl rfl rfl rfl (A1 := (CA.s_st A (tr (fun q => A.wg (x9 * 7 + q)) A.st A.P))) rfl ?_
    exact wz_retv rfl rfl rfl
theorem g_exch {X : Nat × (Nat → Int32)} {d : Nat} {A : CA} {R : RA} {o : Nat → Int64} (T : TV A.P A.Mv A.t A.od) {m x y N : Nat} (hm : m < 6) (hx : x < A.P) (hy : y < A.P) (hp : pf A.P (fun q => (un (un A.t (m * 7 + x) (A.t (m * 7 + y))) (m * 7 + y) (A.t (m * 7 + x))) (m * 7 + q))) (hN : io (un (un A.t (m * 7 + x) (A.t (m * 7 + y))) (m * 7 + y) (A.t (m * 7 + x))) m A.P N) : px_ev X (d + 4) 8 [.ref 1, .int (nI m), .int (nI x), .int (nI y)] (WW A R o) (some none, WW (CA.s_t (CA.s_od A (un A.od m N)) (un (un A.t (m * 7 + x) (A.t (m * 7 + y))) (m * 7 + y) (A.t (m * 7 + x)))) R o, 0, 0) := by
  have h := f_exchangeGoals (X := X) (d := d) (n := 47) (c := cw A R o) (fun i h => h) T.p7 T.m6 rfl (t := A.t) rfl (od := A.od) rfl hm hx hy rfl hp.1 hN.1 hN.2.1 ((ts_rd T.p7 hp).mpr hN.2.2.1) (fun j h1 h2 h3 => hN.2.2.2 j h1 h2 ((ts_rd T.p7 hp).mp h3))
  rw [W_wl] at h
  exact h
theorem sw_lt {P x y q : Nat} (hx : x < P) (hy : y < P) (hq : q < P) : (if q = x then y else if q = y then x else q) < P := by
  split
  · exact hy
  · split
    · exact hx
    · exact hq
theorem un2_far {t : Nat → Nat} {i j v w q : Nat} (h1 : q ≠ i) (h2 : q ≠ j) : un (un t i v) j w q = t q := by rw [un_ne h2, un_ne h1]
/-- two goals of a permutation exchanged -/
theorem ex_pf {P : Nat} {t : Nat → Nat} {m x y : Nat} (h7 : P ≤ 7) (h : pf P (fun q => t (m * 7 + q))) (hx : x < P) (hy : y < P) (hne : x ≠ y) : pf P (fun q => (un (un t (m * 7 + x) (t (m * 7 + y))) (m * 7 + y) (t (m * 7 + x))) (m * 7 + q)) := by
  have hv : ∀ q, q < P → (un (un t (m * 7 + x) (t (m * 7 + y))) (m * 7 + y) (t (m * 7 + x))) (m * 7 + q) = t (m * 7 + (if q = x then y else if q = y then x else q)) := by
    intro q hq
    by_cases c1 : q = y
    · rw [c1, un_at, if_neg (fun e => hne e.symm), if_pos rfl]
    · rw [un_ne (by omega)]
      by_cases c2 : q = x
      · rw [c2, un_at, if_pos rfl]
      · rw [un_ne (by omega), if_neg c2, if_neg c1]
  refine ⟨fun q hq => ?_, fun p q hp hq e => ?_⟩
  · show (un (un t (m * 7 + x) (t (m * 7 + y))) (m * 7 + y) (t (m * 7 + x))) (m * 7 + q) < P
    rw [hv q hq]
    exact h.1 _ (sw_lt hx hy hq)
  · replace e : (un (un t (m * 7 + x) (t (m * 7 + y))) (m * 7 + y) (t (m * 7 + x))) (m * 7 + p) = (un (un t (m * 7 + x) (t (m * 7 + y))) (m * 7 + y) (t (m * 7 + x))) (m * 7 + q) := e
    rw [hv p hp, hv q hq] at e
    have e2 := h.2 _ _ (sw_lt hx hy hp) (sw_lt hx hy hq) e
    by_cases a1 : p = x
    · rw [if_pos a1] at e2
      by_cases a2 : q = x
      · omega
      · rw [if_neg a2] at e2
        by_cases a3 : q = y
        · rw [if_pos a3] at e2; omega
        · rw [if_neg a3] at e2; omega
    · rw [if_neg a1] at e2
      by_cases a3 : p = y
      · rw [if_pos a3] at e2
        by_cases a2 : q = x
        · rw [if_pos a2] at e2; omega
        · rw [if_neg a2] at e2
          by_cases a4 : q = y
          · omega
          · rw [if_neg a4] at e2; omega
      · rw [if_neg a3] at e2
        by_cases a2 : q = x
        · rw [if_pos a2] at e2; omega
        · rw [if_neg a2] at e2
          by_cases a4 : q = y
          · rw [if_pos a4] at e2; omega
          · rw [if_neg a4] at e2; exact e2
theorem bh_congr {t s : Nat → Nat} {m P : Nat} (ht : ∀ q, q < P → t (m * 7 + q) < P) (h : ∀ q, q < P → t (m * 7 + q) = s (m * 7 + q)) : ∀ k p, p < P → bh t m k p = bh s m k p
  | 0, _, _ => rfl
  | k + 1, p, hp => by
    show t (m * 7 + bh t m k p) = s (m * 7 + bh s m k p)
    rw [h _ (bh_lt ht k p hp), bh_congr ht h k p hp]
theorem io_congr {t s : Nat → Nat} {m P N : Nat} (ht : ∀ q, q < P → t (m * 7 + q) < P) (h : ∀ q, q < P → t (m * 7 + q) = s (m * 7 + q)) (hi : io t m P N) : io s m P N :=
  ⟨hi.1, hi.2.1, fun q hq => (bh_congr ht h N q hq).symm.trans (hi.2.2.1 q hq), fun j h1 h2 hr => hi.2.2.2 j h1 h2 (fun q hq => (bh_congr ht h j q hq).trans (hr q hq))⟩
theorem TV_ex {P Mv : Nat} {t od : Nat → Nat} (T : TV P Mv t od) {m x y N : Nat} (hm : m < Mv) (hx : x < P) (hy : y < P) (hne : x ≠ y) (hN : io (un (un t (m * 7 + x) (t (m * 7 + y))) (m * 7 + y) (t (m * 7 + x))) m P N) : TV P Mv (un (un t (m * 7 + x) (t (m * 7 + y))) (m * 7 + y) (t (m * 7 + x))) (un od m N) := by
  have p7 := T.p7
  have m6 := T.m6
  have hp := ex_pf p7 (mv_pf T m (by omega)) hx hy hne
  have hfar : ∀ m2, m2 ≠ m → ∀ q, q < P → (un (un t (m * 7 + x) (t (m * 7 + y))) (m * 7 + y) (t (m * 7 + x))) (m2 * 7 + q) = t (m2 * 7 + q) := fun m2 h2 q hq => un2_far (by omega) (by omega)
  refine ⟨T.p2, p7, T.m1, m6, fun m2 q hq => ?_, fun m2 h6 p q hp2 hq e => ?_, fun m2 h6 => ?_⟩
  · by_cases c : m2 = m
    · rw [c]; exact hp.1 q hq
    · rw [hfar m2 c q hq]; exact T.ht m2 q hq
  · by_cases c : m2 = m
    · rw [c] at e; exact hp.2 p q hp2 hq e
    · rw [hfar m2 c p hp2, hfar m2 c q hq] at e; exact T.hi m2 h6 p q hp2 hq e
  · by_cases c : m2 = m
    · rw [c, un_at]; exact hN
    · rw [un_ne c]
      exact io_congr (T.ht m2) (fun q hq => (hfar m2 c q hq).symm) (T.ho m2 h6)
theorem j_exch {X : Nat × (Nat → Int32)} {d : Nat} {A : CA} {R : RA} {o : Nat → Int64} (H : RE A R) {m : Int32} {x : Int32} {y : Int32} : JT X d 79 [.ref 0, .int m, .int x, .int y] 99 [.ref 26, .int m, .int x, .int y] A R o := by
  have p7 := H.T.p7
  have m6 := H.T.m6
  have hwc := H.V.wc
  have hsc := H.S.sc
  rcases ix1 m A.Mv (by have := H.T.m6; omega) with hm | ⟨m9, hm, rfl⟩
  · refine Or.inl ⟨?_, fun o2 => ⟨_, _, (g_mExchX (d := 0) (A := A) (R := R) (o := o2) (by rw [H.m]; rcases hm with h | h; exact Or.inl h; exact Or.inr (Or.inl h))).up (Nat.le_trans (m := 10) (by decide) (Nat.le_add_left 10 d)), rfl, ⟨H.T, H.p, H.m, H.t, H.V, H.wi, H.wc, H.ln, H.rr, H.S, H.sP, H.uw, H.sc, H.go, H.us, H.ud, H.bc, H.tx, H.sz, H.te, H.kd, H.pl, H.fl, H.sl, H.se, H.fc, H.st, H.nw, H.dc, H.tl, H.dn⟩⟩⟩
    refine wp_ev (d := d + 9) (by decide) rfl rfl (fun _ => by decide) ?_
    show wp X (d + 9) 79 (0, [.ref 0, .int m, .int x, .int y], [], WW A R o, 0, 0) _
    refine wz_aload_n (p9 := 1) rfl rfl rfl ?_
    refine wz_iload_n (p9 := 2) rfl rfl rfl ?_
    exact wz_cx (wa_v (N := 80) (i := 0) (As := [.int m]) (rest := []) rfl rfl rfl rfl rfl rfl rfl) (by decide) ((g_cx80 (d := 0) hm).up (Nat.le_trans (m := 9) (by decide) (Nat.le_add_left 9 d))) rfl rfl
  rcases ix1 x A.P (by have := H.T.p7; omega) with hx | ⟨x9, hx, rfl⟩
  · refine Or.inl ⟨?_, fun o2 => ⟨_, _, (g_mExchX (d := 0) (A := A) (R := R) (o := o2) (Or.inr (Or.inr (Or.inl (by rw [H.p]; exact inb_bad hx))))).up (Nat.le_trans (m := 10) (by decide) (Nat.le_add_left 10 d)), rfl, ⟨H.T, H.p, H.m, H.t, H.V, H.wi, H.wc, H.ln, H.rr, H.S, H.sP, H.uw, H.sc, H.go, H.us, H.ud, H.bc, H.tx, H.sz, H.te, H.kd, H.pl, H.fl, H.sl, H.se, H.fc, H.st, H.nw, H.dc, H.tl, H.dn⟩⟩⟩
    refine wp_ev (d := d + 9) (by decide) rfl rfl (fun _ => by decide) ?_
    show wp X (d + 9) 79 (0, [.ref 0, .int (nI m9), .int x, .int y], [], WW A R o, 0, 0) _
    refine wz_aload_n (p9 := 1) rfl rfl rfl ?_
    refine wz_iload_n (p9 := 2) rfl rfl rfl ?_
    refine wz_c0 (p9 := 5) (w1 := WW A R o) (wa_v (N := 80) (i := 0) (As := [.int (nI m9)]) (rest := []) rfl rfl rfl rfl rfl rfl rfl) rfl ((g_ck80 (d := 0) (by omega) (by omega)).up (Nat.le_trans (m := 9) (by decide) (Nat.le_add_left 9 d))) ?_
    refine wz_aload_n (p9 := 6) rfl rfl rfl ?_
    refine wz_iload_n (p9 := 7) rfl rfl rfl ?_
    exact wz_cx (wa_v (N := 81) (i := 0) (As := [.int x]) (rest := []) rfl rfl rfl rfl rfl rfl rfl) (by decide) ((g_cx81 (d := 0) hx).up (Nat.le_trans (m := 9) (by decide) (Nat.le_add_left 9 d))) rfl rfl
  rcases ix1 y A.P (by have := H.T.p7; omega) with hy | ⟨y9, hy, rfl⟩
  · refine Or.inl ⟨?_, fun o2 => ⟨_, _, (g_mExchX (d := 0) (A := A) (R := R) (o := o2) (Or.inr (Or.inr (Or.inr (by rw [H.p]; exact inb_bad hy))))).up (Nat.le_trans (m := 10) (by decide) (Nat.le_add_left 10 d)), rfl, ⟨H.T, H.p, H.m, H.t, H.V, H.wi, H.wc, H.ln, H.rr, H.S, H.sP, H.uw, H.sc, H.go, H.us, H.ud, H.bc, H.tx, H.sz, H.te, H.kd, H.pl, H.fl, H.sl, H.se, H.fc, H.st, H.nw, H.dc, H.tl, H.dn⟩⟩⟩
    refine wp_ev (d := d + 9) (by decide) rfl rfl (fun _ => by decide) ?_
    show wp X (d + 9) 79 (0, [.ref 0, .int (nI m9), .int (nI x9), .int y], [], WW A R o, 0, 0) _
    refine wz_aload_n (p9 := 1) rfl rfl rfl ?_
    refine wz_iload_n (p9 := 2) rfl rfl rfl ?_
    refine wz_c0 (p9 := 5) (w1 := WW A R o) (wa_v (N := 80) (i := 0) (As := [.int (nI m9)]) (rest := []) rfl rfl rfl rfl rfl rfl rfl) rfl ((g_ck80 (d := 0) (by omega) (by omega)).up (Nat.le_trans (m := 9) (by decide) (Nat.le_add_left 9 d))) ?_
    refine wz_aload_n (p9 := 6) rfl rfl rfl ?_
    refine wz_iload_n (p9 := 7) rfl rfl rfl ?_
    refine wz_c0 (p9 := 10) (w1 := WW A R o) (wa_v (N := 81) (i := 0) (As := [.int (nI x9)]) (rest := []) rfl rfl rfl rfl rfl rfl rfl) rfl ((g_ck81 (d := 0) (by omega) (by omega)).up (Nat.le_trans (m := 9) (by decide) (Nat.le_add_left 9 d))) ?_
    refine wz_aload_n (p9 := 11) rfl rfl rfl ?_
    refine wz_iload_n (p9 := 12) rfl rfl rfl ?_
    exact wz_cx (wa_v (N := 81) (i := 0) (As := [.int y]) (rest := []) rfl rfl rfl rfl rfl rfl rfl) (by decide) ((g_cx81 (d := 0) hy).up (Nat.le_trans (m := 9) (by decide) (Nat.le_add_left 9 d))) rfl rfl
  have hRm : m9 < R.Mv := by rw [H.m]; exact hm
  have hRx : x9 < R.P := by rw [H.p]; exact hx
  have hRy : y9 < R.P := by rw [H.p]; exact hy
  by_cases he : x9 = y9
  · refine Or.inr ⟨A, nI 0, ?_, fun o2 => ⟨_, (g_mExchE (d := 0) (A := A) (R := R) (o := o2) H.TR hRm hRx hRy he).up (Nat.le_trans (m := 10) (by decide) (Nat.le_add_left 10 d)), rfl, ⟨H.T, H.p, H.m, H.t, H.V, H.wi, H.wc, H.ln, H.rr, H.S, H.sP, H.uw, H.sc, H.go, H.us, H.ud, H.bc, H.tx, H.sz, H.te, H.kd, H.pl, H.fl, H.sl, H.se, H.fc, H.st, H.nw, H.dc, H.tl, H.dn⟩⟩⟩
    refine wp_ev (d := d + 9) (by decide) rfl rfl (fun h => by cases h) ?_
    show wp X (d + 9) 79 (0, [.ref 0, .int (nI m9), .int (nI x9), .int (nI y9)], [], WW A R o, 0, 0) _
    refine wz_aload_n (p9 := 1) rfl rfl rfl ?_
    refine wz_iload_n (p9 := 2) rfl rfl rfl ?_
    refine wz_c0 (p9 := 5) (w1 := WW A R o) (wa_v (N := 80) (i := 0) (As := [.int (nI m9)]) (rest := []) rfl rfl rfl rfl rfl rfl rfl) rfl ((g_ck80 (d := 0) (by omega) (by omega)).up (Nat.le_trans (m := 9) (by decide) (Nat.le_add_left 9 d))) ?_
    refine wz_aload_n (p9 := 6) rfl rfl rfl ?_
    refine wz_iload_n (p9 := 7) rfl rfl rfl ?_
    refine wz_c0 (p9 := 10) (w1 := WW A R o) (wa_v (N := 81) (i := 0) (As := [.int (nI x9)]) (rest := []) rfl rfl rfl rfl rfl rfl rfl) rfl ((g_ck81 (d := 0) (by omega) (by omega)).up (Nat.le_trans (m := 9) (by decide) (Nat.le_add_left 9 d))) ?_
    refine wz_aload_n (p9 := 11) rfl rfl rfl ?_
    refine wz_iload_n (p9 := 12) rfl rfl rfl ?_
    refine wz_c0 (p9 := 15) (w1 := WW A R o) (wa_v (N := 81) (i := 0) (As := [.int (nI y9)]) (rest := []) rfl rfl rfl rfl rfl rfl rfl) rfl ((g_ck81 (d := 0) (by omega) (by omega)).up (Nat.le_trans (m := 9) (by decide) (Nat.le_add_left 9 d))) ?_
    refine wz_iload_n (p9 := 16) rfl rfl rfl ?_
    refine wz_iload_n (p9 := 17) rfl rfl rfl ?_
    refine wn_icne (t9 := 22) (p9 := 20) rfl rfl rfl (by omega) (by omega) (fun h9 => by omega) (fun _ => ?_)
    refine wz_iconst (x := nI 0) (p9 := 21) rfl rfl (by decide) ?_
    exact wz_retz rfl rfl (by decide) rfl
  · have hp9 := ex_pf p7 (mv_pf H.T m9 (by omega)) hx hy he
    obtain ⟨N, hN⟩ := io_ex (t := (un (un A.t (m9 * 7 + x9) (A.t (m9 * 7 + y9))) (m9 * 7 + y9) (A.t (m9 * 7 + x9)))) (m := m9) p7 hp9.1 hp9.2
    have hT9 := TV_ex H.T hm hx hy he hN
    refine Or.inr ⟨(CA.s_t (CA.s_od (CA.s_sc (CA.s_wc (CA.s_dc (CA.s_fc A 0) 0) 0) 0) (un A.od m9 N)) (un (un A.t (m9 * 7 + x9) (A.t (m9 * 7 + y9))) (m9 * 7 + y9) (A.t (m9 * 7 + x9)))), nI 1, ?_, fun o2 => ⟨_, (g_mExch1 (d := 0) (A := (CA.s_t (CA.s_od (CA.s_sc (CA.s_wc (CA.s_dc (CA.s_fc A 0) 0) 0) 0) (un A.od m9 N)) (un (un A.t (m9 * 7 + x9) (A.t (m9 * 7 + y9))) (m9 * 7 + y9) (A.t (m9 * 7 + x9))))) (R := R) (o := o2) H.TR hRm hRx hRy he).up (Nat.le_trans (m := 10) (by decide) (Nat.le_add_left 10 d)), rfl, ⟨hT9, H.p, H.m, (show (un (un R.t (m9 * 7 + x9) (R.t (m9 * 7 + y9))) (m9 * 7 + y9) (R.t (m9 * 7 + x9))) = (un (un A.t (m9 * 7 + x9) (A.t (m9 * 7 + y9))) (m9 * 7 + y9) (A.t (m9 * 7 + x9))) by rw [H.t]), ⟨Nat.zero_le _, H.V.rl, H.V.rr, H.V.wg⟩, (fun w hw => absurd hw (Nat.not_lt_zero _)), rfl, H.ln, H.rr, ⟨Nat.zero_le _, H.S.sg, H.S.su, H.S.us⟩, H.sP, (fun s hs => absurd hs (Nat.not_lt_zero _)), rfl, H.go, H.us, H.ud, H.bc, H.tx, H.sz, H.te, H.kd, H.pl, H.fl, H.sl, H.se, (Or.inl rfl), H.st, H.nw, (Nat.zero_le _), rfl, (fun k hk => absurd hk (Nat.not_lt_zero _))⟩⟩⟩
    refine wp_ev (d := d + 9) (by decide) rfl rfl (fun h => by cases h) ?_
    show wp X (d + 9) 79 (0, [.ref 0, .int (nI m9), .int (nI x9), .int (nI y9)], [], WW A R o, 0, 0) _
    refine wz_aload_n (p9 := 1) rfl rfl rfl ?_
    refine wz_iload_n (p9 := 2) rfl rfl rfl ?_
    refine wz_c0 (p9 := 5) (w1 := WW A R o) (wa_v (N := 80) (i := 0) (As := [.int (nI m9)]) (rest := []) rfl rfl rfl rfl rfl rfl rfl) rfl ((g_ck80 (d := 0) (by omega) (by omega)).up (Nat.le_trans (m := 9) (by decide) (Nat.le_add_left 9 d))) ?_
    refine wz_aload_n (p9 := 6) rfl rfl rfl ?_
    refine wz_iload_n (p9 := 7) rfl rfl rfl ?_
    refine wz_c0 (p9 := 10) (w1 := WW A R o) (wa_v (N := 81) (i := 0) (As := [.int (nI x9)]) (rest := []) rfl rfl rfl rfl rfl rfl rfl) rfl ((g_ck81 (d := 0) (by omega) (by omega)).up (Nat.le_trans (m := 9) (by decide) (Nat.le_add_left 9 d))) ?_
    refine wz_aload_n (p9 := 11) rfl rfl rfl ?_
    refine wz_iload_n (p9 := 12) rfl rfl rfl ?_
    refine wz_c0 (p9 := 15) (w1 := WW A R o) (wa_v (N := 81) (i := 0) (As := [.int (nI y9)]) (rest := []) rfl rfl rfl rfl rfl rfl rfl) rfl ((g_ck81 (d := 0) (by omega) (by omega)).up (Nat.le_trans (m := 9) (by decide) (Nat.le_add_left 9 d))) ?_
    refine wz_iload_n (p9 := 16) rfl rfl rfl ?_
    refine wz_iload_n (p9 := 17) rfl rfl rfl ?_
    refine wn_icne (t9 := 22) (p9 := 20) rfl rfl rfl (by omega) (by omega) (fun _ => ?_) (fun h9 => by omega)
    refine wz_aload_n (p9 := 23) rfl rfl rfl ?_
    refine wz_get (v := .ref 1) (p9 := 26) rfl rfl rfl rfl rfl ?_
    refine wz_iload_n (p9 := 27) rfl rfl rfl ?_
    refine wz_iload_n (p9 := 28) rfl rfl rfl ?_
    refine wz_iload_n (p9 := 29) rfl rfl rfl ?_
    refine wz_c0 (p9 := 32) (w1 := WW (CA.s_t (CA.s_od A (un A.od m9 N)) (un (un A.t (m9 * 7 + x9) (A.t (m9 * 7 + y9))) (m9 * 7 + y9) (A.t (m9 * 7 + x9)))) R o) (wa_v (N := 8) (i := 1) (As := [.int (nI m9), .int (nI x9), .int (nI y9)]) (rest := []) rfl rfl rfl rfl rfl rfl rfl) rfl ((g_exch (d := 0) H.T (by omega) hx hy hp9 hN).up (by omega)) ?_
    refine wz_aload_n (p9 := 33) rfl rfl rfl ?_
    refine wz_get (v := .ref 10) (p9 := 36) rfl rfl rfl rfl rfl ?_
    refine wz_c0 (p9 := 39) (w1 := WW (CA.s_t (CA.s_od (CA.s_wc A 0) (un A.od m9 N)) (un (un A.t (m9 * 7 + x9) (A.t (m9 * 7 + y9))) (m9 * 7 + y9) (A.t (m9 * 7 + x9)))) R o) (wa_v (N := 36) (i := 10) (As := []) (rest := []) rfl rfl rfl rfl rfl rfl rfl) rfl ((g_forgetW (d := 0) (A := (CA.s_t (CA.s_od A (un A.od m9 N)) (un (un A.t (m9 * 7 + x9) (A.t (m9 * 7 + y9))) (m9 * 7 + y9) (A.t (m9 * 7 + x9))))) (R := R) ).up (Nat.le_trans (m := 9) (by decide) (Nat.le_add_left 9 d))) ?_
    refine wz_aload_n (p9 := 40) rfl rfl rfl ?_
    refine wz_get (v := .ref 14) (p9 := 43) rfl rfl rfl rfl rfl ?_
    refine wz_c0 (p9 := 46) (w1 := WW (CA.s_t (CA.s_od (CA.s_sc (CA.s_wc A 0) 0) (un A.od m9 N)) (un (un A.t (m9 * 7 + x9) (A.t (m9 * 7 + y9))) (m9 * 7 + y9) (A.t (m9 * 7 + x9)))) R o) (wa_v (N := 48) (i := 14) (As := []) (rest := []) rfl rfl rfl rfl rfl rfl rfl) rfl ((g_forgetS (d := 0) (A := (CA.s_t (CA.s_od (CA.s_wc A 0) (un A.od m9 N)) (un (un A.t (m9 * 7 + x9) (A.t (m9 * 7 + y9))) (m9 * 7 + y9) (A.t (m9 * 7 + x9))))) (R := R) ).up (Nat.le_trans (m := 9) (by decide) (Nat.le_add_left 9 d))) ?_
    refine wz_aload_n (p9 := 47) rfl rfl rfl ?_
    refine wz_get (v := .ref 18) (p9 := 50) rfl rfl rfl rfl rfl ?_
    refine wz_c0 (p9 := 53) (w1 := WW (CA.s_t (CA.s_od (CA.s_sc (CA.s_wc (CA.s_fc A 0) 0) 0) (un A.od m9 N)) (un (un A.t (m9 * 7 + x9) (A.t (m9 * 7 + y9))) (m9 * 7 + y9) (A.t (m9 * 7 + x9)))) R o) (wa_v (N := 58) (i := 18) (As := []) (rest := []) rfl rfl rfl rfl rfl rfl rfl) rfl ((g_forgetR (d := 0) (A := (CA.s_t (CA.s_od (CA.s_sc (CA.s_wc A 0) 0) (un A.od m9 N)) (un (un A.t (m9 * 7 + x9) (A.t (m9 * 7 + y9))) (m9 * 7 + y9) (A.t (m9 * 7 + x9))))) (R := R) ).up (Nat.le_trans (m := 9) (by decide) (Nat.le_add_left 9 d))) ?_
    refine wz_aload_n (p9 := 54) rfl rfl rfl ?_
    refine wz_iconst (x := nI 0) (p9 := 55) rfl rfl (by decide) ?_
    refine wp_Adc (x := 0) (p9 := 58) rfl rfl rfl rfl (A1 := (CA.s_t (CA.s_od (CA.s_sc (CA.s_wc (CA.s_dc (CA.s_fc A 0) 0) 0) 0) (un A.od m9 N)) (un (un A.t (m9 * 7 + x9) (A.t (m9 * 7 + y9))) (m9 * 7 + y9) (A.t (m9 * 7 + x9))))) rfl ?_
    refine wz_iconst (x := nI 1) (p9 := 59) rfl rfl (by decide) ?_
    exact wz_retz rfl rfl (by decide) rfl
