/-! THE READER OF THE CLASS: a byte, a text (wip/whole/gen/mk84.py) -/
/-- a byte taken: the reader behind it, or none where the byte can't be there -/
def nx (A : CA) (u : Nat) : Option CA :=
  if u = 40 ∨ u = 91 then (if A.dp < 8 then some (CA.s_ks (CA.s_kd (CA.s_sn (CA.s_dp A (A.dp + 1)) 0) (un A.kd A.dp u)) (un A.ks A.dp A.rc)) else none)
  else if u = 44 then (if 0 < A.dp ∧ A.kd (A.dp - 1) = 91 then some (CA.s_km (CA.s_kd (CA.s_sn A 0) (un A.kd (A.dp - 1) 44)) (un A.km (A.dp - 1) A.rc)) else none)
  else if u = 41 then (if 0 < A.dp ∧ A.kd (A.dp - 1) = 40 then some (CA.s_sn (CA.s_pl (CA.s_ps (CA.s_dp A (A.dp - 1)) (A.ks (A.dp - 1))) 0) 2) else none)
  else if u = 93 then (if 0 < A.dp ∧ A.kd (A.dp - 1) = 44 then some (CA.s_bu (CA.s_sn (CA.s_pl (CA.s_ps (CA.s_ov (CA.s_rc (CA.s_dp A (A.dp - 1)) (pt A.od (A.km (A.dp - 1)) (A.rc - A.km (A.dp - 1)) (pt A.od (A.ks (A.dp - 1)) (A.km (A.dp - 1) - A.ks (A.dp - 1)) (A.rc, A.bu, A.ov))).1) (pt A.od (A.km (A.dp - 1)) (A.rc - A.km (A.dp - 1)) (pt A.od (A.ks (A.dp - 1)) (A.km (A.dp - 1) - A.ks (A.dp - 1)) (A.rc, A.bu, A.ov))).2.2) (A.ks (A.dp - 1))) 0) 2) (pt A.od (A.km (A.dp - 1)) (A.rc - A.km (A.dp - 1)) (pt A.od (A.ks (A.dp - 1)) (A.km (A.dp - 1) - A.ks (A.dp - 1)) (A.rc, A.bu, A.ov))).2.1) else none)
  else if u = 39 then (if A.sn ≠ 0 then some (CA.s_bu (CA.s_sn A 0) (rv A.od A.ps A.rc A.bu)) else none)
  else if 50 ≤ u ∧ u ≤ 57 then (if A.sn = 2 then (if A.pl = 1 then some (CA.s_bu (CA.s_sn (CA.s_ov (CA.s_rc A (rlt A.od A.ps (u - 48) (A.rc, A.bu, A.ov)).1) (rlt A.od A.ps (u - 48) (A.rc, A.bu, A.ov)).2.2) 1) (rlt A.od A.ps (u - 48) (A.rc, A.bu, A.ov)).2.1) else some (CA.s_bu (CA.s_sn (CA.s_ov (CA.s_rc A (rp A.ps A.rc (u - 48 - 1) (A.rc, A.bu, A.ov)).1) (rp A.ps A.rc (u - 48 - 1) (A.rc, A.bu, A.ov)).2.2) 1) (rp A.ps A.rc (u - 48 - 1) (A.rc, A.bu, A.ov)).2.1)) else none)
  else if 97 ≤ u ∧ u - 97 < A.Mv then some (CA.s_bu (CA.s_sn (CA.s_pl (CA.s_ps (CA.s_ov (CA.s_rc A (pu ((u - 97) * 16 + 1 % A.od (u - 97)) (A.rc, A.bu, A.ov)).1) (pu ((u - 97) * 16 + 1 % A.od (u - 97)) (A.rc, A.bu, A.ov)).2.2) A.rc) 1) 2) (pu ((u - 97) * 16 + 1 % A.od (u - 97)) (A.rc, A.bu, A.ov)).2.1) else none
def NV (A : CA) : Prop := TV A.P A.Mv A.t A.od ∧ BV A.od (A.rc, A.bu, A.ov) ∧ A.dp ≤ 8 ∧ (∀ q, A.kd q < 256) ∧ (∀ i, i < A.dp → A.ks i ≤ A.rc ∧ (A.kd i = 44 → A.ks i ≤ A.km i ∧ A.km i ≤ A.rc)) ∧ (A.sn ≠ 0 → A.ps ≤ A.rc) ∧ A.pl < 2 ∧ A.sn < 3
theorem q_lse : ∀ u, u < 256 → (decide (u = 39 ∨ u = 40 ∨ u = 41 ∨ u = 44 ∨ u = 91 ∨ u = 93) || decide (px_ls (nI u) = 90)) = true := by decide +kernel
theorem q_lsd (u : Nat) (hu : u < 256) (h1 : u ≠ 39) (h2 : u ≠ 40) (h3 : u ≠ 41) (h4 : u ≠ 44) (h5 : u ≠ 91) (h6 : u ≠ 93) : px_ls (nI u) = 90 := by
  have h := q_lse u hu
  rw [decide_eq_false (by omega), Bool.false_or] at h
  exact of_decide_eq_true h
theorem g_nOpen1_40 {X : Nat × (Nat → Int32)} {d : Nat} {A : CA} {R : RA} {o : Nat → Int64} (h : A.dp < 8) : px_ev X (d + 2) 14 [.ref 4, .int (nI 40)] (WW A R o) (some (some (.int (nI 1))), WW (CA.s_ks (CA.s_kd (CA.s_sn (CA.s_dp A (A.dp + 1)) 0) (un A.kd A.dp 40)) (un A.ks A.dp A.rc)) R o, 0, 0) := by
  refine wp_ev (d := d + 1) (by decide) rfl rfl (fun h => by cases h) ?_
  show wp X (d + 1) 14 (0, [.ref 4, .int (nI 40)], [], WW A R o, 0, 0) _
  refine wz_iload_n (p9 := 1) rfl rfl rfl ?_
  refine wz_lsw (t9 := 60) rfl rfl ?_
  refine wz_aload_n (p9 := 61) rfl rfl rfl ?_
  refine wz_iload_n (p9 := 62) rfl rfl rfl ?_
  refine wz_c1 (p9 := 65) (w1 := WW (CA.s_ks (CA.s_kd (CA.s_sn (CA.s_dp A (A.dp + 1)) 0) (un A.kd A.dp 40)) (un A.ks A.dp A.rc)) R o) (u := .int (nI 1)) (wa_v (N := 15) (i := 4) (As := [.int (nI 40)]) (rest := []) rfl rfl rfl rfl rfl rfl rfl) rfl ((g_takesOpening1 (d := 0) h).up (by omega)) ?_
  exact wz_retz rfl rfl (by decide) rfl
theorem g_nOpen0_40 {X : Nat × (Nat → Int32)} {d : Nat} {A : CA} {R : RA} {o : Nat → Int64} (h : A.dp = 8) : px_ev X (d + 2) 14 [.ref 4, .int (nI 40)] (WW A R o) (some (some (.int (nI 0))), WW A R o, 0, 0) := by
  refine wp_ev (d := d + 1) (by decide) rfl rfl (fun h => by cases h) ?_
  show wp X (d + 1) 14 (0, [.ref 4, .int (nI 40)], [], WW A R o, 0, 0) _
  refine wz_iload_n (p9 := 1) rfl rfl rfl ?_
  refine wz_lsw (t9 := 60) rfl rfl ?_
  refine wz_aload_n (p9 := 61) rfl rfl rfl ?_
  refine wz_iload_n (p9 := 62) rfl rfl rfl ?_
  refine wz_c1 (p9 := 65) (w1 := WW A R o) (u := .int (nI 0)) (wa_v (N := 15) (i := 4) (As := [.int (nI 40)]) (rest := []) rfl rfl rfl rfl rfl rfl rfl) rfl ((g_takesOpening0 (d := 0) h).up (by omega)) ?_
  exact wz_retz rfl rfl (by decide) rfl
theorem g_nOpen1_91 {X : Nat × (Nat → Int32)} {d : Nat} {A : CA} {R : RA} {o : Nat → Int64} (h : A.dp < 8) : px_ev X (d + 2) 14 [.ref 4, .int (nI 91)] (WW A R o) (some (some (.int (nI 1))), WW (CA.s_ks (CA.s_kd (CA.s_sn (CA.s_dp A (A.dp + 1)) 0) (un A.kd A.dp 91)) (un A.ks A.dp A.rc)) R o, 0, 0) := by
  refine wp_ev (d := d + 1) (by decide) rfl rfl (fun h => by cases h) ?_
  show wp X (d + 1) 14 (0, [.ref 4, .int (nI 91)], [], WW A R o, 0, 0) _
  refine wz_iload_n (p9 := 1) rfl rfl rfl ?_
  refine wz_lsw (t9 := 60) rfl rfl ?_
  refine wz_aload_n (p9 := 61) rfl rfl rfl ?_
  refine wz_iload_n (p9 := 62) rfl rfl rfl ?_
  refine wz_c1 (p9 := 65) (w1 := WW (CA.s_ks (CA.s_kd (CA.s_sn (CA.s_dp A (A.dp + 1)) 0) (un A.kd A.dp 91)) (un A.ks A.dp A.rc)) R o) (u := .int (nI 1)) (wa_v (N := 15) (i := 4) (As := [.int (nI 91)]) (rest := []) rfl rfl rfl rfl rfl rfl rfl) rfl ((g_takesOpening1 (d := 0) h).up (by omega)) ?_
  exact wz_retz rfl rfl (by decide) rfl
theorem g_nOpen0_91 {X : Nat × (Nat → Int32)} {d : Nat} {A : CA} {R : RA} {o : Nat → Int64} (h : A.dp = 8) : px_ev X (d + 2) 14 [.ref 4, .int (nI 91)] (WW A R o) (some (some (.int (nI 0))), WW A R o, 0, 0) := by
  refine wp_ev (d := d + 1) (by decide) rfl rfl (fun h => by cases h) ?_
  show wp X (d + 1) 14 (0, [.ref 4, .int (nI 91)], [], WW A R o, 0, 0) _
  refine wz_iload_n (p9 := 1) rfl rfl rfl ?_
  refine wz_lsw (t9 := 60) rfl rfl ?_
  refine wz_aload_n (p9 := 61) rfl rfl rfl ?_
  refine wz_iload_n (p9 := 62) rfl rfl rfl ?_
  refine wz_c1 (p9 := 65) (w1 := WW A R o) (u := .int (nI 0)) (wa_v (N := 15) (i := 4) (As := [.int (nI 91)]) (rest := []) rfl rfl rfl rfl rfl rfl rfl) rfl ((g_takesOpening0 (d := 0) h).up (by omega)) ?_
  exact wz_retz rfl rfl (by decide) rfl
theorem g_nComma1 {X : Nat × (Nat → Int32)} {d : Nat} {A : CA} {R : RA} {o : Nat → Int64} (h0 : 0 < A.dp) (h8 : A.dp ≤ 8) (h : A.kd (A.dp - 1) = 91) : px_ev X (d + 2) 14 [.ref 4, .int (nI 44)] (WW A R o) (some (some (.int (nI 1))), WW (CA.s_km (CA.s_kd (CA.s_sn A 0) (un A.kd (A.dp - 1) 44)) (un A.km (A.dp - 1) A.rc)) R o, 0, 0) := by
  refine wp_ev (d := d + 1) (by decide) rfl rfl (fun h => by cases h) ?_
  show wp X (d + 1) 14 (0, [.ref 4, .int (nI 44)], [], WW A R o, 0, 0) _
  refine wz_iload_n (p9 := 1) rfl rfl rfl ?_
  refine wz_lsw (t9 := 66) rfl rfl ?_
  refine wz_aload_n (p9 := 67) rfl rfl rfl ?_
  refine wz_c1 (p9 := 70) (w1 := WW (CA.s_km (CA.s_kd (CA.s_sn A 0) (un A.kd (A.dp - 1) 44)) (un A.km (A.dp - 1) A.rc)) R o) (u := .int (nI 1)) (wa_v (N := 16) (i := 4) (As := []) (rest := []) rfl rfl rfl rfl rfl rfl rfl) rfl ((g_takesComma1 (d := 0) h0 h8 h).up (by omega)) ?_
  exact wz_retz rfl rfl (by decide) rfl
theorem g_nComma0 {X : Nat × (Nat → Int32)} {d : Nat} {A : CA} {R : RA} {o : Nat → Int64} (h8 : A.dp ≤ 8) (hk : ∀ q, A.kd q < 256) (h : 0 < A.dp → A.kd (A.dp - 1) ≠ 91) : px_ev X (d + 2) 14 [.ref 4, .int (nI 44)] (WW A R o) (some (some (.int (nI 0))), WW A R o, 0, 0) := by
  refine wp_ev (d := d + 1) (by decide) rfl rfl (fun h => by cases h) ?_
  show wp X (d + 1) 14 (0, [.ref 4, .int (nI 44)], [], WW A R o, 0, 0) _
  refine wz_iload_n (p9 := 1) rfl rfl rfl ?_
  refine wz_lsw (t9 := 66) rfl rfl ?_
  refine wz_aload_n (p9 := 67) rfl rfl rfl ?_
  refine wz_c1 (p9 := 70) (w1 := WW A R o) (u := .int (nI 0)) (wa_v (N := 16) (i := 4) (As := []) (rest := []) rfl rfl rfl rfl rfl rfl rfl) rfl ((g_takesComma0 (d := 0) h8 hk h).up (by omega)) ?_
  exact wz_retz rfl rfl (by decide) rfl
theorem g_nClR1 {X : Nat × (Nat → Int32)} {d : Nat} {A : CA} {R : RA} {o : Nat → Int64} (h0 : 0 < A.dp) (h8 : A.dp ≤ 8) (h : A.kd (A.dp - 1) = 40) : px_ev X (d + 3) 14 [.ref 4, .int (nI 41)] (WW A R o) (some (some (.int (nI 1))), WW (CA.s_sn (CA.s_pl (CA.s_ps (CA.s_dp A (A.dp - 1)) (A.ks (A.dp - 1))) 0) 2) R o, 0, 0) := by
  refine wp_ev (d := d + 2) (by decide) rfl rfl (fun h => by cases h) ?_
  show wp X (d + 2) 14 (0, [.ref 4, .int (nI 41)], [], WW A R o, 0, 0) _
  refine wz_iload_n (p9 := 1) rfl rfl rfl ?_
  refine wz_lsw (t9 := 71) rfl rfl ?_
  refine wz_aload_n (p9 := 72) rfl rfl rfl ?_
  refine wz_bipush (x := nI 40) (p9 := 74) rfl rfl (by decide) ?_
  refine wz_c1 (p9 := 77) (w1 := WW (CA.s_sn (CA.s_pl (CA.s_ps (CA.s_dp A (A.dp - 1)) (A.ks (A.dp - 1))) 0) 2) R o) (u := .int (nI 1)) (wa_v (N := 17) (i := 4) (As := [.int (nI 40)]) (rest := []) rfl rfl rfl rfl rfl rfl rfl) rfl ((g_takesClosingR (d := 0) h0 h8 h).up (by omega)) ?_
  exact wz_retz rfl rfl (by decide) rfl
theorem g_nClR0 {X : Nat × (Nat → Int32)} {d : Nat} {A : CA} {R : RA} {o : Nat → Int64} (h8 : A.dp ≤ 8) (hk : ∀ q, A.kd q < 256) (h : 0 < A.dp → A.kd (A.dp - 1) ≠ 40) : px_ev X (d + 2) 14 [.ref 4, .int (nI 41)] (WW A R o) (some (some (.int (nI 0))), WW A R o, 0, 0) := by
  refine wp_ev (d := d + 1) (by decide) rfl rfl (fun h => by cases h) ?_
  show wp X (d + 1) 14 (0, [.ref 4, .int (nI 41)], [], WW A R o, 0, 0) _
  refine wz_iload_n (p9 := 1) rfl rfl rfl ?_
  refine wz_lsw (t9 := 71) rfl rfl ?_
  refine wz_aload_n (p9 := 72) rfl rfl rfl ?_
  refine wz_bipush (x := nI 40) (p9 := 74) rfl rfl (by decide) ?_
  refine wz_c1 (p9 := 77) (w1 := WW A R o) (u := .int (nI 0)) (wa_v (N := 17) (i := 4) (As := [.int (nI 40)]) (rest := []) rfl rfl rfl rfl rfl rfl rfl) rfl ((g_takesClosing0 (d := 0) h8 (by decide) hk h).up (by omega)) ?_
  exact wz_retz rfl rfl (by decide) rfl
theorem g_nClC1 {X : Nat × (Nat → Int32)} {d : Nat} {A : CA} {R : RA} {o : Nat → Int64} (T : TV A.P A.Mv A.t A.od) (h0 : 0 < A.dp) (h8 : A.dp ≤ 8) (h : A.kd (A.dp - 1) = 44) (hb : BV A.od (A.rc, A.bu, A.ov)) (hs : A.ks (A.dp - 1) ≤ A.km (A.dp - 1)) (hm : A.km (A.dp - 1) ≤ A.rc) : px_ev X (d + 5) 14 [.ref 4, .int (nI 93)] (WW A R o) (some (some (.int (nI 1))), WW (CA.s_bu (CA.s_sn (CA.s_pl (CA.s_ps (CA.s_ov (CA.s_rc (CA.s_dp A (A.dp - 1)) (pt A.od (A.km (A.dp - 1)) (A.rc - A.km (A.dp - 1)) (pt A.od (A.ks (A.dp - 1)) (A.km (A.dp - 1) - A.ks (A.dp - 1)) (A.rc, A.bu, A.ov))).1) (pt A.od (A.km (A.dp - 1)) (A.rc - A.km (A.dp - 1)) (pt A.od (A.ks (A.dp - 1)) (A.km (A.dp - 1) - A.ks (A.dp - 1)) (A.rc, A.bu, A.ov))).2.2) (A.ks (A.dp - 1))) 0) 2) (pt A.od (A.km (A.dp - 1)) (A.rc - A.km (A.dp - 1)) (pt A.od (A.ks (A.dp - 1)) (A.km (A.dp - 1) - A.ks (A.dp - 1)) (A.rc, A.bu, A.ov))).2.1) R o, 0, 0) := by
  refine wp_ev (d := d + 4) (by decide) rfl rfl (fun h => by cases h) ?_
  show wp X (d + 4) 14 (0, [.ref 4, .int (nI 93)], [], WW A R o, 0, 0) _
  refine wz_iload_n (p9 := 1) rfl rfl rfl ?_
  refine wz_lsw (t9 := 78) rfl rfl ?_
  refine wz_aload_n (p9 := 79) rfl rfl rfl ?_
  refine wz_bipush (x := nI 44) (p9 := 81) rfl rfl (by decide) ?_
  refine wz_c1 (p9 := 84) (w1 := WW (CA.s_bu (CA.s_sn (CA.s_pl (CA.s_ps (CA.s_ov (CA.s_rc (CA.s_dp A (A.dp - 1)) (pt A.od (A.km (A.dp - 1)) (A.rc - A.km (A.dp - 1)) (pt A.od (A.ks (A.dp - 1)) (A.km (A.dp - 1) - A.ks (A.dp - 1)) (A.rc, A.bu, A.ov))).1) (pt A.od (A.km (A.dp - 1)) (A.rc - A.km (A.dp - 1)) (pt A.od (A.ks (A.dp - 1)) (A.km (A.dp - 1) - A.ks (A.dp - 1)) (A.rc, A.bu, A.ov))).2.2) (A.ks (A.dp - 1))) 0) 2) (pt A.od (A.km (A.dp - 1)) (A.rc - A.km (A.dp - 1)) (pt A.od (A.ks (A.dp - 1)) (A.km (A.dp - 1) - A.ks (A.dp - 1)) (A.rc, A.bu, A.ov))).2.1) R o) (u := .int (nI 1)) (wa_v (N := 17) (i := 4) (As := [.int (nI 44)]) (rest := []) rfl rfl rfl rfl rfl rfl rfl) rfl ((g_takesClosingC (d := 0) T h0 h8 h hb hs hm).up (by omega)) ?_
  exact wz_retz rfl rfl (by decide) rfl
theorem g_nClC0 {X : Nat × (Nat → Int32)} {d : Nat} {A : CA} {R : RA} {o : Nat → Int64} (h8 : A.dp ≤ 8) (hk : ∀ q, A.kd q < 256) (h : 0 < A.dp → A.kd (A.dp - 1) ≠ 44) : px_ev X (d + 2) 14 [.ref 4, .int (nI 93)] (WW A R o) (some (some (.int (nI 0))), WW A R o, 0, 0) := by
  refine wp_ev (d := d + 1) (by decide) rfl rfl (fun h => by cases h) ?_
  show wp X (d + 1) 14 (0, [.ref 4, .int (nI 93)], [], WW A R o, 0, 0) _
  refine wz_iload_n (p9 := 1) rfl rfl rfl ?_
  refine wz_lsw (t9 := 78) rfl rfl ?_
  refine wz_aload_n (p9 := 79) rfl rfl rfl ?_
  refine wz_bipush (x := nI 44) (p9 := 81) rfl rfl (by decide) ?_
  refine wz_c1 (p9 := 84) (w1 := WW A R o) (u := .int (nI 0)) (wa_v (N := 17) (i := 4) (As := [.int (nI 44)]) (rest := []) rfl rfl rfl rfl rfl rfl rfl) rfl ((g_takesClosing0 (d := 0) h8 (by decide) hk h).up (by omega)) ?_
  exact wz_retz rfl rfl (by decide) rfl
theorem g_nTurn1 {X : Nat × (Nat → Int32)} {d : Nat} {A : CA} {R : RA} {o : Nat → Int64} (T : TV A.P A.Mv A.t A.od) (hs : A.sn < 3) (hs0 : A.sn ≠ 0) (hp : A.ps ≤ 400) (hr : A.rc ≤ 400) (hf : ∀ q, A.ps ≤ q → q < A.rc → ro A.od (A.bu q)) : px_ev X (d + 4) 14 [.ref 4, .int (nI 39)] (WW A R o) (some (some (.int (nI 1))), WW (CA.s_bu (CA.s_sn A 0) (rv A.od A.ps A.rc A.bu)) R o, 0, 0) := by
  refine wp_ev (d := d + 3) (by decide) rfl rfl (fun h => by cases h) ?_
  show wp X (d + 3) 14 (0, [.ref 4, .int (nI 39)], [], WW A R o, 0, 0) _
  refine wz_iload_n (p9 := 1) rfl rfl rfl ?_
  refine wz_lsw (t9 := 85) rfl rfl ?_
  refine wz_aload_n (p9 := 86) rfl rfl rfl ?_
  refine wz_c1 (p9 := 89) (w1 := WW (CA.s_bu (CA.s_sn A 0) (rv A.od A.ps A.rc A.bu)) R o) (u := .int (nI 1)) (wa_v (N := 22) (i := 4) (As := []) (rest := []) rfl rfl rfl rfl rfl rfl rfl) rfl ((g_takesTurn1 (d := 0) T hs hs0 hp hr hf).up (by omega)) ?_
  exact wz_retz rfl rfl (by decide) rfl
theorem g_nTurn0 {X : Nat × (Nat → Int32)} {d : Nat} {A : CA} {R : RA} {o : Nat → Int64} (hs : A.sn = 0) : px_ev X (d + 2) 14 [.ref 4, .int (nI 39)] (WW A R o) (some (some (.int (nI 0))), WW A R o, 0, 0) := by
  refine wp_ev (d := d + 1) (by decide) rfl rfl (fun h => by cases h) ?_
  show wp X (d + 1) 14 (0, [.ref 4, .int (nI 39)], [], WW A R o, 0, 0) _
  refine wz_iload_n (p9 := 1) rfl rfl rfl ?_
  refine wz_lsw (t9 := 85) rfl rfl ?_
  refine wz_aload_n (p9 := 86) rfl rfl rfl ?_
  refine wz_c1 (p9 := 89) (w1 := WW A R o) (u := .int (nI 0)) (wa_v (N := 22) (i := 4) (As := []) (rest := []) rfl rfl rfl rfl rfl rfl rfl) rfl ((g_takesTurn0 (d := 0) hs).up (by omega)) ?_
  exact wz_retz rfl rfl (by decide) rfl
theorem g_nDig0 {X : Nat × (Nat → Int32)} {d : Nat} {A : CA} {R : RA} {o : Nat → Int64} {u : Nat} (hu : u < 256) (h5 : 50 ≤ u) (h6 : u ≤ 57) (hs : A.sn < 3) (h : A.sn ≠ 2) : px_ev X (d + 2) 14 [.ref 4, .int (nI u)] (WW A R o) (some (some (.int (nI 0))), WW A R o, 0, 0) := by
  refine wp_ev (d := d + 1) (by decide) rfl rfl (fun h => by cases h) ?_
  show wp X (d + 1) 14 (0, [.ref 4, .int (nI u)], [], WW A R o, 0, 0) _
  refine wz_iload_n (p9 := 1) rfl rfl rfl ?_
  refine wz_lsw (t9 := 90) rfl (q_lsd u hu (by omega) (by omega) (by omega) (by omega) (by omega) (by omega)) ?_
  refine wz_iload_n (p9 := 91) rfl rfl rfl ?_
  refine wz_bipush (x := nI 50) (p9 := 93) rfl rfl (by decide) ?_
  refine wn_iclt (t9 := 113) (p9 := 96) rfl rfl rfl (by omega) (by omega) (fun h9 => by omega) (fun _ => ?_)
  refine wz_iload_n (p9 := 97) rfl rfl rfl ?_
  refine wz_bipush (x := nI 57) (p9 := 99) rfl rfl (by decide) ?_
  refine wn_icgt (t9 := 113) (p9 := 102) rfl rfl rfl (by omega) (by omega) (fun h9 => by omega) (fun _ => ?_)
  refine wz_aload_n (p9 := 103) rfl rfl rfl ?_
  refine wz_iload_n (p9 := 104) rfl rfl rfl ?_
  refine wz_bipush (x := nI 48) (p9 := 106) rfl rfl (by decide) ?_
  refine wn_sub (p9 := 107) rfl rfl (by omega) ?_
  refine wz_c1 (p9 := 110) (w1 := WW A R o) (u := .int (nI 0)) (wa_v (N := 23) (i := 4) (As := [.int (nI (u - 48))]) (rest := []) rfl rfl rfl rfl rfl rfl rfl) rfl ((g_takesDigit0 (d := 0) hs h).up (by omega)) ?_
  refine wz_goto (p9 := 121) rfl rfl ?_
  exact wz_retz rfl rfl (by decide) rfl
theorem g_nDigL {X : Nat × (Nat → Int32)} {d : Nat} {A : CA} {R : RA} {o : Nat → Int64} {u : Nat} (hu : u < 256) (h5 : 50 ≤ u) (h6 : u ≤ 57) (T : TV A.P A.Mv A.t A.od) (h : BV A.od (A.rc, A.bu, A.ov)) (hp : A.ps ≤ 400) (hs : A.sn = 2) (hl : A.pl = 1) : px_ev X (d + 4) 14 [.ref 4, .int (nI u)] (WW A R o) (some (some (.int (nI 1))), WW (CA.s_bu (CA.s_sn (CA.s_ov (CA.s_rc A (rlt A.od A.ps (u - 48) (A.rc, A.bu, A.ov)).1) (rlt A.od A.ps (u - 48) (A.rc, A.bu, A.ov)).2.2) 1) (rlt A.od A.ps (u - 48) (A.rc, A.bu, A.ov)).2.1) R o, 0, 0) := by
  refine wp_ev (d := d + 3) (by decide) rfl rfl (fun h => by cases h) ?_
  show wp X (d + 3) 14 (0, [.ref 4, .int (nI u)], [], WW A R o, 0, 0) _
  refine wz_iload_n (p9 := 1) rfl rfl rfl ?_
  refine wz_lsw (t9 := 90) rfl (q_lsd u hu (by omega) (by omega) (by omega) (by omega) (by omega) (by omega)) ?_
  refine wz_iload_n (p9 := 91) rfl rfl rfl ?_
  refine wz_bipush (x := nI 50) (p9 := 93) rfl rfl (by decide) ?_
  refine wn_iclt (t9 := 113) (p9 := 96) rfl rfl rfl (by omega) (by omega) (fun h9 => by omega) (fun _ => ?_)
  refine wz_iload_n (p9 := 97) rfl rfl rfl ?_
  refine wz_bipush (x := nI 57) (p9 := 99) rfl rfl (by decide) ?_
  refine wn_icgt (t9 := 113) (p9 := 102) rfl rfl rfl (by omega) (by omega) (fun h9 => by omega) (fun _ => ?_)
  refine wz_aload_n (p9 := 103) rfl rfl rfl ?_
  refine wz_iload_n (p9 := 104) rfl rfl rfl ?_
  refine wz_bipush (x := nI 48) (p9 := 106) rfl rfl (by decide) ?_
  refine wn_sub (p9 := 107) rfl rfl (by omega) ?_
  refine wz_c1 (p9 := 110) (w1 := WW (CA.s_bu (CA.s_sn (CA.s_ov (CA.s_rc A (rlt A.od A.ps (u - 48) (A.rc, A.bu, A.ov)).1) (rlt A.od A.ps (u - 48) (A.rc, A.bu, A.ov)).2.2) 1) (rlt A.od A.ps (u - 48) (A.rc, A.bu, A.ov)).2.1) R o) (u := .int (nI 1)) (wa_v (N := 23) (i := 4) (As := [.int (nI (u - 48))]) (rest := []) rfl rfl rfl rfl rfl rfl rfl) rfl ((g_takesDigitL (d := 0) T h hp (by omega) hs hl).up (by omega)) ?_
  refine wz_goto (p9 := 121) rfl rfl ?_
  exact wz_retz rfl rfl (by decide) rfl
theorem g_nDigP {X : Nat × (Nat → Int32)} {d : Nat} {A : CA} {R : RA} {o : Nat → Int64} {u : Nat} (hu : u < 256) (h5 : 50 ≤ u) (h6 : u ≤ 57) (T : TV A.P A.Mv A.t A.od) (h : BV A.od (A.rc, A.bu, A.ov)) (hp : A.ps ≤ A.rc) (hs : A.sn = 2) (hl : A.pl = 0) : px_ev X (d + 4) 14 [.ref 4, .int (nI u)] (WW A R o) (some (some (.int (nI 1))), WW (CA.s_bu (CA.s_sn (CA.s_ov (CA.s_rc A (rp A.ps A.rc (u - 48 - 1) (A.rc, A.bu, A.ov)).1) (rp A.ps A.rc (u - 48 - 1) (A.rc, A.bu, A.ov)).2.2) 1) (rp A.ps A.rc (u - 48 - 1) (A.rc, A.bu, A.ov)).2.1) R o, 0, 0) := by
  refine wp_ev (d := d + 3) (by decide) rfl rfl (fun h => by cases h) ?_
  show wp X (d + 3) 14 (0, [.ref 4, .int (nI u)], [], WW A R o, 0, 0) _
  refine wz_iload_n (p9 := 1) rfl rfl rfl ?_
  refine wz_lsw (t9 := 90) rfl (q_lsd u hu (by omega) (by omega) (by omega) (by omega) (by omega) (by omega)) ?_
  refine wz_iload_n (p9 := 91) rfl rfl rfl ?_
  refine wz_bipush (x := nI 50) (p9 := 93) rfl rfl (by decide) ?_
  refine wn_iclt (t9 := 113) (p9 := 96) rfl rfl rfl (by omega) (by omega) (fun h9 => by omega) (fun _ => ?_)
  refine wz_iload_n (p9 := 97) rfl rfl rfl ?_
  refine wz_bipush (x := nI 57) (p9 := 99) rfl rfl (by decide) ?_
  refine wn_icgt (t9 := 113) (p9 := 102) rfl rfl rfl (by omega) (by omega) (fun h9 => by omega) (fun _ => ?_)
  refine wz_aload_n (p9 := 103) rfl rfl rfl ?_
  refine wz_iload_n (p9 := 104) rfl rfl rfl ?_
  refine wz_bipush (x := nI 48) (p9 := 106) rfl rfl (by decide) ?_
  refine wn_sub (p9 := 107) rfl rfl (by omega) ?_
  refine wz_c1 (p9 := 110) (w1 := WW (CA.s_bu (CA.s_sn (CA.s_ov (CA.s_rc A (rp A.ps A.rc (u - 48 - 1) (A.rc, A.bu, A.ov)).1) (rp A.ps A.rc (u - 48 - 1) (A.rc, A.bu, A.ov)).2.2) 1) (rp A.ps A.rc (u - 48 - 1) (A.rc, A.bu, A.ov)).2.1) R o) (u := .int (nI 1)) (wa_v (N := 23) (i := 4) (As := [.int (nI (u - 48))]) (rest := []) rfl rfl rfl rfl rfl rfl rfl) rfl ((g_takesDigitP (d := 0) T h hp (by omega) hs hl).up (by omega)) ?_
  refine wz_goto (p9 := 121) rfl rfl ?_
  exact wz_retz rfl rfl (by decide) rfl
theorem g_nLet1 {X : Nat × (Nat → Int32)} {d : Nat} {A : CA} {R : RA} {o : Nat → Int64} {u : Nat} (hu : u < 103) (h1 : u ≠ 39) (h2 : u ≠ 40) (h3 : u ≠ 41) (h4 : u ≠ 44) (h5 : u ≠ 91) (h6 : u ≠ 93) (T : TV A.P A.Mv A.t A.od) (h97 : 97 ≤ u) (hm : u - 97 < A.Mv) (hc : A.rc ≤ 400) : px_ev X (d + 3) 14 [.ref 4, .int (nI u)] (WW A R o) (some (some (.int (nI 1))), WW (CA.s_bu (CA.s_sn (CA.s_pl (CA.s_ps (CA.s_ov (CA.s_rc A (pu ((u - 97) * 16 + 1 % A.od (u - 97)) (A.rc, A.bu, A.ov)).1) (pu ((u - 97) * 16 + 1 % A.od (u - 97)) (A.rc, A.bu, A.ov)).2.2) A.rc) 1) 2) (pu ((u - 97) * 16 + 1 % A.od (u - 97)) (A.rc, A.bu, A.ov)).2.1) R o, 0, 0) := by
  refine wp_ev (d := d + 2) (by decide) rfl rfl (fun h => by cases h) ?_
  show wp X (d + 2) 14 (0, [.ref 4, .int (nI u)], [], WW A R o, 0, 0) _
  refine wz_iload_n (p9 := 1) rfl rfl rfl ?_
  refine wz_lsw (t9 := 90) rfl (q_lsd u (by omega) h1 h2 h3 h4 h5 h6) ?_
  refine wz_iload_n (p9 := 91) rfl rfl rfl ?_
  refine wz_bipush (x := nI 50) (p9 := 93) rfl rfl (by decide) ?_
  refine wn_iclt (t9 := 113) (p9 := 96) rfl rfl rfl (by omega) (by omega) (fun h9 => by omega) (fun _ => ?_)
  refine wz_iload_n (p9 := 97) rfl rfl rfl ?_
  refine wz_bipush (x := nI 57) (p9 := 99) rfl rfl (by decide) ?_
  refine wn_icgt (t9 := 113) (p9 := 102) rfl rfl rfl (by omega) (by omega) (fun _ => ?_) (fun h9 => by omega)
  refine wz_aload_n (p9 := 114) rfl rfl rfl ?_
  refine wz_iload_n (p9 := 115) rfl rfl rfl ?_
  refine wz_bipush (x := nI 97) (p9 := 117) rfl rfl (by decide) ?_
  refine wn_sub (p9 := 118) rfl rfl (by omega) ?_
  refine wz_c1 (p9 := 121) (w1 := WW (CA.s_bu (CA.s_sn (CA.s_pl (CA.s_ps (CA.s_ov (CA.s_rc A (pu ((u - 97) * 16 + 1 % A.od (u - 97)) (A.rc, A.bu, A.ov)).1) (pu ((u - 97) * 16 + 1 % A.od (u - 97)) (A.rc, A.bu, A.ov)).2.2) A.rc) 1) 2) (pu ((u - 97) * 16 + 1 % A.od (u - 97)) (A.rc, A.bu, A.ov)).2.1) R o) (u := .int (nI 1)) (wa_v (N := 26) (i := 4) (As := [.int (nI (u - 97))]) (rest := []) rfl rfl rfl rfl rfl rfl rfl) rfl ((g_takesLetter1 (d := 0) T hm hc).up (by omega)) ?_
  exact wz_retz rfl rfl (by decide) rfl
theorem g_nLet0a {X : Nat × (Nat → Int32)} {d : Nat} {A : CA} {R : RA} {o : Nat → Int64} {u : Nat} (hu : u < 256) (h1 : u ≠ 39) (h2 : u ≠ 40) (h3 : u ≠ 41) (h4 : u ≠ 44) (h5 : u ≠ 91) (h6 : u ≠ 93) (h97 : 97 ≤ u) (hm : A.Mv ≤ u - 97) : px_ev X (d + 3) 14 [.ref 4, .int (nI u)] (WW A R o) (some (some (.int (nI 0))), WW A R o, 0, 0) := by
  refine wp_ev (d := d + 2) (by decide) rfl rfl (fun h => by cases h) ?_
  show wp X (d + 2) 14 (0, [.ref 4, .int (nI u)], [], WW A R o, 0, 0) _
  refine wz_iload_n (p9 := 1) rfl rfl rfl ?_
  refine wz_lsw (t9 := 90) rfl (q_lsd u hu h1 h2 h3 h4 h5 h6) ?_
  refine wz_iload_n (p9 := 91) rfl rfl rfl ?_
  refine wz_bipush (x := nI 50) (p9 := 93) rfl rfl (by decide) ?_
  refine wn_iclt (t9 := 113) (p9 := 96) rfl rfl rfl (by omega) (by omega) (fun h9 => by omega) (fun _ => ?_)
  refine wz_iload_n (p9 := 97) rfl rfl rfl ?_
  refine wz_bipush (x := nI 57) (p9 := 99) rfl rfl (by decide) ?_
  refine wn_icgt (t9 := 113) (p9 := 102) rfl rfl rfl (by omega) (by omega) (fun _ => ?_) (fun h9 => by omega)
  refine wz_aload_n (p9 := 114) rfl rfl rfl ?_
  refine wz_iload_n (p9 := 115) rfl rfl rfl ?_
  refine wz_bipush (x := nI 97) (p9 := 117) rfl rfl (by decide) ?_
  refine wn_sub (p9 := 118) rfl rfl (by omega) ?_
  refine wz_c1 (p9 := 121) (w1 := WW A R o) (u := .int (nI 0)) (wa_v (N := 26) (i := 4) (As := [.int (nI (u - 97))]) (rest := []) rfl rfl rfl rfl rfl rfl rfl) rfl ((g_takesLetter0 (d := 0) (fun _ => nI_le hm (by omega))).up (by omega)) ?_
  exact wz_retz rfl rfl (by decide) rfl
theorem g_nLet0b {X : Nat × (Nat → Int32)} {d : Nat} {A : CA} {R : RA} {o : Nat → Int64} {u : Nat} (hu : u < 256) (h1 : u ≠ 39) (h2 : u ≠ 40) (h3 : u ≠ 41) (h4 : u ≠ 44) (h5 : u ≠ 91) (h6 : u ≠ 93) (h57 : 57 < u) (h97 : u < 97) : px_ev X (d + 3) 14 [.ref 4, .int (nI u)] (WW A R o) (some (some (.int (nI 0))), WW A R o, 0, 0) := by
  refine wp_ev (d := d + 2) (by decide) rfl rfl (fun h => by cases h) ?_
  show wp X (d + 2) 14 (0, [.ref 4, .int (nI u)], [], WW A R o, 0, 0) _
  refine wz_iload_n (p9 := 1) rfl rfl rfl ?_
  refine wz_lsw (t9 := 90) rfl (q_lsd u hu h1 h2 h3 h4 h5 h6) ?_
  refine wz_iload_n (p9 := 91) rfl rfl rfl ?_
  refine wz_bipush (x := nI 50) (p9 := 93) rfl rfl (by decide) ?_
  refine wn_iclt (t9 := 113) (p9 := 96) rfl rfl rfl (by omega) (by omega) (fun h9 => by omega) (fun _ => ?_)
  refine wz_iload_n (p9 := 97) rfl rfl rfl ?_
  refine wz_bipush (x := nI 57) (p9 := 99) rfl rfl (by decide) ?_
  refine wn_icgt (t9 := 113) (p9 := 102) rfl rfl rfl (by omega) (by omega) (fun _ => ?_) (fun h9 => by omega)
  refine wz_aload_n (p9 := 114) rfl rfl rfl ?_
  refine wz_iload_n (p9 := 115) rfl rfl rfl ?_
  refine wz_bipush (x := nI 97) (p9 := 117) rfl rfl (by decide) ?_
  refine wz_isub (v := (nI u - nI 97)) (p9 := 118) rfl rfl rfl ?_
  refine wz_c1 (p9 := 121) (w1 := WW A R o) (u := .int (nI 0)) (wa_v (N := 26) (i := 4) (As := [.int (nI u - nI 97)]) (rest := []) rfl rfl rfl rfl rfl rfl rfl) rfl ((g_takesLetter0 (d := 0) (fun h => absurd (pk_sneg (by decide) h97) h)).up (by omega)) ?_
  exact wz_retz rfl rfl (by decide) rfl
theorem g_nLet0c {X : Nat × (Nat → Int32)} {d : Nat} {A : CA} {R : RA} {o : Nat → Int64} {u : Nat} (hu : u < 256) (h1 : u ≠ 39) (h2 : u ≠ 40) (h3 : u ≠ 41) (h4 : u ≠ 44) (h5 : u ≠ 91) (h6 : u ≠ 93) (h50 : u < 50) : px_ev X (d + 3) 14 [.ref 4, .int (nI u)] (WW A R o) (some (some (.int (nI 0))), WW A R o, 0, 0) := by
  refine wp_ev (d := d + 2) (by decide) rfl rfl (fun h => by cases h) ?_
  show wp X (d + 2) 14 (0, [.ref 4, .int (nI u)], [], WW A R o, 0, 0) _
  refine wz_iload_n (p9 := 1) rfl rfl rfl ?_
  refine wz_lsw (t9 := 90) rfl (q_lsd u hu h1 h2 h3 h4 h5 h6) ?_
  refine wz_iload_n (p9 := 91) rfl rfl rfl ?_
  refine wz_bipush (x := nI 50) (p9 := 93) rfl rfl (by decide) ?_
  refine wn_iclt (t9 := 113) (p9 := 96) rfl rfl rfl (by omega) (by omega) (fun _ => ?_) (fun h9 => by omega)
  refine wz_aload_n (p9 := 114) rfl rfl rfl ?_
  refine wz_iload_n (p9 := 115) rfl rfl rfl ?_
  refine wz_bipush (x := nI 97) (p9 := 117) rfl rfl (by decide) ?_
  refine wz_isub (v := (nI u - nI 97)) (p9 := 118) rfl rfl rfl ?_
  refine wz_c1 (p9 := 121) (w1 := WW A R o) (u := .int (nI 0)) (wa_v (N := 26) (i := 4) (As := [.int (nI u - nI 97)]) (rest := []) rfl rfl rfl rfl rfl rfl rfl) rfl ((g_takesLetter0 (d := 0) (fun h => absurd (pk_sneg (by decide) (by omega)) h)).up (by omega)) ?_
  exact wz_retz rfl rfl (by decide) rfl
theorem g_takesNext {X : Nat × (Nat → Int32)} {d : Nat} {A : CA} {R : RA} {o : Nat → Int64} {u : Nat} (hu : u < 256) (N : NV A) : px_ev X (d + 5) 14 [.ref 4, .int (nI u)] (WW A R o) (some (some (.int (nI (if (nx A u).isSome then 1 else 0)))), WW ((nx A u).getD A) R o, 0, 0) := by
  obtain ⟨T, hb, h8, hk, hs, hp, hl, hn⟩ := N
  have h4 : A.rc ≤ 400 := hb.1
  unfold nx
  by_cases h1 : u = 40 ∨ u = 91
  · rw [if_pos h1]
    by_cases h2 : A.dp < 8
    · rw [if_pos h2]
      rcases h1 with rfl | rfl
      · exact (g_nOpen1_40 (d := 0) h2).up (by omega)
      · exact (g_nOpen1_91 (d := 0) h2).up (by omega)
    · rw [if_neg h2]
      rcases h1 with rfl | rfl
      · exact (g_nOpen0_40 (d := 0) (by omega)).up (by omega)
      · exact (g_nOpen0_91 (d := 0) (by omega)).up (by omega)
  rw [if_neg h1]
  by_cases h2 : u = 44
  · rw [if_pos h2]
    subst h2
    by_cases h3 : 0 < A.dp ∧ A.kd (A.dp - 1) = 91
    · rw [if_pos h3]; exact (g_nComma1 (d := 0) h3.1 h8 h3.2).up (by omega)
    · rw [if_neg h3]; exact (g_nComma0 (d := 0) h8 hk (fun q e => h3 ⟨q, e⟩)).up (by omega)
  rw [if_neg h2]
  by_cases h3 : u = 41
  · rw [if_pos h3]
    subst h3
    by_cases h3 : 0 < A.dp ∧ A.kd (A.dp - 1) = 40
    · rw [if_pos h3]; exact (g_nClR1 (d := 0) h3.1 h8 h3.2).up (by omega)
    · rw [if_neg h3]; exact (g_nClR0 (d := 0) h8 hk (fun q e => h3 ⟨q, e⟩)).up (by omega)
  rw [if_neg h3]
  by_cases h5 : u = 93
  · rw [if_pos h5]
    subst h5
    by_cases h3 : 0 < A.dp ∧ A.kd (A.dp - 1) = 44
    · rw [if_pos h3]
      have h9 := (hs (A.dp - 1) (by omega)).2 h3.2
      exact (g_nClC1 (d := 0) T h3.1 h8 h3.2 hb h9.1 h9.2).up (by omega)
    · rw [if_neg h3]; exact (g_nClC0 (d := 0) h8 hk (fun q e => h3 ⟨q, e⟩)).up (by omega)
  rw [if_neg h5]
  by_cases h6 : u = 39
  · rw [if_pos h6]
    subst h6
    by_cases h3 : A.sn ≠ 0
    · rw [if_pos h3]; exact (g_nTurn1 (d := 0) T hn h3 (Nat.le_trans (hp h3) h4) h4 (fun q _ h => hb.2.1 q h)).up (by omega)
    · rw [if_neg h3]; exact (g_nTurn0 (d := 0) (by omega)).up (by omega)
  rw [if_neg h6]
  by_cases h7 : 50 ≤ u ∧ u ≤ 57
  · rw [if_pos h7]
    by_cases h3 : A.sn = 2
    · rw [if_pos h3]
      have hp := hp (by omega)
      by_cases h9 : A.pl = 1
      · rw [if_pos h9]; exact (g_nDigL (d := 0) hu h7.1 h7.2 T hb (by omega) h3 h9).up (by omega)
      · rw [if_neg h9]; exact (g_nDigP (d := 0) hu h7.1 h7.2 T hb hp h3 (by omega)).up (by omega)
    · rw [if_neg h3]; exact (g_nDig0 (d := 0) hu h7.1 h7.2 hn h3).up (by omega)
  rw [if_neg h7]
  have hm6 := T.m6
  by_cases h9 : 97 ≤ u ∧ u - 97 < A.Mv
  · rw [if_pos h9]; exact (g_nLet1 (d := 0) (by omega) h6 (by omega) h3 h2 (by omega) h5 T h9.1 h9.2 h4).up (by omega)
  · rw [if_neg h9]
    by_cases h10 : 97 ≤ u
    · exact (g_nLet0a (d := 0) hu h6 (by omega) h3 h2 (by omega) h5 h10 (by omega)).up (by omega)
    · by_cases h11 : u < 50
      · exact (g_nLet0c (d := 0) hu h6 (by omega) h3 h2 (by omega) h5 h11).up (by omega)
      · exact (g_nLet0b (d := 0) hu h6 (by omega) h3 h2 (by omega) h5 (by omega) (by omega)).up (by omega)
