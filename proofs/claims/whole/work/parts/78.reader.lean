/-! THE READER OF THE CLASS (wip/whole/gen/mk78.py) -/
def pu (x : Nat) (b : Nat × (Nat → Nat) × Nat) : Nat × (Nat → Nat) × Nat := if b.1 < 400 then (b.1 + 1, un b.2.1 b.1 x, b.2.2) else (b.1, b.2.1, 1)
/-- a row turned round -/
def tw (od : Nat → Nat) (x : Nat) : Nat := x / 16 * 16 + (od (x / 16) - x % 16) % od (x / 16)
def pt (od : Nat → Nat) (f : Nat) : Nat → Nat × (Nat → Nat) × Nat → Nat × (Nat → Nat) × Nat
  | 0, b => b
  | j + 1, b => pt od f j (pu (tw od (b.2.1 (f + j))) b)
def cp : Nat → Nat → Nat × (Nat → Nat) × Nat → Nat × (Nat → Nat) × Nat
  | _, 0, b => b
  | f, j + 1, b => cp (f + 1) j (pu (b.2.1 f) b)
def rp (f e : Nat) : Nat → Nat × (Nat → Nat) × Nat → Nat × (Nat → Nat) × Nat
  | 0, b => b
  | j + 1, b => rp f e j (cp f (e - f) b)
def rv (od : Nat → Nat) (lo hi : Nat) (f : Nat → Nat) : Nat → Nat := fun q => if lo ≤ q ∧ q < hi then tw od (f (lo + hi - 1 - q)) else f q
def sbs (A : CA) (b : Nat × (Nat → Nat) × Nat) : CA := CA.s_bu (CA.s_ov (CA.s_rc A b.1) b.2.2) b.2.1
theorem TV.o1 {P Mv : Nat} {t od : Nat → Nat} (T : TV P Mv t od) {m : Nat} (h : m < 6) : 1 ≤ od m := (T.ho m h).1
theorem TV.o12 {P Mv : Nat} {t od : Nat → Nat} (T : TV P Mv t od) {m : Nat} (h : m < 6) : od m ≤ 12 := (T.ho m h).2.1
/-- a row of the buffer -/
def ro (od : Nat → Nat) (x : Nat) : Prop := x < 96 ∧ x % 16 < od (x / 16)
def BV (od : Nat → Nat) (b : Nat × (Nat → Nat) × Nat) : Prop := b.1 ≤ 400 ∧ (∀ i, i < b.1 → ro od (b.2.1 i)) ∧ b.2.2 < 2
theorem ro_tw {od : Nat → Nat} (ho : ∀ m, m < 6 → 1 ≤ od m ∧ od m ≤ 12) {x : Nat} (h : ro od x) : ro od (tw od x) := by
  have h0 := h.1
  have h1 := ho (x / 16) (by omega)
  have h2 : (od (x / 16) - x % 16) % od (x / 16) < od (x / 16) := Nat.mod_lt _ (by omega)
  have h3 : tw od x / 16 = x / 16 := by unfold tw; omega
  have h4 : tw od x % 16 = (od (x / 16) - x % 16) % od (x / 16) := by unfold tw; omega
  exact ⟨by unfold tw; omega, by rw [h3, h4]; exact h2⟩
theorem BV_pu {od : Nat → Nat} {b : Nat × (Nat → Nat) × Nat} {x : Nat} (h : BV od b) (hx : ro od x) : BV od (pu x b) := by
  unfold pu
  split
  · refine ⟨by show b.1 + 1 ≤ 400; omega, fun i hi => ?_, h.2.2⟩
    show ro od (un b.2.1 b.1 x i)
    by_cases hq : i = b.1
    · rw [hq, un_at]; exact hx
    · rw [un_ne hq]; exact h.2.1 i (by have : i < b.1 + 1 := hi; omega)
  · exact ⟨h.1, h.2.1, show 1 < 2 by decide⟩
theorem pu_lt {b : Nat × (Nat → Nat) × Nat} {x i : Nat} (h : i < b.1) : (pu x b).2.1 i = b.2.1 i := by
  unfold pu
  split
  · exact un_ne (by omega)
  · rfl
theorem pu_le {b : Nat × (Nat → Nat) × Nat} {x : Nat} : b.1 ≤ (pu x b).1 := by
  unfold pu
  split
  · show b.1 ≤ b.1 + 1; omega
  · exact Nat.le_refl _
theorem g_less {X : Nat × (Nat → Int32)} {d : Nat} {A : CA} {R : RA} {o : Nat → Int64} (T : TV A.P A.Mv A.t A.od) {m x : Nat} (hm : m < 6) (hx : x < 2147483648) : px_ev X (d + 1) 3 [.ref 1, .int (nI m), .int (nI x)] (WW A R o) (some (some (.int (nI (x % A.od m)))), WW A R o, 0, 0) := by
  refine wp_ev (d := d + 0) (by decide) rfl rfl (fun h => by cases h) ?_
  show wp X (d + 0) 3 (0, [.ref 1, .int (nI m), .int (nI x), .retAddr 0], [], WW A R o, 0, 0) _
  refine wz_aload_n (p9 := 1) rfl rfl rfl ?_
  refine wz_get (v := .ref 3) (p9 := 4) rfl rfl rfl rfl rfl ?_
  refine wz_iload_n (p9 := 5) rfl rfl rfl ?_
  refine wl_Aod (f := A.od) (p9 := 6) rfl rfl rfl (by omega) ?_
  have b5 := (T.ho m (by omega)).2.1
  refine wz_istore_n (l9 := [.ref 1, .int (nI m), .int (nI x), .int (nI (A.od m))]) (p9 := 7) rfl rfl rfl rfl ?_
  refine wz_iload_n (p9 := 8) rfl rfl rfl ?_
  refine wz_iconst (x := nI 2) (p9 := 9) rfl rfl (by decide) ?_
  refine wn_icge (t9 := 16) (p9 := 12) rfl rfl rfl (by omega) (by omega) (fun h9 => ?_) (fun h9 => ?_)
  · refine wz_iload_n (p9 := 17) rfl rfl rfl ?_
    refine wz_iload_n (p9 := 18) rfl rfl rfl ?_
    refine wn_rem (p9 := 19) rfl rfl (by omega) (by omega) (by omega) ?_
    have b9 := T.o1 hm
    exact wz_reti rfl rfl rfl
  · refine wz_iconst (x := nI 0) (p9 := 13) rfl rfl (by decide) ?_
    refine wz_goto (p9 := 19) rfl rfl ?_
    have b9 := T.o1 hm
    exact wz_reti rfl rfl (by rw [show A.od m = 1 by omega, Nat.mod_one])
theorem g_turnedRow {X : Nat × (Nat → Int32)} {d : Nat} {A : CA} {R : RA} {o : Nat → Int64} (T : TV A.P A.Mv A.t A.od) {x : Nat} (hx : ro A.od x) : px_ev X (d + 2) 19 [.ref 4, .int (nI x)] (WW A R o) (some (some (.int (nI (tw A.od x)))), WW A R o, 0, 0) := by
  refine wp_ev (d := d + 1) (by decide) rfl rfl (fun h => by cases h) ?_
  show wp X (d + 1) 19 (0, [.ref 4, .int (nI x), .retAddr 0], [], WW A R o, 0, 0) _
  have b0 := hx.1
  have b1 := hx.2
  have b2 := T.o12 (m := x / 16) (by omega)
  have b3 : (A.od (x / 16) - x % 16) % A.od (x / 16) < A.od (x / 16) := Nat.mod_lt _ (by omega)
  refine wz_iload_n (p9 := 1) rfl rfl rfl ?_
  refine wz_iconst (x := nI 4) (p9 := 2) rfl rfl (by decide) ?_
  refine wn_shr4 (p9 := 3) rfl rfl (by omega) ?_
  refine wz_istore_n (l9 := [.ref 4, .int (nI x), .int (nI (x / 16))]) (p9 := 4) rfl rfl rfl rfl ?_
  refine wz_iload_n (p9 := 5) rfl rfl rfl ?_
  refine wz_iconst (x := nI 4) (p9 := 6) rfl rfl (by decide) ?_
  refine wn_shl4 (p9 := 7) rfl rfl ?_
  refine wz_aload_n (p9 := 8) rfl rfl rfl ?_
  refine wz_get (v := .ref 1) (p9 := 11) rfl rfl rfl rfl rfl ?_
  refine wz_iload_n (p9 := 12) rfl rfl rfl ?_
  refine wz_aload_n (p9 := 13) rfl rfl rfl ?_
  refine wz_get (v := .ref 1) (p9 := 16) rfl rfl rfl rfl rfl ?_
  refine wz_iload_n (p9 := 17) rfl rfl rfl ?_
  refine wz_c1 (p9 := 20) (w1 := WW A R o) (u := .int (nI (A.od (x / 16)))) (wa_v (N := 2) (i := 1) (As := [.int (nI (x / 16))]) (rest := [.int (nI (x / 16)), .ref 1, .int (nI ((x / 16) * 16))]) rfl rfl rfl rfl rfl rfl rfl) rfl ((g_orderOf (d := 0) T (by omega)).up (by omega)) ?_
  refine wz_iload_n (p9 := 21) rfl rfl rfl ?_
  refine wz_bipush (x := nI 15) (p9 := 23) rfl rfl (by decide) ?_
  refine wn_and15 (p9 := 24) rfl rfl ?_
  refine wn_sub (p9 := 25) rfl rfl (by omega) ?_
  refine wz_c1 (p9 := 28) (w1 := WW A R o) (u := .int (nI (((A.od (x / 16)) - (x % 16)) % A.od (x / 16)))) (wa_v (N := 3) (i := 1) (As := [.int (nI (x / 16)), .int (nI ((A.od (x / 16)) - (x % 16)))]) (rest := [.int (nI ((x / 16) * 16))]) rfl rfl rfl rfl rfl rfl rfl) rfl ((g_less (d := 0) T (by omega) (by omega)).up (by omega)) ?_
  refine wn_or16 (p9 := 29) rfl rfl (by omega) ?_
  exact wz_reti rfl rfl rfl
theorem g_push {X : Nat × (Nat → Int32)} {d : Nat} {A : CA} {R : RA} {o : Nat → Int64} {x : Nat} {b : Nat × (Nat → Nat) × Nat} (hb : (A.rc, A.bu, A.ov) = b) (h4 : b.1 ≤ 400) : px_ev X (d + 1) 20 [.ref 4, .int (nI x)] (WW A R o) (some none, WW (sbs A (pu x b)) R o, 0, 0) := by
  refine wp_ev (d := d + 0) (by decide) rfl rfl (fun h => by cases h) ?_
  show wp X (d + 0) 20 (0, [.ref 4, .int (nI x)], [], WW A R o, 0, 0) _
  subst hb
  have h4 : A.rc ≤ 400 := h4
  refine wz_aload_n (p9 := 1) rfl rfl rfl ?_
  refine wz_get (v := .int (nI A.rc)) (p9 := 4) rfl rfl rfl rfl rfl ?_
  refine wz_sipush (x := nI 400) (p9 := 7) rfl rfl (by decide) ?_
  refine wn_iclt (t9 := 16) (p9 := 10) rfl rfl rfl (by omega) (by omega) (fun h7 => ?_) (fun h7 => ?_)
  · refine wz_aload_n (p9 := 17) rfl rfl rfl ?_
    refine wz_get (v := .ref 9) (p9 := 20) rfl rfl rfl rfl rfl ?_
    refine wz_aload_n (p9 := 21) rfl rfl rfl ?_
    refine wz_get (v := .int (nI A.rc)) (p9 := 24) rfl rfl rfl rfl rfl ?_
    refine wz_iload_n (p9 := 25) rfl rfl rfl ?_
    refine ws_Abu (f := A.bu) (p9 := 26) rfl rfl rfl (by omega) (A1 := (CA.s_bu A (un A.bu A.rc x))) rfl ?_
    refine wz_aload_n (p9 := 27) rfl rfl rfl ?_
    refine wz_dupr (p9 := 28) rfl rfl ?_
    refine wz_get (v := .int (nI A.rc)) (p9 := 31) rfl rfl rfl rfl rfl ?_
    refine wz_iconst (x := nI 1) (p9 := 32) rfl rfl (by decide) ?_
    refine wn_add (p9 := 33) rfl rfl ?_
    refine wp_Arc (x := (A.rc + 1)) (p9 := 36) rfl rfl rfl rfl (A1 := (CA.s_rc (CA.s_bu A (un A.bu A.rc x)) (A.rc + 1))) rfl ?_
    exact wz_retv rfl rfl (by rw [show pu x (A.rc, A.bu, A.ov) = (A.rc + 1, un A.bu A.rc x, A.ov) from if_pos h7]; rfl)
  · refine wz_aload_n (p9 := 11) rfl rfl rfl ?_
    refine wz_iconst (x := nI 1) (p9 := 12) rfl rfl (by decide) ?_
    refine wp_Aov (x := 1) (p9 := 15) rfl rfl rfl rfl (by omega) (A1 := (CA.s_ov A 1)) rfl ?_
    exact wz_retv rfl rfl (by rw [show pu x (A.rc, A.bu, A.ov) = (A.rc, A.bu, 1) from if_neg (by show ¬ A.rc < 400; omega)]; rfl)
theorem q_m1 {f : Nat} (hf : f < 1073741824) : (nI f + (-1)).toInt = (f : Int) - 1 := by
  rw [show nI f + (-1) = nI f - nI 1 from (Int32.sub_eq_add_neg _ _).symm]
  exact pk_sub_toInt hf (by decide)
theorem l_pushTurned {X : Nat × (Nat → Int32)} {d : Nat} {A : CA} {R : RA} {o : Nat → Int64} (T : TV A.P A.Mv A.t A.od) {k z f e : Nat} (hf : f < 1073741824) {Q : px_Z → Prop} : ∀ (j : Nat) (b : Nat × (Nat → Nat) × Nat), BV A.od b → f + j ≤ b.1 → (∀ v, wp X (d + 2) 18 (29, [.ref 4, .int (nI f), .int (nI e), v], [], WW (sbs A (pt A.od f j b)) R o, k, z) Q) → wp X (d + 2) 18 (4, [.ref 4, .int (nI f), .int (nI e), .int (nI (f + j) + (-1))], [], WW (sbs A b) R o, k, z) Q
  | 0, b, h, hj, kk => by
    show wp X (d + 2) 18 (4, [.ref 4, .int (nI f), .int (nI e), .int (nI (f + 0) + (-1))], [], WW (CA.s_ov (CA.s_rc (CA.s_bu A b.2.1) b.1) b.2.2) R o, k, z) Q
    refine wz_iload_n (p9 := 5) rfl rfl rfl ?_
    refine wz_iload_n (p9 := 6) rfl rfl rfl ?_
    refine wz_iclt (t9 := 29) (p9 := 9) rfl rfl rfl (fun _ => ?_) (fun h9 => absurd (Int32.lt_iff_toInt_lt.mpr (by show (nI f + (-1)).toInt < _; rw [q_m1 hf, nI_toInt (by omega)]; omega)) h9)
    exact kk _
  | j + 1, b, h, hj, kk => by
    rw [show nI (f + (j + 1)) + (-1) = nI (f + j) from pk_m1 (f + j)]
    have h0 := h.1
    show wp X (d + 2) 18 (4, [.ref 4, .int (nI f), .int (nI e), .int (nI (f + j))], [], WW (CA.s_ov (CA.s_rc (CA.s_bu A b.2.1) b.1) b.2.2) R o, k, z) Q
    refine wz_iload_n (p9 := 5) rfl rfl rfl ?_
    refine wz_iload_n (p9 := 6) rfl rfl rfl ?_
    refine wn_iclt (t9 := 29) (p9 := 9) rfl rfl rfl (by omega) (by omega) (fun h9 => by omega) (fun _ => ?_)
    refine wz_aload_n (p9 := 10) rfl rfl rfl ?_
    refine wz_aload_n (p9 := 11) rfl rfl rfl ?_
    refine wz_aload_n (p9 := 12) rfl rfl rfl ?_
    refine wz_get (v := .ref 9) (p9 := 15) rfl rfl rfl rfl rfl ?_
    refine wz_iload_n (p9 := 16) rfl rfl rfl ?_
    refine wl_Abu (f := b.2.1) (p9 := 17) rfl rfl rfl (by omega) ?_
    refine wz_c1 (p9 := 20) (w1 := WW (CA.s_ov (CA.s_rc (CA.s_bu A b.2.1) b.1) b.2.2) R o) (u := .int (nI (tw A.od (b.2.1 (f + j))))) (wa_v (N := 19) (i := 4) (As := [.int (nI (b.2.1 (f + j)))]) (rest := [.ref 4]) rfl rfl rfl rfl rfl rfl rfl) rfl ((g_turnedRow (d := 0) (A := (CA.s_ov (CA.s_rc (CA.s_bu A b.2.1) b.1) b.2.2)) (R := R) T (h.2.1 (f + j) (by omega))).up (by omega)) ?_
    refine wz_c0 (p9 := 23) (w1 := WW (CA.s_ov (CA.s_rc (CA.s_bu A ((pu (tw A.od (b.2.1 (f + j))) b).2.1)) ((pu (tw A.od (b.2.1 (f + j))) b).1)) ((pu (tw A.od (b.2.1 (f + j))) b).2.2)) R o) (wa_v (N := 20) (i := 4) (As := [.int (nI (tw A.od (b.2.1 (f + j))))]) (rest := []) rfl rfl rfl rfl rfl rfl rfl) rfl ((g_push (d := 0) (A := (CA.s_ov (CA.s_rc (CA.s_bu A b.2.1) b.1) b.2.2)) (R := R) rfl h.1).up (by omega)) ?_
    refine wz_iinc (y := ((nI (f + j)) + (-1))) (l9 := [.ref 4, .int (nI f), .int (nI e), .int ((nI (f + j)) + (-1))]) (p9 := 26) rfl rfl rfl rfl rfl ?_
    refine wz_goto (p9 := 4) rfl rfl ?_
    exact l_pushTurned T hf j (pu (tw A.od (b.2.1 (f + j))) b) (BV_pu h (ro_tw (fun m hm => ⟨T.o1 hm, T.o12 hm⟩) (h.2.1 _ (by omega)))) (by have := pu_le (b := b) (x := tw A.od (b.2.1 (f + j))); omega) kk
theorem g_pushTurned {X : Nat × (Nat → Int32)} {d : Nat} {A : CA} {R : RA} {o : Nat → Int64} (T : TV A.P A.Mv A.t A.od) {f e : Nat} {b : Nat × (Nat → Nat) × Nat} (hb : (A.rc, A.bu, A.ov) = b) (h : BV A.od b) (hf : f ≤ e) (he : e ≤ b.1) : px_ev X (d + 3) 18 [.ref 4, .int (nI f), .int (nI e)] (WW A R o) (some none, WW (sbs A (pt A.od f (e - f) b)) R o, 0, 0) := by
  refine wp_ev (d := d + 2) (by decide) rfl rfl (fun h => by cases h) ?_
  show wp X (d + 2) 18 (0, [.ref 4, .int (nI f), .int (nI e), .retAddr 0], [], WW A R o, 0, 0) _
  subst hb
  refine wz_iload_n (p9 := 1) rfl rfl rfl ?_
  refine wz_iconst (x := nI 1) (p9 := 2) rfl rfl (by decide) ?_
  refine wz_isub (v := (nI e + (-1))) (p9 := 3) rfl rfl (Int32.sub_eq_add_neg _ _) ?_
  refine wz_istore_n (l9 := [.ref 4, .int (nI f), .int (nI e), .int (nI e + (-1))]) (p9 := 4) rfl rfl rfl rfl ?_
  rw [show nI e = nI (f + (e - f)) from congrArg nI (by omega)]
  refine l_pushTurned (A := A) T (by have := h.1; omega) (e := f + (e - f)) (e - f) (A.rc, A.bu, A.ov) h (by omega) (fun v => ?_)
  exact wz_retv rfl rfl rfl
