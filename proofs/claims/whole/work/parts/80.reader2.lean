/-! THE READER OF THE CLASS, on (wip/whole/gen/mk80.py) -/
theorem g_endPart {X : Nat × (Nat → Int32)} {d : Nat} {A : CA} {R : RA} {o : Nat → Int64} {x y : Nat} (hy : y < 2) : px_ev X (d + 1) 21 [.ref 4, .int (nI x), .int (nI y)] (WW A R o) (some none, WW (CA.s_sn (CA.s_pl (CA.s_ps A x) y) 2) R o, 0, 0) := by
  refine wp_ev (d := d + 0) (by decide) rfl rfl (fun h => by cases h) ?_
  show wp X (d + 0) 21 (0, [.ref 4, .int (nI x), .int (nI y)], [], WW A R o, 0, 0) _
  refine wz_aload_n (p9 := 1) rfl rfl rfl ?_
  refine wz_iload_n (p9 := 2) rfl rfl rfl ?_
  refine wp_Aps (x := x) (p9 := 5) rfl rfl rfl rfl (A1 := (CA.s_ps A x)) rfl ?_
  refine wz_aload_n (p9 := 6) rfl rfl rfl ?_
  refine wz_iload_n (p9 := 7) rfl rfl rfl ?_
  refine wp_Apl (x := y) (p9 := 10) rfl rfl rfl rfl (by omega) (A1 := (CA.s_pl (CA.s_ps A x) y)) rfl ?_
  refine wz_aload_n (p9 := 11) rfl rfl rfl ?_
  refine wz_iconst (x := nI 2) (p9 := 12) rfl rfl (by decide) ?_
  refine wp_Asn (x := 2) (p9 := 15) rfl rfl rfl rfl (A1 := (CA.s_pl (CA.s_ps (CA.s_sn A 2) x) y)) rfl ?_
  exact wz_retv rfl rfl rfl
theorem g_dropText {X : Nat × (Nat → Int32)} {d : Nat} {A : CA} {R : RA} {o : Nat → Int64}  : px_ev X (d + 1) 27 [.ref 4] (WW A R o) (some (some (.int (nI A.bc))), WW (CA.s_bc A 0) R o, 0, 0) := by
  refine wp_ev (d := d + 0) (by decide) rfl rfl (fun h => by cases h) ?_
  show wp X (d + 0) 27 (0, [.ref 4, .retAddr 0], [], WW A R o, 0, 0) _
  refine wz_aload_n (p9 := 1) rfl rfl rfl ?_
  refine wz_get (v := .int (nI A.bc)) (p9 := 4) rfl rfl rfl rfl rfl ?_
  refine wz_istore_n (l9 := [.ref 4, .int (nI A.bc)]) (p9 := 5) rfl rfl rfl rfl ?_
  refine wz_aload_n (p9 := 6) rfl rfl rfl ?_
  refine wz_iconst (x := nI 0) (p9 := 7) rfl rfl (by decide) ?_
  refine wp_Abc (x := 0) (p9 := 10) rfl rfl rfl rfl (A1 := (CA.s_bc A 0)) rfl ?_
  refine wz_iload_n (p9 := 11) rfl rfl rfl ?_
  exact wz_reti rfl rfl rfl
theorem g_isOpen {X : Nat × (Nat → Int32)} {d : Nat} {A : CA} {R : RA} {o : Nat → Int64} (h : A.dp ≤ 8) : px_ev X (d + 1) 28 [.ref 4] (WW A R o) (some (some (.int (nI (if 0 < A.dp then 1 else 0)))), WW A R o, 0, 0) := by
  refine wp_ev (d := d + 0) (by decide) rfl rfl (fun h => by cases h) ?_
  show wp X (d + 0) 28 (0, [.ref 4], [], WW A R o, 0, 0) _
  refine wz_aload_n (p9 := 1) rfl rfl rfl ?_
  refine wz_get (v := .int (nI A.dp)) (p9 := 4) rfl rfl rfl rfl rfl ?_
  refine wn_ifle (t9 := 11) (p9 := 7) rfl rfl rfl (by omega) (fun h4 => ?_) (fun h4 => ?_)
  · refine wz_iconst (x := nI 0) (p9 := 12) rfl rfl (by decide) ?_
    exact wz_retz rfl rfl (by decide) (by rw [if_neg (by omega)])
  · refine wz_iconst (x := nI 1) (p9 := 8) rfl rfl (by decide) ?_
    refine wz_goto (p9 := 12) rfl rfl ?_
    exact wz_retz rfl rfl (by decide) (by rw [if_pos h4])
theorem g_isOver {X : Nat × (Nat → Int32)} {d : Nat} {A : CA} {R : RA} {o : Nat → Int64} (h : A.ov < 2) : px_ev X (d + 1) 29 [.ref 4] (WW A R o) (some (some (.int (nI A.ov))), WW A R o, 0, 0) := by
  refine wp_ev (d := d + 0) (by decide) rfl rfl (fun h => by cases h) ?_
  show wp X (d + 0) 29 (0, [.ref 4], [], WW A R o, 0, 0) _
  refine wz_aload_n (p9 := 1) rfl rfl rfl ?_
  refine wz_get (v := .int (nI A.ov)) (p9 := 4) rfl rfl rfl rfl rfl ?_
  exact wz_retz rfl rfl (by rcases (by omega : A.ov = 0 ∨ A.ov = 1) with h | h <;> rw [h] <;> decide) rfl
theorem g_readBuffer {X : Nat × (Nat → Int32)} {d : Nat} {A : CA} {R : RA} {o : Nat → Int64}  : px_ev X (d + 1) 31 [.ref 4] (WW A R o) (some (some (.ref 9)), WW A R o, 0, 0) := by
  refine wp_ev (d := d + 0) (by decide) rfl rfl (fun h => by cases h) ?_
  show wp X (d + 0) 31 (0, [.ref 4], [], WW A R o, 0, 0) _
  refine wz_aload_n (p9 := 1) rfl rfl rfl ?_
  refine wz_get (v := .ref 9) (p9 := 4) rfl rfl rfl rfl rfl ?_
  exact wz_reta rfl rfl rfl
theorem g_takeByte1 {X : Nat × (Nat → Int32)} {d : Nat} {A : CA} {R : RA} {o : Nat → Int64} {u : Nat} (hu : u < 256) (hb : A.bc < 100) : px_ev X (d + 1) 12 [.ref 4, .int (nI u)] (WW A R o) (some (some (.int (nI 1))), WW (CA.s_tx (CA.s_bc A (A.bc + 1)) (un A.tx A.bc u)) R o, 0, 0) := by
  refine wp_ev (d := d + 0) (by decide) rfl rfl (fun h => by cases h) ?_
  show wp X (d + 0) 12 (0, [.ref 4, .int (nI u)], [], WW A R o, 0, 0) _
  refine wz_iload_n (p9 := 1) rfl rfl rfl ?_
  refine wn_iflt (t9 := 20) (p9 := 4) rfl rfl rfl (by omega) (fun h9 => by omega) (fun _ => ?_)
  refine wz_iload_n (p9 := 5) rfl rfl rfl ?_
  refine wz_sipush (x := nI 255) (p9 := 8) rfl rfl (by decide) ?_
  refine wn_icgt (t9 := 20) (p9 := 11) rfl rfl rfl (by omega) (by omega) (fun h9 => by omega) (fun _ => ?_)
  refine wz_aload_n (p9 := 12) rfl rfl rfl ?_
  refine wz_get (v := .int (nI A.bc)) (p9 := 15) rfl rfl rfl rfl rfl ?_
  refine wz_bipush (x := nI 100) (p9 := 17) rfl rfl (by decide) ?_
  refine wn_iclt (t9 := 22) (p9 := 20) rfl rfl rfl (by omega) (by omega) (fun _ => ?_) (fun h9 => by omega)
  refine wz_aload_n (p9 := 23) rfl rfl rfl ?_
  refine wz_get (v := .ref 5) (p9 := 26) rfl rfl rfl rfl rfl ?_
  refine wz_aload_n (p9 := 27) rfl rfl rfl ?_
  refine wz_get (v := .int (nI A.bc)) (p9 := 30) rfl rfl rfl rfl rfl ?_
  refine wz_iload_n (p9 := 31) rfl rfl rfl ?_
  refine ws_Atx (f := A.tx) (p9 := 32) rfl rfl rfl (by omega) (A1 := (CA.s_tx A (un A.tx A.bc u))) rfl ?_
  refine wz_aload_n (p9 := 33) rfl rfl rfl ?_
  refine wz_dupr (p9 := 34) rfl rfl ?_
  refine wz_get (v := .int (nI A.bc)) (p9 := 37) rfl rfl rfl rfl rfl ?_
  refine wz_iconst (x := nI 1) (p9 := 38) rfl rfl (by decide) ?_
  refine wn_add (p9 := 39) rfl rfl ?_
  refine wp_Abc (x := (A.bc + 1)) (p9 := 42) rfl rfl rfl rfl (A1 := (CA.s_tx (CA.s_bc A (A.bc + 1)) (un A.tx A.bc u))) rfl ?_
  refine wz_iconst (x := nI 1) (p9 := 43) rfl rfl (by decide) ?_
  exact wz_retz rfl rfl (by decide) rfl
theorem g_takeByte0 {X : Nat × (Nat → Int32)} {d : Nat} {A : CA} {R : RA} {o : Nat → Int64} {u : Int32} (hc : A.bc ≤ 100) (h : ¬ u < 0 → ¬ nI 255 < u → A.bc < 100 → False) : px_ev X (d + 1) 12 [.ref 4, .int u] (WW A R o) (some (some (.int (nI 0))), WW A R o, 0, 0) := by
  refine wp_ev (d := d + 0) (by decide) rfl rfl (fun h => by cases h) ?_
  show wp X (d + 0) 12 (0, [.ref 4, .int u], [], WW A R o, 0, 0) _
  refine wz_iload_n (p9 := 1) rfl rfl rfl ?_
  refine wz_iflt (t9 := 20) (p9 := 4) rfl rfl rfl (fun h1 => ?_) (fun h1 => ?_)
  · refine wz_iconst (x := nI 0) (p9 := 21) rfl rfl (by decide) ?_
    exact wz_retz rfl rfl (by decide) rfl
  · refine wz_iload_n (p9 := 5) rfl rfl rfl ?_
    refine wz_sipush (x := nI 255) (p9 := 8) rfl rfl (by decide) ?_
    refine wz_icgt (t9 := 20) (p9 := 11) rfl rfl rfl (fun h8 => ?_) (fun h8 => ?_)
    · refine wz_iconst (x := nI 0) (p9 := 21) rfl rfl (by decide) ?_
      exact wz_retz rfl rfl (by decide) rfl
    · refine wz_aload_n (p9 := 12) rfl rfl rfl ?_
      refine wz_get (v := .int (nI A.bc)) (p9 := 15) rfl rfl rfl rfl rfl ?_
      refine wz_bipush (x := nI 100) (p9 := 17) rfl rfl (by decide) ?_
      refine wn_iclt (t9 := 22) (p9 := 20) rfl rfl rfl (by omega) (by omega) (fun h9 => (h (fun q => h1 q) (fun q => h8 q) h9).elim) (fun _ => ?_)
      refine wz_iconst (x := nI 0) (p9 := 21) rfl rfl (by decide) ?_
      exact wz_retz rfl rfl (by decide) rfl
def rlt (od : Nat → Nat) (p x : Nat) (b : Nat × (Nat → Nat) × Nat) : Nat × (Nat → Nat) × Nat := if p < b.1 then (b.1, un b.2.1 p (b.2.1 p / 16 * 16 + x % od (b.2.1 p / 16)), b.2.2) else b
theorem g_repeatLetter {X : Nat × (Nat → Int32)} {d : Nat} {A : CA} {R : RA} {o : Nat → Int64} (T : TV A.P A.Mv A.t A.od) {x : Nat} {b : Nat × (Nat → Nat) × Nat} (hb : (A.rc, A.bu, A.ov) = b) (h : BV A.od b) (hp : A.ps ≤ 400) (hx : x < 10) : px_ev X (d + 2) 24 [.ref 4, .int (nI x)] (WW A R o) (some none, WW (sbs A (rlt A.od A.ps x b)) R o, 0, 0) := by
  refine wp_ev (d := d + 1) (by decide) rfl rfl (fun h => by cases h) ?_
  show wp X (d + 1) 24 (0, [.ref 4, .int (nI x), .retAddr 0], [], WW A R o, 0, 0) _
  subst hb
  have h4 : A.rc ≤ 400 := h.1
  have h5 : A.ps < A.rc → ro A.od (A.bu A.ps) := h.2.1 A.ps
  by_cases hq : A.ps < A.rc
  case neg =>
    rw [show rlt A.od A.ps x (A.rc, A.bu, A.ov) = (A.rc, A.bu, A.ov) from if_neg hq]
    refine wz_aload_n (p9 := 1) rfl rfl rfl ?_
    refine wz_get (v := .int (nI A.ps)) (p9 := 4) rfl rfl rfl rfl rfl ?_
    refine wz_aload_n (p9 := 5) rfl rfl rfl ?_
    refine wz_get (v := .int (nI A.rc)) (p9 := 8) rfl rfl rfl rfl rfl ?_
    refine wn_icge (t9 := 45) (p9 := 11) rfl rfl rfl (by omega) (by omega) (fun _ => ?_) (fun h9 => by omega)
    exact wz_retv rfl rfl rfl
  rw [show rlt A.od A.ps x (A.rc, A.bu, A.ov) = (A.rc, un A.bu A.ps (A.bu A.ps / 16 * 16 + x % A.od (A.bu A.ps / 16)), A.ov) from if_pos hq]
  have h6 := (h5 hq).1
  have h7 := T.o12 (m := A.bu A.ps / 16) (by omega)
  have h8 := T.o1 (m := A.bu A.ps / 16) (by omega)
  have h9 : x % A.od (A.bu A.ps / 16) < A.od (A.bu A.ps / 16) := Nat.mod_lt _ (by omega)
  refine wz_aload_n (p9 := 1) rfl rfl rfl ?_
  refine wz_get (v := .int (nI A.ps)) (p9 := 4) rfl rfl rfl rfl rfl ?_
  refine wz_aload_n (p9 := 5) rfl rfl rfl ?_
  refine wz_get (v := .int (nI A.rc)) (p9 := 8) rfl rfl rfl rfl rfl ?_
  refine wn_icge (t9 := 45) (p9 := 11) rfl rfl rfl (by omega) (by omega) (fun h9 => by omega) (fun _ => ?_)
  refine wz_aload_n (p9 := 12) rfl rfl rfl ?_
  refine wz_get (v := .ref 9) (p9 := 15) rfl rfl rfl rfl rfl ?_
  refine wz_aload_n (p9 := 16) rfl rfl rfl ?_
  refine wz_get (v := .int (nI A.ps)) (p9 := 19) rfl rfl rfl rfl rfl ?_
  refine wl_Abu (f := A.bu) (p9 := 20) rfl rfl rfl (by omega) ?_
  refine wz_iconst (x := nI 4) (p9 := 21) rfl rfl (by decide) ?_
  refine wn_shr4 (p9 := 22) rfl rfl (by omega) ?_
  refine wz_istore_n (l9 := [.ref 4, .int (nI x), .int (nI ((A.bu A.ps) / 16))]) (p9 := 23) rfl rfl rfl rfl ?_
  refine wz_aload_n (p9 := 24) rfl rfl rfl ?_
  refine wz_get (v := .ref 9) (p9 := 27) rfl rfl rfl rfl rfl ?_
  refine wz_aload_n (p9 := 28) rfl rfl rfl ?_
  refine wz_get (v := .int (nI A.ps)) (p9 := 31) rfl rfl rfl rfl rfl ?_
  refine wz_iload_n (p9 := 32) rfl rfl rfl ?_
  refine wz_iconst (x := nI 4) (p9 := 33) rfl rfl (by decide) ?_
  refine wn_shl4 (p9 := 34) rfl rfl ?_
  refine wz_aload_n (p9 := 35) rfl rfl rfl ?_
  refine wz_get (v := .ref 1) (p9 := 38) rfl rfl rfl rfl rfl ?_
  refine wz_iload_n (p9 := 39) rfl rfl rfl ?_
  refine wz_iload_n (p9 := 40) rfl rfl rfl ?_
  refine wz_c1 (p9 := 43) (w1 := WW A R o) (u := .int (nI (x % A.od ((A.bu A.ps) / 16)))) (wa_v (N := 3) (i := 1) (As := [.int (nI ((A.bu A.ps) / 16)), .int (nI x)]) (rest := [.int (nI (((A.bu A.ps) / 16) * 16)), .int (nI A.ps), .ref 9]) rfl rfl rfl rfl rfl rfl rfl) rfl ((g_less (d := 0) T (by omega) (by omega)).up (by omega)) ?_
  refine wn_or16 (p9 := 44) rfl rfl (by omega) ?_
  refine ws_Abu (f := A.bu) (p9 := 45) rfl rfl rfl (by omega) (A1 := (CA.s_bu A (un A.bu A.ps (((A.bu A.ps) / 16) * 16 + (x % A.od ((A.bu A.ps) / 16)))))) rfl ?_
  exact wz_retv rfl rfl rfl
theorem cp_ge : ∀ (j f : Nat) (b : Nat × (Nat → Nat) × Nat), b.1 ≤ (cp f j b).1
  | 0, _, b => Nat.le_refl _
  | j + 1, f, b => Nat.le_trans (pu_le (x := b.2.1 f)) (cp_ge j (f + 1) _)
theorem pu4 {x : Nat} {b : Nat × (Nat → Nat) × Nat} (h : b.1 ≤ 400) : (pu x b).1 ≤ 400 := by
  unfold pu
  split
  · show b.1 + 1 ≤ 400; omega
  · exact h
theorem cp4 : ∀ (j f : Nat) (b : Nat × (Nat → Nat) × Nat), b.1 ≤ 400 → (cp f j b).1 ≤ 400
  | 0, _, b, h => h
  | j + 1, f, b, h => cp4 j (f + 1) _ (pu4 h)
theorem l_cp {X : Nat × (Nat → Int32)} {d : Nat} {A : CA} {R : RA} {o : Nat → Int64} {k z x e y : Nat} {Q : px_Z → Prop} : ∀ (j i : Nat) (b : Nat × (Nat → Nat) × Nat), i + j = e → b.1 ≤ 400 → e ≤ b.1 → (∀ v, wp X (d + 1) 25 (41, [.ref 4, .int (nI x), .int (nI e), .int (nI y), v], [], WW (sbs A (cp i j b)) R o, k, z) Q) → wp X (d + 1) 25 (18, [.ref 4, .int (nI x), .int (nI e), .int (nI y), .int (nI i)], [], WW (sbs A b) R o, k, z) Q
  | 0, i, b, hj, h4, he, kk => by
    show wp X (d + 1) 25 (18, [.ref 4, .int (nI x), .int (nI e), .int (nI y), .int (nI i)], [], WW (CA.s_ov (CA.s_rc (CA.s_bu A b.2.1) b.1) b.2.2) R o, k, z) Q
    refine wz_iload (p9 := 20) rfl rfl rfl ?_
    refine wz_iload_n (p9 := 21) rfl rfl rfl ?_
    refine wn_icge (t9 := 41) (p9 := 24) rfl rfl rfl (by omega) (by omega) (fun _ => ?_) (fun h9 => by omega)
    exact kk _
  | j + 1, i, b, hj, h4, he, kk => by
    show wp X (d + 1) 25 (18, [.ref 4, .int (nI x), .int (nI e), .int (nI y), .int (nI i)], [], WW (CA.s_ov (CA.s_rc (CA.s_bu A b.2.1) b.1) b.2.2) R o, k, z) Q
    refine wz_iload (p9 := 20) rfl rfl rfl ?_
    refine wz_iload_n (p9 := 21) rfl rfl rfl ?_
    refine wn_icge (t9 := 41) (p9 := 24) rfl rfl rfl (by omega) (by omega) (fun h9 => by omega) (fun _ => ?_)
    refine wz_aload_n (p9 := 25) rfl rfl rfl ?_
    refine wz_aload_n (p9 := 26) rfl rfl rfl ?_
    refine wz_get (v := .ref 9) (p9 := 29) rfl rfl rfl rfl rfl ?_
    refine wz_iload (p9 := 31) rfl rfl rfl ?_
    refine wl_Abu (f := b.2.1) (p9 := 32) rfl rfl rfl (by omega) ?_
    refine wz_c0 (p9 := 35) (w1 := WW (CA.s_ov (CA.s_rc (CA.s_bu A ((pu (b.2.1 i) b).2.1)) ((pu (b.2.1 i) b).1)) ((pu (b.2.1 i) b).2.2)) R o) (wa_v (N := 20) (i := 4) (As := [.int (nI (b.2.1 i))]) (rest := []) rfl rfl rfl rfl rfl rfl rfl) rfl ((g_push (d := 0) (A := (CA.s_ov (CA.s_rc (CA.s_bu A b.2.1) b.1) b.2.2)) (R := R) rfl h4).up (by omega)) ?_
    refine wn_inc (b := 1) (l9 := [.ref 4, .int (nI x), .int (nI e), .int (nI y), .int (nI (i + 1))]) (p9 := 38) rfl rfl rfl (by decide) rfl ?_
    refine wz_goto (p9 := 18) rfl rfl ?_
    exact l_cp j (i + 1) (pu (b.2.1 i) b) (by omega) (pu4 h4) (Nat.le_trans he pu_le) kk
theorem l_rp {X : Nat × (Nat → Int32)} {d : Nat} {A : CA} {R : RA} {o : Nat → Int64} {k z x e : Nat} (hx : x < 10) (hp : A.ps ≤ e) {Q : px_Z → Prop} : ∀ (j y : Nat) (b : Nat × (Nat → Nat) × Nat) (v : Value), y + j = x ∨ (j = 0 ∧ x ≤ y) → y < 20 → b.1 ≤ 400 → e ≤ b.1 → (∀ y v, wp X (d + 1) 25 (47, [.ref 4, .int (nI x), .int (nI e), .int (nI y), v], [], WW (sbs A (rp A.ps e j b)) R o, k, z) Q) → wp X (d + 1) 25 (7, [.ref 4, .int (nI x), .int (nI e), .int (nI y), v], [], WW (sbs A b) R o, k, z) Q
  | 0, y, b, v, hj, hy, h4, he, kk => by
    show wp X (d + 1) 25 (7, [.ref 4, .int (nI x), .int (nI e), .int (nI y), v], [], WW (CA.s_ov (CA.s_rc (CA.s_bu A b.2.1) b.1) b.2.2) R o, k, z) Q
    refine wz_iload_n (p9 := 8) rfl rfl rfl ?_
    refine wz_iload_n (p9 := 9) rfl rfl rfl ?_
    refine wn_icge (t9 := 47) (p9 := 12) rfl rfl rfl (by omega) (by omega) (fun _ => ?_) (fun h9 => by omega)
    exact kk _ _
  | j + 1, y, b, v, hj, hy, h4, he, kk => by
    show wp X (d + 1) 25 (7, [.ref 4, .int (nI x), .int (nI e), .int (nI y), v], [], WW (CA.s_ov (CA.s_rc (CA.s_bu A b.2.1) b.1) b.2.2) R o, k, z) Q
    refine wz_iload_n (p9 := 8) rfl rfl rfl ?_
    refine wz_iload_n (p9 := 9) rfl rfl rfl ?_
    refine wn_icge (t9 := 47) (p9 := 12) rfl rfl rfl (by omega) (by omega) (fun h9 => by omega) (fun _ => ?_)
    refine wz_aload_n (p9 := 13) rfl rfl rfl ?_
    refine wz_get (v := .int (nI A.ps)) (p9 := 16) rfl rfl rfl rfl rfl ?_
    refine wz_istore (l9 := [.ref 4, .int (nI x), .int (nI e), .int (nI y), .int (nI A.ps)]) (p9 := 18) rfl rfl rfl rfl ?_
    refine l_cp (e - A.ps) A.ps b (by omega) h4 he (fun v => ?_)
    show wp X (d + 1) 25 (41, [.ref 4, .int (nI x), .int (nI e), .int (nI y), v], [], WW (CA.s_ov (CA.s_rc (CA.s_bu A ((cp A.ps (e - A.ps) b).2.1)) ((cp A.ps (e - A.ps) b).1)) ((cp A.ps (e - A.ps) b).2.2)) R o, k, z) Q
    refine wn_inc (b := 1) (l9 := [.ref 4, .int (nI x), .int (nI e), .int (nI (y + 1)), v]) (p9 := 44) rfl rfl rfl (by decide) rfl ?_
    refine wz_goto (p9 := 7) rfl rfl ?_
    exact l_rp hx hp j (y + 1) (cp A.ps (e - A.ps) b) v (by omega) (by omega) (cp4 _ _ _ h4) (Nat.le_trans he (cp_ge _ _ _)) kk
theorem g_repeatPart {X : Nat × (Nat → Int32)} {d : Nat} {A : CA} {R : RA} {o : Nat → Int64} {x : Nat} {b : Nat × (Nat → Nat) × Nat} (hb : (A.rc, A.bu, A.ov) = b) (h4 : b.1 ≤ 400) (hp : A.ps ≤ A.rc) (hx : x < 10) : px_ev X (d + 2) 25 [.ref 4, .int (nI x)] (WW A R o) (some none, WW (sbs A (rp A.ps A.rc (x - 1) b)) R o, 0, 0) := by
  refine wp_ev (d := d + 1) (by decide) rfl rfl (fun h => by cases h) ?_
  show wp X (d + 1) 25 (0, [.ref 4, .int (nI x), .retAddr 0, .retAddr 0, .retAddr 0], [], WW A R o, 0, 0) _
  subst hb
  refine wz_aload_n (p9 := 1) rfl rfl rfl ?_
  refine wz_get (v := .int (nI A.rc)) (p9 := 4) rfl rfl rfl rfl rfl ?_
  refine wz_istore_n (l9 := [.ref 4, .int (nI x), .int (nI A.rc), .retAddr 0, .retAddr 0]) (p9 := 5) rfl rfl rfl rfl ?_
  refine wz_iconst (x := nI 1) (p9 := 6) rfl rfl (by decide) ?_
  refine wz_istore_n (l9 := [.ref 4, .int (nI x), .int (nI A.rc), .int (nI 1), .retAddr 0]) (p9 := 7) rfl rfl rfl rfl ?_
  refine l_rp (A := A) hx hp (x - 1) 1 (A.rc, A.bu, A.ov) _ (by omega) (by omega) h4 (Nat.le_refl _) (fun y v => ?_)
  exact wz_retv rfl rfl rfl
