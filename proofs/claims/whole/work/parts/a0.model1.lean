/-! THE REFERENCE: small methods (wip/whole/gen/mka0.py) -/
/-- whether a number is one of the first n -/
def inb (x : Int32) (n : Nat) : Nat := if ¬ x < 0 ∧ x < nI n then 1 else 0
theorem inb_lt {x : Int32} {n : Nat} : inb x n < 2 := by unfold inb; split <;> decide
theorem g_mPlace1 {X : Nat × (Nat → Int32)} {d : Nat} {A : CA} {R : RA} {o : Nat → Int64} {m : Nat} (hm : m < R.P) (hM : R.P < 100) : px_ev X (d + 1) 100 [.ref 26, .int (nI m)] (WW A R o) (some (some (.int (nI 1))), WW A R o, 0, 0) := by
  refine wp_ev (d := d + 0) (by decide) rfl rfl (fun h => by cases h) ?_
  show wp X (d + 0) 100 (0, [.ref 26, .int (nI m)], [], WW A R o, 0, 0) _
  refine wz_iload_n (p9 := 1) rfl rfl rfl ?_
  refine wn_iflt (t9 := 16) (p9 := 4) rfl rfl rfl (by omega) (fun h9 => by omega) (fun _ => ?_)
  refine wz_iload_n (p9 := 5) rfl rfl rfl ?_
  refine wz_aload_n (p9 := 6) rfl rfl rfl ?_
  refine wz_get (v := .int (nI R.P)) (p9 := 9) rfl rfl rfl rfl rfl ?_
  refine wn_icge (t9 := 16) (p9 := 12) rfl rfl rfl (by omega) (by omega) (fun h9 => by omega) (fun _ => ?_)
  refine wz_iconst (x := nI 1) (p9 := 13) rfl rfl (by decide) ?_
  refine wz_goto (p9 := 17) rfl rfl ?_
  exact wz_retz rfl rfl (by decide) rfl
theorem g_mPlaceR {X : Nat × (Nat → Int32)} {d : Nat} {A : CA} {R : RA} {o : Nat → Int64} {x : Int32} : px_ev X (d + 1) 100 [.ref 26, .int x] (WW A R o) (some (some (.int (nI (inb x R.P)))), WW A R o, 0, 0) := by
  refine wp_ev (d := d + 0) (by decide) rfl rfl (fun h => by cases h) ?_
  show wp X (d + 0) 100 (0, [.ref 26, .int x], [], WW A R o, 0, 0) _
  refine wz_iload_n (p9 := 1) rfl rfl rfl ?_
  refine wz_iflt (t9 := 16) (p9 := 4) rfl rfl rfl (fun h1 => ?_) (fun h1 => ?_)
  · refine wz_iconst (x := nI 0) (p9 := 17) rfl rfl (by decide) ?_
    exact wz_retz rfl rfl (by decide) (by unfold inb; rw [if_neg (fun q => q.1 h1)])
  · refine wz_iload_n (p9 := 5) rfl rfl rfl ?_
    refine wz_aload_n (p9 := 6) rfl rfl rfl ?_
    refine wz_get (v := .int (nI R.P)) (p9 := 9) rfl rfl rfl rfl rfl ?_
    refine wz_icge (t9 := 16) (p9 := 12) rfl rfl rfl (fun h9 => ?_) (fun h9 => ?_)
    · refine wz_iconst (x := nI 0) (p9 := 17) rfl rfl (by decide) ?_
      exact wz_retz rfl rfl (by decide) (by unfold inb; rw [if_neg (fun q => Int32.not_le.mpr q.2 h9)])
    · refine wz_iconst (x := nI 1) (p9 := 13) rfl rfl (by decide) ?_
      refine wz_goto (p9 := 17) rfl rfl ?_
      exact wz_retz rfl rfl (by decide) (by unfold inb; rw [if_pos ⟨h1, Int32.not_le.mp h9⟩])
theorem g_mWord1 {X : Nat × (Nat → Int32)} {d : Nat} {A : CA} {R : RA} {o : Nat → Int64} {m : Nat} (hm : m < R.wc) (hM : R.wc < 100) : px_ev X (d + 1) 117 [.ref 26, .int (nI m)] (WW A R o) (some (some (.int (nI 1))), WW A R o, 0, 0) := by
  refine wp_ev (d := d + 0) (by decide) rfl rfl (fun h => by cases h) ?_
  show wp X (d + 0) 117 (0, [.ref 26, .int (nI m)], [], WW A R o, 0, 0) _
  refine wz_iload_n (p9 := 1) rfl rfl rfl ?_
  refine wn_iflt (t9 := 16) (p9 := 4) rfl rfl rfl (by omega) (fun h9 => by omega) (fun _ => ?_)
  refine wz_iload_n (p9 := 5) rfl rfl rfl ?_
  refine wz_aload_n (p9 := 6) rfl rfl rfl ?_
  refine wz_get (v := .int (nI R.wc)) (p9 := 9) rfl rfl rfl rfl rfl ?_
  refine wn_icge (t9 := 16) (p9 := 12) rfl rfl rfl (by omega) (by omega) (fun h9 => by omega) (fun _ => ?_)
  refine wz_iconst (x := nI 1) (p9 := 13) rfl rfl (by decide) ?_
  refine wz_goto (p9 := 17) rfl rfl ?_
  exact wz_retz rfl rfl (by decide) rfl
theorem g_mWordR {X : Nat × (Nat → Int32)} {d : Nat} {A : CA} {R : RA} {o : Nat → Int64} {x : Int32} : px_ev X (d + 1) 117 [.ref 26, .int x] (WW A R o) (some (some (.int (nI (inb x R.wc)))), WW A R o, 0, 0) := by
  refine wp_ev (d := d + 0) (by decide) rfl rfl (fun h => by cases h) ?_
  show wp X (d + 0) 117 (0, [.ref 26, .int x], [], WW A R o, 0, 0) _
  refine wz_iload_n (p9 := 1) rfl rfl rfl ?_
  refine wz_iflt (t9 := 16) (p9 := 4) rfl rfl rfl (fun h1 => ?_) (fun h1 => ?_)
  · refine wz_iconst (x := nI 0) (p9 := 17) rfl rfl (by decide) ?_
    exact wz_retz rfl rfl (by decide) (by unfold inb; rw [if_neg (fun q => q.1 h1)])
  · refine wz_iload_n (p9 := 5) rfl rfl rfl ?_
    refine wz_aload_n (p9 := 6) rfl rfl rfl ?_
    refine wz_get (v := .int (nI R.wc)) (p9 := 9) rfl rfl rfl rfl rfl ?_
    refine wz_icge (t9 := 16) (p9 := 12) rfl rfl rfl (fun h9 => ?_) (fun h9 => ?_)
    · refine wz_iconst (x := nI 0) (p9 := 17) rfl rfl (by decide) ?_
      exact wz_retz rfl rfl (by decide) (by unfold inb; rw [if_neg (fun q => Int32.not_le.mpr q.2 h9)])
    · refine wz_iconst (x := nI 1) (p9 := 13) rfl rfl (by decide) ?_
      refine wz_goto (p9 := 17) rfl rfl ?_
      exact wz_retz rfl rfl (by decide) (by unfold inb; rw [if_pos ⟨h1, Int32.not_le.mp h9⟩])
theorem g_mStage1 {X : Nat × (Nat → Int32)} {d : Nat} {A : CA} {R : RA} {o : Nat → Int64} {m : Nat} (hm : m < R.sc) (hM : R.sc < 100) : px_ev X (d + 1) 130 [.ref 26, .int (nI m)] (WW A R o) (some (some (.int (nI 1))), WW A R o, 0, 0) := by
  refine wp_ev (d := d + 0) (by decide) rfl rfl (fun h => by cases h) ?_
  show wp X (d + 0) 130 (0, [.ref 26, .int (nI m)], [], WW A R o, 0, 0) _
  refine wz_iload_n (p9 := 1) rfl rfl rfl ?_
  refine wn_iflt (t9 := 16) (p9 := 4) rfl rfl rfl (by omega) (fun h9 => by omega) (fun _ => ?_)
  refine wz_iload_n (p9 := 5) rfl rfl rfl ?_
  refine wz_aload_n (p9 := 6) rfl rfl rfl ?_
  refine wz_get (v := .int (nI R.sc)) (p9 := 9) rfl rfl rfl rfl rfl ?_
  refine wn_icge (t9 := 16) (p9 := 12) rfl rfl rfl (by omega) (by omega) (fun h9 => by omega) (fun _ => ?_)
  refine wz_iconst (x := nI 1) (p9 := 13) rfl rfl (by decide) ?_
  refine wz_goto (p9 := 17) rfl rfl ?_
  exact wz_retz rfl rfl (by decide) rfl
theorem g_mStageR {X : Nat × (Nat → Int32)} {d : Nat} {A : CA} {R : RA} {o : Nat → Int64} {x : Int32} : px_ev X (d + 1) 130 [.ref 26, .int x] (WW A R o) (some (some (.int (nI (inb x R.sc)))), WW A R o, 0, 0) := by
  refine wp_ev (d := d + 0) (by decide) rfl rfl (fun h => by cases h) ?_
  show wp X (d + 0) 130 (0, [.ref 26, .int x], [], WW A R o, 0, 0) _
  refine wz_iload_n (p9 := 1) rfl rfl rfl ?_
  refine wz_iflt (t9 := 16) (p9 := 4) rfl rfl rfl (fun h1 => ?_) (fun h1 => ?_)
  · refine wz_iconst (x := nI 0) (p9 := 17) rfl rfl (by decide) ?_
    exact wz_retz rfl rfl (by decide) (by unfold inb; rw [if_neg (fun q => q.1 h1)])
  · refine wz_iload_n (p9 := 5) rfl rfl rfl ?_
    refine wz_aload_n (p9 := 6) rfl rfl rfl ?_
    refine wz_get (v := .int (nI R.sc)) (p9 := 9) rfl rfl rfl rfl rfl ?_
    refine wz_icge (t9 := 16) (p9 := 12) rfl rfl rfl (fun h9 => ?_) (fun h9 => ?_)
    · refine wz_iconst (x := nI 0) (p9 := 17) rfl rfl (by decide) ?_
      exact wz_retz rfl rfl (by decide) (by unfold inb; rw [if_neg (fun q => Int32.not_le.mpr q.2 h9)])
    · refine wz_iconst (x := nI 1) (p9 := 13) rfl rfl (by decide) ?_
      refine wz_goto (p9 := 17) rfl rfl ?_
      exact wz_retz rfl rfl (by decide) (by unfold inb; rw [if_pos ⟨h1, Int32.not_le.mp h9⟩])
theorem g_throws0 {X : Nat × (Nat → Int32)} {d : Nat} {A : CA} {R : RA} {o : Nat → Int64}  : px_ev X (d + 1) 101 [.ref 26, .int (nI 0)] (WW A R o) (some (some (.int (nI 0))), WW A (RA.s_th R 0) o, 0, 0) := by
  refine wp_ev (d := d + 0) (by decide) rfl rfl (fun h => by cases h) ?_
  show wp X (d + 0) 101 (0, [.ref 26, .int (nI 0)], [], WW A R o, 0, 0) _
  refine wz_aload_n (p9 := 1) rfl rfl rfl ?_
  refine wz_iload_n (p9 := 2) rfl rfl rfl ?_
  refine wn_ifeq (t9 := 9) (p9 := 5) rfl rfl rfl (by omega) (fun _ => ?_) (fun h9 => by omega)
  refine wz_iconst (x := nI 0) (p9 := 10) rfl rfl (by decide) ?_
  refine wp_Rth (x := 0) (p9 := 13) rfl rfl rfl rfl (R1 := (RA.s_th R 0)) rfl ?_
  refine wz_iload_n (p9 := 14) rfl rfl rfl ?_
  exact wz_retz rfl rfl (by decide) rfl
theorem g_throws1 {X : Nat × (Nat → Int32)} {d : Nat} {A : CA} {R : RA} {o : Nat → Int64}  : px_ev X (d + 1) 101 [.ref 26, .int (nI 1)] (WW A R o) (some (some (.int (nI 1))), WW A (RA.s_th R 1) o, 0, 0) := by
  refine wp_ev (d := d + 0) (by decide) rfl rfl (fun h => by cases h) ?_
  show wp X (d + 0) 101 (0, [.ref 26, .int (nI 1)], [], WW A R o, 0, 0) _
  refine wz_aload_n (p9 := 1) rfl rfl rfl ?_
  refine wz_iload_n (p9 := 2) rfl rfl rfl ?_
  refine wn_ifeq (t9 := 9) (p9 := 5) rfl rfl rfl (by omega) (fun h9 => by omega) (fun _ => ?_)
  refine wz_iconst (x := nI 1) (p9 := 6) rfl rfl (by decide) ?_
  refine wz_goto (p9 := 10) rfl rfl ?_
  refine wp_Rth (x := 1) (p9 := 13) rfl rfl rfl rfl (R1 := (RA.s_th R 1)) rfl ?_
  refine wz_iload_n (p9 := 14) rfl rfl rfl ?_
  exact wz_retz rfl rfl (by decide) rfl
theorem g_thrown {X : Nat × (Nat → Int32)} {d : Nat} {A : CA} {R : RA} {o : Nat → Int64}  : px_ev X (d + 1) 98 [.ref 26] (WW A R o) (some (some (.int (nI R.th))), WW A R o, 0, 0) := by
  refine wp_ev (d := d + 0) (by decide) rfl rfl (fun h => by cases h) ?_
  show wp X (d + 0) 98 (0, [.ref 26], [], WW A R o, 0, 0) _
  refine wz_aload_n (p9 := 1) rfl rfl rfl ?_
  refine wz_get (v := .int (nI R.th)) (p9 := 4) rfl rfl rfl rfl rfl ?_
  exact wz_reti rfl rfl rfl
theorem g_mExch1 {X : Nat × (Nat → Int32)} {d : Nat} {A : CA} {R : RA} {o : Nat → Int64} {od : Nat → Nat} (T : TV R.P R.Mv R.t od) {m x y : Nat} (hm : m < R.Mv) (hx : x < R.P) (hy : y < R.P) (hne : x ≠ y) : px_ev X (d + 2) 99 [.ref 26, .int (nI m), .int (nI x), .int (nI y)] (WW A R o) (some (some (.int (nI 1))), WW A (RA.s_tl (RA.s_sc (RA.s_wc (RA.s_t (RA.s_th R 0) (un (un R.t (m * 7 + x) (R.t (m * 7 + y))) (m * 7 + y) (R.t (m * 7 + x)))) 0) 0) 0) o, 0, 0) := by
  refine wp_ev (d := d + 1) (by decide) rfl rfl (fun h => by cases h) ?_
  show wp X (d + 1) 99 (0, [.ref 26, .int (nI m), .int (nI x), .int (nI y), .retAddr 0], [], WW A R o, 0, 0) _
  have p7 := T.p7
  have m6 := T.m6
  rw [Nat.mul_comm m 7]
  refine wz_aload_n (p9 := 1) rfl rfl rfl ?_
  refine wz_iload_n (p9 := 2) rfl rfl rfl ?_
  refine wn_iflt (t9 := 29) (p9 := 5) rfl rfl rfl (by omega) (fun h9 => by omega) (fun _ => ?_)
  refine wz_iload_n (p9 := 6) rfl rfl rfl ?_
  refine wz_aload_n (p9 := 7) rfl rfl rfl ?_
  refine wz_get (v := .int (nI R.Mv)) (p9 := 10) rfl rfl rfl rfl rfl ?_
  refine wn_icge (t9 := 29) (p9 := 13) rfl rfl rfl (by omega) (by omega) (fun h9 => by omega) (fun _ => ?_)
  refine wz_aload_n (p9 := 14) rfl rfl rfl ?_
  refine wz_iload_n (p9 := 15) rfl rfl rfl ?_
  refine wz_c1 (p9 := 18) (w1 := WW A R o) (u := .int (nI 1)) (wa_v (N := 100) (i := 26) (As := [.int (nI x)]) (rest := [.ref 26]) rfl rfl rfl rfl rfl rfl rfl) rfl ((g_mPlace1 (d := 0) (by omega) (by omega)).up (by omega)) ?_
  refine wn_ifeq (t9 := 29) (p9 := 21) rfl rfl rfl (by omega) (fun h9 => by omega) (fun _ => ?_)
  refine wz_aload_n (p9 := 22) rfl rfl rfl ?_
  refine wz_iload_n (p9 := 23) rfl rfl rfl ?_
  refine wz_c1 (p9 := 26) (w1 := WW A R o) (u := .int (nI 1)) (wa_v (N := 100) (i := 26) (As := [.int (nI y)]) (rest := [.ref 26]) rfl rfl rfl rfl rfl rfl rfl) rfl ((g_mPlace1 (d := 0) (by omega) (by omega)).up (by omega)) ?_
  refine wn_ifne (t9 := 33) (p9 := 29) rfl rfl rfl (by omega) (fun _ => ?_) (fun h9 => by omega)
  refine wz_iconst (x := nI 0) (p9 := 34) rfl rfl (by decide) ?_
  refine wz_c1 (p9 := 37) (w1 := WW A (RA.s_th R 0) o) (u := .int (nI 0)) (wa_v (N := 101) (i := 26) (As := [.int (nI 0)]) (rest := []) rfl rfl rfl rfl rfl rfl rfl) rfl ((g_throws0 (d := 0) ).up (by omega)) ?_
  refine wn_ifne (t9 := 45) (p9 := 40) rfl rfl rfl (by omega) (fun h9 => by omega) (fun _ => ?_)
  refine wz_iload_n (p9 := 41) rfl rfl rfl ?_
  refine wz_iload_n (p9 := 42) rfl rfl rfl ?_
  refine wn_icne (t9 := 47) (p9 := 45) rfl rfl rfl (by omega) (by omega) (fun _ => ?_) (fun h9 => by omega)
  refine wz_aload_n (p9 := 48) rfl rfl rfl ?_
  refine wz_get (v := .ref 27) (p9 := 51) rfl rfl rfl rfl rfl ?_
  refine wz_bipush (x := nI 7) (p9 := 53) rfl rfl (by decide) ?_
  refine wz_iload_n (p9 := 54) rfl rfl rfl ?_
  refine wn_mul (p9 := 55) rfl rfl ?_
  refine wz_iload_n (p9 := 56) rfl rfl rfl ?_
  refine wn_add (p9 := 57) rfl rfl ?_
  refine wl_Rt (f := R.t) (p9 := 58) rfl rfl rfl (by omega) ?_
  refine wz_istore (l9 := [.ref 26, .int (nI m), .int (nI x), .int (nI y), .int (nI (R.t ((7 * m) + x)))]) (p9 := 60) rfl rfl rfl rfl ?_
  refine wz_aload_n (p9 := 61) rfl rfl rfl ?_
  refine wz_get (v := .ref 27) (p9 := 64) rfl rfl rfl rfl rfl ?_
  refine wz_bipush (x := nI 7) (p9 := 66) rfl rfl (by decide) ?_
  refine wz_iload_n (p9 := 67) rfl rfl rfl ?_
  refine wn_mul (p9 := 68) rfl rfl ?_
  refine wz_iload_n (p9 := 69) rfl rfl rfl ?_
  refine wn_add (p9 := 70) rfl rfl ?_
  refine wz_aload_n (p9 := 71) rfl rfl rfl ?_
  refine wz_get (v := .ref 27) (p9 := 74) rfl rfl rfl rfl rfl ?_
  refine wz_bipush (x := nI 7) (p9 := 76) rfl rfl (by decide) ?_
  refine wz_iload_n (p9 := 77) rfl rfl rfl ?_
  refine wn_mul (p9 := 78) rfl rfl ?_
  refine wz_iload_n (p9 := 79) rfl rfl rfl ?_
  refine wn_add (p9 := 80) rfl rfl ?_
  refine wl_Rt (f := R.t) (p9 := 81) rfl rfl rfl (by omega) ?_
  refine ws_Rt (f := R.t) (p9 := 82) rfl rfl rfl (by omega) (R1 := (RA.s_t (RA.s_th R 0) (un R.t ((7 * m) + x) (R.t ((7 * m) + y))))) rfl ?_
  refine wz_aload_n (p9 := 83) rfl rfl rfl ?_
  refine wz_get (v := .ref 27) (p9 := 86) rfl rfl rfl rfl rfl ?_
  refine wz_bipush (x := nI 7) (p9 := 88) rfl rfl (by decide) ?_
  refine wz_iload_n (p9 := 89) rfl rfl rfl ?_
  refine wn_mul (p9 := 90) rfl rfl ?_
  refine wz_iload_n (p9 := 91) rfl rfl rfl ?_
  refine wn_add (p9 := 92) rfl rfl ?_
  refine wz_iload (p9 := 94) rfl rfl rfl ?_
  refine ws_Rt (f := un R.t ((7 * m) + x) (R.t ((7 * m) + y))) (p9 := 95) rfl rfl rfl (by omega) (R1 := (RA.s_t (RA.s_th R 0) (un (un R.t ((7 * m) + x) (R.t ((7 * m) + y))) ((7 * m) + y) (R.t ((7 * m) + x))))) rfl ?_
  refine wz_aload_n (p9 := 96) rfl rfl rfl ?_
  refine wz_iconst (x := nI 0) (p9 := 97) rfl rfl (by decide) ?_
  refine wp_Rwc (x := 0) (p9 := 100) rfl rfl rfl rfl (R1 := (RA.s_t (RA.s_wc (RA.s_th R 0) 0) (un (un R.t ((7 * m) + x) (R.t ((7 * m) + y))) ((7 * m) + y) (R.t ((7 * m) + x))))) rfl ?_
  refine wz_aload_n (p9 := 101) rfl rfl rfl ?_
  refine wz_iconst (x := nI 0) (p9 := 102) rfl rfl (by decide) ?_
  refine wp_Rsc (x := 0) (p9 := 105) rfl rfl rfl rfl (R1 := (RA.s_t (RA.s_sc (RA.s_wc (RA.s_th R 0) 0) 0) (un (un R.t ((7 * m) + x) (R.t ((7 * m) + y))) ((7 * m) + y) (R.t ((7 * m) + x))))) rfl ?_
  refine wz_aload_n (p9 := 106) rfl rfl rfl ?_
  refine wz_iconst (x := nI 0) (p9 := 107) rfl rfl (by decide) ?_
  refine wp_Rtl (x := 0) (p9 := 110) rfl rfl rfl rfl (R1 := (RA.s_t (RA.s_sc (RA.s_wc (RA.s_tl (RA.s_th R 0) 0) 0) 0) (un (un R.t ((7 * m) + x) (R.t ((7 * m) + y))) ((7 * m) + y) (R.t ((7 * m) + x))))) rfl ?_
  refine wz_iconst (x := nI 1) (p9 := 111) rfl rfl (by decide) ?_
  exact wz_retz rfl rfl (by decide) rfl
theorem g_mExchE {X : Nat × (Nat → Int32)} {d : Nat} {A : CA} {R : RA} {o : Nat → Int64} {od : Nat → Nat} (T : TV R.P R.Mv R.t od) {m x y : Nat} (hm : m < R.Mv) (hx : x < R.P) (hy : y < R.P) (hne : x = y) : px_ev X (d + 2) 99 [.ref 26, .int (nI m), .int (nI x), .int (nI y)] (WW A R o) (some (some (.int (nI 0))), WW A (RA.s_th R 0) o, 0, 0) := by
  refine wp_ev (d := d + 1) (by decide) rfl rfl (fun h => by cases h) ?_
  show wp X (d + 1) 99 (0, [.ref 26, .int (nI m), .int (nI x), .int (nI y), .retAddr 0], [], WW A R o, 0, 0) _
  have p7 := T.p7
  have m6 := T.m6
  refine wz_aload_n (p9 := 1) rfl rfl rfl ?_
  refine wz_iload_n (p9 := 2) rfl rfl rfl ?_
  refine wn_iflt (t9 := 29) (p9 := 5) rfl rfl rfl (by omega) (fun h9 => by omega) (fun _ => ?_)
  refine wz_iload_n (p9 := 6) rfl rfl rfl ?_
  refine wz_aload_n (p9 := 7) rfl rfl rfl ?_
  refine wz_get (v := .int (nI R.Mv)) (p9 := 10) rfl rfl rfl rfl rfl ?_
  refine wn_icge (t9 := 29) (p9 := 13) rfl rfl rfl (by omega) (by omega) (fun h9 => by omega) (fun _ => ?_)
  refine wz_aload_n (p9 := 14) rfl rfl rfl ?_
  refine wz_iload_n (p9 := 15) rfl rfl rfl ?_
  refine wz_c1 (p9 := 18) (w1 := WW A R o) (u := .int (nI 1)) (wa_v (N := 100) (i := 26) (As := [.int (nI x)]) (rest := [.ref 26]) rfl rfl rfl rfl rfl rfl rfl) rfl ((g_mPlace1 (d := 0) (by omega) (by omega)).up (by omega)) ?_
  refine wn_ifeq (t9 := 29) (p9 := 21) rfl rfl rfl (by omega) (fun h9 => by omega) (fun _ => ?_)
  refine wz_aload_n (p9 := 22) rfl rfl rfl ?_
  refine wz_iload_n (p9 := 23) rfl rfl rfl ?_
  refine wz_c1 (p9 := 26) (w1 := WW A R o) (u := .int (nI 1)) (wa_v (N := 100) (i := 26) (As := [.int (nI y)]) (rest := [.ref 26]) rfl rfl rfl rfl rfl rfl rfl) rfl ((g_mPlace1 (d := 0) (by omega) (by omega)).up (by omega)) ?_
  refine wn_ifne (t9 := 33) (p9 := 29) rfl rfl rfl (by omega) (fun _ => ?_) (fun h9 => by omega)
  refine wz_iconst (x := nI 0) (p9 := 34) rfl rfl (by decide) ?_
  refine wz_c1 (p9 := 37) (w1 := WW A (RA.s_th R 0) o) (u := .int (nI 0)) (wa_v (N := 101) (i := 26) (As := [.int (nI 0)]) (rest := []) rfl rfl rfl rfl rfl rfl rfl) rfl ((g_throws0 (d := 0) ).up (by omega)) ?_
  refine wn_ifne (t9 := 45) (p9 := 40) rfl rfl rfl (by omega) (fun h9 => by omega) (fun _ => ?_)
  refine wz_iload_n (p9 := 41) rfl rfl rfl ?_
  refine wz_iload_n (p9 := 42) rfl rfl rfl ?_
  refine wn_icne (t9 := 47) (p9 := 45) rfl rfl rfl (by omega) (by omega) (fun h9 => by omega) (fun _ => ?_)
  refine wz_iconst (x := nI 0) (p9 := 46) rfl rfl (by decide) ?_
  exact wz_retz rfl rfl (by decide) rfl
theorem g_mExchX {X : Nat × (Nat → Int32)} {d : Nat} {A : CA} {R : RA} {o : Nat → Int64} {m x y : Int32} (h : m < 0 ∨ nI R.Mv ≤ m ∨ inb x R.P = 0 ∨ inb y R.P = 0) : px_ev X (d + 2) 99 [.ref 26, .int m, .int x, .int y] (WW A R o) (some (some (.int (nI 0))), WW A (RA.s_th R 1) o, 0, 0) := by
  refine wp_ev (d := d + 1) (by decide) rfl rfl (fun h => by cases h) ?_
  show wp X (d + 1) 99 (0, [.ref 26, .int m, .int x, .int y, .retAddr 0], [], WW A R o, 0, 0) _
  refine wz_aload_n (p9 := 1) rfl rfl rfl ?_
  refine wz_iload_n (p9 := 2) rfl rfl rfl ?_
  refine wz_iflt (t9 := 29) (p9 := 5) rfl rfl rfl (fun h2 => ?_) (fun h2 => ?_)
  · refine wz_iconst (x := nI 1) (p9 := 30) rfl rfl (by decide) ?_
    refine wz_goto (p9 := 34) rfl rfl ?_
    refine wz_c1 (p9 := 37) (w1 := WW A (RA.s_th R 1) o) (u := .int (nI 1)) (wa_v (N := 101) (i := 26) (As := [.int (nI 1)]) (rest := []) rfl rfl rfl rfl rfl rfl rfl) rfl ((g_throws1 (d := 0) ).up (by omega)) ?_
    refine wn_ifne (t9 := 45) (p9 := 40) rfl rfl rfl (by have := @inb_lt; first | exact Nat.lt_trans inb_lt (by decide) | decide | omega) (fun _ => ?_) (fun h9 => by omega)
    refine wz_iconst (x := nI 0) (p9 := 46) rfl rfl (by decide) ?_
    exact wz_retz rfl rfl (by decide) rfl
  · refine wz_iload_n (p9 := 6) rfl rfl rfl ?_
    refine wz_aload_n (p9 := 7) rfl rfl rfl ?_
    refine wz_get (v := .int (nI R.Mv)) (p9 := 10) rfl rfl rfl rfl rfl ?_
    refine wz_icge (t9 := 29) (p9 := 13) rfl rfl rfl (fun h10 => ?_) (fun h10 => ?_)
    · refine wz_iconst (x := nI 1) (p9 := 30) rfl rfl (by decide) ?_
      refine wz_goto (p9 := 34) rfl rfl ?_
      refine wz_c1 (p9 := 37) (w1 := WW A (RA.s_th R 1) o) (u := .int (nI 1)) (wa_v (N := 101) (i := 26) (As := [.int (nI 1)]) (rest := []) rfl rfl rfl rfl rfl rfl rfl) rfl ((g_throws1 (d := 0) ).up (by omega)) ?_
      refine wn_ifne (t9 := 45) (p9 := 40) rfl rfl rfl (by have := @inb_lt; first | exact Nat.lt_trans inb_lt (by decide) | decide | omega) (fun _ => ?_) (fun h9 => by omega)
      refine wz_iconst (x := nI 0) (p9 := 46) rfl rfl (by decide) ?_
      exact wz_retz rfl rfl (by decide) rfl
    · refine wz_aload_n (p9 := 14) rfl rfl rfl ?_
      refine wz_iload_n (p9 := 15) rfl rfl rfl ?_
      refine wz_c1 (p9 := 18) (w1 := WW A R o) (u := .int (nI (inb x R.P))) (wa_v (N := 100) (i := 26) (As := [.int x]) (rest := [.ref 26]) rfl rfl rfl rfl rfl rfl rfl) rfl ((g_mPlaceR (d := 0) ).up (by omega)) ?_
      refine wn_ifeq (t9 := 29) (p9 := 21) rfl rfl rfl (by have := @inb_lt; first | exact Nat.lt_trans inb_lt (by decide) | decide | omega) (fun h18 => ?_) (fun h18 => ?_)
      · refine wz_iconst (x := nI 1) (p9 := 30) rfl rfl (by decide) ?_
        refine wz_goto (p9 := 34) rfl rfl ?_
        refine wz_c1 (p9 := 37) (w1 := WW A (RA.s_th R 1) o) (u := .int (nI 1)) (wa_v (N := 101) (i := 26) (As := [.int (nI 1)]) (rest := []) rfl rfl rfl rfl rfl rfl rfl) rfl ((g_throws1 (d := 0) ).up (by omega)) ?_
        refine wn_ifne (t9 := 45) (p9 := 40) rfl rfl rfl (by have := @inb_lt; first | exact Nat.lt_trans inb_lt (by decide) | decide | omega) (fun _ => ?_) (fun h9 => by omega)
        refine wz_iconst (x := nI 0) (p9 := 46) rfl rfl (by decide) ?_
        exact wz_retz rfl rfl (by decide) rfl
      · refine wz_aload_n (p9 := 22) rfl rfl rfl ?_
        refine wz_iload_n (p9 := 23) rfl rfl rfl ?_
        refine wz_c1 (p9 := 26) (w1 := WW A R o) (u := .int (nI (inb y R.P))) (wa_v (N := 100) (i := 26) (As := [.int y]) (rest := [.ref 26]) rfl rfl rfl rfl rfl rfl rfl) rfl ((g_mPlaceR (d := 0) ).up (by omega)) ?_
        refine wn_ifne (t9 := 33) (p9 := 29) rfl rfl rfl (by have := @inb_lt; first | exact Nat.lt_trans inb_lt (by decide) | decide | omega) (fun h26 => ?_) (fun h26 => ?_)
        · refine wz_iconst (x := nI 0) (p9 := 34) rfl rfl (by decide) ?_
          refine wz_c1 (p9 := 37) (w1 := WW A (RA.s_th R 0) o) (u := .int (nI 0)) (wa_v (N := 101) (i := 26) (As := [.int (nI 0)]) (rest := []) rfl rfl rfl rfl rfl rfl rfl) rfl ((g_throws0 (d := 0) ).up (by omega)) ?_
          refine wn_ifne (t9 := 45) (p9 := 40) rfl rfl rfl (by have := @inb_lt; first | exact Nat.lt_trans inb_lt (by decide) | decide | omega) (fun h9 => by omega) (fun _ => ?_)
          rcases h with q | q | q | q
          · exact absurd q h2
          · exact absurd q h10
          · exact absurd q h18
          · exact absurd q h26
        · refine wz_iconst (x := nI 1) (p9 := 30) rfl rfl (by decide) ?_
          refine wz_goto (p9 := 34) rfl rfl ?_
          refine wz_c1 (p9 := 37) (w1 := WW A (RA.s_th R 1) o) (u := .int (nI 1)) (wa_v (N := 101) (i := 26) (As := [.int (nI 1)]) (rest := []) rfl rfl rfl rfl rfl rfl rfl) rfl ((g_throws1 (d := 0) ).up (by omega)) ?_
          refine wn_ifne (t9 := 45) (p9 := 40) rfl rfl rfl (by have := @inb_lt; first | exact Nat.lt_trans inb_lt (by decide) | decide | omega) (fun _ => ?_) (fun h9 => by omega)
          refine wz_iconst (x := nI 0) (p9 := 46) rfl rfl (by decide) ?_
          exact wz_retz rfl rfl (by decide) rfl
theorem g_mOrd1 {X : Nat × (Nat → Int32)} {d : Nat} {A : CA} {R : RA} {o : Nat → Int64} {od : Nat → Nat} (T : TV R.P R.Mv R.t od) {m : Nat} (hm : m < R.Mv) : px_ev X (d + 4) 102 [.ref 26, .int (nI m)] (WW A R o) (some (some (.int (nI (od m)))), WW A (RA.s_th R 0) o, 0, 0) := by
  refine wp_ev (d := d + 3) (by decide) rfl rfl (fun h => by cases h) ?_
  show wp X (d + 3) 102 (0, [.ref 26, .int (nI m)], [], WW A R o, 0, 0) _
  have p7 := T.p7
  have m6 := T.m6
  refine wz_aload_n (p9 := 1) rfl rfl rfl ?_
  refine wz_iload_n (p9 := 2) rfl rfl rfl ?_
  refine wn_iflt (t9 := 13) (p9 := 5) rfl rfl rfl (by omega) (fun h9 => by omega) (fun _ => ?_)
  refine wz_iload_n (p9 := 6) rfl rfl rfl ?_
  refine wz_aload_n (p9 := 7) rfl rfl rfl ?_
  refine wz_get (v := .int (nI R.Mv)) (p9 := 10) rfl rfl rfl rfl rfl ?_
  refine wn_iclt (t9 := 17) (p9 := 13) rfl rfl rfl (by omega) (by omega) (fun _ => ?_) (fun h9 => by omega)
  refine wz_iconst (x := nI 0) (p9 := 18) rfl rfl (by decide) ?_
  refine wz_c1 (p9 := 21) (w1 := WW A (RA.s_th R 0) o) (u := .int (nI 0)) (wa_v (N := 101) (i := 26) (As := [.int (nI 0)]) (rest := []) rfl rfl rfl rfl rfl rfl rfl) rfl ((g_throws0 (d := 0) ).up (by omega)) ?_
  refine wn_ifeq (t9 := 28) (p9 := 24) rfl rfl rfl (by omega) (fun _ => ?_) (fun h9 => by omega)
  refine wz_aload_n (p9 := 29) rfl rfl rfl ?_
  refine wz_iload_n (p9 := 30) rfl rfl rfl ?_
  refine wz_c1 (p9 := 33) (w1 := WW A (RA.s_th R 0) o) (u := .int (nI (od m))) (wa_v (N := 103) (i := 26) (As := [.int (nI m)]) (rest := []) rfl rfl rfl rfl rfl rfl rfl) rfl ((g_mOrder (d := 0) (A := A) (R := (RA.s_th R 0)) T (by omega)).up (by omega)) ?_
  exact wz_reti rfl rfl rfl
theorem g_mOrdX {X : Nat × (Nat → Int32)} {d : Nat} {A : CA} {R : RA} {o : Nat → Int64} {m : Int32} (h : m < 0 ∨ nI R.Mv ≤ m) : px_ev X (d + 2) 102 [.ref 26, .int m] (WW A R o) (some (some (.int (nI 0))), WW A (RA.s_th R 1) o, 0, 0) := by
  refine wp_ev (d := d + 1) (by decide) rfl rfl (fun h => by cases h) ?_
  show wp X (d + 1) 102 (0, [.ref 26, .int m], [], WW A R o, 0, 0) _
  refine wz_aload_n (p9 := 1) rfl rfl rfl ?_
  refine wz_iload_n (p9 := 2) rfl rfl rfl ?_
  refine wz_iflt (t9 := 13) (p9 := 5) rfl rfl rfl (fun h2 => ?_) (fun h2 => ?_)
  · refine wz_iconst (x := nI 1) (p9 := 14) rfl rfl (by decide) ?_
    refine wz_goto (p9 := 18) rfl rfl ?_
    refine wz_c1 (p9 := 21) (w1 := WW A (RA.s_th R 1) o) (u := .int (nI 1)) (wa_v (N := 101) (i := 26) (As := [.int (nI 1)]) (rest := []) rfl rfl rfl rfl rfl rfl rfl) rfl ((g_throws1 (d := 0) ).up (by omega)) ?_
    refine wn_ifeq (t9 := 28) (p9 := 24) rfl rfl rfl (by have := @inb_lt; first | exact Nat.lt_trans inb_lt (by decide) | decide | omega) (fun h9 => by omega) (fun _ => ?_)
    refine wz_iconst (x := nI 0) (p9 := 25) rfl rfl (by decide) ?_
    refine wz_goto (p9 := 33) rfl rfl ?_
    exact wz_reti rfl rfl rfl
  · refine wz_iload_n (p9 := 6) rfl rfl rfl ?_
    refine wz_aload_n (p9 := 7) rfl rfl rfl ?_
    refine wz_get (v := .int (nI R.Mv)) (p9 := 10) rfl rfl rfl rfl rfl ?_
    refine wz_iclt (t9 := 17) (p9 := 13) rfl rfl rfl (fun h10 => ?_) (fun h10 => ?_)
    · refine wz_iconst (x := nI 0) (p9 := 18) rfl rfl (by decide) ?_
      refine wz_c1 (p9 := 21) (w1 := WW A (RA.s_th R 0) o) (u := .int (nI 0)) (wa_v (N := 101) (i := 26) (As := [.int (nI 0)]) (rest := []) rfl rfl rfl rfl rfl rfl rfl) rfl ((g_throws0 (d := 0) ).up (by omega)) ?_
      refine wn_ifeq (t9 := 28) (p9 := 24) rfl rfl rfl (by have := @inb_lt; first | exact Nat.lt_trans inb_lt (by decide) | decide | omega) (fun _ => ?_) (fun h9 => by omega)
      rcases h with q | q
      · exact absurd q h2
      · exact absurd q (Int32.not_le.mpr h10)
    · refine wz_iconst (x := nI 1) (p9 := 14) rfl rfl (by decide) ?_
      refine wz_goto (p9 := 18) rfl rfl ?_
      refine wz_c1 (p9 := 21) (w1 := WW A (RA.s_th R 1) o) (u := .int (nI 1)) (wa_v (N := 101) (i := 26) (As := [.int (nI 1)]) (rest := []) rfl rfl rfl rfl rfl rfl rfl) rfl ((g_throws1 (d := 0) ).up (by omega)) ?_
      refine wn_ifeq (t9 := 28) (p9 := 24) rfl rfl rfl (by have := @inb_lt; first | exact Nat.lt_trans inb_lt (by decide) | decide | omega) (fun h9 => by omega) (fun _ => ?_)
      refine wz_iconst (x := nI 0) (p9 := 25) rfl rfl (by decide) ?_
      refine wz_goto (p9 := 33) rfl rfl ?_
      exact wz_reti rfl rfl rfl
theorem g_mUnit1 {X : Nat × (Nat → Int32)} {d : Nat} {A : CA} {R : RA} {o : Nat → Int64} {u : Nat} (hu : u < 256) (hs : R.sz < 100) : px_ev X (d + 1) 106 [.ref 26, .int (nI u)] (WW A R o) (some (some (.int (nI 1))), WW A (RA.s_tx (RA.s_sz (RA.s_th R 0) (R.sz + 1)) (un R.tx R.sz u)) o, 0, 0) := by
  refine wp_ev (d := d + 0) (by decide) rfl rfl (fun h => by cases h) ?_
  show wp X (d + 0) 106 (0, [.ref 26, .int (nI u)], [], WW A R o, 0, 0) _
  refine wz_aload_n (p9 := 1) rfl rfl rfl ?_
  refine wz_iconst (x := nI 0) (p9 := 2) rfl rfl (by decide) ?_
  refine wp_Rth (x := 0) (p9 := 5) rfl rfl rfl rfl (R1 := (RA.s_th R 0)) rfl ?_
  refine wz_iload_n (p9 := 6) rfl rfl rfl ?_
  refine wn_iflt (t9 := 25) (p9 := 9) rfl rfl rfl (by omega) (fun h9 => by omega) (fun _ => ?_)
  refine wz_iload_n (p9 := 10) rfl rfl rfl ?_
  refine wz_sipush (x := nI 255) (p9 := 13) rfl rfl (by decide) ?_
  refine wn_icgt (t9 := 25) (p9 := 16) rfl rfl rfl (by omega) (by omega) (fun h9 => by omega) (fun _ => ?_)
  refine wz_aload_n (p9 := 17) rfl rfl rfl ?_
  refine wz_get (v := .int (nI R.sz)) (p9 := 20) rfl rfl rfl rfl rfl ?_
  refine wz_bipush (x := nI 100) (p9 := 22) rfl rfl (by decide) ?_
  refine wn_icne (t9 := 27) (p9 := 25) rfl rfl rfl (by omega) (by omega) (fun _ => ?_) (fun h9 => by omega)
  refine wz_aload_n (p9 := 28) rfl rfl rfl ?_
  refine wz_get (v := .ref 29) (p9 := 31) rfl rfl rfl rfl rfl ?_
  refine wz_aload_n (p9 := 32) rfl rfl rfl ?_
  refine wz_get (v := .int (nI R.sz)) (p9 := 35) rfl rfl rfl rfl rfl ?_
  refine wz_iload_n (p9 := 36) rfl rfl rfl ?_
  refine ws_Rtx (f := R.tx) (p9 := 37) rfl rfl rfl (by omega) (R1 := (RA.s_tx (RA.s_th R 0) (un R.tx R.sz u))) rfl ?_
  refine wz_aload_n (p9 := 38) rfl rfl rfl ?_
  refine wz_dupr (p9 := 39) rfl rfl ?_
  refine wz_get (v := .int (nI R.sz)) (p9 := 42) rfl rfl rfl rfl rfl ?_
  refine wz_iconst (x := nI 1) (p9 := 43) rfl rfl (by decide) ?_
  refine wn_add (p9 := 44) rfl rfl ?_
  refine wp_Rsz (x := (R.sz + 1)) (p9 := 47) rfl rfl rfl rfl (R1 := (RA.s_tx (RA.s_sz (RA.s_th R 0) (R.sz + 1)) (un R.tx R.sz u))) rfl ?_
  refine wz_iconst (x := nI 1) (p9 := 48) rfl rfl (by decide) ?_
  exact wz_retz rfl rfl (by decide) rfl
theorem g_mUnit0 {X : Nat × (Nat → Int32)} {d : Nat} {A : CA} {R : RA} {o : Nat → Int64} {u : Int32} (hs : R.sz ≤ 100) (h : ¬ u < 0 → ¬ nI 255 < u → R.sz ≠ 100 → False) : px_ev X (d + 1) 106 [.ref 26, .int u] (WW A R o) (some (some (.int (nI 0))), WW A (RA.s_th R 0) o, 0, 0) := by
  refine wp_ev (d := d + 0) (by decide) rfl rfl (fun h => by cases h) ?_
  show wp X (d + 0) 106 (0, [.ref 26, .int u], [], WW A R o, 0, 0) _
  refine wz_aload_n (p9 := 1) rfl rfl rfl ?_
  refine wz_iconst (x := nI 0) (p9 := 2) rfl rfl (by decide) ?_
  refine wp_Rth (x := 0) (p9 := 5) rfl rfl rfl rfl (R1 := (RA.s_th R 0)) rfl ?_
  refine wz_iload_n (p9 := 6) rfl rfl rfl ?_
  refine wz_iflt (t9 := 25) (p9 := 9) rfl rfl rfl (fun h6 => ?_) (fun h6 => ?_)
  · refine wz_iconst (x := nI 0) (p9 := 26) rfl rfl (by decide) ?_
    exact wz_retz rfl rfl (by decide) rfl
  · refine wz_iload_n (p9 := 10) rfl rfl rfl ?_
    refine wz_sipush (x := nI 255) (p9 := 13) rfl rfl (by decide) ?_
    refine wz_icgt (t9 := 25) (p9 := 16) rfl rfl rfl (fun h13 => ?_) (fun h13 => ?_)
    · refine wz_iconst (x := nI 0) (p9 := 26) rfl rfl (by decide) ?_
      exact wz_retz rfl rfl (by decide) rfl
    · refine wz_aload_n (p9 := 17) rfl rfl rfl ?_
      refine wz_get (v := .int (nI R.sz)) (p9 := 20) rfl rfl rfl rfl rfl ?_
      refine wz_bipush (x := nI 100) (p9 := 22) rfl rfl (by decide) ?_
      refine wn_icne (t9 := 27) (p9 := 25) rfl rfl rfl (by omega) (by omega) (fun h22 => ?_) (fun h22 => ?_)
      · exact (h h6 h13 h22).elim
      · refine wz_iconst (x := nI 0) (p9 := 26) rfl rfl (by decide) ?_
        exact wz_retz rfl rfl (by decide) rfl
theorem g_mLen1 {X : Nat × (Nat → Int32)} {d : Nat} {A : CA} {R : RA} {o : Nat → Int64} (V : WV R.wc R.ln R.rr (fun _ => 0)) {w : Nat} (hw : w < R.wc) : px_ev X (d + 2) 116 [.ref 26, .int (nI w)] (WW A R o) (some (some (.int (nI (R.ln w)))), WW A (RA.s_th R 0) o, 0, 0) := by
  refine wp_ev (d := d + 1) (by decide) rfl rfl (fun h => by cases h) ?_
  show wp X (d + 1) 116 (0, [.ref 26, .int (nI w)], [], WW A R o, 0, 0) _
  have hwc := V.wc
  refine wz_aload_n (p9 := 1) rfl rfl rfl ?_
  refine wz_aload_n (p9 := 2) rfl rfl rfl ?_
  refine wz_iload_n (p9 := 3) rfl rfl rfl ?_
  refine wz_c1 (p9 := 6) (w1 := WW A R o) (u := .int (nI 1)) (wa_v (N := 117) (i := 26) (As := [.int (nI w)]) (rest := [.ref 26]) rfl rfl rfl rfl rfl rfl rfl) rfl ((g_mWord1 (d := 0) (by omega) (by omega)).up (by omega)) ?_
  refine wn_ifne (t9 := 13) (p9 := 9) rfl rfl rfl (by omega) (fun _ => ?_) (fun h9 => by omega)
  refine wz_iconst (x := nI 0) (p9 := 14) rfl rfl (by decide) ?_
  refine wz_c1 (p9 := 17) (w1 := WW A (RA.s_th R 0) o) (u := .int (nI 0)) (wa_v (N := 101) (i := 26) (As := [.int (nI 0)]) (rest := []) rfl rfl rfl rfl rfl rfl rfl) rfl ((g_throws0 (d := 0) ).up (by omega)) ?_
  refine wn_ifeq (t9 := 24) (p9 := 20) rfl rfl rfl (by omega) (fun _ => ?_) (fun h9 => by omega)
  refine wz_aload_n (p9 := 25) rfl rfl rfl ?_
  refine wz_get (v := .ref 30) (p9 := 28) rfl rfl rfl rfl rfl ?_
  refine wz_iload_n (p9 := 29) rfl rfl rfl ?_
  refine wl_Rln (f := R.ln) (p9 := 30) rfl rfl rfl (by omega) ?_
  exact wz_reti rfl rfl rfl
theorem g_mLenX {X : Nat × (Nat → Int32)} {d : Nat} {A : CA} {R : RA} {o : Nat → Int64} {x : Int32} (h : inb x R.wc = 0) : px_ev X (d + 2) 116 [.ref 26, .int x] (WW A R o) (some (some (.int (nI 0))), WW A (RA.s_th R 1) o, 0, 0) := by
  refine wp_ev (d := d + 1) (by decide) rfl rfl (fun h => by cases h) ?_
  show wp X (d + 1) 116 (0, [.ref 26, .int x], [], WW A R o, 0, 0) _
  refine wz_aload_n (p9 := 1) rfl rfl rfl ?_
  refine wz_aload_n (p9 := 2) rfl rfl rfl ?_
  refine wz_iload_n (p9 := 3) rfl rfl rfl ?_
  refine wz_c1 (p9 := 6) (w1 := WW A R o) (u := .int (nI (inb x R.wc))) (wa_v (N := 117) (i := 26) (As := [.int x]) (rest := [.ref 26]) rfl rfl rfl rfl rfl rfl rfl) rfl ((g_mWordR (d := 0) ).up (by omega)) ?_
  refine wn_ifne (t9 := 13) (p9 := 9) rfl rfl rfl (by have := @inb_lt; first | exact Nat.lt_trans inb_lt (by decide) | decide | omega) (fun h6 => ?_) (fun h6 => ?_)
  · refine wz_iconst (x := nI 0) (p9 := 14) rfl rfl (by decide) ?_
    refine wz_c1 (p9 := 17) (w1 := WW A (RA.s_th R 0) o) (u := .int (nI 0)) (wa_v (N := 101) (i := 26) (As := [.int (nI 0)]) (rest := []) rfl rfl rfl rfl rfl rfl rfl) rfl ((g_throws0 (d := 0) ).up (by omega)) ?_
    refine wn_ifeq (t9 := 24) (p9 := 20) rfl rfl rfl (by have := @inb_lt; first | exact Nat.lt_trans inb_lt (by decide) | decide | omega) (fun _ => ?_) (fun h9 => by omega)
    exact absurd h h6
  · refine wz_iconst (x := nI 1) (p9 := 10) rfl rfl (by decide) ?_
    refine wz_goto (p9 := 14) rfl rfl ?_
    refine wz_c1 (p9 := 17) (w1 := WW A (RA.s_th R 1) o) (u := .int (nI 1)) (wa_v (N := 101) (i := 26) (As := [.int (nI 1)]) (rest := []) rfl rfl rfl rfl rfl rfl rfl) rfl ((g_throws1 (d := 0) ).up (by omega)) ?_
    refine wn_ifeq (t9 := 24) (p9 := 20) rfl rfl rfl (by have := @inb_lt; first | exact Nat.lt_trans inb_lt (by decide) | decide | omega) (fun h9 => by omega) (fun _ => ?_)
    refine wz_iconst (x := nI 0) (p9 := 21) rfl rfl (by decide) ?_
    refine wz_goto (p9 := 30) rfl rfl ?_
    exact wz_reti rfl rfl rfl
theorem g_mRow1 {X : Nat × (Nat → Int32)} {d : Nat} {A : CA} {R : RA} {o : Nat → Int64} (V : WV R.wc R.ln R.rr (fun _ => 0)) {w : Nat} (hw : w < R.wc) {k : Nat} (hk : k < 2147483648) : px_ev X (d + 2) 118 [.ref 26, .int (nI w), .int (nI k)] (WW A R o) (some (some (.int (if k < R.ln w then nI (R.rr (w * 40 + k)) else -1))), WW A (RA.s_th R 0) o, 0, 0) := by
  refine wp_ev (d := d + 1) (by decide) rfl rfl (fun h => by cases h) ?_
  show wp X (d + 1) 118 (0, [.ref 26, .int (nI w), .int (nI k)], [], WW A R o, 0, 0) _
  have hwc := V.wc
  have hl := V.rl w
  refine wz_aload_n (p9 := 1) rfl rfl rfl ?_
  refine wz_aload_n (p9 := 2) rfl rfl rfl ?_
  refine wz_iload_n (p9 := 3) rfl rfl rfl ?_
  refine wz_c1 (p9 := 6) (w1 := WW A R o) (u := .int (nI 1)) (wa_v (N := 117) (i := 26) (As := [.int (nI w)]) (rest := [.ref 26]) rfl rfl rfl rfl rfl rfl rfl) rfl ((g_mWord1 (d := 0) (by omega) (by omega)).up (by omega)) ?_
  refine wn_ifne (t9 := 13) (p9 := 9) rfl rfl rfl (by omega) (fun _ => ?_) (fun h9 => by omega)
  refine wz_iconst (x := nI 0) (p9 := 14) rfl rfl (by decide) ?_
  refine wz_c1 (p9 := 17) (w1 := WW A (RA.s_th R 0) o) (u := .int (nI 0)) (wa_v (N := 101) (i := 26) (As := [.int (nI 0)]) (rest := []) rfl rfl rfl rfl rfl rfl rfl) rfl ((g_throws0 (d := 0) ).up (by omega)) ?_
  refine wn_ifeq (t9 := 22) (p9 := 20) rfl rfl rfl (by omega) (fun _ => ?_) (fun h9 => by omega)
  refine wz_iload_n (p9 := 23) rfl rfl rfl ?_
  refine wn_iflt (t9 := 36) (p9 := 26) rfl rfl rfl (by omega) (fun h9 => by omega) (fun _ => ?_)
  refine wz_iload_n (p9 := 27) rfl rfl rfl ?_
  refine wz_aload_n (p9 := 28) rfl rfl rfl ?_
  refine wz_get (v := .ref 30) (p9 := 31) rfl rfl rfl rfl rfl ?_
  refine wz_iload_n (p9 := 32) rfl rfl rfl ?_
  refine wl_Rln (f := R.ln) (p9 := 33) rfl rfl rfl (by omega) ?_
  refine wn_iclt (t9 := 40) (p9 := 36) rfl rfl rfl (by omega) (by omega) (fun h33 => ?_) (fun h33 => ?_)
  · refine wz_aload_n (p9 := 41) rfl rfl rfl ?_
    refine wz_get (v := .ref 31) (p9 := 44) rfl rfl rfl rfl rfl ?_
    refine wz_bipush (x := nI 40) (p9 := 46) rfl rfl (by decide) ?_
    refine wz_iload_n (p9 := 47) rfl rfl rfl ?_
    refine wn_mul (p9 := 48) rfl rfl ?_
    refine wz_iload_n (p9 := 49) rfl rfl rfl ?_
    refine wn_add (p9 := 50) rfl rfl ?_
    refine wl_Rrr (f := R.rr) (p9 := 51) rfl rfl rfl (by omega) ?_
    exact wz_reti rfl rfl (by rw [if_pos h33, Nat.mul_comm w 40])
  · refine wz_iconst (x := (-1)) (p9 := 37) rfl rfl (by decide) ?_
    refine wz_goto (p9 := 51) rfl rfl ?_
    exact wz_reti rfl rfl (by rw [if_neg (by omega)])
theorem g_mRowN {X : Nat × (Nat → Int32)} {d : Nat} {A : CA} {R : RA} {o : Nat → Int64} (V : WV R.wc R.ln R.rr (fun _ => 0)) {w : Nat} (hw : w < R.wc) {k : Int32} (hk : k < 0) : px_ev X (d + 2) 118 [.ref 26, .int (nI w), .int k] (WW A R o) (some (some (.int (-1))), WW A (RA.s_th R 0) o, 0, 0) := by
  refine wp_ev (d := d + 1) (by decide) rfl rfl (fun h => by cases h) ?_
  show wp X (d + 1) 118 (0, [.ref 26, .int (nI w), .int k], [], WW A R o, 0, 0) _
  have hwc := V.wc
  refine wz_aload_n (p9 := 1) rfl rfl rfl ?_
  refine wz_aload_n (p9 := 2) rfl rfl rfl ?_
  refine wz_iload_n (p9 := 3) rfl rfl rfl ?_
  refine wz_c1 (p9 := 6) (w1 := WW A R o) (u := .int (nI 1)) (wa_v (N := 117) (i := 26) (As := [.int (nI w)]) (rest := [.ref 26]) rfl rfl rfl rfl rfl rfl rfl) rfl ((g_mWord1 (d := 0) (by omega) (by omega)).up (by omega)) ?_
  refine wn_ifne (t9 := 13) (p9 := 9) rfl rfl rfl (by omega) (fun _ => ?_) (fun h9 => by omega)
  refine wz_iconst (x := nI 0) (p9 := 14) rfl rfl (by decide) ?_
  refine wz_c1 (p9 := 17) (w1 := WW A (RA.s_th R 0) o) (u := .int (nI 0)) (wa_v (N := 101) (i := 26) (As := [.int (nI 0)]) (rest := []) rfl rfl rfl rfl rfl rfl rfl) rfl ((g_throws0 (d := 0) ).up (by omega)) ?_
  refine wn_ifeq (t9 := 22) (p9 := 20) rfl rfl rfl (by omega) (fun _ => ?_) (fun h9 => by omega)
  refine wz_iload_n (p9 := 23) rfl rfl rfl ?_
  refine wz_iflt (t9 := 36) (p9 := 26) rfl rfl rfl (fun _ => ?_) (fun h9 => absurd hk h9)
  refine wz_iconst (x := (-1)) (p9 := 37) rfl rfl (by decide) ?_
  refine wz_goto (p9 := 51) rfl rfl ?_
  exact wz_reti rfl rfl rfl
theorem g_mRowX {X : Nat × (Nat → Int32)} {d : Nat} {A : CA} {R : RA} {o : Nat → Int64} {x y : Int32} (h : inb x R.wc = 0) : px_ev X (d + 2) 118 [.ref 26, .int x, .int y] (WW A R o) (some (some (.int (nI 0))), WW A (RA.s_th R 1) o, 0, 0) := by
  refine wp_ev (d := d + 1) (by decide) rfl rfl (fun h => by cases h) ?_
  show wp X (d + 1) 118 (0, [.ref 26, .int x, .int y], [], WW A R o, 0, 0) _
  refine wz_aload_n (p9 := 1) rfl rfl rfl ?_
  refine wz_aload_n (p9 := 2) rfl rfl rfl ?_
  refine wz_iload_n (p9 := 3) rfl rfl rfl ?_
  refine wz_c1 (p9 := 6) (w1 := WW A R o) (u := .int (nI (inb x R.wc))) (wa_v (N := 117) (i := 26) (As := [.int x]) (rest := [.ref 26]) rfl rfl rfl rfl rfl rfl rfl) rfl ((g_mWordR (d := 0) ).up (by omega)) ?_
  refine wn_ifne (t9 := 13) (p9 := 9) rfl rfl rfl (by have := @inb_lt; first | exact Nat.lt_trans inb_lt (by decide) | decide | omega) (fun h6 => ?_) (fun h6 => ?_)
  · refine wz_iconst (x := nI 0) (p9 := 14) rfl rfl (by decide) ?_
    refine wz_c1 (p9 := 17) (w1 := WW A (RA.s_th R 0) o) (u := .int (nI 0)) (wa_v (N := 101) (i := 26) (As := [.int (nI 0)]) (rest := []) rfl rfl rfl rfl rfl rfl rfl) rfl ((g_throws0 (d := 0) ).up (by omega)) ?_
    refine wn_ifeq (t9 := 22) (p9 := 20) rfl rfl rfl (by have := @inb_lt; first | exact Nat.lt_trans inb_lt (by decide) | decide | omega) (fun _ => ?_) (fun h9 => by omega)
    exact absurd h h6
  · refine wz_iconst (x := nI 1) (p9 := 10) rfl rfl (by decide) ?_
    refine wz_goto (p9 := 14) rfl rfl ?_
    refine wz_c1 (p9 := 17) (w1 := WW A (RA.s_th R 1) o) (u := .int (nI 1)) (wa_v (N := 101) (i := 26) (As := [.int (nI 1)]) (rest := []) rfl rfl rfl rfl rfl rfl rfl) rfl ((g_throws1 (d := 0) ).up (by omega)) ?_
    refine wn_ifeq (t9 := 22) (p9 := 20) rfl rfl rfl (by have := @inb_lt; first | exact Nat.lt_trans inb_lt (by decide) | decide | omega) (fun h9 => by omega) (fun _ => ?_)
    refine wz_iconst (x := nI 0) (p9 := 21) rfl rfl (by decide) ?_
    exact wz_reti rfl rfl rfl
theorem g_mImg1 {X : Nat × (Nat → Int32)} {d : Nat} {A : CA} {R : RA} {o : Nat → Int64} {od : Nat → Nat} (T : TV R.P R.Mv R.t od) (V : WV R.wc R.ln R.rr (fun _ => 0)) {w : Nat} (hw : w < R.wc) {p : Nat} (hp : p < R.P) : px_ev X (d + 3) 119 [.ref 26, .int (nI w), .int (nI p)] (WW A R o) (some (some (.int (nI (im R.t (fun k => R.rr (w * 40 + k)) (R.ln w) p)))), WW A (RA.s_th R 0) o, 0, 0) := by
  refine wp_ev (d := d + 2) (by decide) rfl rfl (fun h => by cases h) ?_
  show wp X (d + 2) 119 (0, [.ref 26, .int (nI w), .int (nI p)], [], WW A R o, 0, 0) _
  have p7 := T.p7
  have m6 := T.m6
  have hwc := V.wc
  refine wz_aload_n (p9 := 1) rfl rfl rfl ?_
  refine wz_aload_n (p9 := 2) rfl rfl rfl ?_
  refine wz_iload_n (p9 := 3) rfl rfl rfl ?_
  refine wz_c1 (p9 := 6) (w1 := WW A R o) (u := .int (nI 1)) (wa_v (N := 117) (i := 26) (As := [.int (nI w)]) (rest := [.ref 26]) rfl rfl rfl rfl rfl rfl rfl) rfl ((g_mWord1 (d := 0) (by omega) (by omega)).up (by omega)) ?_
  refine wn_ifeq (t9 := 17) (p9 := 9) rfl rfl rfl (by omega) (fun h9 => by omega) (fun _ => ?_)
  refine wz_aload_n (p9 := 10) rfl rfl rfl ?_
  refine wz_iload_n (p9 := 11) rfl rfl rfl ?_
  refine wz_c1 (p9 := 14) (w1 := WW A R o) (u := .int (nI 1)) (wa_v (N := 100) (i := 26) (As := [.int (nI p)]) (rest := [.ref 26]) rfl rfl rfl rfl rfl rfl rfl) rfl ((g_mPlace1 (d := 0) (by omega) (by omega)).up (by omega)) ?_
  refine wn_ifne (t9 := 21) (p9 := 17) rfl rfl rfl (by omega) (fun _ => ?_) (fun h9 => by omega)
  refine wz_iconst (x := nI 0) (p9 := 22) rfl rfl (by decide) ?_
  refine wz_c1 (p9 := 25) (w1 := WW A (RA.s_th R 0) o) (u := .int (nI 0)) (wa_v (N := 101) (i := 26) (As := [.int (nI 0)]) (rest := []) rfl rfl rfl rfl rfl rfl rfl) rfl ((g_throws0 (d := 0) ).up (by omega)) ?_
  refine wn_ifeq (t9 := 32) (p9 := 28) rfl rfl rfl (by omega) (fun _ => ?_) (fun h9 => by omega)
  refine wz_aload_n (p9 := 33) rfl rfl rfl ?_
  refine wz_iload_n (p9 := 34) rfl rfl rfl ?_
  refine wz_iload_n (p9 := 35) rfl rfl rfl ?_
  refine wz_c1 (p9 := 38) (w1 := WW A (RA.s_th R 0) o) (u := .int (nI (im R.t (fun k => R.rr (w * 40 + k)) (R.ln w) p))) (wa_v (N := 120) (i := 26) (As := [.int (nI w), .int (nI p)]) (rest := []) rfl rfl rfl rfl rfl rfl rfl) rfl ((g_imageOf (d := 0) (A := A) (R := (RA.s_th R 0)) T (show w < 30 by omega) (show p < R.P by omega) (V.rl _) (fun k _ => V.rr _)).up (by omega)) ?_
  exact wz_reti rfl rfl rfl
theorem g_mImgX {X : Nat × (Nat → Int32)} {d : Nat} {A : CA} {R : RA} {o : Nat → Int64} {x y : Int32} (h : inb x R.wc = 0 ∨ inb y R.P = 0) : px_ev X (d + 2) 119 [.ref 26, .int x, .int y] (WW A R o) (some (some (.int (nI 0))), WW A (RA.s_th R 1) o, 0, 0) := by
  refine wp_ev (d := d + 1) (by decide) rfl rfl (fun h => by cases h) ?_
  show wp X (d + 1) 119 (0, [.ref 26, .int x, .int y], [], WW A R o, 0, 0) _
  refine wz_aload_n (p9 := 1) rfl rfl rfl ?_
  refine wz_aload_n (p9 := 2) rfl rfl rfl ?_
  refine wz_iload_n (p9 := 3) rfl rfl rfl ?_
  refine wz_c1 (p9 := 6) (w1 := WW A R o) (u := .int (nI (inb x R.wc))) (wa_v (N := 117) (i := 26) (As := [.int x]) (rest := [.ref 26]) rfl rfl rfl rfl rfl rfl rfl) rfl ((g_mWordR (d := 0) ).up (by omega)) ?_
  refine wn_ifeq (t9 := 17) (p9 := 9) rfl rfl rfl (by have := @inb_lt; first | exact Nat.lt_trans inb_lt (by decide) | decide | omega) (fun h6 => ?_) (fun h6 => ?_)
  · refine wz_iconst (x := nI 1) (p9 := 18) rfl rfl (by decide) ?_
    refine wz_goto (p9 := 22) rfl rfl ?_
    refine wz_c1 (p9 := 25) (w1 := WW A (RA.s_th R 1) o) (u := .int (nI 1)) (wa_v (N := 101) (i := 26) (As := [.int (nI 1)]) (rest := []) rfl rfl rfl rfl rfl rfl rfl) rfl ((g_throws1 (d := 0) ).up (by omega)) ?_
    refine wn_ifeq (t9 := 32) (p9 := 28) rfl rfl rfl (by have := @inb_lt; first | exact Nat.lt_trans inb_lt (by decide) | decide | omega) (fun h9 => by omega) (fun _ => ?_)
    refine wz_iconst (x := nI 0) (p9 := 29) rfl rfl (by decide) ?_
    refine wz_goto (p9 := 38) rfl rfl ?_
    exact wz_reti rfl rfl rfl
  · refine wz_aload_n (p9 := 10) rfl rfl rfl ?_
    refine wz_iload_n (p9 := 11) rfl rfl rfl ?_
    refine wz_c1 (p9 := 14) (w1 := WW A R o) (u := .int (nI (inb y R.P))) (wa_v (N := 100) (i := 26) (As := [.int y]) (rest := [.ref 26]) rfl rfl rfl rfl rfl rfl rfl) rfl ((g_mPlaceR (d := 0) ).up (by omega)) ?_
    refine wn_ifne (t9 := 21) (p9 := 17) rfl rfl rfl (by have := @inb_lt; first | exact Nat.lt_trans inb_lt (by decide) | decide | omega) (fun h14 => ?_) (fun h14 => ?_)
    · refine wz_iconst (x := nI 0) (p9 := 22) rfl rfl (by decide) ?_
      refine wz_c1 (p9 := 25) (w1 := WW A (RA.s_th R 0) o) (u := .int (nI 0)) (wa_v (N := 101) (i := 26) (As := [.int (nI 0)]) (rest := []) rfl rfl rfl rfl rfl rfl rfl) rfl ((g_throws0 (d := 0) ).up (by omega)) ?_
      refine wn_ifeq (t9 := 32) (p9 := 28) rfl rfl rfl (by have := @inb_lt; first | exact Nat.lt_trans inb_lt (by decide) | decide | omega) (fun _ => ?_) (fun h9 => by omega)
      rcases h with q | q
      · exact absurd q h6
      · exact absurd q h14
    · refine wz_iconst (x := nI 1) (p9 := 18) rfl rfl (by decide) ?_
      refine wz_goto (p9 := 22) rfl rfl ?_
      refine wz_c1 (p9 := 25) (w1 := WW A (RA.s_th R 1) o) (u := .int (nI 1)) (wa_v (N := 101) (i := 26) (As := [.int (nI 1)]) (rest := []) rfl rfl rfl rfl rfl rfl rfl) rfl ((g_throws1 (d := 0) ).up (by omega)) ?_
      refine wn_ifeq (t9 := 32) (p9 := 28) rfl rfl rfl (by have := @inb_lt; first | exact Nat.lt_trans inb_lt (by decide) | decide | omega) (fun h9 => by omega) (fun _ => ?_)
      refine wz_iconst (x := nI 0) (p9 := 29) rfl rfl (by decide) ?_
      refine wz_goto (p9 := 38) rfl rfl ?_
      exact wz_reti rfl rfl rfl
theorem g_mAt1 {X : Nat × (Nat → Int32)} {d : Nat} {A : CA} {R : RA} {o : Nat → Int64} (h7 : R.P ≤ 7) {p : Nat} (hp : p < R.P) : px_ev X (d + 2) 127 [.ref 26, .int (nI p)] (WW A R o) (some (some (.int (nI (R.nw p)))), WW A (RA.s_th R 0) o, 0, 0) := by
  refine wp_ev (d := d + 1) (by decide) rfl rfl (fun h => by cases h) ?_
  show wp X (d + 1) 127 (0, [.ref 26, .int (nI p)], [], WW A R o, 0, 0) _
  refine wz_aload_n (p9 := 1) rfl rfl rfl ?_
  refine wz_aload_n (p9 := 2) rfl rfl rfl ?_
  refine wz_iload_n (p9 := 3) rfl rfl rfl ?_
  refine wz_c1 (p9 := 6) (w1 := WW A R o) (u := .int (nI 1)) (wa_v (N := 100) (i := 26) (As := [.int (nI p)]) (rest := [.ref 26]) rfl rfl rfl rfl rfl rfl rfl) rfl ((g_mPlace1 (d := 0) (by omega) (by omega)).up (by omega)) ?_
  refine wn_ifne (t9 := 13) (p9 := 9) rfl rfl rfl (by omega) (fun _ => ?_) (fun h9 => by omega)
  refine wz_iconst (x := nI 0) (p9 := 14) rfl rfl (by decide) ?_
  refine wz_c1 (p9 := 17) (w1 := WW A (RA.s_th R 0) o) (u := .int (nI 0)) (wa_v (N := 101) (i := 26) (As := [.int (nI 0)]) (rest := []) rfl rfl rfl rfl rfl rfl rfl) rfl ((g_throws0 (d := 0) ).up (by omega)) ?_
  refine wn_ifeq (t9 := 24) (p9 := 20) rfl rfl rfl (by omega) (fun _ => ?_) (fun h9 => by omega)
  refine wz_aload_n (p9 := 25) rfl rfl rfl ?_
  refine wz_get (v := .ref 28) (p9 := 28) rfl rfl rfl rfl rfl ?_
  refine wz_iload_n (p9 := 29) rfl rfl rfl ?_
  refine wl_Rnw (f := R.nw) (p9 := 30) rfl rfl rfl (by omega) ?_
  exact wz_reti rfl rfl rfl
theorem g_mAtX {X : Nat × (Nat → Int32)} {d : Nat} {A : CA} {R : RA} {o : Nat → Int64} {x : Int32} (h : inb x R.P = 0) : px_ev X (d + 2) 127 [.ref 26, .int x] (WW A R o) (some (some (.int (nI 0))), WW A (RA.s_th R 1) o, 0, 0) := by
  refine wp_ev (d := d + 1) (by decide) rfl rfl (fun h => by cases h) ?_
  show wp X (d + 1) 127 (0, [.ref 26, .int x], [], WW A R o, 0, 0) _
  refine wz_aload_n (p9 := 1) rfl rfl rfl ?_
  refine wz_aload_n (p9 := 2) rfl rfl rfl ?_
  refine wz_iload_n (p9 := 3) rfl rfl rfl ?_
  refine wz_c1 (p9 := 6) (w1 := WW A R o) (u := .int (nI (inb x R.P))) (wa_v (N := 100) (i := 26) (As := [.int x]) (rest := [.ref 26]) rfl rfl rfl rfl rfl rfl rfl) rfl ((g_mPlaceR (d := 0) ).up (by omega)) ?_
  refine wn_ifne (t9 := 13) (p9 := 9) rfl rfl rfl (by have := @inb_lt; first | exact Nat.lt_trans inb_lt (by decide) | decide | omega) (fun h6 => ?_) (fun h6 => ?_)
  · refine wz_iconst (x := nI 0) (p9 := 14) rfl rfl (by decide) ?_
    refine wz_c1 (p9 := 17) (w1 := WW A (RA.s_th R 0) o) (u := .int (nI 0)) (wa_v (N := 101) (i := 26) (As := [.int (nI 0)]) (rest := []) rfl rfl rfl rfl rfl rfl rfl) rfl ((g_throws0 (d := 0) ).up (by omega)) ?_
    refine wn_ifeq (t9 := 24) (p9 := 20) rfl rfl rfl (by have := @inb_lt; first | exact Nat.lt_trans inb_lt (by decide) | decide | omega) (fun _ => ?_) (fun h9 => by omega)
    exact absurd h h6
  · refine wz_iconst (x := nI 1) (p9 := 10) rfl rfl (by decide) ?_
    refine wz_goto (p9 := 14) rfl rfl ?_
    refine wz_c1 (p9 := 17) (w1 := WW A (RA.s_th R 1) o) (u := .int (nI 1)) (wa_v (N := 101) (i := 26) (As := [.int (nI 1)]) (rest := []) rfl rfl rfl rfl rfl rfl rfl) rfl ((g_throws1 (d := 0) ).up (by omega)) ?_
    refine wn_ifeq (t9 := 24) (p9 := 20) rfl rfl rfl (by have := @inb_lt; first | exact Nat.lt_trans inb_lt (by decide) | decide | omega) (fun h9 => by omega) (fun _ => ?_)
    refine wz_iconst (x := nI 0) (p9 := 21) rfl rfl (by decide) ?_
    refine wz_goto (p9 := 30) rfl rfl ?_
    exact wz_reti rfl rfl rfl
theorem g_mSwap1 {X : Nat × (Nat → Int32)} {d : Nat} {A : CA} {R : RA} {o : Nat → Int64} (h7 : R.P ≤ 7) {x y : Nat} (hx : x < R.P) (hy : y < R.P) (hne : x ≠ y) : px_ev X (d + 2) 126 [.ref 26, .int (nI x), .int (nI y)] (WW A R o) (some (some (.int (nI 1))), WW A (RA.s_nw (RA.s_th R 0) (un (un R.nw x (R.nw y)) y (R.nw x))) o, 0, 0) := by
  refine wp_ev (d := d + 1) (by decide) rfl rfl (fun h => by cases h) ?_
  show wp X (d + 1) 126 (0, [.ref 26, .int (nI x), .int (nI y), .retAddr 0], [], WW A R o, 0, 0) _
  refine wz_aload_n (p9 := 1) rfl rfl rfl ?_
  refine wz_aload_n (p9 := 2) rfl rfl rfl ?_
  refine wz_iload_n (p9 := 3) rfl rfl rfl ?_
  refine wz_c1 (p9 := 6) (w1 := WW A R o) (u := .int (nI 1)) (wa_v (N := 100) (i := 26) (As := [.int (nI x)]) (rest := [.ref 26]) rfl rfl rfl rfl rfl rfl rfl) rfl ((g_mPlace1 (d := 0) (by omega) (by omega)).up (by omega)) ?_
  refine wn_ifeq (t9 := 17) (p9 := 9) rfl rfl rfl (by omega) (fun h9 => by omega) (fun _ => ?_)
  refine wz_aload_n (p9 := 10) rfl rfl rfl ?_
  refine wz_iload_n (p9 := 11) rfl rfl rfl ?_
  refine wz_c1 (p9 := 14) (w1 := WW A R o) (u := .int (nI 1)) (wa_v (N := 100) (i := 26) (As := [.int (nI y)]) (rest := [.ref 26]) rfl rfl rfl rfl rfl rfl rfl) rfl ((g_mPlace1 (d := 0) (by omega) (by omega)).up (by omega)) ?_
  refine wn_ifne (t9 := 21) (p9 := 17) rfl rfl rfl (by omega) (fun _ => ?_) (fun h9 => by omega)
  refine wz_iconst (x := nI 0) (p9 := 22) rfl rfl (by decide) ?_
  refine wz_c1 (p9 := 25) (w1 := WW A (RA.s_th R 0) o) (u := .int (nI 0)) (wa_v (N := 101) (i := 26) (As := [.int (nI 0)]) (rest := []) rfl rfl rfl rfl rfl rfl rfl) rfl ((g_throws0 (d := 0) ).up (by omega)) ?_
  refine wn_ifne (t9 := 33) (p9 := 28) rfl rfl rfl (by omega) (fun h9 => by omega) (fun _ => ?_)
  refine wz_iload_n (p9 := 29) rfl rfl rfl ?_
  refine wz_iload_n (p9 := 30) rfl rfl rfl ?_
  refine wn_icne (t9 := 35) (p9 := 33) rfl rfl rfl (by omega) (by omega) (fun _ => ?_) (fun h9 => by omega)
  refine wz_aload_n (p9 := 36) rfl rfl rfl ?_
  refine wz_get (v := .ref 28) (p9 := 39) rfl rfl rfl rfl rfl ?_
  refine wz_iload_n (p9 := 40) rfl rfl rfl ?_
  refine wl_Rnw (f := R.nw) (p9 := 41) rfl rfl rfl (by omega) ?_
  refine wz_istore_n (l9 := [.ref 26, .int (nI x), .int (nI y), .int (nI (R.nw x))]) (p9 := 42) rfl rfl rfl rfl ?_
  refine wz_aload_n (p9 := 43) rfl rfl rfl ?_
  refine wz_get (v := .ref 28) (p9 := 46) rfl rfl rfl rfl rfl ?_
  refine wz_iload_n (p9 := 47) rfl rfl rfl ?_
  refine wz_aload_n (p9 := 48) rfl rfl rfl ?_
  refine wz_get (v := .ref 28) (p9 := 51) rfl rfl rfl rfl rfl ?_
  refine wz_iload_n (p9 := 52) rfl rfl rfl ?_
  refine wl_Rnw (f := R.nw) (p9 := 53) rfl rfl rfl (by omega) ?_
  refine ws_Rnw (f := R.nw) (p9 := 54) rfl rfl rfl (by omega) (R1 := (RA.s_nw (RA.s_th R 0) (un R.nw x (R.nw y)))) rfl ?_
  refine wz_aload_n (p9 := 55) rfl rfl rfl ?_
  refine wz_get (v := .ref 28) (p9 := 58) rfl rfl rfl rfl rfl ?_
  refine wz_iload_n (p9 := 59) rfl rfl rfl ?_
  refine wz_iload_n (p9 := 60) rfl rfl rfl ?_
  refine ws_Rnw (f := un R.nw x (R.nw y)) (p9 := 61) rfl rfl rfl (by omega) (R1 := (RA.s_nw (RA.s_th R 0) (un (un R.nw x (R.nw y)) y (R.nw x)))) rfl ?_
  refine wz_iconst (x := nI 1) (p9 := 62) rfl rfl (by decide) ?_
  exact wz_retz rfl rfl (by decide) rfl
theorem g_mSwapE {X : Nat × (Nat → Int32)} {d : Nat} {A : CA} {R : RA} {o : Nat → Int64} (h7 : R.P ≤ 7) {x y : Nat} (hx : x < R.P) (hy : y < R.P) (hne : x = y) : px_ev X (d + 2) 126 [.ref 26, .int (nI x), .int (nI y)] (WW A R o) (some (some (.int (nI 0))), WW A (RA.s_th R 0) o, 0, 0) := by
  refine wp_ev (d := d + 1) (by decide) rfl rfl (fun h => by cases h) ?_
  show wp X (d + 1) 126 (0, [.ref 26, .int (nI x), .int (nI y), .retAddr 0], [], WW A R o, 0, 0) _
  refine wz_aload_n (p9 := 1) rfl rfl rfl ?_
  refine wz_aload_n (p9 := 2) rfl rfl rfl ?_
  refine wz_iload_n (p9 := 3) rfl rfl rfl ?_
  refine wz_c1 (p9 := 6) (w1 := WW A R o) (u := .int (nI 1)) (wa_v (N := 100) (i := 26) (As := [.int (nI x)]) (rest := [.ref 26]) rfl rfl rfl rfl rfl rfl rfl) rfl ((g_mPlace1 (d := 0) (by omega) (by omega)).up (by omega)) ?_
  refine wn_ifeq (t9 := 17) (p9 := 9) rfl rfl rfl (by omega) (fun h9 => by omega) (fun _ => ?_)
  refine wz_aload_n (p9 := 10) rfl rfl rfl ?_
  refine wz_iload_n (p9 := 11) rfl rfl rfl ?_
  refine wz_c1 (p9 := 14) (w1 := WW A R o) (u := .int (nI 1)) (wa_v (N := 100) (i := 26) (As := [.int (nI y)]) (rest := [.ref 26]) rfl rfl rfl rfl rfl rfl rfl) rfl ((g_mPlace1 (d := 0) (by omega) (by omega)).up (by omega)) ?_
  refine wn_ifne (t9 := 21) (p9 := 17) rfl rfl rfl (by omega) (fun _ => ?_) (fun h9 => by omega)
  refine wz_iconst (x := nI 0) (p9 := 22) rfl rfl (by decide) ?_
  refine wz_c1 (p9 := 25) (w1 := WW A (RA.s_th R 0) o) (u := .int (nI 0)) (wa_v (N := 101) (i := 26) (As := [.int (nI 0)]) (rest := []) rfl rfl rfl rfl rfl rfl rfl) rfl ((g_throws0 (d := 0) ).up (by omega)) ?_
  refine wn_ifne (t9 := 33) (p9 := 28) rfl rfl rfl (by omega) (fun h9 => by omega) (fun _ => ?_)
  refine wz_iload_n (p9 := 29) rfl rfl rfl ?_
  refine wz_iload_n (p9 := 30) rfl rfl rfl ?_
  refine wn_icne (t9 := 35) (p9 := 33) rfl rfl rfl (by omega) (by omega) (fun h9 => by omega) (fun _ => ?_)
  refine wz_iconst (x := nI 0) (p9 := 34) rfl rfl (by decide) ?_
  exact wz_retz rfl rfl (by decide) rfl
theorem g_mSwapX {X : Nat × (Nat → Int32)} {d : Nat} {A : CA} {R : RA} {o : Nat → Int64} {x y : Int32} (h : inb x R.P = 0 ∨ inb y R.P = 0) : px_ev X (d + 2) 126 [.ref 26, .int x, .int y] (WW A R o) (some (some (.int (nI 0))), WW A (RA.s_th R 1) o, 0, 0) := by
  refine wp_ev (d := d + 1) (by decide) rfl rfl (fun h => by cases h) ?_
  show wp X (d + 1) 126 (0, [.ref 26, .int x, .int y, .retAddr 0], [], WW A R o, 0, 0) _
  refine wz_aload_n (p9 := 1) rfl rfl rfl ?_
  refine wz_aload_n (p9 := 2) rfl rfl rfl ?_
  refine wz_iload_n (p9 := 3) rfl rfl rfl ?_
  refine wz_c1 (p9 := 6) (w1 := WW A R o) (u := .int (nI (inb x R.P))) (wa_v (N := 100) (i := 26) (As := [.int x]) (rest := [.ref 26]) rfl rfl rfl rfl rfl rfl rfl) rfl ((g_mPlaceR (d := 0) ).up (by omega)) ?_
  refine wn_ifeq (t9 := 17) (p9 := 9) rfl rfl rfl (by have := @inb_lt; first | exact Nat.lt_trans inb_lt (by decide) | decide | omega) (fun h6 => ?_) (fun h6 => ?_)
  · refine wz_iconst (x := nI 1) (p9 := 18) rfl rfl (by decide) ?_
    refine wz_goto (p9 := 22) rfl rfl ?_
    refine wz_c1 (p9 := 25) (w1 := WW A (RA.s_th R 1) o) (u := .int (nI 1)) (wa_v (N := 101) (i := 26) (As := [.int (nI 1)]) (rest := []) rfl rfl rfl rfl rfl rfl rfl) rfl ((g_throws1 (d := 0) ).up (by omega)) ?_
    refine wn_ifne (t9 := 33) (p9 := 28) rfl rfl rfl (by have := @inb_lt; first | exact Nat.lt_trans inb_lt (by decide) | decide | omega) (fun _ => ?_) (fun h9 => by omega)
    refine wz_iconst (x := nI 0) (p9 := 34) rfl rfl (by decide) ?_
    exact wz_retz rfl rfl (by decide) rfl
  · refine wz_aload_n (p9 := 10) rfl rfl rfl ?_
    refine wz_iload_n (p9 := 11) rfl rfl rfl ?_
    refine wz_c1 (p9 := 14) (w1 := WW A R o) (u := .int (nI (inb y R.P))) (wa_v (N := 100) (i := 26) (As := [.int y]) (rest := [.ref 26]) rfl rfl rfl rfl rfl rfl rfl) rfl ((g_mPlaceR (d := 0) ).up (by omega)) ?_
    refine wn_ifne (t9 := 21) (p9 := 17) rfl rfl rfl (by have := @inb_lt; first | exact Nat.lt_trans inb_lt (by decide) | decide | omega) (fun h14 => ?_) (fun h14 => ?_)
    · refine wz_iconst (x := nI 0) (p9 := 22) rfl rfl (by decide) ?_
      refine wz_c1 (p9 := 25) (w1 := WW A (RA.s_th R 0) o) (u := .int (nI 0)) (wa_v (N := 101) (i := 26) (As := [.int (nI 0)]) (rest := []) rfl rfl rfl rfl rfl rfl rfl) rfl ((g_throws0 (d := 0) ).up (by omega)) ?_
      refine wn_ifne (t9 := 33) (p9 := 28) rfl rfl rfl (by have := @inb_lt; first | exact Nat.lt_trans inb_lt (by decide) | decide | omega) (fun h9 => by omega) (fun _ => ?_)
      rcases h with q | q
      · exact absurd q h6
      · exact absurd q h14
    · refine wz_iconst (x := nI 1) (p9 := 18) rfl rfl (by decide) ?_
      refine wz_goto (p9 := 22) rfl rfl ?_
      refine wz_c1 (p9 := 25) (w1 := WW A (RA.s_th R 1) o) (u := .int (nI 1)) (wa_v (N := 101) (i := 26) (As := [.int (nI 1)]) (rest := []) rfl rfl rfl rfl rfl rfl rfl) rfl ((g_throws1 (d := 0) ).up (by omega)) ?_
      refine wn_ifne (t9 := 33) (p9 := 28) rfl rfl rfl (by have := @inb_lt; first | exact Nat.lt_trans inb_lt (by decide) | decide | omega) (fun _ => ?_) (fun h9 => by omega)
      refine wz_iconst (x := nI 0) (p9 := 34) rfl rfl (by decide) ?_
      exact wz_retz rfl rfl (by decide) rfl
theorem g_mStg1 {X : Nat × (Nat → Int32)} {d : Nat} {A : CA} {R : RA} {o : Nat → Int64} (h : R.sc < 8) : px_ev X (d + 1) 128 [.ref 26] (WW A R o) (some (some (.int (nI R.sc))), WW A (RA.s_us (RA.s_go (RA.s_sc (RA.s_th R 0) (R.sc + 1)) (un R.go R.sc 0)) (un R.us R.sc 0)) o, 0, 0) := by
  refine wp_ev (d := d + 0) (by decide) rfl rfl (fun h => by cases h) ?_
  show wp X (d + 0) 128 (0, [.ref 26], [], WW A R o, 0, 0) _
  refine wz_aload_n (p9 := 1) rfl rfl rfl ?_
  refine wz_iconst (x := nI 0) (p9 := 2) rfl rfl (by decide) ?_
  refine wp_Rth (x := 0) (p9 := 5) rfl rfl rfl rfl (R1 := (RA.s_th R 0)) rfl ?_
  refine wz_aload_n (p9 := 6) rfl rfl rfl ?_
  refine wz_get (v := .int (nI R.sc)) (p9 := 9) rfl rfl rfl rfl rfl ?_
  refine wz_bipush (x := nI 8) (p9 := 11) rfl rfl (by decide) ?_
  refine wn_icne (t9 := 16) (p9 := 14) rfl rfl rfl (by omega) (by omega) (fun _ => ?_) (fun h9 => by omega)
  refine wz_aload_n (p9 := 17) rfl rfl rfl ?_
  refine wz_get (v := .ref 36) (p9 := 20) rfl rfl rfl rfl rfl ?_
  refine wz_aload_n (p9 := 21) rfl rfl rfl ?_
  refine wz_get (v := .int (nI R.sc)) (p9 := 24) rfl rfl rfl rfl rfl ?_
  refine wz_iconst (x := nI 0) (p9 := 25) rfl rfl (by decide) ?_
  refine ws_Rgo (f := R.go) (p9 := 26) rfl rfl rfl (by omega) (R1 := (RA.s_go (RA.s_th R 0) (un R.go R.sc 0))) rfl ?_
  refine wz_aload_n (p9 := 27) rfl rfl rfl ?_
  refine wz_get (v := .ref 37) (p9 := 30) rfl rfl rfl rfl rfl ?_
  refine wz_aload_n (p9 := 31) rfl rfl rfl ?_
  refine wz_get (v := .int (nI R.sc)) (p9 := 34) rfl rfl rfl rfl rfl ?_
  refine wz_iconst (x := nI 0) (p9 := 35) rfl rfl (by decide) ?_
  refine ws_Rus (f := R.us) (p9 := 36) rfl rfl rfl (by omega) (R1 := (RA.s_us (RA.s_go (RA.s_th R 0) (un R.go R.sc 0)) (un R.us R.sc 0))) rfl ?_
  refine wz_aload_n (p9 := 37) rfl rfl rfl ?_
  refine wz_dupr (p9 := 38) rfl rfl ?_
  refine wz_get (v := .int (nI R.sc)) (p9 := 41) rfl rfl rfl rfl rfl ?_
  refine wz_iconst (x := nI 1) (p9 := 42) rfl rfl (by decide) ?_
  refine wn_add (p9 := 43) rfl rfl ?_
  refine wp_Rsc (x := (R.sc + 1)) (p9 := 46) rfl rfl rfl rfl (R1 := (RA.s_us (RA.s_go (RA.s_sc (RA.s_th R 0) (R.sc + 1)) (un R.go R.sc 0)) (un R.us R.sc 0))) rfl ?_
  refine wz_aload_n (p9 := 47) rfl rfl rfl ?_
  refine wz_get (v := .int (nI (R.sc + 1))) (p9 := 50) rfl rfl rfl rfl rfl ?_
  refine wz_iconst (x := nI 1) (p9 := 51) rfl rfl (by decide) ?_
  refine wn_sub (p9 := 52) rfl rfl (by omega) ?_
  exact wz_reti rfl rfl (by rw [show R.sc + 1 - 1 = R.sc by omega])
theorem g_mStg0 {X : Nat × (Nat → Int32)} {d : Nat} {A : CA} {R : RA} {o : Nat → Int64} (h : R.sc = 8) : px_ev X (d + 1) 128 [.ref 26] (WW A R o) (some (some (.int (-1))), WW A (RA.s_th R 0) o, 0, 0) := by
  refine wp_ev (d := d + 0) (by decide) rfl rfl (fun h => by cases h) ?_
  show wp X (d + 0) 128 (0, [.ref 26], [], WW A R o, 0, 0) _
  refine wz_aload_n (p9 := 1) rfl rfl rfl ?_
  refine wz_iconst (x := nI 0) (p9 := 2) rfl rfl (by decide) ?_
  refine wp_Rth (x := 0) (p9 := 5) rfl rfl rfl rfl (R1 := (RA.s_th R 0)) rfl ?_
  refine wz_aload_n (p9 := 6) rfl rfl rfl ?_
  refine wz_get (v := .int (nI R.sc)) (p9 := 9) rfl rfl rfl rfl rfl ?_
  refine wz_bipush (x := nI 8) (p9 := 11) rfl rfl (by decide) ?_
  refine wn_icne (t9 := 16) (p9 := 14) rfl rfl rfl (by omega) (by omega) (fun h9 => by omega) (fun _ => ?_)
  refine wz_iconst (x := (-1)) (p9 := 15) rfl rfl (by decide) ?_
  exact wz_reti rfl rfl rfl
theorem g_mGoal00 {X : Nat × (Nat → Int32)} {d : Nat} {A : CA} {R : RA} {o : Nat → Int64} (S : SV R.sc R.go R.us R.ud) (h7 : R.P ≤ 7) {s p : Nat} (hs : s < R.sc) (hp : p < R.P) (h : R.go s / 2 ^ p % 2 = 0) : px_ev X (d + 2) 129 [.ref 26, .int (nI s), .int (nI p), .int (nI 0)] (WW A R o) (some (some (.int (nI 0))), WW A (RA.s_th R 0) o, 0, 0) := by
  refine wp_ev (d := d + 1) (by decide) rfl rfl (fun h => by cases h) ?_
  show wp X (d + 1) 129 (0, [.ref 26, .int (nI s), .int (nI p), .int (nI 0)], [], WW A R o, 0, 0) _
  have hsc := S.sc
  have hg := S.sg s
  refine wz_aload_n (p9 := 1) rfl rfl rfl ?_
  refine wz_aload_n (p9 := 2) rfl rfl rfl ?_
  refine wz_iload_n (p9 := 3) rfl rfl rfl ?_
  refine wz_c1 (p9 := 6) (w1 := WW A R o) (u := .int (nI 1)) (wa_v (N := 130) (i := 26) (As := [.int (nI s)]) (rest := [.ref 26]) rfl rfl rfl rfl rfl rfl rfl) rfl ((g_mStage1 (d := 0) (by omega) (by omega)).up (by omega)) ?_
  refine wn_ifeq (t9 := 17) (p9 := 9) rfl rfl rfl (by omega) (fun h9 => by omega) (fun _ => ?_)
  refine wz_aload_n (p9 := 10) rfl rfl rfl ?_
  refine wz_iload_n (p9 := 11) rfl rfl rfl ?_
  refine wz_c1 (p9 := 14) (w1 := WW A R o) (u := .int (nI 1)) (wa_v (N := 100) (i := 26) (As := [.int (nI p)]) (rest := [.ref 26]) rfl rfl rfl rfl rfl rfl rfl) rfl ((g_mPlace1 (d := 0) (by omega) (by omega)).up (by omega)) ?_
  refine wn_ifne (t9 := 21) (p9 := 17) rfl rfl rfl (by omega) (fun _ => ?_) (fun h9 => by omega)
  refine wz_iconst (x := nI 0) (p9 := 22) rfl rfl (by decide) ?_
  refine wz_c1 (p9 := 25) (w1 := WW A (RA.s_th R 0) o) (u := .int (nI 0)) (wa_v (N := 101) (i := 26) (As := [.int (nI 0)]) (rest := []) rfl rfl rfl rfl rfl rfl rfl) rfl ((g_throws0 (d := 0) ).up (by omega)) ?_
  refine wn_ifne (t9 := 51) (p9 := 28) rfl rfl rfl (by omega) (fun h9 => by omega) (fun _ => ?_)
  refine wz_aload_n (p9 := 29) rfl rfl rfl ?_
  refine wz_get (v := .ref 36) (p9 := 32) rfl rfl rfl rfl rfl ?_
  refine wz_iload_n (p9 := 33) rfl rfl rfl ?_
  refine wl_Rgo (f := R.go) (p9 := 34) rfl rfl rfl (by omega) ?_
  refine wz_iload_n (p9 := 35) rfl rfl rfl ?_
  refine wn_shr (p9 := 36) rfl rfl (by omega) (by omega) ?_
  refine wz_iconst (x := nI 1) (p9 := 37) rfl rfl (by decide) ?_
  refine wn_and1 (p9 := 38) rfl rfl ?_
  refine wz_iconst (x := nI 1) (p9 := 39) rfl rfl (by decide) ?_
  refine wn_icne (t9 := 46) (p9 := 42) rfl rfl rfl (by omega) (by omega) (fun _ => ?_) (fun h9 => by omega)
  refine wz_iconst (x := nI 0) (p9 := 47) rfl rfl (by decide) ?_
  refine wz_iload_n (p9 := 48) rfl rfl rfl ?_
  refine wn_icne (t9 := 53) (p9 := 51) rfl rfl rfl (by omega) (by omega) (fun h9 => by omega) (fun _ => ?_)
  refine wz_iconst (x := nI 0) (p9 := 52) rfl rfl (by decide) ?_
  exact wz_retz rfl rfl (by decide) rfl
theorem g_mGoal10 {X : Nat × (Nat → Int32)} {d : Nat} {A : CA} {R : RA} {o : Nat → Int64} (S : SV R.sc R.go R.us R.ud) (h7 : R.P ≤ 7) {s p : Nat} (hs : s < R.sc) (hp : p < R.P) (h : R.go s / 2 ^ p % 2 = 1) : px_ev X (d + 2) 129 [.ref 26, .int (nI s), .int (nI p), .int (nI 0)] (WW A R o) (some (some (.int (nI 1))), WW A (RA.s_go (RA.s_th R 0) (un R.go s (R.go s ^^^ 1 * 2 ^ p))) o, 0, 0) := by
  refine wp_ev (d := d + 1) (by decide) rfl rfl (fun h => by cases h) ?_
  show wp X (d + 1) 129 (0, [.ref 26, .int (nI s), .int (nI p), .int (nI 0)], [], WW A R o, 0, 0) _
  have hsc := S.sc
  have hg := S.sg s
  refine wz_aload_n (p9 := 1) rfl rfl rfl ?_
  refine wz_aload_n (p9 := 2) rfl rfl rfl ?_
  refine wz_iload_n (p9 := 3) rfl rfl rfl ?_
  refine wz_c1 (p9 := 6) (w1 := WW A R o) (u := .int (nI 1)) (wa_v (N := 130) (i := 26) (As := [.int (nI s)]) (rest := [.ref 26]) rfl rfl rfl rfl rfl rfl rfl) rfl ((g_mStage1 (d := 0) (by omega) (by omega)).up (by omega)) ?_
  refine wn_ifeq (t9 := 17) (p9 := 9) rfl rfl rfl (by omega) (fun h9 => by omega) (fun _ => ?_)
  refine wz_aload_n (p9 := 10) rfl rfl rfl ?_
  refine wz_iload_n (p9 := 11) rfl rfl rfl ?_
  refine wz_c1 (p9 := 14) (w1 := WW A R o) (u := .int (nI 1)) (wa_v (N := 100) (i := 26) (As := [.int (nI p)]) (rest := [.ref 26]) rfl rfl rfl rfl rfl rfl rfl) rfl ((g_mPlace1 (d := 0) (by omega) (by omega)).up (by omega)) ?_
  refine wn_ifne (t9 := 21) (p9 := 17) rfl rfl rfl (by omega) (fun _ => ?_) (fun h9 => by omega)
  refine wz_iconst (x := nI 0) (p9 := 22) rfl rfl (by decide) ?_
  refine wz_c1 (p9 := 25) (w1 := WW A (RA.s_th R 0) o) (u := .int (nI 0)) (wa_v (N := 101) (i := 26) (As := [.int (nI 0)]) (rest := []) rfl rfl rfl rfl rfl rfl rfl) rfl ((g_throws0 (d := 0) ).up (by omega)) ?_
  refine wn_ifne (t9 := 51) (p9 := 28) rfl rfl rfl (by omega) (fun h9 => by omega) (fun _ => ?_)
  refine wz_aload_n (p9 := 29) rfl rfl rfl ?_
  refine wz_get (v := .ref 36) (p9 := 32) rfl rfl rfl rfl rfl ?_
  refine wz_iload_n (p9 := 33) rfl rfl rfl ?_
  refine wl_Rgo (f := R.go) (p9 := 34) rfl rfl rfl (by omega) ?_
  refine wz_iload_n (p9 := 35) rfl rfl rfl ?_
  refine wn_shr (p9 := 36) rfl rfl (by omega) (by omega) ?_
  refine wz_iconst (x := nI 1) (p9 := 37) rfl rfl (by decide) ?_
  refine wn_and1 (p9 := 38) rfl rfl ?_
  refine wz_iconst (x := nI 1) (p9 := 39) rfl rfl (by decide) ?_
  refine wn_icne (t9 := 46) (p9 := 42) rfl rfl rfl (by omega) (by omega) (fun h9 => by omega) (fun _ => ?_)
  refine wz_iconst (x := nI 1) (p9 := 43) rfl rfl (by decide) ?_
  refine wz_goto (p9 := 47) rfl rfl ?_
  refine wz_iload_n (p9 := 48) rfl rfl rfl ?_
  refine wn_icne (t9 := 53) (p9 := 51) rfl rfl rfl (by omega) (by omega) (fun _ => ?_) (fun h9 => by omega)
  refine wz_aload_n (p9 := 54) rfl rfl rfl ?_
  refine wz_get (v := .ref 36) (p9 := 57) rfl rfl rfl rfl rfl ?_
  refine wz_iload_n (p9 := 58) rfl rfl rfl ?_
  refine wz_aload_n (p9 := 59) rfl rfl rfl ?_
  refine wz_get (v := .ref 36) (p9 := 62) rfl rfl rfl rfl rfl ?_
  refine wz_iload_n (p9 := 63) rfl rfl rfl ?_
  refine wl_Rgo (f := R.go) (p9 := 64) rfl rfl rfl (by omega) ?_
  refine wz_iconst (x := nI 1) (p9 := 65) rfl rfl (by decide) ?_
  refine wz_iload_n (p9 := 66) rfl rfl rfl ?_
  refine wn_shl (p9 := 67) rfl rfl (by omega) ?_
  refine wn_xor (p9 := 68) rfl rfl ?_
  refine ws_Rgo (f := R.go) (p9 := 69) rfl rfl rfl (by omega) (R1 := (RA.s_go (RA.s_th R 0) (un R.go s ((R.go s) ^^^ (1 * 2 ^ p))))) rfl ?_
  refine wz_iconst (x := nI 1) (p9 := 70) rfl rfl (by decide) ?_
  exact wz_retz rfl rfl (by decide) rfl
theorem g_mGoal01 {X : Nat × (Nat → Int32)} {d : Nat} {A : CA} {R : RA} {o : Nat → Int64} (S : SV R.sc R.go R.us R.ud) (h7 : R.P ≤ 7) {s p : Nat} (hs : s < R.sc) (hp : p < R.P) (h : R.go s / 2 ^ p % 2 = 0) : px_ev X (d + 2) 129 [.ref 26, .int (nI s), .int (nI p), .int (nI 1)] (WW A R o) (some (some (.int (nI 1))), WW A (RA.s_go (RA.s_th R 0) (un R.go s (R.go s ^^^ 1 * 2 ^ p))) o, 0, 0) := by
  refine wp_ev (d := d + 1) (by decide) rfl rfl (fun h => by cases h) ?_
  show wp X (d + 1) 129 (0, [.ref 26, .int (nI s), .int (nI p), .int (nI 1)], [], WW A R o, 0, 0) _
  have hsc := S.sc
  have hg := S.sg s
  refine wz_aload_n (p9 := 1) rfl rfl rfl ?_
  refine wz_aload_n (p9 := 2) rfl rfl rfl ?_
  refine wz_iload_n (p9 := 3) rfl rfl rfl ?_
  refine wz_c1 (p9 := 6) (w1 := WW A R o) (u := .int (nI 1)) (wa_v (N := 130) (i := 26) (As := [.int (nI s)]) (rest := [.ref 26]) rfl rfl rfl rfl rfl rfl rfl) rfl ((g_mStage1 (d := 0) (by omega) (by omega)).up (by omega)) ?_
  refine wn_ifeq (t9 := 17) (p9 := 9) rfl rfl rfl (by omega) (fun h9 => by omega) (fun _ => ?_)
  refine wz_aload_n (p9 := 10) rfl rfl rfl ?_
  refine wz_iload_n (p9 := 11) rfl rfl rfl ?_
  refine wz_c1 (p9 := 14) (w1 := WW A R o) (u := .int (nI 1)) (wa_v (N := 100) (i := 26) (As := [.int (nI p)]) (rest := [.ref 26]) rfl rfl rfl rfl rfl rfl rfl) rfl ((g_mPlace1 (d := 0) (by omega) (by omega)).up (by omega)) ?_
  refine wn_ifne (t9 := 21) (p9 := 17) rfl rfl rfl (by omega) (fun _ => ?_) (fun h9 => by omega)
  refine wz_iconst (x := nI 0) (p9 := 22) rfl rfl (by decide) ?_
  refine wz_c1 (p9 := 25) (w1 := WW A (RA.s_th R 0) o) (u := .int (nI 0)) (wa_v (N := 101) (i := 26) (As := [.int (nI 0)]) (rest := []) rfl rfl rfl rfl rfl rfl rfl) rfl ((g_throws0 (d := 0) ).up (by omega)) ?_
  refine wn_ifne (t9 := 51) (p9 := 28) rfl rfl rfl (by omega) (fun h9 => by omega) (fun _ => ?_)
  refine wz_aload_n (p9 := 29) rfl rfl rfl ?_
  refine wz_get (v := .ref 36) (p9 := 32) rfl rfl rfl rfl rfl ?_
  refine wz_iload_n (p9 := 33) rfl rfl rfl ?_
  refine wl_Rgo (f := R.go) (p9 := 34) rfl rfl rfl (by omega) ?_
  refine wz_iload_n (p9 := 35) rfl rfl rfl ?_
  refine wn_shr (p9 := 36) rfl rfl (by omega) (by omega) ?_
  refine wz_iconst (x := nI 1) (p9 := 37) rfl rfl (by decide) ?_
  refine wn_and1 (p9 := 38) rfl rfl ?_
  refine wz_iconst (x := nI 1) (p9 := 39) rfl rfl (by decide) ?_
  refine wn_icne (t9 := 46) (p9 := 42) rfl rfl rfl (by omega) (by omega) (fun _ => ?_) (fun h9 => by omega)
  refine wz_iconst (x := nI 0) (p9 := 47) rfl rfl (by decide) ?_
  refine wz_iload_n (p9 := 48) rfl rfl rfl ?_
  refine wn_icne (t9 := 53) (p9 := 51) rfl rfl rfl (by omega) (by omega) (fun _ => ?_) (fun h9 => by omega)
  refine wz_aload_n (p9 := 54) rfl rfl rfl ?_
  refine wz_get (v := .ref 36) (p9 := 57) rfl rfl rfl rfl rfl ?_
  refine wz_iload_n (p9 := 58) rfl rfl rfl ?_
  refine wz_aload_n (p9 := 59) rfl rfl rfl ?_
  refine wz_get (v := .ref 36) (p9 := 62) rfl rfl rfl rfl rfl ?_
  refine wz_iload_n (p9 := 63) rfl rfl rfl ?_
  refine wl_Rgo (f := R.go) (p9 := 64) rfl rfl rfl (by omega) ?_
  refine wz_iconst (x := nI 1) (p9 := 65) rfl rfl (by decide) ?_
  refine wz_iload_n (p9 := 66) rfl rfl rfl ?_
  refine wn_shl (p9 := 67) rfl rfl (by omega) ?_
  refine wn_xor (p9 := 68) rfl rfl ?_
  refine ws_Rgo (f := R.go) (p9 := 69) rfl rfl rfl (by omega) (R1 := (RA.s_go (RA.s_th R 0) (un R.go s ((R.go s) ^^^ (1 * 2 ^ p))))) rfl ?_
  refine wz_iconst (x := nI 1) (p9 := 70) rfl rfl (by decide) ?_
  exact wz_retz rfl rfl (by decide) rfl
theorem g_mGoal11 {X : Nat × (Nat → Int32)} {d : Nat} {A : CA} {R : RA} {o : Nat → Int64} (S : SV R.sc R.go R.us R.ud) (h7 : R.P ≤ 7) {s p : Nat} (hs : s < R.sc) (hp : p < R.P) (h : R.go s / 2 ^ p % 2 = 1) : px_ev X (d + 2) 129 [.ref 26, .int (nI s), .int (nI p), .int (nI 1)] (WW A R o) (some (some (.int (nI 0))), WW A (RA.s_th R 0) o, 0, 0) := by
  refine wp_ev (d := d + 1) (by decide) rfl rfl (fun h => by cases h) ?_
  show wp X (d + 1) 129 (0, [.ref 26, .int (nI s), .int (nI p), .int (nI 1)], [], WW A R o, 0, 0) _
  have hsc := S.sc
  have hg := S.sg s
  refine wz_aload_n (p9 := 1) rfl rfl rfl ?_
  refine wz_aload_n (p9 := 2) rfl rfl rfl ?_
  refine wz_iload_n (p9 := 3) rfl rfl rfl ?_
  refine wz_c1 (p9 := 6) (w1 := WW A R o) (u := .int (nI 1)) (wa_v (N := 130) (i := 26) (As := [.int (nI s)]) (rest := [.ref 26]) rfl rfl rfl rfl rfl rfl rfl) rfl ((g_mStage1 (d := 0) (by omega) (by omega)).up (by omega)) ?_
  refine wn_ifeq (t9 := 17) (p9 := 9) rfl rfl rfl (by omega) (fun h9 => by omega) (fun _ => ?_)
  refine wz_aload_n (p9 := 10) rfl rfl rfl ?_
  refine wz_iload_n (p9 := 11) rfl rfl rfl ?_
  refine wz_c1 (p9 := 14) (w1 := WW A R o) (u := .int (nI 1)) (wa_v (N := 100) (i := 26) (As := [.int (nI p)]) (rest := [.ref 26]) rfl rfl rfl rfl rfl rfl rfl) rfl ((g_mPlace1 (d := 0) (by omega) (by omega)).up (by omega)) ?_
  refine wn_ifne (t9 := 21) (p9 := 17) rfl rfl rfl (by omega) (fun _ => ?_) (fun h9 => by omega)
  refine wz_iconst (x := nI 0) (p9 := 22) rfl rfl (by decide) ?_
  refine wz_c1 (p9 := 25) (w1 := WW A (RA.s_th R 0) o) (u := .int (nI 0)) (wa_v (N := 101) (i := 26) (As := [.int (nI 0)]) (rest := []) rfl rfl rfl rfl rfl rfl rfl) rfl ((g_throws0 (d := 0) ).up (by omega)) ?_
  refine wn_ifne (t9 := 51) (p9 := 28) rfl rfl rfl (by omega) (fun h9 => by omega) (fun _ => ?_)
  refine wz_aload_n (p9 := 29) rfl rfl rfl ?_
  refine wz_get (v := .ref 36) (p9 := 32) rfl rfl rfl rfl rfl ?_
  refine wz_iload_n (p9 := 33) rfl rfl rfl ?_
  refine wl_Rgo (f := R.go) (p9 := 34) rfl rfl rfl (by omega) ?_
  refine wz_iload_n (p9 := 35) rfl rfl rfl ?_
  refine wn_shr (p9 := 36) rfl rfl (by omega) (by omega) ?_
  refine wz_iconst (x := nI 1) (p9 := 37) rfl rfl (by decide) ?_
  refine wn_and1 (p9 := 38) rfl rfl ?_
  refine wz_iconst (x := nI 1) (p9 := 39) rfl rfl (by decide) ?_
  refine wn_icne (t9 := 46) (p9 := 42) rfl rfl rfl (by omega) (by omega) (fun h9 => by omega) (fun _ => ?_)
  refine wz_iconst (x := nI 1) (p9 := 43) rfl rfl (by decide) ?_
  refine wz_goto (p9 := 47) rfl rfl ?_
  refine wz_iload_n (p9 := 48) rfl rfl rfl ?_
  refine wn_icne (t9 := 53) (p9 := 51) rfl rfl rfl (by omega) (by omega) (fun h9 => by omega) (fun _ => ?_)
  refine wz_iconst (x := nI 0) (p9 := 52) rfl rfl (by decide) ?_
  exact wz_retz rfl rfl (by decide) rfl
theorem g_mGoalX {X : Nat × (Nat → Int32)} {d : Nat} {A : CA} {R : RA} {o : Nat → Int64} {x y : Int32} {b : Nat} (h : inb x R.sc = 0 ∨ inb y R.P = 0) : px_ev X (d + 2) 129 [.ref 26, .int x, .int y, .int (nI b)] (WW A R o) (some (some (.int (nI 0))), WW A (RA.s_th R 1) o, 0, 0) := by
  refine wp_ev (d := d + 1) (by decide) rfl rfl (fun h => by cases h) ?_
  show wp X (d + 1) 129 (0, [.ref 26, .int x, .int y, .int (nI b)], [], WW A R o, 0, 0) _
  refine wz_aload_n (p9 := 1) rfl rfl rfl ?_
  refine wz_aload_n (p9 := 2) rfl rfl rfl ?_
  refine wz_iload_n (p9 := 3) rfl rfl rfl ?_
  refine wz_c1 (p9 := 6) (w1 := WW A R o) (u := .int (nI (inb x R.sc))) (wa_v (N := 130) (i := 26) (As := [.int x]) (rest := [.ref 26]) rfl rfl rfl rfl rfl rfl rfl) rfl ((g_mStageR (d := 0) ).up (by omega)) ?_
  refine wn_ifeq (t9 := 17) (p9 := 9) rfl rfl rfl (by have := @inb_lt; first | exact Nat.lt_trans inb_lt (by decide) | decide | omega) (fun h6 => ?_) (fun h6 => ?_)
  · refine wz_iconst (x := nI 1) (p9 := 18) rfl rfl (by decide) ?_
    refine wz_goto (p9 := 22) rfl rfl ?_
    refine wz_c1 (p9 := 25) (w1 := WW A (RA.s_th R 1) o) (u := .int (nI 1)) (wa_v (N := 101) (i := 26) (As := [.int (nI 1)]) (rest := []) rfl rfl rfl rfl rfl rfl rfl) rfl ((g_throws1 (d := 0) ).up (by omega)) ?_
    refine wn_ifne (t9 := 51) (p9 := 28) rfl rfl rfl (by have := @inb_lt; first | exact Nat.lt_trans inb_lt (by decide) | decide | omega) (fun _ => ?_) (fun h9 => by omega)
    refine wz_iconst (x := nI 0) (p9 := 52) rfl rfl (by decide) ?_
    exact wz_retz rfl rfl (by decide) rfl
  · refine wz_aload_n (p9 := 10) rfl rfl rfl ?_
    refine wz_iload_n (p9 := 11) rfl rfl rfl ?_
    refine wz_c1 (p9 := 14) (w1 := WW A R o) (u := .int (nI (inb y R.P))) (wa_v (N := 100) (i := 26) (As := [.int y]) (rest := [.ref 26]) rfl rfl rfl rfl rfl rfl rfl) rfl ((g_mPlaceR (d := 0) ).up (by omega)) ?_
    refine wn_ifne (t9 := 21) (p9 := 17) rfl rfl rfl (by have := @inb_lt; first | exact Nat.lt_trans inb_lt (by decide) | decide | omega) (fun h14 => ?_) (fun h14 => ?_)
    · refine wz_iconst (x := nI 0) (p9 := 22) rfl rfl (by decide) ?_
      refine wz_c1 (p9 := 25) (w1 := WW A (RA.s_th R 0) o) (u := .int (nI 0)) (wa_v (N := 101) (i := 26) (As := [.int (nI 0)]) (rest := []) rfl rfl rfl rfl rfl rfl rfl) rfl ((g_throws0 (d := 0) ).up (by omega)) ?_
      refine wn_ifne (t9 := 51) (p9 := 28) rfl rfl rfl (by have := @inb_lt; first | exact Nat.lt_trans inb_lt (by decide) | decide | omega) (fun h9 => by omega) (fun _ => ?_)
      rcases h with q | q
      · exact absurd q h6
      · exact absurd q h14
    · refine wz_iconst (x := nI 1) (p9 := 18) rfl rfl (by decide) ?_
      refine wz_goto (p9 := 22) rfl rfl ?_
      refine wz_c1 (p9 := 25) (w1 := WW A (RA.s_th R 1) o) (u := .int (nI 1)) (wa_v (N := 101) (i := 26) (As := [.int (nI 1)]) (rest := []) rfl rfl rfl rfl rfl rfl rfl) rfl ((g_throws1 (d := 0) ).up (by omega)) ?_
      refine wn_ifne (t9 := 51) (p9 := 28) rfl rfl rfl (by have := @inb_lt; first | exact Nat.lt_trans inb_lt (by decide) | decide | omega) (fun _ => ?_) (fun h9 => by omega)
      refine wz_iconst (x := nI 0) (p9 := 52) rfl rfl (by decide) ?_
      exact wz_retz rfl rfl (by decide) rfl
theorem g_mUse1 {X : Nat × (Nat → Int32)} {d : Nat} {A : CA} {R : RA} {o : Nat → Int64} (S : SV R.sc R.go R.us R.ud) (V : WV R.wc R.ln R.rr (fun _ => 0)) {s w : Nat} (hs : s < R.sc) (hw : w < R.wc) (hu : R.us s < 12) : px_ev X (d + 2) 131 [.ref 26, .int (nI s), .int (nI w)] (WW A R o) (some (some (.int (nI 1))), WW A (RA.s_ud (RA.s_us (RA.s_th R 0) (un R.us s (R.us s + 1))) (un R.ud (s * 12 + R.us s) w)) o, 0, 0) := by
  refine wp_ev (d := d + 1) (by decide) rfl rfl (fun h => by cases h) ?_
  show wp X (d + 1) 131 (0, [.ref 26, .int (nI s), .int (nI w)], [], WW A R o, 0, 0) _
  have hsc := S.sc
  have hwc := V.wc
  rw [Nat.mul_comm s 12]
  refine wz_aload_n (p9 := 1) rfl rfl rfl ?_
  refine wz_aload_n (p9 := 2) rfl rfl rfl ?_
  refine wz_iload_n (p9 := 3) rfl rfl rfl ?_
  refine wz_c1 (p9 := 6) (w1 := WW A R o) (u := .int (nI 1)) (wa_v (N := 130) (i := 26) (As := [.int (nI s)]) (rest := [.ref 26]) rfl rfl rfl rfl rfl rfl rfl) rfl ((g_mStage1 (d := 0) (by omega) (by omega)).up (by omega)) ?_
  refine wn_ifeq (t9 := 17) (p9 := 9) rfl rfl rfl (by omega) (fun h9 => by omega) (fun _ => ?_)
  refine wz_aload_n (p9 := 10) rfl rfl rfl ?_
  refine wz_iload_n (p9 := 11) rfl rfl rfl ?_
  refine wz_c1 (p9 := 14) (w1 := WW A R o) (u := .int (nI 1)) (wa_v (N := 117) (i := 26) (As := [.int (nI w)]) (rest := [.ref 26]) rfl rfl rfl rfl rfl rfl rfl) rfl ((g_mWord1 (d := 0) (by omega) (by omega)).up (by omega)) ?_
  refine wn_ifne (t9 := 21) (p9 := 17) rfl rfl rfl (by omega) (fun _ => ?_) (fun h9 => by omega)
  refine wz_iconst (x := nI 0) (p9 := 22) rfl rfl (by decide) ?_
  refine wz_c1 (p9 := 25) (w1 := WW A (RA.s_th R 0) o) (u := .int (nI 0)) (wa_v (N := 101) (i := 26) (As := [.int (nI 0)]) (rest := []) rfl rfl rfl rfl rfl rfl rfl) rfl ((g_throws0 (d := 0) ).up (by omega)) ?_
  refine wn_ifne (t9 := 39) (p9 := 28) rfl rfl rfl (by omega) (fun h9 => by omega) (fun _ => ?_)
  refine wz_aload_n (p9 := 29) rfl rfl rfl ?_
  refine wz_get (v := .ref 37) (p9 := 32) rfl rfl rfl rfl rfl ?_
  refine wz_iload_n (p9 := 33) rfl rfl rfl ?_
  refine wl_Rus (f := R.us) (p9 := 34) rfl rfl rfl (by omega) ?_
  refine wz_bipush (x := nI 12) (p9 := 36) rfl rfl (by decide) ?_
  refine wn_icne (t9 := 41) (p9 := 39) rfl rfl rfl (by omega) (by omega) (fun _ => ?_) (fun h9 => by omega)
  refine wz_aload_n (p9 := 42) rfl rfl rfl ?_
  refine wz_get (v := .ref 38) (p9 := 45) rfl rfl rfl rfl rfl ?_
  refine wz_bipush (x := nI 12) (p9 := 47) rfl rfl (by decide) ?_
  refine wz_iload_n (p9 := 48) rfl rfl rfl ?_
  refine wn_mul (p9 := 49) rfl rfl ?_
  refine wz_aload_n (p9 := 50) rfl rfl rfl ?_
  refine wz_get (v := .ref 37) (p9 := 53) rfl rfl rfl rfl rfl ?_
  refine wz_iload_n (p9 := 54) rfl rfl rfl ?_
  refine wl_Rus (f := R.us) (p9 := 55) rfl rfl rfl (by omega) ?_
  refine wn_add (p9 := 56) rfl rfl ?_
  refine wz_iload_n (p9 := 57) rfl rfl rfl ?_
  refine ws_Rud (f := R.ud) (p9 := 58) rfl rfl rfl (by omega) (R1 := (RA.s_ud (RA.s_th R 0) (un R.ud ((12 * s) + (R.us s)) w))) rfl ?_
  refine wz_aload_n (p9 := 59) rfl rfl rfl ?_
  refine wz_get (v := .ref 37) (p9 := 62) rfl rfl rfl rfl rfl ?_
  refine wz_iload_n (p9 := 63) rfl rfl rfl ?_
  refine wz_dup2 (p9 := 64) rfl rfl ?_
  refine wl_Rus (f := R.us) (p9 := 65) rfl rfl rfl (by omega) ?_
  refine wz_iconst (x := nI 1) (p9 := 66) rfl rfl (by decide) ?_
  refine wn_add (p9 := 67) rfl rfl ?_
  refine ws_Rus (f := R.us) (p9 := 68) rfl rfl rfl (by omega) (R1 := (RA.s_ud (RA.s_us (RA.s_th R 0) (un R.us s ((R.us s) + 1))) (un R.ud ((12 * s) + (R.us s)) w))) rfl ?_
  refine wz_iconst (x := nI 1) (p9 := 69) rfl rfl (by decide) ?_
  exact wz_retz rfl rfl (by decide) rfl
theorem g_mUse0 {X : Nat × (Nat → Int32)} {d : Nat} {A : CA} {R : RA} {o : Nat → Int64} (S : SV R.sc R.go R.us R.ud) (V : WV R.wc R.ln R.rr (fun _ => 0)) {s w : Nat} (hs : s < R.sc) (hw : w < R.wc) (hu : R.us s = 12) : px_ev X (d + 2) 131 [.ref 26, .int (nI s), .int (nI w)] (WW A R o) (some (some (.int (nI 0))), WW A (RA.s_th R 0) o, 0, 0) := by
  refine wp_ev (d := d + 1) (by decide) rfl rfl (fun h => by cases h) ?_
  show wp X (d + 1) 131 (0, [.ref 26, .int (nI s), .int (nI w)], [], WW A R o, 0, 0) _
  have hsc := S.sc
  have hwc := V.wc
  refine wz_aload_n (p9 := 1) rfl rfl rfl ?_
  refine wz_aload_n (p9 := 2) rfl rfl rfl ?_
  refine wz_iload_n (p9 := 3) rfl rfl rfl ?_
  refine wz_c1 (p9 := 6) (w1 := WW A R o) (u := .int (nI 1)) (wa_v (N := 130) (i := 26) (As := [.int (nI s)]) (rest := [.ref 26]) rfl rfl rfl rfl rfl rfl rfl) rfl ((g_mStage1 (d := 0) (by omega) (by omega)).up (by omega)) ?_
  refine wn_ifeq (t9 := 17) (p9 := 9) rfl rfl rfl (by omega) (fun h9 => by omega) (fun _ => ?_)
  refine wz_aload_n (p9 := 10) rfl rfl rfl ?_
  refine wz_iload_n (p9 := 11) rfl rfl rfl ?_
  refine wz_c1 (p9 := 14) (w1 := WW A R o) (u := .int (nI 1)) (wa_v (N := 117) (i := 26) (As := [.int (nI w)]) (rest := [.ref 26]) rfl rfl rfl rfl rfl rfl rfl) rfl ((g_mWord1 (d := 0) (by omega) (by omega)).up (by omega)) ?_
  refine wn_ifne (t9 := 21) (p9 := 17) rfl rfl rfl (by omega) (fun _ => ?_) (fun h9 => by omega)
  refine wz_iconst (x := nI 0) (p9 := 22) rfl rfl (by decide) ?_
  refine wz_c1 (p9 := 25) (w1 := WW A (RA.s_th R 0) o) (u := .int (nI 0)) (wa_v (N := 101) (i := 26) (As := [.int (nI 0)]) (rest := []) rfl rfl rfl rfl rfl rfl rfl) rfl ((g_throws0 (d := 0) ).up (by omega)) ?_
  refine wn_ifne (t9 := 39) (p9 := 28) rfl rfl rfl (by omega) (fun h9 => by omega) (fun _ => ?_)
  refine wz_aload_n (p9 := 29) rfl rfl rfl ?_
  refine wz_get (v := .ref 37) (p9 := 32) rfl rfl rfl rfl rfl ?_
  refine wz_iload_n (p9 := 33) rfl rfl rfl ?_
  refine wl_Rus (f := R.us) (p9 := 34) rfl rfl rfl (by omega) ?_
  refine wz_bipush (x := nI 12) (p9 := 36) rfl rfl (by decide) ?_
  refine wn_icne (t9 := 41) (p9 := 39) rfl rfl rfl (by omega) (by omega) (fun h9 => by omega) (fun _ => ?_)
  refine wz_iconst (x := nI 0) (p9 := 40) rfl rfl (by decide) ?_
  exact wz_retz rfl rfl (by decide) rfl
theorem g_mUseX {X : Nat × (Nat → Int32)} {d : Nat} {A : CA} {R : RA} {o : Nat → Int64} {x y : Int32} (h : inb x R.sc = 0 ∨ inb y R.wc = 0) : px_ev X (d + 2) 131 [.ref 26, .int x, .int y] (WW A R o) (some (some (.int (nI 0))), WW A (RA.s_th R 1) o, 0, 0) := by
  refine wp_ev (d := d + 1) (by decide) rfl rfl (fun h => by cases h) ?_
  show wp X (d + 1) 131 (0, [.ref 26, .int x, .int y], [], WW A R o, 0, 0) _
  refine wz_aload_n (p9 := 1) rfl rfl rfl ?_
  refine wz_aload_n (p9 := 2) rfl rfl rfl ?_
  refine wz_iload_n (p9 := 3) rfl rfl rfl ?_
  refine wz_c1 (p9 := 6) (w1 := WW A R o) (u := .int (nI (inb x R.sc))) (wa_v (N := 130) (i := 26) (As := [.int x]) (rest := [.ref 26]) rfl rfl rfl rfl rfl rfl rfl) rfl ((g_mStageR (d := 0) ).up (by omega)) ?_
  refine wn_ifeq (t9 := 17) (p9 := 9) rfl rfl rfl (by have := @inb_lt; first | exact Nat.lt_trans inb_lt (by decide) | decide | omega) (fun h6 => ?_) (fun h6 => ?_)
  · refine wz_iconst (x := nI 1) (p9 := 18) rfl rfl (by decide) ?_
    refine wz_goto (p9 := 22) rfl rfl ?_
    refine wz_c1 (p9 := 25) (w1 := WW A (RA.s_th R 1) o) (u := .int (nI 1)) (wa_v (N := 101) (i := 26) (As := [.int (nI 1)]) (rest := []) rfl rfl rfl rfl rfl rfl rfl) rfl ((g_throws1 (d := 0) ).up (by omega)) ?_
    refine wn_ifne (t9 := 39) (p9 := 28) rfl rfl rfl (by have := @inb_lt; first | exact Nat.lt_trans inb_lt (by decide) | decide | omega) (fun _ => ?_) (fun h9 => by omega)
    refine wz_iconst (x := nI 0) (p9 := 40) rfl rfl (by decide) ?_
    exact wz_retz rfl rfl (by decide) rfl
  · refine wz_aload_n (p9 := 10) rfl rfl rfl ?_
    refine wz_iload_n (p9 := 11) rfl rfl rfl ?_
    refine wz_c1 (p9 := 14) (w1 := WW A R o) (u := .int (nI (inb y R.wc))) (wa_v (N := 117) (i := 26) (As := [.int y]) (rest := [.ref 26]) rfl rfl rfl rfl rfl rfl rfl) rfl ((g_mWordR (d := 0) ).up (by omega)) ?_
    refine wn_ifne (t9 := 21) (p9 := 17) rfl rfl rfl (by have := @inb_lt; first | exact Nat.lt_trans inb_lt (by decide) | decide | omega) (fun h14 => ?_) (fun h14 => ?_)
    · refine wz_iconst (x := nI 0) (p9 := 22) rfl rfl (by decide) ?_
      refine wz_c1 (p9 := 25) (w1 := WW A (RA.s_th R 0) o) (u := .int (nI 0)) (wa_v (N := 101) (i := 26) (As := [.int (nI 0)]) (rest := []) rfl rfl rfl rfl rfl rfl rfl) rfl ((g_throws0 (d := 0) ).up (by omega)) ?_
      refine wn_ifne (t9 := 39) (p9 := 28) rfl rfl rfl (by have := @inb_lt; first | exact Nat.lt_trans inb_lt (by decide) | decide | omega) (fun h9 => by omega) (fun _ => ?_)
      rcases h with q | q
      · exact absurd q h6
      · exact absurd q h14
    · refine wz_iconst (x := nI 1) (p9 := 18) rfl rfl (by decide) ?_
      refine wz_goto (p9 := 22) rfl rfl ?_
      refine wz_c1 (p9 := 25) (w1 := WW A (RA.s_th R 1) o) (u := .int (nI 1)) (wa_v (N := 101) (i := 26) (As := [.int (nI 1)]) (rest := []) rfl rfl rfl rfl rfl rfl rfl) rfl ((g_throws1 (d := 0) ).up (by omega)) ?_
      refine wn_ifne (t9 := 39) (p9 := 28) rfl rfl rfl (by have := @inb_lt; first | exact Nat.lt_trans inb_lt (by decide) | decide | omega) (fun _ => ?_) (fun h9 => by omega)
      refine wz_iconst (x := nI 0) (p9 := 40) rfl rfl (by decide) ?_
      exact wz_retz rfl rfl (by decide) rfl
theorem g_mDid1 {X : Nat × (Nat → Int32)} {d : Nat} {A : CA} {R : RA} {o : Nat → Int64} {k : Nat} (hk : k < R.tl) (ht : R.tl ≤ 8) : px_ev X (d + 1) 136 [.ref 26, .int (nI k)] (WW A R o) (some (some (.int (nI (R.te k)))), WW A (RA.s_th R 0) o, 0, 0) := by
  refine wp_ev (d := d + 0) (by decide) rfl rfl (fun h => by cases h) ?_
  show wp X (d + 0) 136 (0, [.ref 26, .int (nI k)], [], WW A R o, 0, 0) _
  refine wz_aload_n (p9 := 1) rfl rfl rfl ?_
  refine wz_iconst (x := nI 0) (p9 := 2) rfl rfl (by decide) ?_
  refine wp_Rth (x := 0) (p9 := 5) rfl rfl rfl rfl (R1 := (RA.s_th R 0)) rfl ?_
  refine wz_iload_n (p9 := 6) rfl rfl rfl ?_
  refine wn_iflt (t9 := 17) (p9 := 9) rfl rfl rfl (by omega) (fun h9 => by omega) (fun _ => ?_)
  refine wz_iload_n (p9 := 10) rfl rfl rfl ?_
  refine wz_aload_n (p9 := 11) rfl rfl rfl ?_
  refine wz_get (v := .int (nI R.tl)) (p9 := 14) rfl rfl rfl rfl rfl ?_
  refine wn_iclt (t9 := 21) (p9 := 17) rfl rfl rfl (by omega) (by omega) (fun _ => ?_) (fun h9 => by omega)
  refine wz_aload_n (p9 := 22) rfl rfl rfl ?_
  refine wz_get (v := .ref 45) (p9 := 25) rfl rfl rfl rfl rfl ?_
  refine wz_iload_n (p9 := 26) rfl rfl rfl ?_
  refine wl_Rte (f := R.te) (p9 := 27) rfl rfl rfl (by omega) ?_
  exact wz_reti rfl rfl rfl
theorem g_mDid0 {X : Nat × (Nat → Int32)} {d : Nat} {A : CA} {R : RA} {o : Nat → Int64} {x : Int32} (h : ¬ x < 0 → nI R.tl ≤ x) : px_ev X (d + 1) 136 [.ref 26, .int x] (WW A R o) (some (some (.int (-1))), WW A (RA.s_th R 0) o, 0, 0) := by
  refine wp_ev (d := d + 0) (by decide) rfl rfl (fun h => by cases h) ?_
  show wp X (d + 0) 136 (0, [.ref 26, .int x], [], WW A R o, 0, 0) _
  refine wz_aload_n (p9 := 1) rfl rfl rfl ?_
  refine wz_iconst (x := nI 0) (p9 := 2) rfl rfl (by decide) ?_
  refine wp_Rth (x := 0) (p9 := 5) rfl rfl rfl rfl (R1 := (RA.s_th R 0)) rfl ?_
  refine wz_iload_n (p9 := 6) rfl rfl rfl ?_
  refine wz_iflt (t9 := 17) (p9 := 9) rfl rfl rfl (fun h6 => ?_) (fun h6 => ?_)
  · refine wz_iconst (x := (-1)) (p9 := 18) rfl rfl (by decide) ?_
    refine wz_goto (p9 := 27) rfl rfl ?_
    exact wz_reti rfl rfl rfl
  · refine wz_iload_n (p9 := 10) rfl rfl rfl ?_
    refine wz_aload_n (p9 := 11) rfl rfl rfl ?_
    refine wz_get (v := .int (nI R.tl)) (p9 := 14) rfl rfl rfl rfl rfl ?_
    refine wz_iclt (t9 := 21) (p9 := 17) rfl rfl rfl (fun h14 => ?_) (fun h14 => ?_)
    · exact absurd h14 (Int32.not_lt.mpr (h h6))
    · refine wz_iconst (x := (-1)) (p9 := 18) rfl rfl (by decide) ?_
      refine wz_goto (p9 := 27) rfl rfl ?_
      exact wz_reti rfl rfl rfl
def cz (f g : Nat → Nat) (i : Nat) : Nat → Nat := fun q => if q < i then f q else g q
theorem cz_0 {f g : Nat → Nat} : cz f g 0 = g := by funext q; unfold cz; rw [if_neg (by omega)]
theorem cz_s {i : Nat} {f g : Nat → Nat} : un (cz f g i) i (f i) = cz f g (i + 1) := by
  funext q
  by_cases h : q = i
  · rw [h, un_at]; unfold cz; rw [if_pos (by omega)]
  · rw [un_ne h]
    unfold cz
    by_cases h2 : q < i
    · rw [if_pos h2, if_pos (by omega)]
    · rw [if_neg h2, if_neg (by omega)]
theorem l_takeNow {X : Nat × (Nat → Int32)} {d : Nat} {A : CA} {R : RA} {o : Nat → Int64} {k z : Nat} {Q : px_Z → Prop} (kk : Q (some none, WW A (RA.s_s R (cz R.nw R.s 7)) o, k, z)) : ∀ (j i : Nat), i + j = 7 → wp X d 123 (2, [.ref 26, .int (nI i)], [], WW A (RA.s_s R (cz R.nw R.s i)) o, k, z) Q
  | 0, i, hj => by
    obtain rfl : i = 7 := by omega
    refine wz_iload_n (p9 := 3) rfl rfl rfl ?_
    refine wz_bipush (x := nI 7) (p9 := 5) rfl rfl (by decide) ?_
    refine wn_icge (t9 := 26) (p9 := 8) rfl rfl rfl (by omega) (by omega) (fun _ => ?_) (fun h9 => by omega)
    exact wz_retv rfl rfl kk
  | j + 1, i, hj => by
    refine wz_iload_n (p9 := 3) rfl rfl rfl ?_
    refine wz_bipush (x := nI 7) (p9 := 5) rfl rfl (by decide) ?_
    refine wn_icge (t9 := 26) (p9 := 8) rfl rfl rfl (by omega) (by omega) (fun h9 => by omega) (fun _ => ?_)
    refine wz_aload_n (p9 := 9) rfl rfl rfl ?_
    refine wz_get (v := .ref 40) (p9 := 12) rfl rfl rfl rfl rfl ?_
    refine wz_iload_n (p9 := 13) rfl rfl rfl ?_
    refine wz_aload_n (p9 := 14) rfl rfl rfl ?_
    refine wz_get (v := .ref 28) (p9 := 17) rfl rfl rfl rfl rfl ?_
    refine wz_iload_n (p9 := 18) rfl rfl rfl ?_
    refine wl_Rnw (f := R.nw) (p9 := 19) rfl rfl rfl (by omega) ?_
    refine ws_Rs (f := cz R.nw R.s i) (p9 := 20) rfl rfl rfl (by omega) (R1 := (RA.s_s R (un (cz R.nw R.s i) i (R.nw i)))) rfl ?_
    refine wn_inc (b := 1) (l9 := [.ref 26, .int (nI (i + 1))]) (p9 := 23) rfl rfl rfl (by decide) rfl ?_
    refine wz_goto (p9 := 2) rfl rfl ?_
    rw [cz_s]
    exact l_takeNow kk j (i + 1) (by omega)
theorem g_takeNow {X : Nat × (Nat → Int32)} {d : Nat} {A : CA} {R : RA} {o : Nat → Int64}  : px_ev X (d + 1) 123 [.ref 26] (WW A R o) (some none, WW A (RA.s_s R (cz R.nw R.s 7)) o, 0, 0) := by
  refine wp_ev (d := d + 0) (by decide) rfl rfl (fun h => by cases h) ?_
  show wp X (d + 0) 123 (0, [.ref 26, .retAddr 0], [], WW A R o, 0, 0) _
  refine wz_iconst (x := nI 0) (p9 := 1) rfl rfl (by decide) ?_
  refine wz_istore_n (l9 := [.ref 26, .int (nI 0)]) (p9 := 2) rfl rfl rfl rfl ?_
  have h9 := l_takeNow (X := X) (d := d) (A := A) (R := R) (o := o) (k := 0) (z := 0) (Q := fun q => q = (some none, WW A (RA.s_s R (cz R.nw R.s 7)) o, 0, 0)) rfl 7 0 rfl
  rw [cz_0] at h9
  exact h9
theorem l_putNow {X : Nat × (Nat → Int32)} {d : Nat} {A : CA} {R : RA} {o : Nat → Int64} {k z : Nat} {Q : px_Z → Prop} (kk : Q (some none, WW A (RA.s_nw R (cz R.s R.nw 7)) o, k, z)) : ∀ (j i : Nat), i + j = 7 → wp X d 125 (2, [.ref 26, .int (nI i)], [], WW A (RA.s_nw R (cz R.s R.nw i)) o, k, z) Q
  | 0, i, hj => by
    obtain rfl : i = 7 := by omega
    refine wz_iload_n (p9 := 3) rfl rfl rfl ?_
    refine wz_bipush (x := nI 7) (p9 := 5) rfl rfl (by decide) ?_
    refine wn_icge (t9 := 26) (p9 := 8) rfl rfl rfl (by omega) (by omega) (fun _ => ?_) (fun h9 => by omega)
    exact wz_retv rfl rfl kk
  | j + 1, i, hj => by
    refine wz_iload_n (p9 := 3) rfl rfl rfl ?_
    refine wz_bipush (x := nI 7) (p9 := 5) rfl rfl (by decide) ?_
    refine wn_icge (t9 := 26) (p9 := 8) rfl rfl rfl (by omega) (by omega) (fun h9 => by omega) (fun _ => ?_)
    refine wz_aload_n (p9 := 9) rfl rfl rfl ?_
    refine wz_get (v := .ref 28) (p9 := 12) rfl rfl rfl rfl rfl ?_
    refine wz_iload_n (p9 := 13) rfl rfl rfl ?_
    refine wz_aload_n (p9 := 14) rfl rfl rfl ?_
    refine wz_get (v := .ref 40) (p9 := 17) rfl rfl rfl rfl rfl ?_
    refine wz_iload_n (p9 := 18) rfl rfl rfl ?_
    refine wl_Rs (f := R.s) (p9 := 19) rfl rfl rfl (by omega) ?_
    refine ws_Rnw (f := cz R.s R.nw i) (p9 := 20) rfl rfl rfl (by omega) (R1 := (RA.s_nw R (un (cz R.s R.nw i) i (R.s i)))) rfl ?_
    refine wn_inc (b := 1) (l9 := [.ref 26, .int (nI (i + 1))]) (p9 := 23) rfl rfl rfl (by decide) rfl ?_
    refine wz_goto (p9 := 2) rfl rfl ?_
    rw [cz_s]
    exact l_putNow kk j (i + 1) (by omega)
theorem g_putNow {X : Nat × (Nat → Int32)} {d : Nat} {A : CA} {R : RA} {o : Nat → Int64}  : px_ev X (d + 1) 125 [.ref 26] (WW A R o) (some none, WW A (RA.s_nw R (cz R.s R.nw 7)) o, 0, 0) := by
  refine wp_ev (d := d + 0) (by decide) rfl rfl (fun h => by cases h) ?_
  show wp X (d + 0) 125 (0, [.ref 26, .retAddr 0], [], WW A R o, 0, 0) _
  refine wz_iconst (x := nI 0) (p9 := 1) rfl rfl (by decide) ?_
  refine wz_istore_n (l9 := [.ref 26, .int (nI 0)]) (p9 := 2) rfl rfl rfl rfl ?_
  have h9 := l_putNow (X := X) (d := d) (A := A) (R := R) (o := o) (k := 0) (z := 0) (Q := fun q => q = (some none, WW A (RA.s_nw R (cz R.s R.nw 7)) o, 0, 0)) rfl 7 0 rfl
  rw [cz_0] at h9
  exact h9
/-- what is at p goes to F p, of the first p places -/
def sct (F f g : Nat → Nat) : Nat → Nat → Nat
  | 0 => g
  | p + 1 => un (sct F f g p) (F p) (f p)
theorem l_done1 {X : Nat × (Nat → Int32)} {d : Nat} {A : CA} {R : RA} {o : Nat → Int64} {od : Nat → Nat} (T : TV R.P R.Mv R.t od) (V : WV R.wc R.ln R.rr (fun _ => 0)) {w : Nat} (hw : w < 30) {k z : Nat} {Q : px_Z → Prop} (kk : wp X (d + 2) 124 (33, [.ref 26, .int (nI w), .int (nI R.P)], [], WW A (RA.s_ot R (sct (im R.t (fun k => R.rr (w * 40 + k)) (R.ln w)) R.s R.ot R.P)) o, k, z) Q) : ∀ (j p : Nat), p + j = R.P → wp X (d + 2) 124 (2, [.ref 26, .int (nI w), .int (nI p)], [], WW A (RA.s_ot R (sct (im R.t (fun k => R.rr (w * 40 + k)) (R.ln w)) R.s R.ot p)) o, k, z) Q
  | 0, p, hj => by
    obtain rfl : p = R.P := by omega
    have p7 := T.p7
    refine wz_iload_n (p9 := 3) rfl rfl rfl ?_
    refine wz_aload_n (p9 := 4) rfl rfl rfl ?_
    refine wz_get (v := .int (nI R.P)) (p9 := 7) rfl rfl rfl rfl rfl ?_
    refine wn_icge (t9 := 33) (p9 := 10) rfl rfl rfl (by omega) (by omega) (fun _ => ?_) (fun h9 => by omega)
    exact kk
  | j + 1, p, hj => by
    have p7 := T.p7
    refine wz_iload_n (p9 := 3) rfl rfl rfl ?_
    refine wz_aload_n (p9 := 4) rfl rfl rfl ?_
    refine wz_get (v := .int (nI R.P)) (p9 := 7) rfl rfl rfl rfl rfl ?_
    refine wn_icge (t9 := 33) (p9 := 10) rfl rfl rfl (by omega) (by omega) (fun h9 => by omega) (fun _ => ?_)
    refine wz_aload_n (p9 := 11) rfl rfl rfl ?_
    refine wz_get (v := .ref 41) (p9 := 14) rfl rfl rfl rfl rfl ?_
    refine wz_aload_n (p9 := 15) rfl rfl rfl ?_
    refine wz_iload_n (p9 := 16) rfl rfl rfl ?_
    refine wz_iload_n (p9 := 17) rfl rfl rfl ?_
    refine wz_c1 (p9 := 20) (w1 := WW A (RA.s_ot R (sct (im R.t (fun k => R.rr (w * 40 + k)) (R.ln w)) R.s R.ot p)) o) (u := .int (nI (im R.t (fun k => R.rr (w * 40 + k)) (R.ln w) p))) (wa_v (N := 120) (i := 26) (As := [.int (nI w), .int (nI p)]) (rest := [.ref 41]) rfl rfl rfl rfl rfl rfl rfl) rfl ((g_imageOf (d := 0) (A := A) (R := (RA.s_ot R (sct (im R.t (fun k => R.rr (w * 40 + k)) (R.ln w)) R.s R.ot p))) T (show w < 30 by omega) (show p < R.P by omega) (V.rl _) (fun k _ => V.rr _)).up (by omega)) ?_
    refine wz_aload_n (p9 := 21) rfl rfl rfl ?_
    refine wz_get (v := .ref 40) (p9 := 24) rfl rfl rfl rfl rfl ?_
    refine wz_iload_n (p9 := 25) rfl rfl rfl ?_
    refine wl_Rs (f := R.s) (p9 := 26) rfl rfl rfl (by omega) ?_
    refine ws_Rot (f := sct (im R.t (fun k => R.rr (w * 40 + k)) (R.ln w)) R.s R.ot p) (p9 := 27) rfl rfl rfl (by have := im_lt (P := R.P) (t := R.t) (R := fun k => R.rr (w * 40 + k)) (L := R.ln w) (fun k _ q hq => T.ht _ q hq) (R.ln w) (Nat.le_refl _) p (by omega); omega) (R1 := (RA.s_ot R (un (sct (im R.t (fun k => R.rr (w * 40 + k)) (R.ln w)) R.s R.ot p) (im R.t (fun k => R.rr (w * 40 + k)) (R.ln w) p) (R.s p)))) rfl ?_
    refine wn_inc (b := 1) (l9 := [.ref 26, .int (nI w), .int (nI (p + 1))]) (p9 := 30) rfl rfl rfl (by decide) rfl ?_
    refine wz_goto (p9 := 2) rfl rfl ?_
    exact l_done1 T V hw kk j (p + 1) (by omega)
theorem l_done2 {X : Nat × (Nat → Int32)} {d : Nat} {A : CA} {R : RA} {o : Nat → Int64} (p7 : R.P ≤ 7) {w : Nat} {k z : Nat} {Q : px_Z → Prop} (kk : Q (some none, WW A (RA.s_s R (cz R.ot R.s R.P)) o, k, z)) : ∀ (j p : Nat), p + j = R.P → wp X (d + 2) 124 (35, [.ref 26, .int (nI w), .int (nI p)], [], WW A (RA.s_s R (cz R.ot R.s p)) o, k, z) Q
  | 0, p, hj => by
    obtain rfl : p = R.P := by omega
    refine wz_iload_n (p9 := 36) rfl rfl rfl ?_
    refine wz_aload_n (p9 := 37) rfl rfl rfl ?_
    refine wz_get (v := .int (nI R.P)) (p9 := 40) rfl rfl rfl rfl rfl ?_
    refine wn_icge (t9 := 61) (p9 := 43) rfl rfl rfl (by omega) (by omega) (fun _ => ?_) (fun h9 => by omega)
    exact wz_retv rfl rfl kk
  | j + 1, p, hj => by
    refine wz_iload_n (p9 := 36) rfl rfl rfl ?_
    refine wz_aload_n (p9 := 37) rfl rfl rfl ?_
    refine wz_get (v := .int (nI R.P)) (p9 := 40) rfl rfl rfl rfl rfl ?_
    refine wn_icge (t9 := 61) (p9 := 43) rfl rfl rfl (by omega) (by omega) (fun h9 => by omega) (fun _ => ?_)
    refine wz_aload_n (p9 := 44) rfl rfl rfl ?_
    refine wz_get (v := .ref 40) (p9 := 47) rfl rfl rfl rfl rfl ?_
    refine wz_iload_n (p9 := 48) rfl rfl rfl ?_
    refine wz_aload_n (p9 := 49) rfl rfl rfl ?_
    refine wz_get (v := .ref 41) (p9 := 52) rfl rfl rfl rfl rfl ?_
    refine wz_iload_n (p9 := 53) rfl rfl rfl ?_
    refine wl_Rot (f := R.ot) (p9 := 54) rfl rfl rfl (by omega) ?_
    refine ws_Rs (f := cz R.ot R.s p) (p9 := 55) rfl rfl rfl (by omega) (R1 := (RA.s_s R (un (cz R.ot R.s p) p (R.ot p)))) rfl ?_
    refine wn_inc (b := 1) (l9 := [.ref 26, .int (nI w), .int (nI (p + 1))]) (p9 := 58) rfl rfl rfl (by decide) rfl ?_
    refine wz_goto (p9 := 35) rfl rfl ?_
    rw [cz_s]
    exact l_done2 p7 kk j (p + 1) (by omega)
theorem g_mDone {X : Nat × (Nat → Int32)} {d : Nat} {A : CA} {R : RA} {o : Nat → Int64} {od : Nat → Nat} (T : TV R.P R.Mv R.t od) (V : WV R.wc R.ln R.rr (fun _ => 0)) {w : Nat} (hw : w < 30) : px_ev X (d + 3) 124 [.ref 26, .int (nI w)] (WW A R o) (some none, WW A (RA.s_s (RA.s_ot R (sct (im R.t (fun k => R.rr (w * 40 + k)) (R.ln w)) R.s R.ot R.P)) (cz (sct (im R.t (fun k => R.rr (w * 40 + k)) (R.ln w)) R.s R.ot R.P) R.s R.P)) o, 0, 0) := by
  refine wp_ev (d := d + 2) (by decide) rfl rfl (fun h => by cases h) ?_
  show wp X (d + 2) 124 (0, [.ref 26, .int (nI w), .retAddr 0], [], WW A R o, 0, 0) _
  refine wz_iconst (x := nI 0) (p9 := 1) rfl rfl (by decide) ?_
  refine wz_istore_n (l9 := [.ref 26, .int (nI w), .int (nI 0)]) (p9 := 2) rfl rfl rfl rfl ?_
  refine l_done1 T V hw ?_ R.P 0 (Nat.zero_add _)
  refine wz_iconst (x := nI 0) (p9 := 34) rfl rfl (by decide) ?_
  refine wz_istore_n (l9 := [.ref 26, .int (nI w), .int (nI 0)]) (p9 := 35) rfl rfl rfl rfl ?_
  have h9 := l_done2 (X := X) (d := d) (A := A) (R := RA.s_ot R (sct (im R.t (fun k => R.rr (w * 40 + k)) (R.ln w)) R.s R.ot R.P)) (o := o) (k := 0) (z := 0) (w := w) (Q := fun q => q = (some none, WW A (RA.s_s (RA.s_ot R (sct (im R.t (fun k => R.rr (w * 40 + k)) (R.ln w)) R.s R.ot R.P)) (cz (sct (im R.t (fun k => R.rr (w * 40 + k)) (R.ln w)) R.s R.ot R.P) R.s R.P)) o, 0, 0)) T.p7 rfl R.P 0 (Nat.zero_add _)
  rw [cz_0] at h9
  exact h9
