/-! THE REFERENCE: set-ups (wip/whole/gen/mkbk.py) -/
theorem g_digit {X : Nat × (Nat → Int32)} {d : Nat} {A : CA} {R : RA} {o : Nat → Int64} {x i : Nat} (hx : x < 2147483648) (hi : i < 10) : px_ev X (d + 1) 146 [.int (nI x), .int (nI i)] (WW A R o) (some (some (.int (nI (dg x i)))), WW A R o, 0, 0) := by
  refine wp_ev (d := d + 0) (by decide) rfl rfl (fun h => by cases h) ?_
  show wp X (d + 0) 146 (0, [.int (nI x), .int (nI i)], [], WW A R o, 0, 0) _
  refine wz_iload_n (p9 := 1) rfl rfl rfl ?_
  refine wz_iconst (x := nI 3) (p9 := 2) rfl rfl (by decide) ?_
  refine wz_iload_n (p9 := 3) rfl rfl rfl ?_
  refine wn_mul (p9 := 4) rfl rfl ?_
  refine wn_shr (p9 := 5) rfl rfl (by omega) (by omega) ?_
  refine wz_bipush (x := nI 7) (p9 := 7) rfl rfl (by decide) ?_
  refine wn_and7 (p9 := 8) rfl rfl ?_
  rw [q_p8]
  exact wz_reti rfl rfl rfl
theorem inb_n {a P : Nat} (ha : a < 1000) (hP : P < 1000) : inb (nI a) P = if a < P then 1 else 0 := by
  unfold inb
  by_cases c : a < P
  · rw [if_pos c, if_pos ⟨fun q => absurd ((nI_ltI (a := a) (b := 0) (by omega) (by decide)).mp q) (by omega), (nI_ltI (by omega) (by omega)).mpr c⟩]
  · rw [if_neg c, if_neg (fun q => c ((nI_ltI (by omega) (by omega)).mp q.2))]
theorem g_mThree1 {X : Nat × (Nat → Int32)} {d : Nat} {A : CA} {R : RA} {o : Nat → Int64} {v : Nat} (h7 : R.P ≤ 7) (hv : v < 512) (h : i3 R.P v) : px_ev X (d + 2) 145 [.ref 26, .int (nI v)] (WW A R o) (some (some (.int (nI 1))), WW A R o, 0, 0) := by
  refine wp_ev (d := d + 1) (by decide) rfl rfl (fun h => by cases h) ?_
  show wp X (d + 1) 145 (0, [.ref 26, .int (nI v), .retAddr 0, .retAddr 0], [], WW A R o, 0, 0) _
  have d0 := dg_lt v 0
  have q0 : inb (nI (dg v 0)) R.P = if dg v 0 < R.P then 1 else 0 := inb_n (by omega) (by omega)
  have d1 := dg_lt v 1
  have q1 : inb (nI (dg v 1)) R.P = if dg v 1 < R.P then 1 else 0 := inb_n (by omega) (by omega)
  have d2 := dg_lt v 2
  have q2 : inb (nI (dg v 2)) R.P = if dg v 2 < R.P then 1 else 0 := inb_n (by omega) (by omega)
  obtain ⟨e1, e2, e3, e4, e5, e6⟩ := h
  rw [if_pos e4] at q0
  rw [if_pos e5] at q1
  rw [if_pos e6] at q2
  refine wz_iload_n (p9 := 1) rfl rfl rfl ?_
  refine wn_iflt (t9 := 11) (p9 := 4) rfl rfl rfl (by omega) (fun h9 => by omega) (fun _ => ?_)
  refine wz_iload_n (p9 := 5) rfl rfl rfl ?_
  refine wz_sipush (x := nI 511) (p9 := 8) rfl rfl (by decide) ?_
  refine wn_icle (t9 := 13) (p9 := 11) rfl rfl rfl (by omega) (by omega) (fun _ => ?_) (fun h9 => by omega)
  refine wz_iconst (x := nI 0) (p9 := 14) rfl rfl (by decide) ?_
  refine wz_istore_n (l9 := [.ref 26, .int (nI v), .int (nI 0), .retAddr 0]) (p9 := 15) rfl rfl rfl rfl ?_
  refine wz_iload_n (p9 := 16) rfl rfl rfl ?_
  refine wz_iconst (x := nI 3) (p9 := 17) rfl rfl (by decide) ?_
  refine wn_icge (t9 := 71) (p9 := 20) rfl rfl rfl (by omega) (by omega) (fun h9 => by omega) (fun _ => ?_)
  refine wz_iconst (x := nI 0) (p9 := 21) rfl rfl (by decide) ?_
  refine wz_istore_n (l9 := [.ref 26, .int (nI v), .int (nI 0), .int (nI 0)]) (p9 := 22) rfl rfl rfl rfl ?_
  refine wz_iload_n (p9 := 23) rfl rfl rfl ?_
  refine wz_iload_n (p9 := 24) rfl rfl rfl ?_
  refine wn_icgt (t9 := 65) (p9 := 27) rfl rfl rfl (by omega) (by omega) (fun h9 => by omega) (fun _ => ?_)
  refine wz_aload_n (p9 := 28) rfl rfl rfl ?_
  refine wz_iload_n (p9 := 29) rfl rfl rfl ?_
  refine wz_iload_n (p9 := 30) rfl rfl rfl ?_
  refine wz_c1 (p9 := 33) (w1 := WW A R o) (u := .int (nI (dg v 0))) (tz_calS (N := 146) (As := [.int (nI v), .int (nI 0)]) (rest := [.ref 26]) rfl rfl rfl rfl rfl rfl) rfl ((g_digit (d := 0) (by omega) (by omega)).up (by omega)) ?_
  refine wz_c1 (p9 := 36) (w1 := WW A R o) (u := .int (nI (inb (nI (dg v 0)) R.P))) (wa_v (N := 100) (i := 26) (As := [.int (nI (dg v 0))]) (rest := []) rfl rfl rfl rfl rfl rfl rfl) rfl ((g_mPlaceR (d := 0) ).up (by omega)) ?_
  refine wn_ifeq (t9 := 57) (p9 := 39) rfl rfl rfl (by omega) (fun h9 => by omega) (fun _ => ?_)
  refine wz_iload_n (p9 := 40) rfl rfl rfl ?_
  refine wz_iload_n (p9 := 41) rfl rfl rfl ?_
  refine wn_icge (t9 := 59) (p9 := 44) rfl rfl rfl (by omega) (by omega) (fun _ => ?_) (fun h9 => by omega)
  refine wn_inc (b := 1) (l9 := [.ref 26, .int (nI v), .int (nI 0), .int (nI 1)]) (p9 := 62) rfl rfl rfl (by decide) rfl ?_
  refine wz_goto (p9 := 22) rfl rfl ?_
  refine wz_iload_n (p9 := 23) rfl rfl rfl ?_
  refine wz_iload_n (p9 := 24) rfl rfl rfl ?_
  refine wn_icgt (t9 := 65) (p9 := 27) rfl rfl rfl (by omega) (by omega) (fun _ => ?_) (fun h9 => by omega)
  refine wn_inc (b := 1) (l9 := [.ref 26, .int (nI v), .int (nI 1), .int (nI 1)]) (p9 := 68) rfl rfl rfl (by decide) rfl ?_
  refine wz_goto (p9 := 15) rfl rfl ?_
  refine wz_iload_n (p9 := 16) rfl rfl rfl ?_
  refine wz_iconst (x := nI 3) (p9 := 17) rfl rfl (by decide) ?_
  refine wn_icge (t9 := 71) (p9 := 20) rfl rfl rfl (by omega) (by omega) (fun h9 => by omega) (fun _ => ?_)
  refine wz_iconst (x := nI 0) (p9 := 21) rfl rfl (by decide) ?_
  refine wz_istore_n (l9 := [.ref 26, .int (nI v), .int (nI 1), .int (nI 0)]) (p9 := 22) rfl rfl rfl rfl ?_
  refine wz_iload_n (p9 := 23) rfl rfl rfl ?_
  refine wz_iload_n (p9 := 24) rfl rfl rfl ?_
  refine wn_icgt (t9 := 65) (p9 := 27) rfl rfl rfl (by omega) (by omega) (fun h9 => by omega) (fun _ => ?_)
  refine wz_aload_n (p9 := 28) rfl rfl rfl ?_
  refine wz_iload_n (p9 := 29) rfl rfl rfl ?_
  refine wz_iload_n (p9 := 30) rfl rfl rfl ?_
  refine wz_c1 (p9 := 33) (w1 := WW A R o) (u := .int (nI (dg v 1))) (tz_calS (N := 146) (As := [.int (nI v), .int (nI 1)]) (rest := [.ref 26]) rfl rfl rfl rfl rfl rfl) rfl ((g_digit (d := 0) (by omega) (by omega)).up (by omega)) ?_
  refine wz_c1 (p9 := 36) (w1 := WW A R o) (u := .int (nI (inb (nI (dg v 1)) R.P))) (wa_v (N := 100) (i := 26) (As := [.int (nI (dg v 1))]) (rest := []) rfl rfl rfl rfl rfl rfl rfl) rfl ((g_mPlaceR (d := 0) ).up (by omega)) ?_
  refine wn_ifeq (t9 := 57) (p9 := 39) rfl rfl rfl (by omega) (fun h9 => by omega) (fun _ => ?_)
  refine wz_iload_n (p9 := 40) rfl rfl rfl ?_
  refine wz_iload_n (p9 := 41) rfl rfl rfl ?_
  refine wn_icge (t9 := 59) (p9 := 44) rfl rfl rfl (by omega) (by omega) (fun h9 => by omega) (fun _ => ?_)
  refine wz_iload_n (p9 := 45) rfl rfl rfl ?_
  refine wz_iload_n (p9 := 46) rfl rfl rfl ?_
  refine wz_c1 (p9 := 49) (w1 := WW A R o) (u := .int (nI (dg v 0))) (tz_calS (N := 146) (As := [.int (nI v), .int (nI 0)]) (rest := []) rfl rfl rfl rfl rfl rfl) rfl ((g_digit (d := 0) (by omega) (by omega)).up (by omega)) ?_
  refine wz_iload_n (p9 := 50) rfl rfl rfl ?_
  refine wz_iload_n (p9 := 51) rfl rfl rfl ?_
  refine wz_c1 (p9 := 54) (w1 := WW A R o) (u := .int (nI (dg v 1))) (tz_calS (N := 146) (As := [.int (nI v), .int (nI 1)]) (rest := [.int (nI (dg v 0))]) rfl rfl rfl rfl rfl rfl) rfl ((g_digit (d := 0) (by omega) (by omega)).up (by omega)) ?_
  refine wn_icne (t9 := 59) (p9 := 57) rfl rfl rfl (by omega) (by omega) (fun _ => ?_) (fun h9 => by omega)
  refine wn_inc (b := 1) (l9 := [.ref 26, .int (nI v), .int (nI 1), .int (nI 1)]) (p9 := 62) rfl rfl rfl (by decide) rfl ?_
  refine wz_goto (p9 := 22) rfl rfl ?_
  refine wz_iload_n (p9 := 23) rfl rfl rfl ?_
  refine wz_iload_n (p9 := 24) rfl rfl rfl ?_
  refine wn_icgt (t9 := 65) (p9 := 27) rfl rfl rfl (by omega) (by omega) (fun h9 => by omega) (fun _ => ?_)
  refine wz_aload_n (p9 := 28) rfl rfl rfl ?_
  refine wz_iload_n (p9 := 29) rfl rfl rfl ?_
  refine wz_iload_n (p9 := 30) rfl rfl rfl ?_
  refine wz_c1 (p9 := 33) (w1 := WW A R o) (u := .int (nI (dg v 1))) (tz_calS (N := 146) (As := [.int (nI v), .int (nI 1)]) (rest := [.ref 26]) rfl rfl rfl rfl rfl rfl) rfl ((g_digit (d := 0) (by omega) (by omega)).up (by omega)) ?_
  refine wz_c1 (p9 := 36) (w1 := WW A R o) (u := .int (nI (inb (nI (dg v 1)) R.P))) (wa_v (N := 100) (i := 26) (As := [.int (nI (dg v 1))]) (rest := []) rfl rfl rfl rfl rfl rfl rfl) rfl ((g_mPlaceR (d := 0) ).up (by omega)) ?_
  refine wn_ifeq (t9 := 57) (p9 := 39) rfl rfl rfl (by omega) (fun h9 => by omega) (fun _ => ?_)
  refine wz_iload_n (p9 := 40) rfl rfl rfl ?_
  refine wz_iload_n (p9 := 41) rfl rfl rfl ?_
  refine wn_icge (t9 := 59) (p9 := 44) rfl rfl rfl (by omega) (by omega) (fun _ => ?_) (fun h9 => by omega)
  refine wn_inc (b := 1) (l9 := [.ref 26, .int (nI v), .int (nI 1), .int (nI 2)]) (p9 := 62) rfl rfl rfl (by decide) rfl ?_
  refine wz_goto (p9 := 22) rfl rfl ?_
  refine wz_iload_n (p9 := 23) rfl rfl rfl ?_
  refine wz_iload_n (p9 := 24) rfl rfl rfl ?_
  refine wn_icgt (t9 := 65) (p9 := 27) rfl rfl rfl (by omega) (by omega) (fun _ => ?_) (fun h9 => by omega)
  refine wn_inc (b := 1) (l9 := [.ref 26, .int (nI v), .int (nI 2), .int (nI 2)]) (p9 := 68) rfl rfl rfl (by decide) rfl ?_
  refine wz_goto (p9 := 15) rfl rfl ?_
  refine wz_iload_n (p9 := 16) rfl rfl rfl ?_
  refine wz_iconst (x := nI 3) (p9 := 17) rfl rfl (by decide) ?_
  refine wn_icge (t9 := 71) (p9 := 20) rfl rfl rfl (by omega) (by omega) (fun h9 => by omega) (fun _ => ?_)
  refine wz_iconst (x := nI 0) (p9 := 21) rfl rfl (by decide) ?_
  refine wz_istore_n (l9 := [.ref 26, .int (nI v), .int (nI 2), .int (nI 0)]) (p9 := 22) rfl rfl rfl rfl ?_
  refine wz_iload_n (p9 := 23) rfl rfl rfl ?_
  refine wz_iload_n (p9 := 24) rfl rfl rfl ?_
  refine wn_icgt (t9 := 65) (p9 := 27) rfl rfl rfl (by omega) (by omega) (fun h9 => by omega) (fun _ => ?_)
  refine wz_aload_n (p9 := 28) rfl rfl rfl ?_
  refine wz_iload_n (p9 := 29) rfl rfl rfl ?_
  refine wz_iload_n (p9 := 30) rfl rfl rfl ?_
  refine wz_c1 (p9 := 33) (w1 := WW A R o) (u := .int (nI (dg v 2))) (tz_calS (N := 146) (As := [.int (nI v), .int (nI 2)]) (rest := [.ref 26]) rfl rfl rfl rfl rfl rfl) rfl ((g_digit (d := 0) (by omega) (by omega)).up (by omega)) ?_
  refine wz_c1 (p9 := 36) (w1 := WW A R o) (u := .int (nI (inb (nI (dg v 2)) R.P))) (wa_v (N := 100) (i := 26) (As := [.int (nI (dg v 2))]) (rest := []) rfl rfl rfl rfl rfl rfl rfl) rfl ((g_mPlaceR (d := 0) ).up (by omega)) ?_
  refine wn_ifeq (t9 := 57) (p9 := 39) rfl rfl rfl (by omega) (fun h9 => by omega) (fun _ => ?_)
  refine wz_iload_n (p9 := 40) rfl rfl rfl ?_
  refine wz_iload_n (p9 := 41) rfl rfl rfl ?_
  refine wn_icge (t9 := 59) (p9 := 44) rfl rfl rfl (by omega) (by omega) (fun h9 => by omega) (fun _ => ?_)
  refine wz_iload_n (p9 := 45) rfl rfl rfl ?_
  refine wz_iload_n (p9 := 46) rfl rfl rfl ?_
  refine wz_c1 (p9 := 49) (w1 := WW A R o) (u := .int (nI (dg v 0))) (tz_calS (N := 146) (As := [.int (nI v), .int (nI 0)]) (rest := []) rfl rfl rfl rfl rfl rfl) rfl ((g_digit (d := 0) (by omega) (by omega)).up (by omega)) ?_
  refine wz_iload_n (p9 := 50) rfl rfl rfl ?_
  refine wz_iload_n (p9 := 51) rfl rfl rfl ?_
  refine wz_c1 (p9 := 54) (w1 := WW A R o) (u := .int (nI (dg v 2))) (tz_calS (N := 146) (As := [.int (nI v), .int (nI 2)]) (rest := [.int (nI (dg v 0))]) rfl rfl rfl rfl rfl rfl) rfl ((g_digit (d := 0) (by omega) (by omega)).up (by omega)) ?_
  refine wn_icne (t9 := 59) (p9 := 57) rfl rfl rfl (by omega) (by omega) (fun _ => ?_) (fun h9 => by omega)
  refine wn_inc (b := 1) (l9 := [.ref 26, .int (nI v), .int (nI 2), .int (nI 1)]) (p9 := 62) rfl rfl rfl (by decide) rfl ?_
  refine wz_goto (p9 := 22) rfl rfl ?_
  refine wz_iload_n (p9 := 23) rfl rfl rfl ?_
  refine wz_iload_n (p9 := 24) rfl rfl rfl ?_
  refine wn_icgt (t9 := 65) (p9 := 27) rfl rfl rfl (by omega) (by omega) (fun h9 => by omega) (fun _ => ?_)
  refine wz_aload_n (p9 := 28) rfl rfl rfl ?_
  refine wz_iload_n (p9 := 29) rfl rfl rfl ?_
  refine wz_iload_n (p9 := 30) rfl rfl rfl ?_
  refine wz_c1 (p9 := 33) (w1 := WW A R o) (u := .int (nI (dg v 2))) (tz_calS (N := 146) (As := [.int (nI v), .int (nI 2)]) (rest := [.ref 26]) rfl rfl rfl rfl rfl rfl) rfl ((g_digit (d := 0) (by omega) (by omega)).up (by omega)) ?_
  refine wz_c1 (p9 := 36) (w1 := WW A R o) (u := .int (nI (inb (nI (dg v 2)) R.P))) (wa_v (N := 100) (i := 26) (As := [.int (nI (dg v 2))]) (rest := []) rfl rfl rfl rfl rfl rfl rfl) rfl ((g_mPlaceR (d := 0) ).up (by omega)) ?_
  refine wn_ifeq (t9 := 57) (p9 := 39) rfl rfl rfl (by omega) (fun h9 => by omega) (fun _ => ?_)
  refine wz_iload_n (p9 := 40) rfl rfl rfl ?_
  refine wz_iload_n (p9 := 41) rfl rfl rfl ?_
  refine wn_icge (t9 := 59) (p9 := 44) rfl rfl rfl (by omega) (by omega) (fun h9 => by omega) (fun _ => ?_)
  refine wz_iload_n (p9 := 45) rfl rfl rfl ?_
  refine wz_iload_n (p9 := 46) rfl rfl rfl ?_
  refine wz_c1 (p9 := 49) (w1 := WW A R o) (u := .int (nI (dg v 1))) (tz_calS (N := 146) (As := [.int (nI v), .int (nI 1)]) (rest := []) rfl rfl rfl rfl rfl rfl) rfl ((g_digit (d := 0) (by omega) (by omega)).up (by omega)) ?_
  refine wz_iload_n (p9 := 50) rfl rfl rfl ?_
  refine wz_iload_n (p9 := 51) rfl rfl rfl ?_
  refine wz_c1 (p9 := 54) (w1 := WW A R o) (u := .int (nI (dg v 2))) (tz_calS (N := 146) (As := [.int (nI v), .int (nI 2)]) (rest := [.int (nI (dg v 1))]) rfl rfl rfl rfl rfl rfl) rfl ((g_digit (d := 0) (by omega) (by omega)).up (by omega)) ?_
  refine wn_icne (t9 := 59) (p9 := 57) rfl rfl rfl (by omega) (by omega) (fun _ => ?_) (fun h9 => by omega)
  refine wn_inc (b := 1) (l9 := [.ref 26, .int (nI v), .int (nI 2), .int (nI 2)]) (p9 := 62) rfl rfl rfl (by decide) rfl ?_
  refine wz_goto (p9 := 22) rfl rfl ?_
  refine wz_iload_n (p9 := 23) rfl rfl rfl ?_
  refine wz_iload_n (p9 := 24) rfl rfl rfl ?_
  refine wn_icgt (t9 := 65) (p9 := 27) rfl rfl rfl (by omega) (by omega) (fun h9 => by omega) (fun _ => ?_)
  refine wz_aload_n (p9 := 28) rfl rfl rfl ?_
  refine wz_iload_n (p9 := 29) rfl rfl rfl ?_
  refine wz_iload_n (p9 := 30) rfl rfl rfl ?_
  refine wz_c1 (p9 := 33) (w1 := WW A R o) (u := .int (nI (dg v 2))) (tz_calS (N := 146) (As := [.int (nI v), .int (nI 2)]) (rest := [.ref 26]) rfl rfl rfl rfl rfl rfl) rfl ((g_digit (d := 0) (by omega) (by omega)).up (by omega)) ?_
  refine wz_c1 (p9 := 36) (w1 := WW A R o) (u := .int (nI (inb (nI (dg v 2)) R.P))) (wa_v (N := 100) (i := 26) (As := [.int (nI (dg v 2))]) (rest := []) rfl rfl rfl rfl rfl rfl rfl) rfl ((g_mPlaceR (d := 0) ).up (by omega)) ?_
  refine wn_ifeq (t9 := 57) (p9 := 39) rfl rfl rfl (by omega) (fun h9 => by omega) (fun _ => ?_)
  refine wz_iload_n (p9 := 40) rfl rfl rfl ?_
  refine wz_iload_n (p9 := 41) rfl rfl rfl ?_
  refine wn_icge (t9 := 59) (p9 := 44) rfl rfl rfl (by omega) (by omega) (fun _ => ?_) (fun h9 => by omega)
  refine wn_inc (b := 1) (l9 := [.ref 26, .int (nI v), .int (nI 2), .int (nI 3)]) (p9 := 62) rfl rfl rfl (by decide) rfl ?_
  refine wz_goto (p9 := 22) rfl rfl ?_
  refine wz_iload_n (p9 := 23) rfl rfl rfl ?_
  refine wz_iload_n (p9 := 24) rfl rfl rfl ?_
  refine wn_icgt (t9 := 65) (p9 := 27) rfl rfl rfl (by omega) (by omega) (fun _ => ?_) (fun h9 => by omega)
  refine wn_inc (b := 1) (l9 := [.ref 26, .int (nI v), .int (nI 3), .int (nI 3)]) (p9 := 68) rfl rfl rfl (by decide) rfl ?_
  refine wz_goto (p9 := 15) rfl rfl ?_
  refine wz_iload_n (p9 := 16) rfl rfl rfl ?_
  refine wz_iconst (x := nI 3) (p9 := 17) rfl rfl (by decide) ?_
  refine wn_icge (t9 := 71) (p9 := 20) rfl rfl rfl (by omega) (by omega) (fun _ => ?_) (fun h9 => by omega)
  refine wz_iconst (x := nI 1) (p9 := 72) rfl rfl (by decide) ?_
  exact wz_retz rfl rfl (by decide) rfl
theorem g_mThree0 {X : Nat × (Nat → Int32)} {d : Nat} {A : CA} {R : RA} {o : Nat → Int64} {v : Nat} (h7 : R.P ≤ 7) (hv : v < 512) (h : ¬ i3 R.P v) : px_ev X (d + 2) 145 [.ref 26, .int (nI v)] (WW A R o) (some (some (.int (nI 0))), WW A R o, 0, 0) := by
  refine wp_ev (d := d + 1) (by decide) rfl rfl (fun h => by cases h) ?_
  show wp X (d + 1) 145 (0, [.ref 26, .int (nI v), .retAddr 0, .retAddr 0], [], WW A R o, 0, 0) _
  have d0 := dg_lt v 0
  have q0 : inb (nI (dg v 0)) R.P = if dg v 0 < R.P then 1 else 0 := inb_n (by omega) (by omega)
  have d1 := dg_lt v 1
  have q1 : inb (nI (dg v 1)) R.P = if dg v 1 < R.P then 1 else 0 := inb_n (by omega) (by omega)
  have d2 := dg_lt v 2
  have q2 : inb (nI (dg v 2)) R.P = if dg v 2 < R.P then 1 else 0 := inb_n (by omega) (by omega)
  have r0 : dg v 0 < R.P ∨ inb (nI (dg v 0)) R.P = 0 := by rw [q0]; split <;> omega
  have r1 : dg v 1 < R.P ∨ inb (nI (dg v 1)) R.P = 0 := by rw [q1]; split <;> omega
  have r2 : dg v 2 < R.P ∨ inb (nI (dg v 2)) R.P = 0 := by rw [q2]; split <;> omega
  have s0 : inb (nI (dg v 0)) R.P < 2 := by rw [q0]; split <;> decide
  have s1 : inb (nI (dg v 1)) R.P < 2 := by rw [q1]; split <;> decide
  have s2 : inb (nI (dg v 2)) R.P < 2 := by rw [q2]; split <;> decide
  clear q0 q1 q2
  refine wz_iload_n (p9 := 1) rfl rfl rfl ?_
  refine wn_iflt (t9 := 11) (p9 := 4) rfl rfl rfl (by omega) (fun h9 => by omega) (fun _ => ?_)
  refine wz_iload_n (p9 := 5) rfl rfl rfl ?_
  refine wz_sipush (x := nI 511) (p9 := 8) rfl rfl (by decide) ?_
  refine wn_icle (t9 := 13) (p9 := 11) rfl rfl rfl (by omega) (by omega) (fun _ => ?_) (fun h9 => by omega)
  refine wz_iconst (x := nI 0) (p9 := 14) rfl rfl (by decide) ?_
  refine wz_istore_n (l9 := [.ref 26, .int (nI v), .int (nI 0), .retAddr 0]) (p9 := 15) rfl rfl rfl rfl ?_
  refine wz_iload_n (p9 := 16) rfl rfl rfl ?_
  refine wz_iconst (x := nI 3) (p9 := 17) rfl rfl (by decide) ?_
  refine wn_icge (t9 := 71) (p9 := 20) rfl rfl rfl (by omega) (by omega) (fun h9 => by omega) (fun _ => ?_)
  refine wz_iconst (x := nI 0) (p9 := 21) rfl rfl (by decide) ?_
  refine wz_istore_n (l9 := [.ref 26, .int (nI v), .int (nI 0), .int (nI 0)]) (p9 := 22) rfl rfl rfl rfl ?_
  refine wz_iload_n (p9 := 23) rfl rfl rfl ?_
  refine wz_iload_n (p9 := 24) rfl rfl rfl ?_
  refine wn_icgt (t9 := 65) (p9 := 27) rfl rfl rfl (by omega) (by omega) (fun h9 => by omega) (fun _ => ?_)
  refine wz_aload_n (p9 := 28) rfl rfl rfl ?_
  refine wz_iload_n (p9 := 29) rfl rfl rfl ?_
  refine wz_iload_n (p9 := 30) rfl rfl rfl ?_
  refine wz_c1 (p9 := 33) (w1 := WW A R o) (u := .int (nI (dg v 0))) (tz_calS (N := 146) (As := [.int (nI v), .int (nI 0)]) (rest := [.ref 26]) rfl rfl rfl rfl rfl rfl) rfl ((g_digit (d := 0) (by omega) (by omega)).up (by omega)) ?_
  refine wz_c1 (p9 := 36) (w1 := WW A R o) (u := .int (nI (inb (nI (dg v 0)) R.P))) (wa_v (N := 100) (i := 26) (As := [.int (nI (dg v 0))]) (rest := []) rfl rfl rfl rfl rfl rfl rfl) rfl ((g_mPlaceR (d := 0) ).up (by omega)) ?_
  refine wn_ifeq (t9 := 57) (p9 := 39) rfl rfl rfl (by omega) (fun h36 => ?_) (fun h36 => ?_)
  · refine wz_iconst (x := nI 0) (p9 := 58) rfl rfl (by decide) ?_
    exact wz_retz rfl rfl (by decide) rfl
  · refine wz_iload_n (p9 := 40) rfl rfl rfl ?_
    refine wz_iload_n (p9 := 41) rfl rfl rfl ?_
    refine wn_icge (t9 := 59) (p9 := 44) rfl rfl rfl (by omega) (by omega) (fun _ => ?_) (fun h9 => by omega)
    refine wn_inc (b := 1) (l9 := [.ref 26, .int (nI v), .int (nI 0), .int (nI 1)]) (p9 := 62) rfl rfl rfl (by decide) rfl ?_
    refine wz_goto (p9 := 22) rfl rfl ?_
    refine wz_iload_n (p9 := 23) rfl rfl rfl ?_
    refine wz_iload_n (p9 := 24) rfl rfl rfl ?_
    refine wn_icgt (t9 := 65) (p9 := 27) rfl rfl rfl (by omega) (by omega) (fun _ => ?_) (fun h9 => by omega)
    refine wn_inc (b := 1) (l9 := [.ref 26, .int (nI v), .int (nI 1), .int (nI 1)]) (p9 := 68) rfl rfl rfl (by decide) rfl ?_
    refine wz_goto (p9 := 15) rfl rfl ?_
    refine wz_iload_n (p9 := 16) rfl rfl rfl ?_
    refine wz_iconst (x := nI 3) (p9 := 17) rfl rfl (by decide) ?_
    refine wn_icge (t9 := 71) (p9 := 20) rfl rfl rfl (by omega) (by omega) (fun h9 => by omega) (fun _ => ?_)
    refine wz_iconst (x := nI 0) (p9 := 21) rfl rfl (by decide) ?_
    refine wz_istore_n (l9 := [.ref 26, .int (nI v), .int (nI 1), .int (nI 0)]) (p9 := 22) rfl rfl rfl rfl ?_
    refine wz_iload_n (p9 := 23) rfl rfl rfl ?_
    refine wz_iload_n (p9 := 24) rfl rfl rfl ?_
    refine wn_icgt (t9 := 65) (p9 := 27) rfl rfl rfl (by omega) (by omega) (fun h9 => by omega) (fun _ => ?_)
    refine wz_aload_n (p9 := 28) rfl rfl rfl ?_
    refine wz_iload_n (p9 := 29) rfl rfl rfl ?_
    refine wz_iload_n (p9 := 30) rfl rfl rfl ?_
    refine wz_c1 (p9 := 33) (w1 := WW A R o) (u := .int (nI (dg v 1))) (tz_calS (N := 146) (As := [.int (nI v), .int (nI 1)]) (rest := [.ref 26]) rfl rfl rfl rfl rfl rfl) rfl ((g_digit (d := 0) (by omega) (by omega)).up (by omega)) ?_
    refine wz_c1 (p9 := 36) (w1 := WW A R o) (u := .int (nI (inb (nI (dg v 1)) R.P))) (wa_v (N := 100) (i := 26) (As := [.int (nI (dg v 1))]) (rest := []) rfl rfl rfl rfl rfl rfl rfl) rfl ((g_mPlaceR (d := 0) ).up (by omega)) ?_
    refine wn_ifeq (t9 := 57) (p9 := 39) rfl rfl rfl (by omega) (fun h36 => ?_) (fun h36 => ?_)
    · refine wz_iconst (x := nI 0) (p9 := 58) rfl rfl (by decide) ?_
      exact wz_retz rfl rfl (by decide) rfl
    · refine wz_iload_n (p9 := 40) rfl rfl rfl ?_
      refine wz_iload_n (p9 := 41) rfl rfl rfl ?_
      refine wn_icge (t9 := 59) (p9 := 44) rfl rfl rfl (by omega) (by omega) (fun h9 => by omega) (fun _ => ?_)
      refine wz_iload_n (p9 := 45) rfl rfl rfl ?_
      refine wz_iload_n (p9 := 46) rfl rfl rfl ?_
      refine wz_c1 (p9 := 49) (w1 := WW A R o) (u := .int (nI (dg v 0))) (tz_calS (N := 146) (As := [.int (nI v), .int (nI 0)]) (rest := []) rfl rfl rfl rfl rfl rfl) rfl ((g_digit (d := 0) (by omega) (by omega)).up (by omega)) ?_
      refine wz_iload_n (p9 := 50) rfl rfl rfl ?_
      refine wz_iload_n (p9 := 51) rfl rfl rfl ?_
      refine wz_c1 (p9 := 54) (w1 := WW A R o) (u := .int (nI (dg v 1))) (tz_calS (N := 146) (As := [.int (nI v), .int (nI 1)]) (rest := [.int (nI (dg v 0))]) rfl rfl rfl rfl rfl rfl) rfl ((g_digit (d := 0) (by omega) (by omega)).up (by omega)) ?_
      refine wn_icne (t9 := 59) (p9 := 57) rfl rfl rfl (by omega) (by omega) (fun h54 => ?_) (fun h54 => ?_)
      · refine wn_inc (b := 1) (l9 := [.ref 26, .int (nI v), .int (nI 1), .int (nI 1)]) (p9 := 62) rfl rfl rfl (by decide) rfl ?_
        refine wz_goto (p9 := 22) rfl rfl ?_
        refine wz_iload_n (p9 := 23) rfl rfl rfl ?_
        refine wz_iload_n (p9 := 24) rfl rfl rfl ?_
        refine wn_icgt (t9 := 65) (p9 := 27) rfl rfl rfl (by omega) (by omega) (fun h9 => by omega) (fun _ => ?_)
        refine wz_aload_n (p9 := 28) rfl rfl rfl ?_
        refine wz_iload_n (p9 := 29) rfl rfl rfl ?_
        refine wz_iload_n (p9 := 30) rfl rfl rfl ?_
        refine wz_c1 (p9 := 33) (w1 := WW A R o) (u := .int (nI (dg v 1))) (tz_calS (N := 146) (As := [.int (nI v), .int (nI 1)]) (rest := [.ref 26]) rfl rfl rfl rfl rfl rfl) rfl ((g_digit (d := 0) (by omega) (by omega)).up (by omega)) ?_
        refine wz_c1 (p9 := 36) (w1 := WW A R o) (u := .int (nI (inb (nI (dg v 1)) R.P))) (wa_v (N := 100) (i := 26) (As := [.int (nI (dg v 1))]) (rest := []) rfl rfl rfl rfl rfl rfl rfl) rfl ((g_mPlaceR (d := 0) ).up (by omega)) ?_
        refine wn_ifeq (t9 := 57) (p9 := 39) rfl rfl rfl (by omega) (fun h36 => ?_) (fun h36 => ?_)
        · refine wz_iconst (x := nI 0) (p9 := 58) rfl rfl (by decide) ?_
          exact wz_retz rfl rfl (by decide) rfl
        · refine wz_iload_n (p9 := 40) rfl rfl rfl ?_
          refine wz_iload_n (p9 := 41) rfl rfl rfl ?_
          refine wn_icge (t9 := 59) (p9 := 44) rfl rfl rfl (by omega) (by omega) (fun _ => ?_) (fun h9 => by omega)
          refine wn_inc (b := 1) (l9 := [.ref 26, .int (nI v), .int (nI 1), .int (nI 2)]) (p9 := 62) rfl rfl rfl (by decide) rfl ?_
          refine wz_goto (p9 := 22) rfl rfl ?_
          refine wz_iload_n (p9 := 23) rfl rfl rfl ?_
          refine wz_iload_n (p9 := 24) rfl rfl rfl ?_
          refine wn_icgt (t9 := 65) (p9 := 27) rfl rfl rfl (by omega) (by omega) (fun _ => ?_) (fun h9 => by omega)
          refine wn_inc (b := 1) (l9 := [.ref 26, .int (nI v), .int (nI 2), .int (nI 2)]) (p9 := 68) rfl rfl rfl (by decide) rfl ?_
          refine wz_goto (p9 := 15) rfl rfl ?_
          refine wz_iload_n (p9 := 16) rfl rfl rfl ?_
          refine wz_iconst (x := nI 3) (p9 := 17) rfl rfl (by decide) ?_
          refine wn_icge (t9 := 71) (p9 := 20) rfl rfl rfl (by omega) (by omega) (fun h9 => by omega) (fun _ => ?_)
          refine wz_iconst (x := nI 0) (p9 := 21) rfl rfl (by decide) ?_
          refine wz_istore_n (l9 := [.ref 26, .int (nI v), .int (nI 2), .int (nI 0)]) (p9 := 22) rfl rfl rfl rfl ?_
          refine wz_iload_n (p9 := 23) rfl rfl rfl ?_
          refine wz_iload_n (p9 := 24) rfl rfl rfl ?_
          refine wn_icgt (t9 := 65) (p9 := 27) rfl rfl rfl (by omega) (by omega) (fun h9 => by omega) (fun _ => ?_)
          refine wz_aload_n (p9 := 28) rfl rfl rfl ?_
          refine wz_iload_n (p9 := 29) rfl rfl rfl ?_
          refine wz_iload_n (p9 := 30) rfl rfl rfl ?_
          refine wz_c1 (p9 := 33) (w1 := WW A R o) (u := .int (nI (dg v 2))) (tz_calS (N := 146) (As := [.int (nI v), .int (nI 2)]) (rest := [.ref 26]) rfl rfl rfl rfl rfl rfl) rfl ((g_digit (d := 0) (by omega) (by omega)).up (by omega)) ?_
          refine wz_c1 (p9 := 36) (w1 := WW A R o) (u := .int (nI (inb (nI (dg v 2)) R.P))) (wa_v (N := 100) (i := 26) (As := [.int (nI (dg v 2))]) (rest := []) rfl rfl rfl rfl rfl rfl rfl) rfl ((g_mPlaceR (d := 0) ).up (by omega)) ?_
          refine wn_ifeq (t9 := 57) (p9 := 39) rfl rfl rfl (by omega) (fun h36 => ?_) (fun h36 => ?_)
          · refine wz_iconst (x := nI 0) (p9 := 58) rfl rfl (by decide) ?_
            exact wz_retz rfl rfl (by decide) rfl
          · refine wz_iload_n (p9 := 40) rfl rfl rfl ?_
            refine wz_iload_n (p9 := 41) rfl rfl rfl ?_
            refine wn_icge (t9 := 59) (p9 := 44) rfl rfl rfl (by omega) (by omega) (fun h9 => by omega) (fun _ => ?_)
            refine wz_iload_n (p9 := 45) rfl rfl rfl ?_
            refine wz_iload_n (p9 := 46) rfl rfl rfl ?_
            refine wz_c1 (p9 := 49) (w1 := WW A R o) (u := .int (nI (dg v 0))) (tz_calS (N := 146) (As := [.int (nI v), .int (nI 0)]) (rest := []) rfl rfl rfl rfl rfl rfl) rfl ((g_digit (d := 0) (by omega) (by omega)).up (by omega)) ?_
            refine wz_iload_n (p9 := 50) rfl rfl rfl ?_
            refine wz_iload_n (p9 := 51) rfl rfl rfl ?_
            refine wz_c1 (p9 := 54) (w1 := WW A R o) (u := .int (nI (dg v 2))) (tz_calS (N := 146) (As := [.int (nI v), .int (nI 2)]) (rest := [.int (nI (dg v 0))]) rfl rfl rfl rfl rfl rfl) rfl ((g_digit (d := 0) (by omega) (by omega)).up (by omega)) ?_
            refine wn_icne (t9 := 59) (p9 := 57) rfl rfl rfl (by omega) (by omega) (fun h54 => ?_) (fun h54 => ?_)
            · refine wn_inc (b := 1) (l9 := [.ref 26, .int (nI v), .int (nI 2), .int (nI 1)]) (p9 := 62) rfl rfl rfl (by decide) rfl ?_
              refine wz_goto (p9 := 22) rfl rfl ?_
              refine wz_iload_n (p9 := 23) rfl rfl rfl ?_
              refine wz_iload_n (p9 := 24) rfl rfl rfl ?_
              refine wn_icgt (t9 := 65) (p9 := 27) rfl rfl rfl (by omega) (by omega) (fun h9 => by omega) (fun _ => ?_)
              refine wz_aload_n (p9 := 28) rfl rfl rfl ?_
              refine wz_iload_n (p9 := 29) rfl rfl rfl ?_
              refine wz_iload_n (p9 := 30) rfl rfl rfl ?_
              refine wz_c1 (p9 := 33) (w1 := WW A R o) (u := .int (nI (dg v 2))) (tz_calS (N := 146) (As := [.int (nI v), .int (nI 2)]) (rest := [.ref 26]) rfl rfl rfl rfl rfl rfl) rfl ((g_digit (d := 0) (by omega) (by omega)).up (by omega)) ?_
              refine wz_c1 (p9 := 36) (w1 := WW A R o) (u := .int (nI (inb (nI (dg v 2)) R.P))) (wa_v (N := 100) (i := 26) (As := [.int (nI (dg v 2))]) (rest := []) rfl rfl rfl rfl rfl rfl rfl) rfl ((g_mPlaceR (d := 0) ).up (by omega)) ?_
              refine wn_ifeq (t9 := 57) (p9 := 39) rfl rfl rfl (by omega) (fun h36 => ?_) (fun h36 => ?_)
              · refine wz_iconst (x := nI 0) (p9 := 58) rfl rfl (by decide) ?_
                exact wz_retz rfl rfl (by decide) rfl
              · refine wz_iload_n (p9 := 40) rfl rfl rfl ?_
                refine wz_iload_n (p9 := 41) rfl rfl rfl ?_
                refine wn_icge (t9 := 59) (p9 := 44) rfl rfl rfl (by omega) (by omega) (fun h9 => by omega) (fun _ => ?_)
                refine wz_iload_n (p9 := 45) rfl rfl rfl ?_
                refine wz_iload_n (p9 := 46) rfl rfl rfl ?_
                refine wz_c1 (p9 := 49) (w1 := WW A R o) (u := .int (nI (dg v 1))) (tz_calS (N := 146) (As := [.int (nI v), .int (nI 1)]) (rest := []) rfl rfl rfl rfl rfl rfl) rfl ((g_digit (d := 0) (by omega) (by omega)).up (by omega)) ?_
                refine wz_iload_n (p9 := 50) rfl rfl rfl ?_
                refine wz_iload_n (p9 := 51) rfl rfl rfl ?_
                refine wz_c1 (p9 := 54) (w1 := WW A R o) (u := .int (nI (dg v 2))) (tz_calS (N := 146) (As := [.int (nI v), .int (nI 2)]) (rest := [.int (nI (dg v 1))]) rfl rfl rfl rfl rfl rfl) rfl ((g_digit (d := 0) (by omega) (by omega)).up (by omega)) ?_
                refine wn_icne (t9 := 59) (p9 := 57) rfl rfl rfl (by omega) (by omega) (fun h54 => ?_) (fun h54 => ?_)
                · refine wn_inc (b := 1) (l9 := [.ref 26, .int (nI v), .int (nI 2), .int (nI 2)]) (p9 := 62) rfl rfl rfl (by decide) rfl ?_
                  refine wz_goto (p9 := 22) rfl rfl ?_
                  refine wz_iload_n (p9 := 23) rfl rfl rfl ?_
                  refine wz_iload_n (p9 := 24) rfl rfl rfl ?_
                  refine wn_icgt (t9 := 65) (p9 := 27) rfl rfl rfl (by omega) (by omega) (fun h9 => by omega) (fun _ => ?_)
                  refine wz_aload_n (p9 := 28) rfl rfl rfl ?_
                  refine wz_iload_n (p9 := 29) rfl rfl rfl ?_
                  refine wz_iload_n (p9 := 30) rfl rfl rfl ?_
                  refine wz_c1 (p9 := 33) (w1 := WW A R o) (u := .int (nI (dg v 2))) (tz_calS (N := 146) (As := [.int (nI v), .int (nI 2)]) (rest := [.ref 26]) rfl rfl rfl rfl rfl rfl) rfl ((g_digit (d := 0) (by omega) (by omega)).up (by omega)) ?_
                  refine wz_c1 (p9 := 36) (w1 := WW A R o) (u := .int (nI (inb (nI (dg v 2)) R.P))) (wa_v (N := 100) (i := 26) (As := [.int (nI (dg v 2))]) (rest := []) rfl rfl rfl rfl rfl rfl rfl) rfl ((g_mPlaceR (d := 0) ).up (by omega)) ?_
                  refine wn_ifeq (t9 := 57) (p9 := 39) rfl rfl rfl (by omega) (fun h36 => ?_) (fun h36 => ?_)
                  · refine wz_iconst (x := nI 0) (p9 := 58) rfl rfl (by decide) ?_
                    exact wz_retz rfl rfl (by decide) rfl
                  · refine wz_iload_n (p9 := 40) rfl rfl rfl ?_
                    refine wz_iload_n (p9 := 41) rfl rfl rfl ?_
                    refine wn_icge (t9 := 59) (p9 := 44) rfl rfl rfl (by omega) (by omega) (fun _ => ?_) (fun h9 => by omega)
                    refine wn_inc (b := 1) (l9 := [.ref 26, .int (nI v), .int (nI 2), .int (nI 3)]) (p9 := 62) rfl rfl rfl (by decide) rfl ?_
                    refine wz_goto (p9 := 22) rfl rfl ?_
                    refine wz_iload_n (p9 := 23) rfl rfl rfl ?_
                    refine wz_iload_n (p9 := 24) rfl rfl rfl ?_
                    refine wn_icgt (t9 := 65) (p9 := 27) rfl rfl rfl (by omega) (by omega) (fun _ => ?_) (fun h9 => by omega)
                    refine wn_inc (b := 1) (l9 := [.ref 26, .int (nI v), .int (nI 3), .int (nI 3)]) (p9 := 68) rfl rfl rfl (by decide) rfl ?_
                    refine wz_goto (p9 := 15) rfl rfl ?_
                    refine wz_iload_n (p9 := 16) rfl rfl rfl ?_
                    refine wz_iconst (x := nI 3) (p9 := 17) rfl rfl (by decide) ?_
                    refine wn_icge (t9 := 71) (p9 := 20) rfl rfl rfl (by omega) (by omega) (fun _ => ?_) (fun h9 => by omega)
                    refine wz_iconst (x := nI 1) (p9 := 72) rfl rfl (by decide) ?_
                    exact absurd ⟨by omega, by omega, by omega, by omega, by omega, by omega⟩ h
                · refine wz_iconst (x := nI 0) (p9 := 58) rfl rfl (by decide) ?_
                  exact wz_retz rfl rfl (by decide) rfl
            · refine wz_iconst (x := nI 0) (p9 := 58) rfl rfl (by decide) ?_
              exact wz_retz rfl rfl (by decide) rfl
      · refine wz_iconst (x := nI 0) (p9 := 58) rfl rfl (by decide) ?_
        exact wz_retz rfl rfl (by decide) rfl
theorem g_mThreeN {X : Nat × (Nat → Int32)} {d : Nat} {A : CA} {R : RA} {o : Nat → Int64} {x : Int32} (h : ¬ x < 0 → nI 512 ≤ x) : px_ev X (d + 2) 145 [.ref 26, .int x] (WW A R o) (some (some (.int (nI 0))), WW A R o, 0, 0) := by
  refine wp_ev (d := d + 1) (by decide) rfl rfl (fun h => by cases h) ?_
  show wp X (d + 1) 145 (0, [.ref 26, .int x, .retAddr 0, .retAddr 0], [], WW A R o, 0, 0) _
  refine wz_iload_n (p9 := 1) rfl rfl rfl ?_
  refine wz_iflt (t9 := 11) (p9 := 4) rfl rfl rfl (fun h1 => ?_) (fun h1 => ?_)
  · refine wz_iconst (x := nI 0) (p9 := 12) rfl rfl (by decide) ?_
    exact wz_retz rfl rfl (by decide) rfl
  · refine wz_iload_n (p9 := 5) rfl rfl rfl ?_
    refine wz_sipush (x := nI 511) (p9 := 8) rfl rfl (by decide) ?_
    refine wz_icle (t9 := 13) (p9 := 11) rfl rfl rfl (fun h9 => absurd (Int32.le_trans (h h1) h9) (by decide)) (fun _ => ?_)
    refine wz_iconst (x := nI 0) (p9 := 12) rfl rfl (by decide) ?_
    exact wz_retz rfl rfl (by decide) rfl
theorem l_placeOf {X : Nat × (Nat → Int32)} {d : Nat} {A : CA} {R : RA} {o : Nat → Int64} (h7 : R.P ≤ 7) {c q : Nat} (hq : q < R.P) (e : R.nw q = c) (hm : ∀ p, p < q → R.nw p ≠ c) (hb : ∀ p, p < R.P → R.nw p < 8) {k z : Nat} {Q : px_Z → Prop} (kk : Q (some (some (.int (nI q))), WW A R o, k, z)) : ∀ (j p : Nat), p + j = q → wp X d 147 (2, [.ref 26, .int (nI c), .int (nI p)], [], WW A R o, k, z) Q
  | 0, p, hj => by
    obtain rfl : q = p := by omega
    have hb9 := hb q hq
    refine wz_aload_n (p9 := 3) rfl rfl rfl ?_
    refine wz_get (v := .ref 28) (p9 := 6) rfl rfl rfl rfl rfl ?_
    refine wz_iload_n (p9 := 7) rfl rfl rfl ?_
    refine wl_Rnw (f := R.nw) (p9 := 8) rfl rfl rfl (by omega) ?_
    refine wz_iload_n (p9 := 9) rfl rfl rfl ?_
    refine wn_iceq (t9 := 18) (p9 := 12) rfl rfl rfl (by omega) (by omega) (fun _ => ?_) (fun h9 => absurd e h9)
    refine wz_iload_n (p9 := 19) rfl rfl rfl ?_
    exact wz_reti rfl rfl kk
  | j + 1, p, hj => by
    have hb9 := hb p (by omega)
    have hb8 := hb q hq
    refine wz_aload_n (p9 := 3) rfl rfl rfl ?_
    refine wz_get (v := .ref 28) (p9 := 6) rfl rfl rfl rfl rfl ?_
    refine wz_iload_n (p9 := 7) rfl rfl rfl ?_
    refine wl_Rnw (f := R.nw) (p9 := 8) rfl rfl rfl (by omega) ?_
    refine wz_iload_n (p9 := 9) rfl rfl rfl ?_
    refine wn_iceq (t9 := 18) (p9 := 12) rfl rfl rfl (by omega) (by omega) (fun h9 => absurd h9 (hm p (by omega))) (fun _ => ?_)
    refine wn_inc (b := 1) (l9 := [.ref 26, .int (nI c), .int (nI (p + 1))]) (p9 := 15) rfl rfl rfl (by decide) rfl ?_
    refine wz_goto (p9 := 2) rfl rfl ?_
    exact l_placeOf h7 hq e hm hb kk j (p + 1) (by omega)
theorem g_placeOf {X : Nat × (Nat → Int32)} {d : Nat} {A : CA} {R : RA} {o : Nat → Int64} (h7 : R.P ≤ 7) {c q : Nat} (hq : q < R.P) (e : R.nw q = c) (hm : ∀ p, p < q → R.nw p ≠ c) (hb : ∀ p, p < R.P → R.nw p < 8) : px_ev X (d + 1) 147 [.ref 26, .int (nI c)] (WW A R o) (some (some (.int (nI q))), WW A R o, 0, 0) := by
  refine wp_ev (d := d + 0) (by decide) rfl rfl (fun h => by cases h) ?_
  show wp X (d + 0) 147 (0, [.ref 26, .int (nI c), .retAddr 0], [], WW A R o, 0, 0) _
  refine wz_iconst (x := nI 0) (p9 := 1) rfl rfl (by decide) ?_
  refine wz_istore_n (l9 := [.ref 26, .int (nI c), .int (nI 0)]) (p9 := 2) rfl rfl rfl rfl ?_
  exact l_placeOf h7 hq e hm hb (by exact rfl) q 0 (by omega)
theorem g_seats {X : Nat × (Nat → Int32)} {d : Nat} {A : CA} {R : RA} {o : Nat → Int64} {od : Nat → Nat} (T : TV R.P R.Mv R.t od) {x m s : Nat} (hx : ok7 R.P x) (hm : m < 6) (hs : s < 2147483648) : px_ev X (d + 2) 149 [.ref 26, .int (nI x), .int (nI m), .int (nI s)] (WW A R o) (some (some (.int (nI (st7 R.t x m s)))), WW A R o, 0, 0) := by
  refine wp_ev (d := d + 1) (by decide) rfl rfl (fun h => by cases h) ?_
  show wp X (d + 1) 149 (0, [.ref 26, .int (nI x), .int (nI m), .int (nI s)], [], WW A R o, 0, 0) _
  have p7 := T.p7
  obtain ⟨o1, o2, o3⟩ := hx
  refine wz_aload_n (p9 := 1) rfl rfl rfl ?_
  refine wz_iload_n (p9 := 2) rfl rfl rfl ?_
  refine wz_iload_n (p9 := 3) rfl rfl rfl ?_
  refine wz_iload_n (p9 := 4) rfl rfl rfl ?_
  refine wz_bipush (x := nI 7) (p9 := 6) rfl rfl (by decide) ?_
  refine wn_rem (p9 := 7) rfl rfl (by omega) (by omega) (by omega) ?_
  refine wz_c1 (p9 := 10) (w1 := WW A R o) (u := .int (nI (bh R.t m s (x % 7)))) (wa_v (N := 105) (i := 26) (As := [.int (nI m), .int (nI s), .int (nI (x % 7))]) (rest := []) rfl rfl rfl rfl rfl rfl rfl) rfl ((g_behind (d := 0) T (by omega) (show x % 7 < R.P by omega) (by omega)).up (by omega)) ?_
  refine wz_bipush (x := nI 7) (p9 := 12) rfl rfl (by decide) ?_
  refine wz_aload_n (p9 := 13) rfl rfl rfl ?_
  refine wz_iload_n (p9 := 14) rfl rfl rfl ?_
  refine wz_iload_n (p9 := 15) rfl rfl rfl ?_
  refine wz_iload_n (p9 := 16) rfl rfl rfl ?_
  refine wz_bipush (x := nI 7) (p9 := 18) rfl rfl (by decide) ?_
  refine wn_div (p9 := 19) rfl rfl (by omega) (by omega) (by omega) ?_
  refine wz_bipush (x := nI 7) (p9 := 21) rfl rfl (by decide) ?_
  refine wn_rem (p9 := 22) rfl rfl (by omega) (by omega) (by omega) ?_
  refine wz_c1 (p9 := 25) (w1 := WW A R o) (u := .int (nI (bh R.t m s ((x / 7) % 7)))) (wa_v (N := 105) (i := 26) (As := [.int (nI m), .int (nI s), .int (nI ((x / 7) % 7))]) (rest := [.int (nI 7), .int (nI (bh R.t m s (x % 7)))]) rfl rfl rfl rfl rfl rfl rfl) rfl ((g_behind (d := 0) T (by omega) (show (x / 7) % 7 < R.P by omega) (by omega)).up (by omega)) ?_
  refine wn_mul (p9 := 26) rfl rfl ?_
  refine wn_add (p9 := 27) rfl rfl ?_
  refine wz_bipush (x := nI 49) (p9 := 29) rfl rfl (by decide) ?_
  refine wz_aload_n (p9 := 30) rfl rfl rfl ?_
  refine wz_iload_n (p9 := 31) rfl rfl rfl ?_
  refine wz_iload_n (p9 := 32) rfl rfl rfl ?_
  refine wz_iload_n (p9 := 33) rfl rfl rfl ?_
  refine wz_bipush (x := nI 49) (p9 := 35) rfl rfl (by decide) ?_
  refine wn_div (p9 := 36) rfl rfl (by omega) (by omega) (by omega) ?_
  refine wz_c1 (p9 := 39) (w1 := WW A R o) (u := .int (nI (bh R.t m s (x / 49)))) (wa_v (N := 105) (i := 26) (As := [.int (nI m), .int (nI s), .int (nI (x / 49))]) (rest := [.int (nI 49), .int (nI ((bh R.t m s (x % 7)) + (7 * (bh R.t m s ((x / 7) % 7)))))]) rfl rfl rfl rfl rfl rfl rfl) rfl ((g_behind (d := 0) T (by omega) (show x / 49 < R.P by omega) (by omega)).up (by omega)) ?_
  refine wn_mul (p9 := 40) rfl rfl ?_
  refine wn_add (p9 := 41) rfl rfl ?_
  exact wz_reti rfl rfl rfl
theorem l_ms0 {X : Nat × (Nat → Int32)} {d : Nat} {A : CA} {R : RA} {o : Nat → Int64} {g N : Nat} (hg : g < 343) {k z : Nat} {Q : px_Z → Prop} (kk : wp X d 148 (32, [.ref 26, .int (nI g), .int (nI N), .int (nI 343), .retAddr 0, .retAddr 0, .retAddr 0, .retAddr 0], [], WW A (RA.s_fa R (cz (fun q => if q = g then 0 else 99) R.fa 343)) o, k, z) Q) : ∀ (j i : Nat), i + j = 343 → wp X d 148 (2, [.ref 26, .int (nI g), .int (nI N), .int (nI i), .retAddr 0, .retAddr 0, .retAddr 0, .retAddr 0], [], WW A (RA.s_fa R (cz (fun q => if q = g then 0 else 99) R.fa i)) o, k, z) Q
  | 0, i, hj => by
    obtain rfl : i = 343 := by omega
    refine wz_iload_n (p9 := 3) rfl rfl rfl ?_
    refine wz_sipush (x := nI 343) (p9 := 6) rfl rfl (by decide) ?_
    refine wn_icge (t9 := 32) (p9 := 9) rfl rfl rfl (by omega) (by omega) (fun _ => ?_) (fun h9 => by omega)
    exact kk
  | j + 1, i, hj => by
    refine wz_iload_n (p9 := 3) rfl rfl rfl ?_
    refine wz_sipush (x := nI 343) (p9 := 6) rfl rfl (by decide) ?_
    refine wn_icge (t9 := 32) (p9 := 9) rfl rfl rfl (by omega) (by omega) (fun h9 => by omega) (fun _ => ?_)
    refine wz_aload_n (p9 := 10) rfl rfl rfl ?_
    refine wz_get (v := .ref 44) (p9 := 13) rfl rfl rfl rfl rfl ?_
    refine wz_iload_n (p9 := 14) rfl rfl rfl ?_
    refine wz_iload_n (p9 := 15) rfl rfl rfl ?_
    refine wz_iload_n (p9 := 16) rfl rfl rfl ?_
    refine wn_icne (t9 := 23) (p9 := 19) rfl rfl rfl (by omega) (by omega) (fun h16 => ?_) (fun h16 => ?_)
    · refine wz_bipush (x := nI 99) (p9 := 25) rfl rfl (by decide) ?_
      refine ws_Rfa (f := cz (fun q => if q = g then 0 else 99) R.fa i) (p9 := 26) rfl rfl rfl (by omega) (R1 := (RA.s_fa R (un (cz (fun q => if q = g then 0 else 99) R.fa i) i 99))) rfl ?_
      refine wn_inc (b := 1) (l9 := [.ref 26, .int (nI g), .int (nI N), .int (nI (i + 1)), .retAddr 0, .retAddr 0, .retAddr 0, .retAddr 0]) (p9 := 29) rfl rfl rfl (by decide) rfl ?_
      refine wz_goto (p9 := 2) rfl rfl ?_
      rw [show un (cz (fun q => if q = g then 0 else 99) R.fa i) i 99 = cz (fun q => if q = g then 0 else 99) R.fa (i + 1) by rw [← cz_s (f := (fun q => if q = g then 0 else 99))]; congr 1; exact (if_neg h16).symm]
      exact l_ms0 hg kk j (i + 1) (by omega)
    · refine wz_iconst (x := nI 0) (p9 := 20) rfl rfl (by decide) ?_
      refine wz_goto (p9 := 25) rfl rfl ?_
      refine ws_Rfa (f := cz (fun q => if q = g then 0 else 99) R.fa i) (p9 := 26) rfl rfl rfl (by omega) (R1 := (RA.s_fa R (un (cz (fun q => if q = g then 0 else 99) R.fa i) i 0))) rfl ?_
      refine wn_inc (b := 1) (l9 := [.ref 26, .int (nI g), .int (nI N), .int (nI (i + 1)), .retAddr 0, .retAddr 0, .retAddr 0, .retAddr 0]) (p9 := 29) rfl rfl rfl (by decide) rfl ?_
      refine wz_goto (p9 := 2) rfl rfl ?_
      rw [show un (cz (fun q => if q = g then 0 else 99) R.fa i) i 0 = cz (fun q => if q = g then 0 else 99) R.fa (i + 1) by rw [← cz_s (f := (fun q => if q = g then 0 else 99))]; congr 1; exact (if_pos h16).symm]
      exact l_ms0 hg kk j (i + 1) (by omega)
/-- the marks of a triple in a round, by the rows done -/
def HF (P : Nat) (t : Nat → Nat) (k r : Nat) (D : Nat → Nat → Prop) (f F : Nat → Nat) : Prop := (F = un f k (r + 1) ∧ ∃ m s, D m s ∧ f (st7 t k m s) = r) ∨ (F = f ∧ ∀ m s, D m s → f (st7 t k m s) ≠ r)
theorem HF_at {P k r : Nat} {t f F : Nat → Nat} {D : Nat → Nat → Prop} (h : HF P t k r D f F) (hk : f k = 99) (hr : r < 50) (y : Nat) : F y = r ↔ f y = r := by
  rcases h with ⟨h, _⟩ | ⟨h, _⟩
  · rw [h]
    by_cases c : y = k
    · rw [c, un_at, hk]; omega
    · rw [un_ne c]
  · rw [h]
theorem HF_b {P k r : Nat} {t f F : Nat → Nat} {D : Nat → Nat → Prop} (h : HF P t k r D f F) (hr : r < 50) (hb : ∀ q, q < 343 → f q < 100) (y : Nat) (hy : y < 343) : F y < 100 := by
  rcases h with ⟨h, _⟩ | ⟨h, _⟩
  · rw [h]
    by_cases c : y = k
    · rw [c, un_at]; omega
    · rw [un_ne c]; exact hb y hy
  · rw [h]; exact hb y hy
theorem un_un {f : Nat → Nat} {i v w : Nat} : un (un f i v) i w = un f i w := by
  funext q
  by_cases c : q = i
  · rw [c, un_at, un_at]
  · rw [un_ne c, un_ne c, un_ne c]
theorem HF_hit {P k r m s : Nat} {t f F : Nat → Nat} {D D2 : Nat → Nat → Prop} (h : HF P t k r D f F) (hh : f (st7 t k m s) = r) (hD : ∀ m2 s2, D2 m2 s2 ↔ D m2 s2 ∨ (m2 = m ∧ s2 = s)) : HF P t k r D2 f (un F k (r + 1)) := by
  refine Or.inl ⟨?_, m, s, (hD m s).mpr (Or.inr ⟨rfl, rfl⟩), hh⟩
  rcases h with ⟨h, _⟩ | ⟨h, _⟩
  · rw [h, un_un]
  · rw [h]
theorem HF_no {P k r m s : Nat} {t f F : Nat → Nat} {D D2 : Nat → Nat → Prop} (h : HF P t k r D f F) (hh : f (st7 t k m s) ≠ r) (hD : ∀ m2 s2, D2 m2 s2 ↔ D m2 s2 ∨ (m2 = m ∧ s2 = s)) : HF P t k r D2 f F := by
  rcases h with ⟨h, m3, s3, h3, h4⟩ | ⟨h, h2⟩
  · exact Or.inl ⟨h, m3, s3, (hD _ _).mpr (Or.inl h3), h4⟩
  · refine Or.inr ⟨h, fun m2 s2 h9 => ?_⟩
    rcases (hD m2 s2).mp h9 with q | ⟨q1, q2⟩
    · exact h2 m2 s2 q
    · rw [q1, q2]; exact hh
theorem HF_eq {P k r : Nat} {t f F : Nat → Nat} {D D2 : Nat → Nat → Prop} (h : HF P t k r D f F) (hD : ∀ m2 s2, D2 m2 s2 ↔ D m2 s2) : HF P t k r D2 f F := by
  rcases h with ⟨h, m3, s3, h3, h4⟩ | ⟨h, h2⟩
  · exact Or.inl ⟨h, m3, s3, (hD _ _).mpr h3, h4⟩
  · exact Or.inr ⟨h, fun m2 s2 h9 => h2 m2 s2 ((hD m2 s2).mp h9)⟩
/-- rows before (m, s) -/
def DB (od : Nat → Nat) (m s m2 s2 : Nat) : Prop := 1 ≤ s2 ∧ s2 < od m2 ∧ (m2 < m ∨ (m2 = m ∧ s2 < s))
theorem DB_s {od : Nat → Nat} {m s : Nat} (h1 : 1 ≤ s) (h2 : s < od m) : ∀ m2 s2, DB od m (s + 1) m2 s2 ↔ DB od m s m2 s2 ∨ (m2 = m ∧ s2 = s) := by
  intro m2 s2
  unfold DB
  constructor
  · intro h
    by_cases c : m2 = m ∧ s2 = s
    · exact Or.inr c
    · exact Or.inl (by omega)
  · intro h
    rcases h with h | ⟨rfl, rfl⟩
    · omega
    · omega
theorem DB_m {od : Nat → Nat} {m : Nat} : ∀ m2 s2, DB od (m + 1) 1 m2 s2 ↔ DB od m (od m) m2 s2 := by
  intro m2 s2
  unfold DB
  by_cases c : m2 = m
  · subst c; omega
  · omega
theorem l_ms1 {X : Nat × (Nat → Int32)} {d : Nat} {A : CA} {R : RA} {o : Nat → Int64} {od : Nat → Nat} (T : TV R.P R.Mv R.t od) {g N x m r : Nat} (hok : ok7 R.P x) (hm : m < 6) (hr : r < 50) {f : Nat → Nat} (hk : f x = 99) (hb : ∀ q, q < 343 → f q < 100) (hg : g < 343) (hN : N ≤ 9) {k z : Nat} {Q : px_Z → Prop} : ∀ (j s : Nat) (F : Nat → Nat), s + j = od m → 1 ≤ s → HF R.P R.t x r (DB od m s) f F → (∀ F, HF R.P R.t x r (DB od m (od m)) f F → wp X (d + 3) 148 (169, [.ref 26, .int (nI g), .int (nI N), .int (nI (r + 1)), .int (nI x), .int (nI m), .int (nI (od m)), .int (nI (od m))], [], WW A (RA.s_fa R F) o, k, z) Q) → wp X (d + 3) 148 (127, [.ref 26, .int (nI g), .int (nI N), .int (nI (r + 1)), .int (nI x), .int (nI m), .int (nI (od m)), .int (nI s)], [], WW A (RA.s_fa R F) o, k, z) Q
  | 0, s, F, hj, hs1, h, kk => by
    have h12 := (T.ho m hm).2.1
    obtain rfl : s = od m := by omega
    refine wz_iload (p9 := 129) rfl rfl rfl ?_
    refine wz_iload (p9 := 131) rfl rfl rfl ?_
    refine wn_icge (t9 := 169) (p9 := 134) rfl rfl rfl (by omega) (by omega) (fun _ => ?_) (fun h9 => by omega)
    exact kk F h
  | j + 1, s, F, hj, hs1, h, kk => by
    have h12 := (T.ho m hm).2.1
    have p7 := T.p7
    have hF9 := HF_b h hr hb (st7 R.t x m s) (ok7_lt p7 (st7_ok p7 (T.ht m) hok))
    have hx3 := ok7_lt p7 hok
    refine wz_iload (p9 := 129) rfl rfl rfl ?_
    refine wz_iload (p9 := 131) rfl rfl rfl ?_
    refine wn_icge (t9 := 169) (p9 := 134) rfl rfl rfl (by omega) (by omega) (fun h9 => by omega) (fun _ => ?_)
    refine wz_aload_n (p9 := 135) rfl rfl rfl ?_
    refine wz_get (v := .ref 44) (p9 := 138) rfl rfl rfl rfl rfl ?_
    refine wz_aload_n (p9 := 139) rfl rfl rfl ?_
    refine wz_iload (p9 := 141) rfl rfl rfl ?_
    refine wz_iload (p9 := 143) rfl rfl rfl ?_
    refine wz_iload (p9 := 145) rfl rfl rfl ?_
    refine wz_c1 (p9 := 148) (w1 := WW A (RA.s_fa R F) o) (u := .int (nI (st7 R.t x m s))) (wa_v (N := 149) (i := 26) (As := [.int (nI x), .int (nI m), .int (nI s)]) (rest := [.ref 44]) rfl rfl rfl rfl rfl rfl rfl) rfl ((g_seats (d := 0) (A := A) (R := (RA.s_fa R F)) T hok (by omega) (by omega)).up (by omega)) ?_
    refine wl_Rfa (f := F) (p9 := 149) rfl rfl rfl (ok7_lt p7 (st7_ok p7 (T.ht m) hok)) ?_
    refine wz_iload_n (p9 := 150) rfl rfl rfl ?_
    refine wz_iconst (x := nI 1) (p9 := 151) rfl rfl (by decide) ?_
    refine wn_sub (p9 := 152) rfl rfl (by omega) ?_
    refine wn_icne (t9 := 163) (p9 := 155) rfl rfl rfl (by omega) (by omega) (fun h152 => ?_) (fun h152 => ?_)
    · refine wn_inc (b := 1) (l9 := [.ref 26, .int (nI g), .int (nI N), .int (nI (r + 1)), .int (nI x), .int (nI m), .int (nI (od m)), .int (nI (s + 1))]) (p9 := 166) rfl rfl rfl (by decide) rfl ?_
      refine wz_goto (p9 := 127) rfl rfl ?_
      exact l_ms1 T hok hm hr hk hb hg hN j (s + 1) F (by omega) (by omega) (HF_no h (fun q => h152 (by rw [(HF_at h hk hr _).mpr q]; omega)) (DB_s hs1 (by omega))) kk
    · refine wz_aload_n (p9 := 156) rfl rfl rfl ?_
      refine wz_get (v := .ref 44) (p9 := 159) rfl rfl rfl rfl rfl ?_
      refine wz_iload (p9 := 161) rfl rfl rfl ?_
      refine wz_iload_n (p9 := 162) rfl rfl rfl ?_
      refine ws_Rfa (f := F) (p9 := 163) rfl rfl rfl (by omega) (R1 := (RA.s_fa R (un F x (r + 1)))) rfl ?_
      refine wn_inc (b := 1) (l9 := [.ref 26, .int (nI g), .int (nI N), .int (nI (r + 1)), .int (nI x), .int (nI m), .int (nI (od m)), .int (nI (s + 1))]) (p9 := 166) rfl rfl rfl (by decide) rfl ?_
      refine wz_goto (p9 := 127) rfl rfl ?_
      exact l_ms1 T hok hm hr hk hb hg hN j (s + 1) _ (by omega) (by omega) (HF_hit h ((HF_at h hk hr _).mp (by omega)) (DB_s hs1 (by omega))) kk
theorem l_ms2 {X : Nat × (Nat → Int32)} {d : Nat} {A : CA} {R : RA} {o : Nat → Int64} {od : Nat → Nat} (T : TV R.P R.Mv R.t od) {g N x r : Nat} (hok : ok7 R.P x) (hr : r < 50) {f : Nat → Nat} (hk : f x = 99) (hb : ∀ q, q < 343 → f q < 100) (hg : g < 343) (hN : N ≤ 9) {k z : Nat} {Q : px_Z → Prop} : ∀ (j m : Nat) (F : Nat → Nat), m + j = R.Mv → HF R.P R.t x r (DB od m 1) f F → (∀ F, HF R.P R.t x r (DB od R.Mv 1) f F → ∀ v6 v7, wp X (d + 3) 148 (175, [.ref 26, .int (nI g), .int (nI N), .int (nI (r + 1)), .int (nI x), .int (nI R.Mv), v6, v7], [], WW A (RA.s_fa R F) o, k, z) Q) → ∀ v6 v7, wp X (d + 3) 148 (107, [.ref 26, .int (nI g), .int (nI N), .int (nI (r + 1)), .int (nI x), .int (nI m), v6, v7], [], WW A (RA.s_fa R F) o, k, z) Q
  | 0, m, F, hj, h, kk => by
    intro v6 v7
    have m6 := T.m6
    obtain rfl : m = R.Mv := by omega
    refine wz_iload (p9 := 109) rfl rfl rfl ?_
    refine wz_aload_n (p9 := 110) rfl rfl rfl ?_
    refine wz_get (v := .int (nI R.Mv)) (p9 := 113) rfl rfl rfl rfl rfl ?_
    refine wn_icge (t9 := 175) (p9 := 116) rfl rfl rfl (by omega) (by omega) (fun _ => ?_) (fun h9 => by omega)
    exact kk F h v6 v7
  | j + 1, m, F, hj, h, kk => by
    intro v6 v7
    have m6 := T.m6
    have h1o := (T.ho m (by omega)).1
    refine wz_iload (p9 := 109) rfl rfl rfl ?_
    refine wz_aload_n (p9 := 110) rfl rfl rfl ?_
    refine wz_get (v := .int (nI R.Mv)) (p9 := 113) rfl rfl rfl rfl rfl ?_
    refine wn_icge (t9 := 175) (p9 := 116) rfl rfl rfl (by omega) (by omega) (fun h9 => by omega) (fun _ => ?_)
    refine wz_aload_n (p9 := 117) rfl rfl rfl ?_
    refine wz_iload (p9 := 119) rfl rfl rfl ?_
    refine wz_c1 (p9 := 122) (w1 := WW A (RA.s_fa R F) o) (u := .int (nI (od m))) (wa_v (N := 103) (i := 26) (As := [.int (nI m)]) (rest := []) rfl rfl rfl rfl rfl rfl rfl) rfl ((g_mOrder (d := 0) (A := A) (R := (RA.s_fa R F)) T (by omega)).up (by omega)) ?_
    refine wz_istore (l9 := [.ref 26, .int (nI g), .int (nI N), .int (nI (r + 1)), .int (nI x), .int (nI m), .int (nI (od m)), v7]) (p9 := 124) rfl rfl rfl rfl ?_
    refine wz_iconst (x := nI 1) (p9 := 125) rfl rfl (by decide) ?_
    refine wz_istore (l9 := [.ref 26, .int (nI g), .int (nI N), .int (nI (r + 1)), .int (nI x), .int (nI m), .int (nI (od m)), .int (nI 1)]) (p9 := 127) rfl rfl rfl rfl ?_
    refine l_ms1 T hok (by omega) hr hk hb hg hN (od m - 1) 1 F (by omega) (by omega) h (fun F2 h2 => ?_)
    · skip
      refine wn_inc (b := 1) (l9 := [.ref 26, .int (nI g), .int (nI N), .int (nI (r + 1)), .int (nI x), .int (nI (m + 1)), .int (nI (od m)), .int (nI (od m))]) (p9 := 172) rfl rfl rfl (by decide) rfl ?_
      refine wz_goto (p9 := 107) rfl rfl ?_
      exact l_ms2 T hok hr hk hb hg hN j (m + 1) F2 (by omega) (HF_eq h2 DB_m) kk _ _
/-- triples that get their number in this round -/
def CQ (P Mv : Nat) (t od f : Nat → Nat) (r q : Nat) : Prop := ok7 P q ∧ f q = 99 ∧ ∃ m s, m < Mv ∧ 1 ≤ s ∧ s < od m ∧ f (st7 t q m s) = r
def KQ (P Mv : Nat) (t od f0 : Nat → Nat) (r i : Nat) (f : Nat → Nat) : Prop := ∀ q, (CQ P Mv t od f0 r q ∧ q < i → f q = r + 1) ∧ (¬ (CQ P Mv t od f0 r q ∧ q < i) → f q = f0 q)
theorem KQ_at {P Mv r i : Nat} {t od f0 f : Nat → Nat} (h : KQ P Mv t od f0 r i f) (hr : r < 50) (y : Nat) : f y = r ↔ f0 y = r := by
  by_cases c : CQ P Mv t od f0 r y ∧ y < i
  · rw [(h y).1 c, c.1.2.1]; omega
  · rw [(h y).2 c]
theorem KQ_b {P Mv r i : Nat} {t od f0 f : Nat → Nat} (h : KQ P Mv t od f0 r i f) (hr : r < 50) (hb : ∀ q, q < 343 → f0 q < 100) (y : Nat) (hy : y < 343) : f y < 100 := by
  by_cases c : CQ P Mv t od f0 r y ∧ y < i
  · rw [(h y).1 c]; omega
  · rw [(h y).2 c]; exact hb y hy
theorem KQ_i {P Mv r i : Nat} {t od f0 f : Nat → Nat} (h : KQ P Mv t od f0 r i f) : f i = f0 i := (h i).2 (fun q => absurd q.2 (Nat.lt_irrefl _))
theorem KQ_no {P Mv r i : Nat} {t od f0 f : Nat → Nat} (h : KQ P Mv t od f0 r i f) (hc : ¬ CQ P Mv t od f0 r i) : KQ P Mv t od f0 r (i + 1) f := by
  intro q
  refine ⟨fun c => ?_, fun c => ?_⟩
  · by_cases e : q = i
    · rw [e] at c; exact absurd c.1 hc
    · exact (h q).1 ⟨c.1, by omega⟩
  · exact (h q).2 (fun c2 => c ⟨c2.1, by omega⟩)
theorem KQ_s {P Mv r i : Nat} {t od f0 f F : Nat → Nat} (h : KQ P Mv t od f0 r i f) (hr : r < 50) (hok : ok7 P i) (h9 : f0 i = 99) (hF : HF P t i r (DB od Mv 1) f F) : KQ P Mv t od f0 r (i + 1) F := by
  rcases hF with ⟨e, m, s, hD, hh⟩ | ⟨e, hno⟩
  · have hC : CQ P Mv t od f0 r i := ⟨hok, h9, m, s, by unfold DB at hD; omega, hD.1, hD.2.1, (KQ_at h hr _).mp hh⟩
    intro q
    rw [e]
    refine ⟨fun c => ?_, fun c => ?_⟩
    · by_cases e2 : q = i
      · rw [e2, un_at]
      · rw [un_ne e2]; exact (h q).1 ⟨c.1, by omega⟩
    · have e2 : q ≠ i := fun e2 => c ⟨by rw [e2]; exact hC, by omega⟩
      rw [un_ne e2]
      exact (h q).2 (fun c2 => c ⟨c2.1, by omega⟩)
  · rw [e]
    refine KQ_no h (fun hC => ?_)
    obtain ⟨_, _, m, s, h1, h2, h3, h4⟩ := hC
    exact hno m s ⟨h2, h3, Or.inl h1⟩ ((KQ_at h hr _).mpr h4)
theorem l_ms3 {X : Nat × (Nat → Int32)} {d : Nat} {A : CA} {R : RA} {o : Nat → Int64} {od : Nat → Nat} (T : TV R.P R.Mv R.t od) {g N r : Nat} (hr : r < 50) {f0 : Nat → Nat} (hb : ∀ q, q < 343 → f0 q < 100) (hg : g < 343) (hN : N ≤ 9) {k z : Nat} {Q : px_Z → Prop} : ∀ (j i : Nat) (f : Nat → Nat), i + j = 343 → KQ R.P R.Mv R.t od f0 r i f → (∀ f, KQ R.P R.Mv R.t od f0 r 343 f → ∀ v5 v6 v7, wp X (d + 3) 148 (181, [.ref 26, .int (nI g), .int (nI N), .int (nI (r + 1)), .int (nI 343), v5, v6, v7], [], WW A (RA.s_fa R f) o, k, z) Q) → ∀ v5 v6 v7, wp X (d + 3) 148 (42, [.ref 26, .int (nI g), .int (nI N), .int (nI (r + 1)), .int (nI i), v5, v6, v7], [], WW A (RA.s_fa R f) o, k, z) Q
  | 0, i, f, hj, h, kk => by
    intro v5 v6 v7
    obtain rfl : i = 343 := by omega
    refine wz_iload (p9 := 44) rfl rfl rfl ?_
    refine wz_sipush (x := nI 343) (p9 := 47) rfl rfl (by decide) ?_
    refine wn_icge (t9 := 181) (p9 := 50) rfl rfl rfl (by omega) (by omega) (fun _ => ?_) (fun h9 => by omega)
    exact kk f h v5 v6 v7
  | j + 1, i, f, hj, h, kk => by
    intro v5 v6 v7
    have p7 := T.p7
    have m6 := T.m6
    have hki := KQ_i h
    have hb9 := hb i (by omega)
    refine wz_iload (p9 := 44) rfl rfl rfl ?_
    refine wz_sipush (x := nI 343) (p9 := 47) rfl rfl (by decide) ?_
    refine wn_icge (t9 := 181) (p9 := 50) rfl rfl rfl (by omega) (by omega) (fun h9 => by omega) (fun _ => ?_)
    refine wz_aload_n (p9 := 51) rfl rfl rfl ?_
    refine wz_get (v := .ref 44) (p9 := 54) rfl rfl rfl rfl rfl ?_
    refine wz_iload (p9 := 56) rfl rfl rfl ?_
    refine wl_Rfa (f := f) (p9 := 57) rfl rfl rfl (by omega) ?_
    refine wz_bipush (x := nI 99) (p9 := 59) rfl rfl (by decide) ?_
    refine wn_icne (t9 := 175) (p9 := 62) rfl rfl rfl (by omega) (by omega) (fun h59 => ?_) (fun h59 => ?_)
    · refine wn_inc (b := 1) (l9 := [.ref 26, .int (nI g), .int (nI N), .int (nI (r + 1)), .int (nI (i + 1)), v5, v6, v7]) (p9 := 178) rfl rfl rfl (by decide) rfl ?_
      refine wz_goto (p9 := 42) rfl rfl ?_
      exact l_ms3 T hr hb hg hN j (i + 1) f (by omega) (KQ_no h (fun hC => by have u1 := hC.1; have u2 := hC.2.1; unfold ok7 at u1; omega)) kk _ _ _
    · refine wz_iload (p9 := 64) rfl rfl rfl ?_
      refine wz_bipush (x := nI 7) (p9 := 66) rfl rfl (by decide) ?_
      refine wn_rem (p9 := 67) rfl rfl (by omega) (by omega) (by omega) ?_
      refine wz_aload_n (p9 := 68) rfl rfl rfl ?_
      refine wz_get (v := .int (nI R.P)) (p9 := 71) rfl rfl rfl rfl rfl ?_
      refine wn_icge (t9 := 175) (p9 := 74) rfl rfl rfl (by omega) (by omega) (fun h71 => ?_) (fun h71 => ?_)
      · refine wn_inc (b := 1) (l9 := [.ref 26, .int (nI g), .int (nI N), .int (nI (r + 1)), .int (nI (i + 1)), v5, v6, v7]) (p9 := 178) rfl rfl rfl (by decide) rfl ?_
        refine wz_goto (p9 := 42) rfl rfl ?_
        exact l_ms3 T hr hb hg hN j (i + 1) f (by omega) (KQ_no h (fun hC => by have u1 := hC.1; have u2 := hC.2.1; unfold ok7 at u1; omega)) kk _ _ _
      · refine wz_iload (p9 := 76) rfl rfl rfl ?_
        refine wz_bipush (x := nI 7) (p9 := 78) rfl rfl (by decide) ?_
        refine wn_div (p9 := 79) rfl rfl (by omega) (by omega) (by omega) ?_
        refine wz_bipush (x := nI 7) (p9 := 81) rfl rfl (by decide) ?_
        refine wn_rem (p9 := 82) rfl rfl (by omega) (by omega) (by omega) ?_
        refine wz_aload_n (p9 := 83) rfl rfl rfl ?_
        refine wz_get (v := .int (nI R.P)) (p9 := 86) rfl rfl rfl rfl rfl ?_
        refine wn_icge (t9 := 175) (p9 := 89) rfl rfl rfl (by omega) (by omega) (fun h86 => ?_) (fun h86 => ?_)
        · refine wn_inc (b := 1) (l9 := [.ref 26, .int (nI g), .int (nI N), .int (nI (r + 1)), .int (nI (i + 1)), v5, v6, v7]) (p9 := 178) rfl rfl rfl (by decide) rfl ?_
          refine wz_goto (p9 := 42) rfl rfl ?_
          exact l_ms3 T hr hb hg hN j (i + 1) f (by omega) (KQ_no h (fun hC => by have u1 := hC.1; have u2 := hC.2.1; unfold ok7 at u1; omega)) kk _ _ _
        · refine wz_iload (p9 := 91) rfl rfl rfl ?_
          refine wz_bipush (x := nI 49) (p9 := 93) rfl rfl (by decide) ?_
          refine wn_div (p9 := 94) rfl rfl (by omega) (by omega) (by omega) ?_
          refine wz_aload_n (p9 := 95) rfl rfl rfl ?_
          refine wz_get (v := .int (nI R.P)) (p9 := 98) rfl rfl rfl rfl rfl ?_
          refine wn_iclt (t9 := 104) (p9 := 101) rfl rfl rfl (by omega) (by omega) (fun h98 => ?_) (fun h98 => ?_)
          · refine wz_iconst (x := nI 0) (p9 := 105) rfl rfl (by decide) ?_
            refine wz_istore (l9 := [.ref 26, .int (nI g), .int (nI N), .int (nI (r + 1)), .int (nI i), .int (nI 0), v6, v7]) (p9 := 107) rfl rfl rfl rfl ?_
            have hok : ok7 R.P i := by unfold ok7; omega
            refine l_ms2 T hok hr (show f i = 99 by omega) (fun q hq => KQ_b h hr hb q hq) hg hN R.Mv 0 f (by omega) (Or.inr ⟨rfl, fun m s hD => absurd hD (by unfold DB; omega)⟩) (fun F hF v8 v9 => ?_) _ _
            refine wn_inc (b := 1) (l9 := [.ref 26, .int (nI g), .int (nI N), .int (nI (r + 1)), .int (nI (i + 1)), .int (nI R.Mv), v8, v9]) (p9 := 178) rfl rfl rfl (by decide) rfl ?_
            refine wz_goto (p9 := 42) rfl rfl ?_
            exact l_ms3 T hr hb hg hN j (i + 1) F (by omega) (KQ_s h hr hok (by omega) hF) kk _ _ _
          · refine wz_goto (p9 := 175) rfl rfl ?_
            refine wn_inc (b := 1) (l9 := [.ref 26, .int (nI g), .int (nI N), .int (nI (r + 1)), .int (nI (i + 1)), v5, v6, v7]) (p9 := 178) rfl rfl rfl (by decide) rfl ?_
            refine wz_goto (p9 := 42) rfl rfl ?_
            exact l_ms3 T hr hb hg hN j (i + 1) f (by omega) (KQ_no h (fun hC => by have u1 := hC.1; have u2 := hC.2.1; unfold ok7 at u1; omega)) kk _ _ _
theorem l_ms4 {X : Nat × (Nat → Int32)} {d : Nat} {A : CA} {R : RA} {o : Nat → Int64} {od : Nat → Nat} (T : TV R.P R.Mv R.t od) {g N : Nat} (hg : g < 343) (hN : N ≤ 9) {k z : Nat} {Q : px_Z → Prop} (kk : ∀ f, FR R.P (wc7 R.t od R.Mv g) N f → (∀ q, q < 343 → f q < 100) → Q (some none, WW A (RA.s_fa R f) o, k, z)) : ∀ (j r : Nat) (f : Nat → Nat), r + j = N → FR R.P (wc7 R.t od R.Mv g) r f → (∀ q, q < 343 → f q < 100) → ∀ v4 v5 v6 v7, wp X (d + 3) 148 (34, [.ref 26, .int (nI g), .int (nI N), .int (nI (r + 1)), v4, v5, v6, v7], [], WW A (RA.s_fa R f) o, k, z) Q
  | 0, r, f, hj, h, hb => by
    intro v4 v5 v6 v7
    obtain rfl : r = N := by omega
    refine wz_iload_n (p9 := 35) rfl rfl rfl ?_
    refine wz_iload_n (p9 := 36) rfl rfl rfl ?_
    refine wn_icgt (t9 := 187) (p9 := 39) rfl rfl rfl (by omega) (by omega) (fun _ => ?_) (fun h9 => by omega)
    exact wz_retv rfl rfl (kk f h hb)
  | j + 1, r, f, hj, h, hb => by
    intro v4 v5 v6 v7
    refine wz_iload_n (p9 := 35) rfl rfl rfl ?_
    refine wz_iload_n (p9 := 36) rfl rfl rfl ?_
    refine wn_icgt (t9 := 187) (p9 := 39) rfl rfl rfl (by omega) (by omega) (fun h9 => by omega) (fun _ => ?_)
    refine wz_iconst (x := nI 0) (p9 := 40) rfl rfl (by decide) ?_
    refine wz_istore (l9 := [.ref 26, .int (nI g), .int (nI N), .int (nI (r + 1)), .int (nI 0), v5, v6, v7]) (p9 := 42) rfl rfl rfl rfl ?_
    refine l_ms3 T (by omega) hb hg hN 343 0 f (by omega) (fun q => ⟨fun c => absurd c.2 (by omega), fun _ => rfl⟩) (fun f2 h2 u5 u6 u7 => ?_) _ _ _
    · skip
      refine wn_inc (b := 1) (l9 := [.ref 26, .int (nI g), .int (nI N), .int (nI ((r + 1) + 1)), .int (nI 343), u5, u6, u7]) (p9 := 184) rfl rfl rfl (by decide) rfl ?_
      refine wz_goto (p9 := 34) rfl rfl ?_
      refine l_ms4 T hg hN kk j (r + 1) f2 (by omega) (FR_s T (by omega) h (fun q hq c => (h2 q).1 ⟨⟨hq, c⟩, ok7_lt T.p7 hq⟩) (fun q hq c => (h2 q).2 (fun c2 => c c2.1.2))) (fun q hq => KQ_b h2 (by omega) hb q hq) _ _ _ _
theorem g_measure {X : Nat × (Nat → Int32)} {d : Nat} {A : CA} {R : RA} {o : Nat → Int64} {od : Nat → Nat} (T : TV R.P R.Mv R.t od) {g N : Nat} (hg : ok7 R.P g) (hN : N ≤ 9) : ∃ f, FR R.P (wc7 R.t od R.Mv g) N f ∧ (∀ q, q < 343 → f q < 100) ∧ px_ev X (d + 4) 148 [.ref 26, .int (nI g), .int (nI N)] (WW A R o) (some none, WW A (RA.s_fa R f) o, 0, 0) := by
  have hg3 := ok7_lt T.p7 hg
  have h0 : wp X (d + 3) 148 (0, [.ref 26, .int (nI g), .int (nI N), .retAddr 0, .retAddr 0, .retAddr 0, .retAddr 0, .retAddr 0], [], WW A R o, 0, 0) (fun q => ∃ f, FR R.P (wc7 R.t od R.Mv g) N f ∧ (∀ q, q < 343 → f q < 100) ∧ q = (some none, WW A (RA.s_fa R f) o, 0, 0)) := by
    refine wz_iconst (x := nI 0) (p9 := 1) rfl rfl (by decide) ?_
    refine wz_istore_n (l9 := [.ref 26, .int (nI g), .int (nI N), .int (nI 0), .retAddr 0, .retAddr 0, .retAddr 0, .retAddr 0]) (p9 := 2) rfl rfl rfl rfl ?_
    have h9 := l_ms0 (X := X) (d := d + 3) (A := A) (R := R) (o := o) (g := g) (N := N) hg3 (k := 0) (z := 0) (Q := fun q => ∃ f, FR R.P (wc7 R.t od R.Mv g) N f ∧ (∀ q, q < 343 → f q < 100) ∧ q = (some none, WW A (RA.s_fa R f) o, 0, 0)) ?_ 343 0 (by omega)
    · rw [cz_0] at h9
      exact h9
    · skip
      refine wz_iconst (x := nI 1) (p9 := 33) rfl rfl (by decide) ?_
      refine wz_istore_n (l9 := [.ref 26, .int (nI g), .int (nI N), .int (nI 1), .retAddr 0, .retAddr 0, .retAddr 0, .retAddr 0]) (p9 := 34) rfl rfl rfl rfl ?_
      refine l_ms4 T hg3 hN (fun f h1 h2 => ⟨f, h1, h2, rfl⟩) N 0 _ (by omega) (FR_0 (g := g) (fun k => Iff.rfl) (by unfold cz; rw [if_pos hg3]; exact if_pos rfl) (fun k hk hne => by unfold cz; rw [if_pos hk]; exact if_neg hne) T.p7) (fun q hq => by unfold cz; rw [if_pos hq]; show (if q = g then 0 else 99) < 100; split <;> decide) _ _ _ _
  obtain ⟨r9, hr, f, h1, h2, rfl⟩ := h0
  exact ⟨f, h1, h2, wp_ev (d := d + 3) (by decide) rfl rfl (fun h => by cases h) ⟨_, hr, rfl⟩⟩
