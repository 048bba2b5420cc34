/-! CONTRACTS OF METHODS WITHOUT LOOPS, written by wip/whole/gen/mk60.py -/
theorem e_placeCount {X : Nat × (Nat → Int32)} {d : Nat} {n : Nat} {c : Nat → px_E} (hn : ∀ i, i < 4 → i < n) {P Mv : Int32} (hT : c 1 = .inr (.inr (0, [.int P, .int Mv, .ref 2, .ref 3]))) : px_ev X (d + 1) 1 [.ref 1] (wl n c) (some (some (.int P)), wl n c, 0, 0) := by
  refine px_ev.of (d := d + 0) (by decide) rfl rfl (fun h => by cases h) ?_
  show px_to X (d + 0) 1 (0, [.ref 1], [], wl n c, 0, 0) _
  refine tz_aload_n (p9 := 1) rfl rfl rfl ?_
  refine tz_get (ci := 0) (f := 0) (v := .int P) (p9 := 4) rfl rfl rfl (hn 1 (by decide)) hT rfl ?_
  exact tz_reti rfl rfl
theorem e_moveCount {X : Nat × (Nat → Int32)} {d : Nat} {n : Nat} {c : Nat → px_E} (hn : ∀ i, i < 4 → i < n) {P Mv : Int32} (hT : c 1 = .inr (.inr (0, [.int P, .int Mv, .ref 2, .ref 3]))) : px_ev X (d + 1) 7 [.ref 1] (wl n c) (some (some (.int Mv)), wl n c, 0, 0) := by
  refine px_ev.of (d := d + 0) (by decide) rfl rfl (fun h => by cases h) ?_
  show px_to X (d + 0) 7 (0, [.ref 1], [], wl n c, 0, 0) _
  refine tz_aload_n (p9 := 1) rfl rfl rfl ?_
  refine tz_get (ci := 0) (f := 1) (v := .int Mv) (p9 := 4) rfl rfl rfl (hn 1 (by decide)) hT rfl ?_
  exact tz_reti rfl rfl
theorem e_orderOf {X : Nat × (Nat → Int32)} {d : Nat} {n : Nat} {c : Nat → px_E} (hn : ∀ i, i < 47 → i < n) {P Mv : Int32} (hT : c 1 = .inr (.inr (0, [.int P, .int Mv, .ref 2, .ref 3]))) {o : Nat → Int32} (hO : c 3 = .inl (0, 6, o)) {m : Int32} (hm : px_in m 6 = true) : px_ev X (d + 1) 2 [.ref 1, .int m] (wl n c) (some (some (.int (o m.toNatClampNeg))), wl n c, 0, 0) := by
  refine px_ev.of (d := d + 0) (by decide) rfl rfl (fun h => by cases h) ?_
  show px_to X (d + 0) 2 (0, [.ref 1, .int m], [], wl n c, 0, 0) _
  refine tz_aload_n (p9 := 1) rfl rfl rfl ?_
  refine tz_get (ci := 0) (f := 3) (v := .ref 3) (p9 := 4) rfl rfl rfl (hn 1 (by decide)) hT rfl ?_
  refine tz_iload_n (p9 := 5) rfl rfl rfl ?_
  refine tz_iald (v := (o m.toNatClampNeg)) (p9 := 6) rfl rfl (hn 3 (by decide)) hO hm rfl ?_
  exact tz_reti rfl rfl
theorem e_goalOf {X : Nat × (Nat → Int32)} {d : Nat} {n : Nat} {c : Nat → px_E} (hn : ∀ i, i < 47 → i < n) {P Mv : Int32} (hT : c 1 = .inr (.inr (0, [.int P, .int Mv, .ref 2, .ref 3]))) {g : Nat → Int32} (hG : c 2 = .inl (0, 42, g)) {m p : Int32} (hm : px_in (m * 7 + p) 42 = true) : px_ev X (d + 1) 5 [.ref 1, .int m, .int p] (wl n c) (some (some (.int (g (m * 7 + p).toNatClampNeg))), wl n c, 0, 0) := by
  refine px_ev.of (d := d + 0) (by decide) rfl rfl (fun h => by cases h) ?_
  show px_to X (d + 0) 5 (0, [.ref 1, .int m, .int p], [], wl n c, 0, 0) _
  refine tz_aload_n (p9 := 1) rfl rfl rfl ?_
  refine tz_get (ci := 0) (f := 2) (v := .ref 2) (p9 := 4) rfl rfl rfl (hn 1 (by decide)) hT rfl ?_
  refine tz_iload_n (p9 := 5) rfl rfl rfl ?_
  refine tz_bipush (x := 7) (p9 := 7) rfl rfl (by decide) ?_
  refine tz_imul (v := (m * 7)) (p9 := 8) rfl rfl rfl ?_
  refine tz_iload_n (p9 := 9) rfl rfl rfl ?_
  refine tz_iadd (v := ((m * 7) + p)) (p9 := 10) rfl rfl rfl ?_
  refine tz_iald (v := (g ((m * 7) + p).toNatClampNeg)) (p9 := 11) rfl rfl (hn 2 (by decide)) hG hm rfl ?_
  exact tz_reti rfl rfl
theorem e_pieceAt {X : Nat × (Nat → Int32)} {d : Nat} {n : Nat} {c : Nat → px_E} {s p : Int32} : px_ev X (d + 1) 152 [.int s, .int p] (wl n c) (some (some (.int (s >>> ((3 * p) &&& 31) &&& 7))), wl n c, 0, 0) := by
  refine px_ev.of (d := d + 0) (by decide) rfl rfl (fun h => by cases h) ?_
  show px_to X (d + 0) 152 (0, [.int s, .int p], [], wl n c, 0, 0) _
  refine tz_iload_n (p9 := 1) rfl rfl rfl ?_
  refine tz_iconst (x := 3) (p9 := 2) rfl rfl (by decide) ?_
  refine tz_iload_n (p9 := 3) rfl rfl rfl ?_
  refine tz_imul (v := (3 * p)) (p9 := 4) rfl rfl rfl ?_
  refine tz_ishr (v := (s >>> ((3 * p) &&& 31))) (p9 := 5) rfl rfl rfl ?_
  refine tz_bipush (x := 7) (p9 := 7) rfl rfl (by decide) ?_
  refine tz_iand (v := ((s >>> ((3 * p) &&& 31)) &&& 7)) (p9 := 8) rfl rfl rfl ?_
  exact tz_reti rfl rfl
theorem e_pieceTo {X : Nat × (Nat → Int32)} {d : Nat} {n : Nat} {c : Nat → px_E} {s p : Int32} : px_ev X (d + 1) 153 [.int s, .int p] (wl n c) (some (some (.int (s <<< ((3 * p) &&& 31)))), wl n c, 0, 0) := by
  refine px_ev.of (d := d + 0) (by decide) rfl rfl (fun h => by cases h) ?_
  show px_to X (d + 0) 153 (0, [.int s, .int p], [], wl n c, 0, 0) _
  refine tz_iload_n (p9 := 1) rfl rfl rfl ?_
  refine tz_iconst (x := 3) (p9 := 2) rfl rfl (by decide) ?_
  refine tz_iload_n (p9 := 3) rfl rfl rfl ?_
  refine tz_imul (v := (3 * p)) (p9 := 4) rfl rfl rfl ?_
  refine tz_ishl (v := (s <<< ((3 * p) &&& 31))) (p9 := 5) rfl rfl rfl ?_
  exact tz_reti rfl rfl
