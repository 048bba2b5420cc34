/-! THE CLASS: words, states (wip/whole/gen/mk70.py) -/
theorem f_wGoalOf {X : Nat × (Nat → Int32)} {d : Nat} {n : Nat} {c : Nat → px_E} (hn : ∀ i, i < 47 → i < n) {wc : Nat} (hwc : wc ≤ 30) (hW : c 10 = .inr (.inr (2, [.ref 1, .ref 11, .ref 12, .ref 13, .int (nI wc)]))) {wg : Nat → Nat} (hWG : c 13 = .inl (0, 210, fun q => nI (wg q))) {w p : Nat} (hw : w < 30) (hp : p < 7) : px_ev X (d + 1) 40 [.ref 10, .int (nI w), .int (nI p)] (wl n c) (some (some (.int (nI (wg (w * 7 + p))))), wl n c, 0, 0) := by
  refine px_ev.of (d := d + 0) (by decide) rfl rfl (fun h => by cases h) ?_
  show px_to X (d + 0) 40 (0, [.ref 10, .int (nI w), .int (nI p)], [], wl n c, 0, 0) _
  refine tz_aload_n (p9 := 1) rfl rfl rfl ?_
  refine tz_get (ci := 2) (f := 3) (v := .ref 13) (p9 := 4) rfl rfl rfl (hn 10 (by decide)) hW rfl ?_
  refine tz_iload_n (p9 := 5) rfl rfl rfl ?_
  refine tz_bipush (x := 7) (p9 := 7) rfl rfl (by decide) ?_
  refine tz_imul (v := (nI (w * 7))) (p9 := 8) rfl rfl (q_mul w 7) ?_
  refine tz_iload_n (p9 := 9) rfl rfl rfl ?_
  refine tz_iadd (v := (nI (w * 7 + p))) (p9 := 10) rfl rfl (nI_add _ _) ?_
  refine tz_iald (v := (nI (wg (w * 7 + p)))) (p9 := 11) rfl rfl (hn 13 (by decide)) hWG (q_in (by omega) (by decide)) (by show nI (wg _) = _; rw [q_c (by omega)]) ?_
  exact tz_reti rfl rfl
theorem l_wTurned {X : Nat × (Nat → Int32)} {d : Nat} {n : Nat} {c : Nat → px_E} (hn : ∀ i, i < 47 → i < n) {P Mv : Nat} (hP : P ≤ 7) (hM : Mv ≤ 6) (hT : c 1 = .inr (.inr (0, [.int (nI P), .int (nI Mv), .ref 2, .ref 3]))) {wc : Nat} (hwc : wc ≤ 30) (hW : c 10 = .inr (.inr (2, [.ref 1, .ref 11, .ref 12, .ref 13, .int (nI wc)]))) {wg : Nat → Nat} (hWG : c 13 = .inl (0, 210, fun q => nI (wg q))) {w a : Nat} (hw : w < 30) (ha : a < 2147483648) (ht : ∀ p, p < P → wg (w * 7 + p) < 8) {r : px_Z} {k z : Nat} (kk : px_to X (d + 1) 41 (42, [.ref 10, .int (nI w), .int (nI a), .int (nI (tr (fun q => wg (w * 7 + q)) a P)), .int (nI P)], [], wl n c, k, z) r) : ∀ (j p : Nat), p + j = P → px_to X (d + 1) 41 (5, [.ref 10, .int (nI w), .int (nI a), .int (nI (tr (fun q => wg (w * 7 + q)) a p)), .int (nI p)], [], wl n c, k, z) r
  | 0, p, hj => by
    have hp9 : P = p := by omega
    subst hp9
    refine tz_iload (p9 := 7) rfl rfl rfl ?_
    refine tz_aload_n (p9 := 8) rfl rfl rfl ?_
    refine tz_get (ci := 2) (f := 0) (v := .ref 1) (p9 := 11) rfl rfl rfl (hn 10 (by decide)) hW rfl ?_
    refine tz_c1 (p9 := 14) (w1 := wl n c) (tz_calV (N := 1) (i := 1) (As := []) (rest := [.int (nI P)]) rfl rfl rfl rfl rfl (hn 1 (by decide)) hT rfl) rfl ((e_placeCount (d := 0) (fun i h => hn i (by omega)) hT).up (by omega)) ?_
    refine tz_icge (t9 := 42) (p9 := 17) rfl rfl rfl (fun _ => ?_) (fun h9 => absurd (nI_le (Nat.le_refl _) (by omega)) h9)
    exact kk
  | j + 1, p, hj => by
    refine tz_iload (p9 := 7) rfl rfl rfl ?_
    refine tz_aload_n (p9 := 8) rfl rfl rfl ?_
    refine tz_get (ci := 2) (f := 0) (v := .ref 1) (p9 := 11) rfl rfl rfl (hn 10 (by decide)) hW rfl ?_
    refine tz_c1 (p9 := 14) (w1 := wl n c) (tz_calV (N := 1) (i := 1) (As := []) (rest := [.int (nI p)]) rfl rfl rfl rfl rfl (hn 1 (by decide)) hT rfl) rfl ((e_placeCount (d := 0) (fun i h => hn i (by omega)) hT).up (by omega)) ?_
    refine tz_icge (t9 := 42) (p9 := 17) rfl rfl rfl (fun h9 => absurd h9 (nI_ge (by omega) (by omega))) (fun _ => ?_)
    refine tz_iload_n (p9 := 18) rfl rfl rfl ?_
    refine tz_iload_n (p9 := 19) rfl rfl rfl ?_
    refine tz_iload (p9 := 21) rfl rfl rfl ?_
    refine tz_c1 (p9 := 24) (w1 := wl n c) (tz_calS (N := 152) (As := [.int (nI a), .int (nI p)]) (rest := [.int (nI (tr (fun q => wg (w * 7 + q)) a p))]) rfl rfl rfl rfl rfl rfl) rfl ((f_pieceAt (d := 0) (by omega) (by omega)).up (by omega)) ?_
    refine tz_aload_n (p9 := 25) rfl rfl rfl ?_
    refine tz_iload_n (p9 := 26) rfl rfl rfl ?_
    refine tz_iload (p9 := 28) rfl rfl rfl ?_
    refine tz_c1 (p9 := 31) (w1 := wl n c) (tz_calV (N := 40) (i := 10) (As := [.int (nI w), .int (nI p)]) (rest := [.int (nI (dg a p)), .int (nI (tr (fun q => wg (w * 7 + q)) a p))]) rfl rfl rfl rfl rfl (hn 10 (by decide)) hW rfl) rfl ((f_wGoalOf (d := 0) hn hwc hW hWG hw (by omega)).up (by omega)) ?_
    refine tz_c1 (p9 := 34) (w1 := wl n c) (tz_calS (N := 153) (As := [.int (nI (dg a p)), .int (nI (wg (w * 7 + p)))]) (rest := [.int (nI (tr (fun q => wg (w * 7 + q)) a p))]) rfl rfl rfl rfl rfl rfl) rfl ((f_pieceTo (d := 0) (by have := ht p (by omega); omega)).up (by omega)) ?_
    refine tz_ior (v := (nI (tr (fun q => wg (w * 7 + q)) a (p + 1)))) (p9 := 35) rfl rfl (q_or _ _) ?_
    refine tz_istore_n (l9 := [.ref 10, .int (nI w), .int (nI a), .int (nI (tr (fun q => wg (w * 7 + q)) a (p + 1))), .int (nI p)]) (p9 := 36) rfl rfl rfl rfl ?_
    refine tz_iinc (y := (nI (p + 1))) (l9 := [.ref 10, .int (nI w), .int (nI a), .int (nI (tr (fun q => wg (w * 7 + q)) a (p + 1))), .int (nI (p + 1))]) (p9 := 39) rfl rfl rfl (nI_1 p) rfl ?_
    refine tz_goto (p9 := 5) rfl rfl ?_
    exact l_wTurned hn hP hM hT hwc hW hWG hw ha ht kk j (p + 1) (by omega)
theorem f_wTurned {X : Nat × (Nat → Int32)} {d : Nat} {n : Nat} {c : Nat → px_E} (hn : ∀ i, i < 47 → i < n) {P Mv : Nat} (hP : P ≤ 7) (hM : Mv ≤ 6) (hT : c 1 = .inr (.inr (0, [.int (nI P), .int (nI Mv), .ref 2, .ref 3]))) {wc : Nat} (hwc : wc ≤ 30) (hW : c 10 = .inr (.inr (2, [.ref 1, .ref 11, .ref 12, .ref 13, .int (nI wc)]))) {wg : Nat → Nat} (hWG : c 13 = .inl (0, 210, fun q => nI (wg q))) {w a : Nat} (hw : w < 30) (ha : a < 2147483648) (ht : ∀ p, p < P → wg (w * 7 + p) < 8) : px_ev X (d + 2) 41 [.ref 10, .int (nI w), .int (nI a)] (wl n c) (some (some (.int (nI (tr (fun q => wg (w * 7 + q)) a P)))), wl n c, 0, 0) := by
  refine px_ev.of (d := d + 1) (by decide) rfl rfl (fun h => by cases h) ?_
  show px_to X (d + 1) 41 (0, [.ref 10, .int (nI w), .int (nI a), .retAddr 0, .retAddr 0], [], wl n c, 0, 0) _
  refine tz_iconst (x := 0) (p9 := 1) rfl rfl (by decide) ?_
  refine tz_istore_n (l9 := [.ref 10, .int (nI w), .int (nI a), .int 0, .retAddr 0]) (p9 := 2) rfl rfl rfl rfl ?_
  refine tz_iconst (x := 0) (p9 := 3) rfl rfl (by decide) ?_
  refine tz_istore (l9 := [.ref 10, .int (nI w), .int (nI a), .int 0, .int 0]) (p9 := 5) rfl rfl rfl rfl ?_
  refine l_wTurned hn hP hM hT hwc hW hWG hw ha ht ?_ P 0 (by omega)
  refine tz_iload_n (p9 := 43) rfl rfl rfl ?_
  exact tz_reti rfl rfl
/-- how many of the first p places hold a piece of the goal g that f brings home -/
def hb (f : Nat → Nat) (a g : Nat) : Nat → Nat
  | 0 => 0
  | p + 1 => hb f a g p + if g / 2 ^ dg a p % 2 = 1 ∧ f p = dg a p then 1 else 0
theorem hb_le {f : Nat → Nat} {a g : Nat} : ∀ p, hb f a g p ≤ p
  | 0 => Nat.le_refl _
  | p + 1 => by
    have := hb_le (f := f) (a := a) (g := g) p
    show hb f a g p + _ ≤ _
    split <;> omega
theorem hb_1 {f : Nat → Nat} {a g p : Nat} (h : g / 2 ^ dg a p % 2 = 1 ∧ f p = dg a p) : hb f a g (p + 1) = hb f a g p + 1 := by show hb f a g p + _ = _; rw [if_pos h]
theorem hb_0 {f : Nat → Nat} {a g p : Nat} (h : ¬ (g / 2 ^ dg a p % 2 = 1 ∧ f p = dg a p)) : hb f a g (p + 1) = hb f a g p := by show hb f a g p + _ = _; rw [if_neg h]; rfl
theorem l_homeBehind {X : Nat × (Nat → Int32)} {d : Nat} {n : Nat} {c : Nat → px_E} (hn : ∀ i, i < 47 → i < n) {P Mv : Nat} (hP : P ≤ 7) (hM : Mv ≤ 6) (hT : c 1 = .inr (.inr (0, [.int (nI P), .int (nI Mv), .ref 2, .ref 3]))) {wc : Nat} (hwc : wc ≤ 30) (hW : c 10 = .inr (.inr (2, [.ref 1, .ref 11, .ref 12, .ref 13, .int (nI wc)]))) {wg : Nat → Nat} (hWG : c 13 = .inl (0, 210, fun q => nI (wg q))) {w a g : Nat} (hw : w < 30) (ha : a < 2147483648) (hg : g < 2147483648) (ht : ∀ p, p < P → wg (w * 7 + p) < 8) {r : px_Z} {k z : Nat} (kk : ∀ u, px_to X (d + 1) 42 (57, [.ref 10, .int (nI w), .int (nI a), .int (nI g), .int (nI (hb (fun q => wg (w * 7 + q)) a g P)), .int (nI P), u], [], wl n c, k, z) r) : ∀ (j p : Nat), p + j = P → ∀ u, px_to X (d + 1) 42 (6, [.ref 10, .int (nI w), .int (nI a), .int (nI g), .int (nI (hb (fun q => wg (w * 7 + q)) a g p)), .int (nI p), u], [], wl n c, k, z) r
  | 0, p, hj => by
    have hp9 : P = p := by omega
    subst hp9
    intro u
    refine tz_iload (p9 := 8) rfl rfl rfl ?_
    refine tz_aload_n (p9 := 9) rfl rfl rfl ?_
    refine tz_get (ci := 2) (f := 0) (v := .ref 1) (p9 := 12) rfl rfl rfl (hn 10 (by decide)) hW rfl ?_
    refine tz_c1 (p9 := 15) (w1 := wl n c) (tz_calV (N := 1) (i := 1) (As := []) (rest := [.int (nI P)]) rfl rfl rfl rfl rfl (hn 1 (by decide)) hT rfl) rfl ((e_placeCount (d := 0) (fun i h => hn i (by omega)) hT).up (by omega)) ?_
    refine tz_icge (t9 := 57) (p9 := 18) rfl rfl rfl (fun _ => ?_) (fun h9 => absurd (nI_le (Nat.le_refl _) (by omega)) h9)
    exact kk u
  | j + 1, p, hj => by
    intro u
    refine tz_iload (p9 := 8) rfl rfl rfl ?_
    refine tz_aload_n (p9 := 9) rfl rfl rfl ?_
    refine tz_get (ci := 2) (f := 0) (v := .ref 1) (p9 := 12) rfl rfl rfl (hn 10 (by decide)) hW rfl ?_
    refine tz_c1 (p9 := 15) (w1 := wl n c) (tz_calV (N := 1) (i := 1) (As := []) (rest := [.int (nI p)]) rfl rfl rfl rfl rfl (hn 1 (by decide)) hT rfl) rfl ((e_placeCount (d := 0) (fun i h => hn i (by omega)) hT).up (by omega)) ?_
    refine tz_icge (t9 := 57) (p9 := 18) rfl rfl rfl (fun h9 => absurd h9 (nI_ge (by omega) (by omega))) (fun _ => ?_)
    refine tz_iload_n (p9 := 19) rfl rfl rfl ?_
    refine tz_iload (p9 := 21) rfl rfl rfl ?_
    refine tz_c1 (p9 := 24) (w1 := wl n c) (tz_calS (N := 152) (As := [.int (nI a), .int (nI p)]) (rest := []) rfl rfl rfl rfl rfl rfl) rfl ((f_pieceAt (d := 0) (by omega) (by omega)).up (by omega)) ?_
    refine tz_istore (l9 := [.ref 10, .int (nI w), .int (nI a), .int (nI g), .int (nI (hb (fun q => wg (w * 7 + q)) a g p)), .int (nI p), .int (nI (dg a p))]) (p9 := 26) rfl rfl rfl rfl ?_
    refine tz_iload_n (p9 := 27) rfl rfl rfl ?_
    refine tz_iload (p9 := 29) rfl rfl rfl ?_
    refine tz_ishr (v := (nI (g / 2 ^ dg a p))) (p9 := 30) rfl rfl (q_shr hg (by have := dg_lt a p; omega)) ?_
    refine tz_iconst (x := 1) (p9 := 31) rfl rfl (by decide) ?_
    refine tz_iand (v := (nI (g / 2 ^ dg a p % 2))) (p9 := 32) rfl rfl (q_1 _) ?_
    refine tz_iconst (x := 1) (p9 := 33) rfl rfl (by decide) ?_
    refine tz_icne (t9 := 51) (p9 := 36) rfl rfl rfl (fun h1 => ?_) (fun h1 => ?_)
    · have h2 : hb (fun q => wg (w * 7 + q)) a g (p + 1) = hb (fun q => wg (w * 7 + q)) a g p := hb_0 (fun h => h1 (congrArg nI h.1))
      rw [← h2]
      refine tz_iinc (y := (nI (p + 1))) (l9 := [.ref 10, .int (nI w), .int (nI a), .int (nI g), .int (nI (hb (fun q => wg (w * 7 + q)) a g (p + 1))), .int (nI (p + 1)), .int (nI (dg a p))]) (p9 := 54) rfl rfl rfl (nI_1 p) rfl ?_
      refine tz_goto (p9 := 6) rfl rfl ?_
      exact l_homeBehind hn hP hM hT hwc hW hWG hw ha hg ht kk j (p + 1) (by omega) _
    · have h3 : g / 2 ^ dg a p % 2 = 1 := (nI_eq (b := 1) (by have := Nat.mod_lt (g / 2 ^ dg a p) (show 0 < 2 by decide); omega) (by decide)).mp h1
      refine tz_aload_n (p9 := 37) rfl rfl rfl ?_
      refine tz_iload_n (p9 := 38) rfl rfl rfl ?_
      refine tz_iload (p9 := 40) rfl rfl rfl ?_
      refine tz_c1 (p9 := 43) (w1 := wl n c) (tz_calV (N := 40) (i := 10) (As := [.int (nI w), .int (nI p)]) (rest := []) rfl rfl rfl rfl rfl (hn 10 (by decide)) hW rfl) rfl ((f_wGoalOf (d := 0) hn hwc hW hWG hw (by omega)).up (by omega)) ?_
      refine tz_iload (p9 := 45) rfl rfl rfl ?_
      refine tz_icne (t9 := 51) (p9 := 48) rfl rfl rfl (fun h4 => ?_) (fun h4 => ?_)
      · have h2 : hb (fun q => wg (w * 7 + q)) a g (p + 1) = hb (fun q => wg (w * 7 + q)) a g p := hb_0 (fun h => h4 (congrArg nI h.2))
        rw [← h2]
        refine tz_iinc (y := (nI (p + 1))) (l9 := [.ref 10, .int (nI w), .int (nI a), .int (nI g), .int (nI (hb (fun q => wg (w * 7 + q)) a g (p + 1))), .int (nI (p + 1)), .int (nI (dg a p))]) (p9 := 54) rfl rfl rfl (nI_1 p) rfl ?_
        refine tz_goto (p9 := 6) rfl rfl ?_
        exact l_homeBehind hn hP hM hT hwc hW hWG hw ha hg ht kk j (p + 1) (by omega) _
      · have h5 : wg (w * 7 + p) = dg a p := (nI_eq (by have := ht p (by omega); omega) (by have := dg_lt a p; omega)).mp h4
        refine tz_iinc (y := (nI (hb (fun q => wg (w * 7 + q)) a g (p + 1)))) (l9 := [.ref 10, .int (nI w), .int (nI a), .int (nI g), .int (nI (hb (fun q => wg (w * 7 + q)) a g (p + 1))), .int (nI p), .int (nI (dg a p))]) (p9 := 51) rfl rfl rfl (by rw [hb_1 ⟨h3, h5⟩]; exact nI_1 _) rfl ?_
        refine tz_iinc (y := (nI (p + 1))) (l9 := [.ref 10, .int (nI w), .int (nI a), .int (nI g), .int (nI (hb (fun q => wg (w * 7 + q)) a g (p + 1))), .int (nI (p + 1)), .int (nI (dg a p))]) (p9 := 54) rfl rfl rfl (nI_1 p) rfl ?_
        refine tz_goto (p9 := 6) rfl rfl ?_
        exact l_homeBehind hn hP hM hT hwc hW hWG hw ha hg ht kk j (p + 1) (by omega) _
theorem f_homeBehind {X : Nat × (Nat → Int32)} {d : Nat} {n : Nat} {c : Nat → px_E} (hn : ∀ i, i < 47 → i < n) {P Mv : Nat} (hP : P ≤ 7) (hM : Mv ≤ 6) (hT : c 1 = .inr (.inr (0, [.int (nI P), .int (nI Mv), .ref 2, .ref 3]))) {wc : Nat} (hwc : wc ≤ 30) (hW : c 10 = .inr (.inr (2, [.ref 1, .ref 11, .ref 12, .ref 13, .int (nI wc)]))) {wg : Nat → Nat} (hWG : c 13 = .inl (0, 210, fun q => nI (wg q))) {w a g : Nat} (hw : w < 30) (ha : a < 2147483648) (hg : g < 2147483648) (ht : ∀ p, p < P → wg (w * 7 + p) < 8) : px_ev X (d + 2) 42 [.ref 10, .int (nI w), .int (nI a), .int (nI g)] (wl n c) (some (some (.int (nI (hb (fun q => wg (w * 7 + q)) a g P)))), wl n c, 0, 0) := by
  refine px_ev.of (d := d + 1) (by decide) rfl rfl (fun h => by cases h) ?_
  show px_to X (d + 1) 42 (0, [.ref 10, .int (nI w), .int (nI a), .int (nI g), .retAddr 0, .retAddr 0, .retAddr 0], [], wl n c, 0, 0) _
  refine tz_iconst (x := 0) (p9 := 1) rfl rfl (by decide) ?_
  refine tz_istore (l9 := [.ref 10, .int (nI w), .int (nI a), .int (nI g), .int 0, .retAddr 0, .retAddr 0]) (p9 := 3) rfl rfl rfl rfl ?_
  refine tz_iconst (x := 0) (p9 := 4) rfl rfl (by decide) ?_
  refine tz_istore (l9 := [.ref 10, .int (nI w), .int (nI a), .int (nI g), .int 0, .int 0, .retAddr 0]) (p9 := 6) rfl rfl rfl rfl ?_
  refine l_homeBehind hn hP hM hT hwc hW hWG hw ha hg ht (fun u => ?_) P 0 (by omega) _
  refine tz_iload (p9 := 59) rfl rfl rfl ?_
  exact tz_reti rfl rfl
