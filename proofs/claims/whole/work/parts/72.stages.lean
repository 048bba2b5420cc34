/-! THE CLASS: goals and stages (wip/whole/gen/mk72.py) -/
/-- every piece of the goal is at home -/
def mt (a g : Nat) : Prop := ∀ p, p < 7 → g / 2 ^ p % 2 = 1 → dg a p = p
theorem q_bit {g p : Nat} : g / 2 ^ p % 2 < 2147483648 := Nat.lt_of_lt_of_le (Nat.mod_lt _ (by decide)) (by decide)
theorem l_meets1 {X : Nat × (Nat → Int32)} {d : Nat} {n : Nat} {c : Nat → px_E} {a g : Nat} (ha : a < 2147483648) (hg : g < 2147483648) (hq : mt a g) {k z : Nat} : ∀ (j p : Nat), p + j = 7 → px_to X (d + 1) 155 (2, [.int (nI a), .int (nI g), .int (nI p)], [], wl n c, k, z) (some (some (.int 1)), wl n c, k, z)
  | 0, p, hj => by
    have hp9 : p = 7 := by omega
    subst hp9
    refine tz_iload_n (p9 := 3) rfl rfl rfl ?_
    refine tz_bipush (x := 7) (p9 := 5) rfl rfl (by decide) ?_
    refine tz_icge (t9 := 34) (p9 := 8) rfl rfl rfl (fun _ => ?_) (fun h9 => absurd (nI_le (a := 7) (b := 7) (by decide) (by decide)) h9)
    refine tz_iconst (x := 1) (p9 := 35) rfl rfl (by decide) ?_
    exact tz_retz rfl rfl (by decide)
  | j + 1, p, hj => by
    refine tz_iload_n (p9 := 3) rfl rfl rfl ?_
    refine tz_bipush (x := 7) (p9 := 5) rfl rfl (by decide) ?_
    refine tz_icge (t9 := 34) (p9 := 8) rfl rfl rfl (fun h9 => absurd h9 (nI_ge (a := p) (b := 7) (by omega) (by decide))) (fun _ => ?_)
    refine tz_iload_n (p9 := 9) rfl rfl rfl ?_
    refine tz_iload_n (p9 := 10) rfl rfl rfl ?_
    refine tz_ishr (v := (nI (g / 2 ^ p))) (p9 := 11) rfl rfl (q_shr hg (by omega)) ?_
    refine tz_iconst (x := 1) (p9 := 12) rfl rfl (by decide) ?_
    refine tz_iand (v := (nI (g / 2 ^ p % 2))) (p9 := 13) rfl rfl (q_1 _) ?_
    refine tz_iconst (x := 1) (p9 := 14) rfl rfl (by decide) ?_
    refine tz_icne (t9 := 28) (p9 := 17) rfl rfl rfl (fun h1 => ?_) (fun h1 => ?_)
    · refine tz_iinc (y := (nI (p + 1))) (l9 := [.int (nI a), .int (nI g), .int (nI (p + 1))]) (p9 := 31) rfl rfl rfl (nI_1 p) rfl ?_
      refine tz_goto (p9 := 2) rfl rfl ?_
      exact l_meets1 ha hg hq j (p + 1) (by omega)
    · have h2 : g / 2 ^ p % 2 = 1 := (nI_eq (b := 1) (by have := @q_bit g p; omega) (by decide)).mp h1
      refine tz_iload_n (p9 := 18) rfl rfl rfl ?_
      refine tz_iload_n (p9 := 19) rfl rfl rfl ?_
      refine tz_c1 (p9 := 22) (w1 := wl n c) (tz_calS (N := 152) (As := [.int (nI a), .int (nI p)]) (rest := []) rfl rfl rfl rfl rfl rfl) rfl ((f_pieceAt (d := 0) ha (by omega)).up (by omega)) ?_
      refine tz_iload_n (p9 := 23) rfl rfl rfl ?_
      refine tz_iceq (t9 := 28) (p9 := 26) rfl rfl rfl (fun _ => ?_) (fun h9 => absurd (congrArg nI (hq p (by omega) h2)) h9)
      refine tz_iinc (y := (nI (p + 1))) (l9 := [.int (nI a), .int (nI g), .int (nI (p + 1))]) (p9 := 31) rfl rfl rfl (nI_1 p) rfl ?_
      refine tz_goto (p9 := 2) rfl rfl ?_
      exact l_meets1 ha hg hq j (p + 1) (by omega)
theorem f_meets1 {X : Nat × (Nat → Int32)} {d : Nat} {n : Nat} {c : Nat → px_E} {a g : Nat} (ha : a < 2147483648) (hg : g < 2147483648) (hq : mt a g) : px_ev X (d + 2) 155 [.int (nI a), .int (nI g)] (wl n c) (some (some (.int 1)), wl n c, 0, 0) := by
  refine px_ev.of (d := d + 1) (by decide) rfl rfl (fun h => by cases h) ?_
  show px_to X (d + 1) 155 (0, [.int (nI a), .int (nI g), .retAddr 0], [], wl n c, 0, 0) _
  refine tz_iconst (x := 0) (p9 := 1) rfl rfl (by decide) ?_
  refine tz_istore_n (l9 := [.int (nI a), .int (nI g), .int 0]) (p9 := 2) rfl rfl rfl rfl ?_
  exact l_meets1 ha hg hq 7 0 (by omega)
theorem l_meets0 {X : Nat × (Nat → Int32)} {d : Nat} {n : Nat} {c : Nat → px_E} {a g : Nat} (ha : a < 2147483648) (hg : g < 2147483648) (hq : ¬ mt a g) {k z : Nat} : ∀ (j p : Nat), p + j = 7 → (∀ q, q < p → g / 2 ^ q % 2 = 1 → dg a q = q) → px_to X (d + 1) 155 (2, [.int (nI a), .int (nI g), .int (nI p)], [], wl n c, k, z) (some (some (.int 0)), wl n c, k, z)
  | 0, p, hj => fun hall => absurd (fun q h => hall q (by omega)) hq
  | j + 1, p, hj => fun hall => by
    refine tz_iload_n (p9 := 3) rfl rfl rfl ?_
    refine tz_bipush (x := 7) (p9 := 5) rfl rfl (by decide) ?_
    refine tz_icge (t9 := 34) (p9 := 8) rfl rfl rfl (fun h9 => absurd h9 (nI_ge (a := p) (b := 7) (by omega) (by decide))) (fun _ => ?_)
    refine tz_iload_n (p9 := 9) rfl rfl rfl ?_
    refine tz_iload_n (p9 := 10) rfl rfl rfl ?_
    refine tz_ishr (v := (nI (g / 2 ^ p))) (p9 := 11) rfl rfl (q_shr hg (by omega)) ?_
    refine tz_iconst (x := 1) (p9 := 12) rfl rfl (by decide) ?_
    refine tz_iand (v := (nI (g / 2 ^ p % 2))) (p9 := 13) rfl rfl (q_1 _) ?_
    refine tz_iconst (x := 1) (p9 := 14) rfl rfl (by decide) ?_
    refine tz_icne (t9 := 28) (p9 := 17) rfl rfl rfl (fun h1 => ?_) (fun h1 => ?_)
    · refine tz_iinc (y := (nI (p + 1))) (l9 := [.int (nI a), .int (nI g), .int (nI (p + 1))]) (p9 := 31) rfl rfl rfl (nI_1 p) rfl ?_
      refine tz_goto (p9 := 2) rfl rfl ?_
      exact l_meets0 ha hg hq j (p + 1) (by omega) (fun q hq9 => by
        by_cases hqp : q = p
        · rw [hqp]; exact fun h => absurd (congrArg nI h) h1
        · exact hall q (by omega))
    · have h2 : g / 2 ^ p % 2 = 1 := (nI_eq (b := 1) (by have := @q_bit g p; omega) (by decide)).mp h1
      refine tz_iload_n (p9 := 18) rfl rfl rfl ?_
      refine tz_iload_n (p9 := 19) rfl rfl rfl ?_
      refine tz_c1 (p9 := 22) (w1 := wl n c) (tz_calS (N := 152) (As := [.int (nI a), .int (nI p)]) (rest := []) rfl rfl rfl rfl rfl rfl) rfl ((f_pieceAt (d := 0) ha (by omega)).up (by omega)) ?_
      refine tz_iload_n (p9 := 23) rfl rfl rfl ?_
      refine tz_iceq (t9 := 28) (p9 := 26) rfl rfl rfl (fun h3 => ?_) (fun h3 => ?_)
      · have h4 : dg a p = p := (nI_eq (by have := dg_lt a p; omega) (by omega)).mp h3
        refine tz_iinc (y := (nI (p + 1))) (l9 := [.int (nI a), .int (nI g), .int (nI (p + 1))]) (p9 := 31) rfl rfl rfl (nI_1 p) rfl ?_
        refine tz_goto (p9 := 2) rfl rfl ?_
        exact l_meets0 ha hg hq j (p + 1) (by omega) (fun q hq9 => by
          by_cases hqp : q = p
          · rw [hqp]; exact fun _ => h4
          · exact hall q (by omega))
      · refine tz_iconst (x := 0) (p9 := 27) rfl rfl (by decide) ?_
        exact tz_retz rfl rfl (by decide)
theorem f_meets0 {X : Nat × (Nat → Int32)} {d : Nat} {n : Nat} {c : Nat → px_E} {a g : Nat} (ha : a < 2147483648) (hg : g < 2147483648) (hq : ¬ mt a g) : px_ev X (d + 2) 155 [.int (nI a), .int (nI g)] (wl n c) (some (some (.int 0)), wl n c, 0, 0) := by
  refine px_ev.of (d := d + 1) (by decide) rfl rfl (fun h => by cases h) ?_
  show px_to X (d + 1) 155 (0, [.int (nI a), .int (nI g), .retAddr 0], [], wl n c, 0, 0) _
  refine tz_iconst (x := 0) (p9 := 1) rfl rfl (by decide) ?_
  refine tz_istore_n (l9 := [.int (nI a), .int (nI g), .int 0]) (p9 := 2) rfl rfl rfl rfl ?_
  exact l_meets0 ha hg hq 7 0 (by omega) (fun q h => by omega)
theorem f_isMet1 {X : Nat × (Nat → Int32)} {d : Nat} {n : Nat} {c : Nat → px_E} (hn : ∀ i, i < 47 → i < n) {sc : Nat} (hsc : sc ≤ 8) (hS : c 14 = .inr (.inr (3, [.ref 10, .ref 15, .ref 16, .ref 17, .int (nI sc)]))) {sg : Nat → Nat} (hSG : c 15 = .inl (0, 8, fun q => nI (sg q))) {s a : Nat} (hs : s < 8) (ha : a < 2147483648) (hg : sg s < 2147483648) (hq : mt a (sg s)) : px_ev X (d + 3) 52 [.ref 14, .int (nI s), .int (nI a)] (wl n c) (some (some (.int 1)), wl n c, 0, 0) := by
  refine px_ev.of (d := d + 2) (by decide) rfl rfl (fun h => by cases h) ?_
  show px_to X (d + 2) 52 (0, [.ref 14, .int (nI s), .int (nI a)], [], wl n c, 0, 0) _
  refine tz_iload_n (p9 := 1) rfl rfl rfl ?_
  refine tz_aload_n (p9 := 2) rfl rfl rfl ?_
  refine tz_get (ci := 3) (f := 1) (v := .ref 15) (p9 := 5) rfl rfl rfl (hn 14 (by decide)) hS rfl ?_
  refine tz_iload_n (p9 := 6) rfl rfl rfl ?_
  refine tz_iald (v := (nI (sg s))) (p9 := 7) rfl rfl (hn 15 (by decide)) hSG (q_in hs (by decide)) (by show nI (sg _) = _; rw [q_c (by omega)]) ?_
  refine tz_c1 (p9 := 10) (w1 := wl n c) (tz_calS (N := 155) (As := [.int (nI a), .int (nI (sg s))]) (rest := []) rfl rfl rfl rfl rfl rfl) rfl ((f_meets1 (d := 0) ha hg hq).up (by omega)) ?_
  exact tz_retz rfl rfl (by decide)
theorem f_isMet0 {X : Nat × (Nat → Int32)} {d : Nat} {n : Nat} {c : Nat → px_E} (hn : ∀ i, i < 47 → i < n) {sc : Nat} (hsc : sc ≤ 8) (hS : c 14 = .inr (.inr (3, [.ref 10, .ref 15, .ref 16, .ref 17, .int (nI sc)]))) {sg : Nat → Nat} (hSG : c 15 = .inl (0, 8, fun q => nI (sg q))) {s a : Nat} (hs : s < 8) (ha : a < 2147483648) (hg : sg s < 2147483648) (hq : ¬ mt a (sg s)) : px_ev X (d + 3) 52 [.ref 14, .int (nI s), .int (nI a)] (wl n c) (some (some (.int 0)), wl n c, 0, 0) := by
  refine px_ev.of (d := d + 2) (by decide) rfl rfl (fun h => by cases h) ?_
  show px_to X (d + 2) 52 (0, [.ref 14, .int (nI s), .int (nI a)], [], wl n c, 0, 0) _
  refine tz_iload_n (p9 := 1) rfl rfl rfl ?_
  refine tz_aload_n (p9 := 2) rfl rfl rfl ?_
  refine tz_get (ci := 3) (f := 1) (v := .ref 15) (p9 := 5) rfl rfl rfl (hn 14 (by decide)) hS rfl ?_
  refine tz_iload_n (p9 := 6) rfl rfl rfl ?_
  refine tz_iald (v := (nI (sg s))) (p9 := 7) rfl rfl (hn 15 (by decide)) hSG (q_in hs (by decide)) (by show nI (sg _) = _; rw [q_c (by omega)]) ?_
  refine tz_c1 (p9 := 10) (w1 := wl n c) (tz_calS (N := 155) (As := [.int (nI a), .int (nI (sg s))]) (rest := []) rfl rfl rfl rfl rfl rfl) rfl ((f_meets0 (d := 0) ha hg hq).up (by omega)) ?_
  exact tz_retz rfl rfl (by decide)
/-- the pieces of the first s goals -/
def gb (sg : Nat → Nat) : Nat → Nat
  | 0 => 0
  | s + 1 => gb sg s ||| sg s
theorem l_goalBefore {X : Nat × (Nat → Int32)} {d : Nat} {n : Nat} {c : Nat → px_E} (hn : ∀ i, i < 47 → i < n) {sc : Nat} (hsc : sc ≤ 8) (hS : c 14 = .inr (.inr (3, [.ref 10, .ref 15, .ref 16, .ref 17, .int (nI sc)]))) {sg : Nat → Nat} (hSG : c 15 = .inl (0, 8, fun q => nI (sg q))) {s : Nat} (hs : s ≤ 8) {r : px_Z} {k z : Nat} (kk : px_to X d 55 (24, [.ref 14, .int (nI s), .int (nI (gb sg s)), .int (nI s)], [], wl n c, k, z) r) : ∀ (j p : Nat), p + j = s → px_to X d 55 (4, [.ref 14, .int (nI s), .int (nI (gb sg p)), .int (nI p)], [], wl n c, k, z) r
  | 0, p, hj => by
    have hp9 : s = p := by omega
    subst hp9
    refine tz_iload_n (p9 := 5) rfl rfl rfl ?_
    refine tz_iload_n (p9 := 6) rfl rfl rfl ?_
    refine tz_icge (t9 := 24) (p9 := 9) rfl rfl rfl (fun _ => ?_) (fun h9 => absurd (nI_le (Nat.le_refl _) (by omega)) h9)
    exact kk
  | j + 1, p, hj => by
    refine tz_iload_n (p9 := 5) rfl rfl rfl ?_
    refine tz_iload_n (p9 := 6) rfl rfl rfl ?_
    refine tz_icge (t9 := 24) (p9 := 9) rfl rfl rfl (fun h9 => absurd h9 (nI_ge (by omega) (by omega))) (fun _ => ?_)
    refine tz_iload_n (p9 := 10) rfl rfl rfl ?_
    refine tz_aload_n (p9 := 11) rfl rfl rfl ?_
    refine tz_get (ci := 3) (f := 1) (v := .ref 15) (p9 := 14) rfl rfl rfl (hn 14 (by decide)) hS rfl ?_
    refine tz_iload_n (p9 := 15) rfl rfl rfl ?_
    refine tz_iald (v := (nI (sg p))) (p9 := 16) rfl rfl (hn 15 (by decide)) hSG (q_in (by omega) (by decide)) (by show nI (sg _) = _; rw [q_c (by omega)]) ?_
    refine tz_ior (v := (nI (gb sg (p + 1)))) (p9 := 17) rfl rfl (q_or _ _) ?_
    refine tz_istore_n (l9 := [.ref 14, .int (nI s), .int (nI (gb sg (p + 1))), .int (nI p)]) (p9 := 18) rfl rfl rfl rfl ?_
    refine tz_iinc (y := (nI (p + 1))) (l9 := [.ref 14, .int (nI s), .int (nI (gb sg (p + 1))), .int (nI (p + 1))]) (p9 := 21) rfl rfl rfl (nI_1 p) rfl ?_
    refine tz_goto (p9 := 4) rfl rfl ?_
    exact l_goalBefore hn hsc hS hSG hs kk j (p + 1) (by omega)
theorem f_goalBefore {X : Nat × (Nat → Int32)} {d : Nat} {n : Nat} {c : Nat → px_E} (hn : ∀ i, i < 47 → i < n) {sc : Nat} (hsc : sc ≤ 8) (hS : c 14 = .inr (.inr (3, [.ref 10, .ref 15, .ref 16, .ref 17, .int (nI sc)]))) {sg : Nat → Nat} (hSG : c 15 = .inl (0, 8, fun q => nI (sg q))) {s : Nat} (hs : s ≤ 8) : px_ev X (d + 1) 55 [.ref 14, .int (nI s)] (wl n c) (some (some (.int (nI (gb sg s)))), wl n c, 0, 0) := by
  refine px_ev.of (d := d + 0) (by decide) rfl rfl (fun h => by cases h) ?_
  show px_to X (d + 0) 55 (0, [.ref 14, .int (nI s), .retAddr 0, .retAddr 0], [], wl n c, 0, 0) _
  refine tz_iconst (x := 0) (p9 := 1) rfl rfl (by decide) ?_
  refine tz_istore_n (l9 := [.ref 14, .int (nI s), .int 0, .retAddr 0]) (p9 := 2) rfl rfl rfl rfl ?_
  refine tz_iconst (x := 0) (p9 := 3) rfl rfl (by decide) ?_
  refine tz_istore_n (l9 := [.ref 14, .int (nI s), .int 0, .int 0]) (p9 := 4) rfl rfl rfl rfl ?_
  refine l_goalBefore hn hsc hS hSG hs ?_ s 0 (by omega)
  refine tz_iload_n (p9 := 25) rfl rfl rfl ?_
  exact tz_reti rfl rfl
/-- how many of the pieces below p of the goal g are at home -/
def hc (a g : Nat) : Nat → Nat
  | 0 => 0
  | p + 1 => hc a g p + if g / 2 ^ p % 2 = 1 ∧ dg a p = p then 1 else 0
theorem hc_le {a g : Nat} : ∀ p, hc a g p ≤ p
  | 0 => Nat.le_refl _
  | p + 1 => by
    have := hc_le (a := a) (g := g) p
    show hc a g p + _ ≤ _
    split <;> omega
theorem hc_1 {a g p : Nat} (h : g / 2 ^ p % 2 = 1 ∧ dg a p = p) : hc a g (p + 1) = hc a g p + 1 := by show hc a g p + _ = _; rw [if_pos h]
theorem hc_0 {a g p : Nat} (h : ¬ (g / 2 ^ p % 2 = 1 ∧ dg a p = p)) : hc a g (p + 1) = hc a g p := by show hc a g p + _ = _; rw [if_neg h]; rfl
theorem l_homeCount {X : Nat × (Nat → Int32)} {d : Nat} {n : Nat} {c : Nat → px_E} {a g : Nat} (ha : a < 2147483648) (hg : g < 2147483648) {k z : Nat} : ∀ (j p : Nat), p + j = 7 → px_to X (d + 1) 54 (5, [.ref 14, .int (nI a), .int (nI g), .int (nI (hc a g p)), .int (nI p)], [], wl n c, k, z) (some (some (.int (nI (hc a g 7)))), wl n c, k, z)
  | 0, p, hj => by
    have hp9 : p = 7 := by omega
    subst hp9
    refine tz_iload (p9 := 7) rfl rfl rfl ?_
    refine tz_bipush (x := 7) (p9 := 9) rfl rfl (by decide) ?_
    refine tz_icge (t9 := 42) (p9 := 12) rfl rfl rfl (fun _ => ?_) (fun h9 => absurd (nI_le (a := 7) (b := 7) (by decide) (by decide)) h9)
    refine tz_iload_n (p9 := 43) rfl rfl rfl ?_
    exact tz_reti rfl rfl
  | j + 1, p, hj => by
    refine tz_iload (p9 := 7) rfl rfl rfl ?_
    refine tz_bipush (x := 7) (p9 := 9) rfl rfl (by decide) ?_
    refine tz_icge (t9 := 42) (p9 := 12) rfl rfl rfl (fun h9 => absurd h9 (nI_ge (a := p) (b := 7) (by omega) (by decide))) (fun _ => ?_)
    refine tz_iload_n (p9 := 13) rfl rfl rfl ?_
    refine tz_iload (p9 := 15) rfl rfl rfl ?_
    refine tz_ishr (v := (nI (g / 2 ^ p))) (p9 := 16) rfl rfl (q_shr hg (by omega)) ?_
    refine tz_iconst (x := 1) (p9 := 17) rfl rfl (by decide) ?_
    refine tz_iand (v := (nI (g / 2 ^ p % 2))) (p9 := 18) rfl rfl (q_1 _) ?_
    refine tz_iconst (x := 1) (p9 := 19) rfl rfl (by decide) ?_
    refine tz_icne (t9 := 36) (p9 := 22) rfl rfl rfl (fun h1 => ?_) (fun h1 => ?_)
    · rw [← hc_0 (a := a) (g := g) (p := p) (fun h => h1 (congrArg nI h.1))]
      refine tz_iinc (y := (nI (p + 1))) (l9 := [.ref 14, .int (nI a), .int (nI g), .int (nI (hc a g (p + 1))), .int (nI (p + 1))]) (p9 := 39) rfl rfl rfl (nI_1 p) rfl ?_
      refine tz_goto (p9 := 5) rfl rfl ?_
      exact l_homeCount ha hg j (p + 1) (by omega)
    · have h2 : g / 2 ^ p % 2 = 1 := (nI_eq (b := 1) (by have := @q_bit g p; omega) (by decide)).mp h1
      refine tz_iload_n (p9 := 23) rfl rfl rfl ?_
      refine tz_iload (p9 := 25) rfl rfl rfl ?_
      refine tz_c1 (p9 := 28) (w1 := wl n c) (tz_calS (N := 152) (As := [.int (nI a), .int (nI p)]) (rest := []) rfl rfl rfl rfl rfl rfl) rfl ((f_pieceAt (d := 0) ha (by omega)).up (by omega)) ?_
      refine tz_iload (p9 := 30) rfl rfl rfl ?_
      refine tz_icne (t9 := 36) (p9 := 33) rfl rfl rfl (fun h3 => ?_) (fun h3 => ?_)
      · rw [← hc_0 (a := a) (g := g) (p := p) (fun h => h3 (congrArg nI h.2))]
        refine tz_iinc (y := (nI (p + 1))) (l9 := [.ref 14, .int (nI a), .int (nI g), .int (nI (hc a g (p + 1))), .int (nI (p + 1))]) (p9 := 39) rfl rfl rfl (nI_1 p) rfl ?_
        refine tz_goto (p9 := 5) rfl rfl ?_
        exact l_homeCount ha hg j (p + 1) (by omega)
      · have h4 : dg a p = p := (nI_eq (by have := dg_lt a p; omega) (by omega)).mp h3
        refine tz_iinc (y := (nI (hc a g (p + 1)))) (l9 := [.ref 14, .int (nI a), .int (nI g), .int (nI (hc a g (p + 1))), .int (nI p)]) (p9 := 36) rfl rfl rfl (by rw [hc_1 ⟨h2, h4⟩]; exact nI_1 _) rfl ?_
        refine tz_iinc (y := (nI (p + 1))) (l9 := [.ref 14, .int (nI a), .int (nI g), .int (nI (hc a g (p + 1))), .int (nI (p + 1))]) (p9 := 39) rfl rfl rfl (nI_1 p) rfl ?_
        refine tz_goto (p9 := 5) rfl rfl ?_
        exact l_homeCount ha hg j (p + 1) (by omega)
theorem f_homeCount {X : Nat × (Nat → Int32)} {d : Nat} {n : Nat} {c : Nat → px_E} {a g : Nat} (ha : a < 2147483648) (hg : g < 2147483648) : px_ev X (d + 2) 54 [.ref 14, .int (nI a), .int (nI g)] (wl n c) (some (some (.int (nI (hc a g 7)))), wl n c, 0, 0) := by
  refine px_ev.of (d := d + 1) (by decide) rfl rfl (fun h => by cases h) ?_
  show px_to X (d + 1) 54 (0, [.ref 14, .int (nI a), .int (nI g), .retAddr 0, .retAddr 0], [], wl n c, 0, 0) _
  refine tz_iconst (x := 0) (p9 := 1) rfl rfl (by decide) ?_
  refine tz_istore_n (l9 := [.ref 14, .int (nI a), .int (nI g), .int 0, .retAddr 0]) (p9 := 2) rfl rfl rfl rfl ?_
  refine tz_iconst (x := 0) (p9 := 3) rfl rfl (by decide) ?_
  refine tz_istore (l9 := [.ref 14, .int (nI a), .int (nI g), .int 0, .int 0]) (p9 := 5) rfl rfl rfl rfl ?_
  exact l_homeCount ha hg 7 0 (by omega)
/-- the first k from i on whose word is better: how many are passed -/
def fb (us : Nat → Nat) (F : Nat → Nat) (h : Nat) : Nat → Nat → Option Nat
  | 0, _ => none
  | j + 1, i => if h < F (us i) then some (us i) else fb us F h j (i + 1)
def oi (o : Option Nat) : Int32 := match o with
  | none => -1
  | some w => nI w
theorem l_firstBetter {X : Nat × (Nat → Int32)} {d : Nat} {n : Nat} {c : Nat → px_E} (hn : ∀ i, i < 47 → i < n) {P Mv : Nat} (hP : P ≤ 7) (hM : Mv ≤ 6) (hT : c 1 = .inr (.inr (0, [.int (nI P), .int (nI Mv), .ref 2, .ref 3]))) {wc : Nat} (hwc : wc ≤ 30) (hW : c 10 = .inr (.inr (2, [.ref 1, .ref 11, .ref 12, .ref 13, .int (nI wc)]))) {wg : Nat → Nat} (hWG : c 13 = .inl (0, 210, fun q => nI (wg q))) {sc : Nat} (hsc : sc ≤ 8) (hS : c 14 = .inr (.inr (3, [.ref 10, .ref 15, .ref 16, .ref 17, .int (nI sc)]))) {sg : Nat → Nat} (hSG : c 15 = .inl (0, 8, fun q => nI (sg q))) {su : Nat → Nat} (hSU : c 16 = .inl (0, 8, fun q => nI (su q))) {us : Nat → Nat} (hUS : c 17 = .inl (0, 96, fun q => nI (us q))) {s a : Nat} (hs : s < 8) (ha : a < 2147483648) (hg : sg s < 2147483648) (hu : su s ≤ 12) (hus : ∀ k, k < su s → us (s * 12 + k) < 30) (ht : ∀ k, k < su s → ∀ p, p < P → wg (us (s * 12 + k) * 7 + p) < 8) {k z : Nat} : ∀ (j i : Nat), i + j = su s → ∀ u, px_to X (d + 2) 53 (18, [.ref 14, .int (nI s), .int (nI a), .int (nI (sg s)), .int (nI (hc a (sg s) 7)), .int (nI i), u], [], wl n c, k, z) (some (some (.int (oi (fb (fun k => us (s * 12 + k)) (fun w => hb (fun q => wg (w * 7 + q)) a (sg s) P) (hc a (sg s) 7) j i)))), wl n c, k, z)
  | 0, i, hj => by
    have hp9 : i = su s := by omega
    subst hp9
    intro u
    refine tz_iload (p9 := 20) rfl rfl rfl ?_
    refine tz_aload_n (p9 := 21) rfl rfl rfl ?_
    refine tz_get (ci := 3) (f := 2) (v := .ref 16) (p9 := 24) rfl rfl rfl (hn 14 (by decide)) hS rfl ?_
    refine tz_iload_n (p9 := 25) rfl rfl rfl ?_
    refine tz_iald (v := (nI (su s))) (p9 := 26) rfl rfl (hn 16 (by decide)) hSU (q_in hs (by decide)) (by show nI (su _) = _; rw [q_c (by omega)]) ?_
    refine tz_icge (t9 := 68) (p9 := 29) rfl rfl rfl (fun _ => ?_) (fun h9 => absurd (nI_le (Nat.le_refl _) (by omega)) h9)
    refine tz_iconst (x := (-1)) (p9 := 69) rfl rfl (by decide) ?_
    exact tz_reti rfl rfl
  | j + 1, i, hj => by
    intro u
    refine tz_iload (p9 := 20) rfl rfl rfl ?_
    refine tz_aload_n (p9 := 21) rfl rfl rfl ?_
    refine tz_get (ci := 3) (f := 2) (v := .ref 16) (p9 := 24) rfl rfl rfl (hn 14 (by decide)) hS rfl ?_
    refine tz_iload_n (p9 := 25) rfl rfl rfl ?_
    refine tz_iald (v := (nI (su s))) (p9 := 26) rfl rfl (hn 16 (by decide)) hSU (q_in hs (by decide)) (by show nI (su _) = _; rw [q_c (by omega)]) ?_
    refine tz_icge (t9 := 68) (p9 := 29) rfl rfl rfl (fun h9 => absurd h9 (nI_ge (by omega) (by omega))) (fun _ => ?_)
    refine tz_aload_n (p9 := 30) rfl rfl rfl ?_
    refine tz_get (ci := 3) (f := 3) (v := .ref 17) (p9 := 33) rfl rfl rfl (hn 14 (by decide)) hS rfl ?_
    refine tz_iload_n (p9 := 34) rfl rfl rfl ?_
    refine tz_bipush (x := 12) (p9 := 36) rfl rfl (by decide) ?_
    refine tz_imul (v := (nI (s * 12))) (p9 := 37) rfl rfl (q_mul s 12) ?_
    refine tz_iload (p9 := 39) rfl rfl rfl ?_
    refine tz_iadd (v := (nI (s * 12 + i))) (p9 := 40) rfl rfl (nI_add _ _) ?_
    refine tz_iald (v := (nI (us (s * 12 + i)))) (p9 := 41) rfl rfl (hn 17 (by decide)) hUS (q_in (by omega) (by decide)) (by show nI (us _) = _; rw [q_c (by omega)]) ?_
    refine tz_istore (l9 := [.ref 14, .int (nI s), .int (nI a), .int (nI (sg s)), .int (nI (hc a (sg s) 7)), .int (nI i), .int (nI (us (s * 12 + i)))]) (p9 := 43) rfl rfl rfl rfl ?_
    refine tz_aload_n (p9 := 44) rfl rfl rfl ?_
    refine tz_get (ci := 3) (f := 0) (v := .ref 10) (p9 := 47) rfl rfl rfl (hn 14 (by decide)) hS rfl ?_
    refine tz_iload (p9 := 49) rfl rfl rfl ?_
    refine tz_iload_n (p9 := 50) rfl rfl rfl ?_
    refine tz_iload_n (p9 := 51) rfl rfl rfl ?_
    refine tz_c1 (p9 := 54) (w1 := wl n c) (tz_calV (N := 42) (i := 10) (As := [.int (nI (us (s * 12 + i))), .int (nI a), .int (nI (sg s))]) (rest := []) rfl rfl rfl rfl rfl (hn 10 (by decide)) hW rfl) rfl ((f_homeBehind (d := 0) hn hP hM hT hwc hW hWG (hus i (by omega)) ha hg (ht i (by omega))).up (by omega)) ?_
    refine tz_iload (p9 := 56) rfl rfl rfl ?_
    refine tz_icle (t9 := 62) (p9 := 59) rfl rfl rfl (fun h1 => ?_) (fun h1 => ?_)
    · have h2 : ¬ hc a (sg s) 7 < hb (fun q => wg (us (s * 12 + i) * 7 + q)) a (sg s) P := fun h => absurd h1 (nI_ge h (by have := hb_le (f := fun q => wg (us (s * 12 + i) * 7 + q)) (a := a) (g := sg s) P; omega))
      rw [show fb (fun k => us (s * 12 + k)) (fun w => hb (fun q => wg (w * 7 + q)) a (sg s) P) (hc a (sg s) 7) (j + 1) i = fb (fun k => us (s * 12 + k)) (fun w => hb (fun q => wg (w * 7 + q)) a (sg s) P) (hc a (sg s) 7) j (i + 1) from if_neg h2]
      refine tz_iinc (y := (nI (i + 1))) (l9 := [.ref 14, .int (nI s), .int (nI a), .int (nI (sg s)), .int (nI (hc a (sg s) 7)), .int (nI (i + 1)), .int (nI (us (s * 12 + i)))]) (p9 := 65) rfl rfl rfl (nI_1 i) rfl ?_
      refine tz_goto (p9 := 18) rfl rfl ?_
      exact l_firstBetter hn hP hM hT hwc hW hWG hsc hS hSG hSU hUS hs ha hg hu hus ht j (i + 1) (by omega) _
    · have h2 : hc a (sg s) 7 < hb (fun q => wg (us (s * 12 + i) * 7 + q)) a (sg s) P := (nI_ltI (by have := hc_le (a := a) (g := sg s) 7; omega) (by have := hb_le (f := fun q => wg (us (s * 12 + i) * 7 + q)) (a := a) (g := sg s) P; omega)).mp (Int32.not_le.mp h1)
      rw [show fb (fun k => us (s * 12 + k)) (fun w => hb (fun q => wg (w * 7 + q)) a (sg s) P) (hc a (sg s) 7) (j + 1) i = some (us (s * 12 + i)) from if_pos h2]
      refine tz_iload (p9 := 61) rfl rfl rfl ?_
      exact tz_reti rfl rfl
theorem f_firstBetter {X : Nat × (Nat → Int32)} {d : Nat} {n : Nat} {c : Nat → px_E} (hn : ∀ i, i < 47 → i < n) {P Mv : Nat} (hP : P ≤ 7) (hM : Mv ≤ 6) (hT : c 1 = .inr (.inr (0, [.int (nI P), .int (nI Mv), .ref 2, .ref 3]))) {wc : Nat} (hwc : wc ≤ 30) (hW : c 10 = .inr (.inr (2, [.ref 1, .ref 11, .ref 12, .ref 13, .int (nI wc)]))) {wg : Nat → Nat} (hWG : c 13 = .inl (0, 210, fun q => nI (wg q))) {sc : Nat} (hsc : sc ≤ 8) (hS : c 14 = .inr (.inr (3, [.ref 10, .ref 15, .ref 16, .ref 17, .int (nI sc)]))) {sg : Nat → Nat} (hSG : c 15 = .inl (0, 8, fun q => nI (sg q))) {su : Nat → Nat} (hSU : c 16 = .inl (0, 8, fun q => nI (su q))) {us : Nat → Nat} (hUS : c 17 = .inl (0, 96, fun q => nI (us q))) {s a : Nat} (hs : s < 8) (ha : a < 2147483648) (hg : sg s < 2147483648) (hu : su s ≤ 12) (hus : ∀ k, k < su s → us (s * 12 + k) < 30) (ht : ∀ k, k < su s → ∀ p, p < P → wg (us (s * 12 + k) * 7 + p) < 8) : px_ev X (d + 3) 53 [.ref 14, .int (nI s), .int (nI a)] (wl n c) (some (some (.int (oi (fb (fun k => us (s * 12 + k)) (fun w => hb (fun q => wg (w * 7 + q)) a (sg s) P) (hc a (sg s) 7) (su s) 0)))), wl n c, 0, 0) := by
  refine px_ev.of (d := d + 2) (by decide) rfl rfl (fun h => by cases h) ?_
  show px_to X (d + 2) 53 (0, [.ref 14, .int (nI s), .int (nI a), .retAddr 0, .retAddr 0, .retAddr 0, .retAddr 0], [], wl n c, 0, 0) _
  refine tz_aload_n (p9 := 1) rfl rfl rfl ?_
  refine tz_get (ci := 3) (f := 1) (v := .ref 15) (p9 := 4) rfl rfl rfl (hn 14 (by decide)) hS rfl ?_
  refine tz_iload_n (p9 := 5) rfl rfl rfl ?_
  refine tz_iald (v := (nI (sg s))) (p9 := 6) rfl rfl (hn 15 (by decide)) hSG (q_in hs (by decide)) (by show nI (sg _) = _; rw [q_c (by omega)]) ?_
  refine tz_istore_n (l9 := [.ref 14, .int (nI s), .int (nI a), .int (nI (sg s)), .retAddr 0, .retAddr 0, .retAddr 0]) (p9 := 7) rfl rfl rfl rfl ?_
  refine tz_aload_n (p9 := 8) rfl rfl rfl ?_
  refine tz_iload_n (p9 := 9) rfl rfl rfl ?_
  refine tz_iload_n (p9 := 10) rfl rfl rfl ?_
  refine tz_c1 (p9 := 13) (w1 := wl n c) (tz_calV (N := 54) (i := 14) (As := [.int (nI a), .int (nI (sg s))]) (rest := []) rfl rfl rfl rfl rfl (hn 14 (by decide)) hS rfl) rfl ((f_homeCount (d := 0) ha hg).up (by omega)) ?_
  refine tz_istore (l9 := [.ref 14, .int (nI s), .int (nI a), .int (nI (sg s)), .int (nI (hc a (sg s) 7)), .retAddr 0, .retAddr 0]) (p9 := 15) rfl rfl rfl rfl ?_
  refine tz_iconst (x := 0) (p9 := 16) rfl rfl (by decide) ?_
  refine tz_istore (l9 := [.ref 14, .int (nI s), .int (nI a), .int (nI (sg s)), .int (nI (hc a (sg s) 7)), .int 0, .retAddr 0]) (p9 := 18) rfl rfl rfl rfl ?_
  exact l_firstBetter hn hP hM hT hwc hW hWG hsc hS hSG hSU hUS hs ha hg hu hus ht (su s) 0 (by omega) _
