/-! THE REFERENCE: moves and words (wip/whole/gen/mk66.py) -/
theorem q_xi {m p : Nat} : 7 * nI m + nI p = nI (m * 7 + p) := by rw [show (7 * nI m : Int32) = nI (7 * m) from q_mul 7 m, nI_add, Nat.mul_comm]
theorem l_behind {X : Nat × (Nat → Int32)} {d : Nat} {n : Nat} {c : Nat → px_E} (hn : ∀ i, i < 47 → i < n) {P Mv sz wc mn dp sc dd tl : Nat} {th tm : Int32} (hP : P ≤ 7) (hM : Mv ≤ 6) (hR : c 26 = .inr (.inr (7, [.int th, .int (nI P), .int (nI Mv), .ref 27, .ref 28, .int (nI sz), .ref 29, .int (nI wc), .ref 30, .ref 31, .int (nI mn), .ref 32, .int (nI dp), .ref 33, .ref 34, .ref 35, .int tm, .int (nI sc), .ref 36, .ref 37, .ref 38, .int (nI dd), .ref 39, .ref 40, .ref 41, .ref 42, .ref 43, .ref 44, .int (nI tl), .ref 45]))) {t : Nat → Nat} (hTo : c 27 = .inl (0, 42, fun q => nI (t q))) {m p0 K : Nat} (hm : m < 6) (hp : p0 < P) (ht : ∀ q, q < P → t (m * 7 + q) < P) (hK : K < 2147483648) {r : px_Z} {k z : Nat} (kk : px_to X d 105 (32, [.ref 26, .int (nI m), .int (nI K), .int (nI p0), .int (nI (bh t m K p0)), .int (nI K)], [], wl n c, k, z) r) : ∀ (j p : Nat), p + j = K → px_to X d 105 (6, [.ref 26, .int (nI m), .int (nI K), .int (nI p0), .int (nI (bh t m p p0)), .int (nI p)], [], wl n c, k, z) r
  | 0, p, hj => by
    have hp9 : K = p := by omega
    subst hp9
    refine tz_iload (p9 := 8) rfl rfl rfl ?_
    refine tz_iload_n (p9 := 9) rfl rfl rfl ?_
    refine tz_icge (t9 := 32) (p9 := 12) rfl rfl rfl (fun _ => ?_) (fun h9 => absurd (nI_le (Nat.le_refl _) (by omega)) h9)
    exact kk
  | j + 1, p, hj => by
    refine tz_iload (p9 := 8) rfl rfl rfl ?_
    refine tz_iload_n (p9 := 9) rfl rfl rfl ?_
    refine tz_icge (t9 := 32) (p9 := 12) rfl rfl rfl (fun h9 => absurd h9 (nI_ge (by omega) (by omega))) (fun _ => ?_)
    refine tz_aload_n (p9 := 13) rfl rfl rfl ?_
    refine tz_get (ci := 7) (f := 3) (v := .ref 27) (p9 := 16) rfl rfl rfl (hn 26 (by decide)) hR rfl ?_
    refine tz_bipush (x := 7) (p9 := 18) rfl rfl (by decide) ?_
    refine tz_iload_n (p9 := 19) rfl rfl rfl ?_
    refine tz_imul (v := (7 * (nI m))) (p9 := 20) rfl rfl rfl ?_
    refine tz_iload (p9 := 22) rfl rfl rfl ?_
    refine tz_iadd (v := (nI (m * 7 + bh t m p p0))) (p9 := 23) rfl rfl q_xi ?_
    refine tz_iald (v := (nI (bh t m (p + 1) p0))) (p9 := 24) rfl rfl (hn 27 (by decide)) hTo (q_in (by have := bh_lt ht p p0 hp; omega) (by decide)) (by show nI (t _) = _; rw [q_c (by have := bh_lt ht p p0 hp; omega)]; rfl) ?_
    refine tz_istore (l9 := [.ref 26, .int (nI m), .int (nI K), .int (nI p0), .int (nI (bh t m (p + 1) p0)), .int (nI p)]) (p9 := 26) rfl rfl rfl rfl ?_
    refine tz_iinc (y := (nI (p + 1))) (l9 := [.ref 26, .int (nI m), .int (nI K), .int (nI p0), .int (nI (bh t m (p + 1) p0)), .int (nI (p + 1))]) (p9 := 29) rfl rfl rfl (nI_1 p) rfl ?_
    refine tz_goto (p9 := 6) rfl rfl ?_
    exact l_behind hn hP hM hR hTo hm hp ht hK kk j (p + 1) (by omega)
theorem f_behind {X : Nat × (Nat → Int32)} {d : Nat} {n : Nat} {c : Nat → px_E} (hn : ∀ i, i < 47 → i < n) {P Mv sz wc mn dp sc dd tl : Nat} {th tm : Int32} (hP : P ≤ 7) (hM : Mv ≤ 6) (hR : c 26 = .inr (.inr (7, [.int th, .int (nI P), .int (nI Mv), .ref 27, .ref 28, .int (nI sz), .ref 29, .int (nI wc), .ref 30, .ref 31, .int (nI mn), .ref 32, .int (nI dp), .ref 33, .ref 34, .ref 35, .int tm, .int (nI sc), .ref 36, .ref 37, .ref 38, .int (nI dd), .ref 39, .ref 40, .ref 41, .ref 42, .ref 43, .ref 44, .int (nI tl), .ref 45]))) {t : Nat → Nat} (hTo : c 27 = .inl (0, 42, fun q => nI (t q))) {m p0 K : Nat} (hm : m < 6) (hp : p0 < P) (ht : ∀ q, q < P → t (m * 7 + q) < P) (hK : K < 2147483648) : px_ev X (d + 1) 105 [.ref 26, .int (nI m), .int (nI K), .int (nI p0)] (wl n c) (some (some (.int (nI (bh t m K p0)))), wl n c, 0, 0) := by
  refine px_ev.of (d := d + 0) (by decide) rfl rfl (fun h => by cases h) ?_
  show px_to X (d + 0) 105 (0, [.ref 26, .int (nI m), .int (nI K), .int (nI p0), .retAddr 0, .retAddr 0], [], wl n c, 0, 0) _
  refine tz_iload_n (p9 := 1) rfl rfl rfl ?_
  refine tz_istore (l9 := [.ref 26, .int (nI m), .int (nI K), .int (nI p0), .int (nI p0), .retAddr 0]) (p9 := 3) rfl rfl rfl rfl ?_
  refine tz_iconst (x := 0) (p9 := 4) rfl rfl (by decide) ?_
  refine tz_istore (l9 := [.ref 26, .int (nI m), .int (nI K), .int (nI p0), .int (nI p0), .int 0]) (p9 := 6) rfl rfl rfl rfl ?_
  refine l_behind hn hP hM hR hTo hm hp ht hK ?_ K 0 (by omega)
  refine tz_iload (p9 := 34) rfl rfl rfl ?_
  exact tz_reti rfl rfl
def rd (t : Nat → Nat) (m P k : Nat) : Prop := ∀ q, q < P → bh t m k q = q
theorem l_isRound1 {X : Nat × (Nat → Int32)} {d : Nat} {n : Nat} {c : Nat → px_E} (hn : ∀ i, i < 47 → i < n) {P Mv sz wc mn dp sc dd tl : Nat} {th tm : Int32} (hP : P ≤ 7) (hM : Mv ≤ 6) (hR : c 26 = .inr (.inr (7, [.int th, .int (nI P), .int (nI Mv), .ref 27, .ref 28, .int (nI sz), .ref 29, .int (nI wc), .ref 30, .ref 31, .int (nI mn), .ref 32, .int (nI dp), .ref 33, .ref 34, .ref 35, .int tm, .int (nI sc), .ref 36, .ref 37, .ref 38, .int (nI dd), .ref 39, .ref 40, .ref 41, .ref 42, .ref 43, .ref 44, .int (nI tl), .ref 45]))) {t : Nat → Nat} (hTo : c 27 = .inl (0, 42, fun q => nI (t q))) {m K : Nat} (hm : m < 6) (ht : ∀ q, q < P → t (m * 7 + q) < P) (hK : K < 2147483648) (hq : rd t m P K) {k z : Nat} : ∀ (j p : Nat), p + j = P → px_to X (d + 1) 104 (2, [.ref 26, .int (nI m), .int (nI K), .int (nI p)], [], wl n c, k, z) (some (some (.int 1)), wl n c, k, z)
  | 0, p, hj => by
    have hp9 : P = p := by omega
    subst hp9
    refine tz_iload_n (p9 := 3) rfl rfl rfl ?_
    refine tz_aload_n (p9 := 4) rfl rfl rfl ?_
    refine tz_get (ci := 7) (f := 1) (v := .int (nI P)) (p9 := 7) rfl rfl rfl (hn 26 (by decide)) hR rfl ?_
    refine tz_icge (t9 := 29) (p9 := 10) rfl rfl rfl (fun _ => ?_) (fun h9 => absurd (nI_le (Nat.le_refl _) (by omega)) h9)
    refine tz_iconst (x := 1) (p9 := 30) rfl rfl (by decide) ?_
    exact tz_retz rfl rfl (by decide)
  | j + 1, p, hj => by
    refine tz_iload_n (p9 := 3) rfl rfl rfl ?_
    refine tz_aload_n (p9 := 4) rfl rfl rfl ?_
    refine tz_get (ci := 7) (f := 1) (v := .int (nI P)) (p9 := 7) rfl rfl rfl (hn 26 (by decide)) hR rfl ?_
    refine tz_icge (t9 := 29) (p9 := 10) rfl rfl rfl (fun h9 => absurd h9 (nI_ge (by omega) (by omega))) (fun _ => ?_)
    refine tz_aload_n (p9 := 11) rfl rfl rfl ?_
    refine tz_iload_n (p9 := 12) rfl rfl rfl ?_
    refine tz_iload_n (p9 := 13) rfl rfl rfl ?_
    refine tz_iload_n (p9 := 14) rfl rfl rfl ?_
    refine tz_c1 (p9 := 17) (w1 := wl n c) (tz_calV (N := 105) (i := 26) (As := [.int (nI m), .int (nI K), .int (nI p)]) (rest := []) rfl rfl rfl rfl rfl (hn 26 (by decide)) hR rfl) rfl ((f_behind (d := 0) hn hP hM hR hTo hm (by omega) ht hK).up (by omega)) ?_
    refine tz_iload_n (p9 := 18) rfl rfl rfl ?_
    refine tz_iceq (t9 := 23) (p9 := 21) rfl rfl rfl (fun _ => ?_) (fun h9 => absurd (congrArg nI (hq p (by omega))) h9)
    refine tz_iinc (y := (nI (p + 1))) (l9 := [.ref 26, .int (nI m), .int (nI K), .int (nI (p + 1))]) (p9 := 26) rfl rfl rfl (nI_1 p) rfl ?_
    refine tz_goto (p9 := 2) rfl rfl ?_
    exact l_isRound1 hn hP hM hR hTo hm ht hK hq j (p + 1) (by omega)
theorem l_isRound0 {X : Nat × (Nat → Int32)} {d : Nat} {n : Nat} {c : Nat → px_E} (hn : ∀ i, i < 47 → i < n) {P Mv sz wc mn dp sc dd tl : Nat} {th tm : Int32} (hP : P ≤ 7) (hM : Mv ≤ 6) (hR : c 26 = .inr (.inr (7, [.int th, .int (nI P), .int (nI Mv), .ref 27, .ref 28, .int (nI sz), .ref 29, .int (nI wc), .ref 30, .ref 31, .int (nI mn), .ref 32, .int (nI dp), .ref 33, .ref 34, .ref 35, .int tm, .int (nI sc), .ref 36, .ref 37, .ref 38, .int (nI dd), .ref 39, .ref 40, .ref 41, .ref 42, .ref 43, .ref 44, .int (nI tl), .ref 45]))) {t : Nat → Nat} (hTo : c 27 = .inl (0, 42, fun q => nI (t q))) {m K : Nat} (hm : m < 6) (ht : ∀ q, q < P → t (m * 7 + q) < P) (hK : K < 2147483648) (hq : ¬ rd t m P K) {k z : Nat} : ∀ (j p : Nat), p + j = P → (∀ q, q < p → bh t m K q = q) → px_to X (d + 1) 104 (2, [.ref 26, .int (nI m), .int (nI K), .int (nI p)], [], wl n c, k, z) (some (some (.int 0)), wl n c, k, z)
  | 0, p, hj => fun hall => absurd (fun q h => hall q (by omega)) hq
  | j + 1, p, hj => fun hall => by
    refine tz_iload_n (p9 := 3) rfl rfl rfl ?_
    refine tz_aload_n (p9 := 4) rfl rfl rfl ?_
    refine tz_get (ci := 7) (f := 1) (v := .int (nI P)) (p9 := 7) rfl rfl rfl (hn 26 (by decide)) hR rfl ?_
    refine tz_icge (t9 := 29) (p9 := 10) rfl rfl rfl (fun h9 => absurd h9 (nI_ge (by omega) (by omega))) (fun _ => ?_)
    refine tz_aload_n (p9 := 11) rfl rfl rfl ?_
    refine tz_iload_n (p9 := 12) rfl rfl rfl ?_
    refine tz_iload_n (p9 := 13) rfl rfl rfl ?_
    refine tz_iload_n (p9 := 14) rfl rfl rfl ?_
    refine tz_c1 (p9 := 17) (w1 := wl n c) (tz_calV (N := 105) (i := 26) (As := [.int (nI m), .int (nI K), .int (nI p)]) (rest := []) rfl rfl rfl rfl rfl (hn 26 (by decide)) hR rfl) rfl ((f_behind (d := 0) hn hP hM hR hTo hm (by omega) ht hK).up (by omega)) ?_
    refine tz_iload_n (p9 := 18) rfl rfl rfl ?_
    refine tz_iceq (t9 := 23) (p9 := 21) rfl rfl rfl (fun h9 => ?_) (fun h9 => ?_)
    · have h8 : bh t m K p = p := (nI_eq (by have := bh_lt ht K p (by omega); omega) (by omega)).mp h9
      refine tz_iinc (y := (nI (p + 1))) (l9 := [.ref 26, .int (nI m), .int (nI K), .int (nI (p + 1))]) (p9 := 26) rfl rfl rfl (nI_1 p) rfl ?_
      refine tz_goto (p9 := 2) rfl rfl ?_
      exact l_isRound0 hn hP hM hR hTo hm ht hK hq j (p + 1) (by omega) (fun q hq9 => by
        by_cases hqp : q = p
        · rw [hqp]; exact h8
        · exact hall q (by omega))
    · skip
      refine tz_iconst (x := 0) (p9 := 22) rfl rfl (by decide) ?_
      exact tz_retz rfl rfl (by decide)
theorem f_isRound1 {X : Nat × (Nat → Int32)} {d : Nat} {n : Nat} {c : Nat → px_E} (hn : ∀ i, i < 47 → i < n) {P Mv sz wc mn dp sc dd tl : Nat} {th tm : Int32} (hP : P ≤ 7) (hM : Mv ≤ 6) (hR : c 26 = .inr (.inr (7, [.int th, .int (nI P), .int (nI Mv), .ref 27, .ref 28, .int (nI sz), .ref 29, .int (nI wc), .ref 30, .ref 31, .int (nI mn), .ref 32, .int (nI dp), .ref 33, .ref 34, .ref 35, .int tm, .int (nI sc), .ref 36, .ref 37, .ref 38, .int (nI dd), .ref 39, .ref 40, .ref 41, .ref 42, .ref 43, .ref 44, .int (nI tl), .ref 45]))) {t : Nat → Nat} (hTo : c 27 = .inl (0, 42, fun q => nI (t q))) {m K : Nat} (hm : m < 6) (ht : ∀ q, q < P → t (m * 7 + q) < P) (hK : K < 2147483648) (hq : rd t m P K) : px_ev X (d + 2) 104 [.ref 26, .int (nI m), .int (nI K)] (wl n c) (some (some (.int 1)), wl n c, 0, 0) := by
  refine px_ev.of (d := d + 1) (by decide) rfl rfl (fun h => by cases h) ?_
  show px_to X (d + 1) 104 (0, [.ref 26, .int (nI m), .int (nI K), .retAddr 0], [], wl n c, 0, 0) _
  refine tz_iconst (x := 0) (p9 := 1) rfl rfl (by decide) ?_
  refine tz_istore_n (l9 := [.ref 26, .int (nI m), .int (nI K), .int 0]) (p9 := 2) rfl rfl rfl rfl ?_
  exact l_isRound1 hn hP hM hR hTo hm ht hK hq P 0 (by omega)
theorem f_isRound0 {X : Nat × (Nat → Int32)} {d : Nat} {n : Nat} {c : Nat → px_E} (hn : ∀ i, i < 47 → i < n) {P Mv sz wc mn dp sc dd tl : Nat} {th tm : Int32} (hP : P ≤ 7) (hM : Mv ≤ 6) (hR : c 26 = .inr (.inr (7, [.int th, .int (nI P), .int (nI Mv), .ref 27, .ref 28, .int (nI sz), .ref 29, .int (nI wc), .ref 30, .ref 31, .int (nI mn), .ref 32, .int (nI dp), .ref 33, .ref 34, .ref 35, .int tm, .int (nI sc), .ref 36, .ref 37, .ref 38, .int (nI dd), .ref 39, .ref 40, .ref 41, .ref 42, .ref 43, .ref 44, .int (nI tl), .ref 45]))) {t : Nat → Nat} (hTo : c 27 = .inl (0, 42, fun q => nI (t q))) {m K : Nat} (hm : m < 6) (ht : ∀ q, q < P → t (m * 7 + q) < P) (hK : K < 2147483648) (hq : ¬ rd t m P K) : px_ev X (d + 2) 104 [.ref 26, .int (nI m), .int (nI K)] (wl n c) (some (some (.int 0)), wl n c, 0, 0) := by
  refine px_ev.of (d := d + 1) (by decide) rfl rfl (fun h => by cases h) ?_
  show px_to X (d + 1) 104 (0, [.ref 26, .int (nI m), .int (nI K), .retAddr 0], [], wl n c, 0, 0) _
  refine tz_iconst (x := 0) (p9 := 1) rfl rfl (by decide) ?_
  refine tz_istore_n (l9 := [.ref 26, .int (nI m), .int (nI K), .int 0]) (p9 := 2) rfl rfl rfl rfl ?_
  exact l_isRound0 hn hP hM hR hTo hm ht hK hq P 0 (by omega) (fun q h => by omega)
theorem l_mOrder {X : Nat × (Nat → Int32)} {d : Nat} {n : Nat} {c : Nat → px_E} (hn : ∀ i, i < 47 → i < n) {P Mv sz wc mn dp sc dd tl : Nat} {th tm : Int32} (hP : P ≤ 7) (hM : Mv ≤ 6) (hR : c 26 = .inr (.inr (7, [.int th, .int (nI P), .int (nI Mv), .ref 27, .ref 28, .int (nI sz), .ref 29, .int (nI wc), .ref 30, .ref 31, .int (nI mn), .ref 32, .int (nI dp), .ref 33, .ref 34, .ref 35, .int tm, .int (nI sc), .ref 36, .ref 37, .ref 38, .int (nI dd), .ref 39, .ref 40, .ref 41, .ref 42, .ref 43, .ref 44, .int (nI tl), .ref 45]))) {t : Nat → Nat} (hTo : c 27 = .inl (0, 42, fun q => nI (t q))) {m N : Nat} (hm : m < 6) (ht : ∀ q, q < P → t (m * 7 + q) < P) (hN : N < 2147483648) (hN1 : 1 ≤ N) (hq : rd t m P N) (hno : ∀ j, 1 ≤ j → j < N → ¬ rd t m P j) {k z : Nat} : ∀ (j p : Nat), p + j = N → 1 ≤ p → px_to X (d + 2) 103 (2, [.ref 26, .int (nI m), .int (nI p)], [], wl n c, k, z) (some (some (.int (nI N))), wl n c, k, z)
  | 0, p, hj => by
    have hp9 : N = p := by omega
    subst hp9
    intro h1
    refine tz_aload_n (p9 := 3) rfl rfl rfl ?_
    refine tz_iload_n (p9 := 4) rfl rfl rfl ?_
    refine tz_iload_n (p9 := 5) rfl rfl rfl ?_
    refine tz_c1 (p9 := 8) (w1 := wl n c) (tz_calV (N := 104) (i := 26) (As := [.int (nI m), .int (nI N)]) (rest := []) rfl rfl rfl rfl rfl (hn 26 (by decide)) hR rfl) rfl ((f_isRound1 (d := 0) hn hP hM hR hTo hm ht hN hq).up (by omega)) ?_
    refine tz_ifne (t9 := 17) (p9 := 11) rfl rfl rfl (fun _ => ?_) (fun h9 => absurd h9 (by decide))
    refine tz_iload_n (p9 := 18) rfl rfl rfl ?_
    exact tz_reti rfl rfl
  | j + 1, p, hj => by
    intro h1
    refine tz_aload_n (p9 := 3) rfl rfl rfl ?_
    refine tz_iload_n (p9 := 4) rfl rfl rfl ?_
    refine tz_iload_n (p9 := 5) rfl rfl rfl ?_
    refine tz_c1 (p9 := 8) (w1 := wl n c) (tz_calV (N := 104) (i := 26) (As := [.int (nI m), .int (nI p)]) (rest := []) rfl rfl rfl rfl rfl (hn 26 (by decide)) hR rfl) rfl ((f_isRound0 (d := 0) hn hP hM hR hTo hm ht (by omega) (hno p h1 (by omega))).up (by omega)) ?_
    refine tz_ifne (t9 := 17) (p9 := 11) rfl rfl rfl (fun h9 => absurd (rfl : (0 : Int32) = 0) h9) (fun _ => ?_)
    refine tz_iinc (y := (nI (p + 1))) (l9 := [.ref 26, .int (nI m), .int (nI (p + 1))]) (p9 := 14) rfl rfl rfl (nI_1 p) rfl ?_
    refine tz_goto (p9 := 2) rfl rfl ?_
    exact l_mOrder hn hP hM hR hTo hm ht hN hN1 hq hno j (p + 1) (by omega) (by omega)
theorem f_mOrder {X : Nat × (Nat → Int32)} {d : Nat} {n : Nat} {c : Nat → px_E} (hn : ∀ i, i < 47 → i < n) {P Mv sz wc mn dp sc dd tl : Nat} {th tm : Int32} (hP : P ≤ 7) (hM : Mv ≤ 6) (hR : c 26 = .inr (.inr (7, [.int th, .int (nI P), .int (nI Mv), .ref 27, .ref 28, .int (nI sz), .ref 29, .int (nI wc), .ref 30, .ref 31, .int (nI mn), .ref 32, .int (nI dp), .ref 33, .ref 34, .ref 35, .int tm, .int (nI sc), .ref 36, .ref 37, .ref 38, .int (nI dd), .ref 39, .ref 40, .ref 41, .ref 42, .ref 43, .ref 44, .int (nI tl), .ref 45]))) {t : Nat → Nat} (hTo : c 27 = .inl (0, 42, fun q => nI (t q))) {m N : Nat} (hm : m < 6) (ht : ∀ q, q < P → t (m * 7 + q) < P) (hN : N < 2147483648) (hN1 : 1 ≤ N) (hq : rd t m P N) (hno : ∀ j, 1 ≤ j → j < N → ¬ rd t m P j) : px_ev X (d + 3) 103 [.ref 26, .int (nI m)] (wl n c) (some (some (.int (nI N))), wl n c, 0, 0) := by
  refine px_ev.of (d := d + 2) (by decide) rfl rfl (fun h => by cases h) ?_
  show px_to X (d + 2) 103 (0, [.ref 26, .int (nI m), .retAddr 0], [], wl n c, 0, 0) _
  refine tz_iconst (x := 1) (p9 := 1) rfl rfl (by decide) ?_
  refine tz_istore_n (l9 := [.ref 26, .int (nI m), .int 1]) (p9 := 2) rfl rfl rfl rfl ?_
  exact l_mOrder hn hP hM hR hTo hm ht hN hN1 hq hno (N - 1) 1 (by omega) (by omega)
theorem l_imageOf {X : Nat × (Nat → Int32)} {d : Nat} {n : Nat} {c : Nat → px_E} (hn : ∀ i, i < 47 → i < n) {P Mv sz wc mn dp sc dd tl : Nat} {th tm : Int32} (hP : P ≤ 7) (hM : Mv ≤ 6) (hR : c 26 = .inr (.inr (7, [.int th, .int (nI P), .int (nI Mv), .ref 27, .ref 28, .int (nI sz), .ref 29, .int (nI wc), .ref 30, .ref 31, .int (nI mn), .ref 32, .int (nI dp), .ref 33, .ref 34, .ref 35, .int tm, .int (nI sc), .ref 36, .ref 37, .ref 38, .int (nI dd), .ref 39, .ref 40, .ref 41, .ref 42, .ref 43, .ref 44, .int (nI tl), .ref 45]))) {t : Nat → Nat} (hTo : c 27 = .inl (0, 42, fun q => nI (t q))) {rl : Nat → Nat} (hLn : c 30 = .inl (0, 30, fun q => nI (rl q))) {rr : Nat → Nat} (hRm : c 31 = .inl (0, 1200, fun q => nI (rr q))) {w p0 L : Nat} (hw : w < 30) (hp : p0 < P) (hL : rl w = L) (hL4 : L ≤ 40) (hrr : ∀ k, k < L → rr (w * 40 + k) / 16 < 6) (ht : ∀ k, k < L → ∀ q, q < P → t (rr (w * 40 + k) / 16 * 7 + q) < P) (hr9 : ∀ k, k < L → rr (w * 40 + k) < 2147483648) {r : px_Z} {k z : Nat} (kk : px_to X (d + 1) 120 (58, [.ref 26, .int (nI w), .int (nI p0), .int (nI (im t (fun k => rr (w * 40 + k)) L p0)), .int (nI L)], [], wl n c, k, z) r) : ∀ (j p : Nat), p + j = L → px_to X (d + 1) 120 (5, [.ref 26, .int (nI w), .int (nI p0), .int (nI (im t (fun k => rr (w * 40 + k)) p p0)), .int (nI p)], [], wl n c, k, z) r
  | 0, p, hj => by
    have hp9 : L = p := by omega
    subst hp9
    refine tz_iload (p9 := 7) rfl rfl rfl ?_
    refine tz_aload_n (p9 := 8) rfl rfl rfl ?_
    refine tz_get (ci := 7) (f := 8) (v := .ref 30) (p9 := 11) rfl rfl rfl (hn 26 (by decide)) hR rfl ?_
    refine tz_iload_n (p9 := 12) rfl rfl rfl ?_
    refine tz_iald (v := (nI L)) (p9 := 13) rfl rfl (hn 30 (by decide)) hLn (q_in (by omega) (by decide)) (by show nI (rl (nI w).toNatClampNeg) = _; rw [q_c (by omega), hL]) ?_
    refine tz_icge (t9 := 58) (p9 := 16) rfl rfl rfl (fun _ => ?_) (fun h9 => absurd (nI_le (Nat.le_refl _) (by omega)) h9)
    exact kk
  | j + 1, p, hj => by
    refine tz_iload (p9 := 7) rfl rfl rfl ?_
    refine tz_aload_n (p9 := 8) rfl rfl rfl ?_
    refine tz_get (ci := 7) (f := 8) (v := .ref 30) (p9 := 11) rfl rfl rfl (hn 26 (by decide)) hR rfl ?_
    refine tz_iload_n (p9 := 12) rfl rfl rfl ?_
    refine tz_iald (v := (nI L)) (p9 := 13) rfl rfl (hn 30 (by decide)) hLn (q_in (by omega) (by decide)) (by show nI (rl (nI w).toNatClampNeg) = _; rw [q_c (by omega), hL]) ?_
    refine tz_icge (t9 := 58) (p9 := 16) rfl rfl rfl (fun h9 => absurd h9 (nI_ge (by omega) (by omega))) (fun _ => ?_)
    refine tz_aload_n (p9 := 17) rfl rfl rfl ?_
    refine tz_aload_n (p9 := 18) rfl rfl rfl ?_
    refine tz_get (ci := 7) (f := 9) (v := .ref 31) (p9 := 21) rfl rfl rfl (hn 26 (by decide)) hR rfl ?_
    refine tz_bipush (x := 40) (p9 := 23) rfl rfl (by decide) ?_
    refine tz_iload_n (p9 := 24) rfl rfl rfl ?_
    refine tz_imul (v := (nI (w * 40))) (p9 := 25) rfl rfl (by rw [show (40 * nI w : Int32) = nI (40 * w) from q_mul 40 w, Nat.mul_comm]) ?_
    refine tz_iload (p9 := 27) rfl rfl rfl ?_
    refine tz_iadd (v := (nI (w * 40 + p))) (p9 := 28) rfl rfl (nI_add _ _) ?_
    refine tz_iald (v := (nI (rr (w * 40 + p)))) (p9 := 29) rfl rfl (hn 31 (by decide)) hRm (q_in (by omega) (by decide)) (by show nI (rr _) = _; rw [q_c (by omega)]) ?_
    refine tz_bipush (x := 16) (p9 := 31) rfl rfl (by decide) ?_
    refine tz_idiv (v := (nI (rr (w * 40 + p) / 16))) (p9 := 32) rfl rfl (by decide) (pk_div (d := 16) (hr9 p (by omega)) (by decide) (by decide)) ?_
    refine tz_aload_n (p9 := 33) rfl rfl rfl ?_
    refine tz_get (ci := 7) (f := 9) (v := .ref 31) (p9 := 36) rfl rfl rfl (hn 26 (by decide)) hR rfl ?_
    refine tz_bipush (x := 40) (p9 := 38) rfl rfl (by decide) ?_
    refine tz_iload_n (p9 := 39) rfl rfl rfl ?_
    refine tz_imul (v := (nI (w * 40))) (p9 := 40) rfl rfl (by rw [show (40 * nI w : Int32) = nI (40 * w) from q_mul 40 w, Nat.mul_comm]) ?_
    refine tz_iload (p9 := 42) rfl rfl rfl ?_
    refine tz_iadd (v := (nI (w * 40 + p))) (p9 := 43) rfl rfl (nI_add _ _) ?_
    refine tz_iald (v := (nI (rr (w * 40 + p)))) (p9 := 44) rfl rfl (hn 31 (by decide)) hRm (q_in (by omega) (by decide)) (by show nI (rr _) = _; rw [q_c (by omega)]) ?_
    refine tz_bipush (x := 16) (p9 := 46) rfl rfl (by decide) ?_
    refine tz_irem (v := (nI (rr (w * 40 + p) % 16))) (p9 := 47) rfl rfl (by decide) (pk_rem (d := 16) (hr9 p (by omega)) (by decide) (by decide)) ?_
    refine tz_iload_n (p9 := 48) rfl rfl rfl ?_
    refine tz_c1 (p9 := 51) (w1 := wl n c) (tz_calV (N := 105) (i := 26) (As := [.int (nI (rr (w * 40 + p) / 16)), .int (nI (rr (w * 40 + p) % 16)), .int (nI (im t (fun k => rr (w * 40 + k)) p p0))]) (rest := []) rfl rfl rfl rfl rfl (hn 26 (by decide)) hR rfl) rfl ((f_behind (d := 0) hn hP hM hR hTo (hrr p (by omega)) (im_lt ht p (by omega) p0 hp) (ht p (by omega)) (Nat.lt_of_lt_of_le (Nat.mod_lt _ (by decide)) (by decide))).up (by omega)) ?_
    refine tz_istore_n (l9 := [.ref 26, .int (nI w), .int (nI p0), .int (nI (im t (fun k => rr (w * 40 + k)) (p + 1) p0)), .int (nI p)]) (p9 := 52) rfl rfl rfl rfl ?_
    refine tz_iinc (y := (nI (p + 1))) (l9 := [.ref 26, .int (nI w), .int (nI p0), .int (nI (im t (fun k => rr (w * 40 + k)) (p + 1) p0)), .int (nI (p + 1))]) (p9 := 55) rfl rfl rfl (nI_1 p) rfl ?_
    refine tz_goto (p9 := 5) rfl rfl ?_
    exact l_imageOf hn hP hM hR hTo hLn hRm hw hp hL hL4 hrr ht hr9 kk j (p + 1) (by omega)
theorem f_imageOf {X : Nat × (Nat → Int32)} {d : Nat} {n : Nat} {c : Nat → px_E} (hn : ∀ i, i < 47 → i < n) {P Mv sz wc mn dp sc dd tl : Nat} {th tm : Int32} (hP : P ≤ 7) (hM : Mv ≤ 6) (hR : c 26 = .inr (.inr (7, [.int th, .int (nI P), .int (nI Mv), .ref 27, .ref 28, .int (nI sz), .ref 29, .int (nI wc), .ref 30, .ref 31, .int (nI mn), .ref 32, .int (nI dp), .ref 33, .ref 34, .ref 35, .int tm, .int (nI sc), .ref 36, .ref 37, .ref 38, .int (nI dd), .ref 39, .ref 40, .ref 41, .ref 42, .ref 43, .ref 44, .int (nI tl), .ref 45]))) {t : Nat → Nat} (hTo : c 27 = .inl (0, 42, fun q => nI (t q))) {rl : Nat → Nat} (hLn : c 30 = .inl (0, 30, fun q => nI (rl q))) {rr : Nat → Nat} (hRm : c 31 = .inl (0, 1200, fun q => nI (rr q))) {w p0 L : Nat} (hw : w < 30) (hp : p0 < P) (hL : rl w = L) (hL4 : L ≤ 40) (hrr : ∀ k, k < L → rr (w * 40 + k) / 16 < 6) (ht : ∀ k, k < L → ∀ q, q < P → t (rr (w * 40 + k) / 16 * 7 + q) < P) (hr9 : ∀ k, k < L → rr (w * 40 + k) < 2147483648) : px_ev X (d + 2) 120 [.ref 26, .int (nI w), .int (nI p0)] (wl n c) (some (some (.int (nI (im t (fun k => rr (w * 40 + k)) L p0)))), wl n c, 0, 0) := by
  refine px_ev.of (d := d + 1) (by decide) rfl rfl (fun h => by cases h) ?_
  show px_to X (d + 1) 120 (0, [.ref 26, .int (nI w), .int (nI p0), .retAddr 0, .retAddr 0], [], wl n c, 0, 0) _
  refine tz_iload_n (p9 := 1) rfl rfl rfl ?_
  refine tz_istore_n (l9 := [.ref 26, .int (nI w), .int (nI p0), .int (nI p0), .retAddr 0]) (p9 := 2) rfl rfl rfl rfl ?_
  refine tz_iconst (x := 0) (p9 := 3) rfl rfl (by decide) ?_
  refine tz_istore (l9 := [.ref 26, .int (nI w), .int (nI p0), .int (nI p0), .int 0]) (p9 := 5) rfl rfl rfl rfl ?_
  refine l_imageOf hn hP hM hR hTo hLn hRm hw hp hL hL4 hrr ht hr9 ?_ L 0 (by omega)
  refine tz_iload_n (p9 := 59) rfl rfl rfl ?_
  exact tz_reti rfl rfl
