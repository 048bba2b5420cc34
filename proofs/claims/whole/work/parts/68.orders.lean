/-! THE CLASS: orders, exchange of goals, words (wip/whole/gen/mk68.py) -/
/-- the state behind a move done k times, from all at home -/
def ts (t : Nat → Nat) (m P : Nat) : Nat → Nat
  | 0 => hm8 P
  | k + 1 => tr (fun q => t (m * 7 + q)) (ts t m P k) P
theorem q_or21 {a b : Nat} (ha : a < 2097152) (hb : b < 2097152) : a ||| b < 2097152 := Nat.or_lt_two_pow (n := 21) ha hb
theorem q_d21 {v i : Nat} (hv : v < 8) (hi : i < 7) : v * 8 ^ i < 2097152 := by
  have h1 : 8 ^ i ≤ 262144 := by
    have := Nat.pow_le_pow_right (n := 8) (by decide) (show i ≤ 6 by omega)
    exact this
  have h2 : v * 8 ^ i ≤ 7 * 262144 := Nat.mul_le_mul (by omega) h1
  omega
theorem tr_lt {f : Nat → Nat} {a P : Nat} (hf : ∀ q, q < P → f q < 7) : ∀ p, p ≤ P → tr f a p < 2097152
  | 0, _ => by show 0 < 2097152; decide
  | p + 1, h => q_or21 (tr_lt hf p (by omega)) (q_d21 (dg_lt a p) (hf p (by omega)))
theorem hm8_lt : ∀ p, p ≤ 7 → hm8 p < 2097152
  | 0, _ => by decide
  | p + 1, h => q_or21 (hm8_lt p (by omega)) (q_d21 (by omega) (by omega))
theorem ts_lt {t : Nat → Nat} {m P : Nat} (hP : P ≤ 7) (ht : ∀ q, q < P → t (m * 7 + q) < P) : ∀ k, ts t m P k < 2097152
  | 0 => hm8_lt P hP
  | k + 1 => tr_lt (fun q hq => by have := ht q hq; omega) P (Nat.le_refl _)
theorem l_countOrder {X : Nat × (Nat → Int32)} {d : Nat} {n : Nat} {c : Nat → px_E} (hn : ∀ i, i < 47 → i < n) {P Mv : Nat} (hP : P ≤ 7) (hM : Mv ≤ 6) (hT : c 1 = .inr (.inr (0, [.int (nI P), .int (nI Mv), .ref 2, .ref 3]))) {t : Nat → Nat} (hG : c 2 = .inl (0, 42, fun q => nI (t q))) {m N : Nat} (hm : m < 6) (ht : ∀ q, q < P → t (m * 7 + q) < P) (hN1 : 1 ≤ N) (hN : N ≤ 12) (hq : ts t m P N = hm8 P) (hno : ∀ j, 1 ≤ j → j < N → ts t m P j ≠ hm8 P) {k z : Nat} : ∀ (j p : Nat), p + j = N → 1 ≤ p → px_to X (d + 2) 9 (18, [.ref 1, .int (nI m), .int (nI (hm8 P)), .int (nI (ts t m P p)), .int (nI p)], [], wl n c, k, z) (some (some (.int (nI N))), wl n c, k, z)
  | 0, p, hj => by
    have hp9 : N = p := by omega
    subst hp9
    intro h1
    refine tz_iload_n (p9 := 19) rfl rfl rfl ?_
    refine tz_iload_n (p9 := 20) rfl rfl rfl ?_
    refine tz_iceq (t9 := 43) (p9 := 23) rfl rfl rfl (fun _ => ?_) (fun h9 => absurd (congrArg nI hq) h9)
    refine tz_iload (p9 := 45) rfl rfl rfl ?_
    exact tz_reti rfl rfl
  | j + 1, p, hj => by
    intro h1
    refine tz_iload_n (p9 := 19) rfl rfl rfl ?_
    refine tz_iload_n (p9 := 20) rfl rfl rfl ?_
    refine tz_iceq (t9 := 43) (p9 := 23) rfl rfl rfl (fun h9 => absurd h9 (fun h8 => hno p h1 (by omega) ((nI_eq (by have := ts_lt hP ht p; omega) (by have := hm8_lt P hP; omega)).mp h8))) (fun _ => ?_)
    refine tz_iload (p9 := 25) rfl rfl rfl ?_
    refine tz_bipush (x := 12) (p9 := 27) rfl rfl (by decide) ?_
    refine tz_icge (t9 := 43) (p9 := 30) rfl rfl rfl (fun h9 => absurd h9 (nI_ge (a := p) (b := 12) (by omega) (by decide))) (fun _ => ?_)
    refine tz_aload_n (p9 := 31) rfl rfl rfl ?_
    refine tz_iload_n (p9 := 32) rfl rfl rfl ?_
    refine tz_iload_n (p9 := 33) rfl rfl rfl ?_
    refine tz_c1 (p9 := 36) (w1 := wl n c) (tz_calV (N := 10) (i := 1) (As := [.int (nI m), .int (nI (ts t m P p))]) (rest := []) rfl rfl rfl rfl rfl (hn 1 (by decide)) hT rfl) rfl ((f_turned (d := 0) hn hP hM hT hG hm (Nat.lt_of_lt_of_le (ts_lt hP ht p) (by decide)) (fun q hq => by have := ht q hq; omega)).up (by omega)) ?_
    refine tz_istore_n (l9 := [.ref 1, .int (nI m), .int (nI (hm8 P)), .int (nI (ts t m P (p + 1))), .int (nI p)]) (p9 := 37) rfl rfl rfl rfl ?_
    refine tz_iinc (y := (nI (p + 1))) (l9 := [.ref 1, .int (nI m), .int (nI (hm8 P)), .int (nI (ts t m P (p + 1))), .int (nI (p + 1))]) (p9 := 40) rfl rfl rfl (nI_1 p) rfl ?_
    refine tz_goto (p9 := 18) rfl rfl ?_
    exact l_countOrder hn hP hM hT hG hm ht hN1 hN hq hno j (p + 1) (by omega) (by omega)
theorem f_countOrder {X : Nat × (Nat → Int32)} {d : Nat} {n : Nat} {c : Nat → px_E} (hn : ∀ i, i < 47 → i < n) {P Mv : Nat} (hP : P ≤ 7) (hM : Mv ≤ 6) (hT : c 1 = .inr (.inr (0, [.int (nI P), .int (nI Mv), .ref 2, .ref 3]))) {t : Nat → Nat} (hG : c 2 = .inl (0, 42, fun q => nI (t q))) {m N : Nat} (hm : m < 6) (ht : ∀ q, q < P → t (m * 7 + q) < P) (hN1 : 1 ≤ N) (hN : N ≤ 12) (hq : ts t m P N = hm8 P) (hno : ∀ j, 1 ≤ j → j < N → ts t m P j ≠ hm8 P) : px_ev X (d + 3) 9 [.ref 1, .int (nI m)] (wl n c) (some (some (.int (nI N))), wl n c, 0, 0) := by
  refine px_ev.of (d := d + 2) (by decide) rfl rfl (fun h => by cases h) ?_
  show px_to X (d + 2) 9 (0, [.ref 1, .int (nI m), .retAddr 0, .retAddr 0, .retAddr 0], [], wl n c, 0, 0) _
  refine tz_aload_n (p9 := 1) rfl rfl rfl ?_
  refine tz_get (ci := 0) (f := 0) (v := .int (nI P)) (p9 := 4) rfl rfl rfl (hn 1 (by decide)) hT rfl ?_
  refine tz_c1 (p9 := 7) (w1 := wl n c) (tz_calS (N := 151) (As := [.int (nI P)]) (rest := []) rfl rfl rfl rfl rfl rfl) rfl ((f_allHome (d := 0) hP).up (by omega)) ?_
  refine tz_istore_n (l9 := [.ref 1, .int (nI m), .int (nI (hm8 P)), .retAddr 0, .retAddr 0]) (p9 := 8) rfl rfl rfl rfl ?_
  refine tz_aload_n (p9 := 9) rfl rfl rfl ?_
  refine tz_iload_n (p9 := 10) rfl rfl rfl ?_
  refine tz_iload_n (p9 := 11) rfl rfl rfl ?_
  refine tz_c1 (p9 := 14) (w1 := wl n c) (tz_calV (N := 10) (i := 1) (As := [.int (nI m), .int (nI (hm8 P))]) (rest := []) rfl rfl rfl rfl rfl (hn 1 (by decide)) hT rfl) rfl ((f_turned (d := 0) hn hP hM hT hG hm (Nat.lt_of_lt_of_le (ts_lt hP ht 0) (by decide)) (fun q hq => by have := ht q hq; omega)).up (by omega)) ?_
  refine tz_istore_n (l9 := [.ref 1, .int (nI m), .int (nI (hm8 P)), .int (nI (ts t m P (0 + 1))), .retAddr 0]) (p9 := 15) rfl rfl rfl rfl ?_
  refine tz_iconst (x := 1) (p9 := 16) rfl rfl (by decide) ?_
  refine tz_istore (l9 := [.ref 1, .int (nI m), .int (nI (hm8 P)), .int (nI (ts t m P (0 + 1))), .int 1]) (p9 := 18) rfl rfl rfl rfl ?_
  exact l_countOrder hn hP hM hT hG hm ht hN1 hN hq hno (N - 1) 1 (by omega) (by omega)
theorem f_exchangeGoals {X : Nat × (Nat → Int32)} {d : Nat} {n : Nat} {c : Nat → px_E} (hn : ∀ i, i < 47 → i < n) {P Mv : Nat} (hP : P ≤ 7) (hM : Mv ≤ 6) (hT : c 1 = .inr (.inr (0, [.int (nI P), .int (nI Mv), .ref 2, .ref 3]))) {t : Nat → Nat} (hG : c 2 = .inl (0, 42, fun q => nI (t q))) {od : Nat → Nat} (hO : c 3 = .inl (0, 6, fun q => nI (od q))) {m x y N : Nat} (hm : m < 6) (hx : x < P) (hy : y < P) {t1 : Nat → Nat} (h1 : t1 = (un (un t (m * 7 + x) (t (m * 7 + y))) (m * 7 + y) (t (m * 7 + x)))) (ht : ∀ q, q < P → t1 (m * 7 + q) < P) (hN1 : 1 ≤ N) (hN : N ≤ 12) (hq : ts t1 m P N = hm8 P) (hno : ∀ j, 1 ≤ j → j < N → ts t1 m P j ≠ hm8 P) : px_ev X (d + 4) 8 [.ref 1, .int (nI m), .int (nI x), .int (nI y)] (wl n c) (some none, wl n (mu (mu c 2 (.inl (0, 42, fun q => nI (t1 q)))) 3 (.inl (0, 6, fun q => nI (un od m N q)))), 0, 0) := by
  refine px_ev.of (d := d + 3) (by decide) rfl rfl (fun h => by cases h) ?_
  show px_to X (d + 3) 8 (0, [.ref 1, .int (nI m), .int (nI x), .int (nI y), .retAddr 0, .retAddr 0], [], wl n c, 0, 0) _
  refine tz_iload_n (p9 := 1) rfl rfl rfl ?_
  refine tz_bipush (x := 7) (p9 := 3) rfl rfl (by decide) ?_
  refine tz_imul (v := (nI (m * 7))) (p9 := 4) rfl rfl (q_mul m 7) ?_
  refine tz_istore (l9 := [.ref 1, .int (nI m), .int (nI x), .int (nI y), .int (nI (m * 7)), .retAddr 0]) (p9 := 6) rfl rfl rfl rfl ?_
  refine tz_aload_n (p9 := 7) rfl rfl rfl ?_
  refine tz_get (ci := 0) (f := 2) (v := .ref 2) (p9 := 10) rfl rfl rfl (hn 1 (by decide)) hT rfl ?_
  refine tz_iload (p9 := 12) rfl rfl rfl ?_
  refine tz_iload_n (p9 := 13) rfl rfl rfl ?_
  refine tz_iadd (v := (nI (m * 7 + x))) (p9 := 14) rfl rfl (nI_add _ _) ?_
  refine tz_iald (v := (nI (t (m * 7 + x)))) (p9 := 15) rfl rfl (hn 2 (by decide)) hG (q_in (by omega) (by decide)) (by show nI (t _) = _; rw [q_c (by omega)]) ?_
  refine tz_istore (l9 := [.ref 1, .int (nI m), .int (nI x), .int (nI y), .int (nI (m * 7)), .int (nI (t (m * 7 + x)))]) (p9 := 17) rfl rfl rfl rfl ?_
  refine tz_aload_n (p9 := 18) rfl rfl rfl ?_
  refine tz_get (ci := 0) (f := 2) (v := .ref 2) (p9 := 21) rfl rfl rfl (hn 1 (by decide)) hT rfl ?_
  refine tz_iload (p9 := 23) rfl rfl rfl ?_
  refine tz_iload_n (p9 := 24) rfl rfl rfl ?_
  refine tz_iadd (v := (nI (m * 7 + x))) (p9 := 25) rfl rfl (nI_add _ _) ?_
  refine tz_aload_n (p9 := 26) rfl rfl rfl ?_
  refine tz_get (ci := 0) (f := 2) (v := .ref 2) (p9 := 29) rfl rfl rfl (hn 1 (by decide)) hT rfl ?_
  refine tz_iload (p9 := 31) rfl rfl rfl ?_
  refine tz_iload_n (p9 := 32) rfl rfl rfl ?_
  refine tz_iadd (v := (nI (m * 7 + y))) (p9 := 33) rfl rfl (nI_add _ _) ?_
  refine tz_iald (v := (nI (t (m * 7 + y)))) (p9 := 34) rfl rfl (hn 2 (by decide)) hG (q_in (by omega) (by decide)) (by show nI (t _) = _; rw [q_c (by omega)]) ?_
  refine tz_iast (p9 := 35) rfl rfl (hn 2 (by decide)) hG (q_in (by omega) (by decide)) ?_
  rw [q_c (by omega), q_un]
  refine tz_aload_n (p9 := 36) rfl rfl rfl ?_
  refine tz_get (ci := 0) (f := 2) (v := .ref 2) (p9 := 39) rfl rfl rfl (hn 1 (by decide)) hT rfl ?_
  refine tz_iload (p9 := 41) rfl rfl rfl ?_
  refine tz_iload_n (p9 := 42) rfl rfl rfl ?_
  refine tz_iadd (v := (nI (m * 7 + y))) (p9 := 43) rfl rfl (nI_add _ _) ?_
  refine tz_iload (p9 := 45) rfl rfl rfl ?_
  refine tz_iast (p9 := 46) rfl rfl (hn 2 (by decide)) rfl (q_in (by omega) (by decide)) ?_
  rw [q_c (by omega), q_un]
  rw [mu_mu]
  rw [← h1]
  refine tz_aload_n (p9 := 47) rfl rfl rfl ?_
  refine tz_get (ci := 0) (f := 3) (v := .ref 3) (p9 := 50) rfl rfl rfl (hn 1 (by decide)) hT rfl ?_
  refine tz_iload_n (p9 := 51) rfl rfl rfl ?_
  refine tz_aload_n (p9 := 52) rfl rfl rfl ?_
  refine tz_iload_n (p9 := 53) rfl rfl rfl ?_
  refine tz_c1 (p9 := 56) (w1 := wl n (mu c 2 (.inl (0, 42, (fun q => nI (t1 q)))))) (tz_calV (N := 9) (i := 1) (As := [.int (nI m)]) (rest := [.int (nI m), .ref 3]) rfl rfl rfl rfl rfl (hn 1 (by decide)) hT rfl) rfl ((f_countOrder (d := 0) hn hP hM hT (c := mu c 2 (.inl (0, 42, fun q => nI (t1 q)))) (t := t1) rfl hm ht hN1 hN hq hno).up (by omega)) ?_
  refine tz_iast (p9 := 57) rfl rfl (hn 3 (by decide)) hO (q_in hm (by decide)) ?_
  rw [q_c (by omega), q_un]
  exact tz_retv rfl rfl
