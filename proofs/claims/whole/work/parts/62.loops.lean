/-! LOOPS OF THE CLASS: states, moves (wip/whole/gen/mk62.py) -/
theorem f_pieceAt {X : Nat × (Nat → Int32)} {d : Nat} {n : Nat} {c : Nat → px_E} {a i : Nat} (ha : a < 2147483648) (hi : i < 10) : px_ev X (d + 1) 152 [.int (nI a), .int (nI i)] (wl n c) (some (some (.int (nI (dg a i)))), wl n c, 0, 0) := by
  have h := e_pieceAt (X := X) (d := d) (n := n) (c := c) (s := nI a) (p := nI i)
  rw [q_at ha hi] at h
  exact h
theorem f_pieceTo {X : Nat × (Nat → Int32)} {d : Nat} {n : Nat} {c : Nat → px_E} {a i : Nat} (hi : i < 10) : px_ev X (d + 1) 153 [.int (nI a), .int (nI i)] (wl n c) (some (some (.int (nI (a * 8 ^ i)))), wl n c, 0, 0) := by
  have h := e_pieceTo (X := X) (d := d) (n := n) (c := c) (s := nI a) (p := nI i)
  rw [q_to hi] at h
  exact h
theorem q_ix {m p : Nat} : nI m * 7 + nI p = nI (m * 7 + p) := by rw [show (nI m * 7 : Int32) = nI (m * 7) from q_mul m 7, nI_add]
theorem f_goalOf {X : Nat × (Nat → Int32)} {d : Nat} {n : Nat} {c : Nat → px_E} (hn : ∀ i, i < 47 → i < n) {P Mv : Nat} (hP : P ≤ 7) (hM : Mv ≤ 6) (hT : c 1 = .inr (.inr (0, [.int (nI P), .int (nI Mv), .ref 2, .ref 3]))) {t : Nat → Nat} (hG : c 2 = .inl (0, 42, fun q => nI (t q))) {m p : Nat} (hm : m < 6) (hp : p < 7) : px_ev X (d + 1) 5 [.ref 1, .int (nI m), .int (nI p)] (wl n c) (some (some (.int (nI (t (m * 7 + p))))), wl n c, 0, 0) := by
  have h := e_goalOf (X := X) (d := d) (n := n) (c := c) hn hT hG (m := nI m) (p := nI p) (by rw [q_ix]; exact q_in (by omega) (by decide))
  rw [q_ix, q_c (by omega)] at h
  exact h
theorem f_orderOf {X : Nat × (Nat → Int32)} {d : Nat} {n : Nat} {c : Nat → px_E} (hn : ∀ i, i < 47 → i < n) {P Mv : Nat} (hP : P ≤ 7) (hM : Mv ≤ 6) (hT : c 1 = .inr (.inr (0, [.int (nI P), .int (nI Mv), .ref 2, .ref 3]))) {od : Nat → Nat} (hO : c 3 = .inl (0, 6, fun q => nI (od q))) {m : Nat} (hm : m < 6) : px_ev X (d + 1) 2 [.ref 1, .int (nI m)] (wl n c) (some (some (.int (nI (od m)))), wl n c, 0, 0) := by
  have h := e_orderOf (X := X) (d := d) (n := n) (c := c) hn hT hO (m := nI m) (q_in (by omega) (by decide))
  rw [q_c (by omega)] at h
  exact h
/-- all at home: place p times 8^p -/
def hm8 : Nat → Nat
  | 0 => 0
  | p + 1 => hm8 p ||| p * 8 ^ p
theorem l_allHome {X : Nat × (Nat → Int32)} {d : Nat} {n : Nat} {c : Nat → px_E} {P : Nat} (hP : P ≤ 7) : ∀ (j p : Nat), p + j = P → px_to X d 151 (4, [.int (nI P), .int (nI (hm8 p)), .int (nI p)], [], wl n c, 0, 0) (some (some (.int (nI (hm8 P)))), wl n c, 0, 0)
  | 0, p, hj => by
    have hp : P = p := by omega
    subst hp
    refine tz_iload_n (p9 := 5) rfl rfl rfl ?_
    refine tz_iload_n (p9 := 6) rfl rfl rfl ?_
    refine tz_icge (t9 := 23) (p9 := 9) rfl rfl rfl (fun _ => ?_) (fun h9 => absurd (nI_le (Nat.le_of_eq (by omega)) (by omega)) h9)
    refine tz_iload_n (p9 := 24) rfl rfl rfl ?_
    exact tz_reti rfl rfl
  | j + 1, p, hj => by
    refine tz_iload_n (p9 := 5) rfl rfl rfl ?_
    refine tz_iload_n (p9 := 6) rfl rfl rfl ?_
    refine tz_icge (t9 := 23) (p9 := 9) rfl rfl rfl (fun h9 => absurd h9 (nI_ge (by omega) (by omega))) (fun _ => ?_)
    refine tz_iload_n (p9 := 10) rfl rfl rfl ?_
    refine tz_iload_n (p9 := 11) rfl rfl rfl ?_
    refine tz_iconst (x := 3) (p9 := 12) rfl rfl (by decide) ?_
    refine tz_iload_n (p9 := 13) rfl rfl rfl ?_
    refine tz_imul (v := (3 * (nI p))) (p9 := 14) rfl rfl rfl ?_
    refine tz_ishl (v := ((nI p) <<< ((3 * (nI p)) &&& 31))) (p9 := 15) rfl rfl rfl ?_
    refine tz_ior (v := (nI (hm8 (p + 1)))) (p9 := 16) rfl rfl (by rw [show (3 : Int32) * nI p = nI (3 * p) from q_mul 3 p, q_shl p (by omega), q_p8, q_or]; rfl) ?_
    refine tz_istore_n (l9 := [.int (nI P), .int (nI (hm8 (p + 1))), .int (nI p)]) (p9 := 17) rfl rfl rfl rfl ?_
    refine tz_iinc (y := (nI (p + 1))) (l9 := [.int (nI P), .int (nI (hm8 (p + 1))), .int (nI (p + 1))]) (p9 := 20) rfl rfl rfl (nI_1 p) rfl ?_
    refine tz_goto (p9 := 4) rfl rfl ?_
    exact l_allHome hP j (p + 1) (by omega)
theorem f_allHome {X : Nat × (Nat → Int32)} {d : Nat} {n : Nat} {c : Nat → px_E} {P : Nat} (hP : P ≤ 7) : px_ev X (d + 1) 151 [.int (nI P)] (wl n c) (some (some (.int (nI (hm8 P)))), wl n c, 0, 0) := by
  refine px_ev.of (d := d + 0) (by decide) rfl rfl (fun h => by cases h) ?_
  show px_to X (d + 0) 151 (0, [.int (nI P), .retAddr 0, .retAddr 0], [], wl n c, 0, 0) _
  refine tz_iconst (x := 0) (p9 := 1) rfl rfl (by decide) ?_
  refine tz_istore_n (l9 := [.int (nI P), .int 0, .retAddr 0]) (p9 := 2) rfl rfl rfl rfl ?_
  refine tz_iconst (x := 0) (p9 := 3) rfl rfl (by decide) ?_
  refine tz_istore_n (l9 := [.int (nI P), .int 0, .int 0]) (p9 := 4) rfl rfl rfl rfl ?_
  exact l_allHome hP P 0 (by omega)
/-- what comes of the state a when f says where each place goes -/
def tr (f : Nat → Nat) (a : Nat) : Nat → Nat
  | 0 => 0
  | p + 1 => tr f a p ||| dg a p * 8 ^ f p
theorem l_turned {X : Nat × (Nat → Int32)} {d : Nat} {n : Nat} {c : Nat → px_E} (hn : ∀ i, i < 47 → i < n) {P Mv : Nat} (hP : P ≤ 7) (hM : Mv ≤ 6) (hT : c 1 = .inr (.inr (0, [.int (nI P), .int (nI Mv), .ref 2, .ref 3]))) {t : Nat → Nat} (hG : c 2 = .inl (0, 42, fun q => nI (t q))) {m a : Nat} (hm : m < 6) (ha : a < 2147483648) (ht : ∀ p, p < P → t (m * 7 + p) < 8) : ∀ (j p : Nat), p + j = P → px_to X (d + 1) 10 (5, [.ref 1, .int (nI m), .int (nI a), .int (nI (tr (fun q => t (m * 7 + q)) a p)), .int (nI p)], [], wl n c, 0, 0) (some (some (.int (nI (tr (fun q => t (m * 7 + q)) a P)))), wl n c, 0, 0)
  | 0, p, hj => by
    have hp : P = p := by omega
    subst hp
    refine tz_iload (p9 := 7) rfl rfl rfl ?_
    refine tz_aload_n (p9 := 8) rfl rfl rfl ?_
    refine tz_get (ci := 0) (f := 0) (v := .int (nI P)) (p9 := 11) rfl rfl rfl (hn 1 (by decide)) hT rfl ?_
    refine tz_icge (t9 := 39) (p9 := 14) rfl rfl rfl (fun _ => ?_) (fun h9 => absurd (nI_le (Nat.le_refl _) (by omega)) h9)
    refine tz_iload_n (p9 := 40) rfl rfl rfl ?_
    exact tz_reti rfl rfl
  | j + 1, p, hj => by
    refine tz_iload (p9 := 7) rfl rfl rfl ?_
    refine tz_aload_n (p9 := 8) rfl rfl rfl ?_
    refine tz_get (ci := 0) (f := 0) (v := .int (nI P)) (p9 := 11) rfl rfl rfl (hn 1 (by decide)) hT rfl ?_
    refine tz_icge (t9 := 39) (p9 := 14) rfl rfl rfl (fun h9 => absurd h9 (nI_ge (by omega) (by omega))) (fun _ => ?_)
    refine tz_iload_n (p9 := 15) rfl rfl rfl ?_
    refine tz_iload_n (p9 := 16) rfl rfl rfl ?_
    refine tz_iload (p9 := 18) rfl rfl rfl ?_
    refine tz_c1 (p9 := 21) (w1 := wl n c) (tz_calS (N := 152) (As := [.int (nI a), .int (nI p)]) (rest := [.int (nI (tr (fun q => t (m * 7 + q)) a p))]) rfl rfl rfl rfl rfl rfl) rfl ((f_pieceAt (d := 0) (by omega) (by omega)).up (by omega)) ?_
    refine tz_aload_n (p9 := 22) rfl rfl rfl ?_
    refine tz_iload_n (p9 := 23) rfl rfl rfl ?_
    refine tz_iload (p9 := 25) rfl rfl rfl ?_
    refine tz_c1 (p9 := 28) (w1 := wl n c) (tz_calV (N := 5) (i := 1) (As := [.int (nI m), .int (nI p)]) (rest := [.int (nI (dg a p)), .int (nI (tr (fun q => t (m * 7 + q)) a p))]) rfl rfl rfl rfl rfl (hn 1 (by decide)) hT rfl) rfl ((f_goalOf (d := 0) hn hP hM hT hG (by omega) (by omega)).up (by omega)) ?_
    refine tz_c1 (p9 := 31) (w1 := wl n c) (tz_calS (N := 153) (As := [.int (nI (dg a p)), .int (nI (t (m * 7 + p)))]) (rest := [.int (nI (tr (fun q => t (m * 7 + q)) a p))]) rfl rfl rfl rfl rfl rfl) rfl ((f_pieceTo (d := 0) (by have := ht p (by omega); omega)).up (by omega)) ?_
    refine tz_ior (v := (nI (tr (fun q => t (m * 7 + q)) a (p + 1)))) (p9 := 32) rfl rfl (q_or _ _) ?_
    refine tz_istore_n (l9 := [.ref 1, .int (nI m), .int (nI a), .int (nI (tr (fun q => t (m * 7 + q)) a (p + 1))), .int (nI p)]) (p9 := 33) rfl rfl rfl rfl ?_
    refine tz_iinc (y := (nI (p + 1))) (l9 := [.ref 1, .int (nI m), .int (nI a), .int (nI (tr (fun q => t (m * 7 + q)) a (p + 1))), .int (nI (p + 1))]) (p9 := 36) rfl rfl rfl (nI_1 p) rfl ?_
    refine tz_goto (p9 := 5) rfl rfl ?_
    exact l_turned hn hP hM hT hG hm ha ht j (p + 1) (by omega)
theorem f_turned {X : Nat × (Nat → Int32)} {d : Nat} {n : Nat} {c : Nat → px_E} (hn : ∀ i, i < 47 → i < n) {P Mv : Nat} (hP : P ≤ 7) (hM : Mv ≤ 6) (hT : c 1 = .inr (.inr (0, [.int (nI P), .int (nI Mv), .ref 2, .ref 3]))) {t : Nat → Nat} (hG : c 2 = .inl (0, 42, fun q => nI (t q))) {m a : Nat} (hm : m < 6) (ha : a < 2147483648) (ht : ∀ p, p < P → t (m * 7 + p) < 8) : px_ev X (d + 2) 10 [.ref 1, .int (nI m), .int (nI a)] (wl n c) (some (some (.int (nI (tr (fun q => t (m * 7 + q)) a P)))), wl n c, 0, 0) := by
  refine px_ev.of (d := d + 1) (by decide) rfl rfl (fun h => by cases h) ?_
  show px_to X (d + 1) 10 (0, [.ref 1, .int (nI m), .int (nI a), .retAddr 0, .retAddr 0], [], wl n c, 0, 0) _
  refine tz_iconst (x := 0) (p9 := 1) rfl rfl (by decide) ?_
  refine tz_istore_n (l9 := [.ref 1, .int (nI m), .int (nI a), .int 0, .retAddr 0]) (p9 := 2) rfl rfl rfl rfl ?_
  refine tz_iconst (x := 0) (p9 := 3) rfl rfl (by decide) ?_
  refine tz_istore (l9 := [.ref 1, .int (nI m), .int (nI a), .int 0, .int 0]) (p9 := 5) rfl rfl rfl rfl ?_
  exact l_turned hn hP hM hT hG hm ha ht P 0 (by omega)
