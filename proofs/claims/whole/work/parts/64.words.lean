/-! MOVES AND WORDS OF THE CLASS, MOVES AND WORDS OF THE REFERENCE (wip/whole/gen/mk64.py) -/
/-- a move done k times to what is at q -/
def bh (t : Nat → Nat) (m : Nat) : Nat → Nat → Nat
  | 0, q => q
  | k + 1, q => t (m * 7 + bh t m k q)
theorem bh_lt {t : Nat → Nat} {m P : Nat} (ht : ∀ q, q < P → t (m * 7 + q) < P) : ∀ (k q : Nat), q < P → bh t m k q < P
  | 0, _, h => h
  | k + 1, q, h => ht _ (bh_lt ht k q h)
/-- where the first k rows bring what is at p -/
def im (t : Nat → Nat) (R : Nat → Nat) : Nat → Nat → Nat
  | 0, p => p
  | k + 1, p => bh t (R k / 16) (R k % 16) (im t R k p)
theorem im_lt {t R : Nat → Nat} {P L : Nat} (ht : ∀ k, k < L → ∀ q, q < P → t (R k / 16 * 7 + q) < P) : ∀ (k : Nat), k ≤ L → ∀ p, p < P → im t R k p < P
  | 0, _, _, h => h
  | k + 1, hk, p, h => bh_lt (ht k (by omega)) _ _ (im_lt ht k (by omega) p h)
theorem l_follow2 {X : Nat × (Nat → Int32)} {d : Nat} {n : Nat} {c : Nat → px_E} (hn : ∀ i, i < 47 → i < n) {P Mv : Nat} (hP : P ≤ 7) (hM : Mv ≤ 6) (hT : c 1 = .inr (.inr (0, [.int (nI P), .int (nI Mv), .ref 2, .ref 3]))) {t : Nat → Nat} (hG : c 2 = .inl (0, 42, fun q => nI (t q))) {wc : Nat} (hwc : wc ≤ 30) (hW : c 10 = .inr (.inr (2, [.ref 1, .ref 11, .ref 12, .ref 13, .int (nI wc)]))) {rl : Nat → Nat} (hRL : c 11 = .inl (0, 30, fun q => nI (rl q))) {rr : Nat → Nat} (hRR : c 12 = .inl (0, 1200, fun q => nI (rr q))) {w p0 L : Nat} (hw : w < 30) (hp : p0 < P) (hL : rl w = L) (hL4 : L ≤ 40) (hrr : ∀ k, k < L → rr (w * 40 + k) / 16 < 6) (ht : ∀ k, k < L → ∀ q, q < P → t (rr (w * 40 + k) / 16 * 7 + q) < P) (hr9 : ∀ k, k < L → rr (w * 40 + k) < 2147483648) {i : Nat} (hi : i < L) {r : px_Z} {k z : Nat} (kk : px_to X (d + 1) 35 (62, [.ref 10, .int (nI w), .int (nI p0), .int (nI (bh t (rr (w * 40 + i) / 16) (rr (w * 40 + i) % 16) (im t (fun k => rr (w * 40 + k)) i p0))), .int (nI i), .int (nI (rr (w * 40 + i))), .int (nI (rr (w * 40 + i) % 16))], [], wl n c, k, z) r) : ∀ (j p : Nat), p + j = (rr (w * 40 + i) % 16) → px_to X (d + 1) 35 (33, [.ref 10, .int (nI w), .int (nI p0), .int (nI (bh t (rr (w * 40 + i) / 16) p (im t (fun k => rr (w * 40 + k)) i p0))), .int (nI i), .int (nI (rr (w * 40 + i))), .int (nI p)], [], wl n c, k, z) r
  | 0, p, hj => by
    have hp9 : (rr (w * 40 + i) % 16) = p := by omega
    subst hp9
    refine tz_iload (p9 := 35) rfl rfl rfl ?_
    refine tz_iload (p9 := 37) rfl rfl rfl ?_
    refine tz_bipush (x := 15) (p9 := 39) rfl rfl (by decide) ?_
    refine tz_iand (v := (nI (rr (w * 40 + i) % 16))) (p9 := 40) rfl rfl (q_15 _) ?_
    refine tz_icge (t9 := 62) (p9 := 43) rfl rfl rfl (fun _ => ?_) (fun h9 => absurd (nI_le (Nat.le_refl _) (Nat.lt_of_lt_of_le (Nat.mod_lt _ (by decide)) (by decide))) h9)
    exact kk
  | j + 1, p, hj => by
    refine tz_iload (p9 := 35) rfl rfl rfl ?_
    refine tz_iload (p9 := 37) rfl rfl rfl ?_
    refine tz_bipush (x := 15) (p9 := 39) rfl rfl (by decide) ?_
    refine tz_iand (v := (nI (rr (w * 40 + i) % 16))) (p9 := 40) rfl rfl (q_15 _) ?_
    refine tz_icge (t9 := 62) (p9 := 43) rfl rfl rfl (fun h9 => absurd h9 (nI_ge (by omega) (Nat.lt_of_lt_of_le (Nat.mod_lt _ (by decide)) (by decide)))) (fun _ => ?_)
    refine tz_aload_n (p9 := 44) rfl rfl rfl ?_
    refine tz_get (ci := 2) (f := 0) (v := .ref 1) (p9 := 47) rfl rfl rfl (hn 10 (by decide)) hW rfl ?_
    refine tz_iload (p9 := 49) rfl rfl rfl ?_
    refine tz_iconst (x := 4) (p9 := 50) rfl rfl (by decide) ?_
    refine tz_ishr (v := (nI (rr (w * 40 + i) / 16))) (p9 := 51) rfl rfl (q_shr (hr9 i hi) (by decide)) ?_
    refine tz_iload_n (p9 := 52) rfl rfl rfl ?_
    refine tz_c1 (p9 := 55) (w1 := wl n c) (tz_calV (N := 5) (i := 1) (As := [.int (nI (rr (w * 40 + i) / 16)), .int (nI (bh t (rr (w * 40 + i) / 16) p (im t (fun k => rr (w * 40 + k)) i p0)))]) (rest := []) rfl rfl rfl rfl rfl (hn 1 (by decide)) hT rfl) rfl ((f_goalOf (d := 0) hn hP hM hT hG (hrr i hi) (Nat.lt_of_lt_of_le (bh_lt (ht i hi) p _ (im_lt ht i (by omega) p0 hp)) hP)).up (by omega)) ?_
    refine tz_istore_n (l9 := [.ref 10, .int (nI w), .int (nI p0), .int (nI (bh t (rr (w * 40 + i) / 16) (p + 1) (im t (fun k => rr (w * 40 + k)) i p0))), .int (nI i), .int (nI (rr (w * 40 + i))), .int (nI p)]) (p9 := 56) rfl rfl rfl rfl ?_
    refine tz_iinc (y := (nI (p + 1))) (l9 := [.ref 10, .int (nI w), .int (nI p0), .int (nI (bh t (rr (w * 40 + i) / 16) (p + 1) (im t (fun k => rr (w * 40 + k)) i p0))), .int (nI i), .int (nI (rr (w * 40 + i))), .int (nI (p + 1))]) (p9 := 59) rfl rfl rfl (nI_1 p) rfl ?_
    refine tz_goto (p9 := 33) rfl rfl ?_
    exact l_follow2 hn hP hM hT hG hwc hW hRL hRR hw hp hL hL4 hrr ht hr9 hi kk j (p + 1) (by omega)
theorem l_follow {X : Nat × (Nat → Int32)} {d : Nat} {n : Nat} {c : Nat → px_E} (hn : ∀ i, i < 47 → i < n) {P Mv : Nat} (hP : P ≤ 7) (hM : Mv ≤ 6) (hT : c 1 = .inr (.inr (0, [.int (nI P), .int (nI Mv), .ref 2, .ref 3]))) {t : Nat → Nat} (hG : c 2 = .inl (0, 42, fun q => nI (t q))) {wc : Nat} (hwc : wc ≤ 30) (hW : c 10 = .inr (.inr (2, [.ref 1, .ref 11, .ref 12, .ref 13, .int (nI wc)]))) {rl : Nat → Nat} (hRL : c 11 = .inl (0, 30, fun q => nI (rl q))) {rr : Nat → Nat} (hRR : c 12 = .inl (0, 1200, fun q => nI (rr q))) {w p0 L : Nat} (hw : w < 30) (hp : p0 < P) (hL : rl w = L) (hL4 : L ≤ 40) (hrr : ∀ k, k < L → rr (w * 40 + k) / 16 < 6) (ht : ∀ k, k < L → ∀ q, q < P → t (rr (w * 40 + k) / 16 * 7 + q) < P) (hr9 : ∀ k, k < L → rr (w * 40 + k) < 2147483648) {r : px_Z} {k z : Nat} (kk : ∀ u v, px_to X (d + 1) 35 (68, [.ref 10, .int (nI w), .int (nI p0), .int (nI (im t (fun k => rr (w * 40 + k)) L p0)), .int (nI L), u, v], [], wl n c, k, z) r) : ∀ (j i : Nat), i + j = L → ∀ u v, px_to X (d + 1) 35 (5, [.ref 10, .int (nI w), .int (nI p0), .int (nI (im t (fun k => rr (w * 40 + k)) i p0)), .int (nI i), u, v], [], wl n c, k, z) r
  | 0, i, hj => by
    have hp9 : L = i := by omega
    subst hp9
    intro u v
    refine tz_iload (p9 := 7) rfl rfl rfl ?_
    refine tz_aload_n (p9 := 8) rfl rfl rfl ?_
    refine tz_get (ci := 2) (f := 1) (v := .ref 11) (p9 := 11) rfl rfl rfl (hn 10 (by decide)) hW rfl ?_
    refine tz_iload_n (p9 := 12) rfl rfl rfl ?_
    refine tz_iald (v := (nI L)) (p9 := 13) rfl rfl (hn 11 (by decide)) hRL (q_in (by omega) (by decide)) (by show nI (rl (nI w).toNatClampNeg) = _; rw [q_c (by omega), hL]) ?_
    refine tz_icge (t9 := 68) (p9 := 16) rfl rfl rfl (fun _ => ?_) (fun h9 => absurd (nI_le (Nat.le_refl _) (by omega)) h9)
    exact kk u v
  | j + 1, i, hj => by
    intro u v
    refine tz_iload (p9 := 7) rfl rfl rfl ?_
    refine tz_aload_n (p9 := 8) rfl rfl rfl ?_
    refine tz_get (ci := 2) (f := 1) (v := .ref 11) (p9 := 11) rfl rfl rfl (hn 10 (by decide)) hW rfl ?_
    refine tz_iload_n (p9 := 12) rfl rfl rfl ?_
    refine tz_iald (v := (nI L)) (p9 := 13) rfl rfl (hn 11 (by decide)) hRL (q_in (by omega) (by decide)) (by show nI (rl (nI w).toNatClampNeg) = _; rw [q_c (by omega), hL]) ?_
    refine tz_icge (t9 := 68) (p9 := 16) rfl rfl rfl (fun h9 => absurd h9 (nI_ge (by omega) (by omega))) (fun _ => ?_)
    refine tz_aload_n (p9 := 17) rfl rfl rfl ?_
    refine tz_get (ci := 2) (f := 2) (v := .ref 12) (p9 := 20) rfl rfl rfl (hn 10 (by decide)) hW rfl ?_
    refine tz_iload_n (p9 := 21) rfl rfl rfl ?_
    refine tz_bipush (x := 40) (p9 := 23) rfl rfl (by decide) ?_
    refine tz_imul (v := (nI (w * 40))) (p9 := 24) rfl rfl (q_mul w 40) ?_
    refine tz_iload (p9 := 26) rfl rfl rfl ?_
    refine tz_iadd (v := (nI (w * 40 + i))) (p9 := 27) rfl rfl (nI_add _ _) ?_
    refine tz_iald (v := (nI (rr (w * 40 + i)))) (p9 := 28) rfl rfl (hn 12 (by decide)) hRR (q_in (by omega) (by decide)) (by show nI (rr _) = _; rw [q_c (by omega)]) ?_
    refine tz_istore (l9 := [.ref 10, .int (nI w), .int (nI p0), .int (nI (im t (fun k => rr (w * 40 + k)) i p0)), .int (nI i), .int (nI (rr (w * 40 + i))), v]) (p9 := 30) rfl rfl rfl rfl ?_
    refine tz_iconst (x := 0) (p9 := 31) rfl rfl (by decide) ?_
    refine tz_istore (l9 := [.ref 10, .int (nI w), .int (nI p0), .int (nI (im t (fun k => rr (w * 40 + k)) i p0)), .int (nI i), .int (nI (rr (w * 40 + i))), .int 0]) (p9 := 33) rfl rfl rfl rfl ?_
    refine l_follow2 hn hP hM hT hG hwc hW hRL hRR hw hp hL hL4 hrr ht hr9 (by omega) ?_ (rr (w * 40 + i) % 16) 0 (by omega)
    show px_to X (d + 1) 35 (62, [.ref 10, .int (nI w), .int (nI p0), .int (nI (bh t (rr (w * 40 + i) / 16) (rr (w * 40 + i) % 16) (im t (fun k => rr (w * 40 + k)) i p0))), .int (nI i), .int (nI (rr (w * 40 + i))), .int (nI (rr (w * 40 + i) % 16))], [], wl n c, k, z) r
    refine tz_iinc (y := (nI (i + 1))) (l9 := [.ref 10, .int (nI w), .int (nI p0), .int (nI (bh t (rr (w * 40 + i) / 16) (rr (w * 40 + i) % 16) (im t (fun k => rr (w * 40 + k)) i p0))), .int (nI (i + 1)), .int (nI (rr (w * 40 + i))), .int (nI (rr (w * 40 + i) % 16))]) (p9 := 65) rfl rfl rfl (nI_1 i) rfl ?_
    refine tz_goto (p9 := 5) rfl rfl ?_
    exact l_follow hn hP hM hT hG hwc hW hRL hRR hw hp hL hL4 hrr ht hr9 kk j (i + 1) (by omega) _ _
theorem f_follow {X : Nat × (Nat → Int32)} {d : Nat} {n : Nat} {c : Nat → px_E} (hn : ∀ i, i < 47 → i < n) {P Mv : Nat} (hP : P ≤ 7) (hM : Mv ≤ 6) (hT : c 1 = .inr (.inr (0, [.int (nI P), .int (nI Mv), .ref 2, .ref 3]))) {t : Nat → Nat} (hG : c 2 = .inl (0, 42, fun q => nI (t q))) {wc : Nat} (hwc : wc ≤ 30) (hW : c 10 = .inr (.inr (2, [.ref 1, .ref 11, .ref 12, .ref 13, .int (nI wc)]))) {rl : Nat → Nat} (hRL : c 11 = .inl (0, 30, fun q => nI (rl q))) {rr : Nat → Nat} (hRR : c 12 = .inl (0, 1200, fun q => nI (rr q))) {w p0 L : Nat} (hw : w < 30) (hp : p0 < P) (hL : rl w = L) (hL4 : L ≤ 40) (hrr : ∀ k, k < L → rr (w * 40 + k) / 16 < 6) (ht : ∀ k, k < L → ∀ q, q < P → t (rr (w * 40 + k) / 16 * 7 + q) < P) (hr9 : ∀ k, k < L → rr (w * 40 + k) < 2147483648) : px_ev X (d + 2) 35 [.ref 10, .int (nI w), .int (nI p0)] (wl n c) (some (some (.int (nI (im t (fun k => rr (w * 40 + k)) L p0)))), wl n c, 0, 0) := by
  refine px_ev.of (d := d + 1) (by decide) rfl rfl (fun h => by cases h) ?_
  show px_to X (d + 1) 35 (0, [.ref 10, .int (nI w), .int (nI p0), .retAddr 0, .retAddr 0, .retAddr 0, .retAddr 0], [], wl n c, 0, 0) _
  refine tz_iload_n (p9 := 1) rfl rfl rfl ?_
  refine tz_istore_n (l9 := [.ref 10, .int (nI w), .int (nI p0), .int (nI p0), .retAddr 0, .retAddr 0, .retAddr 0]) (p9 := 2) rfl rfl rfl rfl ?_
  refine tz_iconst (x := 0) (p9 := 3) rfl rfl (by decide) ?_
  refine tz_istore (l9 := [.ref 10, .int (nI w), .int (nI p0), .int (nI p0), .int 0, .retAddr 0, .retAddr 0]) (p9 := 5) rfl rfl rfl rfl ?_
  refine l_follow hn hP hM hT hG hwc hW hRL hRR hw hp hL hL4 hrr ht hr9 (fun u v => ?_) L 0 (by omega) _ _
  refine tz_iload_n (p9 := 69) rfl rfl rfl ?_
  exact tz_reti rfl rfl
