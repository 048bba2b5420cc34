/-! PERMUTATIONS: orders, sums over places, ranks (wip/whole/gen/mkb8.py) -/
theorem bh_add (t : Nat → Nat) (m : Nat) : ∀ a b p, bh t m (a + b) p = bh t m a (bh t m b p)
  | 0, b, p => by rw [Nat.zero_add]; rfl
  | a + 1, b, p => by
    rw [show a + 1 + b = (a + b) + 1 by omega]
    show t (m * 7 + bh t m (a + b) p) = t (m * 7 + bh t m a (bh t m b p))
    rw [bh_add t m a b p]
theorem ph {n : Nat} {g : Nat → Nat} (h : ∀ i, i < n + 1 → g i < n) : ∃ i j, i < j ∧ j < n + 1 ∧ g i = g j := by
  by_cases c : ∀ p q, p < n → q < n → g p = g q → p = q
  · obtain ⟨q, hq, e⟩ := pf_surj n g ⟨fun q hq => h q (by omega), c⟩ (g n) (h n (by omega))
    exact ⟨q, n, hq, by omega, e⟩
  · refine Classical.byContradiction (fun hno => c (fun p q hp hq e => ?_))
    rcases Nat.lt_trichotomy p q with h1 | h1 | h1
    · exact (hno ⟨p, q, h1, by omega, e⟩).elim
    · exact h1
    · exact (hno ⟨q, p, h1, by omega, e.symm⟩).elim
theorem bh_can {t : Nat → Nat} {m P : Nat} (ht : ∀ q, q < P → t (m * 7 + q) < P) (hi : ∀ p q, p < P → q < P → t (m * 7 + p) = t (m * 7 + q) → p = q) {a b p : Nat} (hp : p < P) (h : a ≤ b) (e : bh t m a p = bh t m b p) : bh t m (b - a) p = p := by
  have e2 : bh t m a (bh t m (b - a) p) = bh t m a p := by
    rw [← bh_add, Nat.add_sub_cancel' h]; exact e.symm
  exact bh_inj ht hi a _ _ (bh_lt ht _ p hp) hp e2
theorem bh_mul {t : Nat → Nat} {m c p : Nat} (h : bh t m c p = p) : ∀ k, bh t m (c * k) p = p
  | 0 => rfl
  | k + 1 => by rw [Nat.mul_succ, bh_add, h, bh_mul h k]
theorem lst {Q : Nat → Prop} : ∀ n, Q n → ∃ k, k ≤ n ∧ Q k ∧ ∀ j, j < k → ¬ Q j := by
  intro n
  induction n using Nat.strongRecOn with
  | _ n ih =>
    intro hn
    by_cases h : ∃ j, j < n ∧ Q j
    · obtain ⟨j, hj, hq⟩ := h
      obtain ⟨k, hk, h1, h2⟩ := ih j hj hq
      exact ⟨k, by omega, h1, h2⟩
    · exact ⟨n, Nat.le_refl _, hn, fun j hj hq => h ⟨j, hj, hq⟩⟩
theorem bh_cyc {t : Nat → Nat} {m P : Nat} (ht : ∀ q, q < P → t (m * 7 + q) < P) (hi : ∀ p q, p < P → q < P → t (m * 7 + p) = t (m * 7 + q) → p = q) {p : Nat} (hp : p < P) : ∃ c, c ≤ P ∧ 1 ≤ c ∧ bh t m c p = p ∧ ∀ j, 1 ≤ j → j < c → bh t m j p ≠ p := by
  obtain ⟨i, j, hij, hj, e⟩ := ph (n := P) (g := fun i => bh t m i p) (fun i _ => bh_lt ht i p hp)
  obtain ⟨c, h1, ⟨h2, h3⟩, h4⟩ := lst (Q := fun c => 1 ≤ c ∧ bh t m c p = p) (j - i) ⟨by omega, bh_can ht hi hp (by omega) e⟩
  exact ⟨c, by omega, h2, h3, fun j h5 h6 h7 => h4 j h6 ⟨h5, h7⟩⟩
theorem ord12 {t : Nat → Nat} {m P : Nat} (hP : P ≤ 7) (ht : ∀ q, q < P → t (m * 7 + q) < P) (hi : ∀ p q, p < P → q < P → t (m * 7 + p) = t (m * 7 + q) → p = q) : ∃ N, N ≤ 12 ∧ 1 ≤ N ∧ rd t m P N := by
  by_cases h5 : ∃ p, p < P ∧ bh t m 5 p = p ∧ ∀ j, 1 ≤ j → j < 5 → bh t m j p ≠ p
  · obtain ⟨p, hp, hc, hmin⟩ := h5
    refine ⟨10, by decide, by decide, fun q hq => ?_⟩
    have ho : ∀ e, q = bh t m e p → bh t m 10 q = q := by
      intro e he
      rw [he, ← bh_add, Nat.add_comm, bh_add, show bh t m 10 p = p from bh_mul (c := 5) hc 2]
    obtain ⟨i, j, hij, hj, e⟩ := ph (n := 7) (g := fun i => if i < 5 then bh t m i p else bh t m (i - 5) q) (fun i _ => by
      show (if i < 5 then bh t m i p else bh t m (i - 5) q) < 7
      have a1 := bh_lt ht i p hp
      have a2 := bh_lt ht (i - 5) q hq
      split <;> omega)
    replace e : (if i < 5 then bh t m i p else bh t m (i - 5) q) = (if j < 5 then bh t m j p else bh t m (j - 5) q) := e
    by_cases j5 : j < 5
    · rw [if_pos (by omega), if_pos j5] at e
      exact (hmin (j - i) (by omega) (by omega) (bh_can ht hi hp (by omega) e)).elim
    · by_cases i5 : i < 5
      · rw [if_pos i5, if_neg j5] at e
        refine ho (i + 5 - (j - 5)) ?_
        have e3 : bh t m (j - 5) (bh t m (i + 5 - (j - 5)) p) = bh t m (j - 5) q := by
          rw [← bh_add, show j - 5 + (i + 5 - (j - 5)) = i + 5 by omega, bh_add, hc]; exact e
        exact (bh_inj ht hi _ _ _ (bh_lt ht _ p hp) hq e3).symm
      · rw [if_neg i5, if_neg j5] at e
        have e4 := bh_can ht hi hq (by omega) e
        have h12 : j - 5 - (i - 5) = 1 ∨ j - 5 - (i - 5) = 2 := by omega
        rcases h12 with h | h
        · rw [h] at e4; exact bh_mul e4 10
        · rw [h] at e4; exact bh_mul e4 5
  · by_cases h7 : ∃ p, p < P ∧ bh t m 7 p = p ∧ ∀ j, 1 ≤ j → j < 7 → bh t m j p ≠ p
    · obtain ⟨p, hp, hc, hmin⟩ := h7
      refine ⟨7, by decide, by decide, fun q hq => ?_⟩
      obtain ⟨i, j, hij, hj, e⟩ := ph (n := 7) (g := fun i => if i < 7 then bh t m i p else q) (fun i _ => by
        show (if i < 7 then bh t m i p else q) < 7
        have a1 := bh_lt ht i p hp
        split <;> omega)
      replace e : (if i < 7 then bh t m i p else q) = (if j < 7 then bh t m j p else q) := e
      by_cases j7 : j < 7
      · rw [if_pos (by omega), if_pos j7] at e
        exact (hmin (j - i) (by omega) (by omega) (bh_can ht hi hp (by omega) e)).elim
      · rw [if_pos (by omega), if_neg j7] at e
        rw [← e, ← bh_add, Nat.add_comm, bh_add, hc]
    · refine ⟨12, by decide, by decide, fun q hq => ?_⟩
      obtain ⟨c, h1, h2, h3, h4⟩ := bh_cyc ht hi hq
      have h6 : c = 1 ∨ c = 2 ∨ c = 3 ∨ c = 4 ∨ c = 6 ∨ c = 5 ∨ c = 7 := by omega
      rcases h6 with rfl | rfl | rfl | rfl | rfl | rfl | rfl
      · exact bh_mul h3 12
      · exact bh_mul h3 6
      · exact bh_mul h3 4
      · exact bh_mul h3 3
      · exact bh_mul h3 2
      · exact (h5 ⟨q, hq, h3, h4⟩).elim
      · exact (h7 ⟨q, hq, h3, h4⟩).elim
theorem io_ex {t : Nat → Nat} {m P : Nat} (hP : P ≤ 7) (ht : ∀ q, q < P → t (m * 7 + q) < P) (hi : ∀ p q, p < P → q < P → t (m * 7 + p) = t (m * 7 + q) → p = q) : ∃ N, io t m P N := by
  obtain ⟨N, h1, h2, h3⟩ := ord12 hP ht hi
  obtain ⟨k, h4, ⟨h5, h6⟩, h7⟩ := lst (Q := fun c => 1 ≤ c ∧ rd t m P c) N ⟨h2, h3⟩
  exact ⟨k, h5, by omega, h6, fun j h8 h9 hr => h7 j h9 ⟨h8, hr⟩⟩
theorem hm8_dg : ∀ P, P ≤ 8 → ∀ i, dg (hm8 P) i = if i < P then i else 0
  | 0, _, i => by
    show dg 0 i = _
    rw [dg_0, if_neg (by omega)]
  | p + 1, h, i => by
    show dg (hm8 p ||| p * 8 ^ p) i = _
    rw [dg_or, dg_pt (by omega), hm8_dg p (by omega) i]
    by_cases e : i = p
    · rw [if_neg (by omega), if_pos e, if_pos (by omega), Nat.zero_or, e]
    · rw [if_neg e, Nat.or_zero]
      by_cases e2 : i < p
      · rw [if_pos e2, if_pos (by omega)]
      · rw [if_neg e2, if_neg (by omega)]
theorem hm8_8 : ∀ P, P ≤ 8 → hm8 P < 8 ^ P
  | 0, _ => by decide
  | p + 1, h => by
    show hm8 p ||| p * 8 ^ p < 8 ^ (p + 1)
    rw [q_or8 (hm8_8 p (by omega)), Nat.pow_succ]
    have h1 := hm8_8 p (by omega)
    have h2 : p * 8 ^ p ≤ 7 * 8 ^ p := Nat.mul_le_mul_right _ (by omega)
    omega
theorem pm_hm {P : Nat} (h : P ≤ 7) : pm P (hm8 P) := by
  refine ⟨hm8_8 P (by omega), fun p hp => ?_, fun p q hp hq e => ?_⟩
  · rw [hm8_dg P (by omega), if_pos hp]; exact hp
  · rw [hm8_dg P (by omega), hm8_dg P (by omega), if_pos hp, if_pos hq] at e; exact e
theorem dg_ext : ∀ (P x y : Nat), x < 8 ^ P → y < 8 ^ P → (∀ i, i < P → dg x i = dg y i) → x = y
  | 0, x, y, hx, hy, _ => by
    rw [Nat.pow_zero] at hx hy; omega
  | P + 1, x, y, hx, hy, h => by
    have hd : ∀ z i, dg (z / 8) i = dg z (i + 1) := by
      intro z i
      unfold dg
      rw [Nat.pow_succ, Nat.mul_comm (8 ^ i) 8, Nat.div_div_eq_div_mul]
    have h0 := h 0 (by omega)
    unfold dg at h0
    rw [Nat.pow_zero, Nat.div_one, Nat.div_one] at h0
    rw [Nat.pow_succ] at hx hy
    have h1 := dg_ext P (x / 8) (y / 8) (by omega) (by omega) (fun i hi => by rw [hd, hd]; exact h (i + 1) (by omega))
    omega
theorem ts_pm {t : Nat → Nat} {m P : Nat} (h7 : P ≤ 7) (h : pf P (fun q => t (m * 7 + q))) : ∀ k, pm P (ts t m P k)
  | 0 => pm_hm h7
  | k + 1 => pm_tr h (ts_pm h7 h k)
theorem ts_dg {t : Nat → Nat} {m P : Nat} (h7 : P ≤ 7) (h : pf P (fun q => t (m * 7 + q))) : ∀ k q, q < P → dg (ts t m P k) (bh t m k q) = q
  | 0, q, hq => by
    show dg (hm8 P) q = q
    rw [hm8_dg P (by omega), if_pos hq]
  | k + 1, q, hq => (tr_at (f := fun q => t (m * 7 + q)) (a := ts t m P k) h (bh_lt (fun q hq => h.1 q hq) k q hq)).trans (ts_dg h7 h k q hq)
theorem ts_rd {t : Nat → Nat} {m P k : Nat} (h7 : P ≤ 7) (h : pf P (fun q => t (m * 7 + q))) : ts t m P k = hm8 P ↔ rd t m P k := by
  constructor
  · intro e q hq
    have h1 := ts_dg h7 h k q hq
    have h2 : bh t m k q < P := bh_lt (fun q hq => h.1 q hq) k q hq
    rw [e, hm8_dg P (by omega), if_pos h2] at h1
    exact h1
  · intro hr
    refine dg_ext P _ _ (ts_pm h7 h k).1 (hm8_8 P (by omega)) (fun i hi => ?_)
    have h1 := ts_dg h7 h k i hi
    rw [hr i hi] at h1
    rw [h1, hm8_dg P (by omega), if_pos hi]
/-- the sum below n -/
def sm (f : Nat → Nat) : Nat → Nat
  | 0 => 0
  | p + 1 => sm f p + f p
theorem sm_congr {f g : Nat → Nat} : ∀ n, (∀ q, q < n → f q = g q) → sm f n = sm g n
  | 0, _ => rfl
  | n + 1, h => by
    show sm f n + f n = sm g n + g n
    rw [sm_congr n (fun q hq => h q (by omega)), h n (by omega)]
theorem sm_ex {f g : Nat → Nat} {a : Nat} : ∀ n, a < n → (∀ q, q < n → q ≠ a → f q = g q) → sm g n + f a = sm f n + g a
  | n + 1, ha, h => by
    show sm g n + g n + f a = sm f n + f n + g a
    by_cases e : a = n
    · subst e
      rw [sm_congr (f := f) (g := g) a (fun q hq => h q (by omega) (by omega))]; omega
    · have h1 := sm_ex n (by omega) (fun q hq hn => h q (by omega) hn)
      have h2 := h n (by omega) (by omega)
      omega
theorem sm_pf : ∀ (n : Nat) (f φ : Nat → Nat), pf n f → sm (fun q => φ (f q)) n = sm φ n
  | 0, _, _, _ => rfl
  | n + 1, f, φ, h => by
    obtain ⟨a, ha, e⟩ := pf_surj (n + 1) f h n (by omega)
    have hne : ∀ q, q < n + 1 → q ≠ a → f q < n := by
      intro q hq hqa
      have h1 := h.1 q hq
      have h2 : f q ≠ n := fun e2 => hqa (h.2 q a hq ha (e2.trans e.symm))
      omega
    have h3 : pf n (fun q => if q = a then f n else f q) := by
      refine ⟨fun q hq => ?_, fun p q hp hq e2 => ?_⟩
      · show (if q = a then f n else f q) < n
        by_cases c : q = a
        · rw [if_pos c]; exact hne n (by omega) (by omega)
        · rw [if_neg c]; exact hne q (by omega) c
      · replace e2 : (if p = a then f n else f p) = (if q = a then f n else f q) := e2
        by_cases c1 : p = a
        · by_cases c2 : q = a
          · omega
          · rw [if_pos c1, if_neg c2] at e2
            have := h.2 n q (by omega) (by omega) e2
            omega
        · by_cases c2 : q = a
          · rw [if_neg c1, if_pos c2] at e2
            have := h.2 p n (by omega) (by omega) e2
            omega
          · rw [if_neg c1, if_neg c2] at e2
            exact h.2 p q (by omega) (by omega) e2
    have ih := sm_pf n (fun q => if q = a then f n else f q) φ h3
    show sm (fun q => φ (f q)) n + φ (f n) = sm φ n + φ n
    by_cases c : a = n
    · subst c
      rw [e, ← ih]
      congr 1
      exact sm_congr a (fun q hq => by show φ (f q) = φ (if q = a then f a else f q); rw [if_neg (by omega)])
    · have h4 := sm_ex (f := fun q => φ (f q)) (g := fun q => φ (if q = a then f n else f q)) (a := a) n (by omega) (fun q hq hn => by show φ (f q) = φ (if q = a then f n else f q); rw [if_neg hn])
      replace h4 : sm (fun q => φ (if q = a then f n else f q)) n + φ (f a) = sm (fun q => φ (f q)) n + φ (if a = a then f n else f a) := h4
      rw [if_pos rfl, e, ih] at h4
      omega
theorem hc_sm {x g : Nat} : ∀ P, hc x g P = sm (fun p => if g / 2 ^ p % 2 = 1 ∧ dg x p = p then 1 else 0) P
  | 0 => rfl
  | P + 1 => by show hc x g P + _ = sm _ P + _; rw [hc_sm P]
theorem hb_sm {f : Nat → Nat} {x g : Nat} : ∀ P, hb f x g P = sm (fun p => if g / 2 ^ dg x p % 2 = 1 ∧ f p = dg x p then 1 else 0) P
  | 0 => rfl
  | P + 1 => by show hb f x g P + _ = sm _ P + _; rw [hb_sm P]
/-- how many are home behind a word -/
theorem hc_tr {f : Nat → Nat} {x g P : Nat} (h : pf P f) : hc (tr f x P) g P = hb f x g P := by
  rw [hc_sm, hb_sm, ← sm_pf P f _ h]
  refine sm_congr P (fun q hq => ?_)
  show (if g / 2 ^ f q % 2 = 1 ∧ dg (tr f x P) (f q) = f q then 1 else 0) = (if g / 2 ^ dg x q % 2 = 1 ∧ f q = dg x q then 1 else 0)
  rw [tr_at h hq]
  by_cases c : f q = dg x q
  · rw [c]
  · rw [if_neg (fun h => c h.2.symm), if_neg (fun h => c h.2)]
theorem g_hi {g P p : Nat} (h : g < 2 ^ P) (hp : P ≤ p) : g / 2 ^ p = 0 := Nat.div_eq_of_lt (Nat.lt_of_lt_of_le h (Nat.pow_le_pow_right (by decide) hp))
theorem hc_hi {x g P : Nat} (h : g < 2 ^ P) : ∀ j, hc x g (P + j) = hc x g P
  | 0 => rfl
  | j + 1 => by
    show hc x g (P + j) + (if g / 2 ^ (P + j) % 2 = 1 ∧ dg x (P + j) = P + j then 1 else 0) = _
    rw [if_neg (by rw [g_hi h (Nat.le_add_right P j)]; exact fun q => absurd q.1 (by decide)), hc_hi h j]; rfl
theorem hc_7 {x g P : Nat} (h : g < 2 ^ P) (h7 : P ≤ 7) : hc x g 7 = hc x g P := by
  have := hc_hi (x := x) h (7 - P)
  rw [show P + (7 - P) = 7 by omega] at this
  exact this
/-- how many pieces a goal has -/
def gc (g P : Nat) : Nat := sm (fun p => g / 2 ^ p % 2) P
theorem sm_le {f g : Nat → Nat} : ∀ n, (∀ q, q < n → f q ≤ g q) → sm f n ≤ sm g n
  | 0, _ => Nat.le_refl _
  | n + 1, h => Nat.add_le_add (sm_le n (fun q hq => h q (by omega))) (h n (by omega))
theorem sm_le_eq {f g : Nat → Nat} : ∀ n, (∀ q, q < n → f q ≤ g q) → sm g n ≤ sm f n → ∀ q, q < n → f q = g q
  | n + 1, h, e, q, hq => by
    have h1 := sm_le n (fun q hq => h q (by omega))
    have h2 := h n (by omega)
    replace e : sm g n + g n ≤ sm f n + f n := e
    by_cases c : q = n
    · subst c; omega
    · exact sm_le_eq n (fun q hq => h q (by omega)) (by omega) q (by omega)
theorem hc_pt {x g p : Nat} : (if g / 2 ^ p % 2 = 1 ∧ dg x p = p then 1 else 0) ≤ g / 2 ^ p % 2 := by
  split
  · rename_i h; omega
  · omega
theorem hc_gc {x g P : Nat} : hc x g P ≤ gc g P := by
  rw [hc_sm]
  exact sm_le P (fun q _ => hc_pt)
theorem gc_le {g : Nat} : ∀ P, gc g P ≤ P
  | 0 => Nat.le_refl _
  | P + 1 => by
    have := gc_le (g := g) P
    show sm _ P + g / 2 ^ P % 2 ≤ P + 1
    unfold gc at this
    omega
theorem mt_gc {x g P : Nat} (h : g < 2 ^ P) (h7 : P ≤ 7) : mt x g ↔ ¬ hc x g P < gc g P := by
  constructor
  · intro hm hlt
    have : hc x g P = gc g P := by
      rw [hc_sm]
      refine sm_congr P (fun q hq => ?_)
      show (if g / 2 ^ q % 2 = 1 ∧ dg x q = q then 1 else 0) = g / 2 ^ q % 2
      by_cases c : g / 2 ^ q % 2 = 1
      · rw [if_pos ⟨c, hm q (by omega) c⟩, c]
      · rw [if_neg (fun h => c h.1)]; omega
    omega
  · intro hn p hp hb
    have hpP : p < P := by
      refine Nat.lt_of_not_le (fun c => ?_)
      rw [g_hi h c] at hb
      exact absurd hb (by decide)
    have h1 := sm_le_eq (f := fun p => if g / 2 ^ p % 2 = 1 ∧ dg x p = p then 1 else 0) (g := fun p => g / 2 ^ p % 2) P (fun q _ => hc_pt) (by rw [← hc_sm]; exact Nat.le_of_not_lt hn) p hpP
    replace h1 : (if g / 2 ^ p % 2 = 1 ∧ dg x p = p then 1 else 0) = g / 2 ^ p % 2 := h1
    refine Classical.byContradiction (fun c => ?_)
    rw [if_neg (fun h => c h.2), hb] at h1
    exact absurd h1 (by decide)
/-- lesser pieces behind place p -/
def lw (s : Nat → Nat) (p q : Nat) : Nat := if p < q ∧ s q < s p then 1 else 0
theorem cn_sm {u : Nat} : ∀ (k P : Nat), k ≤ P → cn u k = sm (fun v => if v < k ∧ u / 2 ^ v % 2 = 0 then 1 else 0) P := by
  have h1 : ∀ k, cn u k = sm (fun v => if u / 2 ^ v % 2 = 0 then 1 else 0) k := by
    intro k
    induction k with
    | zero => rfl
    | succ k ih => show cn u k + _ = sm _ k + _; rw [ih]
  have h2 : ∀ k j, sm (fun v => if v < k ∧ u / 2 ^ v % 2 = 0 then 1 else 0) (k + j) = sm (fun v => if u / 2 ^ v % 2 = 0 then 1 else 0) k := by
    intro k j
    induction j with
    | zero =>
      refine sm_congr k (fun q hq => ?_)
      show (if q < k ∧ u / 2 ^ q % 2 = 0 then 1 else 0) = (if u / 2 ^ q % 2 = 0 then 1 else 0)
      by_cases c : u / 2 ^ q % 2 = 0
      · rw [if_pos ⟨hq, c⟩, if_pos c]
      · rw [if_neg (fun h => c h.2), if_neg c]
    | succ j ih =>
      show sm _ (k + j) + (if k + j < k ∧ u / 2 ^ (k + j) % 2 = 0 then 1 else 0) = _
      rw [ih, if_neg (by omega)]; rfl
  intro k P hk
  rw [h1, ← h2 k (P - k), show k + (P - k) = P by omega]
theorem bit_or {u k v : Nat} : (u ||| 1 * 2 ^ k) / 2 ^ v % 2 = if v = k then 1 else u / 2 ^ v % 2 := by
  rw [q_tb, q_tb, Nat.testBit_or, Nat.one_mul, Nat.testBit_two_pow]
  by_cases c : v = k
  · rw [if_pos c, decide_eq_true c.symm, Bool.or_true]; rfl
  · rw [if_neg c, decide_eq_false (fun e => c e.symm), Bool.or_false]
theorem rk_bit {P x : Nat} : ∀ p v, (rk P x p).2 / 2 ^ v % 2 = 0 ↔ ∀ q, q < p → dg x q ≠ v
  | 0, v => by
    show 0 / 2 ^ v % 2 = 0 ↔ _
    rw [Nat.zero_div]
    exact ⟨fun _ q hq => absurd hq (by omega), fun _ => rfl⟩
  | p + 1, v => by
    show ((rk P x p).2 ||| 1 * 2 ^ dg x p) / 2 ^ v % 2 = 0 ↔ _
    rw [bit_or]
    by_cases c : v = dg x p
    · rw [if_pos c]
      exact ⟨fun h => absurd h (by decide), fun h => absurd c.symm (h p (by omega))⟩
    · rw [if_neg c, rk_bit p v]
      refine ⟨fun h q hq => ?_, fun h q hq => h q (by omega)⟩
      by_cases e : q = p
      · rw [e]; exact fun e2 => c e2.symm
      · exact h q (by omega)
theorem pm_pf {P x : Nat} (h : pm P x) : pf P (dg x) := ⟨h.2.1, h.2.2⟩
/-- the digit of a rank: by pieces that did not come, and by those behind -/
theorem cn_lw {P x p : Nat} (h : pm P x) (hp : p < P) : cn (rk P x p).2 (dg x p) = sm (lw (dg x) p) P := by
  rw [cn_sm (dg x p) P (Nat.le_of_lt (h.2.1 p hp)), ← sm_pf P (dg x) _ (pm_pf h)]
  refine sm_congr P (fun q hq => ?_)
  show (if dg x q < dg x p ∧ (rk P x p).2 / 2 ^ dg x q % 2 = 0 then 1 else 0) = (if p < q ∧ dg x q < dg x p then 1 else 0)
  by_cases c : dg x q < dg x p
  · by_cases c2 : p < q
    · rw [if_pos ⟨c, (rk_bit p _).mpr (fun r hr e => by have := h.2.2 r q (by omega) hq e; omega)⟩, if_pos ⟨c2, c⟩]
    · have c3 : q < p := by
        refine Nat.lt_of_le_of_ne (Nat.le_of_not_lt c2) (fun e => ?_)
        rw [e] at c; omega
      rw [if_neg (fun hh => (rk_bit p _).mp hh.2 q c3 rfl), if_neg (fun hh => c2 hh.1)]
  · rw [if_neg (fun hh => c hh.1), if_neg (fun hh => c hh.2)]
theorem lw_sum {s : Nat → Nat} {p : Nat} : ∀ n, sm (lw s p) n ≤ n - (p + 1)
  | 0 => Nat.zero_le _
  | n + 1 => by
    have := lw_sum (s := s) (p := p) n
    show sm (lw s p) n + lw s p n ≤ _
    unfold lw at this ⊢
    by_cases c : p < n
    · split <;> omega
    · rw [if_neg (fun h => c h.1)]; omega
/-- the reference's rank -/
def rm (P : Nat) (s : Nat → Nat) : Nat → Nat
  | 0 => 0
  | p + 1 => rm P s p * (P - p) + sm (lw s p) P
theorem lw_congr {s r : Nat → Nat} {p q : Nat} (h1 : s p = r p) (h2 : s q = r q) : lw s p q = lw r p q := by unfold lw; rw [h1, h2]
theorem rm_congr {P : Nat} {s r : Nat → Nat} (h : ∀ q, q < P → s q = r q) : ∀ p, p ≤ P → rm P s p = rm P r p
  | 0, _ => rfl
  | p + 1, hp => by
    show rm P s p * (P - p) + sm (lw s p) P = rm P r p * (P - p) + sm (lw r p) P
    rw [rm_congr h p (by omega), sm_congr P (fun q hq => lw_congr (h p (by omega)) (h q hq))]
theorem rk_rm {P x : Nat} (h : pm P x) : ∀ p, p ≤ P → (rk P x p).1 = rm P (dg x) p
  | 0, _ => rfl
  | p + 1, hp => by
    show (rk P x p).1 * (P - p) + cn (rk P x p).2 (dg x p) = rm P (dg x) p * (P - p) + sm (lw (dg x) p) P
    rw [rk_rm h p (by omega), cn_lw h (by omega)]
/-- P (P - 1) .. of p factors -/
def ff (P : Nat) : Nat → Nat
  | 0 => 1
  | p + 1 => ff P p * (P - p)
theorem ff_fac : ∀ P, P < 8 → ff P P = fac P := by decide
theorem rm_ff {P : Nat} {s : Nat → Nat} : ∀ p, p ≤ P → rm P s p < ff P p
  | 0, _ => by show 0 < 1; decide
  | p + 1, hp => by
    show rm P s p * (P - p) + sm (lw s p) P < ff P p * (P - p)
    have h1 := rm_ff (P := P) (s := s) p (by omega)
    have h2 := lw_sum (s := s) (p := p) P
    have h3 : (rm P s p + 1) * (P - p) ≤ ff P p * (P - p) := Nat.mul_le_mul_right _ h1
    rw [Nat.succ_mul] at h3
    omega
theorem rk_fac {P x : Nat} (h7 : P ≤ 7) (h : pm P x) : (rk P x P).1 < fac P := by
  rw [rk_rm h P (Nat.le_refl _), ← ff_fac P (by omega)]
  exact rm_ff P (Nat.le_refl _)
/-- a rank's digits come back -/
theorem rm_mod {P : Nat} {s : Nat → Nat} {p : Nat} (hp : p < P) : rm P s (p + 1) % (P - p) = sm (lw s p) P ∧ rm P s (p + 1) / (P - p) = rm P s p := by
  have h2 := lw_sum (s := s) (p := p) P
  show (rm P s p * (P - p) + sm (lw s p) P) % (P - p) = _ ∧ (rm P s p * (P - p) + sm (lw s p) P) / (P - p) = _
  constructor
  · rw [Nat.mul_comm, Nat.mul_add_mod]; exact Nat.mod_eq_of_lt (by omega)
  · rw [Nat.mul_comm, Nat.mul_add_div (by omega), Nat.div_eq_of_lt (by omega), Nat.add_zero]
