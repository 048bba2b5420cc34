/-! STATES: digits, moves, words, permutations (wip/whole/gen/mkb4.py) -/
theorem dg_or (x y i : Nat) : dg (x ||| y) i = dg x i ||| dg y i := by
  unfold dg
  rw [← q_p8, Nat.or_div_two_pow, show (8 : Nat) = 2 ^ 3 from rfl, Nat.or_mod_two_pow]
theorem dg_xor (x y i : Nat) : dg (x ^^^ y) i = dg x i ^^^ dg y i := by
  unfold dg
  rw [← q_p8, Nat.xor_div_two_pow, show (8 : Nat) = 2 ^ 3 from rfl, Nat.xor_mod_two_pow]
theorem dg_pt {v k i : Nat} (hv : v < 8) : dg (v * 8 ^ k) i = if i = k then v else 0 := by
  unfold dg
  by_cases h : i = k
  · rw [if_pos h, h, Nat.mul_div_cancel _ (Nat.pow_pos (by decide)), Nat.mod_eq_of_lt hv]
  · rw [if_neg h]
    by_cases h2 : i < k
    · obtain ⟨d, rfl⟩ : ∃ d, k = i + 1 + d := ⟨k - i - 1, by omega⟩
      rw [show v * 8 ^ (i + 1 + d) = v * 8 ^ d * 8 * 8 ^ i by rw [Nat.pow_add, Nat.pow_succ]; ac_rfl, Nat.mul_div_cancel _ (Nat.pow_pos (by decide)), Nat.mul_mod_left]
    · obtain ⟨d, rfl⟩ : ∃ d, i = k + 1 + d := ⟨i - k - 1, by omega⟩
      have h3 : v * 8 ^ k < 8 ^ (k + 1 + d) := by
        have h4 : v * 8 ^ k < 8 * 8 ^ k := Nat.mul_lt_mul_of_pos_right hv (Nat.pow_pos (by decide))
        have h5 : 8 * 8 ^ k ≤ 8 ^ (k + 1 + d) := by
          rw [show 8 * 8 ^ k = 8 ^ (k + 1) by rw [Nat.pow_succ, Nat.mul_comm]]
          exact Nat.pow_le_pow_right (by decide) (by omega)
        omega
      rw [Nat.div_eq_of_lt h3]
theorem dg_0 (i : Nat) : dg 0 i = 0 := by unfold dg; rw [Nat.zero_div]
theorem dg_big {x P i : Nat} (hx : x < 8 ^ P) (hi : P ≤ i) : dg x i = 0 := by
  unfold dg
  rw [Nat.div_eq_of_lt (Nat.lt_of_lt_of_le hx (Nat.pow_le_pow_right (by decide) hi))]
/-- f brings each of the first P numbers to one of them, no two to the same -/
def pf (P : Nat) (f : Nat → Nat) : Prop := (∀ q, q < P → f q < P) ∧ ∀ p q, p < P → q < P → f p = f q → p = q
theorem pf_surj : ∀ (n : Nat) (f : Nat → Nat), pf n f → ∀ i, i < n → ∃ q, q < n ∧ f q = i
  | 0, _, _, i, hi => absurd hi (Nat.not_lt_zero _)
  | n + 1, f, ⟨h1, h2⟩, i, hi => by
    have hv := h1 n (by omega)
    have hg : pf n (fun q => if f q = n then f n else f q) := by
      refine ⟨fun q hq => ?_, fun p q hp hq e => ?_⟩
      · show (if f q = n then f n else f q) < n
        by_cases e : f q = n
        · rw [if_pos e]
          by_cases e2 : f n = n
          · have := h2 q n (by omega) (by omega) (e.trans e2.symm)
            omega
          · omega
        · rw [if_neg e]
          have := h1 q (by omega)
          omega
      · have e' : (if f p = n then f n else f p) = (if f q = n then f n else f q) := e
        by_cases e1 : f p = n
        · by_cases e2 : f q = n
          · exact h2 p q (by omega) (by omega) (e1.trans e2.symm)
          · rw [if_pos e1, if_neg e2] at e'
            have := h2 n q (by omega) (by omega) e'
            omega
        · by_cases e2 : f q = n
          · rw [if_neg e1, if_pos e2] at e'
            have := h2 p n (by omega) (by omega) e'
            omega
          · rw [if_neg e1, if_neg e2] at e'
            exact h2 p q (by omega) (by omega) e'
    have ih := pf_surj n _ hg
    by_cases c1 : i = f n
    · exact ⟨n, by omega, c1.symm⟩
    by_cases c2 : i = n
    · obtain ⟨q, hq, e⟩ := ih (f n) (by omega)
      have e' : (if f q = n then f n else f q) = f n := e
      by_cases e1 : f q = n
      · exact ⟨q, by omega, e1.trans c2.symm⟩
      · rw [if_neg e1] at e'
        have := h2 q n (by omega) (by omega) e'
        omega
    · obtain ⟨q, hq, e⟩ := ih i (by omega)
      have e' : (if f q = n then f n else f q) = i := e
      by_cases e1 : f q = n
      · rw [if_pos e1] at e'
        exact absurd e'.symm c1
      · rw [if_neg e1] at e'
        exact ⟨q, by omega, e'⟩
theorem dg_tr {f : Nat → Nat} {a P : Nat} (h : pf P f) : ∀ p, p ≤ P → ∀ i, (∀ q, q < p → f q = i → dg (tr f a p) i = dg a q) ∧ ((∀ q, q < p → f q ≠ i) → dg (tr f a p) i = 0)
  | 0, _, i => ⟨fun q hq => absurd hq (Nat.not_lt_zero _), fun _ => dg_0 i⟩
  | p + 1, hp, i => by
    obtain ⟨ih1, ih2⟩ := dg_tr (a := a) h p (by omega) i
    have e0 : dg (tr f a (p + 1)) i = dg (tr f a p) i ||| (if i = f p then dg a p else 0) := by
      show dg (tr f a p ||| dg a p * 8 ^ f p) i = _
      rw [dg_or, dg_pt (dg_lt a p)]
    rw [e0]
    refine ⟨fun q hq e => ?_, fun hn => ?_⟩
    · by_cases hqp : q = p
      · have h2 : dg (tr f a p) i = 0 := ih2 (fun r hr er => by
          have := h.2 r p (by omega) (by omega) (er.trans (by rw [← hqp]; exact e.symm))
          omega)
        rw [h2, hqp, if_pos (by rw [← hqp]; exact e.symm), Nat.zero_or]
      · rw [ih1 q (by omega) e, if_neg (fun e2 => by
          have := h.2 q p (by omega) (by omega) (e.trans e2)
          omega), Nat.or_zero]
    · rw [ih2 (fun q hq => hn q (by omega)), if_neg (fun e2 => hn p (by omega) e2.symm), Nat.zero_or]
theorem tr_at {f : Nat → Nat} {a P q : Nat} (h : pf P f) (hq : q < P) : dg (tr f a P) (f q) = dg a q := (dg_tr h P (Nat.le_refl _) (f q)).1 q hq rfl
theorem tr_8 {f : Nat → Nat} {a P : Nat} (hf : ∀ q, q < P → f q < P) : ∀ p, p ≤ P → tr f a p < 8 ^ P
  | 0, _ => Nat.pow_pos (by decide)
  | p + 1, hp => by
    have h1 := tr_8 (a := a) hf p (by omega)
    have h2 := hf p (by omega)
    show tr f a p ||| dg a p * 8 ^ f p < 8 ^ P
    have e8 : 8 ^ P = 2 ^ (3 * P) := (q_p8 P).symm
    rw [e8] at h1 ⊢
    refine Nat.or_lt_two_pow h1 ?_
    rw [← e8]
    have h3 : dg a p * 8 ^ f p < 8 * 8 ^ f p := Nat.mul_lt_mul_of_pos_right (dg_lt a p) (Nat.pow_pos (by decide))
    have h4 : 8 * 8 ^ f p ≤ 8 ^ P := by
      rw [show 8 * 8 ^ f p = 8 ^ (f p + 1) by rw [Nat.pow_succ, Nat.mul_comm]]
      exact Nat.pow_le_pow_right (by decide) (by omega)
    omega
theorem pm_tr {f : Nat → Nat} {a P : Nat} (h : pf P f) (ha : pm P a) : pm P (tr f a P) := by
  refine ⟨tr_8 h.1 P (Nat.le_refl _), fun p hp => ?_, fun p q hp hq e => ?_⟩
  · obtain ⟨i, hi, rfl⟩ := pf_surj P f h p hp
    rw [tr_at h hi]; exact ha.2.1 i hi
  · obtain ⟨i, hi, rfl⟩ := pf_surj P f h p hp
    obtain ⟨j, hj, rfl⟩ := pf_surj P f h q hq
    rw [tr_at h hi, tr_at h hj] at e
    rw [ha.2.2 i j hi hj e]
theorem pm_lt {P a : Nat} (h7 : P ≤ 7) (h : pm P a) : a < 2097152 := Nat.lt_of_lt_of_le h.1 (q_le7 h7)
/-- a row of places says what a state says -/
def SD (P : Nat) (s : Nat → Nat) (a : Nat) : Prop := ∀ p, p < P → s p = dg a p
theorem sct_at {F f g : Nat → Nat} {P : Nat} (h : pf P F) : ∀ p, p ≤ P → ∀ q, q < p → sct F f g p (F q) = f q
  | p + 1, hp, q, hq => by
    show un (sct F f g p) (F p) (f p) (F q) = f q
    by_cases e : q = p
    · rw [e, un_at]
    · rw [un_ne (fun e2 => e (h.2 q p (by omega) (by omega) e2)), sct_at h p (by omega) q (by omega)]
theorem SD_done {F s ot : Nat → Nat} {P a : Nat} (h : pf P F) (hs : SD P s a) : SD P (cz (sct F s ot P) s P) (tr F a P) := by
  intro p hp
  obtain ⟨q, hq, rfl⟩ := pf_surj P F h p hp
  unfold cz
  rw [if_pos hp, sct_at h P (Nat.le_refl _) q hq, tr_at h hq, hs q hq]
theorem bh_inj {t : Nat → Nat} {m P : Nat} (ht : ∀ q, q < P → t (m * 7 + q) < P) (hi : ∀ p q, p < P → q < P → t (m * 7 + p) = t (m * 7 + q) → p = q) : ∀ k p q, p < P → q < P → bh t m k p = bh t m k q → p = q
  | 0, _, _, _, _, e => e
  | k + 1, p, q, hp, hq, e => bh_inj ht hi k p q hp hq (hi _ _ (bh_lt ht k p hp) (bh_lt ht k q hq) e)
theorem bh_pf {P Mv : Nat} {t od : Nat → Nat} (T : TV P Mv t od) (m k : Nat) (hm : m < 6) : pf P (bh t m k) := ⟨fun q hq => bh_lt (T.ht m) k q hq, bh_inj (T.ht m) (T.hi m hm) k⟩
theorem im_inj {P Mv : Nat} {t od r : Nat → Nat} (T : TV P Mv t od) (hr : ∀ k, r k < 96) : ∀ k p q, p < P → q < P → im t r k p = im t r k q → p = q
  | 0, _, _, _, _, e => e
  | k + 1, p, q, hp, hq, e => im_inj T hr k p q hp hq (bh_inj (T.ht _) (T.hi _ (by have := hr k; omega)) _ _ _ (im_lt (L := k) (fun j _ x hx => T.ht _ x hx) k (Nat.le_refl _) p hp) (im_lt (L := k) (fun j _ x hx => T.ht _ x hx) k (Nat.le_refl _) q hq) e)
theorem im_pf {P Mv : Nat} {t od r : Nat → Nat} (T : TV P Mv t od) (hr : ∀ k, r k < 96) (k : Nat) : pf P (im t r k) := ⟨fun q hq => im_lt (L := k) (fun j _ x hx => T.ht _ x hx) k (Nat.le_refl _) q hq, im_inj T hr k⟩
theorem mv_pf {P Mv : Nat} {t od : Nat → Nat} (T : TV P Mv t od) (m : Nat) (hm : m < 6) : pf P (fun q => t (m * 7 + q)) := ⟨T.ht m, T.hi m hm⟩
theorem tr_congr {f g : Nat → Nat} {a : Nat} : ∀ p, (∀ q, q < p → f q = g q) → tr f a p = tr g a p
  | 0, _ => rfl
  | p + 1, h => by
    show tr f a p ||| dg a p * 8 ^ f p = tr g a p ||| dg a p * 8 ^ g p
    rw [tr_congr p (fun q hq => h q (by omega)), h p (by omega)]
theorem pf_congr {P : Nat} {f g : Nat → Nat} (h : pf P f) (e : ∀ q, q < P → g q = f q) : pf P g := ⟨fun q hq => by rw [e q hq]; exact h.1 q hq, fun p q hp hq he => h.2 p q hp hq (by rw [← e p hp, ← e q hq]; exact he)⟩
theorem RE.wpf {A : CA} {R : RA} (H : RE A R) {w : Nat} (hw : w < A.wc) : pf A.P (fun q => A.wg (w * 7 + q)) := pf_congr (im_pf H.T (r := fun k => A.rr (w * 40 + k)) (fun k => H.V.rr _) (A.rl w)) (fun q hq => H.wi w hw q hq)
/-- the places exchanged -/
theorem sw_dg {x i j : Nat} (hij : i ≠ j) (p : Nat) : dg (x ^^^ (dg x i ^^^ dg x j) * 8 ^ i ^^^ (dg x i ^^^ dg x j) * 8 ^ j) p = if p = i then dg x j else if p = j then dg x i else dg x p := by
  have hv : dg x i ^^^ dg x j < 8 := Nat.xor_lt_two_pow (n := 3) (dg_lt x i) (dg_lt x j)
  rw [dg_xor, dg_xor, dg_pt hv, dg_pt hv]
  by_cases h1 : p = i
  · rw [if_pos h1, if_neg (by omega), if_pos h1, h1, Nat.xor_zero, ← Nat.xor_assoc, Nat.xor_self, Nat.zero_xor]
  · rw [if_neg h1, if_neg h1, Nat.xor_zero]
    by_cases h2 : p = j
    · rw [if_pos h2, if_pos h2, h2, Nat.xor_comm (dg x i), ← Nat.xor_assoc, Nat.xor_self, Nat.zero_xor]
    · rw [if_neg h2, if_neg h2, Nat.xor_zero]
theorem sw_pm {P x i j : Nat} (h : pm P x) (hi : i < P) (hj : j < P) (hij : i ≠ j) : pm P (x ^^^ (dg x i ^^^ dg x j) * 8 ^ i ^^^ (dg x i ^^^ dg x j) * 8 ^ j) := by
  have hv : dg x i ^^^ dg x j < 8 := Nat.xor_lt_two_pow (n := 3) (dg_lt x i) (dg_lt x j)
  have hb : ∀ k, k < P → (dg x i ^^^ dg x j) * 8 ^ k < 2 ^ (3 * P) := by
    intro k hk
    rw [q_p8]
    have h3 : (dg x i ^^^ dg x j) * 8 ^ k < 8 * 8 ^ k := Nat.mul_lt_mul_of_pos_right hv (Nat.pow_pos (by decide))
    have h4 : 8 * 8 ^ k ≤ 8 ^ P := by
      rw [show 8 * 8 ^ k = 8 ^ (k + 1) by rw [Nat.pow_succ, Nat.mul_comm]]
      exact Nat.pow_le_pow_right (by decide) (by omega)
    omega
  refine ⟨?_, fun p hp => ?_, fun p q hp hq e => ?_⟩
  · have h1 := h.1
    rw [show 8 ^ P = 2 ^ (3 * P) from (q_p8 P).symm] at h1 ⊢
    exact Nat.xor_lt_two_pow (Nat.xor_lt_two_pow h1 (hb i hi)) (hb j hj)
  · rw [sw_dg hij]
    split
    · exact h.2.1 j hj
    · split
      · exact h.2.1 i hi
      · exact h.2.1 p hp
  · rw [sw_dg hij, sw_dg hij] at e
    have hσ : ∀ p, (if p = i then dg x j else if p = j then dg x i else dg x p) = dg x (if p = i then j else if p = j then i else p) := by
      intro p
      by_cases a1 : p = i
      · rw [if_pos a1, if_pos a1]
      · rw [if_neg a1, if_neg a1]
        by_cases a2 : p = j
        · rw [if_pos a2, if_pos a2]
        · rw [if_neg a2, if_neg a2]
    have hl : ∀ p, p < P → (if p = i then j else if p = j then i else p) < P := by
      intro p hp
      split
      · exact hj
      · split
        · exact hi
        · exact hp
    rw [hσ p, hσ q] at e
    have e2 := h.2.2 _ _ (hl p hp) (hl q hq) e
    by_cases a1 : p = i
    · rw [if_pos a1] at e2
      by_cases a2 : q = i
      · omega
      · rw [if_neg a2] at e2
        by_cases a3 : q = j
        · rw [if_pos a3] at e2; omega
        · rw [if_neg a3] at e2; omega
    · rw [if_neg a1] at e2
      by_cases a3 : p = j
      · rw [if_pos a3] at e2
        by_cases a2 : q = i
        · rw [if_pos a2] at e2; omega
        · rw [if_neg a2] at e2
          by_cases a4 : q = j
          · omega
          · rw [if_neg a4] at e2; omega
      · rw [if_neg a3] at e2
        by_cases a2 : q = i
        · rw [if_pos a2] at e2; omega
        · rw [if_neg a2] at e2
          by_cases a4 : q = j
          · rw [if_pos a4] at e2; omega
          · rw [if_neg a4] at e2; exact e2
