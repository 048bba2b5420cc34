/-! SET-UPS: how far triples are (wip/whole/gen/mkbi.py) -/
/-- so many rows from x to the triple e -/
def wk (tf : Nat → Nat → Nat) (od : Nat → Nat) (Mv e : Nat) : Nat → Nat → Prop
  | 0, x => x = e
  | r + 1, x => ∃ m t, m < Mv ∧ 1 ≤ t ∧ t < od m ∧ wk tf od Mv e r (it (tf m) t x)
/-- moves of triples: they stay triples; each has its order -/
def TH (P : Nat) (tf : Nat → Nat → Nat) (od : Nat → Nat) (Mv : Nat) : Prop := (∀ m y, o3 P y → tf m y < 512 ∧ o3 P (tf m y)) ∧ ∀ m x, m < Mv → x < 512 → o3 P x → it (tf m) (od m) x = x
theorem it_add (f : Nat → Nat) : ∀ b a x, it f (a + b) x = it f a (it f b x)
  | 0, _, _ => rfl
  | b + 1, a, x => it_add f b a (f x)
theorem it_ok {P : Nat} {f : Nat → Nat} (h : ∀ y, o3 P y → f y < 512 ∧ o3 P (f y)) : ∀ t x, x < 512 → o3 P x → it f t x < 512 ∧ o3 P (it f t x)
  | 0, _, h1, h2 => ⟨h1, h2⟩
  | t + 1, x, _, h2 => it_ok h t (f x) (h x h2).1 (h x h2).2
theorem it_back {P Mv : Nat} {tf : Nat → Nat → Nat} {od : Nat → Nat} (H : TH P tf od Mv) {m t x : Nat} (hm : m < Mv) (ht : t < od m) (hx : x < 512) (h3 : o3 P x) : it (tf m) (od m - t) (it (tf m) t x) = x := by
  rw [← it_add, Nat.sub_add_cancel (Nat.le_of_lt ht)]
  exact H.2 m x hm hx h3
theorem wk_s {P Mv e : Nat} {tf : Nat → Nat → Nat} {od : Nat → Nat} (H : TH P tf od Mv) {r m t x : Nat} (hw : wk tf od Mv e r x) (hm : m < Mv) (h1 : 1 ≤ t) (ht : t < od m) (hx : x < 512) (h3 : o3 P x) : wk tf od Mv e (r + 1) (it (tf m) t x) :=
  ⟨m, od m - t, hm, by omega, by omega, by rw [it_back H hm ht hx h3]; exact hw⟩
/-- what is found and queued -/
def JI (tf : Nat → Nat → Nat) (od : Nat → Nat) (Mv e i : Nat) (b : Nat × (Nat → Nat) × (Nat → Nat)) : Prop :=
  (∀ x, x < 512 → b.2.2 x ≠ 4294967295 → ∃ j, j < b.1 ∧ b.2.1 j = x) ∧
  (∀ j k, j ≤ k → k < b.1 → b.2.2 (b.2.1 j) ≤ b.2.2 (b.2.1 k)) ∧
  (∀ x, x < 512 → b.2.2 x ≠ 4294967295 → wk tf od Mv e (b.2.2 x) x) ∧
  (∀ j, j < i → j < b.1 ∧ ∀ m t, m < Mv → 1 ≤ t → t < od m → b.2.2 (it (tf m) t (b.2.1 j)) ≠ 4294967295 ∧ b.2.2 (it (tf m) t (b.2.1 j)) ≤ b.2.2 (b.2.1 j) + 1)
theorem JI_ar {P Mv e i y v : Nat} {tf : Nat → Nat → Nat} {od : Nat → Nat} {b : Nat × (Nat → Nat) × (Nat → Nat)} (B : B3 P b) (h : JI tf od Mv e i b) (hy : y < 512) (hw : wk tf od Mv e v y) (hv : ∀ k, k < b.1 → b.2.2 (b.2.1 k) ≤ v) (hv9 : v < 1000) :
    JI tf od Mv e i (ar y v b) ∧ (∀ k, k < (ar y v b).1 → (ar y v b).2.2 ((ar y v b).2.1 k) ≤ v) ∧ (ar y v b).2.2 y ≠ 4294967295 ∧ (ar y v b).2.2 y ≤ v := by
  obtain ⟨ha, hc, he, hf⟩ := h
  have hn : b.1 ≤ 512 := by have := B.1; omega
  unfold ar
  split
  · rename_i h0
    have hq : ∀ k, k < b.1 → un b.2.2 y v (un b.2.1 b.1 y k) = b.2.2 (b.2.1 k) ∧ b.2.2 (b.2.1 k) ≠ 4294967295 := by
      intro k hk
      have h1 := (B.2.1 k hk).2.2
      rw [un_ne (show k ≠ b.1 by omega)]
      have h2 : b.2.2 (b.2.1 k) ≠ 4294967295 := by omega
      exact ⟨un_ne (fun e9 => h2 (by rw [e9]; exact h0)), h2⟩
    have hl : un b.2.2 y v (un b.2.1 b.1 y b.1) = v := by rw [un_at, un_at]
    refine ⟨⟨fun x hx hn2 => ?_, fun j k hjk hk => ?_, fun x hx hn2 => ?_, fun j hj => ?_⟩, fun k hk => ?_, ?_, ?_⟩
    · by_cases c : x = y
      · exact ⟨b.1, Nat.lt_succ_self _, by show un b.2.1 b.1 y b.1 = x; rw [un_at, c]⟩
      · replace hn2 : un b.2.2 y v x ≠ 4294967295 := hn2
        rw [un_ne c] at hn2
        obtain ⟨j, hj, e9⟩ := ha x hx hn2
        exact ⟨j, Nat.lt_succ_of_lt hj, by show un b.2.1 b.1 y j = x; rw [un_ne (by omega)]; exact e9⟩
    · replace hk : k < b.1 + 1 := hk
      show un b.2.2 y v (un b.2.1 b.1 y j) ≤ un b.2.2 y v (un b.2.1 b.1 y k)
      by_cases c : k = b.1
      · rw [c, hl]
        by_cases c2 : j = b.1
        · rw [c2, hl]; exact Nat.le_refl _
        · rw [(hq j (by omega)).1]; exact hv j (by omega)
      · rw [(hq j (by omega)).1, (hq k (by omega)).1]; exact hc j k hjk (by omega)
    · show wk tf od Mv e (un b.2.2 y v x) x
      by_cases c : x = y
      · rw [c, un_at]; exact hw
      · replace hn2 : un b.2.2 y v x ≠ 4294967295 := hn2
        rw [un_ne c] at hn2 ⊢
        exact he x hx hn2
    · obtain ⟨h1, h2⟩ := hf j hj
      refine ⟨Nat.lt_succ_of_lt h1, fun m t hm ht1 ht2 => ?_⟩
      obtain ⟨h3, h4⟩ := h2 m t hm ht1 ht2
      show un b.2.2 y v (it (tf m) t (un b.2.1 b.1 y j)) ≠ 4294967295 ∧ un b.2.2 y v (it (tf m) t (un b.2.1 b.1 y j)) ≤ un b.2.2 y v (un b.2.1 b.1 y j) + 1
      rw [(hq j h1).1, un_ne (show j ≠ b.1 by omega), un_ne (fun e9 => h3 (by rw [e9]; exact h0))]
      exact ⟨h3, h4⟩
    · replace hk : k < b.1 + 1 := hk
      show un b.2.2 y v (un b.2.1 b.1 y k) ≤ v
      by_cases c : k = b.1
      · rw [c, hl]; exact Nat.le_refl _
      · rw [(hq k (by omega)).1]; exact hv k (by omega)
    · show un b.2.2 y v y ≠ 4294967295
      rw [un_at]; omega
    · show un b.2.2 y v y ≤ v
      rw [un_at]; exact Nat.le_refl _
  · rename_i h0
    refine ⟨⟨ha, hc, he, hf⟩, hv, h0, ?_⟩
    obtain ⟨j, hj, e9⟩ := ha y hy h0
    rw [← e9]; exact hv j hj
theorem n1_JI {P Mv e i v m : Nat} {tf : Nat → Nat → Nat} {od : Nat → Nat} (ht : ∀ y, o3 P y → tf m y < 512 ∧ o3 P (tf m y)) (hv9 : v < 1000) : ∀ (j y : Nat) (b : Nat × (Nat → Nat) × (Nat → Nat)), o3 P y → B3 P b → v ≤ b.1 → JI tf od Mv e i b → (∀ k, k < b.1 → b.2.2 (b.2.1 k) ≤ v) → (∀ s, 1 ≤ s → s ≤ j → wk tf od Mv e v (it (tf m) s y)) →
    JI tf od Mv e i (n1 tf v m j y b) ∧ (∀ k, k < (n1 tf v m j y b).1 → (n1 tf v m j y b).2.2 ((n1 tf v m j y b).2.1 k) ≤ v) ∧ ∀ s, 1 ≤ s → s ≤ j → (n1 tf v m j y b).2.2 (it (tf m) s y) ≠ 4294967295 ∧ (n1 tf v m j y b).2.2 (it (tf m) s y) ≤ v
  | 0, _, b, _, _, _, h1, h2, _ => ⟨h1, h2, fun s a1 a2 => absurd a1 (by omega)⟩
  | j + 1, y, b, hy, B, hvb, h1, h2, hw => by
    have hY := ht y hy
    have hg : b.1 ≤ (ar (tf m y) v b).1 := ar_ge
    have B2 := B3_ar B hY.1 hY.2 hvb
    obtain ⟨c1, c2, c3, c4⟩ := JI_ar B h1 hY.1 (hw 1 (by omega) (by omega)) h2 hv9
    obtain ⟨d1, d2, d3⟩ := n1_JI (P := P) ht hv9 j (tf m y) (ar (tf m y) v b) hY.2 B2 (by omega) c1 c2 (fun s a1 a2 => hw (s + 1) (by omega) (by omega))
    obtain ⟨_, _, _, k4⟩ := n1_B3 (v := v) ht j (tf m y) (ar (tf m y) v b) hY.2 B2 (by omega)
    refine ⟨d1, d2, fun s a1 a2 => ?_⟩
    cases s with
    | zero => exact absurd a1 (by omega)
    | succ s =>
      by_cases c : s = 0
      · subst c
        show (n1 tf v m j (tf m y) (ar (tf m y) v b)).2.2 (tf m y) ≠ 4294967295 ∧ (n1 tf v m j (tf m y) (ar (tf m y) v b)).2.2 (tf m y) ≤ v
        rw [k4 _ c3]
        exact ⟨c3, c4⟩
      · exact d3 s (by omega) (by omega)
theorem n2_JI {P Mv e i v x : Nat} {tf : Nat → Nat → Nat} {od : Nat → Nat} (ht : ∀ m y, o3 P y → tf m y < 512 ∧ o3 P (tf m y)) (hx : o3 P x) (hv9 : v < 1000) : ∀ (j m : Nat) (b : Nat × (Nat → Nat) × (Nat → Nat)), B3 P b → v ≤ b.1 → JI tf od Mv e i b → (∀ k, k < b.1 → b.2.2 (b.2.1 k) ≤ v) → (∀ m2 s, m ≤ m2 → m2 < m + j → 1 ≤ s → s < od m2 → wk tf od Mv e v (it (tf m2) s x)) →
    JI tf od Mv e i (n2 tf od v x j m b) ∧ (∀ k, k < (n2 tf od v x j m b).1 → (n2 tf od v x j m b).2.2 ((n2 tf od v x j m b).2.1 k) ≤ v) ∧ ∀ m2 s, m ≤ m2 → m2 < m + j → 1 ≤ s → s < od m2 → (n2 tf od v x j m b).2.2 (it (tf m2) s x) ≠ 4294967295 ∧ (n2 tf od v x j m b).2.2 (it (tf m2) s x) ≤ v
  | 0, m, b, _, _, h1, h2, _ => ⟨h1, h2, fun m2 s a1 a2 => absurd a1 (by omega)⟩
  | j + 1, m, b, B, hvb, h1, h2, hw => by
    obtain ⟨k1, k2, k3, k4⟩ := n1_B3 (v := v) (m := m) (ht m) (od m - 1) x b hx B hvb
    obtain ⟨c1, c2, c3⟩ := n1_JI (P := P) (m := m) (ht m) hv9 (od m - 1) x b hx B hvb h1 h2 (fun s a1 a2 => hw m s (Nat.le_refl _) (by omega) a1 (by omega))
    obtain ⟨d1, d2, d3⟩ := n2_JI (P := P) ht hx hv9 j (m + 1) (n1 tf v m (od m - 1) x b) k1 (by omega) c1 c2 (fun m2 s a1 a2 a3 a4 => hw m2 s (by omega) (by omega) a3 a4)
    obtain ⟨_, _, _, l4⟩ := n2_B3 (v := v) (od := od) ht hx j (m + 1) (n1 tf v m (od m - 1) x b) k1 (by omega)
    refine ⟨d1, d2, fun m2 s a1 a2 a3 a4 => ?_⟩
    by_cases c : m2 = m
    · subst c
      obtain ⟨f1, f2⟩ := c3 s a3 (by omega)
      show (n2 tf od v x j (m2 + 1) (n1 tf v m2 (od m2 - 1) x b)).2.2 _ ≠ _ ∧ (n2 tf od v x j (m2 + 1) (n1 tf v m2 (od m2 - 1) x b)).2.2 _ ≤ _
      rw [l4 _ f1]
      exact ⟨f1, f2⟩
    · exact d3 m2 s (by omega) (by omega) a3 a4
theorem n3_JI {P Mv e : Nat} {tf : Nat → Nat → Nat} {od : Nat → Nat} (H : TH P tf od Mv) : ∀ (j i : Nat) (b : Nat × (Nat → Nat) × (Nat → Nat)), i + j = 512 → B3 P b → JI tf od Mv e i b → (i < b.1 → ∀ k, k < b.1 → b.2.2 (b.2.1 k) ≤ b.2.2 (b.2.1 i) + 1) →
    ∃ i2, JI tf od Mv e i2 (n3 tf od Mv j i b) ∧ (n3 tf od Mv j i b).1 ≤ i2 ∧ B3 P (n3 tf od Mv j i b) ∧ ∀ q, b.2.2 q ≠ 4294967295 → (n3 tf od Mv j i b).2.2 q = b.2.2 q
  | 0, i, b, hj, B, h, _ => ⟨i, h, by have := B.1; show b.1 ≤ i; omega, B, fun _ _ => rfl⟩
  | j + 1, i, b, hj, B, h, hd => by
    by_cases c : i < b.1
    · rw [show n3 tf od Mv (j + 1) i b = n3 tf od Mv j (i + 1) (n2 tf od (b.2.2 (b.2.1 i) + 1) (b.2.1 i) Mv 0 b) from if_pos c]
      obtain ⟨x1, x2, x3⟩ := B.2.1 i c
      have hn : b.1 ≤ 512 := by have := B.1; omega
      have hw := h.2.2.1 _ x1 (by omega)
      obtain ⟨k1, k2, k3, k4⟩ := n2_B3 (v := b.2.2 (b.2.1 i) + 1) (od := od) H.1 x2 Mv 0 b B (by omega)
      obtain ⟨c1, c2, c3⟩ := n2_JI (P := P) (v := b.2.2 (b.2.1 i) + 1) H.1 x2 (by omega) Mv 0 b B (by omega) h (hd c) (fun m2 s _ a2 a3 a4 => wk_s H hw (by omega) a3 a4 x1 x2)
      have e1 := k3 i c
      have e2 := k4 (b.2.1 i) (by omega)
      have hJ : JI tf od Mv e (i + 1) (n2 tf od (b.2.2 (b.2.1 i) + 1) (b.2.1 i) Mv 0 b) := by
        refine ⟨c1.1, c1.2.1, c1.2.2.1, fun j2 hj2 => ?_⟩
        by_cases c9 : j2 = i
        · subst c9
          refine ⟨by omega, fun m t hm ht1 ht2 => ?_⟩
          rw [e1, e2]
          exact c3 m t (Nat.zero_le _) (by omega) ht1 ht2
        · exact c1.2.2.2 j2 (by omega)
      obtain ⟨i2, r1, r2, r3, r4⟩ := n3_JI H j (i + 1) _ (by omega) k1 hJ (fun hlt k hk => by
        have a1 := c2 k hk
        have a2 := c1.2.1 i (i + 1) (by omega) hlt
        rw [e1, e2] at a2
        omega)
      exact ⟨i2, r1, r2, r3, fun q hq => (r4 q (by rw [k4 q hq]; exact hq)).trans (k4 q hq)⟩
    · rw [show n3 tf od Mv (j + 1) i b = b from if_neg c]
      exact ⟨i, h, by omega, B, fun _ _ => rfl⟩
/-- far is how far it is -/
theorem n3_far {P Mv e : Nat} {tf : Nat → Nat → Nat} {od : Nat → Nat} (H : TH P tf od Mv) {qu fa : Nat → Nat} (he : e < 512) (h3 : o3 P e) :
    (∀ x, x < 512 → (n3 tf od Mv 512 0 (1, un qu 0 e, un (fil 4294967295 fa 512) e 0)).2.2 x ≠ 4294967295 → (n3 tf od Mv 512 0 (1, un qu 0 e, un (fil 4294967295 fa 512) e 0)).2.2 x < 512 ∧ wk tf od Mv e ((n3 tf od Mv 512 0 (1, un qu 0 e, un (fil 4294967295 fa 512) e 0)).2.2 x) x) ∧
    ∀ r x, x < 512 → o3 P x → wk tf od Mv e r x → (n3 tf od Mv 512 0 (1, un qu 0 e, un (fil 4294967295 fa 512) e 0)).2.2 x ≠ 4294967295 ∧ (n3 tf od Mv 512 0 (1, un qu 0 e, un (fil 4294967295 fa 512) e 0)).2.2 x ≤ r := by
  have B0 := B3_0 (P := P) (qu := qu) (fa := fa) he h3
  have f0 : un (fil 4294967295 fa 512) e 0 e = 0 := un_at
  have fx : ∀ x, x < 512 → un (fil 4294967295 fa 512) e 0 x ≠ 4294967295 → x = e := by
    intro x hx hn
    refine Classical.byContradiction (fun c => hn ?_)
    rw [un_ne c]; unfold fil; rw [if_pos hx]
  have J0 : JI tf od Mv e 0 (1, un qu 0 e, un (fil 4294967295 fa 512) e 0) := by
    refine ⟨fun x hx hn => ⟨0, Nat.zero_lt_one, ?_⟩, fun j k hjk hk => ?_, fun x hx hn => ?_, fun j hj => absurd hj (by omega)⟩
    · show un qu 0 e 0 = x
      rw [un_at]; exact (fx x hx hn).symm
    · replace hk : k < 1 := hk
      obtain rfl : k = 0 := by omega
      obtain rfl : j = 0 := by omega
      exact Nat.le_refl _
    · have e9 := fx x hx hn
      show wk tf od Mv e (un (fil 4294967295 fa 512) e 0 x) x
      rw [e9, f0]; rfl
  obtain ⟨i2, r1, r2, r3, r4⟩ := n3_JI (e := e) H 512 0 _ (by omega) B0 J0 (fun _ k hk => by
    replace hk : k < 1 := hk
    obtain rfl : k = 0 := by omega
    exact Nat.le_succ _)
  have hfe := r4 e (by show un (fil 4294967295 fa 512) e 0 e ≠ 4294967295; rw [f0]; decide)
  replace hfe : _ = un (fil 4294967295 fa 512) e 0 e := hfe
  rw [f0] at hfe
  have hn5 : (n3 tf od Mv 512 0 (1, un qu 0 e, un (fil 4294967295 fa 512) e 0)).1 ≤ 512 := by have := r3.1; omega
  refine ⟨fun x hx hn => ⟨?_, r1.2.2.1 x hx hn⟩, ?_⟩
  · rcases r3.2.2 x hx with q | q
    · exact absurd q hn
    · omega
  · intro r
    induction r with
    | zero =>
      intro x hx hx3 hw
      replace hw : x = e := hw
      rw [hw, hfe]
      exact ⟨by decide, Nat.le_refl _⟩
    | succ r ih =>
      intro x hx hx3 hw
      obtain ⟨m, t, hm, h1, h2, hw2⟩ := hw
      have hy := it_ok (H.1 m) t x hx hx3
      obtain ⟨g1, g2⟩ := ih _ hy.1 hy.2 hw2
      obtain ⟨j, hj, ej⟩ := r1.1 _ hy.1 g1
      obtain ⟨_, hcl⟩ := r1.2.2.2 j (by omega)
      have h4 := hcl m (od m - t) hm (by omega) (by omega)
      rw [ej, it_back H hm h2 hx hx3] at h4
      exact ⟨h4.1, by omega⟩
/-- how far it is, just -/
def ds (W : Nat → Nat → Prop) (r k : Nat) : Prop := W r k ∧ ∀ s, s < r → ¬ W s k
theorem ds_ex {W : Nat → Nat → Prop} {r k : Nat} (h : W r k) : ∃ s, s ≤ r ∧ ds W s k := by
  obtain ⟨s, h1, h2, h3⟩ := lst (Q := fun s => W s k) r h
  exact ⟨s, h1, h2, h3⟩
theorem ds_u {W : Nat → Nat → Prop} {r s k : Nat} (h : ds W r k) (h2 : ds W s k) : r = s := by
  rcases Nat.lt_trichotomy r s with c | c | c
  · exact absurd h.1 (h2.2 r c)
  · exact c
  · exact absurd h2.1 (h.2 s c)
theorem n3_ds {P Mv e : Nat} {tf : Nat → Nat → Nat} {od : Nat → Nat} (H : TH P tf od Mv) {qu fa : Nat → Nat} (he : e < 512) (h3 : o3 P e) {x r : Nat} (hx : x < 512) (hx3 : o3 P x) (hr : r < 4294967295) :
    (n3 tf od Mv 512 0 (1, un qu 0 e, un (fil 4294967295 fa 512) e 0)).2.2 x = r ↔ ds (wk tf od Mv e) r x := by
  obtain ⟨h1, h2⟩ := n3_far H (qu := qu) (fa := fa) he h3
  constructor
  · intro er
    obtain ⟨a1, a2⟩ := h1 x hx (by omega)
    rw [er] at a2
    refine ⟨a2, fun s hs hw => ?_⟩
    have := (h2 s x hx hx3 hw).2
    omega
  · intro hd
    obtain ⟨a1, a2⟩ := h2 r x hx hx3 hd.1
    obtain ⟨b1, b2⟩ := h1 x hx a1
    rcases Nat.lt_or_ge ((n3 tf od Mv 512 0 (1, un qu 0 e, un (fil 4294967295 fa 512) e 0)).2.2 x) r with c | c
    · exact absurd b2 (hd.2 _ c)
    · omega
/-- the reference's number of a triple -/
def kp (x : Nat) : Nat := dg x 0 + 7 * dg x 1 + 49 * dg x 2
def st7 (t : Nat → Nat) (k m s : Nat) : Nat := bh t m s (k % 7) + 7 * bh t m s (k / 7 % 7) + 49 * bh t m s (k / 49)
/-- a number of three places -/
def ok7 (P k : Nat) : Prop := k % 7 < P ∧ k / 7 % 7 < P ∧ k / 49 < P
def wc7 (t od : Nat → Nat) (Mv g : Nat) : Nat → Nat → Prop
  | 0, k => k = g
  | r + 1, k => ∃ m s, m < Mv ∧ 1 ≤ s ∧ s < od m ∧ wc7 t od Mv g r (st7 t k m s)
theorem kp_dg {P x : Nat} (h7 : P ≤ 7) (h : o3 P x) : kp x % 7 = dg x 0 ∧ kp x / 7 % 7 = dg x 1 ∧ kp x / 49 = dg x 2 := by
  have h0 := h 0 (by decide)
  have h1 := h 1 (by decide)
  have h2 := h 2 (by decide)
  unfold kp
  refine ⟨by omega, by omega, by omega⟩
theorem kp_ok {P x : Nat} (h7 : P ≤ 7) (h : o3 P x) : ok7 P (kp x) := by
  obtain ⟨a, b, c⟩ := kp_dg h7 h
  unfold ok7
  rw [a, b, c]
  exact ⟨h 0 (by decide), h 1 (by decide), h 2 (by decide)⟩
theorem ok7_lt {P k : Nat} (h7 : P ≤ 7) (h : ok7 P k) : k < 343 := by
  obtain ⟨a, b, c⟩ := h
  omega
theorem st7_ok {P m s k : Nat} {t : Nat → Nat} (h7 : P ≤ 7) (ht : ∀ q, q < P → t (m * 7 + q) < P) (h : ok7 P k) : ok7 P (st7 t k m s) := by
  have a := bh_lt ht s _ h.1
  have b := bh_lt ht s _ h.2.1
  have c := bh_lt ht s _ h.2.2
  unfold ok7 st7
  refine ⟨by omega, by omega, by omega⟩
theorem x_dg {x : Nat} (hx : x < 512) : x = dg x 0 + 8 * dg x 1 + 64 * dg x 2 := by
  unfold dg
  rw [show (8 : Nat) ^ 0 = 1 from rfl, show (8 : Nat) ^ 1 = 8 from rfl, show (8 : Nat) ^ 2 = 64 from rfl]
  omega
theorem kp_inj {P x y : Nat} (h7 : P ≤ 7) (hx : x < 512) (hy : y < 512) (h1 : o3 P x) (h2 : o3 P y) (e : kp x = kp y) : x = y := by
  obtain ⟨a, b, c⟩ := kp_dg h7 h1
  obtain ⟨a2, b2, c2⟩ := kp_dg h7 h2
  rw [x_dg hx, x_dg hy, ← a, ← b, ← c, ← a2, ← b2, ← c2, e]
theorem it_dg {P m : Nat} {t : Nat → Nat} (h7 : P ≤ 7) (ht : ∀ m p, p < P → t (m * 7 + p) < P) : ∀ s x, o3 P x → ∀ p, p < 3 → dg (it (fun x => t3 (fun q => t (m * 7 + q)) x 3) s x) p = bh t m s (dg x p)
  | 0, _, _, _, _ => rfl
  | s + 1, x, h, p, hp => by
    show dg (it (fun x => t3 (fun q => t (m * 7 + q)) x 3) s (t3 (fun q => t (m * 7 + q)) x 3)) p = _
    rw [it_dg h7 ht s _ (o3_t3 h7 ht h).2 p hp, dg_t3 (fun p hp => by have := ht m _ (h p hp); show t (m * 7 + dg x p) < 8; omega) hp, bh_add t m s 1]
    rfl
theorem kp_it {P m s x : Nat} {t : Nat → Nat} (h7 : P ≤ 7) (ht : ∀ m p, p < P → t (m * 7 + p) < P) (h : o3 P x) : kp (it (fun x => t3 (fun q => t (m * 7 + q)) x 3) s x) = st7 t (kp x) m s := by
  obtain ⟨a, b, c⟩ := kp_dg h7 h
  unfold st7
  rw [a, b, c]
  unfold kp
  rw [it_dg h7 ht s x h 0 (by decide), it_dg h7 ht s x h 1 (by decide), it_dg h7 ht s x h 2 (by decide)]
theorem TV.th {P Mv : Nat} {t od : Nat → Nat} (T : TV P Mv t od) : TH P (fun m x => t3 (fun q => t (m * 7 + q)) x 3) od Mv := by
  refine ⟨fun m y h => o3_t3 T.p7 T.ht h, fun m x hm hx h => ?_⟩
  have hY := it_ok (P := P) (f := fun x => t3 (fun q => t (m * 7 + q)) x 3) (fun y h => o3_t3 T.p7 T.ht h) (od m) x hx h
  have m6 := T.m6
  have hr := (T.ho m (by omega)).2.2.1
  show it (fun x => t3 (fun q => t (m * 7 + q)) x 3) (od m) x = x
  rw [x_dg hY.1, it_dg T.p7 T.ht _ x h 0 (by decide), it_dg T.p7 T.ht _ x h 1 (by decide), it_dg T.p7 T.ht _ x h 2 (by decide), hr _ (h 0 (by decide)), hr _ (h 1 (by decide)), hr _ (h 2 (by decide))]
  exact (x_dg hx).symm
theorem wk_wc {P Mv e : Nat} {t od : Nat → Nat} (T : TV P Mv t od) (he : e < 512) (h3 : o3 P e) : ∀ r x, x < 512 → o3 P x → (wk (fun m x => t3 (fun q => t (m * 7 + q)) x 3) od Mv e r x ↔ wc7 t od Mv (kp e) r (kp x))
  | 0, x, hx, h => ⟨fun q => congrArg kp q, fun q => kp_inj T.p7 hx he h h3 q⟩
  | r + 1, x, hx, h => by
    constructor
    · intro hw
      obtain ⟨m, s, h1, h2, h4, h5⟩ := hw
      have hY := it_ok (P := P) (f := fun x => t3 (fun q => t (m * 7 + q)) x 3) (fun y h => o3_t3 T.p7 T.ht h) s x hx h
      exact ⟨m, s, h1, h2, h4, by rw [← kp_it T.p7 T.ht h]; exact (wk_wc T he h3 r _ hY.1 hY.2).mp h5⟩
    · intro hw
      obtain ⟨m, s, h1, h2, h4, h5⟩ := hw
      have hY := it_ok (P := P) (f := fun x => t3 (fun q => t (m * 7 + q)) x 3) (fun y h => o3_t3 T.p7 T.ht h) s x hx h
      exact ⟨m, s, h1, h2, h4, (wk_wc T he h3 r _ hY.1 hY.2).mpr (by rw [show kp (it (fun x => t3 (fun q => t (m * 7 + q)) x 3) s x) = st7 t (kp x) m s from kp_it T.p7 T.ht h]; exact h5)⟩
theorem ds_wc {P Mv e r x : Nat} {t od : Nat → Nat} (T : TV P Mv t od) (he : e < 512) (h3 : o3 P e) (hx : x < 512) (h : o3 P x) : ds (wk (fun m x => t3 (fun q => t (m * 7 + q)) x 3) od Mv e) r x ↔ ds (wc7 t od Mv (kp e)) r (kp x) :=
  ⟨fun q => ⟨(wk_wc T he h3 r x hx h).mp q.1, fun s hs hw => q.2 s hs ((wk_wc T he h3 s x hx h).mpr hw)⟩, fun q => ⟨(wk_wc T he h3 r x hx h).mpr q.1, fun s hs hw => q.2 s hs ((wk_wc T he h3 s x hx h).mp hw)⟩⟩
/-- the reference's distances after r rounds -/
def FR (P : Nat) (W : Nat → Nat → Prop) (r : Nat) (fa : Nat → Nat) : Prop := ∀ k, ok7 P k → (fa k = 99 ∨ fa k ≤ r) ∧ ∀ s, s ≤ r → (fa k = s ↔ ds W s k)
/-- a round more -/
theorem FR_s {P Mv g r : Nat} {t od fa fb : Nat → Nat} (T : TV P Mv t od) (hr : r < 50) (h : FR P (wc7 t od Mv g) r fa) (h1 : ∀ k, ok7 P k → (fa k = 99 ∧ ∃ m s, m < Mv ∧ 1 ≤ s ∧ s < od m ∧ fa (st7 t k m s) = r) → fb k = r + 1) (h2 : ∀ k, ok7 P k → ¬ (fa k = 99 ∧ ∃ m s, m < Mv ∧ 1 ≤ s ∧ s < od m ∧ fa (st7 t k m s) = r) → fb k = fa k) : FR P (wc7 t od Mv g) (r + 1) fb := by
  intro k hk
  obtain ⟨a1, a2⟩ := h k hk
  by_cases c : fa k = 99 ∧ ∃ m s, m < Mv ∧ 1 ≤ s ∧ s < od m ∧ fa (st7 t k m s) = r
  · rw [h1 k hk c]
    obtain ⟨c1, m, s, b1, b2, b3, b4⟩ := c
    have hno : ∀ q, q ≤ r → ¬ wc7 t od Mv g q k := by
      intro q hq hw
      obtain ⟨u, hu, hd⟩ := ds_ex hw
      have := (a2 u (by omega)).mpr hd
      omega
    have hd : ds (wc7 t od Mv g) (r + 1) k := by
      refine ⟨⟨m, s, b1, b2, b3, ?_⟩, fun q hq => hno q (by omega)⟩
      exact (((h _ (st7_ok T.p7 (T.ht m) hk)).2 r (Nat.le_refl _)).mp b4).1
    refine ⟨Or.inr (Nat.le_refl _), fun q hq => ⟨fun e => by rw [← e]; exact hd, fun e => ds_u hd e⟩⟩
  · rw [h2 k hk c]
    refine ⟨by omega, fun q hq => ?_⟩
    by_cases cq : q ≤ r
    · exact a2 q cq
    · obtain rfl : q = r + 1 := by omega
      refine ⟨fun e => by omega, fun e => ?_⟩
      exfalso
      obtain ⟨⟨m, s, b1, b2, b3, b4⟩, hmin⟩ := e
      have h99 : fa k = 99 := by
        rcases a1 with q1 | q1
        · exact q1
        · exact absurd ((a2 _ q1).mp rfl).1 (hmin _ (by omega))
      refine c ⟨h99, m, s, b1, b2, b3, ((h _ (st7_ok T.p7 (T.ht m) hk)).2 r (Nat.le_refl _)).mpr ⟨b4, fun q2 hq2 hw => ?_⟩⟩
      exact hmin (q2 + 1) (by omega) ⟨m, s, b1, b2, b3, hw⟩
theorem FR_0 {P g : Nat} {W : Nat → Nat → Prop} {fa : Nat → Nat} (h0 : ∀ k, W 0 k ↔ k = g) (h1 : fa g = 0) (h2 : ∀ k, k < 343 → k ≠ g → fa k = 99) (h7 : P ≤ 7) : FR P W 0 fa := by
  intro k hk
  have hk3 := ok7_lt h7 hk
  by_cases c : k = g
  · rw [c, h1]
    refine ⟨Or.inr (Nat.le_refl _), fun s hs => ?_⟩
    obtain rfl : s = 0 := by omega
    exact ⟨fun _ => ⟨(h0 g).mpr rfl, fun q hq => absurd hq (by omega)⟩, fun _ => rfl⟩
  · rw [h2 k hk3 c]
    refine ⟨Or.inl rfl, fun s hs => ?_⟩
    obtain rfl : s = 0 := by omega
    exact ⟨fun e => absurd e (by decide), fun e => absurd ((h0 k).mp e.1) c⟩
