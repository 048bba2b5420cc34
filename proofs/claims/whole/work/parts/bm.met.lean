/-! CLASS AND REFERENCE SIDE BY SIDE: states and fails (wip/whole/gen/mkbm.py) -/
theorem inS_BF {ok : Nat → Prop} {F Mv i : Nat} {rf : Nat → Nat} {tf : Nat → Nat → Nat} (hr : ∀ x, ok x → rf x < F) (ht : ∀ x m, ok x → m < Mv → ok (tf m x)) : ∀ (j m : Nat) (b : Nat × (Nat → Nat) × (Nat → Nat)), m + j ≤ Mv → BF ok F b → i < b.1 → BF ok F (inS rf tf i j m b) ∧ i < (inS rf tf i j m b).1
  | 0, _, _, _, h, hi => ⟨h, hi⟩
  | j + 1, m, b, hm, h, hi => by
    have h1 := ht _ m (h.2.1 i hi) (by omega)
    have h2 : b.1 ≤ (adS rf (tf m (b.2.1 i)) b).1 := ad_ge
    exact inS_BF hr ht j (m + 1) _ (by omega) (BF_ad h h1 (hr _ h1)) (by omega)
theorem bfS_BF {ok : Nat → Prop} {F Mv : Nat} {rf : Nat → Nat} {tf : Nat → Nat → Nat} (hr : ∀ x, ok x → rf x < F) (ht : ∀ x m, ok x → m < Mv → ok (tf m x)) : ∀ (j i : Nat) (b : Nat × (Nat → Nat) × (Nat → Nat)), BF ok F b → BF ok F (bfS rf tf Mv j i b) ∧ b.1 ≤ (bfS rf tf Mv j i b).1
  | 0, _, _, h => ⟨h, Nat.le_refl _⟩
  | j + 1, i, b, h => by
    by_cases c : i < b.1
    · rw [show bfS rf tf Mv (j + 1) i b = bfS rf tf Mv j (i + 1) (inS rf tf i Mv 0 b) from if_pos c]
      obtain ⟨h1, h2⟩ := inS_BF hr ht Mv 0 b (by omega) h c
      obtain ⟨h3, h4⟩ := bfS_BF hr ht j (i + 1) _ h1
      have h5 : ∀ (k m : Nat) (b : Nat × (Nat → Nat) × (Nat → Nat)), b.1 ≤ (inS rf tf i k m b).1 := by
        intro k
        induction k with
        | zero => exact fun _ _ => Nat.le_refl _
        | succ k ih => exact fun m b => Nat.le_trans ad_ge (ih (m + 1) _)
      exact ⟨h3, Nat.le_trans (h5 Mv 0 b) h4⟩
    · rw [show bfS rf tf Mv (j + 1) i b = b from if_neg c]
      exact ⟨h, Nat.le_refl _⟩
/-- the same states found, whatever lies behind them -/
def BQ (b c : Nat × (Nat → Nat) × (Nat → Nat)) : Prop := b.1 = c.1 ∧ b.2.2 = c.2.2 ∧ ∀ i, i < b.1 → b.2.1 i = c.2.1 i
theorem BQ_ad {rf : Nat → Nat} {x : Nat} {b c : Nat × (Nat → Nat) × (Nat → Nat)} (h : BQ b c) : BQ (adS rf x b) (adS rf x c) := by
  unfold adS
  rw [h.2.1]
  split
  · refine ⟨by show b.1 + 1 = c.1 + 1; rw [h.1], rfl, fun i hi => ?_⟩
    replace hi : i < b.1 + 1 := hi
    show un b.2.1 b.1 x i = un c.2.1 c.1 x i
    by_cases e : i = b.1
    · rw [e, un_at, h.1, un_at]
    · rw [un_ne e, un_ne (by rw [← h.1]; exact e)]; exact h.2.2 i (by omega)
  · exact h
theorem BQ_in {rf : Nat → Nat} {tf : Nat → Nat → Nat} {i : Nat} : ∀ (j m : Nat) (b c : Nat × (Nat → Nat) × (Nat → Nat)), i < b.1 → BQ b c → BQ (inS rf tf i j m b) (inS rf tf i j m c)
  | 0, _, _, _, _, h => h
  | j + 1, m, b, c, hi, h => by
    show BQ (inS rf tf i j (m + 1) (adS rf (tf m (b.2.1 i)) b)) (inS rf tf i j (m + 1) (adS rf (tf m (c.2.1 i)) c))
    rw [h.2.2 i hi]
    exact BQ_in j (m + 1) _ _ (Nat.lt_of_lt_of_le hi ad_ge) (BQ_ad h)
theorem BQ_bf {rf : Nat → Nat} {tf : Nat → Nat → Nat} {Mv : Nat} : ∀ (j i : Nat) (b c : Nat × (Nat → Nat) × (Nat → Nat)), BQ b c → BQ (bfS rf tf Mv j i b) (bfS rf tf Mv j i c)
  | 0, _, _, _, h => h
  | j + 1, i, b, c, h => by
    by_cases q : i < b.1
    · rw [show bfS rf tf Mv (j + 1) i b = bfS rf tf Mv j (i + 1) (inS rf tf i Mv 0 b) from if_pos q, show bfS rf tf Mv (j + 1) i c = bfS rf tf Mv j (i + 1) (inS rf tf i Mv 0 c) from if_pos (by rw [← h.1]; exact q)]
      exact BQ_bf j (i + 1) _ _ (BQ_in Mv 0 b c q h)
    · rw [show bfS rf tf Mv (j + 1) i b = b from if_neg q, show bfS rf tf Mv (j + 1) i c = c from if_neg (by rw [← h.1]; exact q)]
      exact h
theorem rk_hm {P : Nat} (h7 : P ≤ 7) : (rk P (hm8 P) P).1 = 0 := by
  rw [rk_rm (pm_hm h7) P (Nat.le_refl _)]
  have h0 : ∀ p, p < P → sm (lw (dg (hm8 P)) p) P = 0 := by
    intro p hp
    have h1 : ∀ n, n ≤ P → sm (lw (dg (hm8 P)) p) n = 0 := by
      intro n
      induction n with
      | zero => exact fun _ => rfl
      | succ n ih =>
        intro hn
        show sm _ n + lw _ p n = 0
        rw [ih (by omega)]
        unfold lw
        rw [hm8_dg P (by omega), hm8_dg P (by omega), if_pos hp, if_pos (show n < P by omega), if_neg (by omega)]
    exact h1 P (Nat.le_refl _)
  have h2 : ∀ p, p ≤ P → rm P (dg (hm8 P)) p = 0 := by
    intro p
    induction p with
    | zero => exact fun _ => rfl
    | succ p ih =>
      intro hp
      show rm P _ p * (P - p) + sm _ P = 0
      rw [ih (by omega), h0 p (by omega), Nat.zero_mul]
  exact h2 P (Nat.le_refl _)
theorem b0_BF {P : Nat} (h7 : P ≤ 7) {f : Nat → Nat} : BF (pm P) (fac P) (1, un f 0 (hm8 P), un (fun _ => 0) (rk P (hm8 P) P).1 1) := by
  have hf := rk_fac h7 (pm_hm h7)
  refine ⟨?_, fun i hi => ?_, fun r => ?_⟩
  · have h1 := zs_un (f := fun _ => 0) (r := (rk P (hm8 P) P).1) rfl hf
    rw [zs_0] at h1
    show 1 + zs (un (fun _ => 0) (rk P (hm8 P) P).1 1) (fac P) = fac P
    omega
  · replace hi : i < 1 := hi
    obtain rfl : i = 0 := by omega
    show pm P (un f 0 (hm8 P) 0)
    rw [un_at]; exact pm_hm h7
  · show un (fun _ => 0) _ 1 r < 2
    by_cases c : r = (rk P (hm8 P) P).1
    · rw [c, un_at]; decide
    · rw [un_ne c]; decide
theorem bf0_BF {P Mv : Nat} {t od : Nat → Nat} (T : TV P Mv t od) : BF (pm P) (fac P) (bf0 P Mv t) ∧ 1 ≤ (bf0 P Mv t).1 :=
  bfS_BF (ok := pm P) (fun x hx => rk_fac T.p7 hx) (fun x m hx hm => pm_tr (mv_pf T m (by have := T.m6; omega)) hx) _ _ _ (b0_BF T.p7)
theorem l_spOut {X : Nat × (Nat → Int32)} {d : Nat} {A : CA} {R : RA} {o : Nat → Int64} (H : RG A R) {k z : Nat} {Q : px_Z → Prop} : ∀ (j i : Nat) (b : Nat × (Nat → Nat) × (Nat → Nat)) (s2 ot2 is2 qu2 : Nat → Nat), i + j = fac A.P → BF (pm A.P) (fac A.P) b → QS A.P b qu2 is2 → ∀ v3 v4, (∀ s1 ot1 is1 qu1, QS A.P (bfS (fun x => (rk A.P x A.P).1) (fun m x => tr (fun q => A.t (m * 7 + q)) x A.P) A.Mv j i b) qu1 is1 → Q (some (some (.int (nI (bfS (fun x => (rk A.P x A.P).1) (fun m x => tr (fun q => A.t (m * 7 + q)) x A.P) A.Mv j i b).1))), WW A (RA.s_qu (RA.s_is (RA.s_ot (RA.s_s R s1) ot1) is1) qu1) o, k, z)) → wp X (d + 1) 139 (40, [.ref 26, .int (nI b.1), .int (nI i), v3, v4], [], WW A (RA.s_qu (RA.s_is (RA.s_ot (RA.s_s R s2) ot2) is2) qu2) o, k, z) Q
  | 0, i, b, s2, ot2, is2, qu2, hj, hB, hQ => by
    intro v3 v4 kk
    have hfa := fac_le H.T.p7
    have hb5 : b.1 ≤ fac A.P := by have := hB.1; omega
    refine wz_iload_n (p9 := 41) rfl rfl rfl ?_
    refine wz_iload_n (p9 := 42) rfl rfl rfl ?_
    refine wn_icge (t9 := 189) (p9 := 45) rfl rfl rfl (by omega) (by omega) (fun _ => ?_) (fun h9 => by omega)
    refine wz_iload_n (p9 := 190) rfl rfl rfl ?_
    exact wz_reti rfl rfl (kk s2 ot2 is2 qu2 hQ)
  | j + 1, i, b, s2, ot2, is2, qu2, hj, hB, hQ => by
    intro v3 v4 kk
    have hfa := fac_le H.T.p7
    have hb5 : b.1 ≤ fac A.P := by have := hB.1; omega
    have m6 := H.T.m6
    by_cases c : i < b.1
    · rw [show bfS (fun x => (rk A.P x A.P).1) (fun m x => tr (fun q => A.t (m * 7 + q)) x A.P) A.Mv (j + 1) i b = bfS (fun x => (rk A.P x A.P).1) (fun m x => tr (fun q => A.t (m * 7 + q)) x A.P) A.Mv j (i + 1) (inS (fun x => (rk A.P x A.P).1) (fun m x => tr (fun q => A.t (m * 7 + q)) x A.P) i A.Mv 0 b) from if_pos c] at kk
      obtain ⟨h1, h2⟩ := inS_BF (rf := (fun x => (rk A.P x A.P).1)) (tf := (fun m x => tr (fun q => A.t (m * 7 + q)) x A.P)) (Mv := A.Mv) (fun x hx => rk_fac H.T.p7 hx) (fun x m hx hm => pm_tr (mv_pf H.T m (by omega)) hx) A.Mv 0 b (by omega) hB c
      refine wz_iload_n (p9 := 41) rfl rfl rfl ?_
      refine wz_iload_n (p9 := 42) rfl rfl rfl ?_
      refine wn_icge (t9 := 189) (p9 := 45) rfl rfl rfl (by omega) (by omega) (fun h9 => by omega) (fun _ => ?_)
      refine wz_iconst (x := nI 0) (p9 := 46) rfl rfl (by decide) ?_
      refine wz_istore_n (l9 := [.ref 26, .int (nI b.1), .int (nI i), .int (nI 0), v4]) (p9 := 47) rfl rfl rfl rfl ?_
      refine l_spIn H R.Mv 0 b _ _ _ _ (by omega) hB c hQ _ (fun s1 ot1 is1 qu1 u4 hQ2 => ?_)
      rw [H.m] at hQ2
      rw [show inS (fun x => (rk A.P x A.P).1) (fun m x => tr (fun q => A.t (m * 7 + q)) x A.P) i R.Mv 0 b = (inS (fun x => (rk A.P x A.P).1) (fun m x => tr (fun q => A.t (m * 7 + q)) x A.P) i A.Mv 0 b) by rw [H.m]]
      refine wn_inc (b := 1) (l9 := [.ref 26, .int (nI ((inS (fun x => (rk A.P x A.P).1) (fun m x => tr (fun q => A.t (m * 7 + q)) x A.P) i A.Mv 0 b).1)), .int (nI (i + 1)), .int (nI R.Mv), u4]) (p9 := 186) rfl rfl rfl (by decide) rfl ?_
      refine wz_goto (p9 := 40) rfl rfl ?_
      exact l_spOut H j (i + 1) (inS (fun x => (rk A.P x A.P).1) (fun m x => tr (fun q => A.t (m * 7 + q)) x A.P) i A.Mv 0 b) _ _ _ _ (by omega) h1 hQ2 _ _ kk
    · skip
      refine wz_iload_n (p9 := 41) rfl rfl rfl ?_
      refine wz_iload_n (p9 := 42) rfl rfl rfl ?_
      refine wn_icge (t9 := 189) (p9 := 45) rfl rfl rfl (by omega) (by omega) (fun _ => ?_) (fun h9 => by omega)
      refine wz_iload_n (p9 := 190) rfl rfl rfl ?_
      rw [show bfS (fun x => (rk A.P x A.P).1) (fun m x => tr (fun q => A.t (m * 7 + q)) x A.P) A.Mv (j + 1) i b = b from if_neg c] at kk
      exact wz_reti rfl rfl (kk s2 ot2 is2 qu2 hQ)
theorem l_sp0 {X : Nat × (Nat → Int32)} {d : Nat} {A : CA} {R : RA} {o : Nat → Int64} {k z : Nat} {Q : px_Z → Prop} (kk : wp X d 139 (22, [.ref 26, .int (nI 5040), .retAddr 0, .retAddr 0, .retAddr 0], [], WW A (RA.s_is R (fil 0 R.is 5040)) o, k, z) Q) : ∀ (j i : Nat), i + j = 5040 → wp X d 139 (2, [.ref 26, .int (nI i), .retAddr 0, .retAddr 0, .retAddr 0], [], WW A (RA.s_is R (fil 0 R.is i)) o, k, z) Q
  | 0, i, hj => by
    obtain rfl : i = 5040 := by omega
    refine wz_iload_n (p9 := 3) rfl rfl rfl ?_
    refine wz_sipush (x := nI 5040) (p9 := 6) rfl rfl (by decide) ?_
    refine wn_icge (t9 := 22) (p9 := 9) rfl rfl rfl (by omega) (by omega) (fun _ => ?_) (fun h9 => by omega)
    exact kk
  | j + 1, i, hj => by
    refine wz_iload_n (p9 := 3) rfl rfl rfl ?_
    refine wz_sipush (x := nI 5040) (p9 := 6) rfl rfl (by decide) ?_
    refine wn_icge (t9 := 22) (p9 := 9) rfl rfl rfl (by omega) (by omega) (fun h9 => by omega) (fun _ => ?_)
    refine wz_aload_n (p9 := 10) rfl rfl rfl ?_
    refine wz_get (v := .ref 42) (p9 := 13) rfl rfl rfl rfl rfl ?_
    refine wz_iload_n (p9 := 14) rfl rfl rfl ?_
    refine wz_iconst (x := nI 0) (p9 := 15) rfl rfl (by decide) ?_
    refine ws_Ris (f := fil 0 R.is i) (p9 := 16) rfl rfl rfl (by omega) (by decide) (R1 := (RA.s_is R (un (fil 0 R.is i) i 0))) rfl ?_
    refine wn_inc (b := 1) (l9 := [.ref 26, .int (nI (i + 1)), .retAddr 0, .retAddr 0, .retAddr 0]) (p9 := 19) rfl rfl rfl (by decide) rfl ?_
    refine wz_goto (p9 := 2) rfl rfl ?_
    rw [fil_s]
    exact l_sp0 kk j (i + 1) (by omega)
theorem g_spread {X : Nat × (Nat → Int32)} {d : Nat} {A : CA} {R : RA} {o : Nat → Int64} (H : RG A R) : ∃ s1 ot1 is1 qu1, QS A.P (bf0 A.P A.Mv A.t) qu1 is1 ∧ px_ev X (d + 2) 139 [.ref 26] (WW A R o) (some (some (.int (nI (bf0 A.P A.Mv A.t).1))), WW A (RA.s_qu (RA.s_is (RA.s_ot (RA.s_s R s1) ot1) is1) qu1) o, 0, 0) := by
  have p7 := H.T.p7
  have hfa := fac_le p7
  have h0 : wp X (d + 1) 139 (0, [.ref 26, .retAddr 0, .retAddr 0, .retAddr 0, .retAddr 0], [], WW A R o, 0, 0) (fun q => ∃ s1 ot1 is1 qu1, QS A.P (bf0 A.P A.Mv A.t) qu1 is1 ∧ q = (some (some (.int (nI (bf0 A.P A.Mv A.t).1))), WW A (RA.s_qu (RA.s_is (RA.s_ot (RA.s_s R s1) ot1) is1) qu1) o, 0, 0)) := by
    refine wz_iconst (x := nI 0) (p9 := 1) rfl rfl (by decide) ?_
    refine wz_istore_n (l9 := [.ref 26, .int (nI 0), .retAddr 0, .retAddr 0, .retAddr 0]) (p9 := 2) rfl rfl rfl rfl ?_
    have h9 := l_sp0 (X := X) (d := d + 1) (A := A) (R := R) (o := o) (k := 0) (z := 0) (Q := (fun q => ∃ s1 ot1 is1 qu1, QS A.P (bf0 A.P A.Mv A.t) qu1 is1 ∧ q = (some (some (.int (nI (bf0 A.P A.Mv A.t).1))), WW A (RA.s_qu (RA.s_is (RA.s_ot (RA.s_s R s1) ot1) is1) qu1) o, 0, 0))) ?_ 5040 0 rfl
    · rw [fil_0] at h9
      exact h9
    · skip
      refine wz_aload_n (p9 := 23) rfl rfl rfl ?_
      refine wz_get (v := .ref 43) (p9 := 26) rfl rfl rfl rfl rfl ?_
      refine wz_iconst (x := nI 0) (p9 := 27) rfl rfl (by decide) ?_
      refine wz_iconst (x := nI 0) (p9 := 28) rfl rfl (by decide) ?_
      refine ws_Rqu (f := R.qu) (p9 := 29) rfl rfl rfl (by omega) (R1 := (RA.s_qu (RA.s_is R (fil 0 R.is 5040)) (un R.qu 0 0))) rfl ?_
      refine wz_aload_n (p9 := 30) rfl rfl rfl ?_
      refine wz_get (v := .ref 42) (p9 := 33) rfl rfl rfl rfl rfl ?_
      refine wz_iconst (x := nI 0) (p9 := 34) rfl rfl (by decide) ?_
      refine wz_iconst (x := nI 1) (p9 := 35) rfl rfl (by decide) ?_
      refine ws_Ris (f := fil 0 R.is 5040) (p9 := 36) rfl rfl rfl (by omega) (by decide) (R1 := (RA.s_qu (RA.s_is R (un (fil 0 R.is 5040) 0 1)) (un R.qu 0 0))) rfl ?_
      refine wz_iconst (x := nI 1) (p9 := 37) rfl rfl (by decide) ?_
      refine wz_istore_n (l9 := [.ref 26, .int (nI 1), .retAddr 0, .retAddr 0, .retAddr 0]) (p9 := 38) rfl rfl rfl rfl ?_
      refine wz_iconst (x := nI 0) (p9 := 39) rfl rfl (by decide) ?_
      refine wz_istore_n (l9 := [.ref 26, .int (nI 1), .int (nI 0), .retAddr 0, .retAddr 0]) (p9 := 40) rfl rfl rfl rfl ?_
      refine l_spOut H (fac A.P) 0 (1, un (fun _ => 0) 0 (hm8 A.P), un (fun _ => 0) (rk A.P (hm8 A.P) A.P).1 1) R.s R.ot _ _ (by omega) (b0_BF p7) ⟨fun q hq => ?_, fun q hq => ?_⟩ _ _ (fun s1 ot1 is1 qu1 h1 => ⟨s1, ot1, is1, qu1, h1, rfl⟩)
      · replace hq : q < 1 := hq
        obtain rfl : q = 0 := by omega
        show un R.qu 0 0 0 = (rk A.P (un (fun _ => 0) 0 (hm8 A.P) 0) A.P).1
        rw [un_at, un_at, rk_hm p7]
      · show un (fil 0 R.is 5040) 0 1 q = un (fun _ => 0) (rk A.P (hm8 A.P) A.P).1 1 q
        rw [rk_hm p7]
        by_cases c : q = 0
        · rw [c, un_at, un_at]
        · rw [un_ne c, un_ne c]; unfold fil; rw [if_pos hq]
  obtain ⟨r9, hr, s1, ot1, is1, qu1, h1, rfl⟩ := h0
  exact ⟨s1, ot1, is1, qu1, h1, wp_ev (d := d + 1) (by decide) rfl rfl (fun h => by cases h) ⟨_, hr, rfl⟩⟩
theorem or_bit {u v p : Nat} : (u ||| v) / 2 ^ p % 2 = 1 ↔ u / 2 ^ p % 2 = 1 ∨ v / 2 ^ p % 2 = 1 := by
  rw [q_tb, q_tb, q_tb, Nat.testBit_or]
  cases u.testBit p <;> cases v.testBit p <;> decide
theorem mt_or {x u v : Nat} : mt x (u ||| v) ↔ mt x u ∧ mt x v := by
  constructor
  · intro h
    exact ⟨fun p hp hb => h p hp (or_bit.mpr (Or.inl hb)), fun p hp hb => h p hp (or_bit.mpr (Or.inr hb))⟩
  · intro h p hp hb
    rcases or_bit.mp hb with q | q
    · exact h.1 p hp q
    · exact h.2 p hp q
theorem mt_gb {x : Nat} {sg : Nat → Nat} : ∀ s, mt x (gb sg s) ↔ ∀ k, k < s → mt x (sg k)
  | 0 => by
    refine ⟨fun _ k hk => absurd hk (by omega), fun _ p hp hb => ?_⟩
    replace hb : 0 / 2 ^ p % 2 = 1 := hb
    rw [Nat.zero_div] at hb
    exact absurd hb (by decide)
  | s + 1 => by
    show mt x (gb sg s ||| sg s) ↔ _
    rw [mt_or, mt_gb s]
    refine ⟨fun h k hk => ?_, fun h => ⟨fun k hk => h k (by omega), h s (by omega)⟩⟩
    by_cases c : k = s
    · rw [c]; exact h.2
    · exact h.1 k (by omega)
theorem gb_lt {sg : Nat → Nat} (h : ∀ q, sg q < 128) : ∀ s, gb sg s < 128
  | 0 => by show 0 < 128; decide
  | s + 1 => Nat.or_lt_two_pow (n := 7) (gb_lt h s) (h s)
theorem l_met1 {X : Nat × (Nat → Int32)} {d : Nat} {A : CA} {R : RA} {o : Nat → Int64} (H : RG A R) {s x : Nat} (hs : s ≤ 8) (hx : SD R.P R.s x) (hq : ∀ k, k < s → mt x (A.sg k)) {k0 z0 : Nat} {Q : px_Z → Prop} (kk : Q (some (some (.int (nI 1))), WW A R o, k0, z0)) : ∀ (j k : Nat), k + j = s → wp X (d + 1) 142 (2, [.ref 26, .int (nI s), .int (nI k)], [], WW A R o, k0, z0) Q
  | 0, k, hj => by
    obtain rfl : s = k := by omega
    refine wz_iload_n (p9 := 3) rfl rfl rfl ?_
    refine wz_iload_n (p9 := 4) rfl rfl rfl ?_
    refine wn_icge (t9 := 39) (p9 := 7) rfl rfl rfl (by omega) (by omega) (fun _ => ?_) (fun h9 => by omega)
    refine wz_iconst (x := nI 1) (p9 := 40) rfl rfl (by decide) ?_
    exact wz_retz rfl rfl (by decide) kk
  | j + 1, k, hj => by
    have hg9 := H.S.sg k
    have e5 : R.go k = A.sg k := by rw [H.go]
    have hP7 : R.P ≤ 7 := by rw [H.p]; exact H.T.p7
    have hc9 := hc_gc (x := x) (g := R.go k) (P := R.P)
    have hg8 := gc_le (g := R.go k) R.P
    have hmt : mt x (A.sg k) ↔ ¬ hc x (R.go k) R.P < gc (R.go k) R.P := by rw [e5, H.p]; exact mt_gc (H.sP k) H.T.p7
    have hmk := hmt.mp (hq k (by omega))
    refine wz_iload_n (p9 := 3) rfl rfl rfl ?_
    refine wz_iload_n (p9 := 4) rfl rfl rfl ?_
    refine wn_icge (t9 := 39) (p9 := 7) rfl rfl rfl (by omega) (by omega) (fun h9 => by omega) (fun _ => ?_)
    refine wz_aload_n (p9 := 8) rfl rfl rfl ?_
    refine wz_aload_n (p9 := 9) rfl rfl rfl ?_
    refine wz_get (v := .ref 36) (p9 := 12) rfl rfl rfl rfl rfl ?_
    refine wz_iload_n (p9 := 13) rfl rfl rfl ?_
    refine wl_Rgo (f := R.go) (p9 := 14) rfl rfl rfl (by omega) ?_
    refine wz_iconst (x := (-1)) (p9 := 15) rfl rfl (by decide) ?_
    refine wz_c1 (p9 := 18) (w1 := WW A R o) (u := .int (nI (hc x (R.go k) R.P))) (wa_v (N := 135) (i := 26) (As := [.int (nI (R.go k)), .int (-1)]) (rest := []) rfl rfl rfl rfl rfl rfl rfl) rfl ((g_mHomeN (d := 0) hP7 (g := R.go k) (by omega) hx).up (by omega)) ?_
    refine wz_aload_n (p9 := 19) rfl rfl rfl ?_
    refine wz_aload_n (p9 := 20) rfl rfl rfl ?_
    refine wz_get (v := .ref 36) (p9 := 23) rfl rfl rfl rfl rfl ?_
    refine wz_iload_n (p9 := 24) rfl rfl rfl ?_
    refine wl_Rgo (f := R.go) (p9 := 25) rfl rfl rfl (by omega) ?_
    refine wz_c1 (p9 := 28) (w1 := WW A R o) (u := .int (nI (gc (R.go k) R.P))) (wa_v (N := 134) (i := 26) (As := [.int (nI (R.go k))]) (rest := [.int (nI (hc x (R.go k) R.P))]) rfl rfl rfl rfl rfl rfl rfl) rfl ((g_mCount (d := 0) hP7 (g := R.go k) (by omega)).up (by omega)) ?_
    refine wn_iceq (t9 := 33) (p9 := 31) rfl rfl rfl (by omega) (by omega) (fun _ => ?_) (fun h9 => by omega)
    refine wn_inc (b := 1) (l9 := [.ref 26, .int (nI s), .int (nI (k + 1))]) (p9 := 36) rfl rfl rfl (by decide) rfl ?_
    refine wz_goto (p9 := 2) rfl rfl ?_
    exact l_met1 H hs hx hq kk j (k + 1) (by omega)
theorem l_met0 {X : Nat × (Nat → Int32)} {d : Nat} {A : CA} {R : RA} {o : Nat → Int64} (H : RG A R) {s x : Nat} (hs : s ≤ 8) (hx : SD R.P R.s x) (hq : ¬ ∀ k, k < s → mt x (A.sg k)) {k0 z0 : Nat} {Q : px_Z → Prop} (kk : Q (some (some (.int (nI 0))), WW A R o, k0, z0)) : ∀ (j k : Nat), k + j = s → (∀ q, q < k → mt x (A.sg q)) → wp X (d + 1) 142 (2, [.ref 26, .int (nI s), .int (nI k)], [], WW A R o, k0, z0) Q
  | 0, k, hj, hall => (hq (fun q hq => hall q (by omega))).elim
  | j + 1, k, hj, hall => by
    have hg9 := H.S.sg k
    have e5 : R.go k = A.sg k := by rw [H.go]
    have hP7 : R.P ≤ 7 := by rw [H.p]; exact H.T.p7
    have hc9 := hc_gc (x := x) (g := R.go k) (P := R.P)
    have hg8 := gc_le (g := R.go k) R.P
    have hmt : mt x (A.sg k) ↔ ¬ hc x (R.go k) R.P < gc (R.go k) R.P := by rw [e5, H.p]; exact mt_gc (H.sP k) H.T.p7
    by_cases hm : mt x (A.sg k)
    · have hmk := hmt.mp hm
      refine wz_iload_n (p9 := 3) rfl rfl rfl ?_
      refine wz_iload_n (p9 := 4) rfl rfl rfl ?_
      refine wn_icge (t9 := 39) (p9 := 7) rfl rfl rfl (by omega) (by omega) (fun h9 => by omega) (fun _ => ?_)
      refine wz_aload_n (p9 := 8) rfl rfl rfl ?_
      refine wz_aload_n (p9 := 9) rfl rfl rfl ?_
      refine wz_get (v := .ref 36) (p9 := 12) rfl rfl rfl rfl rfl ?_
      refine wz_iload_n (p9 := 13) rfl rfl rfl ?_
      refine wl_Rgo (f := R.go) (p9 := 14) rfl rfl rfl (by omega) ?_
      refine wz_iconst (x := (-1)) (p9 := 15) rfl rfl (by decide) ?_
      refine wz_c1 (p9 := 18) (w1 := WW A R o) (u := .int (nI (hc x (R.go k) R.P))) (wa_v (N := 135) (i := 26) (As := [.int (nI (R.go k)), .int (-1)]) (rest := []) rfl rfl rfl rfl rfl rfl rfl) rfl ((g_mHomeN (d := 0) hP7 (g := R.go k) (by omega) hx).up (by omega)) ?_
      refine wz_aload_n (p9 := 19) rfl rfl rfl ?_
      refine wz_aload_n (p9 := 20) rfl rfl rfl ?_
      refine wz_get (v := .ref 36) (p9 := 23) rfl rfl rfl rfl rfl ?_
      refine wz_iload_n (p9 := 24) rfl rfl rfl ?_
      refine wl_Rgo (f := R.go) (p9 := 25) rfl rfl rfl (by omega) ?_
      refine wz_c1 (p9 := 28) (w1 := WW A R o) (u := .int (nI (gc (R.go k) R.P))) (wa_v (N := 134) (i := 26) (As := [.int (nI (R.go k))]) (rest := [.int (nI (hc x (R.go k) R.P))]) rfl rfl rfl rfl rfl rfl rfl) rfl ((g_mCount (d := 0) hP7 (g := R.go k) (by omega)).up (by omega)) ?_
      refine wn_iceq (t9 := 33) (p9 := 31) rfl rfl rfl (by omega) (by omega) (fun _ => ?_) (fun h9 => by omega)
      refine wn_inc (b := 1) (l9 := [.ref 26, .int (nI s), .int (nI (k + 1))]) (p9 := 36) rfl rfl rfl (by decide) rfl ?_
      refine wz_goto (p9 := 2) rfl rfl ?_
      exact l_met0 H hs hx hq kk j (k + 1) (by omega) (fun q hq => by
        by_cases c : q = k
        · rw [c]; exact hm
        · exact hall q (by omega))
    · have hmk : hc x (R.go k) R.P < gc (R.go k) R.P := Classical.byContradiction (fun c => hm (hmt.mpr c))
      refine wz_iload_n (p9 := 3) rfl rfl rfl ?_
      refine wz_iload_n (p9 := 4) rfl rfl rfl ?_
      refine wn_icge (t9 := 39) (p9 := 7) rfl rfl rfl (by omega) (by omega) (fun h9 => by omega) (fun _ => ?_)
      refine wz_aload_n (p9 := 8) rfl rfl rfl ?_
      refine wz_aload_n (p9 := 9) rfl rfl rfl ?_
      refine wz_get (v := .ref 36) (p9 := 12) rfl rfl rfl rfl rfl ?_
      refine wz_iload_n (p9 := 13) rfl rfl rfl ?_
      refine wl_Rgo (f := R.go) (p9 := 14) rfl rfl rfl (by omega) ?_
      refine wz_iconst (x := (-1)) (p9 := 15) rfl rfl (by decide) ?_
      refine wz_c1 (p9 := 18) (w1 := WW A R o) (u := .int (nI (hc x (R.go k) R.P))) (wa_v (N := 135) (i := 26) (As := [.int (nI (R.go k)), .int (-1)]) (rest := []) rfl rfl rfl rfl rfl rfl rfl) rfl ((g_mHomeN (d := 0) hP7 (g := R.go k) (by omega) hx).up (by omega)) ?_
      refine wz_aload_n (p9 := 19) rfl rfl rfl ?_
      refine wz_aload_n (p9 := 20) rfl rfl rfl ?_
      refine wz_get (v := .ref 36) (p9 := 23) rfl rfl rfl rfl rfl ?_
      refine wz_iload_n (p9 := 24) rfl rfl rfl ?_
      refine wl_Rgo (f := R.go) (p9 := 25) rfl rfl rfl (by omega) ?_
      refine wz_c1 (p9 := 28) (w1 := WW A R o) (u := .int (nI (gc (R.go k) R.P))) (wa_v (N := 134) (i := 26) (As := [.int (nI (R.go k))]) (rest := [.int (nI (hc x (R.go k) R.P))]) rfl rfl rfl rfl rfl rfl rfl) rfl ((g_mCount (d := 0) hP7 (g := R.go k) (by omega)).up (by omega)) ?_
      refine wn_iceq (t9 := 33) (p9 := 31) rfl rfl rfl (by omega) (by omega) (fun h9 => by omega) (fun _ => ?_)
      refine wz_iconst (x := nI 0) (p9 := 32) rfl rfl (by decide) ?_
      exact wz_retz rfl rfl (by decide) kk
theorem g_mMet1 {X : Nat × (Nat → Int32)} {d : Nat} {A : CA} {R : RA} {o : Nat → Int64} (H : RG A R) {s x : Nat} (hs : s ≤ 8) (hx : SD R.P R.s x) (hq : mt x (gb A.sg s)) : px_ev X (d + 2) 142 [.ref 26, .int (nI s)] (WW A R o) (some (some (.int (nI 1))), WW A R o, 0, 0) := by
  refine wp_ev (d := d + 1) (by decide) rfl rfl (fun h => by cases h) ?_
  show wp X (d + 1) 142 (0, [.ref 26, .int (nI s), .retAddr 0], [], WW A R o, 0, 0) _
  refine wz_iconst (x := nI 0) (p9 := 1) rfl rfl (by decide) ?_
  refine wz_istore_n (l9 := [.ref 26, .int (nI s), .int (nI 0)]) (p9 := 2) rfl rfl rfl rfl ?_
  exact l_met1 H hs hx ((mt_gb s).mp hq) (by exact rfl) s 0 (by omega)
theorem g_mMet0 {X : Nat × (Nat → Int32)} {d : Nat} {A : CA} {R : RA} {o : Nat → Int64} (H : RG A R) {s x : Nat} (hs : s ≤ 8) (hx : SD R.P R.s x) (hq : ¬ mt x (gb A.sg s)) : px_ev X (d + 2) 142 [.ref 26, .int (nI s)] (WW A R o) (some (some (.int (nI 0))), WW A R o, 0, 0) := by
  refine wp_ev (d := d + 1) (by decide) rfl rfl (fun h => by cases h) ?_
  show wp X (d + 1) 142 (0, [.ref 26, .int (nI s), .retAddr 0], [], WW A R o, 0, 0) _
  refine wz_iconst (x := nI 0) (p9 := 1) rfl rfl (by decide) ?_
  refine wz_istore_n (l9 := [.ref 26, .int (nI s), .int (nI 0)]) (p9 := 2) rfl rfl rfl rfl ?_
  exact l_met0 H hs hx (fun c => hq ((mt_gb s).mpr c)) (by exact rfl) s 0 (by omega) (fun q hq => absurd hq (by omega))
