/-! THE REFERENCE: ranks and states that can come (wip/whole/gen/mkbe.py) -/
theorem lw_0 {s : Nat → Nat} {p : Nat} : sm (lw s p) (p + 1) = 0 := by
  have := lw_sum (s := s) (p := p) (p + 1)
  omega
theorem lw_1 {s : Nat → Nat} {p q : Nat} (h : p < q ∧ s q < s p) : sm (lw s p) (q + 1) = sm (lw s p) q + 1 := by
  show sm (lw s p) q + lw s p q = _
  unfold lw
  rw [if_pos h]
theorem lw_n {s : Nat → Nat} {p q : Nat} (h : ¬ (p < q ∧ s q < s p)) : sm (lw s p) (q + 1) = sm (lw s p) q + 0 := by
  show sm (lw s p) q + lw s p q = _
  unfold lw
  rw [if_neg h]
theorem ff_le : ∀ P, P < 8 → ∀ p, p < 8 → ff P p ≤ 5040 := by decide
theorem l_rank1 {X : Nat × (Nat → Int32)} {d : Nat} {A : CA} {R : RA} {o : Nat → Int64} (h7 : R.P ≤ 7) (hs : ∀ p, p < R.P → R.s p < 8) {p : Nat} (hp : p < R.P) {k z : Nat} {Q : px_Z → Prop} (kk : wp X d 141 (58, [.ref 26, .int (nI (rm R.P R.s p)), .int (nI p), .int (nI (sm (lw R.s p) R.P)), .int (nI R.P)], [], WW A R o, k, z) Q) : ∀ (j q : Nat), q + j = R.P → p < q → wp X d 141 (19, [.ref 26, .int (nI (rm R.P R.s p)), .int (nI p), .int (nI (sm (lw R.s p) q)), .int (nI q)], [], WW A R o, k, z) Q
  | 0, q, hj, hpq => by
    obtain rfl : q = R.P := by omega
    refine wz_iload (p9 := 21) rfl rfl rfl ?_
    refine wz_aload_n (p9 := 22) rfl rfl rfl ?_
    refine wz_get (v := .int (nI R.P)) (p9 := 25) rfl rfl rfl rfl rfl ?_
    refine wn_icge (t9 := 58) (p9 := 28) rfl rfl rfl (by omega) (by omega) (fun _ => ?_) (fun h9 => by omega)
    exact kk
  | j + 1, q, hj, hpq => by
    have hs1 := hs p hp
    have hs2 := hs q (by omega)
    refine wz_iload (p9 := 21) rfl rfl rfl ?_
    refine wz_aload_n (p9 := 22) rfl rfl rfl ?_
    refine wz_get (v := .int (nI R.P)) (p9 := 25) rfl rfl rfl rfl rfl ?_
    refine wn_icge (t9 := 58) (p9 := 28) rfl rfl rfl (by omega) (by omega) (fun h9 => by omega) (fun _ => ?_)
    refine wz_iload_n (p9 := 29) rfl rfl rfl ?_
    refine wz_aload_n (p9 := 30) rfl rfl rfl ?_
    refine wz_get (v := .ref 40) (p9 := 33) rfl rfl rfl rfl rfl ?_
    refine wz_iload (p9 := 35) rfl rfl rfl ?_
    refine wl_Rs (f := R.s) (p9 := 36) rfl rfl rfl (by omega) ?_
    refine wz_aload_n (p9 := 37) rfl rfl rfl ?_
    refine wz_get (v := .ref 40) (p9 := 40) rfl rfl rfl rfl rfl ?_
    refine wz_iload_n (p9 := 41) rfl rfl rfl ?_
    refine wl_Rs (f := R.s) (p9 := 42) rfl rfl rfl (by omega) ?_
    refine wn_icge (t9 := 49) (p9 := 45) rfl rfl rfl (by omega) (by omega) (fun h42 => ?_) (fun h42 => ?_)
    · refine wz_iconst (x := nI 0) (p9 := 50) rfl rfl (by decide) ?_
      refine wn_add (p9 := 51) rfl rfl ?_
      refine wz_istore_n (l9 := [.ref 26, .int (nI (rm R.P R.s p)), .int (nI p), .int (nI ((sm (lw R.s p) q) + 0)), .int (nI q)]) (p9 := 52) rfl rfl rfl rfl ?_
      refine wn_inc (b := 1) (l9 := [.ref 26, .int (nI (rm R.P R.s p)), .int (nI p), .int (nI ((sm (lw R.s p) q) + 0)), .int (nI (q + 1))]) (p9 := 55) rfl rfl rfl (by decide) rfl ?_
      refine wz_goto (p9 := 19) rfl rfl ?_
      rw [show sm (lw R.s p) q + 0 = sm (lw R.s p) (q + 1) from (lw_n (by omega)).symm]
      exact l_rank1 h7 hs hp kk j (q + 1) (by omega) (by omega)
    · refine wz_iconst (x := nI 1) (p9 := 46) rfl rfl (by decide) ?_
      refine wz_goto (p9 := 50) rfl rfl ?_
      refine wn_add (p9 := 51) rfl rfl ?_
      refine wz_istore_n (l9 := [.ref 26, .int (nI (rm R.P R.s p)), .int (nI p), .int (nI ((sm (lw R.s p) q) + 1)), .int (nI q)]) (p9 := 52) rfl rfl rfl rfl ?_
      refine wn_inc (b := 1) (l9 := [.ref 26, .int (nI (rm R.P R.s p)), .int (nI p), .int (nI ((sm (lw R.s p) q) + 1)), .int (nI (q + 1))]) (p9 := 55) rfl rfl rfl (by decide) rfl ?_
      refine wz_goto (p9 := 19) rfl rfl ?_
      rw [show sm (lw R.s p) q + 1 = sm (lw R.s p) (q + 1) from (lw_1 ⟨by omega, h42⟩).symm]
      exact l_rank1 h7 hs hp kk j (q + 1) (by omega) (by omega)
theorem l_rank2 {X : Nat × (Nat → Int32)} {d : Nat} {A : CA} {R : RA} {o : Nat → Int64} (h7 : R.P ≤ 7) (hs : ∀ p, p < R.P → R.s p < 8) {k z : Nat} {Q : px_Z → Prop} (kk : Q (some (some (.int (nI (rm R.P R.s R.P)))), WW A R o, k, z)) : ∀ (j p : Nat), p + j = R.P → ∀ v3 v4, wp X d 141 (4, [.ref 26, .int (nI (rm R.P R.s p)), .int (nI p), v3, v4], [], WW A R o, k, z) Q
  | 0, p, hj => by
    intro v3 v4
    obtain rfl : p = R.P := by omega
    refine wz_iload_n (p9 := 5) rfl rfl rfl ?_
    refine wz_aload_n (p9 := 6) rfl rfl rfl ?_
    refine wz_get (v := .int (nI R.P)) (p9 := 9) rfl rfl rfl rfl rfl ?_
    refine wn_icge (t9 := 75) (p9 := 12) rfl rfl rfl (by omega) (by omega) (fun _ => ?_) (fun h9 => by omega)
    refine wz_iload_n (p9 := 76) rfl rfl rfl ?_
    exact wz_reti rfl rfl kk
  | j + 1, p, hj => by
    intro v3 v4
    refine wz_iload_n (p9 := 5) rfl rfl rfl ?_
    refine wz_aload_n (p9 := 6) rfl rfl rfl ?_
    refine wz_get (v := .int (nI R.P)) (p9 := 9) rfl rfl rfl rfl rfl ?_
    refine wn_icge (t9 := 75) (p9 := 12) rfl rfl rfl (by omega) (by omega) (fun h9 => by omega) (fun _ => ?_)
    refine wz_iconst (x := nI 0) (p9 := 13) rfl rfl (by decide) ?_
    refine wz_istore_n (l9 := [.ref 26, .int (nI (rm R.P R.s p)), .int (nI p), .int (nI 0), v4]) (p9 := 14) rfl rfl rfl rfl ?_
    refine wz_iload_n (p9 := 15) rfl rfl rfl ?_
    refine wz_iconst (x := nI 1) (p9 := 16) rfl rfl (by decide) ?_
    refine wn_add (p9 := 17) rfl rfl ?_
    refine wz_istore (l9 := [.ref 26, .int (nI (rm R.P R.s p)), .int (nI p), .int (nI 0), .int (nI (p + 1))]) (p9 := 19) rfl rfl rfl rfl ?_
    rw [show nI 0 = nI (sm (lw R.s p) (p + 1)) by rw [lw_0]]
    refine l_rank1 h7 hs (by omega) ?_ j (p + 1) (by omega) (by omega)
    refine wz_iload_n (p9 := 59) rfl rfl rfl ?_
    refine wz_aload_n (p9 := 60) rfl rfl rfl ?_
    refine wz_get (v := .int (nI R.P)) (p9 := 63) rfl rfl rfl rfl rfl ?_
    refine wz_iload_n (p9 := 64) rfl rfl rfl ?_
    refine wn_sub (p9 := 65) rfl rfl (by omega) ?_
    refine wn_mul (p9 := 66) rfl rfl ?_
    refine wz_iload_n (p9 := 67) rfl rfl rfl ?_
    refine wn_add (p9 := 68) rfl rfl ?_
    refine wz_istore_n (l9 := [.ref 26, .int (nI (((rm R.P R.s p) * (R.P - p)) + (sm (lw R.s p) R.P))), .int (nI p), .int (nI (sm (lw R.s p) R.P)), .int (nI R.P)]) (p9 := 69) rfl rfl rfl rfl ?_
    refine wn_inc (b := 1) (l9 := [.ref 26, .int (nI (((rm R.P R.s p) * (R.P - p)) + (sm (lw R.s p) R.P))), .int (nI (p + 1)), .int (nI (sm (lw R.s p) R.P)), .int (nI R.P)]) (p9 := 72) rfl rfl rfl (by decide) rfl ?_
    refine wz_goto (p9 := 4) rfl rfl ?_
    exact l_rank2 h7 hs kk j (p + 1) (by omega) _ _
theorem g_mRank {X : Nat × (Nat → Int32)} {d : Nat} {A : CA} {R : RA} {o : Nat → Int64} (h7 : R.P ≤ 7) (hs : ∀ p, p < R.P → R.s p < 8) : px_ev X (d + 1) 141 [.ref 26] (WW A R o) (some (some (.int (nI (rm R.P R.s R.P)))), WW A R o, 0, 0) := by
  refine wp_ev (d := d + 0) (by decide) rfl rfl (fun h => by cases h) ?_
  show wp X (d + 0) 141 (0, [.ref 26, .retAddr 0, .retAddr 0, .retAddr 0, .retAddr 0], [], WW A R o, 0, 0) _
  refine wz_iconst (x := nI 0) (p9 := 1) rfl rfl (by decide) ?_
  refine wz_istore_n (l9 := [.ref 26, .int (nI 0), .retAddr 0, .retAddr 0, .retAddr 0]) (p9 := 2) rfl rfl rfl rfl ?_
  refine wz_iconst (x := nI 0) (p9 := 3) rfl rfl (by decide) ?_
  refine wz_istore_n (l9 := [.ref 26, .int (nI 0), .int (nI 0), .retAddr 0, .retAddr 0]) (p9 := 4) rfl rfl rfl rfl ?_
  exact l_rank2 h7 hs (by exact rfl) R.P 0 (by omega) _ _
def pI : Nat → Int32
  | 0 => -1
  | i + 1 => nI i
theorem pI_d : ∀ i : Nat, nI i + (-1) = pI i
  | 0 => by decide
  | i + 1 => by
    show nI (i + 1) + (-1) = nI i
    rw [← nI_add i 1, Int32.add_assoc, show nI 1 + (-1) = (0 : Int32) by decide, Int32.add_zero]
def ud (f g : Nat → Nat) (P i : Nat) : Nat → Nat := fun q => if i ≤ q ∧ q < P then f q else g q
theorem ud_0 {f g : Nat → Nat} {P : Nat} : ud f g P P = g := by funext q; unfold ud; rw [if_neg (by omega)]
theorem ud_s {f g : Nat → Nat} {P i : Nat} (h : i < P) : un (ud f g P (i + 1)) i (f i) = ud f g P i := by
  funext q
  by_cases c : q = i
  · rw [c, un_at]; unfold ud; rw [if_pos (by omega)]
  · rw [un_ne c]
    unfold ud
    by_cases c2 : i ≤ q ∧ q < P
    · rw [if_pos (by omega), if_pos c2]
    · rw [if_neg (by omega), if_neg c2]
theorem l_unr1 {X : Nat × (Nat → Int32)} {d : Nat} {A : CA} {R : RA} {o : Nat → Int64} (h7 : R.P ≤ 7) {s : Nat → Nat} {v1 : Value} {k z : Nat} {Q : px_Z → Prop} (kk : wp X d 140 (42, [.ref 26, v1, .int (nI 0), .int (-1), .retAddr 0, .retAddr 0, .retAddr 0], [], WW A (RA.s_ot R (ud (fun q => sm (lw s q) R.P) R.ot R.P 0)) o, k, z) Q) : ∀ i, i ≤ R.P → wp X d 140 (9, [.ref 26, v1, .int (nI (rm R.P s i)), .int (pI i), .retAddr 0, .retAddr 0, .retAddr 0], [], WW A (RA.s_ot R (ud (fun q => sm (lw s q) R.P) R.ot R.P i)) o, k, z) Q
  | 0, _ => by
    show wp X d 140 (9, [.ref 26, v1, .int (nI (rm R.P s 0)), .int (-1), .retAddr 0, .retAddr 0, .retAddr 0], [], WW A (RA.s_ot R (ud (fun q => sm (lw s q) R.P) R.ot R.P 0)) o, k, z) Q
    refine wz_iload_n (p9 := 10) rfl rfl rfl ?_
    refine wz_iflt (t9 := 42) (p9 := 13) rfl rfl rfl (fun _ => ?_) (fun h9 => absurd (by decide) h9)
    exact kk
  | i + 1, hi => by
    have hb := rm_ff (s := s) (P := R.P) (i + 1) hi
    have hb2 := ff_le R.P (by omega) (i + 1) (by omega)
    show wp X d 140 (9, [.ref 26, v1, .int (nI (rm R.P s (i + 1))), .int (nI i), .retAddr 0, .retAddr 0, .retAddr 0], [], WW A (RA.s_ot R (ud (fun q => sm (lw s q) R.P) R.ot R.P (i + 1))) o, k, z) Q
    refine wz_iload_n (p9 := 10) rfl rfl rfl ?_
    refine wn_iflt (t9 := 42) (p9 := 13) rfl rfl rfl (by omega) (fun h9 => by omega) (fun _ => ?_)
    refine wz_aload_n (p9 := 14) rfl rfl rfl ?_
    refine wz_get (v := .ref 41) (p9 := 17) rfl rfl rfl rfl rfl ?_
    refine wz_iload_n (p9 := 18) rfl rfl rfl ?_
    refine wz_iload_n (p9 := 19) rfl rfl rfl ?_
    refine wz_aload_n (p9 := 20) rfl rfl rfl ?_
    refine wz_get (v := .int (nI R.P)) (p9 := 23) rfl rfl rfl rfl rfl ?_
    refine wz_iload_n (p9 := 24) rfl rfl rfl ?_
    refine wn_sub (p9 := 25) rfl rfl (by omega) ?_
    refine wn_rem (p9 := 26) rfl rfl (by omega) (by omega) (by omega) ?_
    refine ws_Rot (f := ud (fun q => sm (lw s q) R.P) R.ot R.P (i + 1)) (p9 := 27) rfl rfl rfl (by omega) (R1 := (RA.s_ot R (un (ud (fun q => sm (lw s q) R.P) R.ot R.P (i + 1)) i ((rm R.P s (i + 1)) % (R.P - i))))) rfl ?_
    refine wz_iload_n (p9 := 28) rfl rfl rfl ?_
    refine wz_aload_n (p9 := 29) rfl rfl rfl ?_
    refine wz_get (v := .int (nI R.P)) (p9 := 32) rfl rfl rfl rfl rfl ?_
    refine wz_iload_n (p9 := 33) rfl rfl rfl ?_
    refine wn_sub (p9 := 34) rfl rfl (by omega) ?_
    refine wn_div (p9 := 35) rfl rfl (by omega) (by omega) (by omega) ?_
    refine wz_istore_n (l9 := [.ref 26, v1, .int (nI ((rm R.P s (i + 1)) / (R.P - i))), .int (nI i), .retAddr 0, .retAddr 0, .retAddr 0]) (p9 := 36) rfl rfl rfl rfl ?_
    refine wz_iinc (y := ((nI i) + (-1))) (l9 := [.ref 26, v1, .int (nI ((rm R.P s (i + 1)) / (R.P - i))), .int ((nI i) + (-1)), .retAddr 0, .retAddr 0, .retAddr 0]) (p9 := 39) rfl rfl rfl rfl rfl ?_
    refine wz_goto (p9 := 9) rfl rfl ?_
    rw [pI_d, (rm_mod (s := s) (show i < R.P by omega)).1, (rm_mod (s := s) (show i < R.P by omega)).2, ud_s (f := (fun q => sm (lw s q) R.P)) (g := R.ot) (show i < R.P by omega)]
    exact l_unr1 h7 kk i (by omega)
def frs (u v : Nat) : Nat := if u / 2 ^ v % 2 = 1 then u - 2 ^ v else u
theorem fr_i : ∀ u, u < 128 → ∀ v, v < 8 → nI u &&& (nI (1 * 2 ^ v) ^^^ (-1)) = nI (frs u v) := by decide +kernel
theorem fr_b : ∀ u, u < 128 → ∀ v, v < 8 → frs u v < 128 ∧ ∀ w, w < 8 → frs u v / 2 ^ w % 2 = if w = v then 0 else u / 2 ^ w % 2 := by decide +kernel
/-- the pieces that are free at place p -/
def FS (P : Nat) (s : Nat → Nat) (p u : Nat) : Prop := u < 128 ∧ ∀ v, v < 8 → (u / 2 ^ v % 2 = 1 ↔ v < P ∧ ∀ q, q < p → s q ≠ v)
theorem FS_0 {s : Nat → Nat} : ∀ P, P ≤ 7 → FS P s 0 (1 * 2 ^ P - 1) := by
  have h : ∀ P, P < 8 → 1 * 2 ^ P - 1 < 128 ∧ ∀ v, v < 8 → ((1 * 2 ^ P - 1) / 2 ^ v % 2 = 1 ↔ v < P) := by decide +kernel
  intro P hP
  refine ⟨(h P (by omega)).1, fun v hv => ?_⟩
  rw [(h P (by omega)).2 v hv]
  exact ⟨fun h1 => ⟨h1, fun q hq => absurd hq (by omega)⟩, fun h1 => h1.1⟩
theorem FS_s {P p u : Nat} {s : Nat → Nat} (h : FS P s p u) (hs : s p < 8) : FS P s (p + 1) (frs u (s p)) := by
  obtain ⟨h1, h2⟩ := fr_b u h.1 (s p) hs
  refine ⟨h1, fun v hv => ?_⟩
  rw [h2 v hv]
  by_cases c : v = s p
  · rw [if_pos c]
    exact ⟨fun e => absurd e (by decide), fun e => absurd c.symm (e.2 p (by omega))⟩
  · rw [if_neg c, h.2 v hv]
    refine ⟨fun e => ⟨e.1, fun q hq => ?_⟩, fun e => ⟨e.1, fun q hq => e.2 q (by omega)⟩⟩
    by_cases c2 : q = p
    · rw [c2]; exact fun e2 => c e2.symm
    · exact e.2 q (by omega)
/-- how many are free below v -/
def fct (u v : Nat) : Nat := sm (fun w => u / 2 ^ w % 2) v
theorem fct_s {u v : Nat} : fct u (v + 1) = fct u v + u / 2 ^ v % 2 := rfl
theorem fct_le {u v y : Nat} (h : v ≤ y) : fct u v ≤ fct u y := by
  induction h with
  | refl => exact Nat.le_refl _
  | step h ih => exact Nat.le_trans ih (Nat.le_add_right _ _)
theorem fct_8 {u : Nat} : ∀ v, fct u v ≤ v
  | 0 => Nat.le_refl _
  | v + 1 => by
    have := fct_8 (u := u) v
    rw [fct_s]; omega
theorem FS_lw {P x p u : Nat} (h7 : P ≤ 7) (hx : pm P x) (hp : p < P) (h : FS P (dg x) p u) : sm (lw (dg x) p) P = fct u (dg x p) := by
  rw [← cn_lw hx hp]
  have hc : ∀ k, cn (rk P x p).2 k = sm (fun v => if (rk P x p).2 / 2 ^ v % 2 = 0 then 1 else 0) k := by
    intro k
    induction k with
    | zero => rfl
    | succ k ih => show cn _ k + _ = sm _ k + _; rw [ih]
  rw [hc]
  have hd := hx.2.1 p hp
  refine sm_congr _ (fun v hv => ?_)
  show (if (rk P x p).2 / 2 ^ v % 2 = 0 then 1 else 0) = u / 2 ^ v % 2
  by_cases c : (rk P x p).2 / 2 ^ v % 2 = 0
  · rw [if_pos c, (h.2 v (by omega)).mpr ⟨by omega, (rk_bit p v).mp c⟩]
  · rw [if_neg c]
    have : ¬ u / 2 ^ v % 2 = 1 := fun e => c ((rk_bit p v).mpr ((h.2 v (by omega)).mp e).2)
    omega
theorem FS_at {P x p u : Nat} (hx : pm P x) (hp : p < P) (h : FS P (dg x) p u) : u / 2 ^ dg x p % 2 = 1 :=
  (h.2 _ (dg_lt _ _)).mpr ⟨hx.2.1 p hp, fun q hq e => by have := hx.2.2 q p (by omega) hp e; omega⟩
theorem l_unr2 {X : Nat × (Nat → Int32)} {d : Nat} {A : CA} {R : RA} {o : Nat → Int64} {x p u : Nat} (hu : u < 128) (hd : dg x p < 8) {v1 v2 : Value} {k z : Nat} {Q : px_Z → Prop} (kk : wp X d 140 (106, [.ref 26, v1, v2, .int (nI u), .int (nI p), .int (nI (dg x p)), .int (nI (fct u (dg x p) - fct u (dg x p)))], [], WW A R o, k, z) Q) (hb : u / 2 ^ dg x p % 2 = 1) : ∀ (j v : Nat), v + j = dg x p → wp X d 140 (75, [.ref 26, v1, v2, .int (nI u), .int (nI p), .int (nI v), .int (nI (fct u (dg x p) - fct u v))], [], WW A R o, k, z) Q
  | 0, v, hj => by
    obtain rfl : v = dg x p := by omega
    refine wz_iload_n (p9 := 76) rfl rfl rfl ?_
    refine wz_iload (p9 := 78) rfl rfl rfl ?_
    refine wn_shr (p9 := 79) rfl rfl (by omega) (by omega) ?_
    refine wz_iconst (x := nI 1) (p9 := 80) rfl rfl (by decide) ?_
    refine wn_and1 (p9 := 81) rfl rfl ?_
    refine wn_ifeq (t9 := 89) (p9 := 84) rfl rfl rfl (by omega) (fun h9 => by omega) (fun _ => ?_)
    refine wz_iload (p9 := 86) rfl rfl rfl ?_
    refine wn_ifle (t9 := 106) (p9 := 89) rfl rfl rfl (by omega) (fun _ => ?_) (fun h9 => by omega)
    exact kk
  | j + 1, v, hj => by
    have h8 := fct_8 (u := u) (dg x p)
    have h9a := fct_le (u := u) (show v + 1 ≤ dg x p by omega)
    rw [fct_s] at h9a
    refine wz_iload_n (p9 := 76) rfl rfl rfl ?_
    refine wz_iload (p9 := 78) rfl rfl rfl ?_
    refine wn_shr (p9 := 79) rfl rfl (by omega) (by omega) ?_
    refine wz_iconst (x := nI 1) (p9 := 80) rfl rfl (by decide) ?_
    refine wn_and1 (p9 := 81) rfl rfl ?_
    refine wn_ifeq (t9 := 89) (p9 := 84) rfl rfl rfl (by omega) (fun h81 => ?_) (fun h81 => ?_)
    · have hz : u / 2 ^ v % 2 = 0 := h81
      refine wz_iload (p9 := 91) rfl rfl rfl ?_
      refine wz_iload_n (p9 := 92) rfl rfl rfl ?_
      refine wz_iload (p9 := 94) rfl rfl rfl ?_
      refine wn_shr (p9 := 95) rfl rfl (by omega) (by omega) ?_
      refine wz_iconst (x := nI 1) (p9 := 96) rfl rfl (by decide) ?_
      refine wn_and1 (p9 := 97) rfl rfl ?_
      refine wn_sub (p9 := 98) rfl rfl (by omega) ?_
      refine wz_istore (l9 := [.ref 26, v1, v2, .int (nI u), .int (nI p), .int (nI v), .int (nI ((fct u (dg x p) - fct u v) - ((u / 2 ^ v) % 2)))]) (p9 := 100) rfl rfl rfl rfl ?_
      refine wn_inc (b := 1) (l9 := [.ref 26, v1, v2, .int (nI u), .int (nI p), .int (nI (v + 1)), .int (nI ((fct u (dg x p) - fct u v) - ((u / 2 ^ v) % 2)))]) (p9 := 103) rfl rfl rfl (by decide) rfl ?_
      refine wz_goto (p9 := 75) rfl rfl ?_
      rw [show fct u (dg x p) - fct u v - u / 2 ^ v % 2 = fct u (dg x p) - fct u (v + 1) by rw [fct_s]; omega]
      exact l_unr2 hu hd kk hb j (v + 1) (by omega)
    · refine wz_iload (p9 := 86) rfl rfl rfl ?_
      refine wn_ifle (t9 := 106) (p9 := 89) rfl rfl rfl (by omega) (fun h9 => by omega) (fun _ => ?_)
      refine wz_iload (p9 := 91) rfl rfl rfl ?_
      refine wz_iload_n (p9 := 92) rfl rfl rfl ?_
      refine wz_iload (p9 := 94) rfl rfl rfl ?_
      refine wn_shr (p9 := 95) rfl rfl (by omega) (by omega) ?_
      refine wz_iconst (x := nI 1) (p9 := 96) rfl rfl (by decide) ?_
      refine wn_and1 (p9 := 97) rfl rfl ?_
      refine wn_sub (p9 := 98) rfl rfl (by omega) ?_
      refine wz_istore (l9 := [.ref 26, v1, v2, .int (nI u), .int (nI p), .int (nI v), .int (nI ((fct u (dg x p) - fct u v) - ((u / 2 ^ v) % 2)))]) (p9 := 100) rfl rfl rfl rfl ?_
      refine wn_inc (b := 1) (l9 := [.ref 26, v1, v2, .int (nI u), .int (nI p), .int (nI (v + 1)), .int (nI ((fct u (dg x p) - fct u v) - ((u / 2 ^ v) % 2)))]) (p9 := 103) rfl rfl rfl (by decide) rfl ?_
      refine wz_goto (p9 := 75) rfl rfl ?_
      rw [show fct u (dg x p) - fct u v - u / 2 ^ v % 2 = fct u (dg x p) - fct u (v + 1) by rw [fct_s]; omega]
      exact l_unr2 hu hd kk hb j (v + 1) (by omega)
theorem l_unr3 {X : Nat × (Nat → Int32)} {d : Nat} {A : CA} {R : RA} {o : Nat → Int64} (h7 : R.P ≤ 7) {x : Nat} (hx : pm R.P x) {v1 v2 : Value} {k z : Nat} {Q : px_Z → Prop} (kk : Q (some none, WW A (RA.s_ot (RA.s_s R (cz (dg x) R.s R.P)) (ud (fun q => sm (lw (dg x) q) R.P) R.ot R.P 0)) o, k, z)) : ∀ (j p u : Nat), p + j = R.P → FS R.P (dg x) p u → ∀ v5 v6, wp X d 140 (54, [.ref 26, v1, v2, .int (nI u), .int (nI p), v5, v6], [], WW A (RA.s_ot (RA.s_s R (cz (dg x) R.s p)) (ud (fun q => sm (lw (dg x) q) R.P) R.ot R.P 0)) o, k, z) Q
  | 0, p, u, hj, hF => by
    intro v5 v6
    obtain rfl : p = R.P := by omega
    refine wz_iload (p9 := 56) rfl rfl rfl ?_
    refine wz_aload_n (p9 := 57) rfl rfl rfl ?_
    refine wz_get (v := .int (nI R.P)) (p9 := 60) rfl rfl rfl rfl rfl ?_
    refine wn_icge (t9 := 130) (p9 := 63) rfl rfl rfl (by omega) (by omega) (fun _ => ?_) (fun h9 => by omega)
    exact wz_retv rfl rfl kk
  | j + 1, p, u, hj, hF => by
    intro v5 v6
    have hd := dg_lt x p
    refine wz_iload (p9 := 56) rfl rfl rfl ?_
    refine wz_aload_n (p9 := 57) rfl rfl rfl ?_
    refine wz_get (v := .int (nI R.P)) (p9 := 60) rfl rfl rfl rfl rfl ?_
    refine wn_icge (t9 := 130) (p9 := 63) rfl rfl rfl (by omega) (by omega) (fun h9 => by omega) (fun _ => ?_)
    refine wz_iconst (x := nI 0) (p9 := 64) rfl rfl (by decide) ?_
    refine wz_istore (l9 := [.ref 26, v1, v2, .int (nI u), .int (nI p), .int (nI 0), v6]) (p9 := 66) rfl rfl rfl rfl ?_
    refine wz_aload_n (p9 := 67) rfl rfl rfl ?_
    refine wz_get (v := .ref 41) (p9 := 70) rfl rfl rfl rfl rfl ?_
    refine wz_iload (p9 := 72) rfl rfl rfl ?_
    refine wl_Rot (f := ud (fun q => sm (lw (dg x) q) R.P) R.ot R.P 0) (p9 := 73) rfl rfl rfl (by omega) ?_
    refine wz_istore (l9 := [.ref 26, v1, v2, .int (nI u), .int (nI p), .int (nI 0), .int (nI ((ud (fun q => sm (lw (dg x) q) R.P) R.ot R.P 0) p))]) (p9 := 75) rfl rfl rfl rfl ?_
    rw [show nI (ud (fun q => sm (lw (dg x) q) R.P) R.ot R.P 0 p) = nI (fct u (dg x p) - fct u 0) by
      rw [← FS_lw h7 hx (show p < R.P by omega) hF]
      unfold ud
      rw [if_pos ⟨Nat.zero_le _, by omega⟩]
      rfl]
    refine l_unr2 hF.1 hd ?_ (FS_at hx (by omega) hF) (dg x p) 0 (by omega)
    refine wz_aload_n (p9 := 107) rfl rfl rfl ?_
    refine wz_get (v := .ref 40) (p9 := 110) rfl rfl rfl rfl rfl ?_
    refine wz_iload (p9 := 112) rfl rfl rfl ?_
    refine wz_iload (p9 := 114) rfl rfl rfl ?_
    refine ws_Rs (f := cz (dg x) R.s p) (p9 := 115) rfl rfl rfl (by omega) (R1 := (RA.s_ot (RA.s_s R (un (cz (dg x) R.s p) p (dg x p))) (ud (fun q => sm (lw (dg x) q) R.P) R.ot R.P 0))) rfl ?_
    refine wz_iload_n (p9 := 116) rfl rfl rfl ?_
    refine wz_iconst (x := nI 1) (p9 := 117) rfl rfl (by decide) ?_
    refine wz_iload (p9 := 119) rfl rfl rfl ?_
    refine wn_shl (p9 := 120) rfl rfl (by omega) ?_
    refine wz_iconst (x := (-1)) (p9 := 121) rfl rfl (by decide) ?_
    refine wz_ixor (v := ((nI (1 * 2 ^ (dg x p))) ^^^ (-1))) (p9 := 122) rfl rfl rfl ?_
    refine wz_iand (v := (nI (frs u (dg x p)))) (p9 := 123) rfl rfl (fr_i u hF.1 _ hd) ?_
    refine wz_istore_n (l9 := [.ref 26, v1, v2, .int (nI (frs u (dg x p))), .int (nI p), .int (nI (dg x p)), .int (nI (fct u (dg x p) - fct u (dg x p)))]) (p9 := 124) rfl rfl rfl rfl ?_
    refine wn_inc (b := 1) (l9 := [.ref 26, v1, v2, .int (nI (frs u (dg x p))), .int (nI (p + 1)), .int (nI (dg x p)), .int (nI (fct u (dg x p) - fct u (dg x p)))]) (p9 := 127) rfl rfl rfl (by decide) rfl ?_
    refine wz_goto (p9 := 54) rfl rfl ?_
    rw [cz_s]
    exact l_unr3 h7 hx kk j (p + 1) _ (by omega) (FS_s hF hd) _ _
theorem g_unrank {X : Nat × (Nat → Int32)} {d : Nat} {A : CA} {R : RA} {o : Nat → Int64} (h7 : R.P ≤ 7) (h2 : 2 ≤ R.P) {x : Nat} (hx : pm R.P x) : px_ev X (d + 1) 140 [.ref 26, .int (nI ((rk R.P x R.P).1))] (WW A R o) (some none, WW A (RA.s_ot (RA.s_s R (cz (dg x) R.s R.P)) (ud (fun q => sm (lw (dg x) q) R.P) R.ot R.P 0)) o, 0, 0) := by
  refine wp_ev (d := d + 0) (by decide) rfl rfl (fun h => by cases h) ?_
  show wp X (d + 0) 140 (0, [.ref 26, .int (nI ((rk R.P x R.P).1)), .retAddr 0, .retAddr 0, .retAddr 0, .retAddr 0, .retAddr 0], [], WW A R o, 0, 0) _
  refine wz_iload_n (p9 := 1) rfl rfl rfl ?_
  refine wz_istore_n (l9 := [.ref 26, .int (nI ((rk R.P x R.P).1)), .int (nI ((rk R.P x R.P).1)), .retAddr 0, .retAddr 0, .retAddr 0, .retAddr 0]) (p9 := 2) rfl rfl rfl rfl ?_
  refine wz_aload_n (p9 := 3) rfl rfl rfl ?_
  refine wz_get (v := .int (nI R.P)) (p9 := 6) rfl rfl rfl rfl rfl ?_
  refine wz_iconst (x := nI 1) (p9 := 7) rfl rfl (by decide) ?_
  refine wn_sub (p9 := 8) rfl rfl (by omega) ?_
  refine wz_istore_n (l9 := [.ref 26, .int (nI ((rk R.P x R.P).1)), .int (nI ((rk R.P x R.P).1)), .int (nI (R.P - 1)), .retAddr 0, .retAddr 0, .retAddr 0]) (p9 := 9) rfl rfl rfl rfl ?_
  rw [show nI (R.P - 1) = pI R.P by rw [show R.P = R.P - 1 + 1 by omega]; rfl]
  have h9 := l_unr1 (X := X) (d := d) (A := A) (R := R) (o := o) h7 (s := dg x) (v1 := .int (nI (rk R.P x R.P).1)) (k := 0) (z := 0) (Q := fun q => q = (some none, WW A (RA.s_ot (RA.s_s R (cz (dg x) R.s R.P)) (ud (fun q => sm (lw (dg x) q) R.P) R.ot R.P 0)) o, 0, 0)) ?_ R.P (Nat.le_refl _)
  · rw [ud_0, ← rk_rm hx R.P (Nat.le_refl _)] at h9
    exact h9
  · skip
    refine wz_iconst (x := nI 1) (p9 := 43) rfl rfl (by decide) ?_
    refine wz_aload_n (p9 := 44) rfl rfl rfl ?_
    refine wz_get (v := .int (nI R.P)) (p9 := 47) rfl rfl rfl rfl rfl ?_
    refine wn_shl (p9 := 48) rfl rfl (by omega) ?_
    refine wz_iconst (x := nI 1) (p9 := 49) rfl rfl (by decide) ?_
    refine wn_sub (p9 := 50) rfl rfl (by have := Nat.two_pow_pos R.P; omega) ?_
    refine wz_istore_n (l9 := [.ref 26, .int (nI ((rk R.P x R.P).1)), .int (nI 0), .int (nI ((1 * 2 ^ R.P) - 1)), .retAddr 0, .retAddr 0, .retAddr 0]) (p9 := 51) rfl rfl rfl rfl ?_
    refine wz_iconst (x := nI 0) (p9 := 52) rfl rfl (by decide) ?_
    refine wz_istore (l9 := [.ref 26, .int (nI ((rk R.P x R.P).1)), .int (nI 0), .int (nI ((1 * 2 ^ R.P) - 1)), .int (nI 0), .retAddr 0, .retAddr 0]) (p9 := 54) rfl rfl rfl rfl ?_
    exact l_unr3 h7 hx (by exact rfl) R.P 0 _ (by omega) (FS_0 R.P h7) _ _
theorem l_sp1 {X : Nat × (Nat → Int32)} {d : Nat} {A : CA} {R : RA} {o : Nat → Int64} {od : Nat → Nat} (T : TV R.P R.Mv R.t od) {m : Nat} (hm : m < 6) {v1 v2 : Value} {k z : Nat} {Q : px_Z → Prop} (kk : wp X d 139 (107, [.ref 26, v1, v2, .int (nI m), .int (nI R.P)], [], WW A (RA.s_ot R (sct (fun q => R.t (m * 7 + q)) R.s R.ot R.P)) o, k, z) Q) : ∀ (j p : Nat), p + j = R.P → wp X d 139 (68, [.ref 26, v1, v2, .int (nI m), .int (nI p)], [], WW A (RA.s_ot R (sct (fun q => R.t (m * 7 + q)) R.s R.ot p)) o, k, z) Q
  | 0, p, hj => by
    have p7 := T.p7
    obtain rfl : p = R.P := by omega
    refine wz_iload (p9 := 70) rfl rfl rfl ?_
    refine wz_aload_n (p9 := 71) rfl rfl rfl ?_
    refine wz_get (v := .int (nI R.P)) (p9 := 74) rfl rfl rfl rfl rfl ?_
    refine wn_icge (t9 := 107) (p9 := 77) rfl rfl rfl (by omega) (by omega) (fun _ => ?_) (fun h9 => by omega)
    exact kk
  | j + 1, p, hj => by
    have p7 := T.p7
    refine wz_iload (p9 := 70) rfl rfl rfl ?_
    refine wz_aload_n (p9 := 71) rfl rfl rfl ?_
    refine wz_get (v := .int (nI R.P)) (p9 := 74) rfl rfl rfl rfl rfl ?_
    refine wn_icge (t9 := 107) (p9 := 77) rfl rfl rfl (by omega) (by omega) (fun h9 => by omega) (fun _ => ?_)
    refine wz_aload_n (p9 := 78) rfl rfl rfl ?_
    refine wz_get (v := .ref 41) (p9 := 81) rfl rfl rfl rfl rfl ?_
    refine wz_aload_n (p9 := 82) rfl rfl rfl ?_
    refine wz_get (v := .ref 27) (p9 := 85) rfl rfl rfl rfl rfl ?_
    refine wz_bipush (x := nI 7) (p9 := 87) rfl rfl (by decide) ?_
    refine wz_iload_n (p9 := 88) rfl rfl rfl ?_
    refine wn_mul (p9 := 89) rfl rfl ?_
    refine wz_iload (p9 := 91) rfl rfl rfl ?_
    refine wn_add (p9 := 92) rfl rfl ?_
    refine wl_Rt (f := R.t) (p9 := 93) rfl rfl rfl (by omega) ?_
    refine wz_aload_n (p9 := 94) rfl rfl rfl ?_
    refine wz_get (v := .ref 40) (p9 := 97) rfl rfl rfl rfl rfl ?_
    refine wz_iload (p9 := 99) rfl rfl rfl ?_
    refine wl_Rs (f := R.s) (p9 := 100) rfl rfl rfl (by omega) ?_
    refine ws_Rot (f := sct (fun q => R.t (m * 7 + q)) R.s R.ot p) (p9 := 101) rfl rfl rfl (by have := T.ht m p (by omega); rw [Nat.mul_comm] at this; omega) (R1 := (RA.s_ot R (un (sct (fun q => R.t (m * 7 + q)) R.s R.ot p) (R.t ((7 * m) + p)) (R.s p)))) rfl ?_
    refine wn_inc (b := 1) (l9 := [.ref 26, v1, v2, .int (nI m), .int (nI (p + 1))]) (p9 := 104) rfl rfl rfl (by decide) rfl ?_
    refine wz_goto (p9 := 68) rfl rfl ?_
    rw [show 7 * m + p = m * 7 + p by rw [Nat.mul_comm]]
    exact l_sp1 T hm kk j (p + 1) (by omega)
theorem l_sp2 {X : Nat × (Nat → Int32)} {d : Nat} {A : CA} {R : RA} {o : Nat → Int64} (p7 : R.P ≤ 7) {m : Nat} {v1 v2 : Value} {k z : Nat} {Q : px_Z → Prop} (kk : wp X d 139 (139, [.ref 26, v1, v2, .int (nI m), .int (nI R.P)], [], WW A (RA.s_s R (cz R.ot R.s R.P)) o, k, z) Q) : ∀ (j p : Nat), p + j = R.P → wp X d 139 (110, [.ref 26, v1, v2, .int (nI m), .int (nI p)], [], WW A (RA.s_s R (cz R.ot R.s p)) o, k, z) Q
  | 0, p, hj => by
    obtain rfl : p = R.P := by omega
    refine wz_iload (p9 := 112) rfl rfl rfl ?_
    refine wz_aload_n (p9 := 113) rfl rfl rfl ?_
    refine wz_get (v := .int (nI R.P)) (p9 := 116) rfl rfl rfl rfl rfl ?_
    refine wn_icge (t9 := 139) (p9 := 119) rfl rfl rfl (by omega) (by omega) (fun _ => ?_) (fun h9 => by omega)
    exact kk
  | j + 1, p, hj => by
    refine wz_iload (p9 := 112) rfl rfl rfl ?_
    refine wz_aload_n (p9 := 113) rfl rfl rfl ?_
    refine wz_get (v := .int (nI R.P)) (p9 := 116) rfl rfl rfl rfl rfl ?_
    refine wn_icge (t9 := 139) (p9 := 119) rfl rfl rfl (by omega) (by omega) (fun h9 => by omega) (fun _ => ?_)
    refine wz_aload_n (p9 := 120) rfl rfl rfl ?_
    refine wz_get (v := .ref 40) (p9 := 123) rfl rfl rfl rfl rfl ?_
    refine wz_iload (p9 := 125) rfl rfl rfl ?_
    refine wz_aload_n (p9 := 126) rfl rfl rfl ?_
    refine wz_get (v := .ref 41) (p9 := 129) rfl rfl rfl rfl rfl ?_
    refine wz_iload (p9 := 131) rfl rfl rfl ?_
    refine wl_Rot (f := R.ot) (p9 := 132) rfl rfl rfl (by omega) ?_
    refine ws_Rs (f := cz R.ot R.s p) (p9 := 133) rfl rfl rfl (by omega) (R1 := (RA.s_s R (un (cz R.ot R.s p) p (R.ot p)))) rfl ?_
    refine wn_inc (b := 1) (l9 := [.ref 26, v1, v2, .int (nI m), .int (nI (p + 1))]) (p9 := 136) rfl rfl rfl (by decide) rfl ?_
    refine wz_goto (p9 := 110) rfl rfl ?_
    rw [cz_s]
    exact l_sp2 p7 kk j (p + 1) (by omega)
/-- the reference's queue and marks, by the states found -/
def QS (P : Nat) (b : Nat × (Nat → Nat) × (Nat → Nat)) (qu is : Nat → Nat) : Prop := (∀ q, q < b.1 → qu q = (rk P (b.2.1 q) P).1) ∧ ∀ r, r < 5040 → is r = b.2.2 r
theorem fac_le {P : Nat} (h : P ≤ 7) : fac P ≤ 5040 := (show ∀ P, P < 8 → fac P ≤ 5040 by decide) P (by omega)
theorem l_spIn {X : Nat × (Nat → Int32)} {d : Nat} {A : CA} {R : RA} {o : Nat → Int64} (H : RG A R) {i : Nat} {k z : Nat} {Q : px_Z → Prop} : ∀ (j m : Nat) (b : Nat × (Nat → Nat) × (Nat → Nat)) (s2 ot2 is2 qu2 : Nat → Nat), m + j = R.Mv → BF (pm A.P) (fac A.P) b → i < b.1 → QS A.P b qu2 is2 → ∀ v4, (∀ s1 ot1 is1 qu1 v4, QS A.P (inS (fun x => (rk A.P x A.P).1) (fun m x => tr (fun q => A.t (m * 7 + q)) x A.P) i j m b) qu1 is1 → wp X (d + 1) 139 (183, [.ref 26, .int (nI (inS (fun x => (rk A.P x A.P).1) (fun m x => tr (fun q => A.t (m * 7 + q)) x A.P) i j m b).1), .int (nI i), .int (nI R.Mv), v4], [], WW A (RA.s_qu (RA.s_is (RA.s_ot (RA.s_s R s1) ot1) is1) qu1) o, k, z) Q) → wp X (d + 1) 139 (47, [.ref 26, .int (nI b.1), .int (nI i), .int (nI m), v4], [], WW A (RA.s_qu (RA.s_is (RA.s_ot (RA.s_s R s2) ot2) is2) qu2) o, k, z) Q
  | 0, m, b, s2, ot2, is2, qu2, hj, hB, hi, hQ => by
    intro v4 kk
    have m6 := H.TR.m6
    obtain rfl : m = R.Mv := by omega
    refine wz_iload_n (p9 := 48) rfl rfl rfl ?_
    refine wz_aload_n (p9 := 49) rfl rfl rfl ?_
    refine wz_get (v := .int (nI R.Mv)) (p9 := 52) rfl rfl rfl rfl rfl ?_
    refine wn_icge (t9 := 183) (p9 := 55) rfl rfl rfl (by omega) (by omega) (fun _ => ?_) (fun h9 => by omega)
    exact kk s2 ot2 is2 qu2 v4 hQ
  | j + 1, m, b, s2, ot2, is2, qu2, hj, hB, hi, hQ => by
    intro v4 kk
    have m6 := H.TR.m6
    have p7 := H.T.p7
    have hP7 := H.TR.p7
    have hP2 := H.TR.p2
    have hfa := fac_le p7
    have hb5 : b.1 ≤ fac A.P := by have := hB.1; omega
    have hxA := hB.2.1 i hi
    have hxR : pm R.P (b.2.1 i) := by rw [H.p]; exact hxA
    have hpf := mv_pf H.T m (by have := H.T.m6; have := H.m; omega)
    have hok := pm_tr hpf hxA
    have hrk := rk_fac p7 hok
    have hS5 : SD R.P (cz (dg (b.2.1 i)) s2 R.P) (b.2.1 i) := fun p hp => by unfold cz; rw [if_pos hp]
    have hS7 : SD R.P (cz (sct (fun q => R.t (m * 7 + q)) (cz (dg (b.2.1 i)) s2 R.P) (ud (fun q => sm (lw (dg (b.2.1 i)) q) R.P) ot2 R.P 0) R.P) (cz (dg (b.2.1 i)) s2 R.P) R.P) (tr (fun q => A.t (m * 7 + q)) (b.2.1 i) A.P) := by
      rw [H.t, H.p]
      rw [H.p] at hS5
      exact SD_done hpf hS5
    have hR7 : rm R.P (cz (sct (fun q => R.t (m * 7 + q)) (cz (dg (b.2.1 i)) s2 R.P) (ud (fun q => sm (lw (dg (b.2.1 i)) q) R.P) ot2 R.P 0) R.P) (cz (dg (b.2.1 i)) s2 R.P) R.P) R.P = (rk A.P (tr (fun q => A.t (m * 7 + q)) (b.2.1 i) A.P) A.P).1 := by
      have h1 := rm_congr (P := R.P) (fun q hq => hS7 q hq) R.P (Nat.le_refl _)
      rw [h1, H.p, rk_rm hok A.P (Nat.le_refl _)]
    have hq2 := hQ.2 ((rk A.P (tr (fun q => A.t (m * 7 + q)) (b.2.1 i) A.P) A.P).1) (by omega)
    have hbt : is2 ((rk A.P (tr (fun q => A.t (m * 7 + q)) (b.2.1 i) A.P) A.P).1) < 2 := by rw [hq2]; exact hB.2.2 _
    have hbn : is2 ((rk A.P (tr (fun q => A.t (m * 7 + q)) (b.2.1 i) A.P) A.P).1) = 0 → b.1 < fac A.P := fun e => by
      have h1 := zs_pos (f := b.2.2) (k := fac A.P) (hq2.symm.trans e) hrk
      have h2 := hB.1
      omega
    refine wz_iload_n (p9 := 48) rfl rfl rfl ?_
    refine wz_aload_n (p9 := 49) rfl rfl rfl ?_
    refine wz_get (v := .int (nI R.Mv)) (p9 := 52) rfl rfl rfl rfl rfl ?_
    refine wn_icge (t9 := 183) (p9 := 55) rfl rfl rfl (by omega) (by omega) (fun h9 => by omega) (fun _ => ?_)
    refine wz_aload_n (p9 := 56) rfl rfl rfl ?_
    refine wz_aload_n (p9 := 57) rfl rfl rfl ?_
    refine wz_get (v := .ref 43) (p9 := 60) rfl rfl rfl rfl rfl ?_
    refine wz_iload_n (p9 := 61) rfl rfl rfl ?_
    refine wl_Rqu (f := qu2) (p9 := 62) rfl rfl rfl (by omega) ?_
    rw [show nI (qu2 i) = nI ((rk R.P (b.2.1 i) R.P).1) by rw [hQ.1 i hi, H.p]]
    refine wz_c0 (p9 := 65) (w1 := WW A (RA.s_qu (RA.s_is (RA.s_ot (RA.s_s R (cz (dg (b.2.1 i)) s2 R.P)) (ud (fun q => sm (lw (dg (b.2.1 i)) q) R.P) ot2 R.P 0)) is2) qu2) o) (wa_v (N := 140) (i := 26) (As := [.int (nI ((rk R.P (b.2.1 i) R.P).1))]) (rest := []) rfl rfl rfl rfl rfl rfl rfl) rfl ((g_unrank (d := 0) (A := A) (R := (RA.s_qu (RA.s_is (RA.s_ot (RA.s_s R s2) ot2) is2) qu2)) (o := o) hP7 hP2 (x := (b.2.1 i)) hxR).up (Nat.succ_le_succ (Nat.zero_le d))) ?_
    refine wz_iconst (x := nI 0) (p9 := 66) rfl rfl (by decide) ?_
    refine wz_istore (l9 := [.ref 26, .int (nI b.1), .int (nI i), .int (nI m), .int (nI 0)]) (p9 := 68) rfl rfl rfl rfl ?_
    refine l_sp1 (R := (RA.s_qu (RA.s_is (RA.s_ot (RA.s_s R (cz (dg (b.2.1 i)) s2 R.P)) (ud (fun q => sm (lw (dg (b.2.1 i)) q) R.P) ot2 R.P 0)) is2) qu2)) H.TR (by omega) ?_ R.P 0 (by show 0 + R.P = R.P; omega)
    refine wz_iconst (x := nI 0) (p9 := 108) rfl rfl (by decide) ?_
    refine wz_istore (l9 := [.ref 26, .int (nI b.1), .int (nI i), .int (nI m), .int (nI 0)]) (p9 := 110) rfl rfl rfl rfl ?_
    refine l_sp2 (R := (RA.s_qu (RA.s_is (RA.s_ot (RA.s_s R (cz (dg (b.2.1 i)) s2 R.P)) (sct (fun q => R.t (m * 7 + q)) (cz (dg (b.2.1 i)) s2 R.P) (ud (fun q => sm (lw (dg (b.2.1 i)) q) R.P) ot2 R.P 0) R.P)) is2) qu2)) hP7 ?_ R.P 0 (by show 0 + R.P = R.P; omega)
    refine wz_aload_n (p9 := 140) rfl rfl rfl ?_
    refine wz_c1 (p9 := 143) (w1 := WW A (RA.s_qu (RA.s_is (RA.s_ot (RA.s_s R (cz (sct (fun q => R.t (m * 7 + q)) (cz (dg (b.2.1 i)) s2 R.P) (ud (fun q => sm (lw (dg (b.2.1 i)) q) R.P) ot2 R.P 0) R.P) (cz (dg (b.2.1 i)) s2 R.P) R.P)) (sct (fun q => R.t (m * 7 + q)) (cz (dg (b.2.1 i)) s2 R.P) (ud (fun q => sm (lw (dg (b.2.1 i)) q) R.P) ot2 R.P 0) R.P)) is2) qu2) o) (u := .int (nI ((rk A.P (tr (fun q => A.t (m * 7 + q)) (b.2.1 i) A.P) A.P).1))) (wa_v (N := 141) (i := 26) (As := []) (rest := []) rfl rfl rfl rfl rfl rfl rfl) rfl (by have h9 := (g_mRank (X := X) (d := 0) (A := A) (R := (RA.s_qu (RA.s_is (RA.s_ot (RA.s_s R (cz (sct (fun q => R.t (m * 7 + q)) (cz (dg (b.2.1 i)) s2 R.P) (ud (fun q => sm (lw (dg (b.2.1 i)) q) R.P) ot2 R.P 0) R.P) (cz (dg (b.2.1 i)) s2 R.P) R.P)) (sct (fun q => R.t (m * 7 + q)) (cz (dg (b.2.1 i)) s2 R.P) (ud (fun q => sm (lw (dg (b.2.1 i)) q) R.P) ot2 R.P 0) R.P)) is2) qu2)) (o := o) hP7 (fun p hp => hS7.lt p hp)).up (show 0 + 1 ≤ d + 1 by omega); rw [show rm (RA.P (RA.s_qu (RA.s_is (RA.s_ot (RA.s_s R (cz (sct (fun q => R.t (m * 7 + q)) (cz (dg (b.2.1 i)) s2 R.P) (ud (fun q => sm (lw (dg (b.2.1 i)) q) R.P) ot2 R.P 0) R.P) (cz (dg (b.2.1 i)) s2 R.P) R.P)) (sct (fun q => R.t (m * 7 + q)) (cz (dg (b.2.1 i)) s2 R.P) (ud (fun q => sm (lw (dg (b.2.1 i)) q) R.P) ot2 R.P 0) R.P)) is2) qu2)) (RA.s (RA.s_qu (RA.s_is (RA.s_ot (RA.s_s R (cz (sct (fun q => R.t (m * 7 + q)) (cz (dg (b.2.1 i)) s2 R.P) (ud (fun q => sm (lw (dg (b.2.1 i)) q) R.P) ot2 R.P 0) R.P) (cz (dg (b.2.1 i)) s2 R.P) R.P)) (sct (fun q => R.t (m * 7 + q)) (cz (dg (b.2.1 i)) s2 R.P) (ud (fun q => sm (lw (dg (b.2.1 i)) q) R.P) ot2 R.P 0) R.P)) is2) qu2)) (RA.P (RA.s_qu (RA.s_is (RA.s_ot (RA.s_s R (cz (sct (fun q => R.t (m * 7 + q)) (cz (dg (b.2.1 i)) s2 R.P) (ud (fun q => sm (lw (dg (b.2.1 i)) q) R.P) ot2 R.P 0) R.P) (cz (dg (b.2.1 i)) s2 R.P) R.P)) (sct (fun q => R.t (m * 7 + q)) (cz (dg (b.2.1 i)) s2 R.P) (ud (fun q => sm (lw (dg (b.2.1 i)) q) R.P) ot2 R.P 0) R.P)) is2) qu2)) = (rk A.P (tr (fun q => A.t (m * 7 + q)) (b.2.1 i) A.P) A.P).1 from hR7] at h9; exact h9) ?_
    refine wz_istore (l9 := [.ref 26, .int (nI b.1), .int (nI i), .int (nI m), .int (nI ((rk A.P (tr (fun q => A.t (m * 7 + q)) (b.2.1 i) A.P) A.P).1))]) (p9 := 145) rfl rfl rfl rfl ?_
    refine wz_aload_n (p9 := 146) rfl rfl rfl ?_
    refine wz_get (v := .ref 42) (p9 := 149) rfl rfl rfl rfl rfl ?_
    refine wz_iload (p9 := 151) rfl rfl rfl ?_
    refine wl_Ris (f := is2) (p9 := 152) rfl rfl rfl (by omega) ?_
    refine wn_ifeq (t9 := 158) (p9 := 155) rfl rfl rfl (by omega) (fun h152 => ?_) (fun h152 => ?_)
    · have hb6 := hbn h152
      refine wz_aload_n (p9 := 159) rfl rfl rfl ?_
      refine wz_get (v := .ref 42) (p9 := 162) rfl rfl rfl rfl rfl ?_
      refine wz_iload (p9 := 164) rfl rfl rfl ?_
      refine wz_iconst (x := nI 1) (p9 := 165) rfl rfl (by decide) ?_
      refine ws_Ris (f := is2) (p9 := 166) rfl rfl rfl (by omega) (by decide) (R1 := (RA.s_qu (RA.s_is (RA.s_ot (RA.s_s R (cz (sct (fun q => R.t (m * 7 + q)) (cz (dg (b.2.1 i)) s2 R.P) (ud (fun q => sm (lw (dg (b.2.1 i)) q) R.P) ot2 R.P 0) R.P) (cz (dg (b.2.1 i)) s2 R.P) R.P)) (sct (fun q => R.t (m * 7 + q)) (cz (dg (b.2.1 i)) s2 R.P) (ud (fun q => sm (lw (dg (b.2.1 i)) q) R.P) ot2 R.P 0) R.P)) (un is2 ((rk A.P (tr (fun q => A.t (m * 7 + q)) (b.2.1 i) A.P) A.P).1) 1)) qu2)) rfl ?_
      refine wz_aload_n (p9 := 167) rfl rfl rfl ?_
      refine wz_get (v := .ref 43) (p9 := 170) rfl rfl rfl rfl rfl ?_
      refine wz_iload_n (p9 := 171) rfl rfl rfl ?_
      refine wz_iload (p9 := 173) rfl rfl rfl ?_
      refine ws_Rqu (f := qu2) (p9 := 174) rfl rfl rfl (by omega) (R1 := (RA.s_qu (RA.s_is (RA.s_ot (RA.s_s R (cz (sct (fun q => R.t (m * 7 + q)) (cz (dg (b.2.1 i)) s2 R.P) (ud (fun q => sm (lw (dg (b.2.1 i)) q) R.P) ot2 R.P 0) R.P) (cz (dg (b.2.1 i)) s2 R.P) R.P)) (sct (fun q => R.t (m * 7 + q)) (cz (dg (b.2.1 i)) s2 R.P) (ud (fun q => sm (lw (dg (b.2.1 i)) q) R.P) ot2 R.P 0) R.P)) (un is2 ((rk A.P (tr (fun q => A.t (m * 7 + q)) (b.2.1 i) A.P) A.P).1) 1)) (un qu2 b.1 ((rk A.P (tr (fun q => A.t (m * 7 + q)) (b.2.1 i) A.P) A.P).1)))) rfl ?_
      refine wn_inc (b := 1) (l9 := [.ref 26, .int (nI (b.1 + 1)), .int (nI i), .int (nI m), .int (nI ((rk A.P (tr (fun q => A.t (m * 7 + q)) (b.2.1 i) A.P) A.P).1))]) (p9 := 177) rfl rfl rfl (by decide) rfl ?_
      refine wn_inc (b := 1) (l9 := [.ref 26, .int (nI (b.1 + 1)), .int (nI i), .int (nI (m + 1)), .int (nI ((rk A.P (tr (fun q => A.t (m * 7 + q)) (b.2.1 i) A.P) A.P).1))]) (p9 := 180) rfl rfl rfl (by decide) rfl ?_
      refine wz_goto (p9 := 47) rfl rfl ?_
      have e9 : inS (fun x => (rk A.P x A.P).1) (fun m x => tr (fun q => A.t (m * 7 + q)) x A.P) i (j + 1) m b = inS (fun x => (rk A.P x A.P).1) (fun m x => tr (fun q => A.t (m * 7 + q)) x A.P) i j (m + 1) (b.1 + 1, un b.2.1 b.1 (tr (fun q => A.t (m * 7 + q)) (b.2.1 i) A.P), un b.2.2 ((rk A.P (tr (fun q => A.t (m * 7 + q)) (b.2.1 i) A.P) A.P).1) 1) := by show inS _ _ i j (m + 1) (adS _ _ b) = _; congr 1; exact if_pos (show b.2.2 ((rk A.P (tr (fun q => A.t (m * 7 + q)) (b.2.1 i) A.P) A.P).1) = 0 from hq2.symm.trans h152)
      rw [e9] at kk
      have hBF9 := BF_ad (rf := (fun x => (rk A.P x A.P).1)) (x := (tr (fun q => A.t (m * 7 + q)) (b.2.1 i) A.P)) hB hok (show ((rk A.P (tr (fun q => A.t (m * 7 + q)) (b.2.1 i) A.P) A.P).1) < fac A.P by omega)
      rw [show adS (fun x => (rk A.P x A.P).1) (tr (fun q => A.t (m * 7 + q)) (b.2.1 i) A.P) b = (b.1 + 1, un b.2.1 b.1 (tr (fun q => A.t (m * 7 + q)) (b.2.1 i) A.P), un b.2.2 ((rk A.P (tr (fun q => A.t (m * 7 + q)) (b.2.1 i) A.P) A.P).1) 1) from if_pos (show b.2.2 ((rk A.P (tr (fun q => A.t (m * 7 + q)) (b.2.1 i) A.P) A.P).1) = 0 from hq2.symm.trans h152)] at hBF9
      refine l_spIn H j (m + 1) (b.1 + 1, un b.2.1 b.1 (tr (fun q => A.t (m * 7 + q)) (b.2.1 i) A.P), un b.2.2 ((rk A.P (tr (fun q => A.t (m * 7 + q)) (b.2.1 i) A.P) A.P).1) 1) _ _ _ _ (by omega) hBF9 (Nat.lt_succ_of_lt hi) ⟨fun q hq => ?_, fun q hq => ?_⟩ _ kk
      · by_cases c : q = b.1
        · rw [c, un_at]; show _ = (rk A.P (un b.2.1 b.1 _ b.1) A.P).1; rw [un_at]
        · rw [un_ne c]; show _ = (rk A.P (un b.2.1 b.1 _ q) A.P).1; rw [un_ne c]; exact hQ.1 q (by replace hq : q < b.1 + 1 := hq; omega)
      · by_cases c : q = (rk A.P (tr (fun q => A.t (m * 7 + q)) (b.2.1 i) A.P) A.P).1
        · rw [c, un_at]; exact un_at.symm
        · rw [un_ne c]; show _ = un b.2.2 _ 1 q; rw [un_ne c]; exact hQ.2 q hq
    · refine wz_goto (p9 := 177) rfl rfl ?_
      refine wn_inc (b := 1) (l9 := [.ref 26, .int (nI b.1), .int (nI i), .int (nI (m + 1)), .int (nI ((rk A.P (tr (fun q => A.t (m * 7 + q)) (b.2.1 i) A.P) A.P).1))]) (p9 := 180) rfl rfl rfl (by decide) rfl ?_
      refine wz_goto (p9 := 47) rfl rfl ?_
      have e9 : inS (fun x => (rk A.P x A.P).1) (fun m x => tr (fun q => A.t (m * 7 + q)) x A.P) i (j + 1) m b = inS (fun x => (rk A.P x A.P).1) (fun m x => tr (fun q => A.t (m * 7 + q)) x A.P) i j (m + 1) b := by show inS _ _ i j (m + 1) (adS _ _ b) = _; congr 1; exact if_neg (show ¬ b.2.2 ((rk A.P (tr (fun q => A.t (m * 7 + q)) (b.2.1 i) A.P) A.P).1) = 0 from fun e => h152 (hq2.trans e))
      rw [e9] at kk
      exact l_spIn H j (m + 1) b _ _ _ _ (by omega) hB hi hQ _ kk
