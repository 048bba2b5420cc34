/-! TEXTS READ BY CLASS AND REFERENCE, SIDE BY SIDE: what is the same (wip/whole/gen/mka6.py) -/
/-- the same rows, unless there are too many -/
def ev (b c : Nat × (Nat → Nat) × Nat) : Prop := b.1 = c.1 ∧ b.2.2 = c.2.2 ∧ (b.2.2 = 0 → ∀ q, q < b.1 → b.2.1 q = c.2.1 q)
/-- too many only behind a full buffer -/
def OV (b : Nat × (Nat → Nat) × Nat) : Prop := b.1 ≤ 400 ∧ b.2.2 < 2 ∧ (b.2.2 = 1 → b.1 = 400)
theorem OV_pu {x : Nat} {b : Nat × (Nat → Nat) × Nat} (h : OV b) : OV (pu x b) := by
  obtain ⟨h1, h2, h3⟩ := h
  unfold pu
  split
  · exact ⟨by show b.1 + 1 ≤ 400; omega, h2, fun e => by have : b.2.2 = 1 := e; have := h3 this; omega⟩
  · exact ⟨h1, show 1 < 2 by decide, fun _ => by show b.1 = 400; omega⟩
theorem ev_pu {x y : Nat} {b c : Nat × (Nat → Nat) × Nat} (h : ev b c) (hb : OV b) (hx : b.2.2 = 0 → x = y) : ev (pu x b) (pu y c) := by
  obtain ⟨h1, h2, h3⟩ := h
  obtain ⟨g1, g2, g3⟩ := hb
  unfold pu
  by_cases hq : b.1 < 400
  · rw [if_pos hq, if_pos (by omega)]
    have h0 : b.2.2 = 0 := by
      by_cases e : b.2.2 = 1
      · have := g3 e; omega
      · omega
    refine ⟨by show b.1 + 1 = c.1 + 1; omega, h2, fun _ q hq2 => ?_⟩
    show un b.2.1 b.1 x q = un c.2.1 c.1 y q
    rw [← h1, hx h0]
    by_cases e : q = b.1
    · rw [e, un_at, un_at]
    · rw [un_ne e, un_ne e]
      exact h3 h0 q (by have : q < b.1 + 1 := hq2; omega)
  · rw [if_neg hq, if_neg (by omega)]
    exact ⟨h1, rfl, fun e => by cases e⟩
theorem OV_cp : ∀ (j f : Nat) (b : Nat × (Nat → Nat) × Nat), OV b → OV (cp f j b)
  | 0, _, _, h => h
  | j + 1, f, b, h => OV_cp j (f + 1) _ (OV_pu h)
theorem OV_pt {od : Nat → Nat} {f : Nat} : ∀ (j : Nat) (b : Nat × (Nat → Nat) × Nat), OV b → OV (pt od f j b)
  | 0, _, h => h
  | j + 1, b, h => OV_pt j _ (OV_pu h)
theorem OV_rp {f e : Nat} : ∀ (j : Nat) (b : Nat × (Nat → Nat) × Nat), OV b → OV (rp f e j b)
  | 0, _, h => h
  | j + 1, b, h => OV_rp j _ (OV_cp _ _ _ h)
theorem ev_cp : ∀ (j f : Nat) (b c : Nat × (Nat → Nat) × Nat), ev b c → OV b → f + j ≤ b.1 → ev (cp f j b) (cp f j c)
  | 0, _, _, _, h, _, _ => h
  | j + 1, f, b, c, h, hb, hj => ev_cp j (f + 1) _ _ (ev_pu h hb (fun e => h.2.2 e f (by omega))) (OV_pu hb) (by have := pu_le (b := b) (x := b.2.1 f); omega)
theorem ev_pt {od : Nat → Nat} {f : Nat} : ∀ (j : Nat) (b c : Nat × (Nat → Nat) × Nat), ev b c → OV b → f + j ≤ b.1 → ev (pt od f j b) (pt od f j c)
  | 0, _, _, h, _, _ => h
  | j + 1, b, c, h, hb, hj => ev_pt j _ _ (ev_pu h hb (fun e => by rw [h.2.2 e (f + j) (by omega)])) (OV_pu hb) (by have := pu_le (b := b) (x := tw od (b.2.1 (f + j))); omega)
theorem ev_rp {f e : Nat} (hf : f ≤ e) : ∀ (j : Nat) (b c : Nat × (Nat → Nat) × Nat), ev b c → OV b → e ≤ b.1 → ev (rp f e j b) (rp f e j c)
  | 0, _, _, h, _, _ => h
  | j + 1, b, c, h, hb, he => ev_rp hf j _ _ (ev_cp _ _ _ _ h hb (by omega)) (OV_cp _ _ _ hb) (Nat.le_trans he (cp_ge _ _ _))
theorem rp_nil {f : Nat} : ∀ (j : Nat) (b : Nat × (Nat → Nat) × Nat), rp f f j b = b
  | 0, _ => rfl
  | j + 1, b => by
    show rp f f j (cp f (f - f) b) = b
    rw [Nat.sub_self]
    exact rp_nil j b
def SI (C : CA) (R : RA) (b : Nat × (Nat → Nat) × Nat) : Prop := (NV C) ∧ (R.P = C.P) ∧ (R.Mv = C.Mv) ∧ (R.t = C.t) ∧ (R.sz = C.bc) ∧ (R.tx = C.tx) ∧ (C.bc ≤ 100) ∧ (∀ q, C.tx q < 256) ∧ (R.dp = C.dp) ∧ (OV (C.rc, C.bu, C.ov)) ∧ (ev (C.rc, C.bu, C.ov) b) ∧ (∀ i, i < C.dp → R.fr i = C.ks i ∧ ((C.kd i = 40 ∧ R.ki i = 0) ∨ (C.kd i = 91 ∧ R.ki i = 1) ∨ (C.kd i = 44 ∧ R.ki i = 2 ∧ R.mi i = C.km i)))
theorem SI.nv {C : CA} {R : RA} {b : Nat × (Nat → Nat) × Nat} (h : SI C R b) : NV C := h.1
theorem SI.p {C : CA} {R : RA} {b : Nat × (Nat → Nat) × Nat} (h : SI C R b) : R.P = C.P := h.2.1
theorem SI.m {C : CA} {R : RA} {b : Nat × (Nat → Nat) × Nat} (h : SI C R b) : R.Mv = C.Mv := h.2.2.1
theorem SI.t {C : CA} {R : RA} {b : Nat × (Nat → Nat) × Nat} (h : SI C R b) : R.t = C.t := h.2.2.2.1
theorem SI.sz {C : CA} {R : RA} {b : Nat × (Nat → Nat) × Nat} (h : SI C R b) : R.sz = C.bc := h.2.2.2.2.1
theorem SI.tx {C : CA} {R : RA} {b : Nat × (Nat → Nat) × Nat} (h : SI C R b) : R.tx = C.tx := h.2.2.2.2.2.1
theorem SI.bc {C : CA} {R : RA} {b : Nat × (Nat → Nat) × Nat} (h : SI C R b) : C.bc ≤ 100 := h.2.2.2.2.2.2.1
theorem SI.t8 {C : CA} {R : RA} {b : Nat × (Nat → Nat) × Nat} (h : SI C R b) : ∀ q, C.tx q < 256 := h.2.2.2.2.2.2.2.1
theorem SI.dp {C : CA} {R : RA} {b : Nat × (Nat → Nat) × Nat} (h : SI C R b) : R.dp = C.dp := h.2.2.2.2.2.2.2.2.1
theorem SI.ov {C : CA} {R : RA} {b : Nat × (Nat → Nat) × Nat} (h : SI C R b) : OV (C.rc, C.bu, C.ov) := h.2.2.2.2.2.2.2.2.2.1
theorem SI.eq {C : CA} {R : RA} {b : Nat × (Nat → Nat) × Nat} (h : SI C R b) : ev (C.rc, C.bu, C.ov) b := h.2.2.2.2.2.2.2.2.2.2.1
theorem SI.kd {C : CA} {R : RA} {b : Nat × (Nat → Nat) × Nat} (h : SI C R b) : ∀ i, i < C.dp → R.fr i = C.ks i ∧ ((C.kd i = 40 ∧ R.ki i = 0) ∨ (C.kd i = 91 ∧ R.ki i = 1) ∨ (C.kd i = 44 ∧ R.ki i = 2 ∧ R.mi i = C.km i)) := h.2.2.2.2.2.2.2.2.2.2.2
theorem SI.T {C : CA} {R : RA} {b : Nat × (Nat → Nat) × Nat} (h : SI C R b) : TV R.P R.Mv R.t C.od := by
  rw [h.p, h.m, h.t]
  exact h.nv.1
theorem SI.BO {C : CA} {R : RA} {b : Nat × (Nat → Nat) × Nat} (h : SI C R b) : BO C.od b := by
  have h1 := h.eq
  have h2 := h.ov
  have h3 := h.nv.2.1
  obtain ⟨e1, e2, e3⟩ := h1
  obtain ⟨o1, o2, o3⟩ := h2
  refine ⟨by rw [← e1]; exact o1, by rw [← e2]; exact o2, fun e => by rw [← e1]; exact o3 (by rw [e2]; exact e), fun e i hi => ?_⟩
  have h0 : C.ov = 0 := by have : C.ov = b.2.2 := e2; omega
  have hi2 : i < C.rc := by have : C.rc = b.1 := e1; omega
  rw [← e3 h0 i hi2]
  exact h3.2.1 i hi2
theorem rt_step {C C1 : CA} {i n : Nat} (h : i < n) (e : nx C (C.tx i) = some C1) : rt (n - i) i C = rt (n - (i + 1)) (i + 1) C1 := by
  rw [show n - i = (n - (i + 1)) + 1 by omega]
  show (match nx C (C.tx i) with | none => (i, C) | some A1 => rt (n - (i + 1)) (i + 1) A1) = _
  rw [e]
/-- the part that was read last: a letter's row, or anything -/
def lpart (C : CA) : Prop := C.sn = 2 ∧ C.ps ≤ C.rc ∧ (C.pl = 1 → (C.rc = C.ps + 1 ∧ C.ov = 0 ∧ C.bu C.ps % 16 = 1 % C.od (C.bu C.ps / 16)) ∨ (C.rc = C.ps ∧ C.ov = 1))
/-- the digit behind a part -/
theorem sim_dig {C : CA} {R : RA} {b : Nat × (Nat → Nat) × Nat} {p : Nat} (h : SI C R b) (hl : lpart C) (hp : p ≤ C.bc) : ∃ (C2 : CA) (i x l : Nat),
    ((p < C.bc ∧ 50 ≤ C.tx p ∧ C.tx p ≤ 57 ∧ i = p + 1 ∧ x = C.tx p - 48) ∨ (¬ (p < C.bc ∧ 50 ≤ C.tx p ∧ C.tx p ≤ 57) ∧ i = p ∧ x = 1)) ∧
    ((C.pl = 1 ∧ b.1 = C.ps + 1 ∧ b.2.2 = 0 ∧ l = 1) ∨ (¬ (C.pl = 1 ∧ b.1 = C.ps + 1) ∧ l = 0)) ∧
    p ≤ i ∧ SI C2 R (tl1 C.od C.ps x l b) ∧ C2.ps = C.ps ∧ C2.sn ≠ 0 ∧ C2.ps ≤ C2.rc ∧ sR C C2 ∧ i ≤ C.bc ∧ rt (C.bc - p) p C = rt (C.bc - i) i C2 ∧ (C2.sn = 2 → i < C.bc → ¬ (50 ≤ C.tx i ∧ C.tx i ≤ 57)) := by
  obtain ⟨hsn, hps, hpl⟩ := hl
  have hN := h.nv
  have hbv := hN.2.1
  have hpl2 : C.pl < 2 := hN.2.2.2.2.2.2.1
  have heq := h.eq
  have e1 : C.rc = b.1 := heq.1
  have e2 : C.ov = b.2.2 := heq.2.1
  by_cases hd : p < C.bc ∧ 50 ≤ C.tx p ∧ C.tx p ≤ 57
  · obtain ⟨d1, d2, d3⟩ := hd
    by_cases hp1 : C.pl = 1
    · have en : nx C (C.tx p) = some (CA.s_bu (CA.s_sn (CA.s_ov (CA.s_rc C (rlt C.od C.ps (C.tx p - 48) (C.rc, C.bu, C.ov)).1) (rlt C.od C.ps (C.tx p - 48) (C.rc, C.bu, C.ov)).2.2) 1) (rlt C.od C.ps (C.tx p - 48) (C.rc, C.bu, C.ov)).2.1) := by
        unfold nx
        rw [if_neg (by omega), if_neg (by omega), if_neg (by omega), if_neg (by omega), if_neg (by omega), if_pos ⟨d2, d3⟩, if_pos hsn, if_pos hp1]
      obtain ⟨N1, s1⟩ := NV_nx (h.t8 p) hN en
      rcases hpl hp1 with ⟨q1, q2, q3⟩ | ⟨q1, q2⟩
      · have er : rlt C.od C.ps (C.tx p - 48) (C.rc, C.bu, C.ov) = (C.rc, un C.bu C.ps (C.bu C.ps / 16 * 16 + (C.tx p - 48) % C.od (C.bu C.ps / 16)), C.ov) := if_pos (by show C.ps < C.rc; omega)
        rw [er] at en N1 s1
        have hbp : C.bu C.ps = b.2.1 C.ps := heq.2.2 q2 C.ps (by show C.ps < C.rc; omega)
        refine ⟨_, p + 1, C.tx p - 48, 1, Or.inl ⟨d1, d2, d3, rfl, rfl⟩, Or.inl ⟨hp1, by omega, by omega, rfl⟩, Nat.le_succ p, ⟨N1, h.p, h.m, h.t, h.sz, h.tx, h.bc, h.t8, h.dp, h.ov, ?_, h.kd⟩, rfl, (show 1 ≠ 0 by decide), hps, s1, by omega, rt_step d1 en, fun q => by cases q⟩
        rw [show tl1 C.od C.ps (C.tx p - 48) 1 b = (b.1, un b.2.1 C.ps (b.2.1 C.ps / 16 * 16 + (C.tx p - 48) % C.od (b.2.1 C.ps / 16)), b.2.2) from if_pos rfl]
        refine ⟨e1, e2, fun _ q hq => ?_⟩
        show un C.bu C.ps _ q = un b.2.1 C.ps _ q
        rw [hbp]
        by_cases e : q = C.ps
        · rw [e, un_at, un_at]
        · rw [un_ne e, un_ne e]; exact heq.2.2 q2 q hq
      · have er : rlt C.od C.ps (C.tx p - 48) (C.rc, C.bu, C.ov) = (C.rc, C.bu, C.ov) := if_neg (by show ¬ C.ps < C.rc; omega)
        rw [er] at en N1 s1
        refine ⟨_, p + 1, C.tx p - 48, 0, Or.inl ⟨d1, d2, d3, rfl, rfl⟩, Or.inr ⟨by omega, rfl⟩, Nat.le_succ p, ⟨N1, h.p, h.m, h.t, h.sz, h.tx, h.bc, h.t8, h.dp, h.ov, ?_, h.kd⟩, rfl, (show 1 ≠ 0 by decide), hps, s1, by omega, rt_step d1 en, fun q => by cases q⟩
        rw [show tl1 C.od C.ps (C.tx p - 48) 0 b = rp C.ps b.1 (C.tx p - 48 - 1) b from if_neg (by decide), show b.1 = C.ps by omega, rp_nil]
        exact heq
    · have en : nx C (C.tx p) = some (CA.s_bu (CA.s_sn (CA.s_ov (CA.s_rc C (rp C.ps C.rc (C.tx p - 48 - 1) (C.rc, C.bu, C.ov)).1) (rp C.ps C.rc (C.tx p - 48 - 1) (C.rc, C.bu, C.ov)).2.2) 1) (rp C.ps C.rc (C.tx p - 48 - 1) (C.rc, C.bu, C.ov)).2.1) := by
        unfold nx
        rw [if_neg (by omega), if_neg (by omega), if_neg (by omega), if_neg (by omega), if_neg (by omega), if_pos ⟨d2, d3⟩, if_pos hsn, if_neg hp1]
      obtain ⟨N1, s1⟩ := NV_nx (h.t8 p) hN en
      refine ⟨_, p + 1, C.tx p - 48, 0, Or.inl ⟨d1, d2, d3, rfl, rfl⟩, Or.inr ⟨fun q => hp1 q.1, rfl⟩, Nat.le_succ p, ⟨N1, h.p, h.m, h.t, h.sz, h.tx, h.bc, h.t8, h.dp, OV_rp _ _ h.ov, ?_, h.kd⟩, rfl, (show 1 ≠ 0 by decide), Nat.le_trans hps (rp_ge (f := C.ps) (e := C.rc) (C.tx p - 48 - 1) (C.rc, C.bu, C.ov)), s1, by omega, rt_step d1 en, fun q => by cases q⟩
      rw [show tl1 C.od C.ps (C.tx p - 48) 0 b = rp C.ps b.1 (C.tx p - 48 - 1) b from if_neg (by decide), ← e1]
      exact ev_rp hps _ _ _ heq h.ov (Nat.le_refl _)
  · by_cases hp1 : C.pl = 1 ∧ b.1 = C.ps + 1
    · rcases hpl hp1.1 with ⟨q1, q2, q3⟩ | ⟨q1, q2⟩
      · have hbp : C.bu C.ps = b.2.1 C.ps := heq.2.2 q2 C.ps (by show C.ps < C.rc; omega)
        refine ⟨C, p, 1, 1, Or.inr ⟨hd, rfl, rfl⟩, Or.inl ⟨hp1.1, hp1.2, by omega, rfl⟩, Nat.le_refl p, ⟨hN, h.p, h.m, h.t, h.sz, h.tx, h.bc, h.t8, h.dp, h.ov, ?_, h.kd⟩, rfl, by omega, hps, sR.rf, hp, rfl, fun _ q r => hd ⟨q, r⟩⟩
        rw [show tl1 C.od C.ps 1 1 b = (b.1, un b.2.1 C.ps (b.2.1 C.ps / 16 * 16 + 1 % C.od (b.2.1 C.ps / 16)), b.2.2) from if_pos rfl]
        rw [hbp] at q3
        rw [← q3, show b.2.1 C.ps / 16 * 16 + b.2.1 C.ps % 16 = b.2.1 C.ps by omega, un_self]
        exact heq
      · omega
    · refine ⟨C, p, 1, 0, Or.inr ⟨hd, rfl, rfl⟩, Or.inr ⟨hp1, rfl⟩, Nat.le_refl p, ⟨hN, h.p, h.m, h.t, h.sz, h.tx, h.bc, h.t8, h.dp, h.ov, ?_, h.kd⟩, rfl, by omega, hps, sR.rf, hp, rfl, fun _ q r => hd ⟨q, r⟩⟩
      exact heq
/-- the sign that turns a part round -/
theorem sim_quo {C : CA} {R : RA} {b : Nat × (Nat → Nat) × Nat} {i : Nat} (h : SI C R b) (h0 : C.sn ≠ 0) (hps : C.ps ≤ C.rc) (hi : i ≤ C.bc) (hd : C.sn = 2 → i < C.bc → ¬ (50 ≤ C.tx i ∧ C.tx i ≤ 57)) : ∃ (C3 : CA) (ρ : Nat),
    ((i < C.bc ∧ C.tx i = 39 ∧ ρ = 1) ∨ (¬ (i < C.bc ∧ C.tx i = 39) ∧ ρ = 0)) ∧
    SI C3 R (tl2 C.od C.ps ρ b) ∧ sR C C3 ∧ i + ρ ≤ C.bc ∧ rt (C.bc - i) i C = rt (C.bc - (i + ρ)) (i + ρ) C3 ∧ (i + ρ < C.bc → (C3.sn = 2 → ¬ (50 ≤ C.tx (i + ρ) ∧ C.tx (i + ρ) ≤ 57)) ∧ (C3.sn ≠ 0 → C.tx (i + ρ) ≠ 39)) := by
  have hN := h.nv
  have heq := h.eq
  have e1 : C.rc = b.1 := heq.1
  have e2 : C.ov = b.2.2 := heq.2.1
  by_cases hq : i < C.bc ∧ C.tx i = 39
  · obtain ⟨q1, q2⟩ := hq
    have en : nx C (C.tx i) = some (CA.s_bu (CA.s_sn C 0) (rv C.od C.ps C.rc C.bu)) := by
      unfold nx
      rw [if_neg (by omega), if_neg (by omega), if_neg (by omega), if_neg (by omega), if_pos q2, if_pos h0]
    obtain ⟨N1, s1⟩ := NV_nx (h.t8 i) hN en
    refine ⟨_, 1, Or.inl ⟨q1, q2, rfl⟩, ⟨N1, h.p, h.m, h.t, h.sz, h.tx, h.bc, h.t8, h.dp, h.ov, ?_, h.kd⟩, s1, by omega, rt_step q1 en, fun _ => ⟨fun q => (by cases q), fun q => absurd rfl q⟩⟩
    by_cases ht : b.2.2 = 0
    · rw [show tl2 C.od C.ps 1 b = (b.1, rv C.od C.ps b.1 b.2.1, b.2.2) from if_pos ⟨rfl, ht⟩]
      refine ⟨e1, e2, fun q9 q hq9 => ?_⟩
      show rv C.od C.ps C.rc C.bu q = rv C.od C.ps b.1 b.2.1 q
      rw [← e1]
      have hq8 : q < C.rc := hq9
      have e3 : ∀ q, q < C.rc → C.bu q = b.2.1 q := heq.2.2 (show C.ov = 0 by omega)
      unfold rv
      by_cases hr : C.ps ≤ q ∧ q < C.rc
      · rw [if_pos hr, if_pos hr, e3 _ (by omega)]
      · rw [if_neg hr, if_neg hr]; exact e3 q hq8
    · rw [show tl2 C.od C.ps 1 b = b from if_neg (fun q => ht q.2)]
      exact ⟨e1, e2, fun q => absurd (e2 ▸ q) ht⟩
  · refine ⟨C, 0, Or.inr ⟨hq, rfl⟩, ?_, sR.rf, hi, rfl, fun q9 => ⟨fun q => hd q q9, fun _ q => hq ⟨q9, q⟩⟩⟩
    rw [show tl2 C.od C.ps 0 b = b from if_neg (fun q => absurd q.1 (by decide))]
    exact h
