theorem px_rg_at {a n M : Nat} (h : px_rg a n = true) (h1 : a ≤ M) (h2 : M < a + n) : px_all M = true := by
  have h3 := List.all_eq_true.mp h (M - a) (List.mem_range.mpr (by omega))
  rwa [show a + (M - a) = M by omega] at h3
theorem px_rp_at {M a n pc : Nat} {I : Instr} (h : px_rp M a n = true) (h1 : a ≤ pc) (h2 : pc < a + n) (hI : px_cd M pc = some I) : px_chk M pc I = true := by
  have h3 := List.all_eq_true.mp h (pc - a) (List.mem_range.mpr (by omega))
  try dsimp only at h3
  rw [show a + (pc - a) = pc by omega, hI] at h3
  exact h3
theorem px_alls {M : Nat} (h : M < 173) : px_all M = true := by
  by_cases h0 : M < 16
  · exact px_rg_at px_k0 (by omega) (by omega)
  by_cases h1 : M < 31
  · exact px_rg_at px_k1 (by omega) (by omega)
  by_cases h2 : M < 49
  · exact px_rg_at px_k2 (by omega) (by omega)
  by_cases h3 : M < 63
  · exact px_rg_at px_k3 (by omega) (by omega)
  by_cases h4 : M < 74
  · exact px_rg_at px_k4 (by omega) (by omega)
  by_cases h5 : M < 94
  · exact px_rg_at px_k5 (by omega) (by omega)
  by_cases h6 : M < 104
  · exact px_rg_at px_k6 (by omega) (by omega)
  by_cases h7 : M < 110
  · exact px_rg_at px_k7 (by omega) (by omega)
  by_cases h8 : M < 116
  · exact px_rg_at px_k8 (by omega) (by omega)
  by_cases h9 : M < 129
  · exact px_rg_at px_k9 (by omega) (by omega)
  by_cases h10 : M < 139
  · exact px_rg_at px_k10 (by omega) (by omega)
  by_cases h11 : M < 145
  · exact px_rg_at px_k11 (by omega) (by omega)
  by_cases h12 : M < 160
  · exact px_rg_at px_k12 (by omega) (by omega)
  by_cases h13 : M < 173
  · exact px_rg_at px_k13 (by omega) (by omega)
  omega
theorem px_allw {pc : Nat} {I : Instr} (h : pc < 1197) (hI : px_cd 173 pc = some I) : px_chk 173 pc I = true := by
  by_cases h0 : pc < 100
  · exact px_rp_at px_q0 (by omega) (by omega) hI
  by_cases h1 : pc < 200
  · exact px_rp_at px_q1 (by omega) (by omega) hI
  by_cases h2 : pc < 300
  · exact px_rp_at px_q2 (by omega) (by omega) hI
  by_cases h3 : pc < 400
  · exact px_rp_at px_q3 (by omega) (by omega) hI
  by_cases h4 : pc < 500
  · exact px_rp_at px_q4 (by omega) (by omega) hI
  by_cases h5 : pc < 600
  · exact px_rp_at px_q5 (by omega) (by omega) hI
  by_cases h6 : pc < 700
  · exact px_rp_at px_q6 (by omega) (by omega) hI
  by_cases h7 : pc < 800
  · exact px_rp_at px_q7 (by omega) (by omega) hI
  by_cases h8 : pc < 900
  · exact px_rp_at px_q8 (by omega) (by omega) hI
  by_cases h9 : pc < 1000
  · exact px_rp_at px_q9 (by omega) (by omega) hI
  by_cases h10 : pc < 1100
  · exact px_rp_at px_q10 (by omega) (by omega) hI
  by_cases h11 : pc < 1197
  · exact px_rp_at px_q11 (by omega) (by omega) hI
  omega
theorem px_cdN {M pc : Nat} {I : Instr} (h : px_cd M pc = some I) : M < px_n ∧ pc < px_bl M := by
  unfold px_cd at h
  cases hb : (Nat.blt M px_n && Nat.blt pc (px_bl M)) with
  | false => rw [hb] at h; cases h
  | true =>
    rw [Bool.and_eq_true] at hb
    exact ⟨Nat.le_of_ble_eq_true hb.1, Nat.le_of_ble_eq_true hb.2⟩
theorem px_chkd {M pc : Nat} {I : Instr} (h : px_cd M pc = some I) : px_chk M pc I = true := by
  obtain ⟨h1, h2⟩ := px_cdN h
  by_cases h9 : M < 173
  · have h3 := List.all_eq_true.mp (px_alls h9) pc (List.mem_range.mpr h2)
    rw [h] at h3
    exact h3
  · have h4 : M = 173 := by have h1 : M < 173 + 1 := h1; omega
    subst h4
    exact px_allw h2 h
theorem px_swd {M pc : Nat} {I : Instr} (h : px_cd M pc = some I) : ∃ n, decode (px_b M) pc = .ok (I, n) ∧ (px_len I = 0 ∨ n = px_len I) := by
  have h1 := px_chkd h
  unfold px_chk at h1
  rw [Bool.and_eq_true, Bool.and_eq_true] at h1
  obtain ⟨⟨h2, -⟩, -⟩ := h1
  split at h2
  · rename_i J n hd
    simp only [Bool.and_eq_true, Bool.or_eq_true, decide_eq_true_eq] at h2
    obtain ⟨rfl, h3⟩ := h2
    exact ⟨n, hd, h3.elim (fun q => Or.inl (Nat.eq_of_beq_eq_true q)) (fun q => Or.inr (Nat.eq_of_beq_eq_true q))⟩
  · cases h2
theorem px_dec {M pc : Nat} {I : Instr} (h : px_cd M pc = some I) (h0 : px_len I ≠ 0) : decode (px_b M) pc = .ok (I, px_len I) := by
  obtain ⟨n, h1, h2⟩ := px_swd h
  rcases h2 with h2 | rfl
  · exact absurd h2 h0
  · exact h1
theorem px_tgd {M pc : Nat} {I : Instr} {q : Int} (h : px_cd M pc = some I) (ho : px_off I = some q) : (pc : Int) + q = (px_tg M pc : Int) := by
  have h1 := px_chkd h
  unfold px_chk at h1
  rw [Bool.and_eq_true, Bool.and_eq_true, ho] at h1
  exact of_decide_eq_true h1.1.2
theorem px_swcd {M pc : Nat} {I : Instr} (h : px_cd M pc = some I) : px_swc M pc I = true := by
  have h1 := px_chkd h
  unfold px_chk at h1
  rw [Bool.and_eq_true, Bool.and_eq_true] at h1
  exact h1.2
theorem px_tso {M pc : Nat} {d lo hi : Int} {offs : Array Int} {x : Int32} (h : px_cd M pc = some (.tableswitch d lo hi offs)) (h1 : x.toInt < lo ∨ hi < x.toInt) : (pc : Int) + d = (px_ts M pc lo hi x : Int) := by
  have h2 := px_swcd h
  simp only [px_swc, Bool.and_eq_true, decide_eq_true_eq] at h2
  have h3 : (decide (x.toInt < lo) || decide (hi < x.toInt)) = true := by simpa using h1
  unfold px_ts
  rw [h3]
  exact h2.1.1
theorem px_tsi {M pc : Nat} {d lo hi : Int} {offs : Array Int} {x : Int32} (h : px_cd M pc = some (.tableswitch d lo hi offs)) (h1 : ¬ x.toInt < lo) (h2 : ¬ hi < x.toInt) : ∃ q, offs[(x.toInt - lo).toNat]? = some q ∧ (pc : Int) + q = (px_ts M pc lo hi x : Int) := by
  have h3 := px_swcd h
  simp only [px_swc, Bool.and_eq_true, decide_eq_true_eq] at h3
  obtain ⟨⟨-, h4⟩, h5⟩ := h3
  have h6 : (decide (x.toInt < lo) || decide (hi < x.toInt)) = false := by simp; omega
  have hlt : (x.toInt - lo).toNat < offs.size := by omega
  refine ⟨offs[(x.toInt - lo).toNat], Array.getElem?_eq_getElem hlt, ?_⟩
  unfold px_ts
  rw [h6]
  have h7 := congrArg (fun l => l[(x.toInt - lo).toNat]?) h4
  simp only [List.getElem?_map] at h7
  rw [Array.getElem?_toList, Array.getElem?_eq_getElem hlt] at h7
  cases h8 : px_tl[(x.toInt - lo).toNat]? with
  | none => rw [h8] at h7; cases h7
  | some t =>
    rw [h8] at h7
    have h9 := Option.some.inj h7
    show _ = ((px_tl.getD (x.toInt - lo).toNat 0 : Nat) : Int)
    rw [List.getD_eq_getElem?_getD, h8]
    exact h9
theorem px_lsd {M pc : Nat} {d : Int} {ps : Array (Int × Int)} {x : Int32} (h : px_cd M pc = some (.lookupswitch d ps)) : (ps.toList.zip (ps.toList.drop 1)).all (fun (a, next) => a.1 < next.1) = true ∧ (pc : Int) + Op.lookupswitch.offset ps.toList d x.toInt = (px_ls x : Int) := by
  have h2 := px_swcd h
  simp only [px_swc, Bool.and_eq_true, decide_eq_true_eq] at h2
  obtain ⟨⟨h3, rfl⟩, h4⟩ := h2
  have h3 := Nat.eq_of_beq_eq_true h3
  subst h3
  rw [h4]
  refine ⟨by decide, ?_⟩
  unfold px_ls
  by_cases h10 : x = 39
  · subst h10; rfl
  rw [decide_eq_false h10, lv_osw h10 (by decide)]
  dsimp only [cond_false]
  by_cases h11 : x = 40
  · subst h11; rfl
  rw [decide_eq_false h11, lv_osw h11 (by decide)]
  dsimp only [cond_false]
  by_cases h12 : x = 41
  · subst h12; rfl
  rw [decide_eq_false h12, lv_osw h12 (by decide)]
  dsimp only [cond_false]
  by_cases h13 : x = 44
  · subst h13; rfl
  rw [decide_eq_false h13, lv_osw h13 (by decide)]
  dsimp only [cond_false]
  by_cases h14 : x = 91
  · subst h14; rfl
  rw [decide_eq_false h14, lv_osw h14 (by decide)]
  dsimp only [cond_false]
  by_cases h15 : x = 93
  · subst h15; rfl
  rw [decide_eq_false h15, lv_osw h15 (by decide)]
  dsimp only [cond_false]
  rfl
