/-! THE LAW: its loop and its start (wip/whole/gen/mkc6.py) -/
theorem and31 (x : Int32) : ∃ c, c < 32 ∧ x &&& nI 31 = nI c := by
  refine ⟨x.toBitVec.toNat % 32, Nat.mod_lt _ (by decide), ?_⟩
  have h : x = nI x.toBitVec.toNat := by
    apply Int32.toBitVec_inj.mp
    show x.toBitVec = BitVec.ofNat 32 x.toBitVec.toNat
    apply BitVec.eq_of_toNat_eq
    rw [BitVec.toNat_ofNat]
    exact (Nat.mod_eq_of_lt x.toBitVec.isLt).symm
  have h2 := q_and x.toBitVec.toNat 31
  rw [← h] at h2
  rw [h2]
  congr 1
  exact Nat.and_two_pow_sub_one_eq_mod x.toBitVec.toNat 5
theorem ts_d : ∀ c, c < 32 → 19 ≤ c → px_ts 173 59 0 18 (nI c) = 1189 := by decide
theorem ts_0 : px_ts 173 59 0 18 (nI 0) = 148 := by decide
theorem ts_1 : px_ts 173 59 0 18 (nI 1) = 235 := by decide
theorem ts_2 : px_ts 173 59 0 18 (nI 2) = 291 := by decide
theorem ts_3 : px_ts 173 59 0 18 (nI 3) = 316 := by decide
theorem ts_4 : px_ts 173 59 0 18 (nI 4) = 329 := by decide
theorem ts_5 : px_ts 173 59 0 18 (nI 5) = 385 := by decide
theorem ts_6 : px_ts 173 59 0 18 (nI 6) = 453 := by decide
theorem ts_7 : px_ts 173 59 0 18 (nI 7) = 521 := by decide
theorem ts_8 : px_ts 173 59 0 18 (nI 8) = 557 := by decide
theorem ts_9 : px_ts 173 59 0 18 (nI 9) = 632 := by decide
theorem ts_10 : px_ts 173 59 0 18 (nI 10) = 688 := by decide
theorem ts_11 : px_ts 173 59 0 18 (nI 11) = 701 := by decide
theorem ts_12 : px_ts 173 59 0 18 (nI 12) = 804 := by decide
theorem ts_13 : px_ts 173 59 0 18 (nI 13) = 879 := by decide
theorem ts_14 : px_ts 173 59 0 18 (nI 14) = 935 := by decide
theorem ts_15 : px_ts 173 59 0 18 (nI 15) = 960 := by decide
theorem ts_16 : px_ts 173 59 0 18 (nI 16) = 1016 := by decide
theorem ts_17 : px_ts 173 59 0 18 (nI 17) = 1072 := by decide
theorem ts_18 : px_ts 173 59 0 18 (nI 18) = 1121 := by decide
theorem l_law {X : Nat × (Nat → Int32)} (hL : X.1 ≤ 2050) : ∀ (j i k z : Nat) (A : CA) (R : RA) (o : Nat → Int64) (v5 v6 : Value), RE A R → 2 ≤ i → i < 10000 → X.1 ≤ i + 4 * j → k + j ≤ 601024 → z + 6 * j ≤ 7293000 → wp X 11 173 (43, [.retAddr 1, .ref 0, .ref 26, .ref 46, .int (nI i), v5, v6], [], WW A R o, k, z) (fun q => ∃ (w1 : px_W) (k1 z1 : Nat), q = (some (some (.int (nI 1))), w1, k1, z1) ∧ k1 ≤ 601024 ∧ z1 ≤ 7293000)
  | j, i, k, z, A, R, o, v5, v6, H, h2, h9i, hj, hk, hz => by
    by_cases c4 : X.1 < 4
    · have hex : nI X.1 - nI 4 < nI i := by
        have h8 : ∀ L, L < 4 → nI L - nI 4 < 0 := by decide
        exact Int32.lt_of_lt_of_le (h8 X.1 c4) ((nI_leI (a := 0) (by decide) (by omega)).mpr (Nat.zero_le _))
      refine wz_iload (p9 := 45) rfl rfl rfl ?_
      refine wz_aload_nS (p9 := 46) rfl rfl rfl ?_
      refine wz_slen (v := Int32.ofNat X.1) (p9 := 47) rfl rfl rfl ?_
      refine wz_iconst (x := nI 4) (p9 := 48) rfl rfl (by decide) ?_
      refine wz_isub (v := ((nI X.1) - (nI 4))) (p9 := 49) rfl rfl rfl ?_
      refine wz_icgt (t9 := 1195) (p9 := 52) rfl rfl rfl (fun _ => ?_) (fun h9 => absurd hex h9)
      refine wz_iconst (x := nI 1) (p9 := 1196) rfl rfl (by decide) ?_
      exact wz_retz rfl rfl (by decide) ⟨_, k, z, rfl, by omega, by omega⟩
    by_cases cx : X.1 - 4 < i
    · skip
      refine wz_iload (p9 := 45) rfl rfl rfl ?_
      refine wz_aload_nS (p9 := 46) rfl rfl rfl ?_
      refine wz_slen (v := Int32.ofNat X.1) (p9 := 47) rfl rfl rfl ?_
      refine wz_iconst (x := nI 4) (p9 := 48) rfl rfl (by decide) ?_
      refine wn_sub (p9 := 49) rfl rfl (by omega) ?_
      refine wn_icgt (t9 := 1195) (p9 := 52) rfl rfl rfl (by omega) (by omega) (fun _ => ?_) (fun h9 => by omega)
      refine wz_iconst (x := nI 1) (p9 := 1196) rfl rfl (by decide) ?_
      exact wz_retz rfl rfl (by decide) ⟨_, k, z, rfl, by omega, by omega⟩
    cases j with
    | zero => exact absurd hj (by omega)
    | succ j =>
      refine wz_iload (p9 := 45) rfl rfl rfl ?_
      refine wz_aload_nS (p9 := 46) rfl rfl rfl ?_
      refine wz_slen (v := Int32.ofNat X.1) (p9 := 47) rfl rfl rfl ?_
      refine wz_iconst (x := nI 4) (p9 := 48) rfl rfl (by decide) ?_
      refine wn_sub (p9 := 49) rfl rfl (by omega) ?_
      refine wn_icgt (t9 := 1195) (p9 := 52) rfl rfl rfl (by omega) (by omega) (fun h9 => by omega) (fun _ => ?_)
      refine wz_aload_nS (p9 := 53) rfl rfl rfl ?_
      refine wz_iload (p9 := 55) rfl rfl rfl ?_
      refine wz_sald (v := X.2 ((nI i)).toNatClampNeg) (p9 := 56) rfl rfl (q_in (show i < X.1 by omega) (by omega)) rfl ?_
      refine wz_bipush (x := nI 31) (p9 := 58) rfl rfl (by decide) ?_
      refine wz_iand (v := ((X.2 ((nI i)).toNatClampNeg) &&& (nI 31))) (p9 := 59) rfl rfl rfl ?_
      have kk : ∀ (A2 : CA) (R2 : RA) (o2 : Nat → Int64) (u5 u6 : Value) (k2 z2 : Nat), RE A2 R2 → k2 ≤ k + 1 → z2 ≤ z + 6 → wp X 11 173 (1189, [.retAddr 1, .ref 0, .ref 26, .ref 46, .int (nI i), u5, u6], [], WW A2 R2 o2, k2, z2) (fun q => ∃ (w1 : px_W) (k1 z1 : Nat), q = (some (some (.int (nI 1))), w1, k1, z1) ∧ k1 ≤ 601024 ∧ z1 ≤ 7293000) := by
        intro A2 R2 o2 u5 u6 k2 z2 H2 hk2 hz2
        refine wn_inc (b := 4) (l9 := [.retAddr 1, .ref 0, .ref 26, .ref 46, .int (nI (i + 4)), u5, u6]) (p9 := 1192) rfl rfl rfl (by decide) rfl ?_
        refine wz_goto (p9 := 43) rfl rfl ?_
        exact l_law hL j (i + 4) k2 z2 A2 R2 o2 u5 u6 H2 (by omega) (by omega) (by omega) (by omega) (by omega)
      obtain ⟨c, hc, ec⟩ := and31 (X.2 (nI i).toNatClampNeg)
      rw [show ((X.2 ((nI i)).toNatClampNeg) &&& (nI 31)) = nI c from ec]
      by_cases c19 : 19 ≤ c
      · exact wz_tsw (t9 := 1189) rfl (ts_d c hc c19) (kk A R o v5 v6 k z H (Nat.le_add_right _ _) (Nat.le_add_right _ _))
      have hcs : c = 0 ∨ c = 1 ∨ c = 2 ∨ c = 3 ∨ c = 4 ∨ c = 5 ∨ c = 6 ∨ c = 7 ∨ c = 8 ∨ c = 9 ∨ c = 10 ∨ c = 11 ∨ c = 12 ∨ c = 13 ∨ c = 14 ∨ c = 15 ∨ c = 16 ∨ c = 17 ∨ c = 18 := by omega
      rcases hcs with rfl | rfl | rfl | rfl | rfl | rfl | rfl | rfl | rfl | rfl | rfl | rfl | rfl | rfl | rfl | rfl | rfl | rfl | rfl
      · exact wz_tsw (t9 := 148) rfl ts_0 (cs_exch H hL (by omega) kk v5 v6)
      · exact wz_tsw (t9 := 235) rfl ts_1 (cs_order H hL (by omega) kk v5 v6)
      · exact wz_tsw (t9 := 291) rfl ts_2 (cs_unit H hL (by omega) kk v5 v6)
      · exact wz_tsw (t9 := 316) rfl ts_3 (cs_read H hL (by omega) kk v5 v6)
      · exact wz_tsw (t9 := 329) rfl ts_4 (cs_length H hL (by omega) kk v5 v6)
      · exact wz_tsw (t9 := 385) rfl ts_5 (cs_row H hL (by omega) kk v5 v6)
      · exact wz_tsw (t9 := 453) rfl ts_6 (cs_image H hL (by omega) kk v5 v6)
      · exact wz_tsw (t9 := 521) rfl ts_7 (cs_act H hL (by omega) kk v5 v6)
      · exact wz_tsw (t9 := 557) rfl ts_8 (cs_swap H hL (by omega) kk v5 v6)
      · exact wz_tsw (t9 := 632) rfl ts_9 (cs_at H hL (by omega) kk v5 v6)
      · exact wz_tsw (t9 := 688) rfl ts_10 (cs_stage H hL (by omega) kk v5 v6)
      · exact wz_tsw (t9 := 701) rfl ts_11 (cs_goal H hL (by omega) kk v5 v6)
      · exact wz_tsw (t9 := 804) rfl ts_12 (cs_use H hL (by omega) kk v5 v6)
      · exact wz_tsw (t9 := 879) rfl ts_13 (cs_run H hL (by omega) kk v5 v6)
      · exact wz_tsw (t9 := 935) rfl ts_14 (cs_did H hL (by omega) kk v5 v6)
      · exact wz_tsw (t9 := 960) rfl ts_15 (cs_states H hL (by omega) kk v5 v6)
      · exact wz_tsw (t9 := 1016) rfl ts_16 (cs_fails H hL (by omega) kk v5 v6)
      · exact wz_tsw (t9 := 1072) rfl ts_17 (cs_setUp H hL (by omega) kk v5 v6)
      · exact wz_tsw (t9 := 1121) rfl ts_18 (cs_text H hL (by omega) kk v5 v6)
def cl (X : Nat × (Nat → Int32)) (k : Nat) : Int32 := if k < X.1 then X.2 k else 0
theorem k_cell {X : Nat × (Nat → Int32)} {d k : Nat} {w : px_W} (hL : X.1 ≤ 2050) (hk : k < 1000) : px_ev X (d + 1) 156 [.retAddr 1, .int (nI k)] w (some (some (.int (cl X k))), w, 0, 0) := by
  by_cases c : k < X.1
  · rw [show cl X k = X.2 k from if_pos c]
    refine wp_ev (d := d + 0) (by decide) rfl rfl (fun h => by cases h) ?_
    show wp X (d + 0) 156 (0, [.retAddr 1, .int (nI k)], [], w, 0, 0) _
    refine wz_iload_n (p9 := 1) rfl rfl rfl ?_
    refine wz_aload_nS (p9 := 2) rfl rfl rfl ?_
    refine wz_slen (v := Int32.ofNat X.1) (p9 := 3) rfl rfl rfl ?_
    refine wn_icge (t9 := 12) (p9 := 6) rfl rfl rfl (by omega) (by omega) (fun h9 => by omega) (fun _ => ?_)
    refine wz_aload_nS (p9 := 7) rfl rfl rfl ?_
    refine wz_iload_n (p9 := 8) rfl rfl rfl ?_
    refine wz_sald (v := (X.2 k)) (p9 := 9) rfl rfl (q_in c (by omega)) (by rw [q_c (show k < 2147483648 by omega)]) ?_
    refine wz_goto (p9 := 13) rfl rfl ?_
    exact wz_reti rfl rfl rfl
  · rw [show cl X k = 0 from if_neg c]
    refine wp_ev (d := d + 0) (by decide) rfl rfl (fun h => by cases h) ?_
    show wp X (d + 0) 156 (0, [.retAddr 1, .int (nI k)], [], w, 0, 0) _
    refine wz_iload_n (p9 := 1) rfl rfl rfl ?_
    refine wz_aload_nS (p9 := 2) rfl rfl rfl ?_
    refine wz_slen (v := Int32.ofNat X.1) (p9 := 3) rfl rfl rfl ?_
    refine wn_icge (t9 := 12) (p9 := 6) rfl rfl rfl (by omega) (by omega) (fun _ => ?_) (fun h9 => by omega)
    refine wz_iconst (x := nI 0) (p9 := 13) rfl rfl (by decide) ?_
    exact wz_reti rfl rfl rfl
theorem law_run {X : Nat × (Nat → Int32)} (hL : X.1 ≤ 2050) : ∃ (w1 : px_W) (k1 z1 : Nat), px_to X 11 173 (0, px_loc 173 [.retAddr 1], [], [], 0, 0) (some (some (.int 1)), w1, k1, z1) ∧ k1 ≤ 601024 ∧ z1 ≤ 7293000 := by
  obtain ⟨P, hp1, hp2, hP, hPd⟩ := cl_x 2 7 (by decide) (by decide) (cl X 0)
  obtain ⟨Mv, hm1, hm2, hM, hMd⟩ := cl_x 1 6 (by decide) (by decide) (cl X 1)
  have hf9 := fa2_le P (by omega)
  have h0 : wp X 11 173 (0, [.retAddr 1, .retAddr 0, .retAddr 0, .retAddr 0, .retAddr 0, .retAddr 0, .retAddr 0], [], [], 0, 0) (fun q => ∃ (w1 : px_W) (k1 z1 : Nat), q = (some (some (.int (nI 1))), w1, k1, z1) ∧ k1 ≤ 601024 ∧ z1 ≤ 7293000) := by
    refine wz_new (n := 0) (ci := 6) (fs := [.null, .null, .null, .null, .null, .null, .null, .int (nI 0), .int (nI 0)]) (p9 := 3) rfl rfl rfl rfl rfl rfl ?_
    show wp X 11 173 (3, [.retAddr 1, .retAddr 0, .retAddr 0, .retAddr 0, .retAddr 0, .retAddr 0, .retAddr 0], [.ref 0], [.inr (.inr (6, [.null, .null, .null, .null, .null, .null, .null, .int (nI 0), .int (nI 0)]))], 0 + 1, 0 + 9) _
    refine wz_dupr (p9 := 4) rfl rfl ?_
    refine wz_aload_nS (p9 := 5) rfl rfl rfl ?_
    refine wz_iconst (x := nI 0) (p9 := 6) rfl rfl (by decide) ?_
    refine wz_c1 (p9 := 9) (w1 := [.inr (.inr (6, [.null, .null, .null, .null, .null, .null, .null, .int (nI 0), .int (nI 0)]))]) (u := .int (cl X 0)) (tz_calS (N := 156) (As := [.retAddr 1, .int (nI 0)]) (rest := [.ref 0, .ref 0]) rfl rfl rfl rfl rfl rfl) rfl ((k_cell (d := 0) hL (by decide)).up (by decide)) ?_
    refine wz_aload_nS (p9 := 10) rfl rfl rfl ?_
    refine wz_iconst (x := nI 1) (p9 := 11) rfl rfl (by decide) ?_
    refine wz_c1 (p9 := 14) (w1 := [.inr (.inr (6, [.null, .null, .null, .null, .null, .null, .null, .int (nI 0), .int (nI 0)]))]) (u := .int (cl X 1)) (tz_calS (N := 156) (As := [.retAddr 1, .int (nI 1)]) (rest := [.int (cl X 0), .ref 0, .ref 0]) rfl rfl rfl rfl rfl rfl) rfl ((k_cell (d := 0) hL (by decide)).up (by decide)) ?_
    refine wz_ck (p9 := 17) (w1 := WC P Mv) (k1 := 0 + 1 + (0 + 1 + 1) + 1 + (0 + 1 + 1 + 1 + 1 + 1) + 1 + (0 + 1 + 1 + 1) + 1 + (0 + 1 + 1 + 1) + 1 + (0 + 1 + 1) + 1 + (0 + 1 + 1 + 1) + 1) (z1 := 0 + 4 + (0 + 42 + 6) + 13 + (0 + 100 + 8 + 8 + 8 + 400) + 5 + (0 + 30 + 1200 + 210) + 5 + (0 + 8 + 8 + 96) + 4 + (0 + (fa2 P) + (((fa2 P) / 32) + 1)) + 5 + (0 + 512 + 512 + 9) + 7) (wa_i (N := 73) (i := 0) (As := [.int (cl X 0), .int (cl X 1)]) (rest := [.ref 0]) rfl rfl rfl rfl rfl rfl rfl) rfl ((k_class (d := 0) hp1 hp2 hP hM).up (by decide)) ?_
    refine wz_astore_n (l9 := [.retAddr 1, .ref 0, .retAddr 0, .retAddr 0, .retAddr 0, .retAddr 0, .retAddr 0]) (p9 := 18) rfl rfl rfl rfl ?_
    refine wz_new (n := 26) (ci := 7) (fs := [.int (nI 0), .int (nI 0), .int (nI 0), .null, .null, .int (nI 0), .null, .int (nI 0), .null, .null, .int (nI 0), .null, .int (nI 0), .null, .null, .null, .int (nI 0), .int (nI 0), .null, .null, .null, .int (nI 0), .null, .null, .null, .null, .null, .null, .int (nI 0), .null]) (p9 := 21) rfl rfl rfl rfl rfl rfl ?_
    show wp X 11 173 (21, [.retAddr 1, .ref 0, .retAddr 0, .retAddr 0, .retAddr 0, .retAddr 0, .retAddr 0], [.ref 26], WC P Mv ++ [.inr (.inr (7, [.int (nI 0), .int (nI 0), .int (nI 0), .null, .null, .int (nI 0), .null, .int (nI 0), .null, .null, .int (nI 0), .null, .int (nI 0), .null, .null, .null, .int (nI 0), .int (nI 0), .null, .null, .null, .int (nI 0), .null, .null, .null, .null, .null, .null, .int (nI 0), .null]))], 0 + 1 + (0 + 1 + (0 + 1 + 1) + 1 + (0 + 1 + 1 + 1 + 1 + 1) + 1 + (0 + 1 + 1 + 1) + 1 + (0 + 1 + 1 + 1) + 1 + (0 + 1 + 1) + 1 + (0 + 1 + 1 + 1) + 1) + 1, 0 + 9 + (0 + 4 + (0 + 42 + 6) + 13 + (0 + 100 + 8 + 8 + 8 + 400) + 5 + (0 + 30 + 1200 + 210) + 5 + (0 + 8 + 8 + 96) + 4 + (0 + (fa2 P) + (((fa2 P) / 32) + 1)) + 5 + (0 + 512 + 512 + 9) + 7) + 30) _
    refine wz_dupr (p9 := 22) rfl rfl ?_
    refine wz_aload_nS (p9 := 23) rfl rfl rfl ?_
    refine wz_iconst (x := nI 0) (p9 := 24) rfl rfl (by decide) ?_
    refine wz_c1 (p9 := 27) (w1 := WC P Mv ++ [.inr (.inr (7, [.int (nI 0), .int (nI 0), .int (nI 0), .null, .null, .int (nI 0), .null, .int (nI 0), .null, .null, .int (nI 0), .null, .int (nI 0), .null, .null, .null, .int (nI 0), .int (nI 0), .null, .null, .null, .int (nI 0), .null, .null, .null, .null, .null, .null, .int (nI 0), .null]))]) (u := .int (cl X 0)) (tz_calS (N := 156) (As := [.retAddr 1, .int (nI 0)]) (rest := [.ref 26, .ref 26]) rfl rfl rfl rfl rfl rfl) rfl ((k_cell (d := 0) hL (by decide)).up (by decide)) ?_
    refine wz_aload_nS (p9 := 28) rfl rfl rfl ?_
    refine wz_iconst (x := nI 1) (p9 := 29) rfl rfl (by decide) ?_
    refine wz_c1 (p9 := 32) (w1 := WC P Mv ++ [.inr (.inr (7, [.int (nI 0), .int (nI 0), .int (nI 0), .null, .null, .int (nI 0), .null, .int (nI 0), .null, .null, .int (nI 0), .null, .int (nI 0), .null, .null, .null, .int (nI 0), .int (nI 0), .null, .null, .null, .int (nI 0), .null, .null, .null, .null, .null, .null, .int (nI 0), .null]))]) (u := .int (cl X 1)) (tz_calS (N := 156) (As := [.retAddr 1, .int (nI 1)]) (rest := [.int (cl X 0), .ref 26, .ref 26]) rfl rfl rfl rfl rfl rfl) rfl ((k_cell (d := 0) hL (by decide)).up (by decide)) ?_
    refine wz_ck (p9 := 35) (w1 := WC P Mv ++ [.inr (.inr (7, [.int (nI 0), .int (nI P), .int (nI Mv), .ref 27, .ref 28, .int (nI 0), .ref 29, .int (nI 0), .ref 30, .ref 31, .int (nI 0), .ref 32, .int (nI 0), .ref 33, .ref 34, .ref 35, .int (nI 0), .int (nI 0), .ref 36, .ref 37, .ref 38, .int (nI 0), .ref 39, .ref 40, .ref 41, .ref 42, .ref 43, .ref 44, .int (nI 0), .ref 45])), .inl (0, 42, fun q => nI ((cz (fun q => q % 7) (fun _ => 0) 42) q)), .inl (0, 7, fun q => nI ((cz (fun q => q) (fun _ => 0) 7) q)), .inl (0, 100, fun q => nI ((fun _ => 0) q)), .inl (0, 30, fun q => nI ((fun _ => 0) q)), .inl (0, 1200, fun q => nI ((fun _ => 0) q)), .inl (0, 400, fun q => nI ((fun _ => 0) q)), .inl (0, 8, fun q => nI ((fun _ => 0) q)), .inl (0, 8, fun q => nI ((fun _ => 0) q)), .inl (0, 8, fun q => nI ((fun _ => 0) q)), .inl (0, 8, fun q => nI ((fun _ => 0) q)), .inl (0, 8, fun q => nI ((fun _ => 0) q)), .inl (0, 96, fun q => nI ((fun _ => 0) q)), .inl (0, 8, fun q => nI ((fun _ => 0) q)), .inl (0, 7, fun q => nI ((fun _ => 0) q)), .inl (0, 7, fun q => nI ((fun _ => 0) q)), .inl (1, 5040, fun q => nI ((fun _ => 0) q)), .inl (0, 5040, fun q => nI ((fun _ => 0) q)), .inl (0, 343, fun q => nI ((fun _ => 0) q)), .inl (0, 8, fun q => nI ((fun _ => 0) q))]) (k1 := 0 + 1 + 1 + 1 + 1 + 1 + 1 + 1 + 1 + 1 + 1 + 1 + 1 + 1 + 1 + 1 + 1 + 1 + 1 + 1) (z1 := 0 + 42 + 7 + 100 + 30 + 1200 + 400 + 8 + 8 + 8 + 8 + 8 + 96 + 8 + 7 + 7 + 5040 + 5040 + 343 + 8) (wa_i (N := 97) (i := 26) (As := [.int (cl X 0), .int (cl X 1)]) (rest := [.ref 26]) rfl rfl rfl rfl rfl rfl rfl) rfl ((k_model (d := 0) hPd hMd).up (by decide)) ?_
    refine wz_astore_n (l9 := [.retAddr 1, .ref 0, .ref 26, .retAddr 0, .retAddr 0, .retAddr 0, .retAddr 0]) (p9 := 36) rfl rfl rfl rfl ?_
    refine wz_iconst (x := nI 1) (p9 := 37) rfl rfl (by decide) ?_
    refine wz_newj (n := 46) (x := 1) (p9 := 39) rfl rfl (by decide) rfl ?_
    show wp X 11 173 (39, [.retAddr 1, .ref 0, .ref 26, .retAddr 0, .retAddr 0, .retAddr 0, .retAddr 0], [.ref 46], WW (A0 P Mv) (R0 P Mv) (fun _ => 0), 0 + 1 + (0 + 1 + (0 + 1 + 1) + 1 + (0 + 1 + 1 + 1 + 1 + 1) + 1 + (0 + 1 + 1 + 1) + 1 + (0 + 1 + 1 + 1) + 1 + (0 + 1 + 1) + 1 + (0 + 1 + 1 + 1) + 1) + 1 + (0 + 1 + 1 + 1 + 1 + 1 + 1 + 1 + 1 + 1 + 1 + 1 + 1 + 1 + 1 + 1 + 1 + 1 + 1 + 1) + 1, 0 + 9 + (0 + 4 + (0 + 42 + 6) + 13 + (0 + 100 + 8 + 8 + 8 + 400) + 5 + (0 + 30 + 1200 + 210) + 5 + (0 + 8 + 8 + 96) + 4 + (0 + (fa2 P) + (((fa2 P) / 32) + 1)) + 5 + (0 + 512 + 512 + 9) + 7) + 30 + (0 + 42 + 7 + 100 + 30 + 1200 + 400 + 8 + 8 + 8 + 8 + 8 + 96 + 8 + 7 + 7 + 5040 + 5040 + 343 + 8) + 1) _
    refine wz_astore_n (l9 := [.retAddr 1, .ref 0, .ref 26, .ref 46, .retAddr 0, .retAddr 0, .retAddr 0]) (p9 := 40) rfl rfl rfl rfl ?_
    refine wz_iconst (x := nI 2) (p9 := 41) rfl rfl (by decide) ?_
    refine wz_istore (l9 := [.retAddr 1, .ref 0, .ref 26, .ref 46, .int (nI 2), .retAddr 0, .retAddr 0]) (p9 := 43) rfl rfl rfl rfl ?_
    exact l_law hL 513 2 _ _ (A0 P Mv) (R0 P Mv) (fun _ => 0) _ _ (RE_0 hp1 hp2 hm1 hm2) (by decide) (by decide) (by omega) (by omega) (by omega)
  obtain ⟨r9, hr, w1, k1, z1, rfl, hk, hz⟩ := h0
  exact ⟨w1, k1, z1, hr, hk, hz⟩
