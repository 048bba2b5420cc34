/-! THE CLASS: all states found (wip/whole/gen/mk94.py) -/
theorem l_fIn {X : Nat × (Nat → Int32)} {d : Nat} {A : CA} {R : RA} {o : Nat → Int64} (T : TV A.P A.Mv A.t A.od) (hl_fo : A.fl ≤ 5040) (hsl : A.sl = A.fl / 32 + 1) {ok : Nat → Prop} (H1 : ∀ x, ok x → x < 2097152 ∧ (∀ p, p < A.P → dg x p < 7) ∧ (rk A.P x A.P).1 < A.fl) (H2 : ∀ x m, ok x → m < A.Mv → ok (tr (fun q => A.t (m * 7 + q)) x A.P)) {k z i : Nat} {Q : px_Z → Prop} : ∀ (j m : Nat) (b : Nat × (Nat → Nat) × (Nat → Nat)) (se : Nat → Nat), m + j = A.Mv → i < b.1 → BF ok A.fl b → (∀ r, r < A.fl → sb se r = b.2.2 r) → (∀ q, se q < 4294967296) → (∀ (b2 : Nat × (Nat → Nat) × (Nat → Nat)) (se2 : Nat → Nat), b2 = inS (fun x => (rk A.P x A.P).1) (fun m x => tr (fun q => A.t (m * 7 + q)) x A.P) i j m b → BF ok A.fl b2 → b.1 ≤ b2.1 → (∀ r, r < A.fl → sb se2 r = b2.2.2 r) → (∀ q, se2 q < 4294967296) → ∀ v, wp X (d + 3) 60 (78, [.ref 18, .int (nI i), v], [], WW (CA.s_se (CA.s_fo (CA.s_fc A b2.1) b2.2.1) se2) R o, k, z) Q) → wp X (d + 3) 60 (43, [.ref 18, .int (nI i), .int (nI m)], [], WW (CA.s_se (CA.s_fo (CA.s_fc A b.1) b.2.1) se) R o, k, z) Q
  | 0, m, b, se, hj, hi, hb, hr, hse, kk => by
    have hm9 : m = A.Mv := by omega
    have h6 := T.m6
    refine wz_iload_n (p9 := 44) rfl rfl rfl ?_
    refine wz_aload_n (p9 := 45) rfl rfl rfl ?_
    refine wz_get (v := .ref 1) (p9 := 48) rfl rfl rfl rfl rfl ?_
    refine wz_c1 (p9 := 51) (w1 := WW (CA.s_se (CA.s_fo (CA.s_fc A b.1) b.2.1) se) R o) (u := .int (nI A.Mv)) (wa_v (N := 7) (i := 1) (As := []) (rest := [.int (nI m)]) rfl rfl rfl rfl rfl rfl rfl) rfl ((g_moveCount (d := 0) (A := (CA.s_se (CA.s_fo (CA.s_fc A b.1) b.2.1) se)) (R := R) ).up (by omega)) ?_
    refine wn_icge (t9 := 78) (p9 := 54) rfl rfl rfl (by omega) (by omega) (fun _ => ?_) (fun h9 => by omega)
    exact kk b se rfl hb (Nat.le_refl _) hr hse _
  | j + 1, m, b, se, hj, hi, hb, hr, hse, kk => by
    have h6 := T.m6
    have h9 := hb.1
    have hok := hb.2.1 i hi
    have hx9 := (H1 _ hok).1
    have hX := H1 _ (H2 _ m hok (by omega))
    by_cases h0 : b.2.2 (rk A.P (tr (fun q => A.t (m * 7 + q)) (b.2.1 i) A.P) A.P).1 = 0
    · have hs : sb se (rk A.P (tr (fun q => A.t (m * 7 + q)) (b.2.1 i) A.P) A.P).1 = 0 := (hr _ hX.2.2).trans h0
      have hc : b.1 < A.fl := by
        have := zs_pos h0 hX.2.2
        omega
      have e9 : adS (fun x => (rk A.P x A.P).1) (tr (fun q => A.t (m * 7 + q)) (b.2.1 i) A.P) b = (b.1 + 1, un b.2.1 b.1 (tr (fun q => A.t (m * 7 + q)) (b.2.1 i) A.P), un b.2.2 (rk A.P (tr (fun q => A.t (m * 7 + q)) (b.2.1 i) A.P) A.P).1 1) := if_pos h0
      refine wz_iload_n (p9 := 44) rfl rfl rfl ?_
      refine wz_aload_n (p9 := 45) rfl rfl rfl ?_
      refine wz_get (v := .ref 1) (p9 := 48) rfl rfl rfl rfl rfl ?_
      refine wz_c1 (p9 := 51) (w1 := WW (CA.s_se (CA.s_fo (CA.s_fc A b.1) b.2.1) se) R o) (u := .int (nI A.Mv)) (wa_v (N := 7) (i := 1) (As := []) (rest := [.int (nI m)]) rfl rfl rfl rfl rfl rfl rfl) rfl ((g_moveCount (d := 0) (A := (CA.s_se (CA.s_fo (CA.s_fc A b.1) b.2.1) se)) (R := R) ).up (by omega)) ?_
      refine wn_icge (t9 := 78) (p9 := 54) rfl rfl rfl (by omega) (by omega) (fun h9 => by omega) (fun _ => ?_)
      refine wz_aload_n (p9 := 55) rfl rfl rfl ?_
      refine wz_aload_n (p9 := 56) rfl rfl rfl ?_
      refine wz_get (v := .ref 1) (p9 := 59) rfl rfl rfl rfl rfl ?_
      refine wz_iload_n (p9 := 60) rfl rfl rfl ?_
      refine wz_aload_n (p9 := 61) rfl rfl rfl ?_
      refine wz_get (v := .ref 19) (p9 := 64) rfl rfl rfl rfl rfl ?_
      refine wz_iload_n (p9 := 65) rfl rfl rfl ?_
      refine wl_Afo (f := b.2.1) (p9 := 66) rfl rfl rfl (show A.fl ≤ 2147483648 by have := hl_fo; omega) (show i < A.fl by omega) ?_
      refine wz_c1 (p9 := 69) (w1 := WW (CA.s_se (CA.s_fo (CA.s_fc A b.1) b.2.1) se) R o) (u := .int (nI (tr (fun q => A.t (m * 7 + q)) (b.2.1 i) A.P))) (wa_v (N := 10) (i := 1) (As := [.int (nI m), .int (nI (b.2.1 i))]) (rest := [.ref 18]) rfl rfl rfl rfl rfl rfl rfl) rfl ((g_turned (d := 0) (A := (CA.s_se (CA.s_fo (CA.s_fc A b.1) b.2.1) se)) (R := R) T (by omega) (by omega)).up (by omega)) ?_
      refine wz_c0 (p9 := 72) (w1 := WW (CA.s_se (CA.s_fo (CA.s_fc A (b.1 + 1)) (un b.2.1 b.1 (tr (fun q => A.t (m * 7 + q)) (b.2.1 i) A.P))) (un se ((rk A.P (tr (fun q => A.t (m * 7 + q)) (b.2.1 i) A.P) A.P).1 / 32) (se ((rk A.P (tr (fun q => A.t (m * 7 + q)) (b.2.1 i) A.P) A.P).1 / 32) ||| 1 * 2 ^ ((rk A.P (tr (fun q => A.t (m * 7 + q)) (b.2.1 i) A.P) A.P).1 % 32)))) R o) (wa_v (N := 61) (i := 18) (As := [.int (nI (tr (fun q => A.t (m * 7 + q)) (b.2.1 i) A.P))]) (rest := []) rfl rfl rfl rfl rfl rfl rfl) rfl ((g_radd1 (d := 0) (A := (CA.s_se (CA.s_fo (CA.s_fc A b.1) b.2.1) se)) (R := R) T.p7 (hX.1) (hX.2.1) (show A.sl ≤ 158 by omega) hl_fo (show (rk A.P (tr (fun q => A.t (m * 7 + q)) (b.2.1 i) A.P) A.P).1 / 32 < A.sl by have := hX.2.2; omega) (show (rk A.P (tr (fun q => A.t (m * 7 + q)) (b.2.1 i) A.P) A.P).1 < 5040 by have := hX.2.2; omega) hse hs hc).up (by omega)) ?_
      refine wn_inc (b := 1) (l9 := [.ref 18, .int (nI i), .int (nI (m + 1))]) (p9 := 75) rfl rfl rfl (by decide) rfl ?_
      refine wz_goto (p9 := 43) rfl rfl ?_
      refine l_fIn T hl_fo hsl H1 H2 j (m + 1) (b.1 + 1, un b.2.1 b.1 (tr (fun q => A.t (m * 7 + q)) (b.2.1 i) A.P), un b.2.2 (rk A.P (tr (fun q => A.t (m * 7 + q)) (b.2.1 i) A.P) A.P).1 1) _ (by omega) (Nat.lt_succ_of_lt hi) ?_ ?_ (se_un hse) (fun b2 se2 e1 e2 e3 e4 e5 v => kk b2 se2 ?_ e2 (Nat.le_of_succ_le e3) e4 e5 v)
      · have hq := BF_ad (rf := (fun x => (rk A.P x A.P).1)) hb (H2 _ m hok (by omega)) hX.2.2
        rw [e9] at hq
        exact hq
      · intro r hr9
        rw [sb_un]
        by_cases e : r = (rk A.P (tr (fun q => A.t (m * 7 + q)) (b.2.1 i) A.P) A.P).1
        · rw [e, un_at]; exact (un_at).symm
        · rw [un_ne e]; exact (hr r hr9).trans (un_ne e).symm
      · rw [e1, ← e9]; rfl
    · have h1 : b.2.2 (rk A.P (tr (fun q => A.t (m * 7 + q)) (b.2.1 i) A.P) A.P).1 = 1 := by have := hb.2.2 (rk A.P (tr (fun q => A.t (m * 7 + q)) (b.2.1 i) A.P) A.P).1; omega
      have hs : sb se (rk A.P (tr (fun q => A.t (m * 7 + q)) (b.2.1 i) A.P) A.P).1 = 1 := (hr _ hX.2.2).trans h1
      have e9 : adS (fun x => (rk A.P x A.P).1) (tr (fun q => A.t (m * 7 + q)) (b.2.1 i) A.P) b = b := if_neg h0
      refine wz_iload_n (p9 := 44) rfl rfl rfl ?_
      refine wz_aload_n (p9 := 45) rfl rfl rfl ?_
      refine wz_get (v := .ref 1) (p9 := 48) rfl rfl rfl rfl rfl ?_
      refine wz_c1 (p9 := 51) (w1 := WW (CA.s_se (CA.s_fo (CA.s_fc A b.1) b.2.1) se) R o) (u := .int (nI A.Mv)) (wa_v (N := 7) (i := 1) (As := []) (rest := [.int (nI m)]) rfl rfl rfl rfl rfl rfl rfl) rfl ((g_moveCount (d := 0) (A := (CA.s_se (CA.s_fo (CA.s_fc A b.1) b.2.1) se)) (R := R) ).up (by omega)) ?_
      refine wn_icge (t9 := 78) (p9 := 54) rfl rfl rfl (by omega) (by omega) (fun h9 => by omega) (fun _ => ?_)
      refine wz_aload_n (p9 := 55) rfl rfl rfl ?_
      refine wz_aload_n (p9 := 56) rfl rfl rfl ?_
      refine wz_get (v := .ref 1) (p9 := 59) rfl rfl rfl rfl rfl ?_
      refine wz_iload_n (p9 := 60) rfl rfl rfl ?_
      refine wz_aload_n (p9 := 61) rfl rfl rfl ?_
      refine wz_get (v := .ref 19) (p9 := 64) rfl rfl rfl rfl rfl ?_
      refine wz_iload_n (p9 := 65) rfl rfl rfl ?_
      refine wl_Afo (f := b.2.1) (p9 := 66) rfl rfl rfl (show A.fl ≤ 2147483648 by have := hl_fo; omega) (show i < A.fl by omega) ?_
      refine wz_c1 (p9 := 69) (w1 := WW (CA.s_se (CA.s_fo (CA.s_fc A b.1) b.2.1) se) R o) (u := .int (nI (tr (fun q => A.t (m * 7 + q)) (b.2.1 i) A.P))) (wa_v (N := 10) (i := 1) (As := [.int (nI m), .int (nI (b.2.1 i))]) (rest := [.ref 18]) rfl rfl rfl rfl rfl rfl rfl) rfl ((g_turned (d := 0) (A := (CA.s_se (CA.s_fo (CA.s_fc A b.1) b.2.1) se)) (R := R) T (by omega) (by omega)).up (by omega)) ?_
      refine wz_c0 (p9 := 72) (w1 := WW (CA.s_se (CA.s_fo (CA.s_fc A b.1) b.2.1) se) R o) (wa_v (N := 61) (i := 18) (As := [.int (nI (tr (fun q => A.t (m * 7 + q)) (b.2.1 i) A.P))]) (rest := []) rfl rfl rfl rfl rfl rfl rfl) rfl ((g_radd0 (d := 0) (A := (CA.s_se (CA.s_fo (CA.s_fc A b.1) b.2.1) se)) (R := R) T.p7 (hX.1) (hX.2.1) (show A.sl ≤ 158 by omega) hl_fo (show (rk A.P (tr (fun q => A.t (m * 7 + q)) (b.2.1 i) A.P) A.P).1 / 32 < A.sl by have := hX.2.2; omega) (show (rk A.P (tr (fun q => A.t (m * 7 + q)) (b.2.1 i) A.P) A.P).1 < 5040 by have := hX.2.2; omega) hse hs).up (by omega)) ?_
      refine wn_inc (b := 1) (l9 := [.ref 18, .int (nI i), .int (nI (m + 1))]) (p9 := 75) rfl rfl rfl (by decide) rfl ?_
      refine wz_goto (p9 := 43) rfl rfl ?_
      refine l_fIn T hl_fo hsl H1 H2 j (m + 1) b _ (by omega) hi hb hr hse (fun b2 se2 e1 e2 e3 e4 e5 v => kk b2 se2 ?_ e2 e3 e4 e5 v)
      rw [e1]
      show _ = inS _ _ i j (m + 1) (adS (fun x => (rk A.P x A.P).1) (tr (fun q => A.t (m * 7 + q)) (b.2.1 i) A.P) b)
      rw [e9]
theorem l_fOut {X : Nat × (Nat → Int32)} {d : Nat} {A : CA} {R : RA} {o : Nat → Int64} (T : TV A.P A.Mv A.t A.od) (hl_fo : A.fl ≤ 5040) (hsl : A.sl = A.fl / 32 + 1) {ok : Nat → Prop} (H1 : ∀ x, ok x → x < 2097152 ∧ (∀ p, p < A.P → dg x p < 7) ∧ (rk A.P x A.P).1 < A.fl) (H2 : ∀ x m, ok x → m < A.Mv → ok (tr (fun q => A.t (m * 7 + q)) x A.P)) {k z : Nat} {Q : px_Z → Prop} : ∀ (j i : Nat) (b : Nat × (Nat → Nat) × (Nat → Nat)) (se : Nat → Nat) (v : Value), i + j = A.fl → BF ok A.fl b → (∀ r, r < A.fl → sb se r = b.2.2 r) → (∀ q, se q < 4294967296) → (∀ (se2 : Nat → Nat), BF ok A.fl (bfS (fun x => (rk A.P x A.P).1) (fun m x => tr (fun q => A.t (m * 7 + q)) x A.P) A.Mv j i b) → (∀ q, se2 q < 4294967296) → ∀ v1 v2, wp X (d + 3) 60 (84, [.ref 18, v1, v2], [], WW (CA.s_se (CA.s_fo (CA.s_fc A ((bfS (fun x => (rk A.P x A.P).1) (fun m x => tr (fun q => A.t (m * 7 + q)) x A.P) A.Mv j i b).1)) ((bfS (fun x => (rk A.P x A.P).1) (fun m x => tr (fun q => A.t (m * 7 + q)) x A.P) A.Mv j i b).2.1)) se2) R o, k, z) Q) → wp X (d + 3) 60 (24, [.ref 18, .int (nI i), v], [], WW (CA.s_se (CA.s_fo (CA.s_fc A b.1) b.2.1) se) R o, k, z) Q
  | 0, i, b, se, v, hj, hb, hr, hse, kk => by
    have h9 := hb.1
    refine wz_iload_n (p9 := 25) rfl rfl rfl ?_
    refine wz_aload_n (p9 := 26) rfl rfl rfl ?_
    refine wz_get (v := .ref 19) (p9 := 29) rfl rfl rfl rfl rfl ?_
    refine wz_alen (t := 0) (v := nI A.fl) (p9 := 30) rfl rfl rfl rfl ?_
    refine wn_icge (t9 := 84) (p9 := 33) rfl rfl rfl (by omega) (by omega) (fun _ => ?_) (fun h9 => by omega)
    exact kk se hb hse _ _
  | j + 1, i, b, se, v, hj, hb, hr, hse, kk => by
    have h9 := hb.1
    by_cases hi : i < b.1
    · have e9 : bfS (fun x => (rk A.P x A.P).1) (fun m x => tr (fun q => A.t (m * 7 + q)) x A.P) A.Mv (j + 1) i b = bfS (fun x => (rk A.P x A.P).1) (fun m x => tr (fun q => A.t (m * 7 + q)) x A.P) A.Mv j (i + 1) (inS (fun x => (rk A.P x A.P).1) (fun m x => tr (fun q => A.t (m * 7 + q)) x A.P) i A.Mv 0 b) := if_pos hi
      rw [e9] at kk
      refine wz_iload_n (p9 := 25) rfl rfl rfl ?_
      refine wz_aload_n (p9 := 26) rfl rfl rfl ?_
      refine wz_get (v := .ref 19) (p9 := 29) rfl rfl rfl rfl rfl ?_
      refine wz_alen (t := 0) (v := nI A.fl) (p9 := 30) rfl rfl rfl rfl ?_
      refine wn_icge (t9 := 84) (p9 := 33) rfl rfl rfl (by omega) (by omega) (fun h9 => by omega) (fun _ => ?_)
      refine wz_iload_n (p9 := 34) rfl rfl rfl ?_
      refine wz_aload_n (p9 := 35) rfl rfl rfl ?_
      refine wz_get (v := .int (nI b.1)) (p9 := 38) rfl rfl rfl rfl rfl ?_
      refine wn_icge (t9 := 84) (p9 := 41) rfl rfl rfl (by omega) (by omega) (fun h9 => by omega) (fun _ => ?_)
      refine wz_iconst (x := nI 0) (p9 := 42) rfl rfl (by decide) ?_
      refine wz_istore_n (l9 := [.ref 18, .int (nI i), .int (nI 0)]) (p9 := 43) rfl rfl rfl rfl ?_
      refine l_fIn T hl_fo hsl H1 H2 A.Mv 0 b se (Nat.zero_add _) hi hb hr hse (fun b2 se2 e1 e2 e3 e4 e5 v2 => ?_)
      rw [← e1] at kk
      refine wn_inc (b := 1) (l9 := [.ref 18, .int (nI (i + 1)), v2]) (p9 := 81) rfl rfl rfl (by decide) rfl ?_
      refine wz_goto (p9 := 24) rfl rfl ?_
      exact l_fOut T hl_fo hsl H1 H2 j (i + 1) b2 se2 _ (by omega) e2 e4 e5 kk
    · have e9 : bfS (fun x => (rk A.P x A.P).1) (fun m x => tr (fun q => A.t (m * 7 + q)) x A.P) A.Mv (j + 1) i b = b := if_neg hi
      rw [e9] at kk
      refine wz_iload_n (p9 := 25) rfl rfl rfl ?_
      refine wz_aload_n (p9 := 26) rfl rfl rfl ?_
      refine wz_get (v := .ref 19) (p9 := 29) rfl rfl rfl rfl rfl ?_
      refine wz_alen (t := 0) (v := nI A.fl) (p9 := 30) rfl rfl rfl rfl ?_
      refine wn_icge (t9 := 84) (p9 := 33) rfl rfl rfl (by omega) (by omega) (fun h9 => by omega) (fun _ => ?_)
      refine wz_iload_n (p9 := 34) rfl rfl rfl ?_
      refine wz_aload_n (p9 := 35) rfl rfl rfl ?_
      refine wz_get (v := .int (nI b.1)) (p9 := 38) rfl rfl rfl rfl rfl ?_
      refine wn_icge (t9 := 84) (p9 := 41) rfl rfl rfl (by omega) (by omega) (fun _ => ?_) (fun h9 => by omega)
      exact kk se hb hse _ _
theorem zs_0 : ∀ k, zs (fun _ => 0) k = k
  | 0 => rfl
  | k + 1 => by show zs (fun _ => 0) k + 1 = k + 1; rw [zs_0 k]
theorem g_findAll {X : Nat × (Nat → Int32)} {d : Nat} {A : CA} {R : RA} {o : Nat → Int64} (T : TV A.P A.Mv A.t A.od) (hl_fo : A.fl ≤ 5040) (hsl : A.sl = A.fl / 32 + 1) {ok : Nat → Prop} (H1 : ∀ x, ok x → x < 2097152 ∧ (∀ p, p < A.P → dg x p < 7) ∧ (rk A.P x A.P).1 < A.fl) (H2 : ∀ x m, ok x → m < A.Mv → ok (tr (fun q => A.t (m * 7 + q)) x A.P)) (hk : ok (hm8 A.P)) (hs0 : ∀ q, A.se q < 4294967296) (h0 : A.fc = 0) : ∃ se2 : Nat → Nat, px_ev X (d + 4) 60 [.ref 18] (WW A R o) (some none, WW (CA.s_se (CA.s_fo (CA.s_fc A ((bfS (fun x => (rk A.P x A.P).1) (fun m x => tr (fun q => A.t (m * 7 + q)) x A.P) A.Mv A.fl 0 (1, un A.fo 0 (hm8 A.P), un (fun _ => 0) (rk A.P (hm8 A.P) A.P).1 1)).1)) ((bfS (fun x => (rk A.P x A.P).1) (fun m x => tr (fun q => A.t (m * 7 + q)) x A.P) A.Mv A.fl 0 (1, un A.fo 0 (hm8 A.P), un (fun _ => 0) (rk A.P (hm8 A.P) A.P).1 1)).2.1)) se2) R o, 0, 0) ∧ (∀ q, se2 q < 4294967296) ∧ BF ok A.fl (bfS (fun x => (rk A.P x A.P).1) (fun m x => tr (fun q => A.t (m * 7 + q)) x A.P) A.Mv A.fl 0 (1, un A.fo 0 (hm8 A.P), un (fun _ => 0) (rk A.P (hm8 A.P) A.P).1 1)) := by
  refine wp_ex (f := fun se2 => (some none, WW (CA.s_se (CA.s_fo (CA.s_fc A ((bfS (fun x => (rk A.P x A.P).1) (fun m x => tr (fun q => A.t (m * 7 + q)) x A.P) A.Mv A.fl 0 (1, un A.fo 0 (hm8 A.P), un (fun _ => 0) (rk A.P (hm8 A.P) A.P).1 1)).1)) ((bfS (fun x => (rk A.P x A.P).1) (fun m x => tr (fun q => A.t (m * 7 + q)) x A.P) A.Mv A.fl 0 (1, un A.fo 0 (hm8 A.P), un (fun _ => 0) (rk A.P (hm8 A.P) A.P).1 1)).2.1)) se2) R o, 0, 0)) (d := d + 3) (by decide) rfl rfl (fun _ h => by cases h) ?_
  show wp X (d + 3) 60 (0, [.ref 18, .retAddr 0, .retAddr 0], [], WW A R o, 0, 0) _
  have h7 := T.p7
  have hse : ∀ q, (fil 0 A.se A.sl) q < 4294967296 := by
    intro q
    unfold fil
    split
    · decide
    · exact hs0 q
  have hz : ∀ r, r < A.fl → sb (fil 0 A.se A.sl) r = 0 := by
    intro r hr
    unfold sb fil
    rw [if_pos (by omega), Nat.zero_div]
  have hX := H1 _ hk
  have hs : sb (fil 0 A.se A.sl) (rk A.P (hm8 A.P) A.P).1 = 0 := hz _ hX.2.2
  have hc : A.fc < A.fl := by have := hX.2.2; omega
  refine wz_aload_n (p9 := 1) rfl rfl rfl ?_
  refine wz_get (v := .ref 20) (p9 := 4) rfl rfl rfl rfl rfl ?_
  refine wz_iconst (x := nI 0) (p9 := 5) rfl rfl (by decide) ?_
  refine wz_c0 (p9 := 8) (w1 := WW (CA.s_se A (fil 0 A.se A.sl)) R o) (tz_calS (N := 171) (As := [.ref 20, .int (nI 0)]) (rest := []) rfl rfl rfl rfl rfl rfl) rfl ((g_fillS (d := 0) (by omega)).up (by omega)) ?_
  refine wz_aload_n (p9 := 9) rfl rfl rfl ?_
  refine wz_aload_n (p9 := 10) rfl rfl rfl ?_
  refine wz_get (v := .ref 1) (p9 := 13) rfl rfl rfl rfl rfl ?_
  refine wz_c1 (p9 := 16) (w1 := WW (CA.s_se A (fil 0 A.se A.sl)) R o) (u := .int (nI A.P)) (wa_v (N := 1) (i := 1) (As := []) (rest := [.ref 18]) rfl rfl rfl rfl rfl rfl rfl) rfl ((g_placeCount (d := 0) (A := (CA.s_se A (fil 0 A.se A.sl))) (R := R) ).up (by omega)) ?_
  refine wz_c1 (p9 := 19) (w1 := WW (CA.s_se A (fil 0 A.se A.sl)) R o) (u := .int (nI (hm8 A.P))) (tz_calS (N := 151) (As := [.int (nI A.P)]) (rest := [.ref 18]) rfl rfl rfl rfl rfl rfl) rfl ((g_allHome (d := 0) (A := (CA.s_se A (fil 0 A.se A.sl))) (R := R) (by omega)).up (by omega)) ?_
  refine wz_c0 (p9 := 22) (w1 := WW (CA.s_se (CA.s_fo (CA.s_fc A (A.fc + 1)) (un A.fo A.fc (hm8 A.P))) (un (fil 0 A.se A.sl) ((rk A.P (hm8 A.P) A.P).1 / 32) ((fil 0 A.se A.sl) ((rk A.P (hm8 A.P) A.P).1 / 32) ||| 1 * 2 ^ ((rk A.P (hm8 A.P) A.P).1 % 32)))) R o) (wa_v (N := 61) (i := 18) (As := [.int (nI (hm8 A.P))]) (rest := []) rfl rfl rfl rfl rfl rfl rfl) rfl ((g_radd1 (d := 0) (A := (CA.s_se A (fil 0 A.se A.sl))) (R := R) T.p7 (hX.1) (hX.2.1) (show A.sl ≤ 158 by omega) hl_fo (show (rk A.P (hm8 A.P) A.P).1 / 32 < A.sl by have := hX.2.2; omega) (show (rk A.P (hm8 A.P) A.P).1 < 5040 by have := hX.2.2; omega) hse hs hc).up (by omega)) ?_
  refine wz_iconst (x := nI 0) (p9 := 23) rfl rfl (by decide) ?_
  refine wz_istore_n (l9 := [.ref 18, .int (nI 0), .retAddr 0]) (p9 := 24) rfl rfl rfl rfl ?_
  rw [show A.fc + 1 = 1 by omega, show un A.fo A.fc = un A.fo 0 by rw [h0]]
  refine l_fOut T hl_fo hsl H1 H2 A.fl 0 (1, un A.fo 0 (hm8 A.P), un (fun _ => 0) (rk A.P (hm8 A.P) A.P).1 1) (un (fil 0 A.se A.sl) ((rk A.P (hm8 A.P) A.P).1 / 32) ((fil 0 A.se A.sl) ((rk A.P (hm8 A.P) A.P).1 / 32) ||| 1 * 2 ^ ((rk A.P (hm8 A.P) A.P).1 % 32))) _ (Nat.zero_add _) ?_ ?_ (se_un hse) (fun se2 hb2 hs2 v1 v2 => ?_)
  · have hq : BF ok A.fl (0, A.fo, fun _ => 0) := ⟨by show 0 + zs (fun _ => 0) A.fl = A.fl; rw [zs_0]; omega, fun i hi => absurd hi (Nat.not_lt_zero _), fun r => by show 0 < 2; decide⟩
    have h2 := BF_ad (rf := (fun x => (rk A.P x A.P).1)) hq hk hX.2.2
    rw [show adS (fun x => (rk A.P x A.P).1) (hm8 A.P) (0, A.fo, fun _ => 0) = (1, un A.fo 0 (hm8 A.P), un (fun _ => 0) (rk A.P (hm8 A.P) A.P).1 1) from if_pos rfl] at h2
    exact h2
  · intro r hr9
    rw [sb_un]
    by_cases e : r = (rk A.P (hm8 A.P) A.P).1
    · rw [e, un_at]; exact (un_at (t := fun _ => 0)).symm
    · rw [un_ne e]; exact (hz r hr9).trans (un_ne (t := fun _ => 0) e).symm
  · exact wz_retv rfl rfl ⟨se2, rfl, hs2, hb2⟩
theorem g_stateAt {X : Nat × (Nat → Int32)} {d : Nat} {A : CA} {R : RA} {o : Nat → Int64} {i : Nat} (hl_fo : A.fl ≤ 5040) (hi : i < A.fl) : px_ev X (d + 1) 63 [.ref 18, .int (nI i)] (WW A R o) (some (some (.int (nI (A.fo i)))), WW A R o, 0, 0) := by
  refine wp_ev (d := d + 0) (by decide) rfl rfl (fun h => by cases h) ?_
  show wp X (d + 0) 63 (0, [.ref 18, .int (nI i)], [], WW A R o, 0, 0) _
  refine wz_aload_n (p9 := 1) rfl rfl rfl ?_
  refine wz_get (v := .ref 19) (p9 := 4) rfl rfl rfl rfl rfl ?_
  refine wz_iload_n (p9 := 5) rfl rfl rfl ?_
  refine wl_Afo (f := A.fo) (p9 := 6) rfl rfl rfl (show A.fl ≤ 2147483648 by have := hl_fo; omega) (show i < A.fl by omega) ?_
  exact wz_reti rfl rfl rfl
theorem g_foundCount1 {X : Nat × (Nat → Int32)} {d : Nat} {A : CA} {R : RA} {o : Nat → Int64} (h : 0 < A.fc) (h2 : A.fc ≤ 5040) : px_ev X (d + 1) 59 [.ref 18] (WW A R o) (some (some (.int (nI A.fc))), WW A R o, 0, 0) := by
  refine wp_ev (d := d + 0) (by decide) rfl rfl (fun h => by cases h) ?_
  show wp X (d + 0) 59 (0, [.ref 18], [], WW A R o, 0, 0) _
  refine wz_aload_n (p9 := 1) rfl rfl rfl ?_
  refine wz_get (v := .int (nI A.fc)) (p9 := 4) rfl rfl rfl rfl rfl ?_
  refine wn_ifne (t9 := 11) (p9 := 7) rfl rfl rfl (by omega) (fun _ => ?_) (fun h9 => by omega)
  refine wz_aload_n (p9 := 12) rfl rfl rfl ?_
  refine wz_get (v := .int (nI A.fc)) (p9 := 15) rfl rfl rfl rfl rfl ?_
  exact wz_reti rfl rfl rfl
theorem g_foundCount0 {X : Nat × (Nat → Int32)} {d : Nat} {A : CA} {R : RA} {o : Nat → Int64} (T : TV A.P A.Mv A.t A.od) (hl_fo : A.fl ≤ 5040) (hsl : A.sl = A.fl / 32 + 1) {ok : Nat → Prop} (H1 : ∀ x, ok x → x < 2097152 ∧ (∀ p, p < A.P → dg x p < 7) ∧ (rk A.P x A.P).1 < A.fl) (H2 : ∀ x m, ok x → m < A.Mv → ok (tr (fun q => A.t (m * 7 + q)) x A.P)) (hk : ok (hm8 A.P)) (hs0 : ∀ q, A.se q < 4294967296) (h0 : A.fc = 0) : ∃ se2 : Nat → Nat, px_ev X (d + 5) 59 [.ref 18] (WW A R o) (some (some (.int (nI (bfS (fun x => (rk A.P x A.P).1) (fun m x => tr (fun q => A.t (m * 7 + q)) x A.P) A.Mv A.fl 0 (1, un A.fo 0 (hm8 A.P), un (fun _ => 0) (rk A.P (hm8 A.P) A.P).1 1)).1))), WW (CA.s_se (CA.s_fo (CA.s_fc A ((bfS (fun x => (rk A.P x A.P).1) (fun m x => tr (fun q => A.t (m * 7 + q)) x A.P) A.Mv A.fl 0 (1, un A.fo 0 (hm8 A.P), un (fun _ => 0) (rk A.P (hm8 A.P) A.P).1 1)).1)) ((bfS (fun x => (rk A.P x A.P).1) (fun m x => tr (fun q => A.t (m * 7 + q)) x A.P) A.Mv A.fl 0 (1, un A.fo 0 (hm8 A.P), un (fun _ => 0) (rk A.P (hm8 A.P) A.P).1 1)).2.1)) se2) R o, 0, 0) ∧ (∀ q, se2 q < 4294967296) ∧ BF ok A.fl (bfS (fun x => (rk A.P x A.P).1) (fun m x => tr (fun q => A.t (m * 7 + q)) x A.P) A.Mv A.fl 0 (1, un A.fo 0 (hm8 A.P), un (fun _ => 0) (rk A.P (hm8 A.P) A.P).1 1)) := by
  obtain ⟨se2, he, h2, h3⟩ := g_findAll (X := X) (d := 0) (R := R) (o := o) T hl_fo hsl H1 H2 hk hs0 h0
  refine ⟨se2, ?_, h2, h3⟩
  refine wp_ev (d := d + 4) (by decide) rfl rfl (fun h => by cases h) ?_
  show wp X (d + 4) 59 (0, [.ref 18], [], WW A R o, 0, 0) _
  refine wz_aload_n (p9 := 1) rfl rfl rfl ?_
  refine wz_get (v := .int (nI A.fc)) (p9 := 4) rfl rfl rfl rfl rfl ?_
  refine wn_ifne (t9 := 11) (p9 := 7) rfl rfl rfl (by omega) (fun h9 => by omega) (fun _ => ?_)
  refine wz_aload_n (p9 := 8) rfl rfl rfl ?_
  refine wz_c0 (p9 := 11) (w1 := WW (CA.s_se (CA.s_fo (CA.s_fc A ((bfS (fun x => (rk A.P x A.P).1) (fun m x => tr (fun q => A.t (m * 7 + q)) x A.P) A.Mv A.fl 0 (1, un A.fo 0 (hm8 A.P), un (fun _ => 0) (rk A.P (hm8 A.P) A.P).1 1)).1)) ((bfS (fun x => (rk A.P x A.P).1) (fun m x => tr (fun q => A.t (m * 7 + q)) x A.P) A.Mv A.fl 0 (1, un A.fo 0 (hm8 A.P), un (fun _ => 0) (rk A.P (hm8 A.P) A.P).1 1)).2.1)) se2) R o) (wa_v (N := 60) (i := 18) (As := []) (rest := []) rfl rfl rfl rfl rfl rfl rfl) rfl (he.up (by omega)) ?_
  refine wz_aload_n (p9 := 12) rfl rfl rfl ?_
  refine wz_get (v := .int (nI ((bfS (fun x => (rk A.P x A.P).1) (fun m x => tr (fun q => A.t (m * 7 + q)) x A.P) A.Mv A.fl 0 (1, un A.fo 0 (hm8 A.P), un (fun _ => 0) (rk A.P (hm8 A.P) A.P).1 1)).1))) (p9 := 15) rfl rfl rfl rfl rfl ?_
  exact wz_reti rfl rfl rfl
