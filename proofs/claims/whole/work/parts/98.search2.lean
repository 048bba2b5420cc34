/-! THE CLASS: rows between triples, paths (wip/whole/gen/mk98.py) -/
theorem n1_B3 {P v m : Nat} {tf : Nat → Nat → Nat} (ht : ∀ y, o3 P y → tf m y < 512 ∧ o3 P (tf m y)) : ∀ (j y : Nat) (b : Nat × (Nat → Nat) × (Nat → Nat)), o3 P y → B3 P b → v ≤ b.1 → B3 P (n1 tf v m j y b) ∧ b.1 ≤ (n1 tf v m j y b).1 ∧ (∀ i, i < b.1 → (n1 tf v m j y b).2.1 i = b.2.1 i) ∧ ∀ q, b.2.2 q ≠ 4294967295 → (n1 tf v m j y b).2.2 q = b.2.2 q
  | 0, _, b, _, hb, _ => ⟨hb, Nat.le_refl _, fun _ _ => rfl, fun _ _ => rfl⟩
  | j + 1, y, b, hy, hb, hv => by
    have h1 := ht y hy
    have hg : b.1 ≤ (ar (tf m y) v b).1 := ar_ge
    obtain ⟨c1, c2, c3, c4⟩ := n1_B3 (v := v) ht j (tf m y) (ar (tf m y) v b) h1.2 (B3_ar hb h1.1 h1.2 hv) (by omega)
    refine ⟨c1, Nat.le_trans hg c2, fun i hi => (c3 i (by omega)).trans (ar_q hi), fun q hq => ?_⟩
    have hk : (ar (tf m y) v b).2.2 q = b.2.2 q := ar_keep hq
    exact (c4 q (by rw [hk]; exact hq)).trans hk
theorem n2_B3 {P v x : Nat} {od : Nat → Nat} {tf : Nat → Nat → Nat} (ht : ∀ m y, o3 P y → tf m y < 512 ∧ o3 P (tf m y)) (hx : o3 P x) : ∀ (j m : Nat) (b : Nat × (Nat → Nat) × (Nat → Nat)), B3 P b → v ≤ b.1 → B3 P (n2 tf od v x j m b) ∧ b.1 ≤ (n2 tf od v x j m b).1 ∧ (∀ i, i < b.1 → (n2 tf od v x j m b).2.1 i = b.2.1 i) ∧ ∀ q, b.2.2 q ≠ 4294967295 → (n2 tf od v x j m b).2.2 q = b.2.2 q
  | 0, _, b, hb, _ => ⟨hb, Nat.le_refl _, fun _ _ => rfl, fun _ _ => rfl⟩
  | j + 1, m, b, hb, hv => by
    obtain ⟨c1, c2, c3, c4⟩ := n1_B3 (v := v) (m := m) (ht m) (od m - 1) x b hx hb hv
    obtain ⟨e1, e2, e3, e4⟩ := n2_B3 (v := v) (od := od) ht hx j (m + 1) (n1 tf v m (od m - 1) x b) c1 (by omega)
    exact ⟨e1, Nat.le_trans c2 e2, fun i hi => (e3 i (by omega)).trans (c3 i hi), fun q hq => (e4 q (by rw [c4 q hq]; exact hq)).trans (c4 q hq)⟩
theorem l_n3 {X : Nat × (Nat → Int32)} {d : Nat} {A : CA} {R : RA} {o : Nat → Int64} (T : TV A.P A.Mv A.t A.od) {k z s e : Nat} {Q : px_Z → Prop} : ∀ (j i : Nat) (b : Nat × (Nat → Nat) × (Nat → Nat)), i + j = 512 → B3 A.P b → (B3 A.P (n3 (fun m x => t3 (fun q => A.t (m * 7 + q)) x 3) A.od A.Mv j i b) → ∀ v, wp X (d + 3) 67 (52, [.ref 21, .int (nI s), .int (nI e), v], [], WW (CA.s_qn (CA.s_qu (CA.s_fa A ((n3 (fun m x => t3 (fun q => A.t (m * 7 + q)) x 3) A.od A.Mv j i b).2.2)) ((n3 (fun m x => t3 (fun q => A.t (m * 7 + q)) x 3) A.od A.Mv j i b).2.1)) ((n3 (fun m x => t3 (fun q => A.t (m * 7 + q)) x 3) A.od A.Mv j i b).1)) R o, k, z) Q) → wp X (d + 3) 67 (21, [.ref 21, .int (nI s), .int (nI e), .int (nI i)], [], WW (CA.s_qn (CA.s_qu (CA.s_fa A b.2.2) b.2.1) b.1) R o, k, z) Q
  | 0, i, b, hj, hb, kk => by
    have h9 := hb.1
    refine wz_iload_n (p9 := 22) rfl rfl rfl ?_
    refine wz_sipush (x := nI 512) (p9 := 25) rfl rfl (by decide) ?_
    refine wn_icge (t9 := 52) (p9 := 28) rfl rfl rfl (by omega) (by omega) (fun _ => ?_) (fun h9 => by omega)
    exact kk hb _
  | j + 1, i, b, hj, hb, kk => by
    have h9 := hb.1
    by_cases hi : i < b.1
    · rw [show n3 (fun m x => t3 (fun q => A.t (m * 7 + q)) x 3) A.od A.Mv (j + 1) i b = n3 (fun m x => t3 (fun q => A.t (m * 7 + q)) x 3) A.od A.Mv j (i + 1) (n2 (fun m x => t3 (fun q => A.t (m * 7 + q)) x 3) A.od (b.2.2 (b.2.1 i) + 1) (b.2.1 i) A.Mv 0 b) from if_pos hi] at kk
      have hq := hb.2.1 i hi
      refine wz_iload_n (p9 := 22) rfl rfl rfl ?_
      refine wz_sipush (x := nI 512) (p9 := 25) rfl rfl (by decide) ?_
      refine wn_icge (t9 := 52) (p9 := 28) rfl rfl rfl (by omega) (by omega) (fun h9 => by omega) (fun _ => ?_)
      refine wz_iload_n (p9 := 29) rfl rfl rfl ?_
      refine wz_aload_n (p9 := 30) rfl rfl rfl ?_
      refine wz_get (v := .int (nI b.1)) (p9 := 33) rfl rfl rfl rfl rfl ?_
      refine wn_icge (t9 := 52) (p9 := 36) rfl rfl rfl (by omega) (by omega) (fun h9 => by omega) (fun _ => ?_)
      refine wz_aload_n (p9 := 37) rfl rfl rfl ?_
      refine wz_aload_n (p9 := 38) rfl rfl rfl ?_
      refine wz_get (v := .ref 23) (p9 := 41) rfl rfl rfl rfl rfl ?_
      refine wz_iload_n (p9 := 42) rfl rfl rfl ?_
      refine wl_Aqu (f := b.2.1) (p9 := 43) rfl rfl rfl (by omega) ?_
      refine wz_c0 (p9 := 46) (w1 := WW (CA.s_qn (CA.s_qu (CA.s_fa A ((n2 (fun m x => t3 (fun q => A.t (m * 7 + q)) x 3) A.od (b.2.2 (b.2.1 i) + 1) (b.2.1 i) A.Mv 0 b).2.2)) ((n2 (fun m x => t3 (fun q => A.t (m * 7 + q)) x 3) A.od (b.2.2 (b.2.1 i) + 1) (b.2.1 i) A.Mv 0 b).2.1)) ((n2 (fun m x => t3 (fun q => A.t (m * 7 + q)) x 3) A.od (b.2.2 (b.2.1 i) + 1) (b.2.1 i) A.Mv 0 b).1)) R o) (wa_v (N := 69) (i := 21) (As := [.int (nI (b.2.1 i))]) (rest := []) rfl rfl rfl rfl rfl rfl rfl) rfl ((g_reachN (d := 0) (A := (CA.s_qn (CA.s_qu (CA.s_fa A b.2.2) b.2.1) b.1)) (R := R) T (b := b) rfl hq.1 hq.2.1 hb hq.2.2).up (by omega)) ?_
      refine wn_inc (b := 1) (l9 := [.ref 21, .int (nI s), .int (nI e), .int (nI (i + 1))]) (p9 := 49) rfl rfl rfl (by decide) rfl ?_
      refine wz_goto (p9 := 21) rfl rfl ?_
      exact l_n3 T j (i + 1) (n2 (fun m x => t3 (fun q => A.t (m * 7 + q)) x 3) A.od (b.2.2 (b.2.1 i) + 1) (b.2.1 i) A.Mv 0 b) (by omega) (n2_B3 (fun m y hy => o3_t3 T.p7 T.ht hy) hq.2.1 _ _ _ hb hq.2.2).1 kk
    · rw [show n3 (fun m x => t3 (fun q => A.t (m * 7 + q)) x 3) A.od A.Mv (j + 1) i b = b from if_neg hi] at kk
      refine wz_iload_n (p9 := 22) rfl rfl rfl ?_
      refine wz_sipush (x := nI 512) (p9 := 25) rfl rfl (by decide) ?_
      refine wn_icge (t9 := 52) (p9 := 28) rfl rfl rfl (by omega) (by omega) (fun h9 => by omega) (fun _ => ?_)
      refine wz_iload_n (p9 := 29) rfl rfl rfl ?_
      refine wz_aload_n (p9 := 30) rfl rfl rfl ?_
      refine wz_get (v := .int (nI b.1)) (p9 := 33) rfl rfl rfl rfl rfl ?_
      refine wn_icge (t9 := 52) (p9 := 36) rfl rfl rfl (by omega) (by omega) (fun _ => ?_) (fun h9 => by omega)
      exact kk hb _
theorem zm_fil {f : Nat → Nat} : ∀ k, k ≤ 512 → zm (fil 4294967295 f 512) k = k
  | 0, _ => rfl
  | k + 1, h => by
    show zm (fil 4294967295 f 512) k + (if fil 4294967295 f 512 k = 4294967295 then 1 else 0) = k + 1
    rw [zm_fil k (by omega), if_pos (show fil 4294967295 f 512 k = 4294967295 from if_pos (by omega))]
theorem B3_0 {P e : Nat} {qu fa : Nat → Nat} (he : e < 512) (h3 : o3 P e) : B3 P (1, un qu 0 e, un (fil 4294967295 fa 512) e 0) := by
  have q := B3_ar (v := 0) (b := (0, qu, fil 4294967295 fa 512)) ⟨(show 0 + zm (fil 4294967295 fa 512) 512 = 512 by rw [zm_fil 512 (Nat.le_refl _)]), fun i hi => absurd hi (Nat.not_lt_zero _), fun x hx => Or.inl (if_pos hx)⟩ he h3 (Nat.le_refl _)
  rw [show ar e 0 (0, qu, fil 4294967295 fa 512) = (1, un qu 0 e, un (fil 4294967295 fa 512) e 0) from if_pos (if_pos he)] at q
  exact q
theorem g_rowsBetween {X : Nat × (Nat → Int32)} {d : Nat} {A : CA} {R : RA} {o : Nat → Int64} (T : TV A.P A.Mv A.t A.od) {s e : Nat} (hs : s < 512) (he : e < 512) (h3 : o3 A.P e) : px_ev X (d + 4) 67 [.ref 21, .int (nI s), .int (nI e)] (WW A R o) (some (some (.int (nI ((n3 (fun m x => t3 (fun q => A.t (m * 7 + q)) x 3) A.od A.Mv 512 0 (1, un A.qu 0 e, un (fil 4294967295 A.fa 512) e 0)).2.2 s)))), WW (sq A (n3 (fun m x => t3 (fun q => A.t (m * 7 + q)) x 3) A.od A.Mv 512 0 (1, un A.qu 0 e, un (fil 4294967295 A.fa 512) e 0))) R o, 0, 0) := by
  refine wp_ev (d := d + 3) (by decide) rfl rfl (fun h => by cases h) ?_
  show wp X (d + 3) 67 (0, [.ref 21, .int (nI s), .int (nI e), .retAddr 0], [], WW A R o, 0, 0) _
  have hf : fil 4294967295 A.fa 512 e = 4294967295 := if_pos he
  refine wz_aload_n (p9 := 1) rfl rfl rfl ?_
  refine wz_get (v := .ref 22) (p9 := 4) rfl rfl rfl rfl rfl ?_
  refine wz_iconst (x := (-1)) (p9 := 5) rfl rfl (by decide) ?_
  refine wz_c0 (p9 := 8) (w1 := WW (CA.s_fa A (fil 4294967295 A.fa 512)) R o) (tz_calS (N := 171) (As := [.ref 22, .int (-1)]) (rest := []) rfl rfl rfl rfl rfl rfl) rfl ((g_fillF (d := 0) ).up (by omega)) ?_
  refine wz_aload_n (p9 := 9) rfl rfl rfl ?_
  refine wz_iconst (x := nI 0) (p9 := 10) rfl rfl (by decide) ?_
  refine wp_Aqn (x := 0) (p9 := 13) rfl rfl rfl rfl (A1 := (CA.s_qn (CA.s_fa A (fil 4294967295 A.fa 512)) 0)) rfl ?_
  refine wz_aload_n (p9 := 14) rfl rfl rfl ?_
  refine wz_iload_n (p9 := 15) rfl rfl rfl ?_
  refine wz_iconst (x := nI 0) (p9 := 16) rfl rfl (by decide) ?_
  refine wz_c0 (p9 := 19) (w1 := WW (CA.s_qn (CA.s_qu (CA.s_fa A (un (fil 4294967295 A.fa 512) e 0)) (un A.qu 0 e)) (0 + 1)) R o) (wa_v (N := 68) (i := 21) (As := [.int (nI e), .int (nI 0)]) (rest := []) rfl rfl rfl rfl rfl rfl rfl) rfl ((g_reach1 (d := 0) (A := (CA.s_qn (CA.s_fa A (fil 4294967295 A.fa 512)) 0)) (R := R) he hf (show 0 < 512 by decide)).up (by omega)) ?_
  refine wz_iconst (x := nI 0) (p9 := 20) rfl rfl (by decide) ?_
  refine wz_istore_n (l9 := [.ref 21, .int (nI s), .int (nI e), .int (nI 0)]) (p9 := 21) rfl rfl rfl rfl ?_
  refine l_n3 T 512 0 (1, un A.qu 0 e, un (fil 4294967295 A.fa 512) e 0) rfl ?_ (fun hb v => ?_)
  · exact B3_0 he h3
  refine wz_aload_n (p9 := 53) rfl rfl rfl ?_
  refine wz_get (v := .ref 22) (p9 := 56) rfl rfl rfl rfl rfl ?_
  refine wz_iload_n (p9 := 57) rfl rfl rfl ?_
  refine wl_Afa (f := (n3 (fun m x => t3 (fun q => A.t (m * 7 + q)) x 3) A.od A.Mv 512 0 (1, un A.qu 0 e, un (fil 4294967295 A.fa 512) e 0)).2.2) (p9 := 58) rfl rfl rfl (by omega) ?_
  exact wz_reti rfl rfl rfl
def f1 (tf : Nat → Nat → Nat) (fa : Nat → Nat) (v m : Nat) : Nat → Nat → Nat → Option Nat
  | 0, _, _ => none
  | j + 1, t, y => if fa (tf m y) = v then some (m * 16 + t) else f1 tf fa v m j (t + 1) (tf m y)
def f2 (tf : Nat → Nat → Nat) (od fa : Nat → Nat) (v x : Nat) : Nat → Nat → Option Nat
  | 0, _ => none
  | j + 1, m => match f1 tf fa v m (od m - 1) 1 x with
    | some q => some q
    | none => f2 tf od fa v x j (m + 1)
theorem f1_some {tf : Nat → Nat → Nat} {fa : Nat → Nat} {v m q : Nat} : ∀ {j t y : Nat}, f1 tf fa v m j t y = some q → ∃ s, t ≤ s ∧ s < t + j ∧ q = m * 16 + s
  | 0, _, _, e => by cases e
  | j + 1, t, y, e => by
    unfold f1 at e
    split at e
    · cases e; exact ⟨t, Nat.le_refl _, by omega, rfl⟩
    · obtain ⟨s, h1, h2, h3⟩ := f1_some e
      exact ⟨s, by omega, by omega, h3⟩
theorem f2_some {tf : Nat → Nat → Nat} {od fa : Nat → Nat} {v x q : Nat} : ∀ {j m : Nat}, f2 tf od fa v x j m = some q → ∃ k s, m ≤ k ∧ k < m + j ∧ 1 ≤ s ∧ s < od k ∧ q = k * 16 + s
  | 0, _, e => by cases e
  | j + 1, m, e => by
    unfold f2 at e
    split at e
    · rename_i q' hq
      cases e
      obtain ⟨s, h1, h2, h3⟩ := f1_some hq
      exact ⟨m, s, Nat.le_refl _, by omega, h1, by omega, h3⟩
    · obtain ⟨k, s, h1, h2, h3, h4, h5⟩ := f2_some e
      exact ⟨k, s, by omega, by omega, h3, h4, h5⟩
theorem l_f1 {X : Nat × (Nat → Int32)} {d : Nat} {A : CA} {R : RA} {o : Nat → Int64} (T : TV A.P A.Mv A.t A.od) {k z x v m : Nat} (hm : m < A.Mv) (hv : v < 2147483648) (hfa : ∀ q, q < 512 → A.fa q < 4294967296) {Q : px_Z → Prop} (kn : ∀ v4 v5, f1 (fun m x => t3 (fun q => A.t (m * 7 + q)) x 3) A.fa v m (A.od m - 1) 1 x = none → wp X (d + 2) 72 (65, [.ref 21, .int (nI x), .int (nI v), .int (nI m), v4, v5], [], WW A R o, k, z) Q) (ks : ∀ q, f1 (fun m x => t3 (fun q => A.t (m * 7 + q)) x 3) A.fa v m (A.od m - 1) 1 x = some q → Q (some (some (.int (nI q))), WW A R o, k, z)) : ∀ (j t9 y : Nat), t9 + j = A.od m → 1 ≤ t9 → y < 512 → o3 A.P y → f1 (fun m x => t3 (fun q => A.t (m * 7 + q)) x 3) A.fa v m j t9 y = f1 (fun m x => t3 (fun q => A.t (m * 7 + q)) x 3) A.fa v m (A.od m - 1) 1 x → wp X (d + 2) 72 (19, [.ref 21, .int (nI x), .int (nI v), .int (nI m), .int (nI y), .int (nI t9)], [], WW A R o, k, z) Q
  | 0, t9, y, hj, h1, hy, h3, e => by
    have h6 := T.m6
    have h12 := T.o12 (m := m) (by omega)
    refine wz_iload (p9 := 21) rfl rfl rfl ?_
    refine wz_aload_n (p9 := 22) rfl rfl rfl ?_
    refine wz_get (v := .ref 1) (p9 := 25) rfl rfl rfl rfl rfl ?_
    refine wz_iload_n (p9 := 26) rfl rfl rfl ?_
    refine wz_c1 (p9 := 29) (w1 := WW A R o) (u := .int (nI (A.od m))) (wa_v (N := 2) (i := 1) (As := [.int (nI m)]) (rest := [.int (nI t9)]) rfl rfl rfl rfl rfl rfl rfl) rfl ((g_orderOf (d := 0) T (by omega)).up (by omega)) ?_
    refine wn_icge (t9 := 65) (p9 := 32) rfl rfl rfl (by omega) (by omega) (fun _ => ?_) (fun h9 => by omega)
    exact kn _ _ e.symm
  | j + 1, t9, y, hj, h1, hy, h3, e => by
    have h6 := T.m6
    have h12 := T.o12 (m := m) (by omega)
    have hY := o3_t3 (m := m) T.p7 T.ht h3
    by_cases hf : A.fa (t3 (fun q => A.t (m * 7 + q)) y 3) = v
    · rw [show f1 (fun m x => t3 (fun q => A.t (m * 7 + q)) x 3) A.fa v m (j + 1) t9 y = some (m * 16 + t9) from if_pos hf] at e
      have kr := ks _ e.symm
      refine wz_iload (p9 := 21) rfl rfl rfl ?_
      refine wz_aload_n (p9 := 22) rfl rfl rfl ?_
      refine wz_get (v := .ref 1) (p9 := 25) rfl rfl rfl rfl rfl ?_
      refine wz_iload_n (p9 := 26) rfl rfl rfl ?_
      refine wz_c1 (p9 := 29) (w1 := WW A R o) (u := .int (nI (A.od m))) (wa_v (N := 2) (i := 1) (As := [.int (nI m)]) (rest := [.int (nI t9)]) rfl rfl rfl rfl rfl rfl rfl) rfl ((g_orderOf (d := 0) T (by omega)).up (by omega)) ?_
      refine wn_icge (t9 := 65) (p9 := 32) rfl rfl rfl (by omega) (by omega) (fun h9 => by omega) (fun _ => ?_)
      refine wz_aload_n (p9 := 33) rfl rfl rfl ?_
      refine wz_iload_n (p9 := 34) rfl rfl rfl ?_
      refine wz_iload (p9 := 36) rfl rfl rfl ?_
      refine wz_c1 (p9 := 39) (w1 := WW A R o) (u := .int (nI (t3 (fun q => A.t (m * 7 + q)) y 3))) (wa_v (N := 70) (i := 21) (As := [.int (nI m), .int (nI y)]) (rest := []) rfl rfl rfl rfl rfl rfl rfl) rfl ((g_t3 (d := 0) T (by omega) hy h3).up (by omega)) ?_
      refine wz_istore (l9 := [.ref 21, .int (nI x), .int (nI v), .int (nI m), .int (nI (t3 (fun q => A.t (m * 7 + q)) y 3)), .int (nI t9)]) (p9 := 41) rfl rfl rfl rfl ?_
      refine wz_aload_n (p9 := 42) rfl rfl rfl ?_
      refine wz_get (v := .ref 22) (p9 := 45) rfl rfl rfl rfl rfl ?_
      refine wz_iload (p9 := 47) rfl rfl rfl ?_
      refine wl_Afa (f := A.fa) (p9 := 48) rfl rfl rfl (by omega) ?_
      refine wz_iload_n (p9 := 49) rfl rfl rfl ?_
      refine wz_icne (t9 := 59) (p9 := 52) rfl rfl rfl (fun h9 => absurd (congrArg nI hf) h9) (fun _ => ?_)
      refine wz_iload_n (p9 := 53) rfl rfl rfl ?_
      refine wz_iconst (x := nI 4) (p9 := 54) rfl rfl (by decide) ?_
      refine wn_shl4 (p9 := 55) rfl rfl ?_
      refine wz_iload (p9 := 57) rfl rfl rfl ?_
      refine wn_or16 (p9 := 58) rfl rfl (by omega) ?_
      exact wz_reti rfl rfl kr
    · rw [show f1 (fun m x => t3 (fun q => A.t (m * 7 + q)) x 3) A.fa v m (j + 1) t9 y = f1 (fun m x => t3 (fun q => A.t (m * 7 + q)) x 3) A.fa v m j (t9 + 1) (t3 (fun q => A.t (m * 7 + q)) y 3) from if_neg hf] at e
      refine wz_iload (p9 := 21) rfl rfl rfl ?_
      refine wz_aload_n (p9 := 22) rfl rfl rfl ?_
      refine wz_get (v := .ref 1) (p9 := 25) rfl rfl rfl rfl rfl ?_
      refine wz_iload_n (p9 := 26) rfl rfl rfl ?_
      refine wz_c1 (p9 := 29) (w1 := WW A R o) (u := .int (nI (A.od m))) (wa_v (N := 2) (i := 1) (As := [.int (nI m)]) (rest := [.int (nI t9)]) rfl rfl rfl rfl rfl rfl rfl) rfl ((g_orderOf (d := 0) T (by omega)).up (by omega)) ?_
      refine wn_icge (t9 := 65) (p9 := 32) rfl rfl rfl (by omega) (by omega) (fun h9 => by omega) (fun _ => ?_)
      refine wz_aload_n (p9 := 33) rfl rfl rfl ?_
      refine wz_iload_n (p9 := 34) rfl rfl rfl ?_
      refine wz_iload (p9 := 36) rfl rfl rfl ?_
      refine wz_c1 (p9 := 39) (w1 := WW A R o) (u := .int (nI (t3 (fun q => A.t (m * 7 + q)) y 3))) (wa_v (N := 70) (i := 21) (As := [.int (nI m), .int (nI y)]) (rest := []) rfl rfl rfl rfl rfl rfl rfl) rfl ((g_t3 (d := 0) T (by omega) hy h3).up (by omega)) ?_
      refine wz_istore (l9 := [.ref 21, .int (nI x), .int (nI v), .int (nI m), .int (nI (t3 (fun q => A.t (m * 7 + q)) y 3)), .int (nI t9)]) (p9 := 41) rfl rfl rfl rfl ?_
      refine wz_aload_n (p9 := 42) rfl rfl rfl ?_
      refine wz_get (v := .ref 22) (p9 := 45) rfl rfl rfl rfl rfl ?_
      refine wz_iload (p9 := 47) rfl rfl rfl ?_
      refine wl_Afa (f := A.fa) (p9 := 48) rfl rfl rfl (by omega) ?_
      refine wz_iload_n (p9 := 49) rfl rfl rfl ?_
      refine wz_icne (t9 := 59) (p9 := 52) rfl rfl rfl (fun _ => ?_) (fun h9 => absurd ((q_eq32 (hfa _ hY.1) (by omega)).mp h9) hf)
      refine wn_inc (b := 1) (l9 := [.ref 21, .int (nI x), .int (nI v), .int (nI m), .int (nI (t3 (fun q => A.t (m * 7 + q)) y 3)), .int (nI (t9 + 1))]) (p9 := 62) rfl rfl rfl (by decide) rfl ?_
      refine wz_goto (p9 := 19) rfl rfl ?_
      exact l_f1 T hm hv hfa kn ks j (t9 + 1) _ (by omega) (by omega) hY.1 hY.2 e
theorem l_f2 {X : Nat × (Nat → Int32)} {d : Nat} {A : CA} {R : RA} {o : Nat → Int64} (T : TV A.P A.Mv A.t A.od) {k z x v : Nat} (hx : x < 512) (h3 : o3 A.P x) (hv : v < 2147483648) (hfa : ∀ q, q < 512 → A.fa q < 4294967296) {Q : px_Z → Prop} : ∀ (j m : Nat) (v4 v5 : Value), m + j = A.Mv → Q (some (some (.int (nI ((f2 (fun m x => t3 (fun q => A.t (m * 7 + q)) x 3) A.od A.fa v x j m).getD 0)))), WW A R o, k, z) → wp X (d + 2) 72 (2, [.ref 21, .int (nI x), .int (nI v), .int (nI m), v4, v5], [], WW A R o, k, z) Q
  | 0, m, v4, v5, hj, kk => by
    have h6 := T.m6
    refine wz_iload_n (p9 := 3) rfl rfl rfl ?_
    refine wz_aload_n (p9 := 4) rfl rfl rfl ?_
    refine wz_get (v := .ref 1) (p9 := 7) rfl rfl rfl rfl rfl ?_
    refine wz_c1 (p9 := 10) (w1 := WW A R o) (u := .int (nI A.Mv)) (wa_v (N := 7) (i := 1) (As := []) (rest := [.int (nI m)]) rfl rfl rfl rfl rfl rfl rfl) rfl ((g_moveCount (d := 0) ).up (by omega)) ?_
    refine wn_icge (t9 := 71) (p9 := 13) rfl rfl rfl (by omega) (by omega) (fun _ => ?_) (fun h9 => by omega)
    refine wz_iconst (x := nI 0) (p9 := 72) rfl rfl (by decide) ?_
    exact wz_reti rfl rfl kk
  | j + 1, m, v4, v5, hj, kk => by
    have h6 := T.m6
    have ho := T.o1 (m := m) (by omega)
    have e9 : f2 (fun m x => t3 (fun q => A.t (m * 7 + q)) x 3) A.od A.fa v x (j + 1) m = match f1 (fun m x => t3 (fun q => A.t (m * 7 + q)) x 3) A.fa v m (A.od m - 1) 1 x with
      | some q => some q
      | none => f2 (fun m x => t3 (fun q => A.t (m * 7 + q)) x 3) A.od A.fa v x j (m + 1) := rfl
    rw [e9] at kk
    refine wz_iload_n (p9 := 3) rfl rfl rfl ?_
    refine wz_aload_n (p9 := 4) rfl rfl rfl ?_
    refine wz_get (v := .ref 1) (p9 := 7) rfl rfl rfl rfl rfl ?_
    refine wz_c1 (p9 := 10) (w1 := WW A R o) (u := .int (nI A.Mv)) (wa_v (N := 7) (i := 1) (As := []) (rest := [.int (nI m)]) rfl rfl rfl rfl rfl rfl rfl) rfl ((g_moveCount (d := 0) ).up (by omega)) ?_
    refine wn_icge (t9 := 71) (p9 := 13) rfl rfl rfl (by omega) (by omega) (fun h9 => by omega) (fun _ => ?_)
    refine wz_iload_n (p9 := 14) rfl rfl rfl ?_
    refine wz_istore (l9 := [.ref 21, .int (nI x), .int (nI v), .int (nI m), .int (nI x), v5]) (p9 := 16) rfl rfl rfl rfl ?_
    refine wz_iconst (x := nI 1) (p9 := 17) rfl rfl (by decide) ?_
    refine wz_istore (l9 := [.ref 21, .int (nI x), .int (nI v), .int (nI m), .int (nI x), .int (nI 1)]) (p9 := 19) rfl rfl rfl rfl ?_
    refine l_f1 T (by omega) hv hfa (fun v6 v7 e => ?_) (fun q e => ?_) (A.od m - 1) 1 x (by omega) (Nat.le_refl _) hx h3 rfl
    · rw [e] at kk
      refine wn_inc (b := 1) (l9 := [.ref 21, .int (nI x), .int (nI v), .int (nI (m + 1)), v6, v7]) (p9 := 68) rfl rfl rfl (by decide) rfl ?_
      refine wz_goto (p9 := 2) rfl rfl ?_
      exact l_f2 T hx h3 hv hfa j (m + 1) _ _ (by omega) kk
    · rw [e] at kk
      exact kk
theorem g_firstRowTo {X : Nat × (Nat → Int32)} {d : Nat} {A : CA} {R : RA} {o : Nat → Int64} (T : TV A.P A.Mv A.t A.od) {x v : Nat} (hx : x < 512) (h3 : o3 A.P x) (hv : v < 2147483648) (hfa : ∀ q, q < 512 → A.fa q < 4294967296) : px_ev X (d + 3) 72 [.ref 21, .int (nI x), .int (nI v)] (WW A R o) (some (some (.int (nI ((f2 (fun m x => t3 (fun q => A.t (m * 7 + q)) x 3) A.od A.fa v x A.Mv 0).getD 0)))), WW A R o, 0, 0) := by
  refine wp_ev (d := d + 2) (by decide) rfl rfl (fun h => by cases h) ?_
  show wp X (d + 2) 72 (0, [.ref 21, .int (nI x), .int (nI v), .retAddr 0, .retAddr 0, .retAddr 0], [], WW A R o, 0, 0) _
  refine wz_iconst (x := nI 0) (p9 := 1) rfl rfl (by decide) ?_
  refine wz_istore_n (l9 := [.ref 21, .int (nI x), .int (nI v), .int (nI 0), .retAddr 0, .retAddr 0]) (p9 := 2) rfl rfl rfl rfl ?_
  exact l_f2 (Q := fun q => q = (some (some (.int (nI ((f2 (fun m x => t3 (fun q => A.t (m * 7 + q)) x 3) A.od A.fa v x A.Mv 0).getD 0)))), WW A R o, 0, 0)) T hx h3 hv hfa A.Mv 0 _ _ (Nat.zero_add _) rfl
def it (f : Nat → Nat) : Nat → Nat → Nat
  | 0, y => y
  | k + 1, y => it f k (f y)
def fp (tf : Nat → Nat → Nat) (od fa : Nat → Nat) (Mv : Nat) : Nat → Nat → Nat → (Nat → Nat) → Nat → Nat
  | 0, _, _, pa => pa
  | j + 1, k, y, pa => fp tf od fa Mv j (k + 1) (it (tf ((f2 tf od fa j y Mv 0).getD 0 / 16)) ((f2 tf od fa j y Mv 0).getD 0 % 16) y) (un pa k ((f2 tf od fa j y Mv 0).getD 0))
theorem l_it {X : Nat × (Nat → Int32)} {d : Nat} {A : CA} {R : RA} {o : Nat → Int64} (T : TV A.P A.Mv A.t A.od) {k z x L k9 row : Nat} {pa : Nat → Nat} (hr : row < 96) {Q : px_Z → Prop} : ∀ (j t9 y : Nat), t9 + j = row % 16 → y < 512 → o3 A.P y → (∀ y2, y2 = it ((fun m x => t3 (fun q => A.t (m * 7 + q)) x 3) (row / 16)) j y → y2 < 512 → o3 A.P y2 → ∀ v6, wp X (d + 3) 71 (62, [.ref 21, .int (nI x), .int (nI L), .int (nI y2), .int (nI k9), .int (nI row), v6], [], WW (CA.s_pa A pa) R o, k, z) Q) → wp X (d + 3) 71 (36, [.ref 21, .int (nI x), .int (nI L), .int (nI y), .int (nI k9), .int (nI row), .int (nI t9)], [], WW (CA.s_pa A pa) R o, k, z) Q
  | 0, t9, y, hj, hy, h3, kk => by
    refine wz_iload (p9 := 38) rfl rfl rfl ?_
    refine wz_iload (p9 := 40) rfl rfl rfl ?_
    refine wz_bipush (x := nI 15) (p9 := 42) rfl rfl (by decide) ?_
    refine wn_and15 (p9 := 43) rfl rfl ?_
    refine wn_icge (t9 := 62) (p9 := 46) rfl rfl rfl (by omega) (by omega) (fun _ => ?_) (fun h9 => by omega)
    exact kk y rfl hy h3 _
  | j + 1, t9, y, hj, hy, h3, kk => by
    have hY := o3_t3 (m := row / 16) T.p7 T.ht h3
    refine wz_iload (p9 := 38) rfl rfl rfl ?_
    refine wz_iload (p9 := 40) rfl rfl rfl ?_
    refine wz_bipush (x := nI 15) (p9 := 42) rfl rfl (by decide) ?_
    refine wn_and15 (p9 := 43) rfl rfl ?_
    refine wn_icge (t9 := 62) (p9 := 46) rfl rfl rfl (by omega) (by omega) (fun h9 => by omega) (fun _ => ?_)
    refine wz_aload_n (p9 := 47) rfl rfl rfl ?_
    refine wz_iload (p9 := 49) rfl rfl rfl ?_
    refine wz_iconst (x := nI 4) (p9 := 50) rfl rfl (by decide) ?_
    refine wn_shr4 (p9 := 51) rfl rfl (by omega) ?_
    refine wz_iload_n (p9 := 52) rfl rfl rfl ?_
    refine wz_c1 (p9 := 55) (w1 := WW (CA.s_pa A pa) R o) (u := .int (nI (t3 (fun q => A.t ((row / 16) * 7 + q)) y 3))) (wa_v (N := 70) (i := 21) (As := [.int (nI (row / 16)), .int (nI y)]) (rest := []) rfl rfl rfl rfl rfl rfl rfl) rfl ((g_t3 (d := 0) (A := (CA.s_pa A pa)) (R := R) T (by omega) hy h3).up (by omega)) ?_
    refine wz_istore_n (l9 := [.ref 21, .int (nI x), .int (nI L), .int (nI (t3 (fun q => A.t ((row / 16) * 7 + q)) y 3)), .int (nI k9), .int (nI row), .int (nI t9)]) (p9 := 56) rfl rfl rfl rfl ?_
    refine wn_inc (b := 1) (l9 := [.ref 21, .int (nI x), .int (nI L), .int (nI (t3 (fun q => A.t ((row / 16) * 7 + q)) y 3)), .int (nI k9), .int (nI row), .int (nI (t9 + 1))]) (p9 := 59) rfl rfl rfl (by decide) rfl ?_
    refine wz_goto (p9 := 36) rfl rfl ?_
    exact l_it T hr j (t9 + 1) _ (by omega) hY.1 hY.2 kk
theorem l_fp {X : Nat × (Nat → Int32)} {d : Nat} {A : CA} {R : RA} {o : Nat → Int64} (T : TV A.P A.Mv A.t A.od) (hfa : ∀ q, q < 512 → A.fa q < 4294967296) {k z x L : Nat} (hL : L ≤ 9) {Q : px_Z → Prop} : ∀ (j k9 y : Nat) (pa : Nat → Nat) (v5 v6 : Value), k9 + j = L → y < 512 → o3 A.P y → (∀ lv, wp X (d + 3) 71 (68, .ref 21 :: lv, [], WW (CA.s_pa A (fp (fun m x => t3 (fun q => A.t (m * 7 + q)) x 3) A.od A.fa A.Mv j k9 y pa)) R o, k, z) Q) → wp X (d + 3) 71 (5, [.ref 21, .int (nI x), .int (nI L), .int (nI y), .int (nI k9), v5, v6], [], WW (CA.s_pa A pa) R o, k, z) Q
  | 0, k9, y, pa, v5, v6, hj, hy, h3, kk => by
    refine wz_iload (p9 := 7) rfl rfl rfl ?_
    refine wz_iload_n (p9 := 8) rfl rfl rfl ?_
    refine wn_icge (t9 := 68) (p9 := 11) rfl rfl rfl (by omega) (by omega) (fun _ => ?_) (fun h9 => by omega)
    exact kk _
  | j + 1, k9, y, pa, v5, v6, hj, hy, h3, kk => by
    have hrow : ((f2 (fun m x => t3 (fun q => A.t (m * 7 + q)) x 3) A.od A.fa j y A.Mv 0).getD 0) < 96 := by
      cases e : f2 (fun m x => t3 (fun q => A.t (m * 7 + q)) x 3) A.od A.fa j y A.Mv 0 with
      | none => show 0 < 96; decide
      | some q =>
        obtain ⟨m, s, h1, h2, h4, h5, h6⟩ := f2_some e
        have := T.m6
        have := T.o12 (m := m) (by omega)
        show q < 96
        omega
    refine wz_iload (p9 := 7) rfl rfl rfl ?_
    refine wz_iload_n (p9 := 8) rfl rfl rfl ?_
    refine wn_icge (t9 := 68) (p9 := 11) rfl rfl rfl (by omega) (by omega) (fun h9 => by omega) (fun _ => ?_)
    refine wz_aload_n (p9 := 12) rfl rfl rfl ?_
    refine wz_iload_n (p9 := 13) rfl rfl rfl ?_
    refine wz_iload_n (p9 := 14) rfl rfl rfl ?_
    refine wz_iload (p9 := 16) rfl rfl rfl ?_
    refine wn_sub (p9 := 17) rfl rfl (by omega) ?_
    refine wz_iconst (x := nI 1) (p9 := 18) rfl rfl (by decide) ?_
    refine wn_sub (p9 := 19) rfl rfl (by omega) ?_
    rw [show L - k9 - 1 = j by omega]
    refine wz_c1 (p9 := 22) (w1 := WW (CA.s_pa A pa) R o) (u := .int (nI ((f2 (fun m x => t3 (fun q => A.t (m * 7 + q)) x 3) A.od A.fa j y A.Mv 0).getD 0))) (wa_v (N := 72) (i := 21) (As := [.int (nI y), .int (nI j)]) (rest := []) rfl rfl rfl rfl rfl rfl rfl) rfl ((g_firstRowTo (d := 0) (A := (CA.s_pa A pa)) (R := R) T hy h3 (show j < 2147483648 by omega) hfa).up (by omega)) ?_
    refine wz_istore (l9 := [.ref 21, .int (nI x), .int (nI L), .int (nI y), .int (nI k9), .int (nI ((f2 (fun m x => t3 (fun q => A.t (m * 7 + q)) x 3) A.od A.fa j y A.Mv 0).getD 0)), v6]) (p9 := 24) rfl rfl rfl rfl ?_
    refine wz_aload_n (p9 := 25) rfl rfl rfl ?_
    refine wz_get (v := .ref 24) (p9 := 28) rfl rfl rfl rfl rfl ?_
    refine wz_iload (p9 := 30) rfl rfl rfl ?_
    refine wz_iload (p9 := 32) rfl rfl rfl ?_
    refine ws_Apa (f := pa) (p9 := 33) rfl rfl rfl (by omega) (A1 := (CA.s_pa A (un pa k9 ((f2 (fun m x => t3 (fun q => A.t (m * 7 + q)) x 3) A.od A.fa j y A.Mv 0).getD 0)))) rfl ?_
    refine wz_iconst (x := nI 0) (p9 := 34) rfl rfl (by decide) ?_
    refine wz_istore (l9 := [.ref 21, .int (nI x), .int (nI L), .int (nI y), .int (nI k9), .int (nI ((f2 (fun m x => t3 (fun q => A.t (m * 7 + q)) x 3) A.od A.fa j y A.Mv 0).getD 0)), .int (nI 0)]) (p9 := 36) rfl rfl rfl rfl ?_
    refine l_it T hrow _ 0 y (Nat.zero_add _) hy h3 (fun y2 e1 e2 e3 v7 => ?_)
    refine wn_inc (b := 1) (l9 := [.ref 21, .int (nI x), .int (nI L), .int (nI y2), .int (nI (k9 + 1)), .int (nI ((f2 (fun m x => t3 (fun q => A.t (m * 7 + q)) x 3) A.od A.fa j y A.Mv 0).getD 0)), v7]) (p9 := 65) rfl rfl rfl (by decide) rfl ?_
    refine wz_goto (p9 := 5) rfl rfl ?_
    refine l_fp T hfa hL j (k9 + 1) y2 _ _ _ (by omega) e2 e3 ?_
    rw [e1]
    exact kk
theorem g_firstPath {X : Nat × (Nat → Int32)} {d : Nat} {A : CA} {R : RA} {o : Nat → Int64} (T : TV A.P A.Mv A.t A.od) (hfa : ∀ q, q < 512 → A.fa q < 4294967296) {x L : Nat} (hL : L ≤ 9) (hx : x < 512) (h3 : o3 A.P x) : px_ev X (d + 4) 71 [.ref 21, .int (nI x), .int (nI L)] (WW A R o) (some (some (.ref 24)), WW (CA.s_pa A (fp (fun m x => t3 (fun q => A.t (m * 7 + q)) x 3) A.od A.fa A.Mv L 0 x A.pa)) R o, 0, 0) := by
  refine wp_ev (d := d + 3) (by decide) rfl rfl (fun h => by cases h) ?_
  show wp X (d + 3) 71 (0, [.ref 21, .int (nI x), .int (nI L), .retAddr 0, .retAddr 0, .retAddr 0, .retAddr 0], [], WW A R o, 0, 0) _
  refine wz_iload_n (p9 := 1) rfl rfl rfl ?_
  refine wz_istore_n (l9 := [.ref 21, .int (nI x), .int (nI L), .int (nI x), .retAddr 0, .retAddr 0, .retAddr 0]) (p9 := 2) rfl rfl rfl rfl ?_
  refine wz_iconst (x := nI 0) (p9 := 3) rfl rfl (by decide) ?_
  refine wz_istore (l9 := [.ref 21, .int (nI x), .int (nI L), .int (nI x), .int (nI 0), .retAddr 0, .retAddr 0]) (p9 := 5) rfl rfl rfl rfl ?_
  refine l_fp (A := A) T hfa hL L 0 x A.pa _ _ (Nat.zero_add _) hx h3 (fun lv => ?_)
  refine wz_aload_n (p9 := 69) rfl rfl rfl ?_
  refine wz_get (v := .ref 24) (p9 := 72) rfl rfl rfl rfl rfl ?_
  exact wz_reta rfl rfl rfl
theorem fp_lt {tf : Nat → Nat → Nat} {od fa : Nat → Nat} {Mv : Nat} (hM : Mv ≤ 6) (ho : ∀ m, m < 6 → od m ≤ 12) : ∀ (j k y : Nat) (pa : Nat → Nat), ∀ q, q < k + j → (q < k → pa q < 96) → fp tf od fa Mv j k y pa q < 96
  | 0, k, y, pa, q, hq, h => h hq
  | j + 1, k, y, pa, q, hq, h => by
    refine fp_lt hM ho j (k + 1) _ _ q (by omega) (fun h2 => ?_)
    by_cases e : q = k
    · rw [e, un_at]
      cases e2 : f2 tf od fa j y Mv 0 with
      | none => show 0 < 96; decide
      | some r =>
        obtain ⟨m, s, h1, h2, h4, h5, h6⟩ := f2_some e2
        have := ho m (by omega)
        show r < 96
        omega
    · rw [un_ne e]; exact h (by omega)
def i3 (P x : Nat) : Prop := dg x 0 ≠ dg x 1 ∧ dg x 0 ≠ dg x 2 ∧ dg x 1 ≠ dg x 2 ∧ dg x 0 < P ∧ dg x 1 < P ∧ dg x 2 < P
theorem q_max {a b : Nat} (ha : a < 2147483648) (hb : b < 2147483648) : (if nI a < nI b then nI b else nI a) = nI (max a b) := by
  by_cases h : a < b
  · rw [if_pos ((nI_ltI (by omega) (by omega)).mpr h), Nat.max_eq_right (by omega)]
  · rw [if_neg (fun q => h ((nI_ltI (by omega) (by omega)).mp q)), Nat.max_eq_left (by omega)]
theorem g_isTri1 {X : Nat × (Nat → Int32)} {d : Nat} {A : CA} {R : RA} {o : Nat → Int64} {x : Nat} (h7 : A.P ≤ 7) (hx : x < 512) (h : i3 A.P x) : px_ev X (d + 2) 65 [.ref 21, .int (nI x)] (WW A R o) (some (some (.int (nI 1))), WW A R o, 0, 0) := by
  refine wp_ev (d := d + 1) (by decide) rfl rfl (fun h => by cases h) ?_
  show wp X (d + 1) 65 (0, [.ref 21, .int (nI x), .retAddr 0, .retAddr 0, .retAddr 0], [], WW A R o, 0, 0) _
  have b0 := dg_lt x 0
  have b1 := dg_lt x 1
  have b2 := dg_lt x 2
  have b3 : max (dg x 0) (max (dg x 1) (dg x 2)) < 8 := by omega
  obtain ⟨c0, c1, c2, c3, c4, c5⟩ := h
  have hp : max (dg x 0) (max (dg x 1) (dg x 2)) < A.P := by omega
  refine wz_iload_n (p9 := 1) rfl rfl rfl ?_
  refine wn_iflt (t9 := 11) (p9 := 4) rfl rfl rfl (by omega) (fun h9 => by omega) (fun _ => ?_)
  refine wz_iload_n (p9 := 5) rfl rfl rfl ?_
  refine wz_sipush (x := nI 512) (p9 := 8) rfl rfl (by decide) ?_
  refine wn_iclt (t9 := 13) (p9 := 11) rfl rfl rfl (by omega) (by omega) (fun _ => ?_) (fun h9 => by omega)
  refine wz_iload_n (p9 := 14) rfl rfl rfl ?_
  refine wz_iconst (x := nI 0) (p9 := 15) rfl rfl (by decide) ?_
  refine wz_c1 (p9 := 18) (w1 := WW A R o) (u := .int (nI (dg x 0))) (tz_calS (N := 152) (As := [.int (nI x), .int (nI 0)]) (rest := []) rfl rfl rfl rfl rfl rfl) rfl ((g_pieceAt (d := 0) (by omega) (by omega)).up (by omega)) ?_
  refine wz_istore_n (l9 := [.ref 21, .int (nI x), .int (nI (dg x 0)), .retAddr 0, .retAddr 0]) (p9 := 19) rfl rfl rfl rfl ?_
  refine wz_iload_n (p9 := 20) rfl rfl rfl ?_
  refine wz_iconst (x := nI 1) (p9 := 21) rfl rfl (by decide) ?_
  refine wz_c1 (p9 := 24) (w1 := WW A R o) (u := .int (nI (dg x 1))) (tz_calS (N := 152) (As := [.int (nI x), .int (nI 1)]) (rest := []) rfl rfl rfl rfl rfl rfl) rfl ((g_pieceAt (d := 0) (by omega) (by omega)).up (by omega)) ?_
  refine wz_istore_n (l9 := [.ref 21, .int (nI x), .int (nI (dg x 0)), .int (nI (dg x 1)), .retAddr 0]) (p9 := 25) rfl rfl rfl rfl ?_
  refine wz_iload_n (p9 := 26) rfl rfl rfl ?_
  refine wz_iconst (x := nI 2) (p9 := 27) rfl rfl (by decide) ?_
  refine wz_c1 (p9 := 30) (w1 := WW A R o) (u := .int (nI (dg x 2))) (tz_calS (N := 152) (As := [.int (nI x), .int (nI 2)]) (rest := []) rfl rfl rfl rfl rfl rfl) rfl ((g_pieceAt (d := 0) (by omega) (by omega)).up (by omega)) ?_
  refine wz_istore (l9 := [.ref 21, .int (nI x), .int (nI (dg x 0)), .int (nI (dg x 1)), .int (nI (dg x 2))]) (p9 := 32) rfl rfl rfl rfl ?_
  refine wz_iload_n (p9 := 33) rfl rfl rfl ?_
  refine wz_iload_n (p9 := 34) rfl rfl rfl ?_
  refine wn_iceq (t9 := 73) (p9 := 37) rfl rfl rfl (by omega) (by omega) (fun h9 => by omega) (fun _ => ?_)
  refine wz_iload_n (p9 := 38) rfl rfl rfl ?_
  refine wz_iload (p9 := 40) rfl rfl rfl ?_
  refine wn_iceq (t9 := 73) (p9 := 43) rfl rfl rfl (by omega) (by omega) (fun h9 => by omega) (fun _ => ?_)
  refine wz_iload_n (p9 := 44) rfl rfl rfl ?_
  refine wz_iload (p9 := 46) rfl rfl rfl ?_
  refine wn_iceq (t9 := 73) (p9 := 49) rfl rfl rfl (by omega) (by omega) (fun h9 => by omega) (fun _ => ?_)
  refine wz_aload_n (p9 := 50) rfl rfl rfl ?_
  refine wz_get (v := .ref 1) (p9 := 53) rfl rfl rfl rfl rfl ?_
  refine wz_iload_n (p9 := 54) rfl rfl rfl ?_
  refine wz_iload_n (p9 := 55) rfl rfl rfl ?_
  refine wz_iload (p9 := 57) rfl rfl rfl ?_
  refine wz_max (v := (nI (max (dg x 1) (dg x 2)))) (p9 := 60) rfl rfl rfl rfl (q_max (by omega) (by omega)) ?_
  refine wz_max (v := (nI (max (dg x 0) (max (dg x 1) (dg x 2))))) (p9 := 63) rfl rfl rfl rfl (q_max (by omega) (by omega)) ?_
  refine wz_c1 (p9 := 66) (w1 := WW A R o) (u := .int (nI 1)) (wa_v (N := 6) (i := 1) (As := [.int (nI (max (dg x 0) (max (dg x 1) (dg x 2))))]) (rest := []) rfl rfl rfl rfl rfl rfl rfl) rfl ((g_hasPlace1 (d := 0) hp (by omega)).up (by omega)) ?_
  refine wn_ifeq (t9 := 73) (p9 := 69) rfl rfl rfl (by omega) (fun h9 => by omega) (fun _ => ?_)
  refine wz_iconst (x := nI 1) (p9 := 70) rfl rfl (by decide) ?_
  refine wz_goto (p9 := 74) rfl rfl ?_
  exact wz_retz rfl rfl (by decide) rfl
theorem g_isTri0 {X : Nat × (Nat → Int32)} {d : Nat} {A : CA} {R : RA} {o : Nat → Int64} {x : Nat} (h7 : A.P ≤ 7) (hx : x < 512) (h : ¬ i3 A.P x) : px_ev X (d + 2) 65 [.ref 21, .int (nI x)] (WW A R o) (some (some (.int (nI 0))), WW A R o, 0, 0) := by
  refine wp_ev (d := d + 1) (by decide) rfl rfl (fun h => by cases h) ?_
  show wp X (d + 1) 65 (0, [.ref 21, .int (nI x), .retAddr 0, .retAddr 0, .retAddr 0], [], WW A R o, 0, 0) _
  have b0 := dg_lt x 0
  have b1 := dg_lt x 1
  have b2 := dg_lt x 2
  have b3 : max (dg x 0) (max (dg x 1) (dg x 2)) < 8 := by omega
  refine wz_iload_n (p9 := 1) rfl rfl rfl ?_
  refine wn_iflt (t9 := 11) (p9 := 4) rfl rfl rfl (by omega) (fun h9 => by omega) (fun _ => ?_)
  refine wz_iload_n (p9 := 5) rfl rfl rfl ?_
  refine wz_sipush (x := nI 512) (p9 := 8) rfl rfl (by decide) ?_
  refine wn_iclt (t9 := 13) (p9 := 11) rfl rfl rfl (by omega) (by omega) (fun _ => ?_) (fun h9 => by omega)
  refine wz_iload_n (p9 := 14) rfl rfl rfl ?_
  refine wz_iconst (x := nI 0) (p9 := 15) rfl rfl (by decide) ?_
  refine wz_c1 (p9 := 18) (w1 := WW A R o) (u := .int (nI (dg x 0))) (tz_calS (N := 152) (As := [.int (nI x), .int (nI 0)]) (rest := []) rfl rfl rfl rfl rfl rfl) rfl ((g_pieceAt (d := 0) (by omega) (by omega)).up (by omega)) ?_
  refine wz_istore_n (l9 := [.ref 21, .int (nI x), .int (nI (dg x 0)), .retAddr 0, .retAddr 0]) (p9 := 19) rfl rfl rfl rfl ?_
  refine wz_iload_n (p9 := 20) rfl rfl rfl ?_
  refine wz_iconst (x := nI 1) (p9 := 21) rfl rfl (by decide) ?_
  refine wz_c1 (p9 := 24) (w1 := WW A R o) (u := .int (nI (dg x 1))) (tz_calS (N := 152) (As := [.int (nI x), .int (nI 1)]) (rest := []) rfl rfl rfl rfl rfl rfl) rfl ((g_pieceAt (d := 0) (by omega) (by omega)).up (by omega)) ?_
  refine wz_istore_n (l9 := [.ref 21, .int (nI x), .int (nI (dg x 0)), .int (nI (dg x 1)), .retAddr 0]) (p9 := 25) rfl rfl rfl rfl ?_
  refine wz_iload_n (p9 := 26) rfl rfl rfl ?_
  refine wz_iconst (x := nI 2) (p9 := 27) rfl rfl (by decide) ?_
  refine wz_c1 (p9 := 30) (w1 := WW A R o) (u := .int (nI (dg x 2))) (tz_calS (N := 152) (As := [.int (nI x), .int (nI 2)]) (rest := []) rfl rfl rfl rfl rfl rfl) rfl ((g_pieceAt (d := 0) (by omega) (by omega)).up (by omega)) ?_
  refine wz_istore (l9 := [.ref 21, .int (nI x), .int (nI (dg x 0)), .int (nI (dg x 1)), .int (nI (dg x 2))]) (p9 := 32) rfl rfl rfl rfl ?_
  refine wz_iload_n (p9 := 33) rfl rfl rfl ?_
  refine wz_iload_n (p9 := 34) rfl rfl rfl ?_
  refine wn_iceq (t9 := 73) (p9 := 37) rfl rfl rfl (by omega) (by omega) (fun h34 => ?_) (fun h34 => ?_)
  · refine wz_iconst (x := nI 0) (p9 := 74) rfl rfl (by decide) ?_
    exact wz_retz rfl rfl (by decide) rfl
  · refine wz_iload_n (p9 := 38) rfl rfl rfl ?_
    refine wz_iload (p9 := 40) rfl rfl rfl ?_
    refine wn_iceq (t9 := 73) (p9 := 43) rfl rfl rfl (by omega) (by omega) (fun h40 => ?_) (fun h40 => ?_)
    · refine wz_iconst (x := nI 0) (p9 := 74) rfl rfl (by decide) ?_
      exact wz_retz rfl rfl (by decide) rfl
    · refine wz_iload_n (p9 := 44) rfl rfl rfl ?_
      refine wz_iload (p9 := 46) rfl rfl rfl ?_
      refine wn_iceq (t9 := 73) (p9 := 49) rfl rfl rfl (by omega) (by omega) (fun h46 => ?_) (fun h46 => ?_)
      · refine wz_iconst (x := nI 0) (p9 := 74) rfl rfl (by decide) ?_
        exact wz_retz rfl rfl (by decide) rfl
      · refine wz_aload_n (p9 := 50) rfl rfl rfl ?_
        refine wz_get (v := .ref 1) (p9 := 53) rfl rfl rfl rfl rfl ?_
        refine wz_iload_n (p9 := 54) rfl rfl rfl ?_
        refine wz_iload_n (p9 := 55) rfl rfl rfl ?_
        refine wz_iload (p9 := 57) rfl rfl rfl ?_
        refine wz_max (v := (nI (max (dg x 1) (dg x 2)))) (p9 := 60) rfl rfl rfl rfl (q_max (by omega) (by omega)) ?_
        refine wz_max (v := (nI (max (dg x 0) (max (dg x 1) (dg x 2))))) (p9 := 63) rfl rfl rfl rfl (q_max (by omega) (by omega)) ?_
        have hp : A.P ≤ max (dg x 0) (max (dg x 1) (dg x 2)) := by
          refine Nat.le_of_not_lt (fun q => h ⟨h34, h40, h46, ?_, ?_, ?_⟩) <;> omega
        refine wz_c1 (p9 := 66) (w1 := WW A R o) (u := .int (nI 0)) (wa_v (N := 6) (i := 1) (As := [.int (nI (max (dg x 0) (max (dg x 1) (dg x 2))))]) (rest := []) rfl rfl rfl rfl rfl rfl rfl) rfl ((g_hasPlace0 (d := 0) (fun _ => nI_le (by omega) (by omega))).up (by omega)) ?_
        refine wn_ifeq (t9 := 73) (p9 := 69) rfl rfl rfl (by omega) (fun _ => ?_) (fun h9 => by omega)
        refine wz_iconst (x := nI 0) (p9 := 74) rfl rfl (by decide) ?_
        exact wz_retz rfl rfl (by decide) rfl
theorem g_isTriN {X : Nat × (Nat → Int32)} {d : Nat} {A : CA} {R : RA} {o : Nat → Int64} {x : Int32} (h : ¬ x < 0 → nI 512 ≤ x) : px_ev X (d + 1) 65 [.ref 21, .int x] (WW A R o) (some (some (.int (nI 0))), WW A R o, 0, 0) := by
  refine wp_ev (d := d + 0) (by decide) rfl rfl (fun h => by cases h) ?_
  show wp X (d + 0) 65 (0, [.ref 21, .int x, .retAddr 0, .retAddr 0, .retAddr 0], [], WW A R o, 0, 0) _
  refine wz_iload_n (p9 := 1) rfl rfl rfl ?_
  refine wz_iflt (t9 := 11) (p9 := 4) rfl rfl rfl (fun h1 => ?_) (fun h1 => ?_)
  · refine wz_iconst (x := nI 0) (p9 := 12) rfl rfl (by decide) ?_
    exact wz_retz rfl rfl (by decide) rfl
  · refine wz_iload_n (p9 := 5) rfl rfl rfl ?_
    refine wz_sipush (x := nI 512) (p9 := 8) rfl rfl (by decide) ?_
    refine wz_iclt (t9 := 13) (p9 := 11) rfl rfl rfl (fun h9 => absurd h9 (Int32.not_lt.mpr (h h1))) (fun _ => ?_)
    refine wz_iconst (x := nI 0) (p9 := 12) rfl rfl (by decide) ?_
    exact wz_retz rfl rfl (by decide) rfl
def d3 (u p c : Nat) : Nat → Nat → Nat
  | 0, v => v
  | k + 1, v => if dg u k = c then d3 u p c k v ||| p * 8 ^ k else d3 u p c k v
def pP (u x : Nat) : Nat → Nat
  | 0 => 0
  | p + 1 => d3 u p (dg x p) 3 (pP u x p)
theorem l_d3 {X : Nat × (Nat → Int32)} {d : Nat} {A : CA} {R : RA} {o : Nat → Int64} {u x p v : Nat} (hu : u < 512) (hp : p < 7) {k z : Nat} {Q : px_Z → Prop} (kk : wp X (d + 1) 66 (61, [.ref 21, .int (nI u), .int (nI x), .int (nI (d3 u p (dg x p) 3 v)), .int (nI p), .int (nI (dg x p)), .int (nI 3)], [], WW A R o, k, z) Q) : ∀ (j q : Nat), q + j = 3 → wp X (d + 1) 66 (28, [.ref 21, .int (nI u), .int (nI x), .int (nI (d3 u p (dg x p) q v)), .int (nI p), .int (nI (dg x p)), .int (nI q)], [], WW A R o, k, z) Q
  | 0, q, hj => by
    obtain rfl : q = 3 := by omega
    refine wz_iload (p9 := 30) rfl rfl rfl ?_
    refine wz_iconst (x := nI 3) (p9 := 31) rfl rfl (by decide) ?_
    refine wn_icge (t9 := 61) (p9 := 34) rfl rfl rfl (by omega) (by omega) (fun _ => ?_) (fun h9 => by omega)
    exact kk
  | j + 1, q, hj => by
    refine wz_iload (p9 := 30) rfl rfl rfl ?_
    refine wz_iconst (x := nI 3) (p9 := 31) rfl rfl (by decide) ?_
    refine wn_icge (t9 := 61) (p9 := 34) rfl rfl rfl (by omega) (by omega) (fun h9 => by omega) (fun _ => ?_)
    have b0 := dg_lt u q
    have b1 := dg_lt x p
    refine wz_iload_n (p9 := 35) rfl rfl rfl ?_
    refine wz_iload (p9 := 37) rfl rfl rfl ?_
    refine wz_c1 (p9 := 40) (w1 := WW A R o) (u := .int (nI (dg u q))) (tz_calS (N := 152) (As := [.int (nI u), .int (nI q)]) (rest := []) rfl rfl rfl rfl rfl rfl) rfl ((g_pieceAt (d := 0) (by omega) (by omega)).up (by omega)) ?_
    refine wz_iload (p9 := 42) rfl rfl rfl ?_
    refine wn_icne (t9 := 55) (p9 := 45) rfl rfl rfl (by omega) (by omega) (fun h42 => ?_) (fun h42 => ?_)
    · refine wn_inc (b := 1) (l9 := [.ref 21, .int (nI u), .int (nI x), .int (nI (d3 u p (dg x p) q v)), .int (nI p), .int (nI (dg x p)), .int (nI (q + 1))]) (p9 := 58) rfl rfl rfl (by decide) rfl ?_
      refine wz_goto (p9 := 28) rfl rfl ?_
      have e9 : d3 u p (dg x p) (q + 1) v = d3 u p (dg x p) q v := if_neg h42
      rw [← e9]
      exact l_d3 hu hp kk j (q + 1) (by omega)
    · refine wz_iload_n (p9 := 46) rfl rfl rfl ?_
      refine wz_iload (p9 := 48) rfl rfl rfl ?_
      refine wz_iload (p9 := 50) rfl rfl rfl ?_
      refine wz_c1 (p9 := 53) (w1 := WW A R o) (u := .int (nI (p * 8 ^ q))) (tz_calS (N := 153) (As := [.int (nI p), .int (nI q)]) (rest := [.int (nI (d3 u p (dg x p) q v))]) rfl rfl rfl rfl rfl rfl) rfl ((g_pieceTo (d := 0) (by omega)).up (by omega)) ?_
      refine wn_or (p9 := 54) rfl rfl ?_
      refine wz_istore_n (l9 := [.ref 21, .int (nI u), .int (nI x), .int (nI ((d3 u p (dg x p) q v) ||| (p * 8 ^ q))), .int (nI p), .int (nI (dg x p)), .int (nI q)]) (p9 := 55) rfl rfl rfl rfl ?_
      refine wn_inc (b := 1) (l9 := [.ref 21, .int (nI u), .int (nI x), .int (nI ((d3 u p (dg x p) q v) ||| (p * 8 ^ q))), .int (nI p), .int (nI (dg x p)), .int (nI (q + 1))]) (p9 := 58) rfl rfl rfl (by decide) rfl ?_
      refine wz_goto (p9 := 28) rfl rfl ?_
      have e9 : d3 u p (dg x p) (q + 1) v = (d3 u p (dg x p) q v) ||| (p * 8 ^ q) := if_pos h42
      rw [← e9]
      exact l_d3 hu hp kk j (q + 1) (by omega)
theorem l_pP {X : Nat × (Nat → Int32)} {d : Nat} {A : CA} {R : RA} {o : Nat → Int64} (h7 : A.P ≤ 7) {u x : Nat} (hu : u < 512) (hx : x < 2147483648) {k z : Nat} {Q : px_Z → Prop} (kk : Q (some (some (.int (nI (pP u x A.P)))), WW A R o, k, z)) : ∀ (j p : Nat), p + j = A.P → ∀ v5 v6, wp X (d + 1) 66 (5, [.ref 21, .int (nI u), .int (nI x), .int (nI (pP u x p)), .int (nI p), v5, v6], [], WW A R o, k, z) Q
  | 0, p, hj => by
    obtain rfl : p = A.P := by omega
    intro v5 v6
    refine wz_iload (p9 := 7) rfl rfl rfl ?_
    refine wz_aload_n (p9 := 8) rfl rfl rfl ?_
    refine wz_get (v := .ref 1) (p9 := 11) rfl rfl rfl rfl rfl ?_
    refine wz_c1 (p9 := 14) (w1 := WW A R o) (u := .int (nI A.P)) (wa_v (N := 1) (i := 1) (As := []) (rest := [.int (nI A.P)]) rfl rfl rfl rfl rfl rfl rfl) rfl ((g_placeCount (d := 0) ).up (by omega)) ?_
    refine wn_icge (t9 := 67) (p9 := 17) rfl rfl rfl (by omega) (by omega) (fun _ => ?_) (fun h9 => by omega)
    refine wz_iload_n (p9 := 68) rfl rfl rfl ?_
    exact wz_reti rfl rfl kk
  | j + 1, p, hj => by
    intro v5 v6
    refine wz_iload (p9 := 7) rfl rfl rfl ?_
    refine wz_aload_n (p9 := 8) rfl rfl rfl ?_
    refine wz_get (v := .ref 1) (p9 := 11) rfl rfl rfl rfl rfl ?_
    refine wz_c1 (p9 := 14) (w1 := WW A R o) (u := .int (nI A.P)) (wa_v (N := 1) (i := 1) (As := []) (rest := [.int (nI p)]) rfl rfl rfl rfl rfl rfl rfl) rfl ((g_placeCount (d := 0) ).up (by omega)) ?_
    refine wn_icge (t9 := 67) (p9 := 17) rfl rfl rfl (by omega) (by omega) (fun h9 => by omega) (fun _ => ?_)
    refine wz_iload_n (p9 := 18) rfl rfl rfl ?_
    refine wz_iload (p9 := 20) rfl rfl rfl ?_
    refine wz_c1 (p9 := 23) (w1 := WW A R o) (u := .int (nI (dg x p))) (tz_calS (N := 152) (As := [.int (nI x), .int (nI p)]) (rest := []) rfl rfl rfl rfl rfl rfl) rfl ((g_pieceAt (d := 0) (by omega) (by omega)).up (by omega)) ?_
    refine wz_istore (l9 := [.ref 21, .int (nI u), .int (nI x), .int (nI (pP u x p)), .int (nI p), .int (nI (dg x p)), v6]) (p9 := 25) rfl rfl rfl rfl ?_
    refine wz_iconst (x := nI 0) (p9 := 26) rfl rfl (by decide) ?_
    refine wz_istore (l9 := [.ref 21, .int (nI u), .int (nI x), .int (nI (pP u x p)), .int (nI p), .int (nI (dg x p)), .int (nI 0)]) (p9 := 28) rfl rfl rfl rfl ?_
    refine l_d3 (v := pP u x p) hu (by omega) ?_ 3 0 rfl
    show wp X (d + 1) 66 (61, [.ref 21, .int (nI u), .int (nI x), .int (nI (pP u x (p + 1))), .int (nI p), .int (nI (dg x p)), .int (nI 3)], [], WW A R o, k, z) Q
    refine wn_inc (b := 1) (l9 := [.ref 21, .int (nI u), .int (nI x), .int (nI (pP u x (p + 1))), .int (nI (p + 1)), .int (nI (dg x p)), .int (nI 3)]) (p9 := 64) rfl rfl rfl (by decide) rfl ?_
    refine wz_goto (p9 := 5) rfl rfl ?_
    exact l_pP h7 hu hx kk j (p + 1) (by omega) _ _
theorem g_placesOf {X : Nat × (Nat → Int32)} {d : Nat} {A : CA} {R : RA} {o : Nat → Int64} (h7 : A.P ≤ 7) {u x : Nat} (hu : u < 512) (hx : x < 2147483648) : px_ev X (d + 2) 66 [.ref 21, .int (nI u), .int (nI x)] (WW A R o) (some (some (.int (nI (pP u x A.P)))), WW A R o, 0, 0) := by
  refine wp_ev (d := d + 1) (by decide) rfl rfl (fun h => by cases h) ?_
  show wp X (d + 1) 66 (0, [.ref 21, .int (nI u), .int (nI x), .retAddr 0, .retAddr 0, .retAddr 0, .retAddr 0], [], WW A R o, 0, 0) _
  refine wz_iconst (x := nI 0) (p9 := 1) rfl rfl (by decide) ?_
  refine wz_istore_n (l9 := [.ref 21, .int (nI u), .int (nI x), .int (nI 0), .retAddr 0, .retAddr 0, .retAddr 0]) (p9 := 2) rfl rfl rfl rfl ?_
  refine wz_iconst (x := nI 0) (p9 := 3) rfl rfl (by decide) ?_
  refine wz_istore (l9 := [.ref 21, .int (nI u), .int (nI x), .int (nI 0), .int (nI 0), .retAddr 0, .retAddr 0]) (p9 := 5) rfl rfl rfl rfl ?_
  exact l_pP (Q := fun q => q = (some (some (.int (nI (pP u x A.P)))), WW A R o, 0, 0)) h7 hu hx rfl A.P 0 (Nat.zero_add _) _ _
