/-! THE LAW: its helpers and its cases (wip/whole/gen/mkc4.py) -/
theorem wz_cv {X : Nat × (Nat → Int32)} {d M pc p9 k z : Nat} {lv st : List Value} {w : px_W} {Q : px_Z → Prop} {N : Nat} {a rest : List Value} {u : Value} {w1 : px_W} {k1 z1 : Nat} (h : px_cal M pc st w = some (N, a, rest)) (hp : pc + 3 = p9) (hc : px_ev X d N a w (some (some u), w1, k1, z1)) (kk : wp X d M (p9, lv, u :: rest, w1, k + k1, z + z1) Q) : wp X d M (pc, lv, st, w, k, z) Q := by
  subst hp
  obtain ⟨r, h1, h2⟩ := kk
  exact ⟨r, px_toC h hc h1, h2⟩
/-- a boolean as a long -/
def lb (v : Int32) : Int64 := if v = 0 then 0 else 1
theorem up_0 {f : Nat → Int64} {x : Int64} : vp_updL f 0 x 0 = x := if_pos rfl
theorem lg_s (x : Int64) : lg_cmp x x = 0 := by
  unfold lg_cmp
  rw [if_neg (Int64.lt_irrefl), if_pos rfl]
theorem h_exch {X : Nat × (Nat → Int32)} {A : CA} {R : RA} {o : Nat → Int64} {x y u : Int32} (J : JT X 0 79 [.ref 0, .int x, .int y, .int u] 99 [.ref 26, .int x, .int y, .int u] A R o) :
  (px_ev X 11 157 [.ref 0, .int x, .int y, .int u, .ref 46] (WW A R o) (some (some (.int (nI 1))), WW A R o, 1, 6) ∧ ∀ o2, ∃ (R2 : RA) (b : Int32), px_ev X (0 + 10) 99 [.ref 26, .int x, .int y, .int u] (WW A R o2) (some (some (.int b)), WW A R2 o2, 0, 0) ∧ R2.th = 1 ∧ RE A R2) ∨
  (∃ (A2 : CA) (v : Int32), px_ev X 11 157 [.ref 0, .int x, .int y, .int u, .ref 46] (WW A R o) (some (some (.int (nI 0))), WW A2 R (vp_updL o 0 (lb v)), 0, 0) ∧ ∀ o2, ∃ R2 : RA, px_ev X (0 + 10) 99 [.ref 26, .int x, .int y, .int u] (WW A2 R o2) (some (some (.int v)), WW A2 R2 o2, 0, 0) ∧ R2.th = 0 ∧ RE A2 R2) := by
  rcases J with ⟨h1, h2⟩ | ⟨A2, v, h1, h2⟩
  · refine Or.inl ⟨?_, h2⟩
    refine wp_ev (d := 10) (by decide) rfl rfl (fun h => by cases h) ?_
    show wp X 10 157 (0, [.ref 0, .int x, .int y, .int u, .ref 46, .retAddr 0], [], WW A R o, 0, 0) _
    refine wz_aload (p9 := 2) rfl rfl rfl ?_
    refine wz_iconst (x := nI 0) (p9 := 3) rfl rfl (by decide) ?_
    refine wz_aload_n (p9 := 4) rfl rfl rfl ?_
    refine wz_iload_n (p9 := 5) rfl rfl rfl ?_
    refine wz_iload_n (p9 := 6) rfl rfl rfl ?_
    refine wz_iload_n (p9 := 7) rfl rfl rfl ?_
    refine wz_ch (t9 := 22) (wa_v (N := 79) (i := 0) (As := [.int x, .int y, .int u]) (rest := [.int (nI 0), .ref 46]) rfl rfl rfl rfl rfl rfl rfl) (by decide) h1 rfl ?_
    refine wz_astoreX (l9 := [.ref 0, .int x, .int y, .int u, .ref 46, .retAddr 2]) (p9 := 24) rfl rfl rfl rfl ?_
    refine wz_iconst (x := nI 1) (p9 := 25) rfl rfl (by decide) ?_
    exact wz_reti rfl rfl rfl
  · refine Or.inr ⟨A2, v, ?_, h2⟩
    by_cases hv : v = 0
    · rw [show lb v = 0 from if_pos hv]
      refine wp_ev (d := 10) (by decide) rfl rfl (fun h => by cases h) ?_
      show wp X 10 157 (0, [.ref 0, .int x, .int y, .int u, .ref 46, .retAddr 0], [], WW A R o, 0, 0) _
      refine wz_aload (p9 := 2) rfl rfl rfl ?_
      refine wz_iconst (x := nI 0) (p9 := 3) rfl rfl (by decide) ?_
      refine wz_aload_n (p9 := 4) rfl rfl rfl ?_
      refine wz_iload_n (p9 := 5) rfl rfl rfl ?_
      refine wz_iload_n (p9 := 6) rfl rfl rfl ?_
      refine wz_iload_n (p9 := 7) rfl rfl rfl ?_
      refine wz_c1 (p9 := 10) (w1 := WW A2 R o) (u := .int v) (wa_v (N := 79) (i := 0) (As := [.int x, .int y, .int u]) (rest := [.int (nI 0), .ref 46]) rfl rfl rfl rfl rfl rfl rfl) rfl h1 ?_
      refine wz_ifeq (t9 := 17) (p9 := 13) rfl rfl rfl (fun _ => ?_) (fun h9 => absurd hv h9)
      refine wz_lconst (x := 0) (p9 := 18) rfl rfl rfl ?_
      refine wz_last (w1 := WW A2 R (vp_updL o 0 0)) (p9 := 19) rfl rfl rfl (by decide) rfl ?_
      refine wz_goto (p9 := 26) rfl rfl ?_
      refine wz_iconst (x := nI 0) (p9 := 27) rfl rfl (by decide) ?_
      exact wz_reti rfl rfl rfl
    · rw [show lb v = 1 from if_neg hv]
      refine wp_ev (d := 10) (by decide) rfl rfl (fun h => by cases h) ?_
      show wp X 10 157 (0, [.ref 0, .int x, .int y, .int u, .ref 46, .retAddr 0], [], WW A R o, 0, 0) _
      refine wz_aload (p9 := 2) rfl rfl rfl ?_
      refine wz_iconst (x := nI 0) (p9 := 3) rfl rfl (by decide) ?_
      refine wz_aload_n (p9 := 4) rfl rfl rfl ?_
      refine wz_iload_n (p9 := 5) rfl rfl rfl ?_
      refine wz_iload_n (p9 := 6) rfl rfl rfl ?_
      refine wz_iload_n (p9 := 7) rfl rfl rfl ?_
      refine wz_c1 (p9 := 10) (w1 := WW A2 R o) (u := .int v) (wa_v (N := 79) (i := 0) (As := [.int x, .int y, .int u]) (rest := [.int (nI 0), .ref 46]) rfl rfl rfl rfl rfl rfl rfl) rfl h1 ?_
      refine wz_ifeq (t9 := 17) (p9 := 13) rfl rfl rfl (fun h9 => absurd h9 hv) (fun _ => ?_)
      refine wz_lconst (x := 1) (p9 := 14) rfl rfl rfl ?_
      refine wz_goto (p9 := 18) rfl rfl ?_
      refine wz_last (w1 := WW A2 R (vp_updL o 0 1)) (p9 := 19) rfl rfl rfl (by decide) rfl ?_
      refine wz_goto (p9 := 26) rfl rfl ?_
      refine wz_iconst (x := nI 0) (p9 := 27) rfl rfl (by decide) ?_
      exact wz_reti rfl rfl rfl
theorem h_order {X : Nat × (Nat → Int32)} {A : CA} {R : RA} {o : Nat → Int64} {x : Int32} (J : JT X 0 82 [.ref 0, .int x] 102 [.ref 26, .int x] A R o) :
  (px_ev X 11 158 [.ref 0, .int x, .ref 46] (WW A R o) (some (some (.int (nI 1))), WW A R o, 1, 6) ∧ ∀ o2, ∃ (R2 : RA) (b : Int32), px_ev X (0 + 10) 102 [.ref 26, .int x] (WW A R o2) (some (some (.int b)), WW A R2 o2, 0, 0) ∧ R2.th = 1 ∧ RE A R2) ∨
  (∃ (A2 : CA) (v : Int32), px_ev X 11 158 [.ref 0, .int x, .ref 46] (WW A R o) (some (some (.int (nI 0))), WW A2 R (vp_updL o 0 (v.toInt64)), 0, 0) ∧ ∀ o2, ∃ R2 : RA, px_ev X (0 + 10) 102 [.ref 26, .int x] (WW A2 R o2) (some (some (.int v)), WW A2 R2 o2, 0, 0) ∧ R2.th = 0 ∧ RE A2 R2) := by
  rcases J with ⟨h1, h2⟩ | ⟨A2, v, h1, h2⟩
  · refine Or.inl ⟨?_, h2⟩
    refine wp_ev (d := 10) (by decide) rfl rfl (fun h => by cases h) ?_
    show wp X 10 158 (0, [.ref 0, .int x, .ref 46, .retAddr 0], [], WW A R o, 0, 0) _
    refine wz_aload_n (p9 := 1) rfl rfl rfl ?_
    refine wz_iconst (x := nI 0) (p9 := 2) rfl rfl (by decide) ?_
    refine wz_aload_n (p9 := 3) rfl rfl rfl ?_
    refine wz_iload_n (p9 := 4) rfl rfl rfl ?_
    refine wz_ch (t9 := 12) (wa_v (N := 82) (i := 0) (As := [.int x]) (rest := [.int (nI 0), .ref 46]) rfl rfl rfl rfl rfl rfl rfl) (by decide) h1 rfl ?_
    refine wz_astore_nX (l9 := [.ref 0, .int x, .ref 46, .retAddr 2]) (p9 := 13) rfl rfl rfl rfl ?_
    refine wz_iconst (x := nI 1) (p9 := 14) rfl rfl (by decide) ?_
    exact wz_reti rfl rfl rfl
  · refine Or.inr ⟨A2, v, ?_, h2⟩
    refine wp_ev (d := 10) (by decide) rfl rfl (fun h => by cases h) ?_
    show wp X 10 158 (0, [.ref 0, .int x, .ref 46, .retAddr 0], [], WW A R o, 0, 0) _
    refine wz_aload_n (p9 := 1) rfl rfl rfl ?_
    refine wz_iconst (x := nI 0) (p9 := 2) rfl rfl (by decide) ?_
    refine wz_aload_n (p9 := 3) rfl rfl rfl ?_
    refine wz_iload_n (p9 := 4) rfl rfl rfl ?_
    refine wz_c1 (p9 := 7) (w1 := WW A2 R o) (u := .int v) (wa_v (N := 82) (i := 0) (As := [.int x]) (rest := [.int (nI 0), .ref 46]) rfl rfl rfl rfl rfl rfl rfl) rfl h1 ?_
    refine wz_i2l (p9 := 8) rfl rfl ?_
    refine wz_last (w1 := WW A2 R (vp_updL o 0 v.toInt64)) (p9 := 9) rfl rfl rfl (by decide) rfl ?_
    refine wz_goto (p9 := 15) rfl rfl ?_
    refine wz_iconst (x := nI 0) (p9 := 16) rfl rfl (by decide) ?_
    exact wz_reti rfl rfl rfl
theorem h_length {X : Nat × (Nat → Int32)} {A : CA} {R : RA} {o : Nat → Int64} {x : Int32} (J : JT X 0 83 [.ref 0, .int x] 116 [.ref 26, .int x] A R o) :
  (px_ev X 11 159 [.ref 0, .int x, .ref 46] (WW A R o) (some (some (.int (nI 1))), WW A R o, 1, 6) ∧ ∀ o2, ∃ (R2 : RA) (b : Int32), px_ev X (0 + 10) 116 [.ref 26, .int x] (WW A R o2) (some (some (.int b)), WW A R2 o2, 0, 0) ∧ R2.th = 1 ∧ RE A R2) ∨
  (∃ (A2 : CA) (v : Int32), px_ev X 11 159 [.ref 0, .int x, .ref 46] (WW A R o) (some (some (.int (nI 0))), WW A2 R (vp_updL o 0 (v.toInt64)), 0, 0) ∧ ∀ o2, ∃ R2 : RA, px_ev X (0 + 10) 116 [.ref 26, .int x] (WW A2 R o2) (some (some (.int v)), WW A2 R2 o2, 0, 0) ∧ R2.th = 0 ∧ RE A2 R2) := by
  rcases J with ⟨h1, h2⟩ | ⟨A2, v, h1, h2⟩
  · refine Or.inl ⟨?_, h2⟩
    refine wp_ev (d := 10) (by decide) rfl rfl (fun h => by cases h) ?_
    show wp X 10 159 (0, [.ref 0, .int x, .ref 46, .retAddr 0], [], WW A R o, 0, 0) _
    refine wz_aload_n (p9 := 1) rfl rfl rfl ?_
    refine wz_iconst (x := nI 0) (p9 := 2) rfl rfl (by decide) ?_
    refine wz_aload_n (p9 := 3) rfl rfl rfl ?_
    refine wz_iload_n (p9 := 4) rfl rfl rfl ?_
    refine wz_ch (t9 := 12) (wa_v (N := 83) (i := 0) (As := [.int x]) (rest := [.int (nI 0), .ref 46]) rfl rfl rfl rfl rfl rfl rfl) (by decide) h1 rfl ?_
    refine wz_astore_nX (l9 := [.ref 0, .int x, .ref 46, .retAddr 2]) (p9 := 13) rfl rfl rfl rfl ?_
    refine wz_iconst (x := nI 1) (p9 := 14) rfl rfl (by decide) ?_
    exact wz_reti rfl rfl rfl
  · refine Or.inr ⟨A2, v, ?_, h2⟩
    refine wp_ev (d := 10) (by decide) rfl rfl (fun h => by cases h) ?_
    show wp X 10 159 (0, [.ref 0, .int x, .ref 46, .retAddr 0], [], WW A R o, 0, 0) _
    refine wz_aload_n (p9 := 1) rfl rfl rfl ?_
    refine wz_iconst (x := nI 0) (p9 := 2) rfl rfl (by decide) ?_
    refine wz_aload_n (p9 := 3) rfl rfl rfl ?_
    refine wz_iload_n (p9 := 4) rfl rfl rfl ?_
    refine wz_c1 (p9 := 7) (w1 := WW A2 R o) (u := .int v) (wa_v (N := 83) (i := 0) (As := [.int x]) (rest := [.int (nI 0), .ref 46]) rfl rfl rfl rfl rfl rfl rfl) rfl h1 ?_
    refine wz_i2l (p9 := 8) rfl rfl ?_
    refine wz_last (w1 := WW A2 R (vp_updL o 0 v.toInt64)) (p9 := 9) rfl rfl rfl (by decide) rfl ?_
    refine wz_goto (p9 := 15) rfl rfl ?_
    refine wz_iconst (x := nI 0) (p9 := 16) rfl rfl (by decide) ?_
    exact wz_reti rfl rfl rfl
theorem h_row {X : Nat × (Nat → Int32)} {A : CA} {R : RA} {o : Nat → Int64} {x y : Int32} (J : JT X 0 85 [.ref 0, .int x, .int y] 118 [.ref 26, .int x, .int y] A R o) :
  (px_ev X 11 160 [.ref 0, .int x, .int y, .ref 46] (WW A R o) (some (some (.int (nI 1))), WW A R o, 1, 6) ∧ ∀ o2, ∃ (R2 : RA) (b : Int32), px_ev X (0 + 10) 118 [.ref 26, .int x, .int y] (WW A R o2) (some (some (.int b)), WW A R2 o2, 0, 0) ∧ R2.th = 1 ∧ RE A R2) ∨
  (∃ (A2 : CA) (v : Int32), px_ev X 11 160 [.ref 0, .int x, .int y, .ref 46] (WW A R o) (some (some (.int (nI 0))), WW A2 R (vp_updL o 0 (v.toInt64)), 0, 0) ∧ ∀ o2, ∃ R2 : RA, px_ev X (0 + 10) 118 [.ref 26, .int x, .int y] (WW A2 R o2) (some (some (.int v)), WW A2 R2 o2, 0, 0) ∧ R2.th = 0 ∧ RE A2 R2) := by
  rcases J with ⟨h1, h2⟩ | ⟨A2, v, h1, h2⟩
  · refine Or.inl ⟨?_, h2⟩
    refine wp_ev (d := 10) (by decide) rfl rfl (fun h => by cases h) ?_
    show wp X 10 160 (0, [.ref 0, .int x, .int y, .ref 46, .retAddr 0], [], WW A R o, 0, 0) _
    refine wz_aload_n (p9 := 1) rfl rfl rfl ?_
    refine wz_iconst (x := nI 0) (p9 := 2) rfl rfl (by decide) ?_
    refine wz_aload_n (p9 := 3) rfl rfl rfl ?_
    refine wz_iload_n (p9 := 4) rfl rfl rfl ?_
    refine wz_iload_n (p9 := 5) rfl rfl rfl ?_
    refine wz_ch (t9 := 13) (wa_v (N := 85) (i := 0) (As := [.int x, .int y]) (rest := [.int (nI 0), .ref 46]) rfl rfl rfl rfl rfl rfl rfl) (by decide) h1 rfl ?_
    refine wz_astoreX (l9 := [.ref 0, .int x, .int y, .ref 46, .retAddr 2]) (p9 := 15) rfl rfl rfl rfl ?_
    refine wz_iconst (x := nI 1) (p9 := 16) rfl rfl (by decide) ?_
    exact wz_reti rfl rfl rfl
  · refine Or.inr ⟨A2, v, ?_, h2⟩
    refine wp_ev (d := 10) (by decide) rfl rfl (fun h => by cases h) ?_
    show wp X 10 160 (0, [.ref 0, .int x, .int y, .ref 46, .retAddr 0], [], WW A R o, 0, 0) _
    refine wz_aload_n (p9 := 1) rfl rfl rfl ?_
    refine wz_iconst (x := nI 0) (p9 := 2) rfl rfl (by decide) ?_
    refine wz_aload_n (p9 := 3) rfl rfl rfl ?_
    refine wz_iload_n (p9 := 4) rfl rfl rfl ?_
    refine wz_iload_n (p9 := 5) rfl rfl rfl ?_
    refine wz_c1 (p9 := 8) (w1 := WW A2 R o) (u := .int v) (wa_v (N := 85) (i := 0) (As := [.int x, .int y]) (rest := [.int (nI 0), .ref 46]) rfl rfl rfl rfl rfl rfl rfl) rfl h1 ?_
    refine wz_i2l (p9 := 9) rfl rfl ?_
    refine wz_last (w1 := WW A2 R (vp_updL o 0 v.toInt64)) (p9 := 10) rfl rfl rfl (by decide) rfl ?_
    refine wz_goto (p9 := 17) rfl rfl ?_
    refine wz_iconst (x := nI 0) (p9 := 18) rfl rfl (by decide) ?_
    exact wz_reti rfl rfl rfl
theorem h_image {X : Nat × (Nat → Int32)} {A : CA} {R : RA} {o : Nat → Int64} {x y : Int32} (J : JT X 0 86 [.ref 0, .int x, .int y] 119 [.ref 26, .int x, .int y] A R o) :
  (px_ev X 11 161 [.ref 0, .int x, .int y, .ref 46] (WW A R o) (some (some (.int (nI 1))), WW A R o, 1, 6) ∧ ∀ o2, ∃ (R2 : RA) (b : Int32), px_ev X (0 + 10) 119 [.ref 26, .int x, .int y] (WW A R o2) (some (some (.int b)), WW A R2 o2, 0, 0) ∧ R2.th = 1 ∧ RE A R2) ∨
  (∃ (A2 : CA) (v : Int32), px_ev X 11 161 [.ref 0, .int x, .int y, .ref 46] (WW A R o) (some (some (.int (nI 0))), WW A2 R (vp_updL o 0 (v.toInt64)), 0, 0) ∧ ∀ o2, ∃ R2 : RA, px_ev X (0 + 10) 119 [.ref 26, .int x, .int y] (WW A2 R o2) (some (some (.int v)), WW A2 R2 o2, 0, 0) ∧ R2.th = 0 ∧ RE A2 R2) := by
  rcases J with ⟨h1, h2⟩ | ⟨A2, v, h1, h2⟩
  · refine Or.inl ⟨?_, h2⟩
    refine wp_ev (d := 10) (by decide) rfl rfl (fun h => by cases h) ?_
    show wp X 10 161 (0, [.ref 0, .int x, .int y, .ref 46, .retAddr 0], [], WW A R o, 0, 0) _
    refine wz_aload_n (p9 := 1) rfl rfl rfl ?_
    refine wz_iconst (x := nI 0) (p9 := 2) rfl rfl (by decide) ?_
    refine wz_aload_n (p9 := 3) rfl rfl rfl ?_
    refine wz_iload_n (p9 := 4) rfl rfl rfl ?_
    refine wz_iload_n (p9 := 5) rfl rfl rfl ?_
    refine wz_ch (t9 := 13) (wa_v (N := 86) (i := 0) (As := [.int x, .int y]) (rest := [.int (nI 0), .ref 46]) rfl rfl rfl rfl rfl rfl rfl) (by decide) h1 rfl ?_
    refine wz_astoreX (l9 := [.ref 0, .int x, .int y, .ref 46, .retAddr 2]) (p9 := 15) rfl rfl rfl rfl ?_
    refine wz_iconst (x := nI 1) (p9 := 16) rfl rfl (by decide) ?_
    exact wz_reti rfl rfl rfl
  · refine Or.inr ⟨A2, v, ?_, h2⟩
    refine wp_ev (d := 10) (by decide) rfl rfl (fun h => by cases h) ?_
    show wp X 10 161 (0, [.ref 0, .int x, .int y, .ref 46, .retAddr 0], [], WW A R o, 0, 0) _
    refine wz_aload_n (p9 := 1) rfl rfl rfl ?_
    refine wz_iconst (x := nI 0) (p9 := 2) rfl rfl (by decide) ?_
    refine wz_aload_n (p9 := 3) rfl rfl rfl ?_
    refine wz_iload_n (p9 := 4) rfl rfl rfl ?_
    refine wz_iload_n (p9 := 5) rfl rfl rfl ?_
    refine wz_c1 (p9 := 8) (w1 := WW A2 R o) (u := .int v) (wa_v (N := 86) (i := 0) (As := [.int x, .int y]) (rest := [.int (nI 0), .ref 46]) rfl rfl rfl rfl rfl rfl rfl) rfl h1 ?_
    refine wz_i2l (p9 := 9) rfl rfl ?_
    refine wz_last (w1 := WW A2 R (vp_updL o 0 v.toInt64)) (p9 := 10) rfl rfl rfl (by decide) rfl ?_
    refine wz_goto (p9 := 17) rfl rfl ?_
    refine wz_iconst (x := nI 0) (p9 := 18) rfl rfl (by decide) ?_
    exact wz_reti rfl rfl rfl
theorem h_swap {X : Nat × (Nat → Int32)} {A : CA} {R : RA} {o : Nat → Int64} {x y : Int32} (J : JT X 0 88 [.ref 0, .int x, .int y] 126 [.ref 26, .int x, .int y] A R o) :
  (px_ev X 11 163 [.ref 0, .int x, .int y, .ref 46] (WW A R o) (some (some (.int (nI 1))), WW A R o, 1, 6) ∧ ∀ o2, ∃ (R2 : RA) (b : Int32), px_ev X (0 + 10) 126 [.ref 26, .int x, .int y] (WW A R o2) (some (some (.int b)), WW A R2 o2, 0, 0) ∧ R2.th = 1 ∧ RE A R2) ∨
  (∃ (A2 : CA) (v : Int32), px_ev X 11 163 [.ref 0, .int x, .int y, .ref 46] (WW A R o) (some (some (.int (nI 0))), WW A2 R (vp_updL o 0 (lb v)), 0, 0) ∧ ∀ o2, ∃ R2 : RA, px_ev X (0 + 10) 126 [.ref 26, .int x, .int y] (WW A2 R o2) (some (some (.int v)), WW A2 R2 o2, 0, 0) ∧ R2.th = 0 ∧ RE A2 R2) := by
  rcases J with ⟨h1, h2⟩ | ⟨A2, v, h1, h2⟩
  · refine Or.inl ⟨?_, h2⟩
    refine wp_ev (d := 10) (by decide) rfl rfl (fun h => by cases h) ?_
    show wp X 10 163 (0, [.ref 0, .int x, .int y, .ref 46, .retAddr 0], [], WW A R o, 0, 0) _
    refine wz_aload_n (p9 := 1) rfl rfl rfl ?_
    refine wz_iconst (x := nI 0) (p9 := 2) rfl rfl (by decide) ?_
    refine wz_aload_n (p9 := 3) rfl rfl rfl ?_
    refine wz_iload_n (p9 := 4) rfl rfl rfl ?_
    refine wz_iload_n (p9 := 5) rfl rfl rfl ?_
    refine wz_ch (t9 := 20) (wa_v (N := 88) (i := 0) (As := [.int x, .int y]) (rest := [.int (nI 0), .ref 46]) rfl rfl rfl rfl rfl rfl rfl) (by decide) h1 rfl ?_
    refine wz_astoreX (l9 := [.ref 0, .int x, .int y, .ref 46, .retAddr 2]) (p9 := 22) rfl rfl rfl rfl ?_
    refine wz_iconst (x := nI 1) (p9 := 23) rfl rfl (by decide) ?_
    exact wz_reti rfl rfl rfl
  · refine Or.inr ⟨A2, v, ?_, h2⟩
    by_cases hv : v = 0
    · rw [show lb v = 0 from if_pos hv]
      refine wp_ev (d := 10) (by decide) rfl rfl (fun h => by cases h) ?_
      show wp X 10 163 (0, [.ref 0, .int x, .int y, .ref 46, .retAddr 0], [], WW A R o, 0, 0) _
      refine wz_aload_n (p9 := 1) rfl rfl rfl ?_
      refine wz_iconst (x := nI 0) (p9 := 2) rfl rfl (by decide) ?_
      refine wz_aload_n (p9 := 3) rfl rfl rfl ?_
      refine wz_iload_n (p9 := 4) rfl rfl rfl ?_
      refine wz_iload_n (p9 := 5) rfl rfl rfl ?_
      refine wz_c1 (p9 := 8) (w1 := WW A2 R o) (u := .int v) (wa_v (N := 88) (i := 0) (As := [.int x, .int y]) (rest := [.int (nI 0), .ref 46]) rfl rfl rfl rfl rfl rfl rfl) rfl h1 ?_
      refine wz_ifeq (t9 := 15) (p9 := 11) rfl rfl rfl (fun _ => ?_) (fun h9 => absurd hv h9)
      refine wz_lconst (x := 0) (p9 := 16) rfl rfl rfl ?_
      refine wz_last (w1 := WW A2 R (vp_updL o 0 0)) (p9 := 17) rfl rfl rfl (by decide) rfl ?_
      refine wz_goto (p9 := 24) rfl rfl ?_
      refine wz_iconst (x := nI 0) (p9 := 25) rfl rfl (by decide) ?_
      exact wz_reti rfl rfl rfl
    · rw [show lb v = 1 from if_neg hv]
      refine wp_ev (d := 10) (by decide) rfl rfl (fun h => by cases h) ?_
      show wp X 10 163 (0, [.ref 0, .int x, .int y, .ref 46, .retAddr 0], [], WW A R o, 0, 0) _
      refine wz_aload_n (p9 := 1) rfl rfl rfl ?_
      refine wz_iconst (x := nI 0) (p9 := 2) rfl rfl (by decide) ?_
      refine wz_aload_n (p9 := 3) rfl rfl rfl ?_
      refine wz_iload_n (p9 := 4) rfl rfl rfl ?_
      refine wz_iload_n (p9 := 5) rfl rfl rfl ?_
      refine wz_c1 (p9 := 8) (w1 := WW A2 R o) (u := .int v) (wa_v (N := 88) (i := 0) (As := [.int x, .int y]) (rest := [.int (nI 0), .ref 46]) rfl rfl rfl rfl rfl rfl rfl) rfl h1 ?_
      refine wz_ifeq (t9 := 15) (p9 := 11) rfl rfl rfl (fun h9 => absurd h9 hv) (fun _ => ?_)
      refine wz_lconst (x := 1) (p9 := 12) rfl rfl rfl ?_
      refine wz_goto (p9 := 16) rfl rfl ?_
      refine wz_last (w1 := WW A2 R (vp_updL o 0 1)) (p9 := 17) rfl rfl rfl (by decide) rfl ?_
      refine wz_goto (p9 := 24) rfl rfl ?_
      refine wz_iconst (x := nI 0) (p9 := 25) rfl rfl (by decide) ?_
      exact wz_reti rfl rfl rfl
theorem h_at {X : Nat × (Nat → Int32)} {A : CA} {R : RA} {o : Nat → Int64} {x : Int32} (J : JT X 0 89 [.ref 0, .int x] 127 [.ref 26, .int x] A R o) :
  (px_ev X 11 164 [.ref 0, .int x, .ref 46] (WW A R o) (some (some (.int (nI 1))), WW A R o, 1, 6) ∧ ∀ o2, ∃ (R2 : RA) (b : Int32), px_ev X (0 + 10) 127 [.ref 26, .int x] (WW A R o2) (some (some (.int b)), WW A R2 o2, 0, 0) ∧ R2.th = 1 ∧ RE A R2) ∨
  (∃ (A2 : CA) (v : Int32), px_ev X 11 164 [.ref 0, .int x, .ref 46] (WW A R o) (some (some (.int (nI 0))), WW A2 R (vp_updL o 0 (v.toInt64)), 0, 0) ∧ ∀ o2, ∃ R2 : RA, px_ev X (0 + 10) 127 [.ref 26, .int x] (WW A2 R o2) (some (some (.int v)), WW A2 R2 o2, 0, 0) ∧ R2.th = 0 ∧ RE A2 R2) := by
  rcases J with ⟨h1, h2⟩ | ⟨A2, v, h1, h2⟩
  · refine Or.inl ⟨?_, h2⟩
    refine wp_ev (d := 10) (by decide) rfl rfl (fun h => by cases h) ?_
    show wp X 10 164 (0, [.ref 0, .int x, .ref 46, .retAddr 0], [], WW A R o, 0, 0) _
    refine wz_aload_n (p9 := 1) rfl rfl rfl ?_
    refine wz_iconst (x := nI 0) (p9 := 2) rfl rfl (by decide) ?_
    refine wz_aload_n (p9 := 3) rfl rfl rfl ?_
    refine wz_iload_n (p9 := 4) rfl rfl rfl ?_
    refine wz_ch (t9 := 12) (wa_v (N := 89) (i := 0) (As := [.int x]) (rest := [.int (nI 0), .ref 46]) rfl rfl rfl rfl rfl rfl rfl) (by decide) h1 rfl ?_
    refine wz_astore_nX (l9 := [.ref 0, .int x, .ref 46, .retAddr 2]) (p9 := 13) rfl rfl rfl rfl ?_
    refine wz_iconst (x := nI 1) (p9 := 14) rfl rfl (by decide) ?_
    exact wz_reti rfl rfl rfl
  · refine Or.inr ⟨A2, v, ?_, h2⟩
    refine wp_ev (d := 10) (by decide) rfl rfl (fun h => by cases h) ?_
    show wp X 10 164 (0, [.ref 0, .int x, .ref 46, .retAddr 0], [], WW A R o, 0, 0) _
    refine wz_aload_n (p9 := 1) rfl rfl rfl ?_
    refine wz_iconst (x := nI 0) (p9 := 2) rfl rfl (by decide) ?_
    refine wz_aload_n (p9 := 3) rfl rfl rfl ?_
    refine wz_iload_n (p9 := 4) rfl rfl rfl ?_
    refine wz_c1 (p9 := 7) (w1 := WW A2 R o) (u := .int v) (wa_v (N := 89) (i := 0) (As := [.int x]) (rest := [.int (nI 0), .ref 46]) rfl rfl rfl rfl rfl rfl rfl) rfl h1 ?_
    refine wz_i2l (p9 := 8) rfl rfl ?_
    refine wz_last (w1 := WW A2 R (vp_updL o 0 v.toInt64)) (p9 := 9) rfl rfl rfl (by decide) rfl ?_
    refine wz_goto (p9 := 15) rfl rfl ?_
    refine wz_iconst (x := nI 0) (p9 := 16) rfl rfl (by decide) ?_
    exact wz_reti rfl rfl rfl
theorem h_goal {X : Nat × (Nat → Int32)} {A : CA} {R : RA} {o : Nat → Int64} {x y u : Int32} (J : JT X 0 90 [.ref 0, .int x, .int y, .int u] 129 [.ref 26, .int x, .int y, .int u] A R o) :
  (px_ev X 11 165 [.ref 0, .int x, .int y, .int u, .ref 46] (WW A R o) (some (some (.int (nI 1))), WW A R o, 1, 6) ∧ ∀ o2, ∃ (R2 : RA) (b : Int32), px_ev X (0 + 10) 129 [.ref 26, .int x, .int y, .int u] (WW A R o2) (some (some (.int b)), WW A R2 o2, 0, 0) ∧ R2.th = 1 ∧ RE A R2) ∨
  (∃ (A2 : CA) (v : Int32), px_ev X 11 165 [.ref 0, .int x, .int y, .int u, .ref 46] (WW A R o) (some (some (.int (nI 0))), WW A2 R (vp_updL o 0 (lb v)), 0, 0) ∧ ∀ o2, ∃ R2 : RA, px_ev X (0 + 10) 129 [.ref 26, .int x, .int y, .int u] (WW A2 R o2) (some (some (.int v)), WW A2 R2 o2, 0, 0) ∧ R2.th = 0 ∧ RE A2 R2) := by
  rcases J with ⟨h1, h2⟩ | ⟨A2, v, h1, h2⟩
  · refine Or.inl ⟨?_, h2⟩
    refine wp_ev (d := 10) (by decide) rfl rfl (fun h => by cases h) ?_
    show wp X 10 165 (0, [.ref 0, .int x, .int y, .int u, .ref 46, .retAddr 0], [], WW A R o, 0, 0) _
    refine wz_aload (p9 := 2) rfl rfl rfl ?_
    refine wz_iconst (x := nI 0) (p9 := 3) rfl rfl (by decide) ?_
    refine wz_aload_n (p9 := 4) rfl rfl rfl ?_
    refine wz_iload_n (p9 := 5) rfl rfl rfl ?_
    refine wz_iload_n (p9 := 6) rfl rfl rfl ?_
    refine wz_iload_n (p9 := 7) rfl rfl rfl ?_
    refine wz_ch (t9 := 22) (wa_v (N := 90) (i := 0) (As := [.int x, .int y, .int u]) (rest := [.int (nI 0), .ref 46]) rfl rfl rfl rfl rfl rfl rfl) (by decide) h1 rfl ?_
    refine wz_astoreX (l9 := [.ref 0, .int x, .int y, .int u, .ref 46, .retAddr 2]) (p9 := 24) rfl rfl rfl rfl ?_
    refine wz_iconst (x := nI 1) (p9 := 25) rfl rfl (by decide) ?_
    exact wz_reti rfl rfl rfl
  · refine Or.inr ⟨A2, v, ?_, h2⟩
    by_cases hv : v = 0
    · rw [show lb v = 0 from if_pos hv]
      refine wp_ev (d := 10) (by decide) rfl rfl (fun h => by cases h) ?_
      show wp X 10 165 (0, [.ref 0, .int x, .int y, .int u, .ref 46, .retAddr 0], [], WW A R o, 0, 0) _
      refine wz_aload (p9 := 2) rfl rfl rfl ?_
      refine wz_iconst (x := nI 0) (p9 := 3) rfl rfl (by decide) ?_
      refine wz_aload_n (p9 := 4) rfl rfl rfl ?_
      refine wz_iload_n (p9 := 5) rfl rfl rfl ?_
      refine wz_iload_n (p9 := 6) rfl rfl rfl ?_
      refine wz_iload_n (p9 := 7) rfl rfl rfl ?_
      refine wz_c1 (p9 := 10) (w1 := WW A2 R o) (u := .int v) (wa_v (N := 90) (i := 0) (As := [.int x, .int y, .int u]) (rest := [.int (nI 0), .ref 46]) rfl rfl rfl rfl rfl rfl rfl) rfl h1 ?_
      refine wz_ifeq (t9 := 17) (p9 := 13) rfl rfl rfl (fun _ => ?_) (fun h9 => absurd hv h9)
      refine wz_lconst (x := 0) (p9 := 18) rfl rfl rfl ?_
      refine wz_last (w1 := WW A2 R (vp_updL o 0 0)) (p9 := 19) rfl rfl rfl (by decide) rfl ?_
      refine wz_goto (p9 := 26) rfl rfl ?_
      refine wz_iconst (x := nI 0) (p9 := 27) rfl rfl (by decide) ?_
      exact wz_reti rfl rfl rfl
    · rw [show lb v = 1 from if_neg hv]
      refine wp_ev (d := 10) (by decide) rfl rfl (fun h => by cases h) ?_
      show wp X 10 165 (0, [.ref 0, .int x, .int y, .int u, .ref 46, .retAddr 0], [], WW A R o, 0, 0) _
      refine wz_aload (p9 := 2) rfl rfl rfl ?_
      refine wz_iconst (x := nI 0) (p9 := 3) rfl rfl (by decide) ?_
      refine wz_aload_n (p9 := 4) rfl rfl rfl ?_
      refine wz_iload_n (p9 := 5) rfl rfl rfl ?_
      refine wz_iload_n (p9 := 6) rfl rfl rfl ?_
      refine wz_iload_n (p9 := 7) rfl rfl rfl ?_
      refine wz_c1 (p9 := 10) (w1 := WW A2 R o) (u := .int v) (wa_v (N := 90) (i := 0) (As := [.int x, .int y, .int u]) (rest := [.int (nI 0), .ref 46]) rfl rfl rfl rfl rfl rfl rfl) rfl h1 ?_
      refine wz_ifeq (t9 := 17) (p9 := 13) rfl rfl rfl (fun h9 => absurd h9 hv) (fun _ => ?_)
      refine wz_lconst (x := 1) (p9 := 14) rfl rfl rfl ?_
      refine wz_goto (p9 := 18) rfl rfl ?_
      refine wz_last (w1 := WW A2 R (vp_updL o 0 1)) (p9 := 19) rfl rfl rfl (by decide) rfl ?_
      refine wz_goto (p9 := 26) rfl rfl ?_
      refine wz_iconst (x := nI 0) (p9 := 27) rfl rfl (by decide) ?_
      exact wz_reti rfl rfl rfl
theorem h_use {X : Nat × (Nat → Int32)} {A : CA} {R : RA} {o : Nat → Int64} {x y : Int32} (J : JT X 0 92 [.ref 0, .int x, .int y] 131 [.ref 26, .int x, .int y] A R o) :
  (px_ev X 11 166 [.ref 0, .int x, .int y, .ref 46] (WW A R o) (some (some (.int (nI 1))), WW A R o, 1, 6) ∧ ∀ o2, ∃ (R2 : RA) (b : Int32), px_ev X (0 + 10) 131 [.ref 26, .int x, .int y] (WW A R o2) (some (some (.int b)), WW A R2 o2, 0, 0) ∧ R2.th = 1 ∧ RE A R2) ∨
  (∃ (A2 : CA) (v : Int32), px_ev X 11 166 [.ref 0, .int x, .int y, .ref 46] (WW A R o) (some (some (.int (nI 0))), WW A2 R (vp_updL o 0 (lb v)), 0, 0) ∧ ∀ o2, ∃ R2 : RA, px_ev X (0 + 10) 131 [.ref 26, .int x, .int y] (WW A2 R o2) (some (some (.int v)), WW A2 R2 o2, 0, 0) ∧ R2.th = 0 ∧ RE A2 R2) := by
  rcases J with ⟨h1, h2⟩ | ⟨A2, v, h1, h2⟩
  · refine Or.inl ⟨?_, h2⟩
    refine wp_ev (d := 10) (by decide) rfl rfl (fun h => by cases h) ?_
    show wp X 10 166 (0, [.ref 0, .int x, .int y, .ref 46, .retAddr 0], [], WW A R o, 0, 0) _
    refine wz_aload_n (p9 := 1) rfl rfl rfl ?_
    refine wz_iconst (x := nI 0) (p9 := 2) rfl rfl (by decide) ?_
    refine wz_aload_n (p9 := 3) rfl rfl rfl ?_
    refine wz_iload_n (p9 := 4) rfl rfl rfl ?_
    refine wz_iload_n (p9 := 5) rfl rfl rfl ?_
    refine wz_ch (t9 := 20) (wa_v (N := 92) (i := 0) (As := [.int x, .int y]) (rest := [.int (nI 0), .ref 46]) rfl rfl rfl rfl rfl rfl rfl) (by decide) h1 rfl ?_
    refine wz_astoreX (l9 := [.ref 0, .int x, .int y, .ref 46, .retAddr 2]) (p9 := 22) rfl rfl rfl rfl ?_
    refine wz_iconst (x := nI 1) (p9 := 23) rfl rfl (by decide) ?_
    exact wz_reti rfl rfl rfl
  · refine Or.inr ⟨A2, v, ?_, h2⟩
    by_cases hv : v = 0
    · rw [show lb v = 0 from if_pos hv]
      refine wp_ev (d := 10) (by decide) rfl rfl (fun h => by cases h) ?_
      show wp X 10 166 (0, [.ref 0, .int x, .int y, .ref 46, .retAddr 0], [], WW A R o, 0, 0) _
      refine wz_aload_n (p9 := 1) rfl rfl rfl ?_
      refine wz_iconst (x := nI 0) (p9 := 2) rfl rfl (by decide) ?_
      refine wz_aload_n (p9 := 3) rfl rfl rfl ?_
      refine wz_iload_n (p9 := 4) rfl rfl rfl ?_
      refine wz_iload_n (p9 := 5) rfl rfl rfl ?_
      refine wz_c1 (p9 := 8) (w1 := WW A2 R o) (u := .int v) (wa_v (N := 92) (i := 0) (As := [.int x, .int y]) (rest := [.int (nI 0), .ref 46]) rfl rfl rfl rfl rfl rfl rfl) rfl h1 ?_
      refine wz_ifeq (t9 := 15) (p9 := 11) rfl rfl rfl (fun _ => ?_) (fun h9 => absurd hv h9)
      refine wz_lconst (x := 0) (p9 := 16) rfl rfl rfl ?_
      refine wz_last (w1 := WW A2 R (vp_updL o 0 0)) (p9 := 17) rfl rfl rfl (by decide) rfl ?_
      refine wz_goto (p9 := 24) rfl rfl ?_
      refine wz_iconst (x := nI 0) (p9 := 25) rfl rfl (by decide) ?_
      exact wz_reti rfl rfl rfl
    · rw [show lb v = 1 from if_neg hv]
      refine wp_ev (d := 10) (by decide) rfl rfl (fun h => by cases h) ?_
      show wp X 10 166 (0, [.ref 0, .int x, .int y, .ref 46, .retAddr 0], [], WW A R o, 0, 0) _
      refine wz_aload_n (p9 := 1) rfl rfl rfl ?_
      refine wz_iconst (x := nI 0) (p9 := 2) rfl rfl (by decide) ?_
      refine wz_aload_n (p9 := 3) rfl rfl rfl ?_
      refine wz_iload_n (p9 := 4) rfl rfl rfl ?_
      refine wz_iload_n (p9 := 5) rfl rfl rfl ?_
      refine wz_c1 (p9 := 8) (w1 := WW A2 R o) (u := .int v) (wa_v (N := 92) (i := 0) (As := [.int x, .int y]) (rest := [.int (nI 0), .ref 46]) rfl rfl rfl rfl rfl rfl rfl) rfl h1 ?_
      refine wz_ifeq (t9 := 15) (p9 := 11) rfl rfl rfl (fun h9 => absurd h9 hv) (fun _ => ?_)
      refine wz_lconst (x := 1) (p9 := 12) rfl rfl rfl ?_
      refine wz_goto (p9 := 16) rfl rfl ?_
      refine wz_last (w1 := WW A2 R (vp_updL o 0 1)) (p9 := 17) rfl rfl rfl (by decide) rfl ?_
      refine wz_goto (p9 := 24) rfl rfl ?_
      refine wz_iconst (x := nI 0) (p9 := 25) rfl rfl (by decide) ?_
      exact wz_reti rfl rfl rfl
theorem h_run {X : Nat × (Nat → Int32)} {A : CA} {R : RA} {o : Nat → Int64} {x : Int32} (J : JT X 0 93 [.ref 0, .int x] 132 [.ref 26, .int x] A R o) :
  (px_ev X 11 167 [.ref 0, .int x, .ref 46] (WW A R o) (some (some (.int (nI 1))), WW A R o, 1, 6) ∧ ∀ o2, ∃ (R2 : RA) (b : Int32), px_ev X (0 + 10) 132 [.ref 26, .int x] (WW A R o2) (some (some (.int b)), WW A R2 o2, 0, 0) ∧ R2.th = 1 ∧ RE A R2) ∨
  (∃ (A2 : CA) (v : Int32), px_ev X 11 167 [.ref 0, .int x, .ref 46] (WW A R o) (some (some (.int (nI 0))), WW A2 R (vp_updL o 0 (v.toInt64)), 0, 0) ∧ ∀ o2, ∃ R2 : RA, px_ev X (0 + 10) 132 [.ref 26, .int x] (WW A2 R o2) (some (some (.int v)), WW A2 R2 o2, 0, 0) ∧ R2.th = 0 ∧ RE A2 R2) := by
  rcases J with ⟨h1, h2⟩ | ⟨A2, v, h1, h2⟩
  · refine Or.inl ⟨?_, h2⟩
    refine wp_ev (d := 10) (by decide) rfl rfl (fun h => by cases h) ?_
    show wp X 10 167 (0, [.ref 0, .int x, .ref 46, .retAddr 0], [], WW A R o, 0, 0) _
    refine wz_aload_n (p9 := 1) rfl rfl rfl ?_
    refine wz_iconst (x := nI 0) (p9 := 2) rfl rfl (by decide) ?_
    refine wz_aload_n (p9 := 3) rfl rfl rfl ?_
    refine wz_iload_n (p9 := 4) rfl rfl rfl ?_
    refine wz_ch (t9 := 12) (wa_v (N := 93) (i := 0) (As := [.int x]) (rest := [.int (nI 0), .ref 46]) rfl rfl rfl rfl rfl rfl rfl) (by decide) h1 rfl ?_
    refine wz_astore_nX (l9 := [.ref 0, .int x, .ref 46, .retAddr 2]) (p9 := 13) rfl rfl rfl rfl ?_
    refine wz_iconst (x := nI 1) (p9 := 14) rfl rfl (by decide) ?_
    exact wz_reti rfl rfl rfl
  · refine Or.inr ⟨A2, v, ?_, h2⟩
    refine wp_ev (d := 10) (by decide) rfl rfl (fun h => by cases h) ?_
    show wp X 10 167 (0, [.ref 0, .int x, .ref 46, .retAddr 0], [], WW A R o, 0, 0) _
    refine wz_aload_n (p9 := 1) rfl rfl rfl ?_
    refine wz_iconst (x := nI 0) (p9 := 2) rfl rfl (by decide) ?_
    refine wz_aload_n (p9 := 3) rfl rfl rfl ?_
    refine wz_iload_n (p9 := 4) rfl rfl rfl ?_
    refine wz_c1 (p9 := 7) (w1 := WW A2 R o) (u := .int v) (wa_v (N := 93) (i := 0) (As := [.int x]) (rest := [.int (nI 0), .ref 46]) rfl rfl rfl rfl rfl rfl rfl) rfl h1 ?_
    refine wz_i2l (p9 := 8) rfl rfl ?_
    refine wz_last (w1 := WW A2 R (vp_updL o 0 v.toInt64)) (p9 := 9) rfl rfl rfl (by decide) rfl ?_
    refine wz_goto (p9 := 15) rfl rfl ?_
    refine wz_iconst (x := nI 0) (p9 := 16) rfl rfl (by decide) ?_
    exact wz_reti rfl rfl rfl
theorem h_states {X : Nat × (Nat → Int32)} {A : CA} {R : RA} {o : Nat → Int64} {x : Int32} (J : JT X 0 94 [.ref 0, .int x] 137 [.ref 26, .int x] A R o) :
  (px_ev X 11 168 [.ref 0, .int x, .ref 46] (WW A R o) (some (some (.int (nI 1))), WW A R o, 1, 6) ∧ ∀ o2, ∃ (R2 : RA) (b : Int32), px_ev X (0 + 10) 137 [.ref 26, .int x] (WW A R o2) (some (some (.int b)), WW A R2 o2, 0, 0) ∧ R2.th = 1 ∧ RE A R2) ∨
  (∃ (A2 : CA) (v : Int32), px_ev X 11 168 [.ref 0, .int x, .ref 46] (WW A R o) (some (some (.int (nI 0))), WW A2 R (vp_updL o 0 (v.toInt64)), 0, 0) ∧ ∀ o2, ∃ R2 : RA, px_ev X (0 + 10) 137 [.ref 26, .int x] (WW A2 R o2) (some (some (.int v)), WW A2 R2 o2, 0, 0) ∧ R2.th = 0 ∧ RE A2 R2) := by
  rcases J with ⟨h1, h2⟩ | ⟨A2, v, h1, h2⟩
  · refine Or.inl ⟨?_, h2⟩
    refine wp_ev (d := 10) (by decide) rfl rfl (fun h => by cases h) ?_
    show wp X 10 168 (0, [.ref 0, .int x, .ref 46, .retAddr 0], [], WW A R o, 0, 0) _
    refine wz_aload_n (p9 := 1) rfl rfl rfl ?_
    refine wz_iconst (x := nI 0) (p9 := 2) rfl rfl (by decide) ?_
    refine wz_aload_n (p9 := 3) rfl rfl rfl ?_
    refine wz_iload_n (p9 := 4) rfl rfl rfl ?_
    refine wz_ch (t9 := 12) (wa_v (N := 94) (i := 0) (As := [.int x]) (rest := [.int (nI 0), .ref 46]) rfl rfl rfl rfl rfl rfl rfl) (by decide) h1 rfl ?_
    refine wz_astore_nX (l9 := [.ref 0, .int x, .ref 46, .retAddr 2]) (p9 := 13) rfl rfl rfl rfl ?_
    refine wz_iconst (x := nI 1) (p9 := 14) rfl rfl (by decide) ?_
    exact wz_reti rfl rfl rfl
  · refine Or.inr ⟨A2, v, ?_, h2⟩
    refine wp_ev (d := 10) (by decide) rfl rfl (fun h => by cases h) ?_
    show wp X 10 168 (0, [.ref 0, .int x, .ref 46, .retAddr 0], [], WW A R o, 0, 0) _
    refine wz_aload_n (p9 := 1) rfl rfl rfl ?_
    refine wz_iconst (x := nI 0) (p9 := 2) rfl rfl (by decide) ?_
    refine wz_aload_n (p9 := 3) rfl rfl rfl ?_
    refine wz_iload_n (p9 := 4) rfl rfl rfl ?_
    refine wz_c1 (p9 := 7) (w1 := WW A2 R o) (u := .int v) (wa_v (N := 94) (i := 0) (As := [.int x]) (rest := [.int (nI 0), .ref 46]) rfl rfl rfl rfl rfl rfl rfl) rfl h1 ?_
    refine wz_i2l (p9 := 8) rfl rfl ?_
    refine wz_last (w1 := WW A2 R (vp_updL o 0 v.toInt64)) (p9 := 9) rfl rfl rfl (by decide) rfl ?_
    refine wz_goto (p9 := 15) rfl rfl ?_
    refine wz_iconst (x := nI 0) (p9 := 16) rfl rfl (by decide) ?_
    exact wz_reti rfl rfl rfl
theorem h_fails {X : Nat × (Nat → Int32)} {A : CA} {R : RA} {o : Nat → Int64} {x : Int32} (J : JT X 0 95 [.ref 0, .int x] 143 [.ref 26, .int x] A R o) :
  (px_ev X 11 169 [.ref 0, .int x, .ref 46] (WW A R o) (some (some (.int (nI 1))), WW A R o, 1, 6) ∧ ∀ o2, ∃ (R2 : RA) (b : Int32), px_ev X (0 + 10) 143 [.ref 26, .int x] (WW A R o2) (some (some (.int b)), WW A R2 o2, 0, 0) ∧ R2.th = 1 ∧ RE A R2) ∨
  (∃ (A2 : CA) (v : Int32), px_ev X 11 169 [.ref 0, .int x, .ref 46] (WW A R o) (some (some (.int (nI 0))), WW A2 R (vp_updL o 0 (v.toInt64)), 0, 0) ∧ ∀ o2, ∃ R2 : RA, px_ev X (0 + 10) 143 [.ref 26, .int x] (WW A2 R o2) (some (some (.int v)), WW A2 R2 o2, 0, 0) ∧ R2.th = 0 ∧ RE A2 R2) := by
  rcases J with ⟨h1, h2⟩ | ⟨A2, v, h1, h2⟩
  · refine Or.inl ⟨?_, h2⟩
    refine wp_ev (d := 10) (by decide) rfl rfl (fun h => by cases h) ?_
    show wp X 10 169 (0, [.ref 0, .int x, .ref 46, .retAddr 0], [], WW A R o, 0, 0) _
    refine wz_aload_n (p9 := 1) rfl rfl rfl ?_
    refine wz_iconst (x := nI 0) (p9 := 2) rfl rfl (by decide) ?_
    refine wz_aload_n (p9 := 3) rfl rfl rfl ?_
    refine wz_iload_n (p9 := 4) rfl rfl rfl ?_
    refine wz_ch (t9 := 12) (wa_v (N := 95) (i := 0) (As := [.int x]) (rest := [.int (nI 0), .ref 46]) rfl rfl rfl rfl rfl rfl rfl) (by decide) h1 rfl ?_
    refine wz_astore_nX (l9 := [.ref 0, .int x, .ref 46, .retAddr 2]) (p9 := 13) rfl rfl rfl rfl ?_
    refine wz_iconst (x := nI 1) (p9 := 14) rfl rfl (by decide) ?_
    exact wz_reti rfl rfl rfl
  · refine Or.inr ⟨A2, v, ?_, h2⟩
    refine wp_ev (d := 10) (by decide) rfl rfl (fun h => by cases h) ?_
    show wp X 10 169 (0, [.ref 0, .int x, .ref 46, .retAddr 0], [], WW A R o, 0, 0) _
    refine wz_aload_n (p9 := 1) rfl rfl rfl ?_
    refine wz_iconst (x := nI 0) (p9 := 2) rfl rfl (by decide) ?_
    refine wz_aload_n (p9 := 3) rfl rfl rfl ?_
    refine wz_iload_n (p9 := 4) rfl rfl rfl ?_
    refine wz_c1 (p9 := 7) (w1 := WW A2 R o) (u := .int v) (wa_v (N := 95) (i := 0) (As := [.int x]) (rest := [.int (nI 0), .ref 46]) rfl rfl rfl rfl rfl rfl rfl) rfl h1 ?_
    refine wz_i2l (p9 := 8) rfl rfl ?_
    refine wz_last (w1 := WW A2 R (vp_updL o 0 v.toInt64)) (p9 := 9) rfl rfl rfl (by decide) rfl ?_
    refine wz_goto (p9 := 15) rfl rfl ?_
    refine wz_iconst (x := nI 0) (p9 := 16) rfl rfl (by decide) ?_
    exact wz_reti rfl rfl rfl
theorem h_text {X : Nat × (Nat → Int32)} {A : CA} {R : RA} {o : Nat → Int64} {x y : Int32} (J : JT X 0 96 [.ref 0, .int x, .int y] 121 [.ref 26, .int x, .int y] A R o) :
  (px_ev X 11 170 [.ref 0, .int x, .int y, .ref 46] (WW A R o) (some (some (.int (nI 1))), WW A R o, 1, 6) ∧ ∀ o2, ∃ (R2 : RA) (b : Int32), px_ev X (0 + 10) 121 [.ref 26, .int x, .int y] (WW A R o2) (some (some (.int b)), WW A R2 o2, 0, 0) ∧ R2.th = 1 ∧ RE A R2) ∨
  (∃ (A2 : CA) (v : Int32), px_ev X 11 170 [.ref 0, .int x, .int y, .ref 46] (WW A R o) (some (some (.int (nI 0))), WW A2 R (vp_updL o 0 (v.toInt64)), 0, 0) ∧ ∀ o2, ∃ R2 : RA, px_ev X (0 + 10) 121 [.ref 26, .int x, .int y] (WW A2 R o2) (some (some (.int v)), WW A2 R2 o2, 0, 0) ∧ R2.th = 0 ∧ RE A2 R2) := by
  rcases J with ⟨h1, h2⟩ | ⟨A2, v, h1, h2⟩
  · refine Or.inl ⟨?_, h2⟩
    refine wp_ev (d := 10) (by decide) rfl rfl (fun h => by cases h) ?_
    show wp X 10 170 (0, [.ref 0, .int x, .int y, .ref 46, .retAddr 0], [], WW A R o, 0, 0) _
    refine wz_aload_n (p9 := 1) rfl rfl rfl ?_
    refine wz_iconst (x := nI 0) (p9 := 2) rfl rfl (by decide) ?_
    refine wz_aload_n (p9 := 3) rfl rfl rfl ?_
    refine wz_iload_n (p9 := 4) rfl rfl rfl ?_
    refine wz_iload_n (p9 := 5) rfl rfl rfl ?_
    refine wz_ch (t9 := 13) (wa_v (N := 96) (i := 0) (As := [.int x, .int y]) (rest := [.int (nI 0), .ref 46]) rfl rfl rfl rfl rfl rfl rfl) (by decide) h1 rfl ?_
    refine wz_astoreX (l9 := [.ref 0, .int x, .int y, .ref 46, .retAddr 2]) (p9 := 15) rfl rfl rfl rfl ?_
    refine wz_iconst (x := nI 1) (p9 := 16) rfl rfl (by decide) ?_
    exact wz_reti rfl rfl rfl
  · refine Or.inr ⟨A2, v, ?_, h2⟩
    refine wp_ev (d := 10) (by decide) rfl rfl (fun h => by cases h) ?_
    show wp X 10 170 (0, [.ref 0, .int x, .int y, .ref 46, .retAddr 0], [], WW A R o, 0, 0) _
    refine wz_aload_n (p9 := 1) rfl rfl rfl ?_
    refine wz_iconst (x := nI 0) (p9 := 2) rfl rfl (by decide) ?_
    refine wz_aload_n (p9 := 3) rfl rfl rfl ?_
    refine wz_iload_n (p9 := 4) rfl rfl rfl ?_
    refine wz_iload_n (p9 := 5) rfl rfl rfl ?_
    refine wz_c1 (p9 := 8) (w1 := WW A2 R o) (u := .int v) (wa_v (N := 96) (i := 0) (As := [.int x, .int y]) (rest := [.int (nI 0), .ref 46]) rfl rfl rfl rfl rfl rfl rfl) rfl h1 ?_
    refine wz_i2l (p9 := 9) rfl rfl ?_
    refine wz_last (w1 := WW A2 R (vp_updL o 0 v.toInt64)) (p9 := 10) rfl rfl rfl (by decide) rfl ?_
    refine wz_goto (p9 := 17) rfl rfl ?_
    refine wz_iconst (x := nI 0) (p9 := 18) rfl rfl (by decide) ?_
    exact wz_reti rfl rfl rfl
theorem h_act {X : Nat × (Nat → Int32)} {A : CA} {R : RA} {o : Nat → Int64} {x : Int32} (J : JV X 0 87 [.ref 0, .int x] 122 [.ref 26, .int x] A R o) :
  (px_ev X 11 162 [.ref 0, .int x] (WW A R o) (some (some (.int (nI 1))), WW A R o, 1, 6) ∧ ∀ o2, ∃ R2 : RA, px_ev X (0 + 10) 122 [.ref 26, .int x] (WW A R o2) (some none, WW A R2 o2, 0, 0) ∧ R2.th = 1 ∧ RE A R2) ∨
  (∃ A2 : CA, px_ev X 11 162 [.ref 0, .int x] (WW A R o) (some (some (.int (nI 0))), WW A2 R o, 0, 0) ∧ ∀ o2, ∃ R2 : RA, px_ev X (0 + 10) 122 [.ref 26, .int x] (WW A2 R o2) (some none, WW A2 R2 o2, 0, 0) ∧ R2.th = 0 ∧ RE A2 R2) := by
  rcases J with ⟨h1, h2⟩ | ⟨A2, h1, h2⟩
  · refine Or.inl ⟨?_, h2⟩
    refine wp_ev (d := 10) (by decide) rfl rfl (fun h => by cases h) ?_
    show wp X 10 162 (0, [.ref 0, .int x, .retAddr 0], [], WW A R o, 0, 0) _
    refine wz_aload_n (p9 := 1) rfl rfl rfl ?_
    refine wz_iload_n (p9 := 2) rfl rfl rfl ?_
    refine wz_ch (t9 := 8) (wa_v (N := 87) (i := 0) (As := [.int x]) (rest := []) rfl rfl rfl rfl rfl rfl rfl) (by decide) h1 rfl ?_
    refine wz_astore_nX (l9 := [.ref 0, .int x, .retAddr 2]) (p9 := 9) rfl rfl rfl rfl ?_
    refine wz_iconst (x := nI 1) (p9 := 10) rfl rfl (by decide) ?_
    exact wz_reti rfl rfl rfl
  · refine Or.inr ⟨A2, ?_, h2⟩
    refine wp_ev (d := 10) (by decide) rfl rfl (fun h => by cases h) ?_
    show wp X 10 162 (0, [.ref 0, .int x, .retAddr 0], [], WW A R o, 0, 0) _
    refine wz_aload_n (p9 := 1) rfl rfl rfl ?_
    refine wz_iload_n (p9 := 2) rfl rfl rfl ?_
    refine wz_c0 (p9 := 5) (w1 := WW A2 R o) (wa_v (N := 87) (i := 0) (As := [.int x]) (rest := []) rfl rfl rfl rfl rfl rfl rfl) rfl h1 ?_
    refine wz_goto (p9 := 11) rfl rfl ?_
    refine wz_iconst (x := nI 0) (p9 := 12) rfl rfl (by decide) ?_
    exact wz_reti rfl rfl rfl
theorem cs_exch {X : Nat × (Nat → Int32)} {A : CA} {R : RA} {o : Nat → Int64} (H : RE A R) {i k z : Nat} (hL : X.1 ≤ 2050) (hi : i + 4 ≤ X.1) {Q : px_Z → Prop} (kk : ∀ (A2 : CA) (R2 : RA) (o2 : Nat → Int64) (v5 v6 : Value) (k2 z2 : Nat), RE A2 R2 → k2 ≤ k + 1 → z2 ≤ z + 6 → wp X 11 173 (1189, [.retAddr 1, .ref 0, .ref 26, .ref 46, .int (nI i), v5, v6], [], WW A2 R2 o2, k2, z2) Q) : ∀ v5 v6, wp X 11 173 (148, [.retAddr 1, .ref 0, .ref 26, .ref 46, .int (nI i), v5, v6], [], WW A R o, k, z) Q := by
  intro v5 v6
  have J := j_exch (X := X) (d := 0) (A := A) (R := R) (o := o) H (m := (X.2 ((nI (i + 1))).toNatClampNeg)) (x := (X.2 ((nI (i + 2))).toNatClampNeg)) (y := (X.2 ((nI (i + 3))).toNatClampNeg))
  rcases h_exch J with ⟨hh, hm⟩ | ⟨A2, v, hh, hm⟩
  · obtain ⟨R2, b, hm, hth, hre⟩ := hm o
    refine wz_aload_n (p9 := 149) rfl rfl rfl ?_
    refine wz_aload_nS (p9 := 150) rfl rfl rfl ?_
    refine wz_iload (p9 := 152) rfl rfl rfl ?_
    refine wz_iconst (x := nI 1) (p9 := 153) rfl rfl (by decide) ?_
    refine wn_add (p9 := 154) rfl rfl ?_
    refine wz_sald (v := X.2 ((nI (i + 1))).toNatClampNeg) (p9 := 155) rfl rfl (q_in (show i + 1 < X.1 by omega) (by omega)) rfl ?_
    refine wz_aload_nS (p9 := 156) rfl rfl rfl ?_
    refine wz_iload (p9 := 158) rfl rfl rfl ?_
    refine wz_iconst (x := nI 2) (p9 := 159) rfl rfl (by decide) ?_
    refine wn_add (p9 := 160) rfl rfl ?_
    refine wz_sald (v := X.2 ((nI (i + 2))).toNatClampNeg) (p9 := 161) rfl rfl (q_in (show i + 2 < X.1 by omega) (by omega)) rfl ?_
    refine wz_aload_nS (p9 := 162) rfl rfl rfl ?_
    refine wz_iload (p9 := 164) rfl rfl rfl ?_
    refine wz_iconst (x := nI 3) (p9 := 165) rfl rfl (by decide) ?_
    refine wn_add (p9 := 166) rfl rfl ?_
    refine wz_sald (v := X.2 ((nI (i + 3))).toNatClampNeg) (p9 := 167) rfl rfl (q_in (show i + 3 < X.1 by omega) (by omega)) rfl ?_
    refine wz_aload_n (p9 := 168) rfl rfl rfl ?_
    refine wz_cv (p9 := 171) (w1 := WW A R o) (u := .int (nI 1)) (k1 := 1) (z1 := 6) (tz_calS (N := 157) (As := [.ref 0, .int (X.2 ((nI (i + 1))).toNatClampNeg), .int (X.2 ((nI (i + 2))).toNatClampNeg), .int (X.2 ((nI (i + 3))).toNatClampNeg), .ref 46]) (rest := []) rfl rfl rfl rfl rfl rfl) rfl hh ?_
    refine wz_istore (l9 := [.retAddr 1, .ref 0, .ref 26, .ref 46, .int (nI i), .int (nI 1), v6]) (p9 := 173) rfl rfl rfl rfl ?_
    refine wz_aload_n (p9 := 174) rfl rfl rfl ?_
    refine wz_aload_nS (p9 := 175) rfl rfl rfl ?_
    refine wz_iload (p9 := 177) rfl rfl rfl ?_
    refine wz_iconst (x := nI 1) (p9 := 178) rfl rfl (by decide) ?_
    refine wn_add (p9 := 179) rfl rfl ?_
    refine wz_sald (v := X.2 ((nI (i + 1))).toNatClampNeg) (p9 := 180) rfl rfl (q_in (show i + 1 < X.1 by omega) (by omega)) rfl ?_
    refine wz_aload_nS (p9 := 181) rfl rfl rfl ?_
    refine wz_iload (p9 := 183) rfl rfl rfl ?_
    refine wz_iconst (x := nI 2) (p9 := 184) rfl rfl (by decide) ?_
    refine wn_add (p9 := 185) rfl rfl ?_
    refine wz_sald (v := X.2 ((nI (i + 2))).toNatClampNeg) (p9 := 186) rfl rfl (q_in (show i + 2 < X.1 by omega) (by omega)) rfl ?_
    refine wz_aload_nS (p9 := 187) rfl rfl rfl ?_
    refine wz_iload (p9 := 189) rfl rfl rfl ?_
    refine wz_iconst (x := nI 3) (p9 := 190) rfl rfl (by decide) ?_
    refine wn_add (p9 := 191) rfl rfl ?_
    refine wz_sald (v := X.2 ((nI (i + 3))).toNatClampNeg) (p9 := 192) rfl rfl (q_in (show i + 3 < X.1 by omega) (by omega)) rfl ?_
    refine wz_c1 (p9 := 195) (w1 := WW A R2 o) (u := .int b) (wa_v (N := 99) (i := 26) (As := [.int (X.2 ((nI (i + 1))).toNatClampNeg), .int (X.2 ((nI (i + 2))).toNatClampNeg), .int (X.2 ((nI (i + 3))).toNatClampNeg)]) (rest := []) rfl rfl rfl rfl rfl rfl rfl) rfl (hm.up (by decide)) ?_
    refine wz_istore (l9 := [.retAddr 1, .ref 0, .ref 26, .ref 46, .int (nI i), .int (nI 1), .int b]) (p9 := 197) rfl rfl rfl rfl ?_
    refine wz_aload_n (p9 := 198) rfl rfl rfl ?_
    refine wz_c1 (p9 := 201) (w1 := WW A R2 o) (u := .int (nI 1)) (wa_v (N := 98) (i := 26) (As := []) (rest := []) rfl rfl rfl rfl rfl rfl rfl) rfl (by have h9 := g_thrown (X := X) (d := 10) (A := A) (R := R2) (o := o); rw [hth] at h9; exact h9) ?_
    refine wz_iload (p9 := 203) rfl rfl rfl ?_
    refine wn_iceq (t9 := 208) (p9 := 206) rfl rfl rfl (by omega) (by omega) (fun _ => ?_) (fun h9 => by omega)
    refine wz_iload (p9 := 210) rfl rfl rfl ?_
    refine wn_ifne (t9 := 232) (p9 := 213) rfl rfl rfl (by omega) (fun _ => ?_) (fun h9 => by omega)
    refine wz_goto (p9 := 1189) rfl rfl ?_
    exact kk A R2 _ _ _ _ _ hre (Nat.le_refl _) (Nat.le_refl _)
  · obtain ⟨R2, hm, hth, hre⟩ := hm (vp_updL o 0 (lb v))
    by_cases hv : v = 0
    · skip
      refine wz_aload_n (p9 := 149) rfl rfl rfl ?_
      refine wz_aload_nS (p9 := 150) rfl rfl rfl ?_
      refine wz_iload (p9 := 152) rfl rfl rfl ?_
      refine wz_iconst (x := nI 1) (p9 := 153) rfl rfl (by decide) ?_
      refine wn_add (p9 := 154) rfl rfl ?_
      refine wz_sald (v := X.2 ((nI (i + 1))).toNatClampNeg) (p9 := 155) rfl rfl (q_in (show i + 1 < X.1 by omega) (by omega)) rfl ?_
      refine wz_aload_nS (p9 := 156) rfl rfl rfl ?_
      refine wz_iload (p9 := 158) rfl rfl rfl ?_
      refine wz_iconst (x := nI 2) (p9 := 159) rfl rfl (by decide) ?_
      refine wn_add (p9 := 160) rfl rfl ?_
      refine wz_sald (v := X.2 ((nI (i + 2))).toNatClampNeg) (p9 := 161) rfl rfl (q_in (show i + 2 < X.1 by omega) (by omega)) rfl ?_
      refine wz_aload_nS (p9 := 162) rfl rfl rfl ?_
      refine wz_iload (p9 := 164) rfl rfl rfl ?_
      refine wz_iconst (x := nI 3) (p9 := 165) rfl rfl (by decide) ?_
      refine wn_add (p9 := 166) rfl rfl ?_
      refine wz_sald (v := X.2 ((nI (i + 3))).toNatClampNeg) (p9 := 167) rfl rfl (q_in (show i + 3 < X.1 by omega) (by omega)) rfl ?_
      refine wz_aload_n (p9 := 168) rfl rfl rfl ?_
      refine wz_c1 (p9 := 171) (w1 := WW A2 R (vp_updL o 0 (lb v))) (u := .int (nI 0)) (tz_calS (N := 157) (As := [.ref 0, .int (X.2 ((nI (i + 1))).toNatClampNeg), .int (X.2 ((nI (i + 2))).toNatClampNeg), .int (X.2 ((nI (i + 3))).toNatClampNeg), .ref 46]) (rest := []) rfl rfl rfl rfl rfl rfl) rfl hh ?_
      refine wz_istore (l9 := [.retAddr 1, .ref 0, .ref 26, .ref 46, .int (nI i), .int (nI 0), v6]) (p9 := 173) rfl rfl rfl rfl ?_
      refine wz_aload_n (p9 := 174) rfl rfl rfl ?_
      refine wz_aload_nS (p9 := 175) rfl rfl rfl ?_
      refine wz_iload (p9 := 177) rfl rfl rfl ?_
      refine wz_iconst (x := nI 1) (p9 := 178) rfl rfl (by decide) ?_
      refine wn_add (p9 := 179) rfl rfl ?_
      refine wz_sald (v := X.2 ((nI (i + 1))).toNatClampNeg) (p9 := 180) rfl rfl (q_in (show i + 1 < X.1 by omega) (by omega)) rfl ?_
      refine wz_aload_nS (p9 := 181) rfl rfl rfl ?_
      refine wz_iload (p9 := 183) rfl rfl rfl ?_
      refine wz_iconst (x := nI 2) (p9 := 184) rfl rfl (by decide) ?_
      refine wn_add (p9 := 185) rfl rfl ?_
      refine wz_sald (v := X.2 ((nI (i + 2))).toNatClampNeg) (p9 := 186) rfl rfl (q_in (show i + 2 < X.1 by omega) (by omega)) rfl ?_
      refine wz_aload_nS (p9 := 187) rfl rfl rfl ?_
      refine wz_iload (p9 := 189) rfl rfl rfl ?_
      refine wz_iconst (x := nI 3) (p9 := 190) rfl rfl (by decide) ?_
      refine wn_add (p9 := 191) rfl rfl ?_
      refine wz_sald (v := X.2 ((nI (i + 3))).toNatClampNeg) (p9 := 192) rfl rfl (q_in (show i + 3 < X.1 by omega) (by omega)) rfl ?_
      refine wz_c1 (p9 := 195) (w1 := WW A2 R2 (vp_updL o 0 (lb v))) (u := .int v) (wa_v (N := 99) (i := 26) (As := [.int (X.2 ((nI (i + 1))).toNatClampNeg), .int (X.2 ((nI (i + 2))).toNatClampNeg), .int (X.2 ((nI (i + 3))).toNatClampNeg)]) (rest := []) rfl rfl rfl rfl rfl rfl rfl) rfl (hm.up (by decide)) ?_
      refine wz_istore (l9 := [.retAddr 1, .ref 0, .ref 26, .ref 46, .int (nI i), .int (nI 0), .int v]) (p9 := 197) rfl rfl rfl rfl ?_
      refine wz_aload_n (p9 := 198) rfl rfl rfl ?_
      refine wz_c1 (p9 := 201) (w1 := WW A2 R2 (vp_updL o 0 (lb v))) (u := .int (nI 0)) (wa_v (N := 98) (i := 26) (As := []) (rest := []) rfl rfl rfl rfl rfl rfl rfl) rfl (by have h9 := g_thrown (X := X) (d := 10) (A := A2) (R := R2) (o := (vp_updL o 0 (lb v))); rw [hth] at h9; exact h9) ?_
      refine wz_iload (p9 := 203) rfl rfl rfl ?_
      refine wn_iceq (t9 := 208) (p9 := 206) rfl rfl rfl (by omega) (by omega) (fun _ => ?_) (fun h9 => by omega)
      refine wz_iload (p9 := 210) rfl rfl rfl ?_
      refine wn_ifne (t9 := 232) (p9 := 213) rfl rfl rfl (by omega) (fun h9 => by omega) (fun _ => ?_)
      refine wz_aload_n (p9 := 214) rfl rfl rfl ?_
      refine wz_iconst (x := nI 0) (p9 := 215) rfl rfl (by decide) ?_
      refine wz_lald (v := (vp_updL o 0 (lb v)) 0) (p9 := 216) rfl rfl rfl (by decide) rfl ?_
      refine wz_iload (p9 := 218) rfl rfl rfl ?_
      refine wz_ifeq (t9 := 225) (p9 := 221) rfl rfl rfl (fun _ => ?_) (fun h9 => absurd hv h9)
      refine wz_lconst (x := 0) (p9 := 226) rfl rfl rfl ?_
      refine wz_lcmp (p9 := 227) rfl rfl ?_
      refine wz_ifeq (t9 := 232) (p9 := 230) rfl rfl rfl (fun _ => ?_) (fun h9 => absurd (by rw [up_0]; rw [show lb v = 0 from if_pos hv]; exact lg_s _) h9)
      refine wz_goto (p9 := 1189) rfl rfl ?_
      exact kk A2 R2 _ _ _ _ _ hre (Nat.le_add_right _ _) (Nat.le_add_right _ _)
    · skip
      refine wz_aload_n (p9 := 149) rfl rfl rfl ?_
      refine wz_aload_nS (p9 := 150) rfl rfl rfl ?_
      refine wz_iload (p9 := 152) rfl rfl rfl ?_
      refine wz_iconst (x := nI 1) (p9 := 153) rfl rfl (by decide) ?_
      refine wn_add (p9 := 154) rfl rfl ?_
      refine wz_sald (v := X.2 ((nI (i + 1))).toNatClampNeg) (p9 := 155) rfl rfl (q_in (show i + 1 < X.1 by omega) (by omega)) rfl ?_
      refine wz_aload_nS (p9 := 156) rfl rfl rfl ?_
      refine wz_iload (p9 := 158) rfl rfl rfl ?_
      refine wz_iconst (x := nI 2) (p9 := 159) rfl rfl (by decide) ?_
      refine wn_add (p9 := 160) rfl rfl ?_
      refine wz_sald (v := X.2 ((nI (i + 2))).toNatClampNeg) (p9 := 161) rfl rfl (q_in (show i + 2 < X.1 by omega) (by omega)) rfl ?_
      refine wz_aload_nS (p9 := 162) rfl rfl rfl ?_
      refine wz_iload (p9 := 164) rfl rfl rfl ?_
      refine wz_iconst (x := nI 3) (p9 := 165) rfl rfl (by decide) ?_
      refine wn_add (p9 := 166) rfl rfl ?_
      refine wz_sald (v := X.2 ((nI (i + 3))).toNatClampNeg) (p9 := 167) rfl rfl (q_in (show i + 3 < X.1 by omega) (by omega)) rfl ?_
      refine wz_aload_n (p9 := 168) rfl rfl rfl ?_
      refine wz_c1 (p9 := 171) (w1 := WW A2 R (vp_updL o 0 (lb v))) (u := .int (nI 0)) (tz_calS (N := 157) (As := [.ref 0, .int (X.2 ((nI (i + 1))).toNatClampNeg), .int (X.2 ((nI (i + 2))).toNatClampNeg), .int (X.2 ((nI (i + 3))).toNatClampNeg), .ref 46]) (rest := []) rfl rfl rfl rfl rfl rfl) rfl hh ?_
      refine wz_istore (l9 := [.retAddr 1, .ref 0, .ref 26, .ref 46, .int (nI i), .int (nI 0), v6]) (p9 := 173) rfl rfl rfl rfl ?_
      refine wz_aload_n (p9 := 174) rfl rfl rfl ?_
      refine wz_aload_nS (p9 := 175) rfl rfl rfl ?_
      refine wz_iload (p9 := 177) rfl rfl rfl ?_
      refine wz_iconst (x := nI 1) (p9 := 178) rfl rfl (by decide) ?_
      refine wn_add (p9 := 179) rfl rfl ?_
      refine wz_sald (v := X.2 ((nI (i + 1))).toNatClampNeg) (p9 := 180) rfl rfl (q_in (show i + 1 < X.1 by omega) (by omega)) rfl ?_
      refine wz_aload_nS (p9 := 181) rfl rfl rfl ?_
      refine wz_iload (p9 := 183) rfl rfl rfl ?_
      refine wz_iconst (x := nI 2) (p9 := 184) rfl rfl (by decide) ?_
      refine wn_add (p9 := 185) rfl rfl ?_
      refine wz_sald (v := X.2 ((nI (i + 2))).toNatClampNeg) (p9 := 186) rfl rfl (q_in (show i + 2 < X.1 by omega) (by omega)) rfl ?_
      refine wz_aload_nS (p9 := 187) rfl rfl rfl ?_
      refine wz_iload (p9 := 189) rfl rfl rfl ?_
      refine wz_iconst (x := nI 3) (p9 := 190) rfl rfl (by decide) ?_
      refine wn_add (p9 := 191) rfl rfl ?_
      refine wz_sald (v := X.2 ((nI (i + 3))).toNatClampNeg) (p9 := 192) rfl rfl (q_in (show i + 3 < X.1 by omega) (by omega)) rfl ?_
      refine wz_c1 (p9 := 195) (w1 := WW A2 R2 (vp_updL o 0 (lb v))) (u := .int v) (wa_v (N := 99) (i := 26) (As := [.int (X.2 ((nI (i + 1))).toNatClampNeg), .int (X.2 ((nI (i + 2))).toNatClampNeg), .int (X.2 ((nI (i + 3))).toNatClampNeg)]) (rest := []) rfl rfl rfl rfl rfl rfl rfl) rfl (hm.up (by decide)) ?_
      refine wz_istore (l9 := [.retAddr 1, .ref 0, .ref 26, .ref 46, .int (nI i), .int (nI 0), .int v]) (p9 := 197) rfl rfl rfl rfl ?_
      refine wz_aload_n (p9 := 198) rfl rfl rfl ?_
      refine wz_c1 (p9 := 201) (w1 := WW A2 R2 (vp_updL o 0 (lb v))) (u := .int (nI 0)) (wa_v (N := 98) (i := 26) (As := []) (rest := []) rfl rfl rfl rfl rfl rfl rfl) rfl (by have h9 := g_thrown (X := X) (d := 10) (A := A2) (R := R2) (o := (vp_updL o 0 (lb v))); rw [hth] at h9; exact h9) ?_
      refine wz_iload (p9 := 203) rfl rfl rfl ?_
      refine wn_iceq (t9 := 208) (p9 := 206) rfl rfl rfl (by omega) (by omega) (fun _ => ?_) (fun h9 => by omega)
      refine wz_iload (p9 := 210) rfl rfl rfl ?_
      refine wn_ifne (t9 := 232) (p9 := 213) rfl rfl rfl (by omega) (fun h9 => by omega) (fun _ => ?_)
      refine wz_aload_n (p9 := 214) rfl rfl rfl ?_
      refine wz_iconst (x := nI 0) (p9 := 215) rfl rfl (by decide) ?_
      refine wz_lald (v := (vp_updL o 0 (lb v)) 0) (p9 := 216) rfl rfl rfl (by decide) rfl ?_
      refine wz_iload (p9 := 218) rfl rfl rfl ?_
      refine wz_ifeq (t9 := 225) (p9 := 221) rfl rfl rfl (fun h9 => absurd h9 hv) (fun _ => ?_)
      refine wz_lconst (x := 1) (p9 := 222) rfl rfl rfl ?_
      refine wz_goto (p9 := 226) rfl rfl ?_
      refine wz_lcmp (p9 := 227) rfl rfl ?_
      refine wz_ifeq (t9 := 232) (p9 := 230) rfl rfl rfl (fun _ => ?_) (fun h9 => absurd (by rw [up_0]; rw [show lb v = 1 from if_neg hv]; exact lg_s _) h9)
      refine wz_goto (p9 := 1189) rfl rfl ?_
      exact kk A2 R2 _ _ _ _ _ hre (Nat.le_add_right _ _) (Nat.le_add_right _ _)
theorem cs_order {X : Nat × (Nat → Int32)} {A : CA} {R : RA} {o : Nat → Int64} (H : RE A R) {i k z : Nat} (hL : X.1 ≤ 2050) (hi : i + 4 ≤ X.1) {Q : px_Z → Prop} (kk : ∀ (A2 : CA) (R2 : RA) (o2 : Nat → Int64) (v5 v6 : Value) (k2 z2 : Nat), RE A2 R2 → k2 ≤ k + 1 → z2 ≤ z + 6 → wp X 11 173 (1189, [.retAddr 1, .ref 0, .ref 26, .ref 46, .int (nI i), v5, v6], [], WW A2 R2 o2, k2, z2) Q) : ∀ v5 v6, wp X 11 173 (235, [.retAddr 1, .ref 0, .ref 26, .ref 46, .int (nI i), v5, v6], [], WW A R o, k, z) Q := by
  intro v5 v6
  have J := j_order (X := X) (d := 0) (A := A) (R := R) (o := o) H (x := (X.2 ((nI (i + 1))).toNatClampNeg))
  rcases h_order J with ⟨hh, hm⟩ | ⟨A2, v, hh, hm⟩
  · obtain ⟨R2, b, hm, hth, hre⟩ := hm o
    refine wz_aload_n (p9 := 236) rfl rfl rfl ?_
    refine wz_aload_nS (p9 := 237) rfl rfl rfl ?_
    refine wz_iload (p9 := 239) rfl rfl rfl ?_
    refine wz_iconst (x := nI 1) (p9 := 240) rfl rfl (by decide) ?_
    refine wn_add (p9 := 241) rfl rfl ?_
    refine wz_sald (v := X.2 ((nI (i + 1))).toNatClampNeg) (p9 := 242) rfl rfl (q_in (show i + 1 < X.1 by omega) (by omega)) rfl ?_
    refine wz_aload_n (p9 := 243) rfl rfl rfl ?_
    refine wz_cv (p9 := 246) (w1 := WW A R o) (u := .int (nI 1)) (k1 := 1) (z1 := 6) (tz_calS (N := 158) (As := [.ref 0, .int (X.2 ((nI (i + 1))).toNatClampNeg), .ref 46]) (rest := []) rfl rfl rfl rfl rfl rfl) rfl hh ?_
    refine wz_istore (l9 := [.retAddr 1, .ref 0, .ref 26, .ref 46, .int (nI i), .int (nI 1), v6]) (p9 := 248) rfl rfl rfl rfl ?_
    refine wz_aload_n (p9 := 249) rfl rfl rfl ?_
    refine wz_aload_nS (p9 := 250) rfl rfl rfl ?_
    refine wz_iload (p9 := 252) rfl rfl rfl ?_
    refine wz_iconst (x := nI 1) (p9 := 253) rfl rfl (by decide) ?_
    refine wn_add (p9 := 254) rfl rfl ?_
    refine wz_sald (v := X.2 ((nI (i + 1))).toNatClampNeg) (p9 := 255) rfl rfl (q_in (show i + 1 < X.1 by omega) (by omega)) rfl ?_
    refine wz_c1 (p9 := 258) (w1 := WW A R2 o) (u := .int b) (wa_v (N := 102) (i := 26) (As := [.int (X.2 ((nI (i + 1))).toNatClampNeg)]) (rest := []) rfl rfl rfl rfl rfl rfl rfl) rfl (hm.up (by decide)) ?_
    refine wz_istore (l9 := [.retAddr 1, .ref 0, .ref 26, .ref 46, .int (nI i), .int (nI 1), .int b]) (p9 := 260) rfl rfl rfl rfl ?_
    refine wz_aload_n (p9 := 261) rfl rfl rfl ?_
    refine wz_c1 (p9 := 264) (w1 := WW A R2 o) (u := .int (nI 1)) (wa_v (N := 98) (i := 26) (As := []) (rest := []) rfl rfl rfl rfl rfl rfl rfl) rfl (by have h9 := g_thrown (X := X) (d := 10) (A := A) (R := R2) (o := o); rw [hth] at h9; exact h9) ?_
    refine wz_iload (p9 := 266) rfl rfl rfl ?_
    refine wn_iceq (t9 := 271) (p9 := 269) rfl rfl rfl (by omega) (by omega) (fun _ => ?_) (fun h9 => by omega)
    refine wz_iload (p9 := 273) rfl rfl rfl ?_
    refine wn_ifne (t9 := 288) (p9 := 276) rfl rfl rfl (by omega) (fun _ => ?_) (fun h9 => by omega)
    refine wz_goto (p9 := 1189) rfl rfl ?_
    exact kk A R2 _ _ _ _ _ hre (Nat.le_refl _) (Nat.le_refl _)
  · obtain ⟨R2, hm, hth, hre⟩ := hm (vp_updL o 0 (v.toInt64))
    refine wz_aload_n (p9 := 236) rfl rfl rfl ?_
    refine wz_aload_nS (p9 := 237) rfl rfl rfl ?_
    refine wz_iload (p9 := 239) rfl rfl rfl ?_
    refine wz_iconst (x := nI 1) (p9 := 240) rfl rfl (by decide) ?_
    refine wn_add (p9 := 241) rfl rfl ?_
    refine wz_sald (v := X.2 ((nI (i + 1))).toNatClampNeg) (p9 := 242) rfl rfl (q_in (show i + 1 < X.1 by omega) (by omega)) rfl ?_
    refine wz_aload_n (p9 := 243) rfl rfl rfl ?_
    refine wz_c1 (p9 := 246) (w1 := WW A2 R (vp_updL o 0 (v.toInt64))) (u := .int (nI 0)) (tz_calS (N := 158) (As := [.ref 0, .int (X.2 ((nI (i + 1))).toNatClampNeg), .ref 46]) (rest := []) rfl rfl rfl rfl rfl rfl) rfl hh ?_
    refine wz_istore (l9 := [.retAddr 1, .ref 0, .ref 26, .ref 46, .int (nI i), .int (nI 0), v6]) (p9 := 248) rfl rfl rfl rfl ?_
    refine wz_aload_n (p9 := 249) rfl rfl rfl ?_
    refine wz_aload_nS (p9 := 250) rfl rfl rfl ?_
    refine wz_iload (p9 := 252) rfl rfl rfl ?_
    refine wz_iconst (x := nI 1) (p9 := 253) rfl rfl (by decide) ?_
    refine wn_add (p9 := 254) rfl rfl ?_
    refine wz_sald (v := X.2 ((nI (i + 1))).toNatClampNeg) (p9 := 255) rfl rfl (q_in (show i + 1 < X.1 by omega) (by omega)) rfl ?_
    refine wz_c1 (p9 := 258) (w1 := WW A2 R2 (vp_updL o 0 (v.toInt64))) (u := .int v) (wa_v (N := 102) (i := 26) (As := [.int (X.2 ((nI (i + 1))).toNatClampNeg)]) (rest := []) rfl rfl rfl rfl rfl rfl rfl) rfl (hm.up (by decide)) ?_
    refine wz_istore (l9 := [.retAddr 1, .ref 0, .ref 26, .ref 46, .int (nI i), .int (nI 0), .int v]) (p9 := 260) rfl rfl rfl rfl ?_
    refine wz_aload_n (p9 := 261) rfl rfl rfl ?_
    refine wz_c1 (p9 := 264) (w1 := WW A2 R2 (vp_updL o 0 (v.toInt64))) (u := .int (nI 0)) (wa_v (N := 98) (i := 26) (As := []) (rest := []) rfl rfl rfl rfl rfl rfl rfl) rfl (by have h9 := g_thrown (X := X) (d := 10) (A := A2) (R := R2) (o := (vp_updL o 0 (v.toInt64))); rw [hth] at h9; exact h9) ?_
    refine wz_iload (p9 := 266) rfl rfl rfl ?_
    refine wn_iceq (t9 := 271) (p9 := 269) rfl rfl rfl (by omega) (by omega) (fun _ => ?_) (fun h9 => by omega)
    refine wz_iload (p9 := 273) rfl rfl rfl ?_
    refine wn_ifne (t9 := 288) (p9 := 276) rfl rfl rfl (by omega) (fun h9 => by omega) (fun _ => ?_)
    refine wz_aload_n (p9 := 277) rfl rfl rfl ?_
    refine wz_iconst (x := nI 0) (p9 := 278) rfl rfl (by decide) ?_
    refine wz_lald (v := (vp_updL o 0 (v.toInt64)) 0) (p9 := 279) rfl rfl rfl (by decide) rfl ?_
    refine wz_iload (p9 := 281) rfl rfl rfl ?_
    refine wz_i2l (p9 := 282) rfl rfl ?_
    refine wz_lcmp (p9 := 283) rfl rfl ?_
    refine wz_ifeq (t9 := 288) (p9 := 286) rfl rfl rfl (fun _ => ?_) (fun h9 => absurd (by rw [up_0]; exact lg_s _) h9)
    refine wz_goto (p9 := 1189) rfl rfl ?_
    exact kk A2 R2 _ _ _ _ _ hre (Nat.le_add_right _ _) (Nat.le_add_right _ _)
theorem cs_length {X : Nat × (Nat → Int32)} {A : CA} {R : RA} {o : Nat → Int64} (H : RE A R) {i k z : Nat} (hL : X.1 ≤ 2050) (hi : i + 4 ≤ X.1) {Q : px_Z → Prop} (kk : ∀ (A2 : CA) (R2 : RA) (o2 : Nat → Int64) (v5 v6 : Value) (k2 z2 : Nat), RE A2 R2 → k2 ≤ k + 1 → z2 ≤ z + 6 → wp X 11 173 (1189, [.retAddr 1, .ref 0, .ref 26, .ref 46, .int (nI i), v5, v6], [], WW A2 R2 o2, k2, z2) Q) : ∀ v5 v6, wp X 11 173 (329, [.retAddr 1, .ref 0, .ref 26, .ref 46, .int (nI i), v5, v6], [], WW A R o, k, z) Q := by
  intro v5 v6
  have J := j_length (X := X) (d := 0) (A := A) (R := R) (o := o) H (x := (X.2 ((nI (i + 1))).toNatClampNeg))
  rcases h_length J with ⟨hh, hm⟩ | ⟨A2, v, hh, hm⟩
  · obtain ⟨R2, b, hm, hth, hre⟩ := hm o
    refine wz_aload_n (p9 := 330) rfl rfl rfl ?_
    refine wz_aload_nS (p9 := 331) rfl rfl rfl ?_
    refine wz_iload (p9 := 333) rfl rfl rfl ?_
    refine wz_iconst (x := nI 1) (p9 := 334) rfl rfl (by decide) ?_
    refine wn_add (p9 := 335) rfl rfl ?_
    refine wz_sald (v := X.2 ((nI (i + 1))).toNatClampNeg) (p9 := 336) rfl rfl (q_in (show i + 1 < X.1 by omega) (by omega)) rfl ?_
    refine wz_aload_n (p9 := 337) rfl rfl rfl ?_
    refine wz_cv (p9 := 340) (w1 := WW A R o) (u := .int (nI 1)) (k1 := 1) (z1 := 6) (tz_calS (N := 159) (As := [.ref 0, .int (X.2 ((nI (i + 1))).toNatClampNeg), .ref 46]) (rest := []) rfl rfl rfl rfl rfl rfl) rfl hh ?_
    refine wz_istore (l9 := [.retAddr 1, .ref 0, .ref 26, .ref 46, .int (nI i), .int (nI 1), v6]) (p9 := 342) rfl rfl rfl rfl ?_
    refine wz_aload_n (p9 := 343) rfl rfl rfl ?_
    refine wz_aload_nS (p9 := 344) rfl rfl rfl ?_
    refine wz_iload (p9 := 346) rfl rfl rfl ?_
    refine wz_iconst (x := nI 1) (p9 := 347) rfl rfl (by decide) ?_
    refine wn_add (p9 := 348) rfl rfl ?_
    refine wz_sald (v := X.2 ((nI (i + 1))).toNatClampNeg) (p9 := 349) rfl rfl (q_in (show i + 1 < X.1 by omega) (by omega)) rfl ?_
    refine wz_c1 (p9 := 352) (w1 := WW A R2 o) (u := .int b) (wa_v (N := 116) (i := 26) (As := [.int (X.2 ((nI (i + 1))).toNatClampNeg)]) (rest := []) rfl rfl rfl rfl rfl rfl rfl) rfl (hm.up (by decide)) ?_
    refine wz_istore (l9 := [.retAddr 1, .ref 0, .ref 26, .ref 46, .int (nI i), .int (nI 1), .int b]) (p9 := 354) rfl rfl rfl rfl ?_
    refine wz_aload_n (p9 := 355) rfl rfl rfl ?_
    refine wz_c1 (p9 := 358) (w1 := WW A R2 o) (u := .int (nI 1)) (wa_v (N := 98) (i := 26) (As := []) (rest := []) rfl rfl rfl rfl rfl rfl rfl) rfl (by have h9 := g_thrown (X := X) (d := 10) (A := A) (R := R2) (o := o); rw [hth] at h9; exact h9) ?_
    refine wz_iload (p9 := 360) rfl rfl rfl ?_
    refine wn_iceq (t9 := 365) (p9 := 363) rfl rfl rfl (by omega) (by omega) (fun _ => ?_) (fun h9 => by omega)
    refine wz_iload (p9 := 367) rfl rfl rfl ?_
    refine wn_ifne (t9 := 382) (p9 := 370) rfl rfl rfl (by omega) (fun _ => ?_) (fun h9 => by omega)
    refine wz_goto (p9 := 1189) rfl rfl ?_
    exact kk A R2 _ _ _ _ _ hre (Nat.le_refl _) (Nat.le_refl _)
  · obtain ⟨R2, hm, hth, hre⟩ := hm (vp_updL o 0 (v.toInt64))
    refine wz_aload_n (p9 := 330) rfl rfl rfl ?_
    refine wz_aload_nS (p9 := 331) rfl rfl rfl ?_
    refine wz_iload (p9 := 333) rfl rfl rfl ?_
    refine wz_iconst (x := nI 1) (p9 := 334) rfl rfl (by decide) ?_
    refine wn_add (p9 := 335) rfl rfl ?_
    refine wz_sald (v := X.2 ((nI (i + 1))).toNatClampNeg) (p9 := 336) rfl rfl (q_in (show i + 1 < X.1 by omega) (by omega)) rfl ?_
    refine wz_aload_n (p9 := 337) rfl rfl rfl ?_
    refine wz_c1 (p9 := 340) (w1 := WW A2 R (vp_updL o 0 (v.toInt64))) (u := .int (nI 0)) (tz_calS (N := 159) (As := [.ref 0, .int (X.2 ((nI (i + 1))).toNatClampNeg), .ref 46]) (rest := []) rfl rfl rfl rfl rfl rfl) rfl hh ?_
    refine wz_istore (l9 := [.retAddr 1, .ref 0, .ref 26, .ref 46, .int (nI i), .int (nI 0), v6]) (p9 := 342) rfl rfl rfl rfl ?_
    refine wz_aload_n (p9 := 343) rfl rfl rfl ?_
    refine wz_aload_nS (p9 := 344) rfl rfl rfl ?_
    refine wz_iload (p9 := 346) rfl rfl rfl ?_
    refine wz_iconst (x := nI 1) (p9 := 347) rfl rfl (by decide) ?_
    refine wn_add (p9 := 348) rfl rfl ?_
    refine wz_sald (v := X.2 ((nI (i + 1))).toNatClampNeg) (p9 := 349) rfl rfl (q_in (show i + 1 < X.1 by omega) (by omega)) rfl ?_
    refine wz_c1 (p9 := 352) (w1 := WW A2 R2 (vp_updL o 0 (v.toInt64))) (u := .int v) (wa_v (N := 116) (i := 26) (As := [.int (X.2 ((nI (i + 1))).toNatClampNeg)]) (rest := []) rfl rfl rfl rfl rfl rfl rfl) rfl (hm.up (by decide)) ?_
    refine wz_istore (l9 := [.retAddr 1, .ref 0, .ref 26, .ref 46, .int (nI i), .int (nI 0), .int v]) (p9 := 354) rfl rfl rfl rfl ?_
    refine wz_aload_n (p9 := 355) rfl rfl rfl ?_
    refine wz_c1 (p9 := 358) (w1 := WW A2 R2 (vp_updL o 0 (v.toInt64))) (u := .int (nI 0)) (wa_v (N := 98) (i := 26) (As := []) (rest := []) rfl rfl rfl rfl rfl rfl rfl) rfl (by have h9 := g_thrown (X := X) (d := 10) (A := A2) (R := R2) (o := (vp_updL o 0 (v.toInt64))); rw [hth] at h9; exact h9) ?_
    refine wz_iload (p9 := 360) rfl rfl rfl ?_
    refine wn_iceq (t9 := 365) (p9 := 363) rfl rfl rfl (by omega) (by omega) (fun _ => ?_) (fun h9 => by omega)
    refine wz_iload (p9 := 367) rfl rfl rfl ?_
    refine wn_ifne (t9 := 382) (p9 := 370) rfl rfl rfl (by omega) (fun h9 => by omega) (fun _ => ?_)
    refine wz_aload_n (p9 := 371) rfl rfl rfl ?_
    refine wz_iconst (x := nI 0) (p9 := 372) rfl rfl (by decide) ?_
    refine wz_lald (v := (vp_updL o 0 (v.toInt64)) 0) (p9 := 373) rfl rfl rfl (by decide) rfl ?_
    refine wz_iload (p9 := 375) rfl rfl rfl ?_
    refine wz_i2l (p9 := 376) rfl rfl ?_
    refine wz_lcmp (p9 := 377) rfl rfl ?_
    refine wz_ifeq (t9 := 382) (p9 := 380) rfl rfl rfl (fun _ => ?_) (fun h9 => absurd (by rw [up_0]; exact lg_s _) h9)
    refine wz_goto (p9 := 1189) rfl rfl ?_
    exact kk A2 R2 _ _ _ _ _ hre (Nat.le_add_right _ _) (Nat.le_add_right _ _)
theorem cs_row {X : Nat × (Nat → Int32)} {A : CA} {R : RA} {o : Nat → Int64} (H : RE A R) {i k z : Nat} (hL : X.1 ≤ 2050) (hi : i + 4 ≤ X.1) {Q : px_Z → Prop} (kk : ∀ (A2 : CA) (R2 : RA) (o2 : Nat → Int64) (v5 v6 : Value) (k2 z2 : Nat), RE A2 R2 → k2 ≤ k + 1 → z2 ≤ z + 6 → wp X 11 173 (1189, [.retAddr 1, .ref 0, .ref 26, .ref 46, .int (nI i), v5, v6], [], WW A2 R2 o2, k2, z2) Q) : ∀ v5 v6, wp X 11 173 (385, [.retAddr 1, .ref 0, .ref 26, .ref 46, .int (nI i), v5, v6], [], WW A R o, k, z) Q := by
  intro v5 v6
  have J := j_row (X := X) (d := 0) (A := A) (R := R) (o := o) H (x := (X.2 ((nI (i + 1))).toNatClampNeg)) (y := (X.2 ((nI (i + 2))).toNatClampNeg))
  rcases h_row J with ⟨hh, hm⟩ | ⟨A2, v, hh, hm⟩
  · obtain ⟨R2, b, hm, hth, hre⟩ := hm o
    refine wz_aload_n (p9 := 386) rfl rfl rfl ?_
    refine wz_aload_nS (p9 := 387) rfl rfl rfl ?_
    refine wz_iload (p9 := 389) rfl rfl rfl ?_
    refine wz_iconst (x := nI 1) (p9 := 390) rfl rfl (by decide) ?_
    refine wn_add (p9 := 391) rfl rfl ?_
    refine wz_sald (v := X.2 ((nI (i + 1))).toNatClampNeg) (p9 := 392) rfl rfl (q_in (show i + 1 < X.1 by omega) (by omega)) rfl ?_
    refine wz_aload_nS (p9 := 393) rfl rfl rfl ?_
    refine wz_iload (p9 := 395) rfl rfl rfl ?_
    refine wz_iconst (x := nI 2) (p9 := 396) rfl rfl (by decide) ?_
    refine wn_add (p9 := 397) rfl rfl ?_
    refine wz_sald (v := X.2 ((nI (i + 2))).toNatClampNeg) (p9 := 398) rfl rfl (q_in (show i + 2 < X.1 by omega) (by omega)) rfl ?_
    refine wz_aload_n (p9 := 399) rfl rfl rfl ?_
    refine wz_cv (p9 := 402) (w1 := WW A R o) (u := .int (nI 1)) (k1 := 1) (z1 := 6) (tz_calS (N := 160) (As := [.ref 0, .int (X.2 ((nI (i + 1))).toNatClampNeg), .int (X.2 ((nI (i + 2))).toNatClampNeg), .ref 46]) (rest := []) rfl rfl rfl rfl rfl rfl) rfl hh ?_
    refine wz_istore (l9 := [.retAddr 1, .ref 0, .ref 26, .ref 46, .int (nI i), .int (nI 1), v6]) (p9 := 404) rfl rfl rfl rfl ?_
    refine wz_aload_n (p9 := 405) rfl rfl rfl ?_
    refine wz_aload_nS (p9 := 406) rfl rfl rfl ?_
    refine wz_iload (p9 := 408) rfl rfl rfl ?_
    refine wz_iconst (x := nI 1) (p9 := 409) rfl rfl (by decide) ?_
    refine wn_add (p9 := 410) rfl rfl ?_
    refine wz_sald (v := X.2 ((nI (i + 1))).toNatClampNeg) (p9 := 411) rfl rfl (q_in (show i + 1 < X.1 by omega) (by omega)) rfl ?_
    refine wz_aload_nS (p9 := 412) rfl rfl rfl ?_
    refine wz_iload (p9 := 414) rfl rfl rfl ?_
    refine wz_iconst (x := nI 2) (p9 := 415) rfl rfl (by decide) ?_
    refine wn_add (p9 := 416) rfl rfl ?_
    refine wz_sald (v := X.2 ((nI (i + 2))).toNatClampNeg) (p9 := 417) rfl rfl (q_in (show i + 2 < X.1 by omega) (by omega)) rfl ?_
    refine wz_c1 (p9 := 420) (w1 := WW A R2 o) (u := .int b) (wa_v (N := 118) (i := 26) (As := [.int (X.2 ((nI (i + 1))).toNatClampNeg), .int (X.2 ((nI (i + 2))).toNatClampNeg)]) (rest := []) rfl rfl rfl rfl rfl rfl rfl) rfl (hm.up (by decide)) ?_
    refine wz_istore (l9 := [.retAddr 1, .ref 0, .ref 26, .ref 46, .int (nI i), .int (nI 1), .int b]) (p9 := 422) rfl rfl rfl rfl ?_
    refine wz_aload_n (p9 := 423) rfl rfl rfl ?_
    refine wz_c1 (p9 := 426) (w1 := WW A R2 o) (u := .int (nI 1)) (wa_v (N := 98) (i := 26) (As := []) (rest := []) rfl rfl rfl rfl rfl rfl rfl) rfl (by have h9 := g_thrown (X := X) (d := 10) (A := A) (R := R2) (o := o); rw [hth] at h9; exact h9) ?_
    refine wz_iload (p9 := 428) rfl rfl rfl ?_
    refine wn_iceq (t9 := 433) (p9 := 431) rfl rfl rfl (by omega) (by omega) (fun _ => ?_) (fun h9 => by omega)
    refine wz_iload (p9 := 435) rfl rfl rfl ?_
    refine wn_ifne (t9 := 450) (p9 := 438) rfl rfl rfl (by omega) (fun _ => ?_) (fun h9 => by omega)
    refine wz_goto (p9 := 1189) rfl rfl ?_
    exact kk A R2 _ _ _ _ _ hre (Nat.le_refl _) (Nat.le_refl _)
  · obtain ⟨R2, hm, hth, hre⟩ := hm (vp_updL o 0 (v.toInt64))
    refine wz_aload_n (p9 := 386) rfl rfl rfl ?_
    refine wz_aload_nS (p9 := 387) rfl rfl rfl ?_
    refine wz_iload (p9 := 389) rfl rfl rfl ?_
    refine wz_iconst (x := nI 1) (p9 := 390) rfl rfl (by decide) ?_
    refine wn_add (p9 := 391) rfl rfl ?_
    refine wz_sald (v := X.2 ((nI (i + 1))).toNatClampNeg) (p9 := 392) rfl rfl (q_in (show i + 1 < X.1 by omega) (by omega)) rfl ?_
    refine wz_aload_nS (p9 := 393) rfl rfl rfl ?_
    refine wz_iload (p9 := 395) rfl rfl rfl ?_
    refine wz_iconst (x := nI 2) (p9 := 396) rfl rfl (by decide) ?_
    refine wn_add (p9 := 397) rfl rfl ?_
    refine wz_sald (v := X.2 ((nI (i + 2))).toNatClampNeg) (p9 := 398) rfl rfl (q_in (show i + 2 < X.1 by omega) (by omega)) rfl ?_
    refine wz_aload_n (p9 := 399) rfl rfl rfl ?_
    refine wz_c1 (p9 := 402) (w1 := WW A2 R (vp_updL o 0 (v.toInt64))) (u := .int (nI 0)) (tz_calS (N := 160) (As := [.ref 0, .int (X.2 ((nI (i + 1))).toNatClampNeg), .int (X.2 ((nI (i + 2))).toNatClampNeg), .ref 46]) (rest := []) rfl rfl rfl rfl rfl rfl) rfl hh ?_
    refine wz_istore (l9 := [.retAddr 1, .ref 0, .ref 26, .ref 46, .int (nI i), .int (nI 0), v6]) (p9 := 404) rfl rfl rfl rfl ?_
    refine wz_aload_n (p9 := 405) rfl rfl rfl ?_
    refine wz_aload_nS (p9 := 406) rfl rfl rfl ?_
    refine wz_iload (p9 := 408) rfl rfl rfl ?_
    refine wz_iconst (x := nI 1) (p9 := 409) rfl rfl (by decide) ?_
    refine wn_add (p9 := 410) rfl rfl ?_
    refine wz_sald (v := X.2 ((nI (i + 1))).toNatClampNeg) (p9 := 411) rfl rfl (q_in (show i + 1 < X.1 by omega) (by omega)) rfl ?_
    refine wz_aload_nS (p9 := 412) rfl rfl rfl ?_
    refine wz_iload (p9 := 414) rfl rfl rfl ?_
    refine wz_iconst (x := nI 2) (p9 := 415) rfl rfl (by decide) ?_
    refine wn_add (p9 := 416) rfl rfl ?_
    refine wz_sald (v := X.2 ((nI (i + 2))).toNatClampNeg) (p9 := 417) rfl rfl (q_in (show i + 2 < X.1 by omega) (by omega)) rfl ?_
    refine wz_c1 (p9 := 420) (w1 := WW A2 R2 (vp_updL o 0 (v.toInt64))) (u := .int v) (wa_v (N := 118) (i := 26) (As := [.int (X.2 ((nI (i + 1))).toNatClampNeg), .int (X.2 ((nI (i + 2))).toNatClampNeg)]) (rest := []) rfl rfl rfl rfl rfl rfl rfl) rfl (hm.up (by decide)) ?_
    refine wz_istore (l9 := [.retAddr 1, .ref 0, .ref 26, .ref 46, .int (nI i), .int (nI 0), .int v]) (p9 := 422) rfl rfl rfl rfl ?_
    refine wz_aload_n (p9 := 423) rfl rfl rfl ?_
    refine wz_c1 (p9 := 426) (w1 := WW A2 R2 (vp_updL o 0 (v.toInt64))) (u := .int (nI 0)) (wa_v (N := 98) (i := 26) (As := []) (rest := []) rfl rfl rfl rfl rfl rfl rfl) rfl (by have h9 := g_thrown (X := X) (d := 10) (A := A2) (R := R2) (o := (vp_updL o 0 (v.toInt64))); rw [hth] at h9; exact h9) ?_
    refine wz_iload (p9 := 428) rfl rfl rfl ?_
    refine wn_iceq (t9 := 433) (p9 := 431) rfl rfl rfl (by omega) (by omega) (fun _ => ?_) (fun h9 => by omega)
    refine wz_iload (p9 := 435) rfl rfl rfl ?_
    refine wn_ifne (t9 := 450) (p9 := 438) rfl rfl rfl (by omega) (fun h9 => by omega) (fun _ => ?_)
    refine wz_aload_n (p9 := 439) rfl rfl rfl ?_
    refine wz_iconst (x := nI 0) (p9 := 440) rfl rfl (by decide) ?_
    refine wz_lald (v := (vp_updL o 0 (v.toInt64)) 0) (p9 := 441) rfl rfl rfl (by decide) rfl ?_
    refine wz_iload (p9 := 443) rfl rfl rfl ?_
    refine wz_i2l (p9 := 444) rfl rfl ?_
    refine wz_lcmp (p9 := 445) rfl rfl ?_
    refine wz_ifeq (t9 := 450) (p9 := 448) rfl rfl rfl (fun _ => ?_) (fun h9 => absurd (by rw [up_0]; exact lg_s _) h9)
    refine wz_goto (p9 := 1189) rfl rfl ?_
    exact kk A2 R2 _ _ _ _ _ hre (Nat.le_add_right _ _) (Nat.le_add_right _ _)
theorem cs_image {X : Nat × (Nat → Int32)} {A : CA} {R : RA} {o : Nat → Int64} (H : RE A R) {i k z : Nat} (hL : X.1 ≤ 2050) (hi : i + 4 ≤ X.1) {Q : px_Z → Prop} (kk : ∀ (A2 : CA) (R2 : RA) (o2 : Nat → Int64) (v5 v6 : Value) (k2 z2 : Nat), RE A2 R2 → k2 ≤ k + 1 → z2 ≤ z + 6 → wp X 11 173 (1189, [.retAddr 1, .ref 0, .ref 26, .ref 46, .int (nI i), v5, v6], [], WW A2 R2 o2, k2, z2) Q) : ∀ v5 v6, wp X 11 173 (453, [.retAddr 1, .ref 0, .ref 26, .ref 46, .int (nI i), v5, v6], [], WW A R o, k, z) Q := by
  intro v5 v6
  have J := j_image (X := X) (d := 0) (A := A) (R := R) (o := o) H (x := (X.2 ((nI (i + 1))).toNatClampNeg)) (y := (X.2 ((nI (i + 2))).toNatClampNeg))
  rcases h_image J with ⟨hh, hm⟩ | ⟨A2, v, hh, hm⟩
  · obtain ⟨R2, b, hm, hth, hre⟩ := hm o
    refine wz_aload_n (p9 := 454) rfl rfl rfl ?_
    refine wz_aload_nS (p9 := 455) rfl rfl rfl ?_
    refine wz_iload (p9 := 457) rfl rfl rfl ?_
    refine wz_iconst (x := nI 1) (p9 := 458) rfl rfl (by decide) ?_
    refine wn_add (p9 := 459) rfl rfl ?_
    refine wz_sald (v := X.2 ((nI (i + 1))).toNatClampNeg) (p9 := 460) rfl rfl (q_in (show i + 1 < X.1 by omega) (by omega)) rfl ?_
    refine wz_aload_nS (p9 := 461) rfl rfl rfl ?_
    refine wz_iload (p9 := 463) rfl rfl rfl ?_
    refine wz_iconst (x := nI 2) (p9 := 464) rfl rfl (by decide) ?_
    refine wn_add (p9 := 465) rfl rfl ?_
    refine wz_sald (v := X.2 ((nI (i + 2))).toNatClampNeg) (p9 := 466) rfl rfl (q_in (show i + 2 < X.1 by omega) (by omega)) rfl ?_
    refine wz_aload_n (p9 := 467) rfl rfl rfl ?_
    refine wz_cv (p9 := 470) (w1 := WW A R o) (u := .int (nI 1)) (k1 := 1) (z1 := 6) (tz_calS (N := 161) (As := [.ref 0, .int (X.2 ((nI (i + 1))).toNatClampNeg), .int (X.2 ((nI (i + 2))).toNatClampNeg), .ref 46]) (rest := []) rfl rfl rfl rfl rfl rfl) rfl hh ?_
    refine wz_istore (l9 := [.retAddr 1, .ref 0, .ref 26, .ref 46, .int (nI i), .int (nI 1), v6]) (p9 := 472) rfl rfl rfl rfl ?_
    refine wz_aload_n (p9 := 473) rfl rfl rfl ?_
    refine wz_aload_nS (p9 := 474) rfl rfl rfl ?_
    refine wz_iload (p9 := 476) rfl rfl rfl ?_
    refine wz_iconst (x := nI 1) (p9 := 477) rfl rfl (by decide) ?_
    refine wn_add (p9 := 478) rfl rfl ?_
    refine wz_sald (v := X.2 ((nI (i + 1))).toNatClampNeg) (p9 := 479) rfl rfl (q_in (show i + 1 < X.1 by omega) (by omega)) rfl ?_
    refine wz_aload_nS (p9 := 480) rfl rfl rfl ?_
    refine wz_iload (p9 := 482) rfl rfl rfl ?_
    refine wz_iconst (x := nI 2) (p9 := 483) rfl rfl (by decide) ?_
    refine wn_add (p9 := 484) rfl rfl ?_
    refine wz_sald (v := X.2 ((nI (i + 2))).toNatClampNeg) (p9 := 485) rfl rfl (q_in (show i + 2 < X.1 by omega) (by omega)) rfl ?_
    refine wz_c1 (p9 := 488) (w1 := WW A R2 o) (u := .int b) (wa_v (N := 119) (i := 26) (As := [.int (X.2 ((nI (i + 1))).toNatClampNeg), .int (X.2 ((nI (i + 2))).toNatClampNeg)]) (rest := []) rfl rfl rfl rfl rfl rfl rfl) rfl (hm.up (by decide)) ?_
    refine wz_istore (l9 := [.retAddr 1, .ref 0, .ref 26, .ref 46, .int (nI i), .int (nI 1), .int b]) (p9 := 490) rfl rfl rfl rfl ?_
    refine wz_aload_n (p9 := 491) rfl rfl rfl ?_
    refine wz_c1 (p9 := 494) (w1 := WW A R2 o) (u := .int (nI 1)) (wa_v (N := 98) (i := 26) (As := []) (rest := []) rfl rfl rfl rfl rfl rfl rfl) rfl (by have h9 := g_thrown (X := X) (d := 10) (A := A) (R := R2) (o := o); rw [hth] at h9; exact h9) ?_
    refine wz_iload (p9 := 496) rfl rfl rfl ?_
    refine wn_iceq (t9 := 501) (p9 := 499) rfl rfl rfl (by omega) (by omega) (fun _ => ?_) (fun h9 => by omega)
    refine wz_iload (p9 := 503) rfl rfl rfl ?_
    refine wn_ifne (t9 := 518) (p9 := 506) rfl rfl rfl (by omega) (fun _ => ?_) (fun h9 => by omega)
    refine wz_goto (p9 := 1189) rfl rfl ?_
    exact kk A R2 _ _ _ _ _ hre (Nat.le_refl _) (Nat.le_refl _)
  · obtain ⟨R2, hm, hth, hre⟩ := hm (vp_updL o 0 (v.toInt64))
    refine wz_aload_n (p9 := 454) rfl rfl rfl ?_
    refine wz_aload_nS (p9 := 455) rfl rfl rfl ?_
    refine wz_iload (p9 := 457) rfl rfl rfl ?_
    refine wz_iconst (x := nI 1) (p9 := 458) rfl rfl (by decide) ?_
    refine wn_add (p9 := 459) rfl rfl ?_
    refine wz_sald (v := X.2 ((nI (i + 1))).toNatClampNeg) (p9 := 460) rfl rfl (q_in (show i + 1 < X.1 by omega) (by omega)) rfl ?_
    refine wz_aload_nS (p9 := 461) rfl rfl rfl ?_
    refine wz_iload (p9 := 463) rfl rfl rfl ?_
    refine wz_iconst (x := nI 2) (p9 := 464) rfl rfl (by decide) ?_
    refine wn_add (p9 := 465) rfl rfl ?_
    refine wz_sald (v := X.2 ((nI (i + 2))).toNatClampNeg) (p9 := 466) rfl rfl (q_in (show i + 2 < X.1 by omega) (by omega)) rfl ?_
    refine wz_aload_n (p9 := 467) rfl rfl rfl ?_
    refine wz_c1 (p9 := 470) (w1 := WW A2 R (vp_updL o 0 (v.toInt64))) (u := .int (nI 0)) (tz_calS (N := 161) (As := [.ref 0, .int (X.2 ((nI (i + 1))).toNatClampNeg), .int (X.2 ((nI (i + 2))).toNatClampNeg), .ref 46]) (rest := []) rfl rfl rfl rfl rfl rfl) rfl hh ?_
    refine wz_istore (l9 := [.retAddr 1, .ref 0, .ref 26, .ref 46, .int (nI i), .int (nI 0), v6]) (p9 := 472) rfl rfl rfl rfl ?_
    refine wz_aload_n (p9 := 473) rfl rfl rfl ?_
    refine wz_aload_nS (p9 := 474) rfl rfl rfl ?_
    refine wz_iload (p9 := 476) rfl rfl rfl ?_
    refine wz_iconst (x := nI 1) (p9 := 477) rfl rfl (by decide) ?_
    refine wn_add (p9 := 478) rfl rfl ?_
    refine wz_sald (v := X.2 ((nI (i + 1))).toNatClampNeg) (p9 := 479) rfl rfl (q_in (show i + 1 < X.1 by omega) (by omega)) rfl ?_
    refine wz_aload_nS (p9 := 480) rfl rfl rfl ?_
    refine wz_iload (p9 := 482) rfl rfl rfl ?_
    refine wz_iconst (x := nI 2) (p9 := 483) rfl rfl (by decide) ?_
    refine wn_add (p9 := 484) rfl rfl ?_
    refine wz_sald (v := X.2 ((nI (i + 2))).toNatClampNeg) (p9 := 485) rfl rfl (q_in (show i + 2 < X.1 by omega) (by omega)) rfl ?_
    refine wz_c1 (p9 := 488) (w1 := WW A2 R2 (vp_updL o 0 (v.toInt64))) (u := .int v) (wa_v (N := 119) (i := 26) (As := [.int (X.2 ((nI (i + 1))).toNatClampNeg), .int (X.2 ((nI (i + 2))).toNatClampNeg)]) (rest := []) rfl rfl rfl rfl rfl rfl rfl) rfl (hm.up (by decide)) ?_
    refine wz_istore (l9 := [.retAddr 1, .ref 0, .ref 26, .ref 46, .int (nI i), .int (nI 0), .int v]) (p9 := 490) rfl rfl rfl rfl ?_
    refine wz_aload_n (p9 := 491) rfl rfl rfl ?_
    refine wz_c1 (p9 := 494) (w1 := WW A2 R2 (vp_updL o 0 (v.toInt64))) (u := .int (nI 0)) (wa_v (N := 98) (i := 26) (As := []) (rest := []) rfl rfl rfl rfl rfl rfl rfl) rfl (by have h9 := g_thrown (X := X) (d := 10) (A := A2) (R := R2) (o := (vp_updL o 0 (v.toInt64))); rw [hth] at h9; exact h9) ?_
    refine wz_iload (p9 := 496) rfl rfl rfl ?_
    refine wn_iceq (t9 := 501) (p9 := 499) rfl rfl rfl (by omega) (by omega) (fun _ => ?_) (fun h9 => by omega)
    refine wz_iload (p9 := 503) rfl rfl rfl ?_
    refine wn_ifne (t9 := 518) (p9 := 506) rfl rfl rfl (by omega) (fun h9 => by omega) (fun _ => ?_)
    refine wz_aload_n (p9 := 507) rfl rfl rfl ?_
    refine wz_iconst (x := nI 0) (p9 := 508) rfl rfl (by decide) ?_
    refine wz_lald (v := (vp_updL o 0 (v.toInt64)) 0) (p9 := 509) rfl rfl rfl (by decide) rfl ?_
    refine wz_iload (p9 := 511) rfl rfl rfl ?_
    refine wz_i2l (p9 := 512) rfl rfl ?_
    refine wz_lcmp (p9 := 513) rfl rfl ?_
    refine wz_ifeq (t9 := 518) (p9 := 516) rfl rfl rfl (fun _ => ?_) (fun h9 => absurd (by rw [up_0]; exact lg_s _) h9)
    refine wz_goto (p9 := 1189) rfl rfl ?_
    exact kk A2 R2 _ _ _ _ _ hre (Nat.le_add_right _ _) (Nat.le_add_right _ _)
theorem cs_act {X : Nat × (Nat → Int32)} {A : CA} {R : RA} {o : Nat → Int64} (H : RE A R) {i k z : Nat} (hL : X.1 ≤ 2050) (hi : i + 4 ≤ X.1) {Q : px_Z → Prop} (kk : ∀ (A2 : CA) (R2 : RA) (o2 : Nat → Int64) (v5 v6 : Value) (k2 z2 : Nat), RE A2 R2 → k2 ≤ k + 1 → z2 ≤ z + 6 → wp X 11 173 (1189, [.retAddr 1, .ref 0, .ref 26, .ref 46, .int (nI i), v5, v6], [], WW A2 R2 o2, k2, z2) Q) : ∀ v5 v6, wp X 11 173 (521, [.retAddr 1, .ref 0, .ref 26, .ref 46, .int (nI i), v5, v6], [], WW A R o, k, z) Q := by
  intro v5 v6
  have J := j_act (X := X) (d := 0) (A := A) (R := R) (o := o) H (x := (X.2 ((nI (i + 1))).toNatClampNeg))
  rcases h_act J with ⟨hh, hm⟩ | ⟨A2, hh, hm⟩
  · obtain ⟨R2, hm, hth, hre⟩ := hm o
    refine wz_aload_n (p9 := 522) rfl rfl rfl ?_
    refine wz_aload_nS (p9 := 523) rfl rfl rfl ?_
    refine wz_iload (p9 := 525) rfl rfl rfl ?_
    refine wz_iconst (x := nI 1) (p9 := 526) rfl rfl (by decide) ?_
    refine wn_add (p9 := 527) rfl rfl ?_
    refine wz_sald (v := X.2 ((nI (i + 1))).toNatClampNeg) (p9 := 528) rfl rfl (q_in (show i + 1 < X.1 by omega) (by omega)) rfl ?_
    refine wz_cv (p9 := 531) (w1 := WW A R o) (u := .int (nI 1)) (k1 := 1) (z1 := 6) (tz_calS (N := 162) (As := [.ref 0, .int (X.2 ((nI (i + 1))).toNatClampNeg)]) (rest := []) rfl rfl rfl rfl rfl rfl) rfl hh ?_
    refine wz_istore (l9 := [.retAddr 1, .ref 0, .ref 26, .ref 46, .int (nI i), .int (nI 1), v6]) (p9 := 533) rfl rfl rfl rfl ?_
    refine wz_aload_n (p9 := 534) rfl rfl rfl ?_
    refine wz_aload_nS (p9 := 535) rfl rfl rfl ?_
    refine wz_iload (p9 := 537) rfl rfl rfl ?_
    refine wz_iconst (x := nI 1) (p9 := 538) rfl rfl (by decide) ?_
    refine wn_add (p9 := 539) rfl rfl ?_
    refine wz_sald (v := X.2 ((nI (i + 1))).toNatClampNeg) (p9 := 540) rfl rfl (q_in (show i + 1 < X.1 by omega) (by omega)) rfl ?_
    refine wz_c0 (p9 := 543) (w1 := WW A R2 o) (wa_v (N := 122) (i := 26) (As := [.int (X.2 ((nI (i + 1))).toNatClampNeg)]) (rest := []) rfl rfl rfl rfl rfl rfl rfl) rfl (hm.up (by decide)) ?_
    refine wz_aload_n (p9 := 544) rfl rfl rfl ?_
    refine wz_c1 (p9 := 547) (w1 := WW A R2 o) (u := .int (nI 1)) (wa_v (N := 98) (i := 26) (As := []) (rest := []) rfl rfl rfl rfl rfl rfl rfl) rfl (by have h9 := g_thrown (X := X) (d := 10) (A := A) (R := R2) (o := o); rw [hth] at h9; exact h9) ?_
    refine wz_iload (p9 := 549) rfl rfl rfl ?_
    refine wn_iceq (t9 := 554) (p9 := 552) rfl rfl rfl (by omega) (by omega) (fun _ => ?_) (fun h9 => by omega)
    refine wz_goto (p9 := 1189) rfl rfl ?_
    exact kk A R2 _ _ _ _ _ hre (Nat.le_refl _) (Nat.le_refl _)
  · obtain ⟨R2, hm, hth, hre⟩ := hm o
    refine wz_aload_n (p9 := 522) rfl rfl rfl ?_
    refine wz_aload_nS (p9 := 523) rfl rfl rfl ?_
    refine wz_iload (p9 := 525) rfl rfl rfl ?_
    refine wz_iconst (x := nI 1) (p9 := 526) rfl rfl (by decide) ?_
    refine wn_add (p9 := 527) rfl rfl ?_
    refine wz_sald (v := X.2 ((nI (i + 1))).toNatClampNeg) (p9 := 528) rfl rfl (q_in (show i + 1 < X.1 by omega) (by omega)) rfl ?_
    refine wz_c1 (p9 := 531) (w1 := WW A2 R o) (u := .int (nI 0)) (tz_calS (N := 162) (As := [.ref 0, .int (X.2 ((nI (i + 1))).toNatClampNeg)]) (rest := []) rfl rfl rfl rfl rfl rfl) rfl hh ?_
    refine wz_istore (l9 := [.retAddr 1, .ref 0, .ref 26, .ref 46, .int (nI i), .int (nI 0), v6]) (p9 := 533) rfl rfl rfl rfl ?_
    refine wz_aload_n (p9 := 534) rfl rfl rfl ?_
    refine wz_aload_nS (p9 := 535) rfl rfl rfl ?_
    refine wz_iload (p9 := 537) rfl rfl rfl ?_
    refine wz_iconst (x := nI 1) (p9 := 538) rfl rfl (by decide) ?_
    refine wn_add (p9 := 539) rfl rfl ?_
    refine wz_sald (v := X.2 ((nI (i + 1))).toNatClampNeg) (p9 := 540) rfl rfl (q_in (show i + 1 < X.1 by omega) (by omega)) rfl ?_
    refine wz_c0 (p9 := 543) (w1 := WW A2 R2 o) (wa_v (N := 122) (i := 26) (As := [.int (X.2 ((nI (i + 1))).toNatClampNeg)]) (rest := []) rfl rfl rfl rfl rfl rfl rfl) rfl (hm.up (by decide)) ?_
    refine wz_aload_n (p9 := 544) rfl rfl rfl ?_
    refine wz_c1 (p9 := 547) (w1 := WW A2 R2 o) (u := .int (nI 0)) (wa_v (N := 98) (i := 26) (As := []) (rest := []) rfl rfl rfl rfl rfl rfl rfl) rfl (by have h9 := g_thrown (X := X) (d := 10) (A := A2) (R := R2) (o := o); rw [hth] at h9; exact h9) ?_
    refine wz_iload (p9 := 549) rfl rfl rfl ?_
    refine wn_iceq (t9 := 554) (p9 := 552) rfl rfl rfl (by omega) (by omega) (fun _ => ?_) (fun h9 => by omega)
    refine wz_goto (p9 := 1189) rfl rfl ?_
    exact kk A2 R2 _ _ _ _ _ hre (Nat.le_add_right _ _) (Nat.le_add_right _ _)
theorem cs_swap {X : Nat × (Nat → Int32)} {A : CA} {R : RA} {o : Nat → Int64} (H : RE A R) {i k z : Nat} (hL : X.1 ≤ 2050) (hi : i + 4 ≤ X.1) {Q : px_Z → Prop} (kk : ∀ (A2 : CA) (R2 : RA) (o2 : Nat → Int64) (v5 v6 : Value) (k2 z2 : Nat), RE A2 R2 → k2 ≤ k + 1 → z2 ≤ z + 6 → wp X 11 173 (1189, [.retAddr 1, .ref 0, .ref 26, .ref 46, .int (nI i), v5, v6], [], WW A2 R2 o2, k2, z2) Q) : ∀ v5 v6, wp X 11 173 (557, [.retAddr 1, .ref 0, .ref 26, .ref 46, .int (nI i), v5, v6], [], WW A R o, k, z) Q := by
  intro v5 v6
  have J := j_swap (X := X) (d := 0) (A := A) (R := R) (o := o) H (x := (X.2 ((nI (i + 1))).toNatClampNeg)) (y := (X.2 ((nI (i + 2))).toNatClampNeg))
  rcases h_swap J with ⟨hh, hm⟩ | ⟨A2, v, hh, hm⟩
  · obtain ⟨R2, b, hm, hth, hre⟩ := hm o
    refine wz_aload_n (p9 := 558) rfl rfl rfl ?_
    refine wz_aload_nS (p9 := 559) rfl rfl rfl ?_
    refine wz_iload (p9 := 561) rfl rfl rfl ?_
    refine wz_iconst (x := nI 1) (p9 := 562) rfl rfl (by decide) ?_
    refine wn_add (p9 := 563) rfl rfl ?_
    refine wz_sald (v := X.2 ((nI (i + 1))).toNatClampNeg) (p9 := 564) rfl rfl (q_in (show i + 1 < X.1 by omega) (by omega)) rfl ?_
    refine wz_aload_nS (p9 := 565) rfl rfl rfl ?_
    refine wz_iload (p9 := 567) rfl rfl rfl ?_
    refine wz_iconst (x := nI 2) (p9 := 568) rfl rfl (by decide) ?_
    refine wn_add (p9 := 569) rfl rfl ?_
    refine wz_sald (v := X.2 ((nI (i + 2))).toNatClampNeg) (p9 := 570) rfl rfl (q_in (show i + 2 < X.1 by omega) (by omega)) rfl ?_
    refine wz_aload_n (p9 := 571) rfl rfl rfl ?_
    refine wz_cv (p9 := 574) (w1 := WW A R o) (u := .int (nI 1)) (k1 := 1) (z1 := 6) (tz_calS (N := 163) (As := [.ref 0, .int (X.2 ((nI (i + 1))).toNatClampNeg), .int (X.2 ((nI (i + 2))).toNatClampNeg), .ref 46]) (rest := []) rfl rfl rfl rfl rfl rfl) rfl hh ?_
    refine wz_istore (l9 := [.retAddr 1, .ref 0, .ref 26, .ref 46, .int (nI i), .int (nI 1), v6]) (p9 := 576) rfl rfl rfl rfl ?_
    refine wz_aload_n (p9 := 577) rfl rfl rfl ?_
    refine wz_aload_nS (p9 := 578) rfl rfl rfl ?_
    refine wz_iload (p9 := 580) rfl rfl rfl ?_
    refine wz_iconst (x := nI 1) (p9 := 581) rfl rfl (by decide) ?_
    refine wn_add (p9 := 582) rfl rfl ?_
    refine wz_sald (v := X.2 ((nI (i + 1))).toNatClampNeg) (p9 := 583) rfl rfl (q_in (show i + 1 < X.1 by omega) (by omega)) rfl ?_
    refine wz_aload_nS (p9 := 584) rfl rfl rfl ?_
    refine wz_iload (p9 := 586) rfl rfl rfl ?_
    refine wz_iconst (x := nI 2) (p9 := 587) rfl rfl (by decide) ?_
    refine wn_add (p9 := 588) rfl rfl ?_
    refine wz_sald (v := X.2 ((nI (i + 2))).toNatClampNeg) (p9 := 589) rfl rfl (q_in (show i + 2 < X.1 by omega) (by omega)) rfl ?_
    refine wz_c1 (p9 := 592) (w1 := WW A R2 o) (u := .int b) (wa_v (N := 126) (i := 26) (As := [.int (X.2 ((nI (i + 1))).toNatClampNeg), .int (X.2 ((nI (i + 2))).toNatClampNeg)]) (rest := []) rfl rfl rfl rfl rfl rfl rfl) rfl (hm.up (by decide)) ?_
    refine wz_istore (l9 := [.retAddr 1, .ref 0, .ref 26, .ref 46, .int (nI i), .int (nI 1), .int b]) (p9 := 594) rfl rfl rfl rfl ?_
    refine wz_aload_n (p9 := 595) rfl rfl rfl ?_
    refine wz_c1 (p9 := 598) (w1 := WW A R2 o) (u := .int (nI 1)) (wa_v (N := 98) (i := 26) (As := []) (rest := []) rfl rfl rfl rfl rfl rfl rfl) rfl (by have h9 := g_thrown (X := X) (d := 10) (A := A) (R := R2) (o := o); rw [hth] at h9; exact h9) ?_
    refine wz_iload (p9 := 600) rfl rfl rfl ?_
    refine wn_iceq (t9 := 605) (p9 := 603) rfl rfl rfl (by omega) (by omega) (fun _ => ?_) (fun h9 => by omega)
    refine wz_iload (p9 := 607) rfl rfl rfl ?_
    refine wn_ifne (t9 := 629) (p9 := 610) rfl rfl rfl (by omega) (fun _ => ?_) (fun h9 => by omega)
    refine wz_goto (p9 := 1189) rfl rfl ?_
    exact kk A R2 _ _ _ _ _ hre (Nat.le_refl _) (Nat.le_refl _)
  · obtain ⟨R2, hm, hth, hre⟩ := hm (vp_updL o 0 (lb v))
    by_cases hv : v = 0
    · skip
      refine wz_aload_n (p9 := 558) rfl rfl rfl ?_
      refine wz_aload_nS (p9 := 559) rfl rfl rfl ?_
      refine wz_iload (p9 := 561) rfl rfl rfl ?_
      refine wz_iconst (x := nI 1) (p9 := 562) rfl rfl (by decide) ?_
      refine wn_add (p9 := 563) rfl rfl ?_
      refine wz_sald (v := X.2 ((nI (i + 1))).toNatClampNeg) (p9 := 564) rfl rfl (q_in (show i + 1 < X.1 by omega) (by omega)) rfl ?_
      refine wz_aload_nS (p9 := 565) rfl rfl rfl ?_
      refine wz_iload (p9 := 567) rfl rfl rfl ?_
      refine wz_iconst (x := nI 2) (p9 := 568) rfl rfl (by decide) ?_
      refine wn_add (p9 := 569) rfl rfl ?_
      refine wz_sald (v := X.2 ((nI (i + 2))).toNatClampNeg) (p9 := 570) rfl rfl (q_in (show i + 2 < X.1 by omega) (by omega)) rfl ?_
      refine wz_aload_n (p9 := 571) rfl rfl rfl ?_
      refine wz_c1 (p9 := 574) (w1 := WW A2 R (vp_updL o 0 (lb v))) (u := .int (nI 0)) (tz_calS (N := 163) (As := [.ref 0, .int (X.2 ((nI (i + 1))).toNatClampNeg), .int (X.2 ((nI (i + 2))).toNatClampNeg), .ref 46]) (rest := []) rfl rfl rfl rfl rfl rfl) rfl hh ?_
      refine wz_istore (l9 := [.retAddr 1, .ref 0, .ref 26, .ref 46, .int (nI i), .int (nI 0), v6]) (p9 := 576) rfl rfl rfl rfl ?_
      refine wz_aload_n (p9 := 577) rfl rfl rfl ?_
      refine wz_aload_nS (p9 := 578) rfl rfl rfl ?_
      refine wz_iload (p9 := 580) rfl rfl rfl ?_
      refine wz_iconst (x := nI 1) (p9 := 581) rfl rfl (by decide) ?_
      refine wn_add (p9 := 582) rfl rfl ?_
      refine wz_sald (v := X.2 ((nI (i + 1))).toNatClampNeg) (p9 := 583) rfl rfl (q_in (show i + 1 < X.1 by omega) (by omega)) rfl ?_
      refine wz_aload_nS (p9 := 584) rfl rfl rfl ?_
      refine wz_iload (p9 := 586) rfl rfl rfl ?_
      refine wz_iconst (x := nI 2) (p9 := 587) rfl rfl (by decide) ?_
      refine wn_add (p9 := 588) rfl rfl ?_
      refine wz_sald (v := X.2 ((nI (i + 2))).toNatClampNeg) (p9 := 589) rfl rfl (q_in (show i + 2 < X.1 by omega) (by omega)) rfl ?_
      refine wz_c1 (p9 := 592) (w1 := WW A2 R2 (vp_updL o 0 (lb v))) (u := .int v) (wa_v (N := 126) (i := 26) (As := [.int (X.2 ((nI (i + 1))).toNatClampNeg), .int (X.2 ((nI (i + 2))).toNatClampNeg)]) (rest := []) rfl rfl rfl rfl rfl rfl rfl) rfl (hm.up (by decide)) ?_
      refine wz_istore (l9 := [.retAddr 1, .ref 0, .ref 26, .ref 46, .int (nI i), .int (nI 0), .int v]) (p9 := 594) rfl rfl rfl rfl ?_
      refine wz_aload_n (p9 := 595) rfl rfl rfl ?_
      refine wz_c1 (p9 := 598) (w1 := WW A2 R2 (vp_updL o 0 (lb v))) (u := .int (nI 0)) (wa_v (N := 98) (i := 26) (As := []) (rest := []) rfl rfl rfl rfl rfl rfl rfl) rfl (by have h9 := g_thrown (X := X) (d := 10) (A := A2) (R := R2) (o := (vp_updL o 0 (lb v))); rw [hth] at h9; exact h9) ?_
      refine wz_iload (p9 := 600) rfl rfl rfl ?_
      refine wn_iceq (t9 := 605) (p9 := 603) rfl rfl rfl (by omega) (by omega) (fun _ => ?_) (fun h9 => by omega)
      refine wz_iload (p9 := 607) rfl rfl rfl ?_
      refine wn_ifne (t9 := 629) (p9 := 610) rfl rfl rfl (by omega) (fun h9 => by omega) (fun _ => ?_)
      refine wz_aload_n (p9 := 611) rfl rfl rfl ?_
      refine wz_iconst (x := nI 0) (p9 := 612) rfl rfl (by decide) ?_
      refine wz_lald (v := (vp_updL o 0 (lb v)) 0) (p9 := 613) rfl rfl rfl (by decide) rfl ?_
      refine wz_iload (p9 := 615) rfl rfl rfl ?_
      refine wz_ifeq (t9 := 622) (p9 := 618) rfl rfl rfl (fun _ => ?_) (fun h9 => absurd hv h9)
      refine wz_lconst (x := 0) (p9 := 623) rfl rfl rfl ?_
      refine wz_lcmp (p9 := 624) rfl rfl ?_
      refine wz_ifeq (t9 := 629) (p9 := 627) rfl rfl rfl (fun _ => ?_) (fun h9 => absurd (by rw [up_0]; rw [show lb v = 0 from if_pos hv]; exact lg_s _) h9)
      refine wz_goto (p9 := 1189) rfl rfl ?_
      exact kk A2 R2 _ _ _ _ _ hre (Nat.le_add_right _ _) (Nat.le_add_right _ _)
    · skip
      refine wz_aload_n (p9 := 558) rfl rfl rfl ?_
      refine wz_aload_nS (p9 := 559) rfl rfl rfl ?_
      refine wz_iload (p9 := 561) rfl rfl rfl ?_
      refine wz_iconst (x := nI 1) (p9 := 562) rfl rfl (by decide) ?_
      refine wn_add (p9 := 563) rfl rfl ?_
      refine wz_sald (v := X.2 ((nI (i + 1))).toNatClampNeg) (p9 := 564) rfl rfl (q_in (show i + 1 < X.1 by omega) (by omega)) rfl ?_
      refine wz_aload_nS (p9 := 565) rfl rfl rfl ?_
      refine wz_iload (p9 := 567) rfl rfl rfl ?_
      refine wz_iconst (x := nI 2) (p9 := 568) rfl rfl (by decide) ?_
      refine wn_add (p9 := 569) rfl rfl ?_
      refine wz_sald (v := X.2 ((nI (i + 2))).toNatClampNeg) (p9 := 570) rfl rfl (q_in (show i + 2 < X.1 by omega) (by omega)) rfl ?_
      refine wz_aload_n (p9 := 571) rfl rfl rfl ?_
      refine wz_c1 (p9 := 574) (w1 := WW A2 R (vp_updL o 0 (lb v))) (u := .int (nI 0)) (tz_calS (N := 163) (As := [.ref 0, .int (X.2 ((nI (i + 1))).toNatClampNeg), .int (X.2 ((nI (i + 2))).toNatClampNeg), .ref 46]) (rest := []) rfl rfl rfl rfl rfl rfl) rfl hh ?_
      refine wz_istore (l9 := [.retAddr 1, .ref 0, .ref 26, .ref 46, .int (nI i), .int (nI 0), v6]) (p9 := 576) rfl rfl rfl rfl ?_
      refine wz_aload_n (p9 := 577) rfl rfl rfl ?_
      refine wz_aload_nS (p9 := 578) rfl rfl rfl ?_
      refine wz_iload (p9 := 580) rfl rfl rfl ?_
      refine wz_iconst (x := nI 1) (p9 := 581) rfl rfl (by decide) ?_
      refine wn_add (p9 := 582) rfl rfl ?_
      refine wz_sald (v := X.2 ((nI (i + 1))).toNatClampNeg) (p9 := 583) rfl rfl (q_in (show i + 1 < X.1 by omega) (by omega)) rfl ?_
      refine wz_aload_nS (p9 := 584) rfl rfl rfl ?_
      refine wz_iload (p9 := 586) rfl rfl rfl ?_
      refine wz_iconst (x := nI 2) (p9 := 587) rfl rfl (by decide) ?_
      refine wn_add (p9 := 588) rfl rfl ?_
      refine wz_sald (v := X.2 ((nI (i + 2))).toNatClampNeg) (p9 := 589) rfl rfl (q_in (show i + 2 < X.1 by omega) (by omega)) rfl ?_
      refine wz_c1 (p9 := 592) (w1 := WW A2 R2 (vp_updL o 0 (lb v))) (u := .int v) (wa_v (N := 126) (i := 26) (As := [.int (X.2 ((nI (i + 1))).toNatClampNeg), .int (X.2 ((nI (i + 2))).toNatClampNeg)]) (rest := []) rfl rfl rfl rfl rfl rfl rfl) rfl (hm.up (by decide)) ?_
      refine wz_istore (l9 := [.retAddr 1, .ref 0, .ref 26, .ref 46, .int (nI i), .int (nI 0), .int v]) (p9 := 594) rfl rfl rfl rfl ?_
      refine wz_aload_n (p9 := 595) rfl rfl rfl ?_
      refine wz_c1 (p9 := 598) (w1 := WW A2 R2 (vp_updL o 0 (lb v))) (u := .int (nI 0)) (wa_v (N := 98) (i := 26) (As := []) (rest := []) rfl rfl rfl rfl rfl rfl rfl) rfl (by have h9 := g_thrown (X := X) (d := 10) (A := A2) (R := R2) (o := (vp_updL o 0 (lb v))); rw [hth] at h9; exact h9) ?_
      refine wz_iload (p9 := 600) rfl rfl rfl ?_
      refine wn_iceq (t9 := 605) (p9 := 603) rfl rfl rfl (by omega) (by omega) (fun _ => ?_) (fun h9 => by omega)
      refine wz_iload (p9 := 607) rfl rfl rfl ?_
      refine wn_ifne (t9 := 629) (p9 := 610) rfl rfl rfl (by omega) (fun h9 => by omega) (fun _ => ?_)
      refine wz_aload_n (p9 := 611) rfl rfl rfl ?_
      refine wz_iconst (x := nI 0) (p9 := 612) rfl rfl (by decide) ?_
      refine wz_lald (v := (vp_updL o 0 (lb v)) 0) (p9 := 613) rfl rfl rfl (by decide) rfl ?_
      refine wz_iload (p9 := 615) rfl rfl rfl ?_
      refine wz_ifeq (t9 := 622) (p9 := 618) rfl rfl rfl (fun h9 => absurd h9 hv) (fun _ => ?_)
      refine wz_lconst (x := 1) (p9 := 619) rfl rfl rfl ?_
      refine wz_goto (p9 := 623) rfl rfl ?_
      refine wz_lcmp (p9 := 624) rfl rfl ?_
      refine wz_ifeq (t9 := 629) (p9 := 627) rfl rfl rfl (fun _ => ?_) (fun h9 => absurd (by rw [up_0]; rw [show lb v = 1 from if_neg hv]; exact lg_s _) h9)
      refine wz_goto (p9 := 1189) rfl rfl ?_
      exact kk A2 R2 _ _ _ _ _ hre (Nat.le_add_right _ _) (Nat.le_add_right _ _)
theorem cs_at {X : Nat × (Nat → Int32)} {A : CA} {R : RA} {o : Nat → Int64} (H : RE A R) {i k z : Nat} (hL : X.1 ≤ 2050) (hi : i + 4 ≤ X.1) {Q : px_Z → Prop} (kk : ∀ (A2 : CA) (R2 : RA) (o2 : Nat → Int64) (v5 v6 : Value) (k2 z2 : Nat), RE A2 R2 → k2 ≤ k + 1 → z2 ≤ z + 6 → wp X 11 173 (1189, [.retAddr 1, .ref 0, .ref 26, .ref 46, .int (nI i), v5, v6], [], WW A2 R2 o2, k2, z2) Q) : ∀ v5 v6, wp X 11 173 (632, [.retAddr 1, .ref 0, .ref 26, .ref 46, .int (nI i), v5, v6], [], WW A R o, k, z) Q := by
  intro v5 v6
  have J := j_at (X := X) (d := 0) (A := A) (R := R) (o := o) H (x := (X.2 ((nI (i + 1))).toNatClampNeg))
  rcases h_at J with ⟨hh, hm⟩ | ⟨A2, v, hh, hm⟩
  · obtain ⟨R2, b, hm, hth, hre⟩ := hm o
    refine wz_aload_n (p9 := 633) rfl rfl rfl ?_
    refine wz_aload_nS (p9 := 634) rfl rfl rfl ?_
    refine wz_iload (p9 := 636) rfl rfl rfl ?_
    refine wz_iconst (x := nI 1) (p9 := 637) rfl rfl (by decide) ?_
    refine wn_add (p9 := 638) rfl rfl ?_
    refine wz_sald (v := X.2 ((nI (i + 1))).toNatClampNeg) (p9 := 639) rfl rfl (q_in (show i + 1 < X.1 by omega) (by omega)) rfl ?_
    refine wz_aload_n (p9 := 640) rfl rfl rfl ?_
    refine wz_cv (p9 := 643) (w1 := WW A R o) (u := .int (nI 1)) (k1 := 1) (z1 := 6) (tz_calS (N := 164) (As := [.ref 0, .int (X.2 ((nI (i + 1))).toNatClampNeg), .ref 46]) (rest := []) rfl rfl rfl rfl rfl rfl) rfl hh ?_
    refine wz_istore (l9 := [.retAddr 1, .ref 0, .ref 26, .ref 46, .int (nI i), .int (nI 1), v6]) (p9 := 645) rfl rfl rfl rfl ?_
    refine wz_aload_n (p9 := 646) rfl rfl rfl ?_
    refine wz_aload_nS (p9 := 647) rfl rfl rfl ?_
    refine wz_iload (p9 := 649) rfl rfl rfl ?_
    refine wz_iconst (x := nI 1) (p9 := 650) rfl rfl (by decide) ?_
    refine wn_add (p9 := 651) rfl rfl ?_
    refine wz_sald (v := X.2 ((nI (i + 1))).toNatClampNeg) (p9 := 652) rfl rfl (q_in (show i + 1 < X.1 by omega) (by omega)) rfl ?_
    refine wz_c1 (p9 := 655) (w1 := WW A R2 o) (u := .int b) (wa_v (N := 127) (i := 26) (As := [.int (X.2 ((nI (i + 1))).toNatClampNeg)]) (rest := []) rfl rfl rfl rfl rfl rfl rfl) rfl (hm.up (by decide)) ?_
    refine wz_istore (l9 := [.retAddr 1, .ref 0, .ref 26, .ref 46, .int (nI i), .int (nI 1), .int b]) (p9 := 657) rfl rfl rfl rfl ?_
    refine wz_aload_n (p9 := 658) rfl rfl rfl ?_
    refine wz_c1 (p9 := 661) (w1 := WW A R2 o) (u := .int (nI 1)) (wa_v (N := 98) (i := 26) (As := []) (rest := []) rfl rfl rfl rfl rfl rfl rfl) rfl (by have h9 := g_thrown (X := X) (d := 10) (A := A) (R := R2) (o := o); rw [hth] at h9; exact h9) ?_
    refine wz_iload (p9 := 663) rfl rfl rfl ?_
    refine wn_iceq (t9 := 668) (p9 := 666) rfl rfl rfl (by omega) (by omega) (fun _ => ?_) (fun h9 => by omega)
    refine wz_iload (p9 := 670) rfl rfl rfl ?_
    refine wn_ifne (t9 := 685) (p9 := 673) rfl rfl rfl (by omega) (fun _ => ?_) (fun h9 => by omega)
    refine wz_goto (p9 := 1189) rfl rfl ?_
    exact kk A R2 _ _ _ _ _ hre (Nat.le_refl _) (Nat.le_refl _)
  · obtain ⟨R2, hm, hth, hre⟩ := hm (vp_updL o 0 (v.toInt64))
    refine wz_aload_n (p9 := 633) rfl rfl rfl ?_
    refine wz_aload_nS (p9 := 634) rfl rfl rfl ?_
    refine wz_iload (p9 := 636) rfl rfl rfl ?_
    refine wz_iconst (x := nI 1) (p9 := 637) rfl rfl (by decide) ?_
    refine wn_add (p9 := 638) rfl rfl ?_
    refine wz_sald (v := X.2 ((nI (i + 1))).toNatClampNeg) (p9 := 639) rfl rfl (q_in (show i + 1 < X.1 by omega) (by omega)) rfl ?_
    refine wz_aload_n (p9 := 640) rfl rfl rfl ?_
    refine wz_c1 (p9 := 643) (w1 := WW A2 R (vp_updL o 0 (v.toInt64))) (u := .int (nI 0)) (tz_calS (N := 164) (As := [.ref 0, .int (X.2 ((nI (i + 1))).toNatClampNeg), .ref 46]) (rest := []) rfl rfl rfl rfl rfl rfl) rfl hh ?_
    refine wz_istore (l9 := [.retAddr 1, .ref 0, .ref 26, .ref 46, .int (nI i), .int (nI 0), v6]) (p9 := 645) rfl rfl rfl rfl ?_
    refine wz_aload_n (p9 := 646) rfl rfl rfl ?_
    refine wz_aload_nS (p9 := 647) rfl rfl rfl ?_
    refine wz_iload (p9 := 649) rfl rfl rfl ?_
    refine wz_iconst (x := nI 1) (p9 := 650) rfl rfl (by decide) ?_
    refine wn_add (p9 := 651) rfl rfl ?_
    refine wz_sald (v := X.2 ((nI (i + 1))).toNatClampNeg) (p9 := 652) rfl rfl (q_in (show i + 1 < X.1 by omega) (by omega)) rfl ?_
    refine wz_c1 (p9 := 655) (w1 := WW A2 R2 (vp_updL o 0 (v.toInt64))) (u := .int v) (wa_v (N := 127) (i := 26) (As := [.int (X.2 ((nI (i + 1))).toNatClampNeg)]) (rest := []) rfl rfl rfl rfl rfl rfl rfl) rfl (hm.up (by decide)) ?_
    refine wz_istore (l9 := [.retAddr 1, .ref 0, .ref 26, .ref 46, .int (nI i), .int (nI 0), .int v]) (p9 := 657) rfl rfl rfl rfl ?_
    refine wz_aload_n (p9 := 658) rfl rfl rfl ?_
    refine wz_c1 (p9 := 661) (w1 := WW A2 R2 (vp_updL o 0 (v.toInt64))) (u := .int (nI 0)) (wa_v (N := 98) (i := 26) (As := []) (rest := []) rfl rfl rfl rfl rfl rfl rfl) rfl (by have h9 := g_thrown (X := X) (d := 10) (A := A2) (R := R2) (o := (vp_updL o 0 (v.toInt64))); rw [hth] at h9; exact h9) ?_
    refine wz_iload (p9 := 663) rfl rfl rfl ?_
    refine wn_iceq (t9 := 668) (p9 := 666) rfl rfl rfl (by omega) (by omega) (fun _ => ?_) (fun h9 => by omega)
    refine wz_iload (p9 := 670) rfl rfl rfl ?_
    refine wn_ifne (t9 := 685) (p9 := 673) rfl rfl rfl (by omega) (fun h9 => by omega) (fun _ => ?_)
    refine wz_aload_n (p9 := 674) rfl rfl rfl ?_
    refine wz_iconst (x := nI 0) (p9 := 675) rfl rfl (by decide) ?_
    refine wz_lald (v := (vp_updL o 0 (v.toInt64)) 0) (p9 := 676) rfl rfl rfl (by decide) rfl ?_
    refine wz_iload (p9 := 678) rfl rfl rfl ?_
    refine wz_i2l (p9 := 679) rfl rfl ?_
    refine wz_lcmp (p9 := 680) rfl rfl ?_
    refine wz_ifeq (t9 := 685) (p9 := 683) rfl rfl rfl (fun _ => ?_) (fun h9 => absurd (by rw [up_0]; exact lg_s _) h9)
    refine wz_goto (p9 := 1189) rfl rfl ?_
    exact kk A2 R2 _ _ _ _ _ hre (Nat.le_add_right _ _) (Nat.le_add_right _ _)
theorem cs_goal {X : Nat × (Nat → Int32)} {A : CA} {R : RA} {o : Nat → Int64} (H : RE A R) {i k z : Nat} (hL : X.1 ≤ 2050) (hi : i + 4 ≤ X.1) {Q : px_Z → Prop} (kk : ∀ (A2 : CA) (R2 : RA) (o2 : Nat → Int64) (v5 v6 : Value) (k2 z2 : Nat), RE A2 R2 → k2 ≤ k + 1 → z2 ≤ z + 6 → wp X 11 173 (1189, [.retAddr 1, .ref 0, .ref 26, .ref 46, .int (nI i), v5, v6], [], WW A2 R2 o2, k2, z2) Q) : ∀ v5 v6, wp X 11 173 (701, [.retAddr 1, .ref 0, .ref 26, .ref 46, .int (nI i), v5, v6], [], WW A R o, k, z) Q := by
  intro v5 v6
  by_cases h3 : (X.2 ((nI (i + 3))).toNatClampNeg) = 0
  · skip
    have J := j_goal0 (X := X) (d := 0) (A := A) (R := R) (o := o) H (x := (X.2 ((nI (i + 1))).toNatClampNeg)) (y := (X.2 ((nI (i + 2))).toNatClampNeg))
    rcases h_goal J with ⟨hh, hm⟩ | ⟨A2, v, hh, hm⟩
    · obtain ⟨R2, b, hm, hth, hre⟩ := hm o
      refine wz_aload_n (p9 := 702) rfl rfl rfl ?_
      refine wz_aload_nS (p9 := 703) rfl rfl rfl ?_
      refine wz_iload (p9 := 705) rfl rfl rfl ?_
      refine wz_iconst (x := nI 1) (p9 := 706) rfl rfl (by decide) ?_
      refine wn_add (p9 := 707) rfl rfl ?_
      refine wz_sald (v := X.2 ((nI (i + 1))).toNatClampNeg) (p9 := 708) rfl rfl (q_in (show i + 1 < X.1 by omega) (by omega)) rfl ?_
      refine wz_aload_nS (p9 := 709) rfl rfl rfl ?_
      refine wz_iload (p9 := 711) rfl rfl rfl ?_
      refine wz_iconst (x := nI 2) (p9 := 712) rfl rfl (by decide) ?_
      refine wn_add (p9 := 713) rfl rfl ?_
      refine wz_sald (v := X.2 ((nI (i + 2))).toNatClampNeg) (p9 := 714) rfl rfl (q_in (show i + 2 < X.1 by omega) (by omega)) rfl ?_
      refine wz_aload_nS (p9 := 715) rfl rfl rfl ?_
      refine wz_iload (p9 := 717) rfl rfl rfl ?_
      refine wz_iconst (x := nI 3) (p9 := 718) rfl rfl (by decide) ?_
      refine wn_add (p9 := 719) rfl rfl ?_
      refine wz_sald (v := X.2 ((nI (i + 3))).toNatClampNeg) (p9 := 720) rfl rfl (q_in (show i + 3 < X.1 by omega) (by omega)) rfl ?_
      refine wz_ifeq (t9 := 727) (p9 := 723) rfl rfl rfl (fun _ => ?_) (fun h9 => absurd h3 h9)
      refine wz_iconst (x := nI 0) (p9 := 728) rfl rfl (by decide) ?_
      refine wz_aload_n (p9 := 729) rfl rfl rfl ?_
      refine wz_cv (p9 := 732) (w1 := WW A R o) (u := .int (nI 1)) (k1 := 1) (z1 := 6) (tz_calS (N := 165) (As := [.ref 0, .int (X.2 ((nI (i + 1))).toNatClampNeg), .int (X.2 ((nI (i + 2))).toNatClampNeg), .int (nI 0), .ref 46]) (rest := []) rfl rfl rfl rfl rfl rfl) rfl hh ?_
      refine wz_istore (l9 := [.retAddr 1, .ref 0, .ref 26, .ref 46, .int (nI i), .int (nI 1), v6]) (p9 := 734) rfl rfl rfl rfl ?_
      refine wz_aload_n (p9 := 735) rfl rfl rfl ?_
      refine wz_aload_nS (p9 := 736) rfl rfl rfl ?_
      refine wz_iload (p9 := 738) rfl rfl rfl ?_
      refine wz_iconst (x := nI 1) (p9 := 739) rfl rfl (by decide) ?_
      refine wn_add (p9 := 740) rfl rfl ?_
      refine wz_sald (v := X.2 ((nI (i + 1))).toNatClampNeg) (p9 := 741) rfl rfl (q_in (show i + 1 < X.1 by omega) (by omega)) rfl ?_
      refine wz_aload_nS (p9 := 742) rfl rfl rfl ?_
      refine wz_iload (p9 := 744) rfl rfl rfl ?_
      refine wz_iconst (x := nI 2) (p9 := 745) rfl rfl (by decide) ?_
      refine wn_add (p9 := 746) rfl rfl ?_
      refine wz_sald (v := X.2 ((nI (i + 2))).toNatClampNeg) (p9 := 747) rfl rfl (q_in (show i + 2 < X.1 by omega) (by omega)) rfl ?_
      refine wz_aload_nS (p9 := 748) rfl rfl rfl ?_
      refine wz_iload (p9 := 750) rfl rfl rfl ?_
      refine wz_iconst (x := nI 3) (p9 := 751) rfl rfl (by decide) ?_
      refine wn_add (p9 := 752) rfl rfl ?_
      refine wz_sald (v := X.2 ((nI (i + 3))).toNatClampNeg) (p9 := 753) rfl rfl (q_in (show i + 3 < X.1 by omega) (by omega)) rfl ?_
      refine wz_ifeq (t9 := 760) (p9 := 756) rfl rfl rfl (fun _ => ?_) (fun h9 => absurd h3 h9)
      refine wz_iconst (x := nI 0) (p9 := 761) rfl rfl (by decide) ?_
      refine wz_c1 (p9 := 764) (w1 := WW A R2 o) (u := .int b) (wa_v (N := 129) (i := 26) (As := [.int (X.2 ((nI (i + 1))).toNatClampNeg), .int (X.2 ((nI (i + 2))).toNatClampNeg), .int (nI 0)]) (rest := []) rfl rfl rfl rfl rfl rfl rfl) rfl (hm.up (by decide)) ?_
      refine wz_istore (l9 := [.retAddr 1, .ref 0, .ref 26, .ref 46, .int (nI i), .int (nI 1), .int b]) (p9 := 766) rfl rfl rfl rfl ?_
      refine wz_aload_n (p9 := 767) rfl rfl rfl ?_
      refine wz_c1 (p9 := 770) (w1 := WW A R2 o) (u := .int (nI 1)) (wa_v (N := 98) (i := 26) (As := []) (rest := []) rfl rfl rfl rfl rfl rfl rfl) rfl (by have h9 := g_thrown (X := X) (d := 10) (A := A) (R := R2) (o := o); rw [hth] at h9; exact h9) ?_
      refine wz_iload (p9 := 772) rfl rfl rfl ?_
      refine wn_iceq (t9 := 777) (p9 := 775) rfl rfl rfl (by omega) (by omega) (fun _ => ?_) (fun h9 => by omega)
      refine wz_iload (p9 := 779) rfl rfl rfl ?_
      refine wn_ifne (t9 := 801) (p9 := 782) rfl rfl rfl (by omega) (fun _ => ?_) (fun h9 => by omega)
      refine wz_goto (p9 := 1189) rfl rfl ?_
      exact kk A R2 _ _ _ _ _ hre (Nat.le_refl _) (Nat.le_refl _)
    · obtain ⟨R2, hm, hth, hre⟩ := hm (vp_updL o 0 (lb v))
      by_cases hv : v = 0
      · skip
        refine wz_aload_n (p9 := 702) rfl rfl rfl ?_
        refine wz_aload_nS (p9 := 703) rfl rfl rfl ?_
        refine wz_iload (p9 := 705) rfl rfl rfl ?_
        refine wz_iconst (x := nI 1) (p9 := 706) rfl rfl (by decide) ?_
        refine wn_add (p9 := 707) rfl rfl ?_
        refine wz_sald (v := X.2 ((nI (i + 1))).toNatClampNeg) (p9 := 708) rfl rfl (q_in (show i + 1 < X.1 by omega) (by omega)) rfl ?_
        refine wz_aload_nS (p9 := 709) rfl rfl rfl ?_
        refine wz_iload (p9 := 711) rfl rfl rfl ?_
        refine wz_iconst (x := nI 2) (p9 := 712) rfl rfl (by decide) ?_
        refine wn_add (p9 := 713) rfl rfl ?_
        refine wz_sald (v := X.2 ((nI (i + 2))).toNatClampNeg) (p9 := 714) rfl rfl (q_in (show i + 2 < X.1 by omega) (by omega)) rfl ?_
        refine wz_aload_nS (p9 := 715) rfl rfl rfl ?_
        refine wz_iload (p9 := 717) rfl rfl rfl ?_
        refine wz_iconst (x := nI 3) (p9 := 718) rfl rfl (by decide) ?_
        refine wn_add (p9 := 719) rfl rfl ?_
        refine wz_sald (v := X.2 ((nI (i + 3))).toNatClampNeg) (p9 := 720) rfl rfl (q_in (show i + 3 < X.1 by omega) (by omega)) rfl ?_
        refine wz_ifeq (t9 := 727) (p9 := 723) rfl rfl rfl (fun _ => ?_) (fun h9 => absurd h3 h9)
        refine wz_iconst (x := nI 0) (p9 := 728) rfl rfl (by decide) ?_
        refine wz_aload_n (p9 := 729) rfl rfl rfl ?_
        refine wz_c1 (p9 := 732) (w1 := WW A2 R (vp_updL o 0 (lb v))) (u := .int (nI 0)) (tz_calS (N := 165) (As := [.ref 0, .int (X.2 ((nI (i + 1))).toNatClampNeg), .int (X.2 ((nI (i + 2))).toNatClampNeg), .int (nI 0), .ref 46]) (rest := []) rfl rfl rfl rfl rfl rfl) rfl hh ?_
        refine wz_istore (l9 := [.retAddr 1, .ref 0, .ref 26, .ref 46, .int (nI i), .int (nI 0), v6]) (p9 := 734) rfl rfl rfl rfl ?_
        refine wz_aload_n (p9 := 735) rfl rfl rfl ?_
        refine wz_aload_nS (p9 := 736) rfl rfl rfl ?_
        refine wz_iload (p9 := 738) rfl rfl rfl ?_
        refine wz_iconst (x := nI 1) (p9 := 739) rfl rfl (by decide) ?_
        refine wn_add (p9 := 740) rfl rfl ?_
        refine wz_sald (v := X.2 ((nI (i + 1))).toNatClampNeg) (p9 := 741) rfl rfl (q_in (show i + 1 < X.1 by omega) (by omega)) rfl ?_
        refine wz_aload_nS (p9 := 742) rfl rfl rfl ?_
        refine wz_iload (p9 := 744) rfl rfl rfl ?_
        refine wz_iconst (x := nI 2) (p9 := 745) rfl rfl (by decide) ?_
        refine wn_add (p9 := 746) rfl rfl ?_
        refine wz_sald (v := X.2 ((nI (i + 2))).toNatClampNeg) (p9 := 747) rfl rfl (q_in (show i + 2 < X.1 by omega) (by omega)) rfl ?_
        refine wz_aload_nS (p9 := 748) rfl rfl rfl ?_
        refine wz_iload (p9 := 750) rfl rfl rfl ?_
        refine wz_iconst (x := nI 3) (p9 := 751) rfl rfl (by decide) ?_
        refine wn_add (p9 := 752) rfl rfl ?_
        refine wz_sald (v := X.2 ((nI (i + 3))).toNatClampNeg) (p9 := 753) rfl rfl (q_in (show i + 3 < X.1 by omega) (by omega)) rfl ?_
        refine wz_ifeq (t9 := 760) (p9 := 756) rfl rfl rfl (fun _ => ?_) (fun h9 => absurd h3 h9)
        refine wz_iconst (x := nI 0) (p9 := 761) rfl rfl (by decide) ?_
        refine wz_c1 (p9 := 764) (w1 := WW A2 R2 (vp_updL o 0 (lb v))) (u := .int v) (wa_v (N := 129) (i := 26) (As := [.int (X.2 ((nI (i + 1))).toNatClampNeg), .int (X.2 ((nI (i + 2))).toNatClampNeg), .int (nI 0)]) (rest := []) rfl rfl rfl rfl rfl rfl rfl) rfl (hm.up (by decide)) ?_
        refine wz_istore (l9 := [.retAddr 1, .ref 0, .ref 26, .ref 46, .int (nI i), .int (nI 0), .int v]) (p9 := 766) rfl rfl rfl rfl ?_
        refine wz_aload_n (p9 := 767) rfl rfl rfl ?_
        refine wz_c1 (p9 := 770) (w1 := WW A2 R2 (vp_updL o 0 (lb v))) (u := .int (nI 0)) (wa_v (N := 98) (i := 26) (As := []) (rest := []) rfl rfl rfl rfl rfl rfl rfl) rfl (by have h9 := g_thrown (X := X) (d := 10) (A := A2) (R := R2) (o := (vp_updL o 0 (lb v))); rw [hth] at h9; exact h9) ?_
        refine wz_iload (p9 := 772) rfl rfl rfl ?_
        refine wn_iceq (t9 := 777) (p9 := 775) rfl rfl rfl (by omega) (by omega) (fun _ => ?_) (fun h9 => by omega)
        refine wz_iload (p9 := 779) rfl rfl rfl ?_
        refine wn_ifne (t9 := 801) (p9 := 782) rfl rfl rfl (by omega) (fun h9 => by omega) (fun _ => ?_)
        refine wz_aload_n (p9 := 783) rfl rfl rfl ?_
        refine wz_iconst (x := nI 0) (p9 := 784) rfl rfl (by decide) ?_
        refine wz_lald (v := (vp_updL o 0 (lb v)) 0) (p9 := 785) rfl rfl rfl (by decide) rfl ?_
        refine wz_iload (p9 := 787) rfl rfl rfl ?_
        refine wz_ifeq (t9 := 794) (p9 := 790) rfl rfl rfl (fun _ => ?_) (fun h9 => absurd hv h9)
        refine wz_lconst (x := 0) (p9 := 795) rfl rfl rfl ?_
        refine wz_lcmp (p9 := 796) rfl rfl ?_
        refine wz_ifeq (t9 := 801) (p9 := 799) rfl rfl rfl (fun _ => ?_) (fun h9 => absurd (by rw [up_0]; rw [show lb v = 0 from if_pos hv]; exact lg_s _) h9)
        refine wz_goto (p9 := 1189) rfl rfl ?_
        exact kk A2 R2 _ _ _ _ _ hre (Nat.le_add_right _ _) (Nat.le_add_right _ _)
      · skip
        refine wz_aload_n (p9 := 702) rfl rfl rfl ?_
        refine wz_aload_nS (p9 := 703) rfl rfl rfl ?_
        refine wz_iload (p9 := 705) rfl rfl rfl ?_
        refine wz_iconst (x := nI 1) (p9 := 706) rfl rfl (by decide) ?_
        refine wn_add (p9 := 707) rfl rfl ?_
        refine wz_sald (v := X.2 ((nI (i + 1))).toNatClampNeg) (p9 := 708) rfl rfl (q_in (show i + 1 < X.1 by omega) (by omega)) rfl ?_
        refine wz_aload_nS (p9 := 709) rfl rfl rfl ?_
        refine wz_iload (p9 := 711) rfl rfl rfl ?_
        refine wz_iconst (x := nI 2) (p9 := 712) rfl rfl (by decide) ?_
        refine wn_add (p9 := 713) rfl rfl ?_
        refine wz_sald (v := X.2 ((nI (i + 2))).toNatClampNeg) (p9 := 714) rfl rfl (q_in (show i + 2 < X.1 by omega) (by omega)) rfl ?_
        refine wz_aload_nS (p9 := 715) rfl rfl rfl ?_
        refine wz_iload (p9 := 717) rfl rfl rfl ?_
        refine wz_iconst (x := nI 3) (p9 := 718) rfl rfl (by decide) ?_
        refine wn_add (p9 := 719) rfl rfl ?_
        refine wz_sald (v := X.2 ((nI (i + 3))).toNatClampNeg) (p9 := 720) rfl rfl (q_in (show i + 3 < X.1 by omega) (by omega)) rfl ?_
        refine wz_ifeq (t9 := 727) (p9 := 723) rfl rfl rfl (fun _ => ?_) (fun h9 => absurd h3 h9)
        refine wz_iconst (x := nI 0) (p9 := 728) rfl rfl (by decide) ?_
        refine wz_aload_n (p9 := 729) rfl rfl rfl ?_
        refine wz_c1 (p9 := 732) (w1 := WW A2 R (vp_updL o 0 (lb v))) (u := .int (nI 0)) (tz_calS (N := 165) (As := [.ref 0, .int (X.2 ((nI (i + 1))).toNatClampNeg), .int (X.2 ((nI (i + 2))).toNatClampNeg), .int (nI 0), .ref 46]) (rest := []) rfl rfl rfl rfl rfl rfl) rfl hh ?_
        refine wz_istore (l9 := [.retAddr 1, .ref 0, .ref 26, .ref 46, .int (nI i), .int (nI 0), v6]) (p9 := 734) rfl rfl rfl rfl ?_
        refine wz_aload_n (p9 := 735) rfl rfl rfl ?_
        refine wz_aload_nS (p9 := 736) rfl rfl rfl ?_
        refine wz_iload (p9 := 738) rfl rfl rfl ?_
        refine wz_iconst (x := nI 1) (p9 := 739) rfl rfl (by decide) ?_
        refine wn_add (p9 := 740) rfl rfl ?_
        refine wz_sald (v := X.2 ((nI (i + 1))).toNatClampNeg) (p9 := 741) rfl rfl (q_in (show i + 1 < X.1 by omega) (by omega)) rfl ?_
        refine wz_aload_nS (p9 := 742) rfl rfl rfl ?_
        refine wz_iload (p9 := 744) rfl rfl rfl ?_
        refine wz_iconst (x := nI 2) (p9 := 745) rfl rfl (by decide) ?_
        refine wn_add (p9 := 746) rfl rfl ?_
        refine wz_sald (v := X.2 ((nI (i + 2))).toNatClampNeg) (p9 := 747) rfl rfl (q_in (show i + 2 < X.1 by omega) (by omega)) rfl ?_
        refine wz_aload_nS (p9 := 748) rfl rfl rfl ?_
        refine wz_iload (p9 := 750) rfl rfl rfl ?_
        refine wz_iconst (x := nI 3) (p9 := 751) rfl rfl (by decide) ?_
        refine wn_add (p9 := 752) rfl rfl ?_
        refine wz_sald (v := X.2 ((nI (i + 3))).toNatClampNeg) (p9 := 753) rfl rfl (q_in (show i + 3 < X.1 by omega) (by omega)) rfl ?_
        refine wz_ifeq (t9 := 760) (p9 := 756) rfl rfl rfl (fun _ => ?_) (fun h9 => absurd h3 h9)
        refine wz_iconst (x := nI 0) (p9 := 761) rfl rfl (by decide) ?_
        refine wz_c1 (p9 := 764) (w1 := WW A2 R2 (vp_updL o 0 (lb v))) (u := .int v) (wa_v (N := 129) (i := 26) (As := [.int (X.2 ((nI (i + 1))).toNatClampNeg), .int (X.2 ((nI (i + 2))).toNatClampNeg), .int (nI 0)]) (rest := []) rfl rfl rfl rfl rfl rfl rfl) rfl (hm.up (by decide)) ?_
        refine wz_istore (l9 := [.retAddr 1, .ref 0, .ref 26, .ref 46, .int (nI i), .int (nI 0), .int v]) (p9 := 766) rfl rfl rfl rfl ?_
        refine wz_aload_n (p9 := 767) rfl rfl rfl ?_
        refine wz_c1 (p9 := 770) (w1 := WW A2 R2 (vp_updL o 0 (lb v))) (u := .int (nI 0)) (wa_v (N := 98) (i := 26) (As := []) (rest := []) rfl rfl rfl rfl rfl rfl rfl) rfl (by have h9 := g_thrown (X := X) (d := 10) (A := A2) (R := R2) (o := (vp_updL o 0 (lb v))); rw [hth] at h9; exact h9) ?_
        refine wz_iload (p9 := 772) rfl rfl rfl ?_
        refine wn_iceq (t9 := 777) (p9 := 775) rfl rfl rfl (by omega) (by omega) (fun _ => ?_) (fun h9 => by omega)
        refine wz_iload (p9 := 779) rfl rfl rfl ?_
        refine wn_ifne (t9 := 801) (p9 := 782) rfl rfl rfl (by omega) (fun h9 => by omega) (fun _ => ?_)
        refine wz_aload_n (p9 := 783) rfl rfl rfl ?_
        refine wz_iconst (x := nI 0) (p9 := 784) rfl rfl (by decide) ?_
        refine wz_lald (v := (vp_updL o 0 (lb v)) 0) (p9 := 785) rfl rfl rfl (by decide) rfl ?_
        refine wz_iload (p9 := 787) rfl rfl rfl ?_
        refine wz_ifeq (t9 := 794) (p9 := 790) rfl rfl rfl (fun h9 => absurd h9 hv) (fun _ => ?_)
        refine wz_lconst (x := 1) (p9 := 791) rfl rfl rfl ?_
        refine wz_goto (p9 := 795) rfl rfl ?_
        refine wz_lcmp (p9 := 796) rfl rfl ?_
        refine wz_ifeq (t9 := 801) (p9 := 799) rfl rfl rfl (fun _ => ?_) (fun h9 => absurd (by rw [up_0]; rw [show lb v = 1 from if_neg hv]; exact lg_s _) h9)
        refine wz_goto (p9 := 1189) rfl rfl ?_
        exact kk A2 R2 _ _ _ _ _ hre (Nat.le_add_right _ _) (Nat.le_add_right _ _)
  · skip
    have J := j_goal1 (X := X) (d := 0) (A := A) (R := R) (o := o) H (x := (X.2 ((nI (i + 1))).toNatClampNeg)) (y := (X.2 ((nI (i + 2))).toNatClampNeg))
    rcases h_goal J with ⟨hh, hm⟩ | ⟨A2, v, hh, hm⟩
    · obtain ⟨R2, b, hm, hth, hre⟩ := hm o
      refine wz_aload_n (p9 := 702) rfl rfl rfl ?_
      refine wz_aload_nS (p9 := 703) rfl rfl rfl ?_
      refine wz_iload (p9 := 705) rfl rfl rfl ?_
      refine wz_iconst (x := nI 1) (p9 := 706) rfl rfl (by decide) ?_
      refine wn_add (p9 := 707) rfl rfl ?_
      refine wz_sald (v := X.2 ((nI (i + 1))).toNatClampNeg) (p9 := 708) rfl rfl (q_in (show i + 1 < X.1 by omega) (by omega)) rfl ?_
      refine wz_aload_nS (p9 := 709) rfl rfl rfl ?_
      refine wz_iload (p9 := 711) rfl rfl rfl ?_
      refine wz_iconst (x := nI 2) (p9 := 712) rfl rfl (by decide) ?_
      refine wn_add (p9 := 713) rfl rfl ?_
      refine wz_sald (v := X.2 ((nI (i + 2))).toNatClampNeg) (p9 := 714) rfl rfl (q_in (show i + 2 < X.1 by omega) (by omega)) rfl ?_
      refine wz_aload_nS (p9 := 715) rfl rfl rfl ?_
      refine wz_iload (p9 := 717) rfl rfl rfl ?_
      refine wz_iconst (x := nI 3) (p9 := 718) rfl rfl (by decide) ?_
      refine wn_add (p9 := 719) rfl rfl ?_
      refine wz_sald (v := X.2 ((nI (i + 3))).toNatClampNeg) (p9 := 720) rfl rfl (q_in (show i + 3 < X.1 by omega) (by omega)) rfl ?_
      refine wz_ifeq (t9 := 727) (p9 := 723) rfl rfl rfl (fun h9 => absurd h9 h3) (fun _ => ?_)
      refine wz_iconst (x := nI 1) (p9 := 724) rfl rfl (by decide) ?_
      refine wz_goto (p9 := 728) rfl rfl ?_
      refine wz_aload_n (p9 := 729) rfl rfl rfl ?_
      refine wz_cv (p9 := 732) (w1 := WW A R o) (u := .int (nI 1)) (k1 := 1) (z1 := 6) (tz_calS (N := 165) (As := [.ref 0, .int (X.2 ((nI (i + 1))).toNatClampNeg), .int (X.2 ((nI (i + 2))).toNatClampNeg), .int (nI 1), .ref 46]) (rest := []) rfl rfl rfl rfl rfl rfl) rfl hh ?_
      refine wz_istore (l9 := [.retAddr 1, .ref 0, .ref 26, .ref 46, .int (nI i), .int (nI 1), v6]) (p9 := 734) rfl rfl rfl rfl ?_
      refine wz_aload_n (p9 := 735) rfl rfl rfl ?_
      refine wz_aload_nS (p9 := 736) rfl rfl rfl ?_
      refine wz_iload (p9 := 738) rfl rfl rfl ?_
      refine wz_iconst (x := nI 1) (p9 := 739) rfl rfl (by decide) ?_
      refine wn_add (p9 := 740) rfl rfl ?_
      refine wz_sald (v := X.2 ((nI (i + 1))).toNatClampNeg) (p9 := 741) rfl rfl (q_in (show i + 1 < X.1 by omega) (by omega)) rfl ?_
      refine wz_aload_nS (p9 := 742) rfl rfl rfl ?_
      refine wz_iload (p9 := 744) rfl rfl rfl ?_
      refine wz_iconst (x := nI 2) (p9 := 745) rfl rfl (by decide) ?_
      refine wn_add (p9 := 746) rfl rfl ?_
      refine wz_sald (v := X.2 ((nI (i + 2))).toNatClampNeg) (p9 := 747) rfl rfl (q_in (show i + 2 < X.1 by omega) (by omega)) rfl ?_
      refine wz_aload_nS (p9 := 748) rfl rfl rfl ?_
      refine wz_iload (p9 := 750) rfl rfl rfl ?_
      refine wz_iconst (x := nI 3) (p9 := 751) rfl rfl (by decide) ?_
      refine wn_add (p9 := 752) rfl rfl ?_
      refine wz_sald (v := X.2 ((nI (i + 3))).toNatClampNeg) (p9 := 753) rfl rfl (q_in (show i + 3 < X.1 by omega) (by omega)) rfl ?_
      refine wz_ifeq (t9 := 760) (p9 := 756) rfl rfl rfl (fun h9 => absurd h9 h3) (fun _ => ?_)
      refine wz_iconst (x := nI 1) (p9 := 757) rfl rfl (by decide) ?_
      refine wz_goto (p9 := 761) rfl rfl ?_
      refine wz_c1 (p9 := 764) (w1 := WW A R2 o) (u := .int b) (wa_v (N := 129) (i := 26) (As := [.int (X.2 ((nI (i + 1))).toNatClampNeg), .int (X.2 ((nI (i + 2))).toNatClampNeg), .int (nI 1)]) (rest := []) rfl rfl rfl rfl rfl rfl rfl) rfl (hm.up (by decide)) ?_
      refine wz_istore (l9 := [.retAddr 1, .ref 0, .ref 26, .ref 46, .int (nI i), .int (nI 1), .int b]) (p9 := 766) rfl rfl rfl rfl ?_
      refine wz_aload_n (p9 := 767) rfl rfl rfl ?_
      refine wz_c1 (p9 := 770) (w1 := WW A R2 o) (u := .int (nI 1)) (wa_v (N := 98) (i := 26) (As := []) (rest := []) rfl rfl rfl rfl rfl rfl rfl) rfl (by have h9 := g_thrown (X := X) (d := 10) (A := A) (R := R2) (o := o); rw [hth] at h9; exact h9) ?_
      refine wz_iload (p9 := 772) rfl rfl rfl ?_
      refine wn_iceq (t9 := 777) (p9 := 775) rfl rfl rfl (by omega) (by omega) (fun _ => ?_) (fun h9 => by omega)
      refine wz_iload (p9 := 779) rfl rfl rfl ?_
      refine wn_ifne (t9 := 801) (p9 := 782) rfl rfl rfl (by omega) (fun _ => ?_) (fun h9 => by omega)
      refine wz_goto (p9 := 1189) rfl rfl ?_
      exact kk A R2 _ _ _ _ _ hre (Nat.le_refl _) (Nat.le_refl _)
    · obtain ⟨R2, hm, hth, hre⟩ := hm (vp_updL o 0 (lb v))
      by_cases hv : v = 0
      · skip
        refine wz_aload_n (p9 := 702) rfl rfl rfl ?_
        refine wz_aload_nS (p9 := 703) rfl rfl rfl ?_
        refine wz_iload (p9 := 705) rfl rfl rfl ?_
        refine wz_iconst (x := nI 1) (p9 := 706) rfl rfl (by decide) ?_
        refine wn_add (p9 := 707) rfl rfl ?_
        refine wz_sald (v := X.2 ((nI (i + 1))).toNatClampNeg) (p9 := 708) rfl rfl (q_in (show i + 1 < X.1 by omega) (by omega)) rfl ?_
        refine wz_aload_nS (p9 := 709) rfl rfl rfl ?_
        refine wz_iload (p9 := 711) rfl rfl rfl ?_
        refine wz_iconst (x := nI 2) (p9 := 712) rfl rfl (by decide) ?_
        refine wn_add (p9 := 713) rfl rfl ?_
        refine wz_sald (v := X.2 ((nI (i + 2))).toNatClampNeg) (p9 := 714) rfl rfl (q_in (show i + 2 < X.1 by omega) (by omega)) rfl ?_
        refine wz_aload_nS (p9 := 715) rfl rfl rfl ?_
        refine wz_iload (p9 := 717) rfl rfl rfl ?_
        refine wz_iconst (x := nI 3) (p9 := 718) rfl rfl (by decide) ?_
        refine wn_add (p9 := 719) rfl rfl ?_
        refine wz_sald (v := X.2 ((nI (i + 3))).toNatClampNeg) (p9 := 720) rfl rfl (q_in (show i + 3 < X.1 by omega) (by omega)) rfl ?_
        refine wz_ifeq (t9 := 727) (p9 := 723) rfl rfl rfl (fun h9 => absurd h9 h3) (fun _ => ?_)
        refine wz_iconst (x := nI 1) (p9 := 724) rfl rfl (by decide) ?_
        refine wz_goto (p9 := 728) rfl rfl ?_
        refine wz_aload_n (p9 := 729) rfl rfl rfl ?_
        refine wz_c1 (p9 := 732) (w1 := WW A2 R (vp_updL o 0 (lb v))) (u := .int (nI 0)) (tz_calS (N := 165) (As := [.ref 0, .int (X.2 ((nI (i + 1))).toNatClampNeg), .int (X.2 ((nI (i + 2))).toNatClampNeg), .int (nI 1), .ref 46]) (rest := []) rfl rfl rfl rfl rfl rfl) rfl hh ?_
        refine wz_istore (l9 := [.retAddr 1, .ref 0, .ref 26, .ref 46, .int (nI i), .int (nI 0), v6]) (p9 := 734) rfl rfl rfl rfl ?_
        refine wz_aload_n (p9 := 735) rfl rfl rfl ?_
        refine wz_aload_nS (p9 := 736) rfl rfl rfl ?_
        refine wz_iload (p9 := 738) rfl rfl rfl ?_
        refine wz_iconst (x := nI 1) (p9 := 739) rfl rfl (by decide) ?_
        refine wn_add (p9 := 740) rfl rfl ?_
        refine wz_sald (v := X.2 ((nI (i + 1))).toNatClampNeg) (p9 := 741) rfl rfl (q_in (show i + 1 < X.1 by omega) (by omega)) rfl ?_
        refine wz_aload_nS (p9 := 742) rfl rfl rfl ?_
        refine wz_iload (p9 := 744) rfl rfl rfl ?_
        refine wz_iconst (x := nI 2) (p9 := 745) rfl rfl (by decide) ?_
        refine wn_add (p9 := 746) rfl rfl ?_
        refine wz_sald (v := X.2 ((nI (i + 2))).toNatClampNeg) (p9 := 747) rfl rfl (q_in (show i + 2 < X.1 by omega) (by omega)) rfl ?_
        refine wz_aload_nS (p9 := 748) rfl rfl rfl ?_
        refine wz_iload (p9 := 750) rfl rfl rfl ?_
        refine wz_iconst (x := nI 3) (p9 := 751) rfl rfl (by decide) ?_
        refine wn_add (p9 := 752) rfl rfl ?_
        refine wz_sald (v := X.2 ((nI (i + 3))).toNatClampNeg) (p9 := 753) rfl rfl (q_in (show i + 3 < X.1 by omega) (by omega)) rfl ?_
        refine wz_ifeq (t9 := 760) (p9 := 756) rfl rfl rfl (fun h9 => absurd h9 h3) (fun _ => ?_)
        refine wz_iconst (x := nI 1) (p9 := 757) rfl rfl (by decide) ?_
        refine wz_goto (p9 := 761) rfl rfl ?_
        refine wz_c1 (p9 := 764) (w1 := WW A2 R2 (vp_updL o 0 (lb v))) (u := .int v) (wa_v (N := 129) (i := 26) (As := [.int (X.2 ((nI (i + 1))).toNatClampNeg), .int (X.2 ((nI (i + 2))).toNatClampNeg), .int (nI 1)]) (rest := []) rfl rfl rfl rfl rfl rfl rfl) rfl (hm.up (by decide)) ?_
        refine wz_istore (l9 := [.retAddr 1, .ref 0, .ref 26, .ref 46, .int (nI i), .int (nI 0), .int v]) (p9 := 766) rfl rfl rfl rfl ?_
        refine wz_aload_n (p9 := 767) rfl rfl rfl ?_
        refine wz_c1 (p9 := 770) (w1 := WW A2 R2 (vp_updL o 0 (lb v))) (u := .int (nI 0)) (wa_v (N := 98) (i := 26) (As := []) (rest := []) rfl rfl rfl rfl rfl rfl rfl) rfl (by have h9 := g_thrown (X := X) (d := 10) (A := A2) (R := R2) (o := (vp_updL o 0 (lb v))); rw [hth] at h9; exact h9) ?_
        refine wz_iload (p9 := 772) rfl rfl rfl ?_
        refine wn_iceq (t9 := 777) (p9 := 775) rfl rfl rfl (by omega) (by omega) (fun _ => ?_) (fun h9 => by omega)
        refine wz_iload (p9 := 779) rfl rfl rfl ?_
        refine wn_ifne (t9 := 801) (p9 := 782) rfl rfl rfl (by omega) (fun h9 => by omega) (fun _ => ?_)
        refine wz_aload_n (p9 := 783) rfl rfl rfl ?_
        refine wz_iconst (x := nI 0) (p9 := 784) rfl rfl (by decide) ?_
        refine wz_lald (v := (vp_updL o 0 (lb v)) 0) (p9 := 785) rfl rfl rfl (by decide) rfl ?_
        refine wz_iload (p9 := 787) rfl rfl rfl ?_
        refine wz_ifeq (t9 := 794) (p9 := 790) rfl rfl rfl (fun _ => ?_) (fun h9 => absurd hv h9)
        refine wz_lconst (x := 0) (p9 := 795) rfl rfl rfl ?_
        refine wz_lcmp (p9 := 796) rfl rfl ?_
        refine wz_ifeq (t9 := 801) (p9 := 799) rfl rfl rfl (fun _ => ?_) (fun h9 => absurd (by rw [up_0]; rw [show lb v = 0 from if_pos hv]; exact lg_s _) h9)
        refine wz_goto (p9 := 1189) rfl rfl ?_
        exact kk A2 R2 _ _ _ _ _ hre (Nat.le_add_right _ _) (Nat.le_add_right _ _)
      · skip
        refine wz_aload_n (p9 := 702) rfl rfl rfl ?_
        refine wz_aload_nS (p9 := 703) rfl rfl rfl ?_
        refine wz_iload (p9 := 705) rfl rfl rfl ?_
        refine wz_iconst (x := nI 1) (p9 := 706) rfl rfl (by decide) ?_
        refine wn_add (p9 := 707) rfl rfl ?_
        refine wz_sald (v := X.2 ((nI (i + 1))).toNatClampNeg) (p9 := 708) rfl rfl (q_in (show i + 1 < X.1 by omega) (by omega)) rfl ?_
        refine wz_aload_nS (p9 := 709) rfl rfl rfl ?_
        refine wz_iload (p9 := 711) rfl rfl rfl ?_
        refine wz_iconst (x := nI 2) (p9 := 712) rfl rfl (by decide) ?_
        refine wn_add (p9 := 713) rfl rfl ?_
        refine wz_sald (v := X.2 ((nI (i + 2))).toNatClampNeg) (p9 := 714) rfl rfl (q_in (show i + 2 < X.1 by omega) (by omega)) rfl ?_
        refine wz_aload_nS (p9 := 715) rfl rfl rfl ?_
        refine wz_iload (p9 := 717) rfl rfl rfl ?_
        refine wz_iconst (x := nI 3) (p9 := 718) rfl rfl (by decide) ?_
        refine wn_add (p9 := 719) rfl rfl ?_
        refine wz_sald (v := X.2 ((nI (i + 3))).toNatClampNeg) (p9 := 720) rfl rfl (q_in (show i + 3 < X.1 by omega) (by omega)) rfl ?_
        refine wz_ifeq (t9 := 727) (p9 := 723) rfl rfl rfl (fun h9 => absurd h9 h3) (fun _ => ?_)
        refine wz_iconst (x := nI 1) (p9 := 724) rfl rfl (by decide) ?_
        refine wz_goto (p9 := 728) rfl rfl ?_
        refine wz_aload_n (p9 := 729) rfl rfl rfl ?_
        refine wz_c1 (p9 := 732) (w1 := WW A2 R (vp_updL o 0 (lb v))) (u := .int (nI 0)) (tz_calS (N := 165) (As := [.ref 0, .int (X.2 ((nI (i + 1))).toNatClampNeg), .int (X.2 ((nI (i + 2))).toNatClampNeg), .int (nI 1), .ref 46]) (rest := []) rfl rfl rfl rfl rfl rfl) rfl hh ?_
        refine wz_istore (l9 := [.retAddr 1, .ref 0, .ref 26, .ref 46, .int (nI i), .int (nI 0), v6]) (p9 := 734) rfl rfl rfl rfl ?_
        refine wz_aload_n (p9 := 735) rfl rfl rfl ?_
        refine wz_aload_nS (p9 := 736) rfl rfl rfl ?_
        refine wz_iload (p9 := 738) rfl rfl rfl ?_
        refine wz_iconst (x := nI 1) (p9 := 739) rfl rfl (by decide) ?_
        refine wn_add (p9 := 740) rfl rfl ?_
        refine wz_sald (v := X.2 ((nI (i + 1))).toNatClampNeg) (p9 := 741) rfl rfl (q_in (show i + 1 < X.1 by omega) (by omega)) rfl ?_
        refine wz_aload_nS (p9 := 742) rfl rfl rfl ?_
        refine wz_iload (p9 := 744) rfl rfl rfl ?_
        refine wz_iconst (x := nI 2) (p9 := 745) rfl rfl (by decide) ?_
        refine wn_add (p9 := 746) rfl rfl ?_
        refine wz_sald (v := X.2 ((nI (i + 2))).toNatClampNeg) (p9 := 747) rfl rfl (q_in (show i + 2 < X.1 by omega) (by omega)) rfl ?_
        refine wz_aload_nS (p9 := 748) rfl rfl rfl ?_
        refine wz_iload (p9 := 750) rfl rfl rfl ?_
        refine wz_iconst (x := nI 3) (p9 := 751) rfl rfl (by decide) ?_
        refine wn_add (p9 := 752) rfl rfl ?_
        refine wz_sald (v := X.2 ((nI (i + 3))).toNatClampNeg) (p9 := 753) rfl rfl (q_in (show i + 3 < X.1 by omega) (by omega)) rfl ?_
        refine wz_ifeq (t9 := 760) (p9 := 756) rfl rfl rfl (fun h9 => absurd h9 h3) (fun _ => ?_)
        refine wz_iconst (x := nI 1) (p9 := 757) rfl rfl (by decide) ?_
        refine wz_goto (p9 := 761) rfl rfl ?_
        refine wz_c1 (p9 := 764) (w1 := WW A2 R2 (vp_updL o 0 (lb v))) (u := .int v) (wa_v (N := 129) (i := 26) (As := [.int (X.2 ((nI (i + 1))).toNatClampNeg), .int (X.2 ((nI (i + 2))).toNatClampNeg), .int (nI 1)]) (rest := []) rfl rfl rfl rfl rfl rfl rfl) rfl (hm.up (by decide)) ?_
        refine wz_istore (l9 := [.retAddr 1, .ref 0, .ref 26, .ref 46, .int (nI i), .int (nI 0), .int v]) (p9 := 766) rfl rfl rfl rfl ?_
        refine wz_aload_n (p9 := 767) rfl rfl rfl ?_
        refine wz_c1 (p9 := 770) (w1 := WW A2 R2 (vp_updL o 0 (lb v))) (u := .int (nI 0)) (wa_v (N := 98) (i := 26) (As := []) (rest := []) rfl rfl rfl rfl rfl rfl rfl) rfl (by have h9 := g_thrown (X := X) (d := 10) (A := A2) (R := R2) (o := (vp_updL o 0 (lb v))); rw [hth] at h9; exact h9) ?_
        refine wz_iload (p9 := 772) rfl rfl rfl ?_
        refine wn_iceq (t9 := 777) (p9 := 775) rfl rfl rfl (by omega) (by omega) (fun _ => ?_) (fun h9 => by omega)
        refine wz_iload (p9 := 779) rfl rfl rfl ?_
        refine wn_ifne (t9 := 801) (p9 := 782) rfl rfl rfl (by omega) (fun h9 => by omega) (fun _ => ?_)
        refine wz_aload_n (p9 := 783) rfl rfl rfl ?_
        refine wz_iconst (x := nI 0) (p9 := 784) rfl rfl (by decide) ?_
        refine wz_lald (v := (vp_updL o 0 (lb v)) 0) (p9 := 785) rfl rfl rfl (by decide) rfl ?_
        refine wz_iload (p9 := 787) rfl rfl rfl ?_
        refine wz_ifeq (t9 := 794) (p9 := 790) rfl rfl rfl (fun h9 => absurd h9 hv) (fun _ => ?_)
        refine wz_lconst (x := 1) (p9 := 791) rfl rfl rfl ?_
        refine wz_goto (p9 := 795) rfl rfl ?_
        refine wz_lcmp (p9 := 796) rfl rfl ?_
        refine wz_ifeq (t9 := 801) (p9 := 799) rfl rfl rfl (fun _ => ?_) (fun h9 => absurd (by rw [up_0]; rw [show lb v = 1 from if_neg hv]; exact lg_s _) h9)
        refine wz_goto (p9 := 1189) rfl rfl ?_
        exact kk A2 R2 _ _ _ _ _ hre (Nat.le_add_right _ _) (Nat.le_add_right _ _)
theorem cs_use {X : Nat × (Nat → Int32)} {A : CA} {R : RA} {o : Nat → Int64} (H : RE A R) {i k z : Nat} (hL : X.1 ≤ 2050) (hi : i + 4 ≤ X.1) {Q : px_Z → Prop} (kk : ∀ (A2 : CA) (R2 : RA) (o2 : Nat → Int64) (v5 v6 : Value) (k2 z2 : Nat), RE A2 R2 → k2 ≤ k + 1 → z2 ≤ z + 6 → wp X 11 173 (1189, [.retAddr 1, .ref 0, .ref 26, .ref 46, .int (nI i), v5, v6], [], WW A2 R2 o2, k2, z2) Q) : ∀ v5 v6, wp X 11 173 (804, [.retAddr 1, .ref 0, .ref 26, .ref 46, .int (nI i), v5, v6], [], WW A R o, k, z) Q := by
  intro v5 v6
  have J := j_use (X := X) (d := 0) (A := A) (R := R) (o := o) H (x := (X.2 ((nI (i + 1))).toNatClampNeg)) (y := (X.2 ((nI (i + 2))).toNatClampNeg))
  rcases h_use J with ⟨hh, hm⟩ | ⟨A2, v, hh, hm⟩
  · obtain ⟨R2, b, hm, hth, hre⟩ := hm o
    refine wz_aload_n (p9 := 805) rfl rfl rfl ?_
    refine wz_aload_nS (p9 := 806) rfl rfl rfl ?_
    refine wz_iload (p9 := 808) rfl rfl rfl ?_
    refine wz_iconst (x := nI 1) (p9 := 809) rfl rfl (by decide) ?_
    refine wn_add (p9 := 810) rfl rfl ?_
    refine wz_sald (v := X.2 ((nI (i + 1))).toNatClampNeg) (p9 := 811) rfl rfl (q_in (show i + 1 < X.1 by omega) (by omega)) rfl ?_
    refine wz_aload_nS (p9 := 812) rfl rfl rfl ?_
    refine wz_iload (p9 := 814) rfl rfl rfl ?_
    refine wz_iconst (x := nI 2) (p9 := 815) rfl rfl (by decide) ?_
    refine wn_add (p9 := 816) rfl rfl ?_
    refine wz_sald (v := X.2 ((nI (i + 2))).toNatClampNeg) (p9 := 817) rfl rfl (q_in (show i + 2 < X.1 by omega) (by omega)) rfl ?_
    refine wz_aload_n (p9 := 818) rfl rfl rfl ?_
    refine wz_cv (p9 := 821) (w1 := WW A R o) (u := .int (nI 1)) (k1 := 1) (z1 := 6) (tz_calS (N := 166) (As := [.ref 0, .int (X.2 ((nI (i + 1))).toNatClampNeg), .int (X.2 ((nI (i + 2))).toNatClampNeg), .ref 46]) (rest := []) rfl rfl rfl rfl rfl rfl) rfl hh ?_
    refine wz_istore (l9 := [.retAddr 1, .ref 0, .ref 26, .ref 46, .int (nI i), .int (nI 1), v6]) (p9 := 823) rfl rfl rfl rfl ?_
    refine wz_aload_n (p9 := 824) rfl rfl rfl ?_
    refine wz_aload_nS (p9 := 825) rfl rfl rfl ?_
    refine wz_iload (p9 := 827) rfl rfl rfl ?_
    refine wz_iconst (x := nI 1) (p9 := 828) rfl rfl (by decide) ?_
    refine wn_add (p9 := 829) rfl rfl ?_
    refine wz_sald (v := X.2 ((nI (i + 1))).toNatClampNeg) (p9 := 830) rfl rfl (q_in (show i + 1 < X.1 by omega) (by omega)) rfl ?_
    refine wz_aload_nS (p9 := 831) rfl rfl rfl ?_
    refine wz_iload (p9 := 833) rfl rfl rfl ?_
    refine wz_iconst (x := nI 2) (p9 := 834) rfl rfl (by decide) ?_
    refine wn_add (p9 := 835) rfl rfl ?_
    refine wz_sald (v := X.2 ((nI (i + 2))).toNatClampNeg) (p9 := 836) rfl rfl (q_in (show i + 2 < X.1 by omega) (by omega)) rfl ?_
    refine wz_c1 (p9 := 839) (w1 := WW A R2 o) (u := .int b) (wa_v (N := 131) (i := 26) (As := [.int (X.2 ((nI (i + 1))).toNatClampNeg), .int (X.2 ((nI (i + 2))).toNatClampNeg)]) (rest := []) rfl rfl rfl rfl rfl rfl rfl) rfl (hm.up (by decide)) ?_
    refine wz_istore (l9 := [.retAddr 1, .ref 0, .ref 26, .ref 46, .int (nI i), .int (nI 1), .int b]) (p9 := 841) rfl rfl rfl rfl ?_
    refine wz_aload_n (p9 := 842) rfl rfl rfl ?_
    refine wz_c1 (p9 := 845) (w1 := WW A R2 o) (u := .int (nI 1)) (wa_v (N := 98) (i := 26) (As := []) (rest := []) rfl rfl rfl rfl rfl rfl rfl) rfl (by have h9 := g_thrown (X := X) (d := 10) (A := A) (R := R2) (o := o); rw [hth] at h9; exact h9) ?_
    refine wz_iload (p9 := 847) rfl rfl rfl ?_
    refine wn_iceq (t9 := 852) (p9 := 850) rfl rfl rfl (by omega) (by omega) (fun _ => ?_) (fun h9 => by omega)
    refine wz_iload (p9 := 854) rfl rfl rfl ?_
    refine wn_ifne (t9 := 876) (p9 := 857) rfl rfl rfl (by omega) (fun _ => ?_) (fun h9 => by omega)
    refine wz_goto (p9 := 1189) rfl rfl ?_
    exact kk A R2 _ _ _ _ _ hre (Nat.le_refl _) (Nat.le_refl _)
  · obtain ⟨R2, hm, hth, hre⟩ := hm (vp_updL o 0 (lb v))
    by_cases hv : v = 0
    · skip
      refine wz_aload_n (p9 := 805) rfl rfl rfl ?_
      refine wz_aload_nS (p9 := 806) rfl rfl rfl ?_
      refine wz_iload (p9 := 808) rfl rfl rfl ?_
      refine wz_iconst (x := nI 1) (p9 := 809) rfl rfl (by decide) ?_
      refine wn_add (p9 := 810) rfl rfl ?_
      refine wz_sald (v := X.2 ((nI (i + 1))).toNatClampNeg) (p9 := 811) rfl rfl (q_in (show i + 1 < X.1 by omega) (by omega)) rfl ?_
      refine wz_aload_nS (p9 := 812) rfl rfl rfl ?_
      refine wz_iload (p9 := 814) rfl rfl rfl ?_
      refine wz_iconst (x := nI 2) (p9 := 815) rfl rfl (by decide) ?_
      refine wn_add (p9 := 816) rfl rfl ?_
      refine wz_sald (v := X.2 ((nI (i + 2))).toNatClampNeg) (p9 := 817) rfl rfl (q_in (show i + 2 < X.1 by omega) (by omega)) rfl ?_
      refine wz_aload_n (p9 := 818) rfl rfl rfl ?_
      refine wz_c1 (p9 := 821) (w1 := WW A2 R (vp_updL o 0 (lb v))) (u := .int (nI 0)) (tz_calS (N := 166) (As := [.ref 0, .int (X.2 ((nI (i + 1))).toNatClampNeg), .int (X.2 ((nI (i + 2))).toNatClampNeg), .ref 46]) (rest := []) rfl rfl rfl rfl rfl rfl) rfl hh ?_
      refine wz_istore (l9 := [.retAddr 1, .ref 0, .ref 26, .ref 46, .int (nI i), .int (nI 0), v6]) (p9 := 823) rfl rfl rfl rfl ?_
      refine wz_aload_n (p9 := 824) rfl rfl rfl ?_
      refine wz_aload_nS (p9 := 825) rfl rfl rfl ?_
      refine wz_iload (p9 := 827) rfl rfl rfl ?_
      refine wz_iconst (x := nI 1) (p9 := 828) rfl rfl (by decide) ?_
      refine wn_add (p9 := 829) rfl rfl ?_
      refine wz_sald (v := X.2 ((nI (i + 1))).toNatClampNeg) (p9 := 830) rfl rfl (q_in (show i + 1 < X.1 by omega) (by omega)) rfl ?_
      refine wz_aload_nS (p9 := 831) rfl rfl rfl ?_
      refine wz_iload (p9 := 833) rfl rfl rfl ?_
      refine wz_iconst (x := nI 2) (p9 := 834) rfl rfl (by decide) ?_
      refine wn_add (p9 := 835) rfl rfl ?_
      refine wz_sald (v := X.2 ((nI (i + 2))).toNatClampNeg) (p9 := 836) rfl rfl (q_in (show i + 2 < X.1 by omega) (by omega)) rfl ?_
      refine wz_c1 (p9 := 839) (w1 := WW A2 R2 (vp_updL o 0 (lb v))) (u := .int v) (wa_v (N := 131) (i := 26) (As := [.int (X.2 ((nI (i + 1))).toNatClampNeg), .int (X.2 ((nI (i + 2))).toNatClampNeg)]) (rest := []) rfl rfl rfl rfl rfl rfl rfl) rfl (hm.up (by decide)) ?_
      refine wz_istore (l9 := [.retAddr 1, .ref 0, .ref 26, .ref 46, .int (nI i), .int (nI 0), .int v]) (p9 := 841) rfl rfl rfl rfl ?_
      refine wz_aload_n (p9 := 842) rfl rfl rfl ?_
      refine wz_c1 (p9 := 845) (w1 := WW A2 R2 (vp_updL o 0 (lb v))) (u := .int (nI 0)) (wa_v (N := 98) (i := 26) (As := []) (rest := []) rfl rfl rfl rfl rfl rfl rfl) rfl (by have h9 := g_thrown (X := X) (d := 10) (A := A2) (R := R2) (o := (vp_updL o 0 (lb v))); rw [hth] at h9; exact h9) ?_
      refine wz_iload (p9 := 847) rfl rfl rfl ?_
      refine wn_iceq (t9 := 852) (p9 := 850) rfl rfl rfl (by omega) (by omega) (fun _ => ?_) (fun h9 => by omega)
      refine wz_iload (p9 := 854) rfl rfl rfl ?_
      refine wn_ifne (t9 := 876) (p9 := 857) rfl rfl rfl (by omega) (fun h9 => by omega) (fun _ => ?_)
      refine wz_aload_n (p9 := 858) rfl rfl rfl ?_
      refine wz_iconst (x := nI 0) (p9 := 859) rfl rfl (by decide) ?_
      refine wz_lald (v := (vp_updL o 0 (lb v)) 0) (p9 := 860) rfl rfl rfl (by decide) rfl ?_
      refine wz_iload (p9 := 862) rfl rfl rfl ?_
      refine wz_ifeq (t9 := 869) (p9 := 865) rfl rfl rfl (fun _ => ?_) (fun h9 => absurd hv h9)
      refine wz_lconst (x := 0) (p9 := 870) rfl rfl rfl ?_
      refine wz_lcmp (p9 := 871) rfl rfl ?_
      refine wz_ifeq (t9 := 876) (p9 := 874) rfl rfl rfl (fun _ => ?_) (fun h9 => absurd (by rw [up_0]; rw [show lb v = 0 from if_pos hv]; exact lg_s _) h9)
      refine wz_goto (p9 := 1189) rfl rfl ?_
      exact kk A2 R2 _ _ _ _ _ hre (Nat.le_add_right _ _) (Nat.le_add_right _ _)
    · skip
      refine wz_aload_n (p9 := 805) rfl rfl rfl ?_
      refine wz_aload_nS (p9 := 806) rfl rfl rfl ?_
      refine wz_iload (p9 := 808) rfl rfl rfl ?_
      refine wz_iconst (x := nI 1) (p9 := 809) rfl rfl (by decide) ?_
      refine wn_add (p9 := 810) rfl rfl ?_
      refine wz_sald (v := X.2 ((nI (i + 1))).toNatClampNeg) (p9 := 811) rfl rfl (q_in (show i + 1 < X.1 by omega) (by omega)) rfl ?_
      refine wz_aload_nS (p9 := 812) rfl rfl rfl ?_
      refine wz_iload (p9 := 814) rfl rfl rfl ?_
      refine wz_iconst (x := nI 2) (p9 := 815) rfl rfl (by decide) ?_
      refine wn_add (p9 := 816) rfl rfl ?_
      refine wz_sald (v := X.2 ((nI (i + 2))).toNatClampNeg) (p9 := 817) rfl rfl (q_in (show i + 2 < X.1 by omega) (by omega)) rfl ?_
      refine wz_aload_n (p9 := 818) rfl rfl rfl ?_
      refine wz_c1 (p9 := 821) (w1 := WW A2 R (vp_updL o 0 (lb v))) (u := .int (nI 0)) (tz_calS (N := 166) (As := [.ref 0, .int (X.2 ((nI (i + 1))).toNatClampNeg), .int (X.2 ((nI (i + 2))).toNatClampNeg), .ref 46]) (rest := []) rfl rfl rfl rfl rfl rfl) rfl hh ?_
      refine wz_istore (l9 := [.retAddr 1, .ref 0, .ref 26, .ref 46, .int (nI i), .int (nI 0), v6]) (p9 := 823) rfl rfl rfl rfl ?_
      refine wz_aload_n (p9 := 824) rfl rfl rfl ?_
      refine wz_aload_nS (p9 := 825) rfl rfl rfl ?_
      refine wz_iload (p9 := 827) rfl rfl rfl ?_
      refine wz_iconst (x := nI 1) (p9 := 828) rfl rfl (by decide) ?_
      refine wn_add (p9 := 829) rfl rfl ?_
      refine wz_sald (v := X.2 ((nI (i + 1))).toNatClampNeg) (p9 := 830) rfl rfl (q_in (show i + 1 < X.1 by omega) (by omega)) rfl ?_
      refine wz_aload_nS (p9 := 831) rfl rfl rfl ?_
      refine wz_iload (p9 := 833) rfl rfl rfl ?_
      refine wz_iconst (x := nI 2) (p9 := 834) rfl rfl (by decide) ?_
      refine wn_add (p9 := 835) rfl rfl ?_
      refine wz_sald (v := X.2 ((nI (i + 2))).toNatClampNeg) (p9 := 836) rfl rfl (q_in (show i + 2 < X.1 by omega) (by omega)) rfl ?_
      refine wz_c1 (p9 := 839) (w1 := WW A2 R2 (vp_updL o 0 (lb v))) (u := .int v) (wa_v (N := 131) (i := 26) (As := [.int (X.2 ((nI (i + 1))).toNatClampNeg), .int (X.2 ((nI (i + 2))).toNatClampNeg)]) (rest := []) rfl rfl rfl rfl rfl rfl rfl) rfl (hm.up (by decide)) ?_
      refine wz_istore (l9 := [.retAddr 1, .ref 0, .ref 26, .ref 46, .int (nI i), .int (nI 0), .int v]) (p9 := 841) rfl rfl rfl rfl ?_
      refine wz_aload_n (p9 := 842) rfl rfl rfl ?_
      refine wz_c1 (p9 := 845) (w1 := WW A2 R2 (vp_updL o 0 (lb v))) (u := .int (nI 0)) (wa_v (N := 98) (i := 26) (As := []) (rest := []) rfl rfl rfl rfl rfl rfl rfl) rfl (by have h9 := g_thrown (X := X) (d := 10) (A := A2) (R := R2) (o := (vp_updL o 0 (lb v))); rw [hth] at h9; exact h9) ?_
      refine wz_iload (p9 := 847) rfl rfl rfl ?_
      refine wn_iceq (t9 := 852) (p9 := 850) rfl rfl rfl (by omega) (by omega) (fun _ => ?_) (fun h9 => by omega)
      refine wz_iload (p9 := 854) rfl rfl rfl ?_
      refine wn_ifne (t9 := 876) (p9 := 857) rfl rfl rfl (by omega) (fun h9 => by omega) (fun _ => ?_)
      refine wz_aload_n (p9 := 858) rfl rfl rfl ?_
      refine wz_iconst (x := nI 0) (p9 := 859) rfl rfl (by decide) ?_
      refine wz_lald (v := (vp_updL o 0 (lb v)) 0) (p9 := 860) rfl rfl rfl (by decide) rfl ?_
      refine wz_iload (p9 := 862) rfl rfl rfl ?_
      refine wz_ifeq (t9 := 869) (p9 := 865) rfl rfl rfl (fun h9 => absurd h9 hv) (fun _ => ?_)
      refine wz_lconst (x := 1) (p9 := 866) rfl rfl rfl ?_
      refine wz_goto (p9 := 870) rfl rfl ?_
      refine wz_lcmp (p9 := 871) rfl rfl ?_
      refine wz_ifeq (t9 := 876) (p9 := 874) rfl rfl rfl (fun _ => ?_) (fun h9 => absurd (by rw [up_0]; rw [show lb v = 1 from if_neg hv]; exact lg_s _) h9)
      refine wz_goto (p9 := 1189) rfl rfl ?_
      exact kk A2 R2 _ _ _ _ _ hre (Nat.le_add_right _ _) (Nat.le_add_right _ _)
theorem cs_run {X : Nat × (Nat → Int32)} {A : CA} {R : RA} {o : Nat → Int64} (H : RE A R) {i k z : Nat} (hL : X.1 ≤ 2050) (hi : i + 4 ≤ X.1) {Q : px_Z → Prop} (kk : ∀ (A2 : CA) (R2 : RA) (o2 : Nat → Int64) (v5 v6 : Value) (k2 z2 : Nat), RE A2 R2 → k2 ≤ k + 1 → z2 ≤ z + 6 → wp X 11 173 (1189, [.retAddr 1, .ref 0, .ref 26, .ref 46, .int (nI i), v5, v6], [], WW A2 R2 o2, k2, z2) Q) : ∀ v5 v6, wp X 11 173 (879, [.retAddr 1, .ref 0, .ref 26, .ref 46, .int (nI i), v5, v6], [], WW A R o, k, z) Q := by
  intro v5 v6
  have J := j_run (X := X) (d := 0) (A := A) (R := R) (o := o) H (x := (X.2 ((nI (i + 1))).toNatClampNeg))
  rcases h_run J with ⟨hh, hm⟩ | ⟨A2, v, hh, hm⟩
  · obtain ⟨R2, b, hm, hth, hre⟩ := hm o
    refine wz_aload_n (p9 := 880) rfl rfl rfl ?_
    refine wz_aload_nS (p9 := 881) rfl rfl rfl ?_
    refine wz_iload (p9 := 883) rfl rfl rfl ?_
    refine wz_iconst (x := nI 1) (p9 := 884) rfl rfl (by decide) ?_
    refine wn_add (p9 := 885) rfl rfl ?_
    refine wz_sald (v := X.2 ((nI (i + 1))).toNatClampNeg) (p9 := 886) rfl rfl (q_in (show i + 1 < X.1 by omega) (by omega)) rfl ?_
    refine wz_aload_n (p9 := 887) rfl rfl rfl ?_
    refine wz_cv (p9 := 890) (w1 := WW A R o) (u := .int (nI 1)) (k1 := 1) (z1 := 6) (tz_calS (N := 167) (As := [.ref 0, .int (X.2 ((nI (i + 1))).toNatClampNeg), .ref 46]) (rest := []) rfl rfl rfl rfl rfl rfl) rfl hh ?_
    refine wz_istore (l9 := [.retAddr 1, .ref 0, .ref 26, .ref 46, .int (nI i), .int (nI 1), v6]) (p9 := 892) rfl rfl rfl rfl ?_
    refine wz_aload_n (p9 := 893) rfl rfl rfl ?_
    refine wz_aload_nS (p9 := 894) rfl rfl rfl ?_
    refine wz_iload (p9 := 896) rfl rfl rfl ?_
    refine wz_iconst (x := nI 1) (p9 := 897) rfl rfl (by decide) ?_
    refine wn_add (p9 := 898) rfl rfl ?_
    refine wz_sald (v := X.2 ((nI (i + 1))).toNatClampNeg) (p9 := 899) rfl rfl (q_in (show i + 1 < X.1 by omega) (by omega)) rfl ?_
    refine wz_c1 (p9 := 902) (w1 := WW A R2 o) (u := .int b) (wa_v (N := 132) (i := 26) (As := [.int (X.2 ((nI (i + 1))).toNatClampNeg)]) (rest := []) rfl rfl rfl rfl rfl rfl rfl) rfl (hm.up (by decide)) ?_
    refine wz_istore (l9 := [.retAddr 1, .ref 0, .ref 26, .ref 46, .int (nI i), .int (nI 1), .int b]) (p9 := 904) rfl rfl rfl rfl ?_
    refine wz_aload_n (p9 := 905) rfl rfl rfl ?_
    refine wz_c1 (p9 := 908) (w1 := WW A R2 o) (u := .int (nI 1)) (wa_v (N := 98) (i := 26) (As := []) (rest := []) rfl rfl rfl rfl rfl rfl rfl) rfl (by have h9 := g_thrown (X := X) (d := 10) (A := A) (R := R2) (o := o); rw [hth] at h9; exact h9) ?_
    refine wz_iload (p9 := 910) rfl rfl rfl ?_
    refine wn_iceq (t9 := 915) (p9 := 913) rfl rfl rfl (by omega) (by omega) (fun _ => ?_) (fun h9 => by omega)
    refine wz_iload (p9 := 917) rfl rfl rfl ?_
    refine wn_ifne (t9 := 932) (p9 := 920) rfl rfl rfl (by omega) (fun _ => ?_) (fun h9 => by omega)
    refine wz_goto (p9 := 1189) rfl rfl ?_
    exact kk A R2 _ _ _ _ _ hre (Nat.le_refl _) (Nat.le_refl _)
  · obtain ⟨R2, hm, hth, hre⟩ := hm (vp_updL o 0 (v.toInt64))
    refine wz_aload_n (p9 := 880) rfl rfl rfl ?_
    refine wz_aload_nS (p9 := 881) rfl rfl rfl ?_
    refine wz_iload (p9 := 883) rfl rfl rfl ?_
    refine wz_iconst (x := nI 1) (p9 := 884) rfl rfl (by decide) ?_
    refine wn_add (p9 := 885) rfl rfl ?_
    refine wz_sald (v := X.2 ((nI (i + 1))).toNatClampNeg) (p9 := 886) rfl rfl (q_in (show i + 1 < X.1 by omega) (by omega)) rfl ?_
    refine wz_aload_n (p9 := 887) rfl rfl rfl ?_
    refine wz_c1 (p9 := 890) (w1 := WW A2 R (vp_updL o 0 (v.toInt64))) (u := .int (nI 0)) (tz_calS (N := 167) (As := [.ref 0, .int (X.2 ((nI (i + 1))).toNatClampNeg), .ref 46]) (rest := []) rfl rfl rfl rfl rfl rfl) rfl hh ?_
    refine wz_istore (l9 := [.retAddr 1, .ref 0, .ref 26, .ref 46, .int (nI i), .int (nI 0), v6]) (p9 := 892) rfl rfl rfl rfl ?_
    refine wz_aload_n (p9 := 893) rfl rfl rfl ?_
    refine wz_aload_nS (p9 := 894) rfl rfl rfl ?_
    refine wz_iload (p9 := 896) rfl rfl rfl ?_
    refine wz_iconst (x := nI 1) (p9 := 897) rfl rfl (by decide) ?_
    refine wn_add (p9 := 898) rfl rfl ?_
    refine wz_sald (v := X.2 ((nI (i + 1))).toNatClampNeg) (p9 := 899) rfl rfl (q_in (show i + 1 < X.1 by omega) (by omega)) rfl ?_
    refine wz_c1 (p9 := 902) (w1 := WW A2 R2 (vp_updL o 0 (v.toInt64))) (u := .int v) (wa_v (N := 132) (i := 26) (As := [.int (X.2 ((nI (i + 1))).toNatClampNeg)]) (rest := []) rfl rfl rfl rfl rfl rfl rfl) rfl (hm.up (by decide)) ?_
    refine wz_istore (l9 := [.retAddr 1, .ref 0, .ref 26, .ref 46, .int (nI i), .int (nI 0), .int v]) (p9 := 904) rfl rfl rfl rfl ?_
    refine wz_aload_n (p9 := 905) rfl rfl rfl ?_
    refine wz_c1 (p9 := 908) (w1 := WW A2 R2 (vp_updL o 0 (v.toInt64))) (u := .int (nI 0)) (wa_v (N := 98) (i := 26) (As := []) (rest := []) rfl rfl rfl rfl rfl rfl rfl) rfl (by have h9 := g_thrown (X := X) (d := 10) (A := A2) (R := R2) (o := (vp_updL o 0 (v.toInt64))); rw [hth] at h9; exact h9) ?_
    refine wz_iload (p9 := 910) rfl rfl rfl ?_
    refine wn_iceq (t9 := 915) (p9 := 913) rfl rfl rfl (by omega) (by omega) (fun _ => ?_) (fun h9 => by omega)
    refine wz_iload (p9 := 917) rfl rfl rfl ?_
    refine wn_ifne (t9 := 932) (p9 := 920) rfl rfl rfl (by omega) (fun h9 => by omega) (fun _ => ?_)
    refine wz_aload_n (p9 := 921) rfl rfl rfl ?_
    refine wz_iconst (x := nI 0) (p9 := 922) rfl rfl (by decide) ?_
    refine wz_lald (v := (vp_updL o 0 (v.toInt64)) 0) (p9 := 923) rfl rfl rfl (by decide) rfl ?_
    refine wz_iload (p9 := 925) rfl rfl rfl ?_
    refine wz_i2l (p9 := 926) rfl rfl ?_
    refine wz_lcmp (p9 := 927) rfl rfl ?_
    refine wz_ifeq (t9 := 932) (p9 := 930) rfl rfl rfl (fun _ => ?_) (fun h9 => absurd (by rw [up_0]; exact lg_s _) h9)
    refine wz_goto (p9 := 1189) rfl rfl ?_
    exact kk A2 R2 _ _ _ _ _ hre (Nat.le_add_right _ _) (Nat.le_add_right _ _)
theorem cs_states {X : Nat × (Nat → Int32)} {A : CA} {R : RA} {o : Nat → Int64} (H : RE A R) {i k z : Nat} (hL : X.1 ≤ 2050) (hi : i + 4 ≤ X.1) {Q : px_Z → Prop} (kk : ∀ (A2 : CA) (R2 : RA) (o2 : Nat → Int64) (v5 v6 : Value) (k2 z2 : Nat), RE A2 R2 → k2 ≤ k + 1 → z2 ≤ z + 6 → wp X 11 173 (1189, [.retAddr 1, .ref 0, .ref 26, .ref 46, .int (nI i), v5, v6], [], WW A2 R2 o2, k2, z2) Q) : ∀ v5 v6, wp X 11 173 (960, [.retAddr 1, .ref 0, .ref 26, .ref 46, .int (nI i), v5, v6], [], WW A R o, k, z) Q := by
  intro v5 v6
  have J := j_states (X := X) (d := 0) (A := A) (R := R) (o := o) H (x := (X.2 ((nI (i + 1))).toNatClampNeg))
  rcases h_states J with ⟨hh, hm⟩ | ⟨A2, v, hh, hm⟩
  · obtain ⟨R2, b, hm, hth, hre⟩ := hm o
    refine wz_aload_n (p9 := 961) rfl rfl rfl ?_
    refine wz_aload_nS (p9 := 962) rfl rfl rfl ?_
    refine wz_iload (p9 := 964) rfl rfl rfl ?_
    refine wz_iconst (x := nI 1) (p9 := 965) rfl rfl (by decide) ?_
    refine wn_add (p9 := 966) rfl rfl ?_
    refine wz_sald (v := X.2 ((nI (i + 1))).toNatClampNeg) (p9 := 967) rfl rfl (q_in (show i + 1 < X.1 by omega) (by omega)) rfl ?_
    refine wz_aload_n (p9 := 968) rfl rfl rfl ?_
    refine wz_cv (p9 := 971) (w1 := WW A R o) (u := .int (nI 1)) (k1 := 1) (z1 := 6) (tz_calS (N := 168) (As := [.ref 0, .int (X.2 ((nI (i + 1))).toNatClampNeg), .ref 46]) (rest := []) rfl rfl rfl rfl rfl rfl) rfl hh ?_
    refine wz_istore (l9 := [.retAddr 1, .ref 0, .ref 26, .ref 46, .int (nI i), .int (nI 1), v6]) (p9 := 973) rfl rfl rfl rfl ?_
    refine wz_aload_n (p9 := 974) rfl rfl rfl ?_
    refine wz_aload_nS (p9 := 975) rfl rfl rfl ?_
    refine wz_iload (p9 := 977) rfl rfl rfl ?_
    refine wz_iconst (x := nI 1) (p9 := 978) rfl rfl (by decide) ?_
    refine wn_add (p9 := 979) rfl rfl ?_
    refine wz_sald (v := X.2 ((nI (i + 1))).toNatClampNeg) (p9 := 980) rfl rfl (q_in (show i + 1 < X.1 by omega) (by omega)) rfl ?_
    refine wz_c1 (p9 := 983) (w1 := WW A R2 o) (u := .int b) (wa_v (N := 137) (i := 26) (As := [.int (X.2 ((nI (i + 1))).toNatClampNeg)]) (rest := []) rfl rfl rfl rfl rfl rfl rfl) rfl (hm.up (by decide)) ?_
    refine wz_istore (l9 := [.retAddr 1, .ref 0, .ref 26, .ref 46, .int (nI i), .int (nI 1), .int b]) (p9 := 985) rfl rfl rfl rfl ?_
    refine wz_aload_n (p9 := 986) rfl rfl rfl ?_
    refine wz_c1 (p9 := 989) (w1 := WW A R2 o) (u := .int (nI 1)) (wa_v (N := 98) (i := 26) (As := []) (rest := []) rfl rfl rfl rfl rfl rfl rfl) rfl (by have h9 := g_thrown (X := X) (d := 10) (A := A) (R := R2) (o := o); rw [hth] at h9; exact h9) ?_
    refine wz_iload (p9 := 991) rfl rfl rfl ?_
    refine wn_iceq (t9 := 996) (p9 := 994) rfl rfl rfl (by omega) (by omega) (fun _ => ?_) (fun h9 => by omega)
    refine wz_iload (p9 := 998) rfl rfl rfl ?_
    refine wn_ifne (t9 := 1013) (p9 := 1001) rfl rfl rfl (by omega) (fun _ => ?_) (fun h9 => by omega)
    refine wz_goto (p9 := 1189) rfl rfl ?_
    exact kk A R2 _ _ _ _ _ hre (Nat.le_refl _) (Nat.le_refl _)
  · obtain ⟨R2, hm, hth, hre⟩ := hm (vp_updL o 0 (v.toInt64))
    refine wz_aload_n (p9 := 961) rfl rfl rfl ?_
    refine wz_aload_nS (p9 := 962) rfl rfl rfl ?_
    refine wz_iload (p9 := 964) rfl rfl rfl ?_
    refine wz_iconst (x := nI 1) (p9 := 965) rfl rfl (by decide) ?_
    refine wn_add (p9 := 966) rfl rfl ?_
    refine wz_sald (v := X.2 ((nI (i + 1))).toNatClampNeg) (p9 := 967) rfl rfl (q_in (show i + 1 < X.1 by omega) (by omega)) rfl ?_
    refine wz_aload_n (p9 := 968) rfl rfl rfl ?_
    refine wz_c1 (p9 := 971) (w1 := WW A2 R (vp_updL o 0 (v.toInt64))) (u := .int (nI 0)) (tz_calS (N := 168) (As := [.ref 0, .int (X.2 ((nI (i + 1))).toNatClampNeg), .ref 46]) (rest := []) rfl rfl rfl rfl rfl rfl) rfl hh ?_
    refine wz_istore (l9 := [.retAddr 1, .ref 0, .ref 26, .ref 46, .int (nI i), .int (nI 0), v6]) (p9 := 973) rfl rfl rfl rfl ?_
    refine wz_aload_n (p9 := 974) rfl rfl rfl ?_
    refine wz_aload_nS (p9 := 975) rfl rfl rfl ?_
    refine wz_iload (p9 := 977) rfl rfl rfl ?_
    refine wz_iconst (x := nI 1) (p9 := 978) rfl rfl (by decide) ?_
    refine wn_add (p9 := 979) rfl rfl ?_
    refine wz_sald (v := X.2 ((nI (i + 1))).toNatClampNeg) (p9 := 980) rfl rfl (q_in (show i + 1 < X.1 by omega) (by omega)) rfl ?_
    refine wz_c1 (p9 := 983) (w1 := WW A2 R2 (vp_updL o 0 (v.toInt64))) (u := .int v) (wa_v (N := 137) (i := 26) (As := [.int (X.2 ((nI (i + 1))).toNatClampNeg)]) (rest := []) rfl rfl rfl rfl rfl rfl rfl) rfl (hm.up (by decide)) ?_
    refine wz_istore (l9 := [.retAddr 1, .ref 0, .ref 26, .ref 46, .int (nI i), .int (nI 0), .int v]) (p9 := 985) rfl rfl rfl rfl ?_
    refine wz_aload_n (p9 := 986) rfl rfl rfl ?_
    refine wz_c1 (p9 := 989) (w1 := WW A2 R2 (vp_updL o 0 (v.toInt64))) (u := .int (nI 0)) (wa_v (N := 98) (i := 26) (As := []) (rest := []) rfl rfl rfl rfl rfl rfl rfl) rfl (by have h9 := g_thrown (X := X) (d := 10) (A := A2) (R := R2) (o := (vp_updL o 0 (v.toInt64))); rw [hth] at h9; exact h9) ?_
    refine wz_iload (p9 := 991) rfl rfl rfl ?_
    refine wn_iceq (t9 := 996) (p9 := 994) rfl rfl rfl (by omega) (by omega) (fun _ => ?_) (fun h9 => by omega)
    refine wz_iload (p9 := 998) rfl rfl rfl ?_
    refine wn_ifne (t9 := 1013) (p9 := 1001) rfl rfl rfl (by omega) (fun h9 => by omega) (fun _ => ?_)
    refine wz_aload_n (p9 := 1002) rfl rfl rfl ?_
    refine wz_iconst (x := nI 0) (p9 := 1003) rfl rfl (by decide) ?_
    refine wz_lald (v := (vp_updL o 0 (v.toInt64)) 0) (p9 := 1004) rfl rfl rfl (by decide) rfl ?_
    refine wz_iload (p9 := 1006) rfl rfl rfl ?_
    refine wz_i2l (p9 := 1007) rfl rfl ?_
    refine wz_lcmp (p9 := 1008) rfl rfl ?_
    refine wz_ifeq (t9 := 1013) (p9 := 1011) rfl rfl rfl (fun _ => ?_) (fun h9 => absurd (by rw [up_0]; exact lg_s _) h9)
    refine wz_goto (p9 := 1189) rfl rfl ?_
    exact kk A2 R2 _ _ _ _ _ hre (Nat.le_add_right _ _) (Nat.le_add_right _ _)
theorem cs_fails {X : Nat × (Nat → Int32)} {A : CA} {R : RA} {o : Nat → Int64} (H : RE A R) {i k z : Nat} (hL : X.1 ≤ 2050) (hi : i + 4 ≤ X.1) {Q : px_Z → Prop} (kk : ∀ (A2 : CA) (R2 : RA) (o2 : Nat → Int64) (v5 v6 : Value) (k2 z2 : Nat), RE A2 R2 → k2 ≤ k + 1 → z2 ≤ z + 6 → wp X 11 173 (1189, [.retAddr 1, .ref 0, .ref 26, .ref 46, .int (nI i), v5, v6], [], WW A2 R2 o2, k2, z2) Q) : ∀ v5 v6, wp X 11 173 (1016, [.retAddr 1, .ref 0, .ref 26, .ref 46, .int (nI i), v5, v6], [], WW A R o, k, z) Q := by
  intro v5 v6
  have J := j_fails (X := X) (d := 0) (A := A) (R := R) (o := o) H (x := (X.2 ((nI (i + 1))).toNatClampNeg))
  rcases h_fails J with ⟨hh, hm⟩ | ⟨A2, v, hh, hm⟩
  · obtain ⟨R2, b, hm, hth, hre⟩ := hm o
    refine wz_aload_n (p9 := 1017) rfl rfl rfl ?_
    refine wz_aload_nS (p9 := 1018) rfl rfl rfl ?_
    refine wz_iload (p9 := 1020) rfl rfl rfl ?_
    refine wz_iconst (x := nI 1) (p9 := 1021) rfl rfl (by decide) ?_
    refine wn_add (p9 := 1022) rfl rfl ?_
    refine wz_sald (v := X.2 ((nI (i + 1))).toNatClampNeg) (p9 := 1023) rfl rfl (q_in (show i + 1 < X.1 by omega) (by omega)) rfl ?_
    refine wz_aload_n (p9 := 1024) rfl rfl rfl ?_
    refine wz_cv (p9 := 1027) (w1 := WW A R o) (u := .int (nI 1)) (k1 := 1) (z1 := 6) (tz_calS (N := 169) (As := [.ref 0, .int (X.2 ((nI (i + 1))).toNatClampNeg), .ref 46]) (rest := []) rfl rfl rfl rfl rfl rfl) rfl hh ?_
    refine wz_istore (l9 := [.retAddr 1, .ref 0, .ref 26, .ref 46, .int (nI i), .int (nI 1), v6]) (p9 := 1029) rfl rfl rfl rfl ?_
    refine wz_aload_n (p9 := 1030) rfl rfl rfl ?_
    refine wz_aload_nS (p9 := 1031) rfl rfl rfl ?_
    refine wz_iload (p9 := 1033) rfl rfl rfl ?_
    refine wz_iconst (x := nI 1) (p9 := 1034) rfl rfl (by decide) ?_
    refine wn_add (p9 := 1035) rfl rfl ?_
    refine wz_sald (v := X.2 ((nI (i + 1))).toNatClampNeg) (p9 := 1036) rfl rfl (q_in (show i + 1 < X.1 by omega) (by omega)) rfl ?_
    refine wz_c1 (p9 := 1039) (w1 := WW A R2 o) (u := .int b) (wa_v (N := 143) (i := 26) (As := [.int (X.2 ((nI (i + 1))).toNatClampNeg)]) (rest := []) rfl rfl rfl rfl rfl rfl rfl) rfl (hm.up (by decide)) ?_
    refine wz_istore (l9 := [.retAddr 1, .ref 0, .ref 26, .ref 46, .int (nI i), .int (nI 1), .int b]) (p9 := 1041) rfl rfl rfl rfl ?_
    refine wz_aload_n (p9 := 1042) rfl rfl rfl ?_
    refine wz_c1 (p9 := 1045) (w1 := WW A R2 o) (u := .int (nI 1)) (wa_v (N := 98) (i := 26) (As := []) (rest := []) rfl rfl rfl rfl rfl rfl rfl) rfl (by have h9 := g_thrown (X := X) (d := 10) (A := A) (R := R2) (o := o); rw [hth] at h9; exact h9) ?_
    refine wz_iload (p9 := 1047) rfl rfl rfl ?_
    refine wn_iceq (t9 := 1052) (p9 := 1050) rfl rfl rfl (by omega) (by omega) (fun _ => ?_) (fun h9 => by omega)
    refine wz_iload (p9 := 1054) rfl rfl rfl ?_
    refine wn_ifne (t9 := 1069) (p9 := 1057) rfl rfl rfl (by omega) (fun _ => ?_) (fun h9 => by omega)
    refine wz_goto (p9 := 1189) rfl rfl ?_
    exact kk A R2 _ _ _ _ _ hre (Nat.le_refl _) (Nat.le_refl _)
  · obtain ⟨R2, hm, hth, hre⟩ := hm (vp_updL o 0 (v.toInt64))
    refine wz_aload_n (p9 := 1017) rfl rfl rfl ?_
    refine wz_aload_nS (p9 := 1018) rfl rfl rfl ?_
    refine wz_iload (p9 := 1020) rfl rfl rfl ?_
    refine wz_iconst (x := nI 1) (p9 := 1021) rfl rfl (by decide) ?_
    refine wn_add (p9 := 1022) rfl rfl ?_
    refine wz_sald (v := X.2 ((nI (i + 1))).toNatClampNeg) (p9 := 1023) rfl rfl (q_in (show i + 1 < X.1 by omega) (by omega)) rfl ?_
    refine wz_aload_n (p9 := 1024) rfl rfl rfl ?_
    refine wz_c1 (p9 := 1027) (w1 := WW A2 R (vp_updL o 0 (v.toInt64))) (u := .int (nI 0)) (tz_calS (N := 169) (As := [.ref 0, .int (X.2 ((nI (i + 1))).toNatClampNeg), .ref 46]) (rest := []) rfl rfl rfl rfl rfl rfl) rfl hh ?_
    refine wz_istore (l9 := [.retAddr 1, .ref 0, .ref 26, .ref 46, .int (nI i), .int (nI 0), v6]) (p9 := 1029) rfl rfl rfl rfl ?_
    refine wz_aload_n (p9 := 1030) rfl rfl rfl ?_
    refine wz_aload_nS (p9 := 1031) rfl rfl rfl ?_
    refine wz_iload (p9 := 1033) rfl rfl rfl ?_
    refine wz_iconst (x := nI 1) (p9 := 1034) rfl rfl (by decide) ?_
    refine wn_add (p9 := 1035) rfl rfl ?_
    refine wz_sald (v := X.2 ((nI (i + 1))).toNatClampNeg) (p9 := 1036) rfl rfl (q_in (show i + 1 < X.1 by omega) (by omega)) rfl ?_
    refine wz_c1 (p9 := 1039) (w1 := WW A2 R2 (vp_updL o 0 (v.toInt64))) (u := .int v) (wa_v (N := 143) (i := 26) (As := [.int (X.2 ((nI (i + 1))).toNatClampNeg)]) (rest := []) rfl rfl rfl rfl rfl rfl rfl) rfl (hm.up (by decide)) ?_
    refine wz_istore (l9 := [.retAddr 1, .ref 0, .ref 26, .ref 46, .int (nI i), .int (nI 0), .int v]) (p9 := 1041) rfl rfl rfl rfl ?_
    refine wz_aload_n (p9 := 1042) rfl rfl rfl ?_
    refine wz_c1 (p9 := 1045) (w1 := WW A2 R2 (vp_updL o 0 (v.toInt64))) (u := .int (nI 0)) (wa_v (N := 98) (i := 26) (As := []) (rest := []) rfl rfl rfl rfl rfl rfl rfl) rfl (by have h9 := g_thrown (X := X) (d := 10) (A := A2) (R := R2) (o := (vp_updL o 0 (v.toInt64))); rw [hth] at h9; exact h9) ?_
    refine wz_iload (p9 := 1047) rfl rfl rfl ?_
    refine wn_iceq (t9 := 1052) (p9 := 1050) rfl rfl rfl (by omega) (by omega) (fun _ => ?_) (fun h9 => by omega)
    refine wz_iload (p9 := 1054) rfl rfl rfl ?_
    refine wn_ifne (t9 := 1069) (p9 := 1057) rfl rfl rfl (by omega) (fun h9 => by omega) (fun _ => ?_)
    refine wz_aload_n (p9 := 1058) rfl rfl rfl ?_
    refine wz_iconst (x := nI 0) (p9 := 1059) rfl rfl (by decide) ?_
    refine wz_lald (v := (vp_updL o 0 (v.toInt64)) 0) (p9 := 1060) rfl rfl rfl (by decide) rfl ?_
    refine wz_iload (p9 := 1062) rfl rfl rfl ?_
    refine wz_i2l (p9 := 1063) rfl rfl ?_
    refine wz_lcmp (p9 := 1064) rfl rfl ?_
    refine wz_ifeq (t9 := 1069) (p9 := 1067) rfl rfl rfl (fun _ => ?_) (fun h9 => absurd (by rw [up_0]; exact lg_s _) h9)
    refine wz_goto (p9 := 1189) rfl rfl ?_
    exact kk A2 R2 _ _ _ _ _ hre (Nat.le_add_right _ _) (Nat.le_add_right _ _)
theorem cs_text {X : Nat × (Nat → Int32)} {A : CA} {R : RA} {o : Nat → Int64} (H : RE A R) {i k z : Nat} (hL : X.1 ≤ 2050) (hi : i + 4 ≤ X.1) {Q : px_Z → Prop} (kk : ∀ (A2 : CA) (R2 : RA) (o2 : Nat → Int64) (v5 v6 : Value) (k2 z2 : Nat), RE A2 R2 → k2 ≤ k + 1 → z2 ≤ z + 6 → wp X 11 173 (1189, [.retAddr 1, .ref 0, .ref 26, .ref 46, .int (nI i), v5, v6], [], WW A2 R2 o2, k2, z2) Q) : ∀ v5 v6, wp X 11 173 (1121, [.retAddr 1, .ref 0, .ref 26, .ref 46, .int (nI i), v5, v6], [], WW A R o, k, z) Q := by
  intro v5 v6
  have J := j_text (X := X) (d := 0) (A := A) (R := R) (o := o) H (x := (X.2 ((nI (i + 1))).toNatClampNeg)) (y := (X.2 ((nI (i + 2))).toNatClampNeg))
  rcases h_text J with ⟨hh, hm⟩ | ⟨A2, v, hh, hm⟩
  · obtain ⟨R2, b, hm, hth, hre⟩ := hm o
    refine wz_aload_n (p9 := 1122) rfl rfl rfl ?_
    refine wz_aload_nS (p9 := 1123) rfl rfl rfl ?_
    refine wz_iload (p9 := 1125) rfl rfl rfl ?_
    refine wz_iconst (x := nI 1) (p9 := 1126) rfl rfl (by decide) ?_
    refine wn_add (p9 := 1127) rfl rfl ?_
    refine wz_sald (v := X.2 ((nI (i + 1))).toNatClampNeg) (p9 := 1128) rfl rfl (q_in (show i + 1 < X.1 by omega) (by omega)) rfl ?_
    refine wz_aload_nS (p9 := 1129) rfl rfl rfl ?_
    refine wz_iload (p9 := 1131) rfl rfl rfl ?_
    refine wz_iconst (x := nI 2) (p9 := 1132) rfl rfl (by decide) ?_
    refine wn_add (p9 := 1133) rfl rfl ?_
    refine wz_sald (v := X.2 ((nI (i + 2))).toNatClampNeg) (p9 := 1134) rfl rfl (q_in (show i + 2 < X.1 by omega) (by omega)) rfl ?_
    refine wz_aload_n (p9 := 1135) rfl rfl rfl ?_
    refine wz_cv (p9 := 1138) (w1 := WW A R o) (u := .int (nI 1)) (k1 := 1) (z1 := 6) (tz_calS (N := 170) (As := [.ref 0, .int (X.2 ((nI (i + 1))).toNatClampNeg), .int (X.2 ((nI (i + 2))).toNatClampNeg), .ref 46]) (rest := []) rfl rfl rfl rfl rfl rfl) rfl hh ?_
    refine wz_istore (l9 := [.retAddr 1, .ref 0, .ref 26, .ref 46, .int (nI i), .int (nI 1), v6]) (p9 := 1140) rfl rfl rfl rfl ?_
    refine wz_aload_n (p9 := 1141) rfl rfl rfl ?_
    refine wz_aload_nS (p9 := 1142) rfl rfl rfl ?_
    refine wz_iload (p9 := 1144) rfl rfl rfl ?_
    refine wz_iconst (x := nI 1) (p9 := 1145) rfl rfl (by decide) ?_
    refine wn_add (p9 := 1146) rfl rfl ?_
    refine wz_sald (v := X.2 ((nI (i + 1))).toNatClampNeg) (p9 := 1147) rfl rfl (q_in (show i + 1 < X.1 by omega) (by omega)) rfl ?_
    refine wz_aload_nS (p9 := 1148) rfl rfl rfl ?_
    refine wz_iload (p9 := 1150) rfl rfl rfl ?_
    refine wz_iconst (x := nI 2) (p9 := 1151) rfl rfl (by decide) ?_
    refine wn_add (p9 := 1152) rfl rfl ?_
    refine wz_sald (v := X.2 ((nI (i + 2))).toNatClampNeg) (p9 := 1153) rfl rfl (q_in (show i + 2 < X.1 by omega) (by omega)) rfl ?_
    refine wz_c1 (p9 := 1156) (w1 := WW A R2 o) (u := .int b) (wa_v (N := 121) (i := 26) (As := [.int (X.2 ((nI (i + 1))).toNatClampNeg), .int (X.2 ((nI (i + 2))).toNatClampNeg)]) (rest := []) rfl rfl rfl rfl rfl rfl rfl) rfl (hm.up (by decide)) ?_
    refine wz_istore (l9 := [.retAddr 1, .ref 0, .ref 26, .ref 46, .int (nI i), .int (nI 1), .int b]) (p9 := 1158) rfl rfl rfl rfl ?_
    refine wz_aload_n (p9 := 1159) rfl rfl rfl ?_
    refine wz_c1 (p9 := 1162) (w1 := WW A R2 o) (u := .int (nI 1)) (wa_v (N := 98) (i := 26) (As := []) (rest := []) rfl rfl rfl rfl rfl rfl rfl) rfl (by have h9 := g_thrown (X := X) (d := 10) (A := A) (R := R2) (o := o); rw [hth] at h9; exact h9) ?_
    refine wz_iload (p9 := 1164) rfl rfl rfl ?_
    refine wn_iceq (t9 := 1169) (p9 := 1167) rfl rfl rfl (by omega) (by omega) (fun _ => ?_) (fun h9 => by omega)
    refine wz_iload (p9 := 1171) rfl rfl rfl ?_
    refine wn_ifne (t9 := 1186) (p9 := 1174) rfl rfl rfl (by omega) (fun _ => ?_) (fun h9 => by omega)
    refine wz_goto (p9 := 1189) rfl rfl ?_
    exact kk A R2 _ _ _ _ _ hre (Nat.le_refl _) (Nat.le_refl _)
  · obtain ⟨R2, hm, hth, hre⟩ := hm (vp_updL o 0 (v.toInt64))
    refine wz_aload_n (p9 := 1122) rfl rfl rfl ?_
    refine wz_aload_nS (p9 := 1123) rfl rfl rfl ?_
    refine wz_iload (p9 := 1125) rfl rfl rfl ?_
    refine wz_iconst (x := nI 1) (p9 := 1126) rfl rfl (by decide) ?_
    refine wn_add (p9 := 1127) rfl rfl ?_
    refine wz_sald (v := X.2 ((nI (i + 1))).toNatClampNeg) (p9 := 1128) rfl rfl (q_in (show i + 1 < X.1 by omega) (by omega)) rfl ?_
    refine wz_aload_nS (p9 := 1129) rfl rfl rfl ?_
    refine wz_iload (p9 := 1131) rfl rfl rfl ?_
    refine wz_iconst (x := nI 2) (p9 := 1132) rfl rfl (by decide) ?_
    refine wn_add (p9 := 1133) rfl rfl ?_
    refine wz_sald (v := X.2 ((nI (i + 2))).toNatClampNeg) (p9 := 1134) rfl rfl (q_in (show i + 2 < X.1 by omega) (by omega)) rfl ?_
    refine wz_aload_n (p9 := 1135) rfl rfl rfl ?_
    refine wz_c1 (p9 := 1138) (w1 := WW A2 R (vp_updL o 0 (v.toInt64))) (u := .int (nI 0)) (tz_calS (N := 170) (As := [.ref 0, .int (X.2 ((nI (i + 1))).toNatClampNeg), .int (X.2 ((nI (i + 2))).toNatClampNeg), .ref 46]) (rest := []) rfl rfl rfl rfl rfl rfl) rfl hh ?_
    refine wz_istore (l9 := [.retAddr 1, .ref 0, .ref 26, .ref 46, .int (nI i), .int (nI 0), v6]) (p9 := 1140) rfl rfl rfl rfl ?_
    refine wz_aload_n (p9 := 1141) rfl rfl rfl ?_
    refine wz_aload_nS (p9 := 1142) rfl rfl rfl ?_
    refine wz_iload (p9 := 1144) rfl rfl rfl ?_
    refine wz_iconst (x := nI 1) (p9 := 1145) rfl rfl (by decide) ?_
    refine wn_add (p9 := 1146) rfl rfl ?_
    refine wz_sald (v := X.2 ((nI (i + 1))).toNatClampNeg) (p9 := 1147) rfl rfl (q_in (show i + 1 < X.1 by omega) (by omega)) rfl ?_
    refine wz_aload_nS (p9 := 1148) rfl rfl rfl ?_
    refine wz_iload (p9 := 1150) rfl rfl rfl ?_
    refine wz_iconst (x := nI 2) (p9 := 1151) rfl rfl (by decide) ?_
    refine wn_add (p9 := 1152) rfl rfl ?_
    refine wz_sald (v := X.2 ((nI (i + 2))).toNatClampNeg) (p9 := 1153) rfl rfl (q_in (show i + 2 < X.1 by omega) (by omega)) rfl ?_
    refine wz_c1 (p9 := 1156) (w1 := WW A2 R2 (vp_updL o 0 (v.toInt64))) (u := .int v) (wa_v (N := 121) (i := 26) (As := [.int (X.2 ((nI (i + 1))).toNatClampNeg), .int (X.2 ((nI (i + 2))).toNatClampNeg)]) (rest := []) rfl rfl rfl rfl rfl rfl rfl) rfl (hm.up (by decide)) ?_
    refine wz_istore (l9 := [.retAddr 1, .ref 0, .ref 26, .ref 46, .int (nI i), .int (nI 0), .int v]) (p9 := 1158) rfl rfl rfl rfl ?_
    refine wz_aload_n (p9 := 1159) rfl rfl rfl ?_
    refine wz_c1 (p9 := 1162) (w1 := WW A2 R2 (vp_updL o 0 (v.toInt64))) (u := .int (nI 0)) (wa_v (N := 98) (i := 26) (As := []) (rest := []) rfl rfl rfl rfl rfl rfl rfl) rfl (by have h9 := g_thrown (X := X) (d := 10) (A := A2) (R := R2) (o := (vp_updL o 0 (v.toInt64))); rw [hth] at h9; exact h9) ?_
    refine wz_iload (p9 := 1164) rfl rfl rfl ?_
    refine wn_iceq (t9 := 1169) (p9 := 1167) rfl rfl rfl (by omega) (by omega) (fun _ => ?_) (fun h9 => by omega)
    refine wz_iload (p9 := 1171) rfl rfl rfl ?_
    refine wn_ifne (t9 := 1186) (p9 := 1174) rfl rfl rfl (by omega) (fun h9 => by omega) (fun _ => ?_)
    refine wz_aload_n (p9 := 1175) rfl rfl rfl ?_
    refine wz_iconst (x := nI 0) (p9 := 1176) rfl rfl (by decide) ?_
    refine wz_lald (v := (vp_updL o 0 (v.toInt64)) 0) (p9 := 1177) rfl rfl rfl (by decide) rfl ?_
    refine wz_iload (p9 := 1179) rfl rfl rfl ?_
    refine wz_i2l (p9 := 1180) rfl rfl ?_
    refine wz_lcmp (p9 := 1181) rfl rfl ?_
    refine wz_ifeq (t9 := 1186) (p9 := 1184) rfl rfl rfl (fun _ => ?_) (fun h9 => absurd (by rw [up_0]; exact lg_s _) h9)
    refine wz_goto (p9 := 1189) rfl rfl ?_
    exact kk A2 R2 _ _ _ _ _ hre (Nat.le_add_right _ _) (Nat.le_add_right _ _)
theorem cs_unit {X : Nat × (Nat → Int32)} {A : CA} {R : RA} {o : Nat → Int64} (H : RE A R) {i k z : Nat} (hL : X.1 ≤ 2050) (hi : i + 4 ≤ X.1) {Q : px_Z → Prop} (kk : ∀ (A2 : CA) (R2 : RA) (o2 : Nat → Int64) (v5 v6 : Value) (k2 z2 : Nat), RE A2 R2 → k2 ≤ k + 1 → z2 ≤ z + 6 → wp X 11 173 (1189, [.retAddr 1, .ref 0, .ref 26, .ref 46, .int (nI i), v5, v6], [], WW A2 R2 o2, k2, z2) Q) : ∀ v5 v6, wp X 11 173 (291, [.retAddr 1, .ref 0, .ref 26, .ref 46, .int (nI i), v5, v6], [], WW A R o, k, z) Q := by
  intro v5 v6
  obtain ⟨A2, R2, v, hc, hm, hre⟩ := j_unit (X := X) (d := 0) (A := A) (R := R) (o := o) H (x := (X.2 ((nI (i + 1))).toNatClampNeg))
  refine wz_aload_n (p9 := 292) rfl rfl rfl ?_
  refine wz_aload_nS (p9 := 293) rfl rfl rfl ?_
  refine wz_iload (p9 := 295) rfl rfl rfl ?_
  refine wz_iconst (x := nI 1) (p9 := 296) rfl rfl (by decide) ?_
  refine wn_add (p9 := 297) rfl rfl ?_
  refine wz_sald (v := X.2 ((nI (i + 1))).toNatClampNeg) (p9 := 298) rfl rfl (q_in (show i + 1 < X.1 by omega) (by omega)) rfl ?_
  refine wz_c1 (p9 := 301) (w1 := WW A2 R o) (u := .int v) (wa_v (N := 74) (i := 0) (As := [.int (X.2 ((nI (i + 1))).toNatClampNeg)]) (rest := []) rfl rfl rfl rfl rfl rfl rfl) rfl (hc.up (by decide)) ?_
  refine wz_aload_n (p9 := 302) rfl rfl rfl ?_
  refine wz_aload_nS (p9 := 303) rfl rfl rfl ?_
  refine wz_iload (p9 := 305) rfl rfl rfl ?_
  refine wz_iconst (x := nI 1) (p9 := 306) rfl rfl (by decide) ?_
  refine wn_add (p9 := 307) rfl rfl ?_
  refine wz_sald (v := X.2 ((nI (i + 1))).toNatClampNeg) (p9 := 308) rfl rfl (q_in (show i + 1 < X.1 by omega) (by omega)) rfl ?_
  refine wz_c1 (p9 := 311) (w1 := WW A2 R2 o) (u := .int v) (wa_v (N := 106) (i := 26) (As := [.int (X.2 ((nI (i + 1))).toNatClampNeg)]) (rest := [.int v]) rfl rfl rfl rfl rfl rfl rfl) rfl (hm.up (by decide)) ?_
  refine wz_iceq (t9 := 1189) (p9 := 314) rfl rfl rfl (fun _ => ?_) (fun h9 => absurd rfl h9)
  exact kk A2 R2 o _ _ _ _ hre (Nat.le_add_right _ _) (Nat.le_add_right _ _)
theorem cs_read {X : Nat × (Nat → Int32)} {A : CA} {R : RA} {o : Nat → Int64} (H : RE A R) {i k z : Nat} (hL : X.1 ≤ 2050) (hi : i + 4 ≤ X.1) {Q : px_Z → Prop} (kk : ∀ (A2 : CA) (R2 : RA) (o2 : Nat → Int64) (v5 v6 : Value) (k2 z2 : Nat), RE A2 R2 → k2 ≤ k + 1 → z2 ≤ z + 6 → wp X 11 173 (1189, [.retAddr 1, .ref 0, .ref 26, .ref 46, .int (nI i), v5, v6], [], WW A2 R2 o2, k2, z2) Q) : ∀ v5 v6, wp X 11 173 (316, [.retAddr 1, .ref 0, .ref 26, .ref 46, .int (nI i), v5, v6], [], WW A R o, k, z) Q := by
  intro v5 v6
  obtain ⟨v, A2, R2, hc, hm, hre⟩ := j_read (X := X) (d := 0) (A := A) (R := R) (o := o) H 
  refine wz_aload_n (p9 := 317) rfl rfl rfl ?_
  refine wz_c1 (p9 := 320) (w1 := WW A2 R o) (u := .int v) (wa_v (N := 75) (i := 0) (As := []) (rest := []) rfl rfl rfl rfl rfl rfl rfl) rfl (hc.up (by decide)) ?_
  refine wz_aload_n (p9 := 321) rfl rfl rfl ?_
  refine wz_c1 (p9 := 324) (w1 := WW A2 R2 o) (u := .int v) (wa_v (N := 107) (i := 26) (As := []) (rest := [.int v]) rfl rfl rfl rfl rfl rfl rfl) rfl (hm.up (by decide)) ?_
  refine wz_iceq (t9 := 1189) (p9 := 327) rfl rfl rfl (fun _ => ?_) (fun h9 => absurd rfl h9)
  exact kk A2 R2 o _ _ _ _ hre (Nat.le_add_right _ _) (Nat.le_add_right _ _)
theorem cs_stage {X : Nat × (Nat → Int32)} {A : CA} {R : RA} {o : Nat → Int64} (H : RE A R) {i k z : Nat} (hL : X.1 ≤ 2050) (hi : i + 4 ≤ X.1) {Q : px_Z → Prop} (kk : ∀ (A2 : CA) (R2 : RA) (o2 : Nat → Int64) (v5 v6 : Value) (k2 z2 : Nat), RE A2 R2 → k2 ≤ k + 1 → z2 ≤ z + 6 → wp X 11 173 (1189, [.retAddr 1, .ref 0, .ref 26, .ref 46, .int (nI i), v5, v6], [], WW A2 R2 o2, k2, z2) Q) : ∀ v5 v6, wp X 11 173 (688, [.retAddr 1, .ref 0, .ref 26, .ref 46, .int (nI i), v5, v6], [], WW A R o, k, z) Q := by
  intro v5 v6
  obtain ⟨A2, R2, v, hc, hm, hre⟩ := j_stage (X := X) (d := 0) (A := A) (R := R) (o := o) H 
  refine wz_aload_n (p9 := 689) rfl rfl rfl ?_
  refine wz_c1 (p9 := 692) (w1 := WW A2 R o) (u := .int v) (wa_v (N := 76) (i := 0) (As := []) (rest := []) rfl rfl rfl rfl rfl rfl rfl) rfl (hc.up (by decide)) ?_
  refine wz_aload_n (p9 := 693) rfl rfl rfl ?_
  refine wz_c1 (p9 := 696) (w1 := WW A2 R2 o) (u := .int v) (wa_v (N := 128) (i := 26) (As := []) (rest := [.int v]) rfl rfl rfl rfl rfl rfl rfl) rfl (hm.up (by decide)) ?_
  refine wz_iceq (t9 := 1189) (p9 := 699) rfl rfl rfl (fun _ => ?_) (fun h9 => absurd rfl h9)
  exact kk A2 R2 o _ _ _ _ hre (Nat.le_add_right _ _) (Nat.le_add_right _ _)
theorem cs_did {X : Nat × (Nat → Int32)} {A : CA} {R : RA} {o : Nat → Int64} (H : RE A R) {i k z : Nat} (hL : X.1 ≤ 2050) (hi : i + 4 ≤ X.1) {Q : px_Z → Prop} (kk : ∀ (A2 : CA) (R2 : RA) (o2 : Nat → Int64) (v5 v6 : Value) (k2 z2 : Nat), RE A2 R2 → k2 ≤ k + 1 → z2 ≤ z + 6 → wp X 11 173 (1189, [.retAddr 1, .ref 0, .ref 26, .ref 46, .int (nI i), v5, v6], [], WW A2 R2 o2, k2, z2) Q) : ∀ v5 v6, wp X 11 173 (935, [.retAddr 1, .ref 0, .ref 26, .ref 46, .int (nI i), v5, v6], [], WW A R o, k, z) Q := by
  intro v5 v6
  obtain ⟨A2, R2, v, hc, hm, hre⟩ := j_did (X := X) (d := 0) (A := A) (R := R) (o := o) H (x := (X.2 ((nI (i + 1))).toNatClampNeg))
  refine wz_aload_n (p9 := 936) rfl rfl rfl ?_
  refine wz_aload_nS (p9 := 937) rfl rfl rfl ?_
  refine wz_iload (p9 := 939) rfl rfl rfl ?_
  refine wz_iconst (x := nI 1) (p9 := 940) rfl rfl (by decide) ?_
  refine wn_add (p9 := 941) rfl rfl ?_
  refine wz_sald (v := X.2 ((nI (i + 1))).toNatClampNeg) (p9 := 942) rfl rfl (q_in (show i + 1 < X.1 by omega) (by omega)) rfl ?_
  refine wz_c1 (p9 := 945) (w1 := WW A2 R o) (u := .int v) (wa_v (N := 77) (i := 0) (As := [.int (X.2 ((nI (i + 1))).toNatClampNeg)]) (rest := []) rfl rfl rfl rfl rfl rfl rfl) rfl (hc.up (by decide)) ?_
  refine wz_aload_n (p9 := 946) rfl rfl rfl ?_
  refine wz_aload_nS (p9 := 947) rfl rfl rfl ?_
  refine wz_iload (p9 := 949) rfl rfl rfl ?_
  refine wz_iconst (x := nI 1) (p9 := 950) rfl rfl (by decide) ?_
  refine wn_add (p9 := 951) rfl rfl ?_
  refine wz_sald (v := X.2 ((nI (i + 1))).toNatClampNeg) (p9 := 952) rfl rfl (q_in (show i + 1 < X.1 by omega) (by omega)) rfl ?_
  refine wz_c1 (p9 := 955) (w1 := WW A2 R2 o) (u := .int v) (wa_v (N := 136) (i := 26) (As := [.int (X.2 ((nI (i + 1))).toNatClampNeg)]) (rest := [.int v]) rfl rfl rfl rfl rfl rfl rfl) rfl (hm.up (by decide)) ?_
  refine wz_iceq (t9 := 1189) (p9 := 958) rfl rfl rfl (fun _ => ?_) (fun h9 => absurd rfl h9)
  exact kk A2 R2 o _ _ _ _ hre (Nat.le_add_right _ _) (Nat.le_add_right _ _)
theorem cs_setUp {X : Nat × (Nat → Int32)} {A : CA} {R : RA} {o : Nat → Int64} (H : RE A R) {i k z : Nat} (hL : X.1 ≤ 2050) (hi : i + 4 ≤ X.1) {Q : px_Z → Prop} (kk : ∀ (A2 : CA) (R2 : RA) (o2 : Nat → Int64) (v5 v6 : Value) (k2 z2 : Nat), RE A2 R2 → k2 ≤ k + 1 → z2 ≤ z + 6 → wp X 11 173 (1189, [.retAddr 1, .ref 0, .ref 26, .ref 46, .int (nI i), v5, v6], [], WW A2 R2 o2, k2, z2) Q) : ∀ v5 v6, wp X 11 173 (1072, [.retAddr 1, .ref 0, .ref 26, .ref 46, .int (nI i), v5, v6], [], WW A R o, k, z) Q := by
  intro v5 v6
  obtain ⟨A2, R2, v, hc, hm, hre⟩ := j_setUp (X := X) (d := 0) (A := A) (R := R) (o := o) H (x := (X.2 ((nI (i + 1))).toNatClampNeg)) (y := (X.2 ((nI (i + 2))).toNatClampNeg)) (w := (X.2 ((nI (i + 3))).toNatClampNeg))
  refine wz_aload_n (p9 := 1073) rfl rfl rfl ?_
  refine wz_aload_nS (p9 := 1074) rfl rfl rfl ?_
  refine wz_iload (p9 := 1076) rfl rfl rfl ?_
  refine wz_iconst (x := nI 1) (p9 := 1077) rfl rfl (by decide) ?_
  refine wn_add (p9 := 1078) rfl rfl ?_
  refine wz_sald (v := X.2 ((nI (i + 1))).toNatClampNeg) (p9 := 1079) rfl rfl (q_in (show i + 1 < X.1 by omega) (by omega)) rfl ?_
  refine wz_aload_nS (p9 := 1080) rfl rfl rfl ?_
  refine wz_iload (p9 := 1082) rfl rfl rfl ?_
  refine wz_iconst (x := nI 2) (p9 := 1083) rfl rfl (by decide) ?_
  refine wn_add (p9 := 1084) rfl rfl ?_
  refine wz_sald (v := X.2 ((nI (i + 2))).toNatClampNeg) (p9 := 1085) rfl rfl (q_in (show i + 2 < X.1 by omega) (by omega)) rfl ?_
  refine wz_aload_nS (p9 := 1086) rfl rfl rfl ?_
  refine wz_iload (p9 := 1088) rfl rfl rfl ?_
  refine wz_iconst (x := nI 3) (p9 := 1089) rfl rfl (by decide) ?_
  refine wn_add (p9 := 1090) rfl rfl ?_
  refine wz_sald (v := X.2 ((nI (i + 3))).toNatClampNeg) (p9 := 1091) rfl rfl (q_in (show i + 3 < X.1 by omega) (by omega)) rfl ?_
  refine wz_c1 (p9 := 1094) (w1 := WW A2 R o) (u := .int v) (wa_v (N := 78) (i := 0) (As := [.int (X.2 ((nI (i + 1))).toNatClampNeg), .int (X.2 ((nI (i + 2))).toNatClampNeg), .int (X.2 ((nI (i + 3))).toNatClampNeg)]) (rest := []) rfl rfl rfl rfl rfl rfl rfl) rfl (hc.up (by decide)) ?_
  refine wz_aload_n (p9 := 1095) rfl rfl rfl ?_
  refine wz_aload_nS (p9 := 1096) rfl rfl rfl ?_
  refine wz_iload (p9 := 1098) rfl rfl rfl ?_
  refine wz_iconst (x := nI 1) (p9 := 1099) rfl rfl (by decide) ?_
  refine wn_add (p9 := 1100) rfl rfl ?_
  refine wz_sald (v := X.2 ((nI (i + 1))).toNatClampNeg) (p9 := 1101) rfl rfl (q_in (show i + 1 < X.1 by omega) (by omega)) rfl ?_
  refine wz_aload_nS (p9 := 1102) rfl rfl rfl ?_
  refine wz_iload (p9 := 1104) rfl rfl rfl ?_
  refine wz_iconst (x := nI 2) (p9 := 1105) rfl rfl (by decide) ?_
  refine wn_add (p9 := 1106) rfl rfl ?_
  refine wz_sald (v := X.2 ((nI (i + 2))).toNatClampNeg) (p9 := 1107) rfl rfl (q_in (show i + 2 < X.1 by omega) (by omega)) rfl ?_
  refine wz_aload_nS (p9 := 1108) rfl rfl rfl ?_
  refine wz_iload (p9 := 1110) rfl rfl rfl ?_
  refine wz_iconst (x := nI 3) (p9 := 1111) rfl rfl (by decide) ?_
  refine wn_add (p9 := 1112) rfl rfl ?_
  refine wz_sald (v := X.2 ((nI (i + 3))).toNatClampNeg) (p9 := 1113) rfl rfl (q_in (show i + 3 < X.1 by omega) (by omega)) rfl ?_
  refine wz_c1 (p9 := 1116) (w1 := WW A2 R2 o) (u := .int v) (wa_v (N := 144) (i := 26) (As := [.int (X.2 ((nI (i + 1))).toNatClampNeg), .int (X.2 ((nI (i + 2))).toNatClampNeg), .int (X.2 ((nI (i + 3))).toNatClampNeg)]) (rest := [.int v]) rfl rfl rfl rfl rfl rfl rfl) rfl (hm.up (by decide)) ?_
  refine wz_iceq (t9 := 1189) (p9 := 1119) rfl rfl rfl (fun _ => ?_) (fun h9 => absurd rfl h9)
  exact kk A2 R2 o _ _ _ _ hre (Nat.le_add_right _ _) (Nat.le_add_right _ _)
