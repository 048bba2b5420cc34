/-! CLASS AND REFERENCE SIDE BY SIDE: calls that may throw (wip/whole/gen/mkb6.py) -/
theorem g_cx80 {X : Nat × (Nat → Int32)} {d : Nat} {A : CA} {R : RA} {o : Nat → Int64} {x : Int32} (h : x < 0 ∨ nI A.Mv ≤ x) : px_ev X (d + 7) 80 [.ref 0, .int x] (WW A R o) (none, WW A R o, 1, 6) := px_ev.tb (by omega) ⟨_, _, _, _, _, _, _, _, _, rfl, rfl, rfl, rfl, rfl, rfl, h⟩
theorem g_ck80 {X : Nat × (Nat → Int32)} {d : Nat} {A : CA} {R : RA} {o : Nat → Int64} {m : Nat} (hm : m < A.Mv) (hM : A.Mv < 100) : px_ev X (d + 2) 80 [.ref 0, .int (nI m)] (WW A R o) (some none, WW A R o, 0, 0) := by
  refine wp_ev (d := d + 1) (by decide) rfl rfl (fun h => by cases h) ?_
  show wp X (d + 1) 80 (0, [.ref 0, .int (nI m)], [], WW A R o, 0, 0) _
  refine wz_aload_n (p9 := 1) rfl rfl rfl ?_
  refine wz_get (v := .ref 1) (p9 := 4) rfl rfl rfl rfl rfl ?_
  refine wz_iload_n (p9 := 5) rfl rfl rfl ?_
  refine wz_c1 (p9 := 8) (w1 := WW A R o) (u := .int (nI 1)) (wa_v (N := 4) (i := 1) (As := [.int (nI m)]) (rest := []) rfl rfl rfl rfl rfl rfl rfl) rfl ((g_hasMove1 (d := 0) hm hM).up (by omega)) ?_
  refine wn_ifne (t9 := 21) (p9 := 11) rfl rfl rfl (by omega) (fun _ => ?_) (fun h9 => by omega)
  exact wz_retv rfl rfl rfl
theorem g_cx81 {X : Nat × (Nat → Int32)} {d : Nat} {A : CA} {R : RA} {o : Nat → Int64} {x : Int32} (h : x < 0 ∨ nI A.P ≤ x) : px_ev X (d + 7) 81 [.ref 0, .int x] (WW A R o) (none, WW A R o, 1, 6) := px_ev.tb (by omega) ⟨_, _, _, _, _, _, _, _, _, rfl, rfl, rfl, rfl, rfl, rfl, h⟩
theorem g_ck81 {X : Nat × (Nat → Int32)} {d : Nat} {A : CA} {R : RA} {o : Nat → Int64} {m : Nat} (hm : m < A.P) (hM : A.P < 100) : px_ev X (d + 2) 81 [.ref 0, .int (nI m)] (WW A R o) (some none, WW A R o, 0, 0) := by
  refine wp_ev (d := d + 1) (by decide) rfl rfl (fun h => by cases h) ?_
  show wp X (d + 1) 81 (0, [.ref 0, .int (nI m)], [], WW A R o, 0, 0) _
  refine wz_aload_n (p9 := 1) rfl rfl rfl ?_
  refine wz_get (v := .ref 1) (p9 := 4) rfl rfl rfl rfl rfl ?_
  refine wz_iload_n (p9 := 5) rfl rfl rfl ?_
  refine wz_c1 (p9 := 8) (w1 := WW A R o) (u := .int (nI 1)) (wa_v (N := 6) (i := 1) (As := [.int (nI m)]) (rest := []) rfl rfl rfl rfl rfl rfl rfl) rfl ((g_hasPlace1 (d := 0) hm hM).up (by omega)) ?_
  refine wn_ifne (t9 := 21) (p9 := 11) rfl rfl rfl (by omega) (fun _ => ?_) (fun h9 => by omega)
  exact wz_retv rfl rfl rfl
theorem g_cx84 {X : Nat × (Nat → Int32)} {d : Nat} {A : CA} {R : RA} {o : Nat → Int64} {x : Int32} (h : x < 0 ∨ nI A.wc ≤ x) : px_ev X (d + 7) 84 [.ref 0, .int x] (WW A R o) (none, WW A R o, 1, 6) := px_ev.tb (by omega) ⟨_, _, _, _, _, _, _, _, _, rfl, rfl, rfl, rfl, rfl, rfl, h⟩
theorem g_ck84 {X : Nat × (Nat → Int32)} {d : Nat} {A : CA} {R : RA} {o : Nat → Int64} {m : Nat} (hm : m < A.wc) (hM : A.wc < 100) : px_ev X (d + 2) 84 [.ref 0, .int (nI m)] (WW A R o) (some none, WW A R o, 0, 0) := by
  refine wp_ev (d := d + 1) (by decide) rfl rfl (fun h => by cases h) ?_
  show wp X (d + 1) 84 (0, [.ref 0, .int (nI m)], [], WW A R o, 0, 0) _
  refine wz_aload_n (p9 := 1) rfl rfl rfl ?_
  refine wz_get (v := .ref 10) (p9 := 4) rfl rfl rfl rfl rfl ?_
  refine wz_iload_n (p9 := 5) rfl rfl rfl ?_
  refine wz_c1 (p9 := 8) (w1 := WW A R o) (u := .int (nI 1)) (wa_v (N := 37) (i := 10) (As := [.int (nI m)]) (rest := []) rfl rfl rfl rfl rfl rfl rfl) rfl ((g_hasW1 (d := 0) hm hM).up (by omega)) ?_
  refine wn_ifne (t9 := 21) (p9 := 11) rfl rfl rfl (by omega) (fun _ => ?_) (fun h9 => by omega)
  exact wz_retv rfl rfl rfl
theorem g_cx91 {X : Nat × (Nat → Int32)} {d : Nat} {A : CA} {R : RA} {o : Nat → Int64} {x : Int32} (h : x < 0 ∨ nI A.sc ≤ x) : px_ev X (d + 7) 91 [.ref 0, .int x] (WW A R o) (none, WW A R o, 1, 6) := px_ev.tb (by omega) ⟨_, _, _, _, _, _, _, _, _, rfl, rfl, rfl, rfl, rfl, rfl, h⟩
theorem g_ck91 {X : Nat × (Nat → Int32)} {d : Nat} {A : CA} {R : RA} {o : Nat → Int64} {m : Nat} (hm : m < A.sc) (hM : A.sc < 100) : px_ev X (d + 2) 91 [.ref 0, .int (nI m)] (WW A R o) (some none, WW A R o, 0, 0) := by
  refine wp_ev (d := d + 1) (by decide) rfl rfl (fun h => by cases h) ?_
  show wp X (d + 1) 91 (0, [.ref 0, .int (nI m)], [], WW A R o, 0, 0) _
  refine wz_aload_n (p9 := 1) rfl rfl rfl ?_
  refine wz_get (v := .ref 14) (p9 := 4) rfl rfl rfl rfl rfl ?_
  refine wz_iload_n (p9 := 5) rfl rfl rfl ?_
  refine wz_c1 (p9 := 8) (w1 := WW A R o) (u := .int (nI 1)) (wa_v (N := 49) (i := 14) (As := [.int (nI m)]) (rest := []) rfl rfl rfl rfl rfl rfl rfl) rfl ((g_hasS1 (d := 0) hm hM).up (by omega)) ?_
  refine wn_ifne (t9 := 21) (p9 := 11) rfl rfl rfl (by omega) (fun _ => ?_) (fun h9 => by omega)
  exact wz_retv rfl rfl rfl
theorem ix1 (x : Int32) (n : Nat) (hn : n < 1000) : (x < 0 ∨ nI n ≤ x) ∨ ∃ m : Nat, m < n ∧ x = nI m := by
  rcases pk_ix x (n := n) (by omega) with h | h | h
  · exact Or.inl (Or.inl h)
  · exact Or.inl (Or.inr h)
  · exact Or.inr h
theorem inb_bad {x : Int32} {n : Nat} (h : x < 0 ∨ nI n ≤ x) : inb x n = 0 := by
  unfold inb
  rcases h with h | h
  · exact if_neg (fun q => q.1 h)
  · exact if_neg (fun q => Int32.not_le.mpr q.2 h)
/-- a call that may throw, of class and reference: both throw, or both answer the same -/
def JT (X : Nat × (Nat → Int32)) (d N : Nat) (ca : List Value) (M : Nat) (ma : List Value) (A : CA) (R : RA) (o : Nat → Int64) : Prop :=
  (px_ev X (d + 10) N ca (WW A R o) (none, WW A R o, 1, 6) ∧ ∀ o2, ∃ (R2 : RA) (b : Int32), px_ev X (d + 10) M ma (WW A R o2) (some (some (.int b)), WW A R2 o2, 0, 0) ∧ R2.th = 1 ∧ RE A R2) ∨
  (∃ (A2 : CA) (v : Int32), px_ev X (d + 10) N ca (WW A R o) (some (some (.int v)), WW A2 R o, 0, 0) ∧ ∀ o2, ∃ R2 : RA, px_ev X (d + 10) M ma (WW A2 R o2) (some (some (.int v)), WW A2 R2 o2, 0, 0) ∧ R2.th = 0 ∧ RE A2 R2)
/-- a call that doesn't throw -/
def JN (X : Nat × (Nat → Int32)) (d N : Nat) (ca : List Value) (M : Nat) (ma : List Value) (A : CA) (R : RA) (o : Nat → Int64) : Prop :=
  ∃ (A2 : CA) (R2 : RA) (v : Int32), px_ev X (d + 10) N ca (WW A R o) (some (some (.int v)), WW A2 R o, 0, 0) ∧ px_ev X (d + 10) M ma (WW A2 R o) (some (some (.int v)), WW A2 R2 o, 0, 0) ∧ RE A2 R2
theorem j_order {X : Nat × (Nat → Int32)} {d : Nat} {A : CA} {R : RA} {o : Nat → Int64} (H : RE A R) {x : Int32} : JT X d 82 [.ref 0, .int x] 102 [.ref 26, .int x] A R o := by
  have p7 := H.T.p7
  have m6 := H.T.m6
  have hwc := H.V.wc
  have hsc := H.S.sc
  rcases ix1 x A.Mv (by have := H.T.m6; omega) with hx | ⟨x9, hx, rfl⟩
  · refine Or.inl ⟨?_, fun o2 => ⟨_, _, (g_mOrdX (d := 0) (A := A) (R := R) (o := o2) (by rw [H.m]; exact hx)).up (Nat.le_trans (m := 10) (by decide) (Nat.le_add_left 10 d)), rfl, ⟨H.T, H.p, H.m, H.t, H.V, H.wi, H.wc, H.ln, H.rr, H.S, H.sP, H.uw, H.sc, H.go, H.us, H.ud, H.bc, H.tx, H.sz, H.te, H.kd, H.pl, H.fl, H.sl, H.se, H.fc, H.st, H.nw, H.dc, H.tl, H.dn⟩⟩⟩
    refine wp_ev (d := d + 9) (by decide) rfl rfl (fun _ => by decide) ?_
    show wp X (d + 9) 82 (0, [.ref 0, .int x], [], WW A R o, 0, 0) _
    refine wz_aload_n (p9 := 1) rfl rfl rfl ?_
    refine wz_iload_n (p9 := 2) rfl rfl rfl ?_
    exact wz_cx (wa_v (N := 80) (i := 0) (As := [.int x]) (rest := []) rfl rfl rfl rfl rfl rfl rfl) (by decide) ((g_cx80 (d := 0) hx).up (Nat.le_trans (m := 9) (by decide) (Nat.le_add_left 9 d))) rfl rfl
  refine Or.inr ⟨A, nI (A.od x9), ?_, fun o2 => ⟨_, (g_mOrd1 (d := 0) (A := A) (R := R) (o := o2) H.TR (show x9 < R.Mv by rw [H.m]; exact hx)).up (Nat.le_trans (m := 10) (by decide) (Nat.le_add_left 10 d)), rfl, ⟨H.T, H.p, H.m, H.t, H.V, H.wi, H.wc, H.ln, H.rr, H.S, H.sP, H.uw, H.sc, H.go, H.us, H.ud, H.bc, H.tx, H.sz, H.te, H.kd, H.pl, H.fl, H.sl, H.se, H.fc, H.st, H.nw, H.dc, H.tl, H.dn⟩⟩⟩
  refine wp_ev (d := d + 9) (by decide) rfl rfl (fun h => by cases h) ?_
  show wp X (d + 9) 82 (0, [.ref 0, .int (nI x9)], [], WW A R o, 0, 0) _
  refine wz_aload_n (p9 := 1) rfl rfl rfl ?_
  refine wz_iload_n (p9 := 2) rfl rfl rfl ?_
  refine wz_c0 (p9 := 5) (w1 := WW A R o) (wa_v (N := 80) (i := 0) (As := [.int (nI x9)]) (rest := []) rfl rfl rfl rfl rfl rfl rfl) rfl ((g_ck80 (d := 0) (by omega) (by omega)).up (Nat.le_trans (m := 9) (by decide) (Nat.le_add_left 9 d))) ?_
  refine wz_aload_n (p9 := 6) rfl rfl rfl ?_
  refine wz_get (v := .ref 1) (p9 := 9) rfl rfl rfl rfl rfl ?_
  refine wz_iload_n (p9 := 10) rfl rfl rfl ?_
  refine wz_c1 (p9 := 13) (w1 := WW A R o) (u := .int (nI (A.od x9))) (wa_v (N := 2) (i := 1) (As := [.int (nI x9)]) (rest := []) rfl rfl rfl rfl rfl rfl rfl) rfl ((g_orderOf (d := 0) H.T (by omega)).up (by omega)) ?_
  exact wz_reti rfl rfl rfl
theorem j_length {X : Nat × (Nat → Int32)} {d : Nat} {A : CA} {R : RA} {o : Nat → Int64} (H : RE A R) {x : Int32} : JT X d 83 [.ref 0, .int x] 116 [.ref 26, .int x] A R o := by
  have p7 := H.T.p7
  have m6 := H.T.m6
  have hwc := H.V.wc
  have hsc := H.S.sc
  rcases ix1 x A.wc (by have := H.V.wc; omega) with hx | ⟨x9, hx, rfl⟩
  · refine Or.inl ⟨?_, fun o2 => ⟨_, _, (g_mLenX (d := 0) (A := A) (R := R) (o := o2) (by rw [H.wc]; exact inb_bad hx)).up (Nat.le_trans (m := 10) (by decide) (Nat.le_add_left 10 d)), rfl, ⟨H.T, H.p, H.m, H.t, H.V, H.wi, H.wc, H.ln, H.rr, H.S, H.sP, H.uw, H.sc, H.go, H.us, H.ud, H.bc, H.tx, H.sz, H.te, H.kd, H.pl, H.fl, H.sl, H.se, H.fc, H.st, H.nw, H.dc, H.tl, H.dn⟩⟩⟩
    refine wp_ev (d := d + 9) (by decide) rfl rfl (fun _ => by decide) ?_
    show wp X (d + 9) 83 (0, [.ref 0, .int x], [], WW A R o, 0, 0) _
    refine wz_aload_n (p9 := 1) rfl rfl rfl ?_
    refine wz_iload_n (p9 := 2) rfl rfl rfl ?_
    exact wz_cx (wa_v (N := 84) (i := 0) (As := [.int x]) (rest := []) rfl rfl rfl rfl rfl rfl rfl) (by decide) ((g_cx84 (d := 0) hx).up (Nat.le_trans (m := 9) (by decide) (Nat.le_add_left 9 d))) rfl rfl
  refine Or.inr ⟨A, nI (A.rl x9), ?_, fun o2 => ⟨RA.s_th R 0, (by have h := g_mLen1 (X := X) (d := 0) (A := A) (R := R) (o := o2) H.VR (show x9 < R.wc by rw [H.wc]; exact hx); rw [H.ln] at h; exact h.up (Nat.le_trans (m := 10) (by decide) (Nat.le_add_left 10 d))), rfl, ⟨H.T, H.p, H.m, H.t, H.V, H.wi, H.wc, H.ln, H.rr, H.S, H.sP, H.uw, H.sc, H.go, H.us, H.ud, H.bc, H.tx, H.sz, H.te, H.kd, H.pl, H.fl, H.sl, H.se, H.fc, H.st, H.nw, H.dc, H.tl, H.dn⟩⟩⟩
  refine wp_ev (d := d + 9) (by decide) rfl rfl (fun h => by cases h) ?_
  show wp X (d + 9) 83 (0, [.ref 0, .int (nI x9)], [], WW A R o, 0, 0) _
  refine wz_aload_n (p9 := 1) rfl rfl rfl ?_
  refine wz_iload_n (p9 := 2) rfl rfl rfl ?_
  refine wz_c0 (p9 := 5) (w1 := WW A R o) (wa_v (N := 84) (i := 0) (As := [.int (nI x9)]) (rest := []) rfl rfl rfl rfl rfl rfl rfl) rfl ((g_ck84 (d := 0) (by omega) (by omega)).up (Nat.le_trans (m := 9) (by decide) (Nat.le_add_left 9 d))) ?_
  refine wz_aload_n (p9 := 6) rfl rfl rfl ?_
  refine wz_get (v := .ref 10) (p9 := 9) rfl rfl rfl rfl rfl ?_
  refine wz_iload_n (p9 := 10) rfl rfl rfl ?_
  refine wz_c1 (p9 := 13) (w1 := WW A R o) (u := .int (nI (A.rl x9))) (wa_v (N := 38) (i := 10) (As := [.int (nI x9)]) (rest := []) rfl rfl rfl rfl rfl rfl rfl) rfl ((g_rowCountOf (d := 0) (by omega)).up (by omega)) ?_
  exact wz_reti rfl rfl rfl
theorem j_row {X : Nat × (Nat → Int32)} {d : Nat} {A : CA} {R : RA} {o : Nat → Int64} (H : RE A R) {x : Int32} {y : Int32} : JT X d 85 [.ref 0, .int x, .int y] 118 [.ref 26, .int x, .int y] A R o := by
  have p7 := H.T.p7
  have m6 := H.T.m6
  have hwc := H.V.wc
  have hsc := H.S.sc
  rcases ix1 x A.wc (by have := H.V.wc; omega) with hx | ⟨x9, hx, rfl⟩
  · refine Or.inl ⟨?_, fun o2 => ⟨_, _, (g_mRowX (d := 0) (A := A) (R := R) (o := o2) (by rw [H.wc]; exact inb_bad hx)).up (Nat.le_trans (m := 10) (by decide) (Nat.le_add_left 10 d)), rfl, ⟨H.T, H.p, H.m, H.t, H.V, H.wi, H.wc, H.ln, H.rr, H.S, H.sP, H.uw, H.sc, H.go, H.us, H.ud, H.bc, H.tx, H.sz, H.te, H.kd, H.pl, H.fl, H.sl, H.se, H.fc, H.st, H.nw, H.dc, H.tl, H.dn⟩⟩⟩
    refine wp_ev (d := d + 9) (by decide) rfl rfl (fun _ => by decide) ?_
    show wp X (d + 9) 85 (0, [.ref 0, .int x, .int y], [], WW A R o, 0, 0) _
    refine wz_aload_n (p9 := 1) rfl rfl rfl ?_
    refine wz_iload_n (p9 := 2) rfl rfl rfl ?_
    exact wz_cx (wa_v (N := 84) (i := 0) (As := [.int x]) (rest := []) rfl rfl rfl rfl rfl rfl rfl) (by decide) ((g_cx84 (d := 0) hx).up (Nat.le_trans (m := 9) (by decide) (Nat.le_add_left 9 d))) rfl rfl
  by_cases hy : y < 0
  · refine Or.inr ⟨A, -1, ?_, fun o2 => ⟨_, (g_mRowN (d := 0) (A := A) (R := R) (o := o2) H.VR (show x9 < R.wc by rw [H.wc]; exact hx) hy).up (Nat.le_trans (m := 10) (by decide) (Nat.le_add_left 10 d)), rfl, ⟨H.T, H.p, H.m, H.t, H.V, H.wi, H.wc, H.ln, H.rr, H.S, H.sP, H.uw, H.sc, H.go, H.us, H.ud, H.bc, H.tx, H.sz, H.te, H.kd, H.pl, H.fl, H.sl, H.se, H.fc, H.st, H.nw, H.dc, H.tl, H.dn⟩⟩⟩
    refine wp_ev (d := d + 9) (by decide) rfl rfl (fun h => by cases h) ?_
    show wp X (d + 9) 85 (0, [.ref 0, .int (nI x9), .int y], [], WW A R o, 0, 0) _
    refine wz_aload_n (p9 := 1) rfl rfl rfl ?_
    refine wz_iload_n (p9 := 2) rfl rfl rfl ?_
    refine wz_c0 (p9 := 5) (w1 := WW A R o) (wa_v (N := 84) (i := 0) (As := [.int (nI x9)]) (rest := []) rfl rfl rfl rfl rfl rfl rfl) rfl ((g_ck84 (d := 0) (by omega) (by omega)).up (Nat.le_trans (m := 9) (by decide) (Nat.le_add_left 9 d))) ?_
    refine wz_aload_n (p9 := 6) rfl rfl rfl ?_
    refine wz_get (v := .ref 10) (p9 := 9) rfl rfl rfl rfl rfl ?_
    refine wz_iload_n (p9 := 10) rfl rfl rfl ?_
    refine wz_iload_n (p9 := 11) rfl rfl rfl ?_
    refine wz_c1 (p9 := 14) (w1 := WW A R o) (u := .int (-1)) (wa_v (N := 39) (i := 10) (As := [.int (nI x9), .int y]) (rest := []) rfl rfl rfl rfl rfl rfl rfl) rfl ((g_rowOfN (d := 0) hy).up (by omega)) ?_
    exact wz_reti rfl rfl rfl
  · obtain ⟨y9, hy9, rfl⟩ := nI_of hy
    refine Or.inr ⟨A, (if y9 < A.rl x9 then nI (A.rr (x9 * 40 + y9)) else -1), ?_, fun o2 => ⟨RA.s_th R 0, (by have h := g_mRow1 (X := X) (d := 0) (A := A) (R := R) (o := o2) H.VR (show x9 < R.wc by rw [H.wc]; exact hx) (k := y9) (by omega); rw [H.ln, H.rr] at h; exact h.up (Nat.le_trans (m := 10) (by decide) (Nat.le_add_left 10 d))), rfl, ⟨H.T, H.p, H.m, H.t, H.V, H.wi, H.wc, H.ln, H.rr, H.S, H.sP, H.uw, H.sc, H.go, H.us, H.ud, H.bc, H.tx, H.sz, H.te, H.kd, H.pl, H.fl, H.sl, H.se, H.fc, H.st, H.nw, H.dc, H.tl, H.dn⟩⟩⟩
    refine wp_ev (d := d + 9) (by decide) rfl rfl (fun h => by cases h) ?_
    show wp X (d + 9) 85 (0, [.ref 0, .int (nI x9), .int (nI y9)], [], WW A R o, 0, 0) _
    refine wz_aload_n (p9 := 1) rfl rfl rfl ?_
    refine wz_iload_n (p9 := 2) rfl rfl rfl ?_
    refine wz_c0 (p9 := 5) (w1 := WW A R o) (wa_v (N := 84) (i := 0) (As := [.int (nI x9)]) (rest := []) rfl rfl rfl rfl rfl rfl rfl) rfl ((g_ck84 (d := 0) (by omega) (by omega)).up (Nat.le_trans (m := 9) (by decide) (Nat.le_add_left 9 d))) ?_
    refine wz_aload_n (p9 := 6) rfl rfl rfl ?_
    refine wz_get (v := .ref 10) (p9 := 9) rfl rfl rfl rfl rfl ?_
    refine wz_iload_n (p9 := 10) rfl rfl rfl ?_
    refine wz_iload_n (p9 := 11) rfl rfl rfl ?_
    refine wz_c1 (p9 := 14) (w1 := WW A R o) (u := .int (if y9 < A.rl x9 then nI (A.rr (x9 * 40 + y9)) else -1)) (wa_v (N := 39) (i := 10) (As := [.int (nI x9), .int (nI y9)]) (rest := []) rfl rfl rfl rfl rfl rfl rfl) rfl ((g_rowOf (d := 0) (by omega) (by omega) (H.V.rl x9)).up (by omega)) ?_
    exact wz_reti rfl rfl rfl
theorem j_image {X : Nat × (Nat → Int32)} {d : Nat} {A : CA} {R : RA} {o : Nat → Int64} (H : RE A R) {x : Int32} {y : Int32} : JT X d 86 [.ref 0, .int x, .int y] 119 [.ref 26, .int x, .int y] A R o := by
  have p7 := H.T.p7
  have m6 := H.T.m6
  have hwc := H.V.wc
  have hsc := H.S.sc
  rcases ix1 x A.wc (by have := H.V.wc; omega) with hx | ⟨x9, hx, rfl⟩
  · refine Or.inl ⟨?_, fun o2 => ⟨_, _, (g_mImgX (d := 0) (A := A) (R := R) (o := o2) (Or.inl (by rw [H.wc]; exact inb_bad hx))).up (Nat.le_trans (m := 10) (by decide) (Nat.le_add_left 10 d)), rfl, ⟨H.T, H.p, H.m, H.t, H.V, H.wi, H.wc, H.ln, H.rr, H.S, H.sP, H.uw, H.sc, H.go, H.us, H.ud, H.bc, H.tx, H.sz, H.te, H.kd, H.pl, H.fl, H.sl, H.se, H.fc, H.st, H.nw, H.dc, H.tl, H.dn⟩⟩⟩
    refine wp_ev (d := d + 9) (by decide) rfl rfl (fun _ => by decide) ?_
    show wp X (d + 9) 86 (0, [.ref 0, .int x, .int y], [], WW A R o, 0, 0) _
    refine wz_aload_n (p9 := 1) rfl rfl rfl ?_
    refine wz_iload_n (p9 := 2) rfl rfl rfl ?_
    exact wz_cx (wa_v (N := 84) (i := 0) (As := [.int x]) (rest := []) rfl rfl rfl rfl rfl rfl rfl) (by decide) ((g_cx84 (d := 0) hx).up (Nat.le_trans (m := 9) (by decide) (Nat.le_add_left 9 d))) rfl rfl
  rcases ix1 y A.P (by have := H.T.p7; omega) with hy | ⟨y9, hy, rfl⟩
  · refine Or.inl ⟨?_, fun o2 => ⟨_, _, (g_mImgX (d := 0) (A := A) (R := R) (o := o2) (Or.inr (by rw [H.p]; exact inb_bad hy))).up (Nat.le_trans (m := 10) (by decide) (Nat.le_add_left 10 d)), rfl, ⟨H.T, H.p, H.m, H.t, H.V, H.wi, H.wc, H.ln, H.rr, H.S, H.sP, H.uw, H.sc, H.go, H.us, H.ud, H.bc, H.tx, H.sz, H.te, H.kd, H.pl, H.fl, H.sl, H.se, H.fc, H.st, H.nw, H.dc, H.tl, H.dn⟩⟩⟩
    refine wp_ev (d := d + 9) (by decide) rfl rfl (fun _ => by decide) ?_
    show wp X (d + 9) 86 (0, [.ref 0, .int (nI x9), .int y], [], WW A R o, 0, 0) _
    refine wz_aload_n (p9 := 1) rfl rfl rfl ?_
    refine wz_iload_n (p9 := 2) rfl rfl rfl ?_
    refine wz_c0 (p9 := 5) (w1 := WW A R o) (wa_v (N := 84) (i := 0) (As := [.int (nI x9)]) (rest := []) rfl rfl rfl rfl rfl rfl rfl) rfl ((g_ck84 (d := 0) (by omega) (by omega)).up (Nat.le_trans (m := 9) (by decide) (Nat.le_add_left 9 d))) ?_
    refine wz_aload_n (p9 := 6) rfl rfl rfl ?_
    refine wz_iload_n (p9 := 7) rfl rfl rfl ?_
    exact wz_cx (wa_v (N := 81) (i := 0) (As := [.int y]) (rest := []) rfl rfl rfl rfl rfl rfl rfl) (by decide) ((g_cx81 (d := 0) hy).up (Nat.le_trans (m := 9) (by decide) (Nat.le_add_left 9 d))) rfl rfl
  refine Or.inr ⟨A, nI (A.wg (x9 * 7 + y9)), ?_, fun o2 => ⟨RA.s_th R 0, (by have h := g_mImg1 (X := X) (d := 0) (A := A) (R := R) (o := o2) H.TR H.VR (show x9 < R.wc by rw [H.wc]; exact hx) (show y9 < R.P by rw [H.p]; exact hy); rw [H.ln, H.rr, H.t, ← H.wi x9 hx y9 hy] at h; exact h.up (Nat.le_trans (m := 10) (by decide) (Nat.le_add_left 10 d))), rfl, ⟨H.T, H.p, H.m, H.t, H.V, H.wi, H.wc, H.ln, H.rr, H.S, H.sP, H.uw, H.sc, H.go, H.us, H.ud, H.bc, H.tx, H.sz, H.te, H.kd, H.pl, H.fl, H.sl, H.se, H.fc, H.st, H.nw, H.dc, H.tl, H.dn⟩⟩⟩
  refine wp_ev (d := d + 9) (by decide) rfl rfl (fun h => by cases h) ?_
  show wp X (d + 9) 86 (0, [.ref 0, .int (nI x9), .int (nI y9)], [], WW A R o, 0, 0) _
  refine wz_aload_n (p9 := 1) rfl rfl rfl ?_
  refine wz_iload_n (p9 := 2) rfl rfl rfl ?_
  refine wz_c0 (p9 := 5) (w1 := WW A R o) (wa_v (N := 84) (i := 0) (As := [.int (nI x9)]) (rest := []) rfl rfl rfl rfl rfl rfl rfl) rfl ((g_ck84 (d := 0) (by omega) (by omega)).up (Nat.le_trans (m := 9) (by decide) (Nat.le_add_left 9 d))) ?_
  refine wz_aload_n (p9 := 6) rfl rfl rfl ?_
  refine wz_iload_n (p9 := 7) rfl rfl rfl ?_
  refine wz_c0 (p9 := 10) (w1 := WW A R o) (wa_v (N := 81) (i := 0) (As := [.int (nI y9)]) (rest := []) rfl rfl rfl rfl rfl rfl rfl) rfl ((g_ck81 (d := 0) (by omega) (by omega)).up (Nat.le_trans (m := 9) (by decide) (Nat.le_add_left 9 d))) ?_
  refine wz_aload_n (p9 := 11) rfl rfl rfl ?_
  refine wz_get (v := .ref 10) (p9 := 14) rfl rfl rfl rfl rfl ?_
  refine wz_iload_n (p9 := 15) rfl rfl rfl ?_
  refine wz_iload_n (p9 := 16) rfl rfl rfl ?_
  refine wz_c1 (p9 := 19) (w1 := WW A R o) (u := .int (nI (A.wg (x9 * 7 + y9)))) (wa_v (N := 40) (i := 10) (As := [.int (nI x9), .int (nI y9)]) (rest := []) rfl rfl rfl rfl rfl rfl rfl) rfl ((g_wGoalOf (d := 0) H.V.wc (by omega) (by omega)).up (Nat.le_trans (m := 9) (by decide) (Nat.le_add_left 9 d))) ?_
  exact wz_reti rfl rfl rfl
theorem j_at {X : Nat × (Nat → Int32)} {d : Nat} {A : CA} {R : RA} {o : Nat → Int64} (H : RE A R) {x : Int32} : JT X d 89 [.ref 0, .int x] 127 [.ref 26, .int x] A R o := by
  have p7 := H.T.p7
  have m6 := H.T.m6
  have hwc := H.V.wc
  have hsc := H.S.sc
  rcases ix1 x A.P (by have := H.T.p7; omega) with hx | ⟨x9, hx, rfl⟩
  · refine Or.inl ⟨?_, fun o2 => ⟨_, _, (g_mAtX (d := 0) (A := A) (R := R) (o := o2) (by rw [H.p]; exact inb_bad hx)).up (Nat.le_trans (m := 10) (by decide) (Nat.le_add_left 10 d)), rfl, ⟨H.T, H.p, H.m, H.t, H.V, H.wi, H.wc, H.ln, H.rr, H.S, H.sP, H.uw, H.sc, H.go, H.us, H.ud, H.bc, H.tx, H.sz, H.te, H.kd, H.pl, H.fl, H.sl, H.se, H.fc, H.st, H.nw, H.dc, H.tl, H.dn⟩⟩⟩
    refine wp_ev (d := d + 9) (by decide) rfl rfl (fun _ => by decide) ?_
    show wp X (d + 9) 89 (0, [.ref 0, .int x], [], WW A R o, 0, 0) _
    refine wz_aload_n (p9 := 1) rfl rfl rfl ?_
    refine wz_iload_n (p9 := 2) rfl rfl rfl ?_
    exact wz_cx (wa_v (N := 81) (i := 0) (As := [.int x]) (rest := []) rfl rfl rfl rfl rfl rfl rfl) (by decide) ((g_cx81 (d := 0) hx).up (Nat.le_trans (m := 9) (by decide) (Nat.le_add_left 9 d))) rfl rfl
  have hst := pm_lt p7 H.st
  refine Or.inr ⟨A, nI (dg A.st x9), ?_, fun o2 => ⟨RA.s_th R 0, (by have h := g_mAt1 (X := X) (d := 0) (A := A) (R := R) (o := o2) (by rw [H.p]; exact p7) (show x9 < R.P by rw [H.p]; exact hx); rw [H.nw x9 hx] at h; exact h.up (Nat.le_trans (m := 10) (by decide) (Nat.le_add_left 10 d))), rfl, ⟨H.T, H.p, H.m, H.t, H.V, H.wi, H.wc, H.ln, H.rr, H.S, H.sP, H.uw, H.sc, H.go, H.us, H.ud, H.bc, H.tx, H.sz, H.te, H.kd, H.pl, H.fl, H.sl, H.se, H.fc, H.st, H.nw, H.dc, H.tl, H.dn⟩⟩⟩
  refine wp_ev (d := d + 9) (by decide) rfl rfl (fun h => by cases h) ?_
  show wp X (d + 9) 89 (0, [.ref 0, .int (nI x9)], [], WW A R o, 0, 0) _
  refine wz_aload_n (p9 := 1) rfl rfl rfl ?_
  refine wz_iload_n (p9 := 2) rfl rfl rfl ?_
  refine wz_c0 (p9 := 5) (w1 := WW A R o) (wa_v (N := 81) (i := 0) (As := [.int (nI x9)]) (rest := []) rfl rfl rfl rfl rfl rfl rfl) rfl ((g_ck81 (d := 0) (by omega) (by omega)).up (Nat.le_trans (m := 9) (by decide) (Nat.le_add_left 9 d))) ?_
  refine wz_aload_n (p9 := 6) rfl rfl rfl ?_
  refine wz_get (v := .int (nI A.st)) (p9 := 9) rfl rfl rfl rfl rfl ?_
  refine wz_iload_n (p9 := 10) rfl rfl rfl ?_
  refine wz_c1 (p9 := 13) (w1 := WW A R o) (u := .int (nI (dg A.st x9))) (tz_calS (N := 152) (As := [.int (nI A.st), .int (nI x9)]) (rest := []) rfl rfl rfl rfl rfl rfl) rfl ((g_pieceAt (d := 0) (by omega) (by omega)).up (Nat.le_trans (m := 9) (by decide) (Nat.le_add_left 9 d))) ?_
  exact wz_reti rfl rfl rfl
theorem j_swap {X : Nat × (Nat → Int32)} {d : Nat} {A : CA} {R : RA} {o : Nat → Int64} (H : RE A R) {x : Int32} {y : Int32} : JT X d 88 [.ref 0, .int x, .int y] 126 [.ref 26, .int x, .int y] A R o := by
  have p7 := H.T.p7
  have m6 := H.T.m6
  have hwc := H.V.wc
  have hsc := H.S.sc
  rcases ix1 x A.P (by have := H.T.p7; omega) with hx | ⟨x9, hx, rfl⟩
  · refine Or.inl ⟨?_, fun o2 => ⟨_, _, (g_mSwapX (d := 0) (A := A) (R := R) (o := o2) (Or.inl (by rw [H.p]; exact inb_bad hx))).up (Nat.le_trans (m := 10) (by decide) (Nat.le_add_left 10 d)), rfl, ⟨H.T, H.p, H.m, H.t, H.V, H.wi, H.wc, H.ln, H.rr, H.S, H.sP, H.uw, H.sc, H.go, H.us, H.ud, H.bc, H.tx, H.sz, H.te, H.kd, H.pl, H.fl, H.sl, H.se, H.fc, H.st, H.nw, H.dc, H.tl, H.dn⟩⟩⟩
    refine wp_ev (d := d + 9) (by decide) rfl rfl (fun _ => by decide) ?_
    show wp X (d + 9) 88 (0, [.ref 0, .int x, .int y], [], WW A R o, 0, 0) _
    refine wz_aload_n (p9 := 1) rfl rfl rfl ?_
    refine wz_iload_n (p9 := 2) rfl rfl rfl ?_
    exact wz_cx (wa_v (N := 81) (i := 0) (As := [.int x]) (rest := []) rfl rfl rfl rfl rfl rfl rfl) (by decide) ((g_cx81 (d := 0) hx).up (Nat.le_trans (m := 9) (by decide) (Nat.le_add_left 9 d))) rfl rfl
  rcases ix1 y A.P (by have := H.T.p7; omega) with hy | ⟨y9, hy, rfl⟩
  · refine Or.inl ⟨?_, fun o2 => ⟨_, _, (g_mSwapX (d := 0) (A := A) (R := R) (o := o2) (Or.inr (by rw [H.p]; exact inb_bad hy))).up (Nat.le_trans (m := 10) (by decide) (Nat.le_add_left 10 d)), rfl, ⟨H.T, H.p, H.m, H.t, H.V, H.wi, H.wc, H.ln, H.rr, H.S, H.sP, H.uw, H.sc, H.go, H.us, H.ud, H.bc, H.tx, H.sz, H.te, H.kd, H.pl, H.fl, H.sl, H.se, H.fc, H.st, H.nw, H.dc, H.tl, H.dn⟩⟩⟩
    refine wp_ev (d := d + 9) (by decide) rfl rfl (fun _ => by decide) ?_
    show wp X (d + 9) 88 (0, [.ref 0, .int (nI x9), .int y], [], WW A R o, 0, 0) _
    refine wz_aload_n (p9 := 1) rfl rfl rfl ?_
    refine wz_iload_n (p9 := 2) rfl rfl rfl ?_
    refine wz_c0 (p9 := 5) (w1 := WW A R o) (wa_v (N := 81) (i := 0) (As := [.int (nI x9)]) (rest := []) rfl rfl rfl rfl rfl rfl rfl) rfl ((g_ck81 (d := 0) (by omega) (by omega)).up (Nat.le_trans (m := 9) (by decide) (Nat.le_add_left 9 d))) ?_
    refine wz_aload_n (p9 := 6) rfl rfl rfl ?_
    refine wz_iload_n (p9 := 7) rfl rfl rfl ?_
    exact wz_cx (wa_v (N := 81) (i := 0) (As := [.int y]) (rest := []) rfl rfl rfl rfl rfl rfl rfl) (by decide) ((g_cx81 (d := 0) hy).up (Nat.le_trans (m := 9) (by decide) (Nat.le_add_left 9 d))) rfl rfl
  have hst := pm_lt p7 H.st
  by_cases he : x9 = y9
  · refine Or.inr ⟨A, nI 0, ?_, fun o2 => ⟨_, (g_mSwapE (d := 0) (A := A) (R := R) (o := o2) (by rw [H.p]; exact p7) (show x9 < R.P by rw [H.p]; exact hx) (show y9 < R.P by rw [H.p]; exact hy) he).up (Nat.le_trans (m := 10) (by decide) (Nat.le_add_left 10 d)), rfl, ⟨H.T, H.p, H.m, H.t, H.V, H.wi, H.wc, H.ln, H.rr, H.S, H.sP, H.uw, H.sc, H.go, H.us, H.ud, H.bc, H.tx, H.sz, H.te, H.kd, H.pl, H.fl, H.sl, H.se, H.fc, H.st, H.nw, H.dc, H.tl, H.dn⟩⟩⟩
    refine wp_ev (d := d + 9) (by decide) rfl rfl (fun h => by cases h) ?_
    show wp X (d + 9) 88 (0, [.ref 0, .int (nI x9), .int (nI y9)], [], WW A R o, 0, 0) _
    refine wz_aload_n (p9 := 1) rfl rfl rfl ?_
    refine wz_iload_n (p9 := 2) rfl rfl rfl ?_
    refine wz_c0 (p9 := 5) (w1 := WW A R o) (wa_v (N := 81) (i := 0) (As := [.int (nI x9)]) (rest := []) rfl rfl rfl rfl rfl rfl rfl) rfl ((g_ck81 (d := 0) (by omega) (by omega)).up (Nat.le_trans (m := 9) (by decide) (Nat.le_add_left 9 d))) ?_
    refine wz_aload_n (p9 := 6) rfl rfl rfl ?_
    refine wz_iload_n (p9 := 7) rfl rfl rfl ?_
    refine wz_c0 (p9 := 10) (w1 := WW A R o) (wa_v (N := 81) (i := 0) (As := [.int (nI y9)]) (rest := []) rfl rfl rfl rfl rfl rfl rfl) rfl ((g_ck81 (d := 0) (by omega) (by omega)).up (Nat.le_trans (m := 9) (by decide) (Nat.le_add_left 9 d))) ?_
    refine wz_iload_n (p9 := 11) rfl rfl rfl ?_
    refine wz_iload_n (p9 := 12) rfl rfl rfl ?_
    refine wn_icne (t9 := 17) (p9 := 15) rfl rfl rfl (by omega) (by omega) (fun h9 => by omega) (fun _ => ?_)
    refine wz_iconst (x := nI 0) (p9 := 16) rfl rfl (by decide) ?_
    exact wz_retz rfl rfl (by decide) rfl
  · have hnw : ∀ p, p < A.P → un (un R.nw x9 (R.nw y9)) y9 (R.nw x9) p = dg (A.st ^^^ (dg A.st x9 ^^^ dg A.st y9) * 8 ^ x9 ^^^ (dg A.st x9 ^^^ dg A.st y9) * 8 ^ y9) p := by
      intro p hp
      rw [sw_dg he, H.nw x9 hx, H.nw y9 hy]
      by_cases q1 : p = y9
      · rw [q1, un_at, if_neg (fun q => he q.symm), if_pos rfl]
      · rw [un_ne q1]
        by_cases q2 : p = x9
        · rw [q2, un_at, if_pos rfl]
        · rw [un_ne q2, if_neg q2, if_neg q1]; exact H.nw p hp
    refine Or.inr ⟨CA.s_st A (A.st ^^^ (dg A.st x9 ^^^ dg A.st y9) * 8 ^ x9 ^^^ (dg A.st x9 ^^^ dg A.st y9) * 8 ^ y9), nI 1, ?_, fun o2 => ⟨_, (g_mSwap1 (d := 0) (A := CA.s_st A (A.st ^^^ (dg A.st x9 ^^^ dg A.st y9) * 8 ^ x9 ^^^ (dg A.st x9 ^^^ dg A.st y9) * 8 ^ y9)) (R := R) (o := o2) (by rw [H.p]; exact p7) (show x9 < R.P by rw [H.p]; exact hx) (show y9 < R.P by rw [H.p]; exact hy) he).up (Nat.le_trans (m := 10) (by decide) (Nat.le_add_left 10 d)), rfl, ⟨H.T, H.p, H.m, H.t, H.V, H.wi, H.wc, H.ln, H.rr, H.S, H.sP, H.uw, H.sc, H.go, H.us, H.ud, H.bc, H.tx, H.sz, H.te, H.kd, H.pl, H.fl, H.sl, H.se, H.fc, (sw_pm H.st hx hy he), hnw, H.dc, H.tl, H.dn⟩⟩⟩
    refine wp_ev (d := d + 9) (by decide) rfl rfl (fun h => by cases h) ?_
    show wp X (d + 9) 88 (0, [.ref 0, .int (nI x9), .int (nI y9)], [], WW A R o, 0, 0) _
    refine wz_aload_n (p9 := 1) rfl rfl rfl ?_
    refine wz_iload_n (p9 := 2) rfl rfl rfl ?_
    refine wz_c0 (p9 := 5) (w1 := WW A R o) (wa_v (N := 81) (i := 0) (As := [.int (nI x9)]) (rest := []) rfl rfl rfl rfl rfl rfl rfl) rfl ((g_ck81 (d := 0) (by omega) (by omega)).up (Nat.le_trans (m := 9) (by decide) (Nat.le_add_left 9 d))) ?_
    refine wz_aload_n (p9 := 6) rfl rfl rfl ?_
    refine wz_iload_n (p9 := 7) rfl rfl rfl ?_
    refine wz_c0 (p9 := 10) (w1 := WW A R o) (wa_v (N := 81) (i := 0) (As := [.int (nI y9)]) (rest := []) rfl rfl rfl rfl rfl rfl rfl) rfl ((g_ck81 (d := 0) (by omega) (by omega)).up (Nat.le_trans (m := 9) (by decide) (Nat.le_add_left 9 d))) ?_
    refine wz_iload_n (p9 := 11) rfl rfl rfl ?_
    refine wz_iload_n (p9 := 12) rfl rfl rfl ?_
    refine wn_icne (t9 := 17) (p9 := 15) rfl rfl rfl (by omega) (by omega) (fun _ => ?_) (fun h9 => by omega)
    refine wz_aload_n (p9 := 18) rfl rfl rfl ?_
    refine wz_aload_n (p9 := 19) rfl rfl rfl ?_
    refine wz_get (v := .int (nI A.st)) (p9 := 22) rfl rfl rfl rfl rfl ?_
    refine wz_iload_n (p9 := 23) rfl rfl rfl ?_
    refine wz_iload_n (p9 := 24) rfl rfl rfl ?_
    refine wz_c1 (p9 := 27) (w1 := WW A R o) (u := .int (nI (A.st ^^^ (dg A.st x9 ^^^ dg A.st y9) * 8 ^ x9 ^^^ (dg A.st x9 ^^^ dg A.st y9) * 8 ^ y9))) (tz_calS (N := 154) (As := [.int (nI A.st), .int (nI x9), .int (nI y9)]) (rest := [.ref 0]) rfl rfl rfl rfl rfl rfl) rfl ((g_swapped (d := 0) (by omega) (by omega) (by omega)).up (by omega)) ?_
    refine wp_Ast (x := (A.st ^^^ (dg A.st x9 ^^^ dg A.st y9) * 8 ^ x9 ^^^ (dg A.st x9 ^^^ dg A.st y9) * 8 ^ y9)) (p9 := 30) rfl rfl rfl rfl (A1 := (CA.s_st A (A.st ^^^ (dg A.st x9 ^^^ dg A.st y9) * 8 ^ x9 ^^^ (dg A.st x9 ^^^ dg A.st y9) * 8 ^ y9))) rfl ?_
    refine wz_iconst (x := nI 1) (p9 := 31) rfl rfl (by decide) ?_
    exact wz_retz rfl rfl (by decide) rfl
theorem j_use {X : Nat × (Nat → Int32)} {d : Nat} {A : CA} {R : RA} {o : Nat → Int64} (H : RE A R) {x : Int32} {y : Int32} : JT X d 92 [.ref 0, .int x, .int y] 131 [.ref 26, .int x, .int y] A R o := by
  have p7 := H.T.p7
  have m6 := H.T.m6
  have hwc := H.V.wc
  have hsc := H.S.sc
  rcases ix1 x A.sc (by have := H.S.sc; omega) with hx | ⟨x9, hx, rfl⟩
  · refine Or.inl ⟨?_, fun o2 => ⟨_, _, (g_mUseX (d := 0) (A := A) (R := R) (o := o2) (Or.inl (by rw [H.sc]; exact inb_bad hx))).up (Nat.le_trans (m := 10) (by decide) (Nat.le_add_left 10 d)), rfl, ⟨H.T, H.p, H.m, H.t, H.V, H.wi, H.wc, H.ln, H.rr, H.S, H.sP, H.uw, H.sc, H.go, H.us, H.ud, H.bc, H.tx, H.sz, H.te, H.kd, H.pl, H.fl, H.sl, H.se, H.fc, H.st, H.nw, H.dc, H.tl, H.dn⟩⟩⟩
    refine wp_ev (d := d + 9) (by decide) rfl rfl (fun _ => by decide) ?_
    show wp X (d + 9) 92 (0, [.ref 0, .int x, .int y], [], WW A R o, 0, 0) _
    refine wz_aload_n (p9 := 1) rfl rfl rfl ?_
    refine wz_iload_n (p9 := 2) rfl rfl rfl ?_
    exact wz_cx (wa_v (N := 91) (i := 0) (As := [.int x]) (rest := []) rfl rfl rfl rfl rfl rfl rfl) (by decide) ((g_cx91 (d := 0) hx).up (Nat.le_trans (m := 9) (by decide) (Nat.le_add_left 9 d))) rfl rfl
  rcases ix1 y A.wc (by have := H.V.wc; omega) with hy | ⟨y9, hy, rfl⟩
  · refine Or.inl ⟨?_, fun o2 => ⟨_, _, (g_mUseX (d := 0) (A := A) (R := R) (o := o2) (Or.inr (by rw [H.wc]; exact inb_bad hy))).up (Nat.le_trans (m := 10) (by decide) (Nat.le_add_left 10 d)), rfl, ⟨H.T, H.p, H.m, H.t, H.V, H.wi, H.wc, H.ln, H.rr, H.S, H.sP, H.uw, H.sc, H.go, H.us, H.ud, H.bc, H.tx, H.sz, H.te, H.kd, H.pl, H.fl, H.sl, H.se, H.fc, H.st, H.nw, H.dc, H.tl, H.dn⟩⟩⟩
    refine wp_ev (d := d + 9) (by decide) rfl rfl (fun _ => by decide) ?_
    show wp X (d + 9) 92 (0, [.ref 0, .int (nI x9), .int y], [], WW A R o, 0, 0) _
    refine wz_aload_n (p9 := 1) rfl rfl rfl ?_
    refine wz_iload_n (p9 := 2) rfl rfl rfl ?_
    refine wz_c0 (p9 := 5) (w1 := WW A R o) (wa_v (N := 91) (i := 0) (As := [.int (nI x9)]) (rest := []) rfl rfl rfl rfl rfl rfl rfl) rfl ((g_ck91 (d := 0) (by omega) (by omega)).up (Nat.le_trans (m := 9) (by decide) (Nat.le_add_left 9 d))) ?_
    refine wz_aload_n (p9 := 6) rfl rfl rfl ?_
    refine wz_iload_n (p9 := 7) rfl rfl rfl ?_
    exact wz_cx (wa_v (N := 84) (i := 0) (As := [.int y]) (rest := []) rfl rfl rfl rfl rfl rfl rfl) (by decide) ((g_cx84 (d := 0) hy).up (Nat.le_trans (m := 9) (by decide) (Nat.le_add_left 9 d))) rfl rfl
  have hs12 := H.S.su x9
  have hRs : x9 < R.sc := by rw [H.sc]; exact hx
  have hRw : y9 < R.wc := by rw [H.wc]; exact hy
  by_cases hu : A.su x9 = 12
  · refine Or.inr ⟨A, nI 0, ?_, fun o2 => ⟨_, (g_mUse0 (d := 0) (A := A) (R := R) (o := o2) H.SR H.VR hRs hRw (by rw [H.us]; exact hu)).up (Nat.le_trans (m := 10) (by decide) (Nat.le_add_left 10 d)), rfl, ⟨H.T, H.p, H.m, H.t, H.V, H.wi, H.wc, H.ln, H.rr, H.S, H.sP, H.uw, H.sc, H.go, H.us, H.ud, H.bc, H.tx, H.sz, H.te, H.kd, H.pl, H.fl, H.sl, H.se, H.fc, H.st, H.nw, H.dc, H.tl, H.dn⟩⟩⟩
    refine wp_ev (d := d + 9) (by decide) rfl rfl (fun h => by cases h) ?_
    show wp X (d + 9) 92 (0, [.ref 0, .int (nI x9), .int (nI y9)], [], WW A R o, 0, 0) _
    refine wz_aload_n (p9 := 1) rfl rfl rfl ?_
    refine wz_iload_n (p9 := 2) rfl rfl rfl ?_
    refine wz_c0 (p9 := 5) (w1 := WW A R o) (wa_v (N := 91) (i := 0) (As := [.int (nI x9)]) (rest := []) rfl rfl rfl rfl rfl rfl rfl) rfl ((g_ck91 (d := 0) (by omega) (by omega)).up (Nat.le_trans (m := 9) (by decide) (Nat.le_add_left 9 d))) ?_
    refine wz_aload_n (p9 := 6) rfl rfl rfl ?_
    refine wz_iload_n (p9 := 7) rfl rfl rfl ?_
    refine wz_c0 (p9 := 10) (w1 := WW A R o) (wa_v (N := 84) (i := 0) (As := [.int (nI y9)]) (rest := []) rfl rfl rfl rfl rfl rfl rfl) rfl ((g_ck84 (d := 0) (by omega) (by omega)).up (Nat.le_trans (m := 9) (by decide) (Nat.le_add_left 9 d))) ?_
    refine wz_aload_n (p9 := 11) rfl rfl rfl ?_
    refine wz_get (v := .ref 14) (p9 := 14) rfl rfl rfl rfl rfl ?_
    refine wz_iload_n (p9 := 15) rfl rfl rfl ?_
    refine wz_iload_n (p9 := 16) rfl rfl rfl ?_
    refine wz_c1 (p9 := 19) (w1 := WW A R o) (u := .int (nI 0)) (wa_v (N := 51) (i := 14) (As := [.int (nI x9), .int (nI y9)]) (rest := []) rfl rfl rfl rfl rfl rfl rfl) rfl ((g_addUse0 (d := 0) (by omega) hu).up (by omega)) ?_
    exact wz_retz rfl rfl (by decide) rfl
  · have hu2 : A.su x9 < 12 := by omega
    have hS : SV A.sc A.sg (un A.su x9 (A.su x9 + 1)) (un A.us (x9 * 12 + A.su x9) y9) := by
      refine ⟨H.S.sc, H.S.sg, fun q => ?_, fun q => ?_⟩
      · by_cases e : q = x9
        · rw [e, un_at]; omega
        · rw [un_ne e]; exact H.S.su q
      · by_cases e : q = x9 * 12 + A.su x9
        · rw [e, un_at]; omega
        · rw [un_ne e]; exact H.S.us q
    have hU : ∀ s, s < A.sc → ∀ k, k < un A.su x9 (A.su x9 + 1) s → un A.us (x9 * 12 + A.su x9) y9 (s * 12 + k) < A.wc := by
      intro s hs k hk
      have hs9 := H.S.su s
      by_cases e : s = x9
      · rw [e, un_at] at hk
        by_cases e2 : k = A.su x9
        · rw [e, e2, un_at]; exact hy
        · rw [e, un_ne (by omega)]; exact H.uw x9 hx k (by omega)
      · rw [un_ne e] at hk
        rw [un_ne (by omega)]; exact H.uw s hs k hk
    refine Or.inr ⟨(CA.s_us (CA.s_su A (un A.su x9 (A.su x9 + 1))) (un A.us (x9 * 12 + A.su x9) y9)), nI 1, ?_, fun o2 => ⟨RA.s_ud (RA.s_us (RA.s_th R 0) (un R.us x9 (R.us x9 + 1))) (un R.ud (x9 * 12 + R.us x9) y9), (g_mUse1 (d := 0) (A := (CA.s_us (CA.s_su A (un A.su x9 (A.su x9 + 1))) (un A.us (x9 * 12 + A.su x9) y9))) (R := R) (o := o2) H.SR H.VR hRs hRw (by rw [H.us]; exact hu2)).up (Nat.le_trans (m := 10) (by decide) (Nat.le_add_left 10 d)), rfl, ⟨H.T, H.p, H.m, H.t, H.V, H.wi, H.wc, H.ln, H.rr, hS, H.sP, hU, H.sc, H.go, (show un R.us x9 (R.us x9 + 1) = un A.su x9 (A.su x9 + 1) by rw [H.us]), (show un R.ud (x9 * 12 + R.us x9) y9 = un A.us (x9 * 12 + A.su x9) y9 by rw [H.us, H.ud]), H.bc, H.tx, H.sz, H.te, H.kd, H.pl, H.fl, H.sl, H.se, H.fc, H.st, H.nw, H.dc, H.tl, H.dn⟩⟩⟩
    refine wp_ev (d := d + 9) (by decide) rfl rfl (fun h => by cases h) ?_
    show wp X (d + 9) 92 (0, [.ref 0, .int (nI x9), .int (nI y9)], [], WW A R o, 0, 0) _
    refine wz_aload_n (p9 := 1) rfl rfl rfl ?_
    refine wz_iload_n (p9 := 2) rfl rfl rfl ?_
    refine wz_c0 (p9 := 5) (w1 := WW A R o) (wa_v (N := 91) (i := 0) (As := [.int (nI x9)]) (rest := []) rfl rfl rfl rfl rfl rfl rfl) rfl ((g_ck91 (d := 0) (by omega) (by omega)).up (Nat.le_trans (m := 9) (by decide) (Nat.le_add_left 9 d))) ?_
    refine wz_aload_n (p9 := 6) rfl rfl rfl ?_
    refine wz_iload_n (p9 := 7) rfl rfl rfl ?_
    refine wz_c0 (p9 := 10) (w1 := WW A R o) (wa_v (N := 84) (i := 0) (As := [.int (nI y9)]) (rest := []) rfl rfl rfl rfl rfl rfl rfl) rfl ((g_ck84 (d := 0) (by omega) (by omega)).up (Nat.le_trans (m := 9) (by decide) (Nat.le_add_left 9 d))) ?_
    refine wz_aload_n (p9 := 11) rfl rfl rfl ?_
    refine wz_get (v := .ref 14) (p9 := 14) rfl rfl rfl rfl rfl ?_
    refine wz_iload_n (p9 := 15) rfl rfl rfl ?_
    refine wz_iload_n (p9 := 16) rfl rfl rfl ?_
    refine wz_c1 (p9 := 19) (w1 := WW (CA.s_us (CA.s_su A (un A.su x9 (A.su x9 + 1))) (un A.us (x9 * 12 + A.su x9) y9)) R o) (u := .int (nI 1)) (wa_v (N := 51) (i := 14) (As := [.int (nI x9), .int (nI y9)]) (rest := []) rfl rfl rfl rfl rfl rfl rfl) rfl ((g_addUse1 (d := 0) (by omega) hu2).up (by omega)) ?_
    exact wz_retz rfl rfl (by decide) rfl
theorem q_xp {P g p : Nat} (hg : g < 2 ^ P) (hp : p < P) : g ^^^ 1 * 2 ^ p < 2 ^ P := by
  refine Nat.xor_lt_two_pow hg ?_
  rw [Nat.one_mul]
  exact Nat.pow_lt_pow_right (by decide) hp
theorem j_goal0 {X : Nat × (Nat → Int32)} {d : Nat} {A : CA} {R : RA} {o : Nat → Int64} (H : RE A R) {x : Int32} {y : Int32} : JT X d 90 [.ref 0, .int x, .int y, .int (nI 0)] 129 [.ref 26, .int x, .int y, .int (nI 0)] A R o := by
  have p7 := H.T.p7
  have m6 := H.T.m6
  have hwc := H.V.wc
  have hsc := H.S.sc
  rcases ix1 x A.sc (by have := H.S.sc; omega) with hx | ⟨x9, hx, rfl⟩
  · refine Or.inl ⟨?_, fun o2 => ⟨_, _, (g_mGoalX (d := 0) (A := A) (R := R) (o := o2) (Or.inl (by rw [H.sc]; exact inb_bad hx))).up (Nat.le_trans (m := 10) (by decide) (Nat.le_add_left 10 d)), rfl, ⟨H.T, H.p, H.m, H.t, H.V, H.wi, H.wc, H.ln, H.rr, H.S, H.sP, H.uw, H.sc, H.go, H.us, H.ud, H.bc, H.tx, H.sz, H.te, H.kd, H.pl, H.fl, H.sl, H.se, H.fc, H.st, H.nw, H.dc, H.tl, H.dn⟩⟩⟩
    refine wp_ev (d := d + 9) (by decide) rfl rfl (fun _ => by decide) ?_
    show wp X (d + 9) 90 (0, [.ref 0, .int x, .int y, .int (nI 0)], [], WW A R o, 0, 0) _
    refine wz_aload_n (p9 := 1) rfl rfl rfl ?_
    refine wz_iload_n (p9 := 2) rfl rfl rfl ?_
    exact wz_cx (wa_v (N := 91) (i := 0) (As := [.int x]) (rest := []) rfl rfl rfl rfl rfl rfl rfl) (by decide) ((g_cx91 (d := 0) hx).up (Nat.le_trans (m := 9) (by decide) (Nat.le_add_left 9 d))) rfl rfl
  rcases ix1 y A.P (by have := H.T.p7; omega) with hy | ⟨y9, hy, rfl⟩
  · refine Or.inl ⟨?_, fun o2 => ⟨_, _, (g_mGoalX (d := 0) (A := A) (R := R) (o := o2) (Or.inr (by rw [H.p]; exact inb_bad hy))).up (Nat.le_trans (m := 10) (by decide) (Nat.le_add_left 10 d)), rfl, ⟨H.T, H.p, H.m, H.t, H.V, H.wi, H.wc, H.ln, H.rr, H.S, H.sP, H.uw, H.sc, H.go, H.us, H.ud, H.bc, H.tx, H.sz, H.te, H.kd, H.pl, H.fl, H.sl, H.se, H.fc, H.st, H.nw, H.dc, H.tl, H.dn⟩⟩⟩
    refine wp_ev (d := d + 9) (by decide) rfl rfl (fun _ => by decide) ?_
    show wp X (d + 9) 90 (0, [.ref 0, .int (nI x9), .int y, .int (nI 0)], [], WW A R o, 0, 0) _
    refine wz_aload_n (p9 := 1) rfl rfl rfl ?_
    refine wz_iload_n (p9 := 2) rfl rfl rfl ?_
    refine wz_c0 (p9 := 5) (w1 := WW A R o) (wa_v (N := 91) (i := 0) (As := [.int (nI x9)]) (rest := []) rfl rfl rfl rfl rfl rfl rfl) rfl ((g_ck91 (d := 0) (by omega) (by omega)).up (Nat.le_trans (m := 9) (by decide) (Nat.le_add_left 9 d))) ?_
    refine wz_aload_n (p9 := 6) rfl rfl rfl ?_
    refine wz_iload_n (p9 := 7) rfl rfl rfl ?_
    exact wz_cx (wa_v (N := 81) (i := 0) (As := [.int y]) (rest := []) rfl rfl rfl rfl rfl rfl rfl) (by decide) ((g_cx81 (d := 0) hy).up (Nat.le_trans (m := 9) (by decide) (Nat.le_add_left 9 d))) rfl rfl
  have hRs : x9 < R.sc := by rw [H.sc]; exact hx
  have hRp : y9 < R.P := by rw [H.p]; exact hy
  have h7R : R.P ≤ 7 := by rw [H.p]; exact p7
  have hg7 := H.S.sg x9
  rcases Nat.mod_two_eq_zero_or_one (A.sg x9 / 2 ^ y9) with hw | hw
  · skip
    refine Or.inr ⟨A, nI 0, ?_, fun o2 => ⟨_, (g_mGoal00 (d := 0) (A := A) (R := R) (o := o2) H.SR h7R hRs hRp (by rw [H.go]; exact hw)).up (Nat.le_trans (m := 10) (by decide) (Nat.le_add_left 10 d)), rfl, ⟨H.T, H.p, H.m, H.t, H.V, H.wi, H.wc, H.ln, H.rr, H.S, H.sP, H.uw, H.sc, H.go, H.us, H.ud, H.bc, H.tx, H.sz, H.te, H.kd, H.pl, H.fl, H.sl, H.se, H.fc, H.st, H.nw, H.dc, H.tl, H.dn⟩⟩⟩
    refine wp_ev (d := d + 9) (by decide) rfl rfl (fun h => by cases h) ?_
    show wp X (d + 9) 90 (0, [.ref 0, .int (nI x9), .int (nI y9), .int (nI 0)], [], WW A R o, 0, 0) _
    refine wz_aload_n (p9 := 1) rfl rfl rfl ?_
    refine wz_iload_n (p9 := 2) rfl rfl rfl ?_
    refine wz_c0 (p9 := 5) (w1 := WW A R o) (wa_v (N := 91) (i := 0) (As := [.int (nI x9)]) (rest := []) rfl rfl rfl rfl rfl rfl rfl) rfl ((g_ck91 (d := 0) (by omega) (by omega)).up (Nat.le_trans (m := 9) (by decide) (Nat.le_add_left 9 d))) ?_
    refine wz_aload_n (p9 := 6) rfl rfl rfl ?_
    refine wz_iload_n (p9 := 7) rfl rfl rfl ?_
    refine wz_c0 (p9 := 10) (w1 := WW A R o) (wa_v (N := 81) (i := 0) (As := [.int (nI y9)]) (rest := []) rfl rfl rfl rfl rfl rfl rfl) rfl ((g_ck81 (d := 0) (by omega) (by omega)).up (Nat.le_trans (m := 9) (by decide) (Nat.le_add_left 9 d))) ?_
    refine wz_aload_n (p9 := 11) rfl rfl rfl ?_
    refine wz_get (v := .ref 14) (p9 := 14) rfl rfl rfl rfl rfl ?_
    refine wz_iload_n (p9 := 15) rfl rfl rfl ?_
    refine wz_iload_n (p9 := 16) rfl rfl rfl ?_
    refine wz_iload_n (p9 := 17) rfl rfl rfl ?_
    refine wz_c1 (p9 := 20) (w1 := WW A R o) (u := .int (nI 0)) (wa_v (N := 50) (i := 14) (As := [.int (nI x9), .int (nI y9), .int (nI 0)]) (rest := []) rfl rfl rfl rfl rfl rfl rfl) rfl ((g_setGoal00 (d := 0) (A := A) (R := R) (o := o) (by omega) (by omega) hg7 hw).up (by omega)) ?_
    exact wz_retz rfl rfl (by decide) rfl
  · skip
    have hP2 : ∀ q, un A.sg x9 (A.sg x9 ^^^ 1 * 2 ^ y9) q < 2 ^ A.P := by
      intro q
      by_cases e : q = x9
      · rw [e, un_at]; exact q_xp (H.sP x9) hy
      · rw [un_ne e]; exact H.sP q
    have hS : SV A.sc (un A.sg x9 (A.sg x9 ^^^ 1 * 2 ^ y9)) A.su A.us := ⟨H.S.sc, fun q => Nat.lt_of_lt_of_le (hP2 q) (Nat.pow_le_pow_right (n := 2) (by decide) (show A.P ≤ 7 from p7)), H.S.su, H.S.us⟩
    refine Or.inr ⟨(CA.s_sg A (un A.sg x9 (A.sg x9 ^^^ 1 * 2 ^ y9))), nI 1, ?_, fun o2 => ⟨RA.s_go (RA.s_th R 0) (un R.go x9 (R.go x9 ^^^ 1 * 2 ^ y9)), (g_mGoal10 (d := 0) (A := (CA.s_sg A (un A.sg x9 (A.sg x9 ^^^ 1 * 2 ^ y9)))) (R := R) (o := o2) H.SR h7R hRs hRp (by rw [H.go]; exact hw)).up (Nat.le_trans (m := 10) (by decide) (Nat.le_add_left 10 d)), rfl, ⟨H.T, H.p, H.m, H.t, H.V, H.wi, H.wc, H.ln, H.rr, hS, hP2, H.uw, H.sc, (show un R.go x9 (R.go x9 ^^^ 1 * 2 ^ y9) = un A.sg x9 (A.sg x9 ^^^ 1 * 2 ^ y9) by rw [H.go]), H.us, H.ud, H.bc, H.tx, H.sz, H.te, H.kd, H.pl, H.fl, H.sl, H.se, H.fc, H.st, H.nw, H.dc, H.tl, H.dn⟩⟩⟩
    refine wp_ev (d := d + 9) (by decide) rfl rfl (fun h => by cases h) ?_
    show wp X (d + 9) 90 (0, [.ref 0, .int (nI x9), .int (nI y9), .int (nI 0)], [], WW A R o, 0, 0) _
    refine wz_aload_n (p9 := 1) rfl rfl rfl ?_
    refine wz_iload_n (p9 := 2) rfl rfl rfl ?_
    refine wz_c0 (p9 := 5) (w1 := WW A R o) (wa_v (N := 91) (i := 0) (As := [.int (nI x9)]) (rest := []) rfl rfl rfl rfl rfl rfl rfl) rfl ((g_ck91 (d := 0) (by omega) (by omega)).up (Nat.le_trans (m := 9) (by decide) (Nat.le_add_left 9 d))) ?_
    refine wz_aload_n (p9 := 6) rfl rfl rfl ?_
    refine wz_iload_n (p9 := 7) rfl rfl rfl ?_
    refine wz_c0 (p9 := 10) (w1 := WW A R o) (wa_v (N := 81) (i := 0) (As := [.int (nI y9)]) (rest := []) rfl rfl rfl rfl rfl rfl rfl) rfl ((g_ck81 (d := 0) (by omega) (by omega)).up (Nat.le_trans (m := 9) (by decide) (Nat.le_add_left 9 d))) ?_
    refine wz_aload_n (p9 := 11) rfl rfl rfl ?_
    refine wz_get (v := .ref 14) (p9 := 14) rfl rfl rfl rfl rfl ?_
    refine wz_iload_n (p9 := 15) rfl rfl rfl ?_
    refine wz_iload_n (p9 := 16) rfl rfl rfl ?_
    refine wz_iload_n (p9 := 17) rfl rfl rfl ?_
    refine wz_c1 (p9 := 20) (w1 := WW (CA.s_sg A (un A.sg x9 (A.sg x9 ^^^ 1 * 2 ^ y9))) R o) (u := .int (nI 1)) (wa_v (N := 50) (i := 14) (As := [.int (nI x9), .int (nI y9), .int (nI 0)]) (rest := []) rfl rfl rfl rfl rfl rfl rfl) rfl ((g_setGoal10 (d := 0) (A := A) (R := R) (o := o) (by omega) (by omega) hg7 hw).up (by omega)) ?_
    exact wz_retz rfl rfl (by decide) rfl
theorem j_goal1 {X : Nat × (Nat → Int32)} {d : Nat} {A : CA} {R : RA} {o : Nat → Int64} (H : RE A R) {x : Int32} {y : Int32} : JT X d 90 [.ref 0, .int x, .int y, .int (nI 1)] 129 [.ref 26, .int x, .int y, .int (nI 1)] A R o := by
  have p7 := H.T.p7
  have m6 := H.T.m6
  have hwc := H.V.wc
  have hsc := H.S.sc
  rcases ix1 x A.sc (by have := H.S.sc; omega) with hx | ⟨x9, hx, rfl⟩
  · refine Or.inl ⟨?_, fun o2 => ⟨_, _, (g_mGoalX (d := 0) (A := A) (R := R) (o := o2) (Or.inl (by rw [H.sc]; exact inb_bad hx))).up (Nat.le_trans (m := 10) (by decide) (Nat.le_add_left 10 d)), rfl, ⟨H.T, H.p, H.m, H.t, H.V, H.wi, H.wc, H.ln, H.rr, H.S, H.sP, H.uw, H.sc, H.go, H.us, H.ud, H.bc, H.tx, H.sz, H.te, H.kd, H.pl, H.fl, H.sl, H.se, H.fc, H.st, H.nw, H.dc, H.tl, H.dn⟩⟩⟩
    refine wp_ev (d := d + 9) (by decide) rfl rfl (fun _ => by decide) ?_
    show wp X (d + 9) 90 (0, [.ref 0, .int x, .int y, .int (nI 1)], [], WW A R o, 0, 0) _
    refine wz_aload_n (p9 := 1) rfl rfl rfl ?_
    refine wz_iload_n (p9 := 2) rfl rfl rfl ?_
    exact wz_cx (wa_v (N := 91) (i := 0) (As := [.int x]) (rest := []) rfl rfl rfl rfl rfl rfl rfl) (by decide) ((g_cx91 (d := 0) hx).up (Nat.le_trans (m := 9) (by decide) (Nat.le_add_left 9 d))) rfl rfl
  rcases ix1 y A.P (by have := H.T.p7; omega) with hy | ⟨y9, hy, rfl⟩
  · refine Or.inl ⟨?_, fun o2 => ⟨_, _, (g_mGoalX (d := 0) (A := A) (R := R) (o := o2) (Or.inr (by rw [H.p]; exact inb_bad hy))).up (Nat.le_trans (m := 10) (by decide) (Nat.le_add_left 10 d)), rfl, ⟨H.T, H.p, H.m, H.t, H.V, H.wi, H.wc, H.ln, H.rr, H.S, H.sP, H.uw, H.sc, H.go, H.us, H.ud, H.bc, H.tx, H.sz, H.te, H.kd, H.pl, H.fl, H.sl, H.se, H.fc, H.st, H.nw, H.dc, H.tl, H.dn⟩⟩⟩
    refine wp_ev (d := d + 9) (by decide) rfl rfl (fun _ => by decide) ?_
    show wp X (d + 9) 90 (0, [.ref 0, .int (nI x9), .int y, .int (nI 1)], [], WW A R o, 0, 0) _
    refine wz_aload_n (p9 := 1) rfl rfl rfl ?_
    refine wz_iload_n (p9 := 2) rfl rfl rfl ?_
    refine wz_c0 (p9 := 5) (w1 := WW A R o) (wa_v (N := 91) (i := 0) (As := [.int (nI x9)]) (rest := []) rfl rfl rfl rfl rfl rfl rfl) rfl ((g_ck91 (d := 0) (by omega) (by omega)).up (Nat.le_trans (m := 9) (by decide) (Nat.le_add_left 9 d))) ?_
    refine wz_aload_n (p9 := 6) rfl rfl rfl ?_
    refine wz_iload_n (p9 := 7) rfl rfl rfl ?_
    exact wz_cx (wa_v (N := 81) (i := 0) (As := [.int y]) (rest := []) rfl rfl rfl rfl rfl rfl rfl) (by decide) ((g_cx81 (d := 0) hy).up (Nat.le_trans (m := 9) (by decide) (Nat.le_add_left 9 d))) rfl rfl
  have hRs : x9 < R.sc := by rw [H.sc]; exact hx
  have hRp : y9 < R.P := by rw [H.p]; exact hy
  have h7R : R.P ≤ 7 := by rw [H.p]; exact p7
  have hg7 := H.S.sg x9
  rcases Nat.mod_two_eq_zero_or_one (A.sg x9 / 2 ^ y9) with hw | hw
  · skip
    have hP2 : ∀ q, un A.sg x9 (A.sg x9 ^^^ 1 * 2 ^ y9) q < 2 ^ A.P := by
      intro q
      by_cases e : q = x9
      · rw [e, un_at]; exact q_xp (H.sP x9) hy
      · rw [un_ne e]; exact H.sP q
    have hS : SV A.sc (un A.sg x9 (A.sg x9 ^^^ 1 * 2 ^ y9)) A.su A.us := ⟨H.S.sc, fun q => Nat.lt_of_lt_of_le (hP2 q) (Nat.pow_le_pow_right (n := 2) (by decide) (show A.P ≤ 7 from p7)), H.S.su, H.S.us⟩
    refine Or.inr ⟨(CA.s_sg A (un A.sg x9 (A.sg x9 ^^^ 1 * 2 ^ y9))), nI 1, ?_, fun o2 => ⟨RA.s_go (RA.s_th R 0) (un R.go x9 (R.go x9 ^^^ 1 * 2 ^ y9)), (g_mGoal01 (d := 0) (A := (CA.s_sg A (un A.sg x9 (A.sg x9 ^^^ 1 * 2 ^ y9)))) (R := R) (o := o2) H.SR h7R hRs hRp (by rw [H.go]; exact hw)).up (Nat.le_trans (m := 10) (by decide) (Nat.le_add_left 10 d)), rfl, ⟨H.T, H.p, H.m, H.t, H.V, H.wi, H.wc, H.ln, H.rr, hS, hP2, H.uw, H.sc, (show un R.go x9 (R.go x9 ^^^ 1 * 2 ^ y9) = un A.sg x9 (A.sg x9 ^^^ 1 * 2 ^ y9) by rw [H.go]), H.us, H.ud, H.bc, H.tx, H.sz, H.te, H.kd, H.pl, H.fl, H.sl, H.se, H.fc, H.st, H.nw, H.dc, H.tl, H.dn⟩⟩⟩
    refine wp_ev (d := d + 9) (by decide) rfl rfl (fun h => by cases h) ?_
    show wp X (d + 9) 90 (0, [.ref 0, .int (nI x9), .int (nI y9), .int (nI 1)], [], WW A R o, 0, 0) _
    refine wz_aload_n (p9 := 1) rfl rfl rfl ?_
    refine wz_iload_n (p9 := 2) rfl rfl rfl ?_
    refine wz_c0 (p9 := 5) (w1 := WW A R o) (wa_v (N := 91) (i := 0) (As := [.int (nI x9)]) (rest := []) rfl rfl rfl rfl rfl rfl rfl) rfl ((g_ck91 (d := 0) (by omega) (by omega)).up (Nat.le_trans (m := 9) (by decide) (Nat.le_add_left 9 d))) ?_
    refine wz_aload_n (p9 := 6) rfl rfl rfl ?_
    refine wz_iload_n (p9 := 7) rfl rfl rfl ?_
    refine wz_c0 (p9 := 10) (w1 := WW A R o) (wa_v (N := 81) (i := 0) (As := [.int (nI y9)]) (rest := []) rfl rfl rfl rfl rfl rfl rfl) rfl ((g_ck81 (d := 0) (by omega) (by omega)).up (Nat.le_trans (m := 9) (by decide) (Nat.le_add_left 9 d))) ?_
    refine wz_aload_n (p9 := 11) rfl rfl rfl ?_
    refine wz_get (v := .ref 14) (p9 := 14) rfl rfl rfl rfl rfl ?_
    refine wz_iload_n (p9 := 15) rfl rfl rfl ?_
    refine wz_iload_n (p9 := 16) rfl rfl rfl ?_
    refine wz_iload_n (p9 := 17) rfl rfl rfl ?_
    refine wz_c1 (p9 := 20) (w1 := WW (CA.s_sg A (un A.sg x9 (A.sg x9 ^^^ 1 * 2 ^ y9))) R o) (u := .int (nI 1)) (wa_v (N := 50) (i := 14) (As := [.int (nI x9), .int (nI y9), .int (nI 1)]) (rest := []) rfl rfl rfl rfl rfl rfl rfl) rfl ((g_setGoal01 (d := 0) (A := A) (R := R) (o := o) (by omega) (by omega) hg7 hw).up (by omega)) ?_
    exact wz_retz rfl rfl (by decide) rfl
  · skip
    refine Or.inr ⟨A, nI 0, ?_, fun o2 => ⟨_, (g_mGoal11 (d := 0) (A := A) (R := R) (o := o2) H.SR h7R hRs hRp (by rw [H.go]; exact hw)).up (Nat.le_trans (m := 10) (by decide) (Nat.le_add_left 10 d)), rfl, ⟨H.T, H.p, H.m, H.t, H.V, H.wi, H.wc, H.ln, H.rr, H.S, H.sP, H.uw, H.sc, H.go, H.us, H.ud, H.bc, H.tx, H.sz, H.te, H.kd, H.pl, H.fl, H.sl, H.se, H.fc, H.st, H.nw, H.dc, H.tl, H.dn⟩⟩⟩
    refine wp_ev (d := d + 9) (by decide) rfl rfl (fun h => by cases h) ?_
    show wp X (d + 9) 90 (0, [.ref 0, .int (nI x9), .int (nI y9), .int (nI 1)], [], WW A R o, 0, 0) _
    refine wz_aload_n (p9 := 1) rfl rfl rfl ?_
    refine wz_iload_n (p9 := 2) rfl rfl rfl ?_
    refine wz_c0 (p9 := 5) (w1 := WW A R o) (wa_v (N := 91) (i := 0) (As := [.int (nI x9)]) (rest := []) rfl rfl rfl rfl rfl rfl rfl) rfl ((g_ck91 (d := 0) (by omega) (by omega)).up (Nat.le_trans (m := 9) (by decide) (Nat.le_add_left 9 d))) ?_
    refine wz_aload_n (p9 := 6) rfl rfl rfl ?_
    refine wz_iload_n (p9 := 7) rfl rfl rfl ?_
    refine wz_c0 (p9 := 10) (w1 := WW A R o) (wa_v (N := 81) (i := 0) (As := [.int (nI y9)]) (rest := []) rfl rfl rfl rfl rfl rfl rfl) rfl ((g_ck81 (d := 0) (by omega) (by omega)).up (Nat.le_trans (m := 9) (by decide) (Nat.le_add_left 9 d))) ?_
    refine wz_aload_n (p9 := 11) rfl rfl rfl ?_
    refine wz_get (v := .ref 14) (p9 := 14) rfl rfl rfl rfl rfl ?_
    refine wz_iload_n (p9 := 15) rfl rfl rfl ?_
    refine wz_iload_n (p9 := 16) rfl rfl rfl ?_
    refine wz_iload_n (p9 := 17) rfl rfl rfl ?_
    refine wz_c1 (p9 := 20) (w1 := WW A R o) (u := .int (nI 0)) (wa_v (N := 50) (i := 14) (As := [.int (nI x9), .int (nI y9), .int (nI 1)]) (rest := []) rfl rfl rfl rfl rfl rfl rfl) rfl ((g_setGoal11 (d := 0) (A := A) (R := R) (o := o) (by omega) (by omega) hg7 hw).up (by omega)) ?_
    exact wz_retz rfl rfl (by decide) rfl
theorem j_unit {X : Nat × (Nat → Int32)} {d : Nat} {A : CA} {R : RA} {o : Nat → Int64} (H : RE A R) {x : Int32} : JN X d 74 [.ref 0, .int x] 106 [.ref 26, .int x] A R o := by
  by_cases hq : ¬ x < 0 ∧ ¬ nI 255 < x ∧ A.bc < 100
  · obtain ⟨h1, h2, hb⟩ := hq
    obtain ⟨x9, hx9, rfl⟩ := nI_of h1
    have hu : x9 < 256 := by
      have h3 : ¬ 255 < x9 := fun q => h2 ((nI_ltI (a := 255) (b := x9) (by decide) hx9).mpr q)
      omega
    have htx9 : ∀ q, un A.tx A.bc x9 q < 256 := by
      intro q
      by_cases e : q = A.bc
      · rw [e, un_at]; exact hu
      · rw [un_ne e]; exact H.tx q
    refine ⟨(CA.s_tx (CA.s_bc A (A.bc + 1)) (un A.tx A.bc x9)), (RA.s_tx (RA.s_sz (RA.s_th R 0) (R.sz + 1)) (un R.tx R.sz x9)), nI 1, ?_, (g_mUnit1 (d := 0) (A := (CA.s_tx (CA.s_bc A (A.bc + 1)) (un A.tx A.bc x9))) (R := R) (o := o) hu (by rw [H.sz]; exact hb)).up (Nat.le_trans (m := 10) (by decide) (Nat.le_add_left 10 d)), ⟨H.T, H.p, H.m, H.t, H.V, H.wi, H.wc, H.ln, H.rr, H.S, H.sP, H.uw, H.sc, H.go, H.us, H.ud, hb, htx9, (show R.sz + 1 = A.bc + 1 by rw [H.sz]), (show un R.tx R.sz x9 = un A.tx A.bc x9 by rw [H.sz, H.te]), H.kd, H.pl, H.fl, H.sl, H.se, H.fc, H.st, H.nw, H.dc, H.tl, H.dn⟩⟩
    refine wp_ev (d := d + 9) (by decide) rfl rfl (fun h => by cases h) ?_
    show wp X (d + 9) 74 (0, [.ref 0, .int (nI x9)], [], WW A R o, 0, 0) _
    refine wz_aload_n (p9 := 1) rfl rfl rfl ?_
    refine wz_get (v := .ref 4) (p9 := 4) rfl rfl rfl rfl rfl ?_
    refine wz_iload_n (p9 := 5) rfl rfl rfl ?_
    refine wz_c1 (p9 := 8) (w1 := WW (CA.s_tx (CA.s_bc A (A.bc + 1)) (un A.tx A.bc x9)) R o) (u := .int (nI 1)) (wa_v (N := 12) (i := 4) (As := [.int (nI x9)]) (rest := []) rfl rfl rfl rfl rfl rfl rfl) rfl ((g_takeByte1 (d := 0) hu hb).up (by omega)) ?_
    exact wz_retz rfl rfl (by decide) rfl
  · have hno : ¬ x < 0 → ¬ nI 255 < x → A.bc < 100 → False := fun a1 a2 a3 => hq ⟨a1, a2, a3⟩
    have hbc := H.bc
    refine ⟨A, _, nI 0, ?_, (g_mUnit0 (d := 0) (A := A) (R := R) (o := o) (by rw [H.sz]; exact H.bc) (fun a1 a2 a3 => hq ⟨a1, a2, by have := H.sz; omega⟩)).up (Nat.le_trans (m := 10) (by decide) (Nat.le_add_left 10 d)), ⟨H.T, H.p, H.m, H.t, H.V, H.wi, H.wc, H.ln, H.rr, H.S, H.sP, H.uw, H.sc, H.go, H.us, H.ud, H.bc, H.tx, H.sz, H.te, H.kd, H.pl, H.fl, H.sl, H.se, H.fc, H.st, H.nw, H.dc, H.tl, H.dn⟩⟩
    refine wp_ev (d := d + 9) (by decide) rfl rfl (fun h => by cases h) ?_
    show wp X (d + 9) 74 (0, [.ref 0, .int x], [], WW A R o, 0, 0) _
    refine wz_aload_n (p9 := 1) rfl rfl rfl ?_
    refine wz_get (v := .ref 4) (p9 := 4) rfl rfl rfl rfl rfl ?_
    refine wz_iload_n (p9 := 5) rfl rfl rfl ?_
    refine wz_c1 (p9 := 8) (w1 := WW A R o) (u := .int (nI 0)) (wa_v (N := 12) (i := 4) (As := [.int x]) (rest := []) rfl rfl rfl rfl rfl rfl rfl) rfl ((g_takeByte0 (d := 0) H.bc hno).up (by omega)) ?_
    exact wz_retz rfl rfl (by decide) rfl
theorem j_stage {X : Nat × (Nat → Int32)} {d : Nat} {A : CA} {R : RA} {o : Nat → Int64} (H : RE A R)  : JN X d 76 [.ref 0] 128 [.ref 26] A R o := by
  have hsc := H.S.sc
  by_cases hs : A.sc < 8
  · have hS : SV (A.sc + 1) (un A.sg A.sc 0) (un A.su A.sc 0) A.us := by
      refine ⟨by omega, fun q => ?_, fun q => ?_, H.S.us⟩
      · by_cases e : q = A.sc
        · rw [e, un_at]; decide
        · rw [un_ne e]; exact H.S.sg q
      · by_cases e : q = A.sc
        · rw [e, un_at]; decide
        · rw [un_ne e]; exact H.S.su q
    have hP2 : ∀ q, un A.sg A.sc 0 q < 2 ^ A.P := by
      intro q
      by_cases e : q = A.sc
      · rw [e, un_at]; exact Nat.two_pow_pos _
      · rw [un_ne e]; exact H.sP q
    have hU : ∀ s, s < A.sc + 1 → ∀ k, k < un A.su A.sc 0 s → A.us (s * 12 + k) < A.wc := by
      intro s hs2 k hk
      by_cases e : s = A.sc
      · rw [e, un_at] at hk; exact absurd hk (Nat.not_lt_zero _)
      · rw [un_ne e] at hk; exact H.uw s (by omega) k hk
    refine ⟨(CA.s_su (CA.s_sg (CA.s_sc A (A.sc + 1)) (un A.sg A.sc 0)) (un A.su A.sc 0)), (RA.s_us (RA.s_go (RA.s_sc (RA.s_th R 0) (R.sc + 1)) (un R.go R.sc 0)) (un R.us R.sc 0)), nI A.sc, ?_, (by have h := g_mStg1 (X := X) (d := 0) (A := (CA.s_su (CA.s_sg (CA.s_sc A (A.sc + 1)) (un A.sg A.sc 0)) (un A.su A.sc 0))) (R := R) (o := o) (by rw [H.sc]; exact hs); rw [show nI R.sc = nI A.sc by rw [H.sc]] at h; exact h.up (Nat.le_trans (m := 10) (by decide) (Nat.le_add_left 10 d))), ⟨H.T, H.p, H.m, H.t, H.V, H.wi, H.wc, H.ln, H.rr, hS, hP2, hU, (show R.sc + 1 = A.sc + 1 by rw [H.sc]), (show un R.go R.sc 0 = un A.sg A.sc 0 by rw [H.sc, H.go]), (show un R.us R.sc 0 = un A.su A.sc 0 by rw [H.sc, H.us]), H.ud, H.bc, H.tx, H.sz, H.te, H.kd, H.pl, H.fl, H.sl, H.se, H.fc, H.st, H.nw, H.dc, H.tl, H.dn⟩⟩
    refine wp_ev (d := d + 9) (by decide) rfl rfl (fun h => by cases h) ?_
    show wp X (d + 9) 76 (0, [.ref 0], [], WW A R o, 0, 0) _
    refine wz_aload_n (p9 := 1) rfl rfl rfl ?_
    refine wz_get (v := .ref 14) (p9 := 4) rfl rfl rfl rfl rfl ?_
    refine wz_c1 (p9 := 7) (w1 := WW (CA.s_su (CA.s_sg (CA.s_sc A (A.sc + 1)) (un A.sg A.sc 0)) (un A.su A.sc 0)) R o) (u := .int (nI A.sc)) (wa_v (N := 47) (i := 14) (As := []) (rest := []) rfl rfl rfl rfl rfl rfl rfl) rfl ((g_addS1 (d := 0) hs).up (by omega)) ?_
    exact wz_reti rfl rfl rfl
  · refine ⟨A, _, -1, ?_, (g_mStg0 (d := 0) (A := A) (R := R) (o := o) (by rw [H.sc]; omega)).up (Nat.le_trans (m := 10) (by decide) (Nat.le_add_left 10 d)), ⟨H.T, H.p, H.m, H.t, H.V, H.wi, H.wc, H.ln, H.rr, H.S, H.sP, H.uw, H.sc, H.go, H.us, H.ud, H.bc, H.tx, H.sz, H.te, H.kd, H.pl, H.fl, H.sl, H.se, H.fc, H.st, H.nw, H.dc, H.tl, H.dn⟩⟩
    refine wp_ev (d := d + 9) (by decide) rfl rfl (fun h => by cases h) ?_
    show wp X (d + 9) 76 (0, [.ref 0], [], WW A R o, 0, 0) _
    refine wz_aload_n (p9 := 1) rfl rfl rfl ?_
    refine wz_get (v := .ref 14) (p9 := 4) rfl rfl rfl rfl rfl ?_
    refine wz_c1 (p9 := 7) (w1 := WW A R o) (u := .int (-1)) (wa_v (N := 47) (i := 14) (As := []) (rest := []) rfl rfl rfl rfl rfl rfl rfl) rfl ((g_addS0 (d := 0) (by omega)).up (by omega)) ?_
    exact wz_reti rfl rfl rfl
theorem j_did {X : Nat × (Nat → Int32)} {d : Nat} {A : CA} {R : RA} {o : Nat → Int64} (H : RE A R) {x : Int32} : JN X d 77 [.ref 0, .int x] 136 [.ref 26, .int x] A R o := by
  have hdc := H.dc
  rcases ix1 x A.dc (by omega) with hx | ⟨x9, hx, rfl⟩
  · have hxx : ¬ x < 0 → nI A.dc ≤ x := fun q => hx.resolve_left q
    refine ⟨A, _, -1, ?_, (g_mDid0 (d := 0) (A := A) (R := R) (o := o) (by rw [H.tl]; exact hxx)).up (Nat.le_trans (m := 10) (by decide) (Nat.le_add_left 10 d)), ⟨H.T, H.p, H.m, H.t, H.V, H.wi, H.wc, H.ln, H.rr, H.S, H.sP, H.uw, H.sc, H.go, H.us, H.ud, H.bc, H.tx, H.sz, H.te, H.kd, H.pl, H.fl, H.sl, H.se, H.fc, H.st, H.nw, H.dc, H.tl, H.dn⟩⟩
    refine wp_ev (d := d + 9) (by decide) rfl rfl (fun h => by cases h) ?_
    show wp X (d + 9) 77 (0, [.ref 0, .int x], [], WW A R o, 0, 0) _
    refine wz_iload_n (p9 := 1) rfl rfl rfl ?_
    refine wz_iflt (t9 := 21) (p9 := 4) rfl rfl rfl (fun h1 => ?_) (fun h1 => ?_)
    · refine wz_iconst (x := (-1)) (p9 := 22) rfl rfl (by decide) ?_
      exact wz_reti rfl rfl rfl
    · refine wz_iload_n (p9 := 5) rfl rfl rfl ?_
      refine wz_aload_n (p9 := 6) rfl rfl rfl ?_
      refine wz_get (v := .int (nI A.dc)) (p9 := 9) rfl rfl rfl rfl rfl ?_
      refine wz_icge (t9 := 21) (p9 := 12) rfl rfl rfl (fun _ => ?_) (fun h9 => absurd (hxx h1) h9)
      refine wz_iconst (x := (-1)) (p9 := 22) rfl rfl (by decide) ?_
      exact wz_reti rfl rfl rfl
  · refine ⟨A, RA.s_th R 0, nI (A.dn x9), ?_, (by have h := g_mDid1 (X := X) (d := 0) (A := A) (R := R) (o := o) (k := x9) (by rw [H.tl]; exact hx) (by rw [H.tl]; omega); rw [H.dn x9 hx] at h; exact h.up (Nat.le_trans (m := 10) (by decide) (Nat.le_add_left 10 d))), ⟨H.T, H.p, H.m, H.t, H.V, H.wi, H.wc, H.ln, H.rr, H.S, H.sP, H.uw, H.sc, H.go, H.us, H.ud, H.bc, H.tx, H.sz, H.te, H.kd, H.pl, H.fl, H.sl, H.se, H.fc, H.st, H.nw, H.dc, H.tl, H.dn⟩⟩
    refine wp_ev (d := d + 9) (by decide) rfl rfl (fun h => by cases h) ?_
    show wp X (d + 9) 77 (0, [.ref 0, .int (nI x9)], [], WW A R o, 0, 0) _
    refine wz_iload_n (p9 := 1) rfl rfl rfl ?_
    refine wn_iflt (t9 := 21) (p9 := 4) rfl rfl rfl (by omega) (fun h9 => by omega) (fun _ => ?_)
    refine wz_iload_n (p9 := 5) rfl rfl rfl ?_
    refine wz_aload_n (p9 := 6) rfl rfl rfl ?_
    refine wz_get (v := .int (nI A.dc)) (p9 := 9) rfl rfl rfl rfl rfl ?_
    refine wn_icge (t9 := 21) (p9 := 12) rfl rfl rfl (by omega) (by omega) (fun h9 => by omega) (fun _ => ?_)
    refine wz_aload_n (p9 := 13) rfl rfl rfl ?_
    refine wz_get (v := .ref 25) (p9 := 16) rfl rfl rfl rfl rfl ?_
    refine wz_iload_n (p9 := 17) rfl rfl rfl ?_
    refine wl_Adn (f := A.dn) (p9 := 18) rfl rfl rfl (by omega) ?_
    refine wz_goto (p9 := 22) rfl rfl ?_
    exact wz_reti rfl rfl rfl
