/-! CLASS AND REFERENCE SIDE BY SIDE: read (wip/whole/gen/mkb2.py) -/
theorem RE_read {A C : CA} {R R1 : RA} (H : RE A R) (s : sR A C) (m : sM R R1) (hk : ∀ q, C.kd q < 256) (hp : C.pl < 2) : RE C R1 := by
  obtain ⟨h_T, h_p, h_m, h_t, h_V, h_wi, h_wc, h_ln, h_rr, h_S, h_sP, h_uw, h_sc, h_go, h_us, h_ud, h_bc, h_tx, h_sz, h_te, h_kd, h_pl, h_fl, h_sl, h_se, h_fc, h_st, h_nw, h_dc, h_tl, h_dn⟩ := H
  refine ⟨?_, ?_, ?_, ?_, ?_, ?_, ?_, ?_, ?_, ?_, ?_, ?_, ?_, ?_, ?_, ?_, ?_, ?_, ?_, ?_, hk, hp, ?_, ?_, ?_, ?_, ?_, ?_, ?_, ?_, ?_⟩ <;> simp only [s.P, s.Mv, s.t, s.od, s.wc, s.rl, s.rr, s.wg, s.sc, s.sg, s.su, s.us, s.bc, s.tx, s.fl, s.sl, s.se, s.fc, s.fo, s.st, s.dc, s.dn, m.P, m.Mv, m.t, m.wc, m.ln, m.rr, m.sc, m.go, m.us, m.ud, m.sz, m.tx, m.nw, m.tl, m.te] <;> assumption
theorem j_read {X : Nat × (Nat → Int32)} {d : Nat} {A : CA} {R : RA} {o : Nat → Int64} (H : RE A R) : ∃ (v : Int32) (A2 : CA) (R2 : RA), px_ev X (d + 8) 75 [.ref 0] (WW A R o) (some (some (.int v)), WW A2 R o, 0, 0) ∧ px_ev X (d + 8) 107 [.ref 26] (WW A2 R o) (some (some (.int v)), WW A2 R2 o, 0, 0) ∧ RE A2 R2 := by
  have hq0 := rt_ok A.bc 0 (r0 A) H.nv H.tx
  have hrd := g_readRows (X := X) (d := 0) (A := A) (R := R) (o := o) H.bc H.tx H.nv
  have S0 : SI (r0 A) (RA.s_tm (RA.s_dp (RA.s_mn (RA.s_th R 0) 0) 0) 0) (0, R.cm, 0) := ⟨H.nv, H.p, H.m, H.t, H.sz, H.te, H.bc, H.tx, rfl, ⟨(show 0 ≤ 400 by decide), (show 0 < 2 by decide), fun q => by cases q⟩, ⟨rfl, rfl, fun _ q hq => absurd hq (Nat.not_lt_zero _)⟩, fun i hi => absurd hi (Nat.not_lt_zero _)⟩
  have hlk := fun (A9 : CA) => g_look (X := X) (d := 0) (A := A9) (R := RA.s_th R 0) (o := o) S0 rfl
  change ∀ A9 : CA, ∃ R2 : RA, px_ev X (0 + 7) 108 [.ref 26] (WW A9 (RA.s_th R 0) o) (some (some (.int (lkr A.bc (rt A.bc 0 (r0 A))))), WW A9 R2 o, 0, 0) ∧ SI (rt A.bc 0 (r0 A)).2 R2 (R2.mn, R2.cm, R2.tm) ∧ sM (RA.s_th R 0) R2 at hlk
  change px_ev X (0 + 6) 13 [.ref 4] (WW A R o) (some (some (.int (nI (rt A.bc 0 (r0 A)).1))), WW (rt A.bc 0 (r0 A)).2 R o, 0, 0) at hrd
  generalize rt A.bc 0 (r0 A) = q at hq0 hrd hlk
  obtain ⟨N, s0, he⟩ := hq0
  have s : sR A q.2 := s0
  have hbc := s.bc
  have b100 := H.bc
  have N8 : q.2.dp ≤ 8 := N.2.2.1
  have NB := N.2.1
  have hwc30 := H.V.wc
  have hswc := s.wc
  have hov2 : q.2.ov < 2 := NB.2.2
  have h400 : q.2.rc ≤ 400 := NB.1
  have TQ : TV q.2.P q.2.Mv q.2.t q.2.od := N.1
  by_cases ha : q.1 < A.bc
  · obtain ⟨R1, hlk1, S1, m0⟩ := hlk (CA.s_bc q.2 0)
    have REC : RE q.2 R1 := RE_read (R := RA.s_th R 0) H s m0 N.2.2.2.1 N.2.2.2.2.2.2.1
    rw [show lkr A.bc q = nI q.1 from if_pos ha] at hlk1
    refine ⟨((-1) - nI q.1), CA.s_bc q.2 0, RA.s_sz R1 0, ?_, ?_, ?_⟩
    · skip
      refine wp_ev (d := d + 7) (by decide) rfl rfl (fun h => by cases h) ?_
      show wp X (d + 7) 75 (0, [.ref 0, .retAddr 0, .retAddr 0, .retAddr 0], [], WW A R o, 0, 0) _
      refine wz_aload_n (p9 := 1) rfl rfl rfl ?_
      refine wz_get (v := .ref 4) (p9 := 4) rfl rfl rfl rfl rfl ?_
      refine wz_c1 (p9 := 7) (w1 := WW q.2 R o) (u := .int (nI q.1)) (wa_v (N := 13) (i := 4) (As := []) (rest := []) rfl rfl rfl rfl rfl rfl rfl) rfl (hrd.up (Nat.le_trans (m := 7) (by decide) (Nat.le_add_left 7 d))) ?_
      refine wz_istore_n (l9 := [.ref 0, .int (nI q.1), .retAddr 0, .retAddr 0]) (p9 := 8) rfl rfl rfl rfl ?_
      refine wz_aload_n (p9 := 9) rfl rfl rfl ?_
      refine wz_get (v := .ref 4) (p9 := 12) rfl rfl rfl rfl rfl ?_
      refine wz_c1 (p9 := 15) (w1 := WW (CA.s_bc q.2 0) R o) (u := .int (nI q.2.bc)) (wa_v (N := 27) (i := 4) (As := []) (rest := []) rfl rfl rfl rfl rfl rfl rfl) rfl ((g_dropText (d := 0)).up (Nat.le_trans (m := 7) (by decide) (Nat.le_add_left 7 d))) ?_
      refine wz_istore_n (l9 := [.ref 0, .int (nI q.1), .int (nI q.2.bc), .retAddr 0]) (p9 := 16) rfl rfl rfl rfl ?_
      refine wz_iload_n (p9 := 17) rfl rfl rfl ?_
      refine wz_iload_n (p9 := 18) rfl rfl rfl ?_
      refine wn_iclt (t9 := 31) (p9 := 21) rfl rfl rfl (by omega) (by omega) (fun _ => ?_) (fun h9 => by omega)
      refine wz_iconst (x := (-1)) (p9 := 32) rfl rfl (by decide) ?_
      refine wz_iload_n (p9 := 33) rfl rfl rfl ?_
      refine wz_isub (v := ((-1) - (nI q.1))) (p9 := 34) rfl rfl rfl ?_
      exact wz_reti rfl rfl rfl
    · skip
      refine wp_ev (d := d + 7) (by decide) rfl rfl (fun h => by cases h) ?_
      show wp X (d + 7) 107 (0, [.ref 26, .retAddr 0], [], WW (CA.s_bc q.2 0) R o, 0, 0) _
      refine wz_aload_n (p9 := 1) rfl rfl rfl ?_
      refine wz_iconst (x := nI 0) (p9 := 2) rfl rfl (by decide) ?_
      refine wp_Rth (x := 0) (p9 := 5) rfl rfl rfl rfl (R1 := (RA.s_th R 0)) rfl ?_
      refine wz_aload_n (p9 := 6) rfl rfl rfl ?_
      refine wz_c1 (p9 := 9) (w1 := WW (CA.s_bc q.2 0) R1 o) (u := .int (nI q.1)) (wa_v (N := 108) (i := 26) (As := []) (rest := []) rfl rfl rfl rfl rfl rfl rfl) rfl (hlk1.up (Nat.le_trans (m := 7) (by decide) (Nat.le_add_left 7 d))) ?_
      refine wz_istore_n (l9 := [.ref 26, .int (nI q.1)]) (p9 := 10) rfl rfl rfl rfl ?_
      refine wz_aload_n (p9 := 11) rfl rfl rfl ?_
      refine wz_iconst (x := nI 0) (p9 := 12) rfl rfl (by decide) ?_
      refine wp_Rsz (x := 0) (p9 := 15) rfl rfl rfl rfl (R1 := (RA.s_sz R1 0)) rfl ?_
      refine wz_iload_n (p9 := 16) rfl rfl rfl ?_
      refine wn_iflt (t9 := 23) (p9 := 19) rfl rfl rfl (by omega) (fun h9 => by omega) (fun _ => ?_)
      refine wz_iconst (x := (-1)) (p9 := 20) rfl rfl (by decide) ?_
      refine wz_iload_n (p9 := 21) rfl rfl rfl ?_
      refine wz_isub (v := ((-1) - (nI q.1))) (p9 := 22) rfl rfl rfl ?_
      exact wz_reti rfl rfl rfl
    · exact ⟨REC.T, REC.p, REC.m, REC.t, REC.V, REC.wi, REC.wc, REC.ln, REC.rr, REC.S, REC.sP, REC.uw, REC.sc, REC.go, REC.us, REC.ud, (show 0 ≤ 100 by decide), REC.tx, rfl, REC.te, REC.kd, REC.pl, REC.fl, REC.sl, REC.se, REC.fc, REC.st, REC.nw, REC.dc, REC.tl, REC.dn⟩
  have he2 : q.1 = A.bc := by omega
  by_cases hd : 0 < q.2.dp
  · obtain ⟨R1, hlk1, S1, m0⟩ := hlk (CA.s_bc q.2 0)
    have REC : RE q.2 R1 := RE_read (R := RA.s_th R 0) H s m0 N.2.2.2.1 N.2.2.2.2.2.2.1
    rw [show lkr A.bc q = nI q.1 from (if_neg ha).trans ((if_pos hd).trans (by rw [he2]))] at hlk1
    refine ⟨((-1) - nI q.1), CA.s_bc q.2 0, RA.s_sz R1 0, ?_, ?_, ?_⟩
    · skip
      refine wp_ev (d := d + 7) (by decide) rfl rfl (fun h => by cases h) ?_
      show wp X (d + 7) 75 (0, [.ref 0, .retAddr 0, .retAddr 0, .retAddr 0], [], WW A R o, 0, 0) _
      refine wz_aload_n (p9 := 1) rfl rfl rfl ?_
      refine wz_get (v := .ref 4) (p9 := 4) rfl rfl rfl rfl rfl ?_
      refine wz_c1 (p9 := 7) (w1 := WW q.2 R o) (u := .int (nI q.1)) (wa_v (N := 13) (i := 4) (As := []) (rest := []) rfl rfl rfl rfl rfl rfl rfl) rfl (hrd.up (Nat.le_trans (m := 7) (by decide) (Nat.le_add_left 7 d))) ?_
      refine wz_istore_n (l9 := [.ref 0, .int (nI q.1), .retAddr 0, .retAddr 0]) (p9 := 8) rfl rfl rfl rfl ?_
      refine wz_aload_n (p9 := 9) rfl rfl rfl ?_
      refine wz_get (v := .ref 4) (p9 := 12) rfl rfl rfl rfl rfl ?_
      refine wz_c1 (p9 := 15) (w1 := WW (CA.s_bc q.2 0) R o) (u := .int (nI q.2.bc)) (wa_v (N := 27) (i := 4) (As := []) (rest := []) rfl rfl rfl rfl rfl rfl rfl) rfl ((g_dropText (d := 0)).up (Nat.le_trans (m := 7) (by decide) (Nat.le_add_left 7 d))) ?_
      refine wz_istore_n (l9 := [.ref 0, .int (nI q.1), .int (nI q.2.bc), .retAddr 0]) (p9 := 16) rfl rfl rfl rfl ?_
      refine wz_iload_n (p9 := 17) rfl rfl rfl ?_
      refine wz_iload_n (p9 := 18) rfl rfl rfl ?_
      refine wn_iclt (t9 := 31) (p9 := 21) rfl rfl rfl (by omega) (by omega) (fun h9 => by omega) (fun _ => ?_)
      refine wz_aload_n (p9 := 22) rfl rfl rfl ?_
      refine wz_get (v := .ref 4) (p9 := 25) rfl rfl rfl rfl rfl ?_
      refine wz_c1 (p9 := 28) (w1 := WW (CA.s_bc q.2 0) R o) (u := .int (nI 1)) (wa_v (N := 28) (i := 4) (As := []) (rest := []) rfl rfl rfl rfl rfl rfl rfl) rfl (by have h9 := g_isOpen (X := X) (d := 0) (A := CA.s_bc q.2 0) (R := R) (o := o) N8; rw [if_pos (show 0 < (CA.s_bc q.2 0).dp from hd)] at h9; exact h9.up (Nat.le_trans (m := 7) (by decide) (Nat.le_add_left 7 d))) ?_
      refine wn_ifeq (t9 := 35) (p9 := 31) rfl rfl rfl (by omega) (fun h9 => by omega) (fun _ => ?_)
      refine wz_iconst (x := (-1)) (p9 := 32) rfl rfl (by decide) ?_
      refine wz_iload_n (p9 := 33) rfl rfl rfl ?_
      refine wz_isub (v := ((-1) - (nI q.1))) (p9 := 34) rfl rfl rfl ?_
      exact wz_reti rfl rfl rfl
    · skip
      refine wp_ev (d := d + 7) (by decide) rfl rfl (fun h => by cases h) ?_
      show wp X (d + 7) 107 (0, [.ref 26, .retAddr 0], [], WW (CA.s_bc q.2 0) R o, 0, 0) _
      refine wz_aload_n (p9 := 1) rfl rfl rfl ?_
      refine wz_iconst (x := nI 0) (p9 := 2) rfl rfl (by decide) ?_
      refine wp_Rth (x := 0) (p9 := 5) rfl rfl rfl rfl (R1 := (RA.s_th R 0)) rfl ?_
      refine wz_aload_n (p9 := 6) rfl rfl rfl ?_
      refine wz_c1 (p9 := 9) (w1 := WW (CA.s_bc q.2 0) R1 o) (u := .int (nI q.1)) (wa_v (N := 108) (i := 26) (As := []) (rest := []) rfl rfl rfl rfl rfl rfl rfl) rfl (hlk1.up (Nat.le_trans (m := 7) (by decide) (Nat.le_add_left 7 d))) ?_
      refine wz_istore_n (l9 := [.ref 26, .int (nI q.1)]) (p9 := 10) rfl rfl rfl rfl ?_
      refine wz_aload_n (p9 := 11) rfl rfl rfl ?_
      refine wz_iconst (x := nI 0) (p9 := 12) rfl rfl (by decide) ?_
      refine wp_Rsz (x := 0) (p9 := 15) rfl rfl rfl rfl (R1 := (RA.s_sz R1 0)) rfl ?_
      refine wz_iload_n (p9 := 16) rfl rfl rfl ?_
      refine wn_iflt (t9 := 23) (p9 := 19) rfl rfl rfl (by omega) (fun h9 => by omega) (fun _ => ?_)
      refine wz_iconst (x := (-1)) (p9 := 20) rfl rfl (by decide) ?_
      refine wz_iload_n (p9 := 21) rfl rfl rfl ?_
      refine wz_isub (v := ((-1) - (nI q.1))) (p9 := 22) rfl rfl rfl ?_
      exact wz_reti rfl rfl rfl
    · exact ⟨REC.T, REC.p, REC.m, REC.t, REC.V, REC.wi, REC.wc, REC.ln, REC.rr, REC.S, REC.sP, REC.uw, REC.sc, REC.go, REC.us, REC.ud, (show 0 ≤ 100 by decide), REC.tx, rfl, REC.te, REC.kd, REC.pl, REC.fl, REC.sl, REC.se, REC.fc, REC.st, REC.nw, REC.dc, REC.tl, REC.dn⟩
  by_cases hov : q.2.ov = 1
  · obtain ⟨R1, hlk1, S1, m0⟩ := hlk (CA.s_bc q.2 0)
    have REC : RE q.2 R1 := RE_read (R := RA.s_th R 0) H s m0 N.2.2.2.1 N.2.2.2.2.2.2.1
    rw [show lkr A.bc q = -1 from (if_neg ha).trans (if_neg hd)] at hlk1
    have e1 : q.2.rc = R1.mn := S1.eq.1
    have e2 : q.2.ov = R1.tm := S1.eq.2.1
    have e3 := REC.wc
    refine ⟨(-200), CA.s_bc q.2 0, RA.s_sz R1 0, ?_, ?_, ?_⟩
    · skip
      refine wp_ev (d := d + 7) (by decide) rfl rfl (fun h => by cases h) ?_
      show wp X (d + 7) 75 (0, [.ref 0, .retAddr 0, .retAddr 0, .retAddr 0], [], WW A R o, 0, 0) _
      refine wz_aload_n (p9 := 1) rfl rfl rfl ?_
      refine wz_get (v := .ref 4) (p9 := 4) rfl rfl rfl rfl rfl ?_
      refine wz_c1 (p9 := 7) (w1 := WW q.2 R o) (u := .int (nI q.1)) (wa_v (N := 13) (i := 4) (As := []) (rest := []) rfl rfl rfl rfl rfl rfl rfl) rfl (hrd.up (Nat.le_trans (m := 7) (by decide) (Nat.le_add_left 7 d))) ?_
      refine wz_istore_n (l9 := [.ref 0, .int (nI q.1), .retAddr 0, .retAddr 0]) (p9 := 8) rfl rfl rfl rfl ?_
      refine wz_aload_n (p9 := 9) rfl rfl rfl ?_
      refine wz_get (v := .ref 4) (p9 := 12) rfl rfl rfl rfl rfl ?_
      refine wz_c1 (p9 := 15) (w1 := WW (CA.s_bc q.2 0) R o) (u := .int (nI q.2.bc)) (wa_v (N := 27) (i := 4) (As := []) (rest := []) rfl rfl rfl rfl rfl rfl rfl) rfl ((g_dropText (d := 0)).up (Nat.le_trans (m := 7) (by decide) (Nat.le_add_left 7 d))) ?_
      refine wz_istore_n (l9 := [.ref 0, .int (nI q.1), .int (nI q.2.bc), .retAddr 0]) (p9 := 16) rfl rfl rfl rfl ?_
      refine wz_iload_n (p9 := 17) rfl rfl rfl ?_
      refine wz_iload_n (p9 := 18) rfl rfl rfl ?_
      refine wn_iclt (t9 := 31) (p9 := 21) rfl rfl rfl (by omega) (by omega) (fun h9 => by omega) (fun _ => ?_)
      refine wz_aload_n (p9 := 22) rfl rfl rfl ?_
      refine wz_get (v := .ref 4) (p9 := 25) rfl rfl rfl rfl rfl ?_
      refine wz_c1 (p9 := 28) (w1 := WW (CA.s_bc q.2 0) R o) (u := .int (nI 0)) (wa_v (N := 28) (i := 4) (As := []) (rest := []) rfl rfl rfl rfl rfl rfl rfl) rfl (by have h9 := g_isOpen (X := X) (d := 0) (A := CA.s_bc q.2 0) (R := R) (o := o) N8; rw [if_neg (show ¬ 0 < (CA.s_bc q.2 0).dp from hd)] at h9; exact h9.up (Nat.le_trans (m := 7) (by decide) (Nat.le_add_left 7 d))) ?_
      refine wn_ifeq (t9 := 35) (p9 := 31) rfl rfl rfl (by omega) (fun _ => ?_) (fun h9 => by omega)
      refine wz_aload_n (p9 := 36) rfl rfl rfl ?_
      refine wz_get (v := .ref 4) (p9 := 39) rfl rfl rfl rfl rfl ?_
      refine wz_c1 (p9 := 42) (w1 := WW (CA.s_bc q.2 0) R o) (u := .int (nI 1)) (wa_v (N := 29) (i := 4) (As := []) (rest := []) rfl rfl rfl rfl rfl rfl rfl) rfl (by have h9 := g_isOver (X := X) (d := 0) (A := CA.s_bc q.2 0) (R := R) (o := o) hov2; rw [show (CA.s_bc q.2 0).ov = 1 from hov] at h9; exact h9.up (Nat.le_trans (m := 7) (by decide) (Nat.le_add_left 7 d))) ?_
      refine wn_ifne (t9 := 55) (p9 := 45) rfl rfl rfl (by omega) (fun _ => ?_) (fun h9 => by omega)
      refine wz_sipush (x := (-200)) (p9 := 58) rfl rfl (by decide) ?_
      exact wz_reti rfl rfl rfl
    · skip
      refine wp_ev (d := d + 7) (by decide) rfl rfl (fun h => by cases h) ?_
      show wp X (d + 7) 107 (0, [.ref 26, .retAddr 0], [], WW (CA.s_bc q.2 0) R o, 0, 0) _
      refine wz_aload_n (p9 := 1) rfl rfl rfl ?_
      refine wz_iconst (x := nI 0) (p9 := 2) rfl rfl (by decide) ?_
      refine wp_Rth (x := 0) (p9 := 5) rfl rfl rfl rfl (R1 := (RA.s_th R 0)) rfl ?_
      refine wz_aload_n (p9 := 6) rfl rfl rfl ?_
      refine wz_c1 (p9 := 9) (w1 := WW (CA.s_bc q.2 0) R1 o) (u := .int (-1)) (wa_v (N := 108) (i := 26) (As := []) (rest := []) rfl rfl rfl rfl rfl rfl rfl) rfl (hlk1.up (Nat.le_trans (m := 7) (by decide) (Nat.le_add_left 7 d))) ?_
      refine wz_istore_n (l9 := [.ref 26, .int (-1)]) (p9 := 10) rfl rfl rfl rfl ?_
      refine wz_aload_n (p9 := 11) rfl rfl rfl ?_
      refine wz_iconst (x := nI 0) (p9 := 12) rfl rfl (by decide) ?_
      refine wp_Rsz (x := 0) (p9 := 15) rfl rfl rfl rfl (R1 := (RA.s_sz R1 0)) rfl ?_
      refine wz_iload_n (p9 := 16) rfl rfl rfl ?_
      refine wz_iflt (t9 := 23) (p9 := 19) rfl rfl rfl (fun _ => ?_) (fun h9 => absurd (by decide) h9)
      refine wz_aload_n (p9 := 24) rfl rfl rfl ?_
      refine wz_get (v := .int (nI R1.tm)) (p9 := 27) rfl rfl rfl rfl rfl ?_
      refine wn_ifne (t9 := 39) (p9 := 30) rfl rfl rfl (by omega) (fun _ => ?_) (fun h9 => by omega)
      refine wz_sipush (x := (-200)) (p9 := 42) rfl rfl (by decide) ?_
      exact wz_reti rfl rfl rfl
    · exact ⟨REC.T, REC.p, REC.m, REC.t, REC.V, REC.wi, REC.wc, REC.ln, REC.rr, REC.S, REC.sP, REC.uw, REC.sc, REC.go, REC.us, REC.ud, (show 0 ≤ 100 by decide), REC.tx, rfl, REC.te, REC.kd, REC.pl, REC.fl, REC.sl, REC.se, REC.fc, REC.st, REC.nw, REC.dc, REC.tl, REC.dn⟩
  have hov : q.2.ov = 0 := by omega
  by_cases hfull : A.wc = 30
  · obtain ⟨R1, hlk1, S1, m0⟩ := hlk (CA.s_bc q.2 0)
    have REC : RE q.2 R1 := RE_read (R := RA.s_th R 0) H s m0 N.2.2.2.1 N.2.2.2.2.2.2.1
    rw [show lkr A.bc q = -1 from (if_neg ha).trans (if_neg hd)] at hlk1
    have e1 : q.2.rc = R1.mn := S1.eq.1
    have e2 : q.2.ov = R1.tm := S1.eq.2.1
    have e3 := REC.wc
    refine ⟨(-200), CA.s_bc q.2 0, RA.s_sz R1 0, ?_, ?_, ?_⟩
    · skip
      refine wp_ev (d := d + 7) (by decide) rfl rfl (fun h => by cases h) ?_
      show wp X (d + 7) 75 (0, [.ref 0, .retAddr 0, .retAddr 0, .retAddr 0], [], WW A R o, 0, 0) _
      refine wz_aload_n (p9 := 1) rfl rfl rfl ?_
      refine wz_get (v := .ref 4) (p9 := 4) rfl rfl rfl rfl rfl ?_
      refine wz_c1 (p9 := 7) (w1 := WW q.2 R o) (u := .int (nI q.1)) (wa_v (N := 13) (i := 4) (As := []) (rest := []) rfl rfl rfl rfl rfl rfl rfl) rfl (hrd.up (Nat.le_trans (m := 7) (by decide) (Nat.le_add_left 7 d))) ?_
      refine wz_istore_n (l9 := [.ref 0, .int (nI q.1), .retAddr 0, .retAddr 0]) (p9 := 8) rfl rfl rfl rfl ?_
      refine wz_aload_n (p9 := 9) rfl rfl rfl ?_
      refine wz_get (v := .ref 4) (p9 := 12) rfl rfl rfl rfl rfl ?_
      refine wz_c1 (p9 := 15) (w1 := WW (CA.s_bc q.2 0) R o) (u := .int (nI q.2.bc)) (wa_v (N := 27) (i := 4) (As := []) (rest := []) rfl rfl rfl rfl rfl rfl rfl) rfl ((g_dropText (d := 0)).up (Nat.le_trans (m := 7) (by decide) (Nat.le_add_left 7 d))) ?_
      refine wz_istore_n (l9 := [.ref 0, .int (nI q.1), .int (nI q.2.bc), .retAddr 0]) (p9 := 16) rfl rfl rfl rfl ?_
      refine wz_iload_n (p9 := 17) rfl rfl rfl ?_
      refine wz_iload_n (p9 := 18) rfl rfl rfl ?_
      refine wn_iclt (t9 := 31) (p9 := 21) rfl rfl rfl (by omega) (by omega) (fun h9 => by omega) (fun _ => ?_)
      refine wz_aload_n (p9 := 22) rfl rfl rfl ?_
      refine wz_get (v := .ref 4) (p9 := 25) rfl rfl rfl rfl rfl ?_
      refine wz_c1 (p9 := 28) (w1 := WW (CA.s_bc q.2 0) R o) (u := .int (nI 0)) (wa_v (N := 28) (i := 4) (As := []) (rest := []) rfl rfl rfl rfl rfl rfl rfl) rfl (by have h9 := g_isOpen (X := X) (d := 0) (A := CA.s_bc q.2 0) (R := R) (o := o) N8; rw [if_neg (show ¬ 0 < (CA.s_bc q.2 0).dp from hd)] at h9; exact h9.up (Nat.le_trans (m := 7) (by decide) (Nat.le_add_left 7 d))) ?_
      refine wn_ifeq (t9 := 35) (p9 := 31) rfl rfl rfl (by omega) (fun _ => ?_) (fun h9 => by omega)
      refine wz_aload_n (p9 := 36) rfl rfl rfl ?_
      refine wz_get (v := .ref 4) (p9 := 39) rfl rfl rfl rfl rfl ?_
      refine wz_c1 (p9 := 42) (w1 := WW (CA.s_bc q.2 0) R o) (u := .int (nI 0)) (wa_v (N := 29) (i := 4) (As := []) (rest := []) rfl rfl rfl rfl rfl rfl rfl) rfl (by have h9 := g_isOver (X := X) (d := 0) (A := CA.s_bc q.2 0) (R := R) (o := o) hov2; rw [show (CA.s_bc q.2 0).ov = 0 from hov] at h9; exact h9.up (Nat.le_trans (m := 7) (by decide) (Nat.le_add_left 7 d))) ?_
      refine wn_ifne (t9 := 55) (p9 := 45) rfl rfl rfl (by omega) (fun h9 => by omega) (fun _ => ?_)
      refine wz_aload_n (p9 := 46) rfl rfl rfl ?_
      refine wz_get (v := .ref 10) (p9 := 49) rfl rfl rfl rfl rfl ?_
      refine wz_c1 (p9 := 52) (w1 := WW (CA.s_bc q.2 0) R o) (u := .int (nI 1)) (wa_v (N := 33) (i := 10) (As := []) (rest := []) rfl rfl rfl rfl rfl rfl rfl) rfl (by have h9 := g_isFull (X := X) (d := 0) (A := CA.s_bc q.2 0) (R := R) (o := o) (show q.2.wc ≤ 30 by omega); rw [if_pos (show (CA.s_bc q.2 0).wc = 30 from hswc.trans hfull)] at h9; exact h9.up (Nat.le_trans (m := 7) (by decide) (Nat.le_add_left 7 d))) ?_
      refine wn_ifeq (t9 := 59) (p9 := 55) rfl rfl rfl (by omega) (fun h9 => by omega) (fun _ => ?_)
      refine wz_sipush (x := (-200)) (p9 := 58) rfl rfl (by decide) ?_
      exact wz_reti rfl rfl rfl
    · skip
      refine wp_ev (d := d + 7) (by decide) rfl rfl (fun h => by cases h) ?_
      show wp X (d + 7) 107 (0, [.ref 26, .retAddr 0], [], WW (CA.s_bc q.2 0) R o, 0, 0) _
      refine wz_aload_n (p9 := 1) rfl rfl rfl ?_
      refine wz_iconst (x := nI 0) (p9 := 2) rfl rfl (by decide) ?_
      refine wp_Rth (x := 0) (p9 := 5) rfl rfl rfl rfl (R1 := (RA.s_th R 0)) rfl ?_
      refine wz_aload_n (p9 := 6) rfl rfl rfl ?_
      refine wz_c1 (p9 := 9) (w1 := WW (CA.s_bc q.2 0) R1 o) (u := .int (-1)) (wa_v (N := 108) (i := 26) (As := []) (rest := []) rfl rfl rfl rfl rfl rfl rfl) rfl (hlk1.up (Nat.le_trans (m := 7) (by decide) (Nat.le_add_left 7 d))) ?_
      refine wz_istore_n (l9 := [.ref 26, .int (-1)]) (p9 := 10) rfl rfl rfl rfl ?_
      refine wz_aload_n (p9 := 11) rfl rfl rfl ?_
      refine wz_iconst (x := nI 0) (p9 := 12) rfl rfl (by decide) ?_
      refine wp_Rsz (x := 0) (p9 := 15) rfl rfl rfl rfl (R1 := (RA.s_sz R1 0)) rfl ?_
      refine wz_iload_n (p9 := 16) rfl rfl rfl ?_
      refine wz_iflt (t9 := 23) (p9 := 19) rfl rfl rfl (fun _ => ?_) (fun h9 => absurd (by decide) h9)
      refine wz_aload_n (p9 := 24) rfl rfl rfl ?_
      refine wz_get (v := .int (nI R1.tm)) (p9 := 27) rfl rfl rfl rfl rfl ?_
      refine wn_ifne (t9 := 39) (p9 := 30) rfl rfl rfl (by omega) (fun h9 => by omega) (fun _ => ?_)
      refine wz_aload_n (p9 := 31) rfl rfl rfl ?_
      refine wz_get (v := .int (nI R1.wc)) (p9 := 34) rfl rfl rfl rfl rfl ?_
      refine wz_bipush (x := nI 30) (p9 := 36) rfl rfl (by decide) ?_
      refine wn_icne (t9 := 43) (p9 := 39) rfl rfl rfl (by omega) (by omega) (fun h9 => by omega) (fun _ => ?_)
      refine wz_sipush (x := (-200)) (p9 := 42) rfl rfl (by decide) ?_
      exact wz_reti rfl rfl rfl
    · exact ⟨REC.T, REC.p, REC.m, REC.t, REC.V, REC.wi, REC.wc, REC.ln, REC.rr, REC.S, REC.sP, REC.uw, REC.sc, REC.go, REC.us, REC.ud, (show 0 ≤ 100 by decide), REC.tx, rfl, REC.te, REC.kd, REC.pl, REC.fl, REC.sl, REC.se, REC.fc, REC.st, REC.nw, REC.dc, REC.tl, REC.dn⟩
  have hs0 := sh_ok TQ.oo q.2.rc 0 0 q.2.bu (Nat.zero_add _) (Nat.le_refl _) NB.2.1
  by_cases hL : 40 < (sh q.2.od q.2.rc 0 0 q.2.bu).1
  · obtain ⟨R1, hlk1, S1, m0⟩ := hlk (CA.s_bc (CA.s_rc (CA.s_bu q.2 (sh q.2.od q.2.rc 0 0 q.2.bu).2) (sh q.2.od q.2.rc 0 0 q.2.bu).1) 0)
    have REC : RE q.2 R1 := RE_read (R := RA.s_th R 0) H s m0 N.2.2.2.1 N.2.2.2.2.2.2.1
    rw [show lkr A.bc q = -1 from (if_neg ha).trans (if_neg hd)] at hlk1
    have e1 : q.2.rc = R1.mn := S1.eq.1
    have e2 : q.2.ov = R1.tm := S1.eq.2.1
    have e3 := REC.wc
    have ro9 : ∀ i, i < q.2.rc → q.2.bu i = R1.cm i := S1.eq.2.2 hov
    obtain ⟨hs1, hs2⟩ := sh_ev (od := q.2.od) q.2.rc 0 0 q.2.bu R1.cm (Nat.zero_add _) (Nat.le_refl _) ro9
    rw [e1] at hs1 hs2
    have hs1 : (sh q.2.od q.2.rc 0 0 q.2.bu).1 = (sh q.2.od R1.mn 0 0 R1.cm).1 := by rw [e1]; exact hs1
    refine ⟨(-200), CA.s_bc (CA.s_rc (CA.s_bu q.2 (sh q.2.od q.2.rc 0 0 q.2.bu).2) (sh q.2.od q.2.rc 0 0 q.2.bu).1) 0, RA.s_mn (RA.s_cm (RA.s_sz R1 0) (sh q.2.od R1.mn 0 0 R1.cm).2) (sh q.2.od R1.mn 0 0 R1.cm).1, ?_, ?_, ?_⟩
    · skip
      refine wp_ev (d := d + 7) (by decide) rfl rfl (fun h => by cases h) ?_
      show wp X (d + 7) 75 (0, [.ref 0, .retAddr 0, .retAddr 0, .retAddr 0], [], WW A R o, 0, 0) _
      refine wz_aload_n (p9 := 1) rfl rfl rfl ?_
      refine wz_get (v := .ref 4) (p9 := 4) rfl rfl rfl rfl rfl ?_
      refine wz_c1 (p9 := 7) (w1 := WW q.2 R o) (u := .int (nI q.1)) (wa_v (N := 13) (i := 4) (As := []) (rest := []) rfl rfl rfl rfl rfl rfl rfl) rfl (hrd.up (Nat.le_trans (m := 7) (by decide) (Nat.le_add_left 7 d))) ?_
      refine wz_istore_n (l9 := [.ref 0, .int (nI q.1), .retAddr 0, .retAddr 0]) (p9 := 8) rfl rfl rfl rfl ?_
      refine wz_aload_n (p9 := 9) rfl rfl rfl ?_
      refine wz_get (v := .ref 4) (p9 := 12) rfl rfl rfl rfl rfl ?_
      refine wz_c1 (p9 := 15) (w1 := WW (CA.s_bc q.2 0) R o) (u := .int (nI q.2.bc)) (wa_v (N := 27) (i := 4) (As := []) (rest := []) rfl rfl rfl rfl rfl rfl rfl) rfl ((g_dropText (d := 0)).up (Nat.le_trans (m := 7) (by decide) (Nat.le_add_left 7 d))) ?_
      refine wz_istore_n (l9 := [.ref 0, .int (nI q.1), .int (nI q.2.bc), .retAddr 0]) (p9 := 16) rfl rfl rfl rfl ?_
      refine wz_iload_n (p9 := 17) rfl rfl rfl ?_
      refine wz_iload_n (p9 := 18) rfl rfl rfl ?_
      refine wn_iclt (t9 := 31) (p9 := 21) rfl rfl rfl (by omega) (by omega) (fun h9 => by omega) (fun _ => ?_)
      refine wz_aload_n (p9 := 22) rfl rfl rfl ?_
      refine wz_get (v := .ref 4) (p9 := 25) rfl rfl rfl rfl rfl ?_
      refine wz_c1 (p9 := 28) (w1 := WW (CA.s_bc q.2 0) R o) (u := .int (nI 0)) (wa_v (N := 28) (i := 4) (As := []) (rest := []) rfl rfl rfl rfl rfl rfl rfl) rfl (by have h9 := g_isOpen (X := X) (d := 0) (A := CA.s_bc q.2 0) (R := R) (o := o) N8; rw [if_neg (show ¬ 0 < (CA.s_bc q.2 0).dp from hd)] at h9; exact h9.up (Nat.le_trans (m := 7) (by decide) (Nat.le_add_left 7 d))) ?_
      refine wn_ifeq (t9 := 35) (p9 := 31) rfl rfl rfl (by omega) (fun _ => ?_) (fun h9 => by omega)
      refine wz_aload_n (p9 := 36) rfl rfl rfl ?_
      refine wz_get (v := .ref 4) (p9 := 39) rfl rfl rfl rfl rfl ?_
      refine wz_c1 (p9 := 42) (w1 := WW (CA.s_bc q.2 0) R o) (u := .int (nI 0)) (wa_v (N := 29) (i := 4) (As := []) (rest := []) rfl rfl rfl rfl rfl rfl rfl) rfl (by have h9 := g_isOver (X := X) (d := 0) (A := CA.s_bc q.2 0) (R := R) (o := o) hov2; rw [show (CA.s_bc q.2 0).ov = 0 from hov] at h9; exact h9.up (Nat.le_trans (m := 7) (by decide) (Nat.le_add_left 7 d))) ?_
      refine wn_ifne (t9 := 55) (p9 := 45) rfl rfl rfl (by omega) (fun h9 => by omega) (fun _ => ?_)
      refine wz_aload_n (p9 := 46) rfl rfl rfl ?_
      refine wz_get (v := .ref 10) (p9 := 49) rfl rfl rfl rfl rfl ?_
      refine wz_c1 (p9 := 52) (w1 := WW (CA.s_bc q.2 0) R o) (u := .int (nI 0)) (wa_v (N := 33) (i := 10) (As := []) (rest := []) rfl rfl rfl rfl rfl rfl rfl) rfl (by have h9 := g_isFull (X := X) (d := 0) (A := CA.s_bc q.2 0) (R := R) (o := o) (show q.2.wc ≤ 30 by omega); rw [if_neg (show ¬ (CA.s_bc q.2 0).wc = 30 from fun z9 => hfull (hswc.symm.trans z9))] at h9; exact h9.up (Nat.le_trans (m := 7) (by decide) (Nat.le_add_left 7 d))) ?_
      refine wn_ifeq (t9 := 59) (p9 := 55) rfl rfl rfl (by omega) (fun _ => ?_) (fun h9 => by omega)
      refine wz_aload_n (p9 := 60) rfl rfl rfl ?_
      refine wz_get (v := .ref 4) (p9 := 63) rfl rfl rfl rfl rfl ?_
      refine wz_c1 (p9 := 66) (w1 := WW (CA.s_bc (CA.s_rc (CA.s_bu q.2 ((sh q.2.od q.2.rc 0 0 q.2.bu).2)) ((sh q.2.od q.2.rc 0 0 q.2.bu).1)) 0) R o) (u := .int (nI ((sh q.2.od q.2.rc 0 0 q.2.bu).1))) (wa_v (N := 30) (i := 4) (As := []) (rest := []) rfl rfl rfl rfl rfl rfl rfl) rfl ((g_shorten (d := 0) (A := CA.s_bc q.2 0) (R := R) (o := o) TQ NB).up (Nat.le_trans (m := 7) (by decide) (Nat.le_add_left 7 d))) ?_
      refine wz_istore_n (l9 := [.ref 0, .int (nI q.1), .int (nI q.2.bc), .int (nI ((sh q.2.od q.2.rc 0 0 q.2.bu).1))]) (p9 := 67) rfl rfl rfl rfl ?_
      refine wz_iload_n (p9 := 68) rfl rfl rfl ?_
      refine wz_bipush (x := nI 40) (p9 := 70) rfl rfl (by decide) ?_
      refine wn_icle (t9 := 79) (p9 := 73) rfl rfl rfl (by omega) (by omega) (fun h9 => by omega) (fun _ => ?_)
      refine wz_sipush (x := (-200)) (p9 := 76) rfl rfl (by decide) ?_
      refine wz_goto (p9 := 94) rfl rfl ?_
      exact wz_reti rfl rfl rfl
    · skip
      refine wp_ev (d := d + 7) (by decide) rfl rfl (fun h => by cases h) ?_
      show wp X (d + 7) 107 (0, [.ref 26, .retAddr 0], [], WW (CA.s_bc (CA.s_rc (CA.s_bu q.2 (sh q.2.od q.2.rc 0 0 q.2.bu).2) (sh q.2.od q.2.rc 0 0 q.2.bu).1) 0) R o, 0, 0) _
      refine wz_aload_n (p9 := 1) rfl rfl rfl ?_
      refine wz_iconst (x := nI 0) (p9 := 2) rfl rfl (by decide) ?_
      refine wp_Rth (x := 0) (p9 := 5) rfl rfl rfl rfl (R1 := (RA.s_th R 0)) rfl ?_
      refine wz_aload_n (p9 := 6) rfl rfl rfl ?_
      refine wz_c1 (p9 := 9) (w1 := WW (CA.s_bc (CA.s_rc (CA.s_bu q.2 (sh q.2.od q.2.rc 0 0 q.2.bu).2) (sh q.2.od q.2.rc 0 0 q.2.bu).1) 0) R1 o) (u := .int (-1)) (wa_v (N := 108) (i := 26) (As := []) (rest := []) rfl rfl rfl rfl rfl rfl rfl) rfl (hlk1.up (Nat.le_trans (m := 7) (by decide) (Nat.le_add_left 7 d))) ?_
      refine wz_istore_n (l9 := [.ref 26, .int (-1)]) (p9 := 10) rfl rfl rfl rfl ?_
      refine wz_aload_n (p9 := 11) rfl rfl rfl ?_
      refine wz_iconst (x := nI 0) (p9 := 12) rfl rfl (by decide) ?_
      refine wp_Rsz (x := 0) (p9 := 15) rfl rfl rfl rfl (R1 := (RA.s_sz R1 0)) rfl ?_
      refine wz_iload_n (p9 := 16) rfl rfl rfl ?_
      refine wz_iflt (t9 := 23) (p9 := 19) rfl rfl rfl (fun _ => ?_) (fun h9 => absurd (by decide) h9)
      refine wz_aload_n (p9 := 24) rfl rfl rfl ?_
      refine wz_get (v := .int (nI R1.tm)) (p9 := 27) rfl rfl rfl rfl rfl ?_
      refine wn_ifne (t9 := 39) (p9 := 30) rfl rfl rfl (by omega) (fun h9 => by omega) (fun _ => ?_)
      refine wz_aload_n (p9 := 31) rfl rfl rfl ?_
      refine wz_get (v := .int (nI R1.wc)) (p9 := 34) rfl rfl rfl rfl rfl ?_
      refine wz_bipush (x := nI 30) (p9 := 36) rfl rfl (by decide) ?_
      refine wn_icne (t9 := 43) (p9 := 39) rfl rfl rfl (by omega) (by omega) (fun _ => ?_) (fun h9 => by omega)
      refine wz_aload_n (p9 := 44) rfl rfl rfl ?_
      refine wz_c0 (p9 := 47) (w1 := WW (CA.s_bc (CA.s_rc (CA.s_bu q.2 (sh q.2.od q.2.rc 0 0 q.2.bu).2) (sh q.2.od q.2.rc 0 0 q.2.bu).1) 0) (RA.s_sz (RA.s_mn (RA.s_cm R1 ((sh q.2.od R1.mn 0 0 R1.cm).2)) ((sh q.2.od R1.mn 0 0 R1.cm).1)) 0) o) (wa_v (N := 114) (i := 26) (As := []) (rest := []) rfl rfl rfl rfl rfl rfl rfl) rfl ((g_mShorten (d := 0) (A := (CA.s_bc (CA.s_rc (CA.s_bu q.2 (sh q.2.od q.2.rc 0 0 q.2.bu).2) (sh q.2.od q.2.rc 0 0 q.2.bu).1) 0)) (R := RA.s_sz R1 0) (o := o) S1.T (show R1.mn ≤ 400 by omega) (fun i hi => S1.BO.2.2.2 (show R1.tm = 0 by omega) i hi)).up (Nat.le_trans (m := 7) (by decide) (Nat.le_add_left 7 d))) ?_
      refine wz_aload_n (p9 := 48) rfl rfl rfl ?_
      refine wz_get (v := .int (nI ((sh q.2.od R1.mn 0 0 R1.cm).1))) (p9 := 51) rfl rfl rfl rfl rfl ?_
      refine wz_bipush (x := nI 40) (p9 := 53) rfl rfl (by decide) ?_
      refine wn_icle (t9 := 62) (p9 := 56) rfl rfl rfl (by omega) (by omega) (fun h9 => by omega) (fun _ => ?_)
      refine wz_sipush (x := (-200)) (p9 := 59) rfl rfl (by decide) ?_
      refine wz_goto (p9 := 66) rfl rfl ?_
      exact wz_reti rfl rfl rfl
    · exact ⟨REC.T, REC.p, REC.m, REC.t, REC.V, REC.wi, REC.wc, REC.ln, REC.rr, REC.S, REC.sP, REC.uw, REC.sc, REC.go, REC.us, REC.ud, (show 0 ≤ 100 by decide), REC.tx, rfl, REC.te, REC.kd, REC.pl, REC.fl, REC.sl, REC.se, REC.fc, REC.st, REC.nw, REC.dc, REC.tl, REC.dn⟩
  · obtain ⟨R1, hlk1, S1, m0⟩ := hlk (CA.s_wg (CA.s_rl (CA.s_rr (CA.s_wc (CA.s_bc (CA.s_rc (CA.s_bu q.2 (sh q.2.od q.2.rc 0 0 q.2.bu).2) (sh q.2.od q.2.rc 0 0 q.2.bu).1) 0) (q.2.wc + 1)) (cpn (sh q.2.od q.2.rc 0 0 q.2.bu).2 q.2.rr (q.2.wc * 40) (sh q.2.od q.2.rc 0 0 q.2.bu).1)) (un q.2.rl q.2.wc (sh q.2.od q.2.rc 0 0 q.2.bu).1)) (wgs (im q.2.t (fun k => (cpn (sh q.2.od q.2.rc 0 0 q.2.bu).2 q.2.rr (q.2.wc * 40) (sh q.2.od q.2.rc 0 0 q.2.bu).1) (q.2.wc * 40 + k)) ((un q.2.rl q.2.wc (sh q.2.od q.2.rc 0 0 q.2.bu).1) q.2.wc)) q.2.wc q.2.P q.2.wg))
    have REC : RE q.2 R1 := RE_read (R := RA.s_th R 0) H s m0 N.2.2.2.1 N.2.2.2.2.2.2.1
    rw [show lkr A.bc q = -1 from (if_neg ha).trans (if_neg hd)] at hlk1
    have e1 : q.2.rc = R1.mn := S1.eq.1
    have e2 : q.2.ov = R1.tm := S1.eq.2.1
    have e3 := REC.wc
    have ro9 : ∀ i, i < q.2.rc → q.2.bu i = R1.cm i := S1.eq.2.2 hov
    obtain ⟨hs1, hs2⟩ := sh_ev (od := q.2.od) q.2.rc 0 0 q.2.bu R1.cm (Nat.zero_add _) (Nat.le_refl _) ro9
    rw [e1] at hs1 hs2
    have hs1 : (sh q.2.od q.2.rc 0 0 q.2.bu).1 = (sh q.2.od R1.mn 0 0 R1.cm).1 := by rw [e1]; exact hs1
    have hrow : ∀ k, k < (sh q.2.od q.2.rc 0 0 q.2.bu).1 → (sh q.2.od q.2.rc 0 0 q.2.bu).2 k < 96 := fun k hk => (hs0.2 k (by omega)).1
    have hln9 : un R1.ln R1.wc (sh q.2.od R1.mn 0 0 R1.cm).1 = un q.2.rl q.2.wc (sh q.2.od q.2.rc 0 0 q.2.bu).1 := by rw [REC.ln, e3, hs1]
    have hrr9 : cpn (sh q.2.od R1.mn 0 0 R1.cm).2 R1.rr (R1.wc * 40) (sh q.2.od R1.mn 0 0 R1.cm).1 = cpn (sh q.2.od q.2.rc 0 0 q.2.bu).2 q.2.rr (q.2.wc * 40) (sh q.2.od q.2.rc 0 0 q.2.bu).1 := by
      rw [REC.rr, e3, ← hs1]
      funext k
      unfold cpn
      by_cases hk : q.2.wc * 40 ≤ k ∧ k < q.2.wc * 40 + (sh q.2.od q.2.rc 0 0 q.2.bu).1
      · rw [if_pos hk, if_pos hk, e1]
        exact (hs2 _ (by omega)).symm
      · rw [if_neg hk, if_neg hk]
    refine ⟨(nI q.2.wc), CA.s_wg (CA.s_rl (CA.s_rr (CA.s_wc (CA.s_bc (CA.s_rc (CA.s_bu q.2 (sh q.2.od q.2.rc 0 0 q.2.bu).2) (sh q.2.od q.2.rc 0 0 q.2.bu).1) 0) (q.2.wc + 1)) (cpn (sh q.2.od q.2.rc 0 0 q.2.bu).2 q.2.rr (q.2.wc * 40) (sh q.2.od q.2.rc 0 0 q.2.bu).1)) (un q.2.rl q.2.wc (sh q.2.od q.2.rc 0 0 q.2.bu).1)) (wgs (im q.2.t (fun k => (cpn (sh q.2.od q.2.rc 0 0 q.2.bu).2 q.2.rr (q.2.wc * 40) (sh q.2.od q.2.rc 0 0 q.2.bu).1) (q.2.wc * 40 + k)) ((un q.2.rl q.2.wc (sh q.2.od q.2.rc 0 0 q.2.bu).1) q.2.wc)) q.2.wc q.2.P q.2.wg), RA.s_rr (RA.s_ln (RA.s_wc (RA.s_mn (RA.s_cm (RA.s_sz R1 0) (sh q.2.od R1.mn 0 0 R1.cm).2) (sh q.2.od R1.mn 0 0 R1.cm).1) (R1.wc + 1)) (un R1.ln R1.wc (sh q.2.od R1.mn 0 0 R1.cm).1)) (cpn (sh q.2.od R1.mn 0 0 R1.cm).2 R1.rr (R1.wc * 40) (sh q.2.od R1.mn 0 0 R1.cm).1), ?_, ?_, ?_⟩
    · skip
      refine wp_ev (d := d + 7) (by decide) rfl rfl (fun h => by cases h) ?_
      show wp X (d + 7) 75 (0, [.ref 0, .retAddr 0, .retAddr 0, .retAddr 0], [], WW A R o, 0, 0) _
      refine wz_aload_n (p9 := 1) rfl rfl rfl ?_
      refine wz_get (v := .ref 4) (p9 := 4) rfl rfl rfl rfl rfl ?_
      refine wz_c1 (p9 := 7) (w1 := WW q.2 R o) (u := .int (nI q.1)) (wa_v (N := 13) (i := 4) (As := []) (rest := []) rfl rfl rfl rfl rfl rfl rfl) rfl (hrd.up (Nat.le_trans (m := 7) (by decide) (Nat.le_add_left 7 d))) ?_
      refine wz_istore_n (l9 := [.ref 0, .int (nI q.1), .retAddr 0, .retAddr 0]) (p9 := 8) rfl rfl rfl rfl ?_
      refine wz_aload_n (p9 := 9) rfl rfl rfl ?_
      refine wz_get (v := .ref 4) (p9 := 12) rfl rfl rfl rfl rfl ?_
      refine wz_c1 (p9 := 15) (w1 := WW (CA.s_bc q.2 0) R o) (u := .int (nI q.2.bc)) (wa_v (N := 27) (i := 4) (As := []) (rest := []) rfl rfl rfl rfl rfl rfl rfl) rfl ((g_dropText (d := 0)).up (Nat.le_trans (m := 7) (by decide) (Nat.le_add_left 7 d))) ?_
      refine wz_istore_n (l9 := [.ref 0, .int (nI q.1), .int (nI q.2.bc), .retAddr 0]) (p9 := 16) rfl rfl rfl rfl ?_
      refine wz_iload_n (p9 := 17) rfl rfl rfl ?_
      refine wz_iload_n (p9 := 18) rfl rfl rfl ?_
      refine wn_iclt (t9 := 31) (p9 := 21) rfl rfl rfl (by omega) (by omega) (fun h9 => by omega) (fun _ => ?_)
      refine wz_aload_n (p9 := 22) rfl rfl rfl ?_
      refine wz_get (v := .ref 4) (p9 := 25) rfl rfl rfl rfl rfl ?_
      refine wz_c1 (p9 := 28) (w1 := WW (CA.s_bc q.2 0) R o) (u := .int (nI 0)) (wa_v (N := 28) (i := 4) (As := []) (rest := []) rfl rfl rfl rfl rfl rfl rfl) rfl (by have h9 := g_isOpen (X := X) (d := 0) (A := CA.s_bc q.2 0) (R := R) (o := o) N8; rw [if_neg (show ¬ 0 < (CA.s_bc q.2 0).dp from hd)] at h9; exact h9.up (Nat.le_trans (m := 7) (by decide) (Nat.le_add_left 7 d))) ?_
      refine wn_ifeq (t9 := 35) (p9 := 31) rfl rfl rfl (by omega) (fun _ => ?_) (fun h9 => by omega)
      refine wz_aload_n (p9 := 36) rfl rfl rfl ?_
      refine wz_get (v := .ref 4) (p9 := 39) rfl rfl rfl rfl rfl ?_
      refine wz_c1 (p9 := 42) (w1 := WW (CA.s_bc q.2 0) R o) (u := .int (nI 0)) (wa_v (N := 29) (i := 4) (As := []) (rest := []) rfl rfl rfl rfl rfl rfl rfl) rfl (by have h9 := g_isOver (X := X) (d := 0) (A := CA.s_bc q.2 0) (R := R) (o := o) hov2; rw [show (CA.s_bc q.2 0).ov = 0 from hov] at h9; exact h9.up (Nat.le_trans (m := 7) (by decide) (Nat.le_add_left 7 d))) ?_
      refine wn_ifne (t9 := 55) (p9 := 45) rfl rfl rfl (by omega) (fun h9 => by omega) (fun _ => ?_)
      refine wz_aload_n (p9 := 46) rfl rfl rfl ?_
      refine wz_get (v := .ref 10) (p9 := 49) rfl rfl rfl rfl rfl ?_
      refine wz_c1 (p9 := 52) (w1 := WW (CA.s_bc q.2 0) R o) (u := .int (nI 0)) (wa_v (N := 33) (i := 10) (As := []) (rest := []) rfl rfl rfl rfl rfl rfl rfl) rfl (by have h9 := g_isFull (X := X) (d := 0) (A := CA.s_bc q.2 0) (R := R) (o := o) (show q.2.wc ≤ 30 by omega); rw [if_neg (show ¬ (CA.s_bc q.2 0).wc = 30 from fun z9 => hfull (hswc.symm.trans z9))] at h9; exact h9.up (Nat.le_trans (m := 7) (by decide) (Nat.le_add_left 7 d))) ?_
      refine wn_ifeq (t9 := 59) (p9 := 55) rfl rfl rfl (by omega) (fun _ => ?_) (fun h9 => by omega)
      refine wz_aload_n (p9 := 60) rfl rfl rfl ?_
      refine wz_get (v := .ref 4) (p9 := 63) rfl rfl rfl rfl rfl ?_
      refine wz_c1 (p9 := 66) (w1 := WW (CA.s_bc (CA.s_rc (CA.s_bu q.2 ((sh q.2.od q.2.rc 0 0 q.2.bu).2)) ((sh q.2.od q.2.rc 0 0 q.2.bu).1)) 0) R o) (u := .int (nI ((sh q.2.od q.2.rc 0 0 q.2.bu).1))) (wa_v (N := 30) (i := 4) (As := []) (rest := []) rfl rfl rfl rfl rfl rfl rfl) rfl ((g_shorten (d := 0) (A := CA.s_bc q.2 0) (R := R) (o := o) TQ NB).up (Nat.le_trans (m := 7) (by decide) (Nat.le_add_left 7 d))) ?_
      refine wz_istore_n (l9 := [.ref 0, .int (nI q.1), .int (nI q.2.bc), .int (nI ((sh q.2.od q.2.rc 0 0 q.2.bu).1))]) (p9 := 67) rfl rfl rfl rfl ?_
      refine wz_iload_n (p9 := 68) rfl rfl rfl ?_
      refine wz_bipush (x := nI 40) (p9 := 70) rfl rfl (by decide) ?_
      refine wn_icle (t9 := 79) (p9 := 73) rfl rfl rfl (by omega) (by omega) (fun _ => ?_) (fun h9 => by omega)
      refine wz_aload_n (p9 := 80) rfl rfl rfl ?_
      refine wz_get (v := .ref 10) (p9 := 83) rfl rfl rfl rfl rfl ?_
      refine wz_aload_n (p9 := 84) rfl rfl rfl ?_
      refine wz_get (v := .ref 4) (p9 := 87) rfl rfl rfl rfl rfl ?_
      refine wz_c1 (p9 := 90) (w1 := WW (CA.s_bc (CA.s_rc (CA.s_bu q.2 ((sh q.2.od q.2.rc 0 0 q.2.bu).2)) ((sh q.2.od q.2.rc 0 0 q.2.bu).1)) 0) R o) (u := .ref 9) (wa_v (N := 31) (i := 4) (As := []) (rest := [.ref 10]) rfl rfl rfl rfl rfl rfl rfl) rfl ((g_readBuffer (d := 0)).up (Nat.le_trans (m := 7) (by decide) (Nat.le_add_left 7 d))) ?_
      refine wz_iload_n (p9 := 91) rfl rfl rfl ?_
      refine wz_c1 (p9 := 94) (w1 := WW (CA.s_wg (CA.s_rl (CA.s_rr (CA.s_wc (CA.s_bc (CA.s_rc (CA.s_bu q.2 (sh q.2.od q.2.rc 0 0 q.2.bu).2) (sh q.2.od q.2.rc 0 0 q.2.bu).1) 0) (q.2.wc + 1)) (cpn (sh q.2.od q.2.rc 0 0 q.2.bu).2 q.2.rr (q.2.wc * 40) (sh q.2.od q.2.rc 0 0 q.2.bu).1)) (un q.2.rl q.2.wc (sh q.2.od q.2.rc 0 0 q.2.bu).1)) (wgs (im q.2.t (fun k => (cpn (sh q.2.od q.2.rc 0 0 q.2.bu).2 q.2.rr (q.2.wc * 40) (sh q.2.od q.2.rc 0 0 q.2.bu).1) (q.2.wc * 40 + k)) ((un q.2.rl q.2.wc (sh q.2.od q.2.rc 0 0 q.2.bu).1) q.2.wc)) q.2.wc q.2.P q.2.wg)) R o) (u := .int (nI q.2.wc)) (wa_v (N := 34) (i := 10) (As := [.ref 9, .int (nI ((sh q.2.od q.2.rc 0 0 q.2.bu).1))]) (rest := []) rfl rfl rfl rfl rfl rfl rfl) rfl ((g_addWB (d := 0) (A := CA.s_bc (CA.s_rc (CA.s_bu q.2 (sh q.2.od q.2.rc 0 0 q.2.bu).2) (sh q.2.od q.2.rc 0 0 q.2.bu).1) 0) (R := R) (o := o) TQ (show q.2.wc < 30 by omega) (show (sh q.2.od q.2.rc 0 0 q.2.bu).1 ≤ 40 by omega) hrow).up (Nat.le_trans (m := 7) (by decide) (Nat.le_add_left 7 d))) ?_
      exact wz_reti rfl rfl rfl
    · skip
      refine wp_ev (d := d + 7) (by decide) rfl rfl (fun h => by cases h) ?_
      show wp X (d + 7) 107 (0, [.ref 26, .retAddr 0], [], WW (CA.s_wg (CA.s_rl (CA.s_rr (CA.s_wc (CA.s_bc (CA.s_rc (CA.s_bu q.2 (sh q.2.od q.2.rc 0 0 q.2.bu).2) (sh q.2.od q.2.rc 0 0 q.2.bu).1) 0) (q.2.wc + 1)) (cpn (sh q.2.od q.2.rc 0 0 q.2.bu).2 q.2.rr (q.2.wc * 40) (sh q.2.od q.2.rc 0 0 q.2.bu).1)) (un q.2.rl q.2.wc (sh q.2.od q.2.rc 0 0 q.2.bu).1)) (wgs (im q.2.t (fun k => (cpn (sh q.2.od q.2.rc 0 0 q.2.bu).2 q.2.rr (q.2.wc * 40) (sh q.2.od q.2.rc 0 0 q.2.bu).1) (q.2.wc * 40 + k)) ((un q.2.rl q.2.wc (sh q.2.od q.2.rc 0 0 q.2.bu).1) q.2.wc)) q.2.wc q.2.P q.2.wg)) R o, 0, 0) _
      refine wz_aload_n (p9 := 1) rfl rfl rfl ?_
      refine wz_iconst (x := nI 0) (p9 := 2) rfl rfl (by decide) ?_
      refine wp_Rth (x := 0) (p9 := 5) rfl rfl rfl rfl (R1 := (RA.s_th R 0)) rfl ?_
      refine wz_aload_n (p9 := 6) rfl rfl rfl ?_
      refine wz_c1 (p9 := 9) (w1 := WW (CA.s_wg (CA.s_rl (CA.s_rr (CA.s_wc (CA.s_bc (CA.s_rc (CA.s_bu q.2 (sh q.2.od q.2.rc 0 0 q.2.bu).2) (sh q.2.od q.2.rc 0 0 q.2.bu).1) 0) (q.2.wc + 1)) (cpn (sh q.2.od q.2.rc 0 0 q.2.bu).2 q.2.rr (q.2.wc * 40) (sh q.2.od q.2.rc 0 0 q.2.bu).1)) (un q.2.rl q.2.wc (sh q.2.od q.2.rc 0 0 q.2.bu).1)) (wgs (im q.2.t (fun k => (cpn (sh q.2.od q.2.rc 0 0 q.2.bu).2 q.2.rr (q.2.wc * 40) (sh q.2.od q.2.rc 0 0 q.2.bu).1) (q.2.wc * 40 + k)) ((un q.2.rl q.2.wc (sh q.2.od q.2.rc 0 0 q.2.bu).1) q.2.wc)) q.2.wc q.2.P q.2.wg)) R1 o) (u := .int (-1)) (wa_v (N := 108) (i := 26) (As := []) (rest := []) rfl rfl rfl rfl rfl rfl rfl) rfl (hlk1.up (Nat.le_trans (m := 7) (by decide) (Nat.le_add_left 7 d))) ?_
      refine wz_istore_n (l9 := [.ref 26, .int (-1)]) (p9 := 10) rfl rfl rfl rfl ?_
      refine wz_aload_n (p9 := 11) rfl rfl rfl ?_
      refine wz_iconst (x := nI 0) (p9 := 12) rfl rfl (by decide) ?_
      refine wp_Rsz (x := 0) (p9 := 15) rfl rfl rfl rfl (R1 := (RA.s_sz R1 0)) rfl ?_
      refine wz_iload_n (p9 := 16) rfl rfl rfl ?_
      refine wz_iflt (t9 := 23) (p9 := 19) rfl rfl rfl (fun _ => ?_) (fun h9 => absurd (by decide) h9)
      refine wz_aload_n (p9 := 24) rfl rfl rfl ?_
      refine wz_get (v := .int (nI R1.tm)) (p9 := 27) rfl rfl rfl rfl rfl ?_
      refine wn_ifne (t9 := 39) (p9 := 30) rfl rfl rfl (by omega) (fun h9 => by omega) (fun _ => ?_)
      refine wz_aload_n (p9 := 31) rfl rfl rfl ?_
      refine wz_get (v := .int (nI R1.wc)) (p9 := 34) rfl rfl rfl rfl rfl ?_
      refine wz_bipush (x := nI 30) (p9 := 36) rfl rfl (by decide) ?_
      refine wn_icne (t9 := 43) (p9 := 39) rfl rfl rfl (by omega) (by omega) (fun _ => ?_) (fun h9 => by omega)
      refine wz_aload_n (p9 := 44) rfl rfl rfl ?_
      refine wz_c0 (p9 := 47) (w1 := WW (CA.s_wg (CA.s_rl (CA.s_rr (CA.s_wc (CA.s_bc (CA.s_rc (CA.s_bu q.2 (sh q.2.od q.2.rc 0 0 q.2.bu).2) (sh q.2.od q.2.rc 0 0 q.2.bu).1) 0) (q.2.wc + 1)) (cpn (sh q.2.od q.2.rc 0 0 q.2.bu).2 q.2.rr (q.2.wc * 40) (sh q.2.od q.2.rc 0 0 q.2.bu).1)) (un q.2.rl q.2.wc (sh q.2.od q.2.rc 0 0 q.2.bu).1)) (wgs (im q.2.t (fun k => (cpn (sh q.2.od q.2.rc 0 0 q.2.bu).2 q.2.rr (q.2.wc * 40) (sh q.2.od q.2.rc 0 0 q.2.bu).1) (q.2.wc * 40 + k)) ((un q.2.rl q.2.wc (sh q.2.od q.2.rc 0 0 q.2.bu).1) q.2.wc)) q.2.wc q.2.P q.2.wg)) (RA.s_sz (RA.s_mn (RA.s_cm R1 ((sh q.2.od R1.mn 0 0 R1.cm).2)) ((sh q.2.od R1.mn 0 0 R1.cm).1)) 0) o) (wa_v (N := 114) (i := 26) (As := []) (rest := []) rfl rfl rfl rfl rfl rfl rfl) rfl ((g_mShorten (d := 0) (A := (CA.s_wg (CA.s_rl (CA.s_rr (CA.s_wc (CA.s_bc (CA.s_rc (CA.s_bu q.2 (sh q.2.od q.2.rc 0 0 q.2.bu).2) (sh q.2.od q.2.rc 0 0 q.2.bu).1) 0) (q.2.wc + 1)) (cpn (sh q.2.od q.2.rc 0 0 q.2.bu).2 q.2.rr (q.2.wc * 40) (sh q.2.od q.2.rc 0 0 q.2.bu).1)) (un q.2.rl q.2.wc (sh q.2.od q.2.rc 0 0 q.2.bu).1)) (wgs (im q.2.t (fun k => (cpn (sh q.2.od q.2.rc 0 0 q.2.bu).2 q.2.rr (q.2.wc * 40) (sh q.2.od q.2.rc 0 0 q.2.bu).1) (q.2.wc * 40 + k)) ((un q.2.rl q.2.wc (sh q.2.od q.2.rc 0 0 q.2.bu).1) q.2.wc)) q.2.wc q.2.P q.2.wg))) (R := RA.s_sz R1 0) (o := o) S1.T (show R1.mn ≤ 400 by omega) (fun i hi => S1.BO.2.2.2 (show R1.tm = 0 by omega) i hi)).up (Nat.le_trans (m := 7) (by decide) (Nat.le_add_left 7 d))) ?_
      refine wz_aload_n (p9 := 48) rfl rfl rfl ?_
      refine wz_get (v := .int (nI ((sh q.2.od R1.mn 0 0 R1.cm).1))) (p9 := 51) rfl rfl rfl rfl rfl ?_
      refine wz_bipush (x := nI 40) (p9 := 53) rfl rfl (by decide) ?_
      refine wn_icle (t9 := 62) (p9 := 56) rfl rfl rfl (by omega) (by omega) (fun _ => ?_) (fun h9 => by omega)
      refine wz_aload_n (p9 := 63) rfl rfl rfl ?_
      refine wz_c1 (p9 := 66) (w1 := WW (CA.s_wg (CA.s_rl (CA.s_rr (CA.s_wc (CA.s_bc (CA.s_rc (CA.s_bu q.2 (sh q.2.od q.2.rc 0 0 q.2.bu).2) (sh q.2.od q.2.rc 0 0 q.2.bu).1) 0) (q.2.wc + 1)) (cpn (sh q.2.od q.2.rc 0 0 q.2.bu).2 q.2.rr (q.2.wc * 40) (sh q.2.od q.2.rc 0 0 q.2.bu).1)) (un q.2.rl q.2.wc (sh q.2.od q.2.rc 0 0 q.2.bu).1)) (wgs (im q.2.t (fun k => (cpn (sh q.2.od q.2.rc 0 0 q.2.bu).2 q.2.rr (q.2.wc * 40) (sh q.2.od q.2.rc 0 0 q.2.bu).1) (q.2.wc * 40 + k)) ((un q.2.rl q.2.wc (sh q.2.od q.2.rc 0 0 q.2.bu).1) q.2.wc)) q.2.wc q.2.P q.2.wg)) (RA.s_rr (RA.s_ln (RA.s_wc (RA.s_mn (RA.s_cm (RA.s_sz R1 0) (sh q.2.od R1.mn 0 0 R1.cm).2) (sh q.2.od R1.mn 0 0 R1.cm).1) (R1.wc + 1)) (un R1.ln R1.wc (sh q.2.od R1.mn 0 0 R1.cm).1)) (cpn (sh q.2.od R1.mn 0 0 R1.cm).2 R1.rr (R1.wc * 40) (sh q.2.od R1.mn 0 0 R1.cm).1)) o) (u := .int (nI R1.wc)) (wa_v (N := 115) (i := 26) (As := []) (rest := []) rfl rfl rfl rfl rfl rfl rfl) rfl ((g_enter (d := 0) (A := (CA.s_wg (CA.s_rl (CA.s_rr (CA.s_wc (CA.s_bc (CA.s_rc (CA.s_bu q.2 (sh q.2.od q.2.rc 0 0 q.2.bu).2) (sh q.2.od q.2.rc 0 0 q.2.bu).1) 0) (q.2.wc + 1)) (cpn (sh q.2.od q.2.rc 0 0 q.2.bu).2 q.2.rr (q.2.wc * 40) (sh q.2.od q.2.rc 0 0 q.2.bu).1)) (un q.2.rl q.2.wc (sh q.2.od q.2.rc 0 0 q.2.bu).1)) (wgs (im q.2.t (fun k => (cpn (sh q.2.od q.2.rc 0 0 q.2.bu).2 q.2.rr (q.2.wc * 40) (sh q.2.od q.2.rc 0 0 q.2.bu).1) (q.2.wc * 40 + k)) ((un q.2.rl q.2.wc (sh q.2.od q.2.rc 0 0 q.2.bu).1) q.2.wc)) q.2.wc q.2.P q.2.wg))) (R := RA.s_mn (RA.s_cm (RA.s_sz R1 0) (sh q.2.od R1.mn 0 0 R1.cm).2) (sh q.2.od R1.mn 0 0 R1.cm).1) (o := o) (show R1.wc < 30 by omega) (show (sh q.2.od R1.mn 0 0 R1.cm).1 ≤ 40 by omega)).up (Nat.le_trans (m := 7) (by decide) (Nat.le_add_left 7 d))) ?_
      exact wz_reti rfl rfl (by rw [e3])
    · exact ⟨REC.T, REC.p, REC.m, REC.t, (WV_add TQ REC.V REC.wi (show q.2.wc < 30 by omega) (show (sh q.2.od q.2.rc 0 0 q.2.bu).1 ≤ 40 by omega) hrow).1, (WV_add TQ REC.V REC.wi (show q.2.wc < 30 by omega) (show (sh q.2.od q.2.rc 0 0 q.2.bu).1 ≤ 40 by omega) hrow).2, (congrArg (· + 1) e3), hln9, hrr9, REC.S, REC.sP, (fun s hs k hk => Nat.lt_succ_of_lt (REC.uw s hs k hk)), REC.sc, REC.go, REC.us, REC.ud, (show 0 ≤ 100 by decide), REC.tx, rfl, REC.te, REC.kd, REC.pl, REC.fl, REC.sl, REC.se, REC.fc, REC.st, REC.nw, REC.dc, REC.tl, REC.dn⟩
