/-! CLASS AND REFERENCE SIDE BY SIDE: run (wip/whole/gen/mkbg.py) -/
theorem fb_ix {us F : Nat → Nat} {h w : Nat} : ∀ {j i : Nat}, fb us F h j i = some w → ∃ k, i ≤ k ∧ k < i + j ∧ w = us k
  | 0, i, e => by cases e
  | j + 1, i, e => by
    unfold fb at e
    split at e
    · cases e; exact ⟨i, Nat.le_refl _, by omega, rfl⟩
    · obtain ⟨k, h1, h2, h3⟩ := fb_ix e
      exact ⟨k, by omega, by omega, h3⟩
theorem RG.nww {A : CA} {R : RA} (H : RG A R) {s x w : Nat} (hs : s < A.sc) (e : nw A.P A.wg A.us (A.sg s) (A.su s) s x = some w) : w < A.wc := by
  obtain ⟨k, _, h2, rfl⟩ := fb_ix e
  exact H.uw s hs k (by omega)
theorem RG.gpm {A : CA} {R : RA} (H : RG A R) {s : Nat} (hs : s < A.sc) : ∀ j x, pm A.P x → pm A.P (gs A.P A.wg A.us (A.sg s) (A.su s) s j x).2.1
  | 0, _, h => h
  | j + 1, x, h => by
    by_cases hm : mt x (A.sg s)
    · rw [gs_met hm]; exact h
    · cases e : nw A.P A.wg A.us (A.sg s) (A.su s) s x with
      | none => rw [gs_no hm e]; exact h
      | some w => rw [gs_go hm e]; exact H.gpm hs j _ (pm_tr (H.wpf (H.nww hs e)) h)
theorem gs_len {P g su s : Nat} {wg us : Nat → Nat} : ∀ j x, (gs P wg us g su s j x).2.2.length ≤ j
  | 0, _ => Nat.le_refl _
  | j + 1, x => by
    by_cases hm : mt x g
    · rw [gs_met hm]; exact Nat.zero_le _
    · cases e : nw P wg us g su s x with
      | none => rw [gs_no hm e]; exact Nat.zero_le _
      | some w => rw [gs_go hm e]; exact Nat.succ_le_succ (gs_len j _)
theorem l_run {X : Nat × (Nat → Int32)} {d : Nat} {A : CA} {R : RA} {o : Nat → Int64} (H : RG A R) {s : Nat} (hs : s < A.sc) {k z : Nat} {Q : px_Z → Prop} : ∀ (j c x : Nat) (dn2 : Nat → Nat), c + j = 7 → pm A.P x → ∀ v3, (∀ dn1, (∀ q, q < c → dn1 q = dn2 q) → (∀ q v, (gs A.P A.wg A.us (A.sg s) (A.su s) s j x).2.2[q]? = some v → dn1 (c + q) = v) → Q (some (some (.int (if (gs A.P A.wg A.us (A.sg s) (A.su s) s j x).1 then nI (c + (gs A.P A.wg A.us (A.sg s) (A.su s) s j x).2.2.length) else -1))), WW (CA.s_dn (CA.s_dc (CA.s_st A ((gs A.P A.wg A.us (A.sg s) (A.su s) s j x).2.1)) (c + (gs A.P A.wg A.us (A.sg s) (A.su s) s j x).2.2.length)) dn1) R o, k, z)) → wp X (d + 4) 93 (12, [.ref 0, .int (nI s), .int (nI c), v3], [], WW (CA.s_dn (CA.s_dc (CA.s_st A x) c) dn2) R o, k, z) Q
  | 0, c, x, dn2, hc9, hpm => by
    intro v3 kk
    obtain rfl : c = 7 := by omega
    refine wz_iload_n (p9 := 13) rfl rfl rfl ?_
    refine wz_bipush (x := nI 7) (p9 := 15) rfl rfl (by decide) ?_
    refine wn_icge (t9 := 89) (p9 := 18) rfl rfl rfl (by omega) (by omega) (fun _ => ?_) (fun h9 => by omega)
    refine wz_aload_n (p9 := 90) rfl rfl rfl ?_
    refine wz_get (v := .int (nI 7)) (p9 := 93) rfl rfl rfl rfl rfl ?_
    have h9 := kk dn2 (fun q _ => rfl) (fun q v e => by cases e)
    exact wz_reti rfl rfl h9
  | j + 1, c, x, dn2, hc9, hpm => by
    intro v3 kk
    have p7 := H.T.p7
    have hsc := H.S.sc
    have hx9 := pm_lt p7 hpm
    have hwc := H.V.wc
    by_cases hm : mt x (A.sg s)
    · skip
      refine wz_iload_n (p9 := 13) rfl rfl rfl ?_
      refine wz_bipush (x := nI 7) (p9 := 15) rfl rfl (by decide) ?_
      refine wn_icge (t9 := 89) (p9 := 18) rfl rfl rfl (by omega) (by omega) (fun h9 => by omega) (fun _ => ?_)
      refine wz_aload_n (p9 := 19) rfl rfl rfl ?_
      refine wz_get (v := .ref 14) (p9 := 22) rfl rfl rfl rfl rfl ?_
      refine wz_iload_n (p9 := 23) rfl rfl rfl ?_
      refine wz_aload_n (p9 := 24) rfl rfl rfl ?_
      refine wz_get (v := .int (nI x)) (p9 := 27) rfl rfl rfl rfl rfl ?_
      refine wz_c1 (p9 := 30) (w1 := WW (CA.s_dn (CA.s_dc (CA.s_st A x) c) dn2) R o) (u := .int (nI 1)) (wa_v (N := 52) (i := 14) (As := [.int (nI s), .int (nI x)]) (rest := []) rfl rfl rfl rfl rfl rfl rfl) rfl ((g_isMet1 (d := 0) (A := (CA.s_dn (CA.s_dc (CA.s_st A x) c) dn2)) (R := R) (o := o) H.S (by omega) (by omega) hm).up (by omega)) ?_
      refine wn_ifne (t9 := 89) (p9 := 33) rfl rfl rfl (by omega) (fun _ => ?_) (fun h9 => by omega)
      refine wz_aload_n (p9 := 90) rfl rfl rfl ?_
      refine wz_get (v := .int (nI c)) (p9 := 93) rfl rfl rfl rfl rfl ?_
      rw [gs_met hm] at kk
      have h9 := kk dn2 (fun q _ => rfl) (fun q v e => by cases e)
      exact wz_reti rfl rfl h9
    · cases e9 : nw A.P A.wg A.us (A.sg s) (A.su s) s x with
      | none =>
        refine wz_iload_n (p9 := 13) rfl rfl rfl ?_
        refine wz_bipush (x := nI 7) (p9 := 15) rfl rfl (by decide) ?_
        refine wn_icge (t9 := 89) (p9 := 18) rfl rfl rfl (by omega) (by omega) (fun h9 => by omega) (fun _ => ?_)
        refine wz_aload_n (p9 := 19) rfl rfl rfl ?_
        refine wz_get (v := .ref 14) (p9 := 22) rfl rfl rfl rfl rfl ?_
        refine wz_iload_n (p9 := 23) rfl rfl rfl ?_
        refine wz_aload_n (p9 := 24) rfl rfl rfl ?_
        refine wz_get (v := .int (nI x)) (p9 := 27) rfl rfl rfl rfl rfl ?_
        refine wz_c1 (p9 := 30) (w1 := WW (CA.s_dn (CA.s_dc (CA.s_st A x) c) dn2) R o) (u := .int (nI 0)) (wa_v (N := 52) (i := 14) (As := [.int (nI s), .int (nI x)]) (rest := []) rfl rfl rfl rfl rfl rfl rfl) rfl ((g_isMet0 (d := 0) (A := (CA.s_dn (CA.s_dc (CA.s_st A x) c) dn2)) (R := R) (o := o) H.S (by omega) (by omega) hm).up (by omega)) ?_
        refine wn_ifne (t9 := 89) (p9 := 33) rfl rfl rfl (by omega) (fun h9 => by omega) (fun _ => ?_)
        refine wz_aload_n (p9 := 34) rfl rfl rfl ?_
        refine wz_get (v := .ref 14) (p9 := 37) rfl rfl rfl rfl rfl ?_
        refine wz_iload_n (p9 := 38) rfl rfl rfl ?_
        refine wz_aload_n (p9 := 39) rfl rfl rfl ?_
        refine wz_get (v := .int (nI x)) (p9 := 42) rfl rfl rfl rfl rfl ?_
        refine wz_c1 (p9 := 45) (w1 := WW (CA.s_dn (CA.s_dc (CA.s_st A x) c) dn2) R o) (u := .int (oi (nw A.P A.wg A.us (A.sg s) (A.su s) s x))) (wa_v (N := 53) (i := 14) (As := [.int (nI s), .int (nI x)]) (rest := []) rfl rfl rfl rfl rfl rfl rfl) rfl ((g_firstBetter (d := 0) (A := (CA.s_dn (CA.s_dc (CA.s_st A x) c) dn2)) (R := R) (o := o) H.T H.V H.S (by omega) (by omega)).up (by omega)) ?_
        rw [e9, show oi none = (-1 : Int32) from rfl]
        refine wz_istore_n (l9 := [.ref 0, .int (nI s), .int (nI c), .int (-1)]) (p9 := 46) rfl rfl rfl rfl ?_
        refine wz_iload_n (p9 := 47) rfl rfl rfl ?_
        refine wz_iconst (x := (-1)) (p9 := 48) rfl rfl (by decide) ?_
        refine wz_icne (t9 := 53) (p9 := 51) rfl rfl rfl (fun h9 => absurd rfl h9) (fun _ => ?_)
        refine wz_iconst (x := (-1)) (p9 := 52) rfl rfl (by decide) ?_
        rw [gs_no hm e9] at kk
        have h9 := kk dn2 (fun q _ => rfl) (fun q v e => by cases e)
        exact wz_reti rfl rfl h9
      | some w =>
        have hw := H.nww hs e9
        refine wz_iload_n (p9 := 13) rfl rfl rfl ?_
        refine wz_bipush (x := nI 7) (p9 := 15) rfl rfl (by decide) ?_
        refine wn_icge (t9 := 89) (p9 := 18) rfl rfl rfl (by omega) (by omega) (fun h9 => by omega) (fun _ => ?_)
        refine wz_aload_n (p9 := 19) rfl rfl rfl ?_
        refine wz_get (v := .ref 14) (p9 := 22) rfl rfl rfl rfl rfl ?_
        refine wz_iload_n (p9 := 23) rfl rfl rfl ?_
        refine wz_aload_n (p9 := 24) rfl rfl rfl ?_
        refine wz_get (v := .int (nI x)) (p9 := 27) rfl rfl rfl rfl rfl ?_
        refine wz_c1 (p9 := 30) (w1 := WW (CA.s_dn (CA.s_dc (CA.s_st A x) c) dn2) R o) (u := .int (nI 0)) (wa_v (N := 52) (i := 14) (As := [.int (nI s), .int (nI x)]) (rest := []) rfl rfl rfl rfl rfl rfl rfl) rfl ((g_isMet0 (d := 0) (A := (CA.s_dn (CA.s_dc (CA.s_st A x) c) dn2)) (R := R) (o := o) H.S (by omega) (by omega) hm).up (by omega)) ?_
        refine wn_ifne (t9 := 89) (p9 := 33) rfl rfl rfl (by omega) (fun h9 => by omega) (fun _ => ?_)
        refine wz_aload_n (p9 := 34) rfl rfl rfl ?_
        refine wz_get (v := .ref 14) (p9 := 37) rfl rfl rfl rfl rfl ?_
        refine wz_iload_n (p9 := 38) rfl rfl rfl ?_
        refine wz_aload_n (p9 := 39) rfl rfl rfl ?_
        refine wz_get (v := .int (nI x)) (p9 := 42) rfl rfl rfl rfl rfl ?_
        refine wz_c1 (p9 := 45) (w1 := WW (CA.s_dn (CA.s_dc (CA.s_st A x) c) dn2) R o) (u := .int (oi (nw A.P A.wg A.us (A.sg s) (A.su s) s x))) (wa_v (N := 53) (i := 14) (As := [.int (nI s), .int (nI x)]) (rest := []) rfl rfl rfl rfl rfl rfl rfl) rfl ((g_firstBetter (d := 0) (A := (CA.s_dn (CA.s_dc (CA.s_st A x) c) dn2)) (R := R) (o := o) H.T H.V H.S (by omega) (by omega)).up (by omega)) ?_
        rw [e9, show oi (some w) = nI w from rfl]
        refine wz_istore_n (l9 := [.ref 0, .int (nI s), .int (nI c), .int (nI w)]) (p9 := 46) rfl rfl rfl rfl ?_
        refine wz_iload_n (p9 := 47) rfl rfl rfl ?_
        refine wz_iconst (x := (-1)) (p9 := 48) rfl rfl (by decide) ?_
        refine wz_icne (t9 := 53) (p9 := 51) rfl rfl rfl (fun _ => ?_) (fun h9 => absurd h9 (q_ne1 (by omega)))
        refine wz_aload_n (p9 := 54) rfl rfl rfl ?_
        refine wz_aload_n (p9 := 55) rfl rfl rfl ?_
        refine wz_get (v := .ref 10) (p9 := 58) rfl rfl rfl rfl rfl ?_
        refine wz_iload_n (p9 := 59) rfl rfl rfl ?_
        refine wz_aload_n (p9 := 60) rfl rfl rfl ?_
        refine wz_get (v := .int (nI x)) (p9 := 63) rfl rfl rfl rfl rfl ?_
        refine wz_c1 (p9 := 66) (w1 := WW (CA.s_dn (CA.s_dc (CA.s_st A x) c) dn2) R o) (u := .int (nI (tr (fun q => A.wg (w * 7 + q)) x A.P))) (wa_v (N := 41) (i := 10) (As := [.int (nI w), .int (nI x)]) (rest := [.ref 0]) rfl rfl rfl rfl rfl rfl rfl) rfl ((g_wTurned (d := 0) (A := (CA.s_dn (CA.s_dc (CA.s_st A x) c) dn2)) (R := R) (o := o) H.T H.V (by omega) (by omega)).up (by omega)) ?_
        refine wp_Ast (x := (tr (fun q => A.wg (w * 7 + q)) x A.P)) (p9 := 69) rfl rfl rfl rfl (A1 := (CA.s_dn (CA.s_dc (CA.s_st A (tr (fun q => A.wg (w * 7 + q)) x A.P)) c) dn2)) rfl ?_
        refine wz_aload_n (p9 := 70) rfl rfl rfl ?_
        refine wz_get (v := .ref 25) (p9 := 73) rfl rfl rfl rfl rfl ?_
        refine wz_iload_n (p9 := 74) rfl rfl rfl ?_
        refine wz_iload_n (p9 := 75) rfl rfl rfl ?_
        refine ws_Adn (f := dn2) (p9 := 76) rfl rfl rfl (by omega) (A1 := (CA.s_dn (CA.s_dc (CA.s_st A (tr (fun q => A.wg (w * 7 + q)) x A.P)) c) (un dn2 c w))) rfl ?_
        refine wz_aload_n (p9 := 77) rfl rfl rfl ?_
        refine wz_iload_n (p9 := 78) rfl rfl rfl ?_
        refine wz_iconst (x := nI 1) (p9 := 79) rfl rfl (by decide) ?_
        refine wn_add (p9 := 80) rfl rfl ?_
        refine wp_Adc (x := (c + 1)) (p9 := 83) rfl rfl rfl rfl (A1 := (CA.s_dn (CA.s_dc (CA.s_st A (tr (fun q => A.wg (w * 7 + q)) x A.P)) (c + 1)) (un dn2 c w))) rfl ?_
        refine wn_inc (b := 1) (l9 := [.ref 0, .int (nI s), .int (nI (c + 1)), .int (nI w)]) (p9 := 86) rfl rfl rfl (by decide) rfl ?_
        refine wz_goto (p9 := 12) rfl rfl ?_
        rw [gs_go hm e9] at kk
        refine l_run H hs j (c + 1) _ _ (by omega) (pm_tr (H.wpf hw) hpm) _ (fun dn1 h1 h2 => ?_)
        have h9 := kk dn1 (fun q hq => by rw [h1 q (by omega), un_ne (by omega)]) (fun q v e => ?_)
        · rw [show c + 1 + (gs A.P A.wg A.us (A.sg s) (A.su s) s j (tr (fun q => A.wg (w * 7 + q)) x A.P)).2.2.length = c + ((gs A.P A.wg A.us (A.sg s) (A.su s) s j (tr (fun q => A.wg (w * 7 + q)) x A.P)).2.2.length + 1) by omega]
          exact h9
        · cases q with
          | zero =>
            replace e : some w = some v := e
            rw [Nat.add_zero, h1 c (by omega), un_at]
            exact Option.some.inj e
          | succ q =>
            rw [show c + (q + 1) = c + 1 + q by omega]
            exact h2 q v e
theorem l_tell {X : Nat × (Nat → Int32)} {d : Nat} {A : CA} {R : RA} {o : Nat → Int64} (h7 : R.dd ≤ 7) {s : Nat} {v2 : Value} {k z : Nat} {Q : px_Z → Prop} (kk : wp X d 132 (72, [.ref 26, .int (nI s), v2, .int (nI R.dd)], [], WW A (RA.s_te R (cz R.di R.te R.dd)) o, k, z) Q) : ∀ (j i : Nat), i + j = R.dd → wp X d 132 (46, [.ref 26, .int (nI s), v2, .int (nI i)], [], WW A (RA.s_te R (cz R.di R.te i)) o, k, z) Q
  | 0, i, hj => by
    obtain rfl : i = R.dd := by omega
    refine wz_iload_n (p9 := 47) rfl rfl rfl ?_
    refine wz_aload_n (p9 := 48) rfl rfl rfl ?_
    refine wz_get (v := .int (nI R.dd)) (p9 := 51) rfl rfl rfl rfl rfl ?_
    refine wn_icge (t9 := 72) (p9 := 54) rfl rfl rfl (by omega) (by omega) (fun _ => ?_) (fun h9 => by omega)
    exact kk
  | j + 1, i, hj => by
    refine wz_iload_n (p9 := 47) rfl rfl rfl ?_
    refine wz_aload_n (p9 := 48) rfl rfl rfl ?_
    refine wz_get (v := .int (nI R.dd)) (p9 := 51) rfl rfl rfl rfl rfl ?_
    refine wn_icge (t9 := 72) (p9 := 54) rfl rfl rfl (by omega) (by omega) (fun h9 => by omega) (fun _ => ?_)
    refine wz_aload_n (p9 := 55) rfl rfl rfl ?_
    refine wz_get (v := .ref 45) (p9 := 58) rfl rfl rfl rfl rfl ?_
    refine wz_iload_n (p9 := 59) rfl rfl rfl ?_
    refine wz_aload_n (p9 := 60) rfl rfl rfl ?_
    refine wz_get (v := .ref 39) (p9 := 63) rfl rfl rfl rfl rfl ?_
    refine wz_iload_n (p9 := 64) rfl rfl rfl ?_
    refine wl_Rdi (f := R.di) (p9 := 65) rfl rfl rfl (by omega) ?_
    refine ws_Rte (f := cz R.di R.te i) (p9 := 66) rfl rfl rfl (by omega) (R1 := (RA.s_te R (un (cz R.di R.te i) i (R.di i)))) rfl ?_
    refine wn_inc (b := 1) (l9 := [.ref 26, .int (nI s), v2, .int (nI (i + 1))]) (p9 := 69) rfl rfl rfl (by decide) rfl ?_
    refine wz_goto (p9 := 46) rfl rfl ?_
    rw [cz_s]
    exact l_tell h7 kk j (i + 1) (by omega)
theorem g_mRun1 {X : Nat × (Nat → Int32)} {d : Nat} {A : CA} {R : RA} {o : Nat → Int64} (H : RG A R) {s x : Nat} (hs : s < A.sc) (hpm : pm A.P x) (hx : SD A.P R.nw x) : ∃ s1 ot1 di1, SD R.P s1 (gs A.P A.wg A.us (A.sg s) (A.su s) s 7 x).2.1 ∧ (∀ q v, (gs A.P A.wg A.us (A.sg s) (A.su s) s 7 x).2.2[q]? = some v → di1 q = v) ∧ px_ev X (d + 6) 132 [.ref 26, .int (nI s)] (WW A R o) (some (some (.int (if (gs A.P A.wg A.us (A.sg s) (A.su s) s 7 x).1 then nI ((gs A.P A.wg A.us (A.sg s) (A.su s) s 7 x).2.2.length) else -1))), WW A (RA.s_te (RA.s_tl (RA.s_nw (RA.s_th (RA.s_di (RA.s_dd (RA.s_ot (RA.s_s R s1) ot1) ((gs A.P A.wg A.us (A.sg s) (A.su s) s 7 x).2.2.length)) di1) 0) (cz s1 R.nw 7)) ((gs A.P A.wg A.us (A.sg s) (A.su s) s 7 x).2.2.length)) (cz di1 R.te ((gs A.P A.wg A.us (A.sg s) (A.su s) s 7 x).2.2.length))) o, 0, 0) := by
  have p7 := H.T.p7
  have hsc := H.S.sc
  have hRs : s < R.sc := by rw [H.sc]; exact hs
  have hRc : R.sc ≤ 8 := by rw [H.sc]; exact hsc
  have hlen := gs_len (P := A.P) (g := A.sg s) (su := A.su s) (s := s) (wg := A.wg) (us := A.us) 7 x
  obtain ⟨s1, ot1, di1, h1, h2, hgo⟩ := g_mGo (X := X) (d := 0) (A := A) (R := RA.s_s (RA.s_th R 0) (cz R.nw R.s 7)) (o := o) (s := s) (x := x) H hs hpm (SD_cz (by show R.P ≤ 7; rw [H.p]; exact p7) (by show SD R.P R.nw x; rw [H.p]; exact hx))
  refine ⟨s1, ot1, di1, h1, h2, ?_⟩
  refine wp_ev (d := d + 5) (by decide) rfl rfl (fun h => by cases h) ?_
  show wp X (d + 5) 132 (0, [.ref 26, .int (nI s), .retAddr 0, .retAddr 0], [], WW A R o, 0, 0) _
  refine wz_aload_n (p9 := 1) rfl rfl rfl ?_
  refine wz_aload_n (p9 := 2) rfl rfl rfl ?_
  refine wz_iload_n (p9 := 3) rfl rfl rfl ?_
  refine wz_c1 (p9 := 6) (w1 := WW A R o) (u := .int (nI 1)) (wa_v (N := 130) (i := 26) (As := [.int (nI s)]) (rest := [.ref 26]) rfl rfl rfl rfl rfl rfl rfl) rfl ((g_mStage1 (d := 0) (by omega) (by omega)).up (Nat.le_trans (m := 5) (by decide) (Nat.le_add_left 5 d))) ?_
  refine wn_ifne (t9 := 13) (p9 := 9) rfl rfl rfl (by omega) (fun _ => ?_) (fun h9 => by omega)
  refine wz_iconst (x := nI 0) (p9 := 14) rfl rfl (by decide) ?_
  refine wz_c1 (p9 := 17) (w1 := WW A (RA.s_th R 0) o) (u := .int (nI 0)) (wa_v (N := 101) (i := 26) (As := [.int (nI 0)]) (rest := []) rfl rfl rfl rfl rfl rfl rfl) rfl ((g_throws0 (d := 0) ).up (Nat.le_trans (m := 5) (by decide) (Nat.le_add_left 5 d))) ?_
  refine wn_ifeq (t9 := 22) (p9 := 20) rfl rfl rfl (by omega) (fun _ => ?_) (fun h9 => by omega)
  refine wz_aload_n (p9 := 23) rfl rfl rfl ?_
  refine wz_c0 (p9 := 26) (w1 := WW A (RA.s_th (RA.s_s R (cz R.nw R.s 7)) 0) o) (wa_v (N := 123) (i := 26) (As := []) (rest := []) rfl rfl rfl rfl rfl rfl rfl) rfl ((g_takeNow (d := 0) (A := A) (R := (RA.s_th R 0)) ).up (Nat.le_trans (m := 5) (by decide) (Nat.le_add_left 5 d))) ?_
  refine wz_aload_n (p9 := 27) rfl rfl rfl ?_
  refine wz_iload_n (p9 := 28) rfl rfl rfl ?_
  refine wz_c1 (p9 := 31) (w1 := WW A (RA.s_th (RA.s_di (RA.s_dd (RA.s_ot (RA.s_s R s1) ot1) ((gs A.P A.wg A.us (A.sg s) (A.su s) s 7 x).2.2.length)) di1) 0) o) (u := .int (nI (if (gs A.P A.wg A.us (A.sg s) (A.su s) s 7 x).1 then 1 else 0))) (wa_v (N := 133) (i := 26) (As := [.int (nI s)]) (rest := []) rfl rfl rfl rfl rfl rfl rfl) rfl (hgo.up (by omega)) ?_
  refine wz_istore_n (l9 := [.ref 26, .int (nI s), .int (nI (if (gs A.P A.wg A.us (A.sg s) (A.su s) s 7 x).1 then 1 else 0)), .retAddr 0]) (p9 := 32) rfl rfl rfl rfl ?_
  refine wz_aload_n (p9 := 33) rfl rfl rfl ?_
  refine wz_c0 (p9 := 36) (w1 := WW A (RA.s_nw (RA.s_th (RA.s_di (RA.s_dd (RA.s_ot (RA.s_s R s1) ot1) ((gs A.P A.wg A.us (A.sg s) (A.su s) s 7 x).2.2.length)) di1) 0) (cz s1 R.nw 7)) o) (wa_v (N := 125) (i := 26) (As := []) (rest := []) rfl rfl rfl rfl rfl rfl rfl) rfl ((g_putNow (d := 0) (A := A) (R := (RA.s_th (RA.s_di (RA.s_dd (RA.s_ot (RA.s_s R s1) ot1) ((gs A.P A.wg A.us (A.sg s) (A.su s) s 7 x).2.2.length)) di1) 0)) ).up (Nat.le_trans (m := 5) (by decide) (Nat.le_add_left 5 d))) ?_
  refine wz_aload_n (p9 := 37) rfl rfl rfl ?_
  refine wz_aload_n (p9 := 38) rfl rfl rfl ?_
  refine wz_get (v := .int (nI ((gs A.P A.wg A.us (A.sg s) (A.su s) s 7 x).2.2.length))) (p9 := 41) rfl rfl rfl rfl rfl ?_
  refine wp_Rtl (x := ((gs A.P A.wg A.us (A.sg s) (A.su s) s 7 x).2.2.length)) (p9 := 44) rfl rfl rfl rfl (R1 := (RA.s_tl (RA.s_nw (RA.s_th (RA.s_di (RA.s_dd (RA.s_ot (RA.s_s R s1) ot1) ((gs A.P A.wg A.us (A.sg s) (A.su s) s 7 x).2.2.length)) di1) 0) (cz s1 R.nw 7)) ((gs A.P A.wg A.us (A.sg s) (A.su s) s 7 x).2.2.length))) rfl ?_
  refine wz_iconst (x := nI 0) (p9 := 45) rfl rfl (by decide) ?_
  refine wz_istore_n (l9 := [.ref 26, .int (nI s), .int (nI (if (gs A.P A.wg A.us (A.sg s) (A.su s) s 7 x).1 then 1 else 0)), .int (nI 0)]) (p9 := 46) rfl rfl rfl rfl ?_
  have h9 := l_tell (X := X) (d := d + 5) (A := A) (R := (RA.s_tl (RA.s_nw (RA.s_th (RA.s_di (RA.s_dd (RA.s_ot (RA.s_s R s1) ot1) ((gs A.P A.wg A.us (A.sg s) (A.su s) s 7 x).2.2.length)) di1) 0) (cz s1 R.nw 7)) ((gs A.P A.wg A.us (A.sg s) (A.su s) s 7 x).2.2.length))) (o := o) hlen (s := s) (v2 := .int (nI (if (gs A.P A.wg A.us (A.sg s) (A.su s) s 7 x).1 then 1 else 0))) (k := 0) (z := 0) (Q := fun q => q = (some (some (.int (if (gs A.P A.wg A.us (A.sg s) (A.su s) s 7 x).1 then nI ((gs A.P A.wg A.us (A.sg s) (A.su s) s 7 x).2.2.length) else -1))), WW A (RA.s_te (RA.s_tl (RA.s_nw (RA.s_th (RA.s_di (RA.s_dd (RA.s_ot (RA.s_s R s1) ot1) ((gs A.P A.wg A.us (A.sg s) (A.su s) s 7 x).2.2.length)) di1) 0) (cz s1 R.nw 7)) ((gs A.P A.wg A.us (A.sg s) (A.su s) s 7 x).2.2.length)) (cz di1 R.te ((gs A.P A.wg A.us (A.sg s) (A.su s) s 7 x).2.2.length))) o, 0, 0)) ?_ ((gs A.P A.wg A.us (A.sg s) (A.su s) s 7 x).2.2.length) 0 (Nat.zero_add _)
  · exact h9
  · skip
    refine wz_iload_n (p9 := 73) rfl rfl rfl ?_
    refine wn_ifeq (t9 := 83) (p9 := 76) rfl rfl rfl (by split <;> decide) (fun h73 => ?_) (fun h73 => ?_)
    · have hb : (gs A.P A.wg A.us (A.sg s) (A.su s) s 7 x).1 = false := by cases hq : (gs A.P A.wg A.us (A.sg s) (A.su s) s 7 x).1 with | false => rfl | true => (rw [hq] at h73; exact absurd h73 (by decide))
      refine wz_iconst (x := (-1)) (p9 := 84) rfl rfl (by decide) ?_
      exact wz_reti rfl rfl (by rw [hb]; rfl)
    · have hb : (gs A.P A.wg A.us (A.sg s) (A.su s) s 7 x).1 = true := by cases hq : (gs A.P A.wg A.us (A.sg s) (A.su s) s 7 x).1 with | true => rfl | false => (rw [hq] at h73; exact absurd rfl h73)
      refine wz_aload_n (p9 := 77) rfl rfl rfl ?_
      refine wz_get (v := .int (nI ((gs A.P A.wg A.us (A.sg s) (A.su s) s 7 x).2.2.length))) (p9 := 80) rfl rfl rfl rfl rfl ?_
      refine wz_goto (p9 := 84) rfl rfl ?_
      exact wz_reti rfl rfl (by rw [hb]; rfl)
theorem g_mRunX {X : Nat × (Nat → Int32)} {d : Nat} {A : CA} {R : RA} {o : Nat → Int64} {w : Int32} (h : inb w R.sc = 0) : px_ev X (d + 2) 132 [.ref 26, .int w] (WW A R o) (some (some (.int (nI 0))), WW A (RA.s_th R 1) o, 0, 0) := by
  refine wp_ev (d := d + 1) (by decide) rfl rfl (fun h => by cases h) ?_
  show wp X (d + 1) 132 (0, [.ref 26, .int w, .retAddr 0, .retAddr 0], [], WW A R o, 0, 0) _
  refine wz_aload_n (p9 := 1) rfl rfl rfl ?_
  refine wz_aload_n (p9 := 2) rfl rfl rfl ?_
  refine wz_iload_n (p9 := 3) rfl rfl rfl ?_
  refine wz_c1 (p9 := 6) (w1 := WW A R o) (u := .int (nI (inb w R.sc))) (wa_v (N := 130) (i := 26) (As := [.int w]) (rest := [.ref 26]) rfl rfl rfl rfl rfl rfl rfl) rfl ((g_mStageR (d := 0) ).up (Nat.le_trans (m := 1) (by decide) (Nat.le_add_left 1 d))) ?_
  refine wn_ifne (t9 := 13) (p9 := 9) rfl rfl rfl (by omega) (fun h9 => absurd h h9) (fun _ => ?_)
  refine wz_iconst (x := nI 1) (p9 := 10) rfl rfl (by decide) ?_
  refine wz_goto (p9 := 14) rfl rfl ?_
  refine wz_c1 (p9 := 17) (w1 := WW A (RA.s_th R 1) o) (u := .int (nI 1)) (wa_v (N := 101) (i := 26) (As := [.int (nI 1)]) (rest := []) rfl rfl rfl rfl rfl rfl rfl) rfl ((g_throws1 (d := 0) ).up (Nat.le_trans (m := 1) (by decide) (Nat.le_add_left 1 d))) ?_
  refine wn_ifeq (t9 := 22) (p9 := 20) rfl rfl rfl (by omega) (fun h9 => by omega) (fun _ => ?_)
  refine wz_iconst (x := nI 0) (p9 := 21) rfl rfl (by decide) ?_
  exact wz_reti rfl rfl rfl
theorem j_run {X : Nat × (Nat → Int32)} {d : Nat} {A : CA} {R : RA} {o : Nat → Int64} (H : RE A R) {x : Int32} : JT X d 93 [.ref 0, .int x] 132 [.ref 26, .int x] A R o := by
  have p7 := H.T.p7
  have m6 := H.T.m6
  have hwc := H.V.wc
  have hsc := H.S.sc
  rcases ix1 x A.sc (by have := H.S.sc; omega) with hx | ⟨x9, hx, rfl⟩
  · refine Or.inl ⟨?_, fun o2 => ⟨_, _, (g_mRunX (d := 0) (A := A) (R := R) (o := o2) (by rw [H.sc]; exact inb_bad hx)).up (Nat.le_trans (m := 10) (by decide) (Nat.le_add_left 10 d)), rfl, ⟨H.T, H.p, H.m, H.t, H.V, H.wi, H.wc, H.ln, H.rr, H.S, H.sP, H.uw, H.sc, H.go, H.us, H.ud, H.bc, H.tx, H.sz, H.te, H.kd, H.pl, H.fl, H.sl, H.se, H.fc, H.st, H.nw, H.dc, H.tl, H.dn⟩⟩⟩
    refine wp_ev (d := d + 9) (by decide) rfl rfl (fun _ => by decide) ?_
    show wp X (d + 9) 93 (0, [.ref 0, .int x, .retAddr 0, .retAddr 0], [], WW A R o, 0, 0) _
    refine wz_aload_n (p9 := 1) rfl rfl rfl ?_
    refine wz_iload_n (p9 := 2) rfl rfl rfl ?_
    exact wz_cx (wa_v (N := 91) (i := 0) (As := [.int x]) (rest := []) rfl rfl rfl rfl rfl rfl rfl) (by decide) ((g_cx91 (d := 0) hx).up (Nat.le_trans (m := 9) (by decide) (Nat.le_add_left 9 d))) rfl rfl
  obtain ⟨s, hs9⟩ : ∃ s, s = x9 := ⟨x9, rfl⟩
  subst hs9
  have hlen := gs_len (P := A.P) (g := A.sg s) (su := A.su s) (s := s) (wg := A.wg) (us := A.us) 7 A.st
  have hcl : ∃ dn1, (∀ q v, (gs A.P A.wg A.us (A.sg s) (A.su s) s 7 A.st).2.2[q]? = some v → dn1 q = v) ∧ px_ev X (d + 10) 93 [.ref 0, .int (nI s)] (WW A R o) (some (some (.int (if (gs A.P A.wg A.us (A.sg s) (A.su s) s 7 A.st).1 then nI ((gs A.P A.wg A.us (A.sg s) (A.su s) s 7 A.st).2.2.length) else -1))), WW (CA.s_dn (CA.s_dc (CA.s_st A ((gs A.P A.wg A.us (A.sg s) (A.su s) s 7 A.st).2.1)) ((gs A.P A.wg A.us (A.sg s) (A.su s) s 7 A.st).2.2.length)) dn1) R o, 0, 0) := by
    have h0 : wp X (d + 9) 93 (0, [.ref 0, .int (nI s), .retAddr 0, .retAddr 0], [], WW A R o, 0, 0) (fun q => ∃ dn1, (∀ q v, (gs A.P A.wg A.us (A.sg s) (A.su s) s 7 A.st).2.2[q]? = some v → dn1 q = v) ∧ q = (some (some (.int (if (gs A.P A.wg A.us (A.sg s) (A.su s) s 7 A.st).1 then nI ((gs A.P A.wg A.us (A.sg s) (A.su s) s 7 A.st).2.2.length) else -1))), WW (CA.s_dn (CA.s_dc (CA.s_st A ((gs A.P A.wg A.us (A.sg s) (A.su s) s 7 A.st).2.1)) ((gs A.P A.wg A.us (A.sg s) (A.su s) s 7 A.st).2.2.length)) dn1) R o, 0, 0)) := by
      refine wz_aload_n (p9 := 1) rfl rfl rfl ?_
      refine wz_iload_n (p9 := 2) rfl rfl rfl ?_
      refine wz_c0 (p9 := 5) (w1 := WW A R o) (wa_v (N := 91) (i := 0) (As := [.int (nI s)]) (rest := []) rfl rfl rfl rfl rfl rfl rfl) rfl ((g_ck91 (d := 0) (by omega) (by omega)).up (Nat.le_trans (m := 9) (by decide) (Nat.le_add_left 9 d))) ?_
      refine wz_aload_n (p9 := 6) rfl rfl rfl ?_
      refine wz_iconst (x := nI 0) (p9 := 7) rfl rfl (by decide) ?_
      refine wp_Adc (x := 0) (p9 := 10) rfl rfl rfl rfl (A1 := (CA.s_dc A 0)) rfl ?_
      refine wz_iconst (x := nI 0) (p9 := 11) rfl rfl (by decide) ?_
      refine wz_istore_n (l9 := [.ref 0, .int (nI s), .int (nI 0), .retAddr 0]) (p9 := 12) rfl rfl rfl rfl ?_
      exact l_run (d := d + 5) H.g hx 7 0 A.st A.dn (by omega) H.st _ (fun dn1 _ h3 => ⟨dn1, fun q v e => by have := h3 q v e; rw [Nat.zero_add] at this; exact this, by rw [Nat.zero_add]⟩)
    obtain ⟨r9, hr, dn1, h3, rfl⟩ := h0
    exact ⟨dn1, h3, wp_ev (d := d + 9) (by decide) rfl rfl (fun _ => by decide) ⟨_, hr, rfl⟩⟩
  obtain ⟨dn1, h3, hcl⟩ := hcl
  refine Or.inr ⟨(CA.s_dn (CA.s_dc (CA.s_st A ((gs A.P A.wg A.us (A.sg s) (A.su s) s 7 A.st).2.1)) ((gs A.P A.wg A.us (A.sg s) (A.su s) s 7 A.st).2.2.length)) dn1), _, hcl, fun o2 => ?_⟩
  obtain ⟨s1, ot1, di1, g1, g2, hgo⟩ := g_mRun1 (X := X) (d := 0) (A := (CA.s_dn (CA.s_dc (CA.s_st A ((gs A.P A.wg A.us (A.sg s) (A.su s) s 7 A.st).2.1)) ((gs A.P A.wg A.us (A.sg s) (A.su s) s 7 A.st).2.2.length)) dn1)) (R := R) (o := o2) (s := s) (x := A.st) H.g hx H.st H.nw
  refine ⟨_, hgo.up (Nat.le_trans (m := 10) (by decide) (Nat.le_add_left 10 d)), rfl, ?_⟩
  have hg1 : SD R.P s1 (gs A.P A.wg A.us (A.sg s) (A.su s) s 7 A.st).2.1 := g1
  rw [H.p] at hg1
  have hdn9 : ∀ k, k < (gs A.P A.wg A.us (A.sg s) (A.su s) s 7 A.st).2.2.length → cz di1 R.te (gs A.P A.wg A.us (A.sg s) (A.su s) s 7 A.st).2.2.length k = dn1 k := by
    intro k hk
    unfold cz
    rw [if_pos hk, g2 k _ (List.getElem?_eq_getElem hk), h3 k _ (List.getElem?_eq_getElem hk)]
  exact ⟨H.T, H.p, H.m, H.t, H.V, H.wi, H.wc, H.ln, H.rr, H.S, H.sP, H.uw, H.sc, H.go, H.us, H.ud, H.bc, H.tx, H.sz, H.te, H.kd, H.pl, H.fl, H.sl, H.se, H.fc, (H.g.gpm hx 7 _ H.st), (SD_cz p7 hg1), hlen, rfl, hdn9⟩
