/-! THE CLASS: words added, stages that end well; fill, bitCount, ranks, the states found (wip/whole/gen/mk90.py) -/
def cpn (f g : Nat → Nat) (dp m : Nat) : Nat → Nat := fun q => if dp ≤ q ∧ q < dp + m then f (q - dp) else g q
theorem q_cpn {f g : Nat → Nat} {dp m : Nat} : va_cpy (fun q => nI (f q)) (fun q => nI (g q)) 0 dp m = fun q => nI (cpn f g dp m q) := by
  funext q
  unfold cpn
  by_cases h : dp ≤ q ∧ q < dp + m
  · rw [pk_cpy_in h.1 h.2, if_pos h, Nat.zero_add]
  · rw [pk_cpy_out (by omega), if_neg h]
section WC
variable {X : Nat × (Nat → Int32)} {d M pc p9 k z n : Nat} {lv st : List Value} {w : px_W} {Q : px_Z → Prop} {A : CA} {R : RA} {o : Nat → Int64}
theorem wz_copy {j a0 a n0 n1 dp m : Nat} {f g : Nat → Nat} {w1 : px_W} (h : px_cd M pc = some (.invokestatic j)) (hp : pc + 3 = p9) (ho : px_ik M j = some 2) (hw : Nat.ble (px_w st) 8 = true) (hc0 : w[a0]? = some (.inl (0, n0, fun q => nI (f q)))) (hc1 : w[a]? = some (.inl (0, n1, fun q => nI (g q)))) (h1 : dp < 2147483648) (h2 : m < 2147483648) (h4 : m ≤ n0) (h5 : dp + m ≤ n1) (hg : w.set a (.inl (0, n1, fun q => nI (cpn f g dp m q))) = w1) (kk : wp X d M (p9, lv, st, w1, k, z) Q) : wp X d M (pc, lv, .int (nI m) :: .int (nI dp) :: .ref a :: .int (nI 0) :: .ref a0 :: st, w, k, z) Q := by
  subst hp
  refine wz_ins h ?_ kk
  simp only [px_ins, ho, hc0, hc1, hw, decide_eq_false (nI_pos (show 0 < 2 ^ 31 by decide)), decide_eq_false (nI_pos (show dp < 2 ^ 31 by omega)), decide_eq_false (nI_pos (show m < 2 ^ 31 by omega)), q_c (show 0 < 2147483648 by decide), q_c h1, q_c h2, Nat.zero_add, Nat.ble_eq_true_of_le h4, Nat.ble_eq_true_of_le h5, Bool.not_false, Bool.and_self, q_cpn, hg]
end WC
/-- the goals of a word, of the first p places -/
def wgs (F : Nat → Nat) (w : Nat) : Nat → (Nat → Nat) → Nat → Nat
  | 0, g => g
  | p + 1, g => un (wgs F w p g) (w * 7 + p) (F p)
theorem l_addWB {X : Nat × (Nat → Int32)} {d : Nat} {A : CA} {R : RA} {o : Nat → Int64} (T : TV A.P A.Mv A.t A.od) (hw : A.wc < 30) (hL : A.rl A.wc ≤ 40) (hr : ∀ k, k < A.rl A.wc → A.rr (A.wc * 40 + k) < 96) {k z L : Nat} {Q : px_Z → Prop} (kk : wp X (d + 2) 34 (66, [.ref 10, .ref 9, .int (nI L), .int (nI A.wc), .int (nI A.P)], [], WW (CA.s_wg A (wgs (im A.t (fun k => A.rr (A.wc * 40 + k)) (A.rl A.wc)) A.wc A.P A.wg)) R o, k, z) Q) : ∀ (j p : Nat), p + j = A.P → wp X (d + 2) 34 (29, [.ref 10, .ref 9, .int (nI L), .int (nI A.wc), .int (nI p)], [], WW (CA.s_wg A (wgs (im A.t (fun k => A.rr (A.wc * 40 + k)) (A.rl A.wc)) A.wc p A.wg)) R o, k, z) Q
  | 0, p, hj => by
    obtain rfl : p = A.P := by omega
    have h7 := T.p7
    refine wz_iload (p9 := 31) rfl rfl rfl ?_
    refine wz_aload_n (p9 := 32) rfl rfl rfl ?_
    refine wz_get (v := .ref 1) (p9 := 35) rfl rfl rfl rfl rfl ?_
    refine wz_c1 (p9 := 38) (w1 := WW (CA.s_wg A (wgs (im A.t (fun k => A.rr (A.wc * 40 + k)) (A.rl A.wc)) A.wc A.P A.wg)) R o) (u := .int (nI A.P)) (wa_v (N := 1) (i := 1) (As := []) (rest := [.int (nI A.P)]) rfl rfl rfl rfl rfl rfl rfl) rfl ((g_placeCount (d := 0) (A := (CA.s_wg A (wgs (im A.t (fun k => A.rr (A.wc * 40 + k)) (A.rl A.wc)) A.wc A.P A.wg))) (R := R) ).up (by omega)) ?_
    refine wn_icge (t9 := 66) (p9 := 41) rfl rfl rfl (by omega) (by omega) (fun _ => ?_) (fun h9 => by omega)
    exact kk
  | j + 1, p, hj => by
    have h7 := T.p7
    refine wz_iload (p9 := 31) rfl rfl rfl ?_
    refine wz_aload_n (p9 := 32) rfl rfl rfl ?_
    refine wz_get (v := .ref 1) (p9 := 35) rfl rfl rfl rfl rfl ?_
    refine wz_c1 (p9 := 38) (w1 := WW (CA.s_wg A (wgs (im A.t (fun k => A.rr (A.wc * 40 + k)) (A.rl A.wc)) A.wc p A.wg)) R o) (u := .int (nI A.P)) (wa_v (N := 1) (i := 1) (As := []) (rest := [.int (nI p)]) rfl rfl rfl rfl rfl rfl rfl) rfl ((g_placeCount (d := 0) (A := (CA.s_wg A (wgs (im A.t (fun k => A.rr (A.wc * 40 + k)) (A.rl A.wc)) A.wc p A.wg))) (R := R) ).up (by omega)) ?_
    refine wn_icge (t9 := 66) (p9 := 41) rfl rfl rfl (by omega) (by omega) (fun h9 => by omega) (fun _ => ?_)
    have hp : p < A.P := by omega
    refine wz_aload_n (p9 := 42) rfl rfl rfl ?_
    refine wz_get (v := .ref 13) (p9 := 45) rfl rfl rfl rfl rfl ?_
    refine wz_iload_n (p9 := 46) rfl rfl rfl ?_
    refine wz_bipush (x := nI 7) (p9 := 48) rfl rfl (by decide) ?_
    refine wn_mul (p9 := 49) rfl rfl ?_
    refine wz_iload (p9 := 51) rfl rfl rfl ?_
    refine wn_add (p9 := 52) rfl rfl ?_
    refine wz_aload_n (p9 := 53) rfl rfl rfl ?_
    refine wz_iload_n (p9 := 54) rfl rfl rfl ?_
    refine wz_iload (p9 := 56) rfl rfl rfl ?_
    refine wz_c1 (p9 := 59) (w1 := WW (CA.s_wg A (wgs (im A.t (fun k => A.rr (A.wc * 40 + k)) (A.rl A.wc)) A.wc p A.wg)) R o) (u := .int (nI (im A.t (fun k => A.rr (A.wc * 40 + k)) (A.rl A.wc) p))) (wa_v (N := 35) (i := 10) (As := [.int (nI A.wc), .int (nI p)]) (rest := [.int (nI ((A.wc * 7) + p)), .ref 13]) rfl rfl rfl rfl rfl rfl rfl) rfl ((g_follow (d := 0) (A := (CA.s_wg A (wgs (im A.t (fun k => A.rr (A.wc * 40 + k)) (A.rl A.wc)) A.wc p A.wg))) (R := R) T (show A.wc ≤ 30 by omega) (by omega) hp hL hr).up (by omega)) ?_
    refine ws_Awg (f := wgs (im A.t (fun k => A.rr (A.wc * 40 + k)) (A.rl A.wc)) A.wc p A.wg) (p9 := 60) rfl rfl rfl (by omega) (A1 := (CA.s_wg A (un (wgs (im A.t (fun k => A.rr (A.wc * 40 + k)) (A.rl A.wc)) A.wc p A.wg) ((A.wc * 7) + p) (im A.t (fun k => A.rr (A.wc * 40 + k)) (A.rl A.wc) p)))) rfl ?_
    refine wn_inc (b := 1) (l9 := [.ref 10, .ref 9, .int (nI L), .int (nI A.wc), .int (nI (p + 1))]) (p9 := 63) rfl rfl rfl (by decide) rfl ?_
    refine wz_goto (p9 := 29) rfl rfl ?_
    exact l_addWB T hw hL hr kk j (p + 1) (by omega)
theorem g_addWB {X : Nat × (Nat → Int32)} {d : Nat} {A : CA} {R : RA} {o : Nat → Int64} (T : TV A.P A.Mv A.t A.od) {L : Nat} (hw : A.wc < 30) (hL : L ≤ 40) (hr : ∀ k, k < L → A.bu k < 96) : px_ev X (d + 3) 34 [.ref 10, .ref 9, .int (nI L)] (WW A R o) (some (some (.int (nI A.wc))), WW (CA.s_wg (CA.s_rl (CA.s_rr (CA.s_wc A (A.wc + 1)) (cpn A.bu A.rr (A.wc * 40) L)) (un A.rl A.wc L)) (wgs (im A.t (fun k => (cpn A.bu A.rr (A.wc * 40) L) (A.wc * 40 + k)) ((un A.rl A.wc L) A.wc)) A.wc A.P A.wg)) R o, 0, 0) := by
  refine wp_ev (d := d + 2) (by decide) rfl rfl (fun h => by cases h) ?_
  show wp X (d + 2) 34 (0, [.ref 10, .ref 9, .int (nI L), .retAddr 0, .retAddr 0], [], WW A R o, 0, 0) _
  refine wz_aload_n (p9 := 1) rfl rfl rfl ?_
  refine wz_get (v := .int (nI A.wc)) (p9 := 4) rfl rfl rfl rfl rfl ?_
  refine wz_istore_n (l9 := [.ref 10, .ref 9, .int (nI L), .int (nI A.wc), .retAddr 0]) (p9 := 5) rfl rfl rfl rfl ?_
  refine wz_aload_n (p9 := 6) rfl rfl rfl ?_
  refine wz_iconst (x := nI 0) (p9 := 7) rfl rfl (by decide) ?_
  refine wz_aload_n (p9 := 8) rfl rfl rfl ?_
  refine wz_get (v := .ref 12) (p9 := 11) rfl rfl rfl rfl rfl ?_
  refine wz_iload_n (p9 := 12) rfl rfl rfl ?_
  refine wz_bipush (x := nI 40) (p9 := 14) rfl rfl (by decide) ?_
  refine wn_mul (p9 := 15) rfl rfl ?_
  refine wz_iload_n (p9 := 16) rfl rfl rfl ?_
  refine wz_copy (f := A.bu) (g := A.rr) (w1 := WW (CA.s_rr A (cpn A.bu A.rr (A.wc * 40) L)) R o) (p9 := 19) rfl rfl rfl rfl rfl rfl (by omega) (by omega) (by omega) (by omega) rfl ?_
  refine wz_aload_n (p9 := 20) rfl rfl rfl ?_
  refine wz_get (v := .ref 11) (p9 := 23) rfl rfl rfl rfl rfl ?_
  refine wz_iload_n (p9 := 24) rfl rfl rfl ?_
  refine wz_iload_n (p9 := 25) rfl rfl rfl ?_
  refine ws_Arl (f := A.rl) (p9 := 26) rfl rfl rfl (by omega) (A1 := (CA.s_rr (CA.s_rl A (un A.rl A.wc L)) (cpn A.bu A.rr (A.wc * 40) L))) rfl ?_
  refine wz_iconst (x := nI 0) (p9 := 27) rfl rfl (by decide) ?_
  refine wz_istore (l9 := [.ref 10, .ref 9, .int (nI L), .int (nI A.wc), .int (nI 0)]) (p9 := 29) rfl rfl rfl rfl ?_
  refine l_addWB (A := (CA.s_rl (CA.s_rr A (cpn A.bu A.rr (A.wc * 40) L)) (un A.rl A.wc L))) T hw (by show un A.rl A.wc L A.wc ≤ 40; rw [un_at]; omega) (fun k hk => ?_) ?_ A.P 0 (Nat.zero_add _)
  · have hk2 : k < L := by
      have hk9 : k < un A.rl A.wc L A.wc := hk
      rw [un_at] at hk9
      exact hk9
    show cpn A.bu A.rr (A.wc * 40) L (A.wc * 40 + k) < 96
    unfold cpn
    rw [if_pos ⟨by omega, by omega⟩, show A.wc * 40 + k - A.wc * 40 = k by omega]
    exact hr k hk2
  refine wz_aload_n (p9 := 67) rfl rfl rfl ?_
  refine wz_dupr (p9 := 68) rfl rfl ?_
  refine wz_get (v := .int (nI A.wc)) (p9 := 71) rfl rfl rfl rfl rfl ?_
  refine wz_iconst (x := nI 1) (p9 := 72) rfl rfl (by decide) ?_
  refine wn_add (p9 := 73) rfl rfl ?_
  refine wp_Awc (x := (A.wc + 1)) (p9 := 76) rfl rfl rfl rfl (A1 := (CA.s_wg (CA.s_rr (CA.s_rl (CA.s_wc A (A.wc + 1)) (un A.rl A.wc L)) (cpn A.bu A.rr (A.wc * 40) L)) (wgs (im A.t (fun k => (cpn A.bu A.rr (A.wc * 40) L) (A.wc * 40 + k)) ((un A.rl A.wc L) A.wc)) A.wc A.P A.wg))) rfl ?_
  refine wz_iload_n (p9 := 77) rfl rfl rfl ?_
  exact wz_reti rfl rfl rfl
theorem l_addWP {X : Nat × (Nat → Int32)} {d : Nat} {A : CA} {R : RA} {o : Nat → Int64} (T : TV A.P A.Mv A.t A.od) (hw : A.wc < 30) (hL : A.rl A.wc ≤ 40) (hr : ∀ k, k < A.rl A.wc → A.rr (A.wc * 40 + k) < 96) {k z L : Nat} {Q : px_Z → Prop} (kk : wp X (d + 2) 34 (66, [.ref 10, .ref 24, .int (nI L), .int (nI A.wc), .int (nI A.P)], [], WW (CA.s_wg A (wgs (im A.t (fun k => A.rr (A.wc * 40 + k)) (A.rl A.wc)) A.wc A.P A.wg)) R o, k, z) Q) : ∀ (j p : Nat), p + j = A.P → wp X (d + 2) 34 (29, [.ref 10, .ref 24, .int (nI L), .int (nI A.wc), .int (nI p)], [], WW (CA.s_wg A (wgs (im A.t (fun k => A.rr (A.wc * 40 + k)) (A.rl A.wc)) A.wc p A.wg)) R o, k, z) Q
  | 0, p, hj => by
    obtain rfl : p = A.P := by omega
    have h7 := T.p7
    refine wz_iload (p9 := 31) rfl rfl rfl ?_
    refine wz_aload_n (p9 := 32) rfl rfl rfl ?_
    refine wz_get (v := .ref 1) (p9 := 35) rfl rfl rfl rfl rfl ?_
    refine wz_c1 (p9 := 38) (w1 := WW (CA.s_wg A (wgs (im A.t (fun k => A.rr (A.wc * 40 + k)) (A.rl A.wc)) A.wc A.P A.wg)) R o) (u := .int (nI A.P)) (wa_v (N := 1) (i := 1) (As := []) (rest := [.int (nI A.P)]) rfl rfl rfl rfl rfl rfl rfl) rfl ((g_placeCount (d := 0) (A := (CA.s_wg A (wgs (im A.t (fun k => A.rr (A.wc * 40 + k)) (A.rl A.wc)) A.wc A.P A.wg))) (R := R) ).up (by omega)) ?_
    refine wn_icge (t9 := 66) (p9 := 41) rfl rfl rfl (by omega) (by omega) (fun _ => ?_) (fun h9 => by omega)
    exact kk
  | j + 1, p, hj => by
    have h7 := T.p7
    refine wz_iload (p9 := 31) rfl rfl rfl ?_
    refine wz_aload_n (p9 := 32) rfl rfl rfl ?_
    refine wz_get (v := .ref 1) (p9 := 35) rfl rfl rfl rfl rfl ?_
    refine wz_c1 (p9 := 38) (w1 := WW (CA.s_wg A (wgs (im A.t (fun k => A.rr (A.wc * 40 + k)) (A.rl A.wc)) A.wc p A.wg)) R o) (u := .int (nI A.P)) (wa_v (N := 1) (i := 1) (As := []) (rest := [.int (nI p)]) rfl rfl rfl rfl rfl rfl rfl) rfl ((g_placeCount (d := 0) (A := (CA.s_wg A (wgs (im A.t (fun k => A.rr (A.wc * 40 + k)) (A.rl A.wc)) A.wc p A.wg))) (R := R) ).up (by omega)) ?_
    refine wn_icge (t9 := 66) (p9 := 41) rfl rfl rfl (by omega) (by omega) (fun h9 => by omega) (fun _ => ?_)
    have hp : p < A.P := by omega
    refine wz_aload_n (p9 := 42) rfl rfl rfl ?_
    refine wz_get (v := .ref 13) (p9 := 45) rfl rfl rfl rfl rfl ?_
    refine wz_iload_n (p9 := 46) rfl rfl rfl ?_
    refine wz_bipush (x := nI 7) (p9 := 48) rfl rfl (by decide) ?_
    refine wn_mul (p9 := 49) rfl rfl ?_
    refine wz_iload (p9 := 51) rfl rfl rfl ?_
    refine wn_add (p9 := 52) rfl rfl ?_
    refine wz_aload_n (p9 := 53) rfl rfl rfl ?_
    refine wz_iload_n (p9 := 54) rfl rfl rfl ?_
    refine wz_iload (p9 := 56) rfl rfl rfl ?_
    refine wz_c1 (p9 := 59) (w1 := WW (CA.s_wg A (wgs (im A.t (fun k => A.rr (A.wc * 40 + k)) (A.rl A.wc)) A.wc p A.wg)) R o) (u := .int (nI (im A.t (fun k => A.rr (A.wc * 40 + k)) (A.rl A.wc) p))) (wa_v (N := 35) (i := 10) (As := [.int (nI A.wc), .int (nI p)]) (rest := [.int (nI ((A.wc * 7) + p)), .ref 13]) rfl rfl rfl rfl rfl rfl rfl) rfl ((g_follow (d := 0) (A := (CA.s_wg A (wgs (im A.t (fun k => A.rr (A.wc * 40 + k)) (A.rl A.wc)) A.wc p A.wg))) (R := R) T (show A.wc ≤ 30 by omega) (by omega) hp hL hr).up (by omega)) ?_
    refine ws_Awg (f := wgs (im A.t (fun k => A.rr (A.wc * 40 + k)) (A.rl A.wc)) A.wc p A.wg) (p9 := 60) rfl rfl rfl (by omega) (A1 := (CA.s_wg A (un (wgs (im A.t (fun k => A.rr (A.wc * 40 + k)) (A.rl A.wc)) A.wc p A.wg) ((A.wc * 7) + p) (im A.t (fun k => A.rr (A.wc * 40 + k)) (A.rl A.wc) p)))) rfl ?_
    refine wn_inc (b := 1) (l9 := [.ref 10, .ref 24, .int (nI L), .int (nI A.wc), .int (nI (p + 1))]) (p9 := 63) rfl rfl rfl (by decide) rfl ?_
    refine wz_goto (p9 := 29) rfl rfl ?_
    exact l_addWP T hw hL hr kk j (p + 1) (by omega)
theorem g_addWP {X : Nat × (Nat → Int32)} {d : Nat} {A : CA} {R : RA} {o : Nat → Int64} (T : TV A.P A.Mv A.t A.od) {L : Nat} (hw : A.wc < 30) (hL : L ≤ 9) (hr : ∀ k, k < L → A.pa k < 96) : px_ev X (d + 3) 34 [.ref 10, .ref 24, .int (nI L)] (WW A R o) (some (some (.int (nI A.wc))), WW (CA.s_wg (CA.s_rl (CA.s_rr (CA.s_wc A (A.wc + 1)) (cpn A.pa A.rr (A.wc * 40) L)) (un A.rl A.wc L)) (wgs (im A.t (fun k => (cpn A.pa A.rr (A.wc * 40) L) (A.wc * 40 + k)) ((un A.rl A.wc L) A.wc)) A.wc A.P A.wg)) R o, 0, 0) := by
  refine wp_ev (d := d + 2) (by decide) rfl rfl (fun h => by cases h) ?_
  show wp X (d + 2) 34 (0, [.ref 10, .ref 24, .int (nI L), .retAddr 0, .retAddr 0], [], WW A R o, 0, 0) _
  refine wz_aload_n (p9 := 1) rfl rfl rfl ?_
  refine wz_get (v := .int (nI A.wc)) (p9 := 4) rfl rfl rfl rfl rfl ?_
  refine wz_istore_n (l9 := [.ref 10, .ref 24, .int (nI L), .int (nI A.wc), .retAddr 0]) (p9 := 5) rfl rfl rfl rfl ?_
  refine wz_aload_n (p9 := 6) rfl rfl rfl ?_
  refine wz_iconst (x := nI 0) (p9 := 7) rfl rfl (by decide) ?_
  refine wz_aload_n (p9 := 8) rfl rfl rfl ?_
  refine wz_get (v := .ref 12) (p9 := 11) rfl rfl rfl rfl rfl ?_
  refine wz_iload_n (p9 := 12) rfl rfl rfl ?_
  refine wz_bipush (x := nI 40) (p9 := 14) rfl rfl (by decide) ?_
  refine wn_mul (p9 := 15) rfl rfl ?_
  refine wz_iload_n (p9 := 16) rfl rfl rfl ?_
  refine wz_copy (f := A.pa) (g := A.rr) (w1 := WW (CA.s_rr A (cpn A.pa A.rr (A.wc * 40) L)) R o) (p9 := 19) rfl rfl rfl rfl rfl rfl (by omega) (by omega) (by omega) (by omega) rfl ?_
  refine wz_aload_n (p9 := 20) rfl rfl rfl ?_
  refine wz_get (v := .ref 11) (p9 := 23) rfl rfl rfl rfl rfl ?_
  refine wz_iload_n (p9 := 24) rfl rfl rfl ?_
  refine wz_iload_n (p9 := 25) rfl rfl rfl ?_
  refine ws_Arl (f := A.rl) (p9 := 26) rfl rfl rfl (by omega) (A1 := (CA.s_rr (CA.s_rl A (un A.rl A.wc L)) (cpn A.pa A.rr (A.wc * 40) L))) rfl ?_
  refine wz_iconst (x := nI 0) (p9 := 27) rfl rfl (by decide) ?_
  refine wz_istore (l9 := [.ref 10, .ref 24, .int (nI L), .int (nI A.wc), .int (nI 0)]) (p9 := 29) rfl rfl rfl rfl ?_
  refine l_addWP (A := (CA.s_rl (CA.s_rr A (cpn A.pa A.rr (A.wc * 40) L)) (un A.rl A.wc L))) T hw (by show un A.rl A.wc L A.wc ≤ 40; rw [un_at]; omega) (fun k hk => ?_) ?_ A.P 0 (Nat.zero_add _)
  · have hk2 : k < L := by
      have hk9 : k < un A.rl A.wc L A.wc := hk
      rw [un_at] at hk9
      exact hk9
    show cpn A.pa A.rr (A.wc * 40) L (A.wc * 40 + k) < 96
    unfold cpn
    rw [if_pos ⟨by omega, by omega⟩, show A.wc * 40 + k - A.wc * 40 = k by omega]
    exact hr k hk2
  refine wz_aload_n (p9 := 67) rfl rfl rfl ?_
  refine wz_dupr (p9 := 68) rfl rfl ?_
  refine wz_get (v := .int (nI A.wc)) (p9 := 71) rfl rfl rfl rfl rfl ?_
  refine wz_iconst (x := nI 1) (p9 := 72) rfl rfl (by decide) ?_
  refine wn_add (p9 := 73) rfl rfl ?_
  refine wp_Awc (x := (A.wc + 1)) (p9 := 76) rfl rfl rfl rfl (A1 := (CA.s_wg (CA.s_rr (CA.s_rl (CA.s_wc A (A.wc + 1)) (un A.rl A.wc L)) (cpn A.pa A.rr (A.wc * 40) L)) (wgs (im A.t (fun k => (cpn A.pa A.rr (A.wc * 40) L) (A.wc * 40 + k)) ((un A.rl A.wc L) A.wc)) A.wc A.P A.wg))) rfl ?_
  refine wz_iload_n (p9 := 77) rfl rfl rfl ?_
  exact wz_reti rfl rfl rfl
noncomputable def mtb (x g : Nat) : Bool := @decide (mt x g) (Classical.propDecidable _)
theorem mtb_1 {x g : Nat} (h : mt x g) : mtb x g = true := @decide_eq_true _ (Classical.propDecidable _) h
theorem mtb_0 {x g : Nat} (h : ¬ mt x g) : mtb x g = false := @decide_eq_false _ (Classical.propDecidable _) h
/-- the first word that is better -/
def nw (P : Nat) (wg us : Nat → Nat) (g su s x : Nat) : Option Nat := fb (fun k => us (s * 12 + k)) (fun w => hb (fun q => wg (w * 7 + q)) x g P) (hc x g 7) su 0
/-- a stage done to the state x, of at most so many words: whether it didn't fail, the state, the words -/
noncomputable def gs (P : Nat) (wg us : Nat → Nat) (g su s : Nat) : Nat → Nat → Bool × Nat × List Nat
  | 0, x => (true, x, [])
  | j + 1, x => if mtb x g then (true, x, []) else match nw P wg us g su s x with
    | none => (false, x, [])
    | some w => ((gs P wg us g su s j (tr (fun q => wg (w * 7 + q)) x P)).1, (gs P wg us g su s j (tr (fun q => wg (w * 7 + q)) x P)).2.1, w :: (gs P wg us g su s j (tr (fun q => wg (w * 7 + q)) x P)).2.2)
theorem fb_some {us F : Nat → Nat} {h w : Nat} : ∀ {j i : Nat}, fb us F h j i = some w → ∃ k, w = us k
  | 0, i, e => by cases e
  | j + 1, i, e => by
    unfold fb at e
    split at e
    · cases e; exact ⟨i, rfl⟩
    · exact fb_some e
theorem nw_lt {P g su s x w : Nat} {wg us : Nat → Nat} (hu : ∀ q, us q < 30) (e : nw P wg us g su s x = some w) : w < 30 := by
  obtain ⟨k, rfl⟩ := fb_some e
  exact hu _
theorem gs_met {P g su s j x : Nat} {wg us : Nat → Nat} (h : mt x g) : gs P wg us g su s (j + 1) x = (true, x, []) := by
  unfold gs
  rw [mtb_1 h]
  rfl
theorem gs_no {P g su s j x : Nat} {wg us : Nat → Nat} (h : ¬ mt x g) (e : nw P wg us g su s x = none) : gs P wg us g su s (j + 1) x = (false, x, []) := by
  unfold gs
  rw [mtb_0 h, e]
  rfl
theorem gs_go {P g su s j x w : Nat} {wg us : Nat → Nat} (h : ¬ mt x g) (e : nw P wg us g su s x = some w) : gs P wg us g su s (j + 1) x = ((gs P wg us g su s j (tr (fun q => wg (w * 7 + q)) x P)).1, (gs P wg us g su s j (tr (fun q => wg (w * 7 + q)) x P)).2.1, w :: (gs P wg us g su s j (tr (fun q => wg (w * 7 + q)) x P)).2.2) := by
  rw [gs]
  rw [mtb_0 h, e]
  rfl
theorem q_ne1 {w : Nat} (h : w < 2147483648) : ¬ nI w = -1 := by
  intro e
  have h1 : (nI w).toInt = (w : Int) := nI_toInt (by omega)
  rw [e] at h1
  have h2 : (-1 : Int32).toInt = -1 := by decide
  omega
theorem l_endsWell {X : Nat × (Nat → Int32)} {d : Nat} {A : CA} {R : RA} {o : Nat → Int64} (T : TV A.P A.Mv A.t A.od) (V : WV A.wc A.rl A.rr A.wg) (S : SV A.sc A.sg A.su A.us) {s y : Nat} (hs : s < 8) {k z : Nat} {Q : px_Z → Prop} : ∀ (j p x : Nat) (v v6 : Value), p + j = 7 → x < 2097152 → (((gs A.P A.wg A.us (A.sg s) (A.su s) s) j x).1 = false → Q (some (some (.int (nI 0))), WW A R o, k, z)) → (((gs A.P A.wg A.us (A.sg s) (A.su s) s) j x).1 = true → ((gs A.P A.wg A.us (A.sg s) (A.su s) s) j x).2.1 < 2097152 → ∀ v5 v6, wp X (d + 3) 56 (59, [.ref 14, .int (nI s), v, .int (nI y), .int (nI ((gs A.P A.wg A.us (A.sg s) (A.su s) s) j x).2.1), v5, v6], [], WW A R o, k, z) Q) → wp X (d + 3) 56 (6, [.ref 14, .int (nI s), v, .int (nI y), .int (nI x), .int (nI p), v6], [], WW A R o, k, z) Q
  | 0, p, x, v, v6, hj, hx, kn, kk => by
    refine wz_iload (p9 := 8) rfl rfl rfl ?_
    refine wz_bipush (x := nI 7) (p9 := 10) rfl rfl (by decide) ?_
    refine wn_icge (t9 := 59) (p9 := 13) rfl rfl rfl (by omega) (by omega) (fun _ => ?_) (fun h9 => by omega)
    exact kk rfl hx _ _
  | j + 1, p, x, v, v6, hj, hx, kn, kk => by
    by_cases hm : mt x (A.sg s)
    · rw [gs_met hm] at kn kk
      refine wz_iload (p9 := 8) rfl rfl rfl ?_
      refine wz_bipush (x := nI 7) (p9 := 10) rfl rfl (by decide) ?_
      refine wn_icge (t9 := 59) (p9 := 13) rfl rfl rfl (by omega) (by omega) (fun h9 => by omega) (fun _ => ?_)
      refine wz_aload_n (p9 := 14) rfl rfl rfl ?_
      refine wz_iload_n (p9 := 15) rfl rfl rfl ?_
      refine wz_iload (p9 := 17) rfl rfl rfl ?_
      refine wz_c1 (p9 := 20) (w1 := WW A R o) (u := .int (nI 1)) (wa_v (N := 52) (i := 14) (As := [.int (nI s), .int (nI x)]) (rest := []) rfl rfl rfl rfl rfl rfl rfl) rfl ((g_isMet1 (d := 0) S hs (by omega) hm).up (by omega)) ?_
      refine wn_ifne (t9 := 59) (p9 := 23) rfl rfl rfl (by omega) (fun _ => ?_) (fun h9 => absurd h9 (by decide))
      exact kk rfl hx _ _
    cases e : nw A.P A.wg A.us (A.sg s) (A.su s) s x with
    | none =>
      rw [gs_no hm e] at kn kk
      have kn := kn rfl
      refine wz_iload (p9 := 8) rfl rfl rfl ?_
      refine wz_bipush (x := nI 7) (p9 := 10) rfl rfl (by decide) ?_
      refine wn_icge (t9 := 59) (p9 := 13) rfl rfl rfl (by omega) (by omega) (fun h9 => by omega) (fun _ => ?_)
      refine wz_aload_n (p9 := 14) rfl rfl rfl ?_
      refine wz_iload_n (p9 := 15) rfl rfl rfl ?_
      refine wz_iload (p9 := 17) rfl rfl rfl ?_
      refine wz_c1 (p9 := 20) (w1 := WW A R o) (u := .int (nI 0)) (wa_v (N := 52) (i := 14) (As := [.int (nI s), .int (nI x)]) (rest := []) rfl rfl rfl rfl rfl rfl rfl) rfl ((g_isMet0 (d := 0) S hs (by omega) hm).up (by omega)) ?_
      refine wn_ifne (t9 := 59) (p9 := 23) rfl rfl rfl (by omega) (fun h9 => absurd rfl h9) (fun _ => ?_)
      refine wz_aload_n (p9 := 24) rfl rfl rfl ?_
      refine wz_iload_n (p9 := 25) rfl rfl rfl ?_
      refine wz_iload (p9 := 27) rfl rfl rfl ?_
      have hfb := g_firstBetter (X := X) (d := 0) (A := A) (R := R) (o := o) T V S hs (show x < 2147483648 by omega)
      rw [show fb _ _ _ _ _ = _ from e] at hfb
      refine wz_c1 (p9 := 30) (w1 := WW A R o) (u := .int (-1)) (wa_v (N := 53) (i := 14) (As := [.int (nI s), .int (nI x)]) (rest := []) rfl rfl rfl rfl rfl rfl rfl) rfl (hfb.up (by omega)) ?_
      refine wz_istore (l9 := [.ref 14, .int (nI s), v, .int (nI y), .int (nI x), .int (nI p), .int (-1)]) (p9 := 32) rfl rfl rfl rfl ?_
      refine wz_iload (p9 := 34) rfl rfl rfl ?_
      refine wz_iconst (x := (-1)) (p9 := 35) rfl rfl (by decide) ?_
      refine wz_icne (t9 := 40) (p9 := 38) rfl rfl rfl (fun h9 => absurd rfl h9) (fun _ => ?_)
      refine wz_iconst (x := nI 0) (p9 := 39) rfl rfl (by decide) ?_
      exact wz_retz rfl rfl (by decide) kn
    | some w =>
      rw [gs_go hm e] at kn kk
      have hw := nw_lt S.us e
      refine wz_iload (p9 := 8) rfl rfl rfl ?_
      refine wz_bipush (x := nI 7) (p9 := 10) rfl rfl (by decide) ?_
      refine wn_icge (t9 := 59) (p9 := 13) rfl rfl rfl (by omega) (by omega) (fun h9 => by omega) (fun _ => ?_)
      refine wz_aload_n (p9 := 14) rfl rfl rfl ?_
      refine wz_iload_n (p9 := 15) rfl rfl rfl ?_
      refine wz_iload (p9 := 17) rfl rfl rfl ?_
      refine wz_c1 (p9 := 20) (w1 := WW A R o) (u := .int (nI 0)) (wa_v (N := 52) (i := 14) (As := [.int (nI s), .int (nI x)]) (rest := []) rfl rfl rfl rfl rfl rfl rfl) rfl ((g_isMet0 (d := 0) S hs (by omega) hm).up (by omega)) ?_
      refine wn_ifne (t9 := 59) (p9 := 23) rfl rfl rfl (by omega) (fun h9 => absurd rfl h9) (fun _ => ?_)
      refine wz_aload_n (p9 := 24) rfl rfl rfl ?_
      refine wz_iload_n (p9 := 25) rfl rfl rfl ?_
      refine wz_iload (p9 := 27) rfl rfl rfl ?_
      have hfb := g_firstBetter (X := X) (d := 0) (A := A) (R := R) (o := o) T V S hs (show x < 2147483648 by omega)
      rw [show fb _ _ _ _ _ = _ from e] at hfb
      refine wz_c1 (p9 := 30) (w1 := WW A R o) (u := .int (nI w)) (wa_v (N := 53) (i := 14) (As := [.int (nI s), .int (nI x)]) (rest := []) rfl rfl rfl rfl rfl rfl rfl) rfl (hfb.up (by omega)) ?_
      refine wz_istore (l9 := [.ref 14, .int (nI s), v, .int (nI y), .int (nI x), .int (nI p), .int (nI w)]) (p9 := 32) rfl rfl rfl rfl ?_
      refine wz_iload (p9 := 34) rfl rfl rfl ?_
      refine wz_iconst (x := (-1)) (p9 := 35) rfl rfl (by decide) ?_
      refine wz_icne (t9 := 40) (p9 := 38) rfl rfl rfl (fun _ => ?_) (fun h9 => absurd h9 (q_ne1 (by omega)))
      refine wz_aload_n (p9 := 41) rfl rfl rfl ?_
      refine wz_get (v := .ref 10) (p9 := 44) rfl rfl rfl rfl rfl ?_
      refine wz_iload (p9 := 46) rfl rfl rfl ?_
      refine wz_iload (p9 := 48) rfl rfl rfl ?_
      refine wz_c1 (p9 := 51) (w1 := WW A R o) (u := .int (nI (tr (fun q => A.wg (w * 7 + q)) x A.P))) (wa_v (N := 41) (i := 10) (As := [.int (nI w), .int (nI x)]) (rest := []) rfl rfl rfl rfl rfl rfl rfl) rfl ((g_wTurned (d := 0) T V (by omega) (by omega)).up (by omega)) ?_
      refine wz_istore (l9 := [.ref 14, .int (nI s), v, .int (nI y), .int (nI (tr (fun q => A.wg (w * 7 + q)) x A.P)), .int (nI p), .int (nI w)]) (p9 := 53) rfl rfl rfl rfl ?_
      refine wn_inc (b := 1) (l9 := [.ref 14, .int (nI s), v, .int (nI y), .int (nI (tr (fun q => A.wg (w * 7 + q)) x A.P)), .int (nI (p + 1)), .int (nI w)]) (p9 := 56) rfl rfl rfl (by decide) rfl ?_
      refine wz_goto (p9 := 6) rfl rfl ?_
      exact l_endsWell T V S hs j (p + 1) _ _ _ (by omega) (tr_lt (fun q _ => V.wg _) A.P (Nat.le_refl _)) kn kk
theorem g_endsWell {X : Nat × (Nat → Int32)} {d : Nat} {A : CA} {R : RA} {o : Nat → Int64} (T : TV A.P A.Mv A.t A.od) (V : WV A.wc A.rl A.rr A.wg) (S : SV A.sc A.sg A.su A.us) {s x y : Nat} (hs : s < 8) (hx : x < 2097152) (hy : y < 2147483648) : px_ev X (d + 4) 56 [.ref 14, .int (nI s), .int (nI x), .int (nI y)] (WW A R o) (some (some (.int (nI (if ((gs A.P A.wg A.us (A.sg s) (A.su s) s) 7 x).1 && mtb ((gs A.P A.wg A.us (A.sg s) (A.su s) s) 7 x).2.1 y then 1 else 0)))), WW A R o, 0, 0) := by
  refine wp_ev (d := d + 3) (by decide) rfl rfl (fun h => by cases h) ?_
  show wp X (d + 3) 56 (0, [.ref 14, .int (nI s), .int (nI x), .int (nI y), .retAddr 0, .retAddr 0, .retAddr 0], [], WW A R o, 0, 0) _
  refine wz_iload_n (p9 := 1) rfl rfl rfl ?_
  refine wz_istore (l9 := [.ref 14, .int (nI s), .int (nI x), .int (nI y), .int (nI x), .retAddr 0, .retAddr 0]) (p9 := 3) rfl rfl rfl rfl ?_
  refine wz_iconst (x := nI 0) (p9 := 4) rfl rfl (by decide) ?_
  refine wz_istore (l9 := [.ref 14, .int (nI s), .int (nI x), .int (nI y), .int (nI x), .int (nI 0), .retAddr 0]) (p9 := 6) rfl rfl rfl rfl ?_
  refine l_endsWell T V S hs 7 0 x _ _ (by omega) hx (fun h1 => by rw [h1]; rfl) (fun h1 h2 v5 v6 => ?_)
  by_cases hm : mt ((gs A.P A.wg A.us (A.sg s) (A.su s) s) 7 x).2.1 y
  · refine wz_iload (p9 := 61) rfl rfl rfl ?_
    refine wz_iload_n (p9 := 62) rfl rfl rfl ?_
    refine wz_c1 (p9 := 65) (w1 := WW A R o) (u := .int (nI 1)) (tz_calS (N := 155) (As := [.int (nI (((gs A.P A.wg A.us (A.sg s) (A.su s) s) 7 x).2.1)), .int (nI y)]) (rest := []) rfl rfl rfl rfl rfl rfl) rfl ((g_meets1 (d := 0) (by omega) hy hm).up (by omega)) ?_
    exact wz_retz rfl rfl (by decide) (by rw [h1, mtb_1 hm]; rfl)
  · refine wz_iload (p9 := 61) rfl rfl rfl ?_
    refine wz_iload_n (p9 := 62) rfl rfl rfl ?_
    refine wz_c1 (p9 := 65) (w1 := WW A R o) (u := .int (nI 0)) (tz_calS (N := 155) (As := [.int (nI (((gs A.P A.wg A.us (A.sg s) (A.su s) s) 7 x).2.1)), .int (nI y)]) (rest := []) rfl rfl rfl rfl rfl rfl) rfl ((g_meets0 (d := 0) (by omega) hy hm).up (by omega)) ?_
    exact wz_retz rfl rfl (by decide) (by rw [h1, mtb_0 hm]; rfl)
