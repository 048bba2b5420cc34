/-! THE REFERENCE: stages done; run side by side (wip/whole/gen/mkbc.py) -/
def RG (A : CA) (R : RA) : Prop := (TV A.P A.Mv A.t A.od) ∧ (R.P = A.P) ∧ (R.Mv = A.Mv) ∧ (R.t = A.t) ∧ (WV A.wc A.rl A.rr A.wg) ∧ (WI A.P A.t A.wc A.rl A.rr A.wg) ∧ (R.wc = A.wc) ∧ (R.ln = A.rl) ∧ (R.rr = A.rr) ∧ (SV A.sc A.sg A.su A.us) ∧ (∀ q, A.sg q < 2 ^ A.P) ∧ (∀ s, s < A.sc → ∀ k, k < A.su s → A.us (s * 12 + k) < A.wc) ∧ (R.sc = A.sc) ∧ (R.go = A.sg) ∧ (R.us = A.su) ∧ (R.ud = A.us)
theorem RG.T {A : CA} {R : RA} (h : RG A R) : TV A.P A.Mv A.t A.od := h.1
theorem RG.p {A : CA} {R : RA} (h : RG A R) : R.P = A.P := h.2.1
theorem RG.m {A : CA} {R : RA} (h : RG A R) : R.Mv = A.Mv := h.2.2.1
theorem RG.t {A : CA} {R : RA} (h : RG A R) : R.t = A.t := h.2.2.2.1
theorem RG.V {A : CA} {R : RA} (h : RG A R) : WV A.wc A.rl A.rr A.wg := h.2.2.2.2.1
theorem RG.wi {A : CA} {R : RA} (h : RG A R) : WI A.P A.t A.wc A.rl A.rr A.wg := h.2.2.2.2.2.1
theorem RG.wc {A : CA} {R : RA} (h : RG A R) : R.wc = A.wc := h.2.2.2.2.2.2.1
theorem RG.ln {A : CA} {R : RA} (h : RG A R) : R.ln = A.rl := h.2.2.2.2.2.2.2.1
theorem RG.rr {A : CA} {R : RA} (h : RG A R) : R.rr = A.rr := h.2.2.2.2.2.2.2.2.1
theorem RG.S {A : CA} {R : RA} (h : RG A R) : SV A.sc A.sg A.su A.us := h.2.2.2.2.2.2.2.2.2.1
theorem RG.sP {A : CA} {R : RA} (h : RG A R) : ∀ q, A.sg q < 2 ^ A.P := h.2.2.2.2.2.2.2.2.2.2.1
theorem RG.uw {A : CA} {R : RA} (h : RG A R) : ∀ s, s < A.sc → ∀ k, k < A.su s → A.us (s * 12 + k) < A.wc := h.2.2.2.2.2.2.2.2.2.2.2.1
theorem RG.sc {A : CA} {R : RA} (h : RG A R) : R.sc = A.sc := h.2.2.2.2.2.2.2.2.2.2.2.2.1
theorem RG.go {A : CA} {R : RA} (h : RG A R) : R.go = A.sg := h.2.2.2.2.2.2.2.2.2.2.2.2.2.1
theorem RG.us {A : CA} {R : RA} (h : RG A R) : R.us = A.su := h.2.2.2.2.2.2.2.2.2.2.2.2.2.2.1
theorem RG.ud {A : CA} {R : RA} (h : RG A R) : R.ud = A.us := h.2.2.2.2.2.2.2.2.2.2.2.2.2.2.2
theorem RE.g {A : CA} {R : RA} (H : RE A R) : RG A R := ⟨H.T, H.p, H.m, H.t, H.V, H.wi, H.wc, H.ln, H.rr, H.S, H.sP, H.uw, H.sc, H.go, H.us, H.ud⟩
theorem RG.TR {A : CA} {R : RA} (h : RG A R) : TV R.P R.Mv R.t A.od := by
  rw [h.p, h.m, h.t]
  exact h.T
theorem RG.VR {A : CA} {R : RA} (h : RG A R) : WV R.wc R.ln R.rr (fun _ => 0) := by
  rw [h.wc, h.ln, h.rr]
  exact ⟨h.V.wc, h.V.rl, h.V.rr, fun _ => (show 0 < 7 by decide)⟩
theorem RG.SR {A : CA} {R : RA} (h : RG A R) : SV R.sc R.go R.us R.ud := by
  rw [h.sc, h.go, h.us, h.ud]
  exact h.S
theorem RG.imE {A : CA} {R : RA} (H : RG A R) (w : Nat) : im R.t (fun k => R.rr (w * 40 + k)) (R.ln w) = im A.t (fun k => A.rr (w * 40 + k)) (A.rl w) := by rw [H.t, H.rr, H.ln]
theorem RG.wpf {A : CA} {R : RA} (H : RG A R) {w : Nat} (hw : w < A.wc) : pf A.P (fun q => A.wg (w * 7 + q)) := pf_congr (im_pf H.T (r := fun k => A.rr (w * 40 + k)) (fun k => H.V.rr _) (A.rl w)) (fun q hq => H.wi w hw q hq)
theorem RG.trw {A : CA} {R : RA} (H : RG A R) {w : Nat} (hw : w < A.wc) (x : Nat) : tr (fun q => A.wg (w * 7 + q)) x A.P = tr (im A.t (fun k => A.rr (w * 40 + k)) (A.rl w)) x A.P := tr_congr A.P (fun q hq => H.wi w hw q hq)
theorem hb_congr {f f2 : Nat → Nat} {x g : Nat} : ∀ P, (∀ q, q < P → f q = f2 q) → hb f x g P = hb f2 x g P
  | 0, _ => rfl
  | P + 1, h => by
    show hb f x g P + _ = hb f2 x g P + _
    rw [hb_congr P (fun q hq => h q (by omega)), h P (by omega)]
theorem SD.lt {P x : Nat} {s : Nat → Nat} (h : SD P s x) (p : Nat) (hp : p < P) : s p < 8 := by rw [h p hp]; exact dg_lt x p
theorem l_mCount {X : Nat × (Nat → Int32)} {d : Nat} {A : CA} {R : RA} {o : Nat → Int64} (h7 : R.P ≤ 7) {g : Nat} (hg : g < 128) {k z : Nat} {Q : px_Z → Prop} (kk : Q (some (some (.int (nI (gc g R.P)))), WW A R o, k, z)) : ∀ (j p : Nat), p + j = R.P → wp X d 134 (4, [.ref 26, .int (nI g), .int (nI (sm (fun p => g / 2 ^ p % 2) p)), .int (nI p)], [], WW A R o, k, z) Q
  | 0, p, hj => by
    obtain rfl : p = R.P := by omega
    refine wz_iload_n (p9 := 5) rfl rfl rfl ?_
    refine wz_aload_n (p9 := 6) rfl rfl rfl ?_
    refine wz_get (v := .int (nI R.P)) (p9 := 9) rfl rfl rfl rfl rfl ?_
    refine wn_icge (t9 := 26) (p9 := 12) rfl rfl rfl (by omega) (by omega) (fun _ => ?_) (fun h9 => by omega)
    refine wz_iload_n (p9 := 27) rfl rfl rfl ?_
    exact wz_reti rfl rfl kk
  | j + 1, p, hj => by
    refine wz_iload_n (p9 := 5) rfl rfl rfl ?_
    refine wz_aload_n (p9 := 6) rfl rfl rfl ?_
    refine wz_get (v := .int (nI R.P)) (p9 := 9) rfl rfl rfl rfl rfl ?_
    refine wn_icge (t9 := 26) (p9 := 12) rfl rfl rfl (by omega) (by omega) (fun h9 => by omega) (fun _ => ?_)
    refine wz_iload_n (p9 := 13) rfl rfl rfl ?_
    refine wz_iload_n (p9 := 14) rfl rfl rfl ?_
    refine wz_iload_n (p9 := 15) rfl rfl rfl ?_
    refine wn_shr (p9 := 16) rfl rfl (by omega) (by omega) ?_
    refine wz_iconst (x := nI 1) (p9 := 17) rfl rfl (by decide) ?_
    refine wn_and1 (p9 := 18) rfl rfl ?_
    refine wn_add (p9 := 19) rfl rfl ?_
    refine wz_istore_n (l9 := [.ref 26, .int (nI g), .int (nI ((sm (fun p => g / 2 ^ p % 2) p) + ((g / 2 ^ p) % 2))), .int (nI p)]) (p9 := 20) rfl rfl rfl rfl ?_
    refine wn_inc (b := 1) (l9 := [.ref 26, .int (nI g), .int (nI ((sm (fun p => g / 2 ^ p % 2) p) + ((g / 2 ^ p) % 2))), .int (nI (p + 1))]) (p9 := 23) rfl rfl rfl (by decide) rfl ?_
    refine wz_goto (p9 := 4) rfl rfl ?_
    exact l_mCount h7 hg kk j (p + 1) (by omega)
theorem g_mCount {X : Nat × (Nat → Int32)} {d : Nat} {A : CA} {R : RA} {o : Nat → Int64} (h7 : R.P ≤ 7) {g : Nat} (hg : g < 128) : px_ev X (d + 1) 134 [.ref 26, .int (nI g)] (WW A R o) (some (some (.int (nI (gc g R.P)))), WW A R o, 0, 0) := by
  refine wp_ev (d := d + 0) (by decide) rfl rfl (fun h => by cases h) ?_
  show wp X (d + 0) 134 (0, [.ref 26, .int (nI g), .retAddr 0, .retAddr 0], [], WW A R o, 0, 0) _
  refine wz_iconst (x := nI 0) (p9 := 1) rfl rfl (by decide) ?_
  refine wz_istore_n (l9 := [.ref 26, .int (nI g), .int (nI 0), .retAddr 0]) (p9 := 2) rfl rfl rfl rfl ?_
  refine wz_iconst (x := nI 0) (p9 := 3) rfl rfl (by decide) ?_
  refine wz_istore_n (l9 := [.ref 26, .int (nI g), .int (nI 0), .int (nI 0)]) (p9 := 4) rfl rfl rfl rfl ?_
  exact l_mCount h7 hg (by exact rfl) R.P 0 (by omega)
theorem l_mHomeN {X : Nat × (Nat → Int32)} {d : Nat} {A : CA} {R : RA} {o : Nat → Int64} (h7 : R.P ≤ 7) {g x : Nat} (hg : g < 128) (hs : SD R.P R.s x) {k z : Nat} {Q : px_Z → Prop} (kk : Q (some (some (.int (nI (hc x g R.P)))), WW A R o, k, z)) : ∀ (j p : Nat), p + j = R.P → ∀ v5, wp X d 135 (5, [.ref 26, .int (nI g), .int (-1), .int (nI (hc x g p)), .int (nI p), v5], [], WW A R o, k, z) Q
  | 0, p, hj => by
    intro v5
    obtain rfl : p = R.P := by omega
    refine wz_iload (p9 := 7) rfl rfl rfl ?_
    refine wz_aload_n (p9 := 8) rfl rfl rfl ?_
    refine wz_get (v := .int (nI R.P)) (p9 := 11) rfl rfl rfl rfl rfl ?_
    refine wn_icge (t9 := 68) (p9 := 14) rfl rfl rfl (by omega) (by omega) (fun _ => ?_) (fun h9 => by omega)
    refine wz_iload_n (p9 := 69) rfl rfl rfl ?_
    exact wz_reti rfl rfl kk
  | j + 1, p, hj => by
    intro v5
    have hs9 := hs p (by omega)
    have hs8 := hs.lt p (by omega)
    refine wz_iload (p9 := 7) rfl rfl rfl ?_
    refine wz_aload_n (p9 := 8) rfl rfl rfl ?_
    refine wz_get (v := .int (nI R.P)) (p9 := 11) rfl rfl rfl rfl rfl ?_
    refine wn_icge (t9 := 68) (p9 := 14) rfl rfl rfl (by omega) (by omega) (fun h9 => by omega) (fun _ => ?_)
    refine wz_iload_n (p9 := 15) rfl rfl rfl ?_
    refine wz_ifge (t9 := 23) (p9 := 18) rfl rfl rfl (fun h9 => absurd h9 (by decide)) (fun _ => ?_)
    refine wz_iload (p9 := 20) rfl rfl rfl ?_
    refine wz_goto (p9 := 30) rfl rfl ?_
    refine wz_istore (l9 := [.ref 26, .int (nI g), .int (-1), .int (nI (hc x g p)), .int (nI p), .int (nI p)]) (p9 := 32) rfl rfl rfl rfl ?_
    refine wz_iload_n (p9 := 33) rfl rfl rfl ?_
    refine wz_iload (p9 := 35) rfl rfl rfl ?_
    refine wz_aload_n (p9 := 36) rfl rfl rfl ?_
    refine wz_get (v := .ref 40) (p9 := 39) rfl rfl rfl rfl rfl ?_
    refine wz_iload (p9 := 41) rfl rfl rfl ?_
    refine wl_Rs (f := R.s) (p9 := 42) rfl rfl rfl (by omega) ?_
    refine wn_icne (t9 := 59) (p9 := 45) rfl rfl rfl (by omega) (by omega) (fun h42 => ?_) (fun h42 => ?_)
    · refine wz_iconst (x := nI 0) (p9 := 60) rfl rfl (by decide) ?_
      refine wn_add (p9 := 61) rfl rfl ?_
      refine wz_istore_n (l9 := [.ref 26, .int (nI g), .int (-1), .int (nI ((hc x g p) + 0)), .int (nI p), .int (nI p)]) (p9 := 62) rfl rfl rfl rfl ?_
      refine wn_inc (b := 1) (l9 := [.ref 26, .int (nI g), .int (-1), .int (nI ((hc x g p) + 0)), .int (nI (p + 1)), .int (nI p)]) (p9 := 65) rfl rfl rfl (by decide) rfl ?_
      refine wz_goto (p9 := 5) rfl rfl ?_
      rw [show hc x g p + 0 = hc x g (p + 1) from (hc_0 (fun hh => absurd (hh.2.symm.trans hs9.symm) h42)).symm]
      exact l_mHomeN h7 hg hs kk j (p + 1) (by omega) _
    · refine wz_iload_n (p9 := 46) rfl rfl rfl ?_
      refine wz_iload (p9 := 48) rfl rfl rfl ?_
      refine wn_shr (p9 := 49) rfl rfl (by omega) (by omega) ?_
      refine wz_iconst (x := nI 1) (p9 := 50) rfl rfl (by decide) ?_
      refine wn_and1 (p9 := 51) rfl rfl ?_
      refine wz_iconst (x := nI 1) (p9 := 52) rfl rfl (by decide) ?_
      refine wn_icne (t9 := 59) (p9 := 55) rfl rfl rfl (by omega) (by omega) (fun h52 => ?_) (fun h52 => ?_)
      · refine wz_iconst (x := nI 0) (p9 := 60) rfl rfl (by decide) ?_
        refine wn_add (p9 := 61) rfl rfl ?_
        refine wz_istore_n (l9 := [.ref 26, .int (nI g), .int (-1), .int (nI ((hc x g p) + 0)), .int (nI p), .int (nI p)]) (p9 := 62) rfl rfl rfl rfl ?_
        refine wn_inc (b := 1) (l9 := [.ref 26, .int (nI g), .int (-1), .int (nI ((hc x g p) + 0)), .int (nI (p + 1)), .int (nI p)]) (p9 := 65) rfl rfl rfl (by decide) rfl ?_
        refine wz_goto (p9 := 5) rfl rfl ?_
        rw [show hc x g p + 0 = hc x g (p + 1) from (hc_0 (fun hh => h52 hh.1)).symm]
        exact l_mHomeN h7 hg hs kk j (p + 1) (by omega) _
      · refine wz_iconst (x := nI 1) (p9 := 56) rfl rfl (by decide) ?_
        refine wz_goto (p9 := 60) rfl rfl ?_
        refine wn_add (p9 := 61) rfl rfl ?_
        refine wz_istore_n (l9 := [.ref 26, .int (nI g), .int (-1), .int (nI ((hc x g p) + 1)), .int (nI p), .int (nI p)]) (p9 := 62) rfl rfl rfl rfl ?_
        refine wn_inc (b := 1) (l9 := [.ref 26, .int (nI g), .int (-1), .int (nI ((hc x g p) + 1)), .int (nI (p + 1)), .int (nI p)]) (p9 := 65) rfl rfl rfl (by decide) rfl ?_
        refine wz_goto (p9 := 5) rfl rfl ?_
        rw [show hc x g p + 1 = hc x g (p + 1) from (hc_1 ⟨h52, (h42.trans hs9).symm⟩).symm]
        exact l_mHomeN h7 hg hs kk j (p + 1) (by omega) _
theorem g_mHomeN {X : Nat × (Nat → Int32)} {d : Nat} {A : CA} {R : RA} {o : Nat → Int64} (h7 : R.P ≤ 7) {g x : Nat} (hg : g < 128) (hs : SD R.P R.s x) : px_ev X (d + 1) 135 [.ref 26, .int (nI g), .int (-1)] (WW A R o) (some (some (.int (nI (hc x g R.P)))), WW A R o, 0, 0) := by
  refine wp_ev (d := d + 0) (by decide) rfl rfl (fun h => by cases h) ?_
  show wp X (d + 0) 135 (0, [.ref 26, .int (nI g), .int (-1), .retAddr 0, .retAddr 0, .retAddr 0], [], WW A R o, 0, 0) _
  refine wz_iconst (x := nI 0) (p9 := 1) rfl rfl (by decide) ?_
  refine wz_istore_n (l9 := [.ref 26, .int (nI g), .int (-1), .int (nI 0), .retAddr 0, .retAddr 0]) (p9 := 2) rfl rfl rfl rfl ?_
  refine wz_iconst (x := nI 0) (p9 := 3) rfl rfl (by decide) ?_
  refine wz_istore (l9 := [.ref 26, .int (nI g), .int (-1), .int (nI 0), .int (nI 0), .retAddr 0]) (p9 := 5) rfl rfl rfl rfl ?_
  exact l_mHomeN h7 hg hs (by exact rfl) R.P 0 (by omega) _
theorem l_mHomeW {X : Nat × (Nat → Int32)} {d : Nat} {A : CA} {R : RA} {o : Nat → Int64} {od : Nat → Nat} (T : TV R.P R.Mv R.t od) (V : WV R.wc R.ln R.rr (fun _ => 0)) {w : Nat} (hw : w < 30) (h7 : R.P ≤ 7) {g x : Nat} (hg : g < 128) (hs : SD R.P R.s x) {k z : Nat} {Q : px_Z → Prop} (kk : Q (some (some (.int (nI (hb (im R.t (fun k => R.rr (w * 40 + k)) (R.ln w)) x g R.P)))), WW A R o, k, z)) : ∀ (j p : Nat), p + j = R.P → ∀ v5, wp X (d + 2) 135 (5, [.ref 26, .int (nI g), .int (nI w), .int (nI (hb (im R.t (fun k => R.rr (w * 40 + k)) (R.ln w)) x g p)), .int (nI p), v5], [], WW A R o, k, z) Q
  | 0, p, hj => by
    intro v5
    obtain rfl : p = R.P := by omega
    refine wz_iload (p9 := 7) rfl rfl rfl ?_
    refine wz_aload_n (p9 := 8) rfl rfl rfl ?_
    refine wz_get (v := .int (nI R.P)) (p9 := 11) rfl rfl rfl rfl rfl ?_
    refine wn_icge (t9 := 68) (p9 := 14) rfl rfl rfl (by omega) (by omega) (fun _ => ?_) (fun h9 => by omega)
    refine wz_iload_n (p9 := 69) rfl rfl rfl ?_
    exact wz_reti rfl rfl kk
  | j + 1, p, hj => by
    intro v5
    have hs9 := hs p (by omega)
    have hs8 := hs.lt p (by omega)
    refine wz_iload (p9 := 7) rfl rfl rfl ?_
    refine wz_aload_n (p9 := 8) rfl rfl rfl ?_
    refine wz_get (v := .int (nI R.P)) (p9 := 11) rfl rfl rfl rfl rfl ?_
    refine wn_icge (t9 := 68) (p9 := 14) rfl rfl rfl (by omega) (by omega) (fun h9 => by omega) (fun _ => ?_)
    refine wz_iload_n (p9 := 15) rfl rfl rfl ?_
    refine wn_ifge (t9 := 23) (p9 := 18) rfl rfl rfl (by omega) (fun _ => ?_) (fun h9 => by omega)
    refine wz_aload_n (p9 := 24) rfl rfl rfl ?_
    refine wz_iload_n (p9 := 25) rfl rfl rfl ?_
    refine wz_iload (p9 := 27) rfl rfl rfl ?_
    refine wz_c1 (p9 := 30) (w1 := WW A R o) (u := .int (nI ((im R.t (fun k => R.rr (w * 40 + k)) (R.ln w)) p))) (wa_v (N := 120) (i := 26) (As := [.int (nI w), .int (nI p)]) (rest := []) rfl rfl rfl rfl rfl rfl rfl) rfl ((g_imageOf (d := 0) T (by omega) (show p < R.P by omega) (V.rl _) (fun k _ => V.rr _)).up (by omega)) ?_
    have hF9 := im_lt (P := R.P) (t := R.t) (R := fun k => R.rr (w * 40 + k)) (L := R.ln w) (fun k _ q hq => T.ht _ q hq) (R.ln w) (Nat.le_refl _) p (by omega)
    refine wz_istore (l9 := [.ref 26, .int (nI g), .int (nI w), .int (nI (hb (im R.t (fun k => R.rr (w * 40 + k)) (R.ln w)) x g p)), .int (nI p), .int (nI ((im R.t (fun k => R.rr (w * 40 + k)) (R.ln w)) p))]) (p9 := 32) rfl rfl rfl rfl ?_
    refine wz_iload_n (p9 := 33) rfl rfl rfl ?_
    refine wz_iload (p9 := 35) rfl rfl rfl ?_
    refine wz_aload_n (p9 := 36) rfl rfl rfl ?_
    refine wz_get (v := .ref 40) (p9 := 39) rfl rfl rfl rfl rfl ?_
    refine wz_iload (p9 := 41) rfl rfl rfl ?_
    refine wl_Rs (f := R.s) (p9 := 42) rfl rfl rfl (by omega) ?_
    refine wn_icne (t9 := 59) (p9 := 45) rfl rfl rfl (by omega) (by omega) (fun h42 => ?_) (fun h42 => ?_)
    · refine wz_iconst (x := nI 0) (p9 := 60) rfl rfl (by decide) ?_
      refine wn_add (p9 := 61) rfl rfl ?_
      refine wz_istore_n (l9 := [.ref 26, .int (nI g), .int (nI w), .int (nI ((hb (im R.t (fun k => R.rr (w * 40 + k)) (R.ln w)) x g p) + 0)), .int (nI p), .int (nI ((im R.t (fun k => R.rr (w * 40 + k)) (R.ln w)) p))]) (p9 := 62) rfl rfl rfl rfl ?_
      refine wn_inc (b := 1) (l9 := [.ref 26, .int (nI g), .int (nI w), .int (nI ((hb (im R.t (fun k => R.rr (w * 40 + k)) (R.ln w)) x g p) + 0)), .int (nI (p + 1)), .int (nI ((im R.t (fun k => R.rr (w * 40 + k)) (R.ln w)) p))]) (p9 := 65) rfl rfl rfl (by decide) rfl ?_
      refine wz_goto (p9 := 5) rfl rfl ?_
      rw [show hb (im R.t (fun k => R.rr (w * 40 + k)) (R.ln w)) x g p + 0 = hb (im R.t (fun k => R.rr (w * 40 + k)) (R.ln w)) x g (p + 1) from (hb_0 (fun hh => absurd (hh.2.trans hs9.symm) h42)).symm]
      exact l_mHomeW T V hw h7 hg hs kk j (p + 1) (by omega) _
    · refine wz_iload_n (p9 := 46) rfl rfl rfl ?_
      refine wz_iload (p9 := 48) rfl rfl rfl ?_
      refine wn_shr (p9 := 49) rfl rfl (by omega) (by omega) ?_
      refine wz_iconst (x := nI 1) (p9 := 50) rfl rfl (by decide) ?_
      refine wn_and1 (p9 := 51) rfl rfl ?_
      refine wz_iconst (x := nI 1) (p9 := 52) rfl rfl (by decide) ?_
      refine wn_icne (t9 := 59) (p9 := 55) rfl rfl rfl (by omega) (by omega) (fun h52 => ?_) (fun h52 => ?_)
      · refine wz_iconst (x := nI 0) (p9 := 60) rfl rfl (by decide) ?_
        refine wn_add (p9 := 61) rfl rfl ?_
        refine wz_istore_n (l9 := [.ref 26, .int (nI g), .int (nI w), .int (nI ((hb (im R.t (fun k => R.rr (w * 40 + k)) (R.ln w)) x g p) + 0)), .int (nI p), .int (nI ((im R.t (fun k => R.rr (w * 40 + k)) (R.ln w)) p))]) (p9 := 62) rfl rfl rfl rfl ?_
        refine wn_inc (b := 1) (l9 := [.ref 26, .int (nI g), .int (nI w), .int (nI ((hb (im R.t (fun k => R.rr (w * 40 + k)) (R.ln w)) x g p) + 0)), .int (nI (p + 1)), .int (nI ((im R.t (fun k => R.rr (w * 40 + k)) (R.ln w)) p))]) (p9 := 65) rfl rfl rfl (by decide) rfl ?_
        refine wz_goto (p9 := 5) rfl rfl ?_
        rw [show hb (im R.t (fun k => R.rr (w * 40 + k)) (R.ln w)) x g p + 0 = hb (im R.t (fun k => R.rr (w * 40 + k)) (R.ln w)) x g (p + 1) from (hb_0 (fun hh => h52 (by rw [h42, hs9]; exact hh.1))).symm]
        exact l_mHomeW T V hw h7 hg hs kk j (p + 1) (by omega) _
      · refine wz_iconst (x := nI 1) (p9 := 56) rfl rfl (by decide) ?_
        refine wz_goto (p9 := 60) rfl rfl ?_
        refine wn_add (p9 := 61) rfl rfl ?_
        refine wz_istore_n (l9 := [.ref 26, .int (nI g), .int (nI w), .int (nI ((hb (im R.t (fun k => R.rr (w * 40 + k)) (R.ln w)) x g p) + 1)), .int (nI p), .int (nI ((im R.t (fun k => R.rr (w * 40 + k)) (R.ln w)) p))]) (p9 := 62) rfl rfl rfl rfl ?_
        refine wn_inc (b := 1) (l9 := [.ref 26, .int (nI g), .int (nI w), .int (nI ((hb (im R.t (fun k => R.rr (w * 40 + k)) (R.ln w)) x g p) + 1)), .int (nI (p + 1)), .int (nI ((im R.t (fun k => R.rr (w * 40 + k)) (R.ln w)) p))]) (p9 := 65) rfl rfl rfl (by decide) rfl ?_
        refine wz_goto (p9 := 5) rfl rfl ?_
        rw [show hb (im R.t (fun k => R.rr (w * 40 + k)) (R.ln w)) x g p + 1 = hb (im R.t (fun k => R.rr (w * 40 + k)) (R.ln w)) x g (p + 1) from (hb_1 ⟨(by rw [← hs9, ← h42]; exact h52), h42.trans hs9⟩).symm]
        exact l_mHomeW T V hw h7 hg hs kk j (p + 1) (by omega) _
theorem g_mHomeW {X : Nat × (Nat → Int32)} {d : Nat} {A : CA} {R : RA} {o : Nat → Int64} {od : Nat → Nat} (T : TV R.P R.Mv R.t od) (V : WV R.wc R.ln R.rr (fun _ => 0)) {w : Nat} (hw : w < 30) (h7 : R.P ≤ 7) {g x : Nat} (hg : g < 128) (hs : SD R.P R.s x) : px_ev X (d + 3) 135 [.ref 26, .int (nI g), .int (nI w)] (WW A R o) (some (some (.int (nI (hb (im R.t (fun k => R.rr (w * 40 + k)) (R.ln w)) x g R.P)))), WW A R o, 0, 0) := by
  refine wp_ev (d := d + 2) (by decide) rfl rfl (fun h => by cases h) ?_
  show wp X (d + 2) 135 (0, [.ref 26, .int (nI g), .int (nI w), .retAddr 0, .retAddr 0, .retAddr 0], [], WW A R o, 0, 0) _
  refine wz_iconst (x := nI 0) (p9 := 1) rfl rfl (by decide) ?_
  refine wz_istore_n (l9 := [.ref 26, .int (nI g), .int (nI w), .int (nI 0), .retAddr 0, .retAddr 0]) (p9 := 2) rfl rfl rfl rfl ?_
  refine wz_iconst (x := nI 0) (p9 := 3) rfl rfl (by decide) ?_
  refine wz_istore (l9 := [.ref 26, .int (nI g), .int (nI w), .int (nI 0), .int (nI 0), .retAddr 0]) (p9 := 5) rfl rfl rfl rfl ?_
  exact l_mHomeW T V hw h7 hg hs (by exact rfl) R.P 0 (by omega) _
theorem l_mFind {X : Nat × (Nat → Int32)} {d : Nat} {A : CA} {R : RA} {o : Nat → Int64} (H : RG A R) {s x : Nat} (hs : s < A.sc) (hx : SD R.P R.s x) {h c2 : Nat} (hh : h < 100) {k z : Nat} {Q : px_Z → Prop} : ∀ (j i : Nat), i + j = A.su s → (fb (fun k => A.us (s * 12 + k)) (fun w => hb (fun q => A.wg (w * 7 + q)) x (A.sg s) A.P) h j i = none → wp X (d + 3) 133 (79, [.ref 26, .int (nI s), .int (nI c2), .int (nI h), .int (nI (A.su s))], [], WW A R o, k, z) Q) → (∀ q, i ≤ q → q < A.su s → fb (fun k => A.us (s * 12 + k)) (fun w => hb (fun q => A.wg (w * 7 + q)) x (A.sg s) A.P) h j i = some (A.us (s * 12 + q)) → wp X (d + 3) 133 (79, [.ref 26, .int (nI s), .int (nI c2), .int (nI h), .int (nI q)], [], WW A R o, k, z) Q) → wp X (d + 3) 133 (36, [.ref 26, .int (nI s), .int (nI c2), .int (nI h), .int (nI i)], [], WW A R o, k, z) Q
  | 0, i, hj, kN, kS => by
    have hsc := H.S.sc
    have hu12 := H.S.su s
    have e6 : R.us s = A.su s := by rw [H.us]
    obtain rfl : i = A.su s := by omega
    rw [← e6]
    rw [← e6] at kN
    refine wz_iload (p9 := 38) rfl rfl rfl ?_
    refine wz_aload_n (p9 := 39) rfl rfl rfl ?_
    refine wz_get (v := .ref 37) (p9 := 42) rfl rfl rfl rfl rfl ?_
    refine wz_iload_n (p9 := 43) rfl rfl rfl ?_
    refine wl_Rus (f := R.us) (p9 := 44) rfl rfl rfl (by omega) ?_
    refine wn_icge (t9 := 79) (p9 := 47) rfl rfl rfl (by omega) (by omega) (fun _ => ?_) (fun h9 => by omega)
    exact kN rfl
  | j + 1, i, hj, kN, kS => by
    have hsc := H.S.sc
    have hu12 := H.S.su s
    have hwc := H.V.wc
    have p7 := H.T.p7
    have e6 : R.us s = A.su s := by rw [H.us]
    have e5 : R.go s = A.sg s := by rw [H.go]
    have hg7 := H.S.sg s
    have hP7 : R.P ≤ 7 := by rw [H.p]; exact p7
    have e8 : A.us (s * 12 + i) = R.ud (12 * s + i) := by rw [H.ud, Nat.mul_comm]
    have hw9 := H.uw s hs i (by omega)
    have hw30 : R.ud (12 * s + i) < 30 := by omega
    have hb8 := hb_le (f := im R.t (fun k => R.rr (R.ud ((12 * s) + i) * 40 + k)) (R.ln (R.ud ((12 * s) + i)))) (a := x) (g := R.go s) R.P
    have e9 : hb (im R.t (fun k => R.rr (R.ud ((12 * s) + i) * 40 + k)) (R.ln (R.ud ((12 * s) + i)))) x (R.go s) R.P = (fun w => hb (fun q => A.wg (w * 7 + q)) x (A.sg s) A.P) ((fun k => A.us (s * 12 + k)) i) := by
      show _ = hb (fun q => A.wg (A.us (s * 12 + i) * 7 + q)) x (A.sg s) A.P
      rw [H.imE, H.p, e5, e8]
      refine hb_congr A.P (fun q hq => ?_)
      rw [← e8]
      exact (H.wi _ hw9 q hq).symm
    refine wz_iload (p9 := 38) rfl rfl rfl ?_
    refine wz_aload_n (p9 := 39) rfl rfl rfl ?_
    refine wz_get (v := .ref 37) (p9 := 42) rfl rfl rfl rfl rfl ?_
    refine wz_iload_n (p9 := 43) rfl rfl rfl ?_
    refine wl_Rus (f := R.us) (p9 := 44) rfl rfl rfl (by omega) ?_
    refine wn_icge (t9 := 79) (p9 := 47) rfl rfl rfl (by omega) (by omega) (fun h9 => by omega) (fun _ => ?_)
    refine wz_aload_n (p9 := 48) rfl rfl rfl ?_
    refine wz_aload_n (p9 := 49) rfl rfl rfl ?_
    refine wz_get (v := .ref 36) (p9 := 52) rfl rfl rfl rfl rfl ?_
    refine wz_iload_n (p9 := 53) rfl rfl rfl ?_
    refine wl_Rgo (f := R.go) (p9 := 54) rfl rfl rfl (by omega) ?_
    refine wz_aload_n (p9 := 55) rfl rfl rfl ?_
    refine wz_get (v := .ref 38) (p9 := 58) rfl rfl rfl rfl rfl ?_
    refine wz_bipush (x := nI 12) (p9 := 60) rfl rfl (by decide) ?_
    refine wz_iload_n (p9 := 61) rfl rfl rfl ?_
    refine wn_mul (p9 := 62) rfl rfl ?_
    refine wz_iload (p9 := 64) rfl rfl rfl ?_
    refine wn_add (p9 := 65) rfl rfl ?_
    refine wl_Rud (f := R.ud) (p9 := 66) rfl rfl rfl (by omega) ?_
    refine wz_c1 (p9 := 69) (w1 := WW A R o) (u := .int (nI (hb (im R.t (fun k => R.rr (R.ud ((12 * s) + i) * 40 + k)) (R.ln (R.ud ((12 * s) + i)))) x (R.go s) R.P))) (wa_v (N := 135) (i := 26) (As := [.int (nI (R.go s)), .int (nI (R.ud ((12 * s) + i)))]) (rest := []) rfl rfl rfl rfl rfl rfl rfl) rfl ((g_mHomeW (d := 0) H.TR H.VR (w := R.ud ((12 * s) + i)) (by omega) (by omega) (g := R.go s) (by omega) hx).up (by omega)) ?_
    refine wz_iload_n (p9 := 70) rfl rfl rfl ?_
    refine wn_icgt (t9 := 79) (p9 := 73) rfl rfl rfl (by omega) (by omega) (fun h70 => ?_) (fun h70 => ?_)
    · refine kS i (Nat.le_refl _) (by omega) ?_
      show (if h < (fun w => hb (fun q => A.wg (w * 7 + q)) x (A.sg s) A.P) ((fun k => A.us (s * 12 + k)) i) then some ((fun k => A.us (s * 12 + k)) i) else fb (fun k => A.us (s * 12 + k)) (fun w => hb (fun q => A.wg (w * 7 + q)) x (A.sg s) A.P) h j (i + 1)) = some _
      exact if_pos (by rw [← e9]; exact h70)
    · have h71 := h70
      have e7 : fb (fun k => A.us (s * 12 + k)) (fun w => hb (fun q => A.wg (w * 7 + q)) x (A.sg s) A.P) h (j + 1) i = fb (fun k => A.us (s * 12 + k)) (fun w => hb (fun q => A.wg (w * 7 + q)) x (A.sg s) A.P) h j (i + 1) := if_neg (by show ¬ h < (fun w => hb (fun q => A.wg (w * 7 + q)) x (A.sg s) A.P) ((fun k => A.us (s * 12 + k)) i); rw [← e9]; omega)
      refine wn_inc (b := 1) (l9 := [.ref 26, .int (nI s), .int (nI c2), .int (nI h), .int (nI (i + 1))]) (p9 := 76) rfl rfl rfl (by decide) rfl ?_
      refine wz_goto (p9 := 36) rfl rfl ?_
      exact l_mFind H hs hx hh j (i + 1) (by omega) (fun e => kN (e7.trans e)) (fun q hq1 hq2 e => kS q (by omega) hq2 (e7.trans e))
theorem fb_gt {us F : Nat → Nat} {h w : Nat} : ∀ {j i : Nat}, fb us F h j i = some w → h < F w
  | 0, i, e => by cases e
  | j + 1, i, e => by
    unfold fb at e
    split at e
    · rename_i hh; cases e; exact hh
    · exact fb_gt e
theorem fb_up {us F : Nat → Nat} {h w w2 j i : Nat} (e : fb us F h j i = some w) (e2 : w = w2) : h < F w2 := by rw [← e2]; exact fb_gt e
theorem l_mGo {X : Nat × (Nat → Int32)} {d : Nat} {A : CA} {R : RA} {o : Nat → Int64} (H : RG A R) {s : Nat} (hs : s < A.sc) {k z : Nat} {Q : px_Z → Prop} : ∀ (j c x : Nat) (s2 ot2 di2 : Nat → Nat), c + j ≤ 7 → pm A.P x → SD R.P s2 x → gc (A.sg s) A.P ≤ hc x (A.sg s) A.P + j → ∀ v4, (∀ s1 ot1 di1, SD R.P s1 (gs A.P A.wg A.us (A.sg s) (A.su s) s j x).2.1 → (∀ q, q < c → di1 q = di2 q) → (∀ q v, (gs A.P A.wg A.us (A.sg s) (A.su s) s j x).2.2[q]? = some v → di1 (c + q) = v) → Q (some (some (.int (nI (if (gs A.P A.wg A.us (A.sg s) (A.su s) s j x).1 then 1 else 0)))), WW A (RA.s_di (RA.s_dd (RA.s_ot (RA.s_s R s1) ot1) (c + (gs A.P A.wg A.us (A.sg s) (A.su s) s j x).2.2.length)) di1) o, k, z)) → wp X (d + 3) 133 (28, [.ref 26, .int (nI s), .int (nI (gc (A.sg s) A.P)), .int (nI (hc x (A.sg s) A.P)), v4], [], WW A (RA.s_di (RA.s_dd (RA.s_ot (RA.s_s R s2) ot2) c) di2) o, k, z) Q
  | 0, c, x, s2, ot2, di2, hc9, hpm, hx, hg => by
    intro v4 kk
    have p7 := H.T.p7
    have hb1 := gc_le (g := A.sg s) A.P
    have hb2 := hc_le (a := x) (g := A.sg s) A.P
    refine wz_iload_n (p9 := 29) rfl rfl rfl ?_
    refine wz_iload_n (p9 := 30) rfl rfl rfl ?_
    refine wn_icge (t9 := 154) (p9 := 33) rfl rfl rfl (by omega) (by omega) (fun _ => ?_) (fun h9 => by omega)
    refine wz_iconst (x := nI 1) (p9 := 155) rfl rfl (by decide) ?_
    have h9 := kk s2 ot2 di2 hx (fun q _ => rfl) (fun q v e => by cases e)
    exact wz_retz rfl rfl (by decide) h9
  | j + 1, c, x, s2, ot2, di2, hc9, hpm, hx, hg => by
    intro v4 kk
    have p7 := H.T.p7
    have hsc := H.S.sc
    have hb1 := gc_le (g := A.sg s) A.P
    have hb2 := hc_le (a := x) (g := A.sg s) A.P
    by_cases hm : hc x (A.sg s) A.P < gc (A.sg s) A.P
    · have hmt : ¬ mt x (A.sg s) := fun q => (mt_gc (H.sP s) p7).mp q hm
      have hu12 := H.S.su s
      have e6 : R.us s = A.su s := by rw [H.us]
      have e5 : R.go s = A.sg s := by rw [H.go]
      have hg7 := H.S.sg s
      have hwc := H.V.wc
      have hP7 : R.P ≤ 7 := by rw [H.p]; exact p7
      refine wz_iload_n (p9 := 29) rfl rfl rfl ?_
      refine wz_iload_n (p9 := 30) rfl rfl rfl ?_
      refine wn_icge (t9 := 154) (p9 := 33) rfl rfl rfl (by omega) (by omega) (fun h9 => by omega) (fun _ => ?_)
      refine wz_iconst (x := nI 0) (p9 := 34) rfl rfl (by decide) ?_
      refine wz_istore (l9 := [.ref 26, .int (nI s), .int (nI (gc (A.sg s) A.P)), .int (nI (hc x (A.sg s) A.P)), .int (nI 0)]) (p9 := 36) rfl rfl rfl rfl ?_
      refine l_mFind (R := (RA.s_di (RA.s_dd (RA.s_ot (RA.s_s R s2) ot2) c) di2)) H hs hx (by omega) (A.su s) 0 (by omega) (fun e => ?_) (fun q0 _ hq0 e => ?_)
      · skip
        refine wz_iload (p9 := 81) rfl rfl rfl ?_
        refine wz_aload_n (p9 := 82) rfl rfl rfl ?_
        refine wz_get (v := .ref 37) (p9 := 85) rfl rfl rfl rfl rfl ?_
        refine wz_iload_n (p9 := 86) rfl rfl rfl ?_
        refine wl_Rus (f := R.us) (p9 := 87) rfl rfl rfl (by omega) ?_
        refine wn_icne (t9 := 92) (p9 := 90) rfl rfl rfl (by omega) (by omega) (fun h9 => absurd e6.symm h9) (fun _ => ?_)
        refine wz_iconst (x := nI 0) (p9 := 91) rfl rfl (by decide) ?_
        rw [gs_no hmt (by unfold nw; rw [hc_7 (H.sP s) p7]; exact e)] at kk
        have h9 := kk s2 ot2 di2 hx (fun q _ => rfl) (fun q v e => by cases e)
        exact wz_retz rfl rfl (by decide) h9
      · have e8 : A.us (s * 12 + q0) = R.ud (12 * s + q0) := by rw [H.ud, Nat.mul_comm]
        have hw9 := H.uw s hs q0 hq0
        have hw30 : R.ud (12 * s + q0) < 30 := by omega
        have hnw : nw A.P A.wg A.us (A.sg s) (A.su s) s x = some (A.us (s * 12 + q0)) := by unfold nw; rw [hc_7 (H.sP s) p7]; exact e
        rw [gs_go hmt hnw] at kk
        rw [e8] at kk hw9 hnw
        have hpf := H.wpf hw9
        have hS3 : SD R.P (cz (sct (im R.t (fun k => R.rr (R.ud ((12 * s) + q0) * 40 + k)) (R.ln (R.ud ((12 * s) + q0)))) s2 ot2 R.P) s2 R.P) (tr (fun q => A.wg (R.ud ((12 * s) + q0) * 7 + q)) x A.P) := by
          rw [H.trw hw9, H.imE, H.p]
          exact SD_done (im_pf H.T (fun k => H.V.rr _) _) (by rw [← H.p]; exact hx)
        have hup : hc x (A.sg s) A.P < hc (tr (fun q => A.wg (R.ud ((12 * s) + q0) * 7 + q)) x A.P) (A.sg s) A.P := by
          rw [hc_tr hpf]
          exact fb_up (F := fun w => hb (fun q => A.wg (w * 7 + q)) x (A.sg s) A.P) e e8
        refine wz_iload (p9 := 81) rfl rfl rfl ?_
        refine wz_aload_n (p9 := 82) rfl rfl rfl ?_
        refine wz_get (v := .ref 37) (p9 := 85) rfl rfl rfl rfl rfl ?_
        refine wz_iload_n (p9 := 86) rfl rfl rfl ?_
        refine wl_Rus (f := R.us) (p9 := 87) rfl rfl rfl (by omega) ?_
        refine wn_icne (t9 := 92) (p9 := 90) rfl rfl rfl (by omega) (by omega) (fun _ => ?_) (fun h9 => by omega)
        refine wz_aload_n (p9 := 93) rfl rfl rfl ?_
        refine wz_get (v := .ref 39) (p9 := 96) rfl rfl rfl rfl rfl ?_
        refine wz_aload_n (p9 := 97) rfl rfl rfl ?_
        refine wz_get (v := .int (nI c)) (p9 := 100) rfl rfl rfl rfl rfl ?_
        refine wz_aload_n (p9 := 101) rfl rfl rfl ?_
        refine wz_get (v := .ref 38) (p9 := 104) rfl rfl rfl rfl rfl ?_
        refine wz_bipush (x := nI 12) (p9 := 106) rfl rfl (by decide) ?_
        refine wz_iload_n (p9 := 107) rfl rfl rfl ?_
        refine wn_mul (p9 := 108) rfl rfl ?_
        refine wz_iload (p9 := 110) rfl rfl rfl ?_
        refine wn_add (p9 := 111) rfl rfl ?_
        refine wl_Rud (f := R.ud) (p9 := 112) rfl rfl rfl (by omega) ?_
        refine ws_Rdi (f := di2) (p9 := 113) rfl rfl rfl (by omega) (R1 := (RA.s_di (RA.s_dd (RA.s_ot (RA.s_s R s2) ot2) c) (un di2 c (R.ud ((12 * s) + q0))))) rfl ?_
        refine wz_aload_n (p9 := 114) rfl rfl rfl ?_
        refine wz_dupr (p9 := 115) rfl rfl ?_
        refine wz_get (v := .int (nI c)) (p9 := 118) rfl rfl rfl rfl rfl ?_
        refine wz_iconst (x := nI 1) (p9 := 119) rfl rfl (by decide) ?_
        refine wn_add (p9 := 120) rfl rfl ?_
        refine wp_Rdd (x := (c + 1)) (p9 := 123) rfl rfl rfl rfl (R1 := (RA.s_di (RA.s_dd (RA.s_ot (RA.s_s R s2) ot2) (c + 1)) (un di2 c (R.ud ((12 * s) + q0))))) rfl ?_
        refine wz_aload_n (p9 := 124) rfl rfl rfl ?_
        refine wz_aload_n (p9 := 125) rfl rfl rfl ?_
        refine wz_get (v := .ref 38) (p9 := 128) rfl rfl rfl rfl rfl ?_
        refine wz_bipush (x := nI 12) (p9 := 130) rfl rfl (by decide) ?_
        refine wz_iload_n (p9 := 131) rfl rfl rfl ?_
        refine wn_mul (p9 := 132) rfl rfl ?_
        refine wz_iload (p9 := 134) rfl rfl rfl ?_
        refine wn_add (p9 := 135) rfl rfl ?_
        refine wl_Rud (f := R.ud) (p9 := 136) rfl rfl rfl (by omega) ?_
        refine wz_c0 (p9 := 139) (w1 := WW A (RA.s_di (RA.s_dd (RA.s_ot (RA.s_s R (cz (sct (im R.t (fun k => R.rr ((R.ud ((12 * s) + q0)) * 40 + k)) (R.ln (R.ud ((12 * s) + q0)))) s2 ot2 R.P) s2 R.P)) (sct (im R.t (fun k => R.rr ((R.ud ((12 * s) + q0)) * 40 + k)) (R.ln (R.ud ((12 * s) + q0)))) s2 ot2 R.P)) (c + 1)) (un di2 c (R.ud ((12 * s) + q0)))) o) (wa_v (N := 124) (i := 26) (As := [.int (nI (R.ud ((12 * s) + q0)))]) (rest := []) rfl rfl rfl rfl rfl rfl rfl) rfl ((g_mDone (d := 0) (A := A) (R := (RA.s_di (RA.s_dd (RA.s_ot (RA.s_s R s2) ot2) (c + 1)) (un di2 c (R.ud ((12 * s) + q0))))) H.TR H.VR (by omega)).up (by omega)) ?_
        refine wz_aload_n (p9 := 140) rfl rfl rfl ?_
        refine wz_aload_n (p9 := 141) rfl rfl rfl ?_
        refine wz_get (v := .ref 36) (p9 := 144) rfl rfl rfl rfl rfl ?_
        refine wz_iload_n (p9 := 145) rfl rfl rfl ?_
        refine wl_Rgo (f := R.go) (p9 := 146) rfl rfl rfl (by omega) ?_
        refine wz_iconst (x := (-1)) (p9 := 147) rfl rfl (by decide) ?_
        refine wz_c1 (p9 := 150) (w1 := WW A (RA.s_di (RA.s_dd (RA.s_ot (RA.s_s R (cz (sct (im R.t (fun k => R.rr ((R.ud ((12 * s) + q0)) * 40 + k)) (R.ln (R.ud ((12 * s) + q0)))) s2 ot2 R.P) s2 R.P)) (sct (im R.t (fun k => R.rr ((R.ud ((12 * s) + q0)) * 40 + k)) (R.ln (R.ud ((12 * s) + q0)))) s2 ot2 R.P)) (c + 1)) (un di2 c (R.ud ((12 * s) + q0)))) o) (u := .int (nI (hc (tr (fun q => A.wg (R.ud ((12 * s) + q0) * 7 + q)) x A.P) (R.go s) R.P))) (wa_v (N := 135) (i := 26) (As := [.int (nI (R.go s)), .int (-1)]) (rest := []) rfl rfl rfl rfl rfl rfl rfl) rfl ((g_mHomeN (d := 0) (A := A) (R := (RA.s_di (RA.s_dd (RA.s_ot (RA.s_s R (cz (sct (im R.t (fun k => R.rr ((R.ud ((12 * s) + q0)) * 40 + k)) (R.ln (R.ud ((12 * s) + q0)))) s2 ot2 R.P) s2 R.P)) (sct (im R.t (fun k => R.rr ((R.ud ((12 * s) + q0)) * 40 + k)) (R.ln (R.ud ((12 * s) + q0)))) s2 ot2 R.P)) (c + 1)) (un di2 c (R.ud ((12 * s) + q0))))) hP7 (g := R.go s) (by omega) hS3).up (by omega)) ?_
        refine wz_istore_n (l9 := [.ref 26, .int (nI s), .int (nI (gc (A.sg s) A.P)), .int (nI (hc (tr (fun q => A.wg (R.ud ((12 * s) + q0) * 7 + q)) x A.P) (R.go s) R.P)), .int (nI q0)]) (p9 := 151) rfl rfl rfl rfl ?_
        refine wz_goto (p9 := 28) rfl rfl ?_
        rw [show hc (tr (fun q => A.wg (R.ud ((12 * s) + q0) * 7 + q)) x A.P) (R.go s) R.P = hc (tr (fun q => A.wg (R.ud ((12 * s) + q0) * 7 + q)) x A.P) (A.sg s) A.P by rw [e5, H.p]]
        refine l_mGo H hs j (c + 1) _ _ _ _ (by omega) (pm_tr hpf hpm) hS3 (by omega) _ (fun s1 ot1 di1 h1 h2 h3 => ?_)
        have h9 := kk s1 ot1 di1 h1 (fun q hq => by rw [h2 q (by omega), un_ne (by omega)]) (fun q v e => ?_)
        · rw [show c + 1 + (gs A.P A.wg A.us (A.sg s) (A.su s) s j (tr (fun q => A.wg (R.ud ((12 * s) + q0) * 7 + q)) x A.P)).2.2.length = c + ((gs A.P A.wg A.us (A.sg s) (A.su s) s j (tr (fun q => A.wg (R.ud ((12 * s) + q0) * 7 + q)) x A.P)).2.2.length + 1) by omega]
          exact h9
        · cases q with
          | zero =>
            replace e : some (R.ud (12 * s + q0)) = some v := e
            rw [Nat.add_zero, h2 c (by omega), un_at]
            exact Option.some.inj e
          | succ q =>
            rw [show c + (q + 1) = c + 1 + q by omega]
            exact h3 q v e
    · have hmt : mt x (A.sg s) := (mt_gc (H.sP s) p7).mpr hm
      refine wz_iload_n (p9 := 29) rfl rfl rfl ?_
      refine wz_iload_n (p9 := 30) rfl rfl rfl ?_
      refine wn_icge (t9 := 154) (p9 := 33) rfl rfl rfl (by omega) (by omega) (fun _ => ?_) (fun h9 => by omega)
      refine wz_iconst (x := nI 1) (p9 := 155) rfl rfl (by decide) ?_
      rw [gs_met hmt] at kk
      have h9 := kk s2 ot2 di2 hx (fun q _ => rfl) (fun q v e => by cases e)
      exact wz_retz rfl rfl (by decide) h9
theorem g_mGo {X : Nat × (Nat → Int32)} {d : Nat} {A : CA} {R : RA} {o : Nat → Int64} (H : RG A R) {s x : Nat} (hs : s < A.sc) (hpm : pm A.P x) (hx : SD R.P R.s x) : ∃ s1 ot1 di1, SD R.P s1 (gs A.P A.wg A.us (A.sg s) (A.su s) s 7 x).2.1 ∧ (∀ q v, (gs A.P A.wg A.us (A.sg s) (A.su s) s 7 x).2.2[q]? = some v → di1 q = v) ∧ px_ev X (d + 4) 133 [.ref 26, .int (nI s)] (WW A R o) (some (some (.int (nI (if (gs A.P A.wg A.us (A.sg s) (A.su s) s 7 x).1 then 1 else 0)))), WW A (RA.s_di (RA.s_dd (RA.s_ot (RA.s_s R s1) ot1) ((gs A.P A.wg A.us (A.sg s) (A.su s) s 7 x).2.2.length)) di1) o, 0, 0) := by
  have p7 := H.T.p7
  have hsc := H.S.sc
  have hg7 := H.S.sg s
  have e5 : R.go s = A.sg s := by rw [H.go]
  have hP7 : R.P ≤ 7 := by rw [H.p]; exact p7
  have hb1 := gc_le (g := A.sg s) A.P
  have h0 : wp X (d + 3) 133 (0, [.ref 26, .int (nI s), .retAddr 0, .retAddr 0, .retAddr 0], [], WW A R o, 0, 0) (fun q => ∃ s1 ot1 di1, SD R.P s1 (gs A.P A.wg A.us (A.sg s) (A.su s) s 7 x).2.1 ∧ (∀ q v, (gs A.P A.wg A.us (A.sg s) (A.su s) s 7 x).2.2[q]? = some v → di1 q = v) ∧ q = (some (some (.int (nI (if (gs A.P A.wg A.us (A.sg s) (A.su s) s 7 x).1 then 1 else 0)))), WW A (RA.s_di (RA.s_dd (RA.s_ot (RA.s_s R s1) ot1) ((gs A.P A.wg A.us (A.sg s) (A.su s) s 7 x).2.2.length)) di1) o, 0, 0)) := by
    refine wz_aload_n (p9 := 1) rfl rfl rfl ?_
    refine wz_aload_n (p9 := 2) rfl rfl rfl ?_
    refine wz_get (v := .ref 36) (p9 := 5) rfl rfl rfl rfl rfl ?_
    refine wz_iload_n (p9 := 6) rfl rfl rfl ?_
    refine wl_Rgo (f := R.go) (p9 := 7) rfl rfl rfl (by omega) ?_
    refine wz_c1 (p9 := 10) (w1 := WW A R o) (u := .int (nI (gc (A.sg s) A.P))) (wa_v (N := 134) (i := 26) (As := [.int (nI (R.go s))]) (rest := []) rfl rfl rfl rfl rfl rfl rfl) rfl (by have h9 := (g_mCount (X := X) (d := 0) (A := A) (R := R) (o := o) hP7 (g := R.go s) (by omega)).up (show 0 + 1 ≤ d + 3 by omega); rw [show gc (R.go s) R.P = gc (A.sg s) A.P by rw [e5, H.p]] at h9; exact h9) ?_
    refine wz_istore_n (l9 := [.ref 26, .int (nI s), .int (nI (gc (A.sg s) A.P)), .retAddr 0, .retAddr 0]) (p9 := 11) rfl rfl rfl rfl ?_
    refine wz_aload_n (p9 := 12) rfl rfl rfl ?_
    refine wz_iconst (x := nI 0) (p9 := 13) rfl rfl (by decide) ?_
    refine wp_Rdd (x := 0) (p9 := 16) rfl rfl rfl rfl (R1 := (RA.s_dd R 0)) rfl ?_
    refine wz_aload_n (p9 := 17) rfl rfl rfl ?_
    refine wz_aload_n (p9 := 18) rfl rfl rfl ?_
    refine wz_get (v := .ref 36) (p9 := 21) rfl rfl rfl rfl rfl ?_
    refine wz_iload_n (p9 := 22) rfl rfl rfl ?_
    refine wl_Rgo (f := R.go) (p9 := 23) rfl rfl rfl (by omega) ?_
    refine wz_iconst (x := (-1)) (p9 := 24) rfl rfl (by decide) ?_
    refine wz_c1 (p9 := 27) (w1 := WW A (RA.s_dd R 0) o) (u := .int (nI (hc x (A.sg s) A.P))) (wa_v (N := 135) (i := 26) (As := [.int (nI (R.go s)), .int (-1)]) (rest := []) rfl rfl rfl rfl rfl rfl rfl) rfl (by have h9 := (g_mHomeN (X := X) (d := 0) (A := A) (R := (RA.s_dd R 0)) (o := o) hP7 (g := R.go s) (by omega) hx).up (show 0 + 1 ≤ d + 3 by omega); rw [show hc x (R.go s) (RA.P (RA.s_dd R 0)) = hc x (A.sg s) A.P by rw [e5]; exact congrArg _ H.p] at h9; exact h9) ?_
    refine wz_istore_n (l9 := [.ref 26, .int (nI s), .int (nI (gc (A.sg s) A.P)), .int (nI (hc x (A.sg s) A.P)), .retAddr 0]) (p9 := 28) rfl rfl rfl rfl ?_
    exact l_mGo H hs 7 0 x R.s R.ot R.di (by omega) hpm hx (by omega) _ (fun s1 ot1 di1 h1 _ h3 => ⟨s1, ot1, di1, h1, fun q v e => by have := h3 q v e; rw [Nat.zero_add] at this; exact this, by rw [Nat.zero_add]⟩)
  obtain ⟨r9, hr, s1, ot1, di1, h1, h3, rfl⟩ := h0
  exact ⟨s1, ot1, di1, h1, h3, wp_ev (d := d + 3) (by decide) rfl rfl (fun h => by cases h) ⟨_, hr, rfl⟩⟩
