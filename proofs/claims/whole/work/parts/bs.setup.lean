/-! CLASS AND REFERENCE SIDE BY SIDE: setUp (wip/whole/gen/mkbs.py) -/
theorem d3_dg {u p c v : Nat} (hp : p < 8) : ∀ n k, dg (d3 u p c n v) k = if k < n ∧ dg u k = c then dg v k ||| p else dg v k
  | 0, k => by
    show dg v k = _
    rw [if_neg (by omega)]
  | n + 1, k => by
    show dg (if dg u n = c then d3 u p c n v ||| p * 8 ^ n else d3 u p c n v) k = _
    by_cases h : dg u n = c
    · rw [if_pos h, dg_or, dg_pt hp, d3_dg hp n k]
      by_cases e : k = n
      · rw [if_pos e, if_neg (by omega), if_pos (by rw [e]; exact ⟨Nat.lt_succ_self _, h⟩)]
      · rw [if_neg e, Nat.or_zero]
        by_cases q : k < n ∧ dg u k = c
        · rw [if_pos q, if_pos ⟨by omega, q.2⟩]
        · rw [if_neg q, if_neg (fun q2 => q ⟨by omega, q2.2⟩)]
    · rw [if_neg h, d3_dg hp n k]
      by_cases q : k < n ∧ dg u k = c
      · rw [if_pos q, if_pos ⟨by omega, q.2⟩]
      · rw [if_neg q, if_neg (fun q2 => ?_)]
        by_cases e : k = n
        · rw [e] at q2; exact h q2.2
        · exact q ⟨by omega, q2.2⟩
theorem d3_512 {u p c v : Nat} (hp : p < 8) (hv : v < 512) : ∀ n, n ≤ 3 → d3 u p c n v < 512
  | 0, _ => hv
  | n + 1, hn => by
    have ih := d3_512 (u := u) (c := c) hp hv n (by omega)
    show (if dg u n = c then d3 u p c n v ||| p * 8 ^ n else d3 u p c n v) < 512
    split
    · refine Nat.or_lt_two_pow (n := 9) ih ?_
      have h1 : 8 ^ n ≤ 64 := by
        have := Nat.pow_le_pow_right (n := 8) (by decide) (show n ≤ 2 by omega)
        exact this
      have h2 : p * 8 ^ n ≤ 7 * 64 := Nat.mul_le_mul (by omega) h1
      show p * 8 ^ n < 512
      omega
    · exact ih
theorem pP_512 {u x P : Nat} (h7 : P ≤ 7) : ∀ p, p ≤ P → pP u x p < 512
  | 0, _ => by show 0 < 512; decide
  | p + 1, hp => d3_512 (by omega) (pP_512 h7 p (by omega)) 3 (by decide)
/-- the places of pieces -/
theorem pP_dg {u x P k q : Nat} (h7 : P ≤ 7) (hx : pm P x) (hk : k < 3) (hq : q < P) (e : dg x q = dg u k) : ∀ p, p ≤ P → dg (pP u x p) k = if q < p then q else 0
  | 0, _ => by
    show dg 0 k = _
    rw [dg_0, if_neg (by omega)]
  | p + 1, hp => by
    show dg (d3 u p (dg x p) 3 (pP u x p)) k = _
    rw [d3_dg (by omega), pP_dg h7 hx hk hq e p (by omega)]
    by_cases c : dg u k = dg x p
    · have : q = p := hx.2.2 q p hq (by omega) (e.trans c)
      rw [if_pos ⟨hk, c⟩, if_neg (by omega), if_pos (by omega), Nat.zero_or, this]
    · have : q ≠ p := fun e2 => c (by rw [← e2, e])
      rw [if_neg (fun h => c h.2)]
      by_cases c2 : q < p
      · rw [if_pos c2, if_pos (by omega)]
      · rw [if_neg c2, if_neg (by omega)]
theorem pP_at {u x P k : Nat} (h7 : P ≤ 7) (hx : pm P x) (hu : i3 P u) (hk : k < 3) : dg (pP u x P) k < P ∧ dg x (dg (pP u x P) k) = dg u k := by
  have hd : dg u k < P := by
    have : k = 0 ∨ k = 1 ∨ k = 2 := by omega
    rcases this with rfl | rfl | rfl
    · exact hu.2.2.2.1
    · exact hu.2.2.2.2.1
    · exact hu.2.2.2.2.2
  obtain ⟨q, hq, e⟩ := pf_surj P (dg x) (pm_pf hx) (dg u k) hd
  rw [pP_dg h7 hx hk hq e P (Nat.le_refl _), if_pos hq]
  exact ⟨hq, e⟩
theorem cpn_congr {f g r : Nat → Nat} {dp m : Nat} (h : ∀ k, k < m → f k = g k) : cpn f r dp m = cpn g r dp m := by
  funext k
  unfold cpn
  by_cases hk : dp ≤ k ∧ k < dp + m
  · rw [if_pos hk, if_pos hk]; exact h _ (by omega)
  · rw [if_neg hk, if_neg hk]
theorem nI_512 {x : Int32} (h1 : ¬ x < 0) (h2 : ¬ nI 512 ≤ x) : ∃ u, u < 512 ∧ x = nI u := by
  obtain ⟨u, hu, rfl⟩ := nI_of h1
  refine ⟨u, Nat.lt_of_not_le (fun c => h2 ?_), rfl⟩
  exact (nI_leI (a := 512) (by decide) hu).mpr c
/-- three pieces or places, or refused by both -/
theorem tri_or {X : Nat × (Nat → Int32)} {A : CA} {R : RA} {o : Nat → Int64} (H : RE A R) (x : Int32) : (px_ev X 2 65 [.ref 21, .int x] (WW A R o) (some (some (.int (nI 0))), WW A R o, 0, 0) ∧ px_ev X 2 145 [.ref 26, .int x] (WW A (RA.s_th R 0) o) (some (some (.int (nI 0))), WW A (RA.s_th R 0) o, 0, 0)) ∨ (∃ u, u < 512 ∧ x = nI u ∧ i3 A.P u) := by
  have p7 := H.T.p7
  have hP7 : R.P ≤ 7 := by rw [H.p]; exact p7
  by_cases h : ¬ x < 0 → nI 512 ≤ x
  · exact Or.inl ⟨(g_isTriN (d := 0) h).up (by decide), g_mThreeN (d := 0) (R := RA.s_th R 0) h⟩
  · have h1 : ¬ x < 0 := fun q => h (fun q2 => absurd q q2)
    have h2 : ¬ nI 512 ≤ x := fun q => h (fun _ => q)
    obtain ⟨u, hu, rfl⟩ := nI_512 h1 h2
    by_cases h3 : i3 A.P u
    · exact Or.inr ⟨u, hu, rfl, h3⟩
    · exact Or.inl ⟨g_isTri0 (d := 0) p7 hu h3, g_mThree0 (d := 0) (R := RA.s_th R 0) hP7 hu (by show ¬ i3 R.P u; rw [H.p]; exact h3)⟩
theorem j_setUp {X : Nat × (Nat → Int32)} {d : Nat} {A : CA} {R : RA} {o : Nat → Int64} (H : RE A R) {x y w : Int32} : JN X d 78 [.ref 0, .int x, .int y, .int w] 144 [.ref 26, .int x, .int y, .int w] A R o := by
  have p7 := H.T.p7
  have m6 := H.T.m6
  have hP7 : R.P ≤ 7 := by rw [H.p]; exact p7
  by_cases hw : w < 0
  · refine ⟨A, RA.s_th R 0, (-2), ?_, ?_, ⟨H.T, H.p, H.m, H.t, H.V, H.wi, H.wc, H.ln, H.rr, H.S, H.sP, H.uw, H.sc, H.go, H.us, H.ud, H.bc, H.tx, H.sz, H.te, H.kd, H.pl, H.fl, H.sl, H.se, H.fc, H.st, H.nw, H.dc, H.tl, H.dn⟩⟩
    · skip
      refine wp_ev (d := d + 9) (by decide) rfl rfl (fun h => by cases h) ?_
      show wp X (d + 9) 78 (0, [.ref 0, .int x, .int y, .int w, .retAddr 0, .retAddr 0], [], WW A R o, 0, 0) _
      refine wz_iload_n (p9 := 1) rfl rfl rfl ?_
      refine wz_iflt (t9 := 32) (p9 := 4) rfl rfl rfl (fun _ => ?_) (fun h9 => absurd hw h9)
      refine wz_bipush (x := (-2)) (p9 := 34) rfl rfl (by decide) ?_
      exact wz_reti rfl rfl rfl
    · skip
      refine wp_ev (d := d + 9) (by decide) rfl rfl (fun h => by cases h) ?_
      show wp X (d + 9) 144 (0, [.ref 26, .int x, .int y, .int w, .retAddr 0], [], WW A R o, 0, 0) _
      refine wz_aload_n (p9 := 1) rfl rfl rfl ?_
      refine wz_iconst (x := nI 0) (p9 := 2) rfl rfl (by decide) ?_
      refine wp_Rth (x := 0) (p9 := 5) rfl rfl rfl rfl (R1 := (RA.s_th R 0)) rfl ?_
      refine wz_iload_n (p9 := 6) rfl rfl rfl ?_
      refine wz_iflt (t9 := 31) (p9 := 9) rfl rfl rfl (fun _ => ?_) (fun h9 => absurd hw h9)
      refine wz_bipush (x := (-2)) (p9 := 33) rfl rfl (by decide) ?_
      exact wz_reti rfl rfl rfl
  obtain ⟨N, hN31, rfl⟩ := nI_of hw
  by_cases hN : 9 < N
  · refine ⟨A, RA.s_th R 0, (-2), ?_, ?_, ⟨H.T, H.p, H.m, H.t, H.V, H.wi, H.wc, H.ln, H.rr, H.S, H.sP, H.uw, H.sc, H.go, H.us, H.ud, H.bc, H.tx, H.sz, H.te, H.kd, H.pl, H.fl, H.sl, H.se, H.fc, H.st, H.nw, H.dc, H.tl, H.dn⟩⟩
    · skip
      refine wp_ev (d := d + 9) (by decide) rfl rfl (fun h => by cases h) ?_
      show wp X (d + 9) 78 (0, [.ref 0, .int x, .int y, .int (nI N), .retAddr 0, .retAddr 0], [], WW A R o, 0, 0) _
      refine wz_iload_n (p9 := 1) rfl rfl rfl ?_
      refine wn_iflt (t9 := 32) (p9 := 4) rfl rfl rfl (by omega) (fun h9 => by omega) (fun _ => ?_)
      refine wz_iload_n (p9 := 5) rfl rfl rfl ?_
      refine wz_bipush (x := nI 9) (p9 := 7) rfl rfl (by decide) ?_
      refine wn_icgt (t9 := 32) (p9 := 10) rfl rfl rfl (by omega) (by omega) (fun _ => ?_) (fun h9 => by omega)
      refine wz_bipush (x := (-2)) (p9 := 34) rfl rfl (by decide) ?_
      exact wz_reti rfl rfl rfl
    · skip
      refine wp_ev (d := d + 9) (by decide) rfl rfl (fun h => by cases h) ?_
      show wp X (d + 9) 144 (0, [.ref 26, .int x, .int y, .int (nI N), .retAddr 0], [], WW A R o, 0, 0) _
      refine wz_aload_n (p9 := 1) rfl rfl rfl ?_
      refine wz_iconst (x := nI 0) (p9 := 2) rfl rfl (by decide) ?_
      refine wp_Rth (x := 0) (p9 := 5) rfl rfl rfl rfl (R1 := (RA.s_th R 0)) rfl ?_
      refine wz_iload_n (p9 := 6) rfl rfl rfl ?_
      refine wn_iflt (t9 := 31) (p9 := 9) rfl rfl rfl (by omega) (fun h9 => by omega) (fun _ => ?_)
      refine wz_iload_n (p9 := 10) rfl rfl rfl ?_
      refine wz_bipush (x := nI 9) (p9 := 12) rfl rfl (by decide) ?_
      refine wn_icgt (t9 := 31) (p9 := 15) rfl rfl rfl (by omega) (by omega) (fun _ => ?_) (fun h9 => by omega)
      refine wz_bipush (x := (-2)) (p9 := 33) rfl rfl (by decide) ?_
      exact wz_reti rfl rfl rfl
  rcases tri_or (X := X) (o := o) H x with ⟨hc1, hc2⟩ | ⟨u, hu, rfl, hu3⟩
  · refine ⟨A, RA.s_th R 0, (-2), ?_, ?_, ⟨H.T, H.p, H.m, H.t, H.V, H.wi, H.wc, H.ln, H.rr, H.S, H.sP, H.uw, H.sc, H.go, H.us, H.ud, H.bc, H.tx, H.sz, H.te, H.kd, H.pl, H.fl, H.sl, H.se, H.fc, H.st, H.nw, H.dc, H.tl, H.dn⟩⟩
    · skip
      refine wp_ev (d := d + 9) (by decide) rfl rfl (fun h => by cases h) ?_
      show wp X (d + 9) 78 (0, [.ref 0, .int x, .int y, .int (nI N), .retAddr 0, .retAddr 0], [], WW A R o, 0, 0) _
      refine wz_iload_n (p9 := 1) rfl rfl rfl ?_
      refine wn_iflt (t9 := 32) (p9 := 4) rfl rfl rfl (by omega) (fun h9 => by omega) (fun _ => ?_)
      refine wz_iload_n (p9 := 5) rfl rfl rfl ?_
      refine wz_bipush (x := nI 9) (p9 := 7) rfl rfl (by decide) ?_
      refine wn_icgt (t9 := 32) (p9 := 10) rfl rfl rfl (by omega) (by omega) (fun h9 => by omega) (fun _ => ?_)
      refine wz_aload_n (p9 := 11) rfl rfl rfl ?_
      refine wz_get (v := .ref 21) (p9 := 14) rfl rfl rfl rfl rfl ?_
      refine wz_iload_n (p9 := 15) rfl rfl rfl ?_
      refine wz_c1 (p9 := 18) (w1 := WW A R o) (u := .int (nI 0)) (wa_v (N := 65) (i := 21) (As := [.int x]) (rest := []) rfl rfl rfl rfl rfl rfl rfl) rfl (hc1.up (by omega)) ?_
      refine wn_ifeq (t9 := 32) (p9 := 21) rfl rfl rfl (by omega) (fun _ => ?_) (fun h9 => by omega)
      refine wz_bipush (x := (-2)) (p9 := 34) rfl rfl (by decide) ?_
      exact wz_reti rfl rfl rfl
    · skip
      refine wp_ev (d := d + 9) (by decide) rfl rfl (fun h => by cases h) ?_
      show wp X (d + 9) 144 (0, [.ref 26, .int x, .int y, .int (nI N), .retAddr 0], [], WW A R o, 0, 0) _
      refine wz_aload_n (p9 := 1) rfl rfl rfl ?_
      refine wz_iconst (x := nI 0) (p9 := 2) rfl rfl (by decide) ?_
      refine wp_Rth (x := 0) (p9 := 5) rfl rfl rfl rfl (R1 := (RA.s_th R 0)) rfl ?_
      refine wz_iload_n (p9 := 6) rfl rfl rfl ?_
      refine wn_iflt (t9 := 31) (p9 := 9) rfl rfl rfl (by omega) (fun h9 => by omega) (fun _ => ?_)
      refine wz_iload_n (p9 := 10) rfl rfl rfl ?_
      refine wz_bipush (x := nI 9) (p9 := 12) rfl rfl (by decide) ?_
      refine wn_icgt (t9 := 31) (p9 := 15) rfl rfl rfl (by omega) (by omega) (fun h9 => by omega) (fun _ => ?_)
      refine wz_aload_n (p9 := 16) rfl rfl rfl ?_
      refine wz_iload_n (p9 := 17) rfl rfl rfl ?_
      refine wz_c1 (p9 := 20) (w1 := WW A (RA.s_th R 0) o) (u := .int (nI 0)) (wa_v (N := 145) (i := 26) (As := [.int x]) (rest := []) rfl rfl rfl rfl rfl rfl rfl) rfl (hc2.up (by omega)) ?_
      refine wn_ifeq (t9 := 31) (p9 := 23) rfl rfl rfl (by omega) (fun _ => ?_) (fun h9 => by omega)
      refine wz_bipush (x := (-2)) (p9 := 33) rfl rfl (by decide) ?_
      exact wz_reti rfl rfl rfl
  have hq1 := g_isTri1 (X := X) (d := 0) (A := A) (R := R) (o := o) p7 hu hu3
  have hq2 := g_mThree1 (X := X) (d := 0) (A := A) (R := RA.s_th R 0) (o := o) hP7 hu (by show i3 R.P u; rw [H.p]; exact hu3)
  rcases tri_or (X := X) (o := o) H y with ⟨hc1, hc2⟩ | ⟨e, he, rfl, he3⟩
  · refine ⟨A, RA.s_th R 0, (-2), ?_, ?_, ⟨H.T, H.p, H.m, H.t, H.V, H.wi, H.wc, H.ln, H.rr, H.S, H.sP, H.uw, H.sc, H.go, H.us, H.ud, H.bc, H.tx, H.sz, H.te, H.kd, H.pl, H.fl, H.sl, H.se, H.fc, H.st, H.nw, H.dc, H.tl, H.dn⟩⟩
    · skip
      refine wp_ev (d := d + 9) (by decide) rfl rfl (fun h => by cases h) ?_
      show wp X (d + 9) 78 (0, [.ref 0, .int (nI u), .int y, .int (nI N), .retAddr 0, .retAddr 0], [], WW A R o, 0, 0) _
      refine wz_iload_n (p9 := 1) rfl rfl rfl ?_
      refine wn_iflt (t9 := 32) (p9 := 4) rfl rfl rfl (by omega) (fun h9 => by omega) (fun _ => ?_)
      refine wz_iload_n (p9 := 5) rfl rfl rfl ?_
      refine wz_bipush (x := nI 9) (p9 := 7) rfl rfl (by decide) ?_
      refine wn_icgt (t9 := 32) (p9 := 10) rfl rfl rfl (by omega) (by omega) (fun h9 => by omega) (fun _ => ?_)
      refine wz_aload_n (p9 := 11) rfl rfl rfl ?_
      refine wz_get (v := .ref 21) (p9 := 14) rfl rfl rfl rfl rfl ?_
      refine wz_iload_n (p9 := 15) rfl rfl rfl ?_
      refine wz_c1 (p9 := 18) (w1 := WW A R o) (u := .int (nI 1)) (wa_v (N := 65) (i := 21) (As := [.int (nI u)]) (rest := []) rfl rfl rfl rfl rfl rfl rfl) rfl (hq1.up (by omega)) ?_
      refine wn_ifeq (t9 := 32) (p9 := 21) rfl rfl rfl (by omega) (fun h9 => by omega) (fun _ => ?_)
      refine wz_aload_n (p9 := 22) rfl rfl rfl ?_
      refine wz_get (v := .ref 21) (p9 := 25) rfl rfl rfl rfl rfl ?_
      refine wz_iload_n (p9 := 26) rfl rfl rfl ?_
      refine wz_c1 (p9 := 29) (w1 := WW A R o) (u := .int (nI 0)) (wa_v (N := 65) (i := 21) (As := [.int y]) (rest := []) rfl rfl rfl rfl rfl rfl rfl) rfl (hc1.up (by omega)) ?_
      refine wn_ifne (t9 := 35) (p9 := 32) rfl rfl rfl (by omega) (fun h9 => by omega) (fun _ => ?_)
      refine wz_bipush (x := (-2)) (p9 := 34) rfl rfl (by decide) ?_
      exact wz_reti rfl rfl rfl
    · skip
      refine wp_ev (d := d + 9) (by decide) rfl rfl (fun h => by cases h) ?_
      show wp X (d + 9) 144 (0, [.ref 26, .int (nI u), .int y, .int (nI N), .retAddr 0], [], WW A R o, 0, 0) _
      refine wz_aload_n (p9 := 1) rfl rfl rfl ?_
      refine wz_iconst (x := nI 0) (p9 := 2) rfl rfl (by decide) ?_
      refine wp_Rth (x := 0) (p9 := 5) rfl rfl rfl rfl (R1 := (RA.s_th R 0)) rfl ?_
      refine wz_iload_n (p9 := 6) rfl rfl rfl ?_
      refine wn_iflt (t9 := 31) (p9 := 9) rfl rfl rfl (by omega) (fun h9 => by omega) (fun _ => ?_)
      refine wz_iload_n (p9 := 10) rfl rfl rfl ?_
      refine wz_bipush (x := nI 9) (p9 := 12) rfl rfl (by decide) ?_
      refine wn_icgt (t9 := 31) (p9 := 15) rfl rfl rfl (by omega) (by omega) (fun h9 => by omega) (fun _ => ?_)
      refine wz_aload_n (p9 := 16) rfl rfl rfl ?_
      refine wz_iload_n (p9 := 17) rfl rfl rfl ?_
      refine wz_c1 (p9 := 20) (w1 := WW A (RA.s_th R 0) o) (u := .int (nI 1)) (wa_v (N := 145) (i := 26) (As := [.int (nI u)]) (rest := []) rfl rfl rfl rfl rfl rfl rfl) rfl (hq2.up (by omega)) ?_
      refine wn_ifeq (t9 := 31) (p9 := 23) rfl rfl rfl (by omega) (fun h9 => by omega) (fun _ => ?_)
      refine wz_aload_n (p9 := 24) rfl rfl rfl ?_
      refine wz_iload_n (p9 := 25) rfl rfl rfl ?_
      refine wz_c1 (p9 := 28) (w1 := WW A (RA.s_th R 0) o) (u := .int (nI 0)) (wa_v (N := 145) (i := 26) (As := [.int y]) (rest := []) rfl rfl rfl rfl rfl rfl rfl) rfl (hc2.up (by omega)) ?_
      refine wn_ifne (t9 := 34) (p9 := 31) rfl rfl rfl (by omega) (fun h9 => by omega) (fun _ => ?_)
      refine wz_bipush (x := (-2)) (p9 := 33) rfl rfl (by decide) ?_
      exact wz_reti rfl rfl rfl
  have hst := pm_lt p7 H.st
  have ho3 : o3 A.P e := by
    intro p hp
    have : p = 0 ∨ p = 1 ∨ p = 2 := by omega
    rcases this with rfl | rfl | rfl
    · exact he3.2.2.2.1
    · exact he3.2.2.2.2.1
    · exact he3.2.2.2.2.2
  have hx3 : o3 A.P (pP u A.st A.P) := fun p hp => (pP_at p7 H.st hu3 hp).1
  have hx5 := pP_512 (u := u) (x := A.st) p7 A.P (Nat.le_refl _)
  have hrb := g_rowsBetween (X := X) (d := 0) (A := A) (R := R) (o := o) H.T (s := (pP u A.st A.P)) (e := e) hx5 he ho3
  have hFF : ∀ x r, x < 512 → o3 A.P x → r < 4294967295 → ((n3 (fun m x => t3 (fun q => A.t (m * 7 + q)) x 3) A.od A.Mv 512 0 (1, un A.qu 0 e, un (fil 4294967295 A.fa 512) e 0)).2.2 x = r ↔ ds (wk (fun m x => t3 (fun q => A.t (m * 7 + q)) x 3) A.od A.Mv e) r x) := fun x r h1 h2 h3 => n3_ds H.T.th he ho3 h1 h2 h3
  have hFl : ∀ x, x < 512 → (n3 (fun m x => t3 (fun q => A.t (m * 7 + q)) x 3) A.od A.Mv 512 0 (1, un A.qu 0 e, un (fil 4294967295 A.fa 512) e 0)).2.2 x < 4294967296 := fun x hx => by
    by_cases c : (n3 (fun m x => t3 (fun q => A.t (m * 7 + q)) x 3) A.od A.Mv 512 0 (1, un A.qu 0 e, un (fil 4294967295 A.fa 512) e 0)).2.2 x = 4294967295
    · omega
    · have := ((n3_far H.T.th (qu := A.qu) (fa := A.fa) he ho3).1 x hx c).1
      omega
  have hFs : ∀ x, x < 512 → (n3 (fun m x => t3 (fun q => A.t (m * 7 + q)) x 3) A.od A.Mv 512 0 (1, un A.qu 0 e, un (fil 4294967295 A.fa 512) e 0)).2.2 x = 4294967295 ∨ (n3 (fun m x => t3 (fun q => A.t (m * 7 + q)) x 3) A.od A.Mv 512 0 (1, un A.qu 0 e, un (fil 4294967295 A.fa 512) e 0)).2.2 x < 512 := fun x hx => by
    by_cases c : (n3 (fun m x => t3 (fun q => A.t (m * 7 + q)) x 3) A.od A.Mv 512 0 (1, un A.qu 0 e, un (fil 4294967295 A.fa 512) e 0)).2.2 x = 4294967295
    · exact Or.inl c
    · exact Or.inr ((n3_far H.T.th (qu := A.qu) (fa := A.fa) he ho3).1 x hx c).1
  change px_ev X (0 + 4) 67 [.ref 21, .int (nI (pP u A.st A.P)), .int (nI e)] (WW A R o) (some (some (.int (nI ((n3 (fun m x => t3 (fun q => A.t (m * 7 + q)) x 3) A.od A.Mv 512 0 (1, un A.qu 0 e, un (fil 4294967295 A.fa 512) e 0)).2.2 (pP u A.st A.P))))), WW (CA.s_fa (CA.s_qu (CA.s_qn A (n3 (fun m x => t3 (fun q => A.t (m * 7 + q)) x 3) A.od A.Mv 512 0 (1, un A.qu 0 e, un (fil 4294967295 A.fa 512) e 0)).1) (n3 (fun m x => t3 (fun q => A.t (m * 7 + q)) x 3) A.od A.Mv 512 0 (1, un A.qu 0 e, un (fil 4294967295 A.fa 512) e 0)).2.1) (n3 (fun m x => t3 (fun q => A.t (m * 7 + q)) x 3) A.od A.Mv 512 0 (1, un A.qu 0 e, un (fil 4294967295 A.fa 512) e 0)).2.2) R o, 0, 0) at hrb
  generalize (n3 (fun m x => t3 (fun q => A.t (m * 7 + q)) x 3) A.od A.Mv 512 0 (1, un A.qu 0 e, un (fil 4294967295 A.fa 512) e 0)) = b at hrb hFF hFl hFs
  have hq3 := g_isTri1 (X := X) (d := 0) (A := A) (R := R) (o := o) p7 he he3
  have hpl := g_placesOf (X := X) (d := 0) (A := A) (R := R) (o := o) p7 hu (show A.st < 2147483648 by omega)
  have d0 := pP_at p7 H.st hu3 (show 0 < 3 by decide)
  have d1 := pP_at p7 H.st hu3 (show 1 < 3 by decide)
  have d2 := pP_at p7 H.st hu3 (show 2 < 3 by decide)
  have hnb : ∀ p, p < R.P → R.nw p < 8 := fun p hp => by rw [H.nw p (by rw [← H.p]; exact hp)]; exact dg_lt _ _
  have hpo : ∀ k, k < 3 → ∀ A9 : CA, px_ev X 1 147 [.ref 26, .int (nI (dg u k))] (WW A9 (RA.s_th R 0) o) (some (some (.int (nI (dg (pP u A.st A.P) k)))), WW A9 (RA.s_th R 0) o, 0, 0) := fun k hk A9 => by
    have hd := pP_at p7 H.st hu3 hk
    refine g_placeOf (d := 0) (R := RA.s_th R 0) hP7 (show dg (pP u A.st A.P) k < R.P by rw [H.p]; exact hd.1) ?_ (fun p hp e9 => ?_) hnb
    · show R.nw _ = _
      rw [H.nw _ hd.1]; exact hd.2
    · replace e9 : R.nw p = dg u k := e9
      rw [H.nw p (by omega), ← hd.2] at e9
      have := H.st.2.2 p _ (by omega) hd.1 e9
      omega
  have hke := kp_ok p7 ho3
  have hkx := kp_ok p7 hx3
  have hkx3 := ok7_lt p7 hkx
  have hms : ∀ A9 : CA, ∃ f, FR R.P (wc7 R.t A.od R.Mv (kp e)) N f ∧ (∀ q, q < 343 → f q < 100) ∧ px_ev X (0 + 4) 148 [.ref 26, .int (nI (kp e)), .int (nI N)] (WW A9 (RA.s_th R 0) o) (some none, WW A9 (RA.s_fa (RA.s_th R 0) f) o, 0, 0) := fun A9 => g_measure (X := X) (d := 0) (A := A9) (R := RA.s_th R 0) (o := o) H.TR (by show ok7 R.P _; rw [H.p]; exact hke) (by omega)
  rcases (Classical.em (∃ r, r ≤ N ∧ ds (wk (fun m x => t3 (fun q => A.t (m * 7 + q)) x 3) A.od A.Mv e) r (pP u A.st A.P))).symm with hL | hL
  · have hno : ∀ r, r ≤ N → b.2.2 (pP u A.st A.P) ≠ r := fun r hr q => hL ⟨r, hr, (hFF _ r hx5 hx3 (by omega)).mp q⟩
    obtain ⟨f, hfr, hfb, hme⟩ := hms ((CA.s_qn (CA.s_qu (CA.s_fa A b.2.2) b.2.1) b.1))
    have hfa : ∀ x r, x < 512 → o3 A.P x → r ≤ N → (f (kp x) = r ↔ ds (wk (fun m x => t3 (fun q => A.t (m * 7 + q)) x 3) A.od A.Mv e) r x) := fun x r h1 h2 h3 => by
      rw [ds_wc H.T he ho3 h1 h2]
      have h9 := (hfr (kp x) (by rw [H.p]; exact kp_ok p7 h2)).2 r h3
      rw [H.t, H.m] at h9
      exact h9
    have hf99 := (hfr (kp (pP u A.st A.P)) (by rw [H.p]; exact hkx)).1
    have hfb9 := hfb (kp (pP u A.st A.P)) hkx3
    have hkpe : f (dg (pP u A.st A.P) 0 + 7 * dg (pP u A.st A.P) 1 + 49 * dg (pP u A.st A.P) 2) = f (kp (pP u A.st A.P)) := rfl
    have h99 : f (kp (pP u A.st A.P)) = 99 := by
      rcases hf99 with q | q
      · exact q
      · exact absurd ⟨_, q, (hfa _ _ hx5 hx3 q).mp rfl⟩ hL
    refine ⟨(CA.s_qn (CA.s_qu (CA.s_fa A b.2.2) b.2.1) b.1), RA.s_fa (RA.s_th R 0) f, -1, ?_, ?_, ⟨H.T, H.p, H.m, H.t, H.V, H.wi, H.wc, H.ln, H.rr, H.S, H.sP, H.uw, H.sc, H.go, H.us, H.ud, H.bc, H.tx, H.sz, H.te, H.kd, H.pl, H.fl, H.sl, H.se, H.fc, H.st, H.nw, H.dc, H.tl, H.dn⟩⟩
    · rcases hFs (pP u A.st A.P) hx5 with hn | hn
      · skip
        refine wp_ev (d := d + 9) (by decide) rfl rfl (fun h => by cases h) ?_
        show wp X (d + 9) 78 (0, [.ref 0, .int (nI u), .int (nI e), .int (nI N), .retAddr 0, .retAddr 0], [], WW A R o, 0, 0) _
        refine wz_iload_n (p9 := 1) rfl rfl rfl ?_
        refine wn_iflt (t9 := 32) (p9 := 4) rfl rfl rfl (by omega) (fun h9 => by omega) (fun _ => ?_)
        refine wz_iload_n (p9 := 5) rfl rfl rfl ?_
        refine wz_bipush (x := nI 9) (p9 := 7) rfl rfl (by decide) ?_
        refine wn_icgt (t9 := 32) (p9 := 10) rfl rfl rfl (by omega) (by omega) (fun h9 => by omega) (fun _ => ?_)
        refine wz_aload_n (p9 := 11) rfl rfl rfl ?_
        refine wz_get (v := .ref 21) (p9 := 14) rfl rfl rfl rfl rfl ?_
        refine wz_iload_n (p9 := 15) rfl rfl rfl ?_
        refine wz_c1 (p9 := 18) (w1 := WW A R o) (u := .int (nI 1)) (wa_v (N := 65) (i := 21) (As := [.int (nI u)]) (rest := []) rfl rfl rfl rfl rfl rfl rfl) rfl (hq1.up (by omega)) ?_
        refine wn_ifeq (t9 := 32) (p9 := 21) rfl rfl rfl (by omega) (fun h9 => by omega) (fun _ => ?_)
        refine wz_aload_n (p9 := 22) rfl rfl rfl ?_
        refine wz_get (v := .ref 21) (p9 := 25) rfl rfl rfl rfl rfl ?_
        refine wz_iload_n (p9 := 26) rfl rfl rfl ?_
        refine wz_c1 (p9 := 29) (w1 := WW A R o) (u := .int (nI 1)) (wa_v (N := 65) (i := 21) (As := [.int (nI e)]) (rest := []) rfl rfl rfl rfl rfl rfl rfl) rfl (hq3.up (by omega)) ?_
        refine wn_ifne (t9 := 35) (p9 := 32) rfl rfl rfl (by omega) (fun _ => ?_) (fun h9 => by omega)
        refine wz_aload_n (p9 := 36) rfl rfl rfl ?_
        refine wz_get (v := .ref 21) (p9 := 39) rfl rfl rfl rfl rfl ?_
        refine wz_iload_n (p9 := 40) rfl rfl rfl ?_
        refine wz_aload_n (p9 := 41) rfl rfl rfl ?_
        refine wz_get (v := .int (nI A.st)) (p9 := 44) rfl rfl rfl rfl rfl ?_
        refine wz_c1 (p9 := 47) (w1 := WW A R o) (u := .int (nI (pP u A.st A.P))) (wa_v (N := 66) (i := 21) (As := [.int (nI u), .int (nI A.st)]) (rest := []) rfl rfl rfl rfl rfl rfl rfl) rfl (hpl.up (by omega)) ?_
        refine wz_istore (l9 := [.ref 0, .int (nI u), .int (nI e), .int (nI N), .int (nI (pP u A.st A.P)), .retAddr 0]) (p9 := 49) rfl rfl rfl rfl ?_
        refine wz_aload_n (p9 := 50) rfl rfl rfl ?_
        refine wz_get (v := .ref 21) (p9 := 53) rfl rfl rfl rfl rfl ?_
        refine wz_iload (p9 := 55) rfl rfl rfl ?_
        refine wz_iload_n (p9 := 56) rfl rfl rfl ?_
        refine wz_c1 (p9 := 59) (w1 := WW (CA.s_qn (CA.s_qu (CA.s_fa A b.2.2) b.2.1) b.1) R o) (u := .int (nI (b.2.2 (pP u A.st A.P)))) (wa_v (N := 67) (i := 21) (As := [.int (nI (pP u A.st A.P)), .int (nI e)]) (rest := []) rfl rfl rfl rfl rfl rfl rfl) rfl (hrb.up (by omega)) ?_
        refine wz_istore (l9 := [.ref 0, .int (nI u), .int (nI e), .int (nI N), .int (nI (pP u A.st A.P)), .int (nI (b.2.2 (pP u A.st A.P)))]) (p9 := 61) rfl rfl rfl rfl ?_
        refine wz_iload (p9 := 63) rfl rfl rfl ?_
        refine wz_iconst (x := (-1)) (p9 := 64) rfl rfl (by decide) ?_
        refine wz_iceq (t9 := 73) (p9 := 67) rfl rfl rfl (fun _ => ?_) (fun h9 => absurd (by rw [hn]; decide) h9)
        refine wz_iconst (x := (-1)) (p9 := 74) rfl rfl (by decide) ?_
        exact wz_reti rfl rfl rfl
      · have hgt : N < b.2.2 (pP u A.st A.P) := Nat.lt_of_not_le (fun c => hno _ c rfl)
        refine wp_ev (d := d + 9) (by decide) rfl rfl (fun h => by cases h) ?_
        show wp X (d + 9) 78 (0, [.ref 0, .int (nI u), .int (nI e), .int (nI N), .retAddr 0, .retAddr 0], [], WW A R o, 0, 0) _
        refine wz_iload_n (p9 := 1) rfl rfl rfl ?_
        refine wn_iflt (t9 := 32) (p9 := 4) rfl rfl rfl (by omega) (fun h9 => by omega) (fun _ => ?_)
        refine wz_iload_n (p9 := 5) rfl rfl rfl ?_
        refine wz_bipush (x := nI 9) (p9 := 7) rfl rfl (by decide) ?_
        refine wn_icgt (t9 := 32) (p9 := 10) rfl rfl rfl (by omega) (by omega) (fun h9 => by omega) (fun _ => ?_)
        refine wz_aload_n (p9 := 11) rfl rfl rfl ?_
        refine wz_get (v := .ref 21) (p9 := 14) rfl rfl rfl rfl rfl ?_
        refine wz_iload_n (p9 := 15) rfl rfl rfl ?_
        refine wz_c1 (p9 := 18) (w1 := WW A R o) (u := .int (nI 1)) (wa_v (N := 65) (i := 21) (As := [.int (nI u)]) (rest := []) rfl rfl rfl rfl rfl rfl rfl) rfl (hq1.up (by omega)) ?_
        refine wn_ifeq (t9 := 32) (p9 := 21) rfl rfl rfl (by omega) (fun h9 => by omega) (fun _ => ?_)
        refine wz_aload_n (p9 := 22) rfl rfl rfl ?_
        refine wz_get (v := .ref 21) (p9 := 25) rfl rfl rfl rfl rfl ?_
        refine wz_iload_n (p9 := 26) rfl rfl rfl ?_
        refine wz_c1 (p9 := 29) (w1 := WW A R o) (u := .int (nI 1)) (wa_v (N := 65) (i := 21) (As := [.int (nI e)]) (rest := []) rfl rfl rfl rfl rfl rfl rfl) rfl (hq3.up (by omega)) ?_
        refine wn_ifne (t9 := 35) (p9 := 32) rfl rfl rfl (by omega) (fun _ => ?_) (fun h9 => by omega)
        refine wz_aload_n (p9 := 36) rfl rfl rfl ?_
        refine wz_get (v := .ref 21) (p9 := 39) rfl rfl rfl rfl rfl ?_
        refine wz_iload_n (p9 := 40) rfl rfl rfl ?_
        refine wz_aload_n (p9 := 41) rfl rfl rfl ?_
        refine wz_get (v := .int (nI A.st)) (p9 := 44) rfl rfl rfl rfl rfl ?_
        refine wz_c1 (p9 := 47) (w1 := WW A R o) (u := .int (nI (pP u A.st A.P))) (wa_v (N := 66) (i := 21) (As := [.int (nI u), .int (nI A.st)]) (rest := []) rfl rfl rfl rfl rfl rfl rfl) rfl (hpl.up (by omega)) ?_
        refine wz_istore (l9 := [.ref 0, .int (nI u), .int (nI e), .int (nI N), .int (nI (pP u A.st A.P)), .retAddr 0]) (p9 := 49) rfl rfl rfl rfl ?_
        refine wz_aload_n (p9 := 50) rfl rfl rfl ?_
        refine wz_get (v := .ref 21) (p9 := 53) rfl rfl rfl rfl rfl ?_
        refine wz_iload (p9 := 55) rfl rfl rfl ?_
        refine wz_iload_n (p9 := 56) rfl rfl rfl ?_
        refine wz_c1 (p9 := 59) (w1 := WW (CA.s_qn (CA.s_qu (CA.s_fa A b.2.2) b.2.1) b.1) R o) (u := .int (nI (b.2.2 (pP u A.st A.P)))) (wa_v (N := 67) (i := 21) (As := [.int (nI (pP u A.st A.P)), .int (nI e)]) (rest := []) rfl rfl rfl rfl rfl rfl rfl) rfl (hrb.up (by omega)) ?_
        refine wz_istore (l9 := [.ref 0, .int (nI u), .int (nI e), .int (nI N), .int (nI (pP u A.st A.P)), .int (nI (b.2.2 (pP u A.st A.P)))]) (p9 := 61) rfl rfl rfl rfl ?_
        refine wz_iload (p9 := 63) rfl rfl rfl ?_
        refine wz_iconst (x := (-1)) (p9 := 64) rfl rfl (by decide) ?_
        refine wz_iceq (t9 := 73) (p9 := 67) rfl rfl rfl (fun h9 => absurd h9 (q_ne1 (by omega))) (fun _ => ?_)
        refine wz_iload (p9 := 69) rfl rfl rfl ?_
        refine wz_iload_n (p9 := 70) rfl rfl rfl ?_
        refine wn_icle (t9 := 75) (p9 := 73) rfl rfl rfl (by omega) (by omega) (fun h9 => by omega) (fun _ => ?_)
        refine wz_iconst (x := (-1)) (p9 := 74) rfl rfl (by decide) ?_
        exact wz_reti rfl rfl rfl
    · skip
      refine wp_ev (d := d + 9) (by decide) rfl rfl (fun h => by cases h) ?_
      show wp X (d + 9) 144 (0, [.ref 26, .int (nI u), .int (nI e), .int (nI N), .retAddr 0], [], WW (CA.s_qn (CA.s_qu (CA.s_fa A b.2.2) b.2.1) b.1) R o, 0, 0) _
      refine wz_aload_n (p9 := 1) rfl rfl rfl ?_
      refine wz_iconst (x := nI 0) (p9 := 2) rfl rfl (by decide) ?_
      refine wp_Rth (x := 0) (p9 := 5) rfl rfl rfl rfl (R1 := (RA.s_th R 0)) rfl ?_
      refine wz_iload_n (p9 := 6) rfl rfl rfl ?_
      refine wn_iflt (t9 := 31) (p9 := 9) rfl rfl rfl (by omega) (fun h9 => by omega) (fun _ => ?_)
      refine wz_iload_n (p9 := 10) rfl rfl rfl ?_
      refine wz_bipush (x := nI 9) (p9 := 12) rfl rfl (by decide) ?_
      refine wn_icgt (t9 := 31) (p9 := 15) rfl rfl rfl (by omega) (by omega) (fun h9 => by omega) (fun _ => ?_)
      refine wz_aload_n (p9 := 16) rfl rfl rfl ?_
      refine wz_iload_n (p9 := 17) rfl rfl rfl ?_
      refine wz_c1 (p9 := 20) (w1 := WW (CA.s_qn (CA.s_qu (CA.s_fa A b.2.2) b.2.1) b.1) (RA.s_th R 0) o) (u := .int (nI 1)) (wa_v (N := 145) (i := 26) (As := [.int (nI u)]) (rest := []) rfl rfl rfl rfl rfl rfl rfl) rfl (by have h9 := g_mThree1 (X := X) (d := 0) (A := (CA.s_qn (CA.s_qu (CA.s_fa A b.2.2) b.2.1) b.1)) (R := RA.s_th R 0) (o := o) hP7 hu (by show i3 R.P _; rw [H.p]; exact hu3); exact h9.up (by omega)) ?_
      refine wn_ifeq (t9 := 31) (p9 := 23) rfl rfl rfl (by omega) (fun h9 => by omega) (fun _ => ?_)
      refine wz_aload_n (p9 := 24) rfl rfl rfl ?_
      refine wz_iload_n (p9 := 25) rfl rfl rfl ?_
      refine wz_c1 (p9 := 28) (w1 := WW (CA.s_qn (CA.s_qu (CA.s_fa A b.2.2) b.2.1) b.1) (RA.s_th R 0) o) (u := .int (nI 1)) (wa_v (N := 145) (i := 26) (As := [.int (nI e)]) (rest := []) rfl rfl rfl rfl rfl rfl rfl) rfl (by have h9 := g_mThree1 (X := X) (d := 0) (A := (CA.s_qn (CA.s_qu (CA.s_fa A b.2.2) b.2.1) b.1)) (R := RA.s_th R 0) (o := o) hP7 he (by show i3 R.P _; rw [H.p]; exact he3); exact h9.up (by omega)) ?_
      refine wn_ifne (t9 := 34) (p9 := 31) rfl rfl rfl (by omega) (fun _ => ?_) (fun h9 => by omega)
      refine wz_aload_n (p9 := 35) rfl rfl rfl ?_
      refine wz_iload_n (p9 := 36) rfl rfl rfl ?_
      refine wz_iconst (x := nI 0) (p9 := 37) rfl rfl (by decide) ?_
      refine wz_c1 (p9 := 40) (w1 := WW (CA.s_qn (CA.s_qu (CA.s_fa A b.2.2) b.2.1) b.1) (RA.s_th R 0) o) (u := .int (nI (dg u 0))) (tz_calS (N := 146) (As := [.int (nI u), .int (nI 0)]) (rest := [.ref 26]) rfl rfl rfl rfl rfl rfl) rfl ((g_digit (d := 0) (A := (CA.s_qn (CA.s_qu (CA.s_fa A b.2.2) b.2.1) b.1)) (R := (RA.s_th R 0)) (by omega) (by omega)).up (Nat.le_trans (m := 9) (by decide) (Nat.le_add_left 9 d))) ?_
      refine wz_c1 (p9 := 43) (w1 := WW (CA.s_qn (CA.s_qu (CA.s_fa A b.2.2) b.2.1) b.1) (RA.s_th R 0) o) (u := .int (nI (dg (pP u A.st A.P) 0))) (wa_v (N := 147) (i := 26) (As := [.int (nI (dg u 0))]) (rest := []) rfl rfl rfl rfl rfl rfl rfl) rfl ((hpo 0 (by decide) (CA.s_qn (CA.s_qu (CA.s_fa A b.2.2) b.2.1) b.1)).up (by omega)) ?_
      refine wz_bipush (x := nI 7) (p9 := 45) rfl rfl (by decide) ?_
      refine wz_aload_n (p9 := 46) rfl rfl rfl ?_
      refine wz_iload_n (p9 := 47) rfl rfl rfl ?_
      refine wz_iconst (x := nI 1) (p9 := 48) rfl rfl (by decide) ?_
      refine wz_c1 (p9 := 51) (w1 := WW (CA.s_qn (CA.s_qu (CA.s_fa A b.2.2) b.2.1) b.1) (RA.s_th R 0) o) (u := .int (nI (dg u 1))) (tz_calS (N := 146) (As := [.int (nI u), .int (nI 1)]) (rest := [.ref 26, .int (nI 7), .int (nI (dg (pP u A.st A.P) 0))]) rfl rfl rfl rfl rfl rfl) rfl ((g_digit (d := 0) (A := (CA.s_qn (CA.s_qu (CA.s_fa A b.2.2) b.2.1) b.1)) (R := (RA.s_th R 0)) (by omega) (by omega)).up (Nat.le_trans (m := 9) (by decide) (Nat.le_add_left 9 d))) ?_
      refine wz_c1 (p9 := 54) (w1 := WW (CA.s_qn (CA.s_qu (CA.s_fa A b.2.2) b.2.1) b.1) (RA.s_th R 0) o) (u := .int (nI (dg (pP u A.st A.P) 1))) (wa_v (N := 147) (i := 26) (As := [.int (nI (dg u 1))]) (rest := [.int (nI 7), .int (nI (dg (pP u A.st A.P) 0))]) rfl rfl rfl rfl rfl rfl rfl) rfl ((hpo 1 (by decide) (CA.s_qn (CA.s_qu (CA.s_fa A b.2.2) b.2.1) b.1)).up (by omega)) ?_
      refine wn_mul (p9 := 55) rfl rfl ?_
      refine wn_add (p9 := 56) rfl rfl ?_
      refine wz_bipush (x := nI 49) (p9 := 58) rfl rfl (by decide) ?_
      refine wz_aload_n (p9 := 59) rfl rfl rfl ?_
      refine wz_iload_n (p9 := 60) rfl rfl rfl ?_
      refine wz_iconst (x := nI 2) (p9 := 61) rfl rfl (by decide) ?_
      refine wz_c1 (p9 := 64) (w1 := WW (CA.s_qn (CA.s_qu (CA.s_fa A b.2.2) b.2.1) b.1) (RA.s_th R 0) o) (u := .int (nI (dg u 2))) (tz_calS (N := 146) (As := [.int (nI u), .int (nI 2)]) (rest := [.ref 26, .int (nI 49), .int (nI ((dg (pP u A.st A.P) 0) + (7 * (dg (pP u A.st A.P) 1))))]) rfl rfl rfl rfl rfl rfl) rfl ((g_digit (d := 0) (A := (CA.s_qn (CA.s_qu (CA.s_fa A b.2.2) b.2.1) b.1)) (R := (RA.s_th R 0)) (by omega) (by omega)).up (Nat.le_trans (m := 9) (by decide) (Nat.le_add_left 9 d))) ?_
      refine wz_c1 (p9 := 67) (w1 := WW (CA.s_qn (CA.s_qu (CA.s_fa A b.2.2) b.2.1) b.1) (RA.s_th R 0) o) (u := .int (nI (dg (pP u A.st A.P) 2))) (wa_v (N := 147) (i := 26) (As := [.int (nI (dg u 2))]) (rest := [.int (nI 49), .int (nI ((dg (pP u A.st A.P) 0) + (7 * (dg (pP u A.st A.P) 1))))]) rfl rfl rfl rfl rfl rfl rfl) rfl ((hpo 2 (by decide) (CA.s_qn (CA.s_qu (CA.s_fa A b.2.2) b.2.1) b.1)).up (by omega)) ?_
      refine wn_mul (p9 := 68) rfl rfl ?_
      refine wn_add (p9 := 69) rfl rfl ?_
      refine wz_istore (l9 := [.ref 26, .int (nI u), .int (nI e), .int (nI N), .int (nI (((dg (pP u A.st A.P) 0) + (7 * (dg (pP u A.st A.P) 1))) + (49 * (dg (pP u A.st A.P) 2))))]) (p9 := 71) rfl rfl rfl rfl ?_
      refine wz_aload_n (p9 := 72) rfl rfl rfl ?_
      refine wz_iload_n (p9 := 73) rfl rfl rfl ?_
      refine wz_iconst (x := nI 0) (p9 := 74) rfl rfl (by decide) ?_
      refine wz_c1 (p9 := 77) (w1 := WW (CA.s_qn (CA.s_qu (CA.s_fa A b.2.2) b.2.1) b.1) (RA.s_th R 0) o) (u := .int (nI (dg e 0))) (tz_calS (N := 146) (As := [.int (nI e), .int (nI 0)]) (rest := [.ref 26]) rfl rfl rfl rfl rfl rfl) rfl ((g_digit (d := 0) (A := (CA.s_qn (CA.s_qu (CA.s_fa A b.2.2) b.2.1) b.1)) (R := (RA.s_th R 0)) (by omega) (by omega)).up (Nat.le_trans (m := 9) (by decide) (Nat.le_add_left 9 d))) ?_
      refine wz_bipush (x := nI 7) (p9 := 79) rfl rfl (by decide) ?_
      refine wz_iload_n (p9 := 80) rfl rfl rfl ?_
      refine wz_iconst (x := nI 1) (p9 := 81) rfl rfl (by decide) ?_
      refine wz_c1 (p9 := 84) (w1 := WW (CA.s_qn (CA.s_qu (CA.s_fa A b.2.2) b.2.1) b.1) (RA.s_th R 0) o) (u := .int (nI (dg e 1))) (tz_calS (N := 146) (As := [.int (nI e), .int (nI 1)]) (rest := [.int (nI 7), .int (nI (dg e 0)), .ref 26]) rfl rfl rfl rfl rfl rfl) rfl ((g_digit (d := 0) (A := (CA.s_qn (CA.s_qu (CA.s_fa A b.2.2) b.2.1) b.1)) (R := (RA.s_th R 0)) (by omega) (by omega)).up (Nat.le_trans (m := 9) (by decide) (Nat.le_add_left 9 d))) ?_
      refine wn_mul (p9 := 85) rfl rfl ?_
      refine wn_add (p9 := 86) rfl rfl ?_
      refine wz_bipush (x := nI 49) (p9 := 88) rfl rfl (by decide) ?_
      refine wz_iload_n (p9 := 89) rfl rfl rfl ?_
      refine wz_iconst (x := nI 2) (p9 := 90) rfl rfl (by decide) ?_
      refine wz_c1 (p9 := 93) (w1 := WW (CA.s_qn (CA.s_qu (CA.s_fa A b.2.2) b.2.1) b.1) (RA.s_th R 0) o) (u := .int (nI (dg e 2))) (tz_calS (N := 146) (As := [.int (nI e), .int (nI 2)]) (rest := [.int (nI 49), .int (nI ((dg e 0) + (7 * (dg e 1)))), .ref 26]) rfl rfl rfl rfl rfl rfl) rfl ((g_digit (d := 0) (A := (CA.s_qn (CA.s_qu (CA.s_fa A b.2.2) b.2.1) b.1)) (R := (RA.s_th R 0)) (by omega) (by omega)).up (Nat.le_trans (m := 9) (by decide) (Nat.le_add_left 9 d))) ?_
      refine wn_mul (p9 := 94) rfl rfl ?_
      refine wn_add (p9 := 95) rfl rfl ?_
      refine wz_iload_n (p9 := 96) rfl rfl rfl ?_
      refine wz_c0 (p9 := 99) (w1 := WW (CA.s_qn (CA.s_qu (CA.s_fa A b.2.2) b.2.1) b.1) (RA.s_th (RA.s_fa R f) 0) o) (wa_v (N := 148) (i := 26) (As := [.int (nI (kp e)), .int (nI N)]) (rest := []) rfl rfl rfl rfl rfl rfl rfl) rfl (hme.up (by omega)) ?_
      refine wz_aload_n (p9 := 100) rfl rfl rfl ?_
      refine wz_get (v := .ref 44) (p9 := 103) rfl rfl rfl rfl rfl ?_
      refine wz_iload (p9 := 105) rfl rfl rfl ?_
      refine wl_Rfa (f := f) (p9 := 106) rfl rfl rfl hkx3 ?_
      refine wz_bipush (x := nI 99) (p9 := 108) rfl rfl (by decide) ?_
      refine wn_icne (t9 := 113) (p9 := 111) rfl rfl rfl (by omega) (by omega) (fun h9 => by omega) (fun _ => ?_)
      refine wz_iconst (x := (-1)) (p9 := 112) rfl rfl (by decide) ?_
      exact wz_reti rfl rfl rfl
  obtain ⟨L, hLN, hds⟩ := hL
  have hbL := (hFF _ L hx5 hx3 (by omega)).mpr hds
  have hwc30 := H.V.wc
  by_cases hfull : A.wc = 30
  · obtain ⟨f, hfr, hfb, hme⟩ := hms ((CA.s_qn (CA.s_qu (CA.s_fa A b.2.2) b.2.1) b.1))
    have hfa : ∀ x r, x < 512 → o3 A.P x → r ≤ N → (f (kp x) = r ↔ ds (wk (fun m x => t3 (fun q => A.t (m * 7 + q)) x 3) A.od A.Mv e) r x) := fun x r h1 h2 h3 => by
      rw [ds_wc H.T he ho3 h1 h2]
      have h9 := (hfr (kp x) (by rw [H.p]; exact kp_ok p7 h2)).2 r h3
      rw [H.t, H.m] at h9
      exact h9
    have hf99 := (hfr (kp (pP u A.st A.P)) (by rw [H.p]; exact hkx)).1
    have hfb9 := hfb (kp (pP u A.st A.P)) hkx3
    have hkpe : f (dg (pP u A.st A.P) 0 + 7 * dg (pP u A.st A.P) 1 + 49 * dg (pP u A.st A.P) 2) = f (kp (pP u A.st A.P)) := rfl
    have hfL := (hfa _ L hx5 hx3 hLN).mpr hds
    have e3 := H.wc
    refine ⟨(CA.s_qn (CA.s_qu (CA.s_fa A b.2.2) b.2.1) b.1), RA.s_fa (RA.s_th R 0) f, -200, ?_, ?_, ⟨H.T, H.p, H.m, H.t, H.V, H.wi, H.wc, H.ln, H.rr, H.S, H.sP, H.uw, H.sc, H.go, H.us, H.ud, H.bc, H.tx, H.sz, H.te, H.kd, H.pl, H.fl, H.sl, H.se, H.fc, H.st, H.nw, H.dc, H.tl, H.dn⟩⟩
    · skip
      refine wp_ev (d := d + 9) (by decide) rfl rfl (fun h => by cases h) ?_
      show wp X (d + 9) 78 (0, [.ref 0, .int (nI u), .int (nI e), .int (nI N), .retAddr 0, .retAddr 0], [], WW A R o, 0, 0) _
      refine wz_iload_n (p9 := 1) rfl rfl rfl ?_
      refine wn_iflt (t9 := 32) (p9 := 4) rfl rfl rfl (by omega) (fun h9 => by omega) (fun _ => ?_)
      refine wz_iload_n (p9 := 5) rfl rfl rfl ?_
      refine wz_bipush (x := nI 9) (p9 := 7) rfl rfl (by decide) ?_
      refine wn_icgt (t9 := 32) (p9 := 10) rfl rfl rfl (by omega) (by omega) (fun h9 => by omega) (fun _ => ?_)
      refine wz_aload_n (p9 := 11) rfl rfl rfl ?_
      refine wz_get (v := .ref 21) (p9 := 14) rfl rfl rfl rfl rfl ?_
      refine wz_iload_n (p9 := 15) rfl rfl rfl ?_
      refine wz_c1 (p9 := 18) (w1 := WW A R o) (u := .int (nI 1)) (wa_v (N := 65) (i := 21) (As := [.int (nI u)]) (rest := []) rfl rfl rfl rfl rfl rfl rfl) rfl (hq1.up (by omega)) ?_
      refine wn_ifeq (t9 := 32) (p9 := 21) rfl rfl rfl (by omega) (fun h9 => by omega) (fun _ => ?_)
      refine wz_aload_n (p9 := 22) rfl rfl rfl ?_
      refine wz_get (v := .ref 21) (p9 := 25) rfl rfl rfl rfl rfl ?_
      refine wz_iload_n (p9 := 26) rfl rfl rfl ?_
      refine wz_c1 (p9 := 29) (w1 := WW A R o) (u := .int (nI 1)) (wa_v (N := 65) (i := 21) (As := [.int (nI e)]) (rest := []) rfl rfl rfl rfl rfl rfl rfl) rfl (hq3.up (by omega)) ?_
      refine wn_ifne (t9 := 35) (p9 := 32) rfl rfl rfl (by omega) (fun _ => ?_) (fun h9 => by omega)
      refine wz_aload_n (p9 := 36) rfl rfl rfl ?_
      refine wz_get (v := .ref 21) (p9 := 39) rfl rfl rfl rfl rfl ?_
      refine wz_iload_n (p9 := 40) rfl rfl rfl ?_
      refine wz_aload_n (p9 := 41) rfl rfl rfl ?_
      refine wz_get (v := .int (nI A.st)) (p9 := 44) rfl rfl rfl rfl rfl ?_
      refine wz_c1 (p9 := 47) (w1 := WW A R o) (u := .int (nI (pP u A.st A.P))) (wa_v (N := 66) (i := 21) (As := [.int (nI u), .int (nI A.st)]) (rest := []) rfl rfl rfl rfl rfl rfl rfl) rfl (hpl.up (by omega)) ?_
      refine wz_istore (l9 := [.ref 0, .int (nI u), .int (nI e), .int (nI N), .int (nI (pP u A.st A.P)), .retAddr 0]) (p9 := 49) rfl rfl rfl rfl ?_
      refine wz_aload_n (p9 := 50) rfl rfl rfl ?_
      refine wz_get (v := .ref 21) (p9 := 53) rfl rfl rfl rfl rfl ?_
      refine wz_iload (p9 := 55) rfl rfl rfl ?_
      refine wz_iload_n (p9 := 56) rfl rfl rfl ?_
      refine wz_c1 (p9 := 59) (w1 := WW (CA.s_qn (CA.s_qu (CA.s_fa A b.2.2) b.2.1) b.1) R o) (u := .int (nI (b.2.2 (pP u A.st A.P)))) (wa_v (N := 67) (i := 21) (As := [.int (nI (pP u A.st A.P)), .int (nI e)]) (rest := []) rfl rfl rfl rfl rfl rfl rfl) rfl (hrb.up (by omega)) ?_
      refine wz_istore (l9 := [.ref 0, .int (nI u), .int (nI e), .int (nI N), .int (nI (pP u A.st A.P)), .int (nI (b.2.2 (pP u A.st A.P)))]) (p9 := 61) rfl rfl rfl rfl ?_
      refine wz_iload (p9 := 63) rfl rfl rfl ?_
      refine wz_iconst (x := (-1)) (p9 := 64) rfl rfl (by decide) ?_
      refine wz_iceq (t9 := 73) (p9 := 67) rfl rfl rfl (fun h9 => absurd h9 (q_ne1 (by omega))) (fun _ => ?_)
      refine wz_iload (p9 := 69) rfl rfl rfl ?_
      refine wz_iload_n (p9 := 70) rfl rfl rfl ?_
      refine wn_icle (t9 := 75) (p9 := 73) rfl rfl rfl (by omega) (by omega) (fun _ => ?_) (fun h9 => by omega)
      refine wz_aload_n (p9 := 76) rfl rfl rfl ?_
      refine wz_get (v := .ref 10) (p9 := 79) rfl rfl rfl rfl rfl ?_
      refine wz_c1 (p9 := 82) (w1 := WW (CA.s_qn (CA.s_qu (CA.s_fa A b.2.2) b.2.1) b.1) R o) (u := .int (nI 1)) (wa_v (N := 33) (i := 10) (As := []) (rest := []) rfl rfl rfl rfl rfl rfl rfl) rfl (by have h9 := g_isFull (X := X) (d := 0) (A := (CA.s_qn (CA.s_qu (CA.s_fa A b.2.2) b.2.1) b.1)) (R := R) (o := o) H.V.wc; rw [show (if (CA.wc (CA.s_qn (CA.s_qu (CA.s_fa A b.2.2) b.2.1) b.1)) = 30 then 1 else 0) = 1 from if_pos hfull] at h9; exact h9.up (by omega)) ?_
      refine wn_ifeq (t9 := 89) (p9 := 85) rfl rfl rfl (by omega) (fun h9 => by omega) (fun _ => ?_)
      refine wz_sipush (x := (-200)) (p9 := 88) rfl rfl (by decide) ?_
      exact wz_reti rfl rfl rfl
    · skip
      refine wp_ev (d := d + 9) (by decide) rfl rfl (fun h => by cases h) ?_
      show wp X (d + 9) 144 (0, [.ref 26, .int (nI u), .int (nI e), .int (nI N), .retAddr 0], [], WW (CA.s_qn (CA.s_qu (CA.s_fa A b.2.2) b.2.1) b.1) R o, 0, 0) _
      refine wz_aload_n (p9 := 1) rfl rfl rfl ?_
      refine wz_iconst (x := nI 0) (p9 := 2) rfl rfl (by decide) ?_
      refine wp_Rth (x := 0) (p9 := 5) rfl rfl rfl rfl (R1 := (RA.s_th R 0)) rfl ?_
      refine wz_iload_n (p9 := 6) rfl rfl rfl ?_
      refine wn_iflt (t9 := 31) (p9 := 9) rfl rfl rfl (by omega) (fun h9 => by omega) (fun _ => ?_)
      refine wz_iload_n (p9 := 10) rfl rfl rfl ?_
      refine wz_bipush (x := nI 9) (p9 := 12) rfl rfl (by decide) ?_
      refine wn_icgt (t9 := 31) (p9 := 15) rfl rfl rfl (by omega) (by omega) (fun h9 => by omega) (fun _ => ?_)
      refine wz_aload_n (p9 := 16) rfl rfl rfl ?_
      refine wz_iload_n (p9 := 17) rfl rfl rfl ?_
      refine wz_c1 (p9 := 20) (w1 := WW (CA.s_qn (CA.s_qu (CA.s_fa A b.2.2) b.2.1) b.1) (RA.s_th R 0) o) (u := .int (nI 1)) (wa_v (N := 145) (i := 26) (As := [.int (nI u)]) (rest := []) rfl rfl rfl rfl rfl rfl rfl) rfl (by have h9 := g_mThree1 (X := X) (d := 0) (A := (CA.s_qn (CA.s_qu (CA.s_fa A b.2.2) b.2.1) b.1)) (R := RA.s_th R 0) (o := o) hP7 hu (by show i3 R.P _; rw [H.p]; exact hu3); exact h9.up (by omega)) ?_
      refine wn_ifeq (t9 := 31) (p9 := 23) rfl rfl rfl (by omega) (fun h9 => by omega) (fun _ => ?_)
      refine wz_aload_n (p9 := 24) rfl rfl rfl ?_
      refine wz_iload_n (p9 := 25) rfl rfl rfl ?_
      refine wz_c1 (p9 := 28) (w1 := WW (CA.s_qn (CA.s_qu (CA.s_fa A b.2.2) b.2.1) b.1) (RA.s_th R 0) o) (u := .int (nI 1)) (wa_v (N := 145) (i := 26) (As := [.int (nI e)]) (rest := []) rfl rfl rfl rfl rfl rfl rfl) rfl (by have h9 := g_mThree1 (X := X) (d := 0) (A := (CA.s_qn (CA.s_qu (CA.s_fa A b.2.2) b.2.1) b.1)) (R := RA.s_th R 0) (o := o) hP7 he (by show i3 R.P _; rw [H.p]; exact he3); exact h9.up (by omega)) ?_
      refine wn_ifne (t9 := 34) (p9 := 31) rfl rfl rfl (by omega) (fun _ => ?_) (fun h9 => by omega)
      refine wz_aload_n (p9 := 35) rfl rfl rfl ?_
      refine wz_iload_n (p9 := 36) rfl rfl rfl ?_
      refine wz_iconst (x := nI 0) (p9 := 37) rfl rfl (by decide) ?_
      refine wz_c1 (p9 := 40) (w1 := WW (CA.s_qn (CA.s_qu (CA.s_fa A b.2.2) b.2.1) b.1) (RA.s_th R 0) o) (u := .int (nI (dg u 0))) (tz_calS (N := 146) (As := [.int (nI u), .int (nI 0)]) (rest := [.ref 26]) rfl rfl rfl rfl rfl rfl) rfl ((g_digit (d := 0) (A := (CA.s_qn (CA.s_qu (CA.s_fa A b.2.2) b.2.1) b.1)) (R := (RA.s_th R 0)) (by omega) (by omega)).up (Nat.le_trans (m := 9) (by decide) (Nat.le_add_left 9 d))) ?_
      refine wz_c1 (p9 := 43) (w1 := WW (CA.s_qn (CA.s_qu (CA.s_fa A b.2.2) b.2.1) b.1) (RA.s_th R 0) o) (u := .int (nI (dg (pP u A.st A.P) 0))) (wa_v (N := 147) (i := 26) (As := [.int (nI (dg u 0))]) (rest := []) rfl rfl rfl rfl rfl rfl rfl) rfl ((hpo 0 (by decide) (CA.s_qn (CA.s_qu (CA.s_fa A b.2.2) b.2.1) b.1)).up (by omega)) ?_
      refine wz_bipush (x := nI 7) (p9 := 45) rfl rfl (by decide) ?_
      refine wz_aload_n (p9 := 46) rfl rfl rfl ?_
      refine wz_iload_n (p9 := 47) rfl rfl rfl ?_
      refine wz_iconst (x := nI 1) (p9 := 48) rfl rfl (by decide) ?_
      refine wz_c1 (p9 := 51) (w1 := WW (CA.s_qn (CA.s_qu (CA.s_fa A b.2.2) b.2.1) b.1) (RA.s_th R 0) o) (u := .int (nI (dg u 1))) (tz_calS (N := 146) (As := [.int (nI u), .int (nI 1)]) (rest := [.ref 26, .int (nI 7), .int (nI (dg (pP u A.st A.P) 0))]) rfl rfl rfl rfl rfl rfl) rfl ((g_digit (d := 0) (A := (CA.s_qn (CA.s_qu (CA.s_fa A b.2.2) b.2.1) b.1)) (R := (RA.s_th R 0)) (by omega) (by omega)).up (Nat.le_trans (m := 9) (by decide) (Nat.le_add_left 9 d))) ?_
      refine wz_c1 (p9 := 54) (w1 := WW (CA.s_qn (CA.s_qu (CA.s_fa A b.2.2) b.2.1) b.1) (RA.s_th R 0) o) (u := .int (nI (dg (pP u A.st A.P) 1))) (wa_v (N := 147) (i := 26) (As := [.int (nI (dg u 1))]) (rest := [.int (nI 7), .int (nI (dg (pP u A.st A.P) 0))]) rfl rfl rfl rfl rfl rfl rfl) rfl ((hpo 1 (by decide) (CA.s_qn (CA.s_qu (CA.s_fa A b.2.2) b.2.1) b.1)).up (by omega)) ?_
      refine wn_mul (p9 := 55) rfl rfl ?_
      refine wn_add (p9 := 56) rfl rfl ?_
      refine wz_bipush (x := nI 49) (p9 := 58) rfl rfl (by decide) ?_
      refine wz_aload_n (p9 := 59) rfl rfl rfl ?_
      refine wz_iload_n (p9 := 60) rfl rfl rfl ?_
      refine wz_iconst (x := nI 2) (p9 := 61) rfl rfl (by decide) ?_
      refine wz_c1 (p9 := 64) (w1 := WW (CA.s_qn (CA.s_qu (CA.s_fa A b.2.2) b.2.1) b.1) (RA.s_th R 0) o) (u := .int (nI (dg u 2))) (tz_calS (N := 146) (As := [.int (nI u), .int (nI 2)]) (rest := [.ref 26, .int (nI 49), .int (nI ((dg (pP u A.st A.P) 0) + (7 * (dg (pP u A.st A.P) 1))))]) rfl rfl rfl rfl rfl rfl) rfl ((g_digit (d := 0) (A := (CA.s_qn (CA.s_qu (CA.s_fa A b.2.2) b.2.1) b.1)) (R := (RA.s_th R 0)) (by omega) (by omega)).up (Nat.le_trans (m := 9) (by decide) (Nat.le_add_left 9 d))) ?_
      refine wz_c1 (p9 := 67) (w1 := WW (CA.s_qn (CA.s_qu (CA.s_fa A b.2.2) b.2.1) b.1) (RA.s_th R 0) o) (u := .int (nI (dg (pP u A.st A.P) 2))) (wa_v (N := 147) (i := 26) (As := [.int (nI (dg u 2))]) (rest := [.int (nI 49), .int (nI ((dg (pP u A.st A.P) 0) + (7 * (dg (pP u A.st A.P) 1))))]) rfl rfl rfl rfl rfl rfl rfl) rfl ((hpo 2 (by decide) (CA.s_qn (CA.s_qu (CA.s_fa A b.2.2) b.2.1) b.1)).up (by omega)) ?_
      refine wn_mul (p9 := 68) rfl rfl ?_
      refine wn_add (p9 := 69) rfl rfl ?_
      refine wz_istore (l9 := [.ref 26, .int (nI u), .int (nI e), .int (nI N), .int (nI (((dg (pP u A.st A.P) 0) + (7 * (dg (pP u A.st A.P) 1))) + (49 * (dg (pP u A.st A.P) 2))))]) (p9 := 71) rfl rfl rfl rfl ?_
      refine wz_aload_n (p9 := 72) rfl rfl rfl ?_
      refine wz_iload_n (p9 := 73) rfl rfl rfl ?_
      refine wz_iconst (x := nI 0) (p9 := 74) rfl rfl (by decide) ?_
      refine wz_c1 (p9 := 77) (w1 := WW (CA.s_qn (CA.s_qu (CA.s_fa A b.2.2) b.2.1) b.1) (RA.s_th R 0) o) (u := .int (nI (dg e 0))) (tz_calS (N := 146) (As := [.int (nI e), .int (nI 0)]) (rest := [.ref 26]) rfl rfl rfl rfl rfl rfl) rfl ((g_digit (d := 0) (A := (CA.s_qn (CA.s_qu (CA.s_fa A b.2.2) b.2.1) b.1)) (R := (RA.s_th R 0)) (by omega) (by omega)).up (Nat.le_trans (m := 9) (by decide) (Nat.le_add_left 9 d))) ?_
      refine wz_bipush (x := nI 7) (p9 := 79) rfl rfl (by decide) ?_
      refine wz_iload_n (p9 := 80) rfl rfl rfl ?_
      refine wz_iconst (x := nI 1) (p9 := 81) rfl rfl (by decide) ?_
      refine wz_c1 (p9 := 84) (w1 := WW (CA.s_qn (CA.s_qu (CA.s_fa A b.2.2) b.2.1) b.1) (RA.s_th R 0) o) (u := .int (nI (dg e 1))) (tz_calS (N := 146) (As := [.int (nI e), .int (nI 1)]) (rest := [.int (nI 7), .int (nI (dg e 0)), .ref 26]) rfl rfl rfl rfl rfl rfl) rfl ((g_digit (d := 0) (A := (CA.s_qn (CA.s_qu (CA.s_fa A b.2.2) b.2.1) b.1)) (R := (RA.s_th R 0)) (by omega) (by omega)).up (Nat.le_trans (m := 9) (by decide) (Nat.le_add_left 9 d))) ?_
      refine wn_mul (p9 := 85) rfl rfl ?_
      refine wn_add (p9 := 86) rfl rfl ?_
      refine wz_bipush (x := nI 49) (p9 := 88) rfl rfl (by decide) ?_
      refine wz_iload_n (p9 := 89) rfl rfl rfl ?_
      refine wz_iconst (x := nI 2) (p9 := 90) rfl rfl (by decide) ?_
      refine wz_c1 (p9 := 93) (w1 := WW (CA.s_qn (CA.s_qu (CA.s_fa A b.2.2) b.2.1) b.1) (RA.s_th R 0) o) (u := .int (nI (dg e 2))) (tz_calS (N := 146) (As := [.int (nI e), .int (nI 2)]) (rest := [.int (nI 49), .int (nI ((dg e 0) + (7 * (dg e 1)))), .ref 26]) rfl rfl rfl rfl rfl rfl) rfl ((g_digit (d := 0) (A := (CA.s_qn (CA.s_qu (CA.s_fa A b.2.2) b.2.1) b.1)) (R := (RA.s_th R 0)) (by omega) (by omega)).up (Nat.le_trans (m := 9) (by decide) (Nat.le_add_left 9 d))) ?_
      refine wn_mul (p9 := 94) rfl rfl ?_
      refine wn_add (p9 := 95) rfl rfl ?_
      refine wz_iload_n (p9 := 96) rfl rfl rfl ?_
      refine wz_c0 (p9 := 99) (w1 := WW (CA.s_qn (CA.s_qu (CA.s_fa A b.2.2) b.2.1) b.1) (RA.s_th (RA.s_fa R f) 0) o) (wa_v (N := 148) (i := 26) (As := [.int (nI (kp e)), .int (nI N)]) (rest := []) rfl rfl rfl rfl rfl rfl rfl) rfl (hme.up (by omega)) ?_
      refine wz_aload_n (p9 := 100) rfl rfl rfl ?_
      refine wz_get (v := .ref 44) (p9 := 103) rfl rfl rfl rfl rfl ?_
      refine wz_iload (p9 := 105) rfl rfl rfl ?_
      refine wl_Rfa (f := f) (p9 := 106) rfl rfl rfl hkx3 ?_
      refine wz_bipush (x := nI 99) (p9 := 108) rfl rfl (by decide) ?_
      refine wn_icne (t9 := 113) (p9 := 111) rfl rfl rfl (by omega) (by omega) (fun _ => ?_) (fun h9 => by omega)
      refine wz_aload_n (p9 := 114) rfl rfl rfl ?_
      refine wz_get (v := .int (nI R.wc)) (p9 := 117) rfl rfl rfl rfl rfl ?_
      refine wz_bipush (x := nI 30) (p9 := 119) rfl rfl (by decide) ?_
      refine wn_icne (t9 := 126) (p9 := 122) rfl rfl rfl (by omega) (by omega) (fun h9 => by omega) (fun _ => ?_)
      refine wz_sipush (x := (-200)) (p9 := 125) rfl rfl (by decide) ?_
      exact wz_reti rfl rfl rfl
  have e3 := H.wc
  have hw30 : A.wc < 30 := by omega
  have hrow : ∀ k, k < L → (fp (fun m x => t3 (fun q => A.t (m * 7 + q)) x 3) A.od b.2.2 A.Mv L 0 (pP u A.st A.P) A.pa) k < 96 := fun k hk => fp_lt m6 (fun m hm => (H.T.ho m hm).2.1) L 0 _ _ k (by omega) (fun q => absurd q (by omega))
  have hWV := WV_add (f := (fp (fun m x => t3 (fun q => A.t (m * 7 + q)) x 3) A.od b.2.2 A.Mv L 0 (pP u A.st A.P) A.pa)) H.T H.V H.wi hw30 (show L ≤ 40 by omega) hrow
  rw [hbL] at hrb
  obtain ⟨f, hfr, hfb, hme⟩ := hms (CA.s_wg (CA.s_rr (CA.s_rl (CA.s_wc (CA.s_pa (CA.s_qn (CA.s_qu (CA.s_fa A b.2.2) b.2.1) b.1) (fp (fun m x => t3 (fun q => A.t (m * 7 + q)) x 3) A.od b.2.2 A.Mv L 0 (pP u A.st A.P) A.pa)) (A.wc + 1)) (un A.rl A.wc L)) (cpn (fp (fun m x => t3 (fun q => A.t (m * 7 + q)) x 3) A.od b.2.2 A.Mv L 0 (pP u A.st A.P) A.pa) A.rr (A.wc * 40) L)) (wgs (im A.t (fun k => (cpn (fp (fun m x => t3 (fun q => A.t (m * 7 + q)) x 3) A.od b.2.2 A.Mv L 0 (pP u A.st A.P) A.pa) A.rr (A.wc * 40) L) (A.wc * 40 + k)) ((un A.rl A.wc L) A.wc)) A.wc A.P A.wg))
  have hfa : ∀ x r, x < 512 → o3 A.P x → r ≤ N → (f (kp x) = r ↔ ds (wk (fun m x => t3 (fun q => A.t (m * 7 + q)) x 3) A.od A.Mv e) r x) := fun x r h1 h2 h3 => by
    rw [ds_wc H.T he ho3 h1 h2]
    have h9 := (hfr (kp x) (by rw [H.p]; exact kp_ok p7 h2)).2 r h3
    rw [H.t, H.m] at h9
    exact h9
  have hfb9 := hfb (kp (pP u A.st A.P)) hkx3
  have hkpe : f (dg (pP u A.st A.P) 0 + 7 * dg (pP u A.st A.P) 1 + 49 * dg (pP u A.st A.P) 2) = f (kp (pP u A.st A.P)) := rfl
  have hfL := (hfa _ L hx5 hx3 hLN).mpr hds
  have hmod : ∃ cm1, (∀ q, q < 0 + L → cm1 q = (fp (fun m x => t3 (fun q => A.t (m * 7 + q)) x 3) A.od b.2.2 A.Mv L 0 (pP u A.st A.P) A.pa) q) ∧ px_ev X (d + 10) 144 [.ref 26, .int (nI u), .int (nI e), .int (nI N)] (WW (CA.s_wg (CA.s_rr (CA.s_rl (CA.s_wc (CA.s_pa (CA.s_qn (CA.s_qu (CA.s_fa A b.2.2) b.2.1) b.1) (fp (fun m x => t3 (fun q => A.t (m * 7 + q)) x 3) A.od b.2.2 A.Mv L 0 (pP u A.st A.P) A.pa)) (A.wc + 1)) (un A.rl A.wc L)) (cpn (fp (fun m x => t3 (fun q => A.t (m * 7 + q)) x 3) A.od b.2.2 A.Mv L 0 (pP u A.st A.P) A.pa) A.rr (A.wc * 40) L)) (wgs (im A.t (fun k => (cpn (fp (fun m x => t3 (fun q => A.t (m * 7 + q)) x 3) A.od b.2.2 A.Mv L 0 (pP u A.st A.P) A.pa) A.rr (A.wc * 40) L) (A.wc * 40 + k)) ((un A.rl A.wc L) A.wc)) A.wc A.P A.wg)) R o) (some (some (.int (nI A.wc))), WW (CA.s_wg (CA.s_rr (CA.s_rl (CA.s_wc (CA.s_pa (CA.s_qn (CA.s_qu (CA.s_fa A b.2.2) b.2.1) b.1) (fp (fun m x => t3 (fun q => A.t (m * 7 + q)) x 3) A.od b.2.2 A.Mv L 0 (pP u A.st A.P) A.pa)) (A.wc + 1)) (un A.rl A.wc L)) (cpn (fp (fun m x => t3 (fun q => A.t (m * 7 + q)) x 3) A.od b.2.2 A.Mv L 0 (pP u A.st A.P) A.pa) A.rr (A.wc * 40) L)) (wgs (im A.t (fun k => (cpn (fp (fun m x => t3 (fun q => A.t (m * 7 + q)) x 3) A.od b.2.2 A.Mv L 0 (pP u A.st A.P) A.pa) A.rr (A.wc * 40) L) (A.wc * 40 + k)) ((un A.rl A.wc L) A.wc)) A.wc A.P A.wg)) (RA.s_rr (RA.s_ln (RA.s_wc (RA.s_th (RA.s_fa (RA.s_mn (RA.s_cm R cm1) (0 + L)) f) 0) (R.wc + 1)) (un R.ln R.wc (0 + L))) (cpn cm1 R.rr (R.wc * 40) (0 + L))) o, 0, 0) := by
    have h0 : wp X (d + 9) 144 (0, [.ref 26, .int (nI u), .int (nI e), .int (nI N), .retAddr 0], [], WW (CA.s_wg (CA.s_rr (CA.s_rl (CA.s_wc (CA.s_pa (CA.s_qn (CA.s_qu (CA.s_fa A b.2.2) b.2.1) b.1) (fp (fun m x => t3 (fun q => A.t (m * 7 + q)) x 3) A.od b.2.2 A.Mv L 0 (pP u A.st A.P) A.pa)) (A.wc + 1)) (un A.rl A.wc L)) (cpn (fp (fun m x => t3 (fun q => A.t (m * 7 + q)) x 3) A.od b.2.2 A.Mv L 0 (pP u A.st A.P) A.pa) A.rr (A.wc * 40) L)) (wgs (im A.t (fun k => (cpn (fp (fun m x => t3 (fun q => A.t (m * 7 + q)) x 3) A.od b.2.2 A.Mv L 0 (pP u A.st A.P) A.pa) A.rr (A.wc * 40) L) (A.wc * 40 + k)) ((un A.rl A.wc L) A.wc)) A.wc A.P A.wg)) R o, 0, 0) (fun q => ∃ cm1, (∀ q, q < 0 + L → cm1 q = (fp (fun m x => t3 (fun q => A.t (m * 7 + q)) x 3) A.od b.2.2 A.Mv L 0 (pP u A.st A.P) A.pa) q) ∧ q = (some (some (.int (nI A.wc))), WW (CA.s_wg (CA.s_rr (CA.s_rl (CA.s_wc (CA.s_pa (CA.s_qn (CA.s_qu (CA.s_fa A b.2.2) b.2.1) b.1) (fp (fun m x => t3 (fun q => A.t (m * 7 + q)) x 3) A.od b.2.2 A.Mv L 0 (pP u A.st A.P) A.pa)) (A.wc + 1)) (un A.rl A.wc L)) (cpn (fp (fun m x => t3 (fun q => A.t (m * 7 + q)) x 3) A.od b.2.2 A.Mv L 0 (pP u A.st A.P) A.pa) A.rr (A.wc * 40) L)) (wgs (im A.t (fun k => (cpn (fp (fun m x => t3 (fun q => A.t (m * 7 + q)) x 3) A.od b.2.2 A.Mv L 0 (pP u A.st A.P) A.pa) A.rr (A.wc * 40) L) (A.wc * 40 + k)) ((un A.rl A.wc L) A.wc)) A.wc A.P A.wg)) (RA.s_rr (RA.s_ln (RA.s_wc (RA.s_th (RA.s_fa (RA.s_mn (RA.s_cm R cm1) (0 + L)) f) 0) (R.wc + 1)) (un R.ln R.wc (0 + L))) (cpn cm1 R.rr (R.wc * 40) (0 + L))) o, 0, 0)) := by
      refine wz_aload_n (p9 := 1) rfl rfl rfl ?_
      refine wz_iconst (x := nI 0) (p9 := 2) rfl rfl (by decide) ?_
      refine wp_Rth (x := 0) (p9 := 5) rfl rfl rfl rfl (R1 := (RA.s_th R 0)) rfl ?_
      refine wz_iload_n (p9 := 6) rfl rfl rfl ?_
      refine wn_iflt (t9 := 31) (p9 := 9) rfl rfl rfl (by omega) (fun h9 => by omega) (fun _ => ?_)
      refine wz_iload_n (p9 := 10) rfl rfl rfl ?_
      refine wz_bipush (x := nI 9) (p9 := 12) rfl rfl (by decide) ?_
      refine wn_icgt (t9 := 31) (p9 := 15) rfl rfl rfl (by omega) (by omega) (fun h9 => by omega) (fun _ => ?_)
      refine wz_aload_n (p9 := 16) rfl rfl rfl ?_
      refine wz_iload_n (p9 := 17) rfl rfl rfl ?_
      refine wz_c1 (p9 := 20) (w1 := WW (CA.s_wg (CA.s_rr (CA.s_rl (CA.s_wc (CA.s_pa (CA.s_qn (CA.s_qu (CA.s_fa A b.2.2) b.2.1) b.1) (fp (fun m x => t3 (fun q => A.t (m * 7 + q)) x 3) A.od b.2.2 A.Mv L 0 (pP u A.st A.P) A.pa)) (A.wc + 1)) (un A.rl A.wc L)) (cpn (fp (fun m x => t3 (fun q => A.t (m * 7 + q)) x 3) A.od b.2.2 A.Mv L 0 (pP u A.st A.P) A.pa) A.rr (A.wc * 40) L)) (wgs (im A.t (fun k => (cpn (fp (fun m x => t3 (fun q => A.t (m * 7 + q)) x 3) A.od b.2.2 A.Mv L 0 (pP u A.st A.P) A.pa) A.rr (A.wc * 40) L) (A.wc * 40 + k)) ((un A.rl A.wc L) A.wc)) A.wc A.P A.wg)) (RA.s_th R 0) o) (u := .int (nI 1)) (wa_v (N := 145) (i := 26) (As := [.int (nI u)]) (rest := []) rfl rfl rfl rfl rfl rfl rfl) rfl (by have h9 := g_mThree1 (X := X) (d := 0) (A := (CA.s_wg (CA.s_rr (CA.s_rl (CA.s_wc (CA.s_pa (CA.s_qn (CA.s_qu (CA.s_fa A b.2.2) b.2.1) b.1) (fp (fun m x => t3 (fun q => A.t (m * 7 + q)) x 3) A.od b.2.2 A.Mv L 0 (pP u A.st A.P) A.pa)) (A.wc + 1)) (un A.rl A.wc L)) (cpn (fp (fun m x => t3 (fun q => A.t (m * 7 + q)) x 3) A.od b.2.2 A.Mv L 0 (pP u A.st A.P) A.pa) A.rr (A.wc * 40) L)) (wgs (im A.t (fun k => (cpn (fp (fun m x => t3 (fun q => A.t (m * 7 + q)) x 3) A.od b.2.2 A.Mv L 0 (pP u A.st A.P) A.pa) A.rr (A.wc * 40) L) (A.wc * 40 + k)) ((un A.rl A.wc L) A.wc)) A.wc A.P A.wg))) (R := RA.s_th R 0) (o := o) hP7 hu (by show i3 R.P _; rw [H.p]; exact hu3); exact h9.up (by omega)) ?_
      refine wn_ifeq (t9 := 31) (p9 := 23) rfl rfl rfl (by omega) (fun h9 => by omega) (fun _ => ?_)
      refine wz_aload_n (p9 := 24) rfl rfl rfl ?_
      refine wz_iload_n (p9 := 25) rfl rfl rfl ?_
      refine wz_c1 (p9 := 28) (w1 := WW (CA.s_wg (CA.s_rr (CA.s_rl (CA.s_wc (CA.s_pa (CA.s_qn (CA.s_qu (CA.s_fa A b.2.2) b.2.1) b.1) (fp (fun m x => t3 (fun q => A.t (m * 7 + q)) x 3) A.od b.2.2 A.Mv L 0 (pP u A.st A.P) A.pa)) (A.wc + 1)) (un A.rl A.wc L)) (cpn (fp (fun m x => t3 (fun q => A.t (m * 7 + q)) x 3) A.od b.2.2 A.Mv L 0 (pP u A.st A.P) A.pa) A.rr (A.wc * 40) L)) (wgs (im A.t (fun k => (cpn (fp (fun m x => t3 (fun q => A.t (m * 7 + q)) x 3) A.od b.2.2 A.Mv L 0 (pP u A.st A.P) A.pa) A.rr (A.wc * 40) L) (A.wc * 40 + k)) ((un A.rl A.wc L) A.wc)) A.wc A.P A.wg)) (RA.s_th R 0) o) (u := .int (nI 1)) (wa_v (N := 145) (i := 26) (As := [.int (nI e)]) (rest := []) rfl rfl rfl rfl rfl rfl rfl) rfl (by have h9 := g_mThree1 (X := X) (d := 0) (A := (CA.s_wg (CA.s_rr (CA.s_rl (CA.s_wc (CA.s_pa (CA.s_qn (CA.s_qu (CA.s_fa A b.2.2) b.2.1) b.1) (fp (fun m x => t3 (fun q => A.t (m * 7 + q)) x 3) A.od b.2.2 A.Mv L 0 (pP u A.st A.P) A.pa)) (A.wc + 1)) (un A.rl A.wc L)) (cpn (fp (fun m x => t3 (fun q => A.t (m * 7 + q)) x 3) A.od b.2.2 A.Mv L 0 (pP u A.st A.P) A.pa) A.rr (A.wc * 40) L)) (wgs (im A.t (fun k => (cpn (fp (fun m x => t3 (fun q => A.t (m * 7 + q)) x 3) A.od b.2.2 A.Mv L 0 (pP u A.st A.P) A.pa) A.rr (A.wc * 40) L) (A.wc * 40 + k)) ((un A.rl A.wc L) A.wc)) A.wc A.P A.wg))) (R := RA.s_th R 0) (o := o) hP7 he (by show i3 R.P _; rw [H.p]; exact he3); exact h9.up (by omega)) ?_
      refine wn_ifne (t9 := 34) (p9 := 31) rfl rfl rfl (by omega) (fun _ => ?_) (fun h9 => by omega)
      refine wz_aload_n (p9 := 35) rfl rfl rfl ?_
      refine wz_iload_n (p9 := 36) rfl rfl rfl ?_
      refine wz_iconst (x := nI 0) (p9 := 37) rfl rfl (by decide) ?_
      refine wz_c1 (p9 := 40) (w1 := WW (CA.s_wg (CA.s_rr (CA.s_rl (CA.s_wc (CA.s_pa (CA.s_qn (CA.s_qu (CA.s_fa A b.2.2) b.2.1) b.1) (fp (fun m x => t3 (fun q => A.t (m * 7 + q)) x 3) A.od b.2.2 A.Mv L 0 (pP u A.st A.P) A.pa)) (A.wc + 1)) (un A.rl A.wc L)) (cpn (fp (fun m x => t3 (fun q => A.t (m * 7 + q)) x 3) A.od b.2.2 A.Mv L 0 (pP u A.st A.P) A.pa) A.rr (A.wc * 40) L)) (wgs (im A.t (fun k => (cpn (fp (fun m x => t3 (fun q => A.t (m * 7 + q)) x 3) A.od b.2.2 A.Mv L 0 (pP u A.st A.P) A.pa) A.rr (A.wc * 40) L) (A.wc * 40 + k)) ((un A.rl A.wc L) A.wc)) A.wc A.P A.wg)) (RA.s_th R 0) o) (u := .int (nI (dg u 0))) (tz_calS (N := 146) (As := [.int (nI u), .int (nI 0)]) (rest := [.ref 26]) rfl rfl rfl rfl rfl rfl) rfl ((g_digit (d := 0) (A := (CA.s_wg (CA.s_rr (CA.s_rl (CA.s_wc (CA.s_pa (CA.s_qn (CA.s_qu (CA.s_fa A b.2.2) b.2.1) b.1) (fp (fun m x => t3 (fun q => A.t (m * 7 + q)) x 3) A.od b.2.2 A.Mv L 0 (pP u A.st A.P) A.pa)) (A.wc + 1)) (un A.rl A.wc L)) (cpn (fp (fun m x => t3 (fun q => A.t (m * 7 + q)) x 3) A.od b.2.2 A.Mv L 0 (pP u A.st A.P) A.pa) A.rr (A.wc * 40) L)) (wgs (im A.t (fun k => (cpn (fp (fun m x => t3 (fun q => A.t (m * 7 + q)) x 3) A.od b.2.2 A.Mv L 0 (pP u A.st A.P) A.pa) A.rr (A.wc * 40) L) (A.wc * 40 + k)) ((un A.rl A.wc L) A.wc)) A.wc A.P A.wg))) (R := (RA.s_th R 0)) (by omega) (by omega)).up (Nat.le_trans (m := 9) (by decide) (Nat.le_add_left 9 d))) ?_
      refine wz_c1 (p9 := 43) (w1 := WW (CA.s_wg (CA.s_rr (CA.s_rl (CA.s_wc (CA.s_pa (CA.s_qn (CA.s_qu (CA.s_fa A b.2.2) b.2.1) b.1) (fp (fun m x => t3 (fun q => A.t (m * 7 + q)) x 3) A.od b.2.2 A.Mv L 0 (pP u A.st A.P) A.pa)) (A.wc + 1)) (un A.rl A.wc L)) (cpn (fp (fun m x => t3 (fun q => A.t (m * 7 + q)) x 3) A.od b.2.2 A.Mv L 0 (pP u A.st A.P) A.pa) A.rr (A.wc * 40) L)) (wgs (im A.t (fun k => (cpn (fp (fun m x => t3 (fun q => A.t (m * 7 + q)) x 3) A.od b.2.2 A.Mv L 0 (pP u A.st A.P) A.pa) A.rr (A.wc * 40) L) (A.wc * 40 + k)) ((un A.rl A.wc L) A.wc)) A.wc A.P A.wg)) (RA.s_th R 0) o) (u := .int (nI (dg (pP u A.st A.P) 0))) (wa_v (N := 147) (i := 26) (As := [.int (nI (dg u 0))]) (rest := []) rfl rfl rfl rfl rfl rfl rfl) rfl ((hpo 0 (by decide) (CA.s_wg (CA.s_rr (CA.s_rl (CA.s_wc (CA.s_pa (CA.s_qn (CA.s_qu (CA.s_fa A b.2.2) b.2.1) b.1) (fp (fun m x => t3 (fun q => A.t (m * 7 + q)) x 3) A.od b.2.2 A.Mv L 0 (pP u A.st A.P) A.pa)) (A.wc + 1)) (un A.rl A.wc L)) (cpn (fp (fun m x => t3 (fun q => A.t (m * 7 + q)) x 3) A.od b.2.2 A.Mv L 0 (pP u A.st A.P) A.pa) A.rr (A.wc * 40) L)) (wgs (im A.t (fun k => (cpn (fp (fun m x => t3 (fun q => A.t (m * 7 + q)) x 3) A.od b.2.2 A.Mv L 0 (pP u A.st A.P) A.pa) A.rr (A.wc * 40) L) (A.wc * 40 + k)) ((un A.rl A.wc L) A.wc)) A.wc A.P A.wg))).up (by omega)) ?_
      refine wz_bipush (x := nI 7) (p9 := 45) rfl rfl (by decide) ?_
      refine wz_aload_n (p9 := 46) rfl rfl rfl ?_
      refine wz_iload_n (p9 := 47) rfl rfl rfl ?_
      refine wz_iconst (x := nI 1) (p9 := 48) rfl rfl (by decide) ?_
      refine wz_c1 (p9 := 51) (w1 := WW (CA.s_wg (CA.s_rr (CA.s_rl (CA.s_wc (CA.s_pa (CA.s_qn (CA.s_qu (CA.s_fa A b.2.2) b.2.1) b.1) (fp (fun m x => t3 (fun q => A.t (m * 7 + q)) x 3) A.od b.2.2 A.Mv L 0 (pP u A.st A.P) A.pa)) (A.wc + 1)) (un A.rl A.wc L)) (cpn (fp (fun m x => t3 (fun q => A.t (m * 7 + q)) x 3) A.od b.2.2 A.Mv L 0 (pP u A.st A.P) A.pa) A.rr (A.wc * 40) L)) (wgs (im A.t (fun k => (cpn (fp (fun m x => t3 (fun q => A.t (m * 7 + q)) x 3) A.od b.2.2 A.Mv L 0 (pP u A.st A.P) A.pa) A.rr (A.wc * 40) L) (A.wc * 40 + k)) ((un A.rl A.wc L) A.wc)) A.wc A.P A.wg)) (RA.s_th R 0) o) (u := .int (nI (dg u 1))) (tz_calS (N := 146) (As := [.int (nI u), .int (nI 1)]) (rest := [.ref 26, .int (nI 7), .int (nI (dg (pP u A.st A.P) 0))]) rfl rfl rfl rfl rfl rfl) rfl ((g_digit (d := 0) (A := (CA.s_wg (CA.s_rr (CA.s_rl (CA.s_wc (CA.s_pa (CA.s_qn (CA.s_qu (CA.s_fa A b.2.2) b.2.1) b.1) (fp (fun m x => t3 (fun q => A.t (m * 7 + q)) x 3) A.od b.2.2 A.Mv L 0 (pP u A.st A.P) A.pa)) (A.wc + 1)) (un A.rl A.wc L)) (cpn (fp (fun m x => t3 (fun q => A.t (m * 7 + q)) x 3) A.od b.2.2 A.Mv L 0 (pP u A.st A.P) A.pa) A.rr (A.wc * 40) L)) (wgs (im A.t (fun k => (cpn (fp (fun m x => t3 (fun q => A.t (m * 7 + q)) x 3) A.od b.2.2 A.Mv L 0 (pP u A.st A.P) A.pa) A.rr (A.wc * 40) L) (A.wc * 40 + k)) ((un A.rl A.wc L) A.wc)) A.wc A.P A.wg))) (R := (RA.s_th R 0)) (by omega) (by omega)).up (Nat.le_trans (m := 9) (by decide) (Nat.le_add_left 9 d))) ?_
      refine wz_c1 (p9 := 54) (w1 := WW (CA.s_wg (CA.s_rr (CA.s_rl (CA.s_wc (CA.s_pa (CA.s_qn (CA.s_qu (CA.s_fa A b.2.2) b.2.1) b.1) (fp (fun m x => t3 (fun q => A.t (m * 7 + q)) x 3) A.od b.2.2 A.Mv L 0 (pP u A.st A.P) A.pa)) (A.wc + 1)) (un A.rl A.wc L)) (cpn (fp (fun m x => t3 (fun q => A.t (m * 7 + q)) x 3) A.od b.2.2 A.Mv L 0 (pP u A.st A.P) A.pa) A.rr (A.wc * 40) L)) (wgs (im A.t (fun k => (cpn (fp (fun m x => t3 (fun q => A.t (m * 7 + q)) x 3) A.od b.2.2 A.Mv L 0 (pP u A.st A.P) A.pa) A.rr (A.wc * 40) L) (A.wc * 40 + k)) ((un A.rl A.wc L) A.wc)) A.wc A.P A.wg)) (RA.s_th R 0) o) (u := .int (nI (dg (pP u A.st A.P) 1))) (wa_v (N := 147) (i := 26) (As := [.int (nI (dg u 1))]) (rest := [.int (nI 7), .int (nI (dg (pP u A.st A.P) 0))]) rfl rfl rfl rfl rfl rfl rfl) rfl ((hpo 1 (by decide) (CA.s_wg (CA.s_rr (CA.s_rl (CA.s_wc (CA.s_pa (CA.s_qn (CA.s_qu (CA.s_fa A b.2.2) b.2.1) b.1) (fp (fun m x => t3 (fun q => A.t (m * 7 + q)) x 3) A.od b.2.2 A.Mv L 0 (pP u A.st A.P) A.pa)) (A.wc + 1)) (un A.rl A.wc L)) (cpn (fp (fun m x => t3 (fun q => A.t (m * 7 + q)) x 3) A.od b.2.2 A.Mv L 0 (pP u A.st A.P) A.pa) A.rr (A.wc * 40) L)) (wgs (im A.t (fun k => (cpn (fp (fun m x => t3 (fun q => A.t (m * 7 + q)) x 3) A.od b.2.2 A.Mv L 0 (pP u A.st A.P) A.pa) A.rr (A.wc * 40) L) (A.wc * 40 + k)) ((un A.rl A.wc L) A.wc)) A.wc A.P A.wg))).up (by omega)) ?_
      refine wn_mul (p9 := 55) rfl rfl ?_
      refine wn_add (p9 := 56) rfl rfl ?_
      refine wz_bipush (x := nI 49) (p9 := 58) rfl rfl (by decide) ?_
      refine wz_aload_n (p9 := 59) rfl rfl rfl ?_
      refine wz_iload_n (p9 := 60) rfl rfl rfl ?_
      refine wz_iconst (x := nI 2) (p9 := 61) rfl rfl (by decide) ?_
      refine wz_c1 (p9 := 64) (w1 := WW (CA.s_wg (CA.s_rr (CA.s_rl (CA.s_wc (CA.s_pa (CA.s_qn (CA.s_qu (CA.s_fa A b.2.2) b.2.1) b.1) (fp (fun m x => t3 (fun q => A.t (m * 7 + q)) x 3) A.od b.2.2 A.Mv L 0 (pP u A.st A.P) A.pa)) (A.wc + 1)) (un A.rl A.wc L)) (cpn (fp (fun m x => t3 (fun q => A.t (m * 7 + q)) x 3) A.od b.2.2 A.Mv L 0 (pP u A.st A.P) A.pa) A.rr (A.wc * 40) L)) (wgs (im A.t (fun k => (cpn (fp (fun m x => t3 (fun q => A.t (m * 7 + q)) x 3) A.od b.2.2 A.Mv L 0 (pP u A.st A.P) A.pa) A.rr (A.wc * 40) L) (A.wc * 40 + k)) ((un A.rl A.wc L) A.wc)) A.wc A.P A.wg)) (RA.s_th R 0) o) (u := .int (nI (dg u 2))) (tz_calS (N := 146) (As := [.int (nI u), .int (nI 2)]) (rest := [.ref 26, .int (nI 49), .int (nI ((dg (pP u A.st A.P) 0) + (7 * (dg (pP u A.st A.P) 1))))]) rfl rfl rfl rfl rfl rfl) rfl ((g_digit (d := 0) (A := (CA.s_wg (CA.s_rr (CA.s_rl (CA.s_wc (CA.s_pa (CA.s_qn (CA.s_qu (CA.s_fa A b.2.2) b.2.1) b.1) (fp (fun m x => t3 (fun q => A.t (m * 7 + q)) x 3) A.od b.2.2 A.Mv L 0 (pP u A.st A.P) A.pa)) (A.wc + 1)) (un A.rl A.wc L)) (cpn (fp (fun m x => t3 (fun q => A.t (m * 7 + q)) x 3) A.od b.2.2 A.Mv L 0 (pP u A.st A.P) A.pa) A.rr (A.wc * 40) L)) (wgs (im A.t (fun k => (cpn (fp (fun m x => t3 (fun q => A.t (m * 7 + q)) x 3) A.od b.2.2 A.Mv L 0 (pP u A.st A.P) A.pa) A.rr (A.wc * 40) L) (A.wc * 40 + k)) ((un A.rl A.wc L) A.wc)) A.wc A.P A.wg))) (R := (RA.s_th R 0)) (by omega) (by omega)).up (Nat.le_trans (m := 9) (by decide) (Nat.le_add_left 9 d))) ?_
      refine wz_c1 (p9 := 67) (w1 := WW (CA.s_wg (CA.s_rr (CA.s_rl (CA.s_wc (CA.s_pa (CA.s_qn (CA.s_qu (CA.s_fa A b.2.2) b.2.1) b.1) (fp (fun m x => t3 (fun q => A.t (m * 7 + q)) x 3) A.od b.2.2 A.Mv L 0 (pP u A.st A.P) A.pa)) (A.wc + 1)) (un A.rl A.wc L)) (cpn (fp (fun m x => t3 (fun q => A.t (m * 7 + q)) x 3) A.od b.2.2 A.Mv L 0 (pP u A.st A.P) A.pa) A.rr (A.wc * 40) L)) (wgs (im A.t (fun k => (cpn (fp (fun m x => t3 (fun q => A.t (m * 7 + q)) x 3) A.od b.2.2 A.Mv L 0 (pP u A.st A.P) A.pa) A.rr (A.wc * 40) L) (A.wc * 40 + k)) ((un A.rl A.wc L) A.wc)) A.wc A.P A.wg)) (RA.s_th R 0) o) (u := .int (nI (dg (pP u A.st A.P) 2))) (wa_v (N := 147) (i := 26) (As := [.int (nI (dg u 2))]) (rest := [.int (nI 49), .int (nI ((dg (pP u A.st A.P) 0) + (7 * (dg (pP u A.st A.P) 1))))]) rfl rfl rfl rfl rfl rfl rfl) rfl ((hpo 2 (by decide) (CA.s_wg (CA.s_rr (CA.s_rl (CA.s_wc (CA.s_pa (CA.s_qn (CA.s_qu (CA.s_fa A b.2.2) b.2.1) b.1) (fp (fun m x => t3 (fun q => A.t (m * 7 + q)) x 3) A.od b.2.2 A.Mv L 0 (pP u A.st A.P) A.pa)) (A.wc + 1)) (un A.rl A.wc L)) (cpn (fp (fun m x => t3 (fun q => A.t (m * 7 + q)) x 3) A.od b.2.2 A.Mv L 0 (pP u A.st A.P) A.pa) A.rr (A.wc * 40) L)) (wgs (im A.t (fun k => (cpn (fp (fun m x => t3 (fun q => A.t (m * 7 + q)) x 3) A.od b.2.2 A.Mv L 0 (pP u A.st A.P) A.pa) A.rr (A.wc * 40) L) (A.wc * 40 + k)) ((un A.rl A.wc L) A.wc)) A.wc A.P A.wg))).up (by omega)) ?_
      refine wn_mul (p9 := 68) rfl rfl ?_
      refine wn_add (p9 := 69) rfl rfl ?_
      refine wz_istore (l9 := [.ref 26, .int (nI u), .int (nI e), .int (nI N), .int (nI (((dg (pP u A.st A.P) 0) + (7 * (dg (pP u A.st A.P) 1))) + (49 * (dg (pP u A.st A.P) 2))))]) (p9 := 71) rfl rfl rfl rfl ?_
      refine wz_aload_n (p9 := 72) rfl rfl rfl ?_
      refine wz_iload_n (p9 := 73) rfl rfl rfl ?_
      refine wz_iconst (x := nI 0) (p9 := 74) rfl rfl (by decide) ?_
      refine wz_c1 (p9 := 77) (w1 := WW (CA.s_wg (CA.s_rr (CA.s_rl (CA.s_wc (CA.s_pa (CA.s_qn (CA.s_qu (CA.s_fa A b.2.2) b.2.1) b.1) (fp (fun m x => t3 (fun q => A.t (m * 7 + q)) x 3) A.od b.2.2 A.Mv L 0 (pP u A.st A.P) A.pa)) (A.wc + 1)) (un A.rl A.wc L)) (cpn (fp (fun m x => t3 (fun q => A.t (m * 7 + q)) x 3) A.od b.2.2 A.Mv L 0 (pP u A.st A.P) A.pa) A.rr (A.wc * 40) L)) (wgs (im A.t (fun k => (cpn (fp (fun m x => t3 (fun q => A.t (m * 7 + q)) x 3) A.od b.2.2 A.Mv L 0 (pP u A.st A.P) A.pa) A.rr (A.wc * 40) L) (A.wc * 40 + k)) ((un A.rl A.wc L) A.wc)) A.wc A.P A.wg)) (RA.s_th R 0) o) (u := .int (nI (dg e 0))) (tz_calS (N := 146) (As := [.int (nI e), .int (nI 0)]) (rest := [.ref 26]) rfl rfl rfl rfl rfl rfl) rfl ((g_digit (d := 0) (A := (CA.s_wg (CA.s_rr (CA.s_rl (CA.s_wc (CA.s_pa (CA.s_qn (CA.s_qu (CA.s_fa A b.2.2) b.2.1) b.1) (fp (fun m x => t3 (fun q => A.t (m * 7 + q)) x 3) A.od b.2.2 A.Mv L 0 (pP u A.st A.P) A.pa)) (A.wc + 1)) (un A.rl A.wc L)) (cpn (fp (fun m x => t3 (fun q => A.t (m * 7 + q)) x 3) A.od b.2.2 A.Mv L 0 (pP u A.st A.P) A.pa) A.rr (A.wc * 40) L)) (wgs (im A.t (fun k => (cpn (fp (fun m x => t3 (fun q => A.t (m * 7 + q)) x 3) A.od b.2.2 A.Mv L 0 (pP u A.st A.P) A.pa) A.rr (A.wc * 40) L) (A.wc * 40 + k)) ((un A.rl A.wc L) A.wc)) A.wc A.P A.wg))) (R := (RA.s_th R 0)) (by omega) (by omega)).up (Nat.le_trans (m := 9) (by decide) (Nat.le_add_left 9 d))) ?_
      refine wz_bipush (x := nI 7) (p9 := 79) rfl rfl (by decide) ?_
      refine wz_iload_n (p9 := 80) rfl rfl rfl ?_
      refine wz_iconst (x := nI 1) (p9 := 81) rfl rfl (by decide) ?_
      refine wz_c1 (p9 := 84) (w1 := WW (CA.s_wg (CA.s_rr (CA.s_rl (CA.s_wc (CA.s_pa (CA.s_qn (CA.s_qu (CA.s_fa A b.2.2) b.2.1) b.1) (fp (fun m x => t3 (fun q => A.t (m * 7 + q)) x 3) A.od b.2.2 A.Mv L 0 (pP u A.st A.P) A.pa)) (A.wc + 1)) (un A.rl A.wc L)) (cpn (fp (fun m x => t3 (fun q => A.t (m * 7 + q)) x 3) A.od b.2.2 A.Mv L 0 (pP u A.st A.P) A.pa) A.rr (A.wc * 40) L)) (wgs (im A.t (fun k => (cpn (fp (fun m x => t3 (fun q => A.t (m * 7 + q)) x 3) A.od b.2.2 A.Mv L 0 (pP u A.st A.P) A.pa) A.rr (A.wc * 40) L) (A.wc * 40 + k)) ((un A.rl A.wc L) A.wc)) A.wc A.P A.wg)) (RA.s_th R 0) o) (u := .int (nI (dg e 1))) (tz_calS (N := 146) (As := [.int (nI e), .int (nI 1)]) (rest := [.int (nI 7), .int (nI (dg e 0)), .ref 26]) rfl rfl rfl rfl rfl rfl) rfl ((g_digit (d := 0) (A := (CA.s_wg (CA.s_rr (CA.s_rl (CA.s_wc (CA.s_pa (CA.s_qn (CA.s_qu (CA.s_fa A b.2.2) b.2.1) b.1) (fp (fun m x => t3 (fun q => A.t (m * 7 + q)) x 3) A.od b.2.2 A.Mv L 0 (pP u A.st A.P) A.pa)) (A.wc + 1)) (un A.rl A.wc L)) (cpn (fp (fun m x => t3 (fun q => A.t (m * 7 + q)) x 3) A.od b.2.2 A.Mv L 0 (pP u A.st A.P) A.pa) A.rr (A.wc * 40) L)) (wgs (im A.t (fun k => (cpn (fp (fun m x => t3 (fun q => A.t (m * 7 + q)) x 3) A.od b.2.2 A.Mv L 0 (pP u A.st A.P) A.pa) A.rr (A.wc * 40) L) (A.wc * 40 + k)) ((un A.rl A.wc L) A.wc)) A.wc A.P A.wg))) (R := (RA.s_th R 0)) (by omega) (by omega)).up (Nat.le_trans (m := 9) (by decide) (Nat.le_add_left 9 d))) ?_
      refine wn_mul (p9 := 85) rfl rfl ?_
      refine wn_add (p9 := 86) rfl rfl ?_
      refine wz_bipush (x := nI 49) (p9 := 88) rfl rfl (by decide) ?_
      refine wz_iload_n (p9 := 89) rfl rfl rfl ?_
      refine wz_iconst (x := nI 2) (p9 := 90) rfl rfl (by decide) ?_
      refine wz_c1 (p9 := 93) (w1 := WW (CA.s_wg (CA.s_rr (CA.s_rl (CA.s_wc (CA.s_pa (CA.s_qn (CA.s_qu (CA.s_fa A b.2.2) b.2.1) b.1) (fp (fun m x => t3 (fun q => A.t (m * 7 + q)) x 3) A.od b.2.2 A.Mv L 0 (pP u A.st A.P) A.pa)) (A.wc + 1)) (un A.rl A.wc L)) (cpn (fp (fun m x => t3 (fun q => A.t (m * 7 + q)) x 3) A.od b.2.2 A.Mv L 0 (pP u A.st A.P) A.pa) A.rr (A.wc * 40) L)) (wgs (im A.t (fun k => (cpn (fp (fun m x => t3 (fun q => A.t (m * 7 + q)) x 3) A.od b.2.2 A.Mv L 0 (pP u A.st A.P) A.pa) A.rr (A.wc * 40) L) (A.wc * 40 + k)) ((un A.rl A.wc L) A.wc)) A.wc A.P A.wg)) (RA.s_th R 0) o) (u := .int (nI (dg e 2))) (tz_calS (N := 146) (As := [.int (nI e), .int (nI 2)]) (rest := [.int (nI 49), .int (nI ((dg e 0) + (7 * (dg e 1)))), .ref 26]) rfl rfl rfl rfl rfl rfl) rfl ((g_digit (d := 0) (A := (CA.s_wg (CA.s_rr (CA.s_rl (CA.s_wc (CA.s_pa (CA.s_qn (CA.s_qu (CA.s_fa A b.2.2) b.2.1) b.1) (fp (fun m x => t3 (fun q => A.t (m * 7 + q)) x 3) A.od b.2.2 A.Mv L 0 (pP u A.st A.P) A.pa)) (A.wc + 1)) (un A.rl A.wc L)) (cpn (fp (fun m x => t3 (fun q => A.t (m * 7 + q)) x 3) A.od b.2.2 A.Mv L 0 (pP u A.st A.P) A.pa) A.rr (A.wc * 40) L)) (wgs (im A.t (fun k => (cpn (fp (fun m x => t3 (fun q => A.t (m * 7 + q)) x 3) A.od b.2.2 A.Mv L 0 (pP u A.st A.P) A.pa) A.rr (A.wc * 40) L) (A.wc * 40 + k)) ((un A.rl A.wc L) A.wc)) A.wc A.P A.wg))) (R := (RA.s_th R 0)) (by omega) (by omega)).up (Nat.le_trans (m := 9) (by decide) (Nat.le_add_left 9 d))) ?_
      refine wn_mul (p9 := 94) rfl rfl ?_
      refine wn_add (p9 := 95) rfl rfl ?_
      refine wz_iload_n (p9 := 96) rfl rfl rfl ?_
      refine wz_c0 (p9 := 99) (w1 := WW (CA.s_wg (CA.s_rr (CA.s_rl (CA.s_wc (CA.s_pa (CA.s_qn (CA.s_qu (CA.s_fa A b.2.2) b.2.1) b.1) (fp (fun m x => t3 (fun q => A.t (m * 7 + q)) x 3) A.od b.2.2 A.Mv L 0 (pP u A.st A.P) A.pa)) (A.wc + 1)) (un A.rl A.wc L)) (cpn (fp (fun m x => t3 (fun q => A.t (m * 7 + q)) x 3) A.od b.2.2 A.Mv L 0 (pP u A.st A.P) A.pa) A.rr (A.wc * 40) L)) (wgs (im A.t (fun k => (cpn (fp (fun m x => t3 (fun q => A.t (m * 7 + q)) x 3) A.od b.2.2 A.Mv L 0 (pP u A.st A.P) A.pa) A.rr (A.wc * 40) L) (A.wc * 40 + k)) ((un A.rl A.wc L) A.wc)) A.wc A.P A.wg)) (RA.s_th (RA.s_fa R f) 0) o) (wa_v (N := 148) (i := 26) (As := [.int (nI (kp e)), .int (nI N)]) (rest := []) rfl rfl rfl rfl rfl rfl rfl) rfl (hme.up (by omega)) ?_
      refine wz_aload_n (p9 := 100) rfl rfl rfl ?_
      refine wz_get (v := .ref 44) (p9 := 103) rfl rfl rfl rfl rfl ?_
      refine wz_iload (p9 := 105) rfl rfl rfl ?_
      refine wl_Rfa (f := f) (p9 := 106) rfl rfl rfl hkx3 ?_
      refine wz_bipush (x := nI 99) (p9 := 108) rfl rfl (by decide) ?_
      refine wn_icne (t9 := 113) (p9 := 111) rfl rfl rfl (by omega) (by omega) (fun _ => ?_) (fun h9 => by omega)
      refine wz_aload_n (p9 := 114) rfl rfl rfl ?_
      refine wz_get (v := .int (nI R.wc)) (p9 := 117) rfl rfl rfl rfl rfl ?_
      refine wz_bipush (x := nI 30) (p9 := 119) rfl rfl (by decide) ?_
      refine wn_icne (t9 := 126) (p9 := 122) rfl rfl rfl (by omega) (by omega) (fun _ => ?_) (fun h9 => by omega)
      refine wz_aload_n (p9 := 127) rfl rfl rfl ?_
      refine wz_iconst (x := nI 0) (p9 := 128) rfl rfl (by decide) ?_
      refine wp_Rmn (x := 0) (p9 := 131) rfl rfl rfl rfl (R1 := (RA.s_th (RA.s_fa (RA.s_mn R 0) f) 0)) rfl ?_
      rw [show dg (pP u A.st A.P) 0 + 7 * dg (pP u A.st A.P) 1 + 49 * dg (pP u A.st A.P) 2 = kp (pP u A.st A.P) from rfl]
      refine l_path (d := d + 5) (A := (CA.s_wg (CA.s_rr (CA.s_rl (CA.s_wc (CA.s_pa (CA.s_qn (CA.s_qu (CA.s_fa A b.2.2) b.2.1) b.1) (fp (fun m x => t3 (fun q => A.t (m * 7 + q)) x 3) A.od b.2.2 A.Mv L 0 (pP u A.st A.P) A.pa)) (A.wc + 1)) (un A.rl A.wc L)) (cpn (fp (fun m x => t3 (fun q => A.t (m * 7 + q)) x 3) A.od b.2.2 A.Mv L 0 (pP u A.st A.P) A.pa) A.rr (A.wc * 40) L)) (wgs (im A.t (fun k => (cpn (fp (fun m x => t3 (fun q => A.t (m * 7 + q)) x 3) A.od b.2.2 A.Mv L 0 (pP u A.st A.P) A.pa) A.rr (A.wc * 40) L) (A.wc * 40 + k)) ((un A.rl A.wc L) A.wc)) A.wc A.P A.wg))) (R := RA.s_fa (RA.s_th R 0) f) (F := b.2.2) (e := e) (N := N) ⟨H.T, H.p, H.m, H.t⟩ (by omega) hfb (fun x r h1 h2 h3 => hFF x r h1 h2 (by omega)) hfa L 0 (pP u A.st A.P) R.cm A.pa hx5 hx3 hds hLN (by omega) (fun q hq => absurd hq (by omega)) (fun cm1 h4 h5 => ?_)
      refine wz_aload_n (p9 := 153) rfl rfl rfl ?_
      refine wz_c1 (p9 := 156) (w1 := WW (CA.s_wg (CA.s_rr (CA.s_rl (CA.s_wc (CA.s_pa (CA.s_qn (CA.s_qu (CA.s_fa A b.2.2) b.2.1) b.1) (fp (fun m x => t3 (fun q => A.t (m * 7 + q)) x 3) A.od b.2.2 A.Mv L 0 (pP u A.st A.P) A.pa)) (A.wc + 1)) (un A.rl A.wc L)) (cpn (fp (fun m x => t3 (fun q => A.t (m * 7 + q)) x 3) A.od b.2.2 A.Mv L 0 (pP u A.st A.P) A.pa) A.rr (A.wc * 40) L)) (wgs (im A.t (fun k => (cpn (fp (fun m x => t3 (fun q => A.t (m * 7 + q)) x 3) A.od b.2.2 A.Mv L 0 (pP u A.st A.P) A.pa) A.rr (A.wc * 40) L) (A.wc * 40 + k)) ((un A.rl A.wc L) A.wc)) A.wc A.P A.wg)) (RA.s_rr (RA.s_ln (RA.s_wc (RA.s_th (RA.s_fa (RA.s_mn (RA.s_cm R cm1) (0 + L)) f) 0) (R.wc + 1)) (un R.ln R.wc (0 + L))) (cpn cm1 R.rr (R.wc * 40) (0 + L))) o) (u := .int (nI R.wc)) (wa_v (N := 115) (i := 26) (As := []) (rest := []) rfl rfl rfl rfl rfl rfl rfl) rfl ((g_enter (d := 0) (A := (CA.s_wg (CA.s_rr (CA.s_rl (CA.s_wc (CA.s_pa (CA.s_qn (CA.s_qu (CA.s_fa A b.2.2) b.2.1) b.1) (fp (fun m x => t3 (fun q => A.t (m * 7 + q)) x 3) A.od b.2.2 A.Mv L 0 (pP u A.st A.P) A.pa)) (A.wc + 1)) (un A.rl A.wc L)) (cpn (fp (fun m x => t3 (fun q => A.t (m * 7 + q)) x 3) A.od b.2.2 A.Mv L 0 (pP u A.st A.P) A.pa) A.rr (A.wc * 40) L)) (wgs (im A.t (fun k => (cpn (fp (fun m x => t3 (fun q => A.t (m * 7 + q)) x 3) A.od b.2.2 A.Mv L 0 (pP u A.st A.P) A.pa) A.rr (A.wc * 40) L) (A.wc * 40 + k)) ((un A.rl A.wc L) A.wc)) A.wc A.P A.wg))) (R := (RA.s_th (RA.s_fa (RA.s_mn (RA.s_cm R cm1) (0 + L)) f) 0)) (o := o) (show R.wc < 30 by omega) (show 0 + L ≤ 40 by omega)).up (by omega)) ?_
      exact wz_reti rfl rfl ⟨cm1, h5, by rw [e3]⟩
    obtain ⟨r9, hr, cm1, h5, rfl⟩ := h0
    exact ⟨cm1, h5, wp_ev (d := d + 9) (by decide) rfl rfl (fun h => by cases h) ⟨_, hr, rfl⟩⟩
  obtain ⟨cm1, hcm, hev⟩ := hmod
  have hrr9 : cpn cm1 R.rr (R.wc * 40) (0 + L) = cpn (fp (fun m x => t3 (fun q => A.t (m * 7 + q)) x 3) A.od b.2.2 A.Mv L 0 (pP u A.st A.P) A.pa) A.rr (A.wc * 40) L := by
    rw [H.rr, e3, Nat.zero_add]
    exact cpn_congr (fun k hk => hcm k (by omega))
  refine ⟨(CA.s_wg (CA.s_rr (CA.s_rl (CA.s_wc (CA.s_pa (CA.s_qn (CA.s_qu (CA.s_fa A b.2.2) b.2.1) b.1) (fp (fun m x => t3 (fun q => A.t (m * 7 + q)) x 3) A.od b.2.2 A.Mv L 0 (pP u A.st A.P) A.pa)) (A.wc + 1)) (un A.rl A.wc L)) (cpn (fp (fun m x => t3 (fun q => A.t (m * 7 + q)) x 3) A.od b.2.2 A.Mv L 0 (pP u A.st A.P) A.pa) A.rr (A.wc * 40) L)) (wgs (im A.t (fun k => (cpn (fp (fun m x => t3 (fun q => A.t (m * 7 + q)) x 3) A.od b.2.2 A.Mv L 0 (pP u A.st A.P) A.pa) A.rr (A.wc * 40) L) (A.wc * 40 + k)) ((un A.rl A.wc L) A.wc)) A.wc A.P A.wg)), (RA.s_rr (RA.s_ln (RA.s_wc (RA.s_th (RA.s_fa (RA.s_mn (RA.s_cm R cm1) (0 + L)) f) 0) (R.wc + 1)) (un R.ln R.wc (0 + L))) (cpn cm1 R.rr (R.wc * 40) (0 + L))), nI A.wc, ?_, hev, ⟨H.T, H.p, H.m, H.t, hWV.1, hWV.2, (congrArg (· + 1) e3), (show un R.ln R.wc (0 + L) = un A.rl A.wc L by rw [H.ln, e3, Nat.zero_add]), hrr9, H.S, H.sP, (fun s hs k hk => Nat.lt_succ_of_lt (H.uw s hs k hk)), H.sc, H.go, H.us, H.ud, H.bc, H.tx, H.sz, H.te, H.kd, H.pl, H.fl, H.sl, H.se, H.fc, H.st, H.nw, H.dc, H.tl, H.dn⟩⟩
  refine wp_ev (d := d + 9) (by decide) rfl rfl (fun h => by cases h) ?_
  show wp X (d + 9) 78 (0, [.ref 0, .int (nI u), .int (nI e), .int (nI N), .retAddr 0, .retAddr 0], [], WW A R o, 0, 0) _
  refine wz_iload_n (p9 := 1) rfl rfl rfl ?_
  refine wn_iflt (t9 := 32) (p9 := 4) rfl rfl rfl (by omega) (fun h9 => by omega) (fun _ => ?_)
  refine wz_iload_n (p9 := 5) rfl rfl rfl ?_
  refine wz_bipush (x := nI 9) (p9 := 7) rfl rfl (by decide) ?_
  refine wn_icgt (t9 := 32) (p9 := 10) rfl rfl rfl (by omega) (by omega) (fun h9 => by omega) (fun _ => ?_)
  refine wz_aload_n (p9 := 11) rfl rfl rfl ?_
  refine wz_get (v := .ref 21) (p9 := 14) rfl rfl rfl rfl rfl ?_
  refine wz_iload_n (p9 := 15) rfl rfl rfl ?_
  refine wz_c1 (p9 := 18) (w1 := WW A R o) (u := .int (nI 1)) (wa_v (N := 65) (i := 21) (As := [.int (nI u)]) (rest := []) rfl rfl rfl rfl rfl rfl rfl) rfl (hq1.up (by omega)) ?_
  refine wn_ifeq (t9 := 32) (p9 := 21) rfl rfl rfl (by omega) (fun h9 => by omega) (fun _ => ?_)
  refine wz_aload_n (p9 := 22) rfl rfl rfl ?_
  refine wz_get (v := .ref 21) (p9 := 25) rfl rfl rfl rfl rfl ?_
  refine wz_iload_n (p9 := 26) rfl rfl rfl ?_
  refine wz_c1 (p9 := 29) (w1 := WW A R o) (u := .int (nI 1)) (wa_v (N := 65) (i := 21) (As := [.int (nI e)]) (rest := []) rfl rfl rfl rfl rfl rfl rfl) rfl (hq3.up (by omega)) ?_
  refine wn_ifne (t9 := 35) (p9 := 32) rfl rfl rfl (by omega) (fun _ => ?_) (fun h9 => by omega)
  refine wz_aload_n (p9 := 36) rfl rfl rfl ?_
  refine wz_get (v := .ref 21) (p9 := 39) rfl rfl rfl rfl rfl ?_
  refine wz_iload_n (p9 := 40) rfl rfl rfl ?_
  refine wz_aload_n (p9 := 41) rfl rfl rfl ?_
  refine wz_get (v := .int (nI A.st)) (p9 := 44) rfl rfl rfl rfl rfl ?_
  refine wz_c1 (p9 := 47) (w1 := WW A R o) (u := .int (nI (pP u A.st A.P))) (wa_v (N := 66) (i := 21) (As := [.int (nI u), .int (nI A.st)]) (rest := []) rfl rfl rfl rfl rfl rfl rfl) rfl (hpl.up (by omega)) ?_
  refine wz_istore (l9 := [.ref 0, .int (nI u), .int (nI e), .int (nI N), .int (nI (pP u A.st A.P)), .retAddr 0]) (p9 := 49) rfl rfl rfl rfl ?_
  refine wz_aload_n (p9 := 50) rfl rfl rfl ?_
  refine wz_get (v := .ref 21) (p9 := 53) rfl rfl rfl rfl rfl ?_
  refine wz_iload (p9 := 55) rfl rfl rfl ?_
  refine wz_iload_n (p9 := 56) rfl rfl rfl ?_
  refine wz_c1 (p9 := 59) (w1 := WW (CA.s_qn (CA.s_qu (CA.s_fa A b.2.2) b.2.1) b.1) R o) (u := .int (nI L)) (wa_v (N := 67) (i := 21) (As := [.int (nI (pP u A.st A.P)), .int (nI e)]) (rest := []) rfl rfl rfl rfl rfl rfl rfl) rfl (hrb.up (by omega)) ?_
  refine wz_istore (l9 := [.ref 0, .int (nI u), .int (nI e), .int (nI N), .int (nI (pP u A.st A.P)), .int (nI L)]) (p9 := 61) rfl rfl rfl rfl ?_
  refine wz_iload (p9 := 63) rfl rfl rfl ?_
  refine wz_iconst (x := (-1)) (p9 := 64) rfl rfl (by decide) ?_
  refine wz_iceq (t9 := 73) (p9 := 67) rfl rfl rfl (fun h9 => absurd h9 (q_ne1 (by omega))) (fun _ => ?_)
  refine wz_iload (p9 := 69) rfl rfl rfl ?_
  refine wz_iload_n (p9 := 70) rfl rfl rfl ?_
  refine wn_icle (t9 := 75) (p9 := 73) rfl rfl rfl (by omega) (by omega) (fun _ => ?_) (fun h9 => by omega)
  refine wz_aload_n (p9 := 76) rfl rfl rfl ?_
  refine wz_get (v := .ref 10) (p9 := 79) rfl rfl rfl rfl rfl ?_
  refine wz_c1 (p9 := 82) (w1 := WW (CA.s_qn (CA.s_qu (CA.s_fa A b.2.2) b.2.1) b.1) R o) (u := .int (nI 0)) (wa_v (N := 33) (i := 10) (As := []) (rest := []) rfl rfl rfl rfl rfl rfl rfl) rfl (by have h9 := g_isFull (X := X) (d := 0) (A := (CA.s_qn (CA.s_qu (CA.s_fa A b.2.2) b.2.1) b.1)) (R := R) (o := o) H.V.wc; rw [show (if (CA.wc (CA.s_qn (CA.s_qu (CA.s_fa A b.2.2) b.2.1) b.1)) = 30 then 1 else 0) = 0 from if_neg hfull] at h9; exact h9.up (by omega)) ?_
  refine wn_ifeq (t9 := 89) (p9 := 85) rfl rfl rfl (by omega) (fun _ => ?_) (fun h9 => by omega)
  refine wz_aload_n (p9 := 90) rfl rfl rfl ?_
  refine wz_get (v := .ref 10) (p9 := 93) rfl rfl rfl rfl rfl ?_
  refine wz_aload_n (p9 := 94) rfl rfl rfl ?_
  refine wz_get (v := .ref 21) (p9 := 97) rfl rfl rfl rfl rfl ?_
  refine wz_iload (p9 := 99) rfl rfl rfl ?_
  refine wz_iload (p9 := 101) rfl rfl rfl ?_
  refine wz_c1 (p9 := 104) (w1 := WW (CA.s_pa (CA.s_qn (CA.s_qu (CA.s_fa A b.2.2) b.2.1) b.1) (fp (fun m x => t3 (fun q => A.t (m * 7 + q)) x 3) A.od b.2.2 A.Mv L 0 (pP u A.st A.P) A.pa)) R o) (u := .ref 24) (wa_v (N := 71) (i := 21) (As := [.int (nI (pP u A.st A.P)), .int (nI L)]) (rest := [.ref 10]) rfl rfl rfl rfl rfl rfl rfl) rfl ((g_firstPath (d := 0) (A := (CA.s_qn (CA.s_qu (CA.s_fa A b.2.2) b.2.1) b.1)) (R := R) (o := o) H.T hFl (show L ≤ 9 by omega) hx5 hx3).up (by omega)) ?_
  refine wz_iload (p9 := 106) rfl rfl rfl ?_
  refine wz_c1 (p9 := 109) (w1 := WW (CA.s_wg (CA.s_rr (CA.s_rl (CA.s_wc (CA.s_pa (CA.s_qn (CA.s_qu (CA.s_fa A b.2.2) b.2.1) b.1) (fp (fun m x => t3 (fun q => A.t (m * 7 + q)) x 3) A.od b.2.2 A.Mv L 0 (pP u A.st A.P) A.pa)) (A.wc + 1)) (un A.rl A.wc L)) (cpn (fp (fun m x => t3 (fun q => A.t (m * 7 + q)) x 3) A.od b.2.2 A.Mv L 0 (pP u A.st A.P) A.pa) A.rr (A.wc * 40) L)) (wgs (im A.t (fun k => (cpn (fp (fun m x => t3 (fun q => A.t (m * 7 + q)) x 3) A.od b.2.2 A.Mv L 0 (pP u A.st A.P) A.pa) A.rr (A.wc * 40) L) (A.wc * 40 + k)) ((un A.rl A.wc L) A.wc)) A.wc A.P A.wg)) R o) (u := .int (nI A.wc)) (wa_v (N := 34) (i := 10) (As := [.ref 24, .int (nI L)]) (rest := []) rfl rfl rfl rfl rfl rfl rfl) rfl ((g_addWP (d := 0) (A := (CA.s_pa (CA.s_qn (CA.s_qu (CA.s_fa A b.2.2) b.2.1) b.1) (fp (fun m x => t3 (fun q => A.t (m * 7 + q)) x 3) A.od b.2.2 A.Mv L 0 (pP u A.st A.P) A.pa))) (R := R) (o := o) H.T (show A.wc < 30 by omega) (show L ≤ 9 by omega) hrow).up (by omega)) ?_
  exact wz_reti rfl rfl rfl
