/-! WHAT HOLDS OF THE RECORDS; THE CONTRACTS SO FAR, OVER THE WORLD OF RECORDS (wip/whole/gen/mk76.py) -/
/-- N is the order of the move m -/
def io (t : Nat → Nat) (m P N : Nat) : Prop := 1 ≤ N ∧ N ≤ 12 ∧ rd t m P N ∧ ∀ j, 1 ≤ j → j < N → ¬ rd t m P j
def TV (P Mv : Nat) (t od : Nat → Nat) : Prop := (2 ≤ P) ∧ (P ≤ 7) ∧ (1 ≤ Mv) ∧ (Mv ≤ 6) ∧ (∀ m p, p < P → t (m * 7 + p) < P) ∧ (∀ m, m < 6 → ∀ p q, p < P → q < P → t (m * 7 + p) = t (m * 7 + q) → p = q) ∧ (∀ m, m < 6 → io t m P (od m))
theorem TV.p2 {P Mv : Nat} {t od : Nat → Nat} (h : TV P Mv t od) : 2 ≤ P := h.1
theorem TV.p7 {P Mv : Nat} {t od : Nat → Nat} (h : TV P Mv t od) : P ≤ 7 := h.2.1
theorem TV.m1 {P Mv : Nat} {t od : Nat → Nat} (h : TV P Mv t od) : 1 ≤ Mv := h.2.2.1
theorem TV.m6 {P Mv : Nat} {t od : Nat → Nat} (h : TV P Mv t od) : Mv ≤ 6 := h.2.2.2.1
theorem TV.ht {P Mv : Nat} {t od : Nat → Nat} (h : TV P Mv t od) : ∀ m p, p < P → t (m * 7 + p) < P := h.2.2.2.2.1
theorem TV.hi {P Mv : Nat} {t od : Nat → Nat} (h : TV P Mv t od) : ∀ m, m < 6 → ∀ p q, p < P → q < P → t (m * 7 + p) = t (m * 7 + q) → p = q := h.2.2.2.2.2.1
theorem TV.ho {P Mv : Nat} {t od : Nat → Nat} (h : TV P Mv t od) : ∀ m, m < 6 → io t m P (od m) := h.2.2.2.2.2.2
def WV (wc : Nat) (rl rr wg : Nat → Nat) : Prop := (wc ≤ 30) ∧ (∀ q, rl q ≤ 40) ∧ (∀ q, rr q < 96) ∧ (∀ q, wg q < 7)
theorem WV.wc {wc : Nat} {rl rr wg : Nat → Nat} (h : WV wc rl rr wg) : wc ≤ 30 := h.1
theorem WV.rl {wc : Nat} {rl rr wg : Nat → Nat} (h : WV wc rl rr wg) : ∀ q, rl q ≤ 40 := h.2.1
theorem WV.rr {wc : Nat} {rl rr wg : Nat → Nat} (h : WV wc rl rr wg) : ∀ q, rr q < 96 := h.2.2.1
theorem WV.wg {wc : Nat} {rl rr wg : Nat → Nat} (h : WV wc rl rr wg) : ∀ q, wg q < 7 := h.2.2.2
def SV (sc : Nat) (sg su us : Nat → Nat) : Prop := (sc ≤ 8) ∧ (∀ q, sg q < 128) ∧ (∀ q, su q ≤ 12) ∧ (∀ q, us q < 30)
theorem SV.sc {sc : Nat} {sg su us : Nat → Nat} (h : SV sc sg su us) : sc ≤ 8 := h.1
theorem SV.sg {sc : Nat} {sg su us : Nat → Nat} (h : SV sc sg su us) : ∀ q, sg q < 128 := h.2.1
theorem SV.su {sc : Nat} {sg su us : Nat → Nat} (h : SV sc sg su us) : ∀ q, su q ≤ 12 := h.2.2.1
theorem SV.us {sc : Nat} {sg su us : Nat → Nat} (h : SV sc sg su us) : ∀ q, us q < 30 := h.2.2.2
theorem g_placeCount {X : Nat × (Nat → Int32)} {d : Nat} {A : CA} {R : RA} {o : Nat → Int64}  : px_ev X (d + 1) 1 [.ref 1] (WW A R o) (some (some (.int (nI A.P))), WW A R o, 0, 0) := by
  have h := e_placeCount (X := X) (d := d) (n := 47) (c := cw A R o) (fun i h => by omega) rfl
  rw [W_wl] at h
  exact h
theorem g_moveCount {X : Nat × (Nat → Int32)} {d : Nat} {A : CA} {R : RA} {o : Nat → Int64}  : px_ev X (d + 1) 7 [.ref 1] (WW A R o) (some (some (.int (nI A.Mv))), WW A R o, 0, 0) := by
  have h := e_moveCount (X := X) (d := d) (n := 47) (c := cw A R o) (fun i h => by omega) rfl
  rw [W_wl] at h
  exact h
theorem g_pieceAt {X : Nat × (Nat → Int32)} {d : Nat} {A : CA} {R : RA} {o : Nat → Int64} {x i : Nat} (hx : x < 2147483648) (hi : i < 10) : px_ev X (d + 1) 152 [.int (nI x), .int (nI i)] (WW A R o) (some (some (.int (nI (dg x i)))), WW A R o, 0, 0) := by
  have h := f_pieceAt (X := X) (d := d) (n := 47) (c := cw A R o) hx hi
  rw [W_wl] at h
  exact h
theorem g_pieceTo {X : Nat × (Nat → Int32)} {d : Nat} {A : CA} {R : RA} {o : Nat → Int64} {x i : Nat} (hi : i < 10) : px_ev X (d + 1) 153 [.int (nI x), .int (nI i)] (WW A R o) (some (some (.int (nI (x * 8 ^ i)))), WW A R o, 0, 0) := by
  have h := f_pieceTo (X := X) (d := d) (n := 47) (c := cw A R o) (a := x) hi
  rw [W_wl] at h
  exact h
theorem g_goalOf {X : Nat × (Nat → Int32)} {d : Nat} {A : CA} {R : RA} {o : Nat → Int64} (T : TV A.P A.Mv A.t A.od) {m p : Nat} (hm : m < 6) (hp : p < 7) : px_ev X (d + 1) 5 [.ref 1, .int (nI m), .int (nI p)] (WW A R o) (some (some (.int (nI (A.t (m * 7 + p))))), WW A R o, 0, 0) := by
  have h := f_goalOf (X := X) (d := d) (n := 47) (c := cw A R o) (fun i h => h) T.p7 T.m6 rfl rfl hm hp
  rw [W_wl] at h
  exact h
theorem g_orderOf {X : Nat × (Nat → Int32)} {d : Nat} {A : CA} {R : RA} {o : Nat → Int64} (T : TV A.P A.Mv A.t A.od) {m : Nat} (hm : m < 6) : px_ev X (d + 1) 2 [.ref 1, .int (nI m)] (WW A R o) (some (some (.int (nI (A.od m)))), WW A R o, 0, 0) := by
  have h := f_orderOf (X := X) (d := d) (n := 47) (c := cw A R o) (fun i h => h) T.p7 T.m6 rfl rfl hm
  rw [W_wl] at h
  exact h
theorem g_allHome {X : Nat × (Nat → Int32)} {d : Nat} {A : CA} {R : RA} {o : Nat → Int64} {p : Nat} (hp : p ≤ 7) : px_ev X (d + 1) 151 [.int (nI p)] (WW A R o) (some (some (.int (nI (hm8 p)))), WW A R o, 0, 0) := by
  have h := f_allHome (X := X) (d := d) (n := 47) (c := cw A R o) hp
  rw [W_wl] at h
  exact h
theorem g_turned {X : Nat × (Nat → Int32)} {d : Nat} {A : CA} {R : RA} {o : Nat → Int64} (T : TV A.P A.Mv A.t A.od) {m x : Nat} (hm : m < 6) (hx : x < 2147483648) : px_ev X (d + 2) 10 [.ref 1, .int (nI m), .int (nI x)] (WW A R o) (some (some (.int (nI (tr (fun q => A.t (m * 7 + q)) x A.P)))), WW A R o, 0, 0) := by
  have h := f_turned (X := X) (d := d) (n := 47) (c := cw A R o) (fun i h => h) T.p7 T.m6 rfl rfl hm hx (fun p h => by have := T.ht m p h; have := T.p7; omega)
  rw [W_wl] at h
  exact h
theorem g_follow {X : Nat × (Nat → Int32)} {d : Nat} {A : CA} {R : RA} {o : Nat → Int64} (T : TV A.P A.Mv A.t A.od) (hwc : A.wc ≤ 30) {w p : Nat} (hw : w < 30) (hp : p < A.P) (hL : A.rl w ≤ 40) (hrr : ∀ k, k < A.rl w → A.rr (w * 40 + k) < 96) : px_ev X (d + 2) 35 [.ref 10, .int (nI w), .int (nI p)] (WW A R o) (some (some (.int (nI (im A.t (fun k => A.rr (w * 40 + k)) (A.rl w) p)))), WW A R o, 0, 0) := by
  have h := f_follow (X := X) (d := d) (n := 47) (c := cw A R o) (fun i h => h) T.p7 T.m6 rfl rfl hwc rfl rfl rfl hw hp rfl hL (fun k h => by have := hrr k h; omega) (fun k h q hq => T.ht _ q hq) (fun k h => by have := hrr k h; omega)
  rw [W_wl] at h
  exact h
theorem g_wGoalOf {X : Nat × (Nat → Int32)} {d : Nat} {A : CA} {R : RA} {o : Nat → Int64} (hwc : A.wc ≤ 30) {w p : Nat} (hw : w < 30) (hp : p < 7) : px_ev X (d + 1) 40 [.ref 10, .int (nI w), .int (nI p)] (WW A R o) (some (some (.int (nI (A.wg (w * 7 + p))))), WW A R o, 0, 0) := by
  have h := f_wGoalOf (X := X) (d := d) (n := 47) (c := cw A R o) (fun i h => h) hwc rfl rfl hw hp
  rw [W_wl] at h
  exact h
theorem g_wTurned {X : Nat × (Nat → Int32)} {d : Nat} {A : CA} {R : RA} {o : Nat → Int64} (T : TV A.P A.Mv A.t A.od) (V : WV A.wc A.rl A.rr A.wg) {w x : Nat} (hw : w < 30) (hx : x < 2147483648) : px_ev X (d + 2) 41 [.ref 10, .int (nI w), .int (nI x)] (WW A R o) (some (some (.int (nI (tr (fun q => A.wg (w * 7 + q)) x A.P)))), WW A R o, 0, 0) := by
  have h := f_wTurned (X := X) (d := d) (n := 47) (c := cw A R o) (fun i h => h) T.p7 T.m6 rfl V.wc rfl rfl hw hx (fun p _ => by have := V.wg (w * 7 + p); omega)
  rw [W_wl] at h
  exact h
theorem g_homeBehind {X : Nat × (Nat → Int32)} {d : Nat} {A : CA} {R : RA} {o : Nat → Int64} (T : TV A.P A.Mv A.t A.od) (V : WV A.wc A.rl A.rr A.wg) {w x g : Nat} (hw : w < 30) (hx : x < 2147483648) (hg : g < 2147483648) : px_ev X (d + 2) 42 [.ref 10, .int (nI w), .int (nI x), .int (nI g)] (WW A R o) (some (some (.int (nI (hb (fun q => A.wg (w * 7 + q)) x g A.P)))), WW A R o, 0, 0) := by
  have h := f_homeBehind (X := X) (d := d) (n := 47) (c := cw A R o) (fun i h => h) T.p7 T.m6 rfl V.wc rfl rfl hw hx hg (fun p _ => by have := V.wg (w * 7 + p); omega)
  rw [W_wl] at h
  exact h
theorem g_meets1 {X : Nat × (Nat → Int32)} {d : Nat} {A : CA} {R : RA} {o : Nat → Int64} {x g : Nat} (hx : x < 2147483648) (hg : g < 2147483648) (hq : mt x g) : px_ev X (d + 2) 155 [.int (nI x), .int (nI g)] (WW A R o) (some (some (.int (nI 1))), WW A R o, 0, 0) := by
  have h := f_meets1 (X := X) (d := d) (n := 47) (c := cw A R o) hx hg hq
  rw [W_wl] at h
  exact h
theorem g_isMet1 {X : Nat × (Nat → Int32)} {d : Nat} {A : CA} {R : RA} {o : Nat → Int64} (S : SV A.sc A.sg A.su A.us) {s x : Nat} (hs : s < 8) (hx : x < 2147483648) (hq : mt x (A.sg s)) : px_ev X (d + 3) 52 [.ref 14, .int (nI s), .int (nI x)] (WW A R o) (some (some (.int (nI 1))), WW A R o, 0, 0) := by
  have h := f_isMet1 (X := X) (d := d) (n := 47) (c := cw A R o) (fun i h => h) S.sc rfl rfl hs hx (by have := S.sg s; omega) hq
  rw [W_wl] at h
  exact h
theorem g_meets0 {X : Nat × (Nat → Int32)} {d : Nat} {A : CA} {R : RA} {o : Nat → Int64} {x g : Nat} (hx : x < 2147483648) (hg : g < 2147483648) (hq : ¬ mt x g) : px_ev X (d + 2) 155 [.int (nI x), .int (nI g)] (WW A R o) (some (some (.int (nI 0))), WW A R o, 0, 0) := by
  have h := f_meets0 (X := X) (d := d) (n := 47) (c := cw A R o) hx hg hq
  rw [W_wl] at h
  exact h
theorem g_isMet0 {X : Nat × (Nat → Int32)} {d : Nat} {A : CA} {R : RA} {o : Nat → Int64} (S : SV A.sc A.sg A.su A.us) {s x : Nat} (hs : s < 8) (hx : x < 2147483648) (hq : ¬ mt x (A.sg s)) : px_ev X (d + 3) 52 [.ref 14, .int (nI s), .int (nI x)] (WW A R o) (some (some (.int (nI 0))), WW A R o, 0, 0) := by
  have h := f_isMet0 (X := X) (d := d) (n := 47) (c := cw A R o) (fun i h => h) S.sc rfl rfl hs hx (by have := S.sg s; omega) hq
  rw [W_wl] at h
  exact h
theorem g_goalBefore {X : Nat × (Nat → Int32)} {d : Nat} {A : CA} {R : RA} {o : Nat → Int64} (S : SV A.sc A.sg A.su A.us) {s : Nat} (hs : s ≤ 8) : px_ev X (d + 1) 55 [.ref 14, .int (nI s)] (WW A R o) (some (some (.int (nI (gb A.sg s)))), WW A R o, 0, 0) := by
  have h := f_goalBefore (X := X) (d := d) (n := 47) (c := cw A R o) (fun i h => h) S.sc rfl rfl hs
  rw [W_wl] at h
  exact h
theorem g_firstBetter {X : Nat × (Nat → Int32)} {d : Nat} {A : CA} {R : RA} {o : Nat → Int64} (T : TV A.P A.Mv A.t A.od) (V : WV A.wc A.rl A.rr A.wg) (S : SV A.sc A.sg A.su A.us) {s x : Nat} (hs : s < 8) (hx : x < 2147483648) : px_ev X (d + 3) 53 [.ref 14, .int (nI s), .int (nI x)] (WW A R o) (some (some (.int (oi (fb (fun k => A.us (s * 12 + k)) (fun w => hb (fun q => A.wg (w * 7 + q)) x (A.sg s) A.P) (hc x (A.sg s) 7) (A.su s) 0)))), WW A R o, 0, 0) := by
  have h := f_firstBetter (X := X) (d := d) (n := 47) (c := cw A R o) (fun i h => h) T.p7 T.m6 rfl V.wc rfl rfl S.sc rfl rfl rfl rfl hs hx (by have := S.sg s; omega) (S.su s) (fun k _ => S.us _) (fun k _ p _ => by have := V.wg (A.us (s * 12 + k) * 7 + p); omega)
  rw [W_wl] at h
  exact h
theorem g_behind {X : Nat × (Nat → Int32)} {d : Nat} {A : CA} {R : RA} {o : Nat → Int64} {od : Nat → Nat} (T : TV R.P R.Mv R.t od) {m k p : Nat} (hm : m < 6) (hp : p < R.P) (hk : k < 2147483648) : px_ev X (d + 1) 105 [.ref 26, .int (nI m), .int (nI k), .int (nI p)] (WW A R o) (some (some (.int (nI (bh R.t m k p)))), WW A R o, 0, 0) := by
  have h := f_behind (X := X) (d := d) (n := 47) (c := cw A R o) (fun i h => h) T.p7 T.m6 rfl rfl hm hp (T.ht m) hk
  rw [W_wl] at h
  exact h
theorem g_mOrder {X : Nat × (Nat → Int32)} {d : Nat} {A : CA} {R : RA} {o : Nat → Int64} {od : Nat → Nat} (T : TV R.P R.Mv R.t od) {m : Nat} (hm : m < 6) : px_ev X (d + 3) 103 [.ref 26, .int (nI m)] (WW A R o) (some (some (.int (nI (od m)))), WW A R o, 0, 0) := by
  have h := f_mOrder (X := X) (d := d) (n := 47) (c := cw A R o) (fun i h => h) T.p7 T.m6 rfl rfl hm (T.ht m) (by have := (T.ho m hm).2.1; omega) (T.ho m hm).1 (T.ho m hm).2.2.1 (T.ho m hm).2.2.2
  rw [W_wl] at h
  exact h
theorem g_imageOf {X : Nat × (Nat → Int32)} {d : Nat} {A : CA} {R : RA} {o : Nat → Int64} {od : Nat → Nat} (T : TV R.P R.Mv R.t od) {w p : Nat} (hw : w < 30) (hp : p < R.P) (hL : R.ln w ≤ 40) (hrr : ∀ k, k < R.ln w → R.rr (w * 40 + k) < 96) : px_ev X (d + 2) 120 [.ref 26, .int (nI w), .int (nI p)] (WW A R o) (some (some (.int (nI (im R.t (fun k => R.rr (w * 40 + k)) (R.ln w) p)))), WW A R o, 0, 0) := by
  have h := f_imageOf (X := X) (d := d) (n := 47) (c := cw A R o) (fun i h => h) T.p7 T.m6 rfl rfl rfl rfl hw hp rfl hL (fun k h => by have := hrr k h; omega) (fun k h q hq => T.ht _ q hq) (fun k h => by have := hrr k h; omega)
  rw [W_wl] at h
  exact h
