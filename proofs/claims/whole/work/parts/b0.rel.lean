/-! CLASS AND REFERENCE SIDE BY SIDE: what holds between calls; read (wip/whole/gen/mkb0.py) -/
/-- the goals kept of each word are its images -/
def WI (P : Nat) (t : Nat → Nat) (wc : Nat) (rl rr wg : Nat → Nat) : Prop := ∀ w, w < wc → ∀ p, p < P → wg (w * 7 + p) = im t (fun k => rr (w * 40 + k)) (rl w) p
def fac : Nat → Nat
  | 0 => 1
  | n + 1 => fac n * (n + 1)
/-- each of P pieces is at one of P places -/
def pm (P x : Nat) : Prop := x < 8 ^ P ∧ (∀ p, p < P → dg x p < P) ∧ ∀ p q, p < P → q < P → dg x p = dg x q → p = q
/-- all states, in the order in which they are found -/
def bf0 (P Mv : Nat) (t : Nat → Nat) : Nat × (Nat → Nat) × (Nat → Nat) := bfS (fun x => (rk P x P).1) (fun m x => tr (fun q => t (m * 7 + q)) x P) Mv (fac P) 0 (1, un (fun _ => 0) 0 (hm8 P), un (fun _ => 0) (rk P (hm8 P) P).1 1)
def RE (A : CA) (R : RA) : Prop := (TV A.P A.Mv A.t A.od) ∧ (R.P = A.P) ∧ (R.Mv = A.Mv) ∧ (R.t = A.t) ∧ (WV A.wc A.rl A.rr A.wg) ∧ (WI A.P A.t A.wc A.rl A.rr A.wg) ∧ (R.wc = A.wc) ∧ (R.ln = A.rl) ∧ (R.rr = A.rr) ∧ (SV A.sc A.sg A.su A.us) ∧ (∀ q, A.sg q < 2 ^ A.P) ∧ (∀ s, s < A.sc → ∀ k, k < A.su s → A.us (s * 12 + k) < A.wc) ∧ (R.sc = A.sc) ∧ (R.go = A.sg) ∧ (R.us = A.su) ∧ (R.ud = A.us) ∧ (A.bc ≤ 100) ∧ (∀ q, A.tx q < 256) ∧ (R.sz = A.bc) ∧ (R.tx = A.tx) ∧ (∀ q, A.kd q < 256) ∧ (A.pl < 2) ∧ (A.fl = fac A.P) ∧ (A.sl = A.fl / 32 + 1) ∧ (∀ q, A.se q < 4294967296) ∧ (A.fc = 0 ∨ (A.fc = (bf0 A.P A.Mv A.t).1 ∧ ∀ i, i < A.fc → A.fo i = (bf0 A.P A.Mv A.t).2.1 i)) ∧ (pm A.P A.st) ∧ (∀ p, p < A.P → R.nw p = dg A.st p) ∧ (A.dc ≤ 7) ∧ (R.tl = A.dc) ∧ (∀ k, k < A.dc → R.te k = A.dn k)
theorem RE.T {A : CA} {R : RA} (h : RE A R) : TV A.P A.Mv A.t A.od := h.1
theorem RE.p {A : CA} {R : RA} (h : RE A R) : R.P = A.P := h.2.1
theorem RE.m {A : CA} {R : RA} (h : RE A R) : R.Mv = A.Mv := h.2.2.1
theorem RE.t {A : CA} {R : RA} (h : RE A R) : R.t = A.t := h.2.2.2.1
theorem RE.V {A : CA} {R : RA} (h : RE A R) : WV A.wc A.rl A.rr A.wg := h.2.2.2.2.1
theorem RE.wi {A : CA} {R : RA} (h : RE A R) : WI A.P A.t A.wc A.rl A.rr A.wg := h.2.2.2.2.2.1
theorem RE.wc {A : CA} {R : RA} (h : RE A R) : R.wc = A.wc := h.2.2.2.2.2.2.1
theorem RE.ln {A : CA} {R : RA} (h : RE A R) : R.ln = A.rl := h.2.2.2.2.2.2.2.1
theorem RE.rr {A : CA} {R : RA} (h : RE A R) : R.rr = A.rr := h.2.2.2.2.2.2.2.2.1
theorem RE.S {A : CA} {R : RA} (h : RE A R) : SV A.sc A.sg A.su A.us := h.2.2.2.2.2.2.2.2.2.1
theorem RE.sP {A : CA} {R : RA} (h : RE A R) : ∀ q, A.sg q < 2 ^ A.P := h.2.2.2.2.2.2.2.2.2.2.1
theorem RE.uw {A : CA} {R : RA} (h : RE A R) : ∀ s, s < A.sc → ∀ k, k < A.su s → A.us (s * 12 + k) < A.wc := h.2.2.2.2.2.2.2.2.2.2.2.1
theorem RE.sc {A : CA} {R : RA} (h : RE A R) : R.sc = A.sc := h.2.2.2.2.2.2.2.2.2.2.2.2.1
theorem RE.go {A : CA} {R : RA} (h : RE A R) : R.go = A.sg := h.2.2.2.2.2.2.2.2.2.2.2.2.2.1
theorem RE.us {A : CA} {R : RA} (h : RE A R) : R.us = A.su := h.2.2.2.2.2.2.2.2.2.2.2.2.2.2.1
theorem RE.ud {A : CA} {R : RA} (h : RE A R) : R.ud = A.us := h.2.2.2.2.2.2.2.2.2.2.2.2.2.2.2.1
theorem RE.bc {A : CA} {R : RA} (h : RE A R) : A.bc ≤ 100 := h.2.2.2.2.2.2.2.2.2.2.2.2.2.2.2.2.1
theorem RE.tx {A : CA} {R : RA} (h : RE A R) : ∀ q, A.tx q < 256 := h.2.2.2.2.2.2.2.2.2.2.2.2.2.2.2.2.2.1
theorem RE.sz {A : CA} {R : RA} (h : RE A R) : R.sz = A.bc := h.2.2.2.2.2.2.2.2.2.2.2.2.2.2.2.2.2.2.1
theorem RE.te {A : CA} {R : RA} (h : RE A R) : R.tx = A.tx := h.2.2.2.2.2.2.2.2.2.2.2.2.2.2.2.2.2.2.2.1
theorem RE.kd {A : CA} {R : RA} (h : RE A R) : ∀ q, A.kd q < 256 := h.2.2.2.2.2.2.2.2.2.2.2.2.2.2.2.2.2.2.2.2.1
theorem RE.pl {A : CA} {R : RA} (h : RE A R) : A.pl < 2 := h.2.2.2.2.2.2.2.2.2.2.2.2.2.2.2.2.2.2.2.2.2.1
theorem RE.fl {A : CA} {R : RA} (h : RE A R) : A.fl = fac A.P := h.2.2.2.2.2.2.2.2.2.2.2.2.2.2.2.2.2.2.2.2.2.2.1
theorem RE.sl {A : CA} {R : RA} (h : RE A R) : A.sl = A.fl / 32 + 1 := h.2.2.2.2.2.2.2.2.2.2.2.2.2.2.2.2.2.2.2.2.2.2.2.1
theorem RE.se {A : CA} {R : RA} (h : RE A R) : ∀ q, A.se q < 4294967296 := h.2.2.2.2.2.2.2.2.2.2.2.2.2.2.2.2.2.2.2.2.2.2.2.2.1
theorem RE.fc {A : CA} {R : RA} (h : RE A R) : A.fc = 0 ∨ (A.fc = (bf0 A.P A.Mv A.t).1 ∧ ∀ i, i < A.fc → A.fo i = (bf0 A.P A.Mv A.t).2.1 i) := h.2.2.2.2.2.2.2.2.2.2.2.2.2.2.2.2.2.2.2.2.2.2.2.2.2.1
theorem RE.st {A : CA} {R : RA} (h : RE A R) : pm A.P A.st := h.2.2.2.2.2.2.2.2.2.2.2.2.2.2.2.2.2.2.2.2.2.2.2.2.2.2.1
theorem RE.nw {A : CA} {R : RA} (h : RE A R) : ∀ p, p < A.P → R.nw p = dg A.st p := h.2.2.2.2.2.2.2.2.2.2.2.2.2.2.2.2.2.2.2.2.2.2.2.2.2.2.2.1
theorem RE.dc {A : CA} {R : RA} (h : RE A R) : A.dc ≤ 7 := h.2.2.2.2.2.2.2.2.2.2.2.2.2.2.2.2.2.2.2.2.2.2.2.2.2.2.2.2.1
theorem RE.tl {A : CA} {R : RA} (h : RE A R) : R.tl = A.dc := h.2.2.2.2.2.2.2.2.2.2.2.2.2.2.2.2.2.2.2.2.2.2.2.2.2.2.2.2.2.1
theorem RE.dn {A : CA} {R : RA} (h : RE A R) : ∀ k, k < A.dc → R.te k = A.dn k := h.2.2.2.2.2.2.2.2.2.2.2.2.2.2.2.2.2.2.2.2.2.2.2.2.2.2.2.2.2.2
theorem RE.TR {A : CA} {R : RA} (h : RE A R) : TV R.P R.Mv R.t A.od := by
  rw [h.p, h.m, h.t]
  exact h.T
theorem RE.VR {A : CA} {R : RA} (h : RE A R) : WV R.wc R.ln R.rr (fun _ => 0) := by
  rw [h.wc, h.ln, h.rr]
  exact ⟨h.V.wc, h.V.rl, h.V.rr, fun _ => (show 0 < 7 by decide)⟩
theorem RE.SR {A : CA} {R : RA} (h : RE A R) : SV R.sc R.go R.us R.ud := by
  rw [h.sc, h.go, h.us, h.ud]
  exact h.S
theorem im_congr {t r1 r2 : Nat → Nat} : ∀ (k p : Nat), (∀ j, j < k → r1 j = r2 j) → im t r1 k p = im t r2 k p
  | 0, _, _ => rfl
  | k + 1, p, h => by
    show bh t (r1 k / 16) (r1 k % 16) (im t r1 k p) = bh t (r2 k / 16) (r2 k % 16) (im t r2 k p)
    rw [h k (by omega), im_congr k p (fun j hj => h j (by omega))]
theorem wgs_lt {F g : Nat → Nat} {w p q : Nat} (h : q < w * 7) : wgs F w p g q = g q := by
  induction p with
  | zero => rfl
  | succ p ih =>
    show un (wgs F w p g) (w * 7 + p) (F p) q = g q
    rw [un_ne (by omega), ih]
theorem wgs_at {F g : Nat → Nat} {w p q : Nat} (h : q < p) : wgs F w p g (w * 7 + q) = F q := by
  induction p with
  | zero => omega
  | succ p ih =>
    show un (wgs F w p g) (w * 7 + p) (F p) (w * 7 + q) = F q
    by_cases e : q = p
    · rw [e, un_at]
    · rw [un_ne (by omega), ih (by omega)]
theorem wgs_b {F g : Nat → Nat} {w P B : Nat} (hF : ∀ p, p < P → F p < B) (hg : ∀ q, g q < B) : ∀ p, p ≤ P → ∀ q, wgs F w p g q < B
  | 0, _ => hg
  | p + 1, h => by
    intro q
    show un (wgs F w p g) (w * 7 + p) (F p) q < B
    by_cases e : q = w * 7 + p
    · rw [e, un_at]; exact hF p (by omega)
    · rw [un_ne e]; exact wgs_b hF hg p (by omega) q
/-- a word more -/
theorem WV_add {P Mv wc L : Nat} {t od rl rr wg f : Nat → Nat} (T : TV P Mv t od) (V : WV wc rl rr wg) (I : WI P t wc rl rr wg) (hw : wc < 30) (hL : L ≤ 40) (hf : ∀ k, k < L → f k < 96) :
    WV (wc + 1) (un rl wc L) (cpn f rr (wc * 40) L) (wgs (im t (fun k => cpn f rr (wc * 40) L (wc * 40 + k)) (un rl wc L wc)) wc P wg) ∧
    WI P t (wc + 1) (un rl wc L) (cpn f rr (wc * 40) L) (wgs (im t (fun k => cpn f rr (wc * 40) L (wc * 40 + k)) (un rl wc L wc)) wc P wg) := by
  have hr : ∀ q, cpn f rr (wc * 40) L q < 96 := by
    intro q
    unfold cpn
    split
    · exact hf _ (by omega)
    · exact V.rr q
  have hi : ∀ p, p < P → im t (fun k => cpn f rr (wc * 40) L (wc * 40 + k)) (un rl wc L wc) p < 7 := by
    intro p hp
    have h1 := im_lt (P := P) (t := t) (R := fun k => cpn f rr (wc * 40) L (wc * 40 + k)) (L := un rl wc L wc) (fun k _ q hq => T.ht _ q hq) _ (Nat.le_refl _) p hp
    have := T.p7
    omega
  refine ⟨⟨by omega, fun q => ?_, hr, wgs_b hi V.wg P (Nat.le_refl _)⟩, fun w hw2 p hp => ?_⟩
  · by_cases e : q = wc
    · rw [e, un_at]; exact hL
    · rw [un_ne e]; exact V.rl q
  · by_cases e : w = wc
    · rw [e, wgs_at hp]
    · have hlt : w < wc := by omega
      have h7 := T.p7
      rw [wgs_lt (by omega), un_ne e, I w hlt p hp]
      refine im_congr _ _ (fun j hj => ?_)
      have := V.rl w
      show rr (w * 40 + j) = cpn f rr (wc * 40) L (w * 40 + j)
      unfold cpn
      rw [if_neg (by omega)]
theorem sh_a {od f : Nat → Nat} {j i k : Nat} (c : 0 < k ∧ f (k - 1) / 16 = f i / 16) (c2 : 0 < (f i % 16 + f (k - 1) % 16) % od (f i / 16)) : sh od (j + 1) i k f = sh od j (i + 1) (k - 1 + 1) (un f (k - 1) (f i / 16 * 16 + (f i % 16 + f (k - 1) % 16) % od (f i / 16))) := (if_pos c).trans (if_pos c2)
theorem sh_b {od f : Nat → Nat} {j i k : Nat} (c : 0 < k ∧ f (k - 1) / 16 = f i / 16) (c2 : ¬ 0 < (f i % 16 + f (k - 1) % 16) % od (f i / 16)) : sh od (j + 1) i k f = sh od j (i + 1) (k - 1) f := (if_pos c).trans (if_neg c2)
theorem sh_c {od f : Nat → Nat} {j i k : Nat} (c : ¬ (0 < k ∧ f (k - 1) / 16 = f i / 16)) (c2 : 0 < f i % 16) : sh od (j + 1) i k f = sh od j (i + 1) (k + 1) (un f k (f i / 16 * 16 + f i % 16)) := (if_neg c).trans (if_pos c2)
theorem sh_d {od f : Nat → Nat} {j i k : Nat} (c : ¬ (0 < k ∧ f (k - 1) / 16 = f i / 16)) (c2 : ¬ 0 < f i % 16) : sh od (j + 1) i k f = sh od j (i + 1) k f := (if_neg c).trans (if_neg c2)
/-- rows shortened: what comes of the same rows -/
theorem sh_ev {od : Nat → Nat} {n : Nat} : ∀ (j i k : Nat) (f g : Nat → Nat), i + j = n → k ≤ i → (∀ q, q < n → f q = g q) → (sh od j i k f).1 = (sh od j i k g).1 ∧ ∀ q, q < n → (sh od j i k f).2 q = (sh od j i k g).2 q
  | 0, _, _, _, _, _, _, h => ⟨rfl, h⟩
  | j + 1, i, k, f, g, hj, hk, h => by
    have hi := h i (by omega)
    have hu : ∀ (u v : Nat), ∀ q, q < n → un f u v q = un g u v q := by
      intro u v q hq
      by_cases e : q = u
      · rw [e, un_at, un_at]
      · rw [un_ne e, un_ne e]; exact h q hq
    by_cases c : 0 < k ∧ f (k - 1) / 16 = f i / 16
    · have hk1 := h (k - 1) (by omega)
      by_cases c2 : 0 < (f i % 16 + f (k - 1) % 16) % od (f i / 16)
      · rw [sh_a c c2, sh_a (f := g) (by rw [← hk1, ← hi]; exact c) (by rw [← hk1, ← hi]; exact c2), ← hk1, ← hi]
        exact sh_ev j (i + 1) _ _ _ (by omega) (by omega) (hu _ _)
      · rw [sh_b c c2, sh_b (f := g) (by rw [← hk1, ← hi]; exact c) (by rw [← hk1, ← hi]; exact c2)]
        exact sh_ev j (i + 1) _ _ _ (by omega) (by omega) h
    · have c9 : ¬ (0 < k ∧ g (k - 1) / 16 = g i / 16) := by
        intro q
        have hk1 := h (k - 1) (by omega)
        rw [← hk1, ← hi] at q
        exact c q
      by_cases c2 : 0 < f i % 16
      · rw [sh_c c c2, sh_c c9 (by rw [← hi]; exact c2), ← hi]
        exact sh_ev j (i + 1) _ _ _ (by omega) (by omega) (hu _ _)
      · rw [sh_d c c2, sh_d c9 (by rw [← hi]; exact c2)]
        exact sh_ev j (i + 1) _ _ _ (by omega) (by omega) h
theorem sh_ok {od : Nat → Nat} (ho : ∀ m, m < 6 → 1 ≤ od m ∧ od m ≤ 12) {n : Nat} : ∀ (j i k : Nat) (f : Nat → Nat), i + j = n → k ≤ i → (∀ q, q < n → ro od (f q)) → (sh od j i k f).1 ≤ n ∧ ∀ q, q < n → ro od ((sh od j i k f).2 q)
  | 0, i, k, f, hj, hk, h => ⟨by show k ≤ n; omega, h⟩
  | j + 1, i, k, f, hj, hk, h => by
    have hi := h i (by omega)
    have hi1 := hi.1
    unfold sh
    by_cases c : 0 < k ∧ f (k - 1) / 16 = f i / 16
    · rw [if_pos c]
      by_cases c2 : 0 < (f i % 16 + f (k - 1) % 16) % od (f i / 16)
      · rw [if_pos c2]
        exact sh_ok ho j (i + 1) _ _ (by omega) (by omega) (ro_un h (ro_mk ho (by omega)))
      · rw [if_neg c2]
        exact sh_ok ho j (i + 1) _ _ (by omega) (by omega) h
    · rw [if_neg c]
      by_cases c2 : 0 < f i % 16
      · rw [if_pos c2]
        exact sh_ok ho j (i + 1) _ _ (by omega) (by omega) (ro_un h (by rw [show f i / 16 * 16 + f i % 16 = f i by omega]; exact hi))
      · rw [if_neg c2]
        exact sh_ok ho j (i + 1) _ _ (by omega) (by omega) h
theorem rt_ok : ∀ (j i : Nat) (A : CA), NV A → (∀ q, A.tx q < 256) → NV (rt j i A).2 ∧ sR A (rt j i A).2 ∧ (rt j i A).1 ≤ i + j
  | 0, i, A, N, _ => ⟨N, sR.rf, Nat.le_refl _⟩
  | j + 1, i, A, N, ht => by
    have e9 : rt (j + 1) i A = match nx A (A.tx i) with
      | none => (i, A)
      | some A1 => rt j (i + 1) A1 := rfl
    rw [e9]
    cases e : nx A (A.tx i) with
    | none => exact ⟨N, sR.rf, Nat.le_add_right i (j + 1)⟩
    | some A1 =>
      obtain ⟨N1, s1⟩ := NV_nx (ht i) N e
      obtain ⟨h1, h2, h3⟩ := rt_ok j (i + 1) A1 N1 (by rw [s1.tx]; exact ht)
      exact ⟨h1, s1.tr h2, show (rt j (i + 1) A1).1 ≤ i + (j + 1) by omega⟩
/-- the reader as it begins -/
def r0 (A : CA) : CA := CA.s_sn (CA.s_ov (CA.s_rc (CA.s_dp A 0) 0) 0) 0
theorem RE.nv {A : CA} {R : RA} (h : RE A R) : NV (r0 A) := ⟨h.T, ⟨by show 0 ≤ 400; decide, fun i hi => absurd hi (Nat.not_lt_zero _), (show 0 < 2 by decide)⟩, (show 0 ≤ 8 by decide), h.kd, fun i hi => absurd hi (Nat.not_lt_zero _), fun q => absurd rfl q, h.pl, (show 0 < 3 by decide)⟩
theorem g_look {X : Nat × (Nat → Int32)} {d : Nat} {A : CA} {R : RA} {o : Nat → Int64} {C : CA} (S : SI C (RA.s_tm (RA.s_dp (RA.s_mn R 0) 0) 0) (0, R.cm, 0)) (hn : C.sn = 0) : ∃ R2 : RA, px_ev X (d + 7) 108 [.ref 26] (WW A R o) (some (some (.int (lkr C.bc (rt C.bc 0 C)))), WW A R2 o, 0, 0) ∧ SI (rt C.bc 0 C).2 R2 (R2.mn, R2.cm, R2.tm) ∧ sM R R2 := by
  refine wp_ex (f := fun R2 => (some (some (.int (lkr C.bc (rt C.bc 0 C)))), WW A R2 o, 0, 0)) (d := d + 6) (by decide) rfl rfl (fun _ h => by cases h) ?_
  show wp X (d + 6) 108 (0, [.ref 26, .retAddr 0, .retAddr 0, .retAddr 0], [], WW A R o, 0, 0) _
  refine wz_aload_n (p9 := 1) rfl rfl rfl ?_
  refine wz_iconst (x := nI 0) (p9 := 2) rfl rfl (by decide) ?_
  refine wp_Rmn (x := 0) (p9 := 5) rfl rfl rfl rfl (R1 := (RA.s_mn R 0)) rfl ?_
  refine wz_aload_n (p9 := 6) rfl rfl rfl ?_
  refine wz_iconst (x := nI 0) (p9 := 7) rfl rfl (by decide) ?_
  refine wp_Rdp (x := 0) (p9 := 10) rfl rfl rfl rfl (R1 := (RA.s_dp (RA.s_mn R 0) 0)) rfl ?_
  refine wz_aload_n (p9 := 11) rfl rfl rfl ?_
  refine wz_iconst (x := nI 0) (p9 := 12) rfl rfl (by decide) ?_
  refine wp_Rtm (x := 0) (p9 := 15) rfl rfl rfl rfl (by omega) (R1 := (RA.s_dp (RA.s_tm (RA.s_mn R 0) 0) 0)) rfl ?_
  refine wz_iconst (x := nI 0) (p9 := 16) rfl rfl (by decide) ?_
  refine wz_istore_n (l9 := [.ref 26, .int (nI 0), .retAddr 0, .retAddr 0]) (p9 := 17) rfl rfl rfl rfl ?_
  exact l_look C.bc 0 C (RA.s_tm (RA.s_dp (RA.s_mn R 0) 0) 0) _ _ (Nat.zero_le _) (Nat.le_refl _) S (fun _ => ⟨fun q => by omega, fun q => absurd hn q⟩) (fun R2 h1 h2 => ⟨R2, rfl, h1, h2⟩)
