/-! THE CLASS: the search for set-ups (wip/whole/gen/mk96.py) -/
theorem q_eq32 {a b : Nat} (ha : a < 4294967296) (hb : b < 4294967296) : nI a = nI b ↔ a = b := by
  constructor
  · intro e
    have h1 := congrArg (fun q : Int32 => q.toBitVec.toNat) e
    simp only [q_bv, BitVec.toNat_ofNat] at h1
    omega
  · intro e; rw [e]
theorem q_M1 : (-1 : Int32) = nI 4294967295 := by decide
def t3 (f : Nat → Nat) (x : Nat) : Nat → Nat
  | 0 => 0
  | p + 1 => t3 f x p ||| f (dg x p) * 8 ^ p
/-- three places -/
def o3 (P x : Nat) : Prop := ∀ p, p < 3 → dg x p < P
theorem t3_lt {f : Nat → Nat} {x : Nat} (h : ∀ p, p < 3 → f (dg x p) < 8) : ∀ p, p ≤ 3 → t3 f x p < 8 ^ p
  | 0, _ => show 0 < 8 ^ 0 by decide
  | p + 1, hp => by
    have h1 := t3_lt h p (by omega)
    have h2 := h p (by omega)
    show t3 f x p ||| f (dg x p) * 8 ^ p < 8 ^ (p + 1)
    rw [q_or8 h1, Nat.pow_succ]
    have : f (dg x p) * 8 ^ p ≤ 7 * 8 ^ p := Nat.mul_le_mul (by omega) (Nat.le_refl _)
    omega
theorem t3_512 {f : Nat → Nat} {x : Nat} (h : ∀ p, p < 3 → f (dg x p) < 8) : t3 f x 3 < 512 := t3_lt h 3 (Nat.le_refl _)
theorem l_t3 {X : Nat × (Nat → Int32)} {d : Nat} {A : CA} {R : RA} {o : Nat → Int64} (T : TV A.P A.Mv A.t A.od) {m x : Nat} (hm : m < 6) (hx : x < 512) (h3 : o3 A.P x) {k z : Nat} {Q : px_Z → Prop} (kk : Q (some (some (.int (nI (t3 (fun q => A.t (m * 7 + q)) x 3)))), WW A R o, k, z)) : ∀ (j p : Nat), p + j = 3 → wp X (d + 1) 70 (5, [.ref 21, .int (nI m), .int (nI x), .int (nI (t3 (fun q => A.t (m * 7 + q)) x p)), .int (nI p)], [], WW A R o, k, z) Q
  | 0, p, hj => by
    obtain rfl : p = 3 := by omega
    refine wz_iload (p9 := 7) rfl rfl rfl ?_
    refine wz_iconst (x := nI 3) (p9 := 8) rfl rfl (by decide) ?_
    refine wn_icge (t9 := 39) (p9 := 11) rfl rfl rfl (by omega) (by omega) (fun _ => ?_) (fun h9 => by omega)
    refine wz_iload_n (p9 := 40) rfl rfl rfl ?_
    exact wz_reti rfl rfl kk
  | j + 1, p, hj => by
    refine wz_iload (p9 := 7) rfl rfl rfl ?_
    refine wz_iconst (x := nI 3) (p9 := 8) rfl rfl (by decide) ?_
    refine wn_icge (t9 := 39) (p9 := 11) rfl rfl rfl (by omega) (by omega) (fun h9 => by omega) (fun _ => ?_)
    refine wz_iload_n (p9 := 12) rfl rfl rfl ?_
    refine wz_aload_n (p9 := 13) rfl rfl rfl ?_
    refine wz_get (v := .ref 1) (p9 := 16) rfl rfl rfl rfl rfl ?_
    refine wz_iload_n (p9 := 17) rfl rfl rfl ?_
    refine wz_iload_n (p9 := 18) rfl rfl rfl ?_
    refine wz_iload (p9 := 20) rfl rfl rfl ?_
    refine wz_c1 (p9 := 23) (w1 := WW A R o) (u := .int (nI (dg x p))) (tz_calS (N := 152) (As := [.int (nI x), .int (nI p)]) (rest := [.int (nI m), .ref 1, .int (nI (t3 (fun q => A.t (m * 7 + q)) x p))]) rfl rfl rfl rfl rfl rfl) rfl ((g_pieceAt (d := 0) (by omega) (by omega)).up (by omega)) ?_
    refine wz_c1 (p9 := 26) (w1 := WW A R o) (u := .int (nI (A.t (m * 7 + dg x p)))) (wa_v (N := 5) (i := 1) (As := [.int (nI m), .int (nI (dg x p))]) (rest := [.int (nI (t3 (fun q => A.t (m * 7 + q)) x p))]) rfl rfl rfl rfl rfl rfl rfl) rfl ((g_goalOf (d := 0) T hm (by have := h3 p (by omega); have := T.p7; omega)).up (by omega)) ?_
    refine wz_iload (p9 := 28) rfl rfl rfl ?_
    refine wz_c1 (p9 := 31) (w1 := WW A R o) (u := .int (nI ((A.t (m * 7 + dg x p)) * 8 ^ p))) (tz_calS (N := 153) (As := [.int (nI (A.t (m * 7 + dg x p))), .int (nI p)]) (rest := [.int (nI (t3 (fun q => A.t (m * 7 + q)) x p))]) rfl rfl rfl rfl rfl rfl) rfl ((g_pieceTo (d := 0) (by omega)).up (by omega)) ?_
    refine wn_or (p9 := 32) rfl rfl ?_
    refine wz_istore_n (l9 := [.ref 21, .int (nI m), .int (nI x), .int (nI ((t3 (fun q => A.t (m * 7 + q)) x p) ||| ((A.t (m * 7 + dg x p)) * 8 ^ p))), .int (nI p)]) (p9 := 33) rfl rfl rfl rfl ?_
    refine wn_inc (b := 1) (l9 := [.ref 21, .int (nI m), .int (nI x), .int (nI ((t3 (fun q => A.t (m * 7 + q)) x p) ||| ((A.t (m * 7 + dg x p)) * 8 ^ p))), .int (nI (p + 1))]) (p9 := 36) rfl rfl rfl (by decide) rfl ?_
    refine wz_goto (p9 := 5) rfl rfl ?_
    exact l_t3 T hm hx h3 kk j (p + 1) (by omega)
theorem g_t3 {X : Nat × (Nat → Int32)} {d : Nat} {A : CA} {R : RA} {o : Nat → Int64} (T : TV A.P A.Mv A.t A.od) {m x : Nat} (hm : m < 6) (hx : x < 512) (h3 : o3 A.P x) : px_ev X (d + 2) 70 [.ref 21, .int (nI m), .int (nI x)] (WW A R o) (some (some (.int (nI (t3 (fun q => A.t (m * 7 + q)) x 3)))), WW A R o, 0, 0) := by
  refine wp_ev (d := d + 1) (by decide) rfl rfl (fun h => by cases h) ?_
  show wp X (d + 1) 70 (0, [.ref 21, .int (nI m), .int (nI x), .retAddr 0, .retAddr 0], [], WW A R o, 0, 0) _
  refine wz_iconst (x := nI 0) (p9 := 1) rfl rfl (by decide) ?_
  refine wz_istore_n (l9 := [.ref 21, .int (nI m), .int (nI x), .int (nI 0), .retAddr 0]) (p9 := 2) rfl rfl rfl rfl ?_
  refine wz_iconst (x := nI 0) (p9 := 3) rfl rfl (by decide) ?_
  refine wz_istore (l9 := [.ref 21, .int (nI m), .int (nI x), .int (nI 0), .int (nI 0)]) (p9 := 5) rfl rfl rfl rfl ?_
  exact l_t3 (Q := fun q => q = (some (some (.int (nI (t3 (fun q => A.t (m * 7 + q)) x 3)))), WW A R o, 0, 0)) T hm hx h3 rfl 3 0 rfl
def ar (x v : Nat) (b : Nat × (Nat → Nat) × (Nat → Nat)) : Nat × (Nat → Nat) × (Nat → Nat) := if b.2.2 x = 4294967295 then (b.1 + 1, un b.2.1 b.1 x, un b.2.2 x v) else b
theorem g_reach1 {X : Nat × (Nat → Int32)} {d : Nat} {A : CA} {R : RA} {o : Nat → Int64} {x v : Nat} (hx : x < 512) (hf : A.fa x = 4294967295) (hq : A.qn < 512) : px_ev X (d + 1) 68 [.ref 21, .int (nI x), .int (nI v)] (WW A R o) (some none, WW (CA.s_fa (CA.s_qu (CA.s_qn A (A.qn + 1)) (un A.qu A.qn x)) (un A.fa x v)) R o, 0, 0) := by
  refine wp_ev (d := d + 0) (by decide) rfl rfl (fun h => by cases h) ?_
  show wp X (d + 0) 68 (0, [.ref 21, .int (nI x), .int (nI v)], [], WW A R o, 0, 0) _
  refine wz_aload_n (p9 := 1) rfl rfl rfl ?_
  refine wz_get (v := .ref 22) (p9 := 4) rfl rfl rfl rfl rfl ?_
  refine wz_iload_n (p9 := 5) rfl rfl rfl ?_
  refine wl_Afa (f := A.fa) (p9 := 6) rfl rfl rfl (by omega) ?_
  refine wz_iconst (x := (-1)) (p9 := 7) rfl rfl (by decide) ?_
  refine wz_icne (t9 := 37) (p9 := 10) rfl rfl rfl (fun h9 => absurd (by rw [hf]; exact q_M1.symm) h9) (fun _ => ?_)
  refine wz_aload_n (p9 := 11) rfl rfl rfl ?_
  refine wz_get (v := .ref 22) (p9 := 14) rfl rfl rfl rfl rfl ?_
  refine wz_iload_n (p9 := 15) rfl rfl rfl ?_
  refine wz_iload_n (p9 := 16) rfl rfl rfl ?_
  refine ws_Afa (f := A.fa) (p9 := 17) rfl rfl rfl (by omega) (A1 := (CA.s_fa A (un A.fa x v))) rfl ?_
  refine wz_aload_n (p9 := 18) rfl rfl rfl ?_
  refine wz_get (v := .ref 23) (p9 := 21) rfl rfl rfl rfl rfl ?_
  refine wz_aload_n (p9 := 22) rfl rfl rfl ?_
  refine wz_get (v := .int (nI A.qn)) (p9 := 25) rfl rfl rfl rfl rfl ?_
  refine wz_iload_n (p9 := 26) rfl rfl rfl ?_
  refine ws_Aqu (f := A.qu) (p9 := 27) rfl rfl rfl (by omega) (A1 := (CA.s_qu (CA.s_fa A (un A.fa x v)) (un A.qu A.qn x))) rfl ?_
  refine wz_aload_n (p9 := 28) rfl rfl rfl ?_
  refine wz_dupr (p9 := 29) rfl rfl ?_
  refine wz_get (v := .int (nI A.qn)) (p9 := 32) rfl rfl rfl rfl rfl ?_
  refine wz_iconst (x := nI 1) (p9 := 33) rfl rfl (by decide) ?_
  refine wn_add (p9 := 34) rfl rfl ?_
  refine wp_Aqn (x := (A.qn + 1)) (p9 := 37) rfl rfl rfl rfl (A1 := (CA.s_qn (CA.s_qu (CA.s_fa A (un A.fa x v)) (un A.qu A.qn x)) (A.qn + 1))) rfl ?_
  exact wz_retv rfl rfl rfl
theorem g_reach0 {X : Nat × (Nat → Int32)} {d : Nat} {A : CA} {R : RA} {o : Nat → Int64} {x v : Nat} (hx : x < 512) (hf : A.fa x < 4294967295) : px_ev X (d + 1) 68 [.ref 21, .int (nI x), .int (nI v)] (WW A R o) (some none, WW A R o, 0, 0) := by
  refine wp_ev (d := d + 0) (by decide) rfl rfl (fun h => by cases h) ?_
  show wp X (d + 0) 68 (0, [.ref 21, .int (nI x), .int (nI v)], [], WW A R o, 0, 0) _
  refine wz_aload_n (p9 := 1) rfl rfl rfl ?_
  refine wz_get (v := .ref 22) (p9 := 4) rfl rfl rfl rfl rfl ?_
  refine wz_iload_n (p9 := 5) rfl rfl rfl ?_
  refine wl_Afa (f := A.fa) (p9 := 6) rfl rfl rfl (by omega) ?_
  refine wz_iconst (x := (-1)) (p9 := 7) rfl rfl (by decide) ?_
  refine wz_icne (t9 := 37) (p9 := 10) rfl rfl rfl (fun _ => ?_) (fun h9 => by rw [q_M1, q_eq32 (by omega) (by decide)] at h9; omega)
  exact wz_retv rfl rfl rfl
def sq (A : CA) (b : Nat × (Nat → Nat) × (Nat → Nat)) : CA := CA.s_fa (CA.s_qu (CA.s_qn A b.1) b.2.1) b.2.2
theorem g_reach {X : Nat × (Nat → Int32)} {d : Nat} {A : CA} {R : RA} {o : Nat → Int64} {x v : Nat} {b : Nat × (Nat → Nat) × (Nat → Nat)} (hb : (A.qn, A.qu, A.fa) = b) (hx : x < 512) (hf : b.2.2 x < 4294967296) (hq : b.2.2 x = 4294967295 → b.1 < 512) : px_ev X (d + 1) 68 [.ref 21, .int (nI x), .int (nI v)] (WW A R o) (some none, WW (sq A (ar x v b)) R o, 0, 0) := by
  subst hb
  by_cases h : A.fa x = 4294967295
  · rw [show ar x v (A.qn, A.qu, A.fa) = (A.qn + 1, un A.qu A.qn x, un A.fa x v) from if_pos h]
    exact g_reach1 hx h (hq h)
  · rw [show ar x v (A.qn, A.qu, A.fa) = (A.qn, A.qu, A.fa) from if_neg h]
    exact g_reach0 hx (by have : A.fa x < 4294967296 := hf; omega)
/-- how many of the first k are not reached -/
def zm (f : Nat → Nat) : Nat → Nat
  | 0 => 0
  | k + 1 => zm f k + if f k = 4294967295 then 1 else 0
theorem zm_ge {f : Nat → Nat} {r v : Nat} : ∀ {k : Nat}, k ≤ r → zm (un f r v) k = zm f k
  | 0, _ => rfl
  | k + 1, h => by
    show zm (un f r v) k + (if un f r v k = 4294967295 then 1 else 0) = zm f k + (if f k = 4294967295 then 1 else 0)
    rw [zm_ge (by omega), un_ne (by omega)]
theorem zm_un {f : Nat → Nat} {r v : Nat} (h0 : f r = 4294967295) (hv : v ≠ 4294967295) : ∀ {k : Nat}, r < k → zm (un f r v) k + 1 = zm f k
  | k + 1, h => by
    show zm (un f r v) k + (if un f r v k = 4294967295 then 1 else 0) + 1 = zm f k + (if f k = 4294967295 then 1 else 0)
    by_cases e : k = r
    · rw [e, un_at, h0, zm_ge (Nat.le_refl _), if_neg hv, if_pos rfl]
    · have := zm_un h0 hv (k := k) (by omega)
      rw [un_ne e]
      omega
/-- what holds while triples are reached -/
def B3 (P : Nat) (b : Nat × (Nat → Nat) × (Nat → Nat)) : Prop := b.1 + zm b.2.2 512 = 512 ∧ (∀ i, i < b.1 → b.2.1 i < 512 ∧ o3 P (b.2.1 i) ∧ b.2.2 (b.2.1 i) < b.1) ∧ ∀ x, x < 512 → b.2.2 x = 4294967295 ∨ b.2.2 x < b.1
theorem B3_ar {P x v : Nat} {b : Nat × (Nat → Nat) × (Nat → Nat)} (h : B3 P b) (hx : x < 512) (h3 : o3 P x) (hv : v ≤ b.1) : B3 P (ar x v b) := by
  unfold ar
  split
  · rename_i h0
    have h9 := h.1
    have h1 := zm_un h0 (v := v) (by omega) hx
    refine ⟨?_, fun i hi => ?_, fun y hy => ?_⟩
    · show b.1 + 1 + zm (un b.2.2 x v) 512 = 512
      omega
    · have hi2 : i < b.1 + 1 := hi
      show un b.2.1 b.1 x i < 512 ∧ o3 P (un b.2.1 b.1 x i) ∧ un b.2.2 x v (un b.2.1 b.1 x i) < b.1 + 1
      by_cases e : i = b.1
      · rw [e, un_at, un_at]; exact ⟨hx, h3, by omega⟩
      · rw [un_ne e]
        have h4 := h.2.1 i (by omega)
        refine ⟨h4.1, h4.2.1, ?_⟩
        by_cases e2 : b.2.1 i = x
        · rw [e2, un_at]; omega
        · rw [un_ne e2]; omega
    · show un b.2.2 x v y = 4294967295 ∨ un b.2.2 x v y < b.1 + 1
      by_cases e : y = x
      · rw [e, un_at]; right; omega
      · rw [un_ne e]; rcases h.2.2 y hy with q | q
        · exact Or.inl q
        · right; omega
  · exact h
theorem ar_ge {x v : Nat} {b : Nat × (Nat → Nat) × (Nat → Nat)} : b.1 ≤ (ar x v b).1 := by
  unfold ar
  split
  · exact Nat.le_succ _
  · exact Nat.le_refl _
theorem ar_keep {x v y : Nat} {b : Nat × (Nat → Nat) × (Nat → Nat)} (h : b.2.2 y ≠ 4294967295) : (ar x v b).2.2 y = b.2.2 y := by
  unfold ar
  split
  · rename_i h0
    exact un_ne (fun e => h (e ▸ h0))
  · rfl
theorem ar_q {x v i : Nat} {b : Nat × (Nat → Nat) × (Nat → Nat)} (h : i < b.1) : (ar x v b).2.1 i = b.2.1 i := by
  unfold ar
  split
  · exact un_ne (by omega)
  · rfl
def n1 (tf : Nat → Nat → Nat) (v m : Nat) : Nat → Nat → Nat × (Nat → Nat) × (Nat → Nat) → Nat × (Nat → Nat) × (Nat → Nat)
  | 0, _, b => b
  | j + 1, x, b => n1 tf v m j (tf m x) (ar (tf m x) v b)
def n2 (tf : Nat → Nat → Nat) (od : Nat → Nat) (v x : Nat) : Nat → Nat → Nat × (Nat → Nat) × (Nat → Nat) → Nat × (Nat → Nat) × (Nat → Nat)
  | 0, _, b => b
  | j + 1, m, b => n2 tf od v x j (m + 1) (n1 tf v m (od m - 1) x b)
def n3 (tf : Nat → Nat → Nat) (od : Nat → Nat) (Mv : Nat) : Nat → Nat → Nat × (Nat → Nat) × (Nat → Nat) → Nat × (Nat → Nat) × (Nat → Nat)
  | 0, _, b => b
  | j + 1, i, b => if i < b.1 then n3 tf od Mv j (i + 1) (n2 tf od (b.2.2 (b.2.1 i) + 1) (b.2.1 i) Mv 0 b) else b
theorem t3_eq {f : Nat → Nat} {x : Nat} (hf : ∀ p, p < 3 → f (dg x p) < 8) : t3 f x 3 = f (dg x 0) * 8 ^ 0 + f (dg x 1) * 8 ^ 1 + f (dg x 2) * 8 ^ 2 := by
  show t3 f x 2 ||| f (dg x 2) * 8 ^ 2 = _
  rw [q_or8 (t3_lt hf 2 (by decide))]
  show (t3 f x 1 ||| f (dg x 1) * 8 ^ 1) + _ = _
  rw [q_or8 (t3_lt hf 1 (by decide))]
  show ((t3 f x 0 ||| f (dg x 0) * 8 ^ 0)) + _ + _ = _
  rw [q_or8 (t3_lt hf 0 (by decide))]
  show 0 + _ + _ + _ = _
  omega
theorem dg_3 {u0 u1 u2 p : Nat} (h0 : u0 < 8) (h1 : u1 < 8) (h2 : u2 < 8) (hp : p < 3) : dg (u0 * 8 ^ 0 + u1 * 8 ^ 1 + u2 * 8 ^ 2) p = if p = 0 then u0 else if p = 1 then u1 else u2 := by
  unfold dg
  match p, hp with
  | 0, _ => show _ = u0; simp only [Nat.pow_zero, Nat.pow_one]; omega
  | 1, _ => show _ = u1; simp only [Nat.pow_zero, Nat.pow_one]; omega
  | 2, _ => show _ = u2; simp only [Nat.pow_zero, Nat.pow_one]; omega
theorem dg_t3 {f : Nat → Nat} {x p : Nat} (hf : ∀ p, p < 3 → f (dg x p) < 8) (hp : p < 3) : dg (t3 f x 3) p = f (dg x p) := by
  rw [t3_eq hf, dg_3 (hf 0 (by decide)) (hf 1 (by decide)) (hf 2 (by decide)) hp]
  match p, hp with
  | 0, _ => rfl
  | 1, _ => rfl
  | 2, _ => rfl
theorem o3_t3 {P m x : Nat} {t : Nat → Nat} (h7 : P ≤ 7) (ht : ∀ m p, p < P → t (m * 7 + p) < P) (h3 : o3 P x) : t3 (fun q => t (m * 7 + q)) x 3 < 512 ∧ o3 P (t3 (fun q => t (m * 7 + q)) x 3) := by
  have hf : ∀ p, p < 3 → (fun q => t (m * 7 + q)) (dg x p) < 8 := fun p hp => by have := ht m _ (h3 p hp); show t (m * 7 + dg x p) < 8; omega
  refine ⟨t3_512 hf, fun p hp => ?_⟩
  rw [dg_t3 hf hp]
  exact ht m _ (h3 p hp)
theorem l_n1 {X : Nat × (Nat → Int32)} {d : Nat} {A : CA} {R : RA} {o : Nat → Int64} (T : TV A.P A.Mv A.t A.od) {k z x m v : Nat} (hm : m < A.Mv) (hx : x < 512) {Q : px_Z → Prop} : ∀ (j t9 y : Nat) (b : Nat × (Nat → Nat) × (Nat → Nat)), t9 + j = A.od m → 1 ≤ t9 → y < 512 → o3 A.P y → B3 A.P b → b.2.2 x + 1 = v → b.2.2 x < b.1 → (∀ b2 : Nat × (Nat → Nat) × (Nat → Nat), b2 = n1 (fun m x => t3 (fun q => A.t (m * 7 + q)) x 3) v m j y b → B3 A.P b2 → b.1 ≤ b2.1 → b2.2.2 x + 1 = v → (∀ i, i < b.1 → b2.2.1 i = b.2.1 i) → ∀ v3 v4, wp X (d + 2) 69 (57, [.ref 21, .int (nI x), .int (nI m), v3, v4], [], WW (CA.s_qn (CA.s_qu (CA.s_fa A b2.2.2) b2.2.1) b2.1) R o, k, z) Q) → wp X (d + 2) 69 (18, [.ref 21, .int (nI x), .int (nI m), .int (nI y), .int (nI t9)], [], WW (CA.s_qn (CA.s_qu (CA.s_fa A b.2.2) b.2.1) b.1) R o, k, z) Q
  | 0, t9, y, b, hj, h1, hy, h3, hb, hv, hx1, kk => by
    have h6 := T.m6
    have h12 := T.o12 (m := m) (by omega)
    refine wz_iload (p9 := 20) rfl rfl rfl ?_
    refine wz_aload_n (p9 := 21) rfl rfl rfl ?_
    refine wz_get (v := .ref 1) (p9 := 24) rfl rfl rfl rfl rfl ?_
    refine wz_iload_n (p9 := 25) rfl rfl rfl ?_
    refine wz_c1 (p9 := 28) (w1 := WW (CA.s_qn (CA.s_qu (CA.s_fa A b.2.2) b.2.1) b.1) R o) (u := .int (nI (A.od m))) (wa_v (N := 2) (i := 1) (As := [.int (nI m)]) (rest := [.int (nI t9)]) rfl rfl rfl rfl rfl rfl rfl) rfl ((g_orderOf (d := 0) (A := (CA.s_qn (CA.s_qu (CA.s_fa A b.2.2) b.2.1) b.1)) (R := R) T (by omega)).up (by omega)) ?_
    refine wn_icge (t9 := 57) (p9 := 31) rfl rfl rfl (by omega) (by omega) (fun _ => ?_) (fun h9 => by omega)
    exact kk b rfl hb (Nat.le_refl _) hv (fun i _ => rfl) _ _
  | j + 1, t9, y, b, hj, h1, hy, h3, hb, hv, hx1, kk => by
    have h6 := T.m6
    have h12 := T.o12 (m := m) (by omega)
    have hY := o3_t3 (m := m) T.p7 T.ht h3
    have hb1 := hb.1
    refine wz_iload (p9 := 20) rfl rfl rfl ?_
    refine wz_aload_n (p9 := 21) rfl rfl rfl ?_
    refine wz_get (v := .ref 1) (p9 := 24) rfl rfl rfl rfl rfl ?_
    refine wz_iload_n (p9 := 25) rfl rfl rfl ?_
    refine wz_c1 (p9 := 28) (w1 := WW (CA.s_qn (CA.s_qu (CA.s_fa A b.2.2) b.2.1) b.1) R o) (u := .int (nI (A.od m))) (wa_v (N := 2) (i := 1) (As := [.int (nI m)]) (rest := [.int (nI t9)]) rfl rfl rfl rfl rfl rfl rfl) rfl ((g_orderOf (d := 0) (A := (CA.s_qn (CA.s_qu (CA.s_fa A b.2.2) b.2.1) b.1)) (R := R) T (by omega)).up (by omega)) ?_
    refine wn_icge (t9 := 57) (p9 := 31) rfl rfl rfl (by omega) (by omega) (fun h9 => by omega) (fun _ => ?_)
    refine wz_aload_n (p9 := 32) rfl rfl rfl ?_
    refine wz_iload_n (p9 := 33) rfl rfl rfl ?_
    refine wz_iload_n (p9 := 34) rfl rfl rfl ?_
    refine wz_c1 (p9 := 37) (w1 := WW (CA.s_qn (CA.s_qu (CA.s_fa A b.2.2) b.2.1) b.1) R o) (u := .int (nI (t3 (fun q => A.t (m * 7 + q)) y 3))) (wa_v (N := 70) (i := 21) (As := [.int (nI m), .int (nI y)]) (rest := []) rfl rfl rfl rfl rfl rfl rfl) rfl ((g_t3 (d := 0) (A := (CA.s_qn (CA.s_qu (CA.s_fa A b.2.2) b.2.1) b.1)) (R := R) T (by omega) hy h3).up (by omega)) ?_
    refine wz_istore_n (l9 := [.ref 21, .int (nI x), .int (nI m), .int (nI (t3 (fun q => A.t (m * 7 + q)) y 3)), .int (nI t9)]) (p9 := 38) rfl rfl rfl rfl ?_
    refine wz_aload_n (p9 := 39) rfl rfl rfl ?_
    refine wz_iload_n (p9 := 40) rfl rfl rfl ?_
    refine wz_aload_n (p9 := 41) rfl rfl rfl ?_
    refine wz_get (v := .ref 22) (p9 := 44) rfl rfl rfl rfl rfl ?_
    refine wz_iload_n (p9 := 45) rfl rfl rfl ?_
    refine wl_Afa (f := b.2.2) (p9 := 46) rfl rfl rfl (by omega) ?_
    refine wz_iconst (x := nI 1) (p9 := 47) rfl rfl (by decide) ?_
    refine wn_add (p9 := 48) rfl rfl ?_
    refine wz_c0 (p9 := 51) (w1 := WW (CA.s_qn (CA.s_qu (CA.s_fa A ((ar (t3 (fun q => A.t (m * 7 + q)) y 3) (b.2.2 x + 1) b).2.2)) ((ar (t3 (fun q => A.t (m * 7 + q)) y 3) (b.2.2 x + 1) b).2.1)) ((ar (t3 (fun q => A.t (m * 7 + q)) y 3) (b.2.2 x + 1) b).1)) R o) (wa_v (N := 68) (i := 21) (As := [.int (nI (t3 (fun q => A.t (m * 7 + q)) y 3)), .int (nI ((b.2.2 x) + 1))]) (rest := []) rfl rfl rfl rfl rfl rfl rfl) rfl ((g_reach (d := 0) (A := (CA.s_qn (CA.s_qu (CA.s_fa A b.2.2) b.2.1) b.1)) (R := R) (b := b) rfl hY.1 (by rcases hb.2.2 (t3 (fun q => A.t (m * 7 + q)) y 3) hY.1 with q | q <;> omega) (fun q => by have := zm_un q (v := 0) (by decide) hY.1; have := hb.1; omega)).up (by omega)) ?_
    refine wn_inc (b := 1) (l9 := [.ref 21, .int (nI x), .int (nI m), .int (nI (t3 (fun q => A.t (m * 7 + q)) y 3)), .int (nI (t9 + 1))]) (p9 := 54) rfl rfl rfl (by decide) rfl ?_
    refine wz_goto (p9 := 18) rfl rfl ?_
    have hk : (ar (t3 (fun q => A.t (m * 7 + q)) y 3) (b.2.2 x + 1) b).2.2 x = b.2.2 x := ar_keep (by omega)
    have hg : b.1 ≤ (ar (t3 (fun q => A.t (m * 7 + q)) y 3) (b.2.2 x + 1) b).1 := ar_ge
    refine l_n1 T hm hx j (t9 + 1) _ (ar (t3 (fun q => A.t (m * 7 + q)) y 3) (b.2.2 x + 1) b) (by omega) (by omega) hY.1 hY.2 (B3_ar hb hY.1 hY.2 (by omega)) (by rw [hk]; exact hv) (by rw [hk]; omega) (fun b2 e1 e2 e3 e4 e5 v3 v4 => kk b2 ?_ e2 (Nat.le_trans hg e3) e4 (fun i hi => (e5 i (by omega)).trans (ar_q hi)) v3 v4)
    rw [e1, hv]
    rfl
theorem l_n2 {X : Nat × (Nat → Int32)} {d : Nat} {A : CA} {R : RA} {o : Nat → Int64} (T : TV A.P A.Mv A.t A.od) {k z x v : Nat} (hx : x < 512) (h3 : o3 A.P x) {Q : px_Z → Prop} : ∀ (j m : Nat) (b : Nat × (Nat → Nat) × (Nat → Nat)) (v3 v4 : Value), m + j = A.Mv → B3 A.P b → b.2.2 x + 1 = v → b.2.2 x < b.1 → (∀ b2 : Nat × (Nat → Nat) × (Nat → Nat), b2 = n2 (fun m x => t3 (fun q => A.t (m * 7 + q)) x 3) A.od v x j m b → B3 A.P b2 → b.1 ≤ b2.1 → (∀ i, i < b.1 → b2.2.1 i = b.2.1 i) → ∀ lv, wp X (d + 2) 69 (63, .ref 21 :: .int (nI x) :: lv, [], WW (CA.s_qn (CA.s_qu (CA.s_fa A b2.2.2) b2.2.1) b2.1) R o, k, z) Q) → wp X (d + 2) 69 (2, [.ref 21, .int (nI x), .int (nI m), v3, v4], [], WW (CA.s_qn (CA.s_qu (CA.s_fa A b.2.2) b.2.1) b.1) R o, k, z) Q
  | 0, m, b, v3, v4, hj, hb, hv, hx1, kk => by
    have h6 := T.m6
    refine wz_iload_n (p9 := 3) rfl rfl rfl ?_
    refine wz_aload_n (p9 := 4) rfl rfl rfl ?_
    refine wz_get (v := .ref 1) (p9 := 7) rfl rfl rfl rfl rfl ?_
    refine wz_c1 (p9 := 10) (w1 := WW (CA.s_qn (CA.s_qu (CA.s_fa A b.2.2) b.2.1) b.1) R o) (u := .int (nI A.Mv)) (wa_v (N := 7) (i := 1) (As := []) (rest := [.int (nI m)]) rfl rfl rfl rfl rfl rfl rfl) rfl ((g_moveCount (d := 0) (A := (CA.s_qn (CA.s_qu (CA.s_fa A b.2.2) b.2.1) b.1)) (R := R) ).up (by omega)) ?_
    refine wn_icge (t9 := 63) (p9 := 13) rfl rfl rfl (by omega) (by omega) (fun _ => ?_) (fun h9 => by omega)
    exact kk b rfl hb (Nat.le_refl _) (fun i _ => rfl) _
  | j + 1, m, b, v3, v4, hj, hb, hv, hx1, kk => by
    have h6 := T.m6
    have ho := T.o1 (m := m) (by omega)
    refine wz_iload_n (p9 := 3) rfl rfl rfl ?_
    refine wz_aload_n (p9 := 4) rfl rfl rfl ?_
    refine wz_get (v := .ref 1) (p9 := 7) rfl rfl rfl rfl rfl ?_
    refine wz_c1 (p9 := 10) (w1 := WW (CA.s_qn (CA.s_qu (CA.s_fa A b.2.2) b.2.1) b.1) R o) (u := .int (nI A.Mv)) (wa_v (N := 7) (i := 1) (As := []) (rest := [.int (nI m)]) rfl rfl rfl rfl rfl rfl rfl) rfl ((g_moveCount (d := 0) (A := (CA.s_qn (CA.s_qu (CA.s_fa A b.2.2) b.2.1) b.1)) (R := R) ).up (by omega)) ?_
    refine wn_icge (t9 := 63) (p9 := 13) rfl rfl rfl (by omega) (by omega) (fun h9 => by omega) (fun _ => ?_)
    refine wz_iload_n (p9 := 14) rfl rfl rfl ?_
    refine wz_istore_n (l9 := [.ref 21, .int (nI x), .int (nI m), .int (nI x), v4]) (p9 := 15) rfl rfl rfl rfl ?_
    refine wz_iconst (x := nI 1) (p9 := 16) rfl rfl (by decide) ?_
    refine wz_istore (l9 := [.ref 21, .int (nI x), .int (nI m), .int (nI x), .int (nI 1)]) (p9 := 18) rfl rfl rfl rfl ?_
    refine l_n1 T (by omega) hx (A.od m - 1) 1 x b (by omega) (by decide) hx h3 hb hv hx1 (fun b2 e1 e2 e3 e4 e5 v5 v6 => ?_)
    refine wn_inc (b := 1) (l9 := [.ref 21, .int (nI x), .int (nI (m + 1)), v5, v6]) (p9 := 60) rfl rfl rfl (by decide) rfl ?_
    refine wz_goto (p9 := 2) rfl rfl ?_
    refine l_n2 T hx h3 j (m + 1) b2 _ _ (by omega) e2 e4 (by omega) (fun b3 f1 f2 f3 f4 lv => kk b3 ?_ f2 (Nat.le_trans e3 f3) (fun i hi => (f4 i (by omega)).trans (e5 i hi)) lv)
    rw [f1, e1]
    rfl
theorem g_reachN {X : Nat × (Nat → Int32)} {d : Nat} {A : CA} {R : RA} {o : Nat → Int64} (T : TV A.P A.Mv A.t A.od) {x : Nat} {b : Nat × (Nat → Nat) × (Nat → Nat)} (hb : (A.qn, A.qu, A.fa) = b) (hx : x < 512) (h3 : o3 A.P x) (h : B3 A.P b) (h1 : b.2.2 x < b.1) : px_ev X (d + 3) 69 [.ref 21, .int (nI x)] (WW A R o) (some none, WW (sq A (n2 (fun m x => t3 (fun q => A.t (m * 7 + q)) x 3) A.od (b.2.2 x + 1) x A.Mv 0 b)) R o, 0, 0) := by
  refine wp_ev (d := d + 2) (by decide) rfl rfl (fun h => by cases h) ?_
  show wp X (d + 2) 69 (0, [.ref 21, .int (nI x), .retAddr 0, .retAddr 0, .retAddr 0], [], WW A R o, 0, 0) _
  subst hb
  refine wz_iconst (x := nI 0) (p9 := 1) rfl rfl (by decide) ?_
  refine wz_istore_n (l9 := [.ref 21, .int (nI x), .int (nI 0), .retAddr 0, .retAddr 0]) (p9 := 2) rfl rfl rfl rfl ?_
  refine l_n2 (A := A) T hx h3 A.Mv 0 (A.qn, A.qu, A.fa) _ _ (Nat.zero_add _) h rfl h1 (fun b2 e1 e2 e3 e4 lv => ?_)
  rw [e1]
  exact wz_retv rfl rfl rfl
