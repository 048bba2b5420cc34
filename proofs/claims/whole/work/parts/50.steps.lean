/-! A LIBRARY OF STEPS: the pure machine over worlds that a function of places gives -/
def mu (c : Nat → px_E) (i : Nat) (x : px_E) : Nat → px_E := fun j => if j = i then x else c j
def wl (n : Nat) (c : Nat → px_E) : px_W := (List.range n).map c
theorem wl_get {n : Nat} {c : Nat → px_E} {i : Nat} (h : i < n) : (wl n c)[i]? = some (c i) := by simp [wl, h]
theorem wl_len {n : Nat} {c : Nat → px_E} : (wl n c).length = n := by simp [wl]
theorem wl_set {n : Nat} {c : Nat → px_E} {i : Nat} {x : px_E} : (wl n c).set i x = wl n (mu c i x) := by
  apply List.ext_getElem?
  intro j
  by_cases hj : j < n
  · by_cases hij : i = j
    · subst hij
      rw [List.getElem?_set_self (by rw [wl_len]; exact hj), wl_get hj]
      simp [mu]
    · rw [List.getElem?_set_ne hij, wl_get hj, wl_get hj]
      rw [mu, if_neg (fun q : j = i => hij q.symm)]
  · rw [List.getElem?_eq_none (by rw [List.length_set, wl_len]; omega), List.getElem?_eq_none (by rw [wl_len]; omega)]
theorem wl_app {n : Nat} {c : Nat → px_E} {x : px_E} : wl n c ++ [x] = wl (n + 1) (mu c n x) := by
  apply List.ext_getElem?
  intro j
  by_cases hj : j < n
  · rw [List.getElem?_append_left (by rw [wl_len]; exact hj), wl_get hj, wl_get (by omega)]
    simp [mu, Nat.ne_of_lt hj]
  · by_cases hjn : j = n
    · subst hjn
      rw [List.getElem?_append_right (by rw [wl_len]; omega), wl_len, wl_get (by omega)]
      simp [mu]
    · rw [List.getElem?_eq_none (by simp [wl_len]; omega), List.getElem?_eq_none (by rw [wl_len]; omega)]
theorem mu_at {c : Nat → px_E} {i : Nat} {x : px_E} : mu c i x i = x := by simp [mu]
theorem mu_ne {c : Nat → px_E} {i j : Nat} {x : px_E} (h : j ≠ i) : mu c i x j = c j := by simp [mu, h]
theorem mu_mu {c : Nat → px_E} {i : Nat} {x y : px_E} : mu (mu c i x) i y = mu c i y := by
  funext j
  by_cases h : j = i <;> simp [mu, h]
theorem mu_self {c : Nat → px_E} {i : Nat} {x : px_E} (h : c i = x) : mu c i x = c := by
  funext j
  by_cases hj : j = i
  · subst hj; rw [mu_at, h]
  · rw [mu_ne hj]
section TS
variable {X : Nat × (Nat → Int32)} {d M pc p9 k z n : Nat} {lv st : List Value} {w : px_W} {c : Nat → px_E} {r : px_Z}
theorem tz_ins {I : Instr} {c1 : px_C} (h : px_cd M pc = some I) (hi : px_ins X M I pc lv st w k z = some c1) (kk : px_to X d M c1 r) : px_to X d M (pc, lv, st, w, k, z) r :=
  px_toS (by unfold px_step; dsimp only; rw [h]; exact hi) kk
theorem tz_iconst {v : Int} {x : Int32} (h : px_cd M pc = some (.iconst v)) (hp : pc + 1 = p9) (hx : Int32.ofInt v = x) (kk : px_to X d M (p9, lv, (.int x :: st), w, k, z) r) : px_to X d M (pc, lv, st, w, k, z) r := by
  subst hp
  exact tz_ins h (by subst hx; rfl) kk
theorem tz_bipush {v : Int} {x : Int32} (h : px_cd M pc = some (.bipush v)) (hp : pc + 2 = p9) (hx : (Int8.ofInt v).toInt32 = x) (kk : px_to X d M (p9, lv, (.int x :: st), w, k, z) r) : px_to X d M (pc, lv, st, w, k, z) r := by
  subst hp
  exact tz_ins h (by subst hx; rfl) kk
theorem tz_sipush {v : Int} {x : Int32} (h : px_cd M pc = some (.sipush v)) (hp : pc + 3 = p9) (hx : (Int16.ofInt v).toInt32 = x) (kk : px_to X d M (p9, lv, (.int x :: st), w, k, z) r) : px_to X d M (pc, lv, st, w, k, z) r := by
  subst hp
  exact tz_ins h (by subst hx; rfl) kk
theorem tz_ldc_w {j : Nat} {x : Int32} (h : px_cd M pc = some (.ldc_w j)) (hp : pc + 3 = p9) (hx : px_lc M j = some x) (kk : px_to X d M (p9, lv, (.int x :: st), w, k, z) r) : px_to X d M (pc, lv, st, w, k, z) r := by
  subst hp
  exact tz_ins h (by simp only [px_ins, hx]) kk
theorem tz_lconst {j : Fin 2} {x : Int64} (h : px_cd M pc = some (.lconst j)) (hp : pc + 1 = p9) (hx : Int64.ofNat j.val = x) (kk : px_to X d M (p9, lv, (.long x :: st), w, k, z) r) : px_to X d M (pc, lv, st, w, k, z) r := by
  subst hp
  exact tz_ins h (by subst hx; rfl) kk
theorem tz_iload {i : Nat} {x : Int32} (h : px_cd M pc = some (.iload i)) (hp : pc + 2 = p9) (hx : lv[i]? = some (.int x)) (kk : px_to X d M (p9, lv, (.int x :: st), w, k, z) r) : px_to X d M (pc, lv, st, w, k, z) r := by
  subst hp
  exact tz_ins h (by simp only [px_ins, hx]) kk
theorem tz_iload_n {i : Fin 4} {x : Int32} (h : px_cd M pc = some (.iload_n i)) (hp : pc + 1 = p9) (hx : lv[i.val]? = some (.int x)) (kk : px_to X d M (p9, lv, (.int x :: st), w, k, z) r) : px_to X d M (pc, lv, st, w, k, z) r := by
  subst hp
  exact tz_ins h (by simp only [px_ins, hx]) kk
theorem tz_aload {i : Nat} {x : Nat} (h : px_cd M pc = some (.aload i)) (hp : pc + 2 = p9) (hx : lv[i]? = some (.ref x)) (kk : px_to X d M (p9, lv, (.ref x :: st), w, k, z) r) : px_to X d M (pc, lv, st, w, k, z) r := by
  subst hp
  exact tz_ins h (by simp only [px_ins, hx]) kk
theorem tz_aloadS {i : Nat} (h : px_cd M pc = some (.aload i)) (hp : pc + 2 = p9) (hx : lv[i]? = some (.retAddr 1)) (kk : px_to X d M (p9, lv, (.retAddr 1 :: st), w, k, z) r) : px_to X d M (pc, lv, st, w, k, z) r := by
  subst hp
  exact tz_ins h (by simp only [px_ins, hx]) kk
theorem tz_aload_n {i : Fin 4} {x : Nat} (h : px_cd M pc = some (.aload_n i)) (hp : pc + 1 = p9) (hx : lv[i.val]? = some (.ref x)) (kk : px_to X d M (p9, lv, (.ref x :: st), w, k, z) r) : px_to X d M (pc, lv, st, w, k, z) r := by
  subst hp
  exact tz_ins h (by simp only [px_ins, hx]) kk
theorem tz_aload_nS {i : Fin 4} (h : px_cd M pc = some (.aload_n i)) (hp : pc + 1 = p9) (hx : lv[i.val]? = some (.retAddr 1)) (kk : px_to X d M (p9, lv, (.retAddr 1 :: st), w, k, z) r) : px_to X d M (pc, lv, st, w, k, z) r := by
  subst hp
  exact tz_ins h (by simp only [px_ins, hx]) kk
theorem tz_istore {i : Nat} {x : Int32} {l9 : List Value} (h : px_cd M pc = some (.istore i)) (hp : pc + 2 = p9) (hi : Nat.blt i lv.length = true) (hl : lv.set i (.int x) = l9) (kk : px_to X d M (p9, l9, st, w, k, z) r) : px_to X d M (pc, lv, (.int x :: st), w, k, z) r := by
  subst hp
  exact tz_ins h (by subst hl; simp only [px_ins, hi]) kk
theorem tz_istore_n {i : Fin 4} {x : Int32} {l9 : List Value} (h : px_cd M pc = some (.istore_n i)) (hp : pc + 1 = p9) (hi : Nat.blt i.val lv.length = true) (hl : lv.set i.val (.int x) = l9) (kk : px_to X d M (p9, l9, st, w, k, z) r) : px_to X d M (pc, lv, (.int x :: st), w, k, z) r := by
  subst hp
  exact tz_ins h (by subst hl; simp only [px_ins, hi]) kk
theorem tz_astore {i : Nat} {x : Nat} {l9 : List Value} (h : px_cd M pc = some (.astore i)) (hp : pc + 2 = p9) (hi : Nat.blt i lv.length = true) (hl : lv.set i (.ref x) = l9) (kk : px_to X d M (p9, l9, st, w, k, z) r) : px_to X d M (pc, lv, (.ref x :: st), w, k, z) r := by
  subst hp
  exact tz_ins h (by subst hl; simp only [px_ins, hi]) kk
theorem tz_astoreX {i : Nat} {j : Nat} {l9 : List Value} (h : px_cd M pc = some (.astore i)) (hp : pc + 2 = p9) (hi : Nat.blt i lv.length = true) (hl : lv.set i (.retAddr (j + 1)) = l9) (kk : px_to X d M (p9, l9, st, w, k, z) r) : px_to X d M (pc, lv, (.retAddr (j + 1) :: st), w, k, z) r := by
  subst hp
  exact tz_ins h (by subst hl; simp only [px_ins, hi]) kk
theorem tz_astore_n {i : Fin 4} {x : Nat} {l9 : List Value} (h : px_cd M pc = some (.astore_n i)) (hp : pc + 1 = p9) (hi : Nat.blt i.val lv.length = true) (hl : lv.set i.val (.ref x) = l9) (kk : px_to X d M (p9, l9, st, w, k, z) r) : px_to X d M (pc, lv, (.ref x :: st), w, k, z) r := by
  subst hp
  exact tz_ins h (by subst hl; simp only [px_ins, hi]) kk
theorem tz_astore_nX {i : Fin 4} {j : Nat} {l9 : List Value} (h : px_cd M pc = some (.astore_n i)) (hp : pc + 1 = p9) (hi : Nat.blt i.val lv.length = true) (hl : lv.set i.val (.retAddr (j + 1)) = l9) (kk : px_to X d M (p9, l9, st, w, k, z) r) : px_to X d M (pc, lv, (.retAddr (j + 1) :: st), w, k, z) r := by
  subst hp
  exact tz_ins h (by subst hl; simp only [px_ins, hi]) kk
theorem tz_iinc {i : Nat} {j : Int} {x y : Int32} {l9 : List Value} (h : px_cd M pc = some (.iinc i j)) (hp : pc + 3 = p9) (hx : lv[i]? = some (.int x)) (hy : x + Int32.ofInt j = y) (hl : lv.set i (.int y) = l9) (kk : px_to X d M (p9, l9, st, w, k, z) r) : px_to X d M (pc, lv, st, w, k, z) r := by
  subst hp
  exact tz_ins h (by subst hl; subst hy; simp only [px_ins, hx]) kk
theorem tz_iadd {x y v : Int32} (h : px_cd M pc = some (.iadd)) (hp : pc + 1 = p9) (hv : x + y = v) (kk : px_to X d M (p9, lv, (.int v :: st), w, k, z) r) : px_to X d M (pc, lv, (.int y :: .int x :: st), w, k, z) r := by
  subst hp
  exact tz_ins h (by subst hv; rfl) kk
theorem tz_isub {x y v : Int32} (h : px_cd M pc = some (.isub)) (hp : pc + 1 = p9) (hv : x - y = v) (kk : px_to X d M (p9, lv, (.int v :: st), w, k, z) r) : px_to X d M (pc, lv, (.int y :: .int x :: st), w, k, z) r := by
  subst hp
  exact tz_ins h (by subst hv; rfl) kk
theorem tz_imul {x y v : Int32} (h : px_cd M pc = some (.imul)) (hp : pc + 1 = p9) (hv : x * y = v) (kk : px_to X d M (p9, lv, (.int v :: st), w, k, z) r) : px_to X d M (pc, lv, (.int y :: .int x :: st), w, k, z) r := by
  subst hp
  exact tz_ins h (by subst hv; rfl) kk
theorem tz_iand {x y v : Int32} (h : px_cd M pc = some (.iand)) (hp : pc + 1 = p9) (hv : x &&& y = v) (kk : px_to X d M (p9, lv, (.int v :: st), w, k, z) r) : px_to X d M (pc, lv, (.int y :: .int x :: st), w, k, z) r := by
  subst hp
  exact tz_ins h (by subst hv; rfl) kk
theorem tz_ior {x y v : Int32} (h : px_cd M pc = some (.ior)) (hp : pc + 1 = p9) (hv : x ||| y = v) (kk : px_to X d M (p9, lv, (.int v :: st), w, k, z) r) : px_to X d M (pc, lv, (.int y :: .int x :: st), w, k, z) r := by
  subst hp
  exact tz_ins h (by subst hv; rfl) kk
theorem tz_ixor {x y v : Int32} (h : px_cd M pc = some (.ixor)) (hp : pc + 1 = p9) (hv : x ^^^ y = v) (kk : px_to X d M (p9, lv, (.int v :: st), w, k, z) r) : px_to X d M (pc, lv, (.int y :: .int x :: st), w, k, z) r := by
  subst hp
  exact tz_ins h (by subst hv; rfl) kk
theorem tz_ishl {x y v : Int32} (h : px_cd M pc = some (.ishl)) (hp : pc + 1 = p9) (hv : x <<< (y &&& 31) = v) (kk : px_to X d M (p9, lv, (.int v :: st), w, k, z) r) : px_to X d M (pc, lv, (.int y :: .int x :: st), w, k, z) r := by
  subst hp
  exact tz_ins h (by subst hv; rfl) kk
theorem tz_ishr {x y v : Int32} (h : px_cd M pc = some (.ishr)) (hp : pc + 1 = p9) (hv : x >>> (y &&& 31) = v) (kk : px_to X d M (p9, lv, (.int v :: st), w, k, z) r) : px_to X d M (pc, lv, (.int y :: .int x :: st), w, k, z) r := by
  subst hp
  exact tz_ins h (by subst hv; rfl) kk
theorem tz_iushr {x y v : Int32} (h : px_cd M pc = some (.iushr)) (hp : pc + 1 = p9) (hv : (x.toUInt32 >>> (y.toUInt32 &&& Int32.toUInt32 31)).toInt32 = v) (kk : px_to X d M (p9, lv, (.int v :: st), w, k, z) r) : px_to X d M (pc, lv, (.int y :: .int x :: st), w, k, z) r := by
  subst hp
  exact tz_ins h (by subst hv; rfl) kk
theorem tz_idiv {x y v : Int32} (h : px_cd M pc = some (.idiv)) (hp : pc + 1 = p9) (hy : ¬ y = 0) (hv : x / y = v) (kk : px_to X d M (p9, lv, (.int v :: st), w, k, z) r) : px_to X d M (pc, lv, (.int y :: .int x :: st), w, k, z) r := by
  subst hp
  exact tz_ins h (by subst hv; simp only [px_ins, decide_eq_false hy]) kk
theorem tz_irem {x y v : Int32} (h : px_cd M pc = some (.irem)) (hp : pc + 1 = p9) (hy : ¬ y = 0) (hv : x - x / y * y = v) (kk : px_to X d M (p9, lv, (.int v :: st), w, k, z) r) : px_to X d M (pc, lv, (.int y :: .int x :: st), w, k, z) r := by
  subst hp
  exact tz_ins h (by subst hv; simp only [px_ins, decide_eq_false hy]) kk
theorem tz_ineg {x v : Int32} (h : px_cd M pc = some (.ineg)) (hp : pc + 1 = p9) (hv : -x = v) (kk : px_to X d M (p9, lv, (.int v :: st), w, k, z) r) : px_to X d M (pc, lv, (.int x :: st), w, k, z) r := by
  subst hp
  exact tz_ins h (by subst hv; rfl) kk
theorem tz_i2l {x : Int32} (h : px_cd M pc = some (.i2l)) (hp : pc + 1 = p9) (kk : px_to X d M (p9, lv, (.long x.toInt64 :: st), w, k, z) r) : px_to X d M (pc, lv, (.int x :: st), w, k, z) r := by
  subst hp
  exact tz_ins h (rfl) kk
theorem tz_lcmp {x y : Int64} (h : px_cd M pc = some (.lcmp)) (hp : pc + 1 = p9) (kk : px_to X d M (p9, lv, (.int (lg_cmp x y) :: st), w, k, z) r) : px_to X d M (pc, lv, (.long y :: .long x :: st), w, k, z) r := by
  subst hp
  exact tz_ins h (rfl) kk
theorem tz_dupi {x : Int32} (h : px_cd M pc = some (.dup)) (hp : pc + 1 = p9) (kk : px_to X d M (p9, lv, (.int x :: .int x :: st), w, k, z) r) : px_to X d M (pc, lv, (.int x :: st), w, k, z) r := by
  subst hp
  exact tz_ins h (rfl) kk
theorem tz_dupr {x : Nat} (h : px_cd M pc = some (.dup)) (hp : pc + 1 = p9) (kk : px_to X d M (p9, lv, (.ref x :: .ref x :: st), w, k, z) r) : px_to X d M (pc, lv, (.ref x :: st), w, k, z) r := by
  subst hp
  exact tz_ins h (rfl) kk
theorem tz_popi {x : Int32} (h : px_cd M pc = some (.pop)) (hp : pc + 1 = p9) (kk : px_to X d M (p9, lv, st, w, k, z) r) : px_to X d M (pc, lv, (.int x :: st), w, k, z) r := by
  subst hp
  exact tz_ins h (rfl) kk
theorem tz_dup_x1 {y : Int32} {x : Nat} (h : px_cd M pc = some (.dup_x1)) (hp : pc + 1 = p9) (kk : px_to X d M (p9, lv, (.int y :: .ref x :: .int y :: st), w, k, z) r) : px_to X d M (pc, lv, (.int y :: .ref x :: st), w, k, z) r := by
  subst hp
  exact tz_ins h (rfl) kk
theorem tz_dup_x2 {y x : Int32} {u : Nat} (h : px_cd M pc = some (.dup_x2)) (hp : pc + 1 = p9) (kk : px_to X d M (p9, lv, (.int y :: .int x :: .ref u :: .int y :: st), w, k, z) r) : px_to X d M (pc, lv, (.int y :: .int x :: .ref u :: st), w, k, z) r := by
  subst hp
  exact tz_ins h (rfl) kk
theorem tz_dup2 {y : Int32} {x : Nat} (h : px_cd M pc = some (.dup2)) (hp : pc + 1 = p9) (kk : px_to X d M (p9, lv, (.int y :: .ref x :: .int y :: .ref x :: st), w, k, z) r) : px_to X d M (pc, lv, (.int y :: .ref x :: st), w, k, z) r := by
  subst hp
  exact tz_ins h (rfl) kk
theorem tz_goto {q : Int} (h : px_cd M pc = some (.goto q)) (hp : px_tg M pc = p9) (kk : px_to X d M (p9, lv, st, w, k, z) r) : px_to X d M (pc, lv, st, w, k, z) r := by
  subst hp
  exact tz_ins h rfl kk
theorem tz_ifeq {q : Int} {x : Int32} {t9 : Nat} (h : px_cd M pc = some (.ifCond .eq q)) (ht : px_tg M pc = t9) (hp : pc + 3 = p9) (kt : x = 0 → px_to X d M (t9, lv, st, w, k, z) r) (kf : ¬ x = 0 → px_to X d M (p9, lv, st, w, k, z) r) : px_to X d M (pc, lv, (.int x :: st), w, k, z) r := by
  subst ht; subst hp
  by_cases hq : x = 0
  · exact tz_ins h (by simp only [px_ins, px_if, decide_eq_true hq]) (kt hq)
  · exact tz_ins h (by simp only [px_ins, px_if, decide_eq_false hq]) (kf (hq))
theorem tz_ifne {q : Int} {x : Int32} {t9 : Nat} (h : px_cd M pc = some (.ifCond .ne q)) (ht : px_tg M pc = t9) (hp : pc + 3 = p9) (kt : ¬ x = 0 → px_to X d M (t9, lv, st, w, k, z) r) (kf : x = 0 → px_to X d M (p9, lv, st, w, k, z) r) : px_to X d M (pc, lv, (.int x :: st), w, k, z) r := by
  subst ht; subst hp
  by_cases hq : ¬ x = 0
  · exact tz_ins h (by simp only [px_ins, px_if, decide_eq_true hq]) (kt hq)
  · exact tz_ins h (by simp only [px_ins, px_if, decide_eq_false hq]) (kf (Decidable.not_not.mp hq))
theorem tz_iflt {q : Int} {x : Int32} {t9 : Nat} (h : px_cd M pc = some (.ifCond .lt q)) (ht : px_tg M pc = t9) (hp : pc + 3 = p9) (kt : x < 0 → px_to X d M (t9, lv, st, w, k, z) r) (kf : ¬ x < 0 → px_to X d M (p9, lv, st, w, k, z) r) : px_to X d M (pc, lv, (.int x :: st), w, k, z) r := by
  subst ht; subst hp
  by_cases hq : x < 0
  · exact tz_ins h (by simp only [px_ins, px_if, decide_eq_true hq]) (kt hq)
  · exact tz_ins h (by simp only [px_ins, px_if, decide_eq_false hq]) (kf (hq))
theorem tz_ifge {q : Int} {x : Int32} {t9 : Nat} (h : px_cd M pc = some (.ifCond .ge q)) (ht : px_tg M pc = t9) (hp : pc + 3 = p9) (kt : 0 ≤ x → px_to X d M (t9, lv, st, w, k, z) r) (kf : ¬ 0 ≤ x → px_to X d M (p9, lv, st, w, k, z) r) : px_to X d M (pc, lv, (.int x :: st), w, k, z) r := by
  subst ht; subst hp
  by_cases hq : 0 ≤ x
  · exact tz_ins h (by simp only [px_ins, px_if, decide_eq_true hq]) (kt hq)
  · exact tz_ins h (by simp only [px_ins, px_if, decide_eq_false hq]) (kf (hq))
theorem tz_ifgt {q : Int} {x : Int32} {t9 : Nat} (h : px_cd M pc = some (.ifCond .gt q)) (ht : px_tg M pc = t9) (hp : pc + 3 = p9) (kt : 0 < x → px_to X d M (t9, lv, st, w, k, z) r) (kf : ¬ 0 < x → px_to X d M (p9, lv, st, w, k, z) r) : px_to X d M (pc, lv, (.int x :: st), w, k, z) r := by
  subst ht; subst hp
  by_cases hq : 0 < x
  · exact tz_ins h (by simp only [px_ins, px_if, decide_eq_true hq]) (kt hq)
  · exact tz_ins h (by simp only [px_ins, px_if, decide_eq_false hq]) (kf (hq))
theorem tz_ifle {q : Int} {x : Int32} {t9 : Nat} (h : px_cd M pc = some (.ifCond .le q)) (ht : px_tg M pc = t9) (hp : pc + 3 = p9) (kt : x ≤ 0 → px_to X d M (t9, lv, st, w, k, z) r) (kf : ¬ x ≤ 0 → px_to X d M (p9, lv, st, w, k, z) r) : px_to X d M (pc, lv, (.int x :: st), w, k, z) r := by
  subst ht; subst hp
  by_cases hq : x ≤ 0
  · exact tz_ins h (by simp only [px_ins, px_if, decide_eq_true hq]) (kt hq)
  · exact tz_ins h (by simp only [px_ins, px_if, decide_eq_false hq]) (kf (hq))
theorem tz_iceq {q : Int} {x y : Int32} {t9 : Nat} (h : px_cd M pc = some (.if_icmp .eq q)) (ht : px_tg M pc = t9) (hp : pc + 3 = p9) (kt : x = y → px_to X d M (t9, lv, st, w, k, z) r) (kf : ¬ x = y → px_to X d M (p9, lv, st, w, k, z) r) : px_to X d M (pc, lv, (.int y :: .int x :: st), w, k, z) r := by
  subst ht; subst hp
  by_cases hq : x = y
  · exact tz_ins h (by simp only [px_ins, px_ic, decide_eq_true hq]) (kt hq)
  · exact tz_ins h (by simp only [px_ins, px_ic, decide_eq_false hq]) (kf (hq))
theorem tz_icne {q : Int} {x y : Int32} {t9 : Nat} (h : px_cd M pc = some (.if_icmp .ne q)) (ht : px_tg M pc = t9) (hp : pc + 3 = p9) (kt : ¬ x = y → px_to X d M (t9, lv, st, w, k, z) r) (kf : x = y → px_to X d M (p9, lv, st, w, k, z) r) : px_to X d M (pc, lv, (.int y :: .int x :: st), w, k, z) r := by
  subst ht; subst hp
  by_cases hq : ¬ x = y
  · exact tz_ins h (by simp only [px_ins, px_ic, decide_eq_true hq]) (kt hq)
  · exact tz_ins h (by simp only [px_ins, px_ic, decide_eq_false hq]) (kf (Decidable.not_not.mp hq))
theorem tz_iclt {q : Int} {x y : Int32} {t9 : Nat} (h : px_cd M pc = some (.if_icmp .lt q)) (ht : px_tg M pc = t9) (hp : pc + 3 = p9) (kt : x < y → px_to X d M (t9, lv, st, w, k, z) r) (kf : ¬ x < y → px_to X d M (p9, lv, st, w, k, z) r) : px_to X d M (pc, lv, (.int y :: .int x :: st), w, k, z) r := by
  subst ht; subst hp
  by_cases hq : x < y
  · exact tz_ins h (by simp only [px_ins, px_ic, decide_eq_true hq]) (kt hq)
  · exact tz_ins h (by simp only [px_ins, px_ic, decide_eq_false hq]) (kf (hq))
theorem tz_icge {q : Int} {x y : Int32} {t9 : Nat} (h : px_cd M pc = some (.if_icmp .ge q)) (ht : px_tg M pc = t9) (hp : pc + 3 = p9) (kt : y ≤ x → px_to X d M (t9, lv, st, w, k, z) r) (kf : ¬ y ≤ x → px_to X d M (p9, lv, st, w, k, z) r) : px_to X d M (pc, lv, (.int y :: .int x :: st), w, k, z) r := by
  subst ht; subst hp
  by_cases hq : y ≤ x
  · exact tz_ins h (by simp only [px_ins, px_ic, decide_eq_true hq]) (kt hq)
  · exact tz_ins h (by simp only [px_ins, px_ic, decide_eq_false hq]) (kf (hq))
theorem tz_icgt {q : Int} {x y : Int32} {t9 : Nat} (h : px_cd M pc = some (.if_icmp .gt q)) (ht : px_tg M pc = t9) (hp : pc + 3 = p9) (kt : y < x → px_to X d M (t9, lv, st, w, k, z) r) (kf : ¬ y < x → px_to X d M (p9, lv, st, w, k, z) r) : px_to X d M (pc, lv, (.int y :: .int x :: st), w, k, z) r := by
  subst ht; subst hp
  by_cases hq : y < x
  · exact tz_ins h (by simp only [px_ins, px_ic, decide_eq_true hq]) (kt hq)
  · exact tz_ins h (by simp only [px_ins, px_ic, decide_eq_false hq]) (kf (hq))
theorem tz_icle {q : Int} {x y : Int32} {t9 : Nat} (h : px_cd M pc = some (.if_icmp .le q)) (ht : px_tg M pc = t9) (hp : pc + 3 = p9) (kt : x ≤ y → px_to X d M (t9, lv, st, w, k, z) r) (kf : ¬ x ≤ y → px_to X d M (p9, lv, st, w, k, z) r) : px_to X d M (pc, lv, (.int y :: .int x :: st), w, k, z) r := by
  subst ht; subst hp
  by_cases hq : x ≤ y
  · exact tz_ins h (by simp only [px_ins, px_ic, decide_eq_true hq]) (kt hq)
  · exact tz_ins h (by simp only [px_ins, px_ic, decide_eq_false hq]) (kf (hq))
theorem tz_alen {a m : Nat} {f : Nat → Int32} {v : Int32} (h : px_cd M pc = some (.arraylength)) (hp : pc + 1 = p9) (ha : a < n) (hc : c a = .inl (0, m, f)) (hv : Int32.ofNat m = v) (kk : px_to X d M (p9, lv, (.int v :: st), (wl n c), k, z) r) : px_to X d M (pc, lv, (.ref a :: st), (wl n c), k, z) r := by
  subst hp
  exact tz_ins h (by subst hv; simp only [px_ins, wl_get ha, hc]) kk
theorem tz_slen {v : Int32} (h : px_cd M pc = some (.arraylength)) (hp : pc + 1 = p9) (hv : Int32.ofNat X.1 = v) (kk : px_to X d M (p9, lv, (.int v :: st), w, k, z) r) : px_to X d M (pc, lv, (.retAddr 1 :: st), w, k, z) r := by
  subst hp
  exact tz_ins h (by subst hv; rfl) kk
theorem tz_iald {a m : Nat} {f : Nat → Int32} {i v : Int32} (h : px_cd M pc = some (.iaload)) (hp : pc + 1 = p9) (ha : a < n) (hc : c a = .inl (0, m, f)) (hi : px_in i m = true) (hv : f i.toNatClampNeg = v) (kk : px_to X d M (p9, lv, (.int v :: st), (wl n c), k, z) r) : px_to X d M (pc, lv, (.int i :: .ref a :: st), (wl n c), k, z) r := by
  subst hp
  exact tz_ins h (by subst hv; simp only [px_ins, wl_get ha, hc, hi]) kk
theorem tz_sald {i v : Int32} (h : px_cd M pc = some (.iaload)) (hp : pc + 1 = p9) (hi : px_in i X.1 = true) (hv : X.2 i.toNatClampNeg = v) (kk : px_to X d M (p9, lv, (.int v :: st), w, k, z) r) : px_to X d M (pc, lv, (.int i :: .retAddr 1 :: st), w, k, z) r := by
  subst hp
  exact tz_ins h (by subst hv; simp only [px_ins, hi]) kk
theorem tz_bald {a m : Nat} {f : Nat → Int32} {i v : Int32} (h : px_cd M pc = some (.baload)) (hp : pc + 1 = p9) (ha : a < n) (hc : c a = .inl (1, m, f)) (hi : px_in i m = true) (hv : f i.toNatClampNeg = v) (kk : px_to X d M (p9, lv, (.int v :: st), (wl n c), k, z) r) : px_to X d M (pc, lv, (.int i :: .ref a :: st), (wl n c), k, z) r := by
  subst hp
  exact tz_ins h (by subst hv; simp only [px_ins, wl_get ha, hc, hi]) kk
theorem tz_lald {a m : Nat} {f : Nat → Int64} {i : Int32} {v : Int64} (h : px_cd M pc = some (.laload)) (hp : pc + 1 = p9) (ha : a < n) (hc : c a = .inr (.inl (m, f))) (hi : px_in i m = true) (hv : f i.toNatClampNeg = v) (kk : px_to X d M (p9, lv, (.long v :: st), (wl n c), k, z) r) : px_to X d M (pc, lv, (.int i :: .ref a :: st), (wl n c), k, z) r := by
  subst hp
  exact tz_ins h (by subst hv; simp only [px_ins, wl_get ha, hc, hi]) kk
theorem tz_iast {a m : Nat} {f : Nat → Int32} {i x : Int32} (h : px_cd M pc = some (.iastore)) (hp : pc + 1 = p9) (ha : a < n) (hc : c a = .inl (0, m, f)) (hi : px_in i m = true) (kk : px_to X d M (p9, lv, st, (wl n (mu c a (.inl (0, m, upd f i.toNatClampNeg x)))), k, z) r) : px_to X d M (pc, lv, (.int x :: .int i :: .ref a :: st), (wl n c), k, z) r := by
  subst hp
  exact tz_ins h (by simp only [px_ins, wl_get ha, hc, hi, wl_set]) kk
theorem tz_bast {a m : Nat} {f : Nat → Int32} {i x : Int32} (h : px_cd M pc = some (.bastore)) (hp : pc + 1 = p9) (ha : a < n) (hc : c a = .inl (1, m, f)) (hi : px_in i m = true) (kk : px_to X d M (p9, lv, st, (wl n (mu c a (.inl (1, m, upd f i.toNatClampNeg (x &&& 1))))), k, z) r) : px_to X d M (pc, lv, (.int x :: .int i :: .ref a :: st), (wl n c), k, z) r := by
  subst hp
  exact tz_ins h (by simp only [px_ins, wl_get ha, hc, hi, wl_set]) kk
theorem tz_last {a m : Nat} {f : Nat → Int64} {i : Int32} {x : Int64} (h : px_cd M pc = some (.lastore)) (hp : pc + 1 = p9) (ha : a < n) (hc : c a = .inr (.inl (m, f))) (hi : px_in i m = true) (kk : px_to X d M (p9, lv, st, (wl n (mu c a (.inr (.inl (m, vp_updL f i.toNatClampNeg x))))), k, z) r) : px_to X d M (pc, lv, (.long x :: .int i :: .ref a :: st), (wl n c), k, z) r := by
  subst hp
  exact tz_ins h (by simp only [px_ins, wl_get ha, hc, hi, wl_set]) kk
theorem tz_get {a j ci f : Nat} {fs : List Value} {v : Value} (h : px_cd M pc = some (.getfield j)) (hp : pc + 3 = p9) (hf : px_fl M j = some (ci, f)) (ha : a < n) (hc : c a = .inr (.inr (ci, fs))) (hv : fs[f]? = some v) (kk : px_to X d M (p9, lv, (v :: st), (wl n c), k, z) r) : px_to X d M (pc, lv, (.ref a :: st), (wl n c), k, z) r := by
  subst hp
  exact tz_ins h (by simp only [px_ins, hf, wl_get ha, hc, Nat.beq_refl, hv]) kk
theorem tz_put {a j ci f : Nat} {fs gs : List Value} {v : Value} (h : px_cd M pc = some (.putfield j)) (hp : pc + 3 = p9) (hf : px_fl M j = some (ci, f)) (ha : a < n) (hc : c a = .inr (.inr (ci, fs))) (hl : Nat.blt f fs.length = true) (hv : px_fit (px_ty ci f) v = true) (hp2 : px_pf M ci f = true) (hg : fs.set f v = gs) (kk : px_to X d M (p9, lv, st, (wl n (mu c a (.inr (.inr (ci, gs))))), k, z) r) : px_to X d M (pc, lv, (v :: .ref a :: st), (wl n c), k, z) r := by
  subst hp
  exact tz_ins h (by subst hg; simp only [px_ins, hf, wl_get ha, hc, Nat.beq_refl, hl, hv, hp2, Bool.and_self, wl_set]) kk
theorem tz_newa_int {x : Int32} {m : Nat} (h : px_cd M pc = some (.newarray .int)) (hp : pc + 2 = p9) (hx : px_in x 60000000 = true) (hm : x.toNatClampNeg = m) (kk : px_to X d M (p9, lv, (.ref n :: st), (wl (n + 1) (mu c n (.inl (0, m, fun _ => 0)))), (k + 1), (z + m)) r) : px_to X d M (pc, lv, (.int x :: st), (wl n c), k, z) r := by
  subst hp
  exact tz_ins h (by subst hm; simp only [px_ins, hx, wl_len, wl_app]) kk
theorem tz_newa_boolean {x : Int32} {m : Nat} (h : px_cd M pc = some (.newarray .boolean)) (hp : pc + 2 = p9) (hx : px_in x 60000000 = true) (hm : x.toNatClampNeg = m) (kk : px_to X d M (p9, lv, (.ref n :: st), (wl (n + 1) (mu c n (.inl (1, m, fun _ => 0)))), (k + 1), (z + m)) r) : px_to X d M (pc, lv, (.int x :: st), (wl n c), k, z) r := by
  subst hp
  exact tz_ins h (by subst hm; simp only [px_ins, hx, wl_len, wl_app]) kk
theorem tz_newa_long {x : Int32} {m : Nat} (h : px_cd M pc = some (.newarray .long)) (hp : pc + 2 = p9) (hx : px_in x 60000000 = true) (hm : x.toNatClampNeg = m) (kk : px_to X d M (p9, lv, (.ref n :: st), (wl (n + 1) (mu c n (.inr (.inl (m, fun _ => 0))))), (k + 1), (z + m)) r) : px_to X d M (pc, lv, (.int x :: st), (wl n c), k, z) r := by
  subst hp
  exact tz_ins h (by subst hm; simp only [px_ins, hx, wl_len, wl_app]) kk
theorem tz_new {j ci m : Nat} {fs : List Value} (h : px_cd M pc = some (.new j)) (hp : pc + 3 = p9) (hn : px_nw M j = some ci) (hd : px_df ci = fs) (hm : px_sz ci = m) (kk : px_to X d M (p9, lv, (.ref n :: st), (wl (n + 1) (mu c n (.inr (.inr (ci, fs))))), (k + 1), (z + m)) r) : px_to X d M (pc, lv, st, (wl n c), k, z) r := by
  subst hp
  exact tz_ins h (by subst hm; subst hd; simp only [px_ins, hn, wl_len, wl_app]) kk
theorem tz_oinit {j a : Nat} (h : px_cd M pc = some (.invokespecial j)) (hp : pc + 3 = p9) (ho : px_oi M j = true) (hw : Nat.ble (px_w st) 8 = true) (kk : px_to X d M (p9, lv, st, w, k, z) r) : px_to X d M (pc, lv, (.ref a :: st), w, k, z) r := by
  subst hp
  exact tz_ins h (by simp only [px_ins, ho, hw]) kk
theorem tz_max {j : Nat} {x y v : Int32} (h : px_cd M pc = some (.invokestatic j)) (hp : pc + 3 = p9) (ho : px_ik M j = some 0) (hw : Nat.ble (px_w st) 8 = true) (hv : (if x < y then y else x) = v) (kk : px_to X d M (p9, lv, (.int v :: st), w, k, z) r) : px_to X d M (pc, lv, (.int y :: .int x :: st), w, k, z) r := by
  subst hp
  exact tz_ins h (by subst hv; simp only [px_ins, ho, hw]) kk
theorem tz_min {j : Nat} {x y v : Int32} (h : px_cd M pc = some (.invokestatic j)) (hp : pc + 3 = p9) (ho : px_ik M j = some 1) (hw : Nat.ble (px_w st) 8 = true) (hv : (if y < x then y else x) = v) (kk : px_to X d M (p9, lv, (.int v :: st), w, k, z) r) : px_to X d M (pc, lv, (.int y :: .int x :: st), w, k, z) r := by
  subst hp
  exact tz_ins h (by subst hv; simp only [px_ins, ho, hw]) kk
theorem tz_copy {j a0 a n0 n1 : Nat} {f g : Nat → Int32} {sp dp m : Int32} (h : px_cd M pc = some (.invokestatic j)) (hp : pc + 3 = p9) (ho : px_ik M j = some 2) (hw : Nat.ble (px_w st) 8 = true) (ha0 : a0 < n) (ha1 : a < n) (hc0 : c a0 = .inl (0, n0, f)) (hc1 : c a = .inl (0, n1, g)) (h1 : ¬ sp < 0) (h2 : ¬ dp < 0) (h3 : ¬ m < 0) (h4 : sp.toNatClampNeg + m.toNatClampNeg ≤ n0) (h5 : dp.toNatClampNeg + m.toNatClampNeg ≤ n1)
    (kk : px_to X d M (p9, lv, st, wl n (mu c a (.inl (0, n1, va_cpy f g sp.toNatClampNeg dp.toNatClampNeg m.toNatClampNeg))), k, z) r) : px_to X d M (pc, lv, .int m :: .int dp :: .ref a :: .int sp :: .ref a0 :: st, wl n c, k, z) r := by
  subst hp
  exact tz_ins h (by simp only [px_ins, ho, wl_get ha0, wl_get ha1, hc0, hc1, hw, decide_eq_false h1, decide_eq_false h2, decide_eq_false h3, Nat.ble_eq_true_of_le h4, Nat.ble_eq_true_of_le h5, Bool.not_false, Bool.and_self, wl_set]) kk
theorem tz_tsw {q lo hi : Int} {offs : Array Int} {x : Int32} {t9 : Nat} (h : px_cd M pc = some (.tableswitch q lo hi offs)) (ht : px_ts M pc lo hi x = t9) (kk : px_to X d M (t9, lv, st, w, k, z) r) : px_to X d M (pc, lv, .int x :: st, w, k, z) r := by
  subst ht
  exact tz_ins h rfl kk
theorem tz_lsw {q : Int} {ps : Array (Int × Int)} {x : Int32} {t9 : Nat} (h : px_cd M pc = some (.lookupswitch q ps)) (ht : px_ls x = t9) (kk : px_to X d M (t9, lv, st, w, k, z) r) : px_to X d M (pc, lv, .int x :: st, w, k, z) r := by
  subst ht
  exact tz_ins h rfl kk
theorem tz_take {As rest : List Value} {m : Nat} (h : As.length = m) : ((As.reverse ++ rest).take m).reverse = As ∧ (As.reverse ++ rest).drop m = rest ∧ m ≤ (As.reverse ++ rest).length := by
  have h1 : As.reverse.length = m := by rw [List.length_reverse, h]
  refine ⟨by rw [← h1, List.take_left' rfl, List.reverse_reverse], by rw [← h1, List.drop_left' rfl], by rw [List.length_append, h1]; omega⟩
theorem tz_calV {N j i : Nat} {As rest : List Value} {fs : List Value} (h : px_cd M pc = some (.invokevirtual j)) (hk : px_kl M j = some N) (h0 : px_kd N = 0) (ha : As.length + 1 = px_ar N) (hw : Nat.ble (px_w rest) 8 = true) (hi : i < n) (hc : c i = .inr (.inr (px_on N, fs))) (hs : As.reverse ++ .ref i :: rest = st) : px_cal M pc st (wl n c) = some (N, .ref i :: As, rest) := by
  have hs2 : (Value.ref i :: As).reverse ++ rest = st := by rw [List.reverse_cons, List.append_assoc]; exact hs
  subst hs2
  obtain ⟨t1, t2, t3⟩ := tz_take (As := Value.ref i :: As) (rest := rest) (m := px_ar N) (by rw [List.length_cons]; exact ha)
  unfold px_cal
  rw [h]
  dsimp only
  rw [hk]
  dsimp only
  rw [t1, t2, h0]
  simp only [px_rcv, wl_get hi, hc, Nat.beq_refl, hw, Nat.ble_eq_true_of_le t3, Bool.and_self]
theorem tz_calI {N j i : Nat} {As rest : List Value} {fs : List Value} (h : px_cd M pc = some (.invokespecial j)) (hk : px_kl M j = some N) (h0 : px_kd N = 2) (ha : As.length + 1 = px_ar N) (hw : Nat.ble (px_w rest) 8 = true) (hi : i < n) (hc : c i = .inr (.inr (px_on N, fs))) (hs : As.reverse ++ .ref i :: rest = st) : px_cal M pc st (wl n c) = some (N, .ref i :: As, rest) := by
  have hs2 : (Value.ref i :: As).reverse ++ rest = st := by rw [List.reverse_cons, List.append_assoc]; exact hs
  subst hs2
  obtain ⟨t1, t2, t3⟩ := tz_take (As := Value.ref i :: As) (rest := rest) (m := px_ar N) (by rw [List.length_cons]; exact ha)
  unfold px_cal
  rw [h]
  dsimp only
  rw [hk]
  dsimp only
  rw [t1, t2, h0]
  simp only [px_rcv, wl_get hi, hc, Nat.beq_refl, hw, Nat.ble_eq_true_of_le t3, Bool.and_self]
theorem tz_calS {N j : Nat} {As rest : List Value} (h : px_cd M pc = some (.invokestatic j)) (hk : px_kl M j = some N) (h0 : (Nat.beq (px_kd N) 1 || Nat.beq (px_kd N) 3) = true) (ha : As.length = px_ar N) (hw : Nat.ble (px_w rest) 8 = true) (hs : As.reverse ++ rest = st) : px_cal M pc st w = some (N, As, rest) := by
  subst hs
  obtain ⟨t1, t2, t3⟩ := tz_take (As := As) (rest := rest) (m := px_ar N) ha
  unfold px_cal
  rw [h]
  dsimp only
  rw [hk]
  dsimp only
  rw [t1, t2, h0]
  simp only [hw, Nat.ble_eq_true_of_le t3, Bool.and_self]
/-- a call that answers u; and one that answers nothing; nothing is made -/
theorem tz_c1 {N : Nat} {a rest : List Value} {u : Value} {w1 : px_W} (h : px_cal M pc st w = some (N, a, rest)) (hp : pc + 3 = p9) (hc : px_ev X d N a w (some (some u), w1, 0, 0)) (kk : px_to X d M (p9, lv, u :: rest, w1, k, z) r) : px_to X d M (pc, lv, st, w, k, z) r := by
  subst hp
  exact px_toC h hc kk
theorem tz_c0 {N : Nat} {a rest : List Value} {w1 : px_W} (h : px_cal M pc st w = some (N, a, rest)) (hp : pc + 3 = p9) (hc : px_ev X d N a w (some none, w1, 0, 0)) (kk : px_to X d M (p9, lv, rest, w1, k, z) r) : px_to X d M (pc, lv, st, w, k, z) r := by
  subst hp
  exact px_toC h hc kk
theorem tz_reti {v : Int32} (h : px_cd M pc = some .ireturn) (hr : px_rt M = some .int) : px_to X d M (pc, lv, [.int v], w, k, z) (some (some (.int v)), w, k, z) :=
  px_toF (by unfold px_fin; dsimp only; rw [h]; dsimp only; rw [hr])
theorem tz_retz {v : Int32} (h : px_cd M pc = some .ireturn) (hr : px_rt M = some .boolean) (hv : v = 0 ∨ v = 1) : px_to X d M (pc, lv, [.int v], w, k, z) (some (some (.int v)), w, k, z) :=
  px_toF (by
    unfold px_fin; dsimp only; rw [h]; dsimp only; rw [hr]; dsimp only
    rcases hv with rfl | rfl <;> rfl)
theorem tz_reta {a : Nat} {ty : FieldType} (h : px_cd M pc = some .areturn) (hr : px_rt M = some (.array ty)) : px_to X d M (pc, lv, [.ref a], w, k, z) (some (some (.ref a)), w, k, z) :=
  px_toF (by unfold px_fin; dsimp only; rw [h]; dsimp only; rw [hr])
theorem tz_retv (h : px_cd M pc = some .return_) (hr : px_rt M = none) : px_to X d M (pc, lv, [], w, k, z) (some none, w, k, z) :=
  px_toF (by unfold px_fin; dsimp only; rw [h]; dsimp only; rw [hr])
end TS
