/-! THE PURE MACHINE IS SOUND: what it does, the machine does. -/
abbrev px_Cs : Type := ClassId × ClassId × ClassId
/-- the array classes: int, boolean, long -/
def px_tys (cs : px_Cs) : List (ClassId × FieldType) := [(cs.1, .int), (cs.2.1, .boolean), (cs.2.2, .long)]
/-- the real value that stands for a pure one; rw: the real world; b: the script's address -/
def px_V (b : Nat) (rw : va_W) (v v' : Value) : Prop := match v with
  | .int x => v' = .int x
  | .long x => v' = .long x
  | .null => v' = .null
  | .ref i => ∃ (a : Nat) (e : va_E), rw[i]? = some (a, e) ∧ v' = .ref a
  | .retAddr 1 => v' = .ref b
  | .retAddr (_ + 2) => ∃ a : Nat, v' = .ref a
  | _ => False
def px_S (b : Nat) (rw : va_W) : List Value → List Value → Prop
  | [], st => st = []
  | v :: r, st => ∃ v' r', st = v' :: r' ∧ px_V b rw v v' ∧ px_S b rw r r'
def px_L (b : Nat) (rw : va_W) (lv : List Value) (ls : Array Slot) : Prop :=
  ls.size = lv.length ∧ lv_wf ls ∧ ∀ (i : Nat) (v : Value), lv[i]? = some v → v ≠ .retAddr 0 → ∃ v', ls[i]? = some (.val v') ∧ px_V b rw v v' ∧ v'.category = 1
def px_Er (b : Nat) (cs : px_Cs) (rw : va_W) (e : px_E) (e' : va_E) : Prop := match e with
  | .inl a => e' = .inl ((bif Nat.beq a.1 0 then cs.1 else cs.2.1), a.2.1, .inl a.2.2)
  | .inr (.inl a) => e' = .inl (cs.2.2, a.1, .inr (.inl a.2))
  | .inr (.inr o) => ∃ fs' : List Value, e' = .inr (o.1, fs') ∧ fs'.length = o.2.length ∧ ∀ (i : Nat) (v : Value), o.2[i]? = some v → ∃ v', fs'[i]? = some v' ∧ px_V b rw v v'
def px_Ad (rw rw1 : va_W) : Prop := ∀ (i a : Nat) (e : va_E), rw[i]? = some (a, e) → ∃ e1, rw1[i]? = some (a, e1)
theorem px_Ad.rf {rw : va_W} : px_Ad rw rw := fun _ _ e h => ⟨e, h⟩
theorem px_Ad.tr {r1 r2 r3 : va_W} (h1 : px_Ad r1 r2) (h2 : px_Ad r2 r3) : px_Ad r1 r3 := fun i a e h => by
  obtain ⟨e1, h3⟩ := h1 i a e h
  exact h2 i a e1 h3
theorem px_Ad.set {rw : va_W} {i a : Nat} {e e1 : va_E} (h : rw[i]? = some (a, e)) : px_Ad rw (rw.set i (a, e1)) := by
  intro j a2 e2 h2
  by_cases hj : i = j
  · subst hj
    rw [h] at h2
    cases h2
    exact ⟨e1, by rw [List.getElem?_set_self (List.getElem?_eq_some_iff.mp h).1]⟩
  · exact ⟨e2, by rw [List.getElem?_set_ne hj]; exact h2⟩
theorem px_Ad.app {rw r2 : va_W} : px_Ad rw (rw ++ r2) := fun i a e h => ⟨e, by rw [List.getElem?_append_left (List.getElem?_eq_some_iff.mp h).1]; exact h⟩
theorem px_V.mono {b : Nat} {rw rw1 : va_W} {v v' : Value} (h : px_Ad rw rw1) (hv : px_V b rw v v') : px_V b rw1 v v' := by
  match v, hv with
  | .int x, hv => exact hv
  | .long x, hv => exact hv
  | .null, hv => exact hv
  | .ref i, ⟨a, e, h1, h2⟩ =>
    obtain ⟨e1, h3⟩ := h i a e h1
    exact ⟨a, e1, h3, h2⟩
  | .retAddr 1, hv => exact hv
  | .retAddr (n + 2), hv => exact hv
theorem px_V.cat {b : Nat} {rw : va_W} {v v' : Value} (hv : px_V b rw v v') : v'.category = v.category := by
  match v, hv with
  | .int x, hv => cases hv; rfl
  | .long x, hv => cases hv; rfl
  | .null, hv => cases hv; rfl
  | .ref i, ⟨a, e, h1, h2⟩ => cases h2; rfl
  | .retAddr 1, hv => cases hv; rfl
  | .retAddr (n + 2), ⟨a, hv⟩ => cases hv; rfl
theorem px_V.ne {b : Nat} {rw : va_W} {v v' : Value} (hv : px_V b rw v v') : v ≠ .retAddr 0 := by
  rintro rfl
  exact hv
theorem px_S.mono {b : Nat} {rw rw1 : va_W} (h : px_Ad rw rw1) : ∀ {st st' : List Value}, px_S b rw st st' → px_S b rw1 st st'
  | [], _, hs => hs
  | _ :: _, _, ⟨v', r', e, hv, hr⟩ => ⟨v', r', e, hv.mono h, px_S.mono h hr⟩
theorem px_S.len {b : Nat} {rw : va_W} : ∀ {st st' : List Value}, px_S b rw st st' → st'.length = st.length
  | [], _, hs => by rw [show _ = _ from hs]
  | _ :: _, _, ⟨v', r', e, hv, hr⟩ => by rw [e, List.length_cons, List.length_cons, px_S.len hr]
theorem px_S.sum {b : Nat} {rw : va_W} : ∀ {st st' : List Value}, px_S b rw st st' → (st'.map fun v => v.category).sum = px_w st
  | [], _, hs => by rw [show _ = _ from hs]; rfl
  | _ :: _, _, ⟨v', r', e, hv, hr⟩ => by rw [e, List.map_cons, List.sum_cons, px_S.sum hr, hv.cat]; rfl
theorem px_S.append {b : Nat} {rw : va_W} : ∀ {s1 s2 t1 t2 : List Value}, px_S b rw s1 t1 → px_S b rw s2 t2 → px_S b rw (s1 ++ s2) (t1 ++ t2)
  | [], _, _, _, h1, h2 => by rw [show _ = _ from h1]; exact h2
  | _ :: _, _, _, _, ⟨v', r', e, hv, hr⟩, h2 => by rw [e]; exact ⟨v', _, rfl, hv, px_S.append hr h2⟩
theorem px_S.rev {b : Nat} {rw : va_W} : ∀ {st st' : List Value}, px_S b rw st st' → px_S b rw st.reverse st'.reverse
  | [], _, hs => by rw [show _ = _ from hs]; rfl
  | _ :: _, _, ⟨v', r', e, hv, hr⟩ => by
    rw [e, List.reverse_cons, List.reverse_cons]
    exact px_S.append (px_S.rev hr) ⟨v', [], rfl, hv, rfl⟩
theorem px_S.take {b : Nat} {rw : va_W} : ∀ (n : Nat) {st st' : List Value}, px_S b rw st st' → px_S b rw (st.take n) (st'.take n)
  | 0, _, _, _ => by rw [List.take_zero, List.take_zero]; rfl
  | _ + 1, [], _, hs => by rw [show _ = _ from hs]; rfl
  | n + 1, _ :: _, _, ⟨v', r', e, hv, hr⟩ => by rw [e]; exact ⟨v', _, rfl, hv, px_S.take n hr⟩
theorem px_S.drop {b : Nat} {rw : va_W} : ∀ (n : Nat) {st st' : List Value}, px_S b rw st st' → px_S b rw (st.drop n) (st'.drop n)
  | 0, _, _, h => h
  | _ + 1, [], _, hs => by rw [show _ = _ from hs]; rfl
  | n + 1, _ :: _, _, ⟨v', r', e, hv, hr⟩ => by rw [e]; exact px_S.drop n hr
theorem px_L.mono {b : Nat} {rw rw1 : va_W} {lv : List Value} {ls : Array Slot} (h : px_Ad rw rw1) (hl : px_L b rw lv ls) : px_L b rw1 lv ls :=
  ⟨hl.1, hl.2.1, fun i v h1 h2 => by
    obtain ⟨v', h3, h4, h5⟩ := hl.2.2 i v h1 h2
    exact ⟨v', h3, h4.mono h, h5⟩⟩
theorem px_Er.mono {b : Nat} {cs : px_Cs} {rw rw1 : va_W} {e : px_E} {e' : va_E} (h : px_Ad rw rw1) (he : px_Er b cs rw e e') : px_Er b cs rw1 e e' := by
  match e, he with
  | .inl a, he => exact he
  | .inr (.inl a), he => exact he
  | .inr (.inr o), ⟨fs', h1, h2, h3⟩ =>
    refine ⟨fs', h1, h2, fun i v hv => ?_⟩
    obtain ⟨v', h4, h5⟩ := h3 i v hv
    exact ⟨v', h4, h5.mono h⟩
/-- the pure world w stands for the real cells rw of the heap H -/
def px_G (D : va_G) (cs : px_Cs) (b : Nat) (A : Nat → Prop) (H0 : Heap) (w : px_W) (rw : va_W) (H : Heap) (locs : List Loc) : Prop :=
  rw.length = w.length ∧ (∀ (i : Nat) (e : px_E), w[i]? = some e → ∃ (a : Nat) (e' : va_E), rw[i]? = some (a, e') ∧ px_Er b cs rw e e') ∧ va_P D px_cls rw H ∧ va_D A rw ∧ va_S A H0 H locs
theorem px_sr {b : Nat} {cs : px_Cs} {w : px_W} {rw : va_W} {i a : Nat} {e1 : px_E} {e0' e1' : va_E} (hl : rw.length = w.length) (hE : ∀ (i : Nat) (e : px_E), w[i]? = some e → ∃ (a : Nat) (e' : va_E), rw[i]? = some (a, e') ∧ px_Er b cs rw e e') (h0 : rw[i]? = some (a, e0')) (h1 : px_Er b cs rw e1 e1') :
    (rw.set i (a, e1')).length = (w.set i e1).length ∧ ∀ (j : Nat) (e : px_E), (w.set i e1)[j]? = some e → ∃ (a2 : Nat) (e' : va_E), (rw.set i (a, e1'))[j]? = some (a2, e') ∧ px_Er b cs (rw.set i (a, e1')) e e' := by
  refine ⟨by rw [List.length_set, List.length_set, hl], fun j e hj => ?_⟩
  have hlt : i < rw.length := (List.getElem?_eq_some_iff.mp h0).1
  by_cases hij : i = j
  · subst hij
    rw [List.getElem?_set_self (by rw [← hl]; exact hlt)] at hj
    cases hj
    exact ⟨a, e1', by rw [List.getElem?_set_self hlt], h1.mono (px_Ad.set h0)⟩
  · rw [List.getElem?_set_ne hij] at hj
    obtain ⟨a2, e', h3, h4⟩ := hE j e hj
    exact ⟨a2, e', by rw [List.getElem?_set_ne hij]; exact h3, h4.mono (px_Ad.set h0)⟩
theorem px_ar1 {b : Nat} {cs : px_Cs} {w : px_W} {rw : va_W} {q : Nat} {e1 : px_E} {e1' : va_E} (hl : rw.length = w.length) (hE : ∀ (i : Nat) (e : px_E), w[i]? = some e → ∃ (a : Nat) (e' : va_E), rw[i]? = some (a, e') ∧ px_Er b cs rw e e') (h1 : px_Er b cs rw e1 e1') :
    (rw ++ [(q, e1')]).length = (w ++ [e1]).length ∧ ∀ (j : Nat) (e : px_E), (w ++ [e1])[j]? = some e → ∃ (a2 : Nat) (e' : va_E), (rw ++ [(q, e1')])[j]? = some (a2, e') ∧ px_Er b cs (rw ++ [(q, e1')]) e e' := by
  refine ⟨by simp [hl], fun j e hj => ?_⟩
  by_cases hlt : j < w.length
  · rw [List.getElem?_append_left hlt] at hj
    obtain ⟨a2, e', h3, h4⟩ := hE j e hj
    exact ⟨a2, e', by rw [List.getElem?_append_left (by rw [hl]; exact hlt)]; exact h3, h4.mono px_Ad.app⟩
  · rw [List.getElem?_append_right (by omega)] at hj
    have hz : j - w.length < 1 := (List.getElem?_eq_some_iff.mp hj).1
    have hj0 : j = w.length := by omega
    subst hj0
    rw [Nat.sub_self] at hj
    cases hj
    exact ⟨q, e1', by rw [List.getElem?_append_right (by omega), hl, Nat.sub_self]; rfl, h1.mono px_Ad.app⟩
/-- the list of all values of one slot that the locals hold -/
def px_lsa (ls : Array Slot) : List (Nat × Value) := (List.range ls.size).filterMap fun (i : Nat) => match (ls[i]? : Option Slot) with
  | some (Slot.val v) => some (i, v)
  | _ => none
theorem px_lsa_has {ls : Array Slot} {n : Nat} (hs : ls.size = n) (hw : lv_wf ls) : lv_has ls n (px_lsa ls) := by
  refine ⟨hs, hw, fun q hq => ?_⟩
  obtain ⟨i, -, hi⟩ := List.mem_filterMap.mp hq
  split at hi
  · cases hi
    assumption
  · cases hi
theorem px_lsa_mem {ls : Array Slot} {i : Nat} {v : Value} (h : ls[i]? = some (.val v)) : (i, v) ∈ px_lsa ls :=
  List.mem_filterMap.mpr ⟨i, List.mem_range.mpr (lv_lt h), by rw [h]⟩
theorem px_L.put {b : Nat} {rw : va_W} {lv : List Value} {ls ls' : Array Slot} {i : Nat} {v v' : Value} (h : px_L b rw lv ls) (hv : px_V b rw v v') (hc : v'.category = 1)
    (h' : lv_has ls' lv.length ((i, v') :: (px_lsa ls).filter (fun q => !(q.1 == i) && !(q.1 + 1 == i && q.2.category == 2)))) : px_L b rw (lv.set i v) ls' := by
  refine ⟨by rw [List.length_set]; exact h'.1, h'.2.1, fun j u hj hu => ?_⟩
  by_cases hij : i = j
  · subst hij
    have hlt : i < lv.length := by
      have := (List.getElem?_eq_some_iff.mp hj).1
      rwa [List.length_set] at this
    rw [List.getElem?_set_self hlt] at hj
    cases hj
    exact ⟨v', h'.2.2 (i, v') List.mem_cons_self, hv, hc⟩
  · rw [List.getElem?_set_ne hij] at hj
    obtain ⟨u', h1, h2, h3⟩ := h.2.2 j u hj hu
    refine ⟨u', h'.2.2 (j, u') (List.mem_cons_of_mem _ (List.mem_filter.mpr ⟨px_lsa_mem h1, ?_⟩)), h2, h3⟩
    have h4 : (j == i) = false := by simpa using fun q => hij q.symm
    simp [h4, h3]
/-- what stands fixed while a method runs -/
def px_K (D : va_G) (cs : px_Cs) (b : Nat) (A : Nat → Prop) (H0 : Heap) (X : Nat × (Nat → Int32)) (M : Nat) (p : Program) (s : State) (m : MethodId) (args : Array Value) (meth : Method) (c : Code) : Prop :=
  p.tables.exec = Jvm.exec ∧ c.code = px_b M ∧ c.maxLocals = px_ml M ∧ s.vm.findClass (px_own M) = some m.cls ∧ (∀ w ∈ px_T, w.before args s = true) ∧ va_K D px_cls (px_tys cs) s ∧
  (∀ q, H0.size ≤ q → A q) ∧ va_X b X.1 X.2 s H0 ∧ b < H0.size ∧ ¬ A b ∧ (px_ini M = true → meth.name = "<init>")
theorem px_vin {i : Int32} {n : Nat} (h : px_in i n = true) : vp_in i n := by
  unfold px_in at h
  rw [Bool.and_eq_true] at h
  obtain ⟨h1, h2⟩ := h
  rintro (q | q)
  · simp [q] at h1
  · exact absurd (Nat.le_of_ble_eq_true h2) (by omega)
theorem px_fitd {ty : FieldType} {v : Value} (h : px_fit ty v = true) {b : Nat} {rw : va_W} {v' : Value} (hv : px_V b rw v v') : narrow ty v' = v' ∧ fits ty v' = true := by
  unfold px_fit at h
  split at h
  · cases hv; exact ⟨rfl, rfl⟩
  · cases hv
    rename_i x
    simp only [Bool.or_eq_true, decide_eq_true_eq] at h
    rcases h with rfl | rfl <;> exact ⟨rfl, rfl⟩
  · obtain ⟨a, e, -, rfl⟩ := hv; exact ⟨rfl, rfl⟩
  · cases hv; exact ⟨rfl, rfl⟩
  · obtain ⟨a, e, -, rfl⟩ := hv; exact ⟨rfl, rfl⟩
  · cases hv; exact ⟨rfl, rfl⟩
  · cases h

section PXW
variable {p : Program} {l : Launch} {e : Env} {R : Room} {s : State} {m : MethodId} {args : Array Value} {below : List Frame} {meth : Method} {c : Code} {Q : State → Prop} {D : va_G} {cs : px_Cs} {b : Nat} {A : Nat → Prop} {H0 : Heap} {X : Nat × (Nat → Int32)} {M : Nat}
set_option maxHeartbeats 8000000 in
set_option maxRecDepth 100000 in
/-- one step -/
theorem px_step_ok (K : px_K D cs b A H0 X M p s m args meth c) {pc k z pc1 k1 z1 : Nat} {lv st lv1 st1 : List Value} {w w1 : px_W} (h : px_step X M (pc, lv, st, w, k, z) = some (pc1, lv1, st1, w1, k1, z1))
    {H : Heap} {locs : List Loc} {rw : va_W} {ls : Array Slot} {st' : List Value} (hG : px_G D cs b A H0 w rw H locs) (hL : px_L b rw lv ls) (hn : lv.length = px_ml M) (hSt : px_S b rw st st') (hk : k1 ≤ R.cells) (hz : z1 ≤ R.slots) (hfr : 1 ≤ R.frames) (hlo : 60 ≤ R.locals)
    (kk : ∀ (H1 : Heap) (locs1 : List Loc) (rw1 : va_W) (ls1 : Array Slot) (st1' : List Value), px_Ad rw rw1 → px_G D cs b A H0 w1 rw1 H1 locs1 → px_L b rw1 lv1 ls1 → px_S b rw1 st1 st1' → W p l e R s m args below meth c H1 locs1 k1 z1 Q (F0 m pc1 ls1 st1')) :
    W p l e R s m args below meth c H locs k z Q (F0 m pc ls st') := by
  obtain ⟨hx, hb, hml, hown, hts, hK, hA, hX, hbl, hbA, hin⟩ := K
  unfold px_step at h
  dsimp only at h
  cases hcd : px_cd M pc with
  | none => rw [hcd] at h; cases h
  | some I =>
  rw [hcd] at h
  dsimp only at h
  have hlsz : ls.size = c.maxLocals := by rw [hL.1, hml, hn]
  cases I with
  | iconst v =>
    simp only [px_ins] at h
    simp only [Option.some.injEq, Prod.mk.injEq] at h
    obtain ⟨rfl, rfl, rfl, rfl, rfl, rfl⟩ := h
    exact lv_iconst hx hb (px_dec hcd (Nat.succ_ne_zero _)) rfl (kk _ _ _ _ _ px_Ad.rf hG hL ⟨_, _, rfl, rfl, hSt⟩)
  | bipush v =>
    simp only [px_ins] at h
    simp only [Option.some.injEq, Prod.mk.injEq] at h
    obtain ⟨rfl, rfl, rfl, rfl, rfl, rfl⟩ := h
    exact lv_bipush hx hb (px_dec hcd (Nat.succ_ne_zero _)) rfl (kk _ _ _ _ _ px_Ad.rf hG hL ⟨_, _, rfl, rfl, hSt⟩)
  | sipush v =>
    simp only [px_ins] at h
    simp only [Option.some.injEq, Prod.mk.injEq] at h
    obtain ⟨rfl, rfl, rfl, rfl, rfl, rfl⟩ := h
    exact lv_sipush hx hb (px_dec hcd (Nat.succ_ne_zero _)) rfl (kk _ _ _ _ _ px_Ad.rf hG hL ⟨_, _, rfl, rfl, hSt⟩)
  | aconst_null =>
    simp only [px_ins] at h
    simp only [Option.some.injEq, Prod.mk.injEq] at h
    obtain ⟨rfl, rfl, rfl, rfl, rfl, rfl⟩ := h
    exact lv_null hx hb (px_dec hcd (Nat.succ_ne_zero _)) (kk _ _ _ _ _ px_Ad.rf hG hL ⟨_, _, rfl, rfl, hSt⟩)
  | ldc i =>
    simp only [px_ins] at h
    split at h
    · rename_i v hv
      simp only [Option.some.injEq, Prod.mk.injEq] at h
      obtain ⟨rfl, rfl, rfl, rfl, rfl, rfl⟩ := h
      exact lv_ldc hx hb hown (hts _ (px_lcd hv)) (px_dec hcd (Nat.succ_ne_zero _)) (kk _ _ _ _ _ px_Ad.rf hG hL ⟨_, _, rfl, rfl, hSt⟩)
    · cases h
  | iload i =>
    simp only [px_ins] at h
    split at h
    · rename_i x hx1
      simp only [Option.some.injEq, Prod.mk.injEq] at h
      obtain ⟨rfl, rfl, rfl, rfl, rfl, rfl⟩ := h
      obtain ⟨v', ho, hv, -⟩ := hL.2.2 _ _ hx1 (by intro q; cases q)
      cases hv
      exact lv_iload hx hb (px_dec hcd (Nat.succ_ne_zero _)) ho (kk _ _ _ _ _ px_Ad.rf hG hL ⟨_, _, rfl, rfl, hSt⟩)
    · cases h
  | iload_n i =>
    simp only [px_ins] at h
    split at h
    · rename_i x hx1
      simp only [Option.some.injEq, Prod.mk.injEq] at h
      obtain ⟨rfl, rfl, rfl, rfl, rfl, rfl⟩ := h
      obtain ⟨v', ho, hv, -⟩ := hL.2.2 _ _ hx1 (by intro q; cases q)
      cases hv
      exact lv_iload_n hx hb (px_dec hcd (Nat.succ_ne_zero _)) rfl ho (kk _ _ _ _ _ px_Ad.rf hG hL ⟨_, _, rfl, rfl, hSt⟩)
    · cases h
  | aload i =>
    simp only [px_ins] at h
    split at h
    · rename_i x hx1
      simp only [Option.some.injEq, Prod.mk.injEq] at h
      obtain ⟨rfl, rfl, rfl, rfl, rfl, rfl⟩ := h
      obtain ⟨v', ho, ⟨a, ea, h1, rfl⟩, -⟩ := hL.2.2 _ _ hx1 (by intro q; cases q)
      exact lv_aload hx hb (px_dec hcd (Nat.succ_ne_zero _)) ho (kk _ _ _ _ _ px_Ad.rf hG hL ⟨_, _, rfl, ⟨a, ea, h1, rfl⟩, hSt⟩)
    · rename_i hx1
      simp only [Option.some.injEq, Prod.mk.injEq] at h
      obtain ⟨rfl, rfl, rfl, rfl, rfl, rfl⟩ := h
      obtain ⟨v', ho, rfl, -⟩ := hL.2.2 _ _ hx1 (by intro q; cases q)
      exact lv_aloadN hx hb (px_dec hcd (Nat.succ_ne_zero _)) ho (kk _ _ _ _ _ px_Ad.rf hG hL ⟨_, _, rfl, rfl, hSt⟩)
    · rename_i j hx1
      simp only [Option.some.injEq, Prod.mk.injEq] at h
      obtain ⟨rfl, rfl, rfl, rfl, rfl, rfl⟩ := h
      obtain ⟨v', ho, hv, -⟩ := hL.2.2 _ _ hx1 (by intro q; cases q)
      obtain ⟨a, rfl⟩ : ∃ a : Nat, v' = .ref a := by
        cases j with
        | zero => exact ⟨b, hv⟩
        | succ j => exact hv
      exact lv_aload hx hb (px_dec hcd (Nat.succ_ne_zero _)) ho (kk _ _ _ _ _ px_Ad.rf hG hL ⟨_, _, rfl, hv, hSt⟩)
    · cases h
  | aload_n i =>
    simp only [px_ins] at h
    split at h
    · rename_i x hx1
      simp only [Option.some.injEq, Prod.mk.injEq] at h
      obtain ⟨rfl, rfl, rfl, rfl, rfl, rfl⟩ := h
      obtain ⟨v', ho, ⟨a, ea, h1, rfl⟩, -⟩ := hL.2.2 _ _ hx1 (by intro q; cases q)
      exact lv_aload_n hx hb (px_dec hcd (Nat.succ_ne_zero _)) rfl ho (kk _ _ _ _ _ px_Ad.rf hG hL ⟨_, _, rfl, ⟨a, ea, h1, rfl⟩, hSt⟩)
    · rename_i hx1
      simp only [Option.some.injEq, Prod.mk.injEq] at h
      obtain ⟨rfl, rfl, rfl, rfl, rfl, rfl⟩ := h
      obtain ⟨v', ho, rfl, -⟩ := hL.2.2 _ _ hx1 (by intro q; cases q)
      exact lv_aload_nN hx hb (px_dec hcd (Nat.succ_ne_zero _)) rfl ho (kk _ _ _ _ _ px_Ad.rf hG hL ⟨_, _, rfl, rfl, hSt⟩)
    · rename_i j hx1
      simp only [Option.some.injEq, Prod.mk.injEq] at h
      obtain ⟨rfl, rfl, rfl, rfl, rfl, rfl⟩ := h
      obtain ⟨v', ho, hv, -⟩ := hL.2.2 _ _ hx1 (by intro q; cases q)
      obtain ⟨a, rfl⟩ : ∃ a : Nat, v' = .ref a := by
        cases j with
        | zero => exact ⟨b, hv⟩
        | succ j => exact hv
      exact lv_aload_n hx hb (px_dec hcd (Nat.succ_ne_zero _)) rfl ho (kk _ _ _ _ _ px_Ad.rf hG hL ⟨_, _, rfl, hv, hSt⟩)
    · cases h
  | istore i =>
    simp only [px_ins] at h
    split at h
    · rename_i x r
      split at h
      · rename_i hlt
        simp only [Option.some.injEq, Prod.mk.injEq] at h
        obtain ⟨rfl, rfl, rfl, rfl, rfl, rfl⟩ := h
        obtain ⟨_, r', rfl, rfl, hSt⟩ := hSt
        have hi : i < lv.length := Nat.le_of_ble_eq_true hlt
        exact lv_istore hx hb (px_dec hcd (Nat.succ_ne_zero _)) (px_lsa_has hL.1 hL.2.1) hi rfl (fun ls' h' => kk _ _ _ _ _ px_Ad.rf hG (hL.put (v := .int x) rfl rfl h') hSt)
      · cases h
    · cases h
  | istore_n i =>
    simp only [px_ins] at h
    split at h
    · rename_i x r
      split at h
      · rename_i hlt
        simp only [Option.some.injEq, Prod.mk.injEq] at h
        obtain ⟨rfl, rfl, rfl, rfl, rfl, rfl⟩ := h
        obtain ⟨_, r', rfl, rfl, hSt⟩ := hSt
        have hi : i.val < lv.length := Nat.le_of_ble_eq_true hlt
        exact lv_istore_n hx hb (px_dec hcd (Nat.succ_ne_zero _)) rfl (px_lsa_has hL.1 hL.2.1) hi rfl (fun ls' h' => kk _ _ _ _ _ px_Ad.rf hG (hL.put (v := .int x) rfl rfl h') hSt)
      · cases h
    · cases h
  | astore i =>
    simp only [px_ins] at h
    split at h
    · rename_i x r
      split at h
      · rename_i hlt
        simp only [Option.some.injEq, Prod.mk.injEq] at h
        obtain ⟨rfl, rfl, rfl, rfl, rfl, rfl⟩ := h
        obtain ⟨_, r', rfl, ⟨a, ea, h1, rfl⟩, hSt⟩ := hSt
        have hi : i < lv.length := Nat.le_of_ble_eq_true hlt
        exact lv_astore hx hb (px_dec hcd (Nat.succ_ne_zero _)) (px_lsa_has hL.1 hL.2.1) hi rfl (fun ls' h' => kk _ _ _ _ _ px_Ad.rf hG (hL.put (v := .ref x) ⟨a, ea, h1, rfl⟩ rfl h') hSt)
      · cases h
    · rename_i r
      split at h
      · rename_i hlt
        simp only [Option.some.injEq, Prod.mk.injEq] at h
        obtain ⟨rfl, rfl, rfl, rfl, rfl, rfl⟩ := h
        obtain ⟨_, r', rfl, rfl, hSt⟩ := hSt
        have hi : i < lv.length := Nat.le_of_ble_eq_true hlt
        exact lv_astoreN hx hb (px_dec hcd (Nat.succ_ne_zero _)) (px_lsa_has hL.1 hL.2.1) hi rfl (fun ls' h' => kk _ _ _ _ _ px_Ad.rf hG (hL.put (v := .null) rfl rfl h') hSt)
      · cases h
    · rename_i j r
      split at h
      · rename_i hlt
        simp only [Option.some.injEq, Prod.mk.injEq] at h
        obtain ⟨rfl, rfl, rfl, rfl, rfl, rfl⟩ := h
        obtain ⟨v', r', rfl, hv, hSt⟩ := hSt
        obtain ⟨a, rfl⟩ : ∃ a : Nat, v' = .ref a := by
          cases j with
          | zero => exact ⟨b, hv⟩
          | succ j => exact hv
        have hi : i < lv.length := Nat.le_of_ble_eq_true hlt
        exact lv_astore hx hb (px_dec hcd (Nat.succ_ne_zero _)) (px_lsa_has hL.1 hL.2.1) hi rfl (fun ls' h' => kk _ _ _ _ _ px_Ad.rf hG (hL.put (v := .retAddr (j + 1)) hv rfl h') hSt)
      · cases h
    · cases h
  | astore_n i =>
    simp only [px_ins] at h
    split at h
    · rename_i x r
      split at h
      · rename_i hlt
        simp only [Option.some.injEq, Prod.mk.injEq] at h
        obtain ⟨rfl, rfl, rfl, rfl, rfl, rfl⟩ := h
        obtain ⟨_, r', rfl, ⟨a, ea, h1, rfl⟩, hSt⟩ := hSt
        have hi : i.val < lv.length := Nat.le_of_ble_eq_true hlt
        exact lv_astore_n hx hb (px_dec hcd (Nat.succ_ne_zero _)) rfl (px_lsa_has hL.1 hL.2.1) hi rfl (fun ls' h' => kk _ _ _ _ _ px_Ad.rf hG (hL.put (v := .ref x) ⟨a, ea, h1, rfl⟩ rfl h') hSt)
      · cases h
    · rename_i r
      split at h
      · rename_i hlt
        simp only [Option.some.injEq, Prod.mk.injEq] at h
        obtain ⟨rfl, rfl, rfl, rfl, rfl, rfl⟩ := h
        obtain ⟨_, r', rfl, rfl, hSt⟩ := hSt
        have hi : i.val < lv.length := Nat.le_of_ble_eq_true hlt
        exact lv_astore_nN hx hb (px_dec hcd (Nat.succ_ne_zero _)) rfl (px_lsa_has hL.1 hL.2.1) hi rfl (fun ls' h' => kk _ _ _ _ _ px_Ad.rf hG (hL.put (v := .null) rfl rfl h') hSt)
      · cases h
    · rename_i j r
      split at h
      · rename_i hlt
        simp only [Option.some.injEq, Prod.mk.injEq] at h
        obtain ⟨rfl, rfl, rfl, rfl, rfl, rfl⟩ := h
        obtain ⟨v', r', rfl, hv, hSt⟩ := hSt
        obtain ⟨a, rfl⟩ : ∃ a : Nat, v' = .ref a := by
          cases j with
          | zero => exact ⟨b, hv⟩
          | succ j => exact hv
        have hi : i.val < lv.length := Nat.le_of_ble_eq_true hlt
        exact lv_astore_n hx hb (px_dec hcd (Nat.succ_ne_zero _)) rfl (px_lsa_has hL.1 hL.2.1) hi rfl (fun ls' h' => kk _ _ _ _ _ px_Ad.rf hG (hL.put (v := .retAddr (j + 1)) hv rfl h') hSt)
      · cases h
    · cases h
  | iinc i n =>
    simp only [px_ins] at h
    split at h
    · rename_i x hx1
      simp only [Option.some.injEq, Prod.mk.injEq] at h
      obtain ⟨rfl, rfl, rfl, rfl, rfl, rfl⟩ := h
      obtain ⟨v', ho, rfl, -⟩ := hL.2.2 _ _ hx1 (by intro q; cases q)
      obtain ⟨kq, hkq⟩ := List.getElem?_of_mem (px_lsa_mem ho)
      exact lv_iinc hx hb (px_dec hcd (Nat.succ_ne_zero _)) (px_lsa_has hL.1 hL.2.1) hkq rfl (List.getElem?_eq_some_iff.mp hx1).1 rfl (fun ls' h' => kk _ _ _ _ _ px_Ad.rf hG (hL.put (v := .int (x + Int32.ofInt n)) rfl rfl h') hSt)
    · cases h
  | iadd =>
    simp only [px_ins] at h
    split at h
    · rename_i y x r
      simp only [Option.some.injEq, Prod.mk.injEq] at h
      obtain ⟨rfl, rfl, rfl, rfl, rfl, rfl⟩ := h
      obtain ⟨_, _, rfl, rfl, _, r', rfl, rfl, hSt⟩ := hSt
      exact lv_iadd hx hb (px_dec hcd (Nat.succ_ne_zero _)) (kk _ _ _ _ _ px_Ad.rf hG hL ⟨_, _, rfl, rfl, hSt⟩)
    · cases h
  | isub =>
    simp only [px_ins] at h
    split at h
    · rename_i y x r
      simp only [Option.some.injEq, Prod.mk.injEq] at h
      obtain ⟨rfl, rfl, rfl, rfl, rfl, rfl⟩ := h
      obtain ⟨_, _, rfl, rfl, _, r', rfl, rfl, hSt⟩ := hSt
      exact lv_isub hx hb (px_dec hcd (Nat.succ_ne_zero _)) (kk _ _ _ _ _ px_Ad.rf hG hL ⟨_, _, rfl, rfl, hSt⟩)
    · cases h
  | imul =>
    simp only [px_ins] at h
    split at h
    · rename_i y x r
      simp only [Option.some.injEq, Prod.mk.injEq] at h
      obtain ⟨rfl, rfl, rfl, rfl, rfl, rfl⟩ := h
      obtain ⟨_, _, rfl, rfl, _, r', rfl, rfl, hSt⟩ := hSt
      exact lv_imul hx hb (px_dec hcd (Nat.succ_ne_zero _)) (kk _ _ _ _ _ px_Ad.rf hG hL ⟨_, _, rfl, rfl, hSt⟩)
    · cases h
  | iand =>
    simp only [px_ins] at h
    split at h
    · rename_i y x r
      simp only [Option.some.injEq, Prod.mk.injEq] at h
      obtain ⟨rfl, rfl, rfl, rfl, rfl, rfl⟩ := h
      obtain ⟨_, _, rfl, rfl, _, r', rfl, rfl, hSt⟩ := hSt
      exact lv_iand hx hb (px_dec hcd (Nat.succ_ne_zero _)) (kk _ _ _ _ _ px_Ad.rf hG hL ⟨_, _, rfl, rfl, hSt⟩)
    · cases h
  | ior =>
    simp only [px_ins] at h
    split at h
    · rename_i y x r
      simp only [Option.some.injEq, Prod.mk.injEq] at h
      obtain ⟨rfl, rfl, rfl, rfl, rfl, rfl⟩ := h
      obtain ⟨_, _, rfl, rfl, _, r', rfl, rfl, hSt⟩ := hSt
      exact lv_ior hx hb (px_dec hcd (Nat.succ_ne_zero _)) (kk _ _ _ _ _ px_Ad.rf hG hL ⟨_, _, rfl, rfl, hSt⟩)
    · cases h
  | ixor =>
    simp only [px_ins] at h
    split at h
    · rename_i y x r
      simp only [Option.some.injEq, Prod.mk.injEq] at h
      obtain ⟨rfl, rfl, rfl, rfl, rfl, rfl⟩ := h
      obtain ⟨_, _, rfl, rfl, _, r', rfl, rfl, hSt⟩ := hSt
      exact lv_ixor hx hb (px_dec hcd (Nat.succ_ne_zero _)) (kk _ _ _ _ _ px_Ad.rf hG hL ⟨_, _, rfl, rfl, hSt⟩)
    · cases h
  | ishl =>
    simp only [px_ins] at h
    split at h
    · rename_i y x r
      simp only [Option.some.injEq, Prod.mk.injEq] at h
      obtain ⟨rfl, rfl, rfl, rfl, rfl, rfl⟩ := h
      obtain ⟨_, _, rfl, rfl, _, r', rfl, rfl, hSt⟩ := hSt
      exact lv_ishl hx hb (px_dec hcd (Nat.succ_ne_zero _)) (kk _ _ _ _ _ px_Ad.rf hG hL ⟨_, _, rfl, rfl, hSt⟩)
    · cases h
  | ishr =>
    simp only [px_ins] at h
    split at h
    · rename_i y x r
      simp only [Option.some.injEq, Prod.mk.injEq] at h
      obtain ⟨rfl, rfl, rfl, rfl, rfl, rfl⟩ := h
      obtain ⟨_, _, rfl, rfl, _, r', rfl, rfl, hSt⟩ := hSt
      exact lv_ishr hx hb (px_dec hcd (Nat.succ_ne_zero _)) (kk _ _ _ _ _ px_Ad.rf hG hL ⟨_, _, rfl, rfl, hSt⟩)
    · cases h
  | iushr =>
    simp only [px_ins] at h
    split at h
    · rename_i y x r
      simp only [Option.some.injEq, Prod.mk.injEq] at h
      obtain ⟨rfl, rfl, rfl, rfl, rfl, rfl⟩ := h
      obtain ⟨_, _, rfl, rfl, _, r', rfl, rfl, hSt⟩ := hSt
      exact lv_iushr hx hb (px_dec hcd (Nat.succ_ne_zero _)) rfl (kk _ _ _ _ _ px_Ad.rf hG hL ⟨_, _, rfl, rfl, hSt⟩)
    · cases h
  | idiv =>
    simp only [px_ins] at h
    split at h
    · rename_i y x r
      split at h
      · cases h
      · rename_i hne
        simp only [Option.some.injEq, Prod.mk.injEq] at h
        obtain ⟨rfl, rfl, rfl, rfl, rfl, rfl⟩ := h
        obtain ⟨_, _, rfl, rfl, _, r', rfl, rfl, hSt⟩ := hSt
        exact lv_idiv hx hb (px_dec hcd (Nat.succ_ne_zero _)) (of_decide_eq_false hne) (kk _ _ _ _ _ px_Ad.rf hG hL ⟨_, _, rfl, rfl, hSt⟩)
    · cases h
  | irem =>
    simp only [px_ins] at h
    split at h
    · rename_i y x r
      split at h
      · cases h
      · rename_i hne
        simp only [Option.some.injEq, Prod.mk.injEq] at h
        obtain ⟨rfl, rfl, rfl, rfl, rfl, rfl⟩ := h
        obtain ⟨_, _, rfl, rfl, _, r', rfl, rfl, hSt⟩ := hSt
        exact lv_irem hx hb (px_dec hcd (Nat.succ_ne_zero _)) (of_decide_eq_false hne) (kk _ _ _ _ _ px_Ad.rf hG hL ⟨_, _, rfl, rfl, hSt⟩)
    · cases h
  | ineg =>
    simp only [px_ins] at h
    split at h
    · rename_i x r
      simp only [Option.some.injEq, Prod.mk.injEq] at h
      obtain ⟨rfl, rfl, rfl, rfl, rfl, rfl⟩ := h
      obtain ⟨_, _, rfl, rfl, hSt⟩ := hSt
      exact lv_ineg hx hb (px_dec hcd (Nat.succ_ne_zero _)) (kk _ _ _ _ _ px_Ad.rf hG hL ⟨_, _, rfl, rfl, hSt⟩)
    · cases h
  | dup =>
    simp only [px_ins] at h
    split at h
    · rename_i x r
      simp only [Option.some.injEq, Prod.mk.injEq] at h
      obtain ⟨rfl, rfl, rfl, rfl, rfl, rfl⟩ := h
      obtain ⟨_, _, rfl, rfl, hSt⟩ := hSt
      exact lv_dup hx hb (px_dec hcd (Nat.succ_ne_zero _)) rfl (kk _ _ _ _ _ px_Ad.rf hG hL ⟨_, _, rfl, rfl, _, _, rfl, rfl, hSt⟩)
    · rename_i x r
      simp only [Option.some.injEq, Prod.mk.injEq] at h
      obtain ⟨rfl, rfl, rfl, rfl, rfl, rfl⟩ := h
      obtain ⟨_, _, rfl, ⟨a, ea, h1, rfl⟩, hSt⟩ := hSt
      exact lv_dup hx hb (px_dec hcd (Nat.succ_ne_zero _)) rfl (kk _ _ _ _ _ px_Ad.rf hG hL ⟨_, _, rfl, ⟨a, ea, h1, rfl⟩, _, _, rfl, ⟨a, ea, h1, rfl⟩, hSt⟩)
    · cases h
  | pop =>
    simp only [px_ins] at h
    split at h
    · simp only [Option.some.injEq, Prod.mk.injEq] at h
      obtain ⟨rfl, rfl, rfl, rfl, rfl, rfl⟩ := h
      obtain ⟨_, _, rfl, hv, hSt⟩ := hSt
      exact lv_pop hx hb (px_dec hcd (Nat.succ_ne_zero _)) (px_V.cat hv) (kk _ _ _ _ _ px_Ad.rf hG hL hSt)
    · simp only [Option.some.injEq, Prod.mk.injEq] at h
      obtain ⟨rfl, rfl, rfl, rfl, rfl, rfl⟩ := h
      obtain ⟨_, _, rfl, hv, hSt⟩ := hSt
      exact lv_pop hx hb (px_dec hcd (Nat.succ_ne_zero _)) (px_V.cat hv) (kk _ _ _ _ _ px_Ad.rf hG hL hSt)
    · simp only [Option.some.injEq, Prod.mk.injEq] at h
      obtain ⟨rfl, rfl, rfl, rfl, rfl, rfl⟩ := h
      obtain ⟨_, _, rfl, hv, hSt⟩ := hSt
      exact lv_pop hx hb (px_dec hcd (Nat.succ_ne_zero _)) (px_V.cat hv) (kk _ _ _ _ _ px_Ad.rf hG hL hSt)
    · cases h
  | dup_x1 =>
    simp only [px_ins] at h
    split at h
    · simp only [Option.some.injEq, Prod.mk.injEq] at h
      obtain ⟨rfl, rfl, rfl, rfl, rfl, rfl⟩ := h
      obtain ⟨_, _, rfl, hv, _, _, rfl, hu, hSt⟩ := hSt
      exact lv_dup_x1 hx hb (px_dec hcd (Nat.succ_ne_zero _)) (px_V.cat hv) (px_V.cat hu) (kk _ _ _ _ _ px_Ad.rf hG hL ⟨_, _, rfl, hv, _, _, rfl, hu, _, _, rfl, hv, hSt⟩)
    · simp only [Option.some.injEq, Prod.mk.injEq] at h
      obtain ⟨rfl, rfl, rfl, rfl, rfl, rfl⟩ := h
      obtain ⟨_, _, rfl, hv, _, _, rfl, hu, hSt⟩ := hSt
      exact lv_dup_x1 hx hb (px_dec hcd (Nat.succ_ne_zero _)) (px_V.cat hv) (px_V.cat hu) (kk _ _ _ _ _ px_Ad.rf hG hL ⟨_, _, rfl, hv, _, _, rfl, hu, _, _, rfl, hv, hSt⟩)
    · cases h
  | dup_x2 =>
    simp only [px_ins] at h
    split at h
    · simp only [Option.some.injEq, Prod.mk.injEq] at h
      obtain ⟨rfl, rfl, rfl, rfl, rfl, rfl⟩ := h
      obtain ⟨_, _, rfl, hv, _, _, rfl, hu, _, _, rfl, ht, hSt⟩ := hSt
      exact lv_dup_x2 hx hb (px_dec hcd (Nat.succ_ne_zero _)) (px_V.cat hv) (px_V.cat hu) (px_V.cat ht) (kk _ _ _ _ _ px_Ad.rf hG hL ⟨_, _, rfl, hv, _, _, rfl, hu, _, _, rfl, ht, _, _, rfl, hv, hSt⟩)
    · cases h
  | dup2 =>
    simp only [px_ins] at h
    split at h
    · simp only [Option.some.injEq, Prod.mk.injEq] at h
      obtain ⟨rfl, rfl, rfl, rfl, rfl, rfl⟩ := h
      obtain ⟨_, _, rfl, hv, _, _, rfl, hu, hSt⟩ := hSt
      exact lv_dup2_11 hx hb (px_dec hcd (Nat.succ_ne_zero _)) (px_V.cat hv) (px_V.cat hu) (kk _ _ _ _ _ px_Ad.rf hG hL ⟨_, _, rfl, hv, _, _, rfl, hu, _, _, rfl, hv, _, _, rfl, hu, hSt⟩)
    · cases h
  | ifCond cd off =>
    simp only [px_ins] at h
    split at h
    · rename_i x r
      obtain ⟨_, r', rfl, rfl, hSt⟩ := hSt
      have ht := px_tgd hcd rfl
      cases cd
      · refine lv_if_eq hx hb (px_dec hcd (Nat.succ_ne_zero _)) ht (fun q => ?_) (fun q => ?_)
        · simp only [px_if, px_ic, q, decide_true, decide_false, not_true_eq_false, not_false_eq_true, Option.some.injEq, Prod.mk.injEq] at h
          obtain ⟨rfl, rfl, rfl, rfl, rfl, rfl⟩ := h
          exact kk _ _ _ _ _ px_Ad.rf hG hL hSt
        · simp only [px_if, px_ic, q, decide_true, decide_false, not_true_eq_false, not_false_eq_true, Option.some.injEq, Prod.mk.injEq] at h
          obtain ⟨rfl, rfl, rfl, rfl, rfl, rfl⟩ := h
          exact kk _ _ _ _ _ px_Ad.rf hG hL hSt
      · refine lv_if_ne hx hb (px_dec hcd (Nat.succ_ne_zero _)) ht (fun q => ?_) (fun q => ?_)
        · simp only [px_if, px_ic, q, decide_true, decide_false, not_true_eq_false, not_false_eq_true, Option.some.injEq, Prod.mk.injEq] at h
          obtain ⟨rfl, rfl, rfl, rfl, rfl, rfl⟩ := h
          exact kk _ _ _ _ _ px_Ad.rf hG hL hSt
        · simp only [px_if, px_ic, q, decide_true, decide_false, not_true_eq_false, not_false_eq_true, Option.some.injEq, Prod.mk.injEq] at h
          obtain ⟨rfl, rfl, rfl, rfl, rfl, rfl⟩ := h
          exact kk _ _ _ _ _ px_Ad.rf hG hL hSt
      · refine lv_if_lt hx hb (px_dec hcd (Nat.succ_ne_zero _)) ht (fun q => ?_) (fun q => ?_)
        · simp only [px_if, px_ic, q, decide_true, decide_false, not_true_eq_false, not_false_eq_true, Option.some.injEq, Prod.mk.injEq] at h
          obtain ⟨rfl, rfl, rfl, rfl, rfl, rfl⟩ := h
          exact kk _ _ _ _ _ px_Ad.rf hG hL hSt
        · simp only [px_if, px_ic, q, decide_true, decide_false, not_true_eq_false, not_false_eq_true, Option.some.injEq, Prod.mk.injEq] at h
          obtain ⟨rfl, rfl, rfl, rfl, rfl, rfl⟩ := h
          exact kk _ _ _ _ _ px_Ad.rf hG hL hSt
      · refine lv_if_ge hx hb (px_dec hcd (Nat.succ_ne_zero _)) ht (fun q => ?_) (fun q => ?_)
        · simp only [px_if, px_ic, q, decide_true, decide_false, not_true_eq_false, not_false_eq_true, Option.some.injEq, Prod.mk.injEq] at h
          obtain ⟨rfl, rfl, rfl, rfl, rfl, rfl⟩ := h
          exact kk _ _ _ _ _ px_Ad.rf hG hL hSt
        · simp only [px_if, px_ic, q, decide_true, decide_false, not_true_eq_false, not_false_eq_true, Option.some.injEq, Prod.mk.injEq] at h
          obtain ⟨rfl, rfl, rfl, rfl, rfl, rfl⟩ := h
          exact kk _ _ _ _ _ px_Ad.rf hG hL hSt
      · refine lv_if_gt hx hb (px_dec hcd (Nat.succ_ne_zero _)) ht (fun q => ?_) (fun q => ?_)
        · simp only [px_if, px_ic, q, decide_true, decide_false, not_true_eq_false, not_false_eq_true, Option.some.injEq, Prod.mk.injEq] at h
          obtain ⟨rfl, rfl, rfl, rfl, rfl, rfl⟩ := h
          exact kk _ _ _ _ _ px_Ad.rf hG hL hSt
        · simp only [px_if, px_ic, q, decide_true, decide_false, not_true_eq_false, not_false_eq_true, Option.some.injEq, Prod.mk.injEq] at h
          obtain ⟨rfl, rfl, rfl, rfl, rfl, rfl⟩ := h
          exact kk _ _ _ _ _ px_Ad.rf hG hL hSt
      · refine lv_if_le hx hb (px_dec hcd (Nat.succ_ne_zero _)) ht (fun q => ?_) (fun q => ?_)
        · simp only [px_if, px_ic, q, decide_true, decide_false, not_true_eq_false, not_false_eq_true, Option.some.injEq, Prod.mk.injEq] at h
          obtain ⟨rfl, rfl, rfl, rfl, rfl, rfl⟩ := h
          exact kk _ _ _ _ _ px_Ad.rf hG hL hSt
        · simp only [px_if, px_ic, q, decide_true, decide_false, not_true_eq_false, not_false_eq_true, Option.some.injEq, Prod.mk.injEq] at h
          obtain ⟨rfl, rfl, rfl, rfl, rfl, rfl⟩ := h
          exact kk _ _ _ _ _ px_Ad.rf hG hL hSt
    · cases h
  | if_icmp cd off =>
    simp only [px_ins] at h
    split at h
    · rename_i y x r
      obtain ⟨_, _, rfl, rfl, _, r', rfl, rfl, hSt⟩ := hSt
      have ht := px_tgd hcd rfl
      cases cd
      · refine lv_icmp_eq hx hb (px_dec hcd (Nat.succ_ne_zero _)) ht (fun q => ?_) (fun q => ?_)
        · simp only [px_if, px_ic, q, decide_true, decide_false, not_true_eq_false, not_false_eq_true, Option.some.injEq, Prod.mk.injEq] at h
          obtain ⟨rfl, rfl, rfl, rfl, rfl, rfl⟩ := h
          exact kk _ _ _ _ _ px_Ad.rf hG hL hSt
        · simp only [px_if, px_ic, q, decide_true, decide_false, not_true_eq_false, not_false_eq_true, Option.some.injEq, Prod.mk.injEq] at h
          obtain ⟨rfl, rfl, rfl, rfl, rfl, rfl⟩ := h
          exact kk _ _ _ _ _ px_Ad.rf hG hL hSt
      · refine lv_icmp_ne hx hb (px_dec hcd (Nat.succ_ne_zero _)) ht (fun q => ?_) (fun q => ?_)
        · simp only [px_if, px_ic, q, decide_true, decide_false, not_true_eq_false, not_false_eq_true, Option.some.injEq, Prod.mk.injEq] at h
          obtain ⟨rfl, rfl, rfl, rfl, rfl, rfl⟩ := h
          exact kk _ _ _ _ _ px_Ad.rf hG hL hSt
        · simp only [px_if, px_ic, q, decide_true, decide_false, not_true_eq_false, not_false_eq_true, Option.some.injEq, Prod.mk.injEq] at h
          obtain ⟨rfl, rfl, rfl, rfl, rfl, rfl⟩ := h
          exact kk _ _ _ _ _ px_Ad.rf hG hL hSt
      · refine lv_icmp_lt hx hb (px_dec hcd (Nat.succ_ne_zero _)) ht (fun q => ?_) (fun q => ?_)
        · simp only [px_if, px_ic, q, decide_true, decide_false, not_true_eq_false, not_false_eq_true, Option.some.injEq, Prod.mk.injEq] at h
          obtain ⟨rfl, rfl, rfl, rfl, rfl, rfl⟩ := h
          exact kk _ _ _ _ _ px_Ad.rf hG hL hSt
        · simp only [px_if, px_ic, q, decide_true, decide_false, not_true_eq_false, not_false_eq_true, Option.some.injEq, Prod.mk.injEq] at h
          obtain ⟨rfl, rfl, rfl, rfl, rfl, rfl⟩ := h
          exact kk _ _ _ _ _ px_Ad.rf hG hL hSt
      · refine lv_icmp_ge hx hb (px_dec hcd (Nat.succ_ne_zero _)) ht (fun q => ?_) (fun q => ?_)
        · simp only [px_if, px_ic, q, decide_true, decide_false, not_true_eq_false, not_false_eq_true, Option.some.injEq, Prod.mk.injEq] at h
          obtain ⟨rfl, rfl, rfl, rfl, rfl, rfl⟩ := h
          exact kk _ _ _ _ _ px_Ad.rf hG hL hSt
        · simp only [px_if, px_ic, q, decide_true, decide_false, not_true_eq_false, not_false_eq_true, Option.some.injEq, Prod.mk.injEq] at h
          obtain ⟨rfl, rfl, rfl, rfl, rfl, rfl⟩ := h
          exact kk _ _ _ _ _ px_Ad.rf hG hL hSt
      · refine lv_icmp_gt hx hb (px_dec hcd (Nat.succ_ne_zero _)) ht (fun q => ?_) (fun q => ?_)
        · simp only [px_if, px_ic, q, decide_true, decide_false, not_true_eq_false, not_false_eq_true, Option.some.injEq, Prod.mk.injEq] at h
          obtain ⟨rfl, rfl, rfl, rfl, rfl, rfl⟩ := h
          exact kk _ _ _ _ _ px_Ad.rf hG hL hSt
        · simp only [px_if, px_ic, q, decide_true, decide_false, not_true_eq_false, not_false_eq_true, Option.some.injEq, Prod.mk.injEq] at h
          obtain ⟨rfl, rfl, rfl, rfl, rfl, rfl⟩ := h
          exact kk _ _ _ _ _ px_Ad.rf hG hL hSt
      · refine lv_icmp_le hx hb (px_dec hcd (Nat.succ_ne_zero _)) ht (fun q => ?_) (fun q => ?_)
        · simp only [px_if, px_ic, q, decide_true, decide_false, not_true_eq_false, not_false_eq_true, Option.some.injEq, Prod.mk.injEq] at h
          obtain ⟨rfl, rfl, rfl, rfl, rfl, rfl⟩ := h
          exact kk _ _ _ _ _ px_Ad.rf hG hL hSt
        · simp only [px_if, px_ic, q, decide_true, decide_false, not_true_eq_false, not_false_eq_true, Option.some.injEq, Prod.mk.injEq] at h
          obtain ⟨rfl, rfl, rfl, rfl, rfl, rfl⟩ := h
          exact kk _ _ _ _ _ px_Ad.rf hG hL hSt
    · cases h
  | goto off =>
    simp only [px_ins] at h
    simp only [Option.some.injEq, Prod.mk.injEq] at h
    obtain ⟨rfl, rfl, rfl, rfl, rfl, rfl⟩ := h
    exact lv_goto hx hb (px_dec hcd (Nat.succ_ne_zero _)) (px_tgd hcd rfl) (kk _ _ _ _ _ px_Ad.rf hG hL hSt)
  | arraylength =>
    simp only [px_ins] at h
    split at h
    · rename_i a r
      split at h
      · rename_i n f hw
        simp only [Option.some.injEq, Prod.mk.injEq] at h
        obtain ⟨rfl, rfl, rfl, rfl, rfl, rfl⟩ := h
        obtain ⟨_, _, rfl, ⟨ra, ea, h1, rfl⟩, hSt⟩ := hSt
        obtain ⟨a2, e2, h2, h3⟩ := hG.2.1 _ _ hw
        cases h3
        rw [h1] at h2
        cases h2
        exact va_alen hx hb hK hG.2.2.1 _ 0 h1 rfl rfl (px_dec hcd (Nat.succ_ne_zero _)) (kk _ _ _ _ _ px_Ad.rf hG hL ⟨_, _, rfl, rfl, hSt⟩)
      · cases h
    · rename_i r
      simp only [Option.some.injEq, Prod.mk.injEq] at h
      obtain ⟨rfl, rfl, rfl, rfl, rfl, rfl⟩ := h
      obtain ⟨_, _, rfl, rfl, hSt⟩ := hSt
      exact va_slen hx hb hX hbl hbA hG.2.2.2.2 (px_dec hcd (Nat.succ_ne_zero _)) (kk _ _ _ _ _ px_Ad.rf hG hL ⟨_, _, rfl, rfl, hSt⟩)
    · cases h
  | iaload =>
    simp only [px_ins] at h
    split at h
    · rename_i i a r
      split at h
      · rename_i n f hw
        split at h
        · rename_i hi
          simp only [Option.some.injEq, Prod.mk.injEq] at h
          obtain ⟨rfl, rfl, rfl, rfl, rfl, rfl⟩ := h
          obtain ⟨_, _, rfl, rfl, _, _, rfl, ⟨ra, ea, h1, rfl⟩, hSt⟩ := hSt
          obtain ⟨a2, e2, h2, h3⟩ := hG.2.1 _ _ hw
          cases h3
          rw [h1] at h2
          cases h2
          exact va_iald hx hb hK hG.2.2.1 _ 0 h1 rfl (px_vin hi) (px_dec hcd (Nat.succ_ne_zero _)) (kk _ _ _ _ _ px_Ad.rf hG hL ⟨_, _, rfl, rfl, hSt⟩)
        · cases h
      · cases h
    · rename_i i r
      split at h
      · rename_i hi
        simp only [Option.some.injEq, Prod.mk.injEq] at h
        obtain ⟨rfl, rfl, rfl, rfl, rfl, rfl⟩ := h
        obtain ⟨_, _, rfl, rfl, _, _, rfl, rfl, hSt⟩ := hSt
        exact va_sld hx hb hX hbl hbA hG.2.2.2.2 (px_vin hi) (px_dec hcd (Nat.succ_ne_zero _)) (kk _ _ _ _ _ px_Ad.rf hG hL ⟨_, _, rfl, rfl, hSt⟩)
      · cases h
    · cases h
  | iastore =>
    simp only [px_ins] at h
    split at h
    · rename_i x i a r
      split at h
      · rename_i n f hw
        split at h
        · rename_i hi
          simp only [Option.some.injEq, Prod.mk.injEq] at h
          obtain ⟨rfl, rfl, rfl, rfl, rfl, rfl⟩ := h
          obtain ⟨_, _, rfl, rfl, _, _, rfl, rfl, _, _, rfl, ⟨ra, ea, h1, rfl⟩, hSt⟩ := hSt
          obtain ⟨a2, e2, h2, h3⟩ := hG.2.1 _ _ hw
          cases h3
          rw [h1] at h2
          cases h2
          refine va_iast hx hb hK hG.2.2.1 hG.2.2.2.1 hG.2.2.2.2 _ 0 h1 rfl (px_vin hi) (px_dec hcd (Nat.succ_ne_zero _)) (fun H1 locs1 hP hD hS => ?_)
          obtain ⟨e1, e2⟩ := px_sr (b := b) (cs := cs) (e1 := .inl (0, n, upd f i.toNatClampNeg x)) (e1' := .inl (cs.1, n, .inl (upd f i.toNatClampNeg x))) hG.1 hG.2.1 h1 rfl
          exact kk _ _ _ _ _ (px_Ad.set h1) ⟨e1, e2, hP, hD, hS⟩ (hL.mono (px_Ad.set h1)) (hSt.mono (px_Ad.set h1))
        · cases h
      · cases h
    · cases h
  | getfield j =>
    simp only [px_ins] at h
    split at h
    · rename_i a r
      split at h
      · rename_i ci f hfl
        split at h
        · rename_i cj fs hw
          split at h
          · rename_i hci
            split at h
            · rename_i v hf
              simp only [Option.some.injEq, Prod.mk.injEq] at h
              obtain ⟨rfl, rfl, rfl, rfl, rfl, rfl⟩ := h
              obtain ⟨_, _, rfl, ⟨ra, ea, h1, rfl⟩, hSt⟩ := hSt
              have hci' : ci = cj := Nat.eq_of_beq_eq_true hci
              subst hci'
              obtain ⟨a2, e2, h2, fs', rfl, h4, h5⟩ := hG.2.1 _ _ hw
              rw [h1] at h2
              cases h2
              obtain ⟨C, T, N, g1, g2, g3, g4, g5, g6, g7⟩ := px_fld hfl
              obtain ⟨v', hv', hvv⟩ := h5 f v hf
              exact va_get (D := D) hx hb hts g3 hown hK hG.2.2.1 _ h1 g1 f g2 (hts _ g4) (fun _ h9 => h9) hv' (px_dec hcd (Nat.succ_ne_zero _)) (kk _ _ _ _ _ px_Ad.rf hG hL ⟨_, _, rfl, hvv, hSt⟩)
            · cases h
          · cases h
        · cases h
      · cases h
    · cases h
  | putfield j =>
    simp only [px_ins] at h
    split at h
    · rename_i v a r
      split at h
      · rename_i ci f hfl
        split at h
        · rename_i cj fs hw
          split at h
          · rename_i hci
            simp only [Option.some.injEq, Prod.mk.injEq] at h
            obtain ⟨rfl, rfl, rfl, rfl, rfl, rfl⟩ := h
            obtain ⟨v', _, rfl, hv, _, _, rfl, ⟨ra, ea, h1, rfl⟩, hSt⟩ := hSt
            simp only [Bool.and_eq_true] at hci
            obtain ⟨⟨⟨hci, hlt⟩, hft⟩, hpf⟩ := hci
            have hci' : ci = cj := Nat.eq_of_beq_eq_true hci
            subst hci'
            obtain ⟨a2, e2, h2, fs', rfl, h4, h5⟩ := hG.2.1 _ _ hw
            rw [h1] at h2
            cases h2
            obtain ⟨C, T, N, g1, g2, g3, g4, g5, g6, g7⟩ := px_fld hfl
            obtain ⟨hn1, hn2⟩ := px_fitd hft hv
            have hlt' : f < fs'.length := by rw [h4]; exact Nat.le_of_ble_eq_true hlt
            have hE1 : px_Er b cs rw (.inr (.inr (ci, fs.set f v))) (.inr (ci, fs'.set f v')) := by
              refine ⟨fs'.set f v', rfl, by simp [h4], fun i u hu => ?_⟩
              by_cases hif : f = i
              · subst hif
                rw [List.getElem?_set_self (by rw [← h4]; exact hlt')] at hu
                cases hu
                exact ⟨v', by rw [List.getElem?_set_self hlt'], hv⟩
              · rw [List.getElem?_set_ne hif] at hu
                obtain ⟨u', q1, q2⟩ := h5 i u hu
                exact ⟨u', by rw [List.getElem?_set_ne hif]; exact q1, q2⟩
            obtain ⟨e1, e2⟩ := px_sr (b := b) (cs := cs) hG.1 hG.2.1 h1 hE1
            by_cases hfin : (T f).2.2.2 = true
            · obtain ⟨w1, w2⟩ := g7 hfin hpf
              exact va_putF (D := D) (ty := px_ty ci f) hx hb hts g3 (px_ty ci) g5 g6 hown hK hG.2.2.1 hG.2.2.2.1 hG.2.2.2.2 _ h1 g1 f g2 (hts _ g4) (fun _ h9 => h9) hfin (hin w1) w2 (g5 f g2) hn1 hn2 hlt' (px_dec hcd (Nat.succ_ne_zero _))
                (fun H1 locs1 hP hD hS => kk _ _ _ _ _ (px_Ad.set h1) ⟨e1, e2, hP, hD, hS⟩ (hL.mono (px_Ad.set h1)) (hSt.mono (px_Ad.set h1)))
            · exact va_put (D := D) (ty := px_ty ci f) hx hb hts g3 (px_ty ci) g5 g6 hown hK hG.2.2.1 hG.2.2.2.1 hG.2.2.2.2 _ h1 g1 f g2 (hts _ g4) (fun _ h9 => h9) (by simpa using hfin) (g5 f g2) hn1 hn2 hlt' (px_dec hcd (Nat.succ_ne_zero _))
                (fun H1 locs1 hP hD hS => kk _ _ _ _ _ (px_Ad.set h1) ⟨e1, e2, hP, hD, hS⟩ (hL.mono (px_Ad.set h1)) (hSt.mono (px_Ad.set h1)))
          · cases h
        · cases h
      · cases h
    · cases h
  | newarray t =>
    cases t with
    | int =>
      simp only [px_ins] at h
      split at h
      · rename_i n r
        split at h
        · rename_i hi
          simp only [Option.some.injEq, Prod.mk.injEq] at h
          obtain ⟨rfl, rfl, rfl, rfl, rfl, rfl⟩ := h
          obtain ⟨_, _, rfl, rfl, hSt⟩ := hSt
          have hin := px_vin hi
          have hlt : n.toNatClampNeg < 60000000 := Nat.not_le.mp fun q => hin (Or.inr q)
          refine va_newa (ty := .int) (a0 := (n.toNatClampNeg, .inl fun _ => 0)) hx hb (hts _ px_arr0) rfl hK hG.2.2.1 hG.2.2.2.1 hG.2.2.2.2 hA (fun cA => rfl) (fun q => hin (Or.inl q)) rfl (by show _ * 4 ≤ _; omega) hk hz (px_dec hcd (Nat.succ_ne_zero _)) (fun q cA H1 hK1 hP hD hS => ?_)
          have hc : cA = cs.1 := Option.some.inj ((show s.vm.findClass ("[" ++ FieldType.int.toString) = some cA from (hK1.2 3 (cA, .int) rfl).2).symm.trans (show s.vm.findClass ("[" ++ FieldType.int.toString) = some cs.1 from (hK.2 0 (cs.1, .int) rfl).2))
          subst hc
          obtain ⟨e1, e2⟩ := px_ar1 (b := b) (cs := cs) (q := q) (e1 := .inl (0, n.toNatClampNeg, fun _ => 0)) (e1' := .inl (cs.1, n.toNatClampNeg, .inl fun _ => 0)) hG.1 hG.2.1 rfl
          exact kk _ _ _ _ _ px_Ad.app ⟨e1, e2, hP, hD, hS⟩ (hL.mono px_Ad.app) ⟨_, _, rfl, ⟨q, _, by rw [← hG.1]; exact List.getElem?_concat_length, rfl⟩, hSt.mono px_Ad.app⟩
        · cases h
      · cases h
    | boolean =>
      simp only [px_ins] at h
      split at h
      · rename_i n r
        split at h
        · rename_i hi
          simp only [Option.some.injEq, Prod.mk.injEq] at h
          obtain ⟨rfl, rfl, rfl, rfl, rfl, rfl⟩ := h
          obtain ⟨_, _, rfl, rfl, hSt⟩ := hSt
          have hin := px_vin hi
          have hlt : n.toNatClampNeg < 60000000 := Nat.not_le.mp fun q => hin (Or.inr q)
          refine va_newa (ty := .boolean) (a0 := (n.toNatClampNeg, .inl fun _ => 0)) hx hb (hts _ px_arr1) rfl hK hG.2.2.1 hG.2.2.2.1 hG.2.2.2.2 hA (fun cA => rfl) (fun q => hin (Or.inl q)) rfl (by show _ * 1 ≤ _; omega) hk hz (px_dec hcd (Nat.succ_ne_zero _)) (fun q cA H1 hK1 hP hD hS => ?_)
          have hc : cA = cs.2.1 := Option.some.inj ((show s.vm.findClass ("[" ++ FieldType.boolean.toString) = some cA from (hK1.2 3 (cA, .boolean) rfl).2).symm.trans (show s.vm.findClass ("[" ++ FieldType.boolean.toString) = some cs.2.1 from (hK.2 1 (cs.2.1, .boolean) rfl).2))
          subst hc
          obtain ⟨e1, e2⟩ := px_ar1 (b := b) (cs := cs) (q := q) (e1 := .inl (1, n.toNatClampNeg, fun _ => 0)) (e1' := .inl (cs.2.1, n.toNatClampNeg, .inl fun _ => 0)) hG.1 hG.2.1 rfl
          exact kk _ _ _ _ _ px_Ad.app ⟨e1, e2, hP, hD, hS⟩ (hL.mono px_Ad.app) ⟨_, _, rfl, ⟨q, _, by rw [← hG.1]; exact List.getElem?_concat_length, rfl⟩, hSt.mono px_Ad.app⟩
        · cases h
      · cases h
    | long =>
      simp only [px_ins] at h
      split at h
      · rename_i n r
        split at h
        · rename_i hi
          simp only [Option.some.injEq, Prod.mk.injEq] at h
          obtain ⟨rfl, rfl, rfl, rfl, rfl, rfl⟩ := h
          obtain ⟨_, _, rfl, rfl, hSt⟩ := hSt
          have hin := px_vin hi
          have hlt : n.toNatClampNeg < 60000000 := Nat.not_le.mp fun q => hin (Or.inr q)
          refine va_newa (ty := .long) (a0 := (n.toNatClampNeg, .inr (.inl fun _ => 0))) hx hb (hts _ px_arr2) rfl hK hG.2.2.1 hG.2.2.2.1 hG.2.2.2.2 hA (fun cA => rfl) (fun q => hin (Or.inl q)) rfl (by show _ * 8 ≤ _; omega) hk hz (px_dec hcd (Nat.succ_ne_zero _)) (fun q cA H1 hK1 hP hD hS => ?_)
          have hc : cA = cs.2.2 := Option.some.inj ((show s.vm.findClass ("[" ++ FieldType.long.toString) = some cA from (hK1.2 3 (cA, .long) rfl).2).symm.trans (show s.vm.findClass ("[" ++ FieldType.long.toString) = some cs.2.2 from (hK.2 2 (cs.2.2, .long) rfl).2))
          subst hc
          obtain ⟨e1, e2⟩ := px_ar1 (b := b) (cs := cs) (q := q) (e1 := .inr (.inl (n.toNatClampNeg, fun _ => 0))) (e1' := .inl (cs.2.2, n.toNatClampNeg, .inr (.inl fun _ => 0))) hG.1 hG.2.1 rfl
          exact kk _ _ _ _ _ px_Ad.app ⟨e1, e2, hP, hD, hS⟩ (hL.mono px_Ad.app) ⟨_, _, rfl, ⟨q, _, by rw [← hG.1]; exact List.getElem?_concat_length, rfl⟩, hSt.mono px_Ad.app⟩
        · cases h
      · cases h
    | _ => simp only [px_ins] at h; cases h
  | new j =>
    simp only [px_ins] at h
    split at h
    · rename_i ci hnw
      simp only [Option.some.injEq, Prod.mk.injEq] at h
      obtain ⟨rfl, rfl, rfl, rfl, rfl, rfl⟩ := h
      obtain ⟨C, T, N, g1, g2, g3, g4, g5, g6, g7, g8, g9⟩ := px_nwd hnw
      refine va_new (D := D) (ci := ci) (fs := px_df ci) hx hb hts g2 (px_ty ci) g6 hown (hts _ g3) (hts _ g4) (hts _ g5) hK hG.2.2.1 hG.2.2.2.1 hG.2.2.2.2 hA g1 g7 hk (by rw [← g8]; exact hz) (px_dec hcd (Nat.succ_ne_zero _)) (fun q H1 hP hD hS => ?_)
      obtain ⟨e1, e2⟩ := px_ar1 (b := b) (cs := cs) (q := q) (e1 := .inr (.inr (ci, px_df ci))) (e1' := .inr (ci, px_df ci)) hG.1 hG.2.1 ⟨_, rfl, rfl, fun i v hv => ⟨v, hv, by rcases g9 v (List.mem_of_getElem? hv) with rfl | rfl <;> rfl⟩⟩
      rw [← g8]
      exact kk _ _ _ _ _ px_Ad.app ⟨e1, e2, hP, hD, hS⟩ (hL.mono px_Ad.app) ⟨_, _, rfl, ⟨q, _, by rw [← hG.1]; exact List.getElem?_concat_length, rfl⟩, hSt.mono px_Ad.app⟩
    · cases h
  | invokespecial j =>
    simp only [px_ins] at h
    split at h
    · rename_i hoi
      split at h
      · rename_i a r
        split at h
        · rename_i hr8
          simp only [Option.some.injEq, Prod.mk.injEq] at h
          obtain ⟨rfl, rfl, rfl, rfl, rfl, rfl⟩ := h
          obtain ⟨_, r', rfl, ⟨ra, ea, h1, rfl⟩, hSt⟩ := hSt
          obtain ⟨g1, g2, g3⟩ := px_oid hoi
          have h8 := Nat.le_of_ble_eq_true hr8
          refine W.objInit hx hb hown (hts _ g1) (hts _ g2) (hts _ g3) rfl hlsz rfl (px_dec hcd (Nat.succ_ne_zero _)) hfr (by show 2 * 0 + _ + 12 ≤ _; rw [hSt.sum]; omega) ?_
          exact kk _ _ _ _ _ px_Ad.rf hG hL hSt
        · cases h
      · cases h
    · cases h
  | invokestatic j =>
    simp only [px_ins] at h
    split at h
    · rename_i hik
      split at h
      · rename_i y x r
        split at h
        · rename_i hr8
          simp only [Option.some.injEq, Prod.mk.injEq] at h
          obtain ⟨rfl, rfl, rfl, rfl, rfl, rfl⟩ := h
          obtain ⟨_, _, rfl, rfl, _, r', rfl, rfl, hSt⟩ := hSt
          obtain ⟨g1, g2, g3, g4⟩ := px_ikd0 hik
          have h8 := Nat.le_of_ble_eq_true hr8
          exact va_mmax hx hb hlsz.symm hown (hts _ g1) (hts _ g2) (hts _ g3) (hts _ g4) hfr (by rw [hSt.sum]; omega) hk hz (px_dec hcd (Nat.succ_ne_zero _)) (kk _ _ _ _ _ px_Ad.rf hG hL ⟨_, _, rfl, rfl, hSt⟩)
        · cases h
      · cases h
    · rename_i hik
      split at h
      · rename_i y x r
        split at h
        · rename_i hr8
          simp only [Option.some.injEq, Prod.mk.injEq] at h
          obtain ⟨rfl, rfl, rfl, rfl, rfl, rfl⟩ := h
          obtain ⟨_, _, rfl, rfl, _, r', rfl, rfl, hSt⟩ := hSt
          obtain ⟨g1, g2, g3, g4⟩ := px_ikd1 hik
          have h8 := Nat.le_of_ble_eq_true hr8
          exact va_mmin hx hb hlsz.symm hown (hts _ g1) (hts _ g2) (hts _ g3) (hts _ g4) hfr (by rw [hSt.sum]; omega) hk hz (px_dec hcd (Nat.succ_ne_zero _)) (kk _ _ _ _ _ px_Ad.rf hG hL ⟨_, _, rfl, rfl, hSt⟩)
        · cases h
      · cases h
    · rename_i hik
      split at h
      · rename_i n dp a1 sp a0 r
        split at h
        · rename_i n0 f n1 g hw0 hw1
          split at h
          · rename_i hc
            simp only [Option.some.injEq, Prod.mk.injEq] at h
            obtain ⟨rfl, rfl, rfl, rfl, rfl, rfl⟩ := h
            simp only [Bool.and_eq_true] at hc
            obtain ⟨⟨⟨⟨⟨hr8, hsp⟩, hdp⟩, hnn⟩, hb0⟩, hb1⟩ := hc
            obtain ⟨_, _, rfl, rfl, _, _, rfl, rfl, _, _, rfl, ⟨ra1, ea1, h1, rfl⟩, _, _, rfl, rfl, _, r', rfl, ⟨ra0, ea0, h0, rfl⟩, hSt⟩ := hSt
            obtain ⟨g1, g2, g3, g4⟩ := px_ikd2 hik
            have h8 := Nat.le_of_ble_eq_true hr8
            obtain ⟨a2, e2, h2, h3⟩ := hG.2.1 _ _ hw0
            cases h3
            rw [h0] at h2
            cases h2
            obtain ⟨a2, e2, h2, h3⟩ := hG.2.1 _ _ hw1
            cases h3
            rw [h1] at h2
            cases h2
            refine va_copyi hx hb hlsz.symm hown (hts _ g1) (hts _ g2) (hts _ g3) (hts _ g4) hK hG.2.2.1 hG.2.2.2.1 hG.2.2.2.2 a0 a1 0 0 h0 h1 rfl rfl rfl (by simpa using hsp) (by simpa using hdp) (by simpa using hnn) (Nat.le_of_ble_eq_true hb0) (Nat.le_of_ble_eq_true hb1) (fun _ _ => rfl) hfr (by rw [hSt.sum]; exact Nat.le_trans (Nat.add_le_add_right h8 _) (Nat.le_trans px_cpr hlo)) (px_dec hcd (Nat.succ_ne_zero _)) (fun H1 locs1 hP hD hS => ?_)
            obtain ⟨e1, e2⟩ := px_sr (b := b) (cs := cs) (e1 := .inl (0, n1, va_cpy f g sp.toNatClampNeg dp.toNatClampNeg n.toNatClampNeg)) (e1' := .inl (cs.1, n1, .inl (va_cpy f g sp.toNatClampNeg dp.toNatClampNeg n.toNatClampNeg))) hG.1 hG.2.1 h1 rfl
            exact kk _ _ _ _ _ (px_Ad.set h1) ⟨e1, e2, hP, hD, hS⟩ (hL.mono (px_Ad.set h1)) (hSt.mono (px_Ad.set h1))
          · cases h
        · cases h
      · cases h
    · cases h
  | tableswitch d lo hi offs =>
    simp only [px_ins] at h
    split at h
    · rename_i x r
      simp only [Option.some.injEq, Prod.mk.injEq] at h
      obtain ⟨rfl, rfl, rfl, rfl, rfl, rfl⟩ := h
      obtain ⟨_, r', rfl, rfl, hSt⟩ := hSt
      obtain ⟨n, hd, -⟩ := px_swd hcd
      by_cases h1 : x.toInt < lo ∨ hi < x.toInt
      · exact lv_tableOut hx hb hd h1 (px_tso hcd h1) (kk _ _ _ _ _ px_Ad.rf hG hL hSt)
      · obtain ⟨off, ho, ht⟩ := px_tsi hcd (fun q => h1 (Or.inl q)) (fun q => h1 (Or.inr q))
        exact lv_tableIn hx hb hd (fun q => h1 (Or.inl q)) (fun q => h1 (Or.inr q)) ho ht (kk _ _ _ _ _ px_Ad.rf hG hL hSt)
    · cases h
  | lookupswitch d ps =>
    simp only [px_ins] at h
    split at h
    · rename_i x r
      simp only [Option.some.injEq, Prod.mk.injEq] at h
      obtain ⟨rfl, rfl, rfl, rfl, rfl, rfl⟩ := h
      obtain ⟨_, r', rfl, rfl, hSt⟩ := hSt
      obtain ⟨n, hd, -⟩ := px_swd hcd
      obtain ⟨h1, h2⟩ := px_lsd (x := x) hcd
      exact lv_lookup hx hb hd h1 rfl h2 (kk _ _ _ _ _ px_Ad.rf hG hL hSt)
    · cases h
  | lconst n =>
    simp only [px_ins] at h
    simp only [Option.some.injEq, Prod.mk.injEq] at h
    obtain ⟨rfl, rfl, rfl, rfl, rfl, rfl⟩ := h
    exact lv_lconst hx hb (px_dec hcd (Nat.succ_ne_zero _)) rfl (kk _ _ _ _ _ px_Ad.rf hG hL ⟨_, _, rfl, rfl, hSt⟩)
  | ldc_w i =>
    simp only [px_ins] at h
    split at h
    · rename_i v hv
      simp only [Option.some.injEq, Prod.mk.injEq] at h
      obtain ⟨rfl, rfl, rfl, rfl, rfl, rfl⟩ := h
      exact lv_ldcw hx hb hown (hts _ (px_lcd hv)) (px_dec hcd (Nat.succ_ne_zero _)) (kk _ _ _ _ _ px_Ad.rf hG hL ⟨_, _, rfl, rfl, hSt⟩)
    · cases h
  | i2l =>
    simp only [px_ins] at h
    split at h
    · rename_i x r
      simp only [Option.some.injEq, Prod.mk.injEq] at h
      obtain ⟨rfl, rfl, rfl, rfl, rfl, rfl⟩ := h
      obtain ⟨_, _, rfl, rfl, hSt⟩ := hSt
      exact lv_i2l hx hb (px_dec hcd (Nat.succ_ne_zero _)) rfl (kk _ _ _ _ _ px_Ad.rf hG hL ⟨_, _, rfl, rfl, hSt⟩)
    · cases h
  | lcmp =>
    simp only [px_ins] at h
    split at h
    · rename_i y x r
      simp only [Option.some.injEq, Prod.mk.injEq] at h
      obtain ⟨rfl, rfl, rfl, rfl, rfl, rfl⟩ := h
      obtain ⟨_, _, rfl, rfl, _, r', rfl, rfl, hSt⟩ := hSt
      exact W.lcmp hx hb (px_dec hcd (Nat.succ_ne_zero _)) (kk _ _ _ _ _ px_Ad.rf hG hL ⟨_, _, rfl, rfl, hSt⟩)
    · cases h
  | laload =>
    simp only [px_ins] at h
    split at h
    · rename_i i a r
      split at h
      · rename_i n f hw
        split at h
        · rename_i hi
          simp only [Option.some.injEq, Prod.mk.injEq] at h
          obtain ⟨rfl, rfl, rfl, rfl, rfl, rfl⟩ := h
          obtain ⟨_, _, rfl, rfl, _, _, rfl, ⟨ra, ea, h1, rfl⟩, hSt⟩ := hSt
          obtain ⟨a2, e2, h2, h3⟩ := hG.2.1 _ _ hw
          cases h3
          rw [h1] at h2
          cases h2
          exact va_lald hx hb hK hG.2.2.1 _ 2 h1 rfl (px_vin hi) (px_dec hcd (Nat.succ_ne_zero _)) (kk _ _ _ _ _ px_Ad.rf hG hL ⟨_, _, rfl, rfl, hSt⟩)
        · cases h
      · cases h
    · cases h
  | baload =>
    simp only [px_ins] at h
    split at h
    · rename_i i a r
      split at h
      · rename_i n f hw
        split at h
        · rename_i hi
          simp only [Option.some.injEq, Prod.mk.injEq] at h
          obtain ⟨rfl, rfl, rfl, rfl, rfl, rfl⟩ := h
          obtain ⟨_, _, rfl, rfl, _, _, rfl, ⟨ra, ea, h1, rfl⟩, hSt⟩ := hSt
          obtain ⟨a2, e2, h2, h3⟩ := hG.2.1 _ _ hw
          cases h3
          rw [h1] at h2
          cases h2
          exact va_zald hx hb hK hG.2.2.1 _ 1 h1 rfl (px_vin hi) (px_dec hcd (Nat.succ_ne_zero _)) (kk _ _ _ _ _ px_Ad.rf hG hL ⟨_, _, rfl, rfl, hSt⟩)
        · cases h
      · cases h
    · cases h
  | lastore =>
    simp only [px_ins] at h
    split at h
    · rename_i x i a r
      split at h
      · rename_i n f hw
        split at h
        · rename_i hi
          simp only [Option.some.injEq, Prod.mk.injEq] at h
          obtain ⟨rfl, rfl, rfl, rfl, rfl, rfl⟩ := h
          obtain ⟨_, _, rfl, rfl, _, _, rfl, rfl, _, _, rfl, ⟨ra, ea, h1, rfl⟩, hSt⟩ := hSt
          obtain ⟨a2, e2, h2, h3⟩ := hG.2.1 _ _ hw
          cases h3
          rw [h1] at h2
          cases h2
          refine va_last hx hb hK hG.2.2.1 hG.2.2.2.1 hG.2.2.2.2 _ 2 h1 rfl (px_vin hi) (px_dec hcd (Nat.succ_ne_zero _)) (fun H1 locs1 hP hD hS => ?_)
          obtain ⟨e1, e2⟩ := px_sr (b := b) (cs := cs) (e1 := .inr (.inl (n, vp_updL f i.toNatClampNeg x))) (e1' := .inl (cs.2.2, n, .inr (.inl (vp_updL f i.toNatClampNeg x)))) hG.1 hG.2.1 h1 rfl
          exact kk _ _ _ _ _ (px_Ad.set h1) ⟨e1, e2, hP, hD, hS⟩ (hL.mono (px_Ad.set h1)) (hSt.mono (px_Ad.set h1))
        · cases h
      · cases h
    · cases h
  | bastore =>
    simp only [px_ins] at h
    split at h
    · rename_i x i a r
      split at h
      · rename_i n f hw
        split at h
        · rename_i hi
          simp only [Option.some.injEq, Prod.mk.injEq] at h
          obtain ⟨rfl, rfl, rfl, rfl, rfl, rfl⟩ := h
          obtain ⟨_, _, rfl, rfl, _, _, rfl, rfl, _, _, rfl, ⟨ra, ea, h1, rfl⟩, hSt⟩ := hSt
          obtain ⟨a2, e2, h2, h3⟩ := hG.2.1 _ _ hw
          cases h3
          rw [h1] at h2
          cases h2
          refine va_zast hx hb hK hG.2.2.1 hG.2.2.2.1 hG.2.2.2.2 _ 1 h1 rfl (px_vin hi) (px_dec hcd (Nat.succ_ne_zero _)) (fun H1 locs1 hP hD hS => ?_)
          obtain ⟨e1, e2⟩ := px_sr (b := b) (cs := cs) (e1 := .inl (1, n, upd f i.toNatClampNeg (x &&& 1))) (e1' := .inl (cs.2.1, n, .inl (upd f i.toNatClampNeg (x &&& 1)))) hG.1 hG.2.1 h1 rfl
          exact kk _ _ _ _ _ (px_Ad.set h1) ⟨e1, e2, hP, hD, hS⟩ (hL.mono (px_Ad.set h1)) (hSt.mono (px_Ad.set h1))
        · cases h
      · cases h
    · cases h
  | _ => simp only [px_ins] at h; cases h
end PXW
