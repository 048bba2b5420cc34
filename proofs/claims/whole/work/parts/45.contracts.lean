/-! THE CONTRACTS: every call that the pure machine says ends, ends so. -/
theorem px_slv {b : Nat} {rw : va_W} : ∀ {a a' : List Value}, px_S b rw a a' → px_w a = a.length → lg_sl a' = a'.map Slot.val ∧ ∀ v ∈ a, v.category = 1
  | [], _, h, _ => by rw [show _ = _ from h]; exact ⟨rfl, fun v hv => nomatch hv⟩
  | v :: r, _, ⟨v', r', e, hv, hr⟩, hw => by
    have h1 : 1 ≤ v.category := by cases v <;> simp [Value.category]
    have h2 : ∀ l : List Value, l.length ≤ px_w l := by
      intro l
      induction l with
      | nil => exact Nat.le_refl _
      | cons u t ih =>
        have h3 : 1 ≤ u.category := by cases u <;> simp [Value.category]
        show t.length + 1 ≤ u.category + px_w t
        omega
    have h3 : v.category + px_w r = r.length + 1 := hw
    have h4 := h2 r
    obtain ⟨e1, e2⟩ := px_slv hr (by omega)
    have h5 : v.category = 1 := by omega
    have h6 : v'.category = 1 := by rw [hv.cat]; exact h5
    subst e
    refine ⟨?_, fun u hu => ?_⟩
    · rw [List.map_cons, ← e1]
      simp [lg_sl, h6]
    · rcases List.mem_cons.mp hu with rfl | hu
      · exact h5
      · exact e2 u hu
theorem px_S.at {b : Nat} {rw : va_W} : ∀ {a a' : List Value}, px_S b rw a a' → ∀ (i : Nat) (v : Value), a[i]? = some v → ∃ v', a'[i]? = some v' ∧ px_V b rw v v'
  | [], _, _, i, v, h => by simp at h
  | u :: r, _, ⟨v', r', e, hv, hr⟩, 0, v, h => by
    subst e
    cases h
    exact ⟨v', rfl, hv⟩
  | u :: r, _, ⟨v', r', e, hv, hr⟩, i + 1, v, h => by
    subst e
    exact px_S.at hr i v h
theorem px_entry {b : Nat} {rw : va_W} {a a' : List Value} {n : Nat} (h : px_S b rw a a') (hw : px_w a = a.length) (hn : a.length ≤ n) : px_L b rw (a ++ List.replicate (n - a.length) (.retAddr 0)) ((lg_sl a' ++ List.replicate (n - (lg_sl a').length) Slot.unset).toArray) := by
  obtain ⟨e1, e2⟩ := px_slv h hw
  have hl : a'.length = a.length := h.len
  have hlen : (lg_sl a').length = a.length := by rw [e1, List.length_map, hl]
  have h1 := lv_entry a' (n := n) (by rw [hlen]; exact hn)
  refine ⟨by rw [h1.1]; simp; omega, h1.2.1, fun i v hi hv => ?_⟩
  by_cases hlt : i < a.length
  · rw [List.getElem?_append_left hlt] at hi
    obtain ⟨v', h2, h3⟩ := h.at i v hi
    refine ⟨v', ?_, h3, ?_⟩
    · rw [List.getElem?_toArray, List.getElem?_append_left (by rw [hlen]; exact hlt), e1, List.getElem?_map, h2]
      rfl
    · rw [h3.cat]
      exact e2 v (List.mem_of_getElem? hi)
  · rw [List.getElem?_append_right (by omega)] at hi
    have h4 := List.eq_of_mem_replicate (List.mem_of_getElem? hi)
    exact absurd h4 hv
theorem px_hdn {N pc : Nat} (h : px_kd N ≠ 3) (hN : N < 173) : px_hd N pc = none := by
  have h1 : ∀ N, N < 173 → px_kd N ≠ 3 → px_hh N = [] := by decide +kernel
  have h2 := h1 N hN h
  cases hq : px_hd N pc with
  | none => rfl
  | some t =>
    exfalso
    have h3 : ∀ N, N < 173 → px_kd N ≠ 3 → N < 157 ∨ 170 < N := by decide +kernel
    have h4 := h3 N hN h
    unfold px_hd at hq
    have h5 : ∀ k, 157 ≤ k → k ≤ 170 → Nat.beq N k = false := fun k k1 k2 => by
      cases hb : Nat.beq N k with
      | false => rfl
      | true =>
        have := Nat.eq_of_beq_eq_true hb
        omega
    simp [h5, cond_eq_ite] at hq
section PXV
variable {l : Launch} {s0 : State} {D : va_G} {cs : px_Cs} {b : Nat} {X : Nat × (Nat → Int32)}
/-- what stands fixed while the method N runs, from its contract's start -/
theorem px_ctx (S0 : px_S0 b X s0) {N d mc ms : Nat} {ws : List Cond} (hMF : px_MF N) {rw : va_W} {p : Program} {e : Env} {s s₁ : State} {m : MethodId} {a' : List Value} {below : List Frame} {meth : Method} {c : Code} (hws : ∀ w ∈ px_T, w ∈ ws)
    (B : BodyLoose p l (px_y N) (headSpec ws (px_rm d mc ms)) (px_b N) (px_ml N) (px_rt N) e s m a'.toArray below meth c s₁) (hml : c.maxLocals = px_ml N) (hK : va_K D px_cls (px_tys cs) s) (hD : va_D (fun q => s0.heap.size ≤ q) rw) (hNow : px_Now s0 s) :
    px_K D cs b (va_A rw s.heap.size) s.heap X N p s m a'.toArray meth c ∧ ∀ q, va_A rw s.heap.size q → s0.heap.size ≤ q := by
  have hA0 : ∀ q, va_A rw s.heap.size q → s0.heap.size ≤ q := by
    intro q hq
    rcases hq with ⟨k, e, hq⟩ | hq
    · exact hD.2 k (q, e) hq
    · exact Nat.le_trans hNow.2.1 hq
  refine ⟨⟨B.exec, B.bytes, hml, ?_, fun w hw => atoms_spec (ws := ws) B.pre w (hws w hw), hK, fun q h => Or.inr h, ?_, Nat.lt_of_lt_of_le S0.2.1 hNow.2.1, fun q => absurd (hA0 b q) (Nat.not_le.mpr S0.2.1), fun hi => ?_⟩, hA0⟩
  · have h8 := hMF.2.2.2.2.2.2.2.2.1
    rw [← h8]
    exact findClass_of_methodNamed B.named
  · exact va_X.moved hNow.1.alike (S0.1.kept (hNow.2.2 b S0.2.1))
  · have h11 := hMF.2.2.2.2.2.2.2.2.2.2.2.1 (Nat.eq_of_beq_eq_true hi)
    rw [(name_of_methodNamed B.named B.method).1]
    exact h11.2.1
set_option maxHeartbeats 4000000 in
/-- a method's end -/
theorem px_end {N : Nat} {p : Program} {e : Env} {R : Room} {s : State} {m : MethodId} {args : Array Value} {below : List Frame} {meth : Method} {c : Code} {A : Nat → Prop} {rw0 : va_W} (hx : p.tables.exec = Jvm.exec) (hb : c.code = px_b N) (hr : meth.sig.returnType = px_rt N) (hlocks : meth.locks = false)
    {pc k z : Nat} {lv st st' : List Value} {w w1 : px_W} {k1 z1 : Nat} {v : Option Value} {H : Heap} {locs : List Loc} {rw : va_W} {ls : Array Slot} (hfin : px_fin N (pc, lv, st, w, k, z) = some (some v, w1, k1, z1)) (hAd : px_Ad rw0 rw) (hA : A = va_A rw0 s.heap.size) (hG : px_G D cs b A s.heap w rw H locs) (hSt : px_S b rw st st') :
    W p l e R s m args below meth c H locs k z (MQ below (px_Qc D cs b w1 v rw0 s.heap.size) args s k1 z1 A) (F0 m pc ls st') := by
  have hQ : ∀ (v' : Option Value) (t : State), t.heap = H → px_Vo b rw v v' → w1 = w → px_Qc D cs b w1 v rw0 s.heap.size args s (.returned v') t := by
    intro v' t ht hv hw
    subst hw
    refine ⟨v', rw, rfl, hv, hAd, ⟨hG.1, hG.2.1⟩, by rw [ht]; exact hG.2.2.1, ?_, ?_⟩
    · rw [← hA]; exact hG.2.2.2.1
    · rw [← hA]; exact hG.2.2.2.2.F ht
  have hfree : ∀ q ∈ locs, A q.base := hG.2.2.2.2.2.2
  unfold px_fin at hfin
  dsimp only at hfin
  split at hfin
  · rename_i hcd
    split at hfin
    · rename_i v0
      obtain ⟨_, r', rfl, rfl, rfl⟩ := hSt
      split at hfin
      · rename_i hrt
        simp only [Option.some.injEq, Prod.mk.injEq] at hfin
        obtain ⟨rfl, rfl, rfl, rfl⟩ := hfin
        exact W.iret hx hb (by rw [hr, hrt]) (fun t ht hW => hQ _ t ht ⟨_, rfl, rfl⟩ rfl) hfree (px_dec hcd (Nat.succ_ne_zero _)) hlocks
      · rename_i hrt
        split at hfin
        · rename_i hv
          simp only [Option.some.injEq, Prod.mk.injEq] at hfin
          obtain ⟨rfl, rfl, rfl, rfl⟩ := hfin
          have hnar : narrow .boolean (.int v0) = .int v0 := by
            simp only [Bool.or_eq_true, decide_eq_true_eq] at hv
            rcases hv with rfl | rfl <;> rfl
          exact W.zret (ty := .boolean) hx hb (by rw [hr, hrt]) hnar (fun t ht hW => hQ _ t ht ⟨_, rfl, rfl⟩ rfl) hfree (px_dec hcd (Nat.succ_ne_zero _)) hlocks
        · cases hfin
      · cases hfin
    · cases hfin
  · rename_i hcd
    split at hfin
    · rename_i a0
      obtain ⟨_, r', rfl, ⟨ra, ea, h1, rfl⟩, rfl⟩ := hSt
      split at hfin
      · rename_i ty hrt
        simp only [Option.some.injEq, Prod.mk.injEq] at hfin
        obtain ⟨rfl, rfl, rfl, rfl⟩ := hfin
        exact W.aret hx hb (by rw [hr, hrt]) (Or.inr ⟨ty, rfl⟩) (Or.inr ⟨ra, rfl⟩) (fun t ht hW => hQ _ t ht ⟨_, rfl, ⟨ra, ea, h1, rfl⟩⟩ rfl) hfree (px_dec hcd (Nat.succ_ne_zero _)) hlocks
      · rename_i ty hrt
        simp only [Option.some.injEq, Prod.mk.injEq] at hfin
        obtain ⟨rfl, rfl, rfl, rfl⟩ := hfin
        exact W.aret hx hb (by rw [hr, hrt]) (Or.inl ⟨ty, rfl⟩) (Or.inr ⟨ra, rfl⟩) (fun t ht hW => hQ _ t ht ⟨_, rfl, ⟨ra, ea, h1, rfl⟩⟩ rfl) hfree (px_dec hcd (Nat.succ_ne_zero _)) hlocks
      · cases hfin
    · cases hfin
  · rename_i hcd
    split at hfin
    · split at hfin
      · rename_i hrt
        simp only [Option.some.injEq, Prod.mk.injEq] at hfin
        obtain ⟨rfl, rfl, rfl, rfl⟩ := hfin
        cases hSt
        exact W.vret hx hb (by rw [hr, hrt]) (fun t ht hW => hQ _ t ht rfl rfl) hfree (px_dec hcd (Nat.succ_ne_zero _)) hlocks
      · cases hfin
    · cases hfin
  · cases hfin
theorem px_finS {N : Nat} {c : px_C} {r : px_Z} (h : px_fin N c = some r) : r.1 ≠ none := by
  obtain ⟨pc, lv, st, w, k, z⟩ := c
  unfold px_fin at h
  dsimp only at h
  repeat' split at h
  all_goals first
    | (cases h; done)
    | (simp only [Option.some.injEq] at h; subst h; intro q; cases q)
theorem px_inws {N : Nat} : ∀ w ∈ px_T, w ∈ px_wk N := by
  intro w hw
  unfold px_wk
  cases Nat.beq (px_kd N) 3
  · exact List.mem_cons_of_mem _ hw
  · exact List.mem_cons_of_mem _ hw
theorem px_pln3 : ∀ N, N < 173 → px_kd N = 3 → plainName (px_y N).cls = true ∧ px_own N = "StageRowsLaw" ∧ ∃ q, px_hh N = [q] ∧ q.2.2.2 = 13 := by
  have h : ((List.range 173).all fun N => !(Nat.beq (px_kd N) 3) || (plainName (px_y N).cls && decide (px_own N = "StageRowsLaw") && (match px_hh N with
    | [q] => Nat.beq q.2.2.2 13
    | _ => false))) = true := by decide +kernel
  intro N hN hk
  have h1 := List.all_eq_true.mp h N (List.mem_range.mpr hN)
  rw [hk] at h1
  simp only [show Nat.beq 3 3 = true from rfl, Bool.not_true, Bool.false_or, Bool.and_eq_true, decide_eq_true_eq] at h1
  obtain ⟨⟨h2, h3⟩, h4⟩ := h1
  refine ⟨h2, h3, ?_⟩
  split at h4
  · rename_i q hq
    exact ⟨q, hq, Nat.eq_of_beq_eq_true h4⟩
  · cases h4
theorem px_hd3 {N pc t : Nat} (hN : N < 173) (h : px_hd N pc = some t) {q : Nat × Nat × Nat × Nat} (hq : px_hh N = [q]) : q.1 ≤ pc ∧ pc < q.2.1 ∧ q.2.2.1 = t := by
  have hk : px_kd N = 3 := by
    by_cases h3 : px_kd N = 3
    · exact h3
    · rw [px_hdn h3 hN] at h; cases h
  have h9 : ∀ N, N < 173 → px_kd N = 3 → ∀ pc, pc < 30 → (match px_hd N pc with
      | some t => decide (((px_hh N).headD (0, 0, 0, 0)).1 ≤ pc) && decide (pc < ((px_hh N).headD (0, 0, 0, 0)).2.1) && decide (((px_hh N).headD (0, 0, 0, 0)).2.2.1 = t)
      | none => true) = true := by decide +kernel
  have hpc : pc < 30 := by
    by_cases hp : pc < 30
    · exact hp
    · exfalso
      have h8 : ∀ a b : Nat, b ≤ 30 → (Nat.ble a pc && Nat.blt pc b) = false := fun a b0 hb0 => by
        have : Nat.blt pc b0 = false := by
          cases hq9 : Nat.blt pc b0 with
          | false => rfl
          | true => have := Nat.le_of_ble_eq_true hq9; omega
        rw [this, Bool.and_false]
      unfold px_hd at h
      simp [h8, cond_eq_ite] at h
  have h7 := h9 N hN hk pc hpc
  rw [h, hq] at h7
  simp only [List.headD_cons, Bool.and_eq_true, decide_eq_true_eq] at h7
  exact ⟨of_decide_eq_true h7.1.1, of_decide_eq_true h7.1.2, of_decide_eq_true h7.2⟩
theorem px_trd {N f ch fh : Nat} (h : px_tr N = some (f, ch, fh)) : (N = 80 ∧ f = 0 ∧ ch = 0 ∧ fh = 1) ∨ (N = 81 ∧ f = 0 ∧ ch = 0 ∧ fh = 0) ∨ (N = 84 ∧ f = 2 ∧ ch = 2 ∧ fh = 4) ∨ (N = 91 ∧ f = 3 ∧ ch = 3 ∧ fh = 4) := by
  unfold px_tr at h
  simp only [cond_eq_ite] at h
  repeat' split at h
  all_goals first
    | (cases h; done)
    | (rename_i hq; have hq := Nat.eq_of_beq_eq_true hq; simp only [Option.some.injEq, Prod.mk.injEq] at h; omega)
set_option maxHeartbeats 4000000 in
theorem px_tbd (hl0 : l.stackTraces = false) (S0 : px_S0 b X s0) {d N : Nat} {a : List Value} {w : px_W} (hd : 6 ≤ d) (h : px_tb N a w) : px_Con l s0 D cs b (d + 1) N a w (none, w, 1, 6) := by
  intro sz rw a' hE ha
  obtain ⟨f, ch, fh, i, x, fs, t, gs, v, h1, rfl, h2, h3, h4, h5, h6⟩ := h
  obtain ⟨_, _, rfl, ⟨ra, ea, r1, rfl⟩, _, _, rfl, rfl, rfl⟩ := ha
  obtain ⟨a2, e2, g1, fs', rfl, -, g3⟩ := hE.2 _ _ h2
  rw [r1] at g1
  cases g1
  obtain ⟨v', g4, ⟨ta, et, g5, rfl⟩⟩ := g3 f _ h3
  obtain ⟨a3, e3, g6, gs', rfl, -, g8⟩ := hE.2 _ _ h4
  rw [g5] at g6
  cases g6
  obtain ⟨v9, g9, rfl⟩ := g8 fh _ h5
  dsimp only
  rcases px_trd h1 with ⟨rfl, rfl, rfl, rfl⟩ | ⟨rfl, rfl, rfl, rfl⟩ | ⟨rfl, rfl, rfl, rfl⟩ | ⟨rfl, rfl, rfl, rfl⟩
  · exact px_chkX l hl0 S0 (jf := 23) (jm := 207) (Nh := 4) (jh := 15) (is := 212) (tx := "no such move") (by omega) (by decide) rfl (by decide) rfl rfl rfl rfl rfl rfl rfl rfl rfl rfl rfl rfl rfl rfl (by decide) (by decide) rfl rfl rfl rfl rfl rfl rfl rfl rfl rfl rfl rfl rfl hE r1 g4 g5 g9 h6
  · exact px_chkX l hl0 S0 (jf := 23) (jm := 217) (Nh := 6) (jh := 9) (is := 220) (tx := "no such place or piece") (by omega) (by decide) rfl (by decide) rfl rfl rfl rfl rfl rfl rfl rfl rfl rfl rfl rfl rfl rfl (by decide) (by decide) rfl rfl rfl rfl rfl rfl rfl rfl rfl rfl rfl rfl rfl hE r1 g4 g5 g9 h6
  · exact px_chkX l hl0 S0 (jf := 39) (jm := 222) (Nh := 37) (jh := 25) (is := 225) (tx := "no such word") (by omega) (by decide) rfl (by decide) rfl rfl rfl rfl rfl rfl rfl rfl rfl rfl rfl rfl rfl rfl (by decide) (by decide) rfl rfl rfl rfl rfl rfl rfl rfl rfl rfl rfl rfl rfl hE r1 g4 g5 g9 h6
  · exact px_chkX l hl0 S0 (jf := 48) (jm := 227) (Nh := 49) (jh := 25) (is := 228) (tx := "no such stage") (by omega) (by decide) rfl (by decide) rfl rfl rfl rfl rfl rfl rfl rfl rfl rfl rfl rfl rfl rfl (by decide) (by decide) rfl rfl rfl rfl rfl rfl rfl rfl rfl rfl rfl rfl rfl hE r1 g4 g5 g9 h6
set_option maxHeartbeats 8000000 in
/-- EVERY CALL -/
theorem px_sound (hl0 : l.stackTraces = false) (S0 : px_S0 b X s0) : ∀ (d N : Nat) (a : List Value) (w : px_W) (r : px_Z), px_ev X d N a w r → px_Con l s0 D cs b d N a w r
  | 0, _, _, _, _, h => h.elim
  | d + 1, N, a, w, r, Or.inr ⟨h1, h2, h3⟩ => by
    subst h3
    exact px_tbd hl0 S0 h1 h2
  | d + 1, N, a, w, r, Or.inl ⟨hN, hal, haw, hrn, n, hgo⟩ => by
    have ih := px_sound hl0 S0 d
    have hMF := px_mfd hN
    have hMF' := hMF
    obtain ⟨g0, g1, g2, g3, g4, g5, g6, g7, g8, g9, g10, g11, g12⟩ := hMF
    intro sz rw a' hE ha
    have hent := px_entry (n := px_ml N) ha (by rw [haw, hal]) (by rw [hal]; exact g7)
    have hlen : (px_loc N a).length = px_ml N := by
      unfold px_loc
      rw [List.length_append, List.length_replicate, hal]
      omega
    obtain ⟨ro, w1, k1, z1⟩ := r
    cases ro with
    | some v =>
      dsimp only
      have body : ∀ (p : Program) (e : Env) (s : State) (m : MethodId) (args : Array Value) (below : List Frame) (meth : Method) (c : Code) (s₁ : State), BodyLoose p l (px_y N) (headSpec (px_wk N) (px_rm (d + 1) k1 z1)) (px_b N) (px_ml N) (px_rt N) e s m args below meth c s₁ → c.maxLocals = px_ml N → va_Pc a' (px_Pre s0 D cs rw sz) args s →
          W p l e (headSpec (px_wk N) (px_rm (d + 1) k1 z1)).room s m args below meth c s.heap [] 0 0 (MQ below (px_Qc D cs b w1 v rw sz) args s k1 z1 (va_A rw sz)) (entryFrame m args (px_ml N)) := by
        intro p e s m args below meth c s₁ B hml hv
        obtain ⟨rfl, hsz, hP, hK, hD, hNow⟩ := hv
        subst hsz
        obtain ⟨K, hA0⟩ := px_ctx (X := X) (b := b) S0 hMF' px_inws B hml hK hD hNow
        rw [lg_entry_eq]
        refine px_run (R := px_rm (d + 1) k1 z1) (l := l) K hNow hA0 ih (Nat.le_refl _) (Nat.le_refl _) (r := (some v, w1, k1, z1)) (Nat.le_refl _) (Nat.le_refl _) rw ?_ ?_ ?_ n 0 (px_loc N a) [] w 0 0 hgo hlen s.heap [] rw _ [] px_Ad.rf ⟨hE.1, hE.2, hP, hD.self, va_S.rf⟩ hent rfl
        · intro pc lv st w2 k z H locs rw2 ls st' hfin hAd hG hL hn hSt
          exact px_end B.exec B.bytes B.returns B.notSynchronized hfin hAd rfl hG hSt
        · intro pc H locs rw2 ls rest q ce hr0
          cases hr0
        · intro pc t hhd H locs k z ls rest q ce hce hcv hcl kk
          have hk3 : px_kd N = 3 := by
            by_cases h3 : px_kd N = 3
            · exact h3
            · rw [px_hdn h3 hN] at hhd; cases hhd
          obtain ⟨p1, p2, q9, p3, p4⟩ := px_pln3 N hN hk3
          obtain ⟨t1, t2, t3⟩ := px_hd3 hN hhd p3
          obtain ⟨m9, meth9, c9, hn9, y1, y2, y3, y4, y5, y6, y7, y8⟩ := Cond.codeWith_spec (K.2.2.2.2.1 _ (g3 hk3))
          cases Option.some.inj (hn9.symm.trans B.named)
          cases Option.some.inj (y1.symm.trans B.method)
          cases Option.some.inj (y2.symm.trans (Stand.of_body B).code)
          have htab : c.exceptionTable.toList = [⟨q9.1, q9.2.1, q9.2.2.1, q9.2.2.2⟩] := by
            rw [p3] at y5
            have h9 := table_eq c.exceptionTable.toList
            rw [y5] at h9
            exact h9.symm
          have hlk : (Cond.classLink "StageRowsLaw" 13 px_exc).before a'.toArray s = true := K.2.2.2.2.1 _ px_w14
          subst t3
          refine px_catch (own := "StageRowsLaw") (E := px_exc) (x := ⟨q9.1, q9.2.1, q9.2.2.1, q9.2.2.2⟩) ?_ htab ?_ ?_ ?_ hce hcv hcl kk
          · rw [← p2]; exact K.2.2.2.1
          · simp [covers, t1, t2]
          · show q9.2.2.2 ≠ 0
            rw [p4]; decide
          · show (Cond.classLink "StageRowsLaw" q9.2.2.2 px_exc).before a'.toArray s = true
            rw [p4]; exact hlk
      by_cases h3 : px_kd N = 3
      · have hb9 := body
        rw [px_wk_3 h3] at hb9 ⊢
        exact va_MetW (cc := px_b N) (maxL := px_ml N) (ret := px_rt N) (hh := px_hh N) (px_pln3 N hN h3).1 rfl hb9
      · have hb9 := body
        rw [px_wk_of h3] at hb9 ⊢
        exact va_MetF (cc := px_b N) (maxL := px_ml N) (ret := px_rt N) g5 rfl hb9
    | none =>
      dsimp only
      have hk2 : px_kd N < 2 := hrn rfl
      have h3 : px_kd N ≠ 3 := by omega
      refine px_ofWX (cc := px_b N) (maxL := px_ml N) (ret := px_rt N) g5 rfl ?_
      intro p e s m args below meth c s₁ B hml htab hv
      obtain ⟨rfl, hsz, hP, hK, hD, hNow⟩ := hv
      subst hsz
      obtain ⟨K, hA0⟩ := px_ctx (X := X) (b := b) S0 hMF' (fun w hw => List.mem_cons_of_mem _ hw) B hml hK hD hNow
      rw [lg_entry_eq]
      refine px_run (R := px_rm (d + 1) k1 z1) (l := l) K hNow hA0 ih (Nat.le_refl _) (Nat.le_refl _) (r := (none, w1, k1, z1)) (Nat.le_refl _) (Nat.le_refl _) rw ?_ ?_ ?_ n 0 (px_loc N a) [] w 0 0 hgo hlen s.heap [] rw _ [] px_Ad.rf ⟨hE.1, hE.2, hP, hD.self, va_S.rf⟩ hent rfl
      · intro pc lv st w2 k z H locs rw2 ls st' hfin
        exact absurd rfl (px_finS hfin)
      · intro pc H locs rw2 ls rest q ce _ _ hAd hG hce hcv hcl
        refine px_out (fun x hx => (htab x hx).elim) B.notSynchronized (fun t ht hW => ?_) hG.2.2.2.2.2.2
        exact ⟨⟨ce, by rw [ht]; exact hce, hcv, hcl⟩, rw2, hAd, ⟨hG.1, hG.2.1⟩, by rw [ht]; exact hG.2.2.1, hG.2.2.2.1, hG.2.2.2.2.F ht⟩
      · intro pc t hhd
        rw [px_hdn h3 hN] at hhd
        cases hhd
end PXV
