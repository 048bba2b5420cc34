/-! THE FOUR METHODS THAT THROW: what they throw rests on, and their contract when they do. -/
def px_nms : List String := ["java/lang/IndexOutOfBoundsException", "java/lang/RuntimeException", "java/lang/Exception"]
def px_ats : List Cond := Bundle.ownAtoms "StageRows" 214 px_exc px_nms
def px_bad : List Cond := [.castable px_exc px_exc, .isRef (.static Bundle.tN "UNASSIGNED_STACK" Bundle.steD), .isRef (.static Bundle.tN "SUPPRESSED_SENTINEL" Bundle.listD), .laysStatic Bundle.tN "UNASSIGNED_STACK" Bundle.steD, .laysStatic Bundle.tN "SUPPRESSED_SENTINEL" Bundle.listD]
def px_dec4 : List MethodName := ["java/lang/IndexOutOfBoundsException", "java/lang/RuntimeException", "java/lang/Exception", "java/lang/Throwable"].map Bundle.initS
theorem px_at1 : (px_ats.all fun w => (goodWord w && decide (w ∈ lw_tbl)) || decide (w ∈ px_bad) || decide (w ∈ px_dec4.map Cond.declares)) = true := by decide +kernel
theorem px_at7 : ∀ y ∈ px_dec4, Cond.instanceMethod y ∈ px_T := fun y hy => px_T_of ((by decide +kernel : ∀ y ∈ px_dec4, Cond.instanceMethod y ∈ lw_tbl) y hy) rfl
theorem px_at2 : Cond.classLink "StageRows" 210 px_exc ∈ px_T := px_T_of (by decide +kernel) rfl
theorem px_at3 : Cond.initialized px_exc ∈ px_T := px_T_of (by decide +kernel) rfl
theorem px_at4 : Cond.instantiable px_exc 6 ∈ px_T := px_T_of (by decide +kernel) rfl
theorem px_at5 : Bundle.fit px_exc = true ∧ ∀ n ∈ px_nms, Bundle.fit n = true := by decide +kernel
theorem px_at6 : Cond.initialized Bundle.tN ∈ px_T := px_T_of (by decide +kernel) rfl
set_option maxRecDepth 100000 in
theorem px_at8 : ∀ y ∈ px_dec4, ∃ (bt : ByteArray), Cond.code y bt 2 none ∈ px_T := by
  intro y hy
  simp only [px_dec4, List.map_cons, List.map_nil, List.mem_cons, List.not_mem_nil, or_false] at hy
  rcases hy with rfl | rfl | rfl | rfl
  · exact ⟨prog_13_method_2_code, px_T_of (List.mem_of_getElem? (i := 534) (by rfl)) (by rfl)⟩
  · exact ⟨prog_16_method_2_code, px_T_of (List.mem_of_getElem? (i := 537) (by rfl)) (by rfl)⟩
  · exact ⟨prog_12_method_2_code, px_T_of (List.mem_of_getElem? (i := 540) (by rfl)) (by rfl)⟩
  · exact ⟨prog_19_method_2_code, px_T_of (List.mem_of_getElem? (i := 543) (by rfl)) (by rfl)⟩
/-- the law's own start: s0; the script lies at b -/
def px_S0 (b : Nat) (X : Nat × (Nat → Int32)) (s0 : State) : Prop :=
  va_X b X.1 X.2 s0 s0.heap ∧ b < s0.heap.size ∧ va_Zq Bundle.tN "UNASSIGNED_STACK" Bundle.steD (fun q => s0.heap.size ≤ q) s0 s0.heap ∧ va_Zq Bundle.tN "SUPPRESSED_SENTINEL" Bundle.listD (fun q => s0.heap.size ≤ q) s0 s0.heap ∧
  (Cond.laysStatic Bundle.tN "UNASSIGNED_STACK" Bundle.steD).before #[Value.ref b] s0 = true ∧ (Cond.laysStatic Bundle.tN "SUPPRESSED_SENTINEL" Bundle.listD).before #[Value.ref b] s0 = true ∧ ∀ q ∈ px_strs, ∃ sa : Nat, vk_R q.1 q.2.1 q.2.2 sa s0
/-- what stays as it was at the law's start -/
def px_Now (s0 U : State) : Prop := s0.WarmedH U.vm ∧ s0.heap.size ≤ U.heap.size ∧ ∀ a : Nat, a < s0.heap.size → U.heap[a]? = s0.heap[a]?
theorem px_laysNow {s0 U : State} {C n d : String} {a0 args : Array Value} (h : (Cond.laysStatic C n d).before a0 s0 = true) (hN : px_Now s0 U) : (Cond.laysStatic C n d).before args U = true := by
  obtain ⟨c, k, i, f, a, cell, hc, hi, hst, ha, hcell, hs, hcls, hlt, hty⟩ := Cond.laysStatic_spec h
  obtain ⟨k', hi', hek⟩ := State.fieldFound?_setVm hN.1.alike hi
  have hal := (Array.getElem?_eq_some_iff.mp hcell).1
  exact Cond.laysStatic_of (s := U) (by rw [hN.1.alike.findClass]; exact hc) hi' hst (by rw [hek]; exact ha) (by rw [hN.2.2 a hal]; exact hcell) hs hcls hlt (by rw [hek]; exact hty)
theorem px_refNow {s0 U : State} {C n d : String} {args : Array Value} (h : va_Zq C n d (fun q => s0.heap.size ≤ q) s0 s0.heap) (hN : px_Now s0 U) : (Cond.isRef (.static C n d)).before args U = true := by
  have h2 : va_Zq C n d (fun q => s0.heap.size ≤ q) U U.heap := (va_Zq.moved hN.1.alike h).kept (fun a ha _ => hN.2.2 a ha)
  rcases h2 with h2 | ⟨t, h2⟩ <;>
  · obtain ⟨cf, kf, fi, f, a, cell, h1, h2, h3, h4, h5, h6, h7, -⟩ := h2
    simp [Cond.before, Cond.holds, Cond.value, Term.eval, State.fieldNamed?, h1, h2, h4, h5, h6, h7]
theorem px_atoms {b : Nat} {X : Nat × (Nat → Int32)} {s0 U : State} {args : Array Value} (S0 : px_S0 b X s0) (hN : px_Now s0 U) (hts : ∀ w ∈ px_T, w.before args U = true) : ∀ w ∈ px_ats, w.before args U = true := by
  intro w hw
  have h := List.all_eq_true.mp px_at1 w hw
  simp only [Bool.or_eq_true, Bool.and_eq_true, decide_eq_true_eq] at h
  rcases h with (⟨h1, h2⟩ | h) | h
  · exact hts w (px_T_of h2 h1)
  · obtain ⟨-, -, z1, z2, z3, z4, -⟩ := S0
    simp only [px_bad, List.mem_cons, List.not_mem_nil, or_false] at h
    rcases h with rfl | rfl | rfl | rfl | rfl
    · obtain ⟨c, k, hc, hk, -⟩ := Cond.instantiable_spec (hts _ px_at4)
      simp [Cond.before, Cond.holds, Cond.value, hc, va_asg]
    · exact px_refNow z1 hN
    · exact px_refNow z2 hN
    · exact px_laysNow z3 hN
    · exact px_laysNow z4 hN
  · obtain ⟨y, hy, rfl⟩ := List.mem_map.mp h
    obtain ⟨mk, meth, hn, hm, hst, -⟩ := Cond.instanceMethod_spec (hts _ (px_at7 y hy))
    obtain ⟨bt, hbt⟩ := px_at8 y hy
    obtain ⟨meth', c', hm', -, -, -, -, -, -, hsig⟩ := Cond.code_spec hn (hts _ hbt)
    cases hm.symm.trans hm'
    simp [Cond.before, Cond.holds, Cond.value, hn, hm, hst, hsig]
def px_ws (N : Nat) : List Cond := Cond.code (px_y N) (px_b N) (px_ml N) (px_rt N) :: px_T
def px_rm (d mc ms : Nat) : Room := { frames := d, cells := mc, slots := ms, locals := 60 + 30 * d }
def px_Pre (s0 : State) (D : va_G) (cs : px_Cs) (rw : va_W) (sz : Nat) (U : State) : Prop :=
  U.heap.size = sz ∧ va_P D px_cls rw U.heap ∧ va_K D px_cls (px_tys cs) U ∧ va_D (fun q => s0.heap.size ≤ q) rw ∧ px_Now s0 U
def px_EE (b : Nat) (cs : px_Cs) (w : px_W) (rw : va_W) : Prop := rw.length = w.length ∧ ∀ (i : Nat) (e : px_E), w[i]? = some e → ∃ (a : Nat) (e' : va_E), rw[i]? = some (a, e') ∧ px_Er b cs rw e e'
def px_Wd (D : va_G) (cs : px_Cs) (b : Nat) (w1 : px_W) (rw : va_W) (sz : Nat) (rw1 : va_W) (st t : State) : Prop :=
  px_Ad rw rw1 ∧ px_EE b cs w1 rw1 ∧ va_P D px_cls rw1 t.heap ∧ va_D (va_A rw sz) rw1 ∧ va_F (va_A rw sz) st t
def px_XQ (D : va_G) (cs : px_Cs) (b : Nat) (w1 : px_W) (rw : va_W) (sz : Nat) : State → Addr → State → Prop := fun st q t =>
  (∃ ce : Cell, t.heap[q]? = some ce ∧ ce.vm = .none ∧ st.vm.findClass px_exc = some ce.cls) ∧ ∃ rw1 : va_W, px_Wd D cs b w1 rw sz rw1 st t
theorem px_Pre_blind {s0 : State} {D : va_G} {cs : px_Cs} {rw : va_W} {sz : Nat} {a' : List Value} : FrameBlind (va_Pc a' (px_Pre s0 D cs rw sz)) := by
  intro a U g mk q
  obtain ⟨q0, q1, qP, qK, qD, qN⟩ := q
  exact ⟨q0, q1, qP, va_K.moved (u := U) (U := U.calling g mk a) (Vm.Alike.refl U.vm) qK, qD, qN⟩
/-- a body that throws -/
theorem px_ofWX {l : Launch} {y : MethodName} {ws ws' : List Cond} {rm : Room} {Pc : Array Value → State → Prop} {XQ : State → Addr → State → Prop} {mc ms : Nat} {free : Addr → Prop} {cc : ByteArray} {maxL : Nat} {ret : Option FieldType}
    (hy : plainFor y = true) (hw : ws = Cond.code y cc maxL ret :: ws')
    (body : ∀ p e s m args below meth c s₁, BodyLoose p l y (headSpec ws rm) cc maxL ret e s m args below meth c s₁ → c.maxLocals = maxL → (∀ x ∈ c.exceptionTable.toList, False) → Pc args s →
      W p l e (headSpec ws rm).room s m args below meth c s.heap [] 0 0 (fun t => ∃ o, t.status = .running ∧ Ended t below o ∧ px_XP XQ mc ms free args s o t) (entryFrame m args maxL)) : px_MetX l y ws rm Pc XQ mc ms free := by
  refine MetFree.of_bodySF (code := cc) (maxLocals := maxL) (ret := ret) hy ?_ ?_
  · intro args s m h hn
    obtain ⟨meth, c, h1, h2, h3, h4, h5, h6, -, -⟩ := Cond.code_spec hn (atoms_spec (ws := ws) h _ (by rw [hw]; exact List.mem_cons_self))
    exact ⟨meth, c, h1, h2, h3, h4, h5, h6⟩
  · intro p e s m args below meth c s₁ B hml hP _
    have hh0 : s₁.heap = s.heap := by rw [B.state]; rfl
    have ht : ∀ x ∈ c.exceptionTable.toList, False := by
      obtain ⟨meth9, c9, h1, h2, -, -, -, -, h7, -⟩ := Cond.code_spec B.named (atoms_spec (ws := ws) B.pre _ (by rw [hw]; exact List.mem_cons_self))
      cases Option.some.inj (h1.symm.trans B.method)
      cases Option.some.inj (h2.symm.trans (Stand.of_body B).code)
      intro x hx
      rw [Array.isEmpty_iff.mp h7] at hx
      cases hx
    obtain ⟨t, a1, o, b1, b2, b3⟩ := body p e s m args below meth c s₁ B hml ht hP s₁ hh0 (Stand.of_body B)
    exact ⟨t, o, a1, b1, b2, b3⟩
set_option maxHeartbeats 4000000 in
/-- 'x is at least 0 and below the field': when it is not, 0, and nothing is touched -/
theorem px_has (l : Launch) {s0 : State} {D : va_G} {cs : px_Cs} {rw : va_W} {sz N j f i ra : Nat} {x v : Int32} {fs : List Value} (hN : N < 173) (hml : px_ml N = 2) (hrt : px_rt N = some .boolean) (h3 : px_kd N ≠ 3)
    (h0 : px_cd N 0 = some (.iload_n 1)) (h1 : px_cd N 1 = some (.ifCond .lt 15)) (h4 : px_cd N 4 = some (.iload_n 1)) (h5 : px_cd N 5 = some (.aload_n 0)) (h6 : px_cd N 6 = some (.getfield j)) (h9 : px_cd N 9 = some (.if_icmp .ge 7)) (h16 : px_cd N 16 = some (.iconst 0)) (h17 : px_cd N 17 = some .ireturn)
    (hfl : px_fl N j = some (px_ow N, f)) (hi : rw[i]? = some (ra, .inr (px_ow N, fs))) (hf : fs[f]? = some (.int v)) (hx : x < 0 ∨ v ≤ x) :
    Met l (px_y N) (px_ws N) (px_rm 1 0 0) (va_Pc [.ref ra, .int x] (px_Pre s0 D cs rw sz)) (fun _ st o t => o = .returned (some (.int 0)) ∧ t.heap = st.heap) 0 0 (fun _ => False) := by
  obtain ⟨g0, g1, g2, g3, g4, g5, g6, g7, g8, -⟩ := px_mfd hN
  refine va_MetF (cc := px_b N) (maxL := px_ml N) (ret := px_rt N) g5 rfl ?_
  intro p e s m args below meth c s₁ B hml1 hv
  obtain ⟨rfl, hsz, hP, hK, hD, hNow⟩ := hv
  have hX := B.exec
  have hb := B.bytes
  have hr := B.returns
  have hts : ∀ w ∈ px_T, w.before _ s = true := fun w hw => atoms_spec (ws := px_ws N) B.pre w (List.mem_cons_of_mem _ hw)
  have hown : s.vm.findClass (px_own N) = some m.cls := by rw [← g8]; exact findClass_of_methodNamed B.named
  have hlocks := B.notSynchronized
  rw [hml] at hml1 ⊢
  have hl := lv_entry ([.ref ra, .int x]) (n := 2) (Nat.le_of_ble_eq_true rfl)
  rw [lg_entry_eq]
  generalize (lg_sl ([.ref ra, .int x]) ++ List.replicate (2 - (lg_sl ([.ref ra, .int x])).length) Slot.unset).toArray = ls at hl ⊢
  have hl : lv_has ls 2 [(0, .ref ra), (1, .int x)] := hl
  have hfin : W p l e (headSpec (px_ws N) (px_rm 1 0 0)).room s m #[Value.ref ra, Value.int x] below meth c s.heap [] 0 0 (MQ below (fun _ st o t => o = .returned (some (.int 0)) ∧ t.heap = st.heap) #[Value.ref ra, Value.int x] s 0 0 (fun _ => False)) (F0 m 16 ls []) := by
    refine lv_iconst (v := 0) hX hb (px_dec h16 (Nat.succ_ne_zero _)) rfl ?_
    exact W.zret (ty := .boolean) hX hb (by rw [hr, hrt]) rfl (fun t ht hW => ⟨rfl, ht⟩) (fun q hq => by cases hq) (px_dec h17 (Nat.succ_ne_zero _))
  refine lv_iload_n hX hb (px_dec h0 (Nat.succ_ne_zero _)) rfl (lv_at hl 1 rfl) ?_
  refine lv_if_lt (tgt := 16) hX hb (px_dec h1 (Nat.succ_ne_zero _)) rfl (fun _ => hfin) (fun hx0 => ?_)
  refine lv_iload_n hX hb (px_dec h4 (Nat.succ_ne_zero _)) rfl (lv_at hl 1 rfl) ?_
  refine lv_aload_n hX hb (px_dec h5 (Nat.succ_ne_zero _)) rfl (lv_at hl 0 rfl) ?_
  obtain ⟨C, T, K, q1, q2, q3, q4, q5, q6, q7⟩ := px_fld hfl
  refine va_get (D := D) hX hb hts q3 hown hK hP i hi q1 f q2 (hts _ q4) (fun _ h => h) hf (px_dec h6 (Nat.succ_ne_zero _)) ?_
  refine lv_icmp_ge (tgt := 16) hX hb (px_dec h9 (Nat.succ_ne_zero _)) rfl (fun _ => hfin) (fun hx1 => ?_)
  exact absurd (hx.resolve_left hx0) hx1
set_option maxHeartbeats 8000000 in
/-- a check that fails throws; the world stays -/
theorem px_chkX (l : Launch) (hl0 : l.stackTraces = false) {b : Nat} {X : Nat × (Nat → Int32)} {s0 : State} (S0 : px_S0 b X s0) {D : va_G} {cs : px_Cs} {rw : va_W} {w : px_W} {sz d N jf jm Nh jh is f fh i t ra ta : Nat} {tx : String} {x v : Int32} {fs gs : List Value} (hd : 7 ≤ d)
    (hN : N < 173) (hml : px_ml N = 2) (h3 : px_kd N ≠ 3) (how : px_own N = "StageRows") (how6 : px_ow N = 6) (a0 : px_cd N 0 = some (.aload_n 0)) (a1 : px_cd N 1 = some (.getfield jf)) (a4 : px_cd N 4 = some (.iload_n 1)) (a5 : px_cd N 5 = some (.invokevirtual jm)) (a8 : px_cd N 8 = some (.ifCond .ne 13)) (a11 : px_cd N 11 = some (.new 210)) (a14 : px_cd N 14 = some .dup) (a15 : px_cd N 15 = some (.ldc is)) (a17 : px_cd N 17 = some (.invokespecial 214)) (a20 : px_cd N 20 = some .athrow)
    (hfl : px_fl N jf = some (6, f)) (hkl : px_kl N jm = some Nh) (hst : ("StageRows", is, tx) ∈ px_strs)
    (bN : Nh < 173) (bml : px_ml Nh = 2) (brt : px_rt Nh = some .boolean) (bkd : px_kd Nh = 0) (bpn : px_pn Nh = 1)
    (b0 : px_cd Nh 0 = some (.iload_n 1)) (b1 : px_cd Nh 1 = some (.ifCond .lt 15)) (b4 : px_cd Nh 4 = some (.iload_n 1)) (b5 : px_cd Nh 5 = some (.aload_n 0)) (b6 : px_cd Nh 6 = some (.getfield jh)) (b9 : px_cd Nh 9 = some (.if_icmp .ge 7)) (b16 : px_cd Nh 16 = some (.iconst 0)) (b17 : px_cd Nh 17 = some .ireturn) (bfl : px_fl Nh jh = some (px_ow Nh, fh))
    (hE : px_EE b cs w rw) (hi : rw[i]? = some (ra, .inr (6, fs))) (hf : fs[f]? = some (.ref ta)) (ht : rw[t]? = some (ta, .inr (px_ow Nh, gs))) (hg : gs[fh]? = some (.int v)) (hx : x < 0 ∨ v ≤ x) :
    px_MetX l (px_y N) (px_ws N) (px_rm d 1 6) (va_Pc [.ref ra, .int x] (px_Pre s0 D cs rw sz)) (px_XQ D cs b w rw sz) 1 6 (va_A rw sz) := by
  obtain ⟨g0, g1, g2, g3, g4, g5, g6, g7, g8, -⟩ := px_mfd hN
  refine px_ofWX (cc := px_b N) (maxL := px_ml N) (ret := px_rt N) g5 rfl ?_
  intro p e s m args below meth c s₁ B hml1 htab hv
  obtain ⟨rfl, hsz, hP, hK, hD, hNow⟩ := hv
  have hX := B.exec
  have hb := B.bytes
  have hr := B.returns
  have hts : ∀ w ∈ px_T, w.before _ s = true := fun w hw => atoms_spec (ws := px_ws N) B.pre w (List.mem_cons_of_mem _ hw)
  have hown0 : s.vm.findClass (px_own N) = some m.cls := by rw [← g8]; exact findClass_of_methodNamed B.named
  have hown : s.vm.findClass "StageRows" = some m.cls := by rw [← how]; exact hown0
  have hlocks := B.notSynchronized
  have hat := px_atoms S0 hNow hts
  obtain ⟨sa, hsa0⟩ := S0.2.2.2.2.2.2 _ hst
  have hsa : vk_R "StageRows" is tx sa s := vk_R.warm hNow.1 hsa0
  rw [hml] at hml1 ⊢
  have hl := lv_entry ([.ref ra, .int x]) (n := 2) (Nat.le_of_ble_eq_true rfl)
  rw [lg_entry_eq]
  generalize (lg_sl ([.ref ra, .int x]) ++ List.replicate (2 - (lg_sl ([.ref ra, .int x])).length) Slot.unset).toArray = ls at hl ⊢
  have hl : lv_has ls 2 [(0, .ref ra), (1, .int x)] := hl
  obtain ⟨C, T, K, q1, q2, q3, q4, q5, q6, q7⟩ := px_fld hfl
  refine lv_aload_n hX hb (px_dec a0 (Nat.succ_ne_zero _)) rfl (lv_at hl 0 rfl) ?_
  refine va_get (D := D) hX hb hts q3 hown0 hK hP i hi q1 f q2 (hts _ q4) (fun _ h => h) hf (px_dec a1 (Nat.succ_ne_zero _)) ?_
  refine lv_iload_n hX hb (px_dec a4 (Nat.succ_ne_zero _)) rfl (lv_at hl 1 rfl) ?_
  obtain ⟨k1, k2⟩ := px_kld hkl
  obtain ⟨m0, m1, m2, m3, m4, m5, m6, m7, m8, m9, -⟩ := k2
  obtain ⟨r1, r2, r3, T9, K9, r4⟩ := m9 bkd
  have hM := px_has l (s0 := s0) (D := D) (cs := cs) (rw := rw) (sz := s.heap.size) (x := x) (v := v) bN bml brt (by rw [bkd]; decide) b0 b1 b4 b5 b6 b9 b16 b17 bfl ht hg hx
  have hgood : GoodIn px_T (px_ws Nh) := by
    intro w hw
    rcases List.mem_cons.mp hw with rfl | hw
    · exact ⟨m2 (by rw [bkd]; decide), px_Tg _ (m2 (by rw [bkd]; decide))⟩
    · exact ⟨hw, px_Tg _ hw⟩
  have hrun : va_Run p l e (px_rm d 1 6) s m _ below meth c s.heap [] 0 0 0 0 (F0 m 5 ls [.int x, .ref ta]) [] _ (fun _ => False) :=
    va_runV (C := (px_y Nh).cls) (b := ta) (As := [.int x]) (n := px_pn Nh) (own := px_own N) (Ts := px_T) (cc := px_b N) (nL := 2) (rest := []) ⟨hX, hb, hml1, hown0, hts⟩ hM
      ⟨callB_of (px_pn Nh) hts hgood rfl rfl rfl (hts _ m1) (hts _ k1) m4 ⟨by show 1 + 1 ≤ d; omega, by show 8 + (px_ml Nh + 11) + (60 + 30 * 1) ≤ 60 + 30 * d; omega⟩, hts _ r2, hts _ r3⟩
      ⟨px_Pre_blind, va_recv (q := ((px_y Nh).cls, T9, K9)) hK hP r4 ht, fun U hU hW => ⟨rfl, by rw [hU], by rw [hU]; exact hP, va_K.moved hW.alike hK, hD, ⟨State.WarmedH.trans hNow.1 hW, by rw [hU]; exact hNow.2.1, by rw [hU]; exact hNow.2.2⟩⟩⟩ rfl (by rw [bpn]; rfl) hl.1 rfl (lv_room (Nat.le_of_ble_eq_true rfl)) (px_dec a5 (Nat.succ_ne_zero _)) ⟨by show 0 + 0 ≤ 1; omega, by show 0 + 0 ≤ 6; omega⟩
  intro T0 hT0 Xs
  obtain ⟨v', st₀, t', T', L, e0, X', hL', e1, e2, ⟨hv9, hh9⟩, st9⟩ := hrun T0 hT0 Xs
  cases hv9
  have X'' := Stand.forget (locs := []) X' (fun q hq => (hL' q hq).elim)
  have hheap : T'.heap = s.heap := by rw [e1, hh9, e0]
  suffices hW9 : W p l e (px_rm d 1 6) s m _ below meth c s.heap [] 0 0 (fun t => ∃ o, t.status = .running ∧ Ended t below o ∧ px_XP (px_XQ D cs b w rw sz) 1 6 (va_A rw sz) _ s o t) (F0 m 8 ls [.int 0]) by
    obtain ⟨t2, z1, z2⟩ := hW9 T' hheap X''
    exact ⟨t2, st9 t2 z1, z2⟩
  refine lv_if_ne (tgt := 21) hX hb (px_dec a8 (Nat.succ_ne_zero _)) rfl (fun q => absurd rfl q) (fun _ => ?_)
  have htr : ∀ {T : State}, Stand p l e (px_rm d 1 6) s m #[Value.ref ra, Value.int x] below meth c T [] 0 0 → e.platform.stackTraces = false := fun Y => (show e.platform.stackTraces = l.stackTraces by rw [Y.admits.platform]).trans hl0
  intro T1 hT1 X1
  obtain ⟨vm₁, cX, kX, hfX, hkX, -, -, X₁, st1⟩ := X1.newCold hX (own := "StageRows") (C := px_exc) (index := 210) (n := 6) hown (hts _ px_at2) (hts _ px_at4) (hts _ px_at3) (g := F0 m 11 ls []) rfl (by rw [hb]; exact px_dec a11 (Nat.succ_ne_zero _)) (by show 0 + 1 ≤ 1; omega) (by show 0 + 6 ≤ 6; omega)
  have hcellA : ((T1.setVm vm₁).pushCell { cls := cX, slots := kX.instanceTypes.map defaultValue, vm := .none }).heap[T1.heap.size]? = some (freshCell cX kX) := State.heap_pushCell_size _ _
  generalize hT2 : (T1.setVm vm₁).pushCell { cls := cX, slots := kX.instanceTypes.map defaultValue, vm := .none } = T2 at X₁ st1 hcellA
  have hcat : (Value.ref T1.heap.size).category = 1 := rfl
  have d14 : decode c.code 14 = .ok (.dup, 1) := by rw [hb]; exact px_dec a14 (Nat.succ_ne_zero _)
  have d15 : decode c.code 15 = .ok (.ldc is, 2) := by rw [hb]; exact px_dec a15 (Nat.succ_ne_zero _)
  obtain ⟨U, hsteps, hrunU, hend, hWU, hsame, ce, hce, hO⟩ := X₁.ctorThrowS hX (htr X1) (own := "StageRows") (cls := px_exc) (names := px_nms) (ic := 214) hown px_at5.1 px_at5.2 hat (fun x hx => nomatch hx) hfX hkX hcellA (by rw [hT1]; exact Nat.le_refl _) (msg := .ref sa) rfl
    (g := { method := m, pc := 17, locals := ls, stack := .ref sa :: .ref T1.heap.size :: .ref T1.heap.size :: [], locked := none }) rfl (by rw [hml1]; exact hl.1) rfl rfl (rest := []) rfl
    (by rw [hb]; exact px_dec a17 (Nat.succ_ne_zero _)) (by rw [hb]; exact px_dec a20 (Nat.succ_ne_zero _)) (fun x hx => (htab x hx).elim) (by show 3 + 3 < d; omega) (by simp only [List.map_cons, List.sum_cons, List.map_nil, List.sum_nil, hcat]; show 2 * 0 + (1 + 0) + (13 * (3 + 1) + 42) ≤ 60 + 30 * d; omega) hlocks
  have hkeep : ∀ a : Nat, a < s.heap.size → U.heap[a]? = s.heap[a]? := by
    intro a ha
    obtain ⟨-, -, -, -, -, h6⟩ := hsame
    obtain ⟨c9, z1, z2, z3, z4⟩ := h6 a _ (Array.getElem?_eq_getElem ha)
    have z5 : c9.slots = (s.heap[a]).slots := Array.ext_getElem? fun k => z4 k (fun hm => nomatch hm)
    rw [z5] at z2
    have z6 : U.heap[a]? = some c9 := z1
    rw [z6, z2, Array.getElem?_eq_getElem ha]
  have hgrow : s.heap.size ≤ U.heap.size := hsame.2.1
  refine ⟨U, ?_, .threw T1.heap.size, hrunU, hend, T1.heap.size, [], rfl, ⟨⟨ce, hce, hO.vm, hO.cls⟩, rw, px_Ad.rf, hE, ?_, ?_, ⟨hgrow, fun q h1 _ => hkeep q h1⟩⟩, hWU, hsame, fun z hz => nomatch hz⟩
  · refine st1 _ ?_
    show Steps p.tables e below (T2.setTop { method := m, pc := 14, locals := ls, stack := [.ref T1.heap.size], locked := none }) _
    jvm_step X₁.here [X₁.here.top, hX, d14, Value.category]
    exact X₁.ldcString hX (own := "StageRows") (text := tx) (index := is) (a := sa) hown hsa.1 hsa.2
      (g := { method := m, pc := 15, locals := ls, stack := [.ref T1.heap.size, .ref T1.heap.size], locked := none }) rfl d15 _ hsteps
  · exact hP.kept (fun k q hk => hkeep q.1 (hP k q hk).lt)
  · exact ⟨hD.1, fun k q hk => va_A.in hk⟩
