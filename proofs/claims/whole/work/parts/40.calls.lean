/-! CALLS: a call that the pure machine says ends, ends so. -/
def px_Vo (b : Nat) (rw : va_W) (v v' : Option Value) : Prop := match v with
  | none => v' = none
  | some u => ∃ u', v' = some u' ∧ px_V b rw u u'
def px_Qc (D : va_G) (cs : px_Cs) (b : Nat) (w1 : px_W) (v : Option Value) (rw : va_W) (sz : Nat) : Array Value → State → Outcome → State → Prop := fun _ st o t =>
  ∃ (v' : Option Value) (rw1 : va_W), o = .returned v' ∧ px_Vo b rw1 v v' ∧ px_Wd D cs b w1 rw sz rw1 st t
/-- the words of a callee -/
def px_wk (N : Nat) : List Cond := bif Nat.beq (px_kd N) 3 then Cond.codeWith (px_y N) (px_b N) (px_ml N) (px_rt N) (px_hh N) :: px_T else px_ws N
def px_Con (l : Launch) (s0 : State) (D : va_G) (cs : px_Cs) (b : Nat) (d N : Nat) (a : List Value) (w : px_W) (r : px_Z) : Prop :=
  ∀ (sz : Nat) (rw : va_W) (a' : List Value), px_EE b cs w rw → px_S b rw a a' → match r.1 with
    | some v => Met l (px_y N) (px_wk N) (px_rm d r.2.2.1 r.2.2.2) (va_Pc a' (px_Pre s0 D cs rw sz)) (px_Qc D cs b r.2.1 v rw sz) r.2.2.1 r.2.2.2 (va_A rw sz)
    | none => px_MetX l (px_y N) (px_ws N) (px_rm d r.2.2.1 r.2.2.2) (va_Pc a' (px_Pre s0 D cs rw sz)) (px_XQ D cs b r.2.1 rw sz) r.2.2.1 r.2.2.2 (va_A rw sz)
theorem px_cald {M pc N : Nat} {st a rest : List Value} {w : px_W} (h : px_cal M pc st w = some (N, a, rest)) :
    ∃ j, px_kl M j = some N ∧ st = a.reverse ++ rest ∧ a.length = px_ar N ∧ px_w rest ≤ 8 ∧
      ((px_kd N = 0 ∧ decode (px_b M) pc = .ok (.invokevirtual j, 3) ∧ px_rcv N a w = true) ∨ ((px_kd N = 1 ∨ px_kd N = 3) ∧ decode (px_b M) pc = .ok (.invokestatic j, 3)) ∨ (px_kd N = 2 ∧ decode (px_b M) pc = .ok (.invokespecial j, 3) ∧ px_rcv N a w = true)) := by
  have hst : ∀ n, n ≤ st.length → st = ((st.take n).reverse).reverse ++ st.drop n := fun n _ => by rw [List.reverse_reverse, List.take_append_drop]
  have hlen : ∀ n, n ≤ st.length → ((st.take n).reverse).length = n := fun n hn => by rw [List.length_reverse, List.length_take, Nat.min_eq_left hn]
  unfold px_cal at h
  split at h
  · rename_i j hcd
    split at h
    · rename_i N' hkl
      split at h
      · rename_i hc
        simp only [Option.some.injEq, Prod.mk.injEq] at h
        obtain ⟨rfl, rfl, rfl⟩ := h
        simp only [Bool.and_eq_true] at hc
        obtain ⟨⟨⟨h0, h1⟩, h2⟩, h3⟩ := hc
        have h1 := Nat.le_of_ble_eq_true h1
        exact ⟨j, hkl, hst _ h1, hlen _ h1, Nat.le_of_ble_eq_true h2, Or.inl ⟨Nat.eq_of_beq_eq_true h0, px_dec hcd (Nat.succ_ne_zero _), h3⟩⟩
      · cases h
    · cases h
  · rename_i j hcd
    split at h
    · rename_i N' hkl
      split at h
      · rename_i hc
        simp only [Option.some.injEq, Prod.mk.injEq] at h
        obtain ⟨rfl, rfl, rfl⟩ := h
        simp only [Bool.and_eq_true, Bool.or_eq_true] at hc
        obtain ⟨⟨h0, h1⟩, h2⟩ := hc
        have h1 := Nat.le_of_ble_eq_true h1
        exact ⟨j, hkl, hst _ h1, hlen _ h1, Nat.le_of_ble_eq_true h2, Or.inr (Or.inl ⟨h0.imp Nat.eq_of_beq_eq_true Nat.eq_of_beq_eq_true, px_dec hcd (Nat.succ_ne_zero _)⟩)⟩
      · cases h
    · cases h
  · rename_i j hcd
    split at h
    · rename_i N' hkl
      split at h
      · rename_i hc
        simp only [Option.some.injEq, Prod.mk.injEq] at h
        obtain ⟨rfl, rfl, rfl⟩ := h
        simp only [Bool.and_eq_true] at hc
        obtain ⟨⟨⟨h0, h1⟩, h2⟩, h3⟩ := hc
        have h1 := Nat.le_of_ble_eq_true h1
        exact ⟨j, hkl, hst _ h1, hlen _ h1, Nat.le_of_ble_eq_true h2, Or.inr (Or.inr ⟨Nat.eq_of_beq_eq_true h0, px_dec hcd (Nat.succ_ne_zero _), h3⟩)⟩
      · cases h
    · cases h
  · cases h
theorem px_S.split {b : Nat} {rw : va_W} {a rest st' : List Value} (h : px_S b rw (a.reverse ++ rest) st') : ∃ a' r', st' = a'.reverse ++ r' ∧ px_S b rw a a' ∧ px_S b rw rest r' := by
  have hl : a.reverse.length = a.length := List.length_reverse
  refine ⟨(st'.take a.length).reverse, st'.drop a.length, by rw [List.reverse_reverse, List.take_append_drop], ?_, ?_⟩
  · have h1 := (h.take a.reverse.length).rev
    rw [List.take_left' rfl, List.reverse_reverse, hl] at h1
    exact h1
  · have h1 := h.drop a.reverse.length
    rw [List.drop_left' rfl, hl] at h1
    exact h1
section PXR
variable {p : Program} {l : Launch} {e : Env} {R : Room} {s : State} {m : MethodId} {args : Array Value} {below : List Frame} {meth : Method} {c : Code} {Q : State → Prop} {D : va_G} {cs : px_Cs} {b : Nat} {A : Nat → Prop} {s0 : State} {X : Nat × (Nat → Int32)} {M d : Nat}
theorem px_sub {A : Nat → Prop} {H0 H : Heap} {rw : va_W} {locs : List Loc} (hA : ∀ q, H0.size ≤ q → A q) (hD : va_D A rw) (hS : va_S A H0 H locs) : ∀ q, va_A rw H.size q → A q := by
  intro q h
  rcases h with ⟨k, e, h⟩ | h
  · exact hD.2 k (q, e) h
  · exact hA q (Nat.le_trans hS.1 h)
/-- the state now, when only cells of A have changed since the method's start -/
theorem px_now {A : Nat → Prop} {s0 s U : State} {locs : List Loc} (hN : px_Now s0 s) (hA0 : ∀ q, A q → s0.heap.size ≤ q) (hS : va_S A s.heap U.heap locs) (hW : s.WarmedH U.vm) : px_Now s0 U := by
  refine ⟨State.WarmedH.trans hN.1 hW, Nat.le_trans hN.2.1 hS.1, fun a ha => ?_⟩
  rw [hS.2.1 a (Nat.lt_of_lt_of_le ha hN.2.1) (fun q => absurd (hA0 a q) (Nat.not_le.mpr ha))]
  exact hN.2.2 a ha
/-- the precondition of a call, in the caller's state -/
theorem px_pre (K : px_K D cs b A s.heap X M p s m args meth c) (hN : px_Now s0 s) (hA0 : ∀ q, A q → s0.heap.size ≤ q) {w : px_W} {rw : va_W} {H : Heap} {locs : List Loc} (hG : px_G D cs b A s.heap w rw H locs) {U : State} (hU : U.heap = H) (hW : s.WarmedH U.vm) : px_Pre s0 D cs rw H.size U := by
  obtain ⟨hx, hb, hml, hown, hts, hK, hA, hX, hbl, hbA, hin⟩ := K
  subst hU
  exact ⟨rfl, hG.2.2.1, va_K.moved hW.alike hK, hG.2.2.2.1.weaken (fun _ _ _ h => hA0 _ h), px_now hN hA0 hG.2.2.2.2 hW⟩
/-- the world behind a call, in the caller's frame -/
theorem px_bk {w w1 : px_W} {rw rw1 : va_W} {H H0 : Heap} {locs L : List Loc} (hA : ∀ q, H0.size ≤ q → A q) (hG : px_G D cs b A H0 w rw H locs) {st₀ t T' : State} (h0 : st₀.heap = H) (e1 : T'.heap = t.heap) (hL : ∀ q ∈ L, va_A rw H.size q.base)
    (hw : px_Wd D cs b w1 rw H.size rw1 st₀ t) : px_G D cs b A H0 w1 rw1 T'.heap (locs ++ L) := by
  obtain ⟨hAd, hE, hP, hD, hF⟩ := hw
  have hsub := px_sub hA hG.2.2.2.1 hG.2.2.2.2
  have hS := hG.2.2.2.2
  rw [va_F, h0] at hF
  refine ⟨hE.1, hE.2, by rw [e1]; exact hP, hD.weaken (fun _ q _ h => hsub q.1 h), ⟨?_, ?_, ?_⟩⟩
  · rw [e1]; exact Nat.le_trans hS.1 hF.1
  · intro q h1 h2
    have h3 : q < H.size := Nat.lt_of_lt_of_le h1 hS.1
    rw [e1, hF.2 q h3 (fun z => h2 (hsub q z))]
    exact hS.2.1 q h1 h2
  · intro q hq
    rcases List.mem_append.mp hq with h | h
    · exact hS.2.2 q h
    · exact hsub _ (hL q h)
theorem px_goodw {N : Nat} (h : px_MF N) (h3 : px_kd N ≠ 3) : GoodIn px_T (px_ws N) := by
  intro w hw
  rcases List.mem_cons.mp hw with rfl | hw
  · exact ⟨h.2.2.1 h3, px_Tg _ (h.2.2.1 h3)⟩
  · exact ⟨hw, px_Tg _ hw⟩
theorem px_wk_of {N : Nat} (h3 : px_kd N ≠ 3) : px_wk N = px_ws N := by
  unfold px_wk
  rw [show Nat.beq (px_kd N) 3 = false from by cases h : Nat.beq (px_kd N) 3 with
    | false => rfl
    | true => exact absurd (Nat.eq_of_beq_eq_true h) h3]
  rfl
theorem px_wk_3 {N : Nat} (h3 : px_kd N = 3) : px_wk N = Cond.codeWith (px_y N) (px_b N) (px_ml N) (px_rt N) (px_hh N) :: px_T := by
  unfold px_wk
  rw [h3]
  rfl
theorem px_callB (K : px_K D cs b A s.heap X M p s m args meth c) {N j mc ms : Nat} (h : px_kl M j = some N) (h3 : px_kd N ≠ 3) (hfr : d + 1 ≤ R.frames) (hlo : 60 + 30 * (d + 1) ≤ R.locals) :
    CallB R s args (px_own M) j (px_y N) (px_b N) (px_ml N) (px_rt N) (px_ws N) (px_rm d mc ms) mc ms (px_pn N) := by
  obtain ⟨hx, hb, hml, hown, hts, hK, hA, hX, hbl, hbA, hin⟩ := K
  obtain ⟨k1, hMF⟩ := px_kld h
  have hMF' := hMF
  obtain ⟨g0, g1, g2, g3, g4, g5, g6, g7, g8, -⟩ := hMF
  exact callB_of (px_pn N) hts (px_goodw hMF' h3) rfl rfl rfl (hts _ g1) (hts _ k1) g4 ⟨by show d + 1 ≤ _; exact hfr, by show 8 + (px_ml N + 11) + (60 + 30 * d) ≤ _; omega⟩
set_option maxHeartbeats 4000000 in
/-- a static call of a method with handlers -/
theorem px_runSW {y : MethodName} {bytes cc : ByteArray} {maxL nL mc ms index : Nat} {ret : Option FieldType} {hh : List (Nat × Nat × Nat × Nat)} {ws : List Cond} {rm : Room} {Pc : Array Value → State → Prop} {Qc : Array Value → State → Outcome → State → Prop} {free : Addr → Prop} {Ts : List Cond} {own : String} {As rest : List Value} {g : JFrame} {H : Heap} {locs : List Loc} {cells slots : Nat}
    (S : CallFix p m c cc nL s args Ts own) (hM : Met l y ws rm Pc Qc mc ms free) (hrc : rm.cells = mc) (hrs : rm.slots = ms) (hfr : rm.frames + 1 ≤ R.frames) (hlo : 8 + (maxL + 11) + rm.locals ≤ R.locals) (hws : ∀ w ∈ ws, ∀ (a' : Array Value) (U : State), s.WarmedH U.vm → w.before a' U = true) (hcw : Cond.codeWith y bytes maxL ret hh ∈ ws)
    (hcode : (Cond.codeWith y bytes maxL ret hh).before args s = true) (hini : (Cond.initialized y.cls).before args s = true) (hy : y.cls ≠ "java/lang/invoke/MethodHandle" ∧ y.cls ≠ "java/lang/invoke/VarHandle") (hlen : ∀ sig, parseMethodDescriptor y.desc = some sig → As.length = sig.parameters.length) (hl : (Cond.methodLink own index y).before args s = true) (hstat : (Cond.static y).before args s = true) (hp : PreS s H Pc As)
    (hg : g.method = m) (hsize : g.locals.size = nL) (hstack : g.stack = As.reverse ++ rest) (hW : 2 * g.monitorRoom + (rest.map fun v => v.category).sum ≤ 8) (hdg : decode cc g.pc = .ok (.invokestatic index, 3)) (hf : cells + mc ≤ R.cells ∧ slots + ms ≤ R.slots) :
    va_Run p l e R s m args below meth c H locs cells slots mc ms g rest (Qc As.toArray) free := by
  have hK : Back l R p e below s args y 3 8 (PreOf R mc ms Pc) (PostOf Qc mc ms free) := va_backW (hh := hh) (bytes := bytes) (maxL := maxL) (ret := ret) hM hp.1 hrc hrs hfr hlo hws hcw (fun a' U hW => word_at hW (Or.inl (by first | rfl | simp [Cond.onTables, Cond.keeps, Cond.steady])) hini)
  obtain ⟨hx, hb, hml, ho, -⟩ := S
  intro T hT Xs
  obtain ⟨mk, methM, cM, hnamed, hmethM, -, -, -, -, -, -, hsigM⟩ := Cond.codeWith_spec hcode
  have hstatic : methM.isStatic = true := Cond.static_spec hnamed hmethM hstat
  obtain ⟨kP, hkP, -⟩ := className_of_methodNamed hnamed
  have hinitP : kP.init = .initialized := Cond.initialized_spec (findClass_of_methodNamed hnamed) hkP hini
  obtain ⟨vm₁, X₁, hstep₁⟩ := Xs.invokestatic hx ho hl hnamed hmethM hstatic hkP hinitP hy (g := g) hg (argsL := As) (rest := rest) (hlen _ hsigM) hstack (by rw [hb]; exact hdg)
  obtain ⟨v, ⟨U', l2, c2, s2⟩, X', ⟨g', mk', t, L, e1, e2, hq, h1, hL, h2, h3⟩, hsteps⟩ := hK m meth c ⟨T.setVm vm₁, locs, cells, slots⟩ { g with stack := rest } (.invokestatic index) mk As.toArray X₁ hg (hsize.trans hml.symm) (by rw [hb]; exact hdg) hW (X₁.named hnamed) ⟨hf.1, hf.2, hp.2 (T.setVm vm₁) hT X₁.warmed⟩
  dsimp only [Pt.U, Pt.locs, Pt.cells, Pt.slots] at X' e1 e2 h1 h2 h3 hsteps
  subst h1; subst h2; subst h3
  exact ⟨v, (T.setVm vm₁).calling g' mk' As.toArray, t, U', L, hT, X', hL, e1, e2, hq, fun target h => hstep₁ _ fun acts => by rw [doInvoke_state]; exact hsteps.trans h⟩
set_option maxHeartbeats 4000000 in
/-- a call that returns -/
theorem px_crun (K : px_K D cs b A s.heap X M p s m args meth c) (hNw : px_Now s0 s) (hA0 : ∀ q, A q → s0.heap.size ≤ q) (hfr : d + 1 ≤ R.frames) (hlo : 60 + 30 * (d + 1) ≤ R.locals) {pc N k z k1 z1 : Nat} {st a rest : List Value} {w w1 : px_W} {v : Option Value} (hcal : px_cal M pc st w = some (N, a, rest))
    (hC : px_Con l s0 D cs b d N a w (some v, w1, k1, z1)) {H : Heap} {locs : List Loc} {rw : va_W} {ls : Array Slot} {st' : List Value} (hG : px_G D cs b A s.heap w rw H locs) (hls : ls.size = px_ml M) (hSt : px_S b rw st st') (hk : k + k1 ≤ R.cells) (hz : z + z1 ≤ R.slots) :
    ∃ (a' r' : List Value), px_S b rw rest r' ∧ va_Run p l e R s m args below meth c H locs k z k1 z1 (F0 m pc ls st') r' (px_Qc D cs b w1 v rw H.size a'.toArray) (va_A rw H.size) := by
  obtain ⟨j, hkl, rfl, hal, hr8, hkind⟩ := px_cald hcal
  obtain ⟨a', r', rfl, ha, hr⟩ := px_S.split hSt
  have hpre : ∀ U : State, U.heap = H → s.WarmedH U.vm → px_Pre s0 D cs rw H.size U := fun U hU hW => px_pre K hNw hA0 hG hU hW
  have hM := hC H.size rw a' ⟨hG.1, hG.2.1⟩ ha
  dsimp only at hM
  have hcb := fun h3 => px_callB (d := d) (R := R) (mc := k1) (ms := z1) K hkl h3 hfr hlo
  obtain ⟨hx, hb, hml, hown, hts, hK, hA, hX, hbl, hbA, hin⟩ := K
  obtain ⟨kk1, hMF⟩ := px_kld hkl
  have hMF' := hMF
  obtain ⟨g0, g1, g2, g3, g4, g5, g6, g7, g8, g9, g10, g11, g12⟩ := hMF
  have hroom : 2 * (F0 m pc ls (a'.reverse ++ r')).monitorRoom + (r'.map fun v => v.category).sum ≤ 8 := lv_room (by rw [hr.sum]; exact hr8)
  refine ⟨a', r', hr, ?_⟩
  rcases hkind with ⟨hkd, hd, hrc⟩ | ⟨hkd, hd⟩ | ⟨hkd, hd, hrc⟩
  · obtain ⟨q0, q1, q2, F9, N9, q4⟩ := g9 hkd
    have h3 : px_kd N ≠ 3 := by rw [hkd]; decide
    rw [px_wk_of h3] at hM
    unfold px_rcv at hrc
    split at hrc
    · rename_i i as
      split at hrc
      · rename_i ci fs hwi
        obtain ⟨_, As, rfl, ⟨ra, ea, h1, rfl⟩, hAs⟩ := ha
        have hci : ci = px_on N := Nat.eq_of_beq_eq_true hrc
        subst hci
        obtain ⟨a2, e2, h2, fs', rfl, -, -⟩ := hG.2.1 _ _ hwi
        rw [h1] at h2
        cases h2
        have hlen : As.length = px_pn N := by
          have h5 := hAs.len
          rw [List.length_cons] at hal
          omega
        exact va_runV (C := (px_y N).cls) (b := ra) (As := As) (n := px_pn N) ⟨hx, hb, hml, hown, hts⟩ hM ⟨hcb h3, hts _ q1, hts _ q2⟩
          ⟨px_Pre_blind, va_recv (q := ((px_y N).cls, F9, N9)) hK hG.2.2.1 q4 h1, fun U hU hW => ⟨rfl, hpre U hU hW⟩⟩ rfl hlen hls (by simp) hroom hd ⟨hk, hz⟩
      · cases hrc
    · cases hrc
  · obtain ⟨q0, q1⟩ := g10 hkd
    have hlen : a'.length = px_pn N := by
      have h5 := ha.len
      omega
    rcases hkd with hkd | hkd
    · have h3 : px_kd N ≠ 3 := by rw [hkd]; decide
      rw [px_wk_of h3] at hM
      exact va_runS (As := a') (n := px_pn N) ⟨hx, hb, hml, hown, hts⟩ hM ⟨hcb h3, hts _ q1⟩ ⟨px_Pre_blind, fun U hU hW => ⟨rfl, hpre U hU hW⟩⟩ rfl hlen hls rfl hroom hd ⟨hk, hz⟩
    · rw [px_wk_3 hkd] at hM
      refine px_runSW (Ts := px_T) (own := px_own M) (As := a') ⟨hx, hb, hml, hown, hts⟩ hM rfl rfl (by show d + 1 ≤ _; exact hfr) (by show 8 + (px_ml N + 11) + (60 + 30 * d) ≤ _; omega) (fun w hw a9 U hW => ?_) List.mem_cons_self (hts _ (g3 hkd)) (hts _ g1) ⟨g4.1, g4.2.1⟩ (fun sig h => ?_) (hts _ kk1) (hts _ q1) ⟨px_Pre_blind, fun U hU hW => ⟨rfl, hpre U hU hW⟩⟩ rfl hls rfl hroom hd ⟨hk, hz⟩
      · have hw' : w ∈ px_T := by
          rcases List.mem_cons.mp hw with rfl | hw
          · exact g3 hkd
          · exact hw
        exact word_at hW (px_Tg w hw') (hts w hw')
      · have h2 := g4.2.2
        rw [h] at h2
        rw [hlen]
        exact (Option.some.inj h2).symm
  · obtain ⟨q0, q1, q2, q3⟩ := g11 hkd
    have h3 : px_kd N ≠ 3 := by rw [hkd]; decide
    rw [px_wk_of h3] at hM
    have hcb := hcb h3
    unfold px_rcv at hrc
    split at hrc
    · rename_i i as
      obtain ⟨_, As, rfl, ⟨ra, ea, h1, rfl⟩, hAs⟩ := ha
      have hlen : As.length = px_pn N := by
        have h5 := hAs.len
        rw [List.length_cons] at hal
        omega
      rw [q3] at hcb
      exact va_runI (b := ra) (As := As) (n := px_pn N) ⟨hx, hb, hml, hown, hts⟩ hM ⟨hcb, q1, hts _ q2⟩ ⟨px_Pre_blind, fun U hU hW => ⟨rfl, hpre U hU hW⟩⟩ rfl hlen hls (by simp) hroom hd ⟨hk, hz⟩
    · cases hrc
set_option maxHeartbeats 4000000 in
/-- a call that throws -/
theorem px_xrun (K : px_K D cs b A s.heap X M p s m args meth c) (hNw : px_Now s0 s) (hA0 : ∀ q, A q → s0.heap.size ≤ q) (hfr : d + 1 ≤ R.frames) (hlo : 60 + 30 * (d + 1) ≤ R.locals) {pc N k z k1 z1 : Nat} {st a rest : List Value} {w w1 : px_W} (hcal : px_cal M pc st w = some (N, a, rest)) (hkd2 : px_kd N < 2)
    (hC : px_Con l s0 D cs b d N a w (none, w1, k1, z1)) {H : Heap} {locs : List Loc} {rw : va_W} {ls : Array Slot} {st' : List Value} (hG : px_G D cs b A s.heap w rw H locs) (hls : ls.size = px_ml M) (hSt : px_S b rw st st') (hk : k + k1 ≤ R.cells) (hz : z + z1 ≤ R.slots) :
    ∃ (r' : List Value), px_RunX p l e R s m args below meth c H locs k z k1 z1 (F0 m pc ls st') r' (px_XQ D cs b w1 rw H.size) (va_A rw H.size) := by
  obtain ⟨j, hkl, rfl, hal, hr8, hkind⟩ := px_cald hcal
  obtain ⟨a', r', rfl, ha, hr⟩ := px_S.split hSt
  have hpre : ∀ U : State, U.heap = H → s.WarmedH U.vm → px_Pre s0 D cs rw H.size U := fun U hU hW => px_pre K hNw hA0 hG hU hW
  have hM := hC H.size rw a' ⟨hG.1, hG.2.1⟩ ha
  dsimp only at hM
  have h3 : px_kd N ≠ 3 := by omega
  have hcb := px_callB (d := d) (R := R) (mc := k1) (ms := z1) K hkl h3 hfr hlo
  obtain ⟨hx, hb, hml, hown, hts, hK, hA, hX, hbl, hbA, hin⟩ := K
  obtain ⟨kk1, hMF⟩ := px_kld hkl
  obtain ⟨g0, g1, g2, g3, g4, g5, g6, g7, g8, g9, g10, g11, g12⟩ := hMF
  have hroom : 2 * (F0 m pc ls (a'.reverse ++ r')).monitorRoom + (r'.map fun v => v.category).sum ≤ 8 := lv_room (by rw [hr.sum]; exact hr8)
  refine ⟨r', ?_⟩
  rcases hkind with ⟨hkd, hd, hrc⟩ | ⟨hkd, hd⟩ | ⟨hkd, hd, hrc⟩
  · obtain ⟨q0, q1, q2, F9, N9, q4⟩ := g9 hkd
    unfold px_rcv at hrc
    split at hrc
    · rename_i i as
      split at hrc
      · rename_i ci fs hwi
        obtain ⟨_, As, rfl, ⟨ra, ea, h1, rfl⟩, hAs⟩ := ha
        have hci : ci = px_on N := Nat.eq_of_beq_eq_true hrc
        subst hci
        obtain ⟨a2, e2, h2, fs', rfl, -, -⟩ := hG.2.1 _ _ hwi
        rw [h1] at h2
        cases h2
        have hlen : As.length = px_pn N := by
          have h5 := hAs.len
          rw [List.length_cons] at hal
          omega
        exact px_runVX (C := (px_y N).cls) (b := ra) (As := As) (n := px_pn N) ⟨hx, hb, hml, hown, hts⟩ hM ⟨hcb, hts _ q1, hts _ q2⟩
          ⟨px_Pre_blind, va_recv (q := ((px_y N).cls, F9, N9)) hK hG.2.2.1 q4 h1, fun U hU hW => ⟨rfl, hpre U hU hW⟩⟩ rfl hlen hls (by simp) hroom hd ⟨hk, hz⟩
      · cases hrc
    · cases hrc
  · obtain ⟨q0, q1⟩ := g10 hkd
    have hlen : a'.length = px_pn N := by
      have h5 := ha.len
      omega
    exact px_runSX (As := a') (n := px_pn N) ⟨hx, hb, hml, hown, hts⟩ hM ⟨hcb, hts _ q1⟩ ⟨px_Pre_blind, fun U hU hW => ⟨rfl, hpre U hU hW⟩⟩ rfl hlen hls rfl hroom hd ⟨hk, hz⟩
  · omega
set_option maxHeartbeats 4000000 in
/-- a method, from where it stands to its end -/
theorem px_run (K : px_K D cs b A s.heap X M p s m args meth c) (hNw : px_Now s0 s) (hA0 : ∀ q, A q → s0.heap.size ≤ q) (hC : ∀ N a w r, px_ev X d N a w r → px_Con l s0 D cs b d N a w r) (hfr : d + 1 ≤ R.frames) (hlo : 60 + 30 * (d + 1) ≤ R.locals) {r : px_Z} (hk : r.2.2.1 ≤ R.cells) (hz : r.2.2.2 ≤ R.slots) (rw0 : va_W)
    (hf : ∀ (pc : Nat) (lv st : List Value) (w : px_W) (k z : Nat) (H : Heap) (locs : List Loc) (rw : va_W) (ls : Array Slot) (st' : List Value), px_fin M (pc, lv, st, w, k, z) = some r → px_Ad rw0 rw → px_G D cs b A s.heap w rw H locs → px_L b rw lv ls → lv.length = px_ml M → px_S b rw st st' → W p l e R s m args below meth c H locs k z Q (F0 m pc ls st'))
    (hp : ∀ (pc : Nat) (H : Heap) (locs : List Loc) (rw : va_W) (ls : Array Slot) (rest : List Value) (q : Addr) (ce : Cell), r.1 = none → px_hd M pc = none → px_Ad rw0 rw → px_G D cs b A s.heap r.2.1 rw H locs → H[q]? = some ce → ce.vm = .none → s.vm.findClass px_exc = some ce.cls → px_WT p l e R s m args below meth c H locs r.2.2.1 r.2.2.2 Q (F0 m pc ls rest) q)
    (hh : ∀ (pc t : Nat), px_hd M pc = some t → ∀ (H : Heap) (locs : List Loc) (k z : Nat) (ls : Array Slot) (rest : List Value) (q : Addr) (ce : Cell), H[q]? = some ce → ce.vm = .none → s.vm.findClass px_exc = some ce.cls → W p l e R s m args below meth c H locs k z Q (F0 m t ls [.ref q]) → px_WT p l e R s m args below meth c H locs k z Q (F0 m pc ls rest) q) :
    ∀ (n pc : Nat) (lv st : List Value) (w : px_W) (k z : Nat), px_go X (px_ev X d) M n (pc, lv, st, w, k, z) r → lv.length = px_ml M → ∀ (H : Heap) (locs : List Loc) (rw : va_W) (ls : Array Slot) (st' : List Value), px_Ad rw0 rw → px_G D cs b A s.heap w rw H locs → px_L b rw lv ls → px_S b rw st st' → W p l e R s m args below meth c H locs k z Q (F0 m pc ls st')
  | 0, pc, lv, st, w, k, z, h, hn, H, locs, rw, ls, st', h1, hG, hL, hSt => hf pc lv st w k z H locs rw ls st' h h1 hG hL hn hSt
  | n + 1, pc, lv, st, w, k, z, h, hn, H, locs, rw, ls, st', h1, hG, hL, hSt => by
    have hA : ∀ q, s.heap.size ≤ q → A q := K.2.2.2.2.2.2.1
    rcases h with ⟨⟨pc1, lv1, st1, w1, k1, z1⟩, h2, h3⟩ | ⟨N, a, rest, v, w1, k1, z1, h2, h3, h4⟩ | ⟨N, a, rest, w1, k1, z1, h2, h5, h3, h4⟩
    · have q1 := px_go_mono _ _ _ _ _ _ _ _ h3
      have q2 := px_step_len h2
      exact px_step_ok K h2 hG hL hn hSt (by omega) (by omega) (by omega) (by omega) (fun H1 locs1 rw1 ls1 st1' g1 g2 g3 g4 => px_run K hNw hA0 hC hfr hlo hk hz rw0 hf hp hh n _ _ _ _ _ _ h3 (by dsimp only at q2; rw [q2]; exact hn) _ _ _ _ _ (h1.tr g1) g2 g3 g4)
    · have q1 := px_go_mono _ _ _ _ _ _ _ _ h4
      obtain ⟨a', r', hr, hrun⟩ := px_crun (l := l) (e := e) (below := below) (locs := locs) (k := k) (z := z) (ls := ls) (R := R) K hNw hA0 hfr hlo h2 (hC _ _ _ _ h3) hG (by rw [hL.1, hn]) hSt (by omega) (by omega)
      intro T hT Xs
      obtain ⟨v', st₀, t, T', L, e0, X', hL', e1, e2, ⟨v9, rw1, hv9, hvo, hw⟩, st9⟩ := hrun T hT Xs
      cases hv9
      have hG1 := px_bk hA hG e0 e1 hL' hw
      have hAd := hw.1
      have hS1 : px_S b rw1 (v.toList ++ rest) (v'.toList ++ r') := by
        cases v with
        | none =>
          cases hvo
          exact hr.mono hAd
        | some u =>
          obtain ⟨u', rfl, hu⟩ := hvo
          exact ⟨u', r', rfl, hu, hr.mono hAd⟩
      obtain ⟨t2, a1, b1⟩ := px_run K hNw hA0 hC hfr hlo hk hz rw0 hf hp hh n _ _ _ _ _ _ h4 hn _ _ _ _ _ (h1.tr hAd) hG1 (hL.mono hAd) hS1 T' rfl X'
      exact ⟨t2, st9 t2 a1, b1⟩
    · have q1 : k + k1 ≤ r.2.2.1 ∧ z + z1 ≤ r.2.2.2 := by
        cases hhd : px_hd M pc with
        | none =>
          rw [hhd] at h4
          dsimp only at h4
          subst h4
          exact ⟨Nat.le_refl _, Nat.le_refl _⟩
        | some t9 =>
          rw [hhd] at h4
          exact px_go_mono _ _ _ _ _ _ _ _ h4
      obtain ⟨r', hrun⟩ := px_xrun (l := l) (e := e) (below := below) (locs := locs) (k := k) (z := z) (ls := ls) (R := R) K hNw hA0 hfr hlo h2 h5 (hC _ _ _ _ h3) hG (by rw [hL.1, hn]) hSt (by omega) (by omega)
      intro T hT Xs
      obtain ⟨q, st₀, t, T', L, e0, eA, X', hL', e1, e2, ⟨⟨ce, hce, hcv, hcl⟩, rw1, hw⟩, st9⟩ := hrun T hT Xs
      have hG1 := px_bk hA hG e0 e1 hL' hw
      have hAd := hw.1
      have hce' : T'.heap[q]? = some ce := by rw [e1]; exact hce
      have hcl' : s.vm.findClass px_exc = some ce.cls := by rw [← eA.findClass]; exact hcl
      cases hhd : px_hd M pc with
      | none =>
        rw [hhd] at h4
        dsimp only at h4
        subst h4
        obtain ⟨t2, a1, b1⟩ := hp pc T'.heap (locs ++ L) rw1 ls r' q ce rfl hhd (h1.tr hAd) hG1 hce' hcv hcl' T' rfl X'
        exact ⟨t2, st9.trans a1, b1⟩
      | some t9 =>
        rw [hhd] at h4
        obtain ⟨t2, a1, b1⟩ := hh pc t9 hhd T'.heap (locs ++ L) (k + k1) (z + z1) ls r' q ce hce' hcv hcl' (px_run K hNw hA0 hC hfr hlo hk hz rw0 hf hp hh n _ _ _ _ _ _ h4 hn _ _ _ _ _ (h1.tr hAd) hG1 (hL.mono hAd) ⟨_, _, rfl, ⟨q, rfl⟩, rfl⟩) T' rfl X'
        exact ⟨t2, st9.trans a1, b1⟩
end PXR
