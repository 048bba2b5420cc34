/-! THE LAW, out of its pure run -/
theorem px_arrOf {ty : FieldType} {args : Array Value} {s : State} (h : (Cond.arrayClass ty).before args s = true) (hty : ∀ C, ty ≠ .object C) : ∃ cA : ClassId, ArrOfT s cA ty ∧ va_RA s cA ty := by
  obtain ⟨cA, kA, comp, h1, h2, h3⟩ := Cond.arrayClass_spec h
  refine ⟨cA, fun n z => ⟨fun k h => (by cases h), kA, h2, comp, h3⟩, ?_⟩
  cases ty with
  | object C => exact absurd rfl (hty C)
  | _ => exact h1
theorem px_strW : ∀ q ∈ px_strs, Cond.stringRef q.1 q.2.1 q.2.2 ∈ lw_tbl := by decide +kernel
theorem px_strC : ∀ q ∈ px_strs, q.1 = "StageRows" := by decide +kernel
theorem px_start {s : State} {b L : Nat} {xs : Nat → Int32} (hts : ∀ w ∈ lw_tbl, w.before #[Value.ref b] s = true) (hX : va_X b L xs s s.heap) (hbl : b < s.heap.size) (hgv : (Jvm.Cond.and given_1 narrow_1).before #[Value.ref b] s = true) : px_S0 b (L, xs) s := by
  have hflat := flat_of_before _ hgv
  have hT := px_T_lw hts
  have l1 : (Cond.laysStatic Bundle.tN "UNASSIGNED_STACK" Bundle.steD).before #[Value.ref b] s = true := hts _ (by decide +kernel)
  have l2 : (Cond.laysStatic Bundle.tN "SUPPRESSED_SENTINEL" Bundle.listD).before #[Value.ref b] s = true := hts _ (by decide +kernel)
  have r1 : (Cond.isRef (.static Bundle.tN "UNASSIGNED_STACK" Bundle.steD)).before #[Value.ref b] s = true := hflat _ (by decide +kernel)
  have r2 : (Cond.isRef (.static Bundle.tN "SUPPRESSED_SENTINEL" Bundle.listD)).before #[Value.ref b] s = true := hflat _ (by decide +kernel)
  have hA : ∀ a : Nat, a < s.heap.size → ¬ (fun q : Nat => s.heap.size ≤ q) a := fun a ha => Nat.not_le.mpr ha
  refine ⟨hX, hbl, va_Zqof l1 (hT _ px_at6) r1 hA, va_Zqof l2 (hT _ px_at6) r2 hA, l1, l2, fun q hq => ?_⟩
  obtain ⟨c, k, hc, hk, -⟩ := Cond.instantiable_spec (hT (Cond.instantiable "StageRows" 9) (px_T_of (by decide +kernel) rfl))
  have h1 := hts _ (px_strW q hq)
  have h2 : s.vm.findClass q.1 = some c := by rw [px_strC q hq]; exact hc
  obtain ⟨k9, cf, i, a', -, -, -, -, -, hev⟩ := Cond.stringRef_spec h2 h1
  exact ⟨a', vk_R.of h1 hev⟩
theorem px_known {s : State} {args : Array Value} (hT : ∀ w ∈ px_T, w.before args s = true) : ∃ (D : va_G) (cs : px_Cs), va_K D px_cls (px_tys cs) s := by
  have h : ∀ ci : Nat, ∃ (x : ClassId × (Nat → Nat)), ∀ q : vw_C, px_cls[ci]? = some q → u_Kn s q.1 q.2.1 q.2.2 x.1 x.2 := by
    intro ci
    cases hq : px_cls[ci]? with
    | none => exact ⟨(0, fun _ => 0), fun q h => by cases h⟩
    | some q =>
      obtain ⟨C, T, N⟩ := q
      obtain ⟨g1, g2, g3, -⟩ := px_cf hq
      have hci : ci < 8 := (List.getElem?_eq_some_iff.mp hq).1
      have hin : (Cond.instantiable C N).before args s = true := by
        rw [g1, g2]
        exact hT _ (px_T_of (px_DN_in (px_in8 ci hci)) rfl)
      obtain ⟨c0, iS, hK⟩ := u_known (C := C) (T := T) (N := N) (n := N) hT g3 hin
      exact ⟨(c0, iS), fun q h => by cases h; exact hK⟩
  obtain ⟨f, hf⟩ := Classical.axiomOfChoice h
  obtain ⟨cI, i1, i2⟩ := px_arrOf (hT _ px_w11) (fun C h => by cases h)
  obtain ⟨cZ, z1, z2⟩ := px_arrOf (hT _ px_w12) (fun C h => by cases h)
  obtain ⟨cJ, j1, j2⟩ := px_arrOf (hT _ px_w13) (fun C h => by cases h)
  refine ⟨(fun ci => (f ci).1, fun ci => (f ci).2), (cI, cZ, cJ), fun ci q hq => hf ci q hq, fun k q hk => ?_⟩
  match k, hk with
  | 0, hk => cases hk; exact ⟨i1, i2⟩
  | 1, hk => cases hk; exact ⟨z1, z2⟩
  | 2, hk => cases hk; exact ⟨j1, j2⟩
  | k + 3, hk => simp [px_tys] at hk
set_option maxHeartbeats 4000000 in
set_option maxRecDepth 100000 in
theorem px_lawW {p : Program} {e : Env} {s : State} {m : MethodId} {below : List Frame} {meth : Method} {c : Code} (l : Launch) (hl0 : l.stackTraces = false) {b L : Nat} {xs : Nat → Int32} (C0 : lw_At p s m meth c b L xs) {w1 : px_W} {k1 z1 : Nat}
    (h : px_to (L, xs) 11 173 (0, px_loc 173 [.retAddr 1], [], [], 0, 0) (some (some (.int 1)), w1, k1, z1)) (hk : k1 ≤ 601024) (hz : z1 ≤ 7293000) :
    W p l e room_1 s m #[Value.ref b] below meth c s.heap [] 0 0 (lw_Z below #[Value.ref b] s) (entryFrame m ([Value.ref b] : List Value).toArray 7) := by
  obtain ⟨hx, hb, hr, hml, hown, hts, hX, hbl, hlocks, hgv⟩ := C0
  have S0 := px_start hts hX hbl hgv
  have hT := px_T_lw hts
  obtain ⟨D, cs, hK⟩ := px_known hT
  have K : px_K D cs b (fun q => s.heap.size ≤ q) s.heap (L, xs) 173 p s m #[Value.ref b] meth c :=
    ⟨hx, hb, hml, hown, hT, hK, fun q h => h, hX, hbl, Nat.not_le.mpr hbl, fun h => by cases h⟩
  obtain ⟨n, hgo⟩ := h
  have ha : px_S b [] [Value.retAddr 1] [Value.ref b] := ⟨_, _, rfl, rfl, rfl⟩
  rw [lg_entry_eq]
  refine px_run (R := room_1) (l := l) (s0 := s) (d := 11) K ⟨State.WarmedH.refl s, Nat.le_refl _, fun _ _ => rfl⟩ (fun q h => h) (px_sound hl0 S0 11) (by decide) (by decide) (r := (some (some (.int 1)), w1, k1, z1)) hk hz [] ?_ ?_ ?_ n 0 (px_loc 173 [.retAddr 1]) [] [] 0 0 hgo rfl s.heap [] [] _ [] px_Ad.rf
    ⟨rfl, fun i e h => by simp at h, fun k q h => by simp at h, ⟨fun i j p q h => by simp at h, fun k q h => by simp at h⟩, va_S.rf⟩ (px_entry (n := 7) ha rfl (by decide)) rfl
  · intro pc lv st w k z H locs rw ls st' hfin hAd hG hL hn hSt
    unfold px_fin at hfin
    dsimp only at hfin
    split at hfin
    · rename_i hcd
      split at hfin
      · rename_i v0
        obtain ⟨_, r', rfl, rfl, rfl⟩ := hSt
        have hrt : px_rt 173 = some .boolean := rfl
        rw [hrt] at hfin
        dsimp only at hfin
        split at hfin
        · simp only [Option.some.injEq, Prod.mk.injEq, Value.int.injEq] at hfin
          obtain ⟨rfl, rfl, rfl, rfl⟩ := hfin
          refine va_forget (fun q hq => hG.2.2.2.2.2.2 q hq) ?_
          refine W.widen (k := 601024) (n := 7293000) hk hz ?_
          exact lw_ret hx hb hr hlocks (px_dec hcd (Nat.succ_ne_zero _))
        · cases hfin
      · cases hfin
    · split at hfin
      · have hrt : px_rt 173 = some .boolean := rfl
        rw [hrt] at hfin
        cases hfin
      · cases hfin
    · split at hfin
      · have hrt : px_rt 173 = some .boolean := rfl
        rw [hrt] at hfin
        cases hfin
      · cases hfin
    · cases hfin
  · intro pc H locs rw ls rest q ce hr0
    cases hr0
  · intro pc t hhd
    have h9 : px_hd 173 pc = none := rfl
    rw [h9] at hhd
    cases hhd
