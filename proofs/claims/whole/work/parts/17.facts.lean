/-! WHAT THE TABLES GIVE -/
theorem px_grd {α : Type} {o j : Nat} {t : Option α} {x : α} (h : (bif Nat.blt o 12 && Nat.blt j 280 then t else none) = some x) : o < 12 ∧ j < 280 := by
  cases hb : (Nat.blt o 12 && Nat.blt j 280) with
  | false => rw [hb] at h; cases h
  | true =>
    rw [Bool.and_eq_true] at hb
    exact ⟨Nat.le_of_ble_eq_true hb.1, Nat.le_of_ble_eq_true hb.2⟩
theorem px_grdb {o j : Nat} {t : Bool} (h : (bif Nat.blt o 12 && Nat.blt j 280 then t else false) = true) : o < 12 ∧ j < 280 := by
  cases hb : (Nat.blt o 12 && Nat.blt j 280) with
  | false => rw [hb] at h; cases h
  | true =>
    rw [Bool.and_eq_true] at hb
    exact ⟨Nat.le_of_ble_eq_true hb.1, Nat.le_of_ble_eq_true hb.2⟩
def px_ck (f : Nat → Nat → Bool) : Bool := (List.range 12).all fun o => (List.range 280).all fun j => f o j
theorem px_ckd {f : Nat → Nat → Bool} (h : px_ck f = true) {o j : Nat} (h1 : o < 12 ∧ j < 280) : f o j = true :=
  List.all_eq_true.mp (List.all_eq_true.mp h o (List.mem_range.mpr h1.1)) j (List.mem_range.mpr h1.2)
def px_gF (o j : Nat) : Bool := match px_flo o j with
  | some q => px_FL.contains (o, j, q.1, q.2)
  | none => true
def px_gN (o j : Nat) : Bool := match px_nwo o j with
  | some q => px_NL.contains (o, j, q)
  | none => true
def px_gK (o j : Nat) : Bool := match px_klo o j with
  | some q => px_KL.contains (o, j, q)
  | none => true
def px_gO (o j : Nat) : Bool := match px_oio o j with
  | true => px_OL.contains (o, j)
  | false => true
def px_gI (o j : Nat) : Bool := match px_iko o j with
  | some 0 => px_I0.contains (o, j)
  | some 1 => px_I1.contains (o, j)
  | some 2 => px_I2.contains (o, j)
  | _ => true
def px_gC (o j : Nat) : Bool := match px_lco o j with
  | some q => decide ((o, j, q) ∈ px_CL)
  | none => true
theorem px_ckF : px_ck px_gF = true := by decide +kernel
theorem px_ckN : px_ck px_gN = true := by decide +kernel
theorem px_ckK : px_ck px_gK = true := by decide +kernel
theorem px_ckO : px_ck px_gO = true := by decide +kernel
theorem px_ckI : px_ck px_gI = true := by decide +kernel
theorem px_ckC : px_ck px_gC = true := by decide +kernel
theorem px_flo_in {o j ci f : Nat} (h : px_flo o j = some (ci, f)) : (o, j, ci, f) ∈ px_FL := by
  have h1 := px_ckd px_ckF (px_grd (by unfold px_flo at h; exact h))
  unfold px_gF at h1
  rw [h] at h1
  simpa using h1
theorem px_nwo_in {o j ci : Nat} (h : px_nwo o j = some ci) : (o, j, ci) ∈ px_NL := by
  have h1 := px_ckd px_ckN (px_grd (by unfold px_nwo at h; exact h))
  unfold px_gN at h1
  rw [h] at h1
  simpa using h1
theorem px_klo_in {o j N : Nat} (h : px_klo o j = some N) : (o, j, N) ∈ px_KL := by
  have h1 := px_ckd px_ckK (px_grd (by unfold px_klo at h; exact h))
  unfold px_gK at h1
  rw [h] at h1
  simpa using h1
theorem px_oio_in {o j : Nat} (h : px_oio o j = true) : (o, j) ∈ px_OL := by
  have h1 := px_ckd px_ckO (px_grdb (by unfold px_oio at h; exact h))
  unfold px_gO at h1
  rw [h] at h1
  simpa using h1
theorem px_lco_in {o j : Nat} {v : Int32} (h : px_lco o j = some v) : (o, j, v) ∈ px_CL := by
  have h1 := px_ckd px_ckC (px_grd (by unfold px_lco at h; exact h))
  unfold px_gC at h1
  rw [h] at h1
  exact of_decide_eq_true h1
theorem px_iko_in0 {o j : Nat} (h : px_iko o j = some 0) : (o, j) ∈ px_I0 := by
  have h1 := px_ckd px_ckI (px_grd (by unfold px_iko at h; exact h))
  unfold px_gI at h1
  rw [h] at h1
  simpa using h1
theorem px_iko_in1 {o j : Nat} (h : px_iko o j = some 1) : (o, j) ∈ px_I1 := by
  have h1 := px_ckd px_ckI (px_grd (by unfold px_iko at h; exact h))
  unfold px_gI at h1
  rw [h] at h1
  simpa using h1
theorem px_iko_in2 {o j : Nat} (h : px_iko o j = some 2) : (o, j) ∈ px_I2 := by
  have h1 := px_ckd px_ckI (px_grd (by unfold px_iko at h; exact h))
  unfold px_gI at h1
  rw [h] at h1
  simpa using h1
/-- what a class of the tables gives -/
def px_CF (ci : Nat) (C : String) (T : u_T) (N : Nat) : Prop :=
  C = px_cn ci ∧ N = px_sz ci ∧ (∀ w ∈ u_ws C T N, w ∈ px_T) ∧ (∀ k, k < N → parseFieldDescriptor (T k).2.2.1 = some (px_ty ci k)) ∧ (∀ a, a < N → ∀ b, b < N → a ≠ b → (T a).2.1 ≠ (T b).2.1) ∧ (∀ k, k < N → (T k).1 = C ∧ (T k).2.2.2 = px_ff ci k) ∧ (∀ f, px_fT ci f = T f) ∧ (∀ j, j < N → defaultValue (px_ty ci j) = vp_V (px_df ci) j) ∧ (px_df ci).length = N ∧ (∀ v ∈ px_df ci, v = .int 0 ∨ v = .null)
theorem px_uws {C : String} {T : u_T} {N : Nat} (h : ((u_ws C T N).all fun w => decide (w ∈ lw_tbl) && goodWord w) = true) : ∀ w ∈ u_ws C T N, w ∈ px_T := by
  intro w hw
  have h1 := List.all_eq_true.mp h w hw
  simp only [Bool.and_eq_true, decide_eq_true_eq] at h1
  exact px_T_of h1.1 h1.2
theorem px_cf0 {C : String} {T : u_T} {N : Nat} (h : px_cls[0]? = some (C, T, N)) : px_CF 0 C T N := by
  cases h
  exact ⟨rfl, rfl, px_uws (by decide +kernel), by decide +kernel, by decide +kernel, by decide +kernel, fun _ => rfl, by decide +kernel, rfl, by decide +kernel⟩
theorem px_cf1 {C : String} {T : u_T} {N : Nat} (h : px_cls[1]? = some (C, T, N)) : px_CF 1 C T N := by
  cases h
  exact ⟨rfl, rfl, px_uws (by decide +kernel), by decide +kernel, by decide +kernel, by decide +kernel, fun _ => rfl, by decide +kernel, rfl, by decide +kernel⟩
theorem px_cf2 {C : String} {T : u_T} {N : Nat} (h : px_cls[2]? = some (C, T, N)) : px_CF 2 C T N := by
  cases h
  exact ⟨rfl, rfl, px_uws (by decide +kernel), by decide +kernel, by decide +kernel, by decide +kernel, fun _ => rfl, by decide +kernel, rfl, by decide +kernel⟩
theorem px_cf3 {C : String} {T : u_T} {N : Nat} (h : px_cls[3]? = some (C, T, N)) : px_CF 3 C T N := by
  cases h
  exact ⟨rfl, rfl, px_uws (by decide +kernel), by decide +kernel, by decide +kernel, by decide +kernel, fun _ => rfl, by decide +kernel, rfl, by decide +kernel⟩
theorem px_cf4 {C : String} {T : u_T} {N : Nat} (h : px_cls[4]? = some (C, T, N)) : px_CF 4 C T N := by
  cases h
  exact ⟨rfl, rfl, px_uws (by decide +kernel), by decide +kernel, by decide +kernel, by decide +kernel, fun _ => rfl, by decide +kernel, rfl, by decide +kernel⟩
theorem px_cf5 {C : String} {T : u_T} {N : Nat} (h : px_cls[5]? = some (C, T, N)) : px_CF 5 C T N := by
  cases h
  exact ⟨rfl, rfl, px_uws (by decide +kernel), by decide +kernel, by decide +kernel, by decide +kernel, fun _ => rfl, by decide +kernel, rfl, by decide +kernel⟩
theorem px_cf6 {C : String} {T : u_T} {N : Nat} (h : px_cls[6]? = some (C, T, N)) : px_CF 6 C T N := by
  cases h
  exact ⟨rfl, rfl, px_uws (by decide +kernel), by decide +kernel, by decide +kernel, by decide +kernel, fun _ => rfl, by decide +kernel, rfl, by decide +kernel⟩
theorem px_cf7 {C : String} {T : u_T} {N : Nat} (h : px_cls[7]? = some (C, T, N)) : px_CF 7 C T N := by
  cases h
  exact ⟨rfl, rfl, px_uws (by decide +kernel), by decide +kernel, by decide +kernel, by decide +kernel, fun _ => rfl, by decide +kernel, rfl, by decide +kernel⟩
theorem px_cf {ci : Nat} {C : String} {T : u_T} {N : Nat} (h : px_cls[ci]? = some (C, T, N)) : px_CF ci C T N := by
  match ci, h with
  | 0, h => exact px_cf0 h
  | 1, h => exact px_cf1 h
  | 2, h => exact px_cf2 h
  | 3, h => exact px_cf3 h
  | 4, h => exact px_cf4 h
  | 5, h => exact px_cf5 h
  | 6, h => exact px_cf6 h
  | 7, h => exact px_cf7 h
  | n + 8, h => simp [px_cls] at h
theorem px_cls_at {ci : Nat} (h : ci < 8) : ∃ C T N, px_cls[ci]? = some (C, T, N) := by
  have h1 : ci < px_cls.length := h
  exact ⟨_, _, _, List.getElem?_eq_getElem h1⟩
theorem px_in8 : ∀ q, q < 8 → q ∈ px_DN := by decide
theorem px_in12 : ∀ q, q < 12 → q ∈ px_DO := by decide
theorem px_FLs : (px_FL.all fun q => Nat.blt q.2.2.2 (px_sz q.2.2.1) && Nat.blt q.2.2.1 8) = true := by decide +kernel
theorem px_NLs : (px_NL.all fun q => Nat.blt q.2.2 8) = true := by decide +kernel
theorem px_fld {M j ci f : Nat} (h : px_fl M j = some (ci, f)) : ∃ (C : String) (T : u_T) (N : Nat), px_cls[ci]? = some (C, T, N) ∧ f < N ∧ (∀ w ∈ u_ws C T N, w ∈ px_T) ∧ Cond.fieldLink (px_own M) j (T f).1 (T f).2.1 (T f).2.2.1 ∈ px_T ∧ (∀ k, k < N → parseFieldDescriptor (T k).2.2.1 = some (px_ty ci k)) ∧ (∀ a, a < N → ∀ b, b < N → a ≠ b → (T a).2.1 ≠ (T b).2.1) ∧ ((T f).2.2.2 = true → px_pf M ci f = true → px_ini M = true ∧ (T f).1 = px_own M) := by
  have h1 := px_flo_in h
  have h2 := List.all_eq_true.mp px_FLs _ h1
  simp only [Bool.and_eq_true] at h2
  obtain ⟨C, T, N, h3⟩ := px_cls_at (Nat.le_of_ble_eq_true h2.2)
  obtain ⟨g1, g2, g3, g4, g5, g6, g7, -⟩ := px_cf h3
  have hf : f < N := by rw [g2]; exact Nat.le_of_ble_eq_true h2.1
  have h4 := px_FL_in h1
  dsimp only at h4
  rw [g7 f] at h4
  refine ⟨C, T, N, h3, hf, g3, px_T_of h4 rfl, g4, g5, fun hfin hpf => ?_⟩
  unfold px_pf at hpf
  rw [← (g6 f hf).2, hfin] at hpf
  simp only [Bool.not_true, Bool.false_or, Bool.and_eq_true] at hpf
  refine ⟨hpf.1, ?_⟩
  rw [(g6 f hf).1, g1, ← Nat.eq_of_beq_eq_true hpf.2]
  rfl
theorem px_nwd {M j ci : Nat} (h : px_nw M j = some ci) : ∃ (C : String) (T : u_T) (N : Nat), px_cls[ci]? = some (C, T, N) ∧ (∀ w ∈ u_ws C T N, w ∈ px_T) ∧ Cond.classLink (px_own M) j C ∈ px_T ∧ Cond.instantiable C N ∈ px_T ∧ Cond.initialized C ∈ px_T ∧ (∀ k, k < N → parseFieldDescriptor (T k).2.2.1 = some (px_ty ci k)) ∧ (∀ j, j < N → defaultValue (px_ty ci j) = vp_V (px_df ci) j) ∧ px_sz ci = N ∧ (∀ v ∈ px_df ci, v = .int 0 ∨ v = .null) := by
  have h1 := px_nwo_in h
  have h2 := List.all_eq_true.mp px_NLs _ h1
  have h2 : ci < 8 := Nat.le_of_ble_eq_true h2
  obtain ⟨C, T, N, h3⟩ := px_cls_at h2
  obtain ⟨g1, g2, g3, g4, g5, g6, g7, g8, g9, g10⟩ := px_cf h3
  refine ⟨C, T, N, h3, g3, ?_, ?_, ?_, g4, g8, g2.symm, g10⟩
  · rw [g1]; exact px_T_of (px_NL_in h1) rfl
  · rw [g1, g2]; exact px_T_of (px_DN_in (px_in8 ci h2)) rfl
  · rw [g1]; exact px_T_of (px_DO_in (px_in12 ci (by omega))) rfl
theorem px_oid {M j : Nat} (h : px_oi M j = true) : Cond.methodLink (px_own M) j Lib.objectInit ∈ px_T ∧ Cond.instanceMethod Lib.objectInit ∈ px_T ∧ Cond.code Lib.objectInit ⟨#[0xb1]⟩ 1 none ∈ px_T :=
  ⟨px_T_of (px_OL_in (px_oio_in h)) rfl, px_w1, px_w2⟩
theorem px_lcd {M j : Nat} {v : Int32} (h : px_lc M j = some v) : Cond.constant (px_own M) j v ∈ px_T := px_T_of (px_CL_in (px_lco_in h)) rfl
theorem px_ikd0 {M j : Nat} (h : px_ik M j = some 0) : Cond.methodLink (px_own M) j Lib.Math.max.name ∈ px_T ∧ Cond.static Lib.Math.max.name ∈ px_T ∧ Cond.initialized "java/lang/Math" ∈ px_T ∧ Cond.code Lib.Math.max.name Lib.Math.max.code 2 (some .int) ∈ px_T :=
  ⟨px_T_of (px_I0_in (px_iko_in0 h)) rfl, px_w3, px_w5, px_w6⟩
theorem px_ikd1 {M j : Nat} (h : px_ik M j = some 1) : Cond.methodLink (px_own M) j Lib.Math.min.name ∈ px_T ∧ Cond.static Lib.Math.min.name ∈ px_T ∧ Cond.initialized "java/lang/Math" ∈ px_T ∧ Cond.code Lib.Math.min.name Lib.Math.min.code 2 (some .int) ∈ px_T :=
  ⟨px_T_of (px_I1_in (px_iko_in1 h)) rfl, px_w4, px_w5, px_w7⟩
theorem px_ikd2 {M j : Nat} (h : px_ik M j = some 2) : Cond.methodLink (px_own M) j arraycopyName ∈ px_T ∧ Cond.native arraycopyName ∈ px_T ∧ Cond.static arraycopyName ∈ px_T ∧ Cond.initialized "java/lang/System" ∈ px_T :=
  ⟨px_T_of (px_I2_in (px_iko_in2 h)) rfl, px_w8, px_w9, px_w10⟩
/-- what a method of the tables gives -/
def px_mok (N : Nat) : Bool :=
  decide ((px_y N).cls = px_cn (px_ow N)) && decide ((px_y N).cls ≠ "java/lang/invoke/MethodHandle") && decide ((px_y N).cls ≠ "java/lang/invoke/VarHandle") && decide ((parseMethodDescriptor (px_y N).desc).map (fun d => d.parameters.length) = some (px_pn N)) && plainFor (px_y N) && Nat.ble (px_ml N) 9 && Nat.ble (px_ar N) (px_ml N) && Nat.blt (px_ow N) 12 &&
  (match px_kd N with
    | 0 => Nat.beq (px_ar N) (px_pn N + 1) && px_DC.contains N && px_DI.contains N && px_DS.contains N && Nat.blt (px_ow N) 8
    | 1 => Nat.beq (px_ar N) (px_pn N) && px_DC.contains N && px_DT.contains N
    | 2 => Nat.beq (px_ar N) (px_pn N + 1) && px_DC.contains N && px_DI.contains N && decide ((px_y N).name = "<init>") && decide (px_rt N = none)
    | 3 => Nat.beq (px_ar N) (px_pn N) && px_DW.contains N && px_DT.contains N
    | _ => false)
theorem px_moks : ((List.range 173).all px_mok) = true := by decide +kernel
theorem px_KLs : (px_KL.all fun q => Nat.blt q.2.2 173) = true := by decide +kernel
theorem px_mokd {N : Nat} (h : N < 173) : px_mok N = true := List.all_eq_true.mp px_moks N (List.mem_range.mpr h)
/-- a method, as a callee -/
def px_MF (N : Nat) : Prop :=
  N < 173 ∧ Cond.initialized (px_y N).cls ∈ px_T ∧ (px_kd N ≠ 3 → Cond.code (px_y N) (px_b N) (px_ml N) (px_rt N) ∈ px_T) ∧ (px_kd N = 3 → Cond.codeWith (px_y N) (px_b N) (px_ml N) (px_rt N) (px_hh N) ∈ px_T) ∧
  ((px_y N).cls ≠ "java/lang/invoke/MethodHandle" ∧ (px_y N).cls ≠ "java/lang/invoke/VarHandle" ∧ (parseMethodDescriptor (px_y N).desc).map (fun d => d.parameters.length) = some (px_pn N)) ∧ plainFor (px_y N) = true ∧ px_ml N ≤ 9 ∧ px_ar N ≤ px_ml N ∧ (px_y N).cls = px_own N ∧
  (px_kd N = 0 → px_ar N = px_pn N + 1 ∧ Cond.instanceMethod (px_y N) ∈ px_T ∧ Cond.selects (px_y N).cls (px_y N) (px_y N) ∈ px_T ∧ ∃ (T : u_T) (K : Nat), px_cls[px_on N]? = some ((px_y N).cls, T, K)) ∧
  (px_kd N = 1 ∨ px_kd N = 3 → px_ar N = px_pn N ∧ Cond.static (px_y N) ∈ px_T) ∧
  (px_kd N = 2 → px_ar N = px_pn N + 1 ∧ (px_y N).name = "<init>" ∧ Cond.instanceMethod (px_y N) ∈ px_T ∧ px_rt N = none) ∧ px_kd N ≤ 3
theorem px_mfd {N : Nat} (hN : N < 173) : px_MF N := by
  have h := px_mokd hN
  unfold px_mok at h
  simp only [Bool.and_eq_true, decide_eq_true_eq] at h
  obtain ⟨⟨⟨⟨⟨⟨⟨⟨h1, h2⟩, h3⟩, h4⟩, h5⟩, h6⟩, h7⟩, h8⟩, h9⟩ := h
  have hini : Cond.initialized (px_y N).cls ∈ px_T := by
    rw [h1]
    exact px_T_of (px_DO_in (px_in12 _ (Nat.le_of_ble_eq_true h8))) rfl
  have h6 := Nat.le_of_ble_eq_true h6
  have h7 := Nat.le_of_ble_eq_true h7
  match hk : px_kd N, h9 with
  | 0, h9 =>
    simp only [Bool.and_eq_true] at h9
    obtain ⟨⟨⟨⟨g1, g2⟩, g3⟩, g4⟩, g5⟩ := h9
    obtain ⟨C, T, K, h10⟩ := px_cls_at (Nat.le_of_ble_eq_true g5)
    refine ⟨hN, hini, fun _ => px_T_of (px_DC_in (by simpa using g2)) rfl, fun q => absurd (hk.symm.trans q) (by decide), ⟨h2, h3, h4⟩, h5, h6, h7, h1, fun _ => ⟨Nat.eq_of_beq_eq_true g1, px_T_of (px_DI_in (by simpa using g3)) rfl, px_T_of (px_DS_in (by simpa using g4)) rfl, T, K, ?_⟩, fun q => absurd q (by rw [hk]; decide), fun q => absurd (hk.symm.trans q) (by decide), by rw [hk]; decide⟩
    rw [h1, ← (px_cf h10).1]
    exact h10
  | 1, h9 =>
    simp only [Bool.and_eq_true] at h9
    obtain ⟨⟨g1, g2⟩, g3⟩ := h9
    exact ⟨hN, hini, fun _ => px_T_of (px_DC_in (by simpa using g2)) rfl, fun q => absurd (hk.symm.trans q) (by decide), ⟨h2, h3, h4⟩, h5, h6, h7, h1, fun q => absurd (hk.symm.trans q) (by decide), fun _ => ⟨Nat.eq_of_beq_eq_true g1, px_T_of (px_DT_in (by simpa using g3)) rfl⟩, fun q => absurd (hk.symm.trans q) (by decide), by rw [hk]; decide⟩
  | 2, h9 =>
    simp only [Bool.and_eq_true, decide_eq_true_eq] at h9
    obtain ⟨⟨⟨⟨g1, g2⟩, g3⟩, g4⟩, g5⟩ := h9
    exact ⟨hN, hini, fun _ => px_T_of (px_DC_in (by simpa using g2)) rfl, fun q => absurd (hk.symm.trans q) (by decide), ⟨h2, h3, h4⟩, h5, h6, h7, h1, fun q => absurd (hk.symm.trans q) (by decide), fun q => absurd q (by rw [hk]; decide), fun _ => ⟨Nat.eq_of_beq_eq_true g1, g4, px_T_of (px_DI_in (by simpa using g3)) rfl, g5⟩, by rw [hk]; decide⟩
  | 3, h9 =>
    simp only [Bool.and_eq_true] at h9
    obtain ⟨⟨g1, g2⟩, g3⟩ := h9
    exact ⟨hN, hini, fun q => absurd hk q, fun _ => px_T_of (px_DW_in (by simpa using g2)) rfl, ⟨h2, h3, h4⟩, h5, h6, h7, h1, fun q => absurd (hk.symm.trans q) (by decide), fun _ => ⟨Nat.eq_of_beq_eq_true g1, px_T_of (px_DT_in (by simpa using g3)) rfl⟩, fun q => absurd (hk.symm.trans q) (by decide), by rw [hk]; decide⟩
  | n + 4, h9 => cases h9
theorem px_kld {M j N : Nat} (h : px_kl M j = some N) : Cond.methodLink (px_own M) j (px_y N) ∈ px_T ∧ px_MF N := by
  have h1 := px_klo_in h
  have h2 := List.all_eq_true.mp px_KLs _ h1
  exact ⟨px_T_of (px_KL_in h1) rfl, px_mfd (Nat.le_of_ble_eq_true h2)⟩
theorem px_arr0 : Cond.arrayClass (newarray.typeOf .int) ∈ px_T := px_w11
theorem px_arr1 : Cond.arrayClass (newarray.typeOf .boolean) ∈ px_T := px_w12
theorem px_arr2 : Cond.arrayClass (newarray.typeOf .long) ∈ px_T := px_w13
theorem px_cpr : 8 + (nativeFrameWords "java/lang/System" "arraycopy" 5 + 11) ≤ 60 := by decide +kernel
