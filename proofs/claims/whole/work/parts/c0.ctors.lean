/-! THE CONSTRUCTORS (wip/whole/gen/mkc0.py) -/
theorem k_fill {X : Nat × (Nat → Int32)} {d : Nat} {x0 x1 x2 : px_E} : px_ev X (d + 1) 171 [.ref 3, .int (nI 1)] [x0, x1, x2, .inl (0, 6, fun q => nI ((fun _ => 0) q))] (some none, [x0, x1, x2, .inl (0, 6, fun q => nI ((un (un (un (un (un (un (fun _ => 0) 0 1) 1 1) 2 1) 3 1) 4 1) 5 1) q))], 0, 0) := by
  refine wp_ev (d := d + 0) (by decide) rfl rfl (fun h => by cases h) ?_
  show wp X (d + 0) 171 (0, [.ref 3, .int (nI 1), .retAddr 0, .retAddr 0], [], [x0, x1, x2, .inl (0, 6, fun q => nI ((fun _ => 0) q))], 0, 0) _
  refine wz_iconst (x := nI 0) (p9 := 1) rfl rfl (by decide) ?_
  refine wz_istore_n (l9 := [.ref 3, .int (nI 1), .int (nI 0), .retAddr 0]) (p9 := 2) rfl rfl rfl rfl ?_
  refine wz_aload_n (p9 := 3) rfl rfl rfl ?_
  refine wz_alen (t := 0) (v := nI 6) (p9 := 4) rfl rfl rfl rfl ?_
  refine wz_istore_n (l9 := [.ref 3, .int (nI 1), .int (nI 0), .int (nI 6)]) (p9 := 5) rfl rfl rfl rfl ?_
  refine wz_iload_n (p9 := 6) rfl rfl rfl ?_
  refine wz_iload_n (p9 := 7) rfl rfl rfl ?_
  refine wn_icge (t9 := 20) (p9 := 10) rfl rfl rfl (by omega) (by omega) (fun h9 => by omega) (fun _ => ?_)
  refine wz_aload_n (p9 := 11) rfl rfl rfl ?_
  refine wz_iload_n (p9 := 12) rfl rfl rfl ?_
  refine wz_iload_n (p9 := 13) rfl rfl rfl ?_
  refine wz_iast (p9 := 14) (f := fun q => nI ((fun _ => 0) q)) (w1 := [x0, x1, x2, .inl (0, 6, fun q => nI ((un (fun _ => 0) 0 1) q))]) rfl rfl rfl (q_in (by omega) (by decide)) (by rw [q_c (show 0 < 2147483648 by omega), q_un]; rfl) ?_
  refine wn_inc (b := 1) (l9 := [.ref 3, .int (nI 1), .int (nI 1), .int (nI 6)]) (p9 := 17) rfl rfl rfl (by decide) rfl ?_
  refine wz_goto (p9 := 5) rfl rfl ?_
  refine wz_iload_n (p9 := 6) rfl rfl rfl ?_
  refine wz_iload_n (p9 := 7) rfl rfl rfl ?_
  refine wn_icge (t9 := 20) (p9 := 10) rfl rfl rfl (by omega) (by omega) (fun h9 => by omega) (fun _ => ?_)
  refine wz_aload_n (p9 := 11) rfl rfl rfl ?_
  refine wz_iload_n (p9 := 12) rfl rfl rfl ?_
  refine wz_iload_n (p9 := 13) rfl rfl rfl ?_
  refine wz_iast (p9 := 14) (f := fun q => nI ((un (fun _ => 0) 0 1) q)) (w1 := [x0, x1, x2, .inl (0, 6, fun q => nI ((un (un (fun _ => 0) 0 1) 1 1) q))]) rfl rfl rfl (q_in (by omega) (by decide)) (by rw [q_c (show 1 < 2147483648 by omega), q_un]; rfl) ?_
  refine wn_inc (b := 1) (l9 := [.ref 3, .int (nI 1), .int (nI 2), .int (nI 6)]) (p9 := 17) rfl rfl rfl (by decide) rfl ?_
  refine wz_goto (p9 := 5) rfl rfl ?_
  refine wz_iload_n (p9 := 6) rfl rfl rfl ?_
  refine wz_iload_n (p9 := 7) rfl rfl rfl ?_
  refine wn_icge (t9 := 20) (p9 := 10) rfl rfl rfl (by omega) (by omega) (fun h9 => by omega) (fun _ => ?_)
  refine wz_aload_n (p9 := 11) rfl rfl rfl ?_
  refine wz_iload_n (p9 := 12) rfl rfl rfl ?_
  refine wz_iload_n (p9 := 13) rfl rfl rfl ?_
  refine wz_iast (p9 := 14) (f := fun q => nI ((un (un (fun _ => 0) 0 1) 1 1) q)) (w1 := [x0, x1, x2, .inl (0, 6, fun q => nI ((un (un (un (fun _ => 0) 0 1) 1 1) 2 1) q))]) rfl rfl rfl (q_in (by omega) (by decide)) (by rw [q_c (show 2 < 2147483648 by omega), q_un]; rfl) ?_
  refine wn_inc (b := 1) (l9 := [.ref 3, .int (nI 1), .int (nI 3), .int (nI 6)]) (p9 := 17) rfl rfl rfl (by decide) rfl ?_
  refine wz_goto (p9 := 5) rfl rfl ?_
  refine wz_iload_n (p9 := 6) rfl rfl rfl ?_
  refine wz_iload_n (p9 := 7) rfl rfl rfl ?_
  refine wn_icge (t9 := 20) (p9 := 10) rfl rfl rfl (by omega) (by omega) (fun h9 => by omega) (fun _ => ?_)
  refine wz_aload_n (p9 := 11) rfl rfl rfl ?_
  refine wz_iload_n (p9 := 12) rfl rfl rfl ?_
  refine wz_iload_n (p9 := 13) rfl rfl rfl ?_
  refine wz_iast (p9 := 14) (f := fun q => nI ((un (un (un (fun _ => 0) 0 1) 1 1) 2 1) q)) (w1 := [x0, x1, x2, .inl (0, 6, fun q => nI ((un (un (un (un (fun _ => 0) 0 1) 1 1) 2 1) 3 1) q))]) rfl rfl rfl (q_in (by omega) (by decide)) (by rw [q_c (show 3 < 2147483648 by omega), q_un]; rfl) ?_
  refine wn_inc (b := 1) (l9 := [.ref 3, .int (nI 1), .int (nI 4), .int (nI 6)]) (p9 := 17) rfl rfl rfl (by decide) rfl ?_
  refine wz_goto (p9 := 5) rfl rfl ?_
  refine wz_iload_n (p9 := 6) rfl rfl rfl ?_
  refine wz_iload_n (p9 := 7) rfl rfl rfl ?_
  refine wn_icge (t9 := 20) (p9 := 10) rfl rfl rfl (by omega) (by omega) (fun h9 => by omega) (fun _ => ?_)
  refine wz_aload_n (p9 := 11) rfl rfl rfl ?_
  refine wz_iload_n (p9 := 12) rfl rfl rfl ?_
  refine wz_iload_n (p9 := 13) rfl rfl rfl ?_
  refine wz_iast (p9 := 14) (f := fun q => nI ((un (un (un (un (fun _ => 0) 0 1) 1 1) 2 1) 3 1) q)) (w1 := [x0, x1, x2, .inl (0, 6, fun q => nI ((un (un (un (un (un (fun _ => 0) 0 1) 1 1) 2 1) 3 1) 4 1) q))]) rfl rfl rfl (q_in (by omega) (by decide)) (by rw [q_c (show 4 < 2147483648 by omega), q_un]; rfl) ?_
  refine wn_inc (b := 1) (l9 := [.ref 3, .int (nI 1), .int (nI 5), .int (nI 6)]) (p9 := 17) rfl rfl rfl (by decide) rfl ?_
  refine wz_goto (p9 := 5) rfl rfl ?_
  refine wz_iload_n (p9 := 6) rfl rfl rfl ?_
  refine wz_iload_n (p9 := 7) rfl rfl rfl ?_
  refine wn_icge (t9 := 20) (p9 := 10) rfl rfl rfl (by omega) (by omega) (fun h9 => by omega) (fun _ => ?_)
  refine wz_aload_n (p9 := 11) rfl rfl rfl ?_
  refine wz_iload_n (p9 := 12) rfl rfl rfl ?_
  refine wz_iload_n (p9 := 13) rfl rfl rfl ?_
  refine wz_iast (p9 := 14) (f := fun q => nI ((un (un (un (un (un (fun _ => 0) 0 1) 1 1) 2 1) 3 1) 4 1) q)) (w1 := [x0, x1, x2, .inl (0, 6, fun q => nI ((un (un (un (un (un (un (fun _ => 0) 0 1) 1 1) 2 1) 3 1) 4 1) 5 1) q))]) rfl rfl rfl (q_in (by omega) (by decide)) (by rw [q_c (show 5 < 2147483648 by omega), q_un]; rfl) ?_
  refine wn_inc (b := 1) (l9 := [.ref 3, .int (nI 1), .int (nI 6), .int (nI 6)]) (p9 := 17) rfl rfl rfl (by decide) rfl ?_
  refine wz_goto (p9 := 5) rfl rfl ?_
  refine wz_iload_n (p9 := 6) rfl rfl rfl ?_
  refine wz_iload_n (p9 := 7) rfl rfl rfl ?_
  refine wn_icge (t9 := 20) (p9 := 10) rfl rfl rfl (by omega) (by omega) (fun _ => ?_) (fun h9 => by omega)
  exact wz_retv rfl rfl rfl
theorem l_turns {X : Nat × (Nat → Int32)} {d : Nat} {x0 : px_E} {P Mv k z : Nat} {Q : px_Z → Prop} (kk : wp X d 0 (57, [.ref 1, .int (nI P), .int (nI Mv), .int (nI 42)], [], [x0, .inr (.inr (0, [.int (nI P), .int (nI Mv), .ref 2, .ref 3])), .inl (0, 42, fun q => nI ((cz (fun q => q % 7) (fun _ => 0) 42) q)), .inl (0, 6, fun q => nI ((fun _ => 0) q))], k, z) Q) : ∀ (j i : Nat), i + j = 42 → wp X d 0 (32, [.ref 1, .int (nI P), .int (nI Mv), .int (nI i)], [], [x0, .inr (.inr (0, [.int (nI P), .int (nI Mv), .ref 2, .ref 3])), .inl (0, 42, fun q => nI ((cz (fun q => q % 7) (fun _ => 0) i) q)), .inl (0, 6, fun q => nI ((fun _ => 0) q))], k, z) Q
  | 0, i, hj => by
    obtain rfl : i = 42 := by omega
    refine wz_iload_n (p9 := 33) rfl rfl rfl ?_
    refine wz_aload_n (p9 := 34) rfl rfl rfl ?_
    refine wz_get (v := .ref 2) (p9 := 37) rfl rfl rfl rfl rfl ?_
    refine wz_alen (t := 0) (v := nI 42) (p9 := 38) rfl rfl rfl rfl ?_
    refine wn_icge (t9 := 57) (p9 := 41) rfl rfl rfl (by omega) (by omega) (fun _ => ?_) (fun h9 => by omega)
    exact kk
  | j + 1, i, hj => by
    refine wz_iload_n (p9 := 33) rfl rfl rfl ?_
    refine wz_aload_n (p9 := 34) rfl rfl rfl ?_
    refine wz_get (v := .ref 2) (p9 := 37) rfl rfl rfl rfl rfl ?_
    refine wz_alen (t := 0) (v := nI 42) (p9 := 38) rfl rfl rfl rfl ?_
    refine wn_icge (t9 := 57) (p9 := 41) rfl rfl rfl (by omega) (by omega) (fun h9 => by omega) (fun _ => ?_)
    refine wz_aload_n (p9 := 42) rfl rfl rfl ?_
    refine wz_get (v := .ref 2) (p9 := 45) rfl rfl rfl rfl rfl ?_
    refine wz_iload_n (p9 := 46) rfl rfl rfl ?_
    refine wz_iload_n (p9 := 47) rfl rfl rfl ?_
    refine wz_bipush (x := nI 7) (p9 := 49) rfl rfl (by decide) ?_
    refine wn_rem (p9 := 50) rfl rfl (by omega) (by omega) (by omega) ?_
    refine wz_iast (p9 := 51) (f := fun q => nI ((cz (fun q => q % 7) (fun _ => 0) i) q)) (w1 := [x0, .inr (.inr (0, [.int (nI P), .int (nI Mv), .ref 2, .ref 3])), .inl (0, 42, fun q => nI ((un (cz (fun q => q % 7) (fun _ => 0) i) i (i % 7)) q)), .inl (0, 6, fun q => nI ((fun _ => 0) q))]) rfl rfl rfl (q_in (by omega) (by decide)) (by rw [q_c (show i < 2147483648 by omega), q_un]; rfl) ?_
    refine wn_inc (b := 1) (l9 := [.ref 1, .int (nI P), .int (nI Mv), .int (nI (i + 1))]) (p9 := 54) rfl rfl rfl (by decide) rfl ?_
    refine wz_goto (p9 := 32) rfl rfl ?_
    rw [show un (cz (fun q => q % 7) (fun _ => 0) i) i (i % 7) = cz (fun q => q % 7) (fun _ => 0) (i + 1) from cz_s (f := (fun q => q % 7))]
    exact l_turns kk j (i + 1) (by omega)
theorem k_turns {X : Nat × (Nat → Int32)} {d : Nat} {x0 : px_E} {P Mv : Nat} : px_ev X (d + 2) 0 [.ref 1, .int (nI P), .int (nI Mv)] [x0, .inr (.inr (0, [.int (nI 0), .int (nI 0), .null, .null]))] (some none, [x0, .inr (.inr (0, [.int (nI P), .int (nI Mv), .ref 2, .ref 3])), .inl (0, 42, fun q => nI ((cz (fun q => q % 7) (fun _ => 0) 42) q)), .inl (0, 6, fun q => nI ((un (un (un (un (un (un (fun _ => 0) 0 1) 1 1) 2 1) 3 1) 4 1) 5 1) q))], 0 + 1 + 1, 0 + 42 + 6) := by
  refine wp_ev (d := d + 1) (by decide) rfl rfl (fun h => by cases h) ?_
  show wp X (d + 1) 0 (0, [.ref 1, .int (nI P), .int (nI Mv), .retAddr 0], [], [x0, .inr (.inr (0, [.int (nI 0), .int (nI 0), .null, .null]))], 0, 0) _
  refine wz_aload_n (p9 := 1) rfl rfl rfl ?_
  refine wz_oinit (p9 := 4) rfl rfl rfl rfl ?_
  refine wz_aload_n (p9 := 5) rfl rfl rfl ?_
  refine wz_iload_n (p9 := 6) rfl rfl rfl ?_
  refine wz_put (p9 := 9) (w1 := [x0, .inr (.inr (0, [.int (nI P), .int (nI 0), .null, .null]))]) rfl rfl rfl rfl rfl rfl rfl rfl ?_
  refine wz_aload_n (p9 := 10) rfl rfl rfl ?_
  refine wz_iload_n (p9 := 11) rfl rfl rfl ?_
  refine wz_put (p9 := 14) (w1 := [x0, .inr (.inr (0, [.int (nI P), .int (nI Mv), .null, .null]))]) rfl rfl rfl rfl rfl rfl rfl rfl ?_
  refine wz_aload_n (p9 := 15) rfl rfl rfl ?_
  refine wz_bipush (x := nI 42) (p9 := 17) rfl rfl (by decide) ?_
  refine wz_newa (n := 2) (x := 42) (p9 := 19) rfl rfl (by decide) rfl ?_
  show wp X (d + 1) 0 (19, [.ref 1, .int (nI P), .int (nI Mv), .retAddr 0], [.ref 2, .ref 1], [x0, .inr (.inr (0, [.int (nI P), .int (nI Mv), .null, .null])), .inl (0, 42, fun q => nI ((fun _ => 0) q))], 0 + 1, 0 + 42) _
  refine wz_put (p9 := 22) (w1 := [x0, .inr (.inr (0, [.int (nI P), .int (nI Mv), .ref 2, .null])), .inl (0, 42, fun q => nI ((fun _ => 0) q))]) rfl rfl rfl rfl rfl rfl rfl rfl ?_
  refine wz_aload_n (p9 := 23) rfl rfl rfl ?_
  refine wz_bipush (x := nI 6) (p9 := 25) rfl rfl (by decide) ?_
  refine wz_newa (n := 3) (x := 6) (p9 := 27) rfl rfl (by decide) rfl ?_
  show wp X (d + 1) 0 (27, [.ref 1, .int (nI P), .int (nI Mv), .retAddr 0], [.ref 3, .ref 1], [x0, .inr (.inr (0, [.int (nI P), .int (nI Mv), .ref 2, .null])), .inl (0, 42, fun q => nI ((fun _ => 0) q)), .inl (0, 6, fun q => nI ((fun _ => 0) q))], 0 + 1 + 1, 0 + 42 + 6) _
  refine wz_put (p9 := 30) (w1 := [x0, .inr (.inr (0, [.int (nI P), .int (nI Mv), .ref 2, .ref 3])), .inl (0, 42, fun q => nI ((fun _ => 0) q)), .inl (0, 6, fun q => nI ((fun _ => 0) q))]) rfl rfl rfl rfl rfl rfl rfl rfl ?_
  refine wz_iconst (x := nI 0) (p9 := 31) rfl rfl (by decide) ?_
  refine wz_istore_n (l9 := [.ref 1, .int (nI P), .int (nI Mv), .int (nI 0)]) (p9 := 32) rfl rfl rfl rfl ?_
  have h9 := l_turns (X := X) (d := d + 1) (x0 := x0) (P := P) (Mv := Mv) (k := 0 + 1 + 1) (z := 0 + 42 + 6) (Q := fun q => q = (some none, [x0, .inr (.inr (0, [.int (nI P), .int (nI Mv), .ref 2, .ref 3])), .inl (0, 42, fun q => nI ((cz (fun q => q % 7) (fun _ => 0) 42) q)), .inl (0, 6, fun q => nI ((un (un (un (un (un (un (fun _ => 0) 0 1) 1 1) 2 1) 3 1) 4 1) 5 1) q))], 0 + 1 + 1, 0 + 42 + 6)) ?_ 42 0 rfl
  · rw [cz_0] at h9
    exact h9
  · skip
    refine wz_aload_n (p9 := 58) rfl rfl rfl ?_
    refine wz_get (v := .ref 3) (p9 := 61) rfl rfl rfl rfl rfl ?_
    refine wz_iconst (x := nI 1) (p9 := 62) rfl rfl (by decide) ?_
    refine wz_ck (p9 := 65) (w1 := [x0, .inr (.inr (0, [.int (nI P), .int (nI Mv), .ref 2, .ref 3])), .inl (0, 42, fun q => nI ((cz (fun q => q % 7) (fun _ => 0) 42) q)), .inl (0, 6, fun q => nI ((un (un (un (un (un (un (fun _ => 0) 0 1) 1 1) 2 1) 3 1) 4 1) 5 1) q))]) (k1 := 0) (z1 := 0) (tz_calS (N := 171) (As := [.ref 3, .int (nI 1)]) (rest := []) rfl rfl rfl rfl rfl rfl) rfl ((k_fill (d := 0)).up (by omega)) ?_
    exact wz_retv rfl rfl rfl
theorem k_reader {X : Nat × (Nat → Int32)} {d : Nat} {x0 x1 x2 x3 : px_E} : px_ev X (d + 1) 11 [.ref 4, .ref 1] [x0, x1, x2, x3, .inr (.inr (1, [.null, .null, .int (nI 0), .null, .null, .null, .int (nI 0), .null, .int (nI 0), .int (nI 0), .int (nI 0), .int (nI 0), .int (nI 0)]))] (some none, [x0, x1, x2, x3, .inr (.inr (1, [.ref 1, .ref 5, .int (nI 0), .ref 6, .ref 7, .ref 8, .int (nI 0), .ref 9, .int (nI 0), .int (nI 0), .int (nI 0), .int (nI 0), .int (nI 0)])), .inl (0, 100, fun q => nI ((fun _ => 0) q)), .inl (0, 8, fun q => nI ((fun _ => 0) q)), .inl (0, 8, fun q => nI ((fun _ => 0) q)), .inl (0, 8, fun q => nI ((fun _ => 0) q)), .inl (0, 400, fun q => nI ((fun _ => 0) q))], 0 + 1 + 1 + 1 + 1 + 1, 0 + 100 + 8 + 8 + 8 + 400) := by
  refine wp_ev (d := d + 0) (by decide) rfl rfl (fun h => by cases h) ?_
  show wp X (d + 0) 11 (0, [.ref 4, .ref 1], [], [x0, x1, x2, x3, .inr (.inr (1, [.null, .null, .int (nI 0), .null, .null, .null, .int (nI 0), .null, .int (nI 0), .int (nI 0), .int (nI 0), .int (nI 0), .int (nI 0)]))], 0, 0) _
  refine wz_aload_n (p9 := 1) rfl rfl rfl ?_
  refine wz_oinit (p9 := 4) rfl rfl rfl rfl ?_
  refine wz_aload_n (p9 := 5) rfl rfl rfl ?_
  refine wz_aload_n (p9 := 6) rfl rfl rfl ?_
  refine wz_put (p9 := 9) (w1 := [x0, x1, x2, x3, .inr (.inr (1, [.ref 1, .null, .int (nI 0), .null, .null, .null, .int (nI 0), .null, .int (nI 0), .int (nI 0), .int (nI 0), .int (nI 0), .int (nI 0)]))]) rfl rfl rfl rfl rfl rfl rfl rfl ?_
  refine wz_aload_n (p9 := 10) rfl rfl rfl ?_
  refine wz_bipush (x := nI 100) (p9 := 12) rfl rfl (by decide) ?_
  refine wz_newa (n := 5) (x := 100) (p9 := 14) rfl rfl (by decide) rfl ?_
  show wp X (d + 0) 11 (14, [.ref 4, .ref 1], [.ref 5, .ref 4], [x0, x1, x2, x3, .inr (.inr (1, [.ref 1, .null, .int (nI 0), .null, .null, .null, .int (nI 0), .null, .int (nI 0), .int (nI 0), .int (nI 0), .int (nI 0), .int (nI 0)])), .inl (0, 100, fun q => nI ((fun _ => 0) q))], 0 + 1, 0 + 100) _
  refine wz_put (p9 := 17) (w1 := [x0, x1, x2, x3, .inr (.inr (1, [.ref 1, .ref 5, .int (nI 0), .null, .null, .null, .int (nI 0), .null, .int (nI 0), .int (nI 0), .int (nI 0), .int (nI 0), .int (nI 0)])), .inl (0, 100, fun q => nI ((fun _ => 0) q))]) rfl rfl rfl rfl rfl rfl rfl rfl ?_
  refine wz_aload_n (p9 := 18) rfl rfl rfl ?_
  refine wz_bipush (x := nI 8) (p9 := 20) rfl rfl (by decide) ?_
  refine wz_newa (n := 6) (x := 8) (p9 := 22) rfl rfl (by decide) rfl ?_
  show wp X (d + 0) 11 (22, [.ref 4, .ref 1], [.ref 6, .ref 4], [x0, x1, x2, x3, .inr (.inr (1, [.ref 1, .ref 5, .int (nI 0), .null, .null, .null, .int (nI 0), .null, .int (nI 0), .int (nI 0), .int (nI 0), .int (nI 0), .int (nI 0)])), .inl (0, 100, fun q => nI ((fun _ => 0) q)), .inl (0, 8, fun q => nI ((fun _ => 0) q))], 0 + 1 + 1, 0 + 100 + 8) _
  refine wz_put (p9 := 25) (w1 := [x0, x1, x2, x3, .inr (.inr (1, [.ref 1, .ref 5, .int (nI 0), .ref 6, .null, .null, .int (nI 0), .null, .int (nI 0), .int (nI 0), .int (nI 0), .int (nI 0), .int (nI 0)])), .inl (0, 100, fun q => nI ((fun _ => 0) q)), .inl (0, 8, fun q => nI ((fun _ => 0) q))]) rfl rfl rfl rfl rfl rfl rfl rfl ?_
  refine wz_aload_n (p9 := 26) rfl rfl rfl ?_
  refine wz_bipush (x := nI 8) (p9 := 28) rfl rfl (by decide) ?_
  refine wz_newa (n := 7) (x := 8) (p9 := 30) rfl rfl (by decide) rfl ?_
  show wp X (d + 0) 11 (30, [.ref 4, .ref 1], [.ref 7, .ref 4], [x0, x1, x2, x3, .inr (.inr (1, [.ref 1, .ref 5, .int (nI 0), .ref 6, .null, .null, .int (nI 0), .null, .int (nI 0), .int (nI 0), .int (nI 0), .int (nI 0), .int (nI 0)])), .inl (0, 100, fun q => nI ((fun _ => 0) q)), .inl (0, 8, fun q => nI ((fun _ => 0) q)), .inl (0, 8, fun q => nI ((fun _ => 0) q))], 0 + 1 + 1 + 1, 0 + 100 + 8 + 8) _
  refine wz_put (p9 := 33) (w1 := [x0, x1, x2, x3, .inr (.inr (1, [.ref 1, .ref 5, .int (nI 0), .ref 6, .ref 7, .null, .int (nI 0), .null, .int (nI 0), .int (nI 0), .int (nI 0), .int (nI 0), .int (nI 0)])), .inl (0, 100, fun q => nI ((fun _ => 0) q)), .inl (0, 8, fun q => nI ((fun _ => 0) q)), .inl (0, 8, fun q => nI ((fun _ => 0) q))]) rfl rfl rfl rfl rfl rfl rfl rfl ?_
  refine wz_aload_n (p9 := 34) rfl rfl rfl ?_
  refine wz_bipush (x := nI 8) (p9 := 36) rfl rfl (by decide) ?_
  refine wz_newa (n := 8) (x := 8) (p9 := 38) rfl rfl (by decide) rfl ?_
  show wp X (d + 0) 11 (38, [.ref 4, .ref 1], [.ref 8, .ref 4], [x0, x1, x2, x3, .inr (.inr (1, [.ref 1, .ref 5, .int (nI 0), .ref 6, .ref 7, .null, .int (nI 0), .null, .int (nI 0), .int (nI 0), .int (nI 0), .int (nI 0), .int (nI 0)])), .inl (0, 100, fun q => nI ((fun _ => 0) q)), .inl (0, 8, fun q => nI ((fun _ => 0) q)), .inl (0, 8, fun q => nI ((fun _ => 0) q)), .inl (0, 8, fun q => nI ((fun _ => 0) q))], 0 + 1 + 1 + 1 + 1, 0 + 100 + 8 + 8 + 8) _
  refine wz_put (p9 := 41) (w1 := [x0, x1, x2, x3, .inr (.inr (1, [.ref 1, .ref 5, .int (nI 0), .ref 6, .ref 7, .ref 8, .int (nI 0), .null, .int (nI 0), .int (nI 0), .int (nI 0), .int (nI 0), .int (nI 0)])), .inl (0, 100, fun q => nI ((fun _ => 0) q)), .inl (0, 8, fun q => nI ((fun _ => 0) q)), .inl (0, 8, fun q => nI ((fun _ => 0) q)), .inl (0, 8, fun q => nI ((fun _ => 0) q))]) rfl rfl rfl rfl rfl rfl rfl rfl ?_
  refine wz_aload_n (p9 := 42) rfl rfl rfl ?_
  refine wz_sipush (x := nI 400) (p9 := 45) rfl rfl (by decide) ?_
  refine wz_newa (n := 9) (x := 400) (p9 := 47) rfl rfl (by decide) rfl ?_
  show wp X (d + 0) 11 (47, [.ref 4, .ref 1], [.ref 9, .ref 4], [x0, x1, x2, x3, .inr (.inr (1, [.ref 1, .ref 5, .int (nI 0), .ref 6, .ref 7, .ref 8, .int (nI 0), .null, .int (nI 0), .int (nI 0), .int (nI 0), .int (nI 0), .int (nI 0)])), .inl (0, 100, fun q => nI ((fun _ => 0) q)), .inl (0, 8, fun q => nI ((fun _ => 0) q)), .inl (0, 8, fun q => nI ((fun _ => 0) q)), .inl (0, 8, fun q => nI ((fun _ => 0) q)), .inl (0, 400, fun q => nI ((fun _ => 0) q))], 0 + 1 + 1 + 1 + 1 + 1, 0 + 100 + 8 + 8 + 8 + 400) _
  refine wz_put (p9 := 50) (w1 := [x0, x1, x2, x3, .inr (.inr (1, [.ref 1, .ref 5, .int (nI 0), .ref 6, .ref 7, .ref 8, .int (nI 0), .ref 9, .int (nI 0), .int (nI 0), .int (nI 0), .int (nI 0), .int (nI 0)])), .inl (0, 100, fun q => nI ((fun _ => 0) q)), .inl (0, 8, fun q => nI ((fun _ => 0) q)), .inl (0, 8, fun q => nI ((fun _ => 0) q)), .inl (0, 8, fun q => nI ((fun _ => 0) q)), .inl (0, 400, fun q => nI ((fun _ => 0) q))]) rfl rfl rfl rfl rfl rfl rfl rfl ?_
  exact wz_retv rfl rfl rfl
theorem k_words {X : Nat × (Nat → Int32)} {d : Nat} {x0 x1 x2 x3 x4 x5 x6 x7 x8 x9 : px_E} : px_ev X (d + 1) 32 [.ref 10, .ref 1] [x0, x1, x2, x3, x4, x5, x6, x7, x8, x9, .inr (.inr (2, [.null, .null, .null, .null, .int (nI 0)]))] (some none, [x0, x1, x2, x3, x4, x5, x6, x7, x8, x9, .inr (.inr (2, [.ref 1, .ref 11, .ref 12, .ref 13, .int (nI 0)])), .inl (0, 30, fun q => nI ((fun _ => 0) q)), .inl (0, 1200, fun q => nI ((fun _ => 0) q)), .inl (0, 210, fun q => nI ((fun _ => 0) q))], 0 + 1 + 1 + 1, 0 + 30 + 1200 + 210) := by
  refine wp_ev (d := d + 0) (by decide) rfl rfl (fun h => by cases h) ?_
  show wp X (d + 0) 32 (0, [.ref 10, .ref 1], [], [x0, x1, x2, x3, x4, x5, x6, x7, x8, x9, .inr (.inr (2, [.null, .null, .null, .null, .int (nI 0)]))], 0, 0) _
  refine wz_aload_n (p9 := 1) rfl rfl rfl ?_
  refine wz_oinit (p9 := 4) rfl rfl rfl rfl ?_
  refine wz_aload_n (p9 := 5) rfl rfl rfl ?_
  refine wz_aload_n (p9 := 6) rfl rfl rfl ?_
  refine wz_put (p9 := 9) (w1 := [x0, x1, x2, x3, x4, x5, x6, x7, x8, x9, .inr (.inr (2, [.ref 1, .null, .null, .null, .int (nI 0)]))]) rfl rfl rfl rfl rfl rfl rfl rfl ?_
  refine wz_aload_n (p9 := 10) rfl rfl rfl ?_
  refine wz_bipush (x := nI 30) (p9 := 12) rfl rfl (by decide) ?_
  refine wz_newa (n := 11) (x := 30) (p9 := 14) rfl rfl (by decide) rfl ?_
  show wp X (d + 0) 32 (14, [.ref 10, .ref 1], [.ref 11, .ref 10], [x0, x1, x2, x3, x4, x5, x6, x7, x8, x9, .inr (.inr (2, [.ref 1, .null, .null, .null, .int (nI 0)])), .inl (0, 30, fun q => nI ((fun _ => 0) q))], 0 + 1, 0 + 30) _
  refine wz_put (p9 := 17) (w1 := [x0, x1, x2, x3, x4, x5, x6, x7, x8, x9, .inr (.inr (2, [.ref 1, .ref 11, .null, .null, .int (nI 0)])), .inl (0, 30, fun q => nI ((fun _ => 0) q))]) rfl rfl rfl rfl rfl rfl rfl rfl ?_
  refine wz_aload_n (p9 := 18) rfl rfl rfl ?_
  refine wz_sipush (x := nI 1200) (p9 := 21) rfl rfl (by decide) ?_
  refine wz_newa (n := 12) (x := 1200) (p9 := 23) rfl rfl (by decide) rfl ?_
  show wp X (d + 0) 32 (23, [.ref 10, .ref 1], [.ref 12, .ref 10], [x0, x1, x2, x3, x4, x5, x6, x7, x8, x9, .inr (.inr (2, [.ref 1, .ref 11, .null, .null, .int (nI 0)])), .inl (0, 30, fun q => nI ((fun _ => 0) q)), .inl (0, 1200, fun q => nI ((fun _ => 0) q))], 0 + 1 + 1, 0 + 30 + 1200) _
  refine wz_put (p9 := 26) (w1 := [x0, x1, x2, x3, x4, x5, x6, x7, x8, x9, .inr (.inr (2, [.ref 1, .ref 11, .ref 12, .null, .int (nI 0)])), .inl (0, 30, fun q => nI ((fun _ => 0) q)), .inl (0, 1200, fun q => nI ((fun _ => 0) q))]) rfl rfl rfl rfl rfl rfl rfl rfl ?_
  refine wz_aload_n (p9 := 27) rfl rfl rfl ?_
  refine wz_sipush (x := nI 210) (p9 := 30) rfl rfl (by decide) ?_
  refine wz_newa (n := 13) (x := 210) (p9 := 32) rfl rfl (by decide) rfl ?_
  show wp X (d + 0) 32 (32, [.ref 10, .ref 1], [.ref 13, .ref 10], [x0, x1, x2, x3, x4, x5, x6, x7, x8, x9, .inr (.inr (2, [.ref 1, .ref 11, .ref 12, .null, .int (nI 0)])), .inl (0, 30, fun q => nI ((fun _ => 0) q)), .inl (0, 1200, fun q => nI ((fun _ => 0) q)), .inl (0, 210, fun q => nI ((fun _ => 0) q))], 0 + 1 + 1 + 1, 0 + 30 + 1200 + 210) _
  refine wz_put (p9 := 35) (w1 := [x0, x1, x2, x3, x4, x5, x6, x7, x8, x9, .inr (.inr (2, [.ref 1, .ref 11, .ref 12, .ref 13, .int (nI 0)])), .inl (0, 30, fun q => nI ((fun _ => 0) q)), .inl (0, 1200, fun q => nI ((fun _ => 0) q)), .inl (0, 210, fun q => nI ((fun _ => 0) q))]) rfl rfl rfl rfl rfl rfl rfl rfl ?_
  exact wz_retv rfl rfl rfl
theorem k_stages {X : Nat × (Nat → Int32)} {d : Nat} {x0 x1 x2 x3 x4 x5 x6 x7 x8 x9 x10 x11 x12 x13 : px_E} : px_ev X (d + 1) 46 [.ref 14, .ref 10] [x0, x1, x2, x3, x4, x5, x6, x7, x8, x9, x10, x11, x12, x13, .inr (.inr (3, [.null, .null, .null, .null, .int (nI 0)]))] (some none, [x0, x1, x2, x3, x4, x5, x6, x7, x8, x9, x10, x11, x12, x13, .inr (.inr (3, [.ref 10, .ref 15, .ref 16, .ref 17, .int (nI 0)])), .inl (0, 8, fun q => nI ((fun _ => 0) q)), .inl (0, 8, fun q => nI ((fun _ => 0) q)), .inl (0, 96, fun q => nI ((fun _ => 0) q))], 0 + 1 + 1 + 1, 0 + 8 + 8 + 96) := by
  refine wp_ev (d := d + 0) (by decide) rfl rfl (fun h => by cases h) ?_
  show wp X (d + 0) 46 (0, [.ref 14, .ref 10], [], [x0, x1, x2, x3, x4, x5, x6, x7, x8, x9, x10, x11, x12, x13, .inr (.inr (3, [.null, .null, .null, .null, .int (nI 0)]))], 0, 0) _
  refine wz_aload_n (p9 := 1) rfl rfl rfl ?_
  refine wz_oinit (p9 := 4) rfl rfl rfl rfl ?_
  refine wz_aload_n (p9 := 5) rfl rfl rfl ?_
  refine wz_aload_n (p9 := 6) rfl rfl rfl ?_
  refine wz_put (p9 := 9) (w1 := [x0, x1, x2, x3, x4, x5, x6, x7, x8, x9, x10, x11, x12, x13, .inr (.inr (3, [.ref 10, .null, .null, .null, .int (nI 0)]))]) rfl rfl rfl rfl rfl rfl rfl rfl ?_
  refine wz_aload_n (p9 := 10) rfl rfl rfl ?_
  refine wz_bipush (x := nI 8) (p9 := 12) rfl rfl (by decide) ?_
  refine wz_newa (n := 15) (x := 8) (p9 := 14) rfl rfl (by decide) rfl ?_
  show wp X (d + 0) 46 (14, [.ref 14, .ref 10], [.ref 15, .ref 14], [x0, x1, x2, x3, x4, x5, x6, x7, x8, x9, x10, x11, x12, x13, .inr (.inr (3, [.ref 10, .null, .null, .null, .int (nI 0)])), .inl (0, 8, fun q => nI ((fun _ => 0) q))], 0 + 1, 0 + 8) _
  refine wz_put (p9 := 17) (w1 := [x0, x1, x2, x3, x4, x5, x6, x7, x8, x9, x10, x11, x12, x13, .inr (.inr (3, [.ref 10, .ref 15, .null, .null, .int (nI 0)])), .inl (0, 8, fun q => nI ((fun _ => 0) q))]) rfl rfl rfl rfl rfl rfl rfl rfl ?_
  refine wz_aload_n (p9 := 18) rfl rfl rfl ?_
  refine wz_bipush (x := nI 8) (p9 := 20) rfl rfl (by decide) ?_
  refine wz_newa (n := 16) (x := 8) (p9 := 22) rfl rfl (by decide) rfl ?_
  show wp X (d + 0) 46 (22, [.ref 14, .ref 10], [.ref 16, .ref 14], [x0, x1, x2, x3, x4, x5, x6, x7, x8, x9, x10, x11, x12, x13, .inr (.inr (3, [.ref 10, .ref 15, .null, .null, .int (nI 0)])), .inl (0, 8, fun q => nI ((fun _ => 0) q)), .inl (0, 8, fun q => nI ((fun _ => 0) q))], 0 + 1 + 1, 0 + 8 + 8) _
  refine wz_put (p9 := 25) (w1 := [x0, x1, x2, x3, x4, x5, x6, x7, x8, x9, x10, x11, x12, x13, .inr (.inr (3, [.ref 10, .ref 15, .ref 16, .null, .int (nI 0)])), .inl (0, 8, fun q => nI ((fun _ => 0) q)), .inl (0, 8, fun q => nI ((fun _ => 0) q))]) rfl rfl rfl rfl rfl rfl rfl rfl ?_
  refine wz_aload_n (p9 := 26) rfl rfl rfl ?_
  refine wz_bipush (x := nI 96) (p9 := 28) rfl rfl (by decide) ?_
  refine wz_newa (n := 17) (x := 96) (p9 := 30) rfl rfl (by decide) rfl ?_
  show wp X (d + 0) 46 (30, [.ref 14, .ref 10], [.ref 17, .ref 14], [x0, x1, x2, x3, x4, x5, x6, x7, x8, x9, x10, x11, x12, x13, .inr (.inr (3, [.ref 10, .ref 15, .ref 16, .null, .int (nI 0)])), .inl (0, 8, fun q => nI ((fun _ => 0) q)), .inl (0, 8, fun q => nI ((fun _ => 0) q)), .inl (0, 96, fun q => nI ((fun _ => 0) q))], 0 + 1 + 1 + 1, 0 + 8 + 8 + 96) _
  refine wz_put (p9 := 33) (w1 := [x0, x1, x2, x3, x4, x5, x6, x7, x8, x9, x10, x11, x12, x13, .inr (.inr (3, [.ref 10, .ref 15, .ref 16, .ref 17, .int (nI 0)])), .inl (0, 8, fun q => nI ((fun _ => 0) q)), .inl (0, 8, fun q => nI ((fun _ => 0) q)), .inl (0, 96, fun q => nI ((fun _ => 0) q))]) rfl rfl rfl rfl rfl rfl rfl rfl ?_
  exact wz_retv rfl rfl rfl
def fa2 : Nat → Nat
  | 0 => 1
  | 1 => 1
  | n + 2 => fa2 (n + 1) * (n + 2)
theorem fa2_f : ∀ P, P < 8 → fa2 P = fac P := by decide
theorem fa2_le : ∀ P, P < 8 → fa2 P ≤ 5040 := by decide
theorem fa2_s {p : Nat} (h : 2 ≤ p) : fa2 (p - 1) * p = fa2 p := by
  obtain ⟨q, rfl⟩ : ∃ q, p = q + 2 := ⟨p - 2, by omega⟩
  rfl
theorem k_pc {X : Nat × (Nat → Int32)} {d : Nat} {x0 x2 x3 x4 x5 x6 x7 x8 x9 x10 x11 x12 x13 x14 x15 x16 x17 : px_E} {P Mv : Nat} : px_ev X (d + 1) 1 [.ref 1] [x0, .inr (.inr (0, [.int (nI P), .int (nI Mv), .ref 2, .ref 3])), x2, x3, x4, x5, x6, x7, x8, x9, x10, x11, x12, x13, x14, x15, x16, x17, .inr (.inr (4, [.ref 1, .null, .null, .int (nI 0)]))] (some (some (.int (nI P))), [x0, .inr (.inr (0, [.int (nI P), .int (nI Mv), .ref 2, .ref 3])), x2, x3, x4, x5, x6, x7, x8, x9, x10, x11, x12, x13, x14, x15, x16, x17, .inr (.inr (4, [.ref 1, .null, .null, .int (nI 0)]))], 0, 0) := by
  refine wp_ev (d := d + 0) (by decide) rfl rfl (fun h => by cases h) ?_
  show wp X (d + 0) 1 (0, [.ref 1], [], [x0, .inr (.inr (0, [.int (nI P), .int (nI Mv), .ref 2, .ref 3])), x2, x3, x4, x5, x6, x7, x8, x9, x10, x11, x12, x13, x14, x15, x16, x17, .inr (.inr (4, [.ref 1, .null, .null, .int (nI 0)]))], 0, 0) _
  refine wz_aload_n (p9 := 1) rfl rfl rfl ?_
  refine wz_get (v := .int (nI P)) (p9 := 4) rfl rfl rfl rfl rfl ?_
  exact wz_reti rfl rfl rfl
theorem l_reach {X : Nat × (Nat → Int32)} {d : Nat} {x0 x2 x3 x4 x5 x6 x7 x8 x9 x10 x11 x12 x13 x14 x15 x16 x17 : px_E} {P Mv : Nat} (h7 : P ≤ 7) {k z : Nat} {Q : px_Z → Prop} (kk : wp X (d + 1) 57 (31, [.ref 18, .ref 1, .int (nI (fa2 P)), .int (nI (P + 1))], [], [x0, .inr (.inr (0, [.int (nI P), .int (nI Mv), .ref 2, .ref 3])), x2, x3, x4, x5, x6, x7, x8, x9, x10, x11, x12, x13, x14, x15, x16, x17, .inr (.inr (4, [.ref 1, .null, .null, .int (nI 0)]))], k, z) Q) : ∀ (j p : Nat), p + j = P + 1 → 2 ≤ p → wp X (d + 1) 57 (13, [.ref 18, .ref 1, .int (nI (fa2 (p - 1))), .int (nI p)], [], [x0, .inr (.inr (0, [.int (nI P), .int (nI Mv), .ref 2, .ref 3])), x2, x3, x4, x5, x6, x7, x8, x9, x10, x11, x12, x13, x14, x15, x16, x17, .inr (.inr (4, [.ref 1, .null, .null, .int (nI 0)]))], k, z) Q
  | 0, p, hj, h2 => by
    obtain rfl : p = P + 1 := by omega
    refine wz_iload_n (p9 := 14) rfl rfl rfl ?_
    refine wz_aload_n (p9 := 15) rfl rfl rfl ?_
    refine wz_c1 (p9 := 18) (w1 := [x0, .inr (.inr (0, [.int (nI P), .int (nI Mv), .ref 2, .ref 3])), x2, x3, x4, x5, x6, x7, x8, x9, x10, x11, x12, x13, x14, x15, x16, x17, .inr (.inr (4, [.ref 1, .null, .null, .int (nI 0)]))]) (u := .int (nI P)) (wa_v (N := 1) (i := 1) (As := []) (rest := [.int (nI (P + 1))]) rfl rfl rfl rfl rfl rfl rfl) rfl ((k_pc (d := 0)).up (by omega)) ?_
    refine wn_icgt (t9 := 31) (p9 := 21) rfl rfl rfl (by omega) (by omega) (fun _ => ?_) (fun h9 => by omega)
    exact kk
  | j + 1, p, hj, h2 => by
    refine wz_iload_n (p9 := 14) rfl rfl rfl ?_
    refine wz_aload_n (p9 := 15) rfl rfl rfl ?_
    refine wz_c1 (p9 := 18) (w1 := [x0, .inr (.inr (0, [.int (nI P), .int (nI Mv), .ref 2, .ref 3])), x2, x3, x4, x5, x6, x7, x8, x9, x10, x11, x12, x13, x14, x15, x16, x17, .inr (.inr (4, [.ref 1, .null, .null, .int (nI 0)]))]) (u := .int (nI P)) (wa_v (N := 1) (i := 1) (As := []) (rest := [.int (nI p)]) rfl rfl rfl rfl rfl rfl rfl) rfl ((k_pc (d := 0)).up (by omega)) ?_
    refine wn_icgt (t9 := 31) (p9 := 21) rfl rfl rfl (by omega) (by omega) (fun h9 => by omega) (fun _ => ?_)
    refine wz_iload_n (p9 := 22) rfl rfl rfl ?_
    refine wz_iload_n (p9 := 23) rfl rfl rfl ?_
    refine wn_mul (p9 := 24) rfl rfl ?_
    refine wz_istore_n (l9 := [.ref 18, .ref 1, .int (nI ((fa2 (p - 1)) * p)), .int (nI p)]) (p9 := 25) rfl rfl rfl rfl ?_
    refine wn_inc (b := 1) (l9 := [.ref 18, .ref 1, .int (nI ((fa2 (p - 1)) * p)), .int (nI (p + 1))]) (p9 := 28) rfl rfl rfl (by decide) rfl ?_
    refine wz_goto (p9 := 13) rfl rfl ?_
    rw [fa2_s h2, show fa2 p = fa2 (p + 1 - 1) from rfl]
    exact l_reach h7 kk j (p + 1) (by omega) (by omega)
theorem k_reach {X : Nat × (Nat → Int32)} {d : Nat} {x0 x2 x3 x4 x5 x6 x7 x8 x9 x10 x11 x12 x13 x14 x15 x16 x17 : px_E} {P Mv : Nat} (h2 : 2 ≤ P) (h7 : P ≤ 7) : px_ev X (d + 2) 57 [.ref 18, .ref 1] [x0, .inr (.inr (0, [.int (nI P), .int (nI Mv), .ref 2, .ref 3])), x2, x3, x4, x5, x6, x7, x8, x9, x10, x11, x12, x13, x14, x15, x16, x17, .inr (.inr (4, [.null, .null, .null, .int (nI 0)]))] (some none, [x0, .inr (.inr (0, [.int (nI P), .int (nI Mv), .ref 2, .ref 3])), x2, x3, x4, x5, x6, x7, x8, x9, x10, x11, x12, x13, x14, x15, x16, x17, .inr (.inr (4, [.ref 1, .ref 19, .ref 20, .int (nI 0)])), .inl (0, fa2 P, fun q => nI ((fun _ => 0) q)), .inl (0, ((fa2 P) / 32) + 1, fun q => nI ((fun _ => 0) q))], 0 + 1 + 1, 0 + (fa2 P) + (((fa2 P) / 32) + 1)) := by
  have hf9 := fa2_le P (by omega)
  refine wp_ev (d := d + 1) (by decide) rfl rfl (fun h => by cases h) ?_
  show wp X (d + 1) 57 (0, [.ref 18, .ref 1, .retAddr 0, .retAddr 0], [], [x0, .inr (.inr (0, [.int (nI P), .int (nI Mv), .ref 2, .ref 3])), x2, x3, x4, x5, x6, x7, x8, x9, x10, x11, x12, x13, x14, x15, x16, x17, .inr (.inr (4, [.null, .null, .null, .int (nI 0)]))], 0, 0) _
  refine wz_aload_n (p9 := 1) rfl rfl rfl ?_
  refine wz_oinit (p9 := 4) rfl rfl rfl rfl ?_
  refine wz_aload_n (p9 := 5) rfl rfl rfl ?_
  refine wz_aload_n (p9 := 6) rfl rfl rfl ?_
  refine wz_put (p9 := 9) (w1 := [x0, .inr (.inr (0, [.int (nI P), .int (nI Mv), .ref 2, .ref 3])), x2, x3, x4, x5, x6, x7, x8, x9, x10, x11, x12, x13, x14, x15, x16, x17, .inr (.inr (4, [.ref 1, .null, .null, .int (nI 0)]))]) rfl rfl rfl rfl rfl rfl rfl rfl ?_
  refine wz_iconst (x := nI 1) (p9 := 10) rfl rfl (by decide) ?_
  refine wz_istore_n (l9 := [.ref 18, .ref 1, .int (nI 1), .retAddr 0]) (p9 := 11) rfl rfl rfl rfl ?_
  refine wz_iconst (x := nI 2) (p9 := 12) rfl rfl (by decide) ?_
  refine wz_istore_n (l9 := [.ref 18, .ref 1, .int (nI 1), .int (nI 2)]) (p9 := 13) rfl rfl rfl rfl ?_
  refine l_reach h7 ?_ (P - 1) 2 (by omega) (by omega)
  refine wz_aload_n (p9 := 32) rfl rfl rfl ?_
  refine wz_iload_n (p9 := 33) rfl rfl rfl ?_
  refine wz_newa (n := 19) (x := (fa2 P)) (p9 := 35) rfl rfl (by omega) rfl ?_
  show wp X (d + 1) 57 (35, [.ref 18, .ref 1, .int (nI (fa2 P)), .int (nI (P + 1))], [.ref 19, .ref 18], [x0, .inr (.inr (0, [.int (nI P), .int (nI Mv), .ref 2, .ref 3])), x2, x3, x4, x5, x6, x7, x8, x9, x10, x11, x12, x13, x14, x15, x16, x17, .inr (.inr (4, [.ref 1, .null, .null, .int (nI 0)])), .inl (0, fa2 P, fun q => nI ((fun _ => 0) q))], 0 + 1, 0 + (fa2 P)) _
  refine wz_put (p9 := 38) (w1 := [x0, .inr (.inr (0, [.int (nI P), .int (nI Mv), .ref 2, .ref 3])), x2, x3, x4, x5, x6, x7, x8, x9, x10, x11, x12, x13, x14, x15, x16, x17, .inr (.inr (4, [.ref 1, .ref 19, .null, .int (nI 0)])), .inl (0, fa2 P, fun q => nI ((fun _ => 0) q))]) rfl rfl rfl rfl rfl rfl rfl rfl ?_
  refine wz_aload_n (p9 := 39) rfl rfl rfl ?_
  refine wz_iload_n (p9 := 40) rfl rfl rfl ?_
  refine wz_bipush (x := nI 32) (p9 := 42) rfl rfl (by decide) ?_
  refine wn_div (p9 := 43) rfl rfl (by omega) (by omega) (by omega) ?_
  refine wz_iconst (x := nI 1) (p9 := 44) rfl rfl (by decide) ?_
  refine wn_add (p9 := 45) rfl rfl ?_
  refine wz_newa (n := 20) (x := (((fa2 P) / 32) + 1)) (p9 := 47) rfl rfl (by omega) rfl ?_
  show wp X (d + 1) 57 (47, [.ref 18, .ref 1, .int (nI (fa2 P)), .int (nI (P + 1))], [.ref 20, .ref 18], [x0, .inr (.inr (0, [.int (nI P), .int (nI Mv), .ref 2, .ref 3])), x2, x3, x4, x5, x6, x7, x8, x9, x10, x11, x12, x13, x14, x15, x16, x17, .inr (.inr (4, [.ref 1, .ref 19, .null, .int (nI 0)])), .inl (0, fa2 P, fun q => nI ((fun _ => 0) q)), .inl (0, ((fa2 P) / 32) + 1, fun q => nI ((fun _ => 0) q))], 0 + 1 + 1, 0 + (fa2 P) + (((fa2 P) / 32) + 1)) _
  refine wz_put (p9 := 50) (w1 := [x0, .inr (.inr (0, [.int (nI P), .int (nI Mv), .ref 2, .ref 3])), x2, x3, x4, x5, x6, x7, x8, x9, x10, x11, x12, x13, x14, x15, x16, x17, .inr (.inr (4, [.ref 1, .ref 19, .ref 20, .int (nI 0)])), .inl (0, fa2 P, fun q => nI ((fun _ => 0) q)), .inl (0, ((fa2 P) / 32) + 1, fun q => nI ((fun _ => 0) q))]) rfl rfl rfl rfl rfl rfl rfl rfl ?_
  exact wz_retv rfl rfl rfl
theorem k_search {X : Nat × (Nat → Int32)} {d : Nat} {x0 x1 x2 x3 x4 x5 x6 x7 x8 x9 x10 x11 x12 x13 x14 x15 x16 x17 x18 x19 x20 : px_E} : px_ev X (d + 1) 64 [.ref 21, .ref 1] [x0, x1, x2, x3, x4, x5, x6, x7, x8, x9, x10, x11, x12, x13, x14, x15, x16, x17, x18, x19, x20, .inr (.inr (5, [.null, .null, .null, .int (nI 0), .null]))] (some none, [x0, x1, x2, x3, x4, x5, x6, x7, x8, x9, x10, x11, x12, x13, x14, x15, x16, x17, x18, x19, x20, .inr (.inr (5, [.ref 1, .ref 22, .ref 23, .int (nI 0), .ref 24])), .inl (0, 512, fun q => nI ((fun _ => 0) q)), .inl (0, 512, fun q => nI ((fun _ => 0) q)), .inl (0, 9, fun q => nI ((fun _ => 0) q))], 0 + 1 + 1 + 1, 0 + 512 + 512 + 9) := by
  refine wp_ev (d := d + 0) (by decide) rfl rfl (fun h => by cases h) ?_
  show wp X (d + 0) 64 (0, [.ref 21, .ref 1], [], [x0, x1, x2, x3, x4, x5, x6, x7, x8, x9, x10, x11, x12, x13, x14, x15, x16, x17, x18, x19, x20, .inr (.inr (5, [.null, .null, .null, .int (nI 0), .null]))], 0, 0) _
  refine wz_aload_n (p9 := 1) rfl rfl rfl ?_
  refine wz_oinit (p9 := 4) rfl rfl rfl rfl ?_
  refine wz_aload_n (p9 := 5) rfl rfl rfl ?_
  refine wz_aload_n (p9 := 6) rfl rfl rfl ?_
  refine wz_put (p9 := 9) (w1 := [x0, x1, x2, x3, x4, x5, x6, x7, x8, x9, x10, x11, x12, x13, x14, x15, x16, x17, x18, x19, x20, .inr (.inr (5, [.ref 1, .null, .null, .int (nI 0), .null]))]) rfl rfl rfl rfl rfl rfl rfl rfl ?_
  refine wz_aload_n (p9 := 10) rfl rfl rfl ?_
  refine wz_sipush (x := nI 512) (p9 := 13) rfl rfl (by decide) ?_
  refine wz_newa (n := 22) (x := 512) (p9 := 15) rfl rfl (by decide) rfl ?_
  show wp X (d + 0) 64 (15, [.ref 21, .ref 1], [.ref 22, .ref 21], [x0, x1, x2, x3, x4, x5, x6, x7, x8, x9, x10, x11, x12, x13, x14, x15, x16, x17, x18, x19, x20, .inr (.inr (5, [.ref 1, .null, .null, .int (nI 0), .null])), .inl (0, 512, fun q => nI ((fun _ => 0) q))], 0 + 1, 0 + 512) _
  refine wz_put (p9 := 18) (w1 := [x0, x1, x2, x3, x4, x5, x6, x7, x8, x9, x10, x11, x12, x13, x14, x15, x16, x17, x18, x19, x20, .inr (.inr (5, [.ref 1, .ref 22, .null, .int (nI 0), .null])), .inl (0, 512, fun q => nI ((fun _ => 0) q))]) rfl rfl rfl rfl rfl rfl rfl rfl ?_
  refine wz_aload_n (p9 := 19) rfl rfl rfl ?_
  refine wz_sipush (x := nI 512) (p9 := 22) rfl rfl (by decide) ?_
  refine wz_newa (n := 23) (x := 512) (p9 := 24) rfl rfl (by decide) rfl ?_
  show wp X (d + 0) 64 (24, [.ref 21, .ref 1], [.ref 23, .ref 21], [x0, x1, x2, x3, x4, x5, x6, x7, x8, x9, x10, x11, x12, x13, x14, x15, x16, x17, x18, x19, x20, .inr (.inr (5, [.ref 1, .ref 22, .null, .int (nI 0), .null])), .inl (0, 512, fun q => nI ((fun _ => 0) q)), .inl (0, 512, fun q => nI ((fun _ => 0) q))], 0 + 1 + 1, 0 + 512 + 512) _
  refine wz_put (p9 := 27) (w1 := [x0, x1, x2, x3, x4, x5, x6, x7, x8, x9, x10, x11, x12, x13, x14, x15, x16, x17, x18, x19, x20, .inr (.inr (5, [.ref 1, .ref 22, .ref 23, .int (nI 0), .null])), .inl (0, 512, fun q => nI ((fun _ => 0) q)), .inl (0, 512, fun q => nI ((fun _ => 0) q))]) rfl rfl rfl rfl rfl rfl rfl rfl ?_
  refine wz_aload_n (p9 := 28) rfl rfl rfl ?_
  refine wz_bipush (x := nI 9) (p9 := 30) rfl rfl (by decide) ?_
  refine wz_newa (n := 24) (x := 9) (p9 := 32) rfl rfl (by decide) rfl ?_
  show wp X (d + 0) 64 (32, [.ref 21, .ref 1], [.ref 24, .ref 21], [x0, x1, x2, x3, x4, x5, x6, x7, x8, x9, x10, x11, x12, x13, x14, x15, x16, x17, x18, x19, x20, .inr (.inr (5, [.ref 1, .ref 22, .ref 23, .int (nI 0), .null])), .inl (0, 512, fun q => nI ((fun _ => 0) q)), .inl (0, 512, fun q => nI ((fun _ => 0) q)), .inl (0, 9, fun q => nI ((fun _ => 0) q))], 0 + 1 + 1 + 1, 0 + 512 + 512 + 9) _
  refine wz_put (p9 := 35) (w1 := [x0, x1, x2, x3, x4, x5, x6, x7, x8, x9, x10, x11, x12, x13, x14, x15, x16, x17, x18, x19, x20, .inr (.inr (5, [.ref 1, .ref 22, .ref 23, .int (nI 0), .ref 24])), .inl (0, 512, fun q => nI ((fun _ => 0) q)), .inl (0, 512, fun q => nI ((fun _ => 0) q)), .inl (0, 9, fun q => nI ((fun _ => 0) q))]) rfl rfl rfl rfl rfl rfl rfl rfl ?_
  exact wz_retv rfl rfl rfl
theorem cl_x (lo hi : Nat) (h : lo ≤ hi) (h9 : hi < 100) (x : Int32) : ∃ P, lo ≤ P ∧ P ≤ hi ∧ (if nI lo < (if x < nI hi then x else nI hi) then (if x < nI hi then x else nI hi) else nI lo) = nI P ∧ ((x < nI lo ∧ P = lo) ∨ (¬ x < nI lo ∧ nI hi < x ∧ P = hi) ∨ (¬ x < nI lo ∧ ¬ nI hi < x ∧ x = nI P)) := by
  by_cases c1 : x < nI lo
  · refine ⟨lo, Nat.le_refl _, h, ?_, Or.inl ⟨c1, rfl⟩⟩
    have c2 : x < nI hi := Int32.lt_of_lt_of_le c1 ((nI_leI (by omega) (by omega)).mpr h)
    rw [if_pos c2, if_neg (Int32.lt_asymm c1)]
  · by_cases c3 : nI hi < x
    · refine ⟨hi, h, Nat.le_refl _, ?_, Or.inr (Or.inl ⟨c1, c3, rfl⟩)⟩
      rw [if_neg (Int32.lt_asymm c3)]
      by_cases c4 : nI lo < nI hi
      · rw [if_pos c4]
      · rw [if_neg c4]
        have : ¬ lo < hi := fun q => c4 ((nI_ltI (by omega) (by omega)).mpr q)
        rw [show lo = hi by omega]
    · have h0 : ¬ x < 0 := fun q => c1 (Int32.lt_of_lt_of_le q ((nI_leI (a := 0) (by decide) (by omega)).mpr (Nat.zero_le _)))
      obtain ⟨P, hP, rfl⟩ := nI_of h0
      have a1 : ¬ P < lo := fun q => c1 ((nI_ltI (by omega) (by omega)).mpr q)
      have a2 : ¬ hi < P := fun q => c3 ((nI_ltI (by omega) (by omega)).mpr q)
      refine ⟨P, by omega, by omega, ?_, Or.inr (Or.inr ⟨c1, c3, rfl⟩)⟩
      have e1 : (if nI P < nI hi then nI P else nI hi) = nI P := by
        by_cases c4 : nI P < nI hi
        · rw [if_pos c4]
        · rw [if_neg c4]
          have : ¬ P < hi := fun q => c4 ((nI_ltI (by omega) (by omega)).mpr q)
          rw [show hi = P by omega]
      rw [e1]
      by_cases c5 : nI lo < nI P
      · rw [if_pos c5]
      · rw [if_neg c5]
        have : ¬ lo < P := fun q => c5 ((nI_ltI (by omega) (by omega)).mpr q)
        rw [show lo = P by omega]
def WC (P Mv : Nat) : px_W := [.inr (.inr (6, [.ref 1, .ref 4, .ref 10, .ref 14, .ref 18, .ref 21, .ref 25, .int (nI 0), .int (nI (hm8 P))])), .inr (.inr (0, [.int (nI P), .int (nI Mv), .ref 2, .ref 3])), .inl (0, 42, fun q => nI ((cz (fun q => q % 7) (fun _ => 0) 42) q)), .inl (0, 6, fun q => nI ((un (un (un (un (un (un (fun _ => 0) 0 1) 1 1) 2 1) 3 1) 4 1) 5 1) q)), .inr (.inr (1, [.ref 1, .ref 5, .int (nI 0), .ref 6, .ref 7, .ref 8, .int (nI 0), .ref 9, .int (nI 0), .int (nI 0), .int (nI 0), .int (nI 0), .int (nI 0)])), .inl (0, 100, fun q => nI ((fun _ => 0) q)), .inl (0, 8, fun q => nI ((fun _ => 0) q)), .inl (0, 8, fun q => nI ((fun _ => 0) q)), .inl (0, 8, fun q => nI ((fun _ => 0) q)), .inl (0, 400, fun q => nI ((fun _ => 0) q)), .inr (.inr (2, [.ref 1, .ref 11, .ref 12, .ref 13, .int (nI 0)])), .inl (0, 30, fun q => nI ((fun _ => 0) q)), .inl (0, 1200, fun q => nI ((fun _ => 0) q)), .inl (0, 210, fun q => nI ((fun _ => 0) q)), .inr (.inr (3, [.ref 10, .ref 15, .ref 16, .ref 17, .int (nI 0)])), .inl (0, 8, fun q => nI ((fun _ => 0) q)), .inl (0, 8, fun q => nI ((fun _ => 0) q)), .inl (0, 96, fun q => nI ((fun _ => 0) q)), .inr (.inr (4, [.ref 1, .ref 19, .ref 20, .int (nI 0)])), .inl (0, fa2 P, fun q => nI ((fun _ => 0) q)), .inl (0, ((fa2 P) / 32) + 1, fun q => nI ((fun _ => 0) q)), .inr (.inr (5, [.ref 1, .ref 22, .ref 23, .int (nI 0), .ref 24])), .inl (0, 512, fun q => nI ((fun _ => 0) q)), .inl (0, 512, fun q => nI ((fun _ => 0) q)), .inl (0, 9, fun q => nI ((fun _ => 0) q)), .inl (0, 7, fun q => nI ((fun _ => 0) q))]
theorem k_class {X : Nat × (Nat → Int32)} {d : Nat} {x y : Int32} {P Mv : Nat} (hp1 : 2 ≤ P) (hp2 : P ≤ 7) (hP : (if nI 2 < (if x < nI 7 then x else nI 7) then (if x < nI 7 then x else nI 7) else nI 2) = nI P) (hM : (if nI 1 < (if y < nI 6 then y else nI 6) then (if y < nI 6 then y else nI 6) else nI 1) = nI Mv) : px_ev X (d + 3) 73 [.ref 0, .int x, .int y] [.inr (.inr (6, [.null, .null, .null, .null, .null, .null, .null, .int (nI 0), .int (nI 0)]))] (some none, WC P Mv, 0 + 1 + (0 + 1 + 1) + 1 + (0 + 1 + 1 + 1 + 1 + 1) + 1 + (0 + 1 + 1 + 1) + 1 + (0 + 1 + 1 + 1) + 1 + (0 + 1 + 1) + 1 + (0 + 1 + 1 + 1) + 1, 0 + 4 + (0 + 42 + 6) + 13 + (0 + 100 + 8 + 8 + 8 + 400) + 5 + (0 + 30 + 1200 + 210) + 5 + (0 + 8 + 8 + 96) + 4 + (0 + (fa2 P) + (((fa2 P) / 32) + 1)) + 5 + (0 + 512 + 512 + 9) + 7) := by
  refine wp_ev (d := d + 2) (by decide) rfl rfl (fun h => by cases h) ?_
  show wp X (d + 2) 73 (0, [.ref 0, .int x, .int y, .retAddr 0, .retAddr 0], [], [.inr (.inr (6, [.null, .null, .null, .null, .null, .null, .null, .int (nI 0), .int (nI 0)]))], 0, 0) _
  refine wz_aload_n (p9 := 1) rfl rfl rfl ?_
  refine wz_oinit (p9 := 4) rfl rfl rfl rfl ?_
  refine wz_iconst (x := nI 2) (p9 := 5) rfl rfl (by decide) ?_
  refine wz_bipush (x := nI 7) (p9 := 7) rfl rfl (by decide) ?_
  refine wz_iload_n (p9 := 8) rfl rfl rfl ?_
  refine wz_min (v := (if x < nI 7 then x else nI 7)) (p9 := 11) rfl rfl rfl rfl rfl ?_
  refine wz_max (v := (nI P)) (p9 := 14) rfl rfl rfl rfl hP ?_
  refine wz_istore_n (l9 := [.ref 0, .int x, .int y, .int (nI P), .retAddr 0]) (p9 := 15) rfl rfl rfl rfl ?_
  refine wz_iconst (x := nI 1) (p9 := 16) rfl rfl (by decide) ?_
  refine wz_bipush (x := nI 6) (p9 := 18) rfl rfl (by decide) ?_
  refine wz_iload_n (p9 := 19) rfl rfl rfl ?_
  refine wz_min (v := (if y < nI 6 then y else nI 6)) (p9 := 22) rfl rfl rfl rfl rfl ?_
  refine wz_max (v := (nI Mv)) (p9 := 25) rfl rfl rfl rfl hM ?_
  refine wz_istore (l9 := [.ref 0, .int x, .int y, .int (nI P), .int (nI Mv)]) (p9 := 27) rfl rfl rfl rfl ?_
  refine wz_aload_n (p9 := 28) rfl rfl rfl ?_
  refine wz_new (n := 1) (ci := 0) (fs := [.int (nI 0), .int (nI 0), .null, .null]) (p9 := 31) rfl rfl rfl rfl rfl rfl ?_
  show wp X (d + 2) 73 (31, [.ref 0, .int x, .int y, .int (nI P), .int (nI Mv)], [.ref 1, .ref 0], [.inr (.inr (6, [.null, .null, .null, .null, .null, .null, .null, .int (nI 0), .int (nI 0)])), .inr (.inr (0, [.int (nI 0), .int (nI 0), .null, .null]))], 0 + 1, 0 + 4) _
  refine wz_dupr (p9 := 32) rfl rfl ?_
  refine wz_iload_n (p9 := 33) rfl rfl rfl ?_
  refine wz_iload (p9 := 35) rfl rfl rfl ?_
  refine wz_ck (p9 := 38) (w1 := [.inr (.inr (6, [.null, .null, .null, .null, .null, .null, .null, .int (nI 0), .int (nI 0)])), .inr (.inr (0, [.int (nI P), .int (nI Mv), .ref 2, .ref 3])), .inl (0, 42, fun q => nI ((cz (fun q => q % 7) (fun _ => 0) 42) q)), .inl (0, 6, fun q => nI ((un (un (un (un (un (un (fun _ => 0) 0 1) 1 1) 2 1) 3 1) 4 1) 5 1) q))]) (k1 := 0 + 1 + 1) (z1 := 0 + 42 + 6) (wa_i (N := 0) (i := 1) (As := [.int (nI P), .int (nI Mv)]) (rest := [.ref 1, .ref 0]) rfl rfl rfl rfl rfl rfl rfl) rfl ((k_turns (d := 0) ).up (by omega)) ?_
  refine wz_put (p9 := 41) (w1 := [.inr (.inr (6, [.ref 1, .null, .null, .null, .null, .null, .null, .int (nI 0), .int (nI 0)])), .inr (.inr (0, [.int (nI P), .int (nI Mv), .ref 2, .ref 3])), .inl (0, 42, fun q => nI ((cz (fun q => q % 7) (fun _ => 0) 42) q)), .inl (0, 6, fun q => nI ((un (un (un (un (un (un (fun _ => 0) 0 1) 1 1) 2 1) 3 1) 4 1) 5 1) q))]) rfl rfl rfl rfl rfl rfl rfl rfl ?_
  refine wz_aload_n (p9 := 42) rfl rfl rfl ?_
  refine wz_new (n := 4) (ci := 1) (fs := [.null, .null, .int (nI 0), .null, .null, .null, .int (nI 0), .null, .int (nI 0), .int (nI 0), .int (nI 0), .int (nI 0), .int (nI 0)]) (p9 := 45) rfl rfl rfl rfl rfl rfl ?_
  show wp X (d + 2) 73 (45, [.ref 0, .int x, .int y, .int (nI P), .int (nI Mv)], [.ref 4, .ref 0], [.inr (.inr (6, [.ref 1, .null, .null, .null, .null, .null, .null, .int (nI 0), .int (nI 0)])), .inr (.inr (0, [.int (nI P), .int (nI Mv), .ref 2, .ref 3])), .inl (0, 42, fun q => nI ((cz (fun q => q % 7) (fun _ => 0) 42) q)), .inl (0, 6, fun q => nI ((un (un (un (un (un (un (fun _ => 0) 0 1) 1 1) 2 1) 3 1) 4 1) 5 1) q)), .inr (.inr (1, [.null, .null, .int (nI 0), .null, .null, .null, .int (nI 0), .null, .int (nI 0), .int (nI 0), .int (nI 0), .int (nI 0), .int (nI 0)]))], 0 + 1 + (0 + 1 + 1) + 1, 0 + 4 + (0 + 42 + 6) + 13) _
  refine wz_dupr (p9 := 46) rfl rfl ?_
  refine wz_aload_n (p9 := 47) rfl rfl rfl ?_
  refine wz_get (v := .ref 1) (p9 := 50) rfl rfl rfl rfl rfl ?_
  refine wz_ck (p9 := 53) (w1 := [.inr (.inr (6, [.ref 1, .null, .null, .null, .null, .null, .null, .int (nI 0), .int (nI 0)])), .inr (.inr (0, [.int (nI P), .int (nI Mv), .ref 2, .ref 3])), .inl (0, 42, fun q => nI ((cz (fun q => q % 7) (fun _ => 0) 42) q)), .inl (0, 6, fun q => nI ((un (un (un (un (un (un (fun _ => 0) 0 1) 1 1) 2 1) 3 1) 4 1) 5 1) q)), .inr (.inr (1, [.ref 1, .ref 5, .int (nI 0), .ref 6, .ref 7, .ref 8, .int (nI 0), .ref 9, .int (nI 0), .int (nI 0), .int (nI 0), .int (nI 0), .int (nI 0)])), .inl (0, 100, fun q => nI ((fun _ => 0) q)), .inl (0, 8, fun q => nI ((fun _ => 0) q)), .inl (0, 8, fun q => nI ((fun _ => 0) q)), .inl (0, 8, fun q => nI ((fun _ => 0) q)), .inl (0, 400, fun q => nI ((fun _ => 0) q))]) (k1 := 0 + 1 + 1 + 1 + 1 + 1) (z1 := 0 + 100 + 8 + 8 + 8 + 400) (wa_i (N := 11) (i := 4) (As := [.ref 1]) (rest := [.ref 4, .ref 0]) rfl rfl rfl rfl rfl rfl rfl) rfl ((k_reader (d := 0) ).up (by omega)) ?_
  refine wz_put (p9 := 56) (w1 := [.inr (.inr (6, [.ref 1, .ref 4, .null, .null, .null, .null, .null, .int (nI 0), .int (nI 0)])), .inr (.inr (0, [.int (nI P), .int (nI Mv), .ref 2, .ref 3])), .inl (0, 42, fun q => nI ((cz (fun q => q % 7) (fun _ => 0) 42) q)), .inl (0, 6, fun q => nI ((un (un (un (un (un (un (fun _ => 0) 0 1) 1 1) 2 1) 3 1) 4 1) 5 1) q)), .inr (.inr (1, [.ref 1, .ref 5, .int (nI 0), .ref 6, .ref 7, .ref 8, .int (nI 0), .ref 9, .int (nI 0), .int (nI 0), .int (nI 0), .int (nI 0), .int (nI 0)])), .inl (0, 100, fun q => nI ((fun _ => 0) q)), .inl (0, 8, fun q => nI ((fun _ => 0) q)), .inl (0, 8, fun q => nI ((fun _ => 0) q)), .inl (0, 8, fun q => nI ((fun _ => 0) q)), .inl (0, 400, fun q => nI ((fun _ => 0) q))]) rfl rfl rfl rfl rfl rfl rfl rfl ?_
  refine wz_aload_n (p9 := 57) rfl rfl rfl ?_
  refine wz_new (n := 10) (ci := 2) (fs := [.null, .null, .null, .null, .int (nI 0)]) (p9 := 60) rfl rfl rfl rfl rfl rfl ?_
  show wp X (d + 2) 73 (60, [.ref 0, .int x, .int y, .int (nI P), .int (nI Mv)], [.ref 10, .ref 0], [.inr (.inr (6, [.ref 1, .ref 4, .null, .null, .null, .null, .null, .int (nI 0), .int (nI 0)])), .inr (.inr (0, [.int (nI P), .int (nI Mv), .ref 2, .ref 3])), .inl (0, 42, fun q => nI ((cz (fun q => q % 7) (fun _ => 0) 42) q)), .inl (0, 6, fun q => nI ((un (un (un (un (un (un (fun _ => 0) 0 1) 1 1) 2 1) 3 1) 4 1) 5 1) q)), .inr (.inr (1, [.ref 1, .ref 5, .int (nI 0), .ref 6, .ref 7, .ref 8, .int (nI 0), .ref 9, .int (nI 0), .int (nI 0), .int (nI 0), .int (nI 0), .int (nI 0)])), .inl (0, 100, fun q => nI ((fun _ => 0) q)), .inl (0, 8, fun q => nI ((fun _ => 0) q)), .inl (0, 8, fun q => nI ((fun _ => 0) q)), .inl (0, 8, fun q => nI ((fun _ => 0) q)), .inl (0, 400, fun q => nI ((fun _ => 0) q)), .inr (.inr (2, [.null, .null, .null, .null, .int (nI 0)]))], 0 + 1 + (0 + 1 + 1) + 1 + (0 + 1 + 1 + 1 + 1 + 1) + 1, 0 + 4 + (0 + 42 + 6) + 13 + (0 + 100 + 8 + 8 + 8 + 400) + 5) _
  refine wz_dupr (p9 := 61) rfl rfl ?_
  refine wz_aload_n (p9 := 62) rfl rfl rfl ?_
  refine wz_get (v := .ref 1) (p9 := 65) rfl rfl rfl rfl rfl ?_
  refine wz_ck (p9 := 68) (w1 := [.inr (.inr (6, [.ref 1, .ref 4, .null, .null, .null, .null, .null, .int (nI 0), .int (nI 0)])), .inr (.inr (0, [.int (nI P), .int (nI Mv), .ref 2, .ref 3])), .inl (0, 42, fun q => nI ((cz (fun q => q % 7) (fun _ => 0) 42) q)), .inl (0, 6, fun q => nI ((un (un (un (un (un (un (fun _ => 0) 0 1) 1 1) 2 1) 3 1) 4 1) 5 1) q)), .inr (.inr (1, [.ref 1, .ref 5, .int (nI 0), .ref 6, .ref 7, .ref 8, .int (nI 0), .ref 9, .int (nI 0), .int (nI 0), .int (nI 0), .int (nI 0), .int (nI 0)])), .inl (0, 100, fun q => nI ((fun _ => 0) q)), .inl (0, 8, fun q => nI ((fun _ => 0) q)), .inl (0, 8, fun q => nI ((fun _ => 0) q)), .inl (0, 8, fun q => nI ((fun _ => 0) q)), .inl (0, 400, fun q => nI ((fun _ => 0) q)), .inr (.inr (2, [.ref 1, .ref 11, .ref 12, .ref 13, .int (nI 0)])), .inl (0, 30, fun q => nI ((fun _ => 0) q)), .inl (0, 1200, fun q => nI ((fun _ => 0) q)), .inl (0, 210, fun q => nI ((fun _ => 0) q))]) (k1 := 0 + 1 + 1 + 1) (z1 := 0 + 30 + 1200 + 210) (wa_i (N := 32) (i := 10) (As := [.ref 1]) (rest := [.ref 10, .ref 0]) rfl rfl rfl rfl rfl rfl rfl) rfl ((k_words (d := 0) ).up (by omega)) ?_
  refine wz_put (p9 := 71) (w1 := [.inr (.inr (6, [.ref 1, .ref 4, .ref 10, .null, .null, .null, .null, .int (nI 0), .int (nI 0)])), .inr (.inr (0, [.int (nI P), .int (nI Mv), .ref 2, .ref 3])), .inl (0, 42, fun q => nI ((cz (fun q => q % 7) (fun _ => 0) 42) q)), .inl (0, 6, fun q => nI ((un (un (un (un (un (un (fun _ => 0) 0 1) 1 1) 2 1) 3 1) 4 1) 5 1) q)), .inr (.inr (1, [.ref 1, .ref 5, .int (nI 0), .ref 6, .ref 7, .ref 8, .int (nI 0), .ref 9, .int (nI 0), .int (nI 0), .int (nI 0), .int (nI 0), .int (nI 0)])), .inl (0, 100, fun q => nI ((fun _ => 0) q)), .inl (0, 8, fun q => nI ((fun _ => 0) q)), .inl (0, 8, fun q => nI ((fun _ => 0) q)), .inl (0, 8, fun q => nI ((fun _ => 0) q)), .inl (0, 400, fun q => nI ((fun _ => 0) q)), .inr (.inr (2, [.ref 1, .ref 11, .ref 12, .ref 13, .int (nI 0)])), .inl (0, 30, fun q => nI ((fun _ => 0) q)), .inl (0, 1200, fun q => nI ((fun _ => 0) q)), .inl (0, 210, fun q => nI ((fun _ => 0) q))]) rfl rfl rfl rfl rfl rfl rfl rfl ?_
  refine wz_aload_n (p9 := 72) rfl rfl rfl ?_
  refine wz_new (n := 14) (ci := 3) (fs := [.null, .null, .null, .null, .int (nI 0)]) (p9 := 75) rfl rfl rfl rfl rfl rfl ?_
  show wp X (d + 2) 73 (75, [.ref 0, .int x, .int y, .int (nI P), .int (nI Mv)], [.ref 14, .ref 0], [.inr (.inr (6, [.ref 1, .ref 4, .ref 10, .null, .null, .null, .null, .int (nI 0), .int (nI 0)])), .inr (.inr (0, [.int (nI P), .int (nI Mv), .ref 2, .ref 3])), .inl (0, 42, fun q => nI ((cz (fun q => q % 7) (fun _ => 0) 42) q)), .inl (0, 6, fun q => nI ((un (un (un (un (un (un (fun _ => 0) 0 1) 1 1) 2 1) 3 1) 4 1) 5 1) q)), .inr (.inr (1, [.ref 1, .ref 5, .int (nI 0), .ref 6, .ref 7, .ref 8, .int (nI 0), .ref 9, .int (nI 0), .int (nI 0), .int (nI 0), .int (nI 0), .int (nI 0)])), .inl (0, 100, fun q => nI ((fun _ => 0) q)), .inl (0, 8, fun q => nI ((fun _ => 0) q)), .inl (0, 8, fun q => nI ((fun _ => 0) q)), .inl (0, 8, fun q => nI ((fun _ => 0) q)), .inl (0, 400, fun q => nI ((fun _ => 0) q)), .inr (.inr (2, [.ref 1, .ref 11, .ref 12, .ref 13, .int (nI 0)])), .inl (0, 30, fun q => nI ((fun _ => 0) q)), .inl (0, 1200, fun q => nI ((fun _ => 0) q)), .inl (0, 210, fun q => nI ((fun _ => 0) q)), .inr (.inr (3, [.null, .null, .null, .null, .int (nI 0)]))], 0 + 1 + (0 + 1 + 1) + 1 + (0 + 1 + 1 + 1 + 1 + 1) + 1 + (0 + 1 + 1 + 1) + 1, 0 + 4 + (0 + 42 + 6) + 13 + (0 + 100 + 8 + 8 + 8 + 400) + 5 + (0 + 30 + 1200 + 210) + 5) _
  refine wz_dupr (p9 := 76) rfl rfl ?_
  refine wz_aload_n (p9 := 77) rfl rfl rfl ?_
  refine wz_get (v := .ref 10) (p9 := 80) rfl rfl rfl rfl rfl ?_
  refine wz_ck (p9 := 83) (w1 := [.inr (.inr (6, [.ref 1, .ref 4, .ref 10, .null, .null, .null, .null, .int (nI 0), .int (nI 0)])), .inr (.inr (0, [.int (nI P), .int (nI Mv), .ref 2, .ref 3])), .inl (0, 42, fun q => nI ((cz (fun q => q % 7) (fun _ => 0) 42) q)), .inl (0, 6, fun q => nI ((un (un (un (un (un (un (fun _ => 0) 0 1) 1 1) 2 1) 3 1) 4 1) 5 1) q)), .inr (.inr (1, [.ref 1, .ref 5, .int (nI 0), .ref 6, .ref 7, .ref 8, .int (nI 0), .ref 9, .int (nI 0), .int (nI 0), .int (nI 0), .int (nI 0), .int (nI 0)])), .inl (0, 100, fun q => nI ((fun _ => 0) q)), .inl (0, 8, fun q => nI ((fun _ => 0) q)), .inl (0, 8, fun q => nI ((fun _ => 0) q)), .inl (0, 8, fun q => nI ((fun _ => 0) q)), .inl (0, 400, fun q => nI ((fun _ => 0) q)), .inr (.inr (2, [.ref 1, .ref 11, .ref 12, .ref 13, .int (nI 0)])), .inl (0, 30, fun q => nI ((fun _ => 0) q)), .inl (0, 1200, fun q => nI ((fun _ => 0) q)), .inl (0, 210, fun q => nI ((fun _ => 0) q)), .inr (.inr (3, [.ref 10, .ref 15, .ref 16, .ref 17, .int (nI 0)])), .inl (0, 8, fun q => nI ((fun _ => 0) q)), .inl (0, 8, fun q => nI ((fun _ => 0) q)), .inl (0, 96, fun q => nI ((fun _ => 0) q))]) (k1 := 0 + 1 + 1 + 1) (z1 := 0 + 8 + 8 + 96) (wa_i (N := 46) (i := 14) (As := [.ref 10]) (rest := [.ref 14, .ref 0]) rfl rfl rfl rfl rfl rfl rfl) rfl ((k_stages (d := 0) ).up (by omega)) ?_
  refine wz_put (p9 := 86) (w1 := [.inr (.inr (6, [.ref 1, .ref 4, .ref 10, .ref 14, .null, .null, .null, .int (nI 0), .int (nI 0)])), .inr (.inr (0, [.int (nI P), .int (nI Mv), .ref 2, .ref 3])), .inl (0, 42, fun q => nI ((cz (fun q => q % 7) (fun _ => 0) 42) q)), .inl (0, 6, fun q => nI ((un (un (un (un (un (un (fun _ => 0) 0 1) 1 1) 2 1) 3 1) 4 1) 5 1) q)), .inr (.inr (1, [.ref 1, .ref 5, .int (nI 0), .ref 6, .ref 7, .ref 8, .int (nI 0), .ref 9, .int (nI 0), .int (nI 0), .int (nI 0), .int (nI 0), .int (nI 0)])), .inl (0, 100, fun q => nI ((fun _ => 0) q)), .inl (0, 8, fun q => nI ((fun _ => 0) q)), .inl (0, 8, fun q => nI ((fun _ => 0) q)), .inl (0, 8, fun q => nI ((fun _ => 0) q)), .inl (0, 400, fun q => nI ((fun _ => 0) q)), .inr (.inr (2, [.ref 1, .ref 11, .ref 12, .ref 13, .int (nI 0)])), .inl (0, 30, fun q => nI ((fun _ => 0) q)), .inl (0, 1200, fun q => nI ((fun _ => 0) q)), .inl (0, 210, fun q => nI ((fun _ => 0) q)), .inr (.inr (3, [.ref 10, .ref 15, .ref 16, .ref 17, .int (nI 0)])), .inl (0, 8, fun q => nI ((fun _ => 0) q)), .inl (0, 8, fun q => nI ((fun _ => 0) q)), .inl (0, 96, fun q => nI ((fun _ => 0) q))]) rfl rfl rfl rfl rfl rfl rfl rfl ?_
  refine wz_aload_n (p9 := 87) rfl rfl rfl ?_
  refine wz_new (n := 18) (ci := 4) (fs := [.null, .null, .null, .int (nI 0)]) (p9 := 90) rfl rfl rfl rfl rfl rfl ?_
  show wp X (d + 2) 73 (90, [.ref 0, .int x, .int y, .int (nI P), .int (nI Mv)], [.ref 18, .ref 0], [.inr (.inr (6, [.ref 1, .ref 4, .ref 10, .ref 14, .null, .null, .null, .int (nI 0), .int (nI 0)])), .inr (.inr (0, [.int (nI P), .int (nI Mv), .ref 2, .ref 3])), .inl (0, 42, fun q => nI ((cz (fun q => q % 7) (fun _ => 0) 42) q)), .inl (0, 6, fun q => nI ((un (un (un (un (un (un (fun _ => 0) 0 1) 1 1) 2 1) 3 1) 4 1) 5 1) q)), .inr (.inr (1, [.ref 1, .ref 5, .int (nI 0), .ref 6, .ref 7, .ref 8, .int (nI 0), .ref 9, .int (nI 0), .int (nI 0), .int (nI 0), .int (nI 0), .int (nI 0)])), .inl (0, 100, fun q => nI ((fun _ => 0) q)), .inl (0, 8, fun q => nI ((fun _ => 0) q)), .inl (0, 8, fun q => nI ((fun _ => 0) q)), .inl (0, 8, fun q => nI ((fun _ => 0) q)), .inl (0, 400, fun q => nI ((fun _ => 0) q)), .inr (.inr (2, [.ref 1, .ref 11, .ref 12, .ref 13, .int (nI 0)])), .inl (0, 30, fun q => nI ((fun _ => 0) q)), .inl (0, 1200, fun q => nI ((fun _ => 0) q)), .inl (0, 210, fun q => nI ((fun _ => 0) q)), .inr (.inr (3, [.ref 10, .ref 15, .ref 16, .ref 17, .int (nI 0)])), .inl (0, 8, fun q => nI ((fun _ => 0) q)), .inl (0, 8, fun q => nI ((fun _ => 0) q)), .inl (0, 96, fun q => nI ((fun _ => 0) q)), .inr (.inr (4, [.null, .null, .null, .int (nI 0)]))], 0 + 1 + (0 + 1 + 1) + 1 + (0 + 1 + 1 + 1 + 1 + 1) + 1 + (0 + 1 + 1 + 1) + 1 + (0 + 1 + 1 + 1) + 1, 0 + 4 + (0 + 42 + 6) + 13 + (0 + 100 + 8 + 8 + 8 + 400) + 5 + (0 + 30 + 1200 + 210) + 5 + (0 + 8 + 8 + 96) + 4) _
  refine wz_dupr (p9 := 91) rfl rfl ?_
  refine wz_aload_n (p9 := 92) rfl rfl rfl ?_
  refine wz_get (v := .ref 1) (p9 := 95) rfl rfl rfl rfl rfl ?_
  refine wz_ck (p9 := 98) (w1 := [.inr (.inr (6, [.ref 1, .ref 4, .ref 10, .ref 14, .null, .null, .null, .int (nI 0), .int (nI 0)])), .inr (.inr (0, [.int (nI P), .int (nI Mv), .ref 2, .ref 3])), .inl (0, 42, fun q => nI ((cz (fun q => q % 7) (fun _ => 0) 42) q)), .inl (0, 6, fun q => nI ((un (un (un (un (un (un (fun _ => 0) 0 1) 1 1) 2 1) 3 1) 4 1) 5 1) q)), .inr (.inr (1, [.ref 1, .ref 5, .int (nI 0), .ref 6, .ref 7, .ref 8, .int (nI 0), .ref 9, .int (nI 0), .int (nI 0), .int (nI 0), .int (nI 0), .int (nI 0)])), .inl (0, 100, fun q => nI ((fun _ => 0) q)), .inl (0, 8, fun q => nI ((fun _ => 0) q)), .inl (0, 8, fun q => nI ((fun _ => 0) q)), .inl (0, 8, fun q => nI ((fun _ => 0) q)), .inl (0, 400, fun q => nI ((fun _ => 0) q)), .inr (.inr (2, [.ref 1, .ref 11, .ref 12, .ref 13, .int (nI 0)])), .inl (0, 30, fun q => nI ((fun _ => 0) q)), .inl (0, 1200, fun q => nI ((fun _ => 0) q)), .inl (0, 210, fun q => nI ((fun _ => 0) q)), .inr (.inr (3, [.ref 10, .ref 15, .ref 16, .ref 17, .int (nI 0)])), .inl (0, 8, fun q => nI ((fun _ => 0) q)), .inl (0, 8, fun q => nI ((fun _ => 0) q)), .inl (0, 96, fun q => nI ((fun _ => 0) q)), .inr (.inr (4, [.ref 1, .ref 19, .ref 20, .int (nI 0)])), .inl (0, fa2 P, fun q => nI ((fun _ => 0) q)), .inl (0, ((fa2 P) / 32) + 1, fun q => nI ((fun _ => 0) q))]) (k1 := 0 + 1 + 1) (z1 := 0 + (fa2 P) + (((fa2 P) / 32) + 1)) (wa_i (N := 57) (i := 18) (As := [.ref 1]) (rest := [.ref 18, .ref 0]) rfl rfl rfl rfl rfl rfl rfl) rfl ((k_reach (d := 0) hp1 hp2).up (by omega)) ?_
  refine wz_put (p9 := 101) (w1 := [.inr (.inr (6, [.ref 1, .ref 4, .ref 10, .ref 14, .ref 18, .null, .null, .int (nI 0), .int (nI 0)])), .inr (.inr (0, [.int (nI P), .int (nI Mv), .ref 2, .ref 3])), .inl (0, 42, fun q => nI ((cz (fun q => q % 7) (fun _ => 0) 42) q)), .inl (0, 6, fun q => nI ((un (un (un (un (un (un (fun _ => 0) 0 1) 1 1) 2 1) 3 1) 4 1) 5 1) q)), .inr (.inr (1, [.ref 1, .ref 5, .int (nI 0), .ref 6, .ref 7, .ref 8, .int (nI 0), .ref 9, .int (nI 0), .int (nI 0), .int (nI 0), .int (nI 0), .int (nI 0)])), .inl (0, 100, fun q => nI ((fun _ => 0) q)), .inl (0, 8, fun q => nI ((fun _ => 0) q)), .inl (0, 8, fun q => nI ((fun _ => 0) q)), .inl (0, 8, fun q => nI ((fun _ => 0) q)), .inl (0, 400, fun q => nI ((fun _ => 0) q)), .inr (.inr (2, [.ref 1, .ref 11, .ref 12, .ref 13, .int (nI 0)])), .inl (0, 30, fun q => nI ((fun _ => 0) q)), .inl (0, 1200, fun q => nI ((fun _ => 0) q)), .inl (0, 210, fun q => nI ((fun _ => 0) q)), .inr (.inr (3, [.ref 10, .ref 15, .ref 16, .ref 17, .int (nI 0)])), .inl (0, 8, fun q => nI ((fun _ => 0) q)), .inl (0, 8, fun q => nI ((fun _ => 0) q)), .inl (0, 96, fun q => nI ((fun _ => 0) q)), .inr (.inr (4, [.ref 1, .ref 19, .ref 20, .int (nI 0)])), .inl (0, fa2 P, fun q => nI ((fun _ => 0) q)), .inl (0, ((fa2 P) / 32) + 1, fun q => nI ((fun _ => 0) q))]) rfl rfl rfl rfl rfl rfl rfl rfl ?_
  refine wz_aload_n (p9 := 102) rfl rfl rfl ?_
  refine wz_new (n := 21) (ci := 5) (fs := [.null, .null, .null, .int (nI 0), .null]) (p9 := 105) rfl rfl rfl rfl rfl rfl ?_
  show wp X (d + 2) 73 (105, [.ref 0, .int x, .int y, .int (nI P), .int (nI Mv)], [.ref 21, .ref 0], [.inr (.inr (6, [.ref 1, .ref 4, .ref 10, .ref 14, .ref 18, .null, .null, .int (nI 0), .int (nI 0)])), .inr (.inr (0, [.int (nI P), .int (nI Mv), .ref 2, .ref 3])), .inl (0, 42, fun q => nI ((cz (fun q => q % 7) (fun _ => 0) 42) q)), .inl (0, 6, fun q => nI ((un (un (un (un (un (un (fun _ => 0) 0 1) 1 1) 2 1) 3 1) 4 1) 5 1) q)), .inr (.inr (1, [.ref 1, .ref 5, .int (nI 0), .ref 6, .ref 7, .ref 8, .int (nI 0), .ref 9, .int (nI 0), .int (nI 0), .int (nI 0), .int (nI 0), .int (nI 0)])), .inl (0, 100, fun q => nI ((fun _ => 0) q)), .inl (0, 8, fun q => nI ((fun _ => 0) q)), .inl (0, 8, fun q => nI ((fun _ => 0) q)), .inl (0, 8, fun q => nI ((fun _ => 0) q)), .inl (0, 400, fun q => nI ((fun _ => 0) q)), .inr (.inr (2, [.ref 1, .ref 11, .ref 12, .ref 13, .int (nI 0)])), .inl (0, 30, fun q => nI ((fun _ => 0) q)), .inl (0, 1200, fun q => nI ((fun _ => 0) q)), .inl (0, 210, fun q => nI ((fun _ => 0) q)), .inr (.inr (3, [.ref 10, .ref 15, .ref 16, .ref 17, .int (nI 0)])), .inl (0, 8, fun q => nI ((fun _ => 0) q)), .inl (0, 8, fun q => nI ((fun _ => 0) q)), .inl (0, 96, fun q => nI ((fun _ => 0) q)), .inr (.inr (4, [.ref 1, .ref 19, .ref 20, .int (nI 0)])), .inl (0, fa2 P, fun q => nI ((fun _ => 0) q)), .inl (0, ((fa2 P) / 32) + 1, fun q => nI ((fun _ => 0) q)), .inr (.inr (5, [.null, .null, .null, .int (nI 0), .null]))], 0 + 1 + (0 + 1 + 1) + 1 + (0 + 1 + 1 + 1 + 1 + 1) + 1 + (0 + 1 + 1 + 1) + 1 + (0 + 1 + 1 + 1) + 1 + (0 + 1 + 1) + 1, 0 + 4 + (0 + 42 + 6) + 13 + (0 + 100 + 8 + 8 + 8 + 400) + 5 + (0 + 30 + 1200 + 210) + 5 + (0 + 8 + 8 + 96) + 4 + (0 + (fa2 P) + (((fa2 P) / 32) + 1)) + 5) _
  refine wz_dupr (p9 := 106) rfl rfl ?_
  refine wz_aload_n (p9 := 107) rfl rfl rfl ?_
  refine wz_get (v := .ref 1) (p9 := 110) rfl rfl rfl rfl rfl ?_
  refine wz_ck (p9 := 113) (w1 := [.inr (.inr (6, [.ref 1, .ref 4, .ref 10, .ref 14, .ref 18, .null, .null, .int (nI 0), .int (nI 0)])), .inr (.inr (0, [.int (nI P), .int (nI Mv), .ref 2, .ref 3])), .inl (0, 42, fun q => nI ((cz (fun q => q % 7) (fun _ => 0) 42) q)), .inl (0, 6, fun q => nI ((un (un (un (un (un (un (fun _ => 0) 0 1) 1 1) 2 1) 3 1) 4 1) 5 1) q)), .inr (.inr (1, [.ref 1, .ref 5, .int (nI 0), .ref 6, .ref 7, .ref 8, .int (nI 0), .ref 9, .int (nI 0), .int (nI 0), .int (nI 0), .int (nI 0), .int (nI 0)])), .inl (0, 100, fun q => nI ((fun _ => 0) q)), .inl (0, 8, fun q => nI ((fun _ => 0) q)), .inl (0, 8, fun q => nI ((fun _ => 0) q)), .inl (0, 8, fun q => nI ((fun _ => 0) q)), .inl (0, 400, fun q => nI ((fun _ => 0) q)), .inr (.inr (2, [.ref 1, .ref 11, .ref 12, .ref 13, .int (nI 0)])), .inl (0, 30, fun q => nI ((fun _ => 0) q)), .inl (0, 1200, fun q => nI ((fun _ => 0) q)), .inl (0, 210, fun q => nI ((fun _ => 0) q)), .inr (.inr (3, [.ref 10, .ref 15, .ref 16, .ref 17, .int (nI 0)])), .inl (0, 8, fun q => nI ((fun _ => 0) q)), .inl (0, 8, fun q => nI ((fun _ => 0) q)), .inl (0, 96, fun q => nI ((fun _ => 0) q)), .inr (.inr (4, [.ref 1, .ref 19, .ref 20, .int (nI 0)])), .inl (0, fa2 P, fun q => nI ((fun _ => 0) q)), .inl (0, ((fa2 P) / 32) + 1, fun q => nI ((fun _ => 0) q)), .inr (.inr (5, [.ref 1, .ref 22, .ref 23, .int (nI 0), .ref 24])), .inl (0, 512, fun q => nI ((fun _ => 0) q)), .inl (0, 512, fun q => nI ((fun _ => 0) q)), .inl (0, 9, fun q => nI ((fun _ => 0) q))]) (k1 := 0 + 1 + 1 + 1) (z1 := 0 + 512 + 512 + 9) (wa_i (N := 64) (i := 21) (As := [.ref 1]) (rest := [.ref 21, .ref 0]) rfl rfl rfl rfl rfl rfl rfl) rfl ((k_search (d := 0) ).up (by omega)) ?_
  refine wz_put (p9 := 116) (w1 := [.inr (.inr (6, [.ref 1, .ref 4, .ref 10, .ref 14, .ref 18, .ref 21, .null, .int (nI 0), .int (nI 0)])), .inr (.inr (0, [.int (nI P), .int (nI Mv), .ref 2, .ref 3])), .inl (0, 42, fun q => nI ((cz (fun q => q % 7) (fun _ => 0) 42) q)), .inl (0, 6, fun q => nI ((un (un (un (un (un (un (fun _ => 0) 0 1) 1 1) 2 1) 3 1) 4 1) 5 1) q)), .inr (.inr (1, [.ref 1, .ref 5, .int (nI 0), .ref 6, .ref 7, .ref 8, .int (nI 0), .ref 9, .int (nI 0), .int (nI 0), .int (nI 0), .int (nI 0), .int (nI 0)])), .inl (0, 100, fun q => nI ((fun _ => 0) q)), .inl (0, 8, fun q => nI ((fun _ => 0) q)), .inl (0, 8, fun q => nI ((fun _ => 0) q)), .inl (0, 8, fun q => nI ((fun _ => 0) q)), .inl (0, 400, fun q => nI ((fun _ => 0) q)), .inr (.inr (2, [.ref 1, .ref 11, .ref 12, .ref 13, .int (nI 0)])), .inl (0, 30, fun q => nI ((fun _ => 0) q)), .inl (0, 1200, fun q => nI ((fun _ => 0) q)), .inl (0, 210, fun q => nI ((fun _ => 0) q)), .inr (.inr (3, [.ref 10, .ref 15, .ref 16, .ref 17, .int (nI 0)])), .inl (0, 8, fun q => nI ((fun _ => 0) q)), .inl (0, 8, fun q => nI ((fun _ => 0) q)), .inl (0, 96, fun q => nI ((fun _ => 0) q)), .inr (.inr (4, [.ref 1, .ref 19, .ref 20, .int (nI 0)])), .inl (0, fa2 P, fun q => nI ((fun _ => 0) q)), .inl (0, ((fa2 P) / 32) + 1, fun q => nI ((fun _ => 0) q)), .inr (.inr (5, [.ref 1, .ref 22, .ref 23, .int (nI 0), .ref 24])), .inl (0, 512, fun q => nI ((fun _ => 0) q)), .inl (0, 512, fun q => nI ((fun _ => 0) q)), .inl (0, 9, fun q => nI ((fun _ => 0) q))]) rfl rfl rfl rfl rfl rfl rfl rfl ?_
  refine wz_aload_n (p9 := 117) rfl rfl rfl ?_
  refine wz_bipush (x := nI 7) (p9 := 119) rfl rfl (by decide) ?_
  refine wz_newa (n := 25) (x := 7) (p9 := 121) rfl rfl (by decide) rfl ?_
  show wp X (d + 2) 73 (121, [.ref 0, .int x, .int y, .int (nI P), .int (nI Mv)], [.ref 25, .ref 0], [.inr (.inr (6, [.ref 1, .ref 4, .ref 10, .ref 14, .ref 18, .ref 21, .null, .int (nI 0), .int (nI 0)])), .inr (.inr (0, [.int (nI P), .int (nI Mv), .ref 2, .ref 3])), .inl (0, 42, fun q => nI ((cz (fun q => q % 7) (fun _ => 0) 42) q)), .inl (0, 6, fun q => nI ((un (un (un (un (un (un (fun _ => 0) 0 1) 1 1) 2 1) 3 1) 4 1) 5 1) q)), .inr (.inr (1, [.ref 1, .ref 5, .int (nI 0), .ref 6, .ref 7, .ref 8, .int (nI 0), .ref 9, .int (nI 0), .int (nI 0), .int (nI 0), .int (nI 0), .int (nI 0)])), .inl (0, 100, fun q => nI ((fun _ => 0) q)), .inl (0, 8, fun q => nI ((fun _ => 0) q)), .inl (0, 8, fun q => nI ((fun _ => 0) q)), .inl (0, 8, fun q => nI ((fun _ => 0) q)), .inl (0, 400, fun q => nI ((fun _ => 0) q)), .inr (.inr (2, [.ref 1, .ref 11, .ref 12, .ref 13, .int (nI 0)])), .inl (0, 30, fun q => nI ((fun _ => 0) q)), .inl (0, 1200, fun q => nI ((fun _ => 0) q)), .inl (0, 210, fun q => nI ((fun _ => 0) q)), .inr (.inr (3, [.ref 10, .ref 15, .ref 16, .ref 17, .int (nI 0)])), .inl (0, 8, fun q => nI ((fun _ => 0) q)), .inl (0, 8, fun q => nI ((fun _ => 0) q)), .inl (0, 96, fun q => nI ((fun _ => 0) q)), .inr (.inr (4, [.ref 1, .ref 19, .ref 20, .int (nI 0)])), .inl (0, fa2 P, fun q => nI ((fun _ => 0) q)), .inl (0, ((fa2 P) / 32) + 1, fun q => nI ((fun _ => 0) q)), .inr (.inr (5, [.ref 1, .ref 22, .ref 23, .int (nI 0), .ref 24])), .inl (0, 512, fun q => nI ((fun _ => 0) q)), .inl (0, 512, fun q => nI ((fun _ => 0) q)), .inl (0, 9, fun q => nI ((fun _ => 0) q)), .inl (0, 7, fun q => nI ((fun _ => 0) q))], 0 + 1 + (0 + 1 + 1) + 1 + (0 + 1 + 1 + 1 + 1 + 1) + 1 + (0 + 1 + 1 + 1) + 1 + (0 + 1 + 1 + 1) + 1 + (0 + 1 + 1) + 1 + (0 + 1 + 1 + 1) + 1, 0 + 4 + (0 + 42 + 6) + 13 + (0 + 100 + 8 + 8 + 8 + 400) + 5 + (0 + 30 + 1200 + 210) + 5 + (0 + 8 + 8 + 96) + 4 + (0 + (fa2 P) + (((fa2 P) / 32) + 1)) + 5 + (0 + 512 + 512 + 9) + 7) _
  refine wz_put (p9 := 124) (w1 := [.inr (.inr (6, [.ref 1, .ref 4, .ref 10, .ref 14, .ref 18, .ref 21, .ref 25, .int (nI 0), .int (nI 0)])), .inr (.inr (0, [.int (nI P), .int (nI Mv), .ref 2, .ref 3])), .inl (0, 42, fun q => nI ((cz (fun q => q % 7) (fun _ => 0) 42) q)), .inl (0, 6, fun q => nI ((un (un (un (un (un (un (fun _ => 0) 0 1) 1 1) 2 1) 3 1) 4 1) 5 1) q)), .inr (.inr (1, [.ref 1, .ref 5, .int (nI 0), .ref 6, .ref 7, .ref 8, .int (nI 0), .ref 9, .int (nI 0), .int (nI 0), .int (nI 0), .int (nI 0), .int (nI 0)])), .inl (0, 100, fun q => nI ((fun _ => 0) q)), .inl (0, 8, fun q => nI ((fun _ => 0) q)), .inl (0, 8, fun q => nI ((fun _ => 0) q)), .inl (0, 8, fun q => nI ((fun _ => 0) q)), .inl (0, 400, fun q => nI ((fun _ => 0) q)), .inr (.inr (2, [.ref 1, .ref 11, .ref 12, .ref 13, .int (nI 0)])), .inl (0, 30, fun q => nI ((fun _ => 0) q)), .inl (0, 1200, fun q => nI ((fun _ => 0) q)), .inl (0, 210, fun q => nI ((fun _ => 0) q)), .inr (.inr (3, [.ref 10, .ref 15, .ref 16, .ref 17, .int (nI 0)])), .inl (0, 8, fun q => nI ((fun _ => 0) q)), .inl (0, 8, fun q => nI ((fun _ => 0) q)), .inl (0, 96, fun q => nI ((fun _ => 0) q)), .inr (.inr (4, [.ref 1, .ref 19, .ref 20, .int (nI 0)])), .inl (0, fa2 P, fun q => nI ((fun _ => 0) q)), .inl (0, ((fa2 P) / 32) + 1, fun q => nI ((fun _ => 0) q)), .inr (.inr (5, [.ref 1, .ref 22, .ref 23, .int (nI 0), .ref 24])), .inl (0, 512, fun q => nI ((fun _ => 0) q)), .inl (0, 512, fun q => nI ((fun _ => 0) q)), .inl (0, 9, fun q => nI ((fun _ => 0) q)), .inl (0, 7, fun q => nI ((fun _ => 0) q))]) rfl rfl rfl rfl rfl rfl rfl rfl ?_
  refine wz_aload_n (p9 := 125) rfl rfl rfl ?_
  refine wz_iload_n (p9 := 126) rfl rfl rfl ?_
  refine wz_c1 (p9 := 129) (w1 := [.inr (.inr (6, [.ref 1, .ref 4, .ref 10, .ref 14, .ref 18, .ref 21, .ref 25, .int (nI 0), .int (nI 0)])), .inr (.inr (0, [.int (nI P), .int (nI Mv), .ref 2, .ref 3])), .inl (0, 42, fun q => nI ((cz (fun q => q % 7) (fun _ => 0) 42) q)), .inl (0, 6, fun q => nI ((un (un (un (un (un (un (fun _ => 0) 0 1) 1 1) 2 1) 3 1) 4 1) 5 1) q)), .inr (.inr (1, [.ref 1, .ref 5, .int (nI 0), .ref 6, .ref 7, .ref 8, .int (nI 0), .ref 9, .int (nI 0), .int (nI 0), .int (nI 0), .int (nI 0), .int (nI 0)])), .inl (0, 100, fun q => nI ((fun _ => 0) q)), .inl (0, 8, fun q => nI ((fun _ => 0) q)), .inl (0, 8, fun q => nI ((fun _ => 0) q)), .inl (0, 8, fun q => nI ((fun _ => 0) q)), .inl (0, 400, fun q => nI ((fun _ => 0) q)), .inr (.inr (2, [.ref 1, .ref 11, .ref 12, .ref 13, .int (nI 0)])), .inl (0, 30, fun q => nI ((fun _ => 0) q)), .inl (0, 1200, fun q => nI ((fun _ => 0) q)), .inl (0, 210, fun q => nI ((fun _ => 0) q)), .inr (.inr (3, [.ref 10, .ref 15, .ref 16, .ref 17, .int (nI 0)])), .inl (0, 8, fun q => nI ((fun _ => 0) q)), .inl (0, 8, fun q => nI ((fun _ => 0) q)), .inl (0, 96, fun q => nI ((fun _ => 0) q)), .inr (.inr (4, [.ref 1, .ref 19, .ref 20, .int (nI 0)])), .inl (0, fa2 P, fun q => nI ((fun _ => 0) q)), .inl (0, ((fa2 P) / 32) + 1, fun q => nI ((fun _ => 0) q)), .inr (.inr (5, [.ref 1, .ref 22, .ref 23, .int (nI 0), .ref 24])), .inl (0, 512, fun q => nI ((fun _ => 0) q)), .inl (0, 512, fun q => nI ((fun _ => 0) q)), .inl (0, 9, fun q => nI ((fun _ => 0) q)), .inl (0, 7, fun q => nI ((fun _ => 0) q))]) (u := .int (nI (hm8 P))) (tz_calS (N := 151) (As := [.int (nI P)]) (rest := [.ref 0]) rfl rfl rfl rfl rfl rfl) rfl (by have h9 := f_allHome (X := X) (d := 0) (n := 26) (c := fun i => ([.inr (.inr (6, [.ref 1, .ref 4, .ref 10, .ref 14, .ref 18, .ref 21, .ref 25, .int (nI 0), .int (nI 0)])), .inr (.inr (0, [.int (nI P), .int (nI Mv), .ref 2, .ref 3])), .inl (0, 42, fun q => nI ((cz (fun q => q % 7) (fun _ => 0) 42) q)), .inl (0, 6, fun q => nI ((un (un (un (un (un (un (fun _ => 0) 0 1) 1 1) 2 1) 3 1) 4 1) 5 1) q)), .inr (.inr (1, [.ref 1, .ref 5, .int (nI 0), .ref 6, .ref 7, .ref 8, .int (nI 0), .ref 9, .int (nI 0), .int (nI 0), .int (nI 0), .int (nI 0), .int (nI 0)])), .inl (0, 100, fun q => nI ((fun _ => 0) q)), .inl (0, 8, fun q => nI ((fun _ => 0) q)), .inl (0, 8, fun q => nI ((fun _ => 0) q)), .inl (0, 8, fun q => nI ((fun _ => 0) q)), .inl (0, 400, fun q => nI ((fun _ => 0) q)), .inr (.inr (2, [.ref 1, .ref 11, .ref 12, .ref 13, .int (nI 0)])), .inl (0, 30, fun q => nI ((fun _ => 0) q)), .inl (0, 1200, fun q => nI ((fun _ => 0) q)), .inl (0, 210, fun q => nI ((fun _ => 0) q)), .inr (.inr (3, [.ref 10, .ref 15, .ref 16, .ref 17, .int (nI 0)])), .inl (0, 8, fun q => nI ((fun _ => 0) q)), .inl (0, 8, fun q => nI ((fun _ => 0) q)), .inl (0, 96, fun q => nI ((fun _ => 0) q)), .inr (.inr (4, [.ref 1, .ref 19, .ref 20, .int (nI 0)])), .inl (0, fa2 P, fun q => nI ((fun _ => 0) q)), .inl (0, ((fa2 P) / 32) + 1, fun q => nI ((fun _ => 0) q)), .inr (.inr (5, [.ref 1, .ref 22, .ref 23, .int (nI 0), .ref 24])), .inl (0, 512, fun q => nI ((fun _ => 0) q)), .inl (0, 512, fun q => nI ((fun _ => 0) q)), .inl (0, 9, fun q => nI ((fun _ => 0) q)), .inl (0, 7, fun q => nI ((fun _ => 0) q))]).getD i (.inl (0, 0, fun _ => 0))) hp2; rw [show wl 26 (fun i => ([.inr (.inr (6, [.ref 1, .ref 4, .ref 10, .ref 14, .ref 18, .ref 21, .ref 25, .int (nI 0), .int (nI 0)])), .inr (.inr (0, [.int (nI P), .int (nI Mv), .ref 2, .ref 3])), .inl (0, 42, fun q => nI ((cz (fun q => q % 7) (fun _ => 0) 42) q)), .inl (0, 6, fun q => nI ((un (un (un (un (un (un (fun _ => 0) 0 1) 1 1) 2 1) 3 1) 4 1) 5 1) q)), .inr (.inr (1, [.ref 1, .ref 5, .int (nI 0), .ref 6, .ref 7, .ref 8, .int (nI 0), .ref 9, .int (nI 0), .int (nI 0), .int (nI 0), .int (nI 0), .int (nI 0)])), .inl (0, 100, fun q => nI ((fun _ => 0) q)), .inl (0, 8, fun q => nI ((fun _ => 0) q)), .inl (0, 8, fun q => nI ((fun _ => 0) q)), .inl (0, 8, fun q => nI ((fun _ => 0) q)), .inl (0, 400, fun q => nI ((fun _ => 0) q)), .inr (.inr (2, [.ref 1, .ref 11, .ref 12, .ref 13, .int (nI 0)])), .inl (0, 30, fun q => nI ((fun _ => 0) q)), .inl (0, 1200, fun q => nI ((fun _ => 0) q)), .inl (0, 210, fun q => nI ((fun _ => 0) q)), .inr (.inr (3, [.ref 10, .ref 15, .ref 16, .ref 17, .int (nI 0)])), .inl (0, 8, fun q => nI ((fun _ => 0) q)), .inl (0, 8, fun q => nI ((fun _ => 0) q)), .inl (0, 96, fun q => nI ((fun _ => 0) q)), .inr (.inr (4, [.ref 1, .ref 19, .ref 20, .int (nI 0)])), .inl (0, fa2 P, fun q => nI ((fun _ => 0) q)), .inl (0, ((fa2 P) / 32) + 1, fun q => nI ((fun _ => 0) q)), .inr (.inr (5, [.ref 1, .ref 22, .ref 23, .int (nI 0), .ref 24])), .inl (0, 512, fun q => nI ((fun _ => 0) q)), .inl (0, 512, fun q => nI ((fun _ => 0) q)), .inl (0, 9, fun q => nI ((fun _ => 0) q)), .inl (0, 7, fun q => nI ((fun _ => 0) q))]).getD i (.inl (0, 0, fun _ => 0))) = [.inr (.inr (6, [.ref 1, .ref 4, .ref 10, .ref 14, .ref 18, .ref 21, .ref 25, .int (nI 0), .int (nI 0)])), .inr (.inr (0, [.int (nI P), .int (nI Mv), .ref 2, .ref 3])), .inl (0, 42, fun q => nI ((cz (fun q => q % 7) (fun _ => 0) 42) q)), .inl (0, 6, fun q => nI ((un (un (un (un (un (un (fun _ => 0) 0 1) 1 1) 2 1) 3 1) 4 1) 5 1) q)), .inr (.inr (1, [.ref 1, .ref 5, .int (nI 0), .ref 6, .ref 7, .ref 8, .int (nI 0), .ref 9, .int (nI 0), .int (nI 0), .int (nI 0), .int (nI 0), .int (nI 0)])), .inl (0, 100, fun q => nI ((fun _ => 0) q)), .inl (0, 8, fun q => nI ((fun _ => 0) q)), .inl (0, 8, fun q => nI ((fun _ => 0) q)), .inl (0, 8, fun q => nI ((fun _ => 0) q)), .inl (0, 400, fun q => nI ((fun _ => 0) q)), .inr (.inr (2, [.ref 1, .ref 11, .ref 12, .ref 13, .int (nI 0)])), .inl (0, 30, fun q => nI ((fun _ => 0) q)), .inl (0, 1200, fun q => nI ((fun _ => 0) q)), .inl (0, 210, fun q => nI ((fun _ => 0) q)), .inr (.inr (3, [.ref 10, .ref 15, .ref 16, .ref 17, .int (nI 0)])), .inl (0, 8, fun q => nI ((fun _ => 0) q)), .inl (0, 8, fun q => nI ((fun _ => 0) q)), .inl (0, 96, fun q => nI ((fun _ => 0) q)), .inr (.inr (4, [.ref 1, .ref 19, .ref 20, .int (nI 0)])), .inl (0, fa2 P, fun q => nI ((fun _ => 0) q)), .inl (0, ((fa2 P) / 32) + 1, fun q => nI ((fun _ => 0) q)), .inr (.inr (5, [.ref 1, .ref 22, .ref 23, .int (nI 0), .ref 24])), .inl (0, 512, fun q => nI ((fun _ => 0) q)), .inl (0, 512, fun q => nI ((fun _ => 0) q)), .inl (0, 9, fun q => nI ((fun _ => 0) q)), .inl (0, 7, fun q => nI ((fun _ => 0) q))] from wl_of (l := [.inr (.inr (6, [.ref 1, .ref 4, .ref 10, .ref 14, .ref 18, .ref 21, .ref 25, .int (nI 0), .int (nI 0)])), .inr (.inr (0, [.int (nI P), .int (nI Mv), .ref 2, .ref 3])), .inl (0, 42, fun q => nI ((cz (fun q => q % 7) (fun _ => 0) 42) q)), .inl (0, 6, fun q => nI ((un (un (un (un (un (un (fun _ => 0) 0 1) 1 1) 2 1) 3 1) 4 1) 5 1) q)), .inr (.inr (1, [.ref 1, .ref 5, .int (nI 0), .ref 6, .ref 7, .ref 8, .int (nI 0), .ref 9, .int (nI 0), .int (nI 0), .int (nI 0), .int (nI 0), .int (nI 0)])), .inl (0, 100, fun q => nI ((fun _ => 0) q)), .inl (0, 8, fun q => nI ((fun _ => 0) q)), .inl (0, 8, fun q => nI ((fun _ => 0) q)), .inl (0, 8, fun q => nI ((fun _ => 0) q)), .inl (0, 400, fun q => nI ((fun _ => 0) q)), .inr (.inr (2, [.ref 1, .ref 11, .ref 12, .ref 13, .int (nI 0)])), .inl (0, 30, fun q => nI ((fun _ => 0) q)), .inl (0, 1200, fun q => nI ((fun _ => 0) q)), .inl (0, 210, fun q => nI ((fun _ => 0) q)), .inr (.inr (3, [.ref 10, .ref 15, .ref 16, .ref 17, .int (nI 0)])), .inl (0, 8, fun q => nI ((fun _ => 0) q)), .inl (0, 8, fun q => nI ((fun _ => 0) q)), .inl (0, 96, fun q => nI ((fun _ => 0) q)), .inr (.inr (4, [.ref 1, .ref 19, .ref 20, .int (nI 0)])), .inl (0, fa2 P, fun q => nI ((fun _ => 0) q)), .inl (0, ((fa2 P) / 32) + 1, fun q => nI ((fun _ => 0) q)), .inr (.inr (5, [.ref 1, .ref 22, .ref 23, .int (nI 0), .ref 24])), .inl (0, 512, fun q => nI ((fun _ => 0) q)), .inl (0, 512, fun q => nI ((fun _ => 0) q)), .inl (0, 9, fun q => nI ((fun _ => 0) q)), .inl (0, 7, fun q => nI ((fun _ => 0) q))])] at h9; exact h9.up (by omega)) ?_
  refine wz_put (p9 := 132) (w1 := [.inr (.inr (6, [.ref 1, .ref 4, .ref 10, .ref 14, .ref 18, .ref 21, .ref 25, .int (nI 0), .int (nI (hm8 P))])), .inr (.inr (0, [.int (nI P), .int (nI Mv), .ref 2, .ref 3])), .inl (0, 42, fun q => nI ((cz (fun q => q % 7) (fun _ => 0) 42) q)), .inl (0, 6, fun q => nI ((un (un (un (un (un (un (fun _ => 0) 0 1) 1 1) 2 1) 3 1) 4 1) 5 1) q)), .inr (.inr (1, [.ref 1, .ref 5, .int (nI 0), .ref 6, .ref 7, .ref 8, .int (nI 0), .ref 9, .int (nI 0), .int (nI 0), .int (nI 0), .int (nI 0), .int (nI 0)])), .inl (0, 100, fun q => nI ((fun _ => 0) q)), .inl (0, 8, fun q => nI ((fun _ => 0) q)), .inl (0, 8, fun q => nI ((fun _ => 0) q)), .inl (0, 8, fun q => nI ((fun _ => 0) q)), .inl (0, 400, fun q => nI ((fun _ => 0) q)), .inr (.inr (2, [.ref 1, .ref 11, .ref 12, .ref 13, .int (nI 0)])), .inl (0, 30, fun q => nI ((fun _ => 0) q)), .inl (0, 1200, fun q => nI ((fun _ => 0) q)), .inl (0, 210, fun q => nI ((fun _ => 0) q)), .inr (.inr (3, [.ref 10, .ref 15, .ref 16, .ref 17, .int (nI 0)])), .inl (0, 8, fun q => nI ((fun _ => 0) q)), .inl (0, 8, fun q => nI ((fun _ => 0) q)), .inl (0, 96, fun q => nI ((fun _ => 0) q)), .inr (.inr (4, [.ref 1, .ref 19, .ref 20, .int (nI 0)])), .inl (0, fa2 P, fun q => nI ((fun _ => 0) q)), .inl (0, ((fa2 P) / 32) + 1, fun q => nI ((fun _ => 0) q)), .inr (.inr (5, [.ref 1, .ref 22, .ref 23, .int (nI 0), .ref 24])), .inl (0, 512, fun q => nI ((fun _ => 0) q)), .inl (0, 512, fun q => nI ((fun _ => 0) q)), .inl (0, 9, fun q => nI ((fun _ => 0) q)), .inl (0, 7, fun q => nI ((fun _ => 0) q))]) rfl rfl rfl rfl rfl rfl rfl rfl ?_
  exact wz_retv rfl rfl rfl
