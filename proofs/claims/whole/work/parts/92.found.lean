/-! THE CLASS: fill, bitCount, ranks, the states found (wip/whole/gen/mk92.py) -/
def fil (v : Nat) (f : Nat → Nat) (i : Nat) : Nat → Nat := fun q => if q < i then v else f q
theorem fil_0 {v : Nat} {f : Nat → Nat} : fil v f 0 = f := by funext q; unfold fil; rw [if_neg (by omega)]
theorem fil_s {v i : Nat} {f : Nat → Nat} : un (fil v f i) i v = fil v f (i + 1) := by
  funext q
  by_cases h : q = i
  · rw [h, un_at]; unfold fil; rw [if_pos (by omega)]
  · rw [un_ne h]
    unfold fil
    by_cases h2 : q < i
    · rw [if_pos h2, if_pos (by omega)]
    · rw [if_neg h2, if_neg (by omega)]
theorem l_fillS {X : Nat × (Nat → Int32)} {d : Nat} {A : CA} {R : RA} {o : Nat → Int64} (hl_se : A.sl ≤ 158) {k z : Nat} {Q : px_Z → Prop} (kk : Q (some none, WW (CA.s_se A (fil 0 A.se A.sl)) R o, k, z)) : ∀ (j i : Nat), i + j = A.sl → wp X d 171 (5, [.ref 20, .int (nI 0), .int (nI i), .int (nI A.sl)], [], WW (CA.s_se A (fil 0 A.se i)) R o, k, z) Q
  | 0, i, hj => by
    obtain rfl : i = A.sl := by omega
    refine wz_iload_n (p9 := 6) rfl rfl rfl ?_
    refine wz_iload_n (p9 := 7) rfl rfl rfl ?_
    refine wn_icge (t9 := 20) (p9 := 10) rfl rfl rfl (by omega) (by omega) (fun _ => ?_) (fun h9 => by omega)
    exact wz_retv rfl rfl kk
  | j + 1, i, hj => by
    refine wz_iload_n (p9 := 6) rfl rfl rfl ?_
    refine wz_iload_n (p9 := 7) rfl rfl rfl ?_
    refine wn_icge (t9 := 20) (p9 := 10) rfl rfl rfl (by omega) (by omega) (fun h9 => by omega) (fun _ => ?_)
    refine wz_aload_n (p9 := 11) rfl rfl rfl ?_
    refine wz_iload_n (p9 := 12) rfl rfl rfl ?_
    refine wz_iload_n (p9 := 13) rfl rfl rfl ?_
    refine ws_Ase (f := fil 0 A.se i) (p9 := 14) rfl rfl rfl (show A.sl ≤ 2147483648 by have := hl_se; omega) (show i < A.sl by omega) (A1 := (CA.s_se A (un (fil 0 A.se i) i 0))) rfl ?_
    refine wn_inc (b := 1) (l9 := [.ref 20, .int (nI 0), .int (nI (i + 1)), .int (nI A.sl)]) (p9 := 17) rfl rfl rfl (by decide) rfl ?_
    refine wz_goto (p9 := 5) rfl rfl ?_
    rw [fil_s]
    exact l_fillS hl_se kk j (i + 1) (by omega)
theorem g_fillS {X : Nat × (Nat → Int32)} {d : Nat} {A : CA} {R : RA} {o : Nat → Int64} (hl_se : A.sl ≤ 158) : px_ev X (d + 1) 171 [.ref 20, .int (nI 0)] (WW A R o) (some none, WW (CA.s_se A (fil 0 A.se A.sl)) R o, 0, 0) := by
  refine wp_ev (d := d + 0) (by decide) rfl rfl (fun h => by cases h) ?_
  show wp X (d + 0) 171 (0, [.ref 20, .int (nI 0), .retAddr 0, .retAddr 0], [], WW A R o, 0, 0) _
  refine wz_iconst (x := nI 0) (p9 := 1) rfl rfl (by decide) ?_
  refine wz_istore_n (l9 := [.ref 20, .int (nI 0), .int (nI 0), .retAddr 0]) (p9 := 2) rfl rfl rfl rfl ?_
  refine wz_aload_n (p9 := 3) rfl rfl rfl ?_
  refine wz_alen (t := 0) (v := nI A.sl) (p9 := 4) rfl rfl rfl rfl ?_
  refine wz_istore_n (l9 := [.ref 20, .int (nI 0), .int (nI 0), .int (nI A.sl)]) (p9 := 5) rfl rfl rfl rfl ?_
  have h9 := l_fillS (X := X) (d := d) (A := A) (R := R) (o := o) hl_se (k := 0) (z := 0) (Q := fun q => q = (some none, WW (CA.s_se A (fil 0 A.se A.sl)) R o, 0, 0)) rfl A.sl 0 (Nat.zero_add _)
  rw [fil_0] at h9
  exact h9
theorem l_fillF {X : Nat × (Nat → Int32)} {d : Nat} {A : CA} {R : RA} {o : Nat → Int64}  {k z : Nat} {Q : px_Z → Prop} (kk : Q (some none, WW (CA.s_fa A (fil 4294967295 A.fa 512)) R o, k, z)) : ∀ (j i : Nat), i + j = 512 → wp X d 171 (5, [.ref 22, .int (nI 4294967295), .int (nI i), .int (nI 512)], [], WW (CA.s_fa A (fil 4294967295 A.fa i)) R o, k, z) Q
  | 0, i, hj => by
    obtain rfl : i = 512 := by omega
    refine wz_iload_n (p9 := 6) rfl rfl rfl ?_
    refine wz_iload_n (p9 := 7) rfl rfl rfl ?_
    refine wn_icge (t9 := 20) (p9 := 10) rfl rfl rfl (by omega) (by omega) (fun _ => ?_) (fun h9 => by omega)
    exact wz_retv rfl rfl kk
  | j + 1, i, hj => by
    refine wz_iload_n (p9 := 6) rfl rfl rfl ?_
    refine wz_iload_n (p9 := 7) rfl rfl rfl ?_
    refine wn_icge (t9 := 20) (p9 := 10) rfl rfl rfl (by omega) (by omega) (fun h9 => by omega) (fun _ => ?_)
    refine wz_aload_n (p9 := 11) rfl rfl rfl ?_
    refine wz_iload_n (p9 := 12) rfl rfl rfl ?_
    refine wz_iload_n (p9 := 13) rfl rfl rfl ?_
    refine ws_Afa (f := fil 4294967295 A.fa i) (p9 := 14) rfl rfl rfl (by omega) (A1 := (CA.s_fa A (un (fil 4294967295 A.fa i) i 4294967295))) rfl ?_
    refine wn_inc (b := 1) (l9 := [.ref 22, .int (nI 4294967295), .int (nI (i + 1)), .int (nI 512)]) (p9 := 17) rfl rfl rfl (by decide) rfl ?_
    refine wz_goto (p9 := 5) rfl rfl ?_
    rw [fil_s]
    exact l_fillF  kk j (i + 1) (by omega)
theorem g_fillF {X : Nat × (Nat → Int32)} {d : Nat} {A : CA} {R : RA} {o : Nat → Int64}  : px_ev X (d + 1) 171 [.ref 22, .int (-1)] (WW A R o) (some none, WW (CA.s_fa A (fil 4294967295 A.fa 512)) R o, 0, 0) := by
  refine wp_ev (d := d + 0) (by decide) rfl rfl (fun h => by cases h) ?_
  rw [show (-1 : Int32) = nI 4294967295 by decide]
  show wp X (d + 0) 171 (0, [.ref 22, .int (nI 4294967295), .retAddr 0, .retAddr 0], [], WW A R o, 0, 0) _
  refine wz_iconst (x := nI 0) (p9 := 1) rfl rfl (by decide) ?_
  refine wz_istore_n (l9 := [.ref 22, .int (nI 4294967295), .int (nI 0), .retAddr 0]) (p9 := 2) rfl rfl rfl rfl ?_
  refine wz_aload_n (p9 := 3) rfl rfl rfl ?_
  refine wz_alen (t := 0) (v := nI 512) (p9 := 4) rfl rfl rfl rfl ?_
  refine wz_istore_n (l9 := [.ref 22, .int (nI 4294967295), .int (nI 0), .int (nI 512)]) (p9 := 5) rfl rfl rfl rfl ?_
  have h9 := l_fillF (X := X) (d := d) (A := A) (R := R) (o := o)  (k := 0) (z := 0) (Q := fun q => q = (some none, WW (CA.s_fa A (fil 4294967295 A.fa 512)) R o, 0, 0)) rfl 512 0 (Nat.zero_add _)
  rw [fil_0] at h9
  exact h9
def bcf (x : Int32) : Int32 := ((((((((x - (((x.toUInt32 >>> ((nI 1).toUInt32 &&& Int32.toUInt32 31)).toInt32) &&& (nI 1431655765))) &&& (nI 858993459)) + ((((x - (((x.toUInt32 >>> ((nI 1).toUInt32 &&& Int32.toUInt32 31)).toInt32) &&& (nI 1431655765))).toUInt32 >>> ((nI 2).toUInt32 &&& Int32.toUInt32 31)).toInt32) &&& (nI 858993459))) + (((((x - (((x.toUInt32 >>> ((nI 1).toUInt32 &&& Int32.toUInt32 31)).toInt32) &&& (nI 1431655765))) &&& (nI 858993459)) + ((((x - (((x.toUInt32 >>> ((nI 1).toUInt32 &&& Int32.toUInt32 31)).toInt32) &&& (nI 1431655765))).toUInt32 >>> ((nI 2).toUInt32 &&& Int32.toUInt32 31)).toInt32) &&& (nI 858993459))).toUInt32 >>> ((nI 4).toUInt32 &&& Int32.toUInt32 31)).toInt32)) &&& (nI 252645135)) + (((((((x - (((x.toUInt32 >>> ((nI 1).toUInt32 &&& Int32.toUInt32 31)).toInt32) &&& (nI 1431655765))) &&& (nI 858993459)) + ((((x - (((x.toUInt32 >>> ((nI 1).toUInt32 &&& Int32.toUInt32 31)).toInt32) &&& (nI 1431655765))).toUInt32 >>> ((nI 2).toUInt32 &&& Int32.toUInt32 31)).toInt32) &&& (nI 858993459))) + (((((x - (((x.toUInt32 >>> ((nI 1).toUInt32 &&& Int32.toUInt32 31)).toInt32) &&& (nI 1431655765))) &&& (nI 858993459)) + ((((x - (((x.toUInt32 >>> ((nI 1).toUInt32 &&& Int32.toUInt32 31)).toInt32) &&& (nI 1431655765))).toUInt32 >>> ((nI 2).toUInt32 &&& Int32.toUInt32 31)).toInt32) &&& (nI 858993459))).toUInt32 >>> ((nI 4).toUInt32 &&& Int32.toUInt32 31)).toInt32)) &&& (nI 252645135)).toUInt32 >>> ((nI 8).toUInt32 &&& Int32.toUInt32 31)).toInt32)) + ((((((((x - (((x.toUInt32 >>> ((nI 1).toUInt32 &&& Int32.toUInt32 31)).toInt32) &&& (nI 1431655765))) &&& (nI 858993459)) + ((((x - (((x.toUInt32 >>> ((nI 1).toUInt32 &&& Int32.toUInt32 31)).toInt32) &&& (nI 1431655765))).toUInt32 >>> ((nI 2).toUInt32 &&& Int32.toUInt32 31)).toInt32) &&& (nI 858993459))) + (((((x - (((x.toUInt32 >>> ((nI 1).toUInt32 &&& Int32.toUInt32 31)).toInt32) &&& (nI 1431655765))) &&& (nI 858993459)) + ((((x - (((x.toUInt32 >>> ((nI 1).toUInt32 &&& Int32.toUInt32 31)).toInt32) &&& (nI 1431655765))).toUInt32 >>> ((nI 2).toUInt32 &&& Int32.toUInt32 31)).toInt32) &&& (nI 858993459))).toUInt32 >>> ((nI 4).toUInt32 &&& Int32.toUInt32 31)).toInt32)) &&& (nI 252645135)) + (((((((x - (((x.toUInt32 >>> ((nI 1).toUInt32 &&& Int32.toUInt32 31)).toInt32) &&& (nI 1431655765))) &&& (nI 858993459)) + ((((x - (((x.toUInt32 >>> ((nI 1).toUInt32 &&& Int32.toUInt32 31)).toInt32) &&& (nI 1431655765))).toUInt32 >>> ((nI 2).toUInt32 &&& Int32.toUInt32 31)).toInt32) &&& (nI 858993459))) + (((((x - (((x.toUInt32 >>> ((nI 1).toUInt32 &&& Int32.toUInt32 31)).toInt32) &&& (nI 1431655765))) &&& (nI 858993459)) + ((((x - (((x.toUInt32 >>> ((nI 1).toUInt32 &&& Int32.toUInt32 31)).toInt32) &&& (nI 1431655765))).toUInt32 >>> ((nI 2).toUInt32 &&& Int32.toUInt32 31)).toInt32) &&& (nI 858993459))).toUInt32 >>> ((nI 4).toUInt32 &&& Int32.toUInt32 31)).toInt32)) &&& (nI 252645135)).toUInt32 >>> ((nI 8).toUInt32 &&& Int32.toUInt32 31)).toInt32)).toUInt32 >>> ((nI 16).toUInt32 &&& Int32.toUInt32 31)).toInt32)) &&& (nI 63))
theorem g_bitCount {X : Nat × (Nat → Int32)} {d : Nat} {A : CA} {R : RA} {o : Nat → Int64} {x : Int32} : px_ev X (d + 1) 172 [.int x] (WW A R o) (some (some (.int (bcf x))), WW A R o, 0, 0) := by
  refine wp_ev (d := d + 0) (by decide) rfl rfl (fun h => by cases h) ?_
  show wp X (d + 0) 172 (0, [.int x], [], WW A R o, 0, 0) _
  refine wz_iload_n (p9 := 1) rfl rfl rfl ?_
  refine wz_iload_n (p9 := 2) rfl rfl rfl ?_
  refine wz_iconst (x := nI 1) (p9 := 3) rfl rfl (by decide) ?_
  refine wz_iushr (v := ((x.toUInt32 >>> ((nI 1).toUInt32 &&& Int32.toUInt32 31)).toInt32)) (p9 := 4) rfl rfl rfl ?_
  refine wz_ldc_w (x := nI 1431655765) (p9 := 7) rfl rfl rfl ?_
  refine wz_iand (v := (((x.toUInt32 >>> ((nI 1).toUInt32 &&& Int32.toUInt32 31)).toInt32) &&& (nI 1431655765))) (p9 := 8) rfl rfl rfl ?_
  refine wz_isub (v := (x - (((x.toUInt32 >>> ((nI 1).toUInt32 &&& Int32.toUInt32 31)).toInt32) &&& (nI 1431655765)))) (p9 := 9) rfl rfl rfl ?_
  refine wz_istore_n (l9 := [.int (x - (((x.toUInt32 >>> ((nI 1).toUInt32 &&& Int32.toUInt32 31)).toInt32) &&& (nI 1431655765)))]) (p9 := 10) rfl rfl rfl rfl ?_
  refine wz_iload_n (p9 := 11) rfl rfl rfl ?_
  refine wz_ldc_w (x := nI 858993459) (p9 := 14) rfl rfl rfl ?_
  refine wz_iand (v := ((x - (((x.toUInt32 >>> ((nI 1).toUInt32 &&& Int32.toUInt32 31)).toInt32) &&& (nI 1431655765))) &&& (nI 858993459))) (p9 := 15) rfl rfl rfl ?_
  refine wz_iload_n (p9 := 16) rfl rfl rfl ?_
  refine wz_iconst (x := nI 2) (p9 := 17) rfl rfl (by decide) ?_
  refine wz_iushr (v := (((x - (((x.toUInt32 >>> ((nI 1).toUInt32 &&& Int32.toUInt32 31)).toInt32) &&& (nI 1431655765))).toUInt32 >>> ((nI 2).toUInt32 &&& Int32.toUInt32 31)).toInt32)) (p9 := 18) rfl rfl rfl ?_
  refine wz_ldc_w (x := nI 858993459) (p9 := 21) rfl rfl rfl ?_
  refine wz_iand (v := ((((x - (((x.toUInt32 >>> ((nI 1).toUInt32 &&& Int32.toUInt32 31)).toInt32) &&& (nI 1431655765))).toUInt32 >>> ((nI 2).toUInt32 &&& Int32.toUInt32 31)).toInt32) &&& (nI 858993459))) (p9 := 22) rfl rfl rfl ?_
  refine wz_iadd (v := (((x - (((x.toUInt32 >>> ((nI 1).toUInt32 &&& Int32.toUInt32 31)).toInt32) &&& (nI 1431655765))) &&& (nI 858993459)) + ((((x - (((x.toUInt32 >>> ((nI 1).toUInt32 &&& Int32.toUInt32 31)).toInt32) &&& (nI 1431655765))).toUInt32 >>> ((nI 2).toUInt32 &&& Int32.toUInt32 31)).toInt32) &&& (nI 858993459)))) (p9 := 23) rfl rfl rfl ?_
  refine wz_istore_n (l9 := [.int (((x - (((x.toUInt32 >>> ((nI 1).toUInt32 &&& Int32.toUInt32 31)).toInt32) &&& (nI 1431655765))) &&& (nI 858993459)) + ((((x - (((x.toUInt32 >>> ((nI 1).toUInt32 &&& Int32.toUInt32 31)).toInt32) &&& (nI 1431655765))).toUInt32 >>> ((nI 2).toUInt32 &&& Int32.toUInt32 31)).toInt32) &&& (nI 858993459)))]) (p9 := 24) rfl rfl rfl rfl ?_
  refine wz_iload_n (p9 := 25) rfl rfl rfl ?_
  refine wz_iload_n (p9 := 26) rfl rfl rfl ?_
  refine wz_iconst (x := nI 4) (p9 := 27) rfl rfl (by decide) ?_
  refine wz_iushr (v := (((((x - (((x.toUInt32 >>> ((nI 1).toUInt32 &&& Int32.toUInt32 31)).toInt32) &&& (nI 1431655765))) &&& (nI 858993459)) + ((((x - (((x.toUInt32 >>> ((nI 1).toUInt32 &&& Int32.toUInt32 31)).toInt32) &&& (nI 1431655765))).toUInt32 >>> ((nI 2).toUInt32 &&& Int32.toUInt32 31)).toInt32) &&& (nI 858993459))).toUInt32 >>> ((nI 4).toUInt32 &&& Int32.toUInt32 31)).toInt32)) (p9 := 28) rfl rfl rfl ?_
  refine wz_iadd (v := ((((x - (((x.toUInt32 >>> ((nI 1).toUInt32 &&& Int32.toUInt32 31)).toInt32) &&& (nI 1431655765))) &&& (nI 858993459)) + ((((x - (((x.toUInt32 >>> ((nI 1).toUInt32 &&& Int32.toUInt32 31)).toInt32) &&& (nI 1431655765))).toUInt32 >>> ((nI 2).toUInt32 &&& Int32.toUInt32 31)).toInt32) &&& (nI 858993459))) + (((((x - (((x.toUInt32 >>> ((nI 1).toUInt32 &&& Int32.toUInt32 31)).toInt32) &&& (nI 1431655765))) &&& (nI 858993459)) + ((((x - (((x.toUInt32 >>> ((nI 1).toUInt32 &&& Int32.toUInt32 31)).toInt32) &&& (nI 1431655765))).toUInt32 >>> ((nI 2).toUInt32 &&& Int32.toUInt32 31)).toInt32) &&& (nI 858993459))).toUInt32 >>> ((nI 4).toUInt32 &&& Int32.toUInt32 31)).toInt32))) (p9 := 29) rfl rfl rfl ?_
  refine wz_ldc_w (x := nI 252645135) (p9 := 32) rfl rfl rfl ?_
  refine wz_iand (v := (((((x - (((x.toUInt32 >>> ((nI 1).toUInt32 &&& Int32.toUInt32 31)).toInt32) &&& (nI 1431655765))) &&& (nI 858993459)) + ((((x - (((x.toUInt32 >>> ((nI 1).toUInt32 &&& Int32.toUInt32 31)).toInt32) &&& (nI 1431655765))).toUInt32 >>> ((nI 2).toUInt32 &&& Int32.toUInt32 31)).toInt32) &&& (nI 858993459))) + (((((x - (((x.toUInt32 >>> ((nI 1).toUInt32 &&& Int32.toUInt32 31)).toInt32) &&& (nI 1431655765))) &&& (nI 858993459)) + ((((x - (((x.toUInt32 >>> ((nI 1).toUInt32 &&& Int32.toUInt32 31)).toInt32) &&& (nI 1431655765))).toUInt32 >>> ((nI 2).toUInt32 &&& Int32.toUInt32 31)).toInt32) &&& (nI 858993459))).toUInt32 >>> ((nI 4).toUInt32 &&& Int32.toUInt32 31)).toInt32)) &&& (nI 252645135))) (p9 := 33) rfl rfl rfl ?_
  refine wz_istore_n (l9 := [.int (((((x - (((x.toUInt32 >>> ((nI 1).toUInt32 &&& Int32.toUInt32 31)).toInt32) &&& (nI 1431655765))) &&& (nI 858993459)) + ((((x - (((x.toUInt32 >>> ((nI 1).toUInt32 &&& Int32.toUInt32 31)).toInt32) &&& (nI 1431655765))).toUInt32 >>> ((nI 2).toUInt32 &&& Int32.toUInt32 31)).toInt32) &&& (nI 858993459))) + (((((x - (((x.toUInt32 >>> ((nI 1).toUInt32 &&& Int32.toUInt32 31)).toInt32) &&& (nI 1431655765))) &&& (nI 858993459)) + ((((x - (((x.toUInt32 >>> ((nI 1).toUInt32 &&& Int32.toUInt32 31)).toInt32) &&& (nI 1431655765))).toUInt32 >>> ((nI 2).toUInt32 &&& Int32.toUInt32 31)).toInt32) &&& (nI 858993459))).toUInt32 >>> ((nI 4).toUInt32 &&& Int32.toUInt32 31)).toInt32)) &&& (nI 252645135))]) (p9 := 34) rfl rfl rfl rfl ?_
  refine wz_iload_n (p9 := 35) rfl rfl rfl ?_
  refine wz_iload_n (p9 := 36) rfl rfl rfl ?_
  refine wz_bipush (x := nI 8) (p9 := 38) rfl rfl (by decide) ?_
  refine wz_iushr (v := (((((((x - (((x.toUInt32 >>> ((nI 1).toUInt32 &&& Int32.toUInt32 31)).toInt32) &&& (nI 1431655765))) &&& (nI 858993459)) + ((((x - (((x.toUInt32 >>> ((nI 1).toUInt32 &&& Int32.toUInt32 31)).toInt32) &&& (nI 1431655765))).toUInt32 >>> ((nI 2).toUInt32 &&& Int32.toUInt32 31)).toInt32) &&& (nI 858993459))) + (((((x - (((x.toUInt32 >>> ((nI 1).toUInt32 &&& Int32.toUInt32 31)).toInt32) &&& (nI 1431655765))) &&& (nI 858993459)) + ((((x - (((x.toUInt32 >>> ((nI 1).toUInt32 &&& Int32.toUInt32 31)).toInt32) &&& (nI 1431655765))).toUInt32 >>> ((nI 2).toUInt32 &&& Int32.toUInt32 31)).toInt32) &&& (nI 858993459))).toUInt32 >>> ((nI 4).toUInt32 &&& Int32.toUInt32 31)).toInt32)) &&& (nI 252645135)).toUInt32 >>> ((nI 8).toUInt32 &&& Int32.toUInt32 31)).toInt32)) (p9 := 39) rfl rfl rfl ?_
  refine wz_iadd (v := ((((((x - (((x.toUInt32 >>> ((nI 1).toUInt32 &&& Int32.toUInt32 31)).toInt32) &&& (nI 1431655765))) &&& (nI 858993459)) + ((((x - (((x.toUInt32 >>> ((nI 1).toUInt32 &&& Int32.toUInt32 31)).toInt32) &&& (nI 1431655765))).toUInt32 >>> ((nI 2).toUInt32 &&& Int32.toUInt32 31)).toInt32) &&& (nI 858993459))) + (((((x - (((x.toUInt32 >>> ((nI 1).toUInt32 &&& Int32.toUInt32 31)).toInt32) &&& (nI 1431655765))) &&& (nI 858993459)) + ((((x - (((x.toUInt32 >>> ((nI 1).toUInt32 &&& Int32.toUInt32 31)).toInt32) &&& (nI 1431655765))).toUInt32 >>> ((nI 2).toUInt32 &&& Int32.toUInt32 31)).toInt32) &&& (nI 858993459))).toUInt32 >>> ((nI 4).toUInt32 &&& Int32.toUInt32 31)).toInt32)) &&& (nI 252645135)) + (((((((x - (((x.toUInt32 >>> ((nI 1).toUInt32 &&& Int32.toUInt32 31)).toInt32) &&& (nI 1431655765))) &&& (nI 858993459)) + ((((x - (((x.toUInt32 >>> ((nI 1).toUInt32 &&& Int32.toUInt32 31)).toInt32) &&& (nI 1431655765))).toUInt32 >>> ((nI 2).toUInt32 &&& Int32.toUInt32 31)).toInt32) &&& (nI 858993459))) + (((((x - (((x.toUInt32 >>> ((nI 1).toUInt32 &&& Int32.toUInt32 31)).toInt32) &&& (nI 1431655765))) &&& (nI 858993459)) + ((((x - (((x.toUInt32 >>> ((nI 1).toUInt32 &&& Int32.toUInt32 31)).toInt32) &&& (nI 1431655765))).toUInt32 >>> ((nI 2).toUInt32 &&& Int32.toUInt32 31)).toInt32) &&& (nI 858993459))).toUInt32 >>> ((nI 4).toUInt32 &&& Int32.toUInt32 31)).toInt32)) &&& (nI 252645135)).toUInt32 >>> ((nI 8).toUInt32 &&& Int32.toUInt32 31)).toInt32))) (p9 := 40) rfl rfl rfl ?_
  refine wz_istore_n (l9 := [.int ((((((x - (((x.toUInt32 >>> ((nI 1).toUInt32 &&& Int32.toUInt32 31)).toInt32) &&& (nI 1431655765))) &&& (nI 858993459)) + ((((x - (((x.toUInt32 >>> ((nI 1).toUInt32 &&& Int32.toUInt32 31)).toInt32) &&& (nI 1431655765))).toUInt32 >>> ((nI 2).toUInt32 &&& Int32.toUInt32 31)).toInt32) &&& (nI 858993459))) + (((((x - (((x.toUInt32 >>> ((nI 1).toUInt32 &&& Int32.toUInt32 31)).toInt32) &&& (nI 1431655765))) &&& (nI 858993459)) + ((((x - (((x.toUInt32 >>> ((nI 1).toUInt32 &&& Int32.toUInt32 31)).toInt32) &&& (nI 1431655765))).toUInt32 >>> ((nI 2).toUInt32 &&& Int32.toUInt32 31)).toInt32) &&& (nI 858993459))).toUInt32 >>> ((nI 4).toUInt32 &&& Int32.toUInt32 31)).toInt32)) &&& (nI 252645135)) + (((((((x - (((x.toUInt32 >>> ((nI 1).toUInt32 &&& Int32.toUInt32 31)).toInt32) &&& (nI 1431655765))) &&& (nI 858993459)) + ((((x - (((x.toUInt32 >>> ((nI 1).toUInt32 &&& Int32.toUInt32 31)).toInt32) &&& (nI 1431655765))).toUInt32 >>> ((nI 2).toUInt32 &&& Int32.toUInt32 31)).toInt32) &&& (nI 858993459))) + (((((x - (((x.toUInt32 >>> ((nI 1).toUInt32 &&& Int32.toUInt32 31)).toInt32) &&& (nI 1431655765))) &&& (nI 858993459)) + ((((x - (((x.toUInt32 >>> ((nI 1).toUInt32 &&& Int32.toUInt32 31)).toInt32) &&& (nI 1431655765))).toUInt32 >>> ((nI 2).toUInt32 &&& Int32.toUInt32 31)).toInt32) &&& (nI 858993459))).toUInt32 >>> ((nI 4).toUInt32 &&& Int32.toUInt32 31)).toInt32)) &&& (nI 252645135)).toUInt32 >>> ((nI 8).toUInt32 &&& Int32.toUInt32 31)).toInt32))]) (p9 := 41) rfl rfl rfl rfl ?_
  refine wz_iload_n (p9 := 42) rfl rfl rfl ?_
  refine wz_iload_n (p9 := 43) rfl rfl rfl ?_
  refine wz_bipush (x := nI 16) (p9 := 45) rfl rfl (by decide) ?_
  refine wz_iushr (v := ((((((((x - (((x.toUInt32 >>> ((nI 1).toUInt32 &&& Int32.toUInt32 31)).toInt32) &&& (nI 1431655765))) &&& (nI 858993459)) + ((((x - (((x.toUInt32 >>> ((nI 1).toUInt32 &&& Int32.toUInt32 31)).toInt32) &&& (nI 1431655765))).toUInt32 >>> ((nI 2).toUInt32 &&& Int32.toUInt32 31)).toInt32) &&& (nI 858993459))) + (((((x - (((x.toUInt32 >>> ((nI 1).toUInt32 &&& Int32.toUInt32 31)).toInt32) &&& (nI 1431655765))) &&& (nI 858993459)) + ((((x - (((x.toUInt32 >>> ((nI 1).toUInt32 &&& Int32.toUInt32 31)).toInt32) &&& (nI 1431655765))).toUInt32 >>> ((nI 2).toUInt32 &&& Int32.toUInt32 31)).toInt32) &&& (nI 858993459))).toUInt32 >>> ((nI 4).toUInt32 &&& Int32.toUInt32 31)).toInt32)) &&& (nI 252645135)) + (((((((x - (((x.toUInt32 >>> ((nI 1).toUInt32 &&& Int32.toUInt32 31)).toInt32) &&& (nI 1431655765))) &&& (nI 858993459)) + ((((x - (((x.toUInt32 >>> ((nI 1).toUInt32 &&& Int32.toUInt32 31)).toInt32) &&& (nI 1431655765))).toUInt32 >>> ((nI 2).toUInt32 &&& Int32.toUInt32 31)).toInt32) &&& (nI 858993459))) + (((((x - (((x.toUInt32 >>> ((nI 1).toUInt32 &&& Int32.toUInt32 31)).toInt32) &&& (nI 1431655765))) &&& (nI 858993459)) + ((((x - (((x.toUInt32 >>> ((nI 1).toUInt32 &&& Int32.toUInt32 31)).toInt32) &&& (nI 1431655765))).toUInt32 >>> ((nI 2).toUInt32 &&& Int32.toUInt32 31)).toInt32) &&& (nI 858993459))).toUInt32 >>> ((nI 4).toUInt32 &&& Int32.toUInt32 31)).toInt32)) &&& (nI 252645135)).toUInt32 >>> ((nI 8).toUInt32 &&& Int32.toUInt32 31)).toInt32)).toUInt32 >>> ((nI 16).toUInt32 &&& Int32.toUInt32 31)).toInt32)) (p9 := 46) rfl rfl rfl ?_
  refine wz_iadd (v := (((((((x - (((x.toUInt32 >>> ((nI 1).toUInt32 &&& Int32.toUInt32 31)).toInt32) &&& (nI 1431655765))) &&& (nI 858993459)) + ((((x - (((x.toUInt32 >>> ((nI 1).toUInt32 &&& Int32.toUInt32 31)).toInt32) &&& (nI 1431655765))).toUInt32 >>> ((nI 2).toUInt32 &&& Int32.toUInt32 31)).toInt32) &&& (nI 858993459))) + (((((x - (((x.toUInt32 >>> ((nI 1).toUInt32 &&& Int32.toUInt32 31)).toInt32) &&& (nI 1431655765))) &&& (nI 858993459)) + ((((x - (((x.toUInt32 >>> ((nI 1).toUInt32 &&& Int32.toUInt32 31)).toInt32) &&& (nI 1431655765))).toUInt32 >>> ((nI 2).toUInt32 &&& Int32.toUInt32 31)).toInt32) &&& (nI 858993459))).toUInt32 >>> ((nI 4).toUInt32 &&& Int32.toUInt32 31)).toInt32)) &&& (nI 252645135)) + (((((((x - (((x.toUInt32 >>> ((nI 1).toUInt32 &&& Int32.toUInt32 31)).toInt32) &&& (nI 1431655765))) &&& (nI 858993459)) + ((((x - (((x.toUInt32 >>> ((nI 1).toUInt32 &&& Int32.toUInt32 31)).toInt32) &&& (nI 1431655765))).toUInt32 >>> ((nI 2).toUInt32 &&& Int32.toUInt32 31)).toInt32) &&& (nI 858993459))) + (((((x - (((x.toUInt32 >>> ((nI 1).toUInt32 &&& Int32.toUInt32 31)).toInt32) &&& (nI 1431655765))) &&& (nI 858993459)) + ((((x - (((x.toUInt32 >>> ((nI 1).toUInt32 &&& Int32.toUInt32 31)).toInt32) &&& (nI 1431655765))).toUInt32 >>> ((nI 2).toUInt32 &&& Int32.toUInt32 31)).toInt32) &&& (nI 858993459))).toUInt32 >>> ((nI 4).toUInt32 &&& Int32.toUInt32 31)).toInt32)) &&& (nI 252645135)).toUInt32 >>> ((nI 8).toUInt32 &&& Int32.toUInt32 31)).toInt32)) + ((((((((x - (((x.toUInt32 >>> ((nI 1).toUInt32 &&& Int32.toUInt32 31)).toInt32) &&& (nI 1431655765))) &&& (nI 858993459)) + ((((x - (((x.toUInt32 >>> ((nI 1).toUInt32 &&& Int32.toUInt32 31)).toInt32) &&& (nI 1431655765))).toUInt32 >>> ((nI 2).toUInt32 &&& Int32.toUInt32 31)).toInt32) &&& (nI 858993459))) + (((((x - (((x.toUInt32 >>> ((nI 1).toUInt32 &&& Int32.toUInt32 31)).toInt32) &&& (nI 1431655765))) &&& (nI 858993459)) + ((((x - (((x.toUInt32 >>> ((nI 1).toUInt32 &&& Int32.toUInt32 31)).toInt32) &&& (nI 1431655765))).toUInt32 >>> ((nI 2).toUInt32 &&& Int32.toUInt32 31)).toInt32) &&& (nI 858993459))).toUInt32 >>> ((nI 4).toUInt32 &&& Int32.toUInt32 31)).toInt32)) &&& (nI 252645135)) + (((((((x - (((x.toUInt32 >>> ((nI 1).toUInt32 &&& Int32.toUInt32 31)).toInt32) &&& (nI 1431655765))) &&& (nI 858993459)) + ((((x - (((x.toUInt32 >>> ((nI 1).toUInt32 &&& Int32.toUInt32 31)).toInt32) &&& (nI 1431655765))).toUInt32 >>> ((nI 2).toUInt32 &&& Int32.toUInt32 31)).toInt32) &&& (nI 858993459))) + (((((x - (((x.toUInt32 >>> ((nI 1).toUInt32 &&& Int32.toUInt32 31)).toInt32) &&& (nI 1431655765))) &&& (nI 858993459)) + ((((x - (((x.toUInt32 >>> ((nI 1).toUInt32 &&& Int32.toUInt32 31)).toInt32) &&& (nI 1431655765))).toUInt32 >>> ((nI 2).toUInt32 &&& Int32.toUInt32 31)).toInt32) &&& (nI 858993459))).toUInt32 >>> ((nI 4).toUInt32 &&& Int32.toUInt32 31)).toInt32)) &&& (nI 252645135)).toUInt32 >>> ((nI 8).toUInt32 &&& Int32.toUInt32 31)).toInt32)).toUInt32 >>> ((nI 16).toUInt32 &&& Int32.toUInt32 31)).toInt32))) (p9 := 47) rfl rfl rfl ?_
  refine wz_istore_n (l9 := [.int (((((((x - (((x.toUInt32 >>> ((nI 1).toUInt32 &&& Int32.toUInt32 31)).toInt32) &&& (nI 1431655765))) &&& (nI 858993459)) + ((((x - (((x.toUInt32 >>> ((nI 1).toUInt32 &&& Int32.toUInt32 31)).toInt32) &&& (nI 1431655765))).toUInt32 >>> ((nI 2).toUInt32 &&& Int32.toUInt32 31)).toInt32) &&& (nI 858993459))) + (((((x - (((x.toUInt32 >>> ((nI 1).toUInt32 &&& Int32.toUInt32 31)).toInt32) &&& (nI 1431655765))) &&& (nI 858993459)) + ((((x - (((x.toUInt32 >>> ((nI 1).toUInt32 &&& Int32.toUInt32 31)).toInt32) &&& (nI 1431655765))).toUInt32 >>> ((nI 2).toUInt32 &&& Int32.toUInt32 31)).toInt32) &&& (nI 858993459))).toUInt32 >>> ((nI 4).toUInt32 &&& Int32.toUInt32 31)).toInt32)) &&& (nI 252645135)) + (((((((x - (((x.toUInt32 >>> ((nI 1).toUInt32 &&& Int32.toUInt32 31)).toInt32) &&& (nI 1431655765))) &&& (nI 858993459)) + ((((x - (((x.toUInt32 >>> ((nI 1).toUInt32 &&& Int32.toUInt32 31)).toInt32) &&& (nI 1431655765))).toUInt32 >>> ((nI 2).toUInt32 &&& Int32.toUInt32 31)).toInt32) &&& (nI 858993459))) + (((((x - (((x.toUInt32 >>> ((nI 1).toUInt32 &&& Int32.toUInt32 31)).toInt32) &&& (nI 1431655765))) &&& (nI 858993459)) + ((((x - (((x.toUInt32 >>> ((nI 1).toUInt32 &&& Int32.toUInt32 31)).toInt32) &&& (nI 1431655765))).toUInt32 >>> ((nI 2).toUInt32 &&& Int32.toUInt32 31)).toInt32) &&& (nI 858993459))).toUInt32 >>> ((nI 4).toUInt32 &&& Int32.toUInt32 31)).toInt32)) &&& (nI 252645135)).toUInt32 >>> ((nI 8).toUInt32 &&& Int32.toUInt32 31)).toInt32)) + ((((((((x - (((x.toUInt32 >>> ((nI 1).toUInt32 &&& Int32.toUInt32 31)).toInt32) &&& (nI 1431655765))) &&& (nI 858993459)) + ((((x - (((x.toUInt32 >>> ((nI 1).toUInt32 &&& Int32.toUInt32 31)).toInt32) &&& (nI 1431655765))).toUInt32 >>> ((nI 2).toUInt32 &&& Int32.toUInt32 31)).toInt32) &&& (nI 858993459))) + (((((x - (((x.toUInt32 >>> ((nI 1).toUInt32 &&& Int32.toUInt32 31)).toInt32) &&& (nI 1431655765))) &&& (nI 858993459)) + ((((x - (((x.toUInt32 >>> ((nI 1).toUInt32 &&& Int32.toUInt32 31)).toInt32) &&& (nI 1431655765))).toUInt32 >>> ((nI 2).toUInt32 &&& Int32.toUInt32 31)).toInt32) &&& (nI 858993459))).toUInt32 >>> ((nI 4).toUInt32 &&& Int32.toUInt32 31)).toInt32)) &&& (nI 252645135)) + (((((((x - (((x.toUInt32 >>> ((nI 1).toUInt32 &&& Int32.toUInt32 31)).toInt32) &&& (nI 1431655765))) &&& (nI 858993459)) + ((((x - (((x.toUInt32 >>> ((nI 1).toUInt32 &&& Int32.toUInt32 31)).toInt32) &&& (nI 1431655765))).toUInt32 >>> ((nI 2).toUInt32 &&& Int32.toUInt32 31)).toInt32) &&& (nI 858993459))) + (((((x - (((x.toUInt32 >>> ((nI 1).toUInt32 &&& Int32.toUInt32 31)).toInt32) &&& (nI 1431655765))) &&& (nI 858993459)) + ((((x - (((x.toUInt32 >>> ((nI 1).toUInt32 &&& Int32.toUInt32 31)).toInt32) &&& (nI 1431655765))).toUInt32 >>> ((nI 2).toUInt32 &&& Int32.toUInt32 31)).toInt32) &&& (nI 858993459))).toUInt32 >>> ((nI 4).toUInt32 &&& Int32.toUInt32 31)).toInt32)) &&& (nI 252645135)).toUInt32 >>> ((nI 8).toUInt32 &&& Int32.toUInt32 31)).toInt32)).toUInt32 >>> ((nI 16).toUInt32 &&& Int32.toUInt32 31)).toInt32))]) (p9 := 48) rfl rfl rfl rfl ?_
  refine wz_iload_n (p9 := 49) rfl rfl rfl ?_
  refine wz_bipush (x := nI 63) (p9 := 51) rfl rfl (by decide) ?_
  refine wz_iand (v := ((((((((x - (((x.toUInt32 >>> ((nI 1).toUInt32 &&& Int32.toUInt32 31)).toInt32) &&& (nI 1431655765))) &&& (nI 858993459)) + ((((x - (((x.toUInt32 >>> ((nI 1).toUInt32 &&& Int32.toUInt32 31)).toInt32) &&& (nI 1431655765))).toUInt32 >>> ((nI 2).toUInt32 &&& Int32.toUInt32 31)).toInt32) &&& (nI 858993459))) + (((((x - (((x.toUInt32 >>> ((nI 1).toUInt32 &&& Int32.toUInt32 31)).toInt32) &&& (nI 1431655765))) &&& (nI 858993459)) + ((((x - (((x.toUInt32 >>> ((nI 1).toUInt32 &&& Int32.toUInt32 31)).toInt32) &&& (nI 1431655765))).toUInt32 >>> ((nI 2).toUInt32 &&& Int32.toUInt32 31)).toInt32) &&& (nI 858993459))).toUInt32 >>> ((nI 4).toUInt32 &&& Int32.toUInt32 31)).toInt32)) &&& (nI 252645135)) + (((((((x - (((x.toUInt32 >>> ((nI 1).toUInt32 &&& Int32.toUInt32 31)).toInt32) &&& (nI 1431655765))) &&& (nI 858993459)) + ((((x - (((x.toUInt32 >>> ((nI 1).toUInt32 &&& Int32.toUInt32 31)).toInt32) &&& (nI 1431655765))).toUInt32 >>> ((nI 2).toUInt32 &&& Int32.toUInt32 31)).toInt32) &&& (nI 858993459))) + (((((x - (((x.toUInt32 >>> ((nI 1).toUInt32 &&& Int32.toUInt32 31)).toInt32) &&& (nI 1431655765))) &&& (nI 858993459)) + ((((x - (((x.toUInt32 >>> ((nI 1).toUInt32 &&& Int32.toUInt32 31)).toInt32) &&& (nI 1431655765))).toUInt32 >>> ((nI 2).toUInt32 &&& Int32.toUInt32 31)).toInt32) &&& (nI 858993459))).toUInt32 >>> ((nI 4).toUInt32 &&& Int32.toUInt32 31)).toInt32)) &&& (nI 252645135)).toUInt32 >>> ((nI 8).toUInt32 &&& Int32.toUInt32 31)).toInt32)) + ((((((((x - (((x.toUInt32 >>> ((nI 1).toUInt32 &&& Int32.toUInt32 31)).toInt32) &&& (nI 1431655765))) &&& (nI 858993459)) + ((((x - (((x.toUInt32 >>> ((nI 1).toUInt32 &&& Int32.toUInt32 31)).toInt32) &&& (nI 1431655765))).toUInt32 >>> ((nI 2).toUInt32 &&& Int32.toUInt32 31)).toInt32) &&& (nI 858993459))) + (((((x - (((x.toUInt32 >>> ((nI 1).toUInt32 &&& Int32.toUInt32 31)).toInt32) &&& (nI 1431655765))) &&& (nI 858993459)) + ((((x - (((x.toUInt32 >>> ((nI 1).toUInt32 &&& Int32.toUInt32 31)).toInt32) &&& (nI 1431655765))).toUInt32 >>> ((nI 2).toUInt32 &&& Int32.toUInt32 31)).toInt32) &&& (nI 858993459))).toUInt32 >>> ((nI 4).toUInt32 &&& Int32.toUInt32 31)).toInt32)) &&& (nI 252645135)) + (((((((x - (((x.toUInt32 >>> ((nI 1).toUInt32 &&& Int32.toUInt32 31)).toInt32) &&& (nI 1431655765))) &&& (nI 858993459)) + ((((x - (((x.toUInt32 >>> ((nI 1).toUInt32 &&& Int32.toUInt32 31)).toInt32) &&& (nI 1431655765))).toUInt32 >>> ((nI 2).toUInt32 &&& Int32.toUInt32 31)).toInt32) &&& (nI 858993459))) + (((((x - (((x.toUInt32 >>> ((nI 1).toUInt32 &&& Int32.toUInt32 31)).toInt32) &&& (nI 1431655765))) &&& (nI 858993459)) + ((((x - (((x.toUInt32 >>> ((nI 1).toUInt32 &&& Int32.toUInt32 31)).toInt32) &&& (nI 1431655765))).toUInt32 >>> ((nI 2).toUInt32 &&& Int32.toUInt32 31)).toInt32) &&& (nI 858993459))).toUInt32 >>> ((nI 4).toUInt32 &&& Int32.toUInt32 31)).toInt32)) &&& (nI 252645135)).toUInt32 >>> ((nI 8).toUInt32 &&& Int32.toUInt32 31)).toInt32)).toUInt32 >>> ((nI 16).toUInt32 &&& Int32.toUInt32 31)).toInt32)) &&& (nI 63))) (p9 := 52) rfl rfl rfl ?_
  exact wz_reti rfl rfl rfl
/-- how many numbers below k are not in the set u -/
def cn (u : Nat) : Nat → Nat
  | 0 => 0
  | k + 1 => cn u k + if u / 2 ^ k % 2 = 0 then 1 else 0
theorem bc_cn : ∀ u, u < 128 → ∀ k, k < 8 → bcf ((nI u ^^^ (-1)) &&& nI (1 * 2 ^ k - 1)) = nI (cn u k) := by decide +kernel
theorem g_bitcn {X : Nat × (Nat → Int32)} {d : Nat} {A : CA} {R : RA} {o : Nat → Int64} {u k : Nat} (hu : u < 128) (hk : k < 8) : px_ev X (d + 1) 172 [.int ((nI u ^^^ (-1)) &&& nI (1 * 2 ^ k - 1))] (WW A R o) (some (some (.int (nI (cn u k)))), WW A R o, 0, 0) := by
  have h := g_bitCount (X := X) (d := d) (A := A) (R := R) (o := o) (x := (nI u ^^^ (-1)) &&& nI (1 * 2 ^ k - 1))
  rw [bc_cn u hu k hk] at h
  exact h
/-- the rank of a state: the places before p; the pieces that came -/
def rk (P x : Nat) : Nat → Nat × Nat
  | 0 => (0, 0)
  | p + 1 => ((rk P x p).1 * (P - p) + cn (rk P x p).2 (dg x p), (rk P x p).2 ||| 1 * 2 ^ dg x p)
theorem q_b7 {k : Nat} (h : k < 7) : 1 * 2 ^ k < 128 := by
  have := Nat.pow_le_pow_right (n := 2) (by decide) (show k ≤ 6 by omega)
  omega
theorem rk_lt {P x : Nat} : ∀ p, (∀ q, q < p → dg x q < 7) → (rk P x p).2 < 128
  | 0, _ => show 0 < 128 by decide
  | p + 1, h => Nat.or_lt_two_pow (n := 7) (rk_lt p (fun q hq => h q (by omega))) (q_b7 (h p (by omega)))
theorem l_rankOf {X : Nat × (Nat → Int32)} {d : Nat} {A : CA} {R : RA} {o : Nat → Int64} {x : Nat} (h7 : A.P ≤ 7) (hx : x < 2097152) (hd : ∀ p, p < A.P → dg x p < 7) {k z : Nat} {Q : px_Z → Prop} (kk : Q (some (some (.int (nI (rk A.P x A.P).1))), WW A R o, k, z)) : ∀ (j p : Nat), p + j = A.P → ∀ v5 v6, wp X (d + 1) 62 (7, [.ref 18, .int (nI x), .int (nI (rk A.P x p).1), .int (nI (rk A.P x p).2), .int (nI p), v5, v6], [], WW A R o, k, z) Q
  | 0, p, hj => by
    obtain rfl : p = A.P := by omega
    intro v5 v6
    refine wz_iload (p9 := 9) rfl rfl rfl ?_
    refine wz_aload_n (p9 := 10) rfl rfl rfl ?_
    refine wz_get (v := .ref 1) (p9 := 13) rfl rfl rfl rfl rfl ?_
    refine wz_c1 (p9 := 16) (w1 := WW A R o) (u := .int (nI A.P)) (wa_v (N := 1) (i := 1) (As := []) (rest := [.int (nI A.P)]) rfl rfl rfl rfl rfl rfl rfl) rfl ((g_placeCount (d := 0) ).up (by omega)) ?_
    refine wn_icge (t9 := 69) (p9 := 19) rfl rfl rfl (by omega) (by omega) (fun _ => ?_) (fun h9 => by omega)
    refine wz_iload_n (p9 := 70) rfl rfl rfl ?_
    exact wz_reti rfl rfl kk
  | j + 1, p, hj => by
    intro v5 v6
    refine wz_iload (p9 := 9) rfl rfl rfl ?_
    refine wz_aload_n (p9 := 10) rfl rfl rfl ?_
    refine wz_get (v := .ref 1) (p9 := 13) rfl rfl rfl rfl rfl ?_
    refine wz_c1 (p9 := 16) (w1 := WW A R o) (u := .int (nI A.P)) (wa_v (N := 1) (i := 1) (As := []) (rest := [.int (nI p)]) rfl rfl rfl rfl rfl rfl rfl) rfl ((g_placeCount (d := 0) ).up (by omega)) ?_
    refine wn_icge (t9 := 69) (p9 := 19) rfl rfl rfl (by omega) (by omega) (fun h9 => by omega) (fun _ => ?_)
    refine wz_iconst (x := nI 1) (p9 := 20) rfl rfl (by decide) ?_
    refine wz_iload_n (p9 := 21) rfl rfl rfl ?_
    refine wz_iload (p9 := 23) rfl rfl rfl ?_
    refine wz_c1 (p9 := 26) (w1 := WW A R o) (u := .int (nI (dg x p))) (tz_calS (N := 152) (As := [.int (nI x), .int (nI p)]) (rest := [.int (nI 1)]) rfl rfl rfl rfl rfl rfl) rfl ((g_pieceAt (d := 0) (by omega) (by omega)).up (by omega)) ?_
    refine wn_shl (p9 := 27) rfl rfl (by have := hd p (by omega); omega) ?_
    refine wz_istore (l9 := [.ref 18, .int (nI x), .int (nI ((rk A.P x p).1)), .int (nI ((rk A.P x p).2)), .int (nI p), .int (nI (1 * 2 ^ (dg x p))), v6]) (p9 := 29) rfl rfl rfl rfl ?_
    refine wz_iload_n (p9 := 30) rfl rfl rfl ?_
    refine wz_iconst (x := (-1)) (p9 := 31) rfl rfl (by decide) ?_
    refine wz_ixor (v := ((nI ((rk A.P x p).2)) ^^^ (-1))) (p9 := 32) rfl rfl rfl ?_
    refine wz_iload (p9 := 34) rfl rfl rfl ?_
    refine wz_iconst (x := nI 1) (p9 := 35) rfl rfl (by decide) ?_
    refine wn_sub (p9 := 36) rfl rfl (by have := Nat.one_le_two_pow (n := dg x p); omega) ?_
    refine wz_iand (v := (((nI ((rk A.P x p).2)) ^^^ (-1)) &&& (nI ((1 * 2 ^ (dg x p)) - 1)))) (p9 := 37) rfl rfl rfl ?_
    refine wz_c1 (p9 := 40) (w1 := WW A R o) (u := .int (nI (cn (rk A.P x p).2 (dg x p)))) (tz_calS (N := 172) (As := [.int (((nI ((rk A.P x p).2)) ^^^ (-1)) &&& (nI ((1 * 2 ^ (dg x p)) - 1)))]) (rest := []) rfl rfl rfl rfl rfl rfl) rfl ((g_bitcn (d := 0) (rk_lt p (fun q hq => hd q (by omega))) (by have := hd p (by omega); omega)).up (by omega)) ?_
    refine wz_istore (l9 := [.ref 18, .int (nI x), .int (nI ((rk A.P x p).1)), .int (nI ((rk A.P x p).2)), .int (nI p), .int (nI (1 * 2 ^ (dg x p))), .int (nI (cn (rk A.P x p).2 (dg x p)))]) (p9 := 42) rfl rfl rfl rfl ?_
    refine wz_iload_n (p9 := 43) rfl rfl rfl ?_
    refine wz_aload_n (p9 := 44) rfl rfl rfl ?_
    refine wz_get (v := .ref 1) (p9 := 47) rfl rfl rfl rfl rfl ?_
    refine wz_c1 (p9 := 50) (w1 := WW A R o) (u := .int (nI A.P)) (wa_v (N := 1) (i := 1) (As := []) (rest := [.int (nI ((rk A.P x p).1))]) rfl rfl rfl rfl rfl rfl rfl) rfl ((g_placeCount (d := 0) ).up (by omega)) ?_
    refine wz_iload (p9 := 52) rfl rfl rfl ?_
    refine wn_sub (p9 := 53) rfl rfl (by omega) ?_
    refine wn_mul (p9 := 54) rfl rfl ?_
    refine wz_iload (p9 := 56) rfl rfl rfl ?_
    refine wn_add (p9 := 57) rfl rfl ?_
    refine wz_istore_n (l9 := [.ref 18, .int (nI x), .int (nI ((((rk A.P x p).1) * (A.P - p)) + (cn (rk A.P x p).2 (dg x p)))), .int (nI ((rk A.P x p).2)), .int (nI p), .int (nI (1 * 2 ^ (dg x p))), .int (nI (cn (rk A.P x p).2 (dg x p)))]) (p9 := 58) rfl rfl rfl rfl ?_
    refine wz_iload_n (p9 := 59) rfl rfl rfl ?_
    refine wz_iload (p9 := 61) rfl rfl rfl ?_
    refine wn_or (p9 := 62) rfl rfl ?_
    refine wz_istore_n (l9 := [.ref 18, .int (nI x), .int (nI ((((rk A.P x p).1) * (A.P - p)) + (cn (rk A.P x p).2 (dg x p)))), .int (nI (((rk A.P x p).2) ||| (1 * 2 ^ (dg x p)))), .int (nI p), .int (nI (1 * 2 ^ (dg x p))), .int (nI (cn (rk A.P x p).2 (dg x p)))]) (p9 := 63) rfl rfl rfl rfl ?_
    refine wn_inc (b := 1) (l9 := [.ref 18, .int (nI x), .int (nI ((((rk A.P x p).1) * (A.P - p)) + (cn (rk A.P x p).2 (dg x p)))), .int (nI (((rk A.P x p).2) ||| (1 * 2 ^ (dg x p)))), .int (nI (p + 1)), .int (nI (1 * 2 ^ (dg x p))), .int (nI (cn (rk A.P x p).2 (dg x p)))]) (p9 := 66) rfl rfl rfl (by decide) rfl ?_
    refine wz_goto (p9 := 7) rfl rfl ?_
    exact l_rankOf h7 hx hd kk j (p + 1) (by omega) _ _
theorem g_rankOf {X : Nat × (Nat → Int32)} {d : Nat} {A : CA} {R : RA} {o : Nat → Int64} {x : Nat} (h7 : A.P ≤ 7) (hx : x < 2097152) (hd : ∀ p, p < A.P → dg x p < 7) : px_ev X (d + 2) 62 [.ref 18, .int (nI x)] (WW A R o) (some (some (.int (nI (rk A.P x A.P).1))), WW A R o, 0, 0) := by
  refine wp_ev (d := d + 1) (by decide) rfl rfl (fun h => by cases h) ?_
  show wp X (d + 1) 62 (0, [.ref 18, .int (nI x), .retAddr 0, .retAddr 0, .retAddr 0, .retAddr 0, .retAddr 0], [], WW A R o, 0, 0) _
  refine wz_iconst (x := nI 0) (p9 := 1) rfl rfl (by decide) ?_
  refine wz_istore_n (l9 := [.ref 18, .int (nI x), .int (nI 0), .retAddr 0, .retAddr 0, .retAddr 0, .retAddr 0]) (p9 := 2) rfl rfl rfl rfl ?_
  refine wz_iconst (x := nI 0) (p9 := 3) rfl rfl (by decide) ?_
  refine wz_istore_n (l9 := [.ref 18, .int (nI x), .int (nI 0), .int (nI 0), .retAddr 0, .retAddr 0, .retAddr 0]) (p9 := 4) rfl rfl rfl rfl ?_
  refine wz_iconst (x := nI 0) (p9 := 5) rfl rfl (by decide) ?_
  refine wz_istore (l9 := [.ref 18, .int (nI x), .int (nI 0), .int (nI 0), .int (nI 0), .retAddr 0, .retAddr 0]) (p9 := 7) rfl rfl rfl rfl ?_
  exact l_rankOf (Q := fun q => q = (some (some (.int (nI (rk A.P x A.P).1))), WW A R o, 0, 0)) h7 hx hd rfl A.P 0 (Nat.zero_add _) _ _
def sb (se : Nat → Nat) (r : Nat) : Nat := se (r / 32) / 2 ^ (r % 32) % 2
theorem q_tb (a k : Nat) : a / 2 ^ k % 2 = (a.testBit k).toNat := by
  rw [Nat.testBit_eq_decide_div_mod_eq]
  rcases Nat.mod_two_eq_zero_or_one (a / 2 ^ k) with h | h <;> rw [h] <;> rfl
theorem q_i0 {a : Nat} (h : a < 4294967296) : nI a = 0 ↔ a = 0 := by
  constructor
  · intro e
    have h1 := congrArg (fun q : Int32 => q.toBitVec.toNat) e
    have h2 : (nI a).toBitVec.toNat = a := by rw [q_bv, BitVec.toNat_ofNat]; exact Nat.mod_eq_of_lt h
    have h3 : (0 : Int32).toBitVec.toNat = 0 := by decide
    simp only [h2, h3] at h1
    exact h1
  · intro e; rw [e]; rfl
theorem q_ab {a k : Nat} (ha : a < 4294967296) (hk : k < 32) : (nI a &&& nI (1 * 2 ^ k)) = 0 ↔ a / 2 ^ k % 2 = 0 := by
  have hp : 2 ^ k ≤ 2147483648 := Nat.pow_le_pow_right (n := 2) (by decide) (show k ≤ 31 by omega)
  have hq : a &&& 2 ^ k ≤ 2 ^ k := Nat.and_le_right
  rw [q_and, Nat.one_mul, q_tb, q_i0 (by omega)]
  constructor
  · intro e
    have h1 := congrArg (fun q => q.testBit k) e
    simp only [Nat.testBit_and, Nat.testBit_two_pow_self, Bool.and_true, Nat.zero_testBit] at h1
    rw [h1]; rfl
  · intro e
    have h1 : a.testBit k = false := by
      cases h : a.testBit k
      · rfl
      · rw [h] at e; cases e
    apply Nat.eq_of_testBit_eq
    intro i
    rw [Nat.testBit_and, Nat.zero_testBit]
    by_cases hi : k = i
    · rw [← hi, h1]; rfl
    · rw [Nat.testBit_two_pow_of_ne hi, Bool.and_false]
theorem sb_un {se : Nat → Nat} {r : Nat} : sb (un se (r / 32) (se (r / 32) ||| 1 * 2 ^ (r % 32))) = un (sb se) r 1 := by
  funext q
  unfold sb
  by_cases h : q = r
  · rw [h, un_at, un_at, q_tb, Nat.testBit_or, Nat.one_mul, Nat.testBit_two_pow_self]; simp
  · rw [un_ne h]
    by_cases h2 : q / 32 = r / 32
    · rw [h2, un_at, q_tb, q_tb, Nat.testBit_or, Nat.one_mul, Nat.testBit_two_pow_of_ne (by omega), Bool.or_false]
    · rw [un_ne h2]
theorem se_un {se : Nat → Nat} {r : Nat} (h : ∀ q, se q < 4294967296) : ∀ q, un se (r / 32) (se (r / 32) ||| 1 * 2 ^ (r % 32)) q < 4294967296 := by
  intro q
  by_cases e : q = r / 32
  · rw [e, un_at]
    refine Nat.or_lt_two_pow (n := 32) (h _) ?_
    have : 2 ^ (r % 32) ≤ 2147483648 := Nat.pow_le_pow_right (n := 2) (by decide) (show r % 32 ≤ 31 by omega)
    omega
  · rw [un_ne e]; exact h q
theorem g_radd0 {X : Nat × (Nat → Int32)} {d : Nat} {A : CA} {R : RA} {o : Nat → Int64} {x : Nat} (h7 : A.P ≤ 7) (hx : x < 2097152) (hd : ∀ p, p < A.P → dg x p < 7) (hl_se : A.sl ≤ 158) (hl_fo : A.fl ≤ 5040) (hr : (rk A.P x A.P).1 / 32 < A.sl) (hr2 : (rk A.P x A.P).1 < 5040) (hse : ∀ q, A.se q < 4294967296) (hs : sb A.se (rk A.P x A.P).1 = 1) : px_ev X (d + 3) 61 [.ref 18, .int (nI x)] (WW A R o) (some none, WW A R o, 0, 0) := by
  refine wp_ev (d := d + 2) (by decide) rfl rfl (fun h => by cases h) ?_
  show wp X (d + 2) 61 (0, [.ref 18, .int (nI x), .retAddr 0, .retAddr 0], [], WW A R o, 0, 0) _
  refine wz_aload_n (p9 := 1) rfl rfl rfl ?_
  refine wz_iload_n (p9 := 2) rfl rfl rfl ?_
  refine wz_c1 (p9 := 5) (w1 := WW A R o) (u := .int (nI ((rk A.P x A.P).1))) (wa_v (N := 62) (i := 18) (As := [.int (nI x)]) (rest := []) rfl rfl rfl rfl rfl rfl rfl) rfl ((g_rankOf (d := 0) h7 hx hd).up (by omega)) ?_
  refine wz_istore_n (l9 := [.ref 18, .int (nI x), .int (nI ((rk A.P x A.P).1)), .retAddr 0]) (p9 := 6) rfl rfl rfl rfl ?_
  refine wz_iconst (x := nI 1) (p9 := 7) rfl rfl (by decide) ?_
  refine wz_iload_n (p9 := 8) rfl rfl rfl ?_
  refine wz_bipush (x := nI 31) (p9 := 10) rfl rfl (by decide) ?_
  refine wn_and31 (p9 := 11) rfl rfl ?_
  refine wn_shl (p9 := 12) rfl rfl (by omega) ?_
  refine wz_istore_n (l9 := [.ref 18, .int (nI x), .int (nI ((rk A.P x A.P).1)), .int (nI (1 * 2 ^ (((rk A.P x A.P).1) % 32)))]) (p9 := 13) rfl rfl rfl rfl ?_
  refine wz_aload_n (p9 := 14) rfl rfl rfl ?_
  refine wz_get (v := .ref 20) (p9 := 17) rfl rfl rfl rfl rfl ?_
  refine wz_iload_n (p9 := 18) rfl rfl rfl ?_
  refine wz_iconst (x := nI 5) (p9 := 19) rfl rfl (by decide) ?_
  refine wn_shr5 (p9 := 20) rfl rfl (by omega) ?_
  refine wl_Ase (f := A.se) (p9 := 21) rfl rfl rfl (show A.sl ≤ 2147483648 by have := hl_se; omega) (show ((rk A.P x A.P).1) / 32 < A.sl by omega) ?_
  refine wz_iload_n (p9 := 22) rfl rfl rfl ?_
  refine wz_iand (v := ((nI (A.se (((rk A.P x A.P).1) / 32))) &&& (nI (1 * 2 ^ (((rk A.P x A.P).1) % 32))))) (p9 := 23) rfl rfl rfl ?_
  refine wz_ifne (t9 := 58) (p9 := 26) rfl rfl rfl (fun _ => ?_) (fun h9 => absurd ((q_ab (hse _) (Nat.mod_lt _ (by decide))).mp h9) (fun h => by unfold sb at hs; omega))
  exact wz_retv rfl rfl rfl
theorem g_radd1 {X : Nat × (Nat → Int32)} {d : Nat} {A : CA} {R : RA} {o : Nat → Int64} {x : Nat} (h7 : A.P ≤ 7) (hx : x < 2097152) (hd : ∀ p, p < A.P → dg x p < 7) (hl_se : A.sl ≤ 158) (hl_fo : A.fl ≤ 5040) (hr : (rk A.P x A.P).1 / 32 < A.sl) (hr2 : (rk A.P x A.P).1 < 5040) (hse : ∀ q, A.se q < 4294967296) (hs : sb A.se (rk A.P x A.P).1 = 0) (hc : A.fc < A.fl) : px_ev X (d + 3) 61 [.ref 18, .int (nI x)] (WW A R o) (some none, WW (CA.s_se (CA.s_fo (CA.s_fc A (A.fc + 1)) (un A.fo A.fc x)) (un A.se ((rk A.P x A.P).1 / 32) (A.se ((rk A.P x A.P).1 / 32) ||| 1 * 2 ^ ((rk A.P x A.P).1 % 32)))) R o, 0, 0) := by
  refine wp_ev (d := d + 2) (by decide) rfl rfl (fun h => by cases h) ?_
  show wp X (d + 2) 61 (0, [.ref 18, .int (nI x), .retAddr 0, .retAddr 0], [], WW A R o, 0, 0) _
  refine wz_aload_n (p9 := 1) rfl rfl rfl ?_
  refine wz_iload_n (p9 := 2) rfl rfl rfl ?_
  refine wz_c1 (p9 := 5) (w1 := WW A R o) (u := .int (nI ((rk A.P x A.P).1))) (wa_v (N := 62) (i := 18) (As := [.int (nI x)]) (rest := []) rfl rfl rfl rfl rfl rfl rfl) rfl ((g_rankOf (d := 0) h7 hx hd).up (by omega)) ?_
  refine wz_istore_n (l9 := [.ref 18, .int (nI x), .int (nI ((rk A.P x A.P).1)), .retAddr 0]) (p9 := 6) rfl rfl rfl rfl ?_
  refine wz_iconst (x := nI 1) (p9 := 7) rfl rfl (by decide) ?_
  refine wz_iload_n (p9 := 8) rfl rfl rfl ?_
  refine wz_bipush (x := nI 31) (p9 := 10) rfl rfl (by decide) ?_
  refine wn_and31 (p9 := 11) rfl rfl ?_
  refine wn_shl (p9 := 12) rfl rfl (by omega) ?_
  refine wz_istore_n (l9 := [.ref 18, .int (nI x), .int (nI ((rk A.P x A.P).1)), .int (nI (1 * 2 ^ (((rk A.P x A.P).1) % 32)))]) (p9 := 13) rfl rfl rfl rfl ?_
  refine wz_aload_n (p9 := 14) rfl rfl rfl ?_
  refine wz_get (v := .ref 20) (p9 := 17) rfl rfl rfl rfl rfl ?_
  refine wz_iload_n (p9 := 18) rfl rfl rfl ?_
  refine wz_iconst (x := nI 5) (p9 := 19) rfl rfl (by decide) ?_
  refine wn_shr5 (p9 := 20) rfl rfl (by omega) ?_
  refine wl_Ase (f := A.se) (p9 := 21) rfl rfl rfl (show A.sl ≤ 2147483648 by have := hl_se; omega) (show ((rk A.P x A.P).1) / 32 < A.sl by omega) ?_
  refine wz_iload_n (p9 := 22) rfl rfl rfl ?_
  refine wz_iand (v := ((nI (A.se (((rk A.P x A.P).1) / 32))) &&& (nI (1 * 2 ^ (((rk A.P x A.P).1) % 32))))) (p9 := 23) rfl rfl rfl ?_
  refine wz_ifne (t9 := 58) (p9 := 26) rfl rfl rfl (fun h9 => absurd ((q_ab (hse _) (Nat.mod_lt _ (by decide))).mpr hs) h9) (fun _ => ?_)
  refine wz_aload_n (p9 := 27) rfl rfl rfl ?_
  refine wz_get (v := .ref 20) (p9 := 30) rfl rfl rfl rfl rfl ?_
  refine wz_iload_n (p9 := 31) rfl rfl rfl ?_
  refine wz_iconst (x := nI 5) (p9 := 32) rfl rfl (by decide) ?_
  refine wn_shr5 (p9 := 33) rfl rfl (by omega) ?_
  refine wz_dup2 (p9 := 34) rfl rfl ?_
  refine wl_Ase (f := A.se) (p9 := 35) rfl rfl rfl (show A.sl ≤ 2147483648 by have := hl_se; omega) (show ((rk A.P x A.P).1) / 32 < A.sl by omega) ?_
  refine wz_iload_n (p9 := 36) rfl rfl rfl ?_
  refine wn_or (p9 := 37) rfl rfl ?_
  refine ws_Ase (f := A.se) (p9 := 38) rfl rfl rfl (show A.sl ≤ 2147483648 by have := hl_se; omega) (show ((rk A.P x A.P).1) / 32 < A.sl by omega) (A1 := (CA.s_se A (un A.se (((rk A.P x A.P).1) / 32) ((A.se (((rk A.P x A.P).1) / 32)) ||| (1 * 2 ^ (((rk A.P x A.P).1) % 32)))))) rfl ?_
  refine wz_aload_n (p9 := 39) rfl rfl rfl ?_
  refine wz_get (v := .ref 19) (p9 := 42) rfl rfl rfl rfl rfl ?_
  refine wz_aload_n (p9 := 43) rfl rfl rfl ?_
  refine wz_get (v := .int (nI A.fc)) (p9 := 46) rfl rfl rfl rfl rfl ?_
  refine wz_iload_n (p9 := 47) rfl rfl rfl ?_
  refine ws_Afo (f := A.fo) (p9 := 48) rfl rfl rfl (show A.fl ≤ 2147483648 by have := hl_fo; omega) (show A.fc < A.fl by omega) (A1 := (CA.s_se (CA.s_fo A (un A.fo A.fc x)) (un A.se (((rk A.P x A.P).1) / 32) ((A.se (((rk A.P x A.P).1) / 32)) ||| (1 * 2 ^ (((rk A.P x A.P).1) % 32)))))) rfl ?_
  refine wz_aload_n (p9 := 49) rfl rfl rfl ?_
  refine wz_dupr (p9 := 50) rfl rfl ?_
  refine wz_get (v := .int (nI A.fc)) (p9 := 53) rfl rfl rfl rfl rfl ?_
  refine wz_iconst (x := nI 1) (p9 := 54) rfl rfl (by decide) ?_
  refine wn_add (p9 := 55) rfl rfl ?_
  refine wp_Afc (x := (A.fc + 1)) (p9 := 58) rfl rfl rfl rfl (A1 := (CA.s_se (CA.s_fo (CA.s_fc A (A.fc + 1)) (un A.fo A.fc x)) (un A.se (((rk A.P x A.P).1) / 32) ((A.se (((rk A.P x A.P).1) / 32)) ||| (1 * 2 ^ (((rk A.P x A.P).1) % 32)))))) rfl ?_
  exact wz_retv rfl rfl rfl
/-- how many of the first k have 0 -/
def zs (f : Nat → Nat) : Nat → Nat
  | 0 => 0
  | k + 1 => zs f k + if f k = 0 then 1 else 0
theorem zs_ge {f : Nat → Nat} {r : Nat} : ∀ {k : Nat}, k ≤ r → zs (un f r 1) k = zs f k
  | 0, _ => rfl
  | k + 1, h => by
    show zs (un f r 1) k + (if un f r 1 k = 0 then 1 else 0) = zs f k + (if f k = 0 then 1 else 0)
    rw [zs_ge (by omega), un_ne (by omega)]
theorem zs_un {f : Nat → Nat} {r : Nat} (h0 : f r = 0) : ∀ {k : Nat}, r < k → zs (un f r 1) k + 1 = zs f k
  | k + 1, h => by
    show zs (un f r 1) k + (if un f r 1 k = 0 then 1 else 0) + 1 = zs f k + (if f k = 0 then 1 else 0)
    by_cases e : k = r
    · rw [e, un_at, h0, zs_ge (Nat.le_refl _)]; rfl
    · have := zs_un h0 (k := k) (by omega)
      rw [un_ne e]
      omega
theorem zs_pos {f : Nat → Nat} {r k : Nat} (h0 : f r = 0) (h : r < k) : 0 < zs f k := by
  have := zs_un h0 h
  omega
/-- a state found, unless it was -/
def adS (rf : Nat → Nat) (x : Nat) (b : Nat × (Nat → Nat) × (Nat → Nat)) : Nat × (Nat → Nat) × (Nat → Nat) := if b.2.2 (rf x) = 0 then (b.1 + 1, un b.2.1 b.1 x, un b.2.2 (rf x) 1) else b
def inS (rf : Nat → Nat) (tf : Nat → Nat → Nat) (i : Nat) : Nat → Nat → Nat × (Nat → Nat) × (Nat → Nat) → Nat × (Nat → Nat) × (Nat → Nat)
  | 0, _, b => b
  | j + 1, m, b => inS rf tf i j (m + 1) (adS rf (tf m (b.2.1 i)) b)
def bfS (rf : Nat → Nat) (tf : Nat → Nat → Nat) (Mv : Nat) : Nat → Nat → Nat × (Nat → Nat) × (Nat → Nat) → Nat × (Nat → Nat) × (Nat → Nat)
  | 0, _, b => b
  | j + 1, i, b => if i < b.1 then bfS rf tf Mv j (i + 1) (inS rf tf i Mv 0 b) else b
/-- what holds while states are found: F in all -/
def BF (ok : Nat → Prop) (F : Nat) (b : Nat × (Nat → Nat) × (Nat → Nat)) : Prop := b.1 + zs b.2.2 F = F ∧ (∀ i, i < b.1 → ok (b.2.1 i)) ∧ ∀ r, b.2.2 r < 2
theorem BF_ad {ok : Nat → Prop} {F : Nat} {rf : Nat → Nat} {b : Nat × (Nat → Nat) × (Nat → Nat)} {x : Nat} (h : BF ok F b) (hx : ok x) (hr : rf x < F) : BF ok F (adS rf x b) := by
  unfold adS
  split
  · rename_i h0
    have h1 := zs_un h0 hr
    refine ⟨?_, fun i hi => ?_, fun r => ?_⟩
    · have := h.1
      show b.1 + 1 + zs (un b.2.2 (rf x) 1) F = F
      omega
    · show ok (un b.2.1 b.1 x i)
      by_cases e : i = b.1
      · rw [e, un_at]; exact hx
      · rw [un_ne e]; exact h.2.1 i (by have : i < b.1 + 1 := hi; omega)
    · show un b.2.2 (rf x) 1 r < 2
      by_cases e : r = rf x
      · rw [e, un_at]; decide
      · rw [un_ne e]; exact h.2.2 r
  · exact h
theorem ad_ge {rf : Nat → Nat} {x : Nat} {b : Nat × (Nat → Nat) × (Nat → Nat)} : b.1 ≤ (adS rf x b).1 := by
  unfold adS
  split
  · exact Nat.le_succ _
  · exact Nat.le_refl _
theorem ad_lt {rf : Nat → Nat} {x i : Nat} {b : Nat × (Nat → Nat) × (Nat → Nat)} (h : i < b.1) : (adS rf x b).2.1 i = b.2.1 i := by
  unfold adS
  split
  · exact un_ne (by omega)
  · rfl
