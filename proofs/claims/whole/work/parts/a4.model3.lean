/-! THE REFERENCE: the tail of a part, rows shortened, a word entered (wip/whole/gen/mka4.py) -/
theorem g_byteAt1 {X : Nat × (Nat → Int32)} {d : Nat} {A : CA} {R : RA} {o : Nat → Int64} {i : Nat} (hs : R.sz ≤ 100) (hi : i < R.sz) : px_ev X (d + 1) 111 [.ref 26, .int (nI i)] (WW A R o) (some (some (.int (nI (R.tx i)))), WW A R o, 0, 0) := by
  refine wp_ev (d := d + 0) (by decide) rfl rfl (fun h => by cases h) ?_
  show wp X (d + 0) 111 (0, [.ref 26, .int (nI i)], [], WW A R o, 0, 0) _
  refine wz_iload_n (p9 := 1) rfl rfl rfl ?_
  refine wz_aload_n (p9 := 2) rfl rfl rfl ?_
  refine wz_get (v := .int (nI R.sz)) (p9 := 5) rfl rfl rfl rfl rfl ?_
  refine wn_icge (t9 := 17) (p9 := 8) rfl rfl rfl (by omega) (by omega) (fun h9 => by omega) (fun _ => ?_)
  refine wz_aload_n (p9 := 9) rfl rfl rfl ?_
  refine wz_get (v := .ref 29) (p9 := 12) rfl rfl rfl rfl rfl ?_
  refine wz_iload_n (p9 := 13) rfl rfl rfl ?_
  refine wl_Rtx (f := R.tx) (p9 := 14) rfl rfl rfl (by omega) ?_
  refine wz_goto (p9 := 18) rfl rfl ?_
  exact wz_reti rfl rfl rfl
theorem g_byteAt0 {X : Nat × (Nat → Int32)} {d : Nat} {A : CA} {R : RA} {o : Nat → Int64} {i : Nat} (hs : R.sz ≤ 100) (hi : R.sz ≤ i) (h2 : i < 1000) : px_ev X (d + 1) 111 [.ref 26, .int (nI i)] (WW A R o) (some (some (.int (-1))), WW A R o, 0, 0) := by
  refine wp_ev (d := d + 0) (by decide) rfl rfl (fun h => by cases h) ?_
  show wp X (d + 0) 111 (0, [.ref 26, .int (nI i)], [], WW A R o, 0, 0) _
  refine wz_iload_n (p9 := 1) rfl rfl rfl ?_
  refine wz_aload_n (p9 := 2) rfl rfl rfl ?_
  refine wz_get (v := .int (nI R.sz)) (p9 := 5) rfl rfl rfl rfl rfl ?_
  refine wn_icge (t9 := 17) (p9 := 8) rfl rfl rfl (by omega) (by omega) (fun _ => ?_) (fun h9 => by omega)
  refine wz_iconst (x := (-1)) (p9 := 18) rfl rfl (by decide) ?_
  exact wz_reti rfl rfl rfl
theorem l_tail1 {X : Nat × (Nat → Int32)} {d : Nat} {A : CA} {R : RA} {o : Nat → Int64} (hs : R.sz ≤ 100) (hx : ∀ q, R.tx q < 256) {p f k z : Nat} (hp : p < 200) {Q : px_Z → Prop} {i x : Nat} (hd : (p < R.sz ∧ 50 ≤ R.tx p ∧ R.tx p ≤ 57 ∧ i = p + 1 ∧ x = R.tx p - 48) ∨ (¬ (p < R.sz ∧ 50 ≤ R.tx p ∧ R.tx p ≤ 57) ∧ i = p ∧ x = 1)) (kk : wp X (d + 5) 110 (38, [.ref 26, .int (nI p), .int (nI f), .int (nI i), .int (nI x), .retAddr 0, .retAddr 0, .retAddr 0, .retAddr 0], [], WW A R o, k, z) Q) : wp X (d + 5) 110 (0, [.ref 26, .int (nI p), .int (nI f), .retAddr 0, .retAddr 0, .retAddr 0, .retAddr 0, .retAddr 0, .retAddr 0], [], WW A R o, k, z) Q := by
  have hb := hx p
  rcases hd with ⟨h1, h2, h3, rfl, rfl⟩ | ⟨h1, e1, rfl⟩
  · skip
    refine wz_iload_n (p9 := 1) rfl rfl rfl ?_
    refine wz_istore_n (l9 := [.ref 26, .int (nI p), .int (nI f), .int (nI p), .retAddr 0, .retAddr 0, .retAddr 0, .retAddr 0, .retAddr 0]) (p9 := 2) rfl rfl rfl rfl ?_
    refine wz_iconst (x := nI 1) (p9 := 3) rfl rfl (by decide) ?_
    refine wz_istore (l9 := [.ref 26, .int (nI p), .int (nI f), .int (nI p), .int (nI 1), .retAddr 0, .retAddr 0, .retAddr 0, .retAddr 0]) (p9 := 5) rfl rfl rfl rfl ?_
    refine wz_aload_n (p9 := 6) rfl rfl rfl ?_
    refine wz_iload_n (p9 := 7) rfl rfl rfl ?_
    refine wz_c1 (p9 := 10) (w1 := WW A R o) (u := .int (nI (R.tx p))) (wa_v (N := 111) (i := 26) (As := [.int (nI p)]) (rest := []) rfl rfl rfl rfl rfl rfl rfl) rfl ((g_byteAt1 (d := 0) hs (by omega)).up (by omega)) ?_
    refine wz_bipush (x := nI 50) (p9 := 12) rfl rfl (by decide) ?_
    refine wn_iclt (t9 := 38) (p9 := 15) rfl rfl rfl (by omega) (by omega) (fun h9 => by omega) (fun _ => ?_)
    refine wz_aload_n (p9 := 16) rfl rfl rfl ?_
    refine wz_iload_n (p9 := 17) rfl rfl rfl ?_
    refine wz_c1 (p9 := 20) (w1 := WW A R o) (u := .int (nI (R.tx p))) (wa_v (N := 111) (i := 26) (As := [.int (nI p)]) (rest := []) rfl rfl rfl rfl rfl rfl rfl) rfl ((g_byteAt1 (d := 0) hs (by omega)).up (by omega)) ?_
    refine wz_bipush (x := nI 57) (p9 := 22) rfl rfl (by decide) ?_
    refine wn_icgt (t9 := 38) (p9 := 25) rfl rfl rfl (by omega) (by omega) (fun h9 => by omega) (fun _ => ?_)
    refine wz_aload_n (p9 := 26) rfl rfl rfl ?_
    refine wz_iload_n (p9 := 27) rfl rfl rfl ?_
    refine wz_c1 (p9 := 30) (w1 := WW A R o) (u := .int (nI (R.tx p))) (wa_v (N := 111) (i := 26) (As := [.int (nI p)]) (rest := []) rfl rfl rfl rfl rfl rfl rfl) rfl ((g_byteAt1 (d := 0) hs (by omega)).up (by omega)) ?_
    refine wz_bipush (x := nI 48) (p9 := 32) rfl rfl (by decide) ?_
    refine wn_sub (p9 := 33) rfl rfl (by omega) ?_
    refine wz_istore (l9 := [.ref 26, .int (nI p), .int (nI f), .int (nI p), .int (nI ((R.tx p) - 48)), .retAddr 0, .retAddr 0, .retAddr 0, .retAddr 0]) (p9 := 35) rfl rfl rfl rfl ?_
    refine wn_inc (b := 1) (l9 := [.ref 26, .int (nI p), .int (nI f), .int (nI (p + 1)), .int (nI ((R.tx p) - 48)), .retAddr 0, .retAddr 0, .retAddr 0, .retAddr 0]) (p9 := 38) rfl rfl rfl (by decide) rfl ?_
    exact kk
  · have e1 := e1.symm
    subst e1
    by_cases h2 : p < R.sz
    · by_cases h3 : R.tx p < 50
      · skip
        refine wz_iload_n (p9 := 1) rfl rfl rfl ?_
        refine wz_istore_n (l9 := [.ref 26, .int (nI p), .int (nI f), .int (nI p), .retAddr 0, .retAddr 0, .retAddr 0, .retAddr 0, .retAddr 0]) (p9 := 2) rfl rfl rfl rfl ?_
        refine wz_iconst (x := nI 1) (p9 := 3) rfl rfl (by decide) ?_
        refine wz_istore (l9 := [.ref 26, .int (nI p), .int (nI f), .int (nI p), .int (nI 1), .retAddr 0, .retAddr 0, .retAddr 0, .retAddr 0]) (p9 := 5) rfl rfl rfl rfl ?_
        refine wz_aload_n (p9 := 6) rfl rfl rfl ?_
        refine wz_iload_n (p9 := 7) rfl rfl rfl ?_
        refine wz_c1 (p9 := 10) (w1 := WW A R o) (u := .int (nI (R.tx p))) (wa_v (N := 111) (i := 26) (As := [.int (nI p)]) (rest := []) rfl rfl rfl rfl rfl rfl rfl) rfl ((g_byteAt1 (d := 0) hs (by omega)).up (by omega)) ?_
        refine wz_bipush (x := nI 50) (p9 := 12) rfl rfl (by decide) ?_
        refine wn_iclt (t9 := 38) (p9 := 15) rfl rfl rfl (by omega) (by omega) (fun _ => ?_) (fun h9 => by omega)
        exact kk
      · have h4 : 57 < R.tx p := by omega
        refine wz_iload_n (p9 := 1) rfl rfl rfl ?_
        refine wz_istore_n (l9 := [.ref 26, .int (nI p), .int (nI f), .int (nI p), .retAddr 0, .retAddr 0, .retAddr 0, .retAddr 0, .retAddr 0]) (p9 := 2) rfl rfl rfl rfl ?_
        refine wz_iconst (x := nI 1) (p9 := 3) rfl rfl (by decide) ?_
        refine wz_istore (l9 := [.ref 26, .int (nI p), .int (nI f), .int (nI p), .int (nI 1), .retAddr 0, .retAddr 0, .retAddr 0, .retAddr 0]) (p9 := 5) rfl rfl rfl rfl ?_
        refine wz_aload_n (p9 := 6) rfl rfl rfl ?_
        refine wz_iload_n (p9 := 7) rfl rfl rfl ?_
        refine wz_c1 (p9 := 10) (w1 := WW A R o) (u := .int (nI (R.tx p))) (wa_v (N := 111) (i := 26) (As := [.int (nI p)]) (rest := []) rfl rfl rfl rfl rfl rfl rfl) rfl ((g_byteAt1 (d := 0) hs (by omega)).up (by omega)) ?_
        refine wz_bipush (x := nI 50) (p9 := 12) rfl rfl (by decide) ?_
        refine wn_iclt (t9 := 38) (p9 := 15) rfl rfl rfl (by omega) (by omega) (fun h9 => by omega) (fun _ => ?_)
        refine wz_aload_n (p9 := 16) rfl rfl rfl ?_
        refine wz_iload_n (p9 := 17) rfl rfl rfl ?_
        refine wz_c1 (p9 := 20) (w1 := WW A R o) (u := .int (nI (R.tx p))) (wa_v (N := 111) (i := 26) (As := [.int (nI p)]) (rest := []) rfl rfl rfl rfl rfl rfl rfl) rfl ((g_byteAt1 (d := 0) hs (by omega)).up (by omega)) ?_
        refine wz_bipush (x := nI 57) (p9 := 22) rfl rfl (by decide) ?_
        refine wn_icgt (t9 := 38) (p9 := 25) rfl rfl rfl (by omega) (by omega) (fun _ => ?_) (fun h9 => by omega)
        exact kk
    · have h2 : R.sz ≤ p := by omega
      refine wz_iload_n (p9 := 1) rfl rfl rfl ?_
      refine wz_istore_n (l9 := [.ref 26, .int (nI p), .int (nI f), .int (nI p), .retAddr 0, .retAddr 0, .retAddr 0, .retAddr 0, .retAddr 0]) (p9 := 2) rfl rfl rfl rfl ?_
      refine wz_iconst (x := nI 1) (p9 := 3) rfl rfl (by decide) ?_
      refine wz_istore (l9 := [.ref 26, .int (nI p), .int (nI f), .int (nI p), .int (nI 1), .retAddr 0, .retAddr 0, .retAddr 0, .retAddr 0]) (p9 := 5) rfl rfl rfl rfl ?_
      refine wz_aload_n (p9 := 6) rfl rfl rfl ?_
      refine wz_iload_n (p9 := 7) rfl rfl rfl ?_
      refine wz_c1 (p9 := 10) (w1 := WW A R o) (u := .int (-1)) (wa_v (N := 111) (i := 26) (As := [.int (nI p)]) (rest := []) rfl rfl rfl rfl rfl rfl rfl) rfl ((g_byteAt0 (d := 0) hs (by omega) (by omega)).up (by omega)) ?_
      refine wz_bipush (x := nI 50) (p9 := 12) rfl rfl (by decide) ?_
      refine wz_iclt (t9 := 38) (p9 := 15) rfl rfl rfl (fun _ => ?_) (fun h9 => absurd (by decide) h9)
      exact kk
theorem l_tail2 {X : Nat × (Nat → Int32)} {d : Nat} {A : CA} {R : RA} {o : Nat → Int64} (hs : R.sz ≤ 100) (hx : ∀ q, R.tx q < 256) {p f i x k z : Nat} (hi : i < 300) {Q : px_Z → Prop} {ρ : Nat} (hd : (i < R.sz ∧ R.tx i = 39 ∧ ρ = 1) ∨ (¬ (i < R.sz ∧ R.tx i = 39) ∧ ρ = 0)) (kk : wp X (d + 5) 110 (55, [.ref 26, .int (nI p), .int (nI f), .int (nI i), .int (nI x), .int (nI ρ), .retAddr 0, .retAddr 0, .retAddr 0], [], WW A R o, k, z) Q) : wp X (d + 5) 110 (38, [.ref 26, .int (nI p), .int (nI f), .int (nI i), .int (nI x), .retAddr 0, .retAddr 0, .retAddr 0, .retAddr 0], [], WW A R o, k, z) Q := by
  have hb := hx i
  rcases hd with ⟨h1, h2, rfl⟩ | ⟨h1, rfl⟩
  · skip
    refine wz_aload_n (p9 := 39) rfl rfl rfl ?_
    refine wz_iload_n (p9 := 40) rfl rfl rfl ?_
    refine wz_c1 (p9 := 43) (w1 := WW A R o) (u := .int (nI (R.tx i))) (wa_v (N := 111) (i := 26) (As := [.int (nI i)]) (rest := []) rfl rfl rfl rfl rfl rfl rfl) rfl ((g_byteAt1 (d := 0) hs (by omega)).up (by omega)) ?_
    refine wz_bipush (x := nI 39) (p9 := 45) rfl rfl (by decide) ?_
    refine wn_icne (t9 := 52) (p9 := 48) rfl rfl rfl (by omega) (by omega) (fun h9 => by omega) (fun _ => ?_)
    refine wz_iconst (x := nI 1) (p9 := 49) rfl rfl (by decide) ?_
    refine wz_goto (p9 := 53) rfl rfl ?_
    refine wz_istore (l9 := [.ref 26, .int (nI p), .int (nI f), .int (nI i), .int (nI x), .int (nI 1), .retAddr 0, .retAddr 0, .retAddr 0]) (p9 := 55) rfl rfl rfl rfl ?_
    exact kk
  · by_cases h2 : i < R.sz
    · have h3 : R.tx i ≠ 39 := fun q => h1 ⟨h2, q⟩
      refine wz_aload_n (p9 := 39) rfl rfl rfl ?_
      refine wz_iload_n (p9 := 40) rfl rfl rfl ?_
      refine wz_c1 (p9 := 43) (w1 := WW A R o) (u := .int (nI (R.tx i))) (wa_v (N := 111) (i := 26) (As := [.int (nI i)]) (rest := []) rfl rfl rfl rfl rfl rfl rfl) rfl ((g_byteAt1 (d := 0) hs (by omega)).up (by omega)) ?_
      refine wz_bipush (x := nI 39) (p9 := 45) rfl rfl (by decide) ?_
      refine wn_icne (t9 := 52) (p9 := 48) rfl rfl rfl (by omega) (by omega) (fun _ => ?_) (fun h9 => by omega)
      refine wz_iconst (x := nI 0) (p9 := 53) rfl rfl (by decide) ?_
      refine wz_istore (l9 := [.ref 26, .int (nI p), .int (nI f), .int (nI i), .int (nI x), .int (nI 0), .retAddr 0, .retAddr 0, .retAddr 0]) (p9 := 55) rfl rfl rfl rfl ?_
      exact kk
    · have h2 : R.sz ≤ i := by omega
      refine wz_aload_n (p9 := 39) rfl rfl rfl ?_
      refine wz_iload_n (p9 := 40) rfl rfl rfl ?_
      refine wz_c1 (p9 := 43) (w1 := WW A R o) (u := .int (-1)) (wa_v (N := 111) (i := 26) (As := [.int (nI i)]) (rest := []) rfl rfl rfl rfl rfl rfl rfl) rfl ((g_byteAt0 (d := 0) hs (by omega) (by omega)).up (by omega)) ?_
      refine wz_bipush (x := nI 39) (p9 := 45) rfl rfl (by decide) ?_
      refine wz_icne (t9 := 52) (p9 := 48) rfl rfl rfl (fun _ => ?_) (fun h9 => absurd h9 (by decide))
      refine wz_iconst (x := nI 0) (p9 := 53) rfl rfl (by decide) ?_
      refine wz_istore (l9 := [.ref 26, .int (nI p), .int (nI f), .int (nI i), .int (nI x), .int (nI 0), .retAddr 0, .retAddr 0, .retAddr 0]) (p9 := 55) rfl rfl rfl rfl ?_
      exact kk
theorem l_tail3 {X : Nat × (Nat → Int32)} {d : Nat} {A : CA} {R : RA} {o : Nat → Int64} (hs : R.sz ≤ 100) (hx : ∀ q, R.tx q < 256) {p f i x ρ k z : Nat} (hp : p ≤ 101) (hf : f ≤ 400) (hm : R.mn ≤ 400) {Q : px_Z → Prop} {l : Nat} (hd : ((R.mn = f + 1 ∧ 0 < p ∧ 97 ≤ R.tx (p - 1) ∧ R.tx (p - 1) ≤ 102) ∧ p ≤ 100 ∧ l = 1) ∨ (¬ (R.mn = f + 1 ∧ 0 < p ∧ 97 ≤ R.tx (p - 1) ∧ R.tx (p - 1) ≤ 102) ∧ p ≤ 100 ∧ l = 0)) (kk : wp X (d + 5) 110 (106, [.ref 26, .int (nI p), .int (nI f), .int (nI i), .int (nI x), .int (nI ρ), .int (nI R.mn), .int (nI l), .retAddr 0], [], WW A R o, k, z) Q) : wp X (d + 5) 110 (55, [.ref 26, .int (nI p), .int (nI f), .int (nI i), .int (nI x), .int (nI ρ), .retAddr 0, .retAddr 0, .retAddr 0], [], WW A R o, k, z) Q := by
  have hb := hx (p - 1)
  rcases hd with ⟨⟨h1, h2, h3, h4⟩, h5, rfl⟩ | ⟨h1, h5, rfl⟩
  · skip
    refine wz_aload_n (p9 := 56) rfl rfl rfl ?_
    refine wz_get (v := .int (nI R.mn)) (p9 := 59) rfl rfl rfl rfl rfl ?_
    refine wz_istore (l9 := [.ref 26, .int (nI p), .int (nI f), .int (nI i), .int (nI x), .int (nI ρ), .int (nI R.mn), .retAddr 0, .retAddr 0]) (p9 := 61) rfl rfl rfl rfl ?_
    refine wz_iload (p9 := 63) rfl rfl rfl ?_
    refine wz_iload_n (p9 := 64) rfl rfl rfl ?_
    refine wz_iconst (x := nI 1) (p9 := 65) rfl rfl (by decide) ?_
    refine wn_add (p9 := 66) rfl rfl ?_
    refine wn_icne (t9 := 103) (p9 := 69) rfl rfl rfl (by omega) (by omega) (fun h9 => by omega) (fun _ => ?_)
    refine wz_iload_n (p9 := 70) rfl rfl rfl ?_
    refine wn_ifle (t9 := 103) (p9 := 73) rfl rfl rfl (by omega) (fun h9 => by omega) (fun _ => ?_)
    refine wz_aload_n (p9 := 74) rfl rfl rfl ?_
    refine wz_get (v := .ref 29) (p9 := 77) rfl rfl rfl rfl rfl ?_
    refine wz_iload_n (p9 := 78) rfl rfl rfl ?_
    refine wz_iconst (x := nI 1) (p9 := 79) rfl rfl (by decide) ?_
    refine wn_sub (p9 := 80) rfl rfl (by omega) ?_
    refine wl_Rtx (f := R.tx) (p9 := 81) rfl rfl rfl (by omega) ?_
    refine wz_bipush (x := nI 97) (p9 := 83) rfl rfl (by decide) ?_
    refine wn_iclt (t9 := 103) (p9 := 86) rfl rfl rfl (by omega) (by omega) (fun h9 => by omega) (fun _ => ?_)
    refine wz_aload_n (p9 := 87) rfl rfl rfl ?_
    refine wz_get (v := .ref 29) (p9 := 90) rfl rfl rfl rfl rfl ?_
    refine wz_iload_n (p9 := 91) rfl rfl rfl ?_
    refine wz_iconst (x := nI 1) (p9 := 92) rfl rfl (by decide) ?_
    refine wn_sub (p9 := 93) rfl rfl (by omega) ?_
    refine wl_Rtx (f := R.tx) (p9 := 94) rfl rfl rfl (by omega) ?_
    refine wz_bipush (x := nI 102) (p9 := 96) rfl rfl (by decide) ?_
    refine wn_icgt (t9 := 103) (p9 := 99) rfl rfl rfl (by omega) (by omega) (fun h9 => by omega) (fun _ => ?_)
    refine wz_iconst (x := nI 1) (p9 := 100) rfl rfl (by decide) ?_
    refine wz_goto (p9 := 104) rfl rfl ?_
    refine wz_istore (l9 := [.ref 26, .int (nI p), .int (nI f), .int (nI i), .int (nI x), .int (nI ρ), .int (nI R.mn), .int (nI 1), .retAddr 0]) (p9 := 106) rfl rfl rfl rfl ?_
    exact kk
  · skip
    refine wz_aload_n (p9 := 56) rfl rfl rfl ?_
    refine wz_get (v := .int (nI R.mn)) (p9 := 59) rfl rfl rfl rfl rfl ?_
    refine wz_istore (l9 := [.ref 26, .int (nI p), .int (nI f), .int (nI i), .int (nI x), .int (nI ρ), .int (nI R.mn), .retAddr 0, .retAddr 0]) (p9 := 61) rfl rfl rfl rfl ?_
    refine wz_iload (p9 := 63) rfl rfl rfl ?_
    refine wz_iload_n (p9 := 64) rfl rfl rfl ?_
    refine wz_iconst (x := nI 1) (p9 := 65) rfl rfl (by decide) ?_
    refine wn_add (p9 := 66) rfl rfl ?_
    refine wn_icne (t9 := 103) (p9 := 69) rfl rfl rfl (by omega) (by omega) (fun h66 => ?_) (fun h66 => ?_)
    · refine wz_iconst (x := nI 0) (p9 := 104) rfl rfl (by decide) ?_
      refine wz_istore (l9 := [.ref 26, .int (nI p), .int (nI f), .int (nI i), .int (nI x), .int (nI ρ), .int (nI R.mn), .int (nI 0), .retAddr 0]) (p9 := 106) rfl rfl rfl rfl ?_
      exact kk
    · refine wz_iload_n (p9 := 70) rfl rfl rfl ?_
      refine wn_ifle (t9 := 103) (p9 := 73) rfl rfl rfl (by omega) (fun h70 => ?_) (fun h70 => ?_)
      · refine wz_iconst (x := nI 0) (p9 := 104) rfl rfl (by decide) ?_
        refine wz_istore (l9 := [.ref 26, .int (nI p), .int (nI f), .int (nI i), .int (nI x), .int (nI ρ), .int (nI R.mn), .int (nI 0), .retAddr 0]) (p9 := 106) rfl rfl rfl rfl ?_
        exact kk
      · refine wz_aload_n (p9 := 74) rfl rfl rfl ?_
        refine wz_get (v := .ref 29) (p9 := 77) rfl rfl rfl rfl rfl ?_
        refine wz_iload_n (p9 := 78) rfl rfl rfl ?_
        refine wz_iconst (x := nI 1) (p9 := 79) rfl rfl (by decide) ?_
        refine wn_sub (p9 := 80) rfl rfl (by omega) ?_
        refine wl_Rtx (f := R.tx) (p9 := 81) rfl rfl rfl (by omega) ?_
        refine wz_bipush (x := nI 97) (p9 := 83) rfl rfl (by decide) ?_
        refine wn_iclt (t9 := 103) (p9 := 86) rfl rfl rfl (by omega) (by omega) (fun h83 => ?_) (fun h83 => ?_)
        · refine wz_iconst (x := nI 0) (p9 := 104) rfl rfl (by decide) ?_
          refine wz_istore (l9 := [.ref 26, .int (nI p), .int (nI f), .int (nI i), .int (nI x), .int (nI ρ), .int (nI R.mn), .int (nI 0), .retAddr 0]) (p9 := 106) rfl rfl rfl rfl ?_
          exact kk
        · refine wz_aload_n (p9 := 87) rfl rfl rfl ?_
          refine wz_get (v := .ref 29) (p9 := 90) rfl rfl rfl rfl rfl ?_
          refine wz_iload_n (p9 := 91) rfl rfl rfl ?_
          refine wz_iconst (x := nI 1) (p9 := 92) rfl rfl (by decide) ?_
          refine wn_sub (p9 := 93) rfl rfl (by omega) ?_
          refine wl_Rtx (f := R.tx) (p9 := 94) rfl rfl rfl (by omega) ?_
          refine wz_bipush (x := nI 102) (p9 := 96) rfl rfl (by decide) ?_
          refine wn_icgt (t9 := 103) (p9 := 99) rfl rfl rfl (by omega) (by omega) (fun h96 => ?_) (fun h96 => ?_)
          · refine wz_iconst (x := nI 0) (p9 := 104) rfl rfl (by decide) ?_
            refine wz_istore (l9 := [.ref 26, .int (nI p), .int (nI f), .int (nI i), .int (nI x), .int (nI ρ), .int (nI R.mn), .int (nI 0), .retAddr 0]) (p9 := 106) rfl rfl rfl rfl ?_
            exact kk
          · refine wz_iconst (x := nI 1) (p9 := 100) rfl rfl (by decide) ?_
            refine wz_goto (p9 := 104) rfl rfl ?_
            refine wz_istore (l9 := [.ref 26, .int (nI p), .int (nI f), .int (nI i), .int (nI x), .int (nI ρ), .int (nI R.mn), .int (nI 1), .retAddr 0]) (p9 := 106) rfl rfl rfl rfl ?_
            exact (h1 (by omega)).elim
theorem BO_cp {od : Nat → Nat} : ∀ (j f : Nat) (b : Nat × (Nat → Nat) × Nat), BO od b → f + j ≤ b.1 → BO od (cp f j b)
  | 0, _, b, h, _ => h
  | j + 1, f, b, h, hj => BO_cp j (f + 1) _ (BO_pu h (fun e => h.2.2.2 e f (by omega))) (by have := pu_le (b := b) (x := b.2.1 f); omega)
theorem BO_pt {od : Nat → Nat} (ho : ∀ m, m < 6 → 1 ≤ od m ∧ od m ≤ 12) {f : Nat} : ∀ (j : Nat) (b : Nat × (Nat → Nat) × Nat), BO od b → f + j ≤ b.1 → BO od (pt od f j b)
  | 0, b, h, _ => h
  | j + 1, b, h, hj => BO_pt ho j _ (BO_pu h (fun e => ro_tw ho (h.2.2.2 e (f + j) (by omega)))) (by have := pu_le (b := b) (x := tw od (b.2.1 (f + j))); omega)
theorem BO_rp {od : Nat → Nat} {f e : Nat} (hf : f ≤ e) : ∀ (j : Nat) (b : Nat × (Nat → Nat) × Nat), BO od b → e ≤ b.1 → BO od (rp f e j b)
  | 0, b, h, _ => h
  | j + 1, b, h, he => BO_rp hf j _ (BO_cp _ _ _ h (by omega)) (Nat.le_trans he (cp_ge _ _ _))
theorem l_tail4 {X : Nat × (Nat → Int32)} {d : Nat} {A : CA} {R : RA} {o : Nat → Int64} {od : Nat → Nat} (T : TV R.P R.Mv R.t od) {p f i x ρ e k z : Nat} (hx : x < 10) (hf : f ≤ e) {Q : px_Z → Prop} : ∀ (j k9 : Nat) (b : Nat × (Nat → Nat) × Nat), k9 + j = x → BO od b → e ≤ b.1 → (∀ v, wp X (d + 5) 110 (170, [.ref 26, .int (nI p), .int (nI f), .int (nI i), .int (nI x), .int (nI ρ), .int (nI e), .int (nI 0), v], [], WW A (RA.s_tm (RA.s_mn (RA.s_cm R ((rp f e j b).2.1)) ((rp f e j b).1)) ((rp f e j b).2.2)) o, k, z) Q) → wp X (d + 5) 110 (149, [.ref 26, .int (nI p), .int (nI f), .int (nI i), .int (nI x), .int (nI ρ), .int (nI e), .int (nI 0), .int (nI k9)], [], WW A (RA.s_tm (RA.s_mn (RA.s_cm R b.2.1) b.1) b.2.2) o, k, z) Q
  | 0, k9, b, hj, h, he, kk => by
    refine wz_iload (p9 := 151) rfl rfl rfl ?_
    refine wz_iload (p9 := 153) rfl rfl rfl ?_
    refine wn_icge (t9 := 170) (p9 := 156) rfl rfl rfl (by omega) (by omega) (fun _ => ?_) (fun h9 => by omega)
    exact kk _
  | j + 1, k9, b, hj, h, he, kk => by
    refine wz_iload (p9 := 151) rfl rfl rfl ?_
    refine wz_iload (p9 := 153) rfl rfl rfl ?_
    refine wn_icge (t9 := 170) (p9 := 156) rfl rfl rfl (by omega) (by omega) (fun h9 => by omega) (fun _ => ?_)
    refine wz_aload_n (p9 := 157) rfl rfl rfl ?_
    refine wz_iload_n (p9 := 158) rfl rfl rfl ?_
    refine wz_iload (p9 := 160) rfl rfl rfl ?_
    refine wz_iconst (x := nI 0) (p9 := 161) rfl rfl (by decide) ?_
    refine wz_c0 (p9 := 164) (w1 := WW A (RA.s_tm (RA.s_mn (RA.s_cm R ((cp f (e - f) b).2.1)) ((cp f (e - f) b).1)) ((cp f (e - f) b).2.2)) o) (wa_v (N := 112) (i := 26) (As := [.int (nI f), .int (nI e), .int (nI 0)]) (rest := []) rfl rfl rfl rfl rfl rfl rfl) rfl ((g_again0 (d := 0) (A := A) (R := (RA.s_tm (RA.s_mn (RA.s_cm R b.2.1) b.1) b.2.2)) T (b := b) rfl h hf he).up (by omega)) ?_
    refine wn_inc (b := 1) (l9 := [.ref 26, .int (nI p), .int (nI f), .int (nI i), .int (nI x), .int (nI ρ), .int (nI e), .int (nI 0), .int (nI (k9 + 1))]) (p9 := 167) rfl rfl rfl (by decide) rfl ?_
    refine wz_goto (p9 := 149) rfl rfl ?_
    exact l_tail4 T hx hf j (k9 + 1) _ (by omega) (BO_cp _ _ _ h (by omega)) (Nat.le_trans he (cp_ge _ _ _)) kk
def tl2 (od : Nat → Nat) (f ρ : Nat) (b : Nat × (Nat → Nat) × Nat) : Nat × (Nat → Nat) × Nat := if ρ = 1 ∧ b.2.2 = 0 then (b.1, rv od f b.1 b.2.1, b.2.2) else b
def tl1 (od : Nat → Nat) (f x l : Nat) (b : Nat × (Nat → Nat) × Nat) : Nat × (Nat → Nat) × Nat := if l = 1 then (b.1, un b.2.1 f (b.2.1 f / 16 * 16 + x % od (b.2.1 f / 16)), b.2.2) else rp f b.1 (x - 1) b
theorem l_tail5 {X : Nat × (Nat → Int32)} {d : Nat} {A : CA} {R : RA} {o : Nat → Int64} {od : Nat → Nat} (T : TV R.P R.Mv R.t od) {p f i x ρ k z : Nat} (hρ : ρ < 2) {Q : px_Z → Prop} {b : Nat × (Nat → Nat) × Nat} (h : BO od b) (hf : f ≤ b.1) (kk : Q (some (some (.int (nI (i + ρ)))), WW A (RA.s_tm (RA.s_mn (RA.s_cm R ((tl2 od f ρ b).2.1)) ((tl2 od f ρ b).1)) ((tl2 od f ρ b).2.2)) o, k, z)) (v6 v7 v8 : Value) : wp X (d + 5) 110 (170, [.ref 26, .int (nI p), .int (nI f), .int (nI i), .int (nI x), .int (nI ρ), v6, v7, v8], [], WW A (RA.s_tm (RA.s_mn (RA.s_cm R b.2.1) b.1) b.2.2) o, k, z) Q := by
  have h2 := h.2.1
  rcases (by omega : ρ = 0 ∨ ρ = 1) with rfl | rfl
  · rw [show tl2 od f 0 b = b from if_neg (fun q => absurd q.1 (by decide))] at kk
    refine wz_iload (p9 := 172) rfl rfl rfl ?_
    refine wn_ifeq (t9 := 187) (p9 := 175) rfl rfl rfl (by omega) (fun _ => ?_) (fun h9 => by omega)
    refine wz_iload (p9 := 189) rfl rfl rfl ?_
    refine wn_ifeq (t9 := 198) (p9 := 192) rfl rfl rfl (by omega) (fun _ => ?_) (fun h9 => by omega)
    refine wz_iload_n (p9 := 199) rfl rfl rfl ?_
    exact wz_reti rfl rfl kk
  · by_cases ht : b.2.2 = 0
    · rw [show tl2 od f 1 b = (b.1, rv od f b.1 b.2.1, b.2.2) from if_pos ⟨rfl, ht⟩] at kk
      refine wz_iload (p9 := 172) rfl rfl rfl ?_
      refine wn_ifeq (t9 := 187) (p9 := 175) rfl rfl rfl (by omega) (fun h9 => by omega) (fun _ => ?_)
      refine wz_aload_n (p9 := 176) rfl rfl rfl ?_
      refine wz_get (v := .int (nI b.2.2)) (p9 := 179) rfl rfl rfl rfl rfl ?_
      refine wn_ifne (t9 := 187) (p9 := 182) rfl rfl rfl (by omega) (fun h9 => by omega) (fun _ => ?_)
      refine wz_aload_n (p9 := 183) rfl rfl rfl ?_
      refine wz_iload_n (p9 := 184) rfl rfl rfl ?_
      refine wz_c0 (p9 := 187) (w1 := WW A (RA.s_tm (RA.s_mn (RA.s_cm R (rv od f b.1 b.2.1)) b.1) b.2.2) o) (wa_v (N := 113) (i := 26) (As := [.int (nI f)]) (rest := []) rfl rfl rfl rfl rfl rfl rfl) rfl ((g_turnRound (d := 0) (A := A) (R := (RA.s_tm (RA.s_mn (RA.s_cm R b.2.1) b.1) b.2.2)) T h.1 hf (fun q _ hq => h.2.2.2 (by omega) q hq)).up (by omega)) ?_
      refine wz_iload (p9 := 189) rfl rfl rfl ?_
      refine wn_ifeq (t9 := 198) (p9 := 192) rfl rfl rfl (by omega) (fun h9 => by omega) (fun _ => ?_)
      refine wz_iload_n (p9 := 193) rfl rfl rfl ?_
      refine wz_iconst (x := nI 1) (p9 := 194) rfl rfl (by decide) ?_
      refine wn_add (p9 := 195) rfl rfl ?_
      refine wz_goto (p9 := 199) rfl rfl ?_
      exact wz_reti rfl rfl kk
    · rw [show tl2 od f 1 b = b from if_neg (fun q => ht q.2)] at kk
      refine wz_iload (p9 := 172) rfl rfl rfl ?_
      refine wn_ifeq (t9 := 187) (p9 := 175) rfl rfl rfl (by omega) (fun h9 => by omega) (fun _ => ?_)
      refine wz_aload_n (p9 := 176) rfl rfl rfl ?_
      refine wz_get (v := .int (nI b.2.2)) (p9 := 179) rfl rfl rfl rfl rfl ?_
      refine wn_ifne (t9 := 187) (p9 := 182) rfl rfl rfl (by omega) (fun _ => ?_) (fun h9 => by omega)
      refine wz_iload (p9 := 189) rfl rfl rfl ?_
      refine wn_ifeq (t9 := 198) (p9 := 192) rfl rfl rfl (by omega) (fun h9 => by omega) (fun _ => ?_)
      refine wz_iload_n (p9 := 193) rfl rfl rfl ?_
      refine wz_iconst (x := nI 1) (p9 := 194) rfl rfl (by decide) ?_
      refine wn_add (p9 := 195) rfl rfl ?_
      refine wz_goto (p9 := 199) rfl rfl ?_
      exact wz_reti rfl rfl kk
theorem g_tail {X : Nat × (Nat → Int32)} {d : Nat} {A : CA} {R : RA} {o : Nat → Int64} {od : Nat → Nat} (T : TV R.P R.Mv R.t od) (hs : R.sz ≤ 100) (hx : ∀ q, R.tx q < 256) {p f i x ρ l : Nat} (hp : p ≤ 100) (hd : (p < R.sz ∧ 50 ≤ R.tx p ∧ R.tx p ≤ 57 ∧ i = p + 1 ∧ x = R.tx p - 48) ∨ (¬ (p < R.sz ∧ 50 ≤ R.tx p ∧ R.tx p ≤ 57) ∧ i = p ∧ x = 1)) (hq : (i < R.sz ∧ R.tx i = 39 ∧ ρ = 1) ∨ (¬ (i < R.sz ∧ R.tx i = 39) ∧ ρ = 0)) (hl : ((R.mn = f + 1 ∧ 0 < p ∧ 97 ≤ R.tx (p - 1) ∧ R.tx (p - 1) ≤ 102) ∧ l = 1 ∧ R.tm = 0) ∨ (¬ (R.mn = f + 1 ∧ 0 < p ∧ 97 ≤ R.tx (p - 1) ∧ R.tx (p - 1) ≤ 102) ∧ l = 0)) (h : BO od (R.mn, R.cm, R.tm)) (hf : f ≤ R.mn) : px_ev X (d + 6) 110 [.ref 26, .int (nI p), .int (nI f)] (WW A R o) (some (some (.int (nI (i + ρ)))), WW A (sbr R (tl2 od f ρ (tl1 od f x l (R.mn, R.cm, R.tm)))) o, 0, 0) := by
  refine wp_ev (d := d + 5) (by decide) rfl rfl (fun h => by cases h) ?_
  show wp X (d + 5) 110 (0, [.ref 26, .int (nI p), .int (nI f), .retAddr 0, .retAddr 0, .retAddr 0, .retAddr 0, .retAddr 0, .retAddr 0], [], WW A R o, 0, 0) _
  have h4 : R.mn ≤ 400 := h.1
  refine l_tail1 (R := R) hs hx (by omega) hd ?_
  refine l_tail2 hs hx (by omega) hq ?_
  refine l_tail3 hs hx (by omega) (by omega) h4 (l := l) (by omega) ?_
  have hρ : ρ < 2 := by omega
  rcases hl with ⟨⟨g1, g2, g3, g4⟩, rfl, g5⟩ | ⟨g1, rfl⟩
  · have hR := h.2.2.2 g5 f (by show f < R.mn; omega)
    have hR1 : R.cm f < 96 := hR.1
    have o1 := T.o1 (m := R.cm f / 16) (by omega)
    have o12 := T.o12 (m := R.cm f / 16) (by omega)
    refine wz_iload (p9 := 108) rfl rfl rfl ?_
    refine wn_ifeq (t9 := 146) (p9 := 111) rfl rfl rfl (by omega) (fun h9 => by omega) (fun _ => ?_)
    refine wz_aload_n (p9 := 112) rfl rfl rfl ?_
    refine wz_get (v := .ref 32) (p9 := 115) rfl rfl rfl rfl rfl ?_
    refine wz_iload_n (p9 := 116) rfl rfl rfl ?_
    refine wl_Rcm (f := R.cm) (p9 := 117) rfl rfl rfl (by omega) ?_
    refine wz_bipush (x := nI 16) (p9 := 119) rfl rfl (by decide) ?_
    refine wn_div (p9 := 120) rfl rfl (by omega) (by omega) (by omega) ?_
    refine wz_istore (l9 := [.ref 26, .int (nI p), .int (nI f), .int (nI i), .int (nI x), .int (nI ρ), .int (nI R.mn), .int (nI 1), .int (nI ((R.cm f) / 16))]) (p9 := 122) rfl rfl rfl rfl ?_
    refine wz_aload_n (p9 := 123) rfl rfl rfl ?_
    refine wz_get (v := .ref 32) (p9 := 126) rfl rfl rfl rfl rfl ?_
    refine wz_iload_n (p9 := 127) rfl rfl rfl ?_
    refine wz_bipush (x := nI 16) (p9 := 129) rfl rfl (by decide) ?_
    refine wz_iload (p9 := 131) rfl rfl rfl ?_
    refine wn_mul (p9 := 132) rfl rfl ?_
    refine wz_iload (p9 := 134) rfl rfl rfl ?_
    refine wz_aload_n (p9 := 135) rfl rfl rfl ?_
    refine wz_iload (p9 := 137) rfl rfl rfl ?_
    refine wz_c1 (p9 := 140) (w1 := WW A R o) (u := .int (nI (od ((R.cm f) / 16)))) (wa_v (N := 103) (i := 26) (As := [.int (nI ((R.cm f) / 16))]) (rest := [.int (nI x), .int (nI (16 * ((R.cm f) / 16))), .int (nI f), .ref 32]) rfl rfl rfl rfl rfl rfl rfl) rfl ((g_mOrder (d := 0) T (by omega)).up (by omega)) ?_
    refine wn_rem (p9 := 141) rfl rfl (by omega) (by omega) (by omega) ?_
    refine wn_add (p9 := 142) rfl rfl ?_
    refine ws_Rcm (f := R.cm) (p9 := 143) rfl rfl rfl (by omega) (R1 := (RA.s_cm R (un R.cm f ((16 * ((R.cm f) / 16)) + (x % (od ((R.cm f) / 16))))))) rfl ?_
    refine wz_goto (p9 := 170) rfl rfl ?_
    rw [Nat.mul_comm 16 (R.cm f / 16)]
    refine l_tail5 (R := R) (b := (R.mn, un R.cm f (R.cm f / 16 * 16 + x % od (R.cm f / 16)), R.tm)) T hρ ⟨h4, h.2.1, h.2.2.1, fun e q hq9 => ?_⟩ hf ?_ _ _ _
    · show ro od (un R.cm f _ q)
      by_cases e2 : q = f
      · rw [e2, un_at]; exact ro_mk T.oo (by omega)
      · rw [un_ne e2]; exact h.2.2.2 e q hq9
    · rfl
  · skip
    refine wz_iload (p9 := 108) rfl rfl rfl ?_
    refine wn_ifeq (t9 := 146) (p9 := 111) rfl rfl rfl (by omega) (fun _ => ?_) (fun h9 => by omega)
    refine wz_iconst (x := nI 1) (p9 := 147) rfl rfl (by decide) ?_
    refine wz_istore (l9 := [.ref 26, .int (nI p), .int (nI f), .int (nI i), .int (nI x), .int (nI ρ), .int (nI R.mn), .int (nI 0), .int (nI 1)]) (p9 := 149) rfl rfl rfl rfl ?_
    refine l_tail4 (R := R) T (by omega) hf (x - 1) 1 (R.mn, R.cm, R.tm) (by omega) h (Nat.le_refl _) (fun v => ?_)
    refine l_tail5 (R := R) (b := rp f R.mn (x - 1) (R.mn, R.cm, R.tm)) T hρ (BO_rp hf _ _ h (Nat.le_refl _)) (Nat.le_trans hf (rp_ge (x - 1) (R.mn, R.cm, R.tm))) ?_ _ _ _
    rfl
theorem un_self {f : Nat → Nat} {k : Nat} : un f k (f k) = f := by
  funext q
  by_cases e : q = k
  · rw [e, un_at]
  · rw [un_ne e]
theorem l_mShorten {X : Nat × (Nat → Int32)} {d : Nat} {A : CA} {R : RA} {o : Nat → Int64} {od : Nat → Nat} (T : TV R.P R.Mv R.t od) (h4 : R.mn ≤ 400) {kk0 z : Nat} {Q : px_Z → Prop} : ∀ (j i k : Nat) (f : Nat → Nat) (v3 v4 : Value), i + j = R.mn → k ≤ i → (∀ q, q < R.mn → ro od (f q)) → (∀ q, q < k → 0 < f q % 16) → (∀ i8 v3 v4, wp X (d + 3) 114 (115, [.ref 26, .int (nI (sh od j i k f).1), i8, v3, v4], [], WW A (RA.s_cm R (sh od j i k f).2) o, kk0, z) Q) → wp X (d + 3) 114 (4, [.ref 26, .int (nI k), .int (nI i), v3, v4], [], WW A (RA.s_cm R f) o, kk0, z) Q
  | 0, i, k, f, v3, v4, hj, hk, hr, hpos, kk => by
    refine wz_iload_n (p9 := 5) rfl rfl rfl ?_
    refine wz_aload_n (p9 := 6) rfl rfl rfl ?_
    refine wz_get (v := .int (nI R.mn)) (p9 := 9) rfl rfl rfl rfl rfl ?_
    refine wn_icge (t9 := 115) (p9 := 12) rfl rfl rfl (by omega) (by omega) (fun _ => ?_) (fun h9 => by omega)
    exact kk _ _ _
  | j + 1, i, k, f, v3, v4, hj, hk, hr, hpos, kk => by
    refine wz_iload_n (p9 := 5) rfl rfl rfl ?_
    refine wz_aload_n (p9 := 6) rfl rfl rfl ?_
    refine wz_get (v := .int (nI R.mn)) (p9 := 9) rfl rfl rfl rfl rfl ?_
    refine wn_icge (t9 := 115) (p9 := 12) rfl rfl rfl (by omega) (by omega) (fun h9 => by omega) (fun _ => ?_)
    have b0 := (hr i (by omega)).1
    have b1 := T.o1 (m := f i / 16) (by omega)
    have b2 := T.o12 (m := f i / 16) (by omega)
    have b3 : (f i % 16 + f (k - 1) % 16) % od (f i / 16) < od (f i / 16) := Nat.mod_lt _ (by omega)
    have b4 : 0 < k → f (k - 1) < 96 := fun h => (hr (k - 1) (by omega)).1
    refine wz_aload_n (p9 := 13) rfl rfl rfl ?_
    refine wz_get (v := .ref 32) (p9 := 16) rfl rfl rfl rfl rfl ?_
    refine wz_iload_n (p9 := 17) rfl rfl rfl ?_
    refine wl_Rcm (f := f) (p9 := 18) rfl rfl rfl (by omega) ?_
    refine wz_bipush (x := nI 16) (p9 := 20) rfl rfl (by decide) ?_
    refine wn_div (p9 := 21) rfl rfl (by omega) (by omega) (by omega) ?_
    refine wz_istore_n (l9 := [.ref 26, .int (nI k), .int (nI i), .int (nI ((f i) / 16)), v4]) (p9 := 22) rfl rfl rfl rfl ?_
    refine wz_aload_n (p9 := 23) rfl rfl rfl ?_
    refine wz_get (v := .ref 32) (p9 := 26) rfl rfl rfl rfl rfl ?_
    refine wz_iload_n (p9 := 27) rfl rfl rfl ?_
    refine wl_Rcm (f := f) (p9 := 28) rfl rfl rfl (by omega) ?_
    refine wz_bipush (x := nI 16) (p9 := 30) rfl rfl (by decide) ?_
    refine wn_rem (p9 := 31) rfl rfl (by omega) (by omega) (by omega) ?_
    refine wz_istore (l9 := [.ref 26, .int (nI k), .int (nI i), .int (nI ((f i) / 16)), .int (nI ((f i) % 16))]) (p9 := 33) rfl rfl rfl rfl ?_
    refine wz_iload (p9 := 35) rfl rfl rfl ?_
    refine wn_ifne (t9 := 41) (p9 := 38) rfl rfl rfl (by omega) (fun h35 => ?_) (fun h35 => ?_)
    · refine wz_iload_n (p9 := 42) rfl rfl rfl ?_
      refine wn_ifle (t9 := 93) (p9 := 45) rfl rfl rfl (by omega) (fun h42 => ?_) (fun h42 => ?_)
      · refine wz_aload_n (p9 := 94) rfl rfl rfl ?_
        refine wz_get (v := .ref 32) (p9 := 97) rfl rfl rfl rfl rfl ?_
        refine wz_iload_n (p9 := 98) rfl rfl rfl ?_
        refine wz_bipush (x := nI 16) (p9 := 100) rfl rfl (by decide) ?_
        refine wz_iload_n (p9 := 101) rfl rfl rfl ?_
        refine wn_mul (p9 := 102) rfl rfl ?_
        refine wz_iload (p9 := 104) rfl rfl rfl ?_
        refine wn_add (p9 := 105) rfl rfl ?_
        refine ws_Rcm (f := f) (p9 := 106) rfl rfl rfl (by omega) (R1 := (RA.s_cm R (un f k ((16 * ((f i) / 16)) + ((f i) % 16))))) rfl ?_
        refine wn_inc (b := 1) (l9 := [.ref 26, .int (nI (k + 1)), .int (nI i), .int (nI ((f i) / 16)), .int (nI ((f i) % 16))]) (p9 := 109) rfl rfl rfl (by decide) rfl ?_
        refine wn_inc (b := 1) (l9 := [.ref 26, .int (nI (k + 1)), .int (nI (i + 1)), .int (nI ((f i) / 16)), .int (nI ((f i) % 16))]) (p9 := 112) rfl rfl rfl (by decide) rfl ?_
        refine wz_goto (p9 := 4) rfl rfl ?_
        have e9 : sh od (j + 1) i k f = sh od j (i + 1) (k + 1) (un f k ((f i / 16 * 16) + ((f i) % 16))) := (if_neg (fun q => absurd q.1 (by omega))).trans (if_pos (by omega))
        rw [e9] at kk
        rw [Nat.mul_comm 16 (f i / 16)]
        refine l_mShorten T h4 j (i + 1) (k + 1) (un f k (f i / 16 * 16 + f i % 16)) _ _ (by omega) (by omega) (ro_un hr (by rw [show f i / 16 * 16 + f i % 16 = f i by omega]; exact hr i (by omega))) (fun q hq => ?_) kk
        by_cases e2 : q = k
        · rw [e2, un_at]; omega
        · rw [un_ne e2]; exact hpos q (by omega)
      · refine wz_aload_n (p9 := 46) rfl rfl rfl ?_
        refine wz_get (v := .ref 32) (p9 := 49) rfl rfl rfl rfl rfl ?_
        refine wz_iload_n (p9 := 50) rfl rfl rfl ?_
        refine wz_iconst (x := nI 1) (p9 := 51) rfl rfl (by decide) ?_
        refine wn_sub (p9 := 52) rfl rfl (by omega) ?_
        refine wl_Rcm (f := f) (p9 := 53) rfl rfl rfl (by omega) ?_
        refine wz_bipush (x := nI 16) (p9 := 55) rfl rfl (by decide) ?_
        refine wn_div (p9 := 56) rfl rfl (by omega) (by omega) (by omega) ?_
        refine wz_iload_n (p9 := 57) rfl rfl rfl ?_
        refine wn_icne (t9 := 93) (p9 := 60) rfl rfl rfl (by omega) (by omega) (fun h57 => ?_) (fun h57 => ?_)
        · refine wz_aload_n (p9 := 94) rfl rfl rfl ?_
          refine wz_get (v := .ref 32) (p9 := 97) rfl rfl rfl rfl rfl ?_
          refine wz_iload_n (p9 := 98) rfl rfl rfl ?_
          refine wz_bipush (x := nI 16) (p9 := 100) rfl rfl (by decide) ?_
          refine wz_iload_n (p9 := 101) rfl rfl rfl ?_
          refine wn_mul (p9 := 102) rfl rfl ?_
          refine wz_iload (p9 := 104) rfl rfl rfl ?_
          refine wn_add (p9 := 105) rfl rfl ?_
          refine ws_Rcm (f := f) (p9 := 106) rfl rfl rfl (by omega) (R1 := (RA.s_cm R (un f k ((16 * ((f i) / 16)) + ((f i) % 16))))) rfl ?_
          refine wn_inc (b := 1) (l9 := [.ref 26, .int (nI (k + 1)), .int (nI i), .int (nI ((f i) / 16)), .int (nI ((f i) % 16))]) (p9 := 109) rfl rfl rfl (by decide) rfl ?_
          refine wn_inc (b := 1) (l9 := [.ref 26, .int (nI (k + 1)), .int (nI (i + 1)), .int (nI ((f i) / 16)), .int (nI ((f i) % 16))]) (p9 := 112) rfl rfl rfl (by decide) rfl ?_
          refine wz_goto (p9 := 4) rfl rfl ?_
          have e9 : sh od (j + 1) i k f = sh od j (i + 1) (k + 1) (un f k ((f i / 16 * 16) + ((f i) % 16))) := (if_neg (fun q => h57 q.2)).trans (if_pos (by omega))
          rw [e9] at kk
          rw [Nat.mul_comm 16 (f i / 16)]
          refine l_mShorten T h4 j (i + 1) (k + 1) (un f k (f i / 16 * 16 + f i % 16)) _ _ (by omega) (by omega) (ro_un hr (by rw [show f i / 16 * 16 + f i % 16 = f i by omega]; exact hr i (by omega))) (fun q hq => ?_) kk
          by_cases e2 : q = k
          · rw [e2, un_at]; omega
          · rw [un_ne e2]; exact hpos q (by omega)
        · refine wz_iload (p9 := 62) rfl rfl rfl ?_
          refine wz_aload_n (p9 := 63) rfl rfl rfl ?_
          refine wz_get (v := .ref 32) (p9 := 66) rfl rfl rfl rfl rfl ?_
          refine wz_iload_n (p9 := 67) rfl rfl rfl ?_
          refine wz_iconst (x := nI 1) (p9 := 68) rfl rfl (by decide) ?_
          refine wn_sub (p9 := 69) rfl rfl (by omega) ?_
          refine wl_Rcm (f := f) (p9 := 70) rfl rfl rfl (by omega) ?_
          refine wz_bipush (x := nI 16) (p9 := 72) rfl rfl (by decide) ?_
          refine wn_rem (p9 := 73) rfl rfl (by omega) (by omega) (by omega) ?_
          refine wn_add (p9 := 74) rfl rfl ?_
          refine wz_aload_n (p9 := 75) rfl rfl rfl ?_
          refine wz_iload_n (p9 := 76) rfl rfl rfl ?_
          refine wz_c1 (p9 := 79) (w1 := WW A (RA.s_cm R f) o) (u := .int (nI (od ((f i) / 16)))) (wa_v (N := 103) (i := 26) (As := [.int (nI ((f i) / 16))]) (rest := [.int (nI (((f i) % 16) + ((f (k - 1)) % 16)))]) rfl rfl rfl rfl rfl rfl rfl) rfl ((g_mOrder (d := 0) (A := A) (R := (RA.s_cm R f)) T (by omega)).up (by omega)) ?_
          refine wn_rem (p9 := 80) rfl rfl (by omega) (by omega) (by omega) ?_
          refine wz_istore (l9 := [.ref 26, .int (nI k), .int (nI i), .int (nI ((f i) / 16)), .int (nI ((((f i) % 16) + ((f (k - 1)) % 16)) % (od ((f i) / 16))))]) (p9 := 82) rfl rfl rfl rfl ?_
          refine wn_dec (l9 := [.ref 26, .int (nI (k - 1)), .int (nI i), .int (nI ((f i) / 16)), .int (nI ((((f i) % 16) + ((f (k - 1)) % 16)) % (od ((f i) / 16))))]) (p9 := 85) rfl rfl rfl (by omega) rfl ?_
          refine wz_iload (p9 := 87) rfl rfl rfl ?_
          refine wn_ifne (t9 := 93) (p9 := 90) rfl rfl rfl (by omega) (fun h87 => ?_) (fun h87 => ?_)
          · refine wz_aload_n (p9 := 94) rfl rfl rfl ?_
            refine wz_get (v := .ref 32) (p9 := 97) rfl rfl rfl rfl rfl ?_
            refine wz_iload_n (p9 := 98) rfl rfl rfl ?_
            refine wz_bipush (x := nI 16) (p9 := 100) rfl rfl (by decide) ?_
            refine wz_iload_n (p9 := 101) rfl rfl rfl ?_
            refine wn_mul (p9 := 102) rfl rfl ?_
            refine wz_iload (p9 := 104) rfl rfl rfl ?_
            refine wn_add (p9 := 105) rfl rfl ?_
            refine ws_Rcm (f := f) (p9 := 106) rfl rfl rfl (by omega) (R1 := (RA.s_cm R (un f (k - 1) ((16 * ((f i) / 16)) + ((((f i) % 16) + ((f (k - 1)) % 16)) % (od ((f i) / 16))))))) rfl ?_
            refine wn_inc (b := 1) (l9 := [.ref 26, .int (nI ((k - 1) + 1)), .int (nI i), .int (nI ((f i) / 16)), .int (nI ((((f i) % 16) + ((f (k - 1)) % 16)) % (od ((f i) / 16))))]) (p9 := 109) rfl rfl rfl (by decide) rfl ?_
            refine wn_inc (b := 1) (l9 := [.ref 26, .int (nI ((k - 1) + 1)), .int (nI (i + 1)), .int (nI ((f i) / 16)), .int (nI ((((f i) % 16) + ((f (k - 1)) % 16)) % (od ((f i) / 16))))]) (p9 := 112) rfl rfl rfl (by decide) rfl ?_
            refine wz_goto (p9 := 4) rfl rfl ?_
            have e9 : sh od (j + 1) i k f = sh od j (i + 1) ((k - 1) + 1) (un f (k - 1) ((f i / 16 * 16) + ((((f i) % 16) + ((f (k - 1)) % 16)) % (od ((f i) / 16))))) := (if_pos ⟨h42, h57⟩).trans (if_pos (by omega))
            rw [e9] at kk
            rw [Nat.mul_comm 16 (f i / 16)]
            refine l_mShorten T h4 j (i + 1) ((k - 1) + 1) (un f (k - 1) (f i / 16 * 16 + (f i % 16 + f (k - 1) % 16) % od (f i / 16))) _ _ (by omega) (by omega) (ro_un hr (ro_mk T.oo (by omega))) (fun q hq => ?_) kk
            by_cases e2 : q = (k - 1)
            · rw [e2, un_at]; omega
            · rw [un_ne e2]; exact hpos q (by omega)
          · refine wz_goto (p9 := 109) rfl rfl ?_
            refine wn_inc (b := 1) (l9 := [.ref 26, .int (nI (k - 1)), .int (nI (i + 1)), .int (nI ((f i) / 16)), .int (nI ((((f i) % 16) + ((f (k - 1)) % 16)) % (od ((f i) / 16))))]) (p9 := 112) rfl rfl rfl (by decide) rfl ?_
            refine wz_goto (p9 := 4) rfl rfl ?_
            have e9 : sh od (j + 1) i k f = sh od j (i + 1) (k - 1) f := (if_pos ⟨h42, h57⟩).trans (if_neg (by omega))
            rw [e9] at kk
            exact l_mShorten T h4 j (i + 1) (k - 1) f _ _ (by omega) (by omega) hr (fun q hq => hpos q (by omega)) kk
    · refine wz_goto (p9 := 109) rfl rfl ?_
      refine wn_inc (b := 1) (l9 := [.ref 26, .int (nI k), .int (nI (i + 1)), .int (nI ((f i) / 16)), .int (nI ((f i) % 16))]) (p9 := 112) rfl rfl rfl (by decide) rfl ?_
      refine wz_goto (p9 := 4) rfl rfl ?_
      by_cases hsame : 0 < k ∧ f (k - 1) / 16 = f i / 16
      · have c1 := hr (k - 1) (by omega)
        have c2 := hpos (k - 1) (by omega)
        have c3 : (f i % 16 + f (k - 1) % 16) % od (f i / 16) = f (k - 1) % 16 := by rw [h35, Nat.zero_add, ← hsame.2]; exact Nat.mod_eq_of_lt c1.2
        have e9 : sh od (j + 1) i k f = sh od j (i + 1) k f := by
          refine (if_pos hsame).trans ((if_pos (by rw [c3]; exact c2)).trans ?_)
          rw [c3, ← hsame.2, show f (k - 1) / 16 * 16 + f (k - 1) % 16 = f (k - 1) by omega, un_self, show k - 1 + 1 = k by omega]
        rw [e9] at kk
        exact l_mShorten T h4 j (i + 1) k f _ _ (by omega) (by omega) hr hpos kk
      · have e9 : sh od (j + 1) i k f = sh od j (i + 1) k f := (if_neg hsame).trans (if_neg (by omega))
        rw [e9] at kk
        exact l_mShorten T h4 j (i + 1) k f _ _ (by omega) (by omega) hr hpos kk
theorem g_mShorten {X : Nat × (Nat → Int32)} {d : Nat} {A : CA} {R : RA} {o : Nat → Int64} {od : Nat → Nat} (T : TV R.P R.Mv R.t od) (h4 : R.mn ≤ 400) (h : ∀ q, q < R.mn → ro od (R.cm q)) : px_ev X (d + 4) 114 [.ref 26] (WW A R o) (some none, WW A (RA.s_mn (RA.s_cm R (sh od R.mn 0 0 R.cm).2) (sh od R.mn 0 0 R.cm).1) o, 0, 0) := by
  refine wp_ev (d := d + 3) (by decide) rfl rfl (fun h => by cases h) ?_
  show wp X (d + 3) 114 (0, [.ref 26, .retAddr 0, .retAddr 0, .retAddr 0, .retAddr 0], [], WW A R o, 0, 0) _
  refine wz_iconst (x := nI 0) (p9 := 1) rfl rfl (by decide) ?_
  refine wz_istore_n (l9 := [.ref 26, .int (nI 0), .retAddr 0, .retAddr 0, .retAddr 0]) (p9 := 2) rfl rfl rfl rfl ?_
  refine wz_iconst (x := nI 0) (p9 := 3) rfl rfl (by decide) ?_
  refine wz_istore_n (l9 := [.ref 26, .int (nI 0), .int (nI 0), .retAddr 0, .retAddr 0]) (p9 := 4) rfl rfl rfl rfl ?_
  refine l_mShorten (R := R) T h4 R.mn 0 0 R.cm _ _ (Nat.zero_add _) (Nat.le_refl _) h (fun q hq => absurd hq (Nat.not_lt_zero _)) (fun i8 v3 v4 => ?_)
  refine wz_aload_n (p9 := 116) rfl rfl rfl ?_
  refine wz_iload_n (p9 := 117) rfl rfl rfl ?_
  refine wp_Rmn (x := ((sh od R.mn 0 0 R.cm).1)) (p9 := 120) rfl rfl rfl rfl (R1 := (RA.s_mn (RA.s_cm R ((sh od R.mn 0 0 R.cm).2)) ((sh od R.mn 0 0 R.cm).1))) rfl ?_
  exact wz_retv rfl rfl rfl
theorem cpn_0 {f g : Nat → Nat} {dp : Nat} : cpn f g dp 0 = g := by funext q; unfold cpn; rw [if_neg (by omega)]
theorem cpn_s {f g : Nat → Nat} {dp i : Nat} : un (cpn f g dp i) (dp + i) (f i) = cpn f g dp (i + 1) := by
  funext q
  by_cases e : q = dp + i
  · rw [e, un_at]; unfold cpn; rw [if_pos (by omega), show dp + i - dp = i by omega]
  · rw [un_ne e]
    unfold cpn
    by_cases h2 : dp ≤ q ∧ q < dp + i
    · rw [if_pos h2, if_pos (by omega)]
    · rw [if_neg h2, if_neg (by omega)]
theorem l_enter {X : Nat × (Nat → Int32)} {d : Nat} {A : CA} {R : RA} {o : Nat → Int64} (hw : R.wc < 30) (h4 : R.mn ≤ 40) {k z : Nat} {Q : px_Z → Prop} (kk : wp X d 115 (36, [.ref 26, .int (nI R.mn)], [], WW A (RA.s_rr R (cpn R.cm R.rr (40 * R.wc) R.mn)) o, k, z) Q) : ∀ (j i : Nat), i + j = R.mn → wp X d 115 (2, [.ref 26, .int (nI i)], [], WW A (RA.s_rr R (cpn R.cm R.rr (40 * R.wc) i)) o, k, z) Q
  | 0, i, hj => by
    obtain rfl : i = R.mn := by omega
    refine wz_iload_n (p9 := 3) rfl rfl rfl ?_
    refine wz_aload_n (p9 := 4) rfl rfl rfl ?_
    refine wz_get (v := .int (nI R.mn)) (p9 := 7) rfl rfl rfl rfl rfl ?_
    refine wn_icge (t9 := 36) (p9 := 10) rfl rfl rfl (by omega) (by omega) (fun _ => ?_) (fun h9 => by omega)
    exact kk
  | j + 1, i, hj => by
    refine wz_iload_n (p9 := 3) rfl rfl rfl ?_
    refine wz_aload_n (p9 := 4) rfl rfl rfl ?_
    refine wz_get (v := .int (nI R.mn)) (p9 := 7) rfl rfl rfl rfl rfl ?_
    refine wn_icge (t9 := 36) (p9 := 10) rfl rfl rfl (by omega) (by omega) (fun h9 => by omega) (fun _ => ?_)
    refine wz_aload_n (p9 := 11) rfl rfl rfl ?_
    refine wz_get (v := .ref 31) (p9 := 14) rfl rfl rfl rfl rfl ?_
    refine wz_bipush (x := nI 40) (p9 := 16) rfl rfl (by decide) ?_
    refine wz_aload_n (p9 := 17) rfl rfl rfl ?_
    refine wz_get (v := .int (nI R.wc)) (p9 := 20) rfl rfl rfl rfl rfl ?_
    refine wn_mul (p9 := 21) rfl rfl ?_
    refine wz_iload_n (p9 := 22) rfl rfl rfl ?_
    refine wn_add (p9 := 23) rfl rfl ?_
    refine wz_aload_n (p9 := 24) rfl rfl rfl ?_
    refine wz_get (v := .ref 32) (p9 := 27) rfl rfl rfl rfl rfl ?_
    refine wz_iload_n (p9 := 28) rfl rfl rfl ?_
    refine wl_Rcm (f := R.cm) (p9 := 29) rfl rfl rfl (by omega) ?_
    refine ws_Rrr (f := cpn R.cm R.rr (40 * R.wc) i) (p9 := 30) rfl rfl rfl (by omega) (R1 := (RA.s_rr R (un (cpn R.cm R.rr (40 * R.wc) i) ((40 * R.wc) + i) (R.cm i)))) rfl ?_
    refine wn_inc (b := 1) (l9 := [.ref 26, .int (nI (i + 1))]) (p9 := 33) rfl rfl rfl (by decide) rfl ?_
    refine wz_goto (p9 := 2) rfl rfl ?_
    rw [cpn_s]
    exact l_enter hw h4 kk j (i + 1) (by omega)
theorem g_enter {X : Nat × (Nat → Int32)} {d : Nat} {A : CA} {R : RA} {o : Nat → Int64} (hw : R.wc < 30) (h4 : R.mn ≤ 40) : px_ev X (d + 1) 115 [.ref 26] (WW A R o) (some (some (.int (nI R.wc))), WW A (RA.s_rr (RA.s_ln (RA.s_wc R (R.wc + 1)) (un R.ln R.wc R.mn)) (cpn R.cm R.rr (R.wc * 40) R.mn)) o, 0, 0) := by
  refine wp_ev (d := d + 0) (by decide) rfl rfl (fun h => by cases h) ?_
  show wp X (d + 0) 115 (0, [.ref 26, .retAddr 0], [], WW A R o, 0, 0) _
  refine wz_iconst (x := nI 0) (p9 := 1) rfl rfl (by decide) ?_
  refine wz_istore_n (l9 := [.ref 26, .int (nI 0)]) (p9 := 2) rfl rfl rfl rfl ?_
  rw [Nat.mul_comm R.wc 40]
  have h9 := l_enter (X := X) (d := d) (A := A) (R := R) (o := o) (k := 0) (z := 0) (Q := fun q => q = (some (some (.int (nI R.wc))), WW A (RA.s_rr (RA.s_ln (RA.s_wc R (R.wc + 1)) (un R.ln R.wc R.mn)) (cpn R.cm R.rr (40 * R.wc) R.mn)) o, 0, 0)) hw h4 ?_ R.mn 0 (Nat.zero_add _)
  · rw [cpn_0] at h9; exact h9
  refine wz_aload_n (p9 := 37) rfl rfl rfl ?_
  refine wz_get (v := .ref 30) (p9 := 40) rfl rfl rfl rfl rfl ?_
  refine wz_aload_n (p9 := 41) rfl rfl rfl ?_
  refine wz_get (v := .int (nI R.wc)) (p9 := 44) rfl rfl rfl rfl rfl ?_
  refine wz_aload_n (p9 := 45) rfl rfl rfl ?_
  refine wz_get (v := .int (nI R.mn)) (p9 := 48) rfl rfl rfl rfl rfl ?_
  refine ws_Rln (f := R.ln) (p9 := 49) rfl rfl rfl (by omega) (R1 := (RA.s_rr (RA.s_ln R (un R.ln R.wc R.mn)) (cpn R.cm R.rr (40 * R.wc) R.mn))) rfl ?_
  refine wz_aload_n (p9 := 50) rfl rfl rfl ?_
  refine wz_dupr (p9 := 51) rfl rfl ?_
  refine wz_get (v := .int (nI R.wc)) (p9 := 54) rfl rfl rfl rfl rfl ?_
  refine wz_iconst (x := nI 1) (p9 := 55) rfl rfl (by decide) ?_
  refine wn_add (p9 := 56) rfl rfl ?_
  refine wp_Rwc (x := (R.wc + 1)) (p9 := 59) rfl rfl rfl rfl (R1 := (RA.s_rr (RA.s_ln (RA.s_wc R (R.wc + 1)) (un R.ln R.wc R.mn)) (cpn R.cm R.rr (40 * R.wc) R.mn))) rfl ?_
  refine wz_aload_n (p9 := 60) rfl rfl rfl ?_
  refine wz_get (v := .int (nI (R.wc + 1))) (p9 := 63) rfl rfl rfl rfl rfl ?_
  refine wz_iconst (x := nI 1) (p9 := 64) rfl rfl (by decide) ?_
  refine wn_sub (p9 := 65) rfl rfl (by omega) ?_
  exact wz_reti rfl rfl (by rw [show R.wc + 1 - 1 = R.wc by omega])
