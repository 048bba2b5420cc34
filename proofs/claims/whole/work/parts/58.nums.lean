/-! NUMBERS -/
theorem q_bv (a : Nat) : (nI a).toBitVec = BitVec.ofNat 32 a := rfl
theorem q_mul (a b : Nat) : nI a * nI b = nI (a * b) := (Int32.ofNat_mul a b).symm
theorem q_sub {a b : Nat} (h : b ≤ a) : nI a - nI b = nI (a - b) := by
  have h1 : nI a = nI (a - b) + nI b := by rw [nI_add]; congr 1; omega
  rw [h1, Int32.add_sub_cancel]
theorem q_in {i m : Nat} (h : i < m) (hm : m ≤ 2147483648) : px_in (nI i) m = true := by
  unfold px_in
  have hi : i < 2 ^ 31 := by omega
  rw [decide_eq_false (nI_pos hi), nI_clamp hi, Bool.not_false, Bool.true_and]
  exact Nat.ble_eq_true_of_le h
theorem q_sl : ∀ k, k < 32 → ((nI k &&& 31).toBitVec.smod 32).toNat = k := by decide +kernel
theorem q_shr {a k : Nat} (ha : a < 2147483648) (hk : k < 32) : nI a >>> (nI k &&& 31) = nI (a / 2 ^ k) := pk_shrN (by omega) _ k (q_sl k hk)
theorem q_shl (a : Nat) {k : Nat} (hk : k < 32) : nI a <<< (nI k &&& 31) = nI (a * 2 ^ k) := by
  apply Int32.toBitVec_inj.mp
  rw [Int32.toBitVec_shiftLeft]
  show (BitVec.ofNat 32 a) <<< ((nI k &&& 31).toBitVec.smod 32).toNat = BitVec.ofNat 32 (a * 2 ^ k)
  rw [q_sl k hk]
  apply BitVec.eq_of_toNat_eq
  rw [BitVec.toNat_shiftLeft, BitVec.toNat_ofNat, BitVec.toNat_ofNat, Nat.shiftLeft_eq, Nat.mod_mul_mod]
theorem q_and (a b : Nat) : nI a &&& nI b = nI (a &&& b) := by
  apply Int32.toBitVec_inj.mp
  show BitVec.ofNat 32 a &&& BitVec.ofNat 32 b = BitVec.ofNat 32 (a &&& b)
  apply BitVec.eq_of_getLsbD_eq
  intro i hi
  simp [hi]
theorem q_or (a b : Nat) : nI a ||| nI b = nI (a ||| b) := by
  apply Int32.toBitVec_inj.mp
  show BitVec.ofNat 32 a ||| BitVec.ofNat 32 b = BitVec.ofNat 32 (a ||| b)
  apply BitVec.eq_of_getLsbD_eq
  intro i hi
  simp [hi]
theorem q_xor (a b : Nat) : nI a ^^^ nI b = nI (a ^^^ b) := by
  apply Int32.toBitVec_inj.mp
  show BitVec.ofNat 32 a ^^^ BitVec.ofNat 32 b = BitVec.ofNat 32 (a ^^^ b)
  apply BitVec.eq_of_getLsbD_eq
  intro i hi
  simp [hi]
theorem q_mod (a k : Nat) : nI a &&& nI (2 ^ k - 1) = nI (a % 2 ^ k) := by rw [q_and, Nat.and_two_pow_sub_one_eq_mod]
theorem q_7 (a : Nat) : nI a &&& 7 = nI (a % 8) := q_mod a 3
theorem q_15 (a : Nat) : nI a &&& 15 = nI (a % 16) := q_mod a 4
theorem q_1 (a : Nat) : nI a &&& 1 = nI (a % 2) := q_mod a 1
theorem q_31 (a : Nat) : nI a &&& 31 = nI (a % 32) := q_mod a 5
/-- the digit i, in base 8 -/
def dg (a i : Nat) : Nat := a / 8 ^ i % 8
theorem q_p8 (i : Nat) : 2 ^ (3 * i) = 8 ^ i := by rw [Nat.pow_mul]
theorem q_at {a i : Nat} (ha : a < 2147483648) (hi : i < 10) : nI a >>> ((3 * nI i) &&& 31) &&& 7 = nI (dg a i) := by
  rw [show (3 : Int32) * nI i = nI (3 * i) from q_mul 3 i, q_shr ha (by omega), q_7, q_p8]
  rfl
theorem q_to {v i : Nat} (hi : i < 10) : nI v <<< ((3 * nI i) &&& 31) = nI (v * 8 ^ i) := by
  rw [show (3 : Int32) * nI i = nI (3 * i) from q_mul 3 i, q_shl v (by omega), q_p8]
theorem q_or8 {a b k : Nat} (ha : a < 8 ^ k) : a ||| b * 8 ^ k = a + b * 8 ^ k := by
  rw [Nat.or_comm, ← q_p8, ← Nat.shiftLeft_eq, ← Nat.shiftLeft_add_eq_or_of_lt (by rw [q_p8]; exact ha), Nat.add_comm]
theorem dg_lt (a i : Nat) : dg a i < 8 := Nat.mod_lt _ (by decide)
theorem q_le7 {i : Nat} (h : i ≤ 7) : 8 ^ i ≤ 2097152 := by
  have := Nat.pow_le_pow_right (n := 8) (by decide) h
  exact this
theorem q_c {i : Nat} (h : i < 2147483648) : (nI i).toNatClampNeg = i := nI_clamp (by omega)
theorem q_upd {t : Nat → Nat} {i v : Nat} : upd (fun q => nI (t q)) i (nI v) = fun q => nI ((fun q => if q = i then v else t q) q) := by
  funext q
  by_cases h : q = i <;> simp [upd, h]
/-- an array of numbers, one place changed -/
def un (t : Nat → Nat) (i v : Nat) : Nat → Nat := fun q => if q = i then v else t q
theorem q_un {t : Nat → Nat} {i v : Nat} : upd (fun q => nI (t q)) i (nI v) = fun q => nI (un t i v q) := q_upd
theorem un_at {t : Nat → Nat} {i v : Nat} : un t i v i = v := by simp [un]
theorem un_ne {t : Nat → Nat} {i j v : Nat} (h : j ≠ i) : un t i v j = t j := by simp [un, h]
