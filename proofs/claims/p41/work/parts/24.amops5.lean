section AMOPS5
theorem xi_sub (a b : Nat) : Int32.ofNat a - Int32.ofNat b = Int32.ofNat (a + (4294967296 - b % 4294967296)) := by
  apply Int32.toBitVec_inj.mp
  rw [Int32.toBitVec_sub, xi_bv, xi_bv, xi_bv]
  apply BitVec.eq_of_toNat_eq
  rw [BitVec.toNat_sub, BitVec.toNat_ofNat, BitVec.toNat_ofNat, BitVec.toNat_ofNat]
  simp only [Nat.reducePow]
  omega
theorem xi_mul (a b : Nat) : Int32.ofNat a * Int32.ofNat b = Int32.ofNat (a * b) := (Int32.ofNat_mul a b).symm
theorem xi_and (a b : Nat) : Int32.ofNat a &&& Int32.ofNat b = Int32.ofNat (a &&& b) := by
  apply Int32.toBitVec_inj.mp
  rw [Int32.toBitVec_and, xi_bv, xi_bv, xi_bv]
  apply BitVec.eq_of_toNat_eq
  rw [BitVec.toNat_and, BitVec.toNat_ofNat, BitVec.toNat_ofNat, BitVec.toNat_ofNat, Nat.and_mod_two_pow]
theorem xi_or (a b : Nat) : Int32.ofNat a ||| Int32.ofNat b = Int32.ofNat (a ||| b) := by
  apply Int32.toBitVec_inj.mp
  rw [Int32.toBitVec_or, xi_bv, xi_bv, xi_bv]
  apply BitVec.eq_of_toNat_eq
  rw [BitVec.toNat_or, BitVec.toNat_ofNat, BitVec.toNat_ofNat, BitVec.toNat_ofNat, Nat.or_mod_two_pow]
theorem xi_xor (a b : Nat) : Int32.ofNat a ^^^ Int32.ofNat b = Int32.ofNat (a ^^^ b) := by
  apply Int32.toBitVec_inj.mp
  rw [Int32.toBitVec_xor, xi_bv, xi_bv, xi_bv]
  apply BitVec.eq_of_toNat_eq
  rw [BitVec.toNat_xor, BitVec.toNat_ofNat, BitVec.toNat_ofNat, BitVec.toNat_ofNat, Nat.xor_mod_two_pow]
theorem xi_smod (y : Nat) : ((Int32.ofNat y &&& 31).toBitVec.smod 32).toNat = y % 32 := by
  have h1 : (Int32.ofNat y &&& 31).toBitVec = BitVec.ofNat 32 (y % 32) := by
    rw [show (31 : Int32) = Int32.ofNat 31 from rfl, xi_and, xi_bv]
    exact congrArg _ (Nat.and_two_pow_sub_one_eq_mod y 5)
  have h2 : ∀ k : Fin 32, ((BitVec.ofNat 32 k.val).smod 32).toNat = k.val := by decide +kernel
  rw [h1]
  exact h2 ⟨y % 32, Nat.mod_lt _ (by decide)⟩
theorem xi_shl (x y : Nat) : Int32.ofNat x <<< (Int32.ofNat y &&& 31) = Int32.ofNat (x <<< (y % 32)) := by
  apply Int32.toBitVec_inj.mp
  rw [Int32.toBitVec_shiftLeft, xi_bv, xi_bv, BitVec.shiftLeft_eq', xi_smod]
  apply BitVec.eq_of_toNat_eq
  rw [BitVec.toNat_shiftLeft, BitVec.toNat_ofNat, BitVec.toNat_ofNat, Nat.shiftLeft_eq, Nat.shiftLeft_eq, Nat.mod_mul_mod]
theorem xi_shr {x : Nat} (hx : x < 2 ^ 31) (y : Nat) : Int32.ofNat x >>> (Int32.ofNat y &&& 31) = Int32.ofNat (x >>> (y % 32)) := by
  rw [Nat.shiftRight_eq_div_pow]
  exact pk_shrN hx _ _ (xi_smod y)
theorem xl_add (a b : Nat) : Int64.ofNat a + Int64.ofNat b = Int64.ofNat (a + b) := (Int64.ofNat_add a b).symm
theorem xl_sub (a b : Nat) : Int64.ofNat a - Int64.ofNat b = Int64.ofNat (a + (18446744073709551616 - b % 18446744073709551616)) := by
  apply Int64.toBitVec_inj.mp
  rw [Int64.toBitVec_sub, xl_bv, xl_bv, xl_bv]
  apply BitVec.eq_of_toNat_eq
  rw [BitVec.toNat_sub, BitVec.toNat_ofNat, BitVec.toNat_ofNat, BitVec.toNat_ofNat]
  simp only [Nat.reducePow]
  omega
theorem xl_mul (a b : Nat) : Int64.ofNat a * Int64.ofNat b = Int64.ofNat (a * b) := (Int64.ofNat_mul a b).symm
theorem xl_and (a b : Nat) : Int64.ofNat a &&& Int64.ofNat b = Int64.ofNat (a &&& b) := by
  apply Int64.toBitVec_inj.mp
  rw [Int64.toBitVec_and, xl_bv, xl_bv, xl_bv]
  apply BitVec.eq_of_toNat_eq
  rw [BitVec.toNat_and, BitVec.toNat_ofNat, BitVec.toNat_ofNat, BitVec.toNat_ofNat, Nat.and_mod_two_pow]
theorem xl_or (a b : Nat) : Int64.ofNat a ||| Int64.ofNat b = Int64.ofNat (a ||| b) := by
  apply Int64.toBitVec_inj.mp
  rw [Int64.toBitVec_or, xl_bv, xl_bv, xl_bv]
  apply BitVec.eq_of_toNat_eq
  rw [BitVec.toNat_or, BitVec.toNat_ofNat, BitVec.toNat_ofNat, BitVec.toNat_ofNat, Nat.or_mod_two_pow]
theorem xl_xor (a b : Nat) : Int64.ofNat a ^^^ Int64.ofNat b = Int64.ofNat (a ^^^ b) := by
  apply Int64.toBitVec_inj.mp
  rw [Int64.toBitVec_xor, xl_bv, xl_bv, xl_bv]
  apply BitVec.eq_of_toNat_eq
  rw [BitVec.toNat_xor, BitVec.toNat_ofNat, BitVec.toNat_ofNat, BitVec.toNat_ofNat, Nat.xor_mod_two_pow]
theorem xl_smod (y : Nat) : ((Int64.ofNat y &&& 63).toBitVec.smod 64).toNat = y % 64 := by
  have h1 : (Int64.ofNat y &&& 63).toBitVec = BitVec.ofNat 64 (y % 64) := by
    rw [show (63 : Int64) = Int64.ofNat 63 from rfl, xl_and, xl_bv]
    exact congrArg _ (Nat.and_two_pow_sub_one_eq_mod y 6)
  have h2 : ∀ k : Fin 64, ((BitVec.ofNat 64 k.val).smod 64).toNat = k.val := by decide +kernel
  rw [h1]
  exact h2 ⟨y % 64, Nat.mod_lt _ (by decide)⟩
theorem xl_shl (x : Nat) {y : Nat} (hy : y < 2 ^ 31) : Int64.ofNat x <<< ((Int32.ofNat y).toInt64 &&& 63) = Int64.ofNat (x <<< (y % 64)) := by
  rw [show (Int32.ofNat y).toInt64 = Int64.ofNat y from nI_l hy]
  apply Int64.toBitVec_inj.mp
  rw [Int64.toBitVec_shiftLeft, xl_bv, xl_bv, BitVec.shiftLeft_eq', xl_smod]
  apply BitVec.eq_of_toNat_eq
  rw [BitVec.toNat_shiftLeft, BitVec.toNat_ofNat, BitVec.toNat_ofNat, Nat.shiftLeft_eq, Nat.shiftLeft_eq, Nat.mod_mul_mod]
theorem xi_l {x : Nat} (hx : x < 2147483648) : (Int32.ofNat x).toInt64 = Int64.ofNat x := nI_l hx
theorem xi_ln {x : Nat} (h1 : 2147483648 ≤ x) (h2 : x < 4294967296) : (Int32.ofNat x).toInt64 = Int64.ofNat (x + 18446744069414584320) := by
  apply Int64.toInt_inj.mp
  rw [Int32.toInt_toInt64]
  have a := xi_rng x
  have b := xl_rng (x + 18446744069414584320)
  omega
theorem xn_sgn {x : Nat} (h : x_sgn x = false) : x < 2 ^ 31 := x_nble h
end AMOPS5
