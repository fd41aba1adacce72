/-! whole numbers of 32 bits: and, or, shifts -/
theorem i_nat (a : Nat) : (z_i (a : Int)).toBitVec = BitVec.ofNat 32 a := by
  show (Int32.ofInt (a : Int)).toBitVec = _
  rw [Int32.toBitVec_ofInt]
  exact BitVec.ofInt_natCast _ _
theorem i_toInt {x : Int32} {n : Nat} (h : x.toBitVec = BitVec.ofNat 32 n) (hn : n < 2147483648) : x.toInt = (n : Int) := by
  show x.toBitVec.toInt = _
  rw [h, BitVec.toInt_eq_toNat_cond, BitVec.toNat_ofNat, Nat.mod_eq_of_lt (by omega), if_pos (by omega)]
theorem i_tn (x : Int) : ((z_i x).toBitVec.toNat : Int) = x % 4294967296 := by
  show ((Int32.ofInt x).toBitVec.toNat : Int) = _
  rw [Int32.toBitVec_ofInt, BitVec.toNat_ofInt]
  omega
theorem i_sh : ∀ k : Fin 32, ((z_i (k.val : Int) &&& 31).toBitVec.smod 32).toNat = k.val ∧ (((z_i (k.val : Int)).toUInt32 &&& Int32.toUInt32 31).toBitVec % 32).toNat = k.val := by decide +kernel
theorem z_and_23 (x : Int) : z_and x 8388607 = x % 8388608 := by
  unfold z_and
  have h := pk_and (z_i x) (m := z_i 8388607) 23 (by decide)
  rw [h, nI_toInt (by omega)]
  have e := i_tn x
  omega
theorem z_and_8 (x : Int) : z_and x 255 = x % 256 := by
  unfold z_and
  have h := pk_and (z_i x) (m := z_i 255) 8 (by decide)
  rw [h, nI_toInt (by omega)]
  have e := i_tn x
  omega
theorem z_shr_ok {x : Int} (hx : z_in x) {k : Nat} (hk : k < 32) : z_shr x (k : Int) = x / ((2 ^ k : Nat) : Int) := by
  unfold z_shr
  rw [pk_shr (z_i x) (z_i (k : Int) &&& 31) k (i_sh ⟨k, hk⟩).1, z_i_to hx, Int.shiftRight_eq_div_pow]
theorem z_ushr_nat {a k : Nat} (ha : a < 2147483648) (hk : k < 32) : z_ushr (a : Int) (k : Int) = ((a / 2 ^ k : Nat) : Int) := by
  unfold z_ushr
  refine i_toInt ?_ (Nat.lt_of_le_of_lt (Nat.div_le_self _ _) ha)
  apply BitVec.eq_of_toNat_eq
  rw [pk_ushr (z_i (a : Int)) (z_i (k : Int)) k (i_sh ⟨k, hk⟩).2, i_nat, BitVec.toNat_ofNat, BitVec.toNat_ofNat, Nat.mod_eq_of_lt (a := a) (by omega), Nat.mod_eq_of_lt (Nat.lt_of_le_of_lt (Nat.div_le_self _ _) (by omega))]
theorem z_shl_nat {a k : Nat} (hk : k < 32) (ha : a * 2 ^ k < 2147483648) : z_shl (a : Int) (k : Int) = ((a * 2 ^ k : Nat) : Int) := by
  unfold z_shl
  refine i_toInt ?_ ha
  apply BitVec.eq_of_toNat_eq
  have h1 : a ≤ a * 2 ^ k := Nat.le_mul_of_pos_right _ (Nat.two_pow_pos k)
  rw [pk_shl (z_i (a : Int)) (z_i (k : Int) &&& 31) k (i_sh ⟨k, hk⟩).1, i_nat, BitVec.toNat_ofNat, BitVec.toNat_ofNat, Nat.mod_eq_of_lt (a := a) (by omega)]
theorem z_or_nat {a b : Nat} (ha : a < 2147483648) (hb : b < 2147483648) : z_or (a : Int) (b : Int) = ((a ||| b : Nat) : Int) := by
  unfold z_or
  refine i_toInt ?_ (Nat.or_lt_two_pow (n := 31) ha hb)
  rw [Int32.toBitVec_or, i_nat, i_nat, BitVec.ofNat_or]
theorem n_or_add {a b k : Nat} (h : b < 2 ^ k) : a * 2 ^ k ||| b = a * 2 ^ k + b := by
  have := Nat.shiftLeft_add_eq_or_of_lt h a
  rw [Nat.shiftLeft_eq] at this
  exact this.symm
theorem z_or_min {b : Nat} (hb : b < 2147483648) : z_or (-2147483648) (b : Int) = (b : Int) - 2147483648 := by
  have e : (z_i (-2147483648) ||| z_i (b : Int)).toBitVec.toNat = 2147483648 + b := by
    rw [Int32.toBitVec_or, i_nat, BitVec.toNat_or, BitVec.toNat_ofNat, Nat.mod_eq_of_lt (by omega)]
    have h2 : (z_i (-2147483648)).toBitVec.toNat = 1 * 2 ^ 31 := by decide
    rw [h2, n_or_add (k := 31) (by omega)]
  unfold z_or
  show (z_i (-2147483648) ||| z_i (b : Int)).toBitVec.toInt = _
  rw [BitVec.toInt_eq_toNat_cond, e, if_neg (by omega)]
  omega
theorem z_or_23 {a : Int} (h0 : 0 ≤ a) (h1 : a < 8388608) : z_or a 8388608 = a + 8388608 := by
  obtain ⟨n, rfl⟩ := Int.eq_ofNat_of_zero_le h0
  have h := z_or_nat (a := n) (b := 8388608) (by omega) (by decide)
  rw [show (8388608 : Int) = ((8388608 : Nat) : Int) by rfl, h, Nat.or_comm, show (8388608 : Nat) = 1 * 2 ^ 23 by rfl, n_or_add (by omega)]
  omega
theorem z_shll_exp : ∀ k : Fin 2048, z_shll (k.val : Int) 52 = (k.val : Int) * 4503599627370496 := by decide +kernel
