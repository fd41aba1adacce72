/-! numbers: every int of the machine is z_i of a whole number, every long z_l of one -/
def z_i (a : Int) : Int32 := Int32.ofInt a
def z_l (a : Int) : Int64 := Int64.ofInt a
abbrev z_in (a : Int) : Prop := -2147483648 ≤ a ∧ a < 2147483648
abbrev z_nl (a : Int) : Prop := -9223372036854775808 ≤ a ∧ a < 9223372036854775808
theorem z_i_of (x : Int32) : z_i x.toInt = x := Int32.ofInt_toInt x
theorem z_l_of (x : Int64) : z_l x.toInt = x := Int64.ofInt_toInt x
theorem z_in_of (x : Int32) : z_in x.toInt := ⟨Int32.le_toInt x, Int32.toInt_lt x⟩
theorem z_nl_of (x : Int64) : z_nl x.toInt := ⟨Int64.le_toInt x, Int64.toInt_lt x⟩
theorem z_i_to {a : Int} (h : z_in a) : (z_i a).toInt = a := by
  unfold z_i
  exact Int32.toInt_ofInt_of_le (by omega) (by omega)
theorem z_l_to {a : Int} (h : z_nl a) : (z_l a).toInt = a := by
  unfold z_l
  exact Int64.toInt_ofInt_of_le (by omega) (by omega)
theorem z_i_inj {a b : Int} (ha : z_in a) (hb : z_in b) (h : z_i a = z_i b) : a = b := by rw [← z_i_to ha, ← z_i_to hb, h]
theorem z_l_inj {a b : Int} (ha : z_nl a) (hb : z_nl b) (h : z_l a = z_l b) : a = b := by rw [← z_l_to ha, ← z_l_to hb, h]
theorem z_i_add (a b : Int) : z_i a + z_i b = z_i (a + b) := (Int32.ofInt_add a b).symm
theorem z_i_mul (a b : Int) : z_i a * z_i b = z_i (a * b) := (Int32.ofInt_mul a b).symm
theorem z_i_neg (a : Int) : -z_i a = z_i (-a) := (Int32.ofInt_neg a).symm
theorem z_i_sub (a b : Int) : z_i a - z_i b = z_i (a - b) := (Int32.ofInt_sub a b).symm
theorem z_l_add (a b : Int) : z_l a + z_l b = z_l (a + b) := (Int64.ofInt_add a b).symm
theorem z_l_mul (a b : Int) : z_l a * z_l b = z_l (a * b) := (Int64.ofInt_mul a b).symm
theorem z_l_neg (a : Int) : -z_l a = z_l (-a) := (Int64.ofInt_neg a).symm
theorem z_l_sub (a b : Int) : z_l a - z_l b = z_l (a - b) := (Int64.ofInt_sub a b).symm
theorem z_i_lt {a b : Int} (ha : z_in a) (hb : z_in b) : z_i a < z_i b ↔ a < b := by rw [Int32.lt_iff_toInt_lt, z_i_to ha, z_i_to hb]
theorem z_i_le {a b : Int} (ha : z_in a) (hb : z_in b) : z_i a ≤ z_i b ↔ a ≤ b := by rw [Int32.le_iff_toInt_le, z_i_to ha, z_i_to hb]
theorem z_i_eq {a b : Int} (ha : z_in a) (hb : z_in b) : z_i a = z_i b ↔ a = b := ⟨z_i_inj ha hb, fun h => by rw [h]⟩
theorem z_l_lt {a b : Int} (ha : z_nl a) (hb : z_nl b) : z_l a < z_l b ↔ a < b := by rw [Int64.lt_iff_toInt_lt, z_l_to ha, z_l_to hb]
theorem z_l_le {a b : Int} (ha : z_nl a) (hb : z_nl b) : z_l a ≤ z_l b ↔ a ≤ b := by rw [Int64.le_iff_toInt_le, z_l_to ha, z_l_to hb]
theorem z_l_eq {a b : Int} (ha : z_nl a) (hb : z_nl b) : z_l a = z_l b ↔ a = b := ⟨z_l_inj ha hb, fun h => by rw [h]⟩
theorem z_i0 : z_i 0 = 0 := rfl
theorem z_l0 : z_l 0 = 0 := rfl
theorem z_in0 : z_in 0 := ⟨by decide, by decide⟩
theorem z_nl0 : z_nl 0 := ⟨by decide, by decide⟩
theorem z_i_l {a : Int} (h : z_in a) : (z_i a).toInt64 = z_l a := by
  apply Int64.toInt_inj.mp
  rw [Int32.toInt_toInt64, z_i_to h, z_l_to (by unfold z_in z_nl at *; omega)]
theorem z_l_i (a : Int) : (z_l a).toInt32 = z_i a := by
  unfold z_l z_i
  exact Int64.toInt32_ofInt
theorem z_i_div {a b : Int} (ha : z_in a) (hb : z_in b) : z_i a / z_i b = z_i (a.tdiv b) := by
  apply Int32.toInt_inj.mp
  rw [Int32.toInt_div, z_i_to ha, z_i_to hb]
  exact Int32.toInt_ofInt.symm
theorem z_l_div {a b : Int} (ha : z_nl a) (hb : z_nl b) : z_l a / z_l b = z_l (a.tdiv b) := by
  apply Int64.toInt_inj.mp
  rw [Int64.toInt_div, z_l_to ha, z_l_to hb]
  exact Int64.toInt_ofInt.symm
theorem z_i_rem {a b : Int} (ha : z_in a) (hb : z_in b) : z_i a - z_i a / z_i b * z_i b = z_i (a.tmod b) := by
  rw [z_i_div ha hb, z_i_mul, z_i_sub, Int.tmod_def, Int.mul_comm]
theorem z_l_rem {a b : Int} (ha : z_nl a) (hb : z_nl b) : z_l a - z_l a / z_l b * z_l b = z_l (a.tmod b) := by
  rw [z_l_div ha hb, z_l_mul, z_l_sub, Int.tmod_def, Int.mul_comm]
/-! bits: what the machine's bit instructions answer, as whole numbers -/
def z_and (a b : Int) : Int := (z_i a &&& z_i b).toInt
def z_or (a b : Int) : Int := (z_i a ||| z_i b).toInt
def z_xor (a b : Int) : Int := (z_i a ^^^ z_i b).toInt
def z_shl (a b : Int) : Int := (z_i a <<< (z_i b &&& 31)).toInt
def z_shr (a b : Int) : Int := (z_i a >>> (z_i b &&& 31)).toInt
def z_ushr (a b : Int) : Int := ((z_i a).toUInt32 >>> ((z_i b).toUInt32 &&& Int32.toUInt32 31)).toInt32.toInt
def z_byte (a : Int) : Int := ((z_i a).toInt8.toInt32).toInt
def z_andl (a b : Int) : Int := (z_l a &&& z_l b).toInt
def z_orl (a b : Int) : Int := (z_l a ||| z_l b).toInt
def z_xorl (a b : Int) : Int := (z_l a ^^^ z_l b).toInt
def z_shll (a b : Int) : Int := (z_l a <<< ((z_i b).toInt64 &&& 63)).toInt
def z_shrl (a b : Int) : Int := (z_l a >>> ((z_i b).toInt64 &&& 63)).toInt
def z_ushrl (a b : Int) : Int := ((z_l a).toUInt64 >>> ((z_i b).toInt64.toUInt64 &&& 63)).toInt64.toInt
/-! rows of numbers: what stands at a place, and a place written anew -/
def z_g (f : Nat → Int32) (i : Int) : Int := (f i.toNat).toInt
def z_gl (f : Nat → Int64) (i : Int) : Int := (f i.toNat).toInt
def z_s (f : Nat → Int32) (i v : Int) : Nat → Int32 := upd f i.toNat (z_i v)
def z_sl (f : Nat → Int64) (i v : Int) : Nat → Int64 := vp_updL f i.toNat (z_l v)
theorem z_in_g (f : Nat → Int32) (i : Int) : z_in (z_g f i) := z_in_of _
theorem z_nl_gl (f : Nat → Int64) (i : Int) : z_nl (z_gl f i) := z_nl_of _
theorem z_i_g (f : Nat → Int32) (i : Int) : z_i (z_g f i) = f i.toNat := z_i_of _
theorem z_l_gl (f : Nat → Int64) (i : Int) : z_l (z_gl f i) = f i.toNat := z_l_of _
theorem z_gs {f : Nat → Int32} {i j v : Int} (hv : z_in v) (hi : 0 ≤ i) (hj : 0 ≤ j) : z_g (z_s f i v) j = if j = i then v else z_g f j := by
  unfold z_g z_s upd
  by_cases h : j = i
  · subst h; simp [z_i_to hv]
  · have : ¬ j.toNat = i.toNat := by omega
    simp [h, this]
theorem z_gsl {f : Nat → Int64} {i j v : Int} (hv : z_nl v) (hi : 0 ≤ i) (hj : 0 ≤ j) : z_gl (z_sl f i v) j = if j = i then v else z_gl f j := by
  unfold z_gl z_sl vp_updL
  by_cases h : j = i
  · subst h; simp [z_l_to hv]
  · have : ¬ j.toNat = i.toNat := by omega
    simp [h, this]
theorem z_vin {i : Int} {n : Nat} (h0 : 0 ≤ i) (h1 : i < n) (hn : n < 2147483648) : vp_in (z_i i) n := by
  rw [vp_in_iff, z_i_to (by unfold z_in; omega)]
  exact ⟨h0, h1⟩
theorem z_clamp {i : Int} (h : z_in i) : (z_i i).toNatClampNeg = i.toNat := by
  show (z_i i).toInt.toNat = i.toNat
  rw [z_i_to h]
/-- one long beside another -/
def z_cmp (a b : Int) : Int := if a < b then -1 else if a = b then 0 else 1
theorem z_in_cmp (a b : Int) : z_in (z_cmp a b) := by
  unfold z_cmp z_in
  split
  · omega
  · split <;> omega
theorem z_in_nl {a : Int} (h : z_in a) : z_nl a := ⟨by omega, by omega⟩
theorem z_cmp_lt {a b : Int} : z_cmp a b < 0 ↔ a < b := by unfold z_cmp; split <;> (try split) <;> omega
theorem z_cmp_ge {a b : Int} : 0 ≤ z_cmp a b ↔ a ≥ b := by unfold z_cmp; split <;> (try split) <;> omega
theorem z_cmp_gt {a b : Int} : 0 < z_cmp a b ↔ a > b := by unfold z_cmp; split <;> (try split) <;> omega
theorem z_cmp_le {a b : Int} : z_cmp a b ≤ 0 ↔ a ≤ b := by unfold z_cmp; split <;> (try split) <;> omega
theorem z_cmp_eq {a b : Int} : z_cmp a b = 0 ↔ a = b := by unfold z_cmp; split <;> (try split) <;> omega
theorem z_cmp_ne {a b : Int} : z_cmp a b ≠ 0 ↔ a ≠ b := by unfold z_cmp; split <;> (try split) <;> omega
theorem z_narZ {v : Int} (h : v = 0 ∨ v = 1) : narrow .boolean (.int (z_i v)) = .int (z_i v) := by rcases h with rfl | rfl <;> decide
theorem z_fitZ {v : Int} (h : v = 0 ∨ v = 1) : fits .boolean (.int (z_i v)) = true := by rcases h with rfl | rfl <;> decide
def z_abs (a : Int) : Int := if 0 ≤ a then a else -a
/-- a truth value as the machine has it -/
def z_b (b : Bool) : Int := if b then 1 else 0
theorem z_b_t : z_b true = 1 := rfl
theorem z_b_f : z_b false = 0 := rfl
theorem z_b_in (b : Bool) : z_in (z_b b) := by cases b <;> decide
theorem z_b_01 (b : Bool) : z_b b = 0 ∨ z_b b = 1 := by cases b <;> decide
