/-! longs as rows of bits -/
section
variable {p : Program} {l : Launch} {e : Env} {R : Room} {s : State} {m : MethodId} {args : Array Value} {below : List Frame} {meth : Method} {c : Code} {H : Heap} {locs : List Loc} {cells slots : Nat} {Q : State → Prop}
variable {cc : ByteArray} {pc : Nat} {ls : Array Slot} {rest : List Value}
theorem lx_lushr (hx : p.tables.exec = Jvm.exec) (hb : c.code = cc) {a b : Int} (hd : decode cc pc = .ok (.lushr, 1)) (k : W p l e R s m args below meth c H locs cells slots Q (F0 m (pc + 1) ls (.long (z_l (z_ushrl a b)) :: rest))) : W p l e R s m args below meth c H locs cells slots Q (F0 m pc ls (.int (z_i b) :: .long (z_l a) :: rest)) := lv_lushr hx hb hd (by unfold z_ushrl; rw [z_l_of]; rfl) k
end
theorem b_nat (a : Nat) : (z_l (a : Int)).toBitVec = BitVec.ofNat 64 a := by
  show (Int64.ofInt (a : Int)).toBitVec = _
  rw [Int64.toBitVec_ofInt]
  exact BitVec.ofInt_natCast _ _
theorem b_toInt {x : Int64} {n : Nat} (h : x.toBitVec = BitVec.ofNat 64 n) (hn : n < 9223372036854775808) : x.toInt = (n : Int) := by
  show x.toBitVec.toInt = _
  rw [h, BitVec.toInt_eq_toNat_cond, BitVec.toNat_ofNat, Nat.mod_eq_of_lt (by omega), if_pos (by omega)]
theorem b_and_lt {a b : Nat} (ha : a < 9223372036854775808) : a &&& b < 9223372036854775808 := Nat.lt_of_le_of_lt Nat.and_le_left ha
theorem z_andl_nat {a b : Nat} (ha : a < 9223372036854775808) : z_andl (a : Int) (b : Int) = ((a &&& b : Nat) : Int) := by
  unfold z_andl
  refine b_toInt ?_ (b_and_lt ha)
  rw [Int64.toBitVec_and, b_nat, b_nat, BitVec.ofNat_and]
theorem z_orl_nat {a b : Nat} (ha : a < 9223372036854775808) (hb : b < 9223372036854775808) : z_orl (a : Int) (b : Int) = ((a ||| b : Nat) : Int) := by
  unfold z_orl
  refine b_toInt ?_ (Nat.or_lt_two_pow (n := 63) ha hb)
  rw [Int64.toBitVec_or, b_nat, b_nat, BitVec.ofNat_or]
theorem z_xorl_nat {a b : Nat} (ha : a < 9223372036854775808) (hb : b < 9223372036854775808) : z_xorl (a : Int) (b : Int) = ((a ^^^ b : Nat) : Int) := by
  unfold z_xorl
  refine b_toInt ?_ (Nat.xor_lt_two_pow (n := 63) ha hb)
  rw [Int64.toBitVec_xor, b_nat, b_nat, BitVec.ofNat_xor]
theorem b_sh : ∀ k : Fin 64, (((z_i (k.val : Int)).toInt64 &&& 63).toBitVec.smod 64).toNat = k.val ∧ ((z_i (k.val : Int)).toInt64.toUInt64 &&& 63).toNat = k.val := by decide +kernel
theorem z_shrl_nat {a k : Nat} (ha : a < 9223372036854775808) (hk : k < 64) : z_shrl (a : Int) (k : Int) = ((a / 2 ^ k : Nat) : Int) := by
  unfold z_shrl
  show ((z_l (a : Int)).toBitVec.sshiftRight (((z_i (k : Int)).toInt64 &&& 63).toBitVec.smod 64).toNat).toInt = _
  rw [(b_sh ⟨k, hk⟩).1, BitVec.toInt_sshiftRight]
  have e : (z_l (a : Int)).toBitVec.toInt = (a : Int) := b_toInt (b_nat a) ha
  rw [e, Int.shiftRight_eq_div_pow]
  exact (Int.natCast_ediv a (2 ^ k)).symm
theorem z_ushrl_nat {a k : Nat} (ha : a < 9223372036854775808) (hk : k < 64) : z_ushrl (a : Int) (k : Int) = ((a / 2 ^ k : Nat) : Int) := by
  unfold z_ushrl
  refine b_toInt ?_ (Nat.lt_of_le_of_lt (Nat.div_le_self _ _) ha)
  apply BitVec.eq_of_toNat_eq
  show ((z_l (a : Int)).toUInt64 >>> ((z_i (k : Int)).toInt64.toUInt64 &&& 63)).toNat = _
  rw [UInt64.toNat_shiftRight, (b_sh ⟨k, hk⟩).2, Nat.mod_eq_of_lt hk, Nat.shiftRight_eq_div_pow]
  have e : (z_l (a : Int)).toUInt64.toNat = a := by
    show (z_l (a : Int)).toBitVec.toNat = a
    rw [b_nat, BitVec.toNat_ofNat, Nat.mod_eq_of_lt (by omega)]
  rw [e, BitVec.toNat_ofNat, Nat.mod_eq_of_lt (Nat.lt_of_le_of_lt (Nat.div_le_self _ _) (by omega))]
theorem z_and_127 (v : Nat) : z_and (v : Int) 127 = ((v % 128 : Nat) : Int) := by
  unfold z_and
  have h := pk_and (z_i (v : Int)) (m := z_i 127) 7 (by decide)
  rw [h]
  have e : (z_i (v : Int)).toBitVec.toNat = v % 2 ^ 32 := by
    show (Int32.ofInt (v : Int)).toBitVec.toNat = _
    rw [Int32.toBitVec_ofInt, BitVec.ofInt_natCast, BitVec.toNat_ofNat]
  rw [e, Nat.mod_mod_of_dvd _ (by decide), nI_toInt (by omega)]
/-! how many bits -/
def b_pc (a : Nat) : Nat → Nat
  | 0 => 0
  | k + 1 => b_pc a k + (if a.testBit k then 1 else 0)
theorem b_pc_add (a n : Nat) : ∀ m, b_pc a (n + m) = b_pc a n + b_pc (a / 2 ^ n) m := by
  intro m
  induction m with
  | zero => rfl
  | succ m ih =>
    show b_pc a (n + m) + (if a.testBit (n + m) then 1 else 0) = b_pc a n + (b_pc (a / 2 ^ n) m + (if (a / 2 ^ n).testBit m then 1 else 0))
    rw [ih, Nat.testBit_div_two_pow, Nat.add_comm m n]
    omega
theorem b_pc_mod (a n : Nat) : ∀ k, k ≤ n → b_pc (a % 2 ^ n) k = b_pc a k := by
  intro k
  induction k with
  | zero => intro _; rfl
  | succ k ih =>
    intro hk
    show b_pc (a % 2 ^ n) k + _ = b_pc a k + _
    rw [ih (by omega), Nat.testBit_mod_two_pow, decide_eq_true (by omega), Bool.true_and]
theorem b_pc8 (a : Nat) : b_pc a 40 = b_pc (a % 256) 8 + b_pc (a / 256 % 256) 8 + b_pc (a / 65536 % 256) 8 + b_pc (a / 16777216 % 256) 8 + b_pc (a / 4294967296 % 256) 8 := by
  have q1 : a / 256 / 256 = a / 65536 := by omega
  have q2 : a / 65536 / 256 = a / 16777216 := by omega
  have q3 : a / 16777216 / 256 = a / 4294967296 := by omega
  have h1 : b_pc a (8 + 32) = b_pc a 8 + b_pc (a / 256) 32 := b_pc_add a 8 32
  have h2 : b_pc (a / 256) (8 + 24) = b_pc (a / 256) 8 + b_pc (a / 256 / 256) 24 := b_pc_add (a / 256) 8 24
  have h3 : b_pc (a / 65536) (8 + 16) = b_pc (a / 65536) 8 + b_pc (a / 65536 / 256) 16 := b_pc_add (a / 65536) 8 16
  have h4 : b_pc (a / 16777216) (8 + 8) = b_pc (a / 16777216) 8 + b_pc (a / 16777216 / 256) 8 := b_pc_add (a / 16777216) 8 8
  have m0 : b_pc (a % 256) 8 = b_pc a 8 := b_pc_mod a 8 8 (Nat.le_refl _)
  have m1 : b_pc (a / 256 % 256) 8 = b_pc (a / 256) 8 := b_pc_mod (a / 256) 8 8 (Nat.le_refl _)
  have m2 : b_pc (a / 65536 % 256) 8 = b_pc (a / 65536) 8 := b_pc_mod (a / 65536) 8 8 (Nat.le_refl _)
  have m3 : b_pc (a / 16777216 % 256) 8 = b_pc (a / 16777216) 8 := b_pc_mod (a / 16777216) 8 8 (Nat.le_refl _)
  have m4 : b_pc (a / 4294967296 % 256) 8 = b_pc (a / 4294967296) 8 := b_pc_mod (a / 4294967296) 8 8 (Nat.le_refl _)
  rw [q1] at h2
  rw [q2] at h3
  rw [q3] at h4
  rw [m0, m1, m2, m3, m4]
  have e40 : b_pc a 40 = b_pc a 8 + b_pc (a / 256) 32 := h1
  have e32 : b_pc (a / 256) 32 = b_pc (a / 256) 8 + b_pc (a / 65536) 24 := h2
  have e24 : b_pc (a / 65536) 24 = b_pc (a / 65536) 8 + b_pc (a / 16777216) 16 := h3
  have e16 : b_pc (a / 16777216) 16 = b_pc (a / 16777216) 8 + b_pc (a / 4294967296) 8 := h4
  omega
/-! five bytes at once -/
def b_5 (b0 b1 b2 b3 b4 : Nat) : Nat := b0 + 256 * (b1 + 256 * (b2 + 256 * (b3 + 256 * b4)))
theorem b_and256 {x y X Y : Nat} (hx : x < 256) (hy : y < 256) : (x + 256 * X) &&& (y + 256 * Y) = (x &&& y) + 256 * (X &&& Y) := by
  have hxy : x &&& y < 256 := Nat.lt_of_le_of_lt Nat.and_le_left hx
  apply Nat.eq_of_testBit_eq
  intro j
  rw [Nat.testBit_and, Nat.add_comm x, Nat.add_comm y, Nat.add_comm (x &&& y), show (256 : Nat) = 2 ^ 8 from rfl, Nat.testBit_two_pow_mul_add _ hx, Nat.testBit_two_pow_mul_add _ hy, Nat.testBit_two_pow_mul_add _ hxy]
  split
  · rw [Nat.testBit_and]
  · rw [Nat.testBit_and]
theorem b_and5 {b0 b1 b2 b3 b4 y Y : Nat} (h0 : b0 < 256) (h1 : b1 < 256) (h2 : b2 < 256) (h3 : b3 < 256) (h4 : b4 < 256) (hy : y < 256) : b_5 b0 b1 b2 b3 b4 &&& (y + 256 * (y + 256 * (y + 256 * (y + 256 * (y + 256 * Y))))) = b_5 (b0 &&& y) (b1 &&& y) (b2 &&& y) (b3 &&& y) (b4 &&& y) := by
  unfold b_5
  rw [b_and256 h0 hy, b_and256 h1 hy, b_and256 h2 hy, b_and256 h3 hy]
  have e : b4 &&& (y + 256 * Y) = b4 &&& y := by
    have := b_and256 (X := 0) (Y := Y) h4 hy
    rw [Nat.mul_zero, Nat.add_zero, Nat.zero_and, Nat.mul_zero, Nat.add_zero] at this
    exact this
  rw [e]
theorem b_f1 : ∀ x : Fin 256, ((x.val / 2) &&& 85) ≤ x.val ∧ ∀ t : Fin 2, ((x.val / 2 + 128 * t.val) &&& 85) = ((x.val / 2) &&& 85) := by decide +kernel
def b_c1 (x : Nat) : Nat := x - ((x / 2) &&& 85)
theorem b_f2 : ∀ x : Fin 256, (x.val &&& 51) + ((x.val / 4) &&& 51) ≤ 102 ∧ ∀ t : Fin 4, ((x.val / 4 + 64 * t.val) &&& 51) = ((x.val / 4) &&& 51) := by decide +kernel
def b_c2 (x : Nat) : Nat := (x &&& 51) + ((x / 4) &&& 51)
theorem b_f3 : ∀ x : Fin 103, ∀ t : Fin 16, ((x.val + x.val / 16 + 16 * t.val) &&& 15) = ((x.val + x.val / 16) &&& 15) := by decide +kernel
def b_c3 (x : Nat) : Nat := (x + x / 16) &&& 15
theorem b_f4 : ∀ x : Fin 256, b_c3 (b_c2 (b_c1 x.val)) = b_pc x.val 8 ∧ b_pc x.val 8 ≤ 8 ∧ b_c2 (b_c1 x.val) ≤ 68 ∧ b_c2 (b_c1 x.val) % 16 ≤ 4 := by decide +kernel
theorem b_c1_lt {x : Nat} (h : x < 256) : b_c1 x < 256 := by unfold b_c1; omega
