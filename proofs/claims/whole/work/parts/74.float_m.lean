/-! floats by their bits -/
theorem fl_n32 {r : UInt32} (h : FP.Core.val32 r ≠ .nan) : vf_n32 r := by
  have h1 := (FP.Core.ne_nan32 r).mp h
  show r &&& 0x7fffffff ≤ 0x7f800000
  rw [UInt32.le_iff_toNat_le, UInt32.toNat_and]
  have e : r.toNat &&& (0x7fffffff : UInt32).toNat = r.toNat % 2 ^ 31 := Nat.and_two_pow_sub_one_eq_mod r.toNat 31
  rw [e]; exact h1
theorem fl_n64 {r : UInt64} (h : FP.Core.val64 r ≠ .nan) : vf_n64 r := by
  have h1 := (FP.Core.ne_nan r).mp h
  show r &&& 0x7fffffffffffffff ≤ 0x7ff0000000000000
  rw [UInt64.le_iff_toNat_le, UInt64.toNat_and]
  have e : r.toNat &&& (0x7fffffffffffffff : UInt64).toNat = r.toNat % 2 ^ 63 := Nat.and_two_pow_sub_one_eq_mod r.toNat 63
  rw [e]; exact h1
theorem fl_dec {a : UInt32} {s : Bool} {E T : Nat} (h : a.toNat = (s.toNat * 256 + E) * 8388608 + T) (hT : T < 8388608) (hE : E < 255) : FP.Core.val32 a = if E = 0 then .fin s T (-149) else .fin s (8388608 + T) ((E : Int) - 150) := by
  have e := FP.Core.decode_assemble FP.Core.b32 s E T (show E < 256 by omega) hT
  show FP.Core.decode FP.Core.b32 a.toNat = _
  rw [h]
  show FP.Core.decode FP.Core.b32 (FP.Core.assemble FP.Core.b32 s E T) = _
  have h255 : ¬ E = FP.Core.b32.exps - 1 := fun q => by
    have q2 : E = 255 := q
    omega
  rw [e, if_neg h255]
  by_cases h0 : E = 0
  · rw [if_pos h0, if_pos h0]; rfl
  · rw [if_neg h0, if_neg h0]
    show FP.Core.Datum.fin s (8388608 + T) (-149 + ((E : Int) - 1)) = _
    rw [show (-149 + ((E : Int) - 1)) = (E : Int) - 150 by omega]
theorem fl_k : FP.Core.val32 1149239296 = .fin false 8388608 (-13) := by decide +kernel
theorem fl_xf (s : Bool) : (s != false) = s := by cases s <;> rfl
theorem fl_mul {w : UInt32} {s : Bool} {c : Nat} {q : Int} (h : FP.Core.val32 w = .fin s c q) (c0 : 8388608 ≤ c) (c1 : c < 16777216) (q0 : -149 ≤ q) (q1 : q ≤ -10) : FP.Core.val32 (FP.fmul w 1149239296) = .fin s c (q + 10) := by
  rw [show FP.fmul w 1149239296 = FP.Core.fmul w 1149239296 from rfl, FP.Core.val32_fmul, h, fl_k]
  show FP.Core.roundRatio FP.Core.b32 (s != false) (c * 8388608) 1 (q + -13) = _
  rw [fl_xf]
  refine FP.Core.roundRatio_exact FP.Core.good_b32 (by decide) ⟨c1, (show (-149 : Int) ≤ q + 10 by omega), (show q + 10 ≤ (104 : Int) by omega), Or.inr c0⟩ ?_
  rw [show (q + -13 - (q + 10)).toNat = 0 by omega, show (q + 10 - (q + -13)).toNat = 23 by omega]
  omega
theorem fl_mul0 {w : UInt32} {s : Bool} (h : FP.Core.val32 w = .fin s 0 (-149)) : FP.Core.val32 (FP.fmul w 1149239296) = .fin s 0 (-149) := by
  rw [show FP.fmul w 1149239296 = FP.Core.fmul w 1149239296 from rfl, FP.Core.val32_fmul, h, fl_k]
  show FP.Core.roundRatio FP.Core.b32 (s != false) (0 * 8388608) 1 (-149 + -13) = _
  rw [fl_xf, Nat.zero_mul]
  rfl
theorem fl_muls {w : UInt32} {s : Bool} {c : Nat} (h : FP.Core.val32 w = .fin s c (-149)) (c0 : 1 ≤ c) (c1 : c < 8388608) : ∃ (c' : Nat) (q' : Int), FP.Core.val32 (FP.fmul w 1149239296) = .fin s c' q' ∧ 1 ≤ c' ∧ c' < 16777216 ∧ -149 ≤ q' ∧ q' ≤ -100 := by
  rw [show FP.fmul w 1149239296 = FP.Core.fmul w 1149239296 from rfl, FP.Core.val32_fmul, h, fl_k]
  show ∃ (c' : Nat) (q' : Int), FP.Core.roundRatio FP.Core.b32 (s != false) (c * 8388608) 1 (-149 + -13) = _ ∧ _
  rw [fl_xf]
  by_cases hc : c < 8192
  · refine ⟨c * 1024, -149, FP.Core.roundRatio_exact FP.Core.good_b32 (by decide) ⟨(show c * 1024 < 16777216 by omega), Int.le_refl _, (show (-149 : Int) ≤ (104 : Int) by omega), Or.inl rfl⟩ ?_, by omega, by omega, by omega, by omega⟩
    show c * 8388608 * 2 ^ 0 = c * 1024 * 1 * 2 ^ 13
    omega
  · have l0 : 2 ^ c.log2 ≤ c := Nat.log2_self_le (by omega)
    have l1 : c < 2 ^ (c.log2 + 1) := Nat.lt_log2_self
    have k0 : 13 ≤ c.log2 := by
      apply Classical.byContradiction
      intro hk
      have := Nat.pow_le_pow_right (show 0 < 2 by decide) (show c.log2 + 1 ≤ 13 by omega)
      omega
    have k1 : c.log2 ≤ 22 := by
      apply Classical.byContradiction
      intro hk
      have := Nat.pow_le_pow_right (show 0 < 2 by decide) (show 23 ≤ c.log2 by omega)
      omega
    generalize hk : c.log2 = k at *
    have hp : 2 ^ k * 2 ^ (23 - k) = 8388608 := by rw [← Nat.pow_add, show k + (23 - k) = 23 by omega]
    have a1 : 2 ^ k * 2 ^ (23 - k) ≤ c * 2 ^ (23 - k) := Nat.mul_le_mul_right _ l0
    have a2 : c * 2 ^ (23 - k) < 2 ^ (k + 1) * 2 ^ (23 - k) := Nat.mul_lt_mul_of_pos_right l1 (Nat.two_pow_pos _)
    have a3 : 2 ^ (k + 1) * 2 ^ (23 - k) = 16777216 := by rw [← Nat.pow_add, show k + 1 + (23 - k) = 24 by omega]
    refine ⟨c * 2 ^ (23 - k), (k : Int) - 162, FP.Core.roundRatio_exact FP.Core.good_b32 (by decide) ⟨(show c * 2 ^ (23 - k) < 16777216 by omega), (show (-149 : Int) ≤ (k : Int) - 162 by omega), (show (k : Int) - 162 ≤ (104 : Int) by omega), Or.inr (show 8388608 ≤ c * 2 ^ (23 - k) by omega)⟩ ?_, by omega, by omega, by omega, by omega⟩
    rw [show (-149 + -13 - ((k : Int) - 162)).toNat = 0 by omega, show ((k : Int) - 162 - (-149 + -13)).toNat = k by omega]
    rw [Nat.pow_zero, Nat.mul_one, Nat.mul_one, Nat.mul_assoc, Nat.mul_comm (2 ^ (23 - k)) (2 ^ k), hp]
theorem fl_cv (o : Ordering) : (Op.cmpValue (some o) .l).toInt = 0 ↔ o = .eq := by cases o <;> decide
/-- a float against its whole part -/
theorem fl_cmp {u : UInt32} {s : Bool} {c : Nat} {q : Int} (h : FP.Core.val32 u = .fin s c q) (c1 : c < 16777216) (q0 : -149 ≤ q) (q1 : q ≤ 0) : z_f2i u = FP.Core.signed s (c / 2 ^ (-q).toNat) ∧ (z_fc u (z_i2f (z_f2i u)) .l = 0 ↔ c % 2 ^ (-q).toNat = 0) := by
  have hle : c / 2 ^ (-q).toNat ≤ c := Nat.div_le_self _ _
  have hs : ∀ n : Nat, FP.Core.signed s n = if s = true then -(n : Int) else n := fun n => rfl
  have hb : -16777216 < FP.Core.signed s (c / 2 ^ (-q).toNat) ∧ FP.Core.signed s (c / 2 ^ (-q).toNat) < 16777216 := by
    rw [hs]
    generalize c / 2 ^ (-q).toNat = z at hle
    split <;> omega
  have e1 : z_f2i u = FP.Core.signed s (c / 2 ^ (-q).toNat) := by
    show (Int32.ofInt (FP.Core.toInt (-2 ^ 31) (2 ^ 31 - 1) (FP.Core.val32 u))).toInt = _
    rw [h]
    show (Int32.ofInt (max (-2 ^ 31) (min (2 ^ 31 - 1) (FP.Core.signed s (c * 2 ^ q.toNat / 2 ^ (-q).toNat))))).toInt = _
    rw [show q.toNat = 0 by omega, Nat.pow_zero, Nat.mul_one]
    rw [show max (-2 ^ 31) (min (2 ^ 31 - 1) (FP.Core.signed s (c / 2 ^ (-q).toNat))) = FP.Core.signed s (c / 2 ^ (-q).toNat) by omega]
    exact z_i_to ⟨by omega, by omega⟩
  refine ⟨e1, ?_⟩
  generalize hv : z_f2i u = v at *
  have hi : (z_i v).toInt = v := z_i_to ⟨by omega, by omega⟩
  have hI : FP.Core.FInt v (z_i2f v) := by
    have := FP.Core.i2f_int (a := z_i v) (by rw [hi]; omega)
    rw [hi] at this
    exact this
  have hz := FP.Core.fcmp_zval (a := u) (b := z_i2f v) (by rw [h]; intro q; cases q) (FP.Core.FInt_ne_nan hI)
  unfold z_fc
  rw [show FP.fcmp u (z_i2f v) = FP.Core.fcmp u (z_i2f v) from rfl, hz, fl_cv, FP.Core.compare_eq_iff, FP.Core.FInt_zval hI, h]
  show FP.Core.signed s (c * 2 ^ (q - -149).toNat) = v * ((2 ^ 149 : Nat) : Int) ↔ _
  have hp : 2 ^ 149 = 2 ^ (-q).toNat * 2 ^ (q - -149).toNat := by rw [← Nat.pow_add, show (-q).toNat + (q - -149).toNat = 149 by omega]
  generalize ha : 2 ^ (q - -149).toNat = a at *
  have a0 : 0 < a := by rw [← ha]; exact Nat.two_pow_pos _
  generalize hb2 : 2 ^ (-q).toNat = b at *
  have b0 : 0 < b := by rw [← hb2]; exact Nat.two_pow_pos _
  have hd := Nat.div_add_mod c b
  rw [hp, e1, FP.Core.signed_mul, Int.natCast_mul, ← Int.mul_assoc]
  have ha' : (a : Int) ≠ 0 := by omega
  constructor
  · intro hh
    have h2 := Int.eq_of_mul_eq_mul_right ha' hh
    rw [← FP.Core.signed_mul] at h2
    have h3 : c = c / b * b := by
      rw [hs, hs] at h2
      split at h2 <;> omega
    rw [Nat.mul_comm] at h3
    omega
  · intro hh
    have h3 : c = c / b * b := by rw [Nat.mul_comm]; omega
    rw [← FP.Core.signed_mul s (c / b) b, ← h3]
theorem fl_lt {a b : UInt32} (ha : FP.Core.val32 a ≠ .nan) (hb : FP.Core.val32 b ≠ .nan) (op : CmpOp) : (z_fc a b op < 0 ↔ FP.Core.fkey a < FP.Core.fkey b) ∧ (z_fc a b op > 0 ↔ FP.Core.fkey b < FP.Core.fkey a) := by
  unfold z_fc
  rw [show FP.fcmp a b = FP.Core.fcmp a b from rfl, FP.Core.fcmp_key ha hb, FP.Core.compare_ite]
  by_cases h : FP.Core.fkey a < FP.Core.fkey b
  · rw [if_pos h]
    have e : (Op.cmpValue (some .lt) op).toInt = -1 := rfl
    rw [e]; omega
  · rw [if_neg h]
    by_cases h2 : FP.Core.fkey a = FP.Core.fkey b
    · rw [if_pos h2]
      have e : (Op.cmpValue (some .eq) op).toInt = 0 := rfl
      rw [e]; omega
    · rw [if_neg h2]
      have e : (Op.cmpValue (some .gt) op).toInt = 1 := rfl
      rw [e]; omega
theorem z_and_31 (x : Int) : z_and x 2147483647 = x % 2147483648 := by
  unfold z_and
  have h := pk_and (z_i x) (m := z_i 2147483647) 31 (by decide)
  rw [h, nI_toInt (by omega)]
  have e := i_tn x
  omega
theorem z_bf_nat (b : Int) : ((z_bf b).toNat : Int) = b % 4294967296 := i_tn b
theorem fl_sn {b : Int} (hn : b % 2147483648 ≤ 2139095040) : vn_sni2f (z_i b) = false := by
  unfold vn_sni2f
  have e0 := z_bf_nat b
  have e : ¬ (z_i b).toUInt32 &&& 0x7fffffff > 0x7f800000 := by
    intro h
    rw [GT.gt, UInt32.lt_iff_toNat_lt, UInt32.toNat_and] at h
    have e : (z_i b).toUInt32.toNat &&& (0x7fffffff : UInt32).toNat = (z_i b).toUInt32.toNat % 2 ^ 31 := Nat.and_two_pow_sub_one_eq_mod _ 31
    rw [e] at h
    have h2 : 2139095040 < (z_bf b).toNat % 2147483648 := h
    omega
  rw [decide_eq_false e]
  rfl
theorem fl_key {b : Int} (hb : z_in b) : FP.Core.fkey (z_bf b) = if b < 0 then -(b % 2147483648) else b % 2147483648 := by
  have e0 := z_bf_nat b
  obtain ⟨b0, b1⟩ := hb
  unfold FP.Core.fkey
  by_cases h : b < 0
  · rw [if_pos h, if_pos (by omega)]; omega
  · rw [if_neg h, if_neg (by omega)]; omega
theorem fl_uf_no {b : Int} (h : b % 2147483648 > 1174405120) : b_uf b = -2147483648 := by
  unfold b_uf
  rw [if_neg (by omega)]
  by_cases h1 : 140 < b / 8388608 % 256
  · rw [if_pos (Or.inr (Or.inl h1))]
  · have e : b / 8388608 % 256 = 140 := by omega
    rw [if_neg (by omega), e]
    rw [if_pos (Or.inr ?_)]
    show 8388608 < (b % 8388608 + 8388608) / 1
    omega
def fl_ok (E T : Nat) : Prop := (E = 0 ∧ T = 0) ∨ (117 ≤ E ∧ (T + 8388608) % 2 ^ (140 - E) = 0)
theorem fl_c {w : UInt32} {s : Bool} {E T : Nat} (hd : FP.Core.val32 w = if E = 0 then .fin s T (-149) else .fin s (8388608 + T) ((E : Int) - 150)) (hT : T < 8388608) (hE : E ≤ 140) : vf_n32 (FP.fmul w 1149239296) ∧ ∀ u, u = FP.fmul w 1149239296 → (z_fc u (z_i2f (z_f2i u)) .l = 0 ↔ fl_ok E T) ∧ (fl_ok E T → z_f2i u = FP.Core.signed s (if E = 0 then 0 else (T + 8388608) / 2 ^ (140 - E))) := by
  by_cases hE0 : E = 0
  · rw [if_pos hE0] at hd
    rw [if_pos hE0]
    by_cases hT0 : T = 0
    · rw [hT0] at hd
      have hm := fl_mul0 hd
      have hok : fl_ok E T := Or.inl ⟨hE0, hT0⟩
      refine ⟨fl_n32 (by rw [hm]; intro q; cases q), ?_⟩
      rintro u rfl
      have hc := fl_cmp hm (by omega) (by omega) (by omega)
      rw [Nat.zero_div, Nat.zero_mod] at hc
      exact ⟨⟨fun _ => hok, fun _ => hc.2.mpr rfl⟩, fun _ => hc.1⟩
    · obtain ⟨c', q', hm, m1, m2, m3, m4⟩ := fl_muls hd (by omega) hT
      have hno : ¬ fl_ok E T := fun h => by
        rcases h with h | h
        · exact hT0 h.2
        · omega
      refine ⟨fl_n32 (by rw [hm]; intro q; cases q), ?_⟩
      rintro u rfl
      have hc := fl_cmp hm m2 m3 (by omega)
      have hp : 2 ^ 24 ≤ 2 ^ (-q').toNat := Nat.pow_le_pow_right (by decide) (by omega)
      rw [Nat.mod_eq_of_lt (Nat.lt_of_lt_of_le m2 hp)] at hc
      exact ⟨⟨fun h => absurd (hc.2.mp h) (by omega), fun h => absurd h hno⟩, fun h => absurd h hno⟩
  · rw [if_neg hE0] at hd
    rw [if_neg hE0]
    have hm := fl_mul hd (by omega) (by omega) (by omega) (by omega)
    refine ⟨fl_n32 (by rw [hm]; intro q; cases q), ?_⟩
    rintro u rfl
    have hc := fl_cmp hm (by omega) (by omega) (by omega)
    rw [show (-((E : Int) - 150 + 10)).toNat = 140 - E by omega, Nat.add_comm 8388608 T] at hc
    refine ⟨?_, fun _ => hc.1⟩
    rw [hc.2]
    constructor
    · intro h
      refine Or.inr ⟨?_, h⟩
      apply Classical.byContradiction
      intro h117
      have hp : 2 ^ 24 ≤ 2 ^ (140 - E) := Nat.pow_le_pow_right (by decide) (by omega)
      have hl : T + 8388608 < 2 ^ 24 := by
        have e : 2 ^ 24 = 16777216 := by decide
        omega
      rw [Nat.mod_eq_of_lt (Nat.lt_of_lt_of_le hl hp)] at h
      omega
    · intro h
      rcases h with h | h
      · exact absurd h.1 hE0
      · exact h.2
theorem fl_v {E T : Nat} (hT : T < 8388608) (hE : E ≤ 140) (hET : E = 140 → T = 0) : (T + 8388608) / 2 ^ (140 - E) ≤ 8388608 := by
  by_cases h : E = 140
  · rw [h, hET h, Nat.sub_self, Nat.pow_zero, Nat.div_one]; omega
  · have hp : 2 ^ 1 ≤ 2 ^ (140 - E) := Nat.pow_le_pow_right (by decide) (by omega)
    have h2 : (T + 8388608) / 2 ^ (140 - E) ≤ (T + 8388608) / 2 ^ 1 := Nat.div_le_div_left hp (by decide)
    rw [Nat.pow_one] at h2
    omega
theorem fl_cm (T D : Nat) : ((T : Int) + 8388608) % (D : Int) = (((T + 8388608) % D : Nat) : Int) := by
  have e : (T : Int) + 8388608 = ((T + 8388608 : Nat) : Int) := by omega
  rw [e]
  exact (Int.natCast_emod _ _).symm
theorem fl_cd (T D : Nat) : ((T : Int) + 8388608) / (D : Int) = (((T + 8388608) / D : Nat) : Int) := by
  have e : (T : Int) + 8388608 = ((T + 8388608 : Nat) : Int) := by omega
  rw [e]
  exact (Int.natCast_ediv _ _).symm
def fl_ufn (neg : Prop) [Decidable neg] (E T Z Wd : Int) : Int :=
  if E = 0 ∧ T = 0 then 0
  else if E = 0 ∨ 140 < E ∨ E < 117 then -2147483648
  else if Wd ≠ 0 ∨ 8388608 < Z then -2147483648
  else if neg then -Z else Z
theorem b_uf_n (b : Int) : b_uf b = fl_ufn (b < 0) (b / 8388608 % 256) (b % 8388608) ((b % 8388608 + 8388608) / ((2 ^ (140 - b / 8388608 % 256).toNat : Nat) : Int)) ((b % 8388608 + 8388608) % ((2 ^ (140 - b / 8388608 % 256).toNat : Nat) : Int)) := rfl
theorem fl_ufn_0 {neg : Prop} [Decidable neg] {E T Z Wd : Int} (h1 : E = 0) (h2 : T = 0) : fl_ufn neg E T Z Wd = 0 := if_pos ⟨h1, h2⟩
theorem fl_ufn_v {neg : Prop} [Decidable neg] {E T Z Wd : Int} (h1 : 117 ≤ E) (h2 : E ≤ 140) (h3 : Wd = 0) (h4 : Z ≤ 8388608) : fl_ufn neg E T Z Wd = if neg then -Z else Z := by
  unfold fl_ufn
  rw [if_neg (by omega), if_neg (by omega), if_neg (by omega)]
theorem fl_ufn_n {neg : Prop} [Decidable neg] {E T Z Wd : Int} (h1 : ¬ (E = 0 ∧ T = 0)) (h2 : ¬ (117 ≤ E ∧ Wd = 0)) (h3 : E ≤ 140) : fl_ufn neg E T Z Wd = -2147483648 := by
  unfold fl_ufn
  rw [if_neg h1]
  by_cases h : E = 0 ∨ 140 < E ∨ E < 117
  · rw [if_pos h]
  · rw [if_neg h, if_pos (Or.inl (by omega))]
theorem fl_uf_a {b : Int} {E T : Nat} (hE : b / 8388608 % 256 = (E : Int)) (hT : b % 8388608 = (T : Int)) (et : (140 - (E : Int)).toNat = 140 - E) : b_uf b = fl_ufn (b < 0) (E : Int) (T : Int) (((T + 8388608) / 2 ^ (140 - E) : Nat) : Int) (((T + 8388608) % 2 ^ (140 - E) : Nat) : Int) := by
  rw [b_uf_n, hE, hT, et, fl_cd, fl_cm]
theorem fl_uf_b {b : Int} {E T Z Wd : Nat} (hEl : E ≤ 140) (hv : Z ≤ 8388608) : (((E = 0 ∧ T = 0) ∨ (117 ≤ E ∧ Wd = 0)) → fl_ufn (b < 0) (E : Int) (T : Int) (Z : Int) (Wd : Int) = FP.Core.signed (decide (b < 0)) (if E = 0 then 0 else Z)) ∧ (¬ ((E = 0 ∧ T = 0) ∨ (117 ≤ E ∧ Wd = 0)) → fl_ufn (b < 0) (E : Int) (T : Int) (Z : Int) (Wd : Int) = -2147483648) := by
  constructor
  · rintro (⟨h1, h2⟩ | ⟨h1, h2⟩)
    · rw [fl_ufn_0 (by omega) (by omega), if_pos h1, FP.Core.signed_zero]
    · rw [fl_ufn_v (by omega) (by omega) (by omega) (by omega), if_neg (show ¬ E = 0 by omega)]
      by_cases hn : b < 0
      · rw [if_pos hn, decide_eq_true hn]; rfl
      · rw [if_neg hn, decide_eq_false hn]; rfl
  · intro hno
    exact fl_ufn_n (fun h => hno (Or.inl ⟨by omega, by omega⟩)) (fun h => hno (Or.inr ⟨by omega, by omega⟩)) (by omega)
theorem fl_uf {b : Int} {E T : Nat} (hE : b / 8388608 % 256 = (E : Int)) (hT : b % 8388608 = (T : Int)) (hTl : T < 8388608) (hEl : E ≤ 140) (hET : E = 140 → T = 0) : (fl_ok E T → b_uf b = FP.Core.signed (decide (b < 0)) (if E = 0 then 0 else (T + 8388608) / 2 ^ (140 - E))) ∧ (¬ fl_ok E T → b_uf b = -2147483648) := by
  rw [fl_uf_a hE hT (by omega)]
  exact fl_uf_b hEl (fl_v hTl hEl hET)
theorem fl_h {b : Int} (hb : z_in b) (hn : b % 2147483648 ≤ 2139095040) :
    (z_fc (z_bf b) 3321888768 .l < 0 → b_uf b = -2147483648) ∧ (z_fc (z_bf b) 1174405120 .g > 0 → b_uf b = -2147483648) ∧
    (z_fc (z_bf b) 3321888768 .l ≥ 0 → z_fc (z_bf b) 1174405120 .g ≤ 0 → vf_n32 (FP.fmul (z_bf b) 1149239296) ∧
      ∀ u, u = FP.fmul (z_bf b) 1149239296 → (z_fc u (z_i2f (z_f2i u)) .l = 0 → z_f2i u = b_uf b ∧ -8388608 ≤ b_uf b ∧ b_uf b ≤ 8388608) ∧ (z_fc u (z_i2f (z_f2i u)) .l ≠ 0 → b_uf b = -2147483648)) := by
  have e0 := z_bf_nat b
  have hk := fl_key hb
  have hnn : FP.Core.val32 (z_bf b) ≠ .nan := (FP.Core.ne_nan32 _).mpr (by
    rw [show (2 : Nat) ^ 31 = 2147483648 by decide]; omega)
  have n1 : FP.Core.val32 3321888768 ≠ .nan := by decide +kernel
  have n2 : FP.Core.val32 1174405120 ≠ .nan := by decide +kernel
  have k1 : FP.Core.fkey 3321888768 = -1174405120 := by decide +kernel
  have k2 : FP.Core.fkey 1174405120 = 1174405120 := by decide +kernel
  have l1 := fl_lt hnn n1 .l
  have l2 := fl_lt hnn n2 .g
  rw [k1, hk] at l1
  rw [k2, hk] at l2
  refine ⟨fun h => fl_uf_no ?_, fun h => fl_uf_no ?_, fun h1 h2 => ?_⟩
  · have := l1.1.mp h; split at this <;> omega
  · have := l2.2.mp h; split at this <;> omega
  · have hle : b % 2147483648 ≤ 1174405120 := by
      have a1 : ¬ (if b < 0 then -(b % 2147483648) else b % 2147483648) < -1174405120 := fun h => absurd (l1.1.mpr h) (by omega)
      have a2 : ¬ 1174405120 < (if b < 0 then -(b % 2147483648) else b % 2147483648) := fun h => absurd (l2.2.mpr h) (by omega)
      by_cases h : b < 0
      · rw [if_pos h] at a1 a2; omega
      · rw [if_neg h] at a1 a2; omega
    clear l1 l2 k1 k2 n1 n2 h1 h2
    obtain ⟨b0, b1⟩ := hb
    obtain ⟨E, hE⟩ := Int.eq_ofNat_of_zero_le (show 0 ≤ b / 8388608 % 256 by omega)
    obtain ⟨T, hT⟩ := Int.eq_ofNat_of_zero_le (show 0 ≤ b % 8388608 by omega)
    have hTl : T < 8388608 := by omega
    have hEl : E ≤ 140 := by omega
    have hET : E = 140 → T = 0 := by omega
    have st : (true : Bool).toNat = 1 := rfl
    have sf : (false : Bool).toNat = 0 := rfl
    have hbits : (z_bf b).toNat = ((decide (b < 0)).toNat * 256 + E) * 8388608 + T := by
      by_cases h : b < 0
      · rw [decide_eq_true h, st]; omega
      · rw [decide_eq_false h, sf]; omega
    have hc := fl_c (fl_dec hbits hTl (by omega)) hTl hEl
    have hu := fl_uf hE hT hTl hEl hET
    have hv := fl_v hTl hEl hET
    refine ⟨hc.1, fun u e => ?_⟩
    have hc2 := hc.2 u e
    refine ⟨fun h => ?_, fun h => hu.2 (fun q => h (hc2.1.mpr q))⟩
    have hok := hc2.1.mp h
    rw [hu.1 hok, hc2.2 hok]
    refine ⟨rfl, ?_⟩
    generalize (T + 8388608) / 2 ^ (140 - E) = Z at hv
    cases decide (b < 0)
    · show -8388608 ≤ ((if E = 0 then 0 else Z : Nat) : Int) ∧ ((if E = 0 then 0 else Z : Nat) : Int) ≤ 8388608
      split <;> omega
    · show -8388608 ≤ -((if E = 0 then 0 else Z : Nat) : Int) ∧ -((if E = 0 then 0 else Z : Nat) : Int) ≤ 8388608
      split <;> omega
/-- what at answers -/
theorem fl_at {v : Int} (h0 : -8388608 ≤ v) (h1 : v ≤ 8388608) {w x : UInt32} (hw : w = z_i2f v) : vf_n32 (FP.fdiv w 1149239296) ∧ (x = FP.fdiv w 1149239296 → z_fc x x .l = 0 ∧ z_fb x = b_fu v) := by
  have hi : (z_i v).toInt = v := z_i_to ⟨by omega, by omega⟩
  have hval : FP.Core.val32 w = FP.Core.roundRatio FP.Core.b32 (decide (v < 0)) v.natAbs 1 0 := by
    rw [hw]
    show FP.Core.val32 (FP.Core.i2f (z_i v)) = _
    rw [FP.Core.val32_i2f, hi]; rfl
  have hdiv : FP.Core.val32 (FP.fdiv w 1149239296) = FP.Core.quotient FP.Core.b32 (FP.Core.val32 w) (.fin false 8388608 (-13)) := by
    rw [← fl_k]; exact FP.Core.val32_fdiv w 1149239296
  have self : ∀ x : UInt32, FP.Core.val32 x ≠ .nan → z_fc x x .l = 0 := fun x hx => by
    unfold z_fc
    rw [show FP.fcmp x x = FP.Core.fcmp x x from rfl, FP.Core.fcmp_self hx]; rfl
  by_cases hv : v = 0
  · rw [hv] at hval
    have hval' : FP.Core.val32 w = .fin false 0 (-149) := hval
    rw [hval'] at hdiv
    have hdiv' : FP.Core.val32 (FP.fdiv w 1149239296) = .fin false 0 (-149) := hdiv
    have hn : FP.Core.val32 (FP.fdiv w 1149239296) ≠ .nan := by rw [hdiv']; intro q; cases q
    refine ⟨fl_n32 hn, ?_⟩
    rintro rfl
    refine ⟨self _ hn, ?_⟩
    rw [← FP.Core.of32_val32 hn, hdiv', hv]
    decide +kernel
  · have k0 : v.natAbs ≠ 0 := by omega
    have l0 : 2 ^ v.natAbs.log2 ≤ v.natAbs := Nat.log2_self_le k0
    have l1 : v.natAbs < 2 ^ (v.natAbs.log2 + 1) := Nat.lt_log2_self
    have hfu : b_fu v = (if v < 0 then -2147483648 else 0) + ((v.natAbs.log2 : Int) + 117) * 8388608 + (((v.natAbs * 2 ^ (23 - v.natAbs.log2) : Nat) : Int) - 8388608) := by
      unfold b_fu; rw [if_neg (by omega)]
    have hk : v.natAbs.log2 ≤ 23 := by
      apply Classical.byContradiction
      intro hk
      have := Nat.pow_le_pow_right (show 0 < 2 by decide) (show 24 ≤ v.natAbs.log2 by omega)
      omega
    generalize v.natAbs.log2 = k at *
    generalize hN : v.natAbs = N at *
    have hp : 2 ^ k * 2 ^ (23 - k) = 8388608 := by rw [← Nat.pow_add, show k + (23 - k) = 23 by omega]
    have a1 : 2 ^ k * 2 ^ (23 - k) ≤ N * 2 ^ (23 - k) := Nat.mul_le_mul_right _ l0
    have a2 : N * 2 ^ (23 - k) < 2 ^ (k + 1) * 2 ^ (23 - k) := Nat.mul_lt_mul_of_pos_right l1 (Nat.two_pow_pos _)
    have a3 : 2 ^ (k + 1) * 2 ^ (23 - k) = 16777216 := by rw [← Nat.pow_add, show k + 1 + (23 - k) = 24 by omega]
    have r1 : FP.Core.roundRatio FP.Core.b32 (decide (v < 0)) N 1 0 = .fin (decide (v < 0)) (N * 2 ^ (23 - k)) ((k : Int) - 23) := by
      refine FP.Core.roundRatio_exact FP.Core.good_b32 (by decide) ⟨(show N * 2 ^ (23 - k) < 16777216 by omega), (show (-149 : Int) ≤ (k : Int) - 23 by omega), (show (k : Int) - 23 ≤ (104 : Int) by omega), Or.inr (show 8388608 ≤ N * 2 ^ (23 - k) by omega)⟩ ?_
      rw [show (0 - ((k : Int) - 23)).toNat = 23 - k by omega, show ((k : Int) - 23 - 0).toNat = 0 by omega]; omega
    rw [r1] at hval
    rw [hval] at hdiv
    generalize hM : N * 2 ^ (23 - k) = M at *
    have r2 : FP.Core.quotient FP.Core.b32 (.fin (decide (v < 0)) M ((k : Int) - 23)) (.fin false 8388608 (-13)) = .fin (decide (v < 0)) M ((k : Int) - 33) := by
      show FP.Core.roundRatio FP.Core.b32 (decide (v < 0) != false) M 8388608 ((k : Int) - 23 - -13) = _
      rw [fl_xf]
      refine FP.Core.roundRatio_exact FP.Core.good_b32 (by decide) ⟨(show M < 16777216 by omega), (show (-149 : Int) ≤ (k : Int) - 33 by omega), (show (k : Int) - 33 ≤ (104 : Int) by omega), Or.inr (show 8388608 ≤ M by omega)⟩ ?_
      rw [show ((k : Int) - 23 - -13 - ((k : Int) - 33)).toNat = 23 by omega, show ((k : Int) - 33 - ((k : Int) - 23 - -13)).toNat = 0 by omega]; omega
    rw [r2] at hdiv
    have hn : FP.Core.val32 (FP.fdiv w 1149239296) ≠ .nan := by rw [hdiv]; intro q; cases q
    refine ⟨fl_n32 hn, ?_⟩
    rintro rfl
    refine ⟨self _ hn, ?_⟩
    have henc : FP.Core.encode FP.Core.b32 (.fin (decide (v < 0)) M ((k : Int) - 33)) = FP.Core.assemble FP.Core.b32 (decide (v < 0)) (k + 117) (M - 8388608) := by
      have hM : ¬ M < FP.Core.b32.tails := fun q => by
        have q2 : M < 8388608 := q
        omega
      have h1 : FP.Core.encode FP.Core.b32 (.fin (decide (v < 0)) M ((k : Int) - 33)) = FP.Core.assemble FP.Core.b32 (decide (v < 0)) (((k : Int) - 33 - FP.Core.b32.qmin).toNat + 1) (M - FP.Core.b32.tails) := if_neg hM
      have h2 : FP.Core.b32.qmin = -149 := rfl
      rw [h1, h2, show ((k : Int) - 33 - -149).toNat + 1 = k + 117 by omega]
      rfl
    have hbits : (FP.Core.of32 (.fin (decide (v < 0)) M ((k : Int) - 33))).toBitVec = BitVec.ofNat 32 (((decide (v < 0)).toNat * 256 + (k + 117)) * 8388608 + (M - 8388608)) := by
      unfold FP.Core.of32
      rw [henc]
      rfl
    have hlt : ((decide (v < 0)).toNat * 256 + (k + 117)) * 8388608 + (M - 8388608) < 4294967296 := by
      have : (decide (v < 0)).toNat ≤ 1 := by cases decide (v < 0) <;> decide
      omega
    have st : (true : Bool).toNat = 1 := rfl
    have sf : (false : Bool).toNat = 0 := rfl
    rw [← FP.Core.of32_val32 hn, hdiv, hfu]
    show (FP.Core.of32 (.fin (decide (v < 0)) M ((k : Int) - 33))).toBitVec.toInt = _
    rw [hbits, BitVec.toInt_eq_toNat_cond, BitVec.toNat_ofNat, Nat.mod_eq_of_lt hlt]
    by_cases hneg : v < 0
    · rw [decide_eq_true hneg, st] at hlt ⊢
      rw [if_pos hneg, if_neg (by omega)]
      omega
    · rw [decide_eq_false hneg, sf] at hlt ⊢
      rw [if_neg hneg, if_pos (by omega)]
      omega
