/-! doubles: whole numbers and their quotients -/
theorem dl_cross {c d A B P Q R S X Y : Nat} (h1 : c * 2 ^ P = A * 2 ^ Q) (h2 : d * 2 ^ R = B * 2 ^ S) (h3 : X + Q + R = Y + P + S) : c * B * 2 ^ X = A * d * 2 ^ Y := by
  have hp : 0 < 2 ^ (P + S) := Nat.two_pow_pos _
  apply Nat.eq_of_mul_eq_mul_right hp
  have e1 : c * B * 2 ^ X * 2 ^ (P + S) = (c * 2 ^ P) * (B * 2 ^ S) * 2 ^ X := by rw [Nat.pow_add]; ac_rfl
  have e2 : A * d * 2 ^ Y * 2 ^ (P + S) = A * d * 2 ^ (X + Q + R) := by
    rw [Nat.mul_assoc (A * d), ← Nat.pow_add, h3, Nat.add_assoc]
  rw [e1, h1, ← h2, e2, Nat.pow_add, Nat.pow_add]
  ac_rfl
theorem dl_whole {a : Int} (h : a.natAbs ≤ 9007199254740992) : ∃ s c q, FP.Core.val64 (z_l2d a) = .fin s c q ∧ FP.Core.Whole a (.fin s c q) := by
  have hi : (z_l a).toInt = a := z_l_to ⟨by omega, by omega⟩
  have hI := FP.Core.l2d_int (a := z_l a) (by rw [hi]; exact h)
  rw [hi] at hI
  have hI2 : FP.Core.Whole a (FP.Core.val64 (z_l2d a)) := hI
  cases hv : FP.Core.val64 (z_l2d a) with
  | nan => rw [hv] at hI2; exact hI2.elim
  | inf s => rw [hv] at hI2; exact hI2.elim
  | fin s c q => rw [hv] at hI2; exact ⟨s, c, q, rfl, hI2⟩
theorem dl_div {a b : Int} (ha : a ≠ 0) (hb : b ≠ 0) (hs : decide (a < 0) = decide (b < 0)) (h1 : a.natAbs ≤ 9007199254740992) (h2 : b.natAbs ≤ 9007199254740992) : FP.Core.val64 (FP.ddiv (z_l2d a) (z_l2d b)) = FP.Core.roundRatio FP.Core.b64 false a.natAbs b.natAbs 0 := by
  obtain ⟨s, c, q, hv, hw⟩ := dl_whole h1
  obtain ⟨t, d, r, hv2, hw2⟩ := dl_whole h2
  rw [show FP.ddiv (z_l2d a) (z_l2d b) = FP.Core.ddiv (z_l2d a) (z_l2d b) from rfl, FP.Core.val64_ddiv, hv, hv2]
  have hd : d ≠ 0 := fun h => hb ((FP.Core.whole_zero hw2).mp h)
  have es := FP.Core.whole_sign hw ha
  have et := FP.Core.whole_sign hw2 hb
  have e1 : FP.Core.quotient FP.Core.b64 (.fin s c q) (.fin t d r) = FP.Core.roundRatio FP.Core.b64 (s != t) c d (q - r) := if_neg hd
  have e2 : (s != t) = false := by rw [es, et, hs]; cases decide (b < 0) <;> rfl
  rw [e1, e2]
  exact FP.Core.roundRatio_congr (by omega) (by omega) (dl_cross (FP.Core.whole_natAbs hw) (FP.Core.whole_natAbs hw2) (by omega))
theorem dl_one {a : Int} (ha : 0 < a) (h1 : a.natAbs ≤ 9007199254740992) : FP.Core.val64 (z_l2d a) = FP.Core.roundRatio FP.Core.b64 false a.natAbs 1 0 := by
  have hi : (z_l a).toInt = a := z_l_to ⟨by omega, by omega⟩
  rw [show z_l2d a = FP.Core.l2d (z_l a) from rfl, FP.Core.val64_l2d, hi]
  show FP.Core.roundRatio FP.Core.b64 (decide (a < 0)) a.natAbs 1 0 = _
  rw [decide_eq_false (by omega)]
/-- the rounding, in numbers -/
def dl_up (N D : Nat) : Nat := if 2 * (N % D) > D ∨ (2 * (N % D) = D ∧ N / D % 2 = 1) then 1 else 0
theorem dl_nearest {N D : Nat} : FP.Core.nearest N D = N / D + dl_up N D := by
  unfold FP.Core.nearest dl_up
  generalize N % D = r
  generalize N / D = u
  by_cases h1 : 2 * r < D
  · rw [if_pos h1, if_neg (by omega)]; rfl
  · rw [if_neg h1]
    by_cases h2 : D < 2 * r
    · rw [if_pos h2, if_pos (Or.inl h2)]
    · rw [if_neg h2]
      by_cases h3 : u % 2 = 1
      · rw [if_pos (Or.inr ⟨by omega, h3⟩), h3]
      · rw [if_neg (by omega)]; omega
theorem dl_settle {M : Nat} {q : Int} (m0 : 4503599627370496 ≤ M) (m1 : M ≤ 9007199254740992) (q0 : -1074 ≤ q) (q1 : q ≤ 0) : ∃ c e, FP.Core.settle FP.Core.b64 false M q = .fin false c e ∧ FP.Core.encode FP.Core.b64 (.fin false c e) = (q + 1075).toNat * 4503599627370496 + (M - 4503599627370496) := by
  have ep : 2 ^ FP.Core.b64.p = 9007199254740992 := by decide +kernel
  have et : FP.Core.b64.tails = 4503599627370496 := by decide +kernel
  have eM : FP.Core.b64.qmax = 971 := by decide +kernel
  have em : FP.Core.b64.qmin = -1074 := by decide +kernel
  have ee : FP.Core.b64.exps = 2048 := by decide +kernel
  have enc : ∀ (c : Nat) (e : Int), 4503599627370496 ≤ c → FP.Core.encode FP.Core.b64 (.fin false c e) = (0 * 2048 + ((e - -1074).toNat + 1)) * 4503599627370496 + (c - 4503599627370496) := fun c e hc => by
    have h1 : FP.Core.encode FP.Core.b64 (.fin false c e) = FP.Core.assemble FP.Core.b64 false ((e - FP.Core.b64.qmin).toNat + 1) (c - FP.Core.b64.tails) := if_neg (by rw [et]; omega)
    rw [h1, em, et]
    unfold FP.Core.assemble
    rw [ee, et]; rfl
  unfold FP.Core.settle FP.Core.bound
  rw [ep, eM]
  by_cases h : M < 9007199254740992
  · rw [if_pos h, if_pos (by omega)]
    refine ⟨M, q, rfl, ?_⟩
    rw [enc M q m0, show 0 * 2048 + ((q - -1074).toNat + 1) = (q + 1075).toNat by omega]
  · rw [if_neg h, if_pos (by omega), et]
    refine ⟨4503599627370496, q + 1, rfl, ?_⟩
    rw [enc _ _ (by omega), show 0 * 2048 + ((q + 1 - -1074).toNat + 1) = (q + 1075).toNat + 1 by omega]
    omega
theorem dl_lead {ov un : Nat} (h0 : 0 < ov) (h1 : ov < 140737488355328) (h2 : 0 < un) (h3 : un ≤ 33554432) : -26 ≤ FP.Core.leading ov un ∧ FP.Core.leading ov un ≤ 46 := by
  obtain ⟨b0, b1⟩ := FP.Core.leading_spec h0 h2
  constructor
  · apply Classical.byContradiction
    intro h
    have hb : FP.Core.Below ov un (-26) := FP.Core.below_mono (by omega) b1
    have hb2 : ov * 67108864 < un * 1 := hb
    omega
  · apply Classical.byContradiction
    intro h
    have hb : ¬ FP.Core.Below ov un 47 := fun hb => b0 (FP.Core.below_mono (by omega) hb)
    apply hb
    show ov * 1 < un * 140737488355328
    omega
theorem dl_enc {ov un : Nat} (h0 : 0 < ov) (h1 : ov < 140737488355328) (h2 : 0 < un) (h3 : un ≤ 33554432) : ∃ (s : Nat) (c : Nat) (e : Int), s ≤ 100 ∧ 4503599627370496 * un ≤ ov * 2 ^ s ∧ ov * 2 ^ s < 9007199254740992 * un ∧ FP.Core.roundRatio FP.Core.b64 false ov un 0 = .fin false c e ∧ FP.Core.encode FP.Core.b64 (.fin false c e) = (1075 - s) * 4503599627370496 + (ov * 2 ^ s / un + dl_up (ov * 2 ^ s) un - 4503599627370496) := by
  have hl := dl_lead h0 h1 h2 h3
  obtain ⟨b0, b1⟩ := FP.Core.leading_spec h0 h2
  have hq : FP.Core.quantum FP.Core.b64 ov un 0 = FP.Core.leading ov un - 52 := by
    unfold FP.Core.quantum
    rw [show FP.Core.b64.qmin = -1074 by decide +kernel, show ((FP.Core.b64.p : Int) - 1) = 52 by decide +kernel]
    omega
  have u0 := FP.Core.units_below ov un 0 (FP.Core.leading ov un - 52) 52
  have u1 := FP.Core.units_below ov un 0 (FP.Core.leading ov un - 52) 53
  rw [show FP.Core.leading ov un - 52 - 0 + ((52 : Nat) : Int) = FP.Core.leading ov un by omega] at u0
  rw [show FP.Core.leading ov un - 52 - 0 + ((53 : Nat) : Int) = FP.Core.leading ov un + 1 by omega] at u1
  have hr : FP.Core.roundRatio FP.Core.b64 false ov un 0 = FP.Core.settle FP.Core.b64 false (FP.Core.nearest (FP.Core.unitsNum ov 0 (FP.Core.leading ov un - 52)) (FP.Core.unitsDen un 0 (FP.Core.leading ov un - 52))) (FP.Core.leading ov un - 52) := by
    unfold FP.Core.roundRatio FP.Core.roundAt
    rw [if_neg (by omega), hq]
  generalize FP.Core.leading ov un = t at *
  have eN : FP.Core.unitsNum ov 0 (t - 52) = ov * 2 ^ (52 - t).toNat := by
    unfold FP.Core.unitsNum; rw [show (0 - (t - 52)).toNat = (52 - t).toNat by omega]
  have eD : FP.Core.unitsDen un 0 (t - 52) = un := by
    unfold FP.Core.unitsDen; rw [show (t - 52 - 0).toNat = 0 by omega, Nat.pow_zero, Nat.mul_one]
  rw [eN, eD] at u0 u1 hr
  have p52 : 2 ^ 52 = 4503599627370496 := by decide
  have p53 : 2 ^ 53 = 9007199254740992 := by decide
  rw [p52] at u0
  rw [p53] at u1
  have g0 : 4503599627370496 * un ≤ ov * 2 ^ (52 - t).toNat := Nat.le_of_not_lt (fun h => b0 (u0.mp h))
  have g1 : ov * 2 ^ (52 - t).toNat < 9007199254740992 * un := u1.mpr b1
  refine ⟨(52 - t).toNat, ?_⟩
  generalize hN : ov * 2 ^ (52 - t).toNat = N at *
  have m0 : 4503599627370496 ≤ FP.Core.nearest N un := FP.Core.nearest_ge h2 g0
  have m1 : FP.Core.nearest N un ≤ 9007199254740992 := FP.Core.nearest_le h2 (by omega)
  obtain ⟨c, e, hs, henc⟩ := dl_settle (q := t - 52) m0 m1 (by omega) (by omega)
  refine ⟨c, e, by omega, g0, g1, hr.trans hs, ?_⟩
  rw [henc, dl_nearest, show (t - 52 + 1075).toNat = 1075 - (52 - t).toNat by omega]
theorem dl_rt {ov un N D s u : Nat} {r : Int} (e1 : (ov : Int) = N) (e2 : (un : Int) = D) (h0 : 0 < N) (hs : s ≤ 100) (g0 : 4503599627370496 * D ≤ N * 2 ^ s) (g1 : N * 2 ^ s < 9007199254740992 * D) (hu : u = N * 2 ^ s / D + dl_up (N * 2 ^ s) D) (hr : r = (((1075 - s) * 4503599627370496 + (u - 4503599627370496) : Nat) : Int)) (hD : 0 < D) : b_rt (N : Int) (D : Int) r := by
  unfold b_rt
  rw [if_neg (by omega)]
  refine ⟨s, hs, ?_⟩
  have eN : (N : Int) * ((2 ^ s : Nat) : Int) = ((N * 2 ^ s : Nat) : Int) := by rw [Int.natCast_mul]
  rw [eN]
  generalize N * 2 ^ s = X at *
  have ed : ((X : Int) / (D : Int)) = ((X / D : Nat) : Int) := (Int.natCast_ediv X D).symm
  have em : ((X : Int) % (D : Int)) = ((X % D : Nat) : Int) := (Int.natCast_emod X D).symm
  have hge : 4503599627370496 ≤ X / D := (Nat.le_div_iff_mul_le hD).mpr g0
  rw [ed, em]
  unfold dl_up at hu
  generalize X / D = a at *
  generalize X % D = b at *
  refine ⟨by omega, by omega, ?_⟩
  rw [hr, hu]
  by_cases h : 2 * b > D ∨ (2 * b = D ∧ a % 2 = 1)
  · rw [if_pos h, if_pos (by omega)]; omega
  · rw [if_neg h, if_neg (by omega)]; omega
/-- the bits of a double that is known by its value -/
theorem dl_bits {x : UInt64} {ov un : Nat} (h0 : 0 < ov) (h1 : ov < 140737488355328) (h2 : 0 < un) (h3 : un ≤ 33554432) (hx : FP.Core.val64 x = FP.Core.roundRatio FP.Core.b64 false ov un 0) : vf_n64 x ∧ z_dc x x .l = 0 ∧ b_rt (ov : Int) (un : Int) (z_db x) := by
  obtain ⟨s, c, e, hs, g0, g1, hr, henc⟩ := dl_enc h0 h1 h2 h3
  rw [hr] at hx
  have hn : FP.Core.val64 x ≠ .nan := by rw [hx]; intro q; cases q
  refine ⟨fl_n64 hn, ?_, ?_⟩
  · unfold z_dc
    rw [show FP.dcmp x x = FP.Core.dcmp x x from rfl, FP.Core.dcmp_self hn]; rfl
  · have hxe : x = FP.Core.of64 (.fin false c e) := by rw [← hx]; exact (FP.Core.of64_val64 hn).symm
    have hu : ov * 2 ^ s / un + dl_up (ov * 2 ^ s) un ≤ 9007199254740992 := by
      have a : ov * 2 ^ s / un < 9007199254740992 := (Nat.div_lt_iff_lt_mul h2).mpr g1
      have b : dl_up (ov * 2 ^ s) un ≤ 1 := by unfold dl_up; split <;> omega
      omega
    have hz : z_db x = (((1075 - s) * 4503599627370496 + (ov * 2 ^ s / un + dl_up (ov * 2 ^ s) un - 4503599627370496) : Nat) : Int) := by
      rw [hxe]
      unfold z_db FP.Core.of64
      rw [henc]
      generalize ov * 2 ^ s / un + dl_up (ov * 2 ^ s) un = u at hu
      show (BitVec.ofNat 64 ((1075 - s) * 4503599627370496 + (u - 4503599627370496))).toInt = _
      rw [BitVec.toInt_eq_toNat_cond, BitVec.toNat_ofNat, Nat.mod_eq_of_lt (by omega), if_pos (by omega)]
    exact dl_rt rfl rfl h0 hs g0 g1 rfl hz h2
theorem b_rt_uniq {ov un r1 r2 : Int} (hu : 0 < un) (h1 : b_rt ov un r1) (h2 : b_rt ov un r2) : r1 = r2 := by
  unfold b_rt at h1 h2
  by_cases h : ov ≤ 0
  · rw [if_pos h] at h1 h2; rw [h1, h2]
  · rw [if_neg h] at h1 h2
    obtain ⟨s1, -, a1, b1, c1⟩ := h1
    obtain ⟨s2, -, a2, b2, c2⟩ := h2
    have key : ∀ x y : Nat, x < y → 4503599627370496 * un ≤ ov * ((2 ^ x : Nat) : Int) → ov * ((2 ^ y : Nat) : Int) < 9007199254740992 * un → False := fun x y hxy p q => by
      have hp : 2 ^ (x + 1) ≤ 2 ^ y := Nat.pow_le_pow_right (by decide) hxy
      have hp2 : (2 : Int) * ((2 ^ x : Nat) : Int) ≤ ((2 ^ y : Nat) : Int) := by
        rw [Nat.pow_succ] at hp; omega
      have h3 := Int.mul_le_mul_of_nonneg_left hp2 (show 0 ≤ ov by omega)
      have e : ov * (2 * ((2 ^ x : Nat) : Int)) = 2 * (ov * ((2 ^ x : Nat) : Int)) := by rw [← Int.mul_assoc, Int.mul_comm ov 2, Int.mul_assoc]
      rw [e] at h3
      omega
    have hs : s1 = s2 := by
      rcases Nat.lt_trichotomy s1 s2 with h | h | h
      · exact (key _ _ h a1 b2).elim
      · exact h
      · exact (key _ _ h a2 b1).elim
    subst hs
    rw [c1, c2]
