/-! longs as sixty-four bits -/
def i_bt (f : Nat → Int64) (w b : Nat) : Bool := (f w).toBitVec.getLsbD b
theorem i_and1 (y : BitVec 64) : (y &&& 1#64).toNat = if y.getLsbD 0 = true then 1 else 0 := by
  rw [BitVec.toNat_and, show (1#64).toNat = 1 from rfl, Nat.and_one_is_mod]
  have e : y.getLsbD 0 = decide (y.toNat % 2 = 1) := by
    show y.toNat.testBit 0 = _
    rw [Nat.testBit_zero]
  rw [e]
  by_cases h : y.toNat % 2 = 1
  · rw [decide_eq_true h, if_pos rfl, h]
  · rw [decide_eq_false h, if_neg (by decide)]; omega
theorem i_rd {f : Nat → Int64} {i : Int} {j : Nat} (hj : j < 64) : z_andl (z_shrl (z_gl f i) (j : Int)) 1 = z_b (i_bt f i.toNat j) := by
  unfold z_andl z_shrl i_bt
  rw [z_l_of, z_l_gl]
  generalize f i.toNat = x
  have e : (x >>> ((z_i (j : Int)).toInt64 &&& 63)).toBitVec = x.toBitVec.sshiftRight j := by
    show x.toBitVec.sshiftRight (((z_i (j : Int)).toInt64 &&& 63).toBitVec.smod 64).toNat = _
    rw [(b_sh ⟨j, hj⟩).1]
  have g : (x.toBitVec.sshiftRight j).getLsbD 0 = x.toBitVec.getLsbD j := by
    rw [BitVec.getLsbD_sshiftRight]; simp [hj]
  have h : ((x >>> ((z_i (j : Int)).toInt64 &&& 63)) &&& z_l 1).toBitVec = BitVec.ofNat 64 (if x.toBitVec.getLsbD j = true then 1 else 0) := by
    apply BitVec.eq_of_toNat_eq
    rw [Int64.toBitVec_and, e, show (z_l 1).toBitVec = 1#64 from by decide +kernel, i_and1, g]
    split <;> rfl
  cases hb : x.toBitVec.getLsbD j
  · rw [hb] at h; exact b_toInt h (by decide)
  · rw [hb] at h; exact b_toInt h (by decide)
theorem i_wr {f : Nat → Int64} {i : Int} {j : Nat} (hj : j < 64) (w b : Nat) (hb : b < 64) : i_bt (z_sl f i (z_orl (z_gl f i) (z_shll 1 (j : Int)))) w b = if w = i.toNat then (i_bt f w b || decide (b = j)) else i_bt f w b := by
  unfold i_bt z_sl vp_updL z_orl z_shll
  by_cases h : w = i.toNat
  · rw [if_pos h, if_pos h, z_l_of, z_l_of, z_l_gl, Int64.toBitVec_or, BitVec.getLsbD_or, h]
    have e : (z_l 1 <<< ((z_i (j : Int)).toInt64 &&& 63)).toBitVec = 1#64 <<< j := by
      show (z_l 1).toBitVec <<< (((z_i (j : Int)).toInt64 &&& 63).toBitVec.smod 64) = _
      rw [BitVec.shiftLeft_eq', (b_sh ⟨j, hj⟩).1]
      rfl
    rw [e, BitVec.getLsbD_shiftLeft]
    congr 1
    by_cases h2 : b = j
    · rw [decide_eq_true h2, h2]; simp [hj]
    · rw [decide_eq_false h2]
      by_cases h3 : b < j
      · simp [h3]
      · have : (1#64).getLsbD (b - j) = false := by
          show (1 : Nat).testBit (b - j) = false
          exact Bool.eq_false_iff.mpr (fun q => by have := Nat.testBit_one_eq_true_iff_self_eq_zero.mp q; omega)
        rw [this]; simp
  · rw [if_neg h, if_neg h]
theorem i_z {f : Nat → Int64} {i : Int} (w b : Nat) : i_bt (z_sl f i 0) w b = if w = i.toNat then false else i_bt f w b := by
  unfold i_bt z_sl vp_updL
  by_cases h : w = i.toNat
  · rw [if_pos h, if_pos h]
    show (z_l 0).toBitVec.toNat.testBit b = false
    rw [show (z_l 0).toBitVec.toNat = 0 from by decide +kernel, Nat.zero_testBit]
  · rw [if_neg h, if_neg h]
theorem i_ar {f : Nat → Int64} {a b : Int} : z_andl (z_gl f a) (z_xorl (z_gl f b) (-1)) = 0 ↔ ∀ j : Nat, j < 64 → i_bt f a.toNat j = true → i_bt f b.toNat j = true := by
  unfold z_andl z_xorl i_bt
  rw [z_l_of, z_l_gl, z_l_gl]
  generalize f a.toNat = x
  generalize f b.toNat = y
  have e0 : (x &&& (y ^^^ z_l (-1))).toInt = 0 ↔ (x &&& (y ^^^ z_l (-1))).toBitVec = 0#64 := by
    constructor
    · intro h
      have : x &&& (y ^^^ z_l (-1)) = 0 := Int64.toInt_inj.mp h
      rw [this]; rfl
    · intro h
      show (x &&& (y ^^^ z_l (-1))).toBitVec.toInt = 0
      rw [h]; rfl
  have bit : ∀ j : Nat, j < 64 → (x &&& (y ^^^ z_l (-1))).toBitVec.getLsbD j = (x.toBitVec.getLsbD j && !y.toBitVec.getLsbD j) := fun j hj => by
    rw [Int64.toBitVec_and, Int64.toBitVec_xor, BitVec.getLsbD_and, BitVec.getLsbD_xor, show (z_l (-1)).toBitVec = BitVec.allOnes 64 from by decide +kernel, BitVec.getLsbD_allOnes, decide_eq_true hj, Bool.xor_true]
  rw [e0]
  constructor
  · intro h j hj hx
    have h2 := bit j hj
    rw [h, hx] at h2
    cases hy : y.toBitVec.getLsbD j
    · rw [hy] at h2; simp at h2
    · rfl
  · intro h
    apply BitVec.eq_of_getLsbD_eq
    intro j hj
    rw [bit j hj, BitVec.getLsbD_zero]
    cases hx : x.toBitVec.getLsbD j
    · rfl
    · rw [h j hj hx]; rfl
/-! what the model keeps of its lines -/
def e_D (ls : List d_L) (U : Int → Int) (hs lu lf lm cl sd sa : Nat → Int32) : Prop :=
  ls.length ≤ 400 ∧ d_tot ls ≤ 8000 ∧ ∀ (k : Nat) (l : d_L), ls[k]? = some l → z_g lu (k : Int) = z_g hs l.1 ∧ z_g lf (k : Int) = (d_tot (ls.take k) : Int) ∧ z_g lm (k : Int) = (l.2.2.length : Int) ∧ z_g cl (k : Int) = l.2.1 ∧
    ∀ (i : Nat) (s : Int), l.2.2[i]? = some s → z_g sd ((d_tot (ls.take k) + i : Nat) : Int) = s ∧ z_g sa ((d_tot (ls.take k) + i : Nat) : Int) = U (s / 2)
def e_S (ls : List d_L) (T : Int → Bool) (U : Int → Int) (hs ins hi : Nat → Int32) (bits : Nat → Int64) (K : Nat) : Prop :=
  ∀ (k : Nat) (l : d_L), k < K → ls[k]? = some l → z_g ins (k : Int) = (if l.2.1 = 1 then l_n T ls k else 0) ∧ z_g hi (k : Int) = z_b (decide (l.2.1 = 1) && l_hi T U hs ls k) ∧
    ∀ q : Nat, q < 1280 → i_bt bits (20 * k + q / 64) (q % 64) = (decide (l.2.1 = 1) && a_in T l.2.2 (q : Int))
theorem l_at_n {ls : List d_L} {k : Nat} {l : d_L} (h : ls[k]? = some l) : l_at ls (k : Int) = l := by
  unfold l_at
  rw [if_pos (by omega), Int.toNat_natCast, h]; rfl
theorem c_tk {l : List Int} {m : Nat} {s : Int} {c : Int → Bool} (h : l[m]? = some s) : (l.take (m + 1)).countP c = (l.take m).countP c + (if c s = true then 1 else 0) := by
  rw [List.take_add_one, h, List.countP_append]
  show _ + List.countP c [s] = _
  rw [List.countP_cons, List.countP_nil, Nat.zero_add]
theorem a_cn_le (B : Int → Bool) (k : Nat) : 0 ≤ a_cn B k ∧ a_cn B k ≤ k := by
  induction k with
  | zero => exact ⟨Int.le_refl _, Int.le_refl _⟩
  | succ k ih => unfold a_cn; split <;> omega
def vc_X8_isIn (y_inBits : Nat → Int64) (k : Int) (o : Int) (Q : Int → Prop) : Prop :=
(0 ≤ (20 * k) + (o.tdiv 64) ∧ (20 * k) + (o.tdiv 64) < 8000) ∧ ((z_andl (z_shrl (z_gl y_inBits ((20 * k) + (o.tdiv 64))) (o.tmod 64)) 1 ≠ 1 → Q 0) ∧
(z_andl (z_shrl (z_gl y_inBits ((20 * k) + (o.tdiv 64))) (o.tmod 64)) 1 = 1 → Q 1))
set_option maxHeartbeats 4000000 in
set_option maxRecDepth 100000 in
theorem wk_X8_isIn (l : Launch) (D : va_G) (cA : Nat → ClassId) (y : Nat) (y_space : Nat) (y_offset : Nat) (y_length : Nat) (y_units : Nat) (y_isThere : Nat) (y_levels : Int) (y_level : Nat) (y_lines : Int) (y_lineLevel : Nat) (y_lineUnits : Nat) (y_lineFrom : Nat) (y_lineMany : Nat) (y_isClosed : Nat) (y_insides : Nat) (y_parent : Nat) (y_isHigh : Nat) (ya_inBits : Nat) (y_inBits : Nat → Int64) (y_sides : Int) (y_side : Nat) (y_sideA : Nat) (y_sideB : Nat) (y_lineSpace : Int) (y_wasThere : Nat) (y_leads : Nat) (y_isLed : Nat) (y_isOn : Nat) (y_goesTo : Nat) (y_stream : Nat) (y_filled : Nat) (y_isDone : Nat) (y_isReached : Nat) (y_newUnits : Nat) (y_isNew : Nat) (k : Int) (o : Int) (h_y_levels : z_in y_levels) (h_y_lines : z_in y_lines) (h_y_sides : z_in y_sides) (h_y_lineSpace : z_in y_lineSpace) (h_k : z_in k) (h_o : z_in o) (Q : Int → Prop) (hv : vc_X8_isIn y_inBits k o Q) : Met l yX8_isIn wsX8_isIn ({ frames := 0, cells := 0, slots := 0, locals := 0 } : Room) (va_Pc [.ref y, .int (z_i k), .int (z_i o)] (z_B0 D cA [(y, .inr (6, [.ref y_space, .ref y_offset, .ref y_length, .ref y_units, .ref y_isThere, .int (z_i y_levels), .ref y_level, .int (z_i y_lines), .ref y_lineLevel, .ref y_lineUnits, .ref y_lineFrom, .ref y_lineMany, .ref y_isClosed, .ref y_insides, .ref y_parent, .ref y_isHigh, .ref ya_inBits, .int (z_i y_sides), .ref y_side, .ref y_sideA, .ref y_sideB, .int (z_i y_lineSpace), .ref y_wasThere, .ref y_leads, .ref y_isLed, .ref y_isOn, .ref y_goesTo, .ref y_stream, .ref y_filled, .ref y_isDone, .ref y_isReached, .ref y_newUnits, .ref y_isNew])), (ya_inBits, .inl (cA 2, 8000, .inr (.inl y_inBits)))])) (va_Qi (z_ri Q) (fun _ _ => True) (fun _ => False)) 0 0 (fun _ => False) := by
  unfold vc_X8_isIn at hv
  refine Met.ofW (cc := cX8_isIn) (maxL := 3) (ret := (some .boolean)) (by decide +kernel) rfl ?_
  intro p e s m args below meth c s₁ B hml hv0
  obtain ⟨rfl, hK, hP⟩ := hv0
  have hx := B.exec
  have hb := B.bytes
  have hr := B.returns
  have hts := atoms_spec (ws := wsX8_isIn) B.pre
  have hown : s.vm.findClass RX8 = some m.cls := findClass_of_methodNamed B.named
  have hlocks := B.notSynchronized
  have hS : va_S (fun _ : Nat => False) s.heap s.heap [] := va_S.rf
  have hl := lv_entry ([.ref y, .int (z_i k), .int (z_i o)]) (n := 3) (Nat.le_of_ble_eq_true rfl)
  rw [lg_entry_eq]
  generalize (lg_sl ([.ref y, .int (z_i k), .int (z_i o)]) ++ List.replicate (3 - (lg_sl ([.ref y, .int (z_i k), .int (z_i o)])).length) Slot.unset).toArray = ls at hl ⊢
  have hl : lv_has ls 3 [(0, .ref y), (1, .int (z_i k)), (2, .int (z_i o))] := hl
  refine lv_aload_n hx hb dX8_isIn_0 rfl (lv_at hl 0 rfl) ?_
  refine va_get (D := D) (ci := 6) (v := .ref ya_inBits) (C := RX8) (T := TX8) (N := 33) hx hb hts (fun w h => List.mem_cons_of_mem _ (List.mem_append_right _ h)) hown hK hP 0 rfl rfl 16 (by decide) (hts (.fieldLink RX8 53 "ContourSheetsModel" "inBits" "[J") (by decide +kernel)) (fun _ h9 => h9) rfl dX8_isIn_1 ?_
  refine lv_bipush (v := z_i 20) hx hb dX8_isIn_4 (by decide) ?_
  refine lv_iload_n hx hb dX8_isIn_6 rfl (lv_at hl 1 rfl) ?_
  refine lx_imul hx hb dX8_isIn_7 ?_
  refine lv_iload_n hx hb dX8_isIn_8 rfl (lv_at hl 2 rfl) ?_
  refine lv_bipush (v := z_i 64) hx hb dX8_isIn_9 (by decide) ?_
  refine lx_idiv hx hb dX8_isIn_11 h_o (show z_in 64 from ⟨by decide, by decide⟩) (by decide) ?_
  refine lx_iadd hx hb dX8_isIn_12 ?_
  obtain ⟨hi1, hv⟩ := hv
  refine lx_lald hx hb hK hP 1 2 rfl rfl (by decide) hi1.1 hi1.2 dX8_isIn_13 ?_
  refine lv_iload_n hx hb dX8_isIn_14 rfl (lv_at hl 2 rfl) ?_
  refine lv_bipush (v := z_i 64) hx hb dX8_isIn_15 (by decide) ?_
  refine lx_irem hx hb dX8_isIn_17 h_o (show z_in 64 from ⟨by decide, by decide⟩) (by decide) ?_
  refine lx_lshr hx hb dX8_isIn_18 ?_
  refine lv_lconst (v := z_l 1) hx hb dX8_isIn_19 (by decide) ?_
  refine lx_land hx hb dX8_isIn_20 ?_
  refine lv_lconst (v := z_l 1) hx hb dX8_isIn_21 (by decide) ?_
  refine lx_lcmp hx hb dX8_isIn_22 (z_nl_of _) (show z_nl 1 from ⟨by decide, by decide⟩) ?_
  refine lx_if_ne (tgt := 30) hx hb dX8_isIn_23 (by decide) (z_in_cmp _ _) (fun hc => ?_) (fun hc => ?_)
  · have hv := hv.1 (z_cmp_ne.mp hc)
    refine lv_iconst (v := z_i 0) hx hb dX8_isIn_30 rfl ?_
    exact W.zret (v := z_i 0) hx hb hr (by decide) (fun t ht hW => ⟨⟨z_i 0, (), rfl, ⟨0, rfl, (show z_in 0 from ⟨by decide, by decide⟩), hv⟩, trivial⟩, hS.F ht⟩) hS.2.2 dX8_isIn_31
  · have hv := hv.2 (z_cmp_eq.mp hc)
    refine lv_iconst (v := z_i 1) hx hb dX8_isIn_26 rfl ?_
    refine lv_goto (tgt := 31) hx hb dX8_isIn_27 (by decide) ?_
    exact W.zret (v := z_i 1) hx hb hr (by decide) (fun t ht hW => ⟨⟨z_i 1, (), rfl, ⟨1, rfl, (show z_in 1 from ⟨by decide, by decide⟩), hv⟩, trivial⟩, hS.F ht⟩) hS.2.2 dX8_isIn_31
set_option maxHeartbeats 4000000 in
set_option maxRecDepth 100000 in
theorem mt_X8_isIn (l : Launch) (D : va_G) (cA : Nat → ClassId) (y : Nat) (y_space : Nat) (y_offset : Nat) (y_length : Nat) (y_units : Nat) (y_isThere : Nat) (y_levels : Int) (y_level : Nat) (y_lines : Int) (y_lineLevel : Nat) (y_lineUnits : Nat) (y_lineFrom : Nat) (y_lineMany : Nat) (y_isClosed : Nat) (y_insides : Nat) (y_parent : Nat) (y_isHigh : Nat) (ya_inBits : Nat) (y_inBits : Nat → Int64) (y_sides : Int) (y_side : Nat) (y_sideA : Nat) (y_sideB : Nat) (y_lineSpace : Int) (y_wasThere : Nat) (y_leads : Nat) (y_isLed : Nat) (y_isOn : Nat) (y_goesTo : Nat) (y_stream : Nat) (y_filled : Nat) (y_isDone : Nat) (y_isReached : Nat) (y_newUnits : Nat) (y_isNew : Nat) (k : Int) (o : Int) (h_y_levels : z_in y_levels) (h_y_lines : z_in y_lines) (h_y_sides : z_in y_sides) (h_y_lineSpace : z_in y_lineSpace) (h_k : z_in k) (h_o : z_in o) (hp1 : 0 ≤ k ∧ k < 400) (hp2 : 0 ≤ o ∧ o < 1280) : Met l yX8_isIn wsX8_isIn ({ frames := 0, cells := 0, slots := 0, locals := 0 } : Room) (va_Pc [.ref y, .int (z_i k), .int (z_i o)] (z_B0 D cA [(y, .inr (6, [.ref y_space, .ref y_offset, .ref y_length, .ref y_units, .ref y_isThere, .int (z_i y_levels), .ref y_level, .int (z_i y_lines), .ref y_lineLevel, .ref y_lineUnits, .ref y_lineFrom, .ref y_lineMany, .ref y_isClosed, .ref y_insides, .ref y_parent, .ref y_isHigh, .ref ya_inBits, .int (z_i y_sides), .ref y_side, .ref y_sideA, .ref y_sideB, .int (z_i y_lineSpace), .ref y_wasThere, .ref y_leads, .ref y_isLed, .ref y_isOn, .ref y_goesTo, .ref y_stream, .ref y_filled, .ref y_isDone, .ref y_isReached, .ref y_newUnits, .ref y_isNew])), (ya_inBits, .inl (cA 2, 8000, .inr (.inl y_inBits)))])) (va_Qi (z_ri (fun (r : Int) => r = z_b (i_bt y_inBits (20 * k.toNat + o.toNat / 64) (o.toNat % 64)))) (fun _ _ => True) (fun _ => False)) 0 0 (fun _ => False) := by
  refine wk_X8_isIn l D cA y y_space y_offset y_length y_units y_isThere y_levels y_level y_lines y_lineLevel y_lineUnits y_lineFrom y_lineMany y_isClosed y_insides y_parent y_isHigh ya_inBits y_inBits y_sides y_side y_sideA y_sideB y_lineSpace y_wasThere y_leads y_isLed y_isOn y_goesTo y_stream y_filled y_isDone y_isReached y_newUnits y_isNew k o h_y_levels h_y_lines h_y_sides h_y_lineSpace h_k h_o (fun (r : Int) => r = z_b (i_bt y_inBits (20 * k.toNat + o.toNat / 64) (o.toNat % 64))) ?_
  unfold vc_X8_isIn
  obtain ⟨k, rfl⟩ := Int.eq_ofNat_of_zero_le hp1.1
  obtain ⟨o, rfl⟩ := Int.eq_ofNat_of_zero_le hp2.1
  have e1 : (o : Int).tdiv 64 = ((o / 64 : Nat) : Int) := by rw [Int.tdiv_eq_ediv_of_nonneg (by omega)]; rfl
  have e2 : (o : Int).tmod 64 = ((o % 64 : Nat) : Int) := by rw [Int.tmod_eq_emod_of_nonneg (by omega)]; rfl
  rw [e1, e2, i_rd (by omega), show (20 * (k : Int) + ((o / 64 : Nat) : Int)).toNat = 20 * k + o / 64 by omega, Int.toNat_natCast, Int.toNat_natCast]
  refine ⟨⟨by omega, by omega⟩, fun h => ?_, fun h => ?_⟩
  · cases hb : i_bt y_inBits (20 * k + o / 64) (o % 64)
    · rfl
    · rw [hb] at h; exact absurd rfl h
  · exact h.symm
def vc_X8_surrounds (y_lineUnits : Nat → Int32) (y_lineFrom : Nat → Int32) (y_lineMany : Nat → Int32) (y_isClosed : Nat → Int32) (y_insides : Nat → Int32) (y_isHigh : Nat → Int32) (y_inBits : Nat → Int64) (y_side : Nat → Int32) (y_sideA : Nat → Int32) (y_wasThere : Nat → Int32) (k : Int) (Q : (Nat → Int32) → (Nat → Int32) → (Nat → Int64) → Prop) : Prop :=
(∀ L2 : Int → (Nat → Int64) → Prop,
(∀ (x2_2 : Int) (y2_ya_inBits : Nat → Int64), z_in x2_2 → ((x2_2 ≥ 20 → (0 ≤ k ∧ k < 400) ∧ (∀ f2 : Nat → Int32, f2 = z_s y_insides k 0 → (∀ f4 : Nat → Int32, f4 = z_s y_isHigh k 0 → ((z_g y_isClosed k ≠ 0 → (∀ L52 : Int → (Nat → Int32) → (Nat → Int64) → Prop,
(∀ (x52_2 : Int) (y52_ya_insides : Nat → Int32) (y52_ya_inBits : Nat → Int64), z_in x52_2 → ((x52_2 ≥ 1280 → (∀ v6 : Int, v6 = z_g y_lineFrom k → (0 ≤ v6 ∧ v6 < 8000) ∧ z_in ((z_g y_side v6).tdiv 2) ∧ (∀ v9 : Int, v9 = (z_g y_side v6).tdiv 2 → ((z_g y_sideA v6 < z_g y_lineUnits k → z_in ((z_g y_side v6).tmod 2) ∧ (((z_g y_side v6).tmod 2 ≠ 0 → z_in (v9 + 40) ∧ (0 ≤ k ∧ k < 400) ∧ (0 ≤ (v9 + 40) ∧ (v9 + 40) < 1280) ∧ (∀ (r16 : Int), z_in r16 → (r16 = z_b (i_bt y52_ya_inBits (20 * k.toNat + (v9 + 40).toNat / 64) ((v9 + 40).toNat % 64))) → (r16 = 0 ∨ r16 = 1) ∧ (∀ f18 : Nat → Int32, f18 = z_s f4 k r16 → Q y52_ya_insides f18 y52_ya_inBits))) ∧
((z_g y_side v6).tmod 2 = 0 → z_in (v9 + 1) ∧ (0 ≤ k ∧ k < 400) ∧ (0 ≤ (v9 + 1) ∧ (v9 + 1) < 1280) ∧ (∀ (r23 : Int), z_in r23 → (r23 = z_b (i_bt y52_ya_inBits (20 * k.toNat + (v9 + 1).toNat / 64) ((v9 + 1).toNat % 64))) → (r23 = 0 ∨ r23 = 1) ∧ (∀ f25 : Nat → Int32, f25 = z_s f4 k r23 → Q y52_ya_insides f25 y52_ya_inBits))))) ∧
(z_g y_sideA v6 ≥ z_g y_lineUnits k → (0 ≤ k ∧ k < 400) ∧ (0 ≤ v9 ∧ v9 < 1280) ∧ (∀ (r29 : Int), z_in r29 → (r29 = z_b (i_bt y52_ya_inBits (20 * k.toNat + v9.toNat / 64) (v9.toNat % 64))) → (r29 = 0 ∨ r29 = 1) ∧ (∀ f31 : Nat → Int32, f31 = z_s f4 k r29 → Q y52_ya_insides f31 y52_ya_inBits))))))) ∧
(x52_2 < 1280 → (∀ v33 : Int, v33 = z_g y_lineFrom k → (∀ L69 : Int → Int → Prop,
(∀ (x69_4 : Int) (x69_3 : Int), z_in x69_4 → z_in x69_3 → z_in ((z_g y_lineFrom k) + (z_g y_lineMany k)) ∧ ((x69_4 ≥ (z_g y_lineFrom k) + (z_g y_lineMany k) → z_in (x69_3.tmod 2) ∧ ((x69_3.tmod 2 ≠ 1 → L52 (x52_2 + 1) y52_ya_insides y52_ya_inBits) ∧
(x69_3.tmod 2 = 1 → (0 ≤ (20 * k) + (x52_2.tdiv 64) ∧ (20 * k) + (x52_2.tdiv 64) < 8000) ∧ (∀ f38 : Nat → Int64, f38 = z_sl y52_ya_inBits ((20 * k) + (x52_2.tdiv 64)) (z_orl (z_gl y52_ya_inBits ((20 * k) + (x52_2.tdiv 64))) (z_shll 1 (x52_2.tmod 64))) → (∀ f40 : Nat → Int32, f40 = z_s y52_ya_insides k ((z_g y52_ya_insides k) + 1) → L52 (x52_2 + 1) f40 f38))))) ∧
(x69_4 < (z_g y_lineFrom k) + (z_g y_lineMany k) → (0 ≤ x52_2 ∧ x52_2 < 1280) ∧ ((z_g y_wasThere x52_2 = 0 → z_in (x69_3.tmod 2) ∧ ((x69_3.tmod 2 ≠ 1 → L52 (x52_2 + 1) y52_ya_insides y52_ya_inBits) ∧
(x69_3.tmod 2 = 1 → (0 ≤ (20 * k) + (x52_2.tdiv 64) ∧ (20 * k) + (x52_2.tdiv 64) < 8000) ∧ (∀ f45 : Nat → Int64, f45 = z_sl y52_ya_inBits ((20 * k) + (x52_2.tdiv 64)) (z_orl (z_gl y52_ya_inBits ((20 * k) + (x52_2.tdiv 64))) (z_shll 1 (x52_2.tmod 64))) → (∀ f47 : Nat → Int32, f47 = z_s y52_ya_insides k ((z_g y52_ya_insides k) + 1) → L52 (x52_2 + 1) f47 f45))))) ∧
(z_g y_wasThere x52_2 ≠ 0 → (0 ≤ x69_4 ∧ x69_4 < 8000) ∧ z_in ((z_g y_side x69_4).tdiv 2) ∧ (∀ v50 : Int, v50 = (z_g y_side x69_4).tdiv 2 → z_in ((z_g y_side x69_4).tmod 2) ∧ (((z_g y_side x69_4).tmod 2 ≠ 0 → L69 (x69_4 + 1) (x69_3 + 0)) ∧
((z_g y_side x69_4).tmod 2 = 0 → z_in (v50.tdiv 40) ∧ z_in (x52_2.tdiv 40) ∧ ((v50.tdiv 40 ≠ x52_2.tdiv 40 → L69 (x69_4 + 1) (x69_3 + 0)) ∧
(v50.tdiv 40 = x52_2.tdiv 40 → ((v50 ≥ x52_2 → L69 (x69_4 + 1) (x69_3 + 0)) ∧
(v50 < x52_2 → L69 (x69_4 + 1) (x69_3 + 1)))))))))))) → L69 x69_4 x69_3) →
L69 v33 0)))) → L52 x52_2 y52_ya_insides y52_ya_inBits) →
L52 0 f2 y2_ya_inBits)) ∧
(z_g y_isClosed k = 0 → Q f2 f4 y2_ya_inBits))))) ∧
(x2_2 < 20 → (0 ≤ (20 * k) + x2_2 ∧ (20 * k) + x2_2 < 8000) ∧ (∀ f57 : Nat → Int64, f57 = z_sl y2_ya_inBits ((20 * k) + x2_2) 0 → L2 (x2_2 + 1) f57))) → L2 x2_2 y2_ya_inBits) →
L2 0 y_inBits)
set_option maxHeartbeats 4000000 in
set_option maxRecDepth 100000 in
theorem wk_X8_surrounds (l : Launch) (D : va_G) (cA : Nat → ClassId) (y : Nat) (y_space : Nat) (y_offset : Nat) (y_length : Nat) (y_units : Nat) (y_isThere : Nat) (y_levels : Int) (y_level : Nat) (y_lines : Int) (y_lineLevel : Nat) (ya_lineUnits : Nat) (y_lineUnits : Nat → Int32) (ya_lineFrom : Nat) (y_lineFrom : Nat → Int32) (ya_lineMany : Nat) (y_lineMany : Nat → Int32) (ya_isClosed : Nat) (y_isClosed : Nat → Int32) (ya_insides : Nat) (y_insides : Nat → Int32) (y_parent : Nat) (ya_isHigh : Nat) (y_isHigh : Nat → Int32) (ya_inBits : Nat) (y_inBits : Nat → Int64) (y_sides : Int) (ya_side : Nat) (y_side : Nat → Int32) (ya_sideA : Nat) (y_sideA : Nat → Int32) (y_sideB : Nat) (y_lineSpace : Int) (ya_wasThere : Nat) (y_wasThere : Nat → Int32) (y_leads : Nat) (y_isLed : Nat) (y_isOn : Nat) (y_goesTo : Nat) (y_stream : Nat) (y_filled : Nat) (y_isDone : Nat) (y_isReached : Nat) (y_newUnits : Nat) (y_isNew : Nat) (k : Int) (h_y_levels : z_in y_levels) (h_y_lines : z_in y_lines) (h_y_sides : z_in y_sides) (h_y_lineSpace : z_in y_lineSpace) (h_k : z_in k) (Q : (Nat → Int32) → (Nat → Int32) → (Nat → Int64) → Prop) (hv : vc_X8_surrounds y_lineUnits y_lineFrom y_lineMany y_isClosed y_insides y_isHigh y_inBits y_side y_sideA y_wasThere k Q) : Met l yX8_surrounds wsX8_surrounds ({ frames := 1, cells := 0, slots := 0, locals := 22 } : Room) (va_Pc [.ref y, .int (z_i k)] (z_M0 D cA [(y, .inr (6, [.ref y_space, .ref y_offset, .ref y_length, .ref y_units, .ref y_isThere, .int (z_i y_levels), .ref y_level, .int (z_i y_lines), .ref y_lineLevel, .ref ya_lineUnits, .ref ya_lineFrom, .ref ya_lineMany, .ref ya_isClosed, .ref ya_insides, .ref y_parent, .ref ya_isHigh, .ref ya_inBits, .int (z_i y_sides), .ref ya_side, .ref ya_sideA, .ref y_sideB, .int (z_i y_lineSpace), .ref ya_wasThere, .ref y_leads, .ref y_isLed, .ref y_isOn, .ref y_goesTo, .ref y_stream, .ref y_filled, .ref y_isDone, .ref y_isReached, .ref y_newUnits, .ref y_isNew])), (ya_lineUnits, .inl (cA 1, 400, .inl y_lineUnits)), (ya_lineFrom, .inl (cA 1, 400, .inl y_lineFrom)), (ya_lineMany, .inl (cA 1, 400, .inl y_lineMany)), (ya_isClosed, .inl (cA 3, 400, .inl y_isClosed)), (ya_insides, .inl (cA 1, 400, .inl y_insides)), (ya_isHigh, .inl (cA 3, 400, .inl y_isHigh)), (ya_inBits, .inl (cA 2, 8000, .inr (.inl y_inBits))), (ya_side, .inl (cA 1, 8000, .inl y_side)), (ya_sideA, .inl (cA 1, 8000, .inl y_sideA)), (ya_wasThere, .inl (cA 3, 1280, .inl y_wasThere))])) (va_Qv (fun (u : (Nat → Int32) × (Nat → Int32) × (Nat → Int64)) => Q u.1 u.2.1 u.2.2) (fun (u : (Nat → Int32) × (Nat → Int32) × (Nat → Int64)) t => va_P D vwCl [(y, .inr (6, [.ref y_space, .ref y_offset, .ref y_length, .ref y_units, .ref y_isThere, .int (z_i y_levels), .ref y_level, .int (z_i y_lines), .ref y_lineLevel, .ref ya_lineUnits, .ref ya_lineFrom, .ref ya_lineMany, .ref ya_isClosed, .ref ya_insides, .ref y_parent, .ref ya_isHigh, .ref ya_inBits, .int (z_i y_sides), .ref ya_side, .ref ya_sideA, .ref y_sideB, .int (z_i y_lineSpace), .ref ya_wasThere, .ref y_leads, .ref y_isLed, .ref y_isOn, .ref y_goesTo, .ref y_stream, .ref y_filled, .ref y_isDone, .ref y_isReached, .ref y_newUnits, .ref y_isNew])), (ya_lineUnits, .inl (cA 1, 400, .inl y_lineUnits)), (ya_lineFrom, .inl (cA 1, 400, .inl y_lineFrom)), (ya_lineMany, .inl (cA 1, 400, .inl y_lineMany)), (ya_isClosed, .inl (cA 3, 400, .inl y_isClosed)), (ya_insides, .inl (cA 1, 400, .inl u.1)), (ya_isHigh, .inl (cA 3, 400, .inl u.2.1)), (ya_inBits, .inl (cA 2, 8000, .inr (.inl u.2.2))), (ya_side, .inl (cA 1, 8000, .inl y_side)), (ya_sideA, .inl (cA 1, 8000, .inl y_sideA)), (ya_wasThere, .inl (cA 3, 1280, .inl y_wasThere))] t.heap) (z_A [(y, .inr (6, [.ref y_space, .ref y_offset, .ref y_length, .ref y_units, .ref y_isThere, .int (z_i y_levels), .ref y_level, .int (z_i y_lines), .ref y_lineLevel, .ref ya_lineUnits, .ref ya_lineFrom, .ref ya_lineMany, .ref ya_isClosed, .ref ya_insides, .ref y_parent, .ref ya_isHigh, .ref ya_inBits, .int (z_i y_sides), .ref ya_side, .ref ya_sideA, .ref y_sideB, .int (z_i y_lineSpace), .ref ya_wasThere, .ref y_leads, .ref y_isLed, .ref y_isOn, .ref y_goesTo, .ref y_stream, .ref y_filled, .ref y_isDone, .ref y_isReached, .ref y_newUnits, .ref y_isNew])), (ya_lineUnits, .inl (cA 1, 400, .inl y_lineUnits)), (ya_lineFrom, .inl (cA 1, 400, .inl y_lineFrom)), (ya_lineMany, .inl (cA 1, 400, .inl y_lineMany)), (ya_isClosed, .inl (cA 3, 400, .inl y_isClosed)), (ya_insides, .inl (cA 1, 400, .inl y_insides)), (ya_isHigh, .inl (cA 3, 400, .inl y_isHigh)), (ya_inBits, .inl (cA 2, 8000, .inr (.inl y_inBits))), (ya_side, .inl (cA 1, 8000, .inl y_side)), (ya_sideA, .inl (cA 1, 8000, .inl y_sideA)), (ya_wasThere, .inl (cA 3, 1280, .inl y_wasThere))])) 0 0 (z_A [(y, .inr (6, [.ref y_space, .ref y_offset, .ref y_length, .ref y_units, .ref y_isThere, .int (z_i y_levels), .ref y_level, .int (z_i y_lines), .ref y_lineLevel, .ref ya_lineUnits, .ref ya_lineFrom, .ref ya_lineMany, .ref ya_isClosed, .ref ya_insides, .ref y_parent, .ref ya_isHigh, .ref ya_inBits, .int (z_i y_sides), .ref ya_side, .ref ya_sideA, .ref y_sideB, .int (z_i y_lineSpace), .ref ya_wasThere, .ref y_leads, .ref y_isLed, .ref y_isOn, .ref y_goesTo, .ref y_stream, .ref y_filled, .ref y_isDone, .ref y_isReached, .ref y_newUnits, .ref y_isNew])), (ya_lineUnits, .inl (cA 1, 400, .inl y_lineUnits)), (ya_lineFrom, .inl (cA 1, 400, .inl y_lineFrom)), (ya_lineMany, .inl (cA 1, 400, .inl y_lineMany)), (ya_isClosed, .inl (cA 3, 400, .inl y_isClosed)), (ya_insides, .inl (cA 1, 400, .inl y_insides)), (ya_isHigh, .inl (cA 3, 400, .inl y_isHigh)), (ya_inBits, .inl (cA 2, 8000, .inr (.inl y_inBits))), (ya_side, .inl (cA 1, 8000, .inl y_side)), (ya_sideA, .inl (cA 1, 8000, .inl y_sideA)), (ya_wasThere, .inl (cA 3, 1280, .inl y_wasThere))]) := by
  unfold vc_X8_surrounds at hv
  refine Met.ofW (cc := cX8_surrounds) (maxL := 6) (ret := none) (by decide +kernel) rfl ?_
  intro p e s m args below meth c s₁ B hml hv0
  obtain ⟨rfl, hK, hP, hD0⟩ := hv0
  have hx := B.exec
  have hb := B.bytes
  have hr := B.returns
  have hts := atoms_spec (ws := wsX8_surrounds) B.pre
  have hown : s.vm.findClass RX8 = some m.cls := findClass_of_methodNamed B.named
  have hlocks := B.notSynchronized
  have hD := z_D_self hD0
  generalize hAe : z_A [(y, .inr (6, [.ref y_space, .ref y_offset, .ref y_length, .ref y_units, .ref y_isThere, .int (z_i y_levels), .ref y_level, .int (z_i y_lines), .ref y_lineLevel, .ref ya_lineUnits, .ref ya_lineFrom, .ref ya_lineMany, .ref ya_isClosed, .ref ya_insides, .ref y_parent, .ref ya_isHigh, .ref ya_inBits, .int (z_i y_sides), .ref ya_side, .ref ya_sideA, .ref y_sideB, .int (z_i y_lineSpace), .ref ya_wasThere, .ref y_leads, .ref y_isLed, .ref y_isOn, .ref y_goesTo, .ref y_stream, .ref y_filled, .ref y_isDone, .ref y_isReached, .ref y_newUnits, .ref y_isNew])), (ya_lineUnits, .inl (cA 1, 400, .inl y_lineUnits)), (ya_lineFrom, .inl (cA 1, 400, .inl y_lineFrom)), (ya_lineMany, .inl (cA 1, 400, .inl y_lineMany)), (ya_isClosed, .inl (cA 3, 400, .inl y_isClosed)), (ya_insides, .inl (cA 1, 400, .inl y_insides)), (ya_isHigh, .inl (cA 3, 400, .inl y_isHigh)), (ya_inBits, .inl (cA 2, 8000, .inr (.inl y_inBits))), (ya_side, .inl (cA 1, 8000, .inl y_side)), (ya_sideA, .inl (cA 1, 8000, .inl y_sideA)), (ya_wasThere, .inl (cA 3, 1280, .inl y_wasThere))] = A at *
  have hS : va_S A s.heap s.heap [] := va_S.rf
  have hl := lv_entry ([.ref y, .int (z_i k)]) (n := 6) (Nat.le_of_ble_eq_true rfl)
  rw [lg_entry_eq]
  generalize (lg_sl ([.ref y, .int (z_i k)]) ++ List.replicate (6 - (lg_sl ([.ref y, .int (z_i k)])).length) Slot.unset).toArray = ls at hl ⊢
  have hl : lv_has ls 6 [(0, .ref y), (1, .int (z_i k))] := hl
  refine lv_iconst (v := z_i 0) hx hb dX8_surrounds_0 rfl ?_
  refine lv_istore_n (lv' := [(2, .int (z_i 0)), (0, .ref y), (1, .int (z_i k))]) hx hb dX8_surrounds_1 rfl hl (by decide) rfl (fun ls hl => ?_)
  refine hv (fun (x2_2 : Int) (y2_ya_inBits : Nat → Int64) => ∀ (H : Heap) (locs : List Loc) (ls : Array Slot), va_P D vwCl [(y, .inr (6, [.ref y_space, .ref y_offset, .ref y_length, .ref y_units, .ref y_isThere, .int (z_i y_levels), .ref y_level, .int (z_i y_lines), .ref y_lineLevel, .ref ya_lineUnits, .ref ya_lineFrom, .ref ya_lineMany, .ref ya_isClosed, .ref ya_insides, .ref y_parent, .ref ya_isHigh, .ref ya_inBits, .int (z_i y_sides), .ref ya_side, .ref ya_sideA, .ref y_sideB, .int (z_i y_lineSpace), .ref ya_wasThere, .ref y_leads, .ref y_isLed, .ref y_isOn, .ref y_goesTo, .ref y_stream, .ref y_filled, .ref y_isDone, .ref y_isReached, .ref y_newUnits, .ref y_isNew])), (ya_lineUnits, .inl (cA 1, 400, .inl y_lineUnits)), (ya_lineFrom, .inl (cA 1, 400, .inl y_lineFrom)), (ya_lineMany, .inl (cA 1, 400, .inl y_lineMany)), (ya_isClosed, .inl (cA 3, 400, .inl y_isClosed)), (ya_insides, .inl (cA 1, 400, .inl y_insides)), (ya_isHigh, .inl (cA 3, 400, .inl y_isHigh)), (ya_inBits, .inl (cA 2, 8000, .inr (.inl y2_ya_inBits))), (ya_side, .inl (cA 1, 8000, .inl y_side)), (ya_sideA, .inl (cA 1, 8000, .inl y_sideA)), (ya_wasThere, .inl (cA 3, 1280, .inl y_wasThere))] H → va_D A [(y, .inr (6, [.ref y_space, .ref y_offset, .ref y_length, .ref y_units, .ref y_isThere, .int (z_i y_levels), .ref y_level, .int (z_i y_lines), .ref y_lineLevel, .ref ya_lineUnits, .ref ya_lineFrom, .ref ya_lineMany, .ref ya_isClosed, .ref ya_insides, .ref y_parent, .ref ya_isHigh, .ref ya_inBits, .int (z_i y_sides), .ref ya_side, .ref ya_sideA, .ref y_sideB, .int (z_i y_lineSpace), .ref ya_wasThere, .ref y_leads, .ref y_isLed, .ref y_isOn, .ref y_goesTo, .ref y_stream, .ref y_filled, .ref y_isDone, .ref y_isReached, .ref y_newUnits, .ref y_isNew])), (ya_lineUnits, .inl (cA 1, 400, .inl y_lineUnits)), (ya_lineFrom, .inl (cA 1, 400, .inl y_lineFrom)), (ya_lineMany, .inl (cA 1, 400, .inl y_lineMany)), (ya_isClosed, .inl (cA 3, 400, .inl y_isClosed)), (ya_insides, .inl (cA 1, 400, .inl y_insides)), (ya_isHigh, .inl (cA 3, 400, .inl y_isHigh)), (ya_inBits, .inl (cA 2, 8000, .inr (.inl y2_ya_inBits))), (ya_side, .inl (cA 1, 8000, .inl y_side)), (ya_sideA, .inl (cA 1, 8000, .inl y_sideA)), (ya_wasThere, .inl (cA 3, 1280, .inl y_wasThere))] → va_S A s.heap H locs → lv_has ls 6 [(2, .int (z_i x2_2)), (0, .ref y), (1, .int (z_i k))] → W p l e _ s m _ below meth c H locs 0 0 _ (F0 m 2 ls [])) ?_ _ _ ls hP hD hS (lv_sub hl [0, 1, 2] rfl)
  intro x2_2 y2_ya_inBits h_x2_2 hv H locs ls hP hD hS hl
  refine lv_iload_n hx hb dX8_surrounds_2 rfl (lv_at hl 0 rfl) ?_
  refine lv_bipush (v := z_i 20) hx hb dX8_surrounds_3 (by decide) ?_
  refine lx_icmp_ge (tgt := 26) hx hb dX8_surrounds_5 (by decide) h_x2_2 (show z_in 20 from ⟨by decide, by decide⟩) (fun hc => ?_) (fun hc => ?_)
  · have hv := hv.1 hc
    refine lv_aload_n hx hb dX8_surrounds_26 rfl (lv_at hl 1 rfl) ?_
    refine va_get (D := D) (ci := 6) (v := .ref ya_insides) (C := RX8) (T := TX8) (N := 33) hx hb hts (fun w h => List.mem_cons_of_mem _ (List.mem_append_right _ h)) hown hK hP 0 rfl rfl 13 (by decide) (hts (.fieldLink RX8 44 "ContourSheetsModel" "insides" "[I") (by decide +kernel)) (fun _ h9 => h9) rfl dX8_surrounds_27 ?_
    refine lv_iload_n hx hb dX8_surrounds_30 rfl (lv_at hl 2 rfl) ?_
    refine lv_iconst (v := z_i 0) hx hb dX8_surrounds_31 rfl ?_
    obtain ⟨hi1, hv⟩ := hv
    refine lx_iast hx hb hK hP hD hS 5 1 rfl rfl (by decide) hi1.1 hi1.2 dX8_surrounds_32 (fun H locs hP hD hS => ?_)
    obtain ⟨f2, hy3⟩ : ∃ y : Nat → Int32, y = z_s y_insides k 0 := ⟨_, rfl⟩
    have hv := hv f2 hy3
    have hP : va_P D vwCl [(y, .inr (6, [.ref y_space, .ref y_offset, .ref y_length, .ref y_units, .ref y_isThere, .int (z_i y_levels), .ref y_level, .int (z_i y_lines), .ref y_lineLevel, .ref ya_lineUnits, .ref ya_lineFrom, .ref ya_lineMany, .ref ya_isClosed, .ref ya_insides, .ref y_parent, .ref ya_isHigh, .ref ya_inBits, .int (z_i y_sides), .ref ya_side, .ref ya_sideA, .ref y_sideB, .int (z_i y_lineSpace), .ref ya_wasThere, .ref y_leads, .ref y_isLed, .ref y_isOn, .ref y_goesTo, .ref y_stream, .ref y_filled, .ref y_isDone, .ref y_isReached, .ref y_newUnits, .ref y_isNew])), (ya_lineUnits, .inl (cA 1, 400, .inl y_lineUnits)), (ya_lineFrom, .inl (cA 1, 400, .inl y_lineFrom)), (ya_lineMany, .inl (cA 1, 400, .inl y_lineMany)), (ya_isClosed, .inl (cA 3, 400, .inl y_isClosed)), (ya_insides, .inl (cA 1, 400, .inl f2)), (ya_isHigh, .inl (cA 3, 400, .inl y_isHigh)), (ya_inBits, .inl (cA 2, 8000, .inr (.inl y2_ya_inBits))), (ya_side, .inl (cA 1, 8000, .inl y_side)), (ya_sideA, .inl (cA 1, 8000, .inl y_sideA)), (ya_wasThere, .inl (cA 3, 1280, .inl y_wasThere))] H := by rw [hy3]; exact hP
    have hD : va_D A [(y, .inr (6, [.ref y_space, .ref y_offset, .ref y_length, .ref y_units, .ref y_isThere, .int (z_i y_levels), .ref y_level, .int (z_i y_lines), .ref y_lineLevel, .ref ya_lineUnits, .ref ya_lineFrom, .ref ya_lineMany, .ref ya_isClosed, .ref ya_insides, .ref y_parent, .ref ya_isHigh, .ref ya_inBits, .int (z_i y_sides), .ref ya_side, .ref ya_sideA, .ref y_sideB, .int (z_i y_lineSpace), .ref ya_wasThere, .ref y_leads, .ref y_isLed, .ref y_isOn, .ref y_goesTo, .ref y_stream, .ref y_filled, .ref y_isDone, .ref y_isReached, .ref y_newUnits, .ref y_isNew])), (ya_lineUnits, .inl (cA 1, 400, .inl y_lineUnits)), (ya_lineFrom, .inl (cA 1, 400, .inl y_lineFrom)), (ya_lineMany, .inl (cA 1, 400, .inl y_lineMany)), (ya_isClosed, .inl (cA 3, 400, .inl y_isClosed)), (ya_insides, .inl (cA 1, 400, .inl f2)), (ya_isHigh, .inl (cA 3, 400, .inl y_isHigh)), (ya_inBits, .inl (cA 2, 8000, .inr (.inl y2_ya_inBits))), (ya_side, .inl (cA 1, 8000, .inl y_side)), (ya_sideA, .inl (cA 1, 8000, .inl y_sideA)), (ya_wasThere, .inl (cA 3, 1280, .inl y_wasThere))] := by rw [hy3]; exact hD
    refine lv_aload_n hx hb dX8_surrounds_33 rfl (lv_at hl 1 rfl) ?_
    refine va_get (D := D) (ci := 6) (v := .ref ya_isHigh) (C := RX8) (T := TX8) (N := 33) hx hb hts (fun w h => List.mem_cons_of_mem _ (List.mem_append_right _ h)) hown hK hP 0 rfl rfl 15 (by decide) (hts (.fieldLink RX8 50 "ContourSheetsModel" "isHigh" "[Z") (by decide +kernel)) (fun _ h9 => h9) rfl dX8_surrounds_34 ?_
    refine lv_iload_n hx hb dX8_surrounds_37 rfl (lv_at hl 2 rfl) ?_
    refine lv_iconst (v := z_i 0) hx hb dX8_surrounds_38 rfl ?_
    refine lx_zast hx hb hK hP hD hS 6 3 rfl rfl (by decide) hi1.1 hi1.2 (by decide) dX8_surrounds_39 (fun H locs hP hD hS => ?_)
    obtain ⟨f4, hy5⟩ : ∃ y : Nat → Int32, y = z_s y_isHigh k 0 := ⟨_, rfl⟩
    have hv := hv f4 hy5
    have hP : va_P D vwCl [(y, .inr (6, [.ref y_space, .ref y_offset, .ref y_length, .ref y_units, .ref y_isThere, .int (z_i y_levels), .ref y_level, .int (z_i y_lines), .ref y_lineLevel, .ref ya_lineUnits, .ref ya_lineFrom, .ref ya_lineMany, .ref ya_isClosed, .ref ya_insides, .ref y_parent, .ref ya_isHigh, .ref ya_inBits, .int (z_i y_sides), .ref ya_side, .ref ya_sideA, .ref y_sideB, .int (z_i y_lineSpace), .ref ya_wasThere, .ref y_leads, .ref y_isLed, .ref y_isOn, .ref y_goesTo, .ref y_stream, .ref y_filled, .ref y_isDone, .ref y_isReached, .ref y_newUnits, .ref y_isNew])), (ya_lineUnits, .inl (cA 1, 400, .inl y_lineUnits)), (ya_lineFrom, .inl (cA 1, 400, .inl y_lineFrom)), (ya_lineMany, .inl (cA 1, 400, .inl y_lineMany)), (ya_isClosed, .inl (cA 3, 400, .inl y_isClosed)), (ya_insides, .inl (cA 1, 400, .inl f2)), (ya_isHigh, .inl (cA 3, 400, .inl f4)), (ya_inBits, .inl (cA 2, 8000, .inr (.inl y2_ya_inBits))), (ya_side, .inl (cA 1, 8000, .inl y_side)), (ya_sideA, .inl (cA 1, 8000, .inl y_sideA)), (ya_wasThere, .inl (cA 3, 1280, .inl y_wasThere))] H := by rw [hy5]; exact hP
    have hD : va_D A [(y, .inr (6, [.ref y_space, .ref y_offset, .ref y_length, .ref y_units, .ref y_isThere, .int (z_i y_levels), .ref y_level, .int (z_i y_lines), .ref y_lineLevel, .ref ya_lineUnits, .ref ya_lineFrom, .ref ya_lineMany, .ref ya_isClosed, .ref ya_insides, .ref y_parent, .ref ya_isHigh, .ref ya_inBits, .int (z_i y_sides), .ref ya_side, .ref ya_sideA, .ref y_sideB, .int (z_i y_lineSpace), .ref ya_wasThere, .ref y_leads, .ref y_isLed, .ref y_isOn, .ref y_goesTo, .ref y_stream, .ref y_filled, .ref y_isDone, .ref y_isReached, .ref y_newUnits, .ref y_isNew])), (ya_lineUnits, .inl (cA 1, 400, .inl y_lineUnits)), (ya_lineFrom, .inl (cA 1, 400, .inl y_lineFrom)), (ya_lineMany, .inl (cA 1, 400, .inl y_lineMany)), (ya_isClosed, .inl (cA 3, 400, .inl y_isClosed)), (ya_insides, .inl (cA 1, 400, .inl f2)), (ya_isHigh, .inl (cA 3, 400, .inl f4)), (ya_inBits, .inl (cA 2, 8000, .inr (.inl y2_ya_inBits))), (ya_side, .inl (cA 1, 8000, .inl y_side)), (ya_sideA, .inl (cA 1, 8000, .inl y_sideA)), (ya_wasThere, .inl (cA 3, 1280, .inl y_wasThere))] := by rw [hy5]; exact hD
    refine lv_aload_n hx hb dX8_surrounds_40 rfl (lv_at hl 1 rfl) ?_
    refine va_get (D := D) (ci := 6) (v := .ref ya_isClosed) (C := RX8) (T := TX8) (N := 33) hx hb hts (fun w h => List.mem_cons_of_mem _ (List.mem_append_right _ h)) hown hK hP 0 rfl rfl 12 (by decide) (hts (.fieldLink RX8 41 "ContourSheetsModel" "isClosed" "[Z") (by decide +kernel)) (fun _ h9 => h9) rfl dX8_surrounds_41 ?_
    refine lv_iload_n hx hb dX8_surrounds_44 rfl (lv_at hl 2 rfl) ?_
    refine lx_zald hx hb hK hP 4 3 rfl rfl (by decide) hi1.1 hi1.2 dX8_surrounds_45 ?_
    refine lx_if_ne (tgt := 50) hx hb dX8_surrounds_46 (by decide) (z_in_g _ _) (fun hc => ?_) (fun hc => ?_)
    · have hv := hv.1 hc
      refine lv_iconst (v := z_i 0) hx hb dX8_surrounds_50 rfl ?_
      refine lv_istore_n (lv' := [(2, .int (z_i 0)), (0, .ref y), (1, .int (z_i k))]) hx hb dX8_surrounds_51 rfl hl (by decide) rfl (fun ls hl => ?_)
      refine hv (fun (x52_2 : Int) (y52_ya_insides : Nat → Int32) (y52_ya_inBits : Nat → Int64) => ∀ (H : Heap) (locs : List Loc) (ls : Array Slot), va_P D vwCl [(y, .inr (6, [.ref y_space, .ref y_offset, .ref y_length, .ref y_units, .ref y_isThere, .int (z_i y_levels), .ref y_level, .int (z_i y_lines), .ref y_lineLevel, .ref ya_lineUnits, .ref ya_lineFrom, .ref ya_lineMany, .ref ya_isClosed, .ref ya_insides, .ref y_parent, .ref ya_isHigh, .ref ya_inBits, .int (z_i y_sides), .ref ya_side, .ref ya_sideA, .ref y_sideB, .int (z_i y_lineSpace), .ref ya_wasThere, .ref y_leads, .ref y_isLed, .ref y_isOn, .ref y_goesTo, .ref y_stream, .ref y_filled, .ref y_isDone, .ref y_isReached, .ref y_newUnits, .ref y_isNew])), (ya_lineUnits, .inl (cA 1, 400, .inl y_lineUnits)), (ya_lineFrom, .inl (cA 1, 400, .inl y_lineFrom)), (ya_lineMany, .inl (cA 1, 400, .inl y_lineMany)), (ya_isClosed, .inl (cA 3, 400, .inl y_isClosed)), (ya_insides, .inl (cA 1, 400, .inl y52_ya_insides)), (ya_isHigh, .inl (cA 3, 400, .inl f4)), (ya_inBits, .inl (cA 2, 8000, .inr (.inl y52_ya_inBits))), (ya_side, .inl (cA 1, 8000, .inl y_side)), (ya_sideA, .inl (cA 1, 8000, .inl y_sideA)), (ya_wasThere, .inl (cA 3, 1280, .inl y_wasThere))] H → va_D A [(y, .inr (6, [.ref y_space, .ref y_offset, .ref y_length, .ref y_units, .ref y_isThere, .int (z_i y_levels), .ref y_level, .int (z_i y_lines), .ref y_lineLevel, .ref ya_lineUnits, .ref ya_lineFrom, .ref ya_lineMany, .ref ya_isClosed, .ref ya_insides, .ref y_parent, .ref ya_isHigh, .ref ya_inBits, .int (z_i y_sides), .ref ya_side, .ref ya_sideA, .ref y_sideB, .int (z_i y_lineSpace), .ref ya_wasThere, .ref y_leads, .ref y_isLed, .ref y_isOn, .ref y_goesTo, .ref y_stream, .ref y_filled, .ref y_isDone, .ref y_isReached, .ref y_newUnits, .ref y_isNew])), (ya_lineUnits, .inl (cA 1, 400, .inl y_lineUnits)), (ya_lineFrom, .inl (cA 1, 400, .inl y_lineFrom)), (ya_lineMany, .inl (cA 1, 400, .inl y_lineMany)), (ya_isClosed, .inl (cA 3, 400, .inl y_isClosed)), (ya_insides, .inl (cA 1, 400, .inl y52_ya_insides)), (ya_isHigh, .inl (cA 3, 400, .inl f4)), (ya_inBits, .inl (cA 2, 8000, .inr (.inl y52_ya_inBits))), (ya_side, .inl (cA 1, 8000, .inl y_side)), (ya_sideA, .inl (cA 1, 8000, .inl y_sideA)), (ya_wasThere, .inl (cA 3, 1280, .inl y_wasThere))] → va_S A s.heap H locs → lv_has ls 6 [(2, .int (z_i x52_2)), (0, .ref y), (1, .int (z_i k))] → W p l e _ s m _ below meth c H locs 0 0 _ (F0 m 52 ls [])) ?_ _ _ ls hP hD hS (lv_sub hl [0, 1, 2] rfl)
      intro x52_2 y52_ya_insides y52_ya_inBits h_x52_2 hv H locs ls hP hD hS hl
      refine lv_iload_n hx hb dX8_surrounds_52 rfl (lv_at hl 0 rfl) ?_
      refine lv_sipush (v := z_i 1280) hx hb dX8_surrounds_53 (by decide) ?_
      refine lx_icmp_ge (tgt := 209) hx hb dX8_surrounds_56 (by decide) h_x52_2 (show z_in 1280 from ⟨by decide, by decide⟩) (fun hc => ?_) (fun hc => ?_)
      · have hv := hv.1 hc
        refine lv_aload_n hx hb dX8_surrounds_209 rfl (lv_at hl 1 rfl) ?_
        refine va_get (D := D) (ci := 6) (v := .ref ya_lineFrom) (C := RX8) (T := TX8) (N := 33) hx hb hts (fun w h => List.mem_cons_of_mem _ (List.mem_append_right _ h)) hown hK hP 0 rfl rfl 10 (by decide) (hts (.fieldLink RX8 35 "ContourSheetsModel" "lineFrom" "[I") (by decide +kernel)) (fun _ h9 => h9) rfl dX8_surrounds_210 ?_
        refine lv_iload_n hx hb dX8_surrounds_213 rfl (lv_at hl 2 rfl) ?_
        refine lx_iald hx hb hK hP 2 1 rfl rfl (by decide) hi1.1 hi1.2 dX8_surrounds_214 ?_
        refine lx_topi (fun v6 hy7 => ?_)
        have hv := hv v6 hy7
        have h_v6 : z_in v6 := by rw [hy7]; exact (z_in_g _ _)
        refine lv_istore_n (lv' := [(2, .int (z_i v6)), (0, .ref y), (1, .int (z_i k))]) hx hb dX8_surrounds_215 rfl hl (by decide) rfl (fun ls hl => ?_)
        refine lv_aload_n hx hb dX8_surrounds_216 rfl (lv_at hl 1 rfl) ?_
        refine va_get (D := D) (ci := 6) (v := .ref ya_side) (C := RX8) (T := TX8) (N := 33) hx hb hts (fun w h => List.mem_cons_of_mem _ (List.mem_append_right _ h)) hown hK hP 0 rfl rfl 18 (by decide) (hts (.fieldLink RX8 57 "ContourSheetsModel" "side" "[I") (by decide +kernel)) (fun _ h9 => h9) rfl dX8_surrounds_217 ?_
        refine lv_iload_n hx hb dX8_surrounds_220 rfl (lv_at hl 0 rfl) ?_
        obtain ⟨hi8, hv⟩ := hv
        refine lx_iald hx hb hK hP 8 1 rfl rfl (by decide) hi8.1 hi8.2 dX8_surrounds_221 ?_
        refine lv_iconst (v := z_i 2) hx hb dX8_surrounds_222 rfl ?_
        refine lx_idiv hx hb dX8_surrounds_223 (z_in_g _ _) (show z_in 2 from ⟨by decide, by decide⟩) (by decide) ?_
        obtain ⟨hr10, hv⟩ := hv
        refine lx_topi (fun v9 hy11 => ?_)
        have hv := hv v9 hy11
        have h_v9 : z_in v9 := by rw [hy11]; exact hr10
        refine lv_istore_n (lv' := [(3, .int (z_i v9)), (2, .int (z_i v6)), (0, .ref y), (1, .int (z_i k))]) hx hb dX8_surrounds_224 rfl hl (by decide) rfl (fun ls hl => ?_)
        refine lv_aload_n hx hb dX8_surrounds_225 rfl (lv_at hl 2 rfl) ?_
        refine va_get (D := D) (ci := 6) (v := .ref ya_sideA) (C := RX8) (T := TX8) (N := 33) hx hb hts (fun w h => List.mem_cons_of_mem _ (List.mem_append_right _ h)) hown hK hP 0 rfl rfl 19 (by decide) (hts (.fieldLink RX8 60 "ContourSheetsModel" "sideA" "[I") (by decide +kernel)) (fun _ h9 => h9) rfl dX8_surrounds_226 ?_
        refine lv_iload_n hx hb dX8_surrounds_229 rfl (lv_at hl 1 rfl) ?_
        refine lx_iald hx hb hK hP 9 1 rfl rfl (by decide) hi8.1 hi8.2 dX8_surrounds_230 ?_
        refine lv_aload_n hx hb dX8_surrounds_231 rfl (lv_at hl 2 rfl) ?_
        refine va_get (D := D) (ci := 6) (v := .ref ya_lineUnits) (C := RX8) (T := TX8) (N := 33) hx hb hts (fun w h => List.mem_cons_of_mem _ (List.mem_append_right _ h)) hown hK hP 0 rfl rfl 9 (by decide) (hts (.fieldLink RX8 32 "ContourSheetsModel" "lineUnits" "[I") (by decide +kernel)) (fun _ h9 => h9) rfl dX8_surrounds_232 ?_
        refine lv_iload_n hx hb dX8_surrounds_235 rfl (lv_at hl 3 rfl) ?_
        refine lx_iald hx hb hK hP 1 1 rfl rfl (by decide) hi1.1 hi1.2 dX8_surrounds_236 ?_
        refine lx_icmp_lt (tgt := 244) hx hb dX8_surrounds_237 (by decide) (z_in_g _ _) (z_in_g _ _) (fun hc => ?_) (fun hc => ?_)
        · have hv := hv.1 hc
          refine lv_aload_n hx hb dX8_surrounds_244 rfl (lv_at hl 2 rfl) ?_
          refine va_get (D := D) (ci := 6) (v := .ref ya_side) (C := RX8) (T := TX8) (N := 33) hx hb hts (fun w h => List.mem_cons_of_mem _ (List.mem_append_right _ h)) hown hK hP 0 rfl rfl 18 (by decide) (hts (.fieldLink RX8 57 "ContourSheetsModel" "side" "[I") (by decide +kernel)) (fun _ h9 => h9) rfl dX8_surrounds_245 ?_
          refine lv_iload_n hx hb dX8_surrounds_248 rfl (lv_at hl 1 rfl) ?_
          refine lx_iald hx hb hK hP 8 1 rfl rfl (by decide) hi8.1 hi8.2 dX8_surrounds_249 ?_
          refine lv_iconst (v := z_i 2) hx hb dX8_surrounds_250 rfl ?_
          refine lx_irem hx hb dX8_surrounds_251 (z_in_g _ _) (show z_in 2 from ⟨by decide, by decide⟩) (by decide) ?_
          obtain ⟨hr12, hv⟩ := hv
          refine lx_if_ne (tgt := 261) hx hb dX8_surrounds_252 (by decide) hr12 (fun hc => ?_) (fun hc => ?_)
          · have hv := hv.1 hc
            refine lv_iload_n hx hb dX8_surrounds_261 rfl (lv_at hl 0 rfl) ?_
            refine lv_bipush (v := z_i 40) hx hb dX8_surrounds_262 (by decide) ?_
            refine lx_iadd hx hb dX8_surrounds_264 ?_
            refine lv_istore (lv' := [(4, .int (z_i (v9 + 40))), (3, .int (z_i v9)), (2, .int (z_i v6)), (0, .ref y), (1, .int (z_i k))]) hx hb dX8_surrounds_265 hl (by decide) rfl (fun ls hl => ?_)
            refine lv_aload_n hx hb dX8_surrounds_267 rfl (lv_at hl 3 rfl) ?_
            refine va_get (D := D) (ci := 6) (v := .ref ya_isHigh) (C := RX8) (T := TX8) (N := 33) hx hb hts (fun w h => List.mem_cons_of_mem _ (List.mem_append_right _ h)) hown hK hP 0 rfl rfl 15 (by decide) (hts (.fieldLink RX8 50 "ContourSheetsModel" "isHigh" "[Z") (by decide +kernel)) (fun _ h9 => h9) rfl dX8_surrounds_268 ?_
            refine lv_iload_n hx hb dX8_surrounds_271 rfl (lv_at hl 4 rfl) ?_
            refine lv_aload_n hx hb dX8_surrounds_272 rfl (lv_at hl 3 rfl) ?_
            refine lv_iload_n hx hb dX8_surrounds_273 rfl (lv_at hl 4 rfl) ?_
            refine lv_iload hx hb dX8_surrounds_274 (lv_at hl 0 rfl) ?_
            obtain ⟨hr13, hv⟩ := hv
            obtain ⟨hp14, hv⟩ := hv
            obtain ⟨hp15, hv⟩ := hv
            refine va_calli (va_runV (As := [.int (z_i k), .int (z_i (v9 + 40))]) (rest := [.int (z_i k), .ref ya_isHigh]) ⟨hx, hb, hml, hown, hts⟩ (mt_X8_isIn l D cA y y_space y_offset y_length y_units y_isThere y_levels y_level y_lines y_lineLevel ya_lineUnits ya_lineFrom ya_lineMany ya_isClosed ya_insides y_parent ya_isHigh ya_inBits y52_ya_inBits y_sides ya_side ya_sideA y_sideB y_lineSpace ya_wasThere y_leads y_isLed y_isOn y_goesTo y_stream y_filled y_isDone y_isReached y_newUnits y_isNew k (v9 + 40) h_y_levels h_y_lines h_y_sides h_y_lineSpace h_k hr13 hp14 hp15) (cwV 2 hts gX8_surrounds_X8_isIn rfl rfl rfl (by decide +kernel) ⟨Nat.le_of_ble_eq_true rfl, Nat.le_of_ble_eq_true rfl⟩) ⟨z_bl0, va_recv hK hP (ci := 6) (q0 := 0) rfl rfl, fun U hU hW => ⟨rfl, z_b0 hK (hP.sub (ws' := [(y, .inr (6, [.ref y_space, .ref y_offset, .ref y_length, .ref y_units, .ref y_isThere, .int (z_i y_levels), .ref y_level, .int (z_i y_lines), .ref y_lineLevel, .ref ya_lineUnits, .ref ya_lineFrom, .ref ya_lineMany, .ref ya_isClosed, .ref ya_insides, .ref y_parent, .ref ya_isHigh, .ref ya_inBits, .int (z_i y_sides), .ref ya_side, .ref ya_sideA, .ref y_sideB, .int (z_i y_lineSpace), .ref ya_wasThere, .ref y_leads, .ref y_isLed, .ref y_isOn, .ref y_goesTo, .ref y_stream, .ref y_filled, .ref y_isDone, .ref y_isReached, .ref y_newUnits, .ref y_isNew])), (ya_inBits, .inl (cA 2, 8000, .inr (.inl y52_ya_inBits)))]) [0, 7] rfl) hU hW⟩⟩ rfl rfl hl.1 rfl (lv_room (Nat.le_of_ble_eq_true rfl)) dX8_surrounds_276 ⟨Nat.zero_le _, Nat.zero_le _⟩) hS (fun q _ h => h.elim) (fun q h => h.elim) (fun r0 u t H locs ht hvm hw hB hz1 hk1 hS => ?_)
            obtain ⟨r16, rfl, h_r16, hw⟩ := hw
            have hP := z_P_all hP hk1
            have hv := hv r16 h_r16 hw
            obtain ⟨hb17, hv⟩ := hv
            refine lx_zast hx hb hK hP hD hS 6 3 rfl rfl (by decide) hi1.1 hi1.2 hb17 dX8_surrounds_279 (fun H locs hP hD hS => ?_)
            obtain ⟨f18, hy19⟩ : ∃ y : Nat → Int32, y = z_s f4 k r16 := ⟨_, rfl⟩
            have hv := hv f18 hy19
            have hP : va_P D vwCl [(y, .inr (6, [.ref y_space, .ref y_offset, .ref y_length, .ref y_units, .ref y_isThere, .int (z_i y_levels), .ref y_level, .int (z_i y_lines), .ref y_lineLevel, .ref ya_lineUnits, .ref ya_lineFrom, .ref ya_lineMany, .ref ya_isClosed, .ref ya_insides, .ref y_parent, .ref ya_isHigh, .ref ya_inBits, .int (z_i y_sides), .ref ya_side, .ref ya_sideA, .ref y_sideB, .int (z_i y_lineSpace), .ref ya_wasThere, .ref y_leads, .ref y_isLed, .ref y_isOn, .ref y_goesTo, .ref y_stream, .ref y_filled, .ref y_isDone, .ref y_isReached, .ref y_newUnits, .ref y_isNew])), (ya_lineUnits, .inl (cA 1, 400, .inl y_lineUnits)), (ya_lineFrom, .inl (cA 1, 400, .inl y_lineFrom)), (ya_lineMany, .inl (cA 1, 400, .inl y_lineMany)), (ya_isClosed, .inl (cA 3, 400, .inl y_isClosed)), (ya_insides, .inl (cA 1, 400, .inl y52_ya_insides)), (ya_isHigh, .inl (cA 3, 400, .inl f18)), (ya_inBits, .inl (cA 2, 8000, .inr (.inl y52_ya_inBits))), (ya_side, .inl (cA 1, 8000, .inl y_side)), (ya_sideA, .inl (cA 1, 8000, .inl y_sideA)), (ya_wasThere, .inl (cA 3, 1280, .inl y_wasThere))] H := by rw [hy19]; exact hP
            have hD : va_D A [(y, .inr (6, [.ref y_space, .ref y_offset, .ref y_length, .ref y_units, .ref y_isThere, .int (z_i y_levels), .ref y_level, .int (z_i y_lines), .ref y_lineLevel, .ref ya_lineUnits, .ref ya_lineFrom, .ref ya_lineMany, .ref ya_isClosed, .ref ya_insides, .ref y_parent, .ref ya_isHigh, .ref ya_inBits, .int (z_i y_sides), .ref ya_side, .ref ya_sideA, .ref y_sideB, .int (z_i y_lineSpace), .ref ya_wasThere, .ref y_leads, .ref y_isLed, .ref y_isOn, .ref y_goesTo, .ref y_stream, .ref y_filled, .ref y_isDone, .ref y_isReached, .ref y_newUnits, .ref y_isNew])), (ya_lineUnits, .inl (cA 1, 400, .inl y_lineUnits)), (ya_lineFrom, .inl (cA 1, 400, .inl y_lineFrom)), (ya_lineMany, .inl (cA 1, 400, .inl y_lineMany)), (ya_isClosed, .inl (cA 3, 400, .inl y_isClosed)), (ya_insides, .inl (cA 1, 400, .inl y52_ya_insides)), (ya_isHigh, .inl (cA 3, 400, .inl f18)), (ya_inBits, .inl (cA 2, 8000, .inr (.inl y52_ya_inBits))), (ya_side, .inl (cA 1, 8000, .inl y_side)), (ya_sideA, .inl (cA 1, 8000, .inl y_sideA)), (ya_wasThere, .inl (cA 3, 1280, .inl y_wasThere))] := by rw [hy19]; exact hD
            exact W.vret hx hb hr (fun t ht hW => ⟨⟨(y52_ya_insides, f18, y52_ya_inBits), rfl, hv, z_pt hP ht⟩, hS.F ht⟩) hS.2.2 dX8_surrounds_280
          · have hv := hv.2 hc
            refine lv_iload_n hx hb dX8_surrounds_255 rfl (lv_at hl 0 rfl) ?_
            refine lv_iconst (v := z_i 1) hx hb dX8_surrounds_256 rfl ?_
            refine lx_iadd hx hb dX8_surrounds_257 ?_
            refine lv_goto (tgt := 265) hx hb dX8_surrounds_258 (by decide) ?_
            refine lv_istore (lv' := [(4, .int (z_i (v9 + 1))), (3, .int (z_i v9)), (2, .int (z_i v6)), (0, .ref y), (1, .int (z_i k))]) hx hb dX8_surrounds_265 hl (by decide) rfl (fun ls hl => ?_)
            refine lv_aload_n hx hb dX8_surrounds_267 rfl (lv_at hl 3 rfl) ?_
            refine va_get (D := D) (ci := 6) (v := .ref ya_isHigh) (C := RX8) (T := TX8) (N := 33) hx hb hts (fun w h => List.mem_cons_of_mem _ (List.mem_append_right _ h)) hown hK hP 0 rfl rfl 15 (by decide) (hts (.fieldLink RX8 50 "ContourSheetsModel" "isHigh" "[Z") (by decide +kernel)) (fun _ h9 => h9) rfl dX8_surrounds_268 ?_
            refine lv_iload_n hx hb dX8_surrounds_271 rfl (lv_at hl 4 rfl) ?_
            refine lv_aload_n hx hb dX8_surrounds_272 rfl (lv_at hl 3 rfl) ?_
            refine lv_iload_n hx hb dX8_surrounds_273 rfl (lv_at hl 4 rfl) ?_
            refine lv_iload hx hb dX8_surrounds_274 (lv_at hl 0 rfl) ?_
            obtain ⟨hr20, hv⟩ := hv
            obtain ⟨hp21, hv⟩ := hv
            obtain ⟨hp22, hv⟩ := hv
            refine va_calli (va_runV (As := [.int (z_i k), .int (z_i (v9 + 1))]) (rest := [.int (z_i k), .ref ya_isHigh]) ⟨hx, hb, hml, hown, hts⟩ (mt_X8_isIn l D cA y y_space y_offset y_length y_units y_isThere y_levels y_level y_lines y_lineLevel ya_lineUnits ya_lineFrom ya_lineMany ya_isClosed ya_insides y_parent ya_isHigh ya_inBits y52_ya_inBits y_sides ya_side ya_sideA y_sideB y_lineSpace ya_wasThere y_leads y_isLed y_isOn y_goesTo y_stream y_filled y_isDone y_isReached y_newUnits y_isNew k (v9 + 1) h_y_levels h_y_lines h_y_sides h_y_lineSpace h_k hr20 hp21 hp22) (cwV 2 hts gX8_surrounds_X8_isIn rfl rfl rfl (by decide +kernel) ⟨Nat.le_of_ble_eq_true rfl, Nat.le_of_ble_eq_true rfl⟩) ⟨z_bl0, va_recv hK hP (ci := 6) (q0 := 0) rfl rfl, fun U hU hW => ⟨rfl, z_b0 hK (hP.sub (ws' := [(y, .inr (6, [.ref y_space, .ref y_offset, .ref y_length, .ref y_units, .ref y_isThere, .int (z_i y_levels), .ref y_level, .int (z_i y_lines), .ref y_lineLevel, .ref ya_lineUnits, .ref ya_lineFrom, .ref ya_lineMany, .ref ya_isClosed, .ref ya_insides, .ref y_parent, .ref ya_isHigh, .ref ya_inBits, .int (z_i y_sides), .ref ya_side, .ref ya_sideA, .ref y_sideB, .int (z_i y_lineSpace), .ref ya_wasThere, .ref y_leads, .ref y_isLed, .ref y_isOn, .ref y_goesTo, .ref y_stream, .ref y_filled, .ref y_isDone, .ref y_isReached, .ref y_newUnits, .ref y_isNew])), (ya_inBits, .inl (cA 2, 8000, .inr (.inl y52_ya_inBits)))]) [0, 7] rfl) hU hW⟩⟩ rfl rfl hl.1 rfl (lv_room (Nat.le_of_ble_eq_true rfl)) dX8_surrounds_276 ⟨Nat.zero_le _, Nat.zero_le _⟩) hS (fun q _ h => h.elim) (fun q h => h.elim) (fun r0 u t H locs ht hvm hw hB hz1 hk1 hS => ?_)
            obtain ⟨r23, rfl, h_r23, hw⟩ := hw
            have hP := z_P_all hP hk1
            have hv := hv r23 h_r23 hw
            obtain ⟨hb24, hv⟩ := hv
            refine lx_zast hx hb hK hP hD hS 6 3 rfl rfl (by decide) hi1.1 hi1.2 hb24 dX8_surrounds_279 (fun H locs hP hD hS => ?_)
            obtain ⟨f25, hy26⟩ : ∃ y : Nat → Int32, y = z_s f4 k r23 := ⟨_, rfl⟩
            have hv := hv f25 hy26
            have hP : va_P D vwCl [(y, .inr (6, [.ref y_space, .ref y_offset, .ref y_length, .ref y_units, .ref y_isThere, .int (z_i y_levels), .ref y_level, .int (z_i y_lines), .ref y_lineLevel, .ref ya_lineUnits, .ref ya_lineFrom, .ref ya_lineMany, .ref ya_isClosed, .ref ya_insides, .ref y_parent, .ref ya_isHigh, .ref ya_inBits, .int (z_i y_sides), .ref ya_side, .ref ya_sideA, .ref y_sideB, .int (z_i y_lineSpace), .ref ya_wasThere, .ref y_leads, .ref y_isLed, .ref y_isOn, .ref y_goesTo, .ref y_stream, .ref y_filled, .ref y_isDone, .ref y_isReached, .ref y_newUnits, .ref y_isNew])), (ya_lineUnits, .inl (cA 1, 400, .inl y_lineUnits)), (ya_lineFrom, .inl (cA 1, 400, .inl y_lineFrom)), (ya_lineMany, .inl (cA 1, 400, .inl y_lineMany)), (ya_isClosed, .inl (cA 3, 400, .inl y_isClosed)), (ya_insides, .inl (cA 1, 400, .inl y52_ya_insides)), (ya_isHigh, .inl (cA 3, 400, .inl f25)), (ya_inBits, .inl (cA 2, 8000, .inr (.inl y52_ya_inBits))), (ya_side, .inl (cA 1, 8000, .inl y_side)), (ya_sideA, .inl (cA 1, 8000, .inl y_sideA)), (ya_wasThere, .inl (cA 3, 1280, .inl y_wasThere))] H := by rw [hy26]; exact hP
            have hD : va_D A [(y, .inr (6, [.ref y_space, .ref y_offset, .ref y_length, .ref y_units, .ref y_isThere, .int (z_i y_levels), .ref y_level, .int (z_i y_lines), .ref y_lineLevel, .ref ya_lineUnits, .ref ya_lineFrom, .ref ya_lineMany, .ref ya_isClosed, .ref ya_insides, .ref y_parent, .ref ya_isHigh, .ref ya_inBits, .int (z_i y_sides), .ref ya_side, .ref ya_sideA, .ref y_sideB, .int (z_i y_lineSpace), .ref ya_wasThere, .ref y_leads, .ref y_isLed, .ref y_isOn, .ref y_goesTo, .ref y_stream, .ref y_filled, .ref y_isDone, .ref y_isReached, .ref y_newUnits, .ref y_isNew])), (ya_lineUnits, .inl (cA 1, 400, .inl y_lineUnits)), (ya_lineFrom, .inl (cA 1, 400, .inl y_lineFrom)), (ya_lineMany, .inl (cA 1, 400, .inl y_lineMany)), (ya_isClosed, .inl (cA 3, 400, .inl y_isClosed)), (ya_insides, .inl (cA 1, 400, .inl y52_ya_insides)), (ya_isHigh, .inl (cA 3, 400, .inl f25)), (ya_inBits, .inl (cA 2, 8000, .inr (.inl y52_ya_inBits))), (ya_side, .inl (cA 1, 8000, .inl y_side)), (ya_sideA, .inl (cA 1, 8000, .inl y_sideA)), (ya_wasThere, .inl (cA 3, 1280, .inl y_wasThere))] := by rw [hy26]; exact hD
            exact W.vret hx hb hr (fun t ht hW => ⟨⟨(y52_ya_insides, f25, y52_ya_inBits), rfl, hv, z_pt hP ht⟩, hS.F ht⟩) hS.2.2 dX8_surrounds_280
        · have hv := hv.2 hc
          refine lv_iload_n hx hb dX8_surrounds_240 rfl (lv_at hl 0 rfl) ?_
          refine lv_goto (tgt := 265) hx hb dX8_surrounds_241 (by decide) ?_
          refine lv_istore (lv' := [(4, .int (z_i v9)), (3, .int (z_i v9)), (2, .int (z_i v6)), (0, .ref y), (1, .int (z_i k))]) hx hb dX8_surrounds_265 hl (by decide) rfl (fun ls hl => ?_)
          refine lv_aload_n hx hb dX8_surrounds_267 rfl (lv_at hl 3 rfl) ?_
          refine va_get (D := D) (ci := 6) (v := .ref ya_isHigh) (C := RX8) (T := TX8) (N := 33) hx hb hts (fun w h => List.mem_cons_of_mem _ (List.mem_append_right _ h)) hown hK hP 0 rfl rfl 15 (by decide) (hts (.fieldLink RX8 50 "ContourSheetsModel" "isHigh" "[Z") (by decide +kernel)) (fun _ h9 => h9) rfl dX8_surrounds_268 ?_
          refine lv_iload_n hx hb dX8_surrounds_271 rfl (lv_at hl 4 rfl) ?_
          refine lv_aload_n hx hb dX8_surrounds_272 rfl (lv_at hl 3 rfl) ?_
          refine lv_iload_n hx hb dX8_surrounds_273 rfl (lv_at hl 4 rfl) ?_
          refine lv_iload hx hb dX8_surrounds_274 (lv_at hl 0 rfl) ?_
          obtain ⟨hp27, hv⟩ := hv
          obtain ⟨hp28, hv⟩ := hv
          refine va_calli (va_runV (As := [.int (z_i k), .int (z_i v9)]) (rest := [.int (z_i k), .ref ya_isHigh]) ⟨hx, hb, hml, hown, hts⟩ (mt_X8_isIn l D cA y y_space y_offset y_length y_units y_isThere y_levels y_level y_lines y_lineLevel ya_lineUnits ya_lineFrom ya_lineMany ya_isClosed ya_insides y_parent ya_isHigh ya_inBits y52_ya_inBits y_sides ya_side ya_sideA y_sideB y_lineSpace ya_wasThere y_leads y_isLed y_isOn y_goesTo y_stream y_filled y_isDone y_isReached y_newUnits y_isNew k v9 h_y_levels h_y_lines h_y_sides h_y_lineSpace h_k h_v9 hp27 hp28) (cwV 2 hts gX8_surrounds_X8_isIn rfl rfl rfl (by decide +kernel) ⟨Nat.le_of_ble_eq_true rfl, Nat.le_of_ble_eq_true rfl⟩) ⟨z_bl0, va_recv hK hP (ci := 6) (q0 := 0) rfl rfl, fun U hU hW => ⟨rfl, z_b0 hK (hP.sub (ws' := [(y, .inr (6, [.ref y_space, .ref y_offset, .ref y_length, .ref y_units, .ref y_isThere, .int (z_i y_levels), .ref y_level, .int (z_i y_lines), .ref y_lineLevel, .ref ya_lineUnits, .ref ya_lineFrom, .ref ya_lineMany, .ref ya_isClosed, .ref ya_insides, .ref y_parent, .ref ya_isHigh, .ref ya_inBits, .int (z_i y_sides), .ref ya_side, .ref ya_sideA, .ref y_sideB, .int (z_i y_lineSpace), .ref ya_wasThere, .ref y_leads, .ref y_isLed, .ref y_isOn, .ref y_goesTo, .ref y_stream, .ref y_filled, .ref y_isDone, .ref y_isReached, .ref y_newUnits, .ref y_isNew])), (ya_inBits, .inl (cA 2, 8000, .inr (.inl y52_ya_inBits)))]) [0, 7] rfl) hU hW⟩⟩ rfl rfl hl.1 rfl (lv_room (Nat.le_of_ble_eq_true rfl)) dX8_surrounds_276 ⟨Nat.zero_le _, Nat.zero_le _⟩) hS (fun q _ h => h.elim) (fun q h => h.elim) (fun r0 u t H locs ht hvm hw hB hz1 hk1 hS => ?_)
          obtain ⟨r29, rfl, h_r29, hw⟩ := hw
          have hP := z_P_all hP hk1
          have hv := hv r29 h_r29 hw
          obtain ⟨hb30, hv⟩ := hv
          refine lx_zast hx hb hK hP hD hS 6 3 rfl rfl (by decide) hi1.1 hi1.2 hb30 dX8_surrounds_279 (fun H locs hP hD hS => ?_)
          obtain ⟨f31, hy32⟩ : ∃ y : Nat → Int32, y = z_s f4 k r29 := ⟨_, rfl⟩
          have hv := hv f31 hy32
          have hP : va_P D vwCl [(y, .inr (6, [.ref y_space, .ref y_offset, .ref y_length, .ref y_units, .ref y_isThere, .int (z_i y_levels), .ref y_level, .int (z_i y_lines), .ref y_lineLevel, .ref ya_lineUnits, .ref ya_lineFrom, .ref ya_lineMany, .ref ya_isClosed, .ref ya_insides, .ref y_parent, .ref ya_isHigh, .ref ya_inBits, .int (z_i y_sides), .ref ya_side, .ref ya_sideA, .ref y_sideB, .int (z_i y_lineSpace), .ref ya_wasThere, .ref y_leads, .ref y_isLed, .ref y_isOn, .ref y_goesTo, .ref y_stream, .ref y_filled, .ref y_isDone, .ref y_isReached, .ref y_newUnits, .ref y_isNew])), (ya_lineUnits, .inl (cA 1, 400, .inl y_lineUnits)), (ya_lineFrom, .inl (cA 1, 400, .inl y_lineFrom)), (ya_lineMany, .inl (cA 1, 400, .inl y_lineMany)), (ya_isClosed, .inl (cA 3, 400, .inl y_isClosed)), (ya_insides, .inl (cA 1, 400, .inl y52_ya_insides)), (ya_isHigh, .inl (cA 3, 400, .inl f31)), (ya_inBits, .inl (cA 2, 8000, .inr (.inl y52_ya_inBits))), (ya_side, .inl (cA 1, 8000, .inl y_side)), (ya_sideA, .inl (cA 1, 8000, .inl y_sideA)), (ya_wasThere, .inl (cA 3, 1280, .inl y_wasThere))] H := by rw [hy32]; exact hP
          have hD : va_D A [(y, .inr (6, [.ref y_space, .ref y_offset, .ref y_length, .ref y_units, .ref y_isThere, .int (z_i y_levels), .ref y_level, .int (z_i y_lines), .ref y_lineLevel, .ref ya_lineUnits, .ref ya_lineFrom, .ref ya_lineMany, .ref ya_isClosed, .ref ya_insides, .ref y_parent, .ref ya_isHigh, .ref ya_inBits, .int (z_i y_sides), .ref ya_side, .ref ya_sideA, .ref y_sideB, .int (z_i y_lineSpace), .ref ya_wasThere, .ref y_leads, .ref y_isLed, .ref y_isOn, .ref y_goesTo, .ref y_stream, .ref y_filled, .ref y_isDone, .ref y_isReached, .ref y_newUnits, .ref y_isNew])), (ya_lineUnits, .inl (cA 1, 400, .inl y_lineUnits)), (ya_lineFrom, .inl (cA 1, 400, .inl y_lineFrom)), (ya_lineMany, .inl (cA 1, 400, .inl y_lineMany)), (ya_isClosed, .inl (cA 3, 400, .inl y_isClosed)), (ya_insides, .inl (cA 1, 400, .inl y52_ya_insides)), (ya_isHigh, .inl (cA 3, 400, .inl f31)), (ya_inBits, .inl (cA 2, 8000, .inr (.inl y52_ya_inBits))), (ya_side, .inl (cA 1, 8000, .inl y_side)), (ya_sideA, .inl (cA 1, 8000, .inl y_sideA)), (ya_wasThere, .inl (cA 3, 1280, .inl y_wasThere))] := by rw [hy32]; exact hD
          exact W.vret hx hb hr (fun t ht hW => ⟨⟨(y52_ya_insides, f31, y52_ya_inBits), rfl, hv, z_pt hP ht⟩, hS.F ht⟩) hS.2.2 dX8_surrounds_280
      · have hv := hv.2 hc
        refine lv_iconst (v := z_i 0) hx hb dX8_surrounds_59 rfl ?_
        refine lv_istore_n (lv' := [(3, .int (z_i 0)), (2, .int (z_i x52_2)), (0, .ref y), (1, .int (z_i k))]) hx hb dX8_surrounds_60 rfl hl (by decide) rfl (fun ls hl => ?_)
        refine lv_aload_n hx hb dX8_surrounds_61 rfl (lv_at hl 2 rfl) ?_
        refine va_get (D := D) (ci := 6) (v := .ref ya_lineFrom) (C := RX8) (T := TX8) (N := 33) hx hb hts (fun w h => List.mem_cons_of_mem _ (List.mem_append_right _ h)) hown hK hP 0 rfl rfl 10 (by decide) (hts (.fieldLink RX8 35 "ContourSheetsModel" "lineFrom" "[I") (by decide +kernel)) (fun _ h9 => h9) rfl dX8_surrounds_62 ?_
        refine lv_iload_n hx hb dX8_surrounds_65 rfl (lv_at hl 3 rfl) ?_
        refine lx_iald hx hb hK hP 2 1 rfl rfl (by decide) hi1.1 hi1.2 dX8_surrounds_66 ?_
        refine lx_topi (fun v33 hy34 => ?_)
        have hv := hv v33 hy34
        have h_v33 : z_in v33 := by rw [hy34]; exact (z_in_g _ _)
        refine lv_istore (lv' := [(4, .int (z_i v33)), (3, .int (z_i 0)), (2, .int (z_i x52_2)), (0, .ref y), (1, .int (z_i k))]) hx hb dX8_surrounds_67 hl (by decide) rfl (fun ls hl => ?_)
        refine hv (fun (x69_4 : Int) (x69_3 : Int) => ∀ (H : Heap) (locs : List Loc) (ls : Array Slot), va_P D vwCl [(y, .inr (6, [.ref y_space, .ref y_offset, .ref y_length, .ref y_units, .ref y_isThere, .int (z_i y_levels), .ref y_level, .int (z_i y_lines), .ref y_lineLevel, .ref ya_lineUnits, .ref ya_lineFrom, .ref ya_lineMany, .ref ya_isClosed, .ref ya_insides, .ref y_parent, .ref ya_isHigh, .ref ya_inBits, .int (z_i y_sides), .ref ya_side, .ref ya_sideA, .ref y_sideB, .int (z_i y_lineSpace), .ref ya_wasThere, .ref y_leads, .ref y_isLed, .ref y_isOn, .ref y_goesTo, .ref y_stream, .ref y_filled, .ref y_isDone, .ref y_isReached, .ref y_newUnits, .ref y_isNew])), (ya_lineUnits, .inl (cA 1, 400, .inl y_lineUnits)), (ya_lineFrom, .inl (cA 1, 400, .inl y_lineFrom)), (ya_lineMany, .inl (cA 1, 400, .inl y_lineMany)), (ya_isClosed, .inl (cA 3, 400, .inl y_isClosed)), (ya_insides, .inl (cA 1, 400, .inl y52_ya_insides)), (ya_isHigh, .inl (cA 3, 400, .inl f4)), (ya_inBits, .inl (cA 2, 8000, .inr (.inl y52_ya_inBits))), (ya_side, .inl (cA 1, 8000, .inl y_side)), (ya_sideA, .inl (cA 1, 8000, .inl y_sideA)), (ya_wasThere, .inl (cA 3, 1280, .inl y_wasThere))] H → va_D A [(y, .inr (6, [.ref y_space, .ref y_offset, .ref y_length, .ref y_units, .ref y_isThere, .int (z_i y_levels), .ref y_level, .int (z_i y_lines), .ref y_lineLevel, .ref ya_lineUnits, .ref ya_lineFrom, .ref ya_lineMany, .ref ya_isClosed, .ref ya_insides, .ref y_parent, .ref ya_isHigh, .ref ya_inBits, .int (z_i y_sides), .ref ya_side, .ref ya_sideA, .ref y_sideB, .int (z_i y_lineSpace), .ref ya_wasThere, .ref y_leads, .ref y_isLed, .ref y_isOn, .ref y_goesTo, .ref y_stream, .ref y_filled, .ref y_isDone, .ref y_isReached, .ref y_newUnits, .ref y_isNew])), (ya_lineUnits, .inl (cA 1, 400, .inl y_lineUnits)), (ya_lineFrom, .inl (cA 1, 400, .inl y_lineFrom)), (ya_lineMany, .inl (cA 1, 400, .inl y_lineMany)), (ya_isClosed, .inl (cA 3, 400, .inl y_isClosed)), (ya_insides, .inl (cA 1, 400, .inl y52_ya_insides)), (ya_isHigh, .inl (cA 3, 400, .inl f4)), (ya_inBits, .inl (cA 2, 8000, .inr (.inl y52_ya_inBits))), (ya_side, .inl (cA 1, 8000, .inl y_side)), (ya_sideA, .inl (cA 1, 8000, .inl y_sideA)), (ya_wasThere, .inl (cA 3, 1280, .inl y_wasThere))] → va_S A s.heap H locs → lv_has ls 6 [(4, .int (z_i x69_4)), (3, .int (z_i x69_3)), (2, .int (z_i x52_2)), (0, .ref y), (1, .int (z_i k))] → W p l e _ s m _ below meth c H locs 0 0 _ (F0 m 69 ls [])) ?_ _ _ ls hP hD hS (lv_sub hl [0, 1, 2, 3, 4] rfl)
        intro x69_4 x69_3 h_x69_4 h_x69_3 hv H locs ls hP hD hS hl
        refine lv_iload hx hb dX8_surrounds_69 (lv_at hl 0 rfl) ?_
        refine lv_aload_n hx hb dX8_surrounds_71 rfl (lv_at hl 3 rfl) ?_
        refine va_get (D := D) (ci := 6) (v := .ref ya_lineFrom) (C := RX8) (T := TX8) (N := 33) hx hb hts (fun w h => List.mem_cons_of_mem _ (List.mem_append_right _ h)) hown hK hP 0 rfl rfl 10 (by decide) (hts (.fieldLink RX8 35 "ContourSheetsModel" "lineFrom" "[I") (by decide +kernel)) (fun _ h9 => h9) rfl dX8_surrounds_72 ?_
        refine lv_iload_n hx hb dX8_surrounds_75 rfl (lv_at hl 4 rfl) ?_
        refine lx_iald hx hb hK hP 2 1 rfl rfl (by decide) hi1.1 hi1.2 dX8_surrounds_76 ?_
        refine lv_aload_n hx hb dX8_surrounds_77 rfl (lv_at hl 3 rfl) ?_
        refine va_get (D := D) (ci := 6) (v := .ref ya_lineMany) (C := RX8) (T := TX8) (N := 33) hx hb hts (fun w h => List.mem_cons_of_mem _ (List.mem_append_right _ h)) hown hK hP 0 rfl rfl 11 (by decide) (hts (.fieldLink RX8 38 "ContourSheetsModel" "lineMany" "[I") (by decide +kernel)) (fun _ h9 => h9) rfl dX8_surrounds_78 ?_
        refine lv_iload_n hx hb dX8_surrounds_81 rfl (lv_at hl 4 rfl) ?_
        refine lx_iald hx hb hK hP 3 1 rfl rfl (by decide) hi1.1 hi1.2 dX8_surrounds_82 ?_
        refine lx_iadd hx hb dX8_surrounds_83 ?_
        obtain ⟨hr35, hv⟩ := hv
        refine lx_icmp_ge (tgt := 151) hx hb dX8_surrounds_84 (by decide) h_x69_4 hr35 (fun hc => ?_) (fun hc => ?_)
        · have hv := hv.1 hc
          refine lv_iload_n hx hb dX8_surrounds_151 rfl (lv_at hl 1 rfl) ?_
          refine lv_iconst (v := z_i 2) hx hb dX8_surrounds_152 rfl ?_
          refine lx_irem hx hb dX8_surrounds_153 h_x69_3 (show z_in 2 from ⟨by decide, by decide⟩) (by decide) ?_
          refine lv_iconst (v := z_i 1) hx hb dX8_surrounds_154 rfl ?_
          obtain ⟨hr36, hv⟩ := hv
          refine lx_icmp_ne (tgt := 203) hx hb dX8_surrounds_155 (by decide) hr36 (show z_in 1 from ⟨by decide, by decide⟩) (fun hc => ?_) (fun hc => ?_)
          · have hv := hv.1 hc
            refine lv_iinc (v := z_i (x52_2 + 1)) (lv' := [(2, .int (z_i (x52_2 + 1))), (4, .int (z_i x69_4)), (3, .int (z_i x69_3)), (0, .ref y), (1, .int (z_i k))]) hx hb dX8_surrounds_203 hl (k := 2) rfl (z_i_add _ _) (by decide) rfl (fun ls hl => ?_)
            refine lv_goto (tgt := 52) hx hb dX8_surrounds_206 (by decide) ?_
            exact hv _ _ ls hP hD hS (lv_sub hl [0, 3, 4] rfl)
          · have hv := hv.2 hc
            refine lv_aload_n hx hb dX8_surrounds_158 rfl (lv_at hl 3 rfl) ?_
            refine va_get (D := D) (ci := 6) (v := .ref ya_inBits) (C := RX8) (T := TX8) (N := 33) hx hb hts (fun w h => List.mem_cons_of_mem _ (List.mem_append_right _ h)) hown hK hP 0 rfl rfl 16 (by decide) (hts (.fieldLink RX8 53 "ContourSheetsModel" "inBits" "[J") (by decide +kernel)) (fun _ h9 => h9) rfl dX8_surrounds_159 ?_
            refine lv_bipush (v := z_i 20) hx hb dX8_surrounds_162 (by decide) ?_
            refine lv_iload_n hx hb dX8_surrounds_164 rfl (lv_at hl 4 rfl) ?_
            refine lx_imul hx hb dX8_surrounds_165 ?_
            refine lv_iload_n hx hb dX8_surrounds_166 rfl (lv_at hl 2 rfl) ?_
            refine lv_bipush (v := z_i 64) hx hb dX8_surrounds_167 (by decide) ?_
            refine lx_idiv hx hb dX8_surrounds_169 h_x52_2 (show z_in 64 from ⟨by decide, by decide⟩) (by decide) ?_
            refine lx_iadd hx hb dX8_surrounds_170 ?_
            refine lv_aload_n hx hb dX8_surrounds_171 rfl (lv_at hl 3 rfl) ?_
            refine va_get (D := D) (ci := 6) (v := .ref ya_inBits) (C := RX8) (T := TX8) (N := 33) hx hb hts (fun w h => List.mem_cons_of_mem _ (List.mem_append_right _ h)) hown hK hP 0 rfl rfl 16 (by decide) (hts (.fieldLink RX8 53 "ContourSheetsModel" "inBits" "[J") (by decide +kernel)) (fun _ h9 => h9) rfl dX8_surrounds_172 ?_
            refine lv_bipush (v := z_i 20) hx hb dX8_surrounds_175 (by decide) ?_
            refine lv_iload_n hx hb dX8_surrounds_177 rfl (lv_at hl 4 rfl) ?_
            refine lx_imul hx hb dX8_surrounds_178 ?_
            refine lv_iload_n hx hb dX8_surrounds_179 rfl (lv_at hl 2 rfl) ?_
            refine lv_bipush (v := z_i 64) hx hb dX8_surrounds_180 (by decide) ?_
            refine lx_idiv hx hb dX8_surrounds_182 h_x52_2 (show z_in 64 from ⟨by decide, by decide⟩) (by decide) ?_
            refine lx_iadd hx hb dX8_surrounds_183 ?_
            obtain ⟨hi37, hv⟩ := hv
            refine lx_lald hx hb hK hP 7 2 rfl rfl (by decide) hi37.1 hi37.2 dX8_surrounds_184 ?_
            refine lv_lconst (v := z_l 1) hx hb dX8_surrounds_185 (by decide) ?_
            refine lv_iload_n hx hb dX8_surrounds_186 rfl (lv_at hl 2 rfl) ?_
            refine lv_bipush (v := z_i 64) hx hb dX8_surrounds_187 (by decide) ?_
            refine lx_irem hx hb dX8_surrounds_189 h_x52_2 (show z_in 64 from ⟨by decide, by decide⟩) (by decide) ?_
            refine lx_lshl hx hb dX8_surrounds_190 ?_
            refine lx_lor hx hb dX8_surrounds_191 ?_
            refine lx_last hx hb hK hP hD hS 7 2 rfl rfl (by decide) hi37.1 hi37.2 dX8_surrounds_192 (fun H locs hP hD hS => ?_)
            obtain ⟨f38, hy39⟩ : ∃ y : Nat → Int64, y = z_sl y52_ya_inBits ((20 * k) + (x52_2.tdiv 64)) (z_orl (z_gl y52_ya_inBits ((20 * k) + (x52_2.tdiv 64))) (z_shll 1 (x52_2.tmod 64))) := ⟨_, rfl⟩
            have hv := hv f38 hy39
            have hP : va_P D vwCl [(y, .inr (6, [.ref y_space, .ref y_offset, .ref y_length, .ref y_units, .ref y_isThere, .int (z_i y_levels), .ref y_level, .int (z_i y_lines), .ref y_lineLevel, .ref ya_lineUnits, .ref ya_lineFrom, .ref ya_lineMany, .ref ya_isClosed, .ref ya_insides, .ref y_parent, .ref ya_isHigh, .ref ya_inBits, .int (z_i y_sides), .ref ya_side, .ref ya_sideA, .ref y_sideB, .int (z_i y_lineSpace), .ref ya_wasThere, .ref y_leads, .ref y_isLed, .ref y_isOn, .ref y_goesTo, .ref y_stream, .ref y_filled, .ref y_isDone, .ref y_isReached, .ref y_newUnits, .ref y_isNew])), (ya_lineUnits, .inl (cA 1, 400, .inl y_lineUnits)), (ya_lineFrom, .inl (cA 1, 400, .inl y_lineFrom)), (ya_lineMany, .inl (cA 1, 400, .inl y_lineMany)), (ya_isClosed, .inl (cA 3, 400, .inl y_isClosed)), (ya_insides, .inl (cA 1, 400, .inl y52_ya_insides)), (ya_isHigh, .inl (cA 3, 400, .inl f4)), (ya_inBits, .inl (cA 2, 8000, .inr (.inl f38))), (ya_side, .inl (cA 1, 8000, .inl y_side)), (ya_sideA, .inl (cA 1, 8000, .inl y_sideA)), (ya_wasThere, .inl (cA 3, 1280, .inl y_wasThere))] H := by rw [hy39]; exact hP
            have hD : va_D A [(y, .inr (6, [.ref y_space, .ref y_offset, .ref y_length, .ref y_units, .ref y_isThere, .int (z_i y_levels), .ref y_level, .int (z_i y_lines), .ref y_lineLevel, .ref ya_lineUnits, .ref ya_lineFrom, .ref ya_lineMany, .ref ya_isClosed, .ref ya_insides, .ref y_parent, .ref ya_isHigh, .ref ya_inBits, .int (z_i y_sides), .ref ya_side, .ref ya_sideA, .ref y_sideB, .int (z_i y_lineSpace), .ref ya_wasThere, .ref y_leads, .ref y_isLed, .ref y_isOn, .ref y_goesTo, .ref y_stream, .ref y_filled, .ref y_isDone, .ref y_isReached, .ref y_newUnits, .ref y_isNew])), (ya_lineUnits, .inl (cA 1, 400, .inl y_lineUnits)), (ya_lineFrom, .inl (cA 1, 400, .inl y_lineFrom)), (ya_lineMany, .inl (cA 1, 400, .inl y_lineMany)), (ya_isClosed, .inl (cA 3, 400, .inl y_isClosed)), (ya_insides, .inl (cA 1, 400, .inl y52_ya_insides)), (ya_isHigh, .inl (cA 3, 400, .inl f4)), (ya_inBits, .inl (cA 2, 8000, .inr (.inl f38))), (ya_side, .inl (cA 1, 8000, .inl y_side)), (ya_sideA, .inl (cA 1, 8000, .inl y_sideA)), (ya_wasThere, .inl (cA 3, 1280, .inl y_wasThere))] := by rw [hy39]; exact hD
            refine lv_aload_n hx hb dX8_surrounds_193 rfl (lv_at hl 3 rfl) ?_
            refine va_get (D := D) (ci := 6) (v := .ref ya_insides) (C := RX8) (T := TX8) (N := 33) hx hb hts (fun w h => List.mem_cons_of_mem _ (List.mem_append_right _ h)) hown hK hP 0 rfl rfl 13 (by decide) (hts (.fieldLink RX8 44 "ContourSheetsModel" "insides" "[I") (by decide +kernel)) (fun _ h9 => h9) rfl dX8_surrounds_194 ?_
            refine lv_iload_n hx hb dX8_surrounds_197 rfl (lv_at hl 4 rfl) ?_
            refine lv_dup2_11 hx hb dX8_surrounds_198 rfl rfl ?_
            refine lx_iald hx hb hK hP 5 1 rfl rfl (by decide) hi1.1 hi1.2 dX8_surrounds_199 ?_
            refine lv_iconst (v := z_i 1) hx hb dX8_surrounds_200 rfl ?_
            refine lx_iadd hx hb dX8_surrounds_201 ?_
            refine lx_iast hx hb hK hP hD hS 5 1 rfl rfl (by decide) hi1.1 hi1.2 dX8_surrounds_202 (fun H locs hP hD hS => ?_)
            obtain ⟨f40, hy41⟩ : ∃ y : Nat → Int32, y = z_s y52_ya_insides k ((z_g y52_ya_insides k) + 1) := ⟨_, rfl⟩
            have hv := hv f40 hy41
            have hP : va_P D vwCl [(y, .inr (6, [.ref y_space, .ref y_offset, .ref y_length, .ref y_units, .ref y_isThere, .int (z_i y_levels), .ref y_level, .int (z_i y_lines), .ref y_lineLevel, .ref ya_lineUnits, .ref ya_lineFrom, .ref ya_lineMany, .ref ya_isClosed, .ref ya_insides, .ref y_parent, .ref ya_isHigh, .ref ya_inBits, .int (z_i y_sides), .ref ya_side, .ref ya_sideA, .ref y_sideB, .int (z_i y_lineSpace), .ref ya_wasThere, .ref y_leads, .ref y_isLed, .ref y_isOn, .ref y_goesTo, .ref y_stream, .ref y_filled, .ref y_isDone, .ref y_isReached, .ref y_newUnits, .ref y_isNew])), (ya_lineUnits, .inl (cA 1, 400, .inl y_lineUnits)), (ya_lineFrom, .inl (cA 1, 400, .inl y_lineFrom)), (ya_lineMany, .inl (cA 1, 400, .inl y_lineMany)), (ya_isClosed, .inl (cA 3, 400, .inl y_isClosed)), (ya_insides, .inl (cA 1, 400, .inl f40)), (ya_isHigh, .inl (cA 3, 400, .inl f4)), (ya_inBits, .inl (cA 2, 8000, .inr (.inl f38))), (ya_side, .inl (cA 1, 8000, .inl y_side)), (ya_sideA, .inl (cA 1, 8000, .inl y_sideA)), (ya_wasThere, .inl (cA 3, 1280, .inl y_wasThere))] H := by rw [hy41]; exact hP
            have hD : va_D A [(y, .inr (6, [.ref y_space, .ref y_offset, .ref y_length, .ref y_units, .ref y_isThere, .int (z_i y_levels), .ref y_level, .int (z_i y_lines), .ref y_lineLevel, .ref ya_lineUnits, .ref ya_lineFrom, .ref ya_lineMany, .ref ya_isClosed, .ref ya_insides, .ref y_parent, .ref ya_isHigh, .ref ya_inBits, .int (z_i y_sides), .ref ya_side, .ref ya_sideA, .ref y_sideB, .int (z_i y_lineSpace), .ref ya_wasThere, .ref y_leads, .ref y_isLed, .ref y_isOn, .ref y_goesTo, .ref y_stream, .ref y_filled, .ref y_isDone, .ref y_isReached, .ref y_newUnits, .ref y_isNew])), (ya_lineUnits, .inl (cA 1, 400, .inl y_lineUnits)), (ya_lineFrom, .inl (cA 1, 400, .inl y_lineFrom)), (ya_lineMany, .inl (cA 1, 400, .inl y_lineMany)), (ya_isClosed, .inl (cA 3, 400, .inl y_isClosed)), (ya_insides, .inl (cA 1, 400, .inl f40)), (ya_isHigh, .inl (cA 3, 400, .inl f4)), (ya_inBits, .inl (cA 2, 8000, .inr (.inl f38))), (ya_side, .inl (cA 1, 8000, .inl y_side)), (ya_sideA, .inl (cA 1, 8000, .inl y_sideA)), (ya_wasThere, .inl (cA 3, 1280, .inl y_wasThere))] := by rw [hy41]; exact hD
            refine lv_iinc (v := z_i (x52_2 + 1)) (lv' := [(2, .int (z_i (x52_2 + 1))), (4, .int (z_i x69_4)), (3, .int (z_i x69_3)), (0, .ref y), (1, .int (z_i k))]) hx hb dX8_surrounds_203 hl (k := 2) rfl (z_i_add _ _) (by decide) rfl (fun ls hl => ?_)
            refine lv_goto (tgt := 52) hx hb dX8_surrounds_206 (by decide) ?_
            exact hv _ _ ls hP hD hS (lv_sub hl [0, 3, 4] rfl)
        · have hv := hv.2 hc
          refine lv_aload_n hx hb dX8_surrounds_87 rfl (lv_at hl 3 rfl) ?_
          refine va_get (D := D) (ci := 6) (v := .ref ya_wasThere) (C := RX8) (T := TX8) (N := 33) hx hb hts (fun w h => List.mem_cons_of_mem _ (List.mem_append_right _ h)) hown hK hP 0 rfl rfl 22 (by decide) (hts (.fieldLink RX8 66 "ContourSheetsModel" "wasThere" "[Z") (by decide +kernel)) (fun _ h9 => h9) rfl dX8_surrounds_88 ?_
          refine lv_iload_n hx hb dX8_surrounds_91 rfl (lv_at hl 2 rfl) ?_
          obtain ⟨hi42, hv⟩ := hv
          refine lx_zald hx hb hK hP 10 3 rfl rfl (by decide) hi42.1 hi42.2 dX8_surrounds_92 ?_
          refine lx_if_eq (tgt := 151) hx hb dX8_surrounds_93 (by decide) (z_in_g _ _) (fun hc => ?_) (fun hc => ?_)
          · have hv := hv.1 hc
            refine lv_iload_n hx hb dX8_surrounds_151 rfl (lv_at hl 1 rfl) ?_
            refine lv_iconst (v := z_i 2) hx hb dX8_surrounds_152 rfl ?_
            refine lx_irem hx hb dX8_surrounds_153 h_x69_3 (show z_in 2 from ⟨by decide, by decide⟩) (by decide) ?_
            refine lv_iconst (v := z_i 1) hx hb dX8_surrounds_154 rfl ?_
            obtain ⟨hr43, hv⟩ := hv
            refine lx_icmp_ne (tgt := 203) hx hb dX8_surrounds_155 (by decide) hr43 (show z_in 1 from ⟨by decide, by decide⟩) (fun hc => ?_) (fun hc => ?_)
            · have hv := hv.1 hc
              refine lv_iinc (v := z_i (x52_2 + 1)) (lv' := [(2, .int (z_i (x52_2 + 1))), (4, .int (z_i x69_4)), (3, .int (z_i x69_3)), (0, .ref y), (1, .int (z_i k))]) hx hb dX8_surrounds_203 hl (k := 2) rfl (z_i_add _ _) (by decide) rfl (fun ls hl => ?_)
              refine lv_goto (tgt := 52) hx hb dX8_surrounds_206 (by decide) ?_
              exact hv _ _ ls hP hD hS (lv_sub hl [0, 3, 4] rfl)
            · have hv := hv.2 hc
              refine lv_aload_n hx hb dX8_surrounds_158 rfl (lv_at hl 3 rfl) ?_
              refine va_get (D := D) (ci := 6) (v := .ref ya_inBits) (C := RX8) (T := TX8) (N := 33) hx hb hts (fun w h => List.mem_cons_of_mem _ (List.mem_append_right _ h)) hown hK hP 0 rfl rfl 16 (by decide) (hts (.fieldLink RX8 53 "ContourSheetsModel" "inBits" "[J") (by decide +kernel)) (fun _ h9 => h9) rfl dX8_surrounds_159 ?_
              refine lv_bipush (v := z_i 20) hx hb dX8_surrounds_162 (by decide) ?_
              refine lv_iload_n hx hb dX8_surrounds_164 rfl (lv_at hl 4 rfl) ?_
              refine lx_imul hx hb dX8_surrounds_165 ?_
              refine lv_iload_n hx hb dX8_surrounds_166 rfl (lv_at hl 2 rfl) ?_
              refine lv_bipush (v := z_i 64) hx hb dX8_surrounds_167 (by decide) ?_
              refine lx_idiv hx hb dX8_surrounds_169 h_x52_2 (show z_in 64 from ⟨by decide, by decide⟩) (by decide) ?_
              refine lx_iadd hx hb dX8_surrounds_170 ?_
              refine lv_aload_n hx hb dX8_surrounds_171 rfl (lv_at hl 3 rfl) ?_
              refine va_get (D := D) (ci := 6) (v := .ref ya_inBits) (C := RX8) (T := TX8) (N := 33) hx hb hts (fun w h => List.mem_cons_of_mem _ (List.mem_append_right _ h)) hown hK hP 0 rfl rfl 16 (by decide) (hts (.fieldLink RX8 53 "ContourSheetsModel" "inBits" "[J") (by decide +kernel)) (fun _ h9 => h9) rfl dX8_surrounds_172 ?_
              refine lv_bipush (v := z_i 20) hx hb dX8_surrounds_175 (by decide) ?_
              refine lv_iload_n hx hb dX8_surrounds_177 rfl (lv_at hl 4 rfl) ?_
              refine lx_imul hx hb dX8_surrounds_178 ?_
              refine lv_iload_n hx hb dX8_surrounds_179 rfl (lv_at hl 2 rfl) ?_
              refine lv_bipush (v := z_i 64) hx hb dX8_surrounds_180 (by decide) ?_
              refine lx_idiv hx hb dX8_surrounds_182 h_x52_2 (show z_in 64 from ⟨by decide, by decide⟩) (by decide) ?_
              refine lx_iadd hx hb dX8_surrounds_183 ?_
              obtain ⟨hi44, hv⟩ := hv
              refine lx_lald hx hb hK hP 7 2 rfl rfl (by decide) hi44.1 hi44.2 dX8_surrounds_184 ?_
              refine lv_lconst (v := z_l 1) hx hb dX8_surrounds_185 (by decide) ?_
              refine lv_iload_n hx hb dX8_surrounds_186 rfl (lv_at hl 2 rfl) ?_
              refine lv_bipush (v := z_i 64) hx hb dX8_surrounds_187 (by decide) ?_
              refine lx_irem hx hb dX8_surrounds_189 h_x52_2 (show z_in 64 from ⟨by decide, by decide⟩) (by decide) ?_
              refine lx_lshl hx hb dX8_surrounds_190 ?_
              refine lx_lor hx hb dX8_surrounds_191 ?_
              refine lx_last hx hb hK hP hD hS 7 2 rfl rfl (by decide) hi44.1 hi44.2 dX8_surrounds_192 (fun H locs hP hD hS => ?_)
              obtain ⟨f45, hy46⟩ : ∃ y : Nat → Int64, y = z_sl y52_ya_inBits ((20 * k) + (x52_2.tdiv 64)) (z_orl (z_gl y52_ya_inBits ((20 * k) + (x52_2.tdiv 64))) (z_shll 1 (x52_2.tmod 64))) := ⟨_, rfl⟩
              have hv := hv f45 hy46
              have hP : va_P D vwCl [(y, .inr (6, [.ref y_space, .ref y_offset, .ref y_length, .ref y_units, .ref y_isThere, .int (z_i y_levels), .ref y_level, .int (z_i y_lines), .ref y_lineLevel, .ref ya_lineUnits, .ref ya_lineFrom, .ref ya_lineMany, .ref ya_isClosed, .ref ya_insides, .ref y_parent, .ref ya_isHigh, .ref ya_inBits, .int (z_i y_sides), .ref ya_side, .ref ya_sideA, .ref y_sideB, .int (z_i y_lineSpace), .ref ya_wasThere, .ref y_leads, .ref y_isLed, .ref y_isOn, .ref y_goesTo, .ref y_stream, .ref y_filled, .ref y_isDone, .ref y_isReached, .ref y_newUnits, .ref y_isNew])), (ya_lineUnits, .inl (cA 1, 400, .inl y_lineUnits)), (ya_lineFrom, .inl (cA 1, 400, .inl y_lineFrom)), (ya_lineMany, .inl (cA 1, 400, .inl y_lineMany)), (ya_isClosed, .inl (cA 3, 400, .inl y_isClosed)), (ya_insides, .inl (cA 1, 400, .inl y52_ya_insides)), (ya_isHigh, .inl (cA 3, 400, .inl f4)), (ya_inBits, .inl (cA 2, 8000, .inr (.inl f45))), (ya_side, .inl (cA 1, 8000, .inl y_side)), (ya_sideA, .inl (cA 1, 8000, .inl y_sideA)), (ya_wasThere, .inl (cA 3, 1280, .inl y_wasThere))] H := by rw [hy46]; exact hP
              have hD : va_D A [(y, .inr (6, [.ref y_space, .ref y_offset, .ref y_length, .ref y_units, .ref y_isThere, .int (z_i y_levels), .ref y_level, .int (z_i y_lines), .ref y_lineLevel, .ref ya_lineUnits, .ref ya_lineFrom, .ref ya_lineMany, .ref ya_isClosed, .ref ya_insides, .ref y_parent, .ref ya_isHigh, .ref ya_inBits, .int (z_i y_sides), .ref ya_side, .ref ya_sideA, .ref y_sideB, .int (z_i y_lineSpace), .ref ya_wasThere, .ref y_leads, .ref y_isLed, .ref y_isOn, .ref y_goesTo, .ref y_stream, .ref y_filled, .ref y_isDone, .ref y_isReached, .ref y_newUnits, .ref y_isNew])), (ya_lineUnits, .inl (cA 1, 400, .inl y_lineUnits)), (ya_lineFrom, .inl (cA 1, 400, .inl y_lineFrom)), (ya_lineMany, .inl (cA 1, 400, .inl y_lineMany)), (ya_isClosed, .inl (cA 3, 400, .inl y_isClosed)), (ya_insides, .inl (cA 1, 400, .inl y52_ya_insides)), (ya_isHigh, .inl (cA 3, 400, .inl f4)), (ya_inBits, .inl (cA 2, 8000, .inr (.inl f45))), (ya_side, .inl (cA 1, 8000, .inl y_side)), (ya_sideA, .inl (cA 1, 8000, .inl y_sideA)), (ya_wasThere, .inl (cA 3, 1280, .inl y_wasThere))] := by rw [hy46]; exact hD
              refine lv_aload_n hx hb dX8_surrounds_193 rfl (lv_at hl 3 rfl) ?_
              refine va_get (D := D) (ci := 6) (v := .ref ya_insides) (C := RX8) (T := TX8) (N := 33) hx hb hts (fun w h => List.mem_cons_of_mem _ (List.mem_append_right _ h)) hown hK hP 0 rfl rfl 13 (by decide) (hts (.fieldLink RX8 44 "ContourSheetsModel" "insides" "[I") (by decide +kernel)) (fun _ h9 => h9) rfl dX8_surrounds_194 ?_
              refine lv_iload_n hx hb dX8_surrounds_197 rfl (lv_at hl 4 rfl) ?_
              refine lv_dup2_11 hx hb dX8_surrounds_198 rfl rfl ?_
              refine lx_iald hx hb hK hP 5 1 rfl rfl (by decide) hi1.1 hi1.2 dX8_surrounds_199 ?_
              refine lv_iconst (v := z_i 1) hx hb dX8_surrounds_200 rfl ?_
              refine lx_iadd hx hb dX8_surrounds_201 ?_
              refine lx_iast hx hb hK hP hD hS 5 1 rfl rfl (by decide) hi1.1 hi1.2 dX8_surrounds_202 (fun H locs hP hD hS => ?_)
              obtain ⟨f47, hy48⟩ : ∃ y : Nat → Int32, y = z_s y52_ya_insides k ((z_g y52_ya_insides k) + 1) := ⟨_, rfl⟩
              have hv := hv f47 hy48
              have hP : va_P D vwCl [(y, .inr (6, [.ref y_space, .ref y_offset, .ref y_length, .ref y_units, .ref y_isThere, .int (z_i y_levels), .ref y_level, .int (z_i y_lines), .ref y_lineLevel, .ref ya_lineUnits, .ref ya_lineFrom, .ref ya_lineMany, .ref ya_isClosed, .ref ya_insides, .ref y_parent, .ref ya_isHigh, .ref ya_inBits, .int (z_i y_sides), .ref ya_side, .ref ya_sideA, .ref y_sideB, .int (z_i y_lineSpace), .ref ya_wasThere, .ref y_leads, .ref y_isLed, .ref y_isOn, .ref y_goesTo, .ref y_stream, .ref y_filled, .ref y_isDone, .ref y_isReached, .ref y_newUnits, .ref y_isNew])), (ya_lineUnits, .inl (cA 1, 400, .inl y_lineUnits)), (ya_lineFrom, .inl (cA 1, 400, .inl y_lineFrom)), (ya_lineMany, .inl (cA 1, 400, .inl y_lineMany)), (ya_isClosed, .inl (cA 3, 400, .inl y_isClosed)), (ya_insides, .inl (cA 1, 400, .inl f47)), (ya_isHigh, .inl (cA 3, 400, .inl f4)), (ya_inBits, .inl (cA 2, 8000, .inr (.inl f45))), (ya_side, .inl (cA 1, 8000, .inl y_side)), (ya_sideA, .inl (cA 1, 8000, .inl y_sideA)), (ya_wasThere, .inl (cA 3, 1280, .inl y_wasThere))] H := by rw [hy48]; exact hP
              have hD : va_D A [(y, .inr (6, [.ref y_space, .ref y_offset, .ref y_length, .ref y_units, .ref y_isThere, .int (z_i y_levels), .ref y_level, .int (z_i y_lines), .ref y_lineLevel, .ref ya_lineUnits, .ref ya_lineFrom, .ref ya_lineMany, .ref ya_isClosed, .ref ya_insides, .ref y_parent, .ref ya_isHigh, .ref ya_inBits, .int (z_i y_sides), .ref ya_side, .ref ya_sideA, .ref y_sideB, .int (z_i y_lineSpace), .ref ya_wasThere, .ref y_leads, .ref y_isLed, .ref y_isOn, .ref y_goesTo, .ref y_stream, .ref y_filled, .ref y_isDone, .ref y_isReached, .ref y_newUnits, .ref y_isNew])), (ya_lineUnits, .inl (cA 1, 400, .inl y_lineUnits)), (ya_lineFrom, .inl (cA 1, 400, .inl y_lineFrom)), (ya_lineMany, .inl (cA 1, 400, .inl y_lineMany)), (ya_isClosed, .inl (cA 3, 400, .inl y_isClosed)), (ya_insides, .inl (cA 1, 400, .inl f47)), (ya_isHigh, .inl (cA 3, 400, .inl f4)), (ya_inBits, .inl (cA 2, 8000, .inr (.inl f45))), (ya_side, .inl (cA 1, 8000, .inl y_side)), (ya_sideA, .inl (cA 1, 8000, .inl y_sideA)), (ya_wasThere, .inl (cA 3, 1280, .inl y_wasThere))] := by rw [hy48]; exact hD
              refine lv_iinc (v := z_i (x52_2 + 1)) (lv' := [(2, .int (z_i (x52_2 + 1))), (4, .int (z_i x69_4)), (3, .int (z_i x69_3)), (0, .ref y), (1, .int (z_i k))]) hx hb dX8_surrounds_203 hl (k := 2) rfl (z_i_add _ _) (by decide) rfl (fun ls hl => ?_)
              refine lv_goto (tgt := 52) hx hb dX8_surrounds_206 (by decide) ?_
              exact hv _ _ ls hP hD hS (lv_sub hl [0, 3, 4] rfl)
          · have hv := hv.2 hc
            refine lv_aload_n hx hb dX8_surrounds_96 rfl (lv_at hl 3 rfl) ?_
            refine va_get (D := D) (ci := 6) (v := .ref ya_side) (C := RX8) (T := TX8) (N := 33) hx hb hts (fun w h => List.mem_cons_of_mem _ (List.mem_append_right _ h)) hown hK hP 0 rfl rfl 18 (by decide) (hts (.fieldLink RX8 57 "ContourSheetsModel" "side" "[I") (by decide +kernel)) (fun _ h9 => h9) rfl dX8_surrounds_97 ?_
            refine lv_iload hx hb dX8_surrounds_100 (lv_at hl 0 rfl) ?_
            obtain ⟨hi49, hv⟩ := hv
            refine lx_iald hx hb hK hP 8 1 rfl rfl (by decide) hi49.1 hi49.2 dX8_surrounds_102 ?_
            refine lv_iconst (v := z_i 2) hx hb dX8_surrounds_103 rfl ?_
            refine lx_idiv hx hb dX8_surrounds_104 (z_in_g _ _) (show z_in 2 from ⟨by decide, by decide⟩) (by decide) ?_
            obtain ⟨hr51, hv⟩ := hv
            refine lx_topi (fun v50 hy52 => ?_)
            have hv := hv v50 hy52
            have h_v50 : z_in v50 := by rw [hy52]; exact hr51
            refine lv_istore (lv' := [(5, .int (z_i v50)), (4, .int (z_i x69_4)), (3, .int (z_i x69_3)), (2, .int (z_i x52_2)), (0, .ref y), (1, .int (z_i k))]) hx hb dX8_surrounds_105 hl (by decide) rfl (fun ls hl => ?_)
            refine lv_iload_n hx hb dX8_surrounds_107 rfl (lv_at hl 2 rfl) ?_
            refine lv_aload_n hx hb dX8_surrounds_108 rfl (lv_at hl 4 rfl) ?_
            refine va_get (D := D) (ci := 6) (v := .ref ya_side) (C := RX8) (T := TX8) (N := 33) hx hb hts (fun w h => List.mem_cons_of_mem _ (List.mem_append_right _ h)) hown hK hP 0 rfl rfl 18 (by decide) (hts (.fieldLink RX8 57 "ContourSheetsModel" "side" "[I") (by decide +kernel)) (fun _ h9 => h9) rfl dX8_surrounds_109 ?_
            refine lv_iload hx hb dX8_surrounds_112 (lv_at hl 1 rfl) ?_
            refine lx_iald hx hb hK hP 8 1 rfl rfl (by decide) hi49.1 hi49.2 dX8_surrounds_114 ?_
            refine lv_iconst (v := z_i 2) hx hb dX8_surrounds_115 rfl ?_
            refine lx_irem hx hb dX8_surrounds_116 (z_in_g _ _) (show z_in 2 from ⟨by decide, by decide⟩) (by decide) ?_
            obtain ⟨hr53, hv⟩ := hv
            refine lx_if_ne (tgt := 142) hx hb dX8_surrounds_117 (by decide) hr53 (fun hc => ?_) (fun hc => ?_)
            · have hv := hv.1 hc
              refine lv_iconst (v := z_i 0) hx hb dX8_surrounds_142 rfl ?_
              refine lx_iadd hx hb dX8_surrounds_143 ?_
              refine lv_istore_n (lv' := [(3, .int (z_i (x69_3 + 0))), (5, .int (z_i v50)), (4, .int (z_i x69_4)), (2, .int (z_i x52_2)), (0, .ref y), (1, .int (z_i k))]) hx hb dX8_surrounds_144 rfl hl (by decide) rfl (fun ls hl => ?_)
              refine lv_iinc (v := z_i (x69_4 + 1)) (lv' := [(4, .int (z_i (x69_4 + 1))), (3, .int (z_i (x69_3 + 0))), (5, .int (z_i v50)), (2, .int (z_i x52_2)), (0, .ref y), (1, .int (z_i k))]) hx hb dX8_surrounds_145 hl (k := 2) rfl (z_i_add _ _) (by decide) rfl (fun ls hl => ?_)
              refine lv_goto (tgt := 69) hx hb dX8_surrounds_148 (by decide) ?_
              exact hv _ _ ls hP hD hS (lv_sub hl [0, 1, 3, 4, 5] rfl)
            · have hv := hv.2 hc
              refine lv_iload hx hb dX8_surrounds_120 (lv_at hl 0 rfl) ?_
              refine lv_bipush (v := z_i 40) hx hb dX8_surrounds_122 (by decide) ?_
              refine lx_idiv hx hb dX8_surrounds_124 h_v50 (show z_in 40 from ⟨by decide, by decide⟩) (by decide) ?_
              refine lv_iload_n hx hb dX8_surrounds_125 rfl (lv_at hl 3 rfl) ?_
              refine lv_bipush (v := z_i 40) hx hb dX8_surrounds_126 (by decide) ?_
              refine lx_idiv hx hb dX8_surrounds_128 h_x52_2 (show z_in 40 from ⟨by decide, by decide⟩) (by decide) ?_
              obtain ⟨hr54, hv⟩ := hv
              obtain ⟨hr55, hv⟩ := hv
              refine lx_icmp_ne (tgt := 142) hx hb dX8_surrounds_129 (by decide) hr54 hr55 (fun hc => ?_) (fun hc => ?_)
              · have hv := hv.1 hc
                refine lv_iconst (v := z_i 0) hx hb dX8_surrounds_142 rfl ?_
                refine lx_iadd hx hb dX8_surrounds_143 ?_
                refine lv_istore_n (lv' := [(3, .int (z_i (x69_3 + 0))), (5, .int (z_i v50)), (4, .int (z_i x69_4)), (2, .int (z_i x52_2)), (0, .ref y), (1, .int (z_i k))]) hx hb dX8_surrounds_144 rfl hl (by decide) rfl (fun ls hl => ?_)
                refine lv_iinc (v := z_i (x69_4 + 1)) (lv' := [(4, .int (z_i (x69_4 + 1))), (3, .int (z_i (x69_3 + 0))), (5, .int (z_i v50)), (2, .int (z_i x52_2)), (0, .ref y), (1, .int (z_i k))]) hx hb dX8_surrounds_145 hl (k := 2) rfl (z_i_add _ _) (by decide) rfl (fun ls hl => ?_)
                refine lv_goto (tgt := 69) hx hb dX8_surrounds_148 (by decide) ?_
                exact hv _ _ ls hP hD hS (lv_sub hl [0, 1, 3, 4, 5] rfl)
              · have hv := hv.2 hc
                refine lv_iload hx hb dX8_surrounds_132 (lv_at hl 0 rfl) ?_
                refine lv_iload_n hx hb dX8_surrounds_134 rfl (lv_at hl 3 rfl) ?_
                refine lx_icmp_ge (tgt := 142) hx hb dX8_surrounds_135 (by decide) h_v50 h_x52_2 (fun hc => ?_) (fun hc => ?_)
                · have hv := hv.1 hc
                  refine lv_iconst (v := z_i 0) hx hb dX8_surrounds_142 rfl ?_
                  refine lx_iadd hx hb dX8_surrounds_143 ?_
                  refine lv_istore_n (lv' := [(3, .int (z_i (x69_3 + 0))), (5, .int (z_i v50)), (4, .int (z_i x69_4)), (2, .int (z_i x52_2)), (0, .ref y), (1, .int (z_i k))]) hx hb dX8_surrounds_144 rfl hl (by decide) rfl (fun ls hl => ?_)
                  refine lv_iinc (v := z_i (x69_4 + 1)) (lv' := [(4, .int (z_i (x69_4 + 1))), (3, .int (z_i (x69_3 + 0))), (5, .int (z_i v50)), (2, .int (z_i x52_2)), (0, .ref y), (1, .int (z_i k))]) hx hb dX8_surrounds_145 hl (k := 2) rfl (z_i_add _ _) (by decide) rfl (fun ls hl => ?_)
                  refine lv_goto (tgt := 69) hx hb dX8_surrounds_148 (by decide) ?_
                  exact hv _ _ ls hP hD hS (lv_sub hl [0, 1, 3, 4, 5] rfl)
                · have hv := hv.2 hc
                  refine lv_iconst (v := z_i 1) hx hb dX8_surrounds_138 rfl ?_
                  refine lv_goto (tgt := 143) hx hb dX8_surrounds_139 (by decide) ?_
                  refine lx_iadd hx hb dX8_surrounds_143 ?_
                  refine lv_istore_n (lv' := [(3, .int (z_i (x69_3 + 1))), (5, .int (z_i v50)), (4, .int (z_i x69_4)), (2, .int (z_i x52_2)), (0, .ref y), (1, .int (z_i k))]) hx hb dX8_surrounds_144 rfl hl (by decide) rfl (fun ls hl => ?_)
                  refine lv_iinc (v := z_i (x69_4 + 1)) (lv' := [(4, .int (z_i (x69_4 + 1))), (3, .int (z_i (x69_3 + 1))), (5, .int (z_i v50)), (2, .int (z_i x52_2)), (0, .ref y), (1, .int (z_i k))]) hx hb dX8_surrounds_145 hl (k := 2) rfl (z_i_add _ _) (by decide) rfl (fun ls hl => ?_)
                  refine lv_goto (tgt := 69) hx hb dX8_surrounds_148 (by decide) ?_
                  exact hv _ _ ls hP hD hS (lv_sub hl [0, 1, 3, 4, 5] rfl)
    · have hv := hv.2 hc
      exact W.vret hx hb hr (fun t ht hW => ⟨⟨(f2, f4, y2_ya_inBits), rfl, hv, z_pt hP ht⟩, hS.F ht⟩) hS.2.2 dX8_surrounds_49
  · have hv := hv.2 hc
    refine lv_aload_n hx hb dX8_surrounds_8 rfl (lv_at hl 1 rfl) ?_
    refine va_get (D := D) (ci := 6) (v := .ref ya_inBits) (C := RX8) (T := TX8) (N := 33) hx hb hts (fun w h => List.mem_cons_of_mem _ (List.mem_append_right _ h)) hown hK hP 0 rfl rfl 16 (by decide) (hts (.fieldLink RX8 53 "ContourSheetsModel" "inBits" "[J") (by decide +kernel)) (fun _ h9 => h9) rfl dX8_surrounds_9 ?_
    refine lv_bipush (v := z_i 20) hx hb dX8_surrounds_12 (by decide) ?_
    refine lv_iload_n hx hb dX8_surrounds_14 rfl (lv_at hl 2 rfl) ?_
    refine lx_imul hx hb dX8_surrounds_15 ?_
    refine lv_iload_n hx hb dX8_surrounds_16 rfl (lv_at hl 0 rfl) ?_
    refine lx_iadd hx hb dX8_surrounds_17 ?_
    refine lv_lconst (v := z_l 0) hx hb dX8_surrounds_18 (by decide) ?_
    obtain ⟨hi56, hv⟩ := hv
    refine lx_last hx hb hK hP hD hS 7 2 rfl rfl (by decide) hi56.1 hi56.2 dX8_surrounds_19 (fun H locs hP hD hS => ?_)
    obtain ⟨f57, hy58⟩ : ∃ y : Nat → Int64, y = z_sl y2_ya_inBits ((20 * k) + x2_2) 0 := ⟨_, rfl⟩
    have hv := hv f57 hy58
    have hP : va_P D vwCl [(y, .inr (6, [.ref y_space, .ref y_offset, .ref y_length, .ref y_units, .ref y_isThere, .int (z_i y_levels), .ref y_level, .int (z_i y_lines), .ref y_lineLevel, .ref ya_lineUnits, .ref ya_lineFrom, .ref ya_lineMany, .ref ya_isClosed, .ref ya_insides, .ref y_parent, .ref ya_isHigh, .ref ya_inBits, .int (z_i y_sides), .ref ya_side, .ref ya_sideA, .ref y_sideB, .int (z_i y_lineSpace), .ref ya_wasThere, .ref y_leads, .ref y_isLed, .ref y_isOn, .ref y_goesTo, .ref y_stream, .ref y_filled, .ref y_isDone, .ref y_isReached, .ref y_newUnits, .ref y_isNew])), (ya_lineUnits, .inl (cA 1, 400, .inl y_lineUnits)), (ya_lineFrom, .inl (cA 1, 400, .inl y_lineFrom)), (ya_lineMany, .inl (cA 1, 400, .inl y_lineMany)), (ya_isClosed, .inl (cA 3, 400, .inl y_isClosed)), (ya_insides, .inl (cA 1, 400, .inl y_insides)), (ya_isHigh, .inl (cA 3, 400, .inl y_isHigh)), (ya_inBits, .inl (cA 2, 8000, .inr (.inl f57))), (ya_side, .inl (cA 1, 8000, .inl y_side)), (ya_sideA, .inl (cA 1, 8000, .inl y_sideA)), (ya_wasThere, .inl (cA 3, 1280, .inl y_wasThere))] H := by rw [hy58]; exact hP
    have hD : va_D A [(y, .inr (6, [.ref y_space, .ref y_offset, .ref y_length, .ref y_units, .ref y_isThere, .int (z_i y_levels), .ref y_level, .int (z_i y_lines), .ref y_lineLevel, .ref ya_lineUnits, .ref ya_lineFrom, .ref ya_lineMany, .ref ya_isClosed, .ref ya_insides, .ref y_parent, .ref ya_isHigh, .ref ya_inBits, .int (z_i y_sides), .ref ya_side, .ref ya_sideA, .ref y_sideB, .int (z_i y_lineSpace), .ref ya_wasThere, .ref y_leads, .ref y_isLed, .ref y_isOn, .ref y_goesTo, .ref y_stream, .ref y_filled, .ref y_isDone, .ref y_isReached, .ref y_newUnits, .ref y_isNew])), (ya_lineUnits, .inl (cA 1, 400, .inl y_lineUnits)), (ya_lineFrom, .inl (cA 1, 400, .inl y_lineFrom)), (ya_lineMany, .inl (cA 1, 400, .inl y_lineMany)), (ya_isClosed, .inl (cA 3, 400, .inl y_isClosed)), (ya_insides, .inl (cA 1, 400, .inl y_insides)), (ya_isHigh, .inl (cA 3, 400, .inl y_isHigh)), (ya_inBits, .inl (cA 2, 8000, .inr (.inl f57))), (ya_side, .inl (cA 1, 8000, .inl y_side)), (ya_sideA, .inl (cA 1, 8000, .inl y_sideA)), (ya_wasThere, .inl (cA 3, 1280, .inl y_wasThere))] := by rw [hy58]; exact hD
    refine lv_iinc (v := z_i (x2_2 + 1)) (lv' := [(2, .int (z_i (x2_2 + 1))), (0, .ref y), (1, .int (z_i k))]) hx hb dX8_surrounds_20 hl (k := 0) rfl (z_i_add _ _) (by decide) rfl (fun ls hl => ?_)
    refine lv_goto (tgt := 2) hx hb dX8_surrounds_23 (by decide) ?_
    exact hv _ _ ls hP hD hS (lv_sub hl [0, 1, 2] rfl)
set_option maxHeartbeats 4000000 in
set_option maxRecDepth 100000 in
theorem mt_X8_surrounds (l : Launch) (D : va_G) (cA : Nat → ClassId) (y : Nat) (y_space : Nat) (y_offset : Nat) (y_length : Nat) (y_units : Nat) (y_isThere : Nat) (y_levels : Int) (y_level : Nat) (y_lines : Int) (y_lineLevel : Nat) (ya_lineUnits : Nat) (y_lineUnits : Nat → Int32) (ya_lineFrom : Nat) (y_lineFrom : Nat → Int32) (ya_lineMany : Nat) (y_lineMany : Nat → Int32) (ya_isClosed : Nat) (y_isClosed : Nat → Int32) (ya_insides : Nat) (y_insides : Nat → Int32) (y_parent : Nat) (ya_isHigh : Nat) (y_isHigh : Nat → Int32) (ya_inBits : Nat) (y_inBits : Nat → Int64) (y_sides : Int) (ya_side : Nat) (y_side : Nat → Int32) (ya_sideA : Nat) (y_sideA : Nat → Int32) (y_sideB : Nat) (y_lineSpace : Int) (ya_wasThere : Nat) (y_wasThere : Nat → Int32) (y_leads : Nat) (y_isLed : Nat) (y_isOn : Nat) (y_goesTo : Nat) (y_stream : Nat) (y_filled : Nat) (y_isDone : Nat) (y_isReached : Nat) (y_newUnits : Nat) (y_isNew : Nat) (k : Int) (h_y_levels : z_in y_levels) (h_y_lines : z_in y_lines) (h_y_sides : z_in y_sides) (h_y_lineSpace : z_in y_lineSpace) (h_k : z_in k) (ls : List d_L) (T : Int → Bool) (U : Int → Int) (hs : Nat → Int32) (hp1 : 0 ≤ k ∧ k < (ls.length : Int)) (hp2 : e_D ls U hs y_lineUnits y_lineFrom y_lineMany y_isClosed y_side y_sideA) (hp3 : l_ok T U hs ls) (hp4 : ∀ q : Int, 0 ≤ q → q < 1280 → (z_g y_wasThere q ≠ 0 ↔ T q = true)) (hp5 : ∀ q, T q = true → 0 ≤ q ∧ q < 1280) (hp6 : e_S ls T U hs y_insides y_isHigh y_inBits k.toNat) : Met l yX8_surrounds wsX8_surrounds ({ frames := 1, cells := 0, slots := 0, locals := 22 } : Room) (va_Pc [.ref y, .int (z_i k)] (z_M0 D cA [(y, .inr (6, [.ref y_space, .ref y_offset, .ref y_length, .ref y_units, .ref y_isThere, .int (z_i y_levels), .ref y_level, .int (z_i y_lines), .ref y_lineLevel, .ref ya_lineUnits, .ref ya_lineFrom, .ref ya_lineMany, .ref ya_isClosed, .ref ya_insides, .ref y_parent, .ref ya_isHigh, .ref ya_inBits, .int (z_i y_sides), .ref ya_side, .ref ya_sideA, .ref y_sideB, .int (z_i y_lineSpace), .ref ya_wasThere, .ref y_leads, .ref y_isLed, .ref y_isOn, .ref y_goesTo, .ref y_stream, .ref y_filled, .ref y_isDone, .ref y_isReached, .ref y_newUnits, .ref y_isNew])), (ya_lineUnits, .inl (cA 1, 400, .inl y_lineUnits)), (ya_lineFrom, .inl (cA 1, 400, .inl y_lineFrom)), (ya_lineMany, .inl (cA 1, 400, .inl y_lineMany)), (ya_isClosed, .inl (cA 3, 400, .inl y_isClosed)), (ya_insides, .inl (cA 1, 400, .inl y_insides)), (ya_isHigh, .inl (cA 3, 400, .inl y_isHigh)), (ya_inBits, .inl (cA 2, 8000, .inr (.inl y_inBits))), (ya_side, .inl (cA 1, 8000, .inl y_side)), (ya_sideA, .inl (cA 1, 8000, .inl y_sideA)), (ya_wasThere, .inl (cA 3, 1280, .inl y_wasThere))])) (va_Qv (fun (u : (Nat → Int32) × (Nat → Int32) × (Nat → Int64)) => (fun (y_insides' : (Nat → Int32)) (y_isHigh' : (Nat → Int32)) (y_inBits' : (Nat → Int64)) => e_S ls T U hs y_insides' y_isHigh' y_inBits' (k.toNat + 1)) u.1 u.2.1 u.2.2) (fun (u : (Nat → Int32) × (Nat → Int32) × (Nat → Int64)) t => va_P D vwCl [(y, .inr (6, [.ref y_space, .ref y_offset, .ref y_length, .ref y_units, .ref y_isThere, .int (z_i y_levels), .ref y_level, .int (z_i y_lines), .ref y_lineLevel, .ref ya_lineUnits, .ref ya_lineFrom, .ref ya_lineMany, .ref ya_isClosed, .ref ya_insides, .ref y_parent, .ref ya_isHigh, .ref ya_inBits, .int (z_i y_sides), .ref ya_side, .ref ya_sideA, .ref y_sideB, .int (z_i y_lineSpace), .ref ya_wasThere, .ref y_leads, .ref y_isLed, .ref y_isOn, .ref y_goesTo, .ref y_stream, .ref y_filled, .ref y_isDone, .ref y_isReached, .ref y_newUnits, .ref y_isNew])), (ya_lineUnits, .inl (cA 1, 400, .inl y_lineUnits)), (ya_lineFrom, .inl (cA 1, 400, .inl y_lineFrom)), (ya_lineMany, .inl (cA 1, 400, .inl y_lineMany)), (ya_isClosed, .inl (cA 3, 400, .inl y_isClosed)), (ya_insides, .inl (cA 1, 400, .inl u.1)), (ya_isHigh, .inl (cA 3, 400, .inl u.2.1)), (ya_inBits, .inl (cA 2, 8000, .inr (.inl u.2.2))), (ya_side, .inl (cA 1, 8000, .inl y_side)), (ya_sideA, .inl (cA 1, 8000, .inl y_sideA)), (ya_wasThere, .inl (cA 3, 1280, .inl y_wasThere))] t.heap) (z_A [(y, .inr (6, [.ref y_space, .ref y_offset, .ref y_length, .ref y_units, .ref y_isThere, .int (z_i y_levels), .ref y_level, .int (z_i y_lines), .ref y_lineLevel, .ref ya_lineUnits, .ref ya_lineFrom, .ref ya_lineMany, .ref ya_isClosed, .ref ya_insides, .ref y_parent, .ref ya_isHigh, .ref ya_inBits, .int (z_i y_sides), .ref ya_side, .ref ya_sideA, .ref y_sideB, .int (z_i y_lineSpace), .ref ya_wasThere, .ref y_leads, .ref y_isLed, .ref y_isOn, .ref y_goesTo, .ref y_stream, .ref y_filled, .ref y_isDone, .ref y_isReached, .ref y_newUnits, .ref y_isNew])), (ya_lineUnits, .inl (cA 1, 400, .inl y_lineUnits)), (ya_lineFrom, .inl (cA 1, 400, .inl y_lineFrom)), (ya_lineMany, .inl (cA 1, 400, .inl y_lineMany)), (ya_isClosed, .inl (cA 3, 400, .inl y_isClosed)), (ya_insides, .inl (cA 1, 400, .inl y_insides)), (ya_isHigh, .inl (cA 3, 400, .inl y_isHigh)), (ya_inBits, .inl (cA 2, 8000, .inr (.inl y_inBits))), (ya_side, .inl (cA 1, 8000, .inl y_side)), (ya_sideA, .inl (cA 1, 8000, .inl y_sideA)), (ya_wasThere, .inl (cA 3, 1280, .inl y_wasThere))])) 0 0 (z_A [(y, .inr (6, [.ref y_space, .ref y_offset, .ref y_length, .ref y_units, .ref y_isThere, .int (z_i y_levels), .ref y_level, .int (z_i y_lines), .ref y_lineLevel, .ref ya_lineUnits, .ref ya_lineFrom, .ref ya_lineMany, .ref ya_isClosed, .ref ya_insides, .ref y_parent, .ref ya_isHigh, .ref ya_inBits, .int (z_i y_sides), .ref ya_side, .ref ya_sideA, .ref y_sideB, .int (z_i y_lineSpace), .ref ya_wasThere, .ref y_leads, .ref y_isLed, .ref y_isOn, .ref y_goesTo, .ref y_stream, .ref y_filled, .ref y_isDone, .ref y_isReached, .ref y_newUnits, .ref y_isNew])), (ya_lineUnits, .inl (cA 1, 400, .inl y_lineUnits)), (ya_lineFrom, .inl (cA 1, 400, .inl y_lineFrom)), (ya_lineMany, .inl (cA 1, 400, .inl y_lineMany)), (ya_isClosed, .inl (cA 3, 400, .inl y_isClosed)), (ya_insides, .inl (cA 1, 400, .inl y_insides)), (ya_isHigh, .inl (cA 3, 400, .inl y_isHigh)), (ya_inBits, .inl (cA 2, 8000, .inr (.inl y_inBits))), (ya_side, .inl (cA 1, 8000, .inl y_side)), (ya_sideA, .inl (cA 1, 8000, .inl y_sideA)), (ya_wasThere, .inl (cA 3, 1280, .inl y_wasThere))]) := by
  refine wk_X8_surrounds l D cA y y_space y_offset y_length y_units y_isThere y_levels y_level y_lines y_lineLevel ya_lineUnits y_lineUnits ya_lineFrom y_lineFrom ya_lineMany y_lineMany ya_isClosed y_isClosed ya_insides y_insides y_parent ya_isHigh y_isHigh ya_inBits y_inBits y_sides ya_side y_side ya_sideA y_sideA y_sideB y_lineSpace ya_wasThere y_wasThere y_leads y_isLed y_isOn y_goesTo y_stream y_filled y_isDone y_isReached y_newUnits y_isNew k h_y_levels h_y_lines h_y_sides h_y_lineSpace h_k (fun (y_insides' : (Nat → Int32)) (y_isHigh' : (Nat → Int32)) (y_inBits' : (Nat → Int64)) => e_S ls T U hs y_insides' y_isHigh' y_inBits' (k.toNat + 1)) ?_
  unfold vc_X8_surrounds
  obtain ⟨k, rfl⟩ := Int.eq_ofNat_of_zero_le hp1.1
  rw [Int.toNat_natCast] at hp6 ⊢
  obtain ⟨d1, d2, d3⟩ := hp2
  have hkl : k < ls.length := by omega
  obtain ⟨l, hl⟩ : ∃ l, ls[k]? = some l := ⟨_, List.getElem?_eq_getElem hkl⟩
  obtain ⟨g1, g2, g3, g4, g5⟩ := d3 k l hl
  obtain ⟨o1, o2, o3, o4⟩ := hp3 l (List.mem_of_getElem? hl)
  have hat := l_at_n hl
  have htk : d_tot (ls.take k) + l.2.2.length ≤ 8000 := by
    have h1 := d_tot_take_add hl
    have h2 := d_tot_take_le ls (k + 1)
    omega
  have hlen : 0 < l.2.2.length := by
    cases h : l.2.2 with
    | nil => exact absurd h o3
    | cons a b => exact Nat.succ_pos _
  have frame : ∀ (ins hi : Nat → Int32) (bits : Nat → Int64), (∀ q : Nat, q ≠ k → z_g ins q = z_g y_insides q) → (∀ q : Nat, q ≠ k → z_g hi q = z_g y_isHigh q) → (∀ w b : Nat, ¬ (20 * k ≤ w ∧ w < 20 * k + 20) → i_bt bits w b = i_bt y_inBits w b) → (z_g ins (k : Int) = (if l.2.1 = 1 then l_n T ls k else 0) ∧ z_g hi (k : Int) = z_b (decide (l.2.1 = 1) && l_hi T U hs ls k) ∧ ∀ q : Nat, q < 1280 → i_bt bits (20 * k + q / 64) (q % 64) = (decide (l.2.1 = 1) && a_in T l.2.2 (q : Int))) → e_S ls T U hs ins hi bits (k + 1) := by
    intro ins hi bits f1 f2 f3 f4 k2 l2 hk2 hl2
    by_cases e : k2 = k
    · subst e
      rw [hl] at hl2
      obtain rfl := Option.some.inj hl2
      exact f4
    · obtain ⟨a1, a2, a3⟩ := hp6 k2 l2 (by omega) hl2
      refine ⟨by rw [f1 k2 e]; exact a1, by rw [f2 k2 e]; exact a2, fun q hq => ?_⟩
      rw [f3 _ _ (by omega)]
      exact a3 q hq
  clear hp6
  intro L2 hL2
  suffices A : ∀ (d w : Nat) (bits : Nat → Int64), w + d = 20 → (∀ x b : Nat, i_bt bits x b = if 20 * k ≤ x ∧ x < 20 * k + w then false else i_bt y_inBits x b) → L2 w bits from A 20 0 _ rfl (fun x b => by rw [if_neg (by omega)])
  intro d
  induction d with
  | succ d ih =>
    intro w bits hw hb
    refine hL2 _ _ ⟨by omega, by omega⟩ ⟨fun h => absurd h (by omega), fun _ => ⟨⟨by omega, by omega⟩, ?_⟩⟩
    rintro f57 rfl
    refine ih (w + 1) _ (by omega) (fun x b => ?_)
    rw [i_z, hb x b, show (20 * (k : Int) + (w : Int)).toNat = 20 * k + w by omega]
    by_cases e : x = 20 * k + w
    · rw [if_pos e, if_pos (by omega)]
    · rw [if_neg e]
      by_cases e2 : 20 * k ≤ x ∧ x < 20 * k + w
      · rw [if_pos e2, if_pos (by omega)]
      · rw [if_neg e2, if_neg (by omega)]
  | zero =>
    intro w bits hw hb
    obtain rfl : w = 20 := by omega
    refine hL2 _ _ ⟨by omega, by omega⟩ ⟨fun _ => ⟨⟨by omega, by omega⟩, ?_⟩, fun h => absurd h (by omega)⟩
    rintro f2 rfl f4 rfl
    have i0 : z_in 0 := ⟨by decide, by decide⟩
    refine ⟨fun hc => ?_, fun hc => ?_⟩
    · have hc1 : l.2.1 = 1 := by
        rw [g4] at hc
        rcases o2 with h | h
        · exact absurd h hc
        · exact h
      intro L52 hL52
      suffices B : ∀ (d q : Nat) (ins : Nat → Int32) (bits : Nat → Int64), q + d = 1280 → (∀ x : Int, 0 ≤ x → z_g ins x = if x = k then a_cn (a_in T l.2.2) q else z_g y_insides x) → (∀ x b : Nat, ¬ (20 * k ≤ x ∧ x < 20 * k + 20) → i_bt bits x b = i_bt y_inBits x b) → (∀ x : Nat, x < 1280 → i_bt bits (20 * k + x / 64) (x % 64) = (decide (x < q) && a_in T l.2.2 (x : Int))) → L52 q ins bits from B 1280 0 _ _ rfl (fun x hx => by
        rw [z_gs i0 (by omega) hx]; rfl) (fun x b h => by rw [hb x b, if_neg h]) (fun x hx => by rw [hb, if_pos (by omega)]; rfl)
      intro d
      induction d with
      | zero =>
        intro q ins bits hq hi hb2 hb3
        obtain rfl : q = 1280 := by omega
        obtain ⟨s0, hs0⟩ : ∃ s, l.2.2[0]? = some s := ⟨_, List.getElem?_eq_getElem hlen⟩
        have hg := g5 0 s0 hs0
        rw [Nat.add_zero] at hg
        have hok := o4 s0 (List.mem_of_getElem? hs0)
        have hsd : l_sd ls k 0 = s0 := by unfold l_sd; rw [if_pos (by omega), hat, show (0 : Int).toNat = 0 from rfl, hs0]; rfl
        have hlu : l_lu ls hs k = z_g hs l.1 := by unfold l_lu; rw [hat, if_pos o1]
        have hk1 := hok.1
        have hk2 := hok.2.1
        have e1 : s0.tdiv 2 = s0 / 2 := Int.tdiv_eq_ediv_of_nonneg hok.1
        have e2 : s0.tmod 2 = s0 % 2 := Int.tmod_eq_emod_of_nonneg hok.1
        refine hL52 _ _ _ ⟨by omega, by omega⟩ ⟨fun _ => ?_, fun h => absurd h (by omega)⟩
        rintro v6 h6
        rw [g2] at h6
        subst h6
        rw [hg.1, hg.2, g1, e1, e2]
        refine ⟨⟨by omega, by omega⟩, ⟨by omega, by omega⟩, ?_⟩
        rintro v9 rfl
        have fin : ∀ h : Int, l_hp ls U hs k = h → 0 ≤ h ∧ h < 1280 → ∀ r16 : Int, r16 = z_b (i_bt bits (20 * (k : Int).toNat + h.toNat / 64) (h.toNat % 64)) → (r16 = 0 ∨ r16 = 1) ∧ (∀ f18 : Nat → Int32, f18 = z_s (z_s y_isHigh (k : Int) 0) (k : Int) r16 → e_S ls T U hs ins f18 bits (k + 1)) := by
          intro h hh hr r16 h16
          have hx : i_bt bits (20 * k + h.toNat / 64) (h.toNat % 64) = a_in T l.2.2 h := by
            rw [hb3 h.toNat (by omega), decide_eq_true (by omega), Bool.true_and, show ((h.toNat : Nat) : Int) = h by omega]
          rw [Int.toNat_natCast, hx] at h16
          refine ⟨by rw [h16]; exact z_b_01 _, ?_⟩
          rintro f18 rfl
          refine frame _ _ _ (fun q hq => ?_) (fun q hq => ?_) hb2 ⟨?_, ?_, fun q hq => ?_⟩
          · rw [hi q (by omega), if_neg (by omega)]
          · rw [z_gs (by rw [h16]; exact z_b_in _) (by omega) (by omega), if_neg (by omega), z_gs i0 (by omega) (by omega), if_neg (by omega)]
          · rw [hi k (by omega), if_pos rfl, if_pos hc1]
            unfold l_n; rw [hat]
          · rw [z_gs (by rw [h16]; exact z_b_in _) (by omega) (by omega), if_pos rfl, h16, decide_eq_true hc1, Bool.true_and]
            unfold l_hi; rw [hat, hh]
          · rw [hb3 q hq, decide_eq_true hq, decide_eq_true hc1]
        have hT1 := hp5 _ hok.2.2.1
        have hT2 := hp5 _ hok.2.2.2.1
        have hoe : l_oe s0 = s0 / 2 + (if s0 % 2 = 0 then 1 else 40) := rfl
        have hkr : (0 : Int) ≤ k ∧ (k : Int) < 400 := ⟨by omega, by omega⟩
        refine ⟨fun c => ⟨⟨by omega, by omega⟩, fun o => ?_, fun o => ?_⟩, fun c => ⟨hkr, hT1, ?_⟩⟩
        · rw [if_neg o] at hoe
          refine ⟨⟨by omega, by omega⟩, hkr, ⟨by omega, by omega⟩, ?_⟩
          intro r16 _ h16
          refine fin _ ?_ ⟨by omega, by omega⟩ r16 h16
          unfold l_hp; rw [hsd, hlu, if_neg (by omega)]; exact hoe
        · rw [if_pos o] at hoe
          refine ⟨⟨by omega, by omega⟩, hkr, ⟨by omega, by omega⟩, ?_⟩
          intro r16 _ h16
          refine fin _ ?_ ⟨by omega, by omega⟩ r16 h16
          unfold l_hp; rw [hsd, hlu, if_neg (by omega)]; exact hoe
        · intro r16 _ h16
          refine fin _ ?_ hT1 r16 h16
          unfold l_hp; rw [hsd, hlu, if_pos c]
      | succ d ih =>
        intro q ins bits hq hi hb2 hb3
        refine hL52 _ _ _ ⟨by omega, by omega⟩ ⟨fun h => absurd h (by omega), fun _ => ?_⟩
        rintro v33 h33
        rw [g2] at h33
        subst h33
        have hqr : (0 : Int) ≤ q ∧ (q : Int) < 1280 := ⟨by omega, by omega⟩
        have acs : a_cn (a_in T l.2.2) (q + 1) = a_cn (a_in T l.2.2) q + (if a_in T l.2.2 q = true then 1 else 0) := rfl
        have acb := a_cn_le (a_in T l.2.2) q
        have stay : a_in T l.2.2 (q : Int) = false → L52 ((q : Int) + 1) ins bits := by
          intro hf
          refine ih (q + 1) _ _ (by omega) (fun x hx => ?_) hb2 (fun x hx => ?_)
          · rw [hi x hx, acs, hf, if_neg (show ¬ (false = true) by decide), Int.add_zero]
          · rw [hb3 x hx]
            by_cases e : x = q
            · rw [e, hf, Bool.and_false, Bool.and_false]
            · by_cases e2 : x < q
              · rw [decide_eq_true e2, decide_eq_true (show x < q + 1 by omega)]
              · rw [decide_eq_false e2, decide_eq_false (show ¬ x < q + 1 by omega)]
        have add : a_in T l.2.2 (q : Int) = true → ∀ f38 : Nat → Int64, f38 = z_sl bits (20 * (k : Int) + ((q : Int).tdiv 64)) (z_orl (z_gl bits (20 * (k : Int) + ((q : Int).tdiv 64))) (z_shll 1 ((q : Int).tmod 64))) → ∀ f40 : Nat → Int32, f40 = z_s ins (k : Int) (z_g ins (k : Int) + 1) → L52 ((q : Int) + 1) f40 f38 := by
          intro ht f38 h38 f40 h40
          have e1 : (q : Int).tdiv 64 = ((q / 64 : Nat) : Int) := by rw [Int.tdiv_eq_ediv_of_nonneg (by omega)]; rfl
          have e2 : (q : Int).tmod 64 = ((q % 64 : Nat) : Int) := by rw [Int.tmod_eq_emod_of_nonneg (by omega)]; rfl
          rw [e1, e2] at h38
          have ek : (20 * (k : Int) + ((q / 64 : Nat) : Int)).toNat = 20 * k + q / 64 := by omega
          refine ih (q + 1) _ _ (by omega) (fun x hx => ?_) (fun x b h => ?_) (fun x hx => ?_)
          · rw [h40, hi k (by omega), if_pos rfl, z_gs ⟨by omega, by omega⟩ (by omega) hx, acs, ht, if_pos rfl]
            by_cases e : x = k
            · rw [if_pos e, if_pos e]
            · rw [if_neg e, if_neg e, hi x hx, if_neg e]
          · rw [h38]
            by_cases hb6 : b < 64
            · rw [i_wr (by omega) x b hb6, ek, if_neg (by omega)]; exact hb2 x b h
            · unfold i_bt z_sl vp_updL
              rw [if_neg (by omega)]; exact hb2 x b h
          · rw [h38, i_wr (by omega) _ _ (by omega), ek, hb3 x hx]
            by_cases e : x = q
            · rw [e, if_pos rfl, ht, decide_eq_true (show q % 64 = q % 64 from rfl), decide_eq_true (show q < q + 1 by omega), Bool.or_true]; rfl
            · by_cases e2 : 20 * k + x / 64 = 20 * k + q / 64
              · rw [if_pos e2, decide_eq_false (show ¬ x % 64 = q % 64 by omega), Bool.or_false]
                by_cases e3 : x < q
                · rw [decide_eq_true e3, decide_eq_true (show x < q + 1 by omega)]
                · rw [decide_eq_false e3, decide_eq_false (show ¬ x < q + 1 by omega)]
              · rw [if_neg e2]
                by_cases e3 : x < q
                · rw [decide_eq_true e3, decide_eq_true (show x < q + 1 by omega)]
                · rw [decide_eq_false e3, decide_eq_false (show ¬ x < q + 1 by omega)]
        have bnd : (0 ≤ (20 * (k : Int)) + ((q : Int).tdiv 64) ∧ (20 * (k : Int)) + ((q : Int).tdiv 64) < 8000) := by
          rw [Int.tdiv_eq_ediv_of_nonneg (by omega)]; omega
        intro L69 hL69
        suffices C : ∀ (d m : Nat), m + d = l.2.2.length → (T q = true ∨ m = 0) → L69 ((d_tot (ls.take k) : Int) + (m : Int)) ((l.2.2.take m).countP (a_cond q) : Int) from by
          have := C l.2.2.length 0 (by omega) (Or.inr rfl)
          rw [List.take_zero, List.countP_nil, show ((d_tot (ls.take k) : Int) + ((0 : Nat) : Int)) = (d_tot (ls.take k) : Int) by omega] at this
          exact this
        intro d
        induction d with
        | zero =>
          intro m hm hTm
          obtain rfl : m = l.2.2.length := by omega
          have hT : T q = true := by
            rcases hTm with h | h
            · exact h
            · omega
          have hcl : (l.2.2.take l.2.2.length).countP (a_cond q) ≤ 8000 := by
            rw [List.take_length]
            have := List.countP_le_length (p := a_cond q) (l := l.2.2)
            omega
          refine hL69 _ _ ⟨by omega, by omega⟩ ⟨by omega, by omega⟩ ⟨by rw [g2, g3]; exact ⟨by omega, by omega⟩, fun _ => ?_, fun h => absurd h (by rw [g2, g3]; omega)⟩
          rw [List.take_length] at hcl ⊢
          rw [Int.tmod_eq_emod_of_nonneg (by omega)]
          refine ⟨⟨by omega, by omega⟩, fun h => stay ?_, fun h => ⟨bnd, fun f38 h38 f40 h40 => add ?_ f38 h38 f40 h40⟩⟩
          · unfold a_in; rw [hT, Bool.true_and]; exact decide_eq_false (by omega)
          · unfold a_in; rw [hT, Bool.true_and]; exact decide_eq_true (by omega)
        | succ d ih2 =>
          intro m hm hTm
          have hcl : (l.2.2.take m).countP (a_cond q) ≤ 8000 := by
            have := List.countP_le_length (p := a_cond q) (l := l.2.2.take m)
            have h2 : (l.2.2.take m).length ≤ m := by rw [List.length_take]; omega
            omega
          refine hL69 _ _ ⟨by omega, by omega⟩ ⟨by omega, by omega⟩ ⟨by rw [g2, g3]; exact ⟨by omega, by omega⟩, fun h => absurd h (by rw [g2, g3]; omega), fun _ => ⟨hqr, fun h => ?_, fun h => ?_⟩⟩
          · have hT : ¬ T q = true := fun h2 => (hp4 q hqr.1 hqr.2).mpr h2 h
            have hm0 : m = 0 := by
              rcases hTm with h2 | h2
              · exact absurd h2 hT
              · exact h2
            rw [hm0, List.take_zero, List.countP_nil]
            refine ⟨⟨by decide, by decide⟩, fun _ => stay ?_, fun h3 => absurd h3 (by decide)⟩
            unfold a_in
            rw [Bool.eq_false_iff.mpr hT]; rfl
          · have hT : T q = true := (hp4 q hqr.1 hqr.2).mp h
            obtain ⟨s, hs⟩ : ∃ s, l.2.2[m]? = some s := ⟨_, List.getElem?_eq_getElem (by omega)⟩
            have hg := (g5 m s hs).1
            have hok := o4 s (List.mem_of_getElem? hs)
            have e1 : s.tdiv 2 = s / 2 := Int.tdiv_eq_ediv_of_nonneg hok.1
            have e2 : s.tmod 2 = s % 2 := Int.tmod_eq_emod_of_nonneg hok.1
            have e3 : (s / 2).tdiv 40 = s / 2 / 40 := Int.tdiv_eq_ediv_of_nonneg (by have := hok.1; omega)
            have e4 : (q : Int).tdiv 40 = q / 40 := Int.tdiv_eq_ediv_of_nonneg (by omega)
            rw [show ((d_tot (ls.take k) : Int) + (m : Int)) = ((d_tot (ls.take k) + m : Nat) : Int) by omega, hg, e1, e2]
            have hok1 := hok.1
            have hok2 := hok.2.1
            have nxt := ih2 (m + 1) (by omega) (Or.inl hT)
            rw [c_tk hs, show ((d_tot (ls.take k) : Int) + ((m + 1 : Nat) : Int)) = ((d_tot (ls.take k) + m : Nat) : Int) + 1 by omega] at nxt
            have no : a_cond q s = false → L69 (((d_tot (ls.take k) + m : Nat) : Int) + 1) (((l.2.2.take m).countP (a_cond q) : Int) + 0) := fun hf => by
              rw [hf, if_neg (show ¬ (false = true) by decide)] at nxt
              exact nxt
            have yes : a_cond q s = true → L69 (((d_tot (ls.take k) + m : Nat) : Int) + 1) (((l.2.2.take m).countP (a_cond q) : Int) + 1) := fun hf => by
              rw [hf, if_pos rfl] at nxt
              exact nxt
            refine ⟨⟨by omega, by omega⟩, ⟨by omega, by omega⟩, ?_⟩
            rintro v50 rfl
            rw [e3, e4]
            refine ⟨⟨by omega, by omega⟩, fun c1 => no (decide_eq_false (fun h => c1 h.1)), fun c1 => ⟨⟨by omega, by omega⟩, ⟨by omega, by omega⟩, fun c2 => no (decide_eq_false (fun h => c2 h.2.1)), fun c2 => ⟨fun c3 => no (decide_eq_false (fun h => by have := h.2.2; omega)), fun c3 => yes (decide_eq_true ⟨c1, c2, c3⟩)⟩⟩⟩
    · have hc1 : ¬ l.2.1 = 1 := by rw [g4] at hc; omega
      refine frame _ _ _ (fun q hq => ?_) (fun q hq => ?_) (fun x b h => by rw [hb x b, if_neg h]) ⟨?_, ?_, fun q hq => ?_⟩
      · rw [z_gs i0 (by omega) (by omega), if_neg (by omega)]
      · rw [z_gs i0 (by omega) (by omega), if_neg (by omega)]
      · rw [z_gs i0 (by omega) (by omega), if_pos rfl, if_neg hc1]
      · rw [z_gs i0 (by omega) (by omega), if_pos rfl, decide_eq_false hc1]; rfl
      · rw [hb, if_pos (by omega), decide_eq_false hc1]; rfl
