def q_01 (n : Int) (f : Nat → Int32) : Prop := ∀ i : Int, 0 ≤ i → i < n → z_g f i = 0 ∨ z_g f i = 1
theorem m_smK_q {T : Int → Bool} {U : Int → Int} {n : Int} (hU : ∀ p, T p = true → -8388608 ≤ U p ∧ U p ≤ 8388608) (k : Nat) : 0 ≤ (m_smK T U n k).2 ∧ (m_smK T U n k).2 ≤ k ∧ -(8388608 * (m_smK T U n k).2) ≤ (m_smK T U n k).1 ∧ (m_smK T U n k).1 ≤ 8388608 * (m_smK T U n k).2 := by
  induction k with
  | zero => exact ⟨Int.le_refl _, Int.le_refl _, Int.le_refl _, Int.le_refl _⟩
  | succ k ih =>
    unfold m_smK
    split
    · omega
    · next h =>
      have := hU _ (m_nb_th h).1
      dsimp only
      omega
def vc_X8_smooth (y_space : Nat → Int32) (y_offset : Nat → Int32) (y_length : Nat → Int32) (y_units : Nat → Int32) (y_isThere : Nat → Int32) (y_newUnits : Nat → Int32) (y_isNew : Nat → Int32) (gi : Int) (to : Int) (weight : Int) (Q : Int → (Nat → Int32) → (Nat → Int32) → (Nat → Int32) → (Nat → Int32) → (Nat → Int32) → (Nat → Int32) → (Nat → Int32) → Prop) : Prop :=
(∀ (r1 : Int), z_in r1 → (r1 = z_b (decide (0 ≤ gi ∧ gi ≤ 3))) → ((r1 = 0 → Q 0 y_space y_offset y_length y_units y_isThere y_newUnits y_isNew) ∧
(r1 ≠ 0 → (∀ (r2 : Int), z_in r2 → (r2 = z_b (decide (0 ≤ to ∧ to ≤ 3))) → ((r2 = 0 → Q 0 y_space y_offset y_length y_units y_isThere y_newUnits y_isNew) ∧
(r2 ≠ 0 → (∀ (r3 : Int), z_in r3 → (r3 = z_b (decide ((1 : Int) ≤ weight ∧ weight ≤ (1000 : Int)))) → ((r3 ≠ 0 → (∀ L30 : Int → (Nat → Int32) → (Nat → Int32) → Prop,
(∀ (x30_4 : Int) (y30_ya_newUnits : Nat → Int32) (y30_ya_isNew : Nat → Int32), z_in x30_4 → ((x30_4 ≥ 1280 → (0 ≤ gi ∧ gi < 4) ∧ (0 ≤ to ∧ to < 4) ∧ (∀ n : Int, 0 ≤ n → n < 1280 → z_g y30_ya_isNew n = 0 ∨ z_g y30_ya_isNew n = 1) ∧ (∀ (c7 : Nat → Int32) (c8 : Nat → Int32) (c9 : Nat → Int32) (c10 : Nat → Int32) (c11 : Nat → Int32), (c7 = z_s y_space to (z_g y_space gi) ∧ (∀ q : Int, 0 ≤ q → z_g c8 q = if 32 * to ≤ q ∧ q < 32 * to + 32 then z_g y_offset (q - 32 * to + 32 * gi) else z_g y_offset q) ∧ (∀ q : Int, 0 ≤ q → z_g c9 q = if 32 * to ≤ q ∧ q < 32 * to + 32 then z_g y_length (q - 32 * to + 32 * gi) else z_g y_length q) ∧ (∀ q : Int, 0 ≤ q → z_g c10 q = if 1280 * to ≤ q ∧ q < 1280 * to + 1280 then z_g y30_ya_newUnits (q - 1280 * to) else z_g y_units q) ∧ (∀ q : Int, 0 ≤ q → z_g c11 q = if 1280 * to ≤ q ∧ q < 1280 * to + 1280 then z_g y30_ya_isNew (q - 1280 * to) else z_g y_isThere q)) → Q 1 c7 c8 c9 c10 c11 y30_ya_newUnits y30_ya_isNew)) ∧
(x30_4 < 1280 → (0 ≤ (1280 * gi) + x30_4 ∧ (1280 * gi) + x30_4 < 5120) ∧ (0 ≤ x30_4 ∧ x30_4 < 1280) ∧ (z_g y_isThere ((1280 * gi) + x30_4) = 0 ∨ z_g y_isThere ((1280 * gi) + x30_4) = 1) ∧ (∀ f15 : Nat → Int32, f15 = z_s y30_ya_isNew x30_4 (z_g y_isThere ((1280 * gi) + x30_4)) → z_nl (weight * (z_g y_units ((1280 * gi) + x30_4))) ∧ (∀ v17 : Int, v17 = weight * (z_g y_units ((1280 * gi) + x30_4)) → (∀ L83 : Int → Int → Int → Prop,
(∀ (x83_8 : Int) (x83_7 : Int) (x83_5 : Int), z_in x83_8 → z_in x83_7 → z_nl x83_5 → ((x83_8 ≥ 8 → ((z_g f15 x30_4 = 0 → (∀ f20 : Nat → Int32, f20 = z_s y30_ya_newUnits x30_4 0 → L30 (x30_4 + 1) f20 f15)) ∧
(z_g f15 x30_4 ≠ 0 → (-(8388608 * x83_7) ≤ x83_5 ∧ x83_5 ≤ 8388608 * x83_7) ∧ (1 ≤ x83_7 ∧ x83_7 ≤ 10000) ∧ (∀ (r24 : Int), z_in r24 → (r24 = m_ne x83_5 x83_7) → (∀ f25 : Nat → Int32, f25 = z_s y30_ya_newUnits x30_4 r24 → L30 (x30_4 + 1) f25 f15))))) ∧
(x83_8 < 8 → ((z_g f15 x30_4 = 0 → ((z_g f15 x30_4 = 0 → (∀ f27 : Nat → Int32, f27 = z_s y30_ya_newUnits x30_4 0 → L30 (x30_4 + 1) f27 f15)) ∧
(z_g f15 x30_4 ≠ 0 → (-(8388608 * x83_7) ≤ x83_5 ∧ x83_5 ≤ 8388608 * x83_7) ∧ (1 ≤ x83_7 ∧ x83_7 ≤ 10000) ∧ (∀ (r31 : Int), z_in r31 → (r31 = m_ne x83_5 x83_7) → (∀ f32 : Nat → Int32, f32 = z_s y30_ya_newUnits x30_4 r31 → L30 (x30_4 + 1) f32 f15))))) ∧
(z_g f15 x30_4 ≠ 0 → (0 ≤ gi ∧ gi < 4) ∧ (0 ≤ x30_4 ∧ x30_4 < 1280) ∧ (0 ≤ x83_8 ∧ x83_8 < 8) ∧ (∀ (r37 : Int), z_in r37 → (r37 = m_nb (q_th y_isThere gi) x30_4 x83_8) → ((r37 < 0 → L83 (x83_8 + 2) x83_7 x83_5) ∧
(r37 ≥ 0 → (0 ≤ (1280 * gi) + r37 ∧ (1280 * gi) + r37 < 5120) ∧ z_nl (x83_5 + (z_g y_units ((1280 * gi) + r37))) ∧ (∀ v39 : Int, v39 = x83_5 + (z_g y_units ((1280 * gi) + r37)) → L83 (x83_8 + 2) (x83_7 + 1) v39)))))))) → L83 x83_8 x83_7 x83_5) →
L83 1 weight v17))))) → L30 x30_4 y30_ya_newUnits y30_ya_isNew) →
L30 0 y_newUnits y_isNew)) ∧
(r3 = 0 → Q 0 y_space y_offset y_length y_units y_isThere y_newUnits y_isNew)))))))))
set_option maxHeartbeats 4000000 in
set_option maxRecDepth 100000 in
theorem wk_X8_smooth (l : Launch) (D : va_G) (cA : Nat → ClassId) (y : Nat) (ya_space : Nat) (y_space : Nat → Int32) (ya_offset : Nat) (y_offset : Nat → Int32) (ya_length : Nat) (y_length : Nat → Int32) (ya_units : Nat) (y_units : Nat → Int32) (ya_isThere : Nat) (y_isThere : Nat → Int32) (y_levels : Int) (y_level : Nat) (y_lines : Int) (y_lineLevel : Nat) (y_lineUnits : Nat) (y_lineFrom : Nat) (y_lineMany : Nat) (y_isClosed : Nat) (y_insides : Nat) (y_parent : Nat) (y_isHigh : Nat) (y_inBits : Nat) (y_sides : Int) (y_side : Nat) (y_sideA : Nat) (y_sideB : Nat) (y_lineSpace : Int) (y_wasThere : Nat) (y_leads : Nat) (y_isLed : Nat) (y_isOn : Nat) (y_goesTo : Nat) (y_stream : Nat) (y_filled : Nat) (y_isDone : Nat) (y_isReached : Nat) (ya_newUnits : Nat) (y_newUnits : Nat → Int32) (ya_isNew : Nat) (y_isNew : Nat → Int32) (gi : Int) (to : Int) (weight : Int) (h_y_levels : z_in y_levels) (h_y_lines : z_in y_lines) (h_y_sides : z_in y_sides) (h_y_lineSpace : z_in y_lineSpace) (h_gi : z_in gi) (h_to : z_in to) (h_weight : z_in weight) (Q : Int → (Nat → Int32) → (Nat → Int32) → (Nat → Int32) → (Nat → Int32) → (Nat → Int32) → (Nat → Int32) → (Nat → Int32) → Prop) (hv : vc_X8_smooth y_space y_offset y_length y_units y_isThere y_newUnits y_isNew gi to weight Q) : Met l yX8_smooth wsX8_smooth ({ frames := 3, cells := 0, slots := 0, locals := 70 } : Room) (va_Pc [.ref y, .int (z_i gi), .int (z_i to), .int (z_i weight)] (z_M0 D cA [(y, .inr (6, [.ref ya_space, .ref ya_offset, .ref ya_length, .ref ya_units, .ref ya_isThere, .int (z_i y_levels), .ref y_level, .int (z_i y_lines), .ref y_lineLevel, .ref y_lineUnits, .ref y_lineFrom, .ref y_lineMany, .ref y_isClosed, .ref y_insides, .ref y_parent, .ref y_isHigh, .ref y_inBits, .int (z_i y_sides), .ref y_side, .ref y_sideA, .ref y_sideB, .int (z_i y_lineSpace), .ref y_wasThere, .ref y_leads, .ref y_isLed, .ref y_isOn, .ref y_goesTo, .ref y_stream, .ref y_filled, .ref y_isDone, .ref y_isReached, .ref ya_newUnits, .ref ya_isNew])), (ya_space, .inl (cA 1, 4, .inl y_space)), (ya_offset, .inl (cA 1, 128, .inl y_offset)), (ya_length, .inl (cA 1, 128, .inl y_length)), (ya_units, .inl (cA 1, 5120, .inl y_units)), (ya_isThere, .inl (cA 3, 5120, .inl y_isThere)), (ya_newUnits, .inl (cA 1, 1280, .inl y_newUnits)), (ya_isNew, .inl (cA 3, 1280, .inl y_isNew))])) (va_Qi (z_mi (fun v (u : (Nat → Int32) × (Nat → Int32) × (Nat → Int32) × (Nat → Int32) × (Nat → Int32) × (Nat → Int32) × (Nat → Int32)) => Q v u.1 u.2.1 u.2.2.1 u.2.2.2.1 u.2.2.2.2.1 u.2.2.2.2.2.1 u.2.2.2.2.2.2)) (fun (u : (Nat → Int32) × (Nat → Int32) × (Nat → Int32) × (Nat → Int32) × (Nat → Int32) × (Nat → Int32) × (Nat → Int32)) t => va_P D vwCl [(y, .inr (6, [.ref ya_space, .ref ya_offset, .ref ya_length, .ref ya_units, .ref ya_isThere, .int (z_i y_levels), .ref y_level, .int (z_i y_lines), .ref y_lineLevel, .ref y_lineUnits, .ref y_lineFrom, .ref y_lineMany, .ref y_isClosed, .ref y_insides, .ref y_parent, .ref y_isHigh, .ref y_inBits, .int (z_i y_sides), .ref y_side, .ref y_sideA, .ref y_sideB, .int (z_i y_lineSpace), .ref y_wasThere, .ref y_leads, .ref y_isLed, .ref y_isOn, .ref y_goesTo, .ref y_stream, .ref y_filled, .ref y_isDone, .ref y_isReached, .ref ya_newUnits, .ref ya_isNew])), (ya_space, .inl (cA 1, 4, .inl u.1)), (ya_offset, .inl (cA 1, 128, .inl u.2.1)), (ya_length, .inl (cA 1, 128, .inl u.2.2.1)), (ya_units, .inl (cA 1, 5120, .inl u.2.2.2.1)), (ya_isThere, .inl (cA 3, 5120, .inl u.2.2.2.2.1)), (ya_newUnits, .inl (cA 1, 1280, .inl u.2.2.2.2.2.1)), (ya_isNew, .inl (cA 3, 1280, .inl u.2.2.2.2.2.2))] t.heap) (z_A [(y, .inr (6, [.ref ya_space, .ref ya_offset, .ref ya_length, .ref ya_units, .ref ya_isThere, .int (z_i y_levels), .ref y_level, .int (z_i y_lines), .ref y_lineLevel, .ref y_lineUnits, .ref y_lineFrom, .ref y_lineMany, .ref y_isClosed, .ref y_insides, .ref y_parent, .ref y_isHigh, .ref y_inBits, .int (z_i y_sides), .ref y_side, .ref y_sideA, .ref y_sideB, .int (z_i y_lineSpace), .ref y_wasThere, .ref y_leads, .ref y_isLed, .ref y_isOn, .ref y_goesTo, .ref y_stream, .ref y_filled, .ref y_isDone, .ref y_isReached, .ref ya_newUnits, .ref ya_isNew])), (ya_space, .inl (cA 1, 4, .inl y_space)), (ya_offset, .inl (cA 1, 128, .inl y_offset)), (ya_length, .inl (cA 1, 128, .inl y_length)), (ya_units, .inl (cA 1, 5120, .inl y_units)), (ya_isThere, .inl (cA 3, 5120, .inl y_isThere)), (ya_newUnits, .inl (cA 1, 1280, .inl y_newUnits)), (ya_isNew, .inl (cA 3, 1280, .inl y_isNew))])) 0 0 (z_A [(y, .inr (6, [.ref ya_space, .ref ya_offset, .ref ya_length, .ref ya_units, .ref ya_isThere, .int (z_i y_levels), .ref y_level, .int (z_i y_lines), .ref y_lineLevel, .ref y_lineUnits, .ref y_lineFrom, .ref y_lineMany, .ref y_isClosed, .ref y_insides, .ref y_parent, .ref y_isHigh, .ref y_inBits, .int (z_i y_sides), .ref y_side, .ref y_sideA, .ref y_sideB, .int (z_i y_lineSpace), .ref y_wasThere, .ref y_leads, .ref y_isLed, .ref y_isOn, .ref y_goesTo, .ref y_stream, .ref y_filled, .ref y_isDone, .ref y_isReached, .ref ya_newUnits, .ref ya_isNew])), (ya_space, .inl (cA 1, 4, .inl y_space)), (ya_offset, .inl (cA 1, 128, .inl y_offset)), (ya_length, .inl (cA 1, 128, .inl y_length)), (ya_units, .inl (cA 1, 5120, .inl y_units)), (ya_isThere, .inl (cA 3, 5120, .inl y_isThere)), (ya_newUnits, .inl (cA 1, 1280, .inl y_newUnits)), (ya_isNew, .inl (cA 3, 1280, .inl y_isNew))]) := by
  unfold vc_X8_smooth at hv
  refine Met.ofW (cc := cX8_smooth) (maxL := 10) (ret := (some .boolean)) (by decide +kernel) rfl ?_
  intro p e s m args below meth c s₁ B hml hv0
  obtain ⟨rfl, hK, hP, hD0⟩ := hv0
  have hx := B.exec
  have hb := B.bytes
  have hr := B.returns
  have hts := atoms_spec (ws := wsX8_smooth) B.pre
  have hown : s.vm.findClass RX8 = some m.cls := findClass_of_methodNamed B.named
  have hlocks := B.notSynchronized
  have hD := z_D_self hD0
  generalize hAe : z_A [(y, .inr (6, [.ref ya_space, .ref ya_offset, .ref ya_length, .ref ya_units, .ref ya_isThere, .int (z_i y_levels), .ref y_level, .int (z_i y_lines), .ref y_lineLevel, .ref y_lineUnits, .ref y_lineFrom, .ref y_lineMany, .ref y_isClosed, .ref y_insides, .ref y_parent, .ref y_isHigh, .ref y_inBits, .int (z_i y_sides), .ref y_side, .ref y_sideA, .ref y_sideB, .int (z_i y_lineSpace), .ref y_wasThere, .ref y_leads, .ref y_isLed, .ref y_isOn, .ref y_goesTo, .ref y_stream, .ref y_filled, .ref y_isDone, .ref y_isReached, .ref ya_newUnits, .ref ya_isNew])), (ya_space, .inl (cA 1, 4, .inl y_space)), (ya_offset, .inl (cA 1, 128, .inl y_offset)), (ya_length, .inl (cA 1, 128, .inl y_length)), (ya_units, .inl (cA 1, 5120, .inl y_units)), (ya_isThere, .inl (cA 3, 5120, .inl y_isThere)), (ya_newUnits, .inl (cA 1, 1280, .inl y_newUnits)), (ya_isNew, .inl (cA 3, 1280, .inl y_isNew))] = A at *
  have hS : va_S A s.heap s.heap [] := va_S.rf
  have hl := lv_entry ([.ref y, .int (z_i gi), .int (z_i to), .int (z_i weight)]) (n := 10) (Nat.le_of_ble_eq_true rfl)
  rw [lg_entry_eq]
  generalize (lg_sl ([.ref y, .int (z_i gi), .int (z_i to), .int (z_i weight)]) ++ List.replicate (10 - (lg_sl ([.ref y, .int (z_i gi), .int (z_i to), .int (z_i weight)])).length) Slot.unset).toArray = ls at hl ⊢
  have hl : lv_has ls 10 [(0, .ref y), (1, .int (z_i gi)), (2, .int (z_i to)), (3, .int (z_i weight))] := hl
  refine lv_iload_n hx hb dX8_smooth_0 rfl (lv_at hl 1 rfl) ?_
  refine va_calli (va_runS (As := [.int (z_i gi)]) (rest := []) ⟨hx, hb, hml, hown, hts⟩ (mt_X8_isGrid l D cA gi h_gi) (va_cwS 1 hts gX8_smooth_X8_isGrid rfl rfl rfl (by decide +kernel) ⟨Nat.le_of_ble_eq_true rfl, Nat.le_of_ble_eq_true rfl⟩) ⟨z_bl0, fun U hU hW => ⟨rfl, z_b0 hK (hP.sub (ws' := []) [] rfl) hU hW⟩⟩ rfl rfl hl.1 rfl (lv_room (Nat.le_of_ble_eq_true rfl)) dX8_smooth_1 ⟨Nat.zero_le _, Nat.zero_le _⟩) hS (fun q _ h => h.elim) (fun q h => h.elim) (fun r0 u t H locs ht hvm hw hB hz1 hk1 hS => ?_)
  obtain ⟨r1, rfl, h_r1, hw⟩ := hw
  have hP := z_P_all hP hk1
  have hv := hv r1 h_r1 hw
  refine lx_if_eq (tgt := 25) hx hb dX8_smooth_4 (by decide) h_r1 (fun hc => ?_) (fun hc => ?_)
  · have hv := hv.1 hc
    refine lv_iconst (v := z_i 0) hx hb dX8_smooth_25 rfl ?_
    exact W.zret (v := z_i 0) hx hb hr (by decide) (fun t ht hW => ⟨⟨z_i 0, (y_space, y_offset, y_length, y_units, y_isThere, y_newUnits, y_isNew), rfl, ⟨0, rfl, (show z_in 0 from ⟨by decide, by decide⟩), hv⟩, z_pt hP ht⟩, hS.F ht⟩) hS.2.2 dX8_smooth_26
  · have hv := hv.2 hc
    refine lv_iload_n hx hb dX8_smooth_7 rfl (lv_at hl 2 rfl) ?_
    refine va_calli (va_runS (As := [.int (z_i to)]) (rest := []) ⟨hx, hb, hml, hown, hts⟩ (mt_X8_isGrid l D cA to h_to) (va_cwS 1 hts gX8_smooth_X8_isGrid rfl rfl rfl (by decide +kernel) ⟨Nat.le_of_ble_eq_true rfl, Nat.le_of_ble_eq_true rfl⟩) ⟨z_bl0, fun U hU hW => ⟨rfl, z_b0 hK (hP.sub (ws' := []) [] rfl) hU hW⟩⟩ rfl rfl hl.1 rfl (lv_room (Nat.le_of_ble_eq_true rfl)) dX8_smooth_8 ⟨Nat.zero_le _, Nat.zero_le _⟩) hS (fun q _ h => h.elim) (fun q h => h.elim) (fun r0 u t H locs ht hvm hw hB hz1 hk1 hS => ?_)
    obtain ⟨r2, rfl, h_r2, hw⟩ := hw
    have hP := z_P_all hP hk1
    have hv := hv r2 h_r2 hw
    refine lx_if_eq (tgt := 25) hx hb dX8_smooth_11 (by decide) h_r2 (fun hc => ?_) (fun hc => ?_)
    · have hv := hv.1 hc
      refine lv_iconst (v := z_i 0) hx hb dX8_smooth_25 rfl ?_
      exact W.zret (v := z_i 0) hx hb hr (by decide) (fun t ht hW => ⟨⟨z_i 0, (y_space, y_offset, y_length, y_units, y_isThere, y_newUnits, y_isNew), rfl, ⟨0, rfl, (show z_in 0 from ⟨by decide, by decide⟩), hv⟩, z_pt hP ht⟩, hS.F ht⟩) hS.2.2 dX8_smooth_26
    · have hv := hv.2 hc
      refine lv_iload_n hx hb dX8_smooth_14 rfl (lv_at hl 3 rfl) ?_
      refine lv_iconst (v := z_i 1) hx hb dX8_smooth_15 rfl ?_
      refine lv_sipush (v := z_i 1000) hx hb dX8_smooth_16 (by decide) ?_
      refine va_calli (va_runS (As := [.int (z_i weight), .int (z_i 1), .int (z_i 1000)]) (rest := []) ⟨hx, hb, hml, hown, hts⟩ (mt_X8_in l D cA weight 1 1000 h_weight (show z_in 1 from ⟨by decide, by decide⟩) (show z_in 1000 from ⟨by decide, by decide⟩)) (va_cwS 3 hts gX8_smooth_X8_in rfl rfl rfl (by decide +kernel) ⟨Nat.le_of_ble_eq_true rfl, Nat.le_of_ble_eq_true rfl⟩) ⟨z_bl0, fun U hU hW => ⟨rfl, z_b0 hK (hP.sub (ws' := []) [] rfl) hU hW⟩⟩ rfl rfl hl.1 rfl (lv_room (Nat.le_of_ble_eq_true rfl)) dX8_smooth_19 ⟨Nat.zero_le _, Nat.zero_le _⟩) hS (fun q _ h => h.elim) (fun q h => h.elim) (fun r0 u t H locs ht hvm hw hB hz1 hk1 hS => ?_)
      obtain ⟨r3, rfl, h_r3, hw⟩ := hw
      have hP := z_P_all hP hk1
      have hv := hv r3 h_r3 hw
      refine lx_if_ne (tgt := 27) hx hb dX8_smooth_22 (by decide) h_r3 (fun hc => ?_) (fun hc => ?_)
      · have hv := hv.1 hc
        refine lv_iconst (v := z_i 0) hx hb dX8_smooth_27 rfl ?_
        refine lv_istore (lv' := [(4, .int (z_i 0)), (0, .ref y), (1, .int (z_i gi)), (2, .int (z_i to)), (3, .int (z_i weight))]) hx hb dX8_smooth_28 hl (by decide) rfl (fun ls hl => ?_)
        refine hv (fun (x30_4 : Int) (y30_ya_newUnits : Nat → Int32) (y30_ya_isNew : Nat → Int32) => ∀ (H : Heap) (locs : List Loc) (ls : Array Slot), va_P D vwCl [(y, .inr (6, [.ref ya_space, .ref ya_offset, .ref ya_length, .ref ya_units, .ref ya_isThere, .int (z_i y_levels), .ref y_level, .int (z_i y_lines), .ref y_lineLevel, .ref y_lineUnits, .ref y_lineFrom, .ref y_lineMany, .ref y_isClosed, .ref y_insides, .ref y_parent, .ref y_isHigh, .ref y_inBits, .int (z_i y_sides), .ref y_side, .ref y_sideA, .ref y_sideB, .int (z_i y_lineSpace), .ref y_wasThere, .ref y_leads, .ref y_isLed, .ref y_isOn, .ref y_goesTo, .ref y_stream, .ref y_filled, .ref y_isDone, .ref y_isReached, .ref ya_newUnits, .ref ya_isNew])), (ya_space, .inl (cA 1, 4, .inl y_space)), (ya_offset, .inl (cA 1, 128, .inl y_offset)), (ya_length, .inl (cA 1, 128, .inl y_length)), (ya_units, .inl (cA 1, 5120, .inl y_units)), (ya_isThere, .inl (cA 3, 5120, .inl y_isThere)), (ya_newUnits, .inl (cA 1, 1280, .inl y30_ya_newUnits)), (ya_isNew, .inl (cA 3, 1280, .inl y30_ya_isNew))] H → va_D A [(y, .inr (6, [.ref ya_space, .ref ya_offset, .ref ya_length, .ref ya_units, .ref ya_isThere, .int (z_i y_levels), .ref y_level, .int (z_i y_lines), .ref y_lineLevel, .ref y_lineUnits, .ref y_lineFrom, .ref y_lineMany, .ref y_isClosed, .ref y_insides, .ref y_parent, .ref y_isHigh, .ref y_inBits, .int (z_i y_sides), .ref y_side, .ref y_sideA, .ref y_sideB, .int (z_i y_lineSpace), .ref y_wasThere, .ref y_leads, .ref y_isLed, .ref y_isOn, .ref y_goesTo, .ref y_stream, .ref y_filled, .ref y_isDone, .ref y_isReached, .ref ya_newUnits, .ref ya_isNew])), (ya_space, .inl (cA 1, 4, .inl y_space)), (ya_offset, .inl (cA 1, 128, .inl y_offset)), (ya_length, .inl (cA 1, 128, .inl y_length)), (ya_units, .inl (cA 1, 5120, .inl y_units)), (ya_isThere, .inl (cA 3, 5120, .inl y_isThere)), (ya_newUnits, .inl (cA 1, 1280, .inl y30_ya_newUnits)), (ya_isNew, .inl (cA 3, 1280, .inl y30_ya_isNew))] → va_S A s.heap H locs → lv_has ls 10 [(4, .int (z_i x30_4)), (0, .ref y), (1, .int (z_i gi)), (2, .int (z_i to)), (3, .int (z_i weight))] → W p l e _ s m _ below meth c H locs 0 0 _ (F0 m 30 ls [])) ?_ _ _ ls hP hD hS (lv_sub hl [0, 1, 2, 3, 4] rfl)
        intro x30_4 y30_ya_newUnits y30_ya_isNew h_x30_4 hv H locs ls hP hD hS hl
        refine lv_iload hx hb dX8_smooth_30 (lv_at hl 0 rfl) ?_
        refine lv_sipush (v := z_i 1280) hx hb dX8_smooth_32 (by decide) ?_
        refine lx_icmp_ge (tgt := 179) hx hb dX8_smooth_35 (by decide) h_x30_4 (show z_in 1280 from ⟨by decide, by decide⟩) (fun hc => ?_) (fun hc => ?_)
        · have hv := hv.1 hc
          refine lv_aload_n hx hb dX8_smooth_179 rfl (lv_at hl 1 rfl) ?_
          refine lv_iload_n hx hb dX8_smooth_180 rfl (lv_at hl 2 rfl) ?_
          refine lv_iload_n hx hb dX8_smooth_181 rfl (lv_at hl 3 rfl) ?_
          obtain ⟨hp4, hv⟩ := hv
          obtain ⟨hp5, hv⟩ := hv
          obtain ⟨hp6, hv⟩ := hv
          have hFc := z_fr (A := A) (wc := [(y, .inr (6, [.ref ya_space, .ref ya_offset, .ref ya_length, .ref ya_units, .ref ya_isThere, .int (z_i y_levels), .ref y_level, .int (z_i y_lines), .ref y_lineLevel, .ref y_lineUnits, .ref y_lineFrom, .ref y_lineMany, .ref y_isClosed, .ref y_insides, .ref y_parent, .ref y_isHigh, .ref y_inBits, .int (z_i y_sides), .ref y_side, .ref y_sideA, .ref y_sideB, .int (z_i y_lineSpace), .ref y_wasThere, .ref y_leads, .ref y_isLed, .ref y_isOn, .ref y_goesTo, .ref y_stream, .ref y_filled, .ref y_isDone, .ref y_isReached, .ref ya_newUnits, .ref ya_isNew])), (ya_space, .inl (cA 1, 4, .inl y_space)), (ya_offset, .inl (cA 1, 128, .inl y_offset)), (ya_length, .inl (cA 1, 128, .inl y_length)), (ya_units, .inl (cA 1, 5120, .inl y_units)), (ya_isThere, .inl (cA 3, 5120, .inl y_isThere)), (ya_newUnits, .inl (cA 1, 1280, .inl y30_ya_newUnits)), (ya_isNew, .inl (cA 3, 1280, .inl y30_ya_isNew))]) hD [0, 1, 2, 3, 4, 5, 6, 7] rfl
          refine va_callv (va_runV (As := [.int (z_i gi), .int (z_i to)]) (rest := []) ⟨hx, hb, hml, hown, hts⟩ (mt_X8_takes l D cA y ya_space y_space ya_offset y_offset ya_length y_length ya_units y_units ya_isThere y_isThere y_levels y_level y_lines y_lineLevel y_lineUnits y_lineFrom y_lineMany y_isClosed y_insides y_parent y_isHigh y_inBits y_sides y_side y_sideA y_sideB y_lineSpace y_wasThere y_leads y_isLed y_isOn y_goesTo y_stream y_filled y_isDone y_isReached ya_newUnits y30_ya_newUnits ya_isNew y30_ya_isNew gi to h_y_levels h_y_lines h_y_sides h_y_lineSpace h_gi h_to hp4 hp5 hp6) (cwV 2 hts gX8_smooth_X8_takes rfl rfl rfl (by decide +kernel) ⟨Nat.le_of_ble_eq_true rfl, Nat.le_of_ble_eq_true rfl⟩) ⟨z_blm0, va_recv hK hP (ci := 6) (q0 := 0) rfl rfl, fun U hU hW => ⟨rfl, z_m0 hK hP hD hU hW⟩⟩ rfl rfl hl.1 rfl (lv_room (Nat.le_of_ble_eq_true rfl)) dX8_smooth_182 ⟨Nat.zero_le _, Nat.zero_le _⟩) hS (fun q _ h => hFc q h) hFc (fun u t H locs ht hvm hw hB hz1 hk1 hS => ?_)
          obtain ⟨c7, c8, c9, c10, c11⟩ := u
          rw [ht] at hB
          have hP := hB
          have hP : va_P D vwCl [(y, .inr (6, [.ref ya_space, .ref ya_offset, .ref ya_length, .ref ya_units, .ref ya_isThere, .int (z_i y_levels), .ref y_level, .int (z_i y_lines), .ref y_lineLevel, .ref y_lineUnits, .ref y_lineFrom, .ref y_lineMany, .ref y_isClosed, .ref y_insides, .ref y_parent, .ref y_isHigh, .ref y_inBits, .int (z_i y_sides), .ref y_side, .ref y_sideA, .ref y_sideB, .int (z_i y_lineSpace), .ref y_wasThere, .ref y_leads, .ref y_isLed, .ref y_isOn, .ref y_goesTo, .ref y_stream, .ref y_filled, .ref y_isDone, .ref y_isReached, .ref ya_newUnits, .ref ya_isNew])), (ya_space, .inl (cA 1, 4, .inl c7)), (ya_offset, .inl (cA 1, 128, .inl c8)), (ya_length, .inl (cA 1, 128, .inl c9)), (ya_units, .inl (cA 1, 5120, .inl c10)), (ya_isThere, .inl (cA 3, 5120, .inl c11)), (ya_newUnits, .inl (cA 1, 1280, .inl y30_ya_newUnits)), (ya_isNew, .inl (cA 3, 1280, .inl y30_ya_isNew))] H := hP
          have hD : va_D A [(y, .inr (6, [.ref ya_space, .ref ya_offset, .ref ya_length, .ref ya_units, .ref ya_isThere, .int (z_i y_levels), .ref y_level, .int (z_i y_lines), .ref y_lineLevel, .ref y_lineUnits, .ref y_lineFrom, .ref y_lineMany, .ref y_isClosed, .ref y_insides, .ref y_parent, .ref y_isHigh, .ref y_inBits, .int (z_i y_sides), .ref y_side, .ref y_sideA, .ref y_sideB, .int (z_i y_lineSpace), .ref y_wasThere, .ref y_leads, .ref y_isLed, .ref y_isOn, .ref y_goesTo, .ref y_stream, .ref y_filled, .ref y_isDone, .ref y_isReached, .ref ya_newUnits, .ref ya_isNew])), (ya_space, .inl (cA 1, 4, .inl c7)), (ya_offset, .inl (cA 1, 128, .inl c8)), (ya_length, .inl (cA 1, 128, .inl c9)), (ya_units, .inl (cA 1, 5120, .inl c10)), (ya_isThere, .inl (cA 3, 5120, .inl c11)), (ya_newUnits, .inl (cA 1, 1280, .inl y30_ya_newUnits)), (ya_isNew, .inl (cA 3, 1280, .inl y30_ya_isNew))] := z_D_addr hD rfl
          have hv := hv c7 c8 c9 c10 c11 hw
          refine lv_iconst (v := z_i 1) hx hb dX8_smooth_185 rfl ?_
          exact W.zret (v := z_i 1) hx hb hr (by decide) (fun t ht hW => ⟨⟨z_i 1, (c7, c8, c9, c10, c11, y30_ya_newUnits, y30_ya_isNew), rfl, ⟨1, rfl, (show z_in 1 from ⟨by decide, by decide⟩), hv⟩, z_pt hP ht⟩, hS.F ht⟩) hS.2.2 dX8_smooth_186
        · have hv := hv.2 hc
          refine lv_aload_n hx hb dX8_smooth_38 rfl (lv_at hl 1 rfl) ?_
          refine va_get (D := D) (ci := 6) (v := .ref ya_isNew) (C := RX8) (T := TX8) (N := 33) hx hb hts (fun w h => List.mem_cons_of_mem _ (List.mem_append_right _ h)) hown hK hP 0 rfl rfl 32 (by decide) (hts (.fieldLink RX8 96 "ContourSheetsModel" "isNew" "[Z") (by decide +kernel)) (fun _ h9 => h9) rfl dX8_smooth_39 ?_
          refine lv_iload hx hb dX8_smooth_42 (lv_at hl 0 rfl) ?_
          refine lv_aload_n hx hb dX8_smooth_44 rfl (lv_at hl 1 rfl) ?_
          refine va_get (D := D) (ci := 6) (v := .ref ya_isThere) (C := RX8) (T := TX8) (N := 33) hx hb hts (fun w h => List.mem_cons_of_mem _ (List.mem_append_right _ h)) hown hK hP 0 rfl rfl 4 (by decide) (hts (.fieldLink RX8 22 "ContourSheetsModel" "isThere" "[Z") (by decide +kernel)) (fun _ h9 => h9) rfl dX8_smooth_45 ?_
          refine lv_sipush (v := z_i 1280) hx hb dX8_smooth_48 (by decide) ?_
          refine lv_iload_n hx hb dX8_smooth_51 rfl (lv_at hl 2 rfl) ?_
          refine lx_imul hx hb dX8_smooth_52 ?_
          refine lv_iload hx hb dX8_smooth_53 (lv_at hl 0 rfl) ?_
          refine lx_iadd hx hb dX8_smooth_55 ?_
          obtain ⟨hi12, hv⟩ := hv
          refine lx_zald hx hb hK hP 5 3 rfl rfl (by decide) hi12.1 hi12.2 dX8_smooth_56 ?_
          obtain ⟨hi13, hv⟩ := hv
          obtain ⟨hb14, hv⟩ := hv
          refine lx_zast hx hb hK hP hD hS 7 3 rfl rfl (by decide) hi13.1 hi13.2 hb14 dX8_smooth_57 (fun H locs hP hD hS => ?_)
          obtain ⟨f15, hy16⟩ : ∃ y : Nat → Int32, y = z_s y30_ya_isNew x30_4 (z_g y_isThere ((1280 * gi) + x30_4)) := ⟨_, rfl⟩
          have hv := hv f15 hy16
          have hP : va_P D vwCl [(y, .inr (6, [.ref ya_space, .ref ya_offset, .ref ya_length, .ref ya_units, .ref ya_isThere, .int (z_i y_levels), .ref y_level, .int (z_i y_lines), .ref y_lineLevel, .ref y_lineUnits, .ref y_lineFrom, .ref y_lineMany, .ref y_isClosed, .ref y_insides, .ref y_parent, .ref y_isHigh, .ref y_inBits, .int (z_i y_sides), .ref y_side, .ref y_sideA, .ref y_sideB, .int (z_i y_lineSpace), .ref y_wasThere, .ref y_leads, .ref y_isLed, .ref y_isOn, .ref y_goesTo, .ref y_stream, .ref y_filled, .ref y_isDone, .ref y_isReached, .ref ya_newUnits, .ref ya_isNew])), (ya_space, .inl (cA 1, 4, .inl y_space)), (ya_offset, .inl (cA 1, 128, .inl y_offset)), (ya_length, .inl (cA 1, 128, .inl y_length)), (ya_units, .inl (cA 1, 5120, .inl y_units)), (ya_isThere, .inl (cA 3, 5120, .inl y_isThere)), (ya_newUnits, .inl (cA 1, 1280, .inl y30_ya_newUnits)), (ya_isNew, .inl (cA 3, 1280, .inl f15))] H := by rw [hy16]; exact hP
          have hD : va_D A [(y, .inr (6, [.ref ya_space, .ref ya_offset, .ref ya_length, .ref ya_units, .ref ya_isThere, .int (z_i y_levels), .ref y_level, .int (z_i y_lines), .ref y_lineLevel, .ref y_lineUnits, .ref y_lineFrom, .ref y_lineMany, .ref y_isClosed, .ref y_insides, .ref y_parent, .ref y_isHigh, .ref y_inBits, .int (z_i y_sides), .ref y_side, .ref y_sideA, .ref y_sideB, .int (z_i y_lineSpace), .ref y_wasThere, .ref y_leads, .ref y_isLed, .ref y_isOn, .ref y_goesTo, .ref y_stream, .ref y_filled, .ref y_isDone, .ref y_isReached, .ref ya_newUnits, .ref ya_isNew])), (ya_space, .inl (cA 1, 4, .inl y_space)), (ya_offset, .inl (cA 1, 128, .inl y_offset)), (ya_length, .inl (cA 1, 128, .inl y_length)), (ya_units, .inl (cA 1, 5120, .inl y_units)), (ya_isThere, .inl (cA 3, 5120, .inl y_isThere)), (ya_newUnits, .inl (cA 1, 1280, .inl y30_ya_newUnits)), (ya_isNew, .inl (cA 3, 1280, .inl f15))] := by rw [hy16]; exact hD
          refine lv_iload_n hx hb dX8_smooth_58 rfl (lv_at hl 4 rfl) ?_
          refine lx_i2l hx hb dX8_smooth_59 h_weight ?_
          refine lv_aload_n hx hb dX8_smooth_60 rfl (lv_at hl 1 rfl) ?_
          refine va_get (D := D) (ci := 6) (v := .ref ya_units) (C := RX8) (T := TX8) (N := 33) hx hb hts (fun w h => List.mem_cons_of_mem _ (List.mem_append_right _ h)) hown hK hP 0 rfl rfl 3 (by decide) (hts (.fieldLink RX8 19 "ContourSheetsModel" "units" "[I") (by decide +kernel)) (fun _ h9 => h9) rfl dX8_smooth_61 ?_
          refine lv_sipush (v := z_i 1280) hx hb dX8_smooth_64 (by decide) ?_
          refine lv_iload_n hx hb dX8_smooth_67 rfl (lv_at hl 2 rfl) ?_
          refine lx_imul hx hb dX8_smooth_68 ?_
          refine lv_iload hx hb dX8_smooth_69 (lv_at hl 0 rfl) ?_
          refine lx_iadd hx hb dX8_smooth_71 ?_
          refine lx_iald hx hb hK hP 4 1 rfl rfl (by decide) hi12.1 hi12.2 dX8_smooth_72 ?_
          refine lx_i2l hx hb dX8_smooth_73 (z_in_g _ _) ?_
          refine lx_lmul hx hb dX8_smooth_74 ?_
          obtain ⟨hr18, hv⟩ := hv
          refine lx_topl (fun v17 hy19 => ?_)
          have hv := hv v17 hy19
          have h_v17 : z_nl v17 := by rw [hy19]; exact hr18
          refine lv_lstore (lv' := [(5, .long (z_l v17)), (4, .int (z_i x30_4)), (0, .ref y), (1, .int (z_i gi)), (2, .int (z_i to)), (3, .int (z_i weight))]) hx hb dX8_smooth_75 hl (by decide) rfl (fun ls hl => ?_)
          refine lv_iload_n hx hb dX8_smooth_77 rfl (lv_at hl 5 rfl) ?_
          refine lv_istore (lv' := [(7, .int (z_i weight)), (5, .long (z_l v17)), (4, .int (z_i x30_4)), (0, .ref y), (1, .int (z_i gi)), (2, .int (z_i to)), (3, .int (z_i weight))]) hx hb dX8_smooth_78 hl (by decide) rfl (fun ls hl => ?_)
          refine lv_iconst (v := z_i 1) hx hb dX8_smooth_80 rfl ?_
          refine lv_istore (lv' := [(8, .int (z_i 1)), (7, .int (z_i weight)), (5, .long (z_l v17)), (4, .int (z_i x30_4)), (0, .ref y), (1, .int (z_i gi)), (2, .int (z_i to)), (3, .int (z_i weight))]) hx hb dX8_smooth_81 hl (by decide) rfl (fun ls hl => ?_)
          refine hv (fun (x83_8 : Int) (x83_7 : Int) (x83_5 : Int) => ∀ (H : Heap) (locs : List Loc) (ls : Array Slot), va_P D vwCl [(y, .inr (6, [.ref ya_space, .ref ya_offset, .ref ya_length, .ref ya_units, .ref ya_isThere, .int (z_i y_levels), .ref y_level, .int (z_i y_lines), .ref y_lineLevel, .ref y_lineUnits, .ref y_lineFrom, .ref y_lineMany, .ref y_isClosed, .ref y_insides, .ref y_parent, .ref y_isHigh, .ref y_inBits, .int (z_i y_sides), .ref y_side, .ref y_sideA, .ref y_sideB, .int (z_i y_lineSpace), .ref y_wasThere, .ref y_leads, .ref y_isLed, .ref y_isOn, .ref y_goesTo, .ref y_stream, .ref y_filled, .ref y_isDone, .ref y_isReached, .ref ya_newUnits, .ref ya_isNew])), (ya_space, .inl (cA 1, 4, .inl y_space)), (ya_offset, .inl (cA 1, 128, .inl y_offset)), (ya_length, .inl (cA 1, 128, .inl y_length)), (ya_units, .inl (cA 1, 5120, .inl y_units)), (ya_isThere, .inl (cA 3, 5120, .inl y_isThere)), (ya_newUnits, .inl (cA 1, 1280, .inl y30_ya_newUnits)), (ya_isNew, .inl (cA 3, 1280, .inl f15))] H → va_D A [(y, .inr (6, [.ref ya_space, .ref ya_offset, .ref ya_length, .ref ya_units, .ref ya_isThere, .int (z_i y_levels), .ref y_level, .int (z_i y_lines), .ref y_lineLevel, .ref y_lineUnits, .ref y_lineFrom, .ref y_lineMany, .ref y_isClosed, .ref y_insides, .ref y_parent, .ref y_isHigh, .ref y_inBits, .int (z_i y_sides), .ref y_side, .ref y_sideA, .ref y_sideB, .int (z_i y_lineSpace), .ref y_wasThere, .ref y_leads, .ref y_isLed, .ref y_isOn, .ref y_goesTo, .ref y_stream, .ref y_filled, .ref y_isDone, .ref y_isReached, .ref ya_newUnits, .ref ya_isNew])), (ya_space, .inl (cA 1, 4, .inl y_space)), (ya_offset, .inl (cA 1, 128, .inl y_offset)), (ya_length, .inl (cA 1, 128, .inl y_length)), (ya_units, .inl (cA 1, 5120, .inl y_units)), (ya_isThere, .inl (cA 3, 5120, .inl y_isThere)), (ya_newUnits, .inl (cA 1, 1280, .inl y30_ya_newUnits)), (ya_isNew, .inl (cA 3, 1280, .inl f15))] → va_S A s.heap H locs → lv_has ls 10 [(8, .int (z_i x83_8)), (7, .int (z_i x83_7)), (5, .long (z_l x83_5)), (4, .int (z_i x30_4)), (0, .ref y), (1, .int (z_i gi)), (2, .int (z_i to)), (3, .int (z_i weight))] → W p l e _ s m _ below meth c H locs 0 0 _ (F0 m 83 ls [])) ?_ _ _ ls hP hD hS (lv_sub hl [0, 1, 2, 3, 4, 5, 6, 7] rfl)
          intro x83_8 x83_7 x83_5 h_x83_8 h_x83_7 h_x83_5 hv H locs ls hP hD hS hl
          refine lv_iload hx hb dX8_smooth_83 (lv_at hl 0 rfl) ?_
          refine lv_bipush (v := z_i 8) hx hb dX8_smooth_85 (by decide) ?_
          refine lx_icmp_ge (tgt := 144) hx hb dX8_smooth_87 (by decide) h_x83_8 (show z_in 8 from ⟨by decide, by decide⟩) (fun hc => ?_) (fun hc => ?_)
          · have hv := hv.1 hc
            refine lv_aload_n hx hb dX8_smooth_144 rfl (lv_at hl 4 rfl) ?_
            refine va_get (D := D) (ci := 6) (v := .ref ya_newUnits) (C := RX8) (T := TX8) (N := 33) hx hb hts (fun w h => List.mem_cons_of_mem _ (List.mem_append_right _ h)) hown hK hP 0 rfl rfl 31 (by decide) (hts (.fieldLink RX8 93 "ContourSheetsModel" "newUnits" "[I") (by decide +kernel)) (fun _ h9 => h9) rfl dX8_smooth_145 ?_
            refine lv_iload hx hb dX8_smooth_148 (lv_at hl 3 rfl) ?_
            refine lv_aload_n hx hb dX8_smooth_150 rfl (lv_at hl 4 rfl) ?_
            refine va_get (D := D) (ci := 6) (v := .ref ya_isNew) (C := RX8) (T := TX8) (N := 33) hx hb hts (fun w h => List.mem_cons_of_mem _ (List.mem_append_right _ h)) hown hK hP 0 rfl rfl 32 (by decide) (hts (.fieldLink RX8 96 "ContourSheetsModel" "isNew" "[Z") (by decide +kernel)) (fun _ h9 => h9) rfl dX8_smooth_151 ?_
            refine lv_iload hx hb dX8_smooth_154 (lv_at hl 3 rfl) ?_
            refine lx_zald hx hb hK hP 7 3 rfl rfl (by decide) hi13.1 hi13.2 dX8_smooth_156 ?_
            refine lx_if_eq (tgt := 171) hx hb dX8_smooth_157 (by decide) (z_in_g _ _) (fun hc => ?_) (fun hc => ?_)
            · have hv := hv.1 hc
              refine lv_iconst (v := z_i 0) hx hb dX8_smooth_171 rfl ?_
              refine lx_iast hx hb hK hP hD hS 6 1 rfl rfl (by decide) hi13.1 hi13.2 dX8_smooth_172 (fun H locs hP hD hS => ?_)
              obtain ⟨f20, hy21⟩ : ∃ y : Nat → Int32, y = z_s y30_ya_newUnits x30_4 0 := ⟨_, rfl⟩
              have hv := hv f20 hy21
              have hP : va_P D vwCl [(y, .inr (6, [.ref ya_space, .ref ya_offset, .ref ya_length, .ref ya_units, .ref ya_isThere, .int (z_i y_levels), .ref y_level, .int (z_i y_lines), .ref y_lineLevel, .ref y_lineUnits, .ref y_lineFrom, .ref y_lineMany, .ref y_isClosed, .ref y_insides, .ref y_parent, .ref y_isHigh, .ref y_inBits, .int (z_i y_sides), .ref y_side, .ref y_sideA, .ref y_sideB, .int (z_i y_lineSpace), .ref y_wasThere, .ref y_leads, .ref y_isLed, .ref y_isOn, .ref y_goesTo, .ref y_stream, .ref y_filled, .ref y_isDone, .ref y_isReached, .ref ya_newUnits, .ref ya_isNew])), (ya_space, .inl (cA 1, 4, .inl y_space)), (ya_offset, .inl (cA 1, 128, .inl y_offset)), (ya_length, .inl (cA 1, 128, .inl y_length)), (ya_units, .inl (cA 1, 5120, .inl y_units)), (ya_isThere, .inl (cA 3, 5120, .inl y_isThere)), (ya_newUnits, .inl (cA 1, 1280, .inl f20)), (ya_isNew, .inl (cA 3, 1280, .inl f15))] H := by rw [hy21]; exact hP
              have hD : va_D A [(y, .inr (6, [.ref ya_space, .ref ya_offset, .ref ya_length, .ref ya_units, .ref ya_isThere, .int (z_i y_levels), .ref y_level, .int (z_i y_lines), .ref y_lineLevel, .ref y_lineUnits, .ref y_lineFrom, .ref y_lineMany, .ref y_isClosed, .ref y_insides, .ref y_parent, .ref y_isHigh, .ref y_inBits, .int (z_i y_sides), .ref y_side, .ref y_sideA, .ref y_sideB, .int (z_i y_lineSpace), .ref y_wasThere, .ref y_leads, .ref y_isLed, .ref y_isOn, .ref y_goesTo, .ref y_stream, .ref y_filled, .ref y_isDone, .ref y_isReached, .ref ya_newUnits, .ref ya_isNew])), (ya_space, .inl (cA 1, 4, .inl y_space)), (ya_offset, .inl (cA 1, 128, .inl y_offset)), (ya_length, .inl (cA 1, 128, .inl y_length)), (ya_units, .inl (cA 1, 5120, .inl y_units)), (ya_isThere, .inl (cA 3, 5120, .inl y_isThere)), (ya_newUnits, .inl (cA 1, 1280, .inl f20)), (ya_isNew, .inl (cA 3, 1280, .inl f15))] := by rw [hy21]; exact hD
              refine lv_iinc (v := z_i (x30_4 + 1)) (lv' := [(4, .int (z_i (x30_4 + 1))), (8, .int (z_i x83_8)), (7, .int (z_i x83_7)), (5, .long (z_l x83_5)), (0, .ref y), (1, .int (z_i gi)), (2, .int (z_i to)), (3, .int (z_i weight))]) hx hb dX8_smooth_173 hl (k := 3) rfl (z_i_add _ _) (by decide) rfl (fun ls hl => ?_)
              refine lv_goto (tgt := 30) hx hb dX8_smooth_176 (by decide) ?_
              exact hv _ _ ls hP hD hS (lv_sub hl [0, 4, 5, 6, 7] rfl)
            · have hv := hv.2 hc
              refine lv_lload hx hb dX8_smooth_160 (lv_at hl 2 rfl) ?_
              refine lv_iload hx hb dX8_smooth_162 (lv_at hl 1 rfl) ?_
              refine lx_i2l hx hb dX8_smooth_164 h_x83_7 ?_
              obtain ⟨hp22, hv⟩ := hv
              obtain ⟨hp23, hv⟩ := hv
              refine va_calli (va_runS (As := [.long (z_l x83_5), .long (z_l x83_7)]) (rest := [.int (z_i x30_4), .ref ya_newUnits]) ⟨hx, hb, hml, hown, hts⟩ (mt_X8_nearest l D cA x83_5 x83_7 h_x83_5 (z_in_nl h_x83_7) hp22 hp23) (va_cwS 2 hts gX8_smooth_X8_nearest rfl rfl rfl (by decide +kernel) ⟨Nat.le_of_ble_eq_true rfl, Nat.le_of_ble_eq_true rfl⟩) ⟨z_bl0, fun U hU hW => ⟨rfl, z_b0 hK (hP.sub (ws' := []) [] rfl) hU hW⟩⟩ rfl rfl hl.1 rfl (lv_room (Nat.le_of_ble_eq_true rfl)) dX8_smooth_165 ⟨Nat.zero_le _, Nat.zero_le _⟩) hS (fun q _ h => h.elim) (fun q h => h.elim) (fun r0 u t H locs ht hvm hw hB hz1 hk1 hS => ?_)
              obtain ⟨r24, rfl, h_r24, hw⟩ := hw
              have hP := z_P_all hP hk1
              have hv := hv r24 h_r24 hw
              refine lv_goto (tgt := 172) hx hb dX8_smooth_168 (by decide) ?_
              refine lx_iast hx hb hK hP hD hS 6 1 rfl rfl (by decide) hi13.1 hi13.2 dX8_smooth_172 (fun H locs hP hD hS => ?_)
              obtain ⟨f25, hy26⟩ : ∃ y : Nat → Int32, y = z_s y30_ya_newUnits x30_4 r24 := ⟨_, rfl⟩
              have hv := hv f25 hy26
              have hP : va_P D vwCl [(y, .inr (6, [.ref ya_space, .ref ya_offset, .ref ya_length, .ref ya_units, .ref ya_isThere, .int (z_i y_levels), .ref y_level, .int (z_i y_lines), .ref y_lineLevel, .ref y_lineUnits, .ref y_lineFrom, .ref y_lineMany, .ref y_isClosed, .ref y_insides, .ref y_parent, .ref y_isHigh, .ref y_inBits, .int (z_i y_sides), .ref y_side, .ref y_sideA, .ref y_sideB, .int (z_i y_lineSpace), .ref y_wasThere, .ref y_leads, .ref y_isLed, .ref y_isOn, .ref y_goesTo, .ref y_stream, .ref y_filled, .ref y_isDone, .ref y_isReached, .ref ya_newUnits, .ref ya_isNew])), (ya_space, .inl (cA 1, 4, .inl y_space)), (ya_offset, .inl (cA 1, 128, .inl y_offset)), (ya_length, .inl (cA 1, 128, .inl y_length)), (ya_units, .inl (cA 1, 5120, .inl y_units)), (ya_isThere, .inl (cA 3, 5120, .inl y_isThere)), (ya_newUnits, .inl (cA 1, 1280, .inl f25)), (ya_isNew, .inl (cA 3, 1280, .inl f15))] H := by rw [hy26]; exact hP
              have hD : va_D A [(y, .inr (6, [.ref ya_space, .ref ya_offset, .ref ya_length, .ref ya_units, .ref ya_isThere, .int (z_i y_levels), .ref y_level, .int (z_i y_lines), .ref y_lineLevel, .ref y_lineUnits, .ref y_lineFrom, .ref y_lineMany, .ref y_isClosed, .ref y_insides, .ref y_parent, .ref y_isHigh, .ref y_inBits, .int (z_i y_sides), .ref y_side, .ref y_sideA, .ref y_sideB, .int (z_i y_lineSpace), .ref y_wasThere, .ref y_leads, .ref y_isLed, .ref y_isOn, .ref y_goesTo, .ref y_stream, .ref y_filled, .ref y_isDone, .ref y_isReached, .ref ya_newUnits, .ref ya_isNew])), (ya_space, .inl (cA 1, 4, .inl y_space)), (ya_offset, .inl (cA 1, 128, .inl y_offset)), (ya_length, .inl (cA 1, 128, .inl y_length)), (ya_units, .inl (cA 1, 5120, .inl y_units)), (ya_isThere, .inl (cA 3, 5120, .inl y_isThere)), (ya_newUnits, .inl (cA 1, 1280, .inl f25)), (ya_isNew, .inl (cA 3, 1280, .inl f15))] := by rw [hy26]; exact hD
              refine lv_iinc (v := z_i (x30_4 + 1)) (lv' := [(4, .int (z_i (x30_4 + 1))), (8, .int (z_i x83_8)), (7, .int (z_i x83_7)), (5, .long (z_l x83_5)), (0, .ref y), (1, .int (z_i gi)), (2, .int (z_i to)), (3, .int (z_i weight))]) hx hb dX8_smooth_173 hl (k := 3) rfl (z_i_add _ _) (by decide) rfl (fun ls hl => ?_)
              refine lv_goto (tgt := 30) hx hb dX8_smooth_176 (by decide) ?_
              exact hv _ _ ls hP hD hS (lv_sub hl [0, 4, 5, 6, 7] rfl)
          · have hv := hv.2 hc
            refine lv_aload_n hx hb dX8_smooth_90 rfl (lv_at hl 4 rfl) ?_
            refine va_get (D := D) (ci := 6) (v := .ref ya_isNew) (C := RX8) (T := TX8) (N := 33) hx hb hts (fun w h => List.mem_cons_of_mem _ (List.mem_append_right _ h)) hown hK hP 0 rfl rfl 32 (by decide) (hts (.fieldLink RX8 96 "ContourSheetsModel" "isNew" "[Z") (by decide +kernel)) (fun _ h9 => h9) rfl dX8_smooth_91 ?_
            refine lv_iload hx hb dX8_smooth_94 (lv_at hl 3 rfl) ?_
            refine lx_zald hx hb hK hP 7 3 rfl rfl (by decide) hi13.1 hi13.2 dX8_smooth_96 ?_
            refine lx_if_eq (tgt := 144) hx hb dX8_smooth_97 (by decide) (z_in_g _ _) (fun hc => ?_) (fun hc => ?_)
            · have hv := hv.1 hc
              refine lv_aload_n hx hb dX8_smooth_144 rfl (lv_at hl 4 rfl) ?_
              refine va_get (D := D) (ci := 6) (v := .ref ya_newUnits) (C := RX8) (T := TX8) (N := 33) hx hb hts (fun w h => List.mem_cons_of_mem _ (List.mem_append_right _ h)) hown hK hP 0 rfl rfl 31 (by decide) (hts (.fieldLink RX8 93 "ContourSheetsModel" "newUnits" "[I") (by decide +kernel)) (fun _ h9 => h9) rfl dX8_smooth_145 ?_
              refine lv_iload hx hb dX8_smooth_148 (lv_at hl 3 rfl) ?_
              refine lv_aload_n hx hb dX8_smooth_150 rfl (lv_at hl 4 rfl) ?_
              refine va_get (D := D) (ci := 6) (v := .ref ya_isNew) (C := RX8) (T := TX8) (N := 33) hx hb hts (fun w h => List.mem_cons_of_mem _ (List.mem_append_right _ h)) hown hK hP 0 rfl rfl 32 (by decide) (hts (.fieldLink RX8 96 "ContourSheetsModel" "isNew" "[Z") (by decide +kernel)) (fun _ h9 => h9) rfl dX8_smooth_151 ?_
              refine lv_iload hx hb dX8_smooth_154 (lv_at hl 3 rfl) ?_
              refine lx_zald hx hb hK hP 7 3 rfl rfl (by decide) hi13.1 hi13.2 dX8_smooth_156 ?_
              refine lx_if_eq (tgt := 171) hx hb dX8_smooth_157 (by decide) (z_in_g _ _) (fun hc => ?_) (fun hc => ?_)
              · have hv := hv.1 hc
                refine lv_iconst (v := z_i 0) hx hb dX8_smooth_171 rfl ?_
                refine lx_iast hx hb hK hP hD hS 6 1 rfl rfl (by decide) hi13.1 hi13.2 dX8_smooth_172 (fun H locs hP hD hS => ?_)
                obtain ⟨f27, hy28⟩ : ∃ y : Nat → Int32, y = z_s y30_ya_newUnits x30_4 0 := ⟨_, rfl⟩
                have hv := hv f27 hy28
                have hP : va_P D vwCl [(y, .inr (6, [.ref ya_space, .ref ya_offset, .ref ya_length, .ref ya_units, .ref ya_isThere, .int (z_i y_levels), .ref y_level, .int (z_i y_lines), .ref y_lineLevel, .ref y_lineUnits, .ref y_lineFrom, .ref y_lineMany, .ref y_isClosed, .ref y_insides, .ref y_parent, .ref y_isHigh, .ref y_inBits, .int (z_i y_sides), .ref y_side, .ref y_sideA, .ref y_sideB, .int (z_i y_lineSpace), .ref y_wasThere, .ref y_leads, .ref y_isLed, .ref y_isOn, .ref y_goesTo, .ref y_stream, .ref y_filled, .ref y_isDone, .ref y_isReached, .ref ya_newUnits, .ref ya_isNew])), (ya_space, .inl (cA 1, 4, .inl y_space)), (ya_offset, .inl (cA 1, 128, .inl y_offset)), (ya_length, .inl (cA 1, 128, .inl y_length)), (ya_units, .inl (cA 1, 5120, .inl y_units)), (ya_isThere, .inl (cA 3, 5120, .inl y_isThere)), (ya_newUnits, .inl (cA 1, 1280, .inl f27)), (ya_isNew, .inl (cA 3, 1280, .inl f15))] H := by rw [hy28]; exact hP
                have hD : va_D A [(y, .inr (6, [.ref ya_space, .ref ya_offset, .ref ya_length, .ref ya_units, .ref ya_isThere, .int (z_i y_levels), .ref y_level, .int (z_i y_lines), .ref y_lineLevel, .ref y_lineUnits, .ref y_lineFrom, .ref y_lineMany, .ref y_isClosed, .ref y_insides, .ref y_parent, .ref y_isHigh, .ref y_inBits, .int (z_i y_sides), .ref y_side, .ref y_sideA, .ref y_sideB, .int (z_i y_lineSpace), .ref y_wasThere, .ref y_leads, .ref y_isLed, .ref y_isOn, .ref y_goesTo, .ref y_stream, .ref y_filled, .ref y_isDone, .ref y_isReached, .ref ya_newUnits, .ref ya_isNew])), (ya_space, .inl (cA 1, 4, .inl y_space)), (ya_offset, .inl (cA 1, 128, .inl y_offset)), (ya_length, .inl (cA 1, 128, .inl y_length)), (ya_units, .inl (cA 1, 5120, .inl y_units)), (ya_isThere, .inl (cA 3, 5120, .inl y_isThere)), (ya_newUnits, .inl (cA 1, 1280, .inl f27)), (ya_isNew, .inl (cA 3, 1280, .inl f15))] := by rw [hy28]; exact hD
                refine lv_iinc (v := z_i (x30_4 + 1)) (lv' := [(4, .int (z_i (x30_4 + 1))), (8, .int (z_i x83_8)), (7, .int (z_i x83_7)), (5, .long (z_l x83_5)), (0, .ref y), (1, .int (z_i gi)), (2, .int (z_i to)), (3, .int (z_i weight))]) hx hb dX8_smooth_173 hl (k := 3) rfl (z_i_add _ _) (by decide) rfl (fun ls hl => ?_)
                refine lv_goto (tgt := 30) hx hb dX8_smooth_176 (by decide) ?_
                exact hv _ _ ls hP hD hS (lv_sub hl [0, 4, 5, 6, 7] rfl)
              · have hv := hv.2 hc
                refine lv_lload hx hb dX8_smooth_160 (lv_at hl 2 rfl) ?_
                refine lv_iload hx hb dX8_smooth_162 (lv_at hl 1 rfl) ?_
                refine lx_i2l hx hb dX8_smooth_164 h_x83_7 ?_
                obtain ⟨hp29, hv⟩ := hv
                obtain ⟨hp30, hv⟩ := hv
                refine va_calli (va_runS (As := [.long (z_l x83_5), .long (z_l x83_7)]) (rest := [.int (z_i x30_4), .ref ya_newUnits]) ⟨hx, hb, hml, hown, hts⟩ (mt_X8_nearest l D cA x83_5 x83_7 h_x83_5 (z_in_nl h_x83_7) hp29 hp30) (va_cwS 2 hts gX8_smooth_X8_nearest rfl rfl rfl (by decide +kernel) ⟨Nat.le_of_ble_eq_true rfl, Nat.le_of_ble_eq_true rfl⟩) ⟨z_bl0, fun U hU hW => ⟨rfl, z_b0 hK (hP.sub (ws' := []) [] rfl) hU hW⟩⟩ rfl rfl hl.1 rfl (lv_room (Nat.le_of_ble_eq_true rfl)) dX8_smooth_165 ⟨Nat.zero_le _, Nat.zero_le _⟩) hS (fun q _ h => h.elim) (fun q h => h.elim) (fun r0 u t H locs ht hvm hw hB hz1 hk1 hS => ?_)
                obtain ⟨r31, rfl, h_r31, hw⟩ := hw
                have hP := z_P_all hP hk1
                have hv := hv r31 h_r31 hw
                refine lv_goto (tgt := 172) hx hb dX8_smooth_168 (by decide) ?_
                refine lx_iast hx hb hK hP hD hS 6 1 rfl rfl (by decide) hi13.1 hi13.2 dX8_smooth_172 (fun H locs hP hD hS => ?_)
                obtain ⟨f32, hy33⟩ : ∃ y : Nat → Int32, y = z_s y30_ya_newUnits x30_4 r31 := ⟨_, rfl⟩
                have hv := hv f32 hy33
                have hP : va_P D vwCl [(y, .inr (6, [.ref ya_space, .ref ya_offset, .ref ya_length, .ref ya_units, .ref ya_isThere, .int (z_i y_levels), .ref y_level, .int (z_i y_lines), .ref y_lineLevel, .ref y_lineUnits, .ref y_lineFrom, .ref y_lineMany, .ref y_isClosed, .ref y_insides, .ref y_parent, .ref y_isHigh, .ref y_inBits, .int (z_i y_sides), .ref y_side, .ref y_sideA, .ref y_sideB, .int (z_i y_lineSpace), .ref y_wasThere, .ref y_leads, .ref y_isLed, .ref y_isOn, .ref y_goesTo, .ref y_stream, .ref y_filled, .ref y_isDone, .ref y_isReached, .ref ya_newUnits, .ref ya_isNew])), (ya_space, .inl (cA 1, 4, .inl y_space)), (ya_offset, .inl (cA 1, 128, .inl y_offset)), (ya_length, .inl (cA 1, 128, .inl y_length)), (ya_units, .inl (cA 1, 5120, .inl y_units)), (ya_isThere, .inl (cA 3, 5120, .inl y_isThere)), (ya_newUnits, .inl (cA 1, 1280, .inl f32)), (ya_isNew, .inl (cA 3, 1280, .inl f15))] H := by rw [hy33]; exact hP
                have hD : va_D A [(y, .inr (6, [.ref ya_space, .ref ya_offset, .ref ya_length, .ref ya_units, .ref ya_isThere, .int (z_i y_levels), .ref y_level, .int (z_i y_lines), .ref y_lineLevel, .ref y_lineUnits, .ref y_lineFrom, .ref y_lineMany, .ref y_isClosed, .ref y_insides, .ref y_parent, .ref y_isHigh, .ref y_inBits, .int (z_i y_sides), .ref y_side, .ref y_sideA, .ref y_sideB, .int (z_i y_lineSpace), .ref y_wasThere, .ref y_leads, .ref y_isLed, .ref y_isOn, .ref y_goesTo, .ref y_stream, .ref y_filled, .ref y_isDone, .ref y_isReached, .ref ya_newUnits, .ref ya_isNew])), (ya_space, .inl (cA 1, 4, .inl y_space)), (ya_offset, .inl (cA 1, 128, .inl y_offset)), (ya_length, .inl (cA 1, 128, .inl y_length)), (ya_units, .inl (cA 1, 5120, .inl y_units)), (ya_isThere, .inl (cA 3, 5120, .inl y_isThere)), (ya_newUnits, .inl (cA 1, 1280, .inl f32)), (ya_isNew, .inl (cA 3, 1280, .inl f15))] := by rw [hy33]; exact hD
                refine lv_iinc (v := z_i (x30_4 + 1)) (lv' := [(4, .int (z_i (x30_4 + 1))), (8, .int (z_i x83_8)), (7, .int (z_i x83_7)), (5, .long (z_l x83_5)), (0, .ref y), (1, .int (z_i gi)), (2, .int (z_i to)), (3, .int (z_i weight))]) hx hb dX8_smooth_173 hl (k := 3) rfl (z_i_add _ _) (by decide) rfl (fun ls hl => ?_)
                refine lv_goto (tgt := 30) hx hb dX8_smooth_176 (by decide) ?_
                exact hv _ _ ls hP hD hS (lv_sub hl [0, 4, 5, 6, 7] rfl)
            · have hv := hv.2 hc
              refine lv_aload_n hx hb dX8_smooth_100 rfl (lv_at hl 4 rfl) ?_
              refine lv_iload_n hx hb dX8_smooth_101 rfl (lv_at hl 5 rfl) ?_
              refine lv_iload hx hb dX8_smooth_102 (lv_at hl 3 rfl) ?_
              refine lv_iload hx hb dX8_smooth_104 (lv_at hl 0 rfl) ?_
              obtain ⟨hp34, hv⟩ := hv
              obtain ⟨hp35, hv⟩ := hv
              obtain ⟨hp36, hv⟩ := hv
              refine va_calli (va_runV (As := [.int (z_i gi), .int (z_i x30_4), .int (z_i x83_8)]) (rest := []) ⟨hx, hb, hml, hown, hts⟩ (mt_X8_neighbour l D cA y ya_space ya_offset ya_length ya_units ya_isThere y_isThere y_levels y_level y_lines y_lineLevel y_lineUnits y_lineFrom y_lineMany y_isClosed y_insides y_parent y_isHigh y_inBits y_sides y_side y_sideA y_sideB y_lineSpace y_wasThere y_leads y_isLed y_isOn y_goesTo y_stream y_filled y_isDone y_isReached ya_newUnits ya_isNew gi x30_4 x83_8 h_y_levels h_y_lines h_y_sides h_y_lineSpace h_gi h_x30_4 h_x83_8 hp34 hp35 hp36) (cwV 3 hts gX8_smooth_X8_neighbour rfl rfl rfl (by decide +kernel) ⟨Nat.le_of_ble_eq_true rfl, Nat.le_of_ble_eq_true rfl⟩) ⟨z_bl0, va_recv hK hP (ci := 6) (q0 := 0) rfl rfl, fun U hU hW => ⟨rfl, z_b0 hK (hP.sub (ws' := [(y, .inr (6, [.ref ya_space, .ref ya_offset, .ref ya_length, .ref ya_units, .ref ya_isThere, .int (z_i y_levels), .ref y_level, .int (z_i y_lines), .ref y_lineLevel, .ref y_lineUnits, .ref y_lineFrom, .ref y_lineMany, .ref y_isClosed, .ref y_insides, .ref y_parent, .ref y_isHigh, .ref y_inBits, .int (z_i y_sides), .ref y_side, .ref y_sideA, .ref y_sideB, .int (z_i y_lineSpace), .ref y_wasThere, .ref y_leads, .ref y_isLed, .ref y_isOn, .ref y_goesTo, .ref y_stream, .ref y_filled, .ref y_isDone, .ref y_isReached, .ref ya_newUnits, .ref ya_isNew])), (ya_isThere, .inl (cA 3, 5120, .inl y_isThere))]) [0, 5] rfl) hU hW⟩⟩ rfl rfl hl.1 rfl (lv_room (Nat.le_of_ble_eq_true rfl)) dX8_smooth_106 ⟨Nat.zero_le _, Nat.zero_le _⟩) hS (fun q _ h => h.elim) (fun q h => h.elim) (fun r0 u t H locs ht hvm hw hB hz1 hk1 hS => ?_)
              obtain ⟨r37, rfl, h_r37, hw⟩ := hw
              have hP := z_P_all hP hk1
              have hv := hv r37 h_r37 hw
              refine lv_istore (lv' := [(9, .int (z_i r37)), (8, .int (z_i x83_8)), (7, .int (z_i x83_7)), (5, .long (z_l x83_5)), (4, .int (z_i x30_4)), (0, .ref y), (1, .int (z_i gi)), (2, .int (z_i to)), (3, .int (z_i weight))]) hx hb dX8_smooth_109 hl (by decide) rfl (fun ls hl => ?_)
              refine lv_iload hx hb dX8_smooth_111 (lv_at hl 0 rfl) ?_
              refine lx_if_lt (tgt := 138) hx hb dX8_smooth_113 (by decide) h_r37 (fun hc => ?_) (fun hc => ?_)
              · have hv := hv.1 hc
                refine lv_iinc (v := z_i (x83_8 + 2)) (lv' := [(8, .int (z_i (x83_8 + 2))), (9, .int (z_i r37)), (7, .int (z_i x83_7)), (5, .long (z_l x83_5)), (4, .int (z_i x30_4)), (0, .ref y), (1, .int (z_i gi)), (2, .int (z_i to)), (3, .int (z_i weight))]) hx hb dX8_smooth_138 hl (k := 1) rfl (z_i_add _ _) (by decide) rfl (fun ls hl => ?_)
                refine lv_goto (tgt := 83) hx hb dX8_smooth_141 (by decide) ?_
                exact hv _ _ ls hP hD hS (lv_sub hl [0, 2, 3, 4, 5, 6, 7, 8] rfl)
              · have hv := hv.2 hc
                refine lv_lload hx hb dX8_smooth_116 (lv_at hl 3 rfl) ?_
                refine lv_aload_n hx hb dX8_smooth_118 rfl (lv_at hl 5 rfl) ?_
                refine va_get (D := D) (ci := 6) (v := .ref ya_units) (C := RX8) (T := TX8) (N := 33) hx hb hts (fun w h => List.mem_cons_of_mem _ (List.mem_append_right _ h)) hown hK hP 0 rfl rfl 3 (by decide) (hts (.fieldLink RX8 19 "ContourSheetsModel" "units" "[I") (by decide +kernel)) (fun _ h9 => h9) rfl dX8_smooth_119 ?_
                refine lv_sipush (v := z_i 1280) hx hb dX8_smooth_122 (by decide) ?_
                refine lv_iload_n hx hb dX8_smooth_125 rfl (lv_at hl 6 rfl) ?_
                refine lx_imul hx hb dX8_smooth_126 ?_
                refine lv_iload hx hb dX8_smooth_127 (lv_at hl 0 rfl) ?_
                refine lx_iadd hx hb dX8_smooth_129 ?_
                obtain ⟨hi38, hv⟩ := hv
                refine lx_iald hx hb hK hP 4 1 rfl rfl (by decide) hi38.1 hi38.2 dX8_smooth_130 ?_
                refine lx_i2l hx hb dX8_smooth_131 (z_in_g _ _) ?_
                refine lx_ladd hx hb dX8_smooth_132 ?_
                obtain ⟨hr40, hv⟩ := hv
                refine lx_topl (fun v39 hy41 => ?_)
                have hv := hv v39 hy41
                have h_v39 : z_nl v39 := by rw [hy41]; exact hr40
                refine lv_lstore (lv' := [(5, .long (z_l v39)), (9, .int (z_i r37)), (8, .int (z_i x83_8)), (7, .int (z_i x83_7)), (4, .int (z_i x30_4)), (0, .ref y), (1, .int (z_i gi)), (2, .int (z_i to)), (3, .int (z_i weight))]) hx hb dX8_smooth_133 hl (by decide) rfl (fun ls hl => ?_)
                refine lv_iinc (v := z_i (x83_7 + 1)) (lv' := [(7, .int (z_i (x83_7 + 1))), (5, .long (z_l v39)), (9, .int (z_i r37)), (8, .int (z_i x83_8)), (4, .int (z_i x30_4)), (0, .ref y), (1, .int (z_i gi)), (2, .int (z_i to)), (3, .int (z_i weight))]) hx hb dX8_smooth_135 hl (k := 3) rfl (z_i_add _ _) (by decide) rfl (fun ls hl => ?_)
                refine lv_iinc (v := z_i (x83_8 + 2)) (lv' := [(8, .int (z_i (x83_8 + 2))), (7, .int (z_i (x83_7 + 1))), (5, .long (z_l v39)), (9, .int (z_i r37)), (4, .int (z_i x30_4)), (0, .ref y), (1, .int (z_i gi)), (2, .int (z_i to)), (3, .int (z_i weight))]) hx hb dX8_smooth_138 hl (k := 3) rfl (z_i_add _ _) (by decide) rfl (fun ls hl => ?_)
                refine lv_goto (tgt := 83) hx hb dX8_smooth_141 (by decide) ?_
                exact hv _ _ ls hP hD hS (lv_sub hl [0, 1, 2, 4, 5, 6, 7, 8] rfl)
      · have hv := hv.2 hc
        refine lv_iconst (v := z_i 0) hx hb dX8_smooth_25 rfl ?_
        exact W.zret (v := z_i 0) hx hb hr (by decide) (fun t ht hW => ⟨⟨z_i 0, (y_space, y_offset, y_length, y_units, y_isThere, y_newUnits, y_isNew), rfl, ⟨0, rfl, (show z_in 0 from ⟨by decide, by decide⟩), hv⟩, z_pt hP ht⟩, hS.F ht⟩) hS.2.2 dX8_smooth_26
set_option maxHeartbeats 4000000 in
set_option maxRecDepth 100000 in
theorem mt_X8_smooth (l : Launch) (D : va_G) (cA : Nat → ClassId) (y : Nat) (ya_space : Nat) (y_space : Nat → Int32) (ya_offset : Nat) (y_offset : Nat → Int32) (ya_length : Nat) (y_length : Nat → Int32) (ya_units : Nat) (y_units : Nat → Int32) (ya_isThere : Nat) (y_isThere : Nat → Int32) (y_levels : Int) (y_level : Nat) (y_lines : Int) (y_lineLevel : Nat) (y_lineUnits : Nat) (y_lineFrom : Nat) (y_lineMany : Nat) (y_isClosed : Nat) (y_insides : Nat) (y_parent : Nat) (y_isHigh : Nat) (y_inBits : Nat) (y_sides : Int) (y_side : Nat) (y_sideA : Nat) (y_sideB : Nat) (y_lineSpace : Int) (y_wasThere : Nat) (y_leads : Nat) (y_isLed : Nat) (y_isOn : Nat) (y_goesTo : Nat) (y_stream : Nat) (y_filled : Nat) (y_isDone : Nat) (y_isReached : Nat) (ya_newUnits : Nat) (y_newUnits : Nat → Int32) (ya_isNew : Nat) (y_isNew : Nat → Int32) (gi : Int) (to : Int) (weight : Int) (h_y_levels : z_in y_levels) (h_y_lines : z_in y_lines) (h_y_sides : z_in y_sides) (h_y_lineSpace : z_in y_lineSpace) (h_gi : z_in gi) (h_to : z_in to) (h_weight : z_in weight) (hp1 : q_bd y_units) (hp2 : q_01 5120 y_isThere) : Met l yX8_smooth wsX8_smooth ({ frames := 3, cells := 0, slots := 0, locals := 70 } : Room) (va_Pc [.ref y, .int (z_i gi), .int (z_i to), .int (z_i weight)] (z_M0 D cA [(y, .inr (6, [.ref ya_space, .ref ya_offset, .ref ya_length, .ref ya_units, .ref ya_isThere, .int (z_i y_levels), .ref y_level, .int (z_i y_lines), .ref y_lineLevel, .ref y_lineUnits, .ref y_lineFrom, .ref y_lineMany, .ref y_isClosed, .ref y_insides, .ref y_parent, .ref y_isHigh, .ref y_inBits, .int (z_i y_sides), .ref y_side, .ref y_sideA, .ref y_sideB, .int (z_i y_lineSpace), .ref y_wasThere, .ref y_leads, .ref y_isLed, .ref y_isOn, .ref y_goesTo, .ref y_stream, .ref y_filled, .ref y_isDone, .ref y_isReached, .ref ya_newUnits, .ref ya_isNew])), (ya_space, .inl (cA 1, 4, .inl y_space)), (ya_offset, .inl (cA 1, 128, .inl y_offset)), (ya_length, .inl (cA 1, 128, .inl y_length)), (ya_units, .inl (cA 1, 5120, .inl y_units)), (ya_isThere, .inl (cA 3, 5120, .inl y_isThere)), (ya_newUnits, .inl (cA 1, 1280, .inl y_newUnits)), (ya_isNew, .inl (cA 3, 1280, .inl y_isNew))])) (va_Qi (z_mi (fun v (u : (Nat → Int32) × (Nat → Int32) × (Nat → Int32) × (Nat → Int32) × (Nat → Int32) × (Nat → Int32) × (Nat → Int32)) => (fun (r : Int) (y_space' : (Nat → Int32)) (y_offset' : (Nat → Int32)) (y_length' : (Nat → Int32)) (y_units' : (Nat → Int32)) (y_isThere' : (Nat → Int32)) (y_newUnits' : (Nat → Int32)) (y_isNew' : (Nat → Int32)) => r = z_b (decide ((0 ≤ gi ∧ gi < 4) ∧ (0 ≤ to ∧ to < 4) ∧ 1 ≤ weight ∧ weight ≤ 1000)) ∧ ((0 ≤ gi ∧ gi < 4) ∧ (0 ≤ to ∧ to < 4) ∧ 1 ≤ weight ∧ weight ≤ 1000 → (y_space' = z_s y_space to (z_g y_space gi) ∧ (∀ q : Int, 0 ≤ q → z_g y_offset' q = if 32 * to ≤ q ∧ q < 32 * to + 32 then z_g y_offset (q - 32 * to + 32 * gi) else z_g y_offset q) ∧ (∀ q : Int, 0 ≤ q → z_g y_length' q = if 32 * to ≤ q ∧ q < 32 * to + 32 then z_g y_length (q - 32 * to + 32 * gi) else z_g y_length q) ∧ (∀ q : Int, 0 ≤ q → z_g y_units' q = if 1280 * to ≤ q ∧ q < 1280 * to + 1280 then z_g y_newUnits' (q - 1280 * to) else z_g y_units q) ∧ (∀ q : Int, 0 ≤ q → z_g y_isThere' q = if 1280 * to ≤ q ∧ q < 1280 * to + 1280 then z_g y_isNew' (q - 1280 * to) else z_g y_isThere q)) ∧ ∀ n : Int, 0 ≤ n → n < 1280 → z_g y_isNew' n = z_g y_isThere (1280 * gi + n) ∧ z_g y_newUnits' n = (if (q_th y_isThere gi) n = true then m_sm (q_th y_isThere gi) (q_at y_units y_isThere gi) n weight else 0)) ∧ (¬ ((0 ≤ gi ∧ gi < 4) ∧ (0 ≤ to ∧ to < 4) ∧ 1 ≤ weight ∧ weight ≤ 1000) → y_space' = y_space ∧ y_offset' = y_offset ∧ y_length' = y_length ∧ y_units' = y_units ∧ y_isThere' = y_isThere ∧ y_newUnits' = y_newUnits ∧ y_isNew' = y_isNew)) v u.1 u.2.1 u.2.2.1 u.2.2.2.1 u.2.2.2.2.1 u.2.2.2.2.2.1 u.2.2.2.2.2.2)) (fun (u : (Nat → Int32) × (Nat → Int32) × (Nat → Int32) × (Nat → Int32) × (Nat → Int32) × (Nat → Int32) × (Nat → Int32)) t => va_P D vwCl [(y, .inr (6, [.ref ya_space, .ref ya_offset, .ref ya_length, .ref ya_units, .ref ya_isThere, .int (z_i y_levels), .ref y_level, .int (z_i y_lines), .ref y_lineLevel, .ref y_lineUnits, .ref y_lineFrom, .ref y_lineMany, .ref y_isClosed, .ref y_insides, .ref y_parent, .ref y_isHigh, .ref y_inBits, .int (z_i y_sides), .ref y_side, .ref y_sideA, .ref y_sideB, .int (z_i y_lineSpace), .ref y_wasThere, .ref y_leads, .ref y_isLed, .ref y_isOn, .ref y_goesTo, .ref y_stream, .ref y_filled, .ref y_isDone, .ref y_isReached, .ref ya_newUnits, .ref ya_isNew])), (ya_space, .inl (cA 1, 4, .inl u.1)), (ya_offset, .inl (cA 1, 128, .inl u.2.1)), (ya_length, .inl (cA 1, 128, .inl u.2.2.1)), (ya_units, .inl (cA 1, 5120, .inl u.2.2.2.1)), (ya_isThere, .inl (cA 3, 5120, .inl u.2.2.2.2.1)), (ya_newUnits, .inl (cA 1, 1280, .inl u.2.2.2.2.2.1)), (ya_isNew, .inl (cA 3, 1280, .inl u.2.2.2.2.2.2))] t.heap) (z_A [(y, .inr (6, [.ref ya_space, .ref ya_offset, .ref ya_length, .ref ya_units, .ref ya_isThere, .int (z_i y_levels), .ref y_level, .int (z_i y_lines), .ref y_lineLevel, .ref y_lineUnits, .ref y_lineFrom, .ref y_lineMany, .ref y_isClosed, .ref y_insides, .ref y_parent, .ref y_isHigh, .ref y_inBits, .int (z_i y_sides), .ref y_side, .ref y_sideA, .ref y_sideB, .int (z_i y_lineSpace), .ref y_wasThere, .ref y_leads, .ref y_isLed, .ref y_isOn, .ref y_goesTo, .ref y_stream, .ref y_filled, .ref y_isDone, .ref y_isReached, .ref ya_newUnits, .ref ya_isNew])), (ya_space, .inl (cA 1, 4, .inl y_space)), (ya_offset, .inl (cA 1, 128, .inl y_offset)), (ya_length, .inl (cA 1, 128, .inl y_length)), (ya_units, .inl (cA 1, 5120, .inl y_units)), (ya_isThere, .inl (cA 3, 5120, .inl y_isThere)), (ya_newUnits, .inl (cA 1, 1280, .inl y_newUnits)), (ya_isNew, .inl (cA 3, 1280, .inl y_isNew))])) 0 0 (z_A [(y, .inr (6, [.ref ya_space, .ref ya_offset, .ref ya_length, .ref ya_units, .ref ya_isThere, .int (z_i y_levels), .ref y_level, .int (z_i y_lines), .ref y_lineLevel, .ref y_lineUnits, .ref y_lineFrom, .ref y_lineMany, .ref y_isClosed, .ref y_insides, .ref y_parent, .ref y_isHigh, .ref y_inBits, .int (z_i y_sides), .ref y_side, .ref y_sideA, .ref y_sideB, .int (z_i y_lineSpace), .ref y_wasThere, .ref y_leads, .ref y_isLed, .ref y_isOn, .ref y_goesTo, .ref y_stream, .ref y_filled, .ref y_isDone, .ref y_isReached, .ref ya_newUnits, .ref ya_isNew])), (ya_space, .inl (cA 1, 4, .inl y_space)), (ya_offset, .inl (cA 1, 128, .inl y_offset)), (ya_length, .inl (cA 1, 128, .inl y_length)), (ya_units, .inl (cA 1, 5120, .inl y_units)), (ya_isThere, .inl (cA 3, 5120, .inl y_isThere)), (ya_newUnits, .inl (cA 1, 1280, .inl y_newUnits)), (ya_isNew, .inl (cA 3, 1280, .inl y_isNew))]) := by
  refine wk_X8_smooth l D cA y ya_space y_space ya_offset y_offset ya_length y_length ya_units y_units ya_isThere y_isThere y_levels y_level y_lines y_lineLevel y_lineUnits y_lineFrom y_lineMany y_isClosed y_insides y_parent y_isHigh y_inBits y_sides y_side y_sideA y_sideB y_lineSpace y_wasThere y_leads y_isLed y_isOn y_goesTo y_stream y_filled y_isDone y_isReached ya_newUnits y_newUnits ya_isNew y_isNew gi to weight h_y_levels h_y_lines h_y_sides h_y_lineSpace h_gi h_to h_weight (fun (r : Int) (y_space' : (Nat → Int32)) (y_offset' : (Nat → Int32)) (y_length' : (Nat → Int32)) (y_units' : (Nat → Int32)) (y_isThere' : (Nat → Int32)) (y_newUnits' : (Nat → Int32)) (y_isNew' : (Nat → Int32)) => r = z_b (decide ((0 ≤ gi ∧ gi < 4) ∧ (0 ≤ to ∧ to < 4) ∧ 1 ≤ weight ∧ weight ≤ 1000)) ∧ ((0 ≤ gi ∧ gi < 4) ∧ (0 ≤ to ∧ to < 4) ∧ 1 ≤ weight ∧ weight ≤ 1000 → (y_space' = z_s y_space to (z_g y_space gi) ∧ (∀ q : Int, 0 ≤ q → z_g y_offset' q = if 32 * to ≤ q ∧ q < 32 * to + 32 then z_g y_offset (q - 32 * to + 32 * gi) else z_g y_offset q) ∧ (∀ q : Int, 0 ≤ q → z_g y_length' q = if 32 * to ≤ q ∧ q < 32 * to + 32 then z_g y_length (q - 32 * to + 32 * gi) else z_g y_length q) ∧ (∀ q : Int, 0 ≤ q → z_g y_units' q = if 1280 * to ≤ q ∧ q < 1280 * to + 1280 then z_g y_newUnits' (q - 1280 * to) else z_g y_units q) ∧ (∀ q : Int, 0 ≤ q → z_g y_isThere' q = if 1280 * to ≤ q ∧ q < 1280 * to + 1280 then z_g y_isNew' (q - 1280 * to) else z_g y_isThere q)) ∧ ∀ n : Int, 0 ≤ n → n < 1280 → z_g y_isNew' n = z_g y_isThere (1280 * gi + n) ∧ z_g y_newUnits' n = (if (q_th y_isThere gi) n = true then m_sm (q_th y_isThere gi) (q_at y_units y_isThere gi) n weight else 0)) ∧ (¬ ((0 ≤ gi ∧ gi < 4) ∧ (0 ≤ to ∧ to < 4) ∧ 1 ≤ weight ∧ weight ≤ 1000) → y_space' = y_space ∧ y_offset' = y_offset ∧ y_length' = y_length ∧ y_units' = y_units ∧ y_isThere' = y_isThere ∧ y_newUnits' = y_newUnits ∧ y_isNew' = y_isNew)) ?_
  unfold vc_X8_smooth
  have no : ¬ ((0 ≤ gi ∧ gi < 4) ∧ (0 ≤ to ∧ to < 4) ∧ 1 ≤ weight ∧ weight ≤ 1000) → (0 : Int) = z_b (decide ((0 ≤ gi ∧ gi < 4) ∧ (0 ≤ to ∧ to < 4) ∧ 1 ≤ weight ∧ weight ≤ 1000)) ∧ ((0 ≤ gi ∧ gi < 4) ∧ (0 ≤ to ∧ to < 4) ∧ 1 ≤ weight ∧ weight ≤ 1000 → (y_space = z_s y_space to (z_g y_space gi) ∧ (∀ q : Int, 0 ≤ q → z_g y_offset q = if 32 * to ≤ q ∧ q < 32 * to + 32 then z_g y_offset (q - 32 * to + 32 * gi) else z_g y_offset q) ∧ (∀ q : Int, 0 ≤ q → z_g y_length q = if 32 * to ≤ q ∧ q < 32 * to + 32 then z_g y_length (q - 32 * to + 32 * gi) else z_g y_length q) ∧ (∀ q : Int, 0 ≤ q → z_g y_units q = if 1280 * to ≤ q ∧ q < 1280 * to + 1280 then z_g y_newUnits (q - 1280 * to) else z_g y_units q) ∧ (∀ q : Int, 0 ≤ q → z_g y_isThere q = if 1280 * to ≤ q ∧ q < 1280 * to + 1280 then z_g y_isNew (q - 1280 * to) else z_g y_isThere q)) ∧ ∀ n : Int, 0 ≤ n → n < 1280 → z_g y_isNew n = z_g y_isThere (1280 * gi + n) ∧ z_g y_newUnits n = (if (q_th y_isThere gi) n = true then m_sm (q_th y_isThere gi) (q_at y_units y_isThere gi) n weight else 0)) ∧ (¬ ((0 ≤ gi ∧ gi < 4) ∧ (0 ≤ to ∧ to < 4) ∧ 1 ≤ weight ∧ weight ≤ 1000) → y_space = y_space ∧ y_offset = y_offset ∧ y_length = y_length ∧ y_units = y_units ∧ y_isThere = y_isThere ∧ y_newUnits = y_newUnits ∧ y_isNew = y_isNew) := fun h => ⟨by rw [decide_eq_false h]; rfl, fun h2 => absurd h2 h, fun _ => ⟨rfl, rfl, rfl, rfl, rfl, rfl, rfl⟩⟩
  rintro r1 _ rfl
  refine ⟨fun q => no (fun h => of_decide_eq_false (zb_f q) (by omega)), fun q => ?_⟩
  have q := of_decide_eq_true (zb_t q)
  rintro r2 _ rfl
  refine ⟨fun q1 => no (fun h => of_decide_eq_false (zb_f q1) (by omega)), fun q1 => ?_⟩
  have q1 := of_decide_eq_true (zb_t q1)
  rintro r3 _ rfl
  refine ⟨fun q2 => ?_, fun q2 => no (fun h => of_decide_eq_false (zb_f q2) h.2.2)⟩
  have q2 := of_decide_eq_true (zb_t q2)
  have hg : 0 ≤ gi ∧ gi < 4 := by omega
  have ht : 0 ≤ to ∧ to < 4 := by omega
  have hc : (0 ≤ gi ∧ gi < 4) ∧ (0 ≤ to ∧ to < 4) ∧ 1 ≤ weight ∧ weight ≤ 1000 := ⟨hg, ht, q2⟩
  have hU : ∀ p, (q_th y_isThere gi) p = true → -8388608 ≤ (q_at y_units y_isThere gi) p ∧ (q_at y_units y_isThere gi) p ≤ 8388608 := fun p hp => q_bd_at hp1 hg.1 hg.2 hp
  intro L1 hL1
  suffices H : ∀ (d k : Nat) (yu yw : Nat → Int32), k + d = 1280 → (∀ n : Int, 0 ≤ n → n < k → z_g yw n = z_g y_isThere (1280 * gi + n) ∧ z_g yu n = (if (q_th y_isThere gi) n = true then m_sm (q_th y_isThere gi) (q_at y_units y_isThere gi) n weight else 0)) → L1 k yu yw from H 1280 0 _ _ rfl (fun n _ b => absurd b (by omega))
  intro d
  induction d with
  | zero =>
    intro k yu yw hk hy
    obtain rfl : k = 1280 := by omega
    refine hL1 _ _ _ ⟨by omega, by omega⟩ ⟨fun _ => ⟨hg, ht, fun n a b => ?_, ?_⟩, fun h => absurd h (by omega)⟩
    · rw [(hy n a (by omega)).1]; exact hp2 _ (by omega) (by omega)
    · intro c7 c8 c9 c10 c11 h
      exact ⟨by rw [decide_eq_true hc]; rfl, fun _ => ⟨h, fun n a b => hy n a (by omega)⟩, fun h2 => absurd hc h2⟩
  | succ d ih =>
    intro k yu yw hk hy
    have bk := hp1 (1280 * gi + k) (by omega) (by omega)
    refine hL1 _ _ _ ⟨by omega, by omega⟩ ⟨fun h => absurd h (by omega), fun _ => ⟨⟨by omega, by omega⟩, ⟨by omega, by omega⟩, hp2 _ (by omega) (by omega), ?_⟩⟩
    rintro f15 rfl
    have mb := z_mb (a := z_g y_units (1280 * gi + k)) (b := weight) (A := 8388608) (B := 1000) (by omega) (by omega) (by omega) (by omega)
    rw [Int.mul_comm (z_g y_units (1280 * gi + k)) weight] at mb
    refine ⟨⟨by omega, by omega⟩, ?_⟩
    rintro v17 h17
    have ew : z_g (z_s yw k (z_g y_isThere (1280 * gi + k))) k = z_g y_isThere (1280 * gi + k) := by rw [z_gs (z_in_g _ _) (by omega) (by omega), if_pos rfl]
    rw [ew]
    have step : ∀ v : Int, z_in v → v = (if (q_th y_isThere gi) k = true then m_sm (q_th y_isThere gi) (q_at y_units y_isThere gi) k weight else 0) → L1 ((k : Int) + 1) (z_s yu k v) (z_s yw k (z_g y_isThere (1280 * gi + k))) := by
      intro v zv hv
      refine ih (k + 1) _ _ (by omega) ?_
      intro n a b
      rw [z_gs (z_in_g _ _) (by omega) a, z_gs zv (by omega) a]
      by_cases e : n = k
      · rw [if_pos e, if_pos e, e]; exact ⟨rfl, hv⟩
      · rw [if_neg e, if_neg e]; exact hy n a (by omega)
    have tk : (q_th y_isThere gi) k = true ↔ z_g y_isThere (1280 * gi + k) ≠ 0 := by
      unfold q_th; rw [decide_eq_true_iff]; exact ⟨fun h => h.2.2, fun h => ⟨by omega, by omega, h⟩⟩
    have zero : z_g y_isThere (1280 * gi + k) = 0 → (∀ f20 : Nat → Int32, f20 = z_s yu k 0 → L1 ((k : Int) + 1) f20 (z_s yw k (z_g y_isThere (1280 * gi + k)))) := by
      rintro h f20 rfl
      exact step 0 ⟨by omega, by omega⟩ (by rw [if_neg (fun q9 => tk.mp q9 h)])
    intro L2 hL2
    suffices H : ∀ (d2 w : Nat), w + d2 = 4 → L2 (2 * (w : Int) + 1) (weight + (m_smK (q_th y_isThere gi) (q_at y_units y_isThere gi) k w).2) (v17 + (m_smK (q_th y_isThere gi) (q_at y_units y_isThere gi) k w).1) from by
      have := H 4 0 rfl
      simpa [m_smK] using this
    intro d2
    induction d2 with
    | zero =>
      intro w hw
      obtain rfl : w = 4 := by omega
      have sb := m_smK_q (n := (k : Int)) hU 4
      refine hL2 _ _ _ ⟨by omega, by omega⟩ ⟨by omega, by omega⟩ ⟨by omega, by omega⟩ ⟨fun _ => ⟨zero, fun h => ⟨?_, ⟨by omega, by omega⟩, ?_⟩⟩, fun h => absurd h (by omega)⟩
      · have b1 : weight * z_g y_units (1280 * gi + k) ≤ weight * 8388608 := Int.mul_le_mul_of_nonneg_left bk.2 (by omega)
        have b2 : weight * (-8388608) ≤ weight * z_g y_units (1280 * gi + k) := Int.mul_le_mul_of_nonneg_left bk.1 (by omega)
        omega
      · rintro r24 z24 h24
        rintro f25 rfl
        refine step _ z24 ?_
        have hT := tk.mpr h
        rw [if_pos hT, h24, h17]
        unfold m_sm
        rw [q_at_t hT]
    | succ d2 ih2 =>
      intro w hw
      have sb := m_smK_q (n := (k : Int)) hU w
      have h9 := ih2 (w + 1) (by omega)
      refine hL2 _ _ _ ⟨by omega, by omega⟩ ⟨by omega, by omega⟩ ⟨by omega, by omega⟩ ⟨fun h => absurd h (by omega), fun _ => ⟨fun h => ⟨zero, fun h2 => absurd h h2⟩, fun h => ⟨hg, ⟨by omega, by omega⟩, ⟨by omega, by omega⟩, ?_⟩⟩⟩
      unfold m_smK at h9
      have hm := m_nb_in (q_th y_isThere gi) k (2 * (w : Int) + 1)
      have hth := @m_nb_th (q_th y_isThere gi) k (2 * (w : Int) + 1)
      rintro r37 _ h37
      rw [← h37] at hm hth h9
      rw [show 2 * ((w + 1 : Nat) : Int) + 1 = 2 * (w : Int) + 1 + 2 by omega] at h9
      refine ⟨fun a => ?_, fun a => ⟨⟨by omega, by omega⟩, ?_⟩⟩
      · rw [if_pos (by omega)] at h9; exact h9
      · have hT := (hth (by omega)).1
        have u9 := hU _ hT
        rw [if_neg (by omega)] at h9
        dsimp only at h9
        rw [q_at_t hT] at h9 u9
        refine ⟨⟨by omega, by omega⟩, ?_⟩
        rintro v39 rfl
        rw [← Int.add_assoc, ← Int.add_assoc] at h9
        exact h9
