theorem q_bd_at {u th : Nat → Int32} {g n : Int} (h : q_bd u) (h0 : 0 ≤ g) (h1 : g < 4) (hn : q_th th g n = true) : -8388608 ≤ q_at u th g n ∧ q_at u th g n ≤ 8388608 := by
  have hi := q_th_in hn
  rw [q_at_t hn]; exact h _ (by omega) (by omega)
theorem z_rsc : ∀ k : Fin 8, -1 ≤ z_rs k.val ∧ z_rs k.val ≤ 1 ∧ -1 ≤ z_cs k.val ∧ z_cs k.val ≤ 1 ∧ ((z_rs k.val = 0 ∨ z_cs k.val = 0) ↔ k.val % 2 = 1) := by decide +kernel
def vc_X8_row (y_offset : Nat → Int32) (y_length : Nat → Int32) (y_isThere : Nat → Int32) (gi : Int) (i : Int) (len : Int) (ofs : Int) (Q : Int → (Nat → Int32) → (Nat → Int32) → (Nat → Int32) → Prop) : Prop :=
(∀ (r1 : Int), z_in r1 → (r1 = z_b (decide (0 ≤ gi ∧ gi ≤ 3))) → ((r1 = 0 → Q 0 y_isThere y_length y_offset) ∧
(r1 ≠ 0 → (∀ (r2 : Int), z_in r2 → (r2 = z_b (decide ((0 : Int) ≤ i ∧ i ≤ (31 : Int)))) → ((r2 = 0 → Q 0 y_isThere y_length y_offset) ∧
(r2 ≠ 0 → (∀ (r3 : Int), z_in r3 → (r3 = z_b (decide ((0 : Int) ≤ ofs ∧ ofs ≤ (39 : Int)))) → ((r3 = 0 → Q 0 y_isThere y_length y_offset) ∧
(r3 ≠ 0 → z_in (40 - ofs) ∧ (∀ (r5 : Int), z_in r5 → (r5 = z_b (decide ((0 : Int) ≤ len ∧ len ≤ (40 - ofs)))) → ((r5 ≠ 0 → (0 ≤ (32 * gi) + i ∧ (32 * gi) + i < 128) ∧ (∀ f7 : Nat → Int32, f7 = z_s y_offset ((32 * gi) + i) ofs → (∀ f9 : Nat → Int32, f9 = z_s y_length ((32 * gi) + i) len → (∀ L71 : Int → (Nat → Int32) → Prop,
(∀ (x71_5 : Int) (y71_ya_isThere : Nat → Int32), z_in x71_5 → ((x71_5 ≥ 40 → Q 1 y71_ya_isThere f9 f7) ∧
(x71_5 < 40 → (0 ≤ ((1280 * gi) + (40 * i)) + x71_5 ∧ ((1280 * gi) + (40 * i)) + x71_5 < 5120) ∧ (∀ f12 : Nat → Int32, f12 = z_s y71_ya_isThere (((1280 * gi) + (40 * i)) + x71_5) 0 → L71 (x71_5 + 1) f12))) → L71 x71_5 y71_ya_isThere) →
L71 0 y_isThere)))) ∧
(r5 = 0 → Q 0 y_isThere y_length y_offset))))))))))))
set_option maxHeartbeats 4000000 in
set_option maxRecDepth 100000 in
theorem wk_X8_row (l : Launch) (D : va_G) (cA : Nat → ClassId) (y : Nat) (y_space : Nat) (ya_offset : Nat) (y_offset : Nat → Int32) (ya_length : Nat) (y_length : Nat → Int32) (y_units : Nat) (ya_isThere : Nat) (y_isThere : Nat → Int32) (y_levels : Int) (y_level : Nat) (y_lines : Int) (y_lineLevel : Nat) (y_lineUnits : Nat) (y_lineFrom : Nat) (y_lineMany : Nat) (y_isClosed : Nat) (y_insides : Nat) (y_parent : Nat) (y_isHigh : Nat) (y_inBits : Nat) (y_sides : Int) (y_side : Nat) (y_sideA : Nat) (y_sideB : Nat) (y_lineSpace : Int) (y_wasThere : Nat) (y_leads : Nat) (y_isLed : Nat) (y_isOn : Nat) (y_goesTo : Nat) (y_stream : Nat) (y_filled : Nat) (y_isDone : Nat) (y_isReached : Nat) (y_newUnits : Nat) (y_isNew : Nat) (gi : Int) (i : Int) (len : Int) (ofs : Int) (h_y_levels : z_in y_levels) (h_y_lines : z_in y_lines) (h_y_sides : z_in y_sides) (h_y_lineSpace : z_in y_lineSpace) (h_gi : z_in gi) (h_i : z_in i) (h_len : z_in len) (h_ofs : z_in ofs) (Q : Int → (Nat → Int32) → (Nat → Int32) → (Nat → Int32) → Prop) (hv : vc_X8_row y_offset y_length y_isThere gi i len ofs Q) : Met l yX8_row wsX8_row ({ frames := 2, cells := 0, slots := 0, locals := 42 } : Room) (va_Pc [.ref y, .int (z_i gi), .int (z_i i), .int (z_i len), .int (z_i ofs)] (z_M0 D cA [(y, .inr (6, [.ref y_space, .ref ya_offset, .ref ya_length, .ref y_units, .ref ya_isThere, .int (z_i y_levels), .ref y_level, .int (z_i y_lines), .ref y_lineLevel, .ref y_lineUnits, .ref y_lineFrom, .ref y_lineMany, .ref y_isClosed, .ref y_insides, .ref y_parent, .ref y_isHigh, .ref y_inBits, .int (z_i y_sides), .ref y_side, .ref y_sideA, .ref y_sideB, .int (z_i y_lineSpace), .ref y_wasThere, .ref y_leads, .ref y_isLed, .ref y_isOn, .ref y_goesTo, .ref y_stream, .ref y_filled, .ref y_isDone, .ref y_isReached, .ref y_newUnits, .ref y_isNew])), (ya_offset, .inl (cA 1, 128, .inl y_offset)), (ya_length, .inl (cA 1, 128, .inl y_length)), (ya_isThere, .inl (cA 3, 5120, .inl y_isThere))])) (va_Qi (z_mi (fun v (u : (Nat → Int32) × (Nat → Int32) × (Nat → Int32)) => Q v u.1 u.2.1 u.2.2)) (fun (u : (Nat → Int32) × (Nat → Int32) × (Nat → Int32)) t => va_P D vwCl [(y, .inr (6, [.ref y_space, .ref ya_offset, .ref ya_length, .ref y_units, .ref ya_isThere, .int (z_i y_levels), .ref y_level, .int (z_i y_lines), .ref y_lineLevel, .ref y_lineUnits, .ref y_lineFrom, .ref y_lineMany, .ref y_isClosed, .ref y_insides, .ref y_parent, .ref y_isHigh, .ref y_inBits, .int (z_i y_sides), .ref y_side, .ref y_sideA, .ref y_sideB, .int (z_i y_lineSpace), .ref y_wasThere, .ref y_leads, .ref y_isLed, .ref y_isOn, .ref y_goesTo, .ref y_stream, .ref y_filled, .ref y_isDone, .ref y_isReached, .ref y_newUnits, .ref y_isNew])), (ya_offset, .inl (cA 1, 128, .inl u.2.2)), (ya_length, .inl (cA 1, 128, .inl u.2.1)), (ya_isThere, .inl (cA 3, 5120, .inl u.1))] t.heap) (z_A [(y, .inr (6, [.ref y_space, .ref ya_offset, .ref ya_length, .ref y_units, .ref ya_isThere, .int (z_i y_levels), .ref y_level, .int (z_i y_lines), .ref y_lineLevel, .ref y_lineUnits, .ref y_lineFrom, .ref y_lineMany, .ref y_isClosed, .ref y_insides, .ref y_parent, .ref y_isHigh, .ref y_inBits, .int (z_i y_sides), .ref y_side, .ref y_sideA, .ref y_sideB, .int (z_i y_lineSpace), .ref y_wasThere, .ref y_leads, .ref y_isLed, .ref y_isOn, .ref y_goesTo, .ref y_stream, .ref y_filled, .ref y_isDone, .ref y_isReached, .ref y_newUnits, .ref y_isNew])), (ya_offset, .inl (cA 1, 128, .inl y_offset)), (ya_length, .inl (cA 1, 128, .inl y_length)), (ya_isThere, .inl (cA 3, 5120, .inl y_isThere))])) 0 0 (z_A [(y, .inr (6, [.ref y_space, .ref ya_offset, .ref ya_length, .ref y_units, .ref ya_isThere, .int (z_i y_levels), .ref y_level, .int (z_i y_lines), .ref y_lineLevel, .ref y_lineUnits, .ref y_lineFrom, .ref y_lineMany, .ref y_isClosed, .ref y_insides, .ref y_parent, .ref y_isHigh, .ref y_inBits, .int (z_i y_sides), .ref y_side, .ref y_sideA, .ref y_sideB, .int (z_i y_lineSpace), .ref y_wasThere, .ref y_leads, .ref y_isLed, .ref y_isOn, .ref y_goesTo, .ref y_stream, .ref y_filled, .ref y_isDone, .ref y_isReached, .ref y_newUnits, .ref y_isNew])), (ya_offset, .inl (cA 1, 128, .inl y_offset)), (ya_length, .inl (cA 1, 128, .inl y_length)), (ya_isThere, .inl (cA 3, 5120, .inl y_isThere))]) := by
  unfold vc_X8_row at hv
  refine Met.ofW (cc := cX8_row) (maxL := 6) (ret := (some .boolean)) (by decide +kernel) rfl ?_
  intro p e s m args below meth c s₁ B hml hv0
  obtain ⟨rfl, hK, hP, hD0⟩ := hv0
  have hx := B.exec
  have hb := B.bytes
  have hr := B.returns
  have hts := atoms_spec (ws := wsX8_row) B.pre
  have hown : s.vm.findClass RX8 = some m.cls := findClass_of_methodNamed B.named
  have hlocks := B.notSynchronized
  have hD := z_D_self hD0
  generalize hAe : z_A [(y, .inr (6, [.ref y_space, .ref ya_offset, .ref ya_length, .ref y_units, .ref ya_isThere, .int (z_i y_levels), .ref y_level, .int (z_i y_lines), .ref y_lineLevel, .ref y_lineUnits, .ref y_lineFrom, .ref y_lineMany, .ref y_isClosed, .ref y_insides, .ref y_parent, .ref y_isHigh, .ref y_inBits, .int (z_i y_sides), .ref y_side, .ref y_sideA, .ref y_sideB, .int (z_i y_lineSpace), .ref y_wasThere, .ref y_leads, .ref y_isLed, .ref y_isOn, .ref y_goesTo, .ref y_stream, .ref y_filled, .ref y_isDone, .ref y_isReached, .ref y_newUnits, .ref y_isNew])), (ya_offset, .inl (cA 1, 128, .inl y_offset)), (ya_length, .inl (cA 1, 128, .inl y_length)), (ya_isThere, .inl (cA 3, 5120, .inl y_isThere))] = A at *
  have hS : va_S A s.heap s.heap [] := va_S.rf
  have hl := lv_entry ([.ref y, .int (z_i gi), .int (z_i i), .int (z_i len), .int (z_i ofs)]) (n := 6) (Nat.le_of_ble_eq_true rfl)
  rw [lg_entry_eq]
  generalize (lg_sl ([.ref y, .int (z_i gi), .int (z_i i), .int (z_i len), .int (z_i ofs)]) ++ List.replicate (6 - (lg_sl ([.ref y, .int (z_i gi), .int (z_i i), .int (z_i len), .int (z_i ofs)])).length) Slot.unset).toArray = ls at hl ⊢
  have hl : lv_has ls 6 [(0, .ref y), (1, .int (z_i gi)), (2, .int (z_i i)), (3, .int (z_i len)), (4, .int (z_i ofs))] := hl
  refine lv_iload_n hx hb dX8_row_0 rfl (lv_at hl 1 rfl) ?_
  refine va_calli (va_runS (As := [.int (z_i gi)]) (rest := []) ⟨hx, hb, hml, hown, hts⟩ (mt_X8_isGrid l D cA gi h_gi) (va_cwS 1 hts gX8_row_X8_isGrid rfl rfl rfl (by decide +kernel) ⟨Nat.le_of_ble_eq_true rfl, Nat.le_of_ble_eq_true rfl⟩) ⟨z_bl0, fun U hU hW => ⟨rfl, z_b0 hK (hP.sub (ws' := []) [] rfl) hU hW⟩⟩ rfl rfl hl.1 rfl (lv_room (Nat.le_of_ble_eq_true rfl)) dX8_row_1 ⟨Nat.zero_le _, Nat.zero_le _⟩) hS (fun q _ h => h.elim) (fun q h => h.elim) (fun r0 u t H locs ht hvm hw hB hz1 hk1 hS => ?_)
  obtain ⟨r1, rfl, h_r1, hw⟩ := hw
  have hP := z_P_all hP hk1
  have hv := hv r1 h_r1 hw
  refine lx_if_eq (tgt := 41) hx hb dX8_row_4 (by decide) h_r1 (fun hc => ?_) (fun hc => ?_)
  · have hv := hv.1 hc
    refine lv_iconst (v := z_i 0) hx hb dX8_row_41 rfl ?_
    exact W.zret (v := z_i 0) hx hb hr (by decide) (fun t ht hW => ⟨⟨z_i 0, (y_isThere, y_length, y_offset), rfl, ⟨0, rfl, (show z_in 0 from ⟨by decide, by decide⟩), hv⟩, z_pt hP ht⟩, hS.F ht⟩) hS.2.2 dX8_row_42
  · have hv := hv.2 hc
    refine lv_iload_n hx hb dX8_row_7 rfl (lv_at hl 2 rfl) ?_
    refine lv_iconst (v := z_i 0) hx hb dX8_row_8 rfl ?_
    refine lv_bipush (v := z_i 31) hx hb dX8_row_9 (by decide) ?_
    refine va_calli (va_runS (As := [.int (z_i i), .int (z_i 0), .int (z_i 31)]) (rest := []) ⟨hx, hb, hml, hown, hts⟩ (mt_X8_in l D cA i 0 31 h_i (show z_in 0 from ⟨by decide, by decide⟩) (show z_in 31 from ⟨by decide, by decide⟩)) (va_cwS 3 hts gX8_row_X8_in rfl rfl rfl (by decide +kernel) ⟨Nat.le_of_ble_eq_true rfl, Nat.le_of_ble_eq_true rfl⟩) ⟨z_bl0, fun U hU hW => ⟨rfl, z_b0 hK (hP.sub (ws' := []) [] rfl) hU hW⟩⟩ rfl rfl hl.1 rfl (lv_room (Nat.le_of_ble_eq_true rfl)) dX8_row_11 ⟨Nat.zero_le _, Nat.zero_le _⟩) hS (fun q _ h => h.elim) (fun q h => h.elim) (fun r0 u t H locs ht hvm hw hB hz1 hk1 hS => ?_)
    obtain ⟨r2, rfl, h_r2, hw⟩ := hw
    have hP := z_P_all hP hk1
    have hv := hv r2 h_r2 hw
    refine lx_if_eq (tgt := 41) hx hb dX8_row_14 (by decide) h_r2 (fun hc => ?_) (fun hc => ?_)
    · have hv := hv.1 hc
      refine lv_iconst (v := z_i 0) hx hb dX8_row_41 rfl ?_
      exact W.zret (v := z_i 0) hx hb hr (by decide) (fun t ht hW => ⟨⟨z_i 0, (y_isThere, y_length, y_offset), rfl, ⟨0, rfl, (show z_in 0 from ⟨by decide, by decide⟩), hv⟩, z_pt hP ht⟩, hS.F ht⟩) hS.2.2 dX8_row_42
    · have hv := hv.2 hc
      refine lv_iload hx hb dX8_row_17 (lv_at hl 4 rfl) ?_
      refine lv_iconst (v := z_i 0) hx hb dX8_row_19 rfl ?_
      refine lv_bipush (v := z_i 39) hx hb dX8_row_20 (by decide) ?_
      refine va_calli (va_runS (As := [.int (z_i ofs), .int (z_i 0), .int (z_i 39)]) (rest := []) ⟨hx, hb, hml, hown, hts⟩ (mt_X8_in l D cA ofs 0 39 h_ofs (show z_in 0 from ⟨by decide, by decide⟩) (show z_in 39 from ⟨by decide, by decide⟩)) (va_cwS 3 hts gX8_row_X8_in rfl rfl rfl (by decide +kernel) ⟨Nat.le_of_ble_eq_true rfl, Nat.le_of_ble_eq_true rfl⟩) ⟨z_bl0, fun U hU hW => ⟨rfl, z_b0 hK (hP.sub (ws' := []) [] rfl) hU hW⟩⟩ rfl rfl hl.1 rfl (lv_room (Nat.le_of_ble_eq_true rfl)) dX8_row_22 ⟨Nat.zero_le _, Nat.zero_le _⟩) hS (fun q _ h => h.elim) (fun q h => h.elim) (fun r0 u t H locs ht hvm hw hB hz1 hk1 hS => ?_)
      obtain ⟨r3, rfl, h_r3, hw⟩ := hw
      have hP := z_P_all hP hk1
      have hv := hv r3 h_r3 hw
      refine lx_if_eq (tgt := 41) hx hb dX8_row_25 (by decide) h_r3 (fun hc => ?_) (fun hc => ?_)
      · have hv := hv.1 hc
        refine lv_iconst (v := z_i 0) hx hb dX8_row_41 rfl ?_
        exact W.zret (v := z_i 0) hx hb hr (by decide) (fun t ht hW => ⟨⟨z_i 0, (y_isThere, y_length, y_offset), rfl, ⟨0, rfl, (show z_in 0 from ⟨by decide, by decide⟩), hv⟩, z_pt hP ht⟩, hS.F ht⟩) hS.2.2 dX8_row_42
      · have hv := hv.2 hc
        refine lv_iload_n hx hb dX8_row_28 rfl (lv_at hl 3 rfl) ?_
        refine lv_iconst (v := z_i 0) hx hb dX8_row_29 rfl ?_
        refine lv_bipush (v := z_i 40) hx hb dX8_row_30 (by decide) ?_
        refine lv_iload hx hb dX8_row_32 (lv_at hl 4 rfl) ?_
        refine lx_isub hx hb dX8_row_34 ?_
        obtain ⟨hr4, hv⟩ := hv
        refine va_calli (va_runS (As := [.int (z_i len), .int (z_i 0), .int (z_i (40 - ofs))]) (rest := []) ⟨hx, hb, hml, hown, hts⟩ (mt_X8_in l D cA len 0 (40 - ofs) h_len (show z_in 0 from ⟨by decide, by decide⟩) hr4) (va_cwS 3 hts gX8_row_X8_in rfl rfl rfl (by decide +kernel) ⟨Nat.le_of_ble_eq_true rfl, Nat.le_of_ble_eq_true rfl⟩) ⟨z_bl0, fun U hU hW => ⟨rfl, z_b0 hK (hP.sub (ws' := []) [] rfl) hU hW⟩⟩ rfl rfl hl.1 rfl (lv_room (Nat.le_of_ble_eq_true rfl)) dX8_row_35 ⟨Nat.zero_le _, Nat.zero_le _⟩) hS (fun q _ h => h.elim) (fun q h => h.elim) (fun r0 u t H locs ht hvm hw hB hz1 hk1 hS => ?_)
        obtain ⟨r5, rfl, h_r5, hw⟩ := hw
        have hP := z_P_all hP hk1
        have hv := hv r5 h_r5 hw
        refine lx_if_ne (tgt := 43) hx hb dX8_row_38 (by decide) h_r5 (fun hc => ?_) (fun hc => ?_)
        · have hv := hv.1 hc
          refine lv_aload_n hx hb dX8_row_43 rfl (lv_at hl 0 rfl) ?_
          refine va_get (D := D) (ci := 6) (v := .ref ya_offset) (C := RX8) (T := TX8) (N := 33) hx hb hts (fun w h => List.mem_cons_of_mem _ (List.mem_append_right _ h)) hown hK hP 0 rfl rfl 1 (by decide) (hts (.fieldLink RX8 13 "ContourSheetsModel" "offset" "[I") (by decide +kernel)) (fun _ h9 => h9) rfl dX8_row_44 ?_
          refine lv_bipush (v := z_i 32) hx hb dX8_row_47 (by decide) ?_
          refine lv_iload_n hx hb dX8_row_49 rfl (lv_at hl 1 rfl) ?_
          refine lx_imul hx hb dX8_row_50 ?_
          refine lv_iload_n hx hb dX8_row_51 rfl (lv_at hl 2 rfl) ?_
          refine lx_iadd hx hb dX8_row_52 ?_
          refine lv_iload hx hb dX8_row_53 (lv_at hl 4 rfl) ?_
          obtain ⟨hi6, hv⟩ := hv
          refine lx_iast hx hb hK hP hD hS 1 1 rfl rfl (by decide) hi6.1 hi6.2 dX8_row_55 (fun H locs hP hD hS => ?_)
          obtain ⟨f7, hy8⟩ : ∃ y : Nat → Int32, y = z_s y_offset ((32 * gi) + i) ofs := ⟨_, rfl⟩
          have hv := hv f7 hy8
          have hP : va_P D vwCl [(y, .inr (6, [.ref y_space, .ref ya_offset, .ref ya_length, .ref y_units, .ref ya_isThere, .int (z_i y_levels), .ref y_level, .int (z_i y_lines), .ref y_lineLevel, .ref y_lineUnits, .ref y_lineFrom, .ref y_lineMany, .ref y_isClosed, .ref y_insides, .ref y_parent, .ref y_isHigh, .ref y_inBits, .int (z_i y_sides), .ref y_side, .ref y_sideA, .ref y_sideB, .int (z_i y_lineSpace), .ref y_wasThere, .ref y_leads, .ref y_isLed, .ref y_isOn, .ref y_goesTo, .ref y_stream, .ref y_filled, .ref y_isDone, .ref y_isReached, .ref y_newUnits, .ref y_isNew])), (ya_offset, .inl (cA 1, 128, .inl f7)), (ya_length, .inl (cA 1, 128, .inl y_length)), (ya_isThere, .inl (cA 3, 5120, .inl y_isThere))] H := by rw [hy8]; exact hP
          have hD : va_D A [(y, .inr (6, [.ref y_space, .ref ya_offset, .ref ya_length, .ref y_units, .ref ya_isThere, .int (z_i y_levels), .ref y_level, .int (z_i y_lines), .ref y_lineLevel, .ref y_lineUnits, .ref y_lineFrom, .ref y_lineMany, .ref y_isClosed, .ref y_insides, .ref y_parent, .ref y_isHigh, .ref y_inBits, .int (z_i y_sides), .ref y_side, .ref y_sideA, .ref y_sideB, .int (z_i y_lineSpace), .ref y_wasThere, .ref y_leads, .ref y_isLed, .ref y_isOn, .ref y_goesTo, .ref y_stream, .ref y_filled, .ref y_isDone, .ref y_isReached, .ref y_newUnits, .ref y_isNew])), (ya_offset, .inl (cA 1, 128, .inl f7)), (ya_length, .inl (cA 1, 128, .inl y_length)), (ya_isThere, .inl (cA 3, 5120, .inl y_isThere))] := by rw [hy8]; exact hD
          refine lv_aload_n hx hb dX8_row_56 rfl (lv_at hl 0 rfl) ?_
          refine va_get (D := D) (ci := 6) (v := .ref ya_length) (C := RX8) (T := TX8) (N := 33) hx hb hts (fun w h => List.mem_cons_of_mem _ (List.mem_append_right _ h)) hown hK hP 0 rfl rfl 2 (by decide) (hts (.fieldLink RX8 16 "ContourSheetsModel" "length" "[I") (by decide +kernel)) (fun _ h9 => h9) rfl dX8_row_57 ?_
          refine lv_bipush (v := z_i 32) hx hb dX8_row_60 (by decide) ?_
          refine lv_iload_n hx hb dX8_row_62 rfl (lv_at hl 1 rfl) ?_
          refine lx_imul hx hb dX8_row_63 ?_
          refine lv_iload_n hx hb dX8_row_64 rfl (lv_at hl 2 rfl) ?_
          refine lx_iadd hx hb dX8_row_65 ?_
          refine lv_iload_n hx hb dX8_row_66 rfl (lv_at hl 3 rfl) ?_
          refine lx_iast hx hb hK hP hD hS 2 1 rfl rfl (by decide) hi6.1 hi6.2 dX8_row_67 (fun H locs hP hD hS => ?_)
          obtain ⟨f9, hy10⟩ : ∃ y : Nat → Int32, y = z_s y_length ((32 * gi) + i) len := ⟨_, rfl⟩
          have hv := hv f9 hy10
          have hP : va_P D vwCl [(y, .inr (6, [.ref y_space, .ref ya_offset, .ref ya_length, .ref y_units, .ref ya_isThere, .int (z_i y_levels), .ref y_level, .int (z_i y_lines), .ref y_lineLevel, .ref y_lineUnits, .ref y_lineFrom, .ref y_lineMany, .ref y_isClosed, .ref y_insides, .ref y_parent, .ref y_isHigh, .ref y_inBits, .int (z_i y_sides), .ref y_side, .ref y_sideA, .ref y_sideB, .int (z_i y_lineSpace), .ref y_wasThere, .ref y_leads, .ref y_isLed, .ref y_isOn, .ref y_goesTo, .ref y_stream, .ref y_filled, .ref y_isDone, .ref y_isReached, .ref y_newUnits, .ref y_isNew])), (ya_offset, .inl (cA 1, 128, .inl f7)), (ya_length, .inl (cA 1, 128, .inl f9)), (ya_isThere, .inl (cA 3, 5120, .inl y_isThere))] H := by rw [hy10]; exact hP
          have hD : va_D A [(y, .inr (6, [.ref y_space, .ref ya_offset, .ref ya_length, .ref y_units, .ref ya_isThere, .int (z_i y_levels), .ref y_level, .int (z_i y_lines), .ref y_lineLevel, .ref y_lineUnits, .ref y_lineFrom, .ref y_lineMany, .ref y_isClosed, .ref y_insides, .ref y_parent, .ref y_isHigh, .ref y_inBits, .int (z_i y_sides), .ref y_side, .ref y_sideA, .ref y_sideB, .int (z_i y_lineSpace), .ref y_wasThere, .ref y_leads, .ref y_isLed, .ref y_isOn, .ref y_goesTo, .ref y_stream, .ref y_filled, .ref y_isDone, .ref y_isReached, .ref y_newUnits, .ref y_isNew])), (ya_offset, .inl (cA 1, 128, .inl f7)), (ya_length, .inl (cA 1, 128, .inl f9)), (ya_isThere, .inl (cA 3, 5120, .inl y_isThere))] := by rw [hy10]; exact hD
          refine lv_iconst (v := z_i 0) hx hb dX8_row_68 rfl ?_
          refine lv_istore (lv' := [(5, .int (z_i 0)), (0, .ref y), (1, .int (z_i gi)), (2, .int (z_i i)), (3, .int (z_i len)), (4, .int (z_i ofs))]) hx hb dX8_row_69 hl (by decide) rfl (fun ls hl => ?_)
          refine hv (fun (x71_5 : Int) (y71_ya_isThere : Nat → Int32) => ∀ (H : Heap) (locs : List Loc) (ls : Array Slot), va_P D vwCl [(y, .inr (6, [.ref y_space, .ref ya_offset, .ref ya_length, .ref y_units, .ref ya_isThere, .int (z_i y_levels), .ref y_level, .int (z_i y_lines), .ref y_lineLevel, .ref y_lineUnits, .ref y_lineFrom, .ref y_lineMany, .ref y_isClosed, .ref y_insides, .ref y_parent, .ref y_isHigh, .ref y_inBits, .int (z_i y_sides), .ref y_side, .ref y_sideA, .ref y_sideB, .int (z_i y_lineSpace), .ref y_wasThere, .ref y_leads, .ref y_isLed, .ref y_isOn, .ref y_goesTo, .ref y_stream, .ref y_filled, .ref y_isDone, .ref y_isReached, .ref y_newUnits, .ref y_isNew])), (ya_offset, .inl (cA 1, 128, .inl f7)), (ya_length, .inl (cA 1, 128, .inl f9)), (ya_isThere, .inl (cA 3, 5120, .inl y71_ya_isThere))] H → va_D A [(y, .inr (6, [.ref y_space, .ref ya_offset, .ref ya_length, .ref y_units, .ref ya_isThere, .int (z_i y_levels), .ref y_level, .int (z_i y_lines), .ref y_lineLevel, .ref y_lineUnits, .ref y_lineFrom, .ref y_lineMany, .ref y_isClosed, .ref y_insides, .ref y_parent, .ref y_isHigh, .ref y_inBits, .int (z_i y_sides), .ref y_side, .ref y_sideA, .ref y_sideB, .int (z_i y_lineSpace), .ref y_wasThere, .ref y_leads, .ref y_isLed, .ref y_isOn, .ref y_goesTo, .ref y_stream, .ref y_filled, .ref y_isDone, .ref y_isReached, .ref y_newUnits, .ref y_isNew])), (ya_offset, .inl (cA 1, 128, .inl f7)), (ya_length, .inl (cA 1, 128, .inl f9)), (ya_isThere, .inl (cA 3, 5120, .inl y71_ya_isThere))] → va_S A s.heap H locs → lv_has ls 6 [(5, .int (z_i x71_5)), (0, .ref y), (1, .int (z_i gi)), (2, .int (z_i i))] → W p l e _ s m _ below meth c H locs 0 0 _ (F0 m 71 ls [])) ?_ _ _ ls hP hD hS (lv_sub hl [0, 1, 2, 3] rfl)
          intro x71_5 y71_ya_isThere h_x71_5 hv H locs ls hP hD hS hl
          refine lv_iload hx hb dX8_row_71 (lv_at hl 0 rfl) ?_
          refine lv_bipush (v := z_i 40) hx hb dX8_row_73 (by decide) ?_
          refine lx_icmp_ge (tgt := 103) hx hb dX8_row_75 (by decide) h_x71_5 (show z_in 40 from ⟨by decide, by decide⟩) (fun hc => ?_) (fun hc => ?_)
          · have hv := hv.1 hc
            refine lv_iconst (v := z_i 1) hx hb dX8_row_103 rfl ?_
            exact W.zret (v := z_i 1) hx hb hr (by decide) (fun t ht hW => ⟨⟨z_i 1, (y71_ya_isThere, f9, f7), rfl, ⟨1, rfl, (show z_in 1 from ⟨by decide, by decide⟩), hv⟩, z_pt hP ht⟩, hS.F ht⟩) hS.2.2 dX8_row_104
          · have hv := hv.2 hc
            refine lv_aload_n hx hb dX8_row_78 rfl (lv_at hl 1 rfl) ?_
            refine va_get (D := D) (ci := 6) (v := .ref ya_isThere) (C := RX8) (T := TX8) (N := 33) hx hb hts (fun w h => List.mem_cons_of_mem _ (List.mem_append_right _ h)) hown hK hP 0 rfl rfl 4 (by decide) (hts (.fieldLink RX8 22 "ContourSheetsModel" "isThere" "[Z") (by decide +kernel)) (fun _ h9 => h9) rfl dX8_row_79 ?_
            refine lv_sipush (v := z_i 1280) hx hb dX8_row_82 (by decide) ?_
            refine lv_iload_n hx hb dX8_row_85 rfl (lv_at hl 2 rfl) ?_
            refine lx_imul hx hb dX8_row_86 ?_
            refine lv_bipush (v := z_i 40) hx hb dX8_row_87 (by decide) ?_
            refine lv_iload_n hx hb dX8_row_89 rfl (lv_at hl 3 rfl) ?_
            refine lx_imul hx hb dX8_row_90 ?_
            refine lx_iadd hx hb dX8_row_91 ?_
            refine lv_iload hx hb dX8_row_92 (lv_at hl 0 rfl) ?_
            refine lx_iadd hx hb dX8_row_94 ?_
            refine lv_iconst (v := z_i 0) hx hb dX8_row_95 rfl ?_
            obtain ⟨hi11, hv⟩ := hv
            refine lx_zast hx hb hK hP hD hS 3 3 rfl rfl (by decide) hi11.1 hi11.2 (by decide) dX8_row_96 (fun H locs hP hD hS => ?_)
            obtain ⟨f12, hy13⟩ : ∃ y : Nat → Int32, y = z_s y71_ya_isThere (((1280 * gi) + (40 * i)) + x71_5) 0 := ⟨_, rfl⟩
            have hv := hv f12 hy13
            have hP : va_P D vwCl [(y, .inr (6, [.ref y_space, .ref ya_offset, .ref ya_length, .ref y_units, .ref ya_isThere, .int (z_i y_levels), .ref y_level, .int (z_i y_lines), .ref y_lineLevel, .ref y_lineUnits, .ref y_lineFrom, .ref y_lineMany, .ref y_isClosed, .ref y_insides, .ref y_parent, .ref y_isHigh, .ref y_inBits, .int (z_i y_sides), .ref y_side, .ref y_sideA, .ref y_sideB, .int (z_i y_lineSpace), .ref y_wasThere, .ref y_leads, .ref y_isLed, .ref y_isOn, .ref y_goesTo, .ref y_stream, .ref y_filled, .ref y_isDone, .ref y_isReached, .ref y_newUnits, .ref y_isNew])), (ya_offset, .inl (cA 1, 128, .inl f7)), (ya_length, .inl (cA 1, 128, .inl f9)), (ya_isThere, .inl (cA 3, 5120, .inl f12))] H := by rw [hy13]; exact hP
            have hD : va_D A [(y, .inr (6, [.ref y_space, .ref ya_offset, .ref ya_length, .ref y_units, .ref ya_isThere, .int (z_i y_levels), .ref y_level, .int (z_i y_lines), .ref y_lineLevel, .ref y_lineUnits, .ref y_lineFrom, .ref y_lineMany, .ref y_isClosed, .ref y_insides, .ref y_parent, .ref y_isHigh, .ref y_inBits, .int (z_i y_sides), .ref y_side, .ref y_sideA, .ref y_sideB, .int (z_i y_lineSpace), .ref y_wasThere, .ref y_leads, .ref y_isLed, .ref y_isOn, .ref y_goesTo, .ref y_stream, .ref y_filled, .ref y_isDone, .ref y_isReached, .ref y_newUnits, .ref y_isNew])), (ya_offset, .inl (cA 1, 128, .inl f7)), (ya_length, .inl (cA 1, 128, .inl f9)), (ya_isThere, .inl (cA 3, 5120, .inl f12))] := by rw [hy13]; exact hD
            refine lv_iinc (v := z_i (x71_5 + 1)) (lv' := [(5, .int (z_i (x71_5 + 1))), (0, .ref y), (1, .int (z_i gi)), (2, .int (z_i i))]) hx hb dX8_row_97 hl (k := 0) rfl (z_i_add _ _) (by decide) rfl (fun ls hl => ?_)
            refine lv_goto (tgt := 71) hx hb dX8_row_100 (by decide) ?_
            exact hv _ _ ls hP hD hS (lv_sub hl [0, 1, 2, 3] rfl)
        · have hv := hv.2 hc
          refine lv_iconst (v := z_i 0) hx hb dX8_row_41 rfl ?_
          exact W.zret (v := z_i 0) hx hb hr (by decide) (fun t ht hW => ⟨⟨z_i 0, (y_isThere, y_length, y_offset), rfl, ⟨0, rfl, (show z_in 0 from ⟨by decide, by decide⟩), hv⟩, z_pt hP ht⟩, hS.F ht⟩) hS.2.2 dX8_row_42
set_option maxHeartbeats 4000000 in
set_option maxRecDepth 100000 in
theorem mt_X8_row (l : Launch) (D : va_G) (cA : Nat → ClassId) (y : Nat) (y_space : Nat) (ya_offset : Nat) (y_offset : Nat → Int32) (ya_length : Nat) (y_length : Nat → Int32) (y_units : Nat) (ya_isThere : Nat) (y_isThere : Nat → Int32) (y_levels : Int) (y_level : Nat) (y_lines : Int) (y_lineLevel : Nat) (y_lineUnits : Nat) (y_lineFrom : Nat) (y_lineMany : Nat) (y_isClosed : Nat) (y_insides : Nat) (y_parent : Nat) (y_isHigh : Nat) (y_inBits : Nat) (y_sides : Int) (y_side : Nat) (y_sideA : Nat) (y_sideB : Nat) (y_lineSpace : Int) (y_wasThere : Nat) (y_leads : Nat) (y_isLed : Nat) (y_isOn : Nat) (y_goesTo : Nat) (y_stream : Nat) (y_filled : Nat) (y_isDone : Nat) (y_isReached : Nat) (y_newUnits : Nat) (y_isNew : Nat) (gi : Int) (i : Int) (len : Int) (ofs : Int) (h_y_levels : z_in y_levels) (h_y_lines : z_in y_lines) (h_y_sides : z_in y_sides) (h_y_lineSpace : z_in y_lineSpace) (h_gi : z_in gi) (h_i : z_in i) (h_len : z_in len) (h_ofs : z_in ofs)  : Met l yX8_row wsX8_row ({ frames := 2, cells := 0, slots := 0, locals := 42 } : Room) (va_Pc [.ref y, .int (z_i gi), .int (z_i i), .int (z_i len), .int (z_i ofs)] (z_M0 D cA [(y, .inr (6, [.ref y_space, .ref ya_offset, .ref ya_length, .ref y_units, .ref ya_isThere, .int (z_i y_levels), .ref y_level, .int (z_i y_lines), .ref y_lineLevel, .ref y_lineUnits, .ref y_lineFrom, .ref y_lineMany, .ref y_isClosed, .ref y_insides, .ref y_parent, .ref y_isHigh, .ref y_inBits, .int (z_i y_sides), .ref y_side, .ref y_sideA, .ref y_sideB, .int (z_i y_lineSpace), .ref y_wasThere, .ref y_leads, .ref y_isLed, .ref y_isOn, .ref y_goesTo, .ref y_stream, .ref y_filled, .ref y_isDone, .ref y_isReached, .ref y_newUnits, .ref y_isNew])), (ya_offset, .inl (cA 1, 128, .inl y_offset)), (ya_length, .inl (cA 1, 128, .inl y_length)), (ya_isThere, .inl (cA 3, 5120, .inl y_isThere))])) (va_Qi (z_mi (fun v (u : (Nat → Int32) × (Nat → Int32) × (Nat → Int32)) => (fun (r : Int) (y_isThere' : (Nat → Int32)) (y_length' : (Nat → Int32)) (y_offset' : (Nat → Int32)) => r = z_b (decide ((0 ≤ gi ∧ gi < 4) ∧ 0 ≤ i ∧ i < 32 ∧ 0 ≤ ofs ∧ ofs < 40 ∧ 0 ≤ len ∧ len ≤ 40 - ofs)) ∧ ((0 ≤ gi ∧ gi < 4) ∧ 0 ≤ i ∧ i < 32 ∧ 0 ≤ ofs ∧ ofs < 40 ∧ 0 ≤ len ∧ len ≤ 40 - ofs → (∀ q : Int, 0 ≤ q → z_g y_isThere' q = if 1280 * gi + 40 * i ≤ q ∧ q < 1280 * gi + 40 * i + 40 then 0 else z_g y_isThere q) ∧ y_length' = z_s y_length (32 * gi + i) len ∧ y_offset' = z_s y_offset (32 * gi + i) ofs) ∧ (¬ ((0 ≤ gi ∧ gi < 4) ∧ 0 ≤ i ∧ i < 32 ∧ 0 ≤ ofs ∧ ofs < 40 ∧ 0 ≤ len ∧ len ≤ 40 - ofs) → y_isThere' = y_isThere ∧ y_length' = y_length ∧ y_offset' = y_offset)) v u.1 u.2.1 u.2.2)) (fun (u : (Nat → Int32) × (Nat → Int32) × (Nat → Int32)) t => va_P D vwCl [(y, .inr (6, [.ref y_space, .ref ya_offset, .ref ya_length, .ref y_units, .ref ya_isThere, .int (z_i y_levels), .ref y_level, .int (z_i y_lines), .ref y_lineLevel, .ref y_lineUnits, .ref y_lineFrom, .ref y_lineMany, .ref y_isClosed, .ref y_insides, .ref y_parent, .ref y_isHigh, .ref y_inBits, .int (z_i y_sides), .ref y_side, .ref y_sideA, .ref y_sideB, .int (z_i y_lineSpace), .ref y_wasThere, .ref y_leads, .ref y_isLed, .ref y_isOn, .ref y_goesTo, .ref y_stream, .ref y_filled, .ref y_isDone, .ref y_isReached, .ref y_newUnits, .ref y_isNew])), (ya_offset, .inl (cA 1, 128, .inl u.2.2)), (ya_length, .inl (cA 1, 128, .inl u.2.1)), (ya_isThere, .inl (cA 3, 5120, .inl u.1))] t.heap) (z_A [(y, .inr (6, [.ref y_space, .ref ya_offset, .ref ya_length, .ref y_units, .ref ya_isThere, .int (z_i y_levels), .ref y_level, .int (z_i y_lines), .ref y_lineLevel, .ref y_lineUnits, .ref y_lineFrom, .ref y_lineMany, .ref y_isClosed, .ref y_insides, .ref y_parent, .ref y_isHigh, .ref y_inBits, .int (z_i y_sides), .ref y_side, .ref y_sideA, .ref y_sideB, .int (z_i y_lineSpace), .ref y_wasThere, .ref y_leads, .ref y_isLed, .ref y_isOn, .ref y_goesTo, .ref y_stream, .ref y_filled, .ref y_isDone, .ref y_isReached, .ref y_newUnits, .ref y_isNew])), (ya_offset, .inl (cA 1, 128, .inl y_offset)), (ya_length, .inl (cA 1, 128, .inl y_length)), (ya_isThere, .inl (cA 3, 5120, .inl y_isThere))])) 0 0 (z_A [(y, .inr (6, [.ref y_space, .ref ya_offset, .ref ya_length, .ref y_units, .ref ya_isThere, .int (z_i y_levels), .ref y_level, .int (z_i y_lines), .ref y_lineLevel, .ref y_lineUnits, .ref y_lineFrom, .ref y_lineMany, .ref y_isClosed, .ref y_insides, .ref y_parent, .ref y_isHigh, .ref y_inBits, .int (z_i y_sides), .ref y_side, .ref y_sideA, .ref y_sideB, .int (z_i y_lineSpace), .ref y_wasThere, .ref y_leads, .ref y_isLed, .ref y_isOn, .ref y_goesTo, .ref y_stream, .ref y_filled, .ref y_isDone, .ref y_isReached, .ref y_newUnits, .ref y_isNew])), (ya_offset, .inl (cA 1, 128, .inl y_offset)), (ya_length, .inl (cA 1, 128, .inl y_length)), (ya_isThere, .inl (cA 3, 5120, .inl y_isThere))]) := by
  refine wk_X8_row l D cA y y_space ya_offset y_offset ya_length y_length y_units ya_isThere y_isThere y_levels y_level y_lines y_lineLevel y_lineUnits y_lineFrom y_lineMany y_isClosed y_insides y_parent y_isHigh y_inBits y_sides y_side y_sideA y_sideB y_lineSpace y_wasThere y_leads y_isLed y_isOn y_goesTo y_stream y_filled y_isDone y_isReached y_newUnits y_isNew gi i len ofs h_y_levels h_y_lines h_y_sides h_y_lineSpace h_gi h_i h_len h_ofs (fun (r : Int) (y_isThere' : (Nat → Int32)) (y_length' : (Nat → Int32)) (y_offset' : (Nat → Int32)) => r = z_b (decide ((0 ≤ gi ∧ gi < 4) ∧ 0 ≤ i ∧ i < 32 ∧ 0 ≤ ofs ∧ ofs < 40 ∧ 0 ≤ len ∧ len ≤ 40 - ofs)) ∧ ((0 ≤ gi ∧ gi < 4) ∧ 0 ≤ i ∧ i < 32 ∧ 0 ≤ ofs ∧ ofs < 40 ∧ 0 ≤ len ∧ len ≤ 40 - ofs → (∀ q : Int, 0 ≤ q → z_g y_isThere' q = if 1280 * gi + 40 * i ≤ q ∧ q < 1280 * gi + 40 * i + 40 then 0 else z_g y_isThere q) ∧ y_length' = z_s y_length (32 * gi + i) len ∧ y_offset' = z_s y_offset (32 * gi + i) ofs) ∧ (¬ ((0 ≤ gi ∧ gi < 4) ∧ 0 ≤ i ∧ i < 32 ∧ 0 ≤ ofs ∧ ofs < 40 ∧ 0 ≤ len ∧ len ≤ 40 - ofs) → y_isThere' = y_isThere ∧ y_length' = y_length ∧ y_offset' = y_offset)) ?_
  unfold vc_X8_row
  have no : ¬ ((0 ≤ gi ∧ gi < 4) ∧ 0 ≤ i ∧ i < 32 ∧ 0 ≤ ofs ∧ ofs < 40 ∧ 0 ≤ len ∧ len ≤ 40 - ofs) → (0 : Int) = z_b (decide ((0 ≤ gi ∧ gi < 4) ∧ 0 ≤ i ∧ i < 32 ∧ 0 ≤ ofs ∧ ofs < 40 ∧ 0 ≤ len ∧ len ≤ 40 - ofs)) ∧ ((0 ≤ gi ∧ gi < 4) ∧ 0 ≤ i ∧ i < 32 ∧ 0 ≤ ofs ∧ ofs < 40 ∧ 0 ≤ len ∧ len ≤ 40 - ofs → (∀ q : Int, 0 ≤ q → z_g y_isThere q = if 1280 * gi + 40 * i ≤ q ∧ q < 1280 * gi + 40 * i + 40 then 0 else z_g y_isThere q) ∧ y_length = z_s y_length (32 * gi + i) len ∧ y_offset = z_s y_offset (32 * gi + i) ofs) ∧ (¬ ((0 ≤ gi ∧ gi < 4) ∧ 0 ≤ i ∧ i < 32 ∧ 0 ≤ ofs ∧ ofs < 40 ∧ 0 ≤ len ∧ len ≤ 40 - ofs) → y_isThere = y_isThere ∧ y_length = y_length ∧ y_offset = y_offset) := fun h => ⟨by rw [decide_eq_false h]; rfl, fun h2 => absurd h2 h, fun _ => ⟨rfl, rfl, rfl⟩⟩
  rintro r1 _ rfl
  refine ⟨fun q => no (fun h => of_decide_eq_false (zb_f q) (by omega)), fun q => ?_⟩
  have q := of_decide_eq_true (zb_t q)
  rintro r2 _ rfl
  refine ⟨fun q1 => no (fun h => of_decide_eq_false (zb_f q1) (by omega)), fun q1 => ?_⟩
  have q1 := of_decide_eq_true (zb_t q1)
  rintro r3 _ rfl
  refine ⟨fun q2 => no (fun h => of_decide_eq_false (zb_f q2) (by omega)), fun q2 => ⟨⟨?_, ?_⟩, ?_⟩⟩
  · have q2 := of_decide_eq_true (zb_t q2); omega
  · have q2 := of_decide_eq_true (zb_t q2); omega
  have q2 := of_decide_eq_true (zb_t q2)
  rintro r5 _ rfl
  refine ⟨fun q3 => ⟨⟨by omega, by omega⟩, ?_⟩, fun q3 => no (fun h => of_decide_eq_false (zb_f q3) (by omega))⟩
  have q3 := of_decide_eq_true (zb_t q3)
  rintro f7 rfl f9 rfl
  have hc : (0 ≤ gi ∧ gi < 4) ∧ 0 ≤ i ∧ i < 32 ∧ 0 ≤ ofs ∧ ofs < 40 ∧ 0 ≤ len ∧ len ≤ 40 - ofs := by omega
  intro L hL
  suffices H : ∀ (d k : Nat) (y : Nat → Int32), k + d = 40 → (∀ q : Int, 0 ≤ q → z_g y q = if 1280 * gi + 40 * i ≤ q ∧ q < 1280 * gi + 40 * i + k then 0 else z_g y_isThere q) → L k y from H 40 0 _ rfl (fun q _ => by rw [if_neg (by omega)])
  intro d
  induction d with
  | zero =>
    intro k y hk hy
    obtain rfl : k = 40 := by omega
    exact hL _ _ ⟨by omega, by omega⟩ ⟨fun _ => ⟨by rw [decide_eq_true hc]; rfl, fun _ => ⟨hy, rfl, rfl⟩, fun h => absurd hc h⟩, fun h => absurd h (by decide)⟩
  | succ d ih =>
    intro k y hk hy
    refine hL _ _ ⟨by omega, by omega⟩ ⟨fun h => absurd h (by omega), fun _ => ⟨⟨by omega, by omega⟩, ?_⟩⟩
    rintro f12 rfl
    refine ih (k + 1) _ (by omega) ?_
    intro p hp
    rw [z_gs ⟨by omega, by omega⟩ (by omega) hp, hy p hp]
    by_cases e1 : p = 1280 * gi + 40 * i + k
    · rw [if_pos e1, if_pos (by omega)]
    · rw [if_neg e1]
      by_cases e2 : 1280 * gi + 40 * i ≤ p ∧ p < 1280 * gi + 40 * i + k
      · rw [if_pos e2, if_pos (by omega)]
      · rw [if_neg e2, if_neg (by omega)]
def vc_X8_level (y_levels : Int) (y_level : Nat → Int32) (mm : Int) (Q : Int → (Nat → Int32) → Int → Prop) : Prop :=
(∀ (r1 : Int), z_in r1 → (r1 = z_b (decide ((-8192 : Int) ≤ mm ∧ mm ≤ (8192 : Int)))) → ((r1 = 0 → Q (-1) y_level y_levels) ∧
(r1 ≠ 0 → ((y_levels = 16 → Q (-1) y_level y_levels) ∧
(y_levels ≠ 16 → ((y_levels ≤ 0 → (0 ≤ y_levels ∧ y_levels < 16) ∧ (∀ f3 : Nat → Int32, f3 = z_s y_level y_levels mm → z_in (y_levels + 1) ∧ (∀ v5 : Int, v5 = y_levels + 1 → Q v5 f3 v5))) ∧
(y_levels > 0 → (0 ≤ y_levels - 1 ∧ y_levels - 1 < 16) ∧ ((mm > z_g y_level (y_levels - 1) → (0 ≤ y_levels ∧ y_levels < 16) ∧ (∀ f10 : Nat → Int32, f10 = z_s y_level y_levels mm → z_in (y_levels + 1) ∧ (∀ v12 : Int, v12 = y_levels + 1 → Q v12 f10 v12))) ∧
(mm ≤ z_g y_level (y_levels - 1) → Q (-1) y_level y_levels)))))))))
set_option maxHeartbeats 4000000 in
set_option maxRecDepth 100000 in
theorem wk_X8_level (l : Launch) (D : va_G) (cA : Nat → ClassId) (y : Nat) (y_space : Nat) (y_offset : Nat) (y_length : Nat) (y_units : Nat) (y_isThere : Nat) (y_levels : Int) (ya_level : Nat) (y_level : Nat → Int32) (y_lines : Int) (y_lineLevel : Nat) (y_lineUnits : Nat) (y_lineFrom : Nat) (y_lineMany : Nat) (y_isClosed : Nat) (y_insides : Nat) (y_parent : Nat) (y_isHigh : Nat) (y_inBits : Nat) (y_sides : Int) (y_side : Nat) (y_sideA : Nat) (y_sideB : Nat) (y_lineSpace : Int) (y_wasThere : Nat) (y_leads : Nat) (y_isLed : Nat) (y_isOn : Nat) (y_goesTo : Nat) (y_stream : Nat) (y_filled : Nat) (y_isDone : Nat) (y_isReached : Nat) (y_newUnits : Nat) (y_isNew : Nat) (mm : Int) (h_y_levels : z_in y_levels) (h_y_lines : z_in y_lines) (h_y_sides : z_in y_sides) (h_y_lineSpace : z_in y_lineSpace) (h_mm : z_in mm) (Q : Int → (Nat → Int32) → Int → Prop) (hv : vc_X8_level y_levels y_level mm Q) : Met l yX8_level wsX8_level ({ frames := 1, cells := 0, slots := 0, locals := 22 } : Room) (va_Pc [.ref y, .int (z_i mm)] (z_M0 D cA [(y, .inr (6, [.ref y_space, .ref y_offset, .ref y_length, .ref y_units, .ref y_isThere, .int (z_i y_levels), .ref ya_level, .int (z_i y_lines), .ref y_lineLevel, .ref y_lineUnits, .ref y_lineFrom, .ref y_lineMany, .ref y_isClosed, .ref y_insides, .ref y_parent, .ref y_isHigh, .ref y_inBits, .int (z_i y_sides), .ref y_side, .ref y_sideA, .ref y_sideB, .int (z_i y_lineSpace), .ref y_wasThere, .ref y_leads, .ref y_isLed, .ref y_isOn, .ref y_goesTo, .ref y_stream, .ref y_filled, .ref y_isDone, .ref y_isReached, .ref y_newUnits, .ref y_isNew])), (ya_level, .inl (cA 1, 16, .inl y_level))])) (va_Qi (z_mi (fun v (u : (Nat → Int32) × Int) => z_in u.2 ∧ Q v u.1 u.2)) (fun (u : (Nat → Int32) × Int) t => va_P D vwCl [(y, .inr (6, [.ref y_space, .ref y_offset, .ref y_length, .ref y_units, .ref y_isThere, .int (z_i u.2), .ref ya_level, .int (z_i y_lines), .ref y_lineLevel, .ref y_lineUnits, .ref y_lineFrom, .ref y_lineMany, .ref y_isClosed, .ref y_insides, .ref y_parent, .ref y_isHigh, .ref y_inBits, .int (z_i y_sides), .ref y_side, .ref y_sideA, .ref y_sideB, .int (z_i y_lineSpace), .ref y_wasThere, .ref y_leads, .ref y_isLed, .ref y_isOn, .ref y_goesTo, .ref y_stream, .ref y_filled, .ref y_isDone, .ref y_isReached, .ref y_newUnits, .ref y_isNew])), (ya_level, .inl (cA 1, 16, .inl u.1))] t.heap) (z_A [(y, .inr (6, [.ref y_space, .ref y_offset, .ref y_length, .ref y_units, .ref y_isThere, .int (z_i y_levels), .ref ya_level, .int (z_i y_lines), .ref y_lineLevel, .ref y_lineUnits, .ref y_lineFrom, .ref y_lineMany, .ref y_isClosed, .ref y_insides, .ref y_parent, .ref y_isHigh, .ref y_inBits, .int (z_i y_sides), .ref y_side, .ref y_sideA, .ref y_sideB, .int (z_i y_lineSpace), .ref y_wasThere, .ref y_leads, .ref y_isLed, .ref y_isOn, .ref y_goesTo, .ref y_stream, .ref y_filled, .ref y_isDone, .ref y_isReached, .ref y_newUnits, .ref y_isNew])), (ya_level, .inl (cA 1, 16, .inl y_level))])) 0 0 (z_A [(y, .inr (6, [.ref y_space, .ref y_offset, .ref y_length, .ref y_units, .ref y_isThere, .int (z_i y_levels), .ref ya_level, .int (z_i y_lines), .ref y_lineLevel, .ref y_lineUnits, .ref y_lineFrom, .ref y_lineMany, .ref y_isClosed, .ref y_insides, .ref y_parent, .ref y_isHigh, .ref y_inBits, .int (z_i y_sides), .ref y_side, .ref y_sideA, .ref y_sideB, .int (z_i y_lineSpace), .ref y_wasThere, .ref y_leads, .ref y_isLed, .ref y_isOn, .ref y_goesTo, .ref y_stream, .ref y_filled, .ref y_isDone, .ref y_isReached, .ref y_newUnits, .ref y_isNew])), (ya_level, .inl (cA 1, 16, .inl y_level))]) := by
  unfold vc_X8_level at hv
  refine Met.ofW (cc := cX8_level) (maxL := 2) (ret := (some .int)) (by decide +kernel) rfl ?_
  intro p e s m args below meth c s₁ B hml hv0
  obtain ⟨rfl, hK, hP, hD0⟩ := hv0
  have hx := B.exec
  have hb := B.bytes
  have hr := B.returns
  have hts := atoms_spec (ws := wsX8_level) B.pre
  have hown : s.vm.findClass RX8 = some m.cls := findClass_of_methodNamed B.named
  have hlocks := B.notSynchronized
  have hD := z_D_self hD0
  generalize hAe : z_A [(y, .inr (6, [.ref y_space, .ref y_offset, .ref y_length, .ref y_units, .ref y_isThere, .int (z_i y_levels), .ref ya_level, .int (z_i y_lines), .ref y_lineLevel, .ref y_lineUnits, .ref y_lineFrom, .ref y_lineMany, .ref y_isClosed, .ref y_insides, .ref y_parent, .ref y_isHigh, .ref y_inBits, .int (z_i y_sides), .ref y_side, .ref y_sideA, .ref y_sideB, .int (z_i y_lineSpace), .ref y_wasThere, .ref y_leads, .ref y_isLed, .ref y_isOn, .ref y_goesTo, .ref y_stream, .ref y_filled, .ref y_isDone, .ref y_isReached, .ref y_newUnits, .ref y_isNew])), (ya_level, .inl (cA 1, 16, .inl y_level))] = A at *
  have hS : va_S A s.heap s.heap [] := va_S.rf
  have hl := lv_entry ([.ref y, .int (z_i mm)]) (n := 2) (Nat.le_of_ble_eq_true rfl)
  rw [lg_entry_eq]
  generalize (lg_sl ([.ref y, .int (z_i mm)]) ++ List.replicate (2 - (lg_sl ([.ref y, .int (z_i mm)])).length) Slot.unset).toArray = ls at hl ⊢
  have hl : lv_has ls 2 [(0, .ref y), (1, .int (z_i mm))] := hl
  refine lv_iload_n hx hb dX8_level_0 rfl (lv_at hl 1 rfl) ?_
  refine lv_sipush (v := z_i (-8192)) hx hb dX8_level_1 (by decide) ?_
  refine lv_sipush (v := z_i 8192) hx hb dX8_level_4 (by decide) ?_
  refine va_calli (va_runS (As := [.int (z_i mm), .int (z_i (-8192)), .int (z_i 8192)]) (rest := []) ⟨hx, hb, hml, hown, hts⟩ (mt_X8_in l D cA mm (-8192) 8192 h_mm (show z_in (-8192) from ⟨by decide, by decide⟩) (show z_in 8192 from ⟨by decide, by decide⟩)) (va_cwS 3 hts gX8_level_X8_in rfl rfl rfl (by decide +kernel) ⟨Nat.le_of_ble_eq_true rfl, Nat.le_of_ble_eq_true rfl⟩) ⟨z_bl0, fun U hU hW => ⟨rfl, z_b0 hK (hP.sub (ws' := []) [] rfl) hU hW⟩⟩ rfl rfl hl.1 rfl (lv_room (Nat.le_of_ble_eq_true rfl)) dX8_level_7 ⟨Nat.zero_le _, Nat.zero_le _⟩) hS (fun q _ h => h.elim) (fun q h => h.elim) (fun r0 u t H locs ht hvm hw hB hz1 hk1 hS => ?_)
  obtain ⟨r1, rfl, h_r1, hw⟩ := hw
  have hP := z_P_all hP hk1
  have hv := hv r1 h_r1 hw
  refine lx_if_eq (tgt := 44) hx hb dX8_level_10 (by decide) h_r1 (fun hc => ?_) (fun hc => ?_)
  · have hv := hv.1 hc
    refine lv_iconst (v := z_i (-1)) hx hb dX8_level_44 rfl ?_
    exact W.iret (v := z_i (-1)) hx hb hr (fun t ht hW => ⟨⟨z_i (-1), (y_level, y_levels), rfl, ⟨-1, rfl, (show z_in (-1) from ⟨by decide, by decide⟩), h_y_levels, hv⟩, z_pt hP ht⟩, hS.F ht⟩) hS.2.2 dX8_level_45
  · have hv := hv.2 hc
    refine lv_aload_n hx hb dX8_level_13 rfl (lv_at hl 0 rfl) ?_
    refine va_get (D := D) (ci := 6) (v := .int (z_i y_levels)) (C := RX8) (T := TX8) (N := 33) hx hb hts (fun w h => List.mem_cons_of_mem _ (List.mem_append_right _ h)) hown hK hP 0 rfl rfl 5 (by decide) (hts (.fieldLink RX8 135 "ContourSheetsModel" "levels" "I") (by decide +kernel)) (fun _ h9 => h9) rfl dX8_level_14 ?_
    refine lv_bipush (v := z_i 16) hx hb dX8_level_17 (by decide) ?_
    refine lx_icmp_eq (tgt := 44) hx hb dX8_level_19 (by decide) h_y_levels (show z_in 16 from ⟨by decide, by decide⟩) (fun hc => ?_) (fun hc => ?_)
    · have hv := hv.1 hc
      refine lv_iconst (v := z_i (-1)) hx hb dX8_level_44 rfl ?_
      exact W.iret (v := z_i (-1)) hx hb hr (fun t ht hW => ⟨⟨z_i (-1), (y_level, y_levels), rfl, ⟨-1, rfl, (show z_in (-1) from ⟨by decide, by decide⟩), h_y_levels, hv⟩, z_pt hP ht⟩, hS.F ht⟩) hS.2.2 dX8_level_45
    · have hv := hv.2 hc
      refine lv_aload_n hx hb dX8_level_22 rfl (lv_at hl 0 rfl) ?_
      refine va_get (D := D) (ci := 6) (v := .int (z_i y_levels)) (C := RX8) (T := TX8) (N := 33) hx hb hts (fun w h => List.mem_cons_of_mem _ (List.mem_append_right _ h)) hown hK hP 0 rfl rfl 5 (by decide) (hts (.fieldLink RX8 135 "ContourSheetsModel" "levels" "I") (by decide +kernel)) (fun _ h9 => h9) rfl dX8_level_23 ?_
      refine lx_if_le (tgt := 46) hx hb dX8_level_26 (by decide) h_y_levels (fun hc => ?_) (fun hc => ?_)
      · have hv := hv.1 hc
        refine lv_aload_n hx hb dX8_level_46 rfl (lv_at hl 0 rfl) ?_
        refine va_get (D := D) (ci := 6) (v := .ref ya_level) (C := RX8) (T := TX8) (N := 33) hx hb hts (fun w h => List.mem_cons_of_mem _ (List.mem_append_right _ h)) hown hK hP 0 rfl rfl 6 (by decide) (hts (.fieldLink RX8 26 "ContourSheetsModel" "level" "[I") (by decide +kernel)) (fun _ h9 => h9) rfl dX8_level_47 ?_
        refine lv_aload_n hx hb dX8_level_50 rfl (lv_at hl 0 rfl) ?_
        refine va_get (D := D) (ci := 6) (v := .int (z_i y_levels)) (C := RX8) (T := TX8) (N := 33) hx hb hts (fun w h => List.mem_cons_of_mem _ (List.mem_append_right _ h)) hown hK hP 0 rfl rfl 5 (by decide) (hts (.fieldLink RX8 135 "ContourSheetsModel" "levels" "I") (by decide +kernel)) (fun _ h9 => h9) rfl dX8_level_51 ?_
        refine lv_iload_n hx hb dX8_level_54 rfl (lv_at hl 1 rfl) ?_
        obtain ⟨hi2, hv⟩ := hv
        refine lx_iast hx hb hK hP hD hS 1 1 rfl rfl (by decide) hi2.1 hi2.2 dX8_level_55 (fun H locs hP hD hS => ?_)
        obtain ⟨f3, hy4⟩ : ∃ y : Nat → Int32, y = z_s y_level y_levels mm := ⟨_, rfl⟩
        have hv := hv f3 hy4
        have hP : va_P D vwCl [(y, .inr (6, [.ref y_space, .ref y_offset, .ref y_length, .ref y_units, .ref y_isThere, .int (z_i y_levels), .ref ya_level, .int (z_i y_lines), .ref y_lineLevel, .ref y_lineUnits, .ref y_lineFrom, .ref y_lineMany, .ref y_isClosed, .ref y_insides, .ref y_parent, .ref y_isHigh, .ref y_inBits, .int (z_i y_sides), .ref y_side, .ref y_sideA, .ref y_sideB, .int (z_i y_lineSpace), .ref y_wasThere, .ref y_leads, .ref y_isLed, .ref y_isOn, .ref y_goesTo, .ref y_stream, .ref y_filled, .ref y_isDone, .ref y_isReached, .ref y_newUnits, .ref y_isNew])), (ya_level, .inl (cA 1, 16, .inl f3))] H := by rw [hy4]; exact hP
        have hD : va_D A [(y, .inr (6, [.ref y_space, .ref y_offset, .ref y_length, .ref y_units, .ref y_isThere, .int (z_i y_levels), .ref ya_level, .int (z_i y_lines), .ref y_lineLevel, .ref y_lineUnits, .ref y_lineFrom, .ref y_lineMany, .ref y_isClosed, .ref y_insides, .ref y_parent, .ref y_isHigh, .ref y_inBits, .int (z_i y_sides), .ref y_side, .ref y_sideA, .ref y_sideB, .int (z_i y_lineSpace), .ref y_wasThere, .ref y_leads, .ref y_isLed, .ref y_isOn, .ref y_goesTo, .ref y_stream, .ref y_filled, .ref y_isDone, .ref y_isReached, .ref y_newUnits, .ref y_isNew])), (ya_level, .inl (cA 1, 16, .inl f3))] := by rw [hy4]; exact hD
        refine lv_aload_n hx hb dX8_level_56 rfl (lv_at hl 0 rfl) ?_
        refine lv_dup hx hb dX8_level_57 rfl ?_
        refine va_get (D := D) (ci := 6) (v := .int (z_i y_levels)) (C := RX8) (T := TX8) (N := 33) hx hb hts (fun w h => List.mem_cons_of_mem _ (List.mem_append_right _ h)) hown hK hP 0 rfl rfl 5 (by decide) (hts (.fieldLink RX8 135 "ContourSheetsModel" "levels" "I") (by decide +kernel)) (fun _ h9 => h9) rfl dX8_level_58 ?_
        refine lv_iconst (v := z_i 1) hx hb dX8_level_61 rfl ?_
        refine lx_iadd hx hb dX8_level_62 ?_
        obtain ⟨hr6, hv⟩ := hv
        refine lx_topi (fun v5 hy7 => ?_)
        have hv := hv v5 hy7
        have h_v5 : z_in v5 := by rw [hy7]; exact hr6
        refine va_put (D := D) (ci := 6) (v := .int (z_i v5)) (ty := .int) (C := RX8) (T := TX8) (N := 33) hx hb hts (fun w h => List.mem_cons_of_mem _ (List.mem_append_right _ h)) tyX8 tyX8_ok nmX8 hown hK hP hD hS 0 rfl rfl 5 (by decide) (hts (.fieldLink RX8 135 "ContourSheetsModel" "levels" "I") (by decide +kernel)) (fun _ h9 => h9) rfl (by decide +kernel) rfl rfl (Nat.le_of_ble_eq_true rfl) dX8_level_63 (fun H locs hP hD hS => ?_)
        have hP : va_P D vwCl [(y, .inr (6, [.ref y_space, .ref y_offset, .ref y_length, .ref y_units, .ref y_isThere, .int (z_i v5), .ref ya_level, .int (z_i y_lines), .ref y_lineLevel, .ref y_lineUnits, .ref y_lineFrom, .ref y_lineMany, .ref y_isClosed, .ref y_insides, .ref y_parent, .ref y_isHigh, .ref y_inBits, .int (z_i y_sides), .ref y_side, .ref y_sideA, .ref y_sideB, .int (z_i y_lineSpace), .ref y_wasThere, .ref y_leads, .ref y_isLed, .ref y_isOn, .ref y_goesTo, .ref y_stream, .ref y_filled, .ref y_isDone, .ref y_isReached, .ref y_newUnits, .ref y_isNew])), (ya_level, .inl (cA 1, 16, .inl f3))] H := hP
        have hD : va_D A [(y, .inr (6, [.ref y_space, .ref y_offset, .ref y_length, .ref y_units, .ref y_isThere, .int (z_i v5), .ref ya_level, .int (z_i y_lines), .ref y_lineLevel, .ref y_lineUnits, .ref y_lineFrom, .ref y_lineMany, .ref y_isClosed, .ref y_insides, .ref y_parent, .ref y_isHigh, .ref y_inBits, .int (z_i y_sides), .ref y_side, .ref y_sideA, .ref y_sideB, .int (z_i y_lineSpace), .ref y_wasThere, .ref y_leads, .ref y_isLed, .ref y_isOn, .ref y_goesTo, .ref y_stream, .ref y_filled, .ref y_isDone, .ref y_isReached, .ref y_newUnits, .ref y_isNew])), (ya_level, .inl (cA 1, 16, .inl f3))] := hD
        refine lv_aload_n hx hb dX8_level_66 rfl (lv_at hl 0 rfl) ?_
        refine va_get (D := D) (ci := 6) (v := .int (z_i v5)) (C := RX8) (T := TX8) (N := 33) hx hb hts (fun w h => List.mem_cons_of_mem _ (List.mem_append_right _ h)) hown hK hP 0 rfl rfl 5 (by decide) (hts (.fieldLink RX8 135 "ContourSheetsModel" "levels" "I") (by decide +kernel)) (fun _ h9 => h9) rfl dX8_level_67 ?_
        exact W.iret (v := z_i v5) hx hb hr (fun t ht hW => ⟨⟨z_i v5, (f3, v5), rfl, ⟨v5, rfl, h_v5, h_v5, hv⟩, z_pt hP ht⟩, hS.F ht⟩) hS.2.2 dX8_level_70
      · have hv := hv.2 hc
        refine lv_iload_n hx hb dX8_level_29 rfl (lv_at hl 1 rfl) ?_
        refine lv_aload_n hx hb dX8_level_30 rfl (lv_at hl 0 rfl) ?_
        refine va_get (D := D) (ci := 6) (v := .ref ya_level) (C := RX8) (T := TX8) (N := 33) hx hb hts (fun w h => List.mem_cons_of_mem _ (List.mem_append_right _ h)) hown hK hP 0 rfl rfl 6 (by decide) (hts (.fieldLink RX8 26 "ContourSheetsModel" "level" "[I") (by decide +kernel)) (fun _ h9 => h9) rfl dX8_level_31 ?_
        refine lv_aload_n hx hb dX8_level_34 rfl (lv_at hl 0 rfl) ?_
        refine va_get (D := D) (ci := 6) (v := .int (z_i y_levels)) (C := RX8) (T := TX8) (N := 33) hx hb hts (fun w h => List.mem_cons_of_mem _ (List.mem_append_right _ h)) hown hK hP 0 rfl rfl 5 (by decide) (hts (.fieldLink RX8 135 "ContourSheetsModel" "levels" "I") (by decide +kernel)) (fun _ h9 => h9) rfl dX8_level_35 ?_
        refine lv_iconst (v := z_i 1) hx hb dX8_level_38 rfl ?_
        refine lx_isub hx hb dX8_level_39 ?_
        obtain ⟨hi8, hv⟩ := hv
        refine lx_iald hx hb hK hP 1 1 rfl rfl (by decide) hi8.1 hi8.2 dX8_level_40 ?_
        refine lx_icmp_gt (tgt := 46) hx hb dX8_level_41 (by decide) h_mm (z_in_g _ _) (fun hc => ?_) (fun hc => ?_)
        · have hv := hv.1 hc
          refine lv_aload_n hx hb dX8_level_46 rfl (lv_at hl 0 rfl) ?_
          refine va_get (D := D) (ci := 6) (v := .ref ya_level) (C := RX8) (T := TX8) (N := 33) hx hb hts (fun w h => List.mem_cons_of_mem _ (List.mem_append_right _ h)) hown hK hP 0 rfl rfl 6 (by decide) (hts (.fieldLink RX8 26 "ContourSheetsModel" "level" "[I") (by decide +kernel)) (fun _ h9 => h9) rfl dX8_level_47 ?_
          refine lv_aload_n hx hb dX8_level_50 rfl (lv_at hl 0 rfl) ?_
          refine va_get (D := D) (ci := 6) (v := .int (z_i y_levels)) (C := RX8) (T := TX8) (N := 33) hx hb hts (fun w h => List.mem_cons_of_mem _ (List.mem_append_right _ h)) hown hK hP 0 rfl rfl 5 (by decide) (hts (.fieldLink RX8 135 "ContourSheetsModel" "levels" "I") (by decide +kernel)) (fun _ h9 => h9) rfl dX8_level_51 ?_
          refine lv_iload_n hx hb dX8_level_54 rfl (lv_at hl 1 rfl) ?_
          obtain ⟨hi9, hv⟩ := hv
          refine lx_iast hx hb hK hP hD hS 1 1 rfl rfl (by decide) hi9.1 hi9.2 dX8_level_55 (fun H locs hP hD hS => ?_)
          obtain ⟨f10, hy11⟩ : ∃ y : Nat → Int32, y = z_s y_level y_levels mm := ⟨_, rfl⟩
          have hv := hv f10 hy11
          have hP : va_P D vwCl [(y, .inr (6, [.ref y_space, .ref y_offset, .ref y_length, .ref y_units, .ref y_isThere, .int (z_i y_levels), .ref ya_level, .int (z_i y_lines), .ref y_lineLevel, .ref y_lineUnits, .ref y_lineFrom, .ref y_lineMany, .ref y_isClosed, .ref y_insides, .ref y_parent, .ref y_isHigh, .ref y_inBits, .int (z_i y_sides), .ref y_side, .ref y_sideA, .ref y_sideB, .int (z_i y_lineSpace), .ref y_wasThere, .ref y_leads, .ref y_isLed, .ref y_isOn, .ref y_goesTo, .ref y_stream, .ref y_filled, .ref y_isDone, .ref y_isReached, .ref y_newUnits, .ref y_isNew])), (ya_level, .inl (cA 1, 16, .inl f10))] H := by rw [hy11]; exact hP
          have hD : va_D A [(y, .inr (6, [.ref y_space, .ref y_offset, .ref y_length, .ref y_units, .ref y_isThere, .int (z_i y_levels), .ref ya_level, .int (z_i y_lines), .ref y_lineLevel, .ref y_lineUnits, .ref y_lineFrom, .ref y_lineMany, .ref y_isClosed, .ref y_insides, .ref y_parent, .ref y_isHigh, .ref y_inBits, .int (z_i y_sides), .ref y_side, .ref y_sideA, .ref y_sideB, .int (z_i y_lineSpace), .ref y_wasThere, .ref y_leads, .ref y_isLed, .ref y_isOn, .ref y_goesTo, .ref y_stream, .ref y_filled, .ref y_isDone, .ref y_isReached, .ref y_newUnits, .ref y_isNew])), (ya_level, .inl (cA 1, 16, .inl f10))] := by rw [hy11]; exact hD
          refine lv_aload_n hx hb dX8_level_56 rfl (lv_at hl 0 rfl) ?_
          refine lv_dup hx hb dX8_level_57 rfl ?_
          refine va_get (D := D) (ci := 6) (v := .int (z_i y_levels)) (C := RX8) (T := TX8) (N := 33) hx hb hts (fun w h => List.mem_cons_of_mem _ (List.mem_append_right _ h)) hown hK hP 0 rfl rfl 5 (by decide) (hts (.fieldLink RX8 135 "ContourSheetsModel" "levels" "I") (by decide +kernel)) (fun _ h9 => h9) rfl dX8_level_58 ?_
          refine lv_iconst (v := z_i 1) hx hb dX8_level_61 rfl ?_
          refine lx_iadd hx hb dX8_level_62 ?_
          obtain ⟨hr13, hv⟩ := hv
          refine lx_topi (fun v12 hy14 => ?_)
          have hv := hv v12 hy14
          have h_v12 : z_in v12 := by rw [hy14]; exact hr13
          refine va_put (D := D) (ci := 6) (v := .int (z_i v12)) (ty := .int) (C := RX8) (T := TX8) (N := 33) hx hb hts (fun w h => List.mem_cons_of_mem _ (List.mem_append_right _ h)) tyX8 tyX8_ok nmX8 hown hK hP hD hS 0 rfl rfl 5 (by decide) (hts (.fieldLink RX8 135 "ContourSheetsModel" "levels" "I") (by decide +kernel)) (fun _ h9 => h9) rfl (by decide +kernel) rfl rfl (Nat.le_of_ble_eq_true rfl) dX8_level_63 (fun H locs hP hD hS => ?_)
          have hP : va_P D vwCl [(y, .inr (6, [.ref y_space, .ref y_offset, .ref y_length, .ref y_units, .ref y_isThere, .int (z_i v12), .ref ya_level, .int (z_i y_lines), .ref y_lineLevel, .ref y_lineUnits, .ref y_lineFrom, .ref y_lineMany, .ref y_isClosed, .ref y_insides, .ref y_parent, .ref y_isHigh, .ref y_inBits, .int (z_i y_sides), .ref y_side, .ref y_sideA, .ref y_sideB, .int (z_i y_lineSpace), .ref y_wasThere, .ref y_leads, .ref y_isLed, .ref y_isOn, .ref y_goesTo, .ref y_stream, .ref y_filled, .ref y_isDone, .ref y_isReached, .ref y_newUnits, .ref y_isNew])), (ya_level, .inl (cA 1, 16, .inl f10))] H := hP
          have hD : va_D A [(y, .inr (6, [.ref y_space, .ref y_offset, .ref y_length, .ref y_units, .ref y_isThere, .int (z_i v12), .ref ya_level, .int (z_i y_lines), .ref y_lineLevel, .ref y_lineUnits, .ref y_lineFrom, .ref y_lineMany, .ref y_isClosed, .ref y_insides, .ref y_parent, .ref y_isHigh, .ref y_inBits, .int (z_i y_sides), .ref y_side, .ref y_sideA, .ref y_sideB, .int (z_i y_lineSpace), .ref y_wasThere, .ref y_leads, .ref y_isLed, .ref y_isOn, .ref y_goesTo, .ref y_stream, .ref y_filled, .ref y_isDone, .ref y_isReached, .ref y_newUnits, .ref y_isNew])), (ya_level, .inl (cA 1, 16, .inl f10))] := hD
          refine lv_aload_n hx hb dX8_level_66 rfl (lv_at hl 0 rfl) ?_
          refine va_get (D := D) (ci := 6) (v := .int (z_i v12)) (C := RX8) (T := TX8) (N := 33) hx hb hts (fun w h => List.mem_cons_of_mem _ (List.mem_append_right _ h)) hown hK hP 0 rfl rfl 5 (by decide) (hts (.fieldLink RX8 135 "ContourSheetsModel" "levels" "I") (by decide +kernel)) (fun _ h9 => h9) rfl dX8_level_67 ?_
          exact W.iret (v := z_i v12) hx hb hr (fun t ht hW => ⟨⟨z_i v12, (f10, v12), rfl, ⟨v12, rfl, h_v12, h_v12, hv⟩, z_pt hP ht⟩, hS.F ht⟩) hS.2.2 dX8_level_70
        · have hv := hv.2 hc
          refine lv_iconst (v := z_i (-1)) hx hb dX8_level_44 rfl ?_
          exact W.iret (v := z_i (-1)) hx hb hr (fun t ht hW => ⟨⟨z_i (-1), (y_level, y_levels), rfl, ⟨-1, rfl, (show z_in (-1) from ⟨by decide, by decide⟩), h_y_levels, hv⟩, z_pt hP ht⟩, hS.F ht⟩) hS.2.2 dX8_level_45
set_option maxHeartbeats 4000000 in
set_option maxRecDepth 100000 in
theorem mt_X8_level (l : Launch) (D : va_G) (cA : Nat → ClassId) (y : Nat) (y_space : Nat) (y_offset : Nat) (y_length : Nat) (y_units : Nat) (y_isThere : Nat) (y_levels : Int) (ya_level : Nat) (y_level : Nat → Int32) (y_lines : Int) (y_lineLevel : Nat) (y_lineUnits : Nat) (y_lineFrom : Nat) (y_lineMany : Nat) (y_isClosed : Nat) (y_insides : Nat) (y_parent : Nat) (y_isHigh : Nat) (y_inBits : Nat) (y_sides : Int) (y_side : Nat) (y_sideA : Nat) (y_sideB : Nat) (y_lineSpace : Int) (y_wasThere : Nat) (y_leads : Nat) (y_isLed : Nat) (y_isOn : Nat) (y_goesTo : Nat) (y_stream : Nat) (y_filled : Nat) (y_isDone : Nat) (y_isReached : Nat) (y_newUnits : Nat) (y_isNew : Nat) (mm : Int) (h_y_levels : z_in y_levels) (h_y_lines : z_in y_lines) (h_y_sides : z_in y_sides) (h_y_lineSpace : z_in y_lineSpace) (h_mm : z_in mm) (hp1 : 0 ≤ y_levels ∧ y_levels ≤ 16) : Met l yX8_level wsX8_level ({ frames := 1, cells := 0, slots := 0, locals := 22 } : Room) (va_Pc [.ref y, .int (z_i mm)] (z_M0 D cA [(y, .inr (6, [.ref y_space, .ref y_offset, .ref y_length, .ref y_units, .ref y_isThere, .int (z_i y_levels), .ref ya_level, .int (z_i y_lines), .ref y_lineLevel, .ref y_lineUnits, .ref y_lineFrom, .ref y_lineMany, .ref y_isClosed, .ref y_insides, .ref y_parent, .ref y_isHigh, .ref y_inBits, .int (z_i y_sides), .ref y_side, .ref y_sideA, .ref y_sideB, .int (z_i y_lineSpace), .ref y_wasThere, .ref y_leads, .ref y_isLed, .ref y_isOn, .ref y_goesTo, .ref y_stream, .ref y_filled, .ref y_isDone, .ref y_isReached, .ref y_newUnits, .ref y_isNew])), (ya_level, .inl (cA 1, 16, .inl y_level))])) (va_Qi (z_mi (fun v (u : (Nat → Int32) × Int) => z_in u.2 ∧ (fun (r : Int) (y_level' : (Nat → Int32)) (y_levels' : Int) => r = (if -8192 ≤ mm ∧ mm ≤ 8192 ∧ y_levels < 16 ∧ (y_levels > 0 → z_g y_level (y_levels - 1) < mm) then y_levels + 1 else -1) ∧ y_levels' = (if -8192 ≤ mm ∧ mm ≤ 8192 ∧ y_levels < 16 ∧ (y_levels > 0 → z_g y_level (y_levels - 1) < mm) then y_levels + 1 else y_levels) ∧ y_level' = (if -8192 ≤ mm ∧ mm ≤ 8192 ∧ y_levels < 16 ∧ (y_levels > 0 → z_g y_level (y_levels - 1) < mm) then z_s y_level y_levels mm else y_level)) v u.1 u.2)) (fun (u : (Nat → Int32) × Int) t => va_P D vwCl [(y, .inr (6, [.ref y_space, .ref y_offset, .ref y_length, .ref y_units, .ref y_isThere, .int (z_i u.2), .ref ya_level, .int (z_i y_lines), .ref y_lineLevel, .ref y_lineUnits, .ref y_lineFrom, .ref y_lineMany, .ref y_isClosed, .ref y_insides, .ref y_parent, .ref y_isHigh, .ref y_inBits, .int (z_i y_sides), .ref y_side, .ref y_sideA, .ref y_sideB, .int (z_i y_lineSpace), .ref y_wasThere, .ref y_leads, .ref y_isLed, .ref y_isOn, .ref y_goesTo, .ref y_stream, .ref y_filled, .ref y_isDone, .ref y_isReached, .ref y_newUnits, .ref y_isNew])), (ya_level, .inl (cA 1, 16, .inl u.1))] t.heap) (z_A [(y, .inr (6, [.ref y_space, .ref y_offset, .ref y_length, .ref y_units, .ref y_isThere, .int (z_i y_levels), .ref ya_level, .int (z_i y_lines), .ref y_lineLevel, .ref y_lineUnits, .ref y_lineFrom, .ref y_lineMany, .ref y_isClosed, .ref y_insides, .ref y_parent, .ref y_isHigh, .ref y_inBits, .int (z_i y_sides), .ref y_side, .ref y_sideA, .ref y_sideB, .int (z_i y_lineSpace), .ref y_wasThere, .ref y_leads, .ref y_isLed, .ref y_isOn, .ref y_goesTo, .ref y_stream, .ref y_filled, .ref y_isDone, .ref y_isReached, .ref y_newUnits, .ref y_isNew])), (ya_level, .inl (cA 1, 16, .inl y_level))])) 0 0 (z_A [(y, .inr (6, [.ref y_space, .ref y_offset, .ref y_length, .ref y_units, .ref y_isThere, .int (z_i y_levels), .ref ya_level, .int (z_i y_lines), .ref y_lineLevel, .ref y_lineUnits, .ref y_lineFrom, .ref y_lineMany, .ref y_isClosed, .ref y_insides, .ref y_parent, .ref y_isHigh, .ref y_inBits, .int (z_i y_sides), .ref y_side, .ref y_sideA, .ref y_sideB, .int (z_i y_lineSpace), .ref y_wasThere, .ref y_leads, .ref y_isLed, .ref y_isOn, .ref y_goesTo, .ref y_stream, .ref y_filled, .ref y_isDone, .ref y_isReached, .ref y_newUnits, .ref y_isNew])), (ya_level, .inl (cA 1, 16, .inl y_level))]) := by
  refine wk_X8_level l D cA y y_space y_offset y_length y_units y_isThere y_levels ya_level y_level y_lines y_lineLevel y_lineUnits y_lineFrom y_lineMany y_isClosed y_insides y_parent y_isHigh y_inBits y_sides y_side y_sideA y_sideB y_lineSpace y_wasThere y_leads y_isLed y_isOn y_goesTo y_stream y_filled y_isDone y_isReached y_newUnits y_isNew mm h_y_levels h_y_lines h_y_sides h_y_lineSpace h_mm (fun (r : Int) (y_level' : (Nat → Int32)) (y_levels' : Int) => r = (if -8192 ≤ mm ∧ mm ≤ 8192 ∧ y_levels < 16 ∧ (y_levels > 0 → z_g y_level (y_levels - 1) < mm) then y_levels + 1 else -1) ∧ y_levels' = (if -8192 ≤ mm ∧ mm ≤ 8192 ∧ y_levels < 16 ∧ (y_levels > 0 → z_g y_level (y_levels - 1) < mm) then y_levels + 1 else y_levels) ∧ y_level' = (if -8192 ≤ mm ∧ mm ≤ 8192 ∧ y_levels < 16 ∧ (y_levels > 0 → z_g y_level (y_levels - 1) < mm) then z_s y_level y_levels mm else y_level)) ?_
  unfold vc_X8_level
  have no : ¬ (-8192 ≤ mm ∧ mm ≤ 8192 ∧ y_levels < 16 ∧ (y_levels > 0 → z_g y_level (y_levels - 1) < mm)) → (-1 : Int) = (if -8192 ≤ mm ∧ mm ≤ 8192 ∧ y_levels < 16 ∧ (y_levels > 0 → z_g y_level (y_levels - 1) < mm) then y_levels + 1 else -1) ∧ y_levels = (if -8192 ≤ mm ∧ mm ≤ 8192 ∧ y_levels < 16 ∧ (y_levels > 0 → z_g y_level (y_levels - 1) < mm) then y_levels + 1 else y_levels) ∧ y_level = (if -8192 ≤ mm ∧ mm ≤ 8192 ∧ y_levels < 16 ∧ (y_levels > 0 → z_g y_level (y_levels - 1) < mm) then z_s y_level y_levels mm else y_level) := by
    intro h
    rw [if_neg h, if_neg h, if_neg h]; exact ⟨rfl, rfl, rfl⟩
  have yes : (-8192 ≤ mm ∧ mm ≤ 8192 ∧ y_levels < 16 ∧ (y_levels > 0 → z_g y_level (y_levels - 1) < mm)) → y_levels + 1 = (if -8192 ≤ mm ∧ mm ≤ 8192 ∧ y_levels < 16 ∧ (y_levels > 0 → z_g y_level (y_levels - 1) < mm) then y_levels + 1 else -1) ∧ y_levels + 1 = (if -8192 ≤ mm ∧ mm ≤ 8192 ∧ y_levels < 16 ∧ (y_levels > 0 → z_g y_level (y_levels - 1) < mm) then y_levels + 1 else y_levels) ∧ z_s y_level y_levels mm = (if -8192 ≤ mm ∧ mm ≤ 8192 ∧ y_levels < 16 ∧ (y_levels > 0 → z_g y_level (y_levels - 1) < mm) then z_s y_level y_levels mm else y_level) := by
    intro h
    rw [if_pos h, if_pos h, if_pos h]; exact ⟨rfl, rfl, rfl⟩
  rintro r1 _ rfl
  refine ⟨fun q => no (fun h => of_decide_eq_false (zb_f q) ⟨h.1, h.2.1⟩), fun q => ⟨fun q1 => no (fun h => by have := h.2.2.1; omega), fun q1 => ⟨fun q4 => ⟨⟨by omega, by omega⟩, ?_⟩, fun q4 => ⟨⟨by omega, by omega⟩, fun q5 => ⟨⟨by omega, by omega⟩, ?_⟩, fun q5 => no (fun h => by have := h.2.2.2 q4; omega)⟩⟩⟩⟩
  · have q := of_decide_eq_true (zb_t q)
    rintro f2 rfl
    refine ⟨⟨by omega, by omega⟩, ?_⟩
    rintro v4 rfl
    exact yes ⟨q.1, q.2, by omega, fun h => absurd h (by omega)⟩
  · have q := of_decide_eq_true (zb_t q)
    rintro f2 rfl
    refine ⟨⟨by omega, by omega⟩, ?_⟩
    rintro v4 rfl
    exact yes ⟨q.1, q.2, by omega, fun _ => q5⟩
def vc_X8_levels  (Q : Int → Prop) : Prop :=
Q 0
set_option maxHeartbeats 4000000 in
set_option maxRecDepth 100000 in
theorem wk_X8_levels (l : Launch) (D : va_G) (cA : Nat → ClassId) (y : Nat) (y_space : Nat) (y_offset : Nat) (y_length : Nat) (y_units : Nat) (y_isThere : Nat) (y_levels : Int) (y_level : Nat) (y_lines : Int) (y_lineLevel : Nat) (y_lineUnits : Nat) (y_lineFrom : Nat) (y_lineMany : Nat) (y_isClosed : Nat) (y_insides : Nat) (y_parent : Nat) (y_isHigh : Nat) (y_inBits : Nat) (y_sides : Int) (y_side : Nat) (y_sideA : Nat) (y_sideB : Nat) (y_lineSpace : Int) (y_wasThere : Nat) (y_leads : Nat) (y_isLed : Nat) (y_isOn : Nat) (y_goesTo : Nat) (y_stream : Nat) (y_filled : Nat) (y_isDone : Nat) (y_isReached : Nat) (y_newUnits : Nat) (y_isNew : Nat) (h_y_levels : z_in y_levels) (h_y_lines : z_in y_lines) (h_y_sides : z_in y_sides) (h_y_lineSpace : z_in y_lineSpace) (Q : Int → Prop) (hv : vc_X8_levels  Q) : Met l yX8_levels wsX8_levels ({ frames := 0, cells := 0, slots := 0, locals := 0 } : Room) (va_Pc [.ref y] (z_M0 D cA [(y, .inr (6, [.ref y_space, .ref y_offset, .ref y_length, .ref y_units, .ref y_isThere, .int (z_i y_levels), .ref y_level, .int (z_i y_lines), .ref y_lineLevel, .ref y_lineUnits, .ref y_lineFrom, .ref y_lineMany, .ref y_isClosed, .ref y_insides, .ref y_parent, .ref y_isHigh, .ref y_inBits, .int (z_i y_sides), .ref y_side, .ref y_sideA, .ref y_sideB, .int (z_i y_lineSpace), .ref y_wasThere, .ref y_leads, .ref y_isLed, .ref y_isOn, .ref y_goesTo, .ref y_stream, .ref y_filled, .ref y_isDone, .ref y_isReached, .ref y_newUnits, .ref y_isNew]))])) (va_Qv (fun (u : Int) => z_in u ∧ Q u) (fun (u : Int) t => va_P D vwCl [(y, .inr (6, [.ref y_space, .ref y_offset, .ref y_length, .ref y_units, .ref y_isThere, .int (z_i u), .ref y_level, .int (z_i y_lines), .ref y_lineLevel, .ref y_lineUnits, .ref y_lineFrom, .ref y_lineMany, .ref y_isClosed, .ref y_insides, .ref y_parent, .ref y_isHigh, .ref y_inBits, .int (z_i y_sides), .ref y_side, .ref y_sideA, .ref y_sideB, .int (z_i y_lineSpace), .ref y_wasThere, .ref y_leads, .ref y_isLed, .ref y_isOn, .ref y_goesTo, .ref y_stream, .ref y_filled, .ref y_isDone, .ref y_isReached, .ref y_newUnits, .ref y_isNew]))] t.heap) (z_A [(y, .inr (6, [.ref y_space, .ref y_offset, .ref y_length, .ref y_units, .ref y_isThere, .int (z_i y_levels), .ref y_level, .int (z_i y_lines), .ref y_lineLevel, .ref y_lineUnits, .ref y_lineFrom, .ref y_lineMany, .ref y_isClosed, .ref y_insides, .ref y_parent, .ref y_isHigh, .ref y_inBits, .int (z_i y_sides), .ref y_side, .ref y_sideA, .ref y_sideB, .int (z_i y_lineSpace), .ref y_wasThere, .ref y_leads, .ref y_isLed, .ref y_isOn, .ref y_goesTo, .ref y_stream, .ref y_filled, .ref y_isDone, .ref y_isReached, .ref y_newUnits, .ref y_isNew]))])) 0 0 (z_A [(y, .inr (6, [.ref y_space, .ref y_offset, .ref y_length, .ref y_units, .ref y_isThere, .int (z_i y_levels), .ref y_level, .int (z_i y_lines), .ref y_lineLevel, .ref y_lineUnits, .ref y_lineFrom, .ref y_lineMany, .ref y_isClosed, .ref y_insides, .ref y_parent, .ref y_isHigh, .ref y_inBits, .int (z_i y_sides), .ref y_side, .ref y_sideA, .ref y_sideB, .int (z_i y_lineSpace), .ref y_wasThere, .ref y_leads, .ref y_isLed, .ref y_isOn, .ref y_goesTo, .ref y_stream, .ref y_filled, .ref y_isDone, .ref y_isReached, .ref y_newUnits, .ref y_isNew]))]) := by
  unfold vc_X8_levels at hv
  refine Met.ofW (cc := cX8_levels) (maxL := 1) (ret := none) (by decide +kernel) rfl ?_
  intro p e s m args below meth c s₁ B hml hv0
  obtain ⟨rfl, hK, hP, hD0⟩ := hv0
  have hx := B.exec
  have hb := B.bytes
  have hr := B.returns
  have hts := atoms_spec (ws := wsX8_levels) B.pre
  have hown : s.vm.findClass RX8 = some m.cls := findClass_of_methodNamed B.named
  have hlocks := B.notSynchronized
  have hD := z_D_self hD0
  generalize hAe : z_A [(y, .inr (6, [.ref y_space, .ref y_offset, .ref y_length, .ref y_units, .ref y_isThere, .int (z_i y_levels), .ref y_level, .int (z_i y_lines), .ref y_lineLevel, .ref y_lineUnits, .ref y_lineFrom, .ref y_lineMany, .ref y_isClosed, .ref y_insides, .ref y_parent, .ref y_isHigh, .ref y_inBits, .int (z_i y_sides), .ref y_side, .ref y_sideA, .ref y_sideB, .int (z_i y_lineSpace), .ref y_wasThere, .ref y_leads, .ref y_isLed, .ref y_isOn, .ref y_goesTo, .ref y_stream, .ref y_filled, .ref y_isDone, .ref y_isReached, .ref y_newUnits, .ref y_isNew]))] = A at *
  have hS : va_S A s.heap s.heap [] := va_S.rf
  have hl := lv_entry ([.ref y]) (n := 1) (Nat.le_of_ble_eq_true rfl)
  rw [lg_entry_eq]
  generalize (lg_sl ([.ref y]) ++ List.replicate (1 - (lg_sl ([.ref y])).length) Slot.unset).toArray = ls at hl ⊢
  have hl : lv_has ls 1 [(0, .ref y)] := hl
  refine lv_aload_n hx hb dX8_levels_0 rfl (lv_at hl 0 rfl) ?_
  refine lv_iconst (v := z_i 0) hx hb dX8_levels_1 rfl ?_
  refine va_put (D := D) (ci := 6) (v := .int (z_i 0)) (ty := .int) (C := RX8) (T := TX8) (N := 33) hx hb hts (fun w h => List.mem_cons_of_mem _ (List.mem_append_right _ h)) tyX8 tyX8_ok nmX8 hown hK hP hD hS 0 rfl rfl 5 (by decide) (hts (.fieldLink RX8 135 "ContourSheetsModel" "levels" "I") (by decide +kernel)) (fun _ h9 => h9) rfl (by decide +kernel) rfl rfl (Nat.le_of_ble_eq_true rfl) dX8_levels_2 (fun H locs hP hD hS => ?_)
  have hP : va_P D vwCl [(y, .inr (6, [.ref y_space, .ref y_offset, .ref y_length, .ref y_units, .ref y_isThere, .int (z_i 0), .ref y_level, .int (z_i y_lines), .ref y_lineLevel, .ref y_lineUnits, .ref y_lineFrom, .ref y_lineMany, .ref y_isClosed, .ref y_insides, .ref y_parent, .ref y_isHigh, .ref y_inBits, .int (z_i y_sides), .ref y_side, .ref y_sideA, .ref y_sideB, .int (z_i y_lineSpace), .ref y_wasThere, .ref y_leads, .ref y_isLed, .ref y_isOn, .ref y_goesTo, .ref y_stream, .ref y_filled, .ref y_isDone, .ref y_isReached, .ref y_newUnits, .ref y_isNew]))] H := hP
  have hD : va_D A [(y, .inr (6, [.ref y_space, .ref y_offset, .ref y_length, .ref y_units, .ref y_isThere, .int (z_i 0), .ref y_level, .int (z_i y_lines), .ref y_lineLevel, .ref y_lineUnits, .ref y_lineFrom, .ref y_lineMany, .ref y_isClosed, .ref y_insides, .ref y_parent, .ref y_isHigh, .ref y_inBits, .int (z_i y_sides), .ref y_side, .ref y_sideA, .ref y_sideB, .int (z_i y_lineSpace), .ref y_wasThere, .ref y_leads, .ref y_isLed, .ref y_isOn, .ref y_goesTo, .ref y_stream, .ref y_filled, .ref y_isDone, .ref y_isReached, .ref y_newUnits, .ref y_isNew]))] := hD
  exact W.vret hx hb hr (fun t ht hW => ⟨⟨(0), rfl, ⟨(show z_in 0 from ⟨by decide, by decide⟩), hv⟩, z_pt hP ht⟩, hS.F ht⟩) hS.2.2 dX8_levels_5
set_option maxHeartbeats 4000000 in
set_option maxRecDepth 100000 in
theorem mt_X8_levels (l : Launch) (D : va_G) (cA : Nat → ClassId) (y : Nat) (y_space : Nat) (y_offset : Nat) (y_length : Nat) (y_units : Nat) (y_isThere : Nat) (y_levels : Int) (y_level : Nat) (y_lines : Int) (y_lineLevel : Nat) (y_lineUnits : Nat) (y_lineFrom : Nat) (y_lineMany : Nat) (y_isClosed : Nat) (y_insides : Nat) (y_parent : Nat) (y_isHigh : Nat) (y_inBits : Nat) (y_sides : Int) (y_side : Nat) (y_sideA : Nat) (y_sideB : Nat) (y_lineSpace : Int) (y_wasThere : Nat) (y_leads : Nat) (y_isLed : Nat) (y_isOn : Nat) (y_goesTo : Nat) (y_stream : Nat) (y_filled : Nat) (y_isDone : Nat) (y_isReached : Nat) (y_newUnits : Nat) (y_isNew : Nat) (h_y_levels : z_in y_levels) (h_y_lines : z_in y_lines) (h_y_sides : z_in y_sides) (h_y_lineSpace : z_in y_lineSpace)  : Met l yX8_levels wsX8_levels ({ frames := 0, cells := 0, slots := 0, locals := 0 } : Room) (va_Pc [.ref y] (z_M0 D cA [(y, .inr (6, [.ref y_space, .ref y_offset, .ref y_length, .ref y_units, .ref y_isThere, .int (z_i y_levels), .ref y_level, .int (z_i y_lines), .ref y_lineLevel, .ref y_lineUnits, .ref y_lineFrom, .ref y_lineMany, .ref y_isClosed, .ref y_insides, .ref y_parent, .ref y_isHigh, .ref y_inBits, .int (z_i y_sides), .ref y_side, .ref y_sideA, .ref y_sideB, .int (z_i y_lineSpace), .ref y_wasThere, .ref y_leads, .ref y_isLed, .ref y_isOn, .ref y_goesTo, .ref y_stream, .ref y_filled, .ref y_isDone, .ref y_isReached, .ref y_newUnits, .ref y_isNew]))])) (va_Qv (fun (u : Int) => z_in u ∧ (fun (y_levels' : Int) => y_levels' = 0) u) (fun (u : Int) t => va_P D vwCl [(y, .inr (6, [.ref y_space, .ref y_offset, .ref y_length, .ref y_units, .ref y_isThere, .int (z_i u), .ref y_level, .int (z_i y_lines), .ref y_lineLevel, .ref y_lineUnits, .ref y_lineFrom, .ref y_lineMany, .ref y_isClosed, .ref y_insides, .ref y_parent, .ref y_isHigh, .ref y_inBits, .int (z_i y_sides), .ref y_side, .ref y_sideA, .ref y_sideB, .int (z_i y_lineSpace), .ref y_wasThere, .ref y_leads, .ref y_isLed, .ref y_isOn, .ref y_goesTo, .ref y_stream, .ref y_filled, .ref y_isDone, .ref y_isReached, .ref y_newUnits, .ref y_isNew]))] t.heap) (z_A [(y, .inr (6, [.ref y_space, .ref y_offset, .ref y_length, .ref y_units, .ref y_isThere, .int (z_i y_levels), .ref y_level, .int (z_i y_lines), .ref y_lineLevel, .ref y_lineUnits, .ref y_lineFrom, .ref y_lineMany, .ref y_isClosed, .ref y_insides, .ref y_parent, .ref y_isHigh, .ref y_inBits, .int (z_i y_sides), .ref y_side, .ref y_sideA, .ref y_sideB, .int (z_i y_lineSpace), .ref y_wasThere, .ref y_leads, .ref y_isLed, .ref y_isOn, .ref y_goesTo, .ref y_stream, .ref y_filled, .ref y_isDone, .ref y_isReached, .ref y_newUnits, .ref y_isNew]))])) 0 0 (z_A [(y, .inr (6, [.ref y_space, .ref y_offset, .ref y_length, .ref y_units, .ref y_isThere, .int (z_i y_levels), .ref y_level, .int (z_i y_lines), .ref y_lineLevel, .ref y_lineUnits, .ref y_lineFrom, .ref y_lineMany, .ref y_isClosed, .ref y_insides, .ref y_parent, .ref y_isHigh, .ref y_inBits, .int (z_i y_sides), .ref y_side, .ref y_sideA, .ref y_sideB, .int (z_i y_lineSpace), .ref y_wasThere, .ref y_leads, .ref y_isLed, .ref y_isOn, .ref y_goesTo, .ref y_stream, .ref y_filled, .ref y_isDone, .ref y_isReached, .ref y_newUnits, .ref y_isNew]))]) := by
  refine wk_X8_levels l D cA y y_space y_offset y_length y_units y_isThere y_levels y_level y_lines y_lineLevel y_lineUnits y_lineFrom y_lineMany y_isClosed y_insides y_parent y_isHigh y_inBits y_sides y_side y_sideA y_sideB y_lineSpace y_wasThere y_leads y_isLed y_isOn y_goesTo y_stream y_filled y_isDone y_isReached y_newUnits y_isNew h_y_levels h_y_lines h_y_sides h_y_lineSpace (fun (y_levels' : Int) => y_levels' = 0) ?_
  unfold vc_X8_levels
  exact rfl
def vc_X8_downOf (k : Int) (Q : Int → Prop) : Prop :=
((k ≥ 3 → ((k = 3 → Q 0) ∧
(k ≠ 3 → ((k ≠ 7 → Q 1) ∧
(k = 7 → Q 0))))) ∧
(k < 3 → Q (-1)))
set_option maxHeartbeats 4000000 in
set_option maxRecDepth 100000 in
theorem wk_X8_downOf (l : Launch) (D : va_G) (cA : Nat → ClassId) (k : Int) (h_k : z_in k) (Q : Int → Prop) (hv : vc_X8_downOf k Q) : Met l yX8_downOf wsX8_downOf ({ frames := 0, cells := 0, slots := 0, locals := 0 } : Room) (va_Pc [.int (z_i k)] (z_B0 D cA [])) (va_Qi (z_ri Q) (fun _ _ => True) (fun _ => False)) 0 0 (fun _ => False) := by
  unfold vc_X8_downOf at hv
  refine Met.ofW (cc := cX8_downOf) (maxL := 1) (ret := (some .int)) (by decide +kernel) rfl ?_
  intro p e s m args below meth c s₁ B hml hv0
  obtain ⟨rfl, hK, hP⟩ := hv0
  have hx := B.exec
  have hb := B.bytes
  have hr := B.returns
  have hts := atoms_spec (ws := wsX8_downOf) B.pre
  have hown : s.vm.findClass RX8 = some m.cls := findClass_of_methodNamed B.named
  have hlocks := B.notSynchronized
  have hS : va_S (fun _ : Nat => False) s.heap s.heap [] := va_S.rf
  have hl := lv_entry ([.int (z_i k)]) (n := 1) (Nat.le_of_ble_eq_true rfl)
  rw [lg_entry_eq]
  generalize (lg_sl ([.int (z_i k)]) ++ List.replicate (1 - (lg_sl ([.int (z_i k)])).length) Slot.unset).toArray = ls at hl ⊢
  have hl : lv_has ls 1 [(0, .int (z_i k))] := hl
  refine lv_iload_n hx hb dX8_downOf_0 rfl (lv_at hl 0 rfl) ?_
  refine lv_iconst (v := z_i 3) hx hb dX8_downOf_1 rfl ?_
  refine lx_icmp_ge (tgt := 9) hx hb dX8_downOf_2 (by decide) h_k (show z_in 3 from ⟨by decide, by decide⟩) (fun hc => ?_) (fun hc => ?_)
  · have hv := hv.1 hc
    refine lv_iload_n hx hb dX8_downOf_9 rfl (lv_at hl 0 rfl) ?_
    refine lv_iconst (v := z_i 3) hx hb dX8_downOf_10 rfl ?_
    refine lx_icmp_eq (tgt := 20) hx hb dX8_downOf_11 (by decide) h_k (show z_in 3 from ⟨by decide, by decide⟩) (fun hc => ?_) (fun hc => ?_)
    · have hv := hv.1 hc
      refine lv_iconst (v := z_i 0) hx hb dX8_downOf_20 rfl ?_
      refine lv_goto (tgt := 25) hx hb dX8_downOf_21 (by decide) ?_
      exact W.iret (v := z_i 0) hx hb hr (fun t ht hW => ⟨⟨z_i 0, (), rfl, ⟨0, rfl, (show z_in 0 from ⟨by decide, by decide⟩), hv⟩, trivial⟩, hS.F ht⟩) hS.2.2 dX8_downOf_25
    · have hv := hv.2 hc
      refine lv_iload_n hx hb dX8_downOf_14 rfl (lv_at hl 0 rfl) ?_
      refine lv_bipush (v := z_i 7) hx hb dX8_downOf_15 (by decide) ?_
      refine lx_icmp_ne (tgt := 24) hx hb dX8_downOf_17 (by decide) h_k (show z_in 7 from ⟨by decide, by decide⟩) (fun hc => ?_) (fun hc => ?_)
      · have hv := hv.1 hc
        refine lv_iconst (v := z_i 1) hx hb dX8_downOf_24 rfl ?_
        exact W.iret (v := z_i 1) hx hb hr (fun t ht hW => ⟨⟨z_i 1, (), rfl, ⟨1, rfl, (show z_in 1 from ⟨by decide, by decide⟩), hv⟩, trivial⟩, hS.F ht⟩) hS.2.2 dX8_downOf_25
      · have hv := hv.2 hc
        refine lv_iconst (v := z_i 0) hx hb dX8_downOf_20 rfl ?_
        refine lv_goto (tgt := 25) hx hb dX8_downOf_21 (by decide) ?_
        exact W.iret (v := z_i 0) hx hb hr (fun t ht hW => ⟨⟨z_i 0, (), rfl, ⟨0, rfl, (show z_in 0 from ⟨by decide, by decide⟩), hv⟩, trivial⟩, hS.F ht⟩) hS.2.2 dX8_downOf_25
  · have hv := hv.2 hc
    refine lv_iconst (v := z_i (-1)) hx hb dX8_downOf_5 rfl ?_
    refine lv_goto (tgt := 25) hx hb dX8_downOf_6 (by decide) ?_
    exact W.iret (v := z_i (-1)) hx hb hr (fun t ht hW => ⟨⟨z_i (-1), (), rfl, ⟨-1, rfl, (show z_in (-1) from ⟨by decide, by decide⟩), hv⟩, trivial⟩, hS.F ht⟩) hS.2.2 dX8_downOf_25
set_option maxHeartbeats 4000000 in
set_option maxRecDepth 100000 in
theorem mt_X8_downOf (l : Launch) (D : va_G) (cA : Nat → ClassId) (k : Int) (h_k : z_in k) (hp1 : 0 ≤ k ∧ k < 8) : Met l yX8_downOf wsX8_downOf ({ frames := 0, cells := 0, slots := 0, locals := 0 } : Room) (va_Pc [.int (z_i k)] (z_B0 D cA [])) (va_Qi (z_ri (fun (r : Int) => r = z_rs k.toNat)) (fun _ _ => True) (fun _ => False)) 0 0 (fun _ => False) := by
  refine wk_X8_downOf l D cA k h_k (fun (r : Int) => r = z_rs k.toNat) ?_
  unfold vc_X8_downOf
  have hk : k = 0 ∨ k = 1 ∨ k = 2 ∨ k = 3 ∨ k = 4 ∨ k = 5 ∨ k = 6 ∨ k = 7 := by omega
  rcases hk with rfl | rfl | rfl | rfl | rfl | rfl | rfl | rfl <;> decide
def vc_X8_alongOf (k : Int) (Q : Int → Prop) : Prop :=
((k = 0 → Q (-1)) ∧
(k ≠ 0 → ((k ≤ 5 → ((k = 1 → Q 0) ∧
(k ≠ 1 → ((k ≠ 5 → Q 1) ∧
(k = 5 → Q 0))))) ∧
(k > 5 → Q (-1)))))
set_option maxHeartbeats 4000000 in
set_option maxRecDepth 100000 in
theorem wk_X8_alongOf (l : Launch) (D : va_G) (cA : Nat → ClassId) (k : Int) (h_k : z_in k) (Q : Int → Prop) (hv : vc_X8_alongOf k Q) : Met l yX8_alongOf wsX8_alongOf ({ frames := 0, cells := 0, slots := 0, locals := 0 } : Room) (va_Pc [.int (z_i k)] (z_B0 D cA [])) (va_Qi (z_ri Q) (fun _ _ => True) (fun _ => False)) 0 0 (fun _ => False) := by
  unfold vc_X8_alongOf at hv
  refine Met.ofW (cc := cX8_alongOf) (maxL := 1) (ret := (some .int)) (by decide +kernel) rfl ?_
  intro p e s m args below meth c s₁ B hml hv0
  obtain ⟨rfl, hK, hP⟩ := hv0
  have hx := B.exec
  have hb := B.bytes
  have hr := B.returns
  have hts := atoms_spec (ws := wsX8_alongOf) B.pre
  have hown : s.vm.findClass RX8 = some m.cls := findClass_of_methodNamed B.named
  have hlocks := B.notSynchronized
  have hS : va_S (fun _ : Nat => False) s.heap s.heap [] := va_S.rf
  have hl := lv_entry ([.int (z_i k)]) (n := 1) (Nat.le_of_ble_eq_true rfl)
  rw [lg_entry_eq]
  generalize (lg_sl ([.int (z_i k)]) ++ List.replicate (1 - (lg_sl ([.int (z_i k)])).length) Slot.unset).toArray = ls at hl ⊢
  have hl : lv_has ls 1 [(0, .int (z_i k))] := hl
  refine lv_iload_n hx hb dX8_alongOf_0 rfl (lv_at hl 0 rfl) ?_
  refine lx_if_eq (tgt := 9) hx hb dX8_alongOf_1 (by decide) h_k (fun hc => ?_) (fun hc => ?_)
  · have hv := hv.1 hc
    refine lv_iconst (v := z_i (-1)) hx hb dX8_alongOf_9 rfl ?_
    refine lv_goto (tgt := 28) hx hb dX8_alongOf_10 (by decide) ?_
    exact W.iret (v := z_i (-1)) hx hb hr (fun t ht hW => ⟨⟨z_i (-1), (), rfl, ⟨-1, rfl, (show z_in (-1) from ⟨by decide, by decide⟩), hv⟩, trivial⟩, hS.F ht⟩) hS.2.2 dX8_alongOf_28
  · have hv := hv.2 hc
    refine lv_iload_n hx hb dX8_alongOf_4 rfl (lv_at hl 0 rfl) ?_
    refine lv_iconst (v := z_i 5) hx hb dX8_alongOf_5 rfl ?_
    refine lx_icmp_le (tgt := 13) hx hb dX8_alongOf_6 (by decide) h_k (show z_in 5 from ⟨by decide, by decide⟩) (fun hc => ?_) (fun hc => ?_)
    · have hv := hv.1 hc
      refine lv_iload_n hx hb dX8_alongOf_13 rfl (lv_at hl 0 rfl) ?_
      refine lv_iconst (v := z_i 1) hx hb dX8_alongOf_14 rfl ?_
      refine lx_icmp_eq (tgt := 23) hx hb dX8_alongOf_15 (by decide) h_k (show z_in 1 from ⟨by decide, by decide⟩) (fun hc => ?_) (fun hc => ?_)
      · have hv := hv.1 hc
        refine lv_iconst (v := z_i 0) hx hb dX8_alongOf_23 rfl ?_
        refine lv_goto (tgt := 28) hx hb dX8_alongOf_24 (by decide) ?_
        exact W.iret (v := z_i 0) hx hb hr (fun t ht hW => ⟨⟨z_i 0, (), rfl, ⟨0, rfl, (show z_in 0 from ⟨by decide, by decide⟩), hv⟩, trivial⟩, hS.F ht⟩) hS.2.2 dX8_alongOf_28
      · have hv := hv.2 hc
        refine lv_iload_n hx hb dX8_alongOf_18 rfl (lv_at hl 0 rfl) ?_
        refine lv_iconst (v := z_i 5) hx hb dX8_alongOf_19 rfl ?_
        refine lx_icmp_ne (tgt := 27) hx hb dX8_alongOf_20 (by decide) h_k (show z_in 5 from ⟨by decide, by decide⟩) (fun hc => ?_) (fun hc => ?_)
        · have hv := hv.1 hc
          refine lv_iconst (v := z_i 1) hx hb dX8_alongOf_27 rfl ?_
          exact W.iret (v := z_i 1) hx hb hr (fun t ht hW => ⟨⟨z_i 1, (), rfl, ⟨1, rfl, (show z_in 1 from ⟨by decide, by decide⟩), hv⟩, trivial⟩, hS.F ht⟩) hS.2.2 dX8_alongOf_28
        · have hv := hv.2 hc
          refine lv_iconst (v := z_i 0) hx hb dX8_alongOf_23 rfl ?_
          refine lv_goto (tgt := 28) hx hb dX8_alongOf_24 (by decide) ?_
          exact W.iret (v := z_i 0) hx hb hr (fun t ht hW => ⟨⟨z_i 0, (), rfl, ⟨0, rfl, (show z_in 0 from ⟨by decide, by decide⟩), hv⟩, trivial⟩, hS.F ht⟩) hS.2.2 dX8_alongOf_28
    · have hv := hv.2 hc
      refine lv_iconst (v := z_i (-1)) hx hb dX8_alongOf_9 rfl ?_
      refine lv_goto (tgt := 28) hx hb dX8_alongOf_10 (by decide) ?_
      exact W.iret (v := z_i (-1)) hx hb hr (fun t ht hW => ⟨⟨z_i (-1), (), rfl, ⟨-1, rfl, (show z_in (-1) from ⟨by decide, by decide⟩), hv⟩, trivial⟩, hS.F ht⟩) hS.2.2 dX8_alongOf_28
set_option maxHeartbeats 4000000 in
set_option maxRecDepth 100000 in
theorem mt_X8_alongOf (l : Launch) (D : va_G) (cA : Nat → ClassId) (k : Int) (h_k : z_in k) (hp1 : 0 ≤ k ∧ k < 8) : Met l yX8_alongOf wsX8_alongOf ({ frames := 0, cells := 0, slots := 0, locals := 0 } : Room) (va_Pc [.int (z_i k)] (z_B0 D cA [])) (va_Qi (z_ri (fun (r : Int) => r = z_cs k.toNat)) (fun _ _ => True) (fun _ => False)) 0 0 (fun _ => False) := by
  refine wk_X8_alongOf l D cA k h_k (fun (r : Int) => r = z_cs k.toNat) ?_
  unfold vc_X8_alongOf
  have hk : k = 0 ∨ k = 1 ∨ k = 2 ∨ k = 3 ∨ k = 4 ∨ k = 5 ∨ k = 6 ∨ k = 7 := by omega
  rcases hk with rfl | rfl | rfl | rfl | rfl | rfl | rfl | rfl <;> decide
def vc_X8_neighbour (y_isThere : Nat → Int32) (gi : Int) (n : Int) (k : Int) (Q : Int → Prop) : Prop :=
(0 ≤ k ∧ k < 8) ∧ (∀ (r2 : Int), z_in r2 → (r2 = z_rs k.toNat) → z_in ((n.tdiv 40) + r2) ∧ (∀ v3 : Int, v3 = (n.tdiv 40) + r2 → (0 ≤ k ∧ k < 8) ∧ (∀ (r7 : Int), z_in r7 → (r7 = z_cs k.toNat) → z_in ((n.tmod 40) + r7) ∧ (∀ v8 : Int, v8 = (n.tmod 40) + r7 → (0 ≤ gi ∧ gi < 4) ∧ (∀ (r12 : Int), z_in r12 → (r12 = z_b (decide (m_no (q_th y_isThere gi) v3 v8 ≠ -1))) → ((r12 = 0 → Q (-1)) ∧
(r12 ≠ 0 → z_in ((40 * v3) + v8) ∧ Q ((40 * v3) + v8))))))))
set_option maxHeartbeats 4000000 in
set_option maxRecDepth 100000 in
theorem wk_X8_neighbour (l : Launch) (D : va_G) (cA : Nat → ClassId) (y : Nat) (y_space : Nat) (y_offset : Nat) (y_length : Nat) (y_units : Nat) (ya_isThere : Nat) (y_isThere : Nat → Int32) (y_levels : Int) (y_level : Nat) (y_lines : Int) (y_lineLevel : Nat) (y_lineUnits : Nat) (y_lineFrom : Nat) (y_lineMany : Nat) (y_isClosed : Nat) (y_insides : Nat) (y_parent : Nat) (y_isHigh : Nat) (y_inBits : Nat) (y_sides : Int) (y_side : Nat) (y_sideA : Nat) (y_sideB : Nat) (y_lineSpace : Int) (y_wasThere : Nat) (y_leads : Nat) (y_isLed : Nat) (y_isOn : Nat) (y_goesTo : Nat) (y_stream : Nat) (y_filled : Nat) (y_isDone : Nat) (y_isReached : Nat) (y_newUnits : Nat) (y_isNew : Nat) (gi : Int) (n : Int) (k : Int) (h_y_levels : z_in y_levels) (h_y_lines : z_in y_lines) (h_y_sides : z_in y_sides) (h_y_lineSpace : z_in y_lineSpace) (h_gi : z_in gi) (h_n : z_in n) (h_k : z_in k) (Q : Int → Prop) (hv : vc_X8_neighbour y_isThere gi n k Q) : Met l yX8_neighbour wsX8_neighbour ({ frames := 2, cells := 0, slots := 0, locals := 45 } : Room) (va_Pc [.ref y, .int (z_i gi), .int (z_i n), .int (z_i k)] (z_B0 D cA [(y, .inr (6, [.ref y_space, .ref y_offset, .ref y_length, .ref y_units, .ref ya_isThere, .int (z_i y_levels), .ref y_level, .int (z_i y_lines), .ref y_lineLevel, .ref y_lineUnits, .ref y_lineFrom, .ref y_lineMany, .ref y_isClosed, .ref y_insides, .ref y_parent, .ref y_isHigh, .ref y_inBits, .int (z_i y_sides), .ref y_side, .ref y_sideA, .ref y_sideB, .int (z_i y_lineSpace), .ref y_wasThere, .ref y_leads, .ref y_isLed, .ref y_isOn, .ref y_goesTo, .ref y_stream, .ref y_filled, .ref y_isDone, .ref y_isReached, .ref y_newUnits, .ref y_isNew])), (ya_isThere, .inl (cA 3, 5120, .inl y_isThere))])) (va_Qi (z_ri Q) (fun _ _ => True) (fun _ => False)) 0 0 (fun _ => False) := by
  unfold vc_X8_neighbour at hv
  refine Met.ofW (cc := cX8_neighbour) (maxL := 6) (ret := (some .int)) (by decide +kernel) rfl ?_
  intro p e s m args below meth c s₁ B hml hv0
  obtain ⟨rfl, hK, hP⟩ := hv0
  have hx := B.exec
  have hb := B.bytes
  have hr := B.returns
  have hts := atoms_spec (ws := wsX8_neighbour) B.pre
  have hown : s.vm.findClass RX8 = some m.cls := findClass_of_methodNamed B.named
  have hlocks := B.notSynchronized
  have hS : va_S (fun _ : Nat => False) s.heap s.heap [] := va_S.rf
  have hl := lv_entry ([.ref y, .int (z_i gi), .int (z_i n), .int (z_i k)]) (n := 6) (Nat.le_of_ble_eq_true rfl)
  rw [lg_entry_eq]
  generalize (lg_sl ([.ref y, .int (z_i gi), .int (z_i n), .int (z_i k)]) ++ List.replicate (6 - (lg_sl ([.ref y, .int (z_i gi), .int (z_i n), .int (z_i k)])).length) Slot.unset).toArray = ls at hl ⊢
  have hl : lv_has ls 6 [(0, .ref y), (1, .int (z_i gi)), (2, .int (z_i n)), (3, .int (z_i k))] := hl
  refine lv_iload_n hx hb dX8_neighbour_0 rfl (lv_at hl 2 rfl) ?_
  refine lv_bipush (v := z_i 40) hx hb dX8_neighbour_1 (by decide) ?_
  refine lx_idiv hx hb dX8_neighbour_3 h_n (show z_in 40 from ⟨by decide, by decide⟩) (by decide) ?_
  refine lv_iload_n hx hb dX8_neighbour_4 rfl (lv_at hl 3 rfl) ?_
  obtain ⟨hp1, hv⟩ := hv
  refine va_calli (va_runS (As := [.int (z_i k)]) (rest := [.int (z_i (n.tdiv 40))]) ⟨hx, hb, hml, hown, hts⟩ (mt_X8_downOf l D cA k h_k hp1) (va_cwS 1 hts gX8_neighbour_X8_downOf rfl rfl rfl (by decide +kernel) ⟨Nat.le_of_ble_eq_true rfl, Nat.le_of_ble_eq_true rfl⟩) ⟨z_bl0, fun U hU hW => ⟨rfl, z_b0 hK (hP.sub (ws' := []) [] rfl) hU hW⟩⟩ rfl rfl hl.1 rfl (lv_room (Nat.le_of_ble_eq_true rfl)) dX8_neighbour_5 ⟨Nat.zero_le _, Nat.zero_le _⟩) hS (fun q _ h => h.elim) (fun q h => h.elim) (fun r0 u t H locs ht hvm hw hB hz1 hk1 hS => ?_)
  obtain ⟨r2, rfl, h_r2, hw⟩ := hw
  have hP := z_P_all hP hk1
  have hv := hv r2 h_r2 hw
  refine lx_iadd hx hb dX8_neighbour_8 ?_
  obtain ⟨hr4, hv⟩ := hv
  refine lx_topi (fun v3 hy5 => ?_)
  have hv := hv v3 hy5
  have h_v3 : z_in v3 := by rw [hy5]; exact hr4
  refine lv_istore (lv' := [(4, .int (z_i v3)), (0, .ref y), (1, .int (z_i gi)), (2, .int (z_i n)), (3, .int (z_i k))]) hx hb dX8_neighbour_9 hl (by decide) rfl (fun ls hl => ?_)
  refine lv_iload_n hx hb dX8_neighbour_11 rfl (lv_at hl 3 rfl) ?_
  refine lv_bipush (v := z_i 40) hx hb dX8_neighbour_12 (by decide) ?_
  refine lx_irem hx hb dX8_neighbour_14 h_n (show z_in 40 from ⟨by decide, by decide⟩) (by decide) ?_
  refine lv_iload_n hx hb dX8_neighbour_15 rfl (lv_at hl 4 rfl) ?_
  obtain ⟨hp6, hv⟩ := hv
  refine va_calli (va_runS (As := [.int (z_i k)]) (rest := [.int (z_i (n.tmod 40))]) ⟨hx, hb, hml, hown, hts⟩ (mt_X8_alongOf l D cA k h_k hp6) (va_cwS 1 hts gX8_neighbour_X8_alongOf rfl rfl rfl (by decide +kernel) ⟨Nat.le_of_ble_eq_true rfl, Nat.le_of_ble_eq_true rfl⟩) ⟨z_bl0, fun U hU hW => ⟨rfl, z_b0 hK (hP.sub (ws' := []) [] rfl) hU hW⟩⟩ rfl rfl hl.1 rfl (lv_room (Nat.le_of_ble_eq_true rfl)) dX8_neighbour_16 ⟨Nat.zero_le _, Nat.zero_le _⟩) hS (fun q _ h => h.elim) (fun q h => h.elim) (fun r0 u t H locs ht hvm hw hB hz1 hk1 hS => ?_)
  obtain ⟨r7, rfl, h_r7, hw⟩ := hw
  have hP := z_P_all hP hk1
  have hv := hv r7 h_r7 hw
  refine lx_iadd hx hb dX8_neighbour_19 ?_
  obtain ⟨hr9, hv⟩ := hv
  refine lx_topi (fun v8 hy10 => ?_)
  have hv := hv v8 hy10
  have h_v8 : z_in v8 := by rw [hy10]; exact hr9
  refine lv_istore (lv' := [(5, .int (z_i v8)), (4, .int (z_i v3)), (0, .ref y), (1, .int (z_i gi)), (2, .int (z_i n)), (3, .int (z_i k))]) hx hb dX8_neighbour_20 hl (by decide) rfl (fun ls hl => ?_)
  refine lv_aload_n hx hb dX8_neighbour_22 rfl (lv_at hl 2 rfl) ?_
  refine lv_iload_n hx hb dX8_neighbour_23 rfl (lv_at hl 3 rfl) ?_
  refine lv_iload hx hb dX8_neighbour_24 (lv_at hl 1 rfl) ?_
  refine lv_iload hx hb dX8_neighbour_26 (lv_at hl 0 rfl) ?_
  obtain ⟨hp11, hv⟩ := hv
  refine va_calli (va_runV (As := [.int (z_i gi), .int (z_i v3), .int (z_i v8)]) (rest := []) ⟨hx, hb, hml, hown, hts⟩ (mt_X8_has l D cA y y_space y_offset y_length y_units ya_isThere y_isThere y_levels y_level y_lines y_lineLevel y_lineUnits y_lineFrom y_lineMany y_isClosed y_insides y_parent y_isHigh y_inBits y_sides y_side y_sideA y_sideB y_lineSpace y_wasThere y_leads y_isLed y_isOn y_goesTo y_stream y_filled y_isDone y_isReached y_newUnits y_isNew gi v3 v8 h_y_levels h_y_lines h_y_sides h_y_lineSpace h_gi h_v3 h_v8 hp11) (cwV 3 hts gX8_neighbour_X8_has rfl rfl rfl (by decide +kernel) ⟨Nat.le_of_ble_eq_true rfl, Nat.le_of_ble_eq_true rfl⟩) ⟨z_bl0, va_recv hK hP (ci := 6) (q0 := 0) rfl rfl, fun U hU hW => ⟨rfl, z_b0 hK hP hU hW⟩⟩ rfl rfl hl.1 rfl (lv_room (Nat.le_of_ble_eq_true rfl)) dX8_neighbour_28 ⟨Nat.zero_le _, Nat.zero_le _⟩) hS (fun q _ h => h.elim) (fun q h => h.elim) (fun r0 u t H locs ht hvm hw hB hz1 hk1 hS => ?_)
  obtain ⟨r12, rfl, h_r12, hw⟩ := hw
  have hP := z_P_all hP hk1
  have hv := hv r12 h_r12 hw
  refine lx_if_eq (tgt := 45) hx hb dX8_neighbour_31 (by decide) h_r12 (fun hc => ?_) (fun hc => ?_)
  · have hv := hv.1 hc
    refine lv_iconst (v := z_i (-1)) hx hb dX8_neighbour_45 rfl ?_
    exact W.iret (v := z_i (-1)) hx hb hr (fun t ht hW => ⟨⟨z_i (-1), (), rfl, ⟨-1, rfl, (show z_in (-1) from ⟨by decide, by decide⟩), hv⟩, trivial⟩, hS.F ht⟩) hS.2.2 dX8_neighbour_46
  · have hv := hv.2 hc
    refine lv_bipush (v := z_i 40) hx hb dX8_neighbour_34 (by decide) ?_
    refine lv_iload hx hb dX8_neighbour_36 (lv_at hl 1 rfl) ?_
    refine lx_imul hx hb dX8_neighbour_38 ?_
    refine lv_iload hx hb dX8_neighbour_39 (lv_at hl 0 rfl) ?_
    refine lx_iadd hx hb dX8_neighbour_41 ?_
    refine lv_goto (tgt := 46) hx hb dX8_neighbour_42 (by decide) ?_
    obtain ⟨hr13, hv⟩ := hv
    exact W.iret (v := z_i ((40 * v3) + v8)) hx hb hr (fun t ht hW => ⟨⟨z_i ((40 * v3) + v8), (), rfl, ⟨(40 * v3) + v8, rfl, hr13, hv⟩, trivial⟩, hS.F ht⟩) hS.2.2 dX8_neighbour_46
set_option maxHeartbeats 4000000 in
set_option maxRecDepth 100000 in
theorem mt_X8_neighbour (l : Launch) (D : va_G) (cA : Nat → ClassId) (y : Nat) (y_space : Nat) (y_offset : Nat) (y_length : Nat) (y_units : Nat) (ya_isThere : Nat) (y_isThere : Nat → Int32) (y_levels : Int) (y_level : Nat) (y_lines : Int) (y_lineLevel : Nat) (y_lineUnits : Nat) (y_lineFrom : Nat) (y_lineMany : Nat) (y_isClosed : Nat) (y_insides : Nat) (y_parent : Nat) (y_isHigh : Nat) (y_inBits : Nat) (y_sides : Int) (y_side : Nat) (y_sideA : Nat) (y_sideB : Nat) (y_lineSpace : Int) (y_wasThere : Nat) (y_leads : Nat) (y_isLed : Nat) (y_isOn : Nat) (y_goesTo : Nat) (y_stream : Nat) (y_filled : Nat) (y_isDone : Nat) (y_isReached : Nat) (y_newUnits : Nat) (y_isNew : Nat) (gi : Int) (n : Int) (k : Int) (h_y_levels : z_in y_levels) (h_y_lines : z_in y_lines) (h_y_sides : z_in y_sides) (h_y_lineSpace : z_in y_lineSpace) (h_gi : z_in gi) (h_n : z_in n) (h_k : z_in k) (hp1 : 0 ≤ gi ∧ gi < 4) (hp2 : 0 ≤ n ∧ n < 1280) (hp3 : 0 ≤ k ∧ k < 8) : Met l yX8_neighbour wsX8_neighbour ({ frames := 2, cells := 0, slots := 0, locals := 45 } : Room) (va_Pc [.ref y, .int (z_i gi), .int (z_i n), .int (z_i k)] (z_B0 D cA [(y, .inr (6, [.ref y_space, .ref y_offset, .ref y_length, .ref y_units, .ref ya_isThere, .int (z_i y_levels), .ref y_level, .int (z_i y_lines), .ref y_lineLevel, .ref y_lineUnits, .ref y_lineFrom, .ref y_lineMany, .ref y_isClosed, .ref y_insides, .ref y_parent, .ref y_isHigh, .ref y_inBits, .int (z_i y_sides), .ref y_side, .ref y_sideA, .ref y_sideB, .int (z_i y_lineSpace), .ref y_wasThere, .ref y_leads, .ref y_isLed, .ref y_isOn, .ref y_goesTo, .ref y_stream, .ref y_filled, .ref y_isDone, .ref y_isReached, .ref y_newUnits, .ref y_isNew])), (ya_isThere, .inl (cA 3, 5120, .inl y_isThere))])) (va_Qi (z_ri (fun (r : Int) => r = m_nb (q_th y_isThere gi) n k)) (fun _ _ => True) (fun _ => False)) 0 0 (fun _ => False) := by
  refine wk_X8_neighbour l D cA y y_space y_offset y_length y_units ya_isThere y_isThere y_levels y_level y_lines y_lineLevel y_lineUnits y_lineFrom y_lineMany y_isClosed y_insides y_parent y_isHigh y_inBits y_sides y_side y_sideA y_sideB y_lineSpace y_wasThere y_leads y_isLed y_isOn y_goesTo y_stream y_filled y_isDone y_isReached y_newUnits y_isNew gi n k h_y_levels h_y_lines h_y_sides h_y_lineSpace h_gi h_n h_k (fun (r : Int) => r = m_nb (q_th y_isThere gi) n k) ?_
  unfold vc_X8_neighbour
  have hb := z_rsc ⟨k.toNat, by omega⟩
  have e2 : n.tdiv 40 = n / 40 := Int.tdiv_eq_ediv_of_nonneg hp2.1
  have e3 : n.tmod 40 = n % 40 := Int.tmod_eq_emod_of_nonneg hp2.1
  dsimp only at hb
  refine ⟨hp3, ?_⟩
  rintro r2 _ h2
  rw [e2, e3]
  rw [← h2] at hb
  refine ⟨⟨by omega, by omega⟩, ?_⟩
  rintro v3 h3
  refine ⟨hp3, ?_⟩
  rintro r7 _ h7
  rw [← h7] at hb
  refine ⟨⟨by omega, by omega⟩, ?_⟩
  rintro v8 h8
  have em : m_nb (q_th y_isThere gi) n k = m_no (q_th y_isThere gi) v3 v8 := by unfold m_nb; rw [h3, h8, h2, h7]
  rw [em]
  refine ⟨hp1, ?_⟩
  rintro r12 _ rfl
  refine ⟨fun q => ?_, fun q => ?_⟩
  · have q := of_decide_eq_false (zb_f q)
    exact (Decidable.not_not.mp q).symm
  · have q := m_no_some (of_decide_eq_true (zb_t q))
    exact ⟨⟨by omega, by omega⟩, q.1.symm⟩
def vc_X8_neighbours (y_isThere : Nat → Int32) (gi : Int) (n : Int) (Q : Int → Prop) : Prop :=
(∀ L5 : Int → Int → Prop,
(∀ (x5_4 : Int) (x5_3 : Int), z_in x5_4 → z_in x5_3 → ((x5_4 ≥ 8 → Q x5_3) ∧
(x5_4 < 8 → (0 ≤ gi ∧ gi < 4) ∧ (0 ≤ n ∧ n < 1280) ∧ (0 ≤ x5_4 ∧ x5_4 < 8) ∧ (∀ (r4 : Int), z_in r4 → (r4 = m_nb (q_th y_isThere gi) n x5_4) → ((r4 < 0 → L5 (x5_4 + 1) (x5_3 + 0)) ∧
(r4 ≥ 0 → L5 (x5_4 + 1) (x5_3 + 1)))))) → L5 x5_4 x5_3) →
L5 0 0)
set_option maxHeartbeats 4000000 in
set_option maxRecDepth 100000 in
theorem wk_X8_neighbours (l : Launch) (D : va_G) (cA : Nat → ClassId) (y : Nat) (y_space : Nat) (y_offset : Nat) (y_length : Nat) (y_units : Nat) (ya_isThere : Nat) (y_isThere : Nat → Int32) (y_levels : Int) (y_level : Nat) (y_lines : Int) (y_lineLevel : Nat) (y_lineUnits : Nat) (y_lineFrom : Nat) (y_lineMany : Nat) (y_isClosed : Nat) (y_insides : Nat) (y_parent : Nat) (y_isHigh : Nat) (y_inBits : Nat) (y_sides : Int) (y_side : Nat) (y_sideA : Nat) (y_sideB : Nat) (y_lineSpace : Int) (y_wasThere : Nat) (y_leads : Nat) (y_isLed : Nat) (y_isOn : Nat) (y_goesTo : Nat) (y_stream : Nat) (y_filled : Nat) (y_isDone : Nat) (y_isReached : Nat) (y_newUnits : Nat) (y_isNew : Nat) (gi : Int) (n : Int) (h_y_levels : z_in y_levels) (h_y_lines : z_in y_lines) (h_y_sides : z_in y_sides) (h_y_lineSpace : z_in y_lineSpace) (h_gi : z_in gi) (h_n : z_in n) (Q : Int → Prop) (hv : vc_X8_neighbours y_isThere gi n Q) : Met l yX8_neighbours wsX8_neighbours ({ frames := 3, cells := 0, slots := 0, locals := 70 } : Room) (va_Pc [.ref y, .int (z_i gi), .int (z_i n)] (z_B0 D cA [(y, .inr (6, [.ref y_space, .ref y_offset, .ref y_length, .ref y_units, .ref ya_isThere, .int (z_i y_levels), .ref y_level, .int (z_i y_lines), .ref y_lineLevel, .ref y_lineUnits, .ref y_lineFrom, .ref y_lineMany, .ref y_isClosed, .ref y_insides, .ref y_parent, .ref y_isHigh, .ref y_inBits, .int (z_i y_sides), .ref y_side, .ref y_sideA, .ref y_sideB, .int (z_i y_lineSpace), .ref y_wasThere, .ref y_leads, .ref y_isLed, .ref y_isOn, .ref y_goesTo, .ref y_stream, .ref y_filled, .ref y_isDone, .ref y_isReached, .ref y_newUnits, .ref y_isNew])), (ya_isThere, .inl (cA 3, 5120, .inl y_isThere))])) (va_Qi (z_ri Q) (fun _ _ => True) (fun _ => False)) 0 0 (fun _ => False) := by
  unfold vc_X8_neighbours at hv
  refine Met.ofW (cc := cX8_neighbours) (maxL := 5) (ret := (some .int)) (by decide +kernel) rfl ?_
  intro p e s m args below meth c s₁ B hml hv0
  obtain ⟨rfl, hK, hP⟩ := hv0
  have hx := B.exec
  have hb := B.bytes
  have hr := B.returns
  have hts := atoms_spec (ws := wsX8_neighbours) B.pre
  have hown : s.vm.findClass RX8 = some m.cls := findClass_of_methodNamed B.named
  have hlocks := B.notSynchronized
  have hS : va_S (fun _ : Nat => False) s.heap s.heap [] := va_S.rf
  have hl := lv_entry ([.ref y, .int (z_i gi), .int (z_i n)]) (n := 5) (Nat.le_of_ble_eq_true rfl)
  rw [lg_entry_eq]
  generalize (lg_sl ([.ref y, .int (z_i gi), .int (z_i n)]) ++ List.replicate (5 - (lg_sl ([.ref y, .int (z_i gi), .int (z_i n)])).length) Slot.unset).toArray = ls at hl ⊢
  have hl : lv_has ls 5 [(0, .ref y), (1, .int (z_i gi)), (2, .int (z_i n))] := hl
  refine lv_iconst (v := z_i 0) hx hb dX8_neighbours_0 rfl ?_
  refine lv_istore_n (lv' := [(3, .int (z_i 0)), (0, .ref y), (1, .int (z_i gi)), (2, .int (z_i n))]) hx hb dX8_neighbours_1 rfl hl (by decide) rfl (fun ls hl => ?_)
  refine lv_iconst (v := z_i 0) hx hb dX8_neighbours_2 rfl ?_
  refine lv_istore (lv' := [(4, .int (z_i 0)), (3, .int (z_i 0)), (0, .ref y), (1, .int (z_i gi)), (2, .int (z_i n))]) hx hb dX8_neighbours_3 hl (by decide) rfl (fun ls hl => ?_)
  refine hv (fun (x5_4 : Int) (x5_3 : Int) => ∀ (H : Heap) (locs : List Loc) (ls : Array Slot), va_P D vwCl [(y, .inr (6, [.ref y_space, .ref y_offset, .ref y_length, .ref y_units, .ref ya_isThere, .int (z_i y_levels), .ref y_level, .int (z_i y_lines), .ref y_lineLevel, .ref y_lineUnits, .ref y_lineFrom, .ref y_lineMany, .ref y_isClosed, .ref y_insides, .ref y_parent, .ref y_isHigh, .ref y_inBits, .int (z_i y_sides), .ref y_side, .ref y_sideA, .ref y_sideB, .int (z_i y_lineSpace), .ref y_wasThere, .ref y_leads, .ref y_isLed, .ref y_isOn, .ref y_goesTo, .ref y_stream, .ref y_filled, .ref y_isDone, .ref y_isReached, .ref y_newUnits, .ref y_isNew])), (ya_isThere, .inl (cA 3, 5120, .inl y_isThere))] H → va_S (fun _ : Nat => False) s.heap H locs → lv_has ls 5 [(4, .int (z_i x5_4)), (3, .int (z_i x5_3)), (0, .ref y), (1, .int (z_i gi)), (2, .int (z_i n))] → W p l e _ s m _ below meth c H locs 0 0 _ (F0 m 5 ls [])) ?_ _ _ ls hP hS (lv_sub hl [0, 1, 2, 3, 4] rfl)
  intro x5_4 x5_3 h_x5_4 h_x5_3 hv H locs ls hP hS hl
  refine lv_iload hx hb dX8_neighbours_5 (lv_at hl 0 rfl) ?_
  refine lv_bipush (v := z_i 8) hx hb dX8_neighbours_7 (by decide) ?_
  refine lx_icmp_ge (tgt := 37) hx hb dX8_neighbours_9 (by decide) h_x5_4 (show z_in 8 from ⟨by decide, by decide⟩) (fun hc => ?_) (fun hc => ?_)
  · have hv := hv.1 hc
    refine lv_iload_n hx hb dX8_neighbours_37 rfl (lv_at hl 1 rfl) ?_
    exact W.iret (v := z_i x5_3) hx hb hr (fun t ht hW => ⟨⟨z_i x5_3, (), rfl, ⟨x5_3, rfl, h_x5_3, hv⟩, trivial⟩, hS.F ht⟩) hS.2.2 dX8_neighbours_38
  · have hv := hv.2 hc
    refine lv_iload_n hx hb dX8_neighbours_12 rfl (lv_at hl 1 rfl) ?_
    refine lv_aload_n hx hb dX8_neighbours_13 rfl (lv_at hl 2 rfl) ?_
    refine lv_iload_n hx hb dX8_neighbours_14 rfl (lv_at hl 3 rfl) ?_
    refine lv_iload_n hx hb dX8_neighbours_15 rfl (lv_at hl 4 rfl) ?_
    refine lv_iload hx hb dX8_neighbours_16 (lv_at hl 0 rfl) ?_
    obtain ⟨hp1, hv⟩ := hv
    obtain ⟨hp2, hv⟩ := hv
    obtain ⟨hp3, hv⟩ := hv
    refine va_calli (va_runV (As := [.int (z_i gi), .int (z_i n), .int (z_i x5_4)]) (rest := [.int (z_i x5_3)]) ⟨hx, hb, hml, hown, hts⟩ (mt_X8_neighbour l D cA y y_space y_offset y_length y_units ya_isThere y_isThere y_levels y_level y_lines y_lineLevel y_lineUnits y_lineFrom y_lineMany y_isClosed y_insides y_parent y_isHigh y_inBits y_sides y_side y_sideA y_sideB y_lineSpace y_wasThere y_leads y_isLed y_isOn y_goesTo y_stream y_filled y_isDone y_isReached y_newUnits y_isNew gi n x5_4 h_y_levels h_y_lines h_y_sides h_y_lineSpace h_gi h_n h_x5_4 hp1 hp2 hp3) (cwV 3 hts gX8_neighbours_X8_neighbour rfl rfl rfl (by decide +kernel) ⟨Nat.le_of_ble_eq_true rfl, Nat.le_of_ble_eq_true rfl⟩) ⟨z_bl0, va_recv hK hP (ci := 6) (q0 := 0) rfl rfl, fun U hU hW => ⟨rfl, z_b0 hK hP hU hW⟩⟩ rfl rfl hl.1 rfl (lv_room (Nat.le_of_ble_eq_true rfl)) dX8_neighbours_18 ⟨Nat.zero_le _, Nat.zero_le _⟩) hS (fun q _ h => h.elim) (fun q h => h.elim) (fun r0 u t H locs ht hvm hw hB hz1 hk1 hS => ?_)
    obtain ⟨r4, rfl, h_r4, hw⟩ := hw
    have hP := z_P_all hP hk1
    have hv := hv r4 h_r4 hw
    refine lx_if_lt (tgt := 28) hx hb dX8_neighbours_21 (by decide) h_r4 (fun hc => ?_) (fun hc => ?_)
    · have hv := hv.1 hc
      refine lv_iconst (v := z_i 0) hx hb dX8_neighbours_28 rfl ?_
      refine lx_iadd hx hb dX8_neighbours_29 ?_
      refine lv_istore_n (lv' := [(3, .int (z_i (x5_3 + 0))), (4, .int (z_i x5_4)), (0, .ref y), (1, .int (z_i gi)), (2, .int (z_i n))]) hx hb dX8_neighbours_30 rfl hl (by decide) rfl (fun ls hl => ?_)
      refine lv_iinc (v := z_i (x5_4 + 1)) (lv' := [(4, .int (z_i (x5_4 + 1))), (3, .int (z_i (x5_3 + 0))), (0, .ref y), (1, .int (z_i gi)), (2, .int (z_i n))]) hx hb dX8_neighbours_31 hl (k := 1) rfl (z_i_add _ _) (by decide) rfl (fun ls hl => ?_)
      refine lv_goto (tgt := 5) hx hb dX8_neighbours_34 (by decide) ?_
      exact hv _ _ ls hP hS (lv_sub hl [0, 1, 2, 3, 4] rfl)
    · have hv := hv.2 hc
      refine lv_iconst (v := z_i 1) hx hb dX8_neighbours_24 rfl ?_
      refine lv_goto (tgt := 29) hx hb dX8_neighbours_25 (by decide) ?_
      refine lx_iadd hx hb dX8_neighbours_29 ?_
      refine lv_istore_n (lv' := [(3, .int (z_i (x5_3 + 1))), (4, .int (z_i x5_4)), (0, .ref y), (1, .int (z_i gi)), (2, .int (z_i n))]) hx hb dX8_neighbours_30 rfl hl (by decide) rfl (fun ls hl => ?_)
      refine lv_iinc (v := z_i (x5_4 + 1)) (lv' := [(4, .int (z_i (x5_4 + 1))), (3, .int (z_i (x5_3 + 1))), (0, .ref y), (1, .int (z_i gi)), (2, .int (z_i n))]) hx hb dX8_neighbours_31 hl (k := 1) rfl (z_i_add _ _) (by decide) rfl (fun ls hl => ?_)
      refine lv_goto (tgt := 5) hx hb dX8_neighbours_34 (by decide) ?_
      exact hv _ _ ls hP hS (lv_sub hl [0, 1, 2, 3, 4] rfl)
set_option maxHeartbeats 4000000 in
set_option maxRecDepth 100000 in
theorem mt_X8_neighbours (l : Launch) (D : va_G) (cA : Nat → ClassId) (y : Nat) (y_space : Nat) (y_offset : Nat) (y_length : Nat) (y_units : Nat) (ya_isThere : Nat) (y_isThere : Nat → Int32) (y_levels : Int) (y_level : Nat) (y_lines : Int) (y_lineLevel : Nat) (y_lineUnits : Nat) (y_lineFrom : Nat) (y_lineMany : Nat) (y_isClosed : Nat) (y_insides : Nat) (y_parent : Nat) (y_isHigh : Nat) (y_inBits : Nat) (y_sides : Int) (y_side : Nat) (y_sideA : Nat) (y_sideB : Nat) (y_lineSpace : Int) (y_wasThere : Nat) (y_leads : Nat) (y_isLed : Nat) (y_isOn : Nat) (y_goesTo : Nat) (y_stream : Nat) (y_filled : Nat) (y_isDone : Nat) (y_isReached : Nat) (y_newUnits : Nat) (y_isNew : Nat) (gi : Int) (n : Int) (h_y_levels : z_in y_levels) (h_y_lines : z_in y_lines) (h_y_sides : z_in y_sides) (h_y_lineSpace : z_in y_lineSpace) (h_gi : z_in gi) (h_n : z_in n) (hp1 : 0 ≤ gi ∧ gi < 4) (hp2 : 0 ≤ n ∧ n < 1280) : Met l yX8_neighbours wsX8_neighbours ({ frames := 3, cells := 0, slots := 0, locals := 70 } : Room) (va_Pc [.ref y, .int (z_i gi), .int (z_i n)] (z_B0 D cA [(y, .inr (6, [.ref y_space, .ref y_offset, .ref y_length, .ref y_units, .ref ya_isThere, .int (z_i y_levels), .ref y_level, .int (z_i y_lines), .ref y_lineLevel, .ref y_lineUnits, .ref y_lineFrom, .ref y_lineMany, .ref y_isClosed, .ref y_insides, .ref y_parent, .ref y_isHigh, .ref y_inBits, .int (z_i y_sides), .ref y_side, .ref y_sideA, .ref y_sideB, .int (z_i y_lineSpace), .ref y_wasThere, .ref y_leads, .ref y_isLed, .ref y_isOn, .ref y_goesTo, .ref y_stream, .ref y_filled, .ref y_isDone, .ref y_isReached, .ref y_newUnits, .ref y_isNew])), (ya_isThere, .inl (cA 3, 5120, .inl y_isThere))])) (va_Qi (z_ri (fun (r : Int) => r = m_nc (q_th y_isThere gi) n)) (fun _ _ => True) (fun _ => False)) 0 0 (fun _ => False) := by
  refine wk_X8_neighbours l D cA y y_space y_offset y_length y_units ya_isThere y_isThere y_levels y_level y_lines y_lineLevel y_lineUnits y_lineFrom y_lineMany y_isClosed y_insides y_parent y_isHigh y_inBits y_sides y_side y_sideA y_sideB y_lineSpace y_wasThere y_leads y_isLed y_isOn y_goesTo y_stream y_filled y_isDone y_isReached y_newUnits y_isNew gi n h_y_levels h_y_lines h_y_sides h_y_lineSpace h_gi h_n (fun (r : Int) => r = m_nc (q_th y_isThere gi) n) ?_
  unfold vc_X8_neighbours
  intro L hL
  suffices H : ∀ (d k : Nat), k + d = 8 → L (k : Int) (m_ncK (q_th y_isThere gi) n k) from H 8 0 rfl
  intro d
  induction d with
  | zero =>
    intro k hk
    have hb := m_ncK_b (q_th y_isThere gi) n k
    refine hL _ _ ⟨by omega, by omega⟩ ⟨by omega, by omega⟩ ⟨fun _ => ?_, fun h => absurd h (by omega)⟩
    have : k = 8 := by omega
    subst this
    rfl
  | succ d ih =>
    intro k hk
    have hb := m_ncK_b (q_th y_isThere gi) n k
    refine hL _ _ ⟨by omega, by omega⟩ ⟨by omega, by omega⟩ ⟨fun h => absurd h (by omega), fun h => ⟨hp1, hp2, ⟨by omega, h⟩, ?_⟩⟩
    rintro r hr rfl
    have hm := m_nb_in (q_th y_isThere gi) n k
    have h9 := ih (k + 1) (by omega)
    unfold m_ncK at h9
    refine ⟨fun q => ?_, fun q => ?_⟩
    · rw [if_pos (by omega)] at h9; simpa using h9
    · rw [if_neg (by omega)] at h9; simpa using h9
def vc_X8_isAbove (y_units : Nat → Int32) (gi : Int) (n : Int) (o : Int) (Q : Int → Prop) : Prop :=
(0 ≤ (1280 * gi) + n ∧ (1280 * gi) + n < 5120) ∧ (∀ v2 : Int, v2 = z_g y_units ((1280 * gi) + n) → (0 ≤ (1280 * gi) + o ∧ (1280 * gi) + o < 5120) ∧ (∀ v5 : Int, v5 = z_g y_units ((1280 * gi) + o) → ((v2 > v5 → Q 1) ∧
(v2 ≤ v5 → ((v2 ≠ v5 → Q 0) ∧
(v2 = v5 → ((n ≤ o → Q 0) ∧
(n > o → Q 1))))))))
set_option maxHeartbeats 4000000 in
set_option maxRecDepth 100000 in
theorem wk_X8_isAbove (l : Launch) (D : va_G) (cA : Nat → ClassId) (y : Nat) (y_space : Nat) (y_offset : Nat) (y_length : Nat) (ya_units : Nat) (y_units : Nat → Int32) (y_isThere : Nat) (y_levels : Int) (y_level : Nat) (y_lines : Int) (y_lineLevel : Nat) (y_lineUnits : Nat) (y_lineFrom : Nat) (y_lineMany : Nat) (y_isClosed : Nat) (y_insides : Nat) (y_parent : Nat) (y_isHigh : Nat) (y_inBits : Nat) (y_sides : Int) (y_side : Nat) (y_sideA : Nat) (y_sideB : Nat) (y_lineSpace : Int) (y_wasThere : Nat) (y_leads : Nat) (y_isLed : Nat) (y_isOn : Nat) (y_goesTo : Nat) (y_stream : Nat) (y_filled : Nat) (y_isDone : Nat) (y_isReached : Nat) (y_newUnits : Nat) (y_isNew : Nat) (gi : Int) (n : Int) (o : Int) (h_y_levels : z_in y_levels) (h_y_lines : z_in y_lines) (h_y_sides : z_in y_sides) (h_y_lineSpace : z_in y_lineSpace) (h_gi : z_in gi) (h_n : z_in n) (h_o : z_in o) (Q : Int → Prop) (hv : vc_X8_isAbove y_units gi n o Q) : Met l yX8_isAbove wsX8_isAbove ({ frames := 0, cells := 0, slots := 0, locals := 0 } : Room) (va_Pc [.ref y, .int (z_i gi), .int (z_i n), .int (z_i o)] (z_B0 D cA [(y, .inr (6, [.ref y_space, .ref y_offset, .ref y_length, .ref ya_units, .ref y_isThere, .int (z_i y_levels), .ref y_level, .int (z_i y_lines), .ref y_lineLevel, .ref y_lineUnits, .ref y_lineFrom, .ref y_lineMany, .ref y_isClosed, .ref y_insides, .ref y_parent, .ref y_isHigh, .ref y_inBits, .int (z_i y_sides), .ref y_side, .ref y_sideA, .ref y_sideB, .int (z_i y_lineSpace), .ref y_wasThere, .ref y_leads, .ref y_isLed, .ref y_isOn, .ref y_goesTo, .ref y_stream, .ref y_filled, .ref y_isDone, .ref y_isReached, .ref y_newUnits, .ref y_isNew])), (ya_units, .inl (cA 1, 5120, .inl y_units))])) (va_Qi (z_ri Q) (fun _ _ => True) (fun _ => False)) 0 0 (fun _ => False) := by
  unfold vc_X8_isAbove at hv
  refine Met.ofW (cc := cX8_isAbove) (maxL := 6) (ret := (some .boolean)) (by decide +kernel) rfl ?_
  intro p e s m args below meth c s₁ B hml hv0
  obtain ⟨rfl, hK, hP⟩ := hv0
  have hx := B.exec
  have hb := B.bytes
  have hr := B.returns
  have hts := atoms_spec (ws := wsX8_isAbove) B.pre
  have hown : s.vm.findClass RX8 = some m.cls := findClass_of_methodNamed B.named
  have hlocks := B.notSynchronized
  have hS : va_S (fun _ : Nat => False) s.heap s.heap [] := va_S.rf
  have hl := lv_entry ([.ref y, .int (z_i gi), .int (z_i n), .int (z_i o)]) (n := 6) (Nat.le_of_ble_eq_true rfl)
  rw [lg_entry_eq]
  generalize (lg_sl ([.ref y, .int (z_i gi), .int (z_i n), .int (z_i o)]) ++ List.replicate (6 - (lg_sl ([.ref y, .int (z_i gi), .int (z_i n), .int (z_i o)])).length) Slot.unset).toArray = ls at hl ⊢
  have hl : lv_has ls 6 [(0, .ref y), (1, .int (z_i gi)), (2, .int (z_i n)), (3, .int (z_i o))] := hl
  refine lv_aload_n hx hb dX8_isAbove_0 rfl (lv_at hl 0 rfl) ?_
  refine va_get (D := D) (ci := 6) (v := .ref ya_units) (C := RX8) (T := TX8) (N := 33) hx hb hts (fun w h => List.mem_cons_of_mem _ (List.mem_append_right _ h)) hown hK hP 0 rfl rfl 3 (by decide) (hts (.fieldLink RX8 19 "ContourSheetsModel" "units" "[I") (by decide +kernel)) (fun _ h9 => h9) rfl dX8_isAbove_1 ?_
  refine lv_sipush (v := z_i 1280) hx hb dX8_isAbove_4 (by decide) ?_
  refine lv_iload_n hx hb dX8_isAbove_7 rfl (lv_at hl 1 rfl) ?_
  refine lx_imul hx hb dX8_isAbove_8 ?_
  refine lv_iload_n hx hb dX8_isAbove_9 rfl (lv_at hl 2 rfl) ?_
  refine lx_iadd hx hb dX8_isAbove_10 ?_
  obtain ⟨hi1, hv⟩ := hv
  refine lx_iald hx hb hK hP 1 1 rfl rfl (by decide) hi1.1 hi1.2 dX8_isAbove_11 ?_
  refine lx_topi (fun v2 hy3 => ?_)
  have hv := hv v2 hy3
  have h_v2 : z_in v2 := by rw [hy3]; exact (z_in_g _ _)
  refine lv_istore (lv' := [(4, .int (z_i v2)), (0, .ref y), (1, .int (z_i gi)), (2, .int (z_i n)), (3, .int (z_i o))]) hx hb dX8_isAbove_12 hl (by decide) rfl (fun ls hl => ?_)
  refine lv_aload_n hx hb dX8_isAbove_14 rfl (lv_at hl 1 rfl) ?_
  refine va_get (D := D) (ci := 6) (v := .ref ya_units) (C := RX8) (T := TX8) (N := 33) hx hb hts (fun w h => List.mem_cons_of_mem _ (List.mem_append_right _ h)) hown hK hP 0 rfl rfl 3 (by decide) (hts (.fieldLink RX8 19 "ContourSheetsModel" "units" "[I") (by decide +kernel)) (fun _ h9 => h9) rfl dX8_isAbove_15 ?_
  refine lv_sipush (v := z_i 1280) hx hb dX8_isAbove_18 (by decide) ?_
  refine lv_iload_n hx hb dX8_isAbove_21 rfl (lv_at hl 2 rfl) ?_
  refine lx_imul hx hb dX8_isAbove_22 ?_
  refine lv_iload_n hx hb dX8_isAbove_23 rfl (lv_at hl 4 rfl) ?_
  refine lx_iadd hx hb dX8_isAbove_24 ?_
  obtain ⟨hi4, hv⟩ := hv
  refine lx_iald hx hb hK hP 1 1 rfl rfl (by decide) hi4.1 hi4.2 dX8_isAbove_25 ?_
  refine lx_topi (fun v5 hy6 => ?_)
  have hv := hv v5 hy6
  have h_v5 : z_in v5 := by rw [hy6]; exact (z_in_g _ _)
  refine lv_istore (lv' := [(5, .int (z_i v5)), (4, .int (z_i v2)), (0, .ref y), (1, .int (z_i gi)), (2, .int (z_i n)), (3, .int (z_i o))]) hx hb dX8_isAbove_26 hl (by decide) rfl (fun ls hl => ?_)
  refine lv_iload hx hb dX8_isAbove_28 (lv_at hl 1 rfl) ?_
  refine lv_iload hx hb dX8_isAbove_30 (lv_at hl 0 rfl) ?_
  refine lx_icmp_gt (tgt := 47) hx hb dX8_isAbove_32 (by decide) h_v2 h_v5 (fun hc => ?_) (fun hc => ?_)
  · have hv := hv.1 hc
    refine lv_iconst (v := z_i 1) hx hb dX8_isAbove_47 rfl ?_
    refine lv_goto (tgt := 52) hx hb dX8_isAbove_48 (by decide) ?_
    exact W.zret (v := z_i 1) hx hb hr (by decide) (fun t ht hW => ⟨⟨z_i 1, (), rfl, ⟨1, rfl, (show z_in 1 from ⟨by decide, by decide⟩), hv⟩, trivial⟩, hS.F ht⟩) hS.2.2 dX8_isAbove_52
  · have hv := hv.2 hc
    refine lv_iload hx hb dX8_isAbove_35 (lv_at hl 1 rfl) ?_
    refine lv_iload hx hb dX8_isAbove_37 (lv_at hl 0 rfl) ?_
    refine lx_icmp_ne (tgt := 51) hx hb dX8_isAbove_39 (by decide) h_v2 h_v5 (fun hc => ?_) (fun hc => ?_)
    · have hv := hv.1 hc
      refine lv_iconst (v := z_i 0) hx hb dX8_isAbove_51 rfl ?_
      exact W.zret (v := z_i 0) hx hb hr (by decide) (fun t ht hW => ⟨⟨z_i 0, (), rfl, ⟨0, rfl, (show z_in 0 from ⟨by decide, by decide⟩), hv⟩, trivial⟩, hS.F ht⟩) hS.2.2 dX8_isAbove_52
    · have hv := hv.2 hc
      refine lv_iload_n hx hb dX8_isAbove_42 rfl (lv_at hl 4 rfl) ?_
      refine lv_iload_n hx hb dX8_isAbove_43 rfl (lv_at hl 5 rfl) ?_
      refine lx_icmp_le (tgt := 51) hx hb dX8_isAbove_44 (by decide) h_n h_o (fun hc => ?_) (fun hc => ?_)
      · have hv := hv.1 hc
        refine lv_iconst (v := z_i 0) hx hb dX8_isAbove_51 rfl ?_
        exact W.zret (v := z_i 0) hx hb hr (by decide) (fun t ht hW => ⟨⟨z_i 0, (), rfl, ⟨0, rfl, (show z_in 0 from ⟨by decide, by decide⟩), hv⟩, trivial⟩, hS.F ht⟩) hS.2.2 dX8_isAbove_52
      · have hv := hv.2 hc
        refine lv_iconst (v := z_i 1) hx hb dX8_isAbove_47 rfl ?_
        refine lv_goto (tgt := 52) hx hb dX8_isAbove_48 (by decide) ?_
        exact W.zret (v := z_i 1) hx hb hr (by decide) (fun t ht hW => ⟨⟨z_i 1, (), rfl, ⟨1, rfl, (show z_in 1 from ⟨by decide, by decide⟩), hv⟩, trivial⟩, hS.F ht⟩) hS.2.2 dX8_isAbove_52
set_option maxHeartbeats 4000000 in
set_option maxRecDepth 100000 in
theorem mt_X8_isAbove (l : Launch) (D : va_G) (cA : Nat → ClassId) (y : Nat) (y_space : Nat) (y_offset : Nat) (y_length : Nat) (ya_units : Nat) (y_units : Nat → Int32) (y_isThere : Nat) (y_levels : Int) (y_level : Nat) (y_lines : Int) (y_lineLevel : Nat) (y_lineUnits : Nat) (y_lineFrom : Nat) (y_lineMany : Nat) (y_isClosed : Nat) (y_insides : Nat) (y_parent : Nat) (y_isHigh : Nat) (y_inBits : Nat) (y_sides : Int) (y_side : Nat) (y_sideA : Nat) (y_sideB : Nat) (y_lineSpace : Int) (y_wasThere : Nat) (y_leads : Nat) (y_isLed : Nat) (y_isOn : Nat) (y_goesTo : Nat) (y_stream : Nat) (y_filled : Nat) (y_isDone : Nat) (y_isReached : Nat) (y_newUnits : Nat) (y_isNew : Nat) (gi : Int) (n : Int) (o : Int) (h_y_levels : z_in y_levels) (h_y_lines : z_in y_lines) (h_y_sides : z_in y_sides) (h_y_lineSpace : z_in y_lineSpace) (h_gi : z_in gi) (h_n : z_in n) (h_o : z_in o) (hp1 : 0 ≤ gi ∧ gi < 4) (hp2 : 0 ≤ n ∧ n < 1280) (hp3 : 0 ≤ o ∧ o < 1280) : Met l yX8_isAbove wsX8_isAbove ({ frames := 0, cells := 0, slots := 0, locals := 0 } : Room) (va_Pc [.ref y, .int (z_i gi), .int (z_i n), .int (z_i o)] (z_B0 D cA [(y, .inr (6, [.ref y_space, .ref y_offset, .ref y_length, .ref ya_units, .ref y_isThere, .int (z_i y_levels), .ref y_level, .int (z_i y_lines), .ref y_lineLevel, .ref y_lineUnits, .ref y_lineFrom, .ref y_lineMany, .ref y_isClosed, .ref y_insides, .ref y_parent, .ref y_isHigh, .ref y_inBits, .int (z_i y_sides), .ref y_side, .ref y_sideA, .ref y_sideB, .int (z_i y_lineSpace), .ref y_wasThere, .ref y_leads, .ref y_isLed, .ref y_isOn, .ref y_goesTo, .ref y_stream, .ref y_filled, .ref y_isDone, .ref y_isReached, .ref y_newUnits, .ref y_isNew])), (ya_units, .inl (cA 1, 5120, .inl y_units))])) (va_Qi (z_ri (fun (r : Int) => r = z_b (m_ab (fun q => z_g y_units (1280 * gi + q)) n o))) (fun _ _ => True) (fun _ => False)) 0 0 (fun _ => False) := by
  refine wk_X8_isAbove l D cA y y_space y_offset y_length ya_units y_units y_isThere y_levels y_level y_lines y_lineLevel y_lineUnits y_lineFrom y_lineMany y_isClosed y_insides y_parent y_isHigh y_inBits y_sides y_side y_sideA y_sideB y_lineSpace y_wasThere y_leads y_isLed y_isOn y_goesTo y_stream y_filled y_isDone y_isReached y_newUnits y_isNew gi n o h_y_levels h_y_lines h_y_sides h_y_lineSpace h_gi h_n h_o (fun (r : Int) => r = z_b (m_ab (fun q => z_g y_units (1280 * gi + q)) n o)) ?_
  unfold vc_X8_isAbove
  refine ⟨⟨by omega, by omega⟩, ?_⟩
  rintro v2 h2
  refine ⟨⟨by omega, by omega⟩, ?_⟩
  rintro v5 h5
  have e : m_ab (fun q => z_g y_units (1280 * gi + q)) n o = decide (v2 > v5 ∨ (v2 = v5 ∧ n > o)) := by rw [h2, h5]; rfl
  rw [e]
  refine ⟨fun q => ?_, fun q => ⟨fun q1 => ?_, fun q1 => ⟨fun q2 => ?_, fun q2 => ?_⟩⟩⟩
  · rw [decide_eq_true (Or.inl q)]; rfl
  · rw [decide_eq_false (by omega)]; rfl
  · rw [decide_eq_false (by omega)]; rfl
  · rw [decide_eq_true (Or.inr ⟨q1, q2⟩)]; rfl
def vc_X8_flow (y_units : Nat → Int32) (y_isThere : Nat → Int32) (gi : Int) (n : Int) (Q : Int → Prop) : Prop :=
(∀ L8 : Int → Int → Int → Prop,
(∀ (x8_6 : Int) (x8_4 : Int) (x8_3 : Int), z_in x8_6 → z_nl x8_4 → z_in x8_3 → ((x8_6 ≥ 8 → Q x8_3) ∧
(x8_6 < 8 → (0 ≤ gi ∧ gi < 4) ∧ (0 ≤ n ∧ n < 1280) ∧ (0 ≤ x8_6 ∧ x8_6 < 8) ∧ (∀ (r4 : Int), z_in r4 → (r4 = m_nb (q_th y_isThere gi) n x8_6) → ((r4 ≥ 0 → (0 ≤ (1280 * gi) + n ∧ (1280 * gi) + n < 5120) ∧ (0 ≤ (1280 * gi) + r4 ∧ (1280 * gi) + r4 < 5120) ∧ z_nl ((z_g y_units ((1280 * gi) + n)) - (z_g y_units ((1280 * gi) + r4))) ∧ (∀ v7 : Int, v7 = (z_g y_units ((1280 * gi) + n)) - (z_g y_units ((1280 * gi) + r4)) → ((v7 > 0 → (0 ≤ x8_6 ∧ x8_6 < 8) ∧ (∀ (r11 : Int), z_in r11 → (r11 = z_rs x8_6.toNat) → ((r11 = 0 → z_nl ((2 * v7) * v7) ∧ (∀ v12 : Int, v12 = (2 * v7) * v7 → ((v12 > x8_4 → L8 (x8_6 + 1) v12 r4) ∧
(v12 ≤ x8_4 → ((v12 ≠ x8_4 → L8 (x8_6 + 1) x8_4 x8_3) ∧
(v12 = x8_4 → ((r4 ≥ x8_3 → L8 (x8_6 + 1) x8_4 x8_3) ∧
(r4 < x8_3 → L8 (x8_6 + 1) v12 r4)))))))) ∧
(r11 ≠ 0 → (0 ≤ x8_6 ∧ x8_6 < 8) ∧ (∀ (r16 : Int), z_in r16 → (r16 = z_cs x8_6.toNat) → ((r16 ≠ 0 → z_nl (v7 * v7) ∧ (∀ v17 : Int, v17 = v7 * v7 → ((v17 > x8_4 → L8 (x8_6 + 1) v17 r4) ∧
(v17 ≤ x8_4 → ((v17 ≠ x8_4 → L8 (x8_6 + 1) x8_4 x8_3) ∧
(v17 = x8_4 → ((r4 ≥ x8_3 → L8 (x8_6 + 1) x8_4 x8_3) ∧
(r4 < x8_3 → L8 (x8_6 + 1) v17 r4)))))))) ∧
(r16 = 0 → z_nl ((2 * v7) * v7) ∧ (∀ v20 : Int, v20 = (2 * v7) * v7 → ((v20 > x8_4 → L8 (x8_6 + 1) v20 r4) ∧
(v20 ≤ x8_4 → ((v20 ≠ x8_4 → L8 (x8_6 + 1) x8_4 x8_3) ∧
(v20 = x8_4 → ((r4 ≥ x8_3 → L8 (x8_6 + 1) x8_4 x8_3) ∧
(r4 < x8_3 → L8 (x8_6 + 1) v20 r4)))))))))))))) ∧
(v7 ≤ 0 → L8 (x8_6 + 1) x8_4 x8_3)))) ∧
(r4 < 0 → L8 (x8_6 + 1) x8_4 x8_3))))) → L8 x8_6 x8_4 x8_3) →
L8 0 0 (-1))
set_option maxHeartbeats 4000000 in
set_option maxRecDepth 100000 in
theorem wk_X8_flow (l : Launch) (D : va_G) (cA : Nat → ClassId) (y : Nat) (y_space : Nat) (y_offset : Nat) (y_length : Nat) (ya_units : Nat) (y_units : Nat → Int32) (ya_isThere : Nat) (y_isThere : Nat → Int32) (y_levels : Int) (y_level : Nat) (y_lines : Int) (y_lineLevel : Nat) (y_lineUnits : Nat) (y_lineFrom : Nat) (y_lineMany : Nat) (y_isClosed : Nat) (y_insides : Nat) (y_parent : Nat) (y_isHigh : Nat) (y_inBits : Nat) (y_sides : Int) (y_side : Nat) (y_sideA : Nat) (y_sideB : Nat) (y_lineSpace : Int) (y_wasThere : Nat) (y_leads : Nat) (y_isLed : Nat) (y_isOn : Nat) (y_goesTo : Nat) (y_stream : Nat) (y_filled : Nat) (y_isDone : Nat) (y_isReached : Nat) (y_newUnits : Nat) (y_isNew : Nat) (gi : Int) (n : Int) (h_y_levels : z_in y_levels) (h_y_lines : z_in y_lines) (h_y_sides : z_in y_sides) (h_y_lineSpace : z_in y_lineSpace) (h_gi : z_in gi) (h_n : z_in n) (Q : Int → Prop) (hv : vc_X8_flow y_units y_isThere gi n Q) : Met l yX8_flow wsX8_flow ({ frames := 3, cells := 0, slots := 0, locals := 70 } : Room) (va_Pc [.ref y, .int (z_i gi), .int (z_i n)] (z_B0 D cA [(y, .inr (6, [.ref y_space, .ref y_offset, .ref y_length, .ref ya_units, .ref ya_isThere, .int (z_i y_levels), .ref y_level, .int (z_i y_lines), .ref y_lineLevel, .ref y_lineUnits, .ref y_lineFrom, .ref y_lineMany, .ref y_isClosed, .ref y_insides, .ref y_parent, .ref y_isHigh, .ref y_inBits, .int (z_i y_sides), .ref y_side, .ref y_sideA, .ref y_sideB, .int (z_i y_lineSpace), .ref y_wasThere, .ref y_leads, .ref y_isLed, .ref y_isOn, .ref y_goesTo, .ref y_stream, .ref y_filled, .ref y_isDone, .ref y_isReached, .ref y_newUnits, .ref y_isNew])), (ya_units, .inl (cA 1, 5120, .inl y_units)), (ya_isThere, .inl (cA 3, 5120, .inl y_isThere))])) (va_Qi (z_ri Q) (fun _ _ => True) (fun _ => False)) 0 0 (fun _ => False) := by
  unfold vc_X8_flow at hv
  refine Met.ofW (cc := cX8_flow) (maxL := 12) (ret := (some .int)) (by decide +kernel) rfl ?_
  intro p e s m args below meth c s₁ B hml hv0
  obtain ⟨rfl, hK, hP⟩ := hv0
  have hx := B.exec
  have hb := B.bytes
  have hr := B.returns
  have hts := atoms_spec (ws := wsX8_flow) B.pre
  have hown : s.vm.findClass RX8 = some m.cls := findClass_of_methodNamed B.named
  have hlocks := B.notSynchronized
  have hS : va_S (fun _ : Nat => False) s.heap s.heap [] := va_S.rf
  have hl := lv_entry ([.ref y, .int (z_i gi), .int (z_i n)]) (n := 12) (Nat.le_of_ble_eq_true rfl)
  rw [lg_entry_eq]
  generalize (lg_sl ([.ref y, .int (z_i gi), .int (z_i n)]) ++ List.replicate (12 - (lg_sl ([.ref y, .int (z_i gi), .int (z_i n)])).length) Slot.unset).toArray = ls at hl ⊢
  have hl : lv_has ls 12 [(0, .ref y), (1, .int (z_i gi)), (2, .int (z_i n))] := hl
  refine lv_iconst (v := z_i (-1)) hx hb dX8_flow_0 rfl ?_
  refine lv_istore_n (lv' := [(3, .int (z_i (-1))), (0, .ref y), (1, .int (z_i gi)), (2, .int (z_i n))]) hx hb dX8_flow_1 rfl hl (by decide) rfl (fun ls hl => ?_)
  refine lv_lconst (v := z_l 0) hx hb dX8_flow_2 (by decide) ?_
  refine lv_lstore (lv' := [(4, .long (z_l 0)), (3, .int (z_i (-1))), (0, .ref y), (1, .int (z_i gi)), (2, .int (z_i n))]) hx hb dX8_flow_3 hl (by decide) rfl (fun ls hl => ?_)
  refine lv_iconst (v := z_i 0) hx hb dX8_flow_5 rfl ?_
  refine lv_istore (lv' := [(6, .int (z_i 0)), (4, .long (z_l 0)), (3, .int (z_i (-1))), (0, .ref y), (1, .int (z_i gi)), (2, .int (z_i n))]) hx hb dX8_flow_6 hl (by decide) rfl (fun ls hl => ?_)
  refine hv (fun (x8_6 : Int) (x8_4 : Int) (x8_3 : Int) => ∀ (H : Heap) (locs : List Loc) (ls : Array Slot), va_P D vwCl [(y, .inr (6, [.ref y_space, .ref y_offset, .ref y_length, .ref ya_units, .ref ya_isThere, .int (z_i y_levels), .ref y_level, .int (z_i y_lines), .ref y_lineLevel, .ref y_lineUnits, .ref y_lineFrom, .ref y_lineMany, .ref y_isClosed, .ref y_insides, .ref y_parent, .ref y_isHigh, .ref y_inBits, .int (z_i y_sides), .ref y_side, .ref y_sideA, .ref y_sideB, .int (z_i y_lineSpace), .ref y_wasThere, .ref y_leads, .ref y_isLed, .ref y_isOn, .ref y_goesTo, .ref y_stream, .ref y_filled, .ref y_isDone, .ref y_isReached, .ref y_newUnits, .ref y_isNew])), (ya_units, .inl (cA 1, 5120, .inl y_units)), (ya_isThere, .inl (cA 3, 5120, .inl y_isThere))] H → va_S (fun _ : Nat => False) s.heap H locs → lv_has ls 12 [(6, .int (z_i x8_6)), (4, .long (z_l x8_4)), (3, .int (z_i x8_3)), (0, .ref y), (1, .int (z_i gi)), (2, .int (z_i n))] → W p l e _ s m _ below meth c H locs 0 0 _ (F0 m 8 ls [])) ?_ _ _ ls hP hS (lv_sub hl [0, 1, 2, 3, 4, 5] rfl)
  intro x8_6 x8_4 x8_3 h_x8_6 h_x8_4 h_x8_3 hv H locs ls hP hS hl
  refine lv_iload hx hb dX8_flow_8 (lv_at hl 0 rfl) ?_
  refine lv_bipush (v := z_i 8) hx hb dX8_flow_10 (by decide) ?_
  refine lx_icmp_ge (tgt := 144) hx hb dX8_flow_12 (by decide) h_x8_6 (show z_in 8 from ⟨by decide, by decide⟩) (fun hc => ?_) (fun hc => ?_)
  · have hv := hv.1 hc
    refine lv_iload_n hx hb dX8_flow_144 rfl (lv_at hl 2 rfl) ?_
    exact W.iret (v := z_i x8_3) hx hb hr (fun t ht hW => ⟨⟨z_i x8_3, (), rfl, ⟨x8_3, rfl, h_x8_3, hv⟩, trivial⟩, hS.F ht⟩) hS.2.2 dX8_flow_145
  · have hv := hv.2 hc
    refine lv_aload_n hx hb dX8_flow_15 rfl (lv_at hl 3 rfl) ?_
    refine lv_iload_n hx hb dX8_flow_16 rfl (lv_at hl 4 rfl) ?_
    refine lv_iload_n hx hb dX8_flow_17 rfl (lv_at hl 5 rfl) ?_
    refine lv_iload hx hb dX8_flow_18 (lv_at hl 0 rfl) ?_
    obtain ⟨hp1, hv⟩ := hv
    obtain ⟨hp2, hv⟩ := hv
    obtain ⟨hp3, hv⟩ := hv
    refine va_calli (va_runV (As := [.int (z_i gi), .int (z_i n), .int (z_i x8_6)]) (rest := []) ⟨hx, hb, hml, hown, hts⟩ (mt_X8_neighbour l D cA y y_space y_offset y_length ya_units ya_isThere y_isThere y_levels y_level y_lines y_lineLevel y_lineUnits y_lineFrom y_lineMany y_isClosed y_insides y_parent y_isHigh y_inBits y_sides y_side y_sideA y_sideB y_lineSpace y_wasThere y_leads y_isLed y_isOn y_goesTo y_stream y_filled y_isDone y_isReached y_newUnits y_isNew gi n x8_6 h_y_levels h_y_lines h_y_sides h_y_lineSpace h_gi h_n h_x8_6 hp1 hp2 hp3) (cwV 3 hts gX8_flow_X8_neighbour rfl rfl rfl (by decide +kernel) ⟨Nat.le_of_ble_eq_true rfl, Nat.le_of_ble_eq_true rfl⟩) ⟨z_bl0, va_recv hK hP (ci := 6) (q0 := 0) rfl rfl, fun U hU hW => ⟨rfl, z_b0 hK (hP.sub (ws' := [(y, .inr (6, [.ref y_space, .ref y_offset, .ref y_length, .ref ya_units, .ref ya_isThere, .int (z_i y_levels), .ref y_level, .int (z_i y_lines), .ref y_lineLevel, .ref y_lineUnits, .ref y_lineFrom, .ref y_lineMany, .ref y_isClosed, .ref y_insides, .ref y_parent, .ref y_isHigh, .ref y_inBits, .int (z_i y_sides), .ref y_side, .ref y_sideA, .ref y_sideB, .int (z_i y_lineSpace), .ref y_wasThere, .ref y_leads, .ref y_isLed, .ref y_isOn, .ref y_goesTo, .ref y_stream, .ref y_filled, .ref y_isDone, .ref y_isReached, .ref y_newUnits, .ref y_isNew])), (ya_isThere, .inl (cA 3, 5120, .inl y_isThere))]) [0, 2] rfl) hU hW⟩⟩ rfl rfl hl.1 rfl (lv_room (Nat.le_of_ble_eq_true rfl)) dX8_flow_20 ⟨Nat.zero_le _, Nat.zero_le _⟩) hS (fun q _ h => h.elim) (fun q h => h.elim) (fun r0 u t H locs ht hvm hw hB hz1 hk1 hS => ?_)
    obtain ⟨r4, rfl, h_r4, hw⟩ := hw
    have hP := z_P_all hP hk1
    have hv := hv r4 h_r4 hw
    refine lv_istore (lv' := [(7, .int (z_i r4)), (6, .int (z_i x8_6)), (4, .long (z_l x8_4)), (3, .int (z_i x8_3)), (0, .ref y), (1, .int (z_i gi)), (2, .int (z_i n))]) hx hb dX8_flow_23 hl (by decide) rfl (fun ls hl => ?_)
    refine lv_iload hx hb dX8_flow_25 (lv_at hl 0 rfl) ?_
    refine lx_if_ge (tgt := 34) hx hb dX8_flow_27 (by decide) h_r4 (fun hc => ?_) (fun hc => ?_)
    · have hv := hv.1 hc
      refine lv_aload_n hx hb dX8_flow_34 rfl (lv_at hl 4 rfl) ?_
      refine va_get (D := D) (ci := 6) (v := .ref ya_units) (C := RX8) (T := TX8) (N := 33) hx hb hts (fun w h => List.mem_cons_of_mem _ (List.mem_append_right _ h)) hown hK hP 0 rfl rfl 3 (by decide) (hts (.fieldLink RX8 19 "ContourSheetsModel" "units" "[I") (by decide +kernel)) (fun _ h9 => h9) rfl dX8_flow_35 ?_
      refine lv_sipush (v := z_i 1280) hx hb dX8_flow_38 (by decide) ?_
      refine lv_iload_n hx hb dX8_flow_41 rfl (lv_at hl 5 rfl) ?_
      refine lx_imul hx hb dX8_flow_42 ?_
      refine lv_iload_n hx hb dX8_flow_43 rfl (lv_at hl 6 rfl) ?_
      refine lx_iadd hx hb dX8_flow_44 ?_
      obtain ⟨hi5, hv⟩ := hv
      refine lx_iald hx hb hK hP 1 1 rfl rfl (by decide) hi5.1 hi5.2 dX8_flow_45 ?_
      refine lx_i2l hx hb dX8_flow_46 (z_in_g _ _) ?_
      refine lv_aload_n hx hb dX8_flow_47 rfl (lv_at hl 4 rfl) ?_
      refine va_get (D := D) (ci := 6) (v := .ref ya_units) (C := RX8) (T := TX8) (N := 33) hx hb hts (fun w h => List.mem_cons_of_mem _ (List.mem_append_right _ h)) hown hK hP 0 rfl rfl 3 (by decide) (hts (.fieldLink RX8 19 "ContourSheetsModel" "units" "[I") (by decide +kernel)) (fun _ h9 => h9) rfl dX8_flow_48 ?_
      refine lv_sipush (v := z_i 1280) hx hb dX8_flow_51 (by decide) ?_
      refine lv_iload_n hx hb dX8_flow_54 rfl (lv_at hl 5 rfl) ?_
      refine lx_imul hx hb dX8_flow_55 ?_
      refine lv_iload hx hb dX8_flow_56 (lv_at hl 0 rfl) ?_
      refine lx_iadd hx hb dX8_flow_58 ?_
      obtain ⟨hi6, hv⟩ := hv
      refine lx_iald hx hb hK hP 1 1 rfl rfl (by decide) hi6.1 hi6.2 dX8_flow_59 ?_
      refine lx_i2l hx hb dX8_flow_60 (z_in_g _ _) ?_
      refine lx_lsub hx hb dX8_flow_61 ?_
      obtain ⟨hr8, hv⟩ := hv
      refine lx_topl (fun v7 hy9 => ?_)
      have hv := hv v7 hy9
      have h_v7 : z_nl v7 := by rw [hy9]; exact hr8
      refine lv_lstore (lv' := [(8, .long (z_l v7)), (7, .int (z_i r4)), (6, .int (z_i x8_6)), (4, .long (z_l x8_4)), (3, .int (z_i x8_3)), (0, .ref y), (1, .int (z_i gi)), (2, .int (z_i n))]) hx hb dX8_flow_62 hl (by decide) rfl (fun ls hl => ?_)
      refine lv_lload hx hb dX8_flow_64 (lv_at hl 0 rfl) ?_
      refine lv_lconst (v := z_l 0) hx hb dX8_flow_66 (by decide) ?_
      refine lx_lcmp hx hb dX8_flow_67 h_v7 (show z_nl 0 from ⟨by decide, by decide⟩) ?_
      refine lx_if_gt (tgt := 74) hx hb dX8_flow_68 (by decide) (z_in_cmp _ _) (fun hc => ?_) (fun hc => ?_)
      · have hv := hv.1 (z_cmp_gt.mp hc)
        refine lv_iload hx hb dX8_flow_74 (lv_at hl 2 rfl) ?_
        obtain ⟨hp10, hv⟩ := hv
        refine va_calli (va_runS (As := [.int (z_i x8_6)]) (rest := []) ⟨hx, hb, hml, hown, hts⟩ (mt_X8_downOf l D cA x8_6 h_x8_6 hp10) (va_cwS 1 hts gX8_flow_X8_downOf rfl rfl rfl (by decide +kernel) ⟨Nat.le_of_ble_eq_true rfl, Nat.le_of_ble_eq_true rfl⟩) ⟨z_bl0, fun U hU hW => ⟨rfl, z_b0 hK (hP.sub (ws' := []) [] rfl) hU hW⟩⟩ rfl rfl hl.1 rfl (lv_room (Nat.le_of_ble_eq_true rfl)) dX8_flow_76 ⟨Nat.zero_le _, Nat.zero_le _⟩) hS (fun q _ h => h.elim) (fun q h => h.elim) (fun r0 u t H locs ht hvm hw hB hz1 hk1 hS => ?_)
        obtain ⟨r11, rfl, h_r11, hw⟩ := hw
        have hP := z_P_all hP hk1
        have hv := hv r11 h_r11 hw
        refine lx_if_eq (tgt := 90) hx hb dX8_flow_79 (by decide) h_r11 (fun hc => ?_) (fun hc => ?_)
        · have hv := hv.1 hc
          refine lx_ldc2 (a := 2) hx hb hown (hts (.constantLong RX8 209 (2)) (by decide +kernel)) (by decide) dX8_flow_90 ?_
          refine lv_lload hx hb dX8_flow_93 (lv_at hl 0 rfl) ?_
          refine lx_lmul hx hb dX8_flow_95 ?_
          refine lv_lload hx hb dX8_flow_96 (lv_at hl 0 rfl) ?_
          refine lx_lmul hx hb dX8_flow_98 ?_
          refine lv_goto (tgt := 107) hx hb dX8_flow_99 (by decide) ?_
          obtain ⟨hr13, hv⟩ := hv
          refine lx_topl (fun v12 hy14 => ?_)
          have hv := hv v12 hy14
          have h_v12 : z_nl v12 := by rw [hy14]; exact hr13
          refine lv_lstore (lv' := [(10, .long (z_l v12)), (8, .long (z_l v7)), (7, .int (z_i r4)), (6, .int (z_i x8_6)), (4, .long (z_l x8_4)), (3, .int (z_i x8_3)), (0, .ref y), (1, .int (z_i gi)), (2, .int (z_i n))]) hx hb dX8_flow_107 hl (by decide) rfl (fun ls hl => ?_)
          refine lv_lload hx hb dX8_flow_109 (lv_at hl 0 rfl) ?_
          refine lv_lload hx hb dX8_flow_111 (lv_at hl 4 rfl) ?_
          refine lx_lcmp hx hb dX8_flow_113 h_v12 h_x8_4 ?_
          refine lx_if_gt (tgt := 131) hx hb dX8_flow_114 (by decide) (z_in_cmp _ _) (fun hc => ?_) (fun hc => ?_)
          · have hv := hv.1 (z_cmp_gt.mp hc)
            refine lv_lload hx hb dX8_flow_131 (lv_at hl 0 rfl) ?_
            refine lv_lstore (lv' := [(4, .long (z_l v12)), (10, .long (z_l v12)), (8, .long (z_l v7)), (7, .int (z_i r4)), (6, .int (z_i x8_6)), (3, .int (z_i x8_3)), (0, .ref y), (1, .int (z_i gi)), (2, .int (z_i n))]) hx hb dX8_flow_133 hl (by decide) rfl (fun ls hl => ?_)
            refine lv_iload hx hb dX8_flow_135 (lv_at hl 3 rfl) ?_
            refine lv_istore_n (lv' := [(3, .int (z_i r4)), (4, .long (z_l v12)), (10, .long (z_l v12)), (8, .long (z_l v7)), (7, .int (z_i r4)), (6, .int (z_i x8_6)), (0, .ref y), (1, .int (z_i gi)), (2, .int (z_i n))]) hx hb dX8_flow_137 rfl hl (by decide) rfl (fun ls hl => ?_)
            refine lv_iinc (v := z_i (x8_6 + 1)) (lv' := [(6, .int (z_i (x8_6 + 1))), (3, .int (z_i r4)), (4, .long (z_l v12)), (10, .long (z_l v12)), (8, .long (z_l v7)), (7, .int (z_i r4)), (0, .ref y), (1, .int (z_i gi)), (2, .int (z_i n))]) hx hb dX8_flow_138 hl (k := 5) rfl (z_i_add _ _) (by decide) rfl (fun ls hl => ?_)
            refine lv_goto (tgt := 8) hx hb dX8_flow_141 (by decide) ?_
            exact hv _ _ ls hP hS (lv_sub hl [0, 2, 1, 6, 7, 8] rfl)
          · have hv := hv.2 (z_cmp_le.mp hc)
            refine lv_lload hx hb dX8_flow_117 (lv_at hl 0 rfl) ?_
            refine lv_lload hx hb dX8_flow_119 (lv_at hl 4 rfl) ?_
            refine lx_lcmp hx hb dX8_flow_121 h_v12 h_x8_4 ?_
            refine lx_if_ne (tgt := 138) hx hb dX8_flow_122 (by decide) (z_in_cmp _ _) (fun hc => ?_) (fun hc => ?_)
            · have hv := hv.1 (z_cmp_ne.mp hc)
              refine lv_iinc (v := z_i (x8_6 + 1)) (lv' := [(6, .int (z_i (x8_6 + 1))), (10, .long (z_l v12)), (8, .long (z_l v7)), (7, .int (z_i r4)), (4, .long (z_l x8_4)), (3, .int (z_i x8_3)), (0, .ref y), (1, .int (z_i gi)), (2, .int (z_i n))]) hx hb dX8_flow_138 hl (k := 3) rfl (z_i_add _ _) (by decide) rfl (fun ls hl => ?_)
              refine lv_goto (tgt := 8) hx hb dX8_flow_141 (by decide) ?_
              exact hv _ _ ls hP hS (lv_sub hl [0, 4, 5, 6, 7, 8] rfl)
            · have hv := hv.2 (z_cmp_eq.mp hc)
              refine lv_iload hx hb dX8_flow_125 (lv_at hl 2 rfl) ?_
              refine lv_iload_n hx hb dX8_flow_127 rfl (lv_at hl 5 rfl) ?_
              refine lx_icmp_ge (tgt := 138) hx hb dX8_flow_128 (by decide) h_r4 h_x8_3 (fun hc => ?_) (fun hc => ?_)
              · have hv := hv.1 hc
                refine lv_iinc (v := z_i (x8_6 + 1)) (lv' := [(6, .int (z_i (x8_6 + 1))), (10, .long (z_l v12)), (8, .long (z_l v7)), (7, .int (z_i r4)), (4, .long (z_l x8_4)), (3, .int (z_i x8_3)), (0, .ref y), (1, .int (z_i gi)), (2, .int (z_i n))]) hx hb dX8_flow_138 hl (k := 3) rfl (z_i_add _ _) (by decide) rfl (fun ls hl => ?_)
                refine lv_goto (tgt := 8) hx hb dX8_flow_141 (by decide) ?_
                exact hv _ _ ls hP hS (lv_sub hl [0, 4, 5, 6, 7, 8] rfl)
              · have hv := hv.2 hc
                refine lv_lload hx hb dX8_flow_131 (lv_at hl 0 rfl) ?_
                refine lv_lstore (lv' := [(4, .long (z_l v12)), (10, .long (z_l v12)), (8, .long (z_l v7)), (7, .int (z_i r4)), (6, .int (z_i x8_6)), (3, .int (z_i x8_3)), (0, .ref y), (1, .int (z_i gi)), (2, .int (z_i n))]) hx hb dX8_flow_133 hl (by decide) rfl (fun ls hl => ?_)
                refine lv_iload hx hb dX8_flow_135 (lv_at hl 3 rfl) ?_
                refine lv_istore_n (lv' := [(3, .int (z_i r4)), (4, .long (z_l v12)), (10, .long (z_l v12)), (8, .long (z_l v7)), (7, .int (z_i r4)), (6, .int (z_i x8_6)), (0, .ref y), (1, .int (z_i gi)), (2, .int (z_i n))]) hx hb dX8_flow_137 rfl hl (by decide) rfl (fun ls hl => ?_)
                refine lv_iinc (v := z_i (x8_6 + 1)) (lv' := [(6, .int (z_i (x8_6 + 1))), (3, .int (z_i r4)), (4, .long (z_l v12)), (10, .long (z_l v12)), (8, .long (z_l v7)), (7, .int (z_i r4)), (0, .ref y), (1, .int (z_i gi)), (2, .int (z_i n))]) hx hb dX8_flow_138 hl (k := 5) rfl (z_i_add _ _) (by decide) rfl (fun ls hl => ?_)
                refine lv_goto (tgt := 8) hx hb dX8_flow_141 (by decide) ?_
                exact hv _ _ ls hP hS (lv_sub hl [0, 2, 1, 6, 7, 8] rfl)
        · have hv := hv.2 hc
          refine lv_iload hx hb dX8_flow_82 (lv_at hl 2 rfl) ?_
          obtain ⟨hp15, hv⟩ := hv
          refine va_calli (va_runS (As := [.int (z_i x8_6)]) (rest := []) ⟨hx, hb, hml, hown, hts⟩ (mt_X8_alongOf l D cA x8_6 h_x8_6 hp15) (va_cwS 1 hts gX8_flow_X8_alongOf rfl rfl rfl (by decide +kernel) ⟨Nat.le_of_ble_eq_true rfl, Nat.le_of_ble_eq_true rfl⟩) ⟨z_bl0, fun U hU hW => ⟨rfl, z_b0 hK (hP.sub (ws' := []) [] rfl) hU hW⟩⟩ rfl rfl hl.1 rfl (lv_room (Nat.le_of_ble_eq_true rfl)) dX8_flow_84 ⟨Nat.zero_le _, Nat.zero_le _⟩) hS (fun q _ h => h.elim) (fun q h => h.elim) (fun r0 u t H locs ht hvm hw hB hz1 hk1 hS => ?_)
          obtain ⟨r16, rfl, h_r16, hw⟩ := hw
          have hP := z_P_all hP hk1
          have hv := hv r16 h_r16 hw
          refine lx_if_ne (tgt := 102) hx hb dX8_flow_87 (by decide) h_r16 (fun hc => ?_) (fun hc => ?_)
          · have hv := hv.1 hc
            refine lv_lload hx hb dX8_flow_102 (lv_at hl 0 rfl) ?_
            refine lv_lload hx hb dX8_flow_104 (lv_at hl 0 rfl) ?_
            refine lx_lmul hx hb dX8_flow_106 ?_
            obtain ⟨hr18, hv⟩ := hv
            refine lx_topl (fun v17 hy19 => ?_)
            have hv := hv v17 hy19
            have h_v17 : z_nl v17 := by rw [hy19]; exact hr18
            refine lv_lstore (lv' := [(10, .long (z_l v17)), (8, .long (z_l v7)), (7, .int (z_i r4)), (6, .int (z_i x8_6)), (4, .long (z_l x8_4)), (3, .int (z_i x8_3)), (0, .ref y), (1, .int (z_i gi)), (2, .int (z_i n))]) hx hb dX8_flow_107 hl (by decide) rfl (fun ls hl => ?_)
            refine lv_lload hx hb dX8_flow_109 (lv_at hl 0 rfl) ?_
            refine lv_lload hx hb dX8_flow_111 (lv_at hl 4 rfl) ?_
            refine lx_lcmp hx hb dX8_flow_113 h_v17 h_x8_4 ?_
            refine lx_if_gt (tgt := 131) hx hb dX8_flow_114 (by decide) (z_in_cmp _ _) (fun hc => ?_) (fun hc => ?_)
            · have hv := hv.1 (z_cmp_gt.mp hc)
              refine lv_lload hx hb dX8_flow_131 (lv_at hl 0 rfl) ?_
              refine lv_lstore (lv' := [(4, .long (z_l v17)), (10, .long (z_l v17)), (8, .long (z_l v7)), (7, .int (z_i r4)), (6, .int (z_i x8_6)), (3, .int (z_i x8_3)), (0, .ref y), (1, .int (z_i gi)), (2, .int (z_i n))]) hx hb dX8_flow_133 hl (by decide) rfl (fun ls hl => ?_)
              refine lv_iload hx hb dX8_flow_135 (lv_at hl 3 rfl) ?_
              refine lv_istore_n (lv' := [(3, .int (z_i r4)), (4, .long (z_l v17)), (10, .long (z_l v17)), (8, .long (z_l v7)), (7, .int (z_i r4)), (6, .int (z_i x8_6)), (0, .ref y), (1, .int (z_i gi)), (2, .int (z_i n))]) hx hb dX8_flow_137 rfl hl (by decide) rfl (fun ls hl => ?_)
              refine lv_iinc (v := z_i (x8_6 + 1)) (lv' := [(6, .int (z_i (x8_6 + 1))), (3, .int (z_i r4)), (4, .long (z_l v17)), (10, .long (z_l v17)), (8, .long (z_l v7)), (7, .int (z_i r4)), (0, .ref y), (1, .int (z_i gi)), (2, .int (z_i n))]) hx hb dX8_flow_138 hl (k := 5) rfl (z_i_add _ _) (by decide) rfl (fun ls hl => ?_)
              refine lv_goto (tgt := 8) hx hb dX8_flow_141 (by decide) ?_
              exact hv _ _ ls hP hS (lv_sub hl [0, 2, 1, 6, 7, 8] rfl)
            · have hv := hv.2 (z_cmp_le.mp hc)
              refine lv_lload hx hb dX8_flow_117 (lv_at hl 0 rfl) ?_
              refine lv_lload hx hb dX8_flow_119 (lv_at hl 4 rfl) ?_
              refine lx_lcmp hx hb dX8_flow_121 h_v17 h_x8_4 ?_
              refine lx_if_ne (tgt := 138) hx hb dX8_flow_122 (by decide) (z_in_cmp _ _) (fun hc => ?_) (fun hc => ?_)
              · have hv := hv.1 (z_cmp_ne.mp hc)
                refine lv_iinc (v := z_i (x8_6 + 1)) (lv' := [(6, .int (z_i (x8_6 + 1))), (10, .long (z_l v17)), (8, .long (z_l v7)), (7, .int (z_i r4)), (4, .long (z_l x8_4)), (3, .int (z_i x8_3)), (0, .ref y), (1, .int (z_i gi)), (2, .int (z_i n))]) hx hb dX8_flow_138 hl (k := 3) rfl (z_i_add _ _) (by decide) rfl (fun ls hl => ?_)
                refine lv_goto (tgt := 8) hx hb dX8_flow_141 (by decide) ?_
                exact hv _ _ ls hP hS (lv_sub hl [0, 4, 5, 6, 7, 8] rfl)
              · have hv := hv.2 (z_cmp_eq.mp hc)
                refine lv_iload hx hb dX8_flow_125 (lv_at hl 2 rfl) ?_
                refine lv_iload_n hx hb dX8_flow_127 rfl (lv_at hl 5 rfl) ?_
                refine lx_icmp_ge (tgt := 138) hx hb dX8_flow_128 (by decide) h_r4 h_x8_3 (fun hc => ?_) (fun hc => ?_)
                · have hv := hv.1 hc
                  refine lv_iinc (v := z_i (x8_6 + 1)) (lv' := [(6, .int (z_i (x8_6 + 1))), (10, .long (z_l v17)), (8, .long (z_l v7)), (7, .int (z_i r4)), (4, .long (z_l x8_4)), (3, .int (z_i x8_3)), (0, .ref y), (1, .int (z_i gi)), (2, .int (z_i n))]) hx hb dX8_flow_138 hl (k := 3) rfl (z_i_add _ _) (by decide) rfl (fun ls hl => ?_)
                  refine lv_goto (tgt := 8) hx hb dX8_flow_141 (by decide) ?_
                  exact hv _ _ ls hP hS (lv_sub hl [0, 4, 5, 6, 7, 8] rfl)
                · have hv := hv.2 hc
                  refine lv_lload hx hb dX8_flow_131 (lv_at hl 0 rfl) ?_
                  refine lv_lstore (lv' := [(4, .long (z_l v17)), (10, .long (z_l v17)), (8, .long (z_l v7)), (7, .int (z_i r4)), (6, .int (z_i x8_6)), (3, .int (z_i x8_3)), (0, .ref y), (1, .int (z_i gi)), (2, .int (z_i n))]) hx hb dX8_flow_133 hl (by decide) rfl (fun ls hl => ?_)
                  refine lv_iload hx hb dX8_flow_135 (lv_at hl 3 rfl) ?_
                  refine lv_istore_n (lv' := [(3, .int (z_i r4)), (4, .long (z_l v17)), (10, .long (z_l v17)), (8, .long (z_l v7)), (7, .int (z_i r4)), (6, .int (z_i x8_6)), (0, .ref y), (1, .int (z_i gi)), (2, .int (z_i n))]) hx hb dX8_flow_137 rfl hl (by decide) rfl (fun ls hl => ?_)
                  refine lv_iinc (v := z_i (x8_6 + 1)) (lv' := [(6, .int (z_i (x8_6 + 1))), (3, .int (z_i r4)), (4, .long (z_l v17)), (10, .long (z_l v17)), (8, .long (z_l v7)), (7, .int (z_i r4)), (0, .ref y), (1, .int (z_i gi)), (2, .int (z_i n))]) hx hb dX8_flow_138 hl (k := 5) rfl (z_i_add _ _) (by decide) rfl (fun ls hl => ?_)
                  refine lv_goto (tgt := 8) hx hb dX8_flow_141 (by decide) ?_
                  exact hv _ _ ls hP hS (lv_sub hl [0, 2, 1, 6, 7, 8] rfl)
          · have hv := hv.2 hc
            refine lx_ldc2 (a := 2) hx hb hown (hts (.constantLong RX8 209 (2)) (by decide +kernel)) (by decide) dX8_flow_90 ?_
            refine lv_lload hx hb dX8_flow_93 (lv_at hl 0 rfl) ?_
            refine lx_lmul hx hb dX8_flow_95 ?_
            refine lv_lload hx hb dX8_flow_96 (lv_at hl 0 rfl) ?_
            refine lx_lmul hx hb dX8_flow_98 ?_
            refine lv_goto (tgt := 107) hx hb dX8_flow_99 (by decide) ?_
            obtain ⟨hr21, hv⟩ := hv
            refine lx_topl (fun v20 hy22 => ?_)
            have hv := hv v20 hy22
            have h_v20 : z_nl v20 := by rw [hy22]; exact hr21
            refine lv_lstore (lv' := [(10, .long (z_l v20)), (8, .long (z_l v7)), (7, .int (z_i r4)), (6, .int (z_i x8_6)), (4, .long (z_l x8_4)), (3, .int (z_i x8_3)), (0, .ref y), (1, .int (z_i gi)), (2, .int (z_i n))]) hx hb dX8_flow_107 hl (by decide) rfl (fun ls hl => ?_)
            refine lv_lload hx hb dX8_flow_109 (lv_at hl 0 rfl) ?_
            refine lv_lload hx hb dX8_flow_111 (lv_at hl 4 rfl) ?_
            refine lx_lcmp hx hb dX8_flow_113 h_v20 h_x8_4 ?_
            refine lx_if_gt (tgt := 131) hx hb dX8_flow_114 (by decide) (z_in_cmp _ _) (fun hc => ?_) (fun hc => ?_)
            · have hv := hv.1 (z_cmp_gt.mp hc)
              refine lv_lload hx hb dX8_flow_131 (lv_at hl 0 rfl) ?_
              refine lv_lstore (lv' := [(4, .long (z_l v20)), (10, .long (z_l v20)), (8, .long (z_l v7)), (7, .int (z_i r4)), (6, .int (z_i x8_6)), (3, .int (z_i x8_3)), (0, .ref y), (1, .int (z_i gi)), (2, .int (z_i n))]) hx hb dX8_flow_133 hl (by decide) rfl (fun ls hl => ?_)
              refine lv_iload hx hb dX8_flow_135 (lv_at hl 3 rfl) ?_
              refine lv_istore_n (lv' := [(3, .int (z_i r4)), (4, .long (z_l v20)), (10, .long (z_l v20)), (8, .long (z_l v7)), (7, .int (z_i r4)), (6, .int (z_i x8_6)), (0, .ref y), (1, .int (z_i gi)), (2, .int (z_i n))]) hx hb dX8_flow_137 rfl hl (by decide) rfl (fun ls hl => ?_)
              refine lv_iinc (v := z_i (x8_6 + 1)) (lv' := [(6, .int (z_i (x8_6 + 1))), (3, .int (z_i r4)), (4, .long (z_l v20)), (10, .long (z_l v20)), (8, .long (z_l v7)), (7, .int (z_i r4)), (0, .ref y), (1, .int (z_i gi)), (2, .int (z_i n))]) hx hb dX8_flow_138 hl (k := 5) rfl (z_i_add _ _) (by decide) rfl (fun ls hl => ?_)
              refine lv_goto (tgt := 8) hx hb dX8_flow_141 (by decide) ?_
              exact hv _ _ ls hP hS (lv_sub hl [0, 2, 1, 6, 7, 8] rfl)
            · have hv := hv.2 (z_cmp_le.mp hc)
              refine lv_lload hx hb dX8_flow_117 (lv_at hl 0 rfl) ?_
              refine lv_lload hx hb dX8_flow_119 (lv_at hl 4 rfl) ?_
              refine lx_lcmp hx hb dX8_flow_121 h_v20 h_x8_4 ?_
              refine lx_if_ne (tgt := 138) hx hb dX8_flow_122 (by decide) (z_in_cmp _ _) (fun hc => ?_) (fun hc => ?_)
              · have hv := hv.1 (z_cmp_ne.mp hc)
                refine lv_iinc (v := z_i (x8_6 + 1)) (lv' := [(6, .int (z_i (x8_6 + 1))), (10, .long (z_l v20)), (8, .long (z_l v7)), (7, .int (z_i r4)), (4, .long (z_l x8_4)), (3, .int (z_i x8_3)), (0, .ref y), (1, .int (z_i gi)), (2, .int (z_i n))]) hx hb dX8_flow_138 hl (k := 3) rfl (z_i_add _ _) (by decide) rfl (fun ls hl => ?_)
                refine lv_goto (tgt := 8) hx hb dX8_flow_141 (by decide) ?_
                exact hv _ _ ls hP hS (lv_sub hl [0, 4, 5, 6, 7, 8] rfl)
              · have hv := hv.2 (z_cmp_eq.mp hc)
                refine lv_iload hx hb dX8_flow_125 (lv_at hl 2 rfl) ?_
                refine lv_iload_n hx hb dX8_flow_127 rfl (lv_at hl 5 rfl) ?_
                refine lx_icmp_ge (tgt := 138) hx hb dX8_flow_128 (by decide) h_r4 h_x8_3 (fun hc => ?_) (fun hc => ?_)
                · have hv := hv.1 hc
                  refine lv_iinc (v := z_i (x8_6 + 1)) (lv' := [(6, .int (z_i (x8_6 + 1))), (10, .long (z_l v20)), (8, .long (z_l v7)), (7, .int (z_i r4)), (4, .long (z_l x8_4)), (3, .int (z_i x8_3)), (0, .ref y), (1, .int (z_i gi)), (2, .int (z_i n))]) hx hb dX8_flow_138 hl (k := 3) rfl (z_i_add _ _) (by decide) rfl (fun ls hl => ?_)
                  refine lv_goto (tgt := 8) hx hb dX8_flow_141 (by decide) ?_
                  exact hv _ _ ls hP hS (lv_sub hl [0, 4, 5, 6, 7, 8] rfl)
                · have hv := hv.2 hc
                  refine lv_lload hx hb dX8_flow_131 (lv_at hl 0 rfl) ?_
                  refine lv_lstore (lv' := [(4, .long (z_l v20)), (10, .long (z_l v20)), (8, .long (z_l v7)), (7, .int (z_i r4)), (6, .int (z_i x8_6)), (3, .int (z_i x8_3)), (0, .ref y), (1, .int (z_i gi)), (2, .int (z_i n))]) hx hb dX8_flow_133 hl (by decide) rfl (fun ls hl => ?_)
                  refine lv_iload hx hb dX8_flow_135 (lv_at hl 3 rfl) ?_
                  refine lv_istore_n (lv' := [(3, .int (z_i r4)), (4, .long (z_l v20)), (10, .long (z_l v20)), (8, .long (z_l v7)), (7, .int (z_i r4)), (6, .int (z_i x8_6)), (0, .ref y), (1, .int (z_i gi)), (2, .int (z_i n))]) hx hb dX8_flow_137 rfl hl (by decide) rfl (fun ls hl => ?_)
                  refine lv_iinc (v := z_i (x8_6 + 1)) (lv' := [(6, .int (z_i (x8_6 + 1))), (3, .int (z_i r4)), (4, .long (z_l v20)), (10, .long (z_l v20)), (8, .long (z_l v7)), (7, .int (z_i r4)), (0, .ref y), (1, .int (z_i gi)), (2, .int (z_i n))]) hx hb dX8_flow_138 hl (k := 5) rfl (z_i_add _ _) (by decide) rfl (fun ls hl => ?_)
                  refine lv_goto (tgt := 8) hx hb dX8_flow_141 (by decide) ?_
                  exact hv _ _ ls hP hS (lv_sub hl [0, 2, 1, 6, 7, 8] rfl)
      · have hv := hv.2 (z_cmp_le.mp hc)
        refine lv_goto (tgt := 138) hx hb dX8_flow_71 (by decide) ?_
        refine lv_iinc (v := z_i (x8_6 + 1)) (lv' := [(6, .int (z_i (x8_6 + 1))), (8, .long (z_l v7)), (7, .int (z_i r4)), (4, .long (z_l x8_4)), (3, .int (z_i x8_3)), (0, .ref y), (1, .int (z_i gi)), (2, .int (z_i n))]) hx hb dX8_flow_138 hl (k := 2) rfl (z_i_add _ _) (by decide) rfl (fun ls hl => ?_)
        refine lv_goto (tgt := 8) hx hb dX8_flow_141 (by decide) ?_
        exact hv _ _ ls hP hS (lv_sub hl [0, 3, 4, 5, 6, 7] rfl)
    · have hv := hv.2 hc
      refine lv_lconst (v := z_l 0) hx hb dX8_flow_30 (by decide) ?_
      refine lv_goto (tgt := 62) hx hb dX8_flow_31 (by decide) ?_
      refine lv_lstore (lv' := [(8, .long (z_l 0)), (7, .int (z_i r4)), (6, .int (z_i x8_6)), (4, .long (z_l x8_4)), (3, .int (z_i x8_3)), (0, .ref y), (1, .int (z_i gi)), (2, .int (z_i n))]) hx hb dX8_flow_62 hl (by decide) rfl (fun ls hl => ?_)
      refine lv_lload hx hb dX8_flow_64 (lv_at hl 0 rfl) ?_
      refine lv_lconst (v := z_l 0) hx hb dX8_flow_66 (by decide) ?_
      refine lx_lcmp hx hb dX8_flow_67 (show z_nl 0 from ⟨by decide, by decide⟩) (show z_nl 0 from ⟨by decide, by decide⟩) ?_
      refine lx_if_gt (tgt := 74) hx hb dX8_flow_68 (by decide) (z_in_cmp _ _) (fun hc => absurd hc (by decide)) (fun _ => ?_)
      refine lv_goto (tgt := 138) hx hb dX8_flow_71 (by decide) ?_
      refine lv_iinc (v := z_i (x8_6 + 1)) (lv' := [(6, .int (z_i (x8_6 + 1))), (8, .long (z_l 0)), (7, .int (z_i r4)), (4, .long (z_l x8_4)), (3, .int (z_i x8_3)), (0, .ref y), (1, .int (z_i gi)), (2, .int (z_i n))]) hx hb dX8_flow_138 hl (k := 2) rfl (z_i_add _ _) (by decide) rfl (fun ls hl => ?_)
      refine lv_goto (tgt := 8) hx hb dX8_flow_141 (by decide) ?_
      exact hv _ _ ls hP hS (lv_sub hl [0, 3, 4, 5, 6, 7] rfl)
set_option maxHeartbeats 4000000 in
set_option maxRecDepth 100000 in
theorem mt_X8_flow (l : Launch) (D : va_G) (cA : Nat → ClassId) (y : Nat) (y_space : Nat) (y_offset : Nat) (y_length : Nat) (ya_units : Nat) (y_units : Nat → Int32) (ya_isThere : Nat) (y_isThere : Nat → Int32) (y_levels : Int) (y_level : Nat) (y_lines : Int) (y_lineLevel : Nat) (y_lineUnits : Nat) (y_lineFrom : Nat) (y_lineMany : Nat) (y_isClosed : Nat) (y_insides : Nat) (y_parent : Nat) (y_isHigh : Nat) (y_inBits : Nat) (y_sides : Int) (y_side : Nat) (y_sideA : Nat) (y_sideB : Nat) (y_lineSpace : Int) (y_wasThere : Nat) (y_leads : Nat) (y_isLed : Nat) (y_isOn : Nat) (y_goesTo : Nat) (y_stream : Nat) (y_filled : Nat) (y_isDone : Nat) (y_isReached : Nat) (y_newUnits : Nat) (y_isNew : Nat) (gi : Int) (n : Int) (h_y_levels : z_in y_levels) (h_y_lines : z_in y_lines) (h_y_sides : z_in y_sides) (h_y_lineSpace : z_in y_lineSpace) (h_gi : z_in gi) (h_n : z_in n) (hp1 : 0 ≤ gi ∧ gi < 4) (hp2 : q_bd y_units) (hp3 : q_th y_isThere gi n = true) : Met l yX8_flow wsX8_flow ({ frames := 3, cells := 0, slots := 0, locals := 70 } : Room) (va_Pc [.ref y, .int (z_i gi), .int (z_i n)] (z_B0 D cA [(y, .inr (6, [.ref y_space, .ref y_offset, .ref y_length, .ref ya_units, .ref ya_isThere, .int (z_i y_levels), .ref y_level, .int (z_i y_lines), .ref y_lineLevel, .ref y_lineUnits, .ref y_lineFrom, .ref y_lineMany, .ref y_isClosed, .ref y_insides, .ref y_parent, .ref y_isHigh, .ref y_inBits, .int (z_i y_sides), .ref y_side, .ref y_sideA, .ref y_sideB, .int (z_i y_lineSpace), .ref y_wasThere, .ref y_leads, .ref y_isLed, .ref y_isOn, .ref y_goesTo, .ref y_stream, .ref y_filled, .ref y_isDone, .ref y_isReached, .ref y_newUnits, .ref y_isNew])), (ya_units, .inl (cA 1, 5120, .inl y_units)), (ya_isThere, .inl (cA 3, 5120, .inl y_isThere))])) (va_Qi (z_ri (fun (r : Int) => r = m_dn (q_th y_isThere gi) (q_at y_units y_isThere gi) n)) (fun _ _ => True) (fun _ => False)) 0 0 (fun _ => False) := by
  refine wk_X8_flow l D cA y y_space y_offset y_length ya_units y_units ya_isThere y_isThere y_levels y_level y_lines y_lineLevel y_lineUnits y_lineFrom y_lineMany y_isClosed y_insides y_parent y_isHigh y_inBits y_sides y_side y_sideA y_sideB y_lineSpace y_wasThere y_leads y_isLed y_isOn y_goesTo y_stream y_filled y_isDone y_isReached y_newUnits y_isNew gi n h_y_levels h_y_lines h_y_sides h_y_lineSpace h_gi h_n (fun (r : Int) => r = m_dn (q_th y_isThere gi) (q_at y_units y_isThere gi) n) ?_
  unfold vc_X8_flow
  have hU : ∀ p, q_th y_isThere gi p = true → -8388608 ≤ q_at y_units y_isThere gi p ∧ q_at y_units y_isThere gi p ≤ 8388608 := fun p hp => q_bd_at hp2 hp1.1 hp1.2 hp
  have hn := q_th_in hp3
  intro L hL
  suffices H : ∀ (d k : Nat), k + d = 8 → L (k : Int) (m_dnK (q_th y_isThere gi) (q_at y_units y_isThere gi) n k).1 (m_dnK (q_th y_isThere gi) (q_at y_units y_isThere gi) n k).2 from H 8 0 rfl
  intro d
  induction d with
  | zero =>
    intro k hk
    have hb := m_dnK_b hU hp3 k
    refine hL _ _ _ ⟨by omega, by omega⟩ ⟨by omega, by omega⟩ ⟨by omega, by omega⟩ ⟨fun _ => ?_, fun h => absurd h (by omega)⟩
    have : k = 8 := by omega
    subst this
    rfl
  | succ d ih =>
    intro k hk
    have hb := m_dnK_b hU hp3 k
    refine hL _ _ _ ⟨by omega, by omega⟩ ⟨by omega, by omega⟩ ⟨by omega, by omega⟩ ⟨fun h => absurd h (by omega), fun h => ⟨hp1, hn, ⟨by omega, h⟩, ?_⟩⟩
    have h9 := ih (k + 1) (by omega)
    rw [m_dnK] at h9
    have hm := m_nb_in (q_th y_isThere gi) n k
    have hth := @m_nb_th (q_th y_isThere gi) n k
    rintro r4 _ h4
    rw [← h4] at hm hth h9
    refine ⟨fun q => ?_, fun q => ?_⟩
    · have ht := (hth (by omega)).1
      rw [if_neg (by omega)] at h9
      have u1 := hU _ hp3
      have u2 := hU _ ht
      rw [q_at_t hp3] at u1 h9
      rw [q_at_t ht] at u2 h9
      refine ⟨⟨by omega, by omega⟩, ⟨by omega, by omega⟩, ⟨by omega, by omega⟩, ?_⟩
      rintro v7 h7
      rw [← h7] at h9
      have kb := z_rsc ⟨k, by omega⟩
      dsimp only at kb
      refine ⟨fun q1 => ⟨⟨by omega, by omega⟩, ?_⟩, fun q1 => ?_⟩
      · rw [if_neg (by omega)] at h9
        have sq := z_sq (d := v7) (by omega) (by omega)
        have e2 : 2 * v7 * v7 = 2 * (v7 * v7) := by rw [Int.mul_assoc]
        have key : ∀ w : Int, w = m_sl k v7 → ((w > (m_dnK (q_th y_isThere gi) (q_at y_units y_isThere gi) n k).1 → L ((k : Int) + 1) w r4) ∧ (w ≤ (m_dnK (q_th y_isThere gi) (q_at y_units y_isThere gi) n k).1 → ((w ≠ (m_dnK (q_th y_isThere gi) (q_at y_units y_isThere gi) n k).1 → L ((k : Int) + 1) (m_dnK (q_th y_isThere gi) (q_at y_units y_isThere gi) n k).1 (m_dnK (q_th y_isThere gi) (q_at y_units y_isThere gi) n k).2) ∧ (w = (m_dnK (q_th y_isThere gi) (q_at y_units y_isThere gi) n k).1 → ((r4 ≥ (m_dnK (q_th y_isThere gi) (q_at y_units y_isThere gi) n k).2 → L ((k : Int) + 1) (m_dnK (q_th y_isThere gi) (q_at y_units y_isThere gi) n k).1 (m_dnK (q_th y_isThere gi) (q_at y_units y_isThere gi) n k).2) ∧ (r4 < (m_dnK (q_th y_isThere gi) (q_at y_units y_isThere gi) n k).2 → L ((k : Int) + 1) w r4)))))) := by
          intro w hw
          rw [← hw] at h9
          refine ⟨fun a1 => ?_, fun a1 => ⟨fun a2 => ?_, fun a2 => ⟨fun a3 => ?_, fun a3 => ?_⟩⟩⟩
          · rw [if_pos (Or.inl a1)] at h9; exact h9
          · rw [if_neg (by omega)] at h9; exact h9
          · rw [if_neg (by omega)] at h9; exact h9
          · rw [if_pos (Or.inr ⟨a2, a3⟩)] at h9; exact h9
        rintro r11 _ h11
        rw [Int.toNat_natCast] at h11
        rw [← h11] at kb
        refine ⟨fun q2 => ⟨⟨by omega, by omega⟩, ?_⟩, fun q2 => ⟨⟨by omega, by omega⟩, ?_⟩⟩
        · rintro v12 h12
          refine key v12 ?_
          unfold m_sl; rw [if_pos (kb.2.2.2.2.mp (Or.inl q2))]; exact h12
        · rintro r16 _ h16
          rw [Int.toNat_natCast] at h16
          rw [← h16] at kb
          refine ⟨fun q3 => ⟨⟨by omega, by omega⟩, ?_⟩, fun q3 => ⟨⟨by omega, by omega⟩, ?_⟩⟩
          · rintro v17 h17
            refine key v17 ?_
            unfold m_sl; rw [if_neg (fun h => (kb.2.2.2.2.mpr h).elim q2 q3)]; exact h17
          · rintro v20 h20
            refine key v20 ?_
            unfold m_sl; rw [if_pos (kb.2.2.2.2.mp (Or.inr q3))]; exact h20
      · rw [if_pos q1] at h9; exact h9
    · rw [if_pos (by omega)] at h9; exact h9
