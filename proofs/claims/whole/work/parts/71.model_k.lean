def vc_X8_saddle (y_units : Nat → Int32) (y_isThere : Nat → Int32) (y_isDone : Nat → Int32) (y_isReached : Nat → Int32) (gi : Int) (n : Int) (Q : Int → (Nat → Int32) → (Nat → Int32) → Prop) : Prop :=
(∀ L2 : Int → (Nat → Int32) → (Nat → Int32) → Prop,
(∀ (x2_3 : Int) (y2_ya_isDone : Nat → Int32) (y2_ya_isReached : Nat → Int32), z_in x2_3 → ((x2_3 ≥ 1280 → (0 ≤ (1280 * gi) + n ∧ (1280 * gi) + n < 5120) ∧ (∀ v2 : Int, v2 = z_g y_units ((1280 * gi) + n) → (∀ L54 : Int → Int → (Nat → Int32) → (Nat → Int32) → Prop,
(∀ (x54_4 : Int) (x54_3 : Int) (y54_ya_isDone : Nat → Int32) (y54_ya_isReached : Nat → Int32), z_in x54_4 → z_in x54_3 → ((x54_4 < 0 → Q (-8388609) y54_ya_isDone y54_ya_isReached) ∧
(x54_4 ≥ 0 → (0 ≤ (1280 * gi) + x54_4 ∧ (1280 * gi) + x54_4 < 5120) ∧ (∀ v5 : Int, v5 = z_g y_units ((1280 * gi) + x54_4) → (∀ J86 : Int → Prop,
(∀ (s86_0 : Int), z_in s86_0 → (0 ≤ gi ∧ gi < 4) ∧ (0 ≤ x54_4 ∧ x54_4 < 1280) ∧ (0 ≤ n ∧ n < 1280) ∧ (∀ (r10 : Int), z_in r10 → (r10 = z_b (m_ab (fun q => z_g y_units (1280 * gi + q)) x54_4 n)) → ((r10 = 0 → (0 ≤ x54_4 ∧ x54_4 < 1280) ∧ (∀ f12 : Nat → Int32, f12 = z_s y54_ya_isDone x54_4 1 → (∀ L111 : Int → (Nat → Int32) → Prop,
(∀ (x111_6 : Int) (y111_ya_isReached : Nat → Int32), z_in x111_6 → ((x111_6 ≥ 8 → (∀ L154 : Int → Int → Prop,
(∀ (x154_6 : Int) (x154_4 : Int), z_in x154_6 → z_in x154_4 → ((x154_6 ≥ 1280 → L54 x154_4 s86_0 f12 y111_ya_isReached) ∧
(x154_6 < 1280 → (0 ≤ x154_6 ∧ x154_6 < 1280) ∧ ((z_g y111_ya_isReached x154_6 = 0 → L154 (x154_6 + 1) x154_4) ∧
(z_g y111_ya_isReached x154_6 ≠ 0 → ((z_g f12 x154_6 ≠ 0 → L154 (x154_6 + 1) x154_4) ∧
(z_g f12 x154_6 = 0 → ((x154_4 < 0 → L154 (x154_6 + 1) x154_6) ∧
(x154_4 ≥ 0 → (0 ≤ (1280 * gi) + x154_6 ∧ (1280 * gi) + x154_6 < 5120) ∧ (0 ≤ (1280 * gi) + x154_4 ∧ (1280 * gi) + x154_4 < 5120) ∧ ((z_g y_units ((1280 * gi) + x154_6) ≤ z_g y_units ((1280 * gi) + x154_4) → L154 (x154_6 + 1) x154_4) ∧
(z_g y_units ((1280 * gi) + x154_6) > z_g y_units ((1280 * gi) + x154_4) → L154 (x154_6 + 1) x154_6)))))))))) → L154 x154_6 x154_4) →
L154 0 (-1))) ∧
(x111_6 < 8 → (0 ≤ gi ∧ gi < 4) ∧ (0 ≤ x54_4 ∧ x54_4 < 1280) ∧ (0 ≤ x111_6 ∧ x111_6 < 8) ∧ (∀ (r20 : Int), z_in r20 → (r20 = m_nb (q_th y_isThere gi) x54_4 x111_6) → ((r20 < 0 → L111 (x111_6 + 1) y111_ya_isReached) ∧
(r20 ≥ 0 → (0 ≤ r20 ∧ r20 < 1280) ∧ (∀ f22 : Nat → Int32, f22 = z_s y111_ya_isReached r20 1 → L111 (x111_6 + 1) f22)))))) → L111 x111_6 y111_ya_isReached) →
L111 0 y54_ya_isReached))) ∧
(r10 ≠ 0 → Q s86_0 y54_ya_isDone y54_ya_isReached))) → J86 s86_0) →
((v5 ≥ x54_3 → J86 x54_3) ∧
(v5 < x54_3 → J86 v5)))))) → L54 x54_4 x54_3 y54_ya_isDone y54_ya_isReached) →
L54 n v2 y2_ya_isDone y2_ya_isReached))) ∧
(x2_3 < 1280 → (0 ≤ x2_3 ∧ x2_3 < 1280) ∧ (∀ f25 : Nat → Int32, f25 = z_s y2_ya_isDone x2_3 0 → ((x2_3 ≠ n → (∀ f27 : Nat → Int32, f27 = z_s y2_ya_isReached x2_3 0 → L2 (x2_3 + 1) f25 f27)) ∧
(x2_3 = n → (∀ f29 : Nat → Int32, f29 = z_s y2_ya_isReached x2_3 1 → L2 (x2_3 + 1) f25 f29)))))) → L2 x2_3 y2_ya_isDone y2_ya_isReached) →
L2 0 y_isDone y_isReached)
set_option maxHeartbeats 4000000 in
set_option maxRecDepth 100000 in
theorem wk_X8_saddle (l : Launch) (D : va_G) (cA : Nat → ClassId) (y : Nat) (y_space : Nat) (y_offset : Nat) (y_length : Nat) (ya_units : Nat) (y_units : Nat → Int32) (ya_isThere : Nat) (y_isThere : Nat → Int32) (y_levels : Int) (y_level : Nat) (y_lines : Int) (y_lineLevel : Nat) (y_lineUnits : Nat) (y_lineFrom : Nat) (y_lineMany : Nat) (y_isClosed : Nat) (y_insides : Nat) (y_parent : Nat) (y_isHigh : Nat) (y_inBits : Nat) (y_sides : Int) (y_side : Nat) (y_sideA : Nat) (y_sideB : Nat) (y_lineSpace : Int) (y_wasThere : Nat) (y_leads : Nat) (y_isLed : Nat) (y_isOn : Nat) (y_goesTo : Nat) (y_stream : Nat) (y_filled : Nat) (ya_isDone : Nat) (y_isDone : Nat → Int32) (ya_isReached : Nat) (y_isReached : Nat → Int32) (y_newUnits : Nat) (y_isNew : Nat) (gi : Int) (n : Int) (h_y_levels : z_in y_levels) (h_y_lines : z_in y_lines) (h_y_sides : z_in y_sides) (h_y_lineSpace : z_in y_lineSpace) (h_gi : z_in gi) (h_n : z_in n) (Q : Int → (Nat → Int32) → (Nat → Int32) → Prop) (hv : vc_X8_saddle y_units y_isThere y_isDone y_isReached gi n Q) : Met l yX8_saddle wsX8_saddle ({ frames := 3, cells := 0, slots := 0, locals := 70 } : Room) (va_Pc [.ref y, .int (z_i gi), .int (z_i n)] (z_M0 D cA [(y, .inr (6, [.ref y_space, .ref y_offset, .ref y_length, .ref ya_units, .ref ya_isThere, .int (z_i y_levels), .ref y_level, .int (z_i y_lines), .ref y_lineLevel, .ref y_lineUnits, .ref y_lineFrom, .ref y_lineMany, .ref y_isClosed, .ref y_insides, .ref y_parent, .ref y_isHigh, .ref y_inBits, .int (z_i y_sides), .ref y_side, .ref y_sideA, .ref y_sideB, .int (z_i y_lineSpace), .ref y_wasThere, .ref y_leads, .ref y_isLed, .ref y_isOn, .ref y_goesTo, .ref y_stream, .ref y_filled, .ref ya_isDone, .ref ya_isReached, .ref y_newUnits, .ref y_isNew])), (ya_units, .inl (cA 1, 5120, .inl y_units)), (ya_isThere, .inl (cA 3, 5120, .inl y_isThere)), (ya_isDone, .inl (cA 3, 1280, .inl y_isDone)), (ya_isReached, .inl (cA 3, 1280, .inl y_isReached))])) (va_Qi (z_mi (fun v (u : (Nat → Int32) × (Nat → Int32)) => Q v u.1 u.2)) (fun (u : (Nat → Int32) × (Nat → Int32)) t => va_P D vwCl [(y, .inr (6, [.ref y_space, .ref y_offset, .ref y_length, .ref ya_units, .ref ya_isThere, .int (z_i y_levels), .ref y_level, .int (z_i y_lines), .ref y_lineLevel, .ref y_lineUnits, .ref y_lineFrom, .ref y_lineMany, .ref y_isClosed, .ref y_insides, .ref y_parent, .ref y_isHigh, .ref y_inBits, .int (z_i y_sides), .ref y_side, .ref y_sideA, .ref y_sideB, .int (z_i y_lineSpace), .ref y_wasThere, .ref y_leads, .ref y_isLed, .ref y_isOn, .ref y_goesTo, .ref y_stream, .ref y_filled, .ref ya_isDone, .ref ya_isReached, .ref y_newUnits, .ref y_isNew])), (ya_units, .inl (cA 1, 5120, .inl y_units)), (ya_isThere, .inl (cA 3, 5120, .inl y_isThere)), (ya_isDone, .inl (cA 3, 1280, .inl u.1)), (ya_isReached, .inl (cA 3, 1280, .inl u.2))] t.heap) (z_A [(y, .inr (6, [.ref y_space, .ref y_offset, .ref y_length, .ref ya_units, .ref ya_isThere, .int (z_i y_levels), .ref y_level, .int (z_i y_lines), .ref y_lineLevel, .ref y_lineUnits, .ref y_lineFrom, .ref y_lineMany, .ref y_isClosed, .ref y_insides, .ref y_parent, .ref y_isHigh, .ref y_inBits, .int (z_i y_sides), .ref y_side, .ref y_sideA, .ref y_sideB, .int (z_i y_lineSpace), .ref y_wasThere, .ref y_leads, .ref y_isLed, .ref y_isOn, .ref y_goesTo, .ref y_stream, .ref y_filled, .ref ya_isDone, .ref ya_isReached, .ref y_newUnits, .ref y_isNew])), (ya_units, .inl (cA 1, 5120, .inl y_units)), (ya_isThere, .inl (cA 3, 5120, .inl y_isThere)), (ya_isDone, .inl (cA 3, 1280, .inl y_isDone)), (ya_isReached, .inl (cA 3, 1280, .inl y_isReached))])) 0 0 (z_A [(y, .inr (6, [.ref y_space, .ref y_offset, .ref y_length, .ref ya_units, .ref ya_isThere, .int (z_i y_levels), .ref y_level, .int (z_i y_lines), .ref y_lineLevel, .ref y_lineUnits, .ref y_lineFrom, .ref y_lineMany, .ref y_isClosed, .ref y_insides, .ref y_parent, .ref y_isHigh, .ref y_inBits, .int (z_i y_sides), .ref y_side, .ref y_sideA, .ref y_sideB, .int (z_i y_lineSpace), .ref y_wasThere, .ref y_leads, .ref y_isLed, .ref y_isOn, .ref y_goesTo, .ref y_stream, .ref y_filled, .ref ya_isDone, .ref ya_isReached, .ref y_newUnits, .ref y_isNew])), (ya_units, .inl (cA 1, 5120, .inl y_units)), (ya_isThere, .inl (cA 3, 5120, .inl y_isThere)), (ya_isDone, .inl (cA 3, 1280, .inl y_isDone)), (ya_isReached, .inl (cA 3, 1280, .inl y_isReached))]) := by
  unfold vc_X8_saddle at hv
  refine Met.ofW (cc := cX8_saddle) (maxL := 8) (ret := (some .int)) (by decide +kernel) rfl ?_
  intro p e s m args below meth c s₁ B hml hv0
  obtain ⟨rfl, hK, hP, hD0⟩ := hv0
  have hx := B.exec
  have hb := B.bytes
  have hr := B.returns
  have hts := atoms_spec (ws := wsX8_saddle) B.pre
  have hown : s.vm.findClass RX8 = some m.cls := findClass_of_methodNamed B.named
  have hlocks := B.notSynchronized
  have hD := z_D_self hD0
  generalize hAe : z_A [(y, .inr (6, [.ref y_space, .ref y_offset, .ref y_length, .ref ya_units, .ref ya_isThere, .int (z_i y_levels), .ref y_level, .int (z_i y_lines), .ref y_lineLevel, .ref y_lineUnits, .ref y_lineFrom, .ref y_lineMany, .ref y_isClosed, .ref y_insides, .ref y_parent, .ref y_isHigh, .ref y_inBits, .int (z_i y_sides), .ref y_side, .ref y_sideA, .ref y_sideB, .int (z_i y_lineSpace), .ref y_wasThere, .ref y_leads, .ref y_isLed, .ref y_isOn, .ref y_goesTo, .ref y_stream, .ref y_filled, .ref ya_isDone, .ref ya_isReached, .ref y_newUnits, .ref y_isNew])), (ya_units, .inl (cA 1, 5120, .inl y_units)), (ya_isThere, .inl (cA 3, 5120, .inl y_isThere)), (ya_isDone, .inl (cA 3, 1280, .inl y_isDone)), (ya_isReached, .inl (cA 3, 1280, .inl y_isReached))] = A at *
  have hS : va_S A s.heap s.heap [] := va_S.rf
  have hl := lv_entry ([.ref y, .int (z_i gi), .int (z_i n)]) (n := 8) (Nat.le_of_ble_eq_true rfl)
  rw [lg_entry_eq]
  generalize (lg_sl ([.ref y, .int (z_i gi), .int (z_i n)]) ++ List.replicate (8 - (lg_sl ([.ref y, .int (z_i gi), .int (z_i n)])).length) Slot.unset).toArray = ls at hl ⊢
  have hl : lv_has ls 8 [(0, .ref y), (1, .int (z_i gi)), (2, .int (z_i n))] := hl
  refine lv_iconst (v := z_i 0) hx hb dX8_saddle_0 rfl ?_
  refine lv_istore_n (lv' := [(3, .int (z_i 0)), (0, .ref y), (1, .int (z_i gi)), (2, .int (z_i n))]) hx hb dX8_saddle_1 rfl hl (by decide) rfl (fun ls hl => ?_)
  refine hv (fun (x2_3 : Int) (y2_ya_isDone : Nat → Int32) (y2_ya_isReached : Nat → Int32) => ∀ (H : Heap) (locs : List Loc) (ls : Array Slot), va_P D vwCl [(y, .inr (6, [.ref y_space, .ref y_offset, .ref y_length, .ref ya_units, .ref ya_isThere, .int (z_i y_levels), .ref y_level, .int (z_i y_lines), .ref y_lineLevel, .ref y_lineUnits, .ref y_lineFrom, .ref y_lineMany, .ref y_isClosed, .ref y_insides, .ref y_parent, .ref y_isHigh, .ref y_inBits, .int (z_i y_sides), .ref y_side, .ref y_sideA, .ref y_sideB, .int (z_i y_lineSpace), .ref y_wasThere, .ref y_leads, .ref y_isLed, .ref y_isOn, .ref y_goesTo, .ref y_stream, .ref y_filled, .ref ya_isDone, .ref ya_isReached, .ref y_newUnits, .ref y_isNew])), (ya_units, .inl (cA 1, 5120, .inl y_units)), (ya_isThere, .inl (cA 3, 5120, .inl y_isThere)), (ya_isDone, .inl (cA 3, 1280, .inl y2_ya_isDone)), (ya_isReached, .inl (cA 3, 1280, .inl y2_ya_isReached))] H → va_D A [(y, .inr (6, [.ref y_space, .ref y_offset, .ref y_length, .ref ya_units, .ref ya_isThere, .int (z_i y_levels), .ref y_level, .int (z_i y_lines), .ref y_lineLevel, .ref y_lineUnits, .ref y_lineFrom, .ref y_lineMany, .ref y_isClosed, .ref y_insides, .ref y_parent, .ref y_isHigh, .ref y_inBits, .int (z_i y_sides), .ref y_side, .ref y_sideA, .ref y_sideB, .int (z_i y_lineSpace), .ref y_wasThere, .ref y_leads, .ref y_isLed, .ref y_isOn, .ref y_goesTo, .ref y_stream, .ref y_filled, .ref ya_isDone, .ref ya_isReached, .ref y_newUnits, .ref y_isNew])), (ya_units, .inl (cA 1, 5120, .inl y_units)), (ya_isThere, .inl (cA 3, 5120, .inl y_isThere)), (ya_isDone, .inl (cA 3, 1280, .inl y2_ya_isDone)), (ya_isReached, .inl (cA 3, 1280, .inl y2_ya_isReached))] → va_S A s.heap H locs → lv_has ls 8 [(3, .int (z_i x2_3)), (0, .ref y), (1, .int (z_i gi)), (2, .int (z_i n))] → W p l e _ s m _ below meth c H locs 0 0 _ (F0 m 2 ls [])) ?_ _ _ ls hP hD hS (lv_sub hl [0, 1, 2, 3] rfl)
  intro x2_3 y2_ya_isDone y2_ya_isReached h_x2_3 hv H locs ls hP hD hS hl
  refine lv_iload_n hx hb dX8_saddle_2 rfl (lv_at hl 0 rfl) ?_
  refine lv_sipush (v := z_i 1280) hx hb dX8_saddle_3 (by decide) ?_
  refine lx_icmp_ge (tgt := 38) hx hb dX8_saddle_6 (by decide) h_x2_3 (show z_in 1280 from ⟨by decide, by decide⟩) (fun hc => ?_) (fun hc => ?_)
  · have hv := hv.1 hc
    refine lv_aload_n hx hb dX8_saddle_38 rfl (lv_at hl 1 rfl) ?_
    refine va_get (D := D) (ci := 6) (v := .ref ya_units) (C := RX8) (T := TX8) (N := 33) hx hb hts (fun w h => List.mem_cons_of_mem _ (List.mem_append_right _ h)) hown hK hP 0 rfl rfl 3 (by decide) (hts (.fieldLink RX8 19 "ContourSheetsModel" "units" "[I") (by decide +kernel)) (fun _ h9 => h9) rfl dX8_saddle_39 ?_
    refine lv_sipush (v := z_i 1280) hx hb dX8_saddle_42 (by decide) ?_
    refine lv_iload_n hx hb dX8_saddle_45 rfl (lv_at hl 2 rfl) ?_
    refine lx_imul hx hb dX8_saddle_46 ?_
    refine lv_iload_n hx hb dX8_saddle_47 rfl (lv_at hl 3 rfl) ?_
    refine lx_iadd hx hb dX8_saddle_48 ?_
    obtain ⟨hi1, hv⟩ := hv
    refine lx_iald hx hb hK hP 1 1 rfl rfl (by decide) hi1.1 hi1.2 dX8_saddle_49 ?_
    refine lx_topi (fun v2 hy3 => ?_)
    have hv := hv v2 hy3
    have h_v2 : z_in v2 := by rw [hy3]; exact (z_in_g _ _)
    refine lv_istore_n (lv' := [(3, .int (z_i v2)), (0, .ref y), (1, .int (z_i gi)), (2, .int (z_i n))]) hx hb dX8_saddle_50 rfl hl (by decide) rfl (fun ls hl => ?_)
    refine lv_iload_n hx hb dX8_saddle_51 rfl (lv_at hl 3 rfl) ?_
    refine lv_istore (lv' := [(4, .int (z_i n)), (3, .int (z_i v2)), (0, .ref y), (1, .int (z_i gi)), (2, .int (z_i n))]) hx hb dX8_saddle_52 hl (by decide) rfl (fun ls hl => ?_)
    refine hv (fun (x54_4 : Int) (x54_3 : Int) (y54_ya_isDone : Nat → Int32) (y54_ya_isReached : Nat → Int32) => ∀ (H : Heap) (locs : List Loc) (ls : Array Slot), va_P D vwCl [(y, .inr (6, [.ref y_space, .ref y_offset, .ref y_length, .ref ya_units, .ref ya_isThere, .int (z_i y_levels), .ref y_level, .int (z_i y_lines), .ref y_lineLevel, .ref y_lineUnits, .ref y_lineFrom, .ref y_lineMany, .ref y_isClosed, .ref y_insides, .ref y_parent, .ref y_isHigh, .ref y_inBits, .int (z_i y_sides), .ref y_side, .ref y_sideA, .ref y_sideB, .int (z_i y_lineSpace), .ref y_wasThere, .ref y_leads, .ref y_isLed, .ref y_isOn, .ref y_goesTo, .ref y_stream, .ref y_filled, .ref ya_isDone, .ref ya_isReached, .ref y_newUnits, .ref y_isNew])), (ya_units, .inl (cA 1, 5120, .inl y_units)), (ya_isThere, .inl (cA 3, 5120, .inl y_isThere)), (ya_isDone, .inl (cA 3, 1280, .inl y54_ya_isDone)), (ya_isReached, .inl (cA 3, 1280, .inl y54_ya_isReached))] H → va_D A [(y, .inr (6, [.ref y_space, .ref y_offset, .ref y_length, .ref ya_units, .ref ya_isThere, .int (z_i y_levels), .ref y_level, .int (z_i y_lines), .ref y_lineLevel, .ref y_lineUnits, .ref y_lineFrom, .ref y_lineMany, .ref y_isClosed, .ref y_insides, .ref y_parent, .ref y_isHigh, .ref y_inBits, .int (z_i y_sides), .ref y_side, .ref y_sideA, .ref y_sideB, .int (z_i y_lineSpace), .ref y_wasThere, .ref y_leads, .ref y_isLed, .ref y_isOn, .ref y_goesTo, .ref y_stream, .ref y_filled, .ref ya_isDone, .ref ya_isReached, .ref y_newUnits, .ref y_isNew])), (ya_units, .inl (cA 1, 5120, .inl y_units)), (ya_isThere, .inl (cA 3, 5120, .inl y_isThere)), (ya_isDone, .inl (cA 3, 1280, .inl y54_ya_isDone)), (ya_isReached, .inl (cA 3, 1280, .inl y54_ya_isReached))] → va_S A s.heap H locs → lv_has ls 8 [(4, .int (z_i x54_4)), (3, .int (z_i x54_3)), (0, .ref y), (1, .int (z_i gi)), (2, .int (z_i n))] → W p l e _ s m _ below meth c H locs 0 0 _ (F0 m 54 ls [])) ?_ _ _ ls hP hD hS (lv_sub hl [0, 1, 2, 3, 4] rfl)
    intro x54_4 x54_3 y54_ya_isDone y54_ya_isReached h_x54_4 h_x54_3 hv H locs ls hP hD hS hl
    refine lv_iload hx hb dX8_saddle_54 (lv_at hl 0 rfl) ?_
    refine lx_if_lt (tgt := 229) hx hb dX8_saddle_56 (by decide) h_x54_4 (fun hc => ?_) (fun hc => ?_)
    · have hv := hv.1 hc
      refine lx_ldc (a := (-8388609)) hx hb hown (hts (.constant RX8 221 (-8388609)) (by decide +kernel)) (by decide) dX8_saddle_229 ?_
      exact W.iret (v := z_i (-8388609)) hx hb hr (fun t ht hW => ⟨⟨z_i (-8388609), (y54_ya_isDone, y54_ya_isReached), rfl, ⟨-8388609, rfl, (show z_in (-8388609) from ⟨by decide, by decide⟩), hv⟩, z_pt hP ht⟩, hS.F ht⟩) hS.2.2 dX8_saddle_231
    · have hv := hv.2 hc
      refine lv_aload_n hx hb dX8_saddle_59 rfl (lv_at hl 2 rfl) ?_
      refine va_get (D := D) (ci := 6) (v := .ref ya_units) (C := RX8) (T := TX8) (N := 33) hx hb hts (fun w h => List.mem_cons_of_mem _ (List.mem_append_right _ h)) hown hK hP 0 rfl rfl 3 (by decide) (hts (.fieldLink RX8 19 "ContourSheetsModel" "units" "[I") (by decide +kernel)) (fun _ h9 => h9) rfl dX8_saddle_60 ?_
      refine lv_sipush (v := z_i 1280) hx hb dX8_saddle_63 (by decide) ?_
      refine lv_iload_n hx hb dX8_saddle_66 rfl (lv_at hl 3 rfl) ?_
      refine lx_imul hx hb dX8_saddle_67 ?_
      refine lv_iload hx hb dX8_saddle_68 (lv_at hl 0 rfl) ?_
      refine lx_iadd hx hb dX8_saddle_70 ?_
      obtain ⟨hi4, hv⟩ := hv
      refine lx_iald hx hb hK hP 1 1 rfl rfl (by decide) hi4.1 hi4.2 dX8_saddle_71 ?_
      refine lx_topi (fun v5 hy6 => ?_)
      have hv := hv v5 hy6
      have h_v5 : z_in v5 := by rw [hy6]; exact (z_in_g _ _)
      refine lv_istore (lv' := [(5, .int (z_i v5)), (4, .int (z_i x54_4)), (3, .int (z_i x54_3)), (0, .ref y), (1, .int (z_i gi)), (2, .int (z_i n))]) hx hb dX8_saddle_72 hl (by decide) rfl (fun ls hl => ?_)
      have hv := hv (fun (s86_0 : Int) => ∀ (H : Heap) (locs : List Loc) (ls : Array Slot), va_P D vwCl [(y, .inr (6, [.ref y_space, .ref y_offset, .ref y_length, .ref ya_units, .ref ya_isThere, .int (z_i y_levels), .ref y_level, .int (z_i y_lines), .ref y_lineLevel, .ref y_lineUnits, .ref y_lineFrom, .ref y_lineMany, .ref y_isClosed, .ref y_insides, .ref y_parent, .ref y_isHigh, .ref y_inBits, .int (z_i y_sides), .ref y_side, .ref y_sideA, .ref y_sideB, .int (z_i y_lineSpace), .ref y_wasThere, .ref y_leads, .ref y_isLed, .ref y_isOn, .ref y_goesTo, .ref y_stream, .ref y_filled, .ref ya_isDone, .ref ya_isReached, .ref y_newUnits, .ref y_isNew])), (ya_units, .inl (cA 1, 5120, .inl y_units)), (ya_isThere, .inl (cA 3, 5120, .inl y_isThere)), (ya_isDone, .inl (cA 3, 1280, .inl y54_ya_isDone)), (ya_isReached, .inl (cA 3, 1280, .inl y54_ya_isReached))] H → va_D A [(y, .inr (6, [.ref y_space, .ref y_offset, .ref y_length, .ref ya_units, .ref ya_isThere, .int (z_i y_levels), .ref y_level, .int (z_i y_lines), .ref y_lineLevel, .ref y_lineUnits, .ref y_lineFrom, .ref y_lineMany, .ref y_isClosed, .ref y_insides, .ref y_parent, .ref y_isHigh, .ref y_inBits, .int (z_i y_sides), .ref y_side, .ref y_sideA, .ref y_sideB, .int (z_i y_lineSpace), .ref y_wasThere, .ref y_leads, .ref y_isLed, .ref y_isOn, .ref y_goesTo, .ref y_stream, .ref y_filled, .ref ya_isDone, .ref ya_isReached, .ref y_newUnits, .ref y_isNew])), (ya_units, .inl (cA 1, 5120, .inl y_units)), (ya_isThere, .inl (cA 3, 5120, .inl y_isThere)), (ya_isDone, .inl (cA 3, 1280, .inl y54_ya_isDone)), (ya_isReached, .inl (cA 3, 1280, .inl y54_ya_isReached))] → va_S A s.heap H locs → lv_has ls 8 [(4, .int (z_i x54_4)), (0, .ref y), (1, .int (z_i gi)), (2, .int (z_i n))] → W p l e (headSpec wsX8_saddle ({ frames := 3, cells := 0, slots := 0, locals := 70 } : Room)).room s m ([.ref y, .int (z_i gi), .int (z_i n)]).toArray below meth c H locs 0 0 (MQ below (va_Qi (z_mi (fun v (u : (Nat → Int32) × (Nat → Int32)) => Q v u.1 u.2)) (fun (u : (Nat → Int32) × (Nat → Int32)) t => va_P D vwCl [(y, .inr (6, [.ref y_space, .ref y_offset, .ref y_length, .ref ya_units, .ref ya_isThere, .int (z_i y_levels), .ref y_level, .int (z_i y_lines), .ref y_lineLevel, .ref y_lineUnits, .ref y_lineFrom, .ref y_lineMany, .ref y_isClosed, .ref y_insides, .ref y_parent, .ref y_isHigh, .ref y_inBits, .int (z_i y_sides), .ref y_side, .ref y_sideA, .ref y_sideB, .int (z_i y_lineSpace), .ref y_wasThere, .ref y_leads, .ref y_isLed, .ref y_isOn, .ref y_goesTo, .ref y_stream, .ref y_filled, .ref ya_isDone, .ref ya_isReached, .ref y_newUnits, .ref y_isNew])), (ya_units, .inl (cA 1, 5120, .inl y_units)), (ya_isThere, .inl (cA 3, 5120, .inl y_isThere)), (ya_isDone, .inl (cA 3, 1280, .inl u.1)), (ya_isReached, .inl (cA 3, 1280, .inl u.2))] t.heap) A) ([.ref y, .int (z_i gi), .int (z_i n)]).toArray s 0 0 A) (F0 m 86 ls [.int (z_i s86_0)])) (by
        intro s86_0 h_s86_0 hv H locs ls hP hD hS hl
        refine lv_istore_n (lv' := [(3, .int (z_i s86_0)), (4, .int (z_i x54_4)), (0, .ref y), (1, .int (z_i gi)), (2, .int (z_i n))]) hx hb dX8_saddle_86 rfl hl (by decide) rfl (fun ls hl => ?_)
        refine lv_aload_n hx hb dX8_saddle_87 rfl (lv_at hl 2 rfl) ?_
        refine lv_iload_n hx hb dX8_saddle_88 rfl (lv_at hl 3 rfl) ?_
        refine lv_iload hx hb dX8_saddle_89 (lv_at hl 1 rfl) ?_
        refine lv_iload_n hx hb dX8_saddle_91 rfl (lv_at hl 4 rfl) ?_
        obtain ⟨hp7, hv⟩ := hv
        obtain ⟨hp8, hv⟩ := hv
        obtain ⟨hp9, hv⟩ := hv
        refine va_calli (va_runV (As := [.int (z_i gi), .int (z_i x54_4), .int (z_i n)]) (rest := []) ⟨hx, hb, hml, hown, hts⟩ (mt_X8_isAbove l D cA y y_space y_offset y_length ya_units y_units ya_isThere y_levels y_level y_lines y_lineLevel y_lineUnits y_lineFrom y_lineMany y_isClosed y_insides y_parent y_isHigh y_inBits y_sides y_side y_sideA y_sideB y_lineSpace y_wasThere y_leads y_isLed y_isOn y_goesTo y_stream y_filled ya_isDone ya_isReached y_newUnits y_isNew gi x54_4 n h_y_levels h_y_lines h_y_sides h_y_lineSpace h_gi h_x54_4 h_n hp7 hp8 hp9) (cwV 3 hts gX8_saddle_X8_isAbove rfl rfl rfl (by decide +kernel) ⟨Nat.le_of_ble_eq_true rfl, Nat.le_of_ble_eq_true rfl⟩) ⟨z_bl0, va_recv hK hP (ci := 6) (q0 := 0) rfl rfl, fun U hU hW => ⟨rfl, z_b0 hK (hP.sub (ws' := [(y, .inr (6, [.ref y_space, .ref y_offset, .ref y_length, .ref ya_units, .ref ya_isThere, .int (z_i y_levels), .ref y_level, .int (z_i y_lines), .ref y_lineLevel, .ref y_lineUnits, .ref y_lineFrom, .ref y_lineMany, .ref y_isClosed, .ref y_insides, .ref y_parent, .ref y_isHigh, .ref y_inBits, .int (z_i y_sides), .ref y_side, .ref y_sideA, .ref y_sideB, .int (z_i y_lineSpace), .ref y_wasThere, .ref y_leads, .ref y_isLed, .ref y_isOn, .ref y_goesTo, .ref y_stream, .ref y_filled, .ref ya_isDone, .ref ya_isReached, .ref y_newUnits, .ref y_isNew])), (ya_units, .inl (cA 1, 5120, .inl y_units))]) [0, 1] rfl) hU hW⟩⟩ rfl rfl hl.1 rfl (lv_room (Nat.le_of_ble_eq_true rfl)) dX8_saddle_92 ⟨Nat.zero_le _, Nat.zero_le _⟩) hS (fun q _ h => h.elim) (fun q h => h.elim) (fun r0 u t H locs ht hvm hw hB hz1 hk1 hS => ?_)
        obtain ⟨r10, rfl, h_r10, hw⟩ := hw
        have hP := z_P_all hP hk1
        have hv := hv r10 h_r10 hw
        refine lx_if_eq (tgt := 100) hx hb dX8_saddle_95 (by decide) h_r10 (fun hc => ?_) (fun hc => ?_)
        · have hv := hv.1 hc
          refine lv_aload_n hx hb dX8_saddle_100 rfl (lv_at hl 2 rfl) ?_
          refine va_get (D := D) (ci := 6) (v := .ref ya_isDone) (C := RX8) (T := TX8) (N := 33) hx hb hts (fun w h => List.mem_cons_of_mem _ (List.mem_append_right _ h)) hown hK hP 0 rfl rfl 29 (by decide) (hts (.fieldLink RX8 87 "ContourSheetsModel" "isDone" "[Z") (by decide +kernel)) (fun _ h9 => h9) rfl dX8_saddle_101 ?_
          refine lv_iload hx hb dX8_saddle_104 (lv_at hl 1 rfl) ?_
          refine lv_iconst (v := z_i 1) hx hb dX8_saddle_106 rfl ?_
          obtain ⟨hi11, hv⟩ := hv
          refine lx_zast hx hb hK hP hD hS 3 3 rfl rfl (by decide) hi11.1 hi11.2 (by decide) dX8_saddle_107 (fun H locs hP hD hS => ?_)
          obtain ⟨f12, hy13⟩ : ∃ y : Nat → Int32, y = z_s y54_ya_isDone x54_4 1 := ⟨_, rfl⟩
          have hv := hv f12 hy13
          have hP : va_P D vwCl [(y, .inr (6, [.ref y_space, .ref y_offset, .ref y_length, .ref ya_units, .ref ya_isThere, .int (z_i y_levels), .ref y_level, .int (z_i y_lines), .ref y_lineLevel, .ref y_lineUnits, .ref y_lineFrom, .ref y_lineMany, .ref y_isClosed, .ref y_insides, .ref y_parent, .ref y_isHigh, .ref y_inBits, .int (z_i y_sides), .ref y_side, .ref y_sideA, .ref y_sideB, .int (z_i y_lineSpace), .ref y_wasThere, .ref y_leads, .ref y_isLed, .ref y_isOn, .ref y_goesTo, .ref y_stream, .ref y_filled, .ref ya_isDone, .ref ya_isReached, .ref y_newUnits, .ref y_isNew])), (ya_units, .inl (cA 1, 5120, .inl y_units)), (ya_isThere, .inl (cA 3, 5120, .inl y_isThere)), (ya_isDone, .inl (cA 3, 1280, .inl f12)), (ya_isReached, .inl (cA 3, 1280, .inl y54_ya_isReached))] H := by rw [hy13]; exact hP
          have hD : va_D A [(y, .inr (6, [.ref y_space, .ref y_offset, .ref y_length, .ref ya_units, .ref ya_isThere, .int (z_i y_levels), .ref y_level, .int (z_i y_lines), .ref y_lineLevel, .ref y_lineUnits, .ref y_lineFrom, .ref y_lineMany, .ref y_isClosed, .ref y_insides, .ref y_parent, .ref y_isHigh, .ref y_inBits, .int (z_i y_sides), .ref y_side, .ref y_sideA, .ref y_sideB, .int (z_i y_lineSpace), .ref y_wasThere, .ref y_leads, .ref y_isLed, .ref y_isOn, .ref y_goesTo, .ref y_stream, .ref y_filled, .ref ya_isDone, .ref ya_isReached, .ref y_newUnits, .ref y_isNew])), (ya_units, .inl (cA 1, 5120, .inl y_units)), (ya_isThere, .inl (cA 3, 5120, .inl y_isThere)), (ya_isDone, .inl (cA 3, 1280, .inl f12)), (ya_isReached, .inl (cA 3, 1280, .inl y54_ya_isReached))] := by rw [hy13]; exact hD
          refine lv_iconst (v := z_i 0) hx hb dX8_saddle_108 rfl ?_
          refine lv_istore (lv' := [(6, .int (z_i 0)), (3, .int (z_i s86_0)), (4, .int (z_i x54_4)), (0, .ref y), (1, .int (z_i gi)), (2, .int (z_i n))]) hx hb dX8_saddle_109 hl (by decide) rfl (fun ls hl => ?_)
          refine hv (fun (x111_6 : Int) (y111_ya_isReached : Nat → Int32) => ∀ (H : Heap) (locs : List Loc) (ls : Array Slot), va_P D vwCl [(y, .inr (6, [.ref y_space, .ref y_offset, .ref y_length, .ref ya_units, .ref ya_isThere, .int (z_i y_levels), .ref y_level, .int (z_i y_lines), .ref y_lineLevel, .ref y_lineUnits, .ref y_lineFrom, .ref y_lineMany, .ref y_isClosed, .ref y_insides, .ref y_parent, .ref y_isHigh, .ref y_inBits, .int (z_i y_sides), .ref y_side, .ref y_sideA, .ref y_sideB, .int (z_i y_lineSpace), .ref y_wasThere, .ref y_leads, .ref y_isLed, .ref y_isOn, .ref y_goesTo, .ref y_stream, .ref y_filled, .ref ya_isDone, .ref ya_isReached, .ref y_newUnits, .ref y_isNew])), (ya_units, .inl (cA 1, 5120, .inl y_units)), (ya_isThere, .inl (cA 3, 5120, .inl y_isThere)), (ya_isDone, .inl (cA 3, 1280, .inl f12)), (ya_isReached, .inl (cA 3, 1280, .inl y111_ya_isReached))] H → va_D A [(y, .inr (6, [.ref y_space, .ref y_offset, .ref y_length, .ref ya_units, .ref ya_isThere, .int (z_i y_levels), .ref y_level, .int (z_i y_lines), .ref y_lineLevel, .ref y_lineUnits, .ref y_lineFrom, .ref y_lineMany, .ref y_isClosed, .ref y_insides, .ref y_parent, .ref y_isHigh, .ref y_inBits, .int (z_i y_sides), .ref y_side, .ref y_sideA, .ref y_sideB, .int (z_i y_lineSpace), .ref y_wasThere, .ref y_leads, .ref y_isLed, .ref y_isOn, .ref y_goesTo, .ref y_stream, .ref y_filled, .ref ya_isDone, .ref ya_isReached, .ref y_newUnits, .ref y_isNew])), (ya_units, .inl (cA 1, 5120, .inl y_units)), (ya_isThere, .inl (cA 3, 5120, .inl y_isThere)), (ya_isDone, .inl (cA 3, 1280, .inl f12)), (ya_isReached, .inl (cA 3, 1280, .inl y111_ya_isReached))] → va_S A s.heap H locs → lv_has ls 8 [(6, .int (z_i x111_6)), (3, .int (z_i s86_0)), (4, .int (z_i x54_4)), (0, .ref y), (1, .int (z_i gi)), (2, .int (z_i n))] → W p l e _ s m _ below meth c H locs 0 0 _ (F0 m 111 ls [])) ?_ _ _ ls hP hD hS (lv_sub hl [0, 1, 2, 3, 4, 5] rfl)
          intro x111_6 y111_ya_isReached h_x111_6 hv H locs ls hP hD hS hl
          refine lv_iload hx hb dX8_saddle_111 (lv_at hl 0 rfl) ?_
          refine lv_bipush (v := z_i 8) hx hb dX8_saddle_113 (by decide) ?_
          refine lx_icmp_ge (tgt := 148) hx hb dX8_saddle_115 (by decide) h_x111_6 (show z_in 8 from ⟨by decide, by decide⟩) (fun hc => ?_) (fun hc => ?_)
          · have hv := hv.1 hc
            refine lv_iconst (v := z_i (-1)) hx hb dX8_saddle_148 rfl ?_
            refine lv_istore (lv' := [(4, .int (z_i (-1))), (6, .int (z_i x111_6)), (3, .int (z_i s86_0)), (0, .ref y), (1, .int (z_i gi)), (2, .int (z_i n))]) hx hb dX8_saddle_149 hl (by decide) rfl (fun ls hl => ?_)
            refine lv_iconst (v := z_i 0) hx hb dX8_saddle_151 rfl ?_
            refine lv_istore (lv' := [(6, .int (z_i 0)), (4, .int (z_i (-1))), (3, .int (z_i s86_0)), (0, .ref y), (1, .int (z_i gi)), (2, .int (z_i n))]) hx hb dX8_saddle_152 hl (by decide) rfl (fun ls hl => ?_)
            refine hv (fun (x154_6 : Int) (x154_4 : Int) => ∀ (H : Heap) (locs : List Loc) (ls : Array Slot), va_P D vwCl [(y, .inr (6, [.ref y_space, .ref y_offset, .ref y_length, .ref ya_units, .ref ya_isThere, .int (z_i y_levels), .ref y_level, .int (z_i y_lines), .ref y_lineLevel, .ref y_lineUnits, .ref y_lineFrom, .ref y_lineMany, .ref y_isClosed, .ref y_insides, .ref y_parent, .ref y_isHigh, .ref y_inBits, .int (z_i y_sides), .ref y_side, .ref y_sideA, .ref y_sideB, .int (z_i y_lineSpace), .ref y_wasThere, .ref y_leads, .ref y_isLed, .ref y_isOn, .ref y_goesTo, .ref y_stream, .ref y_filled, .ref ya_isDone, .ref ya_isReached, .ref y_newUnits, .ref y_isNew])), (ya_units, .inl (cA 1, 5120, .inl y_units)), (ya_isThere, .inl (cA 3, 5120, .inl y_isThere)), (ya_isDone, .inl (cA 3, 1280, .inl f12)), (ya_isReached, .inl (cA 3, 1280, .inl y111_ya_isReached))] H → va_D A [(y, .inr (6, [.ref y_space, .ref y_offset, .ref y_length, .ref ya_units, .ref ya_isThere, .int (z_i y_levels), .ref y_level, .int (z_i y_lines), .ref y_lineLevel, .ref y_lineUnits, .ref y_lineFrom, .ref y_lineMany, .ref y_isClosed, .ref y_insides, .ref y_parent, .ref y_isHigh, .ref y_inBits, .int (z_i y_sides), .ref y_side, .ref y_sideA, .ref y_sideB, .int (z_i y_lineSpace), .ref y_wasThere, .ref y_leads, .ref y_isLed, .ref y_isOn, .ref y_goesTo, .ref y_stream, .ref y_filled, .ref ya_isDone, .ref ya_isReached, .ref y_newUnits, .ref y_isNew])), (ya_units, .inl (cA 1, 5120, .inl y_units)), (ya_isThere, .inl (cA 3, 5120, .inl y_isThere)), (ya_isDone, .inl (cA 3, 1280, .inl f12)), (ya_isReached, .inl (cA 3, 1280, .inl y111_ya_isReached))] → va_S A s.heap H locs → lv_has ls 8 [(6, .int (z_i x154_6)), (4, .int (z_i x154_4)), (3, .int (z_i s86_0)), (0, .ref y), (1, .int (z_i gi)), (2, .int (z_i n))] → W p l e _ s m _ below meth c H locs 0 0 _ (F0 m 154 ls [])) ?_ _ _ ls hP hD hS (lv_sub hl [0, 1, 2, 3, 4, 5] rfl)
            intro x154_6 x154_4 h_x154_6 h_x154_4 hv H locs ls hP hD hS hl
            refine lv_iload hx hb dX8_saddle_154 (lv_at hl 0 rfl) ?_
            refine lv_sipush (v := z_i 1280) hx hb dX8_saddle_156 (by decide) ?_
            refine lx_icmp_ge (tgt := 226) hx hb dX8_saddle_159 (by decide) h_x154_6 (show z_in 1280 from ⟨by decide, by decide⟩) (fun hc => ?_) (fun hc => ?_)
            · have hv := hv.1 hc
              refine lv_goto (tgt := 54) hx hb dX8_saddle_226 (by decide) ?_
              exact hv _ _ ls hP hD hS (lv_sub hl [1, 2, 3, 4, 5] rfl)
            · have hv := hv.2 hc
              refine lv_aload_n hx hb dX8_saddle_162 rfl (lv_at hl 3 rfl) ?_
              refine va_get (D := D) (ci := 6) (v := .ref ya_isReached) (C := RX8) (T := TX8) (N := 33) hx hb hts (fun w h => List.mem_cons_of_mem _ (List.mem_append_right _ h)) hown hK hP 0 rfl rfl 30 (by decide) (hts (.fieldLink RX8 90 "ContourSheetsModel" "isReached" "[Z") (by decide +kernel)) (fun _ h9 => h9) rfl dX8_saddle_163 ?_
              refine lv_iload hx hb dX8_saddle_166 (lv_at hl 0 rfl) ?_
              obtain ⟨hi14, hv⟩ := hv
              refine lx_zald hx hb hK hP 4 3 rfl rfl (by decide) hi14.1 hi14.2 dX8_saddle_168 ?_
              refine lx_if_eq (tgt := 220) hx hb dX8_saddle_169 (by decide) (z_in_g _ _) (fun hc => ?_) (fun hc => ?_)
              · have hv := hv.1 hc
                refine lv_iinc (v := z_i (x154_6 + 1)) (lv' := [(6, .int (z_i (x154_6 + 1))), (4, .int (z_i x154_4)), (3, .int (z_i s86_0)), (0, .ref y), (1, .int (z_i gi)), (2, .int (z_i n))]) hx hb dX8_saddle_220 hl (k := 0) rfl (z_i_add _ _) (by decide) rfl (fun ls hl => ?_)
                refine lv_goto (tgt := 154) hx hb dX8_saddle_223 (by decide) ?_
                exact hv _ _ ls hP hD hS (lv_sub hl [0, 1, 2, 3, 4, 5] rfl)
              · have hv := hv.2 hc
                refine lv_aload_n hx hb dX8_saddle_172 rfl (lv_at hl 3 rfl) ?_
                refine va_get (D := D) (ci := 6) (v := .ref ya_isDone) (C := RX8) (T := TX8) (N := 33) hx hb hts (fun w h => List.mem_cons_of_mem _ (List.mem_append_right _ h)) hown hK hP 0 rfl rfl 29 (by decide) (hts (.fieldLink RX8 87 "ContourSheetsModel" "isDone" "[Z") (by decide +kernel)) (fun _ h9 => h9) rfl dX8_saddle_173 ?_
                refine lv_iload hx hb dX8_saddle_176 (lv_at hl 0 rfl) ?_
                refine lx_zald hx hb hK hP 3 3 rfl rfl (by decide) hi14.1 hi14.2 dX8_saddle_178 ?_
                refine lx_if_ne (tgt := 220) hx hb dX8_saddle_179 (by decide) (z_in_g _ _) (fun hc => ?_) (fun hc => ?_)
                · have hv := hv.1 hc
                  refine lv_iinc (v := z_i (x154_6 + 1)) (lv' := [(6, .int (z_i (x154_6 + 1))), (4, .int (z_i x154_4)), (3, .int (z_i s86_0)), (0, .ref y), (1, .int (z_i gi)), (2, .int (z_i n))]) hx hb dX8_saddle_220 hl (k := 0) rfl (z_i_add _ _) (by decide) rfl (fun ls hl => ?_)
                  refine lv_goto (tgt := 154) hx hb dX8_saddle_223 (by decide) ?_
                  exact hv _ _ ls hP hD hS (lv_sub hl [0, 1, 2, 3, 4, 5] rfl)
                · have hv := hv.2 hc
                  refine lv_iload hx hb dX8_saddle_182 (lv_at hl 1 rfl) ?_
                  refine lx_if_lt (tgt := 216) hx hb dX8_saddle_184 (by decide) h_x154_4 (fun hc => ?_) (fun hc => ?_)
                  · have hv := hv.1 hc
                    refine lv_iload hx hb dX8_saddle_216 (lv_at hl 0 rfl) ?_
                    refine lv_istore (lv' := [(4, .int (z_i x154_6)), (6, .int (z_i x154_6)), (3, .int (z_i s86_0)), (0, .ref y), (1, .int (z_i gi)), (2, .int (z_i n))]) hx hb dX8_saddle_218 hl (by decide) rfl (fun ls hl => ?_)
                    refine lv_iinc (v := z_i (x154_6 + 1)) (lv' := [(6, .int (z_i (x154_6 + 1))), (4, .int (z_i x154_6)), (3, .int (z_i s86_0)), (0, .ref y), (1, .int (z_i gi)), (2, .int (z_i n))]) hx hb dX8_saddle_220 hl (k := 1) rfl (z_i_add _ _) (by decide) rfl (fun ls hl => ?_)
                    refine lv_goto (tgt := 154) hx hb dX8_saddle_223 (by decide) ?_
                    exact hv _ _ ls hP hD hS (lv_sub hl [0, 1, 2, 3, 4, 5] rfl)
                  · have hv := hv.2 hc
                    refine lv_aload_n hx hb dX8_saddle_187 rfl (lv_at hl 3 rfl) ?_
                    refine va_get (D := D) (ci := 6) (v := .ref ya_units) (C := RX8) (T := TX8) (N := 33) hx hb hts (fun w h => List.mem_cons_of_mem _ (List.mem_append_right _ h)) hown hK hP 0 rfl rfl 3 (by decide) (hts (.fieldLink RX8 19 "ContourSheetsModel" "units" "[I") (by decide +kernel)) (fun _ h9 => h9) rfl dX8_saddle_188 ?_
                    refine lv_sipush (v := z_i 1280) hx hb dX8_saddle_191 (by decide) ?_
                    refine lv_iload_n hx hb dX8_saddle_194 rfl (lv_at hl 4 rfl) ?_
                    refine lx_imul hx hb dX8_saddle_195 ?_
                    refine lv_iload hx hb dX8_saddle_196 (lv_at hl 0 rfl) ?_
                    refine lx_iadd hx hb dX8_saddle_198 ?_
                    obtain ⟨hi15, hv⟩ := hv
                    refine lx_iald hx hb hK hP 1 1 rfl rfl (by decide) hi15.1 hi15.2 dX8_saddle_199 ?_
                    refine lv_aload_n hx hb dX8_saddle_200 rfl (lv_at hl 3 rfl) ?_
                    refine va_get (D := D) (ci := 6) (v := .ref ya_units) (C := RX8) (T := TX8) (N := 33) hx hb hts (fun w h => List.mem_cons_of_mem _ (List.mem_append_right _ h)) hown hK hP 0 rfl rfl 3 (by decide) (hts (.fieldLink RX8 19 "ContourSheetsModel" "units" "[I") (by decide +kernel)) (fun _ h9 => h9) rfl dX8_saddle_201 ?_
                    refine lv_sipush (v := z_i 1280) hx hb dX8_saddle_204 (by decide) ?_
                    refine lv_iload_n hx hb dX8_saddle_207 rfl (lv_at hl 4 rfl) ?_
                    refine lx_imul hx hb dX8_saddle_208 ?_
                    refine lv_iload hx hb dX8_saddle_209 (lv_at hl 1 rfl) ?_
                    refine lx_iadd hx hb dX8_saddle_211 ?_
                    obtain ⟨hi16, hv⟩ := hv
                    refine lx_iald hx hb hK hP 1 1 rfl rfl (by decide) hi16.1 hi16.2 dX8_saddle_212 ?_
                    refine lx_icmp_le (tgt := 220) hx hb dX8_saddle_213 (by decide) (z_in_g _ _) (z_in_g _ _) (fun hc => ?_) (fun hc => ?_)
                    · have hv := hv.1 hc
                      refine lv_iinc (v := z_i (x154_6 + 1)) (lv' := [(6, .int (z_i (x154_6 + 1))), (4, .int (z_i x154_4)), (3, .int (z_i s86_0)), (0, .ref y), (1, .int (z_i gi)), (2, .int (z_i n))]) hx hb dX8_saddle_220 hl (k := 0) rfl (z_i_add _ _) (by decide) rfl (fun ls hl => ?_)
                      refine lv_goto (tgt := 154) hx hb dX8_saddle_223 (by decide) ?_
                      exact hv _ _ ls hP hD hS (lv_sub hl [0, 1, 2, 3, 4, 5] rfl)
                    · have hv := hv.2 hc
                      refine lv_iload hx hb dX8_saddle_216 (lv_at hl 0 rfl) ?_
                      refine lv_istore (lv' := [(4, .int (z_i x154_6)), (6, .int (z_i x154_6)), (3, .int (z_i s86_0)), (0, .ref y), (1, .int (z_i gi)), (2, .int (z_i n))]) hx hb dX8_saddle_218 hl (by decide) rfl (fun ls hl => ?_)
                      refine lv_iinc (v := z_i (x154_6 + 1)) (lv' := [(6, .int (z_i (x154_6 + 1))), (4, .int (z_i x154_6)), (3, .int (z_i s86_0)), (0, .ref y), (1, .int (z_i gi)), (2, .int (z_i n))]) hx hb dX8_saddle_220 hl (k := 1) rfl (z_i_add _ _) (by decide) rfl (fun ls hl => ?_)
                      refine lv_goto (tgt := 154) hx hb dX8_saddle_223 (by decide) ?_
                      exact hv _ _ ls hP hD hS (lv_sub hl [0, 1, 2, 3, 4, 5] rfl)
          · have hv := hv.2 hc
            refine lv_aload_n hx hb dX8_saddle_118 rfl (lv_at hl 3 rfl) ?_
            refine lv_iload_n hx hb dX8_saddle_119 rfl (lv_at hl 4 rfl) ?_
            refine lv_iload hx hb dX8_saddle_120 (lv_at hl 2 rfl) ?_
            refine lv_iload hx hb dX8_saddle_122 (lv_at hl 0 rfl) ?_
            obtain ⟨hp17, hv⟩ := hv
            obtain ⟨hp18, hv⟩ := hv
            obtain ⟨hp19, hv⟩ := hv
            refine va_calli (va_runV (As := [.int (z_i gi), .int (z_i x54_4), .int (z_i x111_6)]) (rest := []) ⟨hx, hb, hml, hown, hts⟩ (mt_X8_neighbour l D cA y y_space y_offset y_length ya_units ya_isThere y_isThere y_levels y_level y_lines y_lineLevel y_lineUnits y_lineFrom y_lineMany y_isClosed y_insides y_parent y_isHigh y_inBits y_sides y_side y_sideA y_sideB y_lineSpace y_wasThere y_leads y_isLed y_isOn y_goesTo y_stream y_filled ya_isDone ya_isReached y_newUnits y_isNew gi x54_4 x111_6 h_y_levels h_y_lines h_y_sides h_y_lineSpace h_gi h_x54_4 h_x111_6 hp17 hp18 hp19) (cwV 3 hts gX8_saddle_X8_neighbour rfl rfl rfl (by decide +kernel) ⟨Nat.le_of_ble_eq_true rfl, Nat.le_of_ble_eq_true rfl⟩) ⟨z_bl0, va_recv hK hP (ci := 6) (q0 := 0) rfl rfl, fun U hU hW => ⟨rfl, z_b0 hK (hP.sub (ws' := [(y, .inr (6, [.ref y_space, .ref y_offset, .ref y_length, .ref ya_units, .ref ya_isThere, .int (z_i y_levels), .ref y_level, .int (z_i y_lines), .ref y_lineLevel, .ref y_lineUnits, .ref y_lineFrom, .ref y_lineMany, .ref y_isClosed, .ref y_insides, .ref y_parent, .ref y_isHigh, .ref y_inBits, .int (z_i y_sides), .ref y_side, .ref y_sideA, .ref y_sideB, .int (z_i y_lineSpace), .ref y_wasThere, .ref y_leads, .ref y_isLed, .ref y_isOn, .ref y_goesTo, .ref y_stream, .ref y_filled, .ref ya_isDone, .ref ya_isReached, .ref y_newUnits, .ref y_isNew])), (ya_isThere, .inl (cA 3, 5120, .inl y_isThere))]) [0, 2] rfl) hU hW⟩⟩ rfl rfl hl.1 rfl (lv_room (Nat.le_of_ble_eq_true rfl)) dX8_saddle_124 ⟨Nat.zero_le _, Nat.zero_le _⟩) hS (fun q _ h => h.elim) (fun q h => h.elim) (fun r0 u t H locs ht hvm hw hB hz1 hk1 hS => ?_)
            obtain ⟨r20, rfl, h_r20, hw⟩ := hw
            have hP := z_P_all hP hk1
            have hv := hv r20 h_r20 hw
            refine lv_istore (lv' := [(7, .int (z_i r20)), (6, .int (z_i x111_6)), (3, .int (z_i s86_0)), (4, .int (z_i x54_4)), (0, .ref y), (1, .int (z_i gi)), (2, .int (z_i n))]) hx hb dX8_saddle_127 hl (by decide) rfl (fun ls hl => ?_)
            refine lv_iload hx hb dX8_saddle_129 (lv_at hl 0 rfl) ?_
            refine lx_if_lt (tgt := 142) hx hb dX8_saddle_131 (by decide) h_r20 (fun hc => ?_) (fun hc => ?_)
            · have hv := hv.1 hc
              refine lv_iinc (v := z_i (x111_6 + 1)) (lv' := [(6, .int (z_i (x111_6 + 1))), (7, .int (z_i r20)), (3, .int (z_i s86_0)), (4, .int (z_i x54_4)), (0, .ref y), (1, .int (z_i gi)), (2, .int (z_i n))]) hx hb dX8_saddle_142 hl (k := 1) rfl (z_i_add _ _) (by decide) rfl (fun ls hl => ?_)
              refine lv_goto (tgt := 111) hx hb dX8_saddle_145 (by decide) ?_
              exact hv _ _ ls hP hD hS (lv_sub hl [0, 2, 3, 4, 5, 6] rfl)
            · have hv := hv.2 hc
              refine lv_aload_n hx hb dX8_saddle_134 rfl (lv_at hl 4 rfl) ?_
              refine va_get (D := D) (ci := 6) (v := .ref ya_isReached) (C := RX8) (T := TX8) (N := 33) hx hb hts (fun w h => List.mem_cons_of_mem _ (List.mem_append_right _ h)) hown hK hP 0 rfl rfl 30 (by decide) (hts (.fieldLink RX8 90 "ContourSheetsModel" "isReached" "[Z") (by decide +kernel)) (fun _ h9 => h9) rfl dX8_saddle_135 ?_
              refine lv_iload hx hb dX8_saddle_138 (lv_at hl 0 rfl) ?_
              refine lv_iconst (v := z_i 1) hx hb dX8_saddle_140 rfl ?_
              obtain ⟨hi21, hv⟩ := hv
              refine lx_zast hx hb hK hP hD hS 4 3 rfl rfl (by decide) hi21.1 hi21.2 (by decide) dX8_saddle_141 (fun H locs hP hD hS => ?_)
              obtain ⟨f22, hy23⟩ : ∃ y : Nat → Int32, y = z_s y111_ya_isReached r20 1 := ⟨_, rfl⟩
              have hv := hv f22 hy23
              have hP : va_P D vwCl [(y, .inr (6, [.ref y_space, .ref y_offset, .ref y_length, .ref ya_units, .ref ya_isThere, .int (z_i y_levels), .ref y_level, .int (z_i y_lines), .ref y_lineLevel, .ref y_lineUnits, .ref y_lineFrom, .ref y_lineMany, .ref y_isClosed, .ref y_insides, .ref y_parent, .ref y_isHigh, .ref y_inBits, .int (z_i y_sides), .ref y_side, .ref y_sideA, .ref y_sideB, .int (z_i y_lineSpace), .ref y_wasThere, .ref y_leads, .ref y_isLed, .ref y_isOn, .ref y_goesTo, .ref y_stream, .ref y_filled, .ref ya_isDone, .ref ya_isReached, .ref y_newUnits, .ref y_isNew])), (ya_units, .inl (cA 1, 5120, .inl y_units)), (ya_isThere, .inl (cA 3, 5120, .inl y_isThere)), (ya_isDone, .inl (cA 3, 1280, .inl f12)), (ya_isReached, .inl (cA 3, 1280, .inl f22))] H := by rw [hy23]; exact hP
              have hD : va_D A [(y, .inr (6, [.ref y_space, .ref y_offset, .ref y_length, .ref ya_units, .ref ya_isThere, .int (z_i y_levels), .ref y_level, .int (z_i y_lines), .ref y_lineLevel, .ref y_lineUnits, .ref y_lineFrom, .ref y_lineMany, .ref y_isClosed, .ref y_insides, .ref y_parent, .ref y_isHigh, .ref y_inBits, .int (z_i y_sides), .ref y_side, .ref y_sideA, .ref y_sideB, .int (z_i y_lineSpace), .ref y_wasThere, .ref y_leads, .ref y_isLed, .ref y_isOn, .ref y_goesTo, .ref y_stream, .ref y_filled, .ref ya_isDone, .ref ya_isReached, .ref y_newUnits, .ref y_isNew])), (ya_units, .inl (cA 1, 5120, .inl y_units)), (ya_isThere, .inl (cA 3, 5120, .inl y_isThere)), (ya_isDone, .inl (cA 3, 1280, .inl f12)), (ya_isReached, .inl (cA 3, 1280, .inl f22))] := by rw [hy23]; exact hD
              refine lv_iinc (v := z_i (x111_6 + 1)) (lv' := [(6, .int (z_i (x111_6 + 1))), (7, .int (z_i r20)), (3, .int (z_i s86_0)), (4, .int (z_i x54_4)), (0, .ref y), (1, .int (z_i gi)), (2, .int (z_i n))]) hx hb dX8_saddle_142 hl (k := 1) rfl (z_i_add _ _) (by decide) rfl (fun ls hl => ?_)
              refine lv_goto (tgt := 111) hx hb dX8_saddle_145 (by decide) ?_
              exact hv _ _ ls hP hD hS (lv_sub hl [0, 2, 3, 4, 5, 6] rfl)
        · have hv := hv.2 hc
          refine lv_iload_n hx hb dX8_saddle_98 rfl (lv_at hl 0 rfl) ?_
          exact W.iret (v := z_i s86_0) hx hb hr (fun t ht hW => ⟨⟨z_i s86_0, (y54_ya_isDone, y54_ya_isReached), rfl, ⟨s86_0, rfl, h_s86_0, hv⟩, z_pt hP ht⟩, hS.F ht⟩) hS.2.2 dX8_saddle_99)
      refine lv_iload hx hb dX8_saddle_74 (lv_at hl 0 rfl) ?_
      refine lv_iload_n hx hb dX8_saddle_76 rfl (lv_at hl 2 rfl) ?_
      refine lx_icmp_ge (tgt := 85) hx hb dX8_saddle_77 (by decide) h_v5 h_x54_3 (fun hc => ?_) (fun hc => ?_)
      · have hv := hv.1 hc
        refine lv_iload_n hx hb dX8_saddle_85 rfl (lv_at hl 2 rfl) ?_
        exact hv _ _ ls hP hD hS (lv_sub hl [1, 3, 4, 5] rfl)
      · have hv := hv.2 hc
        refine lv_iload hx hb dX8_saddle_80 (lv_at hl 0 rfl) ?_
        refine lv_goto (tgt := 86) hx hb dX8_saddle_82 (by decide) ?_
        exact hv _ _ ls hP hD hS (lv_sub hl [1, 3, 4, 5] rfl)
  · have hv := hv.2 hc
    refine lv_aload_n hx hb dX8_saddle_9 rfl (lv_at hl 1 rfl) ?_
    refine va_get (D := D) (ci := 6) (v := .ref ya_isDone) (C := RX8) (T := TX8) (N := 33) hx hb hts (fun w h => List.mem_cons_of_mem _ (List.mem_append_right _ h)) hown hK hP 0 rfl rfl 29 (by decide) (hts (.fieldLink RX8 87 "ContourSheetsModel" "isDone" "[Z") (by decide +kernel)) (fun _ h9 => h9) rfl dX8_saddle_10 ?_
    refine lv_iload_n hx hb dX8_saddle_13 rfl (lv_at hl 0 rfl) ?_
    refine lv_iconst (v := z_i 0) hx hb dX8_saddle_14 rfl ?_
    obtain ⟨hi24, hv⟩ := hv
    refine lx_zast hx hb hK hP hD hS 3 3 rfl rfl (by decide) hi24.1 hi24.2 (by decide) dX8_saddle_15 (fun H locs hP hD hS => ?_)
    obtain ⟨f25, hy26⟩ : ∃ y : Nat → Int32, y = z_s y2_ya_isDone x2_3 0 := ⟨_, rfl⟩
    have hv := hv f25 hy26
    have hP : va_P D vwCl [(y, .inr (6, [.ref y_space, .ref y_offset, .ref y_length, .ref ya_units, .ref ya_isThere, .int (z_i y_levels), .ref y_level, .int (z_i y_lines), .ref y_lineLevel, .ref y_lineUnits, .ref y_lineFrom, .ref y_lineMany, .ref y_isClosed, .ref y_insides, .ref y_parent, .ref y_isHigh, .ref y_inBits, .int (z_i y_sides), .ref y_side, .ref y_sideA, .ref y_sideB, .int (z_i y_lineSpace), .ref y_wasThere, .ref y_leads, .ref y_isLed, .ref y_isOn, .ref y_goesTo, .ref y_stream, .ref y_filled, .ref ya_isDone, .ref ya_isReached, .ref y_newUnits, .ref y_isNew])), (ya_units, .inl (cA 1, 5120, .inl y_units)), (ya_isThere, .inl (cA 3, 5120, .inl y_isThere)), (ya_isDone, .inl (cA 3, 1280, .inl f25)), (ya_isReached, .inl (cA 3, 1280, .inl y2_ya_isReached))] H := by rw [hy26]; exact hP
    have hD : va_D A [(y, .inr (6, [.ref y_space, .ref y_offset, .ref y_length, .ref ya_units, .ref ya_isThere, .int (z_i y_levels), .ref y_level, .int (z_i y_lines), .ref y_lineLevel, .ref y_lineUnits, .ref y_lineFrom, .ref y_lineMany, .ref y_isClosed, .ref y_insides, .ref y_parent, .ref y_isHigh, .ref y_inBits, .int (z_i y_sides), .ref y_side, .ref y_sideA, .ref y_sideB, .int (z_i y_lineSpace), .ref y_wasThere, .ref y_leads, .ref y_isLed, .ref y_isOn, .ref y_goesTo, .ref y_stream, .ref y_filled, .ref ya_isDone, .ref ya_isReached, .ref y_newUnits, .ref y_isNew])), (ya_units, .inl (cA 1, 5120, .inl y_units)), (ya_isThere, .inl (cA 3, 5120, .inl y_isThere)), (ya_isDone, .inl (cA 3, 1280, .inl f25)), (ya_isReached, .inl (cA 3, 1280, .inl y2_ya_isReached))] := by rw [hy26]; exact hD
    refine lv_aload_n hx hb dX8_saddle_16 rfl (lv_at hl 1 rfl) ?_
    refine va_get (D := D) (ci := 6) (v := .ref ya_isReached) (C := RX8) (T := TX8) (N := 33) hx hb hts (fun w h => List.mem_cons_of_mem _ (List.mem_append_right _ h)) hown hK hP 0 rfl rfl 30 (by decide) (hts (.fieldLink RX8 90 "ContourSheetsModel" "isReached" "[Z") (by decide +kernel)) (fun _ h9 => h9) rfl dX8_saddle_17 ?_
    refine lv_iload_n hx hb dX8_saddle_20 rfl (lv_at hl 0 rfl) ?_
    refine lv_iload_n hx hb dX8_saddle_21 rfl (lv_at hl 0 rfl) ?_
    refine lv_iload_n hx hb dX8_saddle_22 rfl (lv_at hl 3 rfl) ?_
    refine lx_icmp_ne (tgt := 30) hx hb dX8_saddle_23 (by decide) h_x2_3 h_n (fun hc => ?_) (fun hc => ?_)
    · have hv := hv.1 hc
      refine lv_iconst (v := z_i 0) hx hb dX8_saddle_30 rfl ?_
      refine lx_zast hx hb hK hP hD hS 4 3 rfl rfl (by decide) hi24.1 hi24.2 (by decide) dX8_saddle_31 (fun H locs hP hD hS => ?_)
      obtain ⟨f27, hy28⟩ : ∃ y : Nat → Int32, y = z_s y2_ya_isReached x2_3 0 := ⟨_, rfl⟩
      have hv := hv f27 hy28
      have hP : va_P D vwCl [(y, .inr (6, [.ref y_space, .ref y_offset, .ref y_length, .ref ya_units, .ref ya_isThere, .int (z_i y_levels), .ref y_level, .int (z_i y_lines), .ref y_lineLevel, .ref y_lineUnits, .ref y_lineFrom, .ref y_lineMany, .ref y_isClosed, .ref y_insides, .ref y_parent, .ref y_isHigh, .ref y_inBits, .int (z_i y_sides), .ref y_side, .ref y_sideA, .ref y_sideB, .int (z_i y_lineSpace), .ref y_wasThere, .ref y_leads, .ref y_isLed, .ref y_isOn, .ref y_goesTo, .ref y_stream, .ref y_filled, .ref ya_isDone, .ref ya_isReached, .ref y_newUnits, .ref y_isNew])), (ya_units, .inl (cA 1, 5120, .inl y_units)), (ya_isThere, .inl (cA 3, 5120, .inl y_isThere)), (ya_isDone, .inl (cA 3, 1280, .inl f25)), (ya_isReached, .inl (cA 3, 1280, .inl f27))] H := by rw [hy28]; exact hP
      have hD : va_D A [(y, .inr (6, [.ref y_space, .ref y_offset, .ref y_length, .ref ya_units, .ref ya_isThere, .int (z_i y_levels), .ref y_level, .int (z_i y_lines), .ref y_lineLevel, .ref y_lineUnits, .ref y_lineFrom, .ref y_lineMany, .ref y_isClosed, .ref y_insides, .ref y_parent, .ref y_isHigh, .ref y_inBits, .int (z_i y_sides), .ref y_side, .ref y_sideA, .ref y_sideB, .int (z_i y_lineSpace), .ref y_wasThere, .ref y_leads, .ref y_isLed, .ref y_isOn, .ref y_goesTo, .ref y_stream, .ref y_filled, .ref ya_isDone, .ref ya_isReached, .ref y_newUnits, .ref y_isNew])), (ya_units, .inl (cA 1, 5120, .inl y_units)), (ya_isThere, .inl (cA 3, 5120, .inl y_isThere)), (ya_isDone, .inl (cA 3, 1280, .inl f25)), (ya_isReached, .inl (cA 3, 1280, .inl f27))] := by rw [hy28]; exact hD
      refine lv_iinc (v := z_i (x2_3 + 1)) (lv' := [(3, .int (z_i (x2_3 + 1))), (0, .ref y), (1, .int (z_i gi)), (2, .int (z_i n))]) hx hb dX8_saddle_32 hl (k := 0) rfl (z_i_add _ _) (by decide) rfl (fun ls hl => ?_)
      refine lv_goto (tgt := 2) hx hb dX8_saddle_35 (by decide) ?_
      exact hv _ _ ls hP hD hS (lv_sub hl [0, 1, 2, 3] rfl)
    · have hv := hv.2 hc
      refine lv_iconst (v := z_i 1) hx hb dX8_saddle_26 rfl ?_
      refine lv_goto (tgt := 31) hx hb dX8_saddle_27 (by decide) ?_
      refine lx_zast hx hb hK hP hD hS 4 3 rfl rfl (by decide) hi24.1 hi24.2 (by decide) dX8_saddle_31 (fun H locs hP hD hS => ?_)
      obtain ⟨f29, hy30⟩ : ∃ y : Nat → Int32, y = z_s y2_ya_isReached x2_3 1 := ⟨_, rfl⟩
      have hv := hv f29 hy30
      have hP : va_P D vwCl [(y, .inr (6, [.ref y_space, .ref y_offset, .ref y_length, .ref ya_units, .ref ya_isThere, .int (z_i y_levels), .ref y_level, .int (z_i y_lines), .ref y_lineLevel, .ref y_lineUnits, .ref y_lineFrom, .ref y_lineMany, .ref y_isClosed, .ref y_insides, .ref y_parent, .ref y_isHigh, .ref y_inBits, .int (z_i y_sides), .ref y_side, .ref y_sideA, .ref y_sideB, .int (z_i y_lineSpace), .ref y_wasThere, .ref y_leads, .ref y_isLed, .ref y_isOn, .ref y_goesTo, .ref y_stream, .ref y_filled, .ref ya_isDone, .ref ya_isReached, .ref y_newUnits, .ref y_isNew])), (ya_units, .inl (cA 1, 5120, .inl y_units)), (ya_isThere, .inl (cA 3, 5120, .inl y_isThere)), (ya_isDone, .inl (cA 3, 1280, .inl f25)), (ya_isReached, .inl (cA 3, 1280, .inl f29))] H := by rw [hy30]; exact hP
      have hD : va_D A [(y, .inr (6, [.ref y_space, .ref y_offset, .ref y_length, .ref ya_units, .ref ya_isThere, .int (z_i y_levels), .ref y_level, .int (z_i y_lines), .ref y_lineLevel, .ref y_lineUnits, .ref y_lineFrom, .ref y_lineMany, .ref y_isClosed, .ref y_insides, .ref y_parent, .ref y_isHigh, .ref y_inBits, .int (z_i y_sides), .ref y_side, .ref y_sideA, .ref y_sideB, .int (z_i y_lineSpace), .ref y_wasThere, .ref y_leads, .ref y_isLed, .ref y_isOn, .ref y_goesTo, .ref y_stream, .ref y_filled, .ref ya_isDone, .ref ya_isReached, .ref y_newUnits, .ref y_isNew])), (ya_units, .inl (cA 1, 5120, .inl y_units)), (ya_isThere, .inl (cA 3, 5120, .inl y_isThere)), (ya_isDone, .inl (cA 3, 1280, .inl f25)), (ya_isReached, .inl (cA 3, 1280, .inl f29))] := by rw [hy30]; exact hD
      refine lv_iinc (v := z_i (x2_3 + 1)) (lv' := [(3, .int (z_i (x2_3 + 1))), (0, .ref y), (1, .int (z_i gi)), (2, .int (z_i n))]) hx hb dX8_saddle_32 hl (k := 0) rfl (z_i_add _ _) (by decide) rfl (fun ls hl => ?_)
      refine lv_goto (tgt := 2) hx hb dX8_saddle_35 (by decide) ?_
      exact hv _ _ ls hP hD hS (lv_sub hl [0, 1, 2, 3] rfl)
set_option maxHeartbeats 4000000 in
set_option maxRecDepth 100000 in
theorem mt_X8_saddle (l : Launch) (D : va_G) (cA : Nat → ClassId) (y : Nat) (y_space : Nat) (y_offset : Nat) (y_length : Nat) (ya_units : Nat) (y_units : Nat → Int32) (ya_isThere : Nat) (y_isThere : Nat → Int32) (y_levels : Int) (y_level : Nat) (y_lines : Int) (y_lineLevel : Nat) (y_lineUnits : Nat) (y_lineFrom : Nat) (y_lineMany : Nat) (y_isClosed : Nat) (y_insides : Nat) (y_parent : Nat) (y_isHigh : Nat) (y_inBits : Nat) (y_sides : Int) (y_side : Nat) (y_sideA : Nat) (y_sideB : Nat) (y_lineSpace : Int) (y_wasThere : Nat) (y_leads : Nat) (y_isLed : Nat) (y_isOn : Nat) (y_goesTo : Nat) (y_stream : Nat) (y_filled : Nat) (ya_isDone : Nat) (y_isDone : Nat → Int32) (ya_isReached : Nat) (y_isReached : Nat → Int32) (y_newUnits : Nat) (y_isNew : Nat) (gi : Int) (n : Int) (h_y_levels : z_in y_levels) (h_y_lines : z_in y_lines) (h_y_sides : z_in y_sides) (h_y_lineSpace : z_in y_lineSpace) (h_gi : z_in gi) (h_n : z_in n) (hp1 : 0 ≤ gi ∧ gi < 4) (hp2 : q_bd y_units) (hp3 : q_th y_isThere gi n = true) : Met l yX8_saddle wsX8_saddle ({ frames := 3, cells := 0, slots := 0, locals := 70 } : Room) (va_Pc [.ref y, .int (z_i gi), .int (z_i n)] (z_M0 D cA [(y, .inr (6, [.ref y_space, .ref y_offset, .ref y_length, .ref ya_units, .ref ya_isThere, .int (z_i y_levels), .ref y_level, .int (z_i y_lines), .ref y_lineLevel, .ref y_lineUnits, .ref y_lineFrom, .ref y_lineMany, .ref y_isClosed, .ref y_insides, .ref y_parent, .ref y_isHigh, .ref y_inBits, .int (z_i y_sides), .ref y_side, .ref y_sideA, .ref y_sideB, .int (z_i y_lineSpace), .ref y_wasThere, .ref y_leads, .ref y_isLed, .ref y_isOn, .ref y_goesTo, .ref y_stream, .ref y_filled, .ref ya_isDone, .ref ya_isReached, .ref y_newUnits, .ref y_isNew])), (ya_units, .inl (cA 1, 5120, .inl y_units)), (ya_isThere, .inl (cA 3, 5120, .inl y_isThere)), (ya_isDone, .inl (cA 3, 1280, .inl y_isDone)), (ya_isReached, .inl (cA 3, 1280, .inl y_isReached))])) (va_Qi (z_mi (fun v (u : (Nat → Int32) × (Nat → Int32)) => (fun (r : Int) (y_isDone' : (Nat → Int32)) (y_isReached' : (Nat → Int32)) => w_ans (-1) (q_th y_isThere gi) (q_at y_units y_isThere gi) n r) v u.1 u.2)) (fun (u : (Nat → Int32) × (Nat → Int32)) t => va_P D vwCl [(y, .inr (6, [.ref y_space, .ref y_offset, .ref y_length, .ref ya_units, .ref ya_isThere, .int (z_i y_levels), .ref y_level, .int (z_i y_lines), .ref y_lineLevel, .ref y_lineUnits, .ref y_lineFrom, .ref y_lineMany, .ref y_isClosed, .ref y_insides, .ref y_parent, .ref y_isHigh, .ref y_inBits, .int (z_i y_sides), .ref y_side, .ref y_sideA, .ref y_sideB, .int (z_i y_lineSpace), .ref y_wasThere, .ref y_leads, .ref y_isLed, .ref y_isOn, .ref y_goesTo, .ref y_stream, .ref y_filled, .ref ya_isDone, .ref ya_isReached, .ref y_newUnits, .ref y_isNew])), (ya_units, .inl (cA 1, 5120, .inl y_units)), (ya_isThere, .inl (cA 3, 5120, .inl y_isThere)), (ya_isDone, .inl (cA 3, 1280, .inl u.1)), (ya_isReached, .inl (cA 3, 1280, .inl u.2))] t.heap) (z_A [(y, .inr (6, [.ref y_space, .ref y_offset, .ref y_length, .ref ya_units, .ref ya_isThere, .int (z_i y_levels), .ref y_level, .int (z_i y_lines), .ref y_lineLevel, .ref y_lineUnits, .ref y_lineFrom, .ref y_lineMany, .ref y_isClosed, .ref y_insides, .ref y_parent, .ref y_isHigh, .ref y_inBits, .int (z_i y_sides), .ref y_side, .ref y_sideA, .ref y_sideB, .int (z_i y_lineSpace), .ref y_wasThere, .ref y_leads, .ref y_isLed, .ref y_isOn, .ref y_goesTo, .ref y_stream, .ref y_filled, .ref ya_isDone, .ref ya_isReached, .ref y_newUnits, .ref y_isNew])), (ya_units, .inl (cA 1, 5120, .inl y_units)), (ya_isThere, .inl (cA 3, 5120, .inl y_isThere)), (ya_isDone, .inl (cA 3, 1280, .inl y_isDone)), (ya_isReached, .inl (cA 3, 1280, .inl y_isReached))])) 0 0 (z_A [(y, .inr (6, [.ref y_space, .ref y_offset, .ref y_length, .ref ya_units, .ref ya_isThere, .int (z_i y_levels), .ref y_level, .int (z_i y_lines), .ref y_lineLevel, .ref y_lineUnits, .ref y_lineFrom, .ref y_lineMany, .ref y_isClosed, .ref y_insides, .ref y_parent, .ref y_isHigh, .ref y_inBits, .int (z_i y_sides), .ref y_side, .ref y_sideA, .ref y_sideB, .int (z_i y_lineSpace), .ref y_wasThere, .ref y_leads, .ref y_isLed, .ref y_isOn, .ref y_goesTo, .ref y_stream, .ref y_filled, .ref ya_isDone, .ref ya_isReached, .ref y_newUnits, .ref y_isNew])), (ya_units, .inl (cA 1, 5120, .inl y_units)), (ya_isThere, .inl (cA 3, 5120, .inl y_isThere)), (ya_isDone, .inl (cA 3, 1280, .inl y_isDone)), (ya_isReached, .inl (cA 3, 1280, .inl y_isReached))]) := by
  refine wk_X8_saddle l D cA y y_space y_offset y_length ya_units y_units ya_isThere y_isThere y_levels y_level y_lines y_lineLevel y_lineUnits y_lineFrom y_lineMany y_isClosed y_insides y_parent y_isHigh y_inBits y_sides y_side y_sideA y_sideB y_lineSpace y_wasThere y_leads y_isLed y_isOn y_goesTo y_stream y_filled ya_isDone y_isDone ya_isReached y_isReached y_newUnits y_isNew gi n h_y_levels h_y_lines h_y_sides h_y_lineSpace h_gi h_n (fun (r : Int) (y_isDone' : (Nat → Int32)) (y_isReached' : (Nat → Int32)) => w_ans (-1) (q_th y_isThere gi) (q_at y_units y_isThere gi) n r) ?_
  unfold vc_X8_saddle
  have hU : ∀ p, (q_th y_isThere gi) p = true → -8388608 ≤ (q_at y_units y_isThere gi) p ∧ (q_at y_units y_isThere gi) p ≤ 8388608 := fun p hp => q_bd_at hp2 hp1.1 hp1.2 hp
  have hn := q_th_in hp3
  have ab : ∀ k : Int, (q_th y_isThere gi) k = true → m_ab (fun q => z_g y_units (1280 * gi + q)) k n = m_ab (q_at y_units y_isThere gi) k n := fun k hk => m_ab_q hk hp3
  have main : ∀ L54 : Int → Int → (Nat → Int32) → (Nat → Int32) → Prop, (∀ (x54_4 : Int) (x54_3 : Int) (y54_ya_isDone : Nat → Int32) (y54_ya_isReached : Nat → Int32), z_in x54_4 → z_in x54_3 → ((x54_4 < 0 → w_ans (-1) (q_th y_isThere gi) (q_at y_units y_isThere gi) n (-8388609)) ∧ (x54_4 ≥ 0 → (0 ≤ (1280 * gi) + x54_4 ∧ (1280 * gi) + x54_4 < 5120) ∧ (∀ v5 : Int, v5 = z_g y_units ((1280 * gi) + x54_4) → (∀ J86 : Int → Prop,
  (∀ (s86_0 : Int), z_in s86_0 → (0 ≤ gi ∧ gi < 4) ∧ (0 ≤ x54_4 ∧ x54_4 < 1280) ∧ (0 ≤ n ∧ n < 1280) ∧ (∀ (r10 : Int), z_in r10 → (r10 = z_b (m_ab (fun q => z_g y_units (1280 * gi + q)) x54_4 n)) → ((r10 = 0 → (0 ≤ x54_4 ∧ x54_4 < 1280) ∧ (∀ f12 : Nat → Int32, f12 = z_s y54_ya_isDone x54_4 1 → (∀ L111 : Int → (Nat → Int32) → Prop,
  (∀ (x111_6 : Int) (y111_ya_isReached : Nat → Int32), z_in x111_6 → ((x111_6 ≥ 8 → (∀ L154 : Int → Int → Prop,
  (∀ (x154_6 : Int) (x154_4 : Int), z_in x154_6 → z_in x154_4 → ((x154_6 ≥ 1280 → L54 x154_4 s86_0 f12 y111_ya_isReached) ∧
  (x154_6 < 1280 → (0 ≤ x154_6 ∧ x154_6 < 1280) ∧ ((z_g y111_ya_isReached x154_6 = 0 → L154 (x154_6 + 1) x154_4) ∧
  (z_g y111_ya_isReached x154_6 ≠ 0 → ((z_g f12 x154_6 ≠ 0 → L154 (x154_6 + 1) x154_4) ∧
  (z_g f12 x154_6 = 0 → ((x154_4 < 0 → L154 (x154_6 + 1) x154_6) ∧
  (x154_4 ≥ 0 → (0 ≤ (1280 * gi) + x154_6 ∧ (1280 * gi) + x154_6 < 5120) ∧ (0 ≤ (1280 * gi) + x154_4 ∧ (1280 * gi) + x154_4 < 5120) ∧ ((z_g y_units ((1280 * gi) + x154_6) ≤ z_g y_units ((1280 * gi) + x154_4) → L154 (x154_6 + 1) x154_4) ∧
  (z_g y_units ((1280 * gi) + x154_6) > z_g y_units ((1280 * gi) + x154_4) → L154 (x154_6 + 1) x154_6)))))))))) → L154 x154_6 x154_4) →
  L154 0 (-1))) ∧
  (x111_6 < 8 → (0 ≤ gi ∧ gi < 4) ∧ (0 ≤ x54_4 ∧ x54_4 < 1280) ∧ (0 ≤ x111_6 ∧ x111_6 < 8) ∧ (∀ (r20 : Int), z_in r20 → (r20 = m_nb (q_th y_isThere gi) x54_4 x111_6) → ((r20 < 0 → L111 (x111_6 + 1) y111_ya_isReached) ∧
  (r20 ≥ 0 → (0 ≤ r20 ∧ r20 < 1280) ∧ (∀ f22 : Nat → Int32, f22 = z_s y111_ya_isReached r20 1 → L111 (x111_6 + 1) f22)))))) → L111 x111_6 y111_ya_isReached) →
  L111 0 y54_ya_isReached))) ∧
  (r10 ≠ 0 → w_ans (-1) (q_th y_isThere gi) (q_at y_units y_isThere gi) n s86_0))) → J86 s86_0) →
  ((v5 ≥ x54_3 → J86 x54_3) ∧
  (v5 < x54_3 → J86 v5)))))) → L54 x54_4 x54_3 y54_ya_isDone y54_ya_isReached) →
    ∀ (d : Nat) (b low : Int) (dn rc : Nat → Int32) (z : Int), c_z dn 1280 + 1 ≤ d → -8388608 ≤ low → low ≤ 8388608 → bf_I (q_th y_isThere gi) (fun q => -1 * (q_at y_units y_isThere gi) q) n (w_goal (-1) (q_th y_isThere gi) (q_at y_units y_isThere gi) n) z 8 (-low) (fl_R rc) (fl_R dn) → (b = -1 ∧ (∀ q, fl_R rc q → fl_R dn q) ∨ fl_R rc b ∧ ¬ fl_R dn b ∧ ∀ q, fl_R rc q → ¬ fl_R dn q → -1 * (q_at y_units y_isThere gi) b ≤ -1 * (q_at y_units y_isThere gi) q) → L54 b low dn rc := by
    intro L54 hL54 d
    induction d with
    | zero => intro b low dn rc z h; exact absurd h (by omega)
    | succ d ih =>
      intro b low dn rc z hd l0 l1 I hb
      rcases hb with ⟨rfl, hall⟩ | ⟨hR, hnP, hmin⟩
      · exact hL54 _ _ _ _ ⟨by omega, by omega⟩ ⟨by omega, by omega⟩ ⟨fun _ => Or.inr ⟨fun c => bf_none I hall c, rfl⟩, fun h => absurd h (by omega)⟩
      · have hTb := I.1 b hR
        have hi := q_th_in hTb
        have hub := hU b hTb
        have hz0 : z_g dn b = 0 := by
          by_cases q : z_g dn b = 0
          · exact q
          · exact absurd ⟨hi.1, hi.2, q⟩ hnP
        have pop := bf_pop I hR hmin
        refine hL54 _ _ _ _ ⟨by omega, by omega⟩ ⟨by omega, by omega⟩ ⟨fun h => absurd h (by omega), fun _ => ⟨⟨by omega, by omega⟩, ?_⟩⟩
        rintro v5 rfl J hJ
        rw [← q_at_t hTb]
        suffices key : ∀ s : Int, -s = max (-low) (-1 * (q_at y_units y_isThere gi) b) → J s from ⟨fun h => key _ (by omega), fun h => key _ (by omega)⟩
        intro s hs
        refine hJ s ⟨by omega, by omega⟩ ⟨hp1, hi, hn, ?_⟩
        intro r10 _ h10
        rw [ab b hTb] at h10
        refine ⟨fun h0 => ⟨hi, ?_⟩, fun h1 => ?_⟩
        · have hng : ¬ w_goal (-1) (q_th y_isThere gi) (q_at y_units y_isThere gi) n b := by
            rintro (h | h)
            · exact absurd h.1 (by decide)
            · rw [h10, h.2] at h0; exact absurd h0 (by decide)
          rintro f12 rfl L111 hL111
          have hP' : ∀ q, fl_R (z_s dn b 1) q ↔ fl_R dn q ∨ q = b := fun q => fl_R_s hi.1 hi.2
          have I0 := pop.2 _ hP' hng hnP
          have hc := (c_z_s hi.1 hz0 1280).1 (by omega)
          have hPb : fl_R (z_s dn b 1) b := (hP' b).mpr (Or.inr rfl)
          rw [← hs] at I0
          suffices G : ∀ (d1 k : Nat) (rc : Nat → Int32), k + d1 = 8 → bf_I (q_th y_isThere gi) (fun q => -1 * (q_at y_units y_isThere gi) q) n (w_goal (-1) (q_th y_isThere gi) (q_at y_units y_isThere gi) n) b k (-s) (fl_R rc) (fl_R (z_s dn b 1)) → L111 k rc from G 8 0 rc rfl I0
          intro d1
          induction d1 with
          | zero =>
            intro k rc hk I1
            obtain rfl : k = 8 := by omega
            refine hL111 _ _ ⟨by omega, by omega⟩ ⟨fun _ => ?_, fun h => absurd h (by omega)⟩
            intro L154 hL154
            suffices S : ∀ (d2 k : Nat) (o : Int), k + d2 = 1280 → (o = -1 ∧ (∀ q, fl_R rc q → q < k → fl_R (z_s dn b 1) q) ∨ (o < k ∧ fl_R rc o) ∧ ¬ fl_R (z_s dn b 1) o ∧ ∀ q, fl_R rc q → q < k → ¬ fl_R (z_s dn b 1) q → -1 * (q_at y_units y_isThere gi) o ≤ -1 * (q_at y_units y_isThere gi) q) → L154 k o from S 1280 0 (-1) rfl (Or.inl ⟨rfl, fun q h1 h2 => absurd h2 (by have := h1.1; omega)⟩)
            intro d2
            induction d2 with
            | zero =>
              intro k o hk ho
              obtain rfl : k = 1280 := by omega
              have oin : -1 ≤ o ∧ o < 1280 := by
                rcases ho with ⟨rfl, -⟩ | ⟨h, -⟩
                · omega
                · exact ⟨by have := h.2.1; omega, by omega⟩
              refine hL154 _ _ ⟨by omega, by omega⟩ ⟨by omega, by omega⟩ ⟨fun _ => ?_, fun h => absurd h (by omega)⟩
              refine ih o s _ rc b (by omega) (by omega) (by omega) I1 ?_
              rcases ho with ⟨h1, h2⟩ | ⟨h1, h2, h3⟩
              · exact Or.inl ⟨h1, fun q hq => h2 q hq (by have := hq.2.1; omega)⟩
              · exact Or.inr ⟨h1.2, h2, fun q hq => h3 q hq (by have := hq.2.1; omega)⟩
            | succ d2 ih2 =>
              intro k o hk ho
              have oin : -1 ≤ o ∧ o < 1280 := by
                rcases ho with ⟨rfl, -⟩ | ⟨h, -⟩
                · omega
                · exact ⟨by have := h.2.1; omega, by omega⟩
              have stay : (fl_R rc k → ¬ fl_R (z_s dn b 1) k → 0 ≤ o ∧ -1 * (q_at y_units y_isThere gi) o ≤ -1 * (q_at y_units y_isThere gi) k) → L154 ((k : Int) + 1) o := by
                intro hs2
                refine ih2 (k + 1) o (by omega) ?_
                rcases ho with ⟨h1, h2⟩ | ⟨h1, h2, h3⟩
                · refine Or.inl ⟨h1, fun q hq hqk => ?_⟩
                  by_cases e : q = k
                  · rw [e] at hq ⊢
                    apply Classical.byContradiction
                    intro hh
                    have := (hs2 hq hh).1
                    omega
                  · exact h2 q hq (by omega)
                · refine Or.inr ⟨⟨by omega, h1.2⟩, h2, fun q hq hqk hnq => ?_⟩
                  by_cases e : q = k
                  · rw [e] at hq hnq ⊢
                    exact (hs2 hq hnq).2
                  · exact h3 q hq (by omega) hnq
              have take : fl_R rc k → ¬ fl_R (z_s dn b 1) k → (∀ q, fl_R rc q → q < k → ¬ fl_R (z_s dn b 1) q → -1 * (q_at y_units y_isThere gi) k ≤ -1 * (q_at y_units y_isThere gi) q) → L154 ((k : Int) + 1) k := by
                intro h1 h2 h3
                refine ih2 (k + 1) k (by omega) (Or.inr ⟨⟨by omega, h1⟩, h2, fun q hq hqk hnq => ?_⟩)
                by_cases e : q = k
                · rw [e]; exact Int.le_refl _
                · exact h3 q hq (by omega) hnq
              refine hL154 _ _ ⟨by omega, by omega⟩ ⟨by omega, by omega⟩ ⟨fun h => absurd h (by omega), fun _ => ⟨⟨by omega, by omega⟩, fun h0 => stay (fun h _ => absurd h0 h.2.2), fun h1 => ⟨fun h2 => stay (fun _ h => absurd ⟨by omega, by omega, h2⟩ h), fun h2 => ?_⟩⟩⟩
              have hRk : fl_R rc k := ⟨by omega, by omega, h1⟩
              have hPk : ¬ fl_R (z_s dn b 1) k := fun h => h.2.2 h2
              have hTk := I1.1 k hRk
              refine ⟨fun o0 => ?_, fun o0 => ⟨⟨by omega, by omega⟩, ⟨by omega, by omega⟩, ?_⟩⟩
              · rcases ho with ⟨_, h4⟩ | ⟨h4, -⟩
                · exact take hRk hPk (fun q a b c => absurd (h4 q a b) c)
                · exact absurd h4.2.1 (by omega)
              · rcases ho with ⟨h4, -⟩ | ⟨h4, h5, h6⟩
                · exact absurd h4 (by omega)
                · have hTo := I1.1 o h4.2
                  rw [← q_at_t hTo, ← q_at_t hTk]
                  exact ⟨fun hle => stay (fun _ _ => ⟨o0, by omega⟩), fun hgt => take hRk hPk (fun q a b c => by have := h6 q a b c; omega)⟩
          | succ d1 ih1 =>
            intro k rc hk I1
            refine hL111 _ _ ⟨by omega, by omega⟩ ⟨fun h => absurd h (by omega), fun _ => ⟨hp1, hi, ⟨by omega, by omega⟩, ?_⟩⟩
            rintro r20 _ rfl
            have hk8 : (0 : Int) ≤ k ∧ (k : Int) < 8 := ⟨by omega, by omega⟩
            refine ⟨fun h => ih1 (k + 1) _ (by omega) (bf_skip I1 (Or.inl ?_)), fun h => ?_⟩
            · have := m_nb_in (q_th y_isThere gi) b k; omega
            · have hne : m_nb (q_th y_isThere gi) b k ≠ -1 := by omega
              have hin := q_th_in (m_nb_th hne).1
              refine ⟨hin, ?_⟩
              rintro f22 rfl
              exact ih1 (k + 1) _ (by omega) (bf_push I1 hPb hk8.1 hk8.2 hne (fun q => fl_R_s hin.1 hin.2))
        · refine Or.inl ⟨_, pop.1 (Or.inr ⟨by decide, ?_⟩), by omega⟩
          apply Classical.byContradiction
          intro h
          rw [Bool.not_eq_true] at h
          rw [h10, h] at h1
          exact h1 rfl
  intro L2 hL2
  suffices H : ∀ (d k : Nat) (dn rc : Nat → Int32), k + d = 1280 → (∀ q : Int, 0 ≤ q → q < k → z_g dn q = 0 ∧ z_g rc q = if q = n then 1 else 0) → L2 k dn rc from H 1280 0 _ _ rfl (fun q _ b => absurd b (by omega))
  intro d
  induction d with
  | zero =>
    intro k dn rc hk hd
    obtain rfl : k = 1280 := by omega
    refine hL2 _ _ _ ⟨by omega, by omega⟩ ⟨fun _ => ⟨⟨by omega, by omega⟩, ?_⟩, fun h => absurd h (by omega)⟩
    rintro v2 rfl L54 hL54
    rw [← q_at_t hp3]
    have hun := hU n hp3
    have hRn : fl_R rc n := ⟨hn.1, hn.2, by rw [(hd n hn.1 (by omega)).2, if_pos rfl]; decide⟩
    have hRe : ∀ q, fl_R rc q → q = n := fun q ⟨a, b, h⟩ => by
      rw [(hd q a (by omega)).2] at h
      by_cases e : q = n
      · exact e
      · rw [if_neg e] at h; exact absurd rfl h
    have hDn : ∀ q, ¬ fl_R dn q := fun q ⟨a, b, h⟩ => h (hd q a (by omega)).1
    refine main L54 hL54 1281 n _ dn rc n (by have := c_z_le dn 1280; omega) hun.1 hun.2 ⟨fun q hq => by rw [hRe q hq]; exact hp3, hRn, fun q hq => absurd hq (hDn q), fun q hq => ?_, fun c hc => ?_⟩ (Or.inr ⟨hRn, hDn n, fun q hq _ => by rw [hRe q hq]; exact Int.le_refl _⟩)
    · rw [hRe q hq]
      exact ⟨0, rfl, hp3, by show -1 * _ ≤ max _ (-1 * _); omega⟩
    · obtain ⟨q, m9, _, hw⟩ := hc
      have := (w_way_start hw).2
      have h2 : -1 * (q_at y_units y_isThere gi) n ≤ c := this
      omega
  | succ d ih =>
    intro k dn rc hk hd
    refine hL2 _ _ _ ⟨by omega, by omega⟩ ⟨fun h => absurd h (by omega), fun _ => ⟨⟨by omega, by omega⟩, ?_⟩⟩
    rintro f25 rfl
    refine ⟨fun hkn => ?_, fun hkn => ?_⟩
    · rintro f27 rfl
      refine ih (k + 1) _ _ (by omega) (fun q a b => ?_)
      rw [z_gs ⟨by decide, by decide⟩ (by omega) a, z_gs ⟨by decide, by decide⟩ (by omega) a]
      by_cases e : q = k
      · rw [if_pos e, if_pos e, if_neg (by omega)]; exact ⟨rfl, rfl⟩
      · rw [if_neg e, if_neg e]; exact hd q a (by omega)
    · rintro f29 rfl
      refine ih (k + 1) _ _ (by omega) (fun q a b => ?_)
      rw [z_gs ⟨by decide, by decide⟩ (by omega) a, z_gs ⟨by decide, by decide⟩ (by omega) a]
      by_cases e : q = k
      · rw [if_pos e, if_pos e, if_pos (by omega)]; exact ⟨rfl, rfl⟩
      · rw [if_neg e, if_neg e]; exact hd q a (by omega)
