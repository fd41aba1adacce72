def vc_X8_streamOf (y_units : Nat → Int32) (y_isThere : Nat → Int32) (y_goesTo : Nat → Int32) (gi : Int) (n : Int) (Q : Int → (Nat → Int32) → Prop) : Prop :=
(∀ L2 : Int → (Nat → Int32) → Prop,
(∀ (x2_3 : Int) (y2_ya_goesTo : Nat → Int32), z_in x2_3 → ((x2_3 ≥ 1280 → (∀ L51 : Int → Int → Prop,
(∀ (x51_4 : Int) (x51_3 : Int), z_in x51_4 → z_in x51_3 → ((x51_4 ≥ 1280 → Q x51_3 y2_ya_goesTo) ∧
(x51_4 < 1280 → (0 ≤ (1280 * gi) + x51_4 ∧ (1280 * gi) + x51_4 < 5120) ∧ ((z_g y_isThere ((1280 * gi) + x51_4) = 0 → (∀ L83 : Int → Prop,
(∀ (x83_5 : Int), z_in x83_5 → ((x83_5 < 0 → ((x83_5 ≠ n → L51 (x51_4 + 1) (x51_3 + 0)) ∧
(x83_5 = n → L51 (x51_4 + 1) (x51_3 + 1)))) ∧
(x83_5 ≥ 0 → ((x83_5 = n → ((x83_5 ≠ n → L51 (x51_4 + 1) (x51_3 + 0)) ∧
(x83_5 = n → L51 (x51_4 + 1) (x51_3 + 1)))) ∧
(x83_5 ≠ n → (0 ≤ x83_5 ∧ x83_5 < 1280) ∧ (∀ v3 : Int, v3 = z_g y2_ya_goesTo x83_5 → L83 v3))))) → L83 x83_5) →
L83 (-1))) ∧
(z_g y_isThere ((1280 * gi) + x51_4) ≠ 0 → (∀ L83 : Int → Prop,
(∀ (x83_5 : Int), z_in x83_5 → ((x83_5 < 0 → ((x83_5 ≠ n → L51 (x51_4 + 1) (x51_3 + 0)) ∧
(x83_5 = n → L51 (x51_4 + 1) (x51_3 + 1)))) ∧
(x83_5 ≥ 0 → ((x83_5 = n → ((x83_5 ≠ n → L51 (x51_4 + 1) (x51_3 + 0)) ∧
(x83_5 = n → L51 (x51_4 + 1) (x51_3 + 1)))) ∧
(x83_5 ≠ n → (0 ≤ x83_5 ∧ x83_5 < 1280) ∧ (∀ v6 : Int, v6 = z_g y2_ya_goesTo x83_5 → L83 v6))))) → L83 x83_5) →
L83 x51_4))))) → L51 x51_4 x51_3) →
L51 0 0)) ∧
(x2_3 < 1280 → (0 ≤ (1280 * gi) + x2_3 ∧ (1280 * gi) + x2_3 < 5120) ∧ ((z_g y_isThere ((1280 * gi) + x2_3) = 0 → (0 ≤ x2_3 ∧ x2_3 < 1280) ∧ (∀ f10 : Nat → Int32, f10 = z_s y2_ya_goesTo x2_3 (-1) → L2 (x2_3 + 1) f10)) ∧
(z_g y_isThere ((1280 * gi) + x2_3) ≠ 0 → (0 ≤ gi ∧ gi < 4) ∧ (q_bd y_units) ∧ (q_th y_isThere gi x2_3 = true) ∧ (∀ (r15 : Int), z_in r15 → (r15 = m_dn (q_th y_isThere gi) (q_at y_units y_isThere gi) x2_3) → (0 ≤ x2_3 ∧ x2_3 < 1280) ∧ (∀ f17 : Nat → Int32, f17 = z_s y2_ya_goesTo x2_3 r15 → L2 (x2_3 + 1) f17)))))) → L2 x2_3 y2_ya_goesTo) →
L2 0 y_goesTo)
set_option maxHeartbeats 4000000 in
set_option maxRecDepth 100000 in
theorem wk_X8_streamOf (l : Launch) (D : va_G) (cA : Nat → ClassId) (y : Nat) (y_space : Nat) (y_offset : Nat) (y_length : Nat) (ya_units : Nat) (y_units : Nat → Int32) (ya_isThere : Nat) (y_isThere : Nat → Int32) (y_levels : Int) (y_level : Nat) (y_lines : Int) (y_lineLevel : Nat) (y_lineUnits : Nat) (y_lineFrom : Nat) (y_lineMany : Nat) (y_isClosed : Nat) (y_insides : Nat) (y_parent : Nat) (y_isHigh : Nat) (y_inBits : Nat) (y_sides : Int) (y_side : Nat) (y_sideA : Nat) (y_sideB : Nat) (y_lineSpace : Int) (y_wasThere : Nat) (y_leads : Nat) (y_isLed : Nat) (y_isOn : Nat) (ya_goesTo : Nat) (y_goesTo : Nat → Int32) (y_stream : Nat) (y_filled : Nat) (y_isDone : Nat) (y_isReached : Nat) (y_newUnits : Nat) (y_isNew : Nat) (gi : Int) (n : Int) (h_y_levels : z_in y_levels) (h_y_lines : z_in y_lines) (h_y_sides : z_in y_sides) (h_y_lineSpace : z_in y_lineSpace) (h_gi : z_in gi) (h_n : z_in n) (Q : Int → (Nat → Int32) → Prop) (hv : vc_X8_streamOf y_units y_isThere y_goesTo gi n Q) : Met l yX8_streamOf wsX8_streamOf ({ frames := 4, cells := 0, slots := 0, locals := 101 } : Room) (va_Pc [.ref y, .int (z_i gi), .int (z_i n)] (z_M0 D cA [(y, .inr (6, [.ref y_space, .ref y_offset, .ref y_length, .ref ya_units, .ref ya_isThere, .int (z_i y_levels), .ref y_level, .int (z_i y_lines), .ref y_lineLevel, .ref y_lineUnits, .ref y_lineFrom, .ref y_lineMany, .ref y_isClosed, .ref y_insides, .ref y_parent, .ref y_isHigh, .ref y_inBits, .int (z_i y_sides), .ref y_side, .ref y_sideA, .ref y_sideB, .int (z_i y_lineSpace), .ref y_wasThere, .ref y_leads, .ref y_isLed, .ref y_isOn, .ref ya_goesTo, .ref y_stream, .ref y_filled, .ref y_isDone, .ref y_isReached, .ref y_newUnits, .ref y_isNew])), (ya_units, .inl (cA 1, 5120, .inl y_units)), (ya_isThere, .inl (cA 3, 5120, .inl y_isThere)), (ya_goesTo, .inl (cA 1, 1280, .inl y_goesTo))])) (va_Qi (z_mi (fun v (u : (Nat → Int32)) => Q v u)) (fun (u : (Nat → Int32)) t => va_P D vwCl [(y, .inr (6, [.ref y_space, .ref y_offset, .ref y_length, .ref ya_units, .ref ya_isThere, .int (z_i y_levels), .ref y_level, .int (z_i y_lines), .ref y_lineLevel, .ref y_lineUnits, .ref y_lineFrom, .ref y_lineMany, .ref y_isClosed, .ref y_insides, .ref y_parent, .ref y_isHigh, .ref y_inBits, .int (z_i y_sides), .ref y_side, .ref y_sideA, .ref y_sideB, .int (z_i y_lineSpace), .ref y_wasThere, .ref y_leads, .ref y_isLed, .ref y_isOn, .ref ya_goesTo, .ref y_stream, .ref y_filled, .ref y_isDone, .ref y_isReached, .ref y_newUnits, .ref y_isNew])), (ya_units, .inl (cA 1, 5120, .inl y_units)), (ya_isThere, .inl (cA 3, 5120, .inl y_isThere)), (ya_goesTo, .inl (cA 1, 1280, .inl u))] t.heap) (z_A [(y, .inr (6, [.ref y_space, .ref y_offset, .ref y_length, .ref ya_units, .ref ya_isThere, .int (z_i y_levels), .ref y_level, .int (z_i y_lines), .ref y_lineLevel, .ref y_lineUnits, .ref y_lineFrom, .ref y_lineMany, .ref y_isClosed, .ref y_insides, .ref y_parent, .ref y_isHigh, .ref y_inBits, .int (z_i y_sides), .ref y_side, .ref y_sideA, .ref y_sideB, .int (z_i y_lineSpace), .ref y_wasThere, .ref y_leads, .ref y_isLed, .ref y_isOn, .ref ya_goesTo, .ref y_stream, .ref y_filled, .ref y_isDone, .ref y_isReached, .ref y_newUnits, .ref y_isNew])), (ya_units, .inl (cA 1, 5120, .inl y_units)), (ya_isThere, .inl (cA 3, 5120, .inl y_isThere)), (ya_goesTo, .inl (cA 1, 1280, .inl y_goesTo))])) 0 0 (z_A [(y, .inr (6, [.ref y_space, .ref y_offset, .ref y_length, .ref ya_units, .ref ya_isThere, .int (z_i y_levels), .ref y_level, .int (z_i y_lines), .ref y_lineLevel, .ref y_lineUnits, .ref y_lineFrom, .ref y_lineMany, .ref y_isClosed, .ref y_insides, .ref y_parent, .ref y_isHigh, .ref y_inBits, .int (z_i y_sides), .ref y_side, .ref y_sideA, .ref y_sideB, .int (z_i y_lineSpace), .ref y_wasThere, .ref y_leads, .ref y_isLed, .ref y_isOn, .ref ya_goesTo, .ref y_stream, .ref y_filled, .ref y_isDone, .ref y_isReached, .ref y_newUnits, .ref y_isNew])), (ya_units, .inl (cA 1, 5120, .inl y_units)), (ya_isThere, .inl (cA 3, 5120, .inl y_isThere)), (ya_goesTo, .inl (cA 1, 1280, .inl y_goesTo))]) := by
  unfold vc_X8_streamOf at hv
  refine Met.ofW (cc := cX8_streamOf) (maxL := 6) (ret := (some .int)) (by decide +kernel) rfl ?_
  intro p e s m args below meth c s₁ B hml hv0
  obtain ⟨rfl, hK, hP, hD0⟩ := hv0
  have hx := B.exec
  have hb := B.bytes
  have hr := B.returns
  have hts := atoms_spec (ws := wsX8_streamOf) B.pre
  have hown : s.vm.findClass RX8 = some m.cls := findClass_of_methodNamed B.named
  have hlocks := B.notSynchronized
  have hD := z_D_self hD0
  generalize hAe : z_A [(y, .inr (6, [.ref y_space, .ref y_offset, .ref y_length, .ref ya_units, .ref ya_isThere, .int (z_i y_levels), .ref y_level, .int (z_i y_lines), .ref y_lineLevel, .ref y_lineUnits, .ref y_lineFrom, .ref y_lineMany, .ref y_isClosed, .ref y_insides, .ref y_parent, .ref y_isHigh, .ref y_inBits, .int (z_i y_sides), .ref y_side, .ref y_sideA, .ref y_sideB, .int (z_i y_lineSpace), .ref y_wasThere, .ref y_leads, .ref y_isLed, .ref y_isOn, .ref ya_goesTo, .ref y_stream, .ref y_filled, .ref y_isDone, .ref y_isReached, .ref y_newUnits, .ref y_isNew])), (ya_units, .inl (cA 1, 5120, .inl y_units)), (ya_isThere, .inl (cA 3, 5120, .inl y_isThere)), (ya_goesTo, .inl (cA 1, 1280, .inl y_goesTo))] = A at *
  have hS : va_S A s.heap s.heap [] := va_S.rf
  have hl := lv_entry ([.ref y, .int (z_i gi), .int (z_i n)]) (n := 6) (Nat.le_of_ble_eq_true rfl)
  rw [lg_entry_eq]
  generalize (lg_sl ([.ref y, .int (z_i gi), .int (z_i n)]) ++ List.replicate (6 - (lg_sl ([.ref y, .int (z_i gi), .int (z_i n)])).length) Slot.unset).toArray = ls at hl ⊢
  have hl : lv_has ls 6 [(0, .ref y), (1, .int (z_i gi)), (2, .int (z_i n))] := hl
  refine lv_iconst (v := z_i 0) hx hb dX8_streamOf_0 rfl ?_
  refine lv_istore_n (lv' := [(3, .int (z_i 0)), (0, .ref y), (1, .int (z_i gi)), (2, .int (z_i n))]) hx hb dX8_streamOf_1 rfl hl (by decide) rfl (fun ls hl => ?_)
  refine hv (fun (x2_3 : Int) (y2_ya_goesTo : Nat → Int32) => ∀ (H : Heap) (locs : List Loc) (ls : Array Slot), va_P D vwCl [(y, .inr (6, [.ref y_space, .ref y_offset, .ref y_length, .ref ya_units, .ref ya_isThere, .int (z_i y_levels), .ref y_level, .int (z_i y_lines), .ref y_lineLevel, .ref y_lineUnits, .ref y_lineFrom, .ref y_lineMany, .ref y_isClosed, .ref y_insides, .ref y_parent, .ref y_isHigh, .ref y_inBits, .int (z_i y_sides), .ref y_side, .ref y_sideA, .ref y_sideB, .int (z_i y_lineSpace), .ref y_wasThere, .ref y_leads, .ref y_isLed, .ref y_isOn, .ref ya_goesTo, .ref y_stream, .ref y_filled, .ref y_isDone, .ref y_isReached, .ref y_newUnits, .ref y_isNew])), (ya_units, .inl (cA 1, 5120, .inl y_units)), (ya_isThere, .inl (cA 3, 5120, .inl y_isThere)), (ya_goesTo, .inl (cA 1, 1280, .inl y2_ya_goesTo))] H → va_D A [(y, .inr (6, [.ref y_space, .ref y_offset, .ref y_length, .ref ya_units, .ref ya_isThere, .int (z_i y_levels), .ref y_level, .int (z_i y_lines), .ref y_lineLevel, .ref y_lineUnits, .ref y_lineFrom, .ref y_lineMany, .ref y_isClosed, .ref y_insides, .ref y_parent, .ref y_isHigh, .ref y_inBits, .int (z_i y_sides), .ref y_side, .ref y_sideA, .ref y_sideB, .int (z_i y_lineSpace), .ref y_wasThere, .ref y_leads, .ref y_isLed, .ref y_isOn, .ref ya_goesTo, .ref y_stream, .ref y_filled, .ref y_isDone, .ref y_isReached, .ref y_newUnits, .ref y_isNew])), (ya_units, .inl (cA 1, 5120, .inl y_units)), (ya_isThere, .inl (cA 3, 5120, .inl y_isThere)), (ya_goesTo, .inl (cA 1, 1280, .inl y2_ya_goesTo))] → va_S A s.heap H locs → lv_has ls 6 [(3, .int (z_i x2_3)), (0, .ref y), (1, .int (z_i gi)), (2, .int (z_i n))] → W p l e _ s m _ below meth c H locs 0 0 _ (F0 m 2 ls [])) ?_ _ _ ls hP hD hS (lv_sub hl [0, 1, 2, 3] rfl)
  intro x2_3 y2_ya_goesTo h_x2_3 hv H locs ls hP hD hS hl
  refine lv_iload_n hx hb dX8_streamOf_2 rfl (lv_at hl 0 rfl) ?_
  refine lv_sipush (v := z_i 1280) hx hb dX8_streamOf_3 (by decide) ?_
  refine lx_icmp_ge (tgt := 46) hx hb dX8_streamOf_6 (by decide) h_x2_3 (show z_in 1280 from ⟨by decide, by decide⟩) (fun hc => ?_) (fun hc => ?_)
  · have hv := hv.1 hc
    refine lv_iconst (v := z_i 0) hx hb dX8_streamOf_46 rfl ?_
    refine lv_istore_n (lv' := [(3, .int (z_i 0)), (0, .ref y), (1, .int (z_i gi)), (2, .int (z_i n))]) hx hb dX8_streamOf_47 rfl hl (by decide) rfl (fun ls hl => ?_)
    refine lv_iconst (v := z_i 0) hx hb dX8_streamOf_48 rfl ?_
    refine lv_istore (lv' := [(4, .int (z_i 0)), (3, .int (z_i 0)), (0, .ref y), (1, .int (z_i gi)), (2, .int (z_i n))]) hx hb dX8_streamOf_49 hl (by decide) rfl (fun ls hl => ?_)
    refine hv (fun (x51_4 : Int) (x51_3 : Int) => ∀ (H : Heap) (locs : List Loc) (ls : Array Slot), va_P D vwCl [(y, .inr (6, [.ref y_space, .ref y_offset, .ref y_length, .ref ya_units, .ref ya_isThere, .int (z_i y_levels), .ref y_level, .int (z_i y_lines), .ref y_lineLevel, .ref y_lineUnits, .ref y_lineFrom, .ref y_lineMany, .ref y_isClosed, .ref y_insides, .ref y_parent, .ref y_isHigh, .ref y_inBits, .int (z_i y_sides), .ref y_side, .ref y_sideA, .ref y_sideB, .int (z_i y_lineSpace), .ref y_wasThere, .ref y_leads, .ref y_isLed, .ref y_isOn, .ref ya_goesTo, .ref y_stream, .ref y_filled, .ref y_isDone, .ref y_isReached, .ref y_newUnits, .ref y_isNew])), (ya_units, .inl (cA 1, 5120, .inl y_units)), (ya_isThere, .inl (cA 3, 5120, .inl y_isThere)), (ya_goesTo, .inl (cA 1, 1280, .inl y2_ya_goesTo))] H → va_D A [(y, .inr (6, [.ref y_space, .ref y_offset, .ref y_length, .ref ya_units, .ref ya_isThere, .int (z_i y_levels), .ref y_level, .int (z_i y_lines), .ref y_lineLevel, .ref y_lineUnits, .ref y_lineFrom, .ref y_lineMany, .ref y_isClosed, .ref y_insides, .ref y_parent, .ref y_isHigh, .ref y_inBits, .int (z_i y_sides), .ref y_side, .ref y_sideA, .ref y_sideB, .int (z_i y_lineSpace), .ref y_wasThere, .ref y_leads, .ref y_isLed, .ref y_isOn, .ref ya_goesTo, .ref y_stream, .ref y_filled, .ref y_isDone, .ref y_isReached, .ref y_newUnits, .ref y_isNew])), (ya_units, .inl (cA 1, 5120, .inl y_units)), (ya_isThere, .inl (cA 3, 5120, .inl y_isThere)), (ya_goesTo, .inl (cA 1, 1280, .inl y2_ya_goesTo))] → va_S A s.heap H locs → lv_has ls 6 [(4, .int (z_i x51_4)), (3, .int (z_i x51_3)), (0, .ref y), (1, .int (z_i gi)), (2, .int (z_i n))] → W p l e _ s m _ below meth c H locs 0 0 _ (F0 m 51 ls [])) ?_ _ _ ls hP hD hS (lv_sub hl [0, 1, 2, 3, 4] rfl)
    intro x51_4 x51_3 h_x51_4 h_x51_3 hv H locs ls hP hD hS hl
    refine lv_iload hx hb dX8_streamOf_51 (lv_at hl 0 rfl) ?_
    refine lv_sipush (v := z_i 1280) hx hb dX8_streamOf_53 (by decide) ?_
    refine lx_icmp_ge (tgt := 126) hx hb dX8_streamOf_56 (by decide) h_x51_4 (show z_in 1280 from ⟨by decide, by decide⟩) (fun hc => ?_) (fun hc => ?_)
    · have hv := hv.1 hc
      refine lv_iload_n hx hb dX8_streamOf_126 rfl (lv_at hl 1 rfl) ?_
      exact W.iret (v := z_i x51_3) hx hb hr (fun t ht hW => ⟨⟨z_i x51_3, (y2_ya_goesTo), rfl, ⟨x51_3, rfl, h_x51_3, hv⟩, z_pt hP ht⟩, hS.F ht⟩) hS.2.2 dX8_streamOf_127
    · have hv := hv.2 hc
      refine lv_aload_n hx hb dX8_streamOf_59 rfl (lv_at hl 2 rfl) ?_
      refine va_get (D := D) (ci := 6) (v := .ref ya_isThere) (C := RX8) (T := TX8) (N := 33) hx hb hts (fun w h => List.mem_cons_of_mem _ (List.mem_append_right _ h)) hown hK hP 0 rfl rfl 4 (by decide) (hts (.fieldLink RX8 22 "ContourSheetsModel" "isThere" "[Z") (by decide +kernel)) (fun _ h9 => h9) rfl dX8_streamOf_60 ?_
      refine lv_sipush (v := z_i 1280) hx hb dX8_streamOf_63 (by decide) ?_
      refine lv_iload_n hx hb dX8_streamOf_66 rfl (lv_at hl 3 rfl) ?_
      refine lx_imul hx hb dX8_streamOf_67 ?_
      refine lv_iload hx hb dX8_streamOf_68 (lv_at hl 0 rfl) ?_
      refine lx_iadd hx hb dX8_streamOf_70 ?_
      obtain ⟨hi1, hv⟩ := hv
      refine lx_zald hx hb hK hP 2 3 rfl rfl (by decide) hi1.1 hi1.2 dX8_streamOf_71 ?_
      refine lx_if_eq (tgt := 80) hx hb dX8_streamOf_72 (by decide) (z_in_g _ _) (fun hc => ?_) (fun hc => ?_)
      · have hv := hv.1 hc
        refine lv_iconst (v := z_i (-1)) hx hb dX8_streamOf_80 rfl ?_
        refine lv_istore (lv' := [(5, .int (z_i (-1))), (4, .int (z_i x51_4)), (3, .int (z_i x51_3)), (0, .ref y), (1, .int (z_i gi)), (2, .int (z_i n))]) hx hb dX8_streamOf_81 hl (by decide) rfl (fun ls hl => ?_)
        refine hv (fun (x83_5 : Int) => ∀ (H : Heap) (locs : List Loc) (ls : Array Slot), va_P D vwCl [(y, .inr (6, [.ref y_space, .ref y_offset, .ref y_length, .ref ya_units, .ref ya_isThere, .int (z_i y_levels), .ref y_level, .int (z_i y_lines), .ref y_lineLevel, .ref y_lineUnits, .ref y_lineFrom, .ref y_lineMany, .ref y_isClosed, .ref y_insides, .ref y_parent, .ref y_isHigh, .ref y_inBits, .int (z_i y_sides), .ref y_side, .ref y_sideA, .ref y_sideB, .int (z_i y_lineSpace), .ref y_wasThere, .ref y_leads, .ref y_isLed, .ref y_isOn, .ref ya_goesTo, .ref y_stream, .ref y_filled, .ref y_isDone, .ref y_isReached, .ref y_newUnits, .ref y_isNew])), (ya_units, .inl (cA 1, 5120, .inl y_units)), (ya_isThere, .inl (cA 3, 5120, .inl y_isThere)), (ya_goesTo, .inl (cA 1, 1280, .inl y2_ya_goesTo))] H → va_D A [(y, .inr (6, [.ref y_space, .ref y_offset, .ref y_length, .ref ya_units, .ref ya_isThere, .int (z_i y_levels), .ref y_level, .int (z_i y_lines), .ref y_lineLevel, .ref y_lineUnits, .ref y_lineFrom, .ref y_lineMany, .ref y_isClosed, .ref y_insides, .ref y_parent, .ref y_isHigh, .ref y_inBits, .int (z_i y_sides), .ref y_side, .ref y_sideA, .ref y_sideB, .int (z_i y_lineSpace), .ref y_wasThere, .ref y_leads, .ref y_isLed, .ref y_isOn, .ref ya_goesTo, .ref y_stream, .ref y_filled, .ref y_isDone, .ref y_isReached, .ref y_newUnits, .ref y_isNew])), (ya_units, .inl (cA 1, 5120, .inl y_units)), (ya_isThere, .inl (cA 3, 5120, .inl y_isThere)), (ya_goesTo, .inl (cA 1, 1280, .inl y2_ya_goesTo))] → va_S A s.heap H locs → lv_has ls 6 [(5, .int (z_i x83_5)), (4, .int (z_i x51_4)), (3, .int (z_i x51_3)), (0, .ref y), (1, .int (z_i gi)), (2, .int (z_i n))] → W p l e _ s m _ below meth c H locs 0 0 _ (F0 m 83 ls [])) ?_ _ _ ls hP hD hS (lv_sub hl [0, 1, 2, 3, 4, 5] rfl)
        intro x83_5 h_x83_5 hv H locs ls hP hD hS hl
        refine lv_iload hx hb dX8_streamOf_83 (lv_at hl 0 rfl) ?_
        refine lx_if_lt (tgt := 106) hx hb dX8_streamOf_85 (by decide) h_x83_5 (fun hc => ?_) (fun hc => ?_)
        · have hv := hv.1 hc
          refine lv_iload_n hx hb dX8_streamOf_106 rfl (lv_at hl 2 rfl) ?_
          refine lv_iload hx hb dX8_streamOf_107 (lv_at hl 0 rfl) ?_
          refine lv_iload_n hx hb dX8_streamOf_109 rfl (lv_at hl 5 rfl) ?_
          refine lx_icmp_ne (tgt := 117) hx hb dX8_streamOf_110 (by decide) h_x83_5 h_n (fun hc => ?_) (fun hc => ?_)
          · have hv := hv.1 hc
            refine lv_iconst (v := z_i 0) hx hb dX8_streamOf_117 rfl ?_
            refine lx_iadd hx hb dX8_streamOf_118 ?_
            refine lv_istore_n (lv' := [(3, .int (z_i (x51_3 + 0))), (5, .int (z_i x83_5)), (4, .int (z_i x51_4)), (0, .ref y), (1, .int (z_i gi)), (2, .int (z_i n))]) hx hb dX8_streamOf_119 rfl hl (by decide) rfl (fun ls hl => ?_)
            refine lv_iinc (v := z_i (x51_4 + 1)) (lv' := [(4, .int (z_i (x51_4 + 1))), (3, .int (z_i (x51_3 + 0))), (5, .int (z_i x83_5)), (0, .ref y), (1, .int (z_i gi)), (2, .int (z_i n))]) hx hb dX8_streamOf_120 hl (k := 2) rfl (z_i_add _ _) (by decide) rfl (fun ls hl => ?_)
            refine lv_goto (tgt := 51) hx hb dX8_streamOf_123 (by decide) ?_
            exact hv _ _ ls hP hD hS (lv_sub hl [0, 1, 3, 4, 5] rfl)
          · have hv := hv.2 hc
            refine lv_iconst (v := z_i 1) hx hb dX8_streamOf_113 rfl ?_
            refine lv_goto (tgt := 118) hx hb dX8_streamOf_114 (by decide) ?_
            refine lx_iadd hx hb dX8_streamOf_118 ?_
            refine lv_istore_n (lv' := [(3, .int (z_i (x51_3 + 1))), (5, .int (z_i x83_5)), (4, .int (z_i x51_4)), (0, .ref y), (1, .int (z_i gi)), (2, .int (z_i n))]) hx hb dX8_streamOf_119 rfl hl (by decide) rfl (fun ls hl => ?_)
            refine lv_iinc (v := z_i (x51_4 + 1)) (lv' := [(4, .int (z_i (x51_4 + 1))), (3, .int (z_i (x51_3 + 1))), (5, .int (z_i x83_5)), (0, .ref y), (1, .int (z_i gi)), (2, .int (z_i n))]) hx hb dX8_streamOf_120 hl (k := 2) rfl (z_i_add _ _) (by decide) rfl (fun ls hl => ?_)
            refine lv_goto (tgt := 51) hx hb dX8_streamOf_123 (by decide) ?_
            exact hv _ _ ls hP hD hS (lv_sub hl [0, 1, 3, 4, 5] rfl)
        · have hv := hv.2 hc
          refine lv_iload hx hb dX8_streamOf_88 (lv_at hl 0 rfl) ?_
          refine lv_iload_n hx hb dX8_streamOf_90 rfl (lv_at hl 5 rfl) ?_
          refine lx_icmp_eq (tgt := 106) hx hb dX8_streamOf_91 (by decide) h_x83_5 h_n (fun hc => ?_) (fun hc => ?_)
          · have hv := hv.1 hc
            refine lv_iload_n hx hb dX8_streamOf_106 rfl (lv_at hl 2 rfl) ?_
            refine lv_iload hx hb dX8_streamOf_107 (lv_at hl 0 rfl) ?_
            refine lv_iload_n hx hb dX8_streamOf_109 rfl (lv_at hl 5 rfl) ?_
            refine lx_icmp_ne (tgt := 117) hx hb dX8_streamOf_110 (by decide) h_x83_5 h_n (fun hc => ?_) (fun hc => ?_)
            · have hv := hv.1 hc
              refine lv_iconst (v := z_i 0) hx hb dX8_streamOf_117 rfl ?_
              refine lx_iadd hx hb dX8_streamOf_118 ?_
              refine lv_istore_n (lv' := [(3, .int (z_i (x51_3 + 0))), (5, .int (z_i x83_5)), (4, .int (z_i x51_4)), (0, .ref y), (1, .int (z_i gi)), (2, .int (z_i n))]) hx hb dX8_streamOf_119 rfl hl (by decide) rfl (fun ls hl => ?_)
              refine lv_iinc (v := z_i (x51_4 + 1)) (lv' := [(4, .int (z_i (x51_4 + 1))), (3, .int (z_i (x51_3 + 0))), (5, .int (z_i x83_5)), (0, .ref y), (1, .int (z_i gi)), (2, .int (z_i n))]) hx hb dX8_streamOf_120 hl (k := 2) rfl (z_i_add _ _) (by decide) rfl (fun ls hl => ?_)
              refine lv_goto (tgt := 51) hx hb dX8_streamOf_123 (by decide) ?_
              exact hv _ _ ls hP hD hS (lv_sub hl [0, 1, 3, 4, 5] rfl)
            · have hv := hv.2 hc
              refine lv_iconst (v := z_i 1) hx hb dX8_streamOf_113 rfl ?_
              refine lv_goto (tgt := 118) hx hb dX8_streamOf_114 (by decide) ?_
              refine lx_iadd hx hb dX8_streamOf_118 ?_
              refine lv_istore_n (lv' := [(3, .int (z_i (x51_3 + 1))), (5, .int (z_i x83_5)), (4, .int (z_i x51_4)), (0, .ref y), (1, .int (z_i gi)), (2, .int (z_i n))]) hx hb dX8_streamOf_119 rfl hl (by decide) rfl (fun ls hl => ?_)
              refine lv_iinc (v := z_i (x51_4 + 1)) (lv' := [(4, .int (z_i (x51_4 + 1))), (3, .int (z_i (x51_3 + 1))), (5, .int (z_i x83_5)), (0, .ref y), (1, .int (z_i gi)), (2, .int (z_i n))]) hx hb dX8_streamOf_120 hl (k := 2) rfl (z_i_add _ _) (by decide) rfl (fun ls hl => ?_)
              refine lv_goto (tgt := 51) hx hb dX8_streamOf_123 (by decide) ?_
              exact hv _ _ ls hP hD hS (lv_sub hl [0, 1, 3, 4, 5] rfl)
          · have hv := hv.2 hc
            refine lv_aload_n hx hb dX8_streamOf_94 rfl (lv_at hl 3 rfl) ?_
            refine va_get (D := D) (ci := 6) (v := .ref ya_goesTo) (C := RX8) (T := TX8) (N := 33) hx hb hts (fun w h => List.mem_cons_of_mem _ (List.mem_append_right _ h)) hown hK hP 0 rfl rfl 26 (by decide) (hts (.fieldLink RX8 78 "ContourSheetsModel" "goesTo" "[I") (by decide +kernel)) (fun _ h9 => h9) rfl dX8_streamOf_95 ?_
            refine lv_iload hx hb dX8_streamOf_98 (lv_at hl 0 rfl) ?_
            obtain ⟨hi2, hv⟩ := hv
            refine lx_iald hx hb hK hP 3 1 rfl rfl (by decide) hi2.1 hi2.2 dX8_streamOf_100 ?_
            refine lx_topi (fun v3 hy4 => ?_)
            have hv := hv v3 hy4
            have h_v3 : z_in v3 := by rw [hy4]; exact (z_in_g _ _)
            refine lv_istore (lv' := [(5, .int (z_i v3)), (4, .int (z_i x51_4)), (3, .int (z_i x51_3)), (0, .ref y), (1, .int (z_i gi)), (2, .int (z_i n))]) hx hb dX8_streamOf_101 hl (by decide) rfl (fun ls hl => ?_)
            refine lv_goto (tgt := 83) hx hb dX8_streamOf_103 (by decide) ?_
            exact hv _ _ ls hP hD hS (lv_sub hl [0, 1, 2, 3, 4, 5] rfl)
      · have hv := hv.2 hc
        refine lv_iload hx hb dX8_streamOf_75 (lv_at hl 0 rfl) ?_
        refine lv_goto (tgt := 81) hx hb dX8_streamOf_77 (by decide) ?_
        refine lv_istore (lv' := [(5, .int (z_i x51_4)), (4, .int (z_i x51_4)), (3, .int (z_i x51_3)), (0, .ref y), (1, .int (z_i gi)), (2, .int (z_i n))]) hx hb dX8_streamOf_81 hl (by decide) rfl (fun ls hl => ?_)
        refine hv (fun (x83_5 : Int) => ∀ (H : Heap) (locs : List Loc) (ls : Array Slot), va_P D vwCl [(y, .inr (6, [.ref y_space, .ref y_offset, .ref y_length, .ref ya_units, .ref ya_isThere, .int (z_i y_levels), .ref y_level, .int (z_i y_lines), .ref y_lineLevel, .ref y_lineUnits, .ref y_lineFrom, .ref y_lineMany, .ref y_isClosed, .ref y_insides, .ref y_parent, .ref y_isHigh, .ref y_inBits, .int (z_i y_sides), .ref y_side, .ref y_sideA, .ref y_sideB, .int (z_i y_lineSpace), .ref y_wasThere, .ref y_leads, .ref y_isLed, .ref y_isOn, .ref ya_goesTo, .ref y_stream, .ref y_filled, .ref y_isDone, .ref y_isReached, .ref y_newUnits, .ref y_isNew])), (ya_units, .inl (cA 1, 5120, .inl y_units)), (ya_isThere, .inl (cA 3, 5120, .inl y_isThere)), (ya_goesTo, .inl (cA 1, 1280, .inl y2_ya_goesTo))] H → va_D A [(y, .inr (6, [.ref y_space, .ref y_offset, .ref y_length, .ref ya_units, .ref ya_isThere, .int (z_i y_levels), .ref y_level, .int (z_i y_lines), .ref y_lineLevel, .ref y_lineUnits, .ref y_lineFrom, .ref y_lineMany, .ref y_isClosed, .ref y_insides, .ref y_parent, .ref y_isHigh, .ref y_inBits, .int (z_i y_sides), .ref y_side, .ref y_sideA, .ref y_sideB, .int (z_i y_lineSpace), .ref y_wasThere, .ref y_leads, .ref y_isLed, .ref y_isOn, .ref ya_goesTo, .ref y_stream, .ref y_filled, .ref y_isDone, .ref y_isReached, .ref y_newUnits, .ref y_isNew])), (ya_units, .inl (cA 1, 5120, .inl y_units)), (ya_isThere, .inl (cA 3, 5120, .inl y_isThere)), (ya_goesTo, .inl (cA 1, 1280, .inl y2_ya_goesTo))] → va_S A s.heap H locs → lv_has ls 6 [(5, .int (z_i x83_5)), (4, .int (z_i x51_4)), (3, .int (z_i x51_3)), (0, .ref y), (1, .int (z_i gi)), (2, .int (z_i n))] → W p l e _ s m _ below meth c H locs 0 0 _ (F0 m 83 ls [])) ?_ _ _ ls hP hD hS (lv_sub hl [0, 1, 2, 3, 4, 5] rfl)
        intro x83_5 h_x83_5 hv H locs ls hP hD hS hl
        refine lv_iload hx hb dX8_streamOf_83 (lv_at hl 0 rfl) ?_
        refine lx_if_lt (tgt := 106) hx hb dX8_streamOf_85 (by decide) h_x83_5 (fun hc => ?_) (fun hc => ?_)
        · have hv := hv.1 hc
          refine lv_iload_n hx hb dX8_streamOf_106 rfl (lv_at hl 2 rfl) ?_
          refine lv_iload hx hb dX8_streamOf_107 (lv_at hl 0 rfl) ?_
          refine lv_iload_n hx hb dX8_streamOf_109 rfl (lv_at hl 5 rfl) ?_
          refine lx_icmp_ne (tgt := 117) hx hb dX8_streamOf_110 (by decide) h_x83_5 h_n (fun hc => ?_) (fun hc => ?_)
          · have hv := hv.1 hc
            refine lv_iconst (v := z_i 0) hx hb dX8_streamOf_117 rfl ?_
            refine lx_iadd hx hb dX8_streamOf_118 ?_
            refine lv_istore_n (lv' := [(3, .int (z_i (x51_3 + 0))), (5, .int (z_i x83_5)), (4, .int (z_i x51_4)), (0, .ref y), (1, .int (z_i gi)), (2, .int (z_i n))]) hx hb dX8_streamOf_119 rfl hl (by decide) rfl (fun ls hl => ?_)
            refine lv_iinc (v := z_i (x51_4 + 1)) (lv' := [(4, .int (z_i (x51_4 + 1))), (3, .int (z_i (x51_3 + 0))), (5, .int (z_i x83_5)), (0, .ref y), (1, .int (z_i gi)), (2, .int (z_i n))]) hx hb dX8_streamOf_120 hl (k := 2) rfl (z_i_add _ _) (by decide) rfl (fun ls hl => ?_)
            refine lv_goto (tgt := 51) hx hb dX8_streamOf_123 (by decide) ?_
            exact hv _ _ ls hP hD hS (lv_sub hl [0, 1, 3, 4, 5] rfl)
          · have hv := hv.2 hc
            refine lv_iconst (v := z_i 1) hx hb dX8_streamOf_113 rfl ?_
            refine lv_goto (tgt := 118) hx hb dX8_streamOf_114 (by decide) ?_
            refine lx_iadd hx hb dX8_streamOf_118 ?_
            refine lv_istore_n (lv' := [(3, .int (z_i (x51_3 + 1))), (5, .int (z_i x83_5)), (4, .int (z_i x51_4)), (0, .ref y), (1, .int (z_i gi)), (2, .int (z_i n))]) hx hb dX8_streamOf_119 rfl hl (by decide) rfl (fun ls hl => ?_)
            refine lv_iinc (v := z_i (x51_4 + 1)) (lv' := [(4, .int (z_i (x51_4 + 1))), (3, .int (z_i (x51_3 + 1))), (5, .int (z_i x83_5)), (0, .ref y), (1, .int (z_i gi)), (2, .int (z_i n))]) hx hb dX8_streamOf_120 hl (k := 2) rfl (z_i_add _ _) (by decide) rfl (fun ls hl => ?_)
            refine lv_goto (tgt := 51) hx hb dX8_streamOf_123 (by decide) ?_
            exact hv _ _ ls hP hD hS (lv_sub hl [0, 1, 3, 4, 5] rfl)
        · have hv := hv.2 hc
          refine lv_iload hx hb dX8_streamOf_88 (lv_at hl 0 rfl) ?_
          refine lv_iload_n hx hb dX8_streamOf_90 rfl (lv_at hl 5 rfl) ?_
          refine lx_icmp_eq (tgt := 106) hx hb dX8_streamOf_91 (by decide) h_x83_5 h_n (fun hc => ?_) (fun hc => ?_)
          · have hv := hv.1 hc
            refine lv_iload_n hx hb dX8_streamOf_106 rfl (lv_at hl 2 rfl) ?_
            refine lv_iload hx hb dX8_streamOf_107 (lv_at hl 0 rfl) ?_
            refine lv_iload_n hx hb dX8_streamOf_109 rfl (lv_at hl 5 rfl) ?_
            refine lx_icmp_ne (tgt := 117) hx hb dX8_streamOf_110 (by decide) h_x83_5 h_n (fun hc => ?_) (fun hc => ?_)
            · have hv := hv.1 hc
              refine lv_iconst (v := z_i 0) hx hb dX8_streamOf_117 rfl ?_
              refine lx_iadd hx hb dX8_streamOf_118 ?_
              refine lv_istore_n (lv' := [(3, .int (z_i (x51_3 + 0))), (5, .int (z_i x83_5)), (4, .int (z_i x51_4)), (0, .ref y), (1, .int (z_i gi)), (2, .int (z_i n))]) hx hb dX8_streamOf_119 rfl hl (by decide) rfl (fun ls hl => ?_)
              refine lv_iinc (v := z_i (x51_4 + 1)) (lv' := [(4, .int (z_i (x51_4 + 1))), (3, .int (z_i (x51_3 + 0))), (5, .int (z_i x83_5)), (0, .ref y), (1, .int (z_i gi)), (2, .int (z_i n))]) hx hb dX8_streamOf_120 hl (k := 2) rfl (z_i_add _ _) (by decide) rfl (fun ls hl => ?_)
              refine lv_goto (tgt := 51) hx hb dX8_streamOf_123 (by decide) ?_
              exact hv _ _ ls hP hD hS (lv_sub hl [0, 1, 3, 4, 5] rfl)
            · have hv := hv.2 hc
              refine lv_iconst (v := z_i 1) hx hb dX8_streamOf_113 rfl ?_
              refine lv_goto (tgt := 118) hx hb dX8_streamOf_114 (by decide) ?_
              refine lx_iadd hx hb dX8_streamOf_118 ?_
              refine lv_istore_n (lv' := [(3, .int (z_i (x51_3 + 1))), (5, .int (z_i x83_5)), (4, .int (z_i x51_4)), (0, .ref y), (1, .int (z_i gi)), (2, .int (z_i n))]) hx hb dX8_streamOf_119 rfl hl (by decide) rfl (fun ls hl => ?_)
              refine lv_iinc (v := z_i (x51_4 + 1)) (lv' := [(4, .int (z_i (x51_4 + 1))), (3, .int (z_i (x51_3 + 1))), (5, .int (z_i x83_5)), (0, .ref y), (1, .int (z_i gi)), (2, .int (z_i n))]) hx hb dX8_streamOf_120 hl (k := 2) rfl (z_i_add _ _) (by decide) rfl (fun ls hl => ?_)
              refine lv_goto (tgt := 51) hx hb dX8_streamOf_123 (by decide) ?_
              exact hv _ _ ls hP hD hS (lv_sub hl [0, 1, 3, 4, 5] rfl)
          · have hv := hv.2 hc
            refine lv_aload_n hx hb dX8_streamOf_94 rfl (lv_at hl 3 rfl) ?_
            refine va_get (D := D) (ci := 6) (v := .ref ya_goesTo) (C := RX8) (T := TX8) (N := 33) hx hb hts (fun w h => List.mem_cons_of_mem _ (List.mem_append_right _ h)) hown hK hP 0 rfl rfl 26 (by decide) (hts (.fieldLink RX8 78 "ContourSheetsModel" "goesTo" "[I") (by decide +kernel)) (fun _ h9 => h9) rfl dX8_streamOf_95 ?_
            refine lv_iload hx hb dX8_streamOf_98 (lv_at hl 0 rfl) ?_
            obtain ⟨hi5, hv⟩ := hv
            refine lx_iald hx hb hK hP 3 1 rfl rfl (by decide) hi5.1 hi5.2 dX8_streamOf_100 ?_
            refine lx_topi (fun v6 hy7 => ?_)
            have hv := hv v6 hy7
            have h_v6 : z_in v6 := by rw [hy7]; exact (z_in_g _ _)
            refine lv_istore (lv' := [(5, .int (z_i v6)), (4, .int (z_i x51_4)), (3, .int (z_i x51_3)), (0, .ref y), (1, .int (z_i gi)), (2, .int (z_i n))]) hx hb dX8_streamOf_101 hl (by decide) rfl (fun ls hl => ?_)
            refine lv_goto (tgt := 83) hx hb dX8_streamOf_103 (by decide) ?_
            exact hv _ _ ls hP hD hS (lv_sub hl [0, 1, 2, 3, 4, 5] rfl)
  · have hv := hv.2 hc
    refine lv_aload_n hx hb dX8_streamOf_9 rfl (lv_at hl 1 rfl) ?_
    refine va_get (D := D) (ci := 6) (v := .ref ya_goesTo) (C := RX8) (T := TX8) (N := 33) hx hb hts (fun w h => List.mem_cons_of_mem _ (List.mem_append_right _ h)) hown hK hP 0 rfl rfl 26 (by decide) (hts (.fieldLink RX8 78 "ContourSheetsModel" "goesTo" "[I") (by decide +kernel)) (fun _ h9 => h9) rfl dX8_streamOf_10 ?_
    refine lv_iload_n hx hb dX8_streamOf_13 rfl (lv_at hl 0 rfl) ?_
    refine lv_aload_n hx hb dX8_streamOf_14 rfl (lv_at hl 1 rfl) ?_
    refine va_get (D := D) (ci := 6) (v := .ref ya_isThere) (C := RX8) (T := TX8) (N := 33) hx hb hts (fun w h => List.mem_cons_of_mem _ (List.mem_append_right _ h)) hown hK hP 0 rfl rfl 4 (by decide) (hts (.fieldLink RX8 22 "ContourSheetsModel" "isThere" "[Z") (by decide +kernel)) (fun _ h9 => h9) rfl dX8_streamOf_15 ?_
    refine lv_sipush (v := z_i 1280) hx hb dX8_streamOf_18 (by decide) ?_
    refine lv_iload_n hx hb dX8_streamOf_21 rfl (lv_at hl 2 rfl) ?_
    refine lx_imul hx hb dX8_streamOf_22 ?_
    refine lv_iload_n hx hb dX8_streamOf_23 rfl (lv_at hl 0 rfl) ?_
    refine lx_iadd hx hb dX8_streamOf_24 ?_
    obtain ⟨hi8, hv⟩ := hv
    refine lx_zald hx hb hK hP 2 3 rfl rfl (by decide) hi8.1 hi8.2 dX8_streamOf_25 ?_
    refine lx_if_eq (tgt := 38) hx hb dX8_streamOf_26 (by decide) (z_in_g _ _) (fun hc => ?_) (fun hc => ?_)
    · have hv := hv.1 hc
      refine lv_iconst (v := z_i (-1)) hx hb dX8_streamOf_38 rfl ?_
      obtain ⟨hi9, hv⟩ := hv
      refine lx_iast hx hb hK hP hD hS 3 1 rfl rfl (by decide) hi9.1 hi9.2 dX8_streamOf_39 (fun H locs hP hD hS => ?_)
      obtain ⟨f10, hy11⟩ : ∃ y : Nat → Int32, y = z_s y2_ya_goesTo x2_3 (-1) := ⟨_, rfl⟩
      have hv := hv f10 hy11
      have hP : va_P D vwCl [(y, .inr (6, [.ref y_space, .ref y_offset, .ref y_length, .ref ya_units, .ref ya_isThere, .int (z_i y_levels), .ref y_level, .int (z_i y_lines), .ref y_lineLevel, .ref y_lineUnits, .ref y_lineFrom, .ref y_lineMany, .ref y_isClosed, .ref y_insides, .ref y_parent, .ref y_isHigh, .ref y_inBits, .int (z_i y_sides), .ref y_side, .ref y_sideA, .ref y_sideB, .int (z_i y_lineSpace), .ref y_wasThere, .ref y_leads, .ref y_isLed, .ref y_isOn, .ref ya_goesTo, .ref y_stream, .ref y_filled, .ref y_isDone, .ref y_isReached, .ref y_newUnits, .ref y_isNew])), (ya_units, .inl (cA 1, 5120, .inl y_units)), (ya_isThere, .inl (cA 3, 5120, .inl y_isThere)), (ya_goesTo, .inl (cA 1, 1280, .inl f10))] H := by rw [hy11]; exact hP
      have hD : va_D A [(y, .inr (6, [.ref y_space, .ref y_offset, .ref y_length, .ref ya_units, .ref ya_isThere, .int (z_i y_levels), .ref y_level, .int (z_i y_lines), .ref y_lineLevel, .ref y_lineUnits, .ref y_lineFrom, .ref y_lineMany, .ref y_isClosed, .ref y_insides, .ref y_parent, .ref y_isHigh, .ref y_inBits, .int (z_i y_sides), .ref y_side, .ref y_sideA, .ref y_sideB, .int (z_i y_lineSpace), .ref y_wasThere, .ref y_leads, .ref y_isLed, .ref y_isOn, .ref ya_goesTo, .ref y_stream, .ref y_filled, .ref y_isDone, .ref y_isReached, .ref y_newUnits, .ref y_isNew])), (ya_units, .inl (cA 1, 5120, .inl y_units)), (ya_isThere, .inl (cA 3, 5120, .inl y_isThere)), (ya_goesTo, .inl (cA 1, 1280, .inl f10))] := by rw [hy11]; exact hD
      refine lv_iinc (v := z_i (x2_3 + 1)) (lv' := [(3, .int (z_i (x2_3 + 1))), (0, .ref y), (1, .int (z_i gi)), (2, .int (z_i n))]) hx hb dX8_streamOf_40 hl (k := 0) rfl (z_i_add _ _) (by decide) rfl (fun ls hl => ?_)
      refine lv_goto (tgt := 2) hx hb dX8_streamOf_43 (by decide) ?_
      exact hv _ _ ls hP hD hS (lv_sub hl [0, 1, 2, 3] rfl)
    · have hv := hv.2 hc
      refine lv_aload_n hx hb dX8_streamOf_29 rfl (lv_at hl 1 rfl) ?_
      refine lv_iload_n hx hb dX8_streamOf_30 rfl (lv_at hl 2 rfl) ?_
      refine lv_iload_n hx hb dX8_streamOf_31 rfl (lv_at hl 0 rfl) ?_
      obtain ⟨hp12, hv⟩ := hv
      obtain ⟨hp13, hv⟩ := hv
      obtain ⟨hp14, hv⟩ := hv
      refine va_calli (va_runV (As := [.int (z_i gi), .int (z_i x2_3)]) (rest := [.int (z_i x2_3), .ref ya_goesTo]) ⟨hx, hb, hml, hown, hts⟩ (mt_X8_flow l D cA y y_space y_offset y_length ya_units y_units ya_isThere y_isThere y_levels y_level y_lines y_lineLevel y_lineUnits y_lineFrom y_lineMany y_isClosed y_insides y_parent y_isHigh y_inBits y_sides y_side y_sideA y_sideB y_lineSpace y_wasThere y_leads y_isLed y_isOn ya_goesTo y_stream y_filled y_isDone y_isReached y_newUnits y_isNew gi x2_3 h_y_levels h_y_lines h_y_sides h_y_lineSpace h_gi h_x2_3 hp12 hp13 hp14) (cwV 2 hts gX8_streamOf_X8_flow rfl rfl rfl (by decide +kernel) ⟨Nat.le_of_ble_eq_true rfl, Nat.le_of_ble_eq_true rfl⟩) ⟨z_bl0, va_recv hK hP (ci := 6) (q0 := 0) rfl rfl, fun U hU hW => ⟨rfl, z_b0 hK (hP.sub (ws' := [(y, .inr (6, [.ref y_space, .ref y_offset, .ref y_length, .ref ya_units, .ref ya_isThere, .int (z_i y_levels), .ref y_level, .int (z_i y_lines), .ref y_lineLevel, .ref y_lineUnits, .ref y_lineFrom, .ref y_lineMany, .ref y_isClosed, .ref y_insides, .ref y_parent, .ref y_isHigh, .ref y_inBits, .int (z_i y_sides), .ref y_side, .ref y_sideA, .ref y_sideB, .int (z_i y_lineSpace), .ref y_wasThere, .ref y_leads, .ref y_isLed, .ref y_isOn, .ref ya_goesTo, .ref y_stream, .ref y_filled, .ref y_isDone, .ref y_isReached, .ref y_newUnits, .ref y_isNew])), (ya_units, .inl (cA 1, 5120, .inl y_units)), (ya_isThere, .inl (cA 3, 5120, .inl y_isThere))]) [0, 1, 2] rfl) hU hW⟩⟩ rfl rfl hl.1 rfl (lv_room (Nat.le_of_ble_eq_true rfl)) dX8_streamOf_32 ⟨Nat.zero_le _, Nat.zero_le _⟩) hS (fun q _ h => h.elim) (fun q h => h.elim) (fun r0 u t H locs ht hvm hw hB hz1 hk1 hS => ?_)
      obtain ⟨r15, rfl, h_r15, hw⟩ := hw
      have hP := z_P_all hP hk1
      have hv := hv r15 h_r15 hw
      refine lv_goto (tgt := 39) hx hb dX8_streamOf_35 (by decide) ?_
      obtain ⟨hi16, hv⟩ := hv
      refine lx_iast hx hb hK hP hD hS 3 1 rfl rfl (by decide) hi16.1 hi16.2 dX8_streamOf_39 (fun H locs hP hD hS => ?_)
      obtain ⟨f17, hy18⟩ : ∃ y : Nat → Int32, y = z_s y2_ya_goesTo x2_3 r15 := ⟨_, rfl⟩
      have hv := hv f17 hy18
      have hP : va_P D vwCl [(y, .inr (6, [.ref y_space, .ref y_offset, .ref y_length, .ref ya_units, .ref ya_isThere, .int (z_i y_levels), .ref y_level, .int (z_i y_lines), .ref y_lineLevel, .ref y_lineUnits, .ref y_lineFrom, .ref y_lineMany, .ref y_isClosed, .ref y_insides, .ref y_parent, .ref y_isHigh, .ref y_inBits, .int (z_i y_sides), .ref y_side, .ref y_sideA, .ref y_sideB, .int (z_i y_lineSpace), .ref y_wasThere, .ref y_leads, .ref y_isLed, .ref y_isOn, .ref ya_goesTo, .ref y_stream, .ref y_filled, .ref y_isDone, .ref y_isReached, .ref y_newUnits, .ref y_isNew])), (ya_units, .inl (cA 1, 5120, .inl y_units)), (ya_isThere, .inl (cA 3, 5120, .inl y_isThere)), (ya_goesTo, .inl (cA 1, 1280, .inl f17))] H := by rw [hy18]; exact hP
      have hD : va_D A [(y, .inr (6, [.ref y_space, .ref y_offset, .ref y_length, .ref ya_units, .ref ya_isThere, .int (z_i y_levels), .ref y_level, .int (z_i y_lines), .ref y_lineLevel, .ref y_lineUnits, .ref y_lineFrom, .ref y_lineMany, .ref y_isClosed, .ref y_insides, .ref y_parent, .ref y_isHigh, .ref y_inBits, .int (z_i y_sides), .ref y_side, .ref y_sideA, .ref y_sideB, .int (z_i y_lineSpace), .ref y_wasThere, .ref y_leads, .ref y_isLed, .ref y_isOn, .ref ya_goesTo, .ref y_stream, .ref y_filled, .ref y_isDone, .ref y_isReached, .ref y_newUnits, .ref y_isNew])), (ya_units, .inl (cA 1, 5120, .inl y_units)), (ya_isThere, .inl (cA 3, 5120, .inl y_isThere)), (ya_goesTo, .inl (cA 1, 1280, .inl f17))] := by rw [hy18]; exact hD
      refine lv_iinc (v := z_i (x2_3 + 1)) (lv' := [(3, .int (z_i (x2_3 + 1))), (0, .ref y), (1, .int (z_i gi)), (2, .int (z_i n))]) hx hb dX8_streamOf_40 hl (k := 0) rfl (z_i_add _ _) (by decide) rfl (fun ls hl => ?_)
      refine lv_goto (tgt := 2) hx hb dX8_streamOf_43 (by decide) ?_
      exact hv _ _ ls hP hD hS (lv_sub hl [0, 1, 2, 3] rfl)
set_option maxHeartbeats 4000000 in
set_option maxRecDepth 100000 in
theorem mt_X8_streamOf (l : Launch) (D : va_G) (cA : Nat → ClassId) (y : Nat) (y_space : Nat) (y_offset : Nat) (y_length : Nat) (ya_units : Nat) (y_units : Nat → Int32) (ya_isThere : Nat) (y_isThere : Nat → Int32) (y_levels : Int) (y_level : Nat) (y_lines : Int) (y_lineLevel : Nat) (y_lineUnits : Nat) (y_lineFrom : Nat) (y_lineMany : Nat) (y_isClosed : Nat) (y_insides : Nat) (y_parent : Nat) (y_isHigh : Nat) (y_inBits : Nat) (y_sides : Int) (y_side : Nat) (y_sideA : Nat) (y_sideB : Nat) (y_lineSpace : Int) (y_wasThere : Nat) (y_leads : Nat) (y_isLed : Nat) (y_isOn : Nat) (ya_goesTo : Nat) (y_goesTo : Nat → Int32) (y_stream : Nat) (y_filled : Nat) (y_isDone : Nat) (y_isReached : Nat) (y_newUnits : Nat) (y_isNew : Nat) (gi : Int) (n : Int) (h_y_levels : z_in y_levels) (h_y_lines : z_in y_lines) (h_y_sides : z_in y_sides) (h_y_lineSpace : z_in y_lineSpace) (h_gi : z_in gi) (h_n : z_in n) (hp1 : 0 ≤ gi ∧ gi < 4) (hp2 : q_bd y_units) (hp3 : q_th y_isThere gi n = true) : Met l yX8_streamOf wsX8_streamOf ({ frames := 4, cells := 0, slots := 0, locals := 101 } : Room) (va_Pc [.ref y, .int (z_i gi), .int (z_i n)] (z_M0 D cA [(y, .inr (6, [.ref y_space, .ref y_offset, .ref y_length, .ref ya_units, .ref ya_isThere, .int (z_i y_levels), .ref y_level, .int (z_i y_lines), .ref y_lineLevel, .ref y_lineUnits, .ref y_lineFrom, .ref y_lineMany, .ref y_isClosed, .ref y_insides, .ref y_parent, .ref y_isHigh, .ref y_inBits, .int (z_i y_sides), .ref y_side, .ref y_sideA, .ref y_sideB, .int (z_i y_lineSpace), .ref y_wasThere, .ref y_leads, .ref y_isLed, .ref y_isOn, .ref ya_goesTo, .ref y_stream, .ref y_filled, .ref y_isDone, .ref y_isReached, .ref y_newUnits, .ref y_isNew])), (ya_units, .inl (cA 1, 5120, .inl y_units)), (ya_isThere, .inl (cA 3, 5120, .inl y_isThere)), (ya_goesTo, .inl (cA 1, 1280, .inl y_goesTo))])) (va_Qi (z_mi (fun v (u : (Nat → Int32)) => (fun (r : Int) (y_goesTo' : (Nat → Int32)) => st_ans (q_th y_isThere gi) (q_at y_units y_isThere gi) n r) v u)) (fun (u : (Nat → Int32)) t => va_P D vwCl [(y, .inr (6, [.ref y_space, .ref y_offset, .ref y_length, .ref ya_units, .ref ya_isThere, .int (z_i y_levels), .ref y_level, .int (z_i y_lines), .ref y_lineLevel, .ref y_lineUnits, .ref y_lineFrom, .ref y_lineMany, .ref y_isClosed, .ref y_insides, .ref y_parent, .ref y_isHigh, .ref y_inBits, .int (z_i y_sides), .ref y_side, .ref y_sideA, .ref y_sideB, .int (z_i y_lineSpace), .ref y_wasThere, .ref y_leads, .ref y_isLed, .ref y_isOn, .ref ya_goesTo, .ref y_stream, .ref y_filled, .ref y_isDone, .ref y_isReached, .ref y_newUnits, .ref y_isNew])), (ya_units, .inl (cA 1, 5120, .inl y_units)), (ya_isThere, .inl (cA 3, 5120, .inl y_isThere)), (ya_goesTo, .inl (cA 1, 1280, .inl u))] t.heap) (z_A [(y, .inr (6, [.ref y_space, .ref y_offset, .ref y_length, .ref ya_units, .ref ya_isThere, .int (z_i y_levels), .ref y_level, .int (z_i y_lines), .ref y_lineLevel, .ref y_lineUnits, .ref y_lineFrom, .ref y_lineMany, .ref y_isClosed, .ref y_insides, .ref y_parent, .ref y_isHigh, .ref y_inBits, .int (z_i y_sides), .ref y_side, .ref y_sideA, .ref y_sideB, .int (z_i y_lineSpace), .ref y_wasThere, .ref y_leads, .ref y_isLed, .ref y_isOn, .ref ya_goesTo, .ref y_stream, .ref y_filled, .ref y_isDone, .ref y_isReached, .ref y_newUnits, .ref y_isNew])), (ya_units, .inl (cA 1, 5120, .inl y_units)), (ya_isThere, .inl (cA 3, 5120, .inl y_isThere)), (ya_goesTo, .inl (cA 1, 1280, .inl y_goesTo))])) 0 0 (z_A [(y, .inr (6, [.ref y_space, .ref y_offset, .ref y_length, .ref ya_units, .ref ya_isThere, .int (z_i y_levels), .ref y_level, .int (z_i y_lines), .ref y_lineLevel, .ref y_lineUnits, .ref y_lineFrom, .ref y_lineMany, .ref y_isClosed, .ref y_insides, .ref y_parent, .ref y_isHigh, .ref y_inBits, .int (z_i y_sides), .ref y_side, .ref y_sideA, .ref y_sideB, .int (z_i y_lineSpace), .ref y_wasThere, .ref y_leads, .ref y_isLed, .ref y_isOn, .ref ya_goesTo, .ref y_stream, .ref y_filled, .ref y_isDone, .ref y_isReached, .ref y_newUnits, .ref y_isNew])), (ya_units, .inl (cA 1, 5120, .inl y_units)), (ya_isThere, .inl (cA 3, 5120, .inl y_isThere)), (ya_goesTo, .inl (cA 1, 1280, .inl y_goesTo))]) := by
  refine wk_X8_streamOf l D cA y y_space y_offset y_length ya_units y_units ya_isThere y_isThere y_levels y_level y_lines y_lineLevel y_lineUnits y_lineFrom y_lineMany y_isClosed y_insides y_parent y_isHigh y_inBits y_sides y_side y_sideA y_sideB y_lineSpace y_wasThere y_leads y_isLed y_isOn ya_goesTo y_goesTo y_stream y_filled y_isDone y_isReached y_newUnits y_isNew gi n h_y_levels h_y_lines h_y_sides h_y_lineSpace h_gi h_n (fun (r : Int) (y_goesTo' : (Nat → Int32)) => st_ans (q_th y_isThere gi) (q_at y_units y_isThere gi) n r) ?_
  unfold vc_X8_streamOf
  have hU : ∀ p, (q_th y_isThere gi) p = true → -8388608 ≤ (q_at y_units y_isThere gi) p ∧ (q_at y_units y_isThere gi) p ≤ 8388608 := fun p hp => q_bd_at hp2 hp1.1 hp1.2 hp
  have hn := q_th_in hp3
  have tk : ∀ k : Int, 0 ≤ k → k < 1280 → ((q_th y_isThere gi) k = true ↔ z_g y_isThere (1280 * gi + k) ≠ 0) := fun k k0 k1 => by
    unfold q_th; rw [decide_eq_true_iff]; exact ⟨fun h => h.2.2, fun h => ⟨k0, k1, h⟩⟩
  intro L1 hL1
  suffices H : ∀ (d k : Nat) (y : Nat → Int32), k + d = 1280 → (∀ q : Int, 0 ≤ q → q < k → (q_th y_isThere gi) q = true → z_g y q = m_dn (q_th y_isThere gi) (q_at y_units y_isThere gi) q) → L1 k y from H 1280 0 _ rfl (fun q _ b => absurd b (by omega))
  intro d
  induction d with
  | zero =>
    intro k y hk hy
    obtain rfl : k = 1280 := by omega
    refine hL1 _ _ ⟨by omega, by omega⟩ ⟨fun _ => ?_, fun h => absurd h (by omega)⟩
    have lo : ∀ a : Int, (q_th y_isThere gi) a = true → m_dn (q_th y_isThere gi) (q_at y_units y_isThere gi) a ≠ -1 → (q_th y_isThere gi) (m_dn (q_th y_isThere gi) (q_at y_units y_isThere gi) a) = true ∧ r_lo (q_th y_isThere gi) (q_at y_units y_isThere gi) ((q_at y_units y_isThere gi) (m_dn (q_th y_isThere gi) (q_at y_units y_isThere gi) a)) 1280 < r_lo (q_th y_isThere gi) (q_at y_units y_isThere gi) ((q_at y_units y_isThere gi) a) 1280 := fun a ha h => by
      have hd := m_dn_th hU ha h
      have hi := q_th_in hd.1
      exact ⟨hd.1, r_lo_lt (Int.le_refl _) hd.2 hd.1 hi.1 1280 (by omega)⟩
    intro L2 hL2
    suffices H : ∀ (d k : Nat) (f : Int), k + d = 1280 → (∃ l : List Int, l.Nodup ∧ (∀ q, q ∈ l ↔ (0 ≤ q ∧ q < k) ∧ (q_th y_isThere gi) q = true ∧ ∃ z, st_to (q_th y_isThere gi) (q_at y_units y_isThere gi) z q n) ∧ f = (l.length : Int)) → 0 ≤ f → f ≤ k → L2 k f from H 1280 0 0 rfl ⟨[], List.nodup_nil, fun q => ⟨fun h => absurd h List.not_mem_nil, fun h => absurd h.1.2 (by have := h.1.1; omega)⟩, rfl⟩ (by omega) (by omega)
    intro d
    induction d with
    | zero =>
      intro k f hk hl f0 f1
      obtain rfl : k = 1280 := by omega
      refine hL2 _ _ ⟨by omega, by omega⟩ ⟨by omega, by omega⟩ ⟨fun _ => ?_, fun h => absurd h (by omega)⟩
      obtain ⟨l, l1, l2, l3⟩ := hl
      refine ⟨l, l1, fun q => (l2 q).trans ⟨fun h => h.2, fun h => ⟨?_, h⟩⟩, l3⟩
      have := q_th_in h.1
      exact ⟨this.1, by omega⟩
    | succ d ih =>
      intro k f hk hl f0 f1
      refine hL2 _ _ ⟨by omega, by omega⟩ ⟨by omega, by omega⟩ ⟨fun h => absurd h (by omega), fun _ => ⟨⟨by omega, by omega⟩, ?_⟩⟩
      obtain ⟨l, l1, l2, l3⟩ := hl
      have skip : ¬ ((q_th y_isThere gi) k = true ∧ ∃ z, st_to (q_th y_isThere gi) (q_at y_units y_isThere gi) z (k : Int) n) → L2 ((k : Int) + 1) (f + 0) := by
        intro hno
        refine ih (k + 1) _ (by omega) ⟨l, l1, fun q => ⟨fun h => ?_, fun h => ?_⟩, by omega⟩ (by omega) (by omega)
        · have := (l2 q).mp h
          exact ⟨⟨this.1.1, by have := this.1.2; omega⟩, this.2⟩
        · by_cases e : q = k
          · rw [e] at h; exact absurd h.2 hno
          · exact (l2 q).mpr ⟨⟨h.1.1, by have := h.1.2; omega⟩, h.2⟩
      have add : ((q_th y_isThere gi) k = true ∧ ∃ z, st_to (q_th y_isThere gi) (q_at y_units y_isThere gi) z (k : Int) n) → L2 ((k : Int) + 1) (f + 1) := by
        intro hyes
        refine ih (k + 1) _ (by omega) ⟨(k : Int) :: l, List.nodup_cons.mpr ⟨fun h => by have := ((l2 _).mp h).1.2; omega, l1⟩, fun q => ⟨fun h => ?_, fun h => ?_⟩, by rw [List.length_cons, l3]; omega⟩ (by omega) (by omega)
        · rcases List.mem_cons.mp h with e | h
          · rw [e]; exact ⟨⟨by omega, by omega⟩, hyes⟩
          · have := (l2 q).mp h
            exact ⟨⟨this.1.1, by have := this.1.2; omega⟩, this.2⟩
        · by_cases e : q = k
          · rw [e]; exact List.mem_cons_self
          · exact List.mem_cons_of_mem _ ((l2 q).mpr ⟨⟨h.1.1, by have := h.1.2; omega⟩, h.2⟩)
      refine ⟨fun h0 => ?_, fun h0 => ?_⟩
      · intro L3 hL3
        have hno : ¬ ((q_th y_isThere gi) k = true ∧ ∃ z, st_to (q_th y_isThere gi) (q_at y_units y_isThere gi) z (k : Int) n) := fun h => (tk k (by omega) (by omega)).mp h.1 h0
        exact hL3 _ ⟨by omega, by omega⟩ ⟨fun _ => ⟨fun _ => skip hno, fun h => absurd h (by omega)⟩, fun h => absurd h (by omega)⟩
      · intro L3 hL3
        have hTk := (tk k (by omega) (by omega)).mpr h0
        suffices G : ∀ (d3 : Nat) (a : Int), (q_th y_isThere gi) a = true → r_lo (q_th y_isThere gi) (q_at y_units y_isThere gi) ((q_at y_units y_isThere gi) a) 1280 ≤ d3 → ((∃ z, st_to (q_th y_isThere gi) (q_at y_units y_isThere gi) z (k : Int) n) ↔ ∃ z, st_to (q_th y_isThere gi) (q_at y_units y_isThere gi) z a n) → L3 a from G 1280 k hTk (r_lo_m 1280) Iff.rfl
        have stop : ¬ (∃ z, st_to (q_th y_isThere gi) (q_at y_units y_isThere gi) z (k : Int) n) → L3 (-1) := fun h => hL3 _ ⟨by omega, by omega⟩ ⟨fun _ => ⟨fun _ => skip (fun q9 => h q9.2), fun q9 => absurd q9 (by omega)⟩, fun q9 => absurd q9 (by omega)⟩
        intro d3
        induction d3 with
        | zero =>
          intro a ha hr hiff
          have hi := q_th_in ha
          refine hL3 _ ⟨by omega, by omega⟩ ⟨fun h => absurd h (by omega), fun _ => ⟨fun e => ⟨fun h => absurd e h, fun _ => add ⟨hTk, hiff.mpr ⟨0, e⟩⟩⟩, fun e => ⟨hi, ?_⟩⟩⟩
          rintro v6 h6
          rw [hy a hi.1 (by omega) ha] at h6
          by_cases hd : m_dn (q_th y_isThere gi) (q_at y_units y_isThere gi) a = -1
          · rw [h6, hd]
            refine stop (fun h => ?_)
            obtain ⟨z, hz⟩ := hiff.mp h
            cases z with
            | zero => exact e hz
            | succ z => exact hz.1 hd
          · exact absurd (lo a ha hd).2 (by omega)
        | succ d3 ih3 =>
          intro a ha hr hiff
          have hi := q_th_in ha
          refine hL3 _ ⟨by omega, by omega⟩ ⟨fun h => absurd h (by omega), fun _ => ⟨fun e => ⟨fun h => absurd e h, fun _ => add ⟨hTk, hiff.mpr ⟨0, e⟩⟩⟩, fun e => ⟨hi, ?_⟩⟩⟩
          rintro v6 h6
          rw [hy a hi.1 (by omega) ha] at h6
          by_cases hd : m_dn (q_th y_isThere gi) (q_at y_units y_isThere gi) a = -1
          · rw [h6, hd]
            refine stop (fun h => ?_)
            obtain ⟨z, hz⟩ := hiff.mp h
            cases z with
            | zero => exact e hz
            | succ z => exact hz.1 hd
          · have hl := lo a ha hd
            rw [h6]
            refine ih3 _ hl.1 (by omega) (hiff.trans ⟨fun h => ?_, fun h => ?_⟩)
            · obtain ⟨z, hz⟩ := h
              cases z with
              | zero => exact absurd hz e
              | succ z => exact ⟨z, hz.2⟩
            · obtain ⟨z, hz⟩ := h
              exact ⟨z + 1, hd, hz⟩
  | succ d ih =>
    intro k y hk hy
    refine hL1 _ _ ⟨by omega, by omega⟩ ⟨fun h => absurd h (by omega), fun _ => ⟨⟨by omega, by omega⟩, fun h0 => ⟨⟨by omega, by omega⟩, ?_⟩, fun h0 => ⟨hp1, hp2, (tk k (by omega) (by omega)).mpr h0, ?_⟩⟩⟩
    · rintro f10 rfl
      refine ih (k + 1) _ (by omega) ?_
      intro q a b hT
      rw [z_gs ⟨by omega, by omega⟩ (by omega) a]
      by_cases e : q = k
      · rw [e] at hT; exact absurd h0 ((tk k (by omega) (by omega)).mp hT)
      · rw [if_neg e]; exact hy q a (by omega) hT
    · rintro r15 z15 h15
      refine ⟨⟨by omega, by omega⟩, ?_⟩
      rintro f17 rfl
      refine ih (k + 1) _ (by omega) ?_
      intro q a b hT
      rw [z_gs z15 (by omega) a]
      by_cases e : q = k
      · rw [if_pos e, e]; exact h15
      · rw [if_neg e]; exact hy q a (by omega) hT
