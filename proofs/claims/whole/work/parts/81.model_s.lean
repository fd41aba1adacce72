theorem l_lu_n {T : Int → Bool} {U : Int → Int} {hs : Nat → Int32} {ls : List d_L} {k : Nat} {l : d_L} (h : l_ok T U hs ls) (hl : ls[k]? = some l) : l_lu ls hs (k : Int) = z_g hs l.1 := by
  unfold l_lu
  rw [l_at_n hl, if_pos (h l (List.mem_of_getElem? hl)).1]
/-- words of bits against single bits -/
theorem i_all {bits : Nat → Int64} {a b : Nat} {P R : Nat → Bool} (ha : ∀ q : Nat, q < 1280 → i_bt bits (20 * a + q / 64) (q % 64) = P q) (hb : ∀ q : Nat, q < 1280 → i_bt bits (20 * b + q / 64) (q % 64) = R q) (w : Nat) (hw : w < 20) : (∀ j : Nat, j < 64 → i_bt bits (20 * a + w) j = true → i_bt bits (20 * b + w) j = true) ↔ ∀ q : Nat, q / 64 = w → P q = true → R q = true := by
  constructor
  · intro h q hq hp
    rw [← ha q (by omega), hq] at hp
    rw [← hb q (by omega), hq]
    exact h _ (by omega) hp
  · intro h j hj hp
    have e1 : (64 * w + j) / 64 = w := by omega
    have e2 : (64 * w + j) % 64 = j := by omega
    have p1 := ha (64 * w + j) (by omega)
    have p2 := hb (64 * w + j) (by omega)
    rw [e1, e2] at p1 p2
    rw [p2]
    exact h _ e1 (by rw [← p1]; exact hp)
def vc_X8_isAround (y_lineUnits : Nat → Int32) (y_isClosed : Nat → Int32) (y_insides : Nat → Int32) (y_isHigh : Nat → Int32) (y_inBits : Nat → Int64) (k : Int) (o : Int) (Q : Int → Prop) : Prop :=
(0 ≤ k ∧ k < 400) ∧ ((z_g y_isClosed k = 0 → Q 0) ∧
(z_g y_isClosed k ≠ 0 → ((k ≠ o → (∀ L18 : Int → Prop,
(∀ (x18_3 : Int), z_in x18_3 → ((x18_3 ≥ 20 → (0 ≤ o ∧ o < 400) ∧ ((z_g y_insides k = z_g y_insides o → ((z_g y_isHigh k = 0 → ((z_g y_lineUnits k ≤ z_g y_lineUnits o → Q 0) ∧
(z_g y_lineUnits k > z_g y_lineUnits o → Q 1))) ∧
(z_g y_isHigh k ≠ 0 → ((z_g y_lineUnits k ≥ z_g y_lineUnits o → Q 0) ∧
(z_g y_lineUnits k < z_g y_lineUnits o → Q 1))))) ∧
(z_g y_insides k ≠ z_g y_insides o → Q 1))) ∧
(x18_3 < 20 → (0 ≤ (20 * o) + x18_3 ∧ (20 * o) + x18_3 < 8000) ∧ (0 ≤ (20 * k) + x18_3 ∧ (20 * k) + x18_3 < 8000) ∧ ((z_andl (z_gl y_inBits ((20 * o) + x18_3)) (z_xorl (z_gl y_inBits ((20 * k) + x18_3)) (-1)) = 0 → L18 (x18_3 + 1)) ∧
(z_andl (z_gl y_inBits ((20 * o) + x18_3)) (z_xorl (z_gl y_inBits ((20 * k) + x18_3)) (-1)) ≠ 0 → Q 0)))) → L18 x18_3) →
L18 0)) ∧
(k = o → Q 0))))
set_option maxHeartbeats 4000000 in
set_option maxRecDepth 100000 in
theorem wk_X8_isAround (l : Launch) (D : va_G) (cA : Nat → ClassId) (y : Nat) (y_space : Nat) (y_offset : Nat) (y_length : Nat) (y_units : Nat) (y_isThere : Nat) (y_levels : Int) (y_level : Nat) (y_lines : Int) (y_lineLevel : Nat) (ya_lineUnits : Nat) (y_lineUnits : Nat → Int32) (y_lineFrom : Nat) (y_lineMany : Nat) (ya_isClosed : Nat) (y_isClosed : Nat → Int32) (ya_insides : Nat) (y_insides : Nat → Int32) (y_parent : Nat) (ya_isHigh : Nat) (y_isHigh : Nat → Int32) (ya_inBits : Nat) (y_inBits : Nat → Int64) (y_sides : Int) (y_side : Nat) (y_sideA : Nat) (y_sideB : Nat) (y_lineSpace : Int) (y_wasThere : Nat) (y_leads : Nat) (y_isLed : Nat) (y_isOn : Nat) (y_goesTo : Nat) (y_stream : Nat) (y_filled : Nat) (y_isDone : Nat) (y_isReached : Nat) (y_newUnits : Nat) (y_isNew : Nat) (k : Int) (o : Int) (h_y_levels : z_in y_levels) (h_y_lines : z_in y_lines) (h_y_sides : z_in y_sides) (h_y_lineSpace : z_in y_lineSpace) (h_k : z_in k) (h_o : z_in o) (Q : Int → Prop) (hv : vc_X8_isAround y_lineUnits y_isClosed y_insides y_isHigh y_inBits k o Q) : Met l yX8_isAround wsX8_isAround ({ frames := 0, cells := 0, slots := 0, locals := 0 } : Room) (va_Pc [.ref y, .int (z_i k), .int (z_i o)] (z_B0 D cA [(y, .inr (6, [.ref y_space, .ref y_offset, .ref y_length, .ref y_units, .ref y_isThere, .int (z_i y_levels), .ref y_level, .int (z_i y_lines), .ref y_lineLevel, .ref ya_lineUnits, .ref y_lineFrom, .ref y_lineMany, .ref ya_isClosed, .ref ya_insides, .ref y_parent, .ref ya_isHigh, .ref ya_inBits, .int (z_i y_sides), .ref y_side, .ref y_sideA, .ref y_sideB, .int (z_i y_lineSpace), .ref y_wasThere, .ref y_leads, .ref y_isLed, .ref y_isOn, .ref y_goesTo, .ref y_stream, .ref y_filled, .ref y_isDone, .ref y_isReached, .ref y_newUnits, .ref y_isNew])), (ya_lineUnits, .inl (cA 1, 400, .inl y_lineUnits)), (ya_isClosed, .inl (cA 3, 400, .inl y_isClosed)), (ya_insides, .inl (cA 1, 400, .inl y_insides)), (ya_isHigh, .inl (cA 3, 400, .inl y_isHigh)), (ya_inBits, .inl (cA 2, 8000, .inr (.inl y_inBits)))])) (va_Qi (z_ri Q) (fun _ _ => True) (fun _ => False)) 0 0 (fun _ => False) := by
  unfold vc_X8_isAround at hv
  refine Met.ofW (cc := cX8_isAround) (maxL := 4) (ret := (some .boolean)) (by decide +kernel) rfl ?_
  intro p e s m args below meth c s₁ B hml hv0
  obtain ⟨rfl, hK, hP⟩ := hv0
  have hx := B.exec
  have hb := B.bytes
  have hr := B.returns
  have hts := atoms_spec (ws := wsX8_isAround) B.pre
  have hown : s.vm.findClass RX8 = some m.cls := findClass_of_methodNamed B.named
  have hlocks := B.notSynchronized
  have hS : va_S (fun _ : Nat => False) s.heap s.heap [] := va_S.rf
  have hl := lv_entry ([.ref y, .int (z_i k), .int (z_i o)]) (n := 4) (Nat.le_of_ble_eq_true rfl)
  rw [lg_entry_eq]
  generalize (lg_sl ([.ref y, .int (z_i k), .int (z_i o)]) ++ List.replicate (4 - (lg_sl ([.ref y, .int (z_i k), .int (z_i o)])).length) Slot.unset).toArray = ls at hl ⊢
  have hl : lv_has ls 4 [(0, .ref y), (1, .int (z_i k)), (2, .int (z_i o))] := hl
  refine lv_aload_n hx hb dX8_isAround_0 rfl (lv_at hl 0 rfl) ?_
  refine va_get (D := D) (ci := 6) (v := .ref ya_isClosed) (C := RX8) (T := TX8) (N := 33) hx hb hts (fun w h => List.mem_cons_of_mem _ (List.mem_append_right _ h)) hown hK hP 0 rfl rfl 12 (by decide) (hts (.fieldLink RX8 41 "ContourSheetsModel" "isClosed" "[Z") (by decide +kernel)) (fun _ h9 => h9) rfl dX8_isAround_1 ?_
  refine lv_iload_n hx hb dX8_isAround_4 rfl (lv_at hl 1 rfl) ?_
  obtain ⟨hi1, hv⟩ := hv
  refine lx_zald hx hb hK hP 2 3 rfl rfl (by decide) hi1.1 hi1.2 dX8_isAround_5 ?_
  refine lx_if_eq (tgt := 14) hx hb dX8_isAround_6 (by decide) (z_in_g _ _) (fun hc => ?_) (fun hc => ?_)
  · have hv := hv.1 hc
    refine lv_iconst (v := z_i 0) hx hb dX8_isAround_14 rfl ?_
    exact W.zret (v := z_i 0) hx hb hr (by decide) (fun t ht hW => ⟨⟨z_i 0, (), rfl, ⟨0, rfl, (show z_in 0 from ⟨by decide, by decide⟩), hv⟩, trivial⟩, hS.F ht⟩) hS.2.2 dX8_isAround_15
  · have hv := hv.2 hc
    refine lv_iload_n hx hb dX8_isAround_9 rfl (lv_at hl 1 rfl) ?_
    refine lv_iload_n hx hb dX8_isAround_10 rfl (lv_at hl 2 rfl) ?_
    refine lx_icmp_ne (tgt := 16) hx hb dX8_isAround_11 (by decide) h_k h_o (fun hc => ?_) (fun hc => ?_)
    · have hv := hv.1 hc
      refine lv_iconst (v := z_i 0) hx hb dX8_isAround_16 rfl ?_
      refine lv_istore_n (lv' := [(3, .int (z_i 0)), (0, .ref y), (1, .int (z_i k)), (2, .int (z_i o))]) hx hb dX8_isAround_17 rfl hl (by decide) rfl (fun ls hl => ?_)
      refine hv (fun (x18_3 : Int) => ∀ (H : Heap) (locs : List Loc) (ls : Array Slot), va_P D vwCl [(y, .inr (6, [.ref y_space, .ref y_offset, .ref y_length, .ref y_units, .ref y_isThere, .int (z_i y_levels), .ref y_level, .int (z_i y_lines), .ref y_lineLevel, .ref ya_lineUnits, .ref y_lineFrom, .ref y_lineMany, .ref ya_isClosed, .ref ya_insides, .ref y_parent, .ref ya_isHigh, .ref ya_inBits, .int (z_i y_sides), .ref y_side, .ref y_sideA, .ref y_sideB, .int (z_i y_lineSpace), .ref y_wasThere, .ref y_leads, .ref y_isLed, .ref y_isOn, .ref y_goesTo, .ref y_stream, .ref y_filled, .ref y_isDone, .ref y_isReached, .ref y_newUnits, .ref y_isNew])), (ya_lineUnits, .inl (cA 1, 400, .inl y_lineUnits)), (ya_isClosed, .inl (cA 3, 400, .inl y_isClosed)), (ya_insides, .inl (cA 1, 400, .inl y_insides)), (ya_isHigh, .inl (cA 3, 400, .inl y_isHigh)), (ya_inBits, .inl (cA 2, 8000, .inr (.inl y_inBits)))] H → va_S (fun _ : Nat => False) s.heap H locs → lv_has ls 4 [(3, .int (z_i x18_3)), (0, .ref y), (1, .int (z_i k)), (2, .int (z_i o))] → W p l e _ s m _ below meth c H locs 0 0 _ (F0 m 18 ls [])) ?_ _ _ ls hP hS (lv_sub hl [0, 1, 2, 3] rfl)
      intro x18_3 h_x18_3 hv H locs ls hP hS hl
      refine lv_iload_n hx hb dX8_isAround_18 rfl (lv_at hl 0 rfl) ?_
      refine lv_bipush (v := z_i 20) hx hb dX8_isAround_19 (by decide) ?_
      refine lx_icmp_ge (tgt := 64) hx hb dX8_isAround_21 (by decide) h_x18_3 (show z_in 20 from ⟨by decide, by decide⟩) (fun hc => ?_) (fun hc => ?_)
      · have hv := hv.1 hc
        refine lv_aload_n hx hb dX8_isAround_64 rfl (lv_at hl 1 rfl) ?_
        refine va_get (D := D) (ci := 6) (v := .ref ya_insides) (C := RX8) (T := TX8) (N := 33) hx hb hts (fun w h => List.mem_cons_of_mem _ (List.mem_append_right _ h)) hown hK hP 0 rfl rfl 13 (by decide) (hts (.fieldLink RX8 44 "ContourSheetsModel" "insides" "[I") (by decide +kernel)) (fun _ h9 => h9) rfl dX8_isAround_65 ?_
        refine lv_iload_n hx hb dX8_isAround_68 rfl (lv_at hl 2 rfl) ?_
        refine lx_iald hx hb hK hP 3 1 rfl rfl (by decide) hi1.1 hi1.2 dX8_isAround_69 ?_
        refine lv_aload_n hx hb dX8_isAround_70 rfl (lv_at hl 1 rfl) ?_
        refine va_get (D := D) (ci := 6) (v := .ref ya_insides) (C := RX8) (T := TX8) (N := 33) hx hb hts (fun w h => List.mem_cons_of_mem _ (List.mem_append_right _ h)) hown hK hP 0 rfl rfl 13 (by decide) (hts (.fieldLink RX8 44 "ContourSheetsModel" "insides" "[I") (by decide +kernel)) (fun _ h9 => h9) rfl dX8_isAround_71 ?_
        refine lv_iload_n hx hb dX8_isAround_74 rfl (lv_at hl 3 rfl) ?_
        obtain ⟨hi2, hv⟩ := hv
        refine lx_iald hx hb hK hP 3 1 rfl rfl (by decide) hi2.1 hi2.2 dX8_isAround_75 ?_
        refine lx_icmp_eq (tgt := 81) hx hb dX8_isAround_76 (by decide) (z_in_g _ _) (z_in_g _ _) (fun hc => ?_) (fun hc => ?_)
        · have hv := hv.1 hc
          refine lv_aload_n hx hb dX8_isAround_81 rfl (lv_at hl 1 rfl) ?_
          refine va_get (D := D) (ci := 6) (v := .ref ya_isHigh) (C := RX8) (T := TX8) (N := 33) hx hb hts (fun w h => List.mem_cons_of_mem _ (List.mem_append_right _ h)) hown hK hP 0 rfl rfl 15 (by decide) (hts (.fieldLink RX8 50 "ContourSheetsModel" "isHigh" "[Z") (by decide +kernel)) (fun _ h9 => h9) rfl dX8_isAround_82 ?_
          refine lv_iload_n hx hb dX8_isAround_85 rfl (lv_at hl 2 rfl) ?_
          refine lx_zald hx hb hK hP 4 3 rfl rfl (by decide) hi1.1 hi1.2 dX8_isAround_86 ?_
          refine lx_if_eq (tgt := 113) hx hb dX8_isAround_87 (by decide) (z_in_g _ _) (fun hc => ?_) (fun hc => ?_)
          · have hv := hv.1 hc
            refine lv_aload_n hx hb dX8_isAround_113 rfl (lv_at hl 1 rfl) ?_
            refine va_get (D := D) (ci := 6) (v := .ref ya_lineUnits) (C := RX8) (T := TX8) (N := 33) hx hb hts (fun w h => List.mem_cons_of_mem _ (List.mem_append_right _ h)) hown hK hP 0 rfl rfl 9 (by decide) (hts (.fieldLink RX8 32 "ContourSheetsModel" "lineUnits" "[I") (by decide +kernel)) (fun _ h9 => h9) rfl dX8_isAround_114 ?_
            refine lv_iload_n hx hb dX8_isAround_117 rfl (lv_at hl 2 rfl) ?_
            refine lx_iald hx hb hK hP 1 1 rfl rfl (by decide) hi1.1 hi1.2 dX8_isAround_118 ?_
            refine lv_aload_n hx hb dX8_isAround_119 rfl (lv_at hl 1 rfl) ?_
            refine va_get (D := D) (ci := 6) (v := .ref ya_lineUnits) (C := RX8) (T := TX8) (N := 33) hx hb hts (fun w h => List.mem_cons_of_mem _ (List.mem_append_right _ h)) hown hK hP 0 rfl rfl 9 (by decide) (hts (.fieldLink RX8 32 "ContourSheetsModel" "lineUnits" "[I") (by decide +kernel)) (fun _ h9 => h9) rfl dX8_isAround_120 ?_
            refine lv_iload_n hx hb dX8_isAround_123 rfl (lv_at hl 3 rfl) ?_
            refine lx_iald hx hb hK hP 1 1 rfl rfl (by decide) hi2.1 hi2.2 dX8_isAround_124 ?_
            refine lx_icmp_le (tgt := 132) hx hb dX8_isAround_125 (by decide) (z_in_g _ _) (z_in_g _ _) (fun hc => ?_) (fun hc => ?_)
            · have hv := hv.1 hc
              refine lv_iconst (v := z_i 0) hx hb dX8_isAround_132 rfl ?_
              exact W.zret (v := z_i 0) hx hb hr (by decide) (fun t ht hW => ⟨⟨z_i 0, (), rfl, ⟨0, rfl, (show z_in 0 from ⟨by decide, by decide⟩), hv⟩, trivial⟩, hS.F ht⟩) hS.2.2 dX8_isAround_133
            · have hv := hv.2 hc
              refine lv_iconst (v := z_i 1) hx hb dX8_isAround_128 rfl ?_
              refine lv_goto (tgt := 133) hx hb dX8_isAround_129 (by decide) ?_
              exact W.zret (v := z_i 1) hx hb hr (by decide) (fun t ht hW => ⟨⟨z_i 1, (), rfl, ⟨1, rfl, (show z_in 1 from ⟨by decide, by decide⟩), hv⟩, trivial⟩, hS.F ht⟩) hS.2.2 dX8_isAround_133
          · have hv := hv.2 hc
            refine lv_aload_n hx hb dX8_isAround_90 rfl (lv_at hl 1 rfl) ?_
            refine va_get (D := D) (ci := 6) (v := .ref ya_lineUnits) (C := RX8) (T := TX8) (N := 33) hx hb hts (fun w h => List.mem_cons_of_mem _ (List.mem_append_right _ h)) hown hK hP 0 rfl rfl 9 (by decide) (hts (.fieldLink RX8 32 "ContourSheetsModel" "lineUnits" "[I") (by decide +kernel)) (fun _ h9 => h9) rfl dX8_isAround_91 ?_
            refine lv_iload_n hx hb dX8_isAround_94 rfl (lv_at hl 2 rfl) ?_
            refine lx_iald hx hb hK hP 1 1 rfl rfl (by decide) hi1.1 hi1.2 dX8_isAround_95 ?_
            refine lv_aload_n hx hb dX8_isAround_96 rfl (lv_at hl 1 rfl) ?_
            refine va_get (D := D) (ci := 6) (v := .ref ya_lineUnits) (C := RX8) (T := TX8) (N := 33) hx hb hts (fun w h => List.mem_cons_of_mem _ (List.mem_append_right _ h)) hown hK hP 0 rfl rfl 9 (by decide) (hts (.fieldLink RX8 32 "ContourSheetsModel" "lineUnits" "[I") (by decide +kernel)) (fun _ h9 => h9) rfl dX8_isAround_97 ?_
            refine lv_iload_n hx hb dX8_isAround_100 rfl (lv_at hl 3 rfl) ?_
            refine lx_iald hx hb hK hP 1 1 rfl rfl (by decide) hi2.1 hi2.2 dX8_isAround_101 ?_
            refine lx_icmp_ge (tgt := 109) hx hb dX8_isAround_102 (by decide) (z_in_g _ _) (z_in_g _ _) (fun hc => ?_) (fun hc => ?_)
            · have hv := hv.1 hc
              refine lv_iconst (v := z_i 0) hx hb dX8_isAround_109 rfl ?_
              refine lv_goto (tgt := 133) hx hb dX8_isAround_110 (by decide) ?_
              exact W.zret (v := z_i 0) hx hb hr (by decide) (fun t ht hW => ⟨⟨z_i 0, (), rfl, ⟨0, rfl, (show z_in 0 from ⟨by decide, by decide⟩), hv⟩, trivial⟩, hS.F ht⟩) hS.2.2 dX8_isAround_133
            · have hv := hv.2 hc
              refine lv_iconst (v := z_i 1) hx hb dX8_isAround_105 rfl ?_
              refine lv_goto (tgt := 133) hx hb dX8_isAround_106 (by decide) ?_
              exact W.zret (v := z_i 1) hx hb hr (by decide) (fun t ht hW => ⟨⟨z_i 1, (), rfl, ⟨1, rfl, (show z_in 1 from ⟨by decide, by decide⟩), hv⟩, trivial⟩, hS.F ht⟩) hS.2.2 dX8_isAround_133
        · have hv := hv.2 hc
          refine lv_iconst (v := z_i 1) hx hb dX8_isAround_79 rfl ?_
          exact W.zret (v := z_i 1) hx hb hr (by decide) (fun t ht hW => ⟨⟨z_i 1, (), rfl, ⟨1, rfl, (show z_in 1 from ⟨by decide, by decide⟩), hv⟩, trivial⟩, hS.F ht⟩) hS.2.2 dX8_isAround_80
      · have hv := hv.2 hc
        refine lv_aload_n hx hb dX8_isAround_24 rfl (lv_at hl 1 rfl) ?_
        refine va_get (D := D) (ci := 6) (v := .ref ya_inBits) (C := RX8) (T := TX8) (N := 33) hx hb hts (fun w h => List.mem_cons_of_mem _ (List.mem_append_right _ h)) hown hK hP 0 rfl rfl 16 (by decide) (hts (.fieldLink RX8 53 "ContourSheetsModel" "inBits" "[J") (by decide +kernel)) (fun _ h9 => h9) rfl dX8_isAround_25 ?_
        refine lv_bipush (v := z_i 20) hx hb dX8_isAround_28 (by decide) ?_
        refine lv_iload_n hx hb dX8_isAround_30 rfl (lv_at hl 3 rfl) ?_
        refine lx_imul hx hb dX8_isAround_31 ?_
        refine lv_iload_n hx hb dX8_isAround_32 rfl (lv_at hl 0 rfl) ?_
        refine lx_iadd hx hb dX8_isAround_33 ?_
        obtain ⟨hi3, hv⟩ := hv
        refine lx_lald hx hb hK hP 5 2 rfl rfl (by decide) hi3.1 hi3.2 dX8_isAround_34 ?_
        refine lv_aload_n hx hb dX8_isAround_35 rfl (lv_at hl 1 rfl) ?_
        refine va_get (D := D) (ci := 6) (v := .ref ya_inBits) (C := RX8) (T := TX8) (N := 33) hx hb hts (fun w h => List.mem_cons_of_mem _ (List.mem_append_right _ h)) hown hK hP 0 rfl rfl 16 (by decide) (hts (.fieldLink RX8 53 "ContourSheetsModel" "inBits" "[J") (by decide +kernel)) (fun _ h9 => h9) rfl dX8_isAround_36 ?_
        refine lv_bipush (v := z_i 20) hx hb dX8_isAround_39 (by decide) ?_
        refine lv_iload_n hx hb dX8_isAround_41 rfl (lv_at hl 2 rfl) ?_
        refine lx_imul hx hb dX8_isAround_42 ?_
        refine lv_iload_n hx hb dX8_isAround_43 rfl (lv_at hl 0 rfl) ?_
        refine lx_iadd hx hb dX8_isAround_44 ?_
        obtain ⟨hi4, hv⟩ := hv
        refine lx_lald hx hb hK hP 5 2 rfl rfl (by decide) hi4.1 hi4.2 dX8_isAround_45 ?_
        refine lx_ldc2 (a := (-1)) hx hb hown (hts (.constantLong RX8 189 (-1)) (by decide +kernel)) (by decide) dX8_isAround_46 ?_
        refine lx_lxor hx hb dX8_isAround_49 ?_
        refine lx_land hx hb dX8_isAround_50 ?_
        refine lv_lconst (v := z_l 0) hx hb dX8_isAround_51 (by decide) ?_
        refine lx_lcmp hx hb dX8_isAround_52 (z_nl_of _) (show z_nl 0 from ⟨by decide, by decide⟩) ?_
        refine lx_if_eq (tgt := 58) hx hb dX8_isAround_53 (by decide) (z_in_cmp _ _) (fun hc => ?_) (fun hc => ?_)
        · have hv := hv.1 (z_cmp_eq.mp hc)
          refine lv_iinc (v := z_i (x18_3 + 1)) (lv' := [(3, .int (z_i (x18_3 + 1))), (0, .ref y), (1, .int (z_i k)), (2, .int (z_i o))]) hx hb dX8_isAround_58 hl (k := 0) rfl (z_i_add _ _) (by decide) rfl (fun ls hl => ?_)
          refine lv_goto (tgt := 18) hx hb dX8_isAround_61 (by decide) ?_
          exact hv _ _ ls hP hS (lv_sub hl [0, 1, 2, 3] rfl)
        · have hv := hv.2 (z_cmp_ne.mp hc)
          refine lv_iconst (v := z_i 0) hx hb dX8_isAround_56 rfl ?_
          exact W.zret (v := z_i 0) hx hb hr (by decide) (fun t ht hW => ⟨⟨z_i 0, (), rfl, ⟨0, rfl, (show z_in 0 from ⟨by decide, by decide⟩), hv⟩, trivial⟩, hS.F ht⟩) hS.2.2 dX8_isAround_57
    · have hv := hv.2 hc
      refine lv_iconst (v := z_i 0) hx hb dX8_isAround_14 rfl ?_
      exact W.zret (v := z_i 0) hx hb hr (by decide) (fun t ht hW => ⟨⟨z_i 0, (), rfl, ⟨0, rfl, (show z_in 0 from ⟨by decide, by decide⟩), hv⟩, trivial⟩, hS.F ht⟩) hS.2.2 dX8_isAround_15
set_option maxHeartbeats 4000000 in
set_option maxRecDepth 100000 in
theorem mt_X8_isAround (l : Launch) (D : va_G) (cA : Nat → ClassId) (y : Nat) (y_space : Nat) (y_offset : Nat) (y_length : Nat) (y_units : Nat) (y_isThere : Nat) (y_levels : Int) (y_level : Nat) (y_lines : Int) (y_lineLevel : Nat) (ya_lineUnits : Nat) (y_lineUnits : Nat → Int32) (y_lineFrom : Nat) (y_lineMany : Nat) (ya_isClosed : Nat) (y_isClosed : Nat → Int32) (ya_insides : Nat) (y_insides : Nat → Int32) (y_parent : Nat) (ya_isHigh : Nat) (y_isHigh : Nat → Int32) (ya_inBits : Nat) (y_inBits : Nat → Int64) (y_sides : Int) (y_side : Nat) (y_sideA : Nat) (y_sideB : Nat) (y_lineSpace : Int) (y_wasThere : Nat) (y_leads : Nat) (y_isLed : Nat) (y_isOn : Nat) (y_goesTo : Nat) (y_stream : Nat) (y_filled : Nat) (y_isDone : Nat) (y_isReached : Nat) (y_newUnits : Nat) (y_isNew : Nat) (k : Int) (o : Int) (h_y_levels : z_in y_levels) (h_y_lines : z_in y_lines) (h_y_sides : z_in y_sides) (h_y_lineSpace : z_in y_lineSpace) (h_k : z_in k) (h_o : z_in o) (ls : List d_L) (T : Int → Bool) (U : Int → Int) (hs : Nat → Int32) (hp1 : 0 ≤ k ∧ k < (ls.length : Int)) (hp2 : 0 ≤ o ∧ o < (ls.length : Int)) (hp3 : (l_at ls o).2.1 = 1) (hp4 : ∀ (q : Nat) (l : d_L), ls[q]? = some l → z_g y_lineUnits (q : Int) = z_g hs l.1 ∧ z_g y_isClosed (q : Int) = l.2.1) (hp5 : ls.length ≤ 400) (hp6 : l_ok T U hs ls) (hp7 : e_S ls T U hs y_insides y_isHigh y_inBits ls.length) : Met l yX8_isAround wsX8_isAround ({ frames := 0, cells := 0, slots := 0, locals := 0 } : Room) (va_Pc [.ref y, .int (z_i k), .int (z_i o)] (z_B0 D cA [(y, .inr (6, [.ref y_space, .ref y_offset, .ref y_length, .ref y_units, .ref y_isThere, .int (z_i y_levels), .ref y_level, .int (z_i y_lines), .ref y_lineLevel, .ref ya_lineUnits, .ref y_lineFrom, .ref y_lineMany, .ref ya_isClosed, .ref ya_insides, .ref y_parent, .ref ya_isHigh, .ref ya_inBits, .int (z_i y_sides), .ref y_side, .ref y_sideA, .ref y_sideB, .int (z_i y_lineSpace), .ref y_wasThere, .ref y_leads, .ref y_isLed, .ref y_isOn, .ref y_goesTo, .ref y_stream, .ref y_filled, .ref y_isDone, .ref y_isReached, .ref y_newUnits, .ref y_isNew])), (ya_lineUnits, .inl (cA 1, 400, .inl y_lineUnits)), (ya_isClosed, .inl (cA 3, 400, .inl y_isClosed)), (ya_insides, .inl (cA 1, 400, .inl y_insides)), (ya_isHigh, .inl (cA 3, 400, .inl y_isHigh)), (ya_inBits, .inl (cA 2, 8000, .inr (.inl y_inBits)))])) (va_Qi (z_ri (fun (r : Int) => (r = 0 ∨ r = 1) ∧ (r ≠ 0 ↔ (k ≠ o ∧ (l_at ls k).2.1 = 1 ∧ l_ar T U hs ls k o)))) (fun _ _ => True) (fun _ => False)) 0 0 (fun _ => False) := by
  refine wk_X8_isAround l D cA y y_space y_offset y_length y_units y_isThere y_levels y_level y_lines y_lineLevel ya_lineUnits y_lineUnits y_lineFrom y_lineMany ya_isClosed y_isClosed ya_insides y_insides y_parent ya_isHigh y_isHigh ya_inBits y_inBits y_sides y_side y_sideA y_sideB y_lineSpace y_wasThere y_leads y_isLed y_isOn y_goesTo y_stream y_filled y_isDone y_isReached y_newUnits y_isNew k o h_y_levels h_y_lines h_y_sides h_y_lineSpace h_k h_o (fun (r : Int) => (r = 0 ∨ r = 1) ∧ (r ≠ 0 ↔ (k ≠ o ∧ (l_at ls k).2.1 = 1 ∧ l_ar T U hs ls k o))) ?_
  unfold vc_X8_isAround
  obtain ⟨k, rfl⟩ := Int.eq_ofNat_of_zero_le hp1.1
  obtain ⟨o, rfl⟩ := Int.eq_ofNat_of_zero_le hp2.1
  obtain ⟨lk, hlk⟩ : ∃ l, ls[k]? = some l := ⟨_, List.getElem?_eq_getElem (show k < ls.length by omega)⟩
  obtain ⟨lo, hlo⟩ : ∃ l, ls[o]? = some l := ⟨_, List.getElem?_eq_getElem (show o < ls.length by omega)⟩
  have ak := l_at_n hlk
  have ao := l_at_n hlo
  rw [ao] at hp3
  have hck := (hp4 k lk hlk).2
  have huk := (hp4 k lk hlk).1
  have huo := (hp4 o lo hlo).1
  obtain ⟨sk1, sk2, sk3⟩ := hp7 k lk (by omega) hlk
  obtain ⟨so1, so2, so3⟩ := hp7 o lo (by omega) hlo
  rw [if_pos hp3] at so1
  have luk := l_lu_n hp6 hlk
  have luo := l_lu_n hp6 hlo
  have no : ¬ ((k : Int) ≠ (o : Int) ∧ (l_at ls k).2.1 = 1 ∧ l_ar T U hs ls k o) → ((0 : Int) = 0 ∨ (0 : Int) = 1) ∧ ((0 : Int) ≠ 0 ↔ ((k : Int) ≠ (o : Int) ∧ (l_at ls k).2.1 = 1 ∧ l_ar T U hs ls k o)) := fun h => ⟨Or.inl rfl, fun h2 => absurd rfl h2, fun h2 => absurd h2 h⟩
  have yes : ((k : Int) ≠ (o : Int) ∧ (l_at ls k).2.1 = 1 ∧ l_ar T U hs ls k o) → ((1 : Int) = 0 ∨ (1 : Int) = 1) ∧ ((1 : Int) ≠ 0 ↔ ((k : Int) ≠ (o : Int) ∧ (l_at ls k).2.1 = 1 ∧ l_ar T U hs ls k o)) := fun h => ⟨Or.inr rfl, fun _ => h, fun _ => by decide⟩
  refine ⟨⟨by omega, by omega⟩, fun hc => no (fun h => by rw [ak] at h; omega), fun hc => ⟨fun hne => ?_, fun he => no (fun h => h.1 he)⟩⟩
  have hc1 : lk.2.1 = 1 := by
    rcases (hp6 lk (List.mem_of_getElem? hlk)).2.1 with h | h
    · omega
    · exact h
  rw [if_pos hc1] at sk1
  rw [decide_eq_true hc1, Bool.true_and] at sk2
  have bk : ∀ q : Nat, q < 1280 → i_bt y_inBits (20 * k + q / 64) (q % 64) = a_in T lk.2.2 (q : Int) := fun q hq => by rw [sk3 q hq, decide_eq_true hc1, Bool.true_and]
  have bo : ∀ q : Nat, q < 1280 → i_bt y_inBits (20 * o + q / 64) (q % 64) = a_in T lo.2.2 (q : Int) := fun q hq => by rw [so3 q hq, decide_eq_true hp3, Bool.true_and]
  have all := i_all (P := fun q => a_in T lo.2.2 (q : Int)) (R := fun q => a_in T lk.2.2 (q : Int)) bo bk
  intro L18 hL18
  suffices A : ∀ (d w : Nat), w + d = 20 → (∀ q : Nat, q / 64 < w → a_in T lo.2.2 (q : Int) = true → a_in T lk.2.2 (q : Int) = true) → L18 (w : Int) from A 20 0 rfl (fun q h => absurd h (by omega))
  intro d
  induction d with
  | zero =>
    intro w hw hq
    obtain rfl : w = 20 := by omega
    have hall : ∀ q : Int, 0 ≤ q → q < 1280 → a_in T (l_at ls o).2.2 q = true → a_in T (l_at ls k).2.2 q = true := fun q a b c => by
      rw [ak]; rw [ao] at c
      have := hq q.toNat (by omega)
      rw [show ((q.toNat : Nat) : Int) = q by omega] at this
      exact this c
    refine hL18 _ ⟨by omega, by omega⟩ ⟨fun _ => ⟨⟨by omega, by omega⟩, ?_⟩, fun h => absurd h (by omega)⟩
    rw [sk1, so1, sk2, huk, huo]
    refine ⟨fun he => ⟨fun hh => ⟨fun c => ?_, fun c => ?_⟩, fun hh => ⟨fun c => ?_, fun c => ?_⟩⟩, fun hne2 => yes ⟨hne, by rw [ak]; exact hc1, hall, Or.inl hne2⟩⟩
    · have hf : ¬ l_hi T U hs ls k = true := fun q => by rw [q] at hh; exact absurd hh (by decide)
      refine no (fun h => ?_)
      rcases h.2.2.2 with h2 | h2
      · exact h2 he
      · rw [if_neg hf, luk, luo] at h2; omega
    · have hf : ¬ l_hi T U hs ls k = true := fun q => by rw [q] at hh; exact absurd hh (by decide)
      exact yes ⟨hne, by rw [ak]; exact hc1, hall, Or.inr (by rw [if_neg hf, luk, luo]; exact c)⟩
    · have ht := zb_t hh
      refine no (fun h => ?_)
      rcases h.2.2.2 with h2 | h2
      · exact h2 he
      · rw [if_pos ht, luk, luo] at h2; omega
    · have ht := zb_t hh
      exact yes ⟨hne, by rw [ak]; exact hc1, hall, Or.inr (by rw [if_pos ht, luk, luo]; exact c)⟩
  | succ d ih =>
    intro w hw hq
    have hx := i_ar (f := y_inBits) (a := 20 * (o : Int) + (w : Int)) (b := 20 * (k : Int) + (w : Int))
    rw [show (20 * (o : Int) + (w : Int)).toNat = 20 * o + w by omega, show (20 * (k : Int) + (w : Int)).toNat = 20 * k + w by omega, all w (by omega)] at hx
    refine hL18 _ ⟨by omega, by omega⟩ ⟨fun h => absurd h (by omega), fun _ => ⟨⟨by omega, by omega⟩, ⟨by omega, by omega⟩, fun h => ?_, fun h => ?_⟩⟩
    · refine ih (w + 1) (by omega) (fun q hq2 hp => ?_)
      by_cases e : q / 64 = w
      · exact hx.mp h q e hp
      · exact hq q (by omega) hp
    · refine no (fun h2 => h (hx.mpr (fun q hq2 hp => ?_)))
      have h3 := h2.2.2.1 (q : Int) (by omega) (by omega)
      rw [ak, ao] at h3
      exact h3 hp
def vc_X8_parentOf (y_lines : Int) (y_lineUnits : Nat → Int32) (y_isClosed : Nat → Int32) (y_insides : Nat → Int32) (y_isHigh : Nat → Int32) (y_inBits : Nat → Int64) (o : Int) (Q : Int → Prop) : Prop :=
(∀ L4 : Int → Int → Prop,
(∀ (x4_3 : Int) (x4_2 : Int), z_in x4_3 → z_in x4_2 → ((x4_3 ≥ y_lines → Q x4_2) ∧
(x4_3 < y_lines → (∃ g1 : List d_L, (∃ g2 : Int → Bool, (∃ g3 : Int → Int, (∃ g4 : Nat → Int32, (0 ≤ x4_3 ∧ x4_3 < (g1.length : Int)) ∧ (0 ≤ o ∧ o < (g1.length : Int)) ∧ ((l_at g1 o).2.1 = 1) ∧ (∀ (q : Nat) (l : d_L), g1[q]? = some l → z_g y_lineUnits (q : Int) = z_g g4 l.1 ∧ z_g y_isClosed (q : Int) = l.2.1) ∧ (g1.length ≤ 400) ∧ (l_ok g2 g3 g4 g1) ∧ (e_S g1 g2 g3 g4 y_insides y_isHigh y_inBits g1.length) ∧ (∀ (r12 : Int), z_in r12 → ((r12 = 0 ∨ r12 = 1) ∧ (r12 ≠ 0 ↔ (x4_3 ≠ o ∧ (l_at g1 x4_3).2.1 = 1 ∧ l_ar g2 g3 g4 g1 x4_3 o))) → ((r12 ≠ 0 → ((x4_2 < 0 → L4 (x4_3 + 1) x4_3) ∧
(x4_2 ≥ 0 → (0 ≤ x4_3 ∧ x4_3 < 400) ∧ (0 ≤ x4_2 ∧ x4_2 < 400) ∧ ((z_g y_insides x4_3 ≥ z_g y_insides x4_2 → ((z_g y_insides x4_3 ≠ z_g y_insides x4_2 → L4 (x4_3 + 1) x4_2) ∧
(z_g y_insides x4_3 = z_g y_insides x4_2 → (0 ≤ o ∧ o < 400) ∧ z_in ((z_g y_lineUnits x4_3) - (z_g y_lineUnits o)) ∧ (∀ v16 : Int, v16 = (z_g y_lineUnits x4_3) - (z_g y_lineUnits o) → z_in ((z_g y_lineUnits x4_2) - (z_g y_lineUnits o)) ∧ (∀ v19 : Int, v19 = (z_g y_lineUnits x4_2) - (z_g y_lineUnits o) → ((v16 ≥ 0 → ((v19 ≥ 0 → ((v16 ≥ v19 → L4 (x4_3 + 1) x4_2) ∧
(v16 < v19 → L4 (x4_3 + 1) x4_3))) ∧
(v19 < 0 → z_in (-v19) ∧ ((v16 ≥ -v19 → L4 (x4_3 + 1) x4_2) ∧
(v16 < -v19 → L4 (x4_3 + 1) x4_3))))) ∧
(v16 < 0 → ((v19 ≥ 0 → z_in (-v16) ∧ ((-v16 ≥ v19 → L4 (x4_3 + 1) x4_2) ∧
(-v16 < v19 → L4 (x4_3 + 1) x4_3))) ∧
(v19 < 0 → z_in (-v16) ∧ z_in (-v19) ∧ ((-v16 ≥ -v19 → L4 (x4_3 + 1) x4_2) ∧
(-v16 < -v19 → L4 (x4_3 + 1) x4_3))))))))))) ∧
(z_g y_insides x4_3 < z_g y_insides x4_2 → L4 (x4_3 + 1) x4_3))))) ∧
(r12 = 0 → L4 (x4_3 + 1) x4_2))))))))) → L4 x4_3 x4_2) →
L4 0 (-1))
set_option maxHeartbeats 4000000 in
set_option maxRecDepth 100000 in
theorem wk_X8_parentOf (l : Launch) (D : va_G) (cA : Nat → ClassId) (y : Nat) (y_space : Nat) (y_offset : Nat) (y_length : Nat) (y_units : Nat) (y_isThere : Nat) (y_levels : Int) (y_level : Nat) (y_lines : Int) (y_lineLevel : Nat) (ya_lineUnits : Nat) (y_lineUnits : Nat → Int32) (y_lineFrom : Nat) (y_lineMany : Nat) (ya_isClosed : Nat) (y_isClosed : Nat → Int32) (ya_insides : Nat) (y_insides : Nat → Int32) (y_parent : Nat) (ya_isHigh : Nat) (y_isHigh : Nat → Int32) (ya_inBits : Nat) (y_inBits : Nat → Int64) (y_sides : Int) (y_side : Nat) (y_sideA : Nat) (y_sideB : Nat) (y_lineSpace : Int) (y_wasThere : Nat) (y_leads : Nat) (y_isLed : Nat) (y_isOn : Nat) (y_goesTo : Nat) (y_stream : Nat) (y_filled : Nat) (y_isDone : Nat) (y_isReached : Nat) (y_newUnits : Nat) (y_isNew : Nat) (o : Int) (h_y_levels : z_in y_levels) (h_y_lines : z_in y_lines) (h_y_sides : z_in y_sides) (h_y_lineSpace : z_in y_lineSpace) (h_o : z_in o) (Q : Int → Prop) (hv : vc_X8_parentOf y_lines y_lineUnits y_isClosed y_insides y_isHigh y_inBits o Q) : Met l yX8_parentOf wsX8_parentOf ({ frames := 1, cells := 0, slots := 0, locals := 23 } : Room) (va_Pc [.ref y, .int (z_i o)] (z_B0 D cA [(y, .inr (6, [.ref y_space, .ref y_offset, .ref y_length, .ref y_units, .ref y_isThere, .int (z_i y_levels), .ref y_level, .int (z_i y_lines), .ref y_lineLevel, .ref ya_lineUnits, .ref y_lineFrom, .ref y_lineMany, .ref ya_isClosed, .ref ya_insides, .ref y_parent, .ref ya_isHigh, .ref ya_inBits, .int (z_i y_sides), .ref y_side, .ref y_sideA, .ref y_sideB, .int (z_i y_lineSpace), .ref y_wasThere, .ref y_leads, .ref y_isLed, .ref y_isOn, .ref y_goesTo, .ref y_stream, .ref y_filled, .ref y_isDone, .ref y_isReached, .ref y_newUnits, .ref y_isNew])), (ya_lineUnits, .inl (cA 1, 400, .inl y_lineUnits)), (ya_isClosed, .inl (cA 3, 400, .inl y_isClosed)), (ya_insides, .inl (cA 1, 400, .inl y_insides)), (ya_isHigh, .inl (cA 3, 400, .inl y_isHigh)), (ya_inBits, .inl (cA 2, 8000, .inr (.inl y_inBits)))])) (va_Qi (z_ri Q) (fun _ _ => True) (fun _ => False)) 0 0 (fun _ => False) := by
  unfold vc_X8_parentOf at hv
  refine Met.ofW (cc := cX8_parentOf) (maxL := 7) (ret := (some .int)) (by decide +kernel) rfl ?_
  intro p e s m args below meth c s₁ B hml hv0
  obtain ⟨rfl, hK, hP⟩ := hv0
  have hx := B.exec
  have hb := B.bytes
  have hr := B.returns
  have hts := atoms_spec (ws := wsX8_parentOf) B.pre
  have hown : s.vm.findClass RX8 = some m.cls := findClass_of_methodNamed B.named
  have hlocks := B.notSynchronized
  have hS : va_S (fun _ : Nat => False) s.heap s.heap [] := va_S.rf
  have hl := lv_entry ([.ref y, .int (z_i o)]) (n := 7) (Nat.le_of_ble_eq_true rfl)
  rw [lg_entry_eq]
  generalize (lg_sl ([.ref y, .int (z_i o)]) ++ List.replicate (7 - (lg_sl ([.ref y, .int (z_i o)])).length) Slot.unset).toArray = ls at hl ⊢
  have hl : lv_has ls 7 [(0, .ref y), (1, .int (z_i o))] := hl
  refine lv_iconst (v := z_i (-1)) hx hb dX8_parentOf_0 rfl ?_
  refine lv_istore_n (lv' := [(2, .int (z_i (-1))), (0, .ref y), (1, .int (z_i o))]) hx hb dX8_parentOf_1 rfl hl (by decide) rfl (fun ls hl => ?_)
  refine lv_iconst (v := z_i 0) hx hb dX8_parentOf_2 rfl ?_
  refine lv_istore_n (lv' := [(3, .int (z_i 0)), (2, .int (z_i (-1))), (0, .ref y), (1, .int (z_i o))]) hx hb dX8_parentOf_3 rfl hl (by decide) rfl (fun ls hl => ?_)
  refine hv (fun (x4_3 : Int) (x4_2 : Int) => ∀ (H : Heap) (locs : List Loc) (ls : Array Slot), va_P D vwCl [(y, .inr (6, [.ref y_space, .ref y_offset, .ref y_length, .ref y_units, .ref y_isThere, .int (z_i y_levels), .ref y_level, .int (z_i y_lines), .ref y_lineLevel, .ref ya_lineUnits, .ref y_lineFrom, .ref y_lineMany, .ref ya_isClosed, .ref ya_insides, .ref y_parent, .ref ya_isHigh, .ref ya_inBits, .int (z_i y_sides), .ref y_side, .ref y_sideA, .ref y_sideB, .int (z_i y_lineSpace), .ref y_wasThere, .ref y_leads, .ref y_isLed, .ref y_isOn, .ref y_goesTo, .ref y_stream, .ref y_filled, .ref y_isDone, .ref y_isReached, .ref y_newUnits, .ref y_isNew])), (ya_lineUnits, .inl (cA 1, 400, .inl y_lineUnits)), (ya_isClosed, .inl (cA 3, 400, .inl y_isClosed)), (ya_insides, .inl (cA 1, 400, .inl y_insides)), (ya_isHigh, .inl (cA 3, 400, .inl y_isHigh)), (ya_inBits, .inl (cA 2, 8000, .inr (.inl y_inBits)))] H → va_S (fun _ : Nat => False) s.heap H locs → lv_has ls 7 [(3, .int (z_i x4_3)), (2, .int (z_i x4_2)), (0, .ref y), (1, .int (z_i o))] → W p l e _ s m _ below meth c H locs 0 0 _ (F0 m 4 ls [])) ?_ _ _ ls hP hS (lv_sub hl [0, 1, 2, 3] rfl)
  intro x4_3 x4_2 h_x4_3 h_x4_2 hv H locs ls hP hS hl
  refine lv_iload_n hx hb dX8_parentOf_4 rfl (lv_at hl 0 rfl) ?_
  refine lv_aload_n hx hb dX8_parentOf_5 rfl (lv_at hl 2 rfl) ?_
  refine va_get (D := D) (ci := 6) (v := .int (z_i y_lines)) (C := RX8) (T := TX8) (N := 33) hx hb hts (fun w h => List.mem_cons_of_mem _ (List.mem_append_right _ h)) hown hK hP 0 rfl rfl 7 (by decide) (hts (.fieldLink RX8 156 "ContourSheetsModel" "lines" "I") (by decide +kernel)) (fun _ h9 => h9) rfl dX8_parentOf_6 ?_
  refine lx_icmp_ge (tgt := 153) hx hb dX8_parentOf_9 (by decide) h_x4_3 h_y_lines (fun hc => ?_) (fun hc => ?_)
  · have hv := hv.1 hc
    refine lv_iload_n hx hb dX8_parentOf_153 rfl (lv_at hl 1 rfl) ?_
    exact W.iret (v := z_i x4_2) hx hb hr (fun t ht hW => ⟨⟨z_i x4_2, (), rfl, ⟨x4_2, rfl, h_x4_2, hv⟩, trivial⟩, hS.F ht⟩) hS.2.2 dX8_parentOf_154
  · have hv := hv.2 hc
    refine lv_aload_n hx hb dX8_parentOf_12 rfl (lv_at hl 2 rfl) ?_
    refine lv_iload_n hx hb dX8_parentOf_13 rfl (lv_at hl 0 rfl) ?_
    refine lv_iload_n hx hb dX8_parentOf_14 rfl (lv_at hl 3 rfl) ?_
    obtain ⟨g1, hv⟩ := hv
    obtain ⟨g2, hv⟩ := hv
    obtain ⟨g3, hv⟩ := hv
    obtain ⟨g4, hv⟩ := hv
    obtain ⟨hp5, hv⟩ := hv
    obtain ⟨hp6, hv⟩ := hv
    obtain ⟨hp7, hv⟩ := hv
    obtain ⟨hp8, hv⟩ := hv
    obtain ⟨hp9, hv⟩ := hv
    obtain ⟨hp10, hv⟩ := hv
    obtain ⟨hp11, hv⟩ := hv
    refine va_calli (va_runV (As := [.int (z_i x4_3), .int (z_i o)]) (rest := []) ⟨hx, hb, hml, hown, hts⟩ (mt_X8_isAround l D cA y y_space y_offset y_length y_units y_isThere y_levels y_level y_lines y_lineLevel ya_lineUnits y_lineUnits y_lineFrom y_lineMany ya_isClosed y_isClosed ya_insides y_insides y_parent ya_isHigh y_isHigh ya_inBits y_inBits y_sides y_side y_sideA y_sideB y_lineSpace y_wasThere y_leads y_isLed y_isOn y_goesTo y_stream y_filled y_isDone y_isReached y_newUnits y_isNew x4_3 o h_y_levels h_y_lines h_y_sides h_y_lineSpace h_x4_3 h_o g1 g2 g3 g4 hp5 hp6 hp7 hp8 hp9 hp10 hp11) (cwV 2 hts gX8_parentOf_X8_isAround rfl rfl rfl (by decide +kernel) ⟨Nat.le_of_ble_eq_true rfl, Nat.le_of_ble_eq_true rfl⟩) ⟨z_bl0, va_recv hK hP (ci := 6) (q0 := 0) rfl rfl, fun U hU hW => ⟨rfl, z_b0 hK hP hU hW⟩⟩ rfl rfl hl.1 rfl (lv_room (Nat.le_of_ble_eq_true rfl)) dX8_parentOf_15 ⟨Nat.zero_le _, Nat.zero_le _⟩) hS (fun q _ h => h.elim) (fun q h => h.elim) (fun r0 u t H locs ht hvm hw hB hz1 hk1 hS => ?_)
    obtain ⟨r12, rfl, h_r12, hw⟩ := hw
    have hP := z_P_all hP hk1
    have hv := hv r12 h_r12 hw
    refine lx_if_ne (tgt := 24) hx hb dX8_parentOf_18 (by decide) h_r12 (fun hc => ?_) (fun hc => ?_)
    · have hv := hv.1 hc
      refine lv_iload_n hx hb dX8_parentOf_24 rfl (lv_at hl 1 rfl) ?_
      refine lx_if_lt (tgt := 43) hx hb dX8_parentOf_25 (by decide) h_x4_2 (fun hc => ?_) (fun hc => ?_)
      · have hv := hv.1 hc
        refine lv_iconst (v := z_i 1) hx hb dX8_parentOf_43 rfl ?_
        refine lv_goto (tgt := 48) hx hb dX8_parentOf_44 (by decide) ?_
        refine lv_istore (lv' := [(4, .int (z_i 1)), (3, .int (z_i x4_3)), (2, .int (z_i x4_2)), (0, .ref y), (1, .int (z_i o))]) hx hb dX8_parentOf_48 hl (by decide) rfl (fun ls hl => ?_)
        refine lv_iload hx hb dX8_parentOf_50 (lv_at hl 0 rfl) ?_
        refine lx_if_ne (tgt := 136) hx hb dX8_parentOf_52 (by decide) ⟨by decide, by decide⟩ (fun _ => ?_) (fun hc => absurd hc (by decide))
        refine lv_iload hx hb dX8_parentOf_136 (lv_at hl 0 rfl) ?_
        refine lx_if_eq (tgt := 145) hx hb dX8_parentOf_138 (by decide) ⟨by decide, by decide⟩ (fun hc => absurd hc (by decide)) (fun _ => ?_)
        refine lv_iload_n hx hb dX8_parentOf_141 rfl (lv_at hl 1 rfl) ?_
        refine lv_goto (tgt := 146) hx hb dX8_parentOf_142 (by decide) ?_
        refine lv_istore_n (lv' := [(2, .int (z_i x4_3)), (4, .int (z_i 1)), (3, .int (z_i x4_3)), (0, .ref y), (1, .int (z_i o))]) hx hb dX8_parentOf_146 rfl hl (by decide) rfl (fun ls hl => ?_)
        refine lv_iinc (v := z_i (x4_3 + 1)) (lv' := [(3, .int (z_i (x4_3 + 1))), (2, .int (z_i x4_3)), (4, .int (z_i 1)), (0, .ref y), (1, .int (z_i o))]) hx hb dX8_parentOf_147 hl (k := 2) rfl (z_i_add _ _) (by decide) rfl (fun ls hl => ?_)
        refine lv_goto (tgt := 4) hx hb dX8_parentOf_150 (by decide) ?_
        exact hv _ _ ls hP hS (lv_sub hl [0, 1, 3, 4] rfl)
      · have hv := hv.2 hc
        refine lv_aload_n hx hb dX8_parentOf_28 rfl (lv_at hl 2 rfl) ?_
        refine va_get (D := D) (ci := 6) (v := .ref ya_insides) (C := RX8) (T := TX8) (N := 33) hx hb hts (fun w h => List.mem_cons_of_mem _ (List.mem_append_right _ h)) hown hK hP 0 rfl rfl 13 (by decide) (hts (.fieldLink RX8 44 "ContourSheetsModel" "insides" "[I") (by decide +kernel)) (fun _ h9 => h9) rfl dX8_parentOf_29 ?_
        refine lv_iload_n hx hb dX8_parentOf_32 rfl (lv_at hl 0 rfl) ?_
        obtain ⟨hi13, hv⟩ := hv
        refine lx_iald hx hb hK hP 3 1 rfl rfl (by decide) hi13.1 hi13.2 dX8_parentOf_33 ?_
        refine lv_aload_n hx hb dX8_parentOf_34 rfl (lv_at hl 2 rfl) ?_
        refine va_get (D := D) (ci := 6) (v := .ref ya_insides) (C := RX8) (T := TX8) (N := 33) hx hb hts (fun w h => List.mem_cons_of_mem _ (List.mem_append_right _ h)) hown hK hP 0 rfl rfl 13 (by decide) (hts (.fieldLink RX8 44 "ContourSheetsModel" "insides" "[I") (by decide +kernel)) (fun _ h9 => h9) rfl dX8_parentOf_35 ?_
        refine lv_iload_n hx hb dX8_parentOf_38 rfl (lv_at hl 1 rfl) ?_
        obtain ⟨hi14, hv⟩ := hv
        refine lx_iald hx hb hK hP 3 1 rfl rfl (by decide) hi14.1 hi14.2 dX8_parentOf_39 ?_
        refine lx_icmp_ge (tgt := 47) hx hb dX8_parentOf_40 (by decide) (z_in_g _ _) (z_in_g _ _) (fun hc => ?_) (fun hc => ?_)
        · have hv := hv.1 hc
          refine lv_iconst (v := z_i 0) hx hb dX8_parentOf_47 rfl ?_
          refine lv_istore (lv' := [(4, .int (z_i 0)), (3, .int (z_i x4_3)), (2, .int (z_i x4_2)), (0, .ref y), (1, .int (z_i o))]) hx hb dX8_parentOf_48 hl (by decide) rfl (fun ls hl => ?_)
          refine lv_iload hx hb dX8_parentOf_50 (lv_at hl 0 rfl) ?_
          refine lx_if_ne (tgt := 136) hx hb dX8_parentOf_52 (by decide) ⟨by decide, by decide⟩ (fun hc => absurd hc (by decide)) (fun _ => ?_)
          refine lv_aload_n hx hb dX8_parentOf_55 rfl (lv_at hl 3 rfl) ?_
          refine va_get (D := D) (ci := 6) (v := .ref ya_insides) (C := RX8) (T := TX8) (N := 33) hx hb hts (fun w h => List.mem_cons_of_mem _ (List.mem_append_right _ h)) hown hK hP 0 rfl rfl 13 (by decide) (hts (.fieldLink RX8 44 "ContourSheetsModel" "insides" "[I") (by decide +kernel)) (fun _ h9 => h9) rfl dX8_parentOf_56 ?_
          refine lv_iload_n hx hb dX8_parentOf_59 rfl (lv_at hl 1 rfl) ?_
          refine lx_iald hx hb hK hP 3 1 rfl rfl (by decide) hi13.1 hi13.2 dX8_parentOf_60 ?_
          refine lv_aload_n hx hb dX8_parentOf_61 rfl (lv_at hl 3 rfl) ?_
          refine va_get (D := D) (ci := 6) (v := .ref ya_insides) (C := RX8) (T := TX8) (N := 33) hx hb hts (fun w h => List.mem_cons_of_mem _ (List.mem_append_right _ h)) hown hK hP 0 rfl rfl 13 (by decide) (hts (.fieldLink RX8 44 "ContourSheetsModel" "insides" "[I") (by decide +kernel)) (fun _ h9 => h9) rfl dX8_parentOf_62 ?_
          refine lv_iload_n hx hb dX8_parentOf_65 rfl (lv_at hl 2 rfl) ?_
          refine lx_iald hx hb hK hP 3 1 rfl rfl (by decide) hi14.1 hi14.2 dX8_parentOf_66 ?_
          refine lx_icmp_ne (tgt := 136) hx hb dX8_parentOf_67 (by decide) (z_in_g _ _) (z_in_g _ _) (fun hc => ?_) (fun hc => ?_)
          · have hv := hv.1 hc
            refine lv_iload hx hb dX8_parentOf_136 (lv_at hl 0 rfl) ?_
            refine lx_if_eq (tgt := 145) hx hb dX8_parentOf_138 (by decide) ⟨by decide, by decide⟩ (fun _ => ?_) (fun hc => absurd hc (by decide))
            refine lv_iload_n hx hb dX8_parentOf_145 rfl (lv_at hl 2 rfl) ?_
            refine lv_istore_n (lv' := [(2, .int (z_i x4_2)), (4, .int (z_i 0)), (3, .int (z_i x4_3)), (0, .ref y), (1, .int (z_i o))]) hx hb dX8_parentOf_146 rfl hl (by decide) rfl (fun ls hl => ?_)
            refine lv_iinc (v := z_i (x4_3 + 1)) (lv' := [(3, .int (z_i (x4_3 + 1))), (2, .int (z_i x4_2)), (4, .int (z_i 0)), (0, .ref y), (1, .int (z_i o))]) hx hb dX8_parentOf_147 hl (k := 2) rfl (z_i_add _ _) (by decide) rfl (fun ls hl => ?_)
            refine lv_goto (tgt := 4) hx hb dX8_parentOf_150 (by decide) ?_
            exact hv _ _ ls hP hS (lv_sub hl [0, 1, 3, 4] rfl)
          · have hv := hv.2 hc
            refine lv_aload_n hx hb dX8_parentOf_70 rfl (lv_at hl 3 rfl) ?_
            refine va_get (D := D) (ci := 6) (v := .ref ya_lineUnits) (C := RX8) (T := TX8) (N := 33) hx hb hts (fun w h => List.mem_cons_of_mem _ (List.mem_append_right _ h)) hown hK hP 0 rfl rfl 9 (by decide) (hts (.fieldLink RX8 32 "ContourSheetsModel" "lineUnits" "[I") (by decide +kernel)) (fun _ h9 => h9) rfl dX8_parentOf_71 ?_
            refine lv_iload_n hx hb dX8_parentOf_74 rfl (lv_at hl 1 rfl) ?_
            refine lx_iald hx hb hK hP 1 1 rfl rfl (by decide) hi13.1 hi13.2 dX8_parentOf_75 ?_
            refine lv_aload_n hx hb dX8_parentOf_76 rfl (lv_at hl 3 rfl) ?_
            refine va_get (D := D) (ci := 6) (v := .ref ya_lineUnits) (C := RX8) (T := TX8) (N := 33) hx hb hts (fun w h => List.mem_cons_of_mem _ (List.mem_append_right _ h)) hown hK hP 0 rfl rfl 9 (by decide) (hts (.fieldLink RX8 32 "ContourSheetsModel" "lineUnits" "[I") (by decide +kernel)) (fun _ h9 => h9) rfl dX8_parentOf_77 ?_
            refine lv_iload_n hx hb dX8_parentOf_80 rfl (lv_at hl 4 rfl) ?_
            obtain ⟨hi15, hv⟩ := hv
            refine lx_iald hx hb hK hP 1 1 rfl rfl (by decide) hi15.1 hi15.2 dX8_parentOf_81 ?_
            refine lx_isub hx hb dX8_parentOf_82 ?_
            obtain ⟨hr17, hv⟩ := hv
            refine lx_topi (fun v16 hy18 => ?_)
            have hv := hv v16 hy18
            have h_v16 : z_in v16 := by rw [hy18]; exact hr17
            refine lv_istore (lv' := [(5, .int (z_i v16)), (4, .int (z_i 0)), (3, .int (z_i x4_3)), (2, .int (z_i x4_2)), (0, .ref y), (1, .int (z_i o))]) hx hb dX8_parentOf_83 hl (by decide) rfl (fun ls hl => ?_)
            refine lv_aload_n hx hb dX8_parentOf_85 rfl (lv_at hl 4 rfl) ?_
            refine va_get (D := D) (ci := 6) (v := .ref ya_lineUnits) (C := RX8) (T := TX8) (N := 33) hx hb hts (fun w h => List.mem_cons_of_mem _ (List.mem_append_right _ h)) hown hK hP 0 rfl rfl 9 (by decide) (hts (.fieldLink RX8 32 "ContourSheetsModel" "lineUnits" "[I") (by decide +kernel)) (fun _ h9 => h9) rfl dX8_parentOf_86 ?_
            refine lv_iload_n hx hb dX8_parentOf_89 rfl (lv_at hl 3 rfl) ?_
            refine lx_iald hx hb hK hP 1 1 rfl rfl (by decide) hi14.1 hi14.2 dX8_parentOf_90 ?_
            refine lv_aload_n hx hb dX8_parentOf_91 rfl (lv_at hl 4 rfl) ?_
            refine va_get (D := D) (ci := 6) (v := .ref ya_lineUnits) (C := RX8) (T := TX8) (N := 33) hx hb hts (fun w h => List.mem_cons_of_mem _ (List.mem_append_right _ h)) hown hK hP 0 rfl rfl 9 (by decide) (hts (.fieldLink RX8 32 "ContourSheetsModel" "lineUnits" "[I") (by decide +kernel)) (fun _ h9 => h9) rfl dX8_parentOf_92 ?_
            refine lv_iload_n hx hb dX8_parentOf_95 rfl (lv_at hl 5 rfl) ?_
            refine lx_iald hx hb hK hP 1 1 rfl rfl (by decide) hi15.1 hi15.2 dX8_parentOf_96 ?_
            refine lx_isub hx hb dX8_parentOf_97 ?_
            obtain ⟨hr20, hv⟩ := hv
            refine lx_topi (fun v19 hy21 => ?_)
            have hv := hv v19 hy21
            have h_v19 : z_in v19 := by rw [hy21]; exact hr20
            refine lv_istore (lv' := [(6, .int (z_i v19)), (5, .int (z_i v16)), (4, .int (z_i 0)), (3, .int (z_i x4_3)), (2, .int (z_i x4_2)), (0, .ref y), (1, .int (z_i o))]) hx hb dX8_parentOf_98 hl (by decide) rfl (fun ls hl => ?_)
            refine lv_iload hx hb dX8_parentOf_100 (lv_at hl 1 rfl) ?_
            refine lx_if_ge (tgt := 111) hx hb dX8_parentOf_102 (by decide) h_v16 (fun hc => ?_) (fun hc => ?_)
            · have hv := hv.1 hc
              refine lv_iload hx hb dX8_parentOf_111 (lv_at hl 1 rfl) ?_
              refine lv_iload hx hb dX8_parentOf_113 (lv_at hl 0 rfl) ?_
              refine lx_if_ge (tgt := 124) hx hb dX8_parentOf_115 (by decide) h_v19 (fun hc => ?_) (fun hc => ?_)
              · have hv := hv.1 hc
                refine lv_iload hx hb dX8_parentOf_124 (lv_at hl 0 rfl) ?_
                refine lx_icmp_ge (tgt := 133) hx hb dX8_parentOf_126 (by decide) h_v16 h_v19 (fun hc => ?_) (fun hc => ?_)
                · have hv := hv.1 hc
                  refine lv_iconst (v := z_i 0) hx hb dX8_parentOf_133 rfl ?_
                  refine lv_istore (lv' := [(4, .int (z_i 0)), (6, .int (z_i v19)), (5, .int (z_i v16)), (3, .int (z_i x4_3)), (2, .int (z_i x4_2)), (0, .ref y), (1, .int (z_i o))]) hx hb dX8_parentOf_134 hl (by decide) rfl (fun ls hl => ?_)
                  refine lv_iload hx hb dX8_parentOf_136 (lv_at hl 0 rfl) ?_
                  refine lx_if_eq (tgt := 145) hx hb dX8_parentOf_138 (by decide) ⟨by decide, by decide⟩ (fun _ => ?_) (fun hc => absurd hc (by decide))
                  refine lv_iload_n hx hb dX8_parentOf_145 rfl (lv_at hl 4 rfl) ?_
                  refine lv_istore_n (lv' := [(2, .int (z_i x4_2)), (4, .int (z_i 0)), (6, .int (z_i v19)), (5, .int (z_i v16)), (3, .int (z_i x4_3)), (0, .ref y), (1, .int (z_i o))]) hx hb dX8_parentOf_146 rfl hl (by decide) rfl (fun ls hl => ?_)
                  refine lv_iinc (v := z_i (x4_3 + 1)) (lv' := [(3, .int (z_i (x4_3 + 1))), (2, .int (z_i x4_2)), (4, .int (z_i 0)), (6, .int (z_i v19)), (5, .int (z_i v16)), (0, .ref y), (1, .int (z_i o))]) hx hb dX8_parentOf_147 hl (k := 4) rfl (z_i_add _ _) (by decide) rfl (fun ls hl => ?_)
                  refine lv_goto (tgt := 4) hx hb dX8_parentOf_150 (by decide) ?_
                  exact hv _ _ ls hP hS (lv_sub hl [0, 1, 5, 6] rfl)
                · have hv := hv.2 hc
                  refine lv_iconst (v := z_i 1) hx hb dX8_parentOf_129 rfl ?_
                  refine lv_goto (tgt := 134) hx hb dX8_parentOf_130 (by decide) ?_
                  refine lv_istore (lv' := [(4, .int (z_i 1)), (6, .int (z_i v19)), (5, .int (z_i v16)), (3, .int (z_i x4_3)), (2, .int (z_i x4_2)), (0, .ref y), (1, .int (z_i o))]) hx hb dX8_parentOf_134 hl (by decide) rfl (fun ls hl => ?_)
                  refine lv_iload hx hb dX8_parentOf_136 (lv_at hl 0 rfl) ?_
                  refine lx_if_eq (tgt := 145) hx hb dX8_parentOf_138 (by decide) ⟨by decide, by decide⟩ (fun hc => absurd hc (by decide)) (fun _ => ?_)
                  refine lv_iload_n hx hb dX8_parentOf_141 rfl (lv_at hl 3 rfl) ?_
                  refine lv_goto (tgt := 146) hx hb dX8_parentOf_142 (by decide) ?_
                  refine lv_istore_n (lv' := [(2, .int (z_i x4_3)), (4, .int (z_i 1)), (6, .int (z_i v19)), (5, .int (z_i v16)), (3, .int (z_i x4_3)), (0, .ref y), (1, .int (z_i o))]) hx hb dX8_parentOf_146 rfl hl (by decide) rfl (fun ls hl => ?_)
                  refine lv_iinc (v := z_i (x4_3 + 1)) (lv' := [(3, .int (z_i (x4_3 + 1))), (2, .int (z_i x4_3)), (4, .int (z_i 1)), (6, .int (z_i v19)), (5, .int (z_i v16)), (0, .ref y), (1, .int (z_i o))]) hx hb dX8_parentOf_147 hl (k := 4) rfl (z_i_add _ _) (by decide) rfl (fun ls hl => ?_)
                  refine lv_goto (tgt := 4) hx hb dX8_parentOf_150 (by decide) ?_
                  exact hv _ _ ls hP hS (lv_sub hl [0, 1, 5, 6] rfl)
              · have hv := hv.2 hc
                refine lv_iload hx hb dX8_parentOf_118 (lv_at hl 0 rfl) ?_
                refine lx_ineg hx hb dX8_parentOf_120 ?_
                refine lv_goto (tgt := 126) hx hb dX8_parentOf_121 (by decide) ?_
                obtain ⟨hr22, hv⟩ := hv
                refine lx_icmp_ge (tgt := 133) hx hb dX8_parentOf_126 (by decide) h_v16 hr22 (fun hc => ?_) (fun hc => ?_)
                · have hv := hv.1 hc
                  refine lv_iconst (v := z_i 0) hx hb dX8_parentOf_133 rfl ?_
                  refine lv_istore (lv' := [(4, .int (z_i 0)), (6, .int (z_i v19)), (5, .int (z_i v16)), (3, .int (z_i x4_3)), (2, .int (z_i x4_2)), (0, .ref y), (1, .int (z_i o))]) hx hb dX8_parentOf_134 hl (by decide) rfl (fun ls hl => ?_)
                  refine lv_iload hx hb dX8_parentOf_136 (lv_at hl 0 rfl) ?_
                  refine lx_if_eq (tgt := 145) hx hb dX8_parentOf_138 (by decide) ⟨by decide, by decide⟩ (fun _ => ?_) (fun hc => absurd hc (by decide))
                  refine lv_iload_n hx hb dX8_parentOf_145 rfl (lv_at hl 4 rfl) ?_
                  refine lv_istore_n (lv' := [(2, .int (z_i x4_2)), (4, .int (z_i 0)), (6, .int (z_i v19)), (5, .int (z_i v16)), (3, .int (z_i x4_3)), (0, .ref y), (1, .int (z_i o))]) hx hb dX8_parentOf_146 rfl hl (by decide) rfl (fun ls hl => ?_)
                  refine lv_iinc (v := z_i (x4_3 + 1)) (lv' := [(3, .int (z_i (x4_3 + 1))), (2, .int (z_i x4_2)), (4, .int (z_i 0)), (6, .int (z_i v19)), (5, .int (z_i v16)), (0, .ref y), (1, .int (z_i o))]) hx hb dX8_parentOf_147 hl (k := 4) rfl (z_i_add _ _) (by decide) rfl (fun ls hl => ?_)
                  refine lv_goto (tgt := 4) hx hb dX8_parentOf_150 (by decide) ?_
                  exact hv _ _ ls hP hS (lv_sub hl [0, 1, 5, 6] rfl)
                · have hv := hv.2 hc
                  refine lv_iconst (v := z_i 1) hx hb dX8_parentOf_129 rfl ?_
                  refine lv_goto (tgt := 134) hx hb dX8_parentOf_130 (by decide) ?_
                  refine lv_istore (lv' := [(4, .int (z_i 1)), (6, .int (z_i v19)), (5, .int (z_i v16)), (3, .int (z_i x4_3)), (2, .int (z_i x4_2)), (0, .ref y), (1, .int (z_i o))]) hx hb dX8_parentOf_134 hl (by decide) rfl (fun ls hl => ?_)
                  refine lv_iload hx hb dX8_parentOf_136 (lv_at hl 0 rfl) ?_
                  refine lx_if_eq (tgt := 145) hx hb dX8_parentOf_138 (by decide) ⟨by decide, by decide⟩ (fun hc => absurd hc (by decide)) (fun _ => ?_)
                  refine lv_iload_n hx hb dX8_parentOf_141 rfl (lv_at hl 3 rfl) ?_
                  refine lv_goto (tgt := 146) hx hb dX8_parentOf_142 (by decide) ?_
                  refine lv_istore_n (lv' := [(2, .int (z_i x4_3)), (4, .int (z_i 1)), (6, .int (z_i v19)), (5, .int (z_i v16)), (3, .int (z_i x4_3)), (0, .ref y), (1, .int (z_i o))]) hx hb dX8_parentOf_146 rfl hl (by decide) rfl (fun ls hl => ?_)
                  refine lv_iinc (v := z_i (x4_3 + 1)) (lv' := [(3, .int (z_i (x4_3 + 1))), (2, .int (z_i x4_3)), (4, .int (z_i 1)), (6, .int (z_i v19)), (5, .int (z_i v16)), (0, .ref y), (1, .int (z_i o))]) hx hb dX8_parentOf_147 hl (k := 4) rfl (z_i_add _ _) (by decide) rfl (fun ls hl => ?_)
                  refine lv_goto (tgt := 4) hx hb dX8_parentOf_150 (by decide) ?_
                  exact hv _ _ ls hP hS (lv_sub hl [0, 1, 5, 6] rfl)
            · have hv := hv.2 hc
              refine lv_iload hx hb dX8_parentOf_105 (lv_at hl 1 rfl) ?_
              refine lx_ineg hx hb dX8_parentOf_107 ?_
              refine lv_goto (tgt := 113) hx hb dX8_parentOf_108 (by decide) ?_
              refine lv_iload hx hb dX8_parentOf_113 (lv_at hl 0 rfl) ?_
              refine lx_if_ge (tgt := 124) hx hb dX8_parentOf_115 (by decide) h_v19 (fun hc => ?_) (fun hc => ?_)
              · have hv := hv.1 hc
                refine lv_iload hx hb dX8_parentOf_124 (lv_at hl 0 rfl) ?_
                obtain ⟨hr23, hv⟩ := hv
                refine lx_icmp_ge (tgt := 133) hx hb dX8_parentOf_126 (by decide) hr23 h_v19 (fun hc => ?_) (fun hc => ?_)
                · have hv := hv.1 hc
                  refine lv_iconst (v := z_i 0) hx hb dX8_parentOf_133 rfl ?_
                  refine lv_istore (lv' := [(4, .int (z_i 0)), (6, .int (z_i v19)), (5, .int (z_i v16)), (3, .int (z_i x4_3)), (2, .int (z_i x4_2)), (0, .ref y), (1, .int (z_i o))]) hx hb dX8_parentOf_134 hl (by decide) rfl (fun ls hl => ?_)
                  refine lv_iload hx hb dX8_parentOf_136 (lv_at hl 0 rfl) ?_
                  refine lx_if_eq (tgt := 145) hx hb dX8_parentOf_138 (by decide) ⟨by decide, by decide⟩ (fun _ => ?_) (fun hc => absurd hc (by decide))
                  refine lv_iload_n hx hb dX8_parentOf_145 rfl (lv_at hl 4 rfl) ?_
                  refine lv_istore_n (lv' := [(2, .int (z_i x4_2)), (4, .int (z_i 0)), (6, .int (z_i v19)), (5, .int (z_i v16)), (3, .int (z_i x4_3)), (0, .ref y), (1, .int (z_i o))]) hx hb dX8_parentOf_146 rfl hl (by decide) rfl (fun ls hl => ?_)
                  refine lv_iinc (v := z_i (x4_3 + 1)) (lv' := [(3, .int (z_i (x4_3 + 1))), (2, .int (z_i x4_2)), (4, .int (z_i 0)), (6, .int (z_i v19)), (5, .int (z_i v16)), (0, .ref y), (1, .int (z_i o))]) hx hb dX8_parentOf_147 hl (k := 4) rfl (z_i_add _ _) (by decide) rfl (fun ls hl => ?_)
                  refine lv_goto (tgt := 4) hx hb dX8_parentOf_150 (by decide) ?_
                  exact hv _ _ ls hP hS (lv_sub hl [0, 1, 5, 6] rfl)
                · have hv := hv.2 hc
                  refine lv_iconst (v := z_i 1) hx hb dX8_parentOf_129 rfl ?_
                  refine lv_goto (tgt := 134) hx hb dX8_parentOf_130 (by decide) ?_
                  refine lv_istore (lv' := [(4, .int (z_i 1)), (6, .int (z_i v19)), (5, .int (z_i v16)), (3, .int (z_i x4_3)), (2, .int (z_i x4_2)), (0, .ref y), (1, .int (z_i o))]) hx hb dX8_parentOf_134 hl (by decide) rfl (fun ls hl => ?_)
                  refine lv_iload hx hb dX8_parentOf_136 (lv_at hl 0 rfl) ?_
                  refine lx_if_eq (tgt := 145) hx hb dX8_parentOf_138 (by decide) ⟨by decide, by decide⟩ (fun hc => absurd hc (by decide)) (fun _ => ?_)
                  refine lv_iload_n hx hb dX8_parentOf_141 rfl (lv_at hl 3 rfl) ?_
                  refine lv_goto (tgt := 146) hx hb dX8_parentOf_142 (by decide) ?_
                  refine lv_istore_n (lv' := [(2, .int (z_i x4_3)), (4, .int (z_i 1)), (6, .int (z_i v19)), (5, .int (z_i v16)), (3, .int (z_i x4_3)), (0, .ref y), (1, .int (z_i o))]) hx hb dX8_parentOf_146 rfl hl (by decide) rfl (fun ls hl => ?_)
                  refine lv_iinc (v := z_i (x4_3 + 1)) (lv' := [(3, .int (z_i (x4_3 + 1))), (2, .int (z_i x4_3)), (4, .int (z_i 1)), (6, .int (z_i v19)), (5, .int (z_i v16)), (0, .ref y), (1, .int (z_i o))]) hx hb dX8_parentOf_147 hl (k := 4) rfl (z_i_add _ _) (by decide) rfl (fun ls hl => ?_)
                  refine lv_goto (tgt := 4) hx hb dX8_parentOf_150 (by decide) ?_
                  exact hv _ _ ls hP hS (lv_sub hl [0, 1, 5, 6] rfl)
              · have hv := hv.2 hc
                refine lv_iload hx hb dX8_parentOf_118 (lv_at hl 0 rfl) ?_
                refine lx_ineg hx hb dX8_parentOf_120 ?_
                refine lv_goto (tgt := 126) hx hb dX8_parentOf_121 (by decide) ?_
                obtain ⟨hr24, hv⟩ := hv
                obtain ⟨hr25, hv⟩ := hv
                refine lx_icmp_ge (tgt := 133) hx hb dX8_parentOf_126 (by decide) hr24 hr25 (fun hc => ?_) (fun hc => ?_)
                · have hv := hv.1 hc
                  refine lv_iconst (v := z_i 0) hx hb dX8_parentOf_133 rfl ?_
                  refine lv_istore (lv' := [(4, .int (z_i 0)), (6, .int (z_i v19)), (5, .int (z_i v16)), (3, .int (z_i x4_3)), (2, .int (z_i x4_2)), (0, .ref y), (1, .int (z_i o))]) hx hb dX8_parentOf_134 hl (by decide) rfl (fun ls hl => ?_)
                  refine lv_iload hx hb dX8_parentOf_136 (lv_at hl 0 rfl) ?_
                  refine lx_if_eq (tgt := 145) hx hb dX8_parentOf_138 (by decide) ⟨by decide, by decide⟩ (fun _ => ?_) (fun hc => absurd hc (by decide))
                  refine lv_iload_n hx hb dX8_parentOf_145 rfl (lv_at hl 4 rfl) ?_
                  refine lv_istore_n (lv' := [(2, .int (z_i x4_2)), (4, .int (z_i 0)), (6, .int (z_i v19)), (5, .int (z_i v16)), (3, .int (z_i x4_3)), (0, .ref y), (1, .int (z_i o))]) hx hb dX8_parentOf_146 rfl hl (by decide) rfl (fun ls hl => ?_)
                  refine lv_iinc (v := z_i (x4_3 + 1)) (lv' := [(3, .int (z_i (x4_3 + 1))), (2, .int (z_i x4_2)), (4, .int (z_i 0)), (6, .int (z_i v19)), (5, .int (z_i v16)), (0, .ref y), (1, .int (z_i o))]) hx hb dX8_parentOf_147 hl (k := 4) rfl (z_i_add _ _) (by decide) rfl (fun ls hl => ?_)
                  refine lv_goto (tgt := 4) hx hb dX8_parentOf_150 (by decide) ?_
                  exact hv _ _ ls hP hS (lv_sub hl [0, 1, 5, 6] rfl)
                · have hv := hv.2 hc
                  refine lv_iconst (v := z_i 1) hx hb dX8_parentOf_129 rfl ?_
                  refine lv_goto (tgt := 134) hx hb dX8_parentOf_130 (by decide) ?_
                  refine lv_istore (lv' := [(4, .int (z_i 1)), (6, .int (z_i v19)), (5, .int (z_i v16)), (3, .int (z_i x4_3)), (2, .int (z_i x4_2)), (0, .ref y), (1, .int (z_i o))]) hx hb dX8_parentOf_134 hl (by decide) rfl (fun ls hl => ?_)
                  refine lv_iload hx hb dX8_parentOf_136 (lv_at hl 0 rfl) ?_
                  refine lx_if_eq (tgt := 145) hx hb dX8_parentOf_138 (by decide) ⟨by decide, by decide⟩ (fun hc => absurd hc (by decide)) (fun _ => ?_)
                  refine lv_iload_n hx hb dX8_parentOf_141 rfl (lv_at hl 3 rfl) ?_
                  refine lv_goto (tgt := 146) hx hb dX8_parentOf_142 (by decide) ?_
                  refine lv_istore_n (lv' := [(2, .int (z_i x4_3)), (4, .int (z_i 1)), (6, .int (z_i v19)), (5, .int (z_i v16)), (3, .int (z_i x4_3)), (0, .ref y), (1, .int (z_i o))]) hx hb dX8_parentOf_146 rfl hl (by decide) rfl (fun ls hl => ?_)
                  refine lv_iinc (v := z_i (x4_3 + 1)) (lv' := [(3, .int (z_i (x4_3 + 1))), (2, .int (z_i x4_3)), (4, .int (z_i 1)), (6, .int (z_i v19)), (5, .int (z_i v16)), (0, .ref y), (1, .int (z_i o))]) hx hb dX8_parentOf_147 hl (k := 4) rfl (z_i_add _ _) (by decide) rfl (fun ls hl => ?_)
                  refine lv_goto (tgt := 4) hx hb dX8_parentOf_150 (by decide) ?_
                  exact hv _ _ ls hP hS (lv_sub hl [0, 1, 5, 6] rfl)
        · have hv := hv.2 hc
          refine lv_iconst (v := z_i 1) hx hb dX8_parentOf_43 rfl ?_
          refine lv_goto (tgt := 48) hx hb dX8_parentOf_44 (by decide) ?_
          refine lv_istore (lv' := [(4, .int (z_i 1)), (3, .int (z_i x4_3)), (2, .int (z_i x4_2)), (0, .ref y), (1, .int (z_i o))]) hx hb dX8_parentOf_48 hl (by decide) rfl (fun ls hl => ?_)
          refine lv_iload hx hb dX8_parentOf_50 (lv_at hl 0 rfl) ?_
          refine lx_if_ne (tgt := 136) hx hb dX8_parentOf_52 (by decide) ⟨by decide, by decide⟩ (fun _ => ?_) (fun hc => absurd hc (by decide))
          refine lv_iload hx hb dX8_parentOf_136 (lv_at hl 0 rfl) ?_
          refine lx_if_eq (tgt := 145) hx hb dX8_parentOf_138 (by decide) ⟨by decide, by decide⟩ (fun hc => absurd hc (by decide)) (fun _ => ?_)
          refine lv_iload_n hx hb dX8_parentOf_141 rfl (lv_at hl 1 rfl) ?_
          refine lv_goto (tgt := 146) hx hb dX8_parentOf_142 (by decide) ?_
          refine lv_istore_n (lv' := [(2, .int (z_i x4_3)), (4, .int (z_i 1)), (3, .int (z_i x4_3)), (0, .ref y), (1, .int (z_i o))]) hx hb dX8_parentOf_146 rfl hl (by decide) rfl (fun ls hl => ?_)
          refine lv_iinc (v := z_i (x4_3 + 1)) (lv' := [(3, .int (z_i (x4_3 + 1))), (2, .int (z_i x4_3)), (4, .int (z_i 1)), (0, .ref y), (1, .int (z_i o))]) hx hb dX8_parentOf_147 hl (k := 2) rfl (z_i_add _ _) (by decide) rfl (fun ls hl => ?_)
          refine lv_goto (tgt := 4) hx hb dX8_parentOf_150 (by decide) ?_
          exact hv _ _ ls hP hS (lv_sub hl [0, 1, 3, 4] rfl)
    · have hv := hv.2 hc
      refine lv_goto (tgt := 147) hx hb dX8_parentOf_21 (by decide) ?_
      refine lv_iinc (v := z_i (x4_3 + 1)) (lv' := [(3, .int (z_i (x4_3 + 1))), (2, .int (z_i x4_2)), (0, .ref y), (1, .int (z_i o))]) hx hb dX8_parentOf_147 hl (k := 0) rfl (z_i_add _ _) (by decide) rfl (fun ls hl => ?_)
      refine lv_goto (tgt := 4) hx hb dX8_parentOf_150 (by decide) ?_
      exact hv _ _ ls hP hS (lv_sub hl [0, 1, 2, 3] rfl)
set_option maxHeartbeats 4000000 in
set_option maxRecDepth 100000 in
theorem mt_X8_parentOf (l : Launch) (D : va_G) (cA : Nat → ClassId) (y : Nat) (y_space : Nat) (y_offset : Nat) (y_length : Nat) (y_units : Nat) (y_isThere : Nat) (y_levels : Int) (y_level : Nat) (y_lines : Int) (y_lineLevel : Nat) (ya_lineUnits : Nat) (y_lineUnits : Nat → Int32) (y_lineFrom : Nat) (y_lineMany : Nat) (ya_isClosed : Nat) (y_isClosed : Nat → Int32) (ya_insides : Nat) (y_insides : Nat → Int32) (y_parent : Nat) (ya_isHigh : Nat) (y_isHigh : Nat → Int32) (ya_inBits : Nat) (y_inBits : Nat → Int64) (y_sides : Int) (y_side : Nat) (y_sideA : Nat) (y_sideB : Nat) (y_lineSpace : Int) (y_wasThere : Nat) (y_leads : Nat) (y_isLed : Nat) (y_isOn : Nat) (y_goesTo : Nat) (y_stream : Nat) (y_filled : Nat) (y_isDone : Nat) (y_isReached : Nat) (y_newUnits : Nat) (y_isNew : Nat) (o : Int) (h_y_levels : z_in y_levels) (h_y_lines : z_in y_lines) (h_y_sides : z_in y_sides) (h_y_lineSpace : z_in y_lineSpace) (h_o : z_in o) (ls : List d_L) (T : Int → Bool) (U : Int → Int) (hs : Nat → Int32) (hp1 : 0 ≤ o ∧ o < (ls.length : Int)) (hp2 : (l_at ls o).2.1 = 1) (hp3 : y_lines = (ls.length : Int)) (hp4 : ∀ q : Int, 0 ≤ q → q < 16 → -8388608 ≤ z_g hs q ∧ z_g hs q ≤ 8388608) (hp5 : ∀ (q : Nat) (l : d_L), ls[q]? = some l → z_g y_lineUnits (q : Int) = z_g hs l.1 ∧ z_g y_isClosed (q : Int) = l.2.1) (hp6 : ls.length ≤ 400) (hp7 : l_ok T U hs ls) (hp8 : e_S ls T U hs y_insides y_isHigh y_inBits ls.length) : Met l yX8_parentOf wsX8_parentOf ({ frames := 1, cells := 0, slots := 0, locals := 23 } : Room) (va_Pc [.ref y, .int (z_i o)] (z_B0 D cA [(y, .inr (6, [.ref y_space, .ref y_offset, .ref y_length, .ref y_units, .ref y_isThere, .int (z_i y_levels), .ref y_level, .int (z_i y_lines), .ref y_lineLevel, .ref ya_lineUnits, .ref y_lineFrom, .ref y_lineMany, .ref ya_isClosed, .ref ya_insides, .ref y_parent, .ref ya_isHigh, .ref ya_inBits, .int (z_i y_sides), .ref y_side, .ref y_sideA, .ref y_sideB, .int (z_i y_lineSpace), .ref y_wasThere, .ref y_leads, .ref y_isLed, .ref y_isOn, .ref y_goesTo, .ref y_stream, .ref y_filled, .ref y_isDone, .ref y_isReached, .ref y_newUnits, .ref y_isNew])), (ya_lineUnits, .inl (cA 1, 400, .inl y_lineUnits)), (ya_isClosed, .inl (cA 3, 400, .inl y_isClosed)), (ya_insides, .inl (cA 1, 400, .inl y_insides)), (ya_isHigh, .inl (cA 3, 400, .inl y_isHigh)), (ya_inBits, .inl (cA 2, 8000, .inr (.inl y_inBits)))])) (va_Qi (z_ri (fun (r : Int) => r = l_pa T U hs ls o ls.length)) (fun _ _ => True) (fun _ => False)) 0 0 (fun _ => False) := by
  refine wk_X8_parentOf l D cA y y_space y_offset y_length y_units y_isThere y_levels y_level y_lines y_lineLevel ya_lineUnits y_lineUnits y_lineFrom y_lineMany ya_isClosed y_isClosed ya_insides y_insides y_parent ya_isHigh y_isHigh ya_inBits y_inBits y_sides y_side y_sideA y_sideB y_lineSpace y_wasThere y_leads y_isLed y_isOn y_goesTo y_stream y_filled y_isDone y_isReached y_newUnits y_isNew o h_y_levels h_y_lines h_y_sides h_y_lineSpace h_o (fun (r : Int) => r = l_pa T U hs ls o ls.length) ?_
  unfold vc_X8_parentOf
  have hun : ∀ m : Nat, m < ls.length → z_g y_lineUnits (m : Int) = l_lu ls hs m ∧ -8388608 ≤ l_lu ls hs m ∧ l_lu ls hs m ≤ 8388608 := fun m hm => by
    obtain ⟨l, hl⟩ : ∃ l, ls[m]? = some l := ⟨_, List.getElem?_eq_getElem hm⟩
    have h1 := (hp7 l (List.mem_of_getElem? hl)).1
    rw [l_lu_n hp7 hl]
    exact ⟨(hp5 m l hl).1, hp4 _ h1.1 h1.2⟩
  have hin : ∀ m : Nat, m < ls.length → (l_at ls m).2.1 = 1 → z_g y_insides (m : Int) = l_n T ls m := fun m hm h1 => by
    obtain ⟨l, hl⟩ : ∃ l, ls[m]? = some l := ⟨_, List.getElem?_eq_getElem hm⟩
    rw [l_at_n hl] at h1
    have := (hp8 m l hm hl).1
    rw [if_pos h1] at this
    exact this
  have huo := hun o.toNat (by omega)
  rw [show ((o.toNat : Nat) : Int) = o by omega] at huo
  have zab : ∀ x : Int, (x ≥ 0 → z_abs x = x) ∧ (x < 0 → z_abs x = -x) := fun x => ⟨fun h => if_pos h, fun h => if_neg (by omega)⟩
  intro L4 hL4
  suffices A : ∀ (d m : Nat) (f : Int), m + d = ls.length → f = l_pa T U hs ls o m → (0 ≤ f → (l_at ls f).2.1 = 1) → L4 (m : Int) f from A ls.length 0 (-1) (by omega) rfl (fun h => absurd h (by omega))
  intro d
  induction d with
  | zero =>
    intro m f hm hf hc
    obtain rfl : m = ls.length := by omega
    have hb := l_pa_b T U hs ls o ls.length
    exact hL4 _ _ ⟨by omega, by omega⟩ ⟨by omega, by omega⟩ ⟨fun _ => hf, fun h => absurd h (by omega)⟩
  | succ d ih =>
    intro m f hm hf hc
    have hb := l_pa_b T U hs ls o m
    have hmr : (0 : Int) ≤ m ∧ (m : Int) < (ls.length : Int) := ⟨by omega, by omega⟩
    refine hL4 _ _ ⟨by omega, by omega⟩ ⟨by omega, by omega⟩ ⟨fun h => absurd h (by omega), fun _ => ⟨ls, T, U, hs, hmr, hp1, hp2, hp5, hp6, hp7, hp8, ?_⟩⟩
    intro r2 _ hr2
    have stay : ¬ l_pc T U hs ls o f m → L4 ((m : Int) + 1) f := fun h => ih (m + 1) f (by omega) (by rw [l_pa_f (by rw [← hf]; exact h)]; exact hf) hc
    have take : l_pc T U hs ls o f m → L4 ((m : Int) + 1) m := fun h => ih (m + 1) m (by omega) (by rw [l_pa_t (by rw [← hf]; exact h)]) (fun _ => h.2.1)
    refine ⟨fun h => ?_, fun h => stay (fun q => hr2.2.mpr ⟨q.1, q.2.1, q.2.2.1⟩ h)⟩
    obtain ⟨w1, w2, w3⟩ := hr2.2.mp h
    refine ⟨fun h0 => take ⟨w1, w2, w3, Or.inl (by omega)⟩, fun h0 => ?_⟩
    obtain ⟨fn, rfl⟩ := Int.eq_ofNat_of_zero_le h0
    have hfl : fn < ls.length := by omega
    have hcf := hc h0
    have i1 := hin m (by omega) w2
    have i2 := hin fn hfl hcf
    have u1 := hun m (by omega)
    have u2 := hun fn hfl
    have fne : ¬ ((fn : Int) = -1) := by omega
    rw [i1, i2, u1.1, u2.1, huo.1]
    refine ⟨⟨by omega, by omega⟩, ⟨by omega, by omega⟩, fun c1 => ⟨fun c2 => stay (fun q => ?_), fun c2 => ?_⟩, fun c1 => take ⟨w1, w2, w3, Or.inr (Or.inl c1)⟩⟩
    · rcases q.2.2.2 with q | q | q
      · exact fne q
      · omega
      · exact c2 q.1
    · have dec : ∀ x y : Int, z_abs (l_lu ls hs m - l_lu ls hs o) = x → z_abs (l_lu ls hs fn - l_lu ls hs o) = y → ((x ≥ y → L4 ((m : Int) + 1) fn) ∧ (x < y → L4 ((m : Int) + 1) m)) := by
        intro x y hx hy
        refine ⟨fun h => stay (fun q => ?_), fun h => take ⟨w1, w2, w3, Or.inr (Or.inr ⟨c2, by rw [hx, hy]; exact h⟩)⟩⟩
        rcases q.2.2.2 with q | q | q
        · exact fne q
        · omega
        · rw [hx, hy] at q; omega
      refine ⟨⟨by omega, by omega⟩, ⟨by omega, by omega⟩, ?_⟩
      rintro v6 rfl
      refine ⟨⟨by omega, by omega⟩, ?_⟩
      rintro v9 rfl
      refine ⟨fun a => ⟨fun b => dec _ _ ((zab _).1 a) ((zab _).1 b), fun b => ⟨⟨by omega, by omega⟩, dec _ _ ((zab _).1 a) ((zab _).2 b)⟩⟩, fun a => ⟨fun b => ⟨⟨by omega, by omega⟩, dec _ _ ((zab _).2 a) ((zab _).1 b)⟩, fun b => ⟨⟨by omega, by omega⟩, ⟨by omega, by omega⟩, dec _ _ ((zab _).2 a) ((zab _).2 b)⟩⟩⟩
