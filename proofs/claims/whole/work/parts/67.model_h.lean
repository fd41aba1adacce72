theorem e_no_v {u th : Nat → Int32} {g al v rw : Int} (h : e_no (q_th th g) al v rw ≠ -1) : (if rw = 0 then (0 ≤ v ∧ v < 32) ∧ 0 ≤ al ∧ al < 40 else (0 ≤ al ∧ al < 32) ∧ 0 ≤ v ∧ v < 40) ∧ q_at u th g (e_no (q_th th g) al v rw) = (if rw = 0 then z_g u (1280 * g + (40 * v + al)) else z_g u (1280 * g + (40 * al + v))) := by
  have hth := e_no_th h
  rw [q_at_t hth]
  unfold e_no at h ⊢
  by_cases q : rw = 0
  · rw [if_pos q] at h
    have a := m_no_some h
    rw [if_pos q, if_pos q, if_pos q, a.1]
    exact ⟨⟨⟨a.2.1, a.2.2.1⟩, a.2.2.2.1, a.2.2.2.2.1⟩, rfl⟩
  · rw [if_neg q] at h
    have a := m_no_some h
    rw [if_neg q, if_neg q, if_neg q, a.1]
    exact ⟨⟨⟨a.2.1, a.2.2.1⟩, a.2.2.2.1, a.2.2.2.2.1⟩, rfl⟩
/-- the ground at one row or column is above the line -/
def e_hi (T : Int → Bool) (U : Int → Int) (al pl nn rw li : Int) : Prop := e_no T al (pl / nn) rw ≠ -1 ∧ e_no T al ((pl + nn - 1) / nn) rw ≠ -1 ∧ U (e_no T al (pl / nn) rw) * (nn - pl % nn) + U (e_no T al ((pl + nn - 1) / nn) rw) * (pl % nn) > li
def vc_X8_sign (v : Int) (Q : Int → Prop) : Prop :=
((v ≤ 0 → ((v ≥ 0 → Q 0) ∧
(v < 0 → Q (-1)))) ∧
(v > 0 → Q 1))
set_option maxHeartbeats 4000000 in
set_option maxRecDepth 100000 in
theorem wk_X8_sign (l : Launch) (D : va_G) (cA : Nat → ClassId) (v : Int) (h_v : z_in v) (Q : Int → Prop) (hv : vc_X8_sign v Q) : Met l yX8_sign wsX8_sign ({ frames := 0, cells := 0, slots := 0, locals := 0 } : Room) (va_Pc [.int (z_i v)] (z_B0 D cA [])) (va_Qi (z_ri Q) (fun _ _ => True) (fun _ => False)) 0 0 (fun _ => False) := by
  unfold vc_X8_sign at hv
  refine Met.ofW (cc := cX8_sign) (maxL := 1) (ret := (some .int)) (by decide +kernel) rfl ?_
  intro p e s m args below meth c s₁ B hml hv0
  obtain ⟨rfl, hK, hP⟩ := hv0
  have hx := B.exec
  have hb := B.bytes
  have hr := B.returns
  have hts := atoms_spec (ws := wsX8_sign) B.pre
  have hown : s.vm.findClass RX8 = some m.cls := findClass_of_methodNamed B.named
  have hlocks := B.notSynchronized
  have hS : va_S (fun _ : Nat => False) s.heap s.heap [] := va_S.rf
  have hl := lv_entry ([.int (z_i v)]) (n := 1) (Nat.le_of_ble_eq_true rfl)
  rw [lg_entry_eq]
  generalize (lg_sl ([.int (z_i v)]) ++ List.replicate (1 - (lg_sl ([.int (z_i v)])).length) Slot.unset).toArray = ls at hl ⊢
  have hl : lv_has ls 1 [(0, .int (z_i v))] := hl
  refine lv_iload_n hx hb dX8_sign_0 rfl (lv_at hl 0 rfl) ?_
  refine lx_if_le (tgt := 8) hx hb dX8_sign_1 (by decide) h_v (fun hc => ?_) (fun hc => ?_)
  · have hv := hv.1 hc
    refine lv_iload_n hx hb dX8_sign_8 rfl (lv_at hl 0 rfl) ?_
    refine lx_if_ge (tgt := 16) hx hb dX8_sign_9 (by decide) h_v (fun hc => ?_) (fun hc => ?_)
    · have hv := hv.1 hc
      refine lv_iconst (v := z_i 0) hx hb dX8_sign_16 rfl ?_
      exact W.iret (v := z_i 0) hx hb hr (fun t ht hW => ⟨⟨z_i 0, (), rfl, ⟨0, rfl, (show z_in 0 from ⟨by decide, by decide⟩), hv⟩, trivial⟩, hS.F ht⟩) hS.2.2 dX8_sign_17
    · have hv := hv.2 hc
      refine lv_iconst (v := z_i (-1)) hx hb dX8_sign_12 rfl ?_
      refine lv_goto (tgt := 17) hx hb dX8_sign_13 (by decide) ?_
      exact W.iret (v := z_i (-1)) hx hb hr (fun t ht hW => ⟨⟨z_i (-1), (), rfl, ⟨-1, rfl, (show z_in (-1) from ⟨by decide, by decide⟩), hv⟩, trivial⟩, hS.F ht⟩) hS.2.2 dX8_sign_17
  · have hv := hv.2 hc
    refine lv_iconst (v := z_i 1) hx hb dX8_sign_4 rfl ?_
    refine lv_goto (tgt := 17) hx hb dX8_sign_5 (by decide) ?_
    exact W.iret (v := z_i 1) hx hb hr (fun t ht hW => ⟨⟨z_i 1, (), rfl, ⟨1, rfl, (show z_in 1 from ⟨by decide, by decide⟩), hv⟩, trivial⟩, hS.F ht⟩) hS.2.2 dX8_sign_17
set_option maxHeartbeats 4000000 in
set_option maxRecDepth 100000 in
theorem mt_X8_sign (l : Launch) (D : va_G) (cA : Nat → ClassId) (v : Int) (h_v : z_in v)  : Met l yX8_sign wsX8_sign ({ frames := 0, cells := 0, slots := 0, locals := 0 } : Room) (va_Pc [.int (z_i v)] (z_B0 D cA [])) (va_Qi (z_ri (fun (r : Int) => r = (if v > 0 then 1 else if v < 0 then -1 else 0))) (fun _ _ => True) (fun _ => False)) 0 0 (fun _ => False) := by
  refine wk_X8_sign l D cA v h_v (fun (r : Int) => r = (if v > 0 then 1 else if v < 0 then -1 else 0)) ?_
  unfold vc_X8_sign
  refine ⟨fun q => ⟨fun q1 => ?_, fun q1 => ?_⟩, fun q => ?_⟩
  · rw [if_neg (by omega), if_neg (by omega)]
  · rw [if_neg (by omega), if_pos q1]
  · rw [if_pos q]
def vc_X8_ground (y_isThere : Nat → Int32) (gi : Int) (al : Int) (ac : Int) (rw : Int) (Q : Int → Prop) : Prop :=
((rw = 0 → (0 ≤ gi ∧ gi < 4) ∧ (∀ (r2 : Int), z_in r2 → (r2 = z_b (decide (m_no (q_th y_isThere gi) ac al ≠ -1))) → (r2 = 0 ∨ r2 = 1) ∧ Q r2)) ∧
(rw ≠ 0 → (0 ≤ gi ∧ gi < 4) ∧ (∀ (r5 : Int), z_in r5 → (r5 = z_b (decide (m_no (q_th y_isThere gi) al ac ≠ -1))) → (r5 = 0 ∨ r5 = 1) ∧ Q r5)))
set_option maxHeartbeats 4000000 in
set_option maxRecDepth 100000 in
theorem wk_X8_ground (l : Launch) (D : va_G) (cA : Nat → ClassId) (y : Nat) (y_space : Nat) (y_offset : Nat) (y_length : Nat) (y_units : Nat) (ya_isThere : Nat) (y_isThere : Nat → Int32) (y_levels : Int) (y_level : Nat) (y_lines : Int) (y_lineLevel : Nat) (y_lineUnits : Nat) (y_lineFrom : Nat) (y_lineMany : Nat) (y_isClosed : Nat) (y_insides : Nat) (y_parent : Nat) (y_isHigh : Nat) (y_inBits : Nat) (y_sides : Int) (y_side : Nat) (y_sideA : Nat) (y_sideB : Nat) (y_lineSpace : Int) (y_wasThere : Nat) (y_leads : Nat) (y_isLed : Nat) (y_isOn : Nat) (y_goesTo : Nat) (y_stream : Nat) (y_filled : Nat) (y_isDone : Nat) (y_isReached : Nat) (y_newUnits : Nat) (y_isNew : Nat) (gi : Int) (al : Int) (ac : Int) (rw : Int) (h_y_levels : z_in y_levels) (h_y_lines : z_in y_lines) (h_y_sides : z_in y_sides) (h_y_lineSpace : z_in y_lineSpace) (h_gi : z_in gi) (h_al : z_in al) (h_ac : z_in ac) (h_rw : z_in rw) (Q : Int → Prop) (hv : vc_X8_ground y_isThere gi al ac rw Q) : Met l yX8_ground wsX8_ground ({ frames := 2, cells := 0, slots := 0, locals := 45 } : Room) (va_Pc [.ref y, .int (z_i gi), .int (z_i al), .int (z_i ac), .int (z_i rw)] (z_B0 D cA [(y, .inr (6, [.ref y_space, .ref y_offset, .ref y_length, .ref y_units, .ref ya_isThere, .int (z_i y_levels), .ref y_level, .int (z_i y_lines), .ref y_lineLevel, .ref y_lineUnits, .ref y_lineFrom, .ref y_lineMany, .ref y_isClosed, .ref y_insides, .ref y_parent, .ref y_isHigh, .ref y_inBits, .int (z_i y_sides), .ref y_side, .ref y_sideA, .ref y_sideB, .int (z_i y_lineSpace), .ref y_wasThere, .ref y_leads, .ref y_isLed, .ref y_isOn, .ref y_goesTo, .ref y_stream, .ref y_filled, .ref y_isDone, .ref y_isReached, .ref y_newUnits, .ref y_isNew])), (ya_isThere, .inl (cA 3, 5120, .inl y_isThere))])) (va_Qi (z_ri Q) (fun _ _ => True) (fun _ => False)) 0 0 (fun _ => False) := by
  unfold vc_X8_ground at hv
  refine Met.ofW (cc := cX8_ground) (maxL := 5) (ret := (some .boolean)) (by decide +kernel) rfl ?_
  intro p e s m args below meth c s₁ B hml hv0
  obtain ⟨rfl, hK, hP⟩ := hv0
  have hx := B.exec
  have hb := B.bytes
  have hr := B.returns
  have hts := atoms_spec (ws := wsX8_ground) B.pre
  have hown : s.vm.findClass RX8 = some m.cls := findClass_of_methodNamed B.named
  have hlocks := B.notSynchronized
  have hS : va_S (fun _ : Nat => False) s.heap s.heap [] := va_S.rf
  have hl := lv_entry ([.ref y, .int (z_i gi), .int (z_i al), .int (z_i ac), .int (z_i rw)]) (n := 5) (Nat.le_of_ble_eq_true rfl)
  rw [lg_entry_eq]
  generalize (lg_sl ([.ref y, .int (z_i gi), .int (z_i al), .int (z_i ac), .int (z_i rw)]) ++ List.replicate (5 - (lg_sl ([.ref y, .int (z_i gi), .int (z_i al), .int (z_i ac), .int (z_i rw)])).length) Slot.unset).toArray = ls at hl ⊢
  have hl : lv_has ls 5 [(0, .ref y), (1, .int (z_i gi)), (2, .int (z_i al)), (3, .int (z_i ac)), (4, .int (z_i rw))] := hl
  refine lv_iload hx hb dX8_ground_0 (lv_at hl 4 rfl) ?_
  refine lx_if_eq (tgt := 15) hx hb dX8_ground_2 (by decide) h_rw (fun hc => ?_) (fun hc => ?_)
  · have hv := hv.1 hc
    refine lv_aload_n hx hb dX8_ground_15 rfl (lv_at hl 0 rfl) ?_
    refine lv_iload_n hx hb dX8_ground_16 rfl (lv_at hl 1 rfl) ?_
    refine lv_iload_n hx hb dX8_ground_17 rfl (lv_at hl 3 rfl) ?_
    refine lv_iload_n hx hb dX8_ground_18 rfl (lv_at hl 2 rfl) ?_
    obtain ⟨hp1, hv⟩ := hv
    refine va_calli (va_runV (As := [.int (z_i gi), .int (z_i ac), .int (z_i al)]) (rest := []) ⟨hx, hb, hml, hown, hts⟩ (mt_X8_has l D cA y y_space y_offset y_length y_units ya_isThere y_isThere y_levels y_level y_lines y_lineLevel y_lineUnits y_lineFrom y_lineMany y_isClosed y_insides y_parent y_isHigh y_inBits y_sides y_side y_sideA y_sideB y_lineSpace y_wasThere y_leads y_isLed y_isOn y_goesTo y_stream y_filled y_isDone y_isReached y_newUnits y_isNew gi ac al h_y_levels h_y_lines h_y_sides h_y_lineSpace h_gi h_ac h_al hp1) (cwV 3 hts gX8_ground_X8_has rfl rfl rfl (by decide +kernel) ⟨Nat.le_of_ble_eq_true rfl, Nat.le_of_ble_eq_true rfl⟩) ⟨z_bl0, va_recv hK hP (ci := 6) (q0 := 0) rfl rfl, fun U hU hW => ⟨rfl, z_b0 hK hP hU hW⟩⟩ rfl rfl hl.1 rfl (lv_room (Nat.le_of_ble_eq_true rfl)) dX8_ground_19 ⟨Nat.zero_le _, Nat.zero_le _⟩) hS (fun q _ h => h.elim) (fun q h => h.elim) (fun r0 u t H locs ht hvm hw hB hz1 hk1 hS => ?_)
    obtain ⟨r2, rfl, h_r2, hw⟩ := hw
    have hP := z_P_all hP hk1
    have hv := hv r2 h_r2 hw
    obtain ⟨hb3, hv⟩ := hv
    exact W.zret (v := z_i r2) hx hb hr (z_narZ hb3) (fun t ht hW => ⟨⟨z_i r2, (), rfl, ⟨r2, rfl, h_r2, hv⟩, trivial⟩, hS.F ht⟩) hS.2.2 dX8_ground_22
  · have hv := hv.2 hc
    refine lv_aload_n hx hb dX8_ground_5 rfl (lv_at hl 0 rfl) ?_
    refine lv_iload_n hx hb dX8_ground_6 rfl (lv_at hl 1 rfl) ?_
    refine lv_iload_n hx hb dX8_ground_7 rfl (lv_at hl 2 rfl) ?_
    refine lv_iload_n hx hb dX8_ground_8 rfl (lv_at hl 3 rfl) ?_
    obtain ⟨hp4, hv⟩ := hv
    refine va_calli (va_runV (As := [.int (z_i gi), .int (z_i al), .int (z_i ac)]) (rest := []) ⟨hx, hb, hml, hown, hts⟩ (mt_X8_has l D cA y y_space y_offset y_length y_units ya_isThere y_isThere y_levels y_level y_lines y_lineLevel y_lineUnits y_lineFrom y_lineMany y_isClosed y_insides y_parent y_isHigh y_inBits y_sides y_side y_sideA y_sideB y_lineSpace y_wasThere y_leads y_isLed y_isOn y_goesTo y_stream y_filled y_isDone y_isReached y_newUnits y_isNew gi al ac h_y_levels h_y_lines h_y_sides h_y_lineSpace h_gi h_al h_ac hp4) (cwV 3 hts gX8_ground_X8_has rfl rfl rfl (by decide +kernel) ⟨Nat.le_of_ble_eq_true rfl, Nat.le_of_ble_eq_true rfl⟩) ⟨z_bl0, va_recv hK hP (ci := 6) (q0 := 0) rfl rfl, fun U hU hW => ⟨rfl, z_b0 hK hP hU hW⟩⟩ rfl rfl hl.1 rfl (lv_room (Nat.le_of_ble_eq_true rfl)) dX8_ground_9 ⟨Nat.zero_le _, Nat.zero_le _⟩) hS (fun q _ h => h.elim) (fun q h => h.elim) (fun r0 u t H locs ht hvm hw hB hz1 hk1 hS => ?_)
    obtain ⟨r5, rfl, h_r5, hw⟩ := hw
    have hP := z_P_all hP hk1
    have hv := hv r5 h_r5 hw
    refine lv_goto (tgt := 22) hx hb dX8_ground_12 (by decide) ?_
    obtain ⟨hb6, hv⟩ := hv
    exact W.zret (v := z_i r5) hx hb hr (z_narZ hb6) (fun t ht hW => ⟨⟨z_i r5, (), rfl, ⟨r5, rfl, h_r5, hv⟩, trivial⟩, hS.F ht⟩) hS.2.2 dX8_ground_22
set_option maxHeartbeats 4000000 in
set_option maxRecDepth 100000 in
theorem mt_X8_ground (l : Launch) (D : va_G) (cA : Nat → ClassId) (y : Nat) (y_space : Nat) (y_offset : Nat) (y_length : Nat) (y_units : Nat) (ya_isThere : Nat) (y_isThere : Nat → Int32) (y_levels : Int) (y_level : Nat) (y_lines : Int) (y_lineLevel : Nat) (y_lineUnits : Nat) (y_lineFrom : Nat) (y_lineMany : Nat) (y_isClosed : Nat) (y_insides : Nat) (y_parent : Nat) (y_isHigh : Nat) (y_inBits : Nat) (y_sides : Int) (y_side : Nat) (y_sideA : Nat) (y_sideB : Nat) (y_lineSpace : Int) (y_wasThere : Nat) (y_leads : Nat) (y_isLed : Nat) (y_isOn : Nat) (y_goesTo : Nat) (y_stream : Nat) (y_filled : Nat) (y_isDone : Nat) (y_isReached : Nat) (y_newUnits : Nat) (y_isNew : Nat) (gi : Int) (al : Int) (ac : Int) (rw : Int) (h_y_levels : z_in y_levels) (h_y_lines : z_in y_lines) (h_y_sides : z_in y_sides) (h_y_lineSpace : z_in y_lineSpace) (h_gi : z_in gi) (h_al : z_in al) (h_ac : z_in ac) (h_rw : z_in rw) (hp1 : 0 ≤ gi ∧ gi < 4) : Met l yX8_ground wsX8_ground ({ frames := 2, cells := 0, slots := 0, locals := 45 } : Room) (va_Pc [.ref y, .int (z_i gi), .int (z_i al), .int (z_i ac), .int (z_i rw)] (z_B0 D cA [(y, .inr (6, [.ref y_space, .ref y_offset, .ref y_length, .ref y_units, .ref ya_isThere, .int (z_i y_levels), .ref y_level, .int (z_i y_lines), .ref y_lineLevel, .ref y_lineUnits, .ref y_lineFrom, .ref y_lineMany, .ref y_isClosed, .ref y_insides, .ref y_parent, .ref y_isHigh, .ref y_inBits, .int (z_i y_sides), .ref y_side, .ref y_sideA, .ref y_sideB, .int (z_i y_lineSpace), .ref y_wasThere, .ref y_leads, .ref y_isLed, .ref y_isOn, .ref y_goesTo, .ref y_stream, .ref y_filled, .ref y_isDone, .ref y_isReached, .ref y_newUnits, .ref y_isNew])), (ya_isThere, .inl (cA 3, 5120, .inl y_isThere))])) (va_Qi (z_ri (fun (r : Int) => r = z_b (decide (e_no (q_th y_isThere gi) al ac rw ≠ -1)))) (fun _ _ => True) (fun _ => False)) 0 0 (fun _ => False) := by
  refine wk_X8_ground l D cA y y_space y_offset y_length y_units ya_isThere y_isThere y_levels y_level y_lines y_lineLevel y_lineUnits y_lineFrom y_lineMany y_isClosed y_insides y_parent y_isHigh y_inBits y_sides y_side y_sideA y_sideB y_lineSpace y_wasThere y_leads y_isLed y_isOn y_goesTo y_stream y_filled y_isDone y_isReached y_newUnits y_isNew gi al ac rw h_y_levels h_y_lines h_y_sides h_y_lineSpace h_gi h_al h_ac h_rw (fun (r : Int) => r = z_b (decide (e_no (q_th y_isThere gi) al ac rw ≠ -1))) ?_
  unfold vc_X8_ground
  refine ⟨fun q => ⟨hp1, ?_⟩, fun q => ⟨hp1, ?_⟩⟩
  · rintro r2 _ rfl
    refine ⟨z_b_01 _, ?_⟩
    unfold e_no; rw [if_pos q]
  · rintro r2 _ rfl
    refine ⟨z_b_01 _, ?_⟩
    unfold e_no; rw [if_neg q]
def vc_X8_groundAt (y_units : Nat → Int32) (gi : Int) (al : Int) (ac : Int) (rw : Int) (Q : Int → Prop) : Prop :=
((rw = 0 → (0 ≤ gi ∧ gi < 4) ∧ (0 ≤ ac ∧ ac < 32) ∧ (0 ≤ al ∧ al < 40) ∧ (∀ (r4 : Int), z_in r4 → (r4 = z_g y_units (1280 * gi + (40 * ac + al))) → Q r4)) ∧
(rw ≠ 0 → (0 ≤ gi ∧ gi < 4) ∧ (0 ≤ al ∧ al < 32) ∧ (0 ≤ ac ∧ ac < 40) ∧ (∀ (r8 : Int), z_in r8 → (r8 = z_g y_units (1280 * gi + (40 * al + ac))) → Q r8)))
set_option maxHeartbeats 4000000 in
set_option maxRecDepth 100000 in
theorem wk_X8_groundAt (l : Launch) (D : va_G) (cA : Nat → ClassId) (y : Nat) (y_space : Nat) (y_offset : Nat) (y_length : Nat) (ya_units : Nat) (y_units : Nat → Int32) (y_isThere : Nat) (y_levels : Int) (y_level : Nat) (y_lines : Int) (y_lineLevel : Nat) (y_lineUnits : Nat) (y_lineFrom : Nat) (y_lineMany : Nat) (y_isClosed : Nat) (y_insides : Nat) (y_parent : Nat) (y_isHigh : Nat) (y_inBits : Nat) (y_sides : Int) (y_side : Nat) (y_sideA : Nat) (y_sideB : Nat) (y_lineSpace : Int) (y_wasThere : Nat) (y_leads : Nat) (y_isLed : Nat) (y_isOn : Nat) (y_goesTo : Nat) (y_stream : Nat) (y_filled : Nat) (y_isDone : Nat) (y_isReached : Nat) (y_newUnits : Nat) (y_isNew : Nat) (gi : Int) (al : Int) (ac : Int) (rw : Int) (h_y_levels : z_in y_levels) (h_y_lines : z_in y_lines) (h_y_sides : z_in y_sides) (h_y_lineSpace : z_in y_lineSpace) (h_gi : z_in gi) (h_al : z_in al) (h_ac : z_in ac) (h_rw : z_in rw) (Q : Int → Prop) (hv : vc_X8_groundAt y_units gi al ac rw Q) : Met l yX8_groundAt wsX8_groundAt ({ frames := 1, cells := 0, slots := 0, locals := 23 } : Room) (va_Pc [.ref y, .int (z_i gi), .int (z_i al), .int (z_i ac), .int (z_i rw)] (z_B0 D cA [(y, .inr (6, [.ref y_space, .ref y_offset, .ref y_length, .ref ya_units, .ref y_isThere, .int (z_i y_levels), .ref y_level, .int (z_i y_lines), .ref y_lineLevel, .ref y_lineUnits, .ref y_lineFrom, .ref y_lineMany, .ref y_isClosed, .ref y_insides, .ref y_parent, .ref y_isHigh, .ref y_inBits, .int (z_i y_sides), .ref y_side, .ref y_sideA, .ref y_sideB, .int (z_i y_lineSpace), .ref y_wasThere, .ref y_leads, .ref y_isLed, .ref y_isOn, .ref y_goesTo, .ref y_stream, .ref y_filled, .ref y_isDone, .ref y_isReached, .ref y_newUnits, .ref y_isNew])), (ya_units, .inl (cA 1, 5120, .inl y_units))])) (va_Qi (z_ri Q) (fun _ _ => True) (fun _ => False)) 0 0 (fun _ => False) := by
  unfold vc_X8_groundAt at hv
  refine Met.ofW (cc := cX8_groundAt) (maxL := 5) (ret := (some .int)) (by decide +kernel) rfl ?_
  intro p e s m args below meth c s₁ B hml hv0
  obtain ⟨rfl, hK, hP⟩ := hv0
  have hx := B.exec
  have hb := B.bytes
  have hr := B.returns
  have hts := atoms_spec (ws := wsX8_groundAt) B.pre
  have hown : s.vm.findClass RX8 = some m.cls := findClass_of_methodNamed B.named
  have hlocks := B.notSynchronized
  have hS : va_S (fun _ : Nat => False) s.heap s.heap [] := va_S.rf
  have hl := lv_entry ([.ref y, .int (z_i gi), .int (z_i al), .int (z_i ac), .int (z_i rw)]) (n := 5) (Nat.le_of_ble_eq_true rfl)
  rw [lg_entry_eq]
  generalize (lg_sl ([.ref y, .int (z_i gi), .int (z_i al), .int (z_i ac), .int (z_i rw)]) ++ List.replicate (5 - (lg_sl ([.ref y, .int (z_i gi), .int (z_i al), .int (z_i ac), .int (z_i rw)])).length) Slot.unset).toArray = ls at hl ⊢
  have hl : lv_has ls 5 [(0, .ref y), (1, .int (z_i gi)), (2, .int (z_i al)), (3, .int (z_i ac)), (4, .int (z_i rw))] := hl
  refine lv_iload hx hb dX8_groundAt_0 (lv_at hl 4 rfl) ?_
  refine lx_if_eq (tgt := 15) hx hb dX8_groundAt_2 (by decide) h_rw (fun hc => ?_) (fun hc => ?_)
  · have hv := hv.1 hc
    refine lv_aload_n hx hb dX8_groundAt_15 rfl (lv_at hl 0 rfl) ?_
    refine lv_iload_n hx hb dX8_groundAt_16 rfl (lv_at hl 1 rfl) ?_
    refine lv_iload_n hx hb dX8_groundAt_17 rfl (lv_at hl 3 rfl) ?_
    refine lv_iload_n hx hb dX8_groundAt_18 rfl (lv_at hl 2 rfl) ?_
    obtain ⟨hp1, hv⟩ := hv
    obtain ⟨hp2, hv⟩ := hv
    obtain ⟨hp3, hv⟩ := hv
    refine va_calli (va_runV (As := [.int (z_i gi), .int (z_i ac), .int (z_i al)]) (rest := []) ⟨hx, hb, hml, hown, hts⟩ (mt_X8_h l D cA y y_space y_offset y_length ya_units y_units y_isThere y_levels y_level y_lines y_lineLevel y_lineUnits y_lineFrom y_lineMany y_isClosed y_insides y_parent y_isHigh y_inBits y_sides y_side y_sideA y_sideB y_lineSpace y_wasThere y_leads y_isLed y_isOn y_goesTo y_stream y_filled y_isDone y_isReached y_newUnits y_isNew gi ac al h_y_levels h_y_lines h_y_sides h_y_lineSpace h_gi h_ac h_al hp1 hp2 hp3) (cwV 3 hts gX8_groundAt_X8_h rfl rfl rfl (by decide +kernel) ⟨Nat.le_of_ble_eq_true rfl, Nat.le_of_ble_eq_true rfl⟩) ⟨z_bl0, va_recv hK hP (ci := 6) (q0 := 0) rfl rfl, fun U hU hW => ⟨rfl, z_b0 hK hP hU hW⟩⟩ rfl rfl hl.1 rfl (lv_room (Nat.le_of_ble_eq_true rfl)) dX8_groundAt_19 ⟨Nat.zero_le _, Nat.zero_le _⟩) hS (fun q _ h => h.elim) (fun q h => h.elim) (fun r0 u t H locs ht hvm hw hB hz1 hk1 hS => ?_)
    obtain ⟨r4, rfl, h_r4, hw⟩ := hw
    have hP := z_P_all hP hk1
    have hv := hv r4 h_r4 hw
    exact W.iret (v := z_i r4) hx hb hr (fun t ht hW => ⟨⟨z_i r4, (), rfl, ⟨r4, rfl, h_r4, hv⟩, trivial⟩, hS.F ht⟩) hS.2.2 dX8_groundAt_22
  · have hv := hv.2 hc
    refine lv_aload_n hx hb dX8_groundAt_5 rfl (lv_at hl 0 rfl) ?_
    refine lv_iload_n hx hb dX8_groundAt_6 rfl (lv_at hl 1 rfl) ?_
    refine lv_iload_n hx hb dX8_groundAt_7 rfl (lv_at hl 2 rfl) ?_
    refine lv_iload_n hx hb dX8_groundAt_8 rfl (lv_at hl 3 rfl) ?_
    obtain ⟨hp5, hv⟩ := hv
    obtain ⟨hp6, hv⟩ := hv
    obtain ⟨hp7, hv⟩ := hv
    refine va_calli (va_runV (As := [.int (z_i gi), .int (z_i al), .int (z_i ac)]) (rest := []) ⟨hx, hb, hml, hown, hts⟩ (mt_X8_h l D cA y y_space y_offset y_length ya_units y_units y_isThere y_levels y_level y_lines y_lineLevel y_lineUnits y_lineFrom y_lineMany y_isClosed y_insides y_parent y_isHigh y_inBits y_sides y_side y_sideA y_sideB y_lineSpace y_wasThere y_leads y_isLed y_isOn y_goesTo y_stream y_filled y_isDone y_isReached y_newUnits y_isNew gi al ac h_y_levels h_y_lines h_y_sides h_y_lineSpace h_gi h_al h_ac hp5 hp6 hp7) (cwV 3 hts gX8_groundAt_X8_h rfl rfl rfl (by decide +kernel) ⟨Nat.le_of_ble_eq_true rfl, Nat.le_of_ble_eq_true rfl⟩) ⟨z_bl0, va_recv hK hP (ci := 6) (q0 := 0) rfl rfl, fun U hU hW => ⟨rfl, z_b0 hK hP hU hW⟩⟩ rfl rfl hl.1 rfl (lv_room (Nat.le_of_ble_eq_true rfl)) dX8_groundAt_9 ⟨Nat.zero_le _, Nat.zero_le _⟩) hS (fun q _ h => h.elim) (fun q h => h.elim) (fun r0 u t H locs ht hvm hw hB hz1 hk1 hS => ?_)
    obtain ⟨r8, rfl, h_r8, hw⟩ := hw
    have hP := z_P_all hP hk1
    have hv := hv r8 h_r8 hw
    refine lv_goto (tgt := 22) hx hb dX8_groundAt_12 (by decide) ?_
    exact W.iret (v := z_i r8) hx hb hr (fun t ht hW => ⟨⟨z_i r8, (), rfl, ⟨r8, rfl, h_r8, hv⟩, trivial⟩, hS.F ht⟩) hS.2.2 dX8_groundAt_22
set_option maxHeartbeats 4000000 in
set_option maxRecDepth 100000 in
theorem mt_X8_groundAt (l : Launch) (D : va_G) (cA : Nat → ClassId) (y : Nat) (y_space : Nat) (y_offset : Nat) (y_length : Nat) (ya_units : Nat) (y_units : Nat → Int32) (y_isThere : Nat) (y_levels : Int) (y_level : Nat) (y_lines : Int) (y_lineLevel : Nat) (y_lineUnits : Nat) (y_lineFrom : Nat) (y_lineMany : Nat) (y_isClosed : Nat) (y_insides : Nat) (y_parent : Nat) (y_isHigh : Nat) (y_inBits : Nat) (y_sides : Int) (y_side : Nat) (y_sideA : Nat) (y_sideB : Nat) (y_lineSpace : Int) (y_wasThere : Nat) (y_leads : Nat) (y_isLed : Nat) (y_isOn : Nat) (y_goesTo : Nat) (y_stream : Nat) (y_filled : Nat) (y_isDone : Nat) (y_isReached : Nat) (y_newUnits : Nat) (y_isNew : Nat) (gi : Int) (al : Int) (ac : Int) (rw : Int) (h_y_levels : z_in y_levels) (h_y_lines : z_in y_lines) (h_y_sides : z_in y_sides) (h_y_lineSpace : z_in y_lineSpace) (h_gi : z_in gi) (h_al : z_in al) (h_ac : z_in ac) (h_rw : z_in rw) (hp1 : 0 ≤ gi ∧ gi < 4) (hp2 : if rw = 0 then (0 ≤ ac ∧ ac < 32) ∧ 0 ≤ al ∧ al < 40 else (0 ≤ al ∧ al < 32) ∧ 0 ≤ ac ∧ ac < 40) : Met l yX8_groundAt wsX8_groundAt ({ frames := 1, cells := 0, slots := 0, locals := 23 } : Room) (va_Pc [.ref y, .int (z_i gi), .int (z_i al), .int (z_i ac), .int (z_i rw)] (z_B0 D cA [(y, .inr (6, [.ref y_space, .ref y_offset, .ref y_length, .ref ya_units, .ref y_isThere, .int (z_i y_levels), .ref y_level, .int (z_i y_lines), .ref y_lineLevel, .ref y_lineUnits, .ref y_lineFrom, .ref y_lineMany, .ref y_isClosed, .ref y_insides, .ref y_parent, .ref y_isHigh, .ref y_inBits, .int (z_i y_sides), .ref y_side, .ref y_sideA, .ref y_sideB, .int (z_i y_lineSpace), .ref y_wasThere, .ref y_leads, .ref y_isLed, .ref y_isOn, .ref y_goesTo, .ref y_stream, .ref y_filled, .ref y_isDone, .ref y_isReached, .ref y_newUnits, .ref y_isNew])), (ya_units, .inl (cA 1, 5120, .inl y_units))])) (va_Qi (z_ri (fun (r : Int) => r = (if rw = 0 then z_g y_units (1280 * gi + (40 * ac + al)) else z_g y_units (1280 * gi + (40 * al + ac))))) (fun _ _ => True) (fun _ => False)) 0 0 (fun _ => False) := by
  refine wk_X8_groundAt l D cA y y_space y_offset y_length ya_units y_units y_isThere y_levels y_level y_lines y_lineLevel y_lineUnits y_lineFrom y_lineMany y_isClosed y_insides y_parent y_isHigh y_inBits y_sides y_side y_sideA y_sideB y_lineSpace y_wasThere y_leads y_isLed y_isOn y_goesTo y_stream y_filled y_isDone y_isReached y_newUnits y_isNew gi al ac rw h_y_levels h_y_lines h_y_sides h_y_lineSpace h_gi h_al h_ac h_rw (fun (r : Int) => r = (if rw = 0 then z_g y_units (1280 * gi + (40 * ac + al)) else z_g y_units (1280 * gi + (40 * al + ac)))) ?_
  unfold vc_X8_groundAt
  refine ⟨fun q => ?_, fun q => ?_⟩
  · rw [if_pos q] at hp2
    refine ⟨hp1, hp2.1, hp2.2, ?_⟩
    rintro r4 _ h
    rw [if_pos q]; exact h
  · rw [if_neg q] at hp2
    refine ⟨hp1, hp2.1, hp2.2, ?_⟩
    rintro r4 _ h
    rw [if_neg q]; exact h
def vc_X8_isLow (y_units : Nat → Int32) (y_isThere : Nat → Int32) (gi : Int) (al : Int) (pl : Int) (nn : Int) (rw : Int) (li : Int) (Q : Int → Prop) : Prop :=
nn ≠ 0 ∧ z_in (pl.tdiv nn) ∧ (∀ v2 : Int, v2 = pl.tdiv nn → nn ≠ 0 ∧ z_in (pl.tmod nn) ∧ (∀ v6 : Int, v6 = pl.tmod nn → (0 ≤ gi ∧ gi < 4) ∧ (∀ (r10 : Int), z_in r10 → (r10 = z_b (decide (e_no (q_th y_isThere gi) al v2 rw ≠ -1))) → ((r10 = 0 → Q 1) ∧
(r10 ≠ 0 → ((v6 ≤ 0 → (0 ≤ gi ∧ gi < 4) ∧ (if rw = 0 then (0 ≤ v2 ∧ v2 < 32) ∧ 0 ≤ al ∧ al < 40 else (0 ≤ al ∧ al < 32) ∧ 0 ≤ v2 ∧ v2 < 40) ∧ (∀ (r13 : Int), z_in r13 → (r13 = (if rw = 0 then z_g y_units (1280 * gi + (40 * v2 + al)) else z_g y_units (1280 * gi + (40 * al + v2)))) → z_in (nn - v6) ∧ ((v6 ≤ 0 → z_nl ((r13 * (nn - v6)) + 0) ∧ (∀ v15 : Int, v15 = (r13 * (nn - v6)) + 0 → ((v15 > li → Q 0) ∧
(v15 ≤ li → Q 1)))) ∧
(v6 > 0 → z_in (v2 + 1) ∧ (0 ≤ gi ∧ gi < 4) ∧ (if rw = 0 then (0 ≤ (v2 + 1) ∧ (v2 + 1) < 32) ∧ 0 ≤ al ∧ al < 40 else (0 ≤ al ∧ al < 32) ∧ 0 ≤ (v2 + 1) ∧ (v2 + 1) < 40) ∧ (∀ (r21 : Int), z_in r21 → (r21 = (if rw = 0 then z_g y_units (1280 * gi + (40 * (v2 + 1) + al)) else z_g y_units (1280 * gi + (40 * al + (v2 + 1))))) → z_nl ((r13 * (nn - v6)) + (r21 * v6)) ∧ (∀ v22 : Int, v22 = (r13 * (nn - v6)) + (r21 * v6) → ((v22 > li → Q 0) ∧
(v22 ≤ li → Q 1)))))))) ∧
(v6 > 0 → z_in (v2 + 1) ∧ (0 ≤ gi ∧ gi < 4) ∧ (∀ (r27 : Int), z_in r27 → (r27 = z_b (decide (e_no (q_th y_isThere gi) al (v2 + 1) rw ≠ -1))) → ((r27 ≠ 0 → (0 ≤ gi ∧ gi < 4) ∧ (if rw = 0 then (0 ≤ v2 ∧ v2 < 32) ∧ 0 ≤ al ∧ al < 40 else (0 ≤ al ∧ al < 32) ∧ 0 ≤ v2 ∧ v2 < 40) ∧ (∀ (r30 : Int), z_in r30 → (r30 = (if rw = 0 then z_g y_units (1280 * gi + (40 * v2 + al)) else z_g y_units (1280 * gi + (40 * al + v2)))) → z_in (nn - v6) ∧ ((v6 ≤ 0 → z_nl ((r30 * (nn - v6)) + 0) ∧ (∀ v32 : Int, v32 = (r30 * (nn - v6)) + 0 → ((v32 > li → Q 0) ∧
(v32 ≤ li → Q 1)))) ∧
(v6 > 0 → (0 ≤ gi ∧ gi < 4) ∧ (if rw = 0 then (0 ≤ (v2 + 1) ∧ (v2 + 1) < 32) ∧ 0 ≤ al ∧ al < 40 else (0 ≤ al ∧ al < 32) ∧ 0 ≤ (v2 + 1) ∧ (v2 + 1) < 40) ∧ (∀ (r37 : Int), z_in r37 → (r37 = (if rw = 0 then z_g y_units (1280 * gi + (40 * (v2 + 1) + al)) else z_g y_units (1280 * gi + (40 * al + (v2 + 1))))) → z_nl ((r30 * (nn - v6)) + (r37 * v6)) ∧ (∀ v38 : Int, v38 = (r30 * (nn - v6)) + (r37 * v6) → ((v38 > li → Q 0) ∧
(v38 ≤ li → Q 1)))))))) ∧
(r27 = 0 → Q 1))))))))))
set_option maxHeartbeats 4000000 in
set_option maxRecDepth 100000 in
theorem wk_X8_isLow (l : Launch) (D : va_G) (cA : Nat → ClassId) (y : Nat) (y_space : Nat) (y_offset : Nat) (y_length : Nat) (ya_units : Nat) (y_units : Nat → Int32) (ya_isThere : Nat) (y_isThere : Nat → Int32) (y_levels : Int) (y_level : Nat) (y_lines : Int) (y_lineLevel : Nat) (y_lineUnits : Nat) (y_lineFrom : Nat) (y_lineMany : Nat) (y_isClosed : Nat) (y_insides : Nat) (y_parent : Nat) (y_isHigh : Nat) (y_inBits : Nat) (y_sides : Int) (y_side : Nat) (y_sideA : Nat) (y_sideB : Nat) (y_lineSpace : Int) (y_wasThere : Nat) (y_leads : Nat) (y_isLed : Nat) (y_isOn : Nat) (y_goesTo : Nat) (y_stream : Nat) (y_filled : Nat) (y_isDone : Nat) (y_isReached : Nat) (y_newUnits : Nat) (y_isNew : Nat) (gi : Int) (al : Int) (pl : Int) (nn : Int) (rw : Int) (li : Int) (h_y_levels : z_in y_levels) (h_y_lines : z_in y_lines) (h_y_sides : z_in y_sides) (h_y_lineSpace : z_in y_lineSpace) (h_gi : z_in gi) (h_al : z_in al) (h_pl : z_nl pl) (h_nn : z_in nn) (h_rw : z_in rw) (h_li : z_nl li) (Q : Int → Prop) (hv : vc_X8_isLow y_units y_isThere gi al pl nn rw li Q) : Met l yX8_isLow wsX8_isLow ({ frames := 3, cells := 0, slots := 0, locals := 69 } : Room) (va_Pc [.ref y, .int (z_i gi), .int (z_i al), .long (z_l pl), .int (z_i nn), .int (z_i rw), .long (z_l li)] (z_B0 D cA [(y, .inr (6, [.ref y_space, .ref y_offset, .ref y_length, .ref ya_units, .ref ya_isThere, .int (z_i y_levels), .ref y_level, .int (z_i y_lines), .ref y_lineLevel, .ref y_lineUnits, .ref y_lineFrom, .ref y_lineMany, .ref y_isClosed, .ref y_insides, .ref y_parent, .ref y_isHigh, .ref y_inBits, .int (z_i y_sides), .ref y_side, .ref y_sideA, .ref y_sideB, .int (z_i y_lineSpace), .ref y_wasThere, .ref y_leads, .ref y_isLed, .ref y_isOn, .ref y_goesTo, .ref y_stream, .ref y_filled, .ref y_isDone, .ref y_isReached, .ref y_newUnits, .ref y_isNew])), (ya_units, .inl (cA 1, 5120, .inl y_units)), (ya_isThere, .inl (cA 3, 5120, .inl y_isThere))])) (va_Qi (z_ri Q) (fun _ _ => True) (fun _ => False)) 0 0 (fun _ => False) := by
  unfold vc_X8_isLow at hv
  refine Met.ofW (cc := cX8_isLow) (maxL := 13) (ret := (some .boolean)) (by decide +kernel) rfl ?_
  intro p e s m args below meth c s₁ B hml hv0
  obtain ⟨rfl, hK, hP⟩ := hv0
  have hx := B.exec
  have hb := B.bytes
  have hr := B.returns
  have hts := atoms_spec (ws := wsX8_isLow) B.pre
  have hown : s.vm.findClass RX8 = some m.cls := findClass_of_methodNamed B.named
  have hlocks := B.notSynchronized
  have hS : va_S (fun _ : Nat => False) s.heap s.heap [] := va_S.rf
  have hl := lv_entry ([.ref y, .int (z_i gi), .int (z_i al), .long (z_l pl), .int (z_i nn), .int (z_i rw), .long (z_l li)]) (n := 13) (Nat.le_of_ble_eq_true rfl)
  rw [lg_entry_eq]
  generalize (lg_sl ([.ref y, .int (z_i gi), .int (z_i al), .long (z_l pl), .int (z_i nn), .int (z_i rw), .long (z_l li)]) ++ List.replicate (13 - (lg_sl ([.ref y, .int (z_i gi), .int (z_i al), .long (z_l pl), .int (z_i nn), .int (z_i rw), .long (z_l li)])).length) Slot.unset).toArray = ls at hl ⊢
  have hl : lv_has ls 13 [(0, .ref y), (1, .int (z_i gi)), (2, .int (z_i al)), (3, .long (z_l pl)), (5, .int (z_i nn)), (6, .int (z_i rw)), (7, .long (z_l li))] := hl
  refine lv_lload_n hx hb dX8_isLow_0 rfl (lv_at hl 3 rfl) ?_
  refine lv_iload hx hb dX8_isLow_1 (lv_at hl 4 rfl) ?_
  refine lx_i2l hx hb dX8_isLow_3 h_nn ?_
  obtain ⟨hz1, hv⟩ := hv
  refine lx_ldiv hx hb dX8_isLow_4 h_pl (z_in_nl h_nn) hz1 ?_
  refine lx_l2i hx hb dX8_isLow_5 ?_
  obtain ⟨hr3, hv⟩ := hv
  refine lx_topi (fun v2 hy4 => ?_)
  have hv := hv v2 hy4
  have h_v2 : z_in v2 := by rw [hy4]; exact hr3
  refine lv_istore (lv' := [(9, .int (z_i v2)), (0, .ref y), (1, .int (z_i gi)), (2, .int (z_i al)), (3, .long (z_l pl)), (5, .int (z_i nn)), (6, .int (z_i rw)), (7, .long (z_l li))]) hx hb dX8_isLow_6 hl (by decide) rfl (fun ls hl => ?_)
  refine lv_lload_n hx hb dX8_isLow_8 rfl (lv_at hl 4 rfl) ?_
  refine lv_iload hx hb dX8_isLow_9 (lv_at hl 5 rfl) ?_
  refine lx_i2l hx hb dX8_isLow_11 h_nn ?_
  obtain ⟨hz5, hv⟩ := hv
  refine lx_lrem hx hb dX8_isLow_12 h_pl (z_in_nl h_nn) hz5 ?_
  refine lx_l2i hx hb dX8_isLow_13 ?_
  obtain ⟨hr7, hv⟩ := hv
  refine lx_topi (fun v6 hy8 => ?_)
  have hv := hv v6 hy8
  have h_v6 : z_in v6 := by rw [hy8]; exact hr7
  refine lv_istore (lv' := [(10, .int (z_i v6)), (9, .int (z_i v2)), (0, .ref y), (1, .int (z_i gi)), (2, .int (z_i al)), (3, .long (z_l pl)), (5, .int (z_i nn)), (6, .int (z_i rw)), (7, .long (z_l li))]) hx hb dX8_isLow_14 hl (by decide) rfl (fun ls hl => ?_)
  refine lv_aload_n hx hb dX8_isLow_16 rfl (lv_at hl 2 rfl) ?_
  refine lv_iload_n hx hb dX8_isLow_17 rfl (lv_at hl 3 rfl) ?_
  refine lv_iload_n hx hb dX8_isLow_18 rfl (lv_at hl 4 rfl) ?_
  refine lv_iload hx hb dX8_isLow_19 (lv_at hl 1 rfl) ?_
  refine lv_iload hx hb dX8_isLow_21 (lv_at hl 7 rfl) ?_
  obtain ⟨hp9, hv⟩ := hv
  refine va_calli (va_runV (As := [.int (z_i gi), .int (z_i al), .int (z_i v2), .int (z_i rw)]) (rest := []) ⟨hx, hb, hml, hown, hts⟩ (mt_X8_ground l D cA y y_space y_offset y_length ya_units ya_isThere y_isThere y_levels y_level y_lines y_lineLevel y_lineUnits y_lineFrom y_lineMany y_isClosed y_insides y_parent y_isHigh y_inBits y_sides y_side y_sideA y_sideB y_lineSpace y_wasThere y_leads y_isLed y_isOn y_goesTo y_stream y_filled y_isDone y_isReached y_newUnits y_isNew gi al v2 rw h_y_levels h_y_lines h_y_sides h_y_lineSpace h_gi h_al h_v2 h_rw hp9) (cwV 4 hts gX8_isLow_X8_ground rfl rfl rfl (by decide +kernel) ⟨Nat.le_of_ble_eq_true rfl, Nat.le_of_ble_eq_true rfl⟩) ⟨z_bl0, va_recv hK hP (ci := 6) (q0 := 0) rfl rfl, fun U hU hW => ⟨rfl, z_b0 hK (hP.sub (ws' := [(y, .inr (6, [.ref y_space, .ref y_offset, .ref y_length, .ref ya_units, .ref ya_isThere, .int (z_i y_levels), .ref y_level, .int (z_i y_lines), .ref y_lineLevel, .ref y_lineUnits, .ref y_lineFrom, .ref y_lineMany, .ref y_isClosed, .ref y_insides, .ref y_parent, .ref y_isHigh, .ref y_inBits, .int (z_i y_sides), .ref y_side, .ref y_sideA, .ref y_sideB, .int (z_i y_lineSpace), .ref y_wasThere, .ref y_leads, .ref y_isLed, .ref y_isOn, .ref y_goesTo, .ref y_stream, .ref y_filled, .ref y_isDone, .ref y_isReached, .ref y_newUnits, .ref y_isNew])), (ya_isThere, .inl (cA 3, 5120, .inl y_isThere))]) [0, 2] rfl) hU hW⟩⟩ rfl rfl hl.1 rfl (lv_room (Nat.le_of_ble_eq_true rfl)) dX8_isLow_23 ⟨Nat.zero_le _, Nat.zero_le _⟩) hS (fun q _ h => h.elim) (fun q h => h.elim) (fun r0 u t H locs ht hvm hw hB hz1 hk1 hS => ?_)
  obtain ⟨r10, rfl, h_r10, hw⟩ := hw
  have hP := z_P_all hP hk1
  have hv := hv r10 h_r10 hw
  refine lx_if_eq (tgt := 49) hx hb dX8_isLow_26 (by decide) h_r10 (fun hc => ?_) (fun hc => ?_)
  · have hv := hv.1 hc
    refine lv_iconst (v := z_i 1) hx hb dX8_isLow_49 rfl ?_
    exact W.zret (v := z_i 1) hx hb hr (by decide) (fun t ht hW => ⟨⟨z_i 1, (), rfl, ⟨1, rfl, (show z_in 1 from ⟨by decide, by decide⟩), hv⟩, trivial⟩, hS.F ht⟩) hS.2.2 dX8_isLow_50
  · have hv := hv.2 hc
    refine lv_iload hx hb dX8_isLow_29 (lv_at hl 0 rfl) ?_
    refine lx_if_le (tgt := 51) hx hb dX8_isLow_31 (by decide) h_v6 (fun hc => ?_) (fun hc => ?_)
    · have hv := hv.1 hc
      refine lv_aload_n hx hb dX8_isLow_51 rfl (lv_at hl 2 rfl) ?_
      refine lv_iload_n hx hb dX8_isLow_52 rfl (lv_at hl 3 rfl) ?_
      refine lv_iload_n hx hb dX8_isLow_53 rfl (lv_at hl 4 rfl) ?_
      refine lv_iload hx hb dX8_isLow_54 (lv_at hl 1 rfl) ?_
      refine lv_iload hx hb dX8_isLow_56 (lv_at hl 7 rfl) ?_
      obtain ⟨hp11, hv⟩ := hv
      obtain ⟨hp12, hv⟩ := hv
      refine va_calli (va_runV (As := [.int (z_i gi), .int (z_i al), .int (z_i v2), .int (z_i rw)]) (rest := []) ⟨hx, hb, hml, hown, hts⟩ (mt_X8_groundAt l D cA y y_space y_offset y_length ya_units y_units ya_isThere y_levels y_level y_lines y_lineLevel y_lineUnits y_lineFrom y_lineMany y_isClosed y_insides y_parent y_isHigh y_inBits y_sides y_side y_sideA y_sideB y_lineSpace y_wasThere y_leads y_isLed y_isOn y_goesTo y_stream y_filled y_isDone y_isReached y_newUnits y_isNew gi al v2 rw h_y_levels h_y_lines h_y_sides h_y_lineSpace h_gi h_al h_v2 h_rw hp11 hp12) (cwV 4 hts gX8_isLow_X8_groundAt rfl rfl rfl (by decide +kernel) ⟨Nat.le_of_ble_eq_true rfl, Nat.le_of_ble_eq_true rfl⟩) ⟨z_bl0, va_recv hK hP (ci := 6) (q0 := 0) rfl rfl, fun U hU hW => ⟨rfl, z_b0 hK (hP.sub (ws' := [(y, .inr (6, [.ref y_space, .ref y_offset, .ref y_length, .ref ya_units, .ref ya_isThere, .int (z_i y_levels), .ref y_level, .int (z_i y_lines), .ref y_lineLevel, .ref y_lineUnits, .ref y_lineFrom, .ref y_lineMany, .ref y_isClosed, .ref y_insides, .ref y_parent, .ref y_isHigh, .ref y_inBits, .int (z_i y_sides), .ref y_side, .ref y_sideA, .ref y_sideB, .int (z_i y_lineSpace), .ref y_wasThere, .ref y_leads, .ref y_isLed, .ref y_isOn, .ref y_goesTo, .ref y_stream, .ref y_filled, .ref y_isDone, .ref y_isReached, .ref y_newUnits, .ref y_isNew])), (ya_units, .inl (cA 1, 5120, .inl y_units))]) [0, 1] rfl) hU hW⟩⟩ rfl rfl hl.1 rfl (lv_room (Nat.le_of_ble_eq_true rfl)) dX8_isLow_58 ⟨Nat.zero_le _, Nat.zero_le _⟩) hS (fun q _ h => h.elim) (fun q h => h.elim) (fun r0 u t H locs ht hvm hw hB hz1 hk1 hS => ?_)
      obtain ⟨r13, rfl, h_r13, hw⟩ := hw
      have hP := z_P_all hP hk1
      have hv := hv r13 h_r13 hw
      refine lx_i2l hx hb dX8_isLow_61 h_r13 ?_
      refine lv_iload hx hb dX8_isLow_62 (lv_at hl 6 rfl) ?_
      refine lv_iload hx hb dX8_isLow_64 (lv_at hl 0 rfl) ?_
      refine lx_isub hx hb dX8_isLow_66 ?_
      obtain ⟨hr14, hv⟩ := hv
      refine lx_i2l hx hb dX8_isLow_67 hr14 ?_
      refine lx_lmul hx hb dX8_isLow_68 ?_
      refine lv_iload hx hb dX8_isLow_69 (lv_at hl 0 rfl) ?_
      refine lx_if_le (tgt := 94) hx hb dX8_isLow_71 (by decide) h_v6 (fun hc => ?_) (fun hc => ?_)
      · have hv := hv.1 hc
        refine lv_lconst (v := z_l 0) hx hb dX8_isLow_94 (by decide) ?_
        refine lx_ladd hx hb dX8_isLow_95 ?_
        obtain ⟨hr16, hv⟩ := hv
        refine lx_topl (fun v15 hy17 => ?_)
        have hv := hv v15 hy17
        have h_v15 : z_nl v15 := by rw [hy17]; exact hr16
        refine lv_lstore (lv' := [(11, .long (z_l v15)), (10, .int (z_i v6)), (9, .int (z_i v2)), (0, .ref y), (1, .int (z_i gi)), (2, .int (z_i al)), (3, .long (z_l pl)), (5, .int (z_i nn)), (6, .int (z_i rw)), (7, .long (z_l li))]) hx hb dX8_isLow_96 hl (by decide) rfl (fun ls hl => ?_)
        refine lv_lload hx hb dX8_isLow_98 (lv_at hl 0 rfl) ?_
        refine lv_lload hx hb dX8_isLow_100 (lv_at hl 9 rfl) ?_
        refine lx_lcmp hx hb dX8_isLow_102 h_v15 h_li ?_
        refine lx_if_gt (tgt := 110) hx hb dX8_isLow_103 (by decide) (z_in_cmp _ _) (fun hc => ?_) (fun hc => ?_)
        · have hv := hv.1 (z_cmp_gt.mp hc)
          refine lv_iconst (v := z_i 0) hx hb dX8_isLow_110 rfl ?_
          exact W.zret (v := z_i 0) hx hb hr (by decide) (fun t ht hW => ⟨⟨z_i 0, (), rfl, ⟨0, rfl, (show z_in 0 from ⟨by decide, by decide⟩), hv⟩, trivial⟩, hS.F ht⟩) hS.2.2 dX8_isLow_111
        · have hv := hv.2 (z_cmp_le.mp hc)
          refine lv_iconst (v := z_i 1) hx hb dX8_isLow_106 rfl ?_
          refine lv_goto (tgt := 111) hx hb dX8_isLow_107 (by decide) ?_
          exact W.zret (v := z_i 1) hx hb hr (by decide) (fun t ht hW => ⟨⟨z_i 1, (), rfl, ⟨1, rfl, (show z_in 1 from ⟨by decide, by decide⟩), hv⟩, trivial⟩, hS.F ht⟩) hS.2.2 dX8_isLow_111
      · have hv := hv.2 hc
        refine lv_aload_n hx hb dX8_isLow_74 rfl (lv_at hl 2 rfl) ?_
        refine lv_iload_n hx hb dX8_isLow_75 rfl (lv_at hl 3 rfl) ?_
        refine lv_iload_n hx hb dX8_isLow_76 rfl (lv_at hl 4 rfl) ?_
        refine lv_iload hx hb dX8_isLow_77 (lv_at hl 1 rfl) ?_
        refine lv_iconst (v := z_i 1) hx hb dX8_isLow_79 rfl ?_
        refine lx_iadd hx hb dX8_isLow_80 ?_
        refine lv_iload hx hb dX8_isLow_81 (lv_at hl 7 rfl) ?_
        obtain ⟨hr18, hv⟩ := hv
        obtain ⟨hp19, hv⟩ := hv
        obtain ⟨hp20, hv⟩ := hv
        refine va_calli (va_runV (As := [.int (z_i gi), .int (z_i al), .int (z_i (v2 + 1)), .int (z_i rw)]) (rest := [.long (z_l (r13 * (nn - v6)))]) ⟨hx, hb, hml, hown, hts⟩ (mt_X8_groundAt l D cA y y_space y_offset y_length ya_units y_units ya_isThere y_levels y_level y_lines y_lineLevel y_lineUnits y_lineFrom y_lineMany y_isClosed y_insides y_parent y_isHigh y_inBits y_sides y_side y_sideA y_sideB y_lineSpace y_wasThere y_leads y_isLed y_isOn y_goesTo y_stream y_filled y_isDone y_isReached y_newUnits y_isNew gi al (v2 + 1) rw h_y_levels h_y_lines h_y_sides h_y_lineSpace h_gi h_al hr18 h_rw hp19 hp20) (cwV 4 hts gX8_isLow_X8_groundAt rfl rfl rfl (by decide +kernel) ⟨Nat.le_of_ble_eq_true rfl, Nat.le_of_ble_eq_true rfl⟩) ⟨z_bl0, va_recv hK hP (ci := 6) (q0 := 0) rfl rfl, fun U hU hW => ⟨rfl, z_b0 hK (hP.sub (ws' := [(y, .inr (6, [.ref y_space, .ref y_offset, .ref y_length, .ref ya_units, .ref ya_isThere, .int (z_i y_levels), .ref y_level, .int (z_i y_lines), .ref y_lineLevel, .ref y_lineUnits, .ref y_lineFrom, .ref y_lineMany, .ref y_isClosed, .ref y_insides, .ref y_parent, .ref y_isHigh, .ref y_inBits, .int (z_i y_sides), .ref y_side, .ref y_sideA, .ref y_sideB, .int (z_i y_lineSpace), .ref y_wasThere, .ref y_leads, .ref y_isLed, .ref y_isOn, .ref y_goesTo, .ref y_stream, .ref y_filled, .ref y_isDone, .ref y_isReached, .ref y_newUnits, .ref y_isNew])), (ya_units, .inl (cA 1, 5120, .inl y_units))]) [0, 1] rfl) hU hW⟩⟩ rfl rfl hl.1 rfl (lv_room (Nat.le_of_ble_eq_true rfl)) dX8_isLow_83 ⟨Nat.zero_le _, Nat.zero_le _⟩) hS (fun q _ h => h.elim) (fun q h => h.elim) (fun r0 u t H locs ht hvm hw hB hz1 hk1 hS => ?_)
        obtain ⟨r21, rfl, h_r21, hw⟩ := hw
        have hP := z_P_all hP hk1
        have hv := hv r21 h_r21 hw
        refine lx_i2l hx hb dX8_isLow_86 h_r21 ?_
        refine lv_iload hx hb dX8_isLow_87 (lv_at hl 0 rfl) ?_
        refine lx_i2l hx hb dX8_isLow_89 h_v6 ?_
        refine lx_lmul hx hb dX8_isLow_90 ?_
        refine lv_goto (tgt := 95) hx hb dX8_isLow_91 (by decide) ?_
        refine lx_ladd hx hb dX8_isLow_95 ?_
        obtain ⟨hr23, hv⟩ := hv
        refine lx_topl (fun v22 hy24 => ?_)
        have hv := hv v22 hy24
        have h_v22 : z_nl v22 := by rw [hy24]; exact hr23
        refine lv_lstore (lv' := [(11, .long (z_l v22)), (10, .int (z_i v6)), (9, .int (z_i v2)), (0, .ref y), (1, .int (z_i gi)), (2, .int (z_i al)), (3, .long (z_l pl)), (5, .int (z_i nn)), (6, .int (z_i rw)), (7, .long (z_l li))]) hx hb dX8_isLow_96 hl (by decide) rfl (fun ls hl => ?_)
        refine lv_lload hx hb dX8_isLow_98 (lv_at hl 0 rfl) ?_
        refine lv_lload hx hb dX8_isLow_100 (lv_at hl 9 rfl) ?_
        refine lx_lcmp hx hb dX8_isLow_102 h_v22 h_li ?_
        refine lx_if_gt (tgt := 110) hx hb dX8_isLow_103 (by decide) (z_in_cmp _ _) (fun hc => ?_) (fun hc => ?_)
        · have hv := hv.1 (z_cmp_gt.mp hc)
          refine lv_iconst (v := z_i 0) hx hb dX8_isLow_110 rfl ?_
          exact W.zret (v := z_i 0) hx hb hr (by decide) (fun t ht hW => ⟨⟨z_i 0, (), rfl, ⟨0, rfl, (show z_in 0 from ⟨by decide, by decide⟩), hv⟩, trivial⟩, hS.F ht⟩) hS.2.2 dX8_isLow_111
        · have hv := hv.2 (z_cmp_le.mp hc)
          refine lv_iconst (v := z_i 1) hx hb dX8_isLow_106 rfl ?_
          refine lv_goto (tgt := 111) hx hb dX8_isLow_107 (by decide) ?_
          exact W.zret (v := z_i 1) hx hb hr (by decide) (fun t ht hW => ⟨⟨z_i 1, (), rfl, ⟨1, rfl, (show z_in 1 from ⟨by decide, by decide⟩), hv⟩, trivial⟩, hS.F ht⟩) hS.2.2 dX8_isLow_111
    · have hv := hv.2 hc
      refine lv_aload_n hx hb dX8_isLow_34 rfl (lv_at hl 2 rfl) ?_
      refine lv_iload_n hx hb dX8_isLow_35 rfl (lv_at hl 3 rfl) ?_
      refine lv_iload_n hx hb dX8_isLow_36 rfl (lv_at hl 4 rfl) ?_
      refine lv_iload hx hb dX8_isLow_37 (lv_at hl 1 rfl) ?_
      refine lv_iconst (v := z_i 1) hx hb dX8_isLow_39 rfl ?_
      refine lx_iadd hx hb dX8_isLow_40 ?_
      refine lv_iload hx hb dX8_isLow_41 (lv_at hl 7 rfl) ?_
      obtain ⟨hr25, hv⟩ := hv
      obtain ⟨hp26, hv⟩ := hv
      refine va_calli (va_runV (As := [.int (z_i gi), .int (z_i al), .int (z_i (v2 + 1)), .int (z_i rw)]) (rest := []) ⟨hx, hb, hml, hown, hts⟩ (mt_X8_ground l D cA y y_space y_offset y_length ya_units ya_isThere y_isThere y_levels y_level y_lines y_lineLevel y_lineUnits y_lineFrom y_lineMany y_isClosed y_insides y_parent y_isHigh y_inBits y_sides y_side y_sideA y_sideB y_lineSpace y_wasThere y_leads y_isLed y_isOn y_goesTo y_stream y_filled y_isDone y_isReached y_newUnits y_isNew gi al (v2 + 1) rw h_y_levels h_y_lines h_y_sides h_y_lineSpace h_gi h_al hr25 h_rw hp26) (cwV 4 hts gX8_isLow_X8_ground rfl rfl rfl (by decide +kernel) ⟨Nat.le_of_ble_eq_true rfl, Nat.le_of_ble_eq_true rfl⟩) ⟨z_bl0, va_recv hK hP (ci := 6) (q0 := 0) rfl rfl, fun U hU hW => ⟨rfl, z_b0 hK (hP.sub (ws' := [(y, .inr (6, [.ref y_space, .ref y_offset, .ref y_length, .ref ya_units, .ref ya_isThere, .int (z_i y_levels), .ref y_level, .int (z_i y_lines), .ref y_lineLevel, .ref y_lineUnits, .ref y_lineFrom, .ref y_lineMany, .ref y_isClosed, .ref y_insides, .ref y_parent, .ref y_isHigh, .ref y_inBits, .int (z_i y_sides), .ref y_side, .ref y_sideA, .ref y_sideB, .int (z_i y_lineSpace), .ref y_wasThere, .ref y_leads, .ref y_isLed, .ref y_isOn, .ref y_goesTo, .ref y_stream, .ref y_filled, .ref y_isDone, .ref y_isReached, .ref y_newUnits, .ref y_isNew])), (ya_isThere, .inl (cA 3, 5120, .inl y_isThere))]) [0, 2] rfl) hU hW⟩⟩ rfl rfl hl.1 rfl (lv_room (Nat.le_of_ble_eq_true rfl)) dX8_isLow_43 ⟨Nat.zero_le _, Nat.zero_le _⟩) hS (fun q _ h => h.elim) (fun q h => h.elim) (fun r0 u t H locs ht hvm hw hB hz1 hk1 hS => ?_)
      obtain ⟨r27, rfl, h_r27, hw⟩ := hw
      have hP := z_P_all hP hk1
      have hv := hv r27 h_r27 hw
      refine lx_if_ne (tgt := 51) hx hb dX8_isLow_46 (by decide) h_r27 (fun hc => ?_) (fun hc => ?_)
      · have hv := hv.1 hc
        refine lv_aload_n hx hb dX8_isLow_51 rfl (lv_at hl 2 rfl) ?_
        refine lv_iload_n hx hb dX8_isLow_52 rfl (lv_at hl 3 rfl) ?_
        refine lv_iload_n hx hb dX8_isLow_53 rfl (lv_at hl 4 rfl) ?_
        refine lv_iload hx hb dX8_isLow_54 (lv_at hl 1 rfl) ?_
        refine lv_iload hx hb dX8_isLow_56 (lv_at hl 7 rfl) ?_
        obtain ⟨hp28, hv⟩ := hv
        obtain ⟨hp29, hv⟩ := hv
        refine va_calli (va_runV (As := [.int (z_i gi), .int (z_i al), .int (z_i v2), .int (z_i rw)]) (rest := []) ⟨hx, hb, hml, hown, hts⟩ (mt_X8_groundAt l D cA y y_space y_offset y_length ya_units y_units ya_isThere y_levels y_level y_lines y_lineLevel y_lineUnits y_lineFrom y_lineMany y_isClosed y_insides y_parent y_isHigh y_inBits y_sides y_side y_sideA y_sideB y_lineSpace y_wasThere y_leads y_isLed y_isOn y_goesTo y_stream y_filled y_isDone y_isReached y_newUnits y_isNew gi al v2 rw h_y_levels h_y_lines h_y_sides h_y_lineSpace h_gi h_al h_v2 h_rw hp28 hp29) (cwV 4 hts gX8_isLow_X8_groundAt rfl rfl rfl (by decide +kernel) ⟨Nat.le_of_ble_eq_true rfl, Nat.le_of_ble_eq_true rfl⟩) ⟨z_bl0, va_recv hK hP (ci := 6) (q0 := 0) rfl rfl, fun U hU hW => ⟨rfl, z_b0 hK (hP.sub (ws' := [(y, .inr (6, [.ref y_space, .ref y_offset, .ref y_length, .ref ya_units, .ref ya_isThere, .int (z_i y_levels), .ref y_level, .int (z_i y_lines), .ref y_lineLevel, .ref y_lineUnits, .ref y_lineFrom, .ref y_lineMany, .ref y_isClosed, .ref y_insides, .ref y_parent, .ref y_isHigh, .ref y_inBits, .int (z_i y_sides), .ref y_side, .ref y_sideA, .ref y_sideB, .int (z_i y_lineSpace), .ref y_wasThere, .ref y_leads, .ref y_isLed, .ref y_isOn, .ref y_goesTo, .ref y_stream, .ref y_filled, .ref y_isDone, .ref y_isReached, .ref y_newUnits, .ref y_isNew])), (ya_units, .inl (cA 1, 5120, .inl y_units))]) [0, 1] rfl) hU hW⟩⟩ rfl rfl hl.1 rfl (lv_room (Nat.le_of_ble_eq_true rfl)) dX8_isLow_58 ⟨Nat.zero_le _, Nat.zero_le _⟩) hS (fun q _ h => h.elim) (fun q h => h.elim) (fun r0 u t H locs ht hvm hw hB hz1 hk1 hS => ?_)
        obtain ⟨r30, rfl, h_r30, hw⟩ := hw
        have hP := z_P_all hP hk1
        have hv := hv r30 h_r30 hw
        refine lx_i2l hx hb dX8_isLow_61 h_r30 ?_
        refine lv_iload hx hb dX8_isLow_62 (lv_at hl 6 rfl) ?_
        refine lv_iload hx hb dX8_isLow_64 (lv_at hl 0 rfl) ?_
        refine lx_isub hx hb dX8_isLow_66 ?_
        obtain ⟨hr31, hv⟩ := hv
        refine lx_i2l hx hb dX8_isLow_67 hr31 ?_
        refine lx_lmul hx hb dX8_isLow_68 ?_
        refine lv_iload hx hb dX8_isLow_69 (lv_at hl 0 rfl) ?_
        refine lx_if_le (tgt := 94) hx hb dX8_isLow_71 (by decide) h_v6 (fun hc => ?_) (fun hc => ?_)
        · have hv := hv.1 hc
          refine lv_lconst (v := z_l 0) hx hb dX8_isLow_94 (by decide) ?_
          refine lx_ladd hx hb dX8_isLow_95 ?_
          obtain ⟨hr33, hv⟩ := hv
          refine lx_topl (fun v32 hy34 => ?_)
          have hv := hv v32 hy34
          have h_v32 : z_nl v32 := by rw [hy34]; exact hr33
          refine lv_lstore (lv' := [(11, .long (z_l v32)), (10, .int (z_i v6)), (9, .int (z_i v2)), (0, .ref y), (1, .int (z_i gi)), (2, .int (z_i al)), (3, .long (z_l pl)), (5, .int (z_i nn)), (6, .int (z_i rw)), (7, .long (z_l li))]) hx hb dX8_isLow_96 hl (by decide) rfl (fun ls hl => ?_)
          refine lv_lload hx hb dX8_isLow_98 (lv_at hl 0 rfl) ?_
          refine lv_lload hx hb dX8_isLow_100 (lv_at hl 9 rfl) ?_
          refine lx_lcmp hx hb dX8_isLow_102 h_v32 h_li ?_
          refine lx_if_gt (tgt := 110) hx hb dX8_isLow_103 (by decide) (z_in_cmp _ _) (fun hc => ?_) (fun hc => ?_)
          · have hv := hv.1 (z_cmp_gt.mp hc)
            refine lv_iconst (v := z_i 0) hx hb dX8_isLow_110 rfl ?_
            exact W.zret (v := z_i 0) hx hb hr (by decide) (fun t ht hW => ⟨⟨z_i 0, (), rfl, ⟨0, rfl, (show z_in 0 from ⟨by decide, by decide⟩), hv⟩, trivial⟩, hS.F ht⟩) hS.2.2 dX8_isLow_111
          · have hv := hv.2 (z_cmp_le.mp hc)
            refine lv_iconst (v := z_i 1) hx hb dX8_isLow_106 rfl ?_
            refine lv_goto (tgt := 111) hx hb dX8_isLow_107 (by decide) ?_
            exact W.zret (v := z_i 1) hx hb hr (by decide) (fun t ht hW => ⟨⟨z_i 1, (), rfl, ⟨1, rfl, (show z_in 1 from ⟨by decide, by decide⟩), hv⟩, trivial⟩, hS.F ht⟩) hS.2.2 dX8_isLow_111
        · have hv := hv.2 hc
          refine lv_aload_n hx hb dX8_isLow_74 rfl (lv_at hl 2 rfl) ?_
          refine lv_iload_n hx hb dX8_isLow_75 rfl (lv_at hl 3 rfl) ?_
          refine lv_iload_n hx hb dX8_isLow_76 rfl (lv_at hl 4 rfl) ?_
          refine lv_iload hx hb dX8_isLow_77 (lv_at hl 1 rfl) ?_
          refine lv_iconst (v := z_i 1) hx hb dX8_isLow_79 rfl ?_
          refine lx_iadd hx hb dX8_isLow_80 ?_
          refine lv_iload hx hb dX8_isLow_81 (lv_at hl 7 rfl) ?_
          obtain ⟨hp35, hv⟩ := hv
          obtain ⟨hp36, hv⟩ := hv
          refine va_calli (va_runV (As := [.int (z_i gi), .int (z_i al), .int (z_i (v2 + 1)), .int (z_i rw)]) (rest := [.long (z_l (r30 * (nn - v6)))]) ⟨hx, hb, hml, hown, hts⟩ (mt_X8_groundAt l D cA y y_space y_offset y_length ya_units y_units ya_isThere y_levels y_level y_lines y_lineLevel y_lineUnits y_lineFrom y_lineMany y_isClosed y_insides y_parent y_isHigh y_inBits y_sides y_side y_sideA y_sideB y_lineSpace y_wasThere y_leads y_isLed y_isOn y_goesTo y_stream y_filled y_isDone y_isReached y_newUnits y_isNew gi al (v2 + 1) rw h_y_levels h_y_lines h_y_sides h_y_lineSpace h_gi h_al hr25 h_rw hp35 hp36) (cwV 4 hts gX8_isLow_X8_groundAt rfl rfl rfl (by decide +kernel) ⟨Nat.le_of_ble_eq_true rfl, Nat.le_of_ble_eq_true rfl⟩) ⟨z_bl0, va_recv hK hP (ci := 6) (q0 := 0) rfl rfl, fun U hU hW => ⟨rfl, z_b0 hK (hP.sub (ws' := [(y, .inr (6, [.ref y_space, .ref y_offset, .ref y_length, .ref ya_units, .ref ya_isThere, .int (z_i y_levels), .ref y_level, .int (z_i y_lines), .ref y_lineLevel, .ref y_lineUnits, .ref y_lineFrom, .ref y_lineMany, .ref y_isClosed, .ref y_insides, .ref y_parent, .ref y_isHigh, .ref y_inBits, .int (z_i y_sides), .ref y_side, .ref y_sideA, .ref y_sideB, .int (z_i y_lineSpace), .ref y_wasThere, .ref y_leads, .ref y_isLed, .ref y_isOn, .ref y_goesTo, .ref y_stream, .ref y_filled, .ref y_isDone, .ref y_isReached, .ref y_newUnits, .ref y_isNew])), (ya_units, .inl (cA 1, 5120, .inl y_units))]) [0, 1] rfl) hU hW⟩⟩ rfl rfl hl.1 rfl (lv_room (Nat.le_of_ble_eq_true rfl)) dX8_isLow_83 ⟨Nat.zero_le _, Nat.zero_le _⟩) hS (fun q _ h => h.elim) (fun q h => h.elim) (fun r0 u t H locs ht hvm hw hB hz1 hk1 hS => ?_)
          obtain ⟨r37, rfl, h_r37, hw⟩ := hw
          have hP := z_P_all hP hk1
          have hv := hv r37 h_r37 hw
          refine lx_i2l hx hb dX8_isLow_86 h_r37 ?_
          refine lv_iload hx hb dX8_isLow_87 (lv_at hl 0 rfl) ?_
          refine lx_i2l hx hb dX8_isLow_89 h_v6 ?_
          refine lx_lmul hx hb dX8_isLow_90 ?_
          refine lv_goto (tgt := 95) hx hb dX8_isLow_91 (by decide) ?_
          refine lx_ladd hx hb dX8_isLow_95 ?_
          obtain ⟨hr39, hv⟩ := hv
          refine lx_topl (fun v38 hy40 => ?_)
          have hv := hv v38 hy40
          have h_v38 : z_nl v38 := by rw [hy40]; exact hr39
          refine lv_lstore (lv' := [(11, .long (z_l v38)), (10, .int (z_i v6)), (9, .int (z_i v2)), (0, .ref y), (1, .int (z_i gi)), (2, .int (z_i al)), (3, .long (z_l pl)), (5, .int (z_i nn)), (6, .int (z_i rw)), (7, .long (z_l li))]) hx hb dX8_isLow_96 hl (by decide) rfl (fun ls hl => ?_)
          refine lv_lload hx hb dX8_isLow_98 (lv_at hl 0 rfl) ?_
          refine lv_lload hx hb dX8_isLow_100 (lv_at hl 9 rfl) ?_
          refine lx_lcmp hx hb dX8_isLow_102 h_v38 h_li ?_
          refine lx_if_gt (tgt := 110) hx hb dX8_isLow_103 (by decide) (z_in_cmp _ _) (fun hc => ?_) (fun hc => ?_)
          · have hv := hv.1 (z_cmp_gt.mp hc)
            refine lv_iconst (v := z_i 0) hx hb dX8_isLow_110 rfl ?_
            exact W.zret (v := z_i 0) hx hb hr (by decide) (fun t ht hW => ⟨⟨z_i 0, (), rfl, ⟨0, rfl, (show z_in 0 from ⟨by decide, by decide⟩), hv⟩, trivial⟩, hS.F ht⟩) hS.2.2 dX8_isLow_111
          · have hv := hv.2 (z_cmp_le.mp hc)
            refine lv_iconst (v := z_i 1) hx hb dX8_isLow_106 rfl ?_
            refine lv_goto (tgt := 111) hx hb dX8_isLow_107 (by decide) ?_
            exact W.zret (v := z_i 1) hx hb hr (by decide) (fun t ht hW => ⟨⟨z_i 1, (), rfl, ⟨1, rfl, (show z_in 1 from ⟨by decide, by decide⟩), hv⟩, trivial⟩, hS.F ht⟩) hS.2.2 dX8_isLow_111
      · have hv := hv.2 hc
        refine lv_iconst (v := z_i 1) hx hb dX8_isLow_49 rfl ?_
        exact W.zret (v := z_i 1) hx hb hr (by decide) (fun t ht hW => ⟨⟨z_i 1, (), rfl, ⟨1, rfl, (show z_in 1 from ⟨by decide, by decide⟩), hv⟩, trivial⟩, hS.F ht⟩) hS.2.2 dX8_isLow_50
set_option maxHeartbeats 4000000 in
set_option maxRecDepth 100000 in
theorem mt_X8_isLow (l : Launch) (D : va_G) (cA : Nat → ClassId) (y : Nat) (y_space : Nat) (y_offset : Nat) (y_length : Nat) (ya_units : Nat) (y_units : Nat → Int32) (ya_isThere : Nat) (y_isThere : Nat → Int32) (y_levels : Int) (y_level : Nat) (y_lines : Int) (y_lineLevel : Nat) (y_lineUnits : Nat) (y_lineFrom : Nat) (y_lineMany : Nat) (y_isClosed : Nat) (y_insides : Nat) (y_parent : Nat) (y_isHigh : Nat) (y_inBits : Nat) (y_sides : Int) (y_side : Nat) (y_sideA : Nat) (y_sideB : Nat) (y_lineSpace : Int) (y_wasThere : Nat) (y_leads : Nat) (y_isLed : Nat) (y_isOn : Nat) (y_goesTo : Nat) (y_stream : Nat) (y_filled : Nat) (y_isDone : Nat) (y_isReached : Nat) (y_newUnits : Nat) (y_isNew : Nat) (gi : Int) (al : Int) (pl : Int) (nn : Int) (rw : Int) (li : Int) (h_y_levels : z_in y_levels) (h_y_lines : z_in y_lines) (h_y_sides : z_in y_sides) (h_y_lineSpace : z_in y_lineSpace) (h_gi : z_in gi) (h_al : z_in al) (h_pl : z_nl pl) (h_nn : z_in nn) (h_rw : z_in rw) (h_li : z_nl li) (hp1 : 0 ≤ gi ∧ gi < 4) (hp2 : q_bd y_units) (hp3 : 0 ≤ pl ∧ pl ≤ 4000) (hp4 : 1 ≤ nn ∧ nn ≤ 40) : Met l yX8_isLow wsX8_isLow ({ frames := 3, cells := 0, slots := 0, locals := 69 } : Room) (va_Pc [.ref y, .int (z_i gi), .int (z_i al), .long (z_l pl), .int (z_i nn), .int (z_i rw), .long (z_l li)] (z_B0 D cA [(y, .inr (6, [.ref y_space, .ref y_offset, .ref y_length, .ref ya_units, .ref ya_isThere, .int (z_i y_levels), .ref y_level, .int (z_i y_lines), .ref y_lineLevel, .ref y_lineUnits, .ref y_lineFrom, .ref y_lineMany, .ref y_isClosed, .ref y_insides, .ref y_parent, .ref y_isHigh, .ref y_inBits, .int (z_i y_sides), .ref y_side, .ref y_sideA, .ref y_sideB, .int (z_i y_lineSpace), .ref y_wasThere, .ref y_leads, .ref y_isLed, .ref y_isOn, .ref y_goesTo, .ref y_stream, .ref y_filled, .ref y_isDone, .ref y_isReached, .ref y_newUnits, .ref y_isNew])), (ya_units, .inl (cA 1, 5120, .inl y_units)), (ya_isThere, .inl (cA 3, 5120, .inl y_isThere))])) (va_Qi (z_ri (fun (r : Int) => (r = 0 ∧ e_hi (q_th y_isThere gi) (q_at y_units y_isThere gi) al pl nn rw li) ∨ (r = 1 ∧ ¬ e_hi (q_th y_isThere gi) (q_at y_units y_isThere gi) al pl nn rw li))) (fun _ _ => True) (fun _ => False)) 0 0 (fun _ => False) := by
  refine wk_X8_isLow l D cA y y_space y_offset y_length ya_units y_units ya_isThere y_isThere y_levels y_level y_lines y_lineLevel y_lineUnits y_lineFrom y_lineMany y_isClosed y_insides y_parent y_isHigh y_inBits y_sides y_side y_sideA y_sideB y_lineSpace y_wasThere y_leads y_isLed y_isOn y_goesTo y_stream y_filled y_isDone y_isReached y_newUnits y_isNew gi al pl nn rw li h_y_levels h_y_lines h_y_sides h_y_lineSpace h_gi h_al h_pl h_nn h_rw h_li (fun (r : Int) => (r = 0 ∧ e_hi (q_th y_isThere gi) (q_at y_units y_isThere gi) al pl nn rw li) ∨ (r = 1 ∧ ¬ e_hi (q_th y_isThere gi) (q_at y_units y_isThere gi) al pl nn rw li)) ?_
  unfold vc_X8_isLow
  have hU : ∀ p, (q_th y_isThere gi) p = true → -8388608 ≤ (q_at y_units y_isThere gi) p ∧ (q_at y_units y_isThere gi) p ≤ 8388608 := fun p hp => q_bd_at hp2 hp1.1 hp1.2 hp
  have t1 : pl.tdiv nn = pl / nn := Int.tdiv_eq_ediv_of_nonneg hp3.1
  have t2 : pl.tmod nn = pl % nn := Int.tmod_eq_emod_of_nonneg hp3.1
  have d0 : 0 ≤ pl / nn := Int.ediv_nonneg hp3.1 (by omega)
  have d1 : pl / nn ≤ pl := Int.ediv_le_self _ hp3.1
  have d4 := Int.emod_nonneg pl (show nn ≠ 0 by omega)
  have d5 := Int.emod_lt_of_pos pl (show 0 < nn by omega)
  have dm := Int.mul_ediv_add_emod pl nn
  have hhi : (pl + nn - 1) / nn = if pl % nn = 0 then pl / nn else pl / nn + 1 := by
    have e : pl + nn - 1 = (pl % nn + nn - 1) + nn * (pl / nn) := by omega
    rw [e, Int.add_mul_ediv_left _ _ (by omega)]
    split
    · next h => rw [h, Int.ediv_eq_zero_of_lt (by omega) (by omega)]; omega
    · have e2 : pl % nn + nn - 1 = (pl % nn - 1) + nn * 1 := by omega
      rw [e2, Int.add_mul_ediv_left _ _ (by omega), Int.ediv_eq_zero_of_lt (by omega) (by omega)]; omega
  unfold e_hi
  rw [hhi, t1, t2]
  revert dm hhi
  generalize pl / nn = v at *
  generalize pl % nn = w at *
  intro dm hhi
  refine ⟨by omega, ⟨by omega, by omega⟩, ?_⟩
  rintro v2 rfl
  refine ⟨by omega, ⟨by omega, by omega⟩, ?_⟩
  rintro v6 rfl
  refine ⟨hp1, ?_⟩
  rintro r10 _ rfl
  refine ⟨fun q => Or.inr ⟨rfl, fun h => of_decide_eq_false (zb_f q) h.1⟩, fun q => ?_⟩
  have q := of_decide_eq_true (zb_t q)
  have l1 := @e_no_v y_units y_isThere gi al v2 rw q
  have u1 := hU _ (e_no_th q)
  have m1 := z_mb (b := nn - v6) (B := 40) u1.1 u1.2 (by omega) (by omega)
  refine ⟨fun q1 => ⟨hp1, l1.1, ?_⟩, fun q1 => ⟨⟨by omega, by omega⟩, hp1, ?_⟩⟩
  · obtain rfl : v6 = 0 := by omega
    rintro r13 _ h13
    rw [← l1.2] at h13
    rw [← h13] at m1
    refine ⟨⟨by omega, by omega⟩, fun _ => ⟨⟨by omega, by omega⟩, ?_⟩, fun h => absurd h (by omega)⟩
    rintro v15 rfl
    rw [if_pos rfl, ← h13, Int.mul_zero]
    exact ⟨fun h => Or.inl ⟨rfl, q, q, h⟩, fun h => Or.inr ⟨rfl, fun h2 => by have := h2.2.2; omega⟩⟩
  · rw [if_neg (show ¬ v6 = 0 by omega)]
    rintro r27 _ rfl
    refine ⟨fun q2 => ⟨hp1, l1.1, ?_⟩, fun q2 => Or.inr ⟨rfl, fun h => of_decide_eq_false (zb_f q2) h.2.1⟩⟩
    have q2 := of_decide_eq_true (zb_t q2)
    have l2 := @e_no_v y_units y_isThere gi al (v2 + 1) rw q2
    have u2 := hU _ (e_no_th q2)
    have m2 := z_mb (b := v6) (B := 40) u2.1 u2.2 (by omega) (by omega)
    rintro r30 _ h30
    rw [← l1.2] at h30
    rw [← h30] at m1
    refine ⟨⟨by omega, by omega⟩, fun h => absurd h (by omega), fun _ => ⟨hp1, l2.1, ?_⟩⟩
    rintro r37 _ h37
    rw [← l2.2] at h37
    rw [← h37] at m2
    refine ⟨⟨by omega, by omega⟩, ?_⟩
    rintro v38 rfl
    rw [← h30, ← h37]
    exact ⟨fun h => Or.inl ⟨rfl, q, q2, h⟩, fun h => Or.inr ⟨rfl, fun h2 => by have := h2.2.2; omega⟩⟩
