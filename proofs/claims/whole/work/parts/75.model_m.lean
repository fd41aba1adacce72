def vc_Jxf58ca_isNaN_12338 (x : UInt32) (Q : Int → Prop) : Prop :=
((z_fc x x .l = 0 → Q 0) ∧
(z_fc x x .l ≠ 0 → Q 1))
set_option maxHeartbeats 4000000 in
set_option maxRecDepth 100000 in
theorem wk_Jxf58ca_isNaN_12338 (l : Launch) (D : va_G) (cA : Nat → ClassId) (x : UInt32)  (Q : Int → Prop) (hv : vc_Jxf58ca_isNaN_12338 x Q) : Met l yJxf58ca_isNaN_12338 wsJxf58ca_isNaN_12338 ({ frames := 0, cells := 0, slots := 0, locals := 0 } : Room) (va_Pc [.float x] (z_B0 D cA [])) (va_Qi (z_ri Q) (fun _ _ => True) (fun _ => False)) 0 0 (fun _ => False) := by
  unfold vc_Jxf58ca_isNaN_12338 at hv
  refine va_MetF (cc := cJxf58ca_isNaN_12338) (maxL := 1) (ret := (some .boolean)) (by decide +kernel) rfl ?_
  intro p e s m args below meth c s₁ B hml hv0
  obtain ⟨rfl, hK, hP⟩ := hv0
  have hx := B.exec
  have hb := B.bytes
  have hr := B.returns
  have hts := atoms_spec (ws := wsJxf58ca_isNaN_12338) B.pre
  have hown : s.vm.findClass RJxf58ca = some m.cls := findClass_of_methodNamed B.named
  have hlocks := B.notSynchronized
  have hS : va_S (fun _ : Nat => False) s.heap s.heap [] := va_S.rf
  have hl := lv_entry ([.float x]) (n := 1) (Nat.le_of_ble_eq_true rfl)
  rw [lg_entry_eq]
  generalize (lg_sl ([.float x]) ++ List.replicate (1 - (lg_sl ([.float x])).length) Slot.unset).toArray = ls at hl ⊢
  have hl : lv_has ls 1 [(0, .float x)] := hl
  refine lv_fload_n hx hb dJxf58ca_isNaN_12338_0 rfl (lv_at hl 0 rfl) ?_
  refine lv_fload_n hx hb dJxf58ca_isNaN_12338_1 rfl (lv_at hl 0 rfl) ?_
  refine lx_fcmp hx hb dJxf58ca_isNaN_12338_2 ?_
  refine lx_if_eq (tgt := 10) hx hb dJxf58ca_isNaN_12338_3 (by decide) (z_in_of _) (fun hc => ?_) (fun hc => ?_)
  · have hv := hv.1 hc
    refine lv_iconst (v := z_i 0) hx hb dJxf58ca_isNaN_12338_10 rfl ?_
    exact W.zret (v := z_i 0) hx hb hr (by decide) (fun t ht hW => ⟨⟨z_i 0, (), rfl, ⟨0, rfl, (show z_in 0 from ⟨by decide, by decide⟩), hv⟩, trivial⟩, hS.F ht⟩) hS.2.2 dJxf58ca_isNaN_12338_11
  · have hv := hv.2 hc
    refine lv_iconst (v := z_i 1) hx hb dJxf58ca_isNaN_12338_6 rfl ?_
    refine lv_goto (tgt := 11) hx hb dJxf58ca_isNaN_12338_7 (by decide) ?_
    exact W.zret (v := z_i 1) hx hb hr (by decide) (fun t ht hW => ⟨⟨z_i 1, (), rfl, ⟨1, rfl, (show z_in 1 from ⟨by decide, by decide⟩), hv⟩, trivial⟩, hS.F ht⟩) hS.2.2 dJxf58ca_isNaN_12338_11
set_option maxHeartbeats 4000000 in
set_option maxRecDepth 100000 in
theorem mt_Jxf58ca_isNaN_12338 (l : Launch) (D : va_G) (cA : Nat → ClassId) (x : UInt32)   : Met l yJxf58ca_isNaN_12338 wsJxf58ca_isNaN_12338 ({ frames := 0, cells := 0, slots := 0, locals := 0 } : Room) (va_Pc [.float x] (z_B0 D cA [])) (va_Qi (z_ri (fun (r : Int) => r = if z_fc x x .l = 0 then 0 else 1)) (fun _ _ => True) (fun _ => False)) 0 0 (fun _ => False) := by
  refine wk_Jxf58ca_isNaN_12338 l D cA x  (fun (r : Int) => r = if z_fc x x .l = 0 then 0 else 1) ?_
  unfold vc_Jxf58ca_isNaN_12338
  refine ⟨fun h => (if_pos h).symm, fun h => (if_neg h).symm⟩
def vc_Jxf58ca_floatToIntBits_5c35a (x : UInt32) (Q : Int → Prop) : Prop :=
(∀ (r1 : Int), z_in r1 → (r1 = if z_fc x x .l = 0 then 0 else 1) → ((r1 ≠ 0 → Q 2143289344) ∧
(r1 = 0 → Q (z_fb x))))
set_option maxHeartbeats 4000000 in
set_option maxRecDepth 100000 in
theorem wk_Jxf58ca_floatToIntBits_5c35a (l : Launch) (D : va_G) (cA : Nat → ClassId) (x : UInt32)  (Q : Int → Prop) (hv : vc_Jxf58ca_floatToIntBits_5c35a x Q) : Met l yJxf58ca_floatToIntBits_5c35a wsJxf58ca_floatToIntBits_5c35a ({ frames := 1, cells := 0, slots := 0, locals := 20 } : Room) (va_Pc [.float x] (z_B0 D cA [])) (va_Qi (z_ri Q) (fun _ _ => True) (fun _ => False)) 0 0 (fun _ => False) := by
  unfold vc_Jxf58ca_floatToIntBits_5c35a at hv
  refine va_MetF (cc := cJxf58ca_floatToIntBits_5c35a) (maxL := 1) (ret := (some .int)) (by decide +kernel) rfl ?_
  intro p e s m args below meth c s₁ B hml hv0
  obtain ⟨rfl, hK, hP⟩ := hv0
  have hx := B.exec
  have hb := B.bytes
  have hr := B.returns
  have hts := atoms_spec (ws := wsJxf58ca_floatToIntBits_5c35a) B.pre
  have hown : s.vm.findClass RJxf58ca = some m.cls := findClass_of_methodNamed B.named
  have hlocks := B.notSynchronized
  have hS : va_S (fun _ : Nat => False) s.heap s.heap [] := va_S.rf
  have hl := lv_entry ([.float x]) (n := 1) (Nat.le_of_ble_eq_true rfl)
  rw [lg_entry_eq]
  generalize (lg_sl ([.float x]) ++ List.replicate (1 - (lg_sl ([.float x])).length) Slot.unset).toArray = ls at hl ⊢
  have hl : lv_has ls 1 [(0, .float x)] := hl
  refine lv_fload_n hx hb dJxf58ca_floatToIntBits_5c35a_0 rfl (lv_at hl 0 rfl) ?_
  refine va_calli (va_runS (As := [.float x]) (rest := []) ⟨hx, hb, hml, hown, hts⟩ (mt_Jxf58ca_isNaN_12338 l D cA x) (va_cwS 1 hts gJxf58ca_floatToIntBits_5c35a_Jxf58ca_isNaN_12338 rfl rfl rfl (by decide +kernel) ⟨Nat.le_of_ble_eq_true rfl, Nat.le_of_ble_eq_true rfl⟩) ⟨z_bl0, fun U hU hW => ⟨rfl, z_b0 hK hP hU hW⟩⟩ rfl rfl hl.1 rfl (lv_room (Nat.le_of_ble_eq_true rfl)) dJxf58ca_floatToIntBits_5c35a_1 ⟨Nat.zero_le _, Nat.zero_le _⟩) hS (fun q _ h => h.elim) (fun q h => h.elim) (fun r0 u t H locs ht hvm hw hB hz1 hk1 hS => ?_)
  obtain ⟨r1, rfl, h_r1, hw⟩ := hw
  have hP := z_P_all hP hk1
  have hv := hv r1 h_r1 hw
  refine lx_if_ne (tgt := 12) hx hb dJxf58ca_floatToIntBits_5c35a_4 (by decide) h_r1 (fun hc => ?_) (fun hc => ?_)
  · have hv := hv.1 hc
    refine lx_ldc (a := 2143289344) hx hb hown (hts (.constant RJxf58ca 77 (2143289344)) (by decide +kernel)) (by decide) dJxf58ca_floatToIntBits_5c35a_12 ?_
    exact W.iret (v := z_i 2143289344) hx hb hr (fun t ht hW => ⟨⟨z_i 2143289344, (), rfl, ⟨2143289344, rfl, (show z_in 2143289344 from ⟨by decide, by decide⟩), hv⟩, trivial⟩, hS.F ht⟩) hS.2.2 dJxf58ca_floatToIntBits_5c35a_14
  · have hv := hv.2 hc
    refine lv_fload_n hx hb dJxf58ca_floatToIntBits_5c35a_7 rfl (lv_at hl 0 rfl) ?_
    refine vx_f2i hx hb (hml.trans hl.1.symm) hown (hts (.methodLink RJxf58ca 74 ⟨"java/lang/Float", "floatToRawIntBits", "(F)I"⟩) (by decide +kernel)) (hts (.native ⟨"java/lang/Float", "floatToRawIntBits", "(F)I"⟩) (by decide +kernel)) (hts (.static ⟨"java/lang/Float", "floatToRawIntBits", "(F)I"⟩) (by decide +kernel)) (hts (.initialized "java/lang/Float") (by decide +kernel)) (Nat.le_of_ble_eq_true rfl) (Nat.le_of_ble_eq_true rfl) dJxf58ca_floatToIntBits_5c35a_8 ?_
    exact W.iret (v := z_i (z_fb x)) hx hb hr (fun t ht hW => ⟨⟨z_i (z_fb x), (), rfl, ⟨z_fb x, rfl, (z_in_of _), hv⟩, trivial⟩, hS.F ht⟩) hS.2.2 dJxf58ca_floatToIntBits_5c35a_11
set_option maxHeartbeats 4000000 in
set_option maxRecDepth 100000 in
theorem mt_Jxf58ca_floatToIntBits_5c35a (l : Launch) (D : va_G) (cA : Nat → ClassId) (x : UInt32)  (hp1 : z_fc x x .l = 0) : Met l yJxf58ca_floatToIntBits_5c35a wsJxf58ca_floatToIntBits_5c35a ({ frames := 1, cells := 0, slots := 0, locals := 20 } : Room) (va_Pc [.float x] (z_B0 D cA [])) (va_Qi (z_ri (fun (r : Int) => r = z_fb x)) (fun _ _ => True) (fun _ => False)) 0 0 (fun _ => False) := by
  refine wk_Jxf58ca_floatToIntBits_5c35a l D cA x  (fun (r : Int) => r = z_fb x) ?_
  unfold vc_Jxf58ca_floatToIntBits_5c35a
  intro r1 _ h1
  rw [if_pos hp1] at h1
  exact ⟨fun h => absurd h1 h, fun _ => rfl⟩
def vc_Jxe99ae_isNaN_b9ae7 (x : UInt64) (Q : Int → Prop) : Prop :=
((z_dc x x .l = 0 → Q 0) ∧
(z_dc x x .l ≠ 0 → Q 1))
set_option maxHeartbeats 4000000 in
set_option maxRecDepth 100000 in
theorem wk_Jxe99ae_isNaN_b9ae7 (l : Launch) (D : va_G) (cA : Nat → ClassId) (x : UInt64)  (Q : Int → Prop) (hv : vc_Jxe99ae_isNaN_b9ae7 x Q) : Met l yJxe99ae_isNaN_b9ae7 wsJxe99ae_isNaN_b9ae7 ({ frames := 0, cells := 0, slots := 0, locals := 0 } : Room) (va_Pc [.double x] (z_B0 D cA [])) (va_Qi (z_ri Q) (fun _ _ => True) (fun _ => False)) 0 0 (fun _ => False) := by
  unfold vc_Jxe99ae_isNaN_b9ae7 at hv
  refine Met.ofW (cc := cJxe99ae_isNaN_b9ae7) (maxL := 2) (ret := (some .boolean)) (by decide +kernel) rfl ?_
  intro p e s m args below meth c s₁ B hml hv0
  obtain ⟨rfl, hK, hP⟩ := hv0
  have hx := B.exec
  have hb := B.bytes
  have hr := B.returns
  have hts := atoms_spec (ws := wsJxe99ae_isNaN_b9ae7) B.pre
  have hown : s.vm.findClass RJxe99ae = some m.cls := findClass_of_methodNamed B.named
  have hlocks := B.notSynchronized
  have hS : va_S (fun _ : Nat => False) s.heap s.heap [] := va_S.rf
  have hl := lv_entry ([.double x]) (n := 2) (Nat.le_of_ble_eq_true rfl)
  rw [lg_entry_eq]
  generalize (lg_sl ([.double x]) ++ List.replicate (2 - (lg_sl ([.double x])).length) Slot.unset).toArray = ls at hl ⊢
  have hl : lv_has ls 2 [(0, .double x)] := hl
  refine lv_dload_n hx hb dJxe99ae_isNaN_b9ae7_0 rfl (lv_at hl 0 rfl) ?_
  refine lv_dload_n hx hb dJxe99ae_isNaN_b9ae7_1 rfl (lv_at hl 0 rfl) ?_
  refine lx_dcmp hx hb dJxe99ae_isNaN_b9ae7_2 ?_
  refine lx_if_eq (tgt := 10) hx hb dJxe99ae_isNaN_b9ae7_3 (by decide) (z_in_of _) (fun hc => ?_) (fun hc => ?_)
  · have hv := hv.1 hc
    refine lv_iconst (v := z_i 0) hx hb dJxe99ae_isNaN_b9ae7_10 rfl ?_
    exact W.zret (v := z_i 0) hx hb hr (by decide) (fun t ht hW => ⟨⟨z_i 0, (), rfl, ⟨0, rfl, (show z_in 0 from ⟨by decide, by decide⟩), hv⟩, trivial⟩, hS.F ht⟩) hS.2.2 dJxe99ae_isNaN_b9ae7_11
  · have hv := hv.2 hc
    refine lv_iconst (v := z_i 1) hx hb dJxe99ae_isNaN_b9ae7_6 rfl ?_
    refine lv_goto (tgt := 11) hx hb dJxe99ae_isNaN_b9ae7_7 (by decide) ?_
    exact W.zret (v := z_i 1) hx hb hr (by decide) (fun t ht hW => ⟨⟨z_i 1, (), rfl, ⟨1, rfl, (show z_in 1 from ⟨by decide, by decide⟩), hv⟩, trivial⟩, hS.F ht⟩) hS.2.2 dJxe99ae_isNaN_b9ae7_11
set_option maxHeartbeats 4000000 in
set_option maxRecDepth 100000 in
theorem mt_Jxe99ae_isNaN_b9ae7 (l : Launch) (D : va_G) (cA : Nat → ClassId) (x : UInt64)   : Met l yJxe99ae_isNaN_b9ae7 wsJxe99ae_isNaN_b9ae7 ({ frames := 0, cells := 0, slots := 0, locals := 0 } : Room) (va_Pc [.double x] (z_B0 D cA [])) (va_Qi (z_ri (fun (r : Int) => r = if z_dc x x .l = 0 then 0 else 1)) (fun _ _ => True) (fun _ => False)) 0 0 (fun _ => False) := by
  refine wk_Jxe99ae_isNaN_b9ae7 l D cA x  (fun (r : Int) => r = if z_dc x x .l = 0 then 0 else 1) ?_
  unfold vc_Jxe99ae_isNaN_b9ae7
  refine ⟨fun h => (if_pos h).symm, fun h => (if_neg h).symm⟩
def vc_Jxe99ae_doubleToLongBits_ccdee (x : UInt64) (Q : Int → Prop) : Prop :=
(∀ (r1 : Int), z_in r1 → (r1 = if z_dc x x .l = 0 then 0 else 1) → ((r1 ≠ 0 → Q 9221120237041090560) ∧
(r1 = 0 → Q (z_db x))))
set_option maxHeartbeats 4000000 in
set_option maxRecDepth 100000 in
theorem wk_Jxe99ae_doubleToLongBits_ccdee (l : Launch) (D : va_G) (cA : Nat → ClassId) (x : UInt64)  (Q : Int → Prop) (hv : vc_Jxe99ae_doubleToLongBits_ccdee x Q) : Met l yJxe99ae_doubleToLongBits_ccdee wsJxe99ae_doubleToLongBits_ccdee ({ frames := 1, cells := 0, slots := 0, locals := 21 } : Room) (va_Pc [.double x] (z_B0 D cA [])) (va_Ql (z_rl Q) (fun _ _ => True) (fun _ => False)) 0 0 (fun _ => False) := by
  unfold vc_Jxe99ae_doubleToLongBits_ccdee at hv
  refine Met.ofW (cc := cJxe99ae_doubleToLongBits_ccdee) (maxL := 2) (ret := (some .long)) (by decide +kernel) rfl ?_
  intro p e s m args below meth c s₁ B hml hv0
  obtain ⟨rfl, hK, hP⟩ := hv0
  have hx := B.exec
  have hb := B.bytes
  have hr := B.returns
  have hts := atoms_spec (ws := wsJxe99ae_doubleToLongBits_ccdee) B.pre
  have hown : s.vm.findClass RJxe99ae = some m.cls := findClass_of_methodNamed B.named
  have hlocks := B.notSynchronized
  have hS : va_S (fun _ : Nat => False) s.heap s.heap [] := va_S.rf
  have hl := lv_entry ([.double x]) (n := 2) (Nat.le_of_ble_eq_true rfl)
  rw [lg_entry_eq]
  generalize (lg_sl ([.double x]) ++ List.replicate (2 - (lg_sl ([.double x])).length) Slot.unset).toArray = ls at hl ⊢
  have hl : lv_has ls 2 [(0, .double x)] := hl
  refine lv_dload_n hx hb dJxe99ae_doubleToLongBits_ccdee_0 rfl (lv_at hl 0 rfl) ?_
  refine va_calli (va_runS (As := [.double x]) (rest := []) ⟨hx, hb, hml, hown, hts⟩ (mt_Jxe99ae_isNaN_b9ae7 l D cA x) (va_cwS 1 hts gJxe99ae_doubleToLongBits_ccdee_Jxe99ae_isNaN_b9ae7 rfl rfl rfl (by decide +kernel) ⟨Nat.le_of_ble_eq_true rfl, Nat.le_of_ble_eq_true rfl⟩) ⟨z_bl0, fun U hU hW => ⟨rfl, z_b0 hK hP hU hW⟩⟩ rfl rfl hl.1 rfl (lv_room (Nat.le_of_ble_eq_true rfl)) dJxe99ae_doubleToLongBits_ccdee_1 ⟨Nat.zero_le _, Nat.zero_le _⟩) hS (fun q _ h => h.elim) (fun q h => h.elim) (fun r0 u t H locs ht hvm hw hB hz1 hk1 hS => ?_)
  obtain ⟨r1, rfl, h_r1, hw⟩ := hw
  have hP := z_P_all hP hk1
  have hv := hv r1 h_r1 hw
  refine lx_if_ne (tgt := 12) hx hb dJxe99ae_doubleToLongBits_ccdee_4 (by decide) h_r1 (fun hc => ?_) (fun hc => ?_)
  · have hv := hv.1 hc
    refine lx_ldc2 (a := 9221120237041090560) hx hb hown (hts (.constantLong RJxe99ae 137 (9221120237041090560)) (by decide +kernel)) (by decide) dJxe99ae_doubleToLongBits_ccdee_12 ?_
    exact W.lret (v := z_l 9221120237041090560) hx hb hr (fun t ht hW => ⟨⟨z_l 9221120237041090560, (), rfl, ⟨9221120237041090560, rfl, (show z_nl 9221120237041090560 from ⟨by decide, by decide⟩), hv⟩, trivial⟩, hS.F ht⟩) hS.2.2 dJxe99ae_doubleToLongBits_ccdee_15
  · have hv := hv.2 hc
    refine lv_dload_n hx hb dJxe99ae_doubleToLongBits_ccdee_7 rfl (lv_at hl 0 rfl) ?_
    refine vx_d2l hx hb (hml.trans hl.1.symm) hown (hts (.methodLink RJxe99ae 134 ⟨"java/lang/Double", "doubleToRawLongBits", "(D)J"⟩) (by decide +kernel)) (hts (.native ⟨"java/lang/Double", "doubleToRawLongBits", "(D)J"⟩) (by decide +kernel)) (hts (.static ⟨"java/lang/Double", "doubleToRawLongBits", "(D)J"⟩) (by decide +kernel)) (hts (.initialized "java/lang/Double") (by decide +kernel)) (Nat.le_of_ble_eq_true rfl) (Nat.le_of_ble_eq_true rfl) dJxe99ae_doubleToLongBits_ccdee_8 ?_
    exact W.lret (v := z_l (z_db x)) hx hb hr (fun t ht hW => ⟨⟨z_l (z_db x), (), rfl, ⟨z_db x, rfl, (z_nl_of _), hv⟩, trivial⟩, hS.F ht⟩) hS.2.2 dJxe99ae_doubleToLongBits_ccdee_11
set_option maxHeartbeats 4000000 in
set_option maxRecDepth 100000 in
theorem mt_Jxe99ae_doubleToLongBits_ccdee (l : Launch) (D : va_G) (cA : Nat → ClassId) (x : UInt64)  (hp1 : z_dc x x .l = 0) : Met l yJxe99ae_doubleToLongBits_ccdee wsJxe99ae_doubleToLongBits_ccdee ({ frames := 1, cells := 0, slots := 0, locals := 21 } : Room) (va_Pc [.double x] (z_B0 D cA [])) (va_Ql (z_rl (fun (r : Int) => r = z_db x)) (fun _ _ => True) (fun _ => False)) 0 0 (fun _ => False) := by
  refine wk_Jxe99ae_doubleToLongBits_ccdee l D cA x  (fun (r : Int) => r = z_db x) ?_
  unfold vc_Jxe99ae_doubleToLongBits_ccdee
  intro r1 _ h1
  rw [if_pos hp1] at h1
  exact ⟨fun h => absurd h1 h, fun _ => rfl⟩
def vc_X8_at (y_units : Nat → Int32) (y_isThere : Nat → Int32) (gi : Int) (i : Int) (j : Int) (Q : Int → Prop) : Prop :=
(∀ (r1 : Int), z_in r1 → (r1 = z_b (decide (0 ≤ gi ∧ gi ≤ 3))) → ((r1 = 0 → Q 2147483647) ∧
(r1 ≠ 0 → (0 ≤ gi ∧ gi < 4) ∧ (∀ (r3 : Int), z_in r3 → (r3 = z_b (decide (m_no (q_th y_isThere gi) i j ≠ -1))) → ((r3 = 0 → Q 2147483647) ∧
(r3 ≠ 0 → (0 ≤ gi ∧ gi < 4) ∧ (0 ≤ i ∧ i < 32) ∧ (0 ≤ j ∧ j < 40) ∧ (∀ (r7 : Int), z_in r7 → (r7 = z_g y_units (1280 * gi + (40 * i + j))) → (∀ w8 : UInt32, w8 = z_i2f r7 → vf_n32 (FP.fdiv w8 (1149239296 : UInt32)) ∧ (∀ w11 : UInt32, w11 = FP.fdiv w8 (1149239296 : UInt32) → (z_fc w11 w11 .l = 0) ∧ (∀ (r14 : Int), z_in r14 → (r14 = z_fb w11) → Q r14))))))))))
set_option maxHeartbeats 4000000 in
set_option maxRecDepth 100000 in
theorem wk_X8_at (l : Launch) (D : va_G) (cA : Nat → ClassId) (y : Nat) (y_space : Nat) (y_offset : Nat) (y_length : Nat) (ya_units : Nat) (y_units : Nat → Int32) (ya_isThere : Nat) (y_isThere : Nat → Int32) (y_levels : Int) (y_level : Nat) (y_lines : Int) (y_lineLevel : Nat) (y_lineUnits : Nat) (y_lineFrom : Nat) (y_lineMany : Nat) (y_isClosed : Nat) (y_insides : Nat) (y_parent : Nat) (y_isHigh : Nat) (y_inBits : Nat) (y_sides : Int) (y_side : Nat) (y_sideA : Nat) (y_sideB : Nat) (y_lineSpace : Int) (y_wasThere : Nat) (y_leads : Nat) (y_isLed : Nat) (y_isOn : Nat) (y_goesTo : Nat) (y_stream : Nat) (y_filled : Nat) (y_isDone : Nat) (y_isReached : Nat) (y_newUnits : Nat) (y_isNew : Nat) (gi : Int) (i : Int) (j : Int) (h_y_levels : z_in y_levels) (h_y_lines : z_in y_lines) (h_y_sides : z_in y_sides) (h_y_lineSpace : z_in y_lineSpace) (h_gi : z_in gi) (h_i : z_in i) (h_j : z_in j) (Q : Int → Prop) (hv : vc_X8_at y_units y_isThere gi i j Q) : Met l yX8_at wsX8_at ({ frames := 2, cells := 0, slots := 0, locals := 45 } : Room) (va_Pc [.ref y, .int (z_i gi), .int (z_i i), .int (z_i j)] (z_B0 D cA [(y, .inr (6, [.ref y_space, .ref y_offset, .ref y_length, .ref ya_units, .ref ya_isThere, .int (z_i y_levels), .ref y_level, .int (z_i y_lines), .ref y_lineLevel, .ref y_lineUnits, .ref y_lineFrom, .ref y_lineMany, .ref y_isClosed, .ref y_insides, .ref y_parent, .ref y_isHigh, .ref y_inBits, .int (z_i y_sides), .ref y_side, .ref y_sideA, .ref y_sideB, .int (z_i y_lineSpace), .ref y_wasThere, .ref y_leads, .ref y_isLed, .ref y_isOn, .ref y_goesTo, .ref y_stream, .ref y_filled, .ref y_isDone, .ref y_isReached, .ref y_newUnits, .ref y_isNew])), (ya_units, .inl (cA 1, 5120, .inl y_units)), (ya_isThere, .inl (cA 3, 5120, .inl y_isThere))])) (va_Qi (z_ri Q) (fun _ _ => True) (fun _ => False)) 0 0 (fun _ => False) := by
  unfold vc_X8_at at hv
  refine Met.ofW (cc := cX8_at) (maxL := 4) (ret := (some .int)) (by decide +kernel) rfl ?_
  intro p e s m args below meth c s₁ B hml hv0
  obtain ⟨rfl, hK, hP⟩ := hv0
  have hx := B.exec
  have hb := B.bytes
  have hr := B.returns
  have hts := atoms_spec (ws := wsX8_at) B.pre
  have hown : s.vm.findClass RX8 = some m.cls := findClass_of_methodNamed B.named
  have hlocks := B.notSynchronized
  have hS : va_S (fun _ : Nat => False) s.heap s.heap [] := va_S.rf
  have hl := lv_entry ([.ref y, .int (z_i gi), .int (z_i i), .int (z_i j)]) (n := 4) (Nat.le_of_ble_eq_true rfl)
  rw [lg_entry_eq]
  generalize (lg_sl ([.ref y, .int (z_i gi), .int (z_i i), .int (z_i j)]) ++ List.replicate (4 - (lg_sl ([.ref y, .int (z_i gi), .int (z_i i), .int (z_i j)])).length) Slot.unset).toArray = ls at hl ⊢
  have hl : lv_has ls 4 [(0, .ref y), (1, .int (z_i gi)), (2, .int (z_i i)), (3, .int (z_i j))] := hl
  refine lv_iload_n hx hb dX8_at_0 rfl (lv_at hl 1 rfl) ?_
  refine va_calli (va_runS (As := [.int (z_i gi)]) (rest := []) ⟨hx, hb, hml, hown, hts⟩ (mt_X8_isGrid l D cA gi h_gi) (va_cwS 1 hts gX8_at_X8_isGrid rfl rfl rfl (by decide +kernel) ⟨Nat.le_of_ble_eq_true rfl, Nat.le_of_ble_eq_true rfl⟩) ⟨z_bl0, fun U hU hW => ⟨rfl, z_b0 hK (hP.sub (ws' := []) [] rfl) hU hW⟩⟩ rfl rfl hl.1 rfl (lv_room (Nat.le_of_ble_eq_true rfl)) dX8_at_1 ⟨Nat.zero_le _, Nat.zero_le _⟩) hS (fun q _ h => h.elim) (fun q h => h.elim) (fun r0 u t H locs ht hvm hw hB hz1 hk1 hS => ?_)
  obtain ⟨r1, rfl, h_r1, hw⟩ := hw
  have hP := z_P_all hP hk1
  have hv := hv r1 h_r1 hw
  refine lx_if_eq (tgt := 34) hx hb dX8_at_4 (by decide) h_r1 (fun hc => ?_) (fun hc => ?_)
  · have hv := hv.1 hc
    refine lx_ldc (a := 2147483647) hx hb hown (hts (.constant RX8 108 (2147483647)) (by decide +kernel)) (by decide) dX8_at_34 ?_
    exact W.iret (v := z_i 2147483647) hx hb hr (fun t ht hW => ⟨⟨z_i 2147483647, (), rfl, ⟨2147483647, rfl, (show z_in 2147483647 from ⟨by decide, by decide⟩), hv⟩, trivial⟩, hS.F ht⟩) hS.2.2 dX8_at_36
  · have hv := hv.2 hc
    refine lv_aload_n hx hb dX8_at_7 rfl (lv_at hl 0 rfl) ?_
    refine lv_iload_n hx hb dX8_at_8 rfl (lv_at hl 1 rfl) ?_
    refine lv_iload_n hx hb dX8_at_9 rfl (lv_at hl 2 rfl) ?_
    refine lv_iload_n hx hb dX8_at_10 rfl (lv_at hl 3 rfl) ?_
    obtain ⟨hp2, hv⟩ := hv
    refine va_calli (va_runV (As := [.int (z_i gi), .int (z_i i), .int (z_i j)]) (rest := []) ⟨hx, hb, hml, hown, hts⟩ (mt_X8_has l D cA y y_space y_offset y_length ya_units ya_isThere y_isThere y_levels y_level y_lines y_lineLevel y_lineUnits y_lineFrom y_lineMany y_isClosed y_insides y_parent y_isHigh y_inBits y_sides y_side y_sideA y_sideB y_lineSpace y_wasThere y_leads y_isLed y_isOn y_goesTo y_stream y_filled y_isDone y_isReached y_newUnits y_isNew gi i j h_y_levels h_y_lines h_y_sides h_y_lineSpace h_gi h_i h_j hp2) (cwV 3 hts gX8_at_X8_has rfl rfl rfl (by decide +kernel) ⟨Nat.le_of_ble_eq_true rfl, Nat.le_of_ble_eq_true rfl⟩) ⟨z_bl0, va_recv hK hP (ci := 6) (q0 := 0) rfl rfl, fun U hU hW => ⟨rfl, z_b0 hK (hP.sub (ws' := [(y, .inr (6, [.ref y_space, .ref y_offset, .ref y_length, .ref ya_units, .ref ya_isThere, .int (z_i y_levels), .ref y_level, .int (z_i y_lines), .ref y_lineLevel, .ref y_lineUnits, .ref y_lineFrom, .ref y_lineMany, .ref y_isClosed, .ref y_insides, .ref y_parent, .ref y_isHigh, .ref y_inBits, .int (z_i y_sides), .ref y_side, .ref y_sideA, .ref y_sideB, .int (z_i y_lineSpace), .ref y_wasThere, .ref y_leads, .ref y_isLed, .ref y_isOn, .ref y_goesTo, .ref y_stream, .ref y_filled, .ref y_isDone, .ref y_isReached, .ref y_newUnits, .ref y_isNew])), (ya_isThere, .inl (cA 3, 5120, .inl y_isThere))]) [0, 2] rfl) hU hW⟩⟩ rfl rfl hl.1 rfl (lv_room (Nat.le_of_ble_eq_true rfl)) dX8_at_11 ⟨Nat.zero_le _, Nat.zero_le _⟩) hS (fun q _ h => h.elim) (fun q h => h.elim) (fun r0 u t H locs ht hvm hw hB hz1 hk1 hS => ?_)
    obtain ⟨r3, rfl, h_r3, hw⟩ := hw
    have hP := z_P_all hP hk1
    have hv := hv r3 h_r3 hw
    refine lx_if_eq (tgt := 34) hx hb dX8_at_14 (by decide) h_r3 (fun hc => ?_) (fun hc => ?_)
    · have hv := hv.1 hc
      refine lx_ldc (a := 2147483647) hx hb hown (hts (.constant RX8 108 (2147483647)) (by decide +kernel)) (by decide) dX8_at_34 ?_
      exact W.iret (v := z_i 2147483647) hx hb hr (fun t ht hW => ⟨⟨z_i 2147483647, (), rfl, ⟨2147483647, rfl, (show z_in 2147483647 from ⟨by decide, by decide⟩), hv⟩, trivial⟩, hS.F ht⟩) hS.2.2 dX8_at_36
    · have hv := hv.2 hc
      refine lv_aload_n hx hb dX8_at_17 rfl (lv_at hl 0 rfl) ?_
      refine lv_iload_n hx hb dX8_at_18 rfl (lv_at hl 1 rfl) ?_
      refine lv_iload_n hx hb dX8_at_19 rfl (lv_at hl 2 rfl) ?_
      refine lv_iload_n hx hb dX8_at_20 rfl (lv_at hl 3 rfl) ?_
      obtain ⟨hp4, hv⟩ := hv
      obtain ⟨hp5, hv⟩ := hv
      obtain ⟨hp6, hv⟩ := hv
      refine va_calli (va_runV (As := [.int (z_i gi), .int (z_i i), .int (z_i j)]) (rest := []) ⟨hx, hb, hml, hown, hts⟩ (mt_X8_h l D cA y y_space y_offset y_length ya_units y_units ya_isThere y_levels y_level y_lines y_lineLevel y_lineUnits y_lineFrom y_lineMany y_isClosed y_insides y_parent y_isHigh y_inBits y_sides y_side y_sideA y_sideB y_lineSpace y_wasThere y_leads y_isLed y_isOn y_goesTo y_stream y_filled y_isDone y_isReached y_newUnits y_isNew gi i j h_y_levels h_y_lines h_y_sides h_y_lineSpace h_gi h_i h_j hp4 hp5 hp6) (cwV 3 hts gX8_at_X8_h rfl rfl rfl (by decide +kernel) ⟨Nat.le_of_ble_eq_true rfl, Nat.le_of_ble_eq_true rfl⟩) ⟨z_bl0, va_recv hK hP (ci := 6) (q0 := 0) rfl rfl, fun U hU hW => ⟨rfl, z_b0 hK (hP.sub (ws' := [(y, .inr (6, [.ref y_space, .ref y_offset, .ref y_length, .ref ya_units, .ref ya_isThere, .int (z_i y_levels), .ref y_level, .int (z_i y_lines), .ref y_lineLevel, .ref y_lineUnits, .ref y_lineFrom, .ref y_lineMany, .ref y_isClosed, .ref y_insides, .ref y_parent, .ref y_isHigh, .ref y_inBits, .int (z_i y_sides), .ref y_side, .ref y_sideA, .ref y_sideB, .int (z_i y_lineSpace), .ref y_wasThere, .ref y_leads, .ref y_isLed, .ref y_isOn, .ref y_goesTo, .ref y_stream, .ref y_filled, .ref y_isDone, .ref y_isReached, .ref y_newUnits, .ref y_isNew])), (ya_units, .inl (cA 1, 5120, .inl y_units))]) [0, 1] rfl) hU hW⟩⟩ rfl rfl hl.1 rfl (lv_room (Nat.le_of_ble_eq_true rfl)) dX8_at_21 ⟨Nat.zero_le _, Nat.zero_le _⟩) hS (fun q _ h => h.elim) (fun q h => h.elim) (fun r0 u t H locs ht hvm hw hB hz1 hk1 hS => ?_)
      obtain ⟨r7, rfl, h_r7, hw⟩ := hw
      have hP := z_P_all hP hk1
      have hv := hv r7 h_r7 hw
      refine lx_i2f hx hb dX8_at_24 ?_
      refine lv_topf (fun w8 hy9 => ?_)
      have hv := hv w8 hy9
      refine lv_ldcf (v := 1149239296) hx hb hown (hts (.constantFloat RX8 119 (1149239296)) (by decide +kernel)) dX8_at_25 ?_
      obtain ⟨hf10, hv⟩ := hv
      refine lv_fdiv hx hb dX8_at_27 hf10 ?_
      refine lv_topf (fun w11 hy12 => ?_)
      have hv := hv w11 hy12
      obtain ⟨hp13, hv⟩ := hv
      refine va_calli (va_runS (As := [.float w11]) (rest := []) ⟨hx, hb, hml, hown, hts⟩ (mt_Jxf58ca_floatToIntBits_5c35a l D cA w11 hp13) (va_cwS 1 hts gX8_at_Jxf58ca_floatToIntBits_5c35a rfl rfl rfl (by decide +kernel) ⟨Nat.le_of_ble_eq_true rfl, Nat.le_of_ble_eq_true rfl⟩) ⟨z_bl0, fun U hU hW => ⟨rfl, z_b0 hK (hP.sub (ws' := []) [] rfl) hU hW⟩⟩ rfl rfl hl.1 rfl (lv_room (Nat.le_of_ble_eq_true rfl)) dX8_at_28 ⟨Nat.zero_le _, Nat.zero_le _⟩) hS (fun q _ h => h.elim) (fun q h => h.elim) (fun r0 u t H locs ht hvm hw hB hz1 hk1 hS => ?_)
      obtain ⟨r14, rfl, h_r14, hw⟩ := hw
      have hP := z_P_all hP hk1
      have hv := hv r14 h_r14 hw
      refine lv_goto (tgt := 36) hx hb dX8_at_31 (by decide) ?_
      exact W.iret (v := z_i r14) hx hb hr (fun t ht hW => ⟨⟨z_i r14, (), rfl, ⟨r14, rfl, h_r14, hv⟩, trivial⟩, hS.F ht⟩) hS.2.2 dX8_at_36
set_option maxHeartbeats 4000000 in
set_option maxRecDepth 100000 in
theorem mt_X8_at (l : Launch) (D : va_G) (cA : Nat → ClassId) (y : Nat) (y_space : Nat) (y_offset : Nat) (y_length : Nat) (ya_units : Nat) (y_units : Nat → Int32) (ya_isThere : Nat) (y_isThere : Nat → Int32) (y_levels : Int) (y_level : Nat) (y_lines : Int) (y_lineLevel : Nat) (y_lineUnits : Nat) (y_lineFrom : Nat) (y_lineMany : Nat) (y_isClosed : Nat) (y_insides : Nat) (y_parent : Nat) (y_isHigh : Nat) (y_inBits : Nat) (y_sides : Int) (y_side : Nat) (y_sideA : Nat) (y_sideB : Nat) (y_lineSpace : Int) (y_wasThere : Nat) (y_leads : Nat) (y_isLed : Nat) (y_isOn : Nat) (y_goesTo : Nat) (y_stream : Nat) (y_filled : Nat) (y_isDone : Nat) (y_isReached : Nat) (y_newUnits : Nat) (y_isNew : Nat) (gi : Int) (i : Int) (j : Int) (h_y_levels : z_in y_levels) (h_y_lines : z_in y_lines) (h_y_sides : z_in y_sides) (h_y_lineSpace : z_in y_lineSpace) (h_gi : z_in gi) (h_i : z_in i) (h_j : z_in j) (hp1 : q_bd y_units) : Met l yX8_at wsX8_at ({ frames := 2, cells := 0, slots := 0, locals := 45 } : Room) (va_Pc [.ref y, .int (z_i gi), .int (z_i i), .int (z_i j)] (z_B0 D cA [(y, .inr (6, [.ref y_space, .ref y_offset, .ref y_length, .ref ya_units, .ref ya_isThere, .int (z_i y_levels), .ref y_level, .int (z_i y_lines), .ref y_lineLevel, .ref y_lineUnits, .ref y_lineFrom, .ref y_lineMany, .ref y_isClosed, .ref y_insides, .ref y_parent, .ref y_isHigh, .ref y_inBits, .int (z_i y_sides), .ref y_side, .ref y_sideA, .ref y_sideB, .int (z_i y_lineSpace), .ref y_wasThere, .ref y_leads, .ref y_isLed, .ref y_isOn, .ref y_goesTo, .ref y_stream, .ref y_filled, .ref y_isDone, .ref y_isReached, .ref y_newUnits, .ref y_isNew])), (ya_units, .inl (cA 1, 5120, .inl y_units)), (ya_isThere, .inl (cA 3, 5120, .inl y_isThere))])) (va_Qi (z_ri (fun (r : Int) => r = (if (0 ≤ gi ∧ gi < 4) ∧ m_no (q_th y_isThere gi) i j ≠ -1 then b_fu (q_at y_units y_isThere gi (40 * i + j)) else 2147483647))) (fun _ _ => True) (fun _ => False)) 0 0 (fun _ => False) := by
  refine wk_X8_at l D cA y y_space y_offset y_length ya_units y_units ya_isThere y_isThere y_levels y_level y_lines y_lineLevel y_lineUnits y_lineFrom y_lineMany y_isClosed y_insides y_parent y_isHigh y_inBits y_sides y_side y_sideA y_sideB y_lineSpace y_wasThere y_leads y_isLed y_isOn y_goesTo y_stream y_filled y_isDone y_isReached y_newUnits y_isNew gi i j h_y_levels h_y_lines h_y_sides h_y_lineSpace h_gi h_i h_j (fun (r : Int) => r = (if (0 ≤ gi ∧ gi < 4) ∧ m_no (q_th y_isThere gi) i j ≠ -1 then b_fu (q_at y_units y_isThere gi (40 * i + j)) else 2147483647)) ?_
  unfold vc_X8_at
  rintro r1 _ rfl
  refine ⟨fun q => ?_, fun q => ?_⟩
  · have q := of_decide_eq_false (zb_f q)
    rw [if_neg (fun h => q ⟨h.1.1, by omega⟩)]
  · have q := of_decide_eq_true (zb_t q)
    refine ⟨⟨q.1, by omega⟩, ?_⟩
    rintro r3 _ rfl
    refine ⟨fun q2 => ?_, fun q2 => ?_⟩
    · have q2 := of_decide_eq_false (zb_f q2)
      rw [if_neg (fun h => q2 h.2)]
    · have q2 := of_decide_eq_true (zb_t q2)
      obtain ⟨e, a0, a1, a2, a3, hT⟩ := m_no_some q2
      refine ⟨⟨q.1, by omega⟩, ⟨a0, a1⟩, ⟨a2, a3⟩, ?_⟩
      rintro r7 _ rfl w8 h8
      have hb := hp1 (1280 * gi + (40 * i + j)) (by omega) (by omega)
      refine ⟨(fl_at (x := w8) hb.1 hb.2 h8).1, ?_⟩
      rintro w11 h11
      have hx := (fl_at hb.1 hb.2 h8).2 h11
      refine ⟨hx.1, ?_⟩
      rintro r14 _ rfl
      rw [if_pos ⟨⟨q.1, by omega⟩, q2⟩, q_at_t hT]
      exact hx.2
def q_rs (le off : Nat → Int32) : Prop := ∀ i : Int, 0 ≤ i → i < 128 → z_g off i + z_g le i ≤ 40
theorem fl_half : z_fc 1056964608 (z_i2f (z_f2i 1056964608)) .l ≠ 0 := by decide +kernel
theorem fl_nanc : z_fc (z_bf 2143289344) 3321888768 .l < 0 := by decide +kernel
theorem fl_uf_nan {b : Int} (h : b % 2147483648 > 2139095040) : b_uf b = -2147483648 := fl_uf_no (by omega)
def vc_X8_height (y_offset : Nat → Int32) (y_length : Nat → Int32) (y_units : Nat → Int32) (y_isThere : Nat → Int32) (gi : Int) (i : Int) (j : Int) (bits : Int) (Q : Int → (Nat → Int32) → (Nat → Int32) → Prop) : Prop :=
((z_and bits 2147483647 ≤ 2139095040 → vn_sni2f (z_i bits) = false ∧ (∀ w2 : UInt32, w2 = z_bf bits → ((z_fc w2 (3321888768 : UInt32) .l < 0 → (q_rw y_length y_offset) ∧ (∀ (r5 : Int), z_in r5 → (r5 = z_b (decide ((0 ≤ gi ∧ gi < 4) ∧ 0 ≤ i ∧ i < 32 ∧ z_g y_offset (32 * gi + i) ≤ j ∧ j < z_g y_offset (32 * gi + i) + z_g y_length (32 * gi + i)))) → ((r5 = 0 → Q 0 y_units y_isThere) ∧
(r5 ≠ 0 → (∀ w6 : UInt32, w6 = z_i2f (z_f2i (1056964608 : UInt32)) → ((z_fc (1056964608 : UInt32) w6 .l = 0 → (0 ≤ ((1280 * gi) + (40 * i)) + j ∧ ((1280 * gi) + (40 * i)) + j < 5120) ∧ (∀ f9 : Nat → Int32, f9 = z_s y_units (((1280 * gi) + (40 * i)) + j) (z_f2i (1056964608 : UInt32)) → (∀ f11 : Nat → Int32, f11 = z_s y_isThere (((1280 * gi) + (40 * i)) + j) 1 → Q 1 f9 f11))) ∧
(z_fc (1056964608 : UInt32) w6 .l ≠ 0 → Q 0 y_units y_isThere))))))) ∧
(z_fc w2 (3321888768 : UInt32) .l ≥ 0 → ((z_fc w2 (1174405120 : UInt32) .g > 0 → (q_rw y_length y_offset) ∧ (∀ (r14 : Int), z_in r14 → (r14 = z_b (decide ((0 ≤ gi ∧ gi < 4) ∧ 0 ≤ i ∧ i < 32 ∧ z_g y_offset (32 * gi + i) ≤ j ∧ j < z_g y_offset (32 * gi + i) + z_g y_length (32 * gi + i)))) → ((r14 = 0 → Q 0 y_units y_isThere) ∧
(r14 ≠ 0 → (∀ w15 : UInt32, w15 = z_i2f (z_f2i (1056964608 : UInt32)) → ((z_fc (1056964608 : UInt32) w15 .l = 0 → (0 ≤ ((1280 * gi) + (40 * i)) + j ∧ ((1280 * gi) + (40 * i)) + j < 5120) ∧ (∀ f18 : Nat → Int32, f18 = z_s y_units (((1280 * gi) + (40 * i)) + j) (z_f2i (1056964608 : UInt32)) → (∀ f20 : Nat → Int32, f20 = z_s y_isThere (((1280 * gi) + (40 * i)) + j) 1 → Q 1 f18 f20))) ∧
(z_fc (1056964608 : UInt32) w15 .l ≠ 0 → Q 0 y_units y_isThere))))))) ∧
(z_fc w2 (1174405120 : UInt32) .g ≤ 0 → vf_n32 (FP.fmul w2 (1149239296 : UInt32)) ∧ (∀ w23 : UInt32, w23 = FP.fmul w2 (1149239296 : UInt32) → (q_rw y_length y_offset) ∧ (∀ (r26 : Int), z_in r26 → (r26 = z_b (decide ((0 ≤ gi ∧ gi < 4) ∧ 0 ≤ i ∧ i < 32 ∧ z_g y_offset (32 * gi + i) ≤ j ∧ j < z_g y_offset (32 * gi + i) + z_g y_length (32 * gi + i)))) → ((r26 = 0 → Q 0 y_units y_isThere) ∧
(r26 ≠ 0 → (∀ w27 : UInt32, w27 = z_i2f (z_f2i w23) → ((z_fc w23 w27 .l = 0 → (0 ≤ ((1280 * gi) + (40 * i)) + j ∧ ((1280 * gi) + (40 * i)) + j < 5120) ∧ (∀ f30 : Nat → Int32, f30 = z_s y_units (((1280 * gi) + (40 * i)) + j) (z_f2i w23) → (∀ f32 : Nat → Int32, f32 = z_s y_isThere (((1280 * gi) + (40 * i)) + j) 1 → Q 1 f30 f32))) ∧
(z_fc w23 w27 .l ≠ 0 → Q 0 y_units y_isThere))))))))))))) ∧
(z_and bits 2147483647 > 2139095040 → vn_sni2f (z_i 2143289344) = false ∧ (∀ w35 : UInt32, w35 = z_bf 2143289344 → ((z_fc w35 (3321888768 : UInt32) .l < 0 → (q_rw y_length y_offset) ∧ (∀ (r38 : Int), z_in r38 → (r38 = z_b (decide ((0 ≤ gi ∧ gi < 4) ∧ 0 ≤ i ∧ i < 32 ∧ z_g y_offset (32 * gi + i) ≤ j ∧ j < z_g y_offset (32 * gi + i) + z_g y_length (32 * gi + i)))) → ((r38 = 0 → Q 0 y_units y_isThere) ∧
(r38 ≠ 0 → (∀ w39 : UInt32, w39 = z_i2f (z_f2i (1056964608 : UInt32)) → ((z_fc (1056964608 : UInt32) w39 .l = 0 → (0 ≤ ((1280 * gi) + (40 * i)) + j ∧ ((1280 * gi) + (40 * i)) + j < 5120) ∧ (∀ f42 : Nat → Int32, f42 = z_s y_units (((1280 * gi) + (40 * i)) + j) (z_f2i (1056964608 : UInt32)) → (∀ f44 : Nat → Int32, f44 = z_s y_isThere (((1280 * gi) + (40 * i)) + j) 1 → Q 1 f42 f44))) ∧
(z_fc (1056964608 : UInt32) w39 .l ≠ 0 → Q 0 y_units y_isThere))))))) ∧
(z_fc w35 (3321888768 : UInt32) .l ≥ 0 → ((z_fc w35 (1174405120 : UInt32) .g > 0 → (q_rw y_length y_offset) ∧ (∀ (r47 : Int), z_in r47 → (r47 = z_b (decide ((0 ≤ gi ∧ gi < 4) ∧ 0 ≤ i ∧ i < 32 ∧ z_g y_offset (32 * gi + i) ≤ j ∧ j < z_g y_offset (32 * gi + i) + z_g y_length (32 * gi + i)))) → ((r47 = 0 → Q 0 y_units y_isThere) ∧
(r47 ≠ 0 → (∀ w48 : UInt32, w48 = z_i2f (z_f2i (1056964608 : UInt32)) → ((z_fc (1056964608 : UInt32) w48 .l = 0 → (0 ≤ ((1280 * gi) + (40 * i)) + j ∧ ((1280 * gi) + (40 * i)) + j < 5120) ∧ (∀ f51 : Nat → Int32, f51 = z_s y_units (((1280 * gi) + (40 * i)) + j) (z_f2i (1056964608 : UInt32)) → (∀ f53 : Nat → Int32, f53 = z_s y_isThere (((1280 * gi) + (40 * i)) + j) 1 → Q 1 f51 f53))) ∧
(z_fc (1056964608 : UInt32) w48 .l ≠ 0 → Q 0 y_units y_isThere))))))) ∧
(z_fc w35 (1174405120 : UInt32) .g ≤ 0 → vf_n32 (FP.fmul w35 (1149239296 : UInt32)) ∧ (∀ w56 : UInt32, w56 = FP.fmul w35 (1149239296 : UInt32) → (q_rw y_length y_offset) ∧ (∀ (r59 : Int), z_in r59 → (r59 = z_b (decide ((0 ≤ gi ∧ gi < 4) ∧ 0 ≤ i ∧ i < 32 ∧ z_g y_offset (32 * gi + i) ≤ j ∧ j < z_g y_offset (32 * gi + i) + z_g y_length (32 * gi + i)))) → ((r59 = 0 → Q 0 y_units y_isThere) ∧
(r59 ≠ 0 → (∀ w60 : UInt32, w60 = z_i2f (z_f2i w56) → ((z_fc w56 w60 .l = 0 → (0 ≤ ((1280 * gi) + (40 * i)) + j ∧ ((1280 * gi) + (40 * i)) + j < 5120) ∧ (∀ f63 : Nat → Int32, f63 = z_s y_units (((1280 * gi) + (40 * i)) + j) (z_f2i w56) → (∀ f65 : Nat → Int32, f65 = z_s y_isThere (((1280 * gi) + (40 * i)) + j) 1 → Q 1 f63 f65))) ∧
(z_fc w56 w60 .l ≠ 0 → Q 0 y_units y_isThere))))))))))))))
set_option maxHeartbeats 4000000 in
set_option maxRecDepth 100000 in
theorem wk_X8_height (l : Launch) (D : va_G) (cA : Nat → ClassId) (y : Nat) (y_space : Nat) (ya_offset : Nat) (y_offset : Nat → Int32) (ya_length : Nat) (y_length : Nat → Int32) (ya_units : Nat) (y_units : Nat → Int32) (ya_isThere : Nat) (y_isThere : Nat → Int32) (y_levels : Int) (y_level : Nat) (y_lines : Int) (y_lineLevel : Nat) (y_lineUnits : Nat) (y_lineFrom : Nat) (y_lineMany : Nat) (y_isClosed : Nat) (y_insides : Nat) (y_parent : Nat) (y_isHigh : Nat) (y_inBits : Nat) (y_sides : Int) (y_side : Nat) (y_sideA : Nat) (y_sideB : Nat) (y_lineSpace : Int) (y_wasThere : Nat) (y_leads : Nat) (y_isLed : Nat) (y_isOn : Nat) (y_goesTo : Nat) (y_stream : Nat) (y_filled : Nat) (y_isDone : Nat) (y_isReached : Nat) (y_newUnits : Nat) (y_isNew : Nat) (gi : Int) (i : Int) (j : Int) (bits : Int) (h_y_levels : z_in y_levels) (h_y_lines : z_in y_lines) (h_y_sides : z_in y_sides) (h_y_lineSpace : z_in y_lineSpace) (h_gi : z_in gi) (h_i : z_in i) (h_j : z_in j) (h_bits : z_in bits) (Q : Int → (Nat → Int32) → (Nat → Int32) → Prop) (hv : vc_X8_height y_offset y_length y_units y_isThere gi i j bits Q) : Met l yX8_height wsX8_height ({ frames := 3, cells := 0, slots := 0, locals := 65 } : Room) (va_Pc [.ref y, .int (z_i gi), .int (z_i i), .int (z_i j), .int (z_i bits)] (z_M0 D cA [(y, .inr (6, [.ref y_space, .ref ya_offset, .ref ya_length, .ref ya_units, .ref ya_isThere, .int (z_i y_levels), .ref y_level, .int (z_i y_lines), .ref y_lineLevel, .ref y_lineUnits, .ref y_lineFrom, .ref y_lineMany, .ref y_isClosed, .ref y_insides, .ref y_parent, .ref y_isHigh, .ref y_inBits, .int (z_i y_sides), .ref y_side, .ref y_sideA, .ref y_sideB, .int (z_i y_lineSpace), .ref y_wasThere, .ref y_leads, .ref y_isLed, .ref y_isOn, .ref y_goesTo, .ref y_stream, .ref y_filled, .ref y_isDone, .ref y_isReached, .ref y_newUnits, .ref y_isNew])), (ya_offset, .inl (cA 1, 128, .inl y_offset)), (ya_length, .inl (cA 1, 128, .inl y_length)), (ya_units, .inl (cA 1, 5120, .inl y_units)), (ya_isThere, .inl (cA 3, 5120, .inl y_isThere))])) (va_Qi (z_mi (fun v (u : (Nat → Int32) × (Nat → Int32)) => Q v u.1 u.2)) (fun (u : (Nat → Int32) × (Nat → Int32)) t => va_P D vwCl [(y, .inr (6, [.ref y_space, .ref ya_offset, .ref ya_length, .ref ya_units, .ref ya_isThere, .int (z_i y_levels), .ref y_level, .int (z_i y_lines), .ref y_lineLevel, .ref y_lineUnits, .ref y_lineFrom, .ref y_lineMany, .ref y_isClosed, .ref y_insides, .ref y_parent, .ref y_isHigh, .ref y_inBits, .int (z_i y_sides), .ref y_side, .ref y_sideA, .ref y_sideB, .int (z_i y_lineSpace), .ref y_wasThere, .ref y_leads, .ref y_isLed, .ref y_isOn, .ref y_goesTo, .ref y_stream, .ref y_filled, .ref y_isDone, .ref y_isReached, .ref y_newUnits, .ref y_isNew])), (ya_offset, .inl (cA 1, 128, .inl y_offset)), (ya_length, .inl (cA 1, 128, .inl y_length)), (ya_units, .inl (cA 1, 5120, .inl u.1)), (ya_isThere, .inl (cA 3, 5120, .inl u.2))] t.heap) (z_A [(y, .inr (6, [.ref y_space, .ref ya_offset, .ref ya_length, .ref ya_units, .ref ya_isThere, .int (z_i y_levels), .ref y_level, .int (z_i y_lines), .ref y_lineLevel, .ref y_lineUnits, .ref y_lineFrom, .ref y_lineMany, .ref y_isClosed, .ref y_insides, .ref y_parent, .ref y_isHigh, .ref y_inBits, .int (z_i y_sides), .ref y_side, .ref y_sideA, .ref y_sideB, .int (z_i y_lineSpace), .ref y_wasThere, .ref y_leads, .ref y_isLed, .ref y_isOn, .ref y_goesTo, .ref y_stream, .ref y_filled, .ref y_isDone, .ref y_isReached, .ref y_newUnits, .ref y_isNew])), (ya_offset, .inl (cA 1, 128, .inl y_offset)), (ya_length, .inl (cA 1, 128, .inl y_length)), (ya_units, .inl (cA 1, 5120, .inl y_units)), (ya_isThere, .inl (cA 3, 5120, .inl y_isThere))])) 0 0 (z_A [(y, .inr (6, [.ref y_space, .ref ya_offset, .ref ya_length, .ref ya_units, .ref ya_isThere, .int (z_i y_levels), .ref y_level, .int (z_i y_lines), .ref y_lineLevel, .ref y_lineUnits, .ref y_lineFrom, .ref y_lineMany, .ref y_isClosed, .ref y_insides, .ref y_parent, .ref y_isHigh, .ref y_inBits, .int (z_i y_sides), .ref y_side, .ref y_sideA, .ref y_sideB, .int (z_i y_lineSpace), .ref y_wasThere, .ref y_leads, .ref y_isLed, .ref y_isOn, .ref y_goesTo, .ref y_stream, .ref y_filled, .ref y_isDone, .ref y_isReached, .ref y_newUnits, .ref y_isNew])), (ya_offset, .inl (cA 1, 128, .inl y_offset)), (ya_length, .inl (cA 1, 128, .inl y_length)), (ya_units, .inl (cA 1, 5120, .inl y_units)), (ya_isThere, .inl (cA 3, 5120, .inl y_isThere))]) := by
  unfold vc_X8_height at hv
  refine Met.ofW (cc := cX8_height) (maxL := 8) (ret := (some .boolean)) (by decide +kernel) rfl ?_
  intro p e s m args below meth c s₁ B hml hv0
  obtain ⟨rfl, hK, hP, hD0⟩ := hv0
  have hx := B.exec
  have hb := B.bytes
  have hr := B.returns
  have hts := atoms_spec (ws := wsX8_height) B.pre
  have hown : s.vm.findClass RX8 = some m.cls := findClass_of_methodNamed B.named
  have hlocks := B.notSynchronized
  have hD := z_D_self hD0
  generalize hAe : z_A [(y, .inr (6, [.ref y_space, .ref ya_offset, .ref ya_length, .ref ya_units, .ref ya_isThere, .int (z_i y_levels), .ref y_level, .int (z_i y_lines), .ref y_lineLevel, .ref y_lineUnits, .ref y_lineFrom, .ref y_lineMany, .ref y_isClosed, .ref y_insides, .ref y_parent, .ref y_isHigh, .ref y_inBits, .int (z_i y_sides), .ref y_side, .ref y_sideA, .ref y_sideB, .int (z_i y_lineSpace), .ref y_wasThere, .ref y_leads, .ref y_isLed, .ref y_isOn, .ref y_goesTo, .ref y_stream, .ref y_filled, .ref y_isDone, .ref y_isReached, .ref y_newUnits, .ref y_isNew])), (ya_offset, .inl (cA 1, 128, .inl y_offset)), (ya_length, .inl (cA 1, 128, .inl y_length)), (ya_units, .inl (cA 1, 5120, .inl y_units)), (ya_isThere, .inl (cA 3, 5120, .inl y_isThere))] = A at *
  have hS : va_S A s.heap s.heap [] := va_S.rf
  have hl := lv_entry ([.ref y, .int (z_i gi), .int (z_i i), .int (z_i j), .int (z_i bits)]) (n := 8) (Nat.le_of_ble_eq_true rfl)
  rw [lg_entry_eq]
  generalize (lg_sl ([.ref y, .int (z_i gi), .int (z_i i), .int (z_i j), .int (z_i bits)]) ++ List.replicate (8 - (lg_sl ([.ref y, .int (z_i gi), .int (z_i i), .int (z_i j), .int (z_i bits)])).length) Slot.unset).toArray = ls at hl ⊢
  have hl : lv_has ls 8 [(0, .ref y), (1, .int (z_i gi)), (2, .int (z_i i)), (3, .int (z_i j)), (4, .int (z_i bits))] := hl
  refine lv_iload hx hb dX8_height_0 (lv_at hl 4 rfl) ?_
  refine lx_ldc (a := 2147483647) hx hb hown (hts (.constant RX8 108 (2147483647)) (by decide +kernel)) (by decide) dX8_height_2 ?_
  refine lx_iand hx hb dX8_height_4 ?_
  refine lx_ldc (a := 2139095040) hx hb hown (hts (.constant RX8 109 (2139095040)) (by decide +kernel)) (by decide) dX8_height_5 ?_
  refine lx_icmp_le (tgt := 15) hx hb dX8_height_7 (by decide) (z_in_of _) (show z_in 2139095040 from ⟨by decide, by decide⟩) (fun hc => ?_) (fun hc => ?_)
  · have hv := hv.1 hc
    refine lv_iload hx hb dX8_height_15 (lv_at hl 4 rfl) ?_
    obtain ⟨hf1, hv⟩ := hv
    refine vx_i2f hx hb (hml.trans hl.1.symm) hown (hts (.methodLink RX8 111 ⟨"java/lang/Float", "intBitsToFloat", "(I)F"⟩) (by decide +kernel)) (hts (.native ⟨"java/lang/Float", "intBitsToFloat", "(I)F"⟩) (by decide +kernel)) (hts (.static ⟨"java/lang/Float", "intBitsToFloat", "(I)F"⟩) (by decide +kernel)) (hts (.initialized "java/lang/Float") (by decide +kernel)) hf1 (Nat.le_of_ble_eq_true rfl) (Nat.le_of_ble_eq_true rfl) dX8_height_17 ?_
    refine lv_topf (fun w2 hy3 => ?_)
    have hv := hv w2 hy3
    refine lv_fstore (lv' := [(5, .float w2), (0, .ref y), (1, .int (z_i gi)), (2, .int (z_i i)), (3, .int (z_i j)), (4, .int (z_i bits))]) hx hb dX8_height_20 hl (by decide) rfl (fun ls hl => ?_)
    refine lv_fload hx hb dX8_height_22 (lv_at hl 0 rfl) ?_
    refine lv_ldcf (v := 3321888768) hx hb hown (hts (.constantFloat RX8 117 (3321888768)) (by decide +kernel)) dX8_height_24 ?_
    refine lx_fcmp hx hb dX8_height_26 ?_
    refine lx_if_lt (tgt := 42) hx hb dX8_height_27 (by decide) (z_in_of _) (fun hc => ?_) (fun hc => ?_)
    · have hv := hv.1 hc
      refine lv_iconst (v := z_i 0) hx hb dX8_height_42 rfl ?_
      refine lv_istore (lv' := [(6, .int (z_i 0)), (5, .float w2), (0, .ref y), (1, .int (z_i gi)), (2, .int (z_i i)), (3, .int (z_i j)), (4, .int (z_i bits))]) hx hb dX8_height_43 hl (by decide) rfl (fun ls hl => ?_)
      refine lv_iload hx hb dX8_height_45 (lv_at hl 0 rfl) ?_
      refine lx_if_eq (tgt := 58) hx hb dX8_height_47 (by decide) ⟨by decide, by decide⟩ (fun _ => ?_) (fun hc => absurd hc (by decide))
      refine lv_ldcf (v := 1056964608) hx hb hown (hts (.constantFloat RX8 120 (1056964608)) (by decide +kernel)) dX8_height_58 ?_
      refine lv_fstore (lv' := [(7, .float (1056964608 : UInt32)), (6, .int (z_i 0)), (5, .float w2), (0, .ref y), (1, .int (z_i gi)), (2, .int (z_i i)), (3, .int (z_i j)), (4, .int (z_i bits))]) hx hb dX8_height_60 hl (by decide) rfl (fun ls hl => ?_)
      refine lv_aload_n hx hb dX8_height_62 rfl (lv_at hl 3 rfl) ?_
      refine lv_iload_n hx hb dX8_height_63 rfl (lv_at hl 4 rfl) ?_
      refine lv_iload_n hx hb dX8_height_64 rfl (lv_at hl 5 rfl) ?_
      refine lv_iload_n hx hb dX8_height_65 rfl (lv_at hl 6 rfl) ?_
      obtain ⟨hp4, hv⟩ := hv
      refine va_calli (va_runV (As := [.int (z_i gi), .int (z_i i), .int (z_i j)]) (rest := []) ⟨hx, hb, hml, hown, hts⟩ (mt_X8_isOf l D cA y y_space ya_offset y_offset ya_length y_length ya_units ya_isThere y_levels y_level y_lines y_lineLevel y_lineUnits y_lineFrom y_lineMany y_isClosed y_insides y_parent y_isHigh y_inBits y_sides y_side y_sideA y_sideB y_lineSpace y_wasThere y_leads y_isLed y_isOn y_goesTo y_stream y_filled y_isDone y_isReached y_newUnits y_isNew gi i j h_y_levels h_y_lines h_y_sides h_y_lineSpace h_gi h_i h_j hp4) (cwV 3 hts gX8_height_X8_isOf rfl rfl rfl (by decide +kernel) ⟨Nat.le_of_ble_eq_true rfl, Nat.le_of_ble_eq_true rfl⟩) ⟨z_bl0, va_recv hK hP (ci := 6) (q0 := 0) rfl rfl, fun U hU hW => ⟨rfl, z_b0 hK (hP.sub (ws' := [(y, .inr (6, [.ref y_space, .ref ya_offset, .ref ya_length, .ref ya_units, .ref ya_isThere, .int (z_i y_levels), .ref y_level, .int (z_i y_lines), .ref y_lineLevel, .ref y_lineUnits, .ref y_lineFrom, .ref y_lineMany, .ref y_isClosed, .ref y_insides, .ref y_parent, .ref y_isHigh, .ref y_inBits, .int (z_i y_sides), .ref y_side, .ref y_sideA, .ref y_sideB, .int (z_i y_lineSpace), .ref y_wasThere, .ref y_leads, .ref y_isLed, .ref y_isOn, .ref y_goesTo, .ref y_stream, .ref y_filled, .ref y_isDone, .ref y_isReached, .ref y_newUnits, .ref y_isNew])), (ya_offset, .inl (cA 1, 128, .inl y_offset)), (ya_length, .inl (cA 1, 128, .inl y_length))]) [0, 1, 2] rfl) hU hW⟩⟩ rfl rfl hl.1 rfl (lv_room (Nat.le_of_ble_eq_true rfl)) dX8_height_66 ⟨Nat.zero_le _, Nat.zero_le _⟩) hS (fun q _ h => h.elim) (fun q h => h.elim) (fun r0 u t H locs ht hvm hw hB hz1 hk1 hS => ?_)
      obtain ⟨r5, rfl, h_r5, hw⟩ := hw
      have hP := z_P_all hP hk1
      have hv := hv r5 h_r5 hw
      refine lx_if_eq (tgt := 82) hx hb dX8_height_69 (by decide) h_r5 (fun hc => ?_) (fun hc => ?_)
      · have hv := hv.1 hc
        refine lv_iconst (v := z_i 0) hx hb dX8_height_82 rfl ?_
        exact W.zret (v := z_i 0) hx hb hr (by decide) (fun t ht hW => ⟨⟨z_i 0, (y_units, y_isThere), rfl, ⟨0, rfl, (show z_in 0 from ⟨by decide, by decide⟩), hv⟩, z_pt hP ht⟩, hS.F ht⟩) hS.2.2 dX8_height_83
      · have hv := hv.2 hc
        refine lv_fload hx hb dX8_height_72 (lv_at hl 0 rfl) ?_
        refine lv_fload hx hb dX8_height_74 (lv_at hl 0 rfl) ?_
        refine lx_f2i hx hb dX8_height_76 ?_
        refine lx_i2f hx hb dX8_height_77 ?_
        refine lv_topf (fun w6 hy7 => ?_)
        have hv := hv w6 hy7
        refine lx_fcmp hx hb dX8_height_78 ?_
        refine lx_if_eq (tgt := 84) hx hb dX8_height_79 (by decide) (z_in_of _) (fun hc => ?_) (fun hc => ?_)
        · have hv := hv.1 hc
          refine lv_aload_n hx hb dX8_height_84 rfl (lv_at hl 3 rfl) ?_
          refine va_get (D := D) (ci := 6) (v := .ref ya_units) (C := RX8) (T := TX8) (N := 33) hx hb hts (fun w h => List.mem_cons_of_mem _ (List.mem_append_right _ h)) hown hK hP 0 rfl rfl 3 (by decide) (hts (.fieldLink RX8 19 "ContourSheetsModel" "units" "[I") (by decide +kernel)) (fun _ h9 => h9) rfl dX8_height_85 ?_
          refine lv_sipush (v := z_i 1280) hx hb dX8_height_88 (by decide) ?_
          refine lv_iload_n hx hb dX8_height_91 rfl (lv_at hl 4 rfl) ?_
          refine lx_imul hx hb dX8_height_92 ?_
          refine lv_bipush (v := z_i 40) hx hb dX8_height_93 (by decide) ?_
          refine lv_iload_n hx hb dX8_height_95 rfl (lv_at hl 5 rfl) ?_
          refine lx_imul hx hb dX8_height_96 ?_
          refine lx_iadd hx hb dX8_height_97 ?_
          refine lv_iload_n hx hb dX8_height_98 rfl (lv_at hl 6 rfl) ?_
          refine lx_iadd hx hb dX8_height_99 ?_
          refine lv_fload hx hb dX8_height_100 (lv_at hl 0 rfl) ?_
          refine lx_f2i hx hb dX8_height_102 ?_
          obtain ⟨hi8, hv⟩ := hv
          refine lx_iast hx hb hK hP hD hS 3 1 rfl rfl (by decide) hi8.1 hi8.2 dX8_height_103 (fun H locs hP hD hS => ?_)
          obtain ⟨f9, hy10⟩ : ∃ y : Nat → Int32, y = z_s y_units (((1280 * gi) + (40 * i)) + j) (z_f2i (1056964608 : UInt32)) := ⟨_, rfl⟩
          have hv := hv f9 hy10
          have hP : va_P D vwCl [(y, .inr (6, [.ref y_space, .ref ya_offset, .ref ya_length, .ref ya_units, .ref ya_isThere, .int (z_i y_levels), .ref y_level, .int (z_i y_lines), .ref y_lineLevel, .ref y_lineUnits, .ref y_lineFrom, .ref y_lineMany, .ref y_isClosed, .ref y_insides, .ref y_parent, .ref y_isHigh, .ref y_inBits, .int (z_i y_sides), .ref y_side, .ref y_sideA, .ref y_sideB, .int (z_i y_lineSpace), .ref y_wasThere, .ref y_leads, .ref y_isLed, .ref y_isOn, .ref y_goesTo, .ref y_stream, .ref y_filled, .ref y_isDone, .ref y_isReached, .ref y_newUnits, .ref y_isNew])), (ya_offset, .inl (cA 1, 128, .inl y_offset)), (ya_length, .inl (cA 1, 128, .inl y_length)), (ya_units, .inl (cA 1, 5120, .inl f9)), (ya_isThere, .inl (cA 3, 5120, .inl y_isThere))] H := by rw [hy10]; exact hP
          have hD : va_D A [(y, .inr (6, [.ref y_space, .ref ya_offset, .ref ya_length, .ref ya_units, .ref ya_isThere, .int (z_i y_levels), .ref y_level, .int (z_i y_lines), .ref y_lineLevel, .ref y_lineUnits, .ref y_lineFrom, .ref y_lineMany, .ref y_isClosed, .ref y_insides, .ref y_parent, .ref y_isHigh, .ref y_inBits, .int (z_i y_sides), .ref y_side, .ref y_sideA, .ref y_sideB, .int (z_i y_lineSpace), .ref y_wasThere, .ref y_leads, .ref y_isLed, .ref y_isOn, .ref y_goesTo, .ref y_stream, .ref y_filled, .ref y_isDone, .ref y_isReached, .ref y_newUnits, .ref y_isNew])), (ya_offset, .inl (cA 1, 128, .inl y_offset)), (ya_length, .inl (cA 1, 128, .inl y_length)), (ya_units, .inl (cA 1, 5120, .inl f9)), (ya_isThere, .inl (cA 3, 5120, .inl y_isThere))] := by rw [hy10]; exact hD
          refine lv_aload_n hx hb dX8_height_104 rfl (lv_at hl 3 rfl) ?_
          refine va_get (D := D) (ci := 6) (v := .ref ya_isThere) (C := RX8) (T := TX8) (N := 33) hx hb hts (fun w h => List.mem_cons_of_mem _ (List.mem_append_right _ h)) hown hK hP 0 rfl rfl 4 (by decide) (hts (.fieldLink RX8 22 "ContourSheetsModel" "isThere" "[Z") (by decide +kernel)) (fun _ h9 => h9) rfl dX8_height_105 ?_
          refine lv_sipush (v := z_i 1280) hx hb dX8_height_108 (by decide) ?_
          refine lv_iload_n hx hb dX8_height_111 rfl (lv_at hl 4 rfl) ?_
          refine lx_imul hx hb dX8_height_112 ?_
          refine lv_bipush (v := z_i 40) hx hb dX8_height_113 (by decide) ?_
          refine lv_iload_n hx hb dX8_height_115 rfl (lv_at hl 5 rfl) ?_
          refine lx_imul hx hb dX8_height_116 ?_
          refine lx_iadd hx hb dX8_height_117 ?_
          refine lv_iload_n hx hb dX8_height_118 rfl (lv_at hl 6 rfl) ?_
          refine lx_iadd hx hb dX8_height_119 ?_
          refine lv_iconst (v := z_i 1) hx hb dX8_height_120 rfl ?_
          refine lx_zast hx hb hK hP hD hS 4 3 rfl rfl (by decide) hi8.1 hi8.2 (by decide) dX8_height_121 (fun H locs hP hD hS => ?_)
          obtain ⟨f11, hy12⟩ : ∃ y : Nat → Int32, y = z_s y_isThere (((1280 * gi) + (40 * i)) + j) 1 := ⟨_, rfl⟩
          have hv := hv f11 hy12
          have hP : va_P D vwCl [(y, .inr (6, [.ref y_space, .ref ya_offset, .ref ya_length, .ref ya_units, .ref ya_isThere, .int (z_i y_levels), .ref y_level, .int (z_i y_lines), .ref y_lineLevel, .ref y_lineUnits, .ref y_lineFrom, .ref y_lineMany, .ref y_isClosed, .ref y_insides, .ref y_parent, .ref y_isHigh, .ref y_inBits, .int (z_i y_sides), .ref y_side, .ref y_sideA, .ref y_sideB, .int (z_i y_lineSpace), .ref y_wasThere, .ref y_leads, .ref y_isLed, .ref y_isOn, .ref y_goesTo, .ref y_stream, .ref y_filled, .ref y_isDone, .ref y_isReached, .ref y_newUnits, .ref y_isNew])), (ya_offset, .inl (cA 1, 128, .inl y_offset)), (ya_length, .inl (cA 1, 128, .inl y_length)), (ya_units, .inl (cA 1, 5120, .inl f9)), (ya_isThere, .inl (cA 3, 5120, .inl f11))] H := by rw [hy12]; exact hP
          have hD : va_D A [(y, .inr (6, [.ref y_space, .ref ya_offset, .ref ya_length, .ref ya_units, .ref ya_isThere, .int (z_i y_levels), .ref y_level, .int (z_i y_lines), .ref y_lineLevel, .ref y_lineUnits, .ref y_lineFrom, .ref y_lineMany, .ref y_isClosed, .ref y_insides, .ref y_parent, .ref y_isHigh, .ref y_inBits, .int (z_i y_sides), .ref y_side, .ref y_sideA, .ref y_sideB, .int (z_i y_lineSpace), .ref y_wasThere, .ref y_leads, .ref y_isLed, .ref y_isOn, .ref y_goesTo, .ref y_stream, .ref y_filled, .ref y_isDone, .ref y_isReached, .ref y_newUnits, .ref y_isNew])), (ya_offset, .inl (cA 1, 128, .inl y_offset)), (ya_length, .inl (cA 1, 128, .inl y_length)), (ya_units, .inl (cA 1, 5120, .inl f9)), (ya_isThere, .inl (cA 3, 5120, .inl f11))] := by rw [hy12]; exact hD
          refine lv_iconst (v := z_i 1) hx hb dX8_height_122 rfl ?_
          exact W.zret (v := z_i 1) hx hb hr (by decide) (fun t ht hW => ⟨⟨z_i 1, (f9, f11), rfl, ⟨1, rfl, (show z_in 1 from ⟨by decide, by decide⟩), hv⟩, z_pt hP ht⟩, hS.F ht⟩) hS.2.2 dX8_height_123
        · have hv := hv.2 hc
          refine lv_iconst (v := z_i 0) hx hb dX8_height_82 rfl ?_
          exact W.zret (v := z_i 0) hx hb hr (by decide) (fun t ht hW => ⟨⟨z_i 0, (y_units, y_isThere), rfl, ⟨0, rfl, (show z_in 0 from ⟨by decide, by decide⟩), hv⟩, z_pt hP ht⟩, hS.F ht⟩) hS.2.2 dX8_height_83
    · have hv := hv.2 hc
      refine lv_fload hx hb dX8_height_30 (lv_at hl 0 rfl) ?_
      refine lv_ldcf (v := 1174405120) hx hb hown (hts (.constantFloat RX8 118 (1174405120)) (by decide +kernel)) dX8_height_32 ?_
      refine lx_fcmp hx hb dX8_height_34 ?_
      refine lx_if_gt (tgt := 42) hx hb dX8_height_35 (by decide) (z_in_of _) (fun hc => ?_) (fun hc => ?_)
      · have hv := hv.1 hc
        refine lv_iconst (v := z_i 0) hx hb dX8_height_42 rfl ?_
        refine lv_istore (lv' := [(6, .int (z_i 0)), (5, .float w2), (0, .ref y), (1, .int (z_i gi)), (2, .int (z_i i)), (3, .int (z_i j)), (4, .int (z_i bits))]) hx hb dX8_height_43 hl (by decide) rfl (fun ls hl => ?_)
        refine lv_iload hx hb dX8_height_45 (lv_at hl 0 rfl) ?_
        refine lx_if_eq (tgt := 58) hx hb dX8_height_47 (by decide) ⟨by decide, by decide⟩ (fun _ => ?_) (fun hc => absurd hc (by decide))
        refine lv_ldcf (v := 1056964608) hx hb hown (hts (.constantFloat RX8 120 (1056964608)) (by decide +kernel)) dX8_height_58 ?_
        refine lv_fstore (lv' := [(7, .float (1056964608 : UInt32)), (6, .int (z_i 0)), (5, .float w2), (0, .ref y), (1, .int (z_i gi)), (2, .int (z_i i)), (3, .int (z_i j)), (4, .int (z_i bits))]) hx hb dX8_height_60 hl (by decide) rfl (fun ls hl => ?_)
        refine lv_aload_n hx hb dX8_height_62 rfl (lv_at hl 3 rfl) ?_
        refine lv_iload_n hx hb dX8_height_63 rfl (lv_at hl 4 rfl) ?_
        refine lv_iload_n hx hb dX8_height_64 rfl (lv_at hl 5 rfl) ?_
        refine lv_iload_n hx hb dX8_height_65 rfl (lv_at hl 6 rfl) ?_
        obtain ⟨hp13, hv⟩ := hv
        refine va_calli (va_runV (As := [.int (z_i gi), .int (z_i i), .int (z_i j)]) (rest := []) ⟨hx, hb, hml, hown, hts⟩ (mt_X8_isOf l D cA y y_space ya_offset y_offset ya_length y_length ya_units ya_isThere y_levels y_level y_lines y_lineLevel y_lineUnits y_lineFrom y_lineMany y_isClosed y_insides y_parent y_isHigh y_inBits y_sides y_side y_sideA y_sideB y_lineSpace y_wasThere y_leads y_isLed y_isOn y_goesTo y_stream y_filled y_isDone y_isReached y_newUnits y_isNew gi i j h_y_levels h_y_lines h_y_sides h_y_lineSpace h_gi h_i h_j hp13) (cwV 3 hts gX8_height_X8_isOf rfl rfl rfl (by decide +kernel) ⟨Nat.le_of_ble_eq_true rfl, Nat.le_of_ble_eq_true rfl⟩) ⟨z_bl0, va_recv hK hP (ci := 6) (q0 := 0) rfl rfl, fun U hU hW => ⟨rfl, z_b0 hK (hP.sub (ws' := [(y, .inr (6, [.ref y_space, .ref ya_offset, .ref ya_length, .ref ya_units, .ref ya_isThere, .int (z_i y_levels), .ref y_level, .int (z_i y_lines), .ref y_lineLevel, .ref y_lineUnits, .ref y_lineFrom, .ref y_lineMany, .ref y_isClosed, .ref y_insides, .ref y_parent, .ref y_isHigh, .ref y_inBits, .int (z_i y_sides), .ref y_side, .ref y_sideA, .ref y_sideB, .int (z_i y_lineSpace), .ref y_wasThere, .ref y_leads, .ref y_isLed, .ref y_isOn, .ref y_goesTo, .ref y_stream, .ref y_filled, .ref y_isDone, .ref y_isReached, .ref y_newUnits, .ref y_isNew])), (ya_offset, .inl (cA 1, 128, .inl y_offset)), (ya_length, .inl (cA 1, 128, .inl y_length))]) [0, 1, 2] rfl) hU hW⟩⟩ rfl rfl hl.1 rfl (lv_room (Nat.le_of_ble_eq_true rfl)) dX8_height_66 ⟨Nat.zero_le _, Nat.zero_le _⟩) hS (fun q _ h => h.elim) (fun q h => h.elim) (fun r0 u t H locs ht hvm hw hB hz1 hk1 hS => ?_)
        obtain ⟨r14, rfl, h_r14, hw⟩ := hw
        have hP := z_P_all hP hk1
        have hv := hv r14 h_r14 hw
        refine lx_if_eq (tgt := 82) hx hb dX8_height_69 (by decide) h_r14 (fun hc => ?_) (fun hc => ?_)
        · have hv := hv.1 hc
          refine lv_iconst (v := z_i 0) hx hb dX8_height_82 rfl ?_
          exact W.zret (v := z_i 0) hx hb hr (by decide) (fun t ht hW => ⟨⟨z_i 0, (y_units, y_isThere), rfl, ⟨0, rfl, (show z_in 0 from ⟨by decide, by decide⟩), hv⟩, z_pt hP ht⟩, hS.F ht⟩) hS.2.2 dX8_height_83
        · have hv := hv.2 hc
          refine lv_fload hx hb dX8_height_72 (lv_at hl 0 rfl) ?_
          refine lv_fload hx hb dX8_height_74 (lv_at hl 0 rfl) ?_
          refine lx_f2i hx hb dX8_height_76 ?_
          refine lx_i2f hx hb dX8_height_77 ?_
          refine lv_topf (fun w15 hy16 => ?_)
          have hv := hv w15 hy16
          refine lx_fcmp hx hb dX8_height_78 ?_
          refine lx_if_eq (tgt := 84) hx hb dX8_height_79 (by decide) (z_in_of _) (fun hc => ?_) (fun hc => ?_)
          · have hv := hv.1 hc
            refine lv_aload_n hx hb dX8_height_84 rfl (lv_at hl 3 rfl) ?_
            refine va_get (D := D) (ci := 6) (v := .ref ya_units) (C := RX8) (T := TX8) (N := 33) hx hb hts (fun w h => List.mem_cons_of_mem _ (List.mem_append_right _ h)) hown hK hP 0 rfl rfl 3 (by decide) (hts (.fieldLink RX8 19 "ContourSheetsModel" "units" "[I") (by decide +kernel)) (fun _ h9 => h9) rfl dX8_height_85 ?_
            refine lv_sipush (v := z_i 1280) hx hb dX8_height_88 (by decide) ?_
            refine lv_iload_n hx hb dX8_height_91 rfl (lv_at hl 4 rfl) ?_
            refine lx_imul hx hb dX8_height_92 ?_
            refine lv_bipush (v := z_i 40) hx hb dX8_height_93 (by decide) ?_
            refine lv_iload_n hx hb dX8_height_95 rfl (lv_at hl 5 rfl) ?_
            refine lx_imul hx hb dX8_height_96 ?_
            refine lx_iadd hx hb dX8_height_97 ?_
            refine lv_iload_n hx hb dX8_height_98 rfl (lv_at hl 6 rfl) ?_
            refine lx_iadd hx hb dX8_height_99 ?_
            refine lv_fload hx hb dX8_height_100 (lv_at hl 0 rfl) ?_
            refine lx_f2i hx hb dX8_height_102 ?_
            obtain ⟨hi17, hv⟩ := hv
            refine lx_iast hx hb hK hP hD hS 3 1 rfl rfl (by decide) hi17.1 hi17.2 dX8_height_103 (fun H locs hP hD hS => ?_)
            obtain ⟨f18, hy19⟩ : ∃ y : Nat → Int32, y = z_s y_units (((1280 * gi) + (40 * i)) + j) (z_f2i (1056964608 : UInt32)) := ⟨_, rfl⟩
            have hv := hv f18 hy19
            have hP : va_P D vwCl [(y, .inr (6, [.ref y_space, .ref ya_offset, .ref ya_length, .ref ya_units, .ref ya_isThere, .int (z_i y_levels), .ref y_level, .int (z_i y_lines), .ref y_lineLevel, .ref y_lineUnits, .ref y_lineFrom, .ref y_lineMany, .ref y_isClosed, .ref y_insides, .ref y_parent, .ref y_isHigh, .ref y_inBits, .int (z_i y_sides), .ref y_side, .ref y_sideA, .ref y_sideB, .int (z_i y_lineSpace), .ref y_wasThere, .ref y_leads, .ref y_isLed, .ref y_isOn, .ref y_goesTo, .ref y_stream, .ref y_filled, .ref y_isDone, .ref y_isReached, .ref y_newUnits, .ref y_isNew])), (ya_offset, .inl (cA 1, 128, .inl y_offset)), (ya_length, .inl (cA 1, 128, .inl y_length)), (ya_units, .inl (cA 1, 5120, .inl f18)), (ya_isThere, .inl (cA 3, 5120, .inl y_isThere))] H := by rw [hy19]; exact hP
            have hD : va_D A [(y, .inr (6, [.ref y_space, .ref ya_offset, .ref ya_length, .ref ya_units, .ref ya_isThere, .int (z_i y_levels), .ref y_level, .int (z_i y_lines), .ref y_lineLevel, .ref y_lineUnits, .ref y_lineFrom, .ref y_lineMany, .ref y_isClosed, .ref y_insides, .ref y_parent, .ref y_isHigh, .ref y_inBits, .int (z_i y_sides), .ref y_side, .ref y_sideA, .ref y_sideB, .int (z_i y_lineSpace), .ref y_wasThere, .ref y_leads, .ref y_isLed, .ref y_isOn, .ref y_goesTo, .ref y_stream, .ref y_filled, .ref y_isDone, .ref y_isReached, .ref y_newUnits, .ref y_isNew])), (ya_offset, .inl (cA 1, 128, .inl y_offset)), (ya_length, .inl (cA 1, 128, .inl y_length)), (ya_units, .inl (cA 1, 5120, .inl f18)), (ya_isThere, .inl (cA 3, 5120, .inl y_isThere))] := by rw [hy19]; exact hD
            refine lv_aload_n hx hb dX8_height_104 rfl (lv_at hl 3 rfl) ?_
            refine va_get (D := D) (ci := 6) (v := .ref ya_isThere) (C := RX8) (T := TX8) (N := 33) hx hb hts (fun w h => List.mem_cons_of_mem _ (List.mem_append_right _ h)) hown hK hP 0 rfl rfl 4 (by decide) (hts (.fieldLink RX8 22 "ContourSheetsModel" "isThere" "[Z") (by decide +kernel)) (fun _ h9 => h9) rfl dX8_height_105 ?_
            refine lv_sipush (v := z_i 1280) hx hb dX8_height_108 (by decide) ?_
            refine lv_iload_n hx hb dX8_height_111 rfl (lv_at hl 4 rfl) ?_
            refine lx_imul hx hb dX8_height_112 ?_
            refine lv_bipush (v := z_i 40) hx hb dX8_height_113 (by decide) ?_
            refine lv_iload_n hx hb dX8_height_115 rfl (lv_at hl 5 rfl) ?_
            refine lx_imul hx hb dX8_height_116 ?_
            refine lx_iadd hx hb dX8_height_117 ?_
            refine lv_iload_n hx hb dX8_height_118 rfl (lv_at hl 6 rfl) ?_
            refine lx_iadd hx hb dX8_height_119 ?_
            refine lv_iconst (v := z_i 1) hx hb dX8_height_120 rfl ?_
            refine lx_zast hx hb hK hP hD hS 4 3 rfl rfl (by decide) hi17.1 hi17.2 (by decide) dX8_height_121 (fun H locs hP hD hS => ?_)
            obtain ⟨f20, hy21⟩ : ∃ y : Nat → Int32, y = z_s y_isThere (((1280 * gi) + (40 * i)) + j) 1 := ⟨_, rfl⟩
            have hv := hv f20 hy21
            have hP : va_P D vwCl [(y, .inr (6, [.ref y_space, .ref ya_offset, .ref ya_length, .ref ya_units, .ref ya_isThere, .int (z_i y_levels), .ref y_level, .int (z_i y_lines), .ref y_lineLevel, .ref y_lineUnits, .ref y_lineFrom, .ref y_lineMany, .ref y_isClosed, .ref y_insides, .ref y_parent, .ref y_isHigh, .ref y_inBits, .int (z_i y_sides), .ref y_side, .ref y_sideA, .ref y_sideB, .int (z_i y_lineSpace), .ref y_wasThere, .ref y_leads, .ref y_isLed, .ref y_isOn, .ref y_goesTo, .ref y_stream, .ref y_filled, .ref y_isDone, .ref y_isReached, .ref y_newUnits, .ref y_isNew])), (ya_offset, .inl (cA 1, 128, .inl y_offset)), (ya_length, .inl (cA 1, 128, .inl y_length)), (ya_units, .inl (cA 1, 5120, .inl f18)), (ya_isThere, .inl (cA 3, 5120, .inl f20))] H := by rw [hy21]; exact hP
            have hD : va_D A [(y, .inr (6, [.ref y_space, .ref ya_offset, .ref ya_length, .ref ya_units, .ref ya_isThere, .int (z_i y_levels), .ref y_level, .int (z_i y_lines), .ref y_lineLevel, .ref y_lineUnits, .ref y_lineFrom, .ref y_lineMany, .ref y_isClosed, .ref y_insides, .ref y_parent, .ref y_isHigh, .ref y_inBits, .int (z_i y_sides), .ref y_side, .ref y_sideA, .ref y_sideB, .int (z_i y_lineSpace), .ref y_wasThere, .ref y_leads, .ref y_isLed, .ref y_isOn, .ref y_goesTo, .ref y_stream, .ref y_filled, .ref y_isDone, .ref y_isReached, .ref y_newUnits, .ref y_isNew])), (ya_offset, .inl (cA 1, 128, .inl y_offset)), (ya_length, .inl (cA 1, 128, .inl y_length)), (ya_units, .inl (cA 1, 5120, .inl f18)), (ya_isThere, .inl (cA 3, 5120, .inl f20))] := by rw [hy21]; exact hD
            refine lv_iconst (v := z_i 1) hx hb dX8_height_122 rfl ?_
            exact W.zret (v := z_i 1) hx hb hr (by decide) (fun t ht hW => ⟨⟨z_i 1, (f18, f20), rfl, ⟨1, rfl, (show z_in 1 from ⟨by decide, by decide⟩), hv⟩, z_pt hP ht⟩, hS.F ht⟩) hS.2.2 dX8_height_123
          · have hv := hv.2 hc
            refine lv_iconst (v := z_i 0) hx hb dX8_height_82 rfl ?_
            exact W.zret (v := z_i 0) hx hb hr (by decide) (fun t ht hW => ⟨⟨z_i 0, (y_units, y_isThere), rfl, ⟨0, rfl, (show z_in 0 from ⟨by decide, by decide⟩), hv⟩, z_pt hP ht⟩, hS.F ht⟩) hS.2.2 dX8_height_83
      · have hv := hv.2 hc
        refine lv_iconst (v := z_i 1) hx hb dX8_height_38 rfl ?_
        refine lv_goto (tgt := 43) hx hb dX8_height_39 (by decide) ?_
        refine lv_istore (lv' := [(6, .int (z_i 1)), (5, .float w2), (0, .ref y), (1, .int (z_i gi)), (2, .int (z_i i)), (3, .int (z_i j)), (4, .int (z_i bits))]) hx hb dX8_height_43 hl (by decide) rfl (fun ls hl => ?_)
        refine lv_iload hx hb dX8_height_45 (lv_at hl 0 rfl) ?_
        refine lx_if_eq (tgt := 58) hx hb dX8_height_47 (by decide) ⟨by decide, by decide⟩ (fun hc => absurd hc (by decide)) (fun _ => ?_)
        refine lv_fload hx hb dX8_height_50 (lv_at hl 1 rfl) ?_
        refine lv_ldcf (v := 1149239296) hx hb hown (hts (.constantFloat RX8 119 (1149239296)) (by decide +kernel)) dX8_height_52 ?_
        obtain ⟨hf22, hv⟩ := hv
        refine lv_fmul hx hb dX8_height_54 hf22 ?_
        refine lv_topf (fun w23 hy24 => ?_)
        have hv := hv w23 hy24
        refine lv_goto (tgt := 60) hx hb dX8_height_55 (by decide) ?_
        refine lv_fstore (lv' := [(7, .float w23), (6, .int (z_i 1)), (5, .float w2), (0, .ref y), (1, .int (z_i gi)), (2, .int (z_i i)), (3, .int (z_i j)), (4, .int (z_i bits))]) hx hb dX8_height_60 hl (by decide) rfl (fun ls hl => ?_)
        refine lv_aload_n hx hb dX8_height_62 rfl (lv_at hl 3 rfl) ?_
        refine lv_iload_n hx hb dX8_height_63 rfl (lv_at hl 4 rfl) ?_
        refine lv_iload_n hx hb dX8_height_64 rfl (lv_at hl 5 rfl) ?_
        refine lv_iload_n hx hb dX8_height_65 rfl (lv_at hl 6 rfl) ?_
        obtain ⟨hp25, hv⟩ := hv
        refine va_calli (va_runV (As := [.int (z_i gi), .int (z_i i), .int (z_i j)]) (rest := []) ⟨hx, hb, hml, hown, hts⟩ (mt_X8_isOf l D cA y y_space ya_offset y_offset ya_length y_length ya_units ya_isThere y_levels y_level y_lines y_lineLevel y_lineUnits y_lineFrom y_lineMany y_isClosed y_insides y_parent y_isHigh y_inBits y_sides y_side y_sideA y_sideB y_lineSpace y_wasThere y_leads y_isLed y_isOn y_goesTo y_stream y_filled y_isDone y_isReached y_newUnits y_isNew gi i j h_y_levels h_y_lines h_y_sides h_y_lineSpace h_gi h_i h_j hp25) (cwV 3 hts gX8_height_X8_isOf rfl rfl rfl (by decide +kernel) ⟨Nat.le_of_ble_eq_true rfl, Nat.le_of_ble_eq_true rfl⟩) ⟨z_bl0, va_recv hK hP (ci := 6) (q0 := 0) rfl rfl, fun U hU hW => ⟨rfl, z_b0 hK (hP.sub (ws' := [(y, .inr (6, [.ref y_space, .ref ya_offset, .ref ya_length, .ref ya_units, .ref ya_isThere, .int (z_i y_levels), .ref y_level, .int (z_i y_lines), .ref y_lineLevel, .ref y_lineUnits, .ref y_lineFrom, .ref y_lineMany, .ref y_isClosed, .ref y_insides, .ref y_parent, .ref y_isHigh, .ref y_inBits, .int (z_i y_sides), .ref y_side, .ref y_sideA, .ref y_sideB, .int (z_i y_lineSpace), .ref y_wasThere, .ref y_leads, .ref y_isLed, .ref y_isOn, .ref y_goesTo, .ref y_stream, .ref y_filled, .ref y_isDone, .ref y_isReached, .ref y_newUnits, .ref y_isNew])), (ya_offset, .inl (cA 1, 128, .inl y_offset)), (ya_length, .inl (cA 1, 128, .inl y_length))]) [0, 1, 2] rfl) hU hW⟩⟩ rfl rfl hl.1 rfl (lv_room (Nat.le_of_ble_eq_true rfl)) dX8_height_66 ⟨Nat.zero_le _, Nat.zero_le _⟩) hS (fun q _ h => h.elim) (fun q h => h.elim) (fun r0 u t H locs ht hvm hw hB hz1 hk1 hS => ?_)
        obtain ⟨r26, rfl, h_r26, hw⟩ := hw
        have hP := z_P_all hP hk1
        have hv := hv r26 h_r26 hw
        refine lx_if_eq (tgt := 82) hx hb dX8_height_69 (by decide) h_r26 (fun hc => ?_) (fun hc => ?_)
        · have hv := hv.1 hc
          refine lv_iconst (v := z_i 0) hx hb dX8_height_82 rfl ?_
          exact W.zret (v := z_i 0) hx hb hr (by decide) (fun t ht hW => ⟨⟨z_i 0, (y_units, y_isThere), rfl, ⟨0, rfl, (show z_in 0 from ⟨by decide, by decide⟩), hv⟩, z_pt hP ht⟩, hS.F ht⟩) hS.2.2 dX8_height_83
        · have hv := hv.2 hc
          refine lv_fload hx hb dX8_height_72 (lv_at hl 0 rfl) ?_
          refine lv_fload hx hb dX8_height_74 (lv_at hl 0 rfl) ?_
          refine lx_f2i hx hb dX8_height_76 ?_
          refine lx_i2f hx hb dX8_height_77 ?_
          refine lv_topf (fun w27 hy28 => ?_)
          have hv := hv w27 hy28
          refine lx_fcmp hx hb dX8_height_78 ?_
          refine lx_if_eq (tgt := 84) hx hb dX8_height_79 (by decide) (z_in_of _) (fun hc => ?_) (fun hc => ?_)
          · have hv := hv.1 hc
            refine lv_aload_n hx hb dX8_height_84 rfl (lv_at hl 3 rfl) ?_
            refine va_get (D := D) (ci := 6) (v := .ref ya_units) (C := RX8) (T := TX8) (N := 33) hx hb hts (fun w h => List.mem_cons_of_mem _ (List.mem_append_right _ h)) hown hK hP 0 rfl rfl 3 (by decide) (hts (.fieldLink RX8 19 "ContourSheetsModel" "units" "[I") (by decide +kernel)) (fun _ h9 => h9) rfl dX8_height_85 ?_
            refine lv_sipush (v := z_i 1280) hx hb dX8_height_88 (by decide) ?_
            refine lv_iload_n hx hb dX8_height_91 rfl (lv_at hl 4 rfl) ?_
            refine lx_imul hx hb dX8_height_92 ?_
            refine lv_bipush (v := z_i 40) hx hb dX8_height_93 (by decide) ?_
            refine lv_iload_n hx hb dX8_height_95 rfl (lv_at hl 5 rfl) ?_
            refine lx_imul hx hb dX8_height_96 ?_
            refine lx_iadd hx hb dX8_height_97 ?_
            refine lv_iload_n hx hb dX8_height_98 rfl (lv_at hl 6 rfl) ?_
            refine lx_iadd hx hb dX8_height_99 ?_
            refine lv_fload hx hb dX8_height_100 (lv_at hl 0 rfl) ?_
            refine lx_f2i hx hb dX8_height_102 ?_
            obtain ⟨hi29, hv⟩ := hv
            refine lx_iast hx hb hK hP hD hS 3 1 rfl rfl (by decide) hi29.1 hi29.2 dX8_height_103 (fun H locs hP hD hS => ?_)
            obtain ⟨f30, hy31⟩ : ∃ y : Nat → Int32, y = z_s y_units (((1280 * gi) + (40 * i)) + j) (z_f2i w23) := ⟨_, rfl⟩
            have hv := hv f30 hy31
            have hP : va_P D vwCl [(y, .inr (6, [.ref y_space, .ref ya_offset, .ref ya_length, .ref ya_units, .ref ya_isThere, .int (z_i y_levels), .ref y_level, .int (z_i y_lines), .ref y_lineLevel, .ref y_lineUnits, .ref y_lineFrom, .ref y_lineMany, .ref y_isClosed, .ref y_insides, .ref y_parent, .ref y_isHigh, .ref y_inBits, .int (z_i y_sides), .ref y_side, .ref y_sideA, .ref y_sideB, .int (z_i y_lineSpace), .ref y_wasThere, .ref y_leads, .ref y_isLed, .ref y_isOn, .ref y_goesTo, .ref y_stream, .ref y_filled, .ref y_isDone, .ref y_isReached, .ref y_newUnits, .ref y_isNew])), (ya_offset, .inl (cA 1, 128, .inl y_offset)), (ya_length, .inl (cA 1, 128, .inl y_length)), (ya_units, .inl (cA 1, 5120, .inl f30)), (ya_isThere, .inl (cA 3, 5120, .inl y_isThere))] H := by rw [hy31]; exact hP
            have hD : va_D A [(y, .inr (6, [.ref y_space, .ref ya_offset, .ref ya_length, .ref ya_units, .ref ya_isThere, .int (z_i y_levels), .ref y_level, .int (z_i y_lines), .ref y_lineLevel, .ref y_lineUnits, .ref y_lineFrom, .ref y_lineMany, .ref y_isClosed, .ref y_insides, .ref y_parent, .ref y_isHigh, .ref y_inBits, .int (z_i y_sides), .ref y_side, .ref y_sideA, .ref y_sideB, .int (z_i y_lineSpace), .ref y_wasThere, .ref y_leads, .ref y_isLed, .ref y_isOn, .ref y_goesTo, .ref y_stream, .ref y_filled, .ref y_isDone, .ref y_isReached, .ref y_newUnits, .ref y_isNew])), (ya_offset, .inl (cA 1, 128, .inl y_offset)), (ya_length, .inl (cA 1, 128, .inl y_length)), (ya_units, .inl (cA 1, 5120, .inl f30)), (ya_isThere, .inl (cA 3, 5120, .inl y_isThere))] := by rw [hy31]; exact hD
            refine lv_aload_n hx hb dX8_height_104 rfl (lv_at hl 3 rfl) ?_
            refine va_get (D := D) (ci := 6) (v := .ref ya_isThere) (C := RX8) (T := TX8) (N := 33) hx hb hts (fun w h => List.mem_cons_of_mem _ (List.mem_append_right _ h)) hown hK hP 0 rfl rfl 4 (by decide) (hts (.fieldLink RX8 22 "ContourSheetsModel" "isThere" "[Z") (by decide +kernel)) (fun _ h9 => h9) rfl dX8_height_105 ?_
            refine lv_sipush (v := z_i 1280) hx hb dX8_height_108 (by decide) ?_
            refine lv_iload_n hx hb dX8_height_111 rfl (lv_at hl 4 rfl) ?_
            refine lx_imul hx hb dX8_height_112 ?_
            refine lv_bipush (v := z_i 40) hx hb dX8_height_113 (by decide) ?_
            refine lv_iload_n hx hb dX8_height_115 rfl (lv_at hl 5 rfl) ?_
            refine lx_imul hx hb dX8_height_116 ?_
            refine lx_iadd hx hb dX8_height_117 ?_
            refine lv_iload_n hx hb dX8_height_118 rfl (lv_at hl 6 rfl) ?_
            refine lx_iadd hx hb dX8_height_119 ?_
            refine lv_iconst (v := z_i 1) hx hb dX8_height_120 rfl ?_
            refine lx_zast hx hb hK hP hD hS 4 3 rfl rfl (by decide) hi29.1 hi29.2 (by decide) dX8_height_121 (fun H locs hP hD hS => ?_)
            obtain ⟨f32, hy33⟩ : ∃ y : Nat → Int32, y = z_s y_isThere (((1280 * gi) + (40 * i)) + j) 1 := ⟨_, rfl⟩
            have hv := hv f32 hy33
            have hP : va_P D vwCl [(y, .inr (6, [.ref y_space, .ref ya_offset, .ref ya_length, .ref ya_units, .ref ya_isThere, .int (z_i y_levels), .ref y_level, .int (z_i y_lines), .ref y_lineLevel, .ref y_lineUnits, .ref y_lineFrom, .ref y_lineMany, .ref y_isClosed, .ref y_insides, .ref y_parent, .ref y_isHigh, .ref y_inBits, .int (z_i y_sides), .ref y_side, .ref y_sideA, .ref y_sideB, .int (z_i y_lineSpace), .ref y_wasThere, .ref y_leads, .ref y_isLed, .ref y_isOn, .ref y_goesTo, .ref y_stream, .ref y_filled, .ref y_isDone, .ref y_isReached, .ref y_newUnits, .ref y_isNew])), (ya_offset, .inl (cA 1, 128, .inl y_offset)), (ya_length, .inl (cA 1, 128, .inl y_length)), (ya_units, .inl (cA 1, 5120, .inl f30)), (ya_isThere, .inl (cA 3, 5120, .inl f32))] H := by rw [hy33]; exact hP
            have hD : va_D A [(y, .inr (6, [.ref y_space, .ref ya_offset, .ref ya_length, .ref ya_units, .ref ya_isThere, .int (z_i y_levels), .ref y_level, .int (z_i y_lines), .ref y_lineLevel, .ref y_lineUnits, .ref y_lineFrom, .ref y_lineMany, .ref y_isClosed, .ref y_insides, .ref y_parent, .ref y_isHigh, .ref y_inBits, .int (z_i y_sides), .ref y_side, .ref y_sideA, .ref y_sideB, .int (z_i y_lineSpace), .ref y_wasThere, .ref y_leads, .ref y_isLed, .ref y_isOn, .ref y_goesTo, .ref y_stream, .ref y_filled, .ref y_isDone, .ref y_isReached, .ref y_newUnits, .ref y_isNew])), (ya_offset, .inl (cA 1, 128, .inl y_offset)), (ya_length, .inl (cA 1, 128, .inl y_length)), (ya_units, .inl (cA 1, 5120, .inl f30)), (ya_isThere, .inl (cA 3, 5120, .inl f32))] := by rw [hy33]; exact hD
            refine lv_iconst (v := z_i 1) hx hb dX8_height_122 rfl ?_
            exact W.zret (v := z_i 1) hx hb hr (by decide) (fun t ht hW => ⟨⟨z_i 1, (f30, f32), rfl, ⟨1, rfl, (show z_in 1 from ⟨by decide, by decide⟩), hv⟩, z_pt hP ht⟩, hS.F ht⟩) hS.2.2 dX8_height_123
          · have hv := hv.2 hc
            refine lv_iconst (v := z_i 0) hx hb dX8_height_82 rfl ?_
            exact W.zret (v := z_i 0) hx hb hr (by decide) (fun t ht hW => ⟨⟨z_i 0, (y_units, y_isThere), rfl, ⟨0, rfl, (show z_in 0 from ⟨by decide, by decide⟩), hv⟩, z_pt hP ht⟩, hS.F ht⟩) hS.2.2 dX8_height_83
  · have hv := hv.2 hc
    refine lx_ldc (a := 2143289344) hx hb hown (hts (.constant RX8 110 (2143289344)) (by decide +kernel)) (by decide) dX8_height_10 ?_
    refine lv_goto (tgt := 17) hx hb dX8_height_12 (by decide) ?_
    obtain ⟨hf34, hv⟩ := hv
    refine vx_i2f hx hb (hml.trans hl.1.symm) hown (hts (.methodLink RX8 111 ⟨"java/lang/Float", "intBitsToFloat", "(I)F"⟩) (by decide +kernel)) (hts (.native ⟨"java/lang/Float", "intBitsToFloat", "(I)F"⟩) (by decide +kernel)) (hts (.static ⟨"java/lang/Float", "intBitsToFloat", "(I)F"⟩) (by decide +kernel)) (hts (.initialized "java/lang/Float") (by decide +kernel)) hf34 (Nat.le_of_ble_eq_true rfl) (Nat.le_of_ble_eq_true rfl) dX8_height_17 ?_
    refine lv_topf (fun w35 hy36 => ?_)
    have hv := hv w35 hy36
    refine lv_fstore (lv' := [(5, .float w35), (0, .ref y), (1, .int (z_i gi)), (2, .int (z_i i)), (3, .int (z_i j)), (4, .int (z_i bits))]) hx hb dX8_height_20 hl (by decide) rfl (fun ls hl => ?_)
    refine lv_fload hx hb dX8_height_22 (lv_at hl 0 rfl) ?_
    refine lv_ldcf (v := 3321888768) hx hb hown (hts (.constantFloat RX8 117 (3321888768)) (by decide +kernel)) dX8_height_24 ?_
    refine lx_fcmp hx hb dX8_height_26 ?_
    refine lx_if_lt (tgt := 42) hx hb dX8_height_27 (by decide) (z_in_of _) (fun hc => ?_) (fun hc => ?_)
    · have hv := hv.1 hc
      refine lv_iconst (v := z_i 0) hx hb dX8_height_42 rfl ?_
      refine lv_istore (lv' := [(6, .int (z_i 0)), (5, .float w35), (0, .ref y), (1, .int (z_i gi)), (2, .int (z_i i)), (3, .int (z_i j)), (4, .int (z_i bits))]) hx hb dX8_height_43 hl (by decide) rfl (fun ls hl => ?_)
      refine lv_iload hx hb dX8_height_45 (lv_at hl 0 rfl) ?_
      refine lx_if_eq (tgt := 58) hx hb dX8_height_47 (by decide) ⟨by decide, by decide⟩ (fun _ => ?_) (fun hc => absurd hc (by decide))
      refine lv_ldcf (v := 1056964608) hx hb hown (hts (.constantFloat RX8 120 (1056964608)) (by decide +kernel)) dX8_height_58 ?_
      refine lv_fstore (lv' := [(7, .float (1056964608 : UInt32)), (6, .int (z_i 0)), (5, .float w35), (0, .ref y), (1, .int (z_i gi)), (2, .int (z_i i)), (3, .int (z_i j)), (4, .int (z_i bits))]) hx hb dX8_height_60 hl (by decide) rfl (fun ls hl => ?_)
      refine lv_aload_n hx hb dX8_height_62 rfl (lv_at hl 3 rfl) ?_
      refine lv_iload_n hx hb dX8_height_63 rfl (lv_at hl 4 rfl) ?_
      refine lv_iload_n hx hb dX8_height_64 rfl (lv_at hl 5 rfl) ?_
      refine lv_iload_n hx hb dX8_height_65 rfl (lv_at hl 6 rfl) ?_
      obtain ⟨hp37, hv⟩ := hv
      refine va_calli (va_runV (As := [.int (z_i gi), .int (z_i i), .int (z_i j)]) (rest := []) ⟨hx, hb, hml, hown, hts⟩ (mt_X8_isOf l D cA y y_space ya_offset y_offset ya_length y_length ya_units ya_isThere y_levels y_level y_lines y_lineLevel y_lineUnits y_lineFrom y_lineMany y_isClosed y_insides y_parent y_isHigh y_inBits y_sides y_side y_sideA y_sideB y_lineSpace y_wasThere y_leads y_isLed y_isOn y_goesTo y_stream y_filled y_isDone y_isReached y_newUnits y_isNew gi i j h_y_levels h_y_lines h_y_sides h_y_lineSpace h_gi h_i h_j hp37) (cwV 3 hts gX8_height_X8_isOf rfl rfl rfl (by decide +kernel) ⟨Nat.le_of_ble_eq_true rfl, Nat.le_of_ble_eq_true rfl⟩) ⟨z_bl0, va_recv hK hP (ci := 6) (q0 := 0) rfl rfl, fun U hU hW => ⟨rfl, z_b0 hK (hP.sub (ws' := [(y, .inr (6, [.ref y_space, .ref ya_offset, .ref ya_length, .ref ya_units, .ref ya_isThere, .int (z_i y_levels), .ref y_level, .int (z_i y_lines), .ref y_lineLevel, .ref y_lineUnits, .ref y_lineFrom, .ref y_lineMany, .ref y_isClosed, .ref y_insides, .ref y_parent, .ref y_isHigh, .ref y_inBits, .int (z_i y_sides), .ref y_side, .ref y_sideA, .ref y_sideB, .int (z_i y_lineSpace), .ref y_wasThere, .ref y_leads, .ref y_isLed, .ref y_isOn, .ref y_goesTo, .ref y_stream, .ref y_filled, .ref y_isDone, .ref y_isReached, .ref y_newUnits, .ref y_isNew])), (ya_offset, .inl (cA 1, 128, .inl y_offset)), (ya_length, .inl (cA 1, 128, .inl y_length))]) [0, 1, 2] rfl) hU hW⟩⟩ rfl rfl hl.1 rfl (lv_room (Nat.le_of_ble_eq_true rfl)) dX8_height_66 ⟨Nat.zero_le _, Nat.zero_le _⟩) hS (fun q _ h => h.elim) (fun q h => h.elim) (fun r0 u t H locs ht hvm hw hB hz1 hk1 hS => ?_)
      obtain ⟨r38, rfl, h_r38, hw⟩ := hw
      have hP := z_P_all hP hk1
      have hv := hv r38 h_r38 hw
      refine lx_if_eq (tgt := 82) hx hb dX8_height_69 (by decide) h_r38 (fun hc => ?_) (fun hc => ?_)
      · have hv := hv.1 hc
        refine lv_iconst (v := z_i 0) hx hb dX8_height_82 rfl ?_
        exact W.zret (v := z_i 0) hx hb hr (by decide) (fun t ht hW => ⟨⟨z_i 0, (y_units, y_isThere), rfl, ⟨0, rfl, (show z_in 0 from ⟨by decide, by decide⟩), hv⟩, z_pt hP ht⟩, hS.F ht⟩) hS.2.2 dX8_height_83
      · have hv := hv.2 hc
        refine lv_fload hx hb dX8_height_72 (lv_at hl 0 rfl) ?_
        refine lv_fload hx hb dX8_height_74 (lv_at hl 0 rfl) ?_
        refine lx_f2i hx hb dX8_height_76 ?_
        refine lx_i2f hx hb dX8_height_77 ?_
        refine lv_topf (fun w39 hy40 => ?_)
        have hv := hv w39 hy40
        refine lx_fcmp hx hb dX8_height_78 ?_
        refine lx_if_eq (tgt := 84) hx hb dX8_height_79 (by decide) (z_in_of _) (fun hc => ?_) (fun hc => ?_)
        · have hv := hv.1 hc
          refine lv_aload_n hx hb dX8_height_84 rfl (lv_at hl 3 rfl) ?_
          refine va_get (D := D) (ci := 6) (v := .ref ya_units) (C := RX8) (T := TX8) (N := 33) hx hb hts (fun w h => List.mem_cons_of_mem _ (List.mem_append_right _ h)) hown hK hP 0 rfl rfl 3 (by decide) (hts (.fieldLink RX8 19 "ContourSheetsModel" "units" "[I") (by decide +kernel)) (fun _ h9 => h9) rfl dX8_height_85 ?_
          refine lv_sipush (v := z_i 1280) hx hb dX8_height_88 (by decide) ?_
          refine lv_iload_n hx hb dX8_height_91 rfl (lv_at hl 4 rfl) ?_
          refine lx_imul hx hb dX8_height_92 ?_
          refine lv_bipush (v := z_i 40) hx hb dX8_height_93 (by decide) ?_
          refine lv_iload_n hx hb dX8_height_95 rfl (lv_at hl 5 rfl) ?_
          refine lx_imul hx hb dX8_height_96 ?_
          refine lx_iadd hx hb dX8_height_97 ?_
          refine lv_iload_n hx hb dX8_height_98 rfl (lv_at hl 6 rfl) ?_
          refine lx_iadd hx hb dX8_height_99 ?_
          refine lv_fload hx hb dX8_height_100 (lv_at hl 0 rfl) ?_
          refine lx_f2i hx hb dX8_height_102 ?_
          obtain ⟨hi41, hv⟩ := hv
          refine lx_iast hx hb hK hP hD hS 3 1 rfl rfl (by decide) hi41.1 hi41.2 dX8_height_103 (fun H locs hP hD hS => ?_)
          obtain ⟨f42, hy43⟩ : ∃ y : Nat → Int32, y = z_s y_units (((1280 * gi) + (40 * i)) + j) (z_f2i (1056964608 : UInt32)) := ⟨_, rfl⟩
          have hv := hv f42 hy43
          have hP : va_P D vwCl [(y, .inr (6, [.ref y_space, .ref ya_offset, .ref ya_length, .ref ya_units, .ref ya_isThere, .int (z_i y_levels), .ref y_level, .int (z_i y_lines), .ref y_lineLevel, .ref y_lineUnits, .ref y_lineFrom, .ref y_lineMany, .ref y_isClosed, .ref y_insides, .ref y_parent, .ref y_isHigh, .ref y_inBits, .int (z_i y_sides), .ref y_side, .ref y_sideA, .ref y_sideB, .int (z_i y_lineSpace), .ref y_wasThere, .ref y_leads, .ref y_isLed, .ref y_isOn, .ref y_goesTo, .ref y_stream, .ref y_filled, .ref y_isDone, .ref y_isReached, .ref y_newUnits, .ref y_isNew])), (ya_offset, .inl (cA 1, 128, .inl y_offset)), (ya_length, .inl (cA 1, 128, .inl y_length)), (ya_units, .inl (cA 1, 5120, .inl f42)), (ya_isThere, .inl (cA 3, 5120, .inl y_isThere))] H := by rw [hy43]; exact hP
          have hD : va_D A [(y, .inr (6, [.ref y_space, .ref ya_offset, .ref ya_length, .ref ya_units, .ref ya_isThere, .int (z_i y_levels), .ref y_level, .int (z_i y_lines), .ref y_lineLevel, .ref y_lineUnits, .ref y_lineFrom, .ref y_lineMany, .ref y_isClosed, .ref y_insides, .ref y_parent, .ref y_isHigh, .ref y_inBits, .int (z_i y_sides), .ref y_side, .ref y_sideA, .ref y_sideB, .int (z_i y_lineSpace), .ref y_wasThere, .ref y_leads, .ref y_isLed, .ref y_isOn, .ref y_goesTo, .ref y_stream, .ref y_filled, .ref y_isDone, .ref y_isReached, .ref y_newUnits, .ref y_isNew])), (ya_offset, .inl (cA 1, 128, .inl y_offset)), (ya_length, .inl (cA 1, 128, .inl y_length)), (ya_units, .inl (cA 1, 5120, .inl f42)), (ya_isThere, .inl (cA 3, 5120, .inl y_isThere))] := by rw [hy43]; exact hD
          refine lv_aload_n hx hb dX8_height_104 rfl (lv_at hl 3 rfl) ?_
          refine va_get (D := D) (ci := 6) (v := .ref ya_isThere) (C := RX8) (T := TX8) (N := 33) hx hb hts (fun w h => List.mem_cons_of_mem _ (List.mem_append_right _ h)) hown hK hP 0 rfl rfl 4 (by decide) (hts (.fieldLink RX8 22 "ContourSheetsModel" "isThere" "[Z") (by decide +kernel)) (fun _ h9 => h9) rfl dX8_height_105 ?_
          refine lv_sipush (v := z_i 1280) hx hb dX8_height_108 (by decide) ?_
          refine lv_iload_n hx hb dX8_height_111 rfl (lv_at hl 4 rfl) ?_
          refine lx_imul hx hb dX8_height_112 ?_
          refine lv_bipush (v := z_i 40) hx hb dX8_height_113 (by decide) ?_
          refine lv_iload_n hx hb dX8_height_115 rfl (lv_at hl 5 rfl) ?_
          refine lx_imul hx hb dX8_height_116 ?_
          refine lx_iadd hx hb dX8_height_117 ?_
          refine lv_iload_n hx hb dX8_height_118 rfl (lv_at hl 6 rfl) ?_
          refine lx_iadd hx hb dX8_height_119 ?_
          refine lv_iconst (v := z_i 1) hx hb dX8_height_120 rfl ?_
          refine lx_zast hx hb hK hP hD hS 4 3 rfl rfl (by decide) hi41.1 hi41.2 (by decide) dX8_height_121 (fun H locs hP hD hS => ?_)
          obtain ⟨f44, hy45⟩ : ∃ y : Nat → Int32, y = z_s y_isThere (((1280 * gi) + (40 * i)) + j) 1 := ⟨_, rfl⟩
          have hv := hv f44 hy45
          have hP : va_P D vwCl [(y, .inr (6, [.ref y_space, .ref ya_offset, .ref ya_length, .ref ya_units, .ref ya_isThere, .int (z_i y_levels), .ref y_level, .int (z_i y_lines), .ref y_lineLevel, .ref y_lineUnits, .ref y_lineFrom, .ref y_lineMany, .ref y_isClosed, .ref y_insides, .ref y_parent, .ref y_isHigh, .ref y_inBits, .int (z_i y_sides), .ref y_side, .ref y_sideA, .ref y_sideB, .int (z_i y_lineSpace), .ref y_wasThere, .ref y_leads, .ref y_isLed, .ref y_isOn, .ref y_goesTo, .ref y_stream, .ref y_filled, .ref y_isDone, .ref y_isReached, .ref y_newUnits, .ref y_isNew])), (ya_offset, .inl (cA 1, 128, .inl y_offset)), (ya_length, .inl (cA 1, 128, .inl y_length)), (ya_units, .inl (cA 1, 5120, .inl f42)), (ya_isThere, .inl (cA 3, 5120, .inl f44))] H := by rw [hy45]; exact hP
          have hD : va_D A [(y, .inr (6, [.ref y_space, .ref ya_offset, .ref ya_length, .ref ya_units, .ref ya_isThere, .int (z_i y_levels), .ref y_level, .int (z_i y_lines), .ref y_lineLevel, .ref y_lineUnits, .ref y_lineFrom, .ref y_lineMany, .ref y_isClosed, .ref y_insides, .ref y_parent, .ref y_isHigh, .ref y_inBits, .int (z_i y_sides), .ref y_side, .ref y_sideA, .ref y_sideB, .int (z_i y_lineSpace), .ref y_wasThere, .ref y_leads, .ref y_isLed, .ref y_isOn, .ref y_goesTo, .ref y_stream, .ref y_filled, .ref y_isDone, .ref y_isReached, .ref y_newUnits, .ref y_isNew])), (ya_offset, .inl (cA 1, 128, .inl y_offset)), (ya_length, .inl (cA 1, 128, .inl y_length)), (ya_units, .inl (cA 1, 5120, .inl f42)), (ya_isThere, .inl (cA 3, 5120, .inl f44))] := by rw [hy45]; exact hD
          refine lv_iconst (v := z_i 1) hx hb dX8_height_122 rfl ?_
          exact W.zret (v := z_i 1) hx hb hr (by decide) (fun t ht hW => ⟨⟨z_i 1, (f42, f44), rfl, ⟨1, rfl, (show z_in 1 from ⟨by decide, by decide⟩), hv⟩, z_pt hP ht⟩, hS.F ht⟩) hS.2.2 dX8_height_123
        · have hv := hv.2 hc
          refine lv_iconst (v := z_i 0) hx hb dX8_height_82 rfl ?_
          exact W.zret (v := z_i 0) hx hb hr (by decide) (fun t ht hW => ⟨⟨z_i 0, (y_units, y_isThere), rfl, ⟨0, rfl, (show z_in 0 from ⟨by decide, by decide⟩), hv⟩, z_pt hP ht⟩, hS.F ht⟩) hS.2.2 dX8_height_83
    · have hv := hv.2 hc
      refine lv_fload hx hb dX8_height_30 (lv_at hl 0 rfl) ?_
      refine lv_ldcf (v := 1174405120) hx hb hown (hts (.constantFloat RX8 118 (1174405120)) (by decide +kernel)) dX8_height_32 ?_
      refine lx_fcmp hx hb dX8_height_34 ?_
      refine lx_if_gt (tgt := 42) hx hb dX8_height_35 (by decide) (z_in_of _) (fun hc => ?_) (fun hc => ?_)
      · have hv := hv.1 hc
        refine lv_iconst (v := z_i 0) hx hb dX8_height_42 rfl ?_
        refine lv_istore (lv' := [(6, .int (z_i 0)), (5, .float w35), (0, .ref y), (1, .int (z_i gi)), (2, .int (z_i i)), (3, .int (z_i j)), (4, .int (z_i bits))]) hx hb dX8_height_43 hl (by decide) rfl (fun ls hl => ?_)
        refine lv_iload hx hb dX8_height_45 (lv_at hl 0 rfl) ?_
        refine lx_if_eq (tgt := 58) hx hb dX8_height_47 (by decide) ⟨by decide, by decide⟩ (fun _ => ?_) (fun hc => absurd hc (by decide))
        refine lv_ldcf (v := 1056964608) hx hb hown (hts (.constantFloat RX8 120 (1056964608)) (by decide +kernel)) dX8_height_58 ?_
        refine lv_fstore (lv' := [(7, .float (1056964608 : UInt32)), (6, .int (z_i 0)), (5, .float w35), (0, .ref y), (1, .int (z_i gi)), (2, .int (z_i i)), (3, .int (z_i j)), (4, .int (z_i bits))]) hx hb dX8_height_60 hl (by decide) rfl (fun ls hl => ?_)
        refine lv_aload_n hx hb dX8_height_62 rfl (lv_at hl 3 rfl) ?_
        refine lv_iload_n hx hb dX8_height_63 rfl (lv_at hl 4 rfl) ?_
        refine lv_iload_n hx hb dX8_height_64 rfl (lv_at hl 5 rfl) ?_
        refine lv_iload_n hx hb dX8_height_65 rfl (lv_at hl 6 rfl) ?_
        obtain ⟨hp46, hv⟩ := hv
        refine va_calli (va_runV (As := [.int (z_i gi), .int (z_i i), .int (z_i j)]) (rest := []) ⟨hx, hb, hml, hown, hts⟩ (mt_X8_isOf l D cA y y_space ya_offset y_offset ya_length y_length ya_units ya_isThere y_levels y_level y_lines y_lineLevel y_lineUnits y_lineFrom y_lineMany y_isClosed y_insides y_parent y_isHigh y_inBits y_sides y_side y_sideA y_sideB y_lineSpace y_wasThere y_leads y_isLed y_isOn y_goesTo y_stream y_filled y_isDone y_isReached y_newUnits y_isNew gi i j h_y_levels h_y_lines h_y_sides h_y_lineSpace h_gi h_i h_j hp46) (cwV 3 hts gX8_height_X8_isOf rfl rfl rfl (by decide +kernel) ⟨Nat.le_of_ble_eq_true rfl, Nat.le_of_ble_eq_true rfl⟩) ⟨z_bl0, va_recv hK hP (ci := 6) (q0 := 0) rfl rfl, fun U hU hW => ⟨rfl, z_b0 hK (hP.sub (ws' := [(y, .inr (6, [.ref y_space, .ref ya_offset, .ref ya_length, .ref ya_units, .ref ya_isThere, .int (z_i y_levels), .ref y_level, .int (z_i y_lines), .ref y_lineLevel, .ref y_lineUnits, .ref y_lineFrom, .ref y_lineMany, .ref y_isClosed, .ref y_insides, .ref y_parent, .ref y_isHigh, .ref y_inBits, .int (z_i y_sides), .ref y_side, .ref y_sideA, .ref y_sideB, .int (z_i y_lineSpace), .ref y_wasThere, .ref y_leads, .ref y_isLed, .ref y_isOn, .ref y_goesTo, .ref y_stream, .ref y_filled, .ref y_isDone, .ref y_isReached, .ref y_newUnits, .ref y_isNew])), (ya_offset, .inl (cA 1, 128, .inl y_offset)), (ya_length, .inl (cA 1, 128, .inl y_length))]) [0, 1, 2] rfl) hU hW⟩⟩ rfl rfl hl.1 rfl (lv_room (Nat.le_of_ble_eq_true rfl)) dX8_height_66 ⟨Nat.zero_le _, Nat.zero_le _⟩) hS (fun q _ h => h.elim) (fun q h => h.elim) (fun r0 u t H locs ht hvm hw hB hz1 hk1 hS => ?_)
        obtain ⟨r47, rfl, h_r47, hw⟩ := hw
        have hP := z_P_all hP hk1
        have hv := hv r47 h_r47 hw
        refine lx_if_eq (tgt := 82) hx hb dX8_height_69 (by decide) h_r47 (fun hc => ?_) (fun hc => ?_)
        · have hv := hv.1 hc
          refine lv_iconst (v := z_i 0) hx hb dX8_height_82 rfl ?_
          exact W.zret (v := z_i 0) hx hb hr (by decide) (fun t ht hW => ⟨⟨z_i 0, (y_units, y_isThere), rfl, ⟨0, rfl, (show z_in 0 from ⟨by decide, by decide⟩), hv⟩, z_pt hP ht⟩, hS.F ht⟩) hS.2.2 dX8_height_83
        · have hv := hv.2 hc
          refine lv_fload hx hb dX8_height_72 (lv_at hl 0 rfl) ?_
          refine lv_fload hx hb dX8_height_74 (lv_at hl 0 rfl) ?_
          refine lx_f2i hx hb dX8_height_76 ?_
          refine lx_i2f hx hb dX8_height_77 ?_
          refine lv_topf (fun w48 hy49 => ?_)
          have hv := hv w48 hy49
          refine lx_fcmp hx hb dX8_height_78 ?_
          refine lx_if_eq (tgt := 84) hx hb dX8_height_79 (by decide) (z_in_of _) (fun hc => ?_) (fun hc => ?_)
          · have hv := hv.1 hc
            refine lv_aload_n hx hb dX8_height_84 rfl (lv_at hl 3 rfl) ?_
            refine va_get (D := D) (ci := 6) (v := .ref ya_units) (C := RX8) (T := TX8) (N := 33) hx hb hts (fun w h => List.mem_cons_of_mem _ (List.mem_append_right _ h)) hown hK hP 0 rfl rfl 3 (by decide) (hts (.fieldLink RX8 19 "ContourSheetsModel" "units" "[I") (by decide +kernel)) (fun _ h9 => h9) rfl dX8_height_85 ?_
            refine lv_sipush (v := z_i 1280) hx hb dX8_height_88 (by decide) ?_
            refine lv_iload_n hx hb dX8_height_91 rfl (lv_at hl 4 rfl) ?_
            refine lx_imul hx hb dX8_height_92 ?_
            refine lv_bipush (v := z_i 40) hx hb dX8_height_93 (by decide) ?_
            refine lv_iload_n hx hb dX8_height_95 rfl (lv_at hl 5 rfl) ?_
            refine lx_imul hx hb dX8_height_96 ?_
            refine lx_iadd hx hb dX8_height_97 ?_
            refine lv_iload_n hx hb dX8_height_98 rfl (lv_at hl 6 rfl) ?_
            refine lx_iadd hx hb dX8_height_99 ?_
            refine lv_fload hx hb dX8_height_100 (lv_at hl 0 rfl) ?_
            refine lx_f2i hx hb dX8_height_102 ?_
            obtain ⟨hi50, hv⟩ := hv
            refine lx_iast hx hb hK hP hD hS 3 1 rfl rfl (by decide) hi50.1 hi50.2 dX8_height_103 (fun H locs hP hD hS => ?_)
            obtain ⟨f51, hy52⟩ : ∃ y : Nat → Int32, y = z_s y_units (((1280 * gi) + (40 * i)) + j) (z_f2i (1056964608 : UInt32)) := ⟨_, rfl⟩
            have hv := hv f51 hy52
            have hP : va_P D vwCl [(y, .inr (6, [.ref y_space, .ref ya_offset, .ref ya_length, .ref ya_units, .ref ya_isThere, .int (z_i y_levels), .ref y_level, .int (z_i y_lines), .ref y_lineLevel, .ref y_lineUnits, .ref y_lineFrom, .ref y_lineMany, .ref y_isClosed, .ref y_insides, .ref y_parent, .ref y_isHigh, .ref y_inBits, .int (z_i y_sides), .ref y_side, .ref y_sideA, .ref y_sideB, .int (z_i y_lineSpace), .ref y_wasThere, .ref y_leads, .ref y_isLed, .ref y_isOn, .ref y_goesTo, .ref y_stream, .ref y_filled, .ref y_isDone, .ref y_isReached, .ref y_newUnits, .ref y_isNew])), (ya_offset, .inl (cA 1, 128, .inl y_offset)), (ya_length, .inl (cA 1, 128, .inl y_length)), (ya_units, .inl (cA 1, 5120, .inl f51)), (ya_isThere, .inl (cA 3, 5120, .inl y_isThere))] H := by rw [hy52]; exact hP
            have hD : va_D A [(y, .inr (6, [.ref y_space, .ref ya_offset, .ref ya_length, .ref ya_units, .ref ya_isThere, .int (z_i y_levels), .ref y_level, .int (z_i y_lines), .ref y_lineLevel, .ref y_lineUnits, .ref y_lineFrom, .ref y_lineMany, .ref y_isClosed, .ref y_insides, .ref y_parent, .ref y_isHigh, .ref y_inBits, .int (z_i y_sides), .ref y_side, .ref y_sideA, .ref y_sideB, .int (z_i y_lineSpace), .ref y_wasThere, .ref y_leads, .ref y_isLed, .ref y_isOn, .ref y_goesTo, .ref y_stream, .ref y_filled, .ref y_isDone, .ref y_isReached, .ref y_newUnits, .ref y_isNew])), (ya_offset, .inl (cA 1, 128, .inl y_offset)), (ya_length, .inl (cA 1, 128, .inl y_length)), (ya_units, .inl (cA 1, 5120, .inl f51)), (ya_isThere, .inl (cA 3, 5120, .inl y_isThere))] := by rw [hy52]; exact hD
            refine lv_aload_n hx hb dX8_height_104 rfl (lv_at hl 3 rfl) ?_
            refine va_get (D := D) (ci := 6) (v := .ref ya_isThere) (C := RX8) (T := TX8) (N := 33) hx hb hts (fun w h => List.mem_cons_of_mem _ (List.mem_append_right _ h)) hown hK hP 0 rfl rfl 4 (by decide) (hts (.fieldLink RX8 22 "ContourSheetsModel" "isThere" "[Z") (by decide +kernel)) (fun _ h9 => h9) rfl dX8_height_105 ?_
            refine lv_sipush (v := z_i 1280) hx hb dX8_height_108 (by decide) ?_
            refine lv_iload_n hx hb dX8_height_111 rfl (lv_at hl 4 rfl) ?_
            refine lx_imul hx hb dX8_height_112 ?_
            refine lv_bipush (v := z_i 40) hx hb dX8_height_113 (by decide) ?_
            refine lv_iload_n hx hb dX8_height_115 rfl (lv_at hl 5 rfl) ?_
            refine lx_imul hx hb dX8_height_116 ?_
            refine lx_iadd hx hb dX8_height_117 ?_
            refine lv_iload_n hx hb dX8_height_118 rfl (lv_at hl 6 rfl) ?_
            refine lx_iadd hx hb dX8_height_119 ?_
            refine lv_iconst (v := z_i 1) hx hb dX8_height_120 rfl ?_
            refine lx_zast hx hb hK hP hD hS 4 3 rfl rfl (by decide) hi50.1 hi50.2 (by decide) dX8_height_121 (fun H locs hP hD hS => ?_)
            obtain ⟨f53, hy54⟩ : ∃ y : Nat → Int32, y = z_s y_isThere (((1280 * gi) + (40 * i)) + j) 1 := ⟨_, rfl⟩
            have hv := hv f53 hy54
            have hP : va_P D vwCl [(y, .inr (6, [.ref y_space, .ref ya_offset, .ref ya_length, .ref ya_units, .ref ya_isThere, .int (z_i y_levels), .ref y_level, .int (z_i y_lines), .ref y_lineLevel, .ref y_lineUnits, .ref y_lineFrom, .ref y_lineMany, .ref y_isClosed, .ref y_insides, .ref y_parent, .ref y_isHigh, .ref y_inBits, .int (z_i y_sides), .ref y_side, .ref y_sideA, .ref y_sideB, .int (z_i y_lineSpace), .ref y_wasThere, .ref y_leads, .ref y_isLed, .ref y_isOn, .ref y_goesTo, .ref y_stream, .ref y_filled, .ref y_isDone, .ref y_isReached, .ref y_newUnits, .ref y_isNew])), (ya_offset, .inl (cA 1, 128, .inl y_offset)), (ya_length, .inl (cA 1, 128, .inl y_length)), (ya_units, .inl (cA 1, 5120, .inl f51)), (ya_isThere, .inl (cA 3, 5120, .inl f53))] H := by rw [hy54]; exact hP
            have hD : va_D A [(y, .inr (6, [.ref y_space, .ref ya_offset, .ref ya_length, .ref ya_units, .ref ya_isThere, .int (z_i y_levels), .ref y_level, .int (z_i y_lines), .ref y_lineLevel, .ref y_lineUnits, .ref y_lineFrom, .ref y_lineMany, .ref y_isClosed, .ref y_insides, .ref y_parent, .ref y_isHigh, .ref y_inBits, .int (z_i y_sides), .ref y_side, .ref y_sideA, .ref y_sideB, .int (z_i y_lineSpace), .ref y_wasThere, .ref y_leads, .ref y_isLed, .ref y_isOn, .ref y_goesTo, .ref y_stream, .ref y_filled, .ref y_isDone, .ref y_isReached, .ref y_newUnits, .ref y_isNew])), (ya_offset, .inl (cA 1, 128, .inl y_offset)), (ya_length, .inl (cA 1, 128, .inl y_length)), (ya_units, .inl (cA 1, 5120, .inl f51)), (ya_isThere, .inl (cA 3, 5120, .inl f53))] := by rw [hy54]; exact hD
            refine lv_iconst (v := z_i 1) hx hb dX8_height_122 rfl ?_
            exact W.zret (v := z_i 1) hx hb hr (by decide) (fun t ht hW => ⟨⟨z_i 1, (f51, f53), rfl, ⟨1, rfl, (show z_in 1 from ⟨by decide, by decide⟩), hv⟩, z_pt hP ht⟩, hS.F ht⟩) hS.2.2 dX8_height_123
          · have hv := hv.2 hc
            refine lv_iconst (v := z_i 0) hx hb dX8_height_82 rfl ?_
            exact W.zret (v := z_i 0) hx hb hr (by decide) (fun t ht hW => ⟨⟨z_i 0, (y_units, y_isThere), rfl, ⟨0, rfl, (show z_in 0 from ⟨by decide, by decide⟩), hv⟩, z_pt hP ht⟩, hS.F ht⟩) hS.2.2 dX8_height_83
      · have hv := hv.2 hc
        refine lv_iconst (v := z_i 1) hx hb dX8_height_38 rfl ?_
        refine lv_goto (tgt := 43) hx hb dX8_height_39 (by decide) ?_
        refine lv_istore (lv' := [(6, .int (z_i 1)), (5, .float w35), (0, .ref y), (1, .int (z_i gi)), (2, .int (z_i i)), (3, .int (z_i j)), (4, .int (z_i bits))]) hx hb dX8_height_43 hl (by decide) rfl (fun ls hl => ?_)
        refine lv_iload hx hb dX8_height_45 (lv_at hl 0 rfl) ?_
        refine lx_if_eq (tgt := 58) hx hb dX8_height_47 (by decide) ⟨by decide, by decide⟩ (fun hc => absurd hc (by decide)) (fun _ => ?_)
        refine lv_fload hx hb dX8_height_50 (lv_at hl 1 rfl) ?_
        refine lv_ldcf (v := 1149239296) hx hb hown (hts (.constantFloat RX8 119 (1149239296)) (by decide +kernel)) dX8_height_52 ?_
        obtain ⟨hf55, hv⟩ := hv
        refine lv_fmul hx hb dX8_height_54 hf55 ?_
        refine lv_topf (fun w56 hy57 => ?_)
        have hv := hv w56 hy57
        refine lv_goto (tgt := 60) hx hb dX8_height_55 (by decide) ?_
        refine lv_fstore (lv' := [(7, .float w56), (6, .int (z_i 1)), (5, .float w35), (0, .ref y), (1, .int (z_i gi)), (2, .int (z_i i)), (3, .int (z_i j)), (4, .int (z_i bits))]) hx hb dX8_height_60 hl (by decide) rfl (fun ls hl => ?_)
        refine lv_aload_n hx hb dX8_height_62 rfl (lv_at hl 3 rfl) ?_
        refine lv_iload_n hx hb dX8_height_63 rfl (lv_at hl 4 rfl) ?_
        refine lv_iload_n hx hb dX8_height_64 rfl (lv_at hl 5 rfl) ?_
        refine lv_iload_n hx hb dX8_height_65 rfl (lv_at hl 6 rfl) ?_
        obtain ⟨hp58, hv⟩ := hv
        refine va_calli (va_runV (As := [.int (z_i gi), .int (z_i i), .int (z_i j)]) (rest := []) ⟨hx, hb, hml, hown, hts⟩ (mt_X8_isOf l D cA y y_space ya_offset y_offset ya_length y_length ya_units ya_isThere y_levels y_level y_lines y_lineLevel y_lineUnits y_lineFrom y_lineMany y_isClosed y_insides y_parent y_isHigh y_inBits y_sides y_side y_sideA y_sideB y_lineSpace y_wasThere y_leads y_isLed y_isOn y_goesTo y_stream y_filled y_isDone y_isReached y_newUnits y_isNew gi i j h_y_levels h_y_lines h_y_sides h_y_lineSpace h_gi h_i h_j hp58) (cwV 3 hts gX8_height_X8_isOf rfl rfl rfl (by decide +kernel) ⟨Nat.le_of_ble_eq_true rfl, Nat.le_of_ble_eq_true rfl⟩) ⟨z_bl0, va_recv hK hP (ci := 6) (q0 := 0) rfl rfl, fun U hU hW => ⟨rfl, z_b0 hK (hP.sub (ws' := [(y, .inr (6, [.ref y_space, .ref ya_offset, .ref ya_length, .ref ya_units, .ref ya_isThere, .int (z_i y_levels), .ref y_level, .int (z_i y_lines), .ref y_lineLevel, .ref y_lineUnits, .ref y_lineFrom, .ref y_lineMany, .ref y_isClosed, .ref y_insides, .ref y_parent, .ref y_isHigh, .ref y_inBits, .int (z_i y_sides), .ref y_side, .ref y_sideA, .ref y_sideB, .int (z_i y_lineSpace), .ref y_wasThere, .ref y_leads, .ref y_isLed, .ref y_isOn, .ref y_goesTo, .ref y_stream, .ref y_filled, .ref y_isDone, .ref y_isReached, .ref y_newUnits, .ref y_isNew])), (ya_offset, .inl (cA 1, 128, .inl y_offset)), (ya_length, .inl (cA 1, 128, .inl y_length))]) [0, 1, 2] rfl) hU hW⟩⟩ rfl rfl hl.1 rfl (lv_room (Nat.le_of_ble_eq_true rfl)) dX8_height_66 ⟨Nat.zero_le _, Nat.zero_le _⟩) hS (fun q _ h => h.elim) (fun q h => h.elim) (fun r0 u t H locs ht hvm hw hB hz1 hk1 hS => ?_)
        obtain ⟨r59, rfl, h_r59, hw⟩ := hw
        have hP := z_P_all hP hk1
        have hv := hv r59 h_r59 hw
        refine lx_if_eq (tgt := 82) hx hb dX8_height_69 (by decide) h_r59 (fun hc => ?_) (fun hc => ?_)
        · have hv := hv.1 hc
          refine lv_iconst (v := z_i 0) hx hb dX8_height_82 rfl ?_
          exact W.zret (v := z_i 0) hx hb hr (by decide) (fun t ht hW => ⟨⟨z_i 0, (y_units, y_isThere), rfl, ⟨0, rfl, (show z_in 0 from ⟨by decide, by decide⟩), hv⟩, z_pt hP ht⟩, hS.F ht⟩) hS.2.2 dX8_height_83
        · have hv := hv.2 hc
          refine lv_fload hx hb dX8_height_72 (lv_at hl 0 rfl) ?_
          refine lv_fload hx hb dX8_height_74 (lv_at hl 0 rfl) ?_
          refine lx_f2i hx hb dX8_height_76 ?_
          refine lx_i2f hx hb dX8_height_77 ?_
          refine lv_topf (fun w60 hy61 => ?_)
          have hv := hv w60 hy61
          refine lx_fcmp hx hb dX8_height_78 ?_
          refine lx_if_eq (tgt := 84) hx hb dX8_height_79 (by decide) (z_in_of _) (fun hc => ?_) (fun hc => ?_)
          · have hv := hv.1 hc
            refine lv_aload_n hx hb dX8_height_84 rfl (lv_at hl 3 rfl) ?_
            refine va_get (D := D) (ci := 6) (v := .ref ya_units) (C := RX8) (T := TX8) (N := 33) hx hb hts (fun w h => List.mem_cons_of_mem _ (List.mem_append_right _ h)) hown hK hP 0 rfl rfl 3 (by decide) (hts (.fieldLink RX8 19 "ContourSheetsModel" "units" "[I") (by decide +kernel)) (fun _ h9 => h9) rfl dX8_height_85 ?_
            refine lv_sipush (v := z_i 1280) hx hb dX8_height_88 (by decide) ?_
            refine lv_iload_n hx hb dX8_height_91 rfl (lv_at hl 4 rfl) ?_
            refine lx_imul hx hb dX8_height_92 ?_
            refine lv_bipush (v := z_i 40) hx hb dX8_height_93 (by decide) ?_
            refine lv_iload_n hx hb dX8_height_95 rfl (lv_at hl 5 rfl) ?_
            refine lx_imul hx hb dX8_height_96 ?_
            refine lx_iadd hx hb dX8_height_97 ?_
            refine lv_iload_n hx hb dX8_height_98 rfl (lv_at hl 6 rfl) ?_
            refine lx_iadd hx hb dX8_height_99 ?_
            refine lv_fload hx hb dX8_height_100 (lv_at hl 0 rfl) ?_
            refine lx_f2i hx hb dX8_height_102 ?_
            obtain ⟨hi62, hv⟩ := hv
            refine lx_iast hx hb hK hP hD hS 3 1 rfl rfl (by decide) hi62.1 hi62.2 dX8_height_103 (fun H locs hP hD hS => ?_)
            obtain ⟨f63, hy64⟩ : ∃ y : Nat → Int32, y = z_s y_units (((1280 * gi) + (40 * i)) + j) (z_f2i w56) := ⟨_, rfl⟩
            have hv := hv f63 hy64
            have hP : va_P D vwCl [(y, .inr (6, [.ref y_space, .ref ya_offset, .ref ya_length, .ref ya_units, .ref ya_isThere, .int (z_i y_levels), .ref y_level, .int (z_i y_lines), .ref y_lineLevel, .ref y_lineUnits, .ref y_lineFrom, .ref y_lineMany, .ref y_isClosed, .ref y_insides, .ref y_parent, .ref y_isHigh, .ref y_inBits, .int (z_i y_sides), .ref y_side, .ref y_sideA, .ref y_sideB, .int (z_i y_lineSpace), .ref y_wasThere, .ref y_leads, .ref y_isLed, .ref y_isOn, .ref y_goesTo, .ref y_stream, .ref y_filled, .ref y_isDone, .ref y_isReached, .ref y_newUnits, .ref y_isNew])), (ya_offset, .inl (cA 1, 128, .inl y_offset)), (ya_length, .inl (cA 1, 128, .inl y_length)), (ya_units, .inl (cA 1, 5120, .inl f63)), (ya_isThere, .inl (cA 3, 5120, .inl y_isThere))] H := by rw [hy64]; exact hP
            have hD : va_D A [(y, .inr (6, [.ref y_space, .ref ya_offset, .ref ya_length, .ref ya_units, .ref ya_isThere, .int (z_i y_levels), .ref y_level, .int (z_i y_lines), .ref y_lineLevel, .ref y_lineUnits, .ref y_lineFrom, .ref y_lineMany, .ref y_isClosed, .ref y_insides, .ref y_parent, .ref y_isHigh, .ref y_inBits, .int (z_i y_sides), .ref y_side, .ref y_sideA, .ref y_sideB, .int (z_i y_lineSpace), .ref y_wasThere, .ref y_leads, .ref y_isLed, .ref y_isOn, .ref y_goesTo, .ref y_stream, .ref y_filled, .ref y_isDone, .ref y_isReached, .ref y_newUnits, .ref y_isNew])), (ya_offset, .inl (cA 1, 128, .inl y_offset)), (ya_length, .inl (cA 1, 128, .inl y_length)), (ya_units, .inl (cA 1, 5120, .inl f63)), (ya_isThere, .inl (cA 3, 5120, .inl y_isThere))] := by rw [hy64]; exact hD
            refine lv_aload_n hx hb dX8_height_104 rfl (lv_at hl 3 rfl) ?_
            refine va_get (D := D) (ci := 6) (v := .ref ya_isThere) (C := RX8) (T := TX8) (N := 33) hx hb hts (fun w h => List.mem_cons_of_mem _ (List.mem_append_right _ h)) hown hK hP 0 rfl rfl 4 (by decide) (hts (.fieldLink RX8 22 "ContourSheetsModel" "isThere" "[Z") (by decide +kernel)) (fun _ h9 => h9) rfl dX8_height_105 ?_
            refine lv_sipush (v := z_i 1280) hx hb dX8_height_108 (by decide) ?_
            refine lv_iload_n hx hb dX8_height_111 rfl (lv_at hl 4 rfl) ?_
            refine lx_imul hx hb dX8_height_112 ?_
            refine lv_bipush (v := z_i 40) hx hb dX8_height_113 (by decide) ?_
            refine lv_iload_n hx hb dX8_height_115 rfl (lv_at hl 5 rfl) ?_
            refine lx_imul hx hb dX8_height_116 ?_
            refine lx_iadd hx hb dX8_height_117 ?_
            refine lv_iload_n hx hb dX8_height_118 rfl (lv_at hl 6 rfl) ?_
            refine lx_iadd hx hb dX8_height_119 ?_
            refine lv_iconst (v := z_i 1) hx hb dX8_height_120 rfl ?_
            refine lx_zast hx hb hK hP hD hS 4 3 rfl rfl (by decide) hi62.1 hi62.2 (by decide) dX8_height_121 (fun H locs hP hD hS => ?_)
            obtain ⟨f65, hy66⟩ : ∃ y : Nat → Int32, y = z_s y_isThere (((1280 * gi) + (40 * i)) + j) 1 := ⟨_, rfl⟩
            have hv := hv f65 hy66
            have hP : va_P D vwCl [(y, .inr (6, [.ref y_space, .ref ya_offset, .ref ya_length, .ref ya_units, .ref ya_isThere, .int (z_i y_levels), .ref y_level, .int (z_i y_lines), .ref y_lineLevel, .ref y_lineUnits, .ref y_lineFrom, .ref y_lineMany, .ref y_isClosed, .ref y_insides, .ref y_parent, .ref y_isHigh, .ref y_inBits, .int (z_i y_sides), .ref y_side, .ref y_sideA, .ref y_sideB, .int (z_i y_lineSpace), .ref y_wasThere, .ref y_leads, .ref y_isLed, .ref y_isOn, .ref y_goesTo, .ref y_stream, .ref y_filled, .ref y_isDone, .ref y_isReached, .ref y_newUnits, .ref y_isNew])), (ya_offset, .inl (cA 1, 128, .inl y_offset)), (ya_length, .inl (cA 1, 128, .inl y_length)), (ya_units, .inl (cA 1, 5120, .inl f63)), (ya_isThere, .inl (cA 3, 5120, .inl f65))] H := by rw [hy66]; exact hP
            have hD : va_D A [(y, .inr (6, [.ref y_space, .ref ya_offset, .ref ya_length, .ref ya_units, .ref ya_isThere, .int (z_i y_levels), .ref y_level, .int (z_i y_lines), .ref y_lineLevel, .ref y_lineUnits, .ref y_lineFrom, .ref y_lineMany, .ref y_isClosed, .ref y_insides, .ref y_parent, .ref y_isHigh, .ref y_inBits, .int (z_i y_sides), .ref y_side, .ref y_sideA, .ref y_sideB, .int (z_i y_lineSpace), .ref y_wasThere, .ref y_leads, .ref y_isLed, .ref y_isOn, .ref y_goesTo, .ref y_stream, .ref y_filled, .ref y_isDone, .ref y_isReached, .ref y_newUnits, .ref y_isNew])), (ya_offset, .inl (cA 1, 128, .inl y_offset)), (ya_length, .inl (cA 1, 128, .inl y_length)), (ya_units, .inl (cA 1, 5120, .inl f63)), (ya_isThere, .inl (cA 3, 5120, .inl f65))] := by rw [hy66]; exact hD
            refine lv_iconst (v := z_i 1) hx hb dX8_height_122 rfl ?_
            exact W.zret (v := z_i 1) hx hb hr (by decide) (fun t ht hW => ⟨⟨z_i 1, (f63, f65), rfl, ⟨1, rfl, (show z_in 1 from ⟨by decide, by decide⟩), hv⟩, z_pt hP ht⟩, hS.F ht⟩) hS.2.2 dX8_height_123
          · have hv := hv.2 hc
            refine lv_iconst (v := z_i 0) hx hb dX8_height_82 rfl ?_
            exact W.zret (v := z_i 0) hx hb hr (by decide) (fun t ht hW => ⟨⟨z_i 0, (y_units, y_isThere), rfl, ⟨0, rfl, (show z_in 0 from ⟨by decide, by decide⟩), hv⟩, z_pt hP ht⟩, hS.F ht⟩) hS.2.2 dX8_height_83
set_option maxHeartbeats 4000000 in
set_option maxRecDepth 100000 in
theorem mt_X8_height (l : Launch) (D : va_G) (cA : Nat → ClassId) (y : Nat) (y_space : Nat) (ya_offset : Nat) (y_offset : Nat → Int32) (ya_length : Nat) (y_length : Nat → Int32) (ya_units : Nat) (y_units : Nat → Int32) (ya_isThere : Nat) (y_isThere : Nat → Int32) (y_levels : Int) (y_level : Nat) (y_lines : Int) (y_lineLevel : Nat) (y_lineUnits : Nat) (y_lineFrom : Nat) (y_lineMany : Nat) (y_isClosed : Nat) (y_insides : Nat) (y_parent : Nat) (y_isHigh : Nat) (y_inBits : Nat) (y_sides : Int) (y_side : Nat) (y_sideA : Nat) (y_sideB : Nat) (y_lineSpace : Int) (y_wasThere : Nat) (y_leads : Nat) (y_isLed : Nat) (y_isOn : Nat) (y_goesTo : Nat) (y_stream : Nat) (y_filled : Nat) (y_isDone : Nat) (y_isReached : Nat) (y_newUnits : Nat) (y_isNew : Nat) (gi : Int) (i : Int) (j : Int) (bits : Int) (h_y_levels : z_in y_levels) (h_y_lines : z_in y_lines) (h_y_sides : z_in y_sides) (h_y_lineSpace : z_in y_lineSpace) (h_gi : z_in gi) (h_i : z_in i) (h_j : z_in j) (h_bits : z_in bits) (hp1 : q_rw y_length y_offset) (hp2 : q_rs y_length y_offset) : Met l yX8_height wsX8_height ({ frames := 3, cells := 0, slots := 0, locals := 65 } : Room) (va_Pc [.ref y, .int (z_i gi), .int (z_i i), .int (z_i j), .int (z_i bits)] (z_M0 D cA [(y, .inr (6, [.ref y_space, .ref ya_offset, .ref ya_length, .ref ya_units, .ref ya_isThere, .int (z_i y_levels), .ref y_level, .int (z_i y_lines), .ref y_lineLevel, .ref y_lineUnits, .ref y_lineFrom, .ref y_lineMany, .ref y_isClosed, .ref y_insides, .ref y_parent, .ref y_isHigh, .ref y_inBits, .int (z_i y_sides), .ref y_side, .ref y_sideA, .ref y_sideB, .int (z_i y_lineSpace), .ref y_wasThere, .ref y_leads, .ref y_isLed, .ref y_isOn, .ref y_goesTo, .ref y_stream, .ref y_filled, .ref y_isDone, .ref y_isReached, .ref y_newUnits, .ref y_isNew])), (ya_offset, .inl (cA 1, 128, .inl y_offset)), (ya_length, .inl (cA 1, 128, .inl y_length)), (ya_units, .inl (cA 1, 5120, .inl y_units)), (ya_isThere, .inl (cA 3, 5120, .inl y_isThere))])) (va_Qi (z_mi (fun v (u : (Nat → Int32) × (Nat → Int32)) => (fun (r : Int) (y_units' : (Nat → Int32)) (y_isThere' : (Nat → Int32)) => r = z_b (decide ((0 ≤ gi ∧ gi < 4) ∧ b_uf bits ≠ -2147483648 ∧ 0 ≤ i ∧ i < 32 ∧ 0 ≤ j ∧ j < 40 ∧ z_g y_offset (32 * gi + i) ≤ j ∧ j < z_g y_offset (32 * gi + i) + z_g y_length (32 * gi + i))) ∧ (((0 ≤ gi ∧ gi < 4) ∧ b_uf bits ≠ -2147483648 ∧ 0 ≤ i ∧ i < 32 ∧ 0 ≤ j ∧ j < 40 ∧ z_g y_offset (32 * gi + i) ≤ j ∧ j < z_g y_offset (32 * gi + i) + z_g y_length (32 * gi + i)) → y_units' = z_s y_units (1280 * gi + (40 * i + j)) (b_uf bits) ∧ y_isThere' = z_s y_isThere (1280 * gi + (40 * i + j)) 1) ∧ (¬ ((0 ≤ gi ∧ gi < 4) ∧ b_uf bits ≠ -2147483648 ∧ 0 ≤ i ∧ i < 32 ∧ 0 ≤ j ∧ j < 40 ∧ z_g y_offset (32 * gi + i) ≤ j ∧ j < z_g y_offset (32 * gi + i) + z_g y_length (32 * gi + i)) → y_units' = y_units ∧ y_isThere' = y_isThere)) v u.1 u.2)) (fun (u : (Nat → Int32) × (Nat → Int32)) t => va_P D vwCl [(y, .inr (6, [.ref y_space, .ref ya_offset, .ref ya_length, .ref ya_units, .ref ya_isThere, .int (z_i y_levels), .ref y_level, .int (z_i y_lines), .ref y_lineLevel, .ref y_lineUnits, .ref y_lineFrom, .ref y_lineMany, .ref y_isClosed, .ref y_insides, .ref y_parent, .ref y_isHigh, .ref y_inBits, .int (z_i y_sides), .ref y_side, .ref y_sideA, .ref y_sideB, .int (z_i y_lineSpace), .ref y_wasThere, .ref y_leads, .ref y_isLed, .ref y_isOn, .ref y_goesTo, .ref y_stream, .ref y_filled, .ref y_isDone, .ref y_isReached, .ref y_newUnits, .ref y_isNew])), (ya_offset, .inl (cA 1, 128, .inl y_offset)), (ya_length, .inl (cA 1, 128, .inl y_length)), (ya_units, .inl (cA 1, 5120, .inl u.1)), (ya_isThere, .inl (cA 3, 5120, .inl u.2))] t.heap) (z_A [(y, .inr (6, [.ref y_space, .ref ya_offset, .ref ya_length, .ref ya_units, .ref ya_isThere, .int (z_i y_levels), .ref y_level, .int (z_i y_lines), .ref y_lineLevel, .ref y_lineUnits, .ref y_lineFrom, .ref y_lineMany, .ref y_isClosed, .ref y_insides, .ref y_parent, .ref y_isHigh, .ref y_inBits, .int (z_i y_sides), .ref y_side, .ref y_sideA, .ref y_sideB, .int (z_i y_lineSpace), .ref y_wasThere, .ref y_leads, .ref y_isLed, .ref y_isOn, .ref y_goesTo, .ref y_stream, .ref y_filled, .ref y_isDone, .ref y_isReached, .ref y_newUnits, .ref y_isNew])), (ya_offset, .inl (cA 1, 128, .inl y_offset)), (ya_length, .inl (cA 1, 128, .inl y_length)), (ya_units, .inl (cA 1, 5120, .inl y_units)), (ya_isThere, .inl (cA 3, 5120, .inl y_isThere))])) 0 0 (z_A [(y, .inr (6, [.ref y_space, .ref ya_offset, .ref ya_length, .ref ya_units, .ref ya_isThere, .int (z_i y_levels), .ref y_level, .int (z_i y_lines), .ref y_lineLevel, .ref y_lineUnits, .ref y_lineFrom, .ref y_lineMany, .ref y_isClosed, .ref y_insides, .ref y_parent, .ref y_isHigh, .ref y_inBits, .int (z_i y_sides), .ref y_side, .ref y_sideA, .ref y_sideB, .int (z_i y_lineSpace), .ref y_wasThere, .ref y_leads, .ref y_isLed, .ref y_isOn, .ref y_goesTo, .ref y_stream, .ref y_filled, .ref y_isDone, .ref y_isReached, .ref y_newUnits, .ref y_isNew])), (ya_offset, .inl (cA 1, 128, .inl y_offset)), (ya_length, .inl (cA 1, 128, .inl y_length)), (ya_units, .inl (cA 1, 5120, .inl y_units)), (ya_isThere, .inl (cA 3, 5120, .inl y_isThere))]) := by
  refine wk_X8_height l D cA y y_space ya_offset y_offset ya_length y_length ya_units y_units ya_isThere y_isThere y_levels y_level y_lines y_lineLevel y_lineUnits y_lineFrom y_lineMany y_isClosed y_insides y_parent y_isHigh y_inBits y_sides y_side y_sideA y_sideB y_lineSpace y_wasThere y_leads y_isLed y_isOn y_goesTo y_stream y_filled y_isDone y_isReached y_newUnits y_isNew gi i j bits h_y_levels h_y_lines h_y_sides h_y_lineSpace h_gi h_i h_j h_bits (fun (r : Int) (y_units' : (Nat → Int32)) (y_isThere' : (Nat → Int32)) => r = z_b (decide ((0 ≤ gi ∧ gi < 4) ∧ b_uf bits ≠ -2147483648 ∧ 0 ≤ i ∧ i < 32 ∧ 0 ≤ j ∧ j < 40 ∧ z_g y_offset (32 * gi + i) ≤ j ∧ j < z_g y_offset (32 * gi + i) + z_g y_length (32 * gi + i))) ∧ (((0 ≤ gi ∧ gi < 4) ∧ b_uf bits ≠ -2147483648 ∧ 0 ≤ i ∧ i < 32 ∧ 0 ≤ j ∧ j < 40 ∧ z_g y_offset (32 * gi + i) ≤ j ∧ j < z_g y_offset (32 * gi + i) + z_g y_length (32 * gi + i)) → y_units' = z_s y_units (1280 * gi + (40 * i + j)) (b_uf bits) ∧ y_isThere' = z_s y_isThere (1280 * gi + (40 * i + j)) 1) ∧ (¬ ((0 ≤ gi ∧ gi < 4) ∧ b_uf bits ≠ -2147483648 ∧ 0 ≤ i ∧ i < 32 ∧ 0 ≤ j ∧ j < 40 ∧ z_g y_offset (32 * gi + i) ≤ j ∧ j < z_g y_offset (32 * gi + i) + z_g y_length (32 * gi + i)) → y_units' = y_units ∧ y_isThere' = y_isThere)) ?_
  unfold vc_X8_height
  have no : ¬ ((0 ≤ gi ∧ gi < 4) ∧ b_uf bits ≠ -2147483648 ∧ 0 ≤ i ∧ i < 32 ∧ 0 ≤ j ∧ j < 40 ∧ z_g y_offset (32 * gi + i) ≤ j ∧ j < z_g y_offset (32 * gi + i) + z_g y_length (32 * gi + i)) → (0 : Int) = z_b (decide ((0 ≤ gi ∧ gi < 4) ∧ b_uf bits ≠ -2147483648 ∧ 0 ≤ i ∧ i < 32 ∧ 0 ≤ j ∧ j < 40 ∧ z_g y_offset (32 * gi + i) ≤ j ∧ j < z_g y_offset (32 * gi + i) + z_g y_length (32 * gi + i))) ∧ (((0 ≤ gi ∧ gi < 4) ∧ b_uf bits ≠ -2147483648 ∧ 0 ≤ i ∧ i < 32 ∧ 0 ≤ j ∧ j < 40 ∧ z_g y_offset (32 * gi + i) ≤ j ∧ j < z_g y_offset (32 * gi + i) + z_g y_length (32 * gi + i)) → y_units = z_s y_units (1280 * gi + (40 * i + j)) (b_uf bits) ∧ y_isThere = z_s y_isThere (1280 * gi + (40 * i + j)) 1) ∧ (¬ ((0 ≤ gi ∧ gi < 4) ∧ b_uf bits ≠ -2147483648 ∧ 0 ≤ i ∧ i < 32 ∧ 0 ≤ j ∧ j < 40 ∧ z_g y_offset (32 * gi + i) ≤ j ∧ j < z_g y_offset (32 * gi + i) + z_g y_length (32 * gi + i)) → y_units = y_units ∧ y_isThere = y_isThere) := fun h => ⟨by rw [decide_eq_false h]; rfl, fun h2 => absurd h2 h, fun _ => ⟨rfl, rfl⟩⟩
  have nof : ∀ r5 : Int, r5 = z_b (decide ((0 ≤ gi ∧ gi < 4) ∧ 0 ≤ i ∧ i < 32 ∧ z_g y_offset (32 * gi + i) ≤ j ∧ j < z_g y_offset (32 * gi + i) + z_g y_length (32 * gi + i))) → r5 = 0 → ¬ ((0 ≤ gi ∧ gi < 4) ∧ b_uf bits ≠ -2147483648 ∧ 0 ≤ i ∧ i < 32 ∧ 0 ≤ j ∧ j < 40 ∧ z_g y_offset (32 * gi + i) ≤ j ∧ j < z_g y_offset (32 * gi + i) + z_g y_length (32 * gi + i)) := fun r5 e h hc => by
    rw [e] at h
    exact of_decide_eq_false (zb_f h) ⟨hc.1, hc.2.2.1, hc.2.2.2.1, hc.2.2.2.2.2.2.1, hc.2.2.2.2.2.2.2⟩
  have half : b_uf bits = -2147483648 → ∀ w6 : UInt32, w6 = z_i2f (z_f2i (1056964608 : UInt32)) → ((z_fc (1056964608 : UInt32) w6 .l = 0 → (0 ≤ ((1280 * gi) + (40 * i)) + j ∧ ((1280 * gi) + (40 * i)) + j < 5120) ∧ (∀ f9 : Nat → Int32, f9 = z_s y_units (((1280 * gi) + (40 * i)) + j) (z_f2i (1056964608 : UInt32)) → (∀ f11 : Nat → Int32, f11 = z_s y_isThere (((1280 * gi) + (40 * i)) + j) 1 → ((1 : Int) = z_b (decide ((0 ≤ gi ∧ gi < 4) ∧ b_uf bits ≠ -2147483648 ∧ 0 ≤ i ∧ i < 32 ∧ 0 ≤ j ∧ j < 40 ∧ z_g y_offset (32 * gi + i) ≤ j ∧ j < z_g y_offset (32 * gi + i) + z_g y_length (32 * gi + i))) ∧ (((0 ≤ gi ∧ gi < 4) ∧ b_uf bits ≠ -2147483648 ∧ 0 ≤ i ∧ i < 32 ∧ 0 ≤ j ∧ j < 40 ∧ z_g y_offset (32 * gi + i) ≤ j ∧ j < z_g y_offset (32 * gi + i) + z_g y_length (32 * gi + i)) → f9 = z_s y_units (1280 * gi + (40 * i + j)) (b_uf bits) ∧ f11 = z_s y_isThere (1280 * gi + (40 * i + j)) 1) ∧ (¬ ((0 ≤ gi ∧ gi < 4) ∧ b_uf bits ≠ -2147483648 ∧ 0 ≤ i ∧ i < 32 ∧ 0 ≤ j ∧ j < 40 ∧ z_g y_offset (32 * gi + i) ≤ j ∧ j < z_g y_offset (32 * gi + i) + z_g y_length (32 * gi + i)) → f9 = y_units ∧ f11 = y_isThere))))) ∧
      (z_fc (1056964608 : UInt32) w6 .l ≠ 0 → ((0 : Int) = z_b (decide ((0 ≤ gi ∧ gi < 4) ∧ b_uf bits ≠ -2147483648 ∧ 0 ≤ i ∧ i < 32 ∧ 0 ≤ j ∧ j < 40 ∧ z_g y_offset (32 * gi + i) ≤ j ∧ j < z_g y_offset (32 * gi + i) + z_g y_length (32 * gi + i))) ∧ (((0 ≤ gi ∧ gi < 4) ∧ b_uf bits ≠ -2147483648 ∧ 0 ≤ i ∧ i < 32 ∧ 0 ≤ j ∧ j < 40 ∧ z_g y_offset (32 * gi + i) ≤ j ∧ j < z_g y_offset (32 * gi + i) + z_g y_length (32 * gi + i)) → y_units = z_s y_units (1280 * gi + (40 * i + j)) (b_uf bits) ∧ y_isThere = z_s y_isThere (1280 * gi + (40 * i + j)) 1) ∧ (¬ ((0 ≤ gi ∧ gi < 4) ∧ b_uf bits ≠ -2147483648 ∧ 0 ≤ i ∧ i < 32 ∧ 0 ≤ j ∧ j < 40 ∧ z_g y_offset (32 * gi + i) ≤ j ∧ j < z_g y_offset (32 * gi + i) + z_g y_length (32 * gi + i)) → y_units = y_units ∧ y_isThere = y_isThere)))) := by
    rintro hu w6 rfl
    exact ⟨fun h => absurd h fl_half, fun _ => no (fun h => h.2.1 hu)⟩
  refine ⟨fun q => ?_, fun q => ?_⟩
  · rw [z_and_31] at q
    have H := fl_h h_bits q
    refine ⟨fl_sn q, ?_⟩
    rintro w2 rfl
    refine ⟨fun c1 => ⟨hp1, ?_⟩, fun c1 => ⟨fun c2 => ⟨hp1, ?_⟩, fun c2 => ?_⟩⟩
    · intro r5 _ e5
      exact ⟨fun h => no (nof _ e5 h), fun _ => half (H.1 c1)⟩
    · intro r14 _ e5
      exact ⟨fun h => no (nof _ e5 h), fun _ => half (H.2.1 c2)⟩
    · have H3 := H.2.2 c1 c2
      refine ⟨H3.1, ?_⟩
      intro w23 h23
      refine ⟨hp1, ?_⟩
      intro r26 _ e5
      refine ⟨fun h => no (nof _ e5 h), fun h => ?_⟩
      rw [e5] at h
      have hin := of_decide_eq_true (zb_t h)
      have hr := hp1 (32 * gi + i) (by omega) (by omega)
      have hs := hp2 (32 * gi + i) (by omega) (by omega)
      rintro w27 rfl
      have H4 := H3.2 w23 h23
      refine ⟨fun c3 => ⟨⟨by omega, by omega⟩, ?_⟩, fun c3 => no (fun hc => hc.2.1 (H4.2 c3))⟩
      have H5 := H4.1 c3
      rintro f30 rfl f32 rfl
      have hc : (0 ≤ gi ∧ gi < 4) ∧ b_uf bits ≠ -2147483648 ∧ 0 ≤ i ∧ i < 32 ∧ 0 ≤ j ∧ j < 40 ∧ z_g y_offset (32 * gi + i) ≤ j ∧ j < z_g y_offset (32 * gi + i) + z_g y_length (32 * gi + i) := ⟨hin.1, by omega, hin.2.1, hin.2.2.1, by omega, by omega, hin.2.2.2.1, hin.2.2.2.2⟩
      rw [decide_eq_true hc, H5.1, Int.add_assoc]
      exact ⟨rfl, fun _ => ⟨rfl, rfl⟩, fun h => absurd hc h⟩
  · rw [z_and_31] at q
    have hu := fl_uf_nan q
    refine ⟨by decide +kernel, ?_⟩
    rintro w35 rfl
    refine ⟨fun c1 => ⟨hp1, ?_⟩, fun c1 => absurd fl_nanc (by omega)⟩
    intro r38 _ e5
    exact ⟨fun h => no (nof _ e5 h), fun _ => half hu⟩
