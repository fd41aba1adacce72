/-! sight -/
def e_al (n rw : Int) : Int := if rw = 0 then n % 40 else n / 40
def e_no (T : Int → Bool) (al ac rw : Int) : Int := if rw = 0 then m_no T ac al else m_no T al ac
/-- hidden by the ground at the k-th of st steps -/
def e_at (T : Int → Bool) (U : Int → Int) (al ac ga gc st top to k rw : Int) : Prop :=
  e_no T (al + (if ga > 0 then k else -k)) ((ac * st + gc * k) / st) rw ≠ -1 ∧ e_no T (al + (if ga > 0 then k else -k)) ((ac * st + gc * k + st - 1) / st) rw ≠ -1 ∧
  U (e_no T (al + (if ga > 0 then k else -k)) ((ac * st + gc * k) / st) rw) * (st - (ac * st + gc * k) % st) + U (e_no T (al + (if ga > 0 then k else -k)) ((ac * st + gc * k + st - 1) / st) rw) * ((ac * st + gc * k) % st) > top * (st - k) + U to * k
def e_hid (T : Int → Bool) (U : Int → Int) (fr to eye rw : Int) : Prop :=
  ∃ k : Int, 1 ≤ k ∧ k < z_abs (e_al to rw - e_al fr rw) ∧ e_at T U (e_al fr rw) (e_al fr (1 - rw)) (e_al to rw - e_al fr rw) (e_al to (1 - rw) - e_al fr (1 - rw)) (z_abs (e_al to rw - e_al fr rw)) (U fr + 1024 * eye) to k rw
theorem e_al_in {n rw : Int} (h0 : 0 ≤ n) (h1 : n < 1280) : 0 ≤ e_al n rw ∧ e_al n rw ≤ 39 := by unfold e_al; split <;> omega
theorem e_no_in (T : Int → Bool) (al ac rw : Int) : -1 ≤ e_no T al ac rw ∧ e_no T al ac rw < 1280 := by
  unfold e_no; split
  · exact m_no_in _ _ _
  · exact m_no_in _ _ _
theorem e_no_th {T : Int → Bool} {al ac rw : Int} (h : e_no T al ac rw ≠ -1) : T (e_no T al ac rw) = true := by
  unfold e_no at h ⊢
  split at h
  · next q => rw [if_pos q]; have := m_no_some h; rw [this.1]; exact this.2.2.2.2.2
  · next q => rw [if_neg q]; have := m_no_some h; rw [this.1]; exact this.2.2.2.2.2
def vc_X5_alongOf (n : Int) (rw : Int) (Q : Int → Prop) : Prop :=
((rw = 0 → z_in (n.tmod 40) ∧ Q (n.tmod 40)) ∧
(rw ≠ 0 → z_in (n.tdiv 40) ∧ Q (n.tdiv 40)))
set_option maxHeartbeats 4000000 in
set_option maxRecDepth 100000 in
theorem wk_X5_alongOf (l : Launch) (D : va_G) (cA : Nat → ClassId) (n : Int) (rw : Int) (h_n : z_in n) (h_rw : z_in rw) (Q : Int → Prop) (hv : vc_X5_alongOf n rw Q) : Met l yX5_alongOf wsX5_alongOf ({ frames := 0, cells := 0, slots := 0, locals := 0 } : Room) (va_Pc [.int (z_i n), .int (z_i rw)] (z_B0 D cA [])) (va_Qi (z_ri Q) (fun _ _ => True) (fun _ => False)) 0 0 (fun _ => False) := by
  unfold vc_X5_alongOf at hv
  refine Met.ofW (cc := cX5_alongOf) (maxL := 2) (ret := (some .int)) (by decide +kernel) rfl ?_
  intro p e s m args below meth c s₁ B hml hv0
  obtain ⟨rfl, hK, hP⟩ := hv0
  have hx := B.exec
  have hb := B.bytes
  have hr := B.returns
  have hts := atoms_spec (ws := wsX5_alongOf) B.pre
  have hown : s.vm.findClass RX5 = some m.cls := findClass_of_methodNamed B.named
  have hlocks := B.notSynchronized
  have hS : va_S (fun _ : Nat => False) s.heap s.heap [] := va_S.rf
  have hl := lv_entry ([.int (z_i n), .int (z_i rw)]) (n := 2) (Nat.le_of_ble_eq_true rfl)
  rw [lg_entry_eq]
  generalize (lg_sl ([.int (z_i n), .int (z_i rw)]) ++ List.replicate (2 - (lg_sl ([.int (z_i n), .int (z_i rw)])).length) Slot.unset).toArray = ls at hl ⊢
  have hl : lv_has ls 2 [(0, .int (z_i n)), (1, .int (z_i rw))] := hl
  refine lv_iload_n hx hb dX5_alongOf_0 rfl (lv_at hl 1 rfl) ?_
  refine lx_if_eq (tgt := 11) hx hb dX5_alongOf_1 (by decide) h_rw (fun hc => ?_) (fun hc => ?_)
  · have hv := hv.1 hc
    refine lv_iload_n hx hb dX5_alongOf_11 rfl (lv_at hl 0 rfl) ?_
    refine lv_bipush (v := z_i 40) hx hb dX5_alongOf_12 (by decide) ?_
    refine lx_irem hx hb dX5_alongOf_14 h_n (show z_in 40 from ⟨by decide, by decide⟩) (by decide) ?_
    obtain ⟨hr1, hv⟩ := hv
    exact W.iret (v := z_i (n.tmod 40)) hx hb hr (fun t ht hW => ⟨⟨z_i (n.tmod 40), (), rfl, ⟨n.tmod 40, rfl, hr1, hv⟩, trivial⟩, hS.F ht⟩) hS.2.2 dX5_alongOf_15
  · have hv := hv.2 hc
    refine lv_iload_n hx hb dX5_alongOf_4 rfl (lv_at hl 0 rfl) ?_
    refine lv_bipush (v := z_i 40) hx hb dX5_alongOf_5 (by decide) ?_
    refine lx_idiv hx hb dX5_alongOf_7 h_n (show z_in 40 from ⟨by decide, by decide⟩) (by decide) ?_
    refine lv_goto (tgt := 15) hx hb dX5_alongOf_8 (by decide) ?_
    obtain ⟨hr2, hv⟩ := hv
    exact W.iret (v := z_i (n.tdiv 40)) hx hb hr (fun t ht hW => ⟨⟨z_i (n.tdiv 40), (), rfl, ⟨n.tdiv 40, rfl, hr2, hv⟩, trivial⟩, hS.F ht⟩) hS.2.2 dX5_alongOf_15
set_option maxHeartbeats 4000000 in
set_option maxRecDepth 100000 in
theorem mt_X5_alongOf (l : Launch) (D : va_G) (cA : Nat → ClassId) (n : Int) (rw : Int) (h_n : z_in n) (h_rw : z_in rw) (hp1 : 0 ≤ n ∧ n < 1280) : Met l yX5_alongOf wsX5_alongOf ({ frames := 0, cells := 0, slots := 0, locals := 0 } : Room) (va_Pc [.int (z_i n), .int (z_i rw)] (z_B0 D cA [])) (va_Qi (z_ri (fun (r : Int) => r = e_al n rw)) (fun _ _ => True) (fun _ => False)) 0 0 (fun _ => False) := by
  refine wk_X5_alongOf l D cA n rw h_n h_rw (fun (r : Int) => r = e_al n rw) ?_
  unfold vc_X5_alongOf
  have e2 : n.tdiv 40 = n / 40 := Int.tdiv_eq_ediv_of_nonneg hp1.1
  have e3 : n.tmod 40 = n % 40 := Int.tmod_eq_emod_of_nonneg hp1.1
  rw [e2, e3]
  refine ⟨fun q => ⟨⟨by omega, by omega⟩, ?_⟩, fun q => ⟨⟨by omega, by omega⟩, ?_⟩⟩
  · unfold e_al; rw [if_pos q]
  · unfold e_al; rw [if_neg q]
def vc_X5_numberAt (g_units : Nat → Int32) (al : Int) (ac : Int) (rw : Int) (Q : Int → Prop) : Prop :=
((rw = 0 → (∀ (r1 : Int), z_in r1 → (r1 = m_no (g_th g_units) ac al) → Q r1)) ∧
(rw ≠ 0 → (∀ (r2 : Int), z_in r2 → (r2 = m_no (g_th g_units) al ac) → Q r2)))
set_option maxHeartbeats 4000000 in
set_option maxRecDepth 100000 in
theorem wk_X5_numberAt (l : Launch) (D : va_G) (cA : Nat → ClassId) (g : Nat) (ga_units : Nat) (g_units : Nat → Int32) (ga_lengths : Nat) (g_lengths : Nat → Int32) (ga_offsets : Nat) (g_offsets : Nat → Int32) (g_step : Int) (al : Int) (ac : Int) (rw : Int) (h_g_step : z_in g_step) (h_al : z_in al) (h_ac : z_in ac) (h_rw : z_in rw) (Q : Int → Prop) (hv : vc_X5_numberAt g_units al ac rw Q) : Met l yX5_numberAt wsX5_numberAt ({ frames := 2, cells := 0, slots := 0, locals := 44 } : Room) (va_Pc [.ref g, .int (z_i al), .int (z_i ac), .int (z_i rw)] (z_B0 D cA [(g, .inr (1, [.ref ga_units, .ref ga_lengths, .ref ga_offsets, .int (z_i g_step)])), (ga_units, .inl (cA 1, 1280, .inl g_units)), (ga_lengths, .inl (cA 1, 32, .inl g_lengths)), (ga_offsets, .inl (cA 1, 32, .inl g_offsets))])) (va_Qi (z_ri Q) (fun _ _ => True) (fun _ => False)) 0 0 (fun _ => False) := by
  unfold vc_X5_numberAt at hv
  refine Met.ofW (cc := cX5_numberAt) (maxL := 4) (ret := (some .int)) (by decide +kernel) rfl ?_
  intro p e s m args below meth c s₁ B hml hv0
  obtain ⟨rfl, hK, hP⟩ := hv0
  have hx := B.exec
  have hb := B.bytes
  have hr := B.returns
  have hts := atoms_spec (ws := wsX5_numberAt) B.pre
  have hown : s.vm.findClass RX5 = some m.cls := findClass_of_methodNamed B.named
  have hlocks := B.notSynchronized
  have hS : va_S (fun _ : Nat => False) s.heap s.heap [] := va_S.rf
  have hl := lv_entry ([.ref g, .int (z_i al), .int (z_i ac), .int (z_i rw)]) (n := 4) (Nat.le_of_ble_eq_true rfl)
  rw [lg_entry_eq]
  generalize (lg_sl ([.ref g, .int (z_i al), .int (z_i ac), .int (z_i rw)]) ++ List.replicate (4 - (lg_sl ([.ref g, .int (z_i al), .int (z_i ac), .int (z_i rw)])).length) Slot.unset).toArray = ls at hl ⊢
  have hl : lv_has ls 4 [(0, .ref g), (1, .int (z_i al)), (2, .int (z_i ac)), (3, .int (z_i rw))] := hl
  refine lv_iload_n hx hb dX5_numberAt_0 rfl (lv_at hl 3 rfl) ?_
  refine lx_if_eq (tgt := 13) hx hb dX5_numberAt_1 (by decide) h_rw (fun hc => ?_) (fun hc => ?_)
  · have hv := hv.1 hc
    refine lv_aload_n hx hb dX5_numberAt_13 rfl (lv_at hl 0 rfl) ?_
    refine lv_iload_n hx hb dX5_numberAt_14 rfl (lv_at hl 2 rfl) ?_
    refine lv_iload_n hx hb dX5_numberAt_15 rfl (lv_at hl 1 rfl) ?_
    refine va_calli (va_runV (As := [.int (z_i ac), .int (z_i al)]) (rest := []) ⟨hx, hb, hml, hown, hts⟩ (mt_X2_numberOf l D cA g ga_units g_units ga_lengths g_lengths ga_offsets g_offsets g_step ac al h_g_step h_ac h_al) (cwV 2 hts gX5_numberAt_X2_numberOf rfl rfl rfl (by decide +kernel) ⟨Nat.le_of_ble_eq_true rfl, Nat.le_of_ble_eq_true rfl⟩) ⟨z_bl0, va_recv hK hP (ci := 1) (q0 := 0) rfl rfl, fun U hU hW => ⟨rfl, z_b0 hK hP hU hW⟩⟩ rfl rfl hl.1 rfl (lv_room (Nat.le_of_ble_eq_true rfl)) dX5_numberAt_16 ⟨Nat.zero_le _, Nat.zero_le _⟩) hS (fun q _ h => h.elim) (fun q h => h.elim) (fun r0 u t H locs ht hvm hw hB hz1 hk1 hS => ?_)
    obtain ⟨r1, rfl, h_r1, hw⟩ := hw
    have hP := z_P_all hP hk1
    have hv := hv r1 h_r1 hw
    exact W.iret (v := z_i r1) hx hb hr (fun t ht hW => ⟨⟨z_i r1, (), rfl, ⟨r1, rfl, h_r1, hv⟩, trivial⟩, hS.F ht⟩) hS.2.2 dX5_numberAt_19
  · have hv := hv.2 hc
    refine lv_aload_n hx hb dX5_numberAt_4 rfl (lv_at hl 0 rfl) ?_
    refine lv_iload_n hx hb dX5_numberAt_5 rfl (lv_at hl 1 rfl) ?_
    refine lv_iload_n hx hb dX5_numberAt_6 rfl (lv_at hl 2 rfl) ?_
    refine va_calli (va_runV (As := [.int (z_i al), .int (z_i ac)]) (rest := []) ⟨hx, hb, hml, hown, hts⟩ (mt_X2_numberOf l D cA g ga_units g_units ga_lengths g_lengths ga_offsets g_offsets g_step al ac h_g_step h_al h_ac) (cwV 2 hts gX5_numberAt_X2_numberOf rfl rfl rfl (by decide +kernel) ⟨Nat.le_of_ble_eq_true rfl, Nat.le_of_ble_eq_true rfl⟩) ⟨z_bl0, va_recv hK hP (ci := 1) (q0 := 0) rfl rfl, fun U hU hW => ⟨rfl, z_b0 hK hP hU hW⟩⟩ rfl rfl hl.1 rfl (lv_room (Nat.le_of_ble_eq_true rfl)) dX5_numberAt_7 ⟨Nat.zero_le _, Nat.zero_le _⟩) hS (fun q _ h => h.elim) (fun q h => h.elim) (fun r0 u t H locs ht hvm hw hB hz1 hk1 hS => ?_)
    obtain ⟨r2, rfl, h_r2, hw⟩ := hw
    have hP := z_P_all hP hk1
    have hv := hv r2 h_r2 hw
    refine lv_goto (tgt := 19) hx hb dX5_numberAt_10 (by decide) ?_
    exact W.iret (v := z_i r2) hx hb hr (fun t ht hW => ⟨⟨z_i r2, (), rfl, ⟨r2, rfl, h_r2, hv⟩, trivial⟩, hS.F ht⟩) hS.2.2 dX5_numberAt_19
set_option maxHeartbeats 4000000 in
set_option maxRecDepth 100000 in
theorem mt_X5_numberAt (l : Launch) (D : va_G) (cA : Nat → ClassId) (g : Nat) (ga_units : Nat) (g_units : Nat → Int32) (ga_lengths : Nat) (g_lengths : Nat → Int32) (ga_offsets : Nat) (g_offsets : Nat → Int32) (g_step : Int) (al : Int) (ac : Int) (rw : Int) (h_g_step : z_in g_step) (h_al : z_in al) (h_ac : z_in ac) (h_rw : z_in rw)  : Met l yX5_numberAt wsX5_numberAt ({ frames := 2, cells := 0, slots := 0, locals := 44 } : Room) (va_Pc [.ref g, .int (z_i al), .int (z_i ac), .int (z_i rw)] (z_B0 D cA [(g, .inr (1, [.ref ga_units, .ref ga_lengths, .ref ga_offsets, .int (z_i g_step)])), (ga_units, .inl (cA 1, 1280, .inl g_units)), (ga_lengths, .inl (cA 1, 32, .inl g_lengths)), (ga_offsets, .inl (cA 1, 32, .inl g_offsets))])) (va_Qi (z_ri (fun (r : Int) => r = e_no (g_th g_units) al ac rw)) (fun _ _ => True) (fun _ => False)) 0 0 (fun _ => False) := by
  refine wk_X5_numberAt l D cA g ga_units g_units ga_lengths g_lengths ga_offsets g_offsets g_step al ac rw h_g_step h_al h_ac h_rw (fun (r : Int) => r = e_no (g_th g_units) al ac rw) ?_
  unfold vc_X5_numberAt
  refine ⟨fun q r1 _ h => ?_, fun q r1 _ h => ?_⟩
  · unfold e_no; rw [if_pos q]; exact h
  · unfold e_no; rw [if_neg q]; exact h
def vc_X5_isHidden (g_units : Nat → Int32) (fr : Int) (to : Int) (eye : Int) (rw : Int) (Q : Int → Prop) : Prop :=
(0 ≤ fr ∧ fr < 1280) ∧ (∀ (r2 : Int), z_in r2 → (r2 = e_al fr rw) → (∀ J19 : Int → Int → Prop,
(∀ (s19_0 : Int) (s19_1 : Int), z_in s19_0 → z_in s19_1 → (0 ≤ s19_1 ∧ s19_1 < 1280) ∧ (∀ (r4 : Int), z_in r4 → (r4 = e_al s19_1 s19_0) → (0 ≤ to ∧ to < 1280) ∧ (∀ (r6 : Int), z_in r6 → (r6 = e_al to rw) → z_in (r6 - r2) ∧ (∀ v7 : Int, v7 = r6 - r2 → (∀ J46 : Int → Int → Prop,
(∀ (s46_0 : Int) (s46_1 : Int), z_in s46_0 → z_in s46_1 → (0 ≤ s46_1 ∧ s46_1 < 1280) ∧ (∀ (r11 : Int), z_in r11 → (r11 = e_al s46_1 s46_0) → z_in (r11 - r4) ∧ (∀ v12 : Int, v12 = r11 - r4 → z_in (z_abs v7) ∧ (∀ v15 : Int, v15 = z_abs v7 → (∀ (r18 : Int), z_in r18 → (r18 = g_at g_units fr) → z_nl (r18 + (1024 * eye)) ∧ (∀ v19 : Int, v19 = r18 + (1024 * eye) → (∀ L79 : Int → Prop,
(∀ (x79_12 : Int), z_in x79_12 → ((x79_12 ≥ v15 → Q 0) ∧
(x79_12 < v15 → z_in (v15 - x79_12) ∧ (∀ (r23 : Int), z_in r23 → (r23 = g_at g_units to) → z_nl ((v19 * (v15 - x79_12)) + (r23 * x79_12)) ∧ (∀ v24 : Int, v24 = (v19 * (v15 - x79_12)) + (r23 * x79_12) → (∀ J123 : Int → Int → Prop,
(∀ (s123_0 : Int) (s123_1 : Int), z_in s123_0 → z_in s123_1 → z_in (s123_1 + s123_0) ∧ (∀ v27 : Int, v27 = s123_1 + s123_0 → z_in ((r4 * v15) + (v12 * x79_12)) ∧ (∀ v30 : Int, v30 = (r4 * v15) + (v12 * x79_12) → v15 ≠ 0 ∧ z_in (v30.tdiv v15) ∧ (∀ (r35 : Int), z_in r35 → (r35 = e_no (g_th g_units) v27 (v30.tdiv v15) rw) → z_in ((v30 + v15) - 1) ∧ v15 ≠ 0 ∧ z_in (((v30 + v15) - 1).tdiv v15) ∧ (∀ (r39 : Int), z_in r39 → (r39 = e_no (g_th g_units) v27 (((v30 + v15) - 1).tdiv v15) rw) → v15 ≠ 0 ∧ z_in (v30.tmod v15) ∧ (∀ v41 : Int, v41 = v30.tmod v15 → ((r35 = -1 → L79 (x79_12 + 1)) ∧
(r35 ≠ -1 → ((r39 = -1 → L79 (x79_12 + 1)) ∧
(r39 ≠ -1 → (∀ (r44 : Int), z_in r44 → (r44 = g_at g_units r35) → z_in (v15 - v41) ∧ (∀ (r46 : Int), z_in r46 → (r46 = g_at g_units r39) → z_nl ((r44 * (v15 - v41)) + (r46 * v41)) ∧ (∀ v47 : Int, v47 = (r44 * (v15 - v41)) + (r46 * v41) → ((v47 ≤ v24 → L79 (x79_12 + 1)) ∧
(v47 > v24 → Q 1)))))))))))))) → J123 s123_0 s123_1) →
((v7 ≤ 0 → J123 (-x79_12) r2) ∧
(v7 > 0 → J123 x79_12 r2))))))) → L79 x79_12) →
L79 1)))))) → J46 s46_0 s46_1) →
((rw ≠ 0 → J46 0 to) ∧
(rw = 0 → J46 1 to)))))) → J19 s19_0 s19_1) →
((rw ≠ 0 → J19 0 fr) ∧
(rw = 0 → J19 1 fr))))
set_option maxHeartbeats 4000000 in
set_option maxRecDepth 100000 in
theorem wk_X5_isHidden (l : Launch) (D : va_G) (cA : Nat → ClassId) (g : Nat) (ga_units : Nat) (g_units : Nat → Int32) (ga_lengths : Nat) (g_lengths : Nat → Int32) (ga_offsets : Nat) (g_offsets : Nat → Int32) (g_step : Int) (fr : Int) (to : Int) (eye : Int) (rw : Int) (h_g_step : z_in g_step) (h_fr : z_in fr) (h_to : z_in to) (h_eye : z_in eye) (h_rw : z_in rw) (Q : Int → Prop) (hv : vc_X5_isHidden g_units fr to eye rw Q) : Met l yX5_isHidden wsX5_isHidden ({ frames := 3, cells := 0, slots := 0, locals := 67 } : Room) (va_Pc [.ref g, .int (z_i fr), .int (z_i to), .int (z_i eye), .int (z_i rw)] (z_B0 D cA [(g, .inr (1, [.ref ga_units, .ref ga_lengths, .ref ga_offsets, .int (z_i g_step)])), (ga_units, .inl (cA 1, 1280, .inl g_units)), (ga_lengths, .inl (cA 1, 32, .inl g_lengths)), (ga_offsets, .inl (cA 1, 32, .inl g_offsets))])) (va_Qi (z_ri Q) (fun _ _ => True) (fun _ => False)) 0 0 (fun _ => False) := by
  unfold vc_X5_isHidden at hv
  refine Met.ofW (cc := cX5_isHidden) (maxL := 22) (ret := (some .boolean)) (by decide +kernel) rfl ?_
  intro p e s m args below meth c s₁ B hml hv0
  obtain ⟨rfl, hK, hP⟩ := hv0
  have hx := B.exec
  have hb := B.bytes
  have hr := B.returns
  have hts := atoms_spec (ws := wsX5_isHidden) B.pre
  have hown : s.vm.findClass RX5 = some m.cls := findClass_of_methodNamed B.named
  have hlocks := B.notSynchronized
  have hS : va_S (fun _ : Nat => False) s.heap s.heap [] := va_S.rf
  have hl := lv_entry ([.ref g, .int (z_i fr), .int (z_i to), .int (z_i eye), .int (z_i rw)]) (n := 22) (Nat.le_of_ble_eq_true rfl)
  rw [lg_entry_eq]
  generalize (lg_sl ([.ref g, .int (z_i fr), .int (z_i to), .int (z_i eye), .int (z_i rw)]) ++ List.replicate (22 - (lg_sl ([.ref g, .int (z_i fr), .int (z_i to), .int (z_i eye), .int (z_i rw)])).length) Slot.unset).toArray = ls at hl ⊢
  have hl : lv_has ls 22 [(0, .ref g), (1, .int (z_i fr)), (2, .int (z_i to)), (3, .int (z_i eye)), (4, .int (z_i rw))] := hl
  refine lv_iload_n hx hb dX5_isHidden_0 rfl (lv_at hl 1 rfl) ?_
  refine lv_iload hx hb dX5_isHidden_1 (lv_at hl 4 rfl) ?_
  obtain ⟨hp1, hv⟩ := hv
  refine va_calli (va_runS (As := [.int (z_i fr), .int (z_i rw)]) (rest := []) ⟨hx, hb, hml, hown, hts⟩ (mt_X5_alongOf l D cA fr rw h_fr h_rw hp1) (va_cwS 2 hts gX5_isHidden_X5_alongOf rfl rfl rfl (by decide +kernel) ⟨Nat.le_of_ble_eq_true rfl, Nat.le_of_ble_eq_true rfl⟩) ⟨z_bl0, fun U hU hW => ⟨rfl, z_b0 hK (hP.sub (ws' := []) [] rfl) hU hW⟩⟩ rfl rfl hl.1 rfl (lv_room (Nat.le_of_ble_eq_true rfl)) dX5_isHidden_3 ⟨Nat.zero_le _, Nat.zero_le _⟩) hS (fun q _ h => h.elim) (fun q h => h.elim) (fun r0 u t H locs ht hvm hw hB hz1 hk1 hS => ?_)
  obtain ⟨r2, rfl, h_r2, hw⟩ := hw
  have hP := z_P_all hP hk1
  have hv := hv r2 h_r2 hw
  refine lv_istore (lv' := [(5, .int (z_i r2)), (0, .ref g), (1, .int (z_i fr)), (2, .int (z_i to)), (3, .int (z_i eye)), (4, .int (z_i rw))]) hx hb dX5_isHidden_6 hl (by decide) rfl (fun ls hl => ?_)
  refine lv_iload_n hx hb dX5_isHidden_8 rfl (lv_at hl 2 rfl) ?_
  have hv := hv (fun (s19_0 : Int) (s19_1 : Int) => ∀ (H : Heap) (locs : List Loc) (ls : Array Slot), va_P D vwCl [(g, .inr (1, [.ref ga_units, .ref ga_lengths, .ref ga_offsets, .int (z_i g_step)])), (ga_units, .inl (cA 1, 1280, .inl g_units)), (ga_lengths, .inl (cA 1, 32, .inl g_lengths)), (ga_offsets, .inl (cA 1, 32, .inl g_offsets))] H → va_S (fun _ : Nat => False) s.heap H locs → lv_has ls 22 [(5, .int (z_i r2)), (0, .ref g), (1, .int (z_i fr)), (2, .int (z_i to)), (3, .int (z_i eye)), (4, .int (z_i rw))] → W p l e (headSpec wsX5_isHidden ({ frames := 3, cells := 0, slots := 0, locals := 67 } : Room)).room s m ([.ref g, .int (z_i fr), .int (z_i to), .int (z_i eye), .int (z_i rw)]).toArray below meth c H locs 0 0 (MQ below (va_Qi (z_ri Q) (fun _ _ => True) (fun _ => False)) ([.ref g, .int (z_i fr), .int (z_i to), .int (z_i eye), .int (z_i rw)]).toArray s 0 0 (fun _ => False)) (F0 m 19 ls [.int (z_i s19_0), .int (z_i s19_1)])) (by
    intro s19_0 s19_1 h_s19_0 h_s19_1 hv H locs ls hP hS hl
    obtain ⟨hp3, hv⟩ := hv
    refine va_calli (va_runS (As := [.int (z_i s19_1), .int (z_i s19_0)]) (rest := []) ⟨hx, hb, hml, hown, hts⟩ (mt_X5_alongOf l D cA s19_1 s19_0 h_s19_1 h_s19_0 hp3) (va_cwS 2 hts gX5_isHidden_X5_alongOf rfl rfl rfl (by decide +kernel) ⟨Nat.le_of_ble_eq_true rfl, Nat.le_of_ble_eq_true rfl⟩) ⟨z_bl0, fun U hU hW => ⟨rfl, z_b0 hK (hP.sub (ws' := []) [] rfl) hU hW⟩⟩ rfl rfl hl.1 rfl (lv_room (Nat.le_of_ble_eq_true rfl)) dX5_isHidden_19 ⟨Nat.zero_le _, Nat.zero_le _⟩) hS (fun q _ h => h.elim) (fun q h => h.elim) (fun r0 u t H locs ht hvm hw hB hz1 hk1 hS => ?_)
    obtain ⟨r4, rfl, h_r4, hw⟩ := hw
    have hP := z_P_all hP hk1
    have hv := hv r4 h_r4 hw
    refine lv_istore (lv' := [(6, .int (z_i r4)), (5, .int (z_i r2)), (0, .ref g), (1, .int (z_i fr)), (2, .int (z_i to)), (3, .int (z_i eye)), (4, .int (z_i rw))]) hx hb dX5_isHidden_22 hl (by decide) rfl (fun ls hl => ?_)
    refine lv_iload_n hx hb dX5_isHidden_24 rfl (lv_at hl 4 rfl) ?_
    refine lv_iload hx hb dX5_isHidden_25 (lv_at hl 6 rfl) ?_
    obtain ⟨hp5, hv⟩ := hv
    refine va_calli (va_runS (As := [.int (z_i to), .int (z_i rw)]) (rest := []) ⟨hx, hb, hml, hown, hts⟩ (mt_X5_alongOf l D cA to rw h_to h_rw hp5) (va_cwS 2 hts gX5_isHidden_X5_alongOf rfl rfl rfl (by decide +kernel) ⟨Nat.le_of_ble_eq_true rfl, Nat.le_of_ble_eq_true rfl⟩) ⟨z_bl0, fun U hU hW => ⟨rfl, z_b0 hK (hP.sub (ws' := []) [] rfl) hU hW⟩⟩ rfl rfl hl.1 rfl (lv_room (Nat.le_of_ble_eq_true rfl)) dX5_isHidden_27 ⟨Nat.zero_le _, Nat.zero_le _⟩) hS (fun q _ h => h.elim) (fun q h => h.elim) (fun r0 u t H locs ht hvm hw hB hz1 hk1 hS => ?_)
    obtain ⟨r6, rfl, h_r6, hw⟩ := hw
    have hP := z_P_all hP hk1
    have hv := hv r6 h_r6 hw
    refine lv_iload hx hb dX5_isHidden_30 (lv_at hl 1 rfl) ?_
    refine lx_isub hx hb dX5_isHidden_32 ?_
    obtain ⟨hr8, hv⟩ := hv
    refine lx_topi (fun v7 hy9 => ?_)
    have hv := hv v7 hy9
    have h_v7 : z_in v7 := by rw [hy9]; exact hr8
    refine lv_istore (lv' := [(7, .int (z_i v7)), (6, .int (z_i r4)), (5, .int (z_i r2)), (0, .ref g), (1, .int (z_i fr)), (2, .int (z_i to)), (3, .int (z_i eye)), (4, .int (z_i rw))]) hx hb dX5_isHidden_33 hl (by decide) rfl (fun ls hl => ?_)
    refine lv_iload_n hx hb dX5_isHidden_35 rfl (lv_at hl 5 rfl) ?_
    have hv := hv (fun (s46_0 : Int) (s46_1 : Int) => ∀ (H : Heap) (locs : List Loc) (ls : Array Slot), va_P D vwCl [(g, .inr (1, [.ref ga_units, .ref ga_lengths, .ref ga_offsets, .int (z_i g_step)])), (ga_units, .inl (cA 1, 1280, .inl g_units)), (ga_lengths, .inl (cA 1, 32, .inl g_lengths)), (ga_offsets, .inl (cA 1, 32, .inl g_offsets))] H → va_S (fun _ : Nat => False) s.heap H locs → lv_has ls 22 [(7, .int (z_i v7)), (6, .int (z_i r4)), (5, .int (z_i r2)), (0, .ref g), (1, .int (z_i fr)), (2, .int (z_i to)), (3, .int (z_i eye)), (4, .int (z_i rw))] → W p l e (headSpec wsX5_isHidden ({ frames := 3, cells := 0, slots := 0, locals := 67 } : Room)).room s m ([.ref g, .int (z_i fr), .int (z_i to), .int (z_i eye), .int (z_i rw)]).toArray below meth c H locs 0 0 (MQ below (va_Qi (z_ri Q) (fun _ _ => True) (fun _ => False)) ([.ref g, .int (z_i fr), .int (z_i to), .int (z_i eye), .int (z_i rw)]).toArray s 0 0 (fun _ => False)) (F0 m 46 ls [.int (z_i s46_0), .int (z_i s46_1)])) (by
      intro s46_0 s46_1 h_s46_0 h_s46_1 hv H locs ls hP hS hl
      obtain ⟨hp10, hv⟩ := hv
      refine va_calli (va_runS (As := [.int (z_i s46_1), .int (z_i s46_0)]) (rest := []) ⟨hx, hb, hml, hown, hts⟩ (mt_X5_alongOf l D cA s46_1 s46_0 h_s46_1 h_s46_0 hp10) (va_cwS 2 hts gX5_isHidden_X5_alongOf rfl rfl rfl (by decide +kernel) ⟨Nat.le_of_ble_eq_true rfl, Nat.le_of_ble_eq_true rfl⟩) ⟨z_bl0, fun U hU hW => ⟨rfl, z_b0 hK (hP.sub (ws' := []) [] rfl) hU hW⟩⟩ rfl rfl hl.1 rfl (lv_room (Nat.le_of_ble_eq_true rfl)) dX5_isHidden_46 ⟨Nat.zero_le _, Nat.zero_le _⟩) hS (fun q _ h => h.elim) (fun q h => h.elim) (fun r0 u t H locs ht hvm hw hB hz1 hk1 hS => ?_)
      obtain ⟨r11, rfl, h_r11, hw⟩ := hw
      have hP := z_P_all hP hk1
      have hv := hv r11 h_r11 hw
      refine lv_iload hx hb dX5_isHidden_49 (lv_at hl 1 rfl) ?_
      refine lx_isub hx hb dX5_isHidden_51 ?_
      obtain ⟨hr13, hv⟩ := hv
      refine lx_topi (fun v12 hy14 => ?_)
      have hv := hv v12 hy14
      have h_v12 : z_in v12 := by rw [hy14]; exact hr13
      refine lv_istore (lv' := [(8, .int (z_i v12)), (7, .int (z_i v7)), (6, .int (z_i r4)), (5, .int (z_i r2)), (0, .ref g), (1, .int (z_i fr)), (2, .int (z_i to)), (3, .int (z_i eye)), (4, .int (z_i rw))]) hx hb dX5_isHidden_52 hl (by decide) rfl (fun ls hl => ?_)
      refine lv_iload hx hb dX5_isHidden_54 (lv_at hl 1 rfl) ?_
      refine lx_mabs hx hb (hml.trans hl.1.symm) hown (hts (.methodLink RX5 15 Lib.Math.abs.name) (by decide +kernel)) (hts (.static Lib.Math.abs.name) (by decide +kernel)) (hts (.initialized "java/lang/Math") (by decide +kernel)) (hts (.code Lib.Math.abs.name Lib.Math.abs.code 1 (some .int)) (by decide +kernel)) (Nat.le_of_ble_eq_true rfl) (Nat.le_of_ble_eq_true rfl) (Nat.zero_le _) (Nat.zero_le _) dX5_isHidden_56 h_v7 ?_
      obtain ⟨hr16, hv⟩ := hv
      refine lx_topi (fun v15 hy17 => ?_)
      have hv := hv v15 hy17
      have h_v15 : z_in v15 := by rw [hy17]; exact hr16
      refine lv_istore (lv' := [(9, .int (z_i v15)), (8, .int (z_i v12)), (7, .int (z_i v7)), (6, .int (z_i r4)), (5, .int (z_i r2)), (0, .ref g), (1, .int (z_i fr)), (2, .int (z_i to)), (3, .int (z_i eye)), (4, .int (z_i rw))]) hx hb dX5_isHidden_59 hl (by decide) rfl (fun ls hl => ?_)
      refine lv_aload_n hx hb dX5_isHidden_61 rfl (lv_at hl 5 rfl) ?_
      refine lv_iload_n hx hb dX5_isHidden_62 rfl (lv_at hl 6 rfl) ?_
      refine va_calli (va_runV (As := [.int (z_i fr)]) (rest := []) ⟨hx, hb, hml, hown, hts⟩ (mt_X2_unitsOf l D cA g ga_units g_units ga_lengths g_lengths ga_offsets g_offsets g_step fr h_g_step h_fr) (cwV 1 hts gX5_isHidden_X2_unitsOf rfl rfl rfl (by decide +kernel) ⟨Nat.le_of_ble_eq_true rfl, Nat.le_of_ble_eq_true rfl⟩) ⟨z_bl0, va_recv hK hP (ci := 1) (q0 := 0) rfl rfl, fun U hU hW => ⟨rfl, z_b0 hK hP hU hW⟩⟩ rfl rfl hl.1 rfl (lv_room (Nat.le_of_ble_eq_true rfl)) dX5_isHidden_63 ⟨Nat.zero_le _, Nat.zero_le _⟩) hS (fun q _ h => h.elim) (fun q h => h.elim) (fun r0 u t H locs ht hvm hw hB hz1 hk1 hS => ?_)
      obtain ⟨r18, rfl, h_r18, hw⟩ := hw
      have hP := z_P_all hP hk1
      have hv := hv r18 h_r18 hw
      refine lx_i2l hx hb dX5_isHidden_66 h_r18 ?_
      refine lx_ldc2 (a := 1024) hx hb hown (hts (.constantLong RX5 26 (1024)) (by decide +kernel)) (by decide) dX5_isHidden_67 ?_
      refine lv_iload_n hx hb dX5_isHidden_70 rfl (lv_at hl 8 rfl) ?_
      refine lx_i2l hx hb dX5_isHidden_71 h_eye ?_
      refine lx_lmul hx hb dX5_isHidden_72 ?_
      refine lx_ladd hx hb dX5_isHidden_73 ?_
      obtain ⟨hr20, hv⟩ := hv
      refine lx_topl (fun v19 hy21 => ?_)
      have hv := hv v19 hy21
      have h_v19 : z_nl v19 := by rw [hy21]; exact hr20
      refine lv_lstore (lv' := [(10, .long (z_l v19)), (9, .int (z_i v15)), (8, .int (z_i v12)), (7, .int (z_i v7)), (6, .int (z_i r4)), (5, .int (z_i r2)), (0, .ref g), (1, .int (z_i fr)), (2, .int (z_i to)), (3, .int (z_i eye)), (4, .int (z_i rw))]) hx hb dX5_isHidden_74 hl (by decide) rfl (fun ls hl => ?_)
      refine lv_iconst (v := z_i 1) hx hb dX5_isHidden_76 rfl ?_
      refine lv_istore (lv' := [(12, .int (z_i 1)), (10, .long (z_l v19)), (9, .int (z_i v15)), (8, .int (z_i v12)), (7, .int (z_i v7)), (6, .int (z_i r4)), (5, .int (z_i r2)), (0, .ref g), (1, .int (z_i fr)), (2, .int (z_i to)), (3, .int (z_i eye)), (4, .int (z_i rw))]) hx hb dX5_isHidden_77 hl (by decide) rfl (fun ls hl => ?_)
      refine hv (fun (x79_12 : Int) => ∀ (H : Heap) (locs : List Loc) (ls : Array Slot), va_P D vwCl [(g, .inr (1, [.ref ga_units, .ref ga_lengths, .ref ga_offsets, .int (z_i g_step)])), (ga_units, .inl (cA 1, 1280, .inl g_units)), (ga_lengths, .inl (cA 1, 32, .inl g_lengths)), (ga_offsets, .inl (cA 1, 32, .inl g_offsets))] H → va_S (fun _ : Nat => False) s.heap H locs → lv_has ls 22 [(12, .int (z_i x79_12)), (10, .long (z_l v19)), (9, .int (z_i v15)), (8, .int (z_i v12)), (7, .int (z_i v7)), (6, .int (z_i r4)), (5, .int (z_i r2)), (0, .ref g), (2, .int (z_i to)), (4, .int (z_i rw))] → W p l e _ s m _ below meth c H locs 0 0 _ (F0 m 79 ls [])) ?_ _ _ ls hP hS (lv_sub hl [0, 1, 2, 3, 4, 5, 6, 7, 9, 11] rfl)
      intro x79_12 h_x79_12 hv H locs ls hP hS hl
      refine lv_iload hx hb dX5_isHidden_79 (lv_at hl 0 rfl) ?_
      refine lv_iload hx hb dX5_isHidden_81 (lv_at hl 2 rfl) ?_
      refine lx_icmp_ge (tgt := 237) hx hb dX5_isHidden_83 (by decide) h_x79_12 h_v15 (fun hc => ?_) (fun hc => ?_)
      · have hv := hv.1 hc
        refine lv_iconst (v := z_i 0) hx hb dX5_isHidden_237 rfl ?_
        exact W.zret (v := z_i 0) hx hb hr (by decide) (fun t ht hW => ⟨⟨z_i 0, (), rfl, ⟨0, rfl, (show z_in 0 from ⟨by decide, by decide⟩), hv⟩, trivial⟩, hS.F ht⟩) hS.2.2 dX5_isHidden_238
      · have hv := hv.2 hc
        refine lv_lload hx hb dX5_isHidden_86 (lv_at hl 1 rfl) ?_
        refine lv_iload hx hb dX5_isHidden_88 (lv_at hl 2 rfl) ?_
        refine lv_iload hx hb dX5_isHidden_90 (lv_at hl 0 rfl) ?_
        refine lx_isub hx hb dX5_isHidden_92 ?_
        obtain ⟨hr22, hv⟩ := hv
        refine lx_i2l hx hb dX5_isHidden_93 hr22 ?_
        refine lx_lmul hx hb dX5_isHidden_94 ?_
        refine lv_aload_n hx hb dX5_isHidden_95 rfl (lv_at hl 7 rfl) ?_
        refine lv_iload_n hx hb dX5_isHidden_96 rfl (lv_at hl 8 rfl) ?_
        refine va_calli (va_runV (As := [.int (z_i to)]) (rest := [.long (z_l (v19 * (v15 - x79_12)))]) ⟨hx, hb, hml, hown, hts⟩ (mt_X2_unitsOf l D cA g ga_units g_units ga_lengths g_lengths ga_offsets g_offsets g_step to h_g_step h_to) (cwV 1 hts gX5_isHidden_X2_unitsOf rfl rfl rfl (by decide +kernel) ⟨Nat.le_of_ble_eq_true rfl, Nat.le_of_ble_eq_true rfl⟩) ⟨z_bl0, va_recv hK hP (ci := 1) (q0 := 0) rfl rfl, fun U hU hW => ⟨rfl, z_b0 hK hP hU hW⟩⟩ rfl rfl hl.1 rfl (lv_room (Nat.le_of_ble_eq_true rfl)) dX5_isHidden_97 ⟨Nat.zero_le _, Nat.zero_le _⟩) hS (fun q _ h => h.elim) (fun q h => h.elim) (fun r0 u t H locs ht hvm hw hB hz1 hk1 hS => ?_)
        obtain ⟨r23, rfl, h_r23, hw⟩ := hw
        have hP := z_P_all hP hk1
        have hv := hv r23 h_r23 hw
        refine lx_i2l hx hb dX5_isHidden_100 h_r23 ?_
        refine lv_iload hx hb dX5_isHidden_101 (lv_at hl 0 rfl) ?_
        refine lx_i2l hx hb dX5_isHidden_103 h_x79_12 ?_
        refine lx_lmul hx hb dX5_isHidden_104 ?_
        refine lx_ladd hx hb dX5_isHidden_105 ?_
        obtain ⟨hr25, hv⟩ := hv
        refine lx_topl (fun v24 hy26 => ?_)
        have hv := hv v24 hy26
        have h_v24 : z_nl v24 := by rw [hy26]; exact hr25
        refine lv_lstore (lv' := [(13, .long (z_l v24)), (12, .int (z_i x79_12)), (10, .long (z_l v19)), (9, .int (z_i v15)), (8, .int (z_i v12)), (7, .int (z_i v7)), (6, .int (z_i r4)), (5, .int (z_i r2)), (0, .ref g), (2, .int (z_i to)), (4, .int (z_i rw))]) hx hb dX5_isHidden_106 hl (by decide) rfl (fun ls hl => ?_)
        refine lv_iload hx hb dX5_isHidden_108 (lv_at hl 7 rfl) ?_
        have hv := hv (fun (s123_0 : Int) (s123_1 : Int) => ∀ (H : Heap) (locs : List Loc) (ls : Array Slot), va_P D vwCl [(g, .inr (1, [.ref ga_units, .ref ga_lengths, .ref ga_offsets, .int (z_i g_step)])), (ga_units, .inl (cA 1, 1280, .inl g_units)), (ga_lengths, .inl (cA 1, 32, .inl g_lengths)), (ga_offsets, .inl (cA 1, 32, .inl g_offsets))] H → va_S (fun _ : Nat => False) s.heap H locs → lv_has ls 22 [(13, .long (z_l v24)), (12, .int (z_i x79_12)), (10, .long (z_l v19)), (9, .int (z_i v15)), (8, .int (z_i v12)), (7, .int (z_i v7)), (6, .int (z_i r4)), (5, .int (z_i r2)), (0, .ref g), (2, .int (z_i to)), (4, .int (z_i rw))] → W p l e (headSpec wsX5_isHidden ({ frames := 3, cells := 0, slots := 0, locals := 67 } : Room)).room s m ([.ref g, .int (z_i fr), .int (z_i to), .int (z_i eye), .int (z_i rw)]).toArray below meth c H locs 0 0 (MQ below (va_Qi (z_ri Q) (fun _ _ => True) (fun _ => False)) ([.ref g, .int (z_i fr), .int (z_i to), .int (z_i eye), .int (z_i rw)]).toArray s 0 0 (fun _ => False)) (F0 m 123 ls [.int (z_i s123_0), .int (z_i s123_1)])) (by
          intro s123_0 s123_1 h_s123_0 h_s123_1 hv H locs ls hP hS hl
          refine lx_iadd hx hb dX5_isHidden_123 ?_
          obtain ⟨hr28, hv⟩ := hv
          refine lx_topi (fun v27 hy29 => ?_)
          have hv := hv v27 hy29
          have h_v27 : z_in v27 := by rw [hy29]; exact hr28
          refine lv_istore (lv' := [(15, .int (z_i v27)), (13, .long (z_l v24)), (12, .int (z_i x79_12)), (10, .long (z_l v19)), (9, .int (z_i v15)), (8, .int (z_i v12)), (7, .int (z_i v7)), (6, .int (z_i r4)), (5, .int (z_i r2)), (0, .ref g), (2, .int (z_i to)), (4, .int (z_i rw))]) hx hb dX5_isHidden_124 hl (by decide) rfl (fun ls hl => ?_)
          refine lv_iload hx hb dX5_isHidden_126 (lv_at hl 7 rfl) ?_
          refine lv_iload hx hb dX5_isHidden_128 (lv_at hl 4 rfl) ?_
          refine lx_imul hx hb dX5_isHidden_130 ?_
          refine lv_iload hx hb dX5_isHidden_131 (lv_at hl 5 rfl) ?_
          refine lv_iload hx hb dX5_isHidden_133 (lv_at hl 2 rfl) ?_
          refine lx_imul hx hb dX5_isHidden_135 ?_
          refine lx_iadd hx hb dX5_isHidden_136 ?_
          obtain ⟨hr31, hv⟩ := hv
          refine lx_topi (fun v30 hy32 => ?_)
          have hv := hv v30 hy32
          have h_v30 : z_in v30 := by rw [hy32]; exact hr31
          refine lv_istore (lv' := [(16, .int (z_i v30)), (15, .int (z_i v27)), (13, .long (z_l v24)), (12, .int (z_i x79_12)), (10, .long (z_l v19)), (9, .int (z_i v15)), (8, .int (z_i v12)), (7, .int (z_i v7)), (6, .int (z_i r4)), (5, .int (z_i r2)), (0, .ref g), (2, .int (z_i to)), (4, .int (z_i rw))]) hx hb dX5_isHidden_137 hl (by decide) rfl (fun ls hl => ?_)
          refine lv_aload_n hx hb dX5_isHidden_139 rfl (lv_at hl 10 rfl) ?_
          refine lv_iload hx hb dX5_isHidden_140 (lv_at hl 1 rfl) ?_
          refine lv_iload hx hb dX5_isHidden_142 (lv_at hl 0 rfl) ?_
          refine lv_iload hx hb dX5_isHidden_144 (lv_at hl 5 rfl) ?_
          obtain ⟨hz33, hv⟩ := hv
          refine lx_idiv hx hb dX5_isHidden_146 h_v30 h_v15 hz33 ?_
          refine lv_iload hx hb dX5_isHidden_147 (lv_at hl 12 rfl) ?_
          obtain ⟨hr34, hv⟩ := hv
          refine va_calli (va_runS (As := [.ref g, .int (z_i v27), .int (z_i (v30.tdiv v15)), .int (z_i rw)]) (rest := []) ⟨hx, hb, hml, hown, hts⟩ (mt_X5_numberAt l D cA g ga_units g_units ga_lengths g_lengths ga_offsets g_offsets g_step v27 (v30.tdiv v15) rw h_g_step h_v27 hr34 h_rw) (va_cwS 4 hts gX5_isHidden_X5_numberAt rfl rfl rfl (by decide +kernel) ⟨Nat.le_of_ble_eq_true rfl, Nat.le_of_ble_eq_true rfl⟩) ⟨z_bl0, fun U hU hW => ⟨rfl, z_b0 hK hP hU hW⟩⟩ rfl rfl hl.1 rfl (lv_room (Nat.le_of_ble_eq_true rfl)) dX5_isHidden_149 ⟨Nat.zero_le _, Nat.zero_le _⟩) hS (fun q _ h => h.elim) (fun q h => h.elim) (fun r0 u t H locs ht hvm hw hB hz1 hk1 hS => ?_)
          obtain ⟨r35, rfl, h_r35, hw⟩ := hw
          have hP := z_P_all hP hk1
          have hv := hv r35 h_r35 hw
          refine lv_istore (lv' := [(17, .int (z_i r35)), (16, .int (z_i v30)), (15, .int (z_i v27)), (13, .long (z_l v24)), (12, .int (z_i x79_12)), (10, .long (z_l v19)), (9, .int (z_i v15)), (8, .int (z_i v12)), (7, .int (z_i v7)), (6, .int (z_i r4)), (5, .int (z_i r2)), (0, .ref g), (2, .int (z_i to)), (4, .int (z_i rw))]) hx hb dX5_isHidden_152 hl (by decide) rfl (fun ls hl => ?_)
          refine lv_aload_n hx hb dX5_isHidden_154 rfl (lv_at hl 11 rfl) ?_
          refine lv_iload hx hb dX5_isHidden_155 (lv_at hl 2 rfl) ?_
          refine lv_iload hx hb dX5_isHidden_157 (lv_at hl 1 rfl) ?_
          refine lv_iload hx hb dX5_isHidden_159 (lv_at hl 6 rfl) ?_
          refine lx_iadd hx hb dX5_isHidden_161 ?_
          refine lv_iconst (v := z_i 1) hx hb dX5_isHidden_162 rfl ?_
          refine lx_isub hx hb dX5_isHidden_163 ?_
          refine lv_iload hx hb dX5_isHidden_164 (lv_at hl 6 rfl) ?_
          obtain ⟨hr36, hv⟩ := hv
          obtain ⟨hz37, hv⟩ := hv
          refine lx_idiv hx hb dX5_isHidden_166 hr36 h_v15 hz37 ?_
          refine lv_iload hx hb dX5_isHidden_167 (lv_at hl 13 rfl) ?_
          obtain ⟨hr38, hv⟩ := hv
          refine va_calli (va_runS (As := [.ref g, .int (z_i v27), .int (z_i (((v30 + v15) - 1).tdiv v15)), .int (z_i rw)]) (rest := []) ⟨hx, hb, hml, hown, hts⟩ (mt_X5_numberAt l D cA g ga_units g_units ga_lengths g_lengths ga_offsets g_offsets g_step v27 (((v30 + v15) - 1).tdiv v15) rw h_g_step h_v27 hr38 h_rw) (va_cwS 4 hts gX5_isHidden_X5_numberAt rfl rfl rfl (by decide +kernel) ⟨Nat.le_of_ble_eq_true rfl, Nat.le_of_ble_eq_true rfl⟩) ⟨z_bl0, fun U hU hW => ⟨rfl, z_b0 hK hP hU hW⟩⟩ rfl rfl hl.1 rfl (lv_room (Nat.le_of_ble_eq_true rfl)) dX5_isHidden_169 ⟨Nat.zero_le _, Nat.zero_le _⟩) hS (fun q _ h => h.elim) (fun q h => h.elim) (fun r0 u t H locs ht hvm hw hB hz1 hk1 hS => ?_)
          obtain ⟨r39, rfl, h_r39, hw⟩ := hw
          have hP := z_P_all hP hk1
          have hv := hv r39 h_r39 hw
          refine lv_istore (lv' := [(18, .int (z_i r39)), (17, .int (z_i r35)), (16, .int (z_i v30)), (15, .int (z_i v27)), (13, .long (z_l v24)), (12, .int (z_i x79_12)), (10, .long (z_l v19)), (9, .int (z_i v15)), (8, .int (z_i v12)), (7, .int (z_i v7)), (6, .int (z_i r4)), (5, .int (z_i r2)), (0, .ref g), (2, .int (z_i to)), (4, .int (z_i rw))]) hx hb dX5_isHidden_172 hl (by decide) rfl (fun ls hl => ?_)
          refine lv_iload hx hb dX5_isHidden_174 (lv_at hl 2 rfl) ?_
          refine lv_iload hx hb dX5_isHidden_176 (lv_at hl 7 rfl) ?_
          obtain ⟨hz40, hv⟩ := hv
          refine lx_irem hx hb dX5_isHidden_178 h_v30 h_v15 hz40 ?_
          obtain ⟨hr42, hv⟩ := hv
          refine lx_topi (fun v41 hy43 => ?_)
          have hv := hv v41 hy43
          have h_v41 : z_in v41 := by rw [hy43]; exact hr42
          refine lv_istore (lv' := [(19, .int (z_i v41)), (18, .int (z_i r39)), (17, .int (z_i r35)), (16, .int (z_i v30)), (15, .int (z_i v27)), (13, .long (z_l v24)), (12, .int (z_i x79_12)), (10, .long (z_l v19)), (9, .int (z_i v15)), (8, .int (z_i v12)), (7, .int (z_i v7)), (6, .int (z_i r4)), (5, .int (z_i r2)), (0, .ref g), (2, .int (z_i to)), (4, .int (z_i rw))]) hx hb dX5_isHidden_179 hl (by decide) rfl (fun ls hl => ?_)
          refine lv_iload hx hb dX5_isHidden_181 (lv_at hl 2 rfl) ?_
          refine lv_iconst (v := z_i (-1)) hx hb dX5_isHidden_183 rfl ?_
          refine lx_icmp_eq (tgt := 231) hx hb dX5_isHidden_184 (by decide) h_r35 (show z_in (-1) from ⟨by decide, by decide⟩) (fun hc => ?_) (fun hc => ?_)
          · have hv := hv.1 hc
            refine lv_iinc (v := z_i (x79_12 + 1)) (lv' := [(12, .int (z_i (x79_12 + 1))), (19, .int (z_i v41)), (18, .int (z_i r39)), (17, .int (z_i r35)), (16, .int (z_i v30)), (15, .int (z_i v27)), (13, .long (z_l v24)), (10, .long (z_l v19)), (9, .int (z_i v15)), (8, .int (z_i v12)), (7, .int (z_i v7)), (6, .int (z_i r4)), (5, .int (z_i r2)), (0, .ref g), (2, .int (z_i to)), (4, .int (z_i rw))]) hx hb dX5_isHidden_231 hl (k := 6) rfl (z_i_add _ _) (by decide) rfl (fun ls hl => ?_)
            refine lv_goto (tgt := 79) hx hb dX5_isHidden_234 (by decide) ?_
            exact hv _ _ ls hP hS (lv_sub hl [0, 7, 8, 9, 10, 11, 12, 13, 14, 15] rfl)
          · have hv := hv.2 hc
            refine lv_iload hx hb dX5_isHidden_187 (lv_at hl 1 rfl) ?_
            refine lv_iconst (v := z_i (-1)) hx hb dX5_isHidden_189 rfl ?_
            refine lx_icmp_eq (tgt := 231) hx hb dX5_isHidden_190 (by decide) h_r39 (show z_in (-1) from ⟨by decide, by decide⟩) (fun hc => ?_) (fun hc => ?_)
            · have hv := hv.1 hc
              refine lv_iinc (v := z_i (x79_12 + 1)) (lv' := [(12, .int (z_i (x79_12 + 1))), (19, .int (z_i v41)), (18, .int (z_i r39)), (17, .int (z_i r35)), (16, .int (z_i v30)), (15, .int (z_i v27)), (13, .long (z_l v24)), (10, .long (z_l v19)), (9, .int (z_i v15)), (8, .int (z_i v12)), (7, .int (z_i v7)), (6, .int (z_i r4)), (5, .int (z_i r2)), (0, .ref g), (2, .int (z_i to)), (4, .int (z_i rw))]) hx hb dX5_isHidden_231 hl (k := 6) rfl (z_i_add _ _) (by decide) rfl (fun ls hl => ?_)
              refine lv_goto (tgt := 79) hx hb dX5_isHidden_234 (by decide) ?_
              exact hv _ _ ls hP hS (lv_sub hl [0, 7, 8, 9, 10, 11, 12, 13, 14, 15] rfl)
            · have hv := hv.2 hc
              refine lv_aload_n hx hb dX5_isHidden_193 rfl (lv_at hl 13 rfl) ?_
              refine lv_iload hx hb dX5_isHidden_194 (lv_at hl 2 rfl) ?_
              refine va_calli (va_runV (As := [.int (z_i r35)]) (rest := []) ⟨hx, hb, hml, hown, hts⟩ (mt_X2_unitsOf l D cA g ga_units g_units ga_lengths g_lengths ga_offsets g_offsets g_step r35 h_g_step h_r35) (cwV 1 hts gX5_isHidden_X2_unitsOf rfl rfl rfl (by decide +kernel) ⟨Nat.le_of_ble_eq_true rfl, Nat.le_of_ble_eq_true rfl⟩) ⟨z_bl0, va_recv hK hP (ci := 1) (q0 := 0) rfl rfl, fun U hU hW => ⟨rfl, z_b0 hK hP hU hW⟩⟩ rfl rfl hl.1 rfl (lv_room (Nat.le_of_ble_eq_true rfl)) dX5_isHidden_196 ⟨Nat.zero_le _, Nat.zero_le _⟩) hS (fun q _ h => h.elim) (fun q h => h.elim) (fun r0 u t H locs ht hvm hw hB hz1 hk1 hS => ?_)
              obtain ⟨r44, rfl, h_r44, hw⟩ := hw
              have hP := z_P_all hP hk1
              have hv := hv r44 h_r44 hw
              refine lx_i2l hx hb dX5_isHidden_199 h_r44 ?_
              refine lv_iload hx hb dX5_isHidden_200 (lv_at hl 8 rfl) ?_
              refine lv_iload hx hb dX5_isHidden_202 (lv_at hl 0 rfl) ?_
              refine lx_isub hx hb dX5_isHidden_204 ?_
              obtain ⟨hr45, hv⟩ := hv
              refine lx_i2l hx hb dX5_isHidden_205 hr45 ?_
              refine lx_lmul hx hb dX5_isHidden_206 ?_
              refine lv_aload_n hx hb dX5_isHidden_207 rfl (lv_at hl 13 rfl) ?_
              refine lv_iload hx hb dX5_isHidden_208 (lv_at hl 1 rfl) ?_
              refine va_calli (va_runV (As := [.int (z_i r39)]) (rest := [.long (z_l (r44 * (v15 - v41)))]) ⟨hx, hb, hml, hown, hts⟩ (mt_X2_unitsOf l D cA g ga_units g_units ga_lengths g_lengths ga_offsets g_offsets g_step r39 h_g_step h_r39) (cwV 1 hts gX5_isHidden_X2_unitsOf rfl rfl rfl (by decide +kernel) ⟨Nat.le_of_ble_eq_true rfl, Nat.le_of_ble_eq_true rfl⟩) ⟨z_bl0, va_recv hK hP (ci := 1) (q0 := 0) rfl rfl, fun U hU hW => ⟨rfl, z_b0 hK hP hU hW⟩⟩ rfl rfl hl.1 rfl (lv_room (Nat.le_of_ble_eq_true rfl)) dX5_isHidden_210 ⟨Nat.zero_le _, Nat.zero_le _⟩) hS (fun q _ h => h.elim) (fun q h => h.elim) (fun r0 u t H locs ht hvm hw hB hz1 hk1 hS => ?_)
              obtain ⟨r46, rfl, h_r46, hw⟩ := hw
              have hP := z_P_all hP hk1
              have hv := hv r46 h_r46 hw
              refine lx_i2l hx hb dX5_isHidden_213 h_r46 ?_
              refine lv_iload hx hb dX5_isHidden_214 (lv_at hl 0 rfl) ?_
              refine lx_i2l hx hb dX5_isHidden_216 h_v41 ?_
              refine lx_lmul hx hb dX5_isHidden_217 ?_
              refine lx_ladd hx hb dX5_isHidden_218 ?_
              obtain ⟨hr48, hv⟩ := hv
              refine lx_topl (fun v47 hy49 => ?_)
              have hv := hv v47 hy49
              have h_v47 : z_nl v47 := by rw [hy49]; exact hr48
              refine lv_lstore (lv' := [(20, .long (z_l v47)), (19, .int (z_i v41)), (18, .int (z_i r39)), (17, .int (z_i r35)), (16, .int (z_i v30)), (15, .int (z_i v27)), (13, .long (z_l v24)), (12, .int (z_i x79_12)), (10, .long (z_l v19)), (9, .int (z_i v15)), (8, .int (z_i v12)), (7, .int (z_i v7)), (6, .int (z_i r4)), (5, .int (z_i r2)), (0, .ref g), (2, .int (z_i to)), (4, .int (z_i rw))]) hx hb dX5_isHidden_219 hl (by decide) rfl (fun ls hl => ?_)
              refine lv_lload hx hb dX5_isHidden_221 (lv_at hl 0 rfl) ?_
              refine lv_lload hx hb dX5_isHidden_223 (lv_at hl 6 rfl) ?_
              refine lx_lcmp hx hb dX5_isHidden_225 h_v47 h_v24 ?_
              refine lx_if_le (tgt := 231) hx hb dX5_isHidden_226 (by decide) (z_in_cmp _ _) (fun hc => ?_) (fun hc => ?_)
              · have hv := hv.1 (z_cmp_le.mp hc)
                refine lv_iinc (v := z_i (x79_12 + 1)) (lv' := [(12, .int (z_i (x79_12 + 1))), (20, .long (z_l v47)), (19, .int (z_i v41)), (18, .int (z_i r39)), (17, .int (z_i r35)), (16, .int (z_i v30)), (15, .int (z_i v27)), (13, .long (z_l v24)), (10, .long (z_l v19)), (9, .int (z_i v15)), (8, .int (z_i v12)), (7, .int (z_i v7)), (6, .int (z_i r4)), (5, .int (z_i r2)), (0, .ref g), (2, .int (z_i to)), (4, .int (z_i rw))]) hx hb dX5_isHidden_231 hl (k := 7) rfl (z_i_add _ _) (by decide) rfl (fun ls hl => ?_)
                refine lv_goto (tgt := 79) hx hb dX5_isHidden_234 (by decide) ?_
                exact hv _ _ ls hP hS (lv_sub hl [0, 8, 9, 10, 11, 12, 13, 14, 15, 16] rfl)
              · have hv := hv.2 (z_cmp_gt.mp hc)
                refine lv_iconst (v := z_i 1) hx hb dX5_isHidden_229 rfl ?_
                exact W.zret (v := z_i 1) hx hb hr (by decide) (fun t ht hW => ⟨⟨z_i 1, (), rfl, ⟨1, rfl, (show z_in 1 from ⟨by decide, by decide⟩), hv⟩, trivial⟩, hS.F ht⟩) hS.2.2 dX5_isHidden_230)
        refine lv_iload hx hb dX5_isHidden_110 (lv_at hl 5 rfl) ?_
        refine lx_if_le (tgt := 120) hx hb dX5_isHidden_112 (by decide) h_v7 (fun hc => ?_) (fun hc => ?_)
        · have hv := hv.1 hc
          refine lv_iload hx hb dX5_isHidden_120 (lv_at hl 1 rfl) ?_
          refine lx_ineg hx hb dX5_isHidden_122 ?_
          exact hv _ _ ls hP hS (lv_sub hl [0, 1, 2, 3, 4, 5, 6, 7, 8, 9, 10] rfl)
        · have hv := hv.2 hc
          refine lv_iload hx hb dX5_isHidden_115 (lv_at hl 1 rfl) ?_
          refine lv_goto (tgt := 123) hx hb dX5_isHidden_117 (by decide) ?_
          exact hv _ _ ls hP hS (lv_sub hl [0, 1, 2, 3, 4, 5, 6, 7, 8, 9, 10] rfl))
    refine lv_iload hx hb dX5_isHidden_36 (lv_at hl 7 rfl) ?_
    refine lx_if_ne (tgt := 45) hx hb dX5_isHidden_38 (by decide) h_rw (fun hc => ?_) (fun hc => ?_)
    · have hv := hv.1 hc
      refine lv_iconst (v := z_i 0) hx hb dX5_isHidden_45 rfl ?_
      exact hv _ _ ls hP hS (lv_sub hl [0, 1, 2, 3, 4, 5, 6, 7] rfl)
    · have hv := hv.2 hc
      refine lv_iconst (v := z_i 1) hx hb dX5_isHidden_41 rfl ?_
      refine lv_goto (tgt := 46) hx hb dX5_isHidden_42 (by decide) ?_
      exact hv _ _ ls hP hS (lv_sub hl [0, 1, 2, 3, 4, 5, 6, 7] rfl))
  refine lv_iload hx hb dX5_isHidden_9 (lv_at hl 5 rfl) ?_
  refine lx_if_ne (tgt := 18) hx hb dX5_isHidden_11 (by decide) h_rw (fun hc => ?_) (fun hc => ?_)
  · have hv := hv.1 hc
    refine lv_iconst (v := z_i 0) hx hb dX5_isHidden_18 rfl ?_
    exact hv _ _ ls hP hS (lv_sub hl [0, 1, 2, 3, 4, 5] rfl)
  · have hv := hv.2 hc
    refine lv_iconst (v := z_i 1) hx hb dX5_isHidden_14 rfl ?_
    refine lv_goto (tgt := 19) hx hb dX5_isHidden_15 (by decide) ?_
    exact hv _ _ ls hP hS (lv_sub hl [0, 1, 2, 3, 4, 5] rfl)
set_option maxHeartbeats 4000000 in
set_option maxRecDepth 100000 in
theorem mt_X5_isHidden (l : Launch) (D : va_G) (cA : Nat → ClassId) (g : Nat) (ga_units : Nat) (g_units : Nat → Int32) (ga_lengths : Nat) (g_lengths : Nat → Int32) (ga_offsets : Nat) (g_offsets : Nat → Int32) (g_step : Int) (fr : Int) (to : Int) (eye : Int) (rw : Int) (h_g_step : z_in g_step) (h_fr : z_in fr) (h_to : z_in to) (h_eye : z_in eye) (h_rw : z_in rw) (hp1 : 0 ≤ fr ∧ fr < 1280) (hp2 : 0 ≤ to ∧ to < 1280) (hp3 : 0 ≤ eye ∧ eye ≤ 8192) (hp4 : rw = 0 ∨ rw = 1) (hp5 : g_ok g_units) (hp6 : g_th g_units fr = true) (hp7 : g_th g_units to = true) : Met l yX5_isHidden wsX5_isHidden ({ frames := 3, cells := 0, slots := 0, locals := 67 } : Room) (va_Pc [.ref g, .int (z_i fr), .int (z_i to), .int (z_i eye), .int (z_i rw)] (z_B0 D cA [(g, .inr (1, [.ref ga_units, .ref ga_lengths, .ref ga_offsets, .int (z_i g_step)])), (ga_units, .inl (cA 1, 1280, .inl g_units)), (ga_lengths, .inl (cA 1, 32, .inl g_lengths)), (ga_offsets, .inl (cA 1, 32, .inl g_offsets))])) (va_Qi (z_ri (fun (r : Int) => (r = 1 ∧ e_hid (g_th g_units) (g_at g_units) fr to eye rw) ∨ (r = 0 ∧ ¬ e_hid (g_th g_units) (g_at g_units) fr to eye rw))) (fun _ _ => True) (fun _ => False)) 0 0 (fun _ => False) := by
  refine wk_X5_isHidden l D cA g ga_units g_units ga_lengths g_lengths ga_offsets g_offsets g_step fr to eye rw h_g_step h_fr h_to h_eye h_rw (fun (r : Int) => (r = 1 ∧ e_hid (g_th g_units) (g_at g_units) fr to eye rw) ∨ (r = 0 ∧ ¬ e_hid (g_th g_units) (g_at g_units) fr to eye rw)) ?_
  unfold vc_X5_isHidden
  have u1 := g_ok_at hp5 hp6
  have u2 := g_ok_at hp5 hp7
  have zr : z_in (1 - rw) := ⟨by omega, by omega⟩
  refine ⟨hp1, ?_⟩
  rintro r2 _ h2
  have b2 := e_al_in (rw := rw) hp1.1 hp1.2
  intro J19 hJ19
  suffices key19 : J19 (1 - rw) fr from ⟨fun q => by rw [show (1 - rw) = 0 by omega] at key19; exact key19, fun q => by rw [show (1 - rw) = 1 by omega] at key19; exact key19⟩
  refine hJ19 _ _ zr h_fr ⟨hp1, ?_⟩
  rintro r4 _ h4
  have b4 := e_al_in (rw := 1 - rw) hp1.1 hp1.2
  refine ⟨hp2, ?_⟩
  rintro r6 _ h6
  have b6 := e_al_in (rw := rw) hp2.1 hp2.2
  rw [← h2] at b2
  rw [← h4] at b4
  rw [← h6] at b6
  refine ⟨⟨by omega, by omega⟩, ?_⟩
  rintro v7 h7
  intro J46 hJ46
  suffices key46 : J46 (1 - rw) to from ⟨fun q => by rw [show (1 - rw) = 0 by omega] at key46; exact key46, fun q => by rw [show (1 - rw) = 1 by omega] at key46; exact key46⟩
  refine hJ46 _ _ zr h_to ⟨hp2, ?_⟩
  rintro r11 _ h11
  have b11 := e_al_in (rw := 1 - rw) hp2.1 hp2.2
  rw [← h11] at b11
  refine ⟨⟨by omega, by omega⟩, ?_⟩
  rintro v12 h12
  have ab : 0 ≤ z_abs v7 ∧ z_abs v7 ≤ 39 ∧ (v7 > 0 → z_abs v7 = v7) ∧ (v7 ≤ 0 → z_abs v7 = -v7) := by unfold z_abs; split <;> omega
  refine ⟨⟨by omega, by omega⟩, ?_⟩
  rintro v15 h15
  rw [← h15] at ab
  rintro r18 _ h18
  rw [← h18] at u1
  refine ⟨⟨by omega, by omega⟩, ?_⟩
  rintro v19 h19
  have hE : e_hid (g_th g_units) (g_at g_units) fr to eye rw = ∃ k : Int, 1 ≤ k ∧ k < v15 ∧ e_at (g_th g_units) (g_at g_units) r2 r4 v7 v12 v15 v19 to k rw := by
    rw [h19, h18, h15, h7, h12, h6, h2, h11, h4]; rfl
  rw [hE]
  intro L79 hL
  suffices H : ∀ (d : Nat) (k : Int), 1 ≤ k → k ≤ 100 → (v15 - k).toNat = d → (∀ k' : Int, 1 ≤ k' → k' < k → k' < v15 → ¬ e_at (g_th g_units) (g_at g_units) r2 r4 v7 v12 v15 v19 to k' rw) → L79 k from
    H _ 1 (by omega) (by omega) rfl (fun k' a b => absurd b (by omega))
  intro d
  induction d with
  | zero =>
    intro k k0 k1 hd hn
    refine hL _ ⟨by omega, by omega⟩ ⟨fun q => Or.inr ⟨rfl, ?_⟩, fun q => absurd q (by omega)⟩
    rintro ⟨k', a, b, hk⟩
    exact hn k' a (by omega) b hk
  | succ d ih =>
    intro k k0 k1 hd hn
    refine hL _ ⟨by omega, by omega⟩ ⟨fun q => absurd q (by omega), fun q => ⟨⟨by omega, by omega⟩, ?_⟩⟩
    rintro r23 _ h23
    rw [← h23] at u2
    have m1 := z_mb (a := v19) (b := v15 - k) (A := 16777216) (B := 39) (by omega) (by omega) (by omega) (by omega)
    have m2 := z_mb (a := r23) (b := k) (A := 8388608) (B := 39) (by omega) (by omega) (by omega) (by omega)
    refine ⟨⟨by omega, by omega⟩, ?_⟩
    rintro v24 h24
    intro J123 hJ
    have epl : r4 * v15 + v12 * k = r4 * (v15 - k) + r11 * k := by
      rw [h12, Int.mul_sub, Int.sub_mul]; omega
    have m3 := z_mb (a := r4) (b := v15 - k) (A := 39) (B := 39) (by omega) (by omega) (by omega) (by omega)
    have m4 := z_mb (a := r11) (b := k) (A := 39) (B := 39) (by omega) (by omega) (by omega) (by omega)
    have m5 : 0 ≤ r4 * (v15 - k) := Int.mul_nonneg (by omega) (by omega)
    have m6 : 0 ≤ r11 * k := Int.mul_nonneg (by omega) (by omega)
    suffices key : ∀ w : Int, w = (if v7 > 0 then k else -k) → J123 w r2 from ⟨fun q9 => key _ (by rw [if_neg (by omega)]), fun q9 => key _ (by rw [if_pos q9])⟩
    intro w hw
    have wb : -39 ≤ w ∧ w ≤ 39 := by rw [hw]; split <;> omega
    have next : (¬ e_at (g_th g_units) (g_at g_units) r2 r4 v7 v12 v15 v19 to k rw) → L79 (k + 1) := by
      intro hnk
      refine ih (k + 1) (by omega) (by omega) (by omega) ?_
      intro k' a b c9
      by_cases e9 : k' = k
      · rw [e9]; exact hnk
      · exact hn k' a (by omega) c9
    have eE : e_at (g_th g_units) (g_at g_units) r2 r4 v7 v12 v15 v19 to k rw = (e_no (g_th g_units) (r2 + w) ((r4 * v15 + v12 * k) / v15) rw ≠ -1 ∧ e_no (g_th g_units) (r2 + w) ((r4 * v15 + v12 * k + v15 - 1) / v15) rw ≠ -1 ∧ g_at g_units (e_no (g_th g_units) (r2 + w) ((r4 * v15 + v12 * k) / v15) rw) * (v15 - (r4 * v15 + v12 * k) % v15) + g_at g_units (e_no (g_th g_units) (r2 + w) ((r4 * v15 + v12 * k + v15 - 1) / v15) rw) * ((r4 * v15 + v12 * k) % v15) > v24) := by
      rw [h24, h23, hw]; rfl
    rw [eE] at next
    refine hJ _ _ ⟨by omega, by omega⟩ ⟨by omega, by omega⟩ ⟨⟨by omega, by omega⟩, ?_⟩
    rintro v27 h27
    rw [← h27] at next eE
    have hp0 : 0 ≤ r4 * v15 + v12 * k := by omega
    have hp1' : r4 * v15 + v12 * k ≤ 3042 := by omega
    revert next eE hp0 hp1'
    generalize r4 * v15 + v12 * k = pl
    intro eE next pl0 pl1
    have vp : 0 < v15 := by omega
    refine ⟨⟨by omega, by omega⟩, ?_⟩
    rintro v30 rfl
    have t1 : v30.tdiv v15 = v30 / v15 := Int.tdiv_eq_ediv_of_nonneg pl0
    have t2 : (v30 + v15 - 1).tdiv v15 = (v30 + v15 - 1) / v15 := Int.tdiv_eq_ediv_of_nonneg (by omega)
    have t3 : v30.tmod v15 = v30 % v15 := Int.tmod_eq_emod_of_nonneg pl0
    have d0 : 0 ≤ v30 / v15 := Int.ediv_nonneg pl0 (by omega)
    have d1 : v30 / v15 ≤ v30 := Int.ediv_le_self _ pl0
    have d2 : 0 ≤ (v30 + v15 - 1) / v15 := Int.ediv_nonneg (by omega) (by omega)
    have d3 : (v30 + v15 - 1) / v15 ≤ v30 + v15 - 1 := Int.ediv_le_self _ (by omega)
    have d4 := Int.emod_nonneg v30 (show v15 ≠ 0 by omega)
    have d5 := Int.emod_lt_of_pos v30 vp
    rw [t1, t2, t3]
    refine ⟨by omega, ⟨by omega, by omega⟩, ?_⟩
    rintro r35 _ h35
    refine ⟨⟨by omega, by omega⟩, by omega, ⟨by omega, by omega⟩, ?_⟩
    rintro r39 _ h39
    refine ⟨by omega, ⟨by omega, by omega⟩, ?_⟩
    rintro v41 h41
    rw [← h35, ← h39, ← h41] at next eE
    rw [← h41] at d4 d5
    refine ⟨fun q1 => next (fun h => h.1 q1), fun q1 => ⟨fun q2 => next (fun h => h.2.1 q2), fun q2 => ?_⟩⟩
    have u5 := g_ok_at hp5 (by rw [h35] at q1 ⊢; exact e_no_th q1 : g_th g_units r35 = true)
    have u6 := g_ok_at hp5 (by rw [h39] at q2 ⊢; exact e_no_th q2 : g_th g_units r39 = true)
    rintro r44 _ h44
    refine ⟨⟨by omega, by omega⟩, ?_⟩
    rintro r46 _ h46
    rw [← h44] at u5
    rw [← h46] at u6
    have m7 := z_mb (a := r44) (b := v15 - v41) (A := 8388608) (B := 39) (by omega) (by omega) (by omega) (by omega)
    have m8 := z_mb (a := r46) (b := v41) (A := 8388608) (B := 39) (by omega) (by omega) (by omega) (by omega)
    refine ⟨⟨by omega, by omega⟩, ?_⟩
    rintro v47 h47
    rw [← h44, ← h46, ← h47] at next eE
    refine ⟨fun q3 => next (fun h => by have := h.2.2; omega), fun q3 => Or.inl ⟨rfl, k, k0, q, ?_⟩⟩
    rw [eE]
    exact ⟨q1, q2, q3⟩
