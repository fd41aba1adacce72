/-- how many points are lower -/
def r_lo (T : Int → Bool) (U : Int → Int) (v : Int) : Nat → Nat
  | 0 => 0
  | m + 1 => r_lo T U v m + (if T m = true ∧ U m < v then 1 else 0)
theorem r_lo_le {T : Int → Bool} {U : Int → Int} {v w : Int} (h : v ≤ w) (m : Nat) : r_lo T U v m ≤ r_lo T U w m := by
  induction m with
  | zero => exact Nat.le_refl _
  | succ m ih =>
    unfold r_lo
    by_cases q : T m = true ∧ U m < v
    · rw [if_pos q, if_pos ⟨q.1, by have := q.2; omega⟩]; omega
    · rw [if_neg q]; split <;> omega
theorem r_lo_lt {T : Int → Bool} {U : Int → Int} {v w p : Int} (h : v ≤ U p) (h2 : U p < w) (hT : T p = true) (h0 : 0 ≤ p) (m : Nat) : p < m → r_lo T U v m < r_lo T U w m := by
  induction m with
  | zero => intro q; omega
  | succ m ih =>
    intro hm
    unfold r_lo
    by_cases e : p = m
    · have := r_lo_le (T := T) (U := U) (show v ≤ w by omega) m
      rw [← e, if_neg (fun q => by have := q.2; omega), if_pos ⟨hT, h2⟩]; omega
    · have := ih (by omega)
      by_cases q : T m = true ∧ U m < v
      · rw [if_pos q, if_pos ⟨q.1, by have := q.2; omega⟩]; omega
      · rw [if_neg q]; split <;> omega
theorem r_lo_m {T : Int → Bool} {U : Int → Int} {v : Int} (m : Nat) : r_lo T U v m ≤ m := by
  induction m with
  | zero => exact Nat.le_refl _
  | succ m ih => unfold r_lo; split <;> omega
theorem q_no_th {T : Int → Bool} {i j : Int} (h0 : 0 ≤ i) (h1 : i < 32) (h2 : 0 ≤ j) (h3 : j < 40) : m_no T i j ≠ -1 ↔ T (40 * i + j) = true := by
  unfold m_no
  constructor
  · intro h
    split at h
    · next q => exact q.2.2.2.2
    · exact absurd rfl h
  · intro h
    rw [if_pos ⟨h0, h1, h2, h3, h⟩]; omega
def vc_X8_basin (y_units : Nat → Int32) (y_isThere : Nat → Int32) (gi : Int) (n : Int) (Q : Int → Prop) : Prop :=
(0 ≤ gi ∧ gi < 4) ∧ (q_bd y_units) ∧ (q_th y_isThere gi n = true) ∧ (∀ (r4 : Int), z_in r4 → (r4 = m_dn (q_th y_isThere gi) (q_at y_units y_isThere gi) n) → (∀ L10 : Int → Int → Prop,
(∀ (x10_4 : Int) (x10_3 : Int), z_in x10_4 → z_in x10_3 → ((x10_4 < 0 → Q x10_3) ∧
(x10_4 ≥ 0 → (0 ≤ gi ∧ gi < 4) ∧ (q_bd y_units) ∧ (q_th y_isThere gi x10_4 = true) ∧ (∀ (r8 : Int), z_in r8 → (r8 = m_dn (q_th y_isThere gi) (q_at y_units y_isThere gi) x10_4) → L10 r8 x10_4))) → L10 x10_4 x10_3) →
L10 r4 n))
set_option maxHeartbeats 4000000 in
set_option maxRecDepth 100000 in
theorem wk_X8_basin (l : Launch) (D : va_G) (cA : Nat → ClassId) (y : Nat) (y_space : Nat) (y_offset : Nat) (y_length : Nat) (ya_units : Nat) (y_units : Nat → Int32) (ya_isThere : Nat) (y_isThere : Nat → Int32) (y_levels : Int) (y_level : Nat) (y_lines : Int) (y_lineLevel : Nat) (y_lineUnits : Nat) (y_lineFrom : Nat) (y_lineMany : Nat) (y_isClosed : Nat) (y_insides : Nat) (y_parent : Nat) (y_isHigh : Nat) (y_inBits : Nat) (y_sides : Int) (y_side : Nat) (y_sideA : Nat) (y_sideB : Nat) (y_lineSpace : Int) (y_wasThere : Nat) (y_leads : Nat) (y_isLed : Nat) (y_isOn : Nat) (y_goesTo : Nat) (y_stream : Nat) (y_filled : Nat) (y_isDone : Nat) (y_isReached : Nat) (y_newUnits : Nat) (y_isNew : Nat) (gi : Int) (n : Int) (h_y_levels : z_in y_levels) (h_y_lines : z_in y_lines) (h_y_sides : z_in y_sides) (h_y_lineSpace : z_in y_lineSpace) (h_gi : z_in gi) (h_n : z_in n) (Q : Int → Prop) (hv : vc_X8_basin y_units y_isThere gi n Q) : Met l yX8_basin wsX8_basin ({ frames := 4, cells := 0, slots := 0, locals := 101 } : Room) (va_Pc [.ref y, .int (z_i gi), .int (z_i n)] (z_B0 D cA [(y, .inr (6, [.ref y_space, .ref y_offset, .ref y_length, .ref ya_units, .ref ya_isThere, .int (z_i y_levels), .ref y_level, .int (z_i y_lines), .ref y_lineLevel, .ref y_lineUnits, .ref y_lineFrom, .ref y_lineMany, .ref y_isClosed, .ref y_insides, .ref y_parent, .ref y_isHigh, .ref y_inBits, .int (z_i y_sides), .ref y_side, .ref y_sideA, .ref y_sideB, .int (z_i y_lineSpace), .ref y_wasThere, .ref y_leads, .ref y_isLed, .ref y_isOn, .ref y_goesTo, .ref y_stream, .ref y_filled, .ref y_isDone, .ref y_isReached, .ref y_newUnits, .ref y_isNew])), (ya_units, .inl (cA 1, 5120, .inl y_units)), (ya_isThere, .inl (cA 3, 5120, .inl y_isThere))])) (va_Qi (z_ri Q) (fun _ _ => True) (fun _ => False)) 0 0 (fun _ => False) := by
  unfold vc_X8_basin at hv
  refine Met.ofW (cc := cX8_basin) (maxL := 5) (ret := (some .int)) (by decide +kernel) rfl ?_
  intro p e s m args below meth c s₁ B hml hv0
  obtain ⟨rfl, hK, hP⟩ := hv0
  have hx := B.exec
  have hb := B.bytes
  have hr := B.returns
  have hts := atoms_spec (ws := wsX8_basin) B.pre
  have hown : s.vm.findClass RX8 = some m.cls := findClass_of_methodNamed B.named
  have hlocks := B.notSynchronized
  have hS : va_S (fun _ : Nat => False) s.heap s.heap [] := va_S.rf
  have hl := lv_entry ([.ref y, .int (z_i gi), .int (z_i n)]) (n := 5) (Nat.le_of_ble_eq_true rfl)
  rw [lg_entry_eq]
  generalize (lg_sl ([.ref y, .int (z_i gi), .int (z_i n)]) ++ List.replicate (5 - (lg_sl ([.ref y, .int (z_i gi), .int (z_i n)])).length) Slot.unset).toArray = ls at hl ⊢
  have hl : lv_has ls 5 [(0, .ref y), (1, .int (z_i gi)), (2, .int (z_i n))] := hl
  refine lv_iload_n hx hb dX8_basin_0 rfl (lv_at hl 2 rfl) ?_
  refine lv_istore_n (lv' := [(3, .int (z_i n)), (0, .ref y), (1, .int (z_i gi)), (2, .int (z_i n))]) hx hb dX8_basin_1 rfl hl (by decide) rfl (fun ls hl => ?_)
  refine lv_aload_n hx hb dX8_basin_2 rfl (lv_at hl 1 rfl) ?_
  refine lv_iload_n hx hb dX8_basin_3 rfl (lv_at hl 2 rfl) ?_
  refine lv_iload_n hx hb dX8_basin_4 rfl (lv_at hl 0 rfl) ?_
  obtain ⟨hp1, hv⟩ := hv
  obtain ⟨hp2, hv⟩ := hv
  obtain ⟨hp3, hv⟩ := hv
  refine va_calli (va_runV (As := [.int (z_i gi), .int (z_i n)]) (rest := []) ⟨hx, hb, hml, hown, hts⟩ (mt_X8_flow l D cA y y_space y_offset y_length ya_units y_units ya_isThere y_isThere y_levels y_level y_lines y_lineLevel y_lineUnits y_lineFrom y_lineMany y_isClosed y_insides y_parent y_isHigh y_inBits y_sides y_side y_sideA y_sideB y_lineSpace y_wasThere y_leads y_isLed y_isOn y_goesTo y_stream y_filled y_isDone y_isReached y_newUnits y_isNew gi n h_y_levels h_y_lines h_y_sides h_y_lineSpace h_gi h_n hp1 hp2 hp3) (cwV 2 hts gX8_basin_X8_flow rfl rfl rfl (by decide +kernel) ⟨Nat.le_of_ble_eq_true rfl, Nat.le_of_ble_eq_true rfl⟩) ⟨z_bl0, va_recv hK hP (ci := 6) (q0 := 0) rfl rfl, fun U hU hW => ⟨rfl, z_b0 hK hP hU hW⟩⟩ rfl rfl hl.1 rfl (lv_room (Nat.le_of_ble_eq_true rfl)) dX8_basin_5 ⟨Nat.zero_le _, Nat.zero_le _⟩) hS (fun q _ h => h.elim) (fun q h => h.elim) (fun r0 u t H locs ht hvm hw hB hz1 hk1 hS => ?_)
  obtain ⟨r4, rfl, h_r4, hw⟩ := hw
  have hP := z_P_all hP hk1
  have hv := hv r4 h_r4 hw
  refine lv_istore (lv' := [(4, .int (z_i r4)), (3, .int (z_i n)), (0, .ref y), (1, .int (z_i gi)), (2, .int (z_i n))]) hx hb dX8_basin_8 hl (by decide) rfl (fun ls hl => ?_)
  refine hv (fun (x10_4 : Int) (x10_3 : Int) => ∀ (H : Heap) (locs : List Loc) (ls : Array Slot), va_P D vwCl [(y, .inr (6, [.ref y_space, .ref y_offset, .ref y_length, .ref ya_units, .ref ya_isThere, .int (z_i y_levels), .ref y_level, .int (z_i y_lines), .ref y_lineLevel, .ref y_lineUnits, .ref y_lineFrom, .ref y_lineMany, .ref y_isClosed, .ref y_insides, .ref y_parent, .ref y_isHigh, .ref y_inBits, .int (z_i y_sides), .ref y_side, .ref y_sideA, .ref y_sideB, .int (z_i y_lineSpace), .ref y_wasThere, .ref y_leads, .ref y_isLed, .ref y_isOn, .ref y_goesTo, .ref y_stream, .ref y_filled, .ref y_isDone, .ref y_isReached, .ref y_newUnits, .ref y_isNew])), (ya_units, .inl (cA 1, 5120, .inl y_units)), (ya_isThere, .inl (cA 3, 5120, .inl y_isThere))] H → va_S (fun _ : Nat => False) s.heap H locs → lv_has ls 5 [(4, .int (z_i x10_4)), (3, .int (z_i x10_3)), (0, .ref y), (1, .int (z_i gi))] → W p l e _ s m _ below meth c H locs 0 0 _ (F0 m 10 ls [])) ?_ _ _ ls hP hS (lv_sub hl [0, 1, 2, 3] rfl)
  intro x10_4 x10_3 h_x10_4 h_x10_3 hv H locs ls hP hS hl
  refine lv_iload hx hb dX8_basin_10 (lv_at hl 0 rfl) ?_
  refine lx_if_lt (tgt := 29) hx hb dX8_basin_12 (by decide) h_x10_4 (fun hc => ?_) (fun hc => ?_)
  · have hv := hv.1 hc
    refine lv_iload_n hx hb dX8_basin_29 rfl (lv_at hl 1 rfl) ?_
    exact W.iret (v := z_i x10_3) hx hb hr (fun t ht hW => ⟨⟨z_i x10_3, (), rfl, ⟨x10_3, rfl, h_x10_3, hv⟩, trivial⟩, hS.F ht⟩) hS.2.2 dX8_basin_30
  · have hv := hv.2 hc
    refine lv_iload hx hb dX8_basin_15 (lv_at hl 0 rfl) ?_
    refine lv_istore_n (lv' := [(3, .int (z_i x10_4)), (4, .int (z_i x10_4)), (0, .ref y), (1, .int (z_i gi))]) hx hb dX8_basin_17 rfl hl (by decide) rfl (fun ls hl => ?_)
    refine lv_aload_n hx hb dX8_basin_18 rfl (lv_at hl 2 rfl) ?_
    refine lv_iload_n hx hb dX8_basin_19 rfl (lv_at hl 3 rfl) ?_
    refine lv_iload_n hx hb dX8_basin_20 rfl (lv_at hl 0 rfl) ?_
    obtain ⟨hp5, hv⟩ := hv
    obtain ⟨hp6, hv⟩ := hv
    obtain ⟨hp7, hv⟩ := hv
    refine va_calli (va_runV (As := [.int (z_i gi), .int (z_i x10_4)]) (rest := []) ⟨hx, hb, hml, hown, hts⟩ (mt_X8_flow l D cA y y_space y_offset y_length ya_units y_units ya_isThere y_isThere y_levels y_level y_lines y_lineLevel y_lineUnits y_lineFrom y_lineMany y_isClosed y_insides y_parent y_isHigh y_inBits y_sides y_side y_sideA y_sideB y_lineSpace y_wasThere y_leads y_isLed y_isOn y_goesTo y_stream y_filled y_isDone y_isReached y_newUnits y_isNew gi x10_4 h_y_levels h_y_lines h_y_sides h_y_lineSpace h_gi h_x10_4 hp5 hp6 hp7) (cwV 2 hts gX8_basin_X8_flow rfl rfl rfl (by decide +kernel) ⟨Nat.le_of_ble_eq_true rfl, Nat.le_of_ble_eq_true rfl⟩) ⟨z_bl0, va_recv hK hP (ci := 6) (q0 := 0) rfl rfl, fun U hU hW => ⟨rfl, z_b0 hK hP hU hW⟩⟩ rfl rfl hl.1 rfl (lv_room (Nat.le_of_ble_eq_true rfl)) dX8_basin_21 ⟨Nat.zero_le _, Nat.zero_le _⟩) hS (fun q _ h => h.elim) (fun q h => h.elim) (fun r0 u t H locs ht hvm hw hB hz1 hk1 hS => ?_)
    obtain ⟨r8, rfl, h_r8, hw⟩ := hw
    have hP := z_P_all hP hk1
    have hv := hv r8 h_r8 hw
    refine lv_istore (lv' := [(4, .int (z_i r8)), (3, .int (z_i x10_4)), (0, .ref y), (1, .int (z_i gi))]) hx hb dX8_basin_24 hl (by decide) rfl (fun ls hl => ?_)
    refine lv_goto (tgt := 10) hx hb dX8_basin_26 (by decide) ?_
    exact hv _ _ ls hP hS (lv_sub hl [0, 1, 2, 3] rfl)
set_option maxHeartbeats 4000000 in
set_option maxRecDepth 100000 in
theorem mt_X8_basin (l : Launch) (D : va_G) (cA : Nat → ClassId) (y : Nat) (y_space : Nat) (y_offset : Nat) (y_length : Nat) (ya_units : Nat) (y_units : Nat → Int32) (ya_isThere : Nat) (y_isThere : Nat → Int32) (y_levels : Int) (y_level : Nat) (y_lines : Int) (y_lineLevel : Nat) (y_lineUnits : Nat) (y_lineFrom : Nat) (y_lineMany : Nat) (y_isClosed : Nat) (y_insides : Nat) (y_parent : Nat) (y_isHigh : Nat) (y_inBits : Nat) (y_sides : Int) (y_side : Nat) (y_sideA : Nat) (y_sideB : Nat) (y_lineSpace : Int) (y_wasThere : Nat) (y_leads : Nat) (y_isLed : Nat) (y_isOn : Nat) (y_goesTo : Nat) (y_stream : Nat) (y_filled : Nat) (y_isDone : Nat) (y_isReached : Nat) (y_newUnits : Nat) (y_isNew : Nat) (gi : Int) (n : Int) (h_y_levels : z_in y_levels) (h_y_lines : z_in y_lines) (h_y_sides : z_in y_sides) (h_y_lineSpace : z_in y_lineSpace) (h_gi : z_in gi) (h_n : z_in n) (hp1 : 0 ≤ gi ∧ gi < 4) (hp2 : q_bd y_units) (hp3 : q_th y_isThere gi n = true) : Met l yX8_basin wsX8_basin ({ frames := 4, cells := 0, slots := 0, locals := 101 } : Room) (va_Pc [.ref y, .int (z_i gi), .int (z_i n)] (z_B0 D cA [(y, .inr (6, [.ref y_space, .ref y_offset, .ref y_length, .ref ya_units, .ref ya_isThere, .int (z_i y_levels), .ref y_level, .int (z_i y_lines), .ref y_lineLevel, .ref y_lineUnits, .ref y_lineFrom, .ref y_lineMany, .ref y_isClosed, .ref y_insides, .ref y_parent, .ref y_isHigh, .ref y_inBits, .int (z_i y_sides), .ref y_side, .ref y_sideA, .ref y_sideB, .int (z_i y_lineSpace), .ref y_wasThere, .ref y_leads, .ref y_isLed, .ref y_isOn, .ref y_goesTo, .ref y_stream, .ref y_filled, .ref y_isDone, .ref y_isReached, .ref y_newUnits, .ref y_isNew])), (ya_units, .inl (cA 1, 5120, .inl y_units)), (ya_isThere, .inl (cA 3, 5120, .inl y_isThere))])) (va_Qi (z_ri (fun (r : Int) => r = m_bs (q_th y_isThere gi) (q_at y_units y_isThere gi) n)) (fun _ _ => True) (fun _ => False)) 0 0 (fun _ => False) := by
  refine wk_X8_basin l D cA y y_space y_offset y_length ya_units y_units ya_isThere y_isThere y_levels y_level y_lines y_lineLevel y_lineUnits y_lineFrom y_lineMany y_isClosed y_insides y_parent y_isHigh y_inBits y_sides y_side y_sideA y_sideB y_lineSpace y_wasThere y_leads y_isLed y_isOn y_goesTo y_stream y_filled y_isDone y_isReached y_newUnits y_isNew gi n h_y_levels h_y_lines h_y_sides h_y_lineSpace h_gi h_n (fun (r : Int) => r = m_bs (q_th y_isThere gi) (q_at y_units y_isThere gi) n) ?_
  unfold vc_X8_basin
  have hU : ∀ p, (q_th y_isThere gi) p = true → -8388608 ≤ (q_at y_units y_isThere gi) p ∧ (q_at y_units y_isThere gi) p ≤ 8388608 := fun p hp => q_bd_at hp2 hp1.1 hp1.2 hp
  refine ⟨hp1, hp2, hp3, ?_⟩
  intro r4 z4 h4
  intro L hL
  suffices H : ∀ (d : Nat) (a : Int), (q_th y_isThere gi) a = true → r_lo (q_th y_isThere gi) (q_at y_units y_isThere gi) ((q_at y_units y_isThere gi) a) 1280 ≤ d → m_bsK (q_th y_isThere gi) (q_at y_units y_isThere gi) d a = m_bs (q_th y_isThere gi) (q_at y_units y_isThere gi) n → z_in (m_dn (q_th y_isThere gi) (q_at y_units y_isThere gi) a) → L (m_dn (q_th y_isThere gi) (q_at y_units y_isThere gi) a) a from by
    rw [h4]; exact H 1280 n hp3 (r_lo_m 1280) rfl (by rw [← h4]; exact z4)
  have lo : ∀ a : Int, (q_th y_isThere gi) a = true → m_dn (q_th y_isThere gi) (q_at y_units y_isThere gi) a ≠ -1 → 0 ≤ m_dn (q_th y_isThere gi) (q_at y_units y_isThere gi) a ∧ r_lo (q_th y_isThere gi) (q_at y_units y_isThere gi) ((q_at y_units y_isThere gi) (m_dn (q_th y_isThere gi) (q_at y_units y_isThere gi) a)) 1280 < r_lo (q_th y_isThere gi) (q_at y_units y_isThere gi) ((q_at y_units y_isThere gi) a) 1280 := fun a ha h => by
    have hd := m_dn_th hU ha h
    have hi := q_th_in hd.1
    exact ⟨hi.1, r_lo_lt (Int.le_refl _) hd.2 hd.1 hi.1 1280 (by omega)⟩
  have neg : ∀ a : Int, (q_th y_isThere gi) a = true → m_dn (q_th y_isThere gi) (q_at y_units y_isThere gi) a < 0 → m_dn (q_th y_isThere gi) (q_at y_units y_isThere gi) a = -1 := fun a ha h => Decidable.byContradiction fun q => by have := (lo a ha q).1; omega
  intro d
  induction d with
  | zero =>
    intro a ha hr he zd
    have hi := q_th_in ha
    have hd : m_dn (q_th y_isThere gi) (q_at y_units y_isThere gi) a = -1 := Decidable.byContradiction fun q => by have := (lo a ha q).2; omega
    refine hL _ _ zd ⟨by omega, by omega⟩ ⟨fun _ => he, fun h => absurd h (by omega)⟩
  | succ d ih =>
    intro a ha hr he zd
    have hi := q_th_in ha
    unfold m_bsK at he
    refine hL _ _ zd ⟨by omega, by omega⟩ ⟨fun q => ?_, fun q => ?_⟩
    · rw [if_pos (neg a ha q)] at he; exact he
    · have q9 : m_dn (q_th y_isThere gi) (q_at y_units y_isThere gi) a ≠ -1 := by omega
      rw [if_neg q9] at he
      have ht := (m_dn_th hU ha q9).1
      refine ⟨hp1, hp2, ht, ?_⟩
      rintro r8 z8 rfl
      exact ih _ ht (by have := (lo a ha q9).2; omega) he z8
def vc_X8_counts (y_units : Nat → Int32) (y_isThere : Nat → Int32) (gi : Int) (i : Int) (j : Int) (what : Int) (Q : Int → Prop) : Prop :=
z_in ((40 * i) + j) ∧ (∀ v1 : Int, v1 = (40 * i) + j → ((what = 0 → Q 1) ∧
(what = 1 → (0 ≤ gi ∧ gi < 4) ∧ (0 ≤ i ∧ i < 32) ∧ (0 ≤ j ∧ j < 40) ∧ (∀ (r7 : Int), z_in r7 → (r7 = z_b (m_wh (q_th y_isThere gi) (40 * i + j))) → (r7 = 0 ∨ r7 = 1) ∧ Q r7)) ∧
(what = 2 → (0 ≤ gi ∧ gi < 4) ∧ (q_bd y_units) ∧ (q_th y_isThere gi v1 = true) ∧ (∀ (r12 : Int), z_in r12 → (r12 = m_dn (q_th y_isThere gi) (q_at y_units y_isThere gi) v1) → ((r12 ≥ 0 → Q 0) ∧
(r12 < 0 → Q 1)))) ∧
(what = 3 → (0 ≤ gi ∧ gi < 4) ∧ (q_bd y_units) ∧ (q_th y_isThere gi v1 = true) ∧ (∀ (r16 : Int), z_in r16 → (r16 = m_kd (q_th y_isThere gi) (q_at y_units y_isThere gi) v1) → ((r16 ≠ 1 → Q 0) ∧
(r16 = 1 → Q 1)))) ∧
(what = 4 → (0 ≤ gi ∧ gi < 4) ∧ (q_bd y_units) ∧ (q_th y_isThere gi v1 = true) ∧ (∀ (r20 : Int), z_in r20 → (r20 = m_kd (q_th y_isThere gi) (q_at y_units y_isThere gi) v1) → ((r20 ≠ 3 → Q 0) ∧
(r20 = 3 → Q 1)))) ∧
((what < 0 ∨ 4 < what) → (0 ≤ gi ∧ gi < 4) ∧ (0 ≤ v1 ∧ v1 < 1280) ∧ (∀ (r23 : Int), z_in r23 → (r23 = m_nc (q_th y_isThere gi) v1) → ((r23 ≥ 8 → Q 0) ∧
(r23 < 8 → Q 1))))))
set_option maxHeartbeats 4000000 in
set_option maxRecDepth 100000 in
theorem wk_X8_counts (l : Launch) (D : va_G) (cA : Nat → ClassId) (y : Nat) (y_space : Nat) (y_offset : Nat) (y_length : Nat) (ya_units : Nat) (y_units : Nat → Int32) (ya_isThere : Nat) (y_isThere : Nat → Int32) (y_levels : Int) (y_level : Nat) (y_lines : Int) (y_lineLevel : Nat) (y_lineUnits : Nat) (y_lineFrom : Nat) (y_lineMany : Nat) (y_isClosed : Nat) (y_insides : Nat) (y_parent : Nat) (y_isHigh : Nat) (y_inBits : Nat) (y_sides : Int) (y_side : Nat) (y_sideA : Nat) (y_sideB : Nat) (y_lineSpace : Int) (y_wasThere : Nat) (y_leads : Nat) (y_isLed : Nat) (y_isOn : Nat) (y_goesTo : Nat) (y_stream : Nat) (y_filled : Nat) (y_isDone : Nat) (y_isReached : Nat) (y_newUnits : Nat) (y_isNew : Nat) (gi : Int) (i : Int) (j : Int) (what : Int) (h_y_levels : z_in y_levels) (h_y_lines : z_in y_lines) (h_y_sides : z_in y_sides) (h_y_lineSpace : z_in y_lineSpace) (h_gi : z_in gi) (h_i : z_in i) (h_j : z_in j) (h_what : z_in what) (Q : Int → Prop) (hv : vc_X8_counts y_units y_isThere gi i j what Q) : Met l yX8_counts wsX8_counts ({ frames := 5, cells := 0, slots := 0, locals := 120 } : Room) (va_Pc [.ref y, .int (z_i gi), .int (z_i i), .int (z_i j), .int (z_i what)] (z_B0 D cA [(y, .inr (6, [.ref y_space, .ref y_offset, .ref y_length, .ref ya_units, .ref ya_isThere, .int (z_i y_levels), .ref y_level, .int (z_i y_lines), .ref y_lineLevel, .ref y_lineUnits, .ref y_lineFrom, .ref y_lineMany, .ref y_isClosed, .ref y_insides, .ref y_parent, .ref y_isHigh, .ref y_inBits, .int (z_i y_sides), .ref y_side, .ref y_sideA, .ref y_sideB, .int (z_i y_lineSpace), .ref y_wasThere, .ref y_leads, .ref y_isLed, .ref y_isOn, .ref y_goesTo, .ref y_stream, .ref y_filled, .ref y_isDone, .ref y_isReached, .ref y_newUnits, .ref y_isNew])), (ya_units, .inl (cA 1, 5120, .inl y_units)), (ya_isThere, .inl (cA 3, 5120, .inl y_isThere))])) (va_Qi (z_ri Q) (fun _ _ => True) (fun _ => False)) 0 0 (fun _ => False) := by
  unfold vc_X8_counts at hv
  refine Met.ofW (cc := cX8_counts) (maxL := 6) (ret := (some .boolean)) (by decide +kernel) rfl ?_
  intro p e s m args below meth c s₁ B hml hv0
  obtain ⟨rfl, hK, hP⟩ := hv0
  have hx := B.exec
  have hb := B.bytes
  have hr := B.returns
  have hts := atoms_spec (ws := wsX8_counts) B.pre
  have hown : s.vm.findClass RX8 = some m.cls := findClass_of_methodNamed B.named
  have hlocks := B.notSynchronized
  have hS : va_S (fun _ : Nat => False) s.heap s.heap [] := va_S.rf
  have hl := lv_entry ([.ref y, .int (z_i gi), .int (z_i i), .int (z_i j), .int (z_i what)]) (n := 6) (Nat.le_of_ble_eq_true rfl)
  rw [lg_entry_eq]
  generalize (lg_sl ([.ref y, .int (z_i gi), .int (z_i i), .int (z_i j), .int (z_i what)]) ++ List.replicate (6 - (lg_sl ([.ref y, .int (z_i gi), .int (z_i i), .int (z_i j), .int (z_i what)])).length) Slot.unset).toArray = ls at hl ⊢
  have hl : lv_has ls 6 [(0, .ref y), (1, .int (z_i gi)), (2, .int (z_i i)), (3, .int (z_i j)), (4, .int (z_i what))] := hl
  refine lv_bipush (v := z_i 40) hx hb dX8_counts_0 (by decide) ?_
  refine lv_iload_n hx hb dX8_counts_2 rfl (lv_at hl 2 rfl) ?_
  refine lx_imul hx hb dX8_counts_3 ?_
  refine lv_iload_n hx hb dX8_counts_4 rfl (lv_at hl 3 rfl) ?_
  refine lx_iadd hx hb dX8_counts_5 ?_
  obtain ⟨hr2, hv⟩ := hv
  refine lx_topi (fun v1 hy3 => ?_)
  have hv := hv v1 hy3
  have h_v1 : z_in v1 := by rw [hy3]; exact hr2
  refine lv_istore (lv' := [(5, .int (z_i v1)), (0, .ref y), (1, .int (z_i gi)), (2, .int (z_i i)), (3, .int (z_i j)), (4, .int (z_i what))]) hx hb dX8_counts_6 hl (by decide) rfl (fun ls hl => ?_)
  refine lv_iload hx hb dX8_counts_8 (lv_at hl 5 rfl) ?_
  have hto := z_i_to h_what
  rcases (show what = 0 ∨ what = 1 ∨ what = 2 ∨ what = 3 ∨ what = 4 ∨ (what < 0 ∨ 4 < what) by omega) with hc | hc | hc | hc | hc | hc
  · have hv := hv.1 hc
    refine lv_tableIn (off := 34) (tgt := 44) hx hb dX8_counts_10 (by rw [hto, hc]; decide) (by rw [hto, hc]; decide) (by rw [hto, hc]; decide) (by decide) ?_
    refine lv_iconst (v := z_i 1) hx hb dX8_counts_44 rfl ?_
    exact W.zret (v := z_i 1) hx hb hr (by decide) (fun t ht hW => ⟨⟨z_i 1, (), rfl, ⟨1, rfl, (show z_in 1 from ⟨by decide, by decide⟩), hv⟩, trivial⟩, hS.F ht⟩) hS.2.2 dX8_counts_45
  · have hv := hv.2.1 hc
    refine lv_tableIn (off := 36) (tgt := 46) hx hb dX8_counts_10 (by rw [hto, hc]; decide) (by rw [hto, hc]; decide) (by rw [hto, hc]; decide) (by decide) ?_
    refine lv_aload_n hx hb dX8_counts_46 rfl (lv_at hl 1 rfl) ?_
    refine lv_iload_n hx hb dX8_counts_47 rfl (lv_at hl 2 rfl) ?_
    refine lv_iload_n hx hb dX8_counts_48 rfl (lv_at hl 3 rfl) ?_
    refine lv_iload_n hx hb dX8_counts_49 rfl (lv_at hl 4 rfl) ?_
    obtain ⟨hp4, hv⟩ := hv
    obtain ⟨hp5, hv⟩ := hv
    obtain ⟨hp6, hv⟩ := hv
    refine va_calli (va_runV (As := [.int (z_i gi), .int (z_i i), .int (z_i j)]) (rest := []) ⟨hx, hb, hml, hown, hts⟩ (mt_X8_isWhole l D cA y y_space y_offset y_length ya_units ya_isThere y_isThere y_levels y_level y_lines y_lineLevel y_lineUnits y_lineFrom y_lineMany y_isClosed y_insides y_parent y_isHigh y_inBits y_sides y_side y_sideA y_sideB y_lineSpace y_wasThere y_leads y_isLed y_isOn y_goesTo y_stream y_filled y_isDone y_isReached y_newUnits y_isNew gi i j h_y_levels h_y_lines h_y_sides h_y_lineSpace h_gi h_i h_j hp4 hp5 hp6) (cwV 3 hts gX8_counts_X8_isWhole rfl rfl rfl (by decide +kernel) ⟨Nat.le_of_ble_eq_true rfl, Nat.le_of_ble_eq_true rfl⟩) ⟨z_bl0, va_recv hK hP (ci := 6) (q0 := 0) rfl rfl, fun U hU hW => ⟨rfl, z_b0 hK (hP.sub (ws' := [(y, .inr (6, [.ref y_space, .ref y_offset, .ref y_length, .ref ya_units, .ref ya_isThere, .int (z_i y_levels), .ref y_level, .int (z_i y_lines), .ref y_lineLevel, .ref y_lineUnits, .ref y_lineFrom, .ref y_lineMany, .ref y_isClosed, .ref y_insides, .ref y_parent, .ref y_isHigh, .ref y_inBits, .int (z_i y_sides), .ref y_side, .ref y_sideA, .ref y_sideB, .int (z_i y_lineSpace), .ref y_wasThere, .ref y_leads, .ref y_isLed, .ref y_isOn, .ref y_goesTo, .ref y_stream, .ref y_filled, .ref y_isDone, .ref y_isReached, .ref y_newUnits, .ref y_isNew])), (ya_isThere, .inl (cA 3, 5120, .inl y_isThere))]) [0, 2] rfl) hU hW⟩⟩ rfl rfl hl.1 rfl (lv_room (Nat.le_of_ble_eq_true rfl)) dX8_counts_50 ⟨Nat.zero_le _, Nat.zero_le _⟩) hS (fun q _ h => h.elim) (fun q h => h.elim) (fun r0 u t H locs ht hvm hw hB hz1 hk1 hS => ?_)
    obtain ⟨r7, rfl, h_r7, hw⟩ := hw
    have hP := z_P_all hP hk1
    have hv := hv r7 h_r7 hw
    obtain ⟨hb8, hv⟩ := hv
    exact W.zret (v := z_i r7) hx hb hr (z_narZ hb8) (fun t ht hW => ⟨⟨z_i r7, (), rfl, ⟨r7, rfl, h_r7, hv⟩, trivial⟩, hS.F ht⟩) hS.2.2 dX8_counts_53
  · have hv := hv.2.2.1 hc
    refine lv_tableIn (off := 44) (tgt := 54) hx hb dX8_counts_10 (by rw [hto, hc]; decide) (by rw [hto, hc]; decide) (by rw [hto, hc]; decide) (by decide) ?_
    refine lv_aload_n hx hb dX8_counts_54 rfl (lv_at hl 1 rfl) ?_
    refine lv_iload_n hx hb dX8_counts_55 rfl (lv_at hl 2 rfl) ?_
    refine lv_iload hx hb dX8_counts_56 (lv_at hl 0 rfl) ?_
    obtain ⟨hp9, hv⟩ := hv
    obtain ⟨hp10, hv⟩ := hv
    obtain ⟨hp11, hv⟩ := hv
    refine va_calli (va_runV (As := [.int (z_i gi), .int (z_i v1)]) (rest := []) ⟨hx, hb, hml, hown, hts⟩ (mt_X8_flow l D cA y y_space y_offset y_length ya_units y_units ya_isThere y_isThere y_levels y_level y_lines y_lineLevel y_lineUnits y_lineFrom y_lineMany y_isClosed y_insides y_parent y_isHigh y_inBits y_sides y_side y_sideA y_sideB y_lineSpace y_wasThere y_leads y_isLed y_isOn y_goesTo y_stream y_filled y_isDone y_isReached y_newUnits y_isNew gi v1 h_y_levels h_y_lines h_y_sides h_y_lineSpace h_gi h_v1 hp9 hp10 hp11) (cwV 2 hts gX8_counts_X8_flow rfl rfl rfl (by decide +kernel) ⟨Nat.le_of_ble_eq_true rfl, Nat.le_of_ble_eq_true rfl⟩) ⟨z_bl0, va_recv hK hP (ci := 6) (q0 := 0) rfl rfl, fun U hU hW => ⟨rfl, z_b0 hK hP hU hW⟩⟩ rfl rfl hl.1 rfl (lv_room (Nat.le_of_ble_eq_true rfl)) dX8_counts_58 ⟨Nat.zero_le _, Nat.zero_le _⟩) hS (fun q _ h => h.elim) (fun q h => h.elim) (fun r0 u t H locs ht hvm hw hB hz1 hk1 hS => ?_)
    obtain ⟨r12, rfl, h_r12, hw⟩ := hw
    have hP := z_P_all hP hk1
    have hv := hv r12 h_r12 hw
    refine lx_if_ge (tgt := 68) hx hb dX8_counts_61 (by decide) h_r12 (fun hc => ?_) (fun hc => ?_)
    · have hv := hv.1 hc
      refine lv_iconst (v := z_i 0) hx hb dX8_counts_68 rfl ?_
      exact W.zret (v := z_i 0) hx hb hr (by decide) (fun t ht hW => ⟨⟨z_i 0, (), rfl, ⟨0, rfl, (show z_in 0 from ⟨by decide, by decide⟩), hv⟩, trivial⟩, hS.F ht⟩) hS.2.2 dX8_counts_69
    · have hv := hv.2 hc
      refine lv_iconst (v := z_i 1) hx hb dX8_counts_64 rfl ?_
      refine lv_goto (tgt := 69) hx hb dX8_counts_65 (by decide) ?_
      exact W.zret (v := z_i 1) hx hb hr (by decide) (fun t ht hW => ⟨⟨z_i 1, (), rfl, ⟨1, rfl, (show z_in 1 from ⟨by decide, by decide⟩), hv⟩, trivial⟩, hS.F ht⟩) hS.2.2 dX8_counts_69
  · have hv := hv.2.2.2.1 hc
    refine lv_tableIn (off := 60) (tgt := 70) hx hb dX8_counts_10 (by rw [hto, hc]; decide) (by rw [hto, hc]; decide) (by rw [hto, hc]; decide) (by decide) ?_
    refine lv_aload_n hx hb dX8_counts_70 rfl (lv_at hl 1 rfl) ?_
    refine lv_iload_n hx hb dX8_counts_71 rfl (lv_at hl 2 rfl) ?_
    refine lv_iload hx hb dX8_counts_72 (lv_at hl 0 rfl) ?_
    obtain ⟨hp13, hv⟩ := hv
    obtain ⟨hp14, hv⟩ := hv
    obtain ⟨hp15, hv⟩ := hv
    refine va_calli (va_runV (As := [.int (z_i gi), .int (z_i v1)]) (rest := []) ⟨hx, hb, hml, hown, hts⟩ (mt_X8_kindOf l D cA y y_space y_offset y_length ya_units y_units ya_isThere y_isThere y_levels y_level y_lines y_lineLevel y_lineUnits y_lineFrom y_lineMany y_isClosed y_insides y_parent y_isHigh y_inBits y_sides y_side y_sideA y_sideB y_lineSpace y_wasThere y_leads y_isLed y_isOn y_goesTo y_stream y_filled y_isDone y_isReached y_newUnits y_isNew gi v1 h_y_levels h_y_lines h_y_sides h_y_lineSpace h_gi h_v1 hp13 hp14 hp15) (cwV 2 hts gX8_counts_X8_kindOf rfl rfl rfl (by decide +kernel) ⟨Nat.le_of_ble_eq_true rfl, Nat.le_of_ble_eq_true rfl⟩) ⟨z_bl0, va_recv hK hP (ci := 6) (q0 := 0) rfl rfl, fun U hU hW => ⟨rfl, z_b0 hK hP hU hW⟩⟩ rfl rfl hl.1 rfl (lv_room (Nat.le_of_ble_eq_true rfl)) dX8_counts_74 ⟨Nat.zero_le _, Nat.zero_le _⟩) hS (fun q _ h => h.elim) (fun q h => h.elim) (fun r0 u t H locs ht hvm hw hB hz1 hk1 hS => ?_)
    obtain ⟨r16, rfl, h_r16, hw⟩ := hw
    have hP := z_P_all hP hk1
    have hv := hv r16 h_r16 hw
    refine lv_iconst (v := z_i 1) hx hb dX8_counts_77 rfl ?_
    refine lx_icmp_ne (tgt := 85) hx hb dX8_counts_78 (by decide) h_r16 (show z_in 1 from ⟨by decide, by decide⟩) (fun hc => ?_) (fun hc => ?_)
    · have hv := hv.1 hc
      refine lv_iconst (v := z_i 0) hx hb dX8_counts_85 rfl ?_
      exact W.zret (v := z_i 0) hx hb hr (by decide) (fun t ht hW => ⟨⟨z_i 0, (), rfl, ⟨0, rfl, (show z_in 0 from ⟨by decide, by decide⟩), hv⟩, trivial⟩, hS.F ht⟩) hS.2.2 dX8_counts_86
    · have hv := hv.2 hc
      refine lv_iconst (v := z_i 1) hx hb dX8_counts_81 rfl ?_
      refine lv_goto (tgt := 86) hx hb dX8_counts_82 (by decide) ?_
      exact W.zret (v := z_i 1) hx hb hr (by decide) (fun t ht hW => ⟨⟨z_i 1, (), rfl, ⟨1, rfl, (show z_in 1 from ⟨by decide, by decide⟩), hv⟩, trivial⟩, hS.F ht⟩) hS.2.2 dX8_counts_86
  · have hv := hv.2.2.2.2.1 hc
    refine lv_tableIn (off := 77) (tgt := 87) hx hb dX8_counts_10 (by rw [hto, hc]; decide) (by rw [hto, hc]; decide) (by rw [hto, hc]; decide) (by decide) ?_
    refine lv_aload_n hx hb dX8_counts_87 rfl (lv_at hl 1 rfl) ?_
    refine lv_iload_n hx hb dX8_counts_88 rfl (lv_at hl 2 rfl) ?_
    refine lv_iload hx hb dX8_counts_89 (lv_at hl 0 rfl) ?_
    obtain ⟨hp17, hv⟩ := hv
    obtain ⟨hp18, hv⟩ := hv
    obtain ⟨hp19, hv⟩ := hv
    refine va_calli (va_runV (As := [.int (z_i gi), .int (z_i v1)]) (rest := []) ⟨hx, hb, hml, hown, hts⟩ (mt_X8_kindOf l D cA y y_space y_offset y_length ya_units y_units ya_isThere y_isThere y_levels y_level y_lines y_lineLevel y_lineUnits y_lineFrom y_lineMany y_isClosed y_insides y_parent y_isHigh y_inBits y_sides y_side y_sideA y_sideB y_lineSpace y_wasThere y_leads y_isLed y_isOn y_goesTo y_stream y_filled y_isDone y_isReached y_newUnits y_isNew gi v1 h_y_levels h_y_lines h_y_sides h_y_lineSpace h_gi h_v1 hp17 hp18 hp19) (cwV 2 hts gX8_counts_X8_kindOf rfl rfl rfl (by decide +kernel) ⟨Nat.le_of_ble_eq_true rfl, Nat.le_of_ble_eq_true rfl⟩) ⟨z_bl0, va_recv hK hP (ci := 6) (q0 := 0) rfl rfl, fun U hU hW => ⟨rfl, z_b0 hK hP hU hW⟩⟩ rfl rfl hl.1 rfl (lv_room (Nat.le_of_ble_eq_true rfl)) dX8_counts_91 ⟨Nat.zero_le _, Nat.zero_le _⟩) hS (fun q _ h => h.elim) (fun q h => h.elim) (fun r0 u t H locs ht hvm hw hB hz1 hk1 hS => ?_)
    obtain ⟨r20, rfl, h_r20, hw⟩ := hw
    have hP := z_P_all hP hk1
    have hv := hv r20 h_r20 hw
    refine lv_iconst (v := z_i 3) hx hb dX8_counts_94 rfl ?_
    refine lx_icmp_ne (tgt := 102) hx hb dX8_counts_95 (by decide) h_r20 (show z_in 3 from ⟨by decide, by decide⟩) (fun hc => ?_) (fun hc => ?_)
    · have hv := hv.1 hc
      refine lv_iconst (v := z_i 0) hx hb dX8_counts_102 rfl ?_
      exact W.zret (v := z_i 0) hx hb hr (by decide) (fun t ht hW => ⟨⟨z_i 0, (), rfl, ⟨0, rfl, (show z_in 0 from ⟨by decide, by decide⟩), hv⟩, trivial⟩, hS.F ht⟩) hS.2.2 dX8_counts_103
    · have hv := hv.2 hc
      refine lv_iconst (v := z_i 1) hx hb dX8_counts_98 rfl ?_
      refine lv_goto (tgt := 103) hx hb dX8_counts_99 (by decide) ?_
      exact W.zret (v := z_i 1) hx hb hr (by decide) (fun t ht hW => ⟨⟨z_i 1, (), rfl, ⟨1, rfl, (show z_in 1 from ⟨by decide, by decide⟩), hv⟩, trivial⟩, hS.F ht⟩) hS.2.2 dX8_counts_103
  · have hv := hv.2.2.2.2.2 hc
    refine lv_tableOut (tgt := 104) hx hb dX8_counts_10 (by rw [hto]; exact hc) (by decide) ?_
    refine lv_aload_n hx hb dX8_counts_104 rfl (lv_at hl 1 rfl) ?_
    refine lv_iload_n hx hb dX8_counts_105 rfl (lv_at hl 2 rfl) ?_
    refine lv_iload hx hb dX8_counts_106 (lv_at hl 0 rfl) ?_
    obtain ⟨hp21, hv⟩ := hv
    obtain ⟨hp22, hv⟩ := hv
    refine va_calli (va_runV (As := [.int (z_i gi), .int (z_i v1)]) (rest := []) ⟨hx, hb, hml, hown, hts⟩ (mt_X8_neighbours l D cA y y_space y_offset y_length ya_units ya_isThere y_isThere y_levels y_level y_lines y_lineLevel y_lineUnits y_lineFrom y_lineMany y_isClosed y_insides y_parent y_isHigh y_inBits y_sides y_side y_sideA y_sideB y_lineSpace y_wasThere y_leads y_isLed y_isOn y_goesTo y_stream y_filled y_isDone y_isReached y_newUnits y_isNew gi v1 h_y_levels h_y_lines h_y_sides h_y_lineSpace h_gi h_v1 hp21 hp22) (cwV 2 hts gX8_counts_X8_neighbours rfl rfl rfl (by decide +kernel) ⟨Nat.le_of_ble_eq_true rfl, Nat.le_of_ble_eq_true rfl⟩) ⟨z_bl0, va_recv hK hP (ci := 6) (q0 := 0) rfl rfl, fun U hU hW => ⟨rfl, z_b0 hK (hP.sub (ws' := [(y, .inr (6, [.ref y_space, .ref y_offset, .ref y_length, .ref ya_units, .ref ya_isThere, .int (z_i y_levels), .ref y_level, .int (z_i y_lines), .ref y_lineLevel, .ref y_lineUnits, .ref y_lineFrom, .ref y_lineMany, .ref y_isClosed, .ref y_insides, .ref y_parent, .ref y_isHigh, .ref y_inBits, .int (z_i y_sides), .ref y_side, .ref y_sideA, .ref y_sideB, .int (z_i y_lineSpace), .ref y_wasThere, .ref y_leads, .ref y_isLed, .ref y_isOn, .ref y_goesTo, .ref y_stream, .ref y_filled, .ref y_isDone, .ref y_isReached, .ref y_newUnits, .ref y_isNew])), (ya_isThere, .inl (cA 3, 5120, .inl y_isThere))]) [0, 2] rfl) hU hW⟩⟩ rfl rfl hl.1 rfl (lv_room (Nat.le_of_ble_eq_true rfl)) dX8_counts_108 ⟨Nat.zero_le _, Nat.zero_le _⟩) hS (fun q _ h => h.elim) (fun q h => h.elim) (fun r0 u t H locs ht hvm hw hB hz1 hk1 hS => ?_)
    obtain ⟨r23, rfl, h_r23, hw⟩ := hw
    have hP := z_P_all hP hk1
    have hv := hv r23 h_r23 hw
    refine lv_bipush (v := z_i 8) hx hb dX8_counts_111 (by decide) ?_
    refine lx_icmp_ge (tgt := 120) hx hb dX8_counts_113 (by decide) h_r23 (show z_in 8 from ⟨by decide, by decide⟩) (fun hc => ?_) (fun hc => ?_)
    · have hv := hv.1 hc
      refine lv_iconst (v := z_i 0) hx hb dX8_counts_120 rfl ?_
      exact W.zret (v := z_i 0) hx hb hr (by decide) (fun t ht hW => ⟨⟨z_i 0, (), rfl, ⟨0, rfl, (show z_in 0 from ⟨by decide, by decide⟩), hv⟩, trivial⟩, hS.F ht⟩) hS.2.2 dX8_counts_121
    · have hv := hv.2 hc
      refine lv_iconst (v := z_i 1) hx hb dX8_counts_116 rfl ?_
      refine lv_goto (tgt := 121) hx hb dX8_counts_117 (by decide) ?_
      exact W.zret (v := z_i 1) hx hb hr (by decide) (fun t ht hW => ⟨⟨z_i 1, (), rfl, ⟨1, rfl, (show z_in 1 from ⟨by decide, by decide⟩), hv⟩, trivial⟩, hS.F ht⟩) hS.2.2 dX8_counts_121
set_option maxHeartbeats 4000000 in
set_option maxRecDepth 100000 in
theorem mt_X8_counts (l : Launch) (D : va_G) (cA : Nat → ClassId) (y : Nat) (y_space : Nat) (y_offset : Nat) (y_length : Nat) (ya_units : Nat) (y_units : Nat → Int32) (ya_isThere : Nat) (y_isThere : Nat → Int32) (y_levels : Int) (y_level : Nat) (y_lines : Int) (y_lineLevel : Nat) (y_lineUnits : Nat) (y_lineFrom : Nat) (y_lineMany : Nat) (y_isClosed : Nat) (y_insides : Nat) (y_parent : Nat) (y_isHigh : Nat) (y_inBits : Nat) (y_sides : Int) (y_side : Nat) (y_sideA : Nat) (y_sideB : Nat) (y_lineSpace : Int) (y_wasThere : Nat) (y_leads : Nat) (y_isLed : Nat) (y_isOn : Nat) (y_goesTo : Nat) (y_stream : Nat) (y_filled : Nat) (y_isDone : Nat) (y_isReached : Nat) (y_newUnits : Nat) (y_isNew : Nat) (gi : Int) (i : Int) (j : Int) (what : Int) (h_y_levels : z_in y_levels) (h_y_lines : z_in y_lines) (h_y_sides : z_in y_sides) (h_y_lineSpace : z_in y_lineSpace) (h_gi : z_in gi) (h_i : z_in i) (h_j : z_in j) (h_what : z_in what) (hp1 : 0 ≤ gi ∧ gi < 4) (hp2 : q_bd y_units) (hp3 : m_no (q_th y_isThere gi) i j ≠ -1) (hp4 : 0 ≤ what ∧ what ≤ 5) : Met l yX8_counts wsX8_counts ({ frames := 5, cells := 0, slots := 0, locals := 120 } : Room) (va_Pc [.ref y, .int (z_i gi), .int (z_i i), .int (z_i j), .int (z_i what)] (z_B0 D cA [(y, .inr (6, [.ref y_space, .ref y_offset, .ref y_length, .ref ya_units, .ref ya_isThere, .int (z_i y_levels), .ref y_level, .int (z_i y_lines), .ref y_lineLevel, .ref y_lineUnits, .ref y_lineFrom, .ref y_lineMany, .ref y_isClosed, .ref y_insides, .ref y_parent, .ref y_isHigh, .ref y_inBits, .int (z_i y_sides), .ref y_side, .ref y_sideA, .ref y_sideB, .int (z_i y_lineSpace), .ref y_wasThere, .ref y_leads, .ref y_isLed, .ref y_isOn, .ref y_goesTo, .ref y_stream, .ref y_filled, .ref y_isDone, .ref y_isReached, .ref y_newUnits, .ref y_isNew])), (ya_units, .inl (cA 1, 5120, .inl y_units)), (ya_isThere, .inl (cA 3, 5120, .inl y_isThere))])) (va_Qi (z_ri (fun (r : Int) => r = z_b (p_cn (q_th y_isThere gi) (q_at y_units y_isThere gi) (40 * i + j) what))) (fun _ _ => True) (fun _ => False)) 0 0 (fun _ => False) := by
  refine wk_X8_counts l D cA y y_space y_offset y_length ya_units y_units ya_isThere y_isThere y_levels y_level y_lines y_lineLevel y_lineUnits y_lineFrom y_lineMany y_isClosed y_insides y_parent y_isHigh y_inBits y_sides y_side y_sideA y_sideB y_lineSpace y_wasThere y_leads y_isLed y_isOn y_goesTo y_stream y_filled y_isDone y_isReached y_newUnits y_isNew gi i j what h_y_levels h_y_lines h_y_sides h_y_lineSpace h_gi h_i h_j h_what (fun (r : Int) => r = z_b (p_cn (q_th y_isThere gi) (q_at y_units y_isThere gi) (40 * i + j) what)) ?_
  unfold vc_X8_counts
  have a1 := m_no_some hp3
  have hth := a1.2.2.2.2.2
  refine ⟨⟨by omega, by omega⟩, ?_⟩
  rintro v1 rfl
  refine ⟨?_, ?_, ?_, ?_, ?_, ?_⟩
  · rintro rfl
    unfold p_cn; rw [if_pos (show (0 : Int) = 0 from rfl)]; rfl
  · rintro rfl
    refine ⟨hp1, ⟨a1.2.1, a1.2.2.1⟩, ⟨a1.2.2.2.1, a1.2.2.2.2.1⟩, ?_⟩
    rintro r2 _ rfl
    refine ⟨z_b_01 _, ?_⟩
    unfold p_cn; rw [if_neg (show ¬ (1 : Int) = 0 by decide), if_pos (show (1 : Int) = 1 from rfl)]
  · rintro rfl
    refine ⟨hp1, hp2, hth, ?_⟩
    rintro r7 _ rfl
    have nn : m_dn (q_th y_isThere gi) (q_at y_units y_isThere gi) (40 * i + j) ≠ -1 → 0 ≤ m_dn (q_th y_isThere gi) (q_at y_units y_isThere gi) (40 * i + j) := fun q => (q_th_in (@m_dn_th (q_th y_isThere gi) (q_at y_units y_isThere gi) (40 * i + j) (fun p hp => q_bd_at hp2 hp1.1 hp1.2 hp) hth q).1).1
    refine ⟨fun h => ?_, fun h => ?_⟩
    · unfold p_cn; rw [if_neg (show ¬ (2 : Int) = 0 by decide), if_neg (show ¬ (2 : Int) = 1 by decide), if_pos (show (2 : Int) = 2 from rfl)]; rw [decide_eq_false (by omega)]; rfl
    · unfold p_cn; rw [if_neg (show ¬ (2 : Int) = 0 by decide), if_neg (show ¬ (2 : Int) = 1 by decide), if_pos (show (2 : Int) = 2 from rfl)]; rw [decide_eq_true (Decidable.byContradiction fun q => by have := nn q; omega)]; rfl
  · rintro rfl
    refine ⟨hp1, hp2, hth, ?_⟩
    rintro r7 _ rfl
    refine ⟨fun h => ?_, fun h => ?_⟩
    · unfold p_cn; rw [if_neg (show ¬ (3 : Int) = 0 by decide), if_neg (show ¬ (3 : Int) = 1 by decide), if_neg (show ¬ (3 : Int) = 2 by decide), if_pos (show (3 : Int) = 3 from rfl)]; rw [decide_eq_false h]; rfl
    · unfold p_cn; rw [if_neg (show ¬ (3 : Int) = 0 by decide), if_neg (show ¬ (3 : Int) = 1 by decide), if_neg (show ¬ (3 : Int) = 2 by decide), if_pos (show (3 : Int) = 3 from rfl)]; rw [decide_eq_true h]; rfl
  · rintro rfl
    refine ⟨hp1, hp2, hth, ?_⟩
    rintro r7 _ rfl
    refine ⟨fun h => ?_, fun h => ?_⟩
    · unfold p_cn; rw [if_neg (show ¬ (4 : Int) = 0 by decide), if_neg (show ¬ (4 : Int) = 1 by decide), if_neg (show ¬ (4 : Int) = 2 by decide), if_neg (show ¬ (4 : Int) = 3 by decide), if_pos (show (4 : Int) = 4 from rfl)]; rw [decide_eq_false h]; rfl
    · unfold p_cn; rw [if_neg (show ¬ (4 : Int) = 0 by decide), if_neg (show ¬ (4 : Int) = 1 by decide), if_neg (show ¬ (4 : Int) = 2 by decide), if_neg (show ¬ (4 : Int) = 3 by decide), if_pos (show (4 : Int) = 4 from rfl)]; rw [decide_eq_true h]; rfl
  · intro hw
    obtain rfl : what = 5 := by omega
    refine ⟨hp1, ⟨by omega, by omega⟩, ?_⟩
    rintro r2 _ rfl
    refine ⟨fun h => ?_, fun h => ?_⟩
    · unfold p_cn; rw [if_neg (show ¬ (5 : Int) = 0 by decide), if_neg (show ¬ (5 : Int) = 1 by decide), if_neg (show ¬ (5 : Int) = 2 by decide), if_neg (show ¬ (5 : Int) = 3 by decide), if_neg (show ¬ (5 : Int) = 4 by decide), if_pos (show (5 : Int) = 5 from rfl)]; rw [decide_eq_false (by omega)]; rfl
    · unfold p_cn; rw [if_neg (show ¬ (5 : Int) = 0 by decide), if_neg (show ¬ (5 : Int) = 1 by decide), if_neg (show ¬ (5 : Int) = 2 by decide), if_neg (show ¬ (5 : Int) = 3 by decide), if_neg (show ¬ (5 : Int) = 4 by decide), if_pos (show (5 : Int) = 5 from rfl)]; rw [decide_eq_true h]; rfl
def vc_X8_count (y_units : Nat → Int32) (y_isThere : Nat → Int32) (gi : Int) (what : Int) (Q : Int → Prop) : Prop :=
(∀ (r1 : Int), z_in r1 → (r1 = z_b (decide (0 ≤ gi ∧ gi ≤ 3))) → ((r1 = 0 → Q (-1)) ∧
(r1 ≠ 0 → (∀ (r2 : Int), z_in r2 → (r2 = z_b (decide ((0 : Int) ≤ what ∧ what ≤ (5 : Int)))) → ((r2 ≠ 0 → (∀ L23 : Int → Int → Prop,
(∀ (x23_4 : Int) (x23_3 : Int), z_in x23_4 → z_in x23_3 → ((x23_4 ≥ 32 → Q x23_3) ∧
(x23_4 < 32 → (∀ L33 : Int → Int → Prop,
(∀ (x33_5 : Int) (x33_3 : Int), z_in x33_5 → z_in x33_3 → ((x33_5 ≥ 40 → L23 (x23_4 + 1) x33_3) ∧
(x33_5 < 40 → (0 ≤ gi ∧ gi < 4) ∧ (∀ (r4 : Int), z_in r4 → (r4 = z_b (decide (m_no (q_th y_isThere gi) x23_4 x33_5 ≠ -1))) → ((r4 = 0 → L33 (x33_5 + 1) x33_3) ∧
(r4 ≠ 0 → (0 ≤ gi ∧ gi < 4) ∧ (q_bd y_units) ∧ (m_no (q_th y_isThere gi) x23_4 x33_5 ≠ -1) ∧ (0 ≤ what ∧ what ≤ 5) ∧ (∀ (r9 : Int), z_in r9 → (r9 = z_b (p_cn (q_th y_isThere gi) (q_at y_units y_isThere gi) (40 * x23_4 + x33_5) what)) → ((r9 = 0 → L33 (x33_5 + 1) x33_3) ∧
(r9 ≠ 0 → L33 (x33_5 + 1) (x33_3 + 1))))))))) → L33 x33_5 x33_3) →
L33 0 x23_3))) → L23 x23_4 x23_3) →
L23 0 0)) ∧
(r2 = 0 → Q (-1)))))))
set_option maxHeartbeats 4000000 in
set_option maxRecDepth 100000 in
theorem wk_X8_count (l : Launch) (D : va_G) (cA : Nat → ClassId) (y : Nat) (y_space : Nat) (y_offset : Nat) (y_length : Nat) (ya_units : Nat) (y_units : Nat → Int32) (ya_isThere : Nat) (y_isThere : Nat → Int32) (y_levels : Int) (y_level : Nat) (y_lines : Int) (y_lineLevel : Nat) (y_lineUnits : Nat) (y_lineFrom : Nat) (y_lineMany : Nat) (y_isClosed : Nat) (y_insides : Nat) (y_parent : Nat) (y_isHigh : Nat) (y_inBits : Nat) (y_sides : Int) (y_side : Nat) (y_sideA : Nat) (y_sideB : Nat) (y_lineSpace : Int) (y_wasThere : Nat) (y_leads : Nat) (y_isLed : Nat) (y_isOn : Nat) (y_goesTo : Nat) (y_stream : Nat) (y_filled : Nat) (y_isDone : Nat) (y_isReached : Nat) (y_newUnits : Nat) (y_isNew : Nat) (gi : Int) (what : Int) (h_y_levels : z_in y_levels) (h_y_lines : z_in y_lines) (h_y_sides : z_in y_sides) (h_y_lineSpace : z_in y_lineSpace) (h_gi : z_in gi) (h_what : z_in what) (Q : Int → Prop) (hv : vc_X8_count y_units y_isThere gi what Q) : Met l yX8_count wsX8_count ({ frames := 6, cells := 0, slots := 0, locals := 145 } : Room) (va_Pc [.ref y, .int (z_i gi), .int (z_i what)] (z_B0 D cA [(y, .inr (6, [.ref y_space, .ref y_offset, .ref y_length, .ref ya_units, .ref ya_isThere, .int (z_i y_levels), .ref y_level, .int (z_i y_lines), .ref y_lineLevel, .ref y_lineUnits, .ref y_lineFrom, .ref y_lineMany, .ref y_isClosed, .ref y_insides, .ref y_parent, .ref y_isHigh, .ref y_inBits, .int (z_i y_sides), .ref y_side, .ref y_sideA, .ref y_sideB, .int (z_i y_lineSpace), .ref y_wasThere, .ref y_leads, .ref y_isLed, .ref y_isOn, .ref y_goesTo, .ref y_stream, .ref y_filled, .ref y_isDone, .ref y_isReached, .ref y_newUnits, .ref y_isNew])), (ya_units, .inl (cA 1, 5120, .inl y_units)), (ya_isThere, .inl (cA 3, 5120, .inl y_isThere))])) (va_Qi (z_ri Q) (fun _ _ => True) (fun _ => False)) 0 0 (fun _ => False) := by
  unfold vc_X8_count at hv
  refine Met.ofW (cc := cX8_count) (maxL := 6) (ret := (some .int)) (by decide +kernel) rfl ?_
  intro p e s m args below meth c s₁ B hml hv0
  obtain ⟨rfl, hK, hP⟩ := hv0
  have hx := B.exec
  have hb := B.bytes
  have hr := B.returns
  have hts := atoms_spec (ws := wsX8_count) B.pre
  have hown : s.vm.findClass RX8 = some m.cls := findClass_of_methodNamed B.named
  have hlocks := B.notSynchronized
  have hS : va_S (fun _ : Nat => False) s.heap s.heap [] := va_S.rf
  have hl := lv_entry ([.ref y, .int (z_i gi), .int (z_i what)]) (n := 6) (Nat.le_of_ble_eq_true rfl)
  rw [lg_entry_eq]
  generalize (lg_sl ([.ref y, .int (z_i gi), .int (z_i what)]) ++ List.replicate (6 - (lg_sl ([.ref y, .int (z_i gi), .int (z_i what)])).length) Slot.unset).toArray = ls at hl ⊢
  have hl : lv_has ls 6 [(0, .ref y), (1, .int (z_i gi)), (2, .int (z_i what))] := hl
  refine lv_iload_n hx hb dX8_count_0 rfl (lv_at hl 1 rfl) ?_
  refine va_calli (va_runS (As := [.int (z_i gi)]) (rest := []) ⟨hx, hb, hml, hown, hts⟩ (mt_X8_isGrid l D cA gi h_gi) (va_cwS 1 hts gX8_count_X8_isGrid rfl rfl rfl (by decide +kernel) ⟨Nat.le_of_ble_eq_true rfl, Nat.le_of_ble_eq_true rfl⟩) ⟨z_bl0, fun U hU hW => ⟨rfl, z_b0 hK (hP.sub (ws' := []) [] rfl) hU hW⟩⟩ rfl rfl hl.1 rfl (lv_room (Nat.le_of_ble_eq_true rfl)) dX8_count_1 ⟨Nat.zero_le _, Nat.zero_le _⟩) hS (fun q _ h => h.elim) (fun q h => h.elim) (fun r0 u t H locs ht hvm hw hB hz1 hk1 hS => ?_)
  obtain ⟨r1, rfl, h_r1, hw⟩ := hw
  have hP := z_P_all hP hk1
  have hv := hv r1 h_r1 hw
  refine lx_if_eq (tgt := 16) hx hb dX8_count_4 (by decide) h_r1 (fun hc => ?_) (fun hc => ?_)
  · have hv := hv.1 hc
    refine lv_iconst (v := z_i (-1)) hx hb dX8_count_16 rfl ?_
    exact W.iret (v := z_i (-1)) hx hb hr (fun t ht hW => ⟨⟨z_i (-1), (), rfl, ⟨-1, rfl, (show z_in (-1) from ⟨by decide, by decide⟩), hv⟩, trivial⟩, hS.F ht⟩) hS.2.2 dX8_count_17
  · have hv := hv.2 hc
    refine lv_iload_n hx hb dX8_count_7 rfl (lv_at hl 2 rfl) ?_
    refine lv_iconst (v := z_i 0) hx hb dX8_count_8 rfl ?_
    refine lv_iconst (v := z_i 5) hx hb dX8_count_9 rfl ?_
    refine va_calli (va_runS (As := [.int (z_i what), .int (z_i 0), .int (z_i 5)]) (rest := []) ⟨hx, hb, hml, hown, hts⟩ (mt_X8_in l D cA what 0 5 h_what (show z_in 0 from ⟨by decide, by decide⟩) (show z_in 5 from ⟨by decide, by decide⟩)) (va_cwS 3 hts gX8_count_X8_in rfl rfl rfl (by decide +kernel) ⟨Nat.le_of_ble_eq_true rfl, Nat.le_of_ble_eq_true rfl⟩) ⟨z_bl0, fun U hU hW => ⟨rfl, z_b0 hK (hP.sub (ws' := []) [] rfl) hU hW⟩⟩ rfl rfl hl.1 rfl (lv_room (Nat.le_of_ble_eq_true rfl)) dX8_count_10 ⟨Nat.zero_le _, Nat.zero_le _⟩) hS (fun q _ h => h.elim) (fun q h => h.elim) (fun r0 u t H locs ht hvm hw hB hz1 hk1 hS => ?_)
    obtain ⟨r2, rfl, h_r2, hw⟩ := hw
    have hP := z_P_all hP hk1
    have hv := hv r2 h_r2 hw
    refine lx_if_ne (tgt := 18) hx hb dX8_count_13 (by decide) h_r2 (fun hc => ?_) (fun hc => ?_)
    · have hv := hv.1 hc
      refine lv_iconst (v := z_i 0) hx hb dX8_count_18 rfl ?_
      refine lv_istore_n (lv' := [(3, .int (z_i 0)), (0, .ref y), (1, .int (z_i gi)), (2, .int (z_i what))]) hx hb dX8_count_19 rfl hl (by decide) rfl (fun ls hl => ?_)
      refine lv_iconst (v := z_i 0) hx hb dX8_count_20 rfl ?_
      refine lv_istore (lv' := [(4, .int (z_i 0)), (3, .int (z_i 0)), (0, .ref y), (1, .int (z_i gi)), (2, .int (z_i what))]) hx hb dX8_count_21 hl (by decide) rfl (fun ls hl => ?_)
      refine hv (fun (x23_4 : Int) (x23_3 : Int) => ∀ (H : Heap) (locs : List Loc) (ls : Array Slot), va_P D vwCl [(y, .inr (6, [.ref y_space, .ref y_offset, .ref y_length, .ref ya_units, .ref ya_isThere, .int (z_i y_levels), .ref y_level, .int (z_i y_lines), .ref y_lineLevel, .ref y_lineUnits, .ref y_lineFrom, .ref y_lineMany, .ref y_isClosed, .ref y_insides, .ref y_parent, .ref y_isHigh, .ref y_inBits, .int (z_i y_sides), .ref y_side, .ref y_sideA, .ref y_sideB, .int (z_i y_lineSpace), .ref y_wasThere, .ref y_leads, .ref y_isLed, .ref y_isOn, .ref y_goesTo, .ref y_stream, .ref y_filled, .ref y_isDone, .ref y_isReached, .ref y_newUnits, .ref y_isNew])), (ya_units, .inl (cA 1, 5120, .inl y_units)), (ya_isThere, .inl (cA 3, 5120, .inl y_isThere))] H → va_S (fun _ : Nat => False) s.heap H locs → lv_has ls 6 [(4, .int (z_i x23_4)), (3, .int (z_i x23_3)), (0, .ref y), (1, .int (z_i gi)), (2, .int (z_i what))] → W p l e _ s m _ below meth c H locs 0 0 _ (F0 m 23 ls [])) ?_ _ _ ls hP hS (lv_sub hl [0, 1, 2, 3, 4] rfl)
      intro x23_4 x23_3 h_x23_4 h_x23_3 hv H locs ls hP hS hl
      refine lv_iload hx hb dX8_count_23 (lv_at hl 0 rfl) ?_
      refine lv_bipush (v := z_i 32) hx hb dX8_count_25 (by decide) ?_
      refine lx_icmp_ge (tgt := 80) hx hb dX8_count_27 (by decide) h_x23_4 (show z_in 32 from ⟨by decide, by decide⟩) (fun hc => ?_) (fun hc => ?_)
      · have hv := hv.1 hc
        refine lv_iload_n hx hb dX8_count_80 rfl (lv_at hl 1 rfl) ?_
        exact W.iret (v := z_i x23_3) hx hb hr (fun t ht hW => ⟨⟨z_i x23_3, (), rfl, ⟨x23_3, rfl, h_x23_3, hv⟩, trivial⟩, hS.F ht⟩) hS.2.2 dX8_count_81
      · have hv := hv.2 hc
        refine lv_iconst (v := z_i 0) hx hb dX8_count_30 rfl ?_
        refine lv_istore (lv' := [(5, .int (z_i 0)), (4, .int (z_i x23_4)), (3, .int (z_i x23_3)), (0, .ref y), (1, .int (z_i gi)), (2, .int (z_i what))]) hx hb dX8_count_31 hl (by decide) rfl (fun ls hl => ?_)
        refine hv (fun (x33_5 : Int) (x33_3 : Int) => ∀ (H : Heap) (locs : List Loc) (ls : Array Slot), va_P D vwCl [(y, .inr (6, [.ref y_space, .ref y_offset, .ref y_length, .ref ya_units, .ref ya_isThere, .int (z_i y_levels), .ref y_level, .int (z_i y_lines), .ref y_lineLevel, .ref y_lineUnits, .ref y_lineFrom, .ref y_lineMany, .ref y_isClosed, .ref y_insides, .ref y_parent, .ref y_isHigh, .ref y_inBits, .int (z_i y_sides), .ref y_side, .ref y_sideA, .ref y_sideB, .int (z_i y_lineSpace), .ref y_wasThere, .ref y_leads, .ref y_isLed, .ref y_isOn, .ref y_goesTo, .ref y_stream, .ref y_filled, .ref y_isDone, .ref y_isReached, .ref y_newUnits, .ref y_isNew])), (ya_units, .inl (cA 1, 5120, .inl y_units)), (ya_isThere, .inl (cA 3, 5120, .inl y_isThere))] H → va_S (fun _ : Nat => False) s.heap H locs → lv_has ls 6 [(5, .int (z_i x33_5)), (4, .int (z_i x23_4)), (3, .int (z_i x33_3)), (0, .ref y), (1, .int (z_i gi)), (2, .int (z_i what))] → W p l e _ s m _ below meth c H locs 0 0 _ (F0 m 33 ls [])) ?_ _ _ ls hP hS (lv_sub hl [0, 1, 2, 3, 4, 5] rfl)
        intro x33_5 x33_3 h_x33_5 h_x33_3 hv H locs ls hP hS hl
        refine lv_iload hx hb dX8_count_33 (lv_at hl 0 rfl) ?_
        refine lv_bipush (v := z_i 40) hx hb dX8_count_35 (by decide) ?_
        refine lx_icmp_ge (tgt := 74) hx hb dX8_count_37 (by decide) h_x33_5 (show z_in 40 from ⟨by decide, by decide⟩) (fun hc => ?_) (fun hc => ?_)
        · have hv := hv.1 hc
          refine lv_iinc (v := z_i (x23_4 + 1)) (lv' := [(4, .int (z_i (x23_4 + 1))), (5, .int (z_i x33_5)), (3, .int (z_i x33_3)), (0, .ref y), (1, .int (z_i gi)), (2, .int (z_i what))]) hx hb dX8_count_74 hl (k := 1) rfl (z_i_add _ _) (by decide) rfl (fun ls hl => ?_)
          refine lv_goto (tgt := 23) hx hb dX8_count_77 (by decide) ?_
          exact hv _ _ ls hP hS (lv_sub hl [0, 2, 3, 4, 5] rfl)
        · have hv := hv.2 hc
          refine lv_aload_n hx hb dX8_count_40 rfl (lv_at hl 3 rfl) ?_
          refine lv_iload_n hx hb dX8_count_41 rfl (lv_at hl 4 rfl) ?_
          refine lv_iload hx hb dX8_count_42 (lv_at hl 1 rfl) ?_
          refine lv_iload hx hb dX8_count_44 (lv_at hl 0 rfl) ?_
          obtain ⟨hp3, hv⟩ := hv
          refine va_calli (va_runV (As := [.int (z_i gi), .int (z_i x23_4), .int (z_i x33_5)]) (rest := []) ⟨hx, hb, hml, hown, hts⟩ (mt_X8_has l D cA y y_space y_offset y_length ya_units ya_isThere y_isThere y_levels y_level y_lines y_lineLevel y_lineUnits y_lineFrom y_lineMany y_isClosed y_insides y_parent y_isHigh y_inBits y_sides y_side y_sideA y_sideB y_lineSpace y_wasThere y_leads y_isLed y_isOn y_goesTo y_stream y_filled y_isDone y_isReached y_newUnits y_isNew gi x23_4 x33_5 h_y_levels h_y_lines h_y_sides h_y_lineSpace h_gi h_x23_4 h_x33_5 hp3) (cwV 3 hts gX8_count_X8_has rfl rfl rfl (by decide +kernel) ⟨Nat.le_of_ble_eq_true rfl, Nat.le_of_ble_eq_true rfl⟩) ⟨z_bl0, va_recv hK hP (ci := 6) (q0 := 0) rfl rfl, fun U hU hW => ⟨rfl, z_b0 hK (hP.sub (ws' := [(y, .inr (6, [.ref y_space, .ref y_offset, .ref y_length, .ref ya_units, .ref ya_isThere, .int (z_i y_levels), .ref y_level, .int (z_i y_lines), .ref y_lineLevel, .ref y_lineUnits, .ref y_lineFrom, .ref y_lineMany, .ref y_isClosed, .ref y_insides, .ref y_parent, .ref y_isHigh, .ref y_inBits, .int (z_i y_sides), .ref y_side, .ref y_sideA, .ref y_sideB, .int (z_i y_lineSpace), .ref y_wasThere, .ref y_leads, .ref y_isLed, .ref y_isOn, .ref y_goesTo, .ref y_stream, .ref y_filled, .ref y_isDone, .ref y_isReached, .ref y_newUnits, .ref y_isNew])), (ya_isThere, .inl (cA 3, 5120, .inl y_isThere))]) [0, 2] rfl) hU hW⟩⟩ rfl rfl hl.1 rfl (lv_room (Nat.le_of_ble_eq_true rfl)) dX8_count_46 ⟨Nat.zero_le _, Nat.zero_le _⟩) hS (fun q _ h => h.elim) (fun q h => h.elim) (fun r0 u t H locs ht hvm hw hB hz1 hk1 hS => ?_)
          obtain ⟨r4, rfl, h_r4, hw⟩ := hw
          have hP := z_P_all hP hk1
          have hv := hv r4 h_r4 hw
          refine lx_if_eq (tgt := 68) hx hb dX8_count_49 (by decide) h_r4 (fun hc => ?_) (fun hc => ?_)
          · have hv := hv.1 hc
            refine lv_iinc (v := z_i (x33_5 + 1)) (lv' := [(5, .int (z_i (x33_5 + 1))), (4, .int (z_i x23_4)), (3, .int (z_i x33_3)), (0, .ref y), (1, .int (z_i gi)), (2, .int (z_i what))]) hx hb dX8_count_68 hl (k := 0) rfl (z_i_add _ _) (by decide) rfl (fun ls hl => ?_)
            refine lv_goto (tgt := 33) hx hb dX8_count_71 (by decide) ?_
            exact hv _ _ ls hP hS (lv_sub hl [0, 1, 2, 3, 4, 5] rfl)
          · have hv := hv.2 hc
            refine lv_aload_n hx hb dX8_count_52 rfl (lv_at hl 3 rfl) ?_
            refine lv_iload_n hx hb dX8_count_53 rfl (lv_at hl 4 rfl) ?_
            refine lv_iload hx hb dX8_count_54 (lv_at hl 1 rfl) ?_
            refine lv_iload hx hb dX8_count_56 (lv_at hl 0 rfl) ?_
            refine lv_iload_n hx hb dX8_count_58 rfl (lv_at hl 5 rfl) ?_
            obtain ⟨hp5, hv⟩ := hv
            obtain ⟨hp6, hv⟩ := hv
            obtain ⟨hp7, hv⟩ := hv
            obtain ⟨hp8, hv⟩ := hv
            refine va_calli (va_runV (As := [.int (z_i gi), .int (z_i x23_4), .int (z_i x33_5), .int (z_i what)]) (rest := []) ⟨hx, hb, hml, hown, hts⟩ (mt_X8_counts l D cA y y_space y_offset y_length ya_units y_units ya_isThere y_isThere y_levels y_level y_lines y_lineLevel y_lineUnits y_lineFrom y_lineMany y_isClosed y_insides y_parent y_isHigh y_inBits y_sides y_side y_sideA y_sideB y_lineSpace y_wasThere y_leads y_isLed y_isOn y_goesTo y_stream y_filled y_isDone y_isReached y_newUnits y_isNew gi x23_4 x33_5 what h_y_levels h_y_lines h_y_sides h_y_lineSpace h_gi h_x23_4 h_x33_5 h_what hp5 hp6 hp7 hp8) (cwV 4 hts gX8_count_X8_counts rfl rfl rfl (by decide +kernel) ⟨Nat.le_of_ble_eq_true rfl, Nat.le_of_ble_eq_true rfl⟩) ⟨z_bl0, va_recv hK hP (ci := 6) (q0 := 0) rfl rfl, fun U hU hW => ⟨rfl, z_b0 hK hP hU hW⟩⟩ rfl rfl hl.1 rfl (lv_room (Nat.le_of_ble_eq_true rfl)) dX8_count_59 ⟨Nat.zero_le _, Nat.zero_le _⟩) hS (fun q _ h => h.elim) (fun q h => h.elim) (fun r0 u t H locs ht hvm hw hB hz1 hk1 hS => ?_)
            obtain ⟨r9, rfl, h_r9, hw⟩ := hw
            have hP := z_P_all hP hk1
            have hv := hv r9 h_r9 hw
            refine lx_if_eq (tgt := 68) hx hb dX8_count_62 (by decide) h_r9 (fun hc => ?_) (fun hc => ?_)
            · have hv := hv.1 hc
              refine lv_iinc (v := z_i (x33_5 + 1)) (lv' := [(5, .int (z_i (x33_5 + 1))), (4, .int (z_i x23_4)), (3, .int (z_i x33_3)), (0, .ref y), (1, .int (z_i gi)), (2, .int (z_i what))]) hx hb dX8_count_68 hl (k := 0) rfl (z_i_add _ _) (by decide) rfl (fun ls hl => ?_)
              refine lv_goto (tgt := 33) hx hb dX8_count_71 (by decide) ?_
              exact hv _ _ ls hP hS (lv_sub hl [0, 1, 2, 3, 4, 5] rfl)
            · have hv := hv.2 hc
              refine lv_iinc (v := z_i (x33_3 + 1)) (lv' := [(3, .int (z_i (x33_3 + 1))), (5, .int (z_i x33_5)), (4, .int (z_i x23_4)), (0, .ref y), (1, .int (z_i gi)), (2, .int (z_i what))]) hx hb dX8_count_65 hl (k := 2) rfl (z_i_add _ _) (by decide) rfl (fun ls hl => ?_)
              refine lv_iinc (v := z_i (x33_5 + 1)) (lv' := [(5, .int (z_i (x33_5 + 1))), (3, .int (z_i (x33_3 + 1))), (4, .int (z_i x23_4)), (0, .ref y), (1, .int (z_i gi)), (2, .int (z_i what))]) hx hb dX8_count_68 hl (k := 1) rfl (z_i_add _ _) (by decide) rfl (fun ls hl => ?_)
              refine lv_goto (tgt := 33) hx hb dX8_count_71 (by decide) ?_
              exact hv _ _ ls hP hS (lv_sub hl [0, 2, 1, 3, 4, 5] rfl)
    · have hv := hv.2 hc
      refine lv_iconst (v := z_i (-1)) hx hb dX8_count_16 rfl ?_
      exact W.iret (v := z_i (-1)) hx hb hr (fun t ht hW => ⟨⟨z_i (-1), (), rfl, ⟨-1, rfl, (show z_in (-1) from ⟨by decide, by decide⟩), hv⟩, trivial⟩, hS.F ht⟩) hS.2.2 dX8_count_17
set_option maxHeartbeats 4000000 in
set_option maxRecDepth 100000 in
theorem mt_X8_count (l : Launch) (D : va_G) (cA : Nat → ClassId) (y : Nat) (y_space : Nat) (y_offset : Nat) (y_length : Nat) (ya_units : Nat) (y_units : Nat → Int32) (ya_isThere : Nat) (y_isThere : Nat → Int32) (y_levels : Int) (y_level : Nat) (y_lines : Int) (y_lineLevel : Nat) (y_lineUnits : Nat) (y_lineFrom : Nat) (y_lineMany : Nat) (y_isClosed : Nat) (y_insides : Nat) (y_parent : Nat) (y_isHigh : Nat) (y_inBits : Nat) (y_sides : Int) (y_side : Nat) (y_sideA : Nat) (y_sideB : Nat) (y_lineSpace : Int) (y_wasThere : Nat) (y_leads : Nat) (y_isLed : Nat) (y_isOn : Nat) (y_goesTo : Nat) (y_stream : Nat) (y_filled : Nat) (y_isDone : Nat) (y_isReached : Nat) (y_newUnits : Nat) (y_isNew : Nat) (gi : Int) (what : Int) (h_y_levels : z_in y_levels) (h_y_lines : z_in y_lines) (h_y_sides : z_in y_sides) (h_y_lineSpace : z_in y_lineSpace) (h_gi : z_in gi) (h_what : z_in what) (hp1 : q_bd y_units) : Met l yX8_count wsX8_count ({ frames := 6, cells := 0, slots := 0, locals := 145 } : Room) (va_Pc [.ref y, .int (z_i gi), .int (z_i what)] (z_B0 D cA [(y, .inr (6, [.ref y_space, .ref y_offset, .ref y_length, .ref ya_units, .ref ya_isThere, .int (z_i y_levels), .ref y_level, .int (z_i y_lines), .ref y_lineLevel, .ref y_lineUnits, .ref y_lineFrom, .ref y_lineMany, .ref y_isClosed, .ref y_insides, .ref y_parent, .ref y_isHigh, .ref y_inBits, .int (z_i y_sides), .ref y_side, .ref y_sideA, .ref y_sideB, .int (z_i y_lineSpace), .ref y_wasThere, .ref y_leads, .ref y_isLed, .ref y_isOn, .ref y_goesTo, .ref y_stream, .ref y_filled, .ref y_isDone, .ref y_isReached, .ref y_newUnits, .ref y_isNew])), (ya_units, .inl (cA 1, 5120, .inl y_units)), (ya_isThere, .inl (cA 3, 5120, .inl y_isThere))])) (va_Qi (z_ri (fun (r : Int) => r = if (0 ≤ gi ∧ gi < 4) ∧ 0 ≤ what ∧ what ≤ 5 then p_ct (q_th y_isThere gi) (q_at y_units y_isThere gi) what 1280 else -1)) (fun _ _ => True) (fun _ => False)) 0 0 (fun _ => False) := by
  refine wk_X8_count l D cA y y_space y_offset y_length ya_units y_units ya_isThere y_isThere y_levels y_level y_lines y_lineLevel y_lineUnits y_lineFrom y_lineMany y_isClosed y_insides y_parent y_isHigh y_inBits y_sides y_side y_sideA y_sideB y_lineSpace y_wasThere y_leads y_isLed y_isOn y_goesTo y_stream y_filled y_isDone y_isReached y_newUnits y_isNew gi what h_y_levels h_y_lines h_y_sides h_y_lineSpace h_gi h_what (fun (r : Int) => r = if (0 ≤ gi ∧ gi < 4) ∧ 0 ≤ what ∧ what ≤ 5 then p_ct (q_th y_isThere gi) (q_at y_units y_isThere gi) what 1280 else -1) ?_
  unfold vc_X8_count
  rintro r1 _ rfl
  refine ⟨fun q => ?_, fun q => ?_⟩
  · have q := of_decide_eq_false (zb_f q)
    rw [if_neg (by omega)]
  have q := of_decide_eq_true (zb_t q)
  have hg : 0 ≤ gi ∧ gi < 4 := by omega
  rintro r2 _ rfl
  refine ⟨fun q1 => ?_, fun q1 => ?_⟩
  · have q1 := of_decide_eq_true (zb_t q1)
    rw [if_pos ⟨hg, q1⟩]
    have es : ∀ k : Nat, p_ct (q_th y_isThere gi) (q_at y_units y_isThere gi) what (k + 1) = p_ct (q_th y_isThere gi) (q_at y_units y_isThere gi) what k + (if (q_th y_isThere gi) k = true ∧ p_cn (q_th y_isThere gi) (q_at y_units y_isThere gi) k what = true then 1 else 0) := fun k => rfl
    have pb : ∀ k : Nat, 0 ≤ p_ct (q_th y_isThere gi) (q_at y_units y_isThere gi) what k ∧ p_ct (q_th y_isThere gi) (q_at y_units y_isThere gi) what k ≤ k := fun k => by
      induction k with
      | zero => exact ⟨Int.le_refl _, Int.le_refl _⟩
      | succ k ih => rw [es]; split <;> omega
    intro L hL
    suffices H : ∀ (d i : Nat), i + d = 32 → L (i : Int) (p_ct (q_th y_isThere gi) (q_at y_units y_isThere gi) what (40 * i)) from H 32 0 rfl
    intro d
    induction d with
    | zero =>
      intro i hi
      obtain rfl : i = 32 := by omega
      have := pb (40 * 32)
      exact hL _ _ ⟨by omega, by omega⟩ ⟨by omega, by omega⟩ ⟨fun _ => rfl, fun h => absurd h (by omega)⟩
    | succ d ih =>
      intro i hi
      have b0 := pb (40 * i)
      refine hL _ _ ⟨by omega, by omega⟩ ⟨by omega, by omega⟩ ⟨fun h => absurd h (by omega), fun _ => ?_⟩
      intro L3 hL3
      suffices H : ∀ (d3 j : Nat), j + d3 = 40 → L3 (j : Int) (p_ct (q_th y_isThere gi) (q_at y_units y_isThere gi) what (40 * i + j)) from H 40 0 rfl
      intro d3
      induction d3 with
      | zero =>
        intro j hj
        obtain rfl : j = 40 := by omega
        have := pb (40 * i + 40)
        exact hL3 _ _ ⟨by omega, by omega⟩ ⟨by omega, by omega⟩ ⟨fun _ => ih (i + 1) (by omega), fun h => absurd h (by omega)⟩
      | succ d3 ih3 =>
        intro j hj
        have b1 := pb (40 * i + j)
        have h9 := ih3 (j + 1) (by omega)
        have e9 : p_ct (q_th y_isThere gi) (q_at y_units y_isThere gi) what (40 * i + (j + 1)) = p_ct (q_th y_isThere gi) (q_at y_units y_isThere gi) what (40 * i + j) + (if (q_th y_isThere gi) (40 * (i : Int) + (j : Int)) = true ∧ p_cn (q_th y_isThere gi) (q_at y_units y_isThere gi) (40 * (i : Int) + (j : Int)) what = true then 1 else 0) := es (40 * i + j)
        rw [e9] at h9
        have hno := @q_no_th (q_th y_isThere gi) i j (by omega) (by omega) (by omega) (by omega)
        refine hL3 _ _ ⟨by omega, by omega⟩ ⟨by omega, by omega⟩ ⟨fun h => absurd h (by omega), fun _ => ⟨hg, ?_⟩⟩
        rintro r4 _ rfl
        refine ⟨fun q2 => ?_, fun q2 => ⟨hg, hp1, of_decide_eq_true (zb_t q2), q1, ?_⟩⟩
        · have q2 := of_decide_eq_false (zb_f q2)
          rw [if_neg (fun h => q2 (hno.mpr h.1)), Int.add_zero] at h9; exact h9
        · have q2 := hno.mp (of_decide_eq_true (zb_t q2))
          rintro r9 _ rfl
          refine ⟨fun q3 => ?_, fun q3 => ?_⟩
          · rw [if_neg (fun h => by rw [zb_f q3] at h; exact absurd h.2 (by decide)), Int.add_zero] at h9; exact h9
          · rw [if_pos ⟨q2, zb_t q3⟩] at h9; exact h9
  · have q1 := of_decide_eq_false (zb_f q1)
    rw [if_neg (by omega)]
def vc_X8_volume (y_units : Nat → Int32) (y_isThere : Nat → Int32) (gi : Int) (mm : Int) (what : Int) (Q : Int → Prop) : Prop :=
(∀ (r1 : Int), z_in r1 → (r1 = z_b (decide (0 ≤ gi ∧ gi ≤ 3))) → ((r1 = 0 → Q (-1)) ∧
(r1 ≠ 0 → (∀ (r2 : Int), z_in r2 → (r2 = z_b (decide ((-8192 : Int) ≤ mm ∧ mm ≤ (8192 : Int)))) → ((r2 = 0 → Q (-1)) ∧
(r2 ≠ 0 → (∀ (r3 : Int), z_in r3 → (r3 = z_b (decide ((0 : Int) ≤ what ∧ what ≤ (1 : Int)))) → ((r3 ≠ 0 → (∀ L39 : Int → Int → Prop,
(∀ (x39_6 : Int) (x39_4 : Int), z_in x39_6 → z_nl x39_4 → ((x39_6 ≥ 31 → Q x39_4) ∧
(x39_6 < 31 → (∀ L49 : Int → Int → Prop,
(∀ (x49_7 : Int) (x49_4 : Int), z_in x49_7 → z_nl x49_4 → ((x49_7 ≥ 39 → L39 (x39_6 + 1) x49_4) ∧
(x49_7 < 39 → (0 ≤ gi ∧ gi < 4) ∧ (0 ≤ x39_6 ∧ x39_6 < 32) ∧ (0 ≤ x49_7 ∧ x49_7 < 40) ∧ (∀ (r7 : Int), z_in r7 → (r7 = z_b (m_wh (q_th y_isThere gi) (40 * x39_6 + x49_7))) → ((r7 = 0 → L49 (x49_7 + 1) x49_4) ∧
(r7 ≠ 0 → (0 ≤ gi ∧ gi < 4) ∧ (0 ≤ x39_6 ∧ x39_6 < 32) ∧ (0 ≤ x49_7 ∧ x49_7 < 40) ∧ (∀ (r11 : Int), z_in r11 → (r11 = z_g y_units (1280 * gi + (40 * x39_6 + x49_7))) → z_in (x49_7 + 1) ∧ (0 ≤ gi ∧ gi < 4) ∧ (0 ≤ x39_6 ∧ x39_6 < 32) ∧ (0 ≤ (x49_7 + 1) ∧ (x49_7 + 1) < 40) ∧ (∀ (r16 : Int), z_in r16 → (r16 = z_g y_units (1280 * gi + (40 * x39_6 + (x49_7 + 1)))) → z_in (x39_6 + 1) ∧ (0 ≤ gi ∧ gi < 4) ∧ (0 ≤ (x39_6 + 1) ∧ (x39_6 + 1) < 32) ∧ (0 ≤ x49_7 ∧ x49_7 < 40) ∧ (∀ (r21 : Int), z_in r21 → (r21 = z_g y_units (1280 * gi + (40 * (x39_6 + 1) + x49_7))) → (0 ≤ gi ∧ gi < 4) ∧ (0 ≤ (x39_6 + 1) ∧ (x39_6 + 1) < 32) ∧ (0 ≤ (x49_7 + 1) ∧ (x49_7 + 1) < 40) ∧ (∀ (r25 : Int), z_in r25 → (r25 = z_g y_units (1280 * gi + (40 * (x39_6 + 1) + (x49_7 + 1)))) → z_nl ((((r11 + r16) + r21) + r25) - (4096 * mm)) ∧ (∀ v26 : Int, v26 = (((r11 + r16) + r21) + r25) - (4096 * mm) → ((what ≠ 0 → ((v26 ≥ 0 → z_nl (x49_4 + 0) ∧ (∀ v29 : Int, v29 = x49_4 + 0 → L49 (x49_7 + 1) v29)) ∧
(v26 < 0 → z_nl (x49_4 + (-v26)) ∧ (∀ v32 : Int, v32 = x49_4 + (-v26) → L49 (x49_7 + 1) v32)))) ∧
(what = 0 → ((v26 ≤ 0 → z_nl (x49_4 + 0) ∧ (∀ v35 : Int, v35 = x49_4 + 0 → L49 (x49_7 + 1) v35)) ∧
(v26 > 0 → z_nl (x49_4 + v26) ∧ (∀ v38 : Int, v38 = x49_4 + v26 → L49 (x49_7 + 1) v38))))))))))))))) → L49 x49_7 x49_4) →
L49 0 x39_4))) → L39 x39_6 x39_4) →
L39 0 0)) ∧
(r3 = 0 → Q (-1))))))))))
set_option maxHeartbeats 4000000 in
set_option maxRecDepth 100000 in
theorem wk_X8_volume (l : Launch) (D : va_G) (cA : Nat → ClassId) (y : Nat) (y_space : Nat) (y_offset : Nat) (y_length : Nat) (ya_units : Nat) (y_units : Nat → Int32) (ya_isThere : Nat) (y_isThere : Nat → Int32) (y_levels : Int) (y_level : Nat) (y_lines : Int) (y_lineLevel : Nat) (y_lineUnits : Nat) (y_lineFrom : Nat) (y_lineMany : Nat) (y_isClosed : Nat) (y_insides : Nat) (y_parent : Nat) (y_isHigh : Nat) (y_inBits : Nat) (y_sides : Int) (y_side : Nat) (y_sideA : Nat) (y_sideB : Nat) (y_lineSpace : Int) (y_wasThere : Nat) (y_leads : Nat) (y_isLed : Nat) (y_isOn : Nat) (y_goesTo : Nat) (y_stream : Nat) (y_filled : Nat) (y_isDone : Nat) (y_isReached : Nat) (y_newUnits : Nat) (y_isNew : Nat) (gi : Int) (mm : Int) (what : Int) (h_y_levels : z_in y_levels) (h_y_lines : z_in y_lines) (h_y_sides : z_in y_sides) (h_y_lineSpace : z_in y_lineSpace) (h_gi : z_in gi) (h_mm : z_in mm) (h_what : z_in what) (Q : Int → Prop) (hv : vc_X8_volume y_units y_isThere gi mm what Q) : Met l yX8_volume wsX8_volume ({ frames := 3, cells := 0, slots := 0, locals := 68 } : Room) (va_Pc [.ref y, .int (z_i gi), .int (z_i mm), .int (z_i what)] (z_B0 D cA [(y, .inr (6, [.ref y_space, .ref y_offset, .ref y_length, .ref ya_units, .ref ya_isThere, .int (z_i y_levels), .ref y_level, .int (z_i y_lines), .ref y_lineLevel, .ref y_lineUnits, .ref y_lineFrom, .ref y_lineMany, .ref y_isClosed, .ref y_insides, .ref y_parent, .ref y_isHigh, .ref y_inBits, .int (z_i y_sides), .ref y_side, .ref y_sideA, .ref y_sideB, .int (z_i y_lineSpace), .ref y_wasThere, .ref y_leads, .ref y_isLed, .ref y_isOn, .ref y_goesTo, .ref y_stream, .ref y_filled, .ref y_isDone, .ref y_isReached, .ref y_newUnits, .ref y_isNew])), (ya_units, .inl (cA 1, 5120, .inl y_units)), (ya_isThere, .inl (cA 3, 5120, .inl y_isThere))])) (va_Ql (z_rl Q) (fun _ _ => True) (fun _ => False)) 0 0 (fun _ => False) := by
  unfold vc_X8_volume at hv
  refine Met.ofW (cc := cX8_volume) (maxL := 10) (ret := (some .long)) (by decide +kernel) rfl ?_
  intro p e s m args below meth c s₁ B hml hv0
  obtain ⟨rfl, hK, hP⟩ := hv0
  have hx := B.exec
  have hb := B.bytes
  have hr := B.returns
  have hts := atoms_spec (ws := wsX8_volume) B.pre
  have hown : s.vm.findClass RX8 = some m.cls := findClass_of_methodNamed B.named
  have hlocks := B.notSynchronized
  have hS : va_S (fun _ : Nat => False) s.heap s.heap [] := va_S.rf
  have hl := lv_entry ([.ref y, .int (z_i gi), .int (z_i mm), .int (z_i what)]) (n := 10) (Nat.le_of_ble_eq_true rfl)
  rw [lg_entry_eq]
  generalize (lg_sl ([.ref y, .int (z_i gi), .int (z_i mm), .int (z_i what)]) ++ List.replicate (10 - (lg_sl ([.ref y, .int (z_i gi), .int (z_i mm), .int (z_i what)])).length) Slot.unset).toArray = ls at hl ⊢
  have hl : lv_has ls 10 [(0, .ref y), (1, .int (z_i gi)), (2, .int (z_i mm)), (3, .int (z_i what))] := hl
  refine lv_iload_n hx hb dX8_volume_0 rfl (lv_at hl 1 rfl) ?_
  refine va_calli (va_runS (As := [.int (z_i gi)]) (rest := []) ⟨hx, hb, hml, hown, hts⟩ (mt_X8_isGrid l D cA gi h_gi) (va_cwS 1 hts gX8_volume_X8_isGrid rfl rfl rfl (by decide +kernel) ⟨Nat.le_of_ble_eq_true rfl, Nat.le_of_ble_eq_true rfl⟩) ⟨z_bl0, fun U hU hW => ⟨rfl, z_b0 hK (hP.sub (ws' := []) [] rfl) hU hW⟩⟩ rfl rfl hl.1 rfl (lv_room (Nat.le_of_ble_eq_true rfl)) dX8_volume_1 ⟨Nat.zero_le _, Nat.zero_le _⟩) hS (fun q _ h => h.elim) (fun q h => h.elim) (fun r0 u t H locs ht hvm hw hB hz1 hk1 hS => ?_)
  obtain ⟨r1, rfl, h_r1, hw⟩ := hw
  have hP := z_P_all hP hk1
  have hv := hv r1 h_r1 hw
  refine lx_if_eq (tgt := 29) hx hb dX8_volume_4 (by decide) h_r1 (fun hc => ?_) (fun hc => ?_)
  · have hv := hv.1 hc
    refine lx_ldc2 (a := (-1)) hx hb hown (hts (.constantLong RX8 189 (-1)) (by decide +kernel)) (by decide) dX8_volume_29 ?_
    exact W.lret (v := z_l (-1)) hx hb hr (fun t ht hW => ⟨⟨z_l (-1), (), rfl, ⟨-1, rfl, (show z_nl (-1) from ⟨by decide, by decide⟩), hv⟩, trivial⟩, hS.F ht⟩) hS.2.2 dX8_volume_32
  · have hv := hv.2 hc
    refine lv_iload_n hx hb dX8_volume_7 rfl (lv_at hl 2 rfl) ?_
    refine lv_sipush (v := z_i (-8192)) hx hb dX8_volume_8 (by decide) ?_
    refine lv_sipush (v := z_i 8192) hx hb dX8_volume_11 (by decide) ?_
    refine va_calli (va_runS (As := [.int (z_i mm), .int (z_i (-8192)), .int (z_i 8192)]) (rest := []) ⟨hx, hb, hml, hown, hts⟩ (mt_X8_in l D cA mm (-8192) 8192 h_mm (show z_in (-8192) from ⟨by decide, by decide⟩) (show z_in 8192 from ⟨by decide, by decide⟩)) (va_cwS 3 hts gX8_volume_X8_in rfl rfl rfl (by decide +kernel) ⟨Nat.le_of_ble_eq_true rfl, Nat.le_of_ble_eq_true rfl⟩) ⟨z_bl0, fun U hU hW => ⟨rfl, z_b0 hK (hP.sub (ws' := []) [] rfl) hU hW⟩⟩ rfl rfl hl.1 rfl (lv_room (Nat.le_of_ble_eq_true rfl)) dX8_volume_14 ⟨Nat.zero_le _, Nat.zero_le _⟩) hS (fun q _ h => h.elim) (fun q h => h.elim) (fun r0 u t H locs ht hvm hw hB hz1 hk1 hS => ?_)
    obtain ⟨r2, rfl, h_r2, hw⟩ := hw
    have hP := z_P_all hP hk1
    have hv := hv r2 h_r2 hw
    refine lx_if_eq (tgt := 29) hx hb dX8_volume_17 (by decide) h_r2 (fun hc => ?_) (fun hc => ?_)
    · have hv := hv.1 hc
      refine lx_ldc2 (a := (-1)) hx hb hown (hts (.constantLong RX8 189 (-1)) (by decide +kernel)) (by decide) dX8_volume_29 ?_
      exact W.lret (v := z_l (-1)) hx hb hr (fun t ht hW => ⟨⟨z_l (-1), (), rfl, ⟨-1, rfl, (show z_nl (-1) from ⟨by decide, by decide⟩), hv⟩, trivial⟩, hS.F ht⟩) hS.2.2 dX8_volume_32
    · have hv := hv.2 hc
      refine lv_iload_n hx hb dX8_volume_20 rfl (lv_at hl 3 rfl) ?_
      refine lv_iconst (v := z_i 0) hx hb dX8_volume_21 rfl ?_
      refine lv_iconst (v := z_i 1) hx hb dX8_volume_22 rfl ?_
      refine va_calli (va_runS (As := [.int (z_i what), .int (z_i 0), .int (z_i 1)]) (rest := []) ⟨hx, hb, hml, hown, hts⟩ (mt_X8_in l D cA what 0 1 h_what (show z_in 0 from ⟨by decide, by decide⟩) (show z_in 1 from ⟨by decide, by decide⟩)) (va_cwS 3 hts gX8_volume_X8_in rfl rfl rfl (by decide +kernel) ⟨Nat.le_of_ble_eq_true rfl, Nat.le_of_ble_eq_true rfl⟩) ⟨z_bl0, fun U hU hW => ⟨rfl, z_b0 hK (hP.sub (ws' := []) [] rfl) hU hW⟩⟩ rfl rfl hl.1 rfl (lv_room (Nat.le_of_ble_eq_true rfl)) dX8_volume_23 ⟨Nat.zero_le _, Nat.zero_le _⟩) hS (fun q _ h => h.elim) (fun q h => h.elim) (fun r0 u t H locs ht hvm hw hB hz1 hk1 hS => ?_)
      obtain ⟨r3, rfl, h_r3, hw⟩ := hw
      have hP := z_P_all hP hk1
      have hv := hv r3 h_r3 hw
      refine lx_if_ne (tgt := 33) hx hb dX8_volume_26 (by decide) h_r3 (fun hc => ?_) (fun hc => ?_)
      · have hv := hv.1 hc
        refine lv_lconst (v := z_l 0) hx hb dX8_volume_33 (by decide) ?_
        refine lv_lstore (lv' := [(4, .long (z_l 0)), (0, .ref y), (1, .int (z_i gi)), (2, .int (z_i mm)), (3, .int (z_i what))]) hx hb dX8_volume_34 hl (by decide) rfl (fun ls hl => ?_)
        refine lv_iconst (v := z_i 0) hx hb dX8_volume_36 rfl ?_
        refine lv_istore (lv' := [(6, .int (z_i 0)), (4, .long (z_l 0)), (0, .ref y), (1, .int (z_i gi)), (2, .int (z_i mm)), (3, .int (z_i what))]) hx hb dX8_volume_37 hl (by decide) rfl (fun ls hl => ?_)
        refine hv (fun (x39_6 : Int) (x39_4 : Int) => ∀ (H : Heap) (locs : List Loc) (ls : Array Slot), va_P D vwCl [(y, .inr (6, [.ref y_space, .ref y_offset, .ref y_length, .ref ya_units, .ref ya_isThere, .int (z_i y_levels), .ref y_level, .int (z_i y_lines), .ref y_lineLevel, .ref y_lineUnits, .ref y_lineFrom, .ref y_lineMany, .ref y_isClosed, .ref y_insides, .ref y_parent, .ref y_isHigh, .ref y_inBits, .int (z_i y_sides), .ref y_side, .ref y_sideA, .ref y_sideB, .int (z_i y_lineSpace), .ref y_wasThere, .ref y_leads, .ref y_isLed, .ref y_isOn, .ref y_goesTo, .ref y_stream, .ref y_filled, .ref y_isDone, .ref y_isReached, .ref y_newUnits, .ref y_isNew])), (ya_units, .inl (cA 1, 5120, .inl y_units)), (ya_isThere, .inl (cA 3, 5120, .inl y_isThere))] H → va_S (fun _ : Nat => False) s.heap H locs → lv_has ls 10 [(6, .int (z_i x39_6)), (4, .long (z_l x39_4)), (0, .ref y), (1, .int (z_i gi)), (2, .int (z_i mm)), (3, .int (z_i what))] → W p l e _ s m _ below meth c H locs 0 0 _ (F0 m 39 ls [])) ?_ _ _ ls hP hS (lv_sub hl [0, 1, 2, 3, 4, 5] rfl)
        intro x39_6 x39_4 h_x39_6 h_x39_4 hv H locs ls hP hS hl
        refine lv_iload hx hb dX8_volume_39 (lv_at hl 0 rfl) ?_
        refine lv_bipush (v := z_i 31) hx hb dX8_volume_41 (by decide) ?_
        refine lx_icmp_ge (tgt := 179) hx hb dX8_volume_43 (by decide) h_x39_6 (show z_in 31 from ⟨by decide, by decide⟩) (fun hc => ?_) (fun hc => ?_)
        · have hv := hv.1 hc
          refine lv_lload hx hb dX8_volume_179 (lv_at hl 1 rfl) ?_
          exact W.lret (v := z_l x39_4) hx hb hr (fun t ht hW => ⟨⟨z_l x39_4, (), rfl, ⟨x39_4, rfl, h_x39_4, hv⟩, trivial⟩, hS.F ht⟩) hS.2.2 dX8_volume_181
        · have hv := hv.2 hc
          refine lv_iconst (v := z_i 0) hx hb dX8_volume_46 rfl ?_
          refine lv_istore (lv' := [(7, .int (z_i 0)), (6, .int (z_i x39_6)), (4, .long (z_l x39_4)), (0, .ref y), (1, .int (z_i gi)), (2, .int (z_i mm)), (3, .int (z_i what))]) hx hb dX8_volume_47 hl (by decide) rfl (fun ls hl => ?_)
          refine hv (fun (x49_7 : Int) (x49_4 : Int) => ∀ (H : Heap) (locs : List Loc) (ls : Array Slot), va_P D vwCl [(y, .inr (6, [.ref y_space, .ref y_offset, .ref y_length, .ref ya_units, .ref ya_isThere, .int (z_i y_levels), .ref y_level, .int (z_i y_lines), .ref y_lineLevel, .ref y_lineUnits, .ref y_lineFrom, .ref y_lineMany, .ref y_isClosed, .ref y_insides, .ref y_parent, .ref y_isHigh, .ref y_inBits, .int (z_i y_sides), .ref y_side, .ref y_sideA, .ref y_sideB, .int (z_i y_lineSpace), .ref y_wasThere, .ref y_leads, .ref y_isLed, .ref y_isOn, .ref y_goesTo, .ref y_stream, .ref y_filled, .ref y_isDone, .ref y_isReached, .ref y_newUnits, .ref y_isNew])), (ya_units, .inl (cA 1, 5120, .inl y_units)), (ya_isThere, .inl (cA 3, 5120, .inl y_isThere))] H → va_S (fun _ : Nat => False) s.heap H locs → lv_has ls 10 [(7, .int (z_i x49_7)), (6, .int (z_i x39_6)), (4, .long (z_l x49_4)), (0, .ref y), (1, .int (z_i gi)), (2, .int (z_i mm)), (3, .int (z_i what))] → W p l e _ s m _ below meth c H locs 0 0 _ (F0 m 49 ls [])) ?_ _ _ ls hP hS (lv_sub hl [0, 1, 2, 3, 4, 5, 6] rfl)
          intro x49_7 x49_4 h_x49_7 h_x49_4 hv H locs ls hP hS hl
          refine lv_iload hx hb dX8_volume_49 (lv_at hl 0 rfl) ?_
          refine lv_bipush (v := z_i 39) hx hb dX8_volume_51 (by decide) ?_
          refine lx_icmp_ge (tgt := 173) hx hb dX8_volume_53 (by decide) h_x49_7 (show z_in 39 from ⟨by decide, by decide⟩) (fun hc => ?_) (fun hc => ?_)
          · have hv := hv.1 hc
            refine lv_iinc (v := z_i (x39_6 + 1)) (lv' := [(6, .int (z_i (x39_6 + 1))), (7, .int (z_i x49_7)), (4, .long (z_l x49_4)), (0, .ref y), (1, .int (z_i gi)), (2, .int (z_i mm)), (3, .int (z_i what))]) hx hb dX8_volume_173 hl (k := 1) rfl (z_i_add _ _) (by decide) rfl (fun ls hl => ?_)
            refine lv_goto (tgt := 39) hx hb dX8_volume_176 (by decide) ?_
            exact hv _ _ ls hP hS (lv_sub hl [0, 2, 3, 4, 5, 6] rfl)
          · have hv := hv.2 hc
            refine lv_aload_n hx hb dX8_volume_56 rfl (lv_at hl 3 rfl) ?_
            refine lv_iload_n hx hb dX8_volume_57 rfl (lv_at hl 4 rfl) ?_
            refine lv_iload hx hb dX8_volume_58 (lv_at hl 1 rfl) ?_
            refine lv_iload hx hb dX8_volume_60 (lv_at hl 0 rfl) ?_
            obtain ⟨hp4, hv⟩ := hv
            obtain ⟨hp5, hv⟩ := hv
            obtain ⟨hp6, hv⟩ := hv
            refine va_calli (va_runV (As := [.int (z_i gi), .int (z_i x39_6), .int (z_i x49_7)]) (rest := []) ⟨hx, hb, hml, hown, hts⟩ (mt_X8_isWhole l D cA y y_space y_offset y_length ya_units ya_isThere y_isThere y_levels y_level y_lines y_lineLevel y_lineUnits y_lineFrom y_lineMany y_isClosed y_insides y_parent y_isHigh y_inBits y_sides y_side y_sideA y_sideB y_lineSpace y_wasThere y_leads y_isLed y_isOn y_goesTo y_stream y_filled y_isDone y_isReached y_newUnits y_isNew gi x39_6 x49_7 h_y_levels h_y_lines h_y_sides h_y_lineSpace h_gi h_x39_6 h_x49_7 hp4 hp5 hp6) (cwV 3 hts gX8_volume_X8_isWhole rfl rfl rfl (by decide +kernel) ⟨Nat.le_of_ble_eq_true rfl, Nat.le_of_ble_eq_true rfl⟩) ⟨z_bl0, va_recv hK hP (ci := 6) (q0 := 0) rfl rfl, fun U hU hW => ⟨rfl, z_b0 hK (hP.sub (ws' := [(y, .inr (6, [.ref y_space, .ref y_offset, .ref y_length, .ref ya_units, .ref ya_isThere, .int (z_i y_levels), .ref y_level, .int (z_i y_lines), .ref y_lineLevel, .ref y_lineUnits, .ref y_lineFrom, .ref y_lineMany, .ref y_isClosed, .ref y_insides, .ref y_parent, .ref y_isHigh, .ref y_inBits, .int (z_i y_sides), .ref y_side, .ref y_sideA, .ref y_sideB, .int (z_i y_lineSpace), .ref y_wasThere, .ref y_leads, .ref y_isLed, .ref y_isOn, .ref y_goesTo, .ref y_stream, .ref y_filled, .ref y_isDone, .ref y_isReached, .ref y_newUnits, .ref y_isNew])), (ya_isThere, .inl (cA 3, 5120, .inl y_isThere))]) [0, 2] rfl) hU hW⟩⟩ rfl rfl hl.1 rfl (lv_room (Nat.le_of_ble_eq_true rfl)) dX8_volume_62 ⟨Nat.zero_le _, Nat.zero_le _⟩) hS (fun q _ h => h.elim) (fun q h => h.elim) (fun r0 u t H locs ht hvm hw hB hz1 hk1 hS => ?_)
            obtain ⟨r7, rfl, h_r7, hw⟩ := hw
            have hP := z_P_all hP hk1
            have hv := hv r7 h_r7 hw
            refine lx_if_eq (tgt := 167) hx hb dX8_volume_65 (by decide) h_r7 (fun hc => ?_) (fun hc => ?_)
            · have hv := hv.1 hc
              refine lv_iinc (v := z_i (x49_7 + 1)) (lv' := [(7, .int (z_i (x49_7 + 1))), (6, .int (z_i x39_6)), (4, .long (z_l x49_4)), (0, .ref y), (1, .int (z_i gi)), (2, .int (z_i mm)), (3, .int (z_i what))]) hx hb dX8_volume_167 hl (k := 0) rfl (z_i_add _ _) (by decide) rfl (fun ls hl => ?_)
              refine lv_goto (tgt := 49) hx hb dX8_volume_170 (by decide) ?_
              exact hv _ _ ls hP hS (lv_sub hl [0, 1, 2, 3, 4, 5, 6] rfl)
            · have hv := hv.2 hc
              refine lv_aload_n hx hb dX8_volume_68 rfl (lv_at hl 3 rfl) ?_
              refine lv_iload_n hx hb dX8_volume_69 rfl (lv_at hl 4 rfl) ?_
              refine lv_iload hx hb dX8_volume_70 (lv_at hl 1 rfl) ?_
              refine lv_iload hx hb dX8_volume_72 (lv_at hl 0 rfl) ?_
              obtain ⟨hp8, hv⟩ := hv
              obtain ⟨hp9, hv⟩ := hv
              obtain ⟨hp10, hv⟩ := hv
              refine va_calli (va_runV (As := [.int (z_i gi), .int (z_i x39_6), .int (z_i x49_7)]) (rest := []) ⟨hx, hb, hml, hown, hts⟩ (mt_X8_h l D cA y y_space y_offset y_length ya_units y_units ya_isThere y_levels y_level y_lines y_lineLevel y_lineUnits y_lineFrom y_lineMany y_isClosed y_insides y_parent y_isHigh y_inBits y_sides y_side y_sideA y_sideB y_lineSpace y_wasThere y_leads y_isLed y_isOn y_goesTo y_stream y_filled y_isDone y_isReached y_newUnits y_isNew gi x39_6 x49_7 h_y_levels h_y_lines h_y_sides h_y_lineSpace h_gi h_x39_6 h_x49_7 hp8 hp9 hp10) (cwV 3 hts gX8_volume_X8_h rfl rfl rfl (by decide +kernel) ⟨Nat.le_of_ble_eq_true rfl, Nat.le_of_ble_eq_true rfl⟩) ⟨z_bl0, va_recv hK hP (ci := 6) (q0 := 0) rfl rfl, fun U hU hW => ⟨rfl, z_b0 hK (hP.sub (ws' := [(y, .inr (6, [.ref y_space, .ref y_offset, .ref y_length, .ref ya_units, .ref ya_isThere, .int (z_i y_levels), .ref y_level, .int (z_i y_lines), .ref y_lineLevel, .ref y_lineUnits, .ref y_lineFrom, .ref y_lineMany, .ref y_isClosed, .ref y_insides, .ref y_parent, .ref y_isHigh, .ref y_inBits, .int (z_i y_sides), .ref y_side, .ref y_sideA, .ref y_sideB, .int (z_i y_lineSpace), .ref y_wasThere, .ref y_leads, .ref y_isLed, .ref y_isOn, .ref y_goesTo, .ref y_stream, .ref y_filled, .ref y_isDone, .ref y_isReached, .ref y_newUnits, .ref y_isNew])), (ya_units, .inl (cA 1, 5120, .inl y_units))]) [0, 1] rfl) hU hW⟩⟩ rfl rfl hl.1 rfl (lv_room (Nat.le_of_ble_eq_true rfl)) dX8_volume_74 ⟨Nat.zero_le _, Nat.zero_le _⟩) hS (fun q _ h => h.elim) (fun q h => h.elim) (fun r0 u t H locs ht hvm hw hB hz1 hk1 hS => ?_)
              obtain ⟨r11, rfl, h_r11, hw⟩ := hw
              have hP := z_P_all hP hk1
              have hv := hv r11 h_r11 hw
              refine lx_i2l hx hb dX8_volume_77 h_r11 ?_
              refine lv_aload_n hx hb dX8_volume_78 rfl (lv_at hl 3 rfl) ?_
              refine lv_iload_n hx hb dX8_volume_79 rfl (lv_at hl 4 rfl) ?_
              refine lv_iload hx hb dX8_volume_80 (lv_at hl 1 rfl) ?_
              refine lv_iload hx hb dX8_volume_82 (lv_at hl 0 rfl) ?_
              refine lv_iconst (v := z_i 1) hx hb dX8_volume_84 rfl ?_
              refine lx_iadd hx hb dX8_volume_85 ?_
              obtain ⟨hr12, hv⟩ := hv
              obtain ⟨hp13, hv⟩ := hv
              obtain ⟨hp14, hv⟩ := hv
              obtain ⟨hp15, hv⟩ := hv
              refine va_calli (va_runV (As := [.int (z_i gi), .int (z_i x39_6), .int (z_i (x49_7 + 1))]) (rest := [.long (z_l r11)]) ⟨hx, hb, hml, hown, hts⟩ (mt_X8_h l D cA y y_space y_offset y_length ya_units y_units ya_isThere y_levels y_level y_lines y_lineLevel y_lineUnits y_lineFrom y_lineMany y_isClosed y_insides y_parent y_isHigh y_inBits y_sides y_side y_sideA y_sideB y_lineSpace y_wasThere y_leads y_isLed y_isOn y_goesTo y_stream y_filled y_isDone y_isReached y_newUnits y_isNew gi x39_6 (x49_7 + 1) h_y_levels h_y_lines h_y_sides h_y_lineSpace h_gi h_x39_6 hr12 hp13 hp14 hp15) (cwV 3 hts gX8_volume_X8_h rfl rfl rfl (by decide +kernel) ⟨Nat.le_of_ble_eq_true rfl, Nat.le_of_ble_eq_true rfl⟩) ⟨z_bl0, va_recv hK hP (ci := 6) (q0 := 0) rfl rfl, fun U hU hW => ⟨rfl, z_b0 hK (hP.sub (ws' := [(y, .inr (6, [.ref y_space, .ref y_offset, .ref y_length, .ref ya_units, .ref ya_isThere, .int (z_i y_levels), .ref y_level, .int (z_i y_lines), .ref y_lineLevel, .ref y_lineUnits, .ref y_lineFrom, .ref y_lineMany, .ref y_isClosed, .ref y_insides, .ref y_parent, .ref y_isHigh, .ref y_inBits, .int (z_i y_sides), .ref y_side, .ref y_sideA, .ref y_sideB, .int (z_i y_lineSpace), .ref y_wasThere, .ref y_leads, .ref y_isLed, .ref y_isOn, .ref y_goesTo, .ref y_stream, .ref y_filled, .ref y_isDone, .ref y_isReached, .ref y_newUnits, .ref y_isNew])), (ya_units, .inl (cA 1, 5120, .inl y_units))]) [0, 1] rfl) hU hW⟩⟩ rfl rfl hl.1 rfl (lv_room (Nat.le_of_ble_eq_true rfl)) dX8_volume_86 ⟨Nat.zero_le _, Nat.zero_le _⟩) hS (fun q _ h => h.elim) (fun q h => h.elim) (fun r0 u t H locs ht hvm hw hB hz1 hk1 hS => ?_)
              obtain ⟨r16, rfl, h_r16, hw⟩ := hw
              have hP := z_P_all hP hk1
              have hv := hv r16 h_r16 hw
              refine lx_i2l hx hb dX8_volume_89 h_r16 ?_
              refine lx_ladd hx hb dX8_volume_90 ?_
              refine lv_aload_n hx hb dX8_volume_91 rfl (lv_at hl 3 rfl) ?_
              refine lv_iload_n hx hb dX8_volume_92 rfl (lv_at hl 4 rfl) ?_
              refine lv_iload hx hb dX8_volume_93 (lv_at hl 1 rfl) ?_
              refine lv_iconst (v := z_i 1) hx hb dX8_volume_95 rfl ?_
              refine lx_iadd hx hb dX8_volume_96 ?_
              refine lv_iload hx hb dX8_volume_97 (lv_at hl 0 rfl) ?_
              obtain ⟨hr17, hv⟩ := hv
              obtain ⟨hp18, hv⟩ := hv
              obtain ⟨hp19, hv⟩ := hv
              obtain ⟨hp20, hv⟩ := hv
              refine va_calli (va_runV (As := [.int (z_i gi), .int (z_i (x39_6 + 1)), .int (z_i x49_7)]) (rest := [.long (z_l (r11 + r16))]) ⟨hx, hb, hml, hown, hts⟩ (mt_X8_h l D cA y y_space y_offset y_length ya_units y_units ya_isThere y_levels y_level y_lines y_lineLevel y_lineUnits y_lineFrom y_lineMany y_isClosed y_insides y_parent y_isHigh y_inBits y_sides y_side y_sideA y_sideB y_lineSpace y_wasThere y_leads y_isLed y_isOn y_goesTo y_stream y_filled y_isDone y_isReached y_newUnits y_isNew gi (x39_6 + 1) x49_7 h_y_levels h_y_lines h_y_sides h_y_lineSpace h_gi hr17 h_x49_7 hp18 hp19 hp20) (cwV 3 hts gX8_volume_X8_h rfl rfl rfl (by decide +kernel) ⟨Nat.le_of_ble_eq_true rfl, Nat.le_of_ble_eq_true rfl⟩) ⟨z_bl0, va_recv hK hP (ci := 6) (q0 := 0) rfl rfl, fun U hU hW => ⟨rfl, z_b0 hK (hP.sub (ws' := [(y, .inr (6, [.ref y_space, .ref y_offset, .ref y_length, .ref ya_units, .ref ya_isThere, .int (z_i y_levels), .ref y_level, .int (z_i y_lines), .ref y_lineLevel, .ref y_lineUnits, .ref y_lineFrom, .ref y_lineMany, .ref y_isClosed, .ref y_insides, .ref y_parent, .ref y_isHigh, .ref y_inBits, .int (z_i y_sides), .ref y_side, .ref y_sideA, .ref y_sideB, .int (z_i y_lineSpace), .ref y_wasThere, .ref y_leads, .ref y_isLed, .ref y_isOn, .ref y_goesTo, .ref y_stream, .ref y_filled, .ref y_isDone, .ref y_isReached, .ref y_newUnits, .ref y_isNew])), (ya_units, .inl (cA 1, 5120, .inl y_units))]) [0, 1] rfl) hU hW⟩⟩ rfl rfl hl.1 rfl (lv_room (Nat.le_of_ble_eq_true rfl)) dX8_volume_99 ⟨Nat.zero_le _, Nat.zero_le _⟩) hS (fun q _ h => h.elim) (fun q h => h.elim) (fun r0 u t H locs ht hvm hw hB hz1 hk1 hS => ?_)
              obtain ⟨r21, rfl, h_r21, hw⟩ := hw
              have hP := z_P_all hP hk1
              have hv := hv r21 h_r21 hw
              refine lx_i2l hx hb dX8_volume_102 h_r21 ?_
              refine lx_ladd hx hb dX8_volume_103 ?_
              refine lv_aload_n hx hb dX8_volume_104 rfl (lv_at hl 3 rfl) ?_
              refine lv_iload_n hx hb dX8_volume_105 rfl (lv_at hl 4 rfl) ?_
              refine lv_iload hx hb dX8_volume_106 (lv_at hl 1 rfl) ?_
              refine lv_iconst (v := z_i 1) hx hb dX8_volume_108 rfl ?_
              refine lx_iadd hx hb dX8_volume_109 ?_
              refine lv_iload hx hb dX8_volume_110 (lv_at hl 0 rfl) ?_
              refine lv_iconst (v := z_i 1) hx hb dX8_volume_112 rfl ?_
              refine lx_iadd hx hb dX8_volume_113 ?_
              obtain ⟨hp22, hv⟩ := hv
              obtain ⟨hp23, hv⟩ := hv
              obtain ⟨hp24, hv⟩ := hv
              refine va_calli (va_runV (As := [.int (z_i gi), .int (z_i (x39_6 + 1)), .int (z_i (x49_7 + 1))]) (rest := [.long (z_l ((r11 + r16) + r21))]) ⟨hx, hb, hml, hown, hts⟩ (mt_X8_h l D cA y y_space y_offset y_length ya_units y_units ya_isThere y_levels y_level y_lines y_lineLevel y_lineUnits y_lineFrom y_lineMany y_isClosed y_insides y_parent y_isHigh y_inBits y_sides y_side y_sideA y_sideB y_lineSpace y_wasThere y_leads y_isLed y_isOn y_goesTo y_stream y_filled y_isDone y_isReached y_newUnits y_isNew gi (x39_6 + 1) (x49_7 + 1) h_y_levels h_y_lines h_y_sides h_y_lineSpace h_gi hr17 hr12 hp22 hp23 hp24) (cwV 3 hts gX8_volume_X8_h rfl rfl rfl (by decide +kernel) ⟨Nat.le_of_ble_eq_true rfl, Nat.le_of_ble_eq_true rfl⟩) ⟨z_bl0, va_recv hK hP (ci := 6) (q0 := 0) rfl rfl, fun U hU hW => ⟨rfl, z_b0 hK (hP.sub (ws' := [(y, .inr (6, [.ref y_space, .ref y_offset, .ref y_length, .ref ya_units, .ref ya_isThere, .int (z_i y_levels), .ref y_level, .int (z_i y_lines), .ref y_lineLevel, .ref y_lineUnits, .ref y_lineFrom, .ref y_lineMany, .ref y_isClosed, .ref y_insides, .ref y_parent, .ref y_isHigh, .ref y_inBits, .int (z_i y_sides), .ref y_side, .ref y_sideA, .ref y_sideB, .int (z_i y_lineSpace), .ref y_wasThere, .ref y_leads, .ref y_isLed, .ref y_isOn, .ref y_goesTo, .ref y_stream, .ref y_filled, .ref y_isDone, .ref y_isReached, .ref y_newUnits, .ref y_isNew])), (ya_units, .inl (cA 1, 5120, .inl y_units))]) [0, 1] rfl) hU hW⟩⟩ rfl rfl hl.1 rfl (lv_room (Nat.le_of_ble_eq_true rfl)) dX8_volume_114 ⟨Nat.zero_le _, Nat.zero_le _⟩) hS (fun q _ h => h.elim) (fun q h => h.elim) (fun r0 u t H locs ht hvm hw hB hz1 hk1 hS => ?_)
              obtain ⟨r25, rfl, h_r25, hw⟩ := hw
              have hP := z_P_all hP hk1
              have hv := hv r25 h_r25 hw
              refine lx_i2l hx hb dX8_volume_117 h_r25 ?_
              refine lx_ladd hx hb dX8_volume_118 ?_
              refine lx_ldc2 (a := 4096) hx hb hown (hts (.constantLong RX8 244 (4096)) (by decide +kernel)) (by decide) dX8_volume_119 ?_
              refine lv_iload_n hx hb dX8_volume_122 rfl (lv_at hl 5 rfl) ?_
              refine lx_i2l hx hb dX8_volume_123 h_mm ?_
              refine lx_lmul hx hb dX8_volume_124 ?_
              refine lx_lsub hx hb dX8_volume_125 ?_
              obtain ⟨hr27, hv⟩ := hv
              refine lx_topl (fun v26 hy28 => ?_)
              have hv := hv v26 hy28
              have h_v26 : z_nl v26 := by rw [hy28]; exact hr27
              refine lv_lstore (lv' := [(8, .long (z_l v26)), (7, .int (z_i x49_7)), (6, .int (z_i x39_6)), (4, .long (z_l x49_4)), (0, .ref y), (1, .int (z_i gi)), (2, .int (z_i mm)), (3, .int (z_i what))]) hx hb dX8_volume_126 hl (by decide) rfl (fun ls hl => ?_)
              refine lv_lload hx hb dX8_volume_128 (lv_at hl 3 rfl) ?_
              refine lv_iload_n hx hb dX8_volume_130 rfl (lv_at hl 7 rfl) ?_
              refine lx_if_ne (tgt := 150) hx hb dX8_volume_131 (by decide) h_what (fun hc => ?_) (fun hc => ?_)
              · have hv := hv.1 hc
                refine lv_lload hx hb dX8_volume_150 (lv_at hl 0 rfl) ?_
                refine lv_lconst (v := z_l 0) hx hb dX8_volume_152 (by decide) ?_
                refine lx_lcmp hx hb dX8_volume_153 h_v26 (show z_nl 0 from ⟨by decide, by decide⟩) ?_
                refine lx_if_ge (tgt := 163) hx hb dX8_volume_154 (by decide) (z_in_cmp _ _) (fun hc => ?_) (fun hc => ?_)
                · have hv := hv.1 (z_cmp_ge.mp hc)
                  refine lv_lconst (v := z_l 0) hx hb dX8_volume_163 (by decide) ?_
                  refine lx_ladd hx hb dX8_volume_164 ?_
                  obtain ⟨hr30, hv⟩ := hv
                  refine lx_topl (fun v29 hy31 => ?_)
                  have hv := hv v29 hy31
                  have h_v29 : z_nl v29 := by rw [hy31]; exact hr30
                  refine lv_lstore (lv' := [(4, .long (z_l v29)), (8, .long (z_l v26)), (7, .int (z_i x49_7)), (6, .int (z_i x39_6)), (0, .ref y), (1, .int (z_i gi)), (2, .int (z_i mm)), (3, .int (z_i what))]) hx hb dX8_volume_165 hl (by decide) rfl (fun ls hl => ?_)
                  refine lv_iinc (v := z_i (x49_7 + 1)) (lv' := [(7, .int (z_i (x49_7 + 1))), (4, .long (z_l v29)), (8, .long (z_l v26)), (6, .int (z_i x39_6)), (0, .ref y), (1, .int (z_i gi)), (2, .int (z_i mm)), (3, .int (z_i what))]) hx hb dX8_volume_167 hl (k := 2) rfl (z_i_add _ _) (by decide) rfl (fun ls hl => ?_)
                  refine lv_goto (tgt := 49) hx hb dX8_volume_170 (by decide) ?_
                  exact hv _ _ ls hP hS (lv_sub hl [0, 3, 1, 4, 5, 6, 7] rfl)
                · have hv := hv.2 (z_cmp_lt.mp hc)
                  refine lv_lload hx hb dX8_volume_157 (lv_at hl 0 rfl) ?_
                  refine lx_lneg hx hb dX8_volume_159 ?_
                  refine lv_goto (tgt := 164) hx hb dX8_volume_160 (by decide) ?_
                  refine lx_ladd hx hb dX8_volume_164 ?_
                  obtain ⟨hr33, hv⟩ := hv
                  refine lx_topl (fun v32 hy34 => ?_)
                  have hv := hv v32 hy34
                  have h_v32 : z_nl v32 := by rw [hy34]; exact hr33
                  refine lv_lstore (lv' := [(4, .long (z_l v32)), (8, .long (z_l v26)), (7, .int (z_i x49_7)), (6, .int (z_i x39_6)), (0, .ref y), (1, .int (z_i gi)), (2, .int (z_i mm)), (3, .int (z_i what))]) hx hb dX8_volume_165 hl (by decide) rfl (fun ls hl => ?_)
                  refine lv_iinc (v := z_i (x49_7 + 1)) (lv' := [(7, .int (z_i (x49_7 + 1))), (4, .long (z_l v32)), (8, .long (z_l v26)), (6, .int (z_i x39_6)), (0, .ref y), (1, .int (z_i gi)), (2, .int (z_i mm)), (3, .int (z_i what))]) hx hb dX8_volume_167 hl (k := 2) rfl (z_i_add _ _) (by decide) rfl (fun ls hl => ?_)
                  refine lv_goto (tgt := 49) hx hb dX8_volume_170 (by decide) ?_
                  exact hv _ _ ls hP hS (lv_sub hl [0, 3, 1, 4, 5, 6, 7] rfl)
              · have hv := hv.2 hc
                refine lv_lload hx hb dX8_volume_134 (lv_at hl 0 rfl) ?_
                refine lv_lconst (v := z_l 0) hx hb dX8_volume_136 (by decide) ?_
                refine lx_lcmp hx hb dX8_volume_137 h_v26 (show z_nl 0 from ⟨by decide, by decide⟩) ?_
                refine lx_if_le (tgt := 146) hx hb dX8_volume_138 (by decide) (z_in_cmp _ _) (fun hc => ?_) (fun hc => ?_)
                · have hv := hv.1 (z_cmp_le.mp hc)
                  refine lv_lconst (v := z_l 0) hx hb dX8_volume_146 (by decide) ?_
                  refine lv_goto (tgt := 164) hx hb dX8_volume_147 (by decide) ?_
                  refine lx_ladd hx hb dX8_volume_164 ?_
                  obtain ⟨hr36, hv⟩ := hv
                  refine lx_topl (fun v35 hy37 => ?_)
                  have hv := hv v35 hy37
                  have h_v35 : z_nl v35 := by rw [hy37]; exact hr36
                  refine lv_lstore (lv' := [(4, .long (z_l v35)), (8, .long (z_l v26)), (7, .int (z_i x49_7)), (6, .int (z_i x39_6)), (0, .ref y), (1, .int (z_i gi)), (2, .int (z_i mm)), (3, .int (z_i what))]) hx hb dX8_volume_165 hl (by decide) rfl (fun ls hl => ?_)
                  refine lv_iinc (v := z_i (x49_7 + 1)) (lv' := [(7, .int (z_i (x49_7 + 1))), (4, .long (z_l v35)), (8, .long (z_l v26)), (6, .int (z_i x39_6)), (0, .ref y), (1, .int (z_i gi)), (2, .int (z_i mm)), (3, .int (z_i what))]) hx hb dX8_volume_167 hl (k := 2) rfl (z_i_add _ _) (by decide) rfl (fun ls hl => ?_)
                  refine lv_goto (tgt := 49) hx hb dX8_volume_170 (by decide) ?_
                  exact hv _ _ ls hP hS (lv_sub hl [0, 3, 1, 4, 5, 6, 7] rfl)
                · have hv := hv.2 (z_cmp_gt.mp hc)
                  refine lv_lload hx hb dX8_volume_141 (lv_at hl 0 rfl) ?_
                  refine lv_goto (tgt := 164) hx hb dX8_volume_143 (by decide) ?_
                  refine lx_ladd hx hb dX8_volume_164 ?_
                  obtain ⟨hr39, hv⟩ := hv
                  refine lx_topl (fun v38 hy40 => ?_)
                  have hv := hv v38 hy40
                  have h_v38 : z_nl v38 := by rw [hy40]; exact hr39
                  refine lv_lstore (lv' := [(4, .long (z_l v38)), (8, .long (z_l v26)), (7, .int (z_i x49_7)), (6, .int (z_i x39_6)), (0, .ref y), (1, .int (z_i gi)), (2, .int (z_i mm)), (3, .int (z_i what))]) hx hb dX8_volume_165 hl (by decide) rfl (fun ls hl => ?_)
                  refine lv_iinc (v := z_i (x49_7 + 1)) (lv' := [(7, .int (z_i (x49_7 + 1))), (4, .long (z_l v38)), (8, .long (z_l v26)), (6, .int (z_i x39_6)), (0, .ref y), (1, .int (z_i gi)), (2, .int (z_i mm)), (3, .int (z_i what))]) hx hb dX8_volume_167 hl (k := 2) rfl (z_i_add _ _) (by decide) rfl (fun ls hl => ?_)
                  refine lv_goto (tgt := 49) hx hb dX8_volume_170 (by decide) ?_
                  exact hv _ _ ls hP hS (lv_sub hl [0, 3, 1, 4, 5, 6, 7] rfl)
      · have hv := hv.2 hc
        refine lx_ldc2 (a := (-1)) hx hb hown (hts (.constantLong RX8 189 (-1)) (by decide +kernel)) (by decide) dX8_volume_29 ?_
        exact W.lret (v := z_l (-1)) hx hb hr (fun t ht hW => ⟨⟨z_l (-1), (), rfl, ⟨-1, rfl, (show z_nl (-1) from ⟨by decide, by decide⟩), hv⟩, trivial⟩, hS.F ht⟩) hS.2.2 dX8_volume_32
set_option maxHeartbeats 4000000 in
set_option maxRecDepth 100000 in
theorem mt_X8_volume (l : Launch) (D : va_G) (cA : Nat → ClassId) (y : Nat) (y_space : Nat) (y_offset : Nat) (y_length : Nat) (ya_units : Nat) (y_units : Nat → Int32) (ya_isThere : Nat) (y_isThere : Nat → Int32) (y_levels : Int) (y_level : Nat) (y_lines : Int) (y_lineLevel : Nat) (y_lineUnits : Nat) (y_lineFrom : Nat) (y_lineMany : Nat) (y_isClosed : Nat) (y_insides : Nat) (y_parent : Nat) (y_isHigh : Nat) (y_inBits : Nat) (y_sides : Int) (y_side : Nat) (y_sideA : Nat) (y_sideB : Nat) (y_lineSpace : Int) (y_wasThere : Nat) (y_leads : Nat) (y_isLed : Nat) (y_isOn : Nat) (y_goesTo : Nat) (y_stream : Nat) (y_filled : Nat) (y_isDone : Nat) (y_isReached : Nat) (y_newUnits : Nat) (y_isNew : Nat) (gi : Int) (mm : Int) (what : Int) (h_y_levels : z_in y_levels) (h_y_lines : z_in y_lines) (h_y_sides : z_in y_sides) (h_y_lineSpace : z_in y_lineSpace) (h_gi : z_in gi) (h_mm : z_in mm) (h_what : z_in what) (hp1 : q_bd y_units) : Met l yX8_volume wsX8_volume ({ frames := 3, cells := 0, slots := 0, locals := 68 } : Room) (va_Pc [.ref y, .int (z_i gi), .int (z_i mm), .int (z_i what)] (z_B0 D cA [(y, .inr (6, [.ref y_space, .ref y_offset, .ref y_length, .ref ya_units, .ref ya_isThere, .int (z_i y_levels), .ref y_level, .int (z_i y_lines), .ref y_lineLevel, .ref y_lineUnits, .ref y_lineFrom, .ref y_lineMany, .ref y_isClosed, .ref y_insides, .ref y_parent, .ref y_isHigh, .ref y_inBits, .int (z_i y_sides), .ref y_side, .ref y_sideA, .ref y_sideB, .int (z_i y_lineSpace), .ref y_wasThere, .ref y_leads, .ref y_isLed, .ref y_isOn, .ref y_goesTo, .ref y_stream, .ref y_filled, .ref y_isDone, .ref y_isReached, .ref y_newUnits, .ref y_isNew])), (ya_units, .inl (cA 1, 5120, .inl y_units)), (ya_isThere, .inl (cA 3, 5120, .inl y_isThere))])) (va_Ql (z_rl (fun (r : Int) => r = if (0 ≤ gi ∧ gi < 4) ∧ -8192 ≤ mm ∧ mm ≤ 8192 ∧ 0 ≤ what ∧ what ≤ 1 then p_vl (q_th y_isThere gi) (q_at y_units y_isThere gi) mm what 1280 else -1)) (fun _ _ => True) (fun _ => False)) 0 0 (fun _ => False) := by
  refine wk_X8_volume l D cA y y_space y_offset y_length ya_units y_units ya_isThere y_isThere y_levels y_level y_lines y_lineLevel y_lineUnits y_lineFrom y_lineMany y_isClosed y_insides y_parent y_isHigh y_inBits y_sides y_side y_sideA y_sideB y_lineSpace y_wasThere y_leads y_isLed y_isOn y_goesTo y_stream y_filled y_isDone y_isReached y_newUnits y_isNew gi mm what h_y_levels h_y_lines h_y_sides h_y_lineSpace h_gi h_mm h_what (fun (r : Int) => r = if (0 ≤ gi ∧ gi < 4) ∧ -8192 ≤ mm ∧ mm ≤ 8192 ∧ 0 ≤ what ∧ what ≤ 1 then p_vl (q_th y_isThere gi) (q_at y_units y_isThere gi) mm what 1280 else -1) ?_
  unfold vc_X8_volume
  rintro r1 _ rfl
  refine ⟨fun q => ?_, fun q => ?_⟩
  · have q := of_decide_eq_false (zb_f q)
    rw [if_neg (by omega)]
  have q := of_decide_eq_true (zb_t q)
  have hg : 0 ≤ gi ∧ gi < 4 := by omega
  rintro r2 _ rfl
  refine ⟨fun q1 => ?_, fun q1 => ?_⟩
  · have q1 := of_decide_eq_false (zb_f q1)
    rw [if_neg (by omega)]
  have q1 := of_decide_eq_true (zb_t q1)
  rintro r3 _ rfl
  refine ⟨fun q2 => ?_, fun q2 => ?_⟩
  · have q2 := of_decide_eq_true (zb_t q2)
    rw [if_pos ⟨hg, q1.1, q1.2, q2⟩]
    have es : ∀ k : Nat, p_vl (q_th y_isThere gi) (q_at y_units y_isThere gi) mm what (k + 1) = p_vl (q_th y_isThere gi) (q_at y_units y_isThere gi) mm what k + (if m_wh (q_th y_isThere gi) k = true ∧ 0 < p_ov (q_at y_units y_isThere gi) mm what k then p_ov (q_at y_units y_isThere gi) mm what k else 0) := fun k => rfl
    have ub : ∀ p, (q_th y_isThere gi) p = true → -8388608 ≤ (q_at y_units y_isThere gi) p ∧ (q_at y_units y_isThere gi) p ≤ 8388608 := fun p hp => q_bd_at hp1 hg.1 hg.2 hp
    have ob : ∀ k : Int, m_wh (q_th y_isThere gi) k = true → p_ov (q_at y_units y_isThere gi) mm what k ≤ 67108864 := fun k hk => by
      have hw := m_wh_spec hk
      have u1 := ub _ hw.1
      have u2 := ub _ hw.2.1
      have u3 := ub _ hw.2.2.1
      have u4 := ub _ hw.2.2.2.1
      unfold p_ov
      split <;> omega
    have pb : ∀ k : Nat, 0 ≤ p_vl (q_th y_isThere gi) (q_at y_units y_isThere gi) mm what k ∧ p_vl (q_th y_isThere gi) (q_at y_units y_isThere gi) mm what k ≤ 67108864 * (k : Int) := fun k => by
      induction k with
      | zero => exact ⟨Int.le_refl _, Int.le_refl _⟩
      | succ k ih =>
        rw [es]
        split
        · next h => have := ob _ h.1; omega
        · omega
    have skip : ∀ k : Nat, (k % 40 = 39 ∨ 1240 ≤ k) → p_vl (q_th y_isThere gi) (q_at y_units y_isThere gi) mm what (k + 1) = p_vl (q_th y_isThere gi) (q_at y_units y_isThere gi) mm what k := fun k hk => by
      rw [es, if_neg (fun h => by have hw := m_wh_spec h.1; omega)]; omega
    have last : ∀ d : Nat, d ≤ 40 → p_vl (q_th y_isThere gi) (q_at y_units y_isThere gi) mm what (1240 + d) = p_vl (q_th y_isThere gi) (q_at y_units y_isThere gi) mm what 1240 := fun d => by
      induction d with
      | zero => intro _; rfl
      | succ d ih => intro h; rw [← ih (by omega)]; exact skip (1240 + d) (by omega)
    intro L hL
    suffices H : ∀ (d i : Nat), i + d = 31 → L (i : Int) (p_vl (q_th y_isThere gi) (q_at y_units y_isThere gi) mm what (40 * i)) from H 31 0 rfl
    intro d
    induction d with
    | zero =>
      intro i hi
      obtain rfl : i = 31 := by omega
      have := pb (40 * 31)
      exact hL _ _ ⟨by omega, by omega⟩ ⟨by omega, by omega⟩ ⟨fun _ => (last 40 (by omega)).symm, fun h => absurd h (by omega)⟩
    | succ d ih =>
      intro i hi
      have b0 := pb (40 * i)
      refine hL _ _ ⟨by omega, by omega⟩ ⟨by omega, by omega⟩ ⟨fun h => absurd h (by omega), fun _ => ?_⟩
      intro L3 hL3
      suffices H : ∀ (d3 j : Nat), j + d3 = 39 → L3 (j : Int) (p_vl (q_th y_isThere gi) (q_at y_units y_isThere gi) mm what (40 * i + j)) from H 39 0 rfl
      intro d3
      induction d3 with
      | zero =>
        intro j hj
        obtain rfl : j = 39 := by omega
        have := pb (40 * i + 39)
        refine hL3 _ _ ⟨by omega, by omega⟩ ⟨by omega, by omega⟩ ⟨fun _ => ?_, fun h => absurd h (by omega)⟩
        have h9 := ih (i + 1) (by omega)
        rw [show 40 * (i + 1) = 40 * i + 39 + 1 by omega, skip (40 * i + 39) (by omega)] at h9
        exact h9
      | succ d3 ih3 =>
        intro j hj
        have b1 := pb (40 * i + j)
        have h9 := ih3 (j + 1) (by omega)
        have e9 : p_vl (q_th y_isThere gi) (q_at y_units y_isThere gi) mm what (40 * i + (j + 1)) = p_vl (q_th y_isThere gi) (q_at y_units y_isThere gi) mm what (40 * i + j) + (if m_wh (q_th y_isThere gi) (40 * (i : Int) + (j : Int)) = true ∧ 0 < p_ov (q_at y_units y_isThere gi) mm what (40 * (i : Int) + (j : Int)) then p_ov (q_at y_units y_isThere gi) mm what (40 * (i : Int) + (j : Int)) else 0) := es (40 * i + j)
        rw [e9] at h9
        refine hL3 _ _ ⟨by omega, by omega⟩ ⟨by omega, by omega⟩ ⟨fun h => absurd h (by omega), fun _ => ⟨hg, ⟨by omega, by omega⟩, ⟨by omega, by omega⟩, ?_⟩⟩
        rintro r7 _ rfl
        refine ⟨fun q3 => ?_, fun q3 => ⟨hg, ⟨by omega, by omega⟩, ⟨by omega, by omega⟩, ?_⟩⟩
        · rw [if_neg (fun h => by rw [zb_f q3] at h; exact absurd h.1 (by decide)), Int.add_zero] at h9; exact h9
        · have q3 := zb_t q3
          have hw := m_wh_spec q3
          have u1 := ub _ hw.1
          have u2 := ub _ hw.2.1
          have u3 := ub _ hw.2.2.1
          have u4 := ub _ hw.2.2.2.1
          have ew : p_ov (q_at y_units y_isThere gi) mm what (40 * (i : Int) + (j : Int)) = (if what = 0 then 1 else -1) * ((q_at y_units y_isThere gi) (40 * (i : Int) + (j : Int)) + (q_at y_units y_isThere gi) (40 * (i : Int) + (j : Int) + 1) + (q_at y_units y_isThere gi) (40 * (i : Int) + (j : Int) + 40) + (q_at y_units y_isThere gi) (40 * (i : Int) + (j : Int) + 40 + 1) - 4096 * mm) := rfl
          rw [q_at_t hw.1, q_at_t hw.2.1, q_at_t hw.2.2.1, q_at_t hw.2.2.2.1] at ew
          rw [q_at_t hw.1] at u1
          rw [q_at_t hw.2.1] at u2
          rw [q_at_t hw.2.2.1] at u3
          rw [q_at_t hw.2.2.2.1] at u4
          rintro r11 _ h11
          rw [← h11] at ew u1
          refine ⟨⟨by omega, by omega⟩, hg, ⟨by omega, by omega⟩, ⟨by omega, by omega⟩, ?_⟩
          rintro r16 _ h16
          rw [show 40 * (i : Int) + ((j : Int) + 1) = 40 * (i : Int) + (j : Int) + 1 by omega] at h16
          rw [← h16] at ew u2
          refine ⟨⟨by omega, by omega⟩, hg, ⟨by omega, by omega⟩, ⟨by omega, by omega⟩, ?_⟩
          rintro r21 _ h21
          rw [show 40 * ((i : Int) + 1) + (j : Int) = 40 * (i : Int) + (j : Int) + 40 by omega] at h21
          rw [← h21] at ew u3
          refine ⟨hg, ⟨by omega, by omega⟩, ⟨by omega, by omega⟩, ?_⟩
          rintro r25 _ h25
          rw [show 40 * ((i : Int) + 1) + ((j : Int) + 1) = 40 * (i : Int) + (j : Int) + 40 + 1 by omega] at h25
          rw [← h25] at ew u4
          refine ⟨⟨by omega, by omega⟩, ?_⟩
          rintro v26 h26
          rw [← h26] at ew
          rw [ew] at h9
          refine ⟨fun qw => ?_, fun qw => ?_⟩
          · rw [if_neg qw] at h9
            refine ⟨fun a => ⟨⟨by omega, by omega⟩, ?_⟩, fun a => ⟨⟨by omega, by omega⟩, ?_⟩⟩
            · rintro v29 rfl
              rw [if_neg (fun h => by have := h.2; omega)] at h9; exact h9
            · rintro v32 rfl
              rw [if_pos ⟨q3, by omega⟩, show (-1) * v26 = -v26 by omega] at h9; exact h9
          · rw [if_pos qw] at h9
            refine ⟨fun a => ⟨⟨by omega, by omega⟩, ?_⟩, fun a => ⟨⟨by omega, by omega⟩, ?_⟩⟩
            · rintro v29 rfl
              rw [if_neg (fun h => by have := h.2; omega)] at h9; exact h9
            · rintro v32 rfl
              rw [if_pos ⟨q3, by omega⟩, Int.one_mul] at h9; exact h9
  · have q2 := of_decide_eq_false (zb_f q2)
    rw [if_neg (by omega)]
