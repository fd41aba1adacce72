theorem m_smK_b {T : Int → Bool} {U : Int → Int} {n : Int} (hU : ∀ p, T p = true → -8388608 ≤ U p ∧ U p ≤ 8388608) (k : Nat) : 0 ≤ (m_smK T U n k).2 ∧ (m_smK T U n k).2 ≤ k ∧ -8388608 * (m_smK T U n k).2 ≤ (m_smK T U n k).1 ∧ (m_smK T U n k).1 ≤ 8388608 * (m_smK T U n k).2 := by
  induction k with
  | zero => simp [m_smK]
  | succ k ih =>
    unfold m_smK
    split
    · exact ⟨ih.1, by omega, ih.2.2.1, ih.2.2.2⟩
    · next h =>
      have := hU _ (m_nb_th h).1
      dsimp only
      omega
theorem z_mul_b {w x : Int} (hw : 0 ≤ w) (h1 : -8388608 ≤ x) (h2 : x ≤ 8388608) : -8388608 * w ≤ w * x ∧ w * x ≤ 8388608 * w := by
  have a := Int.mul_le_mul_of_nonneg_left h1 hw
  have b := Int.mul_le_mul_of_nonneg_left h2 hw
  constructor
  · rw [Int.mul_comm (-8388608) w]; exact a
  · rw [Int.mul_comm 8388608 w]; exact b
theorem m_ne_b {a n : Int} (hn : 0 < n) (h1 : -8388608 * n ≤ a) (h2 : a ≤ 8388608 * n) : -8388608 ≤ m_ne a n ∧ m_ne a n ≤ 8388608 := by
  have e := Int.mul_ediv_add_emod a n
  have l1 : -8388608 ≤ a / n := by rw [Int.le_ediv_iff_mul_le hn]; exact h1
  have l2 : a / n ≤ 8388608 := by
    have := Int.ediv_le_ediv hn h2
    rw [Int.mul_ediv_cancel _ (by omega : n ≠ 0)] at this
    exact this
  unfold m_ne
  split
  · next h =>
    have hm := Int.emod_lt_of_pos a hn
    refine ⟨by omega, ?_⟩
    rcases Int.lt_or_eq_of_le l2 with q | q
    · omega
    · rw [q, Int.mul_comm] at e
      omega
  · exact ⟨l1, l2⟩
theorem m_sm_b {T : Int → Bool} {U : Int → Int} {n w : Int} (hU : ∀ p, T p = true → -8388608 ≤ U p ∧ U p ≤ 8388608) (hn : T n = true) (hw : 0 < w) : -8388608 ≤ m_sm T U n w ∧ m_sm T U n w ≤ 8388608 := by
  have h := m_smK_b (n := n) hU 4
  have a := z_mul_b (by omega : 0 ≤ w) (hU n hn).1 (hU n hn).2
  exact m_ne_b (by omega) (by rw [Int.mul_add]; omega) (by rw [Int.mul_add]; omega)
def vc_X2_smoothed (g_units : Nat → Int32) (n : Int) (weight : Int) (Q : Int → Prop) : Prop :=
(∀ (r1 : Int), z_in r1 → (r1 = g_at g_units n) → z_nl (weight * r1) ∧ (∀ v2 : Int, v2 = weight * r1 → (∀ L16 : Int → Int → Int → Prop,
(∀ (x16_6 : Int) (x16_5 : Int) (x16_3 : Int), z_in x16_6 → z_in x16_5 → z_nl x16_3 → ((x16_6 ≥ 8 → (0 < x16_5 ∧ x16_5 ≤ 100000) ∧ (-4611686018427387904 ≤ x16_3 ∧ x16_3 ≤ 4611686018427387904) ∧ (∀ (r7 : Int), z_nl r7 → (r7 = m_ne x16_3 x16_5) → z_in r7 ∧ Q r7)) ∧
(x16_6 < 8 → (0 ≤ n ∧ n < 1280) ∧ (0 ≤ x16_6 ∧ x16_6 < 8) ∧ (∀ (r11 : Int), z_in r11 → (r11 = m_nb (g_th g_units) n x16_6) → ((r11 = -1 → L16 (x16_6 + 2) x16_5 x16_3) ∧
(r11 ≠ -1 → (∀ (r12 : Int), z_in r12 → (r12 = g_at g_units r11) → z_nl (x16_3 + r12) ∧ (∀ v13 : Int, v13 = x16_3 + r12 → L16 (x16_6 + 2) (x16_5 + 1) v13))))))) → L16 x16_6 x16_5 x16_3) →
L16 1 weight v2)))
set_option maxHeartbeats 4000000 in
set_option maxRecDepth 100000 in
theorem wk_X2_smoothed (l : Launch) (D : va_G) (cA : Nat → ClassId) (t1 t2 : Nat) (g : Nat) (ga_units : Nat) (g_units : Nat → Int32) (ga_lengths : Nat) (g_lengths : Nat → Int32) (ga_offsets : Nat) (g_offsets : Nat → Int32) (g_step : Int) (n : Int) (weight : Int) (h_g_step : z_in g_step) (h_n : z_in n) (h_weight : z_in weight) (Q : Int → Prop) (hv : vc_X2_smoothed g_units n weight Q) : Met l yX2_smoothed wsX2_smoothed ({ frames := 3, cells := 0, slots := 0, locals := 66 } : Room) (va_Pc [.ref g, .int (z_i n), .int (z_i weight)] (z_B1 D cA t1 t2 [(g, .inr (1, [.ref ga_units, .ref ga_lengths, .ref ga_offsets, .int (z_i g_step)])), (ga_units, .inl (cA 1, 1280, .inl g_units)), (ga_lengths, .inl (cA 1, 32, .inl g_lengths)), (ga_offsets, .inl (cA 1, 32, .inl g_offsets))])) (va_Qi (z_ri Q) (fun _ _ => True) (fun _ => False)) 0 0 (fun _ => False) := by
  unfold vc_X2_smoothed at hv
  refine Met.ofW (cc := cX2_smoothed) (maxL := 8) (ret := (some .int)) (by decide +kernel) rfl ?_
  intro p e s m args below meth c s₁ B hml hv0
  obtain ⟨rfl, ⟨hK, hP⟩, hST⟩ := hv0
  have hx := B.exec
  have hb := B.bytes
  have hr := B.returns
  have hts := atoms_spec (ws := wsX2_smoothed) B.pre
  have hown : s.vm.findClass RX2 = some m.cls := findClass_of_methodNamed B.named
  have hlocks := B.notSynchronized
  have hS : va_S (fun _ : Nat => False) s.heap s.heap [] := va_S.rf
  have hl := lv_entry ([.ref g, .int (z_i n), .int (z_i weight)]) (n := 8) (Nat.le_of_ble_eq_true rfl)
  rw [lg_entry_eq]
  generalize (lg_sl ([.ref g, .int (z_i n), .int (z_i weight)]) ++ List.replicate (8 - (lg_sl ([.ref g, .int (z_i n), .int (z_i weight)])).length) Slot.unset).toArray = ls at hl ⊢
  have hl : lv_has ls 8 [(0, .ref g), (1, .int (z_i n)), (2, .int (z_i weight))] := hl
  refine lv_iload_n hx hb dX2_smoothed_0 rfl (lv_at hl 2 rfl) ?_
  refine lx_i2l hx hb dX2_smoothed_1 h_weight ?_
  refine lv_aload_n hx hb dX2_smoothed_2 rfl (lv_at hl 0 rfl) ?_
  refine lv_iload_n hx hb dX2_smoothed_3 rfl (lv_at hl 1 rfl) ?_
  refine va_calli (va_runV (As := [.int (z_i n)]) (rest := [.long (z_l weight)]) ⟨hx, hb, hml, hown, hts⟩ (mt_X2_unitsOf l D cA g ga_units g_units ga_lengths g_lengths ga_offsets g_offsets g_step n h_g_step h_n) (cwV 1 hts gX2_smoothed_X2_unitsOf rfl rfl rfl (by decide +kernel) ⟨Nat.le_of_ble_eq_true rfl, Nat.le_of_ble_eq_true rfl⟩) ⟨z_bl0, va_recv hK hP (ci := 1) (q0 := 0) rfl rfl, fun U hU hW => ⟨rfl, z_b0 hK hP hU hW⟩⟩ rfl rfl hl.1 rfl (lv_room (Nat.le_of_ble_eq_true rfl)) dX2_smoothed_4 ⟨Nat.zero_le _, Nat.zero_le _⟩) hS (fun q _ h => h.elim) (fun q h => h.elim) (fun r0 u t H locs ht hvm hw hB hz1 hk1 hS => ?_)
  obtain ⟨r1, rfl, h_r1, hw⟩ := hw
  have hP := z_P_all hP hk1
  have hv := hv r1 h_r1 hw
  refine lx_i2l hx hb dX2_smoothed_7 h_r1 ?_
  refine lx_lmul hx hb dX2_smoothed_8 ?_
  obtain ⟨hr3, hv⟩ := hv
  refine lx_topl (fun v2 hy4 => ?_)
  have hv := hv v2 hy4
  have h_v2 : z_nl v2 := by rw [hy4]; exact hr3
  refine lv_lstore_n (lv' := [(3, .long (z_l v2)), (0, .ref g), (1, .int (z_i n)), (2, .int (z_i weight))]) hx hb dX2_smoothed_9 rfl hl (by decide) rfl (fun ls hl => ?_)
  refine lv_iload_n hx hb dX2_smoothed_10 rfl (lv_at hl 3 rfl) ?_
  refine lv_istore (lv' := [(5, .int (z_i weight)), (3, .long (z_l v2)), (0, .ref g), (1, .int (z_i n)), (2, .int (z_i weight))]) hx hb dX2_smoothed_11 hl (by decide) rfl (fun ls hl => ?_)
  refine lv_iconst (v := z_i 1) hx hb dX2_smoothed_13 rfl ?_
  refine lv_istore (lv' := [(6, .int (z_i 1)), (5, .int (z_i weight)), (3, .long (z_l v2)), (0, .ref g), (1, .int (z_i n)), (2, .int (z_i weight))]) hx hb dX2_smoothed_14 hl (by decide) rfl (fun ls hl => ?_)
  refine hv (fun (x16_6 : Int) (x16_5 : Int) (x16_3 : Int) => ∀ (H : Heap) (locs : List Loc) (ls : Array Slot), va_P D vwCl [(g, .inr (1, [.ref ga_units, .ref ga_lengths, .ref ga_offsets, .int (z_i g_step)])), (ga_units, .inl (cA 1, 1280, .inl g_units)), (ga_lengths, .inl (cA 1, 32, .inl g_lengths)), (ga_offsets, .inl (cA 1, 32, .inl g_offsets))] H → va_S (fun _ : Nat => False) s.heap H locs → lv_has ls 8 [(6, .int (z_i x16_6)), (5, .int (z_i x16_5)), (3, .long (z_l x16_3)), (0, .ref g), (1, .int (z_i n))] → W p l e _ s m _ below meth c H locs 0 0 _ (F0 m 16 ls [])) ?_ _ _ ls hP hS (lv_sub hl [0, 1, 2, 3, 4] rfl)
  intro x16_6 x16_5 x16_3 h_x16_6 h_x16_5 h_x16_3 hv H locs ls hP hS hl
  refine lv_iload hx hb dX2_smoothed_16 (lv_at hl 0 rfl) ?_
  refine lv_bipush (v := z_i 8) hx hb dX2_smoothed_18 (by decide) ?_
  refine lx_icmp_ge (tgt := 57) hx hb dX2_smoothed_20 (by decide) h_x16_6 (show z_in 8 from ⟨by decide, by decide⟩) (fun hc => ?_) (fun hc => ?_)
  · have hv := hv.1 hc
    refine lv_lload_n hx hb dX2_smoothed_57 rfl (lv_at hl 2 rfl) ?_
    refine lv_iload hx hb dX2_smoothed_58 (lv_at hl 1 rfl) ?_
    refine lx_i2l hx hb dX2_smoothed_60 h_x16_5 ?_
    obtain ⟨hp5, hv⟩ := hv
    obtain ⟨hp6, hv⟩ := hv
    refine va_calll (va_runS (As := [.long (z_l x16_3), .long (z_l x16_5)]) (rest := []) ⟨hx, hb, hml, hown, hts⟩ (mt_X2_nearestEven l D cA x16_3 x16_5 h_x16_3 (z_in_nl h_x16_5) hp5 hp6) (va_cwS 2 hts gX2_smoothed_X2_nearestEven rfl rfl rfl (by decide +kernel) ⟨Nat.le_of_ble_eq_true rfl, Nat.le_of_ble_eq_true rfl⟩) ⟨z_bl0, fun U hU hW => ⟨rfl, z_b0 hK (hP.sub (ws' := []) [] rfl) hU hW⟩⟩ rfl rfl hl.1 rfl (lv_room (Nat.le_of_ble_eq_true rfl)) dX2_smoothed_61 ⟨Nat.zero_le _, Nat.zero_le _⟩) hS (fun q _ h => h.elim) (fun q h => h.elim) (fun r0 u t H locs ht hvm hw hB hz1 hk1 hS => ?_)
    obtain ⟨r7, rfl, h_r7, hw⟩ := hw
    have hP := z_P_all hP hk1
    have hv := hv r7 h_r7 hw
    refine lx_l2i hx hb dX2_smoothed_64 ?_
    obtain ⟨hr8, hv⟩ := hv
    exact W.iret (v := z_i r7) hx hb hr (fun t ht hW => ⟨⟨z_i r7, (), rfl, ⟨r7, rfl, hr8, hv⟩, trivial⟩, hS.F ht⟩) hS.2.2 dX2_smoothed_65
  · have hv := hv.2 hc
    refine lv_aload_n hx hb dX2_smoothed_23 rfl (lv_at hl 3 rfl) ?_
    refine lv_iload_n hx hb dX2_smoothed_24 rfl (lv_at hl 4 rfl) ?_
    refine lv_iload hx hb dX2_smoothed_25 (lv_at hl 0 rfl) ?_
    obtain ⟨hp9, hv⟩ := hv
    obtain ⟨hp10, hv⟩ := hv
    refine va_calli (va_runV (As := [.int (z_i n), .int (z_i x16_6)]) (rest := []) ⟨hx, hb, hml, hown, hts⟩ (mt_X2_neighbour l D cA t1 t2 g ga_units g_units ga_lengths g_lengths ga_offsets g_offsets g_step n x16_6 h_g_step h_n h_x16_6 hp9 hp10) (cwV 2 hts gX2_smoothed_X2_neighbour rfl rfl rfl (by decide +kernel) ⟨Nat.le_of_ble_eq_true rfl, Nat.le_of_ble_eq_true rfl⟩) ⟨z_bl1, va_recv hK hP (ci := 1) (q0 := 0) rfl rfl, fun U hU hW => ⟨rfl, z_b1 hK hP (hST.at hS (fun _ h => h.elim)) hU hW⟩⟩ rfl rfl hl.1 rfl (lv_room (Nat.le_of_ble_eq_true rfl)) dX2_smoothed_27 ⟨Nat.zero_le _, Nat.zero_le _⟩) hS (fun q _ h => h.elim) (fun q h => h.elim) (fun r0 u t H locs ht hvm hw hB hz1 hk1 hS => ?_)
    obtain ⟨r11, rfl, h_r11, hw⟩ := hw
    have hP := z_P_all hP hk1
    have hv := hv r11 h_r11 hw
    refine lv_istore (lv' := [(7, .int (z_i r11)), (6, .int (z_i x16_6)), (5, .int (z_i x16_5)), (3, .long (z_l x16_3)), (0, .ref g), (1, .int (z_i n))]) hx hb dX2_smoothed_30 hl (by decide) rfl (fun ls hl => ?_)
    refine lv_iload hx hb dX2_smoothed_32 (lv_at hl 0 rfl) ?_
    refine lv_iconst (v := z_i (-1)) hx hb dX2_smoothed_34 rfl ?_
    refine lx_icmp_eq (tgt := 51) hx hb dX2_smoothed_35 (by decide) h_r11 (show z_in (-1) from ⟨by decide, by decide⟩) (fun hc => ?_) (fun hc => ?_)
    · have hv := hv.1 hc
      refine lv_iinc (v := z_i (x16_6 + 2)) (lv' := [(6, .int (z_i (x16_6 + 2))), (7, .int (z_i r11)), (5, .int (z_i x16_5)), (3, .long (z_l x16_3)), (0, .ref g), (1, .int (z_i n))]) hx hb dX2_smoothed_51 hl (k := 1) rfl (z_i_add _ _) (by decide) rfl (fun ls hl => ?_)
      refine lv_goto (tgt := 16) hx hb dX2_smoothed_54 (by decide) ?_
      exact hv _ _ ls hP hS (lv_sub hl [0, 2, 3, 4, 5] rfl)
    · have hv := hv.2 hc
      refine lv_lload_n hx hb dX2_smoothed_38 rfl (lv_at hl 3 rfl) ?_
      refine lv_aload_n hx hb dX2_smoothed_39 rfl (lv_at hl 4 rfl) ?_
      refine lv_iload hx hb dX2_smoothed_40 (lv_at hl 0 rfl) ?_
      refine va_calli (va_runV (As := [.int (z_i r11)]) (rest := [.long (z_l x16_3)]) ⟨hx, hb, hml, hown, hts⟩ (mt_X2_unitsOf l D cA g ga_units g_units ga_lengths g_lengths ga_offsets g_offsets g_step r11 h_g_step h_r11) (cwV 1 hts gX2_smoothed_X2_unitsOf rfl rfl rfl (by decide +kernel) ⟨Nat.le_of_ble_eq_true rfl, Nat.le_of_ble_eq_true rfl⟩) ⟨z_bl0, va_recv hK hP (ci := 1) (q0 := 0) rfl rfl, fun U hU hW => ⟨rfl, z_b0 hK hP hU hW⟩⟩ rfl rfl hl.1 rfl (lv_room (Nat.le_of_ble_eq_true rfl)) dX2_smoothed_42 ⟨Nat.zero_le _, Nat.zero_le _⟩) hS (fun q _ h => h.elim) (fun q h => h.elim) (fun r0 u t H locs ht hvm hw hB hz1 hk1 hS => ?_)
      obtain ⟨r12, rfl, h_r12, hw⟩ := hw
      have hP := z_P_all hP hk1
      have hv := hv r12 h_r12 hw
      refine lx_i2l hx hb dX2_smoothed_45 h_r12 ?_
      refine lx_ladd hx hb dX2_smoothed_46 ?_
      obtain ⟨hr14, hv⟩ := hv
      refine lx_topl (fun v13 hy15 => ?_)
      have hv := hv v13 hy15
      have h_v13 : z_nl v13 := by rw [hy15]; exact hr14
      refine lv_lstore_n (lv' := [(3, .long (z_l v13)), (7, .int (z_i r11)), (6, .int (z_i x16_6)), (5, .int (z_i x16_5)), (0, .ref g), (1, .int (z_i n))]) hx hb dX2_smoothed_47 rfl hl (by decide) rfl (fun ls hl => ?_)
      refine lv_iinc (v := z_i (x16_5 + 1)) (lv' := [(5, .int (z_i (x16_5 + 1))), (3, .long (z_l v13)), (7, .int (z_i r11)), (6, .int (z_i x16_6)), (0, .ref g), (1, .int (z_i n))]) hx hb dX2_smoothed_48 hl (k := 3) rfl (z_i_add _ _) (by decide) rfl (fun ls hl => ?_)
      refine lv_iinc (v := z_i (x16_6 + 2)) (lv' := [(6, .int (z_i (x16_6 + 2))), (5, .int (z_i (x16_5 + 1))), (3, .long (z_l v13)), (7, .int (z_i r11)), (0, .ref g), (1, .int (z_i n))]) hx hb dX2_smoothed_51 hl (k := 3) rfl (z_i_add _ _) (by decide) rfl (fun ls hl => ?_)
      refine lv_goto (tgt := 16) hx hb dX2_smoothed_54 (by decide) ?_
      exact hv _ _ ls hP hS (lv_sub hl [0, 1, 2, 4, 5] rfl)
set_option maxHeartbeats 4000000 in
set_option maxRecDepth 100000 in
theorem mt_X2_smoothed (l : Launch) (D : va_G) (cA : Nat → ClassId) (t1 t2 : Nat) (g : Nat) (ga_units : Nat) (g_units : Nat → Int32) (ga_lengths : Nat) (g_lengths : Nat → Int32) (ga_offsets : Nat) (g_offsets : Nat → Int32) (g_step : Int) (n : Int) (weight : Int) (h_g_step : z_in g_step) (h_n : z_in n) (h_weight : z_in weight) (hp1 : 0 ≤ n ∧ n < 1280) (hp2 : g_ok g_units) (hp3 : g_th g_units n = true) (hp4 : 1 ≤ weight ∧ weight ≤ 1000) : Met l yX2_smoothed wsX2_smoothed ({ frames := 3, cells := 0, slots := 0, locals := 66 } : Room) (va_Pc [.ref g, .int (z_i n), .int (z_i weight)] (z_B1 D cA t1 t2 [(g, .inr (1, [.ref ga_units, .ref ga_lengths, .ref ga_offsets, .int (z_i g_step)])), (ga_units, .inl (cA 1, 1280, .inl g_units)), (ga_lengths, .inl (cA 1, 32, .inl g_lengths)), (ga_offsets, .inl (cA 1, 32, .inl g_offsets))])) (va_Qi (z_ri (fun (r : Int) => r = m_sm (g_th g_units) (g_at g_units) n weight)) (fun _ _ => True) (fun _ => False)) 0 0 (fun _ => False) := by
  refine wk_X2_smoothed l D cA t1 t2 g ga_units g_units ga_lengths g_lengths ga_offsets g_offsets g_step n weight h_g_step h_n h_weight (fun (r : Int) => r = m_sm (g_th g_units) (g_at g_units) n weight) ?_
  unfold vc_X2_smoothed
  have hU : ∀ p, g_th g_units p = true → -8388608 ≤ g_at g_units p ∧ g_at g_units p ≤ 8388608 := fun p h => g_ok_at hp2 h
  have hm := z_mul_b (by omega : 0 ≤ weight) (hU n hp3).1 (hU n hp3).2
  rintro r1 h1 rfl
  refine ⟨⟨by omega, by omega⟩, ?_⟩
  rintro v rfl
  intro L hL
  suffices H : ∀ (d k : Nat), k + d = 4 → L (2 * (k : Int) + 1) (weight + (m_smK (g_th g_units) (g_at g_units) n k).2) (weight * g_at g_units n + (m_smK (g_th g_units) (g_at g_units) n k).1) by
    have := H 4 0 rfl
    simpa [m_smK] using this
  intro d
  induction d with
  | zero =>
    intro k hk
    have hb := m_smK_b (n := n) hU k
    have hk4 : k = 4 := by omega
    subst hk4
    refine hL _ _ _ ⟨by omega, by omega⟩ ⟨by omega, by omega⟩ ⟨by omega, by omega⟩ ⟨fun _ => ⟨⟨by omega, by omega⟩, ⟨by omega, by omega⟩, ?_⟩, fun h => absurd h (by omega)⟩
    rintro r5 h5 rfl
    have hs := m_sm_b (n := n) (w := weight) hU hp3 (by omega)
    exact ⟨⟨by unfold m_sm at hs; omega, by unfold m_sm at hs; omega⟩, rfl⟩
  | succ d ih =>
    intro k hk
    have hb := m_smK_b (n := n) hU k
    refine hL _ _ _ ⟨by omega, by omega⟩ ⟨by omega, by omega⟩ ⟨by omega, by omega⟩ ⟨fun h => absurd h (by omega), fun h => ⟨hp1, ⟨by omega, h⟩, ?_⟩⟩
    rintro r9 h9 rfl
    have hi := ih (k + 1) (by omega)
    unfold m_smK at hi
    refine ⟨fun q => ?_, fun q => ?_⟩
    · rw [if_pos q] at hi
      have e : 2 * ((k + 1 : Nat) : Int) + 1 = 2 * (k : Int) + 1 + 2 := by omega
      rw [e] at hi
      exact hi
    · rintro r10 h10 rfl
      rw [if_neg q] at hi
      have hq := hU _ (m_nb_th q).1
      refine ⟨⟨by omega, by omega⟩, ?_⟩
      rintro v11 rfl
      have e : 2 * ((k + 1 : Nat) : Int) + 1 = 2 * (k : Int) + 1 + 2 := by omega
      rw [e] at hi
      dsimp only at hi
      rw [← Int.add_assoc, ← Int.add_assoc] at hi
      exact hi
def vc_X2_isInRow (g_lengths : Nat → Int32) (g_offsets : Nat → Int32) (i : Int) (j : Int) (Q : Int → Prop) : Prop :=
((i < 0 → Q 0) ∧
(i ≥ 0 → ((i ≥ 32 → Q 0) ∧
(i < 32 → ((j < 0 → Q 0) ∧
(j ≥ 0 → ((j < 40 → (0 ≤ i ∧ i < 32) ∧ ((j < z_g g_offsets i → Q 0) ∧
(j ≥ z_g g_offsets i → z_in ((z_g g_offsets i) + (z_g g_lengths i)) ∧ ((j ≥ (z_g g_offsets i) + (z_g g_lengths i) → Q 0) ∧
(j < (z_g g_offsets i) + (z_g g_lengths i) → Q 1))))) ∧
(j ≥ 40 → Q 0))))))))
set_option maxHeartbeats 4000000 in
set_option maxRecDepth 100000 in
theorem wk_X2_isInRow (l : Launch) (D : va_G) (cA : Nat → ClassId) (g : Nat) (ga_units : Nat) (g_units : Nat → Int32) (ga_lengths : Nat) (g_lengths : Nat → Int32) (ga_offsets : Nat) (g_offsets : Nat → Int32) (g_step : Int) (i : Int) (j : Int) (h_g_step : z_in g_step) (h_i : z_in i) (h_j : z_in j) (Q : Int → Prop) (hv : vc_X2_isInRow g_lengths g_offsets i j Q) : Met l yX2_isInRow wsX2_isInRow ({ frames := 0, cells := 0, slots := 0, locals := 0 } : Room) (va_Pc [.ref g, .int (z_i i), .int (z_i j)] (z_B0 D cA [(g, .inr (1, [.ref ga_units, .ref ga_lengths, .ref ga_offsets, .int (z_i g_step)])), (ga_units, .inl (cA 1, 1280, .inl g_units)), (ga_lengths, .inl (cA 1, 32, .inl g_lengths)), (ga_offsets, .inl (cA 1, 32, .inl g_offsets))])) (va_Qi (z_ri Q) (fun _ _ => True) (fun _ => False)) 0 0 (fun _ => False) := by
  unfold vc_X2_isInRow at hv
  refine Met.ofW (cc := cX2_isInRow) (maxL := 3) (ret := (some .boolean)) (by decide +kernel) rfl ?_
  intro p e s m args below meth c s₁ B hml hv0
  obtain ⟨rfl, hK, hP⟩ := hv0
  have hx := B.exec
  have hb := B.bytes
  have hr := B.returns
  have hts := atoms_spec (ws := wsX2_isInRow) B.pre
  have hown : s.vm.findClass RX2 = some m.cls := findClass_of_methodNamed B.named
  have hlocks := B.notSynchronized
  have hS : va_S (fun _ : Nat => False) s.heap s.heap [] := va_S.rf
  have hl := lv_entry ([.ref g, .int (z_i i), .int (z_i j)]) (n := 3) (Nat.le_of_ble_eq_true rfl)
  rw [lg_entry_eq]
  generalize (lg_sl ([.ref g, .int (z_i i), .int (z_i j)]) ++ List.replicate (3 - (lg_sl ([.ref g, .int (z_i i), .int (z_i j)])).length) Slot.unset).toArray = ls at hl ⊢
  have hl : lv_has ls 3 [(0, .ref g), (1, .int (z_i i)), (2, .int (z_i j))] := hl
  refine lv_iload_n hx hb dX2_isInRow_0 rfl (lv_at hl 1 rfl) ?_
  refine lx_if_lt (tgt := 20) hx hb dX2_isInRow_1 (by decide) h_i (fun hc => ?_) (fun hc => ?_)
  · have hv := hv.1 hc
    refine lv_iconst (v := z_i 0) hx hb dX2_isInRow_20 rfl ?_
    exact W.zret (v := z_i 0) hx hb hr (by decide) (fun t ht hW => ⟨⟨z_i 0, (), rfl, ⟨0, rfl, (show z_in 0 from ⟨by decide, by decide⟩), hv⟩, trivial⟩, hS.F ht⟩) hS.2.2 dX2_isInRow_21
  · have hv := hv.2 hc
    refine lv_iload_n hx hb dX2_isInRow_4 rfl (lv_at hl 1 rfl) ?_
    refine lv_bipush (v := z_i 32) hx hb dX2_isInRow_5 (by decide) ?_
    refine lx_icmp_ge (tgt := 20) hx hb dX2_isInRow_7 (by decide) h_i (show z_in 32 from ⟨by decide, by decide⟩) (fun hc => ?_) (fun hc => ?_)
    · have hv := hv.1 hc
      refine lv_iconst (v := z_i 0) hx hb dX2_isInRow_20 rfl ?_
      exact W.zret (v := z_i 0) hx hb hr (by decide) (fun t ht hW => ⟨⟨z_i 0, (), rfl, ⟨0, rfl, (show z_in 0 from ⟨by decide, by decide⟩), hv⟩, trivial⟩, hS.F ht⟩) hS.2.2 dX2_isInRow_21
    · have hv := hv.2 hc
      refine lv_iload_n hx hb dX2_isInRow_10 rfl (lv_at hl 2 rfl) ?_
      refine lx_if_lt (tgt := 20) hx hb dX2_isInRow_11 (by decide) h_j (fun hc => ?_) (fun hc => ?_)
      · have hv := hv.1 hc
        refine lv_iconst (v := z_i 0) hx hb dX2_isInRow_20 rfl ?_
        exact W.zret (v := z_i 0) hx hb hr (by decide) (fun t ht hW => ⟨⟨z_i 0, (), rfl, ⟨0, rfl, (show z_in 0 from ⟨by decide, by decide⟩), hv⟩, trivial⟩, hS.F ht⟩) hS.2.2 dX2_isInRow_21
      · have hv := hv.2 hc
        refine lv_iload_n hx hb dX2_isInRow_14 rfl (lv_at hl 2 rfl) ?_
        refine lv_bipush (v := z_i 40) hx hb dX2_isInRow_15 (by decide) ?_
        refine lx_icmp_lt (tgt := 22) hx hb dX2_isInRow_17 (by decide) h_j (show z_in 40 from ⟨by decide, by decide⟩) (fun hc => ?_) (fun hc => ?_)
        · have hv := hv.1 hc
          refine lv_iload_n hx hb dX2_isInRow_22 rfl (lv_at hl 2 rfl) ?_
          refine lv_aload_n hx hb dX2_isInRow_23 rfl (lv_at hl 0 rfl) ?_
          refine va_get (D := D) (ci := 1) (v := .ref ga_offsets) (C := RX2) (T := TX2) (N := 4) hx hb hts (fun w h => List.mem_cons_of_mem _ (List.mem_append_right _ h)) hown hK hP 0 rfl rfl 2 (by decide) (hts (.fieldLink RX2 25 "ContourSheets$Grid" "offsets" "[I") (by decide +kernel)) (fun _ h9 => h9) rfl dX2_isInRow_24 ?_
          refine lv_iload_n hx hb dX2_isInRow_27 rfl (lv_at hl 1 rfl) ?_
          obtain ⟨hi1, hv⟩ := hv
          refine lx_iald hx hb hK hP 3 1 rfl rfl (by decide) hi1.1 hi1.2 dX2_isInRow_28 ?_
          refine lx_icmp_lt (tgt := 53) hx hb dX2_isInRow_29 (by decide) h_j (z_in_g _ _) (fun hc => ?_) (fun hc => ?_)
          · have hv := hv.1 hc
            refine lv_iconst (v := z_i 0) hx hb dX2_isInRow_53 rfl ?_
            exact W.zret (v := z_i 0) hx hb hr (by decide) (fun t ht hW => ⟨⟨z_i 0, (), rfl, ⟨0, rfl, (show z_in 0 from ⟨by decide, by decide⟩), hv⟩, trivial⟩, hS.F ht⟩) hS.2.2 dX2_isInRow_54
          · have hv := hv.2 hc
            refine lv_iload_n hx hb dX2_isInRow_32 rfl (lv_at hl 2 rfl) ?_
            refine lv_aload_n hx hb dX2_isInRow_33 rfl (lv_at hl 0 rfl) ?_
            refine va_get (D := D) (ci := 1) (v := .ref ga_offsets) (C := RX2) (T := TX2) (N := 4) hx hb hts (fun w h => List.mem_cons_of_mem _ (List.mem_append_right _ h)) hown hK hP 0 rfl rfl 2 (by decide) (hts (.fieldLink RX2 25 "ContourSheets$Grid" "offsets" "[I") (by decide +kernel)) (fun _ h9 => h9) rfl dX2_isInRow_34 ?_
            refine lv_iload_n hx hb dX2_isInRow_37 rfl (lv_at hl 1 rfl) ?_
            refine lx_iald hx hb hK hP 3 1 rfl rfl (by decide) hi1.1 hi1.2 dX2_isInRow_38 ?_
            refine lv_aload_n hx hb dX2_isInRow_39 rfl (lv_at hl 0 rfl) ?_
            refine va_get (D := D) (ci := 1) (v := .ref ga_lengths) (C := RX2) (T := TX2) (N := 4) hx hb hts (fun w h => List.mem_cons_of_mem _ (List.mem_append_right _ h)) hown hK hP 0 rfl rfl 1 (by decide) (hts (.fieldLink RX2 22 "ContourSheets$Grid" "lengths" "[I") (by decide +kernel)) (fun _ h9 => h9) rfl dX2_isInRow_40 ?_
            refine lv_iload_n hx hb dX2_isInRow_43 rfl (lv_at hl 1 rfl) ?_
            refine lx_iald hx hb hK hP 2 1 rfl rfl (by decide) hi1.1 hi1.2 dX2_isInRow_44 ?_
            refine lx_iadd hx hb dX2_isInRow_45 ?_
            obtain ⟨hr2, hv⟩ := hv
            refine lx_icmp_ge (tgt := 53) hx hb dX2_isInRow_46 (by decide) h_j hr2 (fun hc => ?_) (fun hc => ?_)
            · have hv := hv.1 hc
              refine lv_iconst (v := z_i 0) hx hb dX2_isInRow_53 rfl ?_
              exact W.zret (v := z_i 0) hx hb hr (by decide) (fun t ht hW => ⟨⟨z_i 0, (), rfl, ⟨0, rfl, (show z_in 0 from ⟨by decide, by decide⟩), hv⟩, trivial⟩, hS.F ht⟩) hS.2.2 dX2_isInRow_54
            · have hv := hv.2 hc
              refine lv_iconst (v := z_i 1) hx hb dX2_isInRow_49 rfl ?_
              refine lv_goto (tgt := 54) hx hb dX2_isInRow_50 (by decide) ?_
              exact W.zret (v := z_i 1) hx hb hr (by decide) (fun t ht hW => ⟨⟨z_i 1, (), rfl, ⟨1, rfl, (show z_in 1 from ⟨by decide, by decide⟩), hv⟩, trivial⟩, hS.F ht⟩) hS.2.2 dX2_isInRow_54
        · have hv := hv.2 hc
          refine lv_iconst (v := z_i 0) hx hb dX2_isInRow_20 rfl ?_
          exact W.zret (v := z_i 0) hx hb hr (by decide) (fun t ht hW => ⟨⟨z_i 0, (), rfl, ⟨0, rfl, (show z_in 0 from ⟨by decide, by decide⟩), hv⟩, trivial⟩, hS.F ht⟩) hS.2.2 dX2_isInRow_21
set_option maxHeartbeats 4000000 in
set_option maxRecDepth 100000 in
theorem mt_X2_isInRow (l : Launch) (D : va_G) (cA : Nat → ClassId) (g : Nat) (ga_units : Nat) (g_units : Nat → Int32) (ga_lengths : Nat) (g_lengths : Nat → Int32) (ga_offsets : Nat) (g_offsets : Nat → Int32) (g_step : Int) (i : Int) (j : Int) (h_g_step : z_in g_step) (h_i : z_in i) (h_j : z_in j) (hp1 : g_rw g_lengths g_offsets) : Met l yX2_isInRow wsX2_isInRow ({ frames := 0, cells := 0, slots := 0, locals := 0 } : Room) (va_Pc [.ref g, .int (z_i i), .int (z_i j)] (z_B0 D cA [(g, .inr (1, [.ref ga_units, .ref ga_lengths, .ref ga_offsets, .int (z_i g_step)])), (ga_units, .inl (cA 1, 1280, .inl g_units)), (ga_lengths, .inl (cA 1, 32, .inl g_lengths)), (ga_offsets, .inl (cA 1, 32, .inl g_offsets))])) (va_Qi (z_ri (fun (r : Int) => r = z_b (decide (0 ≤ i ∧ i < 32 ∧ 0 ≤ j ∧ j < 40 ∧ z_g g_offsets i ≤ j ∧ j < z_g g_offsets i + z_g g_lengths i)))) (fun _ _ => True) (fun _ => False)) 0 0 (fun _ => False) := by
  refine wk_X2_isInRow l D cA g ga_units g_units ga_lengths g_lengths ga_offsets g_offsets g_step i j h_g_step h_i h_j (fun (r : Int) => r = z_b (decide (0 ≤ i ∧ i < 32 ∧ 0 ≤ j ∧ j < 40 ∧ z_g g_offsets i ≤ j ∧ j < z_g g_offsets i + z_g g_lengths i))) ?_
  unfold vc_X2_isInRow
  refine ⟨fun h => ?_, fun h => ⟨fun h2 => ?_, fun h2 => ⟨fun h3 => ?_, fun h3 => ⟨fun h4 => ⟨⟨h, h2⟩, fun h5 => ?_, fun h5 => ⟨?_, fun h6 => ?_, fun h6 => ?_⟩⟩, fun h4 => ?_⟩⟩⟩⟩
  · rw [decide_eq_false (by omega)]; rfl
  · rw [decide_eq_false (by omega)]; rfl
  · rw [decide_eq_false (by omega)]; rfl
  · rw [decide_eq_false (by omega)]; rfl
  · have := hp1 i h h2
    exact ⟨by omega, by omega⟩
  · rw [decide_eq_false (by omega)]; rfl
  · rw [decide_eq_true (by omega)]; rfl
  · rw [decide_eq_false (by omega)]; rfl
/-- twice the square of a slope; the steepest way down so far: that, and where it leads -/
def m_sl (k : Nat) (d : Int) : Int := if k % 2 = 1 then 2 * d * d else d * d
def m_dnK (T : Int → Bool) (U : Int → Int) (n : Int) : Nat → Int × Int
  | 0 => (0, -1)
  | k + 1 => if m_nb T n k = -1 then m_dnK T U n k else if U n - U (m_nb T n k) ≤ 0 then m_dnK T U n k else
      if m_sl k (U n - U (m_nb T n k)) > (m_dnK T U n k).1 ∨ (m_sl k (U n - U (m_nb T n k)) = (m_dnK T U n k).1 ∧ m_nb T n k < (m_dnK T U n k).2)
      then (m_sl k (U n - U (m_nb T n k)), m_nb T n k) else m_dnK T U n k
def m_dn (T : Int → Bool) (U : Int → Int) (n : Int) : Int := (m_dnK T U n 8).2
theorem z_sq {d : Int} (h0 : 0 ≤ d) (h1 : d ≤ 16777216) : 0 ≤ d * d ∧ d * d ≤ 281474976710656 := by
  constructor
  · exact Int.mul_nonneg h0 h0
  · have := Int.mul_le_mul h1 h1 h0 (by decide : (0 : Int) ≤ 16777216)
    omega
theorem m_sl_b {k : Nat} {d : Int} (h0 : 0 ≤ d) (h1 : d ≤ 16777216) : 0 ≤ m_sl k d ∧ m_sl k d ≤ 562949953421312 := by
  have h := z_sq h0 h1
  unfold m_sl
  split
  · rw [Int.mul_assoc]; omega
  · omega
theorem m_dnK_b {T : Int → Bool} {U : Int → Int} {n : Int} (hU : ∀ p, T p = true → -8388608 ≤ U p ∧ U p ≤ 8388608) (hn : T n = true) (k : Nat) : 0 ≤ (m_dnK T U n k).1 ∧ (m_dnK T U n k).1 ≤ 562949953421312 ∧ -1 ≤ (m_dnK T U n k).2 ∧ (m_dnK T U n k).2 < 1280 ∧ ((m_dnK T U n k).2 ≠ -1 → T (m_dnK T U n k).2 = true ∧ U (m_dnK T U n k).2 < U n) := by
  induction k with
  | zero => exact ⟨Int.le_refl _, show (0 : Int) ≤ 562949953421312 by decide, Int.le_refl _, show (-1 : Int) < 1280 by decide, fun h => absurd rfl h⟩
  | succ k ih =>
    unfold m_dnK
    split
    · exact ih
    · next h =>
      split
      · exact ih
      · next h2 =>
        have h3 := m_nb_th h
        have h4 := hU _ h3.1
        have h5 := hU _ hn
        have h6 := m_sl_b (k := k) (d := U n - U (m_nb T n k)) (by omega) (by omega)
        split
        · exact ⟨h6.1, h6.2, show -1 ≤ m_nb T n k by omega, h3.2.2, fun _ => ⟨h3.1, show U (m_nb T n k) < U n by omega⟩⟩
        · exact ih
theorem m_dn_th {T : Int → Bool} {U : Int → Int} {n : Int} (hU : ∀ p, T p = true → -8388608 ≤ U p ∧ U p ≤ 8388608) (hn : T n = true) (h : m_dn T U n ≠ -1) : T (m_dn T U n) = true ∧ U (m_dn T U n) < U n := (m_dnK_b hU hn 8).2.2.2.2 h
theorem z_and1_8 : ∀ k : Fin 8, (z_and (k.val : Int) 1 = 1 ↔ k.val % 2 = 1) := by decide +kernel
def vc_X6_downFrom (g_units : Nat → Int32) (n : Int) (Q : Int → Prop) : Prop :=
(∀ L7 : Int → Int → Int → Prop,
(∀ (x7_5 : Int) (x7_3 : Int) (x7_2 : Int), z_in x7_5 → z_nl x7_3 → z_in x7_2 → ((x7_5 ≥ 8 → Q x7_2) ∧
(x7_5 < 8 → (0 ≤ n ∧ n < 1280) ∧ (0 ≤ x7_5 ∧ x7_5 < 8) ∧ (∀ (r3 : Int), z_in r3 → (r3 = m_nb (g_th g_units) n x7_5) → ((r3 ≠ -1 → (∀ (r4 : Int), z_in r4 → (r4 = g_at g_units n) → (∀ (r5 : Int), z_in r5 → (r5 = g_at g_units r3) → z_nl (r4 - r5) ∧ (∀ v6 : Int, v6 = r4 - r5 → ((v6 ≤ 0 → L7 (x7_5 + 1) x7_3 x7_2) ∧
(v6 > 0 → ((z_and x7_5 1 ≠ 1 → z_nl (v6 * v6) ∧ (∀ v9 : Int, v9 = v6 * v6 → ((v9 > x7_3 → L7 (x7_5 + 1) v9 r3) ∧
(v9 ≤ x7_3 → ((v9 ≠ x7_3 → L7 (x7_5 + 1) x7_3 x7_2) ∧
(v9 = x7_3 → ((r3 ≥ x7_2 → L7 (x7_5 + 1) x7_3 x7_2) ∧
(r3 < x7_2 → L7 (x7_5 + 1) v9 r3)))))))) ∧
(z_and x7_5 1 = 1 → z_nl ((2 * v6) * v6) ∧ (∀ v12 : Int, v12 = (2 * v6) * v6 → ((v12 > x7_3 → L7 (x7_5 + 1) v12 r3) ∧
(v12 ≤ x7_3 → ((v12 ≠ x7_3 → L7 (x7_5 + 1) x7_3 x7_2) ∧
(v12 = x7_3 → ((r3 ≥ x7_2 → L7 (x7_5 + 1) x7_3 x7_2) ∧
(r3 < x7_2 → L7 (x7_5 + 1) v12 r3))))))))))))))) ∧
(r3 = -1 → L7 (x7_5 + 1) x7_3 x7_2))))) → L7 x7_5 x7_3 x7_2) →
L7 0 0 (-1))
set_option maxHeartbeats 4000000 in
set_option maxRecDepth 100000 in
theorem wk_X6_downFrom (l : Launch) (D : va_G) (cA : Nat → ClassId) (t1 t2 : Nat) (g : Nat) (ga_units : Nat) (g_units : Nat → Int32) (ga_lengths : Nat) (g_lengths : Nat → Int32) (ga_offsets : Nat) (g_offsets : Nat → Int32) (g_step : Int) (n : Int) (h_g_step : z_in g_step) (h_n : z_in n) (Q : Int → Prop) (hv : vc_X6_downFrom g_units n Q) : Met l yX6_downFrom wsX6_downFrom ({ frames := 3, cells := 0, slots := 0, locals := 66 } : Room) (va_Pc [.ref g, .int (z_i n)] (z_B1 D cA t1 t2 [(g, .inr (1, [.ref ga_units, .ref ga_lengths, .ref ga_offsets, .int (z_i g_step)])), (ga_units, .inl (cA 1, 1280, .inl g_units)), (ga_lengths, .inl (cA 1, 32, .inl g_lengths)), (ga_offsets, .inl (cA 1, 32, .inl g_offsets))])) (va_Qi (z_ri Q) (fun _ _ => True) (fun _ => False)) 0 0 (fun _ => False) := by
  unfold vc_X6_downFrom at hv
  refine Met.ofW (cc := cX6_downFrom) (maxL := 11) (ret := (some .int)) (by decide +kernel) rfl ?_
  intro p e s m args below meth c s₁ B hml hv0
  obtain ⟨rfl, ⟨hK, hP⟩, hST⟩ := hv0
  have hx := B.exec
  have hb := B.bytes
  have hr := B.returns
  have hts := atoms_spec (ws := wsX6_downFrom) B.pre
  have hown : s.vm.findClass RX6 = some m.cls := findClass_of_methodNamed B.named
  have hlocks := B.notSynchronized
  have hS : va_S (fun _ : Nat => False) s.heap s.heap [] := va_S.rf
  have hl := lv_entry ([.ref g, .int (z_i n)]) (n := 11) (Nat.le_of_ble_eq_true rfl)
  rw [lg_entry_eq]
  generalize (lg_sl ([.ref g, .int (z_i n)]) ++ List.replicate (11 - (lg_sl ([.ref g, .int (z_i n)])).length) Slot.unset).toArray = ls at hl ⊢
  have hl : lv_has ls 11 [(0, .ref g), (1, .int (z_i n))] := hl
  refine lv_iconst (v := z_i (-1)) hx hb dX6_downFrom_0 rfl ?_
  refine lv_istore_n (lv' := [(2, .int (z_i (-1))), (0, .ref g), (1, .int (z_i n))]) hx hb dX6_downFrom_1 rfl hl (by decide) rfl (fun ls hl => ?_)
  refine lv_lconst (v := z_l 0) hx hb dX6_downFrom_2 (by decide) ?_
  refine lv_lstore_n (lv' := [(3, .long (z_l 0)), (2, .int (z_i (-1))), (0, .ref g), (1, .int (z_i n))]) hx hb dX6_downFrom_3 rfl hl (by decide) rfl (fun ls hl => ?_)
  refine lv_iconst (v := z_i 0) hx hb dX6_downFrom_4 rfl ?_
  refine lv_istore (lv' := [(5, .int (z_i 0)), (3, .long (z_l 0)), (2, .int (z_i (-1))), (0, .ref g), (1, .int (z_i n))]) hx hb dX6_downFrom_5 hl (by decide) rfl (fun ls hl => ?_)
  refine hv (fun (x7_5 : Int) (x7_3 : Int) (x7_2 : Int) => ∀ (H : Heap) (locs : List Loc) (ls : Array Slot), va_P D vwCl [(g, .inr (1, [.ref ga_units, .ref ga_lengths, .ref ga_offsets, .int (z_i g_step)])), (ga_units, .inl (cA 1, 1280, .inl g_units)), (ga_lengths, .inl (cA 1, 32, .inl g_lengths)), (ga_offsets, .inl (cA 1, 32, .inl g_offsets))] H → va_S (fun _ : Nat => False) s.heap H locs → lv_has ls 11 [(5, .int (z_i x7_5)), (3, .long (z_l x7_3)), (2, .int (z_i x7_2)), (0, .ref g), (1, .int (z_i n))] → W p l e _ s m _ below meth c H locs 0 0 _ (F0 m 7 ls [])) ?_ _ _ ls hP hS (lv_sub hl [0, 1, 2, 3, 4] rfl)
  intro x7_5 x7_3 x7_2 h_x7_5 h_x7_3 h_x7_2 hv H locs ls hP hS hl
  refine lv_iload hx hb dX6_downFrom_7 (lv_at hl 0 rfl) ?_
  refine lv_bipush (v := z_i 8) hx hb dX6_downFrom_9 (by decide) ?_
  refine lx_icmp_ge (tgt := 115) hx hb dX6_downFrom_11 (by decide) h_x7_5 (show z_in 8 from ⟨by decide, by decide⟩) (fun hc => ?_) (fun hc => ?_)
  · have hv := hv.1 hc
    refine lv_iload_n hx hb dX6_downFrom_115 rfl (lv_at hl 2 rfl) ?_
    exact W.iret (v := z_i x7_2) hx hb hr (fun t ht hW => ⟨⟨z_i x7_2, (), rfl, ⟨x7_2, rfl, h_x7_2, hv⟩, trivial⟩, hS.F ht⟩) hS.2.2 dX6_downFrom_116
  · have hv := hv.2 hc
    refine lv_aload_n hx hb dX6_downFrom_14 rfl (lv_at hl 3 rfl) ?_
    refine lv_iload_n hx hb dX6_downFrom_15 rfl (lv_at hl 4 rfl) ?_
    refine lv_iload hx hb dX6_downFrom_16 (lv_at hl 0 rfl) ?_
    obtain ⟨hp1, hv⟩ := hv
    obtain ⟨hp2, hv⟩ := hv
    refine va_calli (va_runV (As := [.int (z_i n), .int (z_i x7_5)]) (rest := []) ⟨hx, hb, hml, hown, hts⟩ (mt_X2_neighbour l D cA t1 t2 g ga_units g_units ga_lengths g_lengths ga_offsets g_offsets g_step n x7_5 h_g_step h_n h_x7_5 hp1 hp2) (cwV 2 hts gX6_downFrom_X2_neighbour rfl rfl rfl (by decide +kernel) ⟨Nat.le_of_ble_eq_true rfl, Nat.le_of_ble_eq_true rfl⟩) ⟨z_bl1, va_recv hK hP (ci := 1) (q0 := 0) rfl rfl, fun U hU hW => ⟨rfl, z_b1 hK hP (hST.at hS (fun _ h => h.elim)) hU hW⟩⟩ rfl rfl hl.1 rfl (lv_room (Nat.le_of_ble_eq_true rfl)) dX6_downFrom_18 ⟨Nat.zero_le _, Nat.zero_le _⟩) hS (fun q _ h => h.elim) (fun q h => h.elim) (fun r0 u t H locs ht hvm hw hB hz1 hk1 hS => ?_)
    obtain ⟨r3, rfl, h_r3, hw⟩ := hw
    have hP := z_P_all hP hk1
    have hv := hv r3 h_r3 hw
    refine lv_istore (lv' := [(6, .int (z_i r3)), (5, .int (z_i x7_5)), (3, .long (z_l x7_3)), (2, .int (z_i x7_2)), (0, .ref g), (1, .int (z_i n))]) hx hb dX6_downFrom_21 hl (by decide) rfl (fun ls hl => ?_)
    refine lv_iload hx hb dX6_downFrom_23 (lv_at hl 0 rfl) ?_
    refine lv_iconst (v := z_i (-1)) hx hb dX6_downFrom_25 rfl ?_
    refine lx_icmp_ne (tgt := 33) hx hb dX6_downFrom_26 (by decide) h_r3 (show z_in (-1) from ⟨by decide, by decide⟩) (fun hc => ?_) (fun hc => ?_)
    · have hv := hv.1 hc
      refine lv_aload_n hx hb dX6_downFrom_33 rfl (lv_at hl 4 rfl) ?_
      refine lv_iload_n hx hb dX6_downFrom_34 rfl (lv_at hl 5 rfl) ?_
      refine va_calli (va_runV (As := [.int (z_i n)]) (rest := []) ⟨hx, hb, hml, hown, hts⟩ (mt_X2_unitsOf l D cA g ga_units g_units ga_lengths g_lengths ga_offsets g_offsets g_step n h_g_step h_n) (cwV 1 hts gX6_downFrom_X2_unitsOf rfl rfl rfl (by decide +kernel) ⟨Nat.le_of_ble_eq_true rfl, Nat.le_of_ble_eq_true rfl⟩) ⟨z_bl0, va_recv hK hP (ci := 1) (q0 := 0) rfl rfl, fun U hU hW => ⟨rfl, z_b0 hK hP hU hW⟩⟩ rfl rfl hl.1 rfl (lv_room (Nat.le_of_ble_eq_true rfl)) dX6_downFrom_35 ⟨Nat.zero_le _, Nat.zero_le _⟩) hS (fun q _ h => h.elim) (fun q h => h.elim) (fun r0 u t H locs ht hvm hw hB hz1 hk1 hS => ?_)
      obtain ⟨r4, rfl, h_r4, hw⟩ := hw
      have hP := z_P_all hP hk1
      have hv := hv r4 h_r4 hw
      refine lx_i2l hx hb dX6_downFrom_38 h_r4 ?_
      refine lv_aload_n hx hb dX6_downFrom_39 rfl (lv_at hl 4 rfl) ?_
      refine lv_iload hx hb dX6_downFrom_40 (lv_at hl 0 rfl) ?_
      refine va_calli (va_runV (As := [.int (z_i r3)]) (rest := [.long (z_l r4)]) ⟨hx, hb, hml, hown, hts⟩ (mt_X2_unitsOf l D cA g ga_units g_units ga_lengths g_lengths ga_offsets g_offsets g_step r3 h_g_step h_r3) (cwV 1 hts gX6_downFrom_X2_unitsOf rfl rfl rfl (by decide +kernel) ⟨Nat.le_of_ble_eq_true rfl, Nat.le_of_ble_eq_true rfl⟩) ⟨z_bl0, va_recv hK hP (ci := 1) (q0 := 0) rfl rfl, fun U hU hW => ⟨rfl, z_b0 hK hP hU hW⟩⟩ rfl rfl hl.1 rfl (lv_room (Nat.le_of_ble_eq_true rfl)) dX6_downFrom_42 ⟨Nat.zero_le _, Nat.zero_le _⟩) hS (fun q _ h => h.elim) (fun q h => h.elim) (fun r0 u t H locs ht hvm hw hB hz1 hk1 hS => ?_)
      obtain ⟨r5, rfl, h_r5, hw⟩ := hw
      have hP := z_P_all hP hk1
      have hv := hv r5 h_r5 hw
      refine lx_i2l hx hb dX6_downFrom_45 h_r5 ?_
      refine lx_lsub hx hb dX6_downFrom_46 ?_
      obtain ⟨hr7, hv⟩ := hv
      refine lx_topl (fun v6 hy8 => ?_)
      have hv := hv v6 hy8
      have h_v6 : z_nl v6 := by rw [hy8]; exact hr7
      refine lv_lstore (lv' := [(7, .long (z_l v6)), (6, .int (z_i r3)), (5, .int (z_i x7_5)), (3, .long (z_l x7_3)), (2, .int (z_i x7_2)), (0, .ref g), (1, .int (z_i n))]) hx hb dX6_downFrom_47 hl (by decide) rfl (fun ls hl => ?_)
      refine lv_lload hx hb dX6_downFrom_49 (lv_at hl 0 rfl) ?_
      refine lv_lconst (v := z_l 0) hx hb dX6_downFrom_51 (by decide) ?_
      refine lx_lcmp hx hb dX6_downFrom_52 h_v6 (show z_nl 0 from ⟨by decide, by decide⟩) ?_
      refine lx_if_le (tgt := 109) hx hb dX6_downFrom_53 (by decide) (z_in_cmp _ _) (fun hc => ?_) (fun hc => ?_)
      · have hv := hv.1 (z_cmp_le.mp hc)
        refine lv_iinc (v := z_i (x7_5 + 1)) (lv' := [(5, .int (z_i (x7_5 + 1))), (7, .long (z_l v6)), (6, .int (z_i r3)), (3, .long (z_l x7_3)), (2, .int (z_i x7_2)), (0, .ref g), (1, .int (z_i n))]) hx hb dX6_downFrom_109 hl (k := 2) rfl (z_i_add _ _) (by decide) rfl (fun ls hl => ?_)
        refine lv_goto (tgt := 7) hx hb dX6_downFrom_112 (by decide) ?_
        exact hv _ _ ls hP hS (lv_sub hl [0, 3, 4, 5, 6] rfl)
      · have hv := hv.2 (z_cmp_gt.mp hc)
        refine lv_iload hx hb dX6_downFrom_56 (lv_at hl 2 rfl) ?_
        refine lv_iconst (v := z_i 1) hx hb dX6_downFrom_58 rfl ?_
        refine lx_iand hx hb dX6_downFrom_59 ?_
        refine lv_iconst (v := z_i 1) hx hb dX6_downFrom_60 rfl ?_
        refine lx_icmp_ne (tgt := 76) hx hb dX6_downFrom_61 (by decide) (z_in_of _) (show z_in 1 from ⟨by decide, by decide⟩) (fun hc => ?_) (fun hc => ?_)
        · have hv := hv.1 hc
          refine lv_lload hx hb dX6_downFrom_76 (lv_at hl 0 rfl) ?_
          refine lv_lload hx hb dX6_downFrom_78 (lv_at hl 0 rfl) ?_
          refine lx_lmul hx hb dX6_downFrom_80 ?_
          obtain ⟨hr10, hv⟩ := hv
          refine lx_topl (fun v9 hy11 => ?_)
          have hv := hv v9 hy11
          have h_v9 : z_nl v9 := by rw [hy11]; exact hr10
          refine lv_lstore (lv' := [(9, .long (z_l v9)), (7, .long (z_l v6)), (6, .int (z_i r3)), (5, .int (z_i x7_5)), (3, .long (z_l x7_3)), (2, .int (z_i x7_2)), (0, .ref g), (1, .int (z_i n))]) hx hb dX6_downFrom_81 hl (by decide) rfl (fun ls hl => ?_)
          refine lv_lload hx hb dX6_downFrom_83 (lv_at hl 0 rfl) ?_
          refine lv_lload_n hx hb dX6_downFrom_85 rfl (lv_at hl 4 rfl) ?_
          refine lx_lcmp hx hb dX6_downFrom_86 h_v9 h_x7_3 ?_
          refine lx_if_gt (tgt := 103) hx hb dX6_downFrom_87 (by decide) (z_in_cmp _ _) (fun hc => ?_) (fun hc => ?_)
          · have hv := hv.1 (z_cmp_gt.mp hc)
            refine lv_iload hx hb dX6_downFrom_103 (lv_at hl 2 rfl) ?_
            refine lv_istore_n (lv' := [(2, .int (z_i r3)), (9, .long (z_l v9)), (7, .long (z_l v6)), (6, .int (z_i r3)), (5, .int (z_i x7_5)), (3, .long (z_l x7_3)), (0, .ref g), (1, .int (z_i n))]) hx hb dX6_downFrom_105 rfl hl (by decide) rfl (fun ls hl => ?_)
            refine lv_lload hx hb dX6_downFrom_106 (lv_at hl 1 rfl) ?_
            refine lv_lstore_n (lv' := [(3, .long (z_l v9)), (2, .int (z_i r3)), (9, .long (z_l v9)), (7, .long (z_l v6)), (6, .int (z_i r3)), (5, .int (z_i x7_5)), (0, .ref g), (1, .int (z_i n))]) hx hb dX6_downFrom_108 rfl hl (by decide) rfl (fun ls hl => ?_)
            refine lv_iinc (v := z_i (x7_5 + 1)) (lv' := [(5, .int (z_i (x7_5 + 1))), (3, .long (z_l v9)), (2, .int (z_i r3)), (9, .long (z_l v9)), (7, .long (z_l v6)), (6, .int (z_i r3)), (0, .ref g), (1, .int (z_i n))]) hx hb dX6_downFrom_109 hl (k := 5) rfl (z_i_add _ _) (by decide) rfl (fun ls hl => ?_)
            refine lv_goto (tgt := 7) hx hb dX6_downFrom_112 (by decide) ?_
            exact hv _ _ ls hP hS (lv_sub hl [0, 1, 2, 6, 7] rfl)
          · have hv := hv.2 (z_cmp_le.mp hc)
            refine lv_lload hx hb dX6_downFrom_90 (lv_at hl 0 rfl) ?_
            refine lv_lload_n hx hb dX6_downFrom_92 rfl (lv_at hl 4 rfl) ?_
            refine lx_lcmp hx hb dX6_downFrom_93 h_v9 h_x7_3 ?_
            refine lx_if_ne (tgt := 109) hx hb dX6_downFrom_94 (by decide) (z_in_cmp _ _) (fun hc => ?_) (fun hc => ?_)
            · have hv := hv.1 (z_cmp_ne.mp hc)
              refine lv_iinc (v := z_i (x7_5 + 1)) (lv' := [(5, .int (z_i (x7_5 + 1))), (9, .long (z_l v9)), (7, .long (z_l v6)), (6, .int (z_i r3)), (3, .long (z_l x7_3)), (2, .int (z_i x7_2)), (0, .ref g), (1, .int (z_i n))]) hx hb dX6_downFrom_109 hl (k := 3) rfl (z_i_add _ _) (by decide) rfl (fun ls hl => ?_)
              refine lv_goto (tgt := 7) hx hb dX6_downFrom_112 (by decide) ?_
              exact hv _ _ ls hP hS (lv_sub hl [0, 4, 5, 6, 7] rfl)
            · have hv := hv.2 (z_cmp_eq.mp hc)
              refine lv_iload hx hb dX6_downFrom_97 (lv_at hl 2 rfl) ?_
              refine lv_iload_n hx hb dX6_downFrom_99 rfl (lv_at hl 5 rfl) ?_
              refine lx_icmp_ge (tgt := 109) hx hb dX6_downFrom_100 (by decide) h_r3 h_x7_2 (fun hc => ?_) (fun hc => ?_)
              · have hv := hv.1 hc
                refine lv_iinc (v := z_i (x7_5 + 1)) (lv' := [(5, .int (z_i (x7_5 + 1))), (9, .long (z_l v9)), (7, .long (z_l v6)), (6, .int (z_i r3)), (3, .long (z_l x7_3)), (2, .int (z_i x7_2)), (0, .ref g), (1, .int (z_i n))]) hx hb dX6_downFrom_109 hl (k := 3) rfl (z_i_add _ _) (by decide) rfl (fun ls hl => ?_)
                refine lv_goto (tgt := 7) hx hb dX6_downFrom_112 (by decide) ?_
                exact hv _ _ ls hP hS (lv_sub hl [0, 4, 5, 6, 7] rfl)
              · have hv := hv.2 hc
                refine lv_iload hx hb dX6_downFrom_103 (lv_at hl 2 rfl) ?_
                refine lv_istore_n (lv' := [(2, .int (z_i r3)), (9, .long (z_l v9)), (7, .long (z_l v6)), (6, .int (z_i r3)), (5, .int (z_i x7_5)), (3, .long (z_l x7_3)), (0, .ref g), (1, .int (z_i n))]) hx hb dX6_downFrom_105 rfl hl (by decide) rfl (fun ls hl => ?_)
                refine lv_lload hx hb dX6_downFrom_106 (lv_at hl 1 rfl) ?_
                refine lv_lstore_n (lv' := [(3, .long (z_l v9)), (2, .int (z_i r3)), (9, .long (z_l v9)), (7, .long (z_l v6)), (6, .int (z_i r3)), (5, .int (z_i x7_5)), (0, .ref g), (1, .int (z_i n))]) hx hb dX6_downFrom_108 rfl hl (by decide) rfl (fun ls hl => ?_)
                refine lv_iinc (v := z_i (x7_5 + 1)) (lv' := [(5, .int (z_i (x7_5 + 1))), (3, .long (z_l v9)), (2, .int (z_i r3)), (9, .long (z_l v9)), (7, .long (z_l v6)), (6, .int (z_i r3)), (0, .ref g), (1, .int (z_i n))]) hx hb dX6_downFrom_109 hl (k := 5) rfl (z_i_add _ _) (by decide) rfl (fun ls hl => ?_)
                refine lv_goto (tgt := 7) hx hb dX6_downFrom_112 (by decide) ?_
                exact hv _ _ ls hP hS (lv_sub hl [0, 1, 2, 6, 7] rfl)
        · have hv := hv.2 hc
          refine lx_ldc2 (a := 2) hx hb hown (hts (.constantLong RX6 33 (2)) (by decide +kernel)) (by decide) dX6_downFrom_64 ?_
          refine lv_lload hx hb dX6_downFrom_67 (lv_at hl 0 rfl) ?_
          refine lx_lmul hx hb dX6_downFrom_69 ?_
          refine lv_lload hx hb dX6_downFrom_70 (lv_at hl 0 rfl) ?_
          refine lx_lmul hx hb dX6_downFrom_72 ?_
          refine lv_goto (tgt := 81) hx hb dX6_downFrom_73 (by decide) ?_
          obtain ⟨hr13, hv⟩ := hv
          refine lx_topl (fun v12 hy14 => ?_)
          have hv := hv v12 hy14
          have h_v12 : z_nl v12 := by rw [hy14]; exact hr13
          refine lv_lstore (lv' := [(9, .long (z_l v12)), (7, .long (z_l v6)), (6, .int (z_i r3)), (5, .int (z_i x7_5)), (3, .long (z_l x7_3)), (2, .int (z_i x7_2)), (0, .ref g), (1, .int (z_i n))]) hx hb dX6_downFrom_81 hl (by decide) rfl (fun ls hl => ?_)
          refine lv_lload hx hb dX6_downFrom_83 (lv_at hl 0 rfl) ?_
          refine lv_lload_n hx hb dX6_downFrom_85 rfl (lv_at hl 4 rfl) ?_
          refine lx_lcmp hx hb dX6_downFrom_86 h_v12 h_x7_3 ?_
          refine lx_if_gt (tgt := 103) hx hb dX6_downFrom_87 (by decide) (z_in_cmp _ _) (fun hc => ?_) (fun hc => ?_)
          · have hv := hv.1 (z_cmp_gt.mp hc)
            refine lv_iload hx hb dX6_downFrom_103 (lv_at hl 2 rfl) ?_
            refine lv_istore_n (lv' := [(2, .int (z_i r3)), (9, .long (z_l v12)), (7, .long (z_l v6)), (6, .int (z_i r3)), (5, .int (z_i x7_5)), (3, .long (z_l x7_3)), (0, .ref g), (1, .int (z_i n))]) hx hb dX6_downFrom_105 rfl hl (by decide) rfl (fun ls hl => ?_)
            refine lv_lload hx hb dX6_downFrom_106 (lv_at hl 1 rfl) ?_
            refine lv_lstore_n (lv' := [(3, .long (z_l v12)), (2, .int (z_i r3)), (9, .long (z_l v12)), (7, .long (z_l v6)), (6, .int (z_i r3)), (5, .int (z_i x7_5)), (0, .ref g), (1, .int (z_i n))]) hx hb dX6_downFrom_108 rfl hl (by decide) rfl (fun ls hl => ?_)
            refine lv_iinc (v := z_i (x7_5 + 1)) (lv' := [(5, .int (z_i (x7_5 + 1))), (3, .long (z_l v12)), (2, .int (z_i r3)), (9, .long (z_l v12)), (7, .long (z_l v6)), (6, .int (z_i r3)), (0, .ref g), (1, .int (z_i n))]) hx hb dX6_downFrom_109 hl (k := 5) rfl (z_i_add _ _) (by decide) rfl (fun ls hl => ?_)
            refine lv_goto (tgt := 7) hx hb dX6_downFrom_112 (by decide) ?_
            exact hv _ _ ls hP hS (lv_sub hl [0, 1, 2, 6, 7] rfl)
          · have hv := hv.2 (z_cmp_le.mp hc)
            refine lv_lload hx hb dX6_downFrom_90 (lv_at hl 0 rfl) ?_
            refine lv_lload_n hx hb dX6_downFrom_92 rfl (lv_at hl 4 rfl) ?_
            refine lx_lcmp hx hb dX6_downFrom_93 h_v12 h_x7_3 ?_
            refine lx_if_ne (tgt := 109) hx hb dX6_downFrom_94 (by decide) (z_in_cmp _ _) (fun hc => ?_) (fun hc => ?_)
            · have hv := hv.1 (z_cmp_ne.mp hc)
              refine lv_iinc (v := z_i (x7_5 + 1)) (lv' := [(5, .int (z_i (x7_5 + 1))), (9, .long (z_l v12)), (7, .long (z_l v6)), (6, .int (z_i r3)), (3, .long (z_l x7_3)), (2, .int (z_i x7_2)), (0, .ref g), (1, .int (z_i n))]) hx hb dX6_downFrom_109 hl (k := 3) rfl (z_i_add _ _) (by decide) rfl (fun ls hl => ?_)
              refine lv_goto (tgt := 7) hx hb dX6_downFrom_112 (by decide) ?_
              exact hv _ _ ls hP hS (lv_sub hl [0, 4, 5, 6, 7] rfl)
            · have hv := hv.2 (z_cmp_eq.mp hc)
              refine lv_iload hx hb dX6_downFrom_97 (lv_at hl 2 rfl) ?_
              refine lv_iload_n hx hb dX6_downFrom_99 rfl (lv_at hl 5 rfl) ?_
              refine lx_icmp_ge (tgt := 109) hx hb dX6_downFrom_100 (by decide) h_r3 h_x7_2 (fun hc => ?_) (fun hc => ?_)
              · have hv := hv.1 hc
                refine lv_iinc (v := z_i (x7_5 + 1)) (lv' := [(5, .int (z_i (x7_5 + 1))), (9, .long (z_l v12)), (7, .long (z_l v6)), (6, .int (z_i r3)), (3, .long (z_l x7_3)), (2, .int (z_i x7_2)), (0, .ref g), (1, .int (z_i n))]) hx hb dX6_downFrom_109 hl (k := 3) rfl (z_i_add _ _) (by decide) rfl (fun ls hl => ?_)
                refine lv_goto (tgt := 7) hx hb dX6_downFrom_112 (by decide) ?_
                exact hv _ _ ls hP hS (lv_sub hl [0, 4, 5, 6, 7] rfl)
              · have hv := hv.2 hc
                refine lv_iload hx hb dX6_downFrom_103 (lv_at hl 2 rfl) ?_
                refine lv_istore_n (lv' := [(2, .int (z_i r3)), (9, .long (z_l v12)), (7, .long (z_l v6)), (6, .int (z_i r3)), (5, .int (z_i x7_5)), (3, .long (z_l x7_3)), (0, .ref g), (1, .int (z_i n))]) hx hb dX6_downFrom_105 rfl hl (by decide) rfl (fun ls hl => ?_)
                refine lv_lload hx hb dX6_downFrom_106 (lv_at hl 1 rfl) ?_
                refine lv_lstore_n (lv' := [(3, .long (z_l v12)), (2, .int (z_i r3)), (9, .long (z_l v12)), (7, .long (z_l v6)), (6, .int (z_i r3)), (5, .int (z_i x7_5)), (0, .ref g), (1, .int (z_i n))]) hx hb dX6_downFrom_108 rfl hl (by decide) rfl (fun ls hl => ?_)
                refine lv_iinc (v := z_i (x7_5 + 1)) (lv' := [(5, .int (z_i (x7_5 + 1))), (3, .long (z_l v12)), (2, .int (z_i r3)), (9, .long (z_l v12)), (7, .long (z_l v6)), (6, .int (z_i r3)), (0, .ref g), (1, .int (z_i n))]) hx hb dX6_downFrom_109 hl (k := 5) rfl (z_i_add _ _) (by decide) rfl (fun ls hl => ?_)
                refine lv_goto (tgt := 7) hx hb dX6_downFrom_112 (by decide) ?_
                exact hv _ _ ls hP hS (lv_sub hl [0, 1, 2, 6, 7] rfl)
    · have hv := hv.2 hc
      refine lv_lconst (v := z_l 0) hx hb dX6_downFrom_29 (by decide) ?_
      refine lv_goto (tgt := 47) hx hb dX6_downFrom_30 (by decide) ?_
      refine lv_lstore (lv' := [(7, .long (z_l 0)), (6, .int (z_i r3)), (5, .int (z_i x7_5)), (3, .long (z_l x7_3)), (2, .int (z_i x7_2)), (0, .ref g), (1, .int (z_i n))]) hx hb dX6_downFrom_47 hl (by decide) rfl (fun ls hl => ?_)
      refine lv_lload hx hb dX6_downFrom_49 (lv_at hl 0 rfl) ?_
      refine lv_lconst (v := z_l 0) hx hb dX6_downFrom_51 (by decide) ?_
      refine lx_lcmp hx hb dX6_downFrom_52 (show z_nl 0 from ⟨by decide, by decide⟩) (show z_nl 0 from ⟨by decide, by decide⟩) ?_
      refine lx_if_le (tgt := 109) hx hb dX6_downFrom_53 (by decide) (z_in_cmp _ _) (fun _ => ?_) (fun hc => absurd hc (by decide))
      refine lv_iinc (v := z_i (x7_5 + 1)) (lv' := [(5, .int (z_i (x7_5 + 1))), (7, .long (z_l 0)), (6, .int (z_i r3)), (3, .long (z_l x7_3)), (2, .int (z_i x7_2)), (0, .ref g), (1, .int (z_i n))]) hx hb dX6_downFrom_109 hl (k := 2) rfl (z_i_add _ _) (by decide) rfl (fun ls hl => ?_)
      refine lv_goto (tgt := 7) hx hb dX6_downFrom_112 (by decide) ?_
      exact hv _ _ ls hP hS (lv_sub hl [0, 3, 4, 5, 6] rfl)
set_option maxHeartbeats 4000000 in
set_option maxRecDepth 100000 in
theorem mt_X6_downFrom (l : Launch) (D : va_G) (cA : Nat → ClassId) (t1 t2 : Nat) (g : Nat) (ga_units : Nat) (g_units : Nat → Int32) (ga_lengths : Nat) (g_lengths : Nat → Int32) (ga_offsets : Nat) (g_offsets : Nat → Int32) (g_step : Int) (n : Int) (h_g_step : z_in g_step) (h_n : z_in n) (hp1 : 0 ≤ n ∧ n < 1280) (hp2 : g_ok g_units) (hp3 : g_th g_units n = true) : Met l yX6_downFrom wsX6_downFrom ({ frames := 3, cells := 0, slots := 0, locals := 66 } : Room) (va_Pc [.ref g, .int (z_i n)] (z_B1 D cA t1 t2 [(g, .inr (1, [.ref ga_units, .ref ga_lengths, .ref ga_offsets, .int (z_i g_step)])), (ga_units, .inl (cA 1, 1280, .inl g_units)), (ga_lengths, .inl (cA 1, 32, .inl g_lengths)), (ga_offsets, .inl (cA 1, 32, .inl g_offsets))])) (va_Qi (z_ri (fun (r : Int) => r = m_dn (g_th g_units) (g_at g_units) n)) (fun _ _ => True) (fun _ => False)) 0 0 (fun _ => False) := by
  refine wk_X6_downFrom l D cA t1 t2 g ga_units g_units ga_lengths g_lengths ga_offsets g_offsets g_step n h_g_step h_n (fun (r : Int) => r = m_dn (g_th g_units) (g_at g_units) n) ?_
  unfold vc_X6_downFrom
  have hU : ∀ p, g_th g_units p = true → -8388608 ≤ g_at g_units p ∧ g_at g_units p ≤ 8388608 := fun p h => g_ok_at hp2 h
  intro L hL
  suffices H : ∀ (d k : Nat), k + d = 8 → L (k : Int) (m_dnK (g_th g_units) (g_at g_units) n k).1 (m_dnK (g_th g_units) (g_at g_units) n k).2 from H 8 0 rfl
  intro d
  induction d with
  | zero =>
    intro k hk
    have hb := m_dnK_b hU hp3 k
    have hk8 : k = 8 := by omega
    subst hk8
    exact hL _ _ _ ⟨by omega, by omega⟩ ⟨by omega, by omega⟩ ⟨by omega, by omega⟩ ⟨fun _ => rfl, fun h => absurd h (by omega)⟩
  | succ d ih =>
    intro k hk
    have hb := m_dnK_b hU hp3 k
    have hodd := z_and1_8 ⟨k, by omega⟩
    dsimp only at hodd
    refine hL _ _ _ ⟨by omega, by omega⟩ ⟨by omega, by omega⟩ ⟨by omega, by omega⟩ ⟨fun h => absurd h (by omega), fun h => ⟨hp1, ⟨by omega, h⟩, ?_⟩⟩
    rintro r3 h3 rfl
    have hi := ih (k + 1) (by omega)
    unfold m_dnK at hi
    rw [show ((k + 1 : Nat) : Int) = (k : Int) + 1 from rfl] at hi
    refine ⟨fun q => ?_, fun q => ?_⟩
    · rintro r4 h4 rfl r5 h5 rfl
      have hq := hU _ (m_nb_th q).1
      have hn := hU _ hp3
      rw [if_neg q] at hi
      refine ⟨⟨by omega, by omega⟩, ?_⟩
      intro v6 e6
      rw [← e6] at hi
      refine ⟨fun q2 => by rw [if_pos q2] at hi; exact hi, fun q2 => ?_⟩
      rw [if_neg (by omega)] at hi
      have hs := z_sq (d := v6) (by omega) (by omega)
      have e2 : 2 * v6 * v6 = 2 * (v6 * v6) := Int.mul_assoc 2 v6 v6
      refine ⟨fun q3 => ⟨⟨by omega, by omega⟩, fun v9 e9 => ?_⟩, fun q3 => ⟨⟨by omega, by omega⟩, fun v9 e9 => ?_⟩⟩
      · rw [show m_sl k v6 = v6 * v6 from if_neg (fun z => q3 (hodd.mpr z)), ← e9] at hi
        refine ⟨fun c => by rw [if_pos (Or.inl c)] at hi; exact hi, fun c => ⟨fun c2 => by rw [if_neg (by omega)] at hi; exact hi, fun c2 => ⟨fun c3 => by rw [if_neg (by omega)] at hi; exact hi, fun c3 => by rw [if_pos (Or.inr ⟨c2, c3⟩)] at hi; exact hi⟩⟩⟩
      · rw [show m_sl k v6 = 2 * v6 * v6 from if_pos (hodd.mp q3), ← e9] at hi
        refine ⟨fun c => by rw [if_pos (Or.inl c)] at hi; exact hi, fun c => ⟨fun c2 => by rw [if_neg (by omega)] at hi; exact hi, fun c2 => ⟨fun c3 => by rw [if_neg (by omega)] at hi; exact hi, fun c3 => by rw [if_pos (Or.inr ⟨c2, c3⟩)] at hi; exact hi⟩⟩⟩
    · rw [if_pos q] at hi
      exact hi
/-- down at most k steps -/
def m_bsK (T : Int → Bool) (U : Int → Int) : Nat → Int → Int
  | 0, n => n
  | k + 1, n => if m_dn T U n = -1 then n else m_bsK T U k (m_dn T U n)
def m_bs (T : Int → Bool) (U : Int → Int) (n : Int) : Int := m_bsK T U 1280 n
theorem g_th_in {u : Nat → Int32} {n : Int} (h : g_th u n = true) : 0 ≤ n ∧ n < 1280 := by
  have h1 := g_th_iff.mp h
  unfold g_at at h1
  split at h1
  · assumption
  · exact absurd rfl h1
def vc_X6_basinOf (g_units : Nat → Int32) (n : Int) (Q : Int → Prop) : Prop :=
(∀ L4 : Int → Int → Prop,
(∀ (x4_3 : Int) (x4_2 : Int), z_in x4_3 → z_in x4_2 → ((x4_3 ≥ 1280 → Q x4_2) ∧
(x4_3 < 1280 → (0 ≤ x4_2 ∧ x4_2 < 1280) ∧ (g_ok g_units) ∧ (g_th g_units x4_2 = true) ∧ (∀ (r4 : Int), z_in r4 → (r4 = m_dn (g_th g_units) (g_at g_units) x4_2) → ((r4 ≠ -1 → L4 (x4_3 + 1) r4) ∧
(r4 = -1 → Q x4_2))))) → L4 x4_3 x4_2) →
L4 0 n)
set_option maxHeartbeats 4000000 in
set_option maxRecDepth 100000 in
theorem wk_X6_basinOf (l : Launch) (D : va_G) (cA : Nat → ClassId) (t1 t2 : Nat) (g : Nat) (ga_units : Nat) (g_units : Nat → Int32) (ga_lengths : Nat) (g_lengths : Nat → Int32) (ga_offsets : Nat) (g_offsets : Nat → Int32) (g_step : Int) (n : Int) (h_g_step : z_in g_step) (h_n : z_in n) (Q : Int → Prop) (hv : vc_X6_basinOf g_units n Q) : Met l yX6_basinOf wsX6_basinOf ({ frames := 4, cells := 0, slots := 0, locals := 96 } : Room) (va_Pc [.ref g, .int (z_i n)] (z_B1 D cA t1 t2 [(g, .inr (1, [.ref ga_units, .ref ga_lengths, .ref ga_offsets, .int (z_i g_step)])), (ga_units, .inl (cA 1, 1280, .inl g_units)), (ga_lengths, .inl (cA 1, 32, .inl g_lengths)), (ga_offsets, .inl (cA 1, 32, .inl g_offsets))])) (va_Qi (z_ri Q) (fun _ _ => True) (fun _ => False)) 0 0 (fun _ => False) := by
  unfold vc_X6_basinOf at hv
  refine Met.ofW (cc := cX6_basinOf) (maxL := 5) (ret := (some .int)) (by decide +kernel) rfl ?_
  intro p e s m args below meth c s₁ B hml hv0
  obtain ⟨rfl, ⟨hK, hP⟩, hST⟩ := hv0
  have hx := B.exec
  have hb := B.bytes
  have hr := B.returns
  have hts := atoms_spec (ws := wsX6_basinOf) B.pre
  have hown : s.vm.findClass RX6 = some m.cls := findClass_of_methodNamed B.named
  have hlocks := B.notSynchronized
  have hS : va_S (fun _ : Nat => False) s.heap s.heap [] := va_S.rf
  have hl := lv_entry ([.ref g, .int (z_i n)]) (n := 5) (Nat.le_of_ble_eq_true rfl)
  rw [lg_entry_eq]
  generalize (lg_sl ([.ref g, .int (z_i n)]) ++ List.replicate (5 - (lg_sl ([.ref g, .int (z_i n)])).length) Slot.unset).toArray = ls at hl ⊢
  have hl : lv_has ls 5 [(0, .ref g), (1, .int (z_i n))] := hl
  refine lv_iload_n hx hb dX6_basinOf_0 rfl (lv_at hl 1 rfl) ?_
  refine lv_istore_n (lv' := [(2, .int (z_i n)), (0, .ref g), (1, .int (z_i n))]) hx hb dX6_basinOf_1 rfl hl (by decide) rfl (fun ls hl => ?_)
  refine lv_iconst (v := z_i 0) hx hb dX6_basinOf_2 rfl ?_
  refine lv_istore_n (lv' := [(3, .int (z_i 0)), (2, .int (z_i n)), (0, .ref g), (1, .int (z_i n))]) hx hb dX6_basinOf_3 rfl hl (by decide) rfl (fun ls hl => ?_)
  refine hv (fun (x4_3 : Int) (x4_2 : Int) => ∀ (H : Heap) (locs : List Loc) (ls : Array Slot), va_P D vwCl [(g, .inr (1, [.ref ga_units, .ref ga_lengths, .ref ga_offsets, .int (z_i g_step)])), (ga_units, .inl (cA 1, 1280, .inl g_units)), (ga_lengths, .inl (cA 1, 32, .inl g_lengths)), (ga_offsets, .inl (cA 1, 32, .inl g_offsets))] H → va_S (fun _ : Nat => False) s.heap H locs → lv_has ls 5 [(3, .int (z_i x4_3)), (2, .int (z_i x4_2)), (0, .ref g)] → W p l e _ s m _ below meth c H locs 0 0 _ (F0 m 4 ls [])) ?_ _ _ ls hP hS (lv_sub hl [0, 1, 2] rfl)
  intro x4_3 x4_2 h_x4_3 h_x4_2 hv H locs ls hP hS hl
  refine lv_iload_n hx hb dX6_basinOf_4 rfl (lv_at hl 0 rfl) ?_
  refine lv_sipush (v := z_i 1280) hx hb dX6_basinOf_5 (by decide) ?_
  refine lx_icmp_ge (tgt := 35) hx hb dX6_basinOf_8 (by decide) h_x4_3 (show z_in 1280 from ⟨by decide, by decide⟩) (fun hc => ?_) (fun hc => ?_)
  · have hv := hv.1 hc
    refine lv_iload_n hx hb dX6_basinOf_35 rfl (lv_at hl 1 rfl) ?_
    exact W.iret (v := z_i x4_2) hx hb hr (fun t ht hW => ⟨⟨z_i x4_2, (), rfl, ⟨x4_2, rfl, h_x4_2, hv⟩, trivial⟩, hS.F ht⟩) hS.2.2 dX6_basinOf_36
  · have hv := hv.2 hc
    refine lv_aload_n hx hb dX6_basinOf_11 rfl (lv_at hl 2 rfl) ?_
    refine lv_iload_n hx hb dX6_basinOf_12 rfl (lv_at hl 1 rfl) ?_
    obtain ⟨hp1, hv⟩ := hv
    obtain ⟨hp2, hv⟩ := hv
    obtain ⟨hp3, hv⟩ := hv
    refine va_calli (va_runS (As := [.ref g, .int (z_i x4_2)]) (rest := []) ⟨hx, hb, hml, hown, hts⟩ (mt_X6_downFrom l D cA t1 t2 g ga_units g_units ga_lengths g_lengths ga_offsets g_offsets g_step x4_2 h_g_step h_x4_2 hp1 hp2 hp3) (va_cwS 2 hts gX6_basinOf_X6_downFrom rfl rfl rfl (by decide +kernel) ⟨Nat.le_of_ble_eq_true rfl, Nat.le_of_ble_eq_true rfl⟩) ⟨z_bl1, fun U hU hW => ⟨rfl, z_b1 hK hP (hST.at hS (fun _ h => h.elim)) hU hW⟩⟩ rfl rfl hl.1 rfl (lv_room (Nat.le_of_ble_eq_true rfl)) dX6_basinOf_13 ⟨Nat.zero_le _, Nat.zero_le _⟩) hS (fun q _ h => h.elim) (fun q h => h.elim) (fun r0 u t H locs ht hvm hw hB hz1 hk1 hS => ?_)
    obtain ⟨r4, rfl, h_r4, hw⟩ := hw
    have hP := z_P_all hP hk1
    have hv := hv r4 h_r4 hw
    refine lv_istore (lv' := [(4, .int (z_i r4)), (3, .int (z_i x4_3)), (2, .int (z_i x4_2)), (0, .ref g)]) hx hb dX6_basinOf_16 hl (by decide) rfl (fun ls hl => ?_)
    refine lv_iload hx hb dX6_basinOf_18 (lv_at hl 0 rfl) ?_
    refine lv_iconst (v := z_i (-1)) hx hb dX6_basinOf_20 rfl ?_
    refine lx_icmp_ne (tgt := 26) hx hb dX6_basinOf_21 (by decide) h_r4 (show z_in (-1) from ⟨by decide, by decide⟩) (fun hc => ?_) (fun hc => ?_)
    · have hv := hv.1 hc
      refine lv_iload hx hb dX6_basinOf_26 (lv_at hl 0 rfl) ?_
      refine lv_istore_n (lv' := [(2, .int (z_i r4)), (4, .int (z_i r4)), (3, .int (z_i x4_3)), (0, .ref g)]) hx hb dX6_basinOf_28 rfl hl (by decide) rfl (fun ls hl => ?_)
      refine lv_iinc (v := z_i (x4_3 + 1)) (lv' := [(3, .int (z_i (x4_3 + 1))), (2, .int (z_i r4)), (4, .int (z_i r4)), (0, .ref g)]) hx hb dX6_basinOf_29 hl (k := 2) rfl (z_i_add _ _) (by decide) rfl (fun ls hl => ?_)
      refine lv_goto (tgt := 4) hx hb dX6_basinOf_32 (by decide) ?_
      exact hv _ _ ls hP hS (lv_sub hl [0, 1, 3] rfl)
    · have hv := hv.2 hc
      refine lv_iload_n hx hb dX6_basinOf_24 rfl (lv_at hl 2 rfl) ?_
      exact W.iret (v := z_i x4_2) hx hb hr (fun t ht hW => ⟨⟨z_i x4_2, (), rfl, ⟨x4_2, rfl, h_x4_2, hv⟩, trivial⟩, hS.F ht⟩) hS.2.2 dX6_basinOf_25
set_option maxHeartbeats 4000000 in
set_option maxRecDepth 100000 in
theorem mt_X6_basinOf (l : Launch) (D : va_G) (cA : Nat → ClassId) (t1 t2 : Nat) (g : Nat) (ga_units : Nat) (g_units : Nat → Int32) (ga_lengths : Nat) (g_lengths : Nat → Int32) (ga_offsets : Nat) (g_offsets : Nat → Int32) (g_step : Int) (n : Int) (h_g_step : z_in g_step) (h_n : z_in n) (hp1 : g_ok g_units) (hp2 : g_th g_units n = true) : Met l yX6_basinOf wsX6_basinOf ({ frames := 4, cells := 0, slots := 0, locals := 96 } : Room) (va_Pc [.ref g, .int (z_i n)] (z_B1 D cA t1 t2 [(g, .inr (1, [.ref ga_units, .ref ga_lengths, .ref ga_offsets, .int (z_i g_step)])), (ga_units, .inl (cA 1, 1280, .inl g_units)), (ga_lengths, .inl (cA 1, 32, .inl g_lengths)), (ga_offsets, .inl (cA 1, 32, .inl g_offsets))])) (va_Qi (z_ri (fun (r : Int) => r = m_bs (g_th g_units) (g_at g_units) n)) (fun _ _ => True) (fun _ => False)) 0 0 (fun _ => False) := by
  refine wk_X6_basinOf l D cA t1 t2 g ga_units g_units ga_lengths g_lengths ga_offsets g_offsets g_step n h_g_step h_n (fun (r : Int) => r = m_bs (g_th g_units) (g_at g_units) n) ?_
  unfold vc_X6_basinOf
  have hU : ∀ p, g_th g_units p = true → -8388608 ≤ g_at g_units p ∧ g_at g_units p ≤ 8388608 := fun p h => g_ok_at hp1 h
  intro L hL
  suffices H : ∀ (d : Nat) (a : Int), d ≤ 1280 → g_th g_units a = true → m_bsK (g_th g_units) (g_at g_units) d a = m_bs (g_th g_units) (g_at g_units) n → L (1280 - (d : Int)) a from H 1280 n (by omega) hp2 rfl
  intro d
  induction d with
  | zero =>
    intro a hd ha he
    have hr := g_th_in ha
    exact hL _ _ ⟨by omega, by omega⟩ ⟨by omega, by omega⟩ ⟨fun _ => he, fun h => absurd h (by omega)⟩
  | succ d ih =>
    intro a hd ha he
    have hr := g_th_in ha
    refine hL _ _ ⟨by omega, by omega⟩ ⟨by omega, by omega⟩ ⟨fun h => absurd h (by omega), fun h => ⟨hr, hp1, ha, ?_⟩⟩
    rintro r2 h2 rfl
    unfold m_bsK at he
    refine ⟨fun q => ?_, fun q => ?_⟩
    · rw [if_neg q] at he
      have := ih _ (by omega) (m_dn_th hU ha q).1 he
      rw [show 1280 - ((d + 1 : Nat) : Int) + 1 = 1280 - (d : Int) by omega]
      exact this
    · rw [if_pos q] at he
      exact he
