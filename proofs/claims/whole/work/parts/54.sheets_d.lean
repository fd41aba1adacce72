/-! point, count, volume, seen -/
def p_ans (T : Int → Bool) (U : Int → Int) (n what r : Int) : Prop :=
  if what = 0 then r = m_dn T U n
  else if what = 1 then r = m_bs T U n
  else if what = 2 then st_ans T U n r
  else if what = 3 then w_ans 1 T U n r
  else if what = 4 then r = m_kd T U n
  else if what = 5 then (if m_wa T U n = 0 then w_ans (-1) T U n r else r = -8388609)
  else if what = 6 then r = m_nc T n
  else r = -8388610
def p_cn (T : Int → Bool) (U : Int → Int) (n what : Int) : Bool :=
  if what = 0 then true
  else if what = 1 then m_wh T n
  else if what = 2 then decide (m_dn T U n = -1)
  else if what = 3 then decide (m_kd T U n = 1)
  else if what = 4 then decide (m_kd T U n = 3)
  else if what = 5 then decide (m_nc T n < 8)
  else false
def p_ct (T : Int → Bool) (U : Int → Int) (what : Int) : Nat → Int
  | 0 => 0
  | n + 1 => p_ct T U what n + (if T n = true ∧ p_cn T U n what = true then 1 else 0)
def p_ov (U : Int → Int) (mm what n : Int) : Int := (if what = 0 then 1 else -1) * (U n + U (n + 1) + U (n + 40) + U (n + 40 + 1) - 4096 * mm)
def p_vl (T : Int → Bool) (U : Int → Int) (mm what : Int) : Nat → Int
  | 0 => 0
  | n + 1 => p_vl T U mm what n + (if m_wh T n = true ∧ 0 < p_ov U mm what n then p_ov U mm what n else 0)
theorem g_wh_b {u : Nat → Int32} {n : Int} (hg : g_ok u) (h : m_wh (g_th u) n = true) : -33554432 ≤ g_at u n + g_at u (n + 1) + g_at u (n + 40) + g_at u (n + 40 + 1) ∧ g_at u n + g_at u (n + 1) + g_at u (n + 40) + g_at u (n + 40 + 1) ≤ 33554432 := by
  obtain ⟨h1, h2, h3, h4, -⟩ := m_wh_spec h
  have a1 := g_ok_at hg h1
  have a2 := g_ok_at hg h2
  have a3 := g_ok_at hg h3
  have a4 := g_ok_at hg h4
  omega
def vc_X7_point (x_water_queue : Nat → Int32) (x_water_heap : Nat → Int64) (x_water_reached : Nat → Int32) (x_water_heapSize : Int) (gi : Int) (i : Int) (j : Int) (what : Int) (g_units : Nat → Int32) (Q : Int → (Nat → Int32) → (Nat → Int64) → (Nat → Int32) → Int → Prop) : Prop :=
((0 ≤ gi ∧ gi < 4 → (∀ (r2 : Int), z_in r2 → (r2 = z_b (decide (m_no (g_th g_units) i j ≠ -1))) → ((r2 ≠ 0 → z_in ((40 * i) + j) ∧ (∀ v3 : Int, v3 = (40 * i) + j → ((what = 0 → (0 ≤ v3 ∧ v3 < 1280) ∧ (g_ok g_units) ∧ (g_th g_units v3 = true) ∧ (∀ (r9 : Int), z_in r9 → (r9 = m_dn (g_th g_units) (g_at g_units) v3) → Q r9 x_water_queue x_water_heap x_water_reached x_water_heapSize)) ∧
(what = 1 → (g_ok g_units) ∧ (g_th g_units v3 = true) ∧ (∀ (r12 : Int), z_in r12 → (r12 = m_bs (g_th g_units) (g_at g_units) v3) → Q r12 x_water_queue x_water_heap x_water_reached x_water_heapSize)) ∧
(what = 2 → (g_ok g_units) ∧ (g_th g_units v3 = true) ∧ (∀ (r15 : Int) (c16 : Nat → Int32), z_in r15 → (st_ans (g_th g_units) (g_at g_units) v3 r15) → Q r15 c16 x_water_heap x_water_reached x_water_heapSize)) ∧
(what = 3 → (g_ok g_units) ∧ (g_th g_units v3 = true) ∧ (∀ (r19 : Int) (c20 : Nat → Int64) (c21 : Nat → Int32) (c22 : Int), z_in r19 → z_in c22 → (w_ans 1 (g_th g_units) (g_at g_units) v3 r19) → Q r19 x_water_queue c20 c21 c22)) ∧
(what = 4 → (0 ≤ v3 ∧ v3 < 1280) ∧ (∀ (r24 : Int), z_in r24 → (r24 = m_kd (g_th g_units) (g_at g_units) v3) → Q r24 x_water_queue x_water_heap x_water_reached x_water_heapSize)) ∧
(what = 5 → (0 ≤ v3 ∧ v3 < 1280) ∧ (∀ (r26 : Int), z_in r26 → (r26 = z_b (decide (m_wa (g_th g_units) (g_at g_units) v3 = 0))) → ((r26 = 0 → Q (-8388609) x_water_queue x_water_heap x_water_reached x_water_heapSize) ∧
(r26 ≠ 0 → (g_ok g_units) ∧ (g_th g_units v3 = true) ∧ (∀ (r29 : Int) (c30 : Nat → Int64) (c31 : Nat → Int32) (c32 : Int), z_in r29 → z_in c32 → (w_ans (-1) (g_th g_units) (g_at g_units) v3 r29) → Q r29 x_water_queue c30 c31 c32))))) ∧
(what = 6 → (0 ≤ v3 ∧ v3 < 1280) ∧ (∀ (r34 : Int), z_in r34 → (r34 = m_nc (g_th g_units) v3) → Q r34 x_water_queue x_water_heap x_water_reached x_water_heapSize)) ∧
((what < 0 ∨ 6 < what) → Q (-8388610) x_water_queue x_water_heap x_water_reached x_water_heapSize)))) ∧
(r2 = 0 → Q (-8388610) x_water_queue x_water_heap x_water_reached x_water_heapSize)))) ∧
(¬ (0 ≤ gi ∧ gi < 4) → Q (-8388610) x_water_queue x_water_heap x_water_reached x_water_heapSize))
set_option maxHeartbeats 4000000 in
set_option maxRecDepth 100000 in
theorem wk_X7_point (l : Launch) (D : va_G) (cA : Nat → ClassId) (t1 t2 : Nat) (x : Nat) (xa_grids : Nat) (x_grids : Nat → Option Nat) (x_levelMm : Nat) (x_levelCount : Int) (x_water : Nat) (x_watera_queue : Nat) (x_water_queue : Nat → Int32) (x_watera_heap : Nat) (x_water_heap : Nat → Int64) (x_watera_reached : Nat) (x_water_reached : Nat → Int32) (x_water_heapSize : Int) (x_scratch : Nat) (x_lines : Nat) (gi : Int) (i : Int) (j : Int) (what : Int) (g : Nat) (ga_units : Nat) (g_units : Nat → Int32) (ga_lengths : Nat) (g_lengths : Nat → Int32) (ga_offsets : Nat) (g_offsets : Nat → Int32) (g_step : Int) (h_x_levelCount : z_in x_levelCount) (h_x_water_heapSize : z_in x_water_heapSize) (h_gi : z_in gi) (h_i : z_in i) (h_j : z_in j) (h_what : z_in what) (h_g_step : z_in g_step) (hg_gi : 0 ≤ gi ∧ gi < 4 → x_grids gi.toNat = some g) (Q : Int → (Nat → Int32) → (Nat → Int64) → (Nat → Int32) → Int → Prop) (hv : vc_X7_point x_water_queue x_water_heap x_water_reached x_water_heapSize gi i j what g_units Q) : Met l yX7_point wsX7_point ({ frames := 7, cells := 0, slots := 0, locals := 160 } : Room) (va_Pc [.ref x, .int (z_i gi), .int (z_i i), .int (z_i j), .int (z_i what)] (z_M1 D cA t1 t2 [(x, .inr (5, [.ref xa_grids, .ref x_levelMm, .int (z_i x_levelCount), .ref x_water, .ref x_scratch, .ref x_lines])), (xa_grids, .inl (cA 4, 4, .inr (.inr (.inr (.inr x_grids))))), (x_water, .inr (4, [.ref x_watera_queue, .ref x_watera_heap, .ref x_watera_reached, .int (z_i x_water_heapSize)])), (x_watera_queue, .inl (cA 1, 1280, .inl x_water_queue)), (x_watera_heap, .inl (cA 2, 1280, .inr (.inl x_water_heap))), (x_watera_reached, .inl (cA 0, 1280, .inl x_water_reached)), (g, .inr (1, [.ref ga_units, .ref ga_lengths, .ref ga_offsets, .int (z_i g_step)])), (ga_units, .inl (cA 1, 1280, .inl g_units)), (ga_lengths, .inl (cA 1, 32, .inl g_lengths)), (ga_offsets, .inl (cA 1, 32, .inl g_offsets))])) (va_Qi (z_mi (fun v (u : (Nat → Int32) × (Nat → Int64) × (Nat → Int32) × Int) => z_in u.2.2.2 ∧ Q v u.1 u.2.1 u.2.2.1 u.2.2.2)) (fun (u : (Nat → Int32) × (Nat → Int64) × (Nat → Int32) × Int) t => va_P D vwCl [(x, .inr (5, [.ref xa_grids, .ref x_levelMm, .int (z_i x_levelCount), .ref x_water, .ref x_scratch, .ref x_lines])), (xa_grids, .inl (cA 4, 4, .inr (.inr (.inr (.inr x_grids))))), (x_water, .inr (4, [.ref x_watera_queue, .ref x_watera_heap, .ref x_watera_reached, .int (z_i u.2.2.2)])), (x_watera_queue, .inl (cA 1, 1280, .inl u.1)), (x_watera_heap, .inl (cA 2, 1280, .inr (.inl u.2.1))), (x_watera_reached, .inl (cA 0, 1280, .inl u.2.2.1)), (g, .inr (1, [.ref ga_units, .ref ga_lengths, .ref ga_offsets, .int (z_i g_step)])), (ga_units, .inl (cA 1, 1280, .inl g_units)), (ga_lengths, .inl (cA 1, 32, .inl g_lengths)), (ga_offsets, .inl (cA 1, 32, .inl g_offsets))] t.heap) (z_A [(x, .inr (5, [.ref xa_grids, .ref x_levelMm, .int (z_i x_levelCount), .ref x_water, .ref x_scratch, .ref x_lines])), (xa_grids, .inl (cA 4, 4, .inr (.inr (.inr (.inr x_grids))))), (x_water, .inr (4, [.ref x_watera_queue, .ref x_watera_heap, .ref x_watera_reached, .int (z_i x_water_heapSize)])), (x_watera_queue, .inl (cA 1, 1280, .inl x_water_queue)), (x_watera_heap, .inl (cA 2, 1280, .inr (.inl x_water_heap))), (x_watera_reached, .inl (cA 0, 1280, .inl x_water_reached)), (g, .inr (1, [.ref ga_units, .ref ga_lengths, .ref ga_offsets, .int (z_i g_step)])), (ga_units, .inl (cA 1, 1280, .inl g_units)), (ga_lengths, .inl (cA 1, 32, .inl g_lengths)), (ga_offsets, .inl (cA 1, 32, .inl g_offsets))])) 0 0 (z_A [(x, .inr (5, [.ref xa_grids, .ref x_levelMm, .int (z_i x_levelCount), .ref x_water, .ref x_scratch, .ref x_lines])), (xa_grids, .inl (cA 4, 4, .inr (.inr (.inr (.inr x_grids))))), (x_water, .inr (4, [.ref x_watera_queue, .ref x_watera_heap, .ref x_watera_reached, .int (z_i x_water_heapSize)])), (x_watera_queue, .inl (cA 1, 1280, .inl x_water_queue)), (x_watera_heap, .inl (cA 2, 1280, .inr (.inl x_water_heap))), (x_watera_reached, .inl (cA 0, 1280, .inl x_water_reached)), (g, .inr (1, [.ref ga_units, .ref ga_lengths, .ref ga_offsets, .int (z_i g_step)])), (ga_units, .inl (cA 1, 1280, .inl g_units)), (ga_lengths, .inl (cA 1, 32, .inl g_lengths)), (ga_offsets, .inl (cA 1, 32, .inl g_offsets))]) := by
  unfold vc_X7_point at hv
  refine Met.ofW (cc := cX7_point) (maxL := 7) (ret := (some .int)) (by decide +kernel) rfl ?_
  intro p e s m args below meth c s₁ B hml hv0
  obtain ⟨rfl, ⟨hK, hP, hD0⟩, hST⟩ := hv0
  have hx := B.exec
  have hb := B.bytes
  have hr := B.returns
  have hts := atoms_spec (ws := wsX7_point) B.pre
  have hown : s.vm.findClass RX7 = some m.cls := findClass_of_methodNamed B.named
  have hlocks := B.notSynchronized
  have hD := z_D_self hD0
  generalize hAe : z_A [(x, .inr (5, [.ref xa_grids, .ref x_levelMm, .int (z_i x_levelCount), .ref x_water, .ref x_scratch, .ref x_lines])), (xa_grids, .inl (cA 4, 4, .inr (.inr (.inr (.inr x_grids))))), (x_water, .inr (4, [.ref x_watera_queue, .ref x_watera_heap, .ref x_watera_reached, .int (z_i x_water_heapSize)])), (x_watera_queue, .inl (cA 1, 1280, .inl x_water_queue)), (x_watera_heap, .inl (cA 2, 1280, .inr (.inl x_water_heap))), (x_watera_reached, .inl (cA 0, 1280, .inl x_water_reached)), (g, .inr (1, [.ref ga_units, .ref ga_lengths, .ref ga_offsets, .int (z_i g_step)])), (ga_units, .inl (cA 1, 1280, .inl g_units)), (ga_lengths, .inl (cA 1, 32, .inl g_lengths)), (ga_offsets, .inl (cA 1, 32, .inl g_offsets))] = A at *
  have hS : va_S A s.heap s.heap [] := va_S.rf
  have hl := lv_entry ([.ref x, .int (z_i gi), .int (z_i i), .int (z_i j), .int (z_i what)]) (n := 7) (Nat.le_of_ble_eq_true rfl)
  rw [lg_entry_eq]
  generalize (lg_sl ([.ref x, .int (z_i gi), .int (z_i i), .int (z_i j), .int (z_i what)]) ++ List.replicate (7 - (lg_sl ([.ref x, .int (z_i gi), .int (z_i i), .int (z_i j), .int (z_i what)])).length) Slot.unset).toArray = ls at hl ⊢
  have hl : lv_has ls 7 [(0, .ref x), (1, .int (z_i gi)), (2, .int (z_i i)), (3, .int (z_i j)), (4, .int (z_i what))] := hl
  refine lv_aload_n hx hb dX7_point_0 rfl (lv_at hl 0 rfl) ?_
  refine lv_iload_n hx hb dX7_point_1 rfl (lv_at hl 1 rfl) ?_
  refine va_callq (va_runV (As := [.int (z_i gi)]) (rest := []) ⟨hx, hb, hml, hown, hts⟩ (mt_X7_gridOf l D cA x xa_grids x_grids x_levelMm x_levelCount x_water x_scratch x_lines gi h_x_levelCount h_gi) (cwV 1 hts gX7_point_X7_gridOf rfl rfl rfl (by decide +kernel) ⟨Nat.le_of_ble_eq_true rfl, Nat.le_of_ble_eq_true rfl⟩) ⟨z_bl0, va_recv hK hP (ci := 5) (q0 := 0) rfl rfl, fun U hU hW => ⟨rfl, z_b0 hK (hP.sub (ws' := [(x, .inr (5, [.ref xa_grids, .ref x_levelMm, .int (z_i x_levelCount), .ref x_water, .ref x_scratch, .ref x_lines])), (xa_grids, .inl (cA 4, 4, .inr (.inr (.inr (.inr x_grids)))))]) [0, 1] rfl) hU hW⟩⟩ rfl rfl hl.1 rfl (lv_room (Nat.le_of_ble_eq_true rfl)) dX7_point_2 ⟨Nat.zero_le _, Nat.zero_le _⟩) hS (fun q _ h => h.elim) (fun q h => h.elim) (fun r0 u t H locs ht hvm hw hB hz1 hk1 hS => ?_)
  have hq1 := hw
  have hP := z_P_all hP hk1
  by_cases hc : 0 ≤ gi ∧ gi < 4
  · have hv := hv.1 hc
    rw [hq1, if_pos hc, hg_gi hc, z_rf_s]
    refine lv_astore (lv' := [(5, .ref g), (0, .ref x), (1, .int (z_i gi)), (2, .int (z_i i)), (3, .int (z_i j)), (4, .int (z_i what))]) hx hb dX7_point_5 hl (by decide) rfl (fun ls hl => ?_)
    refine lv_aload hx hb dX7_point_7 (lv_at hl 0 rfl) ?_
    refine lv_ifnull hx hb dX7_point_9 ?_
    refine lv_aload hx hb dX7_point_12 (lv_at hl 0 rfl) ?_
    refine lv_iload_n hx hb dX7_point_14 rfl (lv_at hl 3 rfl) ?_
    refine lv_iload_n hx hb dX7_point_15 rfl (lv_at hl 4 rfl) ?_
    refine va_calli (va_runV (As := [.int (z_i i), .int (z_i j)]) (rest := []) ⟨hx, hb, hml, hown, hts⟩ (mt_X2_has l D cA g ga_units g_units ga_lengths g_lengths ga_offsets g_offsets g_step i j h_g_step h_i h_j) (cwV 2 hts gX7_point_X2_has rfl rfl rfl (by decide +kernel) ⟨Nat.le_of_ble_eq_true rfl, Nat.le_of_ble_eq_true rfl⟩) ⟨z_bl0, va_recv hK hP (ci := 1) (q0 := 6) rfl rfl, fun U hU hW => ⟨rfl, z_b0 hK (hP.sub (ws' := [(g, .inr (1, [.ref ga_units, .ref ga_lengths, .ref ga_offsets, .int (z_i g_step)])), (ga_units, .inl (cA 1, 1280, .inl g_units)), (ga_lengths, .inl (cA 1, 32, .inl g_lengths)), (ga_offsets, .inl (cA 1, 32, .inl g_offsets))]) [6, 7, 8, 9] rfl) hU hW⟩⟩ rfl rfl hl.1 rfl (lv_room (Nat.le_of_ble_eq_true rfl)) dX7_point_16 ⟨Nat.zero_le _, Nat.zero_le _⟩) hS (fun q _ h => h.elim) (fun q h => h.elim) (fun r0 u t H locs ht hvm hw hB hz1 hk1 hS => ?_)
    obtain ⟨r2, rfl, h_r2, hw⟩ := hw
    have hP := z_P_all hP hk1
    have hv := hv r2 h_r2 hw
    refine lx_if_ne (tgt := 25) hx hb dX7_point_19 (by decide) h_r2 (fun hc => ?_) (fun hc => ?_)
    · have hv := hv.1 hc
      refine lv_bipush (v := z_i 40) hx hb dX7_point_25 (by decide) ?_
      refine lv_iload_n hx hb dX7_point_27 rfl (lv_at hl 3 rfl) ?_
      refine lx_imul hx hb dX7_point_28 ?_
      refine lv_iload_n hx hb dX7_point_29 rfl (lv_at hl 4 rfl) ?_
      refine lx_iadd hx hb dX7_point_30 ?_
      obtain ⟨hr4, hv⟩ := hv
      refine lx_topi (fun v3 hy5 => ?_)
      have hv := hv v3 hy5
      have h_v3 : z_in v3 := by rw [hy5]; exact hr4
      refine lv_istore (lv' := [(6, .int (z_i v3)), (5, .ref g), (0, .ref x), (1, .int (z_i gi)), (2, .int (z_i i)), (3, .int (z_i j)), (4, .int (z_i what))]) hx hb dX7_point_31 hl (by decide) rfl (fun ls hl => ?_)
      refine lv_iload hx hb dX7_point_33 (lv_at hl 6 rfl) ?_
      have hto := z_i_to h_what
      rcases (show what = 0 ∨ what = 1 ∨ what = 2 ∨ what = 3 ∨ what = 4 ∨ what = 5 ∨ what = 6 ∨ (what < 0 ∨ 6 < what) by omega) with hc | hc | hc | hc | hc | hc | hc | hc
      · have hv := hv.1 hc
        refine lv_tableIn (off := 41) (tgt := 76) hx hb dX7_point_35 (by rw [hto, hc]; decide) (by rw [hto, hc]; decide) (by rw [hto, hc]; decide) (by decide) ?_
        refine lv_aload hx hb dX7_point_76 (lv_at hl 1 rfl) ?_
        refine lv_iload hx hb dX7_point_78 (lv_at hl 0 rfl) ?_
        obtain ⟨hp6, hv⟩ := hv
        obtain ⟨hp7, hv⟩ := hv
        obtain ⟨hp8, hv⟩ := hv
        refine va_calli (va_runS (As := [.ref g, .int (z_i v3)]) (rest := []) ⟨hx, hb, hml, hown, hts⟩ (mt_X6_downFrom l D cA t1 t2 g ga_units g_units ga_lengths g_lengths ga_offsets g_offsets g_step v3 h_g_step h_v3 hp6 hp7 hp8) (va_cwS 2 hts gX7_point_X6_downFrom rfl rfl rfl (by decide +kernel) ⟨Nat.le_of_ble_eq_true rfl, Nat.le_of_ble_eq_true rfl⟩) ⟨z_bl1, fun U hU hW => ⟨rfl, z_b1 hK (hP.sub (ws' := [(g, .inr (1, [.ref ga_units, .ref ga_lengths, .ref ga_offsets, .int (z_i g_step)])), (ga_units, .inl (cA 1, 1280, .inl g_units)), (ga_lengths, .inl (cA 1, 32, .inl g_lengths)), (ga_offsets, .inl (cA 1, 32, .inl g_offsets))]) [6, 7, 8, 9] rfl) (hST.at hS (fun _ h => h.elim)) hU hW⟩⟩ rfl rfl hl.1 rfl (lv_room (Nat.le_of_ble_eq_true rfl)) dX7_point_80 ⟨Nat.zero_le _, Nat.zero_le _⟩) hS (fun q _ h => h.elim) (fun q h => h.elim) (fun r0 u t H locs ht hvm hw hB hz1 hk1 hS => ?_)
        obtain ⟨r9, rfl, h_r9, hw⟩ := hw
        have hP := z_P_all hP hk1
        have hv := hv r9 h_r9 hw
        exact W.iret (v := z_i r9) hx hb hr (fun t ht hW => ⟨⟨z_i r9, (x_water_queue, x_water_heap, x_water_reached, x_water_heapSize), rfl, ⟨r9, rfl, h_r9, h_x_water_heapSize, hv⟩, z_pt hP ht⟩, hS.F ht⟩) hS.2.2 dX7_point_83
      · have hv := hv.2.1 hc
        refine lv_tableIn (off := 49) (tgt := 84) hx hb dX7_point_35 (by rw [hto, hc]; decide) (by rw [hto, hc]; decide) (by rw [hto, hc]; decide) (by decide) ?_
        refine lv_aload hx hb dX7_point_84 (lv_at hl 1 rfl) ?_
        refine lv_iload hx hb dX7_point_86 (lv_at hl 0 rfl) ?_
        obtain ⟨hp10, hv⟩ := hv
        obtain ⟨hp11, hv⟩ := hv
        refine va_calli (va_runS (As := [.ref g, .int (z_i v3)]) (rest := []) ⟨hx, hb, hml, hown, hts⟩ (mt_X6_basinOf l D cA t1 t2 g ga_units g_units ga_lengths g_lengths ga_offsets g_offsets g_step v3 h_g_step h_v3 hp10 hp11) (va_cwS 2 hts gX7_point_X6_basinOf rfl rfl rfl (by decide +kernel) ⟨Nat.le_of_ble_eq_true rfl, Nat.le_of_ble_eq_true rfl⟩) ⟨z_bl1, fun U hU hW => ⟨rfl, z_b1 hK (hP.sub (ws' := [(g, .inr (1, [.ref ga_units, .ref ga_lengths, .ref ga_offsets, .int (z_i g_step)])), (ga_units, .inl (cA 1, 1280, .inl g_units)), (ga_lengths, .inl (cA 1, 32, .inl g_lengths)), (ga_offsets, .inl (cA 1, 32, .inl g_offsets))]) [6, 7, 8, 9] rfl) (hST.at hS (fun _ h => h.elim)) hU hW⟩⟩ rfl rfl hl.1 rfl (lv_room (Nat.le_of_ble_eq_true rfl)) dX7_point_88 ⟨Nat.zero_le _, Nat.zero_le _⟩) hS (fun q _ h => h.elim) (fun q h => h.elim) (fun r0 u t H locs ht hvm hw hB hz1 hk1 hS => ?_)
        obtain ⟨r12, rfl, h_r12, hw⟩ := hw
        have hP := z_P_all hP hk1
        have hv := hv r12 h_r12 hw
        exact W.iret (v := z_i r12) hx hb hr (fun t ht hW => ⟨⟨z_i r12, (x_water_queue, x_water_heap, x_water_reached, x_water_heapSize), rfl, ⟨r12, rfl, h_r12, h_x_water_heapSize, hv⟩, z_pt hP ht⟩, hS.F ht⟩) hS.2.2 dX7_point_91
      · have hv := hv.2.2.1 hc
        refine lv_tableIn (off := 57) (tgt := 92) hx hb dX7_point_35 (by rw [hto, hc]; decide) (by rw [hto, hc]; decide) (by rw [hto, hc]; decide) (by decide) ?_
        refine lv_aload_n hx hb dX7_point_92 rfl (lv_at hl 2 rfl) ?_
        refine va_get (D := D) (ci := 5) (v := .ref x_water) (C := RX7) (T := TX7) (N := 6) hx hb hts (fun w h => List.mem_cons_of_mem _ (List.mem_append_left _ (List.mem_append_left _ (List.mem_append_right _ h)))) hown hK hP 0 rfl rfl 3 (by decide) (hts (.fieldLink RX7 29 "ContourSheets" "water" "LContourSheets$Water;") (by decide +kernel)) (fun _ h9 => h9) rfl dX7_point_93 ?_
        refine lv_aload hx hb dX7_point_96 (lv_at hl 1 rfl) ?_
        refine lv_iload hx hb dX7_point_98 (lv_at hl 0 rfl) ?_
        obtain ⟨hp13, hv⟩ := hv
        obtain ⟨hp14, hv⟩ := hv
        have hFc := z_fr (A := A) (wc := [(x_water, .inr (4, [.ref x_watera_queue, .ref x_watera_heap, .ref x_watera_reached, .int (z_i x_water_heapSize)])), (x_watera_queue, .inl (cA 1, 1280, .inl x_water_queue)), (x_watera_heap, .inl (cA 2, 1280, .inr (.inl x_water_heap))), (x_watera_reached, .inl (cA 0, 1280, .inl x_water_reached)), (g, .inr (1, [.ref ga_units, .ref ga_lengths, .ref ga_offsets, .int (z_i g_step)])), (ga_units, .inl (cA 1, 1280, .inl g_units)), (ga_lengths, .inl (cA 1, 32, .inl g_lengths)), (ga_offsets, .inl (cA 1, 32, .inl g_offsets))]) hD [2, 3, 4, 5, 6, 7, 8, 9] rfl
        refine va_calli (va_runV (As := [.ref g, .int (z_i v3)]) (rest := []) ⟨hx, hb, hml, hown, hts⟩ (mt_X6_streamAt l D cA t1 t2 x_water x_watera_queue x_water_queue x_watera_heap x_water_heap x_watera_reached x_water_reached x_water_heapSize g ga_units g_units ga_lengths g_lengths ga_offsets g_offsets g_step v3 h_x_water_heapSize h_g_step h_v3 hp13 hp14) (cwV 2 hts gX7_point_X6_streamAt rfl rfl rfl (by decide +kernel) ⟨Nat.le_of_ble_eq_true rfl, Nat.le_of_ble_eq_true rfl⟩) ⟨z_blm1, va_recv hK hP (ci := 4) (q0 := 2) rfl rfl, fun U hU hW => ⟨rfl, z_m1 hK (hP.sub (ws' := [(x_water, .inr (4, [.ref x_watera_queue, .ref x_watera_heap, .ref x_watera_reached, .int (z_i x_water_heapSize)])), (x_watera_queue, .inl (cA 1, 1280, .inl x_water_queue)), (x_watera_heap, .inl (cA 2, 1280, .inr (.inl x_water_heap))), (x_watera_reached, .inl (cA 0, 1280, .inl x_water_reached)), (g, .inr (1, [.ref ga_units, .ref ga_lengths, .ref ga_offsets, .int (z_i g_step)])), (ga_units, .inl (cA 1, 1280, .inl g_units)), (ga_lengths, .inl (cA 1, 32, .inl g_lengths)), (ga_offsets, .inl (cA 1, 32, .inl g_offsets))]) [2, 3, 4, 5, 6, 7, 8, 9] rfl) (hD.sub (ws' := [(x_water, .inr (4, [.ref x_watera_queue, .ref x_watera_heap, .ref x_watera_reached, .int (z_i x_water_heapSize)])), (x_watera_queue, .inl (cA 1, 1280, .inl x_water_queue)), (x_watera_heap, .inl (cA 2, 1280, .inr (.inl x_water_heap))), (x_watera_reached, .inl (cA 0, 1280, .inl x_water_reached)), (g, .inr (1, [.ref ga_units, .ref ga_lengths, .ref ga_offsets, .int (z_i g_step)])), (ga_units, .inl (cA 1, 1280, .inl g_units)), (ga_lengths, .inl (cA 1, 32, .inl g_lengths)), (ga_offsets, .inl (cA 1, 32, .inl g_offsets))]) [2, 3, 4, 5, 6, 7, 8, 9] (by decide) rfl) (hST.at hS hFc) hU hW⟩⟩ rfl rfl hl.1 rfl (lv_room (Nat.le_of_ble_eq_true rfl)) dX7_point_100 ⟨Nat.zero_le _, Nat.zero_le _⟩) hS (fun q _ h => hFc q h) hFc (fun r0 u t H locs ht hvm hw hB hz1 hk1 hS => ?_)
        obtain ⟨r15, rfl, h_r15, hw⟩ := hw
        obtain ⟨c16, rfl⟩ : ∃ z, z = u := ⟨_, rfl⟩
        rw [ht] at hB
        have hP := z_join2 (wc := [(x_water, .inr (4, [.ref x_watera_queue, .ref x_watera_heap, .ref x_watera_reached, .int (z_i x_water_heapSize)])), (x_watera_queue, .inl (cA 1, 1280, .inl x_water_queue)), (x_watera_heap, .inl (cA 2, 1280, .inr (.inl x_water_heap))), (x_watera_reached, .inl (cA 0, 1280, .inl x_water_reached)), (g, .inr (1, [.ref ga_units, .ref ga_lengths, .ref ga_offsets, .int (z_i g_step)])), (ga_units, .inl (cA 1, 1280, .inl g_units)), (ga_lengths, .inl (cA 1, 32, .inl g_lengths)), (ga_offsets, .inl (cA 1, 32, .inl g_offsets))]) (w1 := [(x_water, .inr (4, [.ref x_watera_queue, .ref x_watera_heap, .ref x_watera_reached, .int (z_i x_water_heapSize)])), (x_watera_queue, .inl (cA 1, 1280, .inl c16)), (x_watera_heap, .inl (cA 2, 1280, .inr (.inl x_water_heap))), (x_watera_reached, .inl (cA 0, 1280, .inl x_water_reached)), (g, .inr (1, [.ref ga_units, .ref ga_lengths, .ref ga_offsets, .int (z_i g_step)])), (ga_units, .inl (cA 1, 1280, .inl g_units)), (ga_lengths, .inl (cA 1, 32, .inl g_lengths)), (ga_offsets, .inl (cA 1, 32, .inl g_offsets))]) hP hD [2, 3, 4, 5, 6, 7, 8, 9] [0, 0, 1, 2, 3, 4, 5, 6, 7, 8] rfl rfl rfl hk1 hB
        have hP : va_P D vwCl [(x, .inr (5, [.ref xa_grids, .ref x_levelMm, .int (z_i x_levelCount), .ref x_water, .ref x_scratch, .ref x_lines])), (xa_grids, .inl (cA 4, 4, .inr (.inr (.inr (.inr x_grids))))), (x_water, .inr (4, [.ref x_watera_queue, .ref x_watera_heap, .ref x_watera_reached, .int (z_i x_water_heapSize)])), (x_watera_queue, .inl (cA 1, 1280, .inl c16)), (x_watera_heap, .inl (cA 2, 1280, .inr (.inl x_water_heap))), (x_watera_reached, .inl (cA 0, 1280, .inl x_water_reached)), (g, .inr (1, [.ref ga_units, .ref ga_lengths, .ref ga_offsets, .int (z_i g_step)])), (ga_units, .inl (cA 1, 1280, .inl g_units)), (ga_lengths, .inl (cA 1, 32, .inl g_lengths)), (ga_offsets, .inl (cA 1, 32, .inl g_offsets))] H := hP
        have hD : va_D A [(x, .inr (5, [.ref xa_grids, .ref x_levelMm, .int (z_i x_levelCount), .ref x_water, .ref x_scratch, .ref x_lines])), (xa_grids, .inl (cA 4, 4, .inr (.inr (.inr (.inr x_grids))))), (x_water, .inr (4, [.ref x_watera_queue, .ref x_watera_heap, .ref x_watera_reached, .int (z_i x_water_heapSize)])), (x_watera_queue, .inl (cA 1, 1280, .inl c16)), (x_watera_heap, .inl (cA 2, 1280, .inr (.inl x_water_heap))), (x_watera_reached, .inl (cA 0, 1280, .inl x_water_reached)), (g, .inr (1, [.ref ga_units, .ref ga_lengths, .ref ga_offsets, .int (z_i g_step)])), (ga_units, .inl (cA 1, 1280, .inl g_units)), (ga_lengths, .inl (cA 1, 32, .inl g_lengths)), (ga_offsets, .inl (cA 1, 32, .inl g_offsets))] := z_D_addr hD rfl
        have hv := hv r15 c16 h_r15 hw
        exact W.iret (v := z_i r15) hx hb hr (fun t ht hW => ⟨⟨z_i r15, (c16, x_water_heap, x_water_reached, x_water_heapSize), rfl, ⟨r15, rfl, h_r15, h_x_water_heapSize, hv⟩, z_pt hP ht⟩, hS.F ht⟩) hS.2.2 dX7_point_103
      · have hv := hv.2.2.2.1 hc
        refine lv_tableIn (off := 69) (tgt := 104) hx hb dX7_point_35 (by rw [hto, hc]; decide) (by rw [hto, hc]; decide) (by rw [hto, hc]; decide) (by decide) ?_
        refine lv_aload_n hx hb dX7_point_104 rfl (lv_at hl 2 rfl) ?_
        refine va_get (D := D) (ci := 5) (v := .ref x_water) (C := RX7) (T := TX7) (N := 6) hx hb hts (fun w h => List.mem_cons_of_mem _ (List.mem_append_left _ (List.mem_append_left _ (List.mem_append_right _ h)))) hown hK hP 0 rfl rfl 3 (by decide) (hts (.fieldLink RX7 29 "ContourSheets" "water" "LContourSheets$Water;") (by decide +kernel)) (fun _ h9 => h9) rfl dX7_point_105 ?_
        refine lv_aload hx hb dX7_point_108 (lv_at hl 1 rfl) ?_
        refine lv_iload hx hb dX7_point_110 (lv_at hl 0 rfl) ?_
        obtain ⟨hp17, hv⟩ := hv
        obtain ⟨hp18, hv⟩ := hv
        have hFc := z_fr (A := A) (wc := [(x_water, .inr (4, [.ref x_watera_queue, .ref x_watera_heap, .ref x_watera_reached, .int (z_i x_water_heapSize)])), (x_watera_queue, .inl (cA 1, 1280, .inl x_water_queue)), (x_watera_heap, .inl (cA 2, 1280, .inr (.inl x_water_heap))), (x_watera_reached, .inl (cA 0, 1280, .inl x_water_reached)), (g, .inr (1, [.ref ga_units, .ref ga_lengths, .ref ga_offsets, .int (z_i g_step)])), (ga_units, .inl (cA 1, 1280, .inl g_units)), (ga_lengths, .inl (cA 1, 32, .inl g_lengths)), (ga_offsets, .inl (cA 1, 32, .inl g_offsets))]) hD [2, 3, 4, 5, 6, 7, 8, 9] rfl
        refine va_calli (va_runV (As := [.ref g, .int (z_i v3)]) (rest := []) ⟨hx, hb, hml, hown, hts⟩ (mt_X6_filled l D cA t1 t2 x_water x_watera_queue x_water_queue x_watera_heap x_water_heap x_watera_reached x_water_reached x_water_heapSize g ga_units g_units ga_lengths g_lengths ga_offsets g_offsets g_step v3 h_x_water_heapSize h_g_step h_v3 hp17 hp18) (cwV 2 hts gX7_point_X6_filled rfl rfl rfl (by decide +kernel) ⟨Nat.le_of_ble_eq_true rfl, Nat.le_of_ble_eq_true rfl⟩) ⟨z_blm1, va_recv hK hP (ci := 4) (q0 := 2) rfl rfl, fun U hU hW => ⟨rfl, z_m1 hK (hP.sub (ws' := [(x_water, .inr (4, [.ref x_watera_queue, .ref x_watera_heap, .ref x_watera_reached, .int (z_i x_water_heapSize)])), (x_watera_queue, .inl (cA 1, 1280, .inl x_water_queue)), (x_watera_heap, .inl (cA 2, 1280, .inr (.inl x_water_heap))), (x_watera_reached, .inl (cA 0, 1280, .inl x_water_reached)), (g, .inr (1, [.ref ga_units, .ref ga_lengths, .ref ga_offsets, .int (z_i g_step)])), (ga_units, .inl (cA 1, 1280, .inl g_units)), (ga_lengths, .inl (cA 1, 32, .inl g_lengths)), (ga_offsets, .inl (cA 1, 32, .inl g_offsets))]) [2, 3, 4, 5, 6, 7, 8, 9] rfl) (hD.sub (ws' := [(x_water, .inr (4, [.ref x_watera_queue, .ref x_watera_heap, .ref x_watera_reached, .int (z_i x_water_heapSize)])), (x_watera_queue, .inl (cA 1, 1280, .inl x_water_queue)), (x_watera_heap, .inl (cA 2, 1280, .inr (.inl x_water_heap))), (x_watera_reached, .inl (cA 0, 1280, .inl x_water_reached)), (g, .inr (1, [.ref ga_units, .ref ga_lengths, .ref ga_offsets, .int (z_i g_step)])), (ga_units, .inl (cA 1, 1280, .inl g_units)), (ga_lengths, .inl (cA 1, 32, .inl g_lengths)), (ga_offsets, .inl (cA 1, 32, .inl g_offsets))]) [2, 3, 4, 5, 6, 7, 8, 9] (by decide) rfl) (hST.at hS hFc) hU hW⟩⟩ rfl rfl hl.1 rfl (lv_room (Nat.le_of_ble_eq_true rfl)) dX7_point_112 ⟨Nat.zero_le _, Nat.zero_le _⟩) hS (fun q _ h => hFc q h) hFc (fun r0 u t H locs ht hvm hw hB hz1 hk1 hS => ?_)
        obtain ⟨r19, rfl, h_r19, hw⟩ := hw
        obtain ⟨c20, c21, c22⟩ := u
        rw [ht] at hB
        have hP := z_join2 (wc := [(x_water, .inr (4, [.ref x_watera_queue, .ref x_watera_heap, .ref x_watera_reached, .int (z_i x_water_heapSize)])), (x_watera_queue, .inl (cA 1, 1280, .inl x_water_queue)), (x_watera_heap, .inl (cA 2, 1280, .inr (.inl x_water_heap))), (x_watera_reached, .inl (cA 0, 1280, .inl x_water_reached)), (g, .inr (1, [.ref ga_units, .ref ga_lengths, .ref ga_offsets, .int (z_i g_step)])), (ga_units, .inl (cA 1, 1280, .inl g_units)), (ga_lengths, .inl (cA 1, 32, .inl g_lengths)), (ga_offsets, .inl (cA 1, 32, .inl g_offsets))]) (w1 := [(x_water, .inr (4, [.ref x_watera_queue, .ref x_watera_heap, .ref x_watera_reached, .int (z_i c22)])), (x_watera_queue, .inl (cA 1, 1280, .inl x_water_queue)), (x_watera_heap, .inl (cA 2, 1280, .inr (.inl c20))), (x_watera_reached, .inl (cA 0, 1280, .inl c21)), (g, .inr (1, [.ref ga_units, .ref ga_lengths, .ref ga_offsets, .int (z_i g_step)])), (ga_units, .inl (cA 1, 1280, .inl g_units)), (ga_lengths, .inl (cA 1, 32, .inl g_lengths)), (ga_offsets, .inl (cA 1, 32, .inl g_offsets))]) hP hD [2, 3, 4, 5, 6, 7, 8, 9] [0, 0, 1, 2, 3, 4, 5, 6, 7, 8] rfl rfl rfl hk1 hB
        have hP : va_P D vwCl [(x, .inr (5, [.ref xa_grids, .ref x_levelMm, .int (z_i x_levelCount), .ref x_water, .ref x_scratch, .ref x_lines])), (xa_grids, .inl (cA 4, 4, .inr (.inr (.inr (.inr x_grids))))), (x_water, .inr (4, [.ref x_watera_queue, .ref x_watera_heap, .ref x_watera_reached, .int (z_i c22)])), (x_watera_queue, .inl (cA 1, 1280, .inl x_water_queue)), (x_watera_heap, .inl (cA 2, 1280, .inr (.inl c20))), (x_watera_reached, .inl (cA 0, 1280, .inl c21)), (g, .inr (1, [.ref ga_units, .ref ga_lengths, .ref ga_offsets, .int (z_i g_step)])), (ga_units, .inl (cA 1, 1280, .inl g_units)), (ga_lengths, .inl (cA 1, 32, .inl g_lengths)), (ga_offsets, .inl (cA 1, 32, .inl g_offsets))] H := hP
        have hD : va_D A [(x, .inr (5, [.ref xa_grids, .ref x_levelMm, .int (z_i x_levelCount), .ref x_water, .ref x_scratch, .ref x_lines])), (xa_grids, .inl (cA 4, 4, .inr (.inr (.inr (.inr x_grids))))), (x_water, .inr (4, [.ref x_watera_queue, .ref x_watera_heap, .ref x_watera_reached, .int (z_i c22)])), (x_watera_queue, .inl (cA 1, 1280, .inl x_water_queue)), (x_watera_heap, .inl (cA 2, 1280, .inr (.inl c20))), (x_watera_reached, .inl (cA 0, 1280, .inl c21)), (g, .inr (1, [.ref ga_units, .ref ga_lengths, .ref ga_offsets, .int (z_i g_step)])), (ga_units, .inl (cA 1, 1280, .inl g_units)), (ga_lengths, .inl (cA 1, 32, .inl g_lengths)), (ga_offsets, .inl (cA 1, 32, .inl g_offsets))] := z_D_addr hD rfl
        obtain ⟨h_c22, hw⟩ := hw
        have hv := hv r19 c20 c21 c22 h_r19 h_c22 hw
        exact W.iret (v := z_i r19) hx hb hr (fun t ht hW => ⟨⟨z_i r19, (x_water_queue, c20, c21, c22), rfl, ⟨r19, rfl, h_r19, h_c22, hv⟩, z_pt hP ht⟩, hS.F ht⟩) hS.2.2 dX7_point_115
      · have hv := hv.2.2.2.2.1 hc
        refine lv_tableIn (off := 81) (tgt := 116) hx hb dX7_point_35 (by rw [hto, hc]; decide) (by rw [hto, hc]; decide) (by rw [hto, hc]; decide) (by decide) ?_
        refine lv_aload hx hb dX7_point_116 (lv_at hl 1 rfl) ?_
        refine lv_iload hx hb dX7_point_118 (lv_at hl 0 rfl) ?_
        obtain ⟨hp23, hv⟩ := hv
        refine va_calli (va_runV (As := [.int (z_i v3)]) (rest := []) ⟨hx, hb, hml, hown, hts⟩ (mt_X2_kindOf l D cA t1 t2 g ga_units g_units ga_lengths g_lengths ga_offsets g_offsets g_step v3 h_g_step h_v3 hp23) (cwV 1 hts gX7_point_X2_kindOf rfl rfl rfl (by decide +kernel) ⟨Nat.le_of_ble_eq_true rfl, Nat.le_of_ble_eq_true rfl⟩) ⟨z_bl1, va_recv hK hP (ci := 1) (q0 := 6) rfl rfl, fun U hU hW => ⟨rfl, z_b1 hK (hP.sub (ws' := [(g, .inr (1, [.ref ga_units, .ref ga_lengths, .ref ga_offsets, .int (z_i g_step)])), (ga_units, .inl (cA 1, 1280, .inl g_units)), (ga_lengths, .inl (cA 1, 32, .inl g_lengths)), (ga_offsets, .inl (cA 1, 32, .inl g_offsets))]) [6, 7, 8, 9] rfl) (hST.at hS (fun _ h => h.elim)) hU hW⟩⟩ rfl rfl hl.1 rfl (lv_room (Nat.le_of_ble_eq_true rfl)) dX7_point_120 ⟨Nat.zero_le _, Nat.zero_le _⟩) hS (fun q _ h => h.elim) (fun q h => h.elim) (fun r0 u t H locs ht hvm hw hB hz1 hk1 hS => ?_)
        obtain ⟨r24, rfl, h_r24, hw⟩ := hw
        have hP := z_P_all hP hk1
        have hv := hv r24 h_r24 hw
        exact W.iret (v := z_i r24) hx hb hr (fun t ht hW => ⟨⟨z_i r24, (x_water_queue, x_water_heap, x_water_reached, x_water_heapSize), rfl, ⟨r24, rfl, h_r24, h_x_water_heapSize, hv⟩, z_pt hP ht⟩, hS.F ht⟩) hS.2.2 dX7_point_123
      · have hv := hv.2.2.2.2.2.1 hc
        refine lv_tableIn (off := 89) (tgt := 124) hx hb dX7_point_35 (by rw [hto, hc]; decide) (by rw [hto, hc]; decide) (by rw [hto, hc]; decide) (by decide) ?_
        refine lv_aload hx hb dX7_point_124 (lv_at hl 1 rfl) ?_
        refine lv_iload hx hb dX7_point_126 (lv_at hl 0 rfl) ?_
        obtain ⟨hp25, hv⟩ := hv
        refine va_calli (va_runV (As := [.int (z_i v3)]) (rest := []) ⟨hx, hb, hml, hown, hts⟩ (mt_X2_isPeak l D cA t1 t2 g ga_units g_units ga_lengths g_lengths ga_offsets g_offsets g_step v3 h_g_step h_v3 hp25) (cwV 1 hts gX7_point_X2_isPeak rfl rfl rfl (by decide +kernel) ⟨Nat.le_of_ble_eq_true rfl, Nat.le_of_ble_eq_true rfl⟩) ⟨z_bl1, va_recv hK hP (ci := 1) (q0 := 6) rfl rfl, fun U hU hW => ⟨rfl, z_b1 hK (hP.sub (ws' := [(g, .inr (1, [.ref ga_units, .ref ga_lengths, .ref ga_offsets, .int (z_i g_step)])), (ga_units, .inl (cA 1, 1280, .inl g_units)), (ga_lengths, .inl (cA 1, 32, .inl g_lengths)), (ga_offsets, .inl (cA 1, 32, .inl g_offsets))]) [6, 7, 8, 9] rfl) (hST.at hS (fun _ h => h.elim)) hU hW⟩⟩ rfl rfl hl.1 rfl (lv_room (Nat.le_of_ble_eq_true rfl)) dX7_point_128 ⟨Nat.zero_le _, Nat.zero_le _⟩) hS (fun q _ h => h.elim) (fun q h => h.elim) (fun r0 u t H locs ht hvm hw hB hz1 hk1 hS => ?_)
        obtain ⟨r26, rfl, h_r26, hw⟩ := hw
        have hP := z_P_all hP hk1
        have hv := hv r26 h_r26 hw
        refine lx_if_eq (tgt := 148) hx hb dX7_point_131 (by decide) h_r26 (fun hc => ?_) (fun hc => ?_)
        · have hv := hv.1 hc
          refine lx_ldc (a := (-8388609)) hx hb hown (hts (.constant RX7 146 (-8388609)) (by decide +kernel)) (by decide) dX7_point_148 ?_
          exact W.iret (v := z_i (-8388609)) hx hb hr (fun t ht hW => ⟨⟨z_i (-8388609), (x_water_queue, x_water_heap, x_water_reached, x_water_heapSize), rfl, ⟨-8388609, rfl, (show z_in (-8388609) from ⟨by decide, by decide⟩), h_x_water_heapSize, hv⟩, z_pt hP ht⟩, hS.F ht⟩) hS.2.2 dX7_point_150
        · have hv := hv.2 hc
          refine lv_aload_n hx hb dX7_point_134 rfl (lv_at hl 2 rfl) ?_
          refine va_get (D := D) (ci := 5) (v := .ref x_water) (C := RX7) (T := TX7) (N := 6) hx hb hts (fun w h => List.mem_cons_of_mem _ (List.mem_append_left _ (List.mem_append_left _ (List.mem_append_right _ h)))) hown hK hP 0 rfl rfl 3 (by decide) (hts (.fieldLink RX7 29 "ContourSheets" "water" "LContourSheets$Water;") (by decide +kernel)) (fun _ h9 => h9) rfl dX7_point_135 ?_
          refine lv_aload hx hb dX7_point_138 (lv_at hl 1 rfl) ?_
          refine lv_iload hx hb dX7_point_140 (lv_at hl 0 rfl) ?_
          obtain ⟨hp27, hv⟩ := hv
          obtain ⟨hp28, hv⟩ := hv
          have hFc := z_fr (A := A) (wc := [(x_water, .inr (4, [.ref x_watera_queue, .ref x_watera_heap, .ref x_watera_reached, .int (z_i x_water_heapSize)])), (x_watera_queue, .inl (cA 1, 1280, .inl x_water_queue)), (x_watera_heap, .inl (cA 2, 1280, .inr (.inl x_water_heap))), (x_watera_reached, .inl (cA 0, 1280, .inl x_water_reached)), (g, .inr (1, [.ref ga_units, .ref ga_lengths, .ref ga_offsets, .int (z_i g_step)])), (ga_units, .inl (cA 1, 1280, .inl g_units)), (ga_lengths, .inl (cA 1, 32, .inl g_lengths)), (ga_offsets, .inl (cA 1, 32, .inl g_offsets))]) hD [2, 3, 4, 5, 6, 7, 8, 9] rfl
          refine va_calli (va_runV (As := [.ref g, .int (z_i v3)]) (rest := []) ⟨hx, hb, hml, hown, hts⟩ (mt_X6_saddle l D cA t1 t2 x_water x_watera_queue x_water_queue x_watera_heap x_water_heap x_watera_reached x_water_reached x_water_heapSize g ga_units g_units ga_lengths g_lengths ga_offsets g_offsets g_step v3 h_x_water_heapSize h_g_step h_v3 hp27 hp28) (cwV 2 hts gX7_point_X6_saddle rfl rfl rfl (by decide +kernel) ⟨Nat.le_of_ble_eq_true rfl, Nat.le_of_ble_eq_true rfl⟩) ⟨z_blm1, va_recv hK hP (ci := 4) (q0 := 2) rfl rfl, fun U hU hW => ⟨rfl, z_m1 hK (hP.sub (ws' := [(x_water, .inr (4, [.ref x_watera_queue, .ref x_watera_heap, .ref x_watera_reached, .int (z_i x_water_heapSize)])), (x_watera_queue, .inl (cA 1, 1280, .inl x_water_queue)), (x_watera_heap, .inl (cA 2, 1280, .inr (.inl x_water_heap))), (x_watera_reached, .inl (cA 0, 1280, .inl x_water_reached)), (g, .inr (1, [.ref ga_units, .ref ga_lengths, .ref ga_offsets, .int (z_i g_step)])), (ga_units, .inl (cA 1, 1280, .inl g_units)), (ga_lengths, .inl (cA 1, 32, .inl g_lengths)), (ga_offsets, .inl (cA 1, 32, .inl g_offsets))]) [2, 3, 4, 5, 6, 7, 8, 9] rfl) (hD.sub (ws' := [(x_water, .inr (4, [.ref x_watera_queue, .ref x_watera_heap, .ref x_watera_reached, .int (z_i x_water_heapSize)])), (x_watera_queue, .inl (cA 1, 1280, .inl x_water_queue)), (x_watera_heap, .inl (cA 2, 1280, .inr (.inl x_water_heap))), (x_watera_reached, .inl (cA 0, 1280, .inl x_water_reached)), (g, .inr (1, [.ref ga_units, .ref ga_lengths, .ref ga_offsets, .int (z_i g_step)])), (ga_units, .inl (cA 1, 1280, .inl g_units)), (ga_lengths, .inl (cA 1, 32, .inl g_lengths)), (ga_offsets, .inl (cA 1, 32, .inl g_offsets))]) [2, 3, 4, 5, 6, 7, 8, 9] (by decide) rfl) (hST.at hS hFc) hU hW⟩⟩ rfl rfl hl.1 rfl (lv_room (Nat.le_of_ble_eq_true rfl)) dX7_point_142 ⟨Nat.zero_le _, Nat.zero_le _⟩) hS (fun q _ h => hFc q h) hFc (fun r0 u t H locs ht hvm hw hB hz1 hk1 hS => ?_)
          obtain ⟨r29, rfl, h_r29, hw⟩ := hw
          obtain ⟨c30, c31, c32⟩ := u
          rw [ht] at hB
          have hP := z_join2 (wc := [(x_water, .inr (4, [.ref x_watera_queue, .ref x_watera_heap, .ref x_watera_reached, .int (z_i x_water_heapSize)])), (x_watera_queue, .inl (cA 1, 1280, .inl x_water_queue)), (x_watera_heap, .inl (cA 2, 1280, .inr (.inl x_water_heap))), (x_watera_reached, .inl (cA 0, 1280, .inl x_water_reached)), (g, .inr (1, [.ref ga_units, .ref ga_lengths, .ref ga_offsets, .int (z_i g_step)])), (ga_units, .inl (cA 1, 1280, .inl g_units)), (ga_lengths, .inl (cA 1, 32, .inl g_lengths)), (ga_offsets, .inl (cA 1, 32, .inl g_offsets))]) (w1 := [(x_water, .inr (4, [.ref x_watera_queue, .ref x_watera_heap, .ref x_watera_reached, .int (z_i c32)])), (x_watera_queue, .inl (cA 1, 1280, .inl x_water_queue)), (x_watera_heap, .inl (cA 2, 1280, .inr (.inl c30))), (x_watera_reached, .inl (cA 0, 1280, .inl c31)), (g, .inr (1, [.ref ga_units, .ref ga_lengths, .ref ga_offsets, .int (z_i g_step)])), (ga_units, .inl (cA 1, 1280, .inl g_units)), (ga_lengths, .inl (cA 1, 32, .inl g_lengths)), (ga_offsets, .inl (cA 1, 32, .inl g_offsets))]) hP hD [2, 3, 4, 5, 6, 7, 8, 9] [0, 0, 1, 2, 3, 4, 5, 6, 7, 8] rfl rfl rfl hk1 hB
          have hP : va_P D vwCl [(x, .inr (5, [.ref xa_grids, .ref x_levelMm, .int (z_i x_levelCount), .ref x_water, .ref x_scratch, .ref x_lines])), (xa_grids, .inl (cA 4, 4, .inr (.inr (.inr (.inr x_grids))))), (x_water, .inr (4, [.ref x_watera_queue, .ref x_watera_heap, .ref x_watera_reached, .int (z_i c32)])), (x_watera_queue, .inl (cA 1, 1280, .inl x_water_queue)), (x_watera_heap, .inl (cA 2, 1280, .inr (.inl c30))), (x_watera_reached, .inl (cA 0, 1280, .inl c31)), (g, .inr (1, [.ref ga_units, .ref ga_lengths, .ref ga_offsets, .int (z_i g_step)])), (ga_units, .inl (cA 1, 1280, .inl g_units)), (ga_lengths, .inl (cA 1, 32, .inl g_lengths)), (ga_offsets, .inl (cA 1, 32, .inl g_offsets))] H := hP
          have hD : va_D A [(x, .inr (5, [.ref xa_grids, .ref x_levelMm, .int (z_i x_levelCount), .ref x_water, .ref x_scratch, .ref x_lines])), (xa_grids, .inl (cA 4, 4, .inr (.inr (.inr (.inr x_grids))))), (x_water, .inr (4, [.ref x_watera_queue, .ref x_watera_heap, .ref x_watera_reached, .int (z_i c32)])), (x_watera_queue, .inl (cA 1, 1280, .inl x_water_queue)), (x_watera_heap, .inl (cA 2, 1280, .inr (.inl c30))), (x_watera_reached, .inl (cA 0, 1280, .inl c31)), (g, .inr (1, [.ref ga_units, .ref ga_lengths, .ref ga_offsets, .int (z_i g_step)])), (ga_units, .inl (cA 1, 1280, .inl g_units)), (ga_lengths, .inl (cA 1, 32, .inl g_lengths)), (ga_offsets, .inl (cA 1, 32, .inl g_offsets))] := z_D_addr hD rfl
          obtain ⟨h_c32, hw⟩ := hw
          have hv := hv r29 c30 c31 c32 h_r29 h_c32 hw
          refine lv_goto (tgt := 150) hx hb dX7_point_145 (by decide) ?_
          exact W.iret (v := z_i r29) hx hb hr (fun t ht hW => ⟨⟨z_i r29, (x_water_queue, c30, c31, c32), rfl, ⟨r29, rfl, h_r29, h_c32, hv⟩, z_pt hP ht⟩, hS.F ht⟩) hS.2.2 dX7_point_150
      · have hv := hv.2.2.2.2.2.2.1 hc
        refine lv_tableIn (off := 116) (tgt := 151) hx hb dX7_point_35 (by rw [hto, hc]; decide) (by rw [hto, hc]; decide) (by rw [hto, hc]; decide) (by decide) ?_
        refine lv_aload hx hb dX7_point_151 (lv_at hl 1 rfl) ?_
        refine lv_iload hx hb dX7_point_153 (lv_at hl 0 rfl) ?_
        obtain ⟨hp33, hv⟩ := hv
        refine va_calli (va_runV (As := [.int (z_i v3)]) (rest := []) ⟨hx, hb, hml, hown, hts⟩ (mt_X2_neighbourCount l D cA t1 t2 g ga_units g_units ga_lengths g_lengths ga_offsets g_offsets g_step v3 h_g_step h_v3 hp33) (cwV 1 hts gX7_point_X2_neighbourCount rfl rfl rfl (by decide +kernel) ⟨Nat.le_of_ble_eq_true rfl, Nat.le_of_ble_eq_true rfl⟩) ⟨z_bl1, va_recv hK hP (ci := 1) (q0 := 6) rfl rfl, fun U hU hW => ⟨rfl, z_b1 hK (hP.sub (ws' := [(g, .inr (1, [.ref ga_units, .ref ga_lengths, .ref ga_offsets, .int (z_i g_step)])), (ga_units, .inl (cA 1, 1280, .inl g_units)), (ga_lengths, .inl (cA 1, 32, .inl g_lengths)), (ga_offsets, .inl (cA 1, 32, .inl g_offsets))]) [6, 7, 8, 9] rfl) (hST.at hS (fun _ h => h.elim)) hU hW⟩⟩ rfl rfl hl.1 rfl (lv_room (Nat.le_of_ble_eq_true rfl)) dX7_point_155 ⟨Nat.zero_le _, Nat.zero_le _⟩) hS (fun q _ h => h.elim) (fun q h => h.elim) (fun r0 u t H locs ht hvm hw hB hz1 hk1 hS => ?_)
        obtain ⟨r34, rfl, h_r34, hw⟩ := hw
        have hP := z_P_all hP hk1
        have hv := hv r34 h_r34 hw
        exact W.iret (v := z_i r34) hx hb hr (fun t ht hW => ⟨⟨z_i r34, (x_water_queue, x_water_heap, x_water_reached, x_water_heapSize), rfl, ⟨r34, rfl, h_r34, h_x_water_heapSize, hv⟩, z_pt hP ht⟩, hS.F ht⟩) hS.2.2 dX7_point_158
      · have hv := hv.2.2.2.2.2.2.2 hc
        refine lv_tableOut (tgt := 159) hx hb dX7_point_35 (by rw [hto]; exact hc) (by decide) ?_
        refine lx_ldc (a := (-8388610)) hx hb hown (hts (.constant RX7 123 (-8388610)) (by decide +kernel)) (by decide) dX7_point_159 ?_
        exact W.iret (v := z_i (-8388610)) hx hb hr (fun t ht hW => ⟨⟨z_i (-8388610), (x_water_queue, x_water_heap, x_water_reached, x_water_heapSize), rfl, ⟨-8388610, rfl, (show z_in (-8388610) from ⟨by decide, by decide⟩), h_x_water_heapSize, hv⟩, z_pt hP ht⟩, hS.F ht⟩) hS.2.2 dX7_point_161
    · have hv := hv.2 hc
      refine lx_ldc (a := (-8388610)) hx hb hown (hts (.constant RX7 123 (-8388610)) (by decide +kernel)) (by decide) dX7_point_22 ?_
      exact W.iret (v := z_i (-8388610)) hx hb hr (fun t ht hW => ⟨⟨z_i (-8388610), (x_water_queue, x_water_heap, x_water_reached, x_water_heapSize), rfl, ⟨-8388610, rfl, (show z_in (-8388610) from ⟨by decide, by decide⟩), h_x_water_heapSize, hv⟩, z_pt hP ht⟩, hS.F ht⟩) hS.2.2 dX7_point_24
  · have hv := hv.2 hc
    rw [hq1, if_neg hc, z_rf_n]
    refine lv_astoreN (lv' := [(5, .null), (0, .ref x), (1, .int (z_i gi)), (2, .int (z_i i)), (3, .int (z_i j)), (4, .int (z_i what))]) hx hb dX7_point_5 hl (by decide) rfl (fun ls hl => ?_)
    refine lv_aloadN hx hb dX7_point_7 (lv_at hl 0 rfl) ?_
    refine lv_ifnullN (tgt := 22) hx hb dX7_point_9 (by decide) ?_
    refine lx_ldc (a := (-8388610)) hx hb hown (hts (.constant RX7 123 (-8388610)) (by decide +kernel)) (by decide) dX7_point_22 ?_
    exact W.iret (v := z_i (-8388610)) hx hb hr (fun t ht hW => ⟨⟨z_i (-8388610), (x_water_queue, x_water_heap, x_water_reached, x_water_heapSize), rfl, ⟨-8388610, rfl, (show z_in (-8388610) from ⟨by decide, by decide⟩), h_x_water_heapSize, hv⟩, z_pt hP ht⟩, hS.F ht⟩) hS.2.2 dX7_point_24
set_option maxHeartbeats 4000000 in
set_option maxRecDepth 100000 in
theorem mt_X7_point (l : Launch) (D : va_G) (cA : Nat → ClassId) (t1 t2 : Nat) (x : Nat) (xa_grids : Nat) (x_grids : Nat → Option Nat) (x_levelMm : Nat) (x_levelCount : Int) (x_water : Nat) (x_watera_queue : Nat) (x_water_queue : Nat → Int32) (x_watera_heap : Nat) (x_water_heap : Nat → Int64) (x_watera_reached : Nat) (x_water_reached : Nat → Int32) (x_water_heapSize : Int) (x_scratch : Nat) (x_lines : Nat) (gi : Int) (i : Int) (j : Int) (what : Int) (g : Nat) (ga_units : Nat) (g_units : Nat → Int32) (ga_lengths : Nat) (g_lengths : Nat → Int32) (ga_offsets : Nat) (g_offsets : Nat → Int32) (g_step : Int) (h_x_levelCount : z_in x_levelCount) (h_x_water_heapSize : z_in x_water_heapSize) (h_gi : z_in gi) (h_i : z_in i) (h_j : z_in j) (h_what : z_in what) (h_g_step : z_in g_step) (hg_gi : 0 ≤ gi ∧ gi < 4 → x_grids gi.toNat = some g) (hp1 : g_ok g_units) : Met l yX7_point wsX7_point ({ frames := 7, cells := 0, slots := 0, locals := 160 } : Room) (va_Pc [.ref x, .int (z_i gi), .int (z_i i), .int (z_i j), .int (z_i what)] (z_M1 D cA t1 t2 [(x, .inr (5, [.ref xa_grids, .ref x_levelMm, .int (z_i x_levelCount), .ref x_water, .ref x_scratch, .ref x_lines])), (xa_grids, .inl (cA 4, 4, .inr (.inr (.inr (.inr x_grids))))), (x_water, .inr (4, [.ref x_watera_queue, .ref x_watera_heap, .ref x_watera_reached, .int (z_i x_water_heapSize)])), (x_watera_queue, .inl (cA 1, 1280, .inl x_water_queue)), (x_watera_heap, .inl (cA 2, 1280, .inr (.inl x_water_heap))), (x_watera_reached, .inl (cA 0, 1280, .inl x_water_reached)), (g, .inr (1, [.ref ga_units, .ref ga_lengths, .ref ga_offsets, .int (z_i g_step)])), (ga_units, .inl (cA 1, 1280, .inl g_units)), (ga_lengths, .inl (cA 1, 32, .inl g_lengths)), (ga_offsets, .inl (cA 1, 32, .inl g_offsets))])) (va_Qi (z_mi (fun v (u : (Nat → Int32) × (Nat → Int64) × (Nat → Int32) × Int) => z_in u.2.2.2 ∧ (fun (r : Int) (x_water_queue' : (Nat → Int32)) (x_water_heap' : (Nat → Int64)) (x_water_reached' : (Nat → Int32)) (x_water_heapSize' : Int) => if (0 ≤ gi ∧ gi < 4) ∧ m_no (g_th g_units) i j ≠ -1 then p_ans (g_th g_units) (g_at g_units) (40 * i + j) what r else r = -8388610) v u.1 u.2.1 u.2.2.1 u.2.2.2)) (fun (u : (Nat → Int32) × (Nat → Int64) × (Nat → Int32) × Int) t => va_P D vwCl [(x, .inr (5, [.ref xa_grids, .ref x_levelMm, .int (z_i x_levelCount), .ref x_water, .ref x_scratch, .ref x_lines])), (xa_grids, .inl (cA 4, 4, .inr (.inr (.inr (.inr x_grids))))), (x_water, .inr (4, [.ref x_watera_queue, .ref x_watera_heap, .ref x_watera_reached, .int (z_i u.2.2.2)])), (x_watera_queue, .inl (cA 1, 1280, .inl u.1)), (x_watera_heap, .inl (cA 2, 1280, .inr (.inl u.2.1))), (x_watera_reached, .inl (cA 0, 1280, .inl u.2.2.1)), (g, .inr (1, [.ref ga_units, .ref ga_lengths, .ref ga_offsets, .int (z_i g_step)])), (ga_units, .inl (cA 1, 1280, .inl g_units)), (ga_lengths, .inl (cA 1, 32, .inl g_lengths)), (ga_offsets, .inl (cA 1, 32, .inl g_offsets))] t.heap) (z_A [(x, .inr (5, [.ref xa_grids, .ref x_levelMm, .int (z_i x_levelCount), .ref x_water, .ref x_scratch, .ref x_lines])), (xa_grids, .inl (cA 4, 4, .inr (.inr (.inr (.inr x_grids))))), (x_water, .inr (4, [.ref x_watera_queue, .ref x_watera_heap, .ref x_watera_reached, .int (z_i x_water_heapSize)])), (x_watera_queue, .inl (cA 1, 1280, .inl x_water_queue)), (x_watera_heap, .inl (cA 2, 1280, .inr (.inl x_water_heap))), (x_watera_reached, .inl (cA 0, 1280, .inl x_water_reached)), (g, .inr (1, [.ref ga_units, .ref ga_lengths, .ref ga_offsets, .int (z_i g_step)])), (ga_units, .inl (cA 1, 1280, .inl g_units)), (ga_lengths, .inl (cA 1, 32, .inl g_lengths)), (ga_offsets, .inl (cA 1, 32, .inl g_offsets))])) 0 0 (z_A [(x, .inr (5, [.ref xa_grids, .ref x_levelMm, .int (z_i x_levelCount), .ref x_water, .ref x_scratch, .ref x_lines])), (xa_grids, .inl (cA 4, 4, .inr (.inr (.inr (.inr x_grids))))), (x_water, .inr (4, [.ref x_watera_queue, .ref x_watera_heap, .ref x_watera_reached, .int (z_i x_water_heapSize)])), (x_watera_queue, .inl (cA 1, 1280, .inl x_water_queue)), (x_watera_heap, .inl (cA 2, 1280, .inr (.inl x_water_heap))), (x_watera_reached, .inl (cA 0, 1280, .inl x_water_reached)), (g, .inr (1, [.ref ga_units, .ref ga_lengths, .ref ga_offsets, .int (z_i g_step)])), (ga_units, .inl (cA 1, 1280, .inl g_units)), (ga_lengths, .inl (cA 1, 32, .inl g_lengths)), (ga_offsets, .inl (cA 1, 32, .inl g_offsets))]) := by
  refine wk_X7_point l D cA t1 t2 x xa_grids x_grids x_levelMm x_levelCount x_water x_watera_queue x_water_queue x_watera_heap x_water_heap x_watera_reached x_water_reached x_water_heapSize x_scratch x_lines gi i j what g ga_units g_units ga_lengths g_lengths ga_offsets g_offsets g_step h_x_levelCount h_x_water_heapSize h_gi h_i h_j h_what h_g_step hg_gi (fun (r : Int) (x_water_queue' : (Nat → Int32)) (x_water_heap' : (Nat → Int64)) (x_water_reached' : (Nat → Int32)) (x_water_heapSize' : Int) => if (0 ≤ gi ∧ gi < 4) ∧ m_no (g_th g_units) i j ≠ -1 then p_ans (g_th g_units) (g_at g_units) (40 * i + j) what r else r = -8388610) ?_
  unfold vc_X7_point
  have yes : ((0 ≤ gi ∧ gi < 4) ∧ m_no (g_th g_units) i j ≠ -1) → ∀ r : Int, p_ans (g_th g_units) (g_at g_units) (40 * i + j) what r → (if (0 ≤ gi ∧ gi < 4) ∧ m_no (g_th g_units) i j ≠ -1 then p_ans (g_th g_units) (g_at g_units) (40 * i + j) what r else r = -8388610) := fun hc r h => by rw [if_pos hc]; exact h
  have no : ¬ ((0 ≤ gi ∧ gi < 4) ∧ m_no (g_th g_units) i j ≠ -1) → (if (0 ≤ gi ∧ gi < 4) ∧ m_no (g_th g_units) i j ≠ -1 then p_ans (g_th g_units) (g_at g_units) (40 * i + j) what (-8388610) else (-8388610 : Int) = -8388610) := fun hc => by rw [if_neg hc]
  refine ⟨fun q => ?_, fun q => ?_⟩
  · rintro r2 _ rfl
    refine ⟨fun q0 => ?_, fun q0 => ?_⟩
    · have q1 := of_decide_eq_true (zb_t q0)
      have q4 := m_no_some q1
      have hin : 0 ≤ 40 * i + j ∧ 40 * i + j < 1280 := by omega
      have ht : g_th g_units (40 * i + j) = true := q4.2.2.2.2.2
      have yes : ∀ r : Int, p_ans (g_th g_units) (g_at g_units) (40 * i + j) what r → (if (0 ≤ gi ∧ gi < 4) ∧ m_no (g_th g_units) i j ≠ -1 then p_ans (g_th g_units) (g_at g_units) (40 * i + j) what r else r = -8388610) := fun r h => yes ⟨q, q1⟩ r h
      refine ⟨⟨by omega, by omega⟩, ?_⟩
      rintro v3 rfl
      refine ⟨?_, ?_, ?_, ?_, ?_, ?_, ?_, ?_⟩
      · rintro rfl
        refine ⟨hin, hp1, ht, ?_⟩
        intro r6 _ h
        refine yes _ ?_
        unfold p_ans; rw [if_pos (show (0 : Int) = 0 from rfl)]; exact h
      · rintro rfl
        refine ⟨hp1, ht, ?_⟩
        intro r6 _ h
        refine yes _ ?_
        unfold p_ans; rw [if_neg (show ¬ (1 : Int) = 0 by decide), if_pos (show (1 : Int) = 1 from rfl)]; exact h
      · rintro rfl
        refine ⟨hp1, ht, ?_⟩
        intro r6 c1 _ h
        refine yes _ ?_
        unfold p_ans; rw [if_neg (show ¬ (2 : Int) = 0 by decide), if_neg (show ¬ (2 : Int) = 1 by decide), if_pos (show (2 : Int) = 2 from rfl)]; exact h
      · rintro rfl
        refine ⟨hp1, ht, ?_⟩
        intro r6 c1 c2 c3 _ _ h
        refine yes _ ?_
        unfold p_ans; rw [if_neg (show ¬ (3 : Int) = 0 by decide), if_neg (show ¬ (3 : Int) = 1 by decide), if_neg (show ¬ (3 : Int) = 2 by decide), if_pos (show (3 : Int) = 3 from rfl)]; exact h
      · rintro rfl
        refine ⟨hin, ?_⟩
        intro r6 _ h
        refine yes _ ?_
        unfold p_ans; rw [if_neg (show ¬ (4 : Int) = 0 by decide), if_neg (show ¬ (4 : Int) = 1 by decide), if_neg (show ¬ (4 : Int) = 2 by decide), if_neg (show ¬ (4 : Int) = 3 by decide), if_pos (show (4 : Int) = 4 from rfl)]; exact h
      · rintro rfl
        refine ⟨hin, ?_⟩
        rintro r6 _ rfl
        refine ⟨fun q5 => ?_, fun q5 => ⟨hp1, ht, ?_⟩⟩
        · refine yes _ ?_
          unfold p_ans; rw [if_neg (show ¬ (5 : Int) = 0 by decide), if_neg (show ¬ (5 : Int) = 1 by decide), if_neg (show ¬ (5 : Int) = 2 by decide), if_neg (show ¬ (5 : Int) = 3 by decide), if_neg (show ¬ (5 : Int) = 4 by decide), if_pos (show (5 : Int) = 5 from rfl)]; rw [if_neg (of_decide_eq_false (zb_f q5))]
        · intro r26 c27 c28 c29 _ _ h
          refine yes _ ?_
          unfold p_ans; rw [if_neg (show ¬ (5 : Int) = 0 by decide), if_neg (show ¬ (5 : Int) = 1 by decide), if_neg (show ¬ (5 : Int) = 2 by decide), if_neg (show ¬ (5 : Int) = 3 by decide), if_neg (show ¬ (5 : Int) = 4 by decide), if_pos (show (5 : Int) = 5 from rfl)]; rw [if_pos (of_decide_eq_true (zb_t q5))]; exact h
      · rintro rfl
        refine ⟨hin, ?_⟩
        intro r6 _ h
        refine yes _ ?_
        unfold p_ans; rw [if_neg (show ¬ (6 : Int) = 0 by decide), if_neg (show ¬ (6 : Int) = 1 by decide), if_neg (show ¬ (6 : Int) = 2 by decide), if_neg (show ¬ (6 : Int) = 3 by decide), if_neg (show ¬ (6 : Int) = 4 by decide), if_neg (show ¬ (6 : Int) = 5 by decide), if_pos (show (6 : Int) = 6 from rfl)]; exact h
      · intro h
        refine yes _ ?_
        unfold p_ans
        rw [if_neg (by omega), if_neg (by omega), if_neg (by omega), if_neg (by omega), if_neg (by omega), if_neg (by omega), if_neg (by omega)]
    · have q1 := of_decide_eq_false (zb_f q0)
      exact no (fun h => q1 h.2)
  · exact no (fun h => q h.1)
def vc_X7_isCounted (g_units : Nat → Int32) (n : Int) (what : Int) (Q : Int → Prop) : Prop :=
((what = 0 → Q 1) ∧
(what = 1 → (0 ≤ n ∧ n < 1280) ∧ (∀ (r2 : Int), z_in r2 → (r2 = z_b (m_wh (g_th g_units) n)) → (r2 = 0 ∨ r2 = 1) ∧ Q r2)) ∧
(what = 2 → (0 ≤ n ∧ n < 1280) ∧ (g_ok g_units) ∧ (g_th g_units n = true) ∧ (∀ (r7 : Int), z_in r7 → (r7 = m_dn (g_th g_units) (g_at g_units) n) → ((r7 ≠ -1 → Q 0) ∧
(r7 = -1 → Q 1)))) ∧
(what = 3 → (0 ≤ n ∧ n < 1280) ∧ (∀ (r9 : Int), z_in r9 → (r9 = m_kd (g_th g_units) (g_at g_units) n) → ((r9 ≠ 1 → Q 0) ∧
(r9 = 1 → Q 1)))) ∧
(what = 4 → (0 ≤ n ∧ n < 1280) ∧ (∀ (r11 : Int), z_in r11 → (r11 = m_kd (g_th g_units) (g_at g_units) n) → ((r11 ≠ 3 → Q 0) ∧
(r11 = 3 → Q 1)))) ∧
(what = 5 → (0 ≤ n ∧ n < 1280) ∧ (∀ (r13 : Int), z_in r13 → (r13 = z_b (decide (m_nc (g_th g_units) n < 8))) → (r13 = 0 ∨ r13 = 1) ∧ Q r13)) ∧
((what < 0 ∨ 5 < what) → Q 0))
set_option maxHeartbeats 4000000 in
set_option maxRecDepth 100000 in
theorem wk_X7_isCounted (l : Launch) (D : va_G) (cA : Nat → ClassId) (t1 t2 : Nat) (g : Nat) (ga_units : Nat) (g_units : Nat → Int32) (ga_lengths : Nat) (g_lengths : Nat → Int32) (ga_offsets : Nat) (g_offsets : Nat → Int32) (g_step : Int) (n : Int) (what : Int) (h_g_step : z_in g_step) (h_n : z_in n) (h_what : z_in what) (Q : Int → Prop) (hv : vc_X7_isCounted g_units n what Q) : Met l yX7_isCounted wsX7_isCounted ({ frames := 6, cells := 0, slots := 0, locals := 133 } : Room) (va_Pc [.ref g, .int (z_i n), .int (z_i what)] (z_B1 D cA t1 t2 [(g, .inr (1, [.ref ga_units, .ref ga_lengths, .ref ga_offsets, .int (z_i g_step)])), (ga_units, .inl (cA 1, 1280, .inl g_units)), (ga_lengths, .inl (cA 1, 32, .inl g_lengths)), (ga_offsets, .inl (cA 1, 32, .inl g_offsets))])) (va_Qi (z_ri Q) (fun _ _ => True) (fun _ => False)) 0 0 (fun _ => False) := by
  unfold vc_X7_isCounted at hv
  refine Met.ofW (cc := cX7_isCounted) (maxL := 3) (ret := (some .boolean)) (by decide +kernel) rfl ?_
  intro p e s m args below meth c s₁ B hml hv0
  obtain ⟨rfl, ⟨hK, hP⟩, hST⟩ := hv0
  have hx := B.exec
  have hb := B.bytes
  have hr := B.returns
  have hts := atoms_spec (ws := wsX7_isCounted) B.pre
  have hown : s.vm.findClass RX7 = some m.cls := findClass_of_methodNamed B.named
  have hlocks := B.notSynchronized
  have hS : va_S (fun _ : Nat => False) s.heap s.heap [] := va_S.rf
  have hl := lv_entry ([.ref g, .int (z_i n), .int (z_i what)]) (n := 3) (Nat.le_of_ble_eq_true rfl)
  rw [lg_entry_eq]
  generalize (lg_sl ([.ref g, .int (z_i n), .int (z_i what)]) ++ List.replicate (3 - (lg_sl ([.ref g, .int (z_i n), .int (z_i what)])).length) Slot.unset).toArray = ls at hl ⊢
  have hl : lv_has ls 3 [(0, .ref g), (1, .int (z_i n)), (2, .int (z_i what))] := hl
  refine lv_iload_n hx hb dX7_isCounted_0 rfl (lv_at hl 2 rfl) ?_
  have hto := z_i_to h_what
  rcases (show what = 0 ∨ what = 1 ∨ what = 2 ∨ what = 3 ∨ what = 4 ∨ what = 5 ∨ (what < 0 ∨ 5 < what) by omega) with hc | hc | hc | hc | hc | hc | hc
  · have hv := hv.1 hc
    refine lv_tableIn (off := 39) (tgt := 40) hx hb dX7_isCounted_1 (by rw [hto, hc]; decide) (by rw [hto, hc]; decide) (by rw [hto, hc]; decide) (by decide) ?_
    refine lv_iconst (v := z_i 1) hx hb dX7_isCounted_40 rfl ?_
    exact W.zret (v := z_i 1) hx hb hr (by decide) (fun t ht hW => ⟨⟨z_i 1, (), rfl, ⟨1, rfl, (show z_in 1 from ⟨by decide, by decide⟩), hv⟩, trivial⟩, hS.F ht⟩) hS.2.2 dX7_isCounted_41
  · have hv := hv.2.1 hc
    refine lv_tableIn (off := 41) (tgt := 42) hx hb dX7_isCounted_1 (by rw [hto, hc]; decide) (by rw [hto, hc]; decide) (by rw [hto, hc]; decide) (by decide) ?_
    refine lv_aload_n hx hb dX7_isCounted_42 rfl (lv_at hl 0 rfl) ?_
    refine lv_iload_n hx hb dX7_isCounted_43 rfl (lv_at hl 1 rfl) ?_
    obtain ⟨hp1, hv⟩ := hv
    refine va_calli (va_runV (As := [.int (z_i n)]) (rest := []) ⟨hx, hb, hml, hown, hts⟩ (mt_X2_isWhole l D cA t1 t2 g ga_units g_units ga_lengths g_lengths ga_offsets g_offsets g_step n h_g_step h_n hp1) (cwV 1 hts gX7_isCounted_X2_isWhole rfl rfl rfl (by decide +kernel) ⟨Nat.le_of_ble_eq_true rfl, Nat.le_of_ble_eq_true rfl⟩) ⟨z_bl1, va_recv hK hP (ci := 1) (q0 := 0) rfl rfl, fun U hU hW => ⟨rfl, z_b1 hK hP (hST.at hS (fun _ h => h.elim)) hU hW⟩⟩ rfl rfl hl.1 rfl (lv_room (Nat.le_of_ble_eq_true rfl)) dX7_isCounted_44 ⟨Nat.zero_le _, Nat.zero_le _⟩) hS (fun q _ h => h.elim) (fun q h => h.elim) (fun r0 u t H locs ht hvm hw hB hz1 hk1 hS => ?_)
    obtain ⟨r2, rfl, h_r2, hw⟩ := hw
    have hP := z_P_all hP hk1
    have hv := hv r2 h_r2 hw
    obtain ⟨hb3, hv⟩ := hv
    exact W.zret (v := z_i r2) hx hb hr (z_narZ hb3) (fun t ht hW => ⟨⟨z_i r2, (), rfl, ⟨r2, rfl, h_r2, hv⟩, trivial⟩, hS.F ht⟩) hS.2.2 dX7_isCounted_47
  · have hv := hv.2.2.1 hc
    refine lv_tableIn (off := 47) (tgt := 48) hx hb dX7_isCounted_1 (by rw [hto, hc]; decide) (by rw [hto, hc]; decide) (by rw [hto, hc]; decide) (by decide) ?_
    refine lv_aload_n hx hb dX7_isCounted_48 rfl (lv_at hl 0 rfl) ?_
    refine lv_iload_n hx hb dX7_isCounted_49 rfl (lv_at hl 1 rfl) ?_
    obtain ⟨hp4, hv⟩ := hv
    obtain ⟨hp5, hv⟩ := hv
    obtain ⟨hp6, hv⟩ := hv
    refine va_calli (va_runS (As := [.ref g, .int (z_i n)]) (rest := []) ⟨hx, hb, hml, hown, hts⟩ (mt_X6_downFrom l D cA t1 t2 g ga_units g_units ga_lengths g_lengths ga_offsets g_offsets g_step n h_g_step h_n hp4 hp5 hp6) (va_cwS 2 hts gX7_isCounted_X6_downFrom rfl rfl rfl (by decide +kernel) ⟨Nat.le_of_ble_eq_true rfl, Nat.le_of_ble_eq_true rfl⟩) ⟨z_bl1, fun U hU hW => ⟨rfl, z_b1 hK hP (hST.at hS (fun _ h => h.elim)) hU hW⟩⟩ rfl rfl hl.1 rfl (lv_room (Nat.le_of_ble_eq_true rfl)) dX7_isCounted_50 ⟨Nat.zero_le _, Nat.zero_le _⟩) hS (fun q _ h => h.elim) (fun q h => h.elim) (fun r0 u t H locs ht hvm hw hB hz1 hk1 hS => ?_)
    obtain ⟨r7, rfl, h_r7, hw⟩ := hw
    have hP := z_P_all hP hk1
    have hv := hv r7 h_r7 hw
    refine lv_iconst (v := z_i (-1)) hx hb dX7_isCounted_53 rfl ?_
    refine lx_icmp_ne (tgt := 61) hx hb dX7_isCounted_54 (by decide) h_r7 (show z_in (-1) from ⟨by decide, by decide⟩) (fun hc => ?_) (fun hc => ?_)
    · have hv := hv.1 hc
      refine lv_iconst (v := z_i 0) hx hb dX7_isCounted_61 rfl ?_
      exact W.zret (v := z_i 0) hx hb hr (by decide) (fun t ht hW => ⟨⟨z_i 0, (), rfl, ⟨0, rfl, (show z_in 0 from ⟨by decide, by decide⟩), hv⟩, trivial⟩, hS.F ht⟩) hS.2.2 dX7_isCounted_62
    · have hv := hv.2 hc
      refine lv_iconst (v := z_i 1) hx hb dX7_isCounted_57 rfl ?_
      refine lv_goto (tgt := 62) hx hb dX7_isCounted_58 (by decide) ?_
      exact W.zret (v := z_i 1) hx hb hr (by decide) (fun t ht hW => ⟨⟨z_i 1, (), rfl, ⟨1, rfl, (show z_in 1 from ⟨by decide, by decide⟩), hv⟩, trivial⟩, hS.F ht⟩) hS.2.2 dX7_isCounted_62
  · have hv := hv.2.2.2.1 hc
    refine lv_tableIn (off := 62) (tgt := 63) hx hb dX7_isCounted_1 (by rw [hto, hc]; decide) (by rw [hto, hc]; decide) (by rw [hto, hc]; decide) (by decide) ?_
    refine lv_aload_n hx hb dX7_isCounted_63 rfl (lv_at hl 0 rfl) ?_
    refine lv_iload_n hx hb dX7_isCounted_64 rfl (lv_at hl 1 rfl) ?_
    obtain ⟨hp8, hv⟩ := hv
    refine va_calli (va_runV (As := [.int (z_i n)]) (rest := []) ⟨hx, hb, hml, hown, hts⟩ (mt_X2_kindOf l D cA t1 t2 g ga_units g_units ga_lengths g_lengths ga_offsets g_offsets g_step n h_g_step h_n hp8) (cwV 1 hts gX7_isCounted_X2_kindOf rfl rfl rfl (by decide +kernel) ⟨Nat.le_of_ble_eq_true rfl, Nat.le_of_ble_eq_true rfl⟩) ⟨z_bl1, va_recv hK hP (ci := 1) (q0 := 0) rfl rfl, fun U hU hW => ⟨rfl, z_b1 hK hP (hST.at hS (fun _ h => h.elim)) hU hW⟩⟩ rfl rfl hl.1 rfl (lv_room (Nat.le_of_ble_eq_true rfl)) dX7_isCounted_65 ⟨Nat.zero_le _, Nat.zero_le _⟩) hS (fun q _ h => h.elim) (fun q h => h.elim) (fun r0 u t H locs ht hvm hw hB hz1 hk1 hS => ?_)
    obtain ⟨r9, rfl, h_r9, hw⟩ := hw
    have hP := z_P_all hP hk1
    have hv := hv r9 h_r9 hw
    refine lv_iconst (v := z_i 1) hx hb dX7_isCounted_68 rfl ?_
    refine lx_icmp_ne (tgt := 76) hx hb dX7_isCounted_69 (by decide) h_r9 (show z_in 1 from ⟨by decide, by decide⟩) (fun hc => ?_) (fun hc => ?_)
    · have hv := hv.1 hc
      refine lv_iconst (v := z_i 0) hx hb dX7_isCounted_76 rfl ?_
      exact W.zret (v := z_i 0) hx hb hr (by decide) (fun t ht hW => ⟨⟨z_i 0, (), rfl, ⟨0, rfl, (show z_in 0 from ⟨by decide, by decide⟩), hv⟩, trivial⟩, hS.F ht⟩) hS.2.2 dX7_isCounted_77
    · have hv := hv.2 hc
      refine lv_iconst (v := z_i 1) hx hb dX7_isCounted_72 rfl ?_
      refine lv_goto (tgt := 77) hx hb dX7_isCounted_73 (by decide) ?_
      exact W.zret (v := z_i 1) hx hb hr (by decide) (fun t ht hW => ⟨⟨z_i 1, (), rfl, ⟨1, rfl, (show z_in 1 from ⟨by decide, by decide⟩), hv⟩, trivial⟩, hS.F ht⟩) hS.2.2 dX7_isCounted_77
  · have hv := hv.2.2.2.2.1 hc
    refine lv_tableIn (off := 77) (tgt := 78) hx hb dX7_isCounted_1 (by rw [hto, hc]; decide) (by rw [hto, hc]; decide) (by rw [hto, hc]; decide) (by decide) ?_
    refine lv_aload_n hx hb dX7_isCounted_78 rfl (lv_at hl 0 rfl) ?_
    refine lv_iload_n hx hb dX7_isCounted_79 rfl (lv_at hl 1 rfl) ?_
    obtain ⟨hp10, hv⟩ := hv
    refine va_calli (va_runV (As := [.int (z_i n)]) (rest := []) ⟨hx, hb, hml, hown, hts⟩ (mt_X2_kindOf l D cA t1 t2 g ga_units g_units ga_lengths g_lengths ga_offsets g_offsets g_step n h_g_step h_n hp10) (cwV 1 hts gX7_isCounted_X2_kindOf rfl rfl rfl (by decide +kernel) ⟨Nat.le_of_ble_eq_true rfl, Nat.le_of_ble_eq_true rfl⟩) ⟨z_bl1, va_recv hK hP (ci := 1) (q0 := 0) rfl rfl, fun U hU hW => ⟨rfl, z_b1 hK hP (hST.at hS (fun _ h => h.elim)) hU hW⟩⟩ rfl rfl hl.1 rfl (lv_room (Nat.le_of_ble_eq_true rfl)) dX7_isCounted_80 ⟨Nat.zero_le _, Nat.zero_le _⟩) hS (fun q _ h => h.elim) (fun q h => h.elim) (fun r0 u t H locs ht hvm hw hB hz1 hk1 hS => ?_)
    obtain ⟨r11, rfl, h_r11, hw⟩ := hw
    have hP := z_P_all hP hk1
    have hv := hv r11 h_r11 hw
    refine lv_iconst (v := z_i 3) hx hb dX7_isCounted_83 rfl ?_
    refine lx_icmp_ne (tgt := 91) hx hb dX7_isCounted_84 (by decide) h_r11 (show z_in 3 from ⟨by decide, by decide⟩) (fun hc => ?_) (fun hc => ?_)
    · have hv := hv.1 hc
      refine lv_iconst (v := z_i 0) hx hb dX7_isCounted_91 rfl ?_
      exact W.zret (v := z_i 0) hx hb hr (by decide) (fun t ht hW => ⟨⟨z_i 0, (), rfl, ⟨0, rfl, (show z_in 0 from ⟨by decide, by decide⟩), hv⟩, trivial⟩, hS.F ht⟩) hS.2.2 dX7_isCounted_92
    · have hv := hv.2 hc
      refine lv_iconst (v := z_i 1) hx hb dX7_isCounted_87 rfl ?_
      refine lv_goto (tgt := 92) hx hb dX7_isCounted_88 (by decide) ?_
      exact W.zret (v := z_i 1) hx hb hr (by decide) (fun t ht hW => ⟨⟨z_i 1, (), rfl, ⟨1, rfl, (show z_in 1 from ⟨by decide, by decide⟩), hv⟩, trivial⟩, hS.F ht⟩) hS.2.2 dX7_isCounted_92
  · have hv := hv.2.2.2.2.2.1 hc
    refine lv_tableIn (off := 92) (tgt := 93) hx hb dX7_isCounted_1 (by rw [hto, hc]; decide) (by rw [hto, hc]; decide) (by rw [hto, hc]; decide) (by decide) ?_
    refine lv_aload_n hx hb dX7_isCounted_93 rfl (lv_at hl 0 rfl) ?_
    refine lv_iload_n hx hb dX7_isCounted_94 rfl (lv_at hl 1 rfl) ?_
    obtain ⟨hp12, hv⟩ := hv
    refine va_calli (va_runV (As := [.int (z_i n)]) (rest := []) ⟨hx, hb, hml, hown, hts⟩ (mt_X2_isRim l D cA t1 t2 g ga_units g_units ga_lengths g_lengths ga_offsets g_offsets g_step n h_g_step h_n hp12) (cwV 1 hts gX7_isCounted_X2_isRim rfl rfl rfl (by decide +kernel) ⟨Nat.le_of_ble_eq_true rfl, Nat.le_of_ble_eq_true rfl⟩) ⟨z_bl1, va_recv hK hP (ci := 1) (q0 := 0) rfl rfl, fun U hU hW => ⟨rfl, z_b1 hK hP (hST.at hS (fun _ h => h.elim)) hU hW⟩⟩ rfl rfl hl.1 rfl (lv_room (Nat.le_of_ble_eq_true rfl)) dX7_isCounted_95 ⟨Nat.zero_le _, Nat.zero_le _⟩) hS (fun q _ h => h.elim) (fun q h => h.elim) (fun r0 u t H locs ht hvm hw hB hz1 hk1 hS => ?_)
    obtain ⟨r13, rfl, h_r13, hw⟩ := hw
    have hP := z_P_all hP hk1
    have hv := hv r13 h_r13 hw
    obtain ⟨hb14, hv⟩ := hv
    exact W.zret (v := z_i r13) hx hb hr (z_narZ hb14) (fun t ht hW => ⟨⟨z_i r13, (), rfl, ⟨r13, rfl, h_r13, hv⟩, trivial⟩, hS.F ht⟩) hS.2.2 dX7_isCounted_98
  · have hv := hv.2.2.2.2.2.2 hc
    refine lv_tableOut (tgt := 99) hx hb dX7_isCounted_1 (by rw [hto]; exact hc) (by decide) ?_
    refine lv_iconst (v := z_i 0) hx hb dX7_isCounted_99 rfl ?_
    exact W.zret (v := z_i 0) hx hb hr (by decide) (fun t ht hW => ⟨⟨z_i 0, (), rfl, ⟨0, rfl, (show z_in 0 from ⟨by decide, by decide⟩), hv⟩, trivial⟩, hS.F ht⟩) hS.2.2 dX7_isCounted_100
set_option maxHeartbeats 4000000 in
set_option maxRecDepth 100000 in
theorem mt_X7_isCounted (l : Launch) (D : va_G) (cA : Nat → ClassId) (t1 t2 : Nat) (g : Nat) (ga_units : Nat) (g_units : Nat → Int32) (ga_lengths : Nat) (g_lengths : Nat → Int32) (ga_offsets : Nat) (g_offsets : Nat → Int32) (g_step : Int) (n : Int) (what : Int) (h_g_step : z_in g_step) (h_n : z_in n) (h_what : z_in what) (hp1 : 0 ≤ n ∧ n < 1280) (hp2 : g_ok g_units) (hp3 : g_th g_units n = true) : Met l yX7_isCounted wsX7_isCounted ({ frames := 6, cells := 0, slots := 0, locals := 133 } : Room) (va_Pc [.ref g, .int (z_i n), .int (z_i what)] (z_B1 D cA t1 t2 [(g, .inr (1, [.ref ga_units, .ref ga_lengths, .ref ga_offsets, .int (z_i g_step)])), (ga_units, .inl (cA 1, 1280, .inl g_units)), (ga_lengths, .inl (cA 1, 32, .inl g_lengths)), (ga_offsets, .inl (cA 1, 32, .inl g_offsets))])) (va_Qi (z_ri (fun (r : Int) => r = z_b (p_cn (g_th g_units) (g_at g_units) n what))) (fun _ _ => True) (fun _ => False)) 0 0 (fun _ => False) := by
  refine wk_X7_isCounted l D cA t1 t2 g ga_units g_units ga_lengths g_lengths ga_offsets g_offsets g_step n what h_g_step h_n h_what (fun (r : Int) => r = z_b (p_cn (g_th g_units) (g_at g_units) n what)) ?_
  unfold vc_X7_isCounted
  refine ⟨?_, ?_, ?_, ?_, ?_, ?_, ?_⟩
  · rintro rfl
    unfold p_cn; rw [if_pos (show (0 : Int) = 0 from rfl)]; rfl
  · rintro rfl
    refine ⟨hp1, ?_⟩
    rintro r2 _ rfl
    refine ⟨z_b_01 _, ?_⟩
    unfold p_cn; rw [if_neg (show ¬ (1 : Int) = 0 by decide), if_pos (show (1 : Int) = 1 from rfl)]
  · rintro rfl
    refine ⟨hp1, hp2, hp3, ?_⟩
    rintro r7 _ rfl
    refine ⟨fun h => ?_, fun h => ?_⟩
    · unfold p_cn; rw [if_neg (show ¬ (2 : Int) = 0 by decide), if_neg (show ¬ (2 : Int) = 1 by decide), if_pos (show (2 : Int) = 2 from rfl)]; rw [decide_eq_false h]; rfl
    · unfold p_cn; rw [if_neg (show ¬ (2 : Int) = 0 by decide), if_neg (show ¬ (2 : Int) = 1 by decide), if_pos (show (2 : Int) = 2 from rfl)]; rw [decide_eq_true h]; rfl
  · rintro rfl
    refine ⟨hp1, ?_⟩
    rintro r7 _ rfl
    refine ⟨fun h => ?_, fun h => ?_⟩
    · unfold p_cn; rw [if_neg (show ¬ (3 : Int) = 0 by decide), if_neg (show ¬ (3 : Int) = 1 by decide), if_neg (show ¬ (3 : Int) = 2 by decide), if_pos (show (3 : Int) = 3 from rfl)]; rw [decide_eq_false h]; rfl
    · unfold p_cn; rw [if_neg (show ¬ (3 : Int) = 0 by decide), if_neg (show ¬ (3 : Int) = 1 by decide), if_neg (show ¬ (3 : Int) = 2 by decide), if_pos (show (3 : Int) = 3 from rfl)]; rw [decide_eq_true h]; rfl
  · rintro rfl
    refine ⟨hp1, ?_⟩
    rintro r7 _ rfl
    refine ⟨fun h => ?_, fun h => ?_⟩
    · unfold p_cn; rw [if_neg (show ¬ (4 : Int) = 0 by decide), if_neg (show ¬ (4 : Int) = 1 by decide), if_neg (show ¬ (4 : Int) = 2 by decide), if_neg (show ¬ (4 : Int) = 3 by decide), if_pos (show (4 : Int) = 4 from rfl)]; rw [decide_eq_false h]; rfl
    · unfold p_cn; rw [if_neg (show ¬ (4 : Int) = 0 by decide), if_neg (show ¬ (4 : Int) = 1 by decide), if_neg (show ¬ (4 : Int) = 2 by decide), if_neg (show ¬ (4 : Int) = 3 by decide), if_pos (show (4 : Int) = 4 from rfl)]; rw [decide_eq_true h]; rfl
  · rintro rfl
    refine ⟨hp1, ?_⟩
    rintro r2 _ rfl
    refine ⟨z_b_01 _, ?_⟩
    unfold p_cn; rw [if_neg (show ¬ (5 : Int) = 0 by decide), if_neg (show ¬ (5 : Int) = 1 by decide), if_neg (show ¬ (5 : Int) = 2 by decide), if_neg (show ¬ (5 : Int) = 3 by decide), if_neg (show ¬ (5 : Int) = 4 by decide), if_pos (show (5 : Int) = 5 from rfl)]
  · intro h
    unfold p_cn
    rw [if_neg (by omega), if_neg (by omega), if_neg (by omega), if_neg (by omega), if_neg (by omega), if_neg (by omega)]
    rfl
def vc_X7_count (gi : Int) (what : Int) (g_units : Nat → Int32) (Q : Int → Prop) : Prop :=
((0 ≤ gi ∧ gi < 4 → ((what < 0 → Q (-1)) ∧
(what ≥ 0 → ((what ≤ 5 → (∀ L27 : Int → Int → Prop,
(∀ (x27_5 : Int) (x27_4 : Int), z_in x27_5 → z_in x27_4 → ((x27_5 ≥ 1280 → Q x27_4) ∧
(x27_5 < 1280 → (∀ (r2 : Int), z_in r2 → (r2 = z_b (g_th g_units x27_5)) → ((r2 = 0 → L27 (x27_5 + 1) x27_4) ∧
(r2 ≠ 0 → (0 ≤ x27_5 ∧ x27_5 < 1280) ∧ (g_ok g_units) ∧ (g_th g_units x27_5 = true) ∧ (∀ (r6 : Int), z_in r6 → (r6 = z_b (p_cn (g_th g_units) (g_at g_units) x27_5 what)) → ((r6 = 0 → L27 (x27_5 + 1) x27_4) ∧
(r6 ≠ 0 → L27 (x27_5 + 1) (x27_4 + 1))))))))) → L27 x27_5 x27_4) →
L27 0 0)) ∧
(what > 5 → Q (-1)))))) ∧
(¬ (0 ≤ gi ∧ gi < 4) → Q (-1)))
set_option maxHeartbeats 4000000 in
set_option maxRecDepth 100000 in
theorem wk_X7_count (l : Launch) (D : va_G) (cA : Nat → ClassId) (t1 t2 : Nat) (x : Nat) (xa_grids : Nat) (x_grids : Nat → Option Nat) (x_levelMm : Nat) (x_levelCount : Int) (x_water : Nat) (x_scratch : Nat) (x_lines : Nat) (gi : Int) (what : Int) (g : Nat) (ga_units : Nat) (g_units : Nat → Int32) (ga_lengths : Nat) (g_lengths : Nat → Int32) (ga_offsets : Nat) (g_offsets : Nat → Int32) (g_step : Int) (h_x_levelCount : z_in x_levelCount) (h_gi : z_in gi) (h_what : z_in what) (h_g_step : z_in g_step) (hg_gi : 0 ≤ gi ∧ gi < 4 → x_grids gi.toNat = some g) (Q : Int → Prop) (hv : vc_X7_count gi what g_units Q) : Met l yX7_count wsX7_count ({ frames := 7, cells := 0, slots := 0, locals := 155 } : Room) (va_Pc [.ref x, .int (z_i gi), .int (z_i what)] (z_B1 D cA t1 t2 [(x, .inr (5, [.ref xa_grids, .ref x_levelMm, .int (z_i x_levelCount), .ref x_water, .ref x_scratch, .ref x_lines])), (xa_grids, .inl (cA 4, 4, .inr (.inr (.inr (.inr x_grids))))), (g, .inr (1, [.ref ga_units, .ref ga_lengths, .ref ga_offsets, .int (z_i g_step)])), (ga_units, .inl (cA 1, 1280, .inl g_units)), (ga_lengths, .inl (cA 1, 32, .inl g_lengths)), (ga_offsets, .inl (cA 1, 32, .inl g_offsets))])) (va_Qi (z_ri Q) (fun _ _ => True) (fun _ => False)) 0 0 (fun _ => False) := by
  unfold vc_X7_count at hv
  refine Met.ofW (cc := cX7_count) (maxL := 6) (ret := (some .int)) (by decide +kernel) rfl ?_
  intro p e s m args below meth c s₁ B hml hv0
  obtain ⟨rfl, ⟨hK, hP⟩, hST⟩ := hv0
  have hx := B.exec
  have hb := B.bytes
  have hr := B.returns
  have hts := atoms_spec (ws := wsX7_count) B.pre
  have hown : s.vm.findClass RX7 = some m.cls := findClass_of_methodNamed B.named
  have hlocks := B.notSynchronized
  have hS : va_S (fun _ : Nat => False) s.heap s.heap [] := va_S.rf
  have hl := lv_entry ([.ref x, .int (z_i gi), .int (z_i what)]) (n := 6) (Nat.le_of_ble_eq_true rfl)
  rw [lg_entry_eq]
  generalize (lg_sl ([.ref x, .int (z_i gi), .int (z_i what)]) ++ List.replicate (6 - (lg_sl ([.ref x, .int (z_i gi), .int (z_i what)])).length) Slot.unset).toArray = ls at hl ⊢
  have hl : lv_has ls 6 [(0, .ref x), (1, .int (z_i gi)), (2, .int (z_i what))] := hl
  refine lv_aload_n hx hb dX7_count_0 rfl (lv_at hl 0 rfl) ?_
  refine lv_iload_n hx hb dX7_count_1 rfl (lv_at hl 1 rfl) ?_
  refine va_callq (va_runV (As := [.int (z_i gi)]) (rest := []) ⟨hx, hb, hml, hown, hts⟩ (mt_X7_gridOf l D cA x xa_grids x_grids x_levelMm x_levelCount x_water x_scratch x_lines gi h_x_levelCount h_gi) (cwV 1 hts gX7_count_X7_gridOf rfl rfl rfl (by decide +kernel) ⟨Nat.le_of_ble_eq_true rfl, Nat.le_of_ble_eq_true rfl⟩) ⟨z_bl0, va_recv hK hP (ci := 5) (q0 := 0) rfl rfl, fun U hU hW => ⟨rfl, z_b0 hK (hP.sub (ws' := [(x, .inr (5, [.ref xa_grids, .ref x_levelMm, .int (z_i x_levelCount), .ref x_water, .ref x_scratch, .ref x_lines])), (xa_grids, .inl (cA 4, 4, .inr (.inr (.inr (.inr x_grids)))))]) [0, 1] rfl) hU hW⟩⟩ rfl rfl hl.1 rfl (lv_room (Nat.le_of_ble_eq_true rfl)) dX7_count_2 ⟨Nat.zero_le _, Nat.zero_le _⟩) hS (fun q _ h => h.elim) (fun q h => h.elim) (fun r0 u t H locs ht hvm hw hB hz1 hk1 hS => ?_)
  have hq1 := hw
  have hP := z_P_all hP hk1
  by_cases hc : 0 ≤ gi ∧ gi < 4
  · have hv := hv.1 hc
    rw [hq1, if_pos hc, hg_gi hc, z_rf_s]
    refine lv_astore_n (lv' := [(3, .ref g), (0, .ref x), (1, .int (z_i gi)), (2, .int (z_i what))]) hx hb dX7_count_5 rfl hl (by decide) rfl (fun ls hl => ?_)
    refine lv_aload_n hx hb dX7_count_6 rfl (lv_at hl 0 rfl) ?_
    refine lv_ifnull hx hb dX7_count_7 ?_
    refine lv_iload_n hx hb dX7_count_10 rfl (lv_at hl 3 rfl) ?_
    refine lx_if_lt (tgt := 19) hx hb dX7_count_11 (by decide) h_what (fun hc => ?_) (fun hc => ?_)
    · have hv := hv.1 hc
      refine lv_iconst (v := z_i (-1)) hx hb dX7_count_19 rfl ?_
      exact W.iret (v := z_i (-1)) hx hb hr (fun t ht hW => ⟨⟨z_i (-1), (), rfl, ⟨-1, rfl, (show z_in (-1) from ⟨by decide, by decide⟩), hv⟩, trivial⟩, hS.F ht⟩) hS.2.2 dX7_count_20
    · have hv := hv.2 hc
      refine lv_iload_n hx hb dX7_count_14 rfl (lv_at hl 3 rfl) ?_
      refine lv_iconst (v := z_i 5) hx hb dX7_count_15 rfl ?_
      refine lx_icmp_le (tgt := 21) hx hb dX7_count_16 (by decide) h_what (show z_in 5 from ⟨by decide, by decide⟩) (fun hc => ?_) (fun hc => ?_)
      · have hv := hv.1 hc
        refine lv_iconst (v := z_i 0) hx hb dX7_count_21 rfl ?_
        refine lv_istore (lv' := [(4, .int (z_i 0)), (3, .ref g), (0, .ref x), (1, .int (z_i gi)), (2, .int (z_i what))]) hx hb dX7_count_22 hl (by decide) rfl (fun ls hl => ?_)
        refine lv_iconst (v := z_i 0) hx hb dX7_count_24 rfl ?_
        refine lv_istore (lv' := [(5, .int (z_i 0)), (4, .int (z_i 0)), (3, .ref g), (0, .ref x), (1, .int (z_i gi)), (2, .int (z_i what))]) hx hb dX7_count_25 hl (by decide) rfl (fun ls hl => ?_)
        refine hv (fun (x27_5 : Int) (x27_4 : Int) => ∀ (H : Heap) (locs : List Loc) (ls : Array Slot), va_P D vwCl [(x, .inr (5, [.ref xa_grids, .ref x_levelMm, .int (z_i x_levelCount), .ref x_water, .ref x_scratch, .ref x_lines])), (xa_grids, .inl (cA 4, 4, .inr (.inr (.inr (.inr x_grids))))), (g, .inr (1, [.ref ga_units, .ref ga_lengths, .ref ga_offsets, .int (z_i g_step)])), (ga_units, .inl (cA 1, 1280, .inl g_units)), (ga_lengths, .inl (cA 1, 32, .inl g_lengths)), (ga_offsets, .inl (cA 1, 32, .inl g_offsets))] H → va_S (fun _ : Nat => False) s.heap H locs → lv_has ls 6 [(5, .int (z_i x27_5)), (4, .int (z_i x27_4)), (3, .ref g), (2, .int (z_i what))] → W p l e _ s m _ below meth c H locs 0 0 _ (F0 m 27 ls [])) ?_ _ _ ls hP hS (lv_sub hl [0, 1, 2, 5] rfl)
        intro x27_5 x27_4 h_x27_5 h_x27_4 hv H locs ls hP hS hl
        refine lv_iload hx hb dX7_count_27 (lv_at hl 0 rfl) ?_
        refine lv_sipush (v := z_i 1280) hx hb dX7_count_29 (by decide) ?_
        refine lx_icmp_ge (tgt := 63) hx hb dX7_count_32 (by decide) h_x27_5 (show z_in 1280 from ⟨by decide, by decide⟩) (fun hc => ?_) (fun hc => ?_)
        · have hv := hv.1 hc
          refine lv_iload hx hb dX7_count_63 (lv_at hl 1 rfl) ?_
          exact W.iret (v := z_i x27_4) hx hb hr (fun t ht hW => ⟨⟨z_i x27_4, (), rfl, ⟨x27_4, rfl, h_x27_4, hv⟩, trivial⟩, hS.F ht⟩) hS.2.2 dX7_count_65
        · have hv := hv.2 hc
          refine lv_aload_n hx hb dX7_count_35 rfl (lv_at hl 2 rfl) ?_
          refine lv_iload hx hb dX7_count_36 (lv_at hl 0 rfl) ?_
          refine va_calli (va_runV (As := [.int (z_i x27_5)]) (rest := []) ⟨hx, hb, hml, hown, hts⟩ (mt_X2_isThere l D cA g ga_units g_units ga_lengths g_lengths ga_offsets g_offsets g_step x27_5 h_g_step h_x27_5) (cwV 1 hts gX7_count_X2_isThere rfl rfl rfl (by decide +kernel) ⟨Nat.le_of_ble_eq_true rfl, Nat.le_of_ble_eq_true rfl⟩) ⟨z_bl0, va_recv hK hP (ci := 1) (q0 := 2) rfl rfl, fun U hU hW => ⟨rfl, z_b0 hK (hP.sub (ws' := [(g, .inr (1, [.ref ga_units, .ref ga_lengths, .ref ga_offsets, .int (z_i g_step)])), (ga_units, .inl (cA 1, 1280, .inl g_units)), (ga_lengths, .inl (cA 1, 32, .inl g_lengths)), (ga_offsets, .inl (cA 1, 32, .inl g_offsets))]) [2, 3, 4, 5] rfl) hU hW⟩⟩ rfl rfl hl.1 rfl (lv_room (Nat.le_of_ble_eq_true rfl)) dX7_count_38 ⟨Nat.zero_le _, Nat.zero_le _⟩) hS (fun q _ h => h.elim) (fun q h => h.elim) (fun r0 u t H locs ht hvm hw hB hz1 hk1 hS => ?_)
          obtain ⟨r2, rfl, h_r2, hw⟩ := hw
          have hP := z_P_all hP hk1
          have hv := hv r2 h_r2 hw
          refine lx_if_eq (tgt := 57) hx hb dX7_count_41 (by decide) h_r2 (fun hc => ?_) (fun hc => ?_)
          · have hv := hv.1 hc
            refine lv_iinc (v := z_i (x27_5 + 1)) (lv' := [(5, .int (z_i (x27_5 + 1))), (4, .int (z_i x27_4)), (3, .ref g), (2, .int (z_i what))]) hx hb dX7_count_57 hl (k := 0) rfl (z_i_add _ _) (by decide) rfl (fun ls hl => ?_)
            refine lv_goto (tgt := 27) hx hb dX7_count_60 (by decide) ?_
            exact hv _ _ ls hP hS (lv_sub hl [0, 1, 2, 3] rfl)
          · have hv := hv.2 hc
            refine lv_aload_n hx hb dX7_count_44 rfl (lv_at hl 2 rfl) ?_
            refine lv_iload hx hb dX7_count_45 (lv_at hl 0 rfl) ?_
            refine lv_iload_n hx hb dX7_count_47 rfl (lv_at hl 3 rfl) ?_
            obtain ⟨hp3, hv⟩ := hv
            obtain ⟨hp4, hv⟩ := hv
            obtain ⟨hp5, hv⟩ := hv
            refine va_calli (va_runS (As := [.ref g, .int (z_i x27_5), .int (z_i what)]) (rest := []) ⟨hx, hb, hml, hown, hts⟩ (mt_X7_isCounted l D cA t1 t2 g ga_units g_units ga_lengths g_lengths ga_offsets g_offsets g_step x27_5 what h_g_step h_x27_5 h_what hp3 hp4 hp5) (va_cwS 3 hts gX7_count_X7_isCounted rfl rfl rfl (by decide +kernel) ⟨Nat.le_of_ble_eq_true rfl, Nat.le_of_ble_eq_true rfl⟩) ⟨z_bl1, fun U hU hW => ⟨rfl, z_b1 hK (hP.sub (ws' := [(g, .inr (1, [.ref ga_units, .ref ga_lengths, .ref ga_offsets, .int (z_i g_step)])), (ga_units, .inl (cA 1, 1280, .inl g_units)), (ga_lengths, .inl (cA 1, 32, .inl g_lengths)), (ga_offsets, .inl (cA 1, 32, .inl g_offsets))]) [2, 3, 4, 5] rfl) (hST.at hS (fun _ h => h.elim)) hU hW⟩⟩ rfl rfl hl.1 rfl (lv_room (Nat.le_of_ble_eq_true rfl)) dX7_count_48 ⟨Nat.zero_le _, Nat.zero_le _⟩) hS (fun q _ h => h.elim) (fun q h => h.elim) (fun r0 u t H locs ht hvm hw hB hz1 hk1 hS => ?_)
            obtain ⟨r6, rfl, h_r6, hw⟩ := hw
            have hP := z_P_all hP hk1
            have hv := hv r6 h_r6 hw
            refine lx_if_eq (tgt := 57) hx hb dX7_count_51 (by decide) h_r6 (fun hc => ?_) (fun hc => ?_)
            · have hv := hv.1 hc
              refine lv_iinc (v := z_i (x27_5 + 1)) (lv' := [(5, .int (z_i (x27_5 + 1))), (4, .int (z_i x27_4)), (3, .ref g), (2, .int (z_i what))]) hx hb dX7_count_57 hl (k := 0) rfl (z_i_add _ _) (by decide) rfl (fun ls hl => ?_)
              refine lv_goto (tgt := 27) hx hb dX7_count_60 (by decide) ?_
              exact hv _ _ ls hP hS (lv_sub hl [0, 1, 2, 3] rfl)
            · have hv := hv.2 hc
              refine lv_iinc (v := z_i (x27_4 + 1)) (lv' := [(4, .int (z_i (x27_4 + 1))), (5, .int (z_i x27_5)), (3, .ref g), (2, .int (z_i what))]) hx hb dX7_count_54 hl (k := 1) rfl (z_i_add _ _) (by decide) rfl (fun ls hl => ?_)
              refine lv_iinc (v := z_i (x27_5 + 1)) (lv' := [(5, .int (z_i (x27_5 + 1))), (4, .int (z_i (x27_4 + 1))), (3, .ref g), (2, .int (z_i what))]) hx hb dX7_count_57 hl (k := 1) rfl (z_i_add _ _) (by decide) rfl (fun ls hl => ?_)
              refine lv_goto (tgt := 27) hx hb dX7_count_60 (by decide) ?_
              exact hv _ _ ls hP hS (lv_sub hl [0, 1, 2, 3] rfl)
      · have hv := hv.2 hc
        refine lv_iconst (v := z_i (-1)) hx hb dX7_count_19 rfl ?_
        exact W.iret (v := z_i (-1)) hx hb hr (fun t ht hW => ⟨⟨z_i (-1), (), rfl, ⟨-1, rfl, (show z_in (-1) from ⟨by decide, by decide⟩), hv⟩, trivial⟩, hS.F ht⟩) hS.2.2 dX7_count_20
  · have hv := hv.2 hc
    rw [hq1, if_neg hc, z_rf_n]
    refine lv_astore_nN (lv' := [(3, .null), (0, .ref x), (1, .int (z_i gi)), (2, .int (z_i what))]) hx hb dX7_count_5 rfl hl (by decide) rfl (fun ls hl => ?_)
    refine lv_aload_nN hx hb dX7_count_6 rfl (lv_at hl 0 rfl) ?_
    refine lv_ifnullN (tgt := 19) hx hb dX7_count_7 (by decide) ?_
    refine lv_iconst (v := z_i (-1)) hx hb dX7_count_19 rfl ?_
    exact W.iret (v := z_i (-1)) hx hb hr (fun t ht hW => ⟨⟨z_i (-1), (), rfl, ⟨-1, rfl, (show z_in (-1) from ⟨by decide, by decide⟩), hv⟩, trivial⟩, hS.F ht⟩) hS.2.2 dX7_count_20
set_option maxHeartbeats 4000000 in
set_option maxRecDepth 100000 in
theorem mt_X7_count (l : Launch) (D : va_G) (cA : Nat → ClassId) (t1 t2 : Nat) (x : Nat) (xa_grids : Nat) (x_grids : Nat → Option Nat) (x_levelMm : Nat) (x_levelCount : Int) (x_water : Nat) (x_scratch : Nat) (x_lines : Nat) (gi : Int) (what : Int) (g : Nat) (ga_units : Nat) (g_units : Nat → Int32) (ga_lengths : Nat) (g_lengths : Nat → Int32) (ga_offsets : Nat) (g_offsets : Nat → Int32) (g_step : Int) (h_x_levelCount : z_in x_levelCount) (h_gi : z_in gi) (h_what : z_in what) (h_g_step : z_in g_step) (hg_gi : 0 ≤ gi ∧ gi < 4 → x_grids gi.toNat = some g) (hp1 : g_ok g_units) : Met l yX7_count wsX7_count ({ frames := 7, cells := 0, slots := 0, locals := 155 } : Room) (va_Pc [.ref x, .int (z_i gi), .int (z_i what)] (z_B1 D cA t1 t2 [(x, .inr (5, [.ref xa_grids, .ref x_levelMm, .int (z_i x_levelCount), .ref x_water, .ref x_scratch, .ref x_lines])), (xa_grids, .inl (cA 4, 4, .inr (.inr (.inr (.inr x_grids))))), (g, .inr (1, [.ref ga_units, .ref ga_lengths, .ref ga_offsets, .int (z_i g_step)])), (ga_units, .inl (cA 1, 1280, .inl g_units)), (ga_lengths, .inl (cA 1, 32, .inl g_lengths)), (ga_offsets, .inl (cA 1, 32, .inl g_offsets))])) (va_Qi (z_ri (fun (r : Int) => r = if (0 ≤ gi ∧ gi < 4) ∧ 0 ≤ what ∧ what ≤ 5 then p_ct (g_th g_units) (g_at g_units) what 1280 else -1)) (fun _ _ => True) (fun _ => False)) 0 0 (fun _ => False) := by
  refine wk_X7_count l D cA t1 t2 x xa_grids x_grids x_levelMm x_levelCount x_water x_scratch x_lines gi what g ga_units g_units ga_lengths g_lengths ga_offsets g_offsets g_step h_x_levelCount h_gi h_what h_g_step hg_gi (fun (r : Int) => r = if (0 ≤ gi ∧ gi < 4) ∧ 0 ≤ what ∧ what ≤ 5 then p_ct (g_th g_units) (g_at g_units) what 1280 else -1) ?_
  unfold vc_X7_count
  refine ⟨fun q => ⟨fun q1 => ?_, fun q1 => ⟨fun q2 => ?_, fun q2 => ?_⟩⟩, fun q => ?_⟩
  · rw [if_neg (by omega)]
  · rw [if_pos ⟨q, q1, q2⟩]
    intro L hL
    suffices H : ∀ (d k : Nat) (f : Int), k + d = 1280 → f = p_ct (g_th g_units) (g_at g_units) what k → 0 ≤ f → f ≤ k → L k f from H 1280 0 0 rfl rfl (by omega) (by omega)
    intro d
    induction d with
    | zero =>
      intro k f hk hf f0 f1
      obtain rfl : k = 1280 := by omega
      exact hL _ _ ⟨by omega, by omega⟩ ⟨by omega, by omega⟩ ⟨fun _ => hf, fun h => absurd h (by decide)⟩
    | succ d ih =>
      intro k f hk hf f0 f1
      refine hL _ _ ⟨by omega, by omega⟩ ⟨by omega, by omega⟩ ⟨fun h => absurd h (by omega), fun _ => ?_⟩
      have es : p_ct (g_th g_units) (g_at g_units) what (k + 1) = p_ct (g_th g_units) (g_at g_units) what k + (if g_th g_units k = true ∧ p_cn (g_th g_units) (g_at g_units) k what = true then 1 else 0) := rfl
      have hi := ih (k + 1)
      rw [es, ← hf] at hi
      rintro r2 _ rfl
      refine ⟨fun q3 => ?_, fun q3 => ⟨⟨by omega, by omega⟩, hp1, zb_t q3, ?_⟩⟩
      · exact hi f (by omega) (by rw [if_neg (fun h => by rw [zb_f q3] at h; exact absurd h.1 (by decide))]; omega) f0 (by omega)
      · rintro r6 _ rfl
        refine ⟨fun q4 => ?_, fun q4 => ?_⟩
        · exact hi f (by omega) (by rw [if_neg (fun h => by rw [zb_f q4] at h; exact absurd h.2 (by decide))]; omega) f0 (by omega)
        · exact hi (f + 1) (by omega) (by rw [if_pos ⟨zb_t q3, zb_t q4⟩]) (by omega) (by omega)
  · rw [if_neg (by omega)]
  · rw [if_neg (fun h => q h.1)]
def vc_X7_volume (gi : Int) (mm : Int) (what : Int) (g_units : Nat → Int32) (Q : Int → Prop) : Prop :=
((0 ≤ gi ∧ gi < 4 → ((mm < -8192 → Q (-1)) ∧
(mm ≥ -8192 → ((mm > 8192 → Q (-1)) ∧
(mm ≤ 8192 → ((what < 0 → Q (-1)) ∧
(what ≥ 0 → ((what ≤ 1 → ((what ≠ 0 → (∀ L58 : Int → Int → Prop,
(∀ (x58_9 : Int) (x58_7 : Int), z_in x58_9 → z_nl x58_7 → ((x58_9 ≥ 1280 → Q x58_7) ∧
(x58_9 < 1280 → (0 ≤ x58_9 ∧ x58_9 < 1280) ∧ (∀ (r3 : Int), z_in r3 → (r3 = z_b (m_wh (g_th g_units) x58_9)) → ((r3 = 0 → L58 (x58_9 + 1) x58_7) ∧
(r3 ≠ 0 → (0 ≤ x58_9 ∧ x58_9 < 1280) ∧ (g_ok g_units) ∧ (m_wh (g_th g_units) x58_9 = true) ∧ (∀ (r7 : Int), z_in r7 → (r7 = g_at g_units x58_9 + g_at g_units (x58_9 + 1) + g_at g_units (x58_9 + 40) + g_at g_units (x58_9 + 40 + 1)) → z_nl ((-1) * (r7 - (4096 * mm))) ∧ (∀ v8 : Int, v8 = (-1) * (r7 - (4096 * mm)) → ((v8 ≤ 0 → z_nl (x58_7 + 0) ∧ (∀ v11 : Int, v11 = x58_7 + 0 → L58 (x58_9 + 1) v11)) ∧
(v8 > 0 → z_nl (x58_7 + v8) ∧ (∀ v14 : Int, v14 = x58_7 + v8 → L58 (x58_9 + 1) v14)))))))))) → L58 x58_9 x58_7) →
L58 0 0)) ∧
(what = 0 → (∀ L58 : Int → Int → Prop,
(∀ (x58_9 : Int) (x58_7 : Int), z_in x58_9 → z_nl x58_7 → ((x58_9 ≥ 1280 → Q x58_7) ∧
(x58_9 < 1280 → (0 ≤ x58_9 ∧ x58_9 < 1280) ∧ (∀ (r18 : Int), z_in r18 → (r18 = z_b (m_wh (g_th g_units) x58_9)) → ((r18 = 0 → L58 (x58_9 + 1) x58_7) ∧
(r18 ≠ 0 → (0 ≤ x58_9 ∧ x58_9 < 1280) ∧ (g_ok g_units) ∧ (m_wh (g_th g_units) x58_9 = true) ∧ (∀ (r22 : Int), z_in r22 → (r22 = g_at g_units x58_9 + g_at g_units (x58_9 + 1) + g_at g_units (x58_9 + 40) + g_at g_units (x58_9 + 40 + 1)) → z_nl (1 * (r22 - (4096 * mm))) ∧ (∀ v23 : Int, v23 = 1 * (r22 - (4096 * mm)) → ((v23 ≤ 0 → z_nl (x58_7 + 0) ∧ (∀ v26 : Int, v26 = x58_7 + 0 → L58 (x58_9 + 1) v26)) ∧
(v23 > 0 → z_nl (x58_7 + v23) ∧ (∀ v29 : Int, v29 = x58_7 + v23 → L58 (x58_9 + 1) v29)))))))))) → L58 x58_9 x58_7) →
L58 0 0)))) ∧
(what > 1 → Q (-1)))))))))) ∧
(¬ (0 ≤ gi ∧ gi < 4) → Q (-1)))
set_option maxHeartbeats 4000000 in
set_option maxRecDepth 100000 in
theorem wk_X7_volume (l : Launch) (D : va_G) (cA : Nat → ClassId) (t1 t2 : Nat) (x : Nat) (xa_grids : Nat) (x_grids : Nat → Option Nat) (x_levelMm : Nat) (x_levelCount : Int) (x_water : Nat) (x_scratch : Nat) (x_lines : Nat) (gi : Int) (mm : Int) (what : Int) (g : Nat) (ga_units : Nat) (g_units : Nat → Int32) (ga_lengths : Nat) (g_lengths : Nat → Int32) (ga_offsets : Nat) (g_offsets : Nat → Int32) (g_step : Int) (h_x_levelCount : z_in x_levelCount) (h_gi : z_in gi) (h_mm : z_in mm) (h_what : z_in what) (h_g_step : z_in g_step) (hg_gi : 0 ≤ gi ∧ gi < 4 → x_grids gi.toNat = some g) (Q : Int → Prop) (hv : vc_X7_volume gi mm what g_units Q) : Met l yX7_volume wsX7_volume ({ frames := 4, cells := 0, slots := 0, locals := 87 } : Room) (va_Pc [.ref x, .int (z_i gi), .int (z_i mm), .int (z_i what)] (z_B1 D cA t1 t2 [(x, .inr (5, [.ref xa_grids, .ref x_levelMm, .int (z_i x_levelCount), .ref x_water, .ref x_scratch, .ref x_lines])), (xa_grids, .inl (cA 4, 4, .inr (.inr (.inr (.inr x_grids))))), (g, .inr (1, [.ref ga_units, .ref ga_lengths, .ref ga_offsets, .int (z_i g_step)])), (ga_units, .inl (cA 1, 1280, .inl g_units)), (ga_lengths, .inl (cA 1, 32, .inl g_lengths)), (ga_offsets, .inl (cA 1, 32, .inl g_offsets))])) (va_Ql (z_rl Q) (fun _ _ => True) (fun _ => False)) 0 0 (fun _ => False) := by
  unfold vc_X7_volume at hv
  refine Met.ofW (cc := cX7_volume) (maxL := 12) (ret := (some .long)) (by decide +kernel) rfl ?_
  intro p e s m args below meth c s₁ B hml hv0
  obtain ⟨rfl, ⟨hK, hP⟩, hST⟩ := hv0
  have hx := B.exec
  have hb := B.bytes
  have hr := B.returns
  have hts := atoms_spec (ws := wsX7_volume) B.pre
  have hown : s.vm.findClass RX7 = some m.cls := findClass_of_methodNamed B.named
  have hlocks := B.notSynchronized
  have hS : va_S (fun _ : Nat => False) s.heap s.heap [] := va_S.rf
  have hl := lv_entry ([.ref x, .int (z_i gi), .int (z_i mm), .int (z_i what)]) (n := 12) (Nat.le_of_ble_eq_true rfl)
  rw [lg_entry_eq]
  generalize (lg_sl ([.ref x, .int (z_i gi), .int (z_i mm), .int (z_i what)]) ++ List.replicate (12 - (lg_sl ([.ref x, .int (z_i gi), .int (z_i mm), .int (z_i what)])).length) Slot.unset).toArray = ls at hl ⊢
  have hl : lv_has ls 12 [(0, .ref x), (1, .int (z_i gi)), (2, .int (z_i mm)), (3, .int (z_i what))] := hl
  refine lv_aload_n hx hb dX7_volume_0 rfl (lv_at hl 0 rfl) ?_
  refine lv_iload_n hx hb dX7_volume_1 rfl (lv_at hl 1 rfl) ?_
  refine va_callq (va_runV (As := [.int (z_i gi)]) (rest := []) ⟨hx, hb, hml, hown, hts⟩ (mt_X7_gridOf l D cA x xa_grids x_grids x_levelMm x_levelCount x_water x_scratch x_lines gi h_x_levelCount h_gi) (cwV 1 hts gX7_volume_X7_gridOf rfl rfl rfl (by decide +kernel) ⟨Nat.le_of_ble_eq_true rfl, Nat.le_of_ble_eq_true rfl⟩) ⟨z_bl0, va_recv hK hP (ci := 5) (q0 := 0) rfl rfl, fun U hU hW => ⟨rfl, z_b0 hK (hP.sub (ws' := [(x, .inr (5, [.ref xa_grids, .ref x_levelMm, .int (z_i x_levelCount), .ref x_water, .ref x_scratch, .ref x_lines])), (xa_grids, .inl (cA 4, 4, .inr (.inr (.inr (.inr x_grids)))))]) [0, 1] rfl) hU hW⟩⟩ rfl rfl hl.1 rfl (lv_room (Nat.le_of_ble_eq_true rfl)) dX7_volume_2 ⟨Nat.zero_le _, Nat.zero_le _⟩) hS (fun q _ h => h.elim) (fun q h => h.elim) (fun r0 u t H locs ht hvm hw hB hz1 hk1 hS => ?_)
  have hq1 := hw
  have hP := z_P_all hP hk1
  by_cases hc : 0 ≤ gi ∧ gi < 4
  · have hv := hv.1 hc
    rw [hq1, if_pos hc, hg_gi hc, z_rf_s]
    refine lv_astore (lv' := [(4, .ref g), (0, .ref x), (1, .int (z_i gi)), (2, .int (z_i mm)), (3, .int (z_i what))]) hx hb dX7_volume_5 hl (by decide) rfl (fun ls hl => ?_)
    refine lv_aload hx hb dX7_volume_7 (lv_at hl 0 rfl) ?_
    refine lv_ifnull hx hb dX7_volume_9 ?_
    refine lv_iload_n hx hb dX7_volume_12 rfl (lv_at hl 3 rfl) ?_
    refine lv_sipush (v := z_i (-8192)) hx hb dX7_volume_13 (by decide) ?_
    refine lx_icmp_lt (tgt := 35) hx hb dX7_volume_16 (by decide) h_mm (show z_in (-8192) from ⟨by decide, by decide⟩) (fun hc => ?_) (fun hc => ?_)
    · have hv := hv.1 hc
      refine lx_ldc2 (a := (-1)) hx hb hown (hts (.constantLong RX7 157 (-1)) (by decide +kernel)) (by decide) dX7_volume_35 ?_
      exact W.lret (v := z_l (-1)) hx hb hr (fun t ht hW => ⟨⟨z_l (-1), (), rfl, ⟨-1, rfl, (show z_nl (-1) from ⟨by decide, by decide⟩), hv⟩, trivial⟩, hS.F ht⟩) hS.2.2 dX7_volume_38
    · have hv := hv.2 hc
      refine lv_iload_n hx hb dX7_volume_19 rfl (lv_at hl 3 rfl) ?_
      refine lv_sipush (v := z_i 8192) hx hb dX7_volume_20 (by decide) ?_
      refine lx_icmp_gt (tgt := 35) hx hb dX7_volume_23 (by decide) h_mm (show z_in 8192 from ⟨by decide, by decide⟩) (fun hc => ?_) (fun hc => ?_)
      · have hv := hv.1 hc
        refine lx_ldc2 (a := (-1)) hx hb hown (hts (.constantLong RX7 157 (-1)) (by decide +kernel)) (by decide) dX7_volume_35 ?_
        exact W.lret (v := z_l (-1)) hx hb hr (fun t ht hW => ⟨⟨z_l (-1), (), rfl, ⟨-1, rfl, (show z_nl (-1) from ⟨by decide, by decide⟩), hv⟩, trivial⟩, hS.F ht⟩) hS.2.2 dX7_volume_38
      · have hv := hv.2 hc
        refine lv_iload_n hx hb dX7_volume_26 rfl (lv_at hl 4 rfl) ?_
        refine lx_if_lt (tgt := 35) hx hb dX7_volume_27 (by decide) h_what (fun hc => ?_) (fun hc => ?_)
        · have hv := hv.1 hc
          refine lx_ldc2 (a := (-1)) hx hb hown (hts (.constantLong RX7 157 (-1)) (by decide +kernel)) (by decide) dX7_volume_35 ?_
          exact W.lret (v := z_l (-1)) hx hb hr (fun t ht hW => ⟨⟨z_l (-1), (), rfl, ⟨-1, rfl, (show z_nl (-1) from ⟨by decide, by decide⟩), hv⟩, trivial⟩, hS.F ht⟩) hS.2.2 dX7_volume_38
        · have hv := hv.2 hc
          refine lv_iload_n hx hb dX7_volume_30 rfl (lv_at hl 4 rfl) ?_
          refine lv_iconst (v := z_i 1) hx hb dX7_volume_31 rfl ?_
          refine lx_icmp_le (tgt := 39) hx hb dX7_volume_32 (by decide) h_what (show z_in 1 from ⟨by decide, by decide⟩) (fun hc => ?_) (fun hc => ?_)
          · have hv := hv.1 hc
            refine lv_iload_n hx hb dX7_volume_39 rfl (lv_at hl 4 rfl) ?_
            refine lx_if_ne (tgt := 47) hx hb dX7_volume_40 (by decide) h_what (fun hc => ?_) (fun hc => ?_)
            · have hv := hv.1 hc
              refine lx_ldc2 (a := (-1)) hx hb hown (hts (.constantLong RX7 157 (-1)) (by decide +kernel)) (by decide) dX7_volume_47 ?_
              refine lv_lstore (lv' := [(5, .long (z_l (-1))), (4, .ref g), (0, .ref x), (1, .int (z_i gi)), (2, .int (z_i mm)), (3, .int (z_i what))]) hx hb dX7_volume_50 hl (by decide) rfl (fun ls hl => ?_)
              refine lv_lconst (v := z_l 0) hx hb dX7_volume_52 (by decide) ?_
              refine lv_lstore (lv' := [(7, .long (z_l 0)), (5, .long (z_l (-1))), (4, .ref g), (0, .ref x), (1, .int (z_i gi)), (2, .int (z_i mm)), (3, .int (z_i what))]) hx hb dX7_volume_53 hl (by decide) rfl (fun ls hl => ?_)
              refine lv_iconst (v := z_i 0) hx hb dX7_volume_55 rfl ?_
              refine lv_istore (lv' := [(9, .int (z_i 0)), (7, .long (z_l 0)), (5, .long (z_l (-1))), (4, .ref g), (0, .ref x), (1, .int (z_i gi)), (2, .int (z_i mm)), (3, .int (z_i what))]) hx hb dX7_volume_56 hl (by decide) rfl (fun ls hl => ?_)
              refine hv (fun (x58_9 : Int) (x58_7 : Int) => ∀ (H : Heap) (locs : List Loc) (ls : Array Slot), va_P D vwCl [(x, .inr (5, [.ref xa_grids, .ref x_levelMm, .int (z_i x_levelCount), .ref x_water, .ref x_scratch, .ref x_lines])), (xa_grids, .inl (cA 4, 4, .inr (.inr (.inr (.inr x_grids))))), (g, .inr (1, [.ref ga_units, .ref ga_lengths, .ref ga_offsets, .int (z_i g_step)])), (ga_units, .inl (cA 1, 1280, .inl g_units)), (ga_lengths, .inl (cA 1, 32, .inl g_lengths)), (ga_offsets, .inl (cA 1, 32, .inl g_offsets))] H → va_S (fun _ : Nat => False) s.heap H locs → lv_has ls 12 [(9, .int (z_i x58_9)), (7, .long (z_l x58_7)), (5, .long (z_l (-1))), (4, .ref g), (2, .int (z_i mm))] → W p l e _ s m _ below meth c H locs 0 0 _ (F0 m 58 ls [])) ?_ _ _ ls hP hS (lv_sub hl [0, 1, 2, 3, 6] rfl)
              intro x58_9 x58_7 h_x58_9 h_x58_7 hv H locs ls hP hS hl
              refine lv_iload hx hb dX7_volume_58 (lv_at hl 0 rfl) ?_
              refine lv_sipush (v := z_i 1280) hx hb dX7_volume_60 (by decide) ?_
              refine lx_icmp_ge (tgt := 120) hx hb dX7_volume_63 (by decide) h_x58_9 (show z_in 1280 from ⟨by decide, by decide⟩) (fun hc => ?_) (fun hc => ?_)
              · have hv := hv.1 hc
                refine lv_lload hx hb dX7_volume_120 (lv_at hl 1 rfl) ?_
                exact W.lret (v := z_l x58_7) hx hb hr (fun t ht hW => ⟨⟨z_l x58_7, (), rfl, ⟨x58_7, rfl, h_x58_7, hv⟩, trivial⟩, hS.F ht⟩) hS.2.2 dX7_volume_122
              · have hv := hv.2 hc
                refine lv_aload hx hb dX7_volume_66 (lv_at hl 3 rfl) ?_
                refine lv_iload hx hb dX7_volume_68 (lv_at hl 0 rfl) ?_
                obtain ⟨hp2, hv⟩ := hv
                refine va_calli (va_runV (As := [.int (z_i x58_9)]) (rest := []) ⟨hx, hb, hml, hown, hts⟩ (mt_X2_isWhole l D cA t1 t2 g ga_units g_units ga_lengths g_lengths ga_offsets g_offsets g_step x58_9 h_g_step h_x58_9 hp2) (cwV 1 hts gX7_volume_X2_isWhole rfl rfl rfl (by decide +kernel) ⟨Nat.le_of_ble_eq_true rfl, Nat.le_of_ble_eq_true rfl⟩) ⟨z_bl1, va_recv hK hP (ci := 1) (q0 := 2) rfl rfl, fun U hU hW => ⟨rfl, z_b1 hK (hP.sub (ws' := [(g, .inr (1, [.ref ga_units, .ref ga_lengths, .ref ga_offsets, .int (z_i g_step)])), (ga_units, .inl (cA 1, 1280, .inl g_units)), (ga_lengths, .inl (cA 1, 32, .inl g_lengths)), (ga_offsets, .inl (cA 1, 32, .inl g_offsets))]) [2, 3, 4, 5] rfl) (hST.at hS (fun _ h => h.elim)) hU hW⟩⟩ rfl rfl hl.1 rfl (lv_room (Nat.le_of_ble_eq_true rfl)) dX7_volume_70 ⟨Nat.zero_le _, Nat.zero_le _⟩) hS (fun q _ h => h.elim) (fun q h => h.elim) (fun r0 u t H locs ht hvm hw hB hz1 hk1 hS => ?_)
                obtain ⟨r3, rfl, h_r3, hw⟩ := hw
                have hP := z_P_all hP hk1
                have hv := hv r3 h_r3 hw
                refine lx_if_eq (tgt := 114) hx hb dX7_volume_73 (by decide) h_r3 (fun hc => ?_) (fun hc => ?_)
                · have hv := hv.1 hc
                  refine lv_iinc (v := z_i (x58_9 + 1)) (lv' := [(9, .int (z_i (x58_9 + 1))), (7, .long (z_l x58_7)), (5, .long (z_l (-1))), (4, .ref g), (2, .int (z_i mm))]) hx hb dX7_volume_114 hl (k := 0) rfl (z_i_add _ _) (by decide) rfl (fun ls hl => ?_)
                  refine lv_goto (tgt := 58) hx hb dX7_volume_117 (by decide) ?_
                  exact hv _ _ ls hP hS (lv_sub hl [0, 1, 2, 3, 4] rfl)
                · have hv := hv.2 hc
                  refine lv_lload hx hb dX7_volume_76 (lv_at hl 2 rfl) ?_
                  refine lv_aload hx hb dX7_volume_78 (lv_at hl 3 rfl) ?_
                  refine lv_iload hx hb dX7_volume_80 (lv_at hl 0 rfl) ?_
                  obtain ⟨hp4, hv⟩ := hv
                  obtain ⟨hp5, hv⟩ := hv
                  obtain ⟨hp6, hv⟩ := hv
                  refine va_calli (va_runV (As := [.int (z_i x58_9)]) (rest := [.long (z_l (-1))]) ⟨hx, hb, hml, hown, hts⟩ (mt_X2_cellSum l D cA g ga_units g_units ga_lengths g_lengths ga_offsets g_offsets g_step x58_9 h_g_step h_x58_9 hp4 hp5 hp6) (cwV 1 hts gX7_volume_X2_cellSum rfl rfl rfl (by decide +kernel) ⟨Nat.le_of_ble_eq_true rfl, Nat.le_of_ble_eq_true rfl⟩) ⟨z_bl0, va_recv hK hP (ci := 1) (q0 := 2) rfl rfl, fun U hU hW => ⟨rfl, z_b0 hK (hP.sub (ws' := [(g, .inr (1, [.ref ga_units, .ref ga_lengths, .ref ga_offsets, .int (z_i g_step)])), (ga_units, .inl (cA 1, 1280, .inl g_units)), (ga_lengths, .inl (cA 1, 32, .inl g_lengths)), (ga_offsets, .inl (cA 1, 32, .inl g_offsets))]) [2, 3, 4, 5] rfl) hU hW⟩⟩ rfl rfl hl.1 rfl (lv_room (Nat.le_of_ble_eq_true rfl)) dX7_volume_82 ⟨Nat.zero_le _, Nat.zero_le _⟩) hS (fun q _ h => h.elim) (fun q h => h.elim) (fun r0 u t H locs ht hvm hw hB hz1 hk1 hS => ?_)
                  obtain ⟨r7, rfl, h_r7, hw⟩ := hw
                  have hP := z_P_all hP hk1
                  have hv := hv r7 h_r7 hw
                  refine lx_i2l hx hb dX7_volume_85 h_r7 ?_
                  refine lx_ldc2 (a := 4096) hx hb hown (hts (.constantLong RX7 165 (4096)) (by decide +kernel)) (by decide) dX7_volume_86 ?_
                  refine lv_iload_n hx hb dX7_volume_89 rfl (lv_at hl 4 rfl) ?_
                  refine lx_i2l hx hb dX7_volume_90 h_mm ?_
                  refine lx_lmul hx hb dX7_volume_91 ?_
                  refine lx_lsub hx hb dX7_volume_92 ?_
                  refine lx_lmul hx hb dX7_volume_93 ?_
                  obtain ⟨hr9, hv⟩ := hv
                  refine lx_topl (fun v8 hy10 => ?_)
                  have hv := hv v8 hy10
                  have h_v8 : z_nl v8 := by rw [hy10]; exact hr9
                  refine lv_lstore (lv' := [(10, .long (z_l v8)), (9, .int (z_i x58_9)), (7, .long (z_l x58_7)), (5, .long (z_l (-1))), (4, .ref g), (2, .int (z_i mm))]) hx hb dX7_volume_94 hl (by decide) rfl (fun ls hl => ?_)
                  refine lv_lload hx hb dX7_volume_96 (lv_at hl 2 rfl) ?_
                  refine lv_lload hx hb dX7_volume_98 (lv_at hl 0 rfl) ?_
                  refine lv_lconst (v := z_l 0) hx hb dX7_volume_100 (by decide) ?_
                  refine lx_lcmp hx hb dX7_volume_101 h_v8 (show z_nl 0 from ⟨by decide, by decide⟩) ?_
                  refine lx_if_le (tgt := 110) hx hb dX7_volume_102 (by decide) (z_in_cmp _ _) (fun hc => ?_) (fun hc => ?_)
                  · have hv := hv.1 (z_cmp_le.mp hc)
                    refine lv_lconst (v := z_l 0) hx hb dX7_volume_110 (by decide) ?_
                    refine lx_ladd hx hb dX7_volume_111 ?_
                    obtain ⟨hr12, hv⟩ := hv
                    refine lx_topl (fun v11 hy13 => ?_)
                    have hv := hv v11 hy13
                    have h_v11 : z_nl v11 := by rw [hy13]; exact hr12
                    refine lv_lstore (lv' := [(7, .long (z_l v11)), (10, .long (z_l v8)), (9, .int (z_i x58_9)), (5, .long (z_l (-1))), (4, .ref g), (2, .int (z_i mm))]) hx hb dX7_volume_112 hl (by decide) rfl (fun ls hl => ?_)
                    refine lv_iinc (v := z_i (x58_9 + 1)) (lv' := [(9, .int (z_i (x58_9 + 1))), (7, .long (z_l v11)), (10, .long (z_l v8)), (5, .long (z_l (-1))), (4, .ref g), (2, .int (z_i mm))]) hx hb dX7_volume_114 hl (k := 2) rfl (z_i_add _ _) (by decide) rfl (fun ls hl => ?_)
                    refine lv_goto (tgt := 58) hx hb dX7_volume_117 (by decide) ?_
                    exact hv _ _ ls hP hS (lv_sub hl [0, 1, 3, 4, 5] rfl)
                  · have hv := hv.2 (z_cmp_gt.mp hc)
                    refine lv_lload hx hb dX7_volume_105 (lv_at hl 0 rfl) ?_
                    refine lv_goto (tgt := 111) hx hb dX7_volume_107 (by decide) ?_
                    refine lx_ladd hx hb dX7_volume_111 ?_
                    obtain ⟨hr15, hv⟩ := hv
                    refine lx_topl (fun v14 hy16 => ?_)
                    have hv := hv v14 hy16
                    have h_v14 : z_nl v14 := by rw [hy16]; exact hr15
                    refine lv_lstore (lv' := [(7, .long (z_l v14)), (10, .long (z_l v8)), (9, .int (z_i x58_9)), (5, .long (z_l (-1))), (4, .ref g), (2, .int (z_i mm))]) hx hb dX7_volume_112 hl (by decide) rfl (fun ls hl => ?_)
                    refine lv_iinc (v := z_i (x58_9 + 1)) (lv' := [(9, .int (z_i (x58_9 + 1))), (7, .long (z_l v14)), (10, .long (z_l v8)), (5, .long (z_l (-1))), (4, .ref g), (2, .int (z_i mm))]) hx hb dX7_volume_114 hl (k := 2) rfl (z_i_add _ _) (by decide) rfl (fun ls hl => ?_)
                    refine lv_goto (tgt := 58) hx hb dX7_volume_117 (by decide) ?_
                    exact hv _ _ ls hP hS (lv_sub hl [0, 1, 3, 4, 5] rfl)
            · have hv := hv.2 hc
              refine lv_lconst (v := z_l 1) hx hb dX7_volume_43 (by decide) ?_
              refine lv_goto (tgt := 50) hx hb dX7_volume_44 (by decide) ?_
              refine lv_lstore (lv' := [(5, .long (z_l 1)), (4, .ref g), (0, .ref x), (1, .int (z_i gi)), (2, .int (z_i mm)), (3, .int (z_i what))]) hx hb dX7_volume_50 hl (by decide) rfl (fun ls hl => ?_)
              refine lv_lconst (v := z_l 0) hx hb dX7_volume_52 (by decide) ?_
              refine lv_lstore (lv' := [(7, .long (z_l 0)), (5, .long (z_l 1)), (4, .ref g), (0, .ref x), (1, .int (z_i gi)), (2, .int (z_i mm)), (3, .int (z_i what))]) hx hb dX7_volume_53 hl (by decide) rfl (fun ls hl => ?_)
              refine lv_iconst (v := z_i 0) hx hb dX7_volume_55 rfl ?_
              refine lv_istore (lv' := [(9, .int (z_i 0)), (7, .long (z_l 0)), (5, .long (z_l 1)), (4, .ref g), (0, .ref x), (1, .int (z_i gi)), (2, .int (z_i mm)), (3, .int (z_i what))]) hx hb dX7_volume_56 hl (by decide) rfl (fun ls hl => ?_)
              refine hv (fun (x58_9 : Int) (x58_7 : Int) => ∀ (H : Heap) (locs : List Loc) (ls : Array Slot), va_P D vwCl [(x, .inr (5, [.ref xa_grids, .ref x_levelMm, .int (z_i x_levelCount), .ref x_water, .ref x_scratch, .ref x_lines])), (xa_grids, .inl (cA 4, 4, .inr (.inr (.inr (.inr x_grids))))), (g, .inr (1, [.ref ga_units, .ref ga_lengths, .ref ga_offsets, .int (z_i g_step)])), (ga_units, .inl (cA 1, 1280, .inl g_units)), (ga_lengths, .inl (cA 1, 32, .inl g_lengths)), (ga_offsets, .inl (cA 1, 32, .inl g_offsets))] H → va_S (fun _ : Nat => False) s.heap H locs → lv_has ls 12 [(9, .int (z_i x58_9)), (7, .long (z_l x58_7)), (5, .long (z_l 1)), (4, .ref g), (2, .int (z_i mm))] → W p l e _ s m _ below meth c H locs 0 0 _ (F0 m 58 ls [])) ?_ _ _ ls hP hS (lv_sub hl [0, 1, 2, 3, 6] rfl)
              intro x58_9 x58_7 h_x58_9 h_x58_7 hv H locs ls hP hS hl
              refine lv_iload hx hb dX7_volume_58 (lv_at hl 0 rfl) ?_
              refine lv_sipush (v := z_i 1280) hx hb dX7_volume_60 (by decide) ?_
              refine lx_icmp_ge (tgt := 120) hx hb dX7_volume_63 (by decide) h_x58_9 (show z_in 1280 from ⟨by decide, by decide⟩) (fun hc => ?_) (fun hc => ?_)
              · have hv := hv.1 hc
                refine lv_lload hx hb dX7_volume_120 (lv_at hl 1 rfl) ?_
                exact W.lret (v := z_l x58_7) hx hb hr (fun t ht hW => ⟨⟨z_l x58_7, (), rfl, ⟨x58_7, rfl, h_x58_7, hv⟩, trivial⟩, hS.F ht⟩) hS.2.2 dX7_volume_122
              · have hv := hv.2 hc
                refine lv_aload hx hb dX7_volume_66 (lv_at hl 3 rfl) ?_
                refine lv_iload hx hb dX7_volume_68 (lv_at hl 0 rfl) ?_
                obtain ⟨hp17, hv⟩ := hv
                refine va_calli (va_runV (As := [.int (z_i x58_9)]) (rest := []) ⟨hx, hb, hml, hown, hts⟩ (mt_X2_isWhole l D cA t1 t2 g ga_units g_units ga_lengths g_lengths ga_offsets g_offsets g_step x58_9 h_g_step h_x58_9 hp17) (cwV 1 hts gX7_volume_X2_isWhole rfl rfl rfl (by decide +kernel) ⟨Nat.le_of_ble_eq_true rfl, Nat.le_of_ble_eq_true rfl⟩) ⟨z_bl1, va_recv hK hP (ci := 1) (q0 := 2) rfl rfl, fun U hU hW => ⟨rfl, z_b1 hK (hP.sub (ws' := [(g, .inr (1, [.ref ga_units, .ref ga_lengths, .ref ga_offsets, .int (z_i g_step)])), (ga_units, .inl (cA 1, 1280, .inl g_units)), (ga_lengths, .inl (cA 1, 32, .inl g_lengths)), (ga_offsets, .inl (cA 1, 32, .inl g_offsets))]) [2, 3, 4, 5] rfl) (hST.at hS (fun _ h => h.elim)) hU hW⟩⟩ rfl rfl hl.1 rfl (lv_room (Nat.le_of_ble_eq_true rfl)) dX7_volume_70 ⟨Nat.zero_le _, Nat.zero_le _⟩) hS (fun q _ h => h.elim) (fun q h => h.elim) (fun r0 u t H locs ht hvm hw hB hz1 hk1 hS => ?_)
                obtain ⟨r18, rfl, h_r18, hw⟩ := hw
                have hP := z_P_all hP hk1
                have hv := hv r18 h_r18 hw
                refine lx_if_eq (tgt := 114) hx hb dX7_volume_73 (by decide) h_r18 (fun hc => ?_) (fun hc => ?_)
                · have hv := hv.1 hc
                  refine lv_iinc (v := z_i (x58_9 + 1)) (lv' := [(9, .int (z_i (x58_9 + 1))), (7, .long (z_l x58_7)), (5, .long (z_l 1)), (4, .ref g), (2, .int (z_i mm))]) hx hb dX7_volume_114 hl (k := 0) rfl (z_i_add _ _) (by decide) rfl (fun ls hl => ?_)
                  refine lv_goto (tgt := 58) hx hb dX7_volume_117 (by decide) ?_
                  exact hv _ _ ls hP hS (lv_sub hl [0, 1, 2, 3, 4] rfl)
                · have hv := hv.2 hc
                  refine lv_lload hx hb dX7_volume_76 (lv_at hl 2 rfl) ?_
                  refine lv_aload hx hb dX7_volume_78 (lv_at hl 3 rfl) ?_
                  refine lv_iload hx hb dX7_volume_80 (lv_at hl 0 rfl) ?_
                  obtain ⟨hp19, hv⟩ := hv
                  obtain ⟨hp20, hv⟩ := hv
                  obtain ⟨hp21, hv⟩ := hv
                  refine va_calli (va_runV (As := [.int (z_i x58_9)]) (rest := [.long (z_l 1)]) ⟨hx, hb, hml, hown, hts⟩ (mt_X2_cellSum l D cA g ga_units g_units ga_lengths g_lengths ga_offsets g_offsets g_step x58_9 h_g_step h_x58_9 hp19 hp20 hp21) (cwV 1 hts gX7_volume_X2_cellSum rfl rfl rfl (by decide +kernel) ⟨Nat.le_of_ble_eq_true rfl, Nat.le_of_ble_eq_true rfl⟩) ⟨z_bl0, va_recv hK hP (ci := 1) (q0 := 2) rfl rfl, fun U hU hW => ⟨rfl, z_b0 hK (hP.sub (ws' := [(g, .inr (1, [.ref ga_units, .ref ga_lengths, .ref ga_offsets, .int (z_i g_step)])), (ga_units, .inl (cA 1, 1280, .inl g_units)), (ga_lengths, .inl (cA 1, 32, .inl g_lengths)), (ga_offsets, .inl (cA 1, 32, .inl g_offsets))]) [2, 3, 4, 5] rfl) hU hW⟩⟩ rfl rfl hl.1 rfl (lv_room (Nat.le_of_ble_eq_true rfl)) dX7_volume_82 ⟨Nat.zero_le _, Nat.zero_le _⟩) hS (fun q _ h => h.elim) (fun q h => h.elim) (fun r0 u t H locs ht hvm hw hB hz1 hk1 hS => ?_)
                  obtain ⟨r22, rfl, h_r22, hw⟩ := hw
                  have hP := z_P_all hP hk1
                  have hv := hv r22 h_r22 hw
                  refine lx_i2l hx hb dX7_volume_85 h_r22 ?_
                  refine lx_ldc2 (a := 4096) hx hb hown (hts (.constantLong RX7 165 (4096)) (by decide +kernel)) (by decide) dX7_volume_86 ?_
                  refine lv_iload_n hx hb dX7_volume_89 rfl (lv_at hl 4 rfl) ?_
                  refine lx_i2l hx hb dX7_volume_90 h_mm ?_
                  refine lx_lmul hx hb dX7_volume_91 ?_
                  refine lx_lsub hx hb dX7_volume_92 ?_
                  refine lx_lmul hx hb dX7_volume_93 ?_
                  obtain ⟨hr24, hv⟩ := hv
                  refine lx_topl (fun v23 hy25 => ?_)
                  have hv := hv v23 hy25
                  have h_v23 : z_nl v23 := by rw [hy25]; exact hr24
                  refine lv_lstore (lv' := [(10, .long (z_l v23)), (9, .int (z_i x58_9)), (7, .long (z_l x58_7)), (5, .long (z_l 1)), (4, .ref g), (2, .int (z_i mm))]) hx hb dX7_volume_94 hl (by decide) rfl (fun ls hl => ?_)
                  refine lv_lload hx hb dX7_volume_96 (lv_at hl 2 rfl) ?_
                  refine lv_lload hx hb dX7_volume_98 (lv_at hl 0 rfl) ?_
                  refine lv_lconst (v := z_l 0) hx hb dX7_volume_100 (by decide) ?_
                  refine lx_lcmp hx hb dX7_volume_101 h_v23 (show z_nl 0 from ⟨by decide, by decide⟩) ?_
                  refine lx_if_le (tgt := 110) hx hb dX7_volume_102 (by decide) (z_in_cmp _ _) (fun hc => ?_) (fun hc => ?_)
                  · have hv := hv.1 (z_cmp_le.mp hc)
                    refine lv_lconst (v := z_l 0) hx hb dX7_volume_110 (by decide) ?_
                    refine lx_ladd hx hb dX7_volume_111 ?_
                    obtain ⟨hr27, hv⟩ := hv
                    refine lx_topl (fun v26 hy28 => ?_)
                    have hv := hv v26 hy28
                    have h_v26 : z_nl v26 := by rw [hy28]; exact hr27
                    refine lv_lstore (lv' := [(7, .long (z_l v26)), (10, .long (z_l v23)), (9, .int (z_i x58_9)), (5, .long (z_l 1)), (4, .ref g), (2, .int (z_i mm))]) hx hb dX7_volume_112 hl (by decide) rfl (fun ls hl => ?_)
                    refine lv_iinc (v := z_i (x58_9 + 1)) (lv' := [(9, .int (z_i (x58_9 + 1))), (7, .long (z_l v26)), (10, .long (z_l v23)), (5, .long (z_l 1)), (4, .ref g), (2, .int (z_i mm))]) hx hb dX7_volume_114 hl (k := 2) rfl (z_i_add _ _) (by decide) rfl (fun ls hl => ?_)
                    refine lv_goto (tgt := 58) hx hb dX7_volume_117 (by decide) ?_
                    exact hv _ _ ls hP hS (lv_sub hl [0, 1, 3, 4, 5] rfl)
                  · have hv := hv.2 (z_cmp_gt.mp hc)
                    refine lv_lload hx hb dX7_volume_105 (lv_at hl 0 rfl) ?_
                    refine lv_goto (tgt := 111) hx hb dX7_volume_107 (by decide) ?_
                    refine lx_ladd hx hb dX7_volume_111 ?_
                    obtain ⟨hr30, hv⟩ := hv
                    refine lx_topl (fun v29 hy31 => ?_)
                    have hv := hv v29 hy31
                    have h_v29 : z_nl v29 := by rw [hy31]; exact hr30
                    refine lv_lstore (lv' := [(7, .long (z_l v29)), (10, .long (z_l v23)), (9, .int (z_i x58_9)), (5, .long (z_l 1)), (4, .ref g), (2, .int (z_i mm))]) hx hb dX7_volume_112 hl (by decide) rfl (fun ls hl => ?_)
                    refine lv_iinc (v := z_i (x58_9 + 1)) (lv' := [(9, .int (z_i (x58_9 + 1))), (7, .long (z_l v29)), (10, .long (z_l v23)), (5, .long (z_l 1)), (4, .ref g), (2, .int (z_i mm))]) hx hb dX7_volume_114 hl (k := 2) rfl (z_i_add _ _) (by decide) rfl (fun ls hl => ?_)
                    refine lv_goto (tgt := 58) hx hb dX7_volume_117 (by decide) ?_
                    exact hv _ _ ls hP hS (lv_sub hl [0, 1, 3, 4, 5] rfl)
          · have hv := hv.2 hc
            refine lx_ldc2 (a := (-1)) hx hb hown (hts (.constantLong RX7 157 (-1)) (by decide +kernel)) (by decide) dX7_volume_35 ?_
            exact W.lret (v := z_l (-1)) hx hb hr (fun t ht hW => ⟨⟨z_l (-1), (), rfl, ⟨-1, rfl, (show z_nl (-1) from ⟨by decide, by decide⟩), hv⟩, trivial⟩, hS.F ht⟩) hS.2.2 dX7_volume_38
  · have hv := hv.2 hc
    rw [hq1, if_neg hc, z_rf_n]
    refine lv_astoreN (lv' := [(4, .null), (0, .ref x), (1, .int (z_i gi)), (2, .int (z_i mm)), (3, .int (z_i what))]) hx hb dX7_volume_5 hl (by decide) rfl (fun ls hl => ?_)
    refine lv_aloadN hx hb dX7_volume_7 (lv_at hl 0 rfl) ?_
    refine lv_ifnullN (tgt := 35) hx hb dX7_volume_9 (by decide) ?_
    refine lx_ldc2 (a := (-1)) hx hb hown (hts (.constantLong RX7 157 (-1)) (by decide +kernel)) (by decide) dX7_volume_35 ?_
    exact W.lret (v := z_l (-1)) hx hb hr (fun t ht hW => ⟨⟨z_l (-1), (), rfl, ⟨-1, rfl, (show z_nl (-1) from ⟨by decide, by decide⟩), hv⟩, trivial⟩, hS.F ht⟩) hS.2.2 dX7_volume_38
set_option maxHeartbeats 4000000 in
set_option maxRecDepth 100000 in
theorem mt_X7_volume (l : Launch) (D : va_G) (cA : Nat → ClassId) (t1 t2 : Nat) (x : Nat) (xa_grids : Nat) (x_grids : Nat → Option Nat) (x_levelMm : Nat) (x_levelCount : Int) (x_water : Nat) (x_scratch : Nat) (x_lines : Nat) (gi : Int) (mm : Int) (what : Int) (g : Nat) (ga_units : Nat) (g_units : Nat → Int32) (ga_lengths : Nat) (g_lengths : Nat → Int32) (ga_offsets : Nat) (g_offsets : Nat → Int32) (g_step : Int) (h_x_levelCount : z_in x_levelCount) (h_gi : z_in gi) (h_mm : z_in mm) (h_what : z_in what) (h_g_step : z_in g_step) (hg_gi : 0 ≤ gi ∧ gi < 4 → x_grids gi.toNat = some g) (hp1 : g_ok g_units) : Met l yX7_volume wsX7_volume ({ frames := 4, cells := 0, slots := 0, locals := 87 } : Room) (va_Pc [.ref x, .int (z_i gi), .int (z_i mm), .int (z_i what)] (z_B1 D cA t1 t2 [(x, .inr (5, [.ref xa_grids, .ref x_levelMm, .int (z_i x_levelCount), .ref x_water, .ref x_scratch, .ref x_lines])), (xa_grids, .inl (cA 4, 4, .inr (.inr (.inr (.inr x_grids))))), (g, .inr (1, [.ref ga_units, .ref ga_lengths, .ref ga_offsets, .int (z_i g_step)])), (ga_units, .inl (cA 1, 1280, .inl g_units)), (ga_lengths, .inl (cA 1, 32, .inl g_lengths)), (ga_offsets, .inl (cA 1, 32, .inl g_offsets))])) (va_Ql (z_rl (fun (r : Int) => r = if (0 ≤ gi ∧ gi < 4) ∧ -8192 ≤ mm ∧ mm ≤ 8192 ∧ 0 ≤ what ∧ what ≤ 1 then p_vl (g_th g_units) (g_at g_units) mm what 1280 else -1)) (fun _ _ => True) (fun _ => False)) 0 0 (fun _ => False) := by
  refine wk_X7_volume l D cA t1 t2 x xa_grids x_grids x_levelMm x_levelCount x_water x_scratch x_lines gi mm what g ga_units g_units ga_lengths g_lengths ga_offsets g_offsets g_step h_x_levelCount h_gi h_mm h_what h_g_step hg_gi (fun (r : Int) => r = if (0 ≤ gi ∧ gi < 4) ∧ -8192 ≤ mm ∧ mm ≤ 8192 ∧ 0 ≤ what ∧ what ≤ 1 then p_vl (g_th g_units) (g_at g_units) mm what 1280 else -1) ?_
  unfold vc_X7_volume
  have no : ¬ ((0 ≤ gi ∧ gi < 4) ∧ -8192 ≤ mm ∧ mm ≤ 8192 ∧ 0 ≤ what ∧ what ≤ 1) → (-1 : Int) = if (0 ≤ gi ∧ gi < 4) ∧ -8192 ≤ mm ∧ mm ≤ 8192 ∧ 0 ≤ what ∧ what ≤ 1 then p_vl (g_th g_units) (g_at g_units) mm what 1280 else -1 := fun h => by rw [if_neg h]
  refine ⟨fun q => ⟨fun q1 => no (by omega), fun q1 => ⟨fun q2 => no (by omega), fun q2 => ⟨fun q3 => no (by omega), fun q3 => ⟨fun q4 => ?_, fun q4 => no (by omega)⟩⟩⟩⟩, fun q => no (fun h => q h.1)⟩
  rw [if_pos ⟨q, q1, q2, q3, q4⟩]
  refine ⟨fun qw => ?_, fun qw => ?_⟩
  · intro L hL
    have eo : ∀ k : Int, p_ov (g_at g_units) mm what k = (-1) * (g_at g_units k + g_at g_units (k + 1) + g_at g_units (k + 40) + g_at g_units (k + 40 + 1) - 4096 * mm) := fun k => by unfold p_ov; rw [if_neg qw]
    suffices H : ∀ (d k : Nat) (f : Int), k + d = 1280 → f = p_vl (g_th g_units) (g_at g_units) mm what k → 0 ≤ f → f ≤ 67108864 * (k : Int) → L k f from H 1280 0 0 rfl rfl (by omega) (by omega)
    intro d
    induction d with
    | zero =>
      intro k f hk hf f0 f1
      obtain rfl : k = 1280 := by omega
      exact hL _ _ ⟨by omega, by omega⟩ ⟨by omega, by omega⟩ ⟨fun _ => hf, fun h => absurd h (by decide)⟩
    | succ d ih =>
      intro k f hk hf f0 f1
      refine hL _ _ ⟨by omega, by omega⟩ ⟨by omega, by omega⟩ ⟨fun h => absurd h (by omega), fun _ => ⟨⟨by omega, by omega⟩, ?_⟩⟩
      have es : p_vl (g_th g_units) (g_at g_units) mm what (k + 1) = p_vl (g_th g_units) (g_at g_units) mm what k + (if m_wh (g_th g_units) k = true ∧ 0 < p_ov (g_at g_units) mm what k then p_ov (g_at g_units) mm what k else 0) := rfl
      have hi := ih (k + 1)
      rw [es, ← hf] at hi
      rintro r3 _ rfl
      refine ⟨fun q5 => ?_, fun q5 => ⟨⟨by omega, by omega⟩, hp1, zb_t q5, ?_⟩⟩
      · exact hi f (by omega) (by rw [if_neg (fun h => by rw [zb_f q5] at h; exact absurd h.1 (by decide))]; omega) f0 (by omega)
      · have bw := g_wh_b hp1 (zb_t q5)
        rintro r7 _ h7
        rw [eo, ← h7] at hi
        rw [← h7] at bw
        refine ⟨⟨by omega, by omega⟩, ?_⟩
        rintro v8 rfl
        refine ⟨fun q6 => ⟨⟨by omega, by omega⟩, ?_⟩, fun q6 => ⟨⟨by omega, by omega⟩, ?_⟩⟩
        · rintro v11 rfl
          exact hi _ (by omega) (by rw [if_neg (fun h => by have := h.2; omega)]) (by omega) (by omega)
        · rintro v14 rfl
          exact hi _ (by omega) (by rw [if_pos ⟨zb_t q5, by omega⟩]) (by omega) (by omega)
  · intro L hL
    have eo : ∀ k : Int, p_ov (g_at g_units) mm what k = 1 * (g_at g_units k + g_at g_units (k + 1) + g_at g_units (k + 40) + g_at g_units (k + 40 + 1) - 4096 * mm) := fun k => by unfold p_ov; rw [if_pos qw]
    suffices H : ∀ (d k : Nat) (f : Int), k + d = 1280 → f = p_vl (g_th g_units) (g_at g_units) mm what k → 0 ≤ f → f ≤ 67108864 * (k : Int) → L k f from H 1280 0 0 rfl rfl (by omega) (by omega)
    intro d
    induction d with
    | zero =>
      intro k f hk hf f0 f1
      obtain rfl : k = 1280 := by omega
      exact hL _ _ ⟨by omega, by omega⟩ ⟨by omega, by omega⟩ ⟨fun _ => hf, fun h => absurd h (by decide)⟩
    | succ d ih =>
      intro k f hk hf f0 f1
      refine hL _ _ ⟨by omega, by omega⟩ ⟨by omega, by omega⟩ ⟨fun h => absurd h (by omega), fun _ => ⟨⟨by omega, by omega⟩, ?_⟩⟩
      have es : p_vl (g_th g_units) (g_at g_units) mm what (k + 1) = p_vl (g_th g_units) (g_at g_units) mm what k + (if m_wh (g_th g_units) k = true ∧ 0 < p_ov (g_at g_units) mm what k then p_ov (g_at g_units) mm what k else 0) := rfl
      have hi := ih (k + 1)
      rw [es, ← hf] at hi
      rintro r3 _ rfl
      refine ⟨fun q5 => ?_, fun q5 => ⟨⟨by omega, by omega⟩, hp1, zb_t q5, ?_⟩⟩
      · exact hi f (by omega) (by rw [if_neg (fun h => by rw [zb_f q5] at h; exact absurd h.1 (by decide))]; omega) f0 (by omega)
      · have bw := g_wh_b hp1 (zb_t q5)
        rintro r7 _ h7
        rw [eo, ← h7] at hi
        rw [← h7] at bw
        refine ⟨⟨by omega, by omega⟩, ?_⟩
        rintro v8 rfl
        refine ⟨fun q6 => ⟨⟨by omega, by omega⟩, ?_⟩, fun q6 => ⟨⟨by omega, by omega⟩, ?_⟩⟩
        · rintro v11 rfl
          exact hi _ (by omega) (by rw [if_neg (fun h => by have := h.2; omega)]) (by omega) (by omega)
        · rintro v14 rfl
          exact hi _ (by omega) (by rw [if_pos ⟨zb_t q5, by omega⟩]) (by omega) (by omega)
def vc_X7_seen (gi : Int) (i : Int) (j : Int) (i2 : Int) (j2 : Int) (eye : Int) (g_units : Nat → Int32) (Q : Int → Prop) : Prop :=
((0 ≤ gi ∧ gi < 4 → ((eye < 0 → Q (-1)) ∧
(eye ≥ 0 → ((eye > 8192 → Q (-1)) ∧
(eye ≤ 8192 → (∀ (r2 : Int), z_in r2 → (r2 = z_b (decide (m_no (g_th g_units) i j ≠ -1))) → ((r2 = 0 → Q (-1)) ∧
(r2 ≠ 0 → (∀ (r3 : Int), z_in r3 → (r3 = z_b (decide (m_no (g_th g_units) i2 j2 ≠ -1))) → ((r3 ≠ 0 → z_in ((40 * i) + j) ∧ (∀ v4 : Int, v4 = (40 * i) + j → z_in ((40 * i2) + j2) ∧ (∀ v7 : Int, v7 = (40 * i2) + j2 → (0 ≤ v4 ∧ v4 < 1280) ∧ (0 ≤ v7 ∧ v7 < 1280) ∧ (0 ≤ eye ∧ eye ≤ 8192) ∧ ((1 : Int) = 0 ∨ (1 : Int) = 1) ∧ (g_ok g_units) ∧ (g_th g_units v4 = true) ∧ (g_th g_units v7 = true) ∧ (∀ (r17 : Int), z_in r17 → ((r17 = 1 ∧ e_hid (g_th g_units) (g_at g_units) v4 v7 eye (1 : Int)) ∨ (r17 = 0 ∧ ¬ e_hid (g_th g_units) (g_at g_units) v4 v7 eye (1 : Int))) → ((r17 ≠ 0 → Q 0) ∧
(r17 = 0 → (0 ≤ v4 ∧ v4 < 1280) ∧ (0 ≤ v7 ∧ v7 < 1280) ∧ (0 ≤ eye ∧ eye ≤ 8192) ∧ ((0 : Int) = 0 ∨ (0 : Int) = 1) ∧ (g_ok g_units) ∧ (g_th g_units v4 = true) ∧ (g_th g_units v7 = true) ∧ (∀ (r25 : Int), z_in r25 → ((r25 = 1 ∧ e_hid (g_th g_units) (g_at g_units) v4 v7 eye (0 : Int)) ∨ (r25 = 0 ∧ ¬ e_hid (g_th g_units) (g_at g_units) v4 v7 eye (0 : Int))) → ((r25 = 0 → Q 1) ∧
(r25 ≠ 0 → Q 0))))))))) ∧
(r3 = 0 → Q (-1)))))))))))) ∧
(¬ (0 ≤ gi ∧ gi < 4) → Q (-1)))
set_option maxHeartbeats 4000000 in
set_option maxRecDepth 100000 in
theorem wk_X7_seen (l : Launch) (D : va_G) (cA : Nat → ClassId) (x : Nat) (xa_grids : Nat) (x_grids : Nat → Option Nat) (x_levelMm : Nat) (x_levelCount : Int) (x_water : Nat) (x_scratch : Nat) (x_lines : Nat) (gi : Int) (i : Int) (j : Int) (i2 : Int) (j2 : Int) (eye : Int) (g : Nat) (ga_units : Nat) (g_units : Nat → Int32) (ga_lengths : Nat) (g_lengths : Nat → Int32) (ga_offsets : Nat) (g_offsets : Nat → Int32) (g_step : Int) (h_x_levelCount : z_in x_levelCount) (h_gi : z_in gi) (h_i : z_in i) (h_j : z_in j) (h_i2 : z_in i2) (h_j2 : z_in j2) (h_eye : z_in eye) (h_g_step : z_in g_step) (hg_gi : 0 ≤ gi ∧ gi < 4 → x_grids gi.toNat = some g) (Q : Int → Prop) (hv : vc_X7_seen gi i j i2 j2 eye g_units Q) : Met l yX7_seen wsX7_seen ({ frames := 4, cells := 0, slots := 0, locals := 108 } : Room) (va_Pc [.ref x, .int (z_i gi), .int (z_i i), .int (z_i j), .int (z_i i2), .int (z_i j2), .int (z_i eye)] (z_B0 D cA [(x, .inr (5, [.ref xa_grids, .ref x_levelMm, .int (z_i x_levelCount), .ref x_water, .ref x_scratch, .ref x_lines])), (xa_grids, .inl (cA 4, 4, .inr (.inr (.inr (.inr x_grids))))), (g, .inr (1, [.ref ga_units, .ref ga_lengths, .ref ga_offsets, .int (z_i g_step)])), (ga_units, .inl (cA 1, 1280, .inl g_units)), (ga_lengths, .inl (cA 1, 32, .inl g_lengths)), (ga_offsets, .inl (cA 1, 32, .inl g_offsets))])) (va_Qi (z_ri Q) (fun _ _ => True) (fun _ => False)) 0 0 (fun _ => False) := by
  unfold vc_X7_seen at hv
  refine Met.ofW (cc := cX7_seen) (maxL := 11) (ret := (some .int)) (by decide +kernel) rfl ?_
  intro p e s m args below meth c s₁ B hml hv0
  obtain ⟨rfl, hK, hP⟩ := hv0
  have hx := B.exec
  have hb := B.bytes
  have hr := B.returns
  have hts := atoms_spec (ws := wsX7_seen) B.pre
  have hown : s.vm.findClass RX7 = some m.cls := findClass_of_methodNamed B.named
  have hlocks := B.notSynchronized
  have hS : va_S (fun _ : Nat => False) s.heap s.heap [] := va_S.rf
  have hl := lv_entry ([.ref x, .int (z_i gi), .int (z_i i), .int (z_i j), .int (z_i i2), .int (z_i j2), .int (z_i eye)]) (n := 11) (Nat.le_of_ble_eq_true rfl)
  rw [lg_entry_eq]
  generalize (lg_sl ([.ref x, .int (z_i gi), .int (z_i i), .int (z_i j), .int (z_i i2), .int (z_i j2), .int (z_i eye)]) ++ List.replicate (11 - (lg_sl ([.ref x, .int (z_i gi), .int (z_i i), .int (z_i j), .int (z_i i2), .int (z_i j2), .int (z_i eye)])).length) Slot.unset).toArray = ls at hl ⊢
  have hl : lv_has ls 11 [(0, .ref x), (1, .int (z_i gi)), (2, .int (z_i i)), (3, .int (z_i j)), (4, .int (z_i i2)), (5, .int (z_i j2)), (6, .int (z_i eye))] := hl
  refine lv_aload_n hx hb dX7_seen_0 rfl (lv_at hl 0 rfl) ?_
  refine lv_iload_n hx hb dX7_seen_1 rfl (lv_at hl 1 rfl) ?_
  refine va_callq (va_runV (As := [.int (z_i gi)]) (rest := []) ⟨hx, hb, hml, hown, hts⟩ (mt_X7_gridOf l D cA x xa_grids x_grids x_levelMm x_levelCount x_water x_scratch x_lines gi h_x_levelCount h_gi) (cwV 1 hts gX7_seen_X7_gridOf rfl rfl rfl (by decide +kernel) ⟨Nat.le_of_ble_eq_true rfl, Nat.le_of_ble_eq_true rfl⟩) ⟨z_bl0, va_recv hK hP (ci := 5) (q0 := 0) rfl rfl, fun U hU hW => ⟨rfl, z_b0 hK (hP.sub (ws' := [(x, .inr (5, [.ref xa_grids, .ref x_levelMm, .int (z_i x_levelCount), .ref x_water, .ref x_scratch, .ref x_lines])), (xa_grids, .inl (cA 4, 4, .inr (.inr (.inr (.inr x_grids)))))]) [0, 1] rfl) hU hW⟩⟩ rfl rfl hl.1 rfl (lv_room (Nat.le_of_ble_eq_true rfl)) dX7_seen_2 ⟨Nat.zero_le _, Nat.zero_le _⟩) hS (fun q _ h => h.elim) (fun q h => h.elim) (fun r0 u t H locs ht hvm hw hB hz1 hk1 hS => ?_)
  have hq1 := hw
  have hP := z_P_all hP hk1
  by_cases hc : 0 ≤ gi ∧ gi < 4
  · have hv := hv.1 hc
    rw [hq1, if_pos hc, hg_gi hc, z_rf_s]
    refine lv_astore (lv' := [(7, .ref g), (0, .ref x), (1, .int (z_i gi)), (2, .int (z_i i)), (3, .int (z_i j)), (4, .int (z_i i2)), (5, .int (z_i j2)), (6, .int (z_i eye))]) hx hb dX7_seen_5 hl (by decide) rfl (fun ls hl => ?_)
    refine lv_aload hx hb dX7_seen_7 (lv_at hl 0 rfl) ?_
    refine lv_ifnull hx hb dX7_seen_9 ?_
    refine lv_iload hx hb dX7_seen_12 (lv_at hl 7 rfl) ?_
    refine lx_if_lt (tgt := 47) hx hb dX7_seen_14 (by decide) h_eye (fun hc => ?_) (fun hc => ?_)
    · have hv := hv.1 hc
      refine lv_iconst (v := z_i (-1)) hx hb dX7_seen_47 rfl ?_
      exact W.iret (v := z_i (-1)) hx hb hr (fun t ht hW => ⟨⟨z_i (-1), (), rfl, ⟨-1, rfl, (show z_in (-1) from ⟨by decide, by decide⟩), hv⟩, trivial⟩, hS.F ht⟩) hS.2.2 dX7_seen_48
    · have hv := hv.2 hc
      refine lv_iload hx hb dX7_seen_17 (lv_at hl 7 rfl) ?_
      refine lv_sipush (v := z_i 8192) hx hb dX7_seen_19 (by decide) ?_
      refine lx_icmp_gt (tgt := 47) hx hb dX7_seen_22 (by decide) h_eye (show z_in 8192 from ⟨by decide, by decide⟩) (fun hc => ?_) (fun hc => ?_)
      · have hv := hv.1 hc
        refine lv_iconst (v := z_i (-1)) hx hb dX7_seen_47 rfl ?_
        exact W.iret (v := z_i (-1)) hx hb hr (fun t ht hW => ⟨⟨z_i (-1), (), rfl, ⟨-1, rfl, (show z_in (-1) from ⟨by decide, by decide⟩), hv⟩, trivial⟩, hS.F ht⟩) hS.2.2 dX7_seen_48
      · have hv := hv.2 hc
        refine lv_aload hx hb dX7_seen_25 (lv_at hl 0 rfl) ?_
        refine lv_iload_n hx hb dX7_seen_27 rfl (lv_at hl 3 rfl) ?_
        refine lv_iload_n hx hb dX7_seen_28 rfl (lv_at hl 4 rfl) ?_
        refine va_calli (va_runV (As := [.int (z_i i), .int (z_i j)]) (rest := []) ⟨hx, hb, hml, hown, hts⟩ (mt_X2_has l D cA g ga_units g_units ga_lengths g_lengths ga_offsets g_offsets g_step i j h_g_step h_i h_j) (cwV 2 hts gX7_seen_X2_has rfl rfl rfl (by decide +kernel) ⟨Nat.le_of_ble_eq_true rfl, Nat.le_of_ble_eq_true rfl⟩) ⟨z_bl0, va_recv hK hP (ci := 1) (q0 := 2) rfl rfl, fun U hU hW => ⟨rfl, z_b0 hK (hP.sub (ws' := [(g, .inr (1, [.ref ga_units, .ref ga_lengths, .ref ga_offsets, .int (z_i g_step)])), (ga_units, .inl (cA 1, 1280, .inl g_units)), (ga_lengths, .inl (cA 1, 32, .inl g_lengths)), (ga_offsets, .inl (cA 1, 32, .inl g_offsets))]) [2, 3, 4, 5] rfl) hU hW⟩⟩ rfl rfl hl.1 rfl (lv_room (Nat.le_of_ble_eq_true rfl)) dX7_seen_29 ⟨Nat.zero_le _, Nat.zero_le _⟩) hS (fun q _ h => h.elim) (fun q h => h.elim) (fun r0 u t H locs ht hvm hw hB hz1 hk1 hS => ?_)
        obtain ⟨r2, rfl, h_r2, hw⟩ := hw
        have hP := z_P_all hP hk1
        have hv := hv r2 h_r2 hw
        refine lx_if_eq (tgt := 47) hx hb dX7_seen_32 (by decide) h_r2 (fun hc => ?_) (fun hc => ?_)
        · have hv := hv.1 hc
          refine lv_iconst (v := z_i (-1)) hx hb dX7_seen_47 rfl ?_
          exact W.iret (v := z_i (-1)) hx hb hr (fun t ht hW => ⟨⟨z_i (-1), (), rfl, ⟨-1, rfl, (show z_in (-1) from ⟨by decide, by decide⟩), hv⟩, trivial⟩, hS.F ht⟩) hS.2.2 dX7_seen_48
        · have hv := hv.2 hc
          refine lv_aload hx hb dX7_seen_35 (lv_at hl 0 rfl) ?_
          refine lv_iload hx hb dX7_seen_37 (lv_at hl 5 rfl) ?_
          refine lv_iload hx hb dX7_seen_39 (lv_at hl 6 rfl) ?_
          refine va_calli (va_runV (As := [.int (z_i i2), .int (z_i j2)]) (rest := []) ⟨hx, hb, hml, hown, hts⟩ (mt_X2_has l D cA g ga_units g_units ga_lengths g_lengths ga_offsets g_offsets g_step i2 j2 h_g_step h_i2 h_j2) (cwV 2 hts gX7_seen_X2_has rfl rfl rfl (by decide +kernel) ⟨Nat.le_of_ble_eq_true rfl, Nat.le_of_ble_eq_true rfl⟩) ⟨z_bl0, va_recv hK hP (ci := 1) (q0 := 2) rfl rfl, fun U hU hW => ⟨rfl, z_b0 hK (hP.sub (ws' := [(g, .inr (1, [.ref ga_units, .ref ga_lengths, .ref ga_offsets, .int (z_i g_step)])), (ga_units, .inl (cA 1, 1280, .inl g_units)), (ga_lengths, .inl (cA 1, 32, .inl g_lengths)), (ga_offsets, .inl (cA 1, 32, .inl g_offsets))]) [2, 3, 4, 5] rfl) hU hW⟩⟩ rfl rfl hl.1 rfl (lv_room (Nat.le_of_ble_eq_true rfl)) dX7_seen_41 ⟨Nat.zero_le _, Nat.zero_le _⟩) hS (fun q _ h => h.elim) (fun q h => h.elim) (fun r0 u t H locs ht hvm hw hB hz1 hk1 hS => ?_)
          obtain ⟨r3, rfl, h_r3, hw⟩ := hw
          have hP := z_P_all hP hk1
          have hv := hv r3 h_r3 hw
          refine lx_if_ne (tgt := 49) hx hb dX7_seen_44 (by decide) h_r3 (fun hc => ?_) (fun hc => ?_)
          · have hv := hv.1 hc
            refine lv_bipush (v := z_i 40) hx hb dX7_seen_49 (by decide) ?_
            refine lv_iload_n hx hb dX7_seen_51 rfl (lv_at hl 3 rfl) ?_
            refine lx_imul hx hb dX7_seen_52 ?_
            refine lv_iload_n hx hb dX7_seen_53 rfl (lv_at hl 4 rfl) ?_
            refine lx_iadd hx hb dX7_seen_54 ?_
            obtain ⟨hr5, hv⟩ := hv
            refine lx_topi (fun v4 hy6 => ?_)
            have hv := hv v4 hy6
            have h_v4 : z_in v4 := by rw [hy6]; exact hr5
            refine lv_istore (lv' := [(8, .int (z_i v4)), (7, .ref g), (0, .ref x), (1, .int (z_i gi)), (2, .int (z_i i)), (3, .int (z_i j)), (4, .int (z_i i2)), (5, .int (z_i j2)), (6, .int (z_i eye))]) hx hb dX7_seen_55 hl (by decide) rfl (fun ls hl => ?_)
            refine lv_bipush (v := z_i 40) hx hb dX7_seen_57 (by decide) ?_
            refine lv_iload hx hb dX7_seen_59 (lv_at hl 6 rfl) ?_
            refine lx_imul hx hb dX7_seen_61 ?_
            refine lv_iload hx hb dX7_seen_62 (lv_at hl 7 rfl) ?_
            refine lx_iadd hx hb dX7_seen_64 ?_
            obtain ⟨hr8, hv⟩ := hv
            refine lx_topi (fun v7 hy9 => ?_)
            have hv := hv v7 hy9
            have h_v7 : z_in v7 := by rw [hy9]; exact hr8
            refine lv_istore (lv' := [(9, .int (z_i v7)), (8, .int (z_i v4)), (7, .ref g), (0, .ref x), (1, .int (z_i gi)), (2, .int (z_i i)), (3, .int (z_i j)), (4, .int (z_i i2)), (5, .int (z_i j2)), (6, .int (z_i eye))]) hx hb dX7_seen_65 hl (by decide) rfl (fun ls hl => ?_)
            refine lv_aload hx hb dX7_seen_67 (lv_at hl 2 rfl) ?_
            refine lv_iload hx hb dX7_seen_69 (lv_at hl 1 rfl) ?_
            refine lv_iload hx hb dX7_seen_71 (lv_at hl 0 rfl) ?_
            refine lv_iload hx hb dX7_seen_73 (lv_at hl 9 rfl) ?_
            refine lv_iconst (v := z_i 1) hx hb dX7_seen_75 rfl ?_
            obtain ⟨hp10, hv⟩ := hv
            obtain ⟨hp11, hv⟩ := hv
            obtain ⟨hp12, hv⟩ := hv
            obtain ⟨hp13, hv⟩ := hv
            obtain ⟨hp14, hv⟩ := hv
            obtain ⟨hp15, hv⟩ := hv
            obtain ⟨hp16, hv⟩ := hv
            refine va_calli (va_runS (As := [.ref g, .int (z_i v4), .int (z_i v7), .int (z_i eye), .int (z_i 1)]) (rest := []) ⟨hx, hb, hml, hown, hts⟩ (mt_X5_isHidden l D cA g ga_units g_units ga_lengths g_lengths ga_offsets g_offsets g_step v4 v7 eye 1 h_g_step h_v4 h_v7 h_eye (show z_in 1 from ⟨by decide, by decide⟩) hp10 hp11 hp12 hp13 hp14 hp15 hp16) (va_cwS 5 hts gX7_seen_X5_isHidden rfl rfl rfl (by decide +kernel) ⟨Nat.le_of_ble_eq_true rfl, Nat.le_of_ble_eq_true rfl⟩) ⟨z_bl0, fun U hU hW => ⟨rfl, z_b0 hK (hP.sub (ws' := [(g, .inr (1, [.ref ga_units, .ref ga_lengths, .ref ga_offsets, .int (z_i g_step)])), (ga_units, .inl (cA 1, 1280, .inl g_units)), (ga_lengths, .inl (cA 1, 32, .inl g_lengths)), (ga_offsets, .inl (cA 1, 32, .inl g_offsets))]) [2, 3, 4, 5] rfl) hU hW⟩⟩ rfl rfl hl.1 rfl (lv_room (Nat.le_of_ble_eq_true rfl)) dX7_seen_76 ⟨Nat.zero_le _, Nat.zero_le _⟩) hS (fun q _ h => h.elim) (fun q h => h.elim) (fun r0 u t H locs ht hvm hw hB hz1 hk1 hS => ?_)
            obtain ⟨r17, rfl, h_r17, hw⟩ := hw
            have hP := z_P_all hP hk1
            have hv := hv r17 h_r17 hw
            refine lx_if_ne (tgt := 97) hx hb dX7_seen_79 (by decide) h_r17 (fun hc => ?_) (fun hc => ?_)
            · have hv := hv.1 hc
              refine lv_iconst (v := z_i 1) hx hb dX7_seen_97 rfl ?_
              refine lv_goto (tgt := 102) hx hb dX7_seen_98 (by decide) ?_
              refine lv_istore (lv' := [(10, .int (z_i 1)), (9, .int (z_i v7)), (8, .int (z_i v4)), (7, .ref g), (0, .ref x), (1, .int (z_i gi)), (2, .int (z_i i)), (3, .int (z_i j)), (4, .int (z_i i2)), (5, .int (z_i j2)), (6, .int (z_i eye))]) hx hb dX7_seen_102 hl (by decide) rfl (fun ls hl => ?_)
              refine lv_iload hx hb dX7_seen_104 (lv_at hl 0 rfl) ?_
              refine lx_if_eq (tgt := 113) hx hb dX7_seen_106 (by decide) ⟨by decide, by decide⟩ (fun hc => absurd hc (by decide)) (fun _ => ?_)
              refine lv_iconst (v := z_i 0) hx hb dX7_seen_109 rfl ?_
              refine lv_goto (tgt := 114) hx hb dX7_seen_110 (by decide) ?_
              exact W.iret (v := z_i 0) hx hb hr (fun t ht hW => ⟨⟨z_i 0, (), rfl, ⟨0, rfl, (show z_in 0 from ⟨by decide, by decide⟩), hv⟩, trivial⟩, hS.F ht⟩) hS.2.2 dX7_seen_114
            · have hv := hv.2 hc
              refine lv_aload hx hb dX7_seen_82 (lv_at hl 2 rfl) ?_
              refine lv_iload hx hb dX7_seen_84 (lv_at hl 1 rfl) ?_
              refine lv_iload hx hb dX7_seen_86 (lv_at hl 0 rfl) ?_
              refine lv_iload hx hb dX7_seen_88 (lv_at hl 9 rfl) ?_
              refine lv_iconst (v := z_i 0) hx hb dX7_seen_90 rfl ?_
              obtain ⟨hp18, hv⟩ := hv
              obtain ⟨hp19, hv⟩ := hv
              obtain ⟨hp20, hv⟩ := hv
              obtain ⟨hp21, hv⟩ := hv
              obtain ⟨hp22, hv⟩ := hv
              obtain ⟨hp23, hv⟩ := hv
              obtain ⟨hp24, hv⟩ := hv
              refine va_calli (va_runS (As := [.ref g, .int (z_i v4), .int (z_i v7), .int (z_i eye), .int (z_i 0)]) (rest := []) ⟨hx, hb, hml, hown, hts⟩ (mt_X5_isHidden l D cA g ga_units g_units ga_lengths g_lengths ga_offsets g_offsets g_step v4 v7 eye 0 h_g_step h_v4 h_v7 h_eye (show z_in 0 from ⟨by decide, by decide⟩) hp18 hp19 hp20 hp21 hp22 hp23 hp24) (va_cwS 5 hts gX7_seen_X5_isHidden rfl rfl rfl (by decide +kernel) ⟨Nat.le_of_ble_eq_true rfl, Nat.le_of_ble_eq_true rfl⟩) ⟨z_bl0, fun U hU hW => ⟨rfl, z_b0 hK (hP.sub (ws' := [(g, .inr (1, [.ref ga_units, .ref ga_lengths, .ref ga_offsets, .int (z_i g_step)])), (ga_units, .inl (cA 1, 1280, .inl g_units)), (ga_lengths, .inl (cA 1, 32, .inl g_lengths)), (ga_offsets, .inl (cA 1, 32, .inl g_offsets))]) [2, 3, 4, 5] rfl) hU hW⟩⟩ rfl rfl hl.1 rfl (lv_room (Nat.le_of_ble_eq_true rfl)) dX7_seen_91 ⟨Nat.zero_le _, Nat.zero_le _⟩) hS (fun q _ h => h.elim) (fun q h => h.elim) (fun r0 u t H locs ht hvm hw hB hz1 hk1 hS => ?_)
              obtain ⟨r25, rfl, h_r25, hw⟩ := hw
              have hP := z_P_all hP hk1
              have hv := hv r25 h_r25 hw
              refine lx_if_eq (tgt := 101) hx hb dX7_seen_94 (by decide) h_r25 (fun hc => ?_) (fun hc => ?_)
              · have hv := hv.1 hc
                refine lv_iconst (v := z_i 0) hx hb dX7_seen_101 rfl ?_
                refine lv_istore (lv' := [(10, .int (z_i 0)), (9, .int (z_i v7)), (8, .int (z_i v4)), (7, .ref g), (0, .ref x), (1, .int (z_i gi)), (2, .int (z_i i)), (3, .int (z_i j)), (4, .int (z_i i2)), (5, .int (z_i j2)), (6, .int (z_i eye))]) hx hb dX7_seen_102 hl (by decide) rfl (fun ls hl => ?_)
                refine lv_iload hx hb dX7_seen_104 (lv_at hl 0 rfl) ?_
                refine lx_if_eq (tgt := 113) hx hb dX7_seen_106 (by decide) ⟨by decide, by decide⟩ (fun _ => ?_) (fun hc => absurd hc (by decide))
                refine lv_iconst (v := z_i 1) hx hb dX7_seen_113 rfl ?_
                exact W.iret (v := z_i 1) hx hb hr (fun t ht hW => ⟨⟨z_i 1, (), rfl, ⟨1, rfl, (show z_in 1 from ⟨by decide, by decide⟩), hv⟩, trivial⟩, hS.F ht⟩) hS.2.2 dX7_seen_114
              · have hv := hv.2 hc
                refine lv_iconst (v := z_i 1) hx hb dX7_seen_97 rfl ?_
                refine lv_goto (tgt := 102) hx hb dX7_seen_98 (by decide) ?_
                refine lv_istore (lv' := [(10, .int (z_i 1)), (9, .int (z_i v7)), (8, .int (z_i v4)), (7, .ref g), (0, .ref x), (1, .int (z_i gi)), (2, .int (z_i i)), (3, .int (z_i j)), (4, .int (z_i i2)), (5, .int (z_i j2)), (6, .int (z_i eye))]) hx hb dX7_seen_102 hl (by decide) rfl (fun ls hl => ?_)
                refine lv_iload hx hb dX7_seen_104 (lv_at hl 0 rfl) ?_
                refine lx_if_eq (tgt := 113) hx hb dX7_seen_106 (by decide) ⟨by decide, by decide⟩ (fun hc => absurd hc (by decide)) (fun _ => ?_)
                refine lv_iconst (v := z_i 0) hx hb dX7_seen_109 rfl ?_
                refine lv_goto (tgt := 114) hx hb dX7_seen_110 (by decide) ?_
                exact W.iret (v := z_i 0) hx hb hr (fun t ht hW => ⟨⟨z_i 0, (), rfl, ⟨0, rfl, (show z_in 0 from ⟨by decide, by decide⟩), hv⟩, trivial⟩, hS.F ht⟩) hS.2.2 dX7_seen_114
          · have hv := hv.2 hc
            refine lv_iconst (v := z_i (-1)) hx hb dX7_seen_47 rfl ?_
            exact W.iret (v := z_i (-1)) hx hb hr (fun t ht hW => ⟨⟨z_i (-1), (), rfl, ⟨-1, rfl, (show z_in (-1) from ⟨by decide, by decide⟩), hv⟩, trivial⟩, hS.F ht⟩) hS.2.2 dX7_seen_48
  · have hv := hv.2 hc
    rw [hq1, if_neg hc, z_rf_n]
    refine lv_astoreN (lv' := [(7, .null), (0, .ref x), (1, .int (z_i gi)), (2, .int (z_i i)), (3, .int (z_i j)), (4, .int (z_i i2)), (5, .int (z_i j2)), (6, .int (z_i eye))]) hx hb dX7_seen_5 hl (by decide) rfl (fun ls hl => ?_)
    refine lv_aloadN hx hb dX7_seen_7 (lv_at hl 0 rfl) ?_
    refine lv_ifnullN (tgt := 47) hx hb dX7_seen_9 (by decide) ?_
    refine lv_iconst (v := z_i (-1)) hx hb dX7_seen_47 rfl ?_
    exact W.iret (v := z_i (-1)) hx hb hr (fun t ht hW => ⟨⟨z_i (-1), (), rfl, ⟨-1, rfl, (show z_in (-1) from ⟨by decide, by decide⟩), hv⟩, trivial⟩, hS.F ht⟩) hS.2.2 dX7_seen_48
set_option maxHeartbeats 4000000 in
set_option maxRecDepth 100000 in
theorem mt_X7_seen (l : Launch) (D : va_G) (cA : Nat → ClassId) (x : Nat) (xa_grids : Nat) (x_grids : Nat → Option Nat) (x_levelMm : Nat) (x_levelCount : Int) (x_water : Nat) (x_scratch : Nat) (x_lines : Nat) (gi : Int) (i : Int) (j : Int) (i2 : Int) (j2 : Int) (eye : Int) (g : Nat) (ga_units : Nat) (g_units : Nat → Int32) (ga_lengths : Nat) (g_lengths : Nat → Int32) (ga_offsets : Nat) (g_offsets : Nat → Int32) (g_step : Int) (h_x_levelCount : z_in x_levelCount) (h_gi : z_in gi) (h_i : z_in i) (h_j : z_in j) (h_i2 : z_in i2) (h_j2 : z_in j2) (h_eye : z_in eye) (h_g_step : z_in g_step) (hg_gi : 0 ≤ gi ∧ gi < 4 → x_grids gi.toNat = some g) (hp1 : g_ok g_units) : Met l yX7_seen wsX7_seen ({ frames := 4, cells := 0, slots := 0, locals := 108 } : Room) (va_Pc [.ref x, .int (z_i gi), .int (z_i i), .int (z_i j), .int (z_i i2), .int (z_i j2), .int (z_i eye)] (z_B0 D cA [(x, .inr (5, [.ref xa_grids, .ref x_levelMm, .int (z_i x_levelCount), .ref x_water, .ref x_scratch, .ref x_lines])), (xa_grids, .inl (cA 4, 4, .inr (.inr (.inr (.inr x_grids))))), (g, .inr (1, [.ref ga_units, .ref ga_lengths, .ref ga_offsets, .int (z_i g_step)])), (ga_units, .inl (cA 1, 1280, .inl g_units)), (ga_lengths, .inl (cA 1, 32, .inl g_lengths)), (ga_offsets, .inl (cA 1, 32, .inl g_offsets))])) (va_Qi (z_ri (fun (r : Int) => if (0 ≤ gi ∧ gi < 4) ∧ 0 ≤ eye ∧ eye ≤ 8192 ∧ m_no (g_th g_units) i j ≠ -1 ∧ m_no (g_th g_units) i2 j2 ≠ -1 then (r = 0 ∧ (e_hid (g_th g_units) (g_at g_units) (40 * i + j) (40 * i2 + j2) eye 1 ∨ e_hid (g_th g_units) (g_at g_units) (40 * i + j) (40 * i2 + j2) eye 0)) ∨ (r = 1 ∧ ¬ e_hid (g_th g_units) (g_at g_units) (40 * i + j) (40 * i2 + j2) eye 1 ∧ ¬ e_hid (g_th g_units) (g_at g_units) (40 * i + j) (40 * i2 + j2) eye 0) else r = -1)) (fun _ _ => True) (fun _ => False)) 0 0 (fun _ => False) := by
  refine wk_X7_seen l D cA x xa_grids x_grids x_levelMm x_levelCount x_water x_scratch x_lines gi i j i2 j2 eye g ga_units g_units ga_lengths g_lengths ga_offsets g_offsets g_step h_x_levelCount h_gi h_i h_j h_i2 h_j2 h_eye h_g_step hg_gi (fun (r : Int) => if (0 ≤ gi ∧ gi < 4) ∧ 0 ≤ eye ∧ eye ≤ 8192 ∧ m_no (g_th g_units) i j ≠ -1 ∧ m_no (g_th g_units) i2 j2 ≠ -1 then (r = 0 ∧ (e_hid (g_th g_units) (g_at g_units) (40 * i + j) (40 * i2 + j2) eye 1 ∨ e_hid (g_th g_units) (g_at g_units) (40 * i + j) (40 * i2 + j2) eye 0)) ∨ (r = 1 ∧ ¬ e_hid (g_th g_units) (g_at g_units) (40 * i + j) (40 * i2 + j2) eye 1 ∧ ¬ e_hid (g_th g_units) (g_at g_units) (40 * i + j) (40 * i2 + j2) eye 0) else r = -1) ?_
  unfold vc_X7_seen
  have yes : ((0 ≤ gi ∧ gi < 4) ∧ 0 ≤ eye ∧ eye ≤ 8192 ∧ m_no (g_th g_units) i j ≠ -1 ∧ m_no (g_th g_units) i2 j2 ≠ -1) → ∀ r : Int, ((r = 0 ∧ (e_hid (g_th g_units) (g_at g_units) (40 * i + j) (40 * i2 + j2) eye 1 ∨ e_hid (g_th g_units) (g_at g_units) (40 * i + j) (40 * i2 + j2) eye 0)) ∨ (r = 1 ∧ ¬ e_hid (g_th g_units) (g_at g_units) (40 * i + j) (40 * i2 + j2) eye 1 ∧ ¬ e_hid (g_th g_units) (g_at g_units) (40 * i + j) (40 * i2 + j2) eye 0)) → (if (0 ≤ gi ∧ gi < 4) ∧ 0 ≤ eye ∧ eye ≤ 8192 ∧ m_no (g_th g_units) i j ≠ -1 ∧ m_no (g_th g_units) i2 j2 ≠ -1 then (r = 0 ∧ (e_hid (g_th g_units) (g_at g_units) (40 * i + j) (40 * i2 + j2) eye 1 ∨ e_hid (g_th g_units) (g_at g_units) (40 * i + j) (40 * i2 + j2) eye 0)) ∨ (r = 1 ∧ ¬ e_hid (g_th g_units) (g_at g_units) (40 * i + j) (40 * i2 + j2) eye 1 ∧ ¬ e_hid (g_th g_units) (g_at g_units) (40 * i + j) (40 * i2 + j2) eye 0) else r = -1) := fun hc r h => by rw [if_pos hc]; exact h
  have no : ¬ ((0 ≤ gi ∧ gi < 4) ∧ 0 ≤ eye ∧ eye ≤ 8192 ∧ m_no (g_th g_units) i j ≠ -1 ∧ m_no (g_th g_units) i2 j2 ≠ -1) → (if (0 ≤ gi ∧ gi < 4) ∧ 0 ≤ eye ∧ eye ≤ 8192 ∧ m_no (g_th g_units) i j ≠ -1 ∧ m_no (g_th g_units) i2 j2 ≠ -1 then ((-1 : Int) = 0 ∧ (e_hid (g_th g_units) (g_at g_units) (40 * i + j) (40 * i2 + j2) eye 1 ∨ e_hid (g_th g_units) (g_at g_units) (40 * i + j) (40 * i2 + j2) eye 0)) ∨ ((-1 : Int) = 1 ∧ ¬ e_hid (g_th g_units) (g_at g_units) (40 * i + j) (40 * i2 + j2) eye 1 ∧ ¬ e_hid (g_th g_units) (g_at g_units) (40 * i + j) (40 * i2 + j2) eye 0) else (-1 : Int) = -1) := fun hc => by rw [if_neg hc]
  refine ⟨fun q => ⟨fun q1 => ?_, fun q1 => ⟨fun q2 => ?_, fun q2 => ?_⟩⟩, fun q => ?_⟩
  · exact no (by omega)
  · exact no (by omega)
  · rintro r2 _ rfl
    refine ⟨fun q3 => ?_, fun q3 => ?_⟩
    · exact no (fun h => of_decide_eq_false (zb_f q3) h.2.2.2.1)
    · have h3 := of_decide_eq_true (zb_t q3)
      rintro r3 _ rfl
      refine ⟨fun q4 => ?_, fun q4 => ?_⟩
      · have h4 := of_decide_eq_true (zb_t q4)
        have a3 := m_no_some h3
        have a4 := m_no_some h4
        have yes := yes ⟨q, q1, q2, h3, h4⟩
        refine ⟨⟨by omega, by omega⟩, ?_⟩
        rintro v4 h5
        refine ⟨⟨by omega, by omega⟩, ?_⟩
        rintro v7 h7
        have t4 : g_th g_units v4 = true := by rw [h5]; exact a3.2.2.2.2.2
        have t7 : g_th g_units v7 = true := by rw [h7]; exact a4.2.2.2.2.2
        have yes : ∀ r : Int, ((r = 0 ∧ (e_hid (g_th g_units) (g_at g_units) v4 v7 eye 1 ∨ e_hid (g_th g_units) (g_at g_units) v4 v7 eye 0)) ∨ (r = 1 ∧ ¬ e_hid (g_th g_units) (g_at g_units) v4 v7 eye 1 ∧ ¬ e_hid (g_th g_units) (g_at g_units) v4 v7 eye 0)) → (if (0 ≤ gi ∧ gi < 4) ∧ 0 ≤ eye ∧ eye ≤ 8192 ∧ m_no (g_th g_units) i j ≠ -1 ∧ m_no (g_th g_units) i2 j2 ≠ -1 then (r = 0 ∧ (e_hid (g_th g_units) (g_at g_units) (40 * i + j) (40 * i2 + j2) eye 1 ∨ e_hid (g_th g_units) (g_at g_units) (40 * i + j) (40 * i2 + j2) eye 0)) ∨ (r = 1 ∧ ¬ e_hid (g_th g_units) (g_at g_units) (40 * i + j) (40 * i2 + j2) eye 1 ∧ ¬ e_hid (g_th g_units) (g_at g_units) (40 * i + j) (40 * i2 + j2) eye 0) else r = -1) := fun r h => by rw [h5, h7] at h; exact yes r h
        refine ⟨⟨by omega, by omega⟩, ⟨by omega, by omega⟩, ⟨q1, q2⟩, Or.inr rfl, hp1, t4, t7, ?_⟩
        intro r17 _ h17
        refine ⟨fun q5 => ?_, fun q5 => ⟨⟨by omega, by omega⟩, ⟨by omega, by omega⟩, ⟨q1, q2⟩, Or.inl rfl, hp1, t4, t7, ?_⟩⟩
        · rcases h17 with h17 | h17
          · exact yes _ (Or.inl ⟨rfl, Or.inl h17.2⟩)
          · exact absurd h17.1 q5
        · intro r25 _ h25
          have n17 : ¬ e_hid (g_th g_units) (g_at g_units) v4 v7 eye 1 := by
            rcases h17 with h17 | h17
            · exact absurd (q5.symm.trans h17.1) (by decide)
            · exact h17.2
          refine ⟨fun q6 => ?_, fun q6 => ?_⟩
          · rcases h25 with h25 | h25
            · exact absurd (q6.symm.trans h25.1) (by decide)
            · exact yes _ (Or.inr ⟨rfl, n17, h25.2⟩)
          · rcases h25 with h25 | h25
            · exact yes _ (Or.inl ⟨rfl, Or.inr h25.2⟩)
            · exact absurd h25.1 q6
      · exact no (fun h => of_decide_eq_false (zb_f q4) h.2.2.2.2)
  · exact no (fun h => q h.1)
