/-! the sheets: grids by number -/
theorem z_rf_s {a : Nat} : va_rf (some a) = .ref a := rfl
theorem z_rf_n : va_rf none = .null := rfl
def z_rq (Q : Option Nat → Prop) : Option Nat → Unit → Prop := fun r _ => Q r
def vc_X7_gridOf (x_grids : Nat → Option Nat) (gi : Int) (Q : Option Nat → Prop) : Prop :=
((gi < 0 → Q none) ∧
(gi ≥ 0 → ((gi < 4 → (0 ≤ gi ∧ gi < 4) ∧ Q (x_grids gi.toNat)) ∧
(gi ≥ 4 → Q none))))
set_option maxHeartbeats 4000000 in
set_option maxRecDepth 100000 in
theorem wk_X7_gridOf (l : Launch) (D : va_G) (cA : Nat → ClassId) (x : Nat) (xa_grids : Nat) (x_grids : Nat → Option Nat) (x_levelMm : Nat) (x_levelCount : Int) (x_water : Nat) (x_scratch : Nat) (x_lines : Nat) (gi : Int) (h_x_levelCount : z_in x_levelCount) (h_gi : z_in gi) (Q : Option Nat → Prop) (hv : vc_X7_gridOf x_grids gi Q) : Met l yX7_gridOf wsX7_gridOf ({ frames := 0, cells := 0, slots := 0, locals := 0 } : Room) (va_Pc [.ref x, .int (z_i gi)] (z_B0 D cA [(x, .inr (5, [.ref xa_grids, .ref x_levelMm, .int (z_i x_levelCount), .ref x_water, .ref x_scratch, .ref x_lines])), (xa_grids, .inl (cA 4, 4, .inr (.inr (.inr (.inr x_grids)))))])) (va_Qq (z_rq Q) (fun _ _ => True) (fun _ => False)) 0 0 (fun _ => False) := by
  unfold vc_X7_gridOf at hv
  refine Met.ofW (cc := cX7_gridOf) (maxL := 2) (ret := (some (.object "ContourSheets$Grid"))) (by decide +kernel) rfl ?_
  intro p e s m args below meth c s₁ B hml hv0
  obtain ⟨rfl, hK, hP⟩ := hv0
  have hx := B.exec
  have hb := B.bytes
  have hr := B.returns
  have hts := atoms_spec (ws := wsX7_gridOf) B.pre
  have hown : s.vm.findClass RX7 = some m.cls := findClass_of_methodNamed B.named
  have hlocks := B.notSynchronized
  have hS : va_S (fun _ : Nat => False) s.heap s.heap [] := va_S.rf
  have hl := lv_entry ([.ref x, .int (z_i gi)]) (n := 2) (Nat.le_of_ble_eq_true rfl)
  rw [lg_entry_eq]
  generalize (lg_sl ([.ref x, .int (z_i gi)]) ++ List.replicate (2 - (lg_sl ([.ref x, .int (z_i gi)])).length) Slot.unset).toArray = ls at hl ⊢
  have hl : lv_has ls 2 [(0, .ref x), (1, .int (z_i gi))] := hl
  refine lv_iload_n hx hb dX7_gridOf_0 rfl (lv_at hl 1 rfl) ?_
  refine lx_if_lt (tgt := 9) hx hb dX7_gridOf_1 (by decide) h_gi (fun hc => ?_) (fun hc => ?_)
  · have hv := hv.1 hc
    refine lv_null hx hb dX7_gridOf_9 ?_
    refine lv_goto (tgt := 19) hx hb dX7_gridOf_10 (by decide) ?_
    exact W.aret (v := va_rf none) hx hb hr (Or.inl ⟨_, rfl⟩) (va_rf_or _) (fun t ht hW => ⟨⟨none, (), rfl, hv, trivial⟩, hS.F ht⟩) hS.2.2 dX7_gridOf_19
  · have hv := hv.2 hc
    refine lv_iload_n hx hb dX7_gridOf_4 rfl (lv_at hl 1 rfl) ?_
    refine lv_iconst (v := z_i 4) hx hb dX7_gridOf_5 rfl ?_
    refine lx_icmp_lt (tgt := 13) hx hb dX7_gridOf_6 (by decide) h_gi (show z_in 4 from ⟨by decide, by decide⟩) (fun hc => ?_) (fun hc => ?_)
    · have hv := hv.1 hc
      refine lv_aload_n hx hb dX7_gridOf_13 rfl (lv_at hl 0 rfl) ?_
      refine va_get (D := D) (ci := 5) (v := .ref xa_grids) (C := RX7) (T := TX7) (N := 6) hx hb hts (fun w h => List.mem_cons_of_mem _ (List.mem_append_right _ h)) hown hK hP 0 rfl rfl 0 (by decide) (hts (.fieldLink RX7 13 "ContourSheets" "grids" "[LContourSheets$Grid;") (by decide +kernel)) (fun _ h9 => h9) rfl dX7_gridOf_14 ?_
      refine lv_iload_n hx hb dX7_gridOf_17 rfl (lv_at hl 1 rfl) ?_
      obtain ⟨hi1, hv⟩ := hv
      refine lx_aald hx hb hK hP 1 4 rfl rfl (by decide) hi1.1 hi1.2 dX7_gridOf_18 ?_
      exact W.aret (v := va_rf (x_grids gi.toNat)) hx hb hr (Or.inl ⟨_, rfl⟩) (va_rf_or _) (fun t ht hW => ⟨⟨x_grids gi.toNat, (), rfl, hv, trivial⟩, hS.F ht⟩) hS.2.2 dX7_gridOf_19
    · have hv := hv.2 hc
      refine lv_null hx hb dX7_gridOf_9 ?_
      refine lv_goto (tgt := 19) hx hb dX7_gridOf_10 (by decide) ?_
      exact W.aret (v := va_rf none) hx hb hr (Or.inl ⟨_, rfl⟩) (va_rf_or _) (fun t ht hW => ⟨⟨none, (), rfl, hv, trivial⟩, hS.F ht⟩) hS.2.2 dX7_gridOf_19
set_option maxHeartbeats 4000000 in
set_option maxRecDepth 100000 in
theorem mt_X7_gridOf (l : Launch) (D : va_G) (cA : Nat → ClassId) (x : Nat) (xa_grids : Nat) (x_grids : Nat → Option Nat) (x_levelMm : Nat) (x_levelCount : Int) (x_water : Nat) (x_scratch : Nat) (x_lines : Nat) (gi : Int) (h_x_levelCount : z_in x_levelCount) (h_gi : z_in gi)  : Met l yX7_gridOf wsX7_gridOf ({ frames := 0, cells := 0, slots := 0, locals := 0 } : Room) (va_Pc [.ref x, .int (z_i gi)] (z_B0 D cA [(x, .inr (5, [.ref xa_grids, .ref x_levelMm, .int (z_i x_levelCount), .ref x_water, .ref x_scratch, .ref x_lines])), (xa_grids, .inl (cA 4, 4, .inr (.inr (.inr (.inr x_grids)))))])) (va_Qq (z_rq (fun (r : Option Nat) => r = if 0 ≤ gi ∧ gi < 4 then x_grids gi.toNat else none)) (fun _ _ => True) (fun _ => False)) 0 0 (fun _ => False) := by
  refine wk_X7_gridOf l D cA x xa_grids x_grids x_levelMm x_levelCount x_water x_scratch x_lines gi h_x_levelCount h_gi (fun (r : Option Nat) => r = if 0 ≤ gi ∧ gi < 4 then x_grids gi.toNat else none) ?_
  unfold vc_X7_gridOf
  refine ⟨fun q => ?_, fun q => ⟨fun q2 => ⟨⟨q, q2⟩, ?_⟩, fun q2 => ?_⟩⟩
  · rw [if_neg (by omega)]
  · rw [if_pos ⟨q, q2⟩]
  · rw [if_neg (by omega)]
def vc_X7_spacing (gi : Int) (mm : Int) (g_step : Int) (Q : Int → Int → Prop) : Prop :=
((0 ≤ gi ∧ gi < 4 → ((mm < 1 → Q 0 g_step) ∧
(mm ≥ 1 → ((mm ≤ 100000 → Q 1 mm) ∧
(mm > 100000 → Q 0 g_step))))) ∧
(¬ (0 ≤ gi ∧ gi < 4) → Q 0 g_step))
set_option maxHeartbeats 4000000 in
set_option maxRecDepth 100000 in
theorem wk_X7_spacing (l : Launch) (D : va_G) (cA : Nat → ClassId) (x : Nat) (xa_grids : Nat) (x_grids : Nat → Option Nat) (x_levelMm : Nat) (x_levelCount : Int) (x_water : Nat) (x_scratch : Nat) (x_lines : Nat) (gi : Int) (mm : Int) (g : Nat) (ga_units : Nat) (g_units : Nat → Int32) (ga_lengths : Nat) (g_lengths : Nat → Int32) (ga_offsets : Nat) (g_offsets : Nat → Int32) (g_step : Int) (h_x_levelCount : z_in x_levelCount) (h_gi : z_in gi) (h_mm : z_in mm) (h_g_step : z_in g_step) (hg_gi : 0 ≤ gi ∧ gi < 4 → x_grids gi.toNat = some g) (Q : Int → Int → Prop) (hv : vc_X7_spacing gi mm g_step Q) : Met l yX7_spacing wsX7_spacing ({ frames := 1, cells := 0, slots := 0, locals := 21 } : Room) (va_Pc [.ref x, .int (z_i gi), .int (z_i mm)] (z_M0 D cA [(x, .inr (5, [.ref xa_grids, .ref x_levelMm, .int (z_i x_levelCount), .ref x_water, .ref x_scratch, .ref x_lines])), (xa_grids, .inl (cA 4, 4, .inr (.inr (.inr (.inr x_grids))))), (g, .inr (1, [.ref ga_units, .ref ga_lengths, .ref ga_offsets, .int (z_i g_step)])), (ga_units, .inl (cA 1, 1280, .inl g_units)), (ga_lengths, .inl (cA 1, 32, .inl g_lengths)), (ga_offsets, .inl (cA 1, 32, .inl g_offsets))])) (va_Qi (z_mi (fun v (u : Int) => z_in u ∧ Q v u)) (fun (u : Int) t => va_P D vwCl [(x, .inr (5, [.ref xa_grids, .ref x_levelMm, .int (z_i x_levelCount), .ref x_water, .ref x_scratch, .ref x_lines])), (xa_grids, .inl (cA 4, 4, .inr (.inr (.inr (.inr x_grids))))), (g, .inr (1, [.ref ga_units, .ref ga_lengths, .ref ga_offsets, .int (z_i u)])), (ga_units, .inl (cA 1, 1280, .inl g_units)), (ga_lengths, .inl (cA 1, 32, .inl g_lengths)), (ga_offsets, .inl (cA 1, 32, .inl g_offsets))] t.heap) (z_A [(x, .inr (5, [.ref xa_grids, .ref x_levelMm, .int (z_i x_levelCount), .ref x_water, .ref x_scratch, .ref x_lines])), (xa_grids, .inl (cA 4, 4, .inr (.inr (.inr (.inr x_grids))))), (g, .inr (1, [.ref ga_units, .ref ga_lengths, .ref ga_offsets, .int (z_i g_step)])), (ga_units, .inl (cA 1, 1280, .inl g_units)), (ga_lengths, .inl (cA 1, 32, .inl g_lengths)), (ga_offsets, .inl (cA 1, 32, .inl g_offsets))])) 0 0 (z_A [(x, .inr (5, [.ref xa_grids, .ref x_levelMm, .int (z_i x_levelCount), .ref x_water, .ref x_scratch, .ref x_lines])), (xa_grids, .inl (cA 4, 4, .inr (.inr (.inr (.inr x_grids))))), (g, .inr (1, [.ref ga_units, .ref ga_lengths, .ref ga_offsets, .int (z_i g_step)])), (ga_units, .inl (cA 1, 1280, .inl g_units)), (ga_lengths, .inl (cA 1, 32, .inl g_lengths)), (ga_offsets, .inl (cA 1, 32, .inl g_offsets))]) := by
  unfold vc_X7_spacing at hv
  refine Met.ofW (cc := cX7_spacing) (maxL := 4) (ret := (some .boolean)) (by decide +kernel) rfl ?_
  intro p e s m args below meth c s₁ B hml hv0
  obtain ⟨rfl, hK, hP, hD0⟩ := hv0
  have hx := B.exec
  have hb := B.bytes
  have hr := B.returns
  have hts := atoms_spec (ws := wsX7_spacing) B.pre
  have hown : s.vm.findClass RX7 = some m.cls := findClass_of_methodNamed B.named
  have hlocks := B.notSynchronized
  have hD := z_D_self hD0
  generalize hAe : z_A [(x, .inr (5, [.ref xa_grids, .ref x_levelMm, .int (z_i x_levelCount), .ref x_water, .ref x_scratch, .ref x_lines])), (xa_grids, .inl (cA 4, 4, .inr (.inr (.inr (.inr x_grids))))), (g, .inr (1, [.ref ga_units, .ref ga_lengths, .ref ga_offsets, .int (z_i g_step)])), (ga_units, .inl (cA 1, 1280, .inl g_units)), (ga_lengths, .inl (cA 1, 32, .inl g_lengths)), (ga_offsets, .inl (cA 1, 32, .inl g_offsets))] = A at *
  have hS : va_S A s.heap s.heap [] := va_S.rf
  have hl := lv_entry ([.ref x, .int (z_i gi), .int (z_i mm)]) (n := 4) (Nat.le_of_ble_eq_true rfl)
  rw [lg_entry_eq]
  generalize (lg_sl ([.ref x, .int (z_i gi), .int (z_i mm)]) ++ List.replicate (4 - (lg_sl ([.ref x, .int (z_i gi), .int (z_i mm)])).length) Slot.unset).toArray = ls at hl ⊢
  have hl : lv_has ls 4 [(0, .ref x), (1, .int (z_i gi)), (2, .int (z_i mm))] := hl
  refine lv_aload_n hx hb dX7_spacing_0 rfl (lv_at hl 0 rfl) ?_
  refine lv_iload_n hx hb dX7_spacing_1 rfl (lv_at hl 1 rfl) ?_
  refine va_callq (va_runV (As := [.int (z_i gi)]) (rest := []) ⟨hx, hb, hml, hown, hts⟩ (mt_X7_gridOf l D cA x xa_grids x_grids x_levelMm x_levelCount x_water x_scratch x_lines gi h_x_levelCount h_gi) (cwV 1 hts gX7_spacing_X7_gridOf rfl rfl rfl (by decide +kernel) ⟨Nat.le_of_ble_eq_true rfl, Nat.le_of_ble_eq_true rfl⟩) ⟨z_bl0, va_recv hK hP (ci := 5) (q0 := 0) rfl rfl, fun U hU hW => ⟨rfl, z_b0 hK (hP.sub (ws' := [(x, .inr (5, [.ref xa_grids, .ref x_levelMm, .int (z_i x_levelCount), .ref x_water, .ref x_scratch, .ref x_lines])), (xa_grids, .inl (cA 4, 4, .inr (.inr (.inr (.inr x_grids)))))]) [0, 1] rfl) hU hW⟩⟩ rfl rfl hl.1 rfl (lv_room (Nat.le_of_ble_eq_true rfl)) dX7_spacing_2 ⟨Nat.zero_le _, Nat.zero_le _⟩) hS (fun q _ h => h.elim) (fun q h => h.elim) (fun r0 u t H locs ht hvm hw hB hz1 hk1 hS => ?_)
  have hq1 := hw
  have hP := z_P_all hP hk1
  by_cases hc : 0 ≤ gi ∧ gi < 4
  · have hv := hv.1 hc
    rw [hq1, if_pos hc, hg_gi hc, z_rf_s]
    refine lv_astore_n (lv' := [(3, .ref g), (0, .ref x), (1, .int (z_i gi)), (2, .int (z_i mm))]) hx hb dX7_spacing_5 rfl hl (by decide) rfl (fun ls hl => ?_)
    refine lv_aload_n hx hb dX7_spacing_6 rfl (lv_at hl 0 rfl) ?_
    refine lv_ifnull hx hb dX7_spacing_7 ?_
    refine lv_iload_n hx hb dX7_spacing_10 rfl (lv_at hl 3 rfl) ?_
    refine lv_iconst (v := z_i 1) hx hb dX7_spacing_11 rfl ?_
    refine lx_icmp_lt (tgt := 21) hx hb dX7_spacing_12 (by decide) h_mm (show z_in 1 from ⟨by decide, by decide⟩) (fun hc => ?_) (fun hc => ?_)
    · have hv := hv.1 hc
      refine lv_iconst (v := z_i 0) hx hb dX7_spacing_21 rfl ?_
      exact W.zret (v := z_i 0) hx hb hr (by decide) (fun t ht hW => ⟨⟨z_i 0, (g_step), rfl, ⟨0, rfl, (show z_in 0 from ⟨by decide, by decide⟩), h_g_step, hv⟩, z_pt hP ht⟩, hS.F ht⟩) hS.2.2 dX7_spacing_22
    · have hv := hv.2 hc
      refine lv_iload_n hx hb dX7_spacing_15 rfl (lv_at hl 3 rfl) ?_
      refine lx_ldc (a := 100000) hx hb hown (hts (.constant RX7 47 (100000)) (by decide +kernel)) (by decide) dX7_spacing_16 ?_
      refine lx_icmp_le (tgt := 23) hx hb dX7_spacing_18 (by decide) h_mm (show z_in 100000 from ⟨by decide, by decide⟩) (fun hc => ?_) (fun hc => ?_)
      · have hv := hv.1 hc
        refine lv_aload_n hx hb dX7_spacing_23 rfl (lv_at hl 0 rfl) ?_
        refine lv_iload_n hx hb dX7_spacing_24 rfl (lv_at hl 3 rfl) ?_
        refine va_put (D := D) (ci := 1) (v := .int (z_i mm)) (ty := .int) (C := RX2) (T := TX2) (N := 4) hx hb hts (fun w h => List.mem_cons_of_mem _ (List.mem_append_left _ (List.mem_append_right _ h))) tyX2 tyX2_ok nmX2 hown hK hP hD hS 2 rfl rfl 3 (by decide) (hts (.fieldLink RX7 48 "ContourSheets$Grid" "step" "I") (by decide +kernel)) (fun _ h9 => h9) rfl (by decide +kernel) rfl rfl (Nat.le_of_ble_eq_true rfl) dX7_spacing_25 (fun H locs hP hD hS => ?_)
        have hP : va_P D vwCl [(x, .inr (5, [.ref xa_grids, .ref x_levelMm, .int (z_i x_levelCount), .ref x_water, .ref x_scratch, .ref x_lines])), (xa_grids, .inl (cA 4, 4, .inr (.inr (.inr (.inr x_grids))))), (g, .inr (1, [.ref ga_units, .ref ga_lengths, .ref ga_offsets, .int (z_i mm)])), (ga_units, .inl (cA 1, 1280, .inl g_units)), (ga_lengths, .inl (cA 1, 32, .inl g_lengths)), (ga_offsets, .inl (cA 1, 32, .inl g_offsets))] H := hP
        have hD : va_D A [(x, .inr (5, [.ref xa_grids, .ref x_levelMm, .int (z_i x_levelCount), .ref x_water, .ref x_scratch, .ref x_lines])), (xa_grids, .inl (cA 4, 4, .inr (.inr (.inr (.inr x_grids))))), (g, .inr (1, [.ref ga_units, .ref ga_lengths, .ref ga_offsets, .int (z_i mm)])), (ga_units, .inl (cA 1, 1280, .inl g_units)), (ga_lengths, .inl (cA 1, 32, .inl g_lengths)), (ga_offsets, .inl (cA 1, 32, .inl g_offsets))] := hD
        refine lv_iconst (v := z_i 1) hx hb dX7_spacing_28 rfl ?_
        exact W.zret (v := z_i 1) hx hb hr (by decide) (fun t ht hW => ⟨⟨z_i 1, (mm), rfl, ⟨1, rfl, (show z_in 1 from ⟨by decide, by decide⟩), h_mm, hv⟩, z_pt hP ht⟩, hS.F ht⟩) hS.2.2 dX7_spacing_29
      · have hv := hv.2 hc
        refine lv_iconst (v := z_i 0) hx hb dX7_spacing_21 rfl ?_
        exact W.zret (v := z_i 0) hx hb hr (by decide) (fun t ht hW => ⟨⟨z_i 0, (g_step), rfl, ⟨0, rfl, (show z_in 0 from ⟨by decide, by decide⟩), h_g_step, hv⟩, z_pt hP ht⟩, hS.F ht⟩) hS.2.2 dX7_spacing_22
  · have hv := hv.2 hc
    rw [hq1, if_neg hc, z_rf_n]
    refine lv_astore_nN (lv' := [(3, .null), (0, .ref x), (1, .int (z_i gi)), (2, .int (z_i mm))]) hx hb dX7_spacing_5 rfl hl (by decide) rfl (fun ls hl => ?_)
    refine lv_aload_nN hx hb dX7_spacing_6 rfl (lv_at hl 0 rfl) ?_
    refine lv_ifnullN (tgt := 21) hx hb dX7_spacing_7 (by decide) ?_
    refine lv_iconst (v := z_i 0) hx hb dX7_spacing_21 rfl ?_
    exact W.zret (v := z_i 0) hx hb hr (by decide) (fun t ht hW => ⟨⟨z_i 0, (g_step), rfl, ⟨0, rfl, (show z_in 0 from ⟨by decide, by decide⟩), h_g_step, hv⟩, z_pt hP ht⟩, hS.F ht⟩) hS.2.2 dX7_spacing_22
set_option maxHeartbeats 4000000 in
set_option maxRecDepth 100000 in
theorem mt_X7_spacing (l : Launch) (D : va_G) (cA : Nat → ClassId) (x : Nat) (xa_grids : Nat) (x_grids : Nat → Option Nat) (x_levelMm : Nat) (x_levelCount : Int) (x_water : Nat) (x_scratch : Nat) (x_lines : Nat) (gi : Int) (mm : Int) (g : Nat) (ga_units : Nat) (g_units : Nat → Int32) (ga_lengths : Nat) (g_lengths : Nat → Int32) (ga_offsets : Nat) (g_offsets : Nat → Int32) (g_step : Int) (h_x_levelCount : z_in x_levelCount) (h_gi : z_in gi) (h_mm : z_in mm) (h_g_step : z_in g_step) (hg_gi : 0 ≤ gi ∧ gi < 4 → x_grids gi.toNat = some g)  : Met l yX7_spacing wsX7_spacing ({ frames := 1, cells := 0, slots := 0, locals := 21 } : Room) (va_Pc [.ref x, .int (z_i gi), .int (z_i mm)] (z_M0 D cA [(x, .inr (5, [.ref xa_grids, .ref x_levelMm, .int (z_i x_levelCount), .ref x_water, .ref x_scratch, .ref x_lines])), (xa_grids, .inl (cA 4, 4, .inr (.inr (.inr (.inr x_grids))))), (g, .inr (1, [.ref ga_units, .ref ga_lengths, .ref ga_offsets, .int (z_i g_step)])), (ga_units, .inl (cA 1, 1280, .inl g_units)), (ga_lengths, .inl (cA 1, 32, .inl g_lengths)), (ga_offsets, .inl (cA 1, 32, .inl g_offsets))])) (va_Qi (z_mi (fun v (u : Int) => z_in u ∧ (fun (r : Int) (g_step' : Int) => g_step' = (if (0 ≤ gi ∧ gi < 4) ∧ 1 ≤ mm ∧ mm ≤ 100000 then mm else g_step) ∧ r = z_b (decide ((0 ≤ gi ∧ gi < 4) ∧ 1 ≤ mm ∧ mm ≤ 100000))) v u)) (fun (u : Int) t => va_P D vwCl [(x, .inr (5, [.ref xa_grids, .ref x_levelMm, .int (z_i x_levelCount), .ref x_water, .ref x_scratch, .ref x_lines])), (xa_grids, .inl (cA 4, 4, .inr (.inr (.inr (.inr x_grids))))), (g, .inr (1, [.ref ga_units, .ref ga_lengths, .ref ga_offsets, .int (z_i u)])), (ga_units, .inl (cA 1, 1280, .inl g_units)), (ga_lengths, .inl (cA 1, 32, .inl g_lengths)), (ga_offsets, .inl (cA 1, 32, .inl g_offsets))] t.heap) (z_A [(x, .inr (5, [.ref xa_grids, .ref x_levelMm, .int (z_i x_levelCount), .ref x_water, .ref x_scratch, .ref x_lines])), (xa_grids, .inl (cA 4, 4, .inr (.inr (.inr (.inr x_grids))))), (g, .inr (1, [.ref ga_units, .ref ga_lengths, .ref ga_offsets, .int (z_i g_step)])), (ga_units, .inl (cA 1, 1280, .inl g_units)), (ga_lengths, .inl (cA 1, 32, .inl g_lengths)), (ga_offsets, .inl (cA 1, 32, .inl g_offsets))])) 0 0 (z_A [(x, .inr (5, [.ref xa_grids, .ref x_levelMm, .int (z_i x_levelCount), .ref x_water, .ref x_scratch, .ref x_lines])), (xa_grids, .inl (cA 4, 4, .inr (.inr (.inr (.inr x_grids))))), (g, .inr (1, [.ref ga_units, .ref ga_lengths, .ref ga_offsets, .int (z_i g_step)])), (ga_units, .inl (cA 1, 1280, .inl g_units)), (ga_lengths, .inl (cA 1, 32, .inl g_lengths)), (ga_offsets, .inl (cA 1, 32, .inl g_offsets))]) := by
  refine wk_X7_spacing l D cA x xa_grids x_grids x_levelMm x_levelCount x_water x_scratch x_lines gi mm g ga_units g_units ga_lengths g_lengths ga_offsets g_offsets g_step h_x_levelCount h_gi h_mm h_g_step hg_gi (fun (r : Int) (g_step' : Int) => g_step' = (if (0 ≤ gi ∧ gi < 4) ∧ 1 ≤ mm ∧ mm ≤ 100000 then mm else g_step) ∧ r = z_b (decide ((0 ≤ gi ∧ gi < 4) ∧ 1 ≤ mm ∧ mm ≤ 100000))) ?_
  unfold vc_X7_spacing
  refine ⟨fun q => ⟨fun q1 => ?_, fun q1 => ⟨fun q2 => ?_, fun q2 => ?_⟩⟩, fun q => ?_⟩
  · rw [if_neg (by omega), decide_eq_false (by omega)]; exact ⟨rfl, rfl⟩
  · rw [if_pos ⟨q, q1, q2⟩, decide_eq_true ⟨q, q1, q2⟩]; exact ⟨rfl, rfl⟩
  · rw [if_neg (by omega), decide_eq_false (by omega)]; exact ⟨rfl, rfl⟩
  · rw [if_neg (fun h => q h.1), decide_eq_false (fun h => q h.1)]; exact ⟨rfl, rfl⟩
