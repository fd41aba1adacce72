/-! smooth, difference -/
def f_sm (gu : Nat → Int32) (w n : Int) : Int := if g_th gu n = true then m_sm (g_th gu) (g_at gu) n w else -2147483648
def f_bt (gu hu : Nat → Int32) (n : Int) : Bool := g_th gu n && g_th hu n
def f_df (gu hu : Nat → Int32) (n : Int) : Int := if f_bt gu hu n = true ∧ -8388608 ≤ g_at gu n - g_at hu n ∧ g_at gu n - g_at hu n ≤ 8388608 then g_at gu n - g_at hu n else -2147483648
def f_bc (gu hu : Nat → Int32) : Nat → Int
  | 0 => 0
  | n + 1 => f_bc gu hu n + (if f_bt gu hu n = true ∧ ¬ (-8388608 ≤ g_at gu n - g_at hu n ∧ g_at gu n - g_at hu n ≤ 8388608) then 1 else 0)
theorem g_at_eq {u v : Nat → Int32} {n : Int} (h : z_g u n = z_g v n) : g_at u n = g_at v n := by unfold g_at; rw [h]
theorem g_th_eq {u v : Nat → Int32} {n : Int} (h : g_at u n = g_at v n) : g_th u n = g_th v n := by unfold g_th; rw [h]
def vc_X7_smooth_s (x_scratch : Nat → Int32) (gi : Int) (to : Int) (weight : Int) (g_units : Nat → Int32) (g_lengths : Nat → Int32) (g_offsets : Nat → Int32) (g_step : Int) (Q : Int → (Nat → Int32) → (Nat → Int32) → (Nat → Int32) → (Nat → Int32) → Int → Prop) : Prop :=
((0 ≤ gi ∧ gi < 4 → ((0 ≤ to ∧ to < 4 → ((weight < 1 → Q 0 x_scratch g_units g_lengths g_offsets g_step) ∧
(weight ≥ 1 → ((weight ≤ 1000 → (∀ L41 : Int → (Nat → Int32) → Prop,
(∀ (x41_6 : Int) (y41_xa_scratch : Nat → Int32), z_in x41_6 → ((x41_6 ≥ 1280 → (∀ (c3 : Nat → Int32) (c4 : Nat → Int32) (c5 : Int), z_in c5 → (c3 = g_lengths ∧ c4 = g_offsets ∧ c5 = g_step) → (∀ L95 : Int → (Nat → Int32) → Prop,
(∀ (x95_6 : Int) (y95_ga_units : Nat → Int32), z_in x95_6 → ((x95_6 ≥ 1280 → Q 1 y41_xa_scratch y95_ga_units c3 c4 c5) ∧
(x95_6 < 1280 → (0 ≤ x95_6 ∧ x95_6 < 1280) ∧ (0 ≤ x95_6 ∧ x95_6 < 1280) ∧ (∀ (c8 : Nat → Int32), (c8 = z_s y95_ga_units x95_6 (z_g y41_xa_scratch x95_6)) → L95 (x95_6 + 1) c8))) → L95 x95_6 y95_ga_units) →
L95 0 g_units))) ∧
(x41_6 < 1280 → (∀ (r9 : Int), z_in r9 → (r9 = z_b (g_th g_units x41_6)) → ((r9 = 0 → (0 ≤ x41_6 ∧ x41_6 < 1280) ∧ (∀ f11 : Nat → Int32, f11 = z_s y41_xa_scratch x41_6 (-2147483648) → L41 (x41_6 + 1) f11)) ∧
(r9 ≠ 0 → (0 ≤ x41_6 ∧ x41_6 < 1280) ∧ (g_ok g_units) ∧ (g_th g_units x41_6 = true) ∧ (1 ≤ weight ∧ weight ≤ 1000) ∧ (∀ (r17 : Int), z_in r17 → (r17 = m_sm (g_th g_units) (g_at g_units) x41_6 weight) → (0 ≤ x41_6 ∧ x41_6 < 1280) ∧ (∀ f19 : Nat → Int32, f19 = z_s y41_xa_scratch x41_6 r17 → L41 (x41_6 + 1) f19))))))) → L41 x41_6 y41_xa_scratch) →
L41 0 x_scratch)) ∧
(weight > 1000 → Q 0 x_scratch g_units g_lengths g_offsets g_step))))) ∧
(¬ (0 ≤ to ∧ to < 4) → Q 0 x_scratch g_units g_lengths g_offsets g_step))) ∧
(¬ (0 ≤ gi ∧ gi < 4) → ((0 ≤ to ∧ to < 4 → Q 0 x_scratch g_units g_lengths g_offsets g_step) ∧
(¬ (0 ≤ to ∧ to < 4) → Q 0 x_scratch g_units g_lengths g_offsets g_step))))
set_option maxHeartbeats 4000000 in
set_option maxRecDepth 100000 in
theorem wk_X7_smooth_s (l : Launch) (D : va_G) (cA : Nat → ClassId) (t1 t2 : Nat) (x : Nat) (xa_grids : Nat) (x_grids : Nat → Option Nat) (x_levelMm : Nat) (x_levelCount : Int) (x_water : Nat) (xa_scratch : Nat) (x_scratch : Nat → Int32) (x_lines : Nat) (gi : Int) (to : Int) (weight : Int) (g : Nat) (ga_units : Nat) (g_units : Nat → Int32) (ga_lengths : Nat) (g_lengths : Nat → Int32) (ga_offsets : Nat) (g_offsets : Nat → Int32) (g_step : Int) (h_x_levelCount : z_in x_levelCount) (h_gi : z_in gi) (h_to : z_in to) (h_weight : z_in weight) (h_g_step : z_in g_step) (hg_gi : 0 ≤ gi ∧ gi < 4 → x_grids gi.toNat = some g) (hg_to : 0 ≤ to ∧ to < 4 → x_grids to.toNat = some g) (Q : Int → (Nat → Int32) → (Nat → Int32) → (Nat → Int32) → (Nat → Int32) → Int → Prop) (hv : vc_X7_smooth_s x_scratch gi to weight g_units g_lengths g_offsets g_step Q) : Met l yX7_smooth wsX7_smooth ({ frames := 4, cells := 0, slots := 0, locals := 93 } : Room) (va_Pc [.ref x, .int (z_i gi), .int (z_i to), .int (z_i weight)] (z_M1 D cA t1 t2 [(x, .inr (5, [.ref xa_grids, .ref x_levelMm, .int (z_i x_levelCount), .ref x_water, .ref xa_scratch, .ref x_lines])), (xa_grids, .inl (cA 4, 4, .inr (.inr (.inr (.inr x_grids))))), (xa_scratch, .inl (cA 1, 1280, .inl x_scratch)), (g, .inr (1, [.ref ga_units, .ref ga_lengths, .ref ga_offsets, .int (z_i g_step)])), (ga_units, .inl (cA 1, 1280, .inl g_units)), (ga_lengths, .inl (cA 1, 32, .inl g_lengths)), (ga_offsets, .inl (cA 1, 32, .inl g_offsets))])) (va_Qi (z_mi (fun v (u : (Nat → Int32) × (Nat → Int32) × (Nat → Int32) × (Nat → Int32) × Int) => z_in u.2.2.2.2 ∧ Q v u.1 u.2.1 u.2.2.1 u.2.2.2.1 u.2.2.2.2)) (fun (u : (Nat → Int32) × (Nat → Int32) × (Nat → Int32) × (Nat → Int32) × Int) t => va_P D vwCl [(x, .inr (5, [.ref xa_grids, .ref x_levelMm, .int (z_i x_levelCount), .ref x_water, .ref xa_scratch, .ref x_lines])), (xa_grids, .inl (cA 4, 4, .inr (.inr (.inr (.inr x_grids))))), (xa_scratch, .inl (cA 1, 1280, .inl u.1)), (g, .inr (1, [.ref ga_units, .ref ga_lengths, .ref ga_offsets, .int (z_i u.2.2.2.2)])), (ga_units, .inl (cA 1, 1280, .inl u.2.1)), (ga_lengths, .inl (cA 1, 32, .inl u.2.2.1)), (ga_offsets, .inl (cA 1, 32, .inl u.2.2.2.1))] t.heap) (z_A [(x, .inr (5, [.ref xa_grids, .ref x_levelMm, .int (z_i x_levelCount), .ref x_water, .ref xa_scratch, .ref x_lines])), (xa_grids, .inl (cA 4, 4, .inr (.inr (.inr (.inr x_grids))))), (xa_scratch, .inl (cA 1, 1280, .inl x_scratch)), (g, .inr (1, [.ref ga_units, .ref ga_lengths, .ref ga_offsets, .int (z_i g_step)])), (ga_units, .inl (cA 1, 1280, .inl g_units)), (ga_lengths, .inl (cA 1, 32, .inl g_lengths)), (ga_offsets, .inl (cA 1, 32, .inl g_offsets))])) 0 0 (z_A [(x, .inr (5, [.ref xa_grids, .ref x_levelMm, .int (z_i x_levelCount), .ref x_water, .ref xa_scratch, .ref x_lines])), (xa_grids, .inl (cA 4, 4, .inr (.inr (.inr (.inr x_grids))))), (xa_scratch, .inl (cA 1, 1280, .inl x_scratch)), (g, .inr (1, [.ref ga_units, .ref ga_lengths, .ref ga_offsets, .int (z_i g_step)])), (ga_units, .inl (cA 1, 1280, .inl g_units)), (ga_lengths, .inl (cA 1, 32, .inl g_lengths)), (ga_offsets, .inl (cA 1, 32, .inl g_offsets))]) := by
  unfold vc_X7_smooth_s at hv
  refine Met.ofW (cc := cX7_smooth) (maxL := 7) (ret := (some .boolean)) (by decide +kernel) rfl ?_
  intro p e s m args below meth c s₁ B hml hv0
  obtain ⟨rfl, ⟨hK, hP, hD0⟩, hST⟩ := hv0
  have hx := B.exec
  have hb := B.bytes
  have hr := B.returns
  have hts := atoms_spec (ws := wsX7_smooth) B.pre
  have hown : s.vm.findClass RX7 = some m.cls := findClass_of_methodNamed B.named
  have hlocks := B.notSynchronized
  have hD := z_D_self hD0
  generalize hAe : z_A [(x, .inr (5, [.ref xa_grids, .ref x_levelMm, .int (z_i x_levelCount), .ref x_water, .ref xa_scratch, .ref x_lines])), (xa_grids, .inl (cA 4, 4, .inr (.inr (.inr (.inr x_grids))))), (xa_scratch, .inl (cA 1, 1280, .inl x_scratch)), (g, .inr (1, [.ref ga_units, .ref ga_lengths, .ref ga_offsets, .int (z_i g_step)])), (ga_units, .inl (cA 1, 1280, .inl g_units)), (ga_lengths, .inl (cA 1, 32, .inl g_lengths)), (ga_offsets, .inl (cA 1, 32, .inl g_offsets))] = A at *
  have hS : va_S A s.heap s.heap [] := va_S.rf
  have hl := lv_entry ([.ref x, .int (z_i gi), .int (z_i to), .int (z_i weight)]) (n := 7) (Nat.le_of_ble_eq_true rfl)
  rw [lg_entry_eq]
  generalize (lg_sl ([.ref x, .int (z_i gi), .int (z_i to), .int (z_i weight)]) ++ List.replicate (7 - (lg_sl ([.ref x, .int (z_i gi), .int (z_i to), .int (z_i weight)])).length) Slot.unset).toArray = ls at hl ⊢
  have hl : lv_has ls 7 [(0, .ref x), (1, .int (z_i gi)), (2, .int (z_i to)), (3, .int (z_i weight))] := hl
  refine lv_aload_n hx hb dX7_smooth_0 rfl (lv_at hl 0 rfl) ?_
  refine lv_iload_n hx hb dX7_smooth_1 rfl (lv_at hl 1 rfl) ?_
  refine va_callq (va_runV (As := [.int (z_i gi)]) (rest := []) ⟨hx, hb, hml, hown, hts⟩ (mt_X7_gridOf l D cA x xa_grids x_grids x_levelMm x_levelCount x_water xa_scratch x_lines gi h_x_levelCount h_gi) (cwV 1 hts gX7_smooth_X7_gridOf rfl rfl rfl (by decide +kernel) ⟨Nat.le_of_ble_eq_true rfl, Nat.le_of_ble_eq_true rfl⟩) ⟨z_bl0, va_recv hK hP (ci := 5) (q0 := 0) rfl rfl, fun U hU hW => ⟨rfl, z_b0 hK (hP.sub (ws' := [(x, .inr (5, [.ref xa_grids, .ref x_levelMm, .int (z_i x_levelCount), .ref x_water, .ref xa_scratch, .ref x_lines])), (xa_grids, .inl (cA 4, 4, .inr (.inr (.inr (.inr x_grids)))))]) [0, 1] rfl) hU hW⟩⟩ rfl rfl hl.1 rfl (lv_room (Nat.le_of_ble_eq_true rfl)) dX7_smooth_2 ⟨Nat.zero_le _, Nat.zero_le _⟩) hS (fun q _ h => h.elim) (fun q h => h.elim) (fun r0 u t H locs ht hvm hw hB hz1 hk1 hS => ?_)
  have hq1 := hw
  have hP := z_P_all hP hk1
  by_cases hc : 0 ≤ gi ∧ gi < 4
  · have hv := hv.1 hc
    rw [hq1, if_pos hc, hg_gi hc, z_rf_s]
    refine lv_astore (lv' := [(4, .ref g), (0, .ref x), (1, .int (z_i gi)), (2, .int (z_i to)), (3, .int (z_i weight))]) hx hb dX7_smooth_5 hl (by decide) rfl (fun ls hl => ?_)
    refine lv_aload_n hx hb dX7_smooth_7 rfl (lv_at hl 1 rfl) ?_
    refine lv_iload_n hx hb dX7_smooth_8 rfl (lv_at hl 3 rfl) ?_
    refine va_callq (va_runV (As := [.int (z_i to)]) (rest := []) ⟨hx, hb, hml, hown, hts⟩ (mt_X7_gridOf l D cA x xa_grids x_grids x_levelMm x_levelCount x_water xa_scratch x_lines to h_x_levelCount h_to) (cwV 1 hts gX7_smooth_X7_gridOf rfl rfl rfl (by decide +kernel) ⟨Nat.le_of_ble_eq_true rfl, Nat.le_of_ble_eq_true rfl⟩) ⟨z_bl0, va_recv hK hP (ci := 5) (q0 := 0) rfl rfl, fun U hU hW => ⟨rfl, z_b0 hK (hP.sub (ws' := [(x, .inr (5, [.ref xa_grids, .ref x_levelMm, .int (z_i x_levelCount), .ref x_water, .ref xa_scratch, .ref x_lines])), (xa_grids, .inl (cA 4, 4, .inr (.inr (.inr (.inr x_grids)))))]) [0, 1] rfl) hU hW⟩⟩ rfl rfl hl.1 rfl (lv_room (Nat.le_of_ble_eq_true rfl)) dX7_smooth_9 ⟨Nat.zero_le _, Nat.zero_le _⟩) hS (fun q _ h => h.elim) (fun q h => h.elim) (fun r0 u t H locs ht hvm hw hB hz1 hk1 hS => ?_)
    have hq2 := hw
    have hP := z_P_all hP hk1
    by_cases hc : 0 ≤ to ∧ to < 4
    · have hv := hv.1 hc
      rw [hq2, if_pos hc, hg_to hc, z_rf_s]
      refine lv_astore (lv' := [(5, .ref g), (4, .ref g), (0, .ref x), (1, .int (z_i gi)), (2, .int (z_i to)), (3, .int (z_i weight))]) hx hb dX7_smooth_12 hl (by decide) rfl (fun ls hl => ?_)
      refine lv_aload hx hb dX7_smooth_14 (lv_at hl 1 rfl) ?_
      refine lv_ifnull hx hb dX7_smooth_16 ?_
      refine lv_aload hx hb dX7_smooth_19 (lv_at hl 0 rfl) ?_
      refine lv_ifnull hx hb dX7_smooth_21 ?_
      refine lv_iload_n hx hb dX7_smooth_24 rfl (lv_at hl 5 rfl) ?_
      refine lv_iconst (v := z_i 1) hx hb dX7_smooth_25 rfl ?_
      refine lx_icmp_lt (tgt := 36) hx hb dX7_smooth_26 (by decide) h_weight (show z_in 1 from ⟨by decide, by decide⟩) (fun hc => ?_) (fun hc => ?_)
      · have hv := hv.1 hc
        refine lv_iconst (v := z_i 0) hx hb dX7_smooth_36 rfl ?_
        exact W.zret (v := z_i 0) hx hb hr (by decide) (fun t ht hW => ⟨⟨z_i 0, (x_scratch, g_units, g_lengths, g_offsets, g_step), rfl, ⟨0, rfl, (show z_in 0 from ⟨by decide, by decide⟩), h_g_step, hv⟩, z_pt hP ht⟩, hS.F ht⟩) hS.2.2 dX7_smooth_37
      · have hv := hv.2 hc
        refine lv_iload_n hx hb dX7_smooth_29 rfl (lv_at hl 5 rfl) ?_
        refine lv_sipush (v := z_i 1000) hx hb dX7_smooth_30 (by decide) ?_
        refine lx_icmp_le (tgt := 38) hx hb dX7_smooth_33 (by decide) h_weight (show z_in 1000 from ⟨by decide, by decide⟩) (fun hc => ?_) (fun hc => ?_)
        · have hv := hv.1 hc
          refine lv_iconst (v := z_i 0) hx hb dX7_smooth_38 rfl ?_
          refine lv_istore (lv' := [(6, .int (z_i 0)), (5, .ref g), (4, .ref g), (0, .ref x), (1, .int (z_i gi)), (2, .int (z_i to)), (3, .int (z_i weight))]) hx hb dX7_smooth_39 hl (by decide) rfl (fun ls hl => ?_)
          refine hv (fun (x41_6 : Int) (y41_xa_scratch : Nat → Int32) => ∀ (H : Heap) (locs : List Loc) (ls : Array Slot), va_P D vwCl [(x, .inr (5, [.ref xa_grids, .ref x_levelMm, .int (z_i x_levelCount), .ref x_water, .ref xa_scratch, .ref x_lines])), (xa_grids, .inl (cA 4, 4, .inr (.inr (.inr (.inr x_grids))))), (xa_scratch, .inl (cA 1, 1280, .inl y41_xa_scratch)), (g, .inr (1, [.ref ga_units, .ref ga_lengths, .ref ga_offsets, .int (z_i g_step)])), (ga_units, .inl (cA 1, 1280, .inl g_units)), (ga_lengths, .inl (cA 1, 32, .inl g_lengths)), (ga_offsets, .inl (cA 1, 32, .inl g_offsets))] H → va_D A [(x, .inr (5, [.ref xa_grids, .ref x_levelMm, .int (z_i x_levelCount), .ref x_water, .ref xa_scratch, .ref x_lines])), (xa_grids, .inl (cA 4, 4, .inr (.inr (.inr (.inr x_grids))))), (xa_scratch, .inl (cA 1, 1280, .inl y41_xa_scratch)), (g, .inr (1, [.ref ga_units, .ref ga_lengths, .ref ga_offsets, .int (z_i g_step)])), (ga_units, .inl (cA 1, 1280, .inl g_units)), (ga_lengths, .inl (cA 1, 32, .inl g_lengths)), (ga_offsets, .inl (cA 1, 32, .inl g_offsets))] → va_S A s.heap H locs → lv_has ls 7 [(6, .int (z_i x41_6)), (5, .ref g), (4, .ref g), (0, .ref x), (3, .int (z_i weight))] → W p l e _ s m _ below meth c H locs 0 0 _ (F0 m 41 ls [])) ?_ _ _ ls hP hD hS (lv_sub hl [0, 1, 2, 3, 6] rfl)
          intro x41_6 y41_xa_scratch h_x41_6 hv H locs ls hP hD hS hl
          refine lv_iload hx hb dX7_smooth_41 (lv_at hl 0 rfl) ?_
          refine lv_sipush (v := z_i 1280) hx hb dX7_smooth_43 (by decide) ?_
          refine lx_icmp_ge (tgt := 85) hx hb dX7_smooth_46 (by decide) h_x41_6 (show z_in 1280 from ⟨by decide, by decide⟩) (fun hc => ?_) (fun hc => ?_)
          · have hv := hv.1 hc
            refine lv_aload hx hb dX7_smooth_85 (lv_at hl 1 rfl) ?_
            refine lv_aload hx hb dX7_smooth_87 (lv_at hl 2 rfl) ?_
            have hFc := z_fr (A := A) (wc := [(g, .inr (1, [.ref ga_units, .ref ga_lengths, .ref ga_offsets, .int (z_i g_step)])), (ga_units, .inl (cA 1, 1280, .inl g_units)), (ga_lengths, .inl (cA 1, 32, .inl g_lengths)), (ga_offsets, .inl (cA 1, 32, .inl g_offsets))]) hD [3, 4, 5, 6] rfl
            refine va_callv (va_runV (As := [.ref g]) (rest := []) ⟨hx, hb, hml, hown, hts⟩ (mt_X2_takeShape_s l D cA g ga_units g_units ga_lengths g_lengths ga_offsets g_offsets g_step h_g_step) (cwV 1 hts gX7_smooth_X2_takeShape rfl rfl rfl (by decide +kernel) ⟨Nat.le_of_ble_eq_true rfl, Nat.le_of_ble_eq_true rfl⟩) ⟨z_blm0, va_recv hK hP (ci := 1) (q0 := 3) rfl rfl, fun U hU hW => ⟨rfl, z_m0 hK (hP.sub (ws' := [(g, .inr (1, [.ref ga_units, .ref ga_lengths, .ref ga_offsets, .int (z_i g_step)])), (ga_units, .inl (cA 1, 1280, .inl g_units)), (ga_lengths, .inl (cA 1, 32, .inl g_lengths)), (ga_offsets, .inl (cA 1, 32, .inl g_offsets))]) [3, 4, 5, 6] rfl) (hD.sub (ws' := [(g, .inr (1, [.ref ga_units, .ref ga_lengths, .ref ga_offsets, .int (z_i g_step)])), (ga_units, .inl (cA 1, 1280, .inl g_units)), (ga_lengths, .inl (cA 1, 32, .inl g_lengths)), (ga_offsets, .inl (cA 1, 32, .inl g_offsets))]) [3, 4, 5, 6] (by decide) rfl) hU hW⟩⟩ rfl rfl hl.1 rfl (lv_room (Nat.le_of_ble_eq_true rfl)) dX7_smooth_89 ⟨Nat.zero_le _, Nat.zero_le _⟩) hS (fun q _ h => hFc q h) hFc (fun u t H locs ht hvm hw hB hz1 hk1 hS => ?_)
            obtain ⟨c3, c4, c5⟩ := u
            rw [ht] at hB
            have hP := z_join2 (wc := [(g, .inr (1, [.ref ga_units, .ref ga_lengths, .ref ga_offsets, .int (z_i g_step)])), (ga_units, .inl (cA 1, 1280, .inl g_units)), (ga_lengths, .inl (cA 1, 32, .inl g_lengths)), (ga_offsets, .inl (cA 1, 32, .inl g_offsets))]) (w1 := [(g, .inr (1, [.ref ga_units, .ref ga_lengths, .ref ga_offsets, .int (z_i c5)])), (ga_units, .inl (cA 1, 1280, .inl g_units)), (ga_lengths, .inl (cA 1, 32, .inl c3)), (ga_offsets, .inl (cA 1, 32, .inl c4))]) hP hD [3, 4, 5, 6] [0, 0, 0, 1, 2, 3, 4] rfl rfl rfl hk1 hB
            have hP : va_P D vwCl [(x, .inr (5, [.ref xa_grids, .ref x_levelMm, .int (z_i x_levelCount), .ref x_water, .ref xa_scratch, .ref x_lines])), (xa_grids, .inl (cA 4, 4, .inr (.inr (.inr (.inr x_grids))))), (xa_scratch, .inl (cA 1, 1280, .inl y41_xa_scratch)), (g, .inr (1, [.ref ga_units, .ref ga_lengths, .ref ga_offsets, .int (z_i c5)])), (ga_units, .inl (cA 1, 1280, .inl g_units)), (ga_lengths, .inl (cA 1, 32, .inl c3)), (ga_offsets, .inl (cA 1, 32, .inl c4))] H := hP
            have hD : va_D A [(x, .inr (5, [.ref xa_grids, .ref x_levelMm, .int (z_i x_levelCount), .ref x_water, .ref xa_scratch, .ref x_lines])), (xa_grids, .inl (cA 4, 4, .inr (.inr (.inr (.inr x_grids))))), (xa_scratch, .inl (cA 1, 1280, .inl y41_xa_scratch)), (g, .inr (1, [.ref ga_units, .ref ga_lengths, .ref ga_offsets, .int (z_i c5)])), (ga_units, .inl (cA 1, 1280, .inl g_units)), (ga_lengths, .inl (cA 1, 32, .inl c3)), (ga_offsets, .inl (cA 1, 32, .inl c4))] := z_D_addr hD rfl
            obtain ⟨h_c5, hw⟩ := hw
            have hv := hv c3 c4 c5 h_c5 hw
            refine lv_iconst (v := z_i 0) hx hb dX7_smooth_92 rfl ?_
            refine lv_istore (lv' := [(6, .int (z_i 0)), (5, .ref g), (4, .ref g), (0, .ref x), (3, .int (z_i weight))]) hx hb dX7_smooth_93 hl (by decide) rfl (fun ls hl => ?_)
            refine hv (fun (x95_6 : Int) (y95_ga_units : Nat → Int32) => ∀ (H : Heap) (locs : List Loc) (ls : Array Slot), va_P D vwCl [(x, .inr (5, [.ref xa_grids, .ref x_levelMm, .int (z_i x_levelCount), .ref x_water, .ref xa_scratch, .ref x_lines])), (xa_grids, .inl (cA 4, 4, .inr (.inr (.inr (.inr x_grids))))), (xa_scratch, .inl (cA 1, 1280, .inl y41_xa_scratch)), (g, .inr (1, [.ref ga_units, .ref ga_lengths, .ref ga_offsets, .int (z_i c5)])), (ga_units, .inl (cA 1, 1280, .inl y95_ga_units)), (ga_lengths, .inl (cA 1, 32, .inl c3)), (ga_offsets, .inl (cA 1, 32, .inl c4))] H → va_D A [(x, .inr (5, [.ref xa_grids, .ref x_levelMm, .int (z_i x_levelCount), .ref x_water, .ref xa_scratch, .ref x_lines])), (xa_grids, .inl (cA 4, 4, .inr (.inr (.inr (.inr x_grids))))), (xa_scratch, .inl (cA 1, 1280, .inl y41_xa_scratch)), (g, .inr (1, [.ref ga_units, .ref ga_lengths, .ref ga_offsets, .int (z_i c5)])), (ga_units, .inl (cA 1, 1280, .inl y95_ga_units)), (ga_lengths, .inl (cA 1, 32, .inl c3)), (ga_offsets, .inl (cA 1, 32, .inl c4))] → va_S A s.heap H locs → lv_has ls 7 [(6, .int (z_i x95_6)), (5, .ref g), (0, .ref x)] → W p l e _ s m _ below meth c H locs 0 0 _ (F0 m 95 ls [])) ?_ _ _ ls hP hD hS (lv_sub hl [0, 1, 3] rfl)
            intro x95_6 y95_ga_units h_x95_6 hv H locs ls hP hD hS hl
            refine lv_iload hx hb dX7_smooth_95 (lv_at hl 0 rfl) ?_
            refine lv_sipush (v := z_i 1280) hx hb dX7_smooth_97 (by decide) ?_
            refine lx_icmp_ge (tgt := 123) hx hb dX7_smooth_100 (by decide) h_x95_6 (show z_in 1280 from ⟨by decide, by decide⟩) (fun hc => ?_) (fun hc => ?_)
            · have hv := hv.1 hc
              refine lv_iconst (v := z_i 1) hx hb dX7_smooth_123 rfl ?_
              exact W.zret (v := z_i 1) hx hb hr (by decide) (fun t ht hW => ⟨⟨z_i 1, (y41_xa_scratch, y95_ga_units, c3, c4, c5), rfl, ⟨1, rfl, (show z_in 1 from ⟨by decide, by decide⟩), h_c5, hv⟩, z_pt hP ht⟩, hS.F ht⟩) hS.2.2 dX7_smooth_124
            · have hv := hv.2 hc
              refine lv_aload hx hb dX7_smooth_103 (lv_at hl 1 rfl) ?_
              refine lv_iload hx hb dX7_smooth_105 (lv_at hl 0 rfl) ?_
              refine lv_aload_n hx hb dX7_smooth_107 rfl (lv_at hl 2 rfl) ?_
              refine va_get (D := D) (ci := 5) (v := .ref xa_scratch) (C := RX7) (T := TX7) (N := 6) hx hb hts (fun w h => List.mem_cons_of_mem _ (List.mem_append_left _ (List.mem_append_right _ h))) hown hK hP 0 rfl rfl 4 (by decide) (hts (.fieldLink RX7 33 "ContourSheets" "scratch" "[I") (by decide +kernel)) (fun _ h9 => h9) rfl dX7_smooth_108 ?_
              refine lv_iload hx hb dX7_smooth_111 (lv_at hl 0 rfl) ?_
              obtain ⟨hi6, hv⟩ := hv
              refine lx_iald hx hb hK hP 2 1 rfl rfl (by decide) hi6.1 hi6.2 dX7_smooth_113 ?_
              obtain ⟨hp7, hv⟩ := hv
              have hFc := z_fr (A := A) (wc := [(g, .inr (1, [.ref ga_units, .ref ga_lengths, .ref ga_offsets, .int (z_i c5)])), (ga_units, .inl (cA 1, 1280, .inl y95_ga_units)), (ga_lengths, .inl (cA 1, 32, .inl c3)), (ga_offsets, .inl (cA 1, 32, .inl c4))]) hD [3, 4, 5, 6] rfl
              refine va_callv (va_runV (As := [.int (z_i x95_6), .int (z_i (z_g y41_xa_scratch x95_6))]) (rest := []) ⟨hx, hb, hml, hown, hts⟩ (mt_X2_put l D cA g ga_units y95_ga_units ga_lengths c3 ga_offsets c4 c5 x95_6 (z_g y41_xa_scratch x95_6) h_c5 h_x95_6 (z_in_g _ _) hp7) (cwV 2 hts gX7_smooth_X2_put rfl rfl rfl (by decide +kernel) ⟨Nat.le_of_ble_eq_true rfl, Nat.le_of_ble_eq_true rfl⟩) ⟨z_blm0, va_recv hK hP (ci := 1) (q0 := 3) rfl rfl, fun U hU hW => ⟨rfl, z_m0 hK (hP.sub (ws' := [(g, .inr (1, [.ref ga_units, .ref ga_lengths, .ref ga_offsets, .int (z_i c5)])), (ga_units, .inl (cA 1, 1280, .inl y95_ga_units)), (ga_lengths, .inl (cA 1, 32, .inl c3)), (ga_offsets, .inl (cA 1, 32, .inl c4))]) [3, 4, 5, 6] rfl) (hD.sub (ws' := [(g, .inr (1, [.ref ga_units, .ref ga_lengths, .ref ga_offsets, .int (z_i c5)])), (ga_units, .inl (cA 1, 1280, .inl y95_ga_units)), (ga_lengths, .inl (cA 1, 32, .inl c3)), (ga_offsets, .inl (cA 1, 32, .inl c4))]) [3, 4, 5, 6] (by decide) rfl) hU hW⟩⟩ rfl rfl hl.1 rfl (lv_room (Nat.le_of_ble_eq_true rfl)) dX7_smooth_114 ⟨Nat.zero_le _, Nat.zero_le _⟩) hS (fun q _ h => hFc q h) hFc (fun u t H locs ht hvm hw hB hz1 hk1 hS => ?_)
              obtain ⟨c8, rfl⟩ : ∃ z, z = u := ⟨_, rfl⟩
              rw [ht] at hB
              have hP := z_join2 (wc := [(g, .inr (1, [.ref ga_units, .ref ga_lengths, .ref ga_offsets, .int (z_i c5)])), (ga_units, .inl (cA 1, 1280, .inl y95_ga_units)), (ga_lengths, .inl (cA 1, 32, .inl c3)), (ga_offsets, .inl (cA 1, 32, .inl c4))]) (w1 := [(g, .inr (1, [.ref ga_units, .ref ga_lengths, .ref ga_offsets, .int (z_i c5)])), (ga_units, .inl (cA 1, 1280, .inl c8)), (ga_lengths, .inl (cA 1, 32, .inl c3)), (ga_offsets, .inl (cA 1, 32, .inl c4))]) hP hD [3, 4, 5, 6] [0, 0, 0, 1, 2, 3, 4] rfl rfl rfl hk1 hB
              have hP : va_P D vwCl [(x, .inr (5, [.ref xa_grids, .ref x_levelMm, .int (z_i x_levelCount), .ref x_water, .ref xa_scratch, .ref x_lines])), (xa_grids, .inl (cA 4, 4, .inr (.inr (.inr (.inr x_grids))))), (xa_scratch, .inl (cA 1, 1280, .inl y41_xa_scratch)), (g, .inr (1, [.ref ga_units, .ref ga_lengths, .ref ga_offsets, .int (z_i c5)])), (ga_units, .inl (cA 1, 1280, .inl c8)), (ga_lengths, .inl (cA 1, 32, .inl c3)), (ga_offsets, .inl (cA 1, 32, .inl c4))] H := hP
              have hD : va_D A [(x, .inr (5, [.ref xa_grids, .ref x_levelMm, .int (z_i x_levelCount), .ref x_water, .ref xa_scratch, .ref x_lines])), (xa_grids, .inl (cA 4, 4, .inr (.inr (.inr (.inr x_grids))))), (xa_scratch, .inl (cA 1, 1280, .inl y41_xa_scratch)), (g, .inr (1, [.ref ga_units, .ref ga_lengths, .ref ga_offsets, .int (z_i c5)])), (ga_units, .inl (cA 1, 1280, .inl c8)), (ga_lengths, .inl (cA 1, 32, .inl c3)), (ga_offsets, .inl (cA 1, 32, .inl c4))] := z_D_addr hD rfl
              have hv := hv c8 hw
              refine lv_iinc (v := z_i (x95_6 + 1)) (lv' := [(6, .int (z_i (x95_6 + 1))), (5, .ref g), (0, .ref x)]) hx hb dX7_smooth_117 hl (k := 0) rfl (z_i_add _ _) (by decide) rfl (fun ls hl => ?_)
              refine lv_goto (tgt := 95) hx hb dX7_smooth_120 (by decide) ?_
              exact hv _ _ ls hP hD hS (lv_sub hl [0, 1, 2] rfl)
          · have hv := hv.2 hc
            refine lv_aload_n hx hb dX7_smooth_49 rfl (lv_at hl 3 rfl) ?_
            refine va_get (D := D) (ci := 5) (v := .ref xa_scratch) (C := RX7) (T := TX7) (N := 6) hx hb hts (fun w h => List.mem_cons_of_mem _ (List.mem_append_left _ (List.mem_append_right _ h))) hown hK hP 0 rfl rfl 4 (by decide) (hts (.fieldLink RX7 33 "ContourSheets" "scratch" "[I") (by decide +kernel)) (fun _ h9 => h9) rfl dX7_smooth_50 ?_
            refine lv_iload hx hb dX7_smooth_53 (lv_at hl 0 rfl) ?_
            refine lv_aload hx hb dX7_smooth_55 (lv_at hl 2 rfl) ?_
            refine lv_iload hx hb dX7_smooth_57 (lv_at hl 0 rfl) ?_
            refine va_calli (va_runV (As := [.int (z_i x41_6)]) (rest := [.int (z_i x41_6), .ref xa_scratch]) ⟨hx, hb, hml, hown, hts⟩ (mt_X2_isThere l D cA g ga_units g_units ga_lengths g_lengths ga_offsets g_offsets g_step x41_6 h_g_step h_x41_6) (cwV 1 hts gX7_smooth_X2_isThere rfl rfl rfl (by decide +kernel) ⟨Nat.le_of_ble_eq_true rfl, Nat.le_of_ble_eq_true rfl⟩) ⟨z_bl0, va_recv hK hP (ci := 1) (q0 := 3) rfl rfl, fun U hU hW => ⟨rfl, z_b0 hK (hP.sub (ws' := [(g, .inr (1, [.ref ga_units, .ref ga_lengths, .ref ga_offsets, .int (z_i g_step)])), (ga_units, .inl (cA 1, 1280, .inl g_units)), (ga_lengths, .inl (cA 1, 32, .inl g_lengths)), (ga_offsets, .inl (cA 1, 32, .inl g_offsets))]) [3, 4, 5, 6] rfl) hU hW⟩⟩ rfl rfl hl.1 rfl (lv_room (Nat.le_of_ble_eq_true rfl)) dX7_smooth_59 ⟨Nat.zero_le _, Nat.zero_le _⟩) hS (fun q _ h => h.elim) (fun q h => h.elim) (fun r0 u t H locs ht hvm hw hB hz1 hk1 hS => ?_)
            obtain ⟨r9, rfl, h_r9, hw⟩ := hw
            have hP := z_P_all hP hk1
            have hv := hv r9 h_r9 hw
            refine lx_if_eq (tgt := 76) hx hb dX7_smooth_62 (by decide) h_r9 (fun hc => ?_) (fun hc => ?_)
            · have hv := hv.1 hc
              refine lx_ldc (a := (-2147483648)) hx hb hown (hts (.constant RX7 61 (-2147483648)) (by decide +kernel)) (by decide) dX7_smooth_76 ?_
              obtain ⟨hi10, hv⟩ := hv
              refine lx_iast hx hb hK hP hD hS 2 1 rfl rfl (by decide) hi10.1 hi10.2 dX7_smooth_78 (fun H locs hP hD hS => ?_)
              obtain ⟨f11, hy12⟩ : ∃ y : Nat → Int32, y = z_s y41_xa_scratch x41_6 (-2147483648) := ⟨_, rfl⟩
              have hv := hv f11 hy12
              have hP : va_P D vwCl [(x, .inr (5, [.ref xa_grids, .ref x_levelMm, .int (z_i x_levelCount), .ref x_water, .ref xa_scratch, .ref x_lines])), (xa_grids, .inl (cA 4, 4, .inr (.inr (.inr (.inr x_grids))))), (xa_scratch, .inl (cA 1, 1280, .inl f11)), (g, .inr (1, [.ref ga_units, .ref ga_lengths, .ref ga_offsets, .int (z_i g_step)])), (ga_units, .inl (cA 1, 1280, .inl g_units)), (ga_lengths, .inl (cA 1, 32, .inl g_lengths)), (ga_offsets, .inl (cA 1, 32, .inl g_offsets))] H := by rw [hy12]; exact hP
              have hD : va_D A [(x, .inr (5, [.ref xa_grids, .ref x_levelMm, .int (z_i x_levelCount), .ref x_water, .ref xa_scratch, .ref x_lines])), (xa_grids, .inl (cA 4, 4, .inr (.inr (.inr (.inr x_grids))))), (xa_scratch, .inl (cA 1, 1280, .inl f11)), (g, .inr (1, [.ref ga_units, .ref ga_lengths, .ref ga_offsets, .int (z_i g_step)])), (ga_units, .inl (cA 1, 1280, .inl g_units)), (ga_lengths, .inl (cA 1, 32, .inl g_lengths)), (ga_offsets, .inl (cA 1, 32, .inl g_offsets))] := by rw [hy12]; exact hD
              refine lv_iinc (v := z_i (x41_6 + 1)) (lv' := [(6, .int (z_i (x41_6 + 1))), (5, .ref g), (4, .ref g), (0, .ref x), (3, .int (z_i weight))]) hx hb dX7_smooth_79 hl (k := 0) rfl (z_i_add _ _) (by decide) rfl (fun ls hl => ?_)
              refine lv_goto (tgt := 41) hx hb dX7_smooth_82 (by decide) ?_
              exact hv _ _ ls hP hD hS (lv_sub hl [0, 1, 2, 3, 4] rfl)
            · have hv := hv.2 hc
              refine lv_aload hx hb dX7_smooth_65 (lv_at hl 2 rfl) ?_
              refine lv_iload hx hb dX7_smooth_67 (lv_at hl 0 rfl) ?_
              refine lv_iload_n hx hb dX7_smooth_69 rfl (lv_at hl 4 rfl) ?_
              obtain ⟨hp13, hv⟩ := hv
              obtain ⟨hp14, hv⟩ := hv
              obtain ⟨hp15, hv⟩ := hv
              obtain ⟨hp16, hv⟩ := hv
              refine va_calli (va_runV (As := [.int (z_i x41_6), .int (z_i weight)]) (rest := [.int (z_i x41_6), .ref xa_scratch]) ⟨hx, hb, hml, hown, hts⟩ (mt_X2_smoothed l D cA t1 t2 g ga_units g_units ga_lengths g_lengths ga_offsets g_offsets g_step x41_6 weight h_g_step h_x41_6 h_weight hp13 hp14 hp15 hp16) (cwV 2 hts gX7_smooth_X2_smoothed rfl rfl rfl (by decide +kernel) ⟨Nat.le_of_ble_eq_true rfl, Nat.le_of_ble_eq_true rfl⟩) ⟨z_bl1, va_recv hK hP (ci := 1) (q0 := 3) rfl rfl, fun U hU hW => ⟨rfl, z_b1 hK (hP.sub (ws' := [(g, .inr (1, [.ref ga_units, .ref ga_lengths, .ref ga_offsets, .int (z_i g_step)])), (ga_units, .inl (cA 1, 1280, .inl g_units)), (ga_lengths, .inl (cA 1, 32, .inl g_lengths)), (ga_offsets, .inl (cA 1, 32, .inl g_offsets))]) [3, 4, 5, 6] rfl) (hST.at hS (fun _ h => h.elim)) hU hW⟩⟩ rfl rfl hl.1 rfl (lv_room (Nat.le_of_ble_eq_true rfl)) dX7_smooth_70 ⟨Nat.zero_le _, Nat.zero_le _⟩) hS (fun q _ h => h.elim) (fun q h => h.elim) (fun r0 u t H locs ht hvm hw hB hz1 hk1 hS => ?_)
              obtain ⟨r17, rfl, h_r17, hw⟩ := hw
              have hP := z_P_all hP hk1
              have hv := hv r17 h_r17 hw
              refine lv_goto (tgt := 78) hx hb dX7_smooth_73 (by decide) ?_
              obtain ⟨hi18, hv⟩ := hv
              refine lx_iast hx hb hK hP hD hS 2 1 rfl rfl (by decide) hi18.1 hi18.2 dX7_smooth_78 (fun H locs hP hD hS => ?_)
              obtain ⟨f19, hy20⟩ : ∃ y : Nat → Int32, y = z_s y41_xa_scratch x41_6 r17 := ⟨_, rfl⟩
              have hv := hv f19 hy20
              have hP : va_P D vwCl [(x, .inr (5, [.ref xa_grids, .ref x_levelMm, .int (z_i x_levelCount), .ref x_water, .ref xa_scratch, .ref x_lines])), (xa_grids, .inl (cA 4, 4, .inr (.inr (.inr (.inr x_grids))))), (xa_scratch, .inl (cA 1, 1280, .inl f19)), (g, .inr (1, [.ref ga_units, .ref ga_lengths, .ref ga_offsets, .int (z_i g_step)])), (ga_units, .inl (cA 1, 1280, .inl g_units)), (ga_lengths, .inl (cA 1, 32, .inl g_lengths)), (ga_offsets, .inl (cA 1, 32, .inl g_offsets))] H := by rw [hy20]; exact hP
              have hD : va_D A [(x, .inr (5, [.ref xa_grids, .ref x_levelMm, .int (z_i x_levelCount), .ref x_water, .ref xa_scratch, .ref x_lines])), (xa_grids, .inl (cA 4, 4, .inr (.inr (.inr (.inr x_grids))))), (xa_scratch, .inl (cA 1, 1280, .inl f19)), (g, .inr (1, [.ref ga_units, .ref ga_lengths, .ref ga_offsets, .int (z_i g_step)])), (ga_units, .inl (cA 1, 1280, .inl g_units)), (ga_lengths, .inl (cA 1, 32, .inl g_lengths)), (ga_offsets, .inl (cA 1, 32, .inl g_offsets))] := by rw [hy20]; exact hD
              refine lv_iinc (v := z_i (x41_6 + 1)) (lv' := [(6, .int (z_i (x41_6 + 1))), (5, .ref g), (4, .ref g), (0, .ref x), (3, .int (z_i weight))]) hx hb dX7_smooth_79 hl (k := 0) rfl (z_i_add _ _) (by decide) rfl (fun ls hl => ?_)
              refine lv_goto (tgt := 41) hx hb dX7_smooth_82 (by decide) ?_
              exact hv _ _ ls hP hD hS (lv_sub hl [0, 1, 2, 3, 4] rfl)
        · have hv := hv.2 hc
          refine lv_iconst (v := z_i 0) hx hb dX7_smooth_36 rfl ?_
          exact W.zret (v := z_i 0) hx hb hr (by decide) (fun t ht hW => ⟨⟨z_i 0, (x_scratch, g_units, g_lengths, g_offsets, g_step), rfl, ⟨0, rfl, (show z_in 0 from ⟨by decide, by decide⟩), h_g_step, hv⟩, z_pt hP ht⟩, hS.F ht⟩) hS.2.2 dX7_smooth_37
    · have hv := hv.2 hc
      rw [hq2, if_neg hc, z_rf_n]
      refine lv_astoreN (lv' := [(5, .null), (4, .ref g), (0, .ref x), (1, .int (z_i gi)), (2, .int (z_i to)), (3, .int (z_i weight))]) hx hb dX7_smooth_12 hl (by decide) rfl (fun ls hl => ?_)
      refine lv_aload hx hb dX7_smooth_14 (lv_at hl 1 rfl) ?_
      refine lv_ifnull hx hb dX7_smooth_16 ?_
      refine lv_aloadN hx hb dX7_smooth_19 (lv_at hl 0 rfl) ?_
      refine lv_ifnullN (tgt := 36) hx hb dX7_smooth_21 (by decide) ?_
      refine lv_iconst (v := z_i 0) hx hb dX7_smooth_36 rfl ?_
      exact W.zret (v := z_i 0) hx hb hr (by decide) (fun t ht hW => ⟨⟨z_i 0, (x_scratch, g_units, g_lengths, g_offsets, g_step), rfl, ⟨0, rfl, (show z_in 0 from ⟨by decide, by decide⟩), h_g_step, hv⟩, z_pt hP ht⟩, hS.F ht⟩) hS.2.2 dX7_smooth_37
  · have hv := hv.2 hc
    rw [hq1, if_neg hc, z_rf_n]
    refine lv_astoreN (lv' := [(4, .null), (0, .ref x), (1, .int (z_i gi)), (2, .int (z_i to)), (3, .int (z_i weight))]) hx hb dX7_smooth_5 hl (by decide) rfl (fun ls hl => ?_)
    refine lv_aload_n hx hb dX7_smooth_7 rfl (lv_at hl 1 rfl) ?_
    refine lv_iload_n hx hb dX7_smooth_8 rfl (lv_at hl 3 rfl) ?_
    refine va_callq (va_runV (As := [.int (z_i to)]) (rest := []) ⟨hx, hb, hml, hown, hts⟩ (mt_X7_gridOf l D cA x xa_grids x_grids x_levelMm x_levelCount x_water xa_scratch x_lines to h_x_levelCount h_to) (cwV 1 hts gX7_smooth_X7_gridOf rfl rfl rfl (by decide +kernel) ⟨Nat.le_of_ble_eq_true rfl, Nat.le_of_ble_eq_true rfl⟩) ⟨z_bl0, va_recv hK hP (ci := 5) (q0 := 0) rfl rfl, fun U hU hW => ⟨rfl, z_b0 hK (hP.sub (ws' := [(x, .inr (5, [.ref xa_grids, .ref x_levelMm, .int (z_i x_levelCount), .ref x_water, .ref xa_scratch, .ref x_lines])), (xa_grids, .inl (cA 4, 4, .inr (.inr (.inr (.inr x_grids)))))]) [0, 1] rfl) hU hW⟩⟩ rfl rfl hl.1 rfl (lv_room (Nat.le_of_ble_eq_true rfl)) dX7_smooth_9 ⟨Nat.zero_le _, Nat.zero_le _⟩) hS (fun q _ h => h.elim) (fun q h => h.elim) (fun r0 u t H locs ht hvm hw hB hz1 hk1 hS => ?_)
    have hq21 := hw
    have hP := z_P_all hP hk1
    by_cases hc : 0 ≤ to ∧ to < 4
    · have hv := hv.1 hc
      rw [hq21, if_pos hc, hg_to hc, z_rf_s]
      refine lv_astore (lv' := [(5, .ref g), (4, .null), (0, .ref x), (1, .int (z_i gi)), (2, .int (z_i to)), (3, .int (z_i weight))]) hx hb dX7_smooth_12 hl (by decide) rfl (fun ls hl => ?_)
      refine lv_aloadN hx hb dX7_smooth_14 (lv_at hl 1 rfl) ?_
      refine lv_ifnullN (tgt := 36) hx hb dX7_smooth_16 (by decide) ?_
      refine lv_iconst (v := z_i 0) hx hb dX7_smooth_36 rfl ?_
      exact W.zret (v := z_i 0) hx hb hr (by decide) (fun t ht hW => ⟨⟨z_i 0, (x_scratch, g_units, g_lengths, g_offsets, g_step), rfl, ⟨0, rfl, (show z_in 0 from ⟨by decide, by decide⟩), h_g_step, hv⟩, z_pt hP ht⟩, hS.F ht⟩) hS.2.2 dX7_smooth_37
    · have hv := hv.2 hc
      rw [hq21, if_neg hc, z_rf_n]
      refine lv_astoreN (lv' := [(5, .null), (4, .null), (0, .ref x), (1, .int (z_i gi)), (2, .int (z_i to)), (3, .int (z_i weight))]) hx hb dX7_smooth_12 hl (by decide) rfl (fun ls hl => ?_)
      refine lv_aloadN hx hb dX7_smooth_14 (lv_at hl 1 rfl) ?_
      refine lv_ifnullN (tgt := 36) hx hb dX7_smooth_16 (by decide) ?_
      refine lv_iconst (v := z_i 0) hx hb dX7_smooth_36 rfl ?_
      exact W.zret (v := z_i 0) hx hb hr (by decide) (fun t ht hW => ⟨⟨z_i 0, (x_scratch, g_units, g_lengths, g_offsets, g_step), rfl, ⟨0, rfl, (show z_in 0 from ⟨by decide, by decide⟩), h_g_step, hv⟩, z_pt hP ht⟩, hS.F ht⟩) hS.2.2 dX7_smooth_37
set_option maxHeartbeats 4000000 in
set_option maxRecDepth 100000 in
theorem mt_X7_smooth_s (l : Launch) (D : va_G) (cA : Nat → ClassId) (t1 t2 : Nat) (x : Nat) (xa_grids : Nat) (x_grids : Nat → Option Nat) (x_levelMm : Nat) (x_levelCount : Int) (x_water : Nat) (xa_scratch : Nat) (x_scratch : Nat → Int32) (x_lines : Nat) (gi : Int) (to : Int) (weight : Int) (g : Nat) (ga_units : Nat) (g_units : Nat → Int32) (ga_lengths : Nat) (g_lengths : Nat → Int32) (ga_offsets : Nat) (g_offsets : Nat → Int32) (g_step : Int) (h_x_levelCount : z_in x_levelCount) (h_gi : z_in gi) (h_to : z_in to) (h_weight : z_in weight) (h_g_step : z_in g_step) (hg_gi : 0 ≤ gi ∧ gi < 4 → x_grids gi.toNat = some g) (hg_to : 0 ≤ to ∧ to < 4 → x_grids to.toNat = some g) (hp1 : g_ok g_units) : Met l yX7_smooth wsX7_smooth ({ frames := 4, cells := 0, slots := 0, locals := 93 } : Room) (va_Pc [.ref x, .int (z_i gi), .int (z_i to), .int (z_i weight)] (z_M1 D cA t1 t2 [(x, .inr (5, [.ref xa_grids, .ref x_levelMm, .int (z_i x_levelCount), .ref x_water, .ref xa_scratch, .ref x_lines])), (xa_grids, .inl (cA 4, 4, .inr (.inr (.inr (.inr x_grids))))), (xa_scratch, .inl (cA 1, 1280, .inl x_scratch)), (g, .inr (1, [.ref ga_units, .ref ga_lengths, .ref ga_offsets, .int (z_i g_step)])), (ga_units, .inl (cA 1, 1280, .inl g_units)), (ga_lengths, .inl (cA 1, 32, .inl g_lengths)), (ga_offsets, .inl (cA 1, 32, .inl g_offsets))])) (va_Qi (z_mi (fun v (u : (Nat → Int32) × (Nat → Int32) × (Nat → Int32) × (Nat → Int32) × Int) => z_in u.2.2.2.2 ∧ (fun (r : Int) (x_scratch' : (Nat → Int32)) (g_units' : (Nat → Int32)) (g_lengths' : (Nat → Int32)) (g_offsets' : (Nat → Int32)) (g_step' : Int) => r = z_b (decide ((0 ≤ gi ∧ gi < 4) ∧ (0 ≤ to ∧ to < 4) ∧ 1 ≤ weight ∧ weight ≤ 1000)) ∧ ((0 ≤ gi ∧ gi < 4) ∧ (0 ≤ to ∧ to < 4) ∧ 1 ≤ weight ∧ weight ≤ 1000 → (∀ n : Int, 0 ≤ n → n < 1280 → z_g g_units' n = f_sm g_units weight n) ∧ g_lengths' = g_lengths ∧ g_offsets' = g_offsets ∧ g_step' = g_step) ∧ (¬ ((0 ≤ gi ∧ gi < 4) ∧ (0 ≤ to ∧ to < 4) ∧ 1 ≤ weight ∧ weight ≤ 1000) → g_units' = g_units ∧ g_lengths' = g_lengths ∧ g_offsets' = g_offsets ∧ g_step' = g_step)) v u.1 u.2.1 u.2.2.1 u.2.2.2.1 u.2.2.2.2)) (fun (u : (Nat → Int32) × (Nat → Int32) × (Nat → Int32) × (Nat → Int32) × Int) t => va_P D vwCl [(x, .inr (5, [.ref xa_grids, .ref x_levelMm, .int (z_i x_levelCount), .ref x_water, .ref xa_scratch, .ref x_lines])), (xa_grids, .inl (cA 4, 4, .inr (.inr (.inr (.inr x_grids))))), (xa_scratch, .inl (cA 1, 1280, .inl u.1)), (g, .inr (1, [.ref ga_units, .ref ga_lengths, .ref ga_offsets, .int (z_i u.2.2.2.2)])), (ga_units, .inl (cA 1, 1280, .inl u.2.1)), (ga_lengths, .inl (cA 1, 32, .inl u.2.2.1)), (ga_offsets, .inl (cA 1, 32, .inl u.2.2.2.1))] t.heap) (z_A [(x, .inr (5, [.ref xa_grids, .ref x_levelMm, .int (z_i x_levelCount), .ref x_water, .ref xa_scratch, .ref x_lines])), (xa_grids, .inl (cA 4, 4, .inr (.inr (.inr (.inr x_grids))))), (xa_scratch, .inl (cA 1, 1280, .inl x_scratch)), (g, .inr (1, [.ref ga_units, .ref ga_lengths, .ref ga_offsets, .int (z_i g_step)])), (ga_units, .inl (cA 1, 1280, .inl g_units)), (ga_lengths, .inl (cA 1, 32, .inl g_lengths)), (ga_offsets, .inl (cA 1, 32, .inl g_offsets))])) 0 0 (z_A [(x, .inr (5, [.ref xa_grids, .ref x_levelMm, .int (z_i x_levelCount), .ref x_water, .ref xa_scratch, .ref x_lines])), (xa_grids, .inl (cA 4, 4, .inr (.inr (.inr (.inr x_grids))))), (xa_scratch, .inl (cA 1, 1280, .inl x_scratch)), (g, .inr (1, [.ref ga_units, .ref ga_lengths, .ref ga_offsets, .int (z_i g_step)])), (ga_units, .inl (cA 1, 1280, .inl g_units)), (ga_lengths, .inl (cA 1, 32, .inl g_lengths)), (ga_offsets, .inl (cA 1, 32, .inl g_offsets))]) := by
  refine wk_X7_smooth_s l D cA t1 t2 x xa_grids x_grids x_levelMm x_levelCount x_water xa_scratch x_scratch x_lines gi to weight g ga_units g_units ga_lengths g_lengths ga_offsets g_offsets g_step h_x_levelCount h_gi h_to h_weight h_g_step hg_gi hg_to (fun (r : Int) (x_scratch' : (Nat → Int32)) (g_units' : (Nat → Int32)) (g_lengths' : (Nat → Int32)) (g_offsets' : (Nat → Int32)) (g_step' : Int) => r = z_b (decide ((0 ≤ gi ∧ gi < 4) ∧ (0 ≤ to ∧ to < 4) ∧ 1 ≤ weight ∧ weight ≤ 1000)) ∧ ((0 ≤ gi ∧ gi < 4) ∧ (0 ≤ to ∧ to < 4) ∧ 1 ≤ weight ∧ weight ≤ 1000 → (∀ n : Int, 0 ≤ n → n < 1280 → z_g g_units' n = f_sm g_units weight n) ∧ g_lengths' = g_lengths ∧ g_offsets' = g_offsets ∧ g_step' = g_step) ∧ (¬ ((0 ≤ gi ∧ gi < 4) ∧ (0 ≤ to ∧ to < 4) ∧ 1 ≤ weight ∧ weight ≤ 1000) → g_units' = g_units ∧ g_lengths' = g_lengths ∧ g_offsets' = g_offsets ∧ g_step' = g_step)) ?_
  unfold vc_X7_smooth_s
  have no : ¬ ((0 ≤ gi ∧ gi < 4) ∧ (0 ≤ to ∧ to < 4) ∧ 1 ≤ weight ∧ weight ≤ 1000) → (0 : Int) = z_b (decide ((0 ≤ gi ∧ gi < 4) ∧ (0 ≤ to ∧ to < 4) ∧ 1 ≤ weight ∧ weight ≤ 1000)) ∧ ((0 ≤ gi ∧ gi < 4) ∧ (0 ≤ to ∧ to < 4) ∧ 1 ≤ weight ∧ weight ≤ 1000 → (∀ n : Int, 0 ≤ n → n < 1280 → z_g g_units n = f_sm g_units weight n) ∧ g_lengths = g_lengths ∧ g_offsets = g_offsets ∧ g_step = g_step) ∧ (¬ ((0 ≤ gi ∧ gi < 4) ∧ (0 ≤ to ∧ to < 4) ∧ 1 ≤ weight ∧ weight ≤ 1000) → g_units = g_units ∧ g_lengths = g_lengths ∧ g_offsets = g_offsets ∧ g_step = g_step) := fun h => ⟨by rw [decide_eq_false h]; rfl, fun h2 => absurd h2 h, fun _ => ⟨rfl, rfl, rfl, rfl⟩⟩
  refine ⟨fun q => ⟨fun q1 => ⟨fun q2 => no (fun h => by have := h.2.2.1; omega), fun q2 => ⟨fun q3 => ?_, fun q3 => no (fun h => by have := h.2.2.2; omega)⟩⟩, fun q1 => no (fun h => q1 h.2.1)⟩, fun q => ⟨fun _ => no (fun h => q h.1), fun _ => no (fun h => q h.1)⟩⟩
  intro L1 hL1
  suffices H : ∀ (d k : Nat) (y : Nat → Int32), k + d = 1280 → (∀ n : Int, 0 ≤ n → n < k → z_g y n = f_sm g_units weight n) → L1 k y from H 1280 0 _ rfl (fun n a b => absurd b (by omega))
  intro d
  induction d with
  | zero =>
    intro k y hk hy
    obtain rfl : k = 1280 := by omega
    refine hL1 _ _ ⟨by omega, by omega⟩ ⟨fun _ => ?_, fun h => absurd h (by decide)⟩
    rintro c3 c4 c5 _ ⟨rfl, rfl, rfl⟩
    intro L2 hL2
    suffices H : ∀ (d k : Nat) (z : Nat → Int32), k + d = 1280 → (∀ n : Int, 0 ≤ n → n < k → z_g z n = f_sm g_units weight n) → L2 k z from H 1280 0 _ rfl (fun n a b => absurd b (by omega))
    intro d
    induction d with
    | zero =>
      intro k z hk hz
      obtain rfl : k = 1280 := by omega
      refine hL2 _ _ ⟨by omega, by omega⟩ ⟨fun _ => ?_, fun h => absurd h (by decide)⟩
      exact ⟨by rw [decide_eq_true ⟨q, q1, q2, q3⟩]; rfl, fun _ => ⟨fun n a b => hz n a (by omega), rfl, rfl, rfl⟩, fun h => absurd ⟨q, q1, q2, q3⟩ h⟩
    | succ d ih =>
      intro k z hk hz
      refine hL2 _ _ ⟨by omega, by omega⟩ ⟨fun h => absurd h (by omega), fun _ => ⟨⟨by omega, by omega⟩, ⟨by omega, by omega⟩, ?_⟩⟩
      rintro c8 rfl
      refine ih (k + 1) _ (by omega) ?_
      intro n a b
      rw [z_gs (z_in_g _ _) (by omega) a]
      by_cases e9 : n = k
      · rw [if_pos e9, ← e9]; exact hy n a (by omega)
      · rw [if_neg e9]; exact hz n a (by omega)
  | succ d ih =>
    intro k y hk hy
    refine hL1 _ _ ⟨by omega, by omega⟩ ⟨fun h => absurd h (by omega), fun _ => ?_⟩
    have step : ∀ v : Int, z_in v → v = f_sm g_units weight k → L1 ((k : Int) + 1) (z_s y k v) := by
      intro v zv hv
      refine ih (k + 1) _ (by omega) ?_
      intro n a b
      rw [z_gs zv (by omega) a]
      by_cases e9 : n = k
      · rw [if_pos e9, e9]; exact hv
      · rw [if_neg e9]; exact hy n a (by omega)
    rintro r9 _ rfl
    refine ⟨fun q4 => ⟨⟨by omega, by omega⟩, ?_⟩, fun q4 => ⟨⟨by omega, by omega⟩, hp1, zb_t q4, ⟨q2, q3⟩, ?_⟩⟩
    · rintro f11 rfl
      refine step _ ⟨by omega, by omega⟩ ?_
      unfold f_sm; rw [zb_f q4]; rfl
    · rintro r17 z17 h17
      refine ⟨⟨by omega, by omega⟩, ?_⟩
      rintro f19 rfl
      refine step _ z17 ?_
      unfold f_sm; rw [if_pos (zb_t q4)]; exact h17
def vc_X7_smooth_d (x_scratch : Nat → Int32) (gi : Int) (to : Int) (weight : Int) (g_units : Nat → Int32) (g_lengths : Nat → Int32) (g_offsets : Nat → Int32) (g_step : Int) (h_units : Nat → Int32) (h_lengths : Nat → Int32) (h_offsets : Nat → Int32) (h_step : Int) (Q : Int → (Nat → Int32) → (Nat → Int32) → (Nat → Int32) → (Nat → Int32) → Int → Prop) : Prop :=
((0 ≤ gi ∧ gi < 4 → ((0 ≤ to ∧ to < 4 → ((weight < 1 → Q 0 x_scratch h_units h_lengths h_offsets h_step) ∧
(weight ≥ 1 → ((weight ≤ 1000 → (∀ L41 : Int → (Nat → Int32) → Prop,
(∀ (x41_6 : Int) (y41_xa_scratch : Nat → Int32), z_in x41_6 → ((x41_6 ≥ 1280 → (∀ (c3 : Nat → Int32) (c4 : Nat → Int32) (c5 : Int), z_in c5 → (c3 = g_lengths ∧ c4 = g_offsets ∧ c5 = g_step) → (∀ L95 : Int → (Nat → Int32) → Prop,
(∀ (x95_6 : Int) (y95_ha_units : Nat → Int32), z_in x95_6 → ((x95_6 ≥ 1280 → Q 1 y41_xa_scratch y95_ha_units c3 c4 c5) ∧
(x95_6 < 1280 → (0 ≤ x95_6 ∧ x95_6 < 1280) ∧ (0 ≤ x95_6 ∧ x95_6 < 1280) ∧ (∀ (c8 : Nat → Int32), (c8 = z_s y95_ha_units x95_6 (z_g y41_xa_scratch x95_6)) → L95 (x95_6 + 1) c8))) → L95 x95_6 y95_ha_units) →
L95 0 h_units))) ∧
(x41_6 < 1280 → (∀ (r9 : Int), z_in r9 → (r9 = z_b (g_th g_units x41_6)) → ((r9 = 0 → (0 ≤ x41_6 ∧ x41_6 < 1280) ∧ (∀ f11 : Nat → Int32, f11 = z_s y41_xa_scratch x41_6 (-2147483648) → L41 (x41_6 + 1) f11)) ∧
(r9 ≠ 0 → (0 ≤ x41_6 ∧ x41_6 < 1280) ∧ (g_ok g_units) ∧ (g_th g_units x41_6 = true) ∧ (1 ≤ weight ∧ weight ≤ 1000) ∧ (∀ (r17 : Int), z_in r17 → (r17 = m_sm (g_th g_units) (g_at g_units) x41_6 weight) → (0 ≤ x41_6 ∧ x41_6 < 1280) ∧ (∀ f19 : Nat → Int32, f19 = z_s y41_xa_scratch x41_6 r17 → L41 (x41_6 + 1) f19))))))) → L41 x41_6 y41_xa_scratch) →
L41 0 x_scratch)) ∧
(weight > 1000 → Q 0 x_scratch h_units h_lengths h_offsets h_step))))) ∧
(¬ (0 ≤ to ∧ to < 4) → Q 0 x_scratch h_units h_lengths h_offsets h_step))) ∧
(¬ (0 ≤ gi ∧ gi < 4) → ((0 ≤ to ∧ to < 4 → Q 0 x_scratch h_units h_lengths h_offsets h_step) ∧
(¬ (0 ≤ to ∧ to < 4) → Q 0 x_scratch h_units h_lengths h_offsets h_step))))
set_option maxHeartbeats 4000000 in
set_option maxRecDepth 100000 in
theorem wk_X7_smooth_d (l : Launch) (D : va_G) (cA : Nat → ClassId) (t1 t2 : Nat) (x : Nat) (xa_grids : Nat) (x_grids : Nat → Option Nat) (x_levelMm : Nat) (x_levelCount : Int) (x_water : Nat) (xa_scratch : Nat) (x_scratch : Nat → Int32) (x_lines : Nat) (gi : Int) (to : Int) (weight : Int) (g : Nat) (ga_units : Nat) (g_units : Nat → Int32) (ga_lengths : Nat) (g_lengths : Nat → Int32) (ga_offsets : Nat) (g_offsets : Nat → Int32) (g_step : Int) (h : Nat) (ha_units : Nat) (h_units : Nat → Int32) (ha_lengths : Nat) (h_lengths : Nat → Int32) (ha_offsets : Nat) (h_offsets : Nat → Int32) (h_step : Int) (h_x_levelCount : z_in x_levelCount) (h_gi : z_in gi) (h_to : z_in to) (h_weight : z_in weight) (h_g_step : z_in g_step) (h_h_step : z_in h_step) (hg_gi : 0 ≤ gi ∧ gi < 4 → x_grids gi.toNat = some g) (hg_to : 0 ≤ to ∧ to < 4 → x_grids to.toNat = some h) (Q : Int → (Nat → Int32) → (Nat → Int32) → (Nat → Int32) → (Nat → Int32) → Int → Prop) (hv : vc_X7_smooth_d x_scratch gi to weight g_units g_lengths g_offsets g_step h_units h_lengths h_offsets h_step Q) : Met l yX7_smooth wsX7_smooth ({ frames := 4, cells := 0, slots := 0, locals := 93 } : Room) (va_Pc [.ref x, .int (z_i gi), .int (z_i to), .int (z_i weight)] (z_M1 D cA t1 t2 [(x, .inr (5, [.ref xa_grids, .ref x_levelMm, .int (z_i x_levelCount), .ref x_water, .ref xa_scratch, .ref x_lines])), (xa_grids, .inl (cA 4, 4, .inr (.inr (.inr (.inr x_grids))))), (xa_scratch, .inl (cA 1, 1280, .inl x_scratch)), (g, .inr (1, [.ref ga_units, .ref ga_lengths, .ref ga_offsets, .int (z_i g_step)])), (ga_units, .inl (cA 1, 1280, .inl g_units)), (ga_lengths, .inl (cA 1, 32, .inl g_lengths)), (ga_offsets, .inl (cA 1, 32, .inl g_offsets)), (h, .inr (1, [.ref ha_units, .ref ha_lengths, .ref ha_offsets, .int (z_i h_step)])), (ha_units, .inl (cA 1, 1280, .inl h_units)), (ha_lengths, .inl (cA 1, 32, .inl h_lengths)), (ha_offsets, .inl (cA 1, 32, .inl h_offsets))])) (va_Qi (z_mi (fun v (u : (Nat → Int32) × (Nat → Int32) × (Nat → Int32) × (Nat → Int32) × Int) => z_in u.2.2.2.2 ∧ Q v u.1 u.2.1 u.2.2.1 u.2.2.2.1 u.2.2.2.2)) (fun (u : (Nat → Int32) × (Nat → Int32) × (Nat → Int32) × (Nat → Int32) × Int) t => va_P D vwCl [(x, .inr (5, [.ref xa_grids, .ref x_levelMm, .int (z_i x_levelCount), .ref x_water, .ref xa_scratch, .ref x_lines])), (xa_grids, .inl (cA 4, 4, .inr (.inr (.inr (.inr x_grids))))), (xa_scratch, .inl (cA 1, 1280, .inl u.1)), (g, .inr (1, [.ref ga_units, .ref ga_lengths, .ref ga_offsets, .int (z_i g_step)])), (ga_units, .inl (cA 1, 1280, .inl g_units)), (ga_lengths, .inl (cA 1, 32, .inl g_lengths)), (ga_offsets, .inl (cA 1, 32, .inl g_offsets)), (h, .inr (1, [.ref ha_units, .ref ha_lengths, .ref ha_offsets, .int (z_i u.2.2.2.2)])), (ha_units, .inl (cA 1, 1280, .inl u.2.1)), (ha_lengths, .inl (cA 1, 32, .inl u.2.2.1)), (ha_offsets, .inl (cA 1, 32, .inl u.2.2.2.1))] t.heap) (z_A [(x, .inr (5, [.ref xa_grids, .ref x_levelMm, .int (z_i x_levelCount), .ref x_water, .ref xa_scratch, .ref x_lines])), (xa_grids, .inl (cA 4, 4, .inr (.inr (.inr (.inr x_grids))))), (xa_scratch, .inl (cA 1, 1280, .inl x_scratch)), (g, .inr (1, [.ref ga_units, .ref ga_lengths, .ref ga_offsets, .int (z_i g_step)])), (ga_units, .inl (cA 1, 1280, .inl g_units)), (ga_lengths, .inl (cA 1, 32, .inl g_lengths)), (ga_offsets, .inl (cA 1, 32, .inl g_offsets)), (h, .inr (1, [.ref ha_units, .ref ha_lengths, .ref ha_offsets, .int (z_i h_step)])), (ha_units, .inl (cA 1, 1280, .inl h_units)), (ha_lengths, .inl (cA 1, 32, .inl h_lengths)), (ha_offsets, .inl (cA 1, 32, .inl h_offsets))])) 0 0 (z_A [(x, .inr (5, [.ref xa_grids, .ref x_levelMm, .int (z_i x_levelCount), .ref x_water, .ref xa_scratch, .ref x_lines])), (xa_grids, .inl (cA 4, 4, .inr (.inr (.inr (.inr x_grids))))), (xa_scratch, .inl (cA 1, 1280, .inl x_scratch)), (g, .inr (1, [.ref ga_units, .ref ga_lengths, .ref ga_offsets, .int (z_i g_step)])), (ga_units, .inl (cA 1, 1280, .inl g_units)), (ga_lengths, .inl (cA 1, 32, .inl g_lengths)), (ga_offsets, .inl (cA 1, 32, .inl g_offsets)), (h, .inr (1, [.ref ha_units, .ref ha_lengths, .ref ha_offsets, .int (z_i h_step)])), (ha_units, .inl (cA 1, 1280, .inl h_units)), (ha_lengths, .inl (cA 1, 32, .inl h_lengths)), (ha_offsets, .inl (cA 1, 32, .inl h_offsets))]) := by
  unfold vc_X7_smooth_d at hv
  refine Met.ofW (cc := cX7_smooth) (maxL := 7) (ret := (some .boolean)) (by decide +kernel) rfl ?_
  intro p e s m args below meth c s₁ B hml hv0
  obtain ⟨rfl, ⟨hK, hP, hD0⟩, hST⟩ := hv0
  have hx := B.exec
  have hb := B.bytes
  have hr := B.returns
  have hts := atoms_spec (ws := wsX7_smooth) B.pre
  have hown : s.vm.findClass RX7 = some m.cls := findClass_of_methodNamed B.named
  have hlocks := B.notSynchronized
  have hD := z_D_self hD0
  generalize hAe : z_A [(x, .inr (5, [.ref xa_grids, .ref x_levelMm, .int (z_i x_levelCount), .ref x_water, .ref xa_scratch, .ref x_lines])), (xa_grids, .inl (cA 4, 4, .inr (.inr (.inr (.inr x_grids))))), (xa_scratch, .inl (cA 1, 1280, .inl x_scratch)), (g, .inr (1, [.ref ga_units, .ref ga_lengths, .ref ga_offsets, .int (z_i g_step)])), (ga_units, .inl (cA 1, 1280, .inl g_units)), (ga_lengths, .inl (cA 1, 32, .inl g_lengths)), (ga_offsets, .inl (cA 1, 32, .inl g_offsets)), (h, .inr (1, [.ref ha_units, .ref ha_lengths, .ref ha_offsets, .int (z_i h_step)])), (ha_units, .inl (cA 1, 1280, .inl h_units)), (ha_lengths, .inl (cA 1, 32, .inl h_lengths)), (ha_offsets, .inl (cA 1, 32, .inl h_offsets))] = A at *
  have hS : va_S A s.heap s.heap [] := va_S.rf
  have hl := lv_entry ([.ref x, .int (z_i gi), .int (z_i to), .int (z_i weight)]) (n := 7) (Nat.le_of_ble_eq_true rfl)
  rw [lg_entry_eq]
  generalize (lg_sl ([.ref x, .int (z_i gi), .int (z_i to), .int (z_i weight)]) ++ List.replicate (7 - (lg_sl ([.ref x, .int (z_i gi), .int (z_i to), .int (z_i weight)])).length) Slot.unset).toArray = ls at hl ⊢
  have hl : lv_has ls 7 [(0, .ref x), (1, .int (z_i gi)), (2, .int (z_i to)), (3, .int (z_i weight))] := hl
  refine lv_aload_n hx hb dX7_smooth_0 rfl (lv_at hl 0 rfl) ?_
  refine lv_iload_n hx hb dX7_smooth_1 rfl (lv_at hl 1 rfl) ?_
  refine va_callq (va_runV (As := [.int (z_i gi)]) (rest := []) ⟨hx, hb, hml, hown, hts⟩ (mt_X7_gridOf l D cA x xa_grids x_grids x_levelMm x_levelCount x_water xa_scratch x_lines gi h_x_levelCount h_gi) (cwV 1 hts gX7_smooth_X7_gridOf rfl rfl rfl (by decide +kernel) ⟨Nat.le_of_ble_eq_true rfl, Nat.le_of_ble_eq_true rfl⟩) ⟨z_bl0, va_recv hK hP (ci := 5) (q0 := 0) rfl rfl, fun U hU hW => ⟨rfl, z_b0 hK (hP.sub (ws' := [(x, .inr (5, [.ref xa_grids, .ref x_levelMm, .int (z_i x_levelCount), .ref x_water, .ref xa_scratch, .ref x_lines])), (xa_grids, .inl (cA 4, 4, .inr (.inr (.inr (.inr x_grids)))))]) [0, 1] rfl) hU hW⟩⟩ rfl rfl hl.1 rfl (lv_room (Nat.le_of_ble_eq_true rfl)) dX7_smooth_2 ⟨Nat.zero_le _, Nat.zero_le _⟩) hS (fun q _ h => h.elim) (fun q h => h.elim) (fun r0 u t H locs ht hvm hw hB hz1 hk1 hS => ?_)
  have hq1 := hw
  have hP := z_P_all hP hk1
  by_cases hc : 0 ≤ gi ∧ gi < 4
  · have hv := hv.1 hc
    rw [hq1, if_pos hc, hg_gi hc, z_rf_s]
    refine lv_astore (lv' := [(4, .ref g), (0, .ref x), (1, .int (z_i gi)), (2, .int (z_i to)), (3, .int (z_i weight))]) hx hb dX7_smooth_5 hl (by decide) rfl (fun ls hl => ?_)
    refine lv_aload_n hx hb dX7_smooth_7 rfl (lv_at hl 1 rfl) ?_
    refine lv_iload_n hx hb dX7_smooth_8 rfl (lv_at hl 3 rfl) ?_
    refine va_callq (va_runV (As := [.int (z_i to)]) (rest := []) ⟨hx, hb, hml, hown, hts⟩ (mt_X7_gridOf l D cA x xa_grids x_grids x_levelMm x_levelCount x_water xa_scratch x_lines to h_x_levelCount h_to) (cwV 1 hts gX7_smooth_X7_gridOf rfl rfl rfl (by decide +kernel) ⟨Nat.le_of_ble_eq_true rfl, Nat.le_of_ble_eq_true rfl⟩) ⟨z_bl0, va_recv hK hP (ci := 5) (q0 := 0) rfl rfl, fun U hU hW => ⟨rfl, z_b0 hK (hP.sub (ws' := [(x, .inr (5, [.ref xa_grids, .ref x_levelMm, .int (z_i x_levelCount), .ref x_water, .ref xa_scratch, .ref x_lines])), (xa_grids, .inl (cA 4, 4, .inr (.inr (.inr (.inr x_grids)))))]) [0, 1] rfl) hU hW⟩⟩ rfl rfl hl.1 rfl (lv_room (Nat.le_of_ble_eq_true rfl)) dX7_smooth_9 ⟨Nat.zero_le _, Nat.zero_le _⟩) hS (fun q _ h => h.elim) (fun q h => h.elim) (fun r0 u t H locs ht hvm hw hB hz1 hk1 hS => ?_)
    have hq2 := hw
    have hP := z_P_all hP hk1
    by_cases hc : 0 ≤ to ∧ to < 4
    · have hv := hv.1 hc
      rw [hq2, if_pos hc, hg_to hc, z_rf_s]
      refine lv_astore (lv' := [(5, .ref h), (4, .ref g), (0, .ref x), (1, .int (z_i gi)), (2, .int (z_i to)), (3, .int (z_i weight))]) hx hb dX7_smooth_12 hl (by decide) rfl (fun ls hl => ?_)
      refine lv_aload hx hb dX7_smooth_14 (lv_at hl 1 rfl) ?_
      refine lv_ifnull hx hb dX7_smooth_16 ?_
      refine lv_aload hx hb dX7_smooth_19 (lv_at hl 0 rfl) ?_
      refine lv_ifnull hx hb dX7_smooth_21 ?_
      refine lv_iload_n hx hb dX7_smooth_24 rfl (lv_at hl 5 rfl) ?_
      refine lv_iconst (v := z_i 1) hx hb dX7_smooth_25 rfl ?_
      refine lx_icmp_lt (tgt := 36) hx hb dX7_smooth_26 (by decide) h_weight (show z_in 1 from ⟨by decide, by decide⟩) (fun hc => ?_) (fun hc => ?_)
      · have hv := hv.1 hc
        refine lv_iconst (v := z_i 0) hx hb dX7_smooth_36 rfl ?_
        exact W.zret (v := z_i 0) hx hb hr (by decide) (fun t ht hW => ⟨⟨z_i 0, (x_scratch, h_units, h_lengths, h_offsets, h_step), rfl, ⟨0, rfl, (show z_in 0 from ⟨by decide, by decide⟩), h_h_step, hv⟩, z_pt hP ht⟩, hS.F ht⟩) hS.2.2 dX7_smooth_37
      · have hv := hv.2 hc
        refine lv_iload_n hx hb dX7_smooth_29 rfl (lv_at hl 5 rfl) ?_
        refine lv_sipush (v := z_i 1000) hx hb dX7_smooth_30 (by decide) ?_
        refine lx_icmp_le (tgt := 38) hx hb dX7_smooth_33 (by decide) h_weight (show z_in 1000 from ⟨by decide, by decide⟩) (fun hc => ?_) (fun hc => ?_)
        · have hv := hv.1 hc
          refine lv_iconst (v := z_i 0) hx hb dX7_smooth_38 rfl ?_
          refine lv_istore (lv' := [(6, .int (z_i 0)), (5, .ref h), (4, .ref g), (0, .ref x), (1, .int (z_i gi)), (2, .int (z_i to)), (3, .int (z_i weight))]) hx hb dX7_smooth_39 hl (by decide) rfl (fun ls hl => ?_)
          refine hv (fun (x41_6 : Int) (y41_xa_scratch : Nat → Int32) => ∀ (H : Heap) (locs : List Loc) (ls : Array Slot), va_P D vwCl [(x, .inr (5, [.ref xa_grids, .ref x_levelMm, .int (z_i x_levelCount), .ref x_water, .ref xa_scratch, .ref x_lines])), (xa_grids, .inl (cA 4, 4, .inr (.inr (.inr (.inr x_grids))))), (xa_scratch, .inl (cA 1, 1280, .inl y41_xa_scratch)), (g, .inr (1, [.ref ga_units, .ref ga_lengths, .ref ga_offsets, .int (z_i g_step)])), (ga_units, .inl (cA 1, 1280, .inl g_units)), (ga_lengths, .inl (cA 1, 32, .inl g_lengths)), (ga_offsets, .inl (cA 1, 32, .inl g_offsets)), (h, .inr (1, [.ref ha_units, .ref ha_lengths, .ref ha_offsets, .int (z_i h_step)])), (ha_units, .inl (cA 1, 1280, .inl h_units)), (ha_lengths, .inl (cA 1, 32, .inl h_lengths)), (ha_offsets, .inl (cA 1, 32, .inl h_offsets))] H → va_D A [(x, .inr (5, [.ref xa_grids, .ref x_levelMm, .int (z_i x_levelCount), .ref x_water, .ref xa_scratch, .ref x_lines])), (xa_grids, .inl (cA 4, 4, .inr (.inr (.inr (.inr x_grids))))), (xa_scratch, .inl (cA 1, 1280, .inl y41_xa_scratch)), (g, .inr (1, [.ref ga_units, .ref ga_lengths, .ref ga_offsets, .int (z_i g_step)])), (ga_units, .inl (cA 1, 1280, .inl g_units)), (ga_lengths, .inl (cA 1, 32, .inl g_lengths)), (ga_offsets, .inl (cA 1, 32, .inl g_offsets)), (h, .inr (1, [.ref ha_units, .ref ha_lengths, .ref ha_offsets, .int (z_i h_step)])), (ha_units, .inl (cA 1, 1280, .inl h_units)), (ha_lengths, .inl (cA 1, 32, .inl h_lengths)), (ha_offsets, .inl (cA 1, 32, .inl h_offsets))] → va_S A s.heap H locs → lv_has ls 7 [(6, .int (z_i x41_6)), (5, .ref h), (4, .ref g), (0, .ref x), (3, .int (z_i weight))] → W p l e _ s m _ below meth c H locs 0 0 _ (F0 m 41 ls [])) ?_ _ _ ls hP hD hS (lv_sub hl [0, 1, 2, 3, 6] rfl)
          intro x41_6 y41_xa_scratch h_x41_6 hv H locs ls hP hD hS hl
          refine lv_iload hx hb dX7_smooth_41 (lv_at hl 0 rfl) ?_
          refine lv_sipush (v := z_i 1280) hx hb dX7_smooth_43 (by decide) ?_
          refine lx_icmp_ge (tgt := 85) hx hb dX7_smooth_46 (by decide) h_x41_6 (show z_in 1280 from ⟨by decide, by decide⟩) (fun hc => ?_) (fun hc => ?_)
          · have hv := hv.1 hc
            refine lv_aload hx hb dX7_smooth_85 (lv_at hl 1 rfl) ?_
            refine lv_aload hx hb dX7_smooth_87 (lv_at hl 2 rfl) ?_
            have hFc := z_fr (A := A) (wc := [(h, .inr (1, [.ref ha_units, .ref ha_lengths, .ref ha_offsets, .int (z_i h_step)])), (ha_units, .inl (cA 1, 1280, .inl h_units)), (ha_lengths, .inl (cA 1, 32, .inl h_lengths)), (ha_offsets, .inl (cA 1, 32, .inl h_offsets)), (g, .inr (1, [.ref ga_units, .ref ga_lengths, .ref ga_offsets, .int (z_i g_step)])), (ga_units, .inl (cA 1, 1280, .inl g_units)), (ga_lengths, .inl (cA 1, 32, .inl g_lengths)), (ga_offsets, .inl (cA 1, 32, .inl g_offsets))]) hD [7, 8, 9, 10, 3, 4, 5, 6] rfl
            refine va_callv (va_runV (As := [.ref g]) (rest := []) ⟨hx, hb, hml, hown, hts⟩ (mt_X2_takeShape l D cA h ha_units h_units ha_lengths h_lengths ha_offsets h_offsets h_step g ga_units g_units ga_lengths g_lengths ga_offsets g_offsets g_step h_h_step h_g_step) (cwV 1 hts gX7_smooth_X2_takeShape rfl rfl rfl (by decide +kernel) ⟨Nat.le_of_ble_eq_true rfl, Nat.le_of_ble_eq_true rfl⟩) ⟨z_blm0, va_recv hK hP (ci := 1) (q0 := 7) rfl rfl, fun U hU hW => ⟨rfl, z_m0 hK (hP.sub (ws' := [(h, .inr (1, [.ref ha_units, .ref ha_lengths, .ref ha_offsets, .int (z_i h_step)])), (ha_units, .inl (cA 1, 1280, .inl h_units)), (ha_lengths, .inl (cA 1, 32, .inl h_lengths)), (ha_offsets, .inl (cA 1, 32, .inl h_offsets)), (g, .inr (1, [.ref ga_units, .ref ga_lengths, .ref ga_offsets, .int (z_i g_step)])), (ga_units, .inl (cA 1, 1280, .inl g_units)), (ga_lengths, .inl (cA 1, 32, .inl g_lengths)), (ga_offsets, .inl (cA 1, 32, .inl g_offsets))]) [7, 8, 9, 10, 3, 4, 5, 6] rfl) (hD.sub (ws' := [(h, .inr (1, [.ref ha_units, .ref ha_lengths, .ref ha_offsets, .int (z_i h_step)])), (ha_units, .inl (cA 1, 1280, .inl h_units)), (ha_lengths, .inl (cA 1, 32, .inl h_lengths)), (ha_offsets, .inl (cA 1, 32, .inl h_offsets)), (g, .inr (1, [.ref ga_units, .ref ga_lengths, .ref ga_offsets, .int (z_i g_step)])), (ga_units, .inl (cA 1, 1280, .inl g_units)), (ga_lengths, .inl (cA 1, 32, .inl g_lengths)), (ga_offsets, .inl (cA 1, 32, .inl g_offsets))]) [7, 8, 9, 10, 3, 4, 5, 6] (by decide) rfl) hU hW⟩⟩ rfl rfl hl.1 rfl (lv_room (Nat.le_of_ble_eq_true rfl)) dX7_smooth_89 ⟨Nat.zero_le _, Nat.zero_le _⟩) hS (fun q _ h => hFc q h) hFc (fun u t H locs ht hvm hw hB hz1 hk1 hS => ?_)
            obtain ⟨c3, c4, c5⟩ := u
            rw [ht] at hB
            have hP := z_join2 (wc := [(h, .inr (1, [.ref ha_units, .ref ha_lengths, .ref ha_offsets, .int (z_i h_step)])), (ha_units, .inl (cA 1, 1280, .inl h_units)), (ha_lengths, .inl (cA 1, 32, .inl h_lengths)), (ha_offsets, .inl (cA 1, 32, .inl h_offsets)), (g, .inr (1, [.ref ga_units, .ref ga_lengths, .ref ga_offsets, .int (z_i g_step)])), (ga_units, .inl (cA 1, 1280, .inl g_units)), (ga_lengths, .inl (cA 1, 32, .inl g_lengths)), (ga_offsets, .inl (cA 1, 32, .inl g_offsets))]) (w1 := [(h, .inr (1, [.ref ha_units, .ref ha_lengths, .ref ha_offsets, .int (z_i c5)])), (ha_units, .inl (cA 1, 1280, .inl h_units)), (ha_lengths, .inl (cA 1, 32, .inl c3)), (ha_offsets, .inl (cA 1, 32, .inl c4)), (g, .inr (1, [.ref ga_units, .ref ga_lengths, .ref ga_offsets, .int (z_i g_step)])), (ga_units, .inl (cA 1, 1280, .inl g_units)), (ga_lengths, .inl (cA 1, 32, .inl g_lengths)), (ga_offsets, .inl (cA 1, 32, .inl g_offsets))]) hP hD [7, 8, 9, 10, 3, 4, 5, 6] [0, 0, 0, 5, 6, 7, 8, 1, 2, 3, 4] rfl rfl rfl hk1 hB
            have hP : va_P D vwCl [(x, .inr (5, [.ref xa_grids, .ref x_levelMm, .int (z_i x_levelCount), .ref x_water, .ref xa_scratch, .ref x_lines])), (xa_grids, .inl (cA 4, 4, .inr (.inr (.inr (.inr x_grids))))), (xa_scratch, .inl (cA 1, 1280, .inl y41_xa_scratch)), (g, .inr (1, [.ref ga_units, .ref ga_lengths, .ref ga_offsets, .int (z_i g_step)])), (ga_units, .inl (cA 1, 1280, .inl g_units)), (ga_lengths, .inl (cA 1, 32, .inl g_lengths)), (ga_offsets, .inl (cA 1, 32, .inl g_offsets)), (h, .inr (1, [.ref ha_units, .ref ha_lengths, .ref ha_offsets, .int (z_i c5)])), (ha_units, .inl (cA 1, 1280, .inl h_units)), (ha_lengths, .inl (cA 1, 32, .inl c3)), (ha_offsets, .inl (cA 1, 32, .inl c4))] H := hP
            have hD : va_D A [(x, .inr (5, [.ref xa_grids, .ref x_levelMm, .int (z_i x_levelCount), .ref x_water, .ref xa_scratch, .ref x_lines])), (xa_grids, .inl (cA 4, 4, .inr (.inr (.inr (.inr x_grids))))), (xa_scratch, .inl (cA 1, 1280, .inl y41_xa_scratch)), (g, .inr (1, [.ref ga_units, .ref ga_lengths, .ref ga_offsets, .int (z_i g_step)])), (ga_units, .inl (cA 1, 1280, .inl g_units)), (ga_lengths, .inl (cA 1, 32, .inl g_lengths)), (ga_offsets, .inl (cA 1, 32, .inl g_offsets)), (h, .inr (1, [.ref ha_units, .ref ha_lengths, .ref ha_offsets, .int (z_i c5)])), (ha_units, .inl (cA 1, 1280, .inl h_units)), (ha_lengths, .inl (cA 1, 32, .inl c3)), (ha_offsets, .inl (cA 1, 32, .inl c4))] := z_D_addr hD rfl
            obtain ⟨h_c5, hw⟩ := hw
            have hv := hv c3 c4 c5 h_c5 hw
            refine lv_iconst (v := z_i 0) hx hb dX7_smooth_92 rfl ?_
            refine lv_istore (lv' := [(6, .int (z_i 0)), (5, .ref h), (4, .ref g), (0, .ref x), (3, .int (z_i weight))]) hx hb dX7_smooth_93 hl (by decide) rfl (fun ls hl => ?_)
            refine hv (fun (x95_6 : Int) (y95_ha_units : Nat → Int32) => ∀ (H : Heap) (locs : List Loc) (ls : Array Slot), va_P D vwCl [(x, .inr (5, [.ref xa_grids, .ref x_levelMm, .int (z_i x_levelCount), .ref x_water, .ref xa_scratch, .ref x_lines])), (xa_grids, .inl (cA 4, 4, .inr (.inr (.inr (.inr x_grids))))), (xa_scratch, .inl (cA 1, 1280, .inl y41_xa_scratch)), (g, .inr (1, [.ref ga_units, .ref ga_lengths, .ref ga_offsets, .int (z_i g_step)])), (ga_units, .inl (cA 1, 1280, .inl g_units)), (ga_lengths, .inl (cA 1, 32, .inl g_lengths)), (ga_offsets, .inl (cA 1, 32, .inl g_offsets)), (h, .inr (1, [.ref ha_units, .ref ha_lengths, .ref ha_offsets, .int (z_i c5)])), (ha_units, .inl (cA 1, 1280, .inl y95_ha_units)), (ha_lengths, .inl (cA 1, 32, .inl c3)), (ha_offsets, .inl (cA 1, 32, .inl c4))] H → va_D A [(x, .inr (5, [.ref xa_grids, .ref x_levelMm, .int (z_i x_levelCount), .ref x_water, .ref xa_scratch, .ref x_lines])), (xa_grids, .inl (cA 4, 4, .inr (.inr (.inr (.inr x_grids))))), (xa_scratch, .inl (cA 1, 1280, .inl y41_xa_scratch)), (g, .inr (1, [.ref ga_units, .ref ga_lengths, .ref ga_offsets, .int (z_i g_step)])), (ga_units, .inl (cA 1, 1280, .inl g_units)), (ga_lengths, .inl (cA 1, 32, .inl g_lengths)), (ga_offsets, .inl (cA 1, 32, .inl g_offsets)), (h, .inr (1, [.ref ha_units, .ref ha_lengths, .ref ha_offsets, .int (z_i c5)])), (ha_units, .inl (cA 1, 1280, .inl y95_ha_units)), (ha_lengths, .inl (cA 1, 32, .inl c3)), (ha_offsets, .inl (cA 1, 32, .inl c4))] → va_S A s.heap H locs → lv_has ls 7 [(6, .int (z_i x95_6)), (5, .ref h), (0, .ref x)] → W p l e _ s m _ below meth c H locs 0 0 _ (F0 m 95 ls [])) ?_ _ _ ls hP hD hS (lv_sub hl [0, 1, 3] rfl)
            intro x95_6 y95_ha_units h_x95_6 hv H locs ls hP hD hS hl
            refine lv_iload hx hb dX7_smooth_95 (lv_at hl 0 rfl) ?_
            refine lv_sipush (v := z_i 1280) hx hb dX7_smooth_97 (by decide) ?_
            refine lx_icmp_ge (tgt := 123) hx hb dX7_smooth_100 (by decide) h_x95_6 (show z_in 1280 from ⟨by decide, by decide⟩) (fun hc => ?_) (fun hc => ?_)
            · have hv := hv.1 hc
              refine lv_iconst (v := z_i 1) hx hb dX7_smooth_123 rfl ?_
              exact W.zret (v := z_i 1) hx hb hr (by decide) (fun t ht hW => ⟨⟨z_i 1, (y41_xa_scratch, y95_ha_units, c3, c4, c5), rfl, ⟨1, rfl, (show z_in 1 from ⟨by decide, by decide⟩), h_c5, hv⟩, z_pt hP ht⟩, hS.F ht⟩) hS.2.2 dX7_smooth_124
            · have hv := hv.2 hc
              refine lv_aload hx hb dX7_smooth_103 (lv_at hl 1 rfl) ?_
              refine lv_iload hx hb dX7_smooth_105 (lv_at hl 0 rfl) ?_
              refine lv_aload_n hx hb dX7_smooth_107 rfl (lv_at hl 2 rfl) ?_
              refine va_get (D := D) (ci := 5) (v := .ref xa_scratch) (C := RX7) (T := TX7) (N := 6) hx hb hts (fun w h => List.mem_cons_of_mem _ (List.mem_append_left _ (List.mem_append_right _ h))) hown hK hP 0 rfl rfl 4 (by decide) (hts (.fieldLink RX7 33 "ContourSheets" "scratch" "[I") (by decide +kernel)) (fun _ h9 => h9) rfl dX7_smooth_108 ?_
              refine lv_iload hx hb dX7_smooth_111 (lv_at hl 0 rfl) ?_
              obtain ⟨hi6, hv⟩ := hv
              refine lx_iald hx hb hK hP 2 1 rfl rfl (by decide) hi6.1 hi6.2 dX7_smooth_113 ?_
              obtain ⟨hp7, hv⟩ := hv
              have hFc := z_fr (A := A) (wc := [(h, .inr (1, [.ref ha_units, .ref ha_lengths, .ref ha_offsets, .int (z_i c5)])), (ha_units, .inl (cA 1, 1280, .inl y95_ha_units)), (ha_lengths, .inl (cA 1, 32, .inl c3)), (ha_offsets, .inl (cA 1, 32, .inl c4))]) hD [7, 8, 9, 10] rfl
              refine va_callv (va_runV (As := [.int (z_i x95_6), .int (z_i (z_g y41_xa_scratch x95_6))]) (rest := []) ⟨hx, hb, hml, hown, hts⟩ (mt_X2_put l D cA h ha_units y95_ha_units ha_lengths c3 ha_offsets c4 c5 x95_6 (z_g y41_xa_scratch x95_6) h_c5 h_x95_6 (z_in_g _ _) hp7) (cwV 2 hts gX7_smooth_X2_put rfl rfl rfl (by decide +kernel) ⟨Nat.le_of_ble_eq_true rfl, Nat.le_of_ble_eq_true rfl⟩) ⟨z_blm0, va_recv hK hP (ci := 1) (q0 := 7) rfl rfl, fun U hU hW => ⟨rfl, z_m0 hK (hP.sub (ws' := [(h, .inr (1, [.ref ha_units, .ref ha_lengths, .ref ha_offsets, .int (z_i c5)])), (ha_units, .inl (cA 1, 1280, .inl y95_ha_units)), (ha_lengths, .inl (cA 1, 32, .inl c3)), (ha_offsets, .inl (cA 1, 32, .inl c4))]) [7, 8, 9, 10] rfl) (hD.sub (ws' := [(h, .inr (1, [.ref ha_units, .ref ha_lengths, .ref ha_offsets, .int (z_i c5)])), (ha_units, .inl (cA 1, 1280, .inl y95_ha_units)), (ha_lengths, .inl (cA 1, 32, .inl c3)), (ha_offsets, .inl (cA 1, 32, .inl c4))]) [7, 8, 9, 10] (by decide) rfl) hU hW⟩⟩ rfl rfl hl.1 rfl (lv_room (Nat.le_of_ble_eq_true rfl)) dX7_smooth_114 ⟨Nat.zero_le _, Nat.zero_le _⟩) hS (fun q _ h => hFc q h) hFc (fun u t H locs ht hvm hw hB hz1 hk1 hS => ?_)
              obtain ⟨c8, rfl⟩ : ∃ z, z = u := ⟨_, rfl⟩
              rw [ht] at hB
              have hP := z_join2 (wc := [(h, .inr (1, [.ref ha_units, .ref ha_lengths, .ref ha_offsets, .int (z_i c5)])), (ha_units, .inl (cA 1, 1280, .inl y95_ha_units)), (ha_lengths, .inl (cA 1, 32, .inl c3)), (ha_offsets, .inl (cA 1, 32, .inl c4))]) (w1 := [(h, .inr (1, [.ref ha_units, .ref ha_lengths, .ref ha_offsets, .int (z_i c5)])), (ha_units, .inl (cA 1, 1280, .inl c8)), (ha_lengths, .inl (cA 1, 32, .inl c3)), (ha_offsets, .inl (cA 1, 32, .inl c4))]) hP hD [7, 8, 9, 10] [0, 0, 0, 0, 0, 0, 0, 1, 2, 3, 4] rfl rfl rfl hk1 hB
              have hP : va_P D vwCl [(x, .inr (5, [.ref xa_grids, .ref x_levelMm, .int (z_i x_levelCount), .ref x_water, .ref xa_scratch, .ref x_lines])), (xa_grids, .inl (cA 4, 4, .inr (.inr (.inr (.inr x_grids))))), (xa_scratch, .inl (cA 1, 1280, .inl y41_xa_scratch)), (g, .inr (1, [.ref ga_units, .ref ga_lengths, .ref ga_offsets, .int (z_i g_step)])), (ga_units, .inl (cA 1, 1280, .inl g_units)), (ga_lengths, .inl (cA 1, 32, .inl g_lengths)), (ga_offsets, .inl (cA 1, 32, .inl g_offsets)), (h, .inr (1, [.ref ha_units, .ref ha_lengths, .ref ha_offsets, .int (z_i c5)])), (ha_units, .inl (cA 1, 1280, .inl c8)), (ha_lengths, .inl (cA 1, 32, .inl c3)), (ha_offsets, .inl (cA 1, 32, .inl c4))] H := hP
              have hD : va_D A [(x, .inr (5, [.ref xa_grids, .ref x_levelMm, .int (z_i x_levelCount), .ref x_water, .ref xa_scratch, .ref x_lines])), (xa_grids, .inl (cA 4, 4, .inr (.inr (.inr (.inr x_grids))))), (xa_scratch, .inl (cA 1, 1280, .inl y41_xa_scratch)), (g, .inr (1, [.ref ga_units, .ref ga_lengths, .ref ga_offsets, .int (z_i g_step)])), (ga_units, .inl (cA 1, 1280, .inl g_units)), (ga_lengths, .inl (cA 1, 32, .inl g_lengths)), (ga_offsets, .inl (cA 1, 32, .inl g_offsets)), (h, .inr (1, [.ref ha_units, .ref ha_lengths, .ref ha_offsets, .int (z_i c5)])), (ha_units, .inl (cA 1, 1280, .inl c8)), (ha_lengths, .inl (cA 1, 32, .inl c3)), (ha_offsets, .inl (cA 1, 32, .inl c4))] := z_D_addr hD rfl
              have hv := hv c8 hw
              refine lv_iinc (v := z_i (x95_6 + 1)) (lv' := [(6, .int (z_i (x95_6 + 1))), (5, .ref h), (0, .ref x)]) hx hb dX7_smooth_117 hl (k := 0) rfl (z_i_add _ _) (by decide) rfl (fun ls hl => ?_)
              refine lv_goto (tgt := 95) hx hb dX7_smooth_120 (by decide) ?_
              exact hv _ _ ls hP hD hS (lv_sub hl [0, 1, 2] rfl)
          · have hv := hv.2 hc
            refine lv_aload_n hx hb dX7_smooth_49 rfl (lv_at hl 3 rfl) ?_
            refine va_get (D := D) (ci := 5) (v := .ref xa_scratch) (C := RX7) (T := TX7) (N := 6) hx hb hts (fun w h => List.mem_cons_of_mem _ (List.mem_append_left _ (List.mem_append_right _ h))) hown hK hP 0 rfl rfl 4 (by decide) (hts (.fieldLink RX7 33 "ContourSheets" "scratch" "[I") (by decide +kernel)) (fun _ h9 => h9) rfl dX7_smooth_50 ?_
            refine lv_iload hx hb dX7_smooth_53 (lv_at hl 0 rfl) ?_
            refine lv_aload hx hb dX7_smooth_55 (lv_at hl 2 rfl) ?_
            refine lv_iload hx hb dX7_smooth_57 (lv_at hl 0 rfl) ?_
            refine va_calli (va_runV (As := [.int (z_i x41_6)]) (rest := [.int (z_i x41_6), .ref xa_scratch]) ⟨hx, hb, hml, hown, hts⟩ (mt_X2_isThere l D cA g ga_units g_units ga_lengths g_lengths ga_offsets g_offsets g_step x41_6 h_g_step h_x41_6) (cwV 1 hts gX7_smooth_X2_isThere rfl rfl rfl (by decide +kernel) ⟨Nat.le_of_ble_eq_true rfl, Nat.le_of_ble_eq_true rfl⟩) ⟨z_bl0, va_recv hK hP (ci := 1) (q0 := 3) rfl rfl, fun U hU hW => ⟨rfl, z_b0 hK (hP.sub (ws' := [(g, .inr (1, [.ref ga_units, .ref ga_lengths, .ref ga_offsets, .int (z_i g_step)])), (ga_units, .inl (cA 1, 1280, .inl g_units)), (ga_lengths, .inl (cA 1, 32, .inl g_lengths)), (ga_offsets, .inl (cA 1, 32, .inl g_offsets))]) [3, 4, 5, 6] rfl) hU hW⟩⟩ rfl rfl hl.1 rfl (lv_room (Nat.le_of_ble_eq_true rfl)) dX7_smooth_59 ⟨Nat.zero_le _, Nat.zero_le _⟩) hS (fun q _ h => h.elim) (fun q h => h.elim) (fun r0 u t H locs ht hvm hw hB hz1 hk1 hS => ?_)
            obtain ⟨r9, rfl, h_r9, hw⟩ := hw
            have hP := z_P_all hP hk1
            have hv := hv r9 h_r9 hw
            refine lx_if_eq (tgt := 76) hx hb dX7_smooth_62 (by decide) h_r9 (fun hc => ?_) (fun hc => ?_)
            · have hv := hv.1 hc
              refine lx_ldc (a := (-2147483648)) hx hb hown (hts (.constant RX7 61 (-2147483648)) (by decide +kernel)) (by decide) dX7_smooth_76 ?_
              obtain ⟨hi10, hv⟩ := hv
              refine lx_iast hx hb hK hP hD hS 2 1 rfl rfl (by decide) hi10.1 hi10.2 dX7_smooth_78 (fun H locs hP hD hS => ?_)
              obtain ⟨f11, hy12⟩ : ∃ y : Nat → Int32, y = z_s y41_xa_scratch x41_6 (-2147483648) := ⟨_, rfl⟩
              have hv := hv f11 hy12
              have hP : va_P D vwCl [(x, .inr (5, [.ref xa_grids, .ref x_levelMm, .int (z_i x_levelCount), .ref x_water, .ref xa_scratch, .ref x_lines])), (xa_grids, .inl (cA 4, 4, .inr (.inr (.inr (.inr x_grids))))), (xa_scratch, .inl (cA 1, 1280, .inl f11)), (g, .inr (1, [.ref ga_units, .ref ga_lengths, .ref ga_offsets, .int (z_i g_step)])), (ga_units, .inl (cA 1, 1280, .inl g_units)), (ga_lengths, .inl (cA 1, 32, .inl g_lengths)), (ga_offsets, .inl (cA 1, 32, .inl g_offsets)), (h, .inr (1, [.ref ha_units, .ref ha_lengths, .ref ha_offsets, .int (z_i h_step)])), (ha_units, .inl (cA 1, 1280, .inl h_units)), (ha_lengths, .inl (cA 1, 32, .inl h_lengths)), (ha_offsets, .inl (cA 1, 32, .inl h_offsets))] H := by rw [hy12]; exact hP
              have hD : va_D A [(x, .inr (5, [.ref xa_grids, .ref x_levelMm, .int (z_i x_levelCount), .ref x_water, .ref xa_scratch, .ref x_lines])), (xa_grids, .inl (cA 4, 4, .inr (.inr (.inr (.inr x_grids))))), (xa_scratch, .inl (cA 1, 1280, .inl f11)), (g, .inr (1, [.ref ga_units, .ref ga_lengths, .ref ga_offsets, .int (z_i g_step)])), (ga_units, .inl (cA 1, 1280, .inl g_units)), (ga_lengths, .inl (cA 1, 32, .inl g_lengths)), (ga_offsets, .inl (cA 1, 32, .inl g_offsets)), (h, .inr (1, [.ref ha_units, .ref ha_lengths, .ref ha_offsets, .int (z_i h_step)])), (ha_units, .inl (cA 1, 1280, .inl h_units)), (ha_lengths, .inl (cA 1, 32, .inl h_lengths)), (ha_offsets, .inl (cA 1, 32, .inl h_offsets))] := by rw [hy12]; exact hD
              refine lv_iinc (v := z_i (x41_6 + 1)) (lv' := [(6, .int (z_i (x41_6 + 1))), (5, .ref h), (4, .ref g), (0, .ref x), (3, .int (z_i weight))]) hx hb dX7_smooth_79 hl (k := 0) rfl (z_i_add _ _) (by decide) rfl (fun ls hl => ?_)
              refine lv_goto (tgt := 41) hx hb dX7_smooth_82 (by decide) ?_
              exact hv _ _ ls hP hD hS (lv_sub hl [0, 1, 2, 3, 4] rfl)
            · have hv := hv.2 hc
              refine lv_aload hx hb dX7_smooth_65 (lv_at hl 2 rfl) ?_
              refine lv_iload hx hb dX7_smooth_67 (lv_at hl 0 rfl) ?_
              refine lv_iload_n hx hb dX7_smooth_69 rfl (lv_at hl 4 rfl) ?_
              obtain ⟨hp13, hv⟩ := hv
              obtain ⟨hp14, hv⟩ := hv
              obtain ⟨hp15, hv⟩ := hv
              obtain ⟨hp16, hv⟩ := hv
              refine va_calli (va_runV (As := [.int (z_i x41_6), .int (z_i weight)]) (rest := [.int (z_i x41_6), .ref xa_scratch]) ⟨hx, hb, hml, hown, hts⟩ (mt_X2_smoothed l D cA t1 t2 g ga_units g_units ga_lengths g_lengths ga_offsets g_offsets g_step x41_6 weight h_g_step h_x41_6 h_weight hp13 hp14 hp15 hp16) (cwV 2 hts gX7_smooth_X2_smoothed rfl rfl rfl (by decide +kernel) ⟨Nat.le_of_ble_eq_true rfl, Nat.le_of_ble_eq_true rfl⟩) ⟨z_bl1, va_recv hK hP (ci := 1) (q0 := 3) rfl rfl, fun U hU hW => ⟨rfl, z_b1 hK (hP.sub (ws' := [(g, .inr (1, [.ref ga_units, .ref ga_lengths, .ref ga_offsets, .int (z_i g_step)])), (ga_units, .inl (cA 1, 1280, .inl g_units)), (ga_lengths, .inl (cA 1, 32, .inl g_lengths)), (ga_offsets, .inl (cA 1, 32, .inl g_offsets))]) [3, 4, 5, 6] rfl) (hST.at hS (fun _ h => h.elim)) hU hW⟩⟩ rfl rfl hl.1 rfl (lv_room (Nat.le_of_ble_eq_true rfl)) dX7_smooth_70 ⟨Nat.zero_le _, Nat.zero_le _⟩) hS (fun q _ h => h.elim) (fun q h => h.elim) (fun r0 u t H locs ht hvm hw hB hz1 hk1 hS => ?_)
              obtain ⟨r17, rfl, h_r17, hw⟩ := hw
              have hP := z_P_all hP hk1
              have hv := hv r17 h_r17 hw
              refine lv_goto (tgt := 78) hx hb dX7_smooth_73 (by decide) ?_
              obtain ⟨hi18, hv⟩ := hv
              refine lx_iast hx hb hK hP hD hS 2 1 rfl rfl (by decide) hi18.1 hi18.2 dX7_smooth_78 (fun H locs hP hD hS => ?_)
              obtain ⟨f19, hy20⟩ : ∃ y : Nat → Int32, y = z_s y41_xa_scratch x41_6 r17 := ⟨_, rfl⟩
              have hv := hv f19 hy20
              have hP : va_P D vwCl [(x, .inr (5, [.ref xa_grids, .ref x_levelMm, .int (z_i x_levelCount), .ref x_water, .ref xa_scratch, .ref x_lines])), (xa_grids, .inl (cA 4, 4, .inr (.inr (.inr (.inr x_grids))))), (xa_scratch, .inl (cA 1, 1280, .inl f19)), (g, .inr (1, [.ref ga_units, .ref ga_lengths, .ref ga_offsets, .int (z_i g_step)])), (ga_units, .inl (cA 1, 1280, .inl g_units)), (ga_lengths, .inl (cA 1, 32, .inl g_lengths)), (ga_offsets, .inl (cA 1, 32, .inl g_offsets)), (h, .inr (1, [.ref ha_units, .ref ha_lengths, .ref ha_offsets, .int (z_i h_step)])), (ha_units, .inl (cA 1, 1280, .inl h_units)), (ha_lengths, .inl (cA 1, 32, .inl h_lengths)), (ha_offsets, .inl (cA 1, 32, .inl h_offsets))] H := by rw [hy20]; exact hP
              have hD : va_D A [(x, .inr (5, [.ref xa_grids, .ref x_levelMm, .int (z_i x_levelCount), .ref x_water, .ref xa_scratch, .ref x_lines])), (xa_grids, .inl (cA 4, 4, .inr (.inr (.inr (.inr x_grids))))), (xa_scratch, .inl (cA 1, 1280, .inl f19)), (g, .inr (1, [.ref ga_units, .ref ga_lengths, .ref ga_offsets, .int (z_i g_step)])), (ga_units, .inl (cA 1, 1280, .inl g_units)), (ga_lengths, .inl (cA 1, 32, .inl g_lengths)), (ga_offsets, .inl (cA 1, 32, .inl g_offsets)), (h, .inr (1, [.ref ha_units, .ref ha_lengths, .ref ha_offsets, .int (z_i h_step)])), (ha_units, .inl (cA 1, 1280, .inl h_units)), (ha_lengths, .inl (cA 1, 32, .inl h_lengths)), (ha_offsets, .inl (cA 1, 32, .inl h_offsets))] := by rw [hy20]; exact hD
              refine lv_iinc (v := z_i (x41_6 + 1)) (lv' := [(6, .int (z_i (x41_6 + 1))), (5, .ref h), (4, .ref g), (0, .ref x), (3, .int (z_i weight))]) hx hb dX7_smooth_79 hl (k := 0) rfl (z_i_add _ _) (by decide) rfl (fun ls hl => ?_)
              refine lv_goto (tgt := 41) hx hb dX7_smooth_82 (by decide) ?_
              exact hv _ _ ls hP hD hS (lv_sub hl [0, 1, 2, 3, 4] rfl)
        · have hv := hv.2 hc
          refine lv_iconst (v := z_i 0) hx hb dX7_smooth_36 rfl ?_
          exact W.zret (v := z_i 0) hx hb hr (by decide) (fun t ht hW => ⟨⟨z_i 0, (x_scratch, h_units, h_lengths, h_offsets, h_step), rfl, ⟨0, rfl, (show z_in 0 from ⟨by decide, by decide⟩), h_h_step, hv⟩, z_pt hP ht⟩, hS.F ht⟩) hS.2.2 dX7_smooth_37
    · have hv := hv.2 hc
      rw [hq2, if_neg hc, z_rf_n]
      refine lv_astoreN (lv' := [(5, .null), (4, .ref g), (0, .ref x), (1, .int (z_i gi)), (2, .int (z_i to)), (3, .int (z_i weight))]) hx hb dX7_smooth_12 hl (by decide) rfl (fun ls hl => ?_)
      refine lv_aload hx hb dX7_smooth_14 (lv_at hl 1 rfl) ?_
      refine lv_ifnull hx hb dX7_smooth_16 ?_
      refine lv_aloadN hx hb dX7_smooth_19 (lv_at hl 0 rfl) ?_
      refine lv_ifnullN (tgt := 36) hx hb dX7_smooth_21 (by decide) ?_
      refine lv_iconst (v := z_i 0) hx hb dX7_smooth_36 rfl ?_
      exact W.zret (v := z_i 0) hx hb hr (by decide) (fun t ht hW => ⟨⟨z_i 0, (x_scratch, h_units, h_lengths, h_offsets, h_step), rfl, ⟨0, rfl, (show z_in 0 from ⟨by decide, by decide⟩), h_h_step, hv⟩, z_pt hP ht⟩, hS.F ht⟩) hS.2.2 dX7_smooth_37
  · have hv := hv.2 hc
    rw [hq1, if_neg hc, z_rf_n]
    refine lv_astoreN (lv' := [(4, .null), (0, .ref x), (1, .int (z_i gi)), (2, .int (z_i to)), (3, .int (z_i weight))]) hx hb dX7_smooth_5 hl (by decide) rfl (fun ls hl => ?_)
    refine lv_aload_n hx hb dX7_smooth_7 rfl (lv_at hl 1 rfl) ?_
    refine lv_iload_n hx hb dX7_smooth_8 rfl (lv_at hl 3 rfl) ?_
    refine va_callq (va_runV (As := [.int (z_i to)]) (rest := []) ⟨hx, hb, hml, hown, hts⟩ (mt_X7_gridOf l D cA x xa_grids x_grids x_levelMm x_levelCount x_water xa_scratch x_lines to h_x_levelCount h_to) (cwV 1 hts gX7_smooth_X7_gridOf rfl rfl rfl (by decide +kernel) ⟨Nat.le_of_ble_eq_true rfl, Nat.le_of_ble_eq_true rfl⟩) ⟨z_bl0, va_recv hK hP (ci := 5) (q0 := 0) rfl rfl, fun U hU hW => ⟨rfl, z_b0 hK (hP.sub (ws' := [(x, .inr (5, [.ref xa_grids, .ref x_levelMm, .int (z_i x_levelCount), .ref x_water, .ref xa_scratch, .ref x_lines])), (xa_grids, .inl (cA 4, 4, .inr (.inr (.inr (.inr x_grids)))))]) [0, 1] rfl) hU hW⟩⟩ rfl rfl hl.1 rfl (lv_room (Nat.le_of_ble_eq_true rfl)) dX7_smooth_9 ⟨Nat.zero_le _, Nat.zero_le _⟩) hS (fun q _ h => h.elim) (fun q h => h.elim) (fun r0 u t H locs ht hvm hw hB hz1 hk1 hS => ?_)
    have hq21 := hw
    have hP := z_P_all hP hk1
    by_cases hc : 0 ≤ to ∧ to < 4
    · have hv := hv.1 hc
      rw [hq21, if_pos hc, hg_to hc, z_rf_s]
      refine lv_astore (lv' := [(5, .ref h), (4, .null), (0, .ref x), (1, .int (z_i gi)), (2, .int (z_i to)), (3, .int (z_i weight))]) hx hb dX7_smooth_12 hl (by decide) rfl (fun ls hl => ?_)
      refine lv_aloadN hx hb dX7_smooth_14 (lv_at hl 1 rfl) ?_
      refine lv_ifnullN (tgt := 36) hx hb dX7_smooth_16 (by decide) ?_
      refine lv_iconst (v := z_i 0) hx hb dX7_smooth_36 rfl ?_
      exact W.zret (v := z_i 0) hx hb hr (by decide) (fun t ht hW => ⟨⟨z_i 0, (x_scratch, h_units, h_lengths, h_offsets, h_step), rfl, ⟨0, rfl, (show z_in 0 from ⟨by decide, by decide⟩), h_h_step, hv⟩, z_pt hP ht⟩, hS.F ht⟩) hS.2.2 dX7_smooth_37
    · have hv := hv.2 hc
      rw [hq21, if_neg hc, z_rf_n]
      refine lv_astoreN (lv' := [(5, .null), (4, .null), (0, .ref x), (1, .int (z_i gi)), (2, .int (z_i to)), (3, .int (z_i weight))]) hx hb dX7_smooth_12 hl (by decide) rfl (fun ls hl => ?_)
      refine lv_aloadN hx hb dX7_smooth_14 (lv_at hl 1 rfl) ?_
      refine lv_ifnullN (tgt := 36) hx hb dX7_smooth_16 (by decide) ?_
      refine lv_iconst (v := z_i 0) hx hb dX7_smooth_36 rfl ?_
      exact W.zret (v := z_i 0) hx hb hr (by decide) (fun t ht hW => ⟨⟨z_i 0, (x_scratch, h_units, h_lengths, h_offsets, h_step), rfl, ⟨0, rfl, (show z_in 0 from ⟨by decide, by decide⟩), h_h_step, hv⟩, z_pt hP ht⟩, hS.F ht⟩) hS.2.2 dX7_smooth_37
set_option maxHeartbeats 4000000 in
set_option maxRecDepth 100000 in
theorem mt_X7_smooth_d (l : Launch) (D : va_G) (cA : Nat → ClassId) (t1 t2 : Nat) (x : Nat) (xa_grids : Nat) (x_grids : Nat → Option Nat) (x_levelMm : Nat) (x_levelCount : Int) (x_water : Nat) (xa_scratch : Nat) (x_scratch : Nat → Int32) (x_lines : Nat) (gi : Int) (to : Int) (weight : Int) (g : Nat) (ga_units : Nat) (g_units : Nat → Int32) (ga_lengths : Nat) (g_lengths : Nat → Int32) (ga_offsets : Nat) (g_offsets : Nat → Int32) (g_step : Int) (h : Nat) (ha_units : Nat) (h_units : Nat → Int32) (ha_lengths : Nat) (h_lengths : Nat → Int32) (ha_offsets : Nat) (h_offsets : Nat → Int32) (h_step : Int) (h_x_levelCount : z_in x_levelCount) (h_gi : z_in gi) (h_to : z_in to) (h_weight : z_in weight) (h_g_step : z_in g_step) (h_h_step : z_in h_step) (hg_gi : 0 ≤ gi ∧ gi < 4 → x_grids gi.toNat = some g) (hg_to : 0 ≤ to ∧ to < 4 → x_grids to.toNat = some h) (hp1 : g_ok g_units) : Met l yX7_smooth wsX7_smooth ({ frames := 4, cells := 0, slots := 0, locals := 93 } : Room) (va_Pc [.ref x, .int (z_i gi), .int (z_i to), .int (z_i weight)] (z_M1 D cA t1 t2 [(x, .inr (5, [.ref xa_grids, .ref x_levelMm, .int (z_i x_levelCount), .ref x_water, .ref xa_scratch, .ref x_lines])), (xa_grids, .inl (cA 4, 4, .inr (.inr (.inr (.inr x_grids))))), (xa_scratch, .inl (cA 1, 1280, .inl x_scratch)), (g, .inr (1, [.ref ga_units, .ref ga_lengths, .ref ga_offsets, .int (z_i g_step)])), (ga_units, .inl (cA 1, 1280, .inl g_units)), (ga_lengths, .inl (cA 1, 32, .inl g_lengths)), (ga_offsets, .inl (cA 1, 32, .inl g_offsets)), (h, .inr (1, [.ref ha_units, .ref ha_lengths, .ref ha_offsets, .int (z_i h_step)])), (ha_units, .inl (cA 1, 1280, .inl h_units)), (ha_lengths, .inl (cA 1, 32, .inl h_lengths)), (ha_offsets, .inl (cA 1, 32, .inl h_offsets))])) (va_Qi (z_mi (fun v (u : (Nat → Int32) × (Nat → Int32) × (Nat → Int32) × (Nat → Int32) × Int) => z_in u.2.2.2.2 ∧ (fun (r : Int) (x_scratch' : (Nat → Int32)) (h_units' : (Nat → Int32)) (h_lengths' : (Nat → Int32)) (h_offsets' : (Nat → Int32)) (h_step' : Int) => r = z_b (decide ((0 ≤ gi ∧ gi < 4) ∧ (0 ≤ to ∧ to < 4) ∧ 1 ≤ weight ∧ weight ≤ 1000)) ∧ ((0 ≤ gi ∧ gi < 4) ∧ (0 ≤ to ∧ to < 4) ∧ 1 ≤ weight ∧ weight ≤ 1000 → (∀ n : Int, 0 ≤ n → n < 1280 → z_g h_units' n = f_sm g_units weight n) ∧ h_lengths' = g_lengths ∧ h_offsets' = g_offsets ∧ h_step' = g_step) ∧ (¬ ((0 ≤ gi ∧ gi < 4) ∧ (0 ≤ to ∧ to < 4) ∧ 1 ≤ weight ∧ weight ≤ 1000) → h_units' = h_units ∧ h_lengths' = h_lengths ∧ h_offsets' = h_offsets ∧ h_step' = h_step)) v u.1 u.2.1 u.2.2.1 u.2.2.2.1 u.2.2.2.2)) (fun (u : (Nat → Int32) × (Nat → Int32) × (Nat → Int32) × (Nat → Int32) × Int) t => va_P D vwCl [(x, .inr (5, [.ref xa_grids, .ref x_levelMm, .int (z_i x_levelCount), .ref x_water, .ref xa_scratch, .ref x_lines])), (xa_grids, .inl (cA 4, 4, .inr (.inr (.inr (.inr x_grids))))), (xa_scratch, .inl (cA 1, 1280, .inl u.1)), (g, .inr (1, [.ref ga_units, .ref ga_lengths, .ref ga_offsets, .int (z_i g_step)])), (ga_units, .inl (cA 1, 1280, .inl g_units)), (ga_lengths, .inl (cA 1, 32, .inl g_lengths)), (ga_offsets, .inl (cA 1, 32, .inl g_offsets)), (h, .inr (1, [.ref ha_units, .ref ha_lengths, .ref ha_offsets, .int (z_i u.2.2.2.2)])), (ha_units, .inl (cA 1, 1280, .inl u.2.1)), (ha_lengths, .inl (cA 1, 32, .inl u.2.2.1)), (ha_offsets, .inl (cA 1, 32, .inl u.2.2.2.1))] t.heap) (z_A [(x, .inr (5, [.ref xa_grids, .ref x_levelMm, .int (z_i x_levelCount), .ref x_water, .ref xa_scratch, .ref x_lines])), (xa_grids, .inl (cA 4, 4, .inr (.inr (.inr (.inr x_grids))))), (xa_scratch, .inl (cA 1, 1280, .inl x_scratch)), (g, .inr (1, [.ref ga_units, .ref ga_lengths, .ref ga_offsets, .int (z_i g_step)])), (ga_units, .inl (cA 1, 1280, .inl g_units)), (ga_lengths, .inl (cA 1, 32, .inl g_lengths)), (ga_offsets, .inl (cA 1, 32, .inl g_offsets)), (h, .inr (1, [.ref ha_units, .ref ha_lengths, .ref ha_offsets, .int (z_i h_step)])), (ha_units, .inl (cA 1, 1280, .inl h_units)), (ha_lengths, .inl (cA 1, 32, .inl h_lengths)), (ha_offsets, .inl (cA 1, 32, .inl h_offsets))])) 0 0 (z_A [(x, .inr (5, [.ref xa_grids, .ref x_levelMm, .int (z_i x_levelCount), .ref x_water, .ref xa_scratch, .ref x_lines])), (xa_grids, .inl (cA 4, 4, .inr (.inr (.inr (.inr x_grids))))), (xa_scratch, .inl (cA 1, 1280, .inl x_scratch)), (g, .inr (1, [.ref ga_units, .ref ga_lengths, .ref ga_offsets, .int (z_i g_step)])), (ga_units, .inl (cA 1, 1280, .inl g_units)), (ga_lengths, .inl (cA 1, 32, .inl g_lengths)), (ga_offsets, .inl (cA 1, 32, .inl g_offsets)), (h, .inr (1, [.ref ha_units, .ref ha_lengths, .ref ha_offsets, .int (z_i h_step)])), (ha_units, .inl (cA 1, 1280, .inl h_units)), (ha_lengths, .inl (cA 1, 32, .inl h_lengths)), (ha_offsets, .inl (cA 1, 32, .inl h_offsets))]) := by
  refine wk_X7_smooth_d l D cA t1 t2 x xa_grids x_grids x_levelMm x_levelCount x_water xa_scratch x_scratch x_lines gi to weight g ga_units g_units ga_lengths g_lengths ga_offsets g_offsets g_step h ha_units h_units ha_lengths h_lengths ha_offsets h_offsets h_step h_x_levelCount h_gi h_to h_weight h_g_step h_h_step hg_gi hg_to (fun (r : Int) (x_scratch' : (Nat → Int32)) (h_units' : (Nat → Int32)) (h_lengths' : (Nat → Int32)) (h_offsets' : (Nat → Int32)) (h_step' : Int) => r = z_b (decide ((0 ≤ gi ∧ gi < 4) ∧ (0 ≤ to ∧ to < 4) ∧ 1 ≤ weight ∧ weight ≤ 1000)) ∧ ((0 ≤ gi ∧ gi < 4) ∧ (0 ≤ to ∧ to < 4) ∧ 1 ≤ weight ∧ weight ≤ 1000 → (∀ n : Int, 0 ≤ n → n < 1280 → z_g h_units' n = f_sm g_units weight n) ∧ h_lengths' = g_lengths ∧ h_offsets' = g_offsets ∧ h_step' = g_step) ∧ (¬ ((0 ≤ gi ∧ gi < 4) ∧ (0 ≤ to ∧ to < 4) ∧ 1 ≤ weight ∧ weight ≤ 1000) → h_units' = h_units ∧ h_lengths' = h_lengths ∧ h_offsets' = h_offsets ∧ h_step' = h_step)) ?_
  unfold vc_X7_smooth_d
  have no : ¬ ((0 ≤ gi ∧ gi < 4) ∧ (0 ≤ to ∧ to < 4) ∧ 1 ≤ weight ∧ weight ≤ 1000) → (0 : Int) = z_b (decide ((0 ≤ gi ∧ gi < 4) ∧ (0 ≤ to ∧ to < 4) ∧ 1 ≤ weight ∧ weight ≤ 1000)) ∧ ((0 ≤ gi ∧ gi < 4) ∧ (0 ≤ to ∧ to < 4) ∧ 1 ≤ weight ∧ weight ≤ 1000 → (∀ n : Int, 0 ≤ n → n < 1280 → z_g h_units n = f_sm g_units weight n) ∧ h_lengths = g_lengths ∧ h_offsets = g_offsets ∧ h_step = g_step) ∧ (¬ ((0 ≤ gi ∧ gi < 4) ∧ (0 ≤ to ∧ to < 4) ∧ 1 ≤ weight ∧ weight ≤ 1000) → h_units = h_units ∧ h_lengths = h_lengths ∧ h_offsets = h_offsets ∧ h_step = h_step) := fun h => ⟨by rw [decide_eq_false h]; rfl, fun h2 => absurd h2 h, fun _ => ⟨rfl, rfl, rfl, rfl⟩⟩
  refine ⟨fun q => ⟨fun q1 => ⟨fun q2 => no (fun h => by have := h.2.2.1; omega), fun q2 => ⟨fun q3 => ?_, fun q3 => no (fun h => by have := h.2.2.2; omega)⟩⟩, fun q1 => no (fun h => q1 h.2.1)⟩, fun q => ⟨fun _ => no (fun h => q h.1), fun _ => no (fun h => q h.1)⟩⟩
  intro L1 hL1
  suffices H : ∀ (d k : Nat) (y : Nat → Int32), k + d = 1280 → (∀ n : Int, 0 ≤ n → n < k → z_g y n = f_sm g_units weight n) → L1 k y from H 1280 0 _ rfl (fun n a b => absurd b (by omega))
  intro d
  induction d with
  | zero =>
    intro k y hk hy
    obtain rfl : k = 1280 := by omega
    refine hL1 _ _ ⟨by omega, by omega⟩ ⟨fun _ => ?_, fun h => absurd h (by decide)⟩
    rintro c3 c4 c5 _ ⟨rfl, rfl, rfl⟩
    intro L2 hL2
    suffices H : ∀ (d k : Nat) (z : Nat → Int32), k + d = 1280 → (∀ n : Int, 0 ≤ n → n < k → z_g z n = f_sm g_units weight n) → L2 k z from H 1280 0 _ rfl (fun n a b => absurd b (by omega))
    intro d
    induction d with
    | zero =>
      intro k z hk hz
      obtain rfl : k = 1280 := by omega
      refine hL2 _ _ ⟨by omega, by omega⟩ ⟨fun _ => ?_, fun h => absurd h (by decide)⟩
      exact ⟨by rw [decide_eq_true ⟨q, q1, q2, q3⟩]; rfl, fun _ => ⟨fun n a b => hz n a (by omega), rfl, rfl, rfl⟩, fun h => absurd ⟨q, q1, q2, q3⟩ h⟩
    | succ d ih =>
      intro k z hk hz
      refine hL2 _ _ ⟨by omega, by omega⟩ ⟨fun h => absurd h (by omega), fun _ => ⟨⟨by omega, by omega⟩, ⟨by omega, by omega⟩, ?_⟩⟩
      rintro c8 rfl
      refine ih (k + 1) _ (by omega) ?_
      intro n a b
      rw [z_gs (z_in_g _ _) (by omega) a]
      by_cases e9 : n = k
      · rw [if_pos e9, ← e9]; exact hy n a (by omega)
      · rw [if_neg e9]; exact hz n a (by omega)
  | succ d ih =>
    intro k y hk hy
    refine hL1 _ _ ⟨by omega, by omega⟩ ⟨fun h => absurd h (by omega), fun _ => ?_⟩
    have step : ∀ v : Int, z_in v → v = f_sm g_units weight k → L1 ((k : Int) + 1) (z_s y k v) := by
      intro v zv hv
      refine ih (k + 1) _ (by omega) ?_
      intro n a b
      rw [z_gs zv (by omega) a]
      by_cases e9 : n = k
      · rw [if_pos e9, e9]; exact hv
      · rw [if_neg e9]; exact hy n a (by omega)
    rintro r9 _ rfl
    refine ⟨fun q4 => ⟨⟨by omega, by omega⟩, ?_⟩, fun q4 => ⟨⟨by omega, by omega⟩, hp1, zb_t q4, ⟨q2, q3⟩, ?_⟩⟩
    · rintro f11 rfl
      refine step _ ⟨by omega, by omega⟩ ?_
      unfold f_sm; rw [zb_f q4]; rfl
    · rintro r17 z17 h17
      refine ⟨⟨by omega, by omega⟩, ?_⟩
      rintro f19 rfl
      refine step _ z17 ?_
      unfold f_sm; rw [if_pos (zb_t q4)]; exact h17
def vc_X7_difference_a (gi : Int) (hi_ : Int) (to : Int) (g_units : Nat → Int32) (g_lengths : Nat → Int32) (g_offsets : Nat → Int32) (g_step : Int) (Q : Int → (Nat → Int32) → (Nat → Int32) → (Nat → Int32) → Int → Prop) : Prop :=
((0 ≤ gi ∧ gi < 4 → ((0 ≤ hi_ ∧ hi_ < 4 → ((0 ≤ to ∧ to < 4 → (∀ L44 : Int → Int → (Nat → Int32) → Prop,
(∀ (x44_8 : Int) (x44_7 : Int) (y44_ga_units : Nat → Int32), z_in x44_8 → z_in x44_7 → ((x44_8 ≥ 1280 → (∀ (c4 : Nat → Int32) (c5 : Nat → Int32) (c6 : Int), z_in c6 → (c4 = g_lengths ∧ c5 = g_offsets ∧ c6 = g_step) → Q x44_7 y44_ga_units c4 c5 c6)) ∧
(x44_8 < 1280 → (∀ (r7 : Int), z_in r7 → (r7 = z_b (g_th y44_ga_units x44_8)) → ((r7 = 0 → (0 ≤ x44_8 ∧ x44_8 < 1280) ∧ (∀ (c9 : Nat → Int32), (c9 = z_s y44_ga_units x44_8 (-2147483648 : Int)) → L44 (x44_8 + 1) x44_7 c9)) ∧
(r7 ≠ 0 → (∀ (r10 : Int), z_in r10 → (r10 = z_b (g_th y44_ga_units x44_8)) → ((r10 = 0 → (0 ≤ x44_8 ∧ x44_8 < 1280) ∧ (∀ (c12 : Nat → Int32), (c12 = z_s y44_ga_units x44_8 (-2147483648 : Int)) → L44 (x44_8 + 1) x44_7 c12)) ∧
(r10 ≠ 0 → (∀ (r13 : Int), z_in r13 → (r13 = g_at y44_ga_units x44_8) → (∀ (r14 : Int), z_in r14 → (r14 = g_at y44_ga_units x44_8) → z_in (r13 - r14) ∧ (∀ v15 : Int, v15 = r13 - r14 → ((v15 < -8388608 → (0 ≤ x44_8 ∧ x44_8 < 1280) ∧ (∀ (c19 : Nat → Int32), (c19 = z_s y44_ga_units x44_8 (-2147483648 : Int)) → L44 (x44_8 + 1) (x44_7 + 1) c19)) ∧
(v15 ≥ -8388608 → ((v15 ≤ 8388608 → (0 ≤ x44_8 ∧ x44_8 < 1280) ∧ (∀ (c21 : Nat → Int32), (c21 = z_s y44_ga_units x44_8 v15) → L44 (x44_8 + 1) x44_7 c21)) ∧
(v15 > 8388608 → (0 ≤ x44_8 ∧ x44_8 < 1280) ∧ (∀ (c23 : Nat → Int32), (c23 = z_s y44_ga_units x44_8 (-2147483648 : Int)) → L44 (x44_8 + 1) (x44_7 + 1) c23)))))))))))))))) → L44 x44_8 x44_7 y44_ga_units) →
L44 0 0 g_units)) ∧
(¬ (0 ≤ to ∧ to < 4) → Q (-1) g_units g_lengths g_offsets g_step))) ∧
(¬ (0 ≤ hi_ ∧ hi_ < 4) → ((0 ≤ to ∧ to < 4 → Q (-1) g_units g_lengths g_offsets g_step) ∧
(¬ (0 ≤ to ∧ to < 4) → Q (-1) g_units g_lengths g_offsets g_step))))) ∧
(¬ (0 ≤ gi ∧ gi < 4) → ((0 ≤ hi_ ∧ hi_ < 4 → ((0 ≤ to ∧ to < 4 → Q (-1) g_units g_lengths g_offsets g_step) ∧
(¬ (0 ≤ to ∧ to < 4) → Q (-1) g_units g_lengths g_offsets g_step))) ∧
(¬ (0 ≤ hi_ ∧ hi_ < 4) → ((0 ≤ to ∧ to < 4 → Q (-1) g_units g_lengths g_offsets g_step) ∧
(¬ (0 ≤ to ∧ to < 4) → Q (-1) g_units g_lengths g_offsets g_step))))))
set_option maxHeartbeats 4000000 in
set_option maxRecDepth 100000 in
theorem wk_X7_difference_a (l : Launch) (D : va_G) (cA : Nat → ClassId) (x : Nat) (xa_grids : Nat) (x_grids : Nat → Option Nat) (x_levelMm : Nat) (x_levelCount : Int) (x_water : Nat) (x_scratch : Nat) (x_lines : Nat) (gi : Int) (hi_ : Int) (to : Int) (g : Nat) (ga_units : Nat) (g_units : Nat → Int32) (ga_lengths : Nat) (g_lengths : Nat → Int32) (ga_offsets : Nat) (g_offsets : Nat → Int32) (g_step : Int) (h_x_levelCount : z_in x_levelCount) (h_gi : z_in gi) (h_hi_ : z_in hi_) (h_to : z_in to) (h_g_step : z_in g_step) (hg_gi : 0 ≤ gi ∧ gi < 4 → x_grids gi.toNat = some g) (hg_hi_ : 0 ≤ hi_ ∧ hi_ < 4 → x_grids hi_.toNat = some g) (hg_to : 0 ≤ to ∧ to < 4 → x_grids to.toNat = some g) (Q : Int → (Nat → Int32) → (Nat → Int32) → (Nat → Int32) → Int → Prop) (hv : vc_X7_difference_a gi hi_ to g_units g_lengths g_offsets g_step Q) : Met l yX7_difference wsX7_difference ({ frames := 2, cells := 0, slots := 0, locals := 39 } : Room) (va_Pc [.ref x, .int (z_i gi), .int (z_i hi_), .int (z_i to)] (z_M0 D cA [(x, .inr (5, [.ref xa_grids, .ref x_levelMm, .int (z_i x_levelCount), .ref x_water, .ref x_scratch, .ref x_lines])), (xa_grids, .inl (cA 4, 4, .inr (.inr (.inr (.inr x_grids))))), (g, .inr (1, [.ref ga_units, .ref ga_lengths, .ref ga_offsets, .int (z_i g_step)])), (ga_units, .inl (cA 1, 1280, .inl g_units)), (ga_lengths, .inl (cA 1, 32, .inl g_lengths)), (ga_offsets, .inl (cA 1, 32, .inl g_offsets))])) (va_Qi (z_mi (fun v (u : (Nat → Int32) × (Nat → Int32) × (Nat → Int32) × Int) => z_in u.2.2.2 ∧ Q v u.1 u.2.1 u.2.2.1 u.2.2.2)) (fun (u : (Nat → Int32) × (Nat → Int32) × (Nat → Int32) × Int) t => va_P D vwCl [(x, .inr (5, [.ref xa_grids, .ref x_levelMm, .int (z_i x_levelCount), .ref x_water, .ref x_scratch, .ref x_lines])), (xa_grids, .inl (cA 4, 4, .inr (.inr (.inr (.inr x_grids))))), (g, .inr (1, [.ref ga_units, .ref ga_lengths, .ref ga_offsets, .int (z_i u.2.2.2)])), (ga_units, .inl (cA 1, 1280, .inl u.1)), (ga_lengths, .inl (cA 1, 32, .inl u.2.1)), (ga_offsets, .inl (cA 1, 32, .inl u.2.2.1))] t.heap) (z_A [(x, .inr (5, [.ref xa_grids, .ref x_levelMm, .int (z_i x_levelCount), .ref x_water, .ref x_scratch, .ref x_lines])), (xa_grids, .inl (cA 4, 4, .inr (.inr (.inr (.inr x_grids))))), (g, .inr (1, [.ref ga_units, .ref ga_lengths, .ref ga_offsets, .int (z_i g_step)])), (ga_units, .inl (cA 1, 1280, .inl g_units)), (ga_lengths, .inl (cA 1, 32, .inl g_lengths)), (ga_offsets, .inl (cA 1, 32, .inl g_offsets))])) 0 0 (z_A [(x, .inr (5, [.ref xa_grids, .ref x_levelMm, .int (z_i x_levelCount), .ref x_water, .ref x_scratch, .ref x_lines])), (xa_grids, .inl (cA 4, 4, .inr (.inr (.inr (.inr x_grids))))), (g, .inr (1, [.ref ga_units, .ref ga_lengths, .ref ga_offsets, .int (z_i g_step)])), (ga_units, .inl (cA 1, 1280, .inl g_units)), (ga_lengths, .inl (cA 1, 32, .inl g_lengths)), (ga_offsets, .inl (cA 1, 32, .inl g_offsets))]) := by
  unfold vc_X7_difference_a at hv
  refine Met.ofW (cc := cX7_difference) (maxL := 11) (ret := (some .int)) (by decide +kernel) rfl ?_
  intro p e s m args below meth c s₁ B hml hv0
  obtain ⟨rfl, hK, hP, hD0⟩ := hv0
  have hx := B.exec
  have hb := B.bytes
  have hr := B.returns
  have hts := atoms_spec (ws := wsX7_difference) B.pre
  have hown : s.vm.findClass RX7 = some m.cls := findClass_of_methodNamed B.named
  have hlocks := B.notSynchronized
  have hD := z_D_self hD0
  generalize hAe : z_A [(x, .inr (5, [.ref xa_grids, .ref x_levelMm, .int (z_i x_levelCount), .ref x_water, .ref x_scratch, .ref x_lines])), (xa_grids, .inl (cA 4, 4, .inr (.inr (.inr (.inr x_grids))))), (g, .inr (1, [.ref ga_units, .ref ga_lengths, .ref ga_offsets, .int (z_i g_step)])), (ga_units, .inl (cA 1, 1280, .inl g_units)), (ga_lengths, .inl (cA 1, 32, .inl g_lengths)), (ga_offsets, .inl (cA 1, 32, .inl g_offsets))] = A at *
  have hS : va_S A s.heap s.heap [] := va_S.rf
  have hl := lv_entry ([.ref x, .int (z_i gi), .int (z_i hi_), .int (z_i to)]) (n := 11) (Nat.le_of_ble_eq_true rfl)
  rw [lg_entry_eq]
  generalize (lg_sl ([.ref x, .int (z_i gi), .int (z_i hi_), .int (z_i to)]) ++ List.replicate (11 - (lg_sl ([.ref x, .int (z_i gi), .int (z_i hi_), .int (z_i to)])).length) Slot.unset).toArray = ls at hl ⊢
  have hl : lv_has ls 11 [(0, .ref x), (1, .int (z_i gi)), (2, .int (z_i hi_)), (3, .int (z_i to))] := hl
  refine lv_aload_n hx hb dX7_difference_0 rfl (lv_at hl 0 rfl) ?_
  refine lv_iload_n hx hb dX7_difference_1 rfl (lv_at hl 1 rfl) ?_
  refine va_callq (va_runV (As := [.int (z_i gi)]) (rest := []) ⟨hx, hb, hml, hown, hts⟩ (mt_X7_gridOf l D cA x xa_grids x_grids x_levelMm x_levelCount x_water x_scratch x_lines gi h_x_levelCount h_gi) (cwV 1 hts gX7_difference_X7_gridOf rfl rfl rfl (by decide +kernel) ⟨Nat.le_of_ble_eq_true rfl, Nat.le_of_ble_eq_true rfl⟩) ⟨z_bl0, va_recv hK hP (ci := 5) (q0 := 0) rfl rfl, fun U hU hW => ⟨rfl, z_b0 hK (hP.sub (ws' := [(x, .inr (5, [.ref xa_grids, .ref x_levelMm, .int (z_i x_levelCount), .ref x_water, .ref x_scratch, .ref x_lines])), (xa_grids, .inl (cA 4, 4, .inr (.inr (.inr (.inr x_grids)))))]) [0, 1] rfl) hU hW⟩⟩ rfl rfl hl.1 rfl (lv_room (Nat.le_of_ble_eq_true rfl)) dX7_difference_2 ⟨Nat.zero_le _, Nat.zero_le _⟩) hS (fun q _ h => h.elim) (fun q h => h.elim) (fun r0 u t H locs ht hvm hw hB hz1 hk1 hS => ?_)
  have hq1 := hw
  have hP := z_P_all hP hk1
  by_cases hc : 0 ≤ gi ∧ gi < 4
  · have hv := hv.1 hc
    rw [hq1, if_pos hc, hg_gi hc, z_rf_s]
    refine lv_astore (lv' := [(4, .ref g), (0, .ref x), (1, .int (z_i gi)), (2, .int (z_i hi_)), (3, .int (z_i to))]) hx hb dX7_difference_5 hl (by decide) rfl (fun ls hl => ?_)
    refine lv_aload_n hx hb dX7_difference_7 rfl (lv_at hl 1 rfl) ?_
    refine lv_iload_n hx hb dX7_difference_8 rfl (lv_at hl 3 rfl) ?_
    refine va_callq (va_runV (As := [.int (z_i hi_)]) (rest := []) ⟨hx, hb, hml, hown, hts⟩ (mt_X7_gridOf l D cA x xa_grids x_grids x_levelMm x_levelCount x_water x_scratch x_lines hi_ h_x_levelCount h_hi_) (cwV 1 hts gX7_difference_X7_gridOf rfl rfl rfl (by decide +kernel) ⟨Nat.le_of_ble_eq_true rfl, Nat.le_of_ble_eq_true rfl⟩) ⟨z_bl0, va_recv hK hP (ci := 5) (q0 := 0) rfl rfl, fun U hU hW => ⟨rfl, z_b0 hK (hP.sub (ws' := [(x, .inr (5, [.ref xa_grids, .ref x_levelMm, .int (z_i x_levelCount), .ref x_water, .ref x_scratch, .ref x_lines])), (xa_grids, .inl (cA 4, 4, .inr (.inr (.inr (.inr x_grids)))))]) [0, 1] rfl) hU hW⟩⟩ rfl rfl hl.1 rfl (lv_room (Nat.le_of_ble_eq_true rfl)) dX7_difference_9 ⟨Nat.zero_le _, Nat.zero_le _⟩) hS (fun q _ h => h.elim) (fun q h => h.elim) (fun r0 u t H locs ht hvm hw hB hz1 hk1 hS => ?_)
    have hq2 := hw
    have hP := z_P_all hP hk1
    by_cases hc : 0 ≤ hi_ ∧ hi_ < 4
    · have hv := hv.1 hc
      rw [hq2, if_pos hc, hg_hi_ hc, z_rf_s]
      refine lv_astore (lv' := [(5, .ref g), (4, .ref g), (0, .ref x), (1, .int (z_i gi)), (2, .int (z_i hi_)), (3, .int (z_i to))]) hx hb dX7_difference_12 hl (by decide) rfl (fun ls hl => ?_)
      refine lv_aload_n hx hb dX7_difference_14 rfl (lv_at hl 2 rfl) ?_
      refine lv_iload_n hx hb dX7_difference_15 rfl (lv_at hl 5 rfl) ?_
      refine va_callq (va_runV (As := [.int (z_i to)]) (rest := []) ⟨hx, hb, hml, hown, hts⟩ (mt_X7_gridOf l D cA x xa_grids x_grids x_levelMm x_levelCount x_water x_scratch x_lines to h_x_levelCount h_to) (cwV 1 hts gX7_difference_X7_gridOf rfl rfl rfl (by decide +kernel) ⟨Nat.le_of_ble_eq_true rfl, Nat.le_of_ble_eq_true rfl⟩) ⟨z_bl0, va_recv hK hP (ci := 5) (q0 := 0) rfl rfl, fun U hU hW => ⟨rfl, z_b0 hK (hP.sub (ws' := [(x, .inr (5, [.ref xa_grids, .ref x_levelMm, .int (z_i x_levelCount), .ref x_water, .ref x_scratch, .ref x_lines])), (xa_grids, .inl (cA 4, 4, .inr (.inr (.inr (.inr x_grids)))))]) [0, 1] rfl) hU hW⟩⟩ rfl rfl hl.1 rfl (lv_room (Nat.le_of_ble_eq_true rfl)) dX7_difference_16 ⟨Nat.zero_le _, Nat.zero_le _⟩) hS (fun q _ h => h.elim) (fun q h => h.elim) (fun r0 u t H locs ht hvm hw hB hz1 hk1 hS => ?_)
      have hq3 := hw
      have hP := z_P_all hP hk1
      by_cases hc : 0 ≤ to ∧ to < 4
      · have hv := hv.1 hc
        rw [hq3, if_pos hc, hg_to hc, z_rf_s]
        refine lv_astore (lv' := [(6, .ref g), (5, .ref g), (4, .ref g), (0, .ref x), (1, .int (z_i gi)), (2, .int (z_i hi_)), (3, .int (z_i to))]) hx hb dX7_difference_19 hl (by decide) rfl (fun ls hl => ?_)
        refine lv_aload hx hb dX7_difference_21 (lv_at hl 2 rfl) ?_
        refine lv_ifnull hx hb dX7_difference_23 ?_
        refine lv_aload hx hb dX7_difference_26 (lv_at hl 1 rfl) ?_
        refine lv_ifnull hx hb dX7_difference_28 ?_
        refine lv_aload hx hb dX7_difference_31 (lv_at hl 0 rfl) ?_
        refine lv_ifnonnull (tgt := 38) hx hb dX7_difference_33 (by decide) ?_
        refine lv_iconst (v := z_i 0) hx hb dX7_difference_38 rfl ?_
        refine lv_istore (lv' := [(7, .int (z_i 0)), (6, .ref g), (5, .ref g), (4, .ref g), (0, .ref x), (1, .int (z_i gi)), (2, .int (z_i hi_)), (3, .int (z_i to))]) hx hb dX7_difference_39 hl (by decide) rfl (fun ls hl => ?_)
        refine lv_iconst (v := z_i 0) hx hb dX7_difference_41 rfl ?_
        refine lv_istore (lv' := [(8, .int (z_i 0)), (7, .int (z_i 0)), (6, .ref g), (5, .ref g), (4, .ref g), (0, .ref x), (1, .int (z_i gi)), (2, .int (z_i hi_)), (3, .int (z_i to))]) hx hb dX7_difference_42 hl (by decide) rfl (fun ls hl => ?_)
        refine hv (fun (x44_8 : Int) (x44_7 : Int) (y44_ga_units : Nat → Int32) => ∀ (H : Heap) (locs : List Loc) (ls : Array Slot), va_P D vwCl [(x, .inr (5, [.ref xa_grids, .ref x_levelMm, .int (z_i x_levelCount), .ref x_water, .ref x_scratch, .ref x_lines])), (xa_grids, .inl (cA 4, 4, .inr (.inr (.inr (.inr x_grids))))), (g, .inr (1, [.ref ga_units, .ref ga_lengths, .ref ga_offsets, .int (z_i g_step)])), (ga_units, .inl (cA 1, 1280, .inl y44_ga_units)), (ga_lengths, .inl (cA 1, 32, .inl g_lengths)), (ga_offsets, .inl (cA 1, 32, .inl g_offsets))] H → va_D A [(x, .inr (5, [.ref xa_grids, .ref x_levelMm, .int (z_i x_levelCount), .ref x_water, .ref x_scratch, .ref x_lines])), (xa_grids, .inl (cA 4, 4, .inr (.inr (.inr (.inr x_grids))))), (g, .inr (1, [.ref ga_units, .ref ga_lengths, .ref ga_offsets, .int (z_i g_step)])), (ga_units, .inl (cA 1, 1280, .inl y44_ga_units)), (ga_lengths, .inl (cA 1, 32, .inl g_lengths)), (ga_offsets, .inl (cA 1, 32, .inl g_offsets))] → va_S A s.heap H locs → lv_has ls 11 [(8, .int (z_i x44_8)), (7, .int (z_i x44_7)), (6, .ref g), (5, .ref g), (4, .ref g)] → W p l e _ s m _ below meth c H locs 0 0 _ (F0 m 44 ls [])) ?_ _ _ ls hP hD hS (lv_sub hl [0, 1, 2, 3, 4] rfl)
        intro x44_8 x44_7 y44_ga_units h_x44_8 h_x44_7 hv H locs ls hP hD hS hl
        refine lv_iload hx hb dX7_difference_44 (lv_at hl 0 rfl) ?_
        refine lv_sipush (v := z_i 1280) hx hb dX7_difference_46 (by decide) ?_
        refine lx_icmp_ge (tgt := 147) hx hb dX7_difference_49 (by decide) h_x44_8 (show z_in 1280 from ⟨by decide, by decide⟩) (fun hc => ?_) (fun hc => ?_)
        · have hv := hv.1 hc
          refine lv_aload hx hb dX7_difference_147 (lv_at hl 2 rfl) ?_
          refine lv_aload hx hb dX7_difference_149 (lv_at hl 4 rfl) ?_
          have hFc := z_fr (A := A) (wc := [(g, .inr (1, [.ref ga_units, .ref ga_lengths, .ref ga_offsets, .int (z_i g_step)])), (ga_units, .inl (cA 1, 1280, .inl y44_ga_units)), (ga_lengths, .inl (cA 1, 32, .inl g_lengths)), (ga_offsets, .inl (cA 1, 32, .inl g_offsets))]) hD [2, 3, 4, 5] rfl
          refine va_callv (va_runV (As := [.ref g]) (rest := []) ⟨hx, hb, hml, hown, hts⟩ (mt_X2_takeShape_s l D cA g ga_units y44_ga_units ga_lengths g_lengths ga_offsets g_offsets g_step h_g_step) (cwV 1 hts gX7_difference_X2_takeShape rfl rfl rfl (by decide +kernel) ⟨Nat.le_of_ble_eq_true rfl, Nat.le_of_ble_eq_true rfl⟩) ⟨z_blm0, va_recv hK hP (ci := 1) (q0 := 2) rfl rfl, fun U hU hW => ⟨rfl, z_m0 hK (hP.sub (ws' := [(g, .inr (1, [.ref ga_units, .ref ga_lengths, .ref ga_offsets, .int (z_i g_step)])), (ga_units, .inl (cA 1, 1280, .inl y44_ga_units)), (ga_lengths, .inl (cA 1, 32, .inl g_lengths)), (ga_offsets, .inl (cA 1, 32, .inl g_offsets))]) [2, 3, 4, 5] rfl) (hD.sub (ws' := [(g, .inr (1, [.ref ga_units, .ref ga_lengths, .ref ga_offsets, .int (z_i g_step)])), (ga_units, .inl (cA 1, 1280, .inl y44_ga_units)), (ga_lengths, .inl (cA 1, 32, .inl g_lengths)), (ga_offsets, .inl (cA 1, 32, .inl g_offsets))]) [2, 3, 4, 5] (by decide) rfl) hU hW⟩⟩ rfl rfl hl.1 rfl (lv_room (Nat.le_of_ble_eq_true rfl)) dX7_difference_151 ⟨Nat.zero_le _, Nat.zero_le _⟩) hS (fun q _ h => hFc q h) hFc (fun u t H locs ht hvm hw hB hz1 hk1 hS => ?_)
          obtain ⟨c4, c5, c6⟩ := u
          rw [ht] at hB
          have hP := z_join2 (wc := [(g, .inr (1, [.ref ga_units, .ref ga_lengths, .ref ga_offsets, .int (z_i g_step)])), (ga_units, .inl (cA 1, 1280, .inl y44_ga_units)), (ga_lengths, .inl (cA 1, 32, .inl g_lengths)), (ga_offsets, .inl (cA 1, 32, .inl g_offsets))]) (w1 := [(g, .inr (1, [.ref ga_units, .ref ga_lengths, .ref ga_offsets, .int (z_i c6)])), (ga_units, .inl (cA 1, 1280, .inl y44_ga_units)), (ga_lengths, .inl (cA 1, 32, .inl c4)), (ga_offsets, .inl (cA 1, 32, .inl c5))]) hP hD [2, 3, 4, 5] [0, 0, 1, 2, 3, 4] rfl rfl rfl hk1 hB
          have hP : va_P D vwCl [(x, .inr (5, [.ref xa_grids, .ref x_levelMm, .int (z_i x_levelCount), .ref x_water, .ref x_scratch, .ref x_lines])), (xa_grids, .inl (cA 4, 4, .inr (.inr (.inr (.inr x_grids))))), (g, .inr (1, [.ref ga_units, .ref ga_lengths, .ref ga_offsets, .int (z_i c6)])), (ga_units, .inl (cA 1, 1280, .inl y44_ga_units)), (ga_lengths, .inl (cA 1, 32, .inl c4)), (ga_offsets, .inl (cA 1, 32, .inl c5))] H := hP
          have hD : va_D A [(x, .inr (5, [.ref xa_grids, .ref x_levelMm, .int (z_i x_levelCount), .ref x_water, .ref x_scratch, .ref x_lines])), (xa_grids, .inl (cA 4, 4, .inr (.inr (.inr (.inr x_grids))))), (g, .inr (1, [.ref ga_units, .ref ga_lengths, .ref ga_offsets, .int (z_i c6)])), (ga_units, .inl (cA 1, 1280, .inl y44_ga_units)), (ga_lengths, .inl (cA 1, 32, .inl c4)), (ga_offsets, .inl (cA 1, 32, .inl c5))] := z_D_addr hD rfl
          obtain ⟨h_c6, hw⟩ := hw
          have hv := hv c4 c5 c6 h_c6 hw
          refine lv_iload hx hb dX7_difference_154 (lv_at hl 1 rfl) ?_
          exact W.iret (v := z_i x44_7) hx hb hr (fun t ht hW => ⟨⟨z_i x44_7, (y44_ga_units, c4, c5, c6), rfl, ⟨x44_7, rfl, h_x44_7, h_c6, hv⟩, z_pt hP ht⟩, hS.F ht⟩) hS.2.2 dX7_difference_156
        · have hv := hv.2 hc
          refine lv_aload hx hb dX7_difference_52 (lv_at hl 4 rfl) ?_
          refine lv_iload hx hb dX7_difference_54 (lv_at hl 0 rfl) ?_
          refine va_calli (va_runV (As := [.int (z_i x44_8)]) (rest := []) ⟨hx, hb, hml, hown, hts⟩ (mt_X2_isThere l D cA g ga_units y44_ga_units ga_lengths g_lengths ga_offsets g_offsets g_step x44_8 h_g_step h_x44_8) (cwV 1 hts gX7_difference_X2_isThere rfl rfl rfl (by decide +kernel) ⟨Nat.le_of_ble_eq_true rfl, Nat.le_of_ble_eq_true rfl⟩) ⟨z_bl0, va_recv hK hP (ci := 1) (q0 := 2) rfl rfl, fun U hU hW => ⟨rfl, z_b0 hK (hP.sub (ws' := [(g, .inr (1, [.ref ga_units, .ref ga_lengths, .ref ga_offsets, .int (z_i g_step)])), (ga_units, .inl (cA 1, 1280, .inl y44_ga_units)), (ga_lengths, .inl (cA 1, 32, .inl g_lengths)), (ga_offsets, .inl (cA 1, 32, .inl g_offsets))]) [2, 3, 4, 5] rfl) hU hW⟩⟩ rfl rfl hl.1 rfl (lv_room (Nat.le_of_ble_eq_true rfl)) dX7_difference_56 ⟨Nat.zero_le _, Nat.zero_le _⟩) hS (fun q _ h => h.elim) (fun q h => h.elim) (fun r0 u t H locs ht hvm hw hB hz1 hk1 hS => ?_)
          obtain ⟨r7, rfl, h_r7, hw⟩ := hw
          have hP := z_P_all hP hk1
          have hv := hv r7 h_r7 hw
          refine lx_if_eq (tgt := 76) hx hb dX7_difference_59 (by decide) h_r7 (fun hc => ?_) (fun hc => ?_)
          · have hv := hv.1 hc
            refine lv_iconst (v := z_i 0) hx hb dX7_difference_76 rfl ?_
            refine lv_istore (lv' := [(9, .int (z_i 0)), (8, .int (z_i x44_8)), (7, .int (z_i x44_7)), (6, .ref g), (5, .ref g), (4, .ref g)]) hx hb dX7_difference_77 hl (by decide) rfl (fun ls hl => ?_)
            refine lv_iload hx hb dX7_difference_79 (lv_at hl 0 rfl) ?_
            refine lx_if_eq (tgt := 102) hx hb dX7_difference_81 (by decide) ⟨by decide, by decide⟩ (fun _ => ?_) (fun hc => absurd hc (by decide))
            refine lx_ldc (a := (-2147483648)) hx hb hown (hts (.constant RX7 61 (-2147483648)) (by decide +kernel)) (by decide) dX7_difference_102 ?_
            refine lv_istore (lv' := [(10, .int (z_i (-2147483648))), (9, .int (z_i 0)), (8, .int (z_i x44_8)), (7, .int (z_i x44_7)), (6, .ref g), (5, .ref g), (4, .ref g)]) hx hb dX7_difference_104 hl (by decide) rfl (fun ls hl => ?_)
            refine lv_iload hx hb dX7_difference_106 (lv_at hl 1 rfl) ?_
            refine lx_if_eq (tgt := 132) hx hb dX7_difference_108 (by decide) ⟨by decide, by decide⟩ (fun _ => ?_) (fun hc => absurd hc (by decide))
            refine lv_aload hx hb dX7_difference_132 (lv_at hl 4 rfl) ?_
            refine lv_iload hx hb dX7_difference_134 (lv_at hl 2 rfl) ?_
            refine lv_iload hx hb dX7_difference_136 (lv_at hl 0 rfl) ?_
            obtain ⟨hp8, hv⟩ := hv
            have hFc := z_fr (A := A) (wc := [(g, .inr (1, [.ref ga_units, .ref ga_lengths, .ref ga_offsets, .int (z_i g_step)])), (ga_units, .inl (cA 1, 1280, .inl y44_ga_units)), (ga_lengths, .inl (cA 1, 32, .inl g_lengths)), (ga_offsets, .inl (cA 1, 32, .inl g_offsets))]) hD [2, 3, 4, 5] rfl
            refine va_callv (va_runV (As := [.int (z_i x44_8), .int (z_i (-2147483648))]) (rest := []) ⟨hx, hb, hml, hown, hts⟩ (mt_X2_put l D cA g ga_units y44_ga_units ga_lengths g_lengths ga_offsets g_offsets g_step x44_8 (-2147483648) h_g_step h_x44_8 (show z_in (-2147483648) from ⟨by decide, by decide⟩) hp8) (cwV 2 hts gX7_difference_X2_put rfl rfl rfl (by decide +kernel) ⟨Nat.le_of_ble_eq_true rfl, Nat.le_of_ble_eq_true rfl⟩) ⟨z_blm0, va_recv hK hP (ci := 1) (q0 := 2) rfl rfl, fun U hU hW => ⟨rfl, z_m0 hK (hP.sub (ws' := [(g, .inr (1, [.ref ga_units, .ref ga_lengths, .ref ga_offsets, .int (z_i g_step)])), (ga_units, .inl (cA 1, 1280, .inl y44_ga_units)), (ga_lengths, .inl (cA 1, 32, .inl g_lengths)), (ga_offsets, .inl (cA 1, 32, .inl g_offsets))]) [2, 3, 4, 5] rfl) (hD.sub (ws' := [(g, .inr (1, [.ref ga_units, .ref ga_lengths, .ref ga_offsets, .int (z_i g_step)])), (ga_units, .inl (cA 1, 1280, .inl y44_ga_units)), (ga_lengths, .inl (cA 1, 32, .inl g_lengths)), (ga_offsets, .inl (cA 1, 32, .inl g_offsets))]) [2, 3, 4, 5] (by decide) rfl) hU hW⟩⟩ rfl rfl hl.1 rfl (lv_room (Nat.le_of_ble_eq_true rfl)) dX7_difference_138 ⟨Nat.zero_le _, Nat.zero_le _⟩) hS (fun q _ h => hFc q h) hFc (fun u t H locs ht hvm hw hB hz1 hk1 hS => ?_)
            obtain ⟨c9, rfl⟩ : ∃ z, z = u := ⟨_, rfl⟩
            rw [ht] at hB
            have hP := z_join2 (wc := [(g, .inr (1, [.ref ga_units, .ref ga_lengths, .ref ga_offsets, .int (z_i g_step)])), (ga_units, .inl (cA 1, 1280, .inl y44_ga_units)), (ga_lengths, .inl (cA 1, 32, .inl g_lengths)), (ga_offsets, .inl (cA 1, 32, .inl g_offsets))]) (w1 := [(g, .inr (1, [.ref ga_units, .ref ga_lengths, .ref ga_offsets, .int (z_i g_step)])), (ga_units, .inl (cA 1, 1280, .inl c9)), (ga_lengths, .inl (cA 1, 32, .inl g_lengths)), (ga_offsets, .inl (cA 1, 32, .inl g_offsets))]) hP hD [2, 3, 4, 5] [0, 0, 1, 2, 3, 4] rfl rfl rfl hk1 hB
            have hP : va_P D vwCl [(x, .inr (5, [.ref xa_grids, .ref x_levelMm, .int (z_i x_levelCount), .ref x_water, .ref x_scratch, .ref x_lines])), (xa_grids, .inl (cA 4, 4, .inr (.inr (.inr (.inr x_grids))))), (g, .inr (1, [.ref ga_units, .ref ga_lengths, .ref ga_offsets, .int (z_i g_step)])), (ga_units, .inl (cA 1, 1280, .inl c9)), (ga_lengths, .inl (cA 1, 32, .inl g_lengths)), (ga_offsets, .inl (cA 1, 32, .inl g_offsets))] H := hP
            have hD : va_D A [(x, .inr (5, [.ref xa_grids, .ref x_levelMm, .int (z_i x_levelCount), .ref x_water, .ref x_scratch, .ref x_lines])), (xa_grids, .inl (cA 4, 4, .inr (.inr (.inr (.inr x_grids))))), (g, .inr (1, [.ref ga_units, .ref ga_lengths, .ref ga_offsets, .int (z_i g_step)])), (ga_units, .inl (cA 1, 1280, .inl c9)), (ga_lengths, .inl (cA 1, 32, .inl g_lengths)), (ga_offsets, .inl (cA 1, 32, .inl g_offsets))] := z_D_addr hD rfl
            have hv := hv c9 hw
            refine lv_iinc (v := z_i (x44_8 + 1)) (lv' := [(8, .int (z_i (x44_8 + 1))), (10, .int (z_i (-2147483648))), (9, .int (z_i 0)), (7, .int (z_i x44_7)), (6, .ref g), (5, .ref g), (4, .ref g)]) hx hb dX7_difference_141 hl (k := 2) rfl (z_i_add _ _) (by decide) rfl (fun ls hl => ?_)
            refine lv_goto (tgt := 44) hx hb dX7_difference_144 (by decide) ?_
            exact hv _ _ ls hP hD hS (lv_sub hl [0, 3, 4, 5, 6] rfl)
          · have hv := hv.2 hc
            refine lv_aload hx hb dX7_difference_62 (lv_at hl 3 rfl) ?_
            refine lv_iload hx hb dX7_difference_64 (lv_at hl 0 rfl) ?_
            refine va_calli (va_runV (As := [.int (z_i x44_8)]) (rest := []) ⟨hx, hb, hml, hown, hts⟩ (mt_X2_isThere l D cA g ga_units y44_ga_units ga_lengths g_lengths ga_offsets g_offsets g_step x44_8 h_g_step h_x44_8) (cwV 1 hts gX7_difference_X2_isThere rfl rfl rfl (by decide +kernel) ⟨Nat.le_of_ble_eq_true rfl, Nat.le_of_ble_eq_true rfl⟩) ⟨z_bl0, va_recv hK hP (ci := 1) (q0 := 2) rfl rfl, fun U hU hW => ⟨rfl, z_b0 hK (hP.sub (ws' := [(g, .inr (1, [.ref ga_units, .ref ga_lengths, .ref ga_offsets, .int (z_i g_step)])), (ga_units, .inl (cA 1, 1280, .inl y44_ga_units)), (ga_lengths, .inl (cA 1, 32, .inl g_lengths)), (ga_offsets, .inl (cA 1, 32, .inl g_offsets))]) [2, 3, 4, 5] rfl) hU hW⟩⟩ rfl rfl hl.1 rfl (lv_room (Nat.le_of_ble_eq_true rfl)) dX7_difference_66 ⟨Nat.zero_le _, Nat.zero_le _⟩) hS (fun q _ h => h.elim) (fun q h => h.elim) (fun r0 u t H locs ht hvm hw hB hz1 hk1 hS => ?_)
            obtain ⟨r10, rfl, h_r10, hw⟩ := hw
            have hP := z_P_all hP hk1
            have hv := hv r10 h_r10 hw
            refine lx_if_eq (tgt := 76) hx hb dX7_difference_69 (by decide) h_r10 (fun hc => ?_) (fun hc => ?_)
            · have hv := hv.1 hc
              refine lv_iconst (v := z_i 0) hx hb dX7_difference_76 rfl ?_
              refine lv_istore (lv' := [(9, .int (z_i 0)), (8, .int (z_i x44_8)), (7, .int (z_i x44_7)), (6, .ref g), (5, .ref g), (4, .ref g)]) hx hb dX7_difference_77 hl (by decide) rfl (fun ls hl => ?_)
              refine lv_iload hx hb dX7_difference_79 (lv_at hl 0 rfl) ?_
              refine lx_if_eq (tgt := 102) hx hb dX7_difference_81 (by decide) ⟨by decide, by decide⟩ (fun _ => ?_) (fun hc => absurd hc (by decide))
              refine lx_ldc (a := (-2147483648)) hx hb hown (hts (.constant RX7 61 (-2147483648)) (by decide +kernel)) (by decide) dX7_difference_102 ?_
              refine lv_istore (lv' := [(10, .int (z_i (-2147483648))), (9, .int (z_i 0)), (8, .int (z_i x44_8)), (7, .int (z_i x44_7)), (6, .ref g), (5, .ref g), (4, .ref g)]) hx hb dX7_difference_104 hl (by decide) rfl (fun ls hl => ?_)
              refine lv_iload hx hb dX7_difference_106 (lv_at hl 1 rfl) ?_
              refine lx_if_eq (tgt := 132) hx hb dX7_difference_108 (by decide) ⟨by decide, by decide⟩ (fun _ => ?_) (fun hc => absurd hc (by decide))
              refine lv_aload hx hb dX7_difference_132 (lv_at hl 4 rfl) ?_
              refine lv_iload hx hb dX7_difference_134 (lv_at hl 2 rfl) ?_
              refine lv_iload hx hb dX7_difference_136 (lv_at hl 0 rfl) ?_
              obtain ⟨hp11, hv⟩ := hv
              have hFc := z_fr (A := A) (wc := [(g, .inr (1, [.ref ga_units, .ref ga_lengths, .ref ga_offsets, .int (z_i g_step)])), (ga_units, .inl (cA 1, 1280, .inl y44_ga_units)), (ga_lengths, .inl (cA 1, 32, .inl g_lengths)), (ga_offsets, .inl (cA 1, 32, .inl g_offsets))]) hD [2, 3, 4, 5] rfl
              refine va_callv (va_runV (As := [.int (z_i x44_8), .int (z_i (-2147483648))]) (rest := []) ⟨hx, hb, hml, hown, hts⟩ (mt_X2_put l D cA g ga_units y44_ga_units ga_lengths g_lengths ga_offsets g_offsets g_step x44_8 (-2147483648) h_g_step h_x44_8 (show z_in (-2147483648) from ⟨by decide, by decide⟩) hp11) (cwV 2 hts gX7_difference_X2_put rfl rfl rfl (by decide +kernel) ⟨Nat.le_of_ble_eq_true rfl, Nat.le_of_ble_eq_true rfl⟩) ⟨z_blm0, va_recv hK hP (ci := 1) (q0 := 2) rfl rfl, fun U hU hW => ⟨rfl, z_m0 hK (hP.sub (ws' := [(g, .inr (1, [.ref ga_units, .ref ga_lengths, .ref ga_offsets, .int (z_i g_step)])), (ga_units, .inl (cA 1, 1280, .inl y44_ga_units)), (ga_lengths, .inl (cA 1, 32, .inl g_lengths)), (ga_offsets, .inl (cA 1, 32, .inl g_offsets))]) [2, 3, 4, 5] rfl) (hD.sub (ws' := [(g, .inr (1, [.ref ga_units, .ref ga_lengths, .ref ga_offsets, .int (z_i g_step)])), (ga_units, .inl (cA 1, 1280, .inl y44_ga_units)), (ga_lengths, .inl (cA 1, 32, .inl g_lengths)), (ga_offsets, .inl (cA 1, 32, .inl g_offsets))]) [2, 3, 4, 5] (by decide) rfl) hU hW⟩⟩ rfl rfl hl.1 rfl (lv_room (Nat.le_of_ble_eq_true rfl)) dX7_difference_138 ⟨Nat.zero_le _, Nat.zero_le _⟩) hS (fun q _ h => hFc q h) hFc (fun u t H locs ht hvm hw hB hz1 hk1 hS => ?_)
              obtain ⟨c12, rfl⟩ : ∃ z, z = u := ⟨_, rfl⟩
              rw [ht] at hB
              have hP := z_join2 (wc := [(g, .inr (1, [.ref ga_units, .ref ga_lengths, .ref ga_offsets, .int (z_i g_step)])), (ga_units, .inl (cA 1, 1280, .inl y44_ga_units)), (ga_lengths, .inl (cA 1, 32, .inl g_lengths)), (ga_offsets, .inl (cA 1, 32, .inl g_offsets))]) (w1 := [(g, .inr (1, [.ref ga_units, .ref ga_lengths, .ref ga_offsets, .int (z_i g_step)])), (ga_units, .inl (cA 1, 1280, .inl c12)), (ga_lengths, .inl (cA 1, 32, .inl g_lengths)), (ga_offsets, .inl (cA 1, 32, .inl g_offsets))]) hP hD [2, 3, 4, 5] [0, 0, 1, 2, 3, 4] rfl rfl rfl hk1 hB
              have hP : va_P D vwCl [(x, .inr (5, [.ref xa_grids, .ref x_levelMm, .int (z_i x_levelCount), .ref x_water, .ref x_scratch, .ref x_lines])), (xa_grids, .inl (cA 4, 4, .inr (.inr (.inr (.inr x_grids))))), (g, .inr (1, [.ref ga_units, .ref ga_lengths, .ref ga_offsets, .int (z_i g_step)])), (ga_units, .inl (cA 1, 1280, .inl c12)), (ga_lengths, .inl (cA 1, 32, .inl g_lengths)), (ga_offsets, .inl (cA 1, 32, .inl g_offsets))] H := hP
              have hD : va_D A [(x, .inr (5, [.ref xa_grids, .ref x_levelMm, .int (z_i x_levelCount), .ref x_water, .ref x_scratch, .ref x_lines])), (xa_grids, .inl (cA 4, 4, .inr (.inr (.inr (.inr x_grids))))), (g, .inr (1, [.ref ga_units, .ref ga_lengths, .ref ga_offsets, .int (z_i g_step)])), (ga_units, .inl (cA 1, 1280, .inl c12)), (ga_lengths, .inl (cA 1, 32, .inl g_lengths)), (ga_offsets, .inl (cA 1, 32, .inl g_offsets))] := z_D_addr hD rfl
              have hv := hv c12 hw
              refine lv_iinc (v := z_i (x44_8 + 1)) (lv' := [(8, .int (z_i (x44_8 + 1))), (10, .int (z_i (-2147483648))), (9, .int (z_i 0)), (7, .int (z_i x44_7)), (6, .ref g), (5, .ref g), (4, .ref g)]) hx hb dX7_difference_141 hl (k := 2) rfl (z_i_add _ _) (by decide) rfl (fun ls hl => ?_)
              refine lv_goto (tgt := 44) hx hb dX7_difference_144 (by decide) ?_
              exact hv _ _ ls hP hD hS (lv_sub hl [0, 3, 4, 5, 6] rfl)
            · have hv := hv.2 hc
              refine lv_iconst (v := z_i 1) hx hb dX7_difference_72 rfl ?_
              refine lv_goto (tgt := 77) hx hb dX7_difference_73 (by decide) ?_
              refine lv_istore (lv' := [(9, .int (z_i 1)), (8, .int (z_i x44_8)), (7, .int (z_i x44_7)), (6, .ref g), (5, .ref g), (4, .ref g)]) hx hb dX7_difference_77 hl (by decide) rfl (fun ls hl => ?_)
              refine lv_iload hx hb dX7_difference_79 (lv_at hl 0 rfl) ?_
              refine lx_if_eq (tgt := 102) hx hb dX7_difference_81 (by decide) ⟨by decide, by decide⟩ (fun hc => absurd hc (by decide)) (fun _ => ?_)
              refine lv_aload hx hb dX7_difference_84 (lv_at hl 5 rfl) ?_
              refine lv_iload hx hb dX7_difference_86 (lv_at hl 1 rfl) ?_
              refine va_calli (va_runV (As := [.int (z_i x44_8)]) (rest := []) ⟨hx, hb, hml, hown, hts⟩ (mt_X2_unitsOf l D cA g ga_units y44_ga_units ga_lengths g_lengths ga_offsets g_offsets g_step x44_8 h_g_step h_x44_8) (cwV 1 hts gX7_difference_X2_unitsOf rfl rfl rfl (by decide +kernel) ⟨Nat.le_of_ble_eq_true rfl, Nat.le_of_ble_eq_true rfl⟩) ⟨z_bl0, va_recv hK hP (ci := 1) (q0 := 2) rfl rfl, fun U hU hW => ⟨rfl, z_b0 hK (hP.sub (ws' := [(g, .inr (1, [.ref ga_units, .ref ga_lengths, .ref ga_offsets, .int (z_i g_step)])), (ga_units, .inl (cA 1, 1280, .inl y44_ga_units)), (ga_lengths, .inl (cA 1, 32, .inl g_lengths)), (ga_offsets, .inl (cA 1, 32, .inl g_offsets))]) [2, 3, 4, 5] rfl) hU hW⟩⟩ rfl rfl hl.1 rfl (lv_room (Nat.le_of_ble_eq_true rfl)) dX7_difference_88 ⟨Nat.zero_le _, Nat.zero_le _⟩) hS (fun q _ h => h.elim) (fun q h => h.elim) (fun r0 u t H locs ht hvm hw hB hz1 hk1 hS => ?_)
              obtain ⟨r13, rfl, h_r13, hw⟩ := hw
              have hP := z_P_all hP hk1
              have hv := hv r13 h_r13 hw
              refine lv_aload hx hb dX7_difference_91 (lv_at hl 4 rfl) ?_
              refine lv_iload hx hb dX7_difference_93 (lv_at hl 1 rfl) ?_
              refine va_calli (va_runV (As := [.int (z_i x44_8)]) (rest := [.int (z_i r13)]) ⟨hx, hb, hml, hown, hts⟩ (mt_X2_unitsOf l D cA g ga_units y44_ga_units ga_lengths g_lengths ga_offsets g_offsets g_step x44_8 h_g_step h_x44_8) (cwV 1 hts gX7_difference_X2_unitsOf rfl rfl rfl (by decide +kernel) ⟨Nat.le_of_ble_eq_true rfl, Nat.le_of_ble_eq_true rfl⟩) ⟨z_bl0, va_recv hK hP (ci := 1) (q0 := 2) rfl rfl, fun U hU hW => ⟨rfl, z_b0 hK (hP.sub (ws' := [(g, .inr (1, [.ref ga_units, .ref ga_lengths, .ref ga_offsets, .int (z_i g_step)])), (ga_units, .inl (cA 1, 1280, .inl y44_ga_units)), (ga_lengths, .inl (cA 1, 32, .inl g_lengths)), (ga_offsets, .inl (cA 1, 32, .inl g_offsets))]) [2, 3, 4, 5] rfl) hU hW⟩⟩ rfl rfl hl.1 rfl (lv_room (Nat.le_of_ble_eq_true rfl)) dX7_difference_95 ⟨Nat.zero_le _, Nat.zero_le _⟩) hS (fun q _ h => h.elim) (fun q h => h.elim) (fun r0 u t H locs ht hvm hw hB hz1 hk1 hS => ?_)
              obtain ⟨r14, rfl, h_r14, hw⟩ := hw
              have hP := z_P_all hP hk1
              have hv := hv r14 h_r14 hw
              refine lx_isub hx hb dX7_difference_98 ?_
              refine lv_goto (tgt := 104) hx hb dX7_difference_99 (by decide) ?_
              obtain ⟨hr16, hv⟩ := hv
              refine lx_topi (fun v15 hy17 => ?_)
              have hv := hv v15 hy17
              have h_v15 : z_in v15 := by rw [hy17]; exact hr16
              refine lv_istore (lv' := [(10, .int (z_i v15)), (9, .int (z_i 1)), (8, .int (z_i x44_8)), (7, .int (z_i x44_7)), (6, .ref g), (5, .ref g), (4, .ref g)]) hx hb dX7_difference_104 hl (by decide) rfl (fun ls hl => ?_)
              refine lv_iload hx hb dX7_difference_106 (lv_at hl 1 rfl) ?_
              refine lx_if_eq (tgt := 132) hx hb dX7_difference_108 (by decide) ⟨by decide, by decide⟩ (fun hc => absurd hc (by decide)) (fun _ => ?_)
              refine lv_iload hx hb dX7_difference_111 (lv_at hl 0 rfl) ?_
              refine lx_ldc (a := (-8388608)) hx hb hown (hts (.constant RX7 180 (-8388608)) (by decide +kernel)) (by decide) dX7_difference_113 ?_
              refine lx_icmp_lt (tgt := 125) hx hb dX7_difference_115 (by decide) h_v15 (show z_in (-8388608) from ⟨by decide, by decide⟩) (fun hc => ?_) (fun hc => ?_)
              · have hv := hv.1 hc
                refine lv_iinc (v := z_i (x44_7 + 1)) (lv' := [(7, .int (z_i (x44_7 + 1))), (10, .int (z_i v15)), (9, .int (z_i 1)), (8, .int (z_i x44_8)), (6, .ref g), (5, .ref g), (4, .ref g)]) hx hb dX7_difference_125 hl (k := 3) rfl (z_i_add _ _) (by decide) rfl (fun ls hl => ?_)
                refine lx_ldc (a := (-2147483648)) hx hb hown (hts (.constant RX7 61 (-2147483648)) (by decide +kernel)) (by decide) dX7_difference_128 ?_
                refine lv_istore (lv' := [(10, .int (z_i (-2147483648))), (7, .int (z_i (x44_7 + 1))), (9, .int (z_i 1)), (8, .int (z_i x44_8)), (6, .ref g), (5, .ref g), (4, .ref g)]) hx hb dX7_difference_130 hl (by decide) rfl (fun ls hl => ?_)
                refine lv_aload hx hb dX7_difference_132 (lv_at hl 4 rfl) ?_
                refine lv_iload hx hb dX7_difference_134 (lv_at hl 3 rfl) ?_
                refine lv_iload hx hb dX7_difference_136 (lv_at hl 0 rfl) ?_
                obtain ⟨hp18, hv⟩ := hv
                have hFc := z_fr (A := A) (wc := [(g, .inr (1, [.ref ga_units, .ref ga_lengths, .ref ga_offsets, .int (z_i g_step)])), (ga_units, .inl (cA 1, 1280, .inl y44_ga_units)), (ga_lengths, .inl (cA 1, 32, .inl g_lengths)), (ga_offsets, .inl (cA 1, 32, .inl g_offsets))]) hD [2, 3, 4, 5] rfl
                refine va_callv (va_runV (As := [.int (z_i x44_8), .int (z_i (-2147483648))]) (rest := []) ⟨hx, hb, hml, hown, hts⟩ (mt_X2_put l D cA g ga_units y44_ga_units ga_lengths g_lengths ga_offsets g_offsets g_step x44_8 (-2147483648) h_g_step h_x44_8 (show z_in (-2147483648) from ⟨by decide, by decide⟩) hp18) (cwV 2 hts gX7_difference_X2_put rfl rfl rfl (by decide +kernel) ⟨Nat.le_of_ble_eq_true rfl, Nat.le_of_ble_eq_true rfl⟩) ⟨z_blm0, va_recv hK hP (ci := 1) (q0 := 2) rfl rfl, fun U hU hW => ⟨rfl, z_m0 hK (hP.sub (ws' := [(g, .inr (1, [.ref ga_units, .ref ga_lengths, .ref ga_offsets, .int (z_i g_step)])), (ga_units, .inl (cA 1, 1280, .inl y44_ga_units)), (ga_lengths, .inl (cA 1, 32, .inl g_lengths)), (ga_offsets, .inl (cA 1, 32, .inl g_offsets))]) [2, 3, 4, 5] rfl) (hD.sub (ws' := [(g, .inr (1, [.ref ga_units, .ref ga_lengths, .ref ga_offsets, .int (z_i g_step)])), (ga_units, .inl (cA 1, 1280, .inl y44_ga_units)), (ga_lengths, .inl (cA 1, 32, .inl g_lengths)), (ga_offsets, .inl (cA 1, 32, .inl g_offsets))]) [2, 3, 4, 5] (by decide) rfl) hU hW⟩⟩ rfl rfl hl.1 rfl (lv_room (Nat.le_of_ble_eq_true rfl)) dX7_difference_138 ⟨Nat.zero_le _, Nat.zero_le _⟩) hS (fun q _ h => hFc q h) hFc (fun u t H locs ht hvm hw hB hz1 hk1 hS => ?_)
                obtain ⟨c19, rfl⟩ : ∃ z, z = u := ⟨_, rfl⟩
                rw [ht] at hB
                have hP := z_join2 (wc := [(g, .inr (1, [.ref ga_units, .ref ga_lengths, .ref ga_offsets, .int (z_i g_step)])), (ga_units, .inl (cA 1, 1280, .inl y44_ga_units)), (ga_lengths, .inl (cA 1, 32, .inl g_lengths)), (ga_offsets, .inl (cA 1, 32, .inl g_offsets))]) (w1 := [(g, .inr (1, [.ref ga_units, .ref ga_lengths, .ref ga_offsets, .int (z_i g_step)])), (ga_units, .inl (cA 1, 1280, .inl c19)), (ga_lengths, .inl (cA 1, 32, .inl g_lengths)), (ga_offsets, .inl (cA 1, 32, .inl g_offsets))]) hP hD [2, 3, 4, 5] [0, 0, 1, 2, 3, 4] rfl rfl rfl hk1 hB
                have hP : va_P D vwCl [(x, .inr (5, [.ref xa_grids, .ref x_levelMm, .int (z_i x_levelCount), .ref x_water, .ref x_scratch, .ref x_lines])), (xa_grids, .inl (cA 4, 4, .inr (.inr (.inr (.inr x_grids))))), (g, .inr (1, [.ref ga_units, .ref ga_lengths, .ref ga_offsets, .int (z_i g_step)])), (ga_units, .inl (cA 1, 1280, .inl c19)), (ga_lengths, .inl (cA 1, 32, .inl g_lengths)), (ga_offsets, .inl (cA 1, 32, .inl g_offsets))] H := hP
                have hD : va_D A [(x, .inr (5, [.ref xa_grids, .ref x_levelMm, .int (z_i x_levelCount), .ref x_water, .ref x_scratch, .ref x_lines])), (xa_grids, .inl (cA 4, 4, .inr (.inr (.inr (.inr x_grids))))), (g, .inr (1, [.ref ga_units, .ref ga_lengths, .ref ga_offsets, .int (z_i g_step)])), (ga_units, .inl (cA 1, 1280, .inl c19)), (ga_lengths, .inl (cA 1, 32, .inl g_lengths)), (ga_offsets, .inl (cA 1, 32, .inl g_offsets))] := z_D_addr hD rfl
                have hv := hv c19 hw
                refine lv_iinc (v := z_i (x44_8 + 1)) (lv' := [(8, .int (z_i (x44_8 + 1))), (10, .int (z_i (-2147483648))), (7, .int (z_i (x44_7 + 1))), (9, .int (z_i 1)), (6, .ref g), (5, .ref g), (4, .ref g)]) hx hb dX7_difference_141 hl (k := 3) rfl (z_i_add _ _) (by decide) rfl (fun ls hl => ?_)
                refine lv_goto (tgt := 44) hx hb dX7_difference_144 (by decide) ?_
                exact hv _ _ ls hP hD hS (lv_sub hl [0, 2, 4, 5, 6] rfl)
              · have hv := hv.2 hc
                refine lv_iload hx hb dX7_difference_118 (lv_at hl 0 rfl) ?_
                refine lx_ldc (a := 8388608) hx hb hown (hts (.constant RX7 181 (8388608)) (by decide +kernel)) (by decide) dX7_difference_120 ?_
                refine lx_icmp_le (tgt := 132) hx hb dX7_difference_122 (by decide) h_v15 (show z_in 8388608 from ⟨by decide, by decide⟩) (fun hc => ?_) (fun hc => ?_)
                · have hv := hv.1 hc
                  refine lv_aload hx hb dX7_difference_132 (lv_at hl 4 rfl) ?_
                  refine lv_iload hx hb dX7_difference_134 (lv_at hl 2 rfl) ?_
                  refine lv_iload hx hb dX7_difference_136 (lv_at hl 0 rfl) ?_
                  obtain ⟨hp20, hv⟩ := hv
                  have hFc := z_fr (A := A) (wc := [(g, .inr (1, [.ref ga_units, .ref ga_lengths, .ref ga_offsets, .int (z_i g_step)])), (ga_units, .inl (cA 1, 1280, .inl y44_ga_units)), (ga_lengths, .inl (cA 1, 32, .inl g_lengths)), (ga_offsets, .inl (cA 1, 32, .inl g_offsets))]) hD [2, 3, 4, 5] rfl
                  refine va_callv (va_runV (As := [.int (z_i x44_8), .int (z_i v15)]) (rest := []) ⟨hx, hb, hml, hown, hts⟩ (mt_X2_put l D cA g ga_units y44_ga_units ga_lengths g_lengths ga_offsets g_offsets g_step x44_8 v15 h_g_step h_x44_8 h_v15 hp20) (cwV 2 hts gX7_difference_X2_put rfl rfl rfl (by decide +kernel) ⟨Nat.le_of_ble_eq_true rfl, Nat.le_of_ble_eq_true rfl⟩) ⟨z_blm0, va_recv hK hP (ci := 1) (q0 := 2) rfl rfl, fun U hU hW => ⟨rfl, z_m0 hK (hP.sub (ws' := [(g, .inr (1, [.ref ga_units, .ref ga_lengths, .ref ga_offsets, .int (z_i g_step)])), (ga_units, .inl (cA 1, 1280, .inl y44_ga_units)), (ga_lengths, .inl (cA 1, 32, .inl g_lengths)), (ga_offsets, .inl (cA 1, 32, .inl g_offsets))]) [2, 3, 4, 5] rfl) (hD.sub (ws' := [(g, .inr (1, [.ref ga_units, .ref ga_lengths, .ref ga_offsets, .int (z_i g_step)])), (ga_units, .inl (cA 1, 1280, .inl y44_ga_units)), (ga_lengths, .inl (cA 1, 32, .inl g_lengths)), (ga_offsets, .inl (cA 1, 32, .inl g_offsets))]) [2, 3, 4, 5] (by decide) rfl) hU hW⟩⟩ rfl rfl hl.1 rfl (lv_room (Nat.le_of_ble_eq_true rfl)) dX7_difference_138 ⟨Nat.zero_le _, Nat.zero_le _⟩) hS (fun q _ h => hFc q h) hFc (fun u t H locs ht hvm hw hB hz1 hk1 hS => ?_)
                  obtain ⟨c21, rfl⟩ : ∃ z, z = u := ⟨_, rfl⟩
                  rw [ht] at hB
                  have hP := z_join2 (wc := [(g, .inr (1, [.ref ga_units, .ref ga_lengths, .ref ga_offsets, .int (z_i g_step)])), (ga_units, .inl (cA 1, 1280, .inl y44_ga_units)), (ga_lengths, .inl (cA 1, 32, .inl g_lengths)), (ga_offsets, .inl (cA 1, 32, .inl g_offsets))]) (w1 := [(g, .inr (1, [.ref ga_units, .ref ga_lengths, .ref ga_offsets, .int (z_i g_step)])), (ga_units, .inl (cA 1, 1280, .inl c21)), (ga_lengths, .inl (cA 1, 32, .inl g_lengths)), (ga_offsets, .inl (cA 1, 32, .inl g_offsets))]) hP hD [2, 3, 4, 5] [0, 0, 1, 2, 3, 4] rfl rfl rfl hk1 hB
                  have hP : va_P D vwCl [(x, .inr (5, [.ref xa_grids, .ref x_levelMm, .int (z_i x_levelCount), .ref x_water, .ref x_scratch, .ref x_lines])), (xa_grids, .inl (cA 4, 4, .inr (.inr (.inr (.inr x_grids))))), (g, .inr (1, [.ref ga_units, .ref ga_lengths, .ref ga_offsets, .int (z_i g_step)])), (ga_units, .inl (cA 1, 1280, .inl c21)), (ga_lengths, .inl (cA 1, 32, .inl g_lengths)), (ga_offsets, .inl (cA 1, 32, .inl g_offsets))] H := hP
                  have hD : va_D A [(x, .inr (5, [.ref xa_grids, .ref x_levelMm, .int (z_i x_levelCount), .ref x_water, .ref x_scratch, .ref x_lines])), (xa_grids, .inl (cA 4, 4, .inr (.inr (.inr (.inr x_grids))))), (g, .inr (1, [.ref ga_units, .ref ga_lengths, .ref ga_offsets, .int (z_i g_step)])), (ga_units, .inl (cA 1, 1280, .inl c21)), (ga_lengths, .inl (cA 1, 32, .inl g_lengths)), (ga_offsets, .inl (cA 1, 32, .inl g_offsets))] := z_D_addr hD rfl
                  have hv := hv c21 hw
                  refine lv_iinc (v := z_i (x44_8 + 1)) (lv' := [(8, .int (z_i (x44_8 + 1))), (10, .int (z_i v15)), (9, .int (z_i 1)), (7, .int (z_i x44_7)), (6, .ref g), (5, .ref g), (4, .ref g)]) hx hb dX7_difference_141 hl (k := 2) rfl (z_i_add _ _) (by decide) rfl (fun ls hl => ?_)
                  refine lv_goto (tgt := 44) hx hb dX7_difference_144 (by decide) ?_
                  exact hv _ _ ls hP hD hS (lv_sub hl [0, 3, 4, 5, 6] rfl)
                · have hv := hv.2 hc
                  refine lv_iinc (v := z_i (x44_7 + 1)) (lv' := [(7, .int (z_i (x44_7 + 1))), (10, .int (z_i v15)), (9, .int (z_i 1)), (8, .int (z_i x44_8)), (6, .ref g), (5, .ref g), (4, .ref g)]) hx hb dX7_difference_125 hl (k := 3) rfl (z_i_add _ _) (by decide) rfl (fun ls hl => ?_)
                  refine lx_ldc (a := (-2147483648)) hx hb hown (hts (.constant RX7 61 (-2147483648)) (by decide +kernel)) (by decide) dX7_difference_128 ?_
                  refine lv_istore (lv' := [(10, .int (z_i (-2147483648))), (7, .int (z_i (x44_7 + 1))), (9, .int (z_i 1)), (8, .int (z_i x44_8)), (6, .ref g), (5, .ref g), (4, .ref g)]) hx hb dX7_difference_130 hl (by decide) rfl (fun ls hl => ?_)
                  refine lv_aload hx hb dX7_difference_132 (lv_at hl 4 rfl) ?_
                  refine lv_iload hx hb dX7_difference_134 (lv_at hl 3 rfl) ?_
                  refine lv_iload hx hb dX7_difference_136 (lv_at hl 0 rfl) ?_
                  obtain ⟨hp22, hv⟩ := hv
                  have hFc := z_fr (A := A) (wc := [(g, .inr (1, [.ref ga_units, .ref ga_lengths, .ref ga_offsets, .int (z_i g_step)])), (ga_units, .inl (cA 1, 1280, .inl y44_ga_units)), (ga_lengths, .inl (cA 1, 32, .inl g_lengths)), (ga_offsets, .inl (cA 1, 32, .inl g_offsets))]) hD [2, 3, 4, 5] rfl
                  refine va_callv (va_runV (As := [.int (z_i x44_8), .int (z_i (-2147483648))]) (rest := []) ⟨hx, hb, hml, hown, hts⟩ (mt_X2_put l D cA g ga_units y44_ga_units ga_lengths g_lengths ga_offsets g_offsets g_step x44_8 (-2147483648) h_g_step h_x44_8 (show z_in (-2147483648) from ⟨by decide, by decide⟩) hp22) (cwV 2 hts gX7_difference_X2_put rfl rfl rfl (by decide +kernel) ⟨Nat.le_of_ble_eq_true rfl, Nat.le_of_ble_eq_true rfl⟩) ⟨z_blm0, va_recv hK hP (ci := 1) (q0 := 2) rfl rfl, fun U hU hW => ⟨rfl, z_m0 hK (hP.sub (ws' := [(g, .inr (1, [.ref ga_units, .ref ga_lengths, .ref ga_offsets, .int (z_i g_step)])), (ga_units, .inl (cA 1, 1280, .inl y44_ga_units)), (ga_lengths, .inl (cA 1, 32, .inl g_lengths)), (ga_offsets, .inl (cA 1, 32, .inl g_offsets))]) [2, 3, 4, 5] rfl) (hD.sub (ws' := [(g, .inr (1, [.ref ga_units, .ref ga_lengths, .ref ga_offsets, .int (z_i g_step)])), (ga_units, .inl (cA 1, 1280, .inl y44_ga_units)), (ga_lengths, .inl (cA 1, 32, .inl g_lengths)), (ga_offsets, .inl (cA 1, 32, .inl g_offsets))]) [2, 3, 4, 5] (by decide) rfl) hU hW⟩⟩ rfl rfl hl.1 rfl (lv_room (Nat.le_of_ble_eq_true rfl)) dX7_difference_138 ⟨Nat.zero_le _, Nat.zero_le _⟩) hS (fun q _ h => hFc q h) hFc (fun u t H locs ht hvm hw hB hz1 hk1 hS => ?_)
                  obtain ⟨c23, rfl⟩ : ∃ z, z = u := ⟨_, rfl⟩
                  rw [ht] at hB
                  have hP := z_join2 (wc := [(g, .inr (1, [.ref ga_units, .ref ga_lengths, .ref ga_offsets, .int (z_i g_step)])), (ga_units, .inl (cA 1, 1280, .inl y44_ga_units)), (ga_lengths, .inl (cA 1, 32, .inl g_lengths)), (ga_offsets, .inl (cA 1, 32, .inl g_offsets))]) (w1 := [(g, .inr (1, [.ref ga_units, .ref ga_lengths, .ref ga_offsets, .int (z_i g_step)])), (ga_units, .inl (cA 1, 1280, .inl c23)), (ga_lengths, .inl (cA 1, 32, .inl g_lengths)), (ga_offsets, .inl (cA 1, 32, .inl g_offsets))]) hP hD [2, 3, 4, 5] [0, 0, 1, 2, 3, 4] rfl rfl rfl hk1 hB
                  have hP : va_P D vwCl [(x, .inr (5, [.ref xa_grids, .ref x_levelMm, .int (z_i x_levelCount), .ref x_water, .ref x_scratch, .ref x_lines])), (xa_grids, .inl (cA 4, 4, .inr (.inr (.inr (.inr x_grids))))), (g, .inr (1, [.ref ga_units, .ref ga_lengths, .ref ga_offsets, .int (z_i g_step)])), (ga_units, .inl (cA 1, 1280, .inl c23)), (ga_lengths, .inl (cA 1, 32, .inl g_lengths)), (ga_offsets, .inl (cA 1, 32, .inl g_offsets))] H := hP
                  have hD : va_D A [(x, .inr (5, [.ref xa_grids, .ref x_levelMm, .int (z_i x_levelCount), .ref x_water, .ref x_scratch, .ref x_lines])), (xa_grids, .inl (cA 4, 4, .inr (.inr (.inr (.inr x_grids))))), (g, .inr (1, [.ref ga_units, .ref ga_lengths, .ref ga_offsets, .int (z_i g_step)])), (ga_units, .inl (cA 1, 1280, .inl c23)), (ga_lengths, .inl (cA 1, 32, .inl g_lengths)), (ga_offsets, .inl (cA 1, 32, .inl g_offsets))] := z_D_addr hD rfl
                  have hv := hv c23 hw
                  refine lv_iinc (v := z_i (x44_8 + 1)) (lv' := [(8, .int (z_i (x44_8 + 1))), (10, .int (z_i (-2147483648))), (7, .int (z_i (x44_7 + 1))), (9, .int (z_i 1)), (6, .ref g), (5, .ref g), (4, .ref g)]) hx hb dX7_difference_141 hl (k := 3) rfl (z_i_add _ _) (by decide) rfl (fun ls hl => ?_)
                  refine lv_goto (tgt := 44) hx hb dX7_difference_144 (by decide) ?_
                  exact hv _ _ ls hP hD hS (lv_sub hl [0, 2, 4, 5, 6] rfl)
      · have hv := hv.2 hc
        rw [hq3, if_neg hc, z_rf_n]
        refine lv_astoreN (lv' := [(6, .null), (5, .ref g), (4, .ref g), (0, .ref x), (1, .int (z_i gi)), (2, .int (z_i hi_)), (3, .int (z_i to))]) hx hb dX7_difference_19 hl (by decide) rfl (fun ls hl => ?_)
        refine lv_aload hx hb dX7_difference_21 (lv_at hl 2 rfl) ?_
        refine lv_ifnull hx hb dX7_difference_23 ?_
        refine lv_aload hx hb dX7_difference_26 (lv_at hl 1 rfl) ?_
        refine lv_ifnull hx hb dX7_difference_28 ?_
        refine lv_aloadN hx hb dX7_difference_31 (lv_at hl 0 rfl) ?_
        refine lv_ifnonnullN hx hb dX7_difference_33 ?_
        refine lv_iconst (v := z_i (-1)) hx hb dX7_difference_36 rfl ?_
        exact W.iret (v := z_i (-1)) hx hb hr (fun t ht hW => ⟨⟨z_i (-1), (g_units, g_lengths, g_offsets, g_step), rfl, ⟨-1, rfl, (show z_in (-1) from ⟨by decide, by decide⟩), h_g_step, hv⟩, z_pt hP ht⟩, hS.F ht⟩) hS.2.2 dX7_difference_37
    · have hv := hv.2 hc
      rw [hq2, if_neg hc, z_rf_n]
      refine lv_astoreN (lv' := [(5, .null), (4, .ref g), (0, .ref x), (1, .int (z_i gi)), (2, .int (z_i hi_)), (3, .int (z_i to))]) hx hb dX7_difference_12 hl (by decide) rfl (fun ls hl => ?_)
      refine lv_aload_n hx hb dX7_difference_14 rfl (lv_at hl 2 rfl) ?_
      refine lv_iload_n hx hb dX7_difference_15 rfl (lv_at hl 5 rfl) ?_
      refine va_callq (va_runV (As := [.int (z_i to)]) (rest := []) ⟨hx, hb, hml, hown, hts⟩ (mt_X7_gridOf l D cA x xa_grids x_grids x_levelMm x_levelCount x_water x_scratch x_lines to h_x_levelCount h_to) (cwV 1 hts gX7_difference_X7_gridOf rfl rfl rfl (by decide +kernel) ⟨Nat.le_of_ble_eq_true rfl, Nat.le_of_ble_eq_true rfl⟩) ⟨z_bl0, va_recv hK hP (ci := 5) (q0 := 0) rfl rfl, fun U hU hW => ⟨rfl, z_b0 hK (hP.sub (ws' := [(x, .inr (5, [.ref xa_grids, .ref x_levelMm, .int (z_i x_levelCount), .ref x_water, .ref x_scratch, .ref x_lines])), (xa_grids, .inl (cA 4, 4, .inr (.inr (.inr (.inr x_grids)))))]) [0, 1] rfl) hU hW⟩⟩ rfl rfl hl.1 rfl (lv_room (Nat.le_of_ble_eq_true rfl)) dX7_difference_16 ⟨Nat.zero_le _, Nat.zero_le _⟩) hS (fun q _ h => h.elim) (fun q h => h.elim) (fun r0 u t H locs ht hvm hw hB hz1 hk1 hS => ?_)
      have hq24 := hw
      have hP := z_P_all hP hk1
      by_cases hc : 0 ≤ to ∧ to < 4
      · have hv := hv.1 hc
        rw [hq24, if_pos hc, hg_to hc, z_rf_s]
        refine lv_astore (lv' := [(6, .ref g), (5, .null), (4, .ref g), (0, .ref x), (1, .int (z_i gi)), (2, .int (z_i hi_)), (3, .int (z_i to))]) hx hb dX7_difference_19 hl (by decide) rfl (fun ls hl => ?_)
        refine lv_aload hx hb dX7_difference_21 (lv_at hl 2 rfl) ?_
        refine lv_ifnull hx hb dX7_difference_23 ?_
        refine lv_aloadN hx hb dX7_difference_26 (lv_at hl 1 rfl) ?_
        refine lv_ifnullN (tgt := 36) hx hb dX7_difference_28 (by decide) ?_
        refine lv_iconst (v := z_i (-1)) hx hb dX7_difference_36 rfl ?_
        exact W.iret (v := z_i (-1)) hx hb hr (fun t ht hW => ⟨⟨z_i (-1), (g_units, g_lengths, g_offsets, g_step), rfl, ⟨-1, rfl, (show z_in (-1) from ⟨by decide, by decide⟩), h_g_step, hv⟩, z_pt hP ht⟩, hS.F ht⟩) hS.2.2 dX7_difference_37
      · have hv := hv.2 hc
        rw [hq24, if_neg hc, z_rf_n]
        refine lv_astoreN (lv' := [(6, .null), (5, .null), (4, .ref g), (0, .ref x), (1, .int (z_i gi)), (2, .int (z_i hi_)), (3, .int (z_i to))]) hx hb dX7_difference_19 hl (by decide) rfl (fun ls hl => ?_)
        refine lv_aload hx hb dX7_difference_21 (lv_at hl 2 rfl) ?_
        refine lv_ifnull hx hb dX7_difference_23 ?_
        refine lv_aloadN hx hb dX7_difference_26 (lv_at hl 1 rfl) ?_
        refine lv_ifnullN (tgt := 36) hx hb dX7_difference_28 (by decide) ?_
        refine lv_iconst (v := z_i (-1)) hx hb dX7_difference_36 rfl ?_
        exact W.iret (v := z_i (-1)) hx hb hr (fun t ht hW => ⟨⟨z_i (-1), (g_units, g_lengths, g_offsets, g_step), rfl, ⟨-1, rfl, (show z_in (-1) from ⟨by decide, by decide⟩), h_g_step, hv⟩, z_pt hP ht⟩, hS.F ht⟩) hS.2.2 dX7_difference_37
  · have hv := hv.2 hc
    rw [hq1, if_neg hc, z_rf_n]
    refine lv_astoreN (lv' := [(4, .null), (0, .ref x), (1, .int (z_i gi)), (2, .int (z_i hi_)), (3, .int (z_i to))]) hx hb dX7_difference_5 hl (by decide) rfl (fun ls hl => ?_)
    refine lv_aload_n hx hb dX7_difference_7 rfl (lv_at hl 1 rfl) ?_
    refine lv_iload_n hx hb dX7_difference_8 rfl (lv_at hl 3 rfl) ?_
    refine va_callq (va_runV (As := [.int (z_i hi_)]) (rest := []) ⟨hx, hb, hml, hown, hts⟩ (mt_X7_gridOf l D cA x xa_grids x_grids x_levelMm x_levelCount x_water x_scratch x_lines hi_ h_x_levelCount h_hi_) (cwV 1 hts gX7_difference_X7_gridOf rfl rfl rfl (by decide +kernel) ⟨Nat.le_of_ble_eq_true rfl, Nat.le_of_ble_eq_true rfl⟩) ⟨z_bl0, va_recv hK hP (ci := 5) (q0 := 0) rfl rfl, fun U hU hW => ⟨rfl, z_b0 hK (hP.sub (ws' := [(x, .inr (5, [.ref xa_grids, .ref x_levelMm, .int (z_i x_levelCount), .ref x_water, .ref x_scratch, .ref x_lines])), (xa_grids, .inl (cA 4, 4, .inr (.inr (.inr (.inr x_grids)))))]) [0, 1] rfl) hU hW⟩⟩ rfl rfl hl.1 rfl (lv_room (Nat.le_of_ble_eq_true rfl)) dX7_difference_9 ⟨Nat.zero_le _, Nat.zero_le _⟩) hS (fun q _ h => h.elim) (fun q h => h.elim) (fun r0 u t H locs ht hvm hw hB hz1 hk1 hS => ?_)
    have hq25 := hw
    have hP := z_P_all hP hk1
    by_cases hc : 0 ≤ hi_ ∧ hi_ < 4
    · have hv := hv.1 hc
      rw [hq25, if_pos hc, hg_hi_ hc, z_rf_s]
      refine lv_astore (lv' := [(5, .ref g), (4, .null), (0, .ref x), (1, .int (z_i gi)), (2, .int (z_i hi_)), (3, .int (z_i to))]) hx hb dX7_difference_12 hl (by decide) rfl (fun ls hl => ?_)
      refine lv_aload_n hx hb dX7_difference_14 rfl (lv_at hl 2 rfl) ?_
      refine lv_iload_n hx hb dX7_difference_15 rfl (lv_at hl 5 rfl) ?_
      refine va_callq (va_runV (As := [.int (z_i to)]) (rest := []) ⟨hx, hb, hml, hown, hts⟩ (mt_X7_gridOf l D cA x xa_grids x_grids x_levelMm x_levelCount x_water x_scratch x_lines to h_x_levelCount h_to) (cwV 1 hts gX7_difference_X7_gridOf rfl rfl rfl (by decide +kernel) ⟨Nat.le_of_ble_eq_true rfl, Nat.le_of_ble_eq_true rfl⟩) ⟨z_bl0, va_recv hK hP (ci := 5) (q0 := 0) rfl rfl, fun U hU hW => ⟨rfl, z_b0 hK (hP.sub (ws' := [(x, .inr (5, [.ref xa_grids, .ref x_levelMm, .int (z_i x_levelCount), .ref x_water, .ref x_scratch, .ref x_lines])), (xa_grids, .inl (cA 4, 4, .inr (.inr (.inr (.inr x_grids)))))]) [0, 1] rfl) hU hW⟩⟩ rfl rfl hl.1 rfl (lv_room (Nat.le_of_ble_eq_true rfl)) dX7_difference_16 ⟨Nat.zero_le _, Nat.zero_le _⟩) hS (fun q _ h => h.elim) (fun q h => h.elim) (fun r0 u t H locs ht hvm hw hB hz1 hk1 hS => ?_)
      have hq26 := hw
      have hP := z_P_all hP hk1
      by_cases hc : 0 ≤ to ∧ to < 4
      · have hv := hv.1 hc
        rw [hq26, if_pos hc, hg_to hc, z_rf_s]
        refine lv_astore (lv' := [(6, .ref g), (5, .ref g), (4, .null), (0, .ref x), (1, .int (z_i gi)), (2, .int (z_i hi_)), (3, .int (z_i to))]) hx hb dX7_difference_19 hl (by decide) rfl (fun ls hl => ?_)
        refine lv_aloadN hx hb dX7_difference_21 (lv_at hl 2 rfl) ?_
        refine lv_ifnullN (tgt := 36) hx hb dX7_difference_23 (by decide) ?_
        refine lv_iconst (v := z_i (-1)) hx hb dX7_difference_36 rfl ?_
        exact W.iret (v := z_i (-1)) hx hb hr (fun t ht hW => ⟨⟨z_i (-1), (g_units, g_lengths, g_offsets, g_step), rfl, ⟨-1, rfl, (show z_in (-1) from ⟨by decide, by decide⟩), h_g_step, hv⟩, z_pt hP ht⟩, hS.F ht⟩) hS.2.2 dX7_difference_37
      · have hv := hv.2 hc
        rw [hq26, if_neg hc, z_rf_n]
        refine lv_astoreN (lv' := [(6, .null), (5, .ref g), (4, .null), (0, .ref x), (1, .int (z_i gi)), (2, .int (z_i hi_)), (3, .int (z_i to))]) hx hb dX7_difference_19 hl (by decide) rfl (fun ls hl => ?_)
        refine lv_aloadN hx hb dX7_difference_21 (lv_at hl 2 rfl) ?_
        refine lv_ifnullN (tgt := 36) hx hb dX7_difference_23 (by decide) ?_
        refine lv_iconst (v := z_i (-1)) hx hb dX7_difference_36 rfl ?_
        exact W.iret (v := z_i (-1)) hx hb hr (fun t ht hW => ⟨⟨z_i (-1), (g_units, g_lengths, g_offsets, g_step), rfl, ⟨-1, rfl, (show z_in (-1) from ⟨by decide, by decide⟩), h_g_step, hv⟩, z_pt hP ht⟩, hS.F ht⟩) hS.2.2 dX7_difference_37
    · have hv := hv.2 hc
      rw [hq25, if_neg hc, z_rf_n]
      refine lv_astoreN (lv' := [(5, .null), (4, .null), (0, .ref x), (1, .int (z_i gi)), (2, .int (z_i hi_)), (3, .int (z_i to))]) hx hb dX7_difference_12 hl (by decide) rfl (fun ls hl => ?_)
      refine lv_aload_n hx hb dX7_difference_14 rfl (lv_at hl 2 rfl) ?_
      refine lv_iload_n hx hb dX7_difference_15 rfl (lv_at hl 5 rfl) ?_
      refine va_callq (va_runV (As := [.int (z_i to)]) (rest := []) ⟨hx, hb, hml, hown, hts⟩ (mt_X7_gridOf l D cA x xa_grids x_grids x_levelMm x_levelCount x_water x_scratch x_lines to h_x_levelCount h_to) (cwV 1 hts gX7_difference_X7_gridOf rfl rfl rfl (by decide +kernel) ⟨Nat.le_of_ble_eq_true rfl, Nat.le_of_ble_eq_true rfl⟩) ⟨z_bl0, va_recv hK hP (ci := 5) (q0 := 0) rfl rfl, fun U hU hW => ⟨rfl, z_b0 hK (hP.sub (ws' := [(x, .inr (5, [.ref xa_grids, .ref x_levelMm, .int (z_i x_levelCount), .ref x_water, .ref x_scratch, .ref x_lines])), (xa_grids, .inl (cA 4, 4, .inr (.inr (.inr (.inr x_grids)))))]) [0, 1] rfl) hU hW⟩⟩ rfl rfl hl.1 rfl (lv_room (Nat.le_of_ble_eq_true rfl)) dX7_difference_16 ⟨Nat.zero_le _, Nat.zero_le _⟩) hS (fun q _ h => h.elim) (fun q h => h.elim) (fun r0 u t H locs ht hvm hw hB hz1 hk1 hS => ?_)
      have hq27 := hw
      have hP := z_P_all hP hk1
      by_cases hc : 0 ≤ to ∧ to < 4
      · have hv := hv.1 hc
        rw [hq27, if_pos hc, hg_to hc, z_rf_s]
        refine lv_astore (lv' := [(6, .ref g), (5, .null), (4, .null), (0, .ref x), (1, .int (z_i gi)), (2, .int (z_i hi_)), (3, .int (z_i to))]) hx hb dX7_difference_19 hl (by decide) rfl (fun ls hl => ?_)
        refine lv_aloadN hx hb dX7_difference_21 (lv_at hl 2 rfl) ?_
        refine lv_ifnullN (tgt := 36) hx hb dX7_difference_23 (by decide) ?_
        refine lv_iconst (v := z_i (-1)) hx hb dX7_difference_36 rfl ?_
        exact W.iret (v := z_i (-1)) hx hb hr (fun t ht hW => ⟨⟨z_i (-1), (g_units, g_lengths, g_offsets, g_step), rfl, ⟨-1, rfl, (show z_in (-1) from ⟨by decide, by decide⟩), h_g_step, hv⟩, z_pt hP ht⟩, hS.F ht⟩) hS.2.2 dX7_difference_37
      · have hv := hv.2 hc
        rw [hq27, if_neg hc, z_rf_n]
        refine lv_astoreN (lv' := [(6, .null), (5, .null), (4, .null), (0, .ref x), (1, .int (z_i gi)), (2, .int (z_i hi_)), (3, .int (z_i to))]) hx hb dX7_difference_19 hl (by decide) rfl (fun ls hl => ?_)
        refine lv_aloadN hx hb dX7_difference_21 (lv_at hl 2 rfl) ?_
        refine lv_ifnullN (tgt := 36) hx hb dX7_difference_23 (by decide) ?_
        refine lv_iconst (v := z_i (-1)) hx hb dX7_difference_36 rfl ?_
        exact W.iret (v := z_i (-1)) hx hb hr (fun t ht hW => ⟨⟨z_i (-1), (g_units, g_lengths, g_offsets, g_step), rfl, ⟨-1, rfl, (show z_in (-1) from ⟨by decide, by decide⟩), h_g_step, hv⟩, z_pt hP ht⟩, hS.F ht⟩) hS.2.2 dX7_difference_37
set_option maxHeartbeats 4000000 in
set_option maxRecDepth 100000 in
theorem mt_X7_difference_a (l : Launch) (D : va_G) (cA : Nat → ClassId) (x : Nat) (xa_grids : Nat) (x_grids : Nat → Option Nat) (x_levelMm : Nat) (x_levelCount : Int) (x_water : Nat) (x_scratch : Nat) (x_lines : Nat) (gi : Int) (hi_ : Int) (to : Int) (g : Nat) (ga_units : Nat) (g_units : Nat → Int32) (ga_lengths : Nat) (g_lengths : Nat → Int32) (ga_offsets : Nat) (g_offsets : Nat → Int32) (g_step : Int) (h_x_levelCount : z_in x_levelCount) (h_gi : z_in gi) (h_hi_ : z_in hi_) (h_to : z_in to) (h_g_step : z_in g_step) (hg_gi : 0 ≤ gi ∧ gi < 4 → x_grids gi.toNat = some g) (hg_hi_ : 0 ≤ hi_ ∧ hi_ < 4 → x_grids hi_.toNat = some g) (hg_to : 0 ≤ to ∧ to < 4 → x_grids to.toNat = some g) (hp1 : g_ok g_units) : Met l yX7_difference wsX7_difference ({ frames := 2, cells := 0, slots := 0, locals := 39 } : Room) (va_Pc [.ref x, .int (z_i gi), .int (z_i hi_), .int (z_i to)] (z_M0 D cA [(x, .inr (5, [.ref xa_grids, .ref x_levelMm, .int (z_i x_levelCount), .ref x_water, .ref x_scratch, .ref x_lines])), (xa_grids, .inl (cA 4, 4, .inr (.inr (.inr (.inr x_grids))))), (g, .inr (1, [.ref ga_units, .ref ga_lengths, .ref ga_offsets, .int (z_i g_step)])), (ga_units, .inl (cA 1, 1280, .inl g_units)), (ga_lengths, .inl (cA 1, 32, .inl g_lengths)), (ga_offsets, .inl (cA 1, 32, .inl g_offsets))])) (va_Qi (z_mi (fun v (u : (Nat → Int32) × (Nat → Int32) × (Nat → Int32) × Int) => z_in u.2.2.2 ∧ (fun (r : Int) (g_units' : (Nat → Int32)) (g_lengths' : (Nat → Int32)) (g_offsets' : (Nat → Int32)) (g_step' : Int) => r = (if (0 ≤ gi ∧ gi < 4) ∧ (0 ≤ hi_ ∧ hi_ < 4) ∧ (0 ≤ to ∧ to < 4) then f_bc g_units g_units 1280 else -1) ∧ ((0 ≤ gi ∧ gi < 4) ∧ (0 ≤ hi_ ∧ hi_ < 4) ∧ (0 ≤ to ∧ to < 4) → (∀ n : Int, 0 ≤ n → n < 1280 → z_g g_units' n = f_df g_units g_units n) ∧ g_lengths' = g_lengths ∧ g_offsets' = g_offsets ∧ g_step' = g_step) ∧ (¬ ((0 ≤ gi ∧ gi < 4) ∧ (0 ≤ hi_ ∧ hi_ < 4) ∧ (0 ≤ to ∧ to < 4)) → g_units' = g_units ∧ g_lengths' = g_lengths ∧ g_offsets' = g_offsets ∧ g_step' = g_step)) v u.1 u.2.1 u.2.2.1 u.2.2.2)) (fun (u : (Nat → Int32) × (Nat → Int32) × (Nat → Int32) × Int) t => va_P D vwCl [(x, .inr (5, [.ref xa_grids, .ref x_levelMm, .int (z_i x_levelCount), .ref x_water, .ref x_scratch, .ref x_lines])), (xa_grids, .inl (cA 4, 4, .inr (.inr (.inr (.inr x_grids))))), (g, .inr (1, [.ref ga_units, .ref ga_lengths, .ref ga_offsets, .int (z_i u.2.2.2)])), (ga_units, .inl (cA 1, 1280, .inl u.1)), (ga_lengths, .inl (cA 1, 32, .inl u.2.1)), (ga_offsets, .inl (cA 1, 32, .inl u.2.2.1))] t.heap) (z_A [(x, .inr (5, [.ref xa_grids, .ref x_levelMm, .int (z_i x_levelCount), .ref x_water, .ref x_scratch, .ref x_lines])), (xa_grids, .inl (cA 4, 4, .inr (.inr (.inr (.inr x_grids))))), (g, .inr (1, [.ref ga_units, .ref ga_lengths, .ref ga_offsets, .int (z_i g_step)])), (ga_units, .inl (cA 1, 1280, .inl g_units)), (ga_lengths, .inl (cA 1, 32, .inl g_lengths)), (ga_offsets, .inl (cA 1, 32, .inl g_offsets))])) 0 0 (z_A [(x, .inr (5, [.ref xa_grids, .ref x_levelMm, .int (z_i x_levelCount), .ref x_water, .ref x_scratch, .ref x_lines])), (xa_grids, .inl (cA 4, 4, .inr (.inr (.inr (.inr x_grids))))), (g, .inr (1, [.ref ga_units, .ref ga_lengths, .ref ga_offsets, .int (z_i g_step)])), (ga_units, .inl (cA 1, 1280, .inl g_units)), (ga_lengths, .inl (cA 1, 32, .inl g_lengths)), (ga_offsets, .inl (cA 1, 32, .inl g_offsets))]) := by
  refine wk_X7_difference_a l D cA x xa_grids x_grids x_levelMm x_levelCount x_water x_scratch x_lines gi hi_ to g ga_units g_units ga_lengths g_lengths ga_offsets g_offsets g_step h_x_levelCount h_gi h_hi_ h_to h_g_step hg_gi hg_hi_ hg_to (fun (r : Int) (g_units' : (Nat → Int32)) (g_lengths' : (Nat → Int32)) (g_offsets' : (Nat → Int32)) (g_step' : Int) => r = (if (0 ≤ gi ∧ gi < 4) ∧ (0 ≤ hi_ ∧ hi_ < 4) ∧ (0 ≤ to ∧ to < 4) then f_bc g_units g_units 1280 else -1) ∧ ((0 ≤ gi ∧ gi < 4) ∧ (0 ≤ hi_ ∧ hi_ < 4) ∧ (0 ≤ to ∧ to < 4) → (∀ n : Int, 0 ≤ n → n < 1280 → z_g g_units' n = f_df g_units g_units n) ∧ g_lengths' = g_lengths ∧ g_offsets' = g_offsets ∧ g_step' = g_step) ∧ (¬ ((0 ≤ gi ∧ gi < 4) ∧ (0 ≤ hi_ ∧ hi_ < 4) ∧ (0 ≤ to ∧ to < 4)) → g_units' = g_units ∧ g_lengths' = g_lengths ∧ g_offsets' = g_offsets ∧ g_step' = g_step)) ?_
  unfold vc_X7_difference_a
  have no : ¬ ((0 ≤ gi ∧ gi < 4) ∧ (0 ≤ hi_ ∧ hi_ < 4) ∧ (0 ≤ to ∧ to < 4)) → (-1 : Int) = (if (0 ≤ gi ∧ gi < 4) ∧ (0 ≤ hi_ ∧ hi_ < 4) ∧ (0 ≤ to ∧ to < 4) then f_bc g_units g_units 1280 else -1) ∧ ((0 ≤ gi ∧ gi < 4) ∧ (0 ≤ hi_ ∧ hi_ < 4) ∧ (0 ≤ to ∧ to < 4) → (∀ n : Int, 0 ≤ n → n < 1280 → z_g g_units n = f_df g_units g_units n) ∧ g_lengths = g_lengths ∧ g_offsets = g_offsets ∧ g_step = g_step) ∧ (¬ ((0 ≤ gi ∧ gi < 4) ∧ (0 ≤ hi_ ∧ hi_ < 4) ∧ (0 ≤ to ∧ to < 4)) → g_units = g_units ∧ g_lengths = g_lengths ∧ g_offsets = g_offsets ∧ g_step = g_step) := fun h => ⟨by rw [if_neg h], fun h2 => absurd h2 h, fun _ => ⟨rfl, rfl, rfl, rfl⟩⟩
  refine ⟨fun q => ⟨fun q1 => ⟨fun q2 => ?_, fun q2 => no (fun h => q2 h.2.2)⟩, fun q1 => ⟨fun _ => no (fun h => q1 h.2.1), fun _ => no (fun h => q1 h.2.1)⟩⟩, fun q => ⟨fun _ => ⟨fun _ => no (fun h => q h.1), fun _ => no (fun h => q h.1)⟩, fun _ => ⟨fun _ => no (fun h => q h.1), fun _ => no (fun h => q h.1)⟩⟩⟩
  intro L1 hL1
  suffices H : ∀ (d k : Nat) (f : Int) (y : Nat → Int32), k + d = 1280 → f = f_bc g_units g_units k → 0 ≤ f → f ≤ k → (∀ n : Int, 0 ≤ n → n < k → z_g y n = f_df g_units g_units n) → (∀ n : Int, k ≤ n → n < 1280 → z_g y n = z_g g_units n) → L1 k f y from H 1280 0 0 _ rfl rfl (by omega) (by omega) (fun n a b => absurd b (by omega)) (fun n _ _ => rfl)
  intro d
  induction d with
  | zero =>
    intro k f y hk hf f0 f1 hy hy2
    obtain rfl : k = 1280 := by omega
    refine hL1 _ _ _ ⟨by omega, by omega⟩ ⟨by omega, by omega⟩ ⟨fun _ => ?_, fun h => absurd h (by decide)⟩
    rintro c3 c4 c5 _ ⟨rfl, rfl, rfl⟩
    exact ⟨by rw [if_pos ⟨q, q1, q2⟩]; exact hf, fun _ => ⟨fun n a b => hy n a (by omega), rfl, rfl, rfl⟩, fun h => absurd ⟨q, q1, q2⟩ h⟩
  | succ d ih =>
    intro k f y hk hf f0 f1 hy hy2
    refine hL1 _ _ _ ⟨by omega, by omega⟩ ⟨by omega, by omega⟩ ⟨fun h => absurd h (by omega), fun _ => ?_⟩
    have eo : g_at y k = g_at g_units k := g_at_eq (hy2 k (by omega) (by omega))
    have eg : g_at y k = g_at g_units k := eo
    have eh : g_at y k = g_at g_units k := eo
    have es : f_bc g_units g_units (k + 1) = f_bc g_units g_units k + (if f_bt g_units g_units k = true ∧ ¬ (-8388608 ≤ g_at g_units k - g_at g_units k ∧ g_at g_units k - g_at g_units k ≤ 8388608) then 1 else 0) := rfl
    rw [← hf] at es
    rw [g_th_eq eg, eg]
    have step : ∀ v w : Int, z_in v → v = f_df g_units g_units k → w = f_bc g_units g_units (k + 1) → 0 ≤ w → w ≤ (k : Int) + 1 → L1 ((k : Int) + 1) w (z_s y k v) := by
      intro v w zv hv hw w0 w1
      refine ih (k + 1) _ _ (by omega) hw w0 (by omega) ?_ ?_
      · intro n a b
        rw [z_gs zv (by omega) a]
        by_cases e9 : n = k
        · rw [if_pos e9, e9]; exact hv
        · rw [if_neg e9]; exact hy n a (by omega)
      · intro n a b
        rw [z_gs zv (by omega) (by omega), if_neg (by omega)]; exact hy2 n (by omega) b
    have gap : ¬ f_bt g_units g_units k = true → L1 ((k : Int) + 1) f (z_s y k (-2147483648)) := by
      intro hn
      refine step _ _ ⟨by omega, by omega⟩ ?_ ?_ f0 (by omega)
      · unfold f_df; rw [if_neg (fun h => hn h.1)]
      · rw [es, if_neg (fun h => hn h.1)]; omega
    rintro r7 _ rfl
    refine ⟨fun q4 => ⟨⟨by omega, by omega⟩, ?_⟩, fun q4 => ?_⟩
    · rintro c9 rfl
      exact gap (by unfold f_bt; rw [zb_f q4, Bool.false_and]; decide)
    · rintro r10 _ rfl
      refine ⟨fun q5 => ⟨⟨by omega, by omega⟩, ?_⟩, fun q5 => ?_⟩
      · rintro c9 rfl
        exact gap (by unfold f_bt; rw [zb_f q5, Bool.and_false]; decide)
      · have hb : f_bt g_units g_units k = true := by unfold f_bt; rw [Bool.and_eq_true]; exact ⟨zb_t q4, zb_t q5⟩
        have b1 := g_ok_at hp1 (zb_t q4)
        have b2 := g_ok_at hp1 (zb_t q5)
        rintro r13 _ rfl r14 _ rfl
        refine ⟨⟨by omega, by omega⟩, ?_⟩
        rintro v15 rfl
        have far : ¬ (-8388608 ≤ g_at g_units k - g_at g_units k ∧ g_at g_units k - g_at g_units k ≤ 8388608) → L1 ((k : Int) + 1) (f + 1) (z_s y k (-2147483648)) := by
          intro hn
          refine step _ _ ⟨by omega, by omega⟩ ?_ ?_ (by omega) (by omega)
          · unfold f_df; rw [if_neg (fun h => hn h.2)]
          · rw [es, if_pos ⟨hb, hn⟩]
        refine ⟨fun q6 => ⟨⟨by omega, by omega⟩, ?_⟩, fun q6 => ⟨fun q7 => ⟨⟨by omega, by omega⟩, ?_⟩, fun q7 => ⟨⟨by omega, by omega⟩, ?_⟩⟩⟩
        · rintro c19 rfl
          exact far (by omega)
        · rintro c21 rfl
          refine step _ _ ⟨by omega, by omega⟩ ?_ ?_ f0 (by omega)
          · unfold f_df; rw [if_pos ⟨hb, q6, q7⟩]
          · rw [es, if_neg (fun h => h.2 ⟨q6, q7⟩)]; omega
        · rintro c23 rfl
          exact far (by omega)
def vc_X7_difference_b (gi : Int) (hi_ : Int) (to : Int) (g_units : Nat → Int32) (g_lengths : Nat → Int32) (g_offsets : Nat → Int32) (g_step : Int) (o_units : Nat → Int32) (o_lengths : Nat → Int32) (o_offsets : Nat → Int32) (o_step : Int) (Q : Int → (Nat → Int32) → (Nat → Int32) → (Nat → Int32) → Int → Prop) : Prop :=
((0 ≤ gi ∧ gi < 4 → ((0 ≤ hi_ ∧ hi_ < 4 → ((0 ≤ to ∧ to < 4 → (∀ L44 : Int → Int → (Nat → Int32) → Prop,
(∀ (x44_8 : Int) (x44_7 : Int) (y44_oa_units : Nat → Int32), z_in x44_8 → z_in x44_7 → ((x44_8 ≥ 1280 → (∀ (c4 : Nat → Int32) (c5 : Nat → Int32) (c6 : Int), z_in c6 → (c4 = g_lengths ∧ c5 = g_offsets ∧ c6 = g_step) → Q x44_7 y44_oa_units c4 c5 c6)) ∧
(x44_8 < 1280 → (∀ (r7 : Int), z_in r7 → (r7 = z_b (g_th g_units x44_8)) → ((r7 = 0 → (0 ≤ x44_8 ∧ x44_8 < 1280) ∧ (∀ (c9 : Nat → Int32), (c9 = z_s y44_oa_units x44_8 (-2147483648 : Int)) → L44 (x44_8 + 1) x44_7 c9)) ∧
(r7 ≠ 0 → (∀ (r10 : Int), z_in r10 → (r10 = z_b (g_th g_units x44_8)) → ((r10 = 0 → (0 ≤ x44_8 ∧ x44_8 < 1280) ∧ (∀ (c12 : Nat → Int32), (c12 = z_s y44_oa_units x44_8 (-2147483648 : Int)) → L44 (x44_8 + 1) x44_7 c12)) ∧
(r10 ≠ 0 → (∀ (r13 : Int), z_in r13 → (r13 = g_at g_units x44_8) → (∀ (r14 : Int), z_in r14 → (r14 = g_at g_units x44_8) → z_in (r13 - r14) ∧ (∀ v15 : Int, v15 = r13 - r14 → ((v15 < -8388608 → (0 ≤ x44_8 ∧ x44_8 < 1280) ∧ (∀ (c19 : Nat → Int32), (c19 = z_s y44_oa_units x44_8 (-2147483648 : Int)) → L44 (x44_8 + 1) (x44_7 + 1) c19)) ∧
(v15 ≥ -8388608 → ((v15 ≤ 8388608 → (0 ≤ x44_8 ∧ x44_8 < 1280) ∧ (∀ (c21 : Nat → Int32), (c21 = z_s y44_oa_units x44_8 v15) → L44 (x44_8 + 1) x44_7 c21)) ∧
(v15 > 8388608 → (0 ≤ x44_8 ∧ x44_8 < 1280) ∧ (∀ (c23 : Nat → Int32), (c23 = z_s y44_oa_units x44_8 (-2147483648 : Int)) → L44 (x44_8 + 1) (x44_7 + 1) c23)))))))))))))))) → L44 x44_8 x44_7 y44_oa_units) →
L44 0 0 o_units)) ∧
(¬ (0 ≤ to ∧ to < 4) → Q (-1) o_units o_lengths o_offsets o_step))) ∧
(¬ (0 ≤ hi_ ∧ hi_ < 4) → ((0 ≤ to ∧ to < 4 → Q (-1) o_units o_lengths o_offsets o_step) ∧
(¬ (0 ≤ to ∧ to < 4) → Q (-1) o_units o_lengths o_offsets o_step))))) ∧
(¬ (0 ≤ gi ∧ gi < 4) → ((0 ≤ hi_ ∧ hi_ < 4 → ((0 ≤ to ∧ to < 4 → Q (-1) o_units o_lengths o_offsets o_step) ∧
(¬ (0 ≤ to ∧ to < 4) → Q (-1) o_units o_lengths o_offsets o_step))) ∧
(¬ (0 ≤ hi_ ∧ hi_ < 4) → ((0 ≤ to ∧ to < 4 → Q (-1) o_units o_lengths o_offsets o_step) ∧
(¬ (0 ≤ to ∧ to < 4) → Q (-1) o_units o_lengths o_offsets o_step))))))
set_option maxHeartbeats 4000000 in
set_option maxRecDepth 100000 in
theorem wk_X7_difference_b (l : Launch) (D : va_G) (cA : Nat → ClassId) (x : Nat) (xa_grids : Nat) (x_grids : Nat → Option Nat) (x_levelMm : Nat) (x_levelCount : Int) (x_water : Nat) (x_scratch : Nat) (x_lines : Nat) (gi : Int) (hi_ : Int) (to : Int) (g : Nat) (ga_units : Nat) (g_units : Nat → Int32) (ga_lengths : Nat) (g_lengths : Nat → Int32) (ga_offsets : Nat) (g_offsets : Nat → Int32) (g_step : Int) (o : Nat) (oa_units : Nat) (o_units : Nat → Int32) (oa_lengths : Nat) (o_lengths : Nat → Int32) (oa_offsets : Nat) (o_offsets : Nat → Int32) (o_step : Int) (h_x_levelCount : z_in x_levelCount) (h_gi : z_in gi) (h_hi_ : z_in hi_) (h_to : z_in to) (h_g_step : z_in g_step) (h_o_step : z_in o_step) (hg_gi : 0 ≤ gi ∧ gi < 4 → x_grids gi.toNat = some g) (hg_hi_ : 0 ≤ hi_ ∧ hi_ < 4 → x_grids hi_.toNat = some g) (hg_to : 0 ≤ to ∧ to < 4 → x_grids to.toNat = some o) (Q : Int → (Nat → Int32) → (Nat → Int32) → (Nat → Int32) → Int → Prop) (hv : vc_X7_difference_b gi hi_ to g_units g_lengths g_offsets g_step o_units o_lengths o_offsets o_step Q) : Met l yX7_difference wsX7_difference ({ frames := 2, cells := 0, slots := 0, locals := 39 } : Room) (va_Pc [.ref x, .int (z_i gi), .int (z_i hi_), .int (z_i to)] (z_M0 D cA [(x, .inr (5, [.ref xa_grids, .ref x_levelMm, .int (z_i x_levelCount), .ref x_water, .ref x_scratch, .ref x_lines])), (xa_grids, .inl (cA 4, 4, .inr (.inr (.inr (.inr x_grids))))), (g, .inr (1, [.ref ga_units, .ref ga_lengths, .ref ga_offsets, .int (z_i g_step)])), (ga_units, .inl (cA 1, 1280, .inl g_units)), (ga_lengths, .inl (cA 1, 32, .inl g_lengths)), (ga_offsets, .inl (cA 1, 32, .inl g_offsets)), (o, .inr (1, [.ref oa_units, .ref oa_lengths, .ref oa_offsets, .int (z_i o_step)])), (oa_units, .inl (cA 1, 1280, .inl o_units)), (oa_lengths, .inl (cA 1, 32, .inl o_lengths)), (oa_offsets, .inl (cA 1, 32, .inl o_offsets))])) (va_Qi (z_mi (fun v (u : (Nat → Int32) × (Nat → Int32) × (Nat → Int32) × Int) => z_in u.2.2.2 ∧ Q v u.1 u.2.1 u.2.2.1 u.2.2.2)) (fun (u : (Nat → Int32) × (Nat → Int32) × (Nat → Int32) × Int) t => va_P D vwCl [(x, .inr (5, [.ref xa_grids, .ref x_levelMm, .int (z_i x_levelCount), .ref x_water, .ref x_scratch, .ref x_lines])), (xa_grids, .inl (cA 4, 4, .inr (.inr (.inr (.inr x_grids))))), (g, .inr (1, [.ref ga_units, .ref ga_lengths, .ref ga_offsets, .int (z_i g_step)])), (ga_units, .inl (cA 1, 1280, .inl g_units)), (ga_lengths, .inl (cA 1, 32, .inl g_lengths)), (ga_offsets, .inl (cA 1, 32, .inl g_offsets)), (o, .inr (1, [.ref oa_units, .ref oa_lengths, .ref oa_offsets, .int (z_i u.2.2.2)])), (oa_units, .inl (cA 1, 1280, .inl u.1)), (oa_lengths, .inl (cA 1, 32, .inl u.2.1)), (oa_offsets, .inl (cA 1, 32, .inl u.2.2.1))] t.heap) (z_A [(x, .inr (5, [.ref xa_grids, .ref x_levelMm, .int (z_i x_levelCount), .ref x_water, .ref x_scratch, .ref x_lines])), (xa_grids, .inl (cA 4, 4, .inr (.inr (.inr (.inr x_grids))))), (g, .inr (1, [.ref ga_units, .ref ga_lengths, .ref ga_offsets, .int (z_i g_step)])), (ga_units, .inl (cA 1, 1280, .inl g_units)), (ga_lengths, .inl (cA 1, 32, .inl g_lengths)), (ga_offsets, .inl (cA 1, 32, .inl g_offsets)), (o, .inr (1, [.ref oa_units, .ref oa_lengths, .ref oa_offsets, .int (z_i o_step)])), (oa_units, .inl (cA 1, 1280, .inl o_units)), (oa_lengths, .inl (cA 1, 32, .inl o_lengths)), (oa_offsets, .inl (cA 1, 32, .inl o_offsets))])) 0 0 (z_A [(x, .inr (5, [.ref xa_grids, .ref x_levelMm, .int (z_i x_levelCount), .ref x_water, .ref x_scratch, .ref x_lines])), (xa_grids, .inl (cA 4, 4, .inr (.inr (.inr (.inr x_grids))))), (g, .inr (1, [.ref ga_units, .ref ga_lengths, .ref ga_offsets, .int (z_i g_step)])), (ga_units, .inl (cA 1, 1280, .inl g_units)), (ga_lengths, .inl (cA 1, 32, .inl g_lengths)), (ga_offsets, .inl (cA 1, 32, .inl g_offsets)), (o, .inr (1, [.ref oa_units, .ref oa_lengths, .ref oa_offsets, .int (z_i o_step)])), (oa_units, .inl (cA 1, 1280, .inl o_units)), (oa_lengths, .inl (cA 1, 32, .inl o_lengths)), (oa_offsets, .inl (cA 1, 32, .inl o_offsets))]) := by
  unfold vc_X7_difference_b at hv
  refine Met.ofW (cc := cX7_difference) (maxL := 11) (ret := (some .int)) (by decide +kernel) rfl ?_
  intro p e s m args below meth c s₁ B hml hv0
  obtain ⟨rfl, hK, hP, hD0⟩ := hv0
  have hx := B.exec
  have hb := B.bytes
  have hr := B.returns
  have hts := atoms_spec (ws := wsX7_difference) B.pre
  have hown : s.vm.findClass RX7 = some m.cls := findClass_of_methodNamed B.named
  have hlocks := B.notSynchronized
  have hD := z_D_self hD0
  generalize hAe : z_A [(x, .inr (5, [.ref xa_grids, .ref x_levelMm, .int (z_i x_levelCount), .ref x_water, .ref x_scratch, .ref x_lines])), (xa_grids, .inl (cA 4, 4, .inr (.inr (.inr (.inr x_grids))))), (g, .inr (1, [.ref ga_units, .ref ga_lengths, .ref ga_offsets, .int (z_i g_step)])), (ga_units, .inl (cA 1, 1280, .inl g_units)), (ga_lengths, .inl (cA 1, 32, .inl g_lengths)), (ga_offsets, .inl (cA 1, 32, .inl g_offsets)), (o, .inr (1, [.ref oa_units, .ref oa_lengths, .ref oa_offsets, .int (z_i o_step)])), (oa_units, .inl (cA 1, 1280, .inl o_units)), (oa_lengths, .inl (cA 1, 32, .inl o_lengths)), (oa_offsets, .inl (cA 1, 32, .inl o_offsets))] = A at *
  have hS : va_S A s.heap s.heap [] := va_S.rf
  have hl := lv_entry ([.ref x, .int (z_i gi), .int (z_i hi_), .int (z_i to)]) (n := 11) (Nat.le_of_ble_eq_true rfl)
  rw [lg_entry_eq]
  generalize (lg_sl ([.ref x, .int (z_i gi), .int (z_i hi_), .int (z_i to)]) ++ List.replicate (11 - (lg_sl ([.ref x, .int (z_i gi), .int (z_i hi_), .int (z_i to)])).length) Slot.unset).toArray = ls at hl ⊢
  have hl : lv_has ls 11 [(0, .ref x), (1, .int (z_i gi)), (2, .int (z_i hi_)), (3, .int (z_i to))] := hl
  refine lv_aload_n hx hb dX7_difference_0 rfl (lv_at hl 0 rfl) ?_
  refine lv_iload_n hx hb dX7_difference_1 rfl (lv_at hl 1 rfl) ?_
  refine va_callq (va_runV (As := [.int (z_i gi)]) (rest := []) ⟨hx, hb, hml, hown, hts⟩ (mt_X7_gridOf l D cA x xa_grids x_grids x_levelMm x_levelCount x_water x_scratch x_lines gi h_x_levelCount h_gi) (cwV 1 hts gX7_difference_X7_gridOf rfl rfl rfl (by decide +kernel) ⟨Nat.le_of_ble_eq_true rfl, Nat.le_of_ble_eq_true rfl⟩) ⟨z_bl0, va_recv hK hP (ci := 5) (q0 := 0) rfl rfl, fun U hU hW => ⟨rfl, z_b0 hK (hP.sub (ws' := [(x, .inr (5, [.ref xa_grids, .ref x_levelMm, .int (z_i x_levelCount), .ref x_water, .ref x_scratch, .ref x_lines])), (xa_grids, .inl (cA 4, 4, .inr (.inr (.inr (.inr x_grids)))))]) [0, 1] rfl) hU hW⟩⟩ rfl rfl hl.1 rfl (lv_room (Nat.le_of_ble_eq_true rfl)) dX7_difference_2 ⟨Nat.zero_le _, Nat.zero_le _⟩) hS (fun q _ h => h.elim) (fun q h => h.elim) (fun r0 u t H locs ht hvm hw hB hz1 hk1 hS => ?_)
  have hq1 := hw
  have hP := z_P_all hP hk1
  by_cases hc : 0 ≤ gi ∧ gi < 4
  · have hv := hv.1 hc
    rw [hq1, if_pos hc, hg_gi hc, z_rf_s]
    refine lv_astore (lv' := [(4, .ref g), (0, .ref x), (1, .int (z_i gi)), (2, .int (z_i hi_)), (3, .int (z_i to))]) hx hb dX7_difference_5 hl (by decide) rfl (fun ls hl => ?_)
    refine lv_aload_n hx hb dX7_difference_7 rfl (lv_at hl 1 rfl) ?_
    refine lv_iload_n hx hb dX7_difference_8 rfl (lv_at hl 3 rfl) ?_
    refine va_callq (va_runV (As := [.int (z_i hi_)]) (rest := []) ⟨hx, hb, hml, hown, hts⟩ (mt_X7_gridOf l D cA x xa_grids x_grids x_levelMm x_levelCount x_water x_scratch x_lines hi_ h_x_levelCount h_hi_) (cwV 1 hts gX7_difference_X7_gridOf rfl rfl rfl (by decide +kernel) ⟨Nat.le_of_ble_eq_true rfl, Nat.le_of_ble_eq_true rfl⟩) ⟨z_bl0, va_recv hK hP (ci := 5) (q0 := 0) rfl rfl, fun U hU hW => ⟨rfl, z_b0 hK (hP.sub (ws' := [(x, .inr (5, [.ref xa_grids, .ref x_levelMm, .int (z_i x_levelCount), .ref x_water, .ref x_scratch, .ref x_lines])), (xa_grids, .inl (cA 4, 4, .inr (.inr (.inr (.inr x_grids)))))]) [0, 1] rfl) hU hW⟩⟩ rfl rfl hl.1 rfl (lv_room (Nat.le_of_ble_eq_true rfl)) dX7_difference_9 ⟨Nat.zero_le _, Nat.zero_le _⟩) hS (fun q _ h => h.elim) (fun q h => h.elim) (fun r0 u t H locs ht hvm hw hB hz1 hk1 hS => ?_)
    have hq2 := hw
    have hP := z_P_all hP hk1
    by_cases hc : 0 ≤ hi_ ∧ hi_ < 4
    · have hv := hv.1 hc
      rw [hq2, if_pos hc, hg_hi_ hc, z_rf_s]
      refine lv_astore (lv' := [(5, .ref g), (4, .ref g), (0, .ref x), (1, .int (z_i gi)), (2, .int (z_i hi_)), (3, .int (z_i to))]) hx hb dX7_difference_12 hl (by decide) rfl (fun ls hl => ?_)
      refine lv_aload_n hx hb dX7_difference_14 rfl (lv_at hl 2 rfl) ?_
      refine lv_iload_n hx hb dX7_difference_15 rfl (lv_at hl 5 rfl) ?_
      refine va_callq (va_runV (As := [.int (z_i to)]) (rest := []) ⟨hx, hb, hml, hown, hts⟩ (mt_X7_gridOf l D cA x xa_grids x_grids x_levelMm x_levelCount x_water x_scratch x_lines to h_x_levelCount h_to) (cwV 1 hts gX7_difference_X7_gridOf rfl rfl rfl (by decide +kernel) ⟨Nat.le_of_ble_eq_true rfl, Nat.le_of_ble_eq_true rfl⟩) ⟨z_bl0, va_recv hK hP (ci := 5) (q0 := 0) rfl rfl, fun U hU hW => ⟨rfl, z_b0 hK (hP.sub (ws' := [(x, .inr (5, [.ref xa_grids, .ref x_levelMm, .int (z_i x_levelCount), .ref x_water, .ref x_scratch, .ref x_lines])), (xa_grids, .inl (cA 4, 4, .inr (.inr (.inr (.inr x_grids)))))]) [0, 1] rfl) hU hW⟩⟩ rfl rfl hl.1 rfl (lv_room (Nat.le_of_ble_eq_true rfl)) dX7_difference_16 ⟨Nat.zero_le _, Nat.zero_le _⟩) hS (fun q _ h => h.elim) (fun q h => h.elim) (fun r0 u t H locs ht hvm hw hB hz1 hk1 hS => ?_)
      have hq3 := hw
      have hP := z_P_all hP hk1
      by_cases hc : 0 ≤ to ∧ to < 4
      · have hv := hv.1 hc
        rw [hq3, if_pos hc, hg_to hc, z_rf_s]
        refine lv_astore (lv' := [(6, .ref o), (5, .ref g), (4, .ref g), (0, .ref x), (1, .int (z_i gi)), (2, .int (z_i hi_)), (3, .int (z_i to))]) hx hb dX7_difference_19 hl (by decide) rfl (fun ls hl => ?_)
        refine lv_aload hx hb dX7_difference_21 (lv_at hl 2 rfl) ?_
        refine lv_ifnull hx hb dX7_difference_23 ?_
        refine lv_aload hx hb dX7_difference_26 (lv_at hl 1 rfl) ?_
        refine lv_ifnull hx hb dX7_difference_28 ?_
        refine lv_aload hx hb dX7_difference_31 (lv_at hl 0 rfl) ?_
        refine lv_ifnonnull (tgt := 38) hx hb dX7_difference_33 (by decide) ?_
        refine lv_iconst (v := z_i 0) hx hb dX7_difference_38 rfl ?_
        refine lv_istore (lv' := [(7, .int (z_i 0)), (6, .ref o), (5, .ref g), (4, .ref g), (0, .ref x), (1, .int (z_i gi)), (2, .int (z_i hi_)), (3, .int (z_i to))]) hx hb dX7_difference_39 hl (by decide) rfl (fun ls hl => ?_)
        refine lv_iconst (v := z_i 0) hx hb dX7_difference_41 rfl ?_
        refine lv_istore (lv' := [(8, .int (z_i 0)), (7, .int (z_i 0)), (6, .ref o), (5, .ref g), (4, .ref g), (0, .ref x), (1, .int (z_i gi)), (2, .int (z_i hi_)), (3, .int (z_i to))]) hx hb dX7_difference_42 hl (by decide) rfl (fun ls hl => ?_)
        refine hv (fun (x44_8 : Int) (x44_7 : Int) (y44_oa_units : Nat → Int32) => ∀ (H : Heap) (locs : List Loc) (ls : Array Slot), va_P D vwCl [(x, .inr (5, [.ref xa_grids, .ref x_levelMm, .int (z_i x_levelCount), .ref x_water, .ref x_scratch, .ref x_lines])), (xa_grids, .inl (cA 4, 4, .inr (.inr (.inr (.inr x_grids))))), (g, .inr (1, [.ref ga_units, .ref ga_lengths, .ref ga_offsets, .int (z_i g_step)])), (ga_units, .inl (cA 1, 1280, .inl g_units)), (ga_lengths, .inl (cA 1, 32, .inl g_lengths)), (ga_offsets, .inl (cA 1, 32, .inl g_offsets)), (o, .inr (1, [.ref oa_units, .ref oa_lengths, .ref oa_offsets, .int (z_i o_step)])), (oa_units, .inl (cA 1, 1280, .inl y44_oa_units)), (oa_lengths, .inl (cA 1, 32, .inl o_lengths)), (oa_offsets, .inl (cA 1, 32, .inl o_offsets))] H → va_D A [(x, .inr (5, [.ref xa_grids, .ref x_levelMm, .int (z_i x_levelCount), .ref x_water, .ref x_scratch, .ref x_lines])), (xa_grids, .inl (cA 4, 4, .inr (.inr (.inr (.inr x_grids))))), (g, .inr (1, [.ref ga_units, .ref ga_lengths, .ref ga_offsets, .int (z_i g_step)])), (ga_units, .inl (cA 1, 1280, .inl g_units)), (ga_lengths, .inl (cA 1, 32, .inl g_lengths)), (ga_offsets, .inl (cA 1, 32, .inl g_offsets)), (o, .inr (1, [.ref oa_units, .ref oa_lengths, .ref oa_offsets, .int (z_i o_step)])), (oa_units, .inl (cA 1, 1280, .inl y44_oa_units)), (oa_lengths, .inl (cA 1, 32, .inl o_lengths)), (oa_offsets, .inl (cA 1, 32, .inl o_offsets))] → va_S A s.heap H locs → lv_has ls 11 [(8, .int (z_i x44_8)), (7, .int (z_i x44_7)), (6, .ref o), (5, .ref g), (4, .ref g)] → W p l e _ s m _ below meth c H locs 0 0 _ (F0 m 44 ls [])) ?_ _ _ ls hP hD hS (lv_sub hl [0, 1, 2, 3, 4] rfl)
        intro x44_8 x44_7 y44_oa_units h_x44_8 h_x44_7 hv H locs ls hP hD hS hl
        refine lv_iload hx hb dX7_difference_44 (lv_at hl 0 rfl) ?_
        refine lv_sipush (v := z_i 1280) hx hb dX7_difference_46 (by decide) ?_
        refine lx_icmp_ge (tgt := 147) hx hb dX7_difference_49 (by decide) h_x44_8 (show z_in 1280 from ⟨by decide, by decide⟩) (fun hc => ?_) (fun hc => ?_)
        · have hv := hv.1 hc
          refine lv_aload hx hb dX7_difference_147 (lv_at hl 2 rfl) ?_
          refine lv_aload hx hb dX7_difference_149 (lv_at hl 4 rfl) ?_
          have hFc := z_fr (A := A) (wc := [(o, .inr (1, [.ref oa_units, .ref oa_lengths, .ref oa_offsets, .int (z_i o_step)])), (oa_units, .inl (cA 1, 1280, .inl y44_oa_units)), (oa_lengths, .inl (cA 1, 32, .inl o_lengths)), (oa_offsets, .inl (cA 1, 32, .inl o_offsets)), (g, .inr (1, [.ref ga_units, .ref ga_lengths, .ref ga_offsets, .int (z_i g_step)])), (ga_units, .inl (cA 1, 1280, .inl g_units)), (ga_lengths, .inl (cA 1, 32, .inl g_lengths)), (ga_offsets, .inl (cA 1, 32, .inl g_offsets))]) hD [6, 7, 8, 9, 2, 3, 4, 5] rfl
          refine va_callv (va_runV (As := [.ref g]) (rest := []) ⟨hx, hb, hml, hown, hts⟩ (mt_X2_takeShape l D cA o oa_units y44_oa_units oa_lengths o_lengths oa_offsets o_offsets o_step g ga_units g_units ga_lengths g_lengths ga_offsets g_offsets g_step h_o_step h_g_step) (cwV 1 hts gX7_difference_X2_takeShape rfl rfl rfl (by decide +kernel) ⟨Nat.le_of_ble_eq_true rfl, Nat.le_of_ble_eq_true rfl⟩) ⟨z_blm0, va_recv hK hP (ci := 1) (q0 := 6) rfl rfl, fun U hU hW => ⟨rfl, z_m0 hK (hP.sub (ws' := [(o, .inr (1, [.ref oa_units, .ref oa_lengths, .ref oa_offsets, .int (z_i o_step)])), (oa_units, .inl (cA 1, 1280, .inl y44_oa_units)), (oa_lengths, .inl (cA 1, 32, .inl o_lengths)), (oa_offsets, .inl (cA 1, 32, .inl o_offsets)), (g, .inr (1, [.ref ga_units, .ref ga_lengths, .ref ga_offsets, .int (z_i g_step)])), (ga_units, .inl (cA 1, 1280, .inl g_units)), (ga_lengths, .inl (cA 1, 32, .inl g_lengths)), (ga_offsets, .inl (cA 1, 32, .inl g_offsets))]) [6, 7, 8, 9, 2, 3, 4, 5] rfl) (hD.sub (ws' := [(o, .inr (1, [.ref oa_units, .ref oa_lengths, .ref oa_offsets, .int (z_i o_step)])), (oa_units, .inl (cA 1, 1280, .inl y44_oa_units)), (oa_lengths, .inl (cA 1, 32, .inl o_lengths)), (oa_offsets, .inl (cA 1, 32, .inl o_offsets)), (g, .inr (1, [.ref ga_units, .ref ga_lengths, .ref ga_offsets, .int (z_i g_step)])), (ga_units, .inl (cA 1, 1280, .inl g_units)), (ga_lengths, .inl (cA 1, 32, .inl g_lengths)), (ga_offsets, .inl (cA 1, 32, .inl g_offsets))]) [6, 7, 8, 9, 2, 3, 4, 5] (by decide) rfl) hU hW⟩⟩ rfl rfl hl.1 rfl (lv_room (Nat.le_of_ble_eq_true rfl)) dX7_difference_151 ⟨Nat.zero_le _, Nat.zero_le _⟩) hS (fun q _ h => hFc q h) hFc (fun u t H locs ht hvm hw hB hz1 hk1 hS => ?_)
          obtain ⟨c4, c5, c6⟩ := u
          rw [ht] at hB
          have hP := z_join2 (wc := [(o, .inr (1, [.ref oa_units, .ref oa_lengths, .ref oa_offsets, .int (z_i o_step)])), (oa_units, .inl (cA 1, 1280, .inl y44_oa_units)), (oa_lengths, .inl (cA 1, 32, .inl o_lengths)), (oa_offsets, .inl (cA 1, 32, .inl o_offsets)), (g, .inr (1, [.ref ga_units, .ref ga_lengths, .ref ga_offsets, .int (z_i g_step)])), (ga_units, .inl (cA 1, 1280, .inl g_units)), (ga_lengths, .inl (cA 1, 32, .inl g_lengths)), (ga_offsets, .inl (cA 1, 32, .inl g_offsets))]) (w1 := [(o, .inr (1, [.ref oa_units, .ref oa_lengths, .ref oa_offsets, .int (z_i c6)])), (oa_units, .inl (cA 1, 1280, .inl y44_oa_units)), (oa_lengths, .inl (cA 1, 32, .inl c4)), (oa_offsets, .inl (cA 1, 32, .inl c5)), (g, .inr (1, [.ref ga_units, .ref ga_lengths, .ref ga_offsets, .int (z_i g_step)])), (ga_units, .inl (cA 1, 1280, .inl g_units)), (ga_lengths, .inl (cA 1, 32, .inl g_lengths)), (ga_offsets, .inl (cA 1, 32, .inl g_offsets))]) hP hD [6, 7, 8, 9, 2, 3, 4, 5] [0, 0, 5, 6, 7, 8, 1, 2, 3, 4] rfl rfl rfl hk1 hB
          have hP : va_P D vwCl [(x, .inr (5, [.ref xa_grids, .ref x_levelMm, .int (z_i x_levelCount), .ref x_water, .ref x_scratch, .ref x_lines])), (xa_grids, .inl (cA 4, 4, .inr (.inr (.inr (.inr x_grids))))), (g, .inr (1, [.ref ga_units, .ref ga_lengths, .ref ga_offsets, .int (z_i g_step)])), (ga_units, .inl (cA 1, 1280, .inl g_units)), (ga_lengths, .inl (cA 1, 32, .inl g_lengths)), (ga_offsets, .inl (cA 1, 32, .inl g_offsets)), (o, .inr (1, [.ref oa_units, .ref oa_lengths, .ref oa_offsets, .int (z_i c6)])), (oa_units, .inl (cA 1, 1280, .inl y44_oa_units)), (oa_lengths, .inl (cA 1, 32, .inl c4)), (oa_offsets, .inl (cA 1, 32, .inl c5))] H := hP
          have hD : va_D A [(x, .inr (5, [.ref xa_grids, .ref x_levelMm, .int (z_i x_levelCount), .ref x_water, .ref x_scratch, .ref x_lines])), (xa_grids, .inl (cA 4, 4, .inr (.inr (.inr (.inr x_grids))))), (g, .inr (1, [.ref ga_units, .ref ga_lengths, .ref ga_offsets, .int (z_i g_step)])), (ga_units, .inl (cA 1, 1280, .inl g_units)), (ga_lengths, .inl (cA 1, 32, .inl g_lengths)), (ga_offsets, .inl (cA 1, 32, .inl g_offsets)), (o, .inr (1, [.ref oa_units, .ref oa_lengths, .ref oa_offsets, .int (z_i c6)])), (oa_units, .inl (cA 1, 1280, .inl y44_oa_units)), (oa_lengths, .inl (cA 1, 32, .inl c4)), (oa_offsets, .inl (cA 1, 32, .inl c5))] := z_D_addr hD rfl
          obtain ⟨h_c6, hw⟩ := hw
          have hv := hv c4 c5 c6 h_c6 hw
          refine lv_iload hx hb dX7_difference_154 (lv_at hl 1 rfl) ?_
          exact W.iret (v := z_i x44_7) hx hb hr (fun t ht hW => ⟨⟨z_i x44_7, (y44_oa_units, c4, c5, c6), rfl, ⟨x44_7, rfl, h_x44_7, h_c6, hv⟩, z_pt hP ht⟩, hS.F ht⟩) hS.2.2 dX7_difference_156
        · have hv := hv.2 hc
          refine lv_aload hx hb dX7_difference_52 (lv_at hl 4 rfl) ?_
          refine lv_iload hx hb dX7_difference_54 (lv_at hl 0 rfl) ?_
          refine va_calli (va_runV (As := [.int (z_i x44_8)]) (rest := []) ⟨hx, hb, hml, hown, hts⟩ (mt_X2_isThere l D cA g ga_units g_units ga_lengths g_lengths ga_offsets g_offsets g_step x44_8 h_g_step h_x44_8) (cwV 1 hts gX7_difference_X2_isThere rfl rfl rfl (by decide +kernel) ⟨Nat.le_of_ble_eq_true rfl, Nat.le_of_ble_eq_true rfl⟩) ⟨z_bl0, va_recv hK hP (ci := 1) (q0 := 2) rfl rfl, fun U hU hW => ⟨rfl, z_b0 hK (hP.sub (ws' := [(g, .inr (1, [.ref ga_units, .ref ga_lengths, .ref ga_offsets, .int (z_i g_step)])), (ga_units, .inl (cA 1, 1280, .inl g_units)), (ga_lengths, .inl (cA 1, 32, .inl g_lengths)), (ga_offsets, .inl (cA 1, 32, .inl g_offsets))]) [2, 3, 4, 5] rfl) hU hW⟩⟩ rfl rfl hl.1 rfl (lv_room (Nat.le_of_ble_eq_true rfl)) dX7_difference_56 ⟨Nat.zero_le _, Nat.zero_le _⟩) hS (fun q _ h => h.elim) (fun q h => h.elim) (fun r0 u t H locs ht hvm hw hB hz1 hk1 hS => ?_)
          obtain ⟨r7, rfl, h_r7, hw⟩ := hw
          have hP := z_P_all hP hk1
          have hv := hv r7 h_r7 hw
          refine lx_if_eq (tgt := 76) hx hb dX7_difference_59 (by decide) h_r7 (fun hc => ?_) (fun hc => ?_)
          · have hv := hv.1 hc
            refine lv_iconst (v := z_i 0) hx hb dX7_difference_76 rfl ?_
            refine lv_istore (lv' := [(9, .int (z_i 0)), (8, .int (z_i x44_8)), (7, .int (z_i x44_7)), (6, .ref o), (5, .ref g), (4, .ref g)]) hx hb dX7_difference_77 hl (by decide) rfl (fun ls hl => ?_)
            refine lv_iload hx hb dX7_difference_79 (lv_at hl 0 rfl) ?_
            refine lx_if_eq (tgt := 102) hx hb dX7_difference_81 (by decide) ⟨by decide, by decide⟩ (fun _ => ?_) (fun hc => absurd hc (by decide))
            refine lx_ldc (a := (-2147483648)) hx hb hown (hts (.constant RX7 61 (-2147483648)) (by decide +kernel)) (by decide) dX7_difference_102 ?_
            refine lv_istore (lv' := [(10, .int (z_i (-2147483648))), (9, .int (z_i 0)), (8, .int (z_i x44_8)), (7, .int (z_i x44_7)), (6, .ref o), (5, .ref g), (4, .ref g)]) hx hb dX7_difference_104 hl (by decide) rfl (fun ls hl => ?_)
            refine lv_iload hx hb dX7_difference_106 (lv_at hl 1 rfl) ?_
            refine lx_if_eq (tgt := 132) hx hb dX7_difference_108 (by decide) ⟨by decide, by decide⟩ (fun _ => ?_) (fun hc => absurd hc (by decide))
            refine lv_aload hx hb dX7_difference_132 (lv_at hl 4 rfl) ?_
            refine lv_iload hx hb dX7_difference_134 (lv_at hl 2 rfl) ?_
            refine lv_iload hx hb dX7_difference_136 (lv_at hl 0 rfl) ?_
            obtain ⟨hp8, hv⟩ := hv
            have hFc := z_fr (A := A) (wc := [(o, .inr (1, [.ref oa_units, .ref oa_lengths, .ref oa_offsets, .int (z_i o_step)])), (oa_units, .inl (cA 1, 1280, .inl y44_oa_units)), (oa_lengths, .inl (cA 1, 32, .inl o_lengths)), (oa_offsets, .inl (cA 1, 32, .inl o_offsets))]) hD [6, 7, 8, 9] rfl
            refine va_callv (va_runV (As := [.int (z_i x44_8), .int (z_i (-2147483648))]) (rest := []) ⟨hx, hb, hml, hown, hts⟩ (mt_X2_put l D cA o oa_units y44_oa_units oa_lengths o_lengths oa_offsets o_offsets o_step x44_8 (-2147483648) h_o_step h_x44_8 (show z_in (-2147483648) from ⟨by decide, by decide⟩) hp8) (cwV 2 hts gX7_difference_X2_put rfl rfl rfl (by decide +kernel) ⟨Nat.le_of_ble_eq_true rfl, Nat.le_of_ble_eq_true rfl⟩) ⟨z_blm0, va_recv hK hP (ci := 1) (q0 := 6) rfl rfl, fun U hU hW => ⟨rfl, z_m0 hK (hP.sub (ws' := [(o, .inr (1, [.ref oa_units, .ref oa_lengths, .ref oa_offsets, .int (z_i o_step)])), (oa_units, .inl (cA 1, 1280, .inl y44_oa_units)), (oa_lengths, .inl (cA 1, 32, .inl o_lengths)), (oa_offsets, .inl (cA 1, 32, .inl o_offsets))]) [6, 7, 8, 9] rfl) (hD.sub (ws' := [(o, .inr (1, [.ref oa_units, .ref oa_lengths, .ref oa_offsets, .int (z_i o_step)])), (oa_units, .inl (cA 1, 1280, .inl y44_oa_units)), (oa_lengths, .inl (cA 1, 32, .inl o_lengths)), (oa_offsets, .inl (cA 1, 32, .inl o_offsets))]) [6, 7, 8, 9] (by decide) rfl) hU hW⟩⟩ rfl rfl hl.1 rfl (lv_room (Nat.le_of_ble_eq_true rfl)) dX7_difference_138 ⟨Nat.zero_le _, Nat.zero_le _⟩) hS (fun q _ h => hFc q h) hFc (fun u t H locs ht hvm hw hB hz1 hk1 hS => ?_)
            obtain ⟨c9, rfl⟩ : ∃ z, z = u := ⟨_, rfl⟩
            rw [ht] at hB
            have hP := z_join2 (wc := [(o, .inr (1, [.ref oa_units, .ref oa_lengths, .ref oa_offsets, .int (z_i o_step)])), (oa_units, .inl (cA 1, 1280, .inl y44_oa_units)), (oa_lengths, .inl (cA 1, 32, .inl o_lengths)), (oa_offsets, .inl (cA 1, 32, .inl o_offsets))]) (w1 := [(o, .inr (1, [.ref oa_units, .ref oa_lengths, .ref oa_offsets, .int (z_i o_step)])), (oa_units, .inl (cA 1, 1280, .inl c9)), (oa_lengths, .inl (cA 1, 32, .inl o_lengths)), (oa_offsets, .inl (cA 1, 32, .inl o_offsets))]) hP hD [6, 7, 8, 9] [0, 0, 0, 0, 0, 0, 1, 2, 3, 4] rfl rfl rfl hk1 hB
            have hP : va_P D vwCl [(x, .inr (5, [.ref xa_grids, .ref x_levelMm, .int (z_i x_levelCount), .ref x_water, .ref x_scratch, .ref x_lines])), (xa_grids, .inl (cA 4, 4, .inr (.inr (.inr (.inr x_grids))))), (g, .inr (1, [.ref ga_units, .ref ga_lengths, .ref ga_offsets, .int (z_i g_step)])), (ga_units, .inl (cA 1, 1280, .inl g_units)), (ga_lengths, .inl (cA 1, 32, .inl g_lengths)), (ga_offsets, .inl (cA 1, 32, .inl g_offsets)), (o, .inr (1, [.ref oa_units, .ref oa_lengths, .ref oa_offsets, .int (z_i o_step)])), (oa_units, .inl (cA 1, 1280, .inl c9)), (oa_lengths, .inl (cA 1, 32, .inl o_lengths)), (oa_offsets, .inl (cA 1, 32, .inl o_offsets))] H := hP
            have hD : va_D A [(x, .inr (5, [.ref xa_grids, .ref x_levelMm, .int (z_i x_levelCount), .ref x_water, .ref x_scratch, .ref x_lines])), (xa_grids, .inl (cA 4, 4, .inr (.inr (.inr (.inr x_grids))))), (g, .inr (1, [.ref ga_units, .ref ga_lengths, .ref ga_offsets, .int (z_i g_step)])), (ga_units, .inl (cA 1, 1280, .inl g_units)), (ga_lengths, .inl (cA 1, 32, .inl g_lengths)), (ga_offsets, .inl (cA 1, 32, .inl g_offsets)), (o, .inr (1, [.ref oa_units, .ref oa_lengths, .ref oa_offsets, .int (z_i o_step)])), (oa_units, .inl (cA 1, 1280, .inl c9)), (oa_lengths, .inl (cA 1, 32, .inl o_lengths)), (oa_offsets, .inl (cA 1, 32, .inl o_offsets))] := z_D_addr hD rfl
            have hv := hv c9 hw
            refine lv_iinc (v := z_i (x44_8 + 1)) (lv' := [(8, .int (z_i (x44_8 + 1))), (10, .int (z_i (-2147483648))), (9, .int (z_i 0)), (7, .int (z_i x44_7)), (6, .ref o), (5, .ref g), (4, .ref g)]) hx hb dX7_difference_141 hl (k := 2) rfl (z_i_add _ _) (by decide) rfl (fun ls hl => ?_)
            refine lv_goto (tgt := 44) hx hb dX7_difference_144 (by decide) ?_
            exact hv _ _ ls hP hD hS (lv_sub hl [0, 3, 4, 5, 6] rfl)
          · have hv := hv.2 hc
            refine lv_aload hx hb dX7_difference_62 (lv_at hl 3 rfl) ?_
            refine lv_iload hx hb dX7_difference_64 (lv_at hl 0 rfl) ?_
            refine va_calli (va_runV (As := [.int (z_i x44_8)]) (rest := []) ⟨hx, hb, hml, hown, hts⟩ (mt_X2_isThere l D cA g ga_units g_units ga_lengths g_lengths ga_offsets g_offsets g_step x44_8 h_g_step h_x44_8) (cwV 1 hts gX7_difference_X2_isThere rfl rfl rfl (by decide +kernel) ⟨Nat.le_of_ble_eq_true rfl, Nat.le_of_ble_eq_true rfl⟩) ⟨z_bl0, va_recv hK hP (ci := 1) (q0 := 2) rfl rfl, fun U hU hW => ⟨rfl, z_b0 hK (hP.sub (ws' := [(g, .inr (1, [.ref ga_units, .ref ga_lengths, .ref ga_offsets, .int (z_i g_step)])), (ga_units, .inl (cA 1, 1280, .inl g_units)), (ga_lengths, .inl (cA 1, 32, .inl g_lengths)), (ga_offsets, .inl (cA 1, 32, .inl g_offsets))]) [2, 3, 4, 5] rfl) hU hW⟩⟩ rfl rfl hl.1 rfl (lv_room (Nat.le_of_ble_eq_true rfl)) dX7_difference_66 ⟨Nat.zero_le _, Nat.zero_le _⟩) hS (fun q _ h => h.elim) (fun q h => h.elim) (fun r0 u t H locs ht hvm hw hB hz1 hk1 hS => ?_)
            obtain ⟨r10, rfl, h_r10, hw⟩ := hw
            have hP := z_P_all hP hk1
            have hv := hv r10 h_r10 hw
            refine lx_if_eq (tgt := 76) hx hb dX7_difference_69 (by decide) h_r10 (fun hc => ?_) (fun hc => ?_)
            · have hv := hv.1 hc
              refine lv_iconst (v := z_i 0) hx hb dX7_difference_76 rfl ?_
              refine lv_istore (lv' := [(9, .int (z_i 0)), (8, .int (z_i x44_8)), (7, .int (z_i x44_7)), (6, .ref o), (5, .ref g), (4, .ref g)]) hx hb dX7_difference_77 hl (by decide) rfl (fun ls hl => ?_)
              refine lv_iload hx hb dX7_difference_79 (lv_at hl 0 rfl) ?_
              refine lx_if_eq (tgt := 102) hx hb dX7_difference_81 (by decide) ⟨by decide, by decide⟩ (fun _ => ?_) (fun hc => absurd hc (by decide))
              refine lx_ldc (a := (-2147483648)) hx hb hown (hts (.constant RX7 61 (-2147483648)) (by decide +kernel)) (by decide) dX7_difference_102 ?_
              refine lv_istore (lv' := [(10, .int (z_i (-2147483648))), (9, .int (z_i 0)), (8, .int (z_i x44_8)), (7, .int (z_i x44_7)), (6, .ref o), (5, .ref g), (4, .ref g)]) hx hb dX7_difference_104 hl (by decide) rfl (fun ls hl => ?_)
              refine lv_iload hx hb dX7_difference_106 (lv_at hl 1 rfl) ?_
              refine lx_if_eq (tgt := 132) hx hb dX7_difference_108 (by decide) ⟨by decide, by decide⟩ (fun _ => ?_) (fun hc => absurd hc (by decide))
              refine lv_aload hx hb dX7_difference_132 (lv_at hl 4 rfl) ?_
              refine lv_iload hx hb dX7_difference_134 (lv_at hl 2 rfl) ?_
              refine lv_iload hx hb dX7_difference_136 (lv_at hl 0 rfl) ?_
              obtain ⟨hp11, hv⟩ := hv
              have hFc := z_fr (A := A) (wc := [(o, .inr (1, [.ref oa_units, .ref oa_lengths, .ref oa_offsets, .int (z_i o_step)])), (oa_units, .inl (cA 1, 1280, .inl y44_oa_units)), (oa_lengths, .inl (cA 1, 32, .inl o_lengths)), (oa_offsets, .inl (cA 1, 32, .inl o_offsets))]) hD [6, 7, 8, 9] rfl
              refine va_callv (va_runV (As := [.int (z_i x44_8), .int (z_i (-2147483648))]) (rest := []) ⟨hx, hb, hml, hown, hts⟩ (mt_X2_put l D cA o oa_units y44_oa_units oa_lengths o_lengths oa_offsets o_offsets o_step x44_8 (-2147483648) h_o_step h_x44_8 (show z_in (-2147483648) from ⟨by decide, by decide⟩) hp11) (cwV 2 hts gX7_difference_X2_put rfl rfl rfl (by decide +kernel) ⟨Nat.le_of_ble_eq_true rfl, Nat.le_of_ble_eq_true rfl⟩) ⟨z_blm0, va_recv hK hP (ci := 1) (q0 := 6) rfl rfl, fun U hU hW => ⟨rfl, z_m0 hK (hP.sub (ws' := [(o, .inr (1, [.ref oa_units, .ref oa_lengths, .ref oa_offsets, .int (z_i o_step)])), (oa_units, .inl (cA 1, 1280, .inl y44_oa_units)), (oa_lengths, .inl (cA 1, 32, .inl o_lengths)), (oa_offsets, .inl (cA 1, 32, .inl o_offsets))]) [6, 7, 8, 9] rfl) (hD.sub (ws' := [(o, .inr (1, [.ref oa_units, .ref oa_lengths, .ref oa_offsets, .int (z_i o_step)])), (oa_units, .inl (cA 1, 1280, .inl y44_oa_units)), (oa_lengths, .inl (cA 1, 32, .inl o_lengths)), (oa_offsets, .inl (cA 1, 32, .inl o_offsets))]) [6, 7, 8, 9] (by decide) rfl) hU hW⟩⟩ rfl rfl hl.1 rfl (lv_room (Nat.le_of_ble_eq_true rfl)) dX7_difference_138 ⟨Nat.zero_le _, Nat.zero_le _⟩) hS (fun q _ h => hFc q h) hFc (fun u t H locs ht hvm hw hB hz1 hk1 hS => ?_)
              obtain ⟨c12, rfl⟩ : ∃ z, z = u := ⟨_, rfl⟩
              rw [ht] at hB
              have hP := z_join2 (wc := [(o, .inr (1, [.ref oa_units, .ref oa_lengths, .ref oa_offsets, .int (z_i o_step)])), (oa_units, .inl (cA 1, 1280, .inl y44_oa_units)), (oa_lengths, .inl (cA 1, 32, .inl o_lengths)), (oa_offsets, .inl (cA 1, 32, .inl o_offsets))]) (w1 := [(o, .inr (1, [.ref oa_units, .ref oa_lengths, .ref oa_offsets, .int (z_i o_step)])), (oa_units, .inl (cA 1, 1280, .inl c12)), (oa_lengths, .inl (cA 1, 32, .inl o_lengths)), (oa_offsets, .inl (cA 1, 32, .inl o_offsets))]) hP hD [6, 7, 8, 9] [0, 0, 0, 0, 0, 0, 1, 2, 3, 4] rfl rfl rfl hk1 hB
              have hP : va_P D vwCl [(x, .inr (5, [.ref xa_grids, .ref x_levelMm, .int (z_i x_levelCount), .ref x_water, .ref x_scratch, .ref x_lines])), (xa_grids, .inl (cA 4, 4, .inr (.inr (.inr (.inr x_grids))))), (g, .inr (1, [.ref ga_units, .ref ga_lengths, .ref ga_offsets, .int (z_i g_step)])), (ga_units, .inl (cA 1, 1280, .inl g_units)), (ga_lengths, .inl (cA 1, 32, .inl g_lengths)), (ga_offsets, .inl (cA 1, 32, .inl g_offsets)), (o, .inr (1, [.ref oa_units, .ref oa_lengths, .ref oa_offsets, .int (z_i o_step)])), (oa_units, .inl (cA 1, 1280, .inl c12)), (oa_lengths, .inl (cA 1, 32, .inl o_lengths)), (oa_offsets, .inl (cA 1, 32, .inl o_offsets))] H := hP
              have hD : va_D A [(x, .inr (5, [.ref xa_grids, .ref x_levelMm, .int (z_i x_levelCount), .ref x_water, .ref x_scratch, .ref x_lines])), (xa_grids, .inl (cA 4, 4, .inr (.inr (.inr (.inr x_grids))))), (g, .inr (1, [.ref ga_units, .ref ga_lengths, .ref ga_offsets, .int (z_i g_step)])), (ga_units, .inl (cA 1, 1280, .inl g_units)), (ga_lengths, .inl (cA 1, 32, .inl g_lengths)), (ga_offsets, .inl (cA 1, 32, .inl g_offsets)), (o, .inr (1, [.ref oa_units, .ref oa_lengths, .ref oa_offsets, .int (z_i o_step)])), (oa_units, .inl (cA 1, 1280, .inl c12)), (oa_lengths, .inl (cA 1, 32, .inl o_lengths)), (oa_offsets, .inl (cA 1, 32, .inl o_offsets))] := z_D_addr hD rfl
              have hv := hv c12 hw
              refine lv_iinc (v := z_i (x44_8 + 1)) (lv' := [(8, .int (z_i (x44_8 + 1))), (10, .int (z_i (-2147483648))), (9, .int (z_i 0)), (7, .int (z_i x44_7)), (6, .ref o), (5, .ref g), (4, .ref g)]) hx hb dX7_difference_141 hl (k := 2) rfl (z_i_add _ _) (by decide) rfl (fun ls hl => ?_)
              refine lv_goto (tgt := 44) hx hb dX7_difference_144 (by decide) ?_
              exact hv _ _ ls hP hD hS (lv_sub hl [0, 3, 4, 5, 6] rfl)
            · have hv := hv.2 hc
              refine lv_iconst (v := z_i 1) hx hb dX7_difference_72 rfl ?_
              refine lv_goto (tgt := 77) hx hb dX7_difference_73 (by decide) ?_
              refine lv_istore (lv' := [(9, .int (z_i 1)), (8, .int (z_i x44_8)), (7, .int (z_i x44_7)), (6, .ref o), (5, .ref g), (4, .ref g)]) hx hb dX7_difference_77 hl (by decide) rfl (fun ls hl => ?_)
              refine lv_iload hx hb dX7_difference_79 (lv_at hl 0 rfl) ?_
              refine lx_if_eq (tgt := 102) hx hb dX7_difference_81 (by decide) ⟨by decide, by decide⟩ (fun hc => absurd hc (by decide)) (fun _ => ?_)
              refine lv_aload hx hb dX7_difference_84 (lv_at hl 5 rfl) ?_
              refine lv_iload hx hb dX7_difference_86 (lv_at hl 1 rfl) ?_
              refine va_calli (va_runV (As := [.int (z_i x44_8)]) (rest := []) ⟨hx, hb, hml, hown, hts⟩ (mt_X2_unitsOf l D cA g ga_units g_units ga_lengths g_lengths ga_offsets g_offsets g_step x44_8 h_g_step h_x44_8) (cwV 1 hts gX7_difference_X2_unitsOf rfl rfl rfl (by decide +kernel) ⟨Nat.le_of_ble_eq_true rfl, Nat.le_of_ble_eq_true rfl⟩) ⟨z_bl0, va_recv hK hP (ci := 1) (q0 := 2) rfl rfl, fun U hU hW => ⟨rfl, z_b0 hK (hP.sub (ws' := [(g, .inr (1, [.ref ga_units, .ref ga_lengths, .ref ga_offsets, .int (z_i g_step)])), (ga_units, .inl (cA 1, 1280, .inl g_units)), (ga_lengths, .inl (cA 1, 32, .inl g_lengths)), (ga_offsets, .inl (cA 1, 32, .inl g_offsets))]) [2, 3, 4, 5] rfl) hU hW⟩⟩ rfl rfl hl.1 rfl (lv_room (Nat.le_of_ble_eq_true rfl)) dX7_difference_88 ⟨Nat.zero_le _, Nat.zero_le _⟩) hS (fun q _ h => h.elim) (fun q h => h.elim) (fun r0 u t H locs ht hvm hw hB hz1 hk1 hS => ?_)
              obtain ⟨r13, rfl, h_r13, hw⟩ := hw
              have hP := z_P_all hP hk1
              have hv := hv r13 h_r13 hw
              refine lv_aload hx hb dX7_difference_91 (lv_at hl 4 rfl) ?_
              refine lv_iload hx hb dX7_difference_93 (lv_at hl 1 rfl) ?_
              refine va_calli (va_runV (As := [.int (z_i x44_8)]) (rest := [.int (z_i r13)]) ⟨hx, hb, hml, hown, hts⟩ (mt_X2_unitsOf l D cA g ga_units g_units ga_lengths g_lengths ga_offsets g_offsets g_step x44_8 h_g_step h_x44_8) (cwV 1 hts gX7_difference_X2_unitsOf rfl rfl rfl (by decide +kernel) ⟨Nat.le_of_ble_eq_true rfl, Nat.le_of_ble_eq_true rfl⟩) ⟨z_bl0, va_recv hK hP (ci := 1) (q0 := 2) rfl rfl, fun U hU hW => ⟨rfl, z_b0 hK (hP.sub (ws' := [(g, .inr (1, [.ref ga_units, .ref ga_lengths, .ref ga_offsets, .int (z_i g_step)])), (ga_units, .inl (cA 1, 1280, .inl g_units)), (ga_lengths, .inl (cA 1, 32, .inl g_lengths)), (ga_offsets, .inl (cA 1, 32, .inl g_offsets))]) [2, 3, 4, 5] rfl) hU hW⟩⟩ rfl rfl hl.1 rfl (lv_room (Nat.le_of_ble_eq_true rfl)) dX7_difference_95 ⟨Nat.zero_le _, Nat.zero_le _⟩) hS (fun q _ h => h.elim) (fun q h => h.elim) (fun r0 u t H locs ht hvm hw hB hz1 hk1 hS => ?_)
              obtain ⟨r14, rfl, h_r14, hw⟩ := hw
              have hP := z_P_all hP hk1
              have hv := hv r14 h_r14 hw
              refine lx_isub hx hb dX7_difference_98 ?_
              refine lv_goto (tgt := 104) hx hb dX7_difference_99 (by decide) ?_
              obtain ⟨hr16, hv⟩ := hv
              refine lx_topi (fun v15 hy17 => ?_)
              have hv := hv v15 hy17
              have h_v15 : z_in v15 := by rw [hy17]; exact hr16
              refine lv_istore (lv' := [(10, .int (z_i v15)), (9, .int (z_i 1)), (8, .int (z_i x44_8)), (7, .int (z_i x44_7)), (6, .ref o), (5, .ref g), (4, .ref g)]) hx hb dX7_difference_104 hl (by decide) rfl (fun ls hl => ?_)
              refine lv_iload hx hb dX7_difference_106 (lv_at hl 1 rfl) ?_
              refine lx_if_eq (tgt := 132) hx hb dX7_difference_108 (by decide) ⟨by decide, by decide⟩ (fun hc => absurd hc (by decide)) (fun _ => ?_)
              refine lv_iload hx hb dX7_difference_111 (lv_at hl 0 rfl) ?_
              refine lx_ldc (a := (-8388608)) hx hb hown (hts (.constant RX7 180 (-8388608)) (by decide +kernel)) (by decide) dX7_difference_113 ?_
              refine lx_icmp_lt (tgt := 125) hx hb dX7_difference_115 (by decide) h_v15 (show z_in (-8388608) from ⟨by decide, by decide⟩) (fun hc => ?_) (fun hc => ?_)
              · have hv := hv.1 hc
                refine lv_iinc (v := z_i (x44_7 + 1)) (lv' := [(7, .int (z_i (x44_7 + 1))), (10, .int (z_i v15)), (9, .int (z_i 1)), (8, .int (z_i x44_8)), (6, .ref o), (5, .ref g), (4, .ref g)]) hx hb dX7_difference_125 hl (k := 3) rfl (z_i_add _ _) (by decide) rfl (fun ls hl => ?_)
                refine lx_ldc (a := (-2147483648)) hx hb hown (hts (.constant RX7 61 (-2147483648)) (by decide +kernel)) (by decide) dX7_difference_128 ?_
                refine lv_istore (lv' := [(10, .int (z_i (-2147483648))), (7, .int (z_i (x44_7 + 1))), (9, .int (z_i 1)), (8, .int (z_i x44_8)), (6, .ref o), (5, .ref g), (4, .ref g)]) hx hb dX7_difference_130 hl (by decide) rfl (fun ls hl => ?_)
                refine lv_aload hx hb dX7_difference_132 (lv_at hl 4 rfl) ?_
                refine lv_iload hx hb dX7_difference_134 (lv_at hl 3 rfl) ?_
                refine lv_iload hx hb dX7_difference_136 (lv_at hl 0 rfl) ?_
                obtain ⟨hp18, hv⟩ := hv
                have hFc := z_fr (A := A) (wc := [(o, .inr (1, [.ref oa_units, .ref oa_lengths, .ref oa_offsets, .int (z_i o_step)])), (oa_units, .inl (cA 1, 1280, .inl y44_oa_units)), (oa_lengths, .inl (cA 1, 32, .inl o_lengths)), (oa_offsets, .inl (cA 1, 32, .inl o_offsets))]) hD [6, 7, 8, 9] rfl
                refine va_callv (va_runV (As := [.int (z_i x44_8), .int (z_i (-2147483648))]) (rest := []) ⟨hx, hb, hml, hown, hts⟩ (mt_X2_put l D cA o oa_units y44_oa_units oa_lengths o_lengths oa_offsets o_offsets o_step x44_8 (-2147483648) h_o_step h_x44_8 (show z_in (-2147483648) from ⟨by decide, by decide⟩) hp18) (cwV 2 hts gX7_difference_X2_put rfl rfl rfl (by decide +kernel) ⟨Nat.le_of_ble_eq_true rfl, Nat.le_of_ble_eq_true rfl⟩) ⟨z_blm0, va_recv hK hP (ci := 1) (q0 := 6) rfl rfl, fun U hU hW => ⟨rfl, z_m0 hK (hP.sub (ws' := [(o, .inr (1, [.ref oa_units, .ref oa_lengths, .ref oa_offsets, .int (z_i o_step)])), (oa_units, .inl (cA 1, 1280, .inl y44_oa_units)), (oa_lengths, .inl (cA 1, 32, .inl o_lengths)), (oa_offsets, .inl (cA 1, 32, .inl o_offsets))]) [6, 7, 8, 9] rfl) (hD.sub (ws' := [(o, .inr (1, [.ref oa_units, .ref oa_lengths, .ref oa_offsets, .int (z_i o_step)])), (oa_units, .inl (cA 1, 1280, .inl y44_oa_units)), (oa_lengths, .inl (cA 1, 32, .inl o_lengths)), (oa_offsets, .inl (cA 1, 32, .inl o_offsets))]) [6, 7, 8, 9] (by decide) rfl) hU hW⟩⟩ rfl rfl hl.1 rfl (lv_room (Nat.le_of_ble_eq_true rfl)) dX7_difference_138 ⟨Nat.zero_le _, Nat.zero_le _⟩) hS (fun q _ h => hFc q h) hFc (fun u t H locs ht hvm hw hB hz1 hk1 hS => ?_)
                obtain ⟨c19, rfl⟩ : ∃ z, z = u := ⟨_, rfl⟩
                rw [ht] at hB
                have hP := z_join2 (wc := [(o, .inr (1, [.ref oa_units, .ref oa_lengths, .ref oa_offsets, .int (z_i o_step)])), (oa_units, .inl (cA 1, 1280, .inl y44_oa_units)), (oa_lengths, .inl (cA 1, 32, .inl o_lengths)), (oa_offsets, .inl (cA 1, 32, .inl o_offsets))]) (w1 := [(o, .inr (1, [.ref oa_units, .ref oa_lengths, .ref oa_offsets, .int (z_i o_step)])), (oa_units, .inl (cA 1, 1280, .inl c19)), (oa_lengths, .inl (cA 1, 32, .inl o_lengths)), (oa_offsets, .inl (cA 1, 32, .inl o_offsets))]) hP hD [6, 7, 8, 9] [0, 0, 0, 0, 0, 0, 1, 2, 3, 4] rfl rfl rfl hk1 hB
                have hP : va_P D vwCl [(x, .inr (5, [.ref xa_grids, .ref x_levelMm, .int (z_i x_levelCount), .ref x_water, .ref x_scratch, .ref x_lines])), (xa_grids, .inl (cA 4, 4, .inr (.inr (.inr (.inr x_grids))))), (g, .inr (1, [.ref ga_units, .ref ga_lengths, .ref ga_offsets, .int (z_i g_step)])), (ga_units, .inl (cA 1, 1280, .inl g_units)), (ga_lengths, .inl (cA 1, 32, .inl g_lengths)), (ga_offsets, .inl (cA 1, 32, .inl g_offsets)), (o, .inr (1, [.ref oa_units, .ref oa_lengths, .ref oa_offsets, .int (z_i o_step)])), (oa_units, .inl (cA 1, 1280, .inl c19)), (oa_lengths, .inl (cA 1, 32, .inl o_lengths)), (oa_offsets, .inl (cA 1, 32, .inl o_offsets))] H := hP
                have hD : va_D A [(x, .inr (5, [.ref xa_grids, .ref x_levelMm, .int (z_i x_levelCount), .ref x_water, .ref x_scratch, .ref x_lines])), (xa_grids, .inl (cA 4, 4, .inr (.inr (.inr (.inr x_grids))))), (g, .inr (1, [.ref ga_units, .ref ga_lengths, .ref ga_offsets, .int (z_i g_step)])), (ga_units, .inl (cA 1, 1280, .inl g_units)), (ga_lengths, .inl (cA 1, 32, .inl g_lengths)), (ga_offsets, .inl (cA 1, 32, .inl g_offsets)), (o, .inr (1, [.ref oa_units, .ref oa_lengths, .ref oa_offsets, .int (z_i o_step)])), (oa_units, .inl (cA 1, 1280, .inl c19)), (oa_lengths, .inl (cA 1, 32, .inl o_lengths)), (oa_offsets, .inl (cA 1, 32, .inl o_offsets))] := z_D_addr hD rfl
                have hv := hv c19 hw
                refine lv_iinc (v := z_i (x44_8 + 1)) (lv' := [(8, .int (z_i (x44_8 + 1))), (10, .int (z_i (-2147483648))), (7, .int (z_i (x44_7 + 1))), (9, .int (z_i 1)), (6, .ref o), (5, .ref g), (4, .ref g)]) hx hb dX7_difference_141 hl (k := 3) rfl (z_i_add _ _) (by decide) rfl (fun ls hl => ?_)
                refine lv_goto (tgt := 44) hx hb dX7_difference_144 (by decide) ?_
                exact hv _ _ ls hP hD hS (lv_sub hl [0, 2, 4, 5, 6] rfl)
              · have hv := hv.2 hc
                refine lv_iload hx hb dX7_difference_118 (lv_at hl 0 rfl) ?_
                refine lx_ldc (a := 8388608) hx hb hown (hts (.constant RX7 181 (8388608)) (by decide +kernel)) (by decide) dX7_difference_120 ?_
                refine lx_icmp_le (tgt := 132) hx hb dX7_difference_122 (by decide) h_v15 (show z_in 8388608 from ⟨by decide, by decide⟩) (fun hc => ?_) (fun hc => ?_)
                · have hv := hv.1 hc
                  refine lv_aload hx hb dX7_difference_132 (lv_at hl 4 rfl) ?_
                  refine lv_iload hx hb dX7_difference_134 (lv_at hl 2 rfl) ?_
                  refine lv_iload hx hb dX7_difference_136 (lv_at hl 0 rfl) ?_
                  obtain ⟨hp20, hv⟩ := hv
                  have hFc := z_fr (A := A) (wc := [(o, .inr (1, [.ref oa_units, .ref oa_lengths, .ref oa_offsets, .int (z_i o_step)])), (oa_units, .inl (cA 1, 1280, .inl y44_oa_units)), (oa_lengths, .inl (cA 1, 32, .inl o_lengths)), (oa_offsets, .inl (cA 1, 32, .inl o_offsets))]) hD [6, 7, 8, 9] rfl
                  refine va_callv (va_runV (As := [.int (z_i x44_8), .int (z_i v15)]) (rest := []) ⟨hx, hb, hml, hown, hts⟩ (mt_X2_put l D cA o oa_units y44_oa_units oa_lengths o_lengths oa_offsets o_offsets o_step x44_8 v15 h_o_step h_x44_8 h_v15 hp20) (cwV 2 hts gX7_difference_X2_put rfl rfl rfl (by decide +kernel) ⟨Nat.le_of_ble_eq_true rfl, Nat.le_of_ble_eq_true rfl⟩) ⟨z_blm0, va_recv hK hP (ci := 1) (q0 := 6) rfl rfl, fun U hU hW => ⟨rfl, z_m0 hK (hP.sub (ws' := [(o, .inr (1, [.ref oa_units, .ref oa_lengths, .ref oa_offsets, .int (z_i o_step)])), (oa_units, .inl (cA 1, 1280, .inl y44_oa_units)), (oa_lengths, .inl (cA 1, 32, .inl o_lengths)), (oa_offsets, .inl (cA 1, 32, .inl o_offsets))]) [6, 7, 8, 9] rfl) (hD.sub (ws' := [(o, .inr (1, [.ref oa_units, .ref oa_lengths, .ref oa_offsets, .int (z_i o_step)])), (oa_units, .inl (cA 1, 1280, .inl y44_oa_units)), (oa_lengths, .inl (cA 1, 32, .inl o_lengths)), (oa_offsets, .inl (cA 1, 32, .inl o_offsets))]) [6, 7, 8, 9] (by decide) rfl) hU hW⟩⟩ rfl rfl hl.1 rfl (lv_room (Nat.le_of_ble_eq_true rfl)) dX7_difference_138 ⟨Nat.zero_le _, Nat.zero_le _⟩) hS (fun q _ h => hFc q h) hFc (fun u t H locs ht hvm hw hB hz1 hk1 hS => ?_)
                  obtain ⟨c21, rfl⟩ : ∃ z, z = u := ⟨_, rfl⟩
                  rw [ht] at hB
                  have hP := z_join2 (wc := [(o, .inr (1, [.ref oa_units, .ref oa_lengths, .ref oa_offsets, .int (z_i o_step)])), (oa_units, .inl (cA 1, 1280, .inl y44_oa_units)), (oa_lengths, .inl (cA 1, 32, .inl o_lengths)), (oa_offsets, .inl (cA 1, 32, .inl o_offsets))]) (w1 := [(o, .inr (1, [.ref oa_units, .ref oa_lengths, .ref oa_offsets, .int (z_i o_step)])), (oa_units, .inl (cA 1, 1280, .inl c21)), (oa_lengths, .inl (cA 1, 32, .inl o_lengths)), (oa_offsets, .inl (cA 1, 32, .inl o_offsets))]) hP hD [6, 7, 8, 9] [0, 0, 0, 0, 0, 0, 1, 2, 3, 4] rfl rfl rfl hk1 hB
                  have hP : va_P D vwCl [(x, .inr (5, [.ref xa_grids, .ref x_levelMm, .int (z_i x_levelCount), .ref x_water, .ref x_scratch, .ref x_lines])), (xa_grids, .inl (cA 4, 4, .inr (.inr (.inr (.inr x_grids))))), (g, .inr (1, [.ref ga_units, .ref ga_lengths, .ref ga_offsets, .int (z_i g_step)])), (ga_units, .inl (cA 1, 1280, .inl g_units)), (ga_lengths, .inl (cA 1, 32, .inl g_lengths)), (ga_offsets, .inl (cA 1, 32, .inl g_offsets)), (o, .inr (1, [.ref oa_units, .ref oa_lengths, .ref oa_offsets, .int (z_i o_step)])), (oa_units, .inl (cA 1, 1280, .inl c21)), (oa_lengths, .inl (cA 1, 32, .inl o_lengths)), (oa_offsets, .inl (cA 1, 32, .inl o_offsets))] H := hP
                  have hD : va_D A [(x, .inr (5, [.ref xa_grids, .ref x_levelMm, .int (z_i x_levelCount), .ref x_water, .ref x_scratch, .ref x_lines])), (xa_grids, .inl (cA 4, 4, .inr (.inr (.inr (.inr x_grids))))), (g, .inr (1, [.ref ga_units, .ref ga_lengths, .ref ga_offsets, .int (z_i g_step)])), (ga_units, .inl (cA 1, 1280, .inl g_units)), (ga_lengths, .inl (cA 1, 32, .inl g_lengths)), (ga_offsets, .inl (cA 1, 32, .inl g_offsets)), (o, .inr (1, [.ref oa_units, .ref oa_lengths, .ref oa_offsets, .int (z_i o_step)])), (oa_units, .inl (cA 1, 1280, .inl c21)), (oa_lengths, .inl (cA 1, 32, .inl o_lengths)), (oa_offsets, .inl (cA 1, 32, .inl o_offsets))] := z_D_addr hD rfl
                  have hv := hv c21 hw
                  refine lv_iinc (v := z_i (x44_8 + 1)) (lv' := [(8, .int (z_i (x44_8 + 1))), (10, .int (z_i v15)), (9, .int (z_i 1)), (7, .int (z_i x44_7)), (6, .ref o), (5, .ref g), (4, .ref g)]) hx hb dX7_difference_141 hl (k := 2) rfl (z_i_add _ _) (by decide) rfl (fun ls hl => ?_)
                  refine lv_goto (tgt := 44) hx hb dX7_difference_144 (by decide) ?_
                  exact hv _ _ ls hP hD hS (lv_sub hl [0, 3, 4, 5, 6] rfl)
                · have hv := hv.2 hc
                  refine lv_iinc (v := z_i (x44_7 + 1)) (lv' := [(7, .int (z_i (x44_7 + 1))), (10, .int (z_i v15)), (9, .int (z_i 1)), (8, .int (z_i x44_8)), (6, .ref o), (5, .ref g), (4, .ref g)]) hx hb dX7_difference_125 hl (k := 3) rfl (z_i_add _ _) (by decide) rfl (fun ls hl => ?_)
                  refine lx_ldc (a := (-2147483648)) hx hb hown (hts (.constant RX7 61 (-2147483648)) (by decide +kernel)) (by decide) dX7_difference_128 ?_
                  refine lv_istore (lv' := [(10, .int (z_i (-2147483648))), (7, .int (z_i (x44_7 + 1))), (9, .int (z_i 1)), (8, .int (z_i x44_8)), (6, .ref o), (5, .ref g), (4, .ref g)]) hx hb dX7_difference_130 hl (by decide) rfl (fun ls hl => ?_)
                  refine lv_aload hx hb dX7_difference_132 (lv_at hl 4 rfl) ?_
                  refine lv_iload hx hb dX7_difference_134 (lv_at hl 3 rfl) ?_
                  refine lv_iload hx hb dX7_difference_136 (lv_at hl 0 rfl) ?_
                  obtain ⟨hp22, hv⟩ := hv
                  have hFc := z_fr (A := A) (wc := [(o, .inr (1, [.ref oa_units, .ref oa_lengths, .ref oa_offsets, .int (z_i o_step)])), (oa_units, .inl (cA 1, 1280, .inl y44_oa_units)), (oa_lengths, .inl (cA 1, 32, .inl o_lengths)), (oa_offsets, .inl (cA 1, 32, .inl o_offsets))]) hD [6, 7, 8, 9] rfl
                  refine va_callv (va_runV (As := [.int (z_i x44_8), .int (z_i (-2147483648))]) (rest := []) ⟨hx, hb, hml, hown, hts⟩ (mt_X2_put l D cA o oa_units y44_oa_units oa_lengths o_lengths oa_offsets o_offsets o_step x44_8 (-2147483648) h_o_step h_x44_8 (show z_in (-2147483648) from ⟨by decide, by decide⟩) hp22) (cwV 2 hts gX7_difference_X2_put rfl rfl rfl (by decide +kernel) ⟨Nat.le_of_ble_eq_true rfl, Nat.le_of_ble_eq_true rfl⟩) ⟨z_blm0, va_recv hK hP (ci := 1) (q0 := 6) rfl rfl, fun U hU hW => ⟨rfl, z_m0 hK (hP.sub (ws' := [(o, .inr (1, [.ref oa_units, .ref oa_lengths, .ref oa_offsets, .int (z_i o_step)])), (oa_units, .inl (cA 1, 1280, .inl y44_oa_units)), (oa_lengths, .inl (cA 1, 32, .inl o_lengths)), (oa_offsets, .inl (cA 1, 32, .inl o_offsets))]) [6, 7, 8, 9] rfl) (hD.sub (ws' := [(o, .inr (1, [.ref oa_units, .ref oa_lengths, .ref oa_offsets, .int (z_i o_step)])), (oa_units, .inl (cA 1, 1280, .inl y44_oa_units)), (oa_lengths, .inl (cA 1, 32, .inl o_lengths)), (oa_offsets, .inl (cA 1, 32, .inl o_offsets))]) [6, 7, 8, 9] (by decide) rfl) hU hW⟩⟩ rfl rfl hl.1 rfl (lv_room (Nat.le_of_ble_eq_true rfl)) dX7_difference_138 ⟨Nat.zero_le _, Nat.zero_le _⟩) hS (fun q _ h => hFc q h) hFc (fun u t H locs ht hvm hw hB hz1 hk1 hS => ?_)
                  obtain ⟨c23, rfl⟩ : ∃ z, z = u := ⟨_, rfl⟩
                  rw [ht] at hB
                  have hP := z_join2 (wc := [(o, .inr (1, [.ref oa_units, .ref oa_lengths, .ref oa_offsets, .int (z_i o_step)])), (oa_units, .inl (cA 1, 1280, .inl y44_oa_units)), (oa_lengths, .inl (cA 1, 32, .inl o_lengths)), (oa_offsets, .inl (cA 1, 32, .inl o_offsets))]) (w1 := [(o, .inr (1, [.ref oa_units, .ref oa_lengths, .ref oa_offsets, .int (z_i o_step)])), (oa_units, .inl (cA 1, 1280, .inl c23)), (oa_lengths, .inl (cA 1, 32, .inl o_lengths)), (oa_offsets, .inl (cA 1, 32, .inl o_offsets))]) hP hD [6, 7, 8, 9] [0, 0, 0, 0, 0, 0, 1, 2, 3, 4] rfl rfl rfl hk1 hB
                  have hP : va_P D vwCl [(x, .inr (5, [.ref xa_grids, .ref x_levelMm, .int (z_i x_levelCount), .ref x_water, .ref x_scratch, .ref x_lines])), (xa_grids, .inl (cA 4, 4, .inr (.inr (.inr (.inr x_grids))))), (g, .inr (1, [.ref ga_units, .ref ga_lengths, .ref ga_offsets, .int (z_i g_step)])), (ga_units, .inl (cA 1, 1280, .inl g_units)), (ga_lengths, .inl (cA 1, 32, .inl g_lengths)), (ga_offsets, .inl (cA 1, 32, .inl g_offsets)), (o, .inr (1, [.ref oa_units, .ref oa_lengths, .ref oa_offsets, .int (z_i o_step)])), (oa_units, .inl (cA 1, 1280, .inl c23)), (oa_lengths, .inl (cA 1, 32, .inl o_lengths)), (oa_offsets, .inl (cA 1, 32, .inl o_offsets))] H := hP
                  have hD : va_D A [(x, .inr (5, [.ref xa_grids, .ref x_levelMm, .int (z_i x_levelCount), .ref x_water, .ref x_scratch, .ref x_lines])), (xa_grids, .inl (cA 4, 4, .inr (.inr (.inr (.inr x_grids))))), (g, .inr (1, [.ref ga_units, .ref ga_lengths, .ref ga_offsets, .int (z_i g_step)])), (ga_units, .inl (cA 1, 1280, .inl g_units)), (ga_lengths, .inl (cA 1, 32, .inl g_lengths)), (ga_offsets, .inl (cA 1, 32, .inl g_offsets)), (o, .inr (1, [.ref oa_units, .ref oa_lengths, .ref oa_offsets, .int (z_i o_step)])), (oa_units, .inl (cA 1, 1280, .inl c23)), (oa_lengths, .inl (cA 1, 32, .inl o_lengths)), (oa_offsets, .inl (cA 1, 32, .inl o_offsets))] := z_D_addr hD rfl
                  have hv := hv c23 hw
                  refine lv_iinc (v := z_i (x44_8 + 1)) (lv' := [(8, .int (z_i (x44_8 + 1))), (10, .int (z_i (-2147483648))), (7, .int (z_i (x44_7 + 1))), (9, .int (z_i 1)), (6, .ref o), (5, .ref g), (4, .ref g)]) hx hb dX7_difference_141 hl (k := 3) rfl (z_i_add _ _) (by decide) rfl (fun ls hl => ?_)
                  refine lv_goto (tgt := 44) hx hb dX7_difference_144 (by decide) ?_
                  exact hv _ _ ls hP hD hS (lv_sub hl [0, 2, 4, 5, 6] rfl)
      · have hv := hv.2 hc
        rw [hq3, if_neg hc, z_rf_n]
        refine lv_astoreN (lv' := [(6, .null), (5, .ref g), (4, .ref g), (0, .ref x), (1, .int (z_i gi)), (2, .int (z_i hi_)), (3, .int (z_i to))]) hx hb dX7_difference_19 hl (by decide) rfl (fun ls hl => ?_)
        refine lv_aload hx hb dX7_difference_21 (lv_at hl 2 rfl) ?_
        refine lv_ifnull hx hb dX7_difference_23 ?_
        refine lv_aload hx hb dX7_difference_26 (lv_at hl 1 rfl) ?_
        refine lv_ifnull hx hb dX7_difference_28 ?_
        refine lv_aloadN hx hb dX7_difference_31 (lv_at hl 0 rfl) ?_
        refine lv_ifnonnullN hx hb dX7_difference_33 ?_
        refine lv_iconst (v := z_i (-1)) hx hb dX7_difference_36 rfl ?_
        exact W.iret (v := z_i (-1)) hx hb hr (fun t ht hW => ⟨⟨z_i (-1), (o_units, o_lengths, o_offsets, o_step), rfl, ⟨-1, rfl, (show z_in (-1) from ⟨by decide, by decide⟩), h_o_step, hv⟩, z_pt hP ht⟩, hS.F ht⟩) hS.2.2 dX7_difference_37
    · have hv := hv.2 hc
      rw [hq2, if_neg hc, z_rf_n]
      refine lv_astoreN (lv' := [(5, .null), (4, .ref g), (0, .ref x), (1, .int (z_i gi)), (2, .int (z_i hi_)), (3, .int (z_i to))]) hx hb dX7_difference_12 hl (by decide) rfl (fun ls hl => ?_)
      refine lv_aload_n hx hb dX7_difference_14 rfl (lv_at hl 2 rfl) ?_
      refine lv_iload_n hx hb dX7_difference_15 rfl (lv_at hl 5 rfl) ?_
      refine va_callq (va_runV (As := [.int (z_i to)]) (rest := []) ⟨hx, hb, hml, hown, hts⟩ (mt_X7_gridOf l D cA x xa_grids x_grids x_levelMm x_levelCount x_water x_scratch x_lines to h_x_levelCount h_to) (cwV 1 hts gX7_difference_X7_gridOf rfl rfl rfl (by decide +kernel) ⟨Nat.le_of_ble_eq_true rfl, Nat.le_of_ble_eq_true rfl⟩) ⟨z_bl0, va_recv hK hP (ci := 5) (q0 := 0) rfl rfl, fun U hU hW => ⟨rfl, z_b0 hK (hP.sub (ws' := [(x, .inr (5, [.ref xa_grids, .ref x_levelMm, .int (z_i x_levelCount), .ref x_water, .ref x_scratch, .ref x_lines])), (xa_grids, .inl (cA 4, 4, .inr (.inr (.inr (.inr x_grids)))))]) [0, 1] rfl) hU hW⟩⟩ rfl rfl hl.1 rfl (lv_room (Nat.le_of_ble_eq_true rfl)) dX7_difference_16 ⟨Nat.zero_le _, Nat.zero_le _⟩) hS (fun q _ h => h.elim) (fun q h => h.elim) (fun r0 u t H locs ht hvm hw hB hz1 hk1 hS => ?_)
      have hq24 := hw
      have hP := z_P_all hP hk1
      by_cases hc : 0 ≤ to ∧ to < 4
      · have hv := hv.1 hc
        rw [hq24, if_pos hc, hg_to hc, z_rf_s]
        refine lv_astore (lv' := [(6, .ref o), (5, .null), (4, .ref g), (0, .ref x), (1, .int (z_i gi)), (2, .int (z_i hi_)), (3, .int (z_i to))]) hx hb dX7_difference_19 hl (by decide) rfl (fun ls hl => ?_)
        refine lv_aload hx hb dX7_difference_21 (lv_at hl 2 rfl) ?_
        refine lv_ifnull hx hb dX7_difference_23 ?_
        refine lv_aloadN hx hb dX7_difference_26 (lv_at hl 1 rfl) ?_
        refine lv_ifnullN (tgt := 36) hx hb dX7_difference_28 (by decide) ?_
        refine lv_iconst (v := z_i (-1)) hx hb dX7_difference_36 rfl ?_
        exact W.iret (v := z_i (-1)) hx hb hr (fun t ht hW => ⟨⟨z_i (-1), (o_units, o_lengths, o_offsets, o_step), rfl, ⟨-1, rfl, (show z_in (-1) from ⟨by decide, by decide⟩), h_o_step, hv⟩, z_pt hP ht⟩, hS.F ht⟩) hS.2.2 dX7_difference_37
      · have hv := hv.2 hc
        rw [hq24, if_neg hc, z_rf_n]
        refine lv_astoreN (lv' := [(6, .null), (5, .null), (4, .ref g), (0, .ref x), (1, .int (z_i gi)), (2, .int (z_i hi_)), (3, .int (z_i to))]) hx hb dX7_difference_19 hl (by decide) rfl (fun ls hl => ?_)
        refine lv_aload hx hb dX7_difference_21 (lv_at hl 2 rfl) ?_
        refine lv_ifnull hx hb dX7_difference_23 ?_
        refine lv_aloadN hx hb dX7_difference_26 (lv_at hl 1 rfl) ?_
        refine lv_ifnullN (tgt := 36) hx hb dX7_difference_28 (by decide) ?_
        refine lv_iconst (v := z_i (-1)) hx hb dX7_difference_36 rfl ?_
        exact W.iret (v := z_i (-1)) hx hb hr (fun t ht hW => ⟨⟨z_i (-1), (o_units, o_lengths, o_offsets, o_step), rfl, ⟨-1, rfl, (show z_in (-1) from ⟨by decide, by decide⟩), h_o_step, hv⟩, z_pt hP ht⟩, hS.F ht⟩) hS.2.2 dX7_difference_37
  · have hv := hv.2 hc
    rw [hq1, if_neg hc, z_rf_n]
    refine lv_astoreN (lv' := [(4, .null), (0, .ref x), (1, .int (z_i gi)), (2, .int (z_i hi_)), (3, .int (z_i to))]) hx hb dX7_difference_5 hl (by decide) rfl (fun ls hl => ?_)
    refine lv_aload_n hx hb dX7_difference_7 rfl (lv_at hl 1 rfl) ?_
    refine lv_iload_n hx hb dX7_difference_8 rfl (lv_at hl 3 rfl) ?_
    refine va_callq (va_runV (As := [.int (z_i hi_)]) (rest := []) ⟨hx, hb, hml, hown, hts⟩ (mt_X7_gridOf l D cA x xa_grids x_grids x_levelMm x_levelCount x_water x_scratch x_lines hi_ h_x_levelCount h_hi_) (cwV 1 hts gX7_difference_X7_gridOf rfl rfl rfl (by decide +kernel) ⟨Nat.le_of_ble_eq_true rfl, Nat.le_of_ble_eq_true rfl⟩) ⟨z_bl0, va_recv hK hP (ci := 5) (q0 := 0) rfl rfl, fun U hU hW => ⟨rfl, z_b0 hK (hP.sub (ws' := [(x, .inr (5, [.ref xa_grids, .ref x_levelMm, .int (z_i x_levelCount), .ref x_water, .ref x_scratch, .ref x_lines])), (xa_grids, .inl (cA 4, 4, .inr (.inr (.inr (.inr x_grids)))))]) [0, 1] rfl) hU hW⟩⟩ rfl rfl hl.1 rfl (lv_room (Nat.le_of_ble_eq_true rfl)) dX7_difference_9 ⟨Nat.zero_le _, Nat.zero_le _⟩) hS (fun q _ h => h.elim) (fun q h => h.elim) (fun r0 u t H locs ht hvm hw hB hz1 hk1 hS => ?_)
    have hq25 := hw
    have hP := z_P_all hP hk1
    by_cases hc : 0 ≤ hi_ ∧ hi_ < 4
    · have hv := hv.1 hc
      rw [hq25, if_pos hc, hg_hi_ hc, z_rf_s]
      refine lv_astore (lv' := [(5, .ref g), (4, .null), (0, .ref x), (1, .int (z_i gi)), (2, .int (z_i hi_)), (3, .int (z_i to))]) hx hb dX7_difference_12 hl (by decide) rfl (fun ls hl => ?_)
      refine lv_aload_n hx hb dX7_difference_14 rfl (lv_at hl 2 rfl) ?_
      refine lv_iload_n hx hb dX7_difference_15 rfl (lv_at hl 5 rfl) ?_
      refine va_callq (va_runV (As := [.int (z_i to)]) (rest := []) ⟨hx, hb, hml, hown, hts⟩ (mt_X7_gridOf l D cA x xa_grids x_grids x_levelMm x_levelCount x_water x_scratch x_lines to h_x_levelCount h_to) (cwV 1 hts gX7_difference_X7_gridOf rfl rfl rfl (by decide +kernel) ⟨Nat.le_of_ble_eq_true rfl, Nat.le_of_ble_eq_true rfl⟩) ⟨z_bl0, va_recv hK hP (ci := 5) (q0 := 0) rfl rfl, fun U hU hW => ⟨rfl, z_b0 hK (hP.sub (ws' := [(x, .inr (5, [.ref xa_grids, .ref x_levelMm, .int (z_i x_levelCount), .ref x_water, .ref x_scratch, .ref x_lines])), (xa_grids, .inl (cA 4, 4, .inr (.inr (.inr (.inr x_grids)))))]) [0, 1] rfl) hU hW⟩⟩ rfl rfl hl.1 rfl (lv_room (Nat.le_of_ble_eq_true rfl)) dX7_difference_16 ⟨Nat.zero_le _, Nat.zero_le _⟩) hS (fun q _ h => h.elim) (fun q h => h.elim) (fun r0 u t H locs ht hvm hw hB hz1 hk1 hS => ?_)
      have hq26 := hw
      have hP := z_P_all hP hk1
      by_cases hc : 0 ≤ to ∧ to < 4
      · have hv := hv.1 hc
        rw [hq26, if_pos hc, hg_to hc, z_rf_s]
        refine lv_astore (lv' := [(6, .ref o), (5, .ref g), (4, .null), (0, .ref x), (1, .int (z_i gi)), (2, .int (z_i hi_)), (3, .int (z_i to))]) hx hb dX7_difference_19 hl (by decide) rfl (fun ls hl => ?_)
        refine lv_aloadN hx hb dX7_difference_21 (lv_at hl 2 rfl) ?_
        refine lv_ifnullN (tgt := 36) hx hb dX7_difference_23 (by decide) ?_
        refine lv_iconst (v := z_i (-1)) hx hb dX7_difference_36 rfl ?_
        exact W.iret (v := z_i (-1)) hx hb hr (fun t ht hW => ⟨⟨z_i (-1), (o_units, o_lengths, o_offsets, o_step), rfl, ⟨-1, rfl, (show z_in (-1) from ⟨by decide, by decide⟩), h_o_step, hv⟩, z_pt hP ht⟩, hS.F ht⟩) hS.2.2 dX7_difference_37
      · have hv := hv.2 hc
        rw [hq26, if_neg hc, z_rf_n]
        refine lv_astoreN (lv' := [(6, .null), (5, .ref g), (4, .null), (0, .ref x), (1, .int (z_i gi)), (2, .int (z_i hi_)), (3, .int (z_i to))]) hx hb dX7_difference_19 hl (by decide) rfl (fun ls hl => ?_)
        refine lv_aloadN hx hb dX7_difference_21 (lv_at hl 2 rfl) ?_
        refine lv_ifnullN (tgt := 36) hx hb dX7_difference_23 (by decide) ?_
        refine lv_iconst (v := z_i (-1)) hx hb dX7_difference_36 rfl ?_
        exact W.iret (v := z_i (-1)) hx hb hr (fun t ht hW => ⟨⟨z_i (-1), (o_units, o_lengths, o_offsets, o_step), rfl, ⟨-1, rfl, (show z_in (-1) from ⟨by decide, by decide⟩), h_o_step, hv⟩, z_pt hP ht⟩, hS.F ht⟩) hS.2.2 dX7_difference_37
    · have hv := hv.2 hc
      rw [hq25, if_neg hc, z_rf_n]
      refine lv_astoreN (lv' := [(5, .null), (4, .null), (0, .ref x), (1, .int (z_i gi)), (2, .int (z_i hi_)), (3, .int (z_i to))]) hx hb dX7_difference_12 hl (by decide) rfl (fun ls hl => ?_)
      refine lv_aload_n hx hb dX7_difference_14 rfl (lv_at hl 2 rfl) ?_
      refine lv_iload_n hx hb dX7_difference_15 rfl (lv_at hl 5 rfl) ?_
      refine va_callq (va_runV (As := [.int (z_i to)]) (rest := []) ⟨hx, hb, hml, hown, hts⟩ (mt_X7_gridOf l D cA x xa_grids x_grids x_levelMm x_levelCount x_water x_scratch x_lines to h_x_levelCount h_to) (cwV 1 hts gX7_difference_X7_gridOf rfl rfl rfl (by decide +kernel) ⟨Nat.le_of_ble_eq_true rfl, Nat.le_of_ble_eq_true rfl⟩) ⟨z_bl0, va_recv hK hP (ci := 5) (q0 := 0) rfl rfl, fun U hU hW => ⟨rfl, z_b0 hK (hP.sub (ws' := [(x, .inr (5, [.ref xa_grids, .ref x_levelMm, .int (z_i x_levelCount), .ref x_water, .ref x_scratch, .ref x_lines])), (xa_grids, .inl (cA 4, 4, .inr (.inr (.inr (.inr x_grids)))))]) [0, 1] rfl) hU hW⟩⟩ rfl rfl hl.1 rfl (lv_room (Nat.le_of_ble_eq_true rfl)) dX7_difference_16 ⟨Nat.zero_le _, Nat.zero_le _⟩) hS (fun q _ h => h.elim) (fun q h => h.elim) (fun r0 u t H locs ht hvm hw hB hz1 hk1 hS => ?_)
      have hq27 := hw
      have hP := z_P_all hP hk1
      by_cases hc : 0 ≤ to ∧ to < 4
      · have hv := hv.1 hc
        rw [hq27, if_pos hc, hg_to hc, z_rf_s]
        refine lv_astore (lv' := [(6, .ref o), (5, .null), (4, .null), (0, .ref x), (1, .int (z_i gi)), (2, .int (z_i hi_)), (3, .int (z_i to))]) hx hb dX7_difference_19 hl (by decide) rfl (fun ls hl => ?_)
        refine lv_aloadN hx hb dX7_difference_21 (lv_at hl 2 rfl) ?_
        refine lv_ifnullN (tgt := 36) hx hb dX7_difference_23 (by decide) ?_
        refine lv_iconst (v := z_i (-1)) hx hb dX7_difference_36 rfl ?_
        exact W.iret (v := z_i (-1)) hx hb hr (fun t ht hW => ⟨⟨z_i (-1), (o_units, o_lengths, o_offsets, o_step), rfl, ⟨-1, rfl, (show z_in (-1) from ⟨by decide, by decide⟩), h_o_step, hv⟩, z_pt hP ht⟩, hS.F ht⟩) hS.2.2 dX7_difference_37
      · have hv := hv.2 hc
        rw [hq27, if_neg hc, z_rf_n]
        refine lv_astoreN (lv' := [(6, .null), (5, .null), (4, .null), (0, .ref x), (1, .int (z_i gi)), (2, .int (z_i hi_)), (3, .int (z_i to))]) hx hb dX7_difference_19 hl (by decide) rfl (fun ls hl => ?_)
        refine lv_aloadN hx hb dX7_difference_21 (lv_at hl 2 rfl) ?_
        refine lv_ifnullN (tgt := 36) hx hb dX7_difference_23 (by decide) ?_
        refine lv_iconst (v := z_i (-1)) hx hb dX7_difference_36 rfl ?_
        exact W.iret (v := z_i (-1)) hx hb hr (fun t ht hW => ⟨⟨z_i (-1), (o_units, o_lengths, o_offsets, o_step), rfl, ⟨-1, rfl, (show z_in (-1) from ⟨by decide, by decide⟩), h_o_step, hv⟩, z_pt hP ht⟩, hS.F ht⟩) hS.2.2 dX7_difference_37
set_option maxHeartbeats 4000000 in
set_option maxRecDepth 100000 in
theorem mt_X7_difference_b (l : Launch) (D : va_G) (cA : Nat → ClassId) (x : Nat) (xa_grids : Nat) (x_grids : Nat → Option Nat) (x_levelMm : Nat) (x_levelCount : Int) (x_water : Nat) (x_scratch : Nat) (x_lines : Nat) (gi : Int) (hi_ : Int) (to : Int) (g : Nat) (ga_units : Nat) (g_units : Nat → Int32) (ga_lengths : Nat) (g_lengths : Nat → Int32) (ga_offsets : Nat) (g_offsets : Nat → Int32) (g_step : Int) (o : Nat) (oa_units : Nat) (o_units : Nat → Int32) (oa_lengths : Nat) (o_lengths : Nat → Int32) (oa_offsets : Nat) (o_offsets : Nat → Int32) (o_step : Int) (h_x_levelCount : z_in x_levelCount) (h_gi : z_in gi) (h_hi_ : z_in hi_) (h_to : z_in to) (h_g_step : z_in g_step) (h_o_step : z_in o_step) (hg_gi : 0 ≤ gi ∧ gi < 4 → x_grids gi.toNat = some g) (hg_hi_ : 0 ≤ hi_ ∧ hi_ < 4 → x_grids hi_.toNat = some g) (hg_to : 0 ≤ to ∧ to < 4 → x_grids to.toNat = some o) (hp1 : g_ok g_units) : Met l yX7_difference wsX7_difference ({ frames := 2, cells := 0, slots := 0, locals := 39 } : Room) (va_Pc [.ref x, .int (z_i gi), .int (z_i hi_), .int (z_i to)] (z_M0 D cA [(x, .inr (5, [.ref xa_grids, .ref x_levelMm, .int (z_i x_levelCount), .ref x_water, .ref x_scratch, .ref x_lines])), (xa_grids, .inl (cA 4, 4, .inr (.inr (.inr (.inr x_grids))))), (g, .inr (1, [.ref ga_units, .ref ga_lengths, .ref ga_offsets, .int (z_i g_step)])), (ga_units, .inl (cA 1, 1280, .inl g_units)), (ga_lengths, .inl (cA 1, 32, .inl g_lengths)), (ga_offsets, .inl (cA 1, 32, .inl g_offsets)), (o, .inr (1, [.ref oa_units, .ref oa_lengths, .ref oa_offsets, .int (z_i o_step)])), (oa_units, .inl (cA 1, 1280, .inl o_units)), (oa_lengths, .inl (cA 1, 32, .inl o_lengths)), (oa_offsets, .inl (cA 1, 32, .inl o_offsets))])) (va_Qi (z_mi (fun v (u : (Nat → Int32) × (Nat → Int32) × (Nat → Int32) × Int) => z_in u.2.2.2 ∧ (fun (r : Int) (o_units' : (Nat → Int32)) (o_lengths' : (Nat → Int32)) (o_offsets' : (Nat → Int32)) (o_step' : Int) => r = (if (0 ≤ gi ∧ gi < 4) ∧ (0 ≤ hi_ ∧ hi_ < 4) ∧ (0 ≤ to ∧ to < 4) then f_bc g_units g_units 1280 else -1) ∧ ((0 ≤ gi ∧ gi < 4) ∧ (0 ≤ hi_ ∧ hi_ < 4) ∧ (0 ≤ to ∧ to < 4) → (∀ n : Int, 0 ≤ n → n < 1280 → z_g o_units' n = f_df g_units g_units n) ∧ o_lengths' = g_lengths ∧ o_offsets' = g_offsets ∧ o_step' = g_step) ∧ (¬ ((0 ≤ gi ∧ gi < 4) ∧ (0 ≤ hi_ ∧ hi_ < 4) ∧ (0 ≤ to ∧ to < 4)) → o_units' = o_units ∧ o_lengths' = o_lengths ∧ o_offsets' = o_offsets ∧ o_step' = o_step)) v u.1 u.2.1 u.2.2.1 u.2.2.2)) (fun (u : (Nat → Int32) × (Nat → Int32) × (Nat → Int32) × Int) t => va_P D vwCl [(x, .inr (5, [.ref xa_grids, .ref x_levelMm, .int (z_i x_levelCount), .ref x_water, .ref x_scratch, .ref x_lines])), (xa_grids, .inl (cA 4, 4, .inr (.inr (.inr (.inr x_grids))))), (g, .inr (1, [.ref ga_units, .ref ga_lengths, .ref ga_offsets, .int (z_i g_step)])), (ga_units, .inl (cA 1, 1280, .inl g_units)), (ga_lengths, .inl (cA 1, 32, .inl g_lengths)), (ga_offsets, .inl (cA 1, 32, .inl g_offsets)), (o, .inr (1, [.ref oa_units, .ref oa_lengths, .ref oa_offsets, .int (z_i u.2.2.2)])), (oa_units, .inl (cA 1, 1280, .inl u.1)), (oa_lengths, .inl (cA 1, 32, .inl u.2.1)), (oa_offsets, .inl (cA 1, 32, .inl u.2.2.1))] t.heap) (z_A [(x, .inr (5, [.ref xa_grids, .ref x_levelMm, .int (z_i x_levelCount), .ref x_water, .ref x_scratch, .ref x_lines])), (xa_grids, .inl (cA 4, 4, .inr (.inr (.inr (.inr x_grids))))), (g, .inr (1, [.ref ga_units, .ref ga_lengths, .ref ga_offsets, .int (z_i g_step)])), (ga_units, .inl (cA 1, 1280, .inl g_units)), (ga_lengths, .inl (cA 1, 32, .inl g_lengths)), (ga_offsets, .inl (cA 1, 32, .inl g_offsets)), (o, .inr (1, [.ref oa_units, .ref oa_lengths, .ref oa_offsets, .int (z_i o_step)])), (oa_units, .inl (cA 1, 1280, .inl o_units)), (oa_lengths, .inl (cA 1, 32, .inl o_lengths)), (oa_offsets, .inl (cA 1, 32, .inl o_offsets))])) 0 0 (z_A [(x, .inr (5, [.ref xa_grids, .ref x_levelMm, .int (z_i x_levelCount), .ref x_water, .ref x_scratch, .ref x_lines])), (xa_grids, .inl (cA 4, 4, .inr (.inr (.inr (.inr x_grids))))), (g, .inr (1, [.ref ga_units, .ref ga_lengths, .ref ga_offsets, .int (z_i g_step)])), (ga_units, .inl (cA 1, 1280, .inl g_units)), (ga_lengths, .inl (cA 1, 32, .inl g_lengths)), (ga_offsets, .inl (cA 1, 32, .inl g_offsets)), (o, .inr (1, [.ref oa_units, .ref oa_lengths, .ref oa_offsets, .int (z_i o_step)])), (oa_units, .inl (cA 1, 1280, .inl o_units)), (oa_lengths, .inl (cA 1, 32, .inl o_lengths)), (oa_offsets, .inl (cA 1, 32, .inl o_offsets))]) := by
  refine wk_X7_difference_b l D cA x xa_grids x_grids x_levelMm x_levelCount x_water x_scratch x_lines gi hi_ to g ga_units g_units ga_lengths g_lengths ga_offsets g_offsets g_step o oa_units o_units oa_lengths o_lengths oa_offsets o_offsets o_step h_x_levelCount h_gi h_hi_ h_to h_g_step h_o_step hg_gi hg_hi_ hg_to (fun (r : Int) (o_units' : (Nat → Int32)) (o_lengths' : (Nat → Int32)) (o_offsets' : (Nat → Int32)) (o_step' : Int) => r = (if (0 ≤ gi ∧ gi < 4) ∧ (0 ≤ hi_ ∧ hi_ < 4) ∧ (0 ≤ to ∧ to < 4) then f_bc g_units g_units 1280 else -1) ∧ ((0 ≤ gi ∧ gi < 4) ∧ (0 ≤ hi_ ∧ hi_ < 4) ∧ (0 ≤ to ∧ to < 4) → (∀ n : Int, 0 ≤ n → n < 1280 → z_g o_units' n = f_df g_units g_units n) ∧ o_lengths' = g_lengths ∧ o_offsets' = g_offsets ∧ o_step' = g_step) ∧ (¬ ((0 ≤ gi ∧ gi < 4) ∧ (0 ≤ hi_ ∧ hi_ < 4) ∧ (0 ≤ to ∧ to < 4)) → o_units' = o_units ∧ o_lengths' = o_lengths ∧ o_offsets' = o_offsets ∧ o_step' = o_step)) ?_
  unfold vc_X7_difference_b
  have no : ¬ ((0 ≤ gi ∧ gi < 4) ∧ (0 ≤ hi_ ∧ hi_ < 4) ∧ (0 ≤ to ∧ to < 4)) → (-1 : Int) = (if (0 ≤ gi ∧ gi < 4) ∧ (0 ≤ hi_ ∧ hi_ < 4) ∧ (0 ≤ to ∧ to < 4) then f_bc g_units g_units 1280 else -1) ∧ ((0 ≤ gi ∧ gi < 4) ∧ (0 ≤ hi_ ∧ hi_ < 4) ∧ (0 ≤ to ∧ to < 4) → (∀ n : Int, 0 ≤ n → n < 1280 → z_g o_units n = f_df g_units g_units n) ∧ o_lengths = g_lengths ∧ o_offsets = g_offsets ∧ o_step = g_step) ∧ (¬ ((0 ≤ gi ∧ gi < 4) ∧ (0 ≤ hi_ ∧ hi_ < 4) ∧ (0 ≤ to ∧ to < 4)) → o_units = o_units ∧ o_lengths = o_lengths ∧ o_offsets = o_offsets ∧ o_step = o_step) := fun h => ⟨by rw [if_neg h], fun h2 => absurd h2 h, fun _ => ⟨rfl, rfl, rfl, rfl⟩⟩
  refine ⟨fun q => ⟨fun q1 => ⟨fun q2 => ?_, fun q2 => no (fun h => q2 h.2.2)⟩, fun q1 => ⟨fun _ => no (fun h => q1 h.2.1), fun _ => no (fun h => q1 h.2.1)⟩⟩, fun q => ⟨fun _ => ⟨fun _ => no (fun h => q h.1), fun _ => no (fun h => q h.1)⟩, fun _ => ⟨fun _ => no (fun h => q h.1), fun _ => no (fun h => q h.1)⟩⟩⟩
  intro L1 hL1
  suffices H : ∀ (d k : Nat) (f : Int) (y : Nat → Int32), k + d = 1280 → f = f_bc g_units g_units k → 0 ≤ f → f ≤ k → (∀ n : Int, 0 ≤ n → n < k → z_g y n = f_df g_units g_units n) → (∀ n : Int, k ≤ n → n < 1280 → z_g y n = z_g o_units n) → L1 k f y from H 1280 0 0 _ rfl rfl (by omega) (by omega) (fun n a b => absurd b (by omega)) (fun n _ _ => rfl)
  intro d
  induction d with
  | zero =>
    intro k f y hk hf f0 f1 hy hy2
    obtain rfl : k = 1280 := by omega
    refine hL1 _ _ _ ⟨by omega, by omega⟩ ⟨by omega, by omega⟩ ⟨fun _ => ?_, fun h => absurd h (by decide)⟩
    rintro c3 c4 c5 _ ⟨rfl, rfl, rfl⟩
    exact ⟨by rw [if_pos ⟨q, q1, q2⟩]; exact hf, fun _ => ⟨fun n a b => hy n a (by omega), rfl, rfl, rfl⟩, fun h => absurd ⟨q, q1, q2⟩ h⟩
  | succ d ih =>
    intro k f y hk hf f0 f1 hy hy2
    refine hL1 _ _ _ ⟨by omega, by omega⟩ ⟨by omega, by omega⟩ ⟨fun h => absurd h (by omega), fun _ => ?_⟩
    have eo : g_at y k = g_at o_units k := g_at_eq (hy2 k (by omega) (by omega))
    have eg : g_at g_units k = g_at g_units k := rfl
    have eh : g_at g_units k = g_at g_units k := rfl
    have es : f_bc g_units g_units (k + 1) = f_bc g_units g_units k + (if f_bt g_units g_units k = true ∧ ¬ (-8388608 ≤ g_at g_units k - g_at g_units k ∧ g_at g_units k - g_at g_units k ≤ 8388608) then 1 else 0) := rfl
    rw [← hf] at es
    rw [g_th_eq eg, eg]
    have step : ∀ v w : Int, z_in v → v = f_df g_units g_units k → w = f_bc g_units g_units (k + 1) → 0 ≤ w → w ≤ (k : Int) + 1 → L1 ((k : Int) + 1) w (z_s y k v) := by
      intro v w zv hv hw w0 w1
      refine ih (k + 1) _ _ (by omega) hw w0 (by omega) ?_ ?_
      · intro n a b
        rw [z_gs zv (by omega) a]
        by_cases e9 : n = k
        · rw [if_pos e9, e9]; exact hv
        · rw [if_neg e9]; exact hy n a (by omega)
      · intro n a b
        rw [z_gs zv (by omega) (by omega), if_neg (by omega)]; exact hy2 n (by omega) b
    have gap : ¬ f_bt g_units g_units k = true → L1 ((k : Int) + 1) f (z_s y k (-2147483648)) := by
      intro hn
      refine step _ _ ⟨by omega, by omega⟩ ?_ ?_ f0 (by omega)
      · unfold f_df; rw [if_neg (fun h => hn h.1)]
      · rw [es, if_neg (fun h => hn h.1)]; omega
    rintro r7 _ rfl
    refine ⟨fun q4 => ⟨⟨by omega, by omega⟩, ?_⟩, fun q4 => ?_⟩
    · rintro c9 rfl
      exact gap (by unfold f_bt; rw [zb_f q4, Bool.false_and]; decide)
    · rintro r10 _ rfl
      refine ⟨fun q5 => ⟨⟨by omega, by omega⟩, ?_⟩, fun q5 => ?_⟩
      · rintro c9 rfl
        exact gap (by unfold f_bt; rw [zb_f q5, Bool.and_false]; decide)
      · have hb : f_bt g_units g_units k = true := by unfold f_bt; rw [Bool.and_eq_true]; exact ⟨zb_t q4, zb_t q5⟩
        have b1 := g_ok_at hp1 (zb_t q4)
        have b2 := g_ok_at hp1 (zb_t q5)
        rintro r13 _ rfl r14 _ rfl
        refine ⟨⟨by omega, by omega⟩, ?_⟩
        rintro v15 rfl
        have far : ¬ (-8388608 ≤ g_at g_units k - g_at g_units k ∧ g_at g_units k - g_at g_units k ≤ 8388608) → L1 ((k : Int) + 1) (f + 1) (z_s y k (-2147483648)) := by
          intro hn
          refine step _ _ ⟨by omega, by omega⟩ ?_ ?_ (by omega) (by omega)
          · unfold f_df; rw [if_neg (fun h => hn h.2)]
          · rw [es, if_pos ⟨hb, hn⟩]
        refine ⟨fun q6 => ⟨⟨by omega, by omega⟩, ?_⟩, fun q6 => ⟨fun q7 => ⟨⟨by omega, by omega⟩, ?_⟩, fun q7 => ⟨⟨by omega, by omega⟩, ?_⟩⟩⟩
        · rintro c19 rfl
          exact far (by omega)
        · rintro c21 rfl
          refine step _ _ ⟨by omega, by omega⟩ ?_ ?_ f0 (by omega)
          · unfold f_df; rw [if_pos ⟨hb, q6, q7⟩]
          · rw [es, if_neg (fun h => h.2 ⟨q6, q7⟩)]; omega
        · rintro c23 rfl
          exact far (by omega)
def vc_X7_difference_c (gi : Int) (hi_ : Int) (to : Int) (g_units : Nat → Int32) (g_lengths : Nat → Int32) (g_offsets : Nat → Int32) (g_step : Int) (h_units : Nat → Int32) (Q : Int → (Nat → Int32) → (Nat → Int32) → (Nat → Int32) → Int → Prop) : Prop :=
((0 ≤ gi ∧ gi < 4 → ((0 ≤ hi_ ∧ hi_ < 4 → ((0 ≤ to ∧ to < 4 → (∀ L44 : Int → Int → (Nat → Int32) → Prop,
(∀ (x44_8 : Int) (x44_7 : Int) (y44_ga_units : Nat → Int32), z_in x44_8 → z_in x44_7 → ((x44_8 ≥ 1280 → (∀ (c4 : Nat → Int32) (c5 : Nat → Int32) (c6 : Int), z_in c6 → (c4 = g_lengths ∧ c5 = g_offsets ∧ c6 = g_step) → Q x44_7 y44_ga_units c4 c5 c6)) ∧
(x44_8 < 1280 → (∀ (r7 : Int), z_in r7 → (r7 = z_b (g_th y44_ga_units x44_8)) → ((r7 = 0 → (0 ≤ x44_8 ∧ x44_8 < 1280) ∧ (∀ (c9 : Nat → Int32), (c9 = z_s y44_ga_units x44_8 (-2147483648 : Int)) → L44 (x44_8 + 1) x44_7 c9)) ∧
(r7 ≠ 0 → (∀ (r10 : Int), z_in r10 → (r10 = z_b (g_th h_units x44_8)) → ((r10 = 0 → (0 ≤ x44_8 ∧ x44_8 < 1280) ∧ (∀ (c12 : Nat → Int32), (c12 = z_s y44_ga_units x44_8 (-2147483648 : Int)) → L44 (x44_8 + 1) x44_7 c12)) ∧
(r10 ≠ 0 → (∀ (r13 : Int), z_in r13 → (r13 = g_at y44_ga_units x44_8) → (∀ (r14 : Int), z_in r14 → (r14 = g_at h_units x44_8) → z_in (r13 - r14) ∧ (∀ v15 : Int, v15 = r13 - r14 → ((v15 < -8388608 → (0 ≤ x44_8 ∧ x44_8 < 1280) ∧ (∀ (c19 : Nat → Int32), (c19 = z_s y44_ga_units x44_8 (-2147483648 : Int)) → L44 (x44_8 + 1) (x44_7 + 1) c19)) ∧
(v15 ≥ -8388608 → ((v15 ≤ 8388608 → (0 ≤ x44_8 ∧ x44_8 < 1280) ∧ (∀ (c21 : Nat → Int32), (c21 = z_s y44_ga_units x44_8 v15) → L44 (x44_8 + 1) x44_7 c21)) ∧
(v15 > 8388608 → (0 ≤ x44_8 ∧ x44_8 < 1280) ∧ (∀ (c23 : Nat → Int32), (c23 = z_s y44_ga_units x44_8 (-2147483648 : Int)) → L44 (x44_8 + 1) (x44_7 + 1) c23)))))))))))))))) → L44 x44_8 x44_7 y44_ga_units) →
L44 0 0 g_units)) ∧
(¬ (0 ≤ to ∧ to < 4) → Q (-1) g_units g_lengths g_offsets g_step))) ∧
(¬ (0 ≤ hi_ ∧ hi_ < 4) → ((0 ≤ to ∧ to < 4 → Q (-1) g_units g_lengths g_offsets g_step) ∧
(¬ (0 ≤ to ∧ to < 4) → Q (-1) g_units g_lengths g_offsets g_step))))) ∧
(¬ (0 ≤ gi ∧ gi < 4) → ((0 ≤ hi_ ∧ hi_ < 4 → ((0 ≤ to ∧ to < 4 → Q (-1) g_units g_lengths g_offsets g_step) ∧
(¬ (0 ≤ to ∧ to < 4) → Q (-1) g_units g_lengths g_offsets g_step))) ∧
(¬ (0 ≤ hi_ ∧ hi_ < 4) → ((0 ≤ to ∧ to < 4 → Q (-1) g_units g_lengths g_offsets g_step) ∧
(¬ (0 ≤ to ∧ to < 4) → Q (-1) g_units g_lengths g_offsets g_step))))))
set_option maxHeartbeats 4000000 in
set_option maxRecDepth 100000 in
theorem wk_X7_difference_c (l : Launch) (D : va_G) (cA : Nat → ClassId) (x : Nat) (xa_grids : Nat) (x_grids : Nat → Option Nat) (x_levelMm : Nat) (x_levelCount : Int) (x_water : Nat) (x_scratch : Nat) (x_lines : Nat) (gi : Int) (hi_ : Int) (to : Int) (g : Nat) (ga_units : Nat) (g_units : Nat → Int32) (ga_lengths : Nat) (g_lengths : Nat → Int32) (ga_offsets : Nat) (g_offsets : Nat → Int32) (g_step : Int) (h : Nat) (ha_units : Nat) (h_units : Nat → Int32) (ha_lengths : Nat) (h_lengths : Nat → Int32) (ha_offsets : Nat) (h_offsets : Nat → Int32) (h_step : Int) (h_x_levelCount : z_in x_levelCount) (h_gi : z_in gi) (h_hi_ : z_in hi_) (h_to : z_in to) (h_g_step : z_in g_step) (h_h_step : z_in h_step) (hg_gi : 0 ≤ gi ∧ gi < 4 → x_grids gi.toNat = some g) (hg_hi_ : 0 ≤ hi_ ∧ hi_ < 4 → x_grids hi_.toNat = some h) (hg_to : 0 ≤ to ∧ to < 4 → x_grids to.toNat = some g) (Q : Int → (Nat → Int32) → (Nat → Int32) → (Nat → Int32) → Int → Prop) (hv : vc_X7_difference_c gi hi_ to g_units g_lengths g_offsets g_step h_units Q) : Met l yX7_difference wsX7_difference ({ frames := 2, cells := 0, slots := 0, locals := 39 } : Room) (va_Pc [.ref x, .int (z_i gi), .int (z_i hi_), .int (z_i to)] (z_M0 D cA [(x, .inr (5, [.ref xa_grids, .ref x_levelMm, .int (z_i x_levelCount), .ref x_water, .ref x_scratch, .ref x_lines])), (xa_grids, .inl (cA 4, 4, .inr (.inr (.inr (.inr x_grids))))), (g, .inr (1, [.ref ga_units, .ref ga_lengths, .ref ga_offsets, .int (z_i g_step)])), (ga_units, .inl (cA 1, 1280, .inl g_units)), (ga_lengths, .inl (cA 1, 32, .inl g_lengths)), (ga_offsets, .inl (cA 1, 32, .inl g_offsets)), (h, .inr (1, [.ref ha_units, .ref ha_lengths, .ref ha_offsets, .int (z_i h_step)])), (ha_units, .inl (cA 1, 1280, .inl h_units)), (ha_lengths, .inl (cA 1, 32, .inl h_lengths)), (ha_offsets, .inl (cA 1, 32, .inl h_offsets))])) (va_Qi (z_mi (fun v (u : (Nat → Int32) × (Nat → Int32) × (Nat → Int32) × Int) => z_in u.2.2.2 ∧ Q v u.1 u.2.1 u.2.2.1 u.2.2.2)) (fun (u : (Nat → Int32) × (Nat → Int32) × (Nat → Int32) × Int) t => va_P D vwCl [(x, .inr (5, [.ref xa_grids, .ref x_levelMm, .int (z_i x_levelCount), .ref x_water, .ref x_scratch, .ref x_lines])), (xa_grids, .inl (cA 4, 4, .inr (.inr (.inr (.inr x_grids))))), (g, .inr (1, [.ref ga_units, .ref ga_lengths, .ref ga_offsets, .int (z_i u.2.2.2)])), (ga_units, .inl (cA 1, 1280, .inl u.1)), (ga_lengths, .inl (cA 1, 32, .inl u.2.1)), (ga_offsets, .inl (cA 1, 32, .inl u.2.2.1)), (h, .inr (1, [.ref ha_units, .ref ha_lengths, .ref ha_offsets, .int (z_i h_step)])), (ha_units, .inl (cA 1, 1280, .inl h_units)), (ha_lengths, .inl (cA 1, 32, .inl h_lengths)), (ha_offsets, .inl (cA 1, 32, .inl h_offsets))] t.heap) (z_A [(x, .inr (5, [.ref xa_grids, .ref x_levelMm, .int (z_i x_levelCount), .ref x_water, .ref x_scratch, .ref x_lines])), (xa_grids, .inl (cA 4, 4, .inr (.inr (.inr (.inr x_grids))))), (g, .inr (1, [.ref ga_units, .ref ga_lengths, .ref ga_offsets, .int (z_i g_step)])), (ga_units, .inl (cA 1, 1280, .inl g_units)), (ga_lengths, .inl (cA 1, 32, .inl g_lengths)), (ga_offsets, .inl (cA 1, 32, .inl g_offsets)), (h, .inr (1, [.ref ha_units, .ref ha_lengths, .ref ha_offsets, .int (z_i h_step)])), (ha_units, .inl (cA 1, 1280, .inl h_units)), (ha_lengths, .inl (cA 1, 32, .inl h_lengths)), (ha_offsets, .inl (cA 1, 32, .inl h_offsets))])) 0 0 (z_A [(x, .inr (5, [.ref xa_grids, .ref x_levelMm, .int (z_i x_levelCount), .ref x_water, .ref x_scratch, .ref x_lines])), (xa_grids, .inl (cA 4, 4, .inr (.inr (.inr (.inr x_grids))))), (g, .inr (1, [.ref ga_units, .ref ga_lengths, .ref ga_offsets, .int (z_i g_step)])), (ga_units, .inl (cA 1, 1280, .inl g_units)), (ga_lengths, .inl (cA 1, 32, .inl g_lengths)), (ga_offsets, .inl (cA 1, 32, .inl g_offsets)), (h, .inr (1, [.ref ha_units, .ref ha_lengths, .ref ha_offsets, .int (z_i h_step)])), (ha_units, .inl (cA 1, 1280, .inl h_units)), (ha_lengths, .inl (cA 1, 32, .inl h_lengths)), (ha_offsets, .inl (cA 1, 32, .inl h_offsets))]) := by
  unfold vc_X7_difference_c at hv
  refine Met.ofW (cc := cX7_difference) (maxL := 11) (ret := (some .int)) (by decide +kernel) rfl ?_
  intro p e s m args below meth c s₁ B hml hv0
  obtain ⟨rfl, hK, hP, hD0⟩ := hv0
  have hx := B.exec
  have hb := B.bytes
  have hr := B.returns
  have hts := atoms_spec (ws := wsX7_difference) B.pre
  have hown : s.vm.findClass RX7 = some m.cls := findClass_of_methodNamed B.named
  have hlocks := B.notSynchronized
  have hD := z_D_self hD0
  generalize hAe : z_A [(x, .inr (5, [.ref xa_grids, .ref x_levelMm, .int (z_i x_levelCount), .ref x_water, .ref x_scratch, .ref x_lines])), (xa_grids, .inl (cA 4, 4, .inr (.inr (.inr (.inr x_grids))))), (g, .inr (1, [.ref ga_units, .ref ga_lengths, .ref ga_offsets, .int (z_i g_step)])), (ga_units, .inl (cA 1, 1280, .inl g_units)), (ga_lengths, .inl (cA 1, 32, .inl g_lengths)), (ga_offsets, .inl (cA 1, 32, .inl g_offsets)), (h, .inr (1, [.ref ha_units, .ref ha_lengths, .ref ha_offsets, .int (z_i h_step)])), (ha_units, .inl (cA 1, 1280, .inl h_units)), (ha_lengths, .inl (cA 1, 32, .inl h_lengths)), (ha_offsets, .inl (cA 1, 32, .inl h_offsets))] = A at *
  have hS : va_S A s.heap s.heap [] := va_S.rf
  have hl := lv_entry ([.ref x, .int (z_i gi), .int (z_i hi_), .int (z_i to)]) (n := 11) (Nat.le_of_ble_eq_true rfl)
  rw [lg_entry_eq]
  generalize (lg_sl ([.ref x, .int (z_i gi), .int (z_i hi_), .int (z_i to)]) ++ List.replicate (11 - (lg_sl ([.ref x, .int (z_i gi), .int (z_i hi_), .int (z_i to)])).length) Slot.unset).toArray = ls at hl ⊢
  have hl : lv_has ls 11 [(0, .ref x), (1, .int (z_i gi)), (2, .int (z_i hi_)), (3, .int (z_i to))] := hl
  refine lv_aload_n hx hb dX7_difference_0 rfl (lv_at hl 0 rfl) ?_
  refine lv_iload_n hx hb dX7_difference_1 rfl (lv_at hl 1 rfl) ?_
  refine va_callq (va_runV (As := [.int (z_i gi)]) (rest := []) ⟨hx, hb, hml, hown, hts⟩ (mt_X7_gridOf l D cA x xa_grids x_grids x_levelMm x_levelCount x_water x_scratch x_lines gi h_x_levelCount h_gi) (cwV 1 hts gX7_difference_X7_gridOf rfl rfl rfl (by decide +kernel) ⟨Nat.le_of_ble_eq_true rfl, Nat.le_of_ble_eq_true rfl⟩) ⟨z_bl0, va_recv hK hP (ci := 5) (q0 := 0) rfl rfl, fun U hU hW => ⟨rfl, z_b0 hK (hP.sub (ws' := [(x, .inr (5, [.ref xa_grids, .ref x_levelMm, .int (z_i x_levelCount), .ref x_water, .ref x_scratch, .ref x_lines])), (xa_grids, .inl (cA 4, 4, .inr (.inr (.inr (.inr x_grids)))))]) [0, 1] rfl) hU hW⟩⟩ rfl rfl hl.1 rfl (lv_room (Nat.le_of_ble_eq_true rfl)) dX7_difference_2 ⟨Nat.zero_le _, Nat.zero_le _⟩) hS (fun q _ h => h.elim) (fun q h => h.elim) (fun r0 u t H locs ht hvm hw hB hz1 hk1 hS => ?_)
  have hq1 := hw
  have hP := z_P_all hP hk1
  by_cases hc : 0 ≤ gi ∧ gi < 4
  · have hv := hv.1 hc
    rw [hq1, if_pos hc, hg_gi hc, z_rf_s]
    refine lv_astore (lv' := [(4, .ref g), (0, .ref x), (1, .int (z_i gi)), (2, .int (z_i hi_)), (3, .int (z_i to))]) hx hb dX7_difference_5 hl (by decide) rfl (fun ls hl => ?_)
    refine lv_aload_n hx hb dX7_difference_7 rfl (lv_at hl 1 rfl) ?_
    refine lv_iload_n hx hb dX7_difference_8 rfl (lv_at hl 3 rfl) ?_
    refine va_callq (va_runV (As := [.int (z_i hi_)]) (rest := []) ⟨hx, hb, hml, hown, hts⟩ (mt_X7_gridOf l D cA x xa_grids x_grids x_levelMm x_levelCount x_water x_scratch x_lines hi_ h_x_levelCount h_hi_) (cwV 1 hts gX7_difference_X7_gridOf rfl rfl rfl (by decide +kernel) ⟨Nat.le_of_ble_eq_true rfl, Nat.le_of_ble_eq_true rfl⟩) ⟨z_bl0, va_recv hK hP (ci := 5) (q0 := 0) rfl rfl, fun U hU hW => ⟨rfl, z_b0 hK (hP.sub (ws' := [(x, .inr (5, [.ref xa_grids, .ref x_levelMm, .int (z_i x_levelCount), .ref x_water, .ref x_scratch, .ref x_lines])), (xa_grids, .inl (cA 4, 4, .inr (.inr (.inr (.inr x_grids)))))]) [0, 1] rfl) hU hW⟩⟩ rfl rfl hl.1 rfl (lv_room (Nat.le_of_ble_eq_true rfl)) dX7_difference_9 ⟨Nat.zero_le _, Nat.zero_le _⟩) hS (fun q _ h => h.elim) (fun q h => h.elim) (fun r0 u t H locs ht hvm hw hB hz1 hk1 hS => ?_)
    have hq2 := hw
    have hP := z_P_all hP hk1
    by_cases hc : 0 ≤ hi_ ∧ hi_ < 4
    · have hv := hv.1 hc
      rw [hq2, if_pos hc, hg_hi_ hc, z_rf_s]
      refine lv_astore (lv' := [(5, .ref h), (4, .ref g), (0, .ref x), (1, .int (z_i gi)), (2, .int (z_i hi_)), (3, .int (z_i to))]) hx hb dX7_difference_12 hl (by decide) rfl (fun ls hl => ?_)
      refine lv_aload_n hx hb dX7_difference_14 rfl (lv_at hl 2 rfl) ?_
      refine lv_iload_n hx hb dX7_difference_15 rfl (lv_at hl 5 rfl) ?_
      refine va_callq (va_runV (As := [.int (z_i to)]) (rest := []) ⟨hx, hb, hml, hown, hts⟩ (mt_X7_gridOf l D cA x xa_grids x_grids x_levelMm x_levelCount x_water x_scratch x_lines to h_x_levelCount h_to) (cwV 1 hts gX7_difference_X7_gridOf rfl rfl rfl (by decide +kernel) ⟨Nat.le_of_ble_eq_true rfl, Nat.le_of_ble_eq_true rfl⟩) ⟨z_bl0, va_recv hK hP (ci := 5) (q0 := 0) rfl rfl, fun U hU hW => ⟨rfl, z_b0 hK (hP.sub (ws' := [(x, .inr (5, [.ref xa_grids, .ref x_levelMm, .int (z_i x_levelCount), .ref x_water, .ref x_scratch, .ref x_lines])), (xa_grids, .inl (cA 4, 4, .inr (.inr (.inr (.inr x_grids)))))]) [0, 1] rfl) hU hW⟩⟩ rfl rfl hl.1 rfl (lv_room (Nat.le_of_ble_eq_true rfl)) dX7_difference_16 ⟨Nat.zero_le _, Nat.zero_le _⟩) hS (fun q _ h => h.elim) (fun q h => h.elim) (fun r0 u t H locs ht hvm hw hB hz1 hk1 hS => ?_)
      have hq3 := hw
      have hP := z_P_all hP hk1
      by_cases hc : 0 ≤ to ∧ to < 4
      · have hv := hv.1 hc
        rw [hq3, if_pos hc, hg_to hc, z_rf_s]
        refine lv_astore (lv' := [(6, .ref g), (5, .ref h), (4, .ref g), (0, .ref x), (1, .int (z_i gi)), (2, .int (z_i hi_)), (3, .int (z_i to))]) hx hb dX7_difference_19 hl (by decide) rfl (fun ls hl => ?_)
        refine lv_aload hx hb dX7_difference_21 (lv_at hl 2 rfl) ?_
        refine lv_ifnull hx hb dX7_difference_23 ?_
        refine lv_aload hx hb dX7_difference_26 (lv_at hl 1 rfl) ?_
        refine lv_ifnull hx hb dX7_difference_28 ?_
        refine lv_aload hx hb dX7_difference_31 (lv_at hl 0 rfl) ?_
        refine lv_ifnonnull (tgt := 38) hx hb dX7_difference_33 (by decide) ?_
        refine lv_iconst (v := z_i 0) hx hb dX7_difference_38 rfl ?_
        refine lv_istore (lv' := [(7, .int (z_i 0)), (6, .ref g), (5, .ref h), (4, .ref g), (0, .ref x), (1, .int (z_i gi)), (2, .int (z_i hi_)), (3, .int (z_i to))]) hx hb dX7_difference_39 hl (by decide) rfl (fun ls hl => ?_)
        refine lv_iconst (v := z_i 0) hx hb dX7_difference_41 rfl ?_
        refine lv_istore (lv' := [(8, .int (z_i 0)), (7, .int (z_i 0)), (6, .ref g), (5, .ref h), (4, .ref g), (0, .ref x), (1, .int (z_i gi)), (2, .int (z_i hi_)), (3, .int (z_i to))]) hx hb dX7_difference_42 hl (by decide) rfl (fun ls hl => ?_)
        refine hv (fun (x44_8 : Int) (x44_7 : Int) (y44_ga_units : Nat → Int32) => ∀ (H : Heap) (locs : List Loc) (ls : Array Slot), va_P D vwCl [(x, .inr (5, [.ref xa_grids, .ref x_levelMm, .int (z_i x_levelCount), .ref x_water, .ref x_scratch, .ref x_lines])), (xa_grids, .inl (cA 4, 4, .inr (.inr (.inr (.inr x_grids))))), (g, .inr (1, [.ref ga_units, .ref ga_lengths, .ref ga_offsets, .int (z_i g_step)])), (ga_units, .inl (cA 1, 1280, .inl y44_ga_units)), (ga_lengths, .inl (cA 1, 32, .inl g_lengths)), (ga_offsets, .inl (cA 1, 32, .inl g_offsets)), (h, .inr (1, [.ref ha_units, .ref ha_lengths, .ref ha_offsets, .int (z_i h_step)])), (ha_units, .inl (cA 1, 1280, .inl h_units)), (ha_lengths, .inl (cA 1, 32, .inl h_lengths)), (ha_offsets, .inl (cA 1, 32, .inl h_offsets))] H → va_D A [(x, .inr (5, [.ref xa_grids, .ref x_levelMm, .int (z_i x_levelCount), .ref x_water, .ref x_scratch, .ref x_lines])), (xa_grids, .inl (cA 4, 4, .inr (.inr (.inr (.inr x_grids))))), (g, .inr (1, [.ref ga_units, .ref ga_lengths, .ref ga_offsets, .int (z_i g_step)])), (ga_units, .inl (cA 1, 1280, .inl y44_ga_units)), (ga_lengths, .inl (cA 1, 32, .inl g_lengths)), (ga_offsets, .inl (cA 1, 32, .inl g_offsets)), (h, .inr (1, [.ref ha_units, .ref ha_lengths, .ref ha_offsets, .int (z_i h_step)])), (ha_units, .inl (cA 1, 1280, .inl h_units)), (ha_lengths, .inl (cA 1, 32, .inl h_lengths)), (ha_offsets, .inl (cA 1, 32, .inl h_offsets))] → va_S A s.heap H locs → lv_has ls 11 [(8, .int (z_i x44_8)), (7, .int (z_i x44_7)), (6, .ref g), (5, .ref h), (4, .ref g)] → W p l e _ s m _ below meth c H locs 0 0 _ (F0 m 44 ls [])) ?_ _ _ ls hP hD hS (lv_sub hl [0, 1, 2, 3, 4] rfl)
        intro x44_8 x44_7 y44_ga_units h_x44_8 h_x44_7 hv H locs ls hP hD hS hl
        refine lv_iload hx hb dX7_difference_44 (lv_at hl 0 rfl) ?_
        refine lv_sipush (v := z_i 1280) hx hb dX7_difference_46 (by decide) ?_
        refine lx_icmp_ge (tgt := 147) hx hb dX7_difference_49 (by decide) h_x44_8 (show z_in 1280 from ⟨by decide, by decide⟩) (fun hc => ?_) (fun hc => ?_)
        · have hv := hv.1 hc
          refine lv_aload hx hb dX7_difference_147 (lv_at hl 2 rfl) ?_
          refine lv_aload hx hb dX7_difference_149 (lv_at hl 4 rfl) ?_
          have hFc := z_fr (A := A) (wc := [(g, .inr (1, [.ref ga_units, .ref ga_lengths, .ref ga_offsets, .int (z_i g_step)])), (ga_units, .inl (cA 1, 1280, .inl y44_ga_units)), (ga_lengths, .inl (cA 1, 32, .inl g_lengths)), (ga_offsets, .inl (cA 1, 32, .inl g_offsets))]) hD [2, 3, 4, 5] rfl
          refine va_callv (va_runV (As := [.ref g]) (rest := []) ⟨hx, hb, hml, hown, hts⟩ (mt_X2_takeShape_s l D cA g ga_units y44_ga_units ga_lengths g_lengths ga_offsets g_offsets g_step h_g_step) (cwV 1 hts gX7_difference_X2_takeShape rfl rfl rfl (by decide +kernel) ⟨Nat.le_of_ble_eq_true rfl, Nat.le_of_ble_eq_true rfl⟩) ⟨z_blm0, va_recv hK hP (ci := 1) (q0 := 2) rfl rfl, fun U hU hW => ⟨rfl, z_m0 hK (hP.sub (ws' := [(g, .inr (1, [.ref ga_units, .ref ga_lengths, .ref ga_offsets, .int (z_i g_step)])), (ga_units, .inl (cA 1, 1280, .inl y44_ga_units)), (ga_lengths, .inl (cA 1, 32, .inl g_lengths)), (ga_offsets, .inl (cA 1, 32, .inl g_offsets))]) [2, 3, 4, 5] rfl) (hD.sub (ws' := [(g, .inr (1, [.ref ga_units, .ref ga_lengths, .ref ga_offsets, .int (z_i g_step)])), (ga_units, .inl (cA 1, 1280, .inl y44_ga_units)), (ga_lengths, .inl (cA 1, 32, .inl g_lengths)), (ga_offsets, .inl (cA 1, 32, .inl g_offsets))]) [2, 3, 4, 5] (by decide) rfl) hU hW⟩⟩ rfl rfl hl.1 rfl (lv_room (Nat.le_of_ble_eq_true rfl)) dX7_difference_151 ⟨Nat.zero_le _, Nat.zero_le _⟩) hS (fun q _ h => hFc q h) hFc (fun u t H locs ht hvm hw hB hz1 hk1 hS => ?_)
          obtain ⟨c4, c5, c6⟩ := u
          rw [ht] at hB
          have hP := z_join2 (wc := [(g, .inr (1, [.ref ga_units, .ref ga_lengths, .ref ga_offsets, .int (z_i g_step)])), (ga_units, .inl (cA 1, 1280, .inl y44_ga_units)), (ga_lengths, .inl (cA 1, 32, .inl g_lengths)), (ga_offsets, .inl (cA 1, 32, .inl g_offsets))]) (w1 := [(g, .inr (1, [.ref ga_units, .ref ga_lengths, .ref ga_offsets, .int (z_i c6)])), (ga_units, .inl (cA 1, 1280, .inl y44_ga_units)), (ga_lengths, .inl (cA 1, 32, .inl c4)), (ga_offsets, .inl (cA 1, 32, .inl c5))]) hP hD [2, 3, 4, 5] [0, 0, 1, 2, 3, 4] rfl rfl rfl hk1 hB
          have hP : va_P D vwCl [(x, .inr (5, [.ref xa_grids, .ref x_levelMm, .int (z_i x_levelCount), .ref x_water, .ref x_scratch, .ref x_lines])), (xa_grids, .inl (cA 4, 4, .inr (.inr (.inr (.inr x_grids))))), (g, .inr (1, [.ref ga_units, .ref ga_lengths, .ref ga_offsets, .int (z_i c6)])), (ga_units, .inl (cA 1, 1280, .inl y44_ga_units)), (ga_lengths, .inl (cA 1, 32, .inl c4)), (ga_offsets, .inl (cA 1, 32, .inl c5)), (h, .inr (1, [.ref ha_units, .ref ha_lengths, .ref ha_offsets, .int (z_i h_step)])), (ha_units, .inl (cA 1, 1280, .inl h_units)), (ha_lengths, .inl (cA 1, 32, .inl h_lengths)), (ha_offsets, .inl (cA 1, 32, .inl h_offsets))] H := hP
          have hD : va_D A [(x, .inr (5, [.ref xa_grids, .ref x_levelMm, .int (z_i x_levelCount), .ref x_water, .ref x_scratch, .ref x_lines])), (xa_grids, .inl (cA 4, 4, .inr (.inr (.inr (.inr x_grids))))), (g, .inr (1, [.ref ga_units, .ref ga_lengths, .ref ga_offsets, .int (z_i c6)])), (ga_units, .inl (cA 1, 1280, .inl y44_ga_units)), (ga_lengths, .inl (cA 1, 32, .inl c4)), (ga_offsets, .inl (cA 1, 32, .inl c5)), (h, .inr (1, [.ref ha_units, .ref ha_lengths, .ref ha_offsets, .int (z_i h_step)])), (ha_units, .inl (cA 1, 1280, .inl h_units)), (ha_lengths, .inl (cA 1, 32, .inl h_lengths)), (ha_offsets, .inl (cA 1, 32, .inl h_offsets))] := z_D_addr hD rfl
          obtain ⟨h_c6, hw⟩ := hw
          have hv := hv c4 c5 c6 h_c6 hw
          refine lv_iload hx hb dX7_difference_154 (lv_at hl 1 rfl) ?_
          exact W.iret (v := z_i x44_7) hx hb hr (fun t ht hW => ⟨⟨z_i x44_7, (y44_ga_units, c4, c5, c6), rfl, ⟨x44_7, rfl, h_x44_7, h_c6, hv⟩, z_pt hP ht⟩, hS.F ht⟩) hS.2.2 dX7_difference_156
        · have hv := hv.2 hc
          refine lv_aload hx hb dX7_difference_52 (lv_at hl 4 rfl) ?_
          refine lv_iload hx hb dX7_difference_54 (lv_at hl 0 rfl) ?_
          refine va_calli (va_runV (As := [.int (z_i x44_8)]) (rest := []) ⟨hx, hb, hml, hown, hts⟩ (mt_X2_isThere l D cA g ga_units y44_ga_units ga_lengths g_lengths ga_offsets g_offsets g_step x44_8 h_g_step h_x44_8) (cwV 1 hts gX7_difference_X2_isThere rfl rfl rfl (by decide +kernel) ⟨Nat.le_of_ble_eq_true rfl, Nat.le_of_ble_eq_true rfl⟩) ⟨z_bl0, va_recv hK hP (ci := 1) (q0 := 2) rfl rfl, fun U hU hW => ⟨rfl, z_b0 hK (hP.sub (ws' := [(g, .inr (1, [.ref ga_units, .ref ga_lengths, .ref ga_offsets, .int (z_i g_step)])), (ga_units, .inl (cA 1, 1280, .inl y44_ga_units)), (ga_lengths, .inl (cA 1, 32, .inl g_lengths)), (ga_offsets, .inl (cA 1, 32, .inl g_offsets))]) [2, 3, 4, 5] rfl) hU hW⟩⟩ rfl rfl hl.1 rfl (lv_room (Nat.le_of_ble_eq_true rfl)) dX7_difference_56 ⟨Nat.zero_le _, Nat.zero_le _⟩) hS (fun q _ h => h.elim) (fun q h => h.elim) (fun r0 u t H locs ht hvm hw hB hz1 hk1 hS => ?_)
          obtain ⟨r7, rfl, h_r7, hw⟩ := hw
          have hP := z_P_all hP hk1
          have hv := hv r7 h_r7 hw
          refine lx_if_eq (tgt := 76) hx hb dX7_difference_59 (by decide) h_r7 (fun hc => ?_) (fun hc => ?_)
          · have hv := hv.1 hc
            refine lv_iconst (v := z_i 0) hx hb dX7_difference_76 rfl ?_
            refine lv_istore (lv' := [(9, .int (z_i 0)), (8, .int (z_i x44_8)), (7, .int (z_i x44_7)), (6, .ref g), (5, .ref h), (4, .ref g)]) hx hb dX7_difference_77 hl (by decide) rfl (fun ls hl => ?_)
            refine lv_iload hx hb dX7_difference_79 (lv_at hl 0 rfl) ?_
            refine lx_if_eq (tgt := 102) hx hb dX7_difference_81 (by decide) ⟨by decide, by decide⟩ (fun _ => ?_) (fun hc => absurd hc (by decide))
            refine lx_ldc (a := (-2147483648)) hx hb hown (hts (.constant RX7 61 (-2147483648)) (by decide +kernel)) (by decide) dX7_difference_102 ?_
            refine lv_istore (lv' := [(10, .int (z_i (-2147483648))), (9, .int (z_i 0)), (8, .int (z_i x44_8)), (7, .int (z_i x44_7)), (6, .ref g), (5, .ref h), (4, .ref g)]) hx hb dX7_difference_104 hl (by decide) rfl (fun ls hl => ?_)
            refine lv_iload hx hb dX7_difference_106 (lv_at hl 1 rfl) ?_
            refine lx_if_eq (tgt := 132) hx hb dX7_difference_108 (by decide) ⟨by decide, by decide⟩ (fun _ => ?_) (fun hc => absurd hc (by decide))
            refine lv_aload hx hb dX7_difference_132 (lv_at hl 4 rfl) ?_
            refine lv_iload hx hb dX7_difference_134 (lv_at hl 2 rfl) ?_
            refine lv_iload hx hb dX7_difference_136 (lv_at hl 0 rfl) ?_
            obtain ⟨hp8, hv⟩ := hv
            have hFc := z_fr (A := A) (wc := [(g, .inr (1, [.ref ga_units, .ref ga_lengths, .ref ga_offsets, .int (z_i g_step)])), (ga_units, .inl (cA 1, 1280, .inl y44_ga_units)), (ga_lengths, .inl (cA 1, 32, .inl g_lengths)), (ga_offsets, .inl (cA 1, 32, .inl g_offsets))]) hD [2, 3, 4, 5] rfl
            refine va_callv (va_runV (As := [.int (z_i x44_8), .int (z_i (-2147483648))]) (rest := []) ⟨hx, hb, hml, hown, hts⟩ (mt_X2_put l D cA g ga_units y44_ga_units ga_lengths g_lengths ga_offsets g_offsets g_step x44_8 (-2147483648) h_g_step h_x44_8 (show z_in (-2147483648) from ⟨by decide, by decide⟩) hp8) (cwV 2 hts gX7_difference_X2_put rfl rfl rfl (by decide +kernel) ⟨Nat.le_of_ble_eq_true rfl, Nat.le_of_ble_eq_true rfl⟩) ⟨z_blm0, va_recv hK hP (ci := 1) (q0 := 2) rfl rfl, fun U hU hW => ⟨rfl, z_m0 hK (hP.sub (ws' := [(g, .inr (1, [.ref ga_units, .ref ga_lengths, .ref ga_offsets, .int (z_i g_step)])), (ga_units, .inl (cA 1, 1280, .inl y44_ga_units)), (ga_lengths, .inl (cA 1, 32, .inl g_lengths)), (ga_offsets, .inl (cA 1, 32, .inl g_offsets))]) [2, 3, 4, 5] rfl) (hD.sub (ws' := [(g, .inr (1, [.ref ga_units, .ref ga_lengths, .ref ga_offsets, .int (z_i g_step)])), (ga_units, .inl (cA 1, 1280, .inl y44_ga_units)), (ga_lengths, .inl (cA 1, 32, .inl g_lengths)), (ga_offsets, .inl (cA 1, 32, .inl g_offsets))]) [2, 3, 4, 5] (by decide) rfl) hU hW⟩⟩ rfl rfl hl.1 rfl (lv_room (Nat.le_of_ble_eq_true rfl)) dX7_difference_138 ⟨Nat.zero_le _, Nat.zero_le _⟩) hS (fun q _ h => hFc q h) hFc (fun u t H locs ht hvm hw hB hz1 hk1 hS => ?_)
            obtain ⟨c9, rfl⟩ : ∃ z, z = u := ⟨_, rfl⟩
            rw [ht] at hB
            have hP := z_join2 (wc := [(g, .inr (1, [.ref ga_units, .ref ga_lengths, .ref ga_offsets, .int (z_i g_step)])), (ga_units, .inl (cA 1, 1280, .inl y44_ga_units)), (ga_lengths, .inl (cA 1, 32, .inl g_lengths)), (ga_offsets, .inl (cA 1, 32, .inl g_offsets))]) (w1 := [(g, .inr (1, [.ref ga_units, .ref ga_lengths, .ref ga_offsets, .int (z_i g_step)])), (ga_units, .inl (cA 1, 1280, .inl c9)), (ga_lengths, .inl (cA 1, 32, .inl g_lengths)), (ga_offsets, .inl (cA 1, 32, .inl g_offsets))]) hP hD [2, 3, 4, 5] [0, 0, 1, 2, 3, 4] rfl rfl rfl hk1 hB
            have hP : va_P D vwCl [(x, .inr (5, [.ref xa_grids, .ref x_levelMm, .int (z_i x_levelCount), .ref x_water, .ref x_scratch, .ref x_lines])), (xa_grids, .inl (cA 4, 4, .inr (.inr (.inr (.inr x_grids))))), (g, .inr (1, [.ref ga_units, .ref ga_lengths, .ref ga_offsets, .int (z_i g_step)])), (ga_units, .inl (cA 1, 1280, .inl c9)), (ga_lengths, .inl (cA 1, 32, .inl g_lengths)), (ga_offsets, .inl (cA 1, 32, .inl g_offsets)), (h, .inr (1, [.ref ha_units, .ref ha_lengths, .ref ha_offsets, .int (z_i h_step)])), (ha_units, .inl (cA 1, 1280, .inl h_units)), (ha_lengths, .inl (cA 1, 32, .inl h_lengths)), (ha_offsets, .inl (cA 1, 32, .inl h_offsets))] H := hP
            have hD : va_D A [(x, .inr (5, [.ref xa_grids, .ref x_levelMm, .int (z_i x_levelCount), .ref x_water, .ref x_scratch, .ref x_lines])), (xa_grids, .inl (cA 4, 4, .inr (.inr (.inr (.inr x_grids))))), (g, .inr (1, [.ref ga_units, .ref ga_lengths, .ref ga_offsets, .int (z_i g_step)])), (ga_units, .inl (cA 1, 1280, .inl c9)), (ga_lengths, .inl (cA 1, 32, .inl g_lengths)), (ga_offsets, .inl (cA 1, 32, .inl g_offsets)), (h, .inr (1, [.ref ha_units, .ref ha_lengths, .ref ha_offsets, .int (z_i h_step)])), (ha_units, .inl (cA 1, 1280, .inl h_units)), (ha_lengths, .inl (cA 1, 32, .inl h_lengths)), (ha_offsets, .inl (cA 1, 32, .inl h_offsets))] := z_D_addr hD rfl
            have hv := hv c9 hw
            refine lv_iinc (v := z_i (x44_8 + 1)) (lv' := [(8, .int (z_i (x44_8 + 1))), (10, .int (z_i (-2147483648))), (9, .int (z_i 0)), (7, .int (z_i x44_7)), (6, .ref g), (5, .ref h), (4, .ref g)]) hx hb dX7_difference_141 hl (k := 2) rfl (z_i_add _ _) (by decide) rfl (fun ls hl => ?_)
            refine lv_goto (tgt := 44) hx hb dX7_difference_144 (by decide) ?_
            exact hv _ _ ls hP hD hS (lv_sub hl [0, 3, 4, 5, 6] rfl)
          · have hv := hv.2 hc
            refine lv_aload hx hb dX7_difference_62 (lv_at hl 3 rfl) ?_
            refine lv_iload hx hb dX7_difference_64 (lv_at hl 0 rfl) ?_
            refine va_calli (va_runV (As := [.int (z_i x44_8)]) (rest := []) ⟨hx, hb, hml, hown, hts⟩ (mt_X2_isThere l D cA h ha_units h_units ha_lengths h_lengths ha_offsets h_offsets h_step x44_8 h_h_step h_x44_8) (cwV 1 hts gX7_difference_X2_isThere rfl rfl rfl (by decide +kernel) ⟨Nat.le_of_ble_eq_true rfl, Nat.le_of_ble_eq_true rfl⟩) ⟨z_bl0, va_recv hK hP (ci := 1) (q0 := 6) rfl rfl, fun U hU hW => ⟨rfl, z_b0 hK (hP.sub (ws' := [(h, .inr (1, [.ref ha_units, .ref ha_lengths, .ref ha_offsets, .int (z_i h_step)])), (ha_units, .inl (cA 1, 1280, .inl h_units)), (ha_lengths, .inl (cA 1, 32, .inl h_lengths)), (ha_offsets, .inl (cA 1, 32, .inl h_offsets))]) [6, 7, 8, 9] rfl) hU hW⟩⟩ rfl rfl hl.1 rfl (lv_room (Nat.le_of_ble_eq_true rfl)) dX7_difference_66 ⟨Nat.zero_le _, Nat.zero_le _⟩) hS (fun q _ h => h.elim) (fun q h => h.elim) (fun r0 u t H locs ht hvm hw hB hz1 hk1 hS => ?_)
            obtain ⟨r10, rfl, h_r10, hw⟩ := hw
            have hP := z_P_all hP hk1
            have hv := hv r10 h_r10 hw
            refine lx_if_eq (tgt := 76) hx hb dX7_difference_69 (by decide) h_r10 (fun hc => ?_) (fun hc => ?_)
            · have hv := hv.1 hc
              refine lv_iconst (v := z_i 0) hx hb dX7_difference_76 rfl ?_
              refine lv_istore (lv' := [(9, .int (z_i 0)), (8, .int (z_i x44_8)), (7, .int (z_i x44_7)), (6, .ref g), (5, .ref h), (4, .ref g)]) hx hb dX7_difference_77 hl (by decide) rfl (fun ls hl => ?_)
              refine lv_iload hx hb dX7_difference_79 (lv_at hl 0 rfl) ?_
              refine lx_if_eq (tgt := 102) hx hb dX7_difference_81 (by decide) ⟨by decide, by decide⟩ (fun _ => ?_) (fun hc => absurd hc (by decide))
              refine lx_ldc (a := (-2147483648)) hx hb hown (hts (.constant RX7 61 (-2147483648)) (by decide +kernel)) (by decide) dX7_difference_102 ?_
              refine lv_istore (lv' := [(10, .int (z_i (-2147483648))), (9, .int (z_i 0)), (8, .int (z_i x44_8)), (7, .int (z_i x44_7)), (6, .ref g), (5, .ref h), (4, .ref g)]) hx hb dX7_difference_104 hl (by decide) rfl (fun ls hl => ?_)
              refine lv_iload hx hb dX7_difference_106 (lv_at hl 1 rfl) ?_
              refine lx_if_eq (tgt := 132) hx hb dX7_difference_108 (by decide) ⟨by decide, by decide⟩ (fun _ => ?_) (fun hc => absurd hc (by decide))
              refine lv_aload hx hb dX7_difference_132 (lv_at hl 4 rfl) ?_
              refine lv_iload hx hb dX7_difference_134 (lv_at hl 2 rfl) ?_
              refine lv_iload hx hb dX7_difference_136 (lv_at hl 0 rfl) ?_
              obtain ⟨hp11, hv⟩ := hv
              have hFc := z_fr (A := A) (wc := [(g, .inr (1, [.ref ga_units, .ref ga_lengths, .ref ga_offsets, .int (z_i g_step)])), (ga_units, .inl (cA 1, 1280, .inl y44_ga_units)), (ga_lengths, .inl (cA 1, 32, .inl g_lengths)), (ga_offsets, .inl (cA 1, 32, .inl g_offsets))]) hD [2, 3, 4, 5] rfl
              refine va_callv (va_runV (As := [.int (z_i x44_8), .int (z_i (-2147483648))]) (rest := []) ⟨hx, hb, hml, hown, hts⟩ (mt_X2_put l D cA g ga_units y44_ga_units ga_lengths g_lengths ga_offsets g_offsets g_step x44_8 (-2147483648) h_g_step h_x44_8 (show z_in (-2147483648) from ⟨by decide, by decide⟩) hp11) (cwV 2 hts gX7_difference_X2_put rfl rfl rfl (by decide +kernel) ⟨Nat.le_of_ble_eq_true rfl, Nat.le_of_ble_eq_true rfl⟩) ⟨z_blm0, va_recv hK hP (ci := 1) (q0 := 2) rfl rfl, fun U hU hW => ⟨rfl, z_m0 hK (hP.sub (ws' := [(g, .inr (1, [.ref ga_units, .ref ga_lengths, .ref ga_offsets, .int (z_i g_step)])), (ga_units, .inl (cA 1, 1280, .inl y44_ga_units)), (ga_lengths, .inl (cA 1, 32, .inl g_lengths)), (ga_offsets, .inl (cA 1, 32, .inl g_offsets))]) [2, 3, 4, 5] rfl) (hD.sub (ws' := [(g, .inr (1, [.ref ga_units, .ref ga_lengths, .ref ga_offsets, .int (z_i g_step)])), (ga_units, .inl (cA 1, 1280, .inl y44_ga_units)), (ga_lengths, .inl (cA 1, 32, .inl g_lengths)), (ga_offsets, .inl (cA 1, 32, .inl g_offsets))]) [2, 3, 4, 5] (by decide) rfl) hU hW⟩⟩ rfl rfl hl.1 rfl (lv_room (Nat.le_of_ble_eq_true rfl)) dX7_difference_138 ⟨Nat.zero_le _, Nat.zero_le _⟩) hS (fun q _ h => hFc q h) hFc (fun u t H locs ht hvm hw hB hz1 hk1 hS => ?_)
              obtain ⟨c12, rfl⟩ : ∃ z, z = u := ⟨_, rfl⟩
              rw [ht] at hB
              have hP := z_join2 (wc := [(g, .inr (1, [.ref ga_units, .ref ga_lengths, .ref ga_offsets, .int (z_i g_step)])), (ga_units, .inl (cA 1, 1280, .inl y44_ga_units)), (ga_lengths, .inl (cA 1, 32, .inl g_lengths)), (ga_offsets, .inl (cA 1, 32, .inl g_offsets))]) (w1 := [(g, .inr (1, [.ref ga_units, .ref ga_lengths, .ref ga_offsets, .int (z_i g_step)])), (ga_units, .inl (cA 1, 1280, .inl c12)), (ga_lengths, .inl (cA 1, 32, .inl g_lengths)), (ga_offsets, .inl (cA 1, 32, .inl g_offsets))]) hP hD [2, 3, 4, 5] [0, 0, 1, 2, 3, 4] rfl rfl rfl hk1 hB
              have hP : va_P D vwCl [(x, .inr (5, [.ref xa_grids, .ref x_levelMm, .int (z_i x_levelCount), .ref x_water, .ref x_scratch, .ref x_lines])), (xa_grids, .inl (cA 4, 4, .inr (.inr (.inr (.inr x_grids))))), (g, .inr (1, [.ref ga_units, .ref ga_lengths, .ref ga_offsets, .int (z_i g_step)])), (ga_units, .inl (cA 1, 1280, .inl c12)), (ga_lengths, .inl (cA 1, 32, .inl g_lengths)), (ga_offsets, .inl (cA 1, 32, .inl g_offsets)), (h, .inr (1, [.ref ha_units, .ref ha_lengths, .ref ha_offsets, .int (z_i h_step)])), (ha_units, .inl (cA 1, 1280, .inl h_units)), (ha_lengths, .inl (cA 1, 32, .inl h_lengths)), (ha_offsets, .inl (cA 1, 32, .inl h_offsets))] H := hP
              have hD : va_D A [(x, .inr (5, [.ref xa_grids, .ref x_levelMm, .int (z_i x_levelCount), .ref x_water, .ref x_scratch, .ref x_lines])), (xa_grids, .inl (cA 4, 4, .inr (.inr (.inr (.inr x_grids))))), (g, .inr (1, [.ref ga_units, .ref ga_lengths, .ref ga_offsets, .int (z_i g_step)])), (ga_units, .inl (cA 1, 1280, .inl c12)), (ga_lengths, .inl (cA 1, 32, .inl g_lengths)), (ga_offsets, .inl (cA 1, 32, .inl g_offsets)), (h, .inr (1, [.ref ha_units, .ref ha_lengths, .ref ha_offsets, .int (z_i h_step)])), (ha_units, .inl (cA 1, 1280, .inl h_units)), (ha_lengths, .inl (cA 1, 32, .inl h_lengths)), (ha_offsets, .inl (cA 1, 32, .inl h_offsets))] := z_D_addr hD rfl
              have hv := hv c12 hw
              refine lv_iinc (v := z_i (x44_8 + 1)) (lv' := [(8, .int (z_i (x44_8 + 1))), (10, .int (z_i (-2147483648))), (9, .int (z_i 0)), (7, .int (z_i x44_7)), (6, .ref g), (5, .ref h), (4, .ref g)]) hx hb dX7_difference_141 hl (k := 2) rfl (z_i_add _ _) (by decide) rfl (fun ls hl => ?_)
              refine lv_goto (tgt := 44) hx hb dX7_difference_144 (by decide) ?_
              exact hv _ _ ls hP hD hS (lv_sub hl [0, 3, 4, 5, 6] rfl)
            · have hv := hv.2 hc
              refine lv_iconst (v := z_i 1) hx hb dX7_difference_72 rfl ?_
              refine lv_goto (tgt := 77) hx hb dX7_difference_73 (by decide) ?_
              refine lv_istore (lv' := [(9, .int (z_i 1)), (8, .int (z_i x44_8)), (7, .int (z_i x44_7)), (6, .ref g), (5, .ref h), (4, .ref g)]) hx hb dX7_difference_77 hl (by decide) rfl (fun ls hl => ?_)
              refine lv_iload hx hb dX7_difference_79 (lv_at hl 0 rfl) ?_
              refine lx_if_eq (tgt := 102) hx hb dX7_difference_81 (by decide) ⟨by decide, by decide⟩ (fun hc => absurd hc (by decide)) (fun _ => ?_)
              refine lv_aload hx hb dX7_difference_84 (lv_at hl 5 rfl) ?_
              refine lv_iload hx hb dX7_difference_86 (lv_at hl 1 rfl) ?_
              refine va_calli (va_runV (As := [.int (z_i x44_8)]) (rest := []) ⟨hx, hb, hml, hown, hts⟩ (mt_X2_unitsOf l D cA g ga_units y44_ga_units ga_lengths g_lengths ga_offsets g_offsets g_step x44_8 h_g_step h_x44_8) (cwV 1 hts gX7_difference_X2_unitsOf rfl rfl rfl (by decide +kernel) ⟨Nat.le_of_ble_eq_true rfl, Nat.le_of_ble_eq_true rfl⟩) ⟨z_bl0, va_recv hK hP (ci := 1) (q0 := 2) rfl rfl, fun U hU hW => ⟨rfl, z_b0 hK (hP.sub (ws' := [(g, .inr (1, [.ref ga_units, .ref ga_lengths, .ref ga_offsets, .int (z_i g_step)])), (ga_units, .inl (cA 1, 1280, .inl y44_ga_units)), (ga_lengths, .inl (cA 1, 32, .inl g_lengths)), (ga_offsets, .inl (cA 1, 32, .inl g_offsets))]) [2, 3, 4, 5] rfl) hU hW⟩⟩ rfl rfl hl.1 rfl (lv_room (Nat.le_of_ble_eq_true rfl)) dX7_difference_88 ⟨Nat.zero_le _, Nat.zero_le _⟩) hS (fun q _ h => h.elim) (fun q h => h.elim) (fun r0 u t H locs ht hvm hw hB hz1 hk1 hS => ?_)
              obtain ⟨r13, rfl, h_r13, hw⟩ := hw
              have hP := z_P_all hP hk1
              have hv := hv r13 h_r13 hw
              refine lv_aload hx hb dX7_difference_91 (lv_at hl 4 rfl) ?_
              refine lv_iload hx hb dX7_difference_93 (lv_at hl 1 rfl) ?_
              refine va_calli (va_runV (As := [.int (z_i x44_8)]) (rest := [.int (z_i r13)]) ⟨hx, hb, hml, hown, hts⟩ (mt_X2_unitsOf l D cA h ha_units h_units ha_lengths h_lengths ha_offsets h_offsets h_step x44_8 h_h_step h_x44_8) (cwV 1 hts gX7_difference_X2_unitsOf rfl rfl rfl (by decide +kernel) ⟨Nat.le_of_ble_eq_true rfl, Nat.le_of_ble_eq_true rfl⟩) ⟨z_bl0, va_recv hK hP (ci := 1) (q0 := 6) rfl rfl, fun U hU hW => ⟨rfl, z_b0 hK (hP.sub (ws' := [(h, .inr (1, [.ref ha_units, .ref ha_lengths, .ref ha_offsets, .int (z_i h_step)])), (ha_units, .inl (cA 1, 1280, .inl h_units)), (ha_lengths, .inl (cA 1, 32, .inl h_lengths)), (ha_offsets, .inl (cA 1, 32, .inl h_offsets))]) [6, 7, 8, 9] rfl) hU hW⟩⟩ rfl rfl hl.1 rfl (lv_room (Nat.le_of_ble_eq_true rfl)) dX7_difference_95 ⟨Nat.zero_le _, Nat.zero_le _⟩) hS (fun q _ h => h.elim) (fun q h => h.elim) (fun r0 u t H locs ht hvm hw hB hz1 hk1 hS => ?_)
              obtain ⟨r14, rfl, h_r14, hw⟩ := hw
              have hP := z_P_all hP hk1
              have hv := hv r14 h_r14 hw
              refine lx_isub hx hb dX7_difference_98 ?_
              refine lv_goto (tgt := 104) hx hb dX7_difference_99 (by decide) ?_
              obtain ⟨hr16, hv⟩ := hv
              refine lx_topi (fun v15 hy17 => ?_)
              have hv := hv v15 hy17
              have h_v15 : z_in v15 := by rw [hy17]; exact hr16
              refine lv_istore (lv' := [(10, .int (z_i v15)), (9, .int (z_i 1)), (8, .int (z_i x44_8)), (7, .int (z_i x44_7)), (6, .ref g), (5, .ref h), (4, .ref g)]) hx hb dX7_difference_104 hl (by decide) rfl (fun ls hl => ?_)
              refine lv_iload hx hb dX7_difference_106 (lv_at hl 1 rfl) ?_
              refine lx_if_eq (tgt := 132) hx hb dX7_difference_108 (by decide) ⟨by decide, by decide⟩ (fun hc => absurd hc (by decide)) (fun _ => ?_)
              refine lv_iload hx hb dX7_difference_111 (lv_at hl 0 rfl) ?_
              refine lx_ldc (a := (-8388608)) hx hb hown (hts (.constant RX7 180 (-8388608)) (by decide +kernel)) (by decide) dX7_difference_113 ?_
              refine lx_icmp_lt (tgt := 125) hx hb dX7_difference_115 (by decide) h_v15 (show z_in (-8388608) from ⟨by decide, by decide⟩) (fun hc => ?_) (fun hc => ?_)
              · have hv := hv.1 hc
                refine lv_iinc (v := z_i (x44_7 + 1)) (lv' := [(7, .int (z_i (x44_7 + 1))), (10, .int (z_i v15)), (9, .int (z_i 1)), (8, .int (z_i x44_8)), (6, .ref g), (5, .ref h), (4, .ref g)]) hx hb dX7_difference_125 hl (k := 3) rfl (z_i_add _ _) (by decide) rfl (fun ls hl => ?_)
                refine lx_ldc (a := (-2147483648)) hx hb hown (hts (.constant RX7 61 (-2147483648)) (by decide +kernel)) (by decide) dX7_difference_128 ?_
                refine lv_istore (lv' := [(10, .int (z_i (-2147483648))), (7, .int (z_i (x44_7 + 1))), (9, .int (z_i 1)), (8, .int (z_i x44_8)), (6, .ref g), (5, .ref h), (4, .ref g)]) hx hb dX7_difference_130 hl (by decide) rfl (fun ls hl => ?_)
                refine lv_aload hx hb dX7_difference_132 (lv_at hl 4 rfl) ?_
                refine lv_iload hx hb dX7_difference_134 (lv_at hl 3 rfl) ?_
                refine lv_iload hx hb dX7_difference_136 (lv_at hl 0 rfl) ?_
                obtain ⟨hp18, hv⟩ := hv
                have hFc := z_fr (A := A) (wc := [(g, .inr (1, [.ref ga_units, .ref ga_lengths, .ref ga_offsets, .int (z_i g_step)])), (ga_units, .inl (cA 1, 1280, .inl y44_ga_units)), (ga_lengths, .inl (cA 1, 32, .inl g_lengths)), (ga_offsets, .inl (cA 1, 32, .inl g_offsets))]) hD [2, 3, 4, 5] rfl
                refine va_callv (va_runV (As := [.int (z_i x44_8), .int (z_i (-2147483648))]) (rest := []) ⟨hx, hb, hml, hown, hts⟩ (mt_X2_put l D cA g ga_units y44_ga_units ga_lengths g_lengths ga_offsets g_offsets g_step x44_8 (-2147483648) h_g_step h_x44_8 (show z_in (-2147483648) from ⟨by decide, by decide⟩) hp18) (cwV 2 hts gX7_difference_X2_put rfl rfl rfl (by decide +kernel) ⟨Nat.le_of_ble_eq_true rfl, Nat.le_of_ble_eq_true rfl⟩) ⟨z_blm0, va_recv hK hP (ci := 1) (q0 := 2) rfl rfl, fun U hU hW => ⟨rfl, z_m0 hK (hP.sub (ws' := [(g, .inr (1, [.ref ga_units, .ref ga_lengths, .ref ga_offsets, .int (z_i g_step)])), (ga_units, .inl (cA 1, 1280, .inl y44_ga_units)), (ga_lengths, .inl (cA 1, 32, .inl g_lengths)), (ga_offsets, .inl (cA 1, 32, .inl g_offsets))]) [2, 3, 4, 5] rfl) (hD.sub (ws' := [(g, .inr (1, [.ref ga_units, .ref ga_lengths, .ref ga_offsets, .int (z_i g_step)])), (ga_units, .inl (cA 1, 1280, .inl y44_ga_units)), (ga_lengths, .inl (cA 1, 32, .inl g_lengths)), (ga_offsets, .inl (cA 1, 32, .inl g_offsets))]) [2, 3, 4, 5] (by decide) rfl) hU hW⟩⟩ rfl rfl hl.1 rfl (lv_room (Nat.le_of_ble_eq_true rfl)) dX7_difference_138 ⟨Nat.zero_le _, Nat.zero_le _⟩) hS (fun q _ h => hFc q h) hFc (fun u t H locs ht hvm hw hB hz1 hk1 hS => ?_)
                obtain ⟨c19, rfl⟩ : ∃ z, z = u := ⟨_, rfl⟩
                rw [ht] at hB
                have hP := z_join2 (wc := [(g, .inr (1, [.ref ga_units, .ref ga_lengths, .ref ga_offsets, .int (z_i g_step)])), (ga_units, .inl (cA 1, 1280, .inl y44_ga_units)), (ga_lengths, .inl (cA 1, 32, .inl g_lengths)), (ga_offsets, .inl (cA 1, 32, .inl g_offsets))]) (w1 := [(g, .inr (1, [.ref ga_units, .ref ga_lengths, .ref ga_offsets, .int (z_i g_step)])), (ga_units, .inl (cA 1, 1280, .inl c19)), (ga_lengths, .inl (cA 1, 32, .inl g_lengths)), (ga_offsets, .inl (cA 1, 32, .inl g_offsets))]) hP hD [2, 3, 4, 5] [0, 0, 1, 2, 3, 4] rfl rfl rfl hk1 hB
                have hP : va_P D vwCl [(x, .inr (5, [.ref xa_grids, .ref x_levelMm, .int (z_i x_levelCount), .ref x_water, .ref x_scratch, .ref x_lines])), (xa_grids, .inl (cA 4, 4, .inr (.inr (.inr (.inr x_grids))))), (g, .inr (1, [.ref ga_units, .ref ga_lengths, .ref ga_offsets, .int (z_i g_step)])), (ga_units, .inl (cA 1, 1280, .inl c19)), (ga_lengths, .inl (cA 1, 32, .inl g_lengths)), (ga_offsets, .inl (cA 1, 32, .inl g_offsets)), (h, .inr (1, [.ref ha_units, .ref ha_lengths, .ref ha_offsets, .int (z_i h_step)])), (ha_units, .inl (cA 1, 1280, .inl h_units)), (ha_lengths, .inl (cA 1, 32, .inl h_lengths)), (ha_offsets, .inl (cA 1, 32, .inl h_offsets))] H := hP
                have hD : va_D A [(x, .inr (5, [.ref xa_grids, .ref x_levelMm, .int (z_i x_levelCount), .ref x_water, .ref x_scratch, .ref x_lines])), (xa_grids, .inl (cA 4, 4, .inr (.inr (.inr (.inr x_grids))))), (g, .inr (1, [.ref ga_units, .ref ga_lengths, .ref ga_offsets, .int (z_i g_step)])), (ga_units, .inl (cA 1, 1280, .inl c19)), (ga_lengths, .inl (cA 1, 32, .inl g_lengths)), (ga_offsets, .inl (cA 1, 32, .inl g_offsets)), (h, .inr (1, [.ref ha_units, .ref ha_lengths, .ref ha_offsets, .int (z_i h_step)])), (ha_units, .inl (cA 1, 1280, .inl h_units)), (ha_lengths, .inl (cA 1, 32, .inl h_lengths)), (ha_offsets, .inl (cA 1, 32, .inl h_offsets))] := z_D_addr hD rfl
                have hv := hv c19 hw
                refine lv_iinc (v := z_i (x44_8 + 1)) (lv' := [(8, .int (z_i (x44_8 + 1))), (10, .int (z_i (-2147483648))), (7, .int (z_i (x44_7 + 1))), (9, .int (z_i 1)), (6, .ref g), (5, .ref h), (4, .ref g)]) hx hb dX7_difference_141 hl (k := 3) rfl (z_i_add _ _) (by decide) rfl (fun ls hl => ?_)
                refine lv_goto (tgt := 44) hx hb dX7_difference_144 (by decide) ?_
                exact hv _ _ ls hP hD hS (lv_sub hl [0, 2, 4, 5, 6] rfl)
              · have hv := hv.2 hc
                refine lv_iload hx hb dX7_difference_118 (lv_at hl 0 rfl) ?_
                refine lx_ldc (a := 8388608) hx hb hown (hts (.constant RX7 181 (8388608)) (by decide +kernel)) (by decide) dX7_difference_120 ?_
                refine lx_icmp_le (tgt := 132) hx hb dX7_difference_122 (by decide) h_v15 (show z_in 8388608 from ⟨by decide, by decide⟩) (fun hc => ?_) (fun hc => ?_)
                · have hv := hv.1 hc
                  refine lv_aload hx hb dX7_difference_132 (lv_at hl 4 rfl) ?_
                  refine lv_iload hx hb dX7_difference_134 (lv_at hl 2 rfl) ?_
                  refine lv_iload hx hb dX7_difference_136 (lv_at hl 0 rfl) ?_
                  obtain ⟨hp20, hv⟩ := hv
                  have hFc := z_fr (A := A) (wc := [(g, .inr (1, [.ref ga_units, .ref ga_lengths, .ref ga_offsets, .int (z_i g_step)])), (ga_units, .inl (cA 1, 1280, .inl y44_ga_units)), (ga_lengths, .inl (cA 1, 32, .inl g_lengths)), (ga_offsets, .inl (cA 1, 32, .inl g_offsets))]) hD [2, 3, 4, 5] rfl
                  refine va_callv (va_runV (As := [.int (z_i x44_8), .int (z_i v15)]) (rest := []) ⟨hx, hb, hml, hown, hts⟩ (mt_X2_put l D cA g ga_units y44_ga_units ga_lengths g_lengths ga_offsets g_offsets g_step x44_8 v15 h_g_step h_x44_8 h_v15 hp20) (cwV 2 hts gX7_difference_X2_put rfl rfl rfl (by decide +kernel) ⟨Nat.le_of_ble_eq_true rfl, Nat.le_of_ble_eq_true rfl⟩) ⟨z_blm0, va_recv hK hP (ci := 1) (q0 := 2) rfl rfl, fun U hU hW => ⟨rfl, z_m0 hK (hP.sub (ws' := [(g, .inr (1, [.ref ga_units, .ref ga_lengths, .ref ga_offsets, .int (z_i g_step)])), (ga_units, .inl (cA 1, 1280, .inl y44_ga_units)), (ga_lengths, .inl (cA 1, 32, .inl g_lengths)), (ga_offsets, .inl (cA 1, 32, .inl g_offsets))]) [2, 3, 4, 5] rfl) (hD.sub (ws' := [(g, .inr (1, [.ref ga_units, .ref ga_lengths, .ref ga_offsets, .int (z_i g_step)])), (ga_units, .inl (cA 1, 1280, .inl y44_ga_units)), (ga_lengths, .inl (cA 1, 32, .inl g_lengths)), (ga_offsets, .inl (cA 1, 32, .inl g_offsets))]) [2, 3, 4, 5] (by decide) rfl) hU hW⟩⟩ rfl rfl hl.1 rfl (lv_room (Nat.le_of_ble_eq_true rfl)) dX7_difference_138 ⟨Nat.zero_le _, Nat.zero_le _⟩) hS (fun q _ h => hFc q h) hFc (fun u t H locs ht hvm hw hB hz1 hk1 hS => ?_)
                  obtain ⟨c21, rfl⟩ : ∃ z, z = u := ⟨_, rfl⟩
                  rw [ht] at hB
                  have hP := z_join2 (wc := [(g, .inr (1, [.ref ga_units, .ref ga_lengths, .ref ga_offsets, .int (z_i g_step)])), (ga_units, .inl (cA 1, 1280, .inl y44_ga_units)), (ga_lengths, .inl (cA 1, 32, .inl g_lengths)), (ga_offsets, .inl (cA 1, 32, .inl g_offsets))]) (w1 := [(g, .inr (1, [.ref ga_units, .ref ga_lengths, .ref ga_offsets, .int (z_i g_step)])), (ga_units, .inl (cA 1, 1280, .inl c21)), (ga_lengths, .inl (cA 1, 32, .inl g_lengths)), (ga_offsets, .inl (cA 1, 32, .inl g_offsets))]) hP hD [2, 3, 4, 5] [0, 0, 1, 2, 3, 4] rfl rfl rfl hk1 hB
                  have hP : va_P D vwCl [(x, .inr (5, [.ref xa_grids, .ref x_levelMm, .int (z_i x_levelCount), .ref x_water, .ref x_scratch, .ref x_lines])), (xa_grids, .inl (cA 4, 4, .inr (.inr (.inr (.inr x_grids))))), (g, .inr (1, [.ref ga_units, .ref ga_lengths, .ref ga_offsets, .int (z_i g_step)])), (ga_units, .inl (cA 1, 1280, .inl c21)), (ga_lengths, .inl (cA 1, 32, .inl g_lengths)), (ga_offsets, .inl (cA 1, 32, .inl g_offsets)), (h, .inr (1, [.ref ha_units, .ref ha_lengths, .ref ha_offsets, .int (z_i h_step)])), (ha_units, .inl (cA 1, 1280, .inl h_units)), (ha_lengths, .inl (cA 1, 32, .inl h_lengths)), (ha_offsets, .inl (cA 1, 32, .inl h_offsets))] H := hP
                  have hD : va_D A [(x, .inr (5, [.ref xa_grids, .ref x_levelMm, .int (z_i x_levelCount), .ref x_water, .ref x_scratch, .ref x_lines])), (xa_grids, .inl (cA 4, 4, .inr (.inr (.inr (.inr x_grids))))), (g, .inr (1, [.ref ga_units, .ref ga_lengths, .ref ga_offsets, .int (z_i g_step)])), (ga_units, .inl (cA 1, 1280, .inl c21)), (ga_lengths, .inl (cA 1, 32, .inl g_lengths)), (ga_offsets, .inl (cA 1, 32, .inl g_offsets)), (h, .inr (1, [.ref ha_units, .ref ha_lengths, .ref ha_offsets, .int (z_i h_step)])), (ha_units, .inl (cA 1, 1280, .inl h_units)), (ha_lengths, .inl (cA 1, 32, .inl h_lengths)), (ha_offsets, .inl (cA 1, 32, .inl h_offsets))] := z_D_addr hD rfl
                  have hv := hv c21 hw
                  refine lv_iinc (v := z_i (x44_8 + 1)) (lv' := [(8, .int (z_i (x44_8 + 1))), (10, .int (z_i v15)), (9, .int (z_i 1)), (7, .int (z_i x44_7)), (6, .ref g), (5, .ref h), (4, .ref g)]) hx hb dX7_difference_141 hl (k := 2) rfl (z_i_add _ _) (by decide) rfl (fun ls hl => ?_)
                  refine lv_goto (tgt := 44) hx hb dX7_difference_144 (by decide) ?_
                  exact hv _ _ ls hP hD hS (lv_sub hl [0, 3, 4, 5, 6] rfl)
                · have hv := hv.2 hc
                  refine lv_iinc (v := z_i (x44_7 + 1)) (lv' := [(7, .int (z_i (x44_7 + 1))), (10, .int (z_i v15)), (9, .int (z_i 1)), (8, .int (z_i x44_8)), (6, .ref g), (5, .ref h), (4, .ref g)]) hx hb dX7_difference_125 hl (k := 3) rfl (z_i_add _ _) (by decide) rfl (fun ls hl => ?_)
                  refine lx_ldc (a := (-2147483648)) hx hb hown (hts (.constant RX7 61 (-2147483648)) (by decide +kernel)) (by decide) dX7_difference_128 ?_
                  refine lv_istore (lv' := [(10, .int (z_i (-2147483648))), (7, .int (z_i (x44_7 + 1))), (9, .int (z_i 1)), (8, .int (z_i x44_8)), (6, .ref g), (5, .ref h), (4, .ref g)]) hx hb dX7_difference_130 hl (by decide) rfl (fun ls hl => ?_)
                  refine lv_aload hx hb dX7_difference_132 (lv_at hl 4 rfl) ?_
                  refine lv_iload hx hb dX7_difference_134 (lv_at hl 3 rfl) ?_
                  refine lv_iload hx hb dX7_difference_136 (lv_at hl 0 rfl) ?_
                  obtain ⟨hp22, hv⟩ := hv
                  have hFc := z_fr (A := A) (wc := [(g, .inr (1, [.ref ga_units, .ref ga_lengths, .ref ga_offsets, .int (z_i g_step)])), (ga_units, .inl (cA 1, 1280, .inl y44_ga_units)), (ga_lengths, .inl (cA 1, 32, .inl g_lengths)), (ga_offsets, .inl (cA 1, 32, .inl g_offsets))]) hD [2, 3, 4, 5] rfl
                  refine va_callv (va_runV (As := [.int (z_i x44_8), .int (z_i (-2147483648))]) (rest := []) ⟨hx, hb, hml, hown, hts⟩ (mt_X2_put l D cA g ga_units y44_ga_units ga_lengths g_lengths ga_offsets g_offsets g_step x44_8 (-2147483648) h_g_step h_x44_8 (show z_in (-2147483648) from ⟨by decide, by decide⟩) hp22) (cwV 2 hts gX7_difference_X2_put rfl rfl rfl (by decide +kernel) ⟨Nat.le_of_ble_eq_true rfl, Nat.le_of_ble_eq_true rfl⟩) ⟨z_blm0, va_recv hK hP (ci := 1) (q0 := 2) rfl rfl, fun U hU hW => ⟨rfl, z_m0 hK (hP.sub (ws' := [(g, .inr (1, [.ref ga_units, .ref ga_lengths, .ref ga_offsets, .int (z_i g_step)])), (ga_units, .inl (cA 1, 1280, .inl y44_ga_units)), (ga_lengths, .inl (cA 1, 32, .inl g_lengths)), (ga_offsets, .inl (cA 1, 32, .inl g_offsets))]) [2, 3, 4, 5] rfl) (hD.sub (ws' := [(g, .inr (1, [.ref ga_units, .ref ga_lengths, .ref ga_offsets, .int (z_i g_step)])), (ga_units, .inl (cA 1, 1280, .inl y44_ga_units)), (ga_lengths, .inl (cA 1, 32, .inl g_lengths)), (ga_offsets, .inl (cA 1, 32, .inl g_offsets))]) [2, 3, 4, 5] (by decide) rfl) hU hW⟩⟩ rfl rfl hl.1 rfl (lv_room (Nat.le_of_ble_eq_true rfl)) dX7_difference_138 ⟨Nat.zero_le _, Nat.zero_le _⟩) hS (fun q _ h => hFc q h) hFc (fun u t H locs ht hvm hw hB hz1 hk1 hS => ?_)
                  obtain ⟨c23, rfl⟩ : ∃ z, z = u := ⟨_, rfl⟩
                  rw [ht] at hB
                  have hP := z_join2 (wc := [(g, .inr (1, [.ref ga_units, .ref ga_lengths, .ref ga_offsets, .int (z_i g_step)])), (ga_units, .inl (cA 1, 1280, .inl y44_ga_units)), (ga_lengths, .inl (cA 1, 32, .inl g_lengths)), (ga_offsets, .inl (cA 1, 32, .inl g_offsets))]) (w1 := [(g, .inr (1, [.ref ga_units, .ref ga_lengths, .ref ga_offsets, .int (z_i g_step)])), (ga_units, .inl (cA 1, 1280, .inl c23)), (ga_lengths, .inl (cA 1, 32, .inl g_lengths)), (ga_offsets, .inl (cA 1, 32, .inl g_offsets))]) hP hD [2, 3, 4, 5] [0, 0, 1, 2, 3, 4] rfl rfl rfl hk1 hB
                  have hP : va_P D vwCl [(x, .inr (5, [.ref xa_grids, .ref x_levelMm, .int (z_i x_levelCount), .ref x_water, .ref x_scratch, .ref x_lines])), (xa_grids, .inl (cA 4, 4, .inr (.inr (.inr (.inr x_grids))))), (g, .inr (1, [.ref ga_units, .ref ga_lengths, .ref ga_offsets, .int (z_i g_step)])), (ga_units, .inl (cA 1, 1280, .inl c23)), (ga_lengths, .inl (cA 1, 32, .inl g_lengths)), (ga_offsets, .inl (cA 1, 32, .inl g_offsets)), (h, .inr (1, [.ref ha_units, .ref ha_lengths, .ref ha_offsets, .int (z_i h_step)])), (ha_units, .inl (cA 1, 1280, .inl h_units)), (ha_lengths, .inl (cA 1, 32, .inl h_lengths)), (ha_offsets, .inl (cA 1, 32, .inl h_offsets))] H := hP
                  have hD : va_D A [(x, .inr (5, [.ref xa_grids, .ref x_levelMm, .int (z_i x_levelCount), .ref x_water, .ref x_scratch, .ref x_lines])), (xa_grids, .inl (cA 4, 4, .inr (.inr (.inr (.inr x_grids))))), (g, .inr (1, [.ref ga_units, .ref ga_lengths, .ref ga_offsets, .int (z_i g_step)])), (ga_units, .inl (cA 1, 1280, .inl c23)), (ga_lengths, .inl (cA 1, 32, .inl g_lengths)), (ga_offsets, .inl (cA 1, 32, .inl g_offsets)), (h, .inr (1, [.ref ha_units, .ref ha_lengths, .ref ha_offsets, .int (z_i h_step)])), (ha_units, .inl (cA 1, 1280, .inl h_units)), (ha_lengths, .inl (cA 1, 32, .inl h_lengths)), (ha_offsets, .inl (cA 1, 32, .inl h_offsets))] := z_D_addr hD rfl
                  have hv := hv c23 hw
                  refine lv_iinc (v := z_i (x44_8 + 1)) (lv' := [(8, .int (z_i (x44_8 + 1))), (10, .int (z_i (-2147483648))), (7, .int (z_i (x44_7 + 1))), (9, .int (z_i 1)), (6, .ref g), (5, .ref h), (4, .ref g)]) hx hb dX7_difference_141 hl (k := 3) rfl (z_i_add _ _) (by decide) rfl (fun ls hl => ?_)
                  refine lv_goto (tgt := 44) hx hb dX7_difference_144 (by decide) ?_
                  exact hv _ _ ls hP hD hS (lv_sub hl [0, 2, 4, 5, 6] rfl)
      · have hv := hv.2 hc
        rw [hq3, if_neg hc, z_rf_n]
        refine lv_astoreN (lv' := [(6, .null), (5, .ref h), (4, .ref g), (0, .ref x), (1, .int (z_i gi)), (2, .int (z_i hi_)), (3, .int (z_i to))]) hx hb dX7_difference_19 hl (by decide) rfl (fun ls hl => ?_)
        refine lv_aload hx hb dX7_difference_21 (lv_at hl 2 rfl) ?_
        refine lv_ifnull hx hb dX7_difference_23 ?_
        refine lv_aload hx hb dX7_difference_26 (lv_at hl 1 rfl) ?_
        refine lv_ifnull hx hb dX7_difference_28 ?_
        refine lv_aloadN hx hb dX7_difference_31 (lv_at hl 0 rfl) ?_
        refine lv_ifnonnullN hx hb dX7_difference_33 ?_
        refine lv_iconst (v := z_i (-1)) hx hb dX7_difference_36 rfl ?_
        exact W.iret (v := z_i (-1)) hx hb hr (fun t ht hW => ⟨⟨z_i (-1), (g_units, g_lengths, g_offsets, g_step), rfl, ⟨-1, rfl, (show z_in (-1) from ⟨by decide, by decide⟩), h_g_step, hv⟩, z_pt hP ht⟩, hS.F ht⟩) hS.2.2 dX7_difference_37
    · have hv := hv.2 hc
      rw [hq2, if_neg hc, z_rf_n]
      refine lv_astoreN (lv' := [(5, .null), (4, .ref g), (0, .ref x), (1, .int (z_i gi)), (2, .int (z_i hi_)), (3, .int (z_i to))]) hx hb dX7_difference_12 hl (by decide) rfl (fun ls hl => ?_)
      refine lv_aload_n hx hb dX7_difference_14 rfl (lv_at hl 2 rfl) ?_
      refine lv_iload_n hx hb dX7_difference_15 rfl (lv_at hl 5 rfl) ?_
      refine va_callq (va_runV (As := [.int (z_i to)]) (rest := []) ⟨hx, hb, hml, hown, hts⟩ (mt_X7_gridOf l D cA x xa_grids x_grids x_levelMm x_levelCount x_water x_scratch x_lines to h_x_levelCount h_to) (cwV 1 hts gX7_difference_X7_gridOf rfl rfl rfl (by decide +kernel) ⟨Nat.le_of_ble_eq_true rfl, Nat.le_of_ble_eq_true rfl⟩) ⟨z_bl0, va_recv hK hP (ci := 5) (q0 := 0) rfl rfl, fun U hU hW => ⟨rfl, z_b0 hK (hP.sub (ws' := [(x, .inr (5, [.ref xa_grids, .ref x_levelMm, .int (z_i x_levelCount), .ref x_water, .ref x_scratch, .ref x_lines])), (xa_grids, .inl (cA 4, 4, .inr (.inr (.inr (.inr x_grids)))))]) [0, 1] rfl) hU hW⟩⟩ rfl rfl hl.1 rfl (lv_room (Nat.le_of_ble_eq_true rfl)) dX7_difference_16 ⟨Nat.zero_le _, Nat.zero_le _⟩) hS (fun q _ h => h.elim) (fun q h => h.elim) (fun r0 u t H locs ht hvm hw hB hz1 hk1 hS => ?_)
      have hq24 := hw
      have hP := z_P_all hP hk1
      by_cases hc : 0 ≤ to ∧ to < 4
      · have hv := hv.1 hc
        rw [hq24, if_pos hc, hg_to hc, z_rf_s]
        refine lv_astore (lv' := [(6, .ref g), (5, .null), (4, .ref g), (0, .ref x), (1, .int (z_i gi)), (2, .int (z_i hi_)), (3, .int (z_i to))]) hx hb dX7_difference_19 hl (by decide) rfl (fun ls hl => ?_)
        refine lv_aload hx hb dX7_difference_21 (lv_at hl 2 rfl) ?_
        refine lv_ifnull hx hb dX7_difference_23 ?_
        refine lv_aloadN hx hb dX7_difference_26 (lv_at hl 1 rfl) ?_
        refine lv_ifnullN (tgt := 36) hx hb dX7_difference_28 (by decide) ?_
        refine lv_iconst (v := z_i (-1)) hx hb dX7_difference_36 rfl ?_
        exact W.iret (v := z_i (-1)) hx hb hr (fun t ht hW => ⟨⟨z_i (-1), (g_units, g_lengths, g_offsets, g_step), rfl, ⟨-1, rfl, (show z_in (-1) from ⟨by decide, by decide⟩), h_g_step, hv⟩, z_pt hP ht⟩, hS.F ht⟩) hS.2.2 dX7_difference_37
      · have hv := hv.2 hc
        rw [hq24, if_neg hc, z_rf_n]
        refine lv_astoreN (lv' := [(6, .null), (5, .null), (4, .ref g), (0, .ref x), (1, .int (z_i gi)), (2, .int (z_i hi_)), (3, .int (z_i to))]) hx hb dX7_difference_19 hl (by decide) rfl (fun ls hl => ?_)
        refine lv_aload hx hb dX7_difference_21 (lv_at hl 2 rfl) ?_
        refine lv_ifnull hx hb dX7_difference_23 ?_
        refine lv_aloadN hx hb dX7_difference_26 (lv_at hl 1 rfl) ?_
        refine lv_ifnullN (tgt := 36) hx hb dX7_difference_28 (by decide) ?_
        refine lv_iconst (v := z_i (-1)) hx hb dX7_difference_36 rfl ?_
        exact W.iret (v := z_i (-1)) hx hb hr (fun t ht hW => ⟨⟨z_i (-1), (g_units, g_lengths, g_offsets, g_step), rfl, ⟨-1, rfl, (show z_in (-1) from ⟨by decide, by decide⟩), h_g_step, hv⟩, z_pt hP ht⟩, hS.F ht⟩) hS.2.2 dX7_difference_37
  · have hv := hv.2 hc
    rw [hq1, if_neg hc, z_rf_n]
    refine lv_astoreN (lv' := [(4, .null), (0, .ref x), (1, .int (z_i gi)), (2, .int (z_i hi_)), (3, .int (z_i to))]) hx hb dX7_difference_5 hl (by decide) rfl (fun ls hl => ?_)
    refine lv_aload_n hx hb dX7_difference_7 rfl (lv_at hl 1 rfl) ?_
    refine lv_iload_n hx hb dX7_difference_8 rfl (lv_at hl 3 rfl) ?_
    refine va_callq (va_runV (As := [.int (z_i hi_)]) (rest := []) ⟨hx, hb, hml, hown, hts⟩ (mt_X7_gridOf l D cA x xa_grids x_grids x_levelMm x_levelCount x_water x_scratch x_lines hi_ h_x_levelCount h_hi_) (cwV 1 hts gX7_difference_X7_gridOf rfl rfl rfl (by decide +kernel) ⟨Nat.le_of_ble_eq_true rfl, Nat.le_of_ble_eq_true rfl⟩) ⟨z_bl0, va_recv hK hP (ci := 5) (q0 := 0) rfl rfl, fun U hU hW => ⟨rfl, z_b0 hK (hP.sub (ws' := [(x, .inr (5, [.ref xa_grids, .ref x_levelMm, .int (z_i x_levelCount), .ref x_water, .ref x_scratch, .ref x_lines])), (xa_grids, .inl (cA 4, 4, .inr (.inr (.inr (.inr x_grids)))))]) [0, 1] rfl) hU hW⟩⟩ rfl rfl hl.1 rfl (lv_room (Nat.le_of_ble_eq_true rfl)) dX7_difference_9 ⟨Nat.zero_le _, Nat.zero_le _⟩) hS (fun q _ h => h.elim) (fun q h => h.elim) (fun r0 u t H locs ht hvm hw hB hz1 hk1 hS => ?_)
    have hq25 := hw
    have hP := z_P_all hP hk1
    by_cases hc : 0 ≤ hi_ ∧ hi_ < 4
    · have hv := hv.1 hc
      rw [hq25, if_pos hc, hg_hi_ hc, z_rf_s]
      refine lv_astore (lv' := [(5, .ref h), (4, .null), (0, .ref x), (1, .int (z_i gi)), (2, .int (z_i hi_)), (3, .int (z_i to))]) hx hb dX7_difference_12 hl (by decide) rfl (fun ls hl => ?_)
      refine lv_aload_n hx hb dX7_difference_14 rfl (lv_at hl 2 rfl) ?_
      refine lv_iload_n hx hb dX7_difference_15 rfl (lv_at hl 5 rfl) ?_
      refine va_callq (va_runV (As := [.int (z_i to)]) (rest := []) ⟨hx, hb, hml, hown, hts⟩ (mt_X7_gridOf l D cA x xa_grids x_grids x_levelMm x_levelCount x_water x_scratch x_lines to h_x_levelCount h_to) (cwV 1 hts gX7_difference_X7_gridOf rfl rfl rfl (by decide +kernel) ⟨Nat.le_of_ble_eq_true rfl, Nat.le_of_ble_eq_true rfl⟩) ⟨z_bl0, va_recv hK hP (ci := 5) (q0 := 0) rfl rfl, fun U hU hW => ⟨rfl, z_b0 hK (hP.sub (ws' := [(x, .inr (5, [.ref xa_grids, .ref x_levelMm, .int (z_i x_levelCount), .ref x_water, .ref x_scratch, .ref x_lines])), (xa_grids, .inl (cA 4, 4, .inr (.inr (.inr (.inr x_grids)))))]) [0, 1] rfl) hU hW⟩⟩ rfl rfl hl.1 rfl (lv_room (Nat.le_of_ble_eq_true rfl)) dX7_difference_16 ⟨Nat.zero_le _, Nat.zero_le _⟩) hS (fun q _ h => h.elim) (fun q h => h.elim) (fun r0 u t H locs ht hvm hw hB hz1 hk1 hS => ?_)
      have hq26 := hw
      have hP := z_P_all hP hk1
      by_cases hc : 0 ≤ to ∧ to < 4
      · have hv := hv.1 hc
        rw [hq26, if_pos hc, hg_to hc, z_rf_s]
        refine lv_astore (lv' := [(6, .ref g), (5, .ref h), (4, .null), (0, .ref x), (1, .int (z_i gi)), (2, .int (z_i hi_)), (3, .int (z_i to))]) hx hb dX7_difference_19 hl (by decide) rfl (fun ls hl => ?_)
        refine lv_aloadN hx hb dX7_difference_21 (lv_at hl 2 rfl) ?_
        refine lv_ifnullN (tgt := 36) hx hb dX7_difference_23 (by decide) ?_
        refine lv_iconst (v := z_i (-1)) hx hb dX7_difference_36 rfl ?_
        exact W.iret (v := z_i (-1)) hx hb hr (fun t ht hW => ⟨⟨z_i (-1), (g_units, g_lengths, g_offsets, g_step), rfl, ⟨-1, rfl, (show z_in (-1) from ⟨by decide, by decide⟩), h_g_step, hv⟩, z_pt hP ht⟩, hS.F ht⟩) hS.2.2 dX7_difference_37
      · have hv := hv.2 hc
        rw [hq26, if_neg hc, z_rf_n]
        refine lv_astoreN (lv' := [(6, .null), (5, .ref h), (4, .null), (0, .ref x), (1, .int (z_i gi)), (2, .int (z_i hi_)), (3, .int (z_i to))]) hx hb dX7_difference_19 hl (by decide) rfl (fun ls hl => ?_)
        refine lv_aloadN hx hb dX7_difference_21 (lv_at hl 2 rfl) ?_
        refine lv_ifnullN (tgt := 36) hx hb dX7_difference_23 (by decide) ?_
        refine lv_iconst (v := z_i (-1)) hx hb dX7_difference_36 rfl ?_
        exact W.iret (v := z_i (-1)) hx hb hr (fun t ht hW => ⟨⟨z_i (-1), (g_units, g_lengths, g_offsets, g_step), rfl, ⟨-1, rfl, (show z_in (-1) from ⟨by decide, by decide⟩), h_g_step, hv⟩, z_pt hP ht⟩, hS.F ht⟩) hS.2.2 dX7_difference_37
    · have hv := hv.2 hc
      rw [hq25, if_neg hc, z_rf_n]
      refine lv_astoreN (lv' := [(5, .null), (4, .null), (0, .ref x), (1, .int (z_i gi)), (2, .int (z_i hi_)), (3, .int (z_i to))]) hx hb dX7_difference_12 hl (by decide) rfl (fun ls hl => ?_)
      refine lv_aload_n hx hb dX7_difference_14 rfl (lv_at hl 2 rfl) ?_
      refine lv_iload_n hx hb dX7_difference_15 rfl (lv_at hl 5 rfl) ?_
      refine va_callq (va_runV (As := [.int (z_i to)]) (rest := []) ⟨hx, hb, hml, hown, hts⟩ (mt_X7_gridOf l D cA x xa_grids x_grids x_levelMm x_levelCount x_water x_scratch x_lines to h_x_levelCount h_to) (cwV 1 hts gX7_difference_X7_gridOf rfl rfl rfl (by decide +kernel) ⟨Nat.le_of_ble_eq_true rfl, Nat.le_of_ble_eq_true rfl⟩) ⟨z_bl0, va_recv hK hP (ci := 5) (q0 := 0) rfl rfl, fun U hU hW => ⟨rfl, z_b0 hK (hP.sub (ws' := [(x, .inr (5, [.ref xa_grids, .ref x_levelMm, .int (z_i x_levelCount), .ref x_water, .ref x_scratch, .ref x_lines])), (xa_grids, .inl (cA 4, 4, .inr (.inr (.inr (.inr x_grids)))))]) [0, 1] rfl) hU hW⟩⟩ rfl rfl hl.1 rfl (lv_room (Nat.le_of_ble_eq_true rfl)) dX7_difference_16 ⟨Nat.zero_le _, Nat.zero_le _⟩) hS (fun q _ h => h.elim) (fun q h => h.elim) (fun r0 u t H locs ht hvm hw hB hz1 hk1 hS => ?_)
      have hq27 := hw
      have hP := z_P_all hP hk1
      by_cases hc : 0 ≤ to ∧ to < 4
      · have hv := hv.1 hc
        rw [hq27, if_pos hc, hg_to hc, z_rf_s]
        refine lv_astore (lv' := [(6, .ref g), (5, .null), (4, .null), (0, .ref x), (1, .int (z_i gi)), (2, .int (z_i hi_)), (3, .int (z_i to))]) hx hb dX7_difference_19 hl (by decide) rfl (fun ls hl => ?_)
        refine lv_aloadN hx hb dX7_difference_21 (lv_at hl 2 rfl) ?_
        refine lv_ifnullN (tgt := 36) hx hb dX7_difference_23 (by decide) ?_
        refine lv_iconst (v := z_i (-1)) hx hb dX7_difference_36 rfl ?_
        exact W.iret (v := z_i (-1)) hx hb hr (fun t ht hW => ⟨⟨z_i (-1), (g_units, g_lengths, g_offsets, g_step), rfl, ⟨-1, rfl, (show z_in (-1) from ⟨by decide, by decide⟩), h_g_step, hv⟩, z_pt hP ht⟩, hS.F ht⟩) hS.2.2 dX7_difference_37
      · have hv := hv.2 hc
        rw [hq27, if_neg hc, z_rf_n]
        refine lv_astoreN (lv' := [(6, .null), (5, .null), (4, .null), (0, .ref x), (1, .int (z_i gi)), (2, .int (z_i hi_)), (3, .int (z_i to))]) hx hb dX7_difference_19 hl (by decide) rfl (fun ls hl => ?_)
        refine lv_aloadN hx hb dX7_difference_21 (lv_at hl 2 rfl) ?_
        refine lv_ifnullN (tgt := 36) hx hb dX7_difference_23 (by decide) ?_
        refine lv_iconst (v := z_i (-1)) hx hb dX7_difference_36 rfl ?_
        exact W.iret (v := z_i (-1)) hx hb hr (fun t ht hW => ⟨⟨z_i (-1), (g_units, g_lengths, g_offsets, g_step), rfl, ⟨-1, rfl, (show z_in (-1) from ⟨by decide, by decide⟩), h_g_step, hv⟩, z_pt hP ht⟩, hS.F ht⟩) hS.2.2 dX7_difference_37
set_option maxHeartbeats 4000000 in
set_option maxRecDepth 100000 in
theorem mt_X7_difference_c (l : Launch) (D : va_G) (cA : Nat → ClassId) (x : Nat) (xa_grids : Nat) (x_grids : Nat → Option Nat) (x_levelMm : Nat) (x_levelCount : Int) (x_water : Nat) (x_scratch : Nat) (x_lines : Nat) (gi : Int) (hi_ : Int) (to : Int) (g : Nat) (ga_units : Nat) (g_units : Nat → Int32) (ga_lengths : Nat) (g_lengths : Nat → Int32) (ga_offsets : Nat) (g_offsets : Nat → Int32) (g_step : Int) (h : Nat) (ha_units : Nat) (h_units : Nat → Int32) (ha_lengths : Nat) (h_lengths : Nat → Int32) (ha_offsets : Nat) (h_offsets : Nat → Int32) (h_step : Int) (h_x_levelCount : z_in x_levelCount) (h_gi : z_in gi) (h_hi_ : z_in hi_) (h_to : z_in to) (h_g_step : z_in g_step) (h_h_step : z_in h_step) (hg_gi : 0 ≤ gi ∧ gi < 4 → x_grids gi.toNat = some g) (hg_hi_ : 0 ≤ hi_ ∧ hi_ < 4 → x_grids hi_.toNat = some h) (hg_to : 0 ≤ to ∧ to < 4 → x_grids to.toNat = some g) (hp1 : g_ok g_units) (hp2 : g_ok h_units) : Met l yX7_difference wsX7_difference ({ frames := 2, cells := 0, slots := 0, locals := 39 } : Room) (va_Pc [.ref x, .int (z_i gi), .int (z_i hi_), .int (z_i to)] (z_M0 D cA [(x, .inr (5, [.ref xa_grids, .ref x_levelMm, .int (z_i x_levelCount), .ref x_water, .ref x_scratch, .ref x_lines])), (xa_grids, .inl (cA 4, 4, .inr (.inr (.inr (.inr x_grids))))), (g, .inr (1, [.ref ga_units, .ref ga_lengths, .ref ga_offsets, .int (z_i g_step)])), (ga_units, .inl (cA 1, 1280, .inl g_units)), (ga_lengths, .inl (cA 1, 32, .inl g_lengths)), (ga_offsets, .inl (cA 1, 32, .inl g_offsets)), (h, .inr (1, [.ref ha_units, .ref ha_lengths, .ref ha_offsets, .int (z_i h_step)])), (ha_units, .inl (cA 1, 1280, .inl h_units)), (ha_lengths, .inl (cA 1, 32, .inl h_lengths)), (ha_offsets, .inl (cA 1, 32, .inl h_offsets))])) (va_Qi (z_mi (fun v (u : (Nat → Int32) × (Nat → Int32) × (Nat → Int32) × Int) => z_in u.2.2.2 ∧ (fun (r : Int) (g_units' : (Nat → Int32)) (g_lengths' : (Nat → Int32)) (g_offsets' : (Nat → Int32)) (g_step' : Int) => r = (if (0 ≤ gi ∧ gi < 4) ∧ (0 ≤ hi_ ∧ hi_ < 4) ∧ (0 ≤ to ∧ to < 4) then f_bc g_units h_units 1280 else -1) ∧ ((0 ≤ gi ∧ gi < 4) ∧ (0 ≤ hi_ ∧ hi_ < 4) ∧ (0 ≤ to ∧ to < 4) → (∀ n : Int, 0 ≤ n → n < 1280 → z_g g_units' n = f_df g_units h_units n) ∧ g_lengths' = g_lengths ∧ g_offsets' = g_offsets ∧ g_step' = g_step) ∧ (¬ ((0 ≤ gi ∧ gi < 4) ∧ (0 ≤ hi_ ∧ hi_ < 4) ∧ (0 ≤ to ∧ to < 4)) → g_units' = g_units ∧ g_lengths' = g_lengths ∧ g_offsets' = g_offsets ∧ g_step' = g_step)) v u.1 u.2.1 u.2.2.1 u.2.2.2)) (fun (u : (Nat → Int32) × (Nat → Int32) × (Nat → Int32) × Int) t => va_P D vwCl [(x, .inr (5, [.ref xa_grids, .ref x_levelMm, .int (z_i x_levelCount), .ref x_water, .ref x_scratch, .ref x_lines])), (xa_grids, .inl (cA 4, 4, .inr (.inr (.inr (.inr x_grids))))), (g, .inr (1, [.ref ga_units, .ref ga_lengths, .ref ga_offsets, .int (z_i u.2.2.2)])), (ga_units, .inl (cA 1, 1280, .inl u.1)), (ga_lengths, .inl (cA 1, 32, .inl u.2.1)), (ga_offsets, .inl (cA 1, 32, .inl u.2.2.1)), (h, .inr (1, [.ref ha_units, .ref ha_lengths, .ref ha_offsets, .int (z_i h_step)])), (ha_units, .inl (cA 1, 1280, .inl h_units)), (ha_lengths, .inl (cA 1, 32, .inl h_lengths)), (ha_offsets, .inl (cA 1, 32, .inl h_offsets))] t.heap) (z_A [(x, .inr (5, [.ref xa_grids, .ref x_levelMm, .int (z_i x_levelCount), .ref x_water, .ref x_scratch, .ref x_lines])), (xa_grids, .inl (cA 4, 4, .inr (.inr (.inr (.inr x_grids))))), (g, .inr (1, [.ref ga_units, .ref ga_lengths, .ref ga_offsets, .int (z_i g_step)])), (ga_units, .inl (cA 1, 1280, .inl g_units)), (ga_lengths, .inl (cA 1, 32, .inl g_lengths)), (ga_offsets, .inl (cA 1, 32, .inl g_offsets)), (h, .inr (1, [.ref ha_units, .ref ha_lengths, .ref ha_offsets, .int (z_i h_step)])), (ha_units, .inl (cA 1, 1280, .inl h_units)), (ha_lengths, .inl (cA 1, 32, .inl h_lengths)), (ha_offsets, .inl (cA 1, 32, .inl h_offsets))])) 0 0 (z_A [(x, .inr (5, [.ref xa_grids, .ref x_levelMm, .int (z_i x_levelCount), .ref x_water, .ref x_scratch, .ref x_lines])), (xa_grids, .inl (cA 4, 4, .inr (.inr (.inr (.inr x_grids))))), (g, .inr (1, [.ref ga_units, .ref ga_lengths, .ref ga_offsets, .int (z_i g_step)])), (ga_units, .inl (cA 1, 1280, .inl g_units)), (ga_lengths, .inl (cA 1, 32, .inl g_lengths)), (ga_offsets, .inl (cA 1, 32, .inl g_offsets)), (h, .inr (1, [.ref ha_units, .ref ha_lengths, .ref ha_offsets, .int (z_i h_step)])), (ha_units, .inl (cA 1, 1280, .inl h_units)), (ha_lengths, .inl (cA 1, 32, .inl h_lengths)), (ha_offsets, .inl (cA 1, 32, .inl h_offsets))]) := by
  refine wk_X7_difference_c l D cA x xa_grids x_grids x_levelMm x_levelCount x_water x_scratch x_lines gi hi_ to g ga_units g_units ga_lengths g_lengths ga_offsets g_offsets g_step h ha_units h_units ha_lengths h_lengths ha_offsets h_offsets h_step h_x_levelCount h_gi h_hi_ h_to h_g_step h_h_step hg_gi hg_hi_ hg_to (fun (r : Int) (g_units' : (Nat → Int32)) (g_lengths' : (Nat → Int32)) (g_offsets' : (Nat → Int32)) (g_step' : Int) => r = (if (0 ≤ gi ∧ gi < 4) ∧ (0 ≤ hi_ ∧ hi_ < 4) ∧ (0 ≤ to ∧ to < 4) then f_bc g_units h_units 1280 else -1) ∧ ((0 ≤ gi ∧ gi < 4) ∧ (0 ≤ hi_ ∧ hi_ < 4) ∧ (0 ≤ to ∧ to < 4) → (∀ n : Int, 0 ≤ n → n < 1280 → z_g g_units' n = f_df g_units h_units n) ∧ g_lengths' = g_lengths ∧ g_offsets' = g_offsets ∧ g_step' = g_step) ∧ (¬ ((0 ≤ gi ∧ gi < 4) ∧ (0 ≤ hi_ ∧ hi_ < 4) ∧ (0 ≤ to ∧ to < 4)) → g_units' = g_units ∧ g_lengths' = g_lengths ∧ g_offsets' = g_offsets ∧ g_step' = g_step)) ?_
  unfold vc_X7_difference_c
  have no : ¬ ((0 ≤ gi ∧ gi < 4) ∧ (0 ≤ hi_ ∧ hi_ < 4) ∧ (0 ≤ to ∧ to < 4)) → (-1 : Int) = (if (0 ≤ gi ∧ gi < 4) ∧ (0 ≤ hi_ ∧ hi_ < 4) ∧ (0 ≤ to ∧ to < 4) then f_bc g_units h_units 1280 else -1) ∧ ((0 ≤ gi ∧ gi < 4) ∧ (0 ≤ hi_ ∧ hi_ < 4) ∧ (0 ≤ to ∧ to < 4) → (∀ n : Int, 0 ≤ n → n < 1280 → z_g g_units n = f_df g_units h_units n) ∧ g_lengths = g_lengths ∧ g_offsets = g_offsets ∧ g_step = g_step) ∧ (¬ ((0 ≤ gi ∧ gi < 4) ∧ (0 ≤ hi_ ∧ hi_ < 4) ∧ (0 ≤ to ∧ to < 4)) → g_units = g_units ∧ g_lengths = g_lengths ∧ g_offsets = g_offsets ∧ g_step = g_step) := fun h => ⟨by rw [if_neg h], fun h2 => absurd h2 h, fun _ => ⟨rfl, rfl, rfl, rfl⟩⟩
  refine ⟨fun q => ⟨fun q1 => ⟨fun q2 => ?_, fun q2 => no (fun h => q2 h.2.2)⟩, fun q1 => ⟨fun _ => no (fun h => q1 h.2.1), fun _ => no (fun h => q1 h.2.1)⟩⟩, fun q => ⟨fun _ => ⟨fun _ => no (fun h => q h.1), fun _ => no (fun h => q h.1)⟩, fun _ => ⟨fun _ => no (fun h => q h.1), fun _ => no (fun h => q h.1)⟩⟩⟩
  intro L1 hL1
  suffices H : ∀ (d k : Nat) (f : Int) (y : Nat → Int32), k + d = 1280 → f = f_bc g_units h_units k → 0 ≤ f → f ≤ k → (∀ n : Int, 0 ≤ n → n < k → z_g y n = f_df g_units h_units n) → (∀ n : Int, k ≤ n → n < 1280 → z_g y n = z_g g_units n) → L1 k f y from H 1280 0 0 _ rfl rfl (by omega) (by omega) (fun n a b => absurd b (by omega)) (fun n _ _ => rfl)
  intro d
  induction d with
  | zero =>
    intro k f y hk hf f0 f1 hy hy2
    obtain rfl : k = 1280 := by omega
    refine hL1 _ _ _ ⟨by omega, by omega⟩ ⟨by omega, by omega⟩ ⟨fun _ => ?_, fun h => absurd h (by decide)⟩
    rintro c3 c4 c5 _ ⟨rfl, rfl, rfl⟩
    exact ⟨by rw [if_pos ⟨q, q1, q2⟩]; exact hf, fun _ => ⟨fun n a b => hy n a (by omega), rfl, rfl, rfl⟩, fun h => absurd ⟨q, q1, q2⟩ h⟩
  | succ d ih =>
    intro k f y hk hf f0 f1 hy hy2
    refine hL1 _ _ _ ⟨by omega, by omega⟩ ⟨by omega, by omega⟩ ⟨fun h => absurd h (by omega), fun _ => ?_⟩
    have eo : g_at y k = g_at g_units k := g_at_eq (hy2 k (by omega) (by omega))
    have eg : g_at y k = g_at g_units k := eo
    have eh : g_at h_units k = g_at h_units k := rfl
    have es : f_bc g_units h_units (k + 1) = f_bc g_units h_units k + (if f_bt g_units h_units k = true ∧ ¬ (-8388608 ≤ g_at g_units k - g_at h_units k ∧ g_at g_units k - g_at h_units k ≤ 8388608) then 1 else 0) := rfl
    rw [← hf] at es
    rw [g_th_eq eg, g_th_eq eh, eg, eh]
    have step : ∀ v w : Int, z_in v → v = f_df g_units h_units k → w = f_bc g_units h_units (k + 1) → 0 ≤ w → w ≤ (k : Int) + 1 → L1 ((k : Int) + 1) w (z_s y k v) := by
      intro v w zv hv hw w0 w1
      refine ih (k + 1) _ _ (by omega) hw w0 (by omega) ?_ ?_
      · intro n a b
        rw [z_gs zv (by omega) a]
        by_cases e9 : n = k
        · rw [if_pos e9, e9]; exact hv
        · rw [if_neg e9]; exact hy n a (by omega)
      · intro n a b
        rw [z_gs zv (by omega) (by omega), if_neg (by omega)]; exact hy2 n (by omega) b
    have gap : ¬ f_bt g_units h_units k = true → L1 ((k : Int) + 1) f (z_s y k (-2147483648)) := by
      intro hn
      refine step _ _ ⟨by omega, by omega⟩ ?_ ?_ f0 (by omega)
      · unfold f_df; rw [if_neg (fun h => hn h.1)]
      · rw [es, if_neg (fun h => hn h.1)]; omega
    rintro r7 _ rfl
    refine ⟨fun q4 => ⟨⟨by omega, by omega⟩, ?_⟩, fun q4 => ?_⟩
    · rintro c9 rfl
      exact gap (by unfold f_bt; rw [zb_f q4, Bool.false_and]; decide)
    · rintro r10 _ rfl
      refine ⟨fun q5 => ⟨⟨by omega, by omega⟩, ?_⟩, fun q5 => ?_⟩
      · rintro c9 rfl
        exact gap (by unfold f_bt; rw [zb_f q5, Bool.and_false]; decide)
      · have hb : f_bt g_units h_units k = true := by unfold f_bt; rw [Bool.and_eq_true]; exact ⟨zb_t q4, zb_t q5⟩
        have b1 := g_ok_at hp1 (zb_t q4)
        have b2 := g_ok_at hp2 (zb_t q5)
        rintro r13 _ rfl r14 _ rfl
        refine ⟨⟨by omega, by omega⟩, ?_⟩
        rintro v15 rfl
        have far : ¬ (-8388608 ≤ g_at g_units k - g_at h_units k ∧ g_at g_units k - g_at h_units k ≤ 8388608) → L1 ((k : Int) + 1) (f + 1) (z_s y k (-2147483648)) := by
          intro hn
          refine step _ _ ⟨by omega, by omega⟩ ?_ ?_ (by omega) (by omega)
          · unfold f_df; rw [if_neg (fun h => hn h.2)]
          · rw [es, if_pos ⟨hb, hn⟩]
        refine ⟨fun q6 => ⟨⟨by omega, by omega⟩, ?_⟩, fun q6 => ⟨fun q7 => ⟨⟨by omega, by omega⟩, ?_⟩, fun q7 => ⟨⟨by omega, by omega⟩, ?_⟩⟩⟩
        · rintro c19 rfl
          exact far (by omega)
        · rintro c21 rfl
          refine step _ _ ⟨by omega, by omega⟩ ?_ ?_ f0 (by omega)
          · unfold f_df; rw [if_pos ⟨hb, q6, q7⟩]
          · rw [es, if_neg (fun h => h.2 ⟨q6, q7⟩)]; omega
        · rintro c23 rfl
          exact far (by omega)
def vc_X7_difference_d (gi : Int) (hi_ : Int) (to : Int) (g_units : Nat → Int32) (g_lengths : Nat → Int32) (g_offsets : Nat → Int32) (g_step : Int) (h_units : Nat → Int32) (h_lengths : Nat → Int32) (h_offsets : Nat → Int32) (h_step : Int) (Q : Int → (Nat → Int32) → (Nat → Int32) → (Nat → Int32) → Int → Prop) : Prop :=
((0 ≤ gi ∧ gi < 4 → ((0 ≤ hi_ ∧ hi_ < 4 → ((0 ≤ to ∧ to < 4 → (∀ L44 : Int → Int → (Nat → Int32) → Prop,
(∀ (x44_8 : Int) (x44_7 : Int) (y44_ha_units : Nat → Int32), z_in x44_8 → z_in x44_7 → ((x44_8 ≥ 1280 → (∀ (c4 : Nat → Int32) (c5 : Nat → Int32) (c6 : Int), z_in c6 → (c4 = g_lengths ∧ c5 = g_offsets ∧ c6 = g_step) → Q x44_7 y44_ha_units c4 c5 c6)) ∧
(x44_8 < 1280 → (∀ (r7 : Int), z_in r7 → (r7 = z_b (g_th g_units x44_8)) → ((r7 = 0 → (0 ≤ x44_8 ∧ x44_8 < 1280) ∧ (∀ (c9 : Nat → Int32), (c9 = z_s y44_ha_units x44_8 (-2147483648 : Int)) → L44 (x44_8 + 1) x44_7 c9)) ∧
(r7 ≠ 0 → (∀ (r10 : Int), z_in r10 → (r10 = z_b (g_th y44_ha_units x44_8)) → ((r10 = 0 → (0 ≤ x44_8 ∧ x44_8 < 1280) ∧ (∀ (c12 : Nat → Int32), (c12 = z_s y44_ha_units x44_8 (-2147483648 : Int)) → L44 (x44_8 + 1) x44_7 c12)) ∧
(r10 ≠ 0 → (∀ (r13 : Int), z_in r13 → (r13 = g_at g_units x44_8) → (∀ (r14 : Int), z_in r14 → (r14 = g_at y44_ha_units x44_8) → z_in (r13 - r14) ∧ (∀ v15 : Int, v15 = r13 - r14 → ((v15 < -8388608 → (0 ≤ x44_8 ∧ x44_8 < 1280) ∧ (∀ (c19 : Nat → Int32), (c19 = z_s y44_ha_units x44_8 (-2147483648 : Int)) → L44 (x44_8 + 1) (x44_7 + 1) c19)) ∧
(v15 ≥ -8388608 → ((v15 ≤ 8388608 → (0 ≤ x44_8 ∧ x44_8 < 1280) ∧ (∀ (c21 : Nat → Int32), (c21 = z_s y44_ha_units x44_8 v15) → L44 (x44_8 + 1) x44_7 c21)) ∧
(v15 > 8388608 → (0 ≤ x44_8 ∧ x44_8 < 1280) ∧ (∀ (c23 : Nat → Int32), (c23 = z_s y44_ha_units x44_8 (-2147483648 : Int)) → L44 (x44_8 + 1) (x44_7 + 1) c23)))))))))))))))) → L44 x44_8 x44_7 y44_ha_units) →
L44 0 0 h_units)) ∧
(¬ (0 ≤ to ∧ to < 4) → Q (-1) h_units h_lengths h_offsets h_step))) ∧
(¬ (0 ≤ hi_ ∧ hi_ < 4) → ((0 ≤ to ∧ to < 4 → Q (-1) h_units h_lengths h_offsets h_step) ∧
(¬ (0 ≤ to ∧ to < 4) → Q (-1) h_units h_lengths h_offsets h_step))))) ∧
(¬ (0 ≤ gi ∧ gi < 4) → ((0 ≤ hi_ ∧ hi_ < 4 → ((0 ≤ to ∧ to < 4 → Q (-1) h_units h_lengths h_offsets h_step) ∧
(¬ (0 ≤ to ∧ to < 4) → Q (-1) h_units h_lengths h_offsets h_step))) ∧
(¬ (0 ≤ hi_ ∧ hi_ < 4) → ((0 ≤ to ∧ to < 4 → Q (-1) h_units h_lengths h_offsets h_step) ∧
(¬ (0 ≤ to ∧ to < 4) → Q (-1) h_units h_lengths h_offsets h_step))))))
set_option maxHeartbeats 4000000 in
set_option maxRecDepth 100000 in
theorem wk_X7_difference_d (l : Launch) (D : va_G) (cA : Nat → ClassId) (x : Nat) (xa_grids : Nat) (x_grids : Nat → Option Nat) (x_levelMm : Nat) (x_levelCount : Int) (x_water : Nat) (x_scratch : Nat) (x_lines : Nat) (gi : Int) (hi_ : Int) (to : Int) (g : Nat) (ga_units : Nat) (g_units : Nat → Int32) (ga_lengths : Nat) (g_lengths : Nat → Int32) (ga_offsets : Nat) (g_offsets : Nat → Int32) (g_step : Int) (h : Nat) (ha_units : Nat) (h_units : Nat → Int32) (ha_lengths : Nat) (h_lengths : Nat → Int32) (ha_offsets : Nat) (h_offsets : Nat → Int32) (h_step : Int) (h_x_levelCount : z_in x_levelCount) (h_gi : z_in gi) (h_hi_ : z_in hi_) (h_to : z_in to) (h_g_step : z_in g_step) (h_h_step : z_in h_step) (hg_gi : 0 ≤ gi ∧ gi < 4 → x_grids gi.toNat = some g) (hg_hi_ : 0 ≤ hi_ ∧ hi_ < 4 → x_grids hi_.toNat = some h) (hg_to : 0 ≤ to ∧ to < 4 → x_grids to.toNat = some h) (Q : Int → (Nat → Int32) → (Nat → Int32) → (Nat → Int32) → Int → Prop) (hv : vc_X7_difference_d gi hi_ to g_units g_lengths g_offsets g_step h_units h_lengths h_offsets h_step Q) : Met l yX7_difference wsX7_difference ({ frames := 2, cells := 0, slots := 0, locals := 39 } : Room) (va_Pc [.ref x, .int (z_i gi), .int (z_i hi_), .int (z_i to)] (z_M0 D cA [(x, .inr (5, [.ref xa_grids, .ref x_levelMm, .int (z_i x_levelCount), .ref x_water, .ref x_scratch, .ref x_lines])), (xa_grids, .inl (cA 4, 4, .inr (.inr (.inr (.inr x_grids))))), (g, .inr (1, [.ref ga_units, .ref ga_lengths, .ref ga_offsets, .int (z_i g_step)])), (ga_units, .inl (cA 1, 1280, .inl g_units)), (ga_lengths, .inl (cA 1, 32, .inl g_lengths)), (ga_offsets, .inl (cA 1, 32, .inl g_offsets)), (h, .inr (1, [.ref ha_units, .ref ha_lengths, .ref ha_offsets, .int (z_i h_step)])), (ha_units, .inl (cA 1, 1280, .inl h_units)), (ha_lengths, .inl (cA 1, 32, .inl h_lengths)), (ha_offsets, .inl (cA 1, 32, .inl h_offsets))])) (va_Qi (z_mi (fun v (u : (Nat → Int32) × (Nat → Int32) × (Nat → Int32) × Int) => z_in u.2.2.2 ∧ Q v u.1 u.2.1 u.2.2.1 u.2.2.2)) (fun (u : (Nat → Int32) × (Nat → Int32) × (Nat → Int32) × Int) t => va_P D vwCl [(x, .inr (5, [.ref xa_grids, .ref x_levelMm, .int (z_i x_levelCount), .ref x_water, .ref x_scratch, .ref x_lines])), (xa_grids, .inl (cA 4, 4, .inr (.inr (.inr (.inr x_grids))))), (g, .inr (1, [.ref ga_units, .ref ga_lengths, .ref ga_offsets, .int (z_i g_step)])), (ga_units, .inl (cA 1, 1280, .inl g_units)), (ga_lengths, .inl (cA 1, 32, .inl g_lengths)), (ga_offsets, .inl (cA 1, 32, .inl g_offsets)), (h, .inr (1, [.ref ha_units, .ref ha_lengths, .ref ha_offsets, .int (z_i u.2.2.2)])), (ha_units, .inl (cA 1, 1280, .inl u.1)), (ha_lengths, .inl (cA 1, 32, .inl u.2.1)), (ha_offsets, .inl (cA 1, 32, .inl u.2.2.1))] t.heap) (z_A [(x, .inr (5, [.ref xa_grids, .ref x_levelMm, .int (z_i x_levelCount), .ref x_water, .ref x_scratch, .ref x_lines])), (xa_grids, .inl (cA 4, 4, .inr (.inr (.inr (.inr x_grids))))), (g, .inr (1, [.ref ga_units, .ref ga_lengths, .ref ga_offsets, .int (z_i g_step)])), (ga_units, .inl (cA 1, 1280, .inl g_units)), (ga_lengths, .inl (cA 1, 32, .inl g_lengths)), (ga_offsets, .inl (cA 1, 32, .inl g_offsets)), (h, .inr (1, [.ref ha_units, .ref ha_lengths, .ref ha_offsets, .int (z_i h_step)])), (ha_units, .inl (cA 1, 1280, .inl h_units)), (ha_lengths, .inl (cA 1, 32, .inl h_lengths)), (ha_offsets, .inl (cA 1, 32, .inl h_offsets))])) 0 0 (z_A [(x, .inr (5, [.ref xa_grids, .ref x_levelMm, .int (z_i x_levelCount), .ref x_water, .ref x_scratch, .ref x_lines])), (xa_grids, .inl (cA 4, 4, .inr (.inr (.inr (.inr x_grids))))), (g, .inr (1, [.ref ga_units, .ref ga_lengths, .ref ga_offsets, .int (z_i g_step)])), (ga_units, .inl (cA 1, 1280, .inl g_units)), (ga_lengths, .inl (cA 1, 32, .inl g_lengths)), (ga_offsets, .inl (cA 1, 32, .inl g_offsets)), (h, .inr (1, [.ref ha_units, .ref ha_lengths, .ref ha_offsets, .int (z_i h_step)])), (ha_units, .inl (cA 1, 1280, .inl h_units)), (ha_lengths, .inl (cA 1, 32, .inl h_lengths)), (ha_offsets, .inl (cA 1, 32, .inl h_offsets))]) := by
  unfold vc_X7_difference_d at hv
  refine Met.ofW (cc := cX7_difference) (maxL := 11) (ret := (some .int)) (by decide +kernel) rfl ?_
  intro p e s m args below meth c s₁ B hml hv0
  obtain ⟨rfl, hK, hP, hD0⟩ := hv0
  have hx := B.exec
  have hb := B.bytes
  have hr := B.returns
  have hts := atoms_spec (ws := wsX7_difference) B.pre
  have hown : s.vm.findClass RX7 = some m.cls := findClass_of_methodNamed B.named
  have hlocks := B.notSynchronized
  have hD := z_D_self hD0
  generalize hAe : z_A [(x, .inr (5, [.ref xa_grids, .ref x_levelMm, .int (z_i x_levelCount), .ref x_water, .ref x_scratch, .ref x_lines])), (xa_grids, .inl (cA 4, 4, .inr (.inr (.inr (.inr x_grids))))), (g, .inr (1, [.ref ga_units, .ref ga_lengths, .ref ga_offsets, .int (z_i g_step)])), (ga_units, .inl (cA 1, 1280, .inl g_units)), (ga_lengths, .inl (cA 1, 32, .inl g_lengths)), (ga_offsets, .inl (cA 1, 32, .inl g_offsets)), (h, .inr (1, [.ref ha_units, .ref ha_lengths, .ref ha_offsets, .int (z_i h_step)])), (ha_units, .inl (cA 1, 1280, .inl h_units)), (ha_lengths, .inl (cA 1, 32, .inl h_lengths)), (ha_offsets, .inl (cA 1, 32, .inl h_offsets))] = A at *
  have hS : va_S A s.heap s.heap [] := va_S.rf
  have hl := lv_entry ([.ref x, .int (z_i gi), .int (z_i hi_), .int (z_i to)]) (n := 11) (Nat.le_of_ble_eq_true rfl)
  rw [lg_entry_eq]
  generalize (lg_sl ([.ref x, .int (z_i gi), .int (z_i hi_), .int (z_i to)]) ++ List.replicate (11 - (lg_sl ([.ref x, .int (z_i gi), .int (z_i hi_), .int (z_i to)])).length) Slot.unset).toArray = ls at hl ⊢
  have hl : lv_has ls 11 [(0, .ref x), (1, .int (z_i gi)), (2, .int (z_i hi_)), (3, .int (z_i to))] := hl
  refine lv_aload_n hx hb dX7_difference_0 rfl (lv_at hl 0 rfl) ?_
  refine lv_iload_n hx hb dX7_difference_1 rfl (lv_at hl 1 rfl) ?_
  refine va_callq (va_runV (As := [.int (z_i gi)]) (rest := []) ⟨hx, hb, hml, hown, hts⟩ (mt_X7_gridOf l D cA x xa_grids x_grids x_levelMm x_levelCount x_water x_scratch x_lines gi h_x_levelCount h_gi) (cwV 1 hts gX7_difference_X7_gridOf rfl rfl rfl (by decide +kernel) ⟨Nat.le_of_ble_eq_true rfl, Nat.le_of_ble_eq_true rfl⟩) ⟨z_bl0, va_recv hK hP (ci := 5) (q0 := 0) rfl rfl, fun U hU hW => ⟨rfl, z_b0 hK (hP.sub (ws' := [(x, .inr (5, [.ref xa_grids, .ref x_levelMm, .int (z_i x_levelCount), .ref x_water, .ref x_scratch, .ref x_lines])), (xa_grids, .inl (cA 4, 4, .inr (.inr (.inr (.inr x_grids)))))]) [0, 1] rfl) hU hW⟩⟩ rfl rfl hl.1 rfl (lv_room (Nat.le_of_ble_eq_true rfl)) dX7_difference_2 ⟨Nat.zero_le _, Nat.zero_le _⟩) hS (fun q _ h => h.elim) (fun q h => h.elim) (fun r0 u t H locs ht hvm hw hB hz1 hk1 hS => ?_)
  have hq1 := hw
  have hP := z_P_all hP hk1
  by_cases hc : 0 ≤ gi ∧ gi < 4
  · have hv := hv.1 hc
    rw [hq1, if_pos hc, hg_gi hc, z_rf_s]
    refine lv_astore (lv' := [(4, .ref g), (0, .ref x), (1, .int (z_i gi)), (2, .int (z_i hi_)), (3, .int (z_i to))]) hx hb dX7_difference_5 hl (by decide) rfl (fun ls hl => ?_)
    refine lv_aload_n hx hb dX7_difference_7 rfl (lv_at hl 1 rfl) ?_
    refine lv_iload_n hx hb dX7_difference_8 rfl (lv_at hl 3 rfl) ?_
    refine va_callq (va_runV (As := [.int (z_i hi_)]) (rest := []) ⟨hx, hb, hml, hown, hts⟩ (mt_X7_gridOf l D cA x xa_grids x_grids x_levelMm x_levelCount x_water x_scratch x_lines hi_ h_x_levelCount h_hi_) (cwV 1 hts gX7_difference_X7_gridOf rfl rfl rfl (by decide +kernel) ⟨Nat.le_of_ble_eq_true rfl, Nat.le_of_ble_eq_true rfl⟩) ⟨z_bl0, va_recv hK hP (ci := 5) (q0 := 0) rfl rfl, fun U hU hW => ⟨rfl, z_b0 hK (hP.sub (ws' := [(x, .inr (5, [.ref xa_grids, .ref x_levelMm, .int (z_i x_levelCount), .ref x_water, .ref x_scratch, .ref x_lines])), (xa_grids, .inl (cA 4, 4, .inr (.inr (.inr (.inr x_grids)))))]) [0, 1] rfl) hU hW⟩⟩ rfl rfl hl.1 rfl (lv_room (Nat.le_of_ble_eq_true rfl)) dX7_difference_9 ⟨Nat.zero_le _, Nat.zero_le _⟩) hS (fun q _ h => h.elim) (fun q h => h.elim) (fun r0 u t H locs ht hvm hw hB hz1 hk1 hS => ?_)
    have hq2 := hw
    have hP := z_P_all hP hk1
    by_cases hc : 0 ≤ hi_ ∧ hi_ < 4
    · have hv := hv.1 hc
      rw [hq2, if_pos hc, hg_hi_ hc, z_rf_s]
      refine lv_astore (lv' := [(5, .ref h), (4, .ref g), (0, .ref x), (1, .int (z_i gi)), (2, .int (z_i hi_)), (3, .int (z_i to))]) hx hb dX7_difference_12 hl (by decide) rfl (fun ls hl => ?_)
      refine lv_aload_n hx hb dX7_difference_14 rfl (lv_at hl 2 rfl) ?_
      refine lv_iload_n hx hb dX7_difference_15 rfl (lv_at hl 5 rfl) ?_
      refine va_callq (va_runV (As := [.int (z_i to)]) (rest := []) ⟨hx, hb, hml, hown, hts⟩ (mt_X7_gridOf l D cA x xa_grids x_grids x_levelMm x_levelCount x_water x_scratch x_lines to h_x_levelCount h_to) (cwV 1 hts gX7_difference_X7_gridOf rfl rfl rfl (by decide +kernel) ⟨Nat.le_of_ble_eq_true rfl, Nat.le_of_ble_eq_true rfl⟩) ⟨z_bl0, va_recv hK hP (ci := 5) (q0 := 0) rfl rfl, fun U hU hW => ⟨rfl, z_b0 hK (hP.sub (ws' := [(x, .inr (5, [.ref xa_grids, .ref x_levelMm, .int (z_i x_levelCount), .ref x_water, .ref x_scratch, .ref x_lines])), (xa_grids, .inl (cA 4, 4, .inr (.inr (.inr (.inr x_grids)))))]) [0, 1] rfl) hU hW⟩⟩ rfl rfl hl.1 rfl (lv_room (Nat.le_of_ble_eq_true rfl)) dX7_difference_16 ⟨Nat.zero_le _, Nat.zero_le _⟩) hS (fun q _ h => h.elim) (fun q h => h.elim) (fun r0 u t H locs ht hvm hw hB hz1 hk1 hS => ?_)
      have hq3 := hw
      have hP := z_P_all hP hk1
      by_cases hc : 0 ≤ to ∧ to < 4
      · have hv := hv.1 hc
        rw [hq3, if_pos hc, hg_to hc, z_rf_s]
        refine lv_astore (lv' := [(6, .ref h), (5, .ref h), (4, .ref g), (0, .ref x), (1, .int (z_i gi)), (2, .int (z_i hi_)), (3, .int (z_i to))]) hx hb dX7_difference_19 hl (by decide) rfl (fun ls hl => ?_)
        refine lv_aload hx hb dX7_difference_21 (lv_at hl 2 rfl) ?_
        refine lv_ifnull hx hb dX7_difference_23 ?_
        refine lv_aload hx hb dX7_difference_26 (lv_at hl 1 rfl) ?_
        refine lv_ifnull hx hb dX7_difference_28 ?_
        refine lv_aload hx hb dX7_difference_31 (lv_at hl 0 rfl) ?_
        refine lv_ifnonnull (tgt := 38) hx hb dX7_difference_33 (by decide) ?_
        refine lv_iconst (v := z_i 0) hx hb dX7_difference_38 rfl ?_
        refine lv_istore (lv' := [(7, .int (z_i 0)), (6, .ref h), (5, .ref h), (4, .ref g), (0, .ref x), (1, .int (z_i gi)), (2, .int (z_i hi_)), (3, .int (z_i to))]) hx hb dX7_difference_39 hl (by decide) rfl (fun ls hl => ?_)
        refine lv_iconst (v := z_i 0) hx hb dX7_difference_41 rfl ?_
        refine lv_istore (lv' := [(8, .int (z_i 0)), (7, .int (z_i 0)), (6, .ref h), (5, .ref h), (4, .ref g), (0, .ref x), (1, .int (z_i gi)), (2, .int (z_i hi_)), (3, .int (z_i to))]) hx hb dX7_difference_42 hl (by decide) rfl (fun ls hl => ?_)
        refine hv (fun (x44_8 : Int) (x44_7 : Int) (y44_ha_units : Nat → Int32) => ∀ (H : Heap) (locs : List Loc) (ls : Array Slot), va_P D vwCl [(x, .inr (5, [.ref xa_grids, .ref x_levelMm, .int (z_i x_levelCount), .ref x_water, .ref x_scratch, .ref x_lines])), (xa_grids, .inl (cA 4, 4, .inr (.inr (.inr (.inr x_grids))))), (g, .inr (1, [.ref ga_units, .ref ga_lengths, .ref ga_offsets, .int (z_i g_step)])), (ga_units, .inl (cA 1, 1280, .inl g_units)), (ga_lengths, .inl (cA 1, 32, .inl g_lengths)), (ga_offsets, .inl (cA 1, 32, .inl g_offsets)), (h, .inr (1, [.ref ha_units, .ref ha_lengths, .ref ha_offsets, .int (z_i h_step)])), (ha_units, .inl (cA 1, 1280, .inl y44_ha_units)), (ha_lengths, .inl (cA 1, 32, .inl h_lengths)), (ha_offsets, .inl (cA 1, 32, .inl h_offsets))] H → va_D A [(x, .inr (5, [.ref xa_grids, .ref x_levelMm, .int (z_i x_levelCount), .ref x_water, .ref x_scratch, .ref x_lines])), (xa_grids, .inl (cA 4, 4, .inr (.inr (.inr (.inr x_grids))))), (g, .inr (1, [.ref ga_units, .ref ga_lengths, .ref ga_offsets, .int (z_i g_step)])), (ga_units, .inl (cA 1, 1280, .inl g_units)), (ga_lengths, .inl (cA 1, 32, .inl g_lengths)), (ga_offsets, .inl (cA 1, 32, .inl g_offsets)), (h, .inr (1, [.ref ha_units, .ref ha_lengths, .ref ha_offsets, .int (z_i h_step)])), (ha_units, .inl (cA 1, 1280, .inl y44_ha_units)), (ha_lengths, .inl (cA 1, 32, .inl h_lengths)), (ha_offsets, .inl (cA 1, 32, .inl h_offsets))] → va_S A s.heap H locs → lv_has ls 11 [(8, .int (z_i x44_8)), (7, .int (z_i x44_7)), (6, .ref h), (5, .ref h), (4, .ref g)] → W p l e _ s m _ below meth c H locs 0 0 _ (F0 m 44 ls [])) ?_ _ _ ls hP hD hS (lv_sub hl [0, 1, 2, 3, 4] rfl)
        intro x44_8 x44_7 y44_ha_units h_x44_8 h_x44_7 hv H locs ls hP hD hS hl
        refine lv_iload hx hb dX7_difference_44 (lv_at hl 0 rfl) ?_
        refine lv_sipush (v := z_i 1280) hx hb dX7_difference_46 (by decide) ?_
        refine lx_icmp_ge (tgt := 147) hx hb dX7_difference_49 (by decide) h_x44_8 (show z_in 1280 from ⟨by decide, by decide⟩) (fun hc => ?_) (fun hc => ?_)
        · have hv := hv.1 hc
          refine lv_aload hx hb dX7_difference_147 (lv_at hl 2 rfl) ?_
          refine lv_aload hx hb dX7_difference_149 (lv_at hl 4 rfl) ?_
          have hFc := z_fr (A := A) (wc := [(h, .inr (1, [.ref ha_units, .ref ha_lengths, .ref ha_offsets, .int (z_i h_step)])), (ha_units, .inl (cA 1, 1280, .inl y44_ha_units)), (ha_lengths, .inl (cA 1, 32, .inl h_lengths)), (ha_offsets, .inl (cA 1, 32, .inl h_offsets)), (g, .inr (1, [.ref ga_units, .ref ga_lengths, .ref ga_offsets, .int (z_i g_step)])), (ga_units, .inl (cA 1, 1280, .inl g_units)), (ga_lengths, .inl (cA 1, 32, .inl g_lengths)), (ga_offsets, .inl (cA 1, 32, .inl g_offsets))]) hD [6, 7, 8, 9, 2, 3, 4, 5] rfl
          refine va_callv (va_runV (As := [.ref g]) (rest := []) ⟨hx, hb, hml, hown, hts⟩ (mt_X2_takeShape l D cA h ha_units y44_ha_units ha_lengths h_lengths ha_offsets h_offsets h_step g ga_units g_units ga_lengths g_lengths ga_offsets g_offsets g_step h_h_step h_g_step) (cwV 1 hts gX7_difference_X2_takeShape rfl rfl rfl (by decide +kernel) ⟨Nat.le_of_ble_eq_true rfl, Nat.le_of_ble_eq_true rfl⟩) ⟨z_blm0, va_recv hK hP (ci := 1) (q0 := 6) rfl rfl, fun U hU hW => ⟨rfl, z_m0 hK (hP.sub (ws' := [(h, .inr (1, [.ref ha_units, .ref ha_lengths, .ref ha_offsets, .int (z_i h_step)])), (ha_units, .inl (cA 1, 1280, .inl y44_ha_units)), (ha_lengths, .inl (cA 1, 32, .inl h_lengths)), (ha_offsets, .inl (cA 1, 32, .inl h_offsets)), (g, .inr (1, [.ref ga_units, .ref ga_lengths, .ref ga_offsets, .int (z_i g_step)])), (ga_units, .inl (cA 1, 1280, .inl g_units)), (ga_lengths, .inl (cA 1, 32, .inl g_lengths)), (ga_offsets, .inl (cA 1, 32, .inl g_offsets))]) [6, 7, 8, 9, 2, 3, 4, 5] rfl) (hD.sub (ws' := [(h, .inr (1, [.ref ha_units, .ref ha_lengths, .ref ha_offsets, .int (z_i h_step)])), (ha_units, .inl (cA 1, 1280, .inl y44_ha_units)), (ha_lengths, .inl (cA 1, 32, .inl h_lengths)), (ha_offsets, .inl (cA 1, 32, .inl h_offsets)), (g, .inr (1, [.ref ga_units, .ref ga_lengths, .ref ga_offsets, .int (z_i g_step)])), (ga_units, .inl (cA 1, 1280, .inl g_units)), (ga_lengths, .inl (cA 1, 32, .inl g_lengths)), (ga_offsets, .inl (cA 1, 32, .inl g_offsets))]) [6, 7, 8, 9, 2, 3, 4, 5] (by decide) rfl) hU hW⟩⟩ rfl rfl hl.1 rfl (lv_room (Nat.le_of_ble_eq_true rfl)) dX7_difference_151 ⟨Nat.zero_le _, Nat.zero_le _⟩) hS (fun q _ h => hFc q h) hFc (fun u t H locs ht hvm hw hB hz1 hk1 hS => ?_)
          obtain ⟨c4, c5, c6⟩ := u
          rw [ht] at hB
          have hP := z_join2 (wc := [(h, .inr (1, [.ref ha_units, .ref ha_lengths, .ref ha_offsets, .int (z_i h_step)])), (ha_units, .inl (cA 1, 1280, .inl y44_ha_units)), (ha_lengths, .inl (cA 1, 32, .inl h_lengths)), (ha_offsets, .inl (cA 1, 32, .inl h_offsets)), (g, .inr (1, [.ref ga_units, .ref ga_lengths, .ref ga_offsets, .int (z_i g_step)])), (ga_units, .inl (cA 1, 1280, .inl g_units)), (ga_lengths, .inl (cA 1, 32, .inl g_lengths)), (ga_offsets, .inl (cA 1, 32, .inl g_offsets))]) (w1 := [(h, .inr (1, [.ref ha_units, .ref ha_lengths, .ref ha_offsets, .int (z_i c6)])), (ha_units, .inl (cA 1, 1280, .inl y44_ha_units)), (ha_lengths, .inl (cA 1, 32, .inl c4)), (ha_offsets, .inl (cA 1, 32, .inl c5)), (g, .inr (1, [.ref ga_units, .ref ga_lengths, .ref ga_offsets, .int (z_i g_step)])), (ga_units, .inl (cA 1, 1280, .inl g_units)), (ga_lengths, .inl (cA 1, 32, .inl g_lengths)), (ga_offsets, .inl (cA 1, 32, .inl g_offsets))]) hP hD [6, 7, 8, 9, 2, 3, 4, 5] [0, 0, 5, 6, 7, 8, 1, 2, 3, 4] rfl rfl rfl hk1 hB
          have hP : va_P D vwCl [(x, .inr (5, [.ref xa_grids, .ref x_levelMm, .int (z_i x_levelCount), .ref x_water, .ref x_scratch, .ref x_lines])), (xa_grids, .inl (cA 4, 4, .inr (.inr (.inr (.inr x_grids))))), (g, .inr (1, [.ref ga_units, .ref ga_lengths, .ref ga_offsets, .int (z_i g_step)])), (ga_units, .inl (cA 1, 1280, .inl g_units)), (ga_lengths, .inl (cA 1, 32, .inl g_lengths)), (ga_offsets, .inl (cA 1, 32, .inl g_offsets)), (h, .inr (1, [.ref ha_units, .ref ha_lengths, .ref ha_offsets, .int (z_i c6)])), (ha_units, .inl (cA 1, 1280, .inl y44_ha_units)), (ha_lengths, .inl (cA 1, 32, .inl c4)), (ha_offsets, .inl (cA 1, 32, .inl c5))] H := hP
          have hD : va_D A [(x, .inr (5, [.ref xa_grids, .ref x_levelMm, .int (z_i x_levelCount), .ref x_water, .ref x_scratch, .ref x_lines])), (xa_grids, .inl (cA 4, 4, .inr (.inr (.inr (.inr x_grids))))), (g, .inr (1, [.ref ga_units, .ref ga_lengths, .ref ga_offsets, .int (z_i g_step)])), (ga_units, .inl (cA 1, 1280, .inl g_units)), (ga_lengths, .inl (cA 1, 32, .inl g_lengths)), (ga_offsets, .inl (cA 1, 32, .inl g_offsets)), (h, .inr (1, [.ref ha_units, .ref ha_lengths, .ref ha_offsets, .int (z_i c6)])), (ha_units, .inl (cA 1, 1280, .inl y44_ha_units)), (ha_lengths, .inl (cA 1, 32, .inl c4)), (ha_offsets, .inl (cA 1, 32, .inl c5))] := z_D_addr hD rfl
          obtain ⟨h_c6, hw⟩ := hw
          have hv := hv c4 c5 c6 h_c6 hw
          refine lv_iload hx hb dX7_difference_154 (lv_at hl 1 rfl) ?_
          exact W.iret (v := z_i x44_7) hx hb hr (fun t ht hW => ⟨⟨z_i x44_7, (y44_ha_units, c4, c5, c6), rfl, ⟨x44_7, rfl, h_x44_7, h_c6, hv⟩, z_pt hP ht⟩, hS.F ht⟩) hS.2.2 dX7_difference_156
        · have hv := hv.2 hc
          refine lv_aload hx hb dX7_difference_52 (lv_at hl 4 rfl) ?_
          refine lv_iload hx hb dX7_difference_54 (lv_at hl 0 rfl) ?_
          refine va_calli (va_runV (As := [.int (z_i x44_8)]) (rest := []) ⟨hx, hb, hml, hown, hts⟩ (mt_X2_isThere l D cA g ga_units g_units ga_lengths g_lengths ga_offsets g_offsets g_step x44_8 h_g_step h_x44_8) (cwV 1 hts gX7_difference_X2_isThere rfl rfl rfl (by decide +kernel) ⟨Nat.le_of_ble_eq_true rfl, Nat.le_of_ble_eq_true rfl⟩) ⟨z_bl0, va_recv hK hP (ci := 1) (q0 := 2) rfl rfl, fun U hU hW => ⟨rfl, z_b0 hK (hP.sub (ws' := [(g, .inr (1, [.ref ga_units, .ref ga_lengths, .ref ga_offsets, .int (z_i g_step)])), (ga_units, .inl (cA 1, 1280, .inl g_units)), (ga_lengths, .inl (cA 1, 32, .inl g_lengths)), (ga_offsets, .inl (cA 1, 32, .inl g_offsets))]) [2, 3, 4, 5] rfl) hU hW⟩⟩ rfl rfl hl.1 rfl (lv_room (Nat.le_of_ble_eq_true rfl)) dX7_difference_56 ⟨Nat.zero_le _, Nat.zero_le _⟩) hS (fun q _ h => h.elim) (fun q h => h.elim) (fun r0 u t H locs ht hvm hw hB hz1 hk1 hS => ?_)
          obtain ⟨r7, rfl, h_r7, hw⟩ := hw
          have hP := z_P_all hP hk1
          have hv := hv r7 h_r7 hw
          refine lx_if_eq (tgt := 76) hx hb dX7_difference_59 (by decide) h_r7 (fun hc => ?_) (fun hc => ?_)
          · have hv := hv.1 hc
            refine lv_iconst (v := z_i 0) hx hb dX7_difference_76 rfl ?_
            refine lv_istore (lv' := [(9, .int (z_i 0)), (8, .int (z_i x44_8)), (7, .int (z_i x44_7)), (6, .ref h), (5, .ref h), (4, .ref g)]) hx hb dX7_difference_77 hl (by decide) rfl (fun ls hl => ?_)
            refine lv_iload hx hb dX7_difference_79 (lv_at hl 0 rfl) ?_
            refine lx_if_eq (tgt := 102) hx hb dX7_difference_81 (by decide) ⟨by decide, by decide⟩ (fun _ => ?_) (fun hc => absurd hc (by decide))
            refine lx_ldc (a := (-2147483648)) hx hb hown (hts (.constant RX7 61 (-2147483648)) (by decide +kernel)) (by decide) dX7_difference_102 ?_
            refine lv_istore (lv' := [(10, .int (z_i (-2147483648))), (9, .int (z_i 0)), (8, .int (z_i x44_8)), (7, .int (z_i x44_7)), (6, .ref h), (5, .ref h), (4, .ref g)]) hx hb dX7_difference_104 hl (by decide) rfl (fun ls hl => ?_)
            refine lv_iload hx hb dX7_difference_106 (lv_at hl 1 rfl) ?_
            refine lx_if_eq (tgt := 132) hx hb dX7_difference_108 (by decide) ⟨by decide, by decide⟩ (fun _ => ?_) (fun hc => absurd hc (by decide))
            refine lv_aload hx hb dX7_difference_132 (lv_at hl 4 rfl) ?_
            refine lv_iload hx hb dX7_difference_134 (lv_at hl 2 rfl) ?_
            refine lv_iload hx hb dX7_difference_136 (lv_at hl 0 rfl) ?_
            obtain ⟨hp8, hv⟩ := hv
            have hFc := z_fr (A := A) (wc := [(h, .inr (1, [.ref ha_units, .ref ha_lengths, .ref ha_offsets, .int (z_i h_step)])), (ha_units, .inl (cA 1, 1280, .inl y44_ha_units)), (ha_lengths, .inl (cA 1, 32, .inl h_lengths)), (ha_offsets, .inl (cA 1, 32, .inl h_offsets))]) hD [6, 7, 8, 9] rfl
            refine va_callv (va_runV (As := [.int (z_i x44_8), .int (z_i (-2147483648))]) (rest := []) ⟨hx, hb, hml, hown, hts⟩ (mt_X2_put l D cA h ha_units y44_ha_units ha_lengths h_lengths ha_offsets h_offsets h_step x44_8 (-2147483648) h_h_step h_x44_8 (show z_in (-2147483648) from ⟨by decide, by decide⟩) hp8) (cwV 2 hts gX7_difference_X2_put rfl rfl rfl (by decide +kernel) ⟨Nat.le_of_ble_eq_true rfl, Nat.le_of_ble_eq_true rfl⟩) ⟨z_blm0, va_recv hK hP (ci := 1) (q0 := 6) rfl rfl, fun U hU hW => ⟨rfl, z_m0 hK (hP.sub (ws' := [(h, .inr (1, [.ref ha_units, .ref ha_lengths, .ref ha_offsets, .int (z_i h_step)])), (ha_units, .inl (cA 1, 1280, .inl y44_ha_units)), (ha_lengths, .inl (cA 1, 32, .inl h_lengths)), (ha_offsets, .inl (cA 1, 32, .inl h_offsets))]) [6, 7, 8, 9] rfl) (hD.sub (ws' := [(h, .inr (1, [.ref ha_units, .ref ha_lengths, .ref ha_offsets, .int (z_i h_step)])), (ha_units, .inl (cA 1, 1280, .inl y44_ha_units)), (ha_lengths, .inl (cA 1, 32, .inl h_lengths)), (ha_offsets, .inl (cA 1, 32, .inl h_offsets))]) [6, 7, 8, 9] (by decide) rfl) hU hW⟩⟩ rfl rfl hl.1 rfl (lv_room (Nat.le_of_ble_eq_true rfl)) dX7_difference_138 ⟨Nat.zero_le _, Nat.zero_le _⟩) hS (fun q _ h => hFc q h) hFc (fun u t H locs ht hvm hw hB hz1 hk1 hS => ?_)
            obtain ⟨c9, rfl⟩ : ∃ z, z = u := ⟨_, rfl⟩
            rw [ht] at hB
            have hP := z_join2 (wc := [(h, .inr (1, [.ref ha_units, .ref ha_lengths, .ref ha_offsets, .int (z_i h_step)])), (ha_units, .inl (cA 1, 1280, .inl y44_ha_units)), (ha_lengths, .inl (cA 1, 32, .inl h_lengths)), (ha_offsets, .inl (cA 1, 32, .inl h_offsets))]) (w1 := [(h, .inr (1, [.ref ha_units, .ref ha_lengths, .ref ha_offsets, .int (z_i h_step)])), (ha_units, .inl (cA 1, 1280, .inl c9)), (ha_lengths, .inl (cA 1, 32, .inl h_lengths)), (ha_offsets, .inl (cA 1, 32, .inl h_offsets))]) hP hD [6, 7, 8, 9] [0, 0, 0, 0, 0, 0, 1, 2, 3, 4] rfl rfl rfl hk1 hB
            have hP : va_P D vwCl [(x, .inr (5, [.ref xa_grids, .ref x_levelMm, .int (z_i x_levelCount), .ref x_water, .ref x_scratch, .ref x_lines])), (xa_grids, .inl (cA 4, 4, .inr (.inr (.inr (.inr x_grids))))), (g, .inr (1, [.ref ga_units, .ref ga_lengths, .ref ga_offsets, .int (z_i g_step)])), (ga_units, .inl (cA 1, 1280, .inl g_units)), (ga_lengths, .inl (cA 1, 32, .inl g_lengths)), (ga_offsets, .inl (cA 1, 32, .inl g_offsets)), (h, .inr (1, [.ref ha_units, .ref ha_lengths, .ref ha_offsets, .int (z_i h_step)])), (ha_units, .inl (cA 1, 1280, .inl c9)), (ha_lengths, .inl (cA 1, 32, .inl h_lengths)), (ha_offsets, .inl (cA 1, 32, .inl h_offsets))] H := hP
            have hD : va_D A [(x, .inr (5, [.ref xa_grids, .ref x_levelMm, .int (z_i x_levelCount), .ref x_water, .ref x_scratch, .ref x_lines])), (xa_grids, .inl (cA 4, 4, .inr (.inr (.inr (.inr x_grids))))), (g, .inr (1, [.ref ga_units, .ref ga_lengths, .ref ga_offsets, .int (z_i g_step)])), (ga_units, .inl (cA 1, 1280, .inl g_units)), (ga_lengths, .inl (cA 1, 32, .inl g_lengths)), (ga_offsets, .inl (cA 1, 32, .inl g_offsets)), (h, .inr (1, [.ref ha_units, .ref ha_lengths, .ref ha_offsets, .int (z_i h_step)])), (ha_units, .inl (cA 1, 1280, .inl c9)), (ha_lengths, .inl (cA 1, 32, .inl h_lengths)), (ha_offsets, .inl (cA 1, 32, .inl h_offsets))] := z_D_addr hD rfl
            have hv := hv c9 hw
            refine lv_iinc (v := z_i (x44_8 + 1)) (lv' := [(8, .int (z_i (x44_8 + 1))), (10, .int (z_i (-2147483648))), (9, .int (z_i 0)), (7, .int (z_i x44_7)), (6, .ref h), (5, .ref h), (4, .ref g)]) hx hb dX7_difference_141 hl (k := 2) rfl (z_i_add _ _) (by decide) rfl (fun ls hl => ?_)
            refine lv_goto (tgt := 44) hx hb dX7_difference_144 (by decide) ?_
            exact hv _ _ ls hP hD hS (lv_sub hl [0, 3, 4, 5, 6] rfl)
          · have hv := hv.2 hc
            refine lv_aload hx hb dX7_difference_62 (lv_at hl 3 rfl) ?_
            refine lv_iload hx hb dX7_difference_64 (lv_at hl 0 rfl) ?_
            refine va_calli (va_runV (As := [.int (z_i x44_8)]) (rest := []) ⟨hx, hb, hml, hown, hts⟩ (mt_X2_isThere l D cA h ha_units y44_ha_units ha_lengths h_lengths ha_offsets h_offsets h_step x44_8 h_h_step h_x44_8) (cwV 1 hts gX7_difference_X2_isThere rfl rfl rfl (by decide +kernel) ⟨Nat.le_of_ble_eq_true rfl, Nat.le_of_ble_eq_true rfl⟩) ⟨z_bl0, va_recv hK hP (ci := 1) (q0 := 6) rfl rfl, fun U hU hW => ⟨rfl, z_b0 hK (hP.sub (ws' := [(h, .inr (1, [.ref ha_units, .ref ha_lengths, .ref ha_offsets, .int (z_i h_step)])), (ha_units, .inl (cA 1, 1280, .inl y44_ha_units)), (ha_lengths, .inl (cA 1, 32, .inl h_lengths)), (ha_offsets, .inl (cA 1, 32, .inl h_offsets))]) [6, 7, 8, 9] rfl) hU hW⟩⟩ rfl rfl hl.1 rfl (lv_room (Nat.le_of_ble_eq_true rfl)) dX7_difference_66 ⟨Nat.zero_le _, Nat.zero_le _⟩) hS (fun q _ h => h.elim) (fun q h => h.elim) (fun r0 u t H locs ht hvm hw hB hz1 hk1 hS => ?_)
            obtain ⟨r10, rfl, h_r10, hw⟩ := hw
            have hP := z_P_all hP hk1
            have hv := hv r10 h_r10 hw
            refine lx_if_eq (tgt := 76) hx hb dX7_difference_69 (by decide) h_r10 (fun hc => ?_) (fun hc => ?_)
            · have hv := hv.1 hc
              refine lv_iconst (v := z_i 0) hx hb dX7_difference_76 rfl ?_
              refine lv_istore (lv' := [(9, .int (z_i 0)), (8, .int (z_i x44_8)), (7, .int (z_i x44_7)), (6, .ref h), (5, .ref h), (4, .ref g)]) hx hb dX7_difference_77 hl (by decide) rfl (fun ls hl => ?_)
              refine lv_iload hx hb dX7_difference_79 (lv_at hl 0 rfl) ?_
              refine lx_if_eq (tgt := 102) hx hb dX7_difference_81 (by decide) ⟨by decide, by decide⟩ (fun _ => ?_) (fun hc => absurd hc (by decide))
              refine lx_ldc (a := (-2147483648)) hx hb hown (hts (.constant RX7 61 (-2147483648)) (by decide +kernel)) (by decide) dX7_difference_102 ?_
              refine lv_istore (lv' := [(10, .int (z_i (-2147483648))), (9, .int (z_i 0)), (8, .int (z_i x44_8)), (7, .int (z_i x44_7)), (6, .ref h), (5, .ref h), (4, .ref g)]) hx hb dX7_difference_104 hl (by decide) rfl (fun ls hl => ?_)
              refine lv_iload hx hb dX7_difference_106 (lv_at hl 1 rfl) ?_
              refine lx_if_eq (tgt := 132) hx hb dX7_difference_108 (by decide) ⟨by decide, by decide⟩ (fun _ => ?_) (fun hc => absurd hc (by decide))
              refine lv_aload hx hb dX7_difference_132 (lv_at hl 4 rfl) ?_
              refine lv_iload hx hb dX7_difference_134 (lv_at hl 2 rfl) ?_
              refine lv_iload hx hb dX7_difference_136 (lv_at hl 0 rfl) ?_
              obtain ⟨hp11, hv⟩ := hv
              have hFc := z_fr (A := A) (wc := [(h, .inr (1, [.ref ha_units, .ref ha_lengths, .ref ha_offsets, .int (z_i h_step)])), (ha_units, .inl (cA 1, 1280, .inl y44_ha_units)), (ha_lengths, .inl (cA 1, 32, .inl h_lengths)), (ha_offsets, .inl (cA 1, 32, .inl h_offsets))]) hD [6, 7, 8, 9] rfl
              refine va_callv (va_runV (As := [.int (z_i x44_8), .int (z_i (-2147483648))]) (rest := []) ⟨hx, hb, hml, hown, hts⟩ (mt_X2_put l D cA h ha_units y44_ha_units ha_lengths h_lengths ha_offsets h_offsets h_step x44_8 (-2147483648) h_h_step h_x44_8 (show z_in (-2147483648) from ⟨by decide, by decide⟩) hp11) (cwV 2 hts gX7_difference_X2_put rfl rfl rfl (by decide +kernel) ⟨Nat.le_of_ble_eq_true rfl, Nat.le_of_ble_eq_true rfl⟩) ⟨z_blm0, va_recv hK hP (ci := 1) (q0 := 6) rfl rfl, fun U hU hW => ⟨rfl, z_m0 hK (hP.sub (ws' := [(h, .inr (1, [.ref ha_units, .ref ha_lengths, .ref ha_offsets, .int (z_i h_step)])), (ha_units, .inl (cA 1, 1280, .inl y44_ha_units)), (ha_lengths, .inl (cA 1, 32, .inl h_lengths)), (ha_offsets, .inl (cA 1, 32, .inl h_offsets))]) [6, 7, 8, 9] rfl) (hD.sub (ws' := [(h, .inr (1, [.ref ha_units, .ref ha_lengths, .ref ha_offsets, .int (z_i h_step)])), (ha_units, .inl (cA 1, 1280, .inl y44_ha_units)), (ha_lengths, .inl (cA 1, 32, .inl h_lengths)), (ha_offsets, .inl (cA 1, 32, .inl h_offsets))]) [6, 7, 8, 9] (by decide) rfl) hU hW⟩⟩ rfl rfl hl.1 rfl (lv_room (Nat.le_of_ble_eq_true rfl)) dX7_difference_138 ⟨Nat.zero_le _, Nat.zero_le _⟩) hS (fun q _ h => hFc q h) hFc (fun u t H locs ht hvm hw hB hz1 hk1 hS => ?_)
              obtain ⟨c12, rfl⟩ : ∃ z, z = u := ⟨_, rfl⟩
              rw [ht] at hB
              have hP := z_join2 (wc := [(h, .inr (1, [.ref ha_units, .ref ha_lengths, .ref ha_offsets, .int (z_i h_step)])), (ha_units, .inl (cA 1, 1280, .inl y44_ha_units)), (ha_lengths, .inl (cA 1, 32, .inl h_lengths)), (ha_offsets, .inl (cA 1, 32, .inl h_offsets))]) (w1 := [(h, .inr (1, [.ref ha_units, .ref ha_lengths, .ref ha_offsets, .int (z_i h_step)])), (ha_units, .inl (cA 1, 1280, .inl c12)), (ha_lengths, .inl (cA 1, 32, .inl h_lengths)), (ha_offsets, .inl (cA 1, 32, .inl h_offsets))]) hP hD [6, 7, 8, 9] [0, 0, 0, 0, 0, 0, 1, 2, 3, 4] rfl rfl rfl hk1 hB
              have hP : va_P D vwCl [(x, .inr (5, [.ref xa_grids, .ref x_levelMm, .int (z_i x_levelCount), .ref x_water, .ref x_scratch, .ref x_lines])), (xa_grids, .inl (cA 4, 4, .inr (.inr (.inr (.inr x_grids))))), (g, .inr (1, [.ref ga_units, .ref ga_lengths, .ref ga_offsets, .int (z_i g_step)])), (ga_units, .inl (cA 1, 1280, .inl g_units)), (ga_lengths, .inl (cA 1, 32, .inl g_lengths)), (ga_offsets, .inl (cA 1, 32, .inl g_offsets)), (h, .inr (1, [.ref ha_units, .ref ha_lengths, .ref ha_offsets, .int (z_i h_step)])), (ha_units, .inl (cA 1, 1280, .inl c12)), (ha_lengths, .inl (cA 1, 32, .inl h_lengths)), (ha_offsets, .inl (cA 1, 32, .inl h_offsets))] H := hP
              have hD : va_D A [(x, .inr (5, [.ref xa_grids, .ref x_levelMm, .int (z_i x_levelCount), .ref x_water, .ref x_scratch, .ref x_lines])), (xa_grids, .inl (cA 4, 4, .inr (.inr (.inr (.inr x_grids))))), (g, .inr (1, [.ref ga_units, .ref ga_lengths, .ref ga_offsets, .int (z_i g_step)])), (ga_units, .inl (cA 1, 1280, .inl g_units)), (ga_lengths, .inl (cA 1, 32, .inl g_lengths)), (ga_offsets, .inl (cA 1, 32, .inl g_offsets)), (h, .inr (1, [.ref ha_units, .ref ha_lengths, .ref ha_offsets, .int (z_i h_step)])), (ha_units, .inl (cA 1, 1280, .inl c12)), (ha_lengths, .inl (cA 1, 32, .inl h_lengths)), (ha_offsets, .inl (cA 1, 32, .inl h_offsets))] := z_D_addr hD rfl
              have hv := hv c12 hw
              refine lv_iinc (v := z_i (x44_8 + 1)) (lv' := [(8, .int (z_i (x44_8 + 1))), (10, .int (z_i (-2147483648))), (9, .int (z_i 0)), (7, .int (z_i x44_7)), (6, .ref h), (5, .ref h), (4, .ref g)]) hx hb dX7_difference_141 hl (k := 2) rfl (z_i_add _ _) (by decide) rfl (fun ls hl => ?_)
              refine lv_goto (tgt := 44) hx hb dX7_difference_144 (by decide) ?_
              exact hv _ _ ls hP hD hS (lv_sub hl [0, 3, 4, 5, 6] rfl)
            · have hv := hv.2 hc
              refine lv_iconst (v := z_i 1) hx hb dX7_difference_72 rfl ?_
              refine lv_goto (tgt := 77) hx hb dX7_difference_73 (by decide) ?_
              refine lv_istore (lv' := [(9, .int (z_i 1)), (8, .int (z_i x44_8)), (7, .int (z_i x44_7)), (6, .ref h), (5, .ref h), (4, .ref g)]) hx hb dX7_difference_77 hl (by decide) rfl (fun ls hl => ?_)
              refine lv_iload hx hb dX7_difference_79 (lv_at hl 0 rfl) ?_
              refine lx_if_eq (tgt := 102) hx hb dX7_difference_81 (by decide) ⟨by decide, by decide⟩ (fun hc => absurd hc (by decide)) (fun _ => ?_)
              refine lv_aload hx hb dX7_difference_84 (lv_at hl 5 rfl) ?_
              refine lv_iload hx hb dX7_difference_86 (lv_at hl 1 rfl) ?_
              refine va_calli (va_runV (As := [.int (z_i x44_8)]) (rest := []) ⟨hx, hb, hml, hown, hts⟩ (mt_X2_unitsOf l D cA g ga_units g_units ga_lengths g_lengths ga_offsets g_offsets g_step x44_8 h_g_step h_x44_8) (cwV 1 hts gX7_difference_X2_unitsOf rfl rfl rfl (by decide +kernel) ⟨Nat.le_of_ble_eq_true rfl, Nat.le_of_ble_eq_true rfl⟩) ⟨z_bl0, va_recv hK hP (ci := 1) (q0 := 2) rfl rfl, fun U hU hW => ⟨rfl, z_b0 hK (hP.sub (ws' := [(g, .inr (1, [.ref ga_units, .ref ga_lengths, .ref ga_offsets, .int (z_i g_step)])), (ga_units, .inl (cA 1, 1280, .inl g_units)), (ga_lengths, .inl (cA 1, 32, .inl g_lengths)), (ga_offsets, .inl (cA 1, 32, .inl g_offsets))]) [2, 3, 4, 5] rfl) hU hW⟩⟩ rfl rfl hl.1 rfl (lv_room (Nat.le_of_ble_eq_true rfl)) dX7_difference_88 ⟨Nat.zero_le _, Nat.zero_le _⟩) hS (fun q _ h => h.elim) (fun q h => h.elim) (fun r0 u t H locs ht hvm hw hB hz1 hk1 hS => ?_)
              obtain ⟨r13, rfl, h_r13, hw⟩ := hw
              have hP := z_P_all hP hk1
              have hv := hv r13 h_r13 hw
              refine lv_aload hx hb dX7_difference_91 (lv_at hl 4 rfl) ?_
              refine lv_iload hx hb dX7_difference_93 (lv_at hl 1 rfl) ?_
              refine va_calli (va_runV (As := [.int (z_i x44_8)]) (rest := [.int (z_i r13)]) ⟨hx, hb, hml, hown, hts⟩ (mt_X2_unitsOf l D cA h ha_units y44_ha_units ha_lengths h_lengths ha_offsets h_offsets h_step x44_8 h_h_step h_x44_8) (cwV 1 hts gX7_difference_X2_unitsOf rfl rfl rfl (by decide +kernel) ⟨Nat.le_of_ble_eq_true rfl, Nat.le_of_ble_eq_true rfl⟩) ⟨z_bl0, va_recv hK hP (ci := 1) (q0 := 6) rfl rfl, fun U hU hW => ⟨rfl, z_b0 hK (hP.sub (ws' := [(h, .inr (1, [.ref ha_units, .ref ha_lengths, .ref ha_offsets, .int (z_i h_step)])), (ha_units, .inl (cA 1, 1280, .inl y44_ha_units)), (ha_lengths, .inl (cA 1, 32, .inl h_lengths)), (ha_offsets, .inl (cA 1, 32, .inl h_offsets))]) [6, 7, 8, 9] rfl) hU hW⟩⟩ rfl rfl hl.1 rfl (lv_room (Nat.le_of_ble_eq_true rfl)) dX7_difference_95 ⟨Nat.zero_le _, Nat.zero_le _⟩) hS (fun q _ h => h.elim) (fun q h => h.elim) (fun r0 u t H locs ht hvm hw hB hz1 hk1 hS => ?_)
              obtain ⟨r14, rfl, h_r14, hw⟩ := hw
              have hP := z_P_all hP hk1
              have hv := hv r14 h_r14 hw
              refine lx_isub hx hb dX7_difference_98 ?_
              refine lv_goto (tgt := 104) hx hb dX7_difference_99 (by decide) ?_
              obtain ⟨hr16, hv⟩ := hv
              refine lx_topi (fun v15 hy17 => ?_)
              have hv := hv v15 hy17
              have h_v15 : z_in v15 := by rw [hy17]; exact hr16
              refine lv_istore (lv' := [(10, .int (z_i v15)), (9, .int (z_i 1)), (8, .int (z_i x44_8)), (7, .int (z_i x44_7)), (6, .ref h), (5, .ref h), (4, .ref g)]) hx hb dX7_difference_104 hl (by decide) rfl (fun ls hl => ?_)
              refine lv_iload hx hb dX7_difference_106 (lv_at hl 1 rfl) ?_
              refine lx_if_eq (tgt := 132) hx hb dX7_difference_108 (by decide) ⟨by decide, by decide⟩ (fun hc => absurd hc (by decide)) (fun _ => ?_)
              refine lv_iload hx hb dX7_difference_111 (lv_at hl 0 rfl) ?_
              refine lx_ldc (a := (-8388608)) hx hb hown (hts (.constant RX7 180 (-8388608)) (by decide +kernel)) (by decide) dX7_difference_113 ?_
              refine lx_icmp_lt (tgt := 125) hx hb dX7_difference_115 (by decide) h_v15 (show z_in (-8388608) from ⟨by decide, by decide⟩) (fun hc => ?_) (fun hc => ?_)
              · have hv := hv.1 hc
                refine lv_iinc (v := z_i (x44_7 + 1)) (lv' := [(7, .int (z_i (x44_7 + 1))), (10, .int (z_i v15)), (9, .int (z_i 1)), (8, .int (z_i x44_8)), (6, .ref h), (5, .ref h), (4, .ref g)]) hx hb dX7_difference_125 hl (k := 3) rfl (z_i_add _ _) (by decide) rfl (fun ls hl => ?_)
                refine lx_ldc (a := (-2147483648)) hx hb hown (hts (.constant RX7 61 (-2147483648)) (by decide +kernel)) (by decide) dX7_difference_128 ?_
                refine lv_istore (lv' := [(10, .int (z_i (-2147483648))), (7, .int (z_i (x44_7 + 1))), (9, .int (z_i 1)), (8, .int (z_i x44_8)), (6, .ref h), (5, .ref h), (4, .ref g)]) hx hb dX7_difference_130 hl (by decide) rfl (fun ls hl => ?_)
                refine lv_aload hx hb dX7_difference_132 (lv_at hl 4 rfl) ?_
                refine lv_iload hx hb dX7_difference_134 (lv_at hl 3 rfl) ?_
                refine lv_iload hx hb dX7_difference_136 (lv_at hl 0 rfl) ?_
                obtain ⟨hp18, hv⟩ := hv
                have hFc := z_fr (A := A) (wc := [(h, .inr (1, [.ref ha_units, .ref ha_lengths, .ref ha_offsets, .int (z_i h_step)])), (ha_units, .inl (cA 1, 1280, .inl y44_ha_units)), (ha_lengths, .inl (cA 1, 32, .inl h_lengths)), (ha_offsets, .inl (cA 1, 32, .inl h_offsets))]) hD [6, 7, 8, 9] rfl
                refine va_callv (va_runV (As := [.int (z_i x44_8), .int (z_i (-2147483648))]) (rest := []) ⟨hx, hb, hml, hown, hts⟩ (mt_X2_put l D cA h ha_units y44_ha_units ha_lengths h_lengths ha_offsets h_offsets h_step x44_8 (-2147483648) h_h_step h_x44_8 (show z_in (-2147483648) from ⟨by decide, by decide⟩) hp18) (cwV 2 hts gX7_difference_X2_put rfl rfl rfl (by decide +kernel) ⟨Nat.le_of_ble_eq_true rfl, Nat.le_of_ble_eq_true rfl⟩) ⟨z_blm0, va_recv hK hP (ci := 1) (q0 := 6) rfl rfl, fun U hU hW => ⟨rfl, z_m0 hK (hP.sub (ws' := [(h, .inr (1, [.ref ha_units, .ref ha_lengths, .ref ha_offsets, .int (z_i h_step)])), (ha_units, .inl (cA 1, 1280, .inl y44_ha_units)), (ha_lengths, .inl (cA 1, 32, .inl h_lengths)), (ha_offsets, .inl (cA 1, 32, .inl h_offsets))]) [6, 7, 8, 9] rfl) (hD.sub (ws' := [(h, .inr (1, [.ref ha_units, .ref ha_lengths, .ref ha_offsets, .int (z_i h_step)])), (ha_units, .inl (cA 1, 1280, .inl y44_ha_units)), (ha_lengths, .inl (cA 1, 32, .inl h_lengths)), (ha_offsets, .inl (cA 1, 32, .inl h_offsets))]) [6, 7, 8, 9] (by decide) rfl) hU hW⟩⟩ rfl rfl hl.1 rfl (lv_room (Nat.le_of_ble_eq_true rfl)) dX7_difference_138 ⟨Nat.zero_le _, Nat.zero_le _⟩) hS (fun q _ h => hFc q h) hFc (fun u t H locs ht hvm hw hB hz1 hk1 hS => ?_)
                obtain ⟨c19, rfl⟩ : ∃ z, z = u := ⟨_, rfl⟩
                rw [ht] at hB
                have hP := z_join2 (wc := [(h, .inr (1, [.ref ha_units, .ref ha_lengths, .ref ha_offsets, .int (z_i h_step)])), (ha_units, .inl (cA 1, 1280, .inl y44_ha_units)), (ha_lengths, .inl (cA 1, 32, .inl h_lengths)), (ha_offsets, .inl (cA 1, 32, .inl h_offsets))]) (w1 := [(h, .inr (1, [.ref ha_units, .ref ha_lengths, .ref ha_offsets, .int (z_i h_step)])), (ha_units, .inl (cA 1, 1280, .inl c19)), (ha_lengths, .inl (cA 1, 32, .inl h_lengths)), (ha_offsets, .inl (cA 1, 32, .inl h_offsets))]) hP hD [6, 7, 8, 9] [0, 0, 0, 0, 0, 0, 1, 2, 3, 4] rfl rfl rfl hk1 hB
                have hP : va_P D vwCl [(x, .inr (5, [.ref xa_grids, .ref x_levelMm, .int (z_i x_levelCount), .ref x_water, .ref x_scratch, .ref x_lines])), (xa_grids, .inl (cA 4, 4, .inr (.inr (.inr (.inr x_grids))))), (g, .inr (1, [.ref ga_units, .ref ga_lengths, .ref ga_offsets, .int (z_i g_step)])), (ga_units, .inl (cA 1, 1280, .inl g_units)), (ga_lengths, .inl (cA 1, 32, .inl g_lengths)), (ga_offsets, .inl (cA 1, 32, .inl g_offsets)), (h, .inr (1, [.ref ha_units, .ref ha_lengths, .ref ha_offsets, .int (z_i h_step)])), (ha_units, .inl (cA 1, 1280, .inl c19)), (ha_lengths, .inl (cA 1, 32, .inl h_lengths)), (ha_offsets, .inl (cA 1, 32, .inl h_offsets))] H := hP
                have hD : va_D A [(x, .inr (5, [.ref xa_grids, .ref x_levelMm, .int (z_i x_levelCount), .ref x_water, .ref x_scratch, .ref x_lines])), (xa_grids, .inl (cA 4, 4, .inr (.inr (.inr (.inr x_grids))))), (g, .inr (1, [.ref ga_units, .ref ga_lengths, .ref ga_offsets, .int (z_i g_step)])), (ga_units, .inl (cA 1, 1280, .inl g_units)), (ga_lengths, .inl (cA 1, 32, .inl g_lengths)), (ga_offsets, .inl (cA 1, 32, .inl g_offsets)), (h, .inr (1, [.ref ha_units, .ref ha_lengths, .ref ha_offsets, .int (z_i h_step)])), (ha_units, .inl (cA 1, 1280, .inl c19)), (ha_lengths, .inl (cA 1, 32, .inl h_lengths)), (ha_offsets, .inl (cA 1, 32, .inl h_offsets))] := z_D_addr hD rfl
                have hv := hv c19 hw
                refine lv_iinc (v := z_i (x44_8 + 1)) (lv' := [(8, .int (z_i (x44_8 + 1))), (10, .int (z_i (-2147483648))), (7, .int (z_i (x44_7 + 1))), (9, .int (z_i 1)), (6, .ref h), (5, .ref h), (4, .ref g)]) hx hb dX7_difference_141 hl (k := 3) rfl (z_i_add _ _) (by decide) rfl (fun ls hl => ?_)
                refine lv_goto (tgt := 44) hx hb dX7_difference_144 (by decide) ?_
                exact hv _ _ ls hP hD hS (lv_sub hl [0, 2, 4, 5, 6] rfl)
              · have hv := hv.2 hc
                refine lv_iload hx hb dX7_difference_118 (lv_at hl 0 rfl) ?_
                refine lx_ldc (a := 8388608) hx hb hown (hts (.constant RX7 181 (8388608)) (by decide +kernel)) (by decide) dX7_difference_120 ?_
                refine lx_icmp_le (tgt := 132) hx hb dX7_difference_122 (by decide) h_v15 (show z_in 8388608 from ⟨by decide, by decide⟩) (fun hc => ?_) (fun hc => ?_)
                · have hv := hv.1 hc
                  refine lv_aload hx hb dX7_difference_132 (lv_at hl 4 rfl) ?_
                  refine lv_iload hx hb dX7_difference_134 (lv_at hl 2 rfl) ?_
                  refine lv_iload hx hb dX7_difference_136 (lv_at hl 0 rfl) ?_
                  obtain ⟨hp20, hv⟩ := hv
                  have hFc := z_fr (A := A) (wc := [(h, .inr (1, [.ref ha_units, .ref ha_lengths, .ref ha_offsets, .int (z_i h_step)])), (ha_units, .inl (cA 1, 1280, .inl y44_ha_units)), (ha_lengths, .inl (cA 1, 32, .inl h_lengths)), (ha_offsets, .inl (cA 1, 32, .inl h_offsets))]) hD [6, 7, 8, 9] rfl
                  refine va_callv (va_runV (As := [.int (z_i x44_8), .int (z_i v15)]) (rest := []) ⟨hx, hb, hml, hown, hts⟩ (mt_X2_put l D cA h ha_units y44_ha_units ha_lengths h_lengths ha_offsets h_offsets h_step x44_8 v15 h_h_step h_x44_8 h_v15 hp20) (cwV 2 hts gX7_difference_X2_put rfl rfl rfl (by decide +kernel) ⟨Nat.le_of_ble_eq_true rfl, Nat.le_of_ble_eq_true rfl⟩) ⟨z_blm0, va_recv hK hP (ci := 1) (q0 := 6) rfl rfl, fun U hU hW => ⟨rfl, z_m0 hK (hP.sub (ws' := [(h, .inr (1, [.ref ha_units, .ref ha_lengths, .ref ha_offsets, .int (z_i h_step)])), (ha_units, .inl (cA 1, 1280, .inl y44_ha_units)), (ha_lengths, .inl (cA 1, 32, .inl h_lengths)), (ha_offsets, .inl (cA 1, 32, .inl h_offsets))]) [6, 7, 8, 9] rfl) (hD.sub (ws' := [(h, .inr (1, [.ref ha_units, .ref ha_lengths, .ref ha_offsets, .int (z_i h_step)])), (ha_units, .inl (cA 1, 1280, .inl y44_ha_units)), (ha_lengths, .inl (cA 1, 32, .inl h_lengths)), (ha_offsets, .inl (cA 1, 32, .inl h_offsets))]) [6, 7, 8, 9] (by decide) rfl) hU hW⟩⟩ rfl rfl hl.1 rfl (lv_room (Nat.le_of_ble_eq_true rfl)) dX7_difference_138 ⟨Nat.zero_le _, Nat.zero_le _⟩) hS (fun q _ h => hFc q h) hFc (fun u t H locs ht hvm hw hB hz1 hk1 hS => ?_)
                  obtain ⟨c21, rfl⟩ : ∃ z, z = u := ⟨_, rfl⟩
                  rw [ht] at hB
                  have hP := z_join2 (wc := [(h, .inr (1, [.ref ha_units, .ref ha_lengths, .ref ha_offsets, .int (z_i h_step)])), (ha_units, .inl (cA 1, 1280, .inl y44_ha_units)), (ha_lengths, .inl (cA 1, 32, .inl h_lengths)), (ha_offsets, .inl (cA 1, 32, .inl h_offsets))]) (w1 := [(h, .inr (1, [.ref ha_units, .ref ha_lengths, .ref ha_offsets, .int (z_i h_step)])), (ha_units, .inl (cA 1, 1280, .inl c21)), (ha_lengths, .inl (cA 1, 32, .inl h_lengths)), (ha_offsets, .inl (cA 1, 32, .inl h_offsets))]) hP hD [6, 7, 8, 9] [0, 0, 0, 0, 0, 0, 1, 2, 3, 4] rfl rfl rfl hk1 hB
                  have hP : va_P D vwCl [(x, .inr (5, [.ref xa_grids, .ref x_levelMm, .int (z_i x_levelCount), .ref x_water, .ref x_scratch, .ref x_lines])), (xa_grids, .inl (cA 4, 4, .inr (.inr (.inr (.inr x_grids))))), (g, .inr (1, [.ref ga_units, .ref ga_lengths, .ref ga_offsets, .int (z_i g_step)])), (ga_units, .inl (cA 1, 1280, .inl g_units)), (ga_lengths, .inl (cA 1, 32, .inl g_lengths)), (ga_offsets, .inl (cA 1, 32, .inl g_offsets)), (h, .inr (1, [.ref ha_units, .ref ha_lengths, .ref ha_offsets, .int (z_i h_step)])), (ha_units, .inl (cA 1, 1280, .inl c21)), (ha_lengths, .inl (cA 1, 32, .inl h_lengths)), (ha_offsets, .inl (cA 1, 32, .inl h_offsets))] H := hP
                  have hD : va_D A [(x, .inr (5, [.ref xa_grids, .ref x_levelMm, .int (z_i x_levelCount), .ref x_water, .ref x_scratch, .ref x_lines])), (xa_grids, .inl (cA 4, 4, .inr (.inr (.inr (.inr x_grids))))), (g, .inr (1, [.ref ga_units, .ref ga_lengths, .ref ga_offsets, .int (z_i g_step)])), (ga_units, .inl (cA 1, 1280, .inl g_units)), (ga_lengths, .inl (cA 1, 32, .inl g_lengths)), (ga_offsets, .inl (cA 1, 32, .inl g_offsets)), (h, .inr (1, [.ref ha_units, .ref ha_lengths, .ref ha_offsets, .int (z_i h_step)])), (ha_units, .inl (cA 1, 1280, .inl c21)), (ha_lengths, .inl (cA 1, 32, .inl h_lengths)), (ha_offsets, .inl (cA 1, 32, .inl h_offsets))] := z_D_addr hD rfl
                  have hv := hv c21 hw
                  refine lv_iinc (v := z_i (x44_8 + 1)) (lv' := [(8, .int (z_i (x44_8 + 1))), (10, .int (z_i v15)), (9, .int (z_i 1)), (7, .int (z_i x44_7)), (6, .ref h), (5, .ref h), (4, .ref g)]) hx hb dX7_difference_141 hl (k := 2) rfl (z_i_add _ _) (by decide) rfl (fun ls hl => ?_)
                  refine lv_goto (tgt := 44) hx hb dX7_difference_144 (by decide) ?_
                  exact hv _ _ ls hP hD hS (lv_sub hl [0, 3, 4, 5, 6] rfl)
                · have hv := hv.2 hc
                  refine lv_iinc (v := z_i (x44_7 + 1)) (lv' := [(7, .int (z_i (x44_7 + 1))), (10, .int (z_i v15)), (9, .int (z_i 1)), (8, .int (z_i x44_8)), (6, .ref h), (5, .ref h), (4, .ref g)]) hx hb dX7_difference_125 hl (k := 3) rfl (z_i_add _ _) (by decide) rfl (fun ls hl => ?_)
                  refine lx_ldc (a := (-2147483648)) hx hb hown (hts (.constant RX7 61 (-2147483648)) (by decide +kernel)) (by decide) dX7_difference_128 ?_
                  refine lv_istore (lv' := [(10, .int (z_i (-2147483648))), (7, .int (z_i (x44_7 + 1))), (9, .int (z_i 1)), (8, .int (z_i x44_8)), (6, .ref h), (5, .ref h), (4, .ref g)]) hx hb dX7_difference_130 hl (by decide) rfl (fun ls hl => ?_)
                  refine lv_aload hx hb dX7_difference_132 (lv_at hl 4 rfl) ?_
                  refine lv_iload hx hb dX7_difference_134 (lv_at hl 3 rfl) ?_
                  refine lv_iload hx hb dX7_difference_136 (lv_at hl 0 rfl) ?_
                  obtain ⟨hp22, hv⟩ := hv
                  have hFc := z_fr (A := A) (wc := [(h, .inr (1, [.ref ha_units, .ref ha_lengths, .ref ha_offsets, .int (z_i h_step)])), (ha_units, .inl (cA 1, 1280, .inl y44_ha_units)), (ha_lengths, .inl (cA 1, 32, .inl h_lengths)), (ha_offsets, .inl (cA 1, 32, .inl h_offsets))]) hD [6, 7, 8, 9] rfl
                  refine va_callv (va_runV (As := [.int (z_i x44_8), .int (z_i (-2147483648))]) (rest := []) ⟨hx, hb, hml, hown, hts⟩ (mt_X2_put l D cA h ha_units y44_ha_units ha_lengths h_lengths ha_offsets h_offsets h_step x44_8 (-2147483648) h_h_step h_x44_8 (show z_in (-2147483648) from ⟨by decide, by decide⟩) hp22) (cwV 2 hts gX7_difference_X2_put rfl rfl rfl (by decide +kernel) ⟨Nat.le_of_ble_eq_true rfl, Nat.le_of_ble_eq_true rfl⟩) ⟨z_blm0, va_recv hK hP (ci := 1) (q0 := 6) rfl rfl, fun U hU hW => ⟨rfl, z_m0 hK (hP.sub (ws' := [(h, .inr (1, [.ref ha_units, .ref ha_lengths, .ref ha_offsets, .int (z_i h_step)])), (ha_units, .inl (cA 1, 1280, .inl y44_ha_units)), (ha_lengths, .inl (cA 1, 32, .inl h_lengths)), (ha_offsets, .inl (cA 1, 32, .inl h_offsets))]) [6, 7, 8, 9] rfl) (hD.sub (ws' := [(h, .inr (1, [.ref ha_units, .ref ha_lengths, .ref ha_offsets, .int (z_i h_step)])), (ha_units, .inl (cA 1, 1280, .inl y44_ha_units)), (ha_lengths, .inl (cA 1, 32, .inl h_lengths)), (ha_offsets, .inl (cA 1, 32, .inl h_offsets))]) [6, 7, 8, 9] (by decide) rfl) hU hW⟩⟩ rfl rfl hl.1 rfl (lv_room (Nat.le_of_ble_eq_true rfl)) dX7_difference_138 ⟨Nat.zero_le _, Nat.zero_le _⟩) hS (fun q _ h => hFc q h) hFc (fun u t H locs ht hvm hw hB hz1 hk1 hS => ?_)
                  obtain ⟨c23, rfl⟩ : ∃ z, z = u := ⟨_, rfl⟩
                  rw [ht] at hB
                  have hP := z_join2 (wc := [(h, .inr (1, [.ref ha_units, .ref ha_lengths, .ref ha_offsets, .int (z_i h_step)])), (ha_units, .inl (cA 1, 1280, .inl y44_ha_units)), (ha_lengths, .inl (cA 1, 32, .inl h_lengths)), (ha_offsets, .inl (cA 1, 32, .inl h_offsets))]) (w1 := [(h, .inr (1, [.ref ha_units, .ref ha_lengths, .ref ha_offsets, .int (z_i h_step)])), (ha_units, .inl (cA 1, 1280, .inl c23)), (ha_lengths, .inl (cA 1, 32, .inl h_lengths)), (ha_offsets, .inl (cA 1, 32, .inl h_offsets))]) hP hD [6, 7, 8, 9] [0, 0, 0, 0, 0, 0, 1, 2, 3, 4] rfl rfl rfl hk1 hB
                  have hP : va_P D vwCl [(x, .inr (5, [.ref xa_grids, .ref x_levelMm, .int (z_i x_levelCount), .ref x_water, .ref x_scratch, .ref x_lines])), (xa_grids, .inl (cA 4, 4, .inr (.inr (.inr (.inr x_grids))))), (g, .inr (1, [.ref ga_units, .ref ga_lengths, .ref ga_offsets, .int (z_i g_step)])), (ga_units, .inl (cA 1, 1280, .inl g_units)), (ga_lengths, .inl (cA 1, 32, .inl g_lengths)), (ga_offsets, .inl (cA 1, 32, .inl g_offsets)), (h, .inr (1, [.ref ha_units, .ref ha_lengths, .ref ha_offsets, .int (z_i h_step)])), (ha_units, .inl (cA 1, 1280, .inl c23)), (ha_lengths, .inl (cA 1, 32, .inl h_lengths)), (ha_offsets, .inl (cA 1, 32, .inl h_offsets))] H := hP
                  have hD : va_D A [(x, .inr (5, [.ref xa_grids, .ref x_levelMm, .int (z_i x_levelCount), .ref x_water, .ref x_scratch, .ref x_lines])), (xa_grids, .inl (cA 4, 4, .inr (.inr (.inr (.inr x_grids))))), (g, .inr (1, [.ref ga_units, .ref ga_lengths, .ref ga_offsets, .int (z_i g_step)])), (ga_units, .inl (cA 1, 1280, .inl g_units)), (ga_lengths, .inl (cA 1, 32, .inl g_lengths)), (ga_offsets, .inl (cA 1, 32, .inl g_offsets)), (h, .inr (1, [.ref ha_units, .ref ha_lengths, .ref ha_offsets, .int (z_i h_step)])), (ha_units, .inl (cA 1, 1280, .inl c23)), (ha_lengths, .inl (cA 1, 32, .inl h_lengths)), (ha_offsets, .inl (cA 1, 32, .inl h_offsets))] := z_D_addr hD rfl
                  have hv := hv c23 hw
                  refine lv_iinc (v := z_i (x44_8 + 1)) (lv' := [(8, .int (z_i (x44_8 + 1))), (10, .int (z_i (-2147483648))), (7, .int (z_i (x44_7 + 1))), (9, .int (z_i 1)), (6, .ref h), (5, .ref h), (4, .ref g)]) hx hb dX7_difference_141 hl (k := 3) rfl (z_i_add _ _) (by decide) rfl (fun ls hl => ?_)
                  refine lv_goto (tgt := 44) hx hb dX7_difference_144 (by decide) ?_
                  exact hv _ _ ls hP hD hS (lv_sub hl [0, 2, 4, 5, 6] rfl)
      · have hv := hv.2 hc
        rw [hq3, if_neg hc, z_rf_n]
        refine lv_astoreN (lv' := [(6, .null), (5, .ref h), (4, .ref g), (0, .ref x), (1, .int (z_i gi)), (2, .int (z_i hi_)), (3, .int (z_i to))]) hx hb dX7_difference_19 hl (by decide) rfl (fun ls hl => ?_)
        refine lv_aload hx hb dX7_difference_21 (lv_at hl 2 rfl) ?_
        refine lv_ifnull hx hb dX7_difference_23 ?_
        refine lv_aload hx hb dX7_difference_26 (lv_at hl 1 rfl) ?_
        refine lv_ifnull hx hb dX7_difference_28 ?_
        refine lv_aloadN hx hb dX7_difference_31 (lv_at hl 0 rfl) ?_
        refine lv_ifnonnullN hx hb dX7_difference_33 ?_
        refine lv_iconst (v := z_i (-1)) hx hb dX7_difference_36 rfl ?_
        exact W.iret (v := z_i (-1)) hx hb hr (fun t ht hW => ⟨⟨z_i (-1), (h_units, h_lengths, h_offsets, h_step), rfl, ⟨-1, rfl, (show z_in (-1) from ⟨by decide, by decide⟩), h_h_step, hv⟩, z_pt hP ht⟩, hS.F ht⟩) hS.2.2 dX7_difference_37
    · have hv := hv.2 hc
      rw [hq2, if_neg hc, z_rf_n]
      refine lv_astoreN (lv' := [(5, .null), (4, .ref g), (0, .ref x), (1, .int (z_i gi)), (2, .int (z_i hi_)), (3, .int (z_i to))]) hx hb dX7_difference_12 hl (by decide) rfl (fun ls hl => ?_)
      refine lv_aload_n hx hb dX7_difference_14 rfl (lv_at hl 2 rfl) ?_
      refine lv_iload_n hx hb dX7_difference_15 rfl (lv_at hl 5 rfl) ?_
      refine va_callq (va_runV (As := [.int (z_i to)]) (rest := []) ⟨hx, hb, hml, hown, hts⟩ (mt_X7_gridOf l D cA x xa_grids x_grids x_levelMm x_levelCount x_water x_scratch x_lines to h_x_levelCount h_to) (cwV 1 hts gX7_difference_X7_gridOf rfl rfl rfl (by decide +kernel) ⟨Nat.le_of_ble_eq_true rfl, Nat.le_of_ble_eq_true rfl⟩) ⟨z_bl0, va_recv hK hP (ci := 5) (q0 := 0) rfl rfl, fun U hU hW => ⟨rfl, z_b0 hK (hP.sub (ws' := [(x, .inr (5, [.ref xa_grids, .ref x_levelMm, .int (z_i x_levelCount), .ref x_water, .ref x_scratch, .ref x_lines])), (xa_grids, .inl (cA 4, 4, .inr (.inr (.inr (.inr x_grids)))))]) [0, 1] rfl) hU hW⟩⟩ rfl rfl hl.1 rfl (lv_room (Nat.le_of_ble_eq_true rfl)) dX7_difference_16 ⟨Nat.zero_le _, Nat.zero_le _⟩) hS (fun q _ h => h.elim) (fun q h => h.elim) (fun r0 u t H locs ht hvm hw hB hz1 hk1 hS => ?_)
      have hq24 := hw
      have hP := z_P_all hP hk1
      by_cases hc : 0 ≤ to ∧ to < 4
      · have hv := hv.1 hc
        rw [hq24, if_pos hc, hg_to hc, z_rf_s]
        refine lv_astore (lv' := [(6, .ref h), (5, .null), (4, .ref g), (0, .ref x), (1, .int (z_i gi)), (2, .int (z_i hi_)), (3, .int (z_i to))]) hx hb dX7_difference_19 hl (by decide) rfl (fun ls hl => ?_)
        refine lv_aload hx hb dX7_difference_21 (lv_at hl 2 rfl) ?_
        refine lv_ifnull hx hb dX7_difference_23 ?_
        refine lv_aloadN hx hb dX7_difference_26 (lv_at hl 1 rfl) ?_
        refine lv_ifnullN (tgt := 36) hx hb dX7_difference_28 (by decide) ?_
        refine lv_iconst (v := z_i (-1)) hx hb dX7_difference_36 rfl ?_
        exact W.iret (v := z_i (-1)) hx hb hr (fun t ht hW => ⟨⟨z_i (-1), (h_units, h_lengths, h_offsets, h_step), rfl, ⟨-1, rfl, (show z_in (-1) from ⟨by decide, by decide⟩), h_h_step, hv⟩, z_pt hP ht⟩, hS.F ht⟩) hS.2.2 dX7_difference_37
      · have hv := hv.2 hc
        rw [hq24, if_neg hc, z_rf_n]
        refine lv_astoreN (lv' := [(6, .null), (5, .null), (4, .ref g), (0, .ref x), (1, .int (z_i gi)), (2, .int (z_i hi_)), (3, .int (z_i to))]) hx hb dX7_difference_19 hl (by decide) rfl (fun ls hl => ?_)
        refine lv_aload hx hb dX7_difference_21 (lv_at hl 2 rfl) ?_
        refine lv_ifnull hx hb dX7_difference_23 ?_
        refine lv_aloadN hx hb dX7_difference_26 (lv_at hl 1 rfl) ?_
        refine lv_ifnullN (tgt := 36) hx hb dX7_difference_28 (by decide) ?_
        refine lv_iconst (v := z_i (-1)) hx hb dX7_difference_36 rfl ?_
        exact W.iret (v := z_i (-1)) hx hb hr (fun t ht hW => ⟨⟨z_i (-1), (h_units, h_lengths, h_offsets, h_step), rfl, ⟨-1, rfl, (show z_in (-1) from ⟨by decide, by decide⟩), h_h_step, hv⟩, z_pt hP ht⟩, hS.F ht⟩) hS.2.2 dX7_difference_37
  · have hv := hv.2 hc
    rw [hq1, if_neg hc, z_rf_n]
    refine lv_astoreN (lv' := [(4, .null), (0, .ref x), (1, .int (z_i gi)), (2, .int (z_i hi_)), (3, .int (z_i to))]) hx hb dX7_difference_5 hl (by decide) rfl (fun ls hl => ?_)
    refine lv_aload_n hx hb dX7_difference_7 rfl (lv_at hl 1 rfl) ?_
    refine lv_iload_n hx hb dX7_difference_8 rfl (lv_at hl 3 rfl) ?_
    refine va_callq (va_runV (As := [.int (z_i hi_)]) (rest := []) ⟨hx, hb, hml, hown, hts⟩ (mt_X7_gridOf l D cA x xa_grids x_grids x_levelMm x_levelCount x_water x_scratch x_lines hi_ h_x_levelCount h_hi_) (cwV 1 hts gX7_difference_X7_gridOf rfl rfl rfl (by decide +kernel) ⟨Nat.le_of_ble_eq_true rfl, Nat.le_of_ble_eq_true rfl⟩) ⟨z_bl0, va_recv hK hP (ci := 5) (q0 := 0) rfl rfl, fun U hU hW => ⟨rfl, z_b0 hK (hP.sub (ws' := [(x, .inr (5, [.ref xa_grids, .ref x_levelMm, .int (z_i x_levelCount), .ref x_water, .ref x_scratch, .ref x_lines])), (xa_grids, .inl (cA 4, 4, .inr (.inr (.inr (.inr x_grids)))))]) [0, 1] rfl) hU hW⟩⟩ rfl rfl hl.1 rfl (lv_room (Nat.le_of_ble_eq_true rfl)) dX7_difference_9 ⟨Nat.zero_le _, Nat.zero_le _⟩) hS (fun q _ h => h.elim) (fun q h => h.elim) (fun r0 u t H locs ht hvm hw hB hz1 hk1 hS => ?_)
    have hq25 := hw
    have hP := z_P_all hP hk1
    by_cases hc : 0 ≤ hi_ ∧ hi_ < 4
    · have hv := hv.1 hc
      rw [hq25, if_pos hc, hg_hi_ hc, z_rf_s]
      refine lv_astore (lv' := [(5, .ref h), (4, .null), (0, .ref x), (1, .int (z_i gi)), (2, .int (z_i hi_)), (3, .int (z_i to))]) hx hb dX7_difference_12 hl (by decide) rfl (fun ls hl => ?_)
      refine lv_aload_n hx hb dX7_difference_14 rfl (lv_at hl 2 rfl) ?_
      refine lv_iload_n hx hb dX7_difference_15 rfl (lv_at hl 5 rfl) ?_
      refine va_callq (va_runV (As := [.int (z_i to)]) (rest := []) ⟨hx, hb, hml, hown, hts⟩ (mt_X7_gridOf l D cA x xa_grids x_grids x_levelMm x_levelCount x_water x_scratch x_lines to h_x_levelCount h_to) (cwV 1 hts gX7_difference_X7_gridOf rfl rfl rfl (by decide +kernel) ⟨Nat.le_of_ble_eq_true rfl, Nat.le_of_ble_eq_true rfl⟩) ⟨z_bl0, va_recv hK hP (ci := 5) (q0 := 0) rfl rfl, fun U hU hW => ⟨rfl, z_b0 hK (hP.sub (ws' := [(x, .inr (5, [.ref xa_grids, .ref x_levelMm, .int (z_i x_levelCount), .ref x_water, .ref x_scratch, .ref x_lines])), (xa_grids, .inl (cA 4, 4, .inr (.inr (.inr (.inr x_grids)))))]) [0, 1] rfl) hU hW⟩⟩ rfl rfl hl.1 rfl (lv_room (Nat.le_of_ble_eq_true rfl)) dX7_difference_16 ⟨Nat.zero_le _, Nat.zero_le _⟩) hS (fun q _ h => h.elim) (fun q h => h.elim) (fun r0 u t H locs ht hvm hw hB hz1 hk1 hS => ?_)
      have hq26 := hw
      have hP := z_P_all hP hk1
      by_cases hc : 0 ≤ to ∧ to < 4
      · have hv := hv.1 hc
        rw [hq26, if_pos hc, hg_to hc, z_rf_s]
        refine lv_astore (lv' := [(6, .ref h), (5, .ref h), (4, .null), (0, .ref x), (1, .int (z_i gi)), (2, .int (z_i hi_)), (3, .int (z_i to))]) hx hb dX7_difference_19 hl (by decide) rfl (fun ls hl => ?_)
        refine lv_aloadN hx hb dX7_difference_21 (lv_at hl 2 rfl) ?_
        refine lv_ifnullN (tgt := 36) hx hb dX7_difference_23 (by decide) ?_
        refine lv_iconst (v := z_i (-1)) hx hb dX7_difference_36 rfl ?_
        exact W.iret (v := z_i (-1)) hx hb hr (fun t ht hW => ⟨⟨z_i (-1), (h_units, h_lengths, h_offsets, h_step), rfl, ⟨-1, rfl, (show z_in (-1) from ⟨by decide, by decide⟩), h_h_step, hv⟩, z_pt hP ht⟩, hS.F ht⟩) hS.2.2 dX7_difference_37
      · have hv := hv.2 hc
        rw [hq26, if_neg hc, z_rf_n]
        refine lv_astoreN (lv' := [(6, .null), (5, .ref h), (4, .null), (0, .ref x), (1, .int (z_i gi)), (2, .int (z_i hi_)), (3, .int (z_i to))]) hx hb dX7_difference_19 hl (by decide) rfl (fun ls hl => ?_)
        refine lv_aloadN hx hb dX7_difference_21 (lv_at hl 2 rfl) ?_
        refine lv_ifnullN (tgt := 36) hx hb dX7_difference_23 (by decide) ?_
        refine lv_iconst (v := z_i (-1)) hx hb dX7_difference_36 rfl ?_
        exact W.iret (v := z_i (-1)) hx hb hr (fun t ht hW => ⟨⟨z_i (-1), (h_units, h_lengths, h_offsets, h_step), rfl, ⟨-1, rfl, (show z_in (-1) from ⟨by decide, by decide⟩), h_h_step, hv⟩, z_pt hP ht⟩, hS.F ht⟩) hS.2.2 dX7_difference_37
    · have hv := hv.2 hc
      rw [hq25, if_neg hc, z_rf_n]
      refine lv_astoreN (lv' := [(5, .null), (4, .null), (0, .ref x), (1, .int (z_i gi)), (2, .int (z_i hi_)), (3, .int (z_i to))]) hx hb dX7_difference_12 hl (by decide) rfl (fun ls hl => ?_)
      refine lv_aload_n hx hb dX7_difference_14 rfl (lv_at hl 2 rfl) ?_
      refine lv_iload_n hx hb dX7_difference_15 rfl (lv_at hl 5 rfl) ?_
      refine va_callq (va_runV (As := [.int (z_i to)]) (rest := []) ⟨hx, hb, hml, hown, hts⟩ (mt_X7_gridOf l D cA x xa_grids x_grids x_levelMm x_levelCount x_water x_scratch x_lines to h_x_levelCount h_to) (cwV 1 hts gX7_difference_X7_gridOf rfl rfl rfl (by decide +kernel) ⟨Nat.le_of_ble_eq_true rfl, Nat.le_of_ble_eq_true rfl⟩) ⟨z_bl0, va_recv hK hP (ci := 5) (q0 := 0) rfl rfl, fun U hU hW => ⟨rfl, z_b0 hK (hP.sub (ws' := [(x, .inr (5, [.ref xa_grids, .ref x_levelMm, .int (z_i x_levelCount), .ref x_water, .ref x_scratch, .ref x_lines])), (xa_grids, .inl (cA 4, 4, .inr (.inr (.inr (.inr x_grids)))))]) [0, 1] rfl) hU hW⟩⟩ rfl rfl hl.1 rfl (lv_room (Nat.le_of_ble_eq_true rfl)) dX7_difference_16 ⟨Nat.zero_le _, Nat.zero_le _⟩) hS (fun q _ h => h.elim) (fun q h => h.elim) (fun r0 u t H locs ht hvm hw hB hz1 hk1 hS => ?_)
      have hq27 := hw
      have hP := z_P_all hP hk1
      by_cases hc : 0 ≤ to ∧ to < 4
      · have hv := hv.1 hc
        rw [hq27, if_pos hc, hg_to hc, z_rf_s]
        refine lv_astore (lv' := [(6, .ref h), (5, .null), (4, .null), (0, .ref x), (1, .int (z_i gi)), (2, .int (z_i hi_)), (3, .int (z_i to))]) hx hb dX7_difference_19 hl (by decide) rfl (fun ls hl => ?_)
        refine lv_aloadN hx hb dX7_difference_21 (lv_at hl 2 rfl) ?_
        refine lv_ifnullN (tgt := 36) hx hb dX7_difference_23 (by decide) ?_
        refine lv_iconst (v := z_i (-1)) hx hb dX7_difference_36 rfl ?_
        exact W.iret (v := z_i (-1)) hx hb hr (fun t ht hW => ⟨⟨z_i (-1), (h_units, h_lengths, h_offsets, h_step), rfl, ⟨-1, rfl, (show z_in (-1) from ⟨by decide, by decide⟩), h_h_step, hv⟩, z_pt hP ht⟩, hS.F ht⟩) hS.2.2 dX7_difference_37
      · have hv := hv.2 hc
        rw [hq27, if_neg hc, z_rf_n]
        refine lv_astoreN (lv' := [(6, .null), (5, .null), (4, .null), (0, .ref x), (1, .int (z_i gi)), (2, .int (z_i hi_)), (3, .int (z_i to))]) hx hb dX7_difference_19 hl (by decide) rfl (fun ls hl => ?_)
        refine lv_aloadN hx hb dX7_difference_21 (lv_at hl 2 rfl) ?_
        refine lv_ifnullN (tgt := 36) hx hb dX7_difference_23 (by decide) ?_
        refine lv_iconst (v := z_i (-1)) hx hb dX7_difference_36 rfl ?_
        exact W.iret (v := z_i (-1)) hx hb hr (fun t ht hW => ⟨⟨z_i (-1), (h_units, h_lengths, h_offsets, h_step), rfl, ⟨-1, rfl, (show z_in (-1) from ⟨by decide, by decide⟩), h_h_step, hv⟩, z_pt hP ht⟩, hS.F ht⟩) hS.2.2 dX7_difference_37
set_option maxHeartbeats 4000000 in
set_option maxRecDepth 100000 in
theorem mt_X7_difference_d (l : Launch) (D : va_G) (cA : Nat → ClassId) (x : Nat) (xa_grids : Nat) (x_grids : Nat → Option Nat) (x_levelMm : Nat) (x_levelCount : Int) (x_water : Nat) (x_scratch : Nat) (x_lines : Nat) (gi : Int) (hi_ : Int) (to : Int) (g : Nat) (ga_units : Nat) (g_units : Nat → Int32) (ga_lengths : Nat) (g_lengths : Nat → Int32) (ga_offsets : Nat) (g_offsets : Nat → Int32) (g_step : Int) (h : Nat) (ha_units : Nat) (h_units : Nat → Int32) (ha_lengths : Nat) (h_lengths : Nat → Int32) (ha_offsets : Nat) (h_offsets : Nat → Int32) (h_step : Int) (h_x_levelCount : z_in x_levelCount) (h_gi : z_in gi) (h_hi_ : z_in hi_) (h_to : z_in to) (h_g_step : z_in g_step) (h_h_step : z_in h_step) (hg_gi : 0 ≤ gi ∧ gi < 4 → x_grids gi.toNat = some g) (hg_hi_ : 0 ≤ hi_ ∧ hi_ < 4 → x_grids hi_.toNat = some h) (hg_to : 0 ≤ to ∧ to < 4 → x_grids to.toNat = some h) (hp1 : g_ok g_units) (hp2 : g_ok h_units) : Met l yX7_difference wsX7_difference ({ frames := 2, cells := 0, slots := 0, locals := 39 } : Room) (va_Pc [.ref x, .int (z_i gi), .int (z_i hi_), .int (z_i to)] (z_M0 D cA [(x, .inr (5, [.ref xa_grids, .ref x_levelMm, .int (z_i x_levelCount), .ref x_water, .ref x_scratch, .ref x_lines])), (xa_grids, .inl (cA 4, 4, .inr (.inr (.inr (.inr x_grids))))), (g, .inr (1, [.ref ga_units, .ref ga_lengths, .ref ga_offsets, .int (z_i g_step)])), (ga_units, .inl (cA 1, 1280, .inl g_units)), (ga_lengths, .inl (cA 1, 32, .inl g_lengths)), (ga_offsets, .inl (cA 1, 32, .inl g_offsets)), (h, .inr (1, [.ref ha_units, .ref ha_lengths, .ref ha_offsets, .int (z_i h_step)])), (ha_units, .inl (cA 1, 1280, .inl h_units)), (ha_lengths, .inl (cA 1, 32, .inl h_lengths)), (ha_offsets, .inl (cA 1, 32, .inl h_offsets))])) (va_Qi (z_mi (fun v (u : (Nat → Int32) × (Nat → Int32) × (Nat → Int32) × Int) => z_in u.2.2.2 ∧ (fun (r : Int) (h_units' : (Nat → Int32)) (h_lengths' : (Nat → Int32)) (h_offsets' : (Nat → Int32)) (h_step' : Int) => r = (if (0 ≤ gi ∧ gi < 4) ∧ (0 ≤ hi_ ∧ hi_ < 4) ∧ (0 ≤ to ∧ to < 4) then f_bc g_units h_units 1280 else -1) ∧ ((0 ≤ gi ∧ gi < 4) ∧ (0 ≤ hi_ ∧ hi_ < 4) ∧ (0 ≤ to ∧ to < 4) → (∀ n : Int, 0 ≤ n → n < 1280 → z_g h_units' n = f_df g_units h_units n) ∧ h_lengths' = g_lengths ∧ h_offsets' = g_offsets ∧ h_step' = g_step) ∧ (¬ ((0 ≤ gi ∧ gi < 4) ∧ (0 ≤ hi_ ∧ hi_ < 4) ∧ (0 ≤ to ∧ to < 4)) → h_units' = h_units ∧ h_lengths' = h_lengths ∧ h_offsets' = h_offsets ∧ h_step' = h_step)) v u.1 u.2.1 u.2.2.1 u.2.2.2)) (fun (u : (Nat → Int32) × (Nat → Int32) × (Nat → Int32) × Int) t => va_P D vwCl [(x, .inr (5, [.ref xa_grids, .ref x_levelMm, .int (z_i x_levelCount), .ref x_water, .ref x_scratch, .ref x_lines])), (xa_grids, .inl (cA 4, 4, .inr (.inr (.inr (.inr x_grids))))), (g, .inr (1, [.ref ga_units, .ref ga_lengths, .ref ga_offsets, .int (z_i g_step)])), (ga_units, .inl (cA 1, 1280, .inl g_units)), (ga_lengths, .inl (cA 1, 32, .inl g_lengths)), (ga_offsets, .inl (cA 1, 32, .inl g_offsets)), (h, .inr (1, [.ref ha_units, .ref ha_lengths, .ref ha_offsets, .int (z_i u.2.2.2)])), (ha_units, .inl (cA 1, 1280, .inl u.1)), (ha_lengths, .inl (cA 1, 32, .inl u.2.1)), (ha_offsets, .inl (cA 1, 32, .inl u.2.2.1))] t.heap) (z_A [(x, .inr (5, [.ref xa_grids, .ref x_levelMm, .int (z_i x_levelCount), .ref x_water, .ref x_scratch, .ref x_lines])), (xa_grids, .inl (cA 4, 4, .inr (.inr (.inr (.inr x_grids))))), (g, .inr (1, [.ref ga_units, .ref ga_lengths, .ref ga_offsets, .int (z_i g_step)])), (ga_units, .inl (cA 1, 1280, .inl g_units)), (ga_lengths, .inl (cA 1, 32, .inl g_lengths)), (ga_offsets, .inl (cA 1, 32, .inl g_offsets)), (h, .inr (1, [.ref ha_units, .ref ha_lengths, .ref ha_offsets, .int (z_i h_step)])), (ha_units, .inl (cA 1, 1280, .inl h_units)), (ha_lengths, .inl (cA 1, 32, .inl h_lengths)), (ha_offsets, .inl (cA 1, 32, .inl h_offsets))])) 0 0 (z_A [(x, .inr (5, [.ref xa_grids, .ref x_levelMm, .int (z_i x_levelCount), .ref x_water, .ref x_scratch, .ref x_lines])), (xa_grids, .inl (cA 4, 4, .inr (.inr (.inr (.inr x_grids))))), (g, .inr (1, [.ref ga_units, .ref ga_lengths, .ref ga_offsets, .int (z_i g_step)])), (ga_units, .inl (cA 1, 1280, .inl g_units)), (ga_lengths, .inl (cA 1, 32, .inl g_lengths)), (ga_offsets, .inl (cA 1, 32, .inl g_offsets)), (h, .inr (1, [.ref ha_units, .ref ha_lengths, .ref ha_offsets, .int (z_i h_step)])), (ha_units, .inl (cA 1, 1280, .inl h_units)), (ha_lengths, .inl (cA 1, 32, .inl h_lengths)), (ha_offsets, .inl (cA 1, 32, .inl h_offsets))]) := by
  refine wk_X7_difference_d l D cA x xa_grids x_grids x_levelMm x_levelCount x_water x_scratch x_lines gi hi_ to g ga_units g_units ga_lengths g_lengths ga_offsets g_offsets g_step h ha_units h_units ha_lengths h_lengths ha_offsets h_offsets h_step h_x_levelCount h_gi h_hi_ h_to h_g_step h_h_step hg_gi hg_hi_ hg_to (fun (r : Int) (h_units' : (Nat → Int32)) (h_lengths' : (Nat → Int32)) (h_offsets' : (Nat → Int32)) (h_step' : Int) => r = (if (0 ≤ gi ∧ gi < 4) ∧ (0 ≤ hi_ ∧ hi_ < 4) ∧ (0 ≤ to ∧ to < 4) then f_bc g_units h_units 1280 else -1) ∧ ((0 ≤ gi ∧ gi < 4) ∧ (0 ≤ hi_ ∧ hi_ < 4) ∧ (0 ≤ to ∧ to < 4) → (∀ n : Int, 0 ≤ n → n < 1280 → z_g h_units' n = f_df g_units h_units n) ∧ h_lengths' = g_lengths ∧ h_offsets' = g_offsets ∧ h_step' = g_step) ∧ (¬ ((0 ≤ gi ∧ gi < 4) ∧ (0 ≤ hi_ ∧ hi_ < 4) ∧ (0 ≤ to ∧ to < 4)) → h_units' = h_units ∧ h_lengths' = h_lengths ∧ h_offsets' = h_offsets ∧ h_step' = h_step)) ?_
  unfold vc_X7_difference_d
  have no : ¬ ((0 ≤ gi ∧ gi < 4) ∧ (0 ≤ hi_ ∧ hi_ < 4) ∧ (0 ≤ to ∧ to < 4)) → (-1 : Int) = (if (0 ≤ gi ∧ gi < 4) ∧ (0 ≤ hi_ ∧ hi_ < 4) ∧ (0 ≤ to ∧ to < 4) then f_bc g_units h_units 1280 else -1) ∧ ((0 ≤ gi ∧ gi < 4) ∧ (0 ≤ hi_ ∧ hi_ < 4) ∧ (0 ≤ to ∧ to < 4) → (∀ n : Int, 0 ≤ n → n < 1280 → z_g h_units n = f_df g_units h_units n) ∧ h_lengths = g_lengths ∧ h_offsets = g_offsets ∧ h_step = g_step) ∧ (¬ ((0 ≤ gi ∧ gi < 4) ∧ (0 ≤ hi_ ∧ hi_ < 4) ∧ (0 ≤ to ∧ to < 4)) → h_units = h_units ∧ h_lengths = h_lengths ∧ h_offsets = h_offsets ∧ h_step = h_step) := fun h => ⟨by rw [if_neg h], fun h2 => absurd h2 h, fun _ => ⟨rfl, rfl, rfl, rfl⟩⟩
  refine ⟨fun q => ⟨fun q1 => ⟨fun q2 => ?_, fun q2 => no (fun h => q2 h.2.2)⟩, fun q1 => ⟨fun _ => no (fun h => q1 h.2.1), fun _ => no (fun h => q1 h.2.1)⟩⟩, fun q => ⟨fun _ => ⟨fun _ => no (fun h => q h.1), fun _ => no (fun h => q h.1)⟩, fun _ => ⟨fun _ => no (fun h => q h.1), fun _ => no (fun h => q h.1)⟩⟩⟩
  intro L1 hL1
  suffices H : ∀ (d k : Nat) (f : Int) (y : Nat → Int32), k + d = 1280 → f = f_bc g_units h_units k → 0 ≤ f → f ≤ k → (∀ n : Int, 0 ≤ n → n < k → z_g y n = f_df g_units h_units n) → (∀ n : Int, k ≤ n → n < 1280 → z_g y n = z_g h_units n) → L1 k f y from H 1280 0 0 _ rfl rfl (by omega) (by omega) (fun n a b => absurd b (by omega)) (fun n _ _ => rfl)
  intro d
  induction d with
  | zero =>
    intro k f y hk hf f0 f1 hy hy2
    obtain rfl : k = 1280 := by omega
    refine hL1 _ _ _ ⟨by omega, by omega⟩ ⟨by omega, by omega⟩ ⟨fun _ => ?_, fun h => absurd h (by decide)⟩
    rintro c3 c4 c5 _ ⟨rfl, rfl, rfl⟩
    exact ⟨by rw [if_pos ⟨q, q1, q2⟩]; exact hf, fun _ => ⟨fun n a b => hy n a (by omega), rfl, rfl, rfl⟩, fun h => absurd ⟨q, q1, q2⟩ h⟩
  | succ d ih =>
    intro k f y hk hf f0 f1 hy hy2
    refine hL1 _ _ _ ⟨by omega, by omega⟩ ⟨by omega, by omega⟩ ⟨fun h => absurd h (by omega), fun _ => ?_⟩
    have eo : g_at y k = g_at h_units k := g_at_eq (hy2 k (by omega) (by omega))
    have eg : g_at g_units k = g_at g_units k := rfl
    have eh : g_at y k = g_at h_units k := eo
    have es : f_bc g_units h_units (k + 1) = f_bc g_units h_units k + (if f_bt g_units h_units k = true ∧ ¬ (-8388608 ≤ g_at g_units k - g_at h_units k ∧ g_at g_units k - g_at h_units k ≤ 8388608) then 1 else 0) := rfl
    rw [← hf] at es
    rw [g_th_eq eg, g_th_eq eh, eg, eh]
    have step : ∀ v w : Int, z_in v → v = f_df g_units h_units k → w = f_bc g_units h_units (k + 1) → 0 ≤ w → w ≤ (k : Int) + 1 → L1 ((k : Int) + 1) w (z_s y k v) := by
      intro v w zv hv hw w0 w1
      refine ih (k + 1) _ _ (by omega) hw w0 (by omega) ?_ ?_
      · intro n a b
        rw [z_gs zv (by omega) a]
        by_cases e9 : n = k
        · rw [if_pos e9, e9]; exact hv
        · rw [if_neg e9]; exact hy n a (by omega)
      · intro n a b
        rw [z_gs zv (by omega) (by omega), if_neg (by omega)]; exact hy2 n (by omega) b
    have gap : ¬ f_bt g_units h_units k = true → L1 ((k : Int) + 1) f (z_s y k (-2147483648)) := by
      intro hn
      refine step _ _ ⟨by omega, by omega⟩ ?_ ?_ f0 (by omega)
      · unfold f_df; rw [if_neg (fun h => hn h.1)]
      · rw [es, if_neg (fun h => hn h.1)]; omega
    rintro r7 _ rfl
    refine ⟨fun q4 => ⟨⟨by omega, by omega⟩, ?_⟩, fun q4 => ?_⟩
    · rintro c9 rfl
      exact gap (by unfold f_bt; rw [zb_f q4, Bool.false_and]; decide)
    · rintro r10 _ rfl
      refine ⟨fun q5 => ⟨⟨by omega, by omega⟩, ?_⟩, fun q5 => ?_⟩
      · rintro c9 rfl
        exact gap (by unfold f_bt; rw [zb_f q5, Bool.and_false]; decide)
      · have hb : f_bt g_units h_units k = true := by unfold f_bt; rw [Bool.and_eq_true]; exact ⟨zb_t q4, zb_t q5⟩
        have b1 := g_ok_at hp1 (zb_t q4)
        have b2 := g_ok_at hp2 (zb_t q5)
        rintro r13 _ rfl r14 _ rfl
        refine ⟨⟨by omega, by omega⟩, ?_⟩
        rintro v15 rfl
        have far : ¬ (-8388608 ≤ g_at g_units k - g_at h_units k ∧ g_at g_units k - g_at h_units k ≤ 8388608) → L1 ((k : Int) + 1) (f + 1) (z_s y k (-2147483648)) := by
          intro hn
          refine step _ _ ⟨by omega, by omega⟩ ?_ ?_ (by omega) (by omega)
          · unfold f_df; rw [if_neg (fun h => hn h.2)]
          · rw [es, if_pos ⟨hb, hn⟩]
        refine ⟨fun q6 => ⟨⟨by omega, by omega⟩, ?_⟩, fun q6 => ⟨fun q7 => ⟨⟨by omega, by omega⟩, ?_⟩, fun q7 => ⟨⟨by omega, by omega⟩, ?_⟩⟩⟩
        · rintro c19 rfl
          exact far (by omega)
        · rintro c21 rfl
          refine step _ _ ⟨by omega, by omega⟩ ?_ ?_ f0 (by omega)
          · unfold f_df; rw [if_pos ⟨hb, q6, q7⟩]
          · rw [es, if_neg (fun h => h.2 ⟨q6, q7⟩)]; omega
        · rintro c23 rfl
          exact far (by omega)
def vc_X7_difference_e (gi : Int) (hi_ : Int) (to : Int) (g_units : Nat → Int32) (g_lengths : Nat → Int32) (g_offsets : Nat → Int32) (g_step : Int) (h_units : Nat → Int32) (o_units : Nat → Int32) (o_lengths : Nat → Int32) (o_offsets : Nat → Int32) (o_step : Int) (Q : Int → (Nat → Int32) → (Nat → Int32) → (Nat → Int32) → Int → Prop) : Prop :=
((0 ≤ gi ∧ gi < 4 → ((0 ≤ hi_ ∧ hi_ < 4 → ((0 ≤ to ∧ to < 4 → (∀ L44 : Int → Int → (Nat → Int32) → Prop,
(∀ (x44_8 : Int) (x44_7 : Int) (y44_oa_units : Nat → Int32), z_in x44_8 → z_in x44_7 → ((x44_8 ≥ 1280 → (∀ (c4 : Nat → Int32) (c5 : Nat → Int32) (c6 : Int), z_in c6 → (c4 = g_lengths ∧ c5 = g_offsets ∧ c6 = g_step) → Q x44_7 y44_oa_units c4 c5 c6)) ∧
(x44_8 < 1280 → (∀ (r7 : Int), z_in r7 → (r7 = z_b (g_th g_units x44_8)) → ((r7 = 0 → (0 ≤ x44_8 ∧ x44_8 < 1280) ∧ (∀ (c9 : Nat → Int32), (c9 = z_s y44_oa_units x44_8 (-2147483648 : Int)) → L44 (x44_8 + 1) x44_7 c9)) ∧
(r7 ≠ 0 → (∀ (r10 : Int), z_in r10 → (r10 = z_b (g_th h_units x44_8)) → ((r10 = 0 → (0 ≤ x44_8 ∧ x44_8 < 1280) ∧ (∀ (c12 : Nat → Int32), (c12 = z_s y44_oa_units x44_8 (-2147483648 : Int)) → L44 (x44_8 + 1) x44_7 c12)) ∧
(r10 ≠ 0 → (∀ (r13 : Int), z_in r13 → (r13 = g_at g_units x44_8) → (∀ (r14 : Int), z_in r14 → (r14 = g_at h_units x44_8) → z_in (r13 - r14) ∧ (∀ v15 : Int, v15 = r13 - r14 → ((v15 < -8388608 → (0 ≤ x44_8 ∧ x44_8 < 1280) ∧ (∀ (c19 : Nat → Int32), (c19 = z_s y44_oa_units x44_8 (-2147483648 : Int)) → L44 (x44_8 + 1) (x44_7 + 1) c19)) ∧
(v15 ≥ -8388608 → ((v15 ≤ 8388608 → (0 ≤ x44_8 ∧ x44_8 < 1280) ∧ (∀ (c21 : Nat → Int32), (c21 = z_s y44_oa_units x44_8 v15) → L44 (x44_8 + 1) x44_7 c21)) ∧
(v15 > 8388608 → (0 ≤ x44_8 ∧ x44_8 < 1280) ∧ (∀ (c23 : Nat → Int32), (c23 = z_s y44_oa_units x44_8 (-2147483648 : Int)) → L44 (x44_8 + 1) (x44_7 + 1) c23)))))))))))))))) → L44 x44_8 x44_7 y44_oa_units) →
L44 0 0 o_units)) ∧
(¬ (0 ≤ to ∧ to < 4) → Q (-1) o_units o_lengths o_offsets o_step))) ∧
(¬ (0 ≤ hi_ ∧ hi_ < 4) → ((0 ≤ to ∧ to < 4 → Q (-1) o_units o_lengths o_offsets o_step) ∧
(¬ (0 ≤ to ∧ to < 4) → Q (-1) o_units o_lengths o_offsets o_step))))) ∧
(¬ (0 ≤ gi ∧ gi < 4) → ((0 ≤ hi_ ∧ hi_ < 4 → ((0 ≤ to ∧ to < 4 → Q (-1) o_units o_lengths o_offsets o_step) ∧
(¬ (0 ≤ to ∧ to < 4) → Q (-1) o_units o_lengths o_offsets o_step))) ∧
(¬ (0 ≤ hi_ ∧ hi_ < 4) → ((0 ≤ to ∧ to < 4 → Q (-1) o_units o_lengths o_offsets o_step) ∧
(¬ (0 ≤ to ∧ to < 4) → Q (-1) o_units o_lengths o_offsets o_step))))))
set_option maxHeartbeats 4000000 in
set_option maxRecDepth 100000 in
theorem wk_X7_difference_e (l : Launch) (D : va_G) (cA : Nat → ClassId) (x : Nat) (xa_grids : Nat) (x_grids : Nat → Option Nat) (x_levelMm : Nat) (x_levelCount : Int) (x_water : Nat) (x_scratch : Nat) (x_lines : Nat) (gi : Int) (hi_ : Int) (to : Int) (g : Nat) (ga_units : Nat) (g_units : Nat → Int32) (ga_lengths : Nat) (g_lengths : Nat → Int32) (ga_offsets : Nat) (g_offsets : Nat → Int32) (g_step : Int) (h : Nat) (ha_units : Nat) (h_units : Nat → Int32) (ha_lengths : Nat) (h_lengths : Nat → Int32) (ha_offsets : Nat) (h_offsets : Nat → Int32) (h_step : Int) (o : Nat) (oa_units : Nat) (o_units : Nat → Int32) (oa_lengths : Nat) (o_lengths : Nat → Int32) (oa_offsets : Nat) (o_offsets : Nat → Int32) (o_step : Int) (h_x_levelCount : z_in x_levelCount) (h_gi : z_in gi) (h_hi_ : z_in hi_) (h_to : z_in to) (h_g_step : z_in g_step) (h_h_step : z_in h_step) (h_o_step : z_in o_step) (hg_gi : 0 ≤ gi ∧ gi < 4 → x_grids gi.toNat = some g) (hg_hi_ : 0 ≤ hi_ ∧ hi_ < 4 → x_grids hi_.toNat = some h) (hg_to : 0 ≤ to ∧ to < 4 → x_grids to.toNat = some o) (Q : Int → (Nat → Int32) → (Nat → Int32) → (Nat → Int32) → Int → Prop) (hv : vc_X7_difference_e gi hi_ to g_units g_lengths g_offsets g_step h_units o_units o_lengths o_offsets o_step Q) : Met l yX7_difference wsX7_difference ({ frames := 2, cells := 0, slots := 0, locals := 39 } : Room) (va_Pc [.ref x, .int (z_i gi), .int (z_i hi_), .int (z_i to)] (z_M0 D cA [(x, .inr (5, [.ref xa_grids, .ref x_levelMm, .int (z_i x_levelCount), .ref x_water, .ref x_scratch, .ref x_lines])), (xa_grids, .inl (cA 4, 4, .inr (.inr (.inr (.inr x_grids))))), (g, .inr (1, [.ref ga_units, .ref ga_lengths, .ref ga_offsets, .int (z_i g_step)])), (ga_units, .inl (cA 1, 1280, .inl g_units)), (ga_lengths, .inl (cA 1, 32, .inl g_lengths)), (ga_offsets, .inl (cA 1, 32, .inl g_offsets)), (h, .inr (1, [.ref ha_units, .ref ha_lengths, .ref ha_offsets, .int (z_i h_step)])), (ha_units, .inl (cA 1, 1280, .inl h_units)), (ha_lengths, .inl (cA 1, 32, .inl h_lengths)), (ha_offsets, .inl (cA 1, 32, .inl h_offsets)), (o, .inr (1, [.ref oa_units, .ref oa_lengths, .ref oa_offsets, .int (z_i o_step)])), (oa_units, .inl (cA 1, 1280, .inl o_units)), (oa_lengths, .inl (cA 1, 32, .inl o_lengths)), (oa_offsets, .inl (cA 1, 32, .inl o_offsets))])) (va_Qi (z_mi (fun v (u : (Nat → Int32) × (Nat → Int32) × (Nat → Int32) × Int) => z_in u.2.2.2 ∧ Q v u.1 u.2.1 u.2.2.1 u.2.2.2)) (fun (u : (Nat → Int32) × (Nat → Int32) × (Nat → Int32) × Int) t => va_P D vwCl [(x, .inr (5, [.ref xa_grids, .ref x_levelMm, .int (z_i x_levelCount), .ref x_water, .ref x_scratch, .ref x_lines])), (xa_grids, .inl (cA 4, 4, .inr (.inr (.inr (.inr x_grids))))), (g, .inr (1, [.ref ga_units, .ref ga_lengths, .ref ga_offsets, .int (z_i g_step)])), (ga_units, .inl (cA 1, 1280, .inl g_units)), (ga_lengths, .inl (cA 1, 32, .inl g_lengths)), (ga_offsets, .inl (cA 1, 32, .inl g_offsets)), (h, .inr (1, [.ref ha_units, .ref ha_lengths, .ref ha_offsets, .int (z_i h_step)])), (ha_units, .inl (cA 1, 1280, .inl h_units)), (ha_lengths, .inl (cA 1, 32, .inl h_lengths)), (ha_offsets, .inl (cA 1, 32, .inl h_offsets)), (o, .inr (1, [.ref oa_units, .ref oa_lengths, .ref oa_offsets, .int (z_i u.2.2.2)])), (oa_units, .inl (cA 1, 1280, .inl u.1)), (oa_lengths, .inl (cA 1, 32, .inl u.2.1)), (oa_offsets, .inl (cA 1, 32, .inl u.2.2.1))] t.heap) (z_A [(x, .inr (5, [.ref xa_grids, .ref x_levelMm, .int (z_i x_levelCount), .ref x_water, .ref x_scratch, .ref x_lines])), (xa_grids, .inl (cA 4, 4, .inr (.inr (.inr (.inr x_grids))))), (g, .inr (1, [.ref ga_units, .ref ga_lengths, .ref ga_offsets, .int (z_i g_step)])), (ga_units, .inl (cA 1, 1280, .inl g_units)), (ga_lengths, .inl (cA 1, 32, .inl g_lengths)), (ga_offsets, .inl (cA 1, 32, .inl g_offsets)), (h, .inr (1, [.ref ha_units, .ref ha_lengths, .ref ha_offsets, .int (z_i h_step)])), (ha_units, .inl (cA 1, 1280, .inl h_units)), (ha_lengths, .inl (cA 1, 32, .inl h_lengths)), (ha_offsets, .inl (cA 1, 32, .inl h_offsets)), (o, .inr (1, [.ref oa_units, .ref oa_lengths, .ref oa_offsets, .int (z_i o_step)])), (oa_units, .inl (cA 1, 1280, .inl o_units)), (oa_lengths, .inl (cA 1, 32, .inl o_lengths)), (oa_offsets, .inl (cA 1, 32, .inl o_offsets))])) 0 0 (z_A [(x, .inr (5, [.ref xa_grids, .ref x_levelMm, .int (z_i x_levelCount), .ref x_water, .ref x_scratch, .ref x_lines])), (xa_grids, .inl (cA 4, 4, .inr (.inr (.inr (.inr x_grids))))), (g, .inr (1, [.ref ga_units, .ref ga_lengths, .ref ga_offsets, .int (z_i g_step)])), (ga_units, .inl (cA 1, 1280, .inl g_units)), (ga_lengths, .inl (cA 1, 32, .inl g_lengths)), (ga_offsets, .inl (cA 1, 32, .inl g_offsets)), (h, .inr (1, [.ref ha_units, .ref ha_lengths, .ref ha_offsets, .int (z_i h_step)])), (ha_units, .inl (cA 1, 1280, .inl h_units)), (ha_lengths, .inl (cA 1, 32, .inl h_lengths)), (ha_offsets, .inl (cA 1, 32, .inl h_offsets)), (o, .inr (1, [.ref oa_units, .ref oa_lengths, .ref oa_offsets, .int (z_i o_step)])), (oa_units, .inl (cA 1, 1280, .inl o_units)), (oa_lengths, .inl (cA 1, 32, .inl o_lengths)), (oa_offsets, .inl (cA 1, 32, .inl o_offsets))]) := by
  unfold vc_X7_difference_e at hv
  refine Met.ofW (cc := cX7_difference) (maxL := 11) (ret := (some .int)) (by decide +kernel) rfl ?_
  intro p e s m args below meth c s₁ B hml hv0
  obtain ⟨rfl, hK, hP, hD0⟩ := hv0
  have hx := B.exec
  have hb := B.bytes
  have hr := B.returns
  have hts := atoms_spec (ws := wsX7_difference) B.pre
  have hown : s.vm.findClass RX7 = some m.cls := findClass_of_methodNamed B.named
  have hlocks := B.notSynchronized
  have hD := z_D_self hD0
  generalize hAe : z_A [(x, .inr (5, [.ref xa_grids, .ref x_levelMm, .int (z_i x_levelCount), .ref x_water, .ref x_scratch, .ref x_lines])), (xa_grids, .inl (cA 4, 4, .inr (.inr (.inr (.inr x_grids))))), (g, .inr (1, [.ref ga_units, .ref ga_lengths, .ref ga_offsets, .int (z_i g_step)])), (ga_units, .inl (cA 1, 1280, .inl g_units)), (ga_lengths, .inl (cA 1, 32, .inl g_lengths)), (ga_offsets, .inl (cA 1, 32, .inl g_offsets)), (h, .inr (1, [.ref ha_units, .ref ha_lengths, .ref ha_offsets, .int (z_i h_step)])), (ha_units, .inl (cA 1, 1280, .inl h_units)), (ha_lengths, .inl (cA 1, 32, .inl h_lengths)), (ha_offsets, .inl (cA 1, 32, .inl h_offsets)), (o, .inr (1, [.ref oa_units, .ref oa_lengths, .ref oa_offsets, .int (z_i o_step)])), (oa_units, .inl (cA 1, 1280, .inl o_units)), (oa_lengths, .inl (cA 1, 32, .inl o_lengths)), (oa_offsets, .inl (cA 1, 32, .inl o_offsets))] = A at *
  have hS : va_S A s.heap s.heap [] := va_S.rf
  have hl := lv_entry ([.ref x, .int (z_i gi), .int (z_i hi_), .int (z_i to)]) (n := 11) (Nat.le_of_ble_eq_true rfl)
  rw [lg_entry_eq]
  generalize (lg_sl ([.ref x, .int (z_i gi), .int (z_i hi_), .int (z_i to)]) ++ List.replicate (11 - (lg_sl ([.ref x, .int (z_i gi), .int (z_i hi_), .int (z_i to)])).length) Slot.unset).toArray = ls at hl ⊢
  have hl : lv_has ls 11 [(0, .ref x), (1, .int (z_i gi)), (2, .int (z_i hi_)), (3, .int (z_i to))] := hl
  refine lv_aload_n hx hb dX7_difference_0 rfl (lv_at hl 0 rfl) ?_
  refine lv_iload_n hx hb dX7_difference_1 rfl (lv_at hl 1 rfl) ?_
  refine va_callq (va_runV (As := [.int (z_i gi)]) (rest := []) ⟨hx, hb, hml, hown, hts⟩ (mt_X7_gridOf l D cA x xa_grids x_grids x_levelMm x_levelCount x_water x_scratch x_lines gi h_x_levelCount h_gi) (cwV 1 hts gX7_difference_X7_gridOf rfl rfl rfl (by decide +kernel) ⟨Nat.le_of_ble_eq_true rfl, Nat.le_of_ble_eq_true rfl⟩) ⟨z_bl0, va_recv hK hP (ci := 5) (q0 := 0) rfl rfl, fun U hU hW => ⟨rfl, z_b0 hK (hP.sub (ws' := [(x, .inr (5, [.ref xa_grids, .ref x_levelMm, .int (z_i x_levelCount), .ref x_water, .ref x_scratch, .ref x_lines])), (xa_grids, .inl (cA 4, 4, .inr (.inr (.inr (.inr x_grids)))))]) [0, 1] rfl) hU hW⟩⟩ rfl rfl hl.1 rfl (lv_room (Nat.le_of_ble_eq_true rfl)) dX7_difference_2 ⟨Nat.zero_le _, Nat.zero_le _⟩) hS (fun q _ h => h.elim) (fun q h => h.elim) (fun r0 u t H locs ht hvm hw hB hz1 hk1 hS => ?_)
  have hq1 := hw
  have hP := z_P_all hP hk1
  by_cases hc : 0 ≤ gi ∧ gi < 4
  · have hv := hv.1 hc
    rw [hq1, if_pos hc, hg_gi hc, z_rf_s]
    refine lv_astore (lv' := [(4, .ref g), (0, .ref x), (1, .int (z_i gi)), (2, .int (z_i hi_)), (3, .int (z_i to))]) hx hb dX7_difference_5 hl (by decide) rfl (fun ls hl => ?_)
    refine lv_aload_n hx hb dX7_difference_7 rfl (lv_at hl 1 rfl) ?_
    refine lv_iload_n hx hb dX7_difference_8 rfl (lv_at hl 3 rfl) ?_
    refine va_callq (va_runV (As := [.int (z_i hi_)]) (rest := []) ⟨hx, hb, hml, hown, hts⟩ (mt_X7_gridOf l D cA x xa_grids x_grids x_levelMm x_levelCount x_water x_scratch x_lines hi_ h_x_levelCount h_hi_) (cwV 1 hts gX7_difference_X7_gridOf rfl rfl rfl (by decide +kernel) ⟨Nat.le_of_ble_eq_true rfl, Nat.le_of_ble_eq_true rfl⟩) ⟨z_bl0, va_recv hK hP (ci := 5) (q0 := 0) rfl rfl, fun U hU hW => ⟨rfl, z_b0 hK (hP.sub (ws' := [(x, .inr (5, [.ref xa_grids, .ref x_levelMm, .int (z_i x_levelCount), .ref x_water, .ref x_scratch, .ref x_lines])), (xa_grids, .inl (cA 4, 4, .inr (.inr (.inr (.inr x_grids)))))]) [0, 1] rfl) hU hW⟩⟩ rfl rfl hl.1 rfl (lv_room (Nat.le_of_ble_eq_true rfl)) dX7_difference_9 ⟨Nat.zero_le _, Nat.zero_le _⟩) hS (fun q _ h => h.elim) (fun q h => h.elim) (fun r0 u t H locs ht hvm hw hB hz1 hk1 hS => ?_)
    have hq2 := hw
    have hP := z_P_all hP hk1
    by_cases hc : 0 ≤ hi_ ∧ hi_ < 4
    · have hv := hv.1 hc
      rw [hq2, if_pos hc, hg_hi_ hc, z_rf_s]
      refine lv_astore (lv' := [(5, .ref h), (4, .ref g), (0, .ref x), (1, .int (z_i gi)), (2, .int (z_i hi_)), (3, .int (z_i to))]) hx hb dX7_difference_12 hl (by decide) rfl (fun ls hl => ?_)
      refine lv_aload_n hx hb dX7_difference_14 rfl (lv_at hl 2 rfl) ?_
      refine lv_iload_n hx hb dX7_difference_15 rfl (lv_at hl 5 rfl) ?_
      refine va_callq (va_runV (As := [.int (z_i to)]) (rest := []) ⟨hx, hb, hml, hown, hts⟩ (mt_X7_gridOf l D cA x xa_grids x_grids x_levelMm x_levelCount x_water x_scratch x_lines to h_x_levelCount h_to) (cwV 1 hts gX7_difference_X7_gridOf rfl rfl rfl (by decide +kernel) ⟨Nat.le_of_ble_eq_true rfl, Nat.le_of_ble_eq_true rfl⟩) ⟨z_bl0, va_recv hK hP (ci := 5) (q0 := 0) rfl rfl, fun U hU hW => ⟨rfl, z_b0 hK (hP.sub (ws' := [(x, .inr (5, [.ref xa_grids, .ref x_levelMm, .int (z_i x_levelCount), .ref x_water, .ref x_scratch, .ref x_lines])), (xa_grids, .inl (cA 4, 4, .inr (.inr (.inr (.inr x_grids)))))]) [0, 1] rfl) hU hW⟩⟩ rfl rfl hl.1 rfl (lv_room (Nat.le_of_ble_eq_true rfl)) dX7_difference_16 ⟨Nat.zero_le _, Nat.zero_le _⟩) hS (fun q _ h => h.elim) (fun q h => h.elim) (fun r0 u t H locs ht hvm hw hB hz1 hk1 hS => ?_)
      have hq3 := hw
      have hP := z_P_all hP hk1
      by_cases hc : 0 ≤ to ∧ to < 4
      · have hv := hv.1 hc
        rw [hq3, if_pos hc, hg_to hc, z_rf_s]
        refine lv_astore (lv' := [(6, .ref o), (5, .ref h), (4, .ref g), (0, .ref x), (1, .int (z_i gi)), (2, .int (z_i hi_)), (3, .int (z_i to))]) hx hb dX7_difference_19 hl (by decide) rfl (fun ls hl => ?_)
        refine lv_aload hx hb dX7_difference_21 (lv_at hl 2 rfl) ?_
        refine lv_ifnull hx hb dX7_difference_23 ?_
        refine lv_aload hx hb dX7_difference_26 (lv_at hl 1 rfl) ?_
        refine lv_ifnull hx hb dX7_difference_28 ?_
        refine lv_aload hx hb dX7_difference_31 (lv_at hl 0 rfl) ?_
        refine lv_ifnonnull (tgt := 38) hx hb dX7_difference_33 (by decide) ?_
        refine lv_iconst (v := z_i 0) hx hb dX7_difference_38 rfl ?_
        refine lv_istore (lv' := [(7, .int (z_i 0)), (6, .ref o), (5, .ref h), (4, .ref g), (0, .ref x), (1, .int (z_i gi)), (2, .int (z_i hi_)), (3, .int (z_i to))]) hx hb dX7_difference_39 hl (by decide) rfl (fun ls hl => ?_)
        refine lv_iconst (v := z_i 0) hx hb dX7_difference_41 rfl ?_
        refine lv_istore (lv' := [(8, .int (z_i 0)), (7, .int (z_i 0)), (6, .ref o), (5, .ref h), (4, .ref g), (0, .ref x), (1, .int (z_i gi)), (2, .int (z_i hi_)), (3, .int (z_i to))]) hx hb dX7_difference_42 hl (by decide) rfl (fun ls hl => ?_)
        refine hv (fun (x44_8 : Int) (x44_7 : Int) (y44_oa_units : Nat → Int32) => ∀ (H : Heap) (locs : List Loc) (ls : Array Slot), va_P D vwCl [(x, .inr (5, [.ref xa_grids, .ref x_levelMm, .int (z_i x_levelCount), .ref x_water, .ref x_scratch, .ref x_lines])), (xa_grids, .inl (cA 4, 4, .inr (.inr (.inr (.inr x_grids))))), (g, .inr (1, [.ref ga_units, .ref ga_lengths, .ref ga_offsets, .int (z_i g_step)])), (ga_units, .inl (cA 1, 1280, .inl g_units)), (ga_lengths, .inl (cA 1, 32, .inl g_lengths)), (ga_offsets, .inl (cA 1, 32, .inl g_offsets)), (h, .inr (1, [.ref ha_units, .ref ha_lengths, .ref ha_offsets, .int (z_i h_step)])), (ha_units, .inl (cA 1, 1280, .inl h_units)), (ha_lengths, .inl (cA 1, 32, .inl h_lengths)), (ha_offsets, .inl (cA 1, 32, .inl h_offsets)), (o, .inr (1, [.ref oa_units, .ref oa_lengths, .ref oa_offsets, .int (z_i o_step)])), (oa_units, .inl (cA 1, 1280, .inl y44_oa_units)), (oa_lengths, .inl (cA 1, 32, .inl o_lengths)), (oa_offsets, .inl (cA 1, 32, .inl o_offsets))] H → va_D A [(x, .inr (5, [.ref xa_grids, .ref x_levelMm, .int (z_i x_levelCount), .ref x_water, .ref x_scratch, .ref x_lines])), (xa_grids, .inl (cA 4, 4, .inr (.inr (.inr (.inr x_grids))))), (g, .inr (1, [.ref ga_units, .ref ga_lengths, .ref ga_offsets, .int (z_i g_step)])), (ga_units, .inl (cA 1, 1280, .inl g_units)), (ga_lengths, .inl (cA 1, 32, .inl g_lengths)), (ga_offsets, .inl (cA 1, 32, .inl g_offsets)), (h, .inr (1, [.ref ha_units, .ref ha_lengths, .ref ha_offsets, .int (z_i h_step)])), (ha_units, .inl (cA 1, 1280, .inl h_units)), (ha_lengths, .inl (cA 1, 32, .inl h_lengths)), (ha_offsets, .inl (cA 1, 32, .inl h_offsets)), (o, .inr (1, [.ref oa_units, .ref oa_lengths, .ref oa_offsets, .int (z_i o_step)])), (oa_units, .inl (cA 1, 1280, .inl y44_oa_units)), (oa_lengths, .inl (cA 1, 32, .inl o_lengths)), (oa_offsets, .inl (cA 1, 32, .inl o_offsets))] → va_S A s.heap H locs → lv_has ls 11 [(8, .int (z_i x44_8)), (7, .int (z_i x44_7)), (6, .ref o), (5, .ref h), (4, .ref g)] → W p l e _ s m _ below meth c H locs 0 0 _ (F0 m 44 ls [])) ?_ _ _ ls hP hD hS (lv_sub hl [0, 1, 2, 3, 4] rfl)
        intro x44_8 x44_7 y44_oa_units h_x44_8 h_x44_7 hv H locs ls hP hD hS hl
        refine lv_iload hx hb dX7_difference_44 (lv_at hl 0 rfl) ?_
        refine lv_sipush (v := z_i 1280) hx hb dX7_difference_46 (by decide) ?_
        refine lx_icmp_ge (tgt := 147) hx hb dX7_difference_49 (by decide) h_x44_8 (show z_in 1280 from ⟨by decide, by decide⟩) (fun hc => ?_) (fun hc => ?_)
        · have hv := hv.1 hc
          refine lv_aload hx hb dX7_difference_147 (lv_at hl 2 rfl) ?_
          refine lv_aload hx hb dX7_difference_149 (lv_at hl 4 rfl) ?_
          have hFc := z_fr (A := A) (wc := [(o, .inr (1, [.ref oa_units, .ref oa_lengths, .ref oa_offsets, .int (z_i o_step)])), (oa_units, .inl (cA 1, 1280, .inl y44_oa_units)), (oa_lengths, .inl (cA 1, 32, .inl o_lengths)), (oa_offsets, .inl (cA 1, 32, .inl o_offsets)), (g, .inr (1, [.ref ga_units, .ref ga_lengths, .ref ga_offsets, .int (z_i g_step)])), (ga_units, .inl (cA 1, 1280, .inl g_units)), (ga_lengths, .inl (cA 1, 32, .inl g_lengths)), (ga_offsets, .inl (cA 1, 32, .inl g_offsets))]) hD [10, 11, 12, 13, 2, 3, 4, 5] rfl
          refine va_callv (va_runV (As := [.ref g]) (rest := []) ⟨hx, hb, hml, hown, hts⟩ (mt_X2_takeShape l D cA o oa_units y44_oa_units oa_lengths o_lengths oa_offsets o_offsets o_step g ga_units g_units ga_lengths g_lengths ga_offsets g_offsets g_step h_o_step h_g_step) (cwV 1 hts gX7_difference_X2_takeShape rfl rfl rfl (by decide +kernel) ⟨Nat.le_of_ble_eq_true rfl, Nat.le_of_ble_eq_true rfl⟩) ⟨z_blm0, va_recv hK hP (ci := 1) (q0 := 10) rfl rfl, fun U hU hW => ⟨rfl, z_m0 hK (hP.sub (ws' := [(o, .inr (1, [.ref oa_units, .ref oa_lengths, .ref oa_offsets, .int (z_i o_step)])), (oa_units, .inl (cA 1, 1280, .inl y44_oa_units)), (oa_lengths, .inl (cA 1, 32, .inl o_lengths)), (oa_offsets, .inl (cA 1, 32, .inl o_offsets)), (g, .inr (1, [.ref ga_units, .ref ga_lengths, .ref ga_offsets, .int (z_i g_step)])), (ga_units, .inl (cA 1, 1280, .inl g_units)), (ga_lengths, .inl (cA 1, 32, .inl g_lengths)), (ga_offsets, .inl (cA 1, 32, .inl g_offsets))]) [10, 11, 12, 13, 2, 3, 4, 5] rfl) (hD.sub (ws' := [(o, .inr (1, [.ref oa_units, .ref oa_lengths, .ref oa_offsets, .int (z_i o_step)])), (oa_units, .inl (cA 1, 1280, .inl y44_oa_units)), (oa_lengths, .inl (cA 1, 32, .inl o_lengths)), (oa_offsets, .inl (cA 1, 32, .inl o_offsets)), (g, .inr (1, [.ref ga_units, .ref ga_lengths, .ref ga_offsets, .int (z_i g_step)])), (ga_units, .inl (cA 1, 1280, .inl g_units)), (ga_lengths, .inl (cA 1, 32, .inl g_lengths)), (ga_offsets, .inl (cA 1, 32, .inl g_offsets))]) [10, 11, 12, 13, 2, 3, 4, 5] (by decide) rfl) hU hW⟩⟩ rfl rfl hl.1 rfl (lv_room (Nat.le_of_ble_eq_true rfl)) dX7_difference_151 ⟨Nat.zero_le _, Nat.zero_le _⟩) hS (fun q _ h => hFc q h) hFc (fun u t H locs ht hvm hw hB hz1 hk1 hS => ?_)
          obtain ⟨c4, c5, c6⟩ := u
          rw [ht] at hB
          have hP := z_join2 (wc := [(o, .inr (1, [.ref oa_units, .ref oa_lengths, .ref oa_offsets, .int (z_i o_step)])), (oa_units, .inl (cA 1, 1280, .inl y44_oa_units)), (oa_lengths, .inl (cA 1, 32, .inl o_lengths)), (oa_offsets, .inl (cA 1, 32, .inl o_offsets)), (g, .inr (1, [.ref ga_units, .ref ga_lengths, .ref ga_offsets, .int (z_i g_step)])), (ga_units, .inl (cA 1, 1280, .inl g_units)), (ga_lengths, .inl (cA 1, 32, .inl g_lengths)), (ga_offsets, .inl (cA 1, 32, .inl g_offsets))]) (w1 := [(o, .inr (1, [.ref oa_units, .ref oa_lengths, .ref oa_offsets, .int (z_i c6)])), (oa_units, .inl (cA 1, 1280, .inl y44_oa_units)), (oa_lengths, .inl (cA 1, 32, .inl c4)), (oa_offsets, .inl (cA 1, 32, .inl c5)), (g, .inr (1, [.ref ga_units, .ref ga_lengths, .ref ga_offsets, .int (z_i g_step)])), (ga_units, .inl (cA 1, 1280, .inl g_units)), (ga_lengths, .inl (cA 1, 32, .inl g_lengths)), (ga_offsets, .inl (cA 1, 32, .inl g_offsets))]) hP hD [10, 11, 12, 13, 2, 3, 4, 5] [0, 0, 5, 6, 7, 8, 0, 0, 0, 0, 1, 2, 3, 4] rfl rfl rfl hk1 hB
          have hP : va_P D vwCl [(x, .inr (5, [.ref xa_grids, .ref x_levelMm, .int (z_i x_levelCount), .ref x_water, .ref x_scratch, .ref x_lines])), (xa_grids, .inl (cA 4, 4, .inr (.inr (.inr (.inr x_grids))))), (g, .inr (1, [.ref ga_units, .ref ga_lengths, .ref ga_offsets, .int (z_i g_step)])), (ga_units, .inl (cA 1, 1280, .inl g_units)), (ga_lengths, .inl (cA 1, 32, .inl g_lengths)), (ga_offsets, .inl (cA 1, 32, .inl g_offsets)), (h, .inr (1, [.ref ha_units, .ref ha_lengths, .ref ha_offsets, .int (z_i h_step)])), (ha_units, .inl (cA 1, 1280, .inl h_units)), (ha_lengths, .inl (cA 1, 32, .inl h_lengths)), (ha_offsets, .inl (cA 1, 32, .inl h_offsets)), (o, .inr (1, [.ref oa_units, .ref oa_lengths, .ref oa_offsets, .int (z_i c6)])), (oa_units, .inl (cA 1, 1280, .inl y44_oa_units)), (oa_lengths, .inl (cA 1, 32, .inl c4)), (oa_offsets, .inl (cA 1, 32, .inl c5))] H := hP
          have hD : va_D A [(x, .inr (5, [.ref xa_grids, .ref x_levelMm, .int (z_i x_levelCount), .ref x_water, .ref x_scratch, .ref x_lines])), (xa_grids, .inl (cA 4, 4, .inr (.inr (.inr (.inr x_grids))))), (g, .inr (1, [.ref ga_units, .ref ga_lengths, .ref ga_offsets, .int (z_i g_step)])), (ga_units, .inl (cA 1, 1280, .inl g_units)), (ga_lengths, .inl (cA 1, 32, .inl g_lengths)), (ga_offsets, .inl (cA 1, 32, .inl g_offsets)), (h, .inr (1, [.ref ha_units, .ref ha_lengths, .ref ha_offsets, .int (z_i h_step)])), (ha_units, .inl (cA 1, 1280, .inl h_units)), (ha_lengths, .inl (cA 1, 32, .inl h_lengths)), (ha_offsets, .inl (cA 1, 32, .inl h_offsets)), (o, .inr (1, [.ref oa_units, .ref oa_lengths, .ref oa_offsets, .int (z_i c6)])), (oa_units, .inl (cA 1, 1280, .inl y44_oa_units)), (oa_lengths, .inl (cA 1, 32, .inl c4)), (oa_offsets, .inl (cA 1, 32, .inl c5))] := z_D_addr hD rfl
          obtain ⟨h_c6, hw⟩ := hw
          have hv := hv c4 c5 c6 h_c6 hw
          refine lv_iload hx hb dX7_difference_154 (lv_at hl 1 rfl) ?_
          exact W.iret (v := z_i x44_7) hx hb hr (fun t ht hW => ⟨⟨z_i x44_7, (y44_oa_units, c4, c5, c6), rfl, ⟨x44_7, rfl, h_x44_7, h_c6, hv⟩, z_pt hP ht⟩, hS.F ht⟩) hS.2.2 dX7_difference_156
        · have hv := hv.2 hc
          refine lv_aload hx hb dX7_difference_52 (lv_at hl 4 rfl) ?_
          refine lv_iload hx hb dX7_difference_54 (lv_at hl 0 rfl) ?_
          refine va_calli (va_runV (As := [.int (z_i x44_8)]) (rest := []) ⟨hx, hb, hml, hown, hts⟩ (mt_X2_isThere l D cA g ga_units g_units ga_lengths g_lengths ga_offsets g_offsets g_step x44_8 h_g_step h_x44_8) (cwV 1 hts gX7_difference_X2_isThere rfl rfl rfl (by decide +kernel) ⟨Nat.le_of_ble_eq_true rfl, Nat.le_of_ble_eq_true rfl⟩) ⟨z_bl0, va_recv hK hP (ci := 1) (q0 := 2) rfl rfl, fun U hU hW => ⟨rfl, z_b0 hK (hP.sub (ws' := [(g, .inr (1, [.ref ga_units, .ref ga_lengths, .ref ga_offsets, .int (z_i g_step)])), (ga_units, .inl (cA 1, 1280, .inl g_units)), (ga_lengths, .inl (cA 1, 32, .inl g_lengths)), (ga_offsets, .inl (cA 1, 32, .inl g_offsets))]) [2, 3, 4, 5] rfl) hU hW⟩⟩ rfl rfl hl.1 rfl (lv_room (Nat.le_of_ble_eq_true rfl)) dX7_difference_56 ⟨Nat.zero_le _, Nat.zero_le _⟩) hS (fun q _ h => h.elim) (fun q h => h.elim) (fun r0 u t H locs ht hvm hw hB hz1 hk1 hS => ?_)
          obtain ⟨r7, rfl, h_r7, hw⟩ := hw
          have hP := z_P_all hP hk1
          have hv := hv r7 h_r7 hw
          refine lx_if_eq (tgt := 76) hx hb dX7_difference_59 (by decide) h_r7 (fun hc => ?_) (fun hc => ?_)
          · have hv := hv.1 hc
            refine lv_iconst (v := z_i 0) hx hb dX7_difference_76 rfl ?_
            refine lv_istore (lv' := [(9, .int (z_i 0)), (8, .int (z_i x44_8)), (7, .int (z_i x44_7)), (6, .ref o), (5, .ref h), (4, .ref g)]) hx hb dX7_difference_77 hl (by decide) rfl (fun ls hl => ?_)
            refine lv_iload hx hb dX7_difference_79 (lv_at hl 0 rfl) ?_
            refine lx_if_eq (tgt := 102) hx hb dX7_difference_81 (by decide) ⟨by decide, by decide⟩ (fun _ => ?_) (fun hc => absurd hc (by decide))
            refine lx_ldc (a := (-2147483648)) hx hb hown (hts (.constant RX7 61 (-2147483648)) (by decide +kernel)) (by decide) dX7_difference_102 ?_
            refine lv_istore (lv' := [(10, .int (z_i (-2147483648))), (9, .int (z_i 0)), (8, .int (z_i x44_8)), (7, .int (z_i x44_7)), (6, .ref o), (5, .ref h), (4, .ref g)]) hx hb dX7_difference_104 hl (by decide) rfl (fun ls hl => ?_)
            refine lv_iload hx hb dX7_difference_106 (lv_at hl 1 rfl) ?_
            refine lx_if_eq (tgt := 132) hx hb dX7_difference_108 (by decide) ⟨by decide, by decide⟩ (fun _ => ?_) (fun hc => absurd hc (by decide))
            refine lv_aload hx hb dX7_difference_132 (lv_at hl 4 rfl) ?_
            refine lv_iload hx hb dX7_difference_134 (lv_at hl 2 rfl) ?_
            refine lv_iload hx hb dX7_difference_136 (lv_at hl 0 rfl) ?_
            obtain ⟨hp8, hv⟩ := hv
            have hFc := z_fr (A := A) (wc := [(o, .inr (1, [.ref oa_units, .ref oa_lengths, .ref oa_offsets, .int (z_i o_step)])), (oa_units, .inl (cA 1, 1280, .inl y44_oa_units)), (oa_lengths, .inl (cA 1, 32, .inl o_lengths)), (oa_offsets, .inl (cA 1, 32, .inl o_offsets))]) hD [10, 11, 12, 13] rfl
            refine va_callv (va_runV (As := [.int (z_i x44_8), .int (z_i (-2147483648))]) (rest := []) ⟨hx, hb, hml, hown, hts⟩ (mt_X2_put l D cA o oa_units y44_oa_units oa_lengths o_lengths oa_offsets o_offsets o_step x44_8 (-2147483648) h_o_step h_x44_8 (show z_in (-2147483648) from ⟨by decide, by decide⟩) hp8) (cwV 2 hts gX7_difference_X2_put rfl rfl rfl (by decide +kernel) ⟨Nat.le_of_ble_eq_true rfl, Nat.le_of_ble_eq_true rfl⟩) ⟨z_blm0, va_recv hK hP (ci := 1) (q0 := 10) rfl rfl, fun U hU hW => ⟨rfl, z_m0 hK (hP.sub (ws' := [(o, .inr (1, [.ref oa_units, .ref oa_lengths, .ref oa_offsets, .int (z_i o_step)])), (oa_units, .inl (cA 1, 1280, .inl y44_oa_units)), (oa_lengths, .inl (cA 1, 32, .inl o_lengths)), (oa_offsets, .inl (cA 1, 32, .inl o_offsets))]) [10, 11, 12, 13] rfl) (hD.sub (ws' := [(o, .inr (1, [.ref oa_units, .ref oa_lengths, .ref oa_offsets, .int (z_i o_step)])), (oa_units, .inl (cA 1, 1280, .inl y44_oa_units)), (oa_lengths, .inl (cA 1, 32, .inl o_lengths)), (oa_offsets, .inl (cA 1, 32, .inl o_offsets))]) [10, 11, 12, 13] (by decide) rfl) hU hW⟩⟩ rfl rfl hl.1 rfl (lv_room (Nat.le_of_ble_eq_true rfl)) dX7_difference_138 ⟨Nat.zero_le _, Nat.zero_le _⟩) hS (fun q _ h => hFc q h) hFc (fun u t H locs ht hvm hw hB hz1 hk1 hS => ?_)
            obtain ⟨c9, rfl⟩ : ∃ z, z = u := ⟨_, rfl⟩
            rw [ht] at hB
            have hP := z_join2 (wc := [(o, .inr (1, [.ref oa_units, .ref oa_lengths, .ref oa_offsets, .int (z_i o_step)])), (oa_units, .inl (cA 1, 1280, .inl y44_oa_units)), (oa_lengths, .inl (cA 1, 32, .inl o_lengths)), (oa_offsets, .inl (cA 1, 32, .inl o_offsets))]) (w1 := [(o, .inr (1, [.ref oa_units, .ref oa_lengths, .ref oa_offsets, .int (z_i o_step)])), (oa_units, .inl (cA 1, 1280, .inl c9)), (oa_lengths, .inl (cA 1, 32, .inl o_lengths)), (oa_offsets, .inl (cA 1, 32, .inl o_offsets))]) hP hD [10, 11, 12, 13] [0, 0, 0, 0, 0, 0, 0, 0, 0, 0, 1, 2, 3, 4] rfl rfl rfl hk1 hB
            have hP : va_P D vwCl [(x, .inr (5, [.ref xa_grids, .ref x_levelMm, .int (z_i x_levelCount), .ref x_water, .ref x_scratch, .ref x_lines])), (xa_grids, .inl (cA 4, 4, .inr (.inr (.inr (.inr x_grids))))), (g, .inr (1, [.ref ga_units, .ref ga_lengths, .ref ga_offsets, .int (z_i g_step)])), (ga_units, .inl (cA 1, 1280, .inl g_units)), (ga_lengths, .inl (cA 1, 32, .inl g_lengths)), (ga_offsets, .inl (cA 1, 32, .inl g_offsets)), (h, .inr (1, [.ref ha_units, .ref ha_lengths, .ref ha_offsets, .int (z_i h_step)])), (ha_units, .inl (cA 1, 1280, .inl h_units)), (ha_lengths, .inl (cA 1, 32, .inl h_lengths)), (ha_offsets, .inl (cA 1, 32, .inl h_offsets)), (o, .inr (1, [.ref oa_units, .ref oa_lengths, .ref oa_offsets, .int (z_i o_step)])), (oa_units, .inl (cA 1, 1280, .inl c9)), (oa_lengths, .inl (cA 1, 32, .inl o_lengths)), (oa_offsets, .inl (cA 1, 32, .inl o_offsets))] H := hP
            have hD : va_D A [(x, .inr (5, [.ref xa_grids, .ref x_levelMm, .int (z_i x_levelCount), .ref x_water, .ref x_scratch, .ref x_lines])), (xa_grids, .inl (cA 4, 4, .inr (.inr (.inr (.inr x_grids))))), (g, .inr (1, [.ref ga_units, .ref ga_lengths, .ref ga_offsets, .int (z_i g_step)])), (ga_units, .inl (cA 1, 1280, .inl g_units)), (ga_lengths, .inl (cA 1, 32, .inl g_lengths)), (ga_offsets, .inl (cA 1, 32, .inl g_offsets)), (h, .inr (1, [.ref ha_units, .ref ha_lengths, .ref ha_offsets, .int (z_i h_step)])), (ha_units, .inl (cA 1, 1280, .inl h_units)), (ha_lengths, .inl (cA 1, 32, .inl h_lengths)), (ha_offsets, .inl (cA 1, 32, .inl h_offsets)), (o, .inr (1, [.ref oa_units, .ref oa_lengths, .ref oa_offsets, .int (z_i o_step)])), (oa_units, .inl (cA 1, 1280, .inl c9)), (oa_lengths, .inl (cA 1, 32, .inl o_lengths)), (oa_offsets, .inl (cA 1, 32, .inl o_offsets))] := z_D_addr hD rfl
            have hv := hv c9 hw
            refine lv_iinc (v := z_i (x44_8 + 1)) (lv' := [(8, .int (z_i (x44_8 + 1))), (10, .int (z_i (-2147483648))), (9, .int (z_i 0)), (7, .int (z_i x44_7)), (6, .ref o), (5, .ref h), (4, .ref g)]) hx hb dX7_difference_141 hl (k := 2) rfl (z_i_add _ _) (by decide) rfl (fun ls hl => ?_)
            refine lv_goto (tgt := 44) hx hb dX7_difference_144 (by decide) ?_
            exact hv _ _ ls hP hD hS (lv_sub hl [0, 3, 4, 5, 6] rfl)
          · have hv := hv.2 hc
            refine lv_aload hx hb dX7_difference_62 (lv_at hl 3 rfl) ?_
            refine lv_iload hx hb dX7_difference_64 (lv_at hl 0 rfl) ?_
            refine va_calli (va_runV (As := [.int (z_i x44_8)]) (rest := []) ⟨hx, hb, hml, hown, hts⟩ (mt_X2_isThere l D cA h ha_units h_units ha_lengths h_lengths ha_offsets h_offsets h_step x44_8 h_h_step h_x44_8) (cwV 1 hts gX7_difference_X2_isThere rfl rfl rfl (by decide +kernel) ⟨Nat.le_of_ble_eq_true rfl, Nat.le_of_ble_eq_true rfl⟩) ⟨z_bl0, va_recv hK hP (ci := 1) (q0 := 6) rfl rfl, fun U hU hW => ⟨rfl, z_b0 hK (hP.sub (ws' := [(h, .inr (1, [.ref ha_units, .ref ha_lengths, .ref ha_offsets, .int (z_i h_step)])), (ha_units, .inl (cA 1, 1280, .inl h_units)), (ha_lengths, .inl (cA 1, 32, .inl h_lengths)), (ha_offsets, .inl (cA 1, 32, .inl h_offsets))]) [6, 7, 8, 9] rfl) hU hW⟩⟩ rfl rfl hl.1 rfl (lv_room (Nat.le_of_ble_eq_true rfl)) dX7_difference_66 ⟨Nat.zero_le _, Nat.zero_le _⟩) hS (fun q _ h => h.elim) (fun q h => h.elim) (fun r0 u t H locs ht hvm hw hB hz1 hk1 hS => ?_)
            obtain ⟨r10, rfl, h_r10, hw⟩ := hw
            have hP := z_P_all hP hk1
            have hv := hv r10 h_r10 hw
            refine lx_if_eq (tgt := 76) hx hb dX7_difference_69 (by decide) h_r10 (fun hc => ?_) (fun hc => ?_)
            · have hv := hv.1 hc
              refine lv_iconst (v := z_i 0) hx hb dX7_difference_76 rfl ?_
              refine lv_istore (lv' := [(9, .int (z_i 0)), (8, .int (z_i x44_8)), (7, .int (z_i x44_7)), (6, .ref o), (5, .ref h), (4, .ref g)]) hx hb dX7_difference_77 hl (by decide) rfl (fun ls hl => ?_)
              refine lv_iload hx hb dX7_difference_79 (lv_at hl 0 rfl) ?_
              refine lx_if_eq (tgt := 102) hx hb dX7_difference_81 (by decide) ⟨by decide, by decide⟩ (fun _ => ?_) (fun hc => absurd hc (by decide))
              refine lx_ldc (a := (-2147483648)) hx hb hown (hts (.constant RX7 61 (-2147483648)) (by decide +kernel)) (by decide) dX7_difference_102 ?_
              refine lv_istore (lv' := [(10, .int (z_i (-2147483648))), (9, .int (z_i 0)), (8, .int (z_i x44_8)), (7, .int (z_i x44_7)), (6, .ref o), (5, .ref h), (4, .ref g)]) hx hb dX7_difference_104 hl (by decide) rfl (fun ls hl => ?_)
              refine lv_iload hx hb dX7_difference_106 (lv_at hl 1 rfl) ?_
              refine lx_if_eq (tgt := 132) hx hb dX7_difference_108 (by decide) ⟨by decide, by decide⟩ (fun _ => ?_) (fun hc => absurd hc (by decide))
              refine lv_aload hx hb dX7_difference_132 (lv_at hl 4 rfl) ?_
              refine lv_iload hx hb dX7_difference_134 (lv_at hl 2 rfl) ?_
              refine lv_iload hx hb dX7_difference_136 (lv_at hl 0 rfl) ?_
              obtain ⟨hp11, hv⟩ := hv
              have hFc := z_fr (A := A) (wc := [(o, .inr (1, [.ref oa_units, .ref oa_lengths, .ref oa_offsets, .int (z_i o_step)])), (oa_units, .inl (cA 1, 1280, .inl y44_oa_units)), (oa_lengths, .inl (cA 1, 32, .inl o_lengths)), (oa_offsets, .inl (cA 1, 32, .inl o_offsets))]) hD [10, 11, 12, 13] rfl
              refine va_callv (va_runV (As := [.int (z_i x44_8), .int (z_i (-2147483648))]) (rest := []) ⟨hx, hb, hml, hown, hts⟩ (mt_X2_put l D cA o oa_units y44_oa_units oa_lengths o_lengths oa_offsets o_offsets o_step x44_8 (-2147483648) h_o_step h_x44_8 (show z_in (-2147483648) from ⟨by decide, by decide⟩) hp11) (cwV 2 hts gX7_difference_X2_put rfl rfl rfl (by decide +kernel) ⟨Nat.le_of_ble_eq_true rfl, Nat.le_of_ble_eq_true rfl⟩) ⟨z_blm0, va_recv hK hP (ci := 1) (q0 := 10) rfl rfl, fun U hU hW => ⟨rfl, z_m0 hK (hP.sub (ws' := [(o, .inr (1, [.ref oa_units, .ref oa_lengths, .ref oa_offsets, .int (z_i o_step)])), (oa_units, .inl (cA 1, 1280, .inl y44_oa_units)), (oa_lengths, .inl (cA 1, 32, .inl o_lengths)), (oa_offsets, .inl (cA 1, 32, .inl o_offsets))]) [10, 11, 12, 13] rfl) (hD.sub (ws' := [(o, .inr (1, [.ref oa_units, .ref oa_lengths, .ref oa_offsets, .int (z_i o_step)])), (oa_units, .inl (cA 1, 1280, .inl y44_oa_units)), (oa_lengths, .inl (cA 1, 32, .inl o_lengths)), (oa_offsets, .inl (cA 1, 32, .inl o_offsets))]) [10, 11, 12, 13] (by decide) rfl) hU hW⟩⟩ rfl rfl hl.1 rfl (lv_room (Nat.le_of_ble_eq_true rfl)) dX7_difference_138 ⟨Nat.zero_le _, Nat.zero_le _⟩) hS (fun q _ h => hFc q h) hFc (fun u t H locs ht hvm hw hB hz1 hk1 hS => ?_)
              obtain ⟨c12, rfl⟩ : ∃ z, z = u := ⟨_, rfl⟩
              rw [ht] at hB
              have hP := z_join2 (wc := [(o, .inr (1, [.ref oa_units, .ref oa_lengths, .ref oa_offsets, .int (z_i o_step)])), (oa_units, .inl (cA 1, 1280, .inl y44_oa_units)), (oa_lengths, .inl (cA 1, 32, .inl o_lengths)), (oa_offsets, .inl (cA 1, 32, .inl o_offsets))]) (w1 := [(o, .inr (1, [.ref oa_units, .ref oa_lengths, .ref oa_offsets, .int (z_i o_step)])), (oa_units, .inl (cA 1, 1280, .inl c12)), (oa_lengths, .inl (cA 1, 32, .inl o_lengths)), (oa_offsets, .inl (cA 1, 32, .inl o_offsets))]) hP hD [10, 11, 12, 13] [0, 0, 0, 0, 0, 0, 0, 0, 0, 0, 1, 2, 3, 4] rfl rfl rfl hk1 hB
              have hP : va_P D vwCl [(x, .inr (5, [.ref xa_grids, .ref x_levelMm, .int (z_i x_levelCount), .ref x_water, .ref x_scratch, .ref x_lines])), (xa_grids, .inl (cA 4, 4, .inr (.inr (.inr (.inr x_grids))))), (g, .inr (1, [.ref ga_units, .ref ga_lengths, .ref ga_offsets, .int (z_i g_step)])), (ga_units, .inl (cA 1, 1280, .inl g_units)), (ga_lengths, .inl (cA 1, 32, .inl g_lengths)), (ga_offsets, .inl (cA 1, 32, .inl g_offsets)), (h, .inr (1, [.ref ha_units, .ref ha_lengths, .ref ha_offsets, .int (z_i h_step)])), (ha_units, .inl (cA 1, 1280, .inl h_units)), (ha_lengths, .inl (cA 1, 32, .inl h_lengths)), (ha_offsets, .inl (cA 1, 32, .inl h_offsets)), (o, .inr (1, [.ref oa_units, .ref oa_lengths, .ref oa_offsets, .int (z_i o_step)])), (oa_units, .inl (cA 1, 1280, .inl c12)), (oa_lengths, .inl (cA 1, 32, .inl o_lengths)), (oa_offsets, .inl (cA 1, 32, .inl o_offsets))] H := hP
              have hD : va_D A [(x, .inr (5, [.ref xa_grids, .ref x_levelMm, .int (z_i x_levelCount), .ref x_water, .ref x_scratch, .ref x_lines])), (xa_grids, .inl (cA 4, 4, .inr (.inr (.inr (.inr x_grids))))), (g, .inr (1, [.ref ga_units, .ref ga_lengths, .ref ga_offsets, .int (z_i g_step)])), (ga_units, .inl (cA 1, 1280, .inl g_units)), (ga_lengths, .inl (cA 1, 32, .inl g_lengths)), (ga_offsets, .inl (cA 1, 32, .inl g_offsets)), (h, .inr (1, [.ref ha_units, .ref ha_lengths, .ref ha_offsets, .int (z_i h_step)])), (ha_units, .inl (cA 1, 1280, .inl h_units)), (ha_lengths, .inl (cA 1, 32, .inl h_lengths)), (ha_offsets, .inl (cA 1, 32, .inl h_offsets)), (o, .inr (1, [.ref oa_units, .ref oa_lengths, .ref oa_offsets, .int (z_i o_step)])), (oa_units, .inl (cA 1, 1280, .inl c12)), (oa_lengths, .inl (cA 1, 32, .inl o_lengths)), (oa_offsets, .inl (cA 1, 32, .inl o_offsets))] := z_D_addr hD rfl
              have hv := hv c12 hw
              refine lv_iinc (v := z_i (x44_8 + 1)) (lv' := [(8, .int (z_i (x44_8 + 1))), (10, .int (z_i (-2147483648))), (9, .int (z_i 0)), (7, .int (z_i x44_7)), (6, .ref o), (5, .ref h), (4, .ref g)]) hx hb dX7_difference_141 hl (k := 2) rfl (z_i_add _ _) (by decide) rfl (fun ls hl => ?_)
              refine lv_goto (tgt := 44) hx hb dX7_difference_144 (by decide) ?_
              exact hv _ _ ls hP hD hS (lv_sub hl [0, 3, 4, 5, 6] rfl)
            · have hv := hv.2 hc
              refine lv_iconst (v := z_i 1) hx hb dX7_difference_72 rfl ?_
              refine lv_goto (tgt := 77) hx hb dX7_difference_73 (by decide) ?_
              refine lv_istore (lv' := [(9, .int (z_i 1)), (8, .int (z_i x44_8)), (7, .int (z_i x44_7)), (6, .ref o), (5, .ref h), (4, .ref g)]) hx hb dX7_difference_77 hl (by decide) rfl (fun ls hl => ?_)
              refine lv_iload hx hb dX7_difference_79 (lv_at hl 0 rfl) ?_
              refine lx_if_eq (tgt := 102) hx hb dX7_difference_81 (by decide) ⟨by decide, by decide⟩ (fun hc => absurd hc (by decide)) (fun _ => ?_)
              refine lv_aload hx hb dX7_difference_84 (lv_at hl 5 rfl) ?_
              refine lv_iload hx hb dX7_difference_86 (lv_at hl 1 rfl) ?_
              refine va_calli (va_runV (As := [.int (z_i x44_8)]) (rest := []) ⟨hx, hb, hml, hown, hts⟩ (mt_X2_unitsOf l D cA g ga_units g_units ga_lengths g_lengths ga_offsets g_offsets g_step x44_8 h_g_step h_x44_8) (cwV 1 hts gX7_difference_X2_unitsOf rfl rfl rfl (by decide +kernel) ⟨Nat.le_of_ble_eq_true rfl, Nat.le_of_ble_eq_true rfl⟩) ⟨z_bl0, va_recv hK hP (ci := 1) (q0 := 2) rfl rfl, fun U hU hW => ⟨rfl, z_b0 hK (hP.sub (ws' := [(g, .inr (1, [.ref ga_units, .ref ga_lengths, .ref ga_offsets, .int (z_i g_step)])), (ga_units, .inl (cA 1, 1280, .inl g_units)), (ga_lengths, .inl (cA 1, 32, .inl g_lengths)), (ga_offsets, .inl (cA 1, 32, .inl g_offsets))]) [2, 3, 4, 5] rfl) hU hW⟩⟩ rfl rfl hl.1 rfl (lv_room (Nat.le_of_ble_eq_true rfl)) dX7_difference_88 ⟨Nat.zero_le _, Nat.zero_le _⟩) hS (fun q _ h => h.elim) (fun q h => h.elim) (fun r0 u t H locs ht hvm hw hB hz1 hk1 hS => ?_)
              obtain ⟨r13, rfl, h_r13, hw⟩ := hw
              have hP := z_P_all hP hk1
              have hv := hv r13 h_r13 hw
              refine lv_aload hx hb dX7_difference_91 (lv_at hl 4 rfl) ?_
              refine lv_iload hx hb dX7_difference_93 (lv_at hl 1 rfl) ?_
              refine va_calli (va_runV (As := [.int (z_i x44_8)]) (rest := [.int (z_i r13)]) ⟨hx, hb, hml, hown, hts⟩ (mt_X2_unitsOf l D cA h ha_units h_units ha_lengths h_lengths ha_offsets h_offsets h_step x44_8 h_h_step h_x44_8) (cwV 1 hts gX7_difference_X2_unitsOf rfl rfl rfl (by decide +kernel) ⟨Nat.le_of_ble_eq_true rfl, Nat.le_of_ble_eq_true rfl⟩) ⟨z_bl0, va_recv hK hP (ci := 1) (q0 := 6) rfl rfl, fun U hU hW => ⟨rfl, z_b0 hK (hP.sub (ws' := [(h, .inr (1, [.ref ha_units, .ref ha_lengths, .ref ha_offsets, .int (z_i h_step)])), (ha_units, .inl (cA 1, 1280, .inl h_units)), (ha_lengths, .inl (cA 1, 32, .inl h_lengths)), (ha_offsets, .inl (cA 1, 32, .inl h_offsets))]) [6, 7, 8, 9] rfl) hU hW⟩⟩ rfl rfl hl.1 rfl (lv_room (Nat.le_of_ble_eq_true rfl)) dX7_difference_95 ⟨Nat.zero_le _, Nat.zero_le _⟩) hS (fun q _ h => h.elim) (fun q h => h.elim) (fun r0 u t H locs ht hvm hw hB hz1 hk1 hS => ?_)
              obtain ⟨r14, rfl, h_r14, hw⟩ := hw
              have hP := z_P_all hP hk1
              have hv := hv r14 h_r14 hw
              refine lx_isub hx hb dX7_difference_98 ?_
              refine lv_goto (tgt := 104) hx hb dX7_difference_99 (by decide) ?_
              obtain ⟨hr16, hv⟩ := hv
              refine lx_topi (fun v15 hy17 => ?_)
              have hv := hv v15 hy17
              have h_v15 : z_in v15 := by rw [hy17]; exact hr16
              refine lv_istore (lv' := [(10, .int (z_i v15)), (9, .int (z_i 1)), (8, .int (z_i x44_8)), (7, .int (z_i x44_7)), (6, .ref o), (5, .ref h), (4, .ref g)]) hx hb dX7_difference_104 hl (by decide) rfl (fun ls hl => ?_)
              refine lv_iload hx hb dX7_difference_106 (lv_at hl 1 rfl) ?_
              refine lx_if_eq (tgt := 132) hx hb dX7_difference_108 (by decide) ⟨by decide, by decide⟩ (fun hc => absurd hc (by decide)) (fun _ => ?_)
              refine lv_iload hx hb dX7_difference_111 (lv_at hl 0 rfl) ?_
              refine lx_ldc (a := (-8388608)) hx hb hown (hts (.constant RX7 180 (-8388608)) (by decide +kernel)) (by decide) dX7_difference_113 ?_
              refine lx_icmp_lt (tgt := 125) hx hb dX7_difference_115 (by decide) h_v15 (show z_in (-8388608) from ⟨by decide, by decide⟩) (fun hc => ?_) (fun hc => ?_)
              · have hv := hv.1 hc
                refine lv_iinc (v := z_i (x44_7 + 1)) (lv' := [(7, .int (z_i (x44_7 + 1))), (10, .int (z_i v15)), (9, .int (z_i 1)), (8, .int (z_i x44_8)), (6, .ref o), (5, .ref h), (4, .ref g)]) hx hb dX7_difference_125 hl (k := 3) rfl (z_i_add _ _) (by decide) rfl (fun ls hl => ?_)
                refine lx_ldc (a := (-2147483648)) hx hb hown (hts (.constant RX7 61 (-2147483648)) (by decide +kernel)) (by decide) dX7_difference_128 ?_
                refine lv_istore (lv' := [(10, .int (z_i (-2147483648))), (7, .int (z_i (x44_7 + 1))), (9, .int (z_i 1)), (8, .int (z_i x44_8)), (6, .ref o), (5, .ref h), (4, .ref g)]) hx hb dX7_difference_130 hl (by decide) rfl (fun ls hl => ?_)
                refine lv_aload hx hb dX7_difference_132 (lv_at hl 4 rfl) ?_
                refine lv_iload hx hb dX7_difference_134 (lv_at hl 3 rfl) ?_
                refine lv_iload hx hb dX7_difference_136 (lv_at hl 0 rfl) ?_
                obtain ⟨hp18, hv⟩ := hv
                have hFc := z_fr (A := A) (wc := [(o, .inr (1, [.ref oa_units, .ref oa_lengths, .ref oa_offsets, .int (z_i o_step)])), (oa_units, .inl (cA 1, 1280, .inl y44_oa_units)), (oa_lengths, .inl (cA 1, 32, .inl o_lengths)), (oa_offsets, .inl (cA 1, 32, .inl o_offsets))]) hD [10, 11, 12, 13] rfl
                refine va_callv (va_runV (As := [.int (z_i x44_8), .int (z_i (-2147483648))]) (rest := []) ⟨hx, hb, hml, hown, hts⟩ (mt_X2_put l D cA o oa_units y44_oa_units oa_lengths o_lengths oa_offsets o_offsets o_step x44_8 (-2147483648) h_o_step h_x44_8 (show z_in (-2147483648) from ⟨by decide, by decide⟩) hp18) (cwV 2 hts gX7_difference_X2_put rfl rfl rfl (by decide +kernel) ⟨Nat.le_of_ble_eq_true rfl, Nat.le_of_ble_eq_true rfl⟩) ⟨z_blm0, va_recv hK hP (ci := 1) (q0 := 10) rfl rfl, fun U hU hW => ⟨rfl, z_m0 hK (hP.sub (ws' := [(o, .inr (1, [.ref oa_units, .ref oa_lengths, .ref oa_offsets, .int (z_i o_step)])), (oa_units, .inl (cA 1, 1280, .inl y44_oa_units)), (oa_lengths, .inl (cA 1, 32, .inl o_lengths)), (oa_offsets, .inl (cA 1, 32, .inl o_offsets))]) [10, 11, 12, 13] rfl) (hD.sub (ws' := [(o, .inr (1, [.ref oa_units, .ref oa_lengths, .ref oa_offsets, .int (z_i o_step)])), (oa_units, .inl (cA 1, 1280, .inl y44_oa_units)), (oa_lengths, .inl (cA 1, 32, .inl o_lengths)), (oa_offsets, .inl (cA 1, 32, .inl o_offsets))]) [10, 11, 12, 13] (by decide) rfl) hU hW⟩⟩ rfl rfl hl.1 rfl (lv_room (Nat.le_of_ble_eq_true rfl)) dX7_difference_138 ⟨Nat.zero_le _, Nat.zero_le _⟩) hS (fun q _ h => hFc q h) hFc (fun u t H locs ht hvm hw hB hz1 hk1 hS => ?_)
                obtain ⟨c19, rfl⟩ : ∃ z, z = u := ⟨_, rfl⟩
                rw [ht] at hB
                have hP := z_join2 (wc := [(o, .inr (1, [.ref oa_units, .ref oa_lengths, .ref oa_offsets, .int (z_i o_step)])), (oa_units, .inl (cA 1, 1280, .inl y44_oa_units)), (oa_lengths, .inl (cA 1, 32, .inl o_lengths)), (oa_offsets, .inl (cA 1, 32, .inl o_offsets))]) (w1 := [(o, .inr (1, [.ref oa_units, .ref oa_lengths, .ref oa_offsets, .int (z_i o_step)])), (oa_units, .inl (cA 1, 1280, .inl c19)), (oa_lengths, .inl (cA 1, 32, .inl o_lengths)), (oa_offsets, .inl (cA 1, 32, .inl o_offsets))]) hP hD [10, 11, 12, 13] [0, 0, 0, 0, 0, 0, 0, 0, 0, 0, 1, 2, 3, 4] rfl rfl rfl hk1 hB
                have hP : va_P D vwCl [(x, .inr (5, [.ref xa_grids, .ref x_levelMm, .int (z_i x_levelCount), .ref x_water, .ref x_scratch, .ref x_lines])), (xa_grids, .inl (cA 4, 4, .inr (.inr (.inr (.inr x_grids))))), (g, .inr (1, [.ref ga_units, .ref ga_lengths, .ref ga_offsets, .int (z_i g_step)])), (ga_units, .inl (cA 1, 1280, .inl g_units)), (ga_lengths, .inl (cA 1, 32, .inl g_lengths)), (ga_offsets, .inl (cA 1, 32, .inl g_offsets)), (h, .inr (1, [.ref ha_units, .ref ha_lengths, .ref ha_offsets, .int (z_i h_step)])), (ha_units, .inl (cA 1, 1280, .inl h_units)), (ha_lengths, .inl (cA 1, 32, .inl h_lengths)), (ha_offsets, .inl (cA 1, 32, .inl h_offsets)), (o, .inr (1, [.ref oa_units, .ref oa_lengths, .ref oa_offsets, .int (z_i o_step)])), (oa_units, .inl (cA 1, 1280, .inl c19)), (oa_lengths, .inl (cA 1, 32, .inl o_lengths)), (oa_offsets, .inl (cA 1, 32, .inl o_offsets))] H := hP
                have hD : va_D A [(x, .inr (5, [.ref xa_grids, .ref x_levelMm, .int (z_i x_levelCount), .ref x_water, .ref x_scratch, .ref x_lines])), (xa_grids, .inl (cA 4, 4, .inr (.inr (.inr (.inr x_grids))))), (g, .inr (1, [.ref ga_units, .ref ga_lengths, .ref ga_offsets, .int (z_i g_step)])), (ga_units, .inl (cA 1, 1280, .inl g_units)), (ga_lengths, .inl (cA 1, 32, .inl g_lengths)), (ga_offsets, .inl (cA 1, 32, .inl g_offsets)), (h, .inr (1, [.ref ha_units, .ref ha_lengths, .ref ha_offsets, .int (z_i h_step)])), (ha_units, .inl (cA 1, 1280, .inl h_units)), (ha_lengths, .inl (cA 1, 32, .inl h_lengths)), (ha_offsets, .inl (cA 1, 32, .inl h_offsets)), (o, .inr (1, [.ref oa_units, .ref oa_lengths, .ref oa_offsets, .int (z_i o_step)])), (oa_units, .inl (cA 1, 1280, .inl c19)), (oa_lengths, .inl (cA 1, 32, .inl o_lengths)), (oa_offsets, .inl (cA 1, 32, .inl o_offsets))] := z_D_addr hD rfl
                have hv := hv c19 hw
                refine lv_iinc (v := z_i (x44_8 + 1)) (lv' := [(8, .int (z_i (x44_8 + 1))), (10, .int (z_i (-2147483648))), (7, .int (z_i (x44_7 + 1))), (9, .int (z_i 1)), (6, .ref o), (5, .ref h), (4, .ref g)]) hx hb dX7_difference_141 hl (k := 3) rfl (z_i_add _ _) (by decide) rfl (fun ls hl => ?_)
                refine lv_goto (tgt := 44) hx hb dX7_difference_144 (by decide) ?_
                exact hv _ _ ls hP hD hS (lv_sub hl [0, 2, 4, 5, 6] rfl)
              · have hv := hv.2 hc
                refine lv_iload hx hb dX7_difference_118 (lv_at hl 0 rfl) ?_
                refine lx_ldc (a := 8388608) hx hb hown (hts (.constant RX7 181 (8388608)) (by decide +kernel)) (by decide) dX7_difference_120 ?_
                refine lx_icmp_le (tgt := 132) hx hb dX7_difference_122 (by decide) h_v15 (show z_in 8388608 from ⟨by decide, by decide⟩) (fun hc => ?_) (fun hc => ?_)
                · have hv := hv.1 hc
                  refine lv_aload hx hb dX7_difference_132 (lv_at hl 4 rfl) ?_
                  refine lv_iload hx hb dX7_difference_134 (lv_at hl 2 rfl) ?_
                  refine lv_iload hx hb dX7_difference_136 (lv_at hl 0 rfl) ?_
                  obtain ⟨hp20, hv⟩ := hv
                  have hFc := z_fr (A := A) (wc := [(o, .inr (1, [.ref oa_units, .ref oa_lengths, .ref oa_offsets, .int (z_i o_step)])), (oa_units, .inl (cA 1, 1280, .inl y44_oa_units)), (oa_lengths, .inl (cA 1, 32, .inl o_lengths)), (oa_offsets, .inl (cA 1, 32, .inl o_offsets))]) hD [10, 11, 12, 13] rfl
                  refine va_callv (va_runV (As := [.int (z_i x44_8), .int (z_i v15)]) (rest := []) ⟨hx, hb, hml, hown, hts⟩ (mt_X2_put l D cA o oa_units y44_oa_units oa_lengths o_lengths oa_offsets o_offsets o_step x44_8 v15 h_o_step h_x44_8 h_v15 hp20) (cwV 2 hts gX7_difference_X2_put rfl rfl rfl (by decide +kernel) ⟨Nat.le_of_ble_eq_true rfl, Nat.le_of_ble_eq_true rfl⟩) ⟨z_blm0, va_recv hK hP (ci := 1) (q0 := 10) rfl rfl, fun U hU hW => ⟨rfl, z_m0 hK (hP.sub (ws' := [(o, .inr (1, [.ref oa_units, .ref oa_lengths, .ref oa_offsets, .int (z_i o_step)])), (oa_units, .inl (cA 1, 1280, .inl y44_oa_units)), (oa_lengths, .inl (cA 1, 32, .inl o_lengths)), (oa_offsets, .inl (cA 1, 32, .inl o_offsets))]) [10, 11, 12, 13] rfl) (hD.sub (ws' := [(o, .inr (1, [.ref oa_units, .ref oa_lengths, .ref oa_offsets, .int (z_i o_step)])), (oa_units, .inl (cA 1, 1280, .inl y44_oa_units)), (oa_lengths, .inl (cA 1, 32, .inl o_lengths)), (oa_offsets, .inl (cA 1, 32, .inl o_offsets))]) [10, 11, 12, 13] (by decide) rfl) hU hW⟩⟩ rfl rfl hl.1 rfl (lv_room (Nat.le_of_ble_eq_true rfl)) dX7_difference_138 ⟨Nat.zero_le _, Nat.zero_le _⟩) hS (fun q _ h => hFc q h) hFc (fun u t H locs ht hvm hw hB hz1 hk1 hS => ?_)
                  obtain ⟨c21, rfl⟩ : ∃ z, z = u := ⟨_, rfl⟩
                  rw [ht] at hB
                  have hP := z_join2 (wc := [(o, .inr (1, [.ref oa_units, .ref oa_lengths, .ref oa_offsets, .int (z_i o_step)])), (oa_units, .inl (cA 1, 1280, .inl y44_oa_units)), (oa_lengths, .inl (cA 1, 32, .inl o_lengths)), (oa_offsets, .inl (cA 1, 32, .inl o_offsets))]) (w1 := [(o, .inr (1, [.ref oa_units, .ref oa_lengths, .ref oa_offsets, .int (z_i o_step)])), (oa_units, .inl (cA 1, 1280, .inl c21)), (oa_lengths, .inl (cA 1, 32, .inl o_lengths)), (oa_offsets, .inl (cA 1, 32, .inl o_offsets))]) hP hD [10, 11, 12, 13] [0, 0, 0, 0, 0, 0, 0, 0, 0, 0, 1, 2, 3, 4] rfl rfl rfl hk1 hB
                  have hP : va_P D vwCl [(x, .inr (5, [.ref xa_grids, .ref x_levelMm, .int (z_i x_levelCount), .ref x_water, .ref x_scratch, .ref x_lines])), (xa_grids, .inl (cA 4, 4, .inr (.inr (.inr (.inr x_grids))))), (g, .inr (1, [.ref ga_units, .ref ga_lengths, .ref ga_offsets, .int (z_i g_step)])), (ga_units, .inl (cA 1, 1280, .inl g_units)), (ga_lengths, .inl (cA 1, 32, .inl g_lengths)), (ga_offsets, .inl (cA 1, 32, .inl g_offsets)), (h, .inr (1, [.ref ha_units, .ref ha_lengths, .ref ha_offsets, .int (z_i h_step)])), (ha_units, .inl (cA 1, 1280, .inl h_units)), (ha_lengths, .inl (cA 1, 32, .inl h_lengths)), (ha_offsets, .inl (cA 1, 32, .inl h_offsets)), (o, .inr (1, [.ref oa_units, .ref oa_lengths, .ref oa_offsets, .int (z_i o_step)])), (oa_units, .inl (cA 1, 1280, .inl c21)), (oa_lengths, .inl (cA 1, 32, .inl o_lengths)), (oa_offsets, .inl (cA 1, 32, .inl o_offsets))] H := hP
                  have hD : va_D A [(x, .inr (5, [.ref xa_grids, .ref x_levelMm, .int (z_i x_levelCount), .ref x_water, .ref x_scratch, .ref x_lines])), (xa_grids, .inl (cA 4, 4, .inr (.inr (.inr (.inr x_grids))))), (g, .inr (1, [.ref ga_units, .ref ga_lengths, .ref ga_offsets, .int (z_i g_step)])), (ga_units, .inl (cA 1, 1280, .inl g_units)), (ga_lengths, .inl (cA 1, 32, .inl g_lengths)), (ga_offsets, .inl (cA 1, 32, .inl g_offsets)), (h, .inr (1, [.ref ha_units, .ref ha_lengths, .ref ha_offsets, .int (z_i h_step)])), (ha_units, .inl (cA 1, 1280, .inl h_units)), (ha_lengths, .inl (cA 1, 32, .inl h_lengths)), (ha_offsets, .inl (cA 1, 32, .inl h_offsets)), (o, .inr (1, [.ref oa_units, .ref oa_lengths, .ref oa_offsets, .int (z_i o_step)])), (oa_units, .inl (cA 1, 1280, .inl c21)), (oa_lengths, .inl (cA 1, 32, .inl o_lengths)), (oa_offsets, .inl (cA 1, 32, .inl o_offsets))] := z_D_addr hD rfl
                  have hv := hv c21 hw
                  refine lv_iinc (v := z_i (x44_8 + 1)) (lv' := [(8, .int (z_i (x44_8 + 1))), (10, .int (z_i v15)), (9, .int (z_i 1)), (7, .int (z_i x44_7)), (6, .ref o), (5, .ref h), (4, .ref g)]) hx hb dX7_difference_141 hl (k := 2) rfl (z_i_add _ _) (by decide) rfl (fun ls hl => ?_)
                  refine lv_goto (tgt := 44) hx hb dX7_difference_144 (by decide) ?_
                  exact hv _ _ ls hP hD hS (lv_sub hl [0, 3, 4, 5, 6] rfl)
                · have hv := hv.2 hc
                  refine lv_iinc (v := z_i (x44_7 + 1)) (lv' := [(7, .int (z_i (x44_7 + 1))), (10, .int (z_i v15)), (9, .int (z_i 1)), (8, .int (z_i x44_8)), (6, .ref o), (5, .ref h), (4, .ref g)]) hx hb dX7_difference_125 hl (k := 3) rfl (z_i_add _ _) (by decide) rfl (fun ls hl => ?_)
                  refine lx_ldc (a := (-2147483648)) hx hb hown (hts (.constant RX7 61 (-2147483648)) (by decide +kernel)) (by decide) dX7_difference_128 ?_
                  refine lv_istore (lv' := [(10, .int (z_i (-2147483648))), (7, .int (z_i (x44_7 + 1))), (9, .int (z_i 1)), (8, .int (z_i x44_8)), (6, .ref o), (5, .ref h), (4, .ref g)]) hx hb dX7_difference_130 hl (by decide) rfl (fun ls hl => ?_)
                  refine lv_aload hx hb dX7_difference_132 (lv_at hl 4 rfl) ?_
                  refine lv_iload hx hb dX7_difference_134 (lv_at hl 3 rfl) ?_
                  refine lv_iload hx hb dX7_difference_136 (lv_at hl 0 rfl) ?_
                  obtain ⟨hp22, hv⟩ := hv
                  have hFc := z_fr (A := A) (wc := [(o, .inr (1, [.ref oa_units, .ref oa_lengths, .ref oa_offsets, .int (z_i o_step)])), (oa_units, .inl (cA 1, 1280, .inl y44_oa_units)), (oa_lengths, .inl (cA 1, 32, .inl o_lengths)), (oa_offsets, .inl (cA 1, 32, .inl o_offsets))]) hD [10, 11, 12, 13] rfl
                  refine va_callv (va_runV (As := [.int (z_i x44_8), .int (z_i (-2147483648))]) (rest := []) ⟨hx, hb, hml, hown, hts⟩ (mt_X2_put l D cA o oa_units y44_oa_units oa_lengths o_lengths oa_offsets o_offsets o_step x44_8 (-2147483648) h_o_step h_x44_8 (show z_in (-2147483648) from ⟨by decide, by decide⟩) hp22) (cwV 2 hts gX7_difference_X2_put rfl rfl rfl (by decide +kernel) ⟨Nat.le_of_ble_eq_true rfl, Nat.le_of_ble_eq_true rfl⟩) ⟨z_blm0, va_recv hK hP (ci := 1) (q0 := 10) rfl rfl, fun U hU hW => ⟨rfl, z_m0 hK (hP.sub (ws' := [(o, .inr (1, [.ref oa_units, .ref oa_lengths, .ref oa_offsets, .int (z_i o_step)])), (oa_units, .inl (cA 1, 1280, .inl y44_oa_units)), (oa_lengths, .inl (cA 1, 32, .inl o_lengths)), (oa_offsets, .inl (cA 1, 32, .inl o_offsets))]) [10, 11, 12, 13] rfl) (hD.sub (ws' := [(o, .inr (1, [.ref oa_units, .ref oa_lengths, .ref oa_offsets, .int (z_i o_step)])), (oa_units, .inl (cA 1, 1280, .inl y44_oa_units)), (oa_lengths, .inl (cA 1, 32, .inl o_lengths)), (oa_offsets, .inl (cA 1, 32, .inl o_offsets))]) [10, 11, 12, 13] (by decide) rfl) hU hW⟩⟩ rfl rfl hl.1 rfl (lv_room (Nat.le_of_ble_eq_true rfl)) dX7_difference_138 ⟨Nat.zero_le _, Nat.zero_le _⟩) hS (fun q _ h => hFc q h) hFc (fun u t H locs ht hvm hw hB hz1 hk1 hS => ?_)
                  obtain ⟨c23, rfl⟩ : ∃ z, z = u := ⟨_, rfl⟩
                  rw [ht] at hB
                  have hP := z_join2 (wc := [(o, .inr (1, [.ref oa_units, .ref oa_lengths, .ref oa_offsets, .int (z_i o_step)])), (oa_units, .inl (cA 1, 1280, .inl y44_oa_units)), (oa_lengths, .inl (cA 1, 32, .inl o_lengths)), (oa_offsets, .inl (cA 1, 32, .inl o_offsets))]) (w1 := [(o, .inr (1, [.ref oa_units, .ref oa_lengths, .ref oa_offsets, .int (z_i o_step)])), (oa_units, .inl (cA 1, 1280, .inl c23)), (oa_lengths, .inl (cA 1, 32, .inl o_lengths)), (oa_offsets, .inl (cA 1, 32, .inl o_offsets))]) hP hD [10, 11, 12, 13] [0, 0, 0, 0, 0, 0, 0, 0, 0, 0, 1, 2, 3, 4] rfl rfl rfl hk1 hB
                  have hP : va_P D vwCl [(x, .inr (5, [.ref xa_grids, .ref x_levelMm, .int (z_i x_levelCount), .ref x_water, .ref x_scratch, .ref x_lines])), (xa_grids, .inl (cA 4, 4, .inr (.inr (.inr (.inr x_grids))))), (g, .inr (1, [.ref ga_units, .ref ga_lengths, .ref ga_offsets, .int (z_i g_step)])), (ga_units, .inl (cA 1, 1280, .inl g_units)), (ga_lengths, .inl (cA 1, 32, .inl g_lengths)), (ga_offsets, .inl (cA 1, 32, .inl g_offsets)), (h, .inr (1, [.ref ha_units, .ref ha_lengths, .ref ha_offsets, .int (z_i h_step)])), (ha_units, .inl (cA 1, 1280, .inl h_units)), (ha_lengths, .inl (cA 1, 32, .inl h_lengths)), (ha_offsets, .inl (cA 1, 32, .inl h_offsets)), (o, .inr (1, [.ref oa_units, .ref oa_lengths, .ref oa_offsets, .int (z_i o_step)])), (oa_units, .inl (cA 1, 1280, .inl c23)), (oa_lengths, .inl (cA 1, 32, .inl o_lengths)), (oa_offsets, .inl (cA 1, 32, .inl o_offsets))] H := hP
                  have hD : va_D A [(x, .inr (5, [.ref xa_grids, .ref x_levelMm, .int (z_i x_levelCount), .ref x_water, .ref x_scratch, .ref x_lines])), (xa_grids, .inl (cA 4, 4, .inr (.inr (.inr (.inr x_grids))))), (g, .inr (1, [.ref ga_units, .ref ga_lengths, .ref ga_offsets, .int (z_i g_step)])), (ga_units, .inl (cA 1, 1280, .inl g_units)), (ga_lengths, .inl (cA 1, 32, .inl g_lengths)), (ga_offsets, .inl (cA 1, 32, .inl g_offsets)), (h, .inr (1, [.ref ha_units, .ref ha_lengths, .ref ha_offsets, .int (z_i h_step)])), (ha_units, .inl (cA 1, 1280, .inl h_units)), (ha_lengths, .inl (cA 1, 32, .inl h_lengths)), (ha_offsets, .inl (cA 1, 32, .inl h_offsets)), (o, .inr (1, [.ref oa_units, .ref oa_lengths, .ref oa_offsets, .int (z_i o_step)])), (oa_units, .inl (cA 1, 1280, .inl c23)), (oa_lengths, .inl (cA 1, 32, .inl o_lengths)), (oa_offsets, .inl (cA 1, 32, .inl o_offsets))] := z_D_addr hD rfl
                  have hv := hv c23 hw
                  refine lv_iinc (v := z_i (x44_8 + 1)) (lv' := [(8, .int (z_i (x44_8 + 1))), (10, .int (z_i (-2147483648))), (7, .int (z_i (x44_7 + 1))), (9, .int (z_i 1)), (6, .ref o), (5, .ref h), (4, .ref g)]) hx hb dX7_difference_141 hl (k := 3) rfl (z_i_add _ _) (by decide) rfl (fun ls hl => ?_)
                  refine lv_goto (tgt := 44) hx hb dX7_difference_144 (by decide) ?_
                  exact hv _ _ ls hP hD hS (lv_sub hl [0, 2, 4, 5, 6] rfl)
      · have hv := hv.2 hc
        rw [hq3, if_neg hc, z_rf_n]
        refine lv_astoreN (lv' := [(6, .null), (5, .ref h), (4, .ref g), (0, .ref x), (1, .int (z_i gi)), (2, .int (z_i hi_)), (3, .int (z_i to))]) hx hb dX7_difference_19 hl (by decide) rfl (fun ls hl => ?_)
        refine lv_aload hx hb dX7_difference_21 (lv_at hl 2 rfl) ?_
        refine lv_ifnull hx hb dX7_difference_23 ?_
        refine lv_aload hx hb dX7_difference_26 (lv_at hl 1 rfl) ?_
        refine lv_ifnull hx hb dX7_difference_28 ?_
        refine lv_aloadN hx hb dX7_difference_31 (lv_at hl 0 rfl) ?_
        refine lv_ifnonnullN hx hb dX7_difference_33 ?_
        refine lv_iconst (v := z_i (-1)) hx hb dX7_difference_36 rfl ?_
        exact W.iret (v := z_i (-1)) hx hb hr (fun t ht hW => ⟨⟨z_i (-1), (o_units, o_lengths, o_offsets, o_step), rfl, ⟨-1, rfl, (show z_in (-1) from ⟨by decide, by decide⟩), h_o_step, hv⟩, z_pt hP ht⟩, hS.F ht⟩) hS.2.2 dX7_difference_37
    · have hv := hv.2 hc
      rw [hq2, if_neg hc, z_rf_n]
      refine lv_astoreN (lv' := [(5, .null), (4, .ref g), (0, .ref x), (1, .int (z_i gi)), (2, .int (z_i hi_)), (3, .int (z_i to))]) hx hb dX7_difference_12 hl (by decide) rfl (fun ls hl => ?_)
      refine lv_aload_n hx hb dX7_difference_14 rfl (lv_at hl 2 rfl) ?_
      refine lv_iload_n hx hb dX7_difference_15 rfl (lv_at hl 5 rfl) ?_
      refine va_callq (va_runV (As := [.int (z_i to)]) (rest := []) ⟨hx, hb, hml, hown, hts⟩ (mt_X7_gridOf l D cA x xa_grids x_grids x_levelMm x_levelCount x_water x_scratch x_lines to h_x_levelCount h_to) (cwV 1 hts gX7_difference_X7_gridOf rfl rfl rfl (by decide +kernel) ⟨Nat.le_of_ble_eq_true rfl, Nat.le_of_ble_eq_true rfl⟩) ⟨z_bl0, va_recv hK hP (ci := 5) (q0 := 0) rfl rfl, fun U hU hW => ⟨rfl, z_b0 hK (hP.sub (ws' := [(x, .inr (5, [.ref xa_grids, .ref x_levelMm, .int (z_i x_levelCount), .ref x_water, .ref x_scratch, .ref x_lines])), (xa_grids, .inl (cA 4, 4, .inr (.inr (.inr (.inr x_grids)))))]) [0, 1] rfl) hU hW⟩⟩ rfl rfl hl.1 rfl (lv_room (Nat.le_of_ble_eq_true rfl)) dX7_difference_16 ⟨Nat.zero_le _, Nat.zero_le _⟩) hS (fun q _ h => h.elim) (fun q h => h.elim) (fun r0 u t H locs ht hvm hw hB hz1 hk1 hS => ?_)
      have hq24 := hw
      have hP := z_P_all hP hk1
      by_cases hc : 0 ≤ to ∧ to < 4
      · have hv := hv.1 hc
        rw [hq24, if_pos hc, hg_to hc, z_rf_s]
        refine lv_astore (lv' := [(6, .ref o), (5, .null), (4, .ref g), (0, .ref x), (1, .int (z_i gi)), (2, .int (z_i hi_)), (3, .int (z_i to))]) hx hb dX7_difference_19 hl (by decide) rfl (fun ls hl => ?_)
        refine lv_aload hx hb dX7_difference_21 (lv_at hl 2 rfl) ?_
        refine lv_ifnull hx hb dX7_difference_23 ?_
        refine lv_aloadN hx hb dX7_difference_26 (lv_at hl 1 rfl) ?_
        refine lv_ifnullN (tgt := 36) hx hb dX7_difference_28 (by decide) ?_
        refine lv_iconst (v := z_i (-1)) hx hb dX7_difference_36 rfl ?_
        exact W.iret (v := z_i (-1)) hx hb hr (fun t ht hW => ⟨⟨z_i (-1), (o_units, o_lengths, o_offsets, o_step), rfl, ⟨-1, rfl, (show z_in (-1) from ⟨by decide, by decide⟩), h_o_step, hv⟩, z_pt hP ht⟩, hS.F ht⟩) hS.2.2 dX7_difference_37
      · have hv := hv.2 hc
        rw [hq24, if_neg hc, z_rf_n]
        refine lv_astoreN (lv' := [(6, .null), (5, .null), (4, .ref g), (0, .ref x), (1, .int (z_i gi)), (2, .int (z_i hi_)), (3, .int (z_i to))]) hx hb dX7_difference_19 hl (by decide) rfl (fun ls hl => ?_)
        refine lv_aload hx hb dX7_difference_21 (lv_at hl 2 rfl) ?_
        refine lv_ifnull hx hb dX7_difference_23 ?_
        refine lv_aloadN hx hb dX7_difference_26 (lv_at hl 1 rfl) ?_
        refine lv_ifnullN (tgt := 36) hx hb dX7_difference_28 (by decide) ?_
        refine lv_iconst (v := z_i (-1)) hx hb dX7_difference_36 rfl ?_
        exact W.iret (v := z_i (-1)) hx hb hr (fun t ht hW => ⟨⟨z_i (-1), (o_units, o_lengths, o_offsets, o_step), rfl, ⟨-1, rfl, (show z_in (-1) from ⟨by decide, by decide⟩), h_o_step, hv⟩, z_pt hP ht⟩, hS.F ht⟩) hS.2.2 dX7_difference_37
  · have hv := hv.2 hc
    rw [hq1, if_neg hc, z_rf_n]
    refine lv_astoreN (lv' := [(4, .null), (0, .ref x), (1, .int (z_i gi)), (2, .int (z_i hi_)), (3, .int (z_i to))]) hx hb dX7_difference_5 hl (by decide) rfl (fun ls hl => ?_)
    refine lv_aload_n hx hb dX7_difference_7 rfl (lv_at hl 1 rfl) ?_
    refine lv_iload_n hx hb dX7_difference_8 rfl (lv_at hl 3 rfl) ?_
    refine va_callq (va_runV (As := [.int (z_i hi_)]) (rest := []) ⟨hx, hb, hml, hown, hts⟩ (mt_X7_gridOf l D cA x xa_grids x_grids x_levelMm x_levelCount x_water x_scratch x_lines hi_ h_x_levelCount h_hi_) (cwV 1 hts gX7_difference_X7_gridOf rfl rfl rfl (by decide +kernel) ⟨Nat.le_of_ble_eq_true rfl, Nat.le_of_ble_eq_true rfl⟩) ⟨z_bl0, va_recv hK hP (ci := 5) (q0 := 0) rfl rfl, fun U hU hW => ⟨rfl, z_b0 hK (hP.sub (ws' := [(x, .inr (5, [.ref xa_grids, .ref x_levelMm, .int (z_i x_levelCount), .ref x_water, .ref x_scratch, .ref x_lines])), (xa_grids, .inl (cA 4, 4, .inr (.inr (.inr (.inr x_grids)))))]) [0, 1] rfl) hU hW⟩⟩ rfl rfl hl.1 rfl (lv_room (Nat.le_of_ble_eq_true rfl)) dX7_difference_9 ⟨Nat.zero_le _, Nat.zero_le _⟩) hS (fun q _ h => h.elim) (fun q h => h.elim) (fun r0 u t H locs ht hvm hw hB hz1 hk1 hS => ?_)
    have hq25 := hw
    have hP := z_P_all hP hk1
    by_cases hc : 0 ≤ hi_ ∧ hi_ < 4
    · have hv := hv.1 hc
      rw [hq25, if_pos hc, hg_hi_ hc, z_rf_s]
      refine lv_astore (lv' := [(5, .ref h), (4, .null), (0, .ref x), (1, .int (z_i gi)), (2, .int (z_i hi_)), (3, .int (z_i to))]) hx hb dX7_difference_12 hl (by decide) rfl (fun ls hl => ?_)
      refine lv_aload_n hx hb dX7_difference_14 rfl (lv_at hl 2 rfl) ?_
      refine lv_iload_n hx hb dX7_difference_15 rfl (lv_at hl 5 rfl) ?_
      refine va_callq (va_runV (As := [.int (z_i to)]) (rest := []) ⟨hx, hb, hml, hown, hts⟩ (mt_X7_gridOf l D cA x xa_grids x_grids x_levelMm x_levelCount x_water x_scratch x_lines to h_x_levelCount h_to) (cwV 1 hts gX7_difference_X7_gridOf rfl rfl rfl (by decide +kernel) ⟨Nat.le_of_ble_eq_true rfl, Nat.le_of_ble_eq_true rfl⟩) ⟨z_bl0, va_recv hK hP (ci := 5) (q0 := 0) rfl rfl, fun U hU hW => ⟨rfl, z_b0 hK (hP.sub (ws' := [(x, .inr (5, [.ref xa_grids, .ref x_levelMm, .int (z_i x_levelCount), .ref x_water, .ref x_scratch, .ref x_lines])), (xa_grids, .inl (cA 4, 4, .inr (.inr (.inr (.inr x_grids)))))]) [0, 1] rfl) hU hW⟩⟩ rfl rfl hl.1 rfl (lv_room (Nat.le_of_ble_eq_true rfl)) dX7_difference_16 ⟨Nat.zero_le _, Nat.zero_le _⟩) hS (fun q _ h => h.elim) (fun q h => h.elim) (fun r0 u t H locs ht hvm hw hB hz1 hk1 hS => ?_)
      have hq26 := hw
      have hP := z_P_all hP hk1
      by_cases hc : 0 ≤ to ∧ to < 4
      · have hv := hv.1 hc
        rw [hq26, if_pos hc, hg_to hc, z_rf_s]
        refine lv_astore (lv' := [(6, .ref o), (5, .ref h), (4, .null), (0, .ref x), (1, .int (z_i gi)), (2, .int (z_i hi_)), (3, .int (z_i to))]) hx hb dX7_difference_19 hl (by decide) rfl (fun ls hl => ?_)
        refine lv_aloadN hx hb dX7_difference_21 (lv_at hl 2 rfl) ?_
        refine lv_ifnullN (tgt := 36) hx hb dX7_difference_23 (by decide) ?_
        refine lv_iconst (v := z_i (-1)) hx hb dX7_difference_36 rfl ?_
        exact W.iret (v := z_i (-1)) hx hb hr (fun t ht hW => ⟨⟨z_i (-1), (o_units, o_lengths, o_offsets, o_step), rfl, ⟨-1, rfl, (show z_in (-1) from ⟨by decide, by decide⟩), h_o_step, hv⟩, z_pt hP ht⟩, hS.F ht⟩) hS.2.2 dX7_difference_37
      · have hv := hv.2 hc
        rw [hq26, if_neg hc, z_rf_n]
        refine lv_astoreN (lv' := [(6, .null), (5, .ref h), (4, .null), (0, .ref x), (1, .int (z_i gi)), (2, .int (z_i hi_)), (3, .int (z_i to))]) hx hb dX7_difference_19 hl (by decide) rfl (fun ls hl => ?_)
        refine lv_aloadN hx hb dX7_difference_21 (lv_at hl 2 rfl) ?_
        refine lv_ifnullN (tgt := 36) hx hb dX7_difference_23 (by decide) ?_
        refine lv_iconst (v := z_i (-1)) hx hb dX7_difference_36 rfl ?_
        exact W.iret (v := z_i (-1)) hx hb hr (fun t ht hW => ⟨⟨z_i (-1), (o_units, o_lengths, o_offsets, o_step), rfl, ⟨-1, rfl, (show z_in (-1) from ⟨by decide, by decide⟩), h_o_step, hv⟩, z_pt hP ht⟩, hS.F ht⟩) hS.2.2 dX7_difference_37
    · have hv := hv.2 hc
      rw [hq25, if_neg hc, z_rf_n]
      refine lv_astoreN (lv' := [(5, .null), (4, .null), (0, .ref x), (1, .int (z_i gi)), (2, .int (z_i hi_)), (3, .int (z_i to))]) hx hb dX7_difference_12 hl (by decide) rfl (fun ls hl => ?_)
      refine lv_aload_n hx hb dX7_difference_14 rfl (lv_at hl 2 rfl) ?_
      refine lv_iload_n hx hb dX7_difference_15 rfl (lv_at hl 5 rfl) ?_
      refine va_callq (va_runV (As := [.int (z_i to)]) (rest := []) ⟨hx, hb, hml, hown, hts⟩ (mt_X7_gridOf l D cA x xa_grids x_grids x_levelMm x_levelCount x_water x_scratch x_lines to h_x_levelCount h_to) (cwV 1 hts gX7_difference_X7_gridOf rfl rfl rfl (by decide +kernel) ⟨Nat.le_of_ble_eq_true rfl, Nat.le_of_ble_eq_true rfl⟩) ⟨z_bl0, va_recv hK hP (ci := 5) (q0 := 0) rfl rfl, fun U hU hW => ⟨rfl, z_b0 hK (hP.sub (ws' := [(x, .inr (5, [.ref xa_grids, .ref x_levelMm, .int (z_i x_levelCount), .ref x_water, .ref x_scratch, .ref x_lines])), (xa_grids, .inl (cA 4, 4, .inr (.inr (.inr (.inr x_grids)))))]) [0, 1] rfl) hU hW⟩⟩ rfl rfl hl.1 rfl (lv_room (Nat.le_of_ble_eq_true rfl)) dX7_difference_16 ⟨Nat.zero_le _, Nat.zero_le _⟩) hS (fun q _ h => h.elim) (fun q h => h.elim) (fun r0 u t H locs ht hvm hw hB hz1 hk1 hS => ?_)
      have hq27 := hw
      have hP := z_P_all hP hk1
      by_cases hc : 0 ≤ to ∧ to < 4
      · have hv := hv.1 hc
        rw [hq27, if_pos hc, hg_to hc, z_rf_s]
        refine lv_astore (lv' := [(6, .ref o), (5, .null), (4, .null), (0, .ref x), (1, .int (z_i gi)), (2, .int (z_i hi_)), (3, .int (z_i to))]) hx hb dX7_difference_19 hl (by decide) rfl (fun ls hl => ?_)
        refine lv_aloadN hx hb dX7_difference_21 (lv_at hl 2 rfl) ?_
        refine lv_ifnullN (tgt := 36) hx hb dX7_difference_23 (by decide) ?_
        refine lv_iconst (v := z_i (-1)) hx hb dX7_difference_36 rfl ?_
        exact W.iret (v := z_i (-1)) hx hb hr (fun t ht hW => ⟨⟨z_i (-1), (o_units, o_lengths, o_offsets, o_step), rfl, ⟨-1, rfl, (show z_in (-1) from ⟨by decide, by decide⟩), h_o_step, hv⟩, z_pt hP ht⟩, hS.F ht⟩) hS.2.2 dX7_difference_37
      · have hv := hv.2 hc
        rw [hq27, if_neg hc, z_rf_n]
        refine lv_astoreN (lv' := [(6, .null), (5, .null), (4, .null), (0, .ref x), (1, .int (z_i gi)), (2, .int (z_i hi_)), (3, .int (z_i to))]) hx hb dX7_difference_19 hl (by decide) rfl (fun ls hl => ?_)
        refine lv_aloadN hx hb dX7_difference_21 (lv_at hl 2 rfl) ?_
        refine lv_ifnullN (tgt := 36) hx hb dX7_difference_23 (by decide) ?_
        refine lv_iconst (v := z_i (-1)) hx hb dX7_difference_36 rfl ?_
        exact W.iret (v := z_i (-1)) hx hb hr (fun t ht hW => ⟨⟨z_i (-1), (o_units, o_lengths, o_offsets, o_step), rfl, ⟨-1, rfl, (show z_in (-1) from ⟨by decide, by decide⟩), h_o_step, hv⟩, z_pt hP ht⟩, hS.F ht⟩) hS.2.2 dX7_difference_37
set_option maxHeartbeats 4000000 in
set_option maxRecDepth 100000 in
theorem mt_X7_difference_e (l : Launch) (D : va_G) (cA : Nat → ClassId) (x : Nat) (xa_grids : Nat) (x_grids : Nat → Option Nat) (x_levelMm : Nat) (x_levelCount : Int) (x_water : Nat) (x_scratch : Nat) (x_lines : Nat) (gi : Int) (hi_ : Int) (to : Int) (g : Nat) (ga_units : Nat) (g_units : Nat → Int32) (ga_lengths : Nat) (g_lengths : Nat → Int32) (ga_offsets : Nat) (g_offsets : Nat → Int32) (g_step : Int) (h : Nat) (ha_units : Nat) (h_units : Nat → Int32) (ha_lengths : Nat) (h_lengths : Nat → Int32) (ha_offsets : Nat) (h_offsets : Nat → Int32) (h_step : Int) (o : Nat) (oa_units : Nat) (o_units : Nat → Int32) (oa_lengths : Nat) (o_lengths : Nat → Int32) (oa_offsets : Nat) (o_offsets : Nat → Int32) (o_step : Int) (h_x_levelCount : z_in x_levelCount) (h_gi : z_in gi) (h_hi_ : z_in hi_) (h_to : z_in to) (h_g_step : z_in g_step) (h_h_step : z_in h_step) (h_o_step : z_in o_step) (hg_gi : 0 ≤ gi ∧ gi < 4 → x_grids gi.toNat = some g) (hg_hi_ : 0 ≤ hi_ ∧ hi_ < 4 → x_grids hi_.toNat = some h) (hg_to : 0 ≤ to ∧ to < 4 → x_grids to.toNat = some o) (hp1 : g_ok g_units) (hp2 : g_ok h_units) : Met l yX7_difference wsX7_difference ({ frames := 2, cells := 0, slots := 0, locals := 39 } : Room) (va_Pc [.ref x, .int (z_i gi), .int (z_i hi_), .int (z_i to)] (z_M0 D cA [(x, .inr (5, [.ref xa_grids, .ref x_levelMm, .int (z_i x_levelCount), .ref x_water, .ref x_scratch, .ref x_lines])), (xa_grids, .inl (cA 4, 4, .inr (.inr (.inr (.inr x_grids))))), (g, .inr (1, [.ref ga_units, .ref ga_lengths, .ref ga_offsets, .int (z_i g_step)])), (ga_units, .inl (cA 1, 1280, .inl g_units)), (ga_lengths, .inl (cA 1, 32, .inl g_lengths)), (ga_offsets, .inl (cA 1, 32, .inl g_offsets)), (h, .inr (1, [.ref ha_units, .ref ha_lengths, .ref ha_offsets, .int (z_i h_step)])), (ha_units, .inl (cA 1, 1280, .inl h_units)), (ha_lengths, .inl (cA 1, 32, .inl h_lengths)), (ha_offsets, .inl (cA 1, 32, .inl h_offsets)), (o, .inr (1, [.ref oa_units, .ref oa_lengths, .ref oa_offsets, .int (z_i o_step)])), (oa_units, .inl (cA 1, 1280, .inl o_units)), (oa_lengths, .inl (cA 1, 32, .inl o_lengths)), (oa_offsets, .inl (cA 1, 32, .inl o_offsets))])) (va_Qi (z_mi (fun v (u : (Nat → Int32) × (Nat → Int32) × (Nat → Int32) × Int) => z_in u.2.2.2 ∧ (fun (r : Int) (o_units' : (Nat → Int32)) (o_lengths' : (Nat → Int32)) (o_offsets' : (Nat → Int32)) (o_step' : Int) => r = (if (0 ≤ gi ∧ gi < 4) ∧ (0 ≤ hi_ ∧ hi_ < 4) ∧ (0 ≤ to ∧ to < 4) then f_bc g_units h_units 1280 else -1) ∧ ((0 ≤ gi ∧ gi < 4) ∧ (0 ≤ hi_ ∧ hi_ < 4) ∧ (0 ≤ to ∧ to < 4) → (∀ n : Int, 0 ≤ n → n < 1280 → z_g o_units' n = f_df g_units h_units n) ∧ o_lengths' = g_lengths ∧ o_offsets' = g_offsets ∧ o_step' = g_step) ∧ (¬ ((0 ≤ gi ∧ gi < 4) ∧ (0 ≤ hi_ ∧ hi_ < 4) ∧ (0 ≤ to ∧ to < 4)) → o_units' = o_units ∧ o_lengths' = o_lengths ∧ o_offsets' = o_offsets ∧ o_step' = o_step)) v u.1 u.2.1 u.2.2.1 u.2.2.2)) (fun (u : (Nat → Int32) × (Nat → Int32) × (Nat → Int32) × Int) t => va_P D vwCl [(x, .inr (5, [.ref xa_grids, .ref x_levelMm, .int (z_i x_levelCount), .ref x_water, .ref x_scratch, .ref x_lines])), (xa_grids, .inl (cA 4, 4, .inr (.inr (.inr (.inr x_grids))))), (g, .inr (1, [.ref ga_units, .ref ga_lengths, .ref ga_offsets, .int (z_i g_step)])), (ga_units, .inl (cA 1, 1280, .inl g_units)), (ga_lengths, .inl (cA 1, 32, .inl g_lengths)), (ga_offsets, .inl (cA 1, 32, .inl g_offsets)), (h, .inr (1, [.ref ha_units, .ref ha_lengths, .ref ha_offsets, .int (z_i h_step)])), (ha_units, .inl (cA 1, 1280, .inl h_units)), (ha_lengths, .inl (cA 1, 32, .inl h_lengths)), (ha_offsets, .inl (cA 1, 32, .inl h_offsets)), (o, .inr (1, [.ref oa_units, .ref oa_lengths, .ref oa_offsets, .int (z_i u.2.2.2)])), (oa_units, .inl (cA 1, 1280, .inl u.1)), (oa_lengths, .inl (cA 1, 32, .inl u.2.1)), (oa_offsets, .inl (cA 1, 32, .inl u.2.2.1))] t.heap) (z_A [(x, .inr (5, [.ref xa_grids, .ref x_levelMm, .int (z_i x_levelCount), .ref x_water, .ref x_scratch, .ref x_lines])), (xa_grids, .inl (cA 4, 4, .inr (.inr (.inr (.inr x_grids))))), (g, .inr (1, [.ref ga_units, .ref ga_lengths, .ref ga_offsets, .int (z_i g_step)])), (ga_units, .inl (cA 1, 1280, .inl g_units)), (ga_lengths, .inl (cA 1, 32, .inl g_lengths)), (ga_offsets, .inl (cA 1, 32, .inl g_offsets)), (h, .inr (1, [.ref ha_units, .ref ha_lengths, .ref ha_offsets, .int (z_i h_step)])), (ha_units, .inl (cA 1, 1280, .inl h_units)), (ha_lengths, .inl (cA 1, 32, .inl h_lengths)), (ha_offsets, .inl (cA 1, 32, .inl h_offsets)), (o, .inr (1, [.ref oa_units, .ref oa_lengths, .ref oa_offsets, .int (z_i o_step)])), (oa_units, .inl (cA 1, 1280, .inl o_units)), (oa_lengths, .inl (cA 1, 32, .inl o_lengths)), (oa_offsets, .inl (cA 1, 32, .inl o_offsets))])) 0 0 (z_A [(x, .inr (5, [.ref xa_grids, .ref x_levelMm, .int (z_i x_levelCount), .ref x_water, .ref x_scratch, .ref x_lines])), (xa_grids, .inl (cA 4, 4, .inr (.inr (.inr (.inr x_grids))))), (g, .inr (1, [.ref ga_units, .ref ga_lengths, .ref ga_offsets, .int (z_i g_step)])), (ga_units, .inl (cA 1, 1280, .inl g_units)), (ga_lengths, .inl (cA 1, 32, .inl g_lengths)), (ga_offsets, .inl (cA 1, 32, .inl g_offsets)), (h, .inr (1, [.ref ha_units, .ref ha_lengths, .ref ha_offsets, .int (z_i h_step)])), (ha_units, .inl (cA 1, 1280, .inl h_units)), (ha_lengths, .inl (cA 1, 32, .inl h_lengths)), (ha_offsets, .inl (cA 1, 32, .inl h_offsets)), (o, .inr (1, [.ref oa_units, .ref oa_lengths, .ref oa_offsets, .int (z_i o_step)])), (oa_units, .inl (cA 1, 1280, .inl o_units)), (oa_lengths, .inl (cA 1, 32, .inl o_lengths)), (oa_offsets, .inl (cA 1, 32, .inl o_offsets))]) := by
  refine wk_X7_difference_e l D cA x xa_grids x_grids x_levelMm x_levelCount x_water x_scratch x_lines gi hi_ to g ga_units g_units ga_lengths g_lengths ga_offsets g_offsets g_step h ha_units h_units ha_lengths h_lengths ha_offsets h_offsets h_step o oa_units o_units oa_lengths o_lengths oa_offsets o_offsets o_step h_x_levelCount h_gi h_hi_ h_to h_g_step h_h_step h_o_step hg_gi hg_hi_ hg_to (fun (r : Int) (o_units' : (Nat → Int32)) (o_lengths' : (Nat → Int32)) (o_offsets' : (Nat → Int32)) (o_step' : Int) => r = (if (0 ≤ gi ∧ gi < 4) ∧ (0 ≤ hi_ ∧ hi_ < 4) ∧ (0 ≤ to ∧ to < 4) then f_bc g_units h_units 1280 else -1) ∧ ((0 ≤ gi ∧ gi < 4) ∧ (0 ≤ hi_ ∧ hi_ < 4) ∧ (0 ≤ to ∧ to < 4) → (∀ n : Int, 0 ≤ n → n < 1280 → z_g o_units' n = f_df g_units h_units n) ∧ o_lengths' = g_lengths ∧ o_offsets' = g_offsets ∧ o_step' = g_step) ∧ (¬ ((0 ≤ gi ∧ gi < 4) ∧ (0 ≤ hi_ ∧ hi_ < 4) ∧ (0 ≤ to ∧ to < 4)) → o_units' = o_units ∧ o_lengths' = o_lengths ∧ o_offsets' = o_offsets ∧ o_step' = o_step)) ?_
  unfold vc_X7_difference_e
  have no : ¬ ((0 ≤ gi ∧ gi < 4) ∧ (0 ≤ hi_ ∧ hi_ < 4) ∧ (0 ≤ to ∧ to < 4)) → (-1 : Int) = (if (0 ≤ gi ∧ gi < 4) ∧ (0 ≤ hi_ ∧ hi_ < 4) ∧ (0 ≤ to ∧ to < 4) then f_bc g_units h_units 1280 else -1) ∧ ((0 ≤ gi ∧ gi < 4) ∧ (0 ≤ hi_ ∧ hi_ < 4) ∧ (0 ≤ to ∧ to < 4) → (∀ n : Int, 0 ≤ n → n < 1280 → z_g o_units n = f_df g_units h_units n) ∧ o_lengths = g_lengths ∧ o_offsets = g_offsets ∧ o_step = g_step) ∧ (¬ ((0 ≤ gi ∧ gi < 4) ∧ (0 ≤ hi_ ∧ hi_ < 4) ∧ (0 ≤ to ∧ to < 4)) → o_units = o_units ∧ o_lengths = o_lengths ∧ o_offsets = o_offsets ∧ o_step = o_step) := fun h => ⟨by rw [if_neg h], fun h2 => absurd h2 h, fun _ => ⟨rfl, rfl, rfl, rfl⟩⟩
  refine ⟨fun q => ⟨fun q1 => ⟨fun q2 => ?_, fun q2 => no (fun h => q2 h.2.2)⟩, fun q1 => ⟨fun _ => no (fun h => q1 h.2.1), fun _ => no (fun h => q1 h.2.1)⟩⟩, fun q => ⟨fun _ => ⟨fun _ => no (fun h => q h.1), fun _ => no (fun h => q h.1)⟩, fun _ => ⟨fun _ => no (fun h => q h.1), fun _ => no (fun h => q h.1)⟩⟩⟩
  intro L1 hL1
  suffices H : ∀ (d k : Nat) (f : Int) (y : Nat → Int32), k + d = 1280 → f = f_bc g_units h_units k → 0 ≤ f → f ≤ k → (∀ n : Int, 0 ≤ n → n < k → z_g y n = f_df g_units h_units n) → (∀ n : Int, k ≤ n → n < 1280 → z_g y n = z_g o_units n) → L1 k f y from H 1280 0 0 _ rfl rfl (by omega) (by omega) (fun n a b => absurd b (by omega)) (fun n _ _ => rfl)
  intro d
  induction d with
  | zero =>
    intro k f y hk hf f0 f1 hy hy2
    obtain rfl : k = 1280 := by omega
    refine hL1 _ _ _ ⟨by omega, by omega⟩ ⟨by omega, by omega⟩ ⟨fun _ => ?_, fun h => absurd h (by decide)⟩
    rintro c3 c4 c5 _ ⟨rfl, rfl, rfl⟩
    exact ⟨by rw [if_pos ⟨q, q1, q2⟩]; exact hf, fun _ => ⟨fun n a b => hy n a (by omega), rfl, rfl, rfl⟩, fun h => absurd ⟨q, q1, q2⟩ h⟩
  | succ d ih =>
    intro k f y hk hf f0 f1 hy hy2
    refine hL1 _ _ _ ⟨by omega, by omega⟩ ⟨by omega, by omega⟩ ⟨fun h => absurd h (by omega), fun _ => ?_⟩
    have eo : g_at y k = g_at o_units k := g_at_eq (hy2 k (by omega) (by omega))
    have eg : g_at g_units k = g_at g_units k := rfl
    have eh : g_at h_units k = g_at h_units k := rfl
    have es : f_bc g_units h_units (k + 1) = f_bc g_units h_units k + (if f_bt g_units h_units k = true ∧ ¬ (-8388608 ≤ g_at g_units k - g_at h_units k ∧ g_at g_units k - g_at h_units k ≤ 8388608) then 1 else 0) := rfl
    rw [← hf] at es
    rw [g_th_eq eg, g_th_eq eh, eg, eh]
    have step : ∀ v w : Int, z_in v → v = f_df g_units h_units k → w = f_bc g_units h_units (k + 1) → 0 ≤ w → w ≤ (k : Int) + 1 → L1 ((k : Int) + 1) w (z_s y k v) := by
      intro v w zv hv hw w0 w1
      refine ih (k + 1) _ _ (by omega) hw w0 (by omega) ?_ ?_
      · intro n a b
        rw [z_gs zv (by omega) a]
        by_cases e9 : n = k
        · rw [if_pos e9, e9]; exact hv
        · rw [if_neg e9]; exact hy n a (by omega)
      · intro n a b
        rw [z_gs zv (by omega) (by omega), if_neg (by omega)]; exact hy2 n (by omega) b
    have gap : ¬ f_bt g_units h_units k = true → L1 ((k : Int) + 1) f (z_s y k (-2147483648)) := by
      intro hn
      refine step _ _ ⟨by omega, by omega⟩ ?_ ?_ f0 (by omega)
      · unfold f_df; rw [if_neg (fun h => hn h.1)]
      · rw [es, if_neg (fun h => hn h.1)]; omega
    rintro r7 _ rfl
    refine ⟨fun q4 => ⟨⟨by omega, by omega⟩, ?_⟩, fun q4 => ?_⟩
    · rintro c9 rfl
      exact gap (by unfold f_bt; rw [zb_f q4, Bool.false_and]; decide)
    · rintro r10 _ rfl
      refine ⟨fun q5 => ⟨⟨by omega, by omega⟩, ?_⟩, fun q5 => ?_⟩
      · rintro c9 rfl
        exact gap (by unfold f_bt; rw [zb_f q5, Bool.and_false]; decide)
      · have hb : f_bt g_units h_units k = true := by unfold f_bt; rw [Bool.and_eq_true]; exact ⟨zb_t q4, zb_t q5⟩
        have b1 := g_ok_at hp1 (zb_t q4)
        have b2 := g_ok_at hp2 (zb_t q5)
        rintro r13 _ rfl r14 _ rfl
        refine ⟨⟨by omega, by omega⟩, ?_⟩
        rintro v15 rfl
        have far : ¬ (-8388608 ≤ g_at g_units k - g_at h_units k ∧ g_at g_units k - g_at h_units k ≤ 8388608) → L1 ((k : Int) + 1) (f + 1) (z_s y k (-2147483648)) := by
          intro hn
          refine step _ _ ⟨by omega, by omega⟩ ?_ ?_ (by omega) (by omega)
          · unfold f_df; rw [if_neg (fun h => hn h.2)]
          · rw [es, if_pos ⟨hb, hn⟩]
        refine ⟨fun q6 => ⟨⟨by omega, by omega⟩, ?_⟩, fun q6 => ⟨fun q7 => ⟨⟨by omega, by omega⟩, ?_⟩, fun q7 => ⟨⟨by omega, by omega⟩, ?_⟩⟩⟩
        · rintro c19 rfl
          exact far (by omega)
        · rintro c21 rfl
          refine step _ _ ⟨by omega, by omega⟩ ?_ ?_ f0 (by omega)
          · unfold f_df; rw [if_pos ⟨hb, q6, q7⟩]
          · rw [es, if_neg (fun h => h.2 ⟨q6, q7⟩)]; omega
        · rintro c23 rfl
          exact far (by omega)
