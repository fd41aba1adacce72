theorem zb_t {b : Bool} (h : z_b b ≠ 0) : b = true := by cases b; exact absurd rfl h; rfl
theorem zb_f {b : Bool} (h : z_b b = 0) : b = false := by cases b; rfl; exact absurd h (by decide)
def vc_X7_row (gi : Int) (i : Int) (len : Int) (ofs : Int) (g_units : Nat → Int32) (g_lengths : Nat → Int32) (g_offsets : Nat → Int32) (Q : Int → (Nat → Int32) → (Nat → Int32) → (Nat → Int32) → Prop) : Prop :=
((0 ≤ gi ∧ gi < 4 → ((i < 0 → Q 0 g_units g_lengths g_offsets) ∧
(i ≥ 0 → ((i ≥ 32 → Q 0 g_units g_lengths g_offsets) ∧
(i < 32 → ((ofs < 0 → Q 0 g_units g_lengths g_offsets) ∧
(ofs ≥ 0 → ((ofs < 40 → ((len < 0 → Q 0 g_units g_lengths g_offsets) ∧
(len ≥ 0 → z_in (40 - ofs) ∧ ((len ≤ 40 - ofs → (0 ≤ i ∧ i < 32) ∧ (∀ (c4 : Nat → Int32) (c5 : Nat → Int32) (c6 : Nat → Int32), ((∀ q : Int, 0 ≤ q → z_g c4 q = if 40 * i ≤ q ∧ q < 40 * i + 40 then -2147483648 else z_g g_units q) ∧ c5 = z_s g_lengths i len ∧ c6 = z_s g_offsets i ofs) → Q 1 c4 c5 c6)) ∧
(len > 40 - ofs → Q 0 g_units g_lengths g_offsets))))) ∧
(ofs ≥ 40 → Q 0 g_units g_lengths g_offsets))))))))) ∧
(¬ (0 ≤ gi ∧ gi < 4) → Q 0 g_units g_lengths g_offsets))
set_option maxHeartbeats 4000000 in
set_option maxRecDepth 100000 in
theorem wk_X7_row (l : Launch) (D : va_G) (cA : Nat → ClassId) (x : Nat) (xa_grids : Nat) (x_grids : Nat → Option Nat) (x_levelMm : Nat) (x_levelCount : Int) (x_water : Nat) (x_scratch : Nat) (x_lines : Nat) (gi : Int) (i : Int) (len : Int) (ofs : Int) (g : Nat) (ga_units : Nat) (g_units : Nat → Int32) (ga_lengths : Nat) (g_lengths : Nat → Int32) (ga_offsets : Nat) (g_offsets : Nat → Int32) (g_step : Int) (h_x_levelCount : z_in x_levelCount) (h_gi : z_in gi) (h_i : z_in i) (h_len : z_in len) (h_ofs : z_in ofs) (h_g_step : z_in g_step) (hg_gi : 0 ≤ gi ∧ gi < 4 → x_grids gi.toNat = some g) (Q : Int → (Nat → Int32) → (Nat → Int32) → (Nat → Int32) → Prop) (hv : vc_X7_row gi i len ofs g_units g_lengths g_offsets Q) : Met l yX7_row wsX7_row ({ frames := 1, cells := 0, slots := 0, locals := 24 } : Room) (va_Pc [.ref x, .int (z_i gi), .int (z_i i), .int (z_i len), .int (z_i ofs)] (z_M0 D cA [(x, .inr (5, [.ref xa_grids, .ref x_levelMm, .int (z_i x_levelCount), .ref x_water, .ref x_scratch, .ref x_lines])), (xa_grids, .inl (cA 4, 4, .inr (.inr (.inr (.inr x_grids))))), (g, .inr (1, [.ref ga_units, .ref ga_lengths, .ref ga_offsets, .int (z_i g_step)])), (ga_units, .inl (cA 1, 1280, .inl g_units)), (ga_lengths, .inl (cA 1, 32, .inl g_lengths)), (ga_offsets, .inl (cA 1, 32, .inl g_offsets))])) (va_Qi (z_mi (fun v (u : (Nat → Int32) × (Nat → Int32) × (Nat → Int32)) => Q v u.1 u.2.1 u.2.2)) (fun (u : (Nat → Int32) × (Nat → Int32) × (Nat → Int32)) t => va_P D vwCl [(x, .inr (5, [.ref xa_grids, .ref x_levelMm, .int (z_i x_levelCount), .ref x_water, .ref x_scratch, .ref x_lines])), (xa_grids, .inl (cA 4, 4, .inr (.inr (.inr (.inr x_grids))))), (g, .inr (1, [.ref ga_units, .ref ga_lengths, .ref ga_offsets, .int (z_i g_step)])), (ga_units, .inl (cA 1, 1280, .inl u.1)), (ga_lengths, .inl (cA 1, 32, .inl u.2.1)), (ga_offsets, .inl (cA 1, 32, .inl u.2.2))] t.heap) (z_A [(x, .inr (5, [.ref xa_grids, .ref x_levelMm, .int (z_i x_levelCount), .ref x_water, .ref x_scratch, .ref x_lines])), (xa_grids, .inl (cA 4, 4, .inr (.inr (.inr (.inr x_grids))))), (g, .inr (1, [.ref ga_units, .ref ga_lengths, .ref ga_offsets, .int (z_i g_step)])), (ga_units, .inl (cA 1, 1280, .inl g_units)), (ga_lengths, .inl (cA 1, 32, .inl g_lengths)), (ga_offsets, .inl (cA 1, 32, .inl g_offsets))])) 0 0 (z_A [(x, .inr (5, [.ref xa_grids, .ref x_levelMm, .int (z_i x_levelCount), .ref x_water, .ref x_scratch, .ref x_lines])), (xa_grids, .inl (cA 4, 4, .inr (.inr (.inr (.inr x_grids))))), (g, .inr (1, [.ref ga_units, .ref ga_lengths, .ref ga_offsets, .int (z_i g_step)])), (ga_units, .inl (cA 1, 1280, .inl g_units)), (ga_lengths, .inl (cA 1, 32, .inl g_lengths)), (ga_offsets, .inl (cA 1, 32, .inl g_offsets))]) := by
  unfold vc_X7_row at hv
  refine Met.ofW (cc := cX7_row) (maxL := 6) (ret := (some .boolean)) (by decide +kernel) rfl ?_
  intro p e s m args below meth c s₁ B hml hv0
  obtain ⟨rfl, hK, hP, hD0⟩ := hv0
  have hx := B.exec
  have hb := B.bytes
  have hr := B.returns
  have hts := atoms_spec (ws := wsX7_row) B.pre
  have hown : s.vm.findClass RX7 = some m.cls := findClass_of_methodNamed B.named
  have hlocks := B.notSynchronized
  have hD := z_D_self hD0
  generalize hAe : z_A [(x, .inr (5, [.ref xa_grids, .ref x_levelMm, .int (z_i x_levelCount), .ref x_water, .ref x_scratch, .ref x_lines])), (xa_grids, .inl (cA 4, 4, .inr (.inr (.inr (.inr x_grids))))), (g, .inr (1, [.ref ga_units, .ref ga_lengths, .ref ga_offsets, .int (z_i g_step)])), (ga_units, .inl (cA 1, 1280, .inl g_units)), (ga_lengths, .inl (cA 1, 32, .inl g_lengths)), (ga_offsets, .inl (cA 1, 32, .inl g_offsets))] = A at *
  have hS : va_S A s.heap s.heap [] := va_S.rf
  have hl := lv_entry ([.ref x, .int (z_i gi), .int (z_i i), .int (z_i len), .int (z_i ofs)]) (n := 6) (Nat.le_of_ble_eq_true rfl)
  rw [lg_entry_eq]
  generalize (lg_sl ([.ref x, .int (z_i gi), .int (z_i i), .int (z_i len), .int (z_i ofs)]) ++ List.replicate (6 - (lg_sl ([.ref x, .int (z_i gi), .int (z_i i), .int (z_i len), .int (z_i ofs)])).length) Slot.unset).toArray = ls at hl ⊢
  have hl : lv_has ls 6 [(0, .ref x), (1, .int (z_i gi)), (2, .int (z_i i)), (3, .int (z_i len)), (4, .int (z_i ofs))] := hl
  refine lv_aload_n hx hb dX7_row_0 rfl (lv_at hl 0 rfl) ?_
  refine lv_iload_n hx hb dX7_row_1 rfl (lv_at hl 1 rfl) ?_
  refine va_callq (va_runV (As := [.int (z_i gi)]) (rest := []) ⟨hx, hb, hml, hown, hts⟩ (mt_X7_gridOf l D cA x xa_grids x_grids x_levelMm x_levelCount x_water x_scratch x_lines gi h_x_levelCount h_gi) (cwV 1 hts gX7_row_X7_gridOf rfl rfl rfl (by decide +kernel) ⟨Nat.le_of_ble_eq_true rfl, Nat.le_of_ble_eq_true rfl⟩) ⟨z_bl0, va_recv hK hP (ci := 5) (q0 := 0) rfl rfl, fun U hU hW => ⟨rfl, z_b0 hK (hP.sub (ws' := [(x, .inr (5, [.ref xa_grids, .ref x_levelMm, .int (z_i x_levelCount), .ref x_water, .ref x_scratch, .ref x_lines])), (xa_grids, .inl (cA 4, 4, .inr (.inr (.inr (.inr x_grids)))))]) [0, 1] rfl) hU hW⟩⟩ rfl rfl hl.1 rfl (lv_room (Nat.le_of_ble_eq_true rfl)) dX7_row_2 ⟨Nat.zero_le _, Nat.zero_le _⟩) hS (fun q _ h => h.elim) (fun q h => h.elim) (fun r0 u t H locs ht hvm hw hB hz1 hk1 hS => ?_)
  have hq1 := hw
  have hP := z_P_all hP hk1
  by_cases hc : 0 ≤ gi ∧ gi < 4
  · have hv := hv.1 hc
    rw [hq1, if_pos hc, hg_gi hc, z_rf_s]
    refine lv_astore (lv' := [(5, .ref g), (0, .ref x), (1, .int (z_i gi)), (2, .int (z_i i)), (3, .int (z_i len)), (4, .int (z_i ofs))]) hx hb dX7_row_5 hl (by decide) rfl (fun ls hl => ?_)
    refine lv_aload hx hb dX7_row_7 (lv_at hl 0 rfl) ?_
    refine lv_ifnull hx hb dX7_row_9 ?_
    refine lv_iload_n hx hb dX7_row_12 rfl (lv_at hl 3 rfl) ?_
    refine lx_if_lt (tgt := 34) hx hb dX7_row_13 (by decide) h_i (fun hc => ?_) (fun hc => ?_)
    · have hv := hv.1 hc
      refine lv_iconst (v := z_i 0) hx hb dX7_row_34 rfl ?_
      exact W.zret (v := z_i 0) hx hb hr (by decide) (fun t ht hW => ⟨⟨z_i 0, (g_units, g_lengths, g_offsets), rfl, ⟨0, rfl, (show z_in 0 from ⟨by decide, by decide⟩), hv⟩, z_pt hP ht⟩, hS.F ht⟩) hS.2.2 dX7_row_35
    · have hv := hv.2 hc
      refine lv_iload_n hx hb dX7_row_16 rfl (lv_at hl 3 rfl) ?_
      refine lv_bipush (v := z_i 32) hx hb dX7_row_17 (by decide) ?_
      refine lx_icmp_ge (tgt := 34) hx hb dX7_row_19 (by decide) h_i (show z_in 32 from ⟨by decide, by decide⟩) (fun hc => ?_) (fun hc => ?_)
      · have hv := hv.1 hc
        refine lv_iconst (v := z_i 0) hx hb dX7_row_34 rfl ?_
        exact W.zret (v := z_i 0) hx hb hr (by decide) (fun t ht hW => ⟨⟨z_i 0, (g_units, g_lengths, g_offsets), rfl, ⟨0, rfl, (show z_in 0 from ⟨by decide, by decide⟩), hv⟩, z_pt hP ht⟩, hS.F ht⟩) hS.2.2 dX7_row_35
      · have hv := hv.2 hc
        refine lv_iload hx hb dX7_row_22 (lv_at hl 5 rfl) ?_
        refine lx_if_lt (tgt := 34) hx hb dX7_row_24 (by decide) h_ofs (fun hc => ?_) (fun hc => ?_)
        · have hv := hv.1 hc
          refine lv_iconst (v := z_i 0) hx hb dX7_row_34 rfl ?_
          exact W.zret (v := z_i 0) hx hb hr (by decide) (fun t ht hW => ⟨⟨z_i 0, (g_units, g_lengths, g_offsets), rfl, ⟨0, rfl, (show z_in 0 from ⟨by decide, by decide⟩), hv⟩, z_pt hP ht⟩, hS.F ht⟩) hS.2.2 dX7_row_35
        · have hv := hv.2 hc
          refine lv_iload hx hb dX7_row_27 (lv_at hl 5 rfl) ?_
          refine lv_bipush (v := z_i 40) hx hb dX7_row_29 (by decide) ?_
          refine lx_icmp_lt (tgt := 36) hx hb dX7_row_31 (by decide) h_ofs (show z_in 40 from ⟨by decide, by decide⟩) (fun hc => ?_) (fun hc => ?_)
          · have hv := hv.1 hc
            refine lv_iload_n hx hb dX7_row_36 rfl (lv_at hl 4 rfl) ?_
            refine lx_if_lt (tgt := 49) hx hb dX7_row_37 (by decide) h_len (fun hc => ?_) (fun hc => ?_)
            · have hv := hv.1 hc
              refine lv_iconst (v := z_i 0) hx hb dX7_row_49 rfl ?_
              exact W.zret (v := z_i 0) hx hb hr (by decide) (fun t ht hW => ⟨⟨z_i 0, (g_units, g_lengths, g_offsets), rfl, ⟨0, rfl, (show z_in 0 from ⟨by decide, by decide⟩), hv⟩, z_pt hP ht⟩, hS.F ht⟩) hS.2.2 dX7_row_50
            · have hv := hv.2 hc
              refine lv_iload_n hx hb dX7_row_40 rfl (lv_at hl 4 rfl) ?_
              refine lv_bipush (v := z_i 40) hx hb dX7_row_41 (by decide) ?_
              refine lv_iload hx hb dX7_row_43 (lv_at hl 5 rfl) ?_
              refine lx_isub hx hb dX7_row_45 ?_
              obtain ⟨hr2, hv⟩ := hv
              refine lx_icmp_le (tgt := 51) hx hb dX7_row_46 (by decide) h_len hr2 (fun hc => ?_) (fun hc => ?_)
              · have hv := hv.1 hc
                refine lv_aload hx hb dX7_row_51 (lv_at hl 0 rfl) ?_
                refine lv_iload_n hx hb dX7_row_53 rfl (lv_at hl 3 rfl) ?_
                refine lv_iload_n hx hb dX7_row_54 rfl (lv_at hl 4 rfl) ?_
                refine lv_iload hx hb dX7_row_55 (lv_at hl 5 rfl) ?_
                obtain ⟨hp3, hv⟩ := hv
                have hFc := z_fr (A := A) (wc := [(g, .inr (1, [.ref ga_units, .ref ga_lengths, .ref ga_offsets, .int (z_i g_step)])), (ga_units, .inl (cA 1, 1280, .inl g_units)), (ga_lengths, .inl (cA 1, 32, .inl g_lengths)), (ga_offsets, .inl (cA 1, 32, .inl g_offsets))]) hD [2, 3, 4, 5] rfl
                refine va_callv (va_runV (As := [.int (z_i i), .int (z_i len), .int (z_i ofs)]) (rest := []) ⟨hx, hb, hml, hown, hts⟩ (mt_X2_setRow l D cA g ga_units g_units ga_lengths g_lengths ga_offsets g_offsets g_step i len ofs h_g_step h_i h_len h_ofs hp3) (cwV 3 hts gX7_row_X2_setRow rfl rfl rfl (by decide +kernel) ⟨Nat.le_of_ble_eq_true rfl, Nat.le_of_ble_eq_true rfl⟩) ⟨z_blm0, va_recv hK hP (ci := 1) (q0 := 2) rfl rfl, fun U hU hW => ⟨rfl, z_m0 hK (hP.sub (ws' := [(g, .inr (1, [.ref ga_units, .ref ga_lengths, .ref ga_offsets, .int (z_i g_step)])), (ga_units, .inl (cA 1, 1280, .inl g_units)), (ga_lengths, .inl (cA 1, 32, .inl g_lengths)), (ga_offsets, .inl (cA 1, 32, .inl g_offsets))]) [2, 3, 4, 5] rfl) (hD.sub (ws' := [(g, .inr (1, [.ref ga_units, .ref ga_lengths, .ref ga_offsets, .int (z_i g_step)])), (ga_units, .inl (cA 1, 1280, .inl g_units)), (ga_lengths, .inl (cA 1, 32, .inl g_lengths)), (ga_offsets, .inl (cA 1, 32, .inl g_offsets))]) [2, 3, 4, 5] (by decide) rfl) hU hW⟩⟩ rfl rfl hl.1 rfl (lv_room (Nat.le_of_ble_eq_true rfl)) dX7_row_57 ⟨Nat.zero_le _, Nat.zero_le _⟩) hS (fun q _ h => hFc q h) hFc (fun u t H locs ht hvm hw hB hz1 hk1 hS => ?_)
                obtain ⟨c4, c5, c6⟩ := u
                rw [ht] at hB
                have hP := z_join2 (wc := [(g, .inr (1, [.ref ga_units, .ref ga_lengths, .ref ga_offsets, .int (z_i g_step)])), (ga_units, .inl (cA 1, 1280, .inl g_units)), (ga_lengths, .inl (cA 1, 32, .inl g_lengths)), (ga_offsets, .inl (cA 1, 32, .inl g_offsets))]) (w1 := [(g, .inr (1, [.ref ga_units, .ref ga_lengths, .ref ga_offsets, .int (z_i g_step)])), (ga_units, .inl (cA 1, 1280, .inl c4)), (ga_lengths, .inl (cA 1, 32, .inl c5)), (ga_offsets, .inl (cA 1, 32, .inl c6))]) hP hD [2, 3, 4, 5] [0, 0, 1, 2, 3, 4] rfl rfl rfl hk1 hB
                have hP : va_P D vwCl [(x, .inr (5, [.ref xa_grids, .ref x_levelMm, .int (z_i x_levelCount), .ref x_water, .ref x_scratch, .ref x_lines])), (xa_grids, .inl (cA 4, 4, .inr (.inr (.inr (.inr x_grids))))), (g, .inr (1, [.ref ga_units, .ref ga_lengths, .ref ga_offsets, .int (z_i g_step)])), (ga_units, .inl (cA 1, 1280, .inl c4)), (ga_lengths, .inl (cA 1, 32, .inl c5)), (ga_offsets, .inl (cA 1, 32, .inl c6))] H := hP
                have hD : va_D A [(x, .inr (5, [.ref xa_grids, .ref x_levelMm, .int (z_i x_levelCount), .ref x_water, .ref x_scratch, .ref x_lines])), (xa_grids, .inl (cA 4, 4, .inr (.inr (.inr (.inr x_grids))))), (g, .inr (1, [.ref ga_units, .ref ga_lengths, .ref ga_offsets, .int (z_i g_step)])), (ga_units, .inl (cA 1, 1280, .inl c4)), (ga_lengths, .inl (cA 1, 32, .inl c5)), (ga_offsets, .inl (cA 1, 32, .inl c6))] := z_D_addr hD rfl
                have hv := hv c4 c5 c6 hw
                refine lv_iconst (v := z_i 1) hx hb dX7_row_60 rfl ?_
                exact W.zret (v := z_i 1) hx hb hr (by decide) (fun t ht hW => ⟨⟨z_i 1, (c4, c5, c6), rfl, ⟨1, rfl, (show z_in 1 from ⟨by decide, by decide⟩), hv⟩, z_pt hP ht⟩, hS.F ht⟩) hS.2.2 dX7_row_61
              · have hv := hv.2 hc
                refine lv_iconst (v := z_i 0) hx hb dX7_row_49 rfl ?_
                exact W.zret (v := z_i 0) hx hb hr (by decide) (fun t ht hW => ⟨⟨z_i 0, (g_units, g_lengths, g_offsets), rfl, ⟨0, rfl, (show z_in 0 from ⟨by decide, by decide⟩), hv⟩, z_pt hP ht⟩, hS.F ht⟩) hS.2.2 dX7_row_50
          · have hv := hv.2 hc
            refine lv_iconst (v := z_i 0) hx hb dX7_row_34 rfl ?_
            exact W.zret (v := z_i 0) hx hb hr (by decide) (fun t ht hW => ⟨⟨z_i 0, (g_units, g_lengths, g_offsets), rfl, ⟨0, rfl, (show z_in 0 from ⟨by decide, by decide⟩), hv⟩, z_pt hP ht⟩, hS.F ht⟩) hS.2.2 dX7_row_35
  · have hv := hv.2 hc
    rw [hq1, if_neg hc, z_rf_n]
    refine lv_astoreN (lv' := [(5, .null), (0, .ref x), (1, .int (z_i gi)), (2, .int (z_i i)), (3, .int (z_i len)), (4, .int (z_i ofs))]) hx hb dX7_row_5 hl (by decide) rfl (fun ls hl => ?_)
    refine lv_aloadN hx hb dX7_row_7 (lv_at hl 0 rfl) ?_
    refine lv_ifnullN (tgt := 34) hx hb dX7_row_9 (by decide) ?_
    refine lv_iconst (v := z_i 0) hx hb dX7_row_34 rfl ?_
    exact W.zret (v := z_i 0) hx hb hr (by decide) (fun t ht hW => ⟨⟨z_i 0, (g_units, g_lengths, g_offsets), rfl, ⟨0, rfl, (show z_in 0 from ⟨by decide, by decide⟩), hv⟩, z_pt hP ht⟩, hS.F ht⟩) hS.2.2 dX7_row_35
set_option maxHeartbeats 4000000 in
set_option maxRecDepth 100000 in
theorem mt_X7_row (l : Launch) (D : va_G) (cA : Nat → ClassId) (x : Nat) (xa_grids : Nat) (x_grids : Nat → Option Nat) (x_levelMm : Nat) (x_levelCount : Int) (x_water : Nat) (x_scratch : Nat) (x_lines : Nat) (gi : Int) (i : Int) (len : Int) (ofs : Int) (g : Nat) (ga_units : Nat) (g_units : Nat → Int32) (ga_lengths : Nat) (g_lengths : Nat → Int32) (ga_offsets : Nat) (g_offsets : Nat → Int32) (g_step : Int) (h_x_levelCount : z_in x_levelCount) (h_gi : z_in gi) (h_i : z_in i) (h_len : z_in len) (h_ofs : z_in ofs) (h_g_step : z_in g_step) (hg_gi : 0 ≤ gi ∧ gi < 4 → x_grids gi.toNat = some g)  : Met l yX7_row wsX7_row ({ frames := 1, cells := 0, slots := 0, locals := 24 } : Room) (va_Pc [.ref x, .int (z_i gi), .int (z_i i), .int (z_i len), .int (z_i ofs)] (z_M0 D cA [(x, .inr (5, [.ref xa_grids, .ref x_levelMm, .int (z_i x_levelCount), .ref x_water, .ref x_scratch, .ref x_lines])), (xa_grids, .inl (cA 4, 4, .inr (.inr (.inr (.inr x_grids))))), (g, .inr (1, [.ref ga_units, .ref ga_lengths, .ref ga_offsets, .int (z_i g_step)])), (ga_units, .inl (cA 1, 1280, .inl g_units)), (ga_lengths, .inl (cA 1, 32, .inl g_lengths)), (ga_offsets, .inl (cA 1, 32, .inl g_offsets))])) (va_Qi (z_mi (fun v (u : (Nat → Int32) × (Nat → Int32) × (Nat → Int32)) => (fun (r : Int) (g_units' : (Nat → Int32)) (g_lengths' : (Nat → Int32)) (g_offsets' : (Nat → Int32)) => r = z_b (decide ((0 ≤ gi ∧ gi < 4) ∧ 0 ≤ i ∧ i < 32 ∧ 0 ≤ ofs ∧ ofs < 40 ∧ 0 ≤ len ∧ len ≤ 40 - ofs)) ∧ ((0 ≤ gi ∧ gi < 4) ∧ 0 ≤ i ∧ i < 32 ∧ 0 ≤ ofs ∧ ofs < 40 ∧ 0 ≤ len ∧ len ≤ 40 - ofs → (∀ q : Int, 0 ≤ q → z_g g_units' q = if 40 * i ≤ q ∧ q < 40 * i + 40 then -2147483648 else z_g g_units q) ∧ g_lengths' = z_s g_lengths i len ∧ g_offsets' = z_s g_offsets i ofs) ∧ (¬ ((0 ≤ gi ∧ gi < 4) ∧ 0 ≤ i ∧ i < 32 ∧ 0 ≤ ofs ∧ ofs < 40 ∧ 0 ≤ len ∧ len ≤ 40 - ofs) → g_units' = g_units ∧ g_lengths' = g_lengths ∧ g_offsets' = g_offsets)) v u.1 u.2.1 u.2.2)) (fun (u : (Nat → Int32) × (Nat → Int32) × (Nat → Int32)) t => va_P D vwCl [(x, .inr (5, [.ref xa_grids, .ref x_levelMm, .int (z_i x_levelCount), .ref x_water, .ref x_scratch, .ref x_lines])), (xa_grids, .inl (cA 4, 4, .inr (.inr (.inr (.inr x_grids))))), (g, .inr (1, [.ref ga_units, .ref ga_lengths, .ref ga_offsets, .int (z_i g_step)])), (ga_units, .inl (cA 1, 1280, .inl u.1)), (ga_lengths, .inl (cA 1, 32, .inl u.2.1)), (ga_offsets, .inl (cA 1, 32, .inl u.2.2))] t.heap) (z_A [(x, .inr (5, [.ref xa_grids, .ref x_levelMm, .int (z_i x_levelCount), .ref x_water, .ref x_scratch, .ref x_lines])), (xa_grids, .inl (cA 4, 4, .inr (.inr (.inr (.inr x_grids))))), (g, .inr (1, [.ref ga_units, .ref ga_lengths, .ref ga_offsets, .int (z_i g_step)])), (ga_units, .inl (cA 1, 1280, .inl g_units)), (ga_lengths, .inl (cA 1, 32, .inl g_lengths)), (ga_offsets, .inl (cA 1, 32, .inl g_offsets))])) 0 0 (z_A [(x, .inr (5, [.ref xa_grids, .ref x_levelMm, .int (z_i x_levelCount), .ref x_water, .ref x_scratch, .ref x_lines])), (xa_grids, .inl (cA 4, 4, .inr (.inr (.inr (.inr x_grids))))), (g, .inr (1, [.ref ga_units, .ref ga_lengths, .ref ga_offsets, .int (z_i g_step)])), (ga_units, .inl (cA 1, 1280, .inl g_units)), (ga_lengths, .inl (cA 1, 32, .inl g_lengths)), (ga_offsets, .inl (cA 1, 32, .inl g_offsets))]) := by
  refine wk_X7_row l D cA x xa_grids x_grids x_levelMm x_levelCount x_water x_scratch x_lines gi i len ofs g ga_units g_units ga_lengths g_lengths ga_offsets g_offsets g_step h_x_levelCount h_gi h_i h_len h_ofs h_g_step hg_gi (fun (r : Int) (g_units' : (Nat → Int32)) (g_lengths' : (Nat → Int32)) (g_offsets' : (Nat → Int32)) => r = z_b (decide ((0 ≤ gi ∧ gi < 4) ∧ 0 ≤ i ∧ i < 32 ∧ 0 ≤ ofs ∧ ofs < 40 ∧ 0 ≤ len ∧ len ≤ 40 - ofs)) ∧ ((0 ≤ gi ∧ gi < 4) ∧ 0 ≤ i ∧ i < 32 ∧ 0 ≤ ofs ∧ ofs < 40 ∧ 0 ≤ len ∧ len ≤ 40 - ofs → (∀ q : Int, 0 ≤ q → z_g g_units' q = if 40 * i ≤ q ∧ q < 40 * i + 40 then -2147483648 else z_g g_units q) ∧ g_lengths' = z_s g_lengths i len ∧ g_offsets' = z_s g_offsets i ofs) ∧ (¬ ((0 ≤ gi ∧ gi < 4) ∧ 0 ≤ i ∧ i < 32 ∧ 0 ≤ ofs ∧ ofs < 40 ∧ 0 ≤ len ∧ len ≤ 40 - ofs) → g_units' = g_units ∧ g_lengths' = g_lengths ∧ g_offsets' = g_offsets)) ?_
  unfold vc_X7_row
  have no : ¬ ((0 ≤ gi ∧ gi < 4) ∧ 0 ≤ i ∧ i < 32 ∧ 0 ≤ ofs ∧ ofs < 40 ∧ 0 ≤ len ∧ len ≤ 40 - ofs) → (0 : Int) = z_b (decide ((0 ≤ gi ∧ gi < 4) ∧ 0 ≤ i ∧ i < 32 ∧ 0 ≤ ofs ∧ ofs < 40 ∧ 0 ≤ len ∧ len ≤ 40 - ofs)) ∧ ((0 ≤ gi ∧ gi < 4) ∧ 0 ≤ i ∧ i < 32 ∧ 0 ≤ ofs ∧ ofs < 40 ∧ 0 ≤ len ∧ len ≤ 40 - ofs → (∀ q : Int, 0 ≤ q → z_g g_units q = if 40 * i ≤ q ∧ q < 40 * i + 40 then -2147483648 else z_g g_units q) ∧ g_lengths = z_s g_lengths i len ∧ g_offsets = z_s g_offsets i ofs) ∧ (¬ ((0 ≤ gi ∧ gi < 4) ∧ 0 ≤ i ∧ i < 32 ∧ 0 ≤ ofs ∧ ofs < 40 ∧ 0 ≤ len ∧ len ≤ 40 - ofs) → g_units = g_units ∧ g_lengths = g_lengths ∧ g_offsets = g_offsets) := by
    intro h
    refine ⟨by rw [decide_eq_false h]; rfl, fun h2 => absurd h2 h, fun _ => ⟨rfl, rfl, rfl⟩⟩
  refine ⟨fun q => ⟨fun q1 => no (by omega), fun q1 => ⟨fun q2 => no (by omega), fun q2 => ⟨fun q3 => no (by omega), fun q3 => ⟨fun q4 => ⟨fun q5 => no (by omega), fun q5 => ⟨⟨by omega, by omega⟩, fun q6 => ⟨⟨q1, q2⟩, ?_⟩, fun q6 => no (by omega)⟩⟩, fun q4 => no (by omega)⟩⟩⟩⟩, fun q => no (fun h => q h.1)⟩
  intro c4 c5 c6 h
  have hc : (0 ≤ gi ∧ gi < 4) ∧ 0 ≤ i ∧ i < 32 ∧ 0 ≤ ofs ∧ ofs < 40 ∧ 0 ≤ len ∧ len ≤ 40 - ofs := ⟨q, q1, q2, q3, q4, q5, q6⟩
  exact ⟨by rw [decide_eq_true hc]; rfl, fun _ => h, fun h2 => absurd hc h2⟩
def vc_X7_height (gi : Int) (i : Int) (j : Int) (bits : Int) (g_units : Nat → Int32) (g_lengths : Nat → Int32) (g_offsets : Nat → Int32) (Q : Int → (Nat → Int32) → Prop) : Prop :=
((0 ≤ gi ∧ gi < 4 → (∀ (r2 : Int), z_in r2 → (r2 = b_uf bits) → ((r2 = -2147483648 → Q 0 g_units) ∧
(r2 ≠ -2147483648 → (g_rw g_lengths g_offsets) ∧ (∀ (r4 : Int), z_in r4 → (r4 = z_b (decide (0 ≤ i ∧ i < 32 ∧ 0 ≤ j ∧ j < 40 ∧ z_g g_offsets i ≤ j ∧ j < z_g g_offsets i + z_g g_lengths i))) → ((r4 ≠ 0 → z_in ((40 * i) + j) ∧ (0 ≤ ((40 * i) + j) ∧ ((40 * i) + j) < 1280) ∧ (∀ (c7 : Nat → Int32), (c7 = z_s g_units ((40 * i) + j) r2) → Q 1 c7)) ∧
(r4 = 0 → Q 0 g_units))))))) ∧
(¬ (0 ≤ gi ∧ gi < 4) → (∀ (r8 : Int), z_in r8 → (r8 = b_uf bits) → Q 0 g_units)))
set_option maxHeartbeats 4000000 in
set_option maxRecDepth 100000 in
theorem wk_X7_height (l : Launch) (D : va_G) (cA : Nat → ClassId) (x : Nat) (xa_grids : Nat) (x_grids : Nat → Option Nat) (x_levelMm : Nat) (x_levelCount : Int) (x_water : Nat) (x_scratch : Nat) (x_lines : Nat) (gi : Int) (i : Int) (j : Int) (bits : Int) (g : Nat) (ga_units : Nat) (g_units : Nat → Int32) (ga_lengths : Nat) (g_lengths : Nat → Int32) (ga_offsets : Nat) (g_offsets : Nat → Int32) (g_step : Int) (h_x_levelCount : z_in x_levelCount) (h_gi : z_in gi) (h_i : z_in i) (h_j : z_in j) (h_bits : z_in bits) (h_g_step : z_in g_step) (hg_gi : 0 ≤ gi ∧ gi < 4 → x_grids gi.toNat = some g) (Q : Int → (Nat → Int32) → Prop) (hv : vc_X7_height gi i j bits g_units g_lengths g_offsets Q) : Met l yX7_height wsX7_height ({ frames := 1, cells := 0, slots := 0, locals := 25 } : Room) (va_Pc [.ref x, .int (z_i gi), .int (z_i i), .int (z_i j), .int (z_i bits)] (z_M0 D cA [(x, .inr (5, [.ref xa_grids, .ref x_levelMm, .int (z_i x_levelCount), .ref x_water, .ref x_scratch, .ref x_lines])), (xa_grids, .inl (cA 4, 4, .inr (.inr (.inr (.inr x_grids))))), (g, .inr (1, [.ref ga_units, .ref ga_lengths, .ref ga_offsets, .int (z_i g_step)])), (ga_units, .inl (cA 1, 1280, .inl g_units)), (ga_lengths, .inl (cA 1, 32, .inl g_lengths)), (ga_offsets, .inl (cA 1, 32, .inl g_offsets))])) (va_Qi (z_mi (fun v (u : (Nat → Int32)) => Q v u)) (fun (u : (Nat → Int32)) t => va_P D vwCl [(x, .inr (5, [.ref xa_grids, .ref x_levelMm, .int (z_i x_levelCount), .ref x_water, .ref x_scratch, .ref x_lines])), (xa_grids, .inl (cA 4, 4, .inr (.inr (.inr (.inr x_grids))))), (g, .inr (1, [.ref ga_units, .ref ga_lengths, .ref ga_offsets, .int (z_i g_step)])), (ga_units, .inl (cA 1, 1280, .inl u)), (ga_lengths, .inl (cA 1, 32, .inl g_lengths)), (ga_offsets, .inl (cA 1, 32, .inl g_offsets))] t.heap) (z_A [(x, .inr (5, [.ref xa_grids, .ref x_levelMm, .int (z_i x_levelCount), .ref x_water, .ref x_scratch, .ref x_lines])), (xa_grids, .inl (cA 4, 4, .inr (.inr (.inr (.inr x_grids))))), (g, .inr (1, [.ref ga_units, .ref ga_lengths, .ref ga_offsets, .int (z_i g_step)])), (ga_units, .inl (cA 1, 1280, .inl g_units)), (ga_lengths, .inl (cA 1, 32, .inl g_lengths)), (ga_offsets, .inl (cA 1, 32, .inl g_offsets))])) 0 0 (z_A [(x, .inr (5, [.ref xa_grids, .ref x_levelMm, .int (z_i x_levelCount), .ref x_water, .ref x_scratch, .ref x_lines])), (xa_grids, .inl (cA 4, 4, .inr (.inr (.inr (.inr x_grids))))), (g, .inr (1, [.ref ga_units, .ref ga_lengths, .ref ga_offsets, .int (z_i g_step)])), (ga_units, .inl (cA 1, 1280, .inl g_units)), (ga_lengths, .inl (cA 1, 32, .inl g_lengths)), (ga_offsets, .inl (cA 1, 32, .inl g_offsets))]) := by
  unfold vc_X7_height at hv
  refine Met.ofW (cc := cX7_height) (maxL := 7) (ret := (some .boolean)) (by decide +kernel) rfl ?_
  intro p e s m args below meth c s₁ B hml hv0
  obtain ⟨rfl, hK, hP, hD0⟩ := hv0
  have hx := B.exec
  have hb := B.bytes
  have hr := B.returns
  have hts := atoms_spec (ws := wsX7_height) B.pre
  have hown : s.vm.findClass RX7 = some m.cls := findClass_of_methodNamed B.named
  have hlocks := B.notSynchronized
  have hD := z_D_self hD0
  generalize hAe : z_A [(x, .inr (5, [.ref xa_grids, .ref x_levelMm, .int (z_i x_levelCount), .ref x_water, .ref x_scratch, .ref x_lines])), (xa_grids, .inl (cA 4, 4, .inr (.inr (.inr (.inr x_grids))))), (g, .inr (1, [.ref ga_units, .ref ga_lengths, .ref ga_offsets, .int (z_i g_step)])), (ga_units, .inl (cA 1, 1280, .inl g_units)), (ga_lengths, .inl (cA 1, 32, .inl g_lengths)), (ga_offsets, .inl (cA 1, 32, .inl g_offsets))] = A at *
  have hS : va_S A s.heap s.heap [] := va_S.rf
  have hl := lv_entry ([.ref x, .int (z_i gi), .int (z_i i), .int (z_i j), .int (z_i bits)]) (n := 7) (Nat.le_of_ble_eq_true rfl)
  rw [lg_entry_eq]
  generalize (lg_sl ([.ref x, .int (z_i gi), .int (z_i i), .int (z_i j), .int (z_i bits)]) ++ List.replicate (7 - (lg_sl ([.ref x, .int (z_i gi), .int (z_i i), .int (z_i j), .int (z_i bits)])).length) Slot.unset).toArray = ls at hl ⊢
  have hl : lv_has ls 7 [(0, .ref x), (1, .int (z_i gi)), (2, .int (z_i i)), (3, .int (z_i j)), (4, .int (z_i bits))] := hl
  refine lv_aload_n hx hb dX7_height_0 rfl (lv_at hl 0 rfl) ?_
  refine lv_iload_n hx hb dX7_height_1 rfl (lv_at hl 1 rfl) ?_
  refine va_callq (va_runV (As := [.int (z_i gi)]) (rest := []) ⟨hx, hb, hml, hown, hts⟩ (mt_X7_gridOf l D cA x xa_grids x_grids x_levelMm x_levelCount x_water x_scratch x_lines gi h_x_levelCount h_gi) (cwV 1 hts gX7_height_X7_gridOf rfl rfl rfl (by decide +kernel) ⟨Nat.le_of_ble_eq_true rfl, Nat.le_of_ble_eq_true rfl⟩) ⟨z_bl0, va_recv hK hP (ci := 5) (q0 := 0) rfl rfl, fun U hU hW => ⟨rfl, z_b0 hK (hP.sub (ws' := [(x, .inr (5, [.ref xa_grids, .ref x_levelMm, .int (z_i x_levelCount), .ref x_water, .ref x_scratch, .ref x_lines])), (xa_grids, .inl (cA 4, 4, .inr (.inr (.inr (.inr x_grids)))))]) [0, 1] rfl) hU hW⟩⟩ rfl rfl hl.1 rfl (lv_room (Nat.le_of_ble_eq_true rfl)) dX7_height_2 ⟨Nat.zero_le _, Nat.zero_le _⟩) hS (fun q _ h => h.elim) (fun q h => h.elim) (fun r0 u t H locs ht hvm hw hB hz1 hk1 hS => ?_)
  have hq1 := hw
  have hP := z_P_all hP hk1
  by_cases hc : 0 ≤ gi ∧ gi < 4
  · have hv := hv.1 hc
    rw [hq1, if_pos hc, hg_gi hc, z_rf_s]
    refine lv_astore (lv' := [(5, .ref g), (0, .ref x), (1, .int (z_i gi)), (2, .int (z_i i)), (3, .int (z_i j)), (4, .int (z_i bits))]) hx hb dX7_height_5 hl (by decide) rfl (fun ls hl => ?_)
    refine lv_iload hx hb dX7_height_7 (lv_at hl 5 rfl) ?_
    refine va_calli (va_runS (As := [.int (z_i bits)]) (rest := []) ⟨hx, hb, hml, hown, hts⟩ (mt_X1_unitsOfFloat l D cA bits h_bits) (va_cwS 1 hts gX7_height_X1_unitsOfFloat rfl rfl rfl (by decide +kernel) ⟨Nat.le_of_ble_eq_true rfl, Nat.le_of_ble_eq_true rfl⟩) ⟨z_bl0, fun U hU hW => ⟨rfl, z_b0 hK (hP.sub (ws' := []) [] rfl) hU hW⟩⟩ rfl rfl hl.1 rfl (lv_room (Nat.le_of_ble_eq_true rfl)) dX7_height_9 ⟨Nat.zero_le _, Nat.zero_le _⟩) hS (fun q _ h => h.elim) (fun q h => h.elim) (fun r0 u t H locs ht hvm hw hB hz1 hk1 hS => ?_)
    obtain ⟨r2, rfl, h_r2, hw⟩ := hw
    have hP := z_P_all hP hk1
    have hv := hv r2 h_r2 hw
    refine lv_istore (lv' := [(6, .int (z_i r2)), (5, .ref g), (0, .ref x), (1, .int (z_i gi)), (2, .int (z_i i)), (3, .int (z_i j)), (4, .int (z_i bits))]) hx hb dX7_height_12 hl (by decide) rfl (fun ls hl => ?_)
    refine lv_aload hx hb dX7_height_14 (lv_at hl 1 rfl) ?_
    refine lv_ifnull hx hb dX7_height_16 ?_
    refine lv_iload hx hb dX7_height_19 (lv_at hl 0 rfl) ?_
    refine lx_ldc (a := (-2147483648)) hx hb hown (hts (.constant RX7 61 (-2147483648)) (by decide +kernel)) (by decide) dX7_height_21 ?_
    refine lx_icmp_eq (tgt := 36) hx hb dX7_height_23 (by decide) h_r2 (show z_in (-2147483648) from ⟨by decide, by decide⟩) (fun hc => ?_) (fun hc => ?_)
    · have hv := hv.1 hc
      refine lv_iconst (v := z_i 0) hx hb dX7_height_36 rfl ?_
      exact W.zret (v := z_i 0) hx hb hr (by decide) (fun t ht hW => ⟨⟨z_i 0, (g_units), rfl, ⟨0, rfl, (show z_in 0 from ⟨by decide, by decide⟩), hv⟩, z_pt hP ht⟩, hS.F ht⟩) hS.2.2 dX7_height_37
    · have hv := hv.2 hc
      refine lv_aload hx hb dX7_height_26 (lv_at hl 1 rfl) ?_
      refine lv_iload_n hx hb dX7_height_28 rfl (lv_at hl 4 rfl) ?_
      refine lv_iload_n hx hb dX7_height_29 rfl (lv_at hl 5 rfl) ?_
      obtain ⟨hp3, hv⟩ := hv
      refine va_calli (va_runV (As := [.int (z_i i), .int (z_i j)]) (rest := []) ⟨hx, hb, hml, hown, hts⟩ (mt_X2_isInRow l D cA g ga_units g_units ga_lengths g_lengths ga_offsets g_offsets g_step i j h_g_step h_i h_j hp3) (cwV 2 hts gX7_height_X2_isInRow rfl rfl rfl (by decide +kernel) ⟨Nat.le_of_ble_eq_true rfl, Nat.le_of_ble_eq_true rfl⟩) ⟨z_bl0, va_recv hK hP (ci := 1) (q0 := 2) rfl rfl, fun U hU hW => ⟨rfl, z_b0 hK (hP.sub (ws' := [(g, .inr (1, [.ref ga_units, .ref ga_lengths, .ref ga_offsets, .int (z_i g_step)])), (ga_units, .inl (cA 1, 1280, .inl g_units)), (ga_lengths, .inl (cA 1, 32, .inl g_lengths)), (ga_offsets, .inl (cA 1, 32, .inl g_offsets))]) [2, 3, 4, 5] rfl) hU hW⟩⟩ rfl rfl hl.1 rfl (lv_room (Nat.le_of_ble_eq_true rfl)) dX7_height_30 ⟨Nat.zero_le _, Nat.zero_le _⟩) hS (fun q _ h => h.elim) (fun q h => h.elim) (fun r0 u t H locs ht hvm hw hB hz1 hk1 hS => ?_)
      obtain ⟨r4, rfl, h_r4, hw⟩ := hw
      have hP := z_P_all hP hk1
      have hv := hv r4 h_r4 hw
      refine lx_if_ne (tgt := 38) hx hb dX7_height_33 (by decide) h_r4 (fun hc => ?_) (fun hc => ?_)
      · have hv := hv.1 hc
        refine lv_aload hx hb dX7_height_38 (lv_at hl 1 rfl) ?_
        refine lv_bipush (v := z_i 40) hx hb dX7_height_40 (by decide) ?_
        refine lv_iload_n hx hb dX7_height_42 rfl (lv_at hl 4 rfl) ?_
        refine lx_imul hx hb dX7_height_43 ?_
        refine lv_iload_n hx hb dX7_height_44 rfl (lv_at hl 5 rfl) ?_
        refine lx_iadd hx hb dX7_height_45 ?_
        refine lv_iload hx hb dX7_height_46 (lv_at hl 0 rfl) ?_
        obtain ⟨hr5, hv⟩ := hv
        obtain ⟨hp6, hv⟩ := hv
        have hFc := z_fr (A := A) (wc := [(g, .inr (1, [.ref ga_units, .ref ga_lengths, .ref ga_offsets, .int (z_i g_step)])), (ga_units, .inl (cA 1, 1280, .inl g_units)), (ga_lengths, .inl (cA 1, 32, .inl g_lengths)), (ga_offsets, .inl (cA 1, 32, .inl g_offsets))]) hD [2, 3, 4, 5] rfl
        refine va_callv (va_runV (As := [.int (z_i ((40 * i) + j)), .int (z_i r2)]) (rest := []) ⟨hx, hb, hml, hown, hts⟩ (mt_X2_put l D cA g ga_units g_units ga_lengths g_lengths ga_offsets g_offsets g_step ((40 * i) + j) r2 h_g_step hr5 h_r2 hp6) (cwV 2 hts gX7_height_X2_put rfl rfl rfl (by decide +kernel) ⟨Nat.le_of_ble_eq_true rfl, Nat.le_of_ble_eq_true rfl⟩) ⟨z_blm0, va_recv hK hP (ci := 1) (q0 := 2) rfl rfl, fun U hU hW => ⟨rfl, z_m0 hK (hP.sub (ws' := [(g, .inr (1, [.ref ga_units, .ref ga_lengths, .ref ga_offsets, .int (z_i g_step)])), (ga_units, .inl (cA 1, 1280, .inl g_units)), (ga_lengths, .inl (cA 1, 32, .inl g_lengths)), (ga_offsets, .inl (cA 1, 32, .inl g_offsets))]) [2, 3, 4, 5] rfl) (hD.sub (ws' := [(g, .inr (1, [.ref ga_units, .ref ga_lengths, .ref ga_offsets, .int (z_i g_step)])), (ga_units, .inl (cA 1, 1280, .inl g_units)), (ga_lengths, .inl (cA 1, 32, .inl g_lengths)), (ga_offsets, .inl (cA 1, 32, .inl g_offsets))]) [2, 3, 4, 5] (by decide) rfl) hU hW⟩⟩ rfl rfl hl.1 rfl (lv_room (Nat.le_of_ble_eq_true rfl)) dX7_height_48 ⟨Nat.zero_le _, Nat.zero_le _⟩) hS (fun q _ h => hFc q h) hFc (fun u t H locs ht hvm hw hB hz1 hk1 hS => ?_)
        obtain ⟨c7, rfl⟩ : ∃ z, z = u := ⟨_, rfl⟩
        rw [ht] at hB
        have hP := z_join2 (wc := [(g, .inr (1, [.ref ga_units, .ref ga_lengths, .ref ga_offsets, .int (z_i g_step)])), (ga_units, .inl (cA 1, 1280, .inl g_units)), (ga_lengths, .inl (cA 1, 32, .inl g_lengths)), (ga_offsets, .inl (cA 1, 32, .inl g_offsets))]) (w1 := [(g, .inr (1, [.ref ga_units, .ref ga_lengths, .ref ga_offsets, .int (z_i g_step)])), (ga_units, .inl (cA 1, 1280, .inl c7)), (ga_lengths, .inl (cA 1, 32, .inl g_lengths)), (ga_offsets, .inl (cA 1, 32, .inl g_offsets))]) hP hD [2, 3, 4, 5] [0, 0, 1, 2, 3, 4] rfl rfl rfl hk1 hB
        have hP : va_P D vwCl [(x, .inr (5, [.ref xa_grids, .ref x_levelMm, .int (z_i x_levelCount), .ref x_water, .ref x_scratch, .ref x_lines])), (xa_grids, .inl (cA 4, 4, .inr (.inr (.inr (.inr x_grids))))), (g, .inr (1, [.ref ga_units, .ref ga_lengths, .ref ga_offsets, .int (z_i g_step)])), (ga_units, .inl (cA 1, 1280, .inl c7)), (ga_lengths, .inl (cA 1, 32, .inl g_lengths)), (ga_offsets, .inl (cA 1, 32, .inl g_offsets))] H := hP
        have hD : va_D A [(x, .inr (5, [.ref xa_grids, .ref x_levelMm, .int (z_i x_levelCount), .ref x_water, .ref x_scratch, .ref x_lines])), (xa_grids, .inl (cA 4, 4, .inr (.inr (.inr (.inr x_grids))))), (g, .inr (1, [.ref ga_units, .ref ga_lengths, .ref ga_offsets, .int (z_i g_step)])), (ga_units, .inl (cA 1, 1280, .inl c7)), (ga_lengths, .inl (cA 1, 32, .inl g_lengths)), (ga_offsets, .inl (cA 1, 32, .inl g_offsets))] := z_D_addr hD rfl
        have hv := hv c7 hw
        refine lv_iconst (v := z_i 1) hx hb dX7_height_51 rfl ?_
        exact W.zret (v := z_i 1) hx hb hr (by decide) (fun t ht hW => ⟨⟨z_i 1, (c7), rfl, ⟨1, rfl, (show z_in 1 from ⟨by decide, by decide⟩), hv⟩, z_pt hP ht⟩, hS.F ht⟩) hS.2.2 dX7_height_52
      · have hv := hv.2 hc
        refine lv_iconst (v := z_i 0) hx hb dX7_height_36 rfl ?_
        exact W.zret (v := z_i 0) hx hb hr (by decide) (fun t ht hW => ⟨⟨z_i 0, (g_units), rfl, ⟨0, rfl, (show z_in 0 from ⟨by decide, by decide⟩), hv⟩, z_pt hP ht⟩, hS.F ht⟩) hS.2.2 dX7_height_37
  · have hv := hv.2 hc
    rw [hq1, if_neg hc, z_rf_n]
    refine lv_astoreN (lv' := [(5, .null), (0, .ref x), (1, .int (z_i gi)), (2, .int (z_i i)), (3, .int (z_i j)), (4, .int (z_i bits))]) hx hb dX7_height_5 hl (by decide) rfl (fun ls hl => ?_)
    refine lv_iload hx hb dX7_height_7 (lv_at hl 5 rfl) ?_
    refine va_calli (va_runS (As := [.int (z_i bits)]) (rest := []) ⟨hx, hb, hml, hown, hts⟩ (mt_X1_unitsOfFloat l D cA bits h_bits) (va_cwS 1 hts gX7_height_X1_unitsOfFloat rfl rfl rfl (by decide +kernel) ⟨Nat.le_of_ble_eq_true rfl, Nat.le_of_ble_eq_true rfl⟩) ⟨z_bl0, fun U hU hW => ⟨rfl, z_b0 hK (hP.sub (ws' := []) [] rfl) hU hW⟩⟩ rfl rfl hl.1 rfl (lv_room (Nat.le_of_ble_eq_true rfl)) dX7_height_9 ⟨Nat.zero_le _, Nat.zero_le _⟩) hS (fun q _ h => h.elim) (fun q h => h.elim) (fun r0 u t H locs ht hvm hw hB hz1 hk1 hS => ?_)
    obtain ⟨r8, rfl, h_r8, hw⟩ := hw
    have hP := z_P_all hP hk1
    have hv := hv r8 h_r8 hw
    refine lv_istore (lv' := [(6, .int (z_i r8)), (5, .null), (0, .ref x), (1, .int (z_i gi)), (2, .int (z_i i)), (3, .int (z_i j)), (4, .int (z_i bits))]) hx hb dX7_height_12 hl (by decide) rfl (fun ls hl => ?_)
    refine lv_aloadN hx hb dX7_height_14 (lv_at hl 1 rfl) ?_
    refine lv_ifnullN (tgt := 36) hx hb dX7_height_16 (by decide) ?_
    refine lv_iconst (v := z_i 0) hx hb dX7_height_36 rfl ?_
    exact W.zret (v := z_i 0) hx hb hr (by decide) (fun t ht hW => ⟨⟨z_i 0, (g_units), rfl, ⟨0, rfl, (show z_in 0 from ⟨by decide, by decide⟩), hv⟩, z_pt hP ht⟩, hS.F ht⟩) hS.2.2 dX7_height_37
set_option maxHeartbeats 4000000 in
set_option maxRecDepth 100000 in
theorem mt_X7_height (l : Launch) (D : va_G) (cA : Nat → ClassId) (x : Nat) (xa_grids : Nat) (x_grids : Nat → Option Nat) (x_levelMm : Nat) (x_levelCount : Int) (x_water : Nat) (x_scratch : Nat) (x_lines : Nat) (gi : Int) (i : Int) (j : Int) (bits : Int) (g : Nat) (ga_units : Nat) (g_units : Nat → Int32) (ga_lengths : Nat) (g_lengths : Nat → Int32) (ga_offsets : Nat) (g_offsets : Nat → Int32) (g_step : Int) (h_x_levelCount : z_in x_levelCount) (h_gi : z_in gi) (h_i : z_in i) (h_j : z_in j) (h_bits : z_in bits) (h_g_step : z_in g_step) (hg_gi : 0 ≤ gi ∧ gi < 4 → x_grids gi.toNat = some g) (hp1 : g_rw g_lengths g_offsets) : Met l yX7_height wsX7_height ({ frames := 1, cells := 0, slots := 0, locals := 25 } : Room) (va_Pc [.ref x, .int (z_i gi), .int (z_i i), .int (z_i j), .int (z_i bits)] (z_M0 D cA [(x, .inr (5, [.ref xa_grids, .ref x_levelMm, .int (z_i x_levelCount), .ref x_water, .ref x_scratch, .ref x_lines])), (xa_grids, .inl (cA 4, 4, .inr (.inr (.inr (.inr x_grids))))), (g, .inr (1, [.ref ga_units, .ref ga_lengths, .ref ga_offsets, .int (z_i g_step)])), (ga_units, .inl (cA 1, 1280, .inl g_units)), (ga_lengths, .inl (cA 1, 32, .inl g_lengths)), (ga_offsets, .inl (cA 1, 32, .inl g_offsets))])) (va_Qi (z_mi (fun v (u : (Nat → Int32)) => (fun (r : Int) (g_units' : (Nat → Int32)) => r = z_b (decide ((0 ≤ gi ∧ gi < 4) ∧ b_uf bits ≠ -2147483648 ∧ 0 ≤ i ∧ i < 32 ∧ 0 ≤ j ∧ j < 40 ∧ z_g g_offsets i ≤ j ∧ j < z_g g_offsets i + z_g g_lengths i)) ∧ g_units' = (if (0 ≤ gi ∧ gi < 4) ∧ b_uf bits ≠ -2147483648 ∧ 0 ≤ i ∧ i < 32 ∧ 0 ≤ j ∧ j < 40 ∧ z_g g_offsets i ≤ j ∧ j < z_g g_offsets i + z_g g_lengths i then z_s g_units (40 * i + j) (b_uf bits) else g_units)) v u)) (fun (u : (Nat → Int32)) t => va_P D vwCl [(x, .inr (5, [.ref xa_grids, .ref x_levelMm, .int (z_i x_levelCount), .ref x_water, .ref x_scratch, .ref x_lines])), (xa_grids, .inl (cA 4, 4, .inr (.inr (.inr (.inr x_grids))))), (g, .inr (1, [.ref ga_units, .ref ga_lengths, .ref ga_offsets, .int (z_i g_step)])), (ga_units, .inl (cA 1, 1280, .inl u)), (ga_lengths, .inl (cA 1, 32, .inl g_lengths)), (ga_offsets, .inl (cA 1, 32, .inl g_offsets))] t.heap) (z_A [(x, .inr (5, [.ref xa_grids, .ref x_levelMm, .int (z_i x_levelCount), .ref x_water, .ref x_scratch, .ref x_lines])), (xa_grids, .inl (cA 4, 4, .inr (.inr (.inr (.inr x_grids))))), (g, .inr (1, [.ref ga_units, .ref ga_lengths, .ref ga_offsets, .int (z_i g_step)])), (ga_units, .inl (cA 1, 1280, .inl g_units)), (ga_lengths, .inl (cA 1, 32, .inl g_lengths)), (ga_offsets, .inl (cA 1, 32, .inl g_offsets))])) 0 0 (z_A [(x, .inr (5, [.ref xa_grids, .ref x_levelMm, .int (z_i x_levelCount), .ref x_water, .ref x_scratch, .ref x_lines])), (xa_grids, .inl (cA 4, 4, .inr (.inr (.inr (.inr x_grids))))), (g, .inr (1, [.ref ga_units, .ref ga_lengths, .ref ga_offsets, .int (z_i g_step)])), (ga_units, .inl (cA 1, 1280, .inl g_units)), (ga_lengths, .inl (cA 1, 32, .inl g_lengths)), (ga_offsets, .inl (cA 1, 32, .inl g_offsets))]) := by
  refine wk_X7_height l D cA x xa_grids x_grids x_levelMm x_levelCount x_water x_scratch x_lines gi i j bits g ga_units g_units ga_lengths g_lengths ga_offsets g_offsets g_step h_x_levelCount h_gi h_i h_j h_bits h_g_step hg_gi (fun (r : Int) (g_units' : (Nat → Int32)) => r = z_b (decide ((0 ≤ gi ∧ gi < 4) ∧ b_uf bits ≠ -2147483648 ∧ 0 ≤ i ∧ i < 32 ∧ 0 ≤ j ∧ j < 40 ∧ z_g g_offsets i ≤ j ∧ j < z_g g_offsets i + z_g g_lengths i)) ∧ g_units' = (if (0 ≤ gi ∧ gi < 4) ∧ b_uf bits ≠ -2147483648 ∧ 0 ≤ i ∧ i < 32 ∧ 0 ≤ j ∧ j < 40 ∧ z_g g_offsets i ≤ j ∧ j < z_g g_offsets i + z_g g_lengths i then z_s g_units (40 * i + j) (b_uf bits) else g_units)) ?_
  unfold vc_X7_height
  refine ⟨fun q => ?_, fun q => ?_⟩
  · rintro r2 _ rfl
    refine ⟨fun q1 => ?_, fun q1 => ⟨hp1, ?_⟩⟩
    · rw [if_neg (fun h => h.2.1 q1), decide_eq_false (fun h => h.2.1 q1)]; exact ⟨rfl, rfl⟩
    · rintro r4 _ rfl
      refine ⟨fun q2 => ?_, fun q2 => ?_⟩
      · have q3 := of_decide_eq_true (zb_t q2)
        refine ⟨⟨by omega, by omega⟩, ⟨by omega, by omega⟩, ?_⟩
        rintro c7 rfl
        rw [if_pos ⟨q, q1, q3⟩, decide_eq_true ⟨q, q1, q3⟩]; exact ⟨rfl, rfl⟩
      · have q3 := of_decide_eq_false (zb_f q2)
        rw [if_neg (fun h => q3 h.2.2), decide_eq_false (fun h => q3 h.2.2)]; exact ⟨rfl, rfl⟩
  · rintro r8 _ _
    rw [if_neg (fun h => q h.1), decide_eq_false (fun h => q h.1)]; exact ⟨rfl, rfl⟩
def vc_X7_missing (gi : Int) (i : Int) (j : Int) (g_units : Nat → Int32) (Q : Int → (Nat → Int32) → Prop) : Prop :=
((0 ≤ gi ∧ gi < 4 → (∀ (r2 : Int), z_in r2 → (r2 = z_b (decide (m_no (g_th g_units) i j ≠ -1))) → ((r2 ≠ 0 → z_in ((40 * i) + j) ∧ (0 ≤ ((40 * i) + j) ∧ ((40 * i) + j) < 1280) ∧ (∀ (c5 : Nat → Int32), (c5 = z_s g_units ((40 * i) + j) (-2147483648 : Int)) → Q 1 c5)) ∧
(r2 = 0 → Q 0 g_units)))) ∧
(¬ (0 ≤ gi ∧ gi < 4) → Q 0 g_units))
set_option maxHeartbeats 4000000 in
set_option maxRecDepth 100000 in
theorem wk_X7_missing (l : Launch) (D : va_G) (cA : Nat → ClassId) (x : Nat) (xa_grids : Nat) (x_grids : Nat → Option Nat) (x_levelMm : Nat) (x_levelCount : Int) (x_water : Nat) (x_scratch : Nat) (x_lines : Nat) (gi : Int) (i : Int) (j : Int) (g : Nat) (ga_units : Nat) (g_units : Nat → Int32) (ga_lengths : Nat) (g_lengths : Nat → Int32) (ga_offsets : Nat) (g_offsets : Nat → Int32) (g_step : Int) (h_x_levelCount : z_in x_levelCount) (h_gi : z_in gi) (h_i : z_in i) (h_j : z_in j) (h_g_step : z_in g_step) (hg_gi : 0 ≤ gi ∧ gi < 4 → x_grids gi.toNat = some g) (Q : Int → (Nat → Int32) → Prop) (hv : vc_X7_missing gi i j g_units Q) : Met l yX7_missing wsX7_missing ({ frames := 3, cells := 0, slots := 0, locals := 66 } : Room) (va_Pc [.ref x, .int (z_i gi), .int (z_i i), .int (z_i j)] (z_M0 D cA [(x, .inr (5, [.ref xa_grids, .ref x_levelMm, .int (z_i x_levelCount), .ref x_water, .ref x_scratch, .ref x_lines])), (xa_grids, .inl (cA 4, 4, .inr (.inr (.inr (.inr x_grids))))), (g, .inr (1, [.ref ga_units, .ref ga_lengths, .ref ga_offsets, .int (z_i g_step)])), (ga_units, .inl (cA 1, 1280, .inl g_units)), (ga_lengths, .inl (cA 1, 32, .inl g_lengths)), (ga_offsets, .inl (cA 1, 32, .inl g_offsets))])) (va_Qi (z_mi (fun v (u : (Nat → Int32)) => Q v u)) (fun (u : (Nat → Int32)) t => va_P D vwCl [(x, .inr (5, [.ref xa_grids, .ref x_levelMm, .int (z_i x_levelCount), .ref x_water, .ref x_scratch, .ref x_lines])), (xa_grids, .inl (cA 4, 4, .inr (.inr (.inr (.inr x_grids))))), (g, .inr (1, [.ref ga_units, .ref ga_lengths, .ref ga_offsets, .int (z_i g_step)])), (ga_units, .inl (cA 1, 1280, .inl u)), (ga_lengths, .inl (cA 1, 32, .inl g_lengths)), (ga_offsets, .inl (cA 1, 32, .inl g_offsets))] t.heap) (z_A [(x, .inr (5, [.ref xa_grids, .ref x_levelMm, .int (z_i x_levelCount), .ref x_water, .ref x_scratch, .ref x_lines])), (xa_grids, .inl (cA 4, 4, .inr (.inr (.inr (.inr x_grids))))), (g, .inr (1, [.ref ga_units, .ref ga_lengths, .ref ga_offsets, .int (z_i g_step)])), (ga_units, .inl (cA 1, 1280, .inl g_units)), (ga_lengths, .inl (cA 1, 32, .inl g_lengths)), (ga_offsets, .inl (cA 1, 32, .inl g_offsets))])) 0 0 (z_A [(x, .inr (5, [.ref xa_grids, .ref x_levelMm, .int (z_i x_levelCount), .ref x_water, .ref x_scratch, .ref x_lines])), (xa_grids, .inl (cA 4, 4, .inr (.inr (.inr (.inr x_grids))))), (g, .inr (1, [.ref ga_units, .ref ga_lengths, .ref ga_offsets, .int (z_i g_step)])), (ga_units, .inl (cA 1, 1280, .inl g_units)), (ga_lengths, .inl (cA 1, 32, .inl g_lengths)), (ga_offsets, .inl (cA 1, 32, .inl g_offsets))]) := by
  unfold vc_X7_missing at hv
  refine Met.ofW (cc := cX7_missing) (maxL := 5) (ret := (some .boolean)) (by decide +kernel) rfl ?_
  intro p e s m args below meth c s₁ B hml hv0
  obtain ⟨rfl, hK, hP, hD0⟩ := hv0
  have hx := B.exec
  have hb := B.bytes
  have hr := B.returns
  have hts := atoms_spec (ws := wsX7_missing) B.pre
  have hown : s.vm.findClass RX7 = some m.cls := findClass_of_methodNamed B.named
  have hlocks := B.notSynchronized
  have hD := z_D_self hD0
  generalize hAe : z_A [(x, .inr (5, [.ref xa_grids, .ref x_levelMm, .int (z_i x_levelCount), .ref x_water, .ref x_scratch, .ref x_lines])), (xa_grids, .inl (cA 4, 4, .inr (.inr (.inr (.inr x_grids))))), (g, .inr (1, [.ref ga_units, .ref ga_lengths, .ref ga_offsets, .int (z_i g_step)])), (ga_units, .inl (cA 1, 1280, .inl g_units)), (ga_lengths, .inl (cA 1, 32, .inl g_lengths)), (ga_offsets, .inl (cA 1, 32, .inl g_offsets))] = A at *
  have hS : va_S A s.heap s.heap [] := va_S.rf
  have hl := lv_entry ([.ref x, .int (z_i gi), .int (z_i i), .int (z_i j)]) (n := 5) (Nat.le_of_ble_eq_true rfl)
  rw [lg_entry_eq]
  generalize (lg_sl ([.ref x, .int (z_i gi), .int (z_i i), .int (z_i j)]) ++ List.replicate (5 - (lg_sl ([.ref x, .int (z_i gi), .int (z_i i), .int (z_i j)])).length) Slot.unset).toArray = ls at hl ⊢
  have hl : lv_has ls 5 [(0, .ref x), (1, .int (z_i gi)), (2, .int (z_i i)), (3, .int (z_i j))] := hl
  refine lv_aload_n hx hb dX7_missing_0 rfl (lv_at hl 0 rfl) ?_
  refine lv_iload_n hx hb dX7_missing_1 rfl (lv_at hl 1 rfl) ?_
  refine va_callq (va_runV (As := [.int (z_i gi)]) (rest := []) ⟨hx, hb, hml, hown, hts⟩ (mt_X7_gridOf l D cA x xa_grids x_grids x_levelMm x_levelCount x_water x_scratch x_lines gi h_x_levelCount h_gi) (cwV 1 hts gX7_missing_X7_gridOf rfl rfl rfl (by decide +kernel) ⟨Nat.le_of_ble_eq_true rfl, Nat.le_of_ble_eq_true rfl⟩) ⟨z_bl0, va_recv hK hP (ci := 5) (q0 := 0) rfl rfl, fun U hU hW => ⟨rfl, z_b0 hK (hP.sub (ws' := [(x, .inr (5, [.ref xa_grids, .ref x_levelMm, .int (z_i x_levelCount), .ref x_water, .ref x_scratch, .ref x_lines])), (xa_grids, .inl (cA 4, 4, .inr (.inr (.inr (.inr x_grids)))))]) [0, 1] rfl) hU hW⟩⟩ rfl rfl hl.1 rfl (lv_room (Nat.le_of_ble_eq_true rfl)) dX7_missing_2 ⟨Nat.zero_le _, Nat.zero_le _⟩) hS (fun q _ h => h.elim) (fun q h => h.elim) (fun r0 u t H locs ht hvm hw hB hz1 hk1 hS => ?_)
  have hq1 := hw
  have hP := z_P_all hP hk1
  by_cases hc : 0 ≤ gi ∧ gi < 4
  · have hv := hv.1 hc
    rw [hq1, if_pos hc, hg_gi hc, z_rf_s]
    refine lv_astore (lv' := [(4, .ref g), (0, .ref x), (1, .int (z_i gi)), (2, .int (z_i i)), (3, .int (z_i j))]) hx hb dX7_missing_5 hl (by decide) rfl (fun ls hl => ?_)
    refine lv_aload hx hb dX7_missing_7 (lv_at hl 0 rfl) ?_
    refine lv_ifnull hx hb dX7_missing_9 ?_
    refine lv_aload hx hb dX7_missing_12 (lv_at hl 0 rfl) ?_
    refine lv_iload_n hx hb dX7_missing_14 rfl (lv_at hl 3 rfl) ?_
    refine lv_iload_n hx hb dX7_missing_15 rfl (lv_at hl 4 rfl) ?_
    refine va_calli (va_runV (As := [.int (z_i i), .int (z_i j)]) (rest := []) ⟨hx, hb, hml, hown, hts⟩ (mt_X2_has l D cA g ga_units g_units ga_lengths g_lengths ga_offsets g_offsets g_step i j h_g_step h_i h_j) (cwV 2 hts gX7_missing_X2_has rfl rfl rfl (by decide +kernel) ⟨Nat.le_of_ble_eq_true rfl, Nat.le_of_ble_eq_true rfl⟩) ⟨z_bl0, va_recv hK hP (ci := 1) (q0 := 2) rfl rfl, fun U hU hW => ⟨rfl, z_b0 hK (hP.sub (ws' := [(g, .inr (1, [.ref ga_units, .ref ga_lengths, .ref ga_offsets, .int (z_i g_step)])), (ga_units, .inl (cA 1, 1280, .inl g_units)), (ga_lengths, .inl (cA 1, 32, .inl g_lengths)), (ga_offsets, .inl (cA 1, 32, .inl g_offsets))]) [2, 3, 4, 5] rfl) hU hW⟩⟩ rfl rfl hl.1 rfl (lv_room (Nat.le_of_ble_eq_true rfl)) dX7_missing_16 ⟨Nat.zero_le _, Nat.zero_le _⟩) hS (fun q _ h => h.elim) (fun q h => h.elim) (fun r0 u t H locs ht hvm hw hB hz1 hk1 hS => ?_)
    obtain ⟨r2, rfl, h_r2, hw⟩ := hw
    have hP := z_P_all hP hk1
    have hv := hv r2 h_r2 hw
    refine lx_if_ne (tgt := 24) hx hb dX7_missing_19 (by decide) h_r2 (fun hc => ?_) (fun hc => ?_)
    · have hv := hv.1 hc
      refine lv_aload hx hb dX7_missing_24 (lv_at hl 0 rfl) ?_
      refine lv_bipush (v := z_i 40) hx hb dX7_missing_26 (by decide) ?_
      refine lv_iload_n hx hb dX7_missing_28 rfl (lv_at hl 3 rfl) ?_
      refine lx_imul hx hb dX7_missing_29 ?_
      refine lv_iload_n hx hb dX7_missing_30 rfl (lv_at hl 4 rfl) ?_
      refine lx_iadd hx hb dX7_missing_31 ?_
      refine lx_ldc (a := (-2147483648)) hx hb hown (hts (.constant RX7 61 (-2147483648)) (by decide +kernel)) (by decide) dX7_missing_32 ?_
      obtain ⟨hr3, hv⟩ := hv
      obtain ⟨hp4, hv⟩ := hv
      have hFc := z_fr (A := A) (wc := [(g, .inr (1, [.ref ga_units, .ref ga_lengths, .ref ga_offsets, .int (z_i g_step)])), (ga_units, .inl (cA 1, 1280, .inl g_units)), (ga_lengths, .inl (cA 1, 32, .inl g_lengths)), (ga_offsets, .inl (cA 1, 32, .inl g_offsets))]) hD [2, 3, 4, 5] rfl
      refine va_callv (va_runV (As := [.int (z_i ((40 * i) + j)), .int (z_i (-2147483648))]) (rest := []) ⟨hx, hb, hml, hown, hts⟩ (mt_X2_put l D cA g ga_units g_units ga_lengths g_lengths ga_offsets g_offsets g_step ((40 * i) + j) (-2147483648) h_g_step hr3 (show z_in (-2147483648) from ⟨by decide, by decide⟩) hp4) (cwV 2 hts gX7_missing_X2_put rfl rfl rfl (by decide +kernel) ⟨Nat.le_of_ble_eq_true rfl, Nat.le_of_ble_eq_true rfl⟩) ⟨z_blm0, va_recv hK hP (ci := 1) (q0 := 2) rfl rfl, fun U hU hW => ⟨rfl, z_m0 hK (hP.sub (ws' := [(g, .inr (1, [.ref ga_units, .ref ga_lengths, .ref ga_offsets, .int (z_i g_step)])), (ga_units, .inl (cA 1, 1280, .inl g_units)), (ga_lengths, .inl (cA 1, 32, .inl g_lengths)), (ga_offsets, .inl (cA 1, 32, .inl g_offsets))]) [2, 3, 4, 5] rfl) (hD.sub (ws' := [(g, .inr (1, [.ref ga_units, .ref ga_lengths, .ref ga_offsets, .int (z_i g_step)])), (ga_units, .inl (cA 1, 1280, .inl g_units)), (ga_lengths, .inl (cA 1, 32, .inl g_lengths)), (ga_offsets, .inl (cA 1, 32, .inl g_offsets))]) [2, 3, 4, 5] (by decide) rfl) hU hW⟩⟩ rfl rfl hl.1 rfl (lv_room (Nat.le_of_ble_eq_true rfl)) dX7_missing_34 ⟨Nat.zero_le _, Nat.zero_le _⟩) hS (fun q _ h => hFc q h) hFc (fun u t H locs ht hvm hw hB hz1 hk1 hS => ?_)
      obtain ⟨c5, rfl⟩ : ∃ z, z = u := ⟨_, rfl⟩
      rw [ht] at hB
      have hP := z_join2 (wc := [(g, .inr (1, [.ref ga_units, .ref ga_lengths, .ref ga_offsets, .int (z_i g_step)])), (ga_units, .inl (cA 1, 1280, .inl g_units)), (ga_lengths, .inl (cA 1, 32, .inl g_lengths)), (ga_offsets, .inl (cA 1, 32, .inl g_offsets))]) (w1 := [(g, .inr (1, [.ref ga_units, .ref ga_lengths, .ref ga_offsets, .int (z_i g_step)])), (ga_units, .inl (cA 1, 1280, .inl c5)), (ga_lengths, .inl (cA 1, 32, .inl g_lengths)), (ga_offsets, .inl (cA 1, 32, .inl g_offsets))]) hP hD [2, 3, 4, 5] [0, 0, 1, 2, 3, 4] rfl rfl rfl hk1 hB
      have hP : va_P D vwCl [(x, .inr (5, [.ref xa_grids, .ref x_levelMm, .int (z_i x_levelCount), .ref x_water, .ref x_scratch, .ref x_lines])), (xa_grids, .inl (cA 4, 4, .inr (.inr (.inr (.inr x_grids))))), (g, .inr (1, [.ref ga_units, .ref ga_lengths, .ref ga_offsets, .int (z_i g_step)])), (ga_units, .inl (cA 1, 1280, .inl c5)), (ga_lengths, .inl (cA 1, 32, .inl g_lengths)), (ga_offsets, .inl (cA 1, 32, .inl g_offsets))] H := hP
      have hD : va_D A [(x, .inr (5, [.ref xa_grids, .ref x_levelMm, .int (z_i x_levelCount), .ref x_water, .ref x_scratch, .ref x_lines])), (xa_grids, .inl (cA 4, 4, .inr (.inr (.inr (.inr x_grids))))), (g, .inr (1, [.ref ga_units, .ref ga_lengths, .ref ga_offsets, .int (z_i g_step)])), (ga_units, .inl (cA 1, 1280, .inl c5)), (ga_lengths, .inl (cA 1, 32, .inl g_lengths)), (ga_offsets, .inl (cA 1, 32, .inl g_offsets))] := z_D_addr hD rfl
      have hv := hv c5 hw
      refine lv_iconst (v := z_i 1) hx hb dX7_missing_37 rfl ?_
      exact W.zret (v := z_i 1) hx hb hr (by decide) (fun t ht hW => ⟨⟨z_i 1, (c5), rfl, ⟨1, rfl, (show z_in 1 from ⟨by decide, by decide⟩), hv⟩, z_pt hP ht⟩, hS.F ht⟩) hS.2.2 dX7_missing_38
    · have hv := hv.2 hc
      refine lv_iconst (v := z_i 0) hx hb dX7_missing_22 rfl ?_
      exact W.zret (v := z_i 0) hx hb hr (by decide) (fun t ht hW => ⟨⟨z_i 0, (g_units), rfl, ⟨0, rfl, (show z_in 0 from ⟨by decide, by decide⟩), hv⟩, z_pt hP ht⟩, hS.F ht⟩) hS.2.2 dX7_missing_23
  · have hv := hv.2 hc
    rw [hq1, if_neg hc, z_rf_n]
    refine lv_astoreN (lv' := [(4, .null), (0, .ref x), (1, .int (z_i gi)), (2, .int (z_i i)), (3, .int (z_i j))]) hx hb dX7_missing_5 hl (by decide) rfl (fun ls hl => ?_)
    refine lv_aloadN hx hb dX7_missing_7 (lv_at hl 0 rfl) ?_
    refine lv_ifnullN (tgt := 22) hx hb dX7_missing_9 (by decide) ?_
    refine lv_iconst (v := z_i 0) hx hb dX7_missing_22 rfl ?_
    exact W.zret (v := z_i 0) hx hb hr (by decide) (fun t ht hW => ⟨⟨z_i 0, (g_units), rfl, ⟨0, rfl, (show z_in 0 from ⟨by decide, by decide⟩), hv⟩, z_pt hP ht⟩, hS.F ht⟩) hS.2.2 dX7_missing_23
set_option maxHeartbeats 4000000 in
set_option maxRecDepth 100000 in
theorem mt_X7_missing (l : Launch) (D : va_G) (cA : Nat → ClassId) (x : Nat) (xa_grids : Nat) (x_grids : Nat → Option Nat) (x_levelMm : Nat) (x_levelCount : Int) (x_water : Nat) (x_scratch : Nat) (x_lines : Nat) (gi : Int) (i : Int) (j : Int) (g : Nat) (ga_units : Nat) (g_units : Nat → Int32) (ga_lengths : Nat) (g_lengths : Nat → Int32) (ga_offsets : Nat) (g_offsets : Nat → Int32) (g_step : Int) (h_x_levelCount : z_in x_levelCount) (h_gi : z_in gi) (h_i : z_in i) (h_j : z_in j) (h_g_step : z_in g_step) (hg_gi : 0 ≤ gi ∧ gi < 4 → x_grids gi.toNat = some g)  : Met l yX7_missing wsX7_missing ({ frames := 3, cells := 0, slots := 0, locals := 66 } : Room) (va_Pc [.ref x, .int (z_i gi), .int (z_i i), .int (z_i j)] (z_M0 D cA [(x, .inr (5, [.ref xa_grids, .ref x_levelMm, .int (z_i x_levelCount), .ref x_water, .ref x_scratch, .ref x_lines])), (xa_grids, .inl (cA 4, 4, .inr (.inr (.inr (.inr x_grids))))), (g, .inr (1, [.ref ga_units, .ref ga_lengths, .ref ga_offsets, .int (z_i g_step)])), (ga_units, .inl (cA 1, 1280, .inl g_units)), (ga_lengths, .inl (cA 1, 32, .inl g_lengths)), (ga_offsets, .inl (cA 1, 32, .inl g_offsets))])) (va_Qi (z_mi (fun v (u : (Nat → Int32)) => (fun (r : Int) (g_units' : (Nat → Int32)) => r = z_b (decide ((0 ≤ gi ∧ gi < 4) ∧ m_no (g_th g_units) i j ≠ -1)) ∧ g_units' = (if (0 ≤ gi ∧ gi < 4) ∧ m_no (g_th g_units) i j ≠ -1 then z_s g_units (40 * i + j) (-2147483648) else g_units)) v u)) (fun (u : (Nat → Int32)) t => va_P D vwCl [(x, .inr (5, [.ref xa_grids, .ref x_levelMm, .int (z_i x_levelCount), .ref x_water, .ref x_scratch, .ref x_lines])), (xa_grids, .inl (cA 4, 4, .inr (.inr (.inr (.inr x_grids))))), (g, .inr (1, [.ref ga_units, .ref ga_lengths, .ref ga_offsets, .int (z_i g_step)])), (ga_units, .inl (cA 1, 1280, .inl u)), (ga_lengths, .inl (cA 1, 32, .inl g_lengths)), (ga_offsets, .inl (cA 1, 32, .inl g_offsets))] t.heap) (z_A [(x, .inr (5, [.ref xa_grids, .ref x_levelMm, .int (z_i x_levelCount), .ref x_water, .ref x_scratch, .ref x_lines])), (xa_grids, .inl (cA 4, 4, .inr (.inr (.inr (.inr x_grids))))), (g, .inr (1, [.ref ga_units, .ref ga_lengths, .ref ga_offsets, .int (z_i g_step)])), (ga_units, .inl (cA 1, 1280, .inl g_units)), (ga_lengths, .inl (cA 1, 32, .inl g_lengths)), (ga_offsets, .inl (cA 1, 32, .inl g_offsets))])) 0 0 (z_A [(x, .inr (5, [.ref xa_grids, .ref x_levelMm, .int (z_i x_levelCount), .ref x_water, .ref x_scratch, .ref x_lines])), (xa_grids, .inl (cA 4, 4, .inr (.inr (.inr (.inr x_grids))))), (g, .inr (1, [.ref ga_units, .ref ga_lengths, .ref ga_offsets, .int (z_i g_step)])), (ga_units, .inl (cA 1, 1280, .inl g_units)), (ga_lengths, .inl (cA 1, 32, .inl g_lengths)), (ga_offsets, .inl (cA 1, 32, .inl g_offsets))]) := by
  refine wk_X7_missing l D cA x xa_grids x_grids x_levelMm x_levelCount x_water x_scratch x_lines gi i j g ga_units g_units ga_lengths g_lengths ga_offsets g_offsets g_step h_x_levelCount h_gi h_i h_j h_g_step hg_gi (fun (r : Int) (g_units' : (Nat → Int32)) => r = z_b (decide ((0 ≤ gi ∧ gi < 4) ∧ m_no (g_th g_units) i j ≠ -1)) ∧ g_units' = (if (0 ≤ gi ∧ gi < 4) ∧ m_no (g_th g_units) i j ≠ -1 then z_s g_units (40 * i + j) (-2147483648) else g_units)) ?_
  unfold vc_X7_missing
  refine ⟨fun q => ?_, fun q => ?_⟩
  · rintro r2 _ rfl
    refine ⟨fun q2 => ?_, fun q2 => ?_⟩
    · have q3 := of_decide_eq_true (zb_t q2)
      have q4 := m_no_some q3
      refine ⟨⟨by omega, by omega⟩, ⟨by omega, by omega⟩, ?_⟩
      rintro c7 rfl
      rw [if_pos ⟨q, q3⟩, decide_eq_true ⟨q, q3⟩]; exact ⟨rfl, rfl⟩
    · have q3 := of_decide_eq_false (zb_f q2)
      rw [if_neg (fun h => q3 h.2), decide_eq_false (fun h => q3 h.2)]; exact ⟨rfl, rfl⟩
  · rw [if_neg (fun h => q h.1), decide_eq_false (fun h => q h.1)]; exact ⟨rfl, rfl⟩
def vc_X7_at (gi : Int) (i : Int) (j : Int) (g_units : Nat → Int32) (Q : Int → Prop) : Prop :=
((0 ≤ gi ∧ gi < 4 → (∀ (r2 : Int), z_in r2 → (r2 = z_b (decide (m_no (g_th g_units) i j ≠ -1))) → ((r2 ≠ 0 → z_in ((40 * i) + j) ∧ (∀ (r4 : Int), z_in r4 → (r4 = g_at g_units ((40 * i) + j)) → (-8388608 ≤ r4 ∧ r4 ≤ 8388608) ∧ (∀ (r6 : Int), z_in r6 → (r6 = b_fu r4) → Q r6))) ∧
(r2 = 0 → Q 2147483647)))) ∧
(¬ (0 ≤ gi ∧ gi < 4) → Q 2147483647))
set_option maxHeartbeats 4000000 in
set_option maxRecDepth 100000 in
theorem wk_X7_at (l : Launch) (D : va_G) (cA : Nat → ClassId) (x : Nat) (xa_grids : Nat) (x_grids : Nat → Option Nat) (x_levelMm : Nat) (x_levelCount : Int) (x_water : Nat) (x_scratch : Nat) (x_lines : Nat) (gi : Int) (i : Int) (j : Int) (g : Nat) (ga_units : Nat) (g_units : Nat → Int32) (ga_lengths : Nat) (g_lengths : Nat → Int32) (ga_offsets : Nat) (g_offsets : Nat → Int32) (g_step : Int) (h_x_levelCount : z_in x_levelCount) (h_gi : z_in gi) (h_i : z_in i) (h_j : z_in j) (h_g_step : z_in g_step) (hg_gi : 0 ≤ gi ∧ gi < 4 → x_grids gi.toNat = some g) (Q : Int → Prop) (hv : vc_X7_at gi i j g_units Q) : Met l yX7_at wsX7_at ({ frames := 3, cells := 0, slots := 0, locals := 66 } : Room) (va_Pc [.ref x, .int (z_i gi), .int (z_i i), .int (z_i j)] (z_B0 D cA [(x, .inr (5, [.ref xa_grids, .ref x_levelMm, .int (z_i x_levelCount), .ref x_water, .ref x_scratch, .ref x_lines])), (xa_grids, .inl (cA 4, 4, .inr (.inr (.inr (.inr x_grids))))), (g, .inr (1, [.ref ga_units, .ref ga_lengths, .ref ga_offsets, .int (z_i g_step)])), (ga_units, .inl (cA 1, 1280, .inl g_units)), (ga_lengths, .inl (cA 1, 32, .inl g_lengths)), (ga_offsets, .inl (cA 1, 32, .inl g_offsets))])) (va_Qi (z_ri Q) (fun _ _ => True) (fun _ => False)) 0 0 (fun _ => False) := by
  unfold vc_X7_at at hv
  refine Met.ofW (cc := cX7_at) (maxL := 5) (ret := (some .int)) (by decide +kernel) rfl ?_
  intro p e s m args below meth c s₁ B hml hv0
  obtain ⟨rfl, hK, hP⟩ := hv0
  have hx := B.exec
  have hb := B.bytes
  have hr := B.returns
  have hts := atoms_spec (ws := wsX7_at) B.pre
  have hown : s.vm.findClass RX7 = some m.cls := findClass_of_methodNamed B.named
  have hlocks := B.notSynchronized
  have hS : va_S (fun _ : Nat => False) s.heap s.heap [] := va_S.rf
  have hl := lv_entry ([.ref x, .int (z_i gi), .int (z_i i), .int (z_i j)]) (n := 5) (Nat.le_of_ble_eq_true rfl)
  rw [lg_entry_eq]
  generalize (lg_sl ([.ref x, .int (z_i gi), .int (z_i i), .int (z_i j)]) ++ List.replicate (5 - (lg_sl ([.ref x, .int (z_i gi), .int (z_i i), .int (z_i j)])).length) Slot.unset).toArray = ls at hl ⊢
  have hl : lv_has ls 5 [(0, .ref x), (1, .int (z_i gi)), (2, .int (z_i i)), (3, .int (z_i j))] := hl
  refine lv_aload_n hx hb dX7_at_0 rfl (lv_at hl 0 rfl) ?_
  refine lv_iload_n hx hb dX7_at_1 rfl (lv_at hl 1 rfl) ?_
  refine va_callq (va_runV (As := [.int (z_i gi)]) (rest := []) ⟨hx, hb, hml, hown, hts⟩ (mt_X7_gridOf l D cA x xa_grids x_grids x_levelMm x_levelCount x_water x_scratch x_lines gi h_x_levelCount h_gi) (cwV 1 hts gX7_at_X7_gridOf rfl rfl rfl (by decide +kernel) ⟨Nat.le_of_ble_eq_true rfl, Nat.le_of_ble_eq_true rfl⟩) ⟨z_bl0, va_recv hK hP (ci := 5) (q0 := 0) rfl rfl, fun U hU hW => ⟨rfl, z_b0 hK (hP.sub (ws' := [(x, .inr (5, [.ref xa_grids, .ref x_levelMm, .int (z_i x_levelCount), .ref x_water, .ref x_scratch, .ref x_lines])), (xa_grids, .inl (cA 4, 4, .inr (.inr (.inr (.inr x_grids)))))]) [0, 1] rfl) hU hW⟩⟩ rfl rfl hl.1 rfl (lv_room (Nat.le_of_ble_eq_true rfl)) dX7_at_2 ⟨Nat.zero_le _, Nat.zero_le _⟩) hS (fun q _ h => h.elim) (fun q h => h.elim) (fun r0 u t H locs ht hvm hw hB hz1 hk1 hS => ?_)
  have hq1 := hw
  have hP := z_P_all hP hk1
  by_cases hc : 0 ≤ gi ∧ gi < 4
  · have hv := hv.1 hc
    rw [hq1, if_pos hc, hg_gi hc, z_rf_s]
    refine lv_astore (lv' := [(4, .ref g), (0, .ref x), (1, .int (z_i gi)), (2, .int (z_i i)), (3, .int (z_i j))]) hx hb dX7_at_5 hl (by decide) rfl (fun ls hl => ?_)
    refine lv_aload hx hb dX7_at_7 (lv_at hl 0 rfl) ?_
    refine lv_ifnull hx hb dX7_at_9 ?_
    refine lv_aload hx hb dX7_at_12 (lv_at hl 0 rfl) ?_
    refine lv_iload_n hx hb dX7_at_14 rfl (lv_at hl 3 rfl) ?_
    refine lv_iload_n hx hb dX7_at_15 rfl (lv_at hl 4 rfl) ?_
    refine va_calli (va_runV (As := [.int (z_i i), .int (z_i j)]) (rest := []) ⟨hx, hb, hml, hown, hts⟩ (mt_X2_has l D cA g ga_units g_units ga_lengths g_lengths ga_offsets g_offsets g_step i j h_g_step h_i h_j) (cwV 2 hts gX7_at_X2_has rfl rfl rfl (by decide +kernel) ⟨Nat.le_of_ble_eq_true rfl, Nat.le_of_ble_eq_true rfl⟩) ⟨z_bl0, va_recv hK hP (ci := 1) (q0 := 2) rfl rfl, fun U hU hW => ⟨rfl, z_b0 hK (hP.sub (ws' := [(g, .inr (1, [.ref ga_units, .ref ga_lengths, .ref ga_offsets, .int (z_i g_step)])), (ga_units, .inl (cA 1, 1280, .inl g_units)), (ga_lengths, .inl (cA 1, 32, .inl g_lengths)), (ga_offsets, .inl (cA 1, 32, .inl g_offsets))]) [2, 3, 4, 5] rfl) hU hW⟩⟩ rfl rfl hl.1 rfl (lv_room (Nat.le_of_ble_eq_true rfl)) dX7_at_16 ⟨Nat.zero_le _, Nat.zero_le _⟩) hS (fun q _ h => h.elim) (fun q h => h.elim) (fun r0 u t H locs ht hvm hw hB hz1 hk1 hS => ?_)
    obtain ⟨r2, rfl, h_r2, hw⟩ := hw
    have hP := z_P_all hP hk1
    have hv := hv r2 h_r2 hw
    refine lx_if_ne (tgt := 25) hx hb dX7_at_19 (by decide) h_r2 (fun hc => ?_) (fun hc => ?_)
    · have hv := hv.1 hc
      refine lv_aload hx hb dX7_at_25 (lv_at hl 0 rfl) ?_
      refine lv_bipush (v := z_i 40) hx hb dX7_at_27 (by decide) ?_
      refine lv_iload_n hx hb dX7_at_29 rfl (lv_at hl 3 rfl) ?_
      refine lx_imul hx hb dX7_at_30 ?_
      refine lv_iload_n hx hb dX7_at_31 rfl (lv_at hl 4 rfl) ?_
      refine lx_iadd hx hb dX7_at_32 ?_
      obtain ⟨hr3, hv⟩ := hv
      refine va_calli (va_runV (As := [.int (z_i ((40 * i) + j))]) (rest := []) ⟨hx, hb, hml, hown, hts⟩ (mt_X2_unitsOf l D cA g ga_units g_units ga_lengths g_lengths ga_offsets g_offsets g_step ((40 * i) + j) h_g_step hr3) (cwV 1 hts gX7_at_X2_unitsOf rfl rfl rfl (by decide +kernel) ⟨Nat.le_of_ble_eq_true rfl, Nat.le_of_ble_eq_true rfl⟩) ⟨z_bl0, va_recv hK hP (ci := 1) (q0 := 2) rfl rfl, fun U hU hW => ⟨rfl, z_b0 hK (hP.sub (ws' := [(g, .inr (1, [.ref ga_units, .ref ga_lengths, .ref ga_offsets, .int (z_i g_step)])), (ga_units, .inl (cA 1, 1280, .inl g_units)), (ga_lengths, .inl (cA 1, 32, .inl g_lengths)), (ga_offsets, .inl (cA 1, 32, .inl g_offsets))]) [2, 3, 4, 5] rfl) hU hW⟩⟩ rfl rfl hl.1 rfl (lv_room (Nat.le_of_ble_eq_true rfl)) dX7_at_33 ⟨Nat.zero_le _, Nat.zero_le _⟩) hS (fun q _ h => h.elim) (fun q h => h.elim) (fun r0 u t H locs ht hvm hw hB hz1 hk1 hS => ?_)
      obtain ⟨r4, rfl, h_r4, hw⟩ := hw
      have hP := z_P_all hP hk1
      have hv := hv r4 h_r4 hw
      obtain ⟨hp5, hv⟩ := hv
      refine va_calli (va_runS (As := [.int (z_i r4)]) (rest := []) ⟨hx, hb, hml, hown, hts⟩ (mt_X1_floatOfUnits l D cA r4 h_r4 hp5) (va_cwS 1 hts gX7_at_X1_floatOfUnits rfl rfl rfl (by decide +kernel) ⟨Nat.le_of_ble_eq_true rfl, Nat.le_of_ble_eq_true rfl⟩) ⟨z_bl0, fun U hU hW => ⟨rfl, z_b0 hK (hP.sub (ws' := []) [] rfl) hU hW⟩⟩ rfl rfl hl.1 rfl (lv_room (Nat.le_of_ble_eq_true rfl)) dX7_at_36 ⟨Nat.zero_le _, Nat.zero_le _⟩) hS (fun q _ h => h.elim) (fun q h => h.elim) (fun r0 u t H locs ht hvm hw hB hz1 hk1 hS => ?_)
      obtain ⟨r6, rfl, h_r6, hw⟩ := hw
      have hP := z_P_all hP hk1
      have hv := hv r6 h_r6 hw
      exact W.iret (v := z_i r6) hx hb hr (fun t ht hW => ⟨⟨z_i r6, (), rfl, ⟨r6, rfl, h_r6, hv⟩, trivial⟩, hS.F ht⟩) hS.2.2 dX7_at_39
    · have hv := hv.2 hc
      refine lx_ldc (a := 2147483647) hx hb hown (hts (.constant RX7 73 (2147483647)) (by decide +kernel)) (by decide) dX7_at_22 ?_
      exact W.iret (v := z_i 2147483647) hx hb hr (fun t ht hW => ⟨⟨z_i 2147483647, (), rfl, ⟨2147483647, rfl, (show z_in 2147483647 from ⟨by decide, by decide⟩), hv⟩, trivial⟩, hS.F ht⟩) hS.2.2 dX7_at_24
  · have hv := hv.2 hc
    rw [hq1, if_neg hc, z_rf_n]
    refine lv_astoreN (lv' := [(4, .null), (0, .ref x), (1, .int (z_i gi)), (2, .int (z_i i)), (3, .int (z_i j))]) hx hb dX7_at_5 hl (by decide) rfl (fun ls hl => ?_)
    refine lv_aloadN hx hb dX7_at_7 (lv_at hl 0 rfl) ?_
    refine lv_ifnullN (tgt := 22) hx hb dX7_at_9 (by decide) ?_
    refine lx_ldc (a := 2147483647) hx hb hown (hts (.constant RX7 73 (2147483647)) (by decide +kernel)) (by decide) dX7_at_22 ?_
    exact W.iret (v := z_i 2147483647) hx hb hr (fun t ht hW => ⟨⟨z_i 2147483647, (), rfl, ⟨2147483647, rfl, (show z_in 2147483647 from ⟨by decide, by decide⟩), hv⟩, trivial⟩, hS.F ht⟩) hS.2.2 dX7_at_24
set_option maxHeartbeats 4000000 in
set_option maxRecDepth 100000 in
theorem mt_X7_at (l : Launch) (D : va_G) (cA : Nat → ClassId) (x : Nat) (xa_grids : Nat) (x_grids : Nat → Option Nat) (x_levelMm : Nat) (x_levelCount : Int) (x_water : Nat) (x_scratch : Nat) (x_lines : Nat) (gi : Int) (i : Int) (j : Int) (g : Nat) (ga_units : Nat) (g_units : Nat → Int32) (ga_lengths : Nat) (g_lengths : Nat → Int32) (ga_offsets : Nat) (g_offsets : Nat → Int32) (g_step : Int) (h_x_levelCount : z_in x_levelCount) (h_gi : z_in gi) (h_i : z_in i) (h_j : z_in j) (h_g_step : z_in g_step) (hg_gi : 0 ≤ gi ∧ gi < 4 → x_grids gi.toNat = some g) (hp1 : g_ok g_units) : Met l yX7_at wsX7_at ({ frames := 3, cells := 0, slots := 0, locals := 66 } : Room) (va_Pc [.ref x, .int (z_i gi), .int (z_i i), .int (z_i j)] (z_B0 D cA [(x, .inr (5, [.ref xa_grids, .ref x_levelMm, .int (z_i x_levelCount), .ref x_water, .ref x_scratch, .ref x_lines])), (xa_grids, .inl (cA 4, 4, .inr (.inr (.inr (.inr x_grids))))), (g, .inr (1, [.ref ga_units, .ref ga_lengths, .ref ga_offsets, .int (z_i g_step)])), (ga_units, .inl (cA 1, 1280, .inl g_units)), (ga_lengths, .inl (cA 1, 32, .inl g_lengths)), (ga_offsets, .inl (cA 1, 32, .inl g_offsets))])) (va_Qi (z_ri (fun (r : Int) => r = (if (0 ≤ gi ∧ gi < 4) ∧ m_no (g_th g_units) i j ≠ -1 then b_fu (g_at g_units (40 * i + j)) else 2147483647))) (fun _ _ => True) (fun _ => False)) 0 0 (fun _ => False) := by
  refine wk_X7_at l D cA x xa_grids x_grids x_levelMm x_levelCount x_water x_scratch x_lines gi i j g ga_units g_units ga_lengths g_lengths ga_offsets g_offsets g_step h_x_levelCount h_gi h_i h_j h_g_step hg_gi (fun (r : Int) => r = (if (0 ≤ gi ∧ gi < 4) ∧ m_no (g_th g_units) i j ≠ -1 then b_fu (g_at g_units (40 * i + j)) else 2147483647)) ?_
  unfold vc_X7_at
  refine ⟨fun q => ?_, fun q => ?_⟩
  · rintro r2 _ rfl
    refine ⟨fun q2 => ?_, fun q2 => ?_⟩
    · have q3 := of_decide_eq_true (zb_t q2)
      have q4 := m_no_some q3
      refine ⟨⟨by omega, by omega⟩, ?_⟩
      rintro r4 _ rfl
      refine ⟨g_ok_at hp1 q4.2.2.2.2.2, ?_⟩
      rintro r6 _ rfl
      rw [if_pos ⟨q, q3⟩]
    · have q3 := of_decide_eq_false (zb_f q2)
      rw [if_neg (fun h => q3 h.2)]
  · rw [if_neg (fun h => q h.1)]
def vc_X7_level (x_levelMm : Nat → Int32) (x_levelCount : Int) (mm : Int) (Q : Int → (Nat → Int32) → Int → Prop) : Prop :=
((mm < -8192 → Q (-1) x_levelMm x_levelCount) ∧
(mm ≥ -8192 → ((mm > 8192 → Q (-1) x_levelMm x_levelCount) ∧
(mm ≤ 8192 → ((x_levelCount < 0 → Q (-1) x_levelMm x_levelCount) ∧
(x_levelCount ≥ 0 → ((x_levelCount < 16 → ((x_levelCount ≤ 0 → (0 ≤ x_levelCount ∧ x_levelCount < 16) ∧ (∀ f2 : Nat → Int32, f2 = z_s x_levelMm x_levelCount mm → z_in (x_levelCount + 1) ∧ (∀ v4 : Int, v4 = x_levelCount + 1 → Q v4 f2 v4))) ∧
(x_levelCount > 0 → (0 ≤ x_levelCount - 1 ∧ x_levelCount - 1 < 16) ∧ ((mm > z_g x_levelMm (x_levelCount - 1) → (0 ≤ x_levelCount ∧ x_levelCount < 16) ∧ (∀ f9 : Nat → Int32, f9 = z_s x_levelMm x_levelCount mm → z_in (x_levelCount + 1) ∧ (∀ v11 : Int, v11 = x_levelCount + 1 → Q v11 f9 v11))) ∧
(mm ≤ z_g x_levelMm (x_levelCount - 1) → Q (-1) x_levelMm x_levelCount))))) ∧
(x_levelCount ≥ 16 → Q (-1) x_levelMm x_levelCount))))))))
set_option maxHeartbeats 4000000 in
set_option maxRecDepth 100000 in
theorem wk_X7_level (l : Launch) (D : va_G) (cA : Nat → ClassId) (x : Nat) (x_grids : Nat) (xa_levelMm : Nat) (x_levelMm : Nat → Int32) (x_levelCount : Int) (x_water : Nat) (x_scratch : Nat) (x_lines : Nat) (mm : Int) (h_x_levelCount : z_in x_levelCount) (h_mm : z_in mm) (Q : Int → (Nat → Int32) → Int → Prop) (hv : vc_X7_level x_levelMm x_levelCount mm Q) : Met l yX7_level wsX7_level ({ frames := 0, cells := 0, slots := 0, locals := 0 } : Room) (va_Pc [.ref x, .int (z_i mm)] (z_M0 D cA [(x, .inr (5, [.ref x_grids, .ref xa_levelMm, .int (z_i x_levelCount), .ref x_water, .ref x_scratch, .ref x_lines])), (xa_levelMm, .inl (cA 1, 16, .inl x_levelMm))])) (va_Qi (z_mi (fun v (u : (Nat → Int32) × Int) => z_in u.2 ∧ Q v u.1 u.2)) (fun (u : (Nat → Int32) × Int) t => va_P D vwCl [(x, .inr (5, [.ref x_grids, .ref xa_levelMm, .int (z_i u.2), .ref x_water, .ref x_scratch, .ref x_lines])), (xa_levelMm, .inl (cA 1, 16, .inl u.1))] t.heap) (z_A [(x, .inr (5, [.ref x_grids, .ref xa_levelMm, .int (z_i x_levelCount), .ref x_water, .ref x_scratch, .ref x_lines])), (xa_levelMm, .inl (cA 1, 16, .inl x_levelMm))])) 0 0 (z_A [(x, .inr (5, [.ref x_grids, .ref xa_levelMm, .int (z_i x_levelCount), .ref x_water, .ref x_scratch, .ref x_lines])), (xa_levelMm, .inl (cA 1, 16, .inl x_levelMm))]) := by
  unfold vc_X7_level at hv
  refine Met.ofW (cc := cX7_level) (maxL := 2) (ret := (some .int)) (by decide +kernel) rfl ?_
  intro p e s m args below meth c s₁ B hml hv0
  obtain ⟨rfl, hK, hP, hD0⟩ := hv0
  have hx := B.exec
  have hb := B.bytes
  have hr := B.returns
  have hts := atoms_spec (ws := wsX7_level) B.pre
  have hown : s.vm.findClass RX7 = some m.cls := findClass_of_methodNamed B.named
  have hlocks := B.notSynchronized
  have hD := z_D_self hD0
  generalize hAe : z_A [(x, .inr (5, [.ref x_grids, .ref xa_levelMm, .int (z_i x_levelCount), .ref x_water, .ref x_scratch, .ref x_lines])), (xa_levelMm, .inl (cA 1, 16, .inl x_levelMm))] = A at *
  have hS : va_S A s.heap s.heap [] := va_S.rf
  have hl := lv_entry ([.ref x, .int (z_i mm)]) (n := 2) (Nat.le_of_ble_eq_true rfl)
  rw [lg_entry_eq]
  generalize (lg_sl ([.ref x, .int (z_i mm)]) ++ List.replicate (2 - (lg_sl ([.ref x, .int (z_i mm)])).length) Slot.unset).toArray = ls at hl ⊢
  have hl : lv_has ls 2 [(0, .ref x), (1, .int (z_i mm))] := hl
  refine lv_iload_n hx hb dX7_level_0 rfl (lv_at hl 1 rfl) ?_
  refine lv_sipush (v := z_i (-8192)) hx hb dX7_level_1 (by decide) ?_
  refine lx_icmp_lt (tgt := 30) hx hb dX7_level_4 (by decide) h_mm (show z_in (-8192) from ⟨by decide, by decide⟩) (fun hc => ?_) (fun hc => ?_)
  · have hv := hv.1 hc
    refine lv_iconst (v := z_i (-1)) hx hb dX7_level_30 rfl ?_
    exact W.iret (v := z_i (-1)) hx hb hr (fun t ht hW => ⟨⟨z_i (-1), (x_levelMm, x_levelCount), rfl, ⟨-1, rfl, (show z_in (-1) from ⟨by decide, by decide⟩), h_x_levelCount, hv⟩, z_pt hP ht⟩, hS.F ht⟩) hS.2.2 dX7_level_31
  · have hv := hv.2 hc
    refine lv_iload_n hx hb dX7_level_7 rfl (lv_at hl 1 rfl) ?_
    refine lv_sipush (v := z_i 8192) hx hb dX7_level_8 (by decide) ?_
    refine lx_icmp_gt (tgt := 30) hx hb dX7_level_11 (by decide) h_mm (show z_in 8192 from ⟨by decide, by decide⟩) (fun hc => ?_) (fun hc => ?_)
    · have hv := hv.1 hc
      refine lv_iconst (v := z_i (-1)) hx hb dX7_level_30 rfl ?_
      exact W.iret (v := z_i (-1)) hx hb hr (fun t ht hW => ⟨⟨z_i (-1), (x_levelMm, x_levelCount), rfl, ⟨-1, rfl, (show z_in (-1) from ⟨by decide, by decide⟩), h_x_levelCount, hv⟩, z_pt hP ht⟩, hS.F ht⟩) hS.2.2 dX7_level_31
    · have hv := hv.2 hc
      refine lv_aload_n hx hb dX7_level_14 rfl (lv_at hl 0 rfl) ?_
      refine va_get (D := D) (ci := 5) (v := .int (z_i x_levelCount)) (C := RX7) (T := TX7) (N := 6) hx hb hts (fun w h => List.mem_cons_of_mem _ (List.mem_append_right _ h)) hown hK hP 0 rfl rfl 2 (by decide) (hts (.fieldLink RX7 22 "ContourSheets" "levelCount" "I") (by decide +kernel)) (fun _ h9 => h9) rfl dX7_level_15 ?_
      refine lx_if_lt (tgt := 30) hx hb dX7_level_18 (by decide) h_x_levelCount (fun hc => ?_) (fun hc => ?_)
      · have hv := hv.1 hc
        refine lv_iconst (v := z_i (-1)) hx hb dX7_level_30 rfl ?_
        exact W.iret (v := z_i (-1)) hx hb hr (fun t ht hW => ⟨⟨z_i (-1), (x_levelMm, x_levelCount), rfl, ⟨-1, rfl, (show z_in (-1) from ⟨by decide, by decide⟩), h_x_levelCount, hv⟩, z_pt hP ht⟩, hS.F ht⟩) hS.2.2 dX7_level_31
      · have hv := hv.2 hc
        refine lv_aload_n hx hb dX7_level_21 rfl (lv_at hl 0 rfl) ?_
        refine va_get (D := D) (ci := 5) (v := .int (z_i x_levelCount)) (C := RX7) (T := TX7) (N := 6) hx hb hts (fun w h => List.mem_cons_of_mem _ (List.mem_append_right _ h)) hown hK hP 0 rfl rfl 2 (by decide) (hts (.fieldLink RX7 22 "ContourSheets" "levelCount" "I") (by decide +kernel)) (fun _ h9 => h9) rfl dX7_level_22 ?_
        refine lv_bipush (v := z_i 16) hx hb dX7_level_25 (by decide) ?_
        refine lx_icmp_lt (tgt := 32) hx hb dX7_level_27 (by decide) h_x_levelCount (show z_in 16 from ⟨by decide, by decide⟩) (fun hc => ?_) (fun hc => ?_)
        · have hv := hv.1 hc
          refine lv_aload_n hx hb dX7_level_32 rfl (lv_at hl 0 rfl) ?_
          refine va_get (D := D) (ci := 5) (v := .int (z_i x_levelCount)) (C := RX7) (T := TX7) (N := 6) hx hb hts (fun w h => List.mem_cons_of_mem _ (List.mem_append_right _ h)) hown hK hP 0 rfl rfl 2 (by decide) (hts (.fieldLink RX7 22 "ContourSheets" "levelCount" "I") (by decide +kernel)) (fun _ h9 => h9) rfl dX7_level_33 ?_
          refine lx_if_le (tgt := 56) hx hb dX7_level_36 (by decide) h_x_levelCount (fun hc => ?_) (fun hc => ?_)
          · have hv := hv.1 hc
            refine lv_aload_n hx hb dX7_level_56 rfl (lv_at hl 0 rfl) ?_
            refine va_get (D := D) (ci := 5) (v := .ref xa_levelMm) (C := RX7) (T := TX7) (N := 6) hx hb hts (fun w h => List.mem_cons_of_mem _ (List.mem_append_right _ h)) hown hK hP 0 rfl rfl 1 (by decide) (hts (.fieldLink RX7 18 "ContourSheets" "levelMm" "[I") (by decide +kernel)) (fun _ h9 => h9) rfl dX7_level_57 ?_
            refine lv_aload_n hx hb dX7_level_60 rfl (lv_at hl 0 rfl) ?_
            refine va_get (D := D) (ci := 5) (v := .int (z_i x_levelCount)) (C := RX7) (T := TX7) (N := 6) hx hb hts (fun w h => List.mem_cons_of_mem _ (List.mem_append_right _ h)) hown hK hP 0 rfl rfl 2 (by decide) (hts (.fieldLink RX7 22 "ContourSheets" "levelCount" "I") (by decide +kernel)) (fun _ h9 => h9) rfl dX7_level_61 ?_
            refine lv_iload_n hx hb dX7_level_64 rfl (lv_at hl 1 rfl) ?_
            obtain ⟨hi1, hv⟩ := hv
            refine lx_iast hx hb hK hP hD hS 1 1 rfl rfl (by decide) hi1.1 hi1.2 dX7_level_65 (fun H locs hP hD hS => ?_)
            obtain ⟨f2, hy3⟩ : ∃ y : Nat → Int32, y = z_s x_levelMm x_levelCount mm := ⟨_, rfl⟩
            have hv := hv f2 hy3
            have hP : va_P D vwCl [(x, .inr (5, [.ref x_grids, .ref xa_levelMm, .int (z_i x_levelCount), .ref x_water, .ref x_scratch, .ref x_lines])), (xa_levelMm, .inl (cA 1, 16, .inl f2))] H := by rw [hy3]; exact hP
            have hD : va_D A [(x, .inr (5, [.ref x_grids, .ref xa_levelMm, .int (z_i x_levelCount), .ref x_water, .ref x_scratch, .ref x_lines])), (xa_levelMm, .inl (cA 1, 16, .inl f2))] := by rw [hy3]; exact hD
            refine lv_aload_n hx hb dX7_level_66 rfl (lv_at hl 0 rfl) ?_
            refine lv_dup hx hb dX7_level_67 rfl ?_
            refine va_get (D := D) (ci := 5) (v := .int (z_i x_levelCount)) (C := RX7) (T := TX7) (N := 6) hx hb hts (fun w h => List.mem_cons_of_mem _ (List.mem_append_right _ h)) hown hK hP 0 rfl rfl 2 (by decide) (hts (.fieldLink RX7 22 "ContourSheets" "levelCount" "I") (by decide +kernel)) (fun _ h9 => h9) rfl dX7_level_68 ?_
            refine lv_iconst (v := z_i 1) hx hb dX7_level_71 rfl ?_
            refine lx_iadd hx hb dX7_level_72 ?_
            obtain ⟨hr5, hv⟩ := hv
            refine lx_topi (fun v4 hy6 => ?_)
            have hv := hv v4 hy6
            have h_v4 : z_in v4 := by rw [hy6]; exact hr5
            refine va_put (D := D) (ci := 5) (v := .int (z_i v4)) (ty := .int) (C := RX7) (T := TX7) (N := 6) hx hb hts (fun w h => List.mem_cons_of_mem _ (List.mem_append_right _ h)) tyX7 tyX7_ok nmX7 hown hK hP hD hS 0 rfl rfl 2 (by decide) (hts (.fieldLink RX7 22 "ContourSheets" "levelCount" "I") (by decide +kernel)) (fun _ h9 => h9) rfl (by decide +kernel) rfl rfl (Nat.le_of_ble_eq_true rfl) dX7_level_73 (fun H locs hP hD hS => ?_)
            have hP : va_P D vwCl [(x, .inr (5, [.ref x_grids, .ref xa_levelMm, .int (z_i v4), .ref x_water, .ref x_scratch, .ref x_lines])), (xa_levelMm, .inl (cA 1, 16, .inl f2))] H := hP
            have hD : va_D A [(x, .inr (5, [.ref x_grids, .ref xa_levelMm, .int (z_i v4), .ref x_water, .ref x_scratch, .ref x_lines])), (xa_levelMm, .inl (cA 1, 16, .inl f2))] := hD
            refine lv_aload_n hx hb dX7_level_76 rfl (lv_at hl 0 rfl) ?_
            refine va_get (D := D) (ci := 5) (v := .int (z_i v4)) (C := RX7) (T := TX7) (N := 6) hx hb hts (fun w h => List.mem_cons_of_mem _ (List.mem_append_right _ h)) hown hK hP 0 rfl rfl 2 (by decide) (hts (.fieldLink RX7 22 "ContourSheets" "levelCount" "I") (by decide +kernel)) (fun _ h9 => h9) rfl dX7_level_77 ?_
            exact W.iret (v := z_i v4) hx hb hr (fun t ht hW => ⟨⟨z_i v4, (f2, v4), rfl, ⟨v4, rfl, h_v4, h_v4, hv⟩, z_pt hP ht⟩, hS.F ht⟩) hS.2.2 dX7_level_80
          · have hv := hv.2 hc
            refine lv_iload_n hx hb dX7_level_39 rfl (lv_at hl 1 rfl) ?_
            refine lv_aload_n hx hb dX7_level_40 rfl (lv_at hl 0 rfl) ?_
            refine va_get (D := D) (ci := 5) (v := .ref xa_levelMm) (C := RX7) (T := TX7) (N := 6) hx hb hts (fun w h => List.mem_cons_of_mem _ (List.mem_append_right _ h)) hown hK hP 0 rfl rfl 1 (by decide) (hts (.fieldLink RX7 18 "ContourSheets" "levelMm" "[I") (by decide +kernel)) (fun _ h9 => h9) rfl dX7_level_41 ?_
            refine lv_aload_n hx hb dX7_level_44 rfl (lv_at hl 0 rfl) ?_
            refine va_get (D := D) (ci := 5) (v := .int (z_i x_levelCount)) (C := RX7) (T := TX7) (N := 6) hx hb hts (fun w h => List.mem_cons_of_mem _ (List.mem_append_right _ h)) hown hK hP 0 rfl rfl 2 (by decide) (hts (.fieldLink RX7 22 "ContourSheets" "levelCount" "I") (by decide +kernel)) (fun _ h9 => h9) rfl dX7_level_45 ?_
            refine lv_iconst (v := z_i 1) hx hb dX7_level_48 rfl ?_
            refine lx_isub hx hb dX7_level_49 ?_
            obtain ⟨hi7, hv⟩ := hv
            refine lx_iald hx hb hK hP 1 1 rfl rfl (by decide) hi7.1 hi7.2 dX7_level_50 ?_
            refine lx_icmp_gt (tgt := 56) hx hb dX7_level_51 (by decide) h_mm (z_in_g _ _) (fun hc => ?_) (fun hc => ?_)
            · have hv := hv.1 hc
              refine lv_aload_n hx hb dX7_level_56 rfl (lv_at hl 0 rfl) ?_
              refine va_get (D := D) (ci := 5) (v := .ref xa_levelMm) (C := RX7) (T := TX7) (N := 6) hx hb hts (fun w h => List.mem_cons_of_mem _ (List.mem_append_right _ h)) hown hK hP 0 rfl rfl 1 (by decide) (hts (.fieldLink RX7 18 "ContourSheets" "levelMm" "[I") (by decide +kernel)) (fun _ h9 => h9) rfl dX7_level_57 ?_
              refine lv_aload_n hx hb dX7_level_60 rfl (lv_at hl 0 rfl) ?_
              refine va_get (D := D) (ci := 5) (v := .int (z_i x_levelCount)) (C := RX7) (T := TX7) (N := 6) hx hb hts (fun w h => List.mem_cons_of_mem _ (List.mem_append_right _ h)) hown hK hP 0 rfl rfl 2 (by decide) (hts (.fieldLink RX7 22 "ContourSheets" "levelCount" "I") (by decide +kernel)) (fun _ h9 => h9) rfl dX7_level_61 ?_
              refine lv_iload_n hx hb dX7_level_64 rfl (lv_at hl 1 rfl) ?_
              obtain ⟨hi8, hv⟩ := hv
              refine lx_iast hx hb hK hP hD hS 1 1 rfl rfl (by decide) hi8.1 hi8.2 dX7_level_65 (fun H locs hP hD hS => ?_)
              obtain ⟨f9, hy10⟩ : ∃ y : Nat → Int32, y = z_s x_levelMm x_levelCount mm := ⟨_, rfl⟩
              have hv := hv f9 hy10
              have hP : va_P D vwCl [(x, .inr (5, [.ref x_grids, .ref xa_levelMm, .int (z_i x_levelCount), .ref x_water, .ref x_scratch, .ref x_lines])), (xa_levelMm, .inl (cA 1, 16, .inl f9))] H := by rw [hy10]; exact hP
              have hD : va_D A [(x, .inr (5, [.ref x_grids, .ref xa_levelMm, .int (z_i x_levelCount), .ref x_water, .ref x_scratch, .ref x_lines])), (xa_levelMm, .inl (cA 1, 16, .inl f9))] := by rw [hy10]; exact hD
              refine lv_aload_n hx hb dX7_level_66 rfl (lv_at hl 0 rfl) ?_
              refine lv_dup hx hb dX7_level_67 rfl ?_
              refine va_get (D := D) (ci := 5) (v := .int (z_i x_levelCount)) (C := RX7) (T := TX7) (N := 6) hx hb hts (fun w h => List.mem_cons_of_mem _ (List.mem_append_right _ h)) hown hK hP 0 rfl rfl 2 (by decide) (hts (.fieldLink RX7 22 "ContourSheets" "levelCount" "I") (by decide +kernel)) (fun _ h9 => h9) rfl dX7_level_68 ?_
              refine lv_iconst (v := z_i 1) hx hb dX7_level_71 rfl ?_
              refine lx_iadd hx hb dX7_level_72 ?_
              obtain ⟨hr12, hv⟩ := hv
              refine lx_topi (fun v11 hy13 => ?_)
              have hv := hv v11 hy13
              have h_v11 : z_in v11 := by rw [hy13]; exact hr12
              refine va_put (D := D) (ci := 5) (v := .int (z_i v11)) (ty := .int) (C := RX7) (T := TX7) (N := 6) hx hb hts (fun w h => List.mem_cons_of_mem _ (List.mem_append_right _ h)) tyX7 tyX7_ok nmX7 hown hK hP hD hS 0 rfl rfl 2 (by decide) (hts (.fieldLink RX7 22 "ContourSheets" "levelCount" "I") (by decide +kernel)) (fun _ h9 => h9) rfl (by decide +kernel) rfl rfl (Nat.le_of_ble_eq_true rfl) dX7_level_73 (fun H locs hP hD hS => ?_)
              have hP : va_P D vwCl [(x, .inr (5, [.ref x_grids, .ref xa_levelMm, .int (z_i v11), .ref x_water, .ref x_scratch, .ref x_lines])), (xa_levelMm, .inl (cA 1, 16, .inl f9))] H := hP
              have hD : va_D A [(x, .inr (5, [.ref x_grids, .ref xa_levelMm, .int (z_i v11), .ref x_water, .ref x_scratch, .ref x_lines])), (xa_levelMm, .inl (cA 1, 16, .inl f9))] := hD
              refine lv_aload_n hx hb dX7_level_76 rfl (lv_at hl 0 rfl) ?_
              refine va_get (D := D) (ci := 5) (v := .int (z_i v11)) (C := RX7) (T := TX7) (N := 6) hx hb hts (fun w h => List.mem_cons_of_mem _ (List.mem_append_right _ h)) hown hK hP 0 rfl rfl 2 (by decide) (hts (.fieldLink RX7 22 "ContourSheets" "levelCount" "I") (by decide +kernel)) (fun _ h9 => h9) rfl dX7_level_77 ?_
              exact W.iret (v := z_i v11) hx hb hr (fun t ht hW => ⟨⟨z_i v11, (f9, v11), rfl, ⟨v11, rfl, h_v11, h_v11, hv⟩, z_pt hP ht⟩, hS.F ht⟩) hS.2.2 dX7_level_80
            · have hv := hv.2 hc
              refine lv_iconst (v := z_i (-1)) hx hb dX7_level_54 rfl ?_
              exact W.iret (v := z_i (-1)) hx hb hr (fun t ht hW => ⟨⟨z_i (-1), (x_levelMm, x_levelCount), rfl, ⟨-1, rfl, (show z_in (-1) from ⟨by decide, by decide⟩), h_x_levelCount, hv⟩, z_pt hP ht⟩, hS.F ht⟩) hS.2.2 dX7_level_55
        · have hv := hv.2 hc
          refine lv_iconst (v := z_i (-1)) hx hb dX7_level_30 rfl ?_
          exact W.iret (v := z_i (-1)) hx hb hr (fun t ht hW => ⟨⟨z_i (-1), (x_levelMm, x_levelCount), rfl, ⟨-1, rfl, (show z_in (-1) from ⟨by decide, by decide⟩), h_x_levelCount, hv⟩, z_pt hP ht⟩, hS.F ht⟩) hS.2.2 dX7_level_31
set_option maxHeartbeats 4000000 in
set_option maxRecDepth 100000 in
theorem mt_X7_level (l : Launch) (D : va_G) (cA : Nat → ClassId) (x : Nat) (x_grids : Nat) (xa_levelMm : Nat) (x_levelMm : Nat → Int32) (x_levelCount : Int) (x_water : Nat) (x_scratch : Nat) (x_lines : Nat) (mm : Int) (h_x_levelCount : z_in x_levelCount) (h_mm : z_in mm) (hp1 : 0 ≤ x_levelCount ∧ x_levelCount ≤ 16) : Met l yX7_level wsX7_level ({ frames := 0, cells := 0, slots := 0, locals := 0 } : Room) (va_Pc [.ref x, .int (z_i mm)] (z_M0 D cA [(x, .inr (5, [.ref x_grids, .ref xa_levelMm, .int (z_i x_levelCount), .ref x_water, .ref x_scratch, .ref x_lines])), (xa_levelMm, .inl (cA 1, 16, .inl x_levelMm))])) (va_Qi (z_mi (fun v (u : (Nat → Int32) × Int) => z_in u.2 ∧ (fun (r : Int) (x_levelMm' : (Nat → Int32)) (x_levelCount' : Int) => r = (if -8192 ≤ mm ∧ mm ≤ 8192 ∧ x_levelCount < 16 ∧ (x_levelCount > 0 → z_g x_levelMm (x_levelCount - 1) < mm) then x_levelCount + 1 else -1) ∧ x_levelCount' = (if -8192 ≤ mm ∧ mm ≤ 8192 ∧ x_levelCount < 16 ∧ (x_levelCount > 0 → z_g x_levelMm (x_levelCount - 1) < mm) then x_levelCount + 1 else x_levelCount) ∧ x_levelMm' = (if -8192 ≤ mm ∧ mm ≤ 8192 ∧ x_levelCount < 16 ∧ (x_levelCount > 0 → z_g x_levelMm (x_levelCount - 1) < mm) then z_s x_levelMm x_levelCount mm else x_levelMm)) v u.1 u.2)) (fun (u : (Nat → Int32) × Int) t => va_P D vwCl [(x, .inr (5, [.ref x_grids, .ref xa_levelMm, .int (z_i u.2), .ref x_water, .ref x_scratch, .ref x_lines])), (xa_levelMm, .inl (cA 1, 16, .inl u.1))] t.heap) (z_A [(x, .inr (5, [.ref x_grids, .ref xa_levelMm, .int (z_i x_levelCount), .ref x_water, .ref x_scratch, .ref x_lines])), (xa_levelMm, .inl (cA 1, 16, .inl x_levelMm))])) 0 0 (z_A [(x, .inr (5, [.ref x_grids, .ref xa_levelMm, .int (z_i x_levelCount), .ref x_water, .ref x_scratch, .ref x_lines])), (xa_levelMm, .inl (cA 1, 16, .inl x_levelMm))]) := by
  refine wk_X7_level l D cA x x_grids xa_levelMm x_levelMm x_levelCount x_water x_scratch x_lines mm h_x_levelCount h_mm (fun (r : Int) (x_levelMm' : (Nat → Int32)) (x_levelCount' : Int) => r = (if -8192 ≤ mm ∧ mm ≤ 8192 ∧ x_levelCount < 16 ∧ (x_levelCount > 0 → z_g x_levelMm (x_levelCount - 1) < mm) then x_levelCount + 1 else -1) ∧ x_levelCount' = (if -8192 ≤ mm ∧ mm ≤ 8192 ∧ x_levelCount < 16 ∧ (x_levelCount > 0 → z_g x_levelMm (x_levelCount - 1) < mm) then x_levelCount + 1 else x_levelCount) ∧ x_levelMm' = (if -8192 ≤ mm ∧ mm ≤ 8192 ∧ x_levelCount < 16 ∧ (x_levelCount > 0 → z_g x_levelMm (x_levelCount - 1) < mm) then z_s x_levelMm x_levelCount mm else x_levelMm)) ?_
  unfold vc_X7_level
  have no : ¬ (-8192 ≤ mm ∧ mm ≤ 8192 ∧ x_levelCount < 16 ∧ (x_levelCount > 0 → z_g x_levelMm (x_levelCount - 1) < mm)) → (-1 : Int) = (if -8192 ≤ mm ∧ mm ≤ 8192 ∧ x_levelCount < 16 ∧ (x_levelCount > 0 → z_g x_levelMm (x_levelCount - 1) < mm) then x_levelCount + 1 else -1) ∧ x_levelCount = (if -8192 ≤ mm ∧ mm ≤ 8192 ∧ x_levelCount < 16 ∧ (x_levelCount > 0 → z_g x_levelMm (x_levelCount - 1) < mm) then x_levelCount + 1 else x_levelCount) ∧ x_levelMm = (if -8192 ≤ mm ∧ mm ≤ 8192 ∧ x_levelCount < 16 ∧ (x_levelCount > 0 → z_g x_levelMm (x_levelCount - 1) < mm) then z_s x_levelMm x_levelCount mm else x_levelMm) := by
    intro h
    rw [if_neg h, if_neg h, if_neg h]; exact ⟨rfl, rfl, rfl⟩
  have yes : (-8192 ≤ mm ∧ mm ≤ 8192 ∧ x_levelCount < 16 ∧ (x_levelCount > 0 → z_g x_levelMm (x_levelCount - 1) < mm)) → x_levelCount + 1 = (if -8192 ≤ mm ∧ mm ≤ 8192 ∧ x_levelCount < 16 ∧ (x_levelCount > 0 → z_g x_levelMm (x_levelCount - 1) < mm) then x_levelCount + 1 else -1) ∧ x_levelCount + 1 = (if -8192 ≤ mm ∧ mm ≤ 8192 ∧ x_levelCount < 16 ∧ (x_levelCount > 0 → z_g x_levelMm (x_levelCount - 1) < mm) then x_levelCount + 1 else x_levelCount) ∧ z_s x_levelMm x_levelCount mm = (if -8192 ≤ mm ∧ mm ≤ 8192 ∧ x_levelCount < 16 ∧ (x_levelCount > 0 → z_g x_levelMm (x_levelCount - 1) < mm) then z_s x_levelMm x_levelCount mm else x_levelMm) := by
    intro h
    rw [if_pos h, if_pos h, if_pos h]; exact ⟨rfl, rfl, rfl⟩
  refine ⟨fun q => no (fun h => by have := h.1; omega), fun q => ⟨fun q1 => no (fun h => by have := h.2.1; omega), fun q1 => ⟨fun q2 => absurd q2 (by omega), fun q2 => ⟨fun q3 => ⟨fun q4 => ⟨⟨q2, q3⟩, ?_⟩, fun q4 => ⟨⟨by omega, by omega⟩, fun q5 => ⟨⟨q2, q3⟩, ?_⟩, fun q5 => no (fun h => by have := h.2.2.2 q4; omega)⟩⟩, fun q3 => no (fun h => by have := h.2.2.1; omega)⟩⟩⟩⟩
  · rintro f2 rfl
    refine ⟨⟨by omega, by omega⟩, ?_⟩
    rintro v4 rfl
    exact yes ⟨q, q1, q3, fun h => absurd h (by omega)⟩
  · rintro f2 rfl
    refine ⟨⟨by omega, by omega⟩, ?_⟩
    rintro v4 rfl
    exact yes ⟨q, q1, q3, fun _ => q5⟩
def vc_X7_levels  (Q : Int → Prop) : Prop :=
Q 0
set_option maxHeartbeats 4000000 in
set_option maxRecDepth 100000 in
theorem wk_X7_levels (l : Launch) (D : va_G) (cA : Nat → ClassId) (x : Nat) (x_grids : Nat) (xa_levelMm : Nat) (x_levelMm : Nat → Int32) (x_levelCount : Int) (x_water : Nat) (x_scratch : Nat) (x_lines : Nat) (h_x_levelCount : z_in x_levelCount) (Q : Int → Prop) (hv : vc_X7_levels  Q) : Met l yX7_levels wsX7_levels ({ frames := 0, cells := 0, slots := 0, locals := 0 } : Room) (va_Pc [.ref x] (z_M0 D cA [(x, .inr (5, [.ref x_grids, .ref xa_levelMm, .int (z_i x_levelCount), .ref x_water, .ref x_scratch, .ref x_lines])), (xa_levelMm, .inl (cA 1, 16, .inl x_levelMm))])) (va_Qv (fun (u : Int) => z_in u ∧ Q u) (fun (u : Int) t => va_P D vwCl [(x, .inr (5, [.ref x_grids, .ref xa_levelMm, .int (z_i u), .ref x_water, .ref x_scratch, .ref x_lines])), (xa_levelMm, .inl (cA 1, 16, .inl x_levelMm))] t.heap) (z_A [(x, .inr (5, [.ref x_grids, .ref xa_levelMm, .int (z_i x_levelCount), .ref x_water, .ref x_scratch, .ref x_lines])), (xa_levelMm, .inl (cA 1, 16, .inl x_levelMm))])) 0 0 (z_A [(x, .inr (5, [.ref x_grids, .ref xa_levelMm, .int (z_i x_levelCount), .ref x_water, .ref x_scratch, .ref x_lines])), (xa_levelMm, .inl (cA 1, 16, .inl x_levelMm))]) := by
  unfold vc_X7_levels at hv
  refine Met.ofW (cc := cX7_levels) (maxL := 1) (ret := none) (by decide +kernel) rfl ?_
  intro p e s m args below meth c s₁ B hml hv0
  obtain ⟨rfl, hK, hP, hD0⟩ := hv0
  have hx := B.exec
  have hb := B.bytes
  have hr := B.returns
  have hts := atoms_spec (ws := wsX7_levels) B.pre
  have hown : s.vm.findClass RX7 = some m.cls := findClass_of_methodNamed B.named
  have hlocks := B.notSynchronized
  have hD := z_D_self hD0
  generalize hAe : z_A [(x, .inr (5, [.ref x_grids, .ref xa_levelMm, .int (z_i x_levelCount), .ref x_water, .ref x_scratch, .ref x_lines])), (xa_levelMm, .inl (cA 1, 16, .inl x_levelMm))] = A at *
  have hS : va_S A s.heap s.heap [] := va_S.rf
  have hl := lv_entry ([.ref x]) (n := 1) (Nat.le_of_ble_eq_true rfl)
  rw [lg_entry_eq]
  generalize (lg_sl ([.ref x]) ++ List.replicate (1 - (lg_sl ([.ref x])).length) Slot.unset).toArray = ls at hl ⊢
  have hl : lv_has ls 1 [(0, .ref x)] := hl
  refine lv_aload_n hx hb dX7_levels_0 rfl (lv_at hl 0 rfl) ?_
  refine lv_iconst (v := z_i 0) hx hb dX7_levels_1 rfl ?_
  refine va_put (D := D) (ci := 5) (v := .int (z_i 0)) (ty := .int) (C := RX7) (T := TX7) (N := 6) hx hb hts (fun w h => List.mem_cons_of_mem _ (List.mem_append_right _ h)) tyX7 tyX7_ok nmX7 hown hK hP hD hS 0 rfl rfl 2 (by decide) (hts (.fieldLink RX7 22 "ContourSheets" "levelCount" "I") (by decide +kernel)) (fun _ h9 => h9) rfl (by decide +kernel) rfl rfl (Nat.le_of_ble_eq_true rfl) dX7_levels_2 (fun H locs hP hD hS => ?_)
  have hP : va_P D vwCl [(x, .inr (5, [.ref x_grids, .ref xa_levelMm, .int (z_i 0), .ref x_water, .ref x_scratch, .ref x_lines])), (xa_levelMm, .inl (cA 1, 16, .inl x_levelMm))] H := hP
  have hD : va_D A [(x, .inr (5, [.ref x_grids, .ref xa_levelMm, .int (z_i 0), .ref x_water, .ref x_scratch, .ref x_lines])), (xa_levelMm, .inl (cA 1, 16, .inl x_levelMm))] := hD
  exact W.vret hx hb hr (fun t ht hW => ⟨⟨(0), rfl, ⟨(show z_in 0 from ⟨by decide, by decide⟩), hv⟩, z_pt hP ht⟩, hS.F ht⟩) hS.2.2 dX7_levels_5
set_option maxHeartbeats 4000000 in
set_option maxRecDepth 100000 in
theorem mt_X7_levels (l : Launch) (D : va_G) (cA : Nat → ClassId) (x : Nat) (x_grids : Nat) (xa_levelMm : Nat) (x_levelMm : Nat → Int32) (x_levelCount : Int) (x_water : Nat) (x_scratch : Nat) (x_lines : Nat) (h_x_levelCount : z_in x_levelCount)  : Met l yX7_levels wsX7_levels ({ frames := 0, cells := 0, slots := 0, locals := 0 } : Room) (va_Pc [.ref x] (z_M0 D cA [(x, .inr (5, [.ref x_grids, .ref xa_levelMm, .int (z_i x_levelCount), .ref x_water, .ref x_scratch, .ref x_lines])), (xa_levelMm, .inl (cA 1, 16, .inl x_levelMm))])) (va_Qv (fun (u : Int) => z_in u ∧ (fun (x_levelCount' : Int) => x_levelCount' = 0) u) (fun (u : Int) t => va_P D vwCl [(x, .inr (5, [.ref x_grids, .ref xa_levelMm, .int (z_i u), .ref x_water, .ref x_scratch, .ref x_lines])), (xa_levelMm, .inl (cA 1, 16, .inl x_levelMm))] t.heap) (z_A [(x, .inr (5, [.ref x_grids, .ref xa_levelMm, .int (z_i x_levelCount), .ref x_water, .ref x_scratch, .ref x_lines])), (xa_levelMm, .inl (cA 1, 16, .inl x_levelMm))])) 0 0 (z_A [(x, .inr (5, [.ref x_grids, .ref xa_levelMm, .int (z_i x_levelCount), .ref x_water, .ref x_scratch, .ref x_lines])), (xa_levelMm, .inl (cA 1, 16, .inl x_levelMm))]) := by
  refine wk_X7_levels l D cA x x_grids xa_levelMm x_levelMm x_levelCount x_water x_scratch x_lines h_x_levelCount (fun (x_levelCount' : Int) => x_levelCount' = 0) ?_
  unfold vc_X7_levels
  exact rfl
