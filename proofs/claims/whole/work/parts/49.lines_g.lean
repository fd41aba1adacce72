def l_pl (st : Int) (U : Int → Int) (sd lv ax r : Int) : Prop :=
  if sd % 2 ≠ ax then b_rt (st * (if ax = 0 then sd / 2 % 40 else sd / 2 / 40)) 1 r
  else if U (l_oe sd) - U (sd / 2) < 0 then b_rt (-(st * ((if ax = 0 then sd / 2 % 40 else sd / 2 / 40) * (U (l_oe sd) - U (sd / 2)) + (lv - U (sd / 2))))) (-(U (l_oe sd) - U (sd / 2))) r
  else b_rt (st * ((if ax = 0 then sd / 2 % 40 else sd / 2 / 40) * (U (l_oe sd) - U (sd / 2)) + (lv - U (sd / 2)))) (U (l_oe sd) - U (sd / 2)) r
theorem z_mb {a b A B : Int} (h1 : -A ≤ a) (h2 : a ≤ A) (h3 : 0 ≤ b) (h4 : b ≤ B) : -(A * B) ≤ a * b ∧ a * b ≤ A * B := by
  have hA : 0 ≤ A := by omega
  have e1 : a * b ≤ A * b := Int.mul_le_mul_of_nonneg_right h2 h3
  have e2 : A * b ≤ A * B := Int.mul_le_mul_of_nonneg_left h4 hA
  have e3 : -A * b ≤ a * b := Int.mul_le_mul_of_nonneg_right h1 h3
  rw [Int.neg_mul] at e3
  omega
theorem pl_b {st w ri le : Int} (h1 : 1 ≤ st) (h2 : st ≤ 100000) (w0 : 0 ≤ w) (w1 : w ≤ 39) (r0 : 1 ≤ ri) (r1 : ri ≤ 16777216) (l0 : 0 ≤ le) (l1 : le ≤ ri) : 0 ≤ st * (w * ri + le) ∧ st * (w * ri + le) < 140737488355328 := by
  have e0 : 0 ≤ w * ri := Int.mul_nonneg w0 (by omega)
  have e1 : w * ri ≤ 39 * ri := Int.mul_le_mul_of_nonneg_right w1 (by omega)
  have e2 : 0 ≤ st * (w * ri + le) := Int.mul_nonneg (by omega) (by omega)
  have e3 : st * (w * ri + le) ≤ 100000 * (w * ri + le) := Int.mul_le_mul_of_nonneg_right h2 (by omega)
  omega
def vc_X4_placeOf (L_ground_units : Nat → Int32) (L_ground_step : Int) (sd : Int) (lv : Int) (ax : Int) (Q : Int → Prop) : Prop :=
z_in (sd.tdiv 2) ∧ (∀ v1 : Int, v1 = sd.tdiv 2 → ((ax ≠ 0 → z_in (v1.tdiv 40) ∧ (∀ v5 : Int, v5 = v1.tdiv 40 → ((z_and sd 1 = ax → (∀ (r7 : Int), z_in r7 → (r7 = g_at L_ground_units v1) → (0 ≤ sd ∧ sd < 2560) ∧ (∀ (r9 : Int), z_in r9 → (r9 = l_oe sd) → (∀ (r10 : Int), z_in r10 → (r10 = g_at L_ground_units r9) → z_nl (r10 - r7) ∧ (∀ v11 : Int, v11 = r10 - r7 → z_nl (L_ground_step * ((v5 * v11) + (lv - r7))) ∧ (∀ v14 : Int, v14 = L_ground_step * ((v5 * v11) + (lv - r7)) → ((v11 ≥ 0 → (0 ≤ v14 ∧ v14 < 140737488355328) ∧ (1 ≤ v11 ∧ v11 ≤ 33554432) ∧ (∀ (r19 : Int), z_nl r19 → (b_rt v14 v11 r19) → Q r19)) ∧
(v11 < 0 → z_nl (-v14) ∧ z_nl (-v11) ∧ (0 ≤ (-v14) ∧ (-v14) < 140737488355328) ∧ (1 ≤ (-v11) ∧ (-v11) ≤ 33554432) ∧ (∀ (r24 : Int), z_nl r24 → (b_rt (-v14) (-v11) r24) → Q r24))))))))) ∧
(z_and sd 1 ≠ ax → z_nl (L_ground_step * v5) ∧ (0 ≤ (L_ground_step * v5) ∧ (L_ground_step * v5) < 140737488355328) ∧ (1 ≤ (1 : Int) ∧ (1 : Int) ≤ 33554432) ∧ (∀ (r28 : Int), z_nl r28 → (b_rt (L_ground_step * v5) (1 : Int) r28) → Q r28))))) ∧
(ax = 0 → z_in (v1.tmod 40) ∧ (∀ v30 : Int, v30 = v1.tmod 40 → ((z_and sd 1 = ax → (∀ (r32 : Int), z_in r32 → (r32 = g_at L_ground_units v1) → (0 ≤ sd ∧ sd < 2560) ∧ (∀ (r34 : Int), z_in r34 → (r34 = l_oe sd) → (∀ (r35 : Int), z_in r35 → (r35 = g_at L_ground_units r34) → z_nl (r35 - r32) ∧ (∀ v36 : Int, v36 = r35 - r32 → z_nl (L_ground_step * ((v30 * v36) + (lv - r32))) ∧ (∀ v39 : Int, v39 = L_ground_step * ((v30 * v36) + (lv - r32)) → ((v36 ≥ 0 → (0 ≤ v39 ∧ v39 < 140737488355328) ∧ (1 ≤ v36 ∧ v36 ≤ 33554432) ∧ (∀ (r44 : Int), z_nl r44 → (b_rt v39 v36 r44) → Q r44)) ∧
(v36 < 0 → z_nl (-v39) ∧ z_nl (-v36) ∧ (0 ≤ (-v39) ∧ (-v39) < 140737488355328) ∧ (1 ≤ (-v36) ∧ (-v36) ≤ 33554432) ∧ (∀ (r49 : Int), z_nl r49 → (b_rt (-v39) (-v36) r49) → Q r49))))))))) ∧
(z_and sd 1 ≠ ax → z_nl (L_ground_step * v30) ∧ (0 ≤ (L_ground_step * v30) ∧ (L_ground_step * v30) < 140737488355328) ∧ (1 ≤ (1 : Int) ∧ (1 : Int) ≤ 33554432) ∧ (∀ (r53 : Int), z_nl r53 → (b_rt (L_ground_step * v30) (1 : Int) r53) → Q r53)))))))
set_option maxHeartbeats 4000000 in
set_option maxRecDepth 100000 in
theorem wk_X4_placeOf (l : Launch) (D : va_G) (cA : Nat → ClassId) (L : Nat) (L_ground : Nat) (L_grounda_units : Nat) (L_ground_units : Nat → Int32) (L_grounda_lengths : Nat) (L_ground_lengths : Nat → Int32) (L_grounda_offsets : Nat) (L_ground_offsets : Nat → Int32) (L_ground_step : Int) (L_joins : Nat) (L_joinsa_next : Nat) (L_joins_next : Nat → Int32) (L_joinsa_before : Nat) (L_joins_before : Nat → Int32) (L_joins_least : Int) (L_joins_last : Int) (La_heights : Nat) (L_heights : Nat → Int32) (La_sides : Nat) (L_sides : Nat → Int32) (La_firsts : Nat) (L_firsts : Nat → Int32) (La_levelIndex : Nat) (L_levelIndex : Nat → Int32) (La_closed : Nat) (L_closed : Nat → Int32) (L_there : Nat) (L_therea_masks : Nat) (L_there_masks : Nat → Int64) (L_there_size : Int) (L_inner : Nat) (L_innera_masks : Nat) (L_inner_masks : Nat → Int64) (L_inner_size : Int) (L_outer : Nat) (L_outera_masks : Nat) (L_outer_masks : Nat → Int64) (L_outer_size : Int) (L_size : Int) (L_full : Int) (sd : Int) (lv : Int) (ax : Int) (h_L_ground_step : z_in L_ground_step) (h_L_joins_least : z_in L_joins_least) (h_L_joins_last : z_in L_joins_last) (h_L_there_size : z_in L_there_size) (h_L_inner_size : z_in L_inner_size) (h_L_outer_size : z_in L_outer_size) (h_L_size : z_in L_size) (h_L_full : z_in L_full) (h_sd : z_in sd) (h_lv : z_in lv) (h_ax : z_in ax) (Q : Int → Prop) (hv : vc_X4_placeOf L_ground_units L_ground_step sd lv ax Q) : Met l yX4_placeOf wsX4_placeOf ({ frames := 1, cells := 0, slots := 0, locals := 30 } : Room) (va_Pc [.ref L, .int (z_i sd), .int (z_i lv), .int (z_i ax)] (z_B0 D cA [(L, .inr (3, [.ref L_ground, .ref L_joins, .ref La_heights, .ref La_sides, .ref La_firsts, .ref La_levelIndex, .ref La_closed, .ref L_there, .ref L_inner, .ref L_outer, .int (z_i L_size), .int (z_i L_full)])), (L_ground, .inr (1, [.ref L_grounda_units, .ref L_grounda_lengths, .ref L_grounda_offsets, .int (z_i L_ground_step)])), (L_grounda_units, .inl (cA 1, 1280, .inl L_ground_units)), (L_grounda_lengths, .inl (cA 1, 32, .inl L_ground_lengths)), (L_grounda_offsets, .inl (cA 1, 32, .inl L_ground_offsets)), (L_joins, .inr (2, [.ref L_joinsa_next, .ref L_joinsa_before, .int (z_i L_joins_least), .int (z_i L_joins_last)])), (L_joinsa_next, .inl (cA 1, 2560, .inl L_joins_next)), (L_joinsa_before, .inl (cA 1, 2560, .inl L_joins_before)), (La_heights, .inl (cA 1, 16, .inl L_heights)), (La_sides, .inl (cA 1, 8000, .inl L_sides)), (La_firsts, .inl (cA 1, 401, .inl L_firsts)), (La_levelIndex, .inl (cA 1, 400, .inl L_levelIndex)), (La_closed, .inl (cA 0, 400, .inl L_closed)), (L_there, .inr (0, [.ref L_therea_masks, .int (z_i L_there_size)])), (L_therea_masks, .inl (cA 2, 32, .inr (.inl L_there_masks))), (L_inner, .inr (0, [.ref L_innera_masks, .int (z_i L_inner_size)])), (L_innera_masks, .inl (cA 2, 32, .inr (.inl L_inner_masks))), (L_outer, .inr (0, [.ref L_outera_masks, .int (z_i L_outer_size)])), (L_outera_masks, .inl (cA 2, 32, .inr (.inl L_outer_masks)))])) (va_Ql (z_rl Q) (fun _ _ => True) (fun _ => False)) 0 0 (fun _ => False) := by
  unfold vc_X4_placeOf at hv
  refine Met.ofW (cc := cX4_placeOf) (maxL := 13) (ret := (some .long)) (by decide +kernel) rfl ?_
  intro p e s m args below meth c s₁ B hml hv0
  obtain ⟨rfl, hK, hP⟩ := hv0
  have hx := B.exec
  have hb := B.bytes
  have hr := B.returns
  have hts := atoms_spec (ws := wsX4_placeOf) B.pre
  have hown : s.vm.findClass RX4 = some m.cls := findClass_of_methodNamed B.named
  have hlocks := B.notSynchronized
  have hS : va_S (fun _ : Nat => False) s.heap s.heap [] := va_S.rf
  have hl := lv_entry ([.ref L, .int (z_i sd), .int (z_i lv), .int (z_i ax)]) (n := 13) (Nat.le_of_ble_eq_true rfl)
  rw [lg_entry_eq]
  generalize (lg_sl ([.ref L, .int (z_i sd), .int (z_i lv), .int (z_i ax)]) ++ List.replicate (13 - (lg_sl ([.ref L, .int (z_i sd), .int (z_i lv), .int (z_i ax)])).length) Slot.unset).toArray = ls at hl ⊢
  have hl : lv_has ls 13 [(0, .ref L), (1, .int (z_i sd)), (2, .int (z_i lv)), (3, .int (z_i ax))] := hl
  refine lv_iload_n hx hb dX4_placeOf_0 rfl (lv_at hl 1 rfl) ?_
  refine lv_iconst (v := z_i 2) hx hb dX4_placeOf_1 rfl ?_
  refine lx_idiv hx hb dX4_placeOf_2 h_sd (show z_in 2 from ⟨by decide, by decide⟩) (by decide) ?_
  obtain ⟨hr2, hv⟩ := hv
  refine lx_topi (fun v1 hy3 => ?_)
  have hv := hv v1 hy3
  have h_v1 : z_in v1 := by rw [hy3]; exact hr2
  refine lv_istore (lv' := [(4, .int (z_i v1)), (0, .ref L), (1, .int (z_i sd)), (2, .int (z_i lv)), (3, .int (z_i ax))]) hx hb dX4_placeOf_3 hl (by decide) rfl (fun ls hl => ?_)
  refine lv_iload_n hx hb dX4_placeOf_5 rfl (lv_at hl 4 rfl) ?_
  refine lx_if_ne (tgt := 18) hx hb dX4_placeOf_6 (by decide) h_ax (fun hc => ?_) (fun hc => ?_)
  · have hv := hv.1 hc
    refine lv_iload hx hb dX4_placeOf_18 (lv_at hl 0 rfl) ?_
    refine lv_bipush (v := z_i 40) hx hb dX4_placeOf_20 (by decide) ?_
    refine lx_idiv hx hb dX4_placeOf_22 h_v1 (show z_in 40 from ⟨by decide, by decide⟩) (by decide) ?_
    obtain ⟨hr4, hv⟩ := hv
    refine lx_i2l hx hb dX4_placeOf_23 hr4 ?_
    refine lx_topl (fun v5 hy6 => ?_)
    have hv := hv v5 hy6
    have h_v5 : z_nl v5 := by rw [hy6]; exact (z_in_nl hr4)
    refine lv_lstore (lv' := [(5, .long (z_l v5)), (4, .int (z_i v1)), (0, .ref L), (1, .int (z_i sd)), (2, .int (z_i lv)), (3, .int (z_i ax))]) hx hb dX4_placeOf_24 hl (by decide) rfl (fun ls hl => ?_)
    refine lv_iload_n hx hb dX4_placeOf_26 rfl (lv_at hl 3 rfl) ?_
    refine lv_iconst (v := z_i 1) hx hb dX4_placeOf_27 rfl ?_
    refine lx_iand hx hb dX4_placeOf_28 ?_
    refine lv_iload_n hx hb dX4_placeOf_29 rfl (lv_at hl 5 rfl) ?_
    refine lx_icmp_eq (tgt := 49) hx hb dX4_placeOf_30 (by decide) (z_in_of _) h_ax (fun hc => ?_) (fun hc => ?_)
    · have hv := hv.1 hc
      refine lv_aload_n hx hb dX4_placeOf_49 rfl (lv_at hl 2 rfl) ?_
      refine va_get (D := D) (ci := 3) (v := .ref L_ground) (C := RX4) (T := TX4) (N := 12) hx hb hts (fun w h => List.mem_cons_of_mem _ (List.mem_append_left _ (List.mem_append_right _ h))) hown hK hP 0 rfl rfl 0 (by decide) (hts (.fieldLink RX4 12 "ContourSheets$Lines" "ground" "LContourSheets$Grid;") (by decide +kernel)) (fun _ h9 => h9) rfl dX4_placeOf_50 ?_
      refine lv_iload hx hb dX4_placeOf_53 (lv_at hl 1 rfl) ?_
      refine va_calli (va_runV (As := [.int (z_i v1)]) (rest := []) ⟨hx, hb, hml, hown, hts⟩ (mt_X2_unitsOf l D cA L_ground L_grounda_units L_ground_units L_grounda_lengths L_ground_lengths L_grounda_offsets L_ground_offsets L_ground_step v1 h_L_ground_step h_v1) (cwV 1 hts gX4_placeOf_X2_unitsOf rfl rfl rfl (by decide +kernel) ⟨Nat.le_of_ble_eq_true rfl, Nat.le_of_ble_eq_true rfl⟩) ⟨z_bl0, va_recv hK hP (ci := 1) (q0 := 1) rfl rfl, fun U hU hW => ⟨rfl, z_b0 hK (hP.sub (ws' := [(L_ground, .inr (1, [.ref L_grounda_units, .ref L_grounda_lengths, .ref L_grounda_offsets, .int (z_i L_ground_step)])), (L_grounda_units, .inl (cA 1, 1280, .inl L_ground_units)), (L_grounda_lengths, .inl (cA 1, 32, .inl L_ground_lengths)), (L_grounda_offsets, .inl (cA 1, 32, .inl L_ground_offsets))]) [1, 2, 3, 4] rfl) hU hW⟩⟩ rfl rfl hl.1 rfl (lv_room (Nat.le_of_ble_eq_true rfl)) dX4_placeOf_55 ⟨Nat.zero_le _, Nat.zero_le _⟩) hS (fun q _ h => h.elim) (fun q h => h.elim) (fun r0 u t H locs ht hvm hw hB hz1 hk1 hS => ?_)
      obtain ⟨r7, rfl, h_r7, hw⟩ := hw
      have hP := z_P_all hP hk1
      have hv := hv r7 h_r7 hw
      refine lx_i2l hx hb dX4_placeOf_58 h_r7 ?_
      refine lv_lstore (lv' := [(7, .long (z_l r7)), (5, .long (z_l v5)), (4, .int (z_i v1)), (0, .ref L), (1, .int (z_i sd)), (2, .int (z_i lv)), (3, .int (z_i ax))]) hx hb dX4_placeOf_59 hl (by decide) rfl (fun ls hl => ?_)
      refine lv_aload_n hx hb dX4_placeOf_61 rfl (lv_at hl 3 rfl) ?_
      refine va_get (D := D) (ci := 3) (v := .ref L_ground) (C := RX4) (T := TX4) (N := 12) hx hb hts (fun w h => List.mem_cons_of_mem _ (List.mem_append_left _ (List.mem_append_right _ h))) hown hK hP 0 rfl rfl 0 (by decide) (hts (.fieldLink RX4 12 "ContourSheets$Lines" "ground" "LContourSheets$Grid;") (by decide +kernel)) (fun _ h9 => h9) rfl dX4_placeOf_62 ?_
      refine lv_iload_n hx hb dX4_placeOf_65 rfl (lv_at hl 4 rfl) ?_
      obtain ⟨hp8, hv⟩ := hv
      refine va_calli (va_runS (As := [.int (z_i sd)]) (rest := [.ref L_ground]) ⟨hx, hb, hml, hown, hts⟩ (mt_X4_otherEnd l D cA sd h_sd hp8) (va_cwS 1 hts gX4_placeOf_X4_otherEnd rfl rfl rfl (by decide +kernel) ⟨Nat.le_of_ble_eq_true rfl, Nat.le_of_ble_eq_true rfl⟩) ⟨z_bl0, fun U hU hW => ⟨rfl, z_b0 hK (hP.sub (ws' := []) [] rfl) hU hW⟩⟩ rfl rfl hl.1 rfl (lv_room (Nat.le_of_ble_eq_true rfl)) dX4_placeOf_66 ⟨Nat.zero_le _, Nat.zero_le _⟩) hS (fun q _ h => h.elim) (fun q h => h.elim) (fun r0 u t H locs ht hvm hw hB hz1 hk1 hS => ?_)
      obtain ⟨r9, rfl, h_r9, hw⟩ := hw
      have hP := z_P_all hP hk1
      have hv := hv r9 h_r9 hw
      refine va_calli (va_runV (As := [.int (z_i r9)]) (rest := []) ⟨hx, hb, hml, hown, hts⟩ (mt_X2_unitsOf l D cA L_ground L_grounda_units L_ground_units L_grounda_lengths L_ground_lengths L_grounda_offsets L_ground_offsets L_ground_step r9 h_L_ground_step h_r9) (cwV 1 hts gX4_placeOf_X2_unitsOf rfl rfl rfl (by decide +kernel) ⟨Nat.le_of_ble_eq_true rfl, Nat.le_of_ble_eq_true rfl⟩) ⟨z_bl0, va_recv hK hP (ci := 1) (q0 := 1) rfl rfl, fun U hU hW => ⟨rfl, z_b0 hK (hP.sub (ws' := [(L_ground, .inr (1, [.ref L_grounda_units, .ref L_grounda_lengths, .ref L_grounda_offsets, .int (z_i L_ground_step)])), (L_grounda_units, .inl (cA 1, 1280, .inl L_ground_units)), (L_grounda_lengths, .inl (cA 1, 32, .inl L_ground_lengths)), (L_grounda_offsets, .inl (cA 1, 32, .inl L_ground_offsets))]) [1, 2, 3, 4] rfl) hU hW⟩⟩ rfl rfl hl.1 rfl (lv_room (Nat.le_of_ble_eq_true rfl)) dX4_placeOf_69 ⟨Nat.zero_le _, Nat.zero_le _⟩) hS (fun q _ h => h.elim) (fun q h => h.elim) (fun r0 u t H locs ht hvm hw hB hz1 hk1 hS => ?_)
      obtain ⟨r10, rfl, h_r10, hw⟩ := hw
      have hP := z_P_all hP hk1
      have hv := hv r10 h_r10 hw
      refine lx_i2l hx hb dX4_placeOf_72 h_r10 ?_
      refine lv_lload hx hb dX4_placeOf_73 (lv_at hl 0 rfl) ?_
      refine lx_lsub hx hb dX4_placeOf_75 ?_
      obtain ⟨hr12, hv⟩ := hv
      refine lx_topl (fun v11 hy13 => ?_)
      have hv := hv v11 hy13
      have h_v11 : z_nl v11 := by rw [hy13]; exact hr12
      refine lv_lstore (lv' := [(9, .long (z_l v11)), (7, .long (z_l r7)), (5, .long (z_l v5)), (4, .int (z_i v1)), (0, .ref L), (1, .int (z_i sd)), (2, .int (z_i lv)), (3, .int (z_i ax))]) hx hb dX4_placeOf_76 hl (by decide) rfl (fun ls hl => ?_)
      refine lv_aload_n hx hb dX4_placeOf_78 rfl (lv_at hl 4 rfl) ?_
      refine va_get (D := D) (ci := 3) (v := .ref L_ground) (C := RX4) (T := TX4) (N := 12) hx hb hts (fun w h => List.mem_cons_of_mem _ (List.mem_append_left _ (List.mem_append_right _ h))) hown hK hP 0 rfl rfl 0 (by decide) (hts (.fieldLink RX4 12 "ContourSheets$Lines" "ground" "LContourSheets$Grid;") (by decide +kernel)) (fun _ h9 => h9) rfl dX4_placeOf_79 ?_
      refine va_get (D := D) (ci := 1) (v := .int (z_i L_ground_step)) (C := RX2) (T := TX2) (N := 4) hx hb hts (fun w h => List.mem_cons_of_mem _ (List.mem_append_right _ h)) hown hK hP 1 rfl rfl 3 (by decide) (hts (.fieldLink RX4 106 "ContourSheets$Grid" "step" "I") (by decide +kernel)) (fun _ h9 => h9) rfl dX4_placeOf_82 ?_
      refine lx_i2l hx hb dX4_placeOf_85 h_L_ground_step ?_
      refine lv_lload hx hb dX4_placeOf_86 (lv_at hl 2 rfl) ?_
      refine lv_lload hx hb dX4_placeOf_88 (lv_at hl 0 rfl) ?_
      refine lx_lmul hx hb dX4_placeOf_90 ?_
      refine lv_iload_n hx hb dX4_placeOf_91 rfl (lv_at hl 6 rfl) ?_
      refine lx_i2l hx hb dX4_placeOf_92 h_lv ?_
      refine lv_lload hx hb dX4_placeOf_93 (lv_at hl 1 rfl) ?_
      refine lx_lsub hx hb dX4_placeOf_95 ?_
      refine lx_ladd hx hb dX4_placeOf_96 ?_
      refine lx_lmul hx hb dX4_placeOf_97 ?_
      obtain ⟨hr15, hv⟩ := hv
      refine lx_topl (fun v14 hy16 => ?_)
      have hv := hv v14 hy16
      have h_v14 : z_nl v14 := by rw [hy16]; exact hr15
      refine lv_lstore (lv' := [(11, .long (z_l v14)), (9, .long (z_l v11)), (7, .long (z_l r7)), (5, .long (z_l v5)), (4, .int (z_i v1)), (0, .ref L), (1, .int (z_i sd)), (2, .int (z_i lv)), (3, .int (z_i ax))]) hx hb dX4_placeOf_98 hl (by decide) rfl (fun ls hl => ?_)
      refine lv_lload hx hb dX4_placeOf_100 (lv_at hl 1 rfl) ?_
      refine lv_lconst (v := z_l 0) hx hb dX4_placeOf_102 (by decide) ?_
      refine lx_lcmp hx hb dX4_placeOf_103 h_v11 (show z_nl 0 from ⟨by decide, by decide⟩) ?_
      refine lx_if_ge (tgt := 119) hx hb dX4_placeOf_104 (by decide) (z_in_cmp _ _) (fun hc => ?_) (fun hc => ?_)
      · have hv := hv.1 (z_cmp_ge.mp hc)
        refine lv_lload hx hb dX4_placeOf_119 (lv_at hl 0 rfl) ?_
        refine lv_lload hx hb dX4_placeOf_121 (lv_at hl 1 rfl) ?_
        obtain ⟨hp17, hv⟩ := hv
        obtain ⟨hp18, hv⟩ := hv
        refine va_calll (va_runS (As := [.long (z_l v14), .long (z_l v11)]) (rest := []) ⟨hx, hb, hml, hown, hts⟩ (mt_X1_doubleOfRatio l D cA v14 v11 h_v14 h_v11 hp17 hp18) (va_cwS 2 hts gX4_placeOf_X1_doubleOfRatio rfl rfl rfl (by decide +kernel) ⟨Nat.le_of_ble_eq_true rfl, Nat.le_of_ble_eq_true rfl⟩) ⟨z_bl0, fun U hU hW => ⟨rfl, z_b0 hK (hP.sub (ws' := []) [] rfl) hU hW⟩⟩ rfl rfl hl.1 rfl (lv_room (Nat.le_of_ble_eq_true rfl)) dX4_placeOf_123 ⟨Nat.zero_le _, Nat.zero_le _⟩) hS (fun q _ h => h.elim) (fun q h => h.elim) (fun r0 u t H locs ht hvm hw hB hz1 hk1 hS => ?_)
        obtain ⟨r19, rfl, h_r19, hw⟩ := hw
        have hP := z_P_all hP hk1
        have hv := hv r19 h_r19 hw
        exact W.lret (v := z_l r19) hx hb hr (fun t ht hW => ⟨⟨z_l r19, (), rfl, ⟨r19, rfl, h_r19, hv⟩, trivial⟩, hS.F ht⟩) hS.2.2 dX4_placeOf_126
      · have hv := hv.2 (z_cmp_lt.mp hc)
        refine lv_lload hx hb dX4_placeOf_107 (lv_at hl 0 rfl) ?_
        refine lx_lneg hx hb dX4_placeOf_109 ?_
        refine lv_lload hx hb dX4_placeOf_110 (lv_at hl 1 rfl) ?_
        refine lx_lneg hx hb dX4_placeOf_112 ?_
        obtain ⟨hr20, hv⟩ := hv
        obtain ⟨hr21, hv⟩ := hv
        obtain ⟨hp22, hv⟩ := hv
        obtain ⟨hp23, hv⟩ := hv
        refine va_calll (va_runS (As := [.long (z_l (-v14)), .long (z_l (-v11))]) (rest := []) ⟨hx, hb, hml, hown, hts⟩ (mt_X1_doubleOfRatio l D cA (-v14) (-v11) hr20 hr21 hp22 hp23) (va_cwS 2 hts gX4_placeOf_X1_doubleOfRatio rfl rfl rfl (by decide +kernel) ⟨Nat.le_of_ble_eq_true rfl, Nat.le_of_ble_eq_true rfl⟩) ⟨z_bl0, fun U hU hW => ⟨rfl, z_b0 hK (hP.sub (ws' := []) [] rfl) hU hW⟩⟩ rfl rfl hl.1 rfl (lv_room (Nat.le_of_ble_eq_true rfl)) dX4_placeOf_113 ⟨Nat.zero_le _, Nat.zero_le _⟩) hS (fun q _ h => h.elim) (fun q h => h.elim) (fun r0 u t H locs ht hvm hw hB hz1 hk1 hS => ?_)
        obtain ⟨r24, rfl, h_r24, hw⟩ := hw
        have hP := z_P_all hP hk1
        have hv := hv r24 h_r24 hw
        refine lv_goto (tgt := 126) hx hb dX4_placeOf_116 (by decide) ?_
        exact W.lret (v := z_l r24) hx hb hr (fun t ht hW => ⟨⟨z_l r24, (), rfl, ⟨r24, rfl, h_r24, hv⟩, trivial⟩, hS.F ht⟩) hS.2.2 dX4_placeOf_126
    · have hv := hv.2 hc
      refine lv_aload_n hx hb dX4_placeOf_33 rfl (lv_at hl 2 rfl) ?_
      refine va_get (D := D) (ci := 3) (v := .ref L_ground) (C := RX4) (T := TX4) (N := 12) hx hb hts (fun w h => List.mem_cons_of_mem _ (List.mem_append_left _ (List.mem_append_right _ h))) hown hK hP 0 rfl rfl 0 (by decide) (hts (.fieldLink RX4 12 "ContourSheets$Lines" "ground" "LContourSheets$Grid;") (by decide +kernel)) (fun _ h9 => h9) rfl dX4_placeOf_34 ?_
      refine va_get (D := D) (ci := 1) (v := .int (z_i L_ground_step)) (C := RX2) (T := TX2) (N := 4) hx hb hts (fun w h => List.mem_cons_of_mem _ (List.mem_append_right _ h)) hown hK hP 1 rfl rfl 3 (by decide) (hts (.fieldLink RX4 106 "ContourSheets$Grid" "step" "I") (by decide +kernel)) (fun _ h9 => h9) rfl dX4_placeOf_37 ?_
      refine lx_i2l hx hb dX4_placeOf_40 h_L_ground_step ?_
      refine lv_lload hx hb dX4_placeOf_41 (lv_at hl 0 rfl) ?_
      refine lx_lmul hx hb dX4_placeOf_43 ?_
      refine lv_lconst (v := z_l 1) hx hb dX4_placeOf_44 (by decide) ?_
      obtain ⟨hr25, hv⟩ := hv
      obtain ⟨hp26, hv⟩ := hv
      obtain ⟨hp27, hv⟩ := hv
      refine va_calll (va_runS (As := [.long (z_l (L_ground_step * v5)), .long (z_l 1)]) (rest := []) ⟨hx, hb, hml, hown, hts⟩ (mt_X1_doubleOfRatio l D cA (L_ground_step * v5) 1 hr25 (show z_nl 1 from ⟨by decide, by decide⟩) hp26 hp27) (va_cwS 2 hts gX4_placeOf_X1_doubleOfRatio rfl rfl rfl (by decide +kernel) ⟨Nat.le_of_ble_eq_true rfl, Nat.le_of_ble_eq_true rfl⟩) ⟨z_bl0, fun U hU hW => ⟨rfl, z_b0 hK (hP.sub (ws' := []) [] rfl) hU hW⟩⟩ rfl rfl hl.1 rfl (lv_room (Nat.le_of_ble_eq_true rfl)) dX4_placeOf_45 ⟨Nat.zero_le _, Nat.zero_le _⟩) hS (fun q _ h => h.elim) (fun q h => h.elim) (fun r0 u t H locs ht hvm hw hB hz1 hk1 hS => ?_)
      obtain ⟨r28, rfl, h_r28, hw⟩ := hw
      have hP := z_P_all hP hk1
      have hv := hv r28 h_r28 hw
      exact W.lret (v := z_l r28) hx hb hr (fun t ht hW => ⟨⟨z_l r28, (), rfl, ⟨r28, rfl, h_r28, hv⟩, trivial⟩, hS.F ht⟩) hS.2.2 dX4_placeOf_48
  · have hv := hv.2 hc
    refine lv_iload hx hb dX4_placeOf_9 (lv_at hl 0 rfl) ?_
    refine lv_bipush (v := z_i 40) hx hb dX4_placeOf_11 (by decide) ?_
    refine lx_irem hx hb dX4_placeOf_13 h_v1 (show z_in 40 from ⟨by decide, by decide⟩) (by decide) ?_
    obtain ⟨hr29, hv⟩ := hv
    refine lx_i2l hx hb dX4_placeOf_14 hr29 ?_
    refine lv_goto (tgt := 24) hx hb dX4_placeOf_15 (by decide) ?_
    refine lx_topl (fun v30 hy31 => ?_)
    have hv := hv v30 hy31
    have h_v30 : z_nl v30 := by rw [hy31]; exact (z_in_nl hr29)
    refine lv_lstore (lv' := [(5, .long (z_l v30)), (4, .int (z_i v1)), (0, .ref L), (1, .int (z_i sd)), (2, .int (z_i lv)), (3, .int (z_i ax))]) hx hb dX4_placeOf_24 hl (by decide) rfl (fun ls hl => ?_)
    refine lv_iload_n hx hb dX4_placeOf_26 rfl (lv_at hl 3 rfl) ?_
    refine lv_iconst (v := z_i 1) hx hb dX4_placeOf_27 rfl ?_
    refine lx_iand hx hb dX4_placeOf_28 ?_
    refine lv_iload_n hx hb dX4_placeOf_29 rfl (lv_at hl 5 rfl) ?_
    refine lx_icmp_eq (tgt := 49) hx hb dX4_placeOf_30 (by decide) (z_in_of _) h_ax (fun hc => ?_) (fun hc => ?_)
    · have hv := hv.1 hc
      refine lv_aload_n hx hb dX4_placeOf_49 rfl (lv_at hl 2 rfl) ?_
      refine va_get (D := D) (ci := 3) (v := .ref L_ground) (C := RX4) (T := TX4) (N := 12) hx hb hts (fun w h => List.mem_cons_of_mem _ (List.mem_append_left _ (List.mem_append_right _ h))) hown hK hP 0 rfl rfl 0 (by decide) (hts (.fieldLink RX4 12 "ContourSheets$Lines" "ground" "LContourSheets$Grid;") (by decide +kernel)) (fun _ h9 => h9) rfl dX4_placeOf_50 ?_
      refine lv_iload hx hb dX4_placeOf_53 (lv_at hl 1 rfl) ?_
      refine va_calli (va_runV (As := [.int (z_i v1)]) (rest := []) ⟨hx, hb, hml, hown, hts⟩ (mt_X2_unitsOf l D cA L_ground L_grounda_units L_ground_units L_grounda_lengths L_ground_lengths L_grounda_offsets L_ground_offsets L_ground_step v1 h_L_ground_step h_v1) (cwV 1 hts gX4_placeOf_X2_unitsOf rfl rfl rfl (by decide +kernel) ⟨Nat.le_of_ble_eq_true rfl, Nat.le_of_ble_eq_true rfl⟩) ⟨z_bl0, va_recv hK hP (ci := 1) (q0 := 1) rfl rfl, fun U hU hW => ⟨rfl, z_b0 hK (hP.sub (ws' := [(L_ground, .inr (1, [.ref L_grounda_units, .ref L_grounda_lengths, .ref L_grounda_offsets, .int (z_i L_ground_step)])), (L_grounda_units, .inl (cA 1, 1280, .inl L_ground_units)), (L_grounda_lengths, .inl (cA 1, 32, .inl L_ground_lengths)), (L_grounda_offsets, .inl (cA 1, 32, .inl L_ground_offsets))]) [1, 2, 3, 4] rfl) hU hW⟩⟩ rfl rfl hl.1 rfl (lv_room (Nat.le_of_ble_eq_true rfl)) dX4_placeOf_55 ⟨Nat.zero_le _, Nat.zero_le _⟩) hS (fun q _ h => h.elim) (fun q h => h.elim) (fun r0 u t H locs ht hvm hw hB hz1 hk1 hS => ?_)
      obtain ⟨r32, rfl, h_r32, hw⟩ := hw
      have hP := z_P_all hP hk1
      have hv := hv r32 h_r32 hw
      refine lx_i2l hx hb dX4_placeOf_58 h_r32 ?_
      refine lv_lstore (lv' := [(7, .long (z_l r32)), (5, .long (z_l v30)), (4, .int (z_i v1)), (0, .ref L), (1, .int (z_i sd)), (2, .int (z_i lv)), (3, .int (z_i ax))]) hx hb dX4_placeOf_59 hl (by decide) rfl (fun ls hl => ?_)
      refine lv_aload_n hx hb dX4_placeOf_61 rfl (lv_at hl 3 rfl) ?_
      refine va_get (D := D) (ci := 3) (v := .ref L_ground) (C := RX4) (T := TX4) (N := 12) hx hb hts (fun w h => List.mem_cons_of_mem _ (List.mem_append_left _ (List.mem_append_right _ h))) hown hK hP 0 rfl rfl 0 (by decide) (hts (.fieldLink RX4 12 "ContourSheets$Lines" "ground" "LContourSheets$Grid;") (by decide +kernel)) (fun _ h9 => h9) rfl dX4_placeOf_62 ?_
      refine lv_iload_n hx hb dX4_placeOf_65 rfl (lv_at hl 4 rfl) ?_
      obtain ⟨hp33, hv⟩ := hv
      refine va_calli (va_runS (As := [.int (z_i sd)]) (rest := [.ref L_ground]) ⟨hx, hb, hml, hown, hts⟩ (mt_X4_otherEnd l D cA sd h_sd hp33) (va_cwS 1 hts gX4_placeOf_X4_otherEnd rfl rfl rfl (by decide +kernel) ⟨Nat.le_of_ble_eq_true rfl, Nat.le_of_ble_eq_true rfl⟩) ⟨z_bl0, fun U hU hW => ⟨rfl, z_b0 hK (hP.sub (ws' := []) [] rfl) hU hW⟩⟩ rfl rfl hl.1 rfl (lv_room (Nat.le_of_ble_eq_true rfl)) dX4_placeOf_66 ⟨Nat.zero_le _, Nat.zero_le _⟩) hS (fun q _ h => h.elim) (fun q h => h.elim) (fun r0 u t H locs ht hvm hw hB hz1 hk1 hS => ?_)
      obtain ⟨r34, rfl, h_r34, hw⟩ := hw
      have hP := z_P_all hP hk1
      have hv := hv r34 h_r34 hw
      refine va_calli (va_runV (As := [.int (z_i r34)]) (rest := []) ⟨hx, hb, hml, hown, hts⟩ (mt_X2_unitsOf l D cA L_ground L_grounda_units L_ground_units L_grounda_lengths L_ground_lengths L_grounda_offsets L_ground_offsets L_ground_step r34 h_L_ground_step h_r34) (cwV 1 hts gX4_placeOf_X2_unitsOf rfl rfl rfl (by decide +kernel) ⟨Nat.le_of_ble_eq_true rfl, Nat.le_of_ble_eq_true rfl⟩) ⟨z_bl0, va_recv hK hP (ci := 1) (q0 := 1) rfl rfl, fun U hU hW => ⟨rfl, z_b0 hK (hP.sub (ws' := [(L_ground, .inr (1, [.ref L_grounda_units, .ref L_grounda_lengths, .ref L_grounda_offsets, .int (z_i L_ground_step)])), (L_grounda_units, .inl (cA 1, 1280, .inl L_ground_units)), (L_grounda_lengths, .inl (cA 1, 32, .inl L_ground_lengths)), (L_grounda_offsets, .inl (cA 1, 32, .inl L_ground_offsets))]) [1, 2, 3, 4] rfl) hU hW⟩⟩ rfl rfl hl.1 rfl (lv_room (Nat.le_of_ble_eq_true rfl)) dX4_placeOf_69 ⟨Nat.zero_le _, Nat.zero_le _⟩) hS (fun q _ h => h.elim) (fun q h => h.elim) (fun r0 u t H locs ht hvm hw hB hz1 hk1 hS => ?_)
      obtain ⟨r35, rfl, h_r35, hw⟩ := hw
      have hP := z_P_all hP hk1
      have hv := hv r35 h_r35 hw
      refine lx_i2l hx hb dX4_placeOf_72 h_r35 ?_
      refine lv_lload hx hb dX4_placeOf_73 (lv_at hl 0 rfl) ?_
      refine lx_lsub hx hb dX4_placeOf_75 ?_
      obtain ⟨hr37, hv⟩ := hv
      refine lx_topl (fun v36 hy38 => ?_)
      have hv := hv v36 hy38
      have h_v36 : z_nl v36 := by rw [hy38]; exact hr37
      refine lv_lstore (lv' := [(9, .long (z_l v36)), (7, .long (z_l r32)), (5, .long (z_l v30)), (4, .int (z_i v1)), (0, .ref L), (1, .int (z_i sd)), (2, .int (z_i lv)), (3, .int (z_i ax))]) hx hb dX4_placeOf_76 hl (by decide) rfl (fun ls hl => ?_)
      refine lv_aload_n hx hb dX4_placeOf_78 rfl (lv_at hl 4 rfl) ?_
      refine va_get (D := D) (ci := 3) (v := .ref L_ground) (C := RX4) (T := TX4) (N := 12) hx hb hts (fun w h => List.mem_cons_of_mem _ (List.mem_append_left _ (List.mem_append_right _ h))) hown hK hP 0 rfl rfl 0 (by decide) (hts (.fieldLink RX4 12 "ContourSheets$Lines" "ground" "LContourSheets$Grid;") (by decide +kernel)) (fun _ h9 => h9) rfl dX4_placeOf_79 ?_
      refine va_get (D := D) (ci := 1) (v := .int (z_i L_ground_step)) (C := RX2) (T := TX2) (N := 4) hx hb hts (fun w h => List.mem_cons_of_mem _ (List.mem_append_right _ h)) hown hK hP 1 rfl rfl 3 (by decide) (hts (.fieldLink RX4 106 "ContourSheets$Grid" "step" "I") (by decide +kernel)) (fun _ h9 => h9) rfl dX4_placeOf_82 ?_
      refine lx_i2l hx hb dX4_placeOf_85 h_L_ground_step ?_
      refine lv_lload hx hb dX4_placeOf_86 (lv_at hl 2 rfl) ?_
      refine lv_lload hx hb dX4_placeOf_88 (lv_at hl 0 rfl) ?_
      refine lx_lmul hx hb dX4_placeOf_90 ?_
      refine lv_iload_n hx hb dX4_placeOf_91 rfl (lv_at hl 6 rfl) ?_
      refine lx_i2l hx hb dX4_placeOf_92 h_lv ?_
      refine lv_lload hx hb dX4_placeOf_93 (lv_at hl 1 rfl) ?_
      refine lx_lsub hx hb dX4_placeOf_95 ?_
      refine lx_ladd hx hb dX4_placeOf_96 ?_
      refine lx_lmul hx hb dX4_placeOf_97 ?_
      obtain ⟨hr40, hv⟩ := hv
      refine lx_topl (fun v39 hy41 => ?_)
      have hv := hv v39 hy41
      have h_v39 : z_nl v39 := by rw [hy41]; exact hr40
      refine lv_lstore (lv' := [(11, .long (z_l v39)), (9, .long (z_l v36)), (7, .long (z_l r32)), (5, .long (z_l v30)), (4, .int (z_i v1)), (0, .ref L), (1, .int (z_i sd)), (2, .int (z_i lv)), (3, .int (z_i ax))]) hx hb dX4_placeOf_98 hl (by decide) rfl (fun ls hl => ?_)
      refine lv_lload hx hb dX4_placeOf_100 (lv_at hl 1 rfl) ?_
      refine lv_lconst (v := z_l 0) hx hb dX4_placeOf_102 (by decide) ?_
      refine lx_lcmp hx hb dX4_placeOf_103 h_v36 (show z_nl 0 from ⟨by decide, by decide⟩) ?_
      refine lx_if_ge (tgt := 119) hx hb dX4_placeOf_104 (by decide) (z_in_cmp _ _) (fun hc => ?_) (fun hc => ?_)
      · have hv := hv.1 (z_cmp_ge.mp hc)
        refine lv_lload hx hb dX4_placeOf_119 (lv_at hl 0 rfl) ?_
        refine lv_lload hx hb dX4_placeOf_121 (lv_at hl 1 rfl) ?_
        obtain ⟨hp42, hv⟩ := hv
        obtain ⟨hp43, hv⟩ := hv
        refine va_calll (va_runS (As := [.long (z_l v39), .long (z_l v36)]) (rest := []) ⟨hx, hb, hml, hown, hts⟩ (mt_X1_doubleOfRatio l D cA v39 v36 h_v39 h_v36 hp42 hp43) (va_cwS 2 hts gX4_placeOf_X1_doubleOfRatio rfl rfl rfl (by decide +kernel) ⟨Nat.le_of_ble_eq_true rfl, Nat.le_of_ble_eq_true rfl⟩) ⟨z_bl0, fun U hU hW => ⟨rfl, z_b0 hK (hP.sub (ws' := []) [] rfl) hU hW⟩⟩ rfl rfl hl.1 rfl (lv_room (Nat.le_of_ble_eq_true rfl)) dX4_placeOf_123 ⟨Nat.zero_le _, Nat.zero_le _⟩) hS (fun q _ h => h.elim) (fun q h => h.elim) (fun r0 u t H locs ht hvm hw hB hz1 hk1 hS => ?_)
        obtain ⟨r44, rfl, h_r44, hw⟩ := hw
        have hP := z_P_all hP hk1
        have hv := hv r44 h_r44 hw
        exact W.lret (v := z_l r44) hx hb hr (fun t ht hW => ⟨⟨z_l r44, (), rfl, ⟨r44, rfl, h_r44, hv⟩, trivial⟩, hS.F ht⟩) hS.2.2 dX4_placeOf_126
      · have hv := hv.2 (z_cmp_lt.mp hc)
        refine lv_lload hx hb dX4_placeOf_107 (lv_at hl 0 rfl) ?_
        refine lx_lneg hx hb dX4_placeOf_109 ?_
        refine lv_lload hx hb dX4_placeOf_110 (lv_at hl 1 rfl) ?_
        refine lx_lneg hx hb dX4_placeOf_112 ?_
        obtain ⟨hr45, hv⟩ := hv
        obtain ⟨hr46, hv⟩ := hv
        obtain ⟨hp47, hv⟩ := hv
        obtain ⟨hp48, hv⟩ := hv
        refine va_calll (va_runS (As := [.long (z_l (-v39)), .long (z_l (-v36))]) (rest := []) ⟨hx, hb, hml, hown, hts⟩ (mt_X1_doubleOfRatio l D cA (-v39) (-v36) hr45 hr46 hp47 hp48) (va_cwS 2 hts gX4_placeOf_X1_doubleOfRatio rfl rfl rfl (by decide +kernel) ⟨Nat.le_of_ble_eq_true rfl, Nat.le_of_ble_eq_true rfl⟩) ⟨z_bl0, fun U hU hW => ⟨rfl, z_b0 hK (hP.sub (ws' := []) [] rfl) hU hW⟩⟩ rfl rfl hl.1 rfl (lv_room (Nat.le_of_ble_eq_true rfl)) dX4_placeOf_113 ⟨Nat.zero_le _, Nat.zero_le _⟩) hS (fun q _ h => h.elim) (fun q h => h.elim) (fun r0 u t H locs ht hvm hw hB hz1 hk1 hS => ?_)
        obtain ⟨r49, rfl, h_r49, hw⟩ := hw
        have hP := z_P_all hP hk1
        have hv := hv r49 h_r49 hw
        refine lv_goto (tgt := 126) hx hb dX4_placeOf_116 (by decide) ?_
        exact W.lret (v := z_l r49) hx hb hr (fun t ht hW => ⟨⟨z_l r49, (), rfl, ⟨r49, rfl, h_r49, hv⟩, trivial⟩, hS.F ht⟩) hS.2.2 dX4_placeOf_126
    · have hv := hv.2 hc
      refine lv_aload_n hx hb dX4_placeOf_33 rfl (lv_at hl 2 rfl) ?_
      refine va_get (D := D) (ci := 3) (v := .ref L_ground) (C := RX4) (T := TX4) (N := 12) hx hb hts (fun w h => List.mem_cons_of_mem _ (List.mem_append_left _ (List.mem_append_right _ h))) hown hK hP 0 rfl rfl 0 (by decide) (hts (.fieldLink RX4 12 "ContourSheets$Lines" "ground" "LContourSheets$Grid;") (by decide +kernel)) (fun _ h9 => h9) rfl dX4_placeOf_34 ?_
      refine va_get (D := D) (ci := 1) (v := .int (z_i L_ground_step)) (C := RX2) (T := TX2) (N := 4) hx hb hts (fun w h => List.mem_cons_of_mem _ (List.mem_append_right _ h)) hown hK hP 1 rfl rfl 3 (by decide) (hts (.fieldLink RX4 106 "ContourSheets$Grid" "step" "I") (by decide +kernel)) (fun _ h9 => h9) rfl dX4_placeOf_37 ?_
      refine lx_i2l hx hb dX4_placeOf_40 h_L_ground_step ?_
      refine lv_lload hx hb dX4_placeOf_41 (lv_at hl 0 rfl) ?_
      refine lx_lmul hx hb dX4_placeOf_43 ?_
      refine lv_lconst (v := z_l 1) hx hb dX4_placeOf_44 (by decide) ?_
      obtain ⟨hr50, hv⟩ := hv
      obtain ⟨hp51, hv⟩ := hv
      obtain ⟨hp52, hv⟩ := hv
      refine va_calll (va_runS (As := [.long (z_l (L_ground_step * v30)), .long (z_l 1)]) (rest := []) ⟨hx, hb, hml, hown, hts⟩ (mt_X1_doubleOfRatio l D cA (L_ground_step * v30) 1 hr50 (show z_nl 1 from ⟨by decide, by decide⟩) hp51 hp52) (va_cwS 2 hts gX4_placeOf_X1_doubleOfRatio rfl rfl rfl (by decide +kernel) ⟨Nat.le_of_ble_eq_true rfl, Nat.le_of_ble_eq_true rfl⟩) ⟨z_bl0, fun U hU hW => ⟨rfl, z_b0 hK (hP.sub (ws' := []) [] rfl) hU hW⟩⟩ rfl rfl hl.1 rfl (lv_room (Nat.le_of_ble_eq_true rfl)) dX4_placeOf_45 ⟨Nat.zero_le _, Nat.zero_le _⟩) hS (fun q _ h => h.elim) (fun q h => h.elim) (fun r0 u t H locs ht hvm hw hB hz1 hk1 hS => ?_)
      obtain ⟨r53, rfl, h_r53, hw⟩ := hw
      have hP := z_P_all hP hk1
      have hv := hv r53 h_r53 hw
      exact W.lret (v := z_l r53) hx hb hr (fun t ht hW => ⟨⟨z_l r53, (), rfl, ⟨r53, rfl, h_r53, hv⟩, trivial⟩, hS.F ht⟩) hS.2.2 dX4_placeOf_48
set_option maxHeartbeats 4000000 in
set_option maxRecDepth 100000 in
theorem mt_X4_placeOf (l : Launch) (D : va_G) (cA : Nat → ClassId) (L : Nat) (L_ground : Nat) (L_grounda_units : Nat) (L_ground_units : Nat → Int32) (L_grounda_lengths : Nat) (L_ground_lengths : Nat → Int32) (L_grounda_offsets : Nat) (L_ground_offsets : Nat → Int32) (L_ground_step : Int) (L_joins : Nat) (L_joinsa_next : Nat) (L_joins_next : Nat → Int32) (L_joinsa_before : Nat) (L_joins_before : Nat → Int32) (L_joins_least : Int) (L_joins_last : Int) (La_heights : Nat) (L_heights : Nat → Int32) (La_sides : Nat) (L_sides : Nat → Int32) (La_firsts : Nat) (L_firsts : Nat → Int32) (La_levelIndex : Nat) (L_levelIndex : Nat → Int32) (La_closed : Nat) (L_closed : Nat → Int32) (L_there : Nat) (L_therea_masks : Nat) (L_there_masks : Nat → Int64) (L_there_size : Int) (L_inner : Nat) (L_innera_masks : Nat) (L_inner_masks : Nat → Int64) (L_inner_size : Int) (L_outer : Nat) (L_outera_masks : Nat) (L_outer_masks : Nat → Int64) (L_outer_size : Int) (L_size : Int) (L_full : Int) (sd : Int) (lv : Int) (ax : Int) (h_L_ground_step : z_in L_ground_step) (h_L_joins_least : z_in L_joins_least) (h_L_joins_last : z_in L_joins_last) (h_L_there_size : z_in L_there_size) (h_L_inner_size : z_in L_inner_size) (h_L_outer_size : z_in L_outer_size) (h_L_size : z_in L_size) (h_L_full : z_in L_full) (h_sd : z_in sd) (h_lv : z_in lv) (h_ax : z_in ax) (hp1 : s_ok (g_th L_ground_units) (g_at L_ground_units) lv sd) (hp2 : g_ok L_ground_units) (hp3 : 1 ≤ L_ground_step ∧ L_ground_step ≤ 100000) (hp4 : ax = 0 ∨ ax = 1) : Met l yX4_placeOf wsX4_placeOf ({ frames := 1, cells := 0, slots := 0, locals := 30 } : Room) (va_Pc [.ref L, .int (z_i sd), .int (z_i lv), .int (z_i ax)] (z_B0 D cA [(L, .inr (3, [.ref L_ground, .ref L_joins, .ref La_heights, .ref La_sides, .ref La_firsts, .ref La_levelIndex, .ref La_closed, .ref L_there, .ref L_inner, .ref L_outer, .int (z_i L_size), .int (z_i L_full)])), (L_ground, .inr (1, [.ref L_grounda_units, .ref L_grounda_lengths, .ref L_grounda_offsets, .int (z_i L_ground_step)])), (L_grounda_units, .inl (cA 1, 1280, .inl L_ground_units)), (L_grounda_lengths, .inl (cA 1, 32, .inl L_ground_lengths)), (L_grounda_offsets, .inl (cA 1, 32, .inl L_ground_offsets)), (L_joins, .inr (2, [.ref L_joinsa_next, .ref L_joinsa_before, .int (z_i L_joins_least), .int (z_i L_joins_last)])), (L_joinsa_next, .inl (cA 1, 2560, .inl L_joins_next)), (L_joinsa_before, .inl (cA 1, 2560, .inl L_joins_before)), (La_heights, .inl (cA 1, 16, .inl L_heights)), (La_sides, .inl (cA 1, 8000, .inl L_sides)), (La_firsts, .inl (cA 1, 401, .inl L_firsts)), (La_levelIndex, .inl (cA 1, 400, .inl L_levelIndex)), (La_closed, .inl (cA 0, 400, .inl L_closed)), (L_there, .inr (0, [.ref L_therea_masks, .int (z_i L_there_size)])), (L_therea_masks, .inl (cA 2, 32, .inr (.inl L_there_masks))), (L_inner, .inr (0, [.ref L_innera_masks, .int (z_i L_inner_size)])), (L_innera_masks, .inl (cA 2, 32, .inr (.inl L_inner_masks))), (L_outer, .inr (0, [.ref L_outera_masks, .int (z_i L_outer_size)])), (L_outera_masks, .inl (cA 2, 32, .inr (.inl L_outer_masks)))])) (va_Ql (z_rl (fun (r : Int) => l_pl L_ground_step (g_at L_ground_units) sd lv ax r)) (fun _ _ => True) (fun _ => False)) 0 0 (fun _ => False) := by
  refine wk_X4_placeOf l D cA L L_ground L_grounda_units L_ground_units L_grounda_lengths L_ground_lengths L_grounda_offsets L_ground_offsets L_ground_step L_joins L_joinsa_next L_joins_next L_joinsa_before L_joins_before L_joins_least L_joins_last La_heights L_heights La_sides L_sides La_firsts L_firsts La_levelIndex L_levelIndex La_closed L_closed L_there L_therea_masks L_there_masks L_there_size L_inner L_innera_masks L_inner_masks L_inner_size L_outer L_outera_masks L_outer_masks L_outer_size L_size L_full sd lv ax h_L_ground_step h_L_joins_least h_L_joins_last h_L_there_size h_L_inner_size h_L_outer_size h_L_size h_L_full h_sd h_lv h_ax (fun (r : Int) => l_pl L_ground_step (g_at L_ground_units) sd lv ax r) ?_
  unfold vc_X4_placeOf
  obtain ⟨s0, s1, t1, t2, hne⟩ := hp1
  have e1 : sd.tdiv 2 = sd / 2 := Int.tdiv_eq_ediv_of_nonneg s0
  have ea : z_and sd 1 = sd % 2 := z_and_1i s0
  have bd : ∀ x, g_th L_ground_units x = true → -8388608 ≤ g_at L_ground_units x ∧ g_at L_ground_units x ≤ 8388608 := fun x hx => by
    have h9 : g_at L_ground_units x ≠ -2147483648 := of_decide_eq_true hx
    exact (hp2 x).resolve_left h9
  have u1 := bd _ t1
  have u2 := bd _ t2
  have hn : ¬ (decide (lv ≤ g_at L_ground_units (sd / 2)) = decide (lv ≤ g_at L_ground_units (l_oe sd))) := hne
  have key : ∀ w : Int, 0 ≤ w → w ≤ 39 → w = (if ax = 0 then sd / 2 % 40 else sd / 2 / 40) → ((sd % 2 = ax → (∀ (r7 : Int), z_in r7 → (r7 = g_at L_ground_units (sd / 2)) → (0 ≤ sd ∧ sd < 2560) ∧ (∀ (r9 : Int), z_in r9 → (r9 = l_oe sd) → (∀ (r10 : Int), z_in r10 → (r10 = g_at L_ground_units r9) → z_nl (r10 - r7) ∧ (∀ v11 : Int, v11 = r10 - r7 → z_nl (L_ground_step * ((w * v11) + (lv - r7))) ∧ (∀ v14 : Int, v14 = L_ground_step * ((w * v11) + (lv - r7)) → ((v11 ≥ 0 → (0 ≤ v14 ∧ v14 < 140737488355328) ∧ (1 ≤ v11 ∧ v11 ≤ 33554432) ∧ (∀ (r19 : Int), z_nl r19 → (b_rt v14 v11 r19) → l_pl L_ground_step (g_at L_ground_units) sd lv ax r19)) ∧
  (v11 < 0 → z_nl (-v14) ∧ z_nl (-v11) ∧ (0 ≤ (-v14) ∧ (-v14) < 140737488355328) ∧ (1 ≤ (-v11) ∧ (-v11) ≤ 33554432) ∧ (∀ (r24 : Int), z_nl r24 → (b_rt (-v14) (-v11) r24) → l_pl L_ground_step (g_at L_ground_units) sd lv ax r24))))))))) ∧
  (sd % 2 ≠ ax → z_nl (L_ground_step * w) ∧ (0 ≤ (L_ground_step * w) ∧ (L_ground_step * w) < 140737488355328) ∧ (1 ≤ (1 : Int) ∧ (1 : Int) ≤ 33554432) ∧ (∀ (r28 : Int), z_nl r28 → (b_rt (L_ground_step * w) (1 : Int) r28) → l_pl L_ground_step (g_at L_ground_units) sd lv ax r28))) := by
    intro w w0 w1 hw
    refine ⟨?_, ?_⟩
    · intro q r7 _ h7
      refine ⟨⟨s0, s1⟩, ?_⟩
      rintro r9 _ rfl r10 _ h10
      rw [← h7] at u1 hn
      rw [← h10] at u2 hn
      refine ⟨⟨by omega, by omega⟩, ?_⟩
      rintro v11 rfl
      have sw : (lv ≤ r7 ∧ ¬ lv ≤ r10) ∨ (¬ lv ≤ r7 ∧ lv ≤ r10) := by
        by_cases a1 : lv ≤ r7 <;> by_cases a2 : lv ≤ r10
        · exact absurd (by rw [decide_eq_true a1, decide_eq_true a2]) hn
        · exact Or.inl ⟨a1, a2⟩
        · exact Or.inr ⟨a1, a2⟩
        · exact absurd (by rw [decide_eq_false a1, decide_eq_false a2]) hn
      rcases sw with ⟨a1, a2⟩ | ⟨a1, a2⟩
      · have pb := pl_b hp3.1 hp3.2 w0 w1 (ri := -(r10 - r7)) (le := -(lv - r7)) (by omega) (by omega) (by omega) (by omega)
        have en : L_ground_step * (w * -(r10 - r7) + -(lv - r7)) = -(L_ground_step * (w * (r10 - r7) + (lv - r7))) := by rw [← Int.mul_neg, Int.neg_add, Int.mul_neg w]
        rw [en] at pb
        refine ⟨⟨by omega, by omega⟩, ?_⟩
        rintro v14 rfl
        refine ⟨fun q2 => absurd q2 (by omega), fun _ => ⟨⟨by omega, by omega⟩, ⟨by omega, by omega⟩, pb, ⟨by omega, by omega⟩, ?_⟩⟩
        intro r24 _ h24
        unfold l_pl
        rw [if_neg (fun h => h q), ← h7, ← h10, if_pos (by omega), ← hw]
        exact h24
      · have pb := pl_b hp3.1 hp3.2 w0 w1 (ri := r10 - r7) (le := lv - r7) (by omega) (by omega) (by omega) (by omega)
        refine ⟨⟨by omega, by omega⟩, ?_⟩
        rintro v14 rfl
        refine ⟨fun _ => ⟨pb, ⟨by omega, by omega⟩, ?_⟩, fun q2 => absurd q2 (by omega)⟩
        intro r24 _ h24
        unfold l_pl
        rw [if_neg (fun h => h q), ← h7, ← h10, if_neg (by omega), ← hw]
        exact h24
    · intro q
      have pb := z_mb (a := L_ground_step) (b := w) (A := 100000) (B := 39) (by omega) (by omega) w0 w1
      have pc : 0 ≤ L_ground_step * w := Int.mul_nonneg (by omega) w0
      refine ⟨⟨by omega, by omega⟩, ⟨pc, by omega⟩, ⟨by omega, by omega⟩, ?_⟩
      intro r28 _ h28
      unfold l_pl
      rw [if_pos q, ← hw]
      exact h28
  rw [e1, ea]
  refine ⟨⟨by omega, by omega⟩, ?_⟩
  rintro v1 rfl
  have e2 : (sd / 2).tdiv 40 = sd / 2 / 40 := Int.tdiv_eq_ediv_of_nonneg (by omega)
  have e3 : (sd / 2).tmod 40 = sd / 2 % 40 := Int.tmod_eq_emod_of_nonneg (by omega)
  rw [e2, e3]
  refine ⟨fun q => ⟨⟨by omega, by omega⟩, ?_⟩, fun q => ⟨⟨by omega, by omega⟩, ?_⟩⟩
  · rintro v5 rfl
    exact key _ (by omega) (by omega) (by rw [if_neg q])
  · rintro v5 rfl
    exact key _ (by omega) (by omega) (by rw [if_pos q])
