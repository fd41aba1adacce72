theorem m_ab_q {u th : Nat → Int32} {g p o : Int} (hp : q_th th g p = true) (ho : q_th th g o = true) : m_ab (fun q => z_g u (1280 * g + q)) p o = m_ab (q_at u th g) p o := by
  unfold m_ab
  rw [q_at_t hp, q_at_t ho]
/-- bits of a mask: how many, and how many changes going around -/
def k_b (m : Int) (k : Nat) : Int := m / ((2 ^ k : Nat) : Int) % 2
def k_cn (m : Int) : Nat → Int
  | 0 => 0
  | k + 1 => k_cn m k + k_b m k
def k_tn (m : Int) : Nat → Int
  | 0 => 0
  | k + 1 => k_tn m k + (if k_b m k = k_b m ((k + 1) % 8) then 0 else 1)
theorem k_km : ∀ m : Fin 256, m_km (m.val : Int) = (if k_cn (m.val : Int) 8 = 0 then 1 else if k_cn (m.val : Int) 8 = 8 then 2 else if k_tn (m.val : Int) 8 ≥ 4 then 3 else 0) := by decide +kernel
theorem m_waK_s {T : Int → Bool} {U : Int → Int} {n : Int} {k : Nat} : m_waK T U n (k + 1) = m_waK T U n k + (if m_nb T n k ≠ -1 ∧ m_ab U (m_nb T n k) n = true then 2 ^ k else 0) := rfl
theorem k_wa {T : Int → Bool} {U : Int → Int} {n : Int} : ∀ k : Nat, k < 8 → k_b (m_wa T U n) k = (if m_nb T n k ≠ -1 ∧ m_ab U (m_nb T n k) n = true then 1 else 0) := by
  have e : m_wa T U n = m_waK T U n 8 := rfl
  rw [m_waK_s, m_waK_s, m_waK_s, m_waK_s, m_waK_s, m_waK_s, m_waK_s, m_waK_s] at e
  have z : m_waK T U n 0 = 0 := rfl
  rw [z] at e
  have b : ∀ (c : Prop) [Decidable c] (w : Int), (if c then w else 0) = w * (if c then 1 else 0) := fun c _ w => by split <;> omega
  have r : ∀ (c : Prop) [Decidable c], (0 : Int) ≤ (if c then 1 else 0) ∧ (if c then (1 : Int) else 0) ≤ 1 := fun c _ => by split <;> omega
  simp only [b _ (2 ^ _)] at e
  have r0 := r (m_nb T n ((0 : Nat) : Int) ≠ -1 ∧ m_ab U (m_nb T n ((0 : Nat) : Int)) n = true)
  have r1 := r (m_nb T n ((1 : Nat) : Int) ≠ -1 ∧ m_ab U (m_nb T n ((1 : Nat) : Int)) n = true)
  have r2 := r (m_nb T n ((2 : Nat) : Int) ≠ -1 ∧ m_ab U (m_nb T n ((2 : Nat) : Int)) n = true)
  have r3 := r (m_nb T n ((3 : Nat) : Int) ≠ -1 ∧ m_ab U (m_nb T n ((3 : Nat) : Int)) n = true)
  have r4 := r (m_nb T n ((4 : Nat) : Int) ≠ -1 ∧ m_ab U (m_nb T n ((4 : Nat) : Int)) n = true)
  have r5 := r (m_nb T n ((5 : Nat) : Int) ≠ -1 ∧ m_ab U (m_nb T n ((5 : Nat) : Int)) n = true)
  have r6 := r (m_nb T n ((6 : Nat) : Int) ≠ -1 ∧ m_ab U (m_nb T n ((6 : Nat) : Int)) n = true)
  have r7 := r (m_nb T n ((7 : Nat) : Int) ≠ -1 ∧ m_ab U (m_nb T n ((7 : Nat) : Int)) n = true)
  intro k hk
  unfold k_b
  have hk : k = 0 ∨ k = 1 ∨ k = 2 ∨ k = 3 ∨ k = 4 ∨ k = 5 ∨ k = 6 ∨ k = 7 := by omega
  rw [e]
  clear e z
  rcases hk with rfl | rfl | rfl | rfl | rfl | rfl | rfl | rfl <;> simp only [Nat.reducePow, Int.reducePow] <;> omega
theorem m_nc_8 {T : Int → Bool} {n : Int} (h : m_nc T n ≥ 8) : ∀ k : Nat, k < 8 → m_nb T n k ≠ -1 := by
  intro k hk hn
  have st : ∀ j : Nat, m_ncK T n j ≤ j := fun j => by
    induction j with
    | zero => exact Int.le_refl _
    | succ j ih => unfold m_ncK; split <;> omega
  have lt : ∀ j : Nat, k < j → m_ncK T n j ≤ (j : Int) - 1 := fun j => by
    induction j with
    | zero => intro h; omega
    | succ j ih =>
      intro hj
      unfold m_ncK
      by_cases e : j = k
      · have := st j
        rw [e, if_pos hn]; rw [e] at this; omega
      · have := ih (by omega)
        split <;> omega
  have := lt 8 hk
  unfold m_nc at h
  omega
def vc_X8_isPeak (y_units : Nat → Int32) (y_isThere : Nat → Int32) (gi : Int) (n : Int) (Q : Int → Prop) : Prop :=
(∀ L5 : Int → Int → Prop,
(∀ (x5_4 : Int) (x5_3 : Int), z_in x5_4 → z_in x5_3 → ((x5_4 ≥ 8 → (x5_3 = 0 ∨ x5_3 = 1) ∧ Q x5_3) ∧
(x5_4 < 8 → (0 ≤ gi ∧ gi < 4) ∧ (0 ≤ n ∧ n < 1280) ∧ (0 ≤ x5_4 ∧ x5_4 < 8) ∧ (∀ (r5 : Int), z_in r5 → (r5 = m_nb (q_th y_isThere gi) n x5_4) → ((x5_3 = 0 → L5 (x5_4 + 1) 0) ∧
(x5_3 ≠ 0 → ((r5 < 0 → L5 (x5_4 + 1) 1) ∧
(r5 ≥ 0 → (0 ≤ gi ∧ gi < 4) ∧ (0 ≤ r5 ∧ r5 < 1280) ∧ (0 ≤ n ∧ n < 1280) ∧ (∀ (r9 : Int), z_in r9 → (r9 = z_b (m_ab (fun q => z_g y_units (1280 * gi + q)) r5 n)) → ((r9 ≠ 0 → L5 (x5_4 + 1) 0) ∧
(r9 = 0 → L5 (x5_4 + 1) 1)))))))))) → L5 x5_4 x5_3) →
L5 0 1)
set_option maxHeartbeats 4000000 in
set_option maxRecDepth 100000 in
theorem wk_X8_isPeak (l : Launch) (D : va_G) (cA : Nat → ClassId) (y : Nat) (y_space : Nat) (y_offset : Nat) (y_length : Nat) (ya_units : Nat) (y_units : Nat → Int32) (ya_isThere : Nat) (y_isThere : Nat → Int32) (y_levels : Int) (y_level : Nat) (y_lines : Int) (y_lineLevel : Nat) (y_lineUnits : Nat) (y_lineFrom : Nat) (y_lineMany : Nat) (y_isClosed : Nat) (y_insides : Nat) (y_parent : Nat) (y_isHigh : Nat) (y_inBits : Nat) (y_sides : Int) (y_side : Nat) (y_sideA : Nat) (y_sideB : Nat) (y_lineSpace : Int) (y_wasThere : Nat) (y_leads : Nat) (y_isLed : Nat) (y_isOn : Nat) (y_goesTo : Nat) (y_stream : Nat) (y_filled : Nat) (y_isDone : Nat) (y_isReached : Nat) (y_newUnits : Nat) (y_isNew : Nat) (gi : Int) (n : Int) (h_y_levels : z_in y_levels) (h_y_lines : z_in y_lines) (h_y_sides : z_in y_sides) (h_y_lineSpace : z_in y_lineSpace) (h_gi : z_in gi) (h_n : z_in n) (Q : Int → Prop) (hv : vc_X8_isPeak y_units y_isThere gi n Q) : Met l yX8_isPeak wsX8_isPeak ({ frames := 3, cells := 0, slots := 0, locals := 70 } : Room) (va_Pc [.ref y, .int (z_i gi), .int (z_i n)] (z_B0 D cA [(y, .inr (6, [.ref y_space, .ref y_offset, .ref y_length, .ref ya_units, .ref ya_isThere, .int (z_i y_levels), .ref y_level, .int (z_i y_lines), .ref y_lineLevel, .ref y_lineUnits, .ref y_lineFrom, .ref y_lineMany, .ref y_isClosed, .ref y_insides, .ref y_parent, .ref y_isHigh, .ref y_inBits, .int (z_i y_sides), .ref y_side, .ref y_sideA, .ref y_sideB, .int (z_i y_lineSpace), .ref y_wasThere, .ref y_leads, .ref y_isLed, .ref y_isOn, .ref y_goesTo, .ref y_stream, .ref y_filled, .ref y_isDone, .ref y_isReached, .ref y_newUnits, .ref y_isNew])), (ya_units, .inl (cA 1, 5120, .inl y_units)), (ya_isThere, .inl (cA 3, 5120, .inl y_isThere))])) (va_Qi (z_ri Q) (fun _ _ => True) (fun _ => False)) 0 0 (fun _ => False) := by
  unfold vc_X8_isPeak at hv
  refine Met.ofW (cc := cX8_isPeak) (maxL := 6) (ret := (some .boolean)) (by decide +kernel) rfl ?_
  intro p e s m args below meth c s₁ B hml hv0
  obtain ⟨rfl, hK, hP⟩ := hv0
  have hx := B.exec
  have hb := B.bytes
  have hr := B.returns
  have hts := atoms_spec (ws := wsX8_isPeak) B.pre
  have hown : s.vm.findClass RX8 = some m.cls := findClass_of_methodNamed B.named
  have hlocks := B.notSynchronized
  have hS : va_S (fun _ : Nat => False) s.heap s.heap [] := va_S.rf
  have hl := lv_entry ([.ref y, .int (z_i gi), .int (z_i n)]) (n := 6) (Nat.le_of_ble_eq_true rfl)
  rw [lg_entry_eq]
  generalize (lg_sl ([.ref y, .int (z_i gi), .int (z_i n)]) ++ List.replicate (6 - (lg_sl ([.ref y, .int (z_i gi), .int (z_i n)])).length) Slot.unset).toArray = ls at hl ⊢
  have hl : lv_has ls 6 [(0, .ref y), (1, .int (z_i gi)), (2, .int (z_i n))] := hl
  refine lv_iconst (v := z_i 1) hx hb dX8_isPeak_0 rfl ?_
  refine lv_istore_n (lv' := [(3, .int (z_i 1)), (0, .ref y), (1, .int (z_i gi)), (2, .int (z_i n))]) hx hb dX8_isPeak_1 rfl hl (by decide) rfl (fun ls hl => ?_)
  refine lv_iconst (v := z_i 0) hx hb dX8_isPeak_2 rfl ?_
  refine lv_istore (lv' := [(4, .int (z_i 0)), (3, .int (z_i 1)), (0, .ref y), (1, .int (z_i gi)), (2, .int (z_i n))]) hx hb dX8_isPeak_3 hl (by decide) rfl (fun ls hl => ?_)
  refine hv (fun (x5_4 : Int) (x5_3 : Int) => ∀ (H : Heap) (locs : List Loc) (ls : Array Slot), va_P D vwCl [(y, .inr (6, [.ref y_space, .ref y_offset, .ref y_length, .ref ya_units, .ref ya_isThere, .int (z_i y_levels), .ref y_level, .int (z_i y_lines), .ref y_lineLevel, .ref y_lineUnits, .ref y_lineFrom, .ref y_lineMany, .ref y_isClosed, .ref y_insides, .ref y_parent, .ref y_isHigh, .ref y_inBits, .int (z_i y_sides), .ref y_side, .ref y_sideA, .ref y_sideB, .int (z_i y_lineSpace), .ref y_wasThere, .ref y_leads, .ref y_isLed, .ref y_isOn, .ref y_goesTo, .ref y_stream, .ref y_filled, .ref y_isDone, .ref y_isReached, .ref y_newUnits, .ref y_isNew])), (ya_units, .inl (cA 1, 5120, .inl y_units)), (ya_isThere, .inl (cA 3, 5120, .inl y_isThere))] H → va_S (fun _ : Nat => False) s.heap H locs → lv_has ls 6 [(4, .int (z_i x5_4)), (3, .int (z_i x5_3)), (0, .ref y), (1, .int (z_i gi)), (2, .int (z_i n))] → W p l e _ s m _ below meth c H locs 0 0 _ (F0 m 5 ls [])) ?_ _ _ ls hP hS (lv_sub hl [0, 1, 2, 3, 4] rfl)
  intro x5_4 x5_3 h_x5_4 h_x5_3 hv H locs ls hP hS hl
  refine lv_iload hx hb dX8_isPeak_5 (lv_at hl 0 rfl) ?_
  refine lv_bipush (v := z_i 8) hx hb dX8_isPeak_7 (by decide) ?_
  refine lx_icmp_ge (tgt := 54) hx hb dX8_isPeak_9 (by decide) h_x5_4 (show z_in 8 from ⟨by decide, by decide⟩) (fun hc => ?_) (fun hc => ?_)
  · have hv := hv.1 hc
    refine lv_iload_n hx hb dX8_isPeak_54 rfl (lv_at hl 1 rfl) ?_
    obtain ⟨hb1, hv⟩ := hv
    exact W.zret (v := z_i x5_3) hx hb hr (z_narZ hb1) (fun t ht hW => ⟨⟨z_i x5_3, (), rfl, ⟨x5_3, rfl, h_x5_3, hv⟩, trivial⟩, hS.F ht⟩) hS.2.2 dX8_isPeak_55
  · have hv := hv.2 hc
    refine lv_aload_n hx hb dX8_isPeak_12 rfl (lv_at hl 2 rfl) ?_
    refine lv_iload_n hx hb dX8_isPeak_13 rfl (lv_at hl 3 rfl) ?_
    refine lv_iload_n hx hb dX8_isPeak_14 rfl (lv_at hl 4 rfl) ?_
    refine lv_iload hx hb dX8_isPeak_15 (lv_at hl 0 rfl) ?_
    obtain ⟨hp2, hv⟩ := hv
    obtain ⟨hp3, hv⟩ := hv
    obtain ⟨hp4, hv⟩ := hv
    refine va_calli (va_runV (As := [.int (z_i gi), .int (z_i n), .int (z_i x5_4)]) (rest := []) ⟨hx, hb, hml, hown, hts⟩ (mt_X8_neighbour l D cA y y_space y_offset y_length ya_units ya_isThere y_isThere y_levels y_level y_lines y_lineLevel y_lineUnits y_lineFrom y_lineMany y_isClosed y_insides y_parent y_isHigh y_inBits y_sides y_side y_sideA y_sideB y_lineSpace y_wasThere y_leads y_isLed y_isOn y_goesTo y_stream y_filled y_isDone y_isReached y_newUnits y_isNew gi n x5_4 h_y_levels h_y_lines h_y_sides h_y_lineSpace h_gi h_n h_x5_4 hp2 hp3 hp4) (cwV 3 hts gX8_isPeak_X8_neighbour rfl rfl rfl (by decide +kernel) ⟨Nat.le_of_ble_eq_true rfl, Nat.le_of_ble_eq_true rfl⟩) ⟨z_bl0, va_recv hK hP (ci := 6) (q0 := 0) rfl rfl, fun U hU hW => ⟨rfl, z_b0 hK (hP.sub (ws' := [(y, .inr (6, [.ref y_space, .ref y_offset, .ref y_length, .ref ya_units, .ref ya_isThere, .int (z_i y_levels), .ref y_level, .int (z_i y_lines), .ref y_lineLevel, .ref y_lineUnits, .ref y_lineFrom, .ref y_lineMany, .ref y_isClosed, .ref y_insides, .ref y_parent, .ref y_isHigh, .ref y_inBits, .int (z_i y_sides), .ref y_side, .ref y_sideA, .ref y_sideB, .int (z_i y_lineSpace), .ref y_wasThere, .ref y_leads, .ref y_isLed, .ref y_isOn, .ref y_goesTo, .ref y_stream, .ref y_filled, .ref y_isDone, .ref y_isReached, .ref y_newUnits, .ref y_isNew])), (ya_isThere, .inl (cA 3, 5120, .inl y_isThere))]) [0, 2] rfl) hU hW⟩⟩ rfl rfl hl.1 rfl (lv_room (Nat.le_of_ble_eq_true rfl)) dX8_isPeak_17 ⟨Nat.zero_le _, Nat.zero_le _⟩) hS (fun q _ h => h.elim) (fun q h => h.elim) (fun r0 u t H locs ht hvm hw hB hz1 hk1 hS => ?_)
    obtain ⟨r5, rfl, h_r5, hw⟩ := hw
    have hP := z_P_all hP hk1
    have hv := hv r5 h_r5 hw
    refine lv_istore (lv' := [(5, .int (z_i r5)), (4, .int (z_i x5_4)), (3, .int (z_i x5_3)), (0, .ref y), (1, .int (z_i gi)), (2, .int (z_i n))]) hx hb dX8_isPeak_20 hl (by decide) rfl (fun ls hl => ?_)
    refine lv_iload_n hx hb dX8_isPeak_22 rfl (lv_at hl 2 rfl) ?_
    refine lx_if_eq (tgt := 46) hx hb dX8_isPeak_23 (by decide) h_x5_3 (fun hc => ?_) (fun hc => ?_)
    · have hv := hv.1 hc
      refine lv_iconst (v := z_i 0) hx hb dX8_isPeak_46 rfl ?_
      refine lv_istore_n (lv' := [(3, .int (z_i 0)), (5, .int (z_i r5)), (4, .int (z_i x5_4)), (0, .ref y), (1, .int (z_i gi)), (2, .int (z_i n))]) hx hb dX8_isPeak_47 rfl hl (by decide) rfl (fun ls hl => ?_)
      refine lv_iinc (v := z_i (x5_4 + 1)) (lv' := [(4, .int (z_i (x5_4 + 1))), (3, .int (z_i 0)), (5, .int (z_i r5)), (0, .ref y), (1, .int (z_i gi)), (2, .int (z_i n))]) hx hb dX8_isPeak_48 hl (k := 2) rfl (z_i_add _ _) (by decide) rfl (fun ls hl => ?_)
      refine lv_goto (tgt := 5) hx hb dX8_isPeak_51 (by decide) ?_
      exact hv _ _ ls hP hS (lv_sub hl [0, 1, 3, 4, 5] rfl)
    · have hv := hv.2 hc
      refine lv_iload hx hb dX8_isPeak_26 (lv_at hl 0 rfl) ?_
      refine lx_if_lt (tgt := 42) hx hb dX8_isPeak_28 (by decide) h_r5 (fun hc => ?_) (fun hc => ?_)
      · have hv := hv.1 hc
        refine lv_iconst (v := z_i 1) hx hb dX8_isPeak_42 rfl ?_
        refine lv_goto (tgt := 47) hx hb dX8_isPeak_43 (by decide) ?_
        refine lv_istore_n (lv' := [(3, .int (z_i 1)), (5, .int (z_i r5)), (4, .int (z_i x5_4)), (0, .ref y), (1, .int (z_i gi)), (2, .int (z_i n))]) hx hb dX8_isPeak_47 rfl hl (by decide) rfl (fun ls hl => ?_)
        refine lv_iinc (v := z_i (x5_4 + 1)) (lv' := [(4, .int (z_i (x5_4 + 1))), (3, .int (z_i 1)), (5, .int (z_i r5)), (0, .ref y), (1, .int (z_i gi)), (2, .int (z_i n))]) hx hb dX8_isPeak_48 hl (k := 2) rfl (z_i_add _ _) (by decide) rfl (fun ls hl => ?_)
        refine lv_goto (tgt := 5) hx hb dX8_isPeak_51 (by decide) ?_
        exact hv _ _ ls hP hS (lv_sub hl [0, 1, 3, 4, 5] rfl)
      · have hv := hv.2 hc
        refine lv_aload_n hx hb dX8_isPeak_31 rfl (lv_at hl 3 rfl) ?_
        refine lv_iload_n hx hb dX8_isPeak_32 rfl (lv_at hl 4 rfl) ?_
        refine lv_iload hx hb dX8_isPeak_33 (lv_at hl 0 rfl) ?_
        refine lv_iload_n hx hb dX8_isPeak_35 rfl (lv_at hl 5 rfl) ?_
        obtain ⟨hp6, hv⟩ := hv
        obtain ⟨hp7, hv⟩ := hv
        obtain ⟨hp8, hv⟩ := hv
        refine va_calli (va_runV (As := [.int (z_i gi), .int (z_i r5), .int (z_i n)]) (rest := []) ⟨hx, hb, hml, hown, hts⟩ (mt_X8_isAbove l D cA y y_space y_offset y_length ya_units y_units ya_isThere y_levels y_level y_lines y_lineLevel y_lineUnits y_lineFrom y_lineMany y_isClosed y_insides y_parent y_isHigh y_inBits y_sides y_side y_sideA y_sideB y_lineSpace y_wasThere y_leads y_isLed y_isOn y_goesTo y_stream y_filled y_isDone y_isReached y_newUnits y_isNew gi r5 n h_y_levels h_y_lines h_y_sides h_y_lineSpace h_gi h_r5 h_n hp6 hp7 hp8) (cwV 3 hts gX8_isPeak_X8_isAbove rfl rfl rfl (by decide +kernel) ⟨Nat.le_of_ble_eq_true rfl, Nat.le_of_ble_eq_true rfl⟩) ⟨z_bl0, va_recv hK hP (ci := 6) (q0 := 0) rfl rfl, fun U hU hW => ⟨rfl, z_b0 hK (hP.sub (ws' := [(y, .inr (6, [.ref y_space, .ref y_offset, .ref y_length, .ref ya_units, .ref ya_isThere, .int (z_i y_levels), .ref y_level, .int (z_i y_lines), .ref y_lineLevel, .ref y_lineUnits, .ref y_lineFrom, .ref y_lineMany, .ref y_isClosed, .ref y_insides, .ref y_parent, .ref y_isHigh, .ref y_inBits, .int (z_i y_sides), .ref y_side, .ref y_sideA, .ref y_sideB, .int (z_i y_lineSpace), .ref y_wasThere, .ref y_leads, .ref y_isLed, .ref y_isOn, .ref y_goesTo, .ref y_stream, .ref y_filled, .ref y_isDone, .ref y_isReached, .ref y_newUnits, .ref y_isNew])), (ya_units, .inl (cA 1, 5120, .inl y_units))]) [0, 1] rfl) hU hW⟩⟩ rfl rfl hl.1 rfl (lv_room (Nat.le_of_ble_eq_true rfl)) dX8_isPeak_36 ⟨Nat.zero_le _, Nat.zero_le _⟩) hS (fun q _ h => h.elim) (fun q h => h.elim) (fun r0 u t H locs ht hvm hw hB hz1 hk1 hS => ?_)
        obtain ⟨r9, rfl, h_r9, hw⟩ := hw
        have hP := z_P_all hP hk1
        have hv := hv r9 h_r9 hw
        refine lx_if_ne (tgt := 46) hx hb dX8_isPeak_39 (by decide) h_r9 (fun hc => ?_) (fun hc => ?_)
        · have hv := hv.1 hc
          refine lv_iconst (v := z_i 0) hx hb dX8_isPeak_46 rfl ?_
          refine lv_istore_n (lv' := [(3, .int (z_i 0)), (5, .int (z_i r5)), (4, .int (z_i x5_4)), (0, .ref y), (1, .int (z_i gi)), (2, .int (z_i n))]) hx hb dX8_isPeak_47 rfl hl (by decide) rfl (fun ls hl => ?_)
          refine lv_iinc (v := z_i (x5_4 + 1)) (lv' := [(4, .int (z_i (x5_4 + 1))), (3, .int (z_i 0)), (5, .int (z_i r5)), (0, .ref y), (1, .int (z_i gi)), (2, .int (z_i n))]) hx hb dX8_isPeak_48 hl (k := 2) rfl (z_i_add _ _) (by decide) rfl (fun ls hl => ?_)
          refine lv_goto (tgt := 5) hx hb dX8_isPeak_51 (by decide) ?_
          exact hv _ _ ls hP hS (lv_sub hl [0, 1, 3, 4, 5] rfl)
        · have hv := hv.2 hc
          refine lv_iconst (v := z_i 1) hx hb dX8_isPeak_42 rfl ?_
          refine lv_goto (tgt := 47) hx hb dX8_isPeak_43 (by decide) ?_
          refine lv_istore_n (lv' := [(3, .int (z_i 1)), (5, .int (z_i r5)), (4, .int (z_i x5_4)), (0, .ref y), (1, .int (z_i gi)), (2, .int (z_i n))]) hx hb dX8_isPeak_47 rfl hl (by decide) rfl (fun ls hl => ?_)
          refine lv_iinc (v := z_i (x5_4 + 1)) (lv' := [(4, .int (z_i (x5_4 + 1))), (3, .int (z_i 1)), (5, .int (z_i r5)), (0, .ref y), (1, .int (z_i gi)), (2, .int (z_i n))]) hx hb dX8_isPeak_48 hl (k := 2) rfl (z_i_add _ _) (by decide) rfl (fun ls hl => ?_)
          refine lv_goto (tgt := 5) hx hb dX8_isPeak_51 (by decide) ?_
          exact hv _ _ ls hP hS (lv_sub hl [0, 1, 3, 4, 5] rfl)
set_option maxHeartbeats 4000000 in
set_option maxRecDepth 100000 in
theorem mt_X8_isPeak (l : Launch) (D : va_G) (cA : Nat → ClassId) (y : Nat) (y_space : Nat) (y_offset : Nat) (y_length : Nat) (ya_units : Nat) (y_units : Nat → Int32) (ya_isThere : Nat) (y_isThere : Nat → Int32) (y_levels : Int) (y_level : Nat) (y_lines : Int) (y_lineLevel : Nat) (y_lineUnits : Nat) (y_lineFrom : Nat) (y_lineMany : Nat) (y_isClosed : Nat) (y_insides : Nat) (y_parent : Nat) (y_isHigh : Nat) (y_inBits : Nat) (y_sides : Int) (y_side : Nat) (y_sideA : Nat) (y_sideB : Nat) (y_lineSpace : Int) (y_wasThere : Nat) (y_leads : Nat) (y_isLed : Nat) (y_isOn : Nat) (y_goesTo : Nat) (y_stream : Nat) (y_filled : Nat) (y_isDone : Nat) (y_isReached : Nat) (y_newUnits : Nat) (y_isNew : Nat) (gi : Int) (n : Int) (h_y_levels : z_in y_levels) (h_y_lines : z_in y_lines) (h_y_sides : z_in y_sides) (h_y_lineSpace : z_in y_lineSpace) (h_gi : z_in gi) (h_n : z_in n) (hp1 : 0 ≤ gi ∧ gi < 4) (hp2 : q_bd y_units) (hp3 : q_th y_isThere gi n = true) : Met l yX8_isPeak wsX8_isPeak ({ frames := 3, cells := 0, slots := 0, locals := 70 } : Room) (va_Pc [.ref y, .int (z_i gi), .int (z_i n)] (z_B0 D cA [(y, .inr (6, [.ref y_space, .ref y_offset, .ref y_length, .ref ya_units, .ref ya_isThere, .int (z_i y_levels), .ref y_level, .int (z_i y_lines), .ref y_lineLevel, .ref y_lineUnits, .ref y_lineFrom, .ref y_lineMany, .ref y_isClosed, .ref y_insides, .ref y_parent, .ref y_isHigh, .ref y_inBits, .int (z_i y_sides), .ref y_side, .ref y_sideA, .ref y_sideB, .int (z_i y_lineSpace), .ref y_wasThere, .ref y_leads, .ref y_isLed, .ref y_isOn, .ref y_goesTo, .ref y_stream, .ref y_filled, .ref y_isDone, .ref y_isReached, .ref y_newUnits, .ref y_isNew])), (ya_units, .inl (cA 1, 5120, .inl y_units)), (ya_isThere, .inl (cA 3, 5120, .inl y_isThere))])) (va_Qi (z_ri (fun (r : Int) => r = z_b (decide (m_wa (q_th y_isThere gi) (q_at y_units y_isThere gi) n = 0)))) (fun _ _ => True) (fun _ => False)) 0 0 (fun _ => False) := by
  refine wk_X8_isPeak l D cA y y_space y_offset y_length ya_units y_units ya_isThere y_isThere y_levels y_level y_lines y_lineLevel y_lineUnits y_lineFrom y_lineMany y_isClosed y_insides y_parent y_isHigh y_inBits y_sides y_side y_sideA y_sideB y_lineSpace y_wasThere y_leads y_isLed y_isOn y_goesTo y_stream y_filled y_isDone y_isReached y_newUnits y_isNew gi n h_y_levels h_y_lines h_y_sides h_y_lineSpace h_gi h_n (fun (r : Int) => r = z_b (decide (m_wa (q_th y_isThere gi) (q_at y_units y_isThere gi) n = 0))) ?_
  unfold vc_X8_isPeak
  have hn := q_th_in hp3
  intro L hL
  suffices H : ∀ (d k : Nat), k + d = 8 → L (k : Int) (z_b (decide (m_waK (q_th y_isThere gi) (q_at y_units y_isThere gi) n k = 0))) from H 8 0 rfl
  intro d
  induction d with
  | zero =>
    intro k hk
    obtain rfl : k = 8 := by omega
    exact hL _ _ ⟨by omega, by omega⟩ (z_b_in _) ⟨fun _ => ⟨z_b_01 _, rfl⟩, fun h => absurd h (by omega)⟩
  | succ d ih =>
    intro k hk
    refine hL _ _ ⟨by omega, by omega⟩ (z_b_in _) ⟨fun h => absurd h (by omega), fun h => ⟨hp1, hn, ⟨by omega, h⟩, ?_⟩⟩
    have h9 := ih (k + 1) (by omega)
    rw [m_waK_s] at h9
    have wb := m_waK_b (q_th y_isThere gi) (q_at y_units y_isThere gi) n k
    have hp : (0 : Int) < 2 ^ k := Int.pow_pos (by decide)
    have hm := m_nb_in (q_th y_isThere gi) n k
    have hth := @m_nb_th (q_th y_isThere gi) n k
    rintro r5 _ h5
    rw [← h5] at hm hth h9
    refine ⟨fun q => ?_, fun q => ⟨fun q1 => ?_, fun q1 => ⟨hp1, ⟨q1, hm.2⟩, hn, ?_⟩⟩⟩
    · have q := of_decide_eq_false (zb_f q)
      rw [decide_eq_false (by split <;> omega)] at h9; exact h9
    · have q := of_decide_eq_true (zb_t q)
      rw [if_neg (fun h => h.1 (by omega)), q] at h9; exact h9
    · have q := of_decide_eq_true (zb_t q)
      rw [m_ab_q (hth (by omega)).1 hp3]
      rintro r9 _ rfl
      refine ⟨fun q2 => ?_, fun q2 => ?_⟩
      · rw [if_pos ⟨by omega, zb_t q2⟩, decide_eq_false (by omega)] at h9; exact h9
      · rw [if_neg (fun h => by rw [zb_f q2] at h; exact absurd h.2 (by decide)), q] at h9; exact h9
def vc_X8_kindOf (y_units : Nat → Int32) (y_isThere : Nat → Int32) (gi : Int) (n : Int) (Q : Int → Prop) : Prop :=
(0 ≤ gi ∧ gi < 4) ∧ (0 ≤ n ∧ n < 1280) ∧ (∀ (r3 : Int), z_in r3 → (r3 = m_nc (q_th y_isThere gi) n) → ((r3 ≥ 8 → (∀ L21 : Int → Int → Int → Prop,
(∀ (x21_5 : Int) (x21_4 : Int) (x21_3 : Int), z_in x21_5 → z_in x21_4 → z_in x21_3 → ((x21_5 ≥ 8 → ((x21_3 ≠ 0 → ((x21_3 ≠ 8 → ((x21_4 < 4 → Q 0) ∧
(x21_4 ≥ 4 → Q 3))) ∧
(x21_3 = 8 → Q 2))) ∧
(x21_3 = 0 → Q 1))) ∧
(x21_5 < 8 → (0 ≤ gi ∧ gi < 4) ∧ (0 ≤ n ∧ n < 1280) ∧ (0 ≤ x21_5 ∧ x21_5 < 8) ∧ (∀ (r7 : Int), z_in r7 → (r7 = m_nb (q_th y_isThere gi) n x21_5) → (0 ≤ gi ∧ gi < 4) ∧ (0 ≤ r7 ∧ r7 < 1280) ∧ (0 ≤ n ∧ n < 1280) ∧ (∀ (r11 : Int), z_in r11 → (r11 = z_b (m_ab (fun q => z_g y_units (1280 * gi + q)) r7 n)) → ((r11 = 0 → z_in (x21_5 + 1) ∧ z_in ((x21_5 + 1).tmod 8) ∧ (0 ≤ gi ∧ gi < 4) ∧ (0 ≤ n ∧ n < 1280) ∧ (0 ≤ ((x21_5 + 1).tmod 8) ∧ ((x21_5 + 1).tmod 8) < 8) ∧ (∀ (r17 : Int), z_in r17 → (r17 = m_nb (q_th y_isThere gi) n ((x21_5 + 1).tmod 8)) → (0 ≤ gi ∧ gi < 4) ∧ (0 ≤ r17 ∧ r17 < 1280) ∧ (0 ≤ n ∧ n < 1280) ∧ (∀ (r21 : Int), z_in r21 → (r21 = z_b (m_ab (fun q => z_g y_units (1280 * gi + q)) r17 n)) → ((r11 = r21 → L21 (x21_5 + 1) (x21_4 + 0) (x21_3 + 0)) ∧
(r11 ≠ r21 → L21 (x21_5 + 1) (x21_4 + 1) (x21_3 + 0)))))) ∧
(r11 ≠ 0 → z_in (x21_5 + 1) ∧ z_in ((x21_5 + 1).tmod 8) ∧ (0 ≤ gi ∧ gi < 4) ∧ (0 ≤ n ∧ n < 1280) ∧ (0 ≤ ((x21_5 + 1).tmod 8) ∧ ((x21_5 + 1).tmod 8) < 8) ∧ (∀ (r27 : Int), z_in r27 → (r27 = m_nb (q_th y_isThere gi) n ((x21_5 + 1).tmod 8)) → (0 ≤ gi ∧ gi < 4) ∧ (0 ≤ r27 ∧ r27 < 1280) ∧ (0 ≤ n ∧ n < 1280) ∧ (∀ (r31 : Int), z_in r31 → (r31 = z_b (m_ab (fun q => z_g y_units (1280 * gi + q)) r27 n)) → ((r11 = r31 → L21 (x21_5 + 1) (x21_4 + 0) (x21_3 + 1)) ∧
(r11 ≠ r31 → L21 (x21_5 + 1) (x21_4 + 1) (x21_3 + 1))))))))))) → L21 x21_5 x21_4 x21_3) →
L21 0 0 0)) ∧
(r3 < 8 → Q 0)))
set_option maxHeartbeats 4000000 in
set_option maxRecDepth 100000 in
theorem wk_X8_kindOf (l : Launch) (D : va_G) (cA : Nat → ClassId) (y : Nat) (y_space : Nat) (y_offset : Nat) (y_length : Nat) (ya_units : Nat) (y_units : Nat → Int32) (ya_isThere : Nat) (y_isThere : Nat → Int32) (y_levels : Int) (y_level : Nat) (y_lines : Int) (y_lineLevel : Nat) (y_lineUnits : Nat) (y_lineFrom : Nat) (y_lineMany : Nat) (y_isClosed : Nat) (y_insides : Nat) (y_parent : Nat) (y_isHigh : Nat) (y_inBits : Nat) (y_sides : Int) (y_side : Nat) (y_sideA : Nat) (y_sideB : Nat) (y_lineSpace : Int) (y_wasThere : Nat) (y_leads : Nat) (y_isLed : Nat) (y_isOn : Nat) (y_goesTo : Nat) (y_stream : Nat) (y_filled : Nat) (y_isDone : Nat) (y_isReached : Nat) (y_newUnits : Nat) (y_isNew : Nat) (gi : Int) (n : Int) (h_y_levels : z_in y_levels) (h_y_lines : z_in y_lines) (h_y_sides : z_in y_sides) (h_y_lineSpace : z_in y_lineSpace) (h_gi : z_in gi) (h_n : z_in n) (Q : Int → Prop) (hv : vc_X8_kindOf y_units y_isThere gi n Q) : Met l yX8_kindOf wsX8_kindOf ({ frames := 4, cells := 0, slots := 0, locals := 94 } : Room) (va_Pc [.ref y, .int (z_i gi), .int (z_i n)] (z_B0 D cA [(y, .inr (6, [.ref y_space, .ref y_offset, .ref y_length, .ref ya_units, .ref ya_isThere, .int (z_i y_levels), .ref y_level, .int (z_i y_lines), .ref y_lineLevel, .ref y_lineUnits, .ref y_lineFrom, .ref y_lineMany, .ref y_isClosed, .ref y_insides, .ref y_parent, .ref y_isHigh, .ref y_inBits, .int (z_i y_sides), .ref y_side, .ref y_sideA, .ref y_sideB, .int (z_i y_lineSpace), .ref y_wasThere, .ref y_leads, .ref y_isLed, .ref y_isOn, .ref y_goesTo, .ref y_stream, .ref y_filled, .ref y_isDone, .ref y_isReached, .ref y_newUnits, .ref y_isNew])), (ya_units, .inl (cA 1, 5120, .inl y_units)), (ya_isThere, .inl (cA 3, 5120, .inl y_isThere))])) (va_Qi (z_ri Q) (fun _ _ => True) (fun _ => False)) 0 0 (fun _ => False) := by
  unfold vc_X8_kindOf at hv
  refine Met.ofW (cc := cX8_kindOf) (maxL := 7) (ret := (some .int)) (by decide +kernel) rfl ?_
  intro p e s m args below meth c s₁ B hml hv0
  obtain ⟨rfl, hK, hP⟩ := hv0
  have hx := B.exec
  have hb := B.bytes
  have hr := B.returns
  have hts := atoms_spec (ws := wsX8_kindOf) B.pre
  have hown : s.vm.findClass RX8 = some m.cls := findClass_of_methodNamed B.named
  have hlocks := B.notSynchronized
  have hS : va_S (fun _ : Nat => False) s.heap s.heap [] := va_S.rf
  have hl := lv_entry ([.ref y, .int (z_i gi), .int (z_i n)]) (n := 7) (Nat.le_of_ble_eq_true rfl)
  rw [lg_entry_eq]
  generalize (lg_sl ([.ref y, .int (z_i gi), .int (z_i n)]) ++ List.replicate (7 - (lg_sl ([.ref y, .int (z_i gi), .int (z_i n)])).length) Slot.unset).toArray = ls at hl ⊢
  have hl : lv_has ls 7 [(0, .ref y), (1, .int (z_i gi)), (2, .int (z_i n))] := hl
  refine lv_aload_n hx hb dX8_kindOf_0 rfl (lv_at hl 0 rfl) ?_
  refine lv_iload_n hx hb dX8_kindOf_1 rfl (lv_at hl 1 rfl) ?_
  refine lv_iload_n hx hb dX8_kindOf_2 rfl (lv_at hl 2 rfl) ?_
  obtain ⟨hp1, hv⟩ := hv
  obtain ⟨hp2, hv⟩ := hv
  refine va_calli (va_runV (As := [.int (z_i gi), .int (z_i n)]) (rest := []) ⟨hx, hb, hml, hown, hts⟩ (mt_X8_neighbours l D cA y y_space y_offset y_length ya_units ya_isThere y_isThere y_levels y_level y_lines y_lineLevel y_lineUnits y_lineFrom y_lineMany y_isClosed y_insides y_parent y_isHigh y_inBits y_sides y_side y_sideA y_sideB y_lineSpace y_wasThere y_leads y_isLed y_isOn y_goesTo y_stream y_filled y_isDone y_isReached y_newUnits y_isNew gi n h_y_levels h_y_lines h_y_sides h_y_lineSpace h_gi h_n hp1 hp2) (cwV 2 hts gX8_kindOf_X8_neighbours rfl rfl rfl (by decide +kernel) ⟨Nat.le_of_ble_eq_true rfl, Nat.le_of_ble_eq_true rfl⟩) ⟨z_bl0, va_recv hK hP (ci := 6) (q0 := 0) rfl rfl, fun U hU hW => ⟨rfl, z_b0 hK (hP.sub (ws' := [(y, .inr (6, [.ref y_space, .ref y_offset, .ref y_length, .ref ya_units, .ref ya_isThere, .int (z_i y_levels), .ref y_level, .int (z_i y_lines), .ref y_lineLevel, .ref y_lineUnits, .ref y_lineFrom, .ref y_lineMany, .ref y_isClosed, .ref y_insides, .ref y_parent, .ref y_isHigh, .ref y_inBits, .int (z_i y_sides), .ref y_side, .ref y_sideA, .ref y_sideB, .int (z_i y_lineSpace), .ref y_wasThere, .ref y_leads, .ref y_isLed, .ref y_isOn, .ref y_goesTo, .ref y_stream, .ref y_filled, .ref y_isDone, .ref y_isReached, .ref y_newUnits, .ref y_isNew])), (ya_isThere, .inl (cA 3, 5120, .inl y_isThere))]) [0, 2] rfl) hU hW⟩⟩ rfl rfl hl.1 rfl (lv_room (Nat.le_of_ble_eq_true rfl)) dX8_kindOf_3 ⟨Nat.zero_le _, Nat.zero_le _⟩) hS (fun q _ h => h.elim) (fun q h => h.elim) (fun r0 u t H locs ht hvm hw hB hz1 hk1 hS => ?_)
  obtain ⟨r3, rfl, h_r3, hw⟩ := hw
  have hP := z_P_all hP hk1
  have hv := hv r3 h_r3 hw
  refine lv_bipush (v := z_i 8) hx hb dX8_kindOf_6 (by decide) ?_
  refine lx_icmp_ge (tgt := 13) hx hb dX8_kindOf_8 (by decide) h_r3 (show z_in 8 from ⟨by decide, by decide⟩) (fun hc => ?_) (fun hc => ?_)
  · have hv := hv.1 hc
    refine lv_iconst (v := z_i 0) hx hb dX8_kindOf_13 rfl ?_
    refine lv_istore_n (lv' := [(3, .int (z_i 0)), (0, .ref y), (1, .int (z_i gi)), (2, .int (z_i n))]) hx hb dX8_kindOf_14 rfl hl (by decide) rfl (fun ls hl => ?_)
    refine lv_iconst (v := z_i 0) hx hb dX8_kindOf_15 rfl ?_
    refine lv_istore (lv' := [(4, .int (z_i 0)), (3, .int (z_i 0)), (0, .ref y), (1, .int (z_i gi)), (2, .int (z_i n))]) hx hb dX8_kindOf_16 hl (by decide) rfl (fun ls hl => ?_)
    refine lv_iconst (v := z_i 0) hx hb dX8_kindOf_18 rfl ?_
    refine lv_istore (lv' := [(5, .int (z_i 0)), (4, .int (z_i 0)), (3, .int (z_i 0)), (0, .ref y), (1, .int (z_i gi)), (2, .int (z_i n))]) hx hb dX8_kindOf_19 hl (by decide) rfl (fun ls hl => ?_)
    refine hv (fun (x21_5 : Int) (x21_4 : Int) (x21_3 : Int) => ∀ (H : Heap) (locs : List Loc) (ls : Array Slot), va_P D vwCl [(y, .inr (6, [.ref y_space, .ref y_offset, .ref y_length, .ref ya_units, .ref ya_isThere, .int (z_i y_levels), .ref y_level, .int (z_i y_lines), .ref y_lineLevel, .ref y_lineUnits, .ref y_lineFrom, .ref y_lineMany, .ref y_isClosed, .ref y_insides, .ref y_parent, .ref y_isHigh, .ref y_inBits, .int (z_i y_sides), .ref y_side, .ref y_sideA, .ref y_sideB, .int (z_i y_lineSpace), .ref y_wasThere, .ref y_leads, .ref y_isLed, .ref y_isOn, .ref y_goesTo, .ref y_stream, .ref y_filled, .ref y_isDone, .ref y_isReached, .ref y_newUnits, .ref y_isNew])), (ya_units, .inl (cA 1, 5120, .inl y_units)), (ya_isThere, .inl (cA 3, 5120, .inl y_isThere))] H → va_S (fun _ : Nat => False) s.heap H locs → lv_has ls 7 [(5, .int (z_i x21_5)), (4, .int (z_i x21_4)), (3, .int (z_i x21_3)), (0, .ref y), (1, .int (z_i gi)), (2, .int (z_i n))] → W p l e _ s m _ below meth c H locs 0 0 _ (F0 m 21 ls [])) ?_ _ _ ls hP hS (lv_sub hl [0, 1, 2, 3, 4, 5] rfl)
    intro x21_5 x21_4 x21_3 h_x21_5 h_x21_4 h_x21_3 hv H locs ls hP hS hl
    refine lv_iload hx hb dX8_kindOf_21 (lv_at hl 0 rfl) ?_
    refine lv_bipush (v := z_i 8) hx hb dX8_kindOf_23 (by decide) ?_
    refine lx_icmp_ge (tgt := 97) hx hb dX8_kindOf_25 (by decide) h_x21_5 (show z_in 8 from ⟨by decide, by decide⟩) (fun hc => ?_) (fun hc => ?_)
    · have hv := hv.1 hc
      refine lv_iload_n hx hb dX8_kindOf_97 rfl (lv_at hl 2 rfl) ?_
      refine lx_if_ne (tgt := 105) hx hb dX8_kindOf_98 (by decide) h_x21_3 (fun hc => ?_) (fun hc => ?_)
      · have hv := hv.1 hc
        refine lv_iload_n hx hb dX8_kindOf_105 rfl (lv_at hl 2 rfl) ?_
        refine lv_bipush (v := z_i 8) hx hb dX8_kindOf_106 (by decide) ?_
        refine lx_icmp_ne (tgt := 115) hx hb dX8_kindOf_108 (by decide) h_x21_3 (show z_in 8 from ⟨by decide, by decide⟩) (fun hc => ?_) (fun hc => ?_)
        · have hv := hv.1 hc
          refine lv_iload hx hb dX8_kindOf_115 (lv_at hl 1 rfl) ?_
          refine lv_iconst (v := z_i 4) hx hb dX8_kindOf_117 rfl ?_
          refine lx_icmp_lt (tgt := 125) hx hb dX8_kindOf_118 (by decide) h_x21_4 (show z_in 4 from ⟨by decide, by decide⟩) (fun hc => ?_) (fun hc => ?_)
          · have hv := hv.1 hc
            refine lv_iconst (v := z_i 0) hx hb dX8_kindOf_125 rfl ?_
            exact W.iret (v := z_i 0) hx hb hr (fun t ht hW => ⟨⟨z_i 0, (), rfl, ⟨0, rfl, (show z_in 0 from ⟨by decide, by decide⟩), hv⟩, trivial⟩, hS.F ht⟩) hS.2.2 dX8_kindOf_126
          · have hv := hv.2 hc
            refine lv_iconst (v := z_i 3) hx hb dX8_kindOf_121 rfl ?_
            refine lv_goto (tgt := 126) hx hb dX8_kindOf_122 (by decide) ?_
            exact W.iret (v := z_i 3) hx hb hr (fun t ht hW => ⟨⟨z_i 3, (), rfl, ⟨3, rfl, (show z_in 3 from ⟨by decide, by decide⟩), hv⟩, trivial⟩, hS.F ht⟩) hS.2.2 dX8_kindOf_126
        · have hv := hv.2 hc
          refine lv_iconst (v := z_i 2) hx hb dX8_kindOf_111 rfl ?_
          refine lv_goto (tgt := 126) hx hb dX8_kindOf_112 (by decide) ?_
          exact W.iret (v := z_i 2) hx hb hr (fun t ht hW => ⟨⟨z_i 2, (), rfl, ⟨2, rfl, (show z_in 2 from ⟨by decide, by decide⟩), hv⟩, trivial⟩, hS.F ht⟩) hS.2.2 dX8_kindOf_126
      · have hv := hv.2 hc
        refine lv_iconst (v := z_i 1) hx hb dX8_kindOf_101 rfl ?_
        refine lv_goto (tgt := 126) hx hb dX8_kindOf_102 (by decide) ?_
        exact W.iret (v := z_i 1) hx hb hr (fun t ht hW => ⟨⟨z_i 1, (), rfl, ⟨1, rfl, (show z_in 1 from ⟨by decide, by decide⟩), hv⟩, trivial⟩, hS.F ht⟩) hS.2.2 dX8_kindOf_126
    · have hv := hv.2 hc
      refine lv_aload_n hx hb dX8_kindOf_28 rfl (lv_at hl 3 rfl) ?_
      refine lv_iload_n hx hb dX8_kindOf_29 rfl (lv_at hl 4 rfl) ?_
      refine lv_aload_n hx hb dX8_kindOf_30 rfl (lv_at hl 3 rfl) ?_
      refine lv_iload_n hx hb dX8_kindOf_31 rfl (lv_at hl 4 rfl) ?_
      refine lv_iload_n hx hb dX8_kindOf_32 rfl (lv_at hl 5 rfl) ?_
      refine lv_iload hx hb dX8_kindOf_33 (lv_at hl 0 rfl) ?_
      obtain ⟨hp4, hv⟩ := hv
      obtain ⟨hp5, hv⟩ := hv
      obtain ⟨hp6, hv⟩ := hv
      refine va_calli (va_runV (As := [.int (z_i gi), .int (z_i n), .int (z_i x21_5)]) (rest := [.int (z_i gi), .ref y]) ⟨hx, hb, hml, hown, hts⟩ (mt_X8_neighbour l D cA y y_space y_offset y_length ya_units ya_isThere y_isThere y_levels y_level y_lines y_lineLevel y_lineUnits y_lineFrom y_lineMany y_isClosed y_insides y_parent y_isHigh y_inBits y_sides y_side y_sideA y_sideB y_lineSpace y_wasThere y_leads y_isLed y_isOn y_goesTo y_stream y_filled y_isDone y_isReached y_newUnits y_isNew gi n x21_5 h_y_levels h_y_lines h_y_sides h_y_lineSpace h_gi h_n h_x21_5 hp4 hp5 hp6) (cwV 3 hts gX8_kindOf_X8_neighbour rfl rfl rfl (by decide +kernel) ⟨Nat.le_of_ble_eq_true rfl, Nat.le_of_ble_eq_true rfl⟩) ⟨z_bl0, va_recv hK hP (ci := 6) (q0 := 0) rfl rfl, fun U hU hW => ⟨rfl, z_b0 hK (hP.sub (ws' := [(y, .inr (6, [.ref y_space, .ref y_offset, .ref y_length, .ref ya_units, .ref ya_isThere, .int (z_i y_levels), .ref y_level, .int (z_i y_lines), .ref y_lineLevel, .ref y_lineUnits, .ref y_lineFrom, .ref y_lineMany, .ref y_isClosed, .ref y_insides, .ref y_parent, .ref y_isHigh, .ref y_inBits, .int (z_i y_sides), .ref y_side, .ref y_sideA, .ref y_sideB, .int (z_i y_lineSpace), .ref y_wasThere, .ref y_leads, .ref y_isLed, .ref y_isOn, .ref y_goesTo, .ref y_stream, .ref y_filled, .ref y_isDone, .ref y_isReached, .ref y_newUnits, .ref y_isNew])), (ya_isThere, .inl (cA 3, 5120, .inl y_isThere))]) [0, 2] rfl) hU hW⟩⟩ rfl rfl hl.1 rfl (lv_room (Nat.le_of_ble_eq_true rfl)) dX8_kindOf_35 ⟨Nat.zero_le _, Nat.zero_le _⟩) hS (fun q _ h => h.elim) (fun q h => h.elim) (fun r0 u t H locs ht hvm hw hB hz1 hk1 hS => ?_)
      obtain ⟨r7, rfl, h_r7, hw⟩ := hw
      have hP := z_P_all hP hk1
      have hv := hv r7 h_r7 hw
      refine lv_iload_n hx hb dX8_kindOf_38 rfl (lv_at hl 5 rfl) ?_
      obtain ⟨hp8, hv⟩ := hv
      obtain ⟨hp9, hv⟩ := hv
      obtain ⟨hp10, hv⟩ := hv
      refine va_calli (va_runV (As := [.int (z_i gi), .int (z_i r7), .int (z_i n)]) (rest := []) ⟨hx, hb, hml, hown, hts⟩ (mt_X8_isAbove l D cA y y_space y_offset y_length ya_units y_units ya_isThere y_levels y_level y_lines y_lineLevel y_lineUnits y_lineFrom y_lineMany y_isClosed y_insides y_parent y_isHigh y_inBits y_sides y_side y_sideA y_sideB y_lineSpace y_wasThere y_leads y_isLed y_isOn y_goesTo y_stream y_filled y_isDone y_isReached y_newUnits y_isNew gi r7 n h_y_levels h_y_lines h_y_sides h_y_lineSpace h_gi h_r7 h_n hp8 hp9 hp10) (cwV 3 hts gX8_kindOf_X8_isAbove rfl rfl rfl (by decide +kernel) ⟨Nat.le_of_ble_eq_true rfl, Nat.le_of_ble_eq_true rfl⟩) ⟨z_bl0, va_recv hK hP (ci := 6) (q0 := 0) rfl rfl, fun U hU hW => ⟨rfl, z_b0 hK (hP.sub (ws' := [(y, .inr (6, [.ref y_space, .ref y_offset, .ref y_length, .ref ya_units, .ref ya_isThere, .int (z_i y_levels), .ref y_level, .int (z_i y_lines), .ref y_lineLevel, .ref y_lineUnits, .ref y_lineFrom, .ref y_lineMany, .ref y_isClosed, .ref y_insides, .ref y_parent, .ref y_isHigh, .ref y_inBits, .int (z_i y_sides), .ref y_side, .ref y_sideA, .ref y_sideB, .int (z_i y_lineSpace), .ref y_wasThere, .ref y_leads, .ref y_isLed, .ref y_isOn, .ref y_goesTo, .ref y_stream, .ref y_filled, .ref y_isDone, .ref y_isReached, .ref y_newUnits, .ref y_isNew])), (ya_units, .inl (cA 1, 5120, .inl y_units))]) [0, 1] rfl) hU hW⟩⟩ rfl rfl hl.1 rfl (lv_room (Nat.le_of_ble_eq_true rfl)) dX8_kindOf_39 ⟨Nat.zero_le _, Nat.zero_le _⟩) hS (fun q _ h => h.elim) (fun q h => h.elim) (fun r0 u t H locs ht hvm hw hB hz1 hk1 hS => ?_)
      obtain ⟨r11, rfl, h_r11, hw⟩ := hw
      have hP := z_P_all hP hk1
      have hv := hv r11 h_r11 hw
      refine lv_istore (lv' := [(6, .int (z_i r11)), (5, .int (z_i x21_5)), (4, .int (z_i x21_4)), (3, .int (z_i x21_3)), (0, .ref y), (1, .int (z_i gi)), (2, .int (z_i n))]) hx hb dX8_kindOf_42 hl (by decide) rfl (fun ls hl => ?_)
      refine lv_iload_n hx hb dX8_kindOf_44 rfl (lv_at hl 3 rfl) ?_
      refine lv_iload hx hb dX8_kindOf_45 (lv_at hl 0 rfl) ?_
      refine lx_if_eq (tgt := 54) hx hb dX8_kindOf_47 (by decide) h_r11 (fun hc => ?_) (fun hc => ?_)
      · have hv := hv.1 hc
        refine lv_iconst (v := z_i 0) hx hb dX8_kindOf_54 rfl ?_
        refine lx_iadd hx hb dX8_kindOf_55 ?_
        refine lv_istore_n (lv' := [(3, .int (z_i (x21_3 + 0))), (6, .int (z_i r11)), (5, .int (z_i x21_5)), (4, .int (z_i x21_4)), (0, .ref y), (1, .int (z_i gi)), (2, .int (z_i n))]) hx hb dX8_kindOf_56 rfl hl (by decide) rfl (fun ls hl => ?_)
        refine lv_iload hx hb dX8_kindOf_57 (lv_at hl 3 rfl) ?_
        refine lv_iload hx hb dX8_kindOf_59 (lv_at hl 1 rfl) ?_
        refine lv_aload_n hx hb dX8_kindOf_61 rfl (lv_at hl 4 rfl) ?_
        refine lv_iload_n hx hb dX8_kindOf_62 rfl (lv_at hl 5 rfl) ?_
        refine lv_aload_n hx hb dX8_kindOf_63 rfl (lv_at hl 4 rfl) ?_
        refine lv_iload_n hx hb dX8_kindOf_64 rfl (lv_at hl 5 rfl) ?_
        refine lv_iload_n hx hb dX8_kindOf_65 rfl (lv_at hl 6 rfl) ?_
        refine lv_iload hx hb dX8_kindOf_66 (lv_at hl 2 rfl) ?_
        refine lv_iconst (v := z_i 1) hx hb dX8_kindOf_68 rfl ?_
        refine lx_iadd hx hb dX8_kindOf_69 ?_
        refine lv_bipush (v := z_i 8) hx hb dX8_kindOf_70 (by decide) ?_
        obtain ⟨hr12, hv⟩ := hv
        refine lx_irem hx hb dX8_kindOf_72 hr12 (show z_in 8 from ⟨by decide, by decide⟩) (by decide) ?_
        obtain ⟨hr13, hv⟩ := hv
        obtain ⟨hp14, hv⟩ := hv
        obtain ⟨hp15, hv⟩ := hv
        obtain ⟨hp16, hv⟩ := hv
        refine va_calli (va_runV (As := [.int (z_i gi), .int (z_i n), .int (z_i ((x21_5 + 1).tmod 8))]) (rest := [.int (z_i gi), .ref y, .int (z_i r11), .int (z_i x21_4)]) ⟨hx, hb, hml, hown, hts⟩ (mt_X8_neighbour l D cA y y_space y_offset y_length ya_units ya_isThere y_isThere y_levels y_level y_lines y_lineLevel y_lineUnits y_lineFrom y_lineMany y_isClosed y_insides y_parent y_isHigh y_inBits y_sides y_side y_sideA y_sideB y_lineSpace y_wasThere y_leads y_isLed y_isOn y_goesTo y_stream y_filled y_isDone y_isReached y_newUnits y_isNew gi n ((x21_5 + 1).tmod 8) h_y_levels h_y_lines h_y_sides h_y_lineSpace h_gi h_n hr13 hp14 hp15 hp16) (cwV 3 hts gX8_kindOf_X8_neighbour rfl rfl rfl (by decide +kernel) ⟨Nat.le_of_ble_eq_true rfl, Nat.le_of_ble_eq_true rfl⟩) ⟨z_bl0, va_recv hK hP (ci := 6) (q0 := 0) rfl rfl, fun U hU hW => ⟨rfl, z_b0 hK (hP.sub (ws' := [(y, .inr (6, [.ref y_space, .ref y_offset, .ref y_length, .ref ya_units, .ref ya_isThere, .int (z_i y_levels), .ref y_level, .int (z_i y_lines), .ref y_lineLevel, .ref y_lineUnits, .ref y_lineFrom, .ref y_lineMany, .ref y_isClosed, .ref y_insides, .ref y_parent, .ref y_isHigh, .ref y_inBits, .int (z_i y_sides), .ref y_side, .ref y_sideA, .ref y_sideB, .int (z_i y_lineSpace), .ref y_wasThere, .ref y_leads, .ref y_isLed, .ref y_isOn, .ref y_goesTo, .ref y_stream, .ref y_filled, .ref y_isDone, .ref y_isReached, .ref y_newUnits, .ref y_isNew])), (ya_isThere, .inl (cA 3, 5120, .inl y_isThere))]) [0, 2] rfl) hU hW⟩⟩ rfl rfl hl.1 rfl (lv_room (Nat.le_of_ble_eq_true rfl)) dX8_kindOf_73 ⟨Nat.zero_le _, Nat.zero_le _⟩) hS (fun q _ h => h.elim) (fun q h => h.elim) (fun r0 u t H locs ht hvm hw hB hz1 hk1 hS => ?_)
        obtain ⟨r17, rfl, h_r17, hw⟩ := hw
        have hP := z_P_all hP hk1
        have hv := hv r17 h_r17 hw
        refine lv_iload_n hx hb dX8_kindOf_76 rfl (lv_at hl 6 rfl) ?_
        obtain ⟨hp18, hv⟩ := hv
        obtain ⟨hp19, hv⟩ := hv
        obtain ⟨hp20, hv⟩ := hv
        refine va_calli (va_runV (As := [.int (z_i gi), .int (z_i r17), .int (z_i n)]) (rest := [.int (z_i r11), .int (z_i x21_4)]) ⟨hx, hb, hml, hown, hts⟩ (mt_X8_isAbove l D cA y y_space y_offset y_length ya_units y_units ya_isThere y_levels y_level y_lines y_lineLevel y_lineUnits y_lineFrom y_lineMany y_isClosed y_insides y_parent y_isHigh y_inBits y_sides y_side y_sideA y_sideB y_lineSpace y_wasThere y_leads y_isLed y_isOn y_goesTo y_stream y_filled y_isDone y_isReached y_newUnits y_isNew gi r17 n h_y_levels h_y_lines h_y_sides h_y_lineSpace h_gi h_r17 h_n hp18 hp19 hp20) (cwV 3 hts gX8_kindOf_X8_isAbove rfl rfl rfl (by decide +kernel) ⟨Nat.le_of_ble_eq_true rfl, Nat.le_of_ble_eq_true rfl⟩) ⟨z_bl0, va_recv hK hP (ci := 6) (q0 := 0) rfl rfl, fun U hU hW => ⟨rfl, z_b0 hK (hP.sub (ws' := [(y, .inr (6, [.ref y_space, .ref y_offset, .ref y_length, .ref ya_units, .ref ya_isThere, .int (z_i y_levels), .ref y_level, .int (z_i y_lines), .ref y_lineLevel, .ref y_lineUnits, .ref y_lineFrom, .ref y_lineMany, .ref y_isClosed, .ref y_insides, .ref y_parent, .ref y_isHigh, .ref y_inBits, .int (z_i y_sides), .ref y_side, .ref y_sideA, .ref y_sideB, .int (z_i y_lineSpace), .ref y_wasThere, .ref y_leads, .ref y_isLed, .ref y_isOn, .ref y_goesTo, .ref y_stream, .ref y_filled, .ref y_isDone, .ref y_isReached, .ref y_newUnits, .ref y_isNew])), (ya_units, .inl (cA 1, 5120, .inl y_units))]) [0, 1] rfl) hU hW⟩⟩ rfl rfl hl.1 rfl (lv_room (Nat.le_of_ble_eq_true rfl)) dX8_kindOf_77 ⟨Nat.zero_le _, Nat.zero_le _⟩) hS (fun q _ h => h.elim) (fun q h => h.elim) (fun r0 u t H locs ht hvm hw hB hz1 hk1 hS => ?_)
        obtain ⟨r21, rfl, h_r21, hw⟩ := hw
        have hP := z_P_all hP hk1
        have hv := hv r21 h_r21 hw
        refine lx_icmp_eq (tgt := 87) hx hb dX8_kindOf_80 (by decide) h_r11 h_r21 (fun hc => ?_) (fun hc => ?_)
        · have hv := hv.1 hc
          refine lv_iconst (v := z_i 0) hx hb dX8_kindOf_87 rfl ?_
          refine lx_iadd hx hb dX8_kindOf_88 ?_
          refine lv_istore (lv' := [(4, .int (z_i (x21_4 + 0))), (3, .int (z_i (x21_3 + 0))), (6, .int (z_i r11)), (5, .int (z_i x21_5)), (0, .ref y), (1, .int (z_i gi)), (2, .int (z_i n))]) hx hb dX8_kindOf_89 hl (by decide) rfl (fun ls hl => ?_)
          refine lv_iinc (v := z_i (x21_5 + 1)) (lv' := [(5, .int (z_i (x21_5 + 1))), (4, .int (z_i (x21_4 + 0))), (3, .int (z_i (x21_3 + 0))), (6, .int (z_i r11)), (0, .ref y), (1, .int (z_i gi)), (2, .int (z_i n))]) hx hb dX8_kindOf_91 hl (k := 3) rfl (z_i_add _ _) (by decide) rfl (fun ls hl => ?_)
          refine lv_goto (tgt := 21) hx hb dX8_kindOf_94 (by decide) ?_
          exact hv _ _ ls hP hS (lv_sub hl [0, 1, 2, 4, 5, 6] rfl)
        · have hv := hv.2 hc
          refine lv_iconst (v := z_i 1) hx hb dX8_kindOf_83 rfl ?_
          refine lv_goto (tgt := 88) hx hb dX8_kindOf_84 (by decide) ?_
          refine lx_iadd hx hb dX8_kindOf_88 ?_
          refine lv_istore (lv' := [(4, .int (z_i (x21_4 + 1))), (3, .int (z_i (x21_3 + 0))), (6, .int (z_i r11)), (5, .int (z_i x21_5)), (0, .ref y), (1, .int (z_i gi)), (2, .int (z_i n))]) hx hb dX8_kindOf_89 hl (by decide) rfl (fun ls hl => ?_)
          refine lv_iinc (v := z_i (x21_5 + 1)) (lv' := [(5, .int (z_i (x21_5 + 1))), (4, .int (z_i (x21_4 + 1))), (3, .int (z_i (x21_3 + 0))), (6, .int (z_i r11)), (0, .ref y), (1, .int (z_i gi)), (2, .int (z_i n))]) hx hb dX8_kindOf_91 hl (k := 3) rfl (z_i_add _ _) (by decide) rfl (fun ls hl => ?_)
          refine lv_goto (tgt := 21) hx hb dX8_kindOf_94 (by decide) ?_
          exact hv _ _ ls hP hS (lv_sub hl [0, 1, 2, 4, 5, 6] rfl)
      · have hv := hv.2 hc
        refine lv_iconst (v := z_i 1) hx hb dX8_kindOf_50 rfl ?_
        refine lv_goto (tgt := 55) hx hb dX8_kindOf_51 (by decide) ?_
        refine lx_iadd hx hb dX8_kindOf_55 ?_
        refine lv_istore_n (lv' := [(3, .int (z_i (x21_3 + 1))), (6, .int (z_i r11)), (5, .int (z_i x21_5)), (4, .int (z_i x21_4)), (0, .ref y), (1, .int (z_i gi)), (2, .int (z_i n))]) hx hb dX8_kindOf_56 rfl hl (by decide) rfl (fun ls hl => ?_)
        refine lv_iload hx hb dX8_kindOf_57 (lv_at hl 3 rfl) ?_
        refine lv_iload hx hb dX8_kindOf_59 (lv_at hl 1 rfl) ?_
        refine lv_aload_n hx hb dX8_kindOf_61 rfl (lv_at hl 4 rfl) ?_
        refine lv_iload_n hx hb dX8_kindOf_62 rfl (lv_at hl 5 rfl) ?_
        refine lv_aload_n hx hb dX8_kindOf_63 rfl (lv_at hl 4 rfl) ?_
        refine lv_iload_n hx hb dX8_kindOf_64 rfl (lv_at hl 5 rfl) ?_
        refine lv_iload_n hx hb dX8_kindOf_65 rfl (lv_at hl 6 rfl) ?_
        refine lv_iload hx hb dX8_kindOf_66 (lv_at hl 2 rfl) ?_
        refine lv_iconst (v := z_i 1) hx hb dX8_kindOf_68 rfl ?_
        refine lx_iadd hx hb dX8_kindOf_69 ?_
        refine lv_bipush (v := z_i 8) hx hb dX8_kindOf_70 (by decide) ?_
        obtain ⟨hr22, hv⟩ := hv
        refine lx_irem hx hb dX8_kindOf_72 hr22 (show z_in 8 from ⟨by decide, by decide⟩) (by decide) ?_
        obtain ⟨hr23, hv⟩ := hv
        obtain ⟨hp24, hv⟩ := hv
        obtain ⟨hp25, hv⟩ := hv
        obtain ⟨hp26, hv⟩ := hv
        refine va_calli (va_runV (As := [.int (z_i gi), .int (z_i n), .int (z_i ((x21_5 + 1).tmod 8))]) (rest := [.int (z_i gi), .ref y, .int (z_i r11), .int (z_i x21_4)]) ⟨hx, hb, hml, hown, hts⟩ (mt_X8_neighbour l D cA y y_space y_offset y_length ya_units ya_isThere y_isThere y_levels y_level y_lines y_lineLevel y_lineUnits y_lineFrom y_lineMany y_isClosed y_insides y_parent y_isHigh y_inBits y_sides y_side y_sideA y_sideB y_lineSpace y_wasThere y_leads y_isLed y_isOn y_goesTo y_stream y_filled y_isDone y_isReached y_newUnits y_isNew gi n ((x21_5 + 1).tmod 8) h_y_levels h_y_lines h_y_sides h_y_lineSpace h_gi h_n hr23 hp24 hp25 hp26) (cwV 3 hts gX8_kindOf_X8_neighbour rfl rfl rfl (by decide +kernel) ⟨Nat.le_of_ble_eq_true rfl, Nat.le_of_ble_eq_true rfl⟩) ⟨z_bl0, va_recv hK hP (ci := 6) (q0 := 0) rfl rfl, fun U hU hW => ⟨rfl, z_b0 hK (hP.sub (ws' := [(y, .inr (6, [.ref y_space, .ref y_offset, .ref y_length, .ref ya_units, .ref ya_isThere, .int (z_i y_levels), .ref y_level, .int (z_i y_lines), .ref y_lineLevel, .ref y_lineUnits, .ref y_lineFrom, .ref y_lineMany, .ref y_isClosed, .ref y_insides, .ref y_parent, .ref y_isHigh, .ref y_inBits, .int (z_i y_sides), .ref y_side, .ref y_sideA, .ref y_sideB, .int (z_i y_lineSpace), .ref y_wasThere, .ref y_leads, .ref y_isLed, .ref y_isOn, .ref y_goesTo, .ref y_stream, .ref y_filled, .ref y_isDone, .ref y_isReached, .ref y_newUnits, .ref y_isNew])), (ya_isThere, .inl (cA 3, 5120, .inl y_isThere))]) [0, 2] rfl) hU hW⟩⟩ rfl rfl hl.1 rfl (lv_room (Nat.le_of_ble_eq_true rfl)) dX8_kindOf_73 ⟨Nat.zero_le _, Nat.zero_le _⟩) hS (fun q _ h => h.elim) (fun q h => h.elim) (fun r0 u t H locs ht hvm hw hB hz1 hk1 hS => ?_)
        obtain ⟨r27, rfl, h_r27, hw⟩ := hw
        have hP := z_P_all hP hk1
        have hv := hv r27 h_r27 hw
        refine lv_iload_n hx hb dX8_kindOf_76 rfl (lv_at hl 6 rfl) ?_
        obtain ⟨hp28, hv⟩ := hv
        obtain ⟨hp29, hv⟩ := hv
        obtain ⟨hp30, hv⟩ := hv
        refine va_calli (va_runV (As := [.int (z_i gi), .int (z_i r27), .int (z_i n)]) (rest := [.int (z_i r11), .int (z_i x21_4)]) ⟨hx, hb, hml, hown, hts⟩ (mt_X8_isAbove l D cA y y_space y_offset y_length ya_units y_units ya_isThere y_levels y_level y_lines y_lineLevel y_lineUnits y_lineFrom y_lineMany y_isClosed y_insides y_parent y_isHigh y_inBits y_sides y_side y_sideA y_sideB y_lineSpace y_wasThere y_leads y_isLed y_isOn y_goesTo y_stream y_filled y_isDone y_isReached y_newUnits y_isNew gi r27 n h_y_levels h_y_lines h_y_sides h_y_lineSpace h_gi h_r27 h_n hp28 hp29 hp30) (cwV 3 hts gX8_kindOf_X8_isAbove rfl rfl rfl (by decide +kernel) ⟨Nat.le_of_ble_eq_true rfl, Nat.le_of_ble_eq_true rfl⟩) ⟨z_bl0, va_recv hK hP (ci := 6) (q0 := 0) rfl rfl, fun U hU hW => ⟨rfl, z_b0 hK (hP.sub (ws' := [(y, .inr (6, [.ref y_space, .ref y_offset, .ref y_length, .ref ya_units, .ref ya_isThere, .int (z_i y_levels), .ref y_level, .int (z_i y_lines), .ref y_lineLevel, .ref y_lineUnits, .ref y_lineFrom, .ref y_lineMany, .ref y_isClosed, .ref y_insides, .ref y_parent, .ref y_isHigh, .ref y_inBits, .int (z_i y_sides), .ref y_side, .ref y_sideA, .ref y_sideB, .int (z_i y_lineSpace), .ref y_wasThere, .ref y_leads, .ref y_isLed, .ref y_isOn, .ref y_goesTo, .ref y_stream, .ref y_filled, .ref y_isDone, .ref y_isReached, .ref y_newUnits, .ref y_isNew])), (ya_units, .inl (cA 1, 5120, .inl y_units))]) [0, 1] rfl) hU hW⟩⟩ rfl rfl hl.1 rfl (lv_room (Nat.le_of_ble_eq_true rfl)) dX8_kindOf_77 ⟨Nat.zero_le _, Nat.zero_le _⟩) hS (fun q _ h => h.elim) (fun q h => h.elim) (fun r0 u t H locs ht hvm hw hB hz1 hk1 hS => ?_)
        obtain ⟨r31, rfl, h_r31, hw⟩ := hw
        have hP := z_P_all hP hk1
        have hv := hv r31 h_r31 hw
        refine lx_icmp_eq (tgt := 87) hx hb dX8_kindOf_80 (by decide) h_r11 h_r31 (fun hc => ?_) (fun hc => ?_)
        · have hv := hv.1 hc
          refine lv_iconst (v := z_i 0) hx hb dX8_kindOf_87 rfl ?_
          refine lx_iadd hx hb dX8_kindOf_88 ?_
          refine lv_istore (lv' := [(4, .int (z_i (x21_4 + 0))), (3, .int (z_i (x21_3 + 1))), (6, .int (z_i r11)), (5, .int (z_i x21_5)), (0, .ref y), (1, .int (z_i gi)), (2, .int (z_i n))]) hx hb dX8_kindOf_89 hl (by decide) rfl (fun ls hl => ?_)
          refine lv_iinc (v := z_i (x21_5 + 1)) (lv' := [(5, .int (z_i (x21_5 + 1))), (4, .int (z_i (x21_4 + 0))), (3, .int (z_i (x21_3 + 1))), (6, .int (z_i r11)), (0, .ref y), (1, .int (z_i gi)), (2, .int (z_i n))]) hx hb dX8_kindOf_91 hl (k := 3) rfl (z_i_add _ _) (by decide) rfl (fun ls hl => ?_)
          refine lv_goto (tgt := 21) hx hb dX8_kindOf_94 (by decide) ?_
          exact hv _ _ ls hP hS (lv_sub hl [0, 1, 2, 4, 5, 6] rfl)
        · have hv := hv.2 hc
          refine lv_iconst (v := z_i 1) hx hb dX8_kindOf_83 rfl ?_
          refine lv_goto (tgt := 88) hx hb dX8_kindOf_84 (by decide) ?_
          refine lx_iadd hx hb dX8_kindOf_88 ?_
          refine lv_istore (lv' := [(4, .int (z_i (x21_4 + 1))), (3, .int (z_i (x21_3 + 1))), (6, .int (z_i r11)), (5, .int (z_i x21_5)), (0, .ref y), (1, .int (z_i gi)), (2, .int (z_i n))]) hx hb dX8_kindOf_89 hl (by decide) rfl (fun ls hl => ?_)
          refine lv_iinc (v := z_i (x21_5 + 1)) (lv' := [(5, .int (z_i (x21_5 + 1))), (4, .int (z_i (x21_4 + 1))), (3, .int (z_i (x21_3 + 1))), (6, .int (z_i r11)), (0, .ref y), (1, .int (z_i gi)), (2, .int (z_i n))]) hx hb dX8_kindOf_91 hl (k := 3) rfl (z_i_add _ _) (by decide) rfl (fun ls hl => ?_)
          refine lv_goto (tgt := 21) hx hb dX8_kindOf_94 (by decide) ?_
          exact hv _ _ ls hP hS (lv_sub hl [0, 1, 2, 4, 5, 6] rfl)
  · have hv := hv.2 hc
    refine lv_iconst (v := z_i 0) hx hb dX8_kindOf_11 rfl ?_
    exact W.iret (v := z_i 0) hx hb hr (fun t ht hW => ⟨⟨z_i 0, (), rfl, ⟨0, rfl, (show z_in 0 from ⟨by decide, by decide⟩), hv⟩, trivial⟩, hS.F ht⟩) hS.2.2 dX8_kindOf_12
set_option maxHeartbeats 4000000 in
set_option maxRecDepth 100000 in
theorem mt_X8_kindOf (l : Launch) (D : va_G) (cA : Nat → ClassId) (y : Nat) (y_space : Nat) (y_offset : Nat) (y_length : Nat) (ya_units : Nat) (y_units : Nat → Int32) (ya_isThere : Nat) (y_isThere : Nat → Int32) (y_levels : Int) (y_level : Nat) (y_lines : Int) (y_lineLevel : Nat) (y_lineUnits : Nat) (y_lineFrom : Nat) (y_lineMany : Nat) (y_isClosed : Nat) (y_insides : Nat) (y_parent : Nat) (y_isHigh : Nat) (y_inBits : Nat) (y_sides : Int) (y_side : Nat) (y_sideA : Nat) (y_sideB : Nat) (y_lineSpace : Int) (y_wasThere : Nat) (y_leads : Nat) (y_isLed : Nat) (y_isOn : Nat) (y_goesTo : Nat) (y_stream : Nat) (y_filled : Nat) (y_isDone : Nat) (y_isReached : Nat) (y_newUnits : Nat) (y_isNew : Nat) (gi : Int) (n : Int) (h_y_levels : z_in y_levels) (h_y_lines : z_in y_lines) (h_y_sides : z_in y_sides) (h_y_lineSpace : z_in y_lineSpace) (h_gi : z_in gi) (h_n : z_in n) (hp1 : 0 ≤ gi ∧ gi < 4) (hp2 : q_bd y_units) (hp3 : q_th y_isThere gi n = true) : Met l yX8_kindOf wsX8_kindOf ({ frames := 4, cells := 0, slots := 0, locals := 94 } : Room) (va_Pc [.ref y, .int (z_i gi), .int (z_i n)] (z_B0 D cA [(y, .inr (6, [.ref y_space, .ref y_offset, .ref y_length, .ref ya_units, .ref ya_isThere, .int (z_i y_levels), .ref y_level, .int (z_i y_lines), .ref y_lineLevel, .ref y_lineUnits, .ref y_lineFrom, .ref y_lineMany, .ref y_isClosed, .ref y_insides, .ref y_parent, .ref y_isHigh, .ref y_inBits, .int (z_i y_sides), .ref y_side, .ref y_sideA, .ref y_sideB, .int (z_i y_lineSpace), .ref y_wasThere, .ref y_leads, .ref y_isLed, .ref y_isOn, .ref y_goesTo, .ref y_stream, .ref y_filled, .ref y_isDone, .ref y_isReached, .ref y_newUnits, .ref y_isNew])), (ya_units, .inl (cA 1, 5120, .inl y_units)), (ya_isThere, .inl (cA 3, 5120, .inl y_isThere))])) (va_Qi (z_ri (fun (r : Int) => r = m_kd (q_th y_isThere gi) (q_at y_units y_isThere gi) n)) (fun _ _ => True) (fun _ => False)) 0 0 (fun _ => False) := by
  refine wk_X8_kindOf l D cA y y_space y_offset y_length ya_units y_units ya_isThere y_isThere y_levels y_level y_lines y_lineLevel y_lineUnits y_lineFrom y_lineMany y_isClosed y_insides y_parent y_isHigh y_inBits y_sides y_side y_sideA y_sideB y_lineSpace y_wasThere y_leads y_isLed y_isOn y_goesTo y_stream y_filled y_isDone y_isReached y_newUnits y_isNew gi n h_y_levels h_y_lines h_y_sides h_y_lineSpace h_gi h_n (fun (r : Int) => r = m_kd (q_th y_isThere gi) (q_at y_units y_isThere gi) n) ?_
  unfold vc_X8_kindOf
  have hn := q_th_in hp3
  refine ⟨hp1, hn, ?_⟩
  rintro r3 _ rfl
  refine ⟨fun q => ?_, fun q => ?_⟩
  · have hall := m_nc_8 q
    have wb := m_waK_b (q_th y_isThere gi) (q_at y_units y_isThere gi) n 8
    have w8 : m_wa (q_th y_isThere gi) (q_at y_units y_isThere gi) n < 256 := by
      have e8 : (2 : Int) ^ 8 = 256 := by decide
      rw [e8] at wb
      exact wb.2
    have hkm := k_km ⟨(m_wa (q_th y_isThere gi) (q_at y_units y_isThere gi) n).toNat, by omega⟩
    have ew : (((m_wa (q_th y_isThere gi) (q_at y_units y_isThere gi) n).toNat : Nat) : Int) = m_wa (q_th y_isThere gi) (q_at y_units y_isThere gi) n := Int.toNat_of_nonneg wb.1
    dsimp only at hkm
    rw [ew] at hkm
    have hkd : m_kd (q_th y_isThere gi) (q_at y_units y_isThere gi) n = m_km (m_wa (q_th y_isThere gi) (q_at y_units y_isThere gi) n) := if_neg (by omega)
    rw [hkd, hkm]
    have hb := @k_wa (q_th y_isThere gi) (q_at y_units y_isThere gi) n
    generalize m_wa (q_th y_isThere gi) (q_at y_units y_isThere gi) n = M at hb
    have cb : ∀ k : Nat, k ≤ 8 → 0 ≤ k_cn M k ∧ k_cn M k ≤ k ∧ 0 ≤ k_tn M k ∧ k_tn M k ≤ k := fun k => by
      induction k with
      | zero => intro _; exact ⟨Int.le_refl _, Int.le_refl _, Int.le_refl _, Int.le_refl _⟩
      | succ k ih =>
        intro h
        have := ih (by omega)
        have hk := hb k (by omega)
        unfold k_cn k_tn
        have b1 : 0 ≤ k_b M k ∧ k_b M k ≤ 1 := by rw [hk]; split <;> omega
        split <;> omega
    have bit : ∀ k : Nat, k < 8 → k_b M k = z_b (m_ab (q_at y_units y_isThere gi) (m_nb (q_th y_isThere gi) n k) n) := fun k hk => by
      rw [hb k hk]
      cases hq : m_ab (q_at y_units y_isThere gi) (m_nb (q_th y_isThere gi) n k) n
      · rw [if_neg (fun h => absurd h.2 (by decide))]; rfl
      · rw [if_pos ⟨hall k hk, rfl⟩]; rfl
    intro L hL
    suffices H : ∀ (d k : Nat), k + d = 8 → L (k : Int) (k_tn M k) (k_cn M k) from H 8 0 rfl
    intro d
    induction d with
    | zero =>
      intro k hk
      obtain rfl : k = 8 := by omega
      have := cb 8 (by omega)
      refine hL _ _ _ ⟨by omega, by omega⟩ ⟨by omega, by omega⟩ ⟨by omega, by omega⟩ ⟨fun _ => ⟨fun a1 => ⟨fun a2 => ⟨fun a3 => ?_, fun a3 => ?_⟩, fun a2 => ?_⟩, fun a1 => ?_⟩, fun h => absurd h (by omega)⟩
      · rw [if_neg a1, if_neg a2, if_neg (by omega)]
      · rw [if_neg a1, if_neg a2, if_pos a3]
      · rw [if_neg a1, if_pos a2]
      · rw [if_pos a1]
    | succ d ih =>
      intro k hk
      have cbk := cb k (by omega)
      refine hL _ _ _ ⟨by omega, by omega⟩ ⟨by omega, by omega⟩ ⟨by omega, by omega⟩ ⟨fun h => absurd h (by omega), fun h => ⟨hp1, hn, ⟨by omega, h⟩, ?_⟩⟩
      have h9 := ih (k + 1) (by omega)
      unfold k_tn k_cn at h9
      have t8 : ((k : Int) + 1).tmod 8 = (((k + 1) % 8 : Nat) : Int) := by rw [Int.tmod_eq_emod_of_nonneg (by omega)]; omega
      rw [bit k (by omega), bit ((k + 1) % 8) (by omega)] at h9
      have a1 := m_nb_th (hall k (by omega))
      have a2 := m_nb_th (hall ((k + 1) % 8) (by omega))
      rw [t8]
      rintro r7 _ rfl
      refine ⟨hp1, a1.2, hn, ?_⟩
      rw [m_ab_q a1.1 hp3]
      rintro r11 _ h11
      rw [← h11] at h9
      refine ⟨fun q1 => ⟨⟨by omega, by omega⟩, ⟨by omega, by omega⟩, hp1, hn, ⟨by omega, by omega⟩, ?_⟩, fun q1 => ⟨⟨by omega, by omega⟩, ⟨by omega, by omega⟩, hp1, hn, ⟨by omega, by omega⟩, ?_⟩⟩
      · rintro r17 _ rfl
        refine ⟨hp1, a2.2, hn, ?_⟩
        rw [m_ab_q a2.1 hp3]
        rintro r21 _ h21
        rw [← h21] at h9
        refine ⟨fun q2 => ?_, fun q2 => ?_⟩
        · rw [if_pos q2, q1] at h9; exact h9
        · rw [if_neg q2, q1] at h9; exact h9
      · have e1 : r11 = 1 := by have := z_b_01 (m_ab (q_at y_units y_isThere gi) (m_nb (q_th y_isThere gi) n k) n); rw [← h11] at this; omega
        rintro r17 _ rfl
        refine ⟨hp1, a2.2, hn, ?_⟩
        rw [m_ab_q a2.1 hp3]
        rintro r21 _ h21
        rw [← h21] at h9
        refine ⟨fun q2 => ?_, fun q2 => ?_⟩
        · rw [if_pos q2, e1] at h9; exact h9
        · rw [if_neg q2, e1] at h9; exact h9
  · exact (if_pos q).symm
