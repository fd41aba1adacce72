theorem e_at_hi {T : Int → Bool} {U : Int → Int} {al ac ga gc st top to k rw sg : Int} (hs : sg = if ga > 0 then 1 else if ga < 0 then -1 else 0) (h : ga ≠ 0) : e_at T U al ac ga gc st top to k rw ↔ e_hi T U (al + sg * k) (ac * st + gc * k) st rw (top * (st - k) + U to * k) := by
  have e : (if ga > 0 then k else -k) = sg * k := by
    rw [hs]
    by_cases q : ga > 0
    · rw [if_pos q, if_pos q]; omega
    · rw [if_neg q, if_neg q, if_pos (by omega)]; omega
  unfold e_at e_hi
  rw [e]
theorem e_lp {H : Int → Prop} {st c0 : Int} {L : Int → Int → Prop} (hc : c0 = 0 ∨ c0 = 1)
    (hstep : ∀ k, 1 ≤ k → k < st → ((L (k + 1) 0 → L k 0) ∧ ((H k → L (k + 1) 0) → (¬ H k → L (k + 1) 1) → L k 1)))
    (hend : ∀ k c, 1 ≤ k → st ≤ k → (k = 1 ∨ k = st) → (c = 0 ∨ c = 1) → (c = 1 ↔ c0 = 1 ∧ ∀ k', 1 ≤ k' → k' < st → ¬ H k') → L k c) : L 1 c0 := by
  suffices G : ∀ (d : Nat) (k c : Int), 1 ≤ k → (k = 1 ∨ k ≤ st) → (st - k).toNat = d → (c = 0 ∨ c = 1) → (c = 1 ↔ c0 = 1 ∧ ∀ k', 1 ≤ k' → k' < k → k' < st → ¬ H k') → L k c from
    G _ 1 c0 (by omega) (Or.inl rfl) rfl hc ⟨fun h => ⟨h, fun k' a b => absurd b (by omega)⟩, fun h => h.1⟩
  intro d
  induction d with
  | zero =>
    intro k c k1 k2 hd h01 hi
    refine hend k c k1 (by omega) (by omega) h01 ⟨fun h => ⟨(hi.mp h).1, fun k' a b => (hi.mp h).2 k' a (by omega) b⟩, fun h => hi.mpr ⟨h.1, fun k' a _ b => h.2 k' a b⟩⟩
  | succ d ih =>
    intro k c k1 k2 hd h01 hi
    obtain ⟨s0, s1⟩ := hstep k k1 (by omega)
    rcases h01 with rfl | rfl
    · refine s0 (ih (k + 1) 0 (by omega) (Or.inr (by omega)) (by omega) (Or.inl rfl) ⟨fun h => absurd h (by decide), fun h => ?_⟩)
      exact hi.mpr ⟨h.1, fun k' a b c9 => h.2 k' a (by omega) c9⟩
    · refine s1 (fun hk => ih (k + 1) 0 (by omega) (Or.inr (by omega)) (by omega) (Or.inl rfl) ⟨fun h => absurd h (by decide), fun h => absurd hk (h.2 k k1 (by omega) (by omega))⟩) (fun hk => ih (k + 1) 1 (by omega) (Or.inr (by omega)) (by omega) (Or.inr rfl) ⟨fun _ => ⟨(hi.mp rfl).1, fun k' a b c9 => ?_⟩, fun _ => rfl⟩)
      by_cases e : k' = k
      · rw [e]; exact hk
      · exact (hi.mp rfl).2 k' a (by omega) c9
def vc_X8_seen (y_units : Nat → Int32) (y_isThere : Nat → Int32) (gi : Int) (i : Int) (j : Int) (i2 : Int) (j2 : Int) (eye : Int) (Q : Int → Prop) : Prop :=
(∀ (r1 : Int), z_in r1 → (r1 = z_b (decide (0 ≤ gi ∧ gi ≤ 3))) → ((r1 = 0 → Q (-1)) ∧
(r1 ≠ 0 → (∀ (r2 : Int), z_in r2 → (r2 = z_b (decide ((0 : Int) ≤ eye ∧ eye ≤ (8192 : Int)))) → ((r2 = 0 → Q (-1)) ∧
(r2 ≠ 0 → (0 ≤ gi ∧ gi < 4) ∧ (∀ (r4 : Int), z_in r4 → (r4 = z_b (decide (m_no (q_th y_isThere gi) i j ≠ -1))) → ((r4 = 0 → Q (-1)) ∧
(r4 ≠ 0 → (0 ≤ gi ∧ gi < 4) ∧ (∀ (r6 : Int), z_in r6 → (r6 = z_b (decide (m_no (q_th y_isThere gi) i2 j2 ≠ -1))) → ((r6 ≠ 0 → (0 ≤ gi ∧ gi < 4) ∧ (0 ≤ i ∧ i < 32) ∧ (0 ≤ j ∧ j < 40) ∧ (∀ (r10 : Int), z_in r10 → (r10 = z_g y_units (1280 * gi + (40 * i + j))) → z_nl (r10 + (1024 * eye)) ∧ (∀ v11 : Int, v11 = r10 + (1024 * eye) → (0 ≤ gi ∧ gi < 4) ∧ (0 ≤ i2 ∧ i2 < 32) ∧ (0 ≤ j2 ∧ j2 < 40) ∧ (∀ (r17 : Int), z_in r17 → (r17 = z_g y_units (1280 * gi + (40 * i2 + j2))) → (∀ J90 : Int → Prop,
(∀ (s90_0 : Int), z_in s90_0 → (∀ J109 : Int → Prop,
(∀ (s109_0 : Int), z_in s109_0 → (∀ L117 : Int → Int → Prop,
(∀ (x117_14 : Int) (x117_13 : Int), z_in x117_14 → z_in x117_13 → ((x117_14 ≥ s90_0 → (∀ L200 : Int → Int → Prop,
(∀ (x200_14 : Int) (x200_13 : Int), z_in x200_14 → z_in x200_13 → ((x200_14 ≥ s109_0 → ((x200_13 = 0 → Q 0) ∧
(x200_13 ≠ 0 → Q 1))) ∧
(x200_14 < s109_0 → ((x200_13 = 0 → L200 (x200_14 + 1) 0) ∧
(x200_13 ≠ 0 → z_in (j2 - j) ∧ (∀ (r19 : Int), z_in r19 → (r19 = (if (j2 - j) > 0 then 1 else if (j2 - j) < 0 then -1 else 0)) → z_in (i2 - i) ∧ z_in (s109_0 - x200_14) ∧ z_in (j + (r19 * x200_14)) ∧ z_nl ((i * s109_0) + ((i2 - i) * x200_14)) ∧ z_nl ((v11 * (s109_0 - x200_14)) + (r17 * x200_14)) ∧ (0 ≤ gi ∧ gi < 4) ∧ (q_bd y_units) ∧ (0 ≤ ((i * s109_0) + ((i2 - i) * x200_14)) ∧ ((i * s109_0) + ((i2 - i) * x200_14)) ≤ 4000) ∧ (1 ≤ s109_0 ∧ s109_0 ≤ 40) ∧ (∀ (r29 : Int), z_in r29 → ((r29 = 0 ∧ e_hi (q_th y_isThere gi) (q_at y_units y_isThere gi) (j + (r19 * x200_14)) ((i * s109_0) + ((i2 - i) * x200_14)) s109_0 (0 : Int) ((v11 * (s109_0 - x200_14)) + (r17 * x200_14))) ∨ (r29 = 1 ∧ ¬ e_hi (q_th y_isThere gi) (q_at y_units y_isThere gi) (j + (r19 * x200_14)) ((i * s109_0) + ((i2 - i) * x200_14)) s109_0 (0 : Int) ((v11 * (s109_0 - x200_14)) + (r17 * x200_14)))) → ((r29 = 0 → L200 (x200_14 + 1) 0) ∧
(r29 ≠ 0 → L200 (x200_14 + 1) 1)))))))) → L200 x200_14 x200_13) →
L200 1 x117_13)) ∧
(x117_14 < s90_0 → ((x117_13 = 0 → L117 (x117_14 + 1) 0) ∧
(x117_13 ≠ 0 → z_in (i2 - i) ∧ (∀ (r31 : Int), z_in r31 → (r31 = (if (i2 - i) > 0 then 1 else if (i2 - i) < 0 then -1 else 0)) → z_in (j2 - j) ∧ z_in (s90_0 - x117_14) ∧ z_in (i + (r31 * x117_14)) ∧ z_nl ((j * s90_0) + ((j2 - j) * x117_14)) ∧ z_nl ((v11 * (s90_0 - x117_14)) + (r17 * x117_14)) ∧ (0 ≤ gi ∧ gi < 4) ∧ (q_bd y_units) ∧ (0 ≤ ((j * s90_0) + ((j2 - j) * x117_14)) ∧ ((j * s90_0) + ((j2 - j) * x117_14)) ≤ 4000) ∧ (1 ≤ s90_0 ∧ s90_0 ≤ 40) ∧ (∀ (r41 : Int), z_in r41 → ((r41 = 0 ∧ e_hi (q_th y_isThere gi) (q_at y_units y_isThere gi) (i + (r31 * x117_14)) ((j * s90_0) + ((j2 - j) * x117_14)) s90_0 (1 : Int) ((v11 * (s90_0 - x117_14)) + (r17 * x117_14))) ∨ (r41 = 1 ∧ ¬ e_hi (q_th y_isThere gi) (q_at y_units y_isThere gi) (i + (r31 * x117_14)) ((j * s90_0) + ((j2 - j) * x117_14)) s90_0 (1 : Int) ((v11 * (s90_0 - x117_14)) + (r17 * x117_14)))) → ((r41 = 0 → L117 (x117_14 + 1) 0) ∧
(r41 ≠ 0 → L117 (x117_14 + 1) 1)))))))) → L117 x117_14 x117_13) →
L117 1 1) → J109 s109_0) →
((j2 ≤ j → J109 (j - j2)) ∧
(j2 > j → J109 (j2 - j)))) → J90 s90_0) →
((i2 ≤ i → J90 (i - i2)) ∧
(i2 > i → J90 (i2 - i)))))))) ∧
(r6 = 0 → Q (-1)))))))))))))
set_option maxHeartbeats 4000000 in
set_option maxRecDepth 100000 in
theorem wk_X8_seen (l : Launch) (D : va_G) (cA : Nat → ClassId) (y : Nat) (y_space : Nat) (y_offset : Nat) (y_length : Nat) (ya_units : Nat) (y_units : Nat → Int32) (ya_isThere : Nat) (y_isThere : Nat → Int32) (y_levels : Int) (y_level : Nat) (y_lines : Int) (y_lineLevel : Nat) (y_lineUnits : Nat) (y_lineFrom : Nat) (y_lineMany : Nat) (y_isClosed : Nat) (y_insides : Nat) (y_parent : Nat) (y_isHigh : Nat) (y_inBits : Nat) (y_sides : Int) (y_side : Nat) (y_sideA : Nat) (y_sideB : Nat) (y_lineSpace : Int) (y_wasThere : Nat) (y_leads : Nat) (y_isLed : Nat) (y_isOn : Nat) (y_goesTo : Nat) (y_stream : Nat) (y_filled : Nat) (y_isDone : Nat) (y_isReached : Nat) (y_newUnits : Nat) (y_isNew : Nat) (gi : Int) (i : Int) (j : Int) (i2 : Int) (j2 : Int) (eye : Int) (h_y_levels : z_in y_levels) (h_y_lines : z_in y_lines) (h_y_sides : z_in y_sides) (h_y_lineSpace : z_in y_lineSpace) (h_gi : z_in gi) (h_i : z_in i) (h_j : z_in j) (h_i2 : z_in i2) (h_j2 : z_in j2) (h_eye : z_in eye) (Q : Int → Prop) (hv : vc_X8_seen y_units y_isThere gi i j i2 j2 eye Q) : Met l yX8_seen wsX8_seen ({ frames := 4, cells := 0, slots := 0, locals := 101 } : Room) (va_Pc [.ref y, .int (z_i gi), .int (z_i i), .int (z_i j), .int (z_i i2), .int (z_i j2), .int (z_i eye)] (z_B0 D cA [(y, .inr (6, [.ref y_space, .ref y_offset, .ref y_length, .ref ya_units, .ref ya_isThere, .int (z_i y_levels), .ref y_level, .int (z_i y_lines), .ref y_lineLevel, .ref y_lineUnits, .ref y_lineFrom, .ref y_lineMany, .ref y_isClosed, .ref y_insides, .ref y_parent, .ref y_isHigh, .ref y_inBits, .int (z_i y_sides), .ref y_side, .ref y_sideA, .ref y_sideB, .int (z_i y_lineSpace), .ref y_wasThere, .ref y_leads, .ref y_isLed, .ref y_isOn, .ref y_goesTo, .ref y_stream, .ref y_filled, .ref y_isDone, .ref y_isReached, .ref y_newUnits, .ref y_isNew])), (ya_units, .inl (cA 1, 5120, .inl y_units)), (ya_isThere, .inl (cA 3, 5120, .inl y_isThere))])) (va_Qi (z_ri Q) (fun _ _ => True) (fun _ => False)) 0 0 (fun _ => False) := by
  unfold vc_X8_seen at hv
  refine Met.ofW (cc := cX8_seen) (maxL := 15) (ret := (some .int)) (by decide +kernel) rfl ?_
  intro p e s m args below meth c s₁ B hml hv0
  obtain ⟨rfl, hK, hP⟩ := hv0
  have hx := B.exec
  have hb := B.bytes
  have hr := B.returns
  have hts := atoms_spec (ws := wsX8_seen) B.pre
  have hown : s.vm.findClass RX8 = some m.cls := findClass_of_methodNamed B.named
  have hlocks := B.notSynchronized
  have hS : va_S (fun _ : Nat => False) s.heap s.heap [] := va_S.rf
  have hl := lv_entry ([.ref y, .int (z_i gi), .int (z_i i), .int (z_i j), .int (z_i i2), .int (z_i j2), .int (z_i eye)]) (n := 15) (Nat.le_of_ble_eq_true rfl)
  rw [lg_entry_eq]
  generalize (lg_sl ([.ref y, .int (z_i gi), .int (z_i i), .int (z_i j), .int (z_i i2), .int (z_i j2), .int (z_i eye)]) ++ List.replicate (15 - (lg_sl ([.ref y, .int (z_i gi), .int (z_i i), .int (z_i j), .int (z_i i2), .int (z_i j2), .int (z_i eye)])).length) Slot.unset).toArray = ls at hl ⊢
  have hl : lv_has ls 15 [(0, .ref y), (1, .int (z_i gi)), (2, .int (z_i i)), (3, .int (z_i j)), (4, .int (z_i i2)), (5, .int (z_i j2)), (6, .int (z_i eye))] := hl
  refine lv_iload_n hx hb dX8_seen_0 rfl (lv_at hl 1 rfl) ?_
  refine va_calli (va_runS (As := [.int (z_i gi)]) (rest := []) ⟨hx, hb, hml, hown, hts⟩ (mt_X8_isGrid l D cA gi h_gi) (va_cwS 1 hts gX8_seen_X8_isGrid rfl rfl rfl (by decide +kernel) ⟨Nat.le_of_ble_eq_true rfl, Nat.le_of_ble_eq_true rfl⟩) ⟨z_bl0, fun U hU hW => ⟨rfl, z_b0 hK (hP.sub (ws' := []) [] rfl) hU hW⟩⟩ rfl rfl hl.1 rfl (lv_room (Nat.le_of_ble_eq_true rfl)) dX8_seen_1 ⟨Nat.zero_le _, Nat.zero_le _⟩) hS (fun q _ h => h.elim) (fun q h => h.elim) (fun r0 u t H locs ht hvm hw hB hz1 hk1 hS => ?_)
  obtain ⟨r1, rfl, h_r1, hw⟩ := hw
  have hP := z_P_all hP hk1
  have hv := hv r1 h_r1 hw
  refine lx_if_eq (tgt := 41) hx hb dX8_seen_4 (by decide) h_r1 (fun hc => ?_) (fun hc => ?_)
  · have hv := hv.1 hc
    refine lv_iconst (v := z_i (-1)) hx hb dX8_seen_41 rfl ?_
    exact W.iret (v := z_i (-1)) hx hb hr (fun t ht hW => ⟨⟨z_i (-1), (), rfl, ⟨-1, rfl, (show z_in (-1) from ⟨by decide, by decide⟩), hv⟩, trivial⟩, hS.F ht⟩) hS.2.2 dX8_seen_42
  · have hv := hv.2 hc
    refine lv_iload hx hb dX8_seen_7 (lv_at hl 6 rfl) ?_
    refine lv_iconst (v := z_i 0) hx hb dX8_seen_9 rfl ?_
    refine lv_sipush (v := z_i 8192) hx hb dX8_seen_10 (by decide) ?_
    refine va_calli (va_runS (As := [.int (z_i eye), .int (z_i 0), .int (z_i 8192)]) (rest := []) ⟨hx, hb, hml, hown, hts⟩ (mt_X8_in l D cA eye 0 8192 h_eye (show z_in 0 from ⟨by decide, by decide⟩) (show z_in 8192 from ⟨by decide, by decide⟩)) (va_cwS 3 hts gX8_seen_X8_in rfl rfl rfl (by decide +kernel) ⟨Nat.le_of_ble_eq_true rfl, Nat.le_of_ble_eq_true rfl⟩) ⟨z_bl0, fun U hU hW => ⟨rfl, z_b0 hK (hP.sub (ws' := []) [] rfl) hU hW⟩⟩ rfl rfl hl.1 rfl (lv_room (Nat.le_of_ble_eq_true rfl)) dX8_seen_13 ⟨Nat.zero_le _, Nat.zero_le _⟩) hS (fun q _ h => h.elim) (fun q h => h.elim) (fun r0 u t H locs ht hvm hw hB hz1 hk1 hS => ?_)
    obtain ⟨r2, rfl, h_r2, hw⟩ := hw
    have hP := z_P_all hP hk1
    have hv := hv r2 h_r2 hw
    refine lx_if_eq (tgt := 41) hx hb dX8_seen_16 (by decide) h_r2 (fun hc => ?_) (fun hc => ?_)
    · have hv := hv.1 hc
      refine lv_iconst (v := z_i (-1)) hx hb dX8_seen_41 rfl ?_
      exact W.iret (v := z_i (-1)) hx hb hr (fun t ht hW => ⟨⟨z_i (-1), (), rfl, ⟨-1, rfl, (show z_in (-1) from ⟨by decide, by decide⟩), hv⟩, trivial⟩, hS.F ht⟩) hS.2.2 dX8_seen_42
    · have hv := hv.2 hc
      refine lv_aload_n hx hb dX8_seen_19 rfl (lv_at hl 0 rfl) ?_
      refine lv_iload_n hx hb dX8_seen_20 rfl (lv_at hl 1 rfl) ?_
      refine lv_iload_n hx hb dX8_seen_21 rfl (lv_at hl 2 rfl) ?_
      refine lv_iload_n hx hb dX8_seen_22 rfl (lv_at hl 3 rfl) ?_
      obtain ⟨hp3, hv⟩ := hv
      refine va_calli (va_runV (As := [.int (z_i gi), .int (z_i i), .int (z_i j)]) (rest := []) ⟨hx, hb, hml, hown, hts⟩ (mt_X8_has l D cA y y_space y_offset y_length ya_units ya_isThere y_isThere y_levels y_level y_lines y_lineLevel y_lineUnits y_lineFrom y_lineMany y_isClosed y_insides y_parent y_isHigh y_inBits y_sides y_side y_sideA y_sideB y_lineSpace y_wasThere y_leads y_isLed y_isOn y_goesTo y_stream y_filled y_isDone y_isReached y_newUnits y_isNew gi i j h_y_levels h_y_lines h_y_sides h_y_lineSpace h_gi h_i h_j hp3) (cwV 3 hts gX8_seen_X8_has rfl rfl rfl (by decide +kernel) ⟨Nat.le_of_ble_eq_true rfl, Nat.le_of_ble_eq_true rfl⟩) ⟨z_bl0, va_recv hK hP (ci := 6) (q0 := 0) rfl rfl, fun U hU hW => ⟨rfl, z_b0 hK (hP.sub (ws' := [(y, .inr (6, [.ref y_space, .ref y_offset, .ref y_length, .ref ya_units, .ref ya_isThere, .int (z_i y_levels), .ref y_level, .int (z_i y_lines), .ref y_lineLevel, .ref y_lineUnits, .ref y_lineFrom, .ref y_lineMany, .ref y_isClosed, .ref y_insides, .ref y_parent, .ref y_isHigh, .ref y_inBits, .int (z_i y_sides), .ref y_side, .ref y_sideA, .ref y_sideB, .int (z_i y_lineSpace), .ref y_wasThere, .ref y_leads, .ref y_isLed, .ref y_isOn, .ref y_goesTo, .ref y_stream, .ref y_filled, .ref y_isDone, .ref y_isReached, .ref y_newUnits, .ref y_isNew])), (ya_isThere, .inl (cA 3, 5120, .inl y_isThere))]) [0, 2] rfl) hU hW⟩⟩ rfl rfl hl.1 rfl (lv_room (Nat.le_of_ble_eq_true rfl)) dX8_seen_23 ⟨Nat.zero_le _, Nat.zero_le _⟩) hS (fun q _ h => h.elim) (fun q h => h.elim) (fun r0 u t H locs ht hvm hw hB hz1 hk1 hS => ?_)
      obtain ⟨r4, rfl, h_r4, hw⟩ := hw
      have hP := z_P_all hP hk1
      have hv := hv r4 h_r4 hw
      refine lx_if_eq (tgt := 41) hx hb dX8_seen_26 (by decide) h_r4 (fun hc => ?_) (fun hc => ?_)
      · have hv := hv.1 hc
        refine lv_iconst (v := z_i (-1)) hx hb dX8_seen_41 rfl ?_
        exact W.iret (v := z_i (-1)) hx hb hr (fun t ht hW => ⟨⟨z_i (-1), (), rfl, ⟨-1, rfl, (show z_in (-1) from ⟨by decide, by decide⟩), hv⟩, trivial⟩, hS.F ht⟩) hS.2.2 dX8_seen_42
      · have hv := hv.2 hc
        refine lv_aload_n hx hb dX8_seen_29 rfl (lv_at hl 0 rfl) ?_
        refine lv_iload_n hx hb dX8_seen_30 rfl (lv_at hl 1 rfl) ?_
        refine lv_iload hx hb dX8_seen_31 (lv_at hl 4 rfl) ?_
        refine lv_iload hx hb dX8_seen_33 (lv_at hl 5 rfl) ?_
        obtain ⟨hp5, hv⟩ := hv
        refine va_calli (va_runV (As := [.int (z_i gi), .int (z_i i2), .int (z_i j2)]) (rest := []) ⟨hx, hb, hml, hown, hts⟩ (mt_X8_has l D cA y y_space y_offset y_length ya_units ya_isThere y_isThere y_levels y_level y_lines y_lineLevel y_lineUnits y_lineFrom y_lineMany y_isClosed y_insides y_parent y_isHigh y_inBits y_sides y_side y_sideA y_sideB y_lineSpace y_wasThere y_leads y_isLed y_isOn y_goesTo y_stream y_filled y_isDone y_isReached y_newUnits y_isNew gi i2 j2 h_y_levels h_y_lines h_y_sides h_y_lineSpace h_gi h_i2 h_j2 hp5) (cwV 3 hts gX8_seen_X8_has rfl rfl rfl (by decide +kernel) ⟨Nat.le_of_ble_eq_true rfl, Nat.le_of_ble_eq_true rfl⟩) ⟨z_bl0, va_recv hK hP (ci := 6) (q0 := 0) rfl rfl, fun U hU hW => ⟨rfl, z_b0 hK (hP.sub (ws' := [(y, .inr (6, [.ref y_space, .ref y_offset, .ref y_length, .ref ya_units, .ref ya_isThere, .int (z_i y_levels), .ref y_level, .int (z_i y_lines), .ref y_lineLevel, .ref y_lineUnits, .ref y_lineFrom, .ref y_lineMany, .ref y_isClosed, .ref y_insides, .ref y_parent, .ref y_isHigh, .ref y_inBits, .int (z_i y_sides), .ref y_side, .ref y_sideA, .ref y_sideB, .int (z_i y_lineSpace), .ref y_wasThere, .ref y_leads, .ref y_isLed, .ref y_isOn, .ref y_goesTo, .ref y_stream, .ref y_filled, .ref y_isDone, .ref y_isReached, .ref y_newUnits, .ref y_isNew])), (ya_isThere, .inl (cA 3, 5120, .inl y_isThere))]) [0, 2] rfl) hU hW⟩⟩ rfl rfl hl.1 rfl (lv_room (Nat.le_of_ble_eq_true rfl)) dX8_seen_35 ⟨Nat.zero_le _, Nat.zero_le _⟩) hS (fun q _ h => h.elim) (fun q h => h.elim) (fun r0 u t H locs ht hvm hw hB hz1 hk1 hS => ?_)
        obtain ⟨r6, rfl, h_r6, hw⟩ := hw
        have hP := z_P_all hP hk1
        have hv := hv r6 h_r6 hw
        refine lx_if_ne (tgt := 43) hx hb dX8_seen_38 (by decide) h_r6 (fun hc => ?_) (fun hc => ?_)
        · have hv := hv.1 hc
          refine lv_aload_n hx hb dX8_seen_43 rfl (lv_at hl 0 rfl) ?_
          refine lv_iload_n hx hb dX8_seen_44 rfl (lv_at hl 1 rfl) ?_
          refine lv_iload_n hx hb dX8_seen_45 rfl (lv_at hl 2 rfl) ?_
          refine lv_iload_n hx hb dX8_seen_46 rfl (lv_at hl 3 rfl) ?_
          obtain ⟨hp7, hv⟩ := hv
          obtain ⟨hp8, hv⟩ := hv
          obtain ⟨hp9, hv⟩ := hv
          refine va_calli (va_runV (As := [.int (z_i gi), .int (z_i i), .int (z_i j)]) (rest := []) ⟨hx, hb, hml, hown, hts⟩ (mt_X8_h l D cA y y_space y_offset y_length ya_units y_units ya_isThere y_levels y_level y_lines y_lineLevel y_lineUnits y_lineFrom y_lineMany y_isClosed y_insides y_parent y_isHigh y_inBits y_sides y_side y_sideA y_sideB y_lineSpace y_wasThere y_leads y_isLed y_isOn y_goesTo y_stream y_filled y_isDone y_isReached y_newUnits y_isNew gi i j h_y_levels h_y_lines h_y_sides h_y_lineSpace h_gi h_i h_j hp7 hp8 hp9) (cwV 3 hts gX8_seen_X8_h rfl rfl rfl (by decide +kernel) ⟨Nat.le_of_ble_eq_true rfl, Nat.le_of_ble_eq_true rfl⟩) ⟨z_bl0, va_recv hK hP (ci := 6) (q0 := 0) rfl rfl, fun U hU hW => ⟨rfl, z_b0 hK (hP.sub (ws' := [(y, .inr (6, [.ref y_space, .ref y_offset, .ref y_length, .ref ya_units, .ref ya_isThere, .int (z_i y_levels), .ref y_level, .int (z_i y_lines), .ref y_lineLevel, .ref y_lineUnits, .ref y_lineFrom, .ref y_lineMany, .ref y_isClosed, .ref y_insides, .ref y_parent, .ref y_isHigh, .ref y_inBits, .int (z_i y_sides), .ref y_side, .ref y_sideA, .ref y_sideB, .int (z_i y_lineSpace), .ref y_wasThere, .ref y_leads, .ref y_isLed, .ref y_isOn, .ref y_goesTo, .ref y_stream, .ref y_filled, .ref y_isDone, .ref y_isReached, .ref y_newUnits, .ref y_isNew])), (ya_units, .inl (cA 1, 5120, .inl y_units))]) [0, 1] rfl) hU hW⟩⟩ rfl rfl hl.1 rfl (lv_room (Nat.le_of_ble_eq_true rfl)) dX8_seen_47 ⟨Nat.zero_le _, Nat.zero_le _⟩) hS (fun q _ h => h.elim) (fun q h => h.elim) (fun r0 u t H locs ht hvm hw hB hz1 hk1 hS => ?_)
          obtain ⟨r10, rfl, h_r10, hw⟩ := hw
          have hP := z_P_all hP hk1
          have hv := hv r10 h_r10 hw
          refine lx_i2l hx hb dX8_seen_50 h_r10 ?_
          refine lx_ldc2 (a := 1024) hx hb hown (hts (.constantLong RX8 253 (1024)) (by decide +kernel)) (by decide) dX8_seen_51 ?_
          refine lv_iload hx hb dX8_seen_54 (lv_at hl 6 rfl) ?_
          refine lx_i2l hx hb dX8_seen_56 h_eye ?_
          refine lx_lmul hx hb dX8_seen_57 ?_
          refine lx_ladd hx hb dX8_seen_58 ?_
          obtain ⟨hr12, hv⟩ := hv
          refine lx_topl (fun v11 hy13 => ?_)
          have hv := hv v11 hy13
          have h_v11 : z_nl v11 := by rw [hy13]; exact hr12
          refine lv_lstore (lv' := [(7, .long (z_l v11)), (0, .ref y), (1, .int (z_i gi)), (2, .int (z_i i)), (3, .int (z_i j)), (4, .int (z_i i2)), (5, .int (z_i j2)), (6, .int (z_i eye))]) hx hb dX8_seen_59 hl (by decide) rfl (fun ls hl => ?_)
          refine lv_aload_n hx hb dX8_seen_61 rfl (lv_at hl 1 rfl) ?_
          refine lv_iload_n hx hb dX8_seen_62 rfl (lv_at hl 2 rfl) ?_
          refine lv_iload hx hb dX8_seen_63 (lv_at hl 5 rfl) ?_
          refine lv_iload hx hb dX8_seen_65 (lv_at hl 6 rfl) ?_
          obtain ⟨hp14, hv⟩ := hv
          obtain ⟨hp15, hv⟩ := hv
          obtain ⟨hp16, hv⟩ := hv
          refine va_calli (va_runV (As := [.int (z_i gi), .int (z_i i2), .int (z_i j2)]) (rest := []) ⟨hx, hb, hml, hown, hts⟩ (mt_X8_h l D cA y y_space y_offset y_length ya_units y_units ya_isThere y_levels y_level y_lines y_lineLevel y_lineUnits y_lineFrom y_lineMany y_isClosed y_insides y_parent y_isHigh y_inBits y_sides y_side y_sideA y_sideB y_lineSpace y_wasThere y_leads y_isLed y_isOn y_goesTo y_stream y_filled y_isDone y_isReached y_newUnits y_isNew gi i2 j2 h_y_levels h_y_lines h_y_sides h_y_lineSpace h_gi h_i2 h_j2 hp14 hp15 hp16) (cwV 3 hts gX8_seen_X8_h rfl rfl rfl (by decide +kernel) ⟨Nat.le_of_ble_eq_true rfl, Nat.le_of_ble_eq_true rfl⟩) ⟨z_bl0, va_recv hK hP (ci := 6) (q0 := 0) rfl rfl, fun U hU hW => ⟨rfl, z_b0 hK (hP.sub (ws' := [(y, .inr (6, [.ref y_space, .ref y_offset, .ref y_length, .ref ya_units, .ref ya_isThere, .int (z_i y_levels), .ref y_level, .int (z_i y_lines), .ref y_lineLevel, .ref y_lineUnits, .ref y_lineFrom, .ref y_lineMany, .ref y_isClosed, .ref y_insides, .ref y_parent, .ref y_isHigh, .ref y_inBits, .int (z_i y_sides), .ref y_side, .ref y_sideA, .ref y_sideB, .int (z_i y_lineSpace), .ref y_wasThere, .ref y_leads, .ref y_isLed, .ref y_isOn, .ref y_goesTo, .ref y_stream, .ref y_filled, .ref y_isDone, .ref y_isReached, .ref y_newUnits, .ref y_isNew])), (ya_units, .inl (cA 1, 5120, .inl y_units))]) [0, 1] rfl) hU hW⟩⟩ rfl rfl hl.1 rfl (lv_room (Nat.le_of_ble_eq_true rfl)) dX8_seen_67 ⟨Nat.zero_le _, Nat.zero_le _⟩) hS (fun q _ h => h.elim) (fun q h => h.elim) (fun r0 u t H locs ht hvm hw hB hz1 hk1 hS => ?_)
          obtain ⟨r17, rfl, h_r17, hw⟩ := hw
          have hP := z_P_all hP hk1
          have hv := hv r17 h_r17 hw
          refine lx_i2l hx hb dX8_seen_70 h_r17 ?_
          refine lv_lstore (lv' := [(9, .long (z_l r17)), (7, .long (z_l v11)), (0, .ref y), (1, .int (z_i gi)), (2, .int (z_i i)), (3, .int (z_i j)), (4, .int (z_i i2)), (5, .int (z_i j2)), (6, .int (z_i eye))]) hx hb dX8_seen_71 hl (by decide) rfl (fun ls hl => ?_)
          have hv := hv (fun (s90_0 : Int) => ∀ (H : Heap) (locs : List Loc) (ls : Array Slot), va_P D vwCl [(y, .inr (6, [.ref y_space, .ref y_offset, .ref y_length, .ref ya_units, .ref ya_isThere, .int (z_i y_levels), .ref y_level, .int (z_i y_lines), .ref y_lineLevel, .ref y_lineUnits, .ref y_lineFrom, .ref y_lineMany, .ref y_isClosed, .ref y_insides, .ref y_parent, .ref y_isHigh, .ref y_inBits, .int (z_i y_sides), .ref y_side, .ref y_sideA, .ref y_sideB, .int (z_i y_lineSpace), .ref y_wasThere, .ref y_leads, .ref y_isLed, .ref y_isOn, .ref y_goesTo, .ref y_stream, .ref y_filled, .ref y_isDone, .ref y_isReached, .ref y_newUnits, .ref y_isNew])), (ya_units, .inl (cA 1, 5120, .inl y_units)), (ya_isThere, .inl (cA 3, 5120, .inl y_isThere))] H → va_S (fun _ : Nat => False) s.heap H locs → lv_has ls 15 [(9, .long (z_l r17)), (7, .long (z_l v11)), (0, .ref y), (1, .int (z_i gi)), (2, .int (z_i i)), (3, .int (z_i j)), (4, .int (z_i i2)), (5, .int (z_i j2))] → W p l e (headSpec wsX8_seen ({ frames := 4, cells := 0, slots := 0, locals := 101 } : Room)).room s m ([.ref y, .int (z_i gi), .int (z_i i), .int (z_i j), .int (z_i i2), .int (z_i j2), .int (z_i eye)]).toArray below meth c H locs 0 0 (MQ below (va_Qi (z_ri Q) (fun _ _ => True) (fun _ => False)) ([.ref y, .int (z_i gi), .int (z_i i), .int (z_i j), .int (z_i i2), .int (z_i j2), .int (z_i eye)]).toArray s 0 0 (fun _ => False)) (F0 m 90 ls [.int (z_i s90_0)])) (by
            intro s90_0 h_s90_0 hv H locs ls hP hS hl
            refine lv_istore (lv' := [(11, .int (z_i s90_0)), (9, .long (z_l r17)), (7, .long (z_l v11)), (0, .ref y), (1, .int (z_i gi)), (2, .int (z_i i)), (3, .int (z_i j)), (4, .int (z_i i2)), (5, .int (z_i j2))]) hx hb dX8_seen_90 hl (by decide) rfl (fun ls hl => ?_)
            have hv := hv (fun (s109_0 : Int) => ∀ (H : Heap) (locs : List Loc) (ls : Array Slot), va_P D vwCl [(y, .inr (6, [.ref y_space, .ref y_offset, .ref y_length, .ref ya_units, .ref ya_isThere, .int (z_i y_levels), .ref y_level, .int (z_i y_lines), .ref y_lineLevel, .ref y_lineUnits, .ref y_lineFrom, .ref y_lineMany, .ref y_isClosed, .ref y_insides, .ref y_parent, .ref y_isHigh, .ref y_inBits, .int (z_i y_sides), .ref y_side, .ref y_sideA, .ref y_sideB, .int (z_i y_lineSpace), .ref y_wasThere, .ref y_leads, .ref y_isLed, .ref y_isOn, .ref y_goesTo, .ref y_stream, .ref y_filled, .ref y_isDone, .ref y_isReached, .ref y_newUnits, .ref y_isNew])), (ya_units, .inl (cA 1, 5120, .inl y_units)), (ya_isThere, .inl (cA 3, 5120, .inl y_isThere))] H → va_S (fun _ : Nat => False) s.heap H locs → lv_has ls 15 [(11, .int (z_i s90_0)), (9, .long (z_l r17)), (7, .long (z_l v11)), (0, .ref y), (1, .int (z_i gi)), (2, .int (z_i i)), (3, .int (z_i j)), (4, .int (z_i i2)), (5, .int (z_i j2))] → W p l e (headSpec wsX8_seen ({ frames := 4, cells := 0, slots := 0, locals := 101 } : Room)).room s m ([.ref y, .int (z_i gi), .int (z_i i), .int (z_i j), .int (z_i i2), .int (z_i j2), .int (z_i eye)]).toArray below meth c H locs 0 0 (MQ below (va_Qi (z_ri Q) (fun _ _ => True) (fun _ => False)) ([.ref y, .int (z_i gi), .int (z_i i), .int (z_i j), .int (z_i i2), .int (z_i j2), .int (z_i eye)]).toArray s 0 0 (fun _ => False)) (F0 m 109 ls [.int (z_i s109_0)])) (by
              intro s109_0 h_s109_0 hv H locs ls hP hS hl
              refine lv_istore (lv' := [(12, .int (z_i s109_0)), (11, .int (z_i s90_0)), (9, .long (z_l r17)), (7, .long (z_l v11)), (0, .ref y), (1, .int (z_i gi)), (2, .int (z_i i)), (3, .int (z_i j)), (4, .int (z_i i2)), (5, .int (z_i j2))]) hx hb dX8_seen_109 hl (by decide) rfl (fun ls hl => ?_)
              refine lv_iconst (v := z_i 1) hx hb dX8_seen_111 rfl ?_
              refine lv_istore (lv' := [(13, .int (z_i 1)), (12, .int (z_i s109_0)), (11, .int (z_i s90_0)), (9, .long (z_l r17)), (7, .long (z_l v11)), (0, .ref y), (1, .int (z_i gi)), (2, .int (z_i i)), (3, .int (z_i j)), (4, .int (z_i i2)), (5, .int (z_i j2))]) hx hb dX8_seen_112 hl (by decide) rfl (fun ls hl => ?_)
              refine lv_iconst (v := z_i 1) hx hb dX8_seen_114 rfl ?_
              refine lv_istore (lv' := [(14, .int (z_i 1)), (13, .int (z_i 1)), (12, .int (z_i s109_0)), (11, .int (z_i s90_0)), (9, .long (z_l r17)), (7, .long (z_l v11)), (0, .ref y), (1, .int (z_i gi)), (2, .int (z_i i)), (3, .int (z_i j)), (4, .int (z_i i2)), (5, .int (z_i j2))]) hx hb dX8_seen_115 hl (by decide) rfl (fun ls hl => ?_)
              refine hv (fun (x117_14 : Int) (x117_13 : Int) => ∀ (H : Heap) (locs : List Loc) (ls : Array Slot), va_P D vwCl [(y, .inr (6, [.ref y_space, .ref y_offset, .ref y_length, .ref ya_units, .ref ya_isThere, .int (z_i y_levels), .ref y_level, .int (z_i y_lines), .ref y_lineLevel, .ref y_lineUnits, .ref y_lineFrom, .ref y_lineMany, .ref y_isClosed, .ref y_insides, .ref y_parent, .ref y_isHigh, .ref y_inBits, .int (z_i y_sides), .ref y_side, .ref y_sideA, .ref y_sideB, .int (z_i y_lineSpace), .ref y_wasThere, .ref y_leads, .ref y_isLed, .ref y_isOn, .ref y_goesTo, .ref y_stream, .ref y_filled, .ref y_isDone, .ref y_isReached, .ref y_newUnits, .ref y_isNew])), (ya_units, .inl (cA 1, 5120, .inl y_units)), (ya_isThere, .inl (cA 3, 5120, .inl y_isThere))] H → va_S (fun _ : Nat => False) s.heap H locs → lv_has ls 15 [(14, .int (z_i x117_14)), (13, .int (z_i x117_13)), (12, .int (z_i s109_0)), (11, .int (z_i s90_0)), (9, .long (z_l r17)), (7, .long (z_l v11)), (0, .ref y), (1, .int (z_i gi)), (2, .int (z_i i)), (3, .int (z_i j)), (4, .int (z_i i2)), (5, .int (z_i j2))] → W p l e _ s m _ below meth c H locs 0 0 _ (F0 m 117 ls [])) ?_ _ _ ls hP hS (lv_sub hl [0, 1, 2, 3, 4, 5, 6, 7, 8, 9, 10, 11] rfl)
              intro x117_14 x117_13 h_x117_14 h_x117_13 hv H locs ls hP hS hl
              refine lv_iload hx hb dX8_seen_117 (lv_at hl 0 rfl) ?_
              refine lv_iload hx hb dX8_seen_119 (lv_at hl 3 rfl) ?_
              refine lx_icmp_ge (tgt := 197) hx hb dX8_seen_121 (by decide) h_x117_14 h_s90_0 (fun hc => ?_) (fun hc => ?_)
              · have hv := hv.1 hc
                refine lv_iconst (v := z_i 1) hx hb dX8_seen_197 rfl ?_
                refine lv_istore (lv' := [(14, .int (z_i 1)), (13, .int (z_i x117_13)), (12, .int (z_i s109_0)), (11, .int (z_i s90_0)), (9, .long (z_l r17)), (7, .long (z_l v11)), (0, .ref y), (1, .int (z_i gi)), (2, .int (z_i i)), (3, .int (z_i j)), (4, .int (z_i i2)), (5, .int (z_i j2))]) hx hb dX8_seen_198 hl (by decide) rfl (fun ls hl => ?_)
                refine hv (fun (x200_14 : Int) (x200_13 : Int) => ∀ (H : Heap) (locs : List Loc) (ls : Array Slot), va_P D vwCl [(y, .inr (6, [.ref y_space, .ref y_offset, .ref y_length, .ref ya_units, .ref ya_isThere, .int (z_i y_levels), .ref y_level, .int (z_i y_lines), .ref y_lineLevel, .ref y_lineUnits, .ref y_lineFrom, .ref y_lineMany, .ref y_isClosed, .ref y_insides, .ref y_parent, .ref y_isHigh, .ref y_inBits, .int (z_i y_sides), .ref y_side, .ref y_sideA, .ref y_sideB, .int (z_i y_lineSpace), .ref y_wasThere, .ref y_leads, .ref y_isLed, .ref y_isOn, .ref y_goesTo, .ref y_stream, .ref y_filled, .ref y_isDone, .ref y_isReached, .ref y_newUnits, .ref y_isNew])), (ya_units, .inl (cA 1, 5120, .inl y_units)), (ya_isThere, .inl (cA 3, 5120, .inl y_isThere))] H → va_S (fun _ : Nat => False) s.heap H locs → lv_has ls 15 [(14, .int (z_i x200_14)), (13, .int (z_i x200_13)), (12, .int (z_i s109_0)), (9, .long (z_l r17)), (7, .long (z_l v11)), (0, .ref y), (1, .int (z_i gi)), (2, .int (z_i i)), (3, .int (z_i j)), (4, .int (z_i i2)), (5, .int (z_i j2))] → W p l e _ s m _ below meth c H locs 0 0 _ (F0 m 200 ls [])) ?_ _ _ ls hP hS (lv_sub hl [0, 1, 2, 4, 5, 6, 7, 8, 9, 10, 11] rfl)
                intro x200_14 x200_13 h_x200_14 h_x200_13 hv H locs ls hP hS hl
                refine lv_iload hx hb dX8_seen_200 (lv_at hl 0 rfl) ?_
                refine lv_iload hx hb dX8_seen_202 (lv_at hl 2 rfl) ?_
                refine lx_icmp_ge (tgt := 280) hx hb dX8_seen_204 (by decide) h_x200_14 h_s109_0 (fun hc => ?_) (fun hc => ?_)
                · have hv := hv.1 hc
                  refine lv_iload hx hb dX8_seen_280 (lv_at hl 1 rfl) ?_
                  refine lx_if_eq (tgt := 289) hx hb dX8_seen_282 (by decide) h_x200_13 (fun hc => ?_) (fun hc => ?_)
                  · have hv := hv.1 hc
                    refine lv_iconst (v := z_i 0) hx hb dX8_seen_289 rfl ?_
                    exact W.iret (v := z_i 0) hx hb hr (fun t ht hW => ⟨⟨z_i 0, (), rfl, ⟨0, rfl, (show z_in 0 from ⟨by decide, by decide⟩), hv⟩, trivial⟩, hS.F ht⟩) hS.2.2 dX8_seen_290
                  · have hv := hv.2 hc
                    refine lv_iconst (v := z_i 1) hx hb dX8_seen_285 rfl ?_
                    refine lv_goto (tgt := 290) hx hb dX8_seen_286 (by decide) ?_
                    exact W.iret (v := z_i 1) hx hb hr (fun t ht hW => ⟨⟨z_i 1, (), rfl, ⟨1, rfl, (show z_in 1 from ⟨by decide, by decide⟩), hv⟩, trivial⟩, hS.F ht⟩) hS.2.2 dX8_seen_290
                · have hv := hv.2 hc
                  refine lv_iload hx hb dX8_seen_207 (lv_at hl 1 rfl) ?_
                  refine lx_if_eq (tgt := 271) hx hb dX8_seen_209 (by decide) h_x200_13 (fun hc => ?_) (fun hc => ?_)
                  · have hv := hv.1 hc
                    refine lv_iconst (v := z_i 0) hx hb dX8_seen_271 rfl ?_
                    refine lv_istore (lv' := [(13, .int (z_i 0)), (14, .int (z_i x200_14)), (12, .int (z_i s109_0)), (9, .long (z_l r17)), (7, .long (z_l v11)), (0, .ref y), (1, .int (z_i gi)), (2, .int (z_i i)), (3, .int (z_i j)), (4, .int (z_i i2)), (5, .int (z_i j2))]) hx hb dX8_seen_272 hl (by decide) rfl (fun ls hl => ?_)
                    refine lv_iinc (v := z_i (x200_14 + 1)) (lv' := [(14, .int (z_i (x200_14 + 1))), (13, .int (z_i 0)), (12, .int (z_i s109_0)), (9, .long (z_l r17)), (7, .long (z_l v11)), (0, .ref y), (1, .int (z_i gi)), (2, .int (z_i i)), (3, .int (z_i j)), (4, .int (z_i i2)), (5, .int (z_i j2))]) hx hb dX8_seen_274 hl (k := 1) rfl (z_i_add _ _) (by decide) rfl (fun ls hl => ?_)
                    refine lv_goto (tgt := 200) hx hb dX8_seen_277 (by decide) ?_
                    exact hv _ _ ls hP hS (lv_sub hl [0, 1, 2, 3, 4, 5, 6, 7, 8, 9, 10] rfl)
                  · have hv := hv.2 hc
                    refine lv_aload_n hx hb dX8_seen_212 rfl (lv_at hl 5 rfl) ?_
                    refine lv_iload_n hx hb dX8_seen_213 rfl (lv_at hl 6 rfl) ?_
                    refine lv_iload_n hx hb dX8_seen_214 rfl (lv_at hl 8 rfl) ?_
                    refine lv_iload hx hb dX8_seen_215 (lv_at hl 10 rfl) ?_
                    refine lv_iload_n hx hb dX8_seen_217 rfl (lv_at hl 8 rfl) ?_
                    refine lx_isub hx hb dX8_seen_218 ?_
                    obtain ⟨hr18, hv⟩ := hv
                    refine va_calli (va_runS (As := [.int (z_i (j2 - j))]) (rest := [.int (z_i j), .int (z_i gi), .ref y]) ⟨hx, hb, hml, hown, hts⟩ (mt_X8_sign l D cA (j2 - j) hr18) (va_cwS 1 hts gX8_seen_X8_sign rfl rfl rfl (by decide +kernel) ⟨Nat.le_of_ble_eq_true rfl, Nat.le_of_ble_eq_true rfl⟩) ⟨z_bl0, fun U hU hW => ⟨rfl, z_b0 hK (hP.sub (ws' := []) [] rfl) hU hW⟩⟩ rfl rfl hl.1 rfl (lv_room (Nat.le_of_ble_eq_true rfl)) dX8_seen_219 ⟨Nat.zero_le _, Nat.zero_le _⟩) hS (fun q _ h => h.elim) (fun q h => h.elim) (fun r0 u t H locs ht hvm hw hB hz1 hk1 hS => ?_)
                    obtain ⟨r19, rfl, h_r19, hw⟩ := hw
                    have hP := z_P_all hP hk1
                    have hv := hv r19 h_r19 hw
                    refine lv_iload hx hb dX8_seen_222 (lv_at hl 0 rfl) ?_
                    refine lx_imul hx hb dX8_seen_224 ?_
                    refine lx_iadd hx hb dX8_seen_225 ?_
                    refine lv_iload_n hx hb dX8_seen_226 rfl (lv_at hl 7 rfl) ?_
                    refine lx_i2l hx hb dX8_seen_227 h_i ?_
                    refine lv_iload hx hb dX8_seen_228 (lv_at hl 2 rfl) ?_
                    refine lx_i2l hx hb dX8_seen_230 h_s109_0 ?_
                    refine lx_lmul hx hb dX8_seen_231 ?_
                    refine lv_iload hx hb dX8_seen_232 (lv_at hl 9 rfl) ?_
                    refine lv_iload_n hx hb dX8_seen_234 rfl (lv_at hl 7 rfl) ?_
                    refine lx_isub hx hb dX8_seen_235 ?_
                    obtain ⟨hr20, hv⟩ := hv
                    refine lx_i2l hx hb dX8_seen_236 hr20 ?_
                    refine lv_iload hx hb dX8_seen_237 (lv_at hl 0 rfl) ?_
                    refine lx_i2l hx hb dX8_seen_239 h_x200_14 ?_
                    refine lx_lmul hx hb dX8_seen_240 ?_
                    refine lx_ladd hx hb dX8_seen_241 ?_
                    refine lv_iload hx hb dX8_seen_242 (lv_at hl 2 rfl) ?_
                    refine lv_iconst (v := z_i 0) hx hb dX8_seen_244 rfl ?_
                    refine lv_lload hx hb dX8_seen_245 (lv_at hl 4 rfl) ?_
                    refine lv_iload hx hb dX8_seen_247 (lv_at hl 2 rfl) ?_
                    refine lv_iload hx hb dX8_seen_249 (lv_at hl 0 rfl) ?_
                    refine lx_isub hx hb dX8_seen_251 ?_
                    obtain ⟨hr21, hv⟩ := hv
                    refine lx_i2l hx hb dX8_seen_252 hr21 ?_
                    refine lx_lmul hx hb dX8_seen_253 ?_
                    refine lv_lload hx hb dX8_seen_254 (lv_at hl 3 rfl) ?_
                    refine lv_iload hx hb dX8_seen_256 (lv_at hl 0 rfl) ?_
                    refine lx_i2l hx hb dX8_seen_258 h_x200_14 ?_
                    refine lx_lmul hx hb dX8_seen_259 ?_
                    refine lx_ladd hx hb dX8_seen_260 ?_
                    obtain ⟨hr22, hv⟩ := hv
                    obtain ⟨hr23, hv⟩ := hv
                    obtain ⟨hr24, hv⟩ := hv
                    obtain ⟨hp25, hv⟩ := hv
                    obtain ⟨hp26, hv⟩ := hv
                    obtain ⟨hp27, hv⟩ := hv
                    obtain ⟨hp28, hv⟩ := hv
                    refine va_calli (va_runV (As := [.int (z_i gi), .int (z_i (j + (r19 * x200_14))), .long (z_l ((i * s109_0) + ((i2 - i) * x200_14))), .int (z_i s109_0), .int (z_i 0), .long (z_l ((v11 * (s109_0 - x200_14)) + (r17 * x200_14)))]) (rest := []) ⟨hx, hb, hml, hown, hts⟩ (mt_X8_isLow l D cA y y_space y_offset y_length ya_units y_units ya_isThere y_isThere y_levels y_level y_lines y_lineLevel y_lineUnits y_lineFrom y_lineMany y_isClosed y_insides y_parent y_isHigh y_inBits y_sides y_side y_sideA y_sideB y_lineSpace y_wasThere y_leads y_isLed y_isOn y_goesTo y_stream y_filled y_isDone y_isReached y_newUnits y_isNew gi (j + (r19 * x200_14)) ((i * s109_0) + ((i2 - i) * x200_14)) s109_0 0 ((v11 * (s109_0 - x200_14)) + (r17 * x200_14)) h_y_levels h_y_lines h_y_sides h_y_lineSpace h_gi hr22 hr23 h_s109_0 (show z_in 0 from ⟨by decide, by decide⟩) hr24 hp25 hp26 hp27 hp28) (cwV 6 hts gX8_seen_X8_isLow rfl rfl rfl (by decide +kernel) ⟨Nat.le_of_ble_eq_true rfl, Nat.le_of_ble_eq_true rfl⟩) ⟨z_bl0, va_recv hK hP (ci := 6) (q0 := 0) rfl rfl, fun U hU hW => ⟨rfl, z_b0 hK hP hU hW⟩⟩ rfl rfl hl.1 rfl (lv_room (Nat.le_of_ble_eq_true rfl)) dX8_seen_261 ⟨Nat.zero_le _, Nat.zero_le _⟩) hS (fun q _ h => h.elim) (fun q h => h.elim) (fun r0 u t H locs ht hvm hw hB hz1 hk1 hS => ?_)
                    obtain ⟨r29, rfl, h_r29, hw⟩ := hw
                    have hP := z_P_all hP hk1
                    have hv := hv r29 h_r29 hw
                    refine lx_if_eq (tgt := 271) hx hb dX8_seen_264 (by decide) h_r29 (fun hc => ?_) (fun hc => ?_)
                    · have hv := hv.1 hc
                      refine lv_iconst (v := z_i 0) hx hb dX8_seen_271 rfl ?_
                      refine lv_istore (lv' := [(13, .int (z_i 0)), (14, .int (z_i x200_14)), (12, .int (z_i s109_0)), (9, .long (z_l r17)), (7, .long (z_l v11)), (0, .ref y), (1, .int (z_i gi)), (2, .int (z_i i)), (3, .int (z_i j)), (4, .int (z_i i2)), (5, .int (z_i j2))]) hx hb dX8_seen_272 hl (by decide) rfl (fun ls hl => ?_)
                      refine lv_iinc (v := z_i (x200_14 + 1)) (lv' := [(14, .int (z_i (x200_14 + 1))), (13, .int (z_i 0)), (12, .int (z_i s109_0)), (9, .long (z_l r17)), (7, .long (z_l v11)), (0, .ref y), (1, .int (z_i gi)), (2, .int (z_i i)), (3, .int (z_i j)), (4, .int (z_i i2)), (5, .int (z_i j2))]) hx hb dX8_seen_274 hl (k := 1) rfl (z_i_add _ _) (by decide) rfl (fun ls hl => ?_)
                      refine lv_goto (tgt := 200) hx hb dX8_seen_277 (by decide) ?_
                      exact hv _ _ ls hP hS (lv_sub hl [0, 1, 2, 3, 4, 5, 6, 7, 8, 9, 10] rfl)
                    · have hv := hv.2 hc
                      refine lv_iconst (v := z_i 1) hx hb dX8_seen_267 rfl ?_
                      refine lv_goto (tgt := 272) hx hb dX8_seen_268 (by decide) ?_
                      refine lv_istore (lv' := [(13, .int (z_i 1)), (14, .int (z_i x200_14)), (12, .int (z_i s109_0)), (9, .long (z_l r17)), (7, .long (z_l v11)), (0, .ref y), (1, .int (z_i gi)), (2, .int (z_i i)), (3, .int (z_i j)), (4, .int (z_i i2)), (5, .int (z_i j2))]) hx hb dX8_seen_272 hl (by decide) rfl (fun ls hl => ?_)
                      refine lv_iinc (v := z_i (x200_14 + 1)) (lv' := [(14, .int (z_i (x200_14 + 1))), (13, .int (z_i 1)), (12, .int (z_i s109_0)), (9, .long (z_l r17)), (7, .long (z_l v11)), (0, .ref y), (1, .int (z_i gi)), (2, .int (z_i i)), (3, .int (z_i j)), (4, .int (z_i i2)), (5, .int (z_i j2))]) hx hb dX8_seen_274 hl (k := 1) rfl (z_i_add _ _) (by decide) rfl (fun ls hl => ?_)
                      refine lv_goto (tgt := 200) hx hb dX8_seen_277 (by decide) ?_
                      exact hv _ _ ls hP hS (lv_sub hl [0, 1, 2, 3, 4, 5, 6, 7, 8, 9, 10] rfl)
              · have hv := hv.2 hc
                refine lv_iload hx hb dX8_seen_124 (lv_at hl 1 rfl) ?_
                refine lx_if_eq (tgt := 188) hx hb dX8_seen_126 (by decide) h_x117_13 (fun hc => ?_) (fun hc => ?_)
                · have hv := hv.1 hc
                  refine lv_iconst (v := z_i 0) hx hb dX8_seen_188 rfl ?_
                  refine lv_istore (lv' := [(13, .int (z_i 0)), (14, .int (z_i x117_14)), (12, .int (z_i s109_0)), (11, .int (z_i s90_0)), (9, .long (z_l r17)), (7, .long (z_l v11)), (0, .ref y), (1, .int (z_i gi)), (2, .int (z_i i)), (3, .int (z_i j)), (4, .int (z_i i2)), (5, .int (z_i j2))]) hx hb dX8_seen_189 hl (by decide) rfl (fun ls hl => ?_)
                  refine lv_iinc (v := z_i (x117_14 + 1)) (lv' := [(14, .int (z_i (x117_14 + 1))), (13, .int (z_i 0)), (12, .int (z_i s109_0)), (11, .int (z_i s90_0)), (9, .long (z_l r17)), (7, .long (z_l v11)), (0, .ref y), (1, .int (z_i gi)), (2, .int (z_i i)), (3, .int (z_i j)), (4, .int (z_i i2)), (5, .int (z_i j2))]) hx hb dX8_seen_191 hl (k := 1) rfl (z_i_add _ _) (by decide) rfl (fun ls hl => ?_)
                  refine lv_goto (tgt := 117) hx hb dX8_seen_194 (by decide) ?_
                  exact hv _ _ ls hP hS (lv_sub hl [0, 1, 2, 3, 4, 5, 6, 7, 8, 9, 10, 11] rfl)
                · have hv := hv.2 hc
                  refine lv_aload_n hx hb dX8_seen_129 rfl (lv_at hl 6 rfl) ?_
                  refine lv_iload_n hx hb dX8_seen_130 rfl (lv_at hl 7 rfl) ?_
                  refine lv_iload_n hx hb dX8_seen_131 rfl (lv_at hl 8 rfl) ?_
                  refine lv_iload hx hb dX8_seen_132 (lv_at hl 10 rfl) ?_
                  refine lv_iload_n hx hb dX8_seen_134 rfl (lv_at hl 8 rfl) ?_
                  refine lx_isub hx hb dX8_seen_135 ?_
                  obtain ⟨hr30, hv⟩ := hv
                  refine va_calli (va_runS (As := [.int (z_i (i2 - i))]) (rest := [.int (z_i i), .int (z_i gi), .ref y]) ⟨hx, hb, hml, hown, hts⟩ (mt_X8_sign l D cA (i2 - i) hr30) (va_cwS 1 hts gX8_seen_X8_sign rfl rfl rfl (by decide +kernel) ⟨Nat.le_of_ble_eq_true rfl, Nat.le_of_ble_eq_true rfl⟩) ⟨z_bl0, fun U hU hW => ⟨rfl, z_b0 hK (hP.sub (ws' := []) [] rfl) hU hW⟩⟩ rfl rfl hl.1 rfl (lv_room (Nat.le_of_ble_eq_true rfl)) dX8_seen_136 ⟨Nat.zero_le _, Nat.zero_le _⟩) hS (fun q _ h => h.elim) (fun q h => h.elim) (fun r0 u t H locs ht hvm hw hB hz1 hk1 hS => ?_)
                  obtain ⟨r31, rfl, h_r31, hw⟩ := hw
                  have hP := z_P_all hP hk1
                  have hv := hv r31 h_r31 hw
                  refine lv_iload hx hb dX8_seen_139 (lv_at hl 0 rfl) ?_
                  refine lx_imul hx hb dX8_seen_141 ?_
                  refine lx_iadd hx hb dX8_seen_142 ?_
                  refine lv_iload_n hx hb dX8_seen_143 rfl (lv_at hl 9 rfl) ?_
                  refine lx_i2l hx hb dX8_seen_144 h_j ?_
                  refine lv_iload hx hb dX8_seen_145 (lv_at hl 3 rfl) ?_
                  refine lx_i2l hx hb dX8_seen_147 h_s90_0 ?_
                  refine lx_lmul hx hb dX8_seen_148 ?_
                  refine lv_iload hx hb dX8_seen_149 (lv_at hl 11 rfl) ?_
                  refine lv_iload_n hx hb dX8_seen_151 rfl (lv_at hl 9 rfl) ?_
                  refine lx_isub hx hb dX8_seen_152 ?_
                  obtain ⟨hr32, hv⟩ := hv
                  refine lx_i2l hx hb dX8_seen_153 hr32 ?_
                  refine lv_iload hx hb dX8_seen_154 (lv_at hl 0 rfl) ?_
                  refine lx_i2l hx hb dX8_seen_156 h_x117_14 ?_
                  refine lx_lmul hx hb dX8_seen_157 ?_
                  refine lx_ladd hx hb dX8_seen_158 ?_
                  refine lv_iload hx hb dX8_seen_159 (lv_at hl 3 rfl) ?_
                  refine lv_iconst (v := z_i 1) hx hb dX8_seen_161 rfl ?_
                  refine lv_lload hx hb dX8_seen_162 (lv_at hl 5 rfl) ?_
                  refine lv_iload hx hb dX8_seen_164 (lv_at hl 3 rfl) ?_
                  refine lv_iload hx hb dX8_seen_166 (lv_at hl 0 rfl) ?_
                  refine lx_isub hx hb dX8_seen_168 ?_
                  obtain ⟨hr33, hv⟩ := hv
                  refine lx_i2l hx hb dX8_seen_169 hr33 ?_
                  refine lx_lmul hx hb dX8_seen_170 ?_
                  refine lv_lload hx hb dX8_seen_171 (lv_at hl 4 rfl) ?_
                  refine lv_iload hx hb dX8_seen_173 (lv_at hl 0 rfl) ?_
                  refine lx_i2l hx hb dX8_seen_175 h_x117_14 ?_
                  refine lx_lmul hx hb dX8_seen_176 ?_
                  refine lx_ladd hx hb dX8_seen_177 ?_
                  obtain ⟨hr34, hv⟩ := hv
                  obtain ⟨hr35, hv⟩ := hv
                  obtain ⟨hr36, hv⟩ := hv
                  obtain ⟨hp37, hv⟩ := hv
                  obtain ⟨hp38, hv⟩ := hv
                  obtain ⟨hp39, hv⟩ := hv
                  obtain ⟨hp40, hv⟩ := hv
                  refine va_calli (va_runV (As := [.int (z_i gi), .int (z_i (i + (r31 * x117_14))), .long (z_l ((j * s90_0) + ((j2 - j) * x117_14))), .int (z_i s90_0), .int (z_i 1), .long (z_l ((v11 * (s90_0 - x117_14)) + (r17 * x117_14)))]) (rest := []) ⟨hx, hb, hml, hown, hts⟩ (mt_X8_isLow l D cA y y_space y_offset y_length ya_units y_units ya_isThere y_isThere y_levels y_level y_lines y_lineLevel y_lineUnits y_lineFrom y_lineMany y_isClosed y_insides y_parent y_isHigh y_inBits y_sides y_side y_sideA y_sideB y_lineSpace y_wasThere y_leads y_isLed y_isOn y_goesTo y_stream y_filled y_isDone y_isReached y_newUnits y_isNew gi (i + (r31 * x117_14)) ((j * s90_0) + ((j2 - j) * x117_14)) s90_0 1 ((v11 * (s90_0 - x117_14)) + (r17 * x117_14)) h_y_levels h_y_lines h_y_sides h_y_lineSpace h_gi hr34 hr35 h_s90_0 (show z_in 1 from ⟨by decide, by decide⟩) hr36 hp37 hp38 hp39 hp40) (cwV 6 hts gX8_seen_X8_isLow rfl rfl rfl (by decide +kernel) ⟨Nat.le_of_ble_eq_true rfl, Nat.le_of_ble_eq_true rfl⟩) ⟨z_bl0, va_recv hK hP (ci := 6) (q0 := 0) rfl rfl, fun U hU hW => ⟨rfl, z_b0 hK hP hU hW⟩⟩ rfl rfl hl.1 rfl (lv_room (Nat.le_of_ble_eq_true rfl)) dX8_seen_178 ⟨Nat.zero_le _, Nat.zero_le _⟩) hS (fun q _ h => h.elim) (fun q h => h.elim) (fun r0 u t H locs ht hvm hw hB hz1 hk1 hS => ?_)
                  obtain ⟨r41, rfl, h_r41, hw⟩ := hw
                  have hP := z_P_all hP hk1
                  have hv := hv r41 h_r41 hw
                  refine lx_if_eq (tgt := 188) hx hb dX8_seen_181 (by decide) h_r41 (fun hc => ?_) (fun hc => ?_)
                  · have hv := hv.1 hc
                    refine lv_iconst (v := z_i 0) hx hb dX8_seen_188 rfl ?_
                    refine lv_istore (lv' := [(13, .int (z_i 0)), (14, .int (z_i x117_14)), (12, .int (z_i s109_0)), (11, .int (z_i s90_0)), (9, .long (z_l r17)), (7, .long (z_l v11)), (0, .ref y), (1, .int (z_i gi)), (2, .int (z_i i)), (3, .int (z_i j)), (4, .int (z_i i2)), (5, .int (z_i j2))]) hx hb dX8_seen_189 hl (by decide) rfl (fun ls hl => ?_)
                    refine lv_iinc (v := z_i (x117_14 + 1)) (lv' := [(14, .int (z_i (x117_14 + 1))), (13, .int (z_i 0)), (12, .int (z_i s109_0)), (11, .int (z_i s90_0)), (9, .long (z_l r17)), (7, .long (z_l v11)), (0, .ref y), (1, .int (z_i gi)), (2, .int (z_i i)), (3, .int (z_i j)), (4, .int (z_i i2)), (5, .int (z_i j2))]) hx hb dX8_seen_191 hl (k := 1) rfl (z_i_add _ _) (by decide) rfl (fun ls hl => ?_)
                    refine lv_goto (tgt := 117) hx hb dX8_seen_194 (by decide) ?_
                    exact hv _ _ ls hP hS (lv_sub hl [0, 1, 2, 3, 4, 5, 6, 7, 8, 9, 10, 11] rfl)
                  · have hv := hv.2 hc
                    refine lv_iconst (v := z_i 1) hx hb dX8_seen_184 rfl ?_
                    refine lv_goto (tgt := 189) hx hb dX8_seen_185 (by decide) ?_
                    refine lv_istore (lv' := [(13, .int (z_i 1)), (14, .int (z_i x117_14)), (12, .int (z_i s109_0)), (11, .int (z_i s90_0)), (9, .long (z_l r17)), (7, .long (z_l v11)), (0, .ref y), (1, .int (z_i gi)), (2, .int (z_i i)), (3, .int (z_i j)), (4, .int (z_i i2)), (5, .int (z_i j2))]) hx hb dX8_seen_189 hl (by decide) rfl (fun ls hl => ?_)
                    refine lv_iinc (v := z_i (x117_14 + 1)) (lv' := [(14, .int (z_i (x117_14 + 1))), (13, .int (z_i 1)), (12, .int (z_i s109_0)), (11, .int (z_i s90_0)), (9, .long (z_l r17)), (7, .long (z_l v11)), (0, .ref y), (1, .int (z_i gi)), (2, .int (z_i i)), (3, .int (z_i j)), (4, .int (z_i i2)), (5, .int (z_i j2))]) hx hb dX8_seen_191 hl (k := 1) rfl (z_i_add _ _) (by decide) rfl (fun ls hl => ?_)
                    refine lv_goto (tgt := 117) hx hb dX8_seen_194 (by decide) ?_
                    exact hv _ _ ls hP hS (lv_sub hl [0, 1, 2, 3, 4, 5, 6, 7, 8, 9, 10, 11] rfl))
            refine lv_iload hx hb dX8_seen_92 (lv_at hl 8 rfl) ?_
            refine lv_iload_n hx hb dX8_seen_94 rfl (lv_at hl 6 rfl) ?_
            refine lx_icmp_le (tgt := 105) hx hb dX8_seen_95 (by decide) h_j2 h_j (fun hc => ?_) (fun hc => ?_)
            · have hv := hv.1 hc
              refine lv_iload_n hx hb dX8_seen_105 rfl (lv_at hl 6 rfl) ?_
              refine lv_iload hx hb dX8_seen_106 (lv_at hl 8 rfl) ?_
              refine lx_isub hx hb dX8_seen_108 ?_
              exact hv _ _ ls hP hS (lv_sub hl [0, 1, 2, 3, 4, 5, 6, 7, 8] rfl)
            · have hv := hv.2 hc
              refine lv_iload hx hb dX8_seen_98 (lv_at hl 8 rfl) ?_
              refine lv_iload_n hx hb dX8_seen_100 rfl (lv_at hl 6 rfl) ?_
              refine lx_isub hx hb dX8_seen_101 ?_
              refine lv_goto (tgt := 109) hx hb dX8_seen_102 (by decide) ?_
              exact hv _ _ ls hP hS (lv_sub hl [0, 1, 2, 3, 4, 5, 6, 7, 8] rfl))
          refine lv_iload hx hb dX8_seen_73 (lv_at hl 6 rfl) ?_
          refine lv_iload_n hx hb dX8_seen_75 rfl (lv_at hl 4 rfl) ?_
          refine lx_icmp_le (tgt := 86) hx hb dX8_seen_76 (by decide) h_i2 h_i (fun hc => ?_) (fun hc => ?_)
          · have hv := hv.1 hc
            refine lv_iload_n hx hb dX8_seen_86 rfl (lv_at hl 4 rfl) ?_
            refine lv_iload hx hb dX8_seen_87 (lv_at hl 6 rfl) ?_
            refine lx_isub hx hb dX8_seen_89 ?_
            exact hv _ _ ls hP hS (lv_sub hl [0, 1, 2, 3, 4, 5, 6, 7] rfl)
          · have hv := hv.2 hc
            refine lv_iload hx hb dX8_seen_79 (lv_at hl 6 rfl) ?_
            refine lv_iload_n hx hb dX8_seen_81 rfl (lv_at hl 4 rfl) ?_
            refine lx_isub hx hb dX8_seen_82 ?_
            refine lv_goto (tgt := 90) hx hb dX8_seen_83 (by decide) ?_
            exact hv _ _ ls hP hS (lv_sub hl [0, 1, 2, 3, 4, 5, 6, 7] rfl)
        · have hv := hv.2 hc
          refine lv_iconst (v := z_i (-1)) hx hb dX8_seen_41 rfl ?_
          exact W.iret (v := z_i (-1)) hx hb hr (fun t ht hW => ⟨⟨z_i (-1), (), rfl, ⟨-1, rfl, (show z_in (-1) from ⟨by decide, by decide⟩), hv⟩, trivial⟩, hS.F ht⟩) hS.2.2 dX8_seen_42
set_option maxHeartbeats 4000000 in
set_option maxRecDepth 100000 in
theorem mt_X8_seen (l : Launch) (D : va_G) (cA : Nat → ClassId) (y : Nat) (y_space : Nat) (y_offset : Nat) (y_length : Nat) (ya_units : Nat) (y_units : Nat → Int32) (ya_isThere : Nat) (y_isThere : Nat → Int32) (y_levels : Int) (y_level : Nat) (y_lines : Int) (y_lineLevel : Nat) (y_lineUnits : Nat) (y_lineFrom : Nat) (y_lineMany : Nat) (y_isClosed : Nat) (y_insides : Nat) (y_parent : Nat) (y_isHigh : Nat) (y_inBits : Nat) (y_sides : Int) (y_side : Nat) (y_sideA : Nat) (y_sideB : Nat) (y_lineSpace : Int) (y_wasThere : Nat) (y_leads : Nat) (y_isLed : Nat) (y_isOn : Nat) (y_goesTo : Nat) (y_stream : Nat) (y_filled : Nat) (y_isDone : Nat) (y_isReached : Nat) (y_newUnits : Nat) (y_isNew : Nat) (gi : Int) (i : Int) (j : Int) (i2 : Int) (j2 : Int) (eye : Int) (h_y_levels : z_in y_levels) (h_y_lines : z_in y_lines) (h_y_sides : z_in y_sides) (h_y_lineSpace : z_in y_lineSpace) (h_gi : z_in gi) (h_i : z_in i) (h_j : z_in j) (h_i2 : z_in i2) (h_j2 : z_in j2) (h_eye : z_in eye) (hp1 : q_bd y_units) : Met l yX8_seen wsX8_seen ({ frames := 4, cells := 0, slots := 0, locals := 101 } : Room) (va_Pc [.ref y, .int (z_i gi), .int (z_i i), .int (z_i j), .int (z_i i2), .int (z_i j2), .int (z_i eye)] (z_B0 D cA [(y, .inr (6, [.ref y_space, .ref y_offset, .ref y_length, .ref ya_units, .ref ya_isThere, .int (z_i y_levels), .ref y_level, .int (z_i y_lines), .ref y_lineLevel, .ref y_lineUnits, .ref y_lineFrom, .ref y_lineMany, .ref y_isClosed, .ref y_insides, .ref y_parent, .ref y_isHigh, .ref y_inBits, .int (z_i y_sides), .ref y_side, .ref y_sideA, .ref y_sideB, .int (z_i y_lineSpace), .ref y_wasThere, .ref y_leads, .ref y_isLed, .ref y_isOn, .ref y_goesTo, .ref y_stream, .ref y_filled, .ref y_isDone, .ref y_isReached, .ref y_newUnits, .ref y_isNew])), (ya_units, .inl (cA 1, 5120, .inl y_units)), (ya_isThere, .inl (cA 3, 5120, .inl y_isThere))])) (va_Qi (z_ri (fun (r : Int) => if (0 ≤ gi ∧ gi < 4) ∧ 0 ≤ eye ∧ eye ≤ 8192 ∧ m_no (q_th y_isThere gi) i j ≠ -1 ∧ m_no (q_th y_isThere gi) i2 j2 ≠ -1 then (r = 0 ∧ (e_hid (q_th y_isThere gi) (q_at y_units y_isThere gi) (40 * i + j) (40 * i2 + j2) eye 1 ∨ e_hid (q_th y_isThere gi) (q_at y_units y_isThere gi) (40 * i + j) (40 * i2 + j2) eye 0)) ∨ (r = 1 ∧ ¬ e_hid (q_th y_isThere gi) (q_at y_units y_isThere gi) (40 * i + j) (40 * i2 + j2) eye 1 ∧ ¬ e_hid (q_th y_isThere gi) (q_at y_units y_isThere gi) (40 * i + j) (40 * i2 + j2) eye 0) else r = -1)) (fun _ _ => True) (fun _ => False)) 0 0 (fun _ => False) := by
  refine wk_X8_seen l D cA y y_space y_offset y_length ya_units y_units ya_isThere y_isThere y_levels y_level y_lines y_lineLevel y_lineUnits y_lineFrom y_lineMany y_isClosed y_insides y_parent y_isHigh y_inBits y_sides y_side y_sideA y_sideB y_lineSpace y_wasThere y_leads y_isLed y_isOn y_goesTo y_stream y_filled y_isDone y_isReached y_newUnits y_isNew gi i j i2 j2 eye h_y_levels h_y_lines h_y_sides h_y_lineSpace h_gi h_i h_j h_i2 h_j2 h_eye (fun (r : Int) => if (0 ≤ gi ∧ gi < 4) ∧ 0 ≤ eye ∧ eye ≤ 8192 ∧ m_no (q_th y_isThere gi) i j ≠ -1 ∧ m_no (q_th y_isThere gi) i2 j2 ≠ -1 then (r = 0 ∧ (e_hid (q_th y_isThere gi) (q_at y_units y_isThere gi) (40 * i + j) (40 * i2 + j2) eye 1 ∨ e_hid (q_th y_isThere gi) (q_at y_units y_isThere gi) (40 * i + j) (40 * i2 + j2) eye 0)) ∨ (r = 1 ∧ ¬ e_hid (q_th y_isThere gi) (q_at y_units y_isThere gi) (40 * i + j) (40 * i2 + j2) eye 1 ∧ ¬ e_hid (q_th y_isThere gi) (q_at y_units y_isThere gi) (40 * i + j) (40 * i2 + j2) eye 0) else r = -1) ?_
  unfold vc_X8_seen
  have yes : ((0 ≤ gi ∧ gi < 4) ∧ 0 ≤ eye ∧ eye ≤ 8192 ∧ m_no (q_th y_isThere gi) i j ≠ -1 ∧ m_no (q_th y_isThere gi) i2 j2 ≠ -1) → ∀ r : Int, ((r = 0 ∧ (e_hid (q_th y_isThere gi) (q_at y_units y_isThere gi) (40 * i + j) (40 * i2 + j2) eye 1 ∨ e_hid (q_th y_isThere gi) (q_at y_units y_isThere gi) (40 * i + j) (40 * i2 + j2) eye 0)) ∨ (r = 1 ∧ ¬ e_hid (q_th y_isThere gi) (q_at y_units y_isThere gi) (40 * i + j) (40 * i2 + j2) eye 1 ∧ ¬ e_hid (q_th y_isThere gi) (q_at y_units y_isThere gi) (40 * i + j) (40 * i2 + j2) eye 0)) → (if (0 ≤ gi ∧ gi < 4) ∧ 0 ≤ eye ∧ eye ≤ 8192 ∧ m_no (q_th y_isThere gi) i j ≠ -1 ∧ m_no (q_th y_isThere gi) i2 j2 ≠ -1 then (r = 0 ∧ (e_hid (q_th y_isThere gi) (q_at y_units y_isThere gi) (40 * i + j) (40 * i2 + j2) eye 1 ∨ e_hid (q_th y_isThere gi) (q_at y_units y_isThere gi) (40 * i + j) (40 * i2 + j2) eye 0)) ∨ (r = 1 ∧ ¬ e_hid (q_th y_isThere gi) (q_at y_units y_isThere gi) (40 * i + j) (40 * i2 + j2) eye 1 ∧ ¬ e_hid (q_th y_isThere gi) (q_at y_units y_isThere gi) (40 * i + j) (40 * i2 + j2) eye 0) else r = -1) := fun hc r h => by rw [if_pos hc]; exact h
  have no : ¬ ((0 ≤ gi ∧ gi < 4) ∧ 0 ≤ eye ∧ eye ≤ 8192 ∧ m_no (q_th y_isThere gi) i j ≠ -1 ∧ m_no (q_th y_isThere gi) i2 j2 ≠ -1) → (if (0 ≤ gi ∧ gi < 4) ∧ 0 ≤ eye ∧ eye ≤ 8192 ∧ m_no (q_th y_isThere gi) i j ≠ -1 ∧ m_no (q_th y_isThere gi) i2 j2 ≠ -1 then ((-1 : Int) = 0 ∧ (e_hid (q_th y_isThere gi) (q_at y_units y_isThere gi) (40 * i + j) (40 * i2 + j2) eye 1 ∨ e_hid (q_th y_isThere gi) (q_at y_units y_isThere gi) (40 * i + j) (40 * i2 + j2) eye 0)) ∨ ((-1 : Int) = 1 ∧ ¬ e_hid (q_th y_isThere gi) (q_at y_units y_isThere gi) (40 * i + j) (40 * i2 + j2) eye 1 ∧ ¬ e_hid (q_th y_isThere gi) (q_at y_units y_isThere gi) (40 * i + j) (40 * i2 + j2) eye 0) else (-1 : Int) = -1) := fun hc => by rw [if_neg hc]
  rintro r1 _ rfl
  refine ⟨fun q => no (fun h => of_decide_eq_false (zb_f q) ⟨h.1.1, by omega⟩), fun q => ?_⟩
  have q := of_decide_eq_true (zb_t q)
  have hg : 0 ≤ gi ∧ gi < 4 := by omega
  rintro r2 _ rfl
  refine ⟨fun q1 => no (fun h => of_decide_eq_false (zb_f q1) ⟨h.2.1, h.2.2.1⟩), fun q1 => ⟨hg, ?_⟩⟩
  have q1 := of_decide_eq_true (zb_t q1)
  rintro r4 _ rfl
  refine ⟨fun q2 => no (fun h => of_decide_eq_false (zb_f q2) h.2.2.2.1), fun q2 => ⟨hg, ?_⟩⟩
  have q2 := of_decide_eq_true (zb_t q2)
  rintro r6 _ rfl
  refine ⟨fun q3 => ?_, fun q3 => no (fun h => of_decide_eq_false (zb_f q3) h.2.2.2.2)⟩
  have q3 := of_decide_eq_true (zb_t q3)
  have a1 := m_no_some q2
  have a2 := m_no_some q3
  have yes := yes ⟨hg, q1.1, q1.2, q2, q3⟩
  have u1 := q_bd_at hp1 hg.1 hg.2 a1.2.2.2.2.2
  have u2 := q_bd_at hp1 hg.1 hg.2 a2.2.2.2.2.2
  have f1 : e_al (40 * i + j) 1 = i := by unfold e_al; rw [if_neg (by decide)]; omega
  have f0 : e_al (40 * i + j) 0 = j := by unfold e_al; rw [if_pos rfl]; omega
  have g1 : e_al (40 * i2 + j2) 1 = i2 := by unfold e_al; rw [if_neg (by decide)]; omega
  have g0 : e_al (40 * i2 + j2) 0 = j2 := by unfold e_al; rw [if_pos rfl]; omega
  have E1 : e_hid (q_th y_isThere gi) (q_at y_units y_isThere gi) (40 * i + j) (40 * i2 + j2) eye 1 = ∃ k : Int, 1 ≤ k ∧ k < z_abs (i2 - i) ∧ e_at (q_th y_isThere gi) (q_at y_units y_isThere gi) i j (i2 - i) (j2 - j) (z_abs (i2 - i)) ((q_at y_units y_isThere gi) (40 * i + j) + 1024 * eye) (40 * i2 + j2) k 1 := by
    unfold e_hid; rw [f1, g1, show (1 : Int) - 1 = 0 by decide, f0, g0]
  have E0 : e_hid (q_th y_isThere gi) (q_at y_units y_isThere gi) (40 * i + j) (40 * i2 + j2) eye 0 = ∃ k : Int, 1 ≤ k ∧ k < z_abs (j2 - j) ∧ e_at (q_th y_isThere gi) (q_at y_units y_isThere gi) j i (j2 - j) (i2 - i) (z_abs (j2 - j)) ((q_at y_units y_isThere gi) (40 * i + j) + 1024 * eye) (40 * i2 + j2) k 0 := by
    unfold e_hid; rw [f0, g0, show (1 : Int) - 0 = 1 by decide, f1, g1]
  refine ⟨hg, ⟨a1.2.1, a1.2.2.1⟩, ⟨a1.2.2.2.1, a1.2.2.2.2.1⟩, ?_⟩
  rintro r10 _ h10
  rw [← q_at_t a1.2.2.2.2.2] at h10
  rw [← h10] at u1 E1 E0
  refine ⟨⟨by omega, by omega⟩, ?_⟩
  rintro v11 h11
  rw [← h11] at E1 E0
  refine ⟨hg, ⟨a2.2.1, a2.2.2.1⟩, ⟨a2.2.2.2.1, a2.2.2.2.2.1⟩, ?_⟩
  rintro r17 _ h17
  rw [← q_at_t a2.2.2.2.2.2] at h17
  rw [← h17] at u2
  intro J90 hJ90
  have ab : ∀ x : Int, z_abs x = if 0 ≤ x then x else -x := fun x => rfl
  suffices K90 : J90 (z_abs (i2 - i)) from ⟨fun h => by rw [ab] at K90; by_cases e : 0 ≤ i2 - i; (rw [if_pos e, show i2 - i = i - i2 by omega] at K90; exact K90); (rw [if_neg e, show -(i2 - i) = i - i2 by omega] at K90; exact K90), fun h => by rw [ab, if_pos (by omega)] at K90; exact K90⟩
  have sb : 0 ≤ z_abs (i2 - i) ∧ z_abs (i2 - i) ≤ 39 ∧ (z_abs (i2 - i) > 1 → i2 - i ≠ 0) := by rw [ab]; split <;> omega
  have tb : 0 ≤ z_abs (j2 - j) ∧ z_abs (j2 - j) ≤ 39 ∧ (z_abs (j2 - j) > 1 → j2 - j ≠ 0) := by rw [ab]; split <;> omega
  refine hJ90 _ ⟨by omega, by omega⟩ ?_
  intro J109 hJ109
  suffices K109 : J109 (z_abs (j2 - j)) from ⟨fun h => by rw [ab] at K109; by_cases e : 0 ≤ j2 - j; (rw [if_pos e, show j2 - j = j - j2 by omega] at K109; exact K109); (rw [if_neg e, show -(j2 - j) = j - j2 by omega] at K109; exact K109), fun h => by rw [ab, if_pos (by omega)] at K109; exact K109⟩
  refine hJ109 _ ⟨by omega, by omega⟩ ?_
  generalize z_abs (i2 - i) = ro at *
  generalize z_abs (j2 - j) = co at *
  intro L1 hL1
  refine e_lp (H := fun k => e_at (q_th y_isThere gi) (q_at y_units y_isThere gi) i j (i2 - i) (j2 - j) ro v11 (40 * i2 + j2) k 1) (st := ro) (Or.inr rfl) ?_ ?_
  · intro k k0 k1
    have m1 := z_mb (a := v11) (b := ro - k) (A := 16777216) (B := 39) (by omega) (by omega) (by omega) (by omega)
    have m2 := z_mb (a := r17) (b := k) (A := 8388608) (B := 39) (by omega) (by omega) (by omega) (by omega)
    have epl : j * ro + (j2 - j) * k = j * (ro - k) + j2 * k := by rw [Int.mul_sub, Int.sub_mul]; omega
    have m3 := z_mb (a := j) (b := ro - k) (A := 39) (B := 39) (by omega) (by omega) (by omega) (by omega)
    have m4 := z_mb (a := j2) (b := k) (A := 39) (B := 39) (by omega) (by omega) (by omega) (by omega)
    have m5 : 0 ≤ j * (ro - k) := Int.mul_nonneg (by omega) (by omega)
    have m6 : 0 ≤ j2 * k := Int.mul_nonneg (by omega) (by omega)
    refine ⟨fun hn => hL1 _ _ ⟨by omega, by omega⟩ ⟨by omega, by omega⟩ ⟨fun h => absurd h (by omega), fun _ => ⟨fun _ => hn, fun h => absurd rfl h⟩⟩, fun hH hN => hL1 _ _ ⟨by omega, by omega⟩ ⟨by omega, by omega⟩ ⟨fun h => absurd h (by omega), fun _ => ⟨fun h => absurd h (by decide), fun _ => ⟨⟨by omega, by omega⟩, ?_⟩⟩⟩⟩
    rintro r31 _ h31
    have hat := @e_at_hi (q_th y_isThere gi) (q_at y_units y_isThere gi) i j (i2 - i) (j2 - j) ro v11 (40 * i2 + j2) k 1 r31 h31 (sb.2.2 (by omega))
    rw [← h17] at hat
    have rk : -39 ≤ r31 * k ∧ r31 * k ≤ 39 := by
      rw [h31]; split
      · omega
      · split <;> omega
    refine ⟨⟨by omega, by omega⟩, ⟨by omega, by omega⟩, ⟨by omega, by omega⟩, ⟨by omega, by omega⟩, ⟨by omega, by omega⟩, hg, hp1, ⟨by omega, by omega⟩, ⟨by omega, by omega⟩, ?_⟩
    intro r41 _ h41
    refine ⟨fun h0 => ?_, fun h0 => ?_⟩
    · rcases h41 with h41 | h41
      · exact hH (hat.mpr h41.2)
      · exact absurd (h0.symm.trans h41.1) (by decide)
    · rcases h41 with h41 | h41
      · exact absurd h41.1 h0
      · exact hN (fun h => h41.2 (hat.mp h))
  intro kk cc kk0 kk1 _ c01 hcc
  refine hL1 _ _ ⟨by omega, by omega⟩ ⟨by omega, by omega⟩ ⟨fun _ => ?_, fun h => absurd h (by omega)⟩
  intro L2 hL2
  refine e_lp (H := fun k => e_at (q_th y_isThere gi) (q_at y_units y_isThere gi) j i (j2 - j) (i2 - i) co v11 (40 * i2 + j2) k 0) (st := co) c01 ?_ ?_
  · intro k k0 k1
    have m1 := z_mb (a := v11) (b := co - k) (A := 16777216) (B := 39) (by omega) (by omega) (by omega) (by omega)
    have m2 := z_mb (a := r17) (b := k) (A := 8388608) (B := 39) (by omega) (by omega) (by omega) (by omega)
    have epl : i * co + (i2 - i) * k = i * (co - k) + i2 * k := by rw [Int.mul_sub, Int.sub_mul]; omega
    have m3 := z_mb (a := i) (b := co - k) (A := 39) (B := 39) (by omega) (by omega) (by omega) (by omega)
    have m4 := z_mb (a := i2) (b := k) (A := 39) (B := 39) (by omega) (by omega) (by omega) (by omega)
    have m5 : 0 ≤ i * (co - k) := Int.mul_nonneg (by omega) (by omega)
    have m6 : 0 ≤ i2 * k := Int.mul_nonneg (by omega) (by omega)
    refine ⟨fun hn => hL2 _ _ ⟨by omega, by omega⟩ ⟨by omega, by omega⟩ ⟨fun h => absurd h (by omega), fun _ => ⟨fun _ => hn, fun h => absurd rfl h⟩⟩, fun hH hN => hL2 _ _ ⟨by omega, by omega⟩ ⟨by omega, by omega⟩ ⟨fun h => absurd h (by omega), fun _ => ⟨fun h => absurd h (by decide), fun _ => ⟨⟨by omega, by omega⟩, ?_⟩⟩⟩⟩
    rintro r31 _ h31
    have hat := @e_at_hi (q_th y_isThere gi) (q_at y_units y_isThere gi) j i (j2 - j) (i2 - i) co v11 (40 * i2 + j2) k 0 r31 h31 (tb.2.2 (by omega))
    rw [← h17] at hat
    have rk : -39 ≤ r31 * k ∧ r31 * k ≤ 39 := by
      rw [h31]; split
      · omega
      · split <;> omega
    refine ⟨⟨by omega, by omega⟩, ⟨by omega, by omega⟩, ⟨by omega, by omega⟩, ⟨by omega, by omega⟩, ⟨by omega, by omega⟩, hg, hp1, ⟨by omega, by omega⟩, ⟨by omega, by omega⟩, ?_⟩
    intro r41 _ h41
    refine ⟨fun h0 => ?_, fun h0 => ?_⟩
    · rcases h41 with h41 | h41
      · exact hH (hat.mpr h41.2)
      · exact absurd (h0.symm.trans h41.1) (by decide)
    · rcases h41 with h41 | h41
      · exact absurd h41.1 h0
      · exact hN (fun h => h41.2 (hat.mp h))
  intro ke ce ke0 ke1 _ e01 hce
  refine hL2 _ _ ⟨by omega, by omega⟩ ⟨by omega, by omega⟩ ⟨fun _ => ⟨fun z => yes _ (Or.inl ⟨rfl, ?_⟩), fun z => yes _ (Or.inr ⟨rfl, ?_, ?_⟩)⟩, fun h => absurd h (by omega)⟩
  · rw [E1, E0]
    apply Classical.byContradiction
    intro hn
    have h1 : ce = 1 := hce.mpr ⟨hcc.mpr ⟨rfl, fun k' b1 b2 b3 => hn (Or.inl ⟨k', b1, b2, b3⟩)⟩, fun k' b1 b2 b3 => hn (Or.inr ⟨k', b1, b2, b3⟩)⟩
    omega
  · rw [E1]
    have h1 : ce = 1 := by omega
    rintro ⟨k', b1, b2, b3⟩
    exact (hcc.mp (hce.mp h1).1).2 k' b1 b2 b3
  · rw [E0]
    have h1 : ce = 1 := by omega
    rintro ⟨k', b1, b2, b3⟩
    exact (hce.mp h1).2 k' b1 b2 b3
