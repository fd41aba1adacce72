/-! the model: grids by number -/
def z_w (a : Int) : Int := (z_i a).toInt
theorem z_w_i (a : Int) : z_i (z_w a) = z_i a := z_i_of _
theorem z_w_lo {a : Int} (h0 : -2147483748 ≤ a) (h1 : a < 2147483648) : z_w a = a ∨ (a < -2147483648 ∧ z_w a = a + 4294967296) := by
  have e : z_w a = a.bmod 4294967296 := by
    show (Int32.ofInt a).toInt = _
    rw [Int32.toInt_ofInt]
  rw [e]
  by_cases q : -2147483648 ≤ a
  · left; rw [Int.bmod_def]; split <;> omega
  · right; refine ⟨by omega, ?_⟩; rw [Int.bmod_def]; split <;> omega
section
variable {p : Program} {l : Launch} {e : Env} {R : Room} {s : State} {m : MethodId} {args : Array Value} {below : List Frame} {meth : Method} {c : Code} {H : Heap} {locs : List Loc} {cells slots : Nat} {Q : State → Prop} {pc : Nat} {ls : Array Slot} {rest : List Value}
theorem lx_wrap {a : Int} (k : W p l e R s m args below meth c H locs cells slots Q (F0 m pc ls (.int (z_i (z_w a)) :: rest))) : W p l e R s m args below meth c H locs cells slots Q (F0 m pc ls (.int (z_i a) :: rest)) := by rw [z_w_i] at k; exact k
end
def q_th (th : Nat → Int32) (g n : Int) : Bool := decide (0 ≤ n ∧ n < 1280 ∧ z_g th (1280 * g + n) ≠ 0)
def q_at (u th : Nat → Int32) (g n : Int) : Int := if 0 ≤ n ∧ n < 1280 ∧ z_g th (1280 * g + n) ≠ 0 then z_g u (1280 * g + n) else -2147483648
def q_bd (u : Nat → Int32) : Prop := ∀ n : Int, 0 ≤ n → n < 5120 → -8388608 ≤ z_g u n ∧ z_g u n ≤ 8388608
def q_rw (le off : Nat → Int32) : Prop := ∀ i : Int, 0 ≤ i → i < 128 → 0 ≤ z_g off i ∧ z_g off i ≤ 39 ∧ 0 ≤ z_g le i ∧ z_g le i ≤ 40
theorem q_at_t {u th : Nat → Int32} {g n : Int} (h : q_th th g n = true) : q_at u th g n = z_g u (1280 * g + n) := if_pos (of_decide_eq_true h)
theorem q_th_in {th : Nat → Int32} {g n : Int} (h : q_th th g n = true) : 0 ≤ n ∧ n < 1280 := ⟨(of_decide_eq_true h).1, (of_decide_eq_true h).2.1⟩
theorem q_no {th : Nat → Int32} {g i j : Int} (h0 : 0 ≤ i) (h1 : i < 32) (h2 : 0 ≤ j) (h3 : j < 40) : m_no (q_th th g) i j = if z_g th (1280 * g + 40 * i + j) ≠ 0 then 40 * i + j else -1 := by
  unfold m_no q_th
  rw [← Int.add_assoc]
  by_cases q : z_g th (1280 * g + 40 * i + j) ≠ 0
  · rw [if_pos q, if_pos ⟨h0, h1, h2, h3, decide_eq_true ⟨by omega, by omega, q⟩⟩]
  · rw [if_neg q, if_neg (fun h => q (of_decide_eq_true h.2.2.2.2).2.2)]
theorem q_no_out {T : Int → Bool} {i j : Int} (h : ¬ (0 ≤ i ∧ i ≤ 31 ∧ 0 ≤ j ∧ j ≤ 39)) : m_no T i j = -1 := if_neg (fun q => h ⟨q.1, by omega, q.2.2.1, by omega⟩)
def vc_X8_in (v : Int) (lo : Int) (hi_ : Int) (Q : Int → Prop) : Prop :=
((v < lo → Q 0) ∧
(v ≥ lo → ((v > hi_ → Q 0) ∧
(v ≤ hi_ → Q 1))))
set_option maxHeartbeats 4000000 in
set_option maxRecDepth 100000 in
theorem wk_X8_in (l : Launch) (D : va_G) (cA : Nat → ClassId) (v : Int) (lo : Int) (hi_ : Int) (h_v : z_in v) (h_lo : z_in lo) (h_hi_ : z_in hi_) (Q : Int → Prop) (hv : vc_X8_in v lo hi_ Q) : Met l yX8_in wsX8_in ({ frames := 0, cells := 0, slots := 0, locals := 0 } : Room) (va_Pc [.int (z_i v), .int (z_i lo), .int (z_i hi_)] (z_B0 D cA [])) (va_Qi (z_ri Q) (fun _ _ => True) (fun _ => False)) 0 0 (fun _ => False) := by
  unfold vc_X8_in at hv
  refine Met.ofW (cc := cX8_in) (maxL := 3) (ret := (some .boolean)) (by decide +kernel) rfl ?_
  intro p e s m args below meth c s₁ B hml hv0
  obtain ⟨rfl, hK, hP⟩ := hv0
  have hx := B.exec
  have hb := B.bytes
  have hr := B.returns
  have hts := atoms_spec (ws := wsX8_in) B.pre
  have hown : s.vm.findClass RX8 = some m.cls := findClass_of_methodNamed B.named
  have hlocks := B.notSynchronized
  have hS : va_S (fun _ : Nat => False) s.heap s.heap [] := va_S.rf
  have hl := lv_entry ([.int (z_i v), .int (z_i lo), .int (z_i hi_)]) (n := 3) (Nat.le_of_ble_eq_true rfl)
  rw [lg_entry_eq]
  generalize (lg_sl ([.int (z_i v), .int (z_i lo), .int (z_i hi_)]) ++ List.replicate (3 - (lg_sl ([.int (z_i v), .int (z_i lo), .int (z_i hi_)])).length) Slot.unset).toArray = ls at hl ⊢
  have hl : lv_has ls 3 [(0, .int (z_i v)), (1, .int (z_i lo)), (2, .int (z_i hi_))] := hl
  refine lv_iload_n hx hb dX8_in_0 rfl (lv_at hl 0 rfl) ?_
  refine lv_iload_n hx hb dX8_in_1 rfl (lv_at hl 1 rfl) ?_
  refine lx_icmp_lt (tgt := 14) hx hb dX8_in_2 (by decide) h_v h_lo (fun hc => ?_) (fun hc => ?_)
  · have hv := hv.1 hc
    refine lv_iconst (v := z_i 0) hx hb dX8_in_14 rfl ?_
    exact W.zret (v := z_i 0) hx hb hr (by decide) (fun t ht hW => ⟨⟨z_i 0, (), rfl, ⟨0, rfl, (show z_in 0 from ⟨by decide, by decide⟩), hv⟩, trivial⟩, hS.F ht⟩) hS.2.2 dX8_in_15
  · have hv := hv.2 hc
    refine lv_iload_n hx hb dX8_in_5 rfl (lv_at hl 0 rfl) ?_
    refine lv_iload_n hx hb dX8_in_6 rfl (lv_at hl 2 rfl) ?_
    refine lx_icmp_gt (tgt := 14) hx hb dX8_in_7 (by decide) h_v h_hi_ (fun hc => ?_) (fun hc => ?_)
    · have hv := hv.1 hc
      refine lv_iconst (v := z_i 0) hx hb dX8_in_14 rfl ?_
      exact W.zret (v := z_i 0) hx hb hr (by decide) (fun t ht hW => ⟨⟨z_i 0, (), rfl, ⟨0, rfl, (show z_in 0 from ⟨by decide, by decide⟩), hv⟩, trivial⟩, hS.F ht⟩) hS.2.2 dX8_in_15
    · have hv := hv.2 hc
      refine lv_iconst (v := z_i 1) hx hb dX8_in_10 rfl ?_
      refine lv_goto (tgt := 15) hx hb dX8_in_11 (by decide) ?_
      exact W.zret (v := z_i 1) hx hb hr (by decide) (fun t ht hW => ⟨⟨z_i 1, (), rfl, ⟨1, rfl, (show z_in 1 from ⟨by decide, by decide⟩), hv⟩, trivial⟩, hS.F ht⟩) hS.2.2 dX8_in_15
set_option maxHeartbeats 4000000 in
set_option maxRecDepth 100000 in
theorem mt_X8_in (l : Launch) (D : va_G) (cA : Nat → ClassId) (v : Int) (lo : Int) (hi_ : Int) (h_v : z_in v) (h_lo : z_in lo) (h_hi_ : z_in hi_)  : Met l yX8_in wsX8_in ({ frames := 0, cells := 0, slots := 0, locals := 0 } : Room) (va_Pc [.int (z_i v), .int (z_i lo), .int (z_i hi_)] (z_B0 D cA [])) (va_Qi (z_ri (fun (r : Int) => r = z_b (decide (lo ≤ v ∧ v ≤ hi_)))) (fun _ _ => True) (fun _ => False)) 0 0 (fun _ => False) := by
  refine wk_X8_in l D cA v lo hi_ h_v h_lo h_hi_ (fun (r : Int) => r = z_b (decide (lo ≤ v ∧ v ≤ hi_))) ?_
  unfold vc_X8_in
  refine ⟨fun q => ?_, fun q => ⟨fun q1 => ?_, fun q1 => ?_⟩⟩
  · rw [decide_eq_false (by omega)]; rfl
  · rw [decide_eq_false (by omega)]; rfl
  · rw [decide_eq_true ⟨q, q1⟩]; rfl
def vc_X8_isGrid (gi : Int) (Q : Int → Prop) : Prop :=
(∀ (r1 : Int), z_in r1 → (r1 = z_b (decide ((0 : Int) ≤ gi ∧ gi ≤ (3 : Int)))) → (r1 = 0 ∨ r1 = 1) ∧ Q r1)
set_option maxHeartbeats 4000000 in
set_option maxRecDepth 100000 in
theorem wk_X8_isGrid (l : Launch) (D : va_G) (cA : Nat → ClassId) (gi : Int) (h_gi : z_in gi) (Q : Int → Prop) (hv : vc_X8_isGrid gi Q) : Met l yX8_isGrid wsX8_isGrid ({ frames := 1, cells := 0, slots := 0, locals := 22 } : Room) (va_Pc [.int (z_i gi)] (z_B0 D cA [])) (va_Qi (z_ri Q) (fun _ _ => True) (fun _ => False)) 0 0 (fun _ => False) := by
  unfold vc_X8_isGrid at hv
  refine Met.ofW (cc := cX8_isGrid) (maxL := 1) (ret := (some .boolean)) (by decide +kernel) rfl ?_
  intro p e s m args below meth c s₁ B hml hv0
  obtain ⟨rfl, hK, hP⟩ := hv0
  have hx := B.exec
  have hb := B.bytes
  have hr := B.returns
  have hts := atoms_spec (ws := wsX8_isGrid) B.pre
  have hown : s.vm.findClass RX8 = some m.cls := findClass_of_methodNamed B.named
  have hlocks := B.notSynchronized
  have hS : va_S (fun _ : Nat => False) s.heap s.heap [] := va_S.rf
  have hl := lv_entry ([.int (z_i gi)]) (n := 1) (Nat.le_of_ble_eq_true rfl)
  rw [lg_entry_eq]
  generalize (lg_sl ([.int (z_i gi)]) ++ List.replicate (1 - (lg_sl ([.int (z_i gi)])).length) Slot.unset).toArray = ls at hl ⊢
  have hl : lv_has ls 1 [(0, .int (z_i gi))] := hl
  refine lv_iload_n hx hb dX8_isGrid_0 rfl (lv_at hl 0 rfl) ?_
  refine lv_iconst (v := z_i 0) hx hb dX8_isGrid_1 rfl ?_
  refine lv_iconst (v := z_i 3) hx hb dX8_isGrid_2 rfl ?_
  refine va_calli (va_runS (As := [.int (z_i gi), .int (z_i 0), .int (z_i 3)]) (rest := []) ⟨hx, hb, hml, hown, hts⟩ (mt_X8_in l D cA gi 0 3 h_gi (show z_in 0 from ⟨by decide, by decide⟩) (show z_in 3 from ⟨by decide, by decide⟩)) (va_cwS 3 hts gX8_isGrid_X8_in rfl rfl rfl (by decide +kernel) ⟨Nat.le_of_ble_eq_true rfl, Nat.le_of_ble_eq_true rfl⟩) ⟨z_bl0, fun U hU hW => ⟨rfl, z_b0 hK hP hU hW⟩⟩ rfl rfl hl.1 rfl (lv_room (Nat.le_of_ble_eq_true rfl)) dX8_isGrid_3 ⟨Nat.zero_le _, Nat.zero_le _⟩) hS (fun q _ h => h.elim) (fun q h => h.elim) (fun r0 u t H locs ht hvm hw hB hz1 hk1 hS => ?_)
  obtain ⟨r1, rfl, h_r1, hw⟩ := hw
  have hP := z_P_all hP hk1
  have hv := hv r1 h_r1 hw
  obtain ⟨hb2, hv⟩ := hv
  exact W.zret (v := z_i r1) hx hb hr (z_narZ hb2) (fun t ht hW => ⟨⟨z_i r1, (), rfl, ⟨r1, rfl, h_r1, hv⟩, trivial⟩, hS.F ht⟩) hS.2.2 dX8_isGrid_6
set_option maxHeartbeats 4000000 in
set_option maxRecDepth 100000 in
theorem mt_X8_isGrid (l : Launch) (D : va_G) (cA : Nat → ClassId) (gi : Int) (h_gi : z_in gi)  : Met l yX8_isGrid wsX8_isGrid ({ frames := 1, cells := 0, slots := 0, locals := 22 } : Room) (va_Pc [.int (z_i gi)] (z_B0 D cA [])) (va_Qi (z_ri (fun (r : Int) => r = z_b (decide (0 ≤ gi ∧ gi ≤ 3)))) (fun _ _ => True) (fun _ => False)) 0 0 (fun _ => False) := by
  refine wk_X8_isGrid l D cA gi h_gi (fun (r : Int) => r = z_b (decide (0 ≤ gi ∧ gi ≤ 3))) ?_
  unfold vc_X8_isGrid
  rintro r1 _ rfl
  exact ⟨z_b_01 _, rfl⟩
def vc_X8_has (y_isThere : Nat → Int32) (gi : Int) (i : Int) (j : Int) (Q : Int → Prop) : Prop :=
(∀ (r1 : Int), z_in r1 → (r1 = z_b (decide ((0 : Int) ≤ i ∧ i ≤ (31 : Int)))) → ((r1 = 0 → Q 0) ∧
(r1 ≠ 0 → (∀ (r2 : Int), z_in r2 → (r2 = z_b (decide ((0 : Int) ≤ j ∧ j ≤ (39 : Int)))) → ((r2 = 0 → Q 0) ∧
(r2 ≠ 0 → (0 ≤ ((1280 * gi) + (40 * i)) + j ∧ ((1280 * gi) + (40 * i)) + j < 5120) ∧ ((z_g y_isThere (((1280 * gi) + (40 * i)) + j) = 0 → Q 0) ∧
(z_g y_isThere (((1280 * gi) + (40 * i)) + j) ≠ 0 → Q 1))))))))
set_option maxHeartbeats 4000000 in
set_option maxRecDepth 100000 in
theorem wk_X8_has (l : Launch) (D : va_G) (cA : Nat → ClassId) (y : Nat) (y_space : Nat) (y_offset : Nat) (y_length : Nat) (y_units : Nat) (ya_isThere : Nat) (y_isThere : Nat → Int32) (y_levels : Int) (y_level : Nat) (y_lines : Int) (y_lineLevel : Nat) (y_lineUnits : Nat) (y_lineFrom : Nat) (y_lineMany : Nat) (y_isClosed : Nat) (y_insides : Nat) (y_parent : Nat) (y_isHigh : Nat) (y_inBits : Nat) (y_sides : Int) (y_side : Nat) (y_sideA : Nat) (y_sideB : Nat) (y_lineSpace : Int) (y_wasThere : Nat) (y_leads : Nat) (y_isLed : Nat) (y_isOn : Nat) (y_goesTo : Nat) (y_stream : Nat) (y_filled : Nat) (y_isDone : Nat) (y_isReached : Nat) (y_newUnits : Nat) (y_isNew : Nat) (gi : Int) (i : Int) (j : Int) (h_y_levels : z_in y_levels) (h_y_lines : z_in y_lines) (h_y_sides : z_in y_sides) (h_y_lineSpace : z_in y_lineSpace) (h_gi : z_in gi) (h_i : z_in i) (h_j : z_in j) (Q : Int → Prop) (hv : vc_X8_has y_isThere gi i j Q) : Met l yX8_has wsX8_has ({ frames := 1, cells := 0, slots := 0, locals := 22 } : Room) (va_Pc [.ref y, .int (z_i gi), .int (z_i i), .int (z_i j)] (z_B0 D cA [(y, .inr (6, [.ref y_space, .ref y_offset, .ref y_length, .ref y_units, .ref ya_isThere, .int (z_i y_levels), .ref y_level, .int (z_i y_lines), .ref y_lineLevel, .ref y_lineUnits, .ref y_lineFrom, .ref y_lineMany, .ref y_isClosed, .ref y_insides, .ref y_parent, .ref y_isHigh, .ref y_inBits, .int (z_i y_sides), .ref y_side, .ref y_sideA, .ref y_sideB, .int (z_i y_lineSpace), .ref y_wasThere, .ref y_leads, .ref y_isLed, .ref y_isOn, .ref y_goesTo, .ref y_stream, .ref y_filled, .ref y_isDone, .ref y_isReached, .ref y_newUnits, .ref y_isNew])), (ya_isThere, .inl (cA 3, 5120, .inl y_isThere))])) (va_Qi (z_ri Q) (fun _ _ => True) (fun _ => False)) 0 0 (fun _ => False) := by
  unfold vc_X8_has at hv
  refine Met.ofW (cc := cX8_has) (maxL := 4) (ret := (some .boolean)) (by decide +kernel) rfl ?_
  intro p e s m args below meth c s₁ B hml hv0
  obtain ⟨rfl, hK, hP⟩ := hv0
  have hx := B.exec
  have hb := B.bytes
  have hr := B.returns
  have hts := atoms_spec (ws := wsX8_has) B.pre
  have hown : s.vm.findClass RX8 = some m.cls := findClass_of_methodNamed B.named
  have hlocks := B.notSynchronized
  have hS : va_S (fun _ : Nat => False) s.heap s.heap [] := va_S.rf
  have hl := lv_entry ([.ref y, .int (z_i gi), .int (z_i i), .int (z_i j)]) (n := 4) (Nat.le_of_ble_eq_true rfl)
  rw [lg_entry_eq]
  generalize (lg_sl ([.ref y, .int (z_i gi), .int (z_i i), .int (z_i j)]) ++ List.replicate (4 - (lg_sl ([.ref y, .int (z_i gi), .int (z_i i), .int (z_i j)])).length) Slot.unset).toArray = ls at hl ⊢
  have hl : lv_has ls 4 [(0, .ref y), (1, .int (z_i gi)), (2, .int (z_i i)), (3, .int (z_i j))] := hl
  refine lv_iload_n hx hb dX8_has_0 rfl (lv_at hl 2 rfl) ?_
  refine lv_iconst (v := z_i 0) hx hb dX8_has_1 rfl ?_
  refine lv_bipush (v := z_i 31) hx hb dX8_has_2 (by decide) ?_
  refine va_calli (va_runS (As := [.int (z_i i), .int (z_i 0), .int (z_i 31)]) (rest := []) ⟨hx, hb, hml, hown, hts⟩ (mt_X8_in l D cA i 0 31 h_i (show z_in 0 from ⟨by decide, by decide⟩) (show z_in 31 from ⟨by decide, by decide⟩)) (va_cwS 3 hts gX8_has_X8_in rfl rfl rfl (by decide +kernel) ⟨Nat.le_of_ble_eq_true rfl, Nat.le_of_ble_eq_true rfl⟩) ⟨z_bl0, fun U hU hW => ⟨rfl, z_b0 hK (hP.sub (ws' := []) [] rfl) hU hW⟩⟩ rfl rfl hl.1 rfl (lv_room (Nat.le_of_ble_eq_true rfl)) dX8_has_4 ⟨Nat.zero_le _, Nat.zero_le _⟩) hS (fun q _ h => h.elim) (fun q h => h.elim) (fun r0 u t H locs ht hvm hw hB hz1 hk1 hS => ?_)
  obtain ⟨r1, rfl, h_r1, hw⟩ := hw
  have hP := z_P_all hP hk1
  have hv := hv r1 h_r1 hw
  refine lx_if_eq (tgt := 44) hx hb dX8_has_7 (by decide) h_r1 (fun hc => ?_) (fun hc => ?_)
  · have hv := hv.1 hc
    refine lv_iconst (v := z_i 0) hx hb dX8_has_44 rfl ?_
    exact W.zret (v := z_i 0) hx hb hr (by decide) (fun t ht hW => ⟨⟨z_i 0, (), rfl, ⟨0, rfl, (show z_in 0 from ⟨by decide, by decide⟩), hv⟩, trivial⟩, hS.F ht⟩) hS.2.2 dX8_has_45
  · have hv := hv.2 hc
    refine lv_iload_n hx hb dX8_has_10 rfl (lv_at hl 3 rfl) ?_
    refine lv_iconst (v := z_i 0) hx hb dX8_has_11 rfl ?_
    refine lv_bipush (v := z_i 39) hx hb dX8_has_12 (by decide) ?_
    refine va_calli (va_runS (As := [.int (z_i j), .int (z_i 0), .int (z_i 39)]) (rest := []) ⟨hx, hb, hml, hown, hts⟩ (mt_X8_in l D cA j 0 39 h_j (show z_in 0 from ⟨by decide, by decide⟩) (show z_in 39 from ⟨by decide, by decide⟩)) (va_cwS 3 hts gX8_has_X8_in rfl rfl rfl (by decide +kernel) ⟨Nat.le_of_ble_eq_true rfl, Nat.le_of_ble_eq_true rfl⟩) ⟨z_bl0, fun U hU hW => ⟨rfl, z_b0 hK (hP.sub (ws' := []) [] rfl) hU hW⟩⟩ rfl rfl hl.1 rfl (lv_room (Nat.le_of_ble_eq_true rfl)) dX8_has_14 ⟨Nat.zero_le _, Nat.zero_le _⟩) hS (fun q _ h => h.elim) (fun q h => h.elim) (fun r0 u t H locs ht hvm hw hB hz1 hk1 hS => ?_)
    obtain ⟨r2, rfl, h_r2, hw⟩ := hw
    have hP := z_P_all hP hk1
    have hv := hv r2 h_r2 hw
    refine lx_if_eq (tgt := 44) hx hb dX8_has_17 (by decide) h_r2 (fun hc => ?_) (fun hc => ?_)
    · have hv := hv.1 hc
      refine lv_iconst (v := z_i 0) hx hb dX8_has_44 rfl ?_
      exact W.zret (v := z_i 0) hx hb hr (by decide) (fun t ht hW => ⟨⟨z_i 0, (), rfl, ⟨0, rfl, (show z_in 0 from ⟨by decide, by decide⟩), hv⟩, trivial⟩, hS.F ht⟩) hS.2.2 dX8_has_45
    · have hv := hv.2 hc
      refine lv_aload_n hx hb dX8_has_20 rfl (lv_at hl 0 rfl) ?_
      refine va_get (D := D) (ci := 6) (v := .ref ya_isThere) (C := RX8) (T := TX8) (N := 33) hx hb hts (fun w h => List.mem_cons_of_mem _ (List.mem_append_right _ h)) hown hK hP 0 rfl rfl 4 (by decide) (hts (.fieldLink RX8 22 "ContourSheetsModel" "isThere" "[Z") (by decide +kernel)) (fun _ h9 => h9) rfl dX8_has_21 ?_
      refine lv_sipush (v := z_i 1280) hx hb dX8_has_24 (by decide) ?_
      refine lv_iload_n hx hb dX8_has_27 rfl (lv_at hl 1 rfl) ?_
      refine lx_imul hx hb dX8_has_28 ?_
      refine lv_bipush (v := z_i 40) hx hb dX8_has_29 (by decide) ?_
      refine lv_iload_n hx hb dX8_has_31 rfl (lv_at hl 2 rfl) ?_
      refine lx_imul hx hb dX8_has_32 ?_
      refine lx_iadd hx hb dX8_has_33 ?_
      refine lv_iload_n hx hb dX8_has_34 rfl (lv_at hl 3 rfl) ?_
      refine lx_iadd hx hb dX8_has_35 ?_
      obtain ⟨hi3, hv⟩ := hv
      refine lx_zald hx hb hK hP 1 3 rfl rfl (by decide) hi3.1 hi3.2 dX8_has_36 ?_
      refine lx_if_eq (tgt := 44) hx hb dX8_has_37 (by decide) (z_in_g _ _) (fun hc => ?_) (fun hc => ?_)
      · have hv := hv.1 hc
        refine lv_iconst (v := z_i 0) hx hb dX8_has_44 rfl ?_
        exact W.zret (v := z_i 0) hx hb hr (by decide) (fun t ht hW => ⟨⟨z_i 0, (), rfl, ⟨0, rfl, (show z_in 0 from ⟨by decide, by decide⟩), hv⟩, trivial⟩, hS.F ht⟩) hS.2.2 dX8_has_45
      · have hv := hv.2 hc
        refine lv_iconst (v := z_i 1) hx hb dX8_has_40 rfl ?_
        refine lv_goto (tgt := 45) hx hb dX8_has_41 (by decide) ?_
        exact W.zret (v := z_i 1) hx hb hr (by decide) (fun t ht hW => ⟨⟨z_i 1, (), rfl, ⟨1, rfl, (show z_in 1 from ⟨by decide, by decide⟩), hv⟩, trivial⟩, hS.F ht⟩) hS.2.2 dX8_has_45
set_option maxHeartbeats 4000000 in
set_option maxRecDepth 100000 in
theorem mt_X8_has (l : Launch) (D : va_G) (cA : Nat → ClassId) (y : Nat) (y_space : Nat) (y_offset : Nat) (y_length : Nat) (y_units : Nat) (ya_isThere : Nat) (y_isThere : Nat → Int32) (y_levels : Int) (y_level : Nat) (y_lines : Int) (y_lineLevel : Nat) (y_lineUnits : Nat) (y_lineFrom : Nat) (y_lineMany : Nat) (y_isClosed : Nat) (y_insides : Nat) (y_parent : Nat) (y_isHigh : Nat) (y_inBits : Nat) (y_sides : Int) (y_side : Nat) (y_sideA : Nat) (y_sideB : Nat) (y_lineSpace : Int) (y_wasThere : Nat) (y_leads : Nat) (y_isLed : Nat) (y_isOn : Nat) (y_goesTo : Nat) (y_stream : Nat) (y_filled : Nat) (y_isDone : Nat) (y_isReached : Nat) (y_newUnits : Nat) (y_isNew : Nat) (gi : Int) (i : Int) (j : Int) (h_y_levels : z_in y_levels) (h_y_lines : z_in y_lines) (h_y_sides : z_in y_sides) (h_y_lineSpace : z_in y_lineSpace) (h_gi : z_in gi) (h_i : z_in i) (h_j : z_in j) (hp1 : 0 ≤ gi ∧ gi < 4) : Met l yX8_has wsX8_has ({ frames := 1, cells := 0, slots := 0, locals := 22 } : Room) (va_Pc [.ref y, .int (z_i gi), .int (z_i i), .int (z_i j)] (z_B0 D cA [(y, .inr (6, [.ref y_space, .ref y_offset, .ref y_length, .ref y_units, .ref ya_isThere, .int (z_i y_levels), .ref y_level, .int (z_i y_lines), .ref y_lineLevel, .ref y_lineUnits, .ref y_lineFrom, .ref y_lineMany, .ref y_isClosed, .ref y_insides, .ref y_parent, .ref y_isHigh, .ref y_inBits, .int (z_i y_sides), .ref y_side, .ref y_sideA, .ref y_sideB, .int (z_i y_lineSpace), .ref y_wasThere, .ref y_leads, .ref y_isLed, .ref y_isOn, .ref y_goesTo, .ref y_stream, .ref y_filled, .ref y_isDone, .ref y_isReached, .ref y_newUnits, .ref y_isNew])), (ya_isThere, .inl (cA 3, 5120, .inl y_isThere))])) (va_Qi (z_ri (fun (r : Int) => r = z_b (decide (m_no (q_th y_isThere gi) i j ≠ -1)))) (fun _ _ => True) (fun _ => False)) 0 0 (fun _ => False) := by
  refine wk_X8_has l D cA y y_space y_offset y_length y_units ya_isThere y_isThere y_levels y_level y_lines y_lineLevel y_lineUnits y_lineFrom y_lineMany y_isClosed y_insides y_parent y_isHigh y_inBits y_sides y_side y_sideA y_sideB y_lineSpace y_wasThere y_leads y_isLed y_isOn y_goesTo y_stream y_filled y_isDone y_isReached y_newUnits y_isNew gi i j h_y_levels h_y_lines h_y_sides h_y_lineSpace h_gi h_i h_j (fun (r : Int) => r = z_b (decide (m_no (q_th y_isThere gi) i j ≠ -1))) ?_
  unfold vc_X8_has
  rintro r1 _ rfl
  refine ⟨fun q => ?_, fun q => ?_⟩
  · have q := of_decide_eq_false (zb_f q)
    rw [q_no_out (by omega)]; rfl
  · have q := of_decide_eq_true (zb_t q)
    rintro r2 _ rfl
    refine ⟨fun q1 => ?_, fun q1 => ?_⟩
    · have q1 := of_decide_eq_false (zb_f q1)
      rw [q_no_out (by omega)]; rfl
    · have q1 := of_decide_eq_true (zb_t q1)
      refine ⟨⟨by omega, by omega⟩, ?_⟩
      rw [q_no (by omega) (by omega) (by omega) (by omega)]
      refine ⟨fun q2 => ?_, fun q2 => ?_⟩
      · rw [if_neg (fun h => h q2)]; rfl
      · rw [if_pos q2, decide_eq_true (by omega)]; rfl
def vc_X8_h (y_units : Nat → Int32) (gi : Int) (i : Int) (j : Int) (Q : Int → Prop) : Prop :=
(0 ≤ ((1280 * gi) + (40 * i)) + j ∧ ((1280 * gi) + (40 * i)) + j < 5120) ∧ Q (z_g y_units (((1280 * gi) + (40 * i)) + j))
set_option maxHeartbeats 4000000 in
set_option maxRecDepth 100000 in
theorem wk_X8_h (l : Launch) (D : va_G) (cA : Nat → ClassId) (y : Nat) (y_space : Nat) (y_offset : Nat) (y_length : Nat) (ya_units : Nat) (y_units : Nat → Int32) (y_isThere : Nat) (y_levels : Int) (y_level : Nat) (y_lines : Int) (y_lineLevel : Nat) (y_lineUnits : Nat) (y_lineFrom : Nat) (y_lineMany : Nat) (y_isClosed : Nat) (y_insides : Nat) (y_parent : Nat) (y_isHigh : Nat) (y_inBits : Nat) (y_sides : Int) (y_side : Nat) (y_sideA : Nat) (y_sideB : Nat) (y_lineSpace : Int) (y_wasThere : Nat) (y_leads : Nat) (y_isLed : Nat) (y_isOn : Nat) (y_goesTo : Nat) (y_stream : Nat) (y_filled : Nat) (y_isDone : Nat) (y_isReached : Nat) (y_newUnits : Nat) (y_isNew : Nat) (gi : Int) (i : Int) (j : Int) (h_y_levels : z_in y_levels) (h_y_lines : z_in y_lines) (h_y_sides : z_in y_sides) (h_y_lineSpace : z_in y_lineSpace) (h_gi : z_in gi) (h_i : z_in i) (h_j : z_in j) (Q : Int → Prop) (hv : vc_X8_h y_units gi i j Q) : Met l yX8_h wsX8_h ({ frames := 0, cells := 0, slots := 0, locals := 0 } : Room) (va_Pc [.ref y, .int (z_i gi), .int (z_i i), .int (z_i j)] (z_B0 D cA [(y, .inr (6, [.ref y_space, .ref y_offset, .ref y_length, .ref ya_units, .ref y_isThere, .int (z_i y_levels), .ref y_level, .int (z_i y_lines), .ref y_lineLevel, .ref y_lineUnits, .ref y_lineFrom, .ref y_lineMany, .ref y_isClosed, .ref y_insides, .ref y_parent, .ref y_isHigh, .ref y_inBits, .int (z_i y_sides), .ref y_side, .ref y_sideA, .ref y_sideB, .int (z_i y_lineSpace), .ref y_wasThere, .ref y_leads, .ref y_isLed, .ref y_isOn, .ref y_goesTo, .ref y_stream, .ref y_filled, .ref y_isDone, .ref y_isReached, .ref y_newUnits, .ref y_isNew])), (ya_units, .inl (cA 1, 5120, .inl y_units))])) (va_Qi (z_ri Q) (fun _ _ => True) (fun _ => False)) 0 0 (fun _ => False) := by
  unfold vc_X8_h at hv
  refine Met.ofW (cc := cX8_h) (maxL := 4) (ret := (some .int)) (by decide +kernel) rfl ?_
  intro p e s m args below meth c s₁ B hml hv0
  obtain ⟨rfl, hK, hP⟩ := hv0
  have hx := B.exec
  have hb := B.bytes
  have hr := B.returns
  have hts := atoms_spec (ws := wsX8_h) B.pre
  have hown : s.vm.findClass RX8 = some m.cls := findClass_of_methodNamed B.named
  have hlocks := B.notSynchronized
  have hS : va_S (fun _ : Nat => False) s.heap s.heap [] := va_S.rf
  have hl := lv_entry ([.ref y, .int (z_i gi), .int (z_i i), .int (z_i j)]) (n := 4) (Nat.le_of_ble_eq_true rfl)
  rw [lg_entry_eq]
  generalize (lg_sl ([.ref y, .int (z_i gi), .int (z_i i), .int (z_i j)]) ++ List.replicate (4 - (lg_sl ([.ref y, .int (z_i gi), .int (z_i i), .int (z_i j)])).length) Slot.unset).toArray = ls at hl ⊢
  have hl : lv_has ls 4 [(0, .ref y), (1, .int (z_i gi)), (2, .int (z_i i)), (3, .int (z_i j))] := hl
  refine lv_aload_n hx hb dX8_h_0 rfl (lv_at hl 0 rfl) ?_
  refine va_get (D := D) (ci := 6) (v := .ref ya_units) (C := RX8) (T := TX8) (N := 33) hx hb hts (fun w h => List.mem_cons_of_mem _ (List.mem_append_right _ h)) hown hK hP 0 rfl rfl 3 (by decide) (hts (.fieldLink RX8 19 "ContourSheetsModel" "units" "[I") (by decide +kernel)) (fun _ h9 => h9) rfl dX8_h_1 ?_
  refine lv_sipush (v := z_i 1280) hx hb dX8_h_4 (by decide) ?_
  refine lv_iload_n hx hb dX8_h_7 rfl (lv_at hl 1 rfl) ?_
  refine lx_imul hx hb dX8_h_8 ?_
  refine lv_bipush (v := z_i 40) hx hb dX8_h_9 (by decide) ?_
  refine lv_iload_n hx hb dX8_h_11 rfl (lv_at hl 2 rfl) ?_
  refine lx_imul hx hb dX8_h_12 ?_
  refine lx_iadd hx hb dX8_h_13 ?_
  refine lv_iload_n hx hb dX8_h_14 rfl (lv_at hl 3 rfl) ?_
  refine lx_iadd hx hb dX8_h_15 ?_
  obtain ⟨hi1, hv⟩ := hv
  refine lx_iald hx hb hK hP 1 1 rfl rfl (by decide) hi1.1 hi1.2 dX8_h_16 ?_
  exact W.iret (v := z_i (z_g y_units (((1280 * gi) + (40 * i)) + j))) hx hb hr (fun t ht hW => ⟨⟨z_i (z_g y_units (((1280 * gi) + (40 * i)) + j)), (), rfl, ⟨z_g y_units (((1280 * gi) + (40 * i)) + j), rfl, (z_in_g _ _), hv⟩, trivial⟩, hS.F ht⟩) hS.2.2 dX8_h_17
set_option maxHeartbeats 4000000 in
set_option maxRecDepth 100000 in
theorem mt_X8_h (l : Launch) (D : va_G) (cA : Nat → ClassId) (y : Nat) (y_space : Nat) (y_offset : Nat) (y_length : Nat) (ya_units : Nat) (y_units : Nat → Int32) (y_isThere : Nat) (y_levels : Int) (y_level : Nat) (y_lines : Int) (y_lineLevel : Nat) (y_lineUnits : Nat) (y_lineFrom : Nat) (y_lineMany : Nat) (y_isClosed : Nat) (y_insides : Nat) (y_parent : Nat) (y_isHigh : Nat) (y_inBits : Nat) (y_sides : Int) (y_side : Nat) (y_sideA : Nat) (y_sideB : Nat) (y_lineSpace : Int) (y_wasThere : Nat) (y_leads : Nat) (y_isLed : Nat) (y_isOn : Nat) (y_goesTo : Nat) (y_stream : Nat) (y_filled : Nat) (y_isDone : Nat) (y_isReached : Nat) (y_newUnits : Nat) (y_isNew : Nat) (gi : Int) (i : Int) (j : Int) (h_y_levels : z_in y_levels) (h_y_lines : z_in y_lines) (h_y_sides : z_in y_sides) (h_y_lineSpace : z_in y_lineSpace) (h_gi : z_in gi) (h_i : z_in i) (h_j : z_in j) (hp1 : 0 ≤ gi ∧ gi < 4) (hp2 : 0 ≤ i ∧ i < 32) (hp3 : 0 ≤ j ∧ j < 40) : Met l yX8_h wsX8_h ({ frames := 0, cells := 0, slots := 0, locals := 0 } : Room) (va_Pc [.ref y, .int (z_i gi), .int (z_i i), .int (z_i j)] (z_B0 D cA [(y, .inr (6, [.ref y_space, .ref y_offset, .ref y_length, .ref ya_units, .ref y_isThere, .int (z_i y_levels), .ref y_level, .int (z_i y_lines), .ref y_lineLevel, .ref y_lineUnits, .ref y_lineFrom, .ref y_lineMany, .ref y_isClosed, .ref y_insides, .ref y_parent, .ref y_isHigh, .ref y_inBits, .int (z_i y_sides), .ref y_side, .ref y_sideA, .ref y_sideB, .int (z_i y_lineSpace), .ref y_wasThere, .ref y_leads, .ref y_isLed, .ref y_isOn, .ref y_goesTo, .ref y_stream, .ref y_filled, .ref y_isDone, .ref y_isReached, .ref y_newUnits, .ref y_isNew])), (ya_units, .inl (cA 1, 5120, .inl y_units))])) (va_Qi (z_ri (fun (r : Int) => r = z_g y_units (1280 * gi + (40 * i + j)))) (fun _ _ => True) (fun _ => False)) 0 0 (fun _ => False) := by
  refine wk_X8_h l D cA y y_space y_offset y_length ya_units y_units y_isThere y_levels y_level y_lines y_lineLevel y_lineUnits y_lineFrom y_lineMany y_isClosed y_insides y_parent y_isHigh y_inBits y_sides y_side y_sideA y_sideB y_lineSpace y_wasThere y_leads y_isLed y_isOn y_goesTo y_stream y_filled y_isDone y_isReached y_newUnits y_isNew gi i j h_y_levels h_y_lines h_y_sides h_y_lineSpace h_gi h_i h_j (fun (r : Int) => r = z_g y_units (1280 * gi + (40 * i + j))) ?_
  unfold vc_X8_h
  refine ⟨⟨by omega, by omega⟩, ?_⟩
  rw [Int.add_assoc]
def vc_X8_isOf (y_offset : Nat → Int32) (y_length : Nat → Int32) (gi : Int) (i : Int) (j : Int) (Q : Int → Prop) : Prop :=
(∀ (r1 : Int), z_in r1 → (r1 = z_b (decide (0 ≤ gi ∧ gi ≤ 3))) → ((r1 = 0 → Q 0) ∧
(r1 ≠ 0 → (∀ (r2 : Int), z_in r2 → (r2 = z_b (decide ((0 : Int) ≤ i ∧ i ≤ (31 : Int)))) → ((r2 = 0 → Q 0) ∧
(r2 ≠ 0 → (0 ≤ (32 * gi) + i ∧ (32 * gi) + i < 128) ∧ z_in ((z_g y_length ((32 * gi) + i)) - 1) ∧ (∀ (r5 : Int), z_in r5 → (r5 = z_b (decide ((0 : Int) ≤ (z_w (j - (z_g y_offset ((32 * gi) + i)))) ∧ (z_w (j - (z_g y_offset ((32 * gi) + i)))) ≤ ((z_g y_length ((32 * gi) + i)) - 1)))) → ((r5 = 0 → Q 0) ∧
(r5 ≠ 0 → Q 1)))))))))
set_option maxHeartbeats 4000000 in
set_option maxRecDepth 100000 in
theorem wk_X8_isOf (l : Launch) (D : va_G) (cA : Nat → ClassId) (y : Nat) (y_space : Nat) (ya_offset : Nat) (y_offset : Nat → Int32) (ya_length : Nat) (y_length : Nat → Int32) (y_units : Nat) (y_isThere : Nat) (y_levels : Int) (y_level : Nat) (y_lines : Int) (y_lineLevel : Nat) (y_lineUnits : Nat) (y_lineFrom : Nat) (y_lineMany : Nat) (y_isClosed : Nat) (y_insides : Nat) (y_parent : Nat) (y_isHigh : Nat) (y_inBits : Nat) (y_sides : Int) (y_side : Nat) (y_sideA : Nat) (y_sideB : Nat) (y_lineSpace : Int) (y_wasThere : Nat) (y_leads : Nat) (y_isLed : Nat) (y_isOn : Nat) (y_goesTo : Nat) (y_stream : Nat) (y_filled : Nat) (y_isDone : Nat) (y_isReached : Nat) (y_newUnits : Nat) (y_isNew : Nat) (gi : Int) (i : Int) (j : Int) (h_y_levels : z_in y_levels) (h_y_lines : z_in y_lines) (h_y_sides : z_in y_sides) (h_y_lineSpace : z_in y_lineSpace) (h_gi : z_in gi) (h_i : z_in i) (h_j : z_in j) (Q : Int → Prop) (hv : vc_X8_isOf y_offset y_length gi i j Q) : Met l yX8_isOf wsX8_isOf ({ frames := 2, cells := 0, slots := 0, locals := 42 } : Room) (va_Pc [.ref y, .int (z_i gi), .int (z_i i), .int (z_i j)] (z_B0 D cA [(y, .inr (6, [.ref y_space, .ref ya_offset, .ref ya_length, .ref y_units, .ref y_isThere, .int (z_i y_levels), .ref y_level, .int (z_i y_lines), .ref y_lineLevel, .ref y_lineUnits, .ref y_lineFrom, .ref y_lineMany, .ref y_isClosed, .ref y_insides, .ref y_parent, .ref y_isHigh, .ref y_inBits, .int (z_i y_sides), .ref y_side, .ref y_sideA, .ref y_sideB, .int (z_i y_lineSpace), .ref y_wasThere, .ref y_leads, .ref y_isLed, .ref y_isOn, .ref y_goesTo, .ref y_stream, .ref y_filled, .ref y_isDone, .ref y_isReached, .ref y_newUnits, .ref y_isNew])), (ya_offset, .inl (cA 1, 128, .inl y_offset)), (ya_length, .inl (cA 1, 128, .inl y_length))])) (va_Qi (z_ri Q) (fun _ _ => True) (fun _ => False)) 0 0 (fun _ => False) := by
  unfold vc_X8_isOf at hv
  refine Met.ofW (cc := cX8_isOf) (maxL := 4) (ret := (some .boolean)) (by decide +kernel) rfl ?_
  intro p e s m args below meth c s₁ B hml hv0
  obtain ⟨rfl, hK, hP⟩ := hv0
  have hx := B.exec
  have hb := B.bytes
  have hr := B.returns
  have hts := atoms_spec (ws := wsX8_isOf) B.pre
  have hown : s.vm.findClass RX8 = some m.cls := findClass_of_methodNamed B.named
  have hlocks := B.notSynchronized
  have hS : va_S (fun _ : Nat => False) s.heap s.heap [] := va_S.rf
  have hl := lv_entry ([.ref y, .int (z_i gi), .int (z_i i), .int (z_i j)]) (n := 4) (Nat.le_of_ble_eq_true rfl)
  rw [lg_entry_eq]
  generalize (lg_sl ([.ref y, .int (z_i gi), .int (z_i i), .int (z_i j)]) ++ List.replicate (4 - (lg_sl ([.ref y, .int (z_i gi), .int (z_i i), .int (z_i j)])).length) Slot.unset).toArray = ls at hl ⊢
  have hl : lv_has ls 4 [(0, .ref y), (1, .int (z_i gi)), (2, .int (z_i i)), (3, .int (z_i j))] := hl
  refine lv_iload_n hx hb dX8_isOf_0 rfl (lv_at hl 1 rfl) ?_
  refine va_calli (va_runS (As := [.int (z_i gi)]) (rest := []) ⟨hx, hb, hml, hown, hts⟩ (mt_X8_isGrid l D cA gi h_gi) (va_cwS 1 hts gX8_isOf_X8_isGrid rfl rfl rfl (by decide +kernel) ⟨Nat.le_of_ble_eq_true rfl, Nat.le_of_ble_eq_true rfl⟩) ⟨z_bl0, fun U hU hW => ⟨rfl, z_b0 hK (hP.sub (ws' := []) [] rfl) hU hW⟩⟩ rfl rfl hl.1 rfl (lv_room (Nat.le_of_ble_eq_true rfl)) dX8_isOf_1 ⟨Nat.zero_le _, Nat.zero_le _⟩) hS (fun q _ h => h.elim) (fun q h => h.elim) (fun r0 u t H locs ht hvm hw hB hz1 hk1 hS => ?_)
  obtain ⟨r1, rfl, h_r1, hw⟩ := hw
  have hP := z_P_all hP hk1
  have hv := hv r1 h_r1 hw
  refine lx_if_eq (tgt := 54) hx hb dX8_isOf_4 (by decide) h_r1 (fun hc => ?_) (fun hc => ?_)
  · have hv := hv.1 hc
    refine lv_iconst (v := z_i 0) hx hb dX8_isOf_54 rfl ?_
    exact W.zret (v := z_i 0) hx hb hr (by decide) (fun t ht hW => ⟨⟨z_i 0, (), rfl, ⟨0, rfl, (show z_in 0 from ⟨by decide, by decide⟩), hv⟩, trivial⟩, hS.F ht⟩) hS.2.2 dX8_isOf_55
  · have hv := hv.2 hc
    refine lv_iload_n hx hb dX8_isOf_7 rfl (lv_at hl 2 rfl) ?_
    refine lv_iconst (v := z_i 0) hx hb dX8_isOf_8 rfl ?_
    refine lv_bipush (v := z_i 31) hx hb dX8_isOf_9 (by decide) ?_
    refine va_calli (va_runS (As := [.int (z_i i), .int (z_i 0), .int (z_i 31)]) (rest := []) ⟨hx, hb, hml, hown, hts⟩ (mt_X8_in l D cA i 0 31 h_i (show z_in 0 from ⟨by decide, by decide⟩) (show z_in 31 from ⟨by decide, by decide⟩)) (va_cwS 3 hts gX8_isOf_X8_in rfl rfl rfl (by decide +kernel) ⟨Nat.le_of_ble_eq_true rfl, Nat.le_of_ble_eq_true rfl⟩) ⟨z_bl0, fun U hU hW => ⟨rfl, z_b0 hK (hP.sub (ws' := []) [] rfl) hU hW⟩⟩ rfl rfl hl.1 rfl (lv_room (Nat.le_of_ble_eq_true rfl)) dX8_isOf_11 ⟨Nat.zero_le _, Nat.zero_le _⟩) hS (fun q _ h => h.elim) (fun q h => h.elim) (fun r0 u t H locs ht hvm hw hB hz1 hk1 hS => ?_)
    obtain ⟨r2, rfl, h_r2, hw⟩ := hw
    have hP := z_P_all hP hk1
    have hv := hv r2 h_r2 hw
    refine lx_if_eq (tgt := 54) hx hb dX8_isOf_14 (by decide) h_r2 (fun hc => ?_) (fun hc => ?_)
    · have hv := hv.1 hc
      refine lv_iconst (v := z_i 0) hx hb dX8_isOf_54 rfl ?_
      exact W.zret (v := z_i 0) hx hb hr (by decide) (fun t ht hW => ⟨⟨z_i 0, (), rfl, ⟨0, rfl, (show z_in 0 from ⟨by decide, by decide⟩), hv⟩, trivial⟩, hS.F ht⟩) hS.2.2 dX8_isOf_55
    · have hv := hv.2 hc
      refine lv_iload_n hx hb dX8_isOf_17 rfl (lv_at hl 3 rfl) ?_
      refine lv_aload_n hx hb dX8_isOf_18 rfl (lv_at hl 0 rfl) ?_
      refine va_get (D := D) (ci := 6) (v := .ref ya_offset) (C := RX8) (T := TX8) (N := 33) hx hb hts (fun w h => List.mem_cons_of_mem _ (List.mem_append_right _ h)) hown hK hP 0 rfl rfl 1 (by decide) (hts (.fieldLink RX8 13 "ContourSheetsModel" "offset" "[I") (by decide +kernel)) (fun _ h9 => h9) rfl dX8_isOf_19 ?_
      refine lv_bipush (v := z_i 32) hx hb dX8_isOf_22 (by decide) ?_
      refine lv_iload_n hx hb dX8_isOf_24 rfl (lv_at hl 1 rfl) ?_
      refine lx_imul hx hb dX8_isOf_25 ?_
      refine lv_iload_n hx hb dX8_isOf_26 rfl (lv_at hl 2 rfl) ?_
      refine lx_iadd hx hb dX8_isOf_27 ?_
      obtain ⟨hi3, hv⟩ := hv
      refine lx_iald hx hb hK hP 1 1 rfl rfl (by decide) hi3.1 hi3.2 dX8_isOf_28 ?_
      refine lx_isub hx hb dX8_isOf_29 ?_
      refine lx_wrap ?_
      refine lv_iconst (v := z_i 0) hx hb dX8_isOf_30 rfl ?_
      refine lv_aload_n hx hb dX8_isOf_31 rfl (lv_at hl 0 rfl) ?_
      refine va_get (D := D) (ci := 6) (v := .ref ya_length) (C := RX8) (T := TX8) (N := 33) hx hb hts (fun w h => List.mem_cons_of_mem _ (List.mem_append_right _ h)) hown hK hP 0 rfl rfl 2 (by decide) (hts (.fieldLink RX8 16 "ContourSheetsModel" "length" "[I") (by decide +kernel)) (fun _ h9 => h9) rfl dX8_isOf_32 ?_
      refine lv_bipush (v := z_i 32) hx hb dX8_isOf_35 (by decide) ?_
      refine lv_iload_n hx hb dX8_isOf_37 rfl (lv_at hl 1 rfl) ?_
      refine lx_imul hx hb dX8_isOf_38 ?_
      refine lv_iload_n hx hb dX8_isOf_39 rfl (lv_at hl 2 rfl) ?_
      refine lx_iadd hx hb dX8_isOf_40 ?_
      refine lx_iald hx hb hK hP 2 1 rfl rfl (by decide) hi3.1 hi3.2 dX8_isOf_41 ?_
      refine lv_iconst (v := z_i 1) hx hb dX8_isOf_42 rfl ?_
      refine lx_isub hx hb dX8_isOf_43 ?_
      obtain ⟨hr4, hv⟩ := hv
      refine va_calli (va_runS (As := [.int (z_i (z_w (j - (z_g y_offset ((32 * gi) + i))))), .int (z_i 0), .int (z_i ((z_g y_length ((32 * gi) + i)) - 1))]) (rest := []) ⟨hx, hb, hml, hown, hts⟩ (mt_X8_in l D cA (z_w (j - (z_g y_offset ((32 * gi) + i)))) 0 ((z_g y_length ((32 * gi) + i)) - 1) (z_in_of _) (show z_in 0 from ⟨by decide, by decide⟩) hr4) (va_cwS 3 hts gX8_isOf_X8_in rfl rfl rfl (by decide +kernel) ⟨Nat.le_of_ble_eq_true rfl, Nat.le_of_ble_eq_true rfl⟩) ⟨z_bl0, fun U hU hW => ⟨rfl, z_b0 hK (hP.sub (ws' := []) [] rfl) hU hW⟩⟩ rfl rfl hl.1 rfl (lv_room (Nat.le_of_ble_eq_true rfl)) dX8_isOf_44 ⟨Nat.zero_le _, Nat.zero_le _⟩) hS (fun q _ h => h.elim) (fun q h => h.elim) (fun r0 u t H locs ht hvm hw hB hz1 hk1 hS => ?_)
      obtain ⟨r5, rfl, h_r5, hw⟩ := hw
      have hP := z_P_all hP hk1
      have hv := hv r5 h_r5 hw
      refine lx_if_eq (tgt := 54) hx hb dX8_isOf_47 (by decide) h_r5 (fun hc => ?_) (fun hc => ?_)
      · have hv := hv.1 hc
        refine lv_iconst (v := z_i 0) hx hb dX8_isOf_54 rfl ?_
        exact W.zret (v := z_i 0) hx hb hr (by decide) (fun t ht hW => ⟨⟨z_i 0, (), rfl, ⟨0, rfl, (show z_in 0 from ⟨by decide, by decide⟩), hv⟩, trivial⟩, hS.F ht⟩) hS.2.2 dX8_isOf_55
      · have hv := hv.2 hc
        refine lv_iconst (v := z_i 1) hx hb dX8_isOf_50 rfl ?_
        refine lv_goto (tgt := 55) hx hb dX8_isOf_51 (by decide) ?_
        exact W.zret (v := z_i 1) hx hb hr (by decide) (fun t ht hW => ⟨⟨z_i 1, (), rfl, ⟨1, rfl, (show z_in 1 from ⟨by decide, by decide⟩), hv⟩, trivial⟩, hS.F ht⟩) hS.2.2 dX8_isOf_55
set_option maxHeartbeats 4000000 in
set_option maxRecDepth 100000 in
theorem mt_X8_isOf (l : Launch) (D : va_G) (cA : Nat → ClassId) (y : Nat) (y_space : Nat) (ya_offset : Nat) (y_offset : Nat → Int32) (ya_length : Nat) (y_length : Nat → Int32) (y_units : Nat) (y_isThere : Nat) (y_levels : Int) (y_level : Nat) (y_lines : Int) (y_lineLevel : Nat) (y_lineUnits : Nat) (y_lineFrom : Nat) (y_lineMany : Nat) (y_isClosed : Nat) (y_insides : Nat) (y_parent : Nat) (y_isHigh : Nat) (y_inBits : Nat) (y_sides : Int) (y_side : Nat) (y_sideA : Nat) (y_sideB : Nat) (y_lineSpace : Int) (y_wasThere : Nat) (y_leads : Nat) (y_isLed : Nat) (y_isOn : Nat) (y_goesTo : Nat) (y_stream : Nat) (y_filled : Nat) (y_isDone : Nat) (y_isReached : Nat) (y_newUnits : Nat) (y_isNew : Nat) (gi : Int) (i : Int) (j : Int) (h_y_levels : z_in y_levels) (h_y_lines : z_in y_lines) (h_y_sides : z_in y_sides) (h_y_lineSpace : z_in y_lineSpace) (h_gi : z_in gi) (h_i : z_in i) (h_j : z_in j) (hp1 : q_rw y_length y_offset) : Met l yX8_isOf wsX8_isOf ({ frames := 2, cells := 0, slots := 0, locals := 42 } : Room) (va_Pc [.ref y, .int (z_i gi), .int (z_i i), .int (z_i j)] (z_B0 D cA [(y, .inr (6, [.ref y_space, .ref ya_offset, .ref ya_length, .ref y_units, .ref y_isThere, .int (z_i y_levels), .ref y_level, .int (z_i y_lines), .ref y_lineLevel, .ref y_lineUnits, .ref y_lineFrom, .ref y_lineMany, .ref y_isClosed, .ref y_insides, .ref y_parent, .ref y_isHigh, .ref y_inBits, .int (z_i y_sides), .ref y_side, .ref y_sideA, .ref y_sideB, .int (z_i y_lineSpace), .ref y_wasThere, .ref y_leads, .ref y_isLed, .ref y_isOn, .ref y_goesTo, .ref y_stream, .ref y_filled, .ref y_isDone, .ref y_isReached, .ref y_newUnits, .ref y_isNew])), (ya_offset, .inl (cA 1, 128, .inl y_offset)), (ya_length, .inl (cA 1, 128, .inl y_length))])) (va_Qi (z_ri (fun (r : Int) => r = z_b (decide ((0 ≤ gi ∧ gi < 4) ∧ 0 ≤ i ∧ i < 32 ∧ z_g y_offset (32 * gi + i) ≤ j ∧ j < z_g y_offset (32 * gi + i) + z_g y_length (32 * gi + i))))) (fun _ _ => True) (fun _ => False)) 0 0 (fun _ => False) := by
  refine wk_X8_isOf l D cA y y_space ya_offset y_offset ya_length y_length y_units y_isThere y_levels y_level y_lines y_lineLevel y_lineUnits y_lineFrom y_lineMany y_isClosed y_insides y_parent y_isHigh y_inBits y_sides y_side y_sideA y_sideB y_lineSpace y_wasThere y_leads y_isLed y_isOn y_goesTo y_stream y_filled y_isDone y_isReached y_newUnits y_isNew gi i j h_y_levels h_y_lines h_y_sides h_y_lineSpace h_gi h_i h_j (fun (r : Int) => r = z_b (decide ((0 ≤ gi ∧ gi < 4) ∧ 0 ≤ i ∧ i < 32 ∧ z_g y_offset (32 * gi + i) ≤ j ∧ j < z_g y_offset (32 * gi + i) + z_g y_length (32 * gi + i)))) ?_
  unfold vc_X8_isOf
  have no : ¬ ((0 ≤ gi ∧ gi < 4) ∧ 0 ≤ i ∧ i < 32 ∧ z_g y_offset (32 * gi + i) ≤ j ∧ j < z_g y_offset (32 * gi + i) + z_g y_length (32 * gi + i)) → (0 : Int) = z_b (decide ((0 ≤ gi ∧ gi < 4) ∧ 0 ≤ i ∧ i < 32 ∧ z_g y_offset (32 * gi + i) ≤ j ∧ j < z_g y_offset (32 * gi + i) + z_g y_length (32 * gi + i))) := fun h => by rw [decide_eq_false h]; rfl
  rintro r1 _ rfl
  refine ⟨fun q => no (fun h => of_decide_eq_false (zb_f q) ⟨h.1.1, by omega⟩), fun q => ?_⟩
  have q := of_decide_eq_true (zb_t q)
  rintro r2 _ rfl
  refine ⟨fun q1 => no (fun h => of_decide_eq_false (zb_f q1) ⟨h.2.1, by omega⟩), fun q1 => ?_⟩
  have q1 := of_decide_eq_true (zb_t q1)
  have hr := hp1 (32 * gi + i) (by omega) (by omega)
  have hj : -2147483648 ≤ j ∧ j < 2147483648 := h_j
  have hw := z_w_lo (a := j - z_g y_offset (32 * gi + i)) (by omega) (by omega)
  refine ⟨⟨by omega, by omega⟩, ⟨by omega, by omega⟩, ?_⟩
  rintro r6 _ rfl
  refine ⟨fun q2 => no (fun h => of_decide_eq_false (zb_f q2) (by omega)), fun q2 => ?_⟩
  have q2 := of_decide_eq_true (zb_t q2)
  rw [decide_eq_true (by omega)]; rfl
def vc_X8_isWhole (y_isThere : Nat → Int32) (gi : Int) (i : Int) (j : Int) (Q : Int → Prop) : Prop :=
(0 ≤ gi ∧ gi < 4) ∧ (∀ (r2 : Int), z_in r2 → (r2 = z_b (decide (m_no (q_th y_isThere gi) i j ≠ -1))) → ((r2 = 0 → Q 0) ∧
(r2 ≠ 0 → z_in (j + 1) ∧ (0 ≤ gi ∧ gi < 4) ∧ (∀ (r5 : Int), z_in r5 → (r5 = z_b (decide (m_no (q_th y_isThere gi) i (j + 1) ≠ -1))) → ((r5 = 0 → Q 0) ∧
(r5 ≠ 0 → z_in (i + 1) ∧ (0 ≤ gi ∧ gi < 4) ∧ (∀ (r8 : Int), z_in r8 → (r8 = z_b (decide (m_no (q_th y_isThere gi) (i + 1) j ≠ -1))) → ((r8 = 0 → Q 0) ∧
(r8 ≠ 0 → (0 ≤ gi ∧ gi < 4) ∧ (∀ (r10 : Int), z_in r10 → (r10 = z_b (decide (m_no (q_th y_isThere gi) (i + 1) (j + 1) ≠ -1))) → ((r10 = 0 → Q 0) ∧
(r10 ≠ 0 → Q 1))))))))))))
set_option maxHeartbeats 4000000 in
set_option maxRecDepth 100000 in
theorem wk_X8_isWhole (l : Launch) (D : va_G) (cA : Nat → ClassId) (y : Nat) (y_space : Nat) (y_offset : Nat) (y_length : Nat) (y_units : Nat) (ya_isThere : Nat) (y_isThere : Nat → Int32) (y_levels : Int) (y_level : Nat) (y_lines : Int) (y_lineLevel : Nat) (y_lineUnits : Nat) (y_lineFrom : Nat) (y_lineMany : Nat) (y_isClosed : Nat) (y_insides : Nat) (y_parent : Nat) (y_isHigh : Nat) (y_inBits : Nat) (y_sides : Int) (y_side : Nat) (y_sideA : Nat) (y_sideB : Nat) (y_lineSpace : Int) (y_wasThere : Nat) (y_leads : Nat) (y_isLed : Nat) (y_isOn : Nat) (y_goesTo : Nat) (y_stream : Nat) (y_filled : Nat) (y_isDone : Nat) (y_isReached : Nat) (y_newUnits : Nat) (y_isNew : Nat) (gi : Int) (i : Int) (j : Int) (h_y_levels : z_in y_levels) (h_y_lines : z_in y_lines) (h_y_sides : z_in y_sides) (h_y_lineSpace : z_in y_lineSpace) (h_gi : z_in gi) (h_i : z_in i) (h_j : z_in j) (Q : Int → Prop) (hv : vc_X8_isWhole y_isThere gi i j Q) : Met l yX8_isWhole wsX8_isWhole ({ frames := 2, cells := 0, slots := 0, locals := 45 } : Room) (va_Pc [.ref y, .int (z_i gi), .int (z_i i), .int (z_i j)] (z_B0 D cA [(y, .inr (6, [.ref y_space, .ref y_offset, .ref y_length, .ref y_units, .ref ya_isThere, .int (z_i y_levels), .ref y_level, .int (z_i y_lines), .ref y_lineLevel, .ref y_lineUnits, .ref y_lineFrom, .ref y_lineMany, .ref y_isClosed, .ref y_insides, .ref y_parent, .ref y_isHigh, .ref y_inBits, .int (z_i y_sides), .ref y_side, .ref y_sideA, .ref y_sideB, .int (z_i y_lineSpace), .ref y_wasThere, .ref y_leads, .ref y_isLed, .ref y_isOn, .ref y_goesTo, .ref y_stream, .ref y_filled, .ref y_isDone, .ref y_isReached, .ref y_newUnits, .ref y_isNew])), (ya_isThere, .inl (cA 3, 5120, .inl y_isThere))])) (va_Qi (z_ri Q) (fun _ _ => True) (fun _ => False)) 0 0 (fun _ => False) := by
  unfold vc_X8_isWhole at hv
  refine Met.ofW (cc := cX8_isWhole) (maxL := 4) (ret := (some .boolean)) (by decide +kernel) rfl ?_
  intro p e s m args below meth c s₁ B hml hv0
  obtain ⟨rfl, hK, hP⟩ := hv0
  have hx := B.exec
  have hb := B.bytes
  have hr := B.returns
  have hts := atoms_spec (ws := wsX8_isWhole) B.pre
  have hown : s.vm.findClass RX8 = some m.cls := findClass_of_methodNamed B.named
  have hlocks := B.notSynchronized
  have hS : va_S (fun _ : Nat => False) s.heap s.heap [] := va_S.rf
  have hl := lv_entry ([.ref y, .int (z_i gi), .int (z_i i), .int (z_i j)]) (n := 4) (Nat.le_of_ble_eq_true rfl)
  rw [lg_entry_eq]
  generalize (lg_sl ([.ref y, .int (z_i gi), .int (z_i i), .int (z_i j)]) ++ List.replicate (4 - (lg_sl ([.ref y, .int (z_i gi), .int (z_i i), .int (z_i j)])).length) Slot.unset).toArray = ls at hl ⊢
  have hl : lv_has ls 4 [(0, .ref y), (1, .int (z_i gi)), (2, .int (z_i i)), (3, .int (z_i j))] := hl
  refine lv_aload_n hx hb dX8_isWhole_0 rfl (lv_at hl 0 rfl) ?_
  refine lv_iload_n hx hb dX8_isWhole_1 rfl (lv_at hl 1 rfl) ?_
  refine lv_iload_n hx hb dX8_isWhole_2 rfl (lv_at hl 2 rfl) ?_
  refine lv_iload_n hx hb dX8_isWhole_3 rfl (lv_at hl 3 rfl) ?_
  obtain ⟨hp1, hv⟩ := hv
  refine va_calli (va_runV (As := [.int (z_i gi), .int (z_i i), .int (z_i j)]) (rest := []) ⟨hx, hb, hml, hown, hts⟩ (mt_X8_has l D cA y y_space y_offset y_length y_units ya_isThere y_isThere y_levels y_level y_lines y_lineLevel y_lineUnits y_lineFrom y_lineMany y_isClosed y_insides y_parent y_isHigh y_inBits y_sides y_side y_sideA y_sideB y_lineSpace y_wasThere y_leads y_isLed y_isOn y_goesTo y_stream y_filled y_isDone y_isReached y_newUnits y_isNew gi i j h_y_levels h_y_lines h_y_sides h_y_lineSpace h_gi h_i h_j hp1) (cwV 3 hts gX8_isWhole_X8_has rfl rfl rfl (by decide +kernel) ⟨Nat.le_of_ble_eq_true rfl, Nat.le_of_ble_eq_true rfl⟩) ⟨z_bl0, va_recv hK hP (ci := 6) (q0 := 0) rfl rfl, fun U hU hW => ⟨rfl, z_b0 hK hP hU hW⟩⟩ rfl rfl hl.1 rfl (lv_room (Nat.le_of_ble_eq_true rfl)) dX8_isWhole_4 ⟨Nat.zero_le _, Nat.zero_le _⟩) hS (fun q _ h => h.elim) (fun q h => h.elim) (fun r0 u t H locs ht hvm hw hB hz1 hk1 hS => ?_)
  obtain ⟨r2, rfl, h_r2, hw⟩ := hw
  have hP := z_P_all hP hk1
  have hv := hv r2 h_r2 hw
  refine lx_if_eq (tgt := 52) hx hb dX8_isWhole_7 (by decide) h_r2 (fun hc => ?_) (fun hc => ?_)
  · have hv := hv.1 hc
    refine lv_iconst (v := z_i 0) hx hb dX8_isWhole_52 rfl ?_
    exact W.zret (v := z_i 0) hx hb hr (by decide) (fun t ht hW => ⟨⟨z_i 0, (), rfl, ⟨0, rfl, (show z_in 0 from ⟨by decide, by decide⟩), hv⟩, trivial⟩, hS.F ht⟩) hS.2.2 dX8_isWhole_53
  · have hv := hv.2 hc
    refine lv_aload_n hx hb dX8_isWhole_10 rfl (lv_at hl 0 rfl) ?_
    refine lv_iload_n hx hb dX8_isWhole_11 rfl (lv_at hl 1 rfl) ?_
    refine lv_iload_n hx hb dX8_isWhole_12 rfl (lv_at hl 2 rfl) ?_
    refine lv_iload_n hx hb dX8_isWhole_13 rfl (lv_at hl 3 rfl) ?_
    refine lv_iconst (v := z_i 1) hx hb dX8_isWhole_14 rfl ?_
    refine lx_iadd hx hb dX8_isWhole_15 ?_
    obtain ⟨hr3, hv⟩ := hv
    obtain ⟨hp4, hv⟩ := hv
    refine va_calli (va_runV (As := [.int (z_i gi), .int (z_i i), .int (z_i (j + 1))]) (rest := []) ⟨hx, hb, hml, hown, hts⟩ (mt_X8_has l D cA y y_space y_offset y_length y_units ya_isThere y_isThere y_levels y_level y_lines y_lineLevel y_lineUnits y_lineFrom y_lineMany y_isClosed y_insides y_parent y_isHigh y_inBits y_sides y_side y_sideA y_sideB y_lineSpace y_wasThere y_leads y_isLed y_isOn y_goesTo y_stream y_filled y_isDone y_isReached y_newUnits y_isNew gi i (j + 1) h_y_levels h_y_lines h_y_sides h_y_lineSpace h_gi h_i hr3 hp4) (cwV 3 hts gX8_isWhole_X8_has rfl rfl rfl (by decide +kernel) ⟨Nat.le_of_ble_eq_true rfl, Nat.le_of_ble_eq_true rfl⟩) ⟨z_bl0, va_recv hK hP (ci := 6) (q0 := 0) rfl rfl, fun U hU hW => ⟨rfl, z_b0 hK hP hU hW⟩⟩ rfl rfl hl.1 rfl (lv_room (Nat.le_of_ble_eq_true rfl)) dX8_isWhole_16 ⟨Nat.zero_le _, Nat.zero_le _⟩) hS (fun q _ h => h.elim) (fun q h => h.elim) (fun r0 u t H locs ht hvm hw hB hz1 hk1 hS => ?_)
    obtain ⟨r5, rfl, h_r5, hw⟩ := hw
    have hP := z_P_all hP hk1
    have hv := hv r5 h_r5 hw
    refine lx_if_eq (tgt := 52) hx hb dX8_isWhole_19 (by decide) h_r5 (fun hc => ?_) (fun hc => ?_)
    · have hv := hv.1 hc
      refine lv_iconst (v := z_i 0) hx hb dX8_isWhole_52 rfl ?_
      exact W.zret (v := z_i 0) hx hb hr (by decide) (fun t ht hW => ⟨⟨z_i 0, (), rfl, ⟨0, rfl, (show z_in 0 from ⟨by decide, by decide⟩), hv⟩, trivial⟩, hS.F ht⟩) hS.2.2 dX8_isWhole_53
    · have hv := hv.2 hc
      refine lv_aload_n hx hb dX8_isWhole_22 rfl (lv_at hl 0 rfl) ?_
      refine lv_iload_n hx hb dX8_isWhole_23 rfl (lv_at hl 1 rfl) ?_
      refine lv_iload_n hx hb dX8_isWhole_24 rfl (lv_at hl 2 rfl) ?_
      refine lv_iconst (v := z_i 1) hx hb dX8_isWhole_25 rfl ?_
      refine lx_iadd hx hb dX8_isWhole_26 ?_
      refine lv_iload_n hx hb dX8_isWhole_27 rfl (lv_at hl 3 rfl) ?_
      obtain ⟨hr6, hv⟩ := hv
      obtain ⟨hp7, hv⟩ := hv
      refine va_calli (va_runV (As := [.int (z_i gi), .int (z_i (i + 1)), .int (z_i j)]) (rest := []) ⟨hx, hb, hml, hown, hts⟩ (mt_X8_has l D cA y y_space y_offset y_length y_units ya_isThere y_isThere y_levels y_level y_lines y_lineLevel y_lineUnits y_lineFrom y_lineMany y_isClosed y_insides y_parent y_isHigh y_inBits y_sides y_side y_sideA y_sideB y_lineSpace y_wasThere y_leads y_isLed y_isOn y_goesTo y_stream y_filled y_isDone y_isReached y_newUnits y_isNew gi (i + 1) j h_y_levels h_y_lines h_y_sides h_y_lineSpace h_gi hr6 h_j hp7) (cwV 3 hts gX8_isWhole_X8_has rfl rfl rfl (by decide +kernel) ⟨Nat.le_of_ble_eq_true rfl, Nat.le_of_ble_eq_true rfl⟩) ⟨z_bl0, va_recv hK hP (ci := 6) (q0 := 0) rfl rfl, fun U hU hW => ⟨rfl, z_b0 hK hP hU hW⟩⟩ rfl rfl hl.1 rfl (lv_room (Nat.le_of_ble_eq_true rfl)) dX8_isWhole_28 ⟨Nat.zero_le _, Nat.zero_le _⟩) hS (fun q _ h => h.elim) (fun q h => h.elim) (fun r0 u t H locs ht hvm hw hB hz1 hk1 hS => ?_)
      obtain ⟨r8, rfl, h_r8, hw⟩ := hw
      have hP := z_P_all hP hk1
      have hv := hv r8 h_r8 hw
      refine lx_if_eq (tgt := 52) hx hb dX8_isWhole_31 (by decide) h_r8 (fun hc => ?_) (fun hc => ?_)
      · have hv := hv.1 hc
        refine lv_iconst (v := z_i 0) hx hb dX8_isWhole_52 rfl ?_
        exact W.zret (v := z_i 0) hx hb hr (by decide) (fun t ht hW => ⟨⟨z_i 0, (), rfl, ⟨0, rfl, (show z_in 0 from ⟨by decide, by decide⟩), hv⟩, trivial⟩, hS.F ht⟩) hS.2.2 dX8_isWhole_53
      · have hv := hv.2 hc
        refine lv_aload_n hx hb dX8_isWhole_34 rfl (lv_at hl 0 rfl) ?_
        refine lv_iload_n hx hb dX8_isWhole_35 rfl (lv_at hl 1 rfl) ?_
        refine lv_iload_n hx hb dX8_isWhole_36 rfl (lv_at hl 2 rfl) ?_
        refine lv_iconst (v := z_i 1) hx hb dX8_isWhole_37 rfl ?_
        refine lx_iadd hx hb dX8_isWhole_38 ?_
        refine lv_iload_n hx hb dX8_isWhole_39 rfl (lv_at hl 3 rfl) ?_
        refine lv_iconst (v := z_i 1) hx hb dX8_isWhole_40 rfl ?_
        refine lx_iadd hx hb dX8_isWhole_41 ?_
        obtain ⟨hp9, hv⟩ := hv
        refine va_calli (va_runV (As := [.int (z_i gi), .int (z_i (i + 1)), .int (z_i (j + 1))]) (rest := []) ⟨hx, hb, hml, hown, hts⟩ (mt_X8_has l D cA y y_space y_offset y_length y_units ya_isThere y_isThere y_levels y_level y_lines y_lineLevel y_lineUnits y_lineFrom y_lineMany y_isClosed y_insides y_parent y_isHigh y_inBits y_sides y_side y_sideA y_sideB y_lineSpace y_wasThere y_leads y_isLed y_isOn y_goesTo y_stream y_filled y_isDone y_isReached y_newUnits y_isNew gi (i + 1) (j + 1) h_y_levels h_y_lines h_y_sides h_y_lineSpace h_gi hr6 hr3 hp9) (cwV 3 hts gX8_isWhole_X8_has rfl rfl rfl (by decide +kernel) ⟨Nat.le_of_ble_eq_true rfl, Nat.le_of_ble_eq_true rfl⟩) ⟨z_bl0, va_recv hK hP (ci := 6) (q0 := 0) rfl rfl, fun U hU hW => ⟨rfl, z_b0 hK hP hU hW⟩⟩ rfl rfl hl.1 rfl (lv_room (Nat.le_of_ble_eq_true rfl)) dX8_isWhole_42 ⟨Nat.zero_le _, Nat.zero_le _⟩) hS (fun q _ h => h.elim) (fun q h => h.elim) (fun r0 u t H locs ht hvm hw hB hz1 hk1 hS => ?_)
        obtain ⟨r10, rfl, h_r10, hw⟩ := hw
        have hP := z_P_all hP hk1
        have hv := hv r10 h_r10 hw
        refine lx_if_eq (tgt := 52) hx hb dX8_isWhole_45 (by decide) h_r10 (fun hc => ?_) (fun hc => ?_)
        · have hv := hv.1 hc
          refine lv_iconst (v := z_i 0) hx hb dX8_isWhole_52 rfl ?_
          exact W.zret (v := z_i 0) hx hb hr (by decide) (fun t ht hW => ⟨⟨z_i 0, (), rfl, ⟨0, rfl, (show z_in 0 from ⟨by decide, by decide⟩), hv⟩, trivial⟩, hS.F ht⟩) hS.2.2 dX8_isWhole_53
        · have hv := hv.2 hc
          refine lv_iconst (v := z_i 1) hx hb dX8_isWhole_48 rfl ?_
          refine lv_goto (tgt := 53) hx hb dX8_isWhole_49 (by decide) ?_
          exact W.zret (v := z_i 1) hx hb hr (by decide) (fun t ht hW => ⟨⟨z_i 1, (), rfl, ⟨1, rfl, (show z_in 1 from ⟨by decide, by decide⟩), hv⟩, trivial⟩, hS.F ht⟩) hS.2.2 dX8_isWhole_53
set_option maxHeartbeats 4000000 in
set_option maxRecDepth 100000 in
theorem mt_X8_isWhole (l : Launch) (D : va_G) (cA : Nat → ClassId) (y : Nat) (y_space : Nat) (y_offset : Nat) (y_length : Nat) (y_units : Nat) (ya_isThere : Nat) (y_isThere : Nat → Int32) (y_levels : Int) (y_level : Nat) (y_lines : Int) (y_lineLevel : Nat) (y_lineUnits : Nat) (y_lineFrom : Nat) (y_lineMany : Nat) (y_isClosed : Nat) (y_insides : Nat) (y_parent : Nat) (y_isHigh : Nat) (y_inBits : Nat) (y_sides : Int) (y_side : Nat) (y_sideA : Nat) (y_sideB : Nat) (y_lineSpace : Int) (y_wasThere : Nat) (y_leads : Nat) (y_isLed : Nat) (y_isOn : Nat) (y_goesTo : Nat) (y_stream : Nat) (y_filled : Nat) (y_isDone : Nat) (y_isReached : Nat) (y_newUnits : Nat) (y_isNew : Nat) (gi : Int) (i : Int) (j : Int) (h_y_levels : z_in y_levels) (h_y_lines : z_in y_lines) (h_y_sides : z_in y_sides) (h_y_lineSpace : z_in y_lineSpace) (h_gi : z_in gi) (h_i : z_in i) (h_j : z_in j) (hp1 : 0 ≤ gi ∧ gi < 4) (hp2 : 0 ≤ i ∧ i < 32) (hp3 : 0 ≤ j ∧ j < 40) : Met l yX8_isWhole wsX8_isWhole ({ frames := 2, cells := 0, slots := 0, locals := 45 } : Room) (va_Pc [.ref y, .int (z_i gi), .int (z_i i), .int (z_i j)] (z_B0 D cA [(y, .inr (6, [.ref y_space, .ref y_offset, .ref y_length, .ref y_units, .ref ya_isThere, .int (z_i y_levels), .ref y_level, .int (z_i y_lines), .ref y_lineLevel, .ref y_lineUnits, .ref y_lineFrom, .ref y_lineMany, .ref y_isClosed, .ref y_insides, .ref y_parent, .ref y_isHigh, .ref y_inBits, .int (z_i y_sides), .ref y_side, .ref y_sideA, .ref y_sideB, .int (z_i y_lineSpace), .ref y_wasThere, .ref y_leads, .ref y_isLed, .ref y_isOn, .ref y_goesTo, .ref y_stream, .ref y_filled, .ref y_isDone, .ref y_isReached, .ref y_newUnits, .ref y_isNew])), (ya_isThere, .inl (cA 3, 5120, .inl y_isThere))])) (va_Qi (z_ri (fun (r : Int) => r = z_b (m_wh (q_th y_isThere gi) (40 * i + j)))) (fun _ _ => True) (fun _ => False)) 0 0 (fun _ => False) := by
  refine wk_X8_isWhole l D cA y y_space y_offset y_length y_units ya_isThere y_isThere y_levels y_level y_lines y_lineLevel y_lineUnits y_lineFrom y_lineMany y_isClosed y_insides y_parent y_isHigh y_inBits y_sides y_side y_sideA y_sideB y_lineSpace y_wasThere y_leads y_isLed y_isOn y_goesTo y_stream y_filled y_isDone y_isReached y_newUnits y_isNew gi i j h_y_levels h_y_lines h_y_sides h_y_lineSpace h_gi h_i h_j (fun (r : Int) => r = z_b (m_wh (q_th y_isThere gi) (40 * i + j))) ?_
  unfold vc_X8_isWhole
  have d1 : (40 * i + j) / 40 = i := by omega
  have d2 : (40 * i + j) % 40 = j := by omega
  have e3 : m_nb (q_th y_isThere gi) (40 * i + j) 3 = m_no (q_th y_isThere gi) i (j + 1) := by unfold m_nb; rw [d1, d2]; show m_no _ (i + 0) (j + 1) = _; rw [Int.add_zero]
  have e4 : m_nb (q_th y_isThere gi) (40 * i + j) 4 = m_no (q_th y_isThere gi) (i + 1) (j + 1) := by unfold m_nb; rw [d1, d2]; rfl
  have e5 : m_nb (q_th y_isThere gi) (40 * i + j) 5 = m_no (q_th y_isThere gi) (i + 1) j := by unfold m_nb; rw [d1, d2]; show m_no _ (i + 1) (j + 0) = _; rw [Int.add_zero]
  have e0 : q_th y_isThere gi (40 * i + j) = decide (m_no (q_th y_isThere gi) i j ≠ -1) := by
    cases hq : q_th y_isThere gi (40 * i + j)
    · have : m_no (q_th y_isThere gi) i j = -1 := if_neg (fun h => by rw [hq] at h; exact absurd h.2.2.2.2 (by decide))
      rw [this]; rfl
    · have : m_no (q_th y_isThere gi) i j = 40 * i + j := if_pos ⟨hp2.1, hp2.2, hp3.1, hp3.2, hq⟩
      rw [this, decide_eq_true (by omega)]
  unfold m_wh
  rw [e0, e3, e4, e5]
  generalize m_no (q_th y_isThere gi) i j = a1
  generalize m_no (q_th y_isThere gi) i (j + 1) = a2
  generalize m_no (q_th y_isThere gi) (i + 1) j = a3
  generalize m_no (q_th y_isThere gi) (i + 1) (j + 1) = a4
  refine ⟨hp1, ?_⟩
  rintro r2 _ rfl
  refine ⟨fun q => by rw [zb_f q]; rfl, fun q => ⟨⟨by omega, by omega⟩, hp1, ?_⟩⟩
  rw [zb_t q]
  rintro r5 _ rfl
  refine ⟨fun q => by rw [zb_f q]; rfl, fun q => ⟨⟨by omega, by omega⟩, hp1, ?_⟩⟩
  rw [zb_t q]
  rintro r8 _ rfl
  refine ⟨fun q => by rw [zb_f q, Bool.and_false]; rfl, fun q => ⟨hp1, ?_⟩⟩
  rw [zb_t q]
  rintro r10 _ rfl
  refine ⟨fun q => by rw [zb_f q]; rfl, fun q => by rw [zb_t q]; rfl⟩
def vc_X8_spacing (y_space : Nat → Int32) (gi : Int) (mm : Int) (Q : Int → (Nat → Int32) → Prop) : Prop :=
(∀ (r1 : Int), z_in r1 → (r1 = z_b (decide (0 ≤ gi ∧ gi ≤ 3))) → ((r1 = 0 → Q 0 y_space) ∧
(r1 ≠ 0 → (∀ (r2 : Int), z_in r2 → (r2 = z_b (decide ((1 : Int) ≤ mm ∧ mm ≤ (100000 : Int)))) → ((r2 ≠ 0 → (0 ≤ gi ∧ gi < 4) ∧ (∀ f4 : Nat → Int32, f4 = z_s y_space gi mm → Q 1 f4)) ∧
(r2 = 0 → Q 0 y_space))))))
set_option maxHeartbeats 4000000 in
set_option maxRecDepth 100000 in
theorem wk_X8_spacing (l : Launch) (D : va_G) (cA : Nat → ClassId) (y : Nat) (ya_space : Nat) (y_space : Nat → Int32) (y_offset : Nat) (y_length : Nat) (y_units : Nat) (y_isThere : Nat) (y_levels : Int) (y_level : Nat) (y_lines : Int) (y_lineLevel : Nat) (y_lineUnits : Nat) (y_lineFrom : Nat) (y_lineMany : Nat) (y_isClosed : Nat) (y_insides : Nat) (y_parent : Nat) (y_isHigh : Nat) (y_inBits : Nat) (y_sides : Int) (y_side : Nat) (y_sideA : Nat) (y_sideB : Nat) (y_lineSpace : Int) (y_wasThere : Nat) (y_leads : Nat) (y_isLed : Nat) (y_isOn : Nat) (y_goesTo : Nat) (y_stream : Nat) (y_filled : Nat) (y_isDone : Nat) (y_isReached : Nat) (y_newUnits : Nat) (y_isNew : Nat) (gi : Int) (mm : Int) (h_y_levels : z_in y_levels) (h_y_lines : z_in y_lines) (h_y_sides : z_in y_sides) (h_y_lineSpace : z_in y_lineSpace) (h_gi : z_in gi) (h_mm : z_in mm) (Q : Int → (Nat → Int32) → Prop) (hv : vc_X8_spacing y_space gi mm Q) : Met l yX8_spacing wsX8_spacing ({ frames := 2, cells := 0, slots := 0, locals := 42 } : Room) (va_Pc [.ref y, .int (z_i gi), .int (z_i mm)] (z_M0 D cA [(y, .inr (6, [.ref ya_space, .ref y_offset, .ref y_length, .ref y_units, .ref y_isThere, .int (z_i y_levels), .ref y_level, .int (z_i y_lines), .ref y_lineLevel, .ref y_lineUnits, .ref y_lineFrom, .ref y_lineMany, .ref y_isClosed, .ref y_insides, .ref y_parent, .ref y_isHigh, .ref y_inBits, .int (z_i y_sides), .ref y_side, .ref y_sideA, .ref y_sideB, .int (z_i y_lineSpace), .ref y_wasThere, .ref y_leads, .ref y_isLed, .ref y_isOn, .ref y_goesTo, .ref y_stream, .ref y_filled, .ref y_isDone, .ref y_isReached, .ref y_newUnits, .ref y_isNew])), (ya_space, .inl (cA 1, 4, .inl y_space))])) (va_Qi (z_mi (fun v (u : (Nat → Int32)) => Q v u)) (fun (u : (Nat → Int32)) t => va_P D vwCl [(y, .inr (6, [.ref ya_space, .ref y_offset, .ref y_length, .ref y_units, .ref y_isThere, .int (z_i y_levels), .ref y_level, .int (z_i y_lines), .ref y_lineLevel, .ref y_lineUnits, .ref y_lineFrom, .ref y_lineMany, .ref y_isClosed, .ref y_insides, .ref y_parent, .ref y_isHigh, .ref y_inBits, .int (z_i y_sides), .ref y_side, .ref y_sideA, .ref y_sideB, .int (z_i y_lineSpace), .ref y_wasThere, .ref y_leads, .ref y_isLed, .ref y_isOn, .ref y_goesTo, .ref y_stream, .ref y_filled, .ref y_isDone, .ref y_isReached, .ref y_newUnits, .ref y_isNew])), (ya_space, .inl (cA 1, 4, .inl u))] t.heap) (z_A [(y, .inr (6, [.ref ya_space, .ref y_offset, .ref y_length, .ref y_units, .ref y_isThere, .int (z_i y_levels), .ref y_level, .int (z_i y_lines), .ref y_lineLevel, .ref y_lineUnits, .ref y_lineFrom, .ref y_lineMany, .ref y_isClosed, .ref y_insides, .ref y_parent, .ref y_isHigh, .ref y_inBits, .int (z_i y_sides), .ref y_side, .ref y_sideA, .ref y_sideB, .int (z_i y_lineSpace), .ref y_wasThere, .ref y_leads, .ref y_isLed, .ref y_isOn, .ref y_goesTo, .ref y_stream, .ref y_filled, .ref y_isDone, .ref y_isReached, .ref y_newUnits, .ref y_isNew])), (ya_space, .inl (cA 1, 4, .inl y_space))])) 0 0 (z_A [(y, .inr (6, [.ref ya_space, .ref y_offset, .ref y_length, .ref y_units, .ref y_isThere, .int (z_i y_levels), .ref y_level, .int (z_i y_lines), .ref y_lineLevel, .ref y_lineUnits, .ref y_lineFrom, .ref y_lineMany, .ref y_isClosed, .ref y_insides, .ref y_parent, .ref y_isHigh, .ref y_inBits, .int (z_i y_sides), .ref y_side, .ref y_sideA, .ref y_sideB, .int (z_i y_lineSpace), .ref y_wasThere, .ref y_leads, .ref y_isLed, .ref y_isOn, .ref y_goesTo, .ref y_stream, .ref y_filled, .ref y_isDone, .ref y_isReached, .ref y_newUnits, .ref y_isNew])), (ya_space, .inl (cA 1, 4, .inl y_space))]) := by
  unfold vc_X8_spacing at hv
  refine Met.ofW (cc := cX8_spacing) (maxL := 3) (ret := (some .boolean)) (by decide +kernel) rfl ?_
  intro p e s m args below meth c s₁ B hml hv0
  obtain ⟨rfl, hK, hP, hD0⟩ := hv0
  have hx := B.exec
  have hb := B.bytes
  have hr := B.returns
  have hts := atoms_spec (ws := wsX8_spacing) B.pre
  have hown : s.vm.findClass RX8 = some m.cls := findClass_of_methodNamed B.named
  have hlocks := B.notSynchronized
  have hD := z_D_self hD0
  generalize hAe : z_A [(y, .inr (6, [.ref ya_space, .ref y_offset, .ref y_length, .ref y_units, .ref y_isThere, .int (z_i y_levels), .ref y_level, .int (z_i y_lines), .ref y_lineLevel, .ref y_lineUnits, .ref y_lineFrom, .ref y_lineMany, .ref y_isClosed, .ref y_insides, .ref y_parent, .ref y_isHigh, .ref y_inBits, .int (z_i y_sides), .ref y_side, .ref y_sideA, .ref y_sideB, .int (z_i y_lineSpace), .ref y_wasThere, .ref y_leads, .ref y_isLed, .ref y_isOn, .ref y_goesTo, .ref y_stream, .ref y_filled, .ref y_isDone, .ref y_isReached, .ref y_newUnits, .ref y_isNew])), (ya_space, .inl (cA 1, 4, .inl y_space))] = A at *
  have hS : va_S A s.heap s.heap [] := va_S.rf
  have hl := lv_entry ([.ref y, .int (z_i gi), .int (z_i mm)]) (n := 3) (Nat.le_of_ble_eq_true rfl)
  rw [lg_entry_eq]
  generalize (lg_sl ([.ref y, .int (z_i gi), .int (z_i mm)]) ++ List.replicate (3 - (lg_sl ([.ref y, .int (z_i gi), .int (z_i mm)])).length) Slot.unset).toArray = ls at hl ⊢
  have hl : lv_has ls 3 [(0, .ref y), (1, .int (z_i gi)), (2, .int (z_i mm))] := hl
  refine lv_iload_n hx hb dX8_spacing_0 rfl (lv_at hl 1 rfl) ?_
  refine va_calli (va_runS (As := [.int (z_i gi)]) (rest := []) ⟨hx, hb, hml, hown, hts⟩ (mt_X8_isGrid l D cA gi h_gi) (va_cwS 1 hts gX8_spacing_X8_isGrid rfl rfl rfl (by decide +kernel) ⟨Nat.le_of_ble_eq_true rfl, Nat.le_of_ble_eq_true rfl⟩) ⟨z_bl0, fun U hU hW => ⟨rfl, z_b0 hK (hP.sub (ws' := []) [] rfl) hU hW⟩⟩ rfl rfl hl.1 rfl (lv_room (Nat.le_of_ble_eq_true rfl)) dX8_spacing_1 ⟨Nat.zero_le _, Nat.zero_le _⟩) hS (fun q _ h => h.elim) (fun q h => h.elim) (fun r0 u t H locs ht hvm hw hB hz1 hk1 hS => ?_)
  obtain ⟨r1, rfl, h_r1, hw⟩ := hw
  have hP := z_P_all hP hk1
  have hv := hv r1 h_r1 hw
  refine lx_if_eq (tgt := 17) hx hb dX8_spacing_4 (by decide) h_r1 (fun hc => ?_) (fun hc => ?_)
  · have hv := hv.1 hc
    refine lv_iconst (v := z_i 0) hx hb dX8_spacing_17 rfl ?_
    exact W.zret (v := z_i 0) hx hb hr (by decide) (fun t ht hW => ⟨⟨z_i 0, (y_space), rfl, ⟨0, rfl, (show z_in 0 from ⟨by decide, by decide⟩), hv⟩, z_pt hP ht⟩, hS.F ht⟩) hS.2.2 dX8_spacing_18
  · have hv := hv.2 hc
    refine lv_iload_n hx hb dX8_spacing_7 rfl (lv_at hl 2 rfl) ?_
    refine lv_iconst (v := z_i 1) hx hb dX8_spacing_8 rfl ?_
    refine lx_ldc (a := 100000) hx hb hown (hts (.constant RX8 107 (100000)) (by decide +kernel)) (by decide) dX8_spacing_9 ?_
    refine va_calli (va_runS (As := [.int (z_i mm), .int (z_i 1), .int (z_i 100000)]) (rest := []) ⟨hx, hb, hml, hown, hts⟩ (mt_X8_in l D cA mm 1 100000 h_mm (show z_in 1 from ⟨by decide, by decide⟩) (show z_in 100000 from ⟨by decide, by decide⟩)) (va_cwS 3 hts gX8_spacing_X8_in rfl rfl rfl (by decide +kernel) ⟨Nat.le_of_ble_eq_true rfl, Nat.le_of_ble_eq_true rfl⟩) ⟨z_bl0, fun U hU hW => ⟨rfl, z_b0 hK (hP.sub (ws' := []) [] rfl) hU hW⟩⟩ rfl rfl hl.1 rfl (lv_room (Nat.le_of_ble_eq_true rfl)) dX8_spacing_11 ⟨Nat.zero_le _, Nat.zero_le _⟩) hS (fun q _ h => h.elim) (fun q h => h.elim) (fun r0 u t H locs ht hvm hw hB hz1 hk1 hS => ?_)
    obtain ⟨r2, rfl, h_r2, hw⟩ := hw
    have hP := z_P_all hP hk1
    have hv := hv r2 h_r2 hw
    refine lx_if_ne (tgt := 19) hx hb dX8_spacing_14 (by decide) h_r2 (fun hc => ?_) (fun hc => ?_)
    · have hv := hv.1 hc
      refine lv_aload_n hx hb dX8_spacing_19 rfl (lv_at hl 0 rfl) ?_
      refine va_get (D := D) (ci := 6) (v := .ref ya_space) (C := RX8) (T := TX8) (N := 33) hx hb hts (fun w h => List.mem_cons_of_mem _ (List.mem_append_right _ h)) hown hK hP 0 rfl rfl 0 (by decide) (hts (.fieldLink RX8 7 "ContourSheetsModel" "space" "[I") (by decide +kernel)) (fun _ h9 => h9) rfl dX8_spacing_20 ?_
      refine lv_iload_n hx hb dX8_spacing_23 rfl (lv_at hl 1 rfl) ?_
      refine lv_iload_n hx hb dX8_spacing_24 rfl (lv_at hl 2 rfl) ?_
      obtain ⟨hi3, hv⟩ := hv
      refine lx_iast hx hb hK hP hD hS 1 1 rfl rfl (by decide) hi3.1 hi3.2 dX8_spacing_25 (fun H locs hP hD hS => ?_)
      obtain ⟨f4, hy5⟩ : ∃ y : Nat → Int32, y = z_s y_space gi mm := ⟨_, rfl⟩
      have hv := hv f4 hy5
      have hP : va_P D vwCl [(y, .inr (6, [.ref ya_space, .ref y_offset, .ref y_length, .ref y_units, .ref y_isThere, .int (z_i y_levels), .ref y_level, .int (z_i y_lines), .ref y_lineLevel, .ref y_lineUnits, .ref y_lineFrom, .ref y_lineMany, .ref y_isClosed, .ref y_insides, .ref y_parent, .ref y_isHigh, .ref y_inBits, .int (z_i y_sides), .ref y_side, .ref y_sideA, .ref y_sideB, .int (z_i y_lineSpace), .ref y_wasThere, .ref y_leads, .ref y_isLed, .ref y_isOn, .ref y_goesTo, .ref y_stream, .ref y_filled, .ref y_isDone, .ref y_isReached, .ref y_newUnits, .ref y_isNew])), (ya_space, .inl (cA 1, 4, .inl f4))] H := by rw [hy5]; exact hP
      have hD : va_D A [(y, .inr (6, [.ref ya_space, .ref y_offset, .ref y_length, .ref y_units, .ref y_isThere, .int (z_i y_levels), .ref y_level, .int (z_i y_lines), .ref y_lineLevel, .ref y_lineUnits, .ref y_lineFrom, .ref y_lineMany, .ref y_isClosed, .ref y_insides, .ref y_parent, .ref y_isHigh, .ref y_inBits, .int (z_i y_sides), .ref y_side, .ref y_sideA, .ref y_sideB, .int (z_i y_lineSpace), .ref y_wasThere, .ref y_leads, .ref y_isLed, .ref y_isOn, .ref y_goesTo, .ref y_stream, .ref y_filled, .ref y_isDone, .ref y_isReached, .ref y_newUnits, .ref y_isNew])), (ya_space, .inl (cA 1, 4, .inl f4))] := by rw [hy5]; exact hD
      refine lv_iconst (v := z_i 1) hx hb dX8_spacing_26 rfl ?_
      exact W.zret (v := z_i 1) hx hb hr (by decide) (fun t ht hW => ⟨⟨z_i 1, (f4), rfl, ⟨1, rfl, (show z_in 1 from ⟨by decide, by decide⟩), hv⟩, z_pt hP ht⟩, hS.F ht⟩) hS.2.2 dX8_spacing_27
    · have hv := hv.2 hc
      refine lv_iconst (v := z_i 0) hx hb dX8_spacing_17 rfl ?_
      exact W.zret (v := z_i 0) hx hb hr (by decide) (fun t ht hW => ⟨⟨z_i 0, (y_space), rfl, ⟨0, rfl, (show z_in 0 from ⟨by decide, by decide⟩), hv⟩, z_pt hP ht⟩, hS.F ht⟩) hS.2.2 dX8_spacing_18
set_option maxHeartbeats 4000000 in
set_option maxRecDepth 100000 in
theorem mt_X8_spacing (l : Launch) (D : va_G) (cA : Nat → ClassId) (y : Nat) (ya_space : Nat) (y_space : Nat → Int32) (y_offset : Nat) (y_length : Nat) (y_units : Nat) (y_isThere : Nat) (y_levels : Int) (y_level : Nat) (y_lines : Int) (y_lineLevel : Nat) (y_lineUnits : Nat) (y_lineFrom : Nat) (y_lineMany : Nat) (y_isClosed : Nat) (y_insides : Nat) (y_parent : Nat) (y_isHigh : Nat) (y_inBits : Nat) (y_sides : Int) (y_side : Nat) (y_sideA : Nat) (y_sideB : Nat) (y_lineSpace : Int) (y_wasThere : Nat) (y_leads : Nat) (y_isLed : Nat) (y_isOn : Nat) (y_goesTo : Nat) (y_stream : Nat) (y_filled : Nat) (y_isDone : Nat) (y_isReached : Nat) (y_newUnits : Nat) (y_isNew : Nat) (gi : Int) (mm : Int) (h_y_levels : z_in y_levels) (h_y_lines : z_in y_lines) (h_y_sides : z_in y_sides) (h_y_lineSpace : z_in y_lineSpace) (h_gi : z_in gi) (h_mm : z_in mm)  : Met l yX8_spacing wsX8_spacing ({ frames := 2, cells := 0, slots := 0, locals := 42 } : Room) (va_Pc [.ref y, .int (z_i gi), .int (z_i mm)] (z_M0 D cA [(y, .inr (6, [.ref ya_space, .ref y_offset, .ref y_length, .ref y_units, .ref y_isThere, .int (z_i y_levels), .ref y_level, .int (z_i y_lines), .ref y_lineLevel, .ref y_lineUnits, .ref y_lineFrom, .ref y_lineMany, .ref y_isClosed, .ref y_insides, .ref y_parent, .ref y_isHigh, .ref y_inBits, .int (z_i y_sides), .ref y_side, .ref y_sideA, .ref y_sideB, .int (z_i y_lineSpace), .ref y_wasThere, .ref y_leads, .ref y_isLed, .ref y_isOn, .ref y_goesTo, .ref y_stream, .ref y_filled, .ref y_isDone, .ref y_isReached, .ref y_newUnits, .ref y_isNew])), (ya_space, .inl (cA 1, 4, .inl y_space))])) (va_Qi (z_mi (fun v (u : (Nat → Int32)) => (fun (r : Int) (y_space' : (Nat → Int32)) => r = z_b (decide ((0 ≤ gi ∧ gi < 4) ∧ 1 ≤ mm ∧ mm ≤ 100000)) ∧ y_space' = (if (0 ≤ gi ∧ gi < 4) ∧ 1 ≤ mm ∧ mm ≤ 100000 then z_s y_space gi mm else y_space)) v u)) (fun (u : (Nat → Int32)) t => va_P D vwCl [(y, .inr (6, [.ref ya_space, .ref y_offset, .ref y_length, .ref y_units, .ref y_isThere, .int (z_i y_levels), .ref y_level, .int (z_i y_lines), .ref y_lineLevel, .ref y_lineUnits, .ref y_lineFrom, .ref y_lineMany, .ref y_isClosed, .ref y_insides, .ref y_parent, .ref y_isHigh, .ref y_inBits, .int (z_i y_sides), .ref y_side, .ref y_sideA, .ref y_sideB, .int (z_i y_lineSpace), .ref y_wasThere, .ref y_leads, .ref y_isLed, .ref y_isOn, .ref y_goesTo, .ref y_stream, .ref y_filled, .ref y_isDone, .ref y_isReached, .ref y_newUnits, .ref y_isNew])), (ya_space, .inl (cA 1, 4, .inl u))] t.heap) (z_A [(y, .inr (6, [.ref ya_space, .ref y_offset, .ref y_length, .ref y_units, .ref y_isThere, .int (z_i y_levels), .ref y_level, .int (z_i y_lines), .ref y_lineLevel, .ref y_lineUnits, .ref y_lineFrom, .ref y_lineMany, .ref y_isClosed, .ref y_insides, .ref y_parent, .ref y_isHigh, .ref y_inBits, .int (z_i y_sides), .ref y_side, .ref y_sideA, .ref y_sideB, .int (z_i y_lineSpace), .ref y_wasThere, .ref y_leads, .ref y_isLed, .ref y_isOn, .ref y_goesTo, .ref y_stream, .ref y_filled, .ref y_isDone, .ref y_isReached, .ref y_newUnits, .ref y_isNew])), (ya_space, .inl (cA 1, 4, .inl y_space))])) 0 0 (z_A [(y, .inr (6, [.ref ya_space, .ref y_offset, .ref y_length, .ref y_units, .ref y_isThere, .int (z_i y_levels), .ref y_level, .int (z_i y_lines), .ref y_lineLevel, .ref y_lineUnits, .ref y_lineFrom, .ref y_lineMany, .ref y_isClosed, .ref y_insides, .ref y_parent, .ref y_isHigh, .ref y_inBits, .int (z_i y_sides), .ref y_side, .ref y_sideA, .ref y_sideB, .int (z_i y_lineSpace), .ref y_wasThere, .ref y_leads, .ref y_isLed, .ref y_isOn, .ref y_goesTo, .ref y_stream, .ref y_filled, .ref y_isDone, .ref y_isReached, .ref y_newUnits, .ref y_isNew])), (ya_space, .inl (cA 1, 4, .inl y_space))]) := by
  refine wk_X8_spacing l D cA y ya_space y_space y_offset y_length y_units y_isThere y_levels y_level y_lines y_lineLevel y_lineUnits y_lineFrom y_lineMany y_isClosed y_insides y_parent y_isHigh y_inBits y_sides y_side y_sideA y_sideB y_lineSpace y_wasThere y_leads y_isLed y_isOn y_goesTo y_stream y_filled y_isDone y_isReached y_newUnits y_isNew gi mm h_y_levels h_y_lines h_y_sides h_y_lineSpace h_gi h_mm (fun (r : Int) (y_space' : (Nat → Int32)) => r = z_b (decide ((0 ≤ gi ∧ gi < 4) ∧ 1 ≤ mm ∧ mm ≤ 100000)) ∧ y_space' = (if (0 ≤ gi ∧ gi < 4) ∧ 1 ≤ mm ∧ mm ≤ 100000 then z_s y_space gi mm else y_space)) ?_
  unfold vc_X8_spacing
  rintro r1 _ rfl
  refine ⟨fun q => ?_, fun q => ?_⟩
  · have q := of_decide_eq_false (zb_f q)
    rw [if_neg (by omega), decide_eq_false (by omega)]; exact ⟨rfl, rfl⟩
  · have q := of_decide_eq_true (zb_t q)
    rintro r2 _ rfl
    refine ⟨fun q1 => ⟨⟨by omega, by omega⟩, ?_⟩, fun q1 => ?_⟩
    · have q1 := of_decide_eq_true (zb_t q1)
      rintro f4 rfl
      rw [if_pos (by omega), decide_eq_true (by omega)]; exact ⟨rfl, rfl⟩
    · have q1 := of_decide_eq_false (zb_f q1)
      rw [if_neg (by omega), decide_eq_false (by omega)]; exact ⟨rfl, rfl⟩
def vc_X8_missing (y_isThere : Nat → Int32) (gi : Int) (i : Int) (j : Int) (Q : Int → (Nat → Int32) → Prop) : Prop :=
(∀ (r1 : Int), z_in r1 → (r1 = z_b (decide (0 ≤ gi ∧ gi ≤ 3))) → ((r1 = 0 → Q 0 y_isThere) ∧
(r1 ≠ 0 → (0 ≤ gi ∧ gi < 4) ∧ (∀ (r3 : Int), z_in r3 → (r3 = z_b (decide (m_no (q_th y_isThere gi) i j ≠ -1))) → ((r3 ≠ 0 → (0 ≤ ((1280 * gi) + (40 * i)) + j ∧ ((1280 * gi) + (40 * i)) + j < 5120) ∧ (∀ f5 : Nat → Int32, f5 = z_s y_isThere (((1280 * gi) + (40 * i)) + j) 0 → Q 1 f5)) ∧
(r3 = 0 → Q 0 y_isThere))))))
set_option maxHeartbeats 4000000 in
set_option maxRecDepth 100000 in
theorem wk_X8_missing (l : Launch) (D : va_G) (cA : Nat → ClassId) (y : Nat) (y_space : Nat) (y_offset : Nat) (y_length : Nat) (y_units : Nat) (ya_isThere : Nat) (y_isThere : Nat → Int32) (y_levels : Int) (y_level : Nat) (y_lines : Int) (y_lineLevel : Nat) (y_lineUnits : Nat) (y_lineFrom : Nat) (y_lineMany : Nat) (y_isClosed : Nat) (y_insides : Nat) (y_parent : Nat) (y_isHigh : Nat) (y_inBits : Nat) (y_sides : Int) (y_side : Nat) (y_sideA : Nat) (y_sideB : Nat) (y_lineSpace : Int) (y_wasThere : Nat) (y_leads : Nat) (y_isLed : Nat) (y_isOn : Nat) (y_goesTo : Nat) (y_stream : Nat) (y_filled : Nat) (y_isDone : Nat) (y_isReached : Nat) (y_newUnits : Nat) (y_isNew : Nat) (gi : Int) (i : Int) (j : Int) (h_y_levels : z_in y_levels) (h_y_lines : z_in y_lines) (h_y_sides : z_in y_sides) (h_y_lineSpace : z_in y_lineSpace) (h_gi : z_in gi) (h_i : z_in i) (h_j : z_in j) (Q : Int → (Nat → Int32) → Prop) (hv : vc_X8_missing y_isThere gi i j Q) : Met l yX8_missing wsX8_missing ({ frames := 2, cells := 0, slots := 0, locals := 45 } : Room) (va_Pc [.ref y, .int (z_i gi), .int (z_i i), .int (z_i j)] (z_M0 D cA [(y, .inr (6, [.ref y_space, .ref y_offset, .ref y_length, .ref y_units, .ref ya_isThere, .int (z_i y_levels), .ref y_level, .int (z_i y_lines), .ref y_lineLevel, .ref y_lineUnits, .ref y_lineFrom, .ref y_lineMany, .ref y_isClosed, .ref y_insides, .ref y_parent, .ref y_isHigh, .ref y_inBits, .int (z_i y_sides), .ref y_side, .ref y_sideA, .ref y_sideB, .int (z_i y_lineSpace), .ref y_wasThere, .ref y_leads, .ref y_isLed, .ref y_isOn, .ref y_goesTo, .ref y_stream, .ref y_filled, .ref y_isDone, .ref y_isReached, .ref y_newUnits, .ref y_isNew])), (ya_isThere, .inl (cA 3, 5120, .inl y_isThere))])) (va_Qi (z_mi (fun v (u : (Nat → Int32)) => Q v u)) (fun (u : (Nat → Int32)) t => va_P D vwCl [(y, .inr (6, [.ref y_space, .ref y_offset, .ref y_length, .ref y_units, .ref ya_isThere, .int (z_i y_levels), .ref y_level, .int (z_i y_lines), .ref y_lineLevel, .ref y_lineUnits, .ref y_lineFrom, .ref y_lineMany, .ref y_isClosed, .ref y_insides, .ref y_parent, .ref y_isHigh, .ref y_inBits, .int (z_i y_sides), .ref y_side, .ref y_sideA, .ref y_sideB, .int (z_i y_lineSpace), .ref y_wasThere, .ref y_leads, .ref y_isLed, .ref y_isOn, .ref y_goesTo, .ref y_stream, .ref y_filled, .ref y_isDone, .ref y_isReached, .ref y_newUnits, .ref y_isNew])), (ya_isThere, .inl (cA 3, 5120, .inl u))] t.heap) (z_A [(y, .inr (6, [.ref y_space, .ref y_offset, .ref y_length, .ref y_units, .ref ya_isThere, .int (z_i y_levels), .ref y_level, .int (z_i y_lines), .ref y_lineLevel, .ref y_lineUnits, .ref y_lineFrom, .ref y_lineMany, .ref y_isClosed, .ref y_insides, .ref y_parent, .ref y_isHigh, .ref y_inBits, .int (z_i y_sides), .ref y_side, .ref y_sideA, .ref y_sideB, .int (z_i y_lineSpace), .ref y_wasThere, .ref y_leads, .ref y_isLed, .ref y_isOn, .ref y_goesTo, .ref y_stream, .ref y_filled, .ref y_isDone, .ref y_isReached, .ref y_newUnits, .ref y_isNew])), (ya_isThere, .inl (cA 3, 5120, .inl y_isThere))])) 0 0 (z_A [(y, .inr (6, [.ref y_space, .ref y_offset, .ref y_length, .ref y_units, .ref ya_isThere, .int (z_i y_levels), .ref y_level, .int (z_i y_lines), .ref y_lineLevel, .ref y_lineUnits, .ref y_lineFrom, .ref y_lineMany, .ref y_isClosed, .ref y_insides, .ref y_parent, .ref y_isHigh, .ref y_inBits, .int (z_i y_sides), .ref y_side, .ref y_sideA, .ref y_sideB, .int (z_i y_lineSpace), .ref y_wasThere, .ref y_leads, .ref y_isLed, .ref y_isOn, .ref y_goesTo, .ref y_stream, .ref y_filled, .ref y_isDone, .ref y_isReached, .ref y_newUnits, .ref y_isNew])), (ya_isThere, .inl (cA 3, 5120, .inl y_isThere))]) := by
  unfold vc_X8_missing at hv
  refine Met.ofW (cc := cX8_missing) (maxL := 4) (ret := (some .boolean)) (by decide +kernel) rfl ?_
  intro p e s m args below meth c s₁ B hml hv0
  obtain ⟨rfl, hK, hP, hD0⟩ := hv0
  have hx := B.exec
  have hb := B.bytes
  have hr := B.returns
  have hts := atoms_spec (ws := wsX8_missing) B.pre
  have hown : s.vm.findClass RX8 = some m.cls := findClass_of_methodNamed B.named
  have hlocks := B.notSynchronized
  have hD := z_D_self hD0
  generalize hAe : z_A [(y, .inr (6, [.ref y_space, .ref y_offset, .ref y_length, .ref y_units, .ref ya_isThere, .int (z_i y_levels), .ref y_level, .int (z_i y_lines), .ref y_lineLevel, .ref y_lineUnits, .ref y_lineFrom, .ref y_lineMany, .ref y_isClosed, .ref y_insides, .ref y_parent, .ref y_isHigh, .ref y_inBits, .int (z_i y_sides), .ref y_side, .ref y_sideA, .ref y_sideB, .int (z_i y_lineSpace), .ref y_wasThere, .ref y_leads, .ref y_isLed, .ref y_isOn, .ref y_goesTo, .ref y_stream, .ref y_filled, .ref y_isDone, .ref y_isReached, .ref y_newUnits, .ref y_isNew])), (ya_isThere, .inl (cA 3, 5120, .inl y_isThere))] = A at *
  have hS : va_S A s.heap s.heap [] := va_S.rf
  have hl := lv_entry ([.ref y, .int (z_i gi), .int (z_i i), .int (z_i j)]) (n := 4) (Nat.le_of_ble_eq_true rfl)
  rw [lg_entry_eq]
  generalize (lg_sl ([.ref y, .int (z_i gi), .int (z_i i), .int (z_i j)]) ++ List.replicate (4 - (lg_sl ([.ref y, .int (z_i gi), .int (z_i i), .int (z_i j)])).length) Slot.unset).toArray = ls at hl ⊢
  have hl : lv_has ls 4 [(0, .ref y), (1, .int (z_i gi)), (2, .int (z_i i)), (3, .int (z_i j))] := hl
  refine lv_iload_n hx hb dX8_missing_0 rfl (lv_at hl 1 rfl) ?_
  refine va_calli (va_runS (As := [.int (z_i gi)]) (rest := []) ⟨hx, hb, hml, hown, hts⟩ (mt_X8_isGrid l D cA gi h_gi) (va_cwS 1 hts gX8_missing_X8_isGrid rfl rfl rfl (by decide +kernel) ⟨Nat.le_of_ble_eq_true rfl, Nat.le_of_ble_eq_true rfl⟩) ⟨z_bl0, fun U hU hW => ⟨rfl, z_b0 hK (hP.sub (ws' := []) [] rfl) hU hW⟩⟩ rfl rfl hl.1 rfl (lv_room (Nat.le_of_ble_eq_true rfl)) dX8_missing_1 ⟨Nat.zero_le _, Nat.zero_le _⟩) hS (fun q _ h => h.elim) (fun q h => h.elim) (fun r0 u t H locs ht hvm hw hB hz1 hk1 hS => ?_)
  obtain ⟨r1, rfl, h_r1, hw⟩ := hw
  have hP := z_P_all hP hk1
  have hv := hv r1 h_r1 hw
  refine lx_if_eq (tgt := 17) hx hb dX8_missing_4 (by decide) h_r1 (fun hc => ?_) (fun hc => ?_)
  · have hv := hv.1 hc
    refine lv_iconst (v := z_i 0) hx hb dX8_missing_17 rfl ?_
    exact W.zret (v := z_i 0) hx hb hr (by decide) (fun t ht hW => ⟨⟨z_i 0, (y_isThere), rfl, ⟨0, rfl, (show z_in 0 from ⟨by decide, by decide⟩), hv⟩, z_pt hP ht⟩, hS.F ht⟩) hS.2.2 dX8_missing_18
  · have hv := hv.2 hc
    refine lv_aload_n hx hb dX8_missing_7 rfl (lv_at hl 0 rfl) ?_
    refine lv_iload_n hx hb dX8_missing_8 rfl (lv_at hl 1 rfl) ?_
    refine lv_iload_n hx hb dX8_missing_9 rfl (lv_at hl 2 rfl) ?_
    refine lv_iload_n hx hb dX8_missing_10 rfl (lv_at hl 3 rfl) ?_
    obtain ⟨hp2, hv⟩ := hv
    refine va_calli (va_runV (As := [.int (z_i gi), .int (z_i i), .int (z_i j)]) (rest := []) ⟨hx, hb, hml, hown, hts⟩ (mt_X8_has l D cA y y_space y_offset y_length y_units ya_isThere y_isThere y_levels y_level y_lines y_lineLevel y_lineUnits y_lineFrom y_lineMany y_isClosed y_insides y_parent y_isHigh y_inBits y_sides y_side y_sideA y_sideB y_lineSpace y_wasThere y_leads y_isLed y_isOn y_goesTo y_stream y_filled y_isDone y_isReached y_newUnits y_isNew gi i j h_y_levels h_y_lines h_y_sides h_y_lineSpace h_gi h_i h_j hp2) (cwV 3 hts gX8_missing_X8_has rfl rfl rfl (by decide +kernel) ⟨Nat.le_of_ble_eq_true rfl, Nat.le_of_ble_eq_true rfl⟩) ⟨z_bl0, va_recv hK hP (ci := 6) (q0 := 0) rfl rfl, fun U hU hW => ⟨rfl, z_b0 hK hP hU hW⟩⟩ rfl rfl hl.1 rfl (lv_room (Nat.le_of_ble_eq_true rfl)) dX8_missing_11 ⟨Nat.zero_le _, Nat.zero_le _⟩) hS (fun q _ h => h.elim) (fun q h => h.elim) (fun r0 u t H locs ht hvm hw hB hz1 hk1 hS => ?_)
    obtain ⟨r3, rfl, h_r3, hw⟩ := hw
    have hP := z_P_all hP hk1
    have hv := hv r3 h_r3 hw
    refine lx_if_ne (tgt := 19) hx hb dX8_missing_14 (by decide) h_r3 (fun hc => ?_) (fun hc => ?_)
    · have hv := hv.1 hc
      refine lv_aload_n hx hb dX8_missing_19 rfl (lv_at hl 0 rfl) ?_
      refine va_get (D := D) (ci := 6) (v := .ref ya_isThere) (C := RX8) (T := TX8) (N := 33) hx hb hts (fun w h => List.mem_cons_of_mem _ (List.mem_append_right _ h)) hown hK hP 0 rfl rfl 4 (by decide) (hts (.fieldLink RX8 22 "ContourSheetsModel" "isThere" "[Z") (by decide +kernel)) (fun _ h9 => h9) rfl dX8_missing_20 ?_
      refine lv_sipush (v := z_i 1280) hx hb dX8_missing_23 (by decide) ?_
      refine lv_iload_n hx hb dX8_missing_26 rfl (lv_at hl 1 rfl) ?_
      refine lx_imul hx hb dX8_missing_27 ?_
      refine lv_bipush (v := z_i 40) hx hb dX8_missing_28 (by decide) ?_
      refine lv_iload_n hx hb dX8_missing_30 rfl (lv_at hl 2 rfl) ?_
      refine lx_imul hx hb dX8_missing_31 ?_
      refine lx_iadd hx hb dX8_missing_32 ?_
      refine lv_iload_n hx hb dX8_missing_33 rfl (lv_at hl 3 rfl) ?_
      refine lx_iadd hx hb dX8_missing_34 ?_
      refine lv_iconst (v := z_i 0) hx hb dX8_missing_35 rfl ?_
      obtain ⟨hi4, hv⟩ := hv
      refine lx_zast hx hb hK hP hD hS 1 3 rfl rfl (by decide) hi4.1 hi4.2 (by decide) dX8_missing_36 (fun H locs hP hD hS => ?_)
      obtain ⟨f5, hy6⟩ : ∃ y : Nat → Int32, y = z_s y_isThere (((1280 * gi) + (40 * i)) + j) 0 := ⟨_, rfl⟩
      have hv := hv f5 hy6
      have hP : va_P D vwCl [(y, .inr (6, [.ref y_space, .ref y_offset, .ref y_length, .ref y_units, .ref ya_isThere, .int (z_i y_levels), .ref y_level, .int (z_i y_lines), .ref y_lineLevel, .ref y_lineUnits, .ref y_lineFrom, .ref y_lineMany, .ref y_isClosed, .ref y_insides, .ref y_parent, .ref y_isHigh, .ref y_inBits, .int (z_i y_sides), .ref y_side, .ref y_sideA, .ref y_sideB, .int (z_i y_lineSpace), .ref y_wasThere, .ref y_leads, .ref y_isLed, .ref y_isOn, .ref y_goesTo, .ref y_stream, .ref y_filled, .ref y_isDone, .ref y_isReached, .ref y_newUnits, .ref y_isNew])), (ya_isThere, .inl (cA 3, 5120, .inl f5))] H := by rw [hy6]; exact hP
      have hD : va_D A [(y, .inr (6, [.ref y_space, .ref y_offset, .ref y_length, .ref y_units, .ref ya_isThere, .int (z_i y_levels), .ref y_level, .int (z_i y_lines), .ref y_lineLevel, .ref y_lineUnits, .ref y_lineFrom, .ref y_lineMany, .ref y_isClosed, .ref y_insides, .ref y_parent, .ref y_isHigh, .ref y_inBits, .int (z_i y_sides), .ref y_side, .ref y_sideA, .ref y_sideB, .int (z_i y_lineSpace), .ref y_wasThere, .ref y_leads, .ref y_isLed, .ref y_isOn, .ref y_goesTo, .ref y_stream, .ref y_filled, .ref y_isDone, .ref y_isReached, .ref y_newUnits, .ref y_isNew])), (ya_isThere, .inl (cA 3, 5120, .inl f5))] := by rw [hy6]; exact hD
      refine lv_iconst (v := z_i 1) hx hb dX8_missing_37 rfl ?_
      exact W.zret (v := z_i 1) hx hb hr (by decide) (fun t ht hW => ⟨⟨z_i 1, (f5), rfl, ⟨1, rfl, (show z_in 1 from ⟨by decide, by decide⟩), hv⟩, z_pt hP ht⟩, hS.F ht⟩) hS.2.2 dX8_missing_38
    · have hv := hv.2 hc
      refine lv_iconst (v := z_i 0) hx hb dX8_missing_17 rfl ?_
      exact W.zret (v := z_i 0) hx hb hr (by decide) (fun t ht hW => ⟨⟨z_i 0, (y_isThere), rfl, ⟨0, rfl, (show z_in 0 from ⟨by decide, by decide⟩), hv⟩, z_pt hP ht⟩, hS.F ht⟩) hS.2.2 dX8_missing_18
set_option maxHeartbeats 4000000 in
set_option maxRecDepth 100000 in
theorem mt_X8_missing (l : Launch) (D : va_G) (cA : Nat → ClassId) (y : Nat) (y_space : Nat) (y_offset : Nat) (y_length : Nat) (y_units : Nat) (ya_isThere : Nat) (y_isThere : Nat → Int32) (y_levels : Int) (y_level : Nat) (y_lines : Int) (y_lineLevel : Nat) (y_lineUnits : Nat) (y_lineFrom : Nat) (y_lineMany : Nat) (y_isClosed : Nat) (y_insides : Nat) (y_parent : Nat) (y_isHigh : Nat) (y_inBits : Nat) (y_sides : Int) (y_side : Nat) (y_sideA : Nat) (y_sideB : Nat) (y_lineSpace : Int) (y_wasThere : Nat) (y_leads : Nat) (y_isLed : Nat) (y_isOn : Nat) (y_goesTo : Nat) (y_stream : Nat) (y_filled : Nat) (y_isDone : Nat) (y_isReached : Nat) (y_newUnits : Nat) (y_isNew : Nat) (gi : Int) (i : Int) (j : Int) (h_y_levels : z_in y_levels) (h_y_lines : z_in y_lines) (h_y_sides : z_in y_sides) (h_y_lineSpace : z_in y_lineSpace) (h_gi : z_in gi) (h_i : z_in i) (h_j : z_in j)  : Met l yX8_missing wsX8_missing ({ frames := 2, cells := 0, slots := 0, locals := 45 } : Room) (va_Pc [.ref y, .int (z_i gi), .int (z_i i), .int (z_i j)] (z_M0 D cA [(y, .inr (6, [.ref y_space, .ref y_offset, .ref y_length, .ref y_units, .ref ya_isThere, .int (z_i y_levels), .ref y_level, .int (z_i y_lines), .ref y_lineLevel, .ref y_lineUnits, .ref y_lineFrom, .ref y_lineMany, .ref y_isClosed, .ref y_insides, .ref y_parent, .ref y_isHigh, .ref y_inBits, .int (z_i y_sides), .ref y_side, .ref y_sideA, .ref y_sideB, .int (z_i y_lineSpace), .ref y_wasThere, .ref y_leads, .ref y_isLed, .ref y_isOn, .ref y_goesTo, .ref y_stream, .ref y_filled, .ref y_isDone, .ref y_isReached, .ref y_newUnits, .ref y_isNew])), (ya_isThere, .inl (cA 3, 5120, .inl y_isThere))])) (va_Qi (z_mi (fun v (u : (Nat → Int32)) => (fun (r : Int) (y_isThere' : (Nat → Int32)) => r = z_b (decide ((0 ≤ gi ∧ gi < 4) ∧ m_no (q_th y_isThere gi) i j ≠ -1)) ∧ y_isThere' = (if (0 ≤ gi ∧ gi < 4) ∧ m_no (q_th y_isThere gi) i j ≠ -1 then z_s y_isThere (1280 * gi + (40 * i + j)) 0 else y_isThere)) v u)) (fun (u : (Nat → Int32)) t => va_P D vwCl [(y, .inr (6, [.ref y_space, .ref y_offset, .ref y_length, .ref y_units, .ref ya_isThere, .int (z_i y_levels), .ref y_level, .int (z_i y_lines), .ref y_lineLevel, .ref y_lineUnits, .ref y_lineFrom, .ref y_lineMany, .ref y_isClosed, .ref y_insides, .ref y_parent, .ref y_isHigh, .ref y_inBits, .int (z_i y_sides), .ref y_side, .ref y_sideA, .ref y_sideB, .int (z_i y_lineSpace), .ref y_wasThere, .ref y_leads, .ref y_isLed, .ref y_isOn, .ref y_goesTo, .ref y_stream, .ref y_filled, .ref y_isDone, .ref y_isReached, .ref y_newUnits, .ref y_isNew])), (ya_isThere, .inl (cA 3, 5120, .inl u))] t.heap) (z_A [(y, .inr (6, [.ref y_space, .ref y_offset, .ref y_length, .ref y_units, .ref ya_isThere, .int (z_i y_levels), .ref y_level, .int (z_i y_lines), .ref y_lineLevel, .ref y_lineUnits, .ref y_lineFrom, .ref y_lineMany, .ref y_isClosed, .ref y_insides, .ref y_parent, .ref y_isHigh, .ref y_inBits, .int (z_i y_sides), .ref y_side, .ref y_sideA, .ref y_sideB, .int (z_i y_lineSpace), .ref y_wasThere, .ref y_leads, .ref y_isLed, .ref y_isOn, .ref y_goesTo, .ref y_stream, .ref y_filled, .ref y_isDone, .ref y_isReached, .ref y_newUnits, .ref y_isNew])), (ya_isThere, .inl (cA 3, 5120, .inl y_isThere))])) 0 0 (z_A [(y, .inr (6, [.ref y_space, .ref y_offset, .ref y_length, .ref y_units, .ref ya_isThere, .int (z_i y_levels), .ref y_level, .int (z_i y_lines), .ref y_lineLevel, .ref y_lineUnits, .ref y_lineFrom, .ref y_lineMany, .ref y_isClosed, .ref y_insides, .ref y_parent, .ref y_isHigh, .ref y_inBits, .int (z_i y_sides), .ref y_side, .ref y_sideA, .ref y_sideB, .int (z_i y_lineSpace), .ref y_wasThere, .ref y_leads, .ref y_isLed, .ref y_isOn, .ref y_goesTo, .ref y_stream, .ref y_filled, .ref y_isDone, .ref y_isReached, .ref y_newUnits, .ref y_isNew])), (ya_isThere, .inl (cA 3, 5120, .inl y_isThere))]) := by
  refine wk_X8_missing l D cA y y_space y_offset y_length y_units ya_isThere y_isThere y_levels y_level y_lines y_lineLevel y_lineUnits y_lineFrom y_lineMany y_isClosed y_insides y_parent y_isHigh y_inBits y_sides y_side y_sideA y_sideB y_lineSpace y_wasThere y_leads y_isLed y_isOn y_goesTo y_stream y_filled y_isDone y_isReached y_newUnits y_isNew gi i j h_y_levels h_y_lines h_y_sides h_y_lineSpace h_gi h_i h_j (fun (r : Int) (y_isThere' : (Nat → Int32)) => r = z_b (decide ((0 ≤ gi ∧ gi < 4) ∧ m_no (q_th y_isThere gi) i j ≠ -1)) ∧ y_isThere' = (if (0 ≤ gi ∧ gi < 4) ∧ m_no (q_th y_isThere gi) i j ≠ -1 then z_s y_isThere (1280 * gi + (40 * i + j)) 0 else y_isThere)) ?_
  unfold vc_X8_missing
  rintro r1 _ rfl
  refine ⟨fun q => ?_, fun q => ?_⟩
  · have q := of_decide_eq_false (zb_f q)
    rw [if_neg (fun h => q ⟨h.1.1, by omega⟩), decide_eq_false (fun h => q ⟨h.1.1, by omega⟩)]; exact ⟨rfl, rfl⟩
  · have q := of_decide_eq_true (zb_t q)
    refine ⟨⟨by omega, by omega⟩, ?_⟩
    rintro r2 _ rfl
    refine ⟨fun q1 => ?_, fun q1 => ?_⟩
    · have q1 := of_decide_eq_true (zb_t q1)
      have a1 := m_no_some q1
      refine ⟨⟨by omega, by omega⟩, ?_⟩
      rintro f4 rfl
      rw [if_pos ⟨⟨by omega, by omega⟩, q1⟩, decide_eq_true ⟨⟨by omega, by omega⟩, q1⟩, Int.add_assoc]; exact ⟨rfl, rfl⟩
    · have q1 := of_decide_eq_false (zb_f q1)
      rw [if_neg (fun h => q1 h.2), decide_eq_false (fun h => q1 h.2)]; exact ⟨rfl, rfl⟩
