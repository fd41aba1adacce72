def v_in (T : Int → Bool) (U : Int → Int) (T' : Int → Bool) (U' : Int → Int) (n : Int) : Bool := T n && T' n && decide (-8388608 ≤ U n - U' n ∧ U n - U' n ≤ 8388608)
def v_bc (T : Int → Bool) (U : Int → Int) (T' : Int → Bool) (U' : Int → Int) : Nat → Int
  | 0 => 0
  | n + 1 => v_bc T U T' U' n + (if (T n && T' n) = true ∧ v_in T U T' U' n = false then 1 else 0)
theorem v_bc_f (gu hu : Nat → Int32) (k : Nat) : f_bc gu hu k = v_bc (g_th gu) (g_at gu) (g_th hu) (g_at hu) k := by
  induction k with
  | zero => rfl
  | succ k ih =>
    have e1 : f_bc gu hu (k + 1) = f_bc gu hu k + (if f_bt gu hu k = true ∧ ¬ (-8388608 ≤ g_at gu k - g_at hu k ∧ g_at gu k - g_at hu k ≤ 8388608) then 1 else 0) := rfl
    have e2 : v_bc (g_th gu) (g_at gu) (g_th hu) (g_at hu) (k + 1) = v_bc (g_th gu) (g_at gu) (g_th hu) (g_at hu) k + (if (g_th gu k && g_th hu k) = true ∧ v_in (g_th gu) (g_at gu) (g_th hu) (g_at hu) k = false then 1 else 0) := rfl
    rw [e1, e2, ih]
    have e3 : (f_bt gu hu k = true ∧ ¬ (-8388608 ≤ g_at gu k - g_at hu k ∧ g_at gu k - g_at hu k ≤ 8388608)) ↔ ((g_th gu k && g_th hu k) = true ∧ v_in (g_th gu) (g_at gu) (g_th hu) (g_at hu) k = false) := by
      have e4 : f_bt gu hu k = (g_th gu k && g_th hu k) := rfl
      have e5 : v_in (g_th gu) (g_at gu) (g_th hu) (g_at hu) k = ((g_th gu k && g_th hu k) && decide (-8388608 ≤ g_at gu k - g_at hu k ∧ g_at gu k - g_at hu k ≤ 8388608)) := rfl
      rw [e4, e5]
      constructor
      · rintro ⟨h1, h2⟩
        exact ⟨h1, by rw [h1, decide_eq_false h2]; rfl⟩
      · rintro ⟨h1, h2⟩
        rw [h1, Bool.true_and] at h2
        exact ⟨h1, of_decide_eq_false h2⟩
    by_cases q : f_bt gu hu k = true ∧ ¬ (-8388608 ≤ g_at gu k - g_at hu k ∧ g_at gu k - g_at hu k ≤ 8388608)
    · rw [if_pos q, if_pos (e3.mp q)]
    · rw [if_neg q, if_neg (fun h => q (e3.mpr h))]
def vc_X8_difference (y_space : Nat → Int32) (y_offset : Nat → Int32) (y_length : Nat → Int32) (y_units : Nat → Int32) (y_isThere : Nat → Int32) (y_newUnits : Nat → Int32) (y_isNew : Nat → Int32) (gi : Int) (hi_ : Int) (to : Int) (Q : Int → (Nat → Int32) → (Nat → Int32) → (Nat → Int32) → (Nat → Int32) → (Nat → Int32) → (Nat → Int32) → (Nat → Int32) → Prop) : Prop :=
(∀ (r1 : Int), z_in r1 → (r1 = z_b (decide (0 ≤ gi ∧ gi ≤ 3))) → ((r1 = 0 → Q (-1) y_space y_offset y_length y_units y_isThere y_newUnits y_isNew) ∧
(r1 ≠ 0 → (∀ (r2 : Int), z_in r2 → (r2 = z_b (decide (0 ≤ hi_ ∧ hi_ ≤ 3))) → ((r2 = 0 → Q (-1) y_space y_offset y_length y_units y_isThere y_newUnits y_isNew) ∧
(r2 ≠ 0 → (∀ (r3 : Int), z_in r3 → (r3 = z_b (decide (0 ≤ to ∧ to ≤ 3))) → ((r3 ≠ 0 → (∀ L29 : Int → Int → (Nat → Int32) → (Nat → Int32) → Prop,
(∀ (x29_5 : Int) (x29_4 : Int) (y29_ya_newUnits : Nat → Int32) (y29_ya_isNew : Nat → Int32), z_in x29_5 → z_in x29_4 → ((x29_5 ≥ 1280 → (0 ≤ gi ∧ gi < 4) ∧ (0 ≤ to ∧ to < 4) ∧ (∀ n : Int, 0 ≤ n → n < 1280 → z_g y29_ya_isNew n = 0 ∨ z_g y29_ya_isNew n = 1) ∧ (∀ (c7 : Nat → Int32) (c8 : Nat → Int32) (c9 : Nat → Int32) (c10 : Nat → Int32) (c11 : Nat → Int32), (c7 = z_s y_space to (z_g y_space gi) ∧ (∀ q : Int, 0 ≤ q → z_g c8 q = if 32 * to ≤ q ∧ q < 32 * to + 32 then z_g y_offset (q - 32 * to + 32 * gi) else z_g y_offset q) ∧ (∀ q : Int, 0 ≤ q → z_g c9 q = if 32 * to ≤ q ∧ q < 32 * to + 32 then z_g y_length (q - 32 * to + 32 * gi) else z_g y_length q) ∧ (∀ q : Int, 0 ≤ q → z_g c10 q = if 1280 * to ≤ q ∧ q < 1280 * to + 1280 then z_g y29_ya_newUnits (q - 1280 * to) else z_g y_units q) ∧ (∀ q : Int, 0 ≤ q → z_g c11 q = if 1280 * to ≤ q ∧ q < 1280 * to + 1280 then z_g y29_ya_isNew (q - 1280 * to) else z_g y_isThere q)) → Q x29_4 c7 c8 c9 c10 c11 y29_ya_newUnits y29_ya_isNew)) ∧
(x29_5 < 1280 → (0 ≤ (1280 * gi) + x29_5 ∧ (1280 * gi) + x29_5 < 5120) ∧ (0 ≤ (1280 * hi_) + x29_5 ∧ (1280 * hi_) + x29_5 < 5120) ∧ z_in ((z_g y_units ((1280 * gi) + x29_5)) - (z_g y_units ((1280 * hi_) + x29_5))) ∧ (∀ v14 : Int, v14 = (z_g y_units ((1280 * gi) + x29_5)) - (z_g y_units ((1280 * hi_) + x29_5)) → ((z_g y_isThere ((1280 * gi) + x29_5) = 0 → (0 ≤ x29_5 ∧ x29_5 < 1280) ∧ (∀ f18 : Nat → Int32, f18 = z_s y29_ya_isNew x29_5 0 → ((z_g f18 x29_5 = 0 → (∀ f20 : Nat → Int32, f20 = z_s y29_ya_newUnits x29_5 0 → L29 (x29_5 + 1) (x29_4 + 0) f20 f18)) ∧
(z_g f18 x29_5 ≠ 0 → (∀ f22 : Nat → Int32, f22 = z_s y29_ya_newUnits x29_5 v14 → L29 (x29_5 + 1) (x29_4 + 0) f22 f18))))) ∧
(z_g y_isThere ((1280 * gi) + x29_5) ≠ 0 → ((z_g y_isThere ((1280 * hi_) + x29_5) = 0 → (0 ≤ x29_5 ∧ x29_5 < 1280) ∧ (∀ f25 : Nat → Int32, f25 = z_s y29_ya_isNew x29_5 0 → ((z_g f25 x29_5 = 0 → (∀ f27 : Nat → Int32, f27 = z_s y29_ya_newUnits x29_5 0 → L29 (x29_5 + 1) (x29_4 + 0) f27 f25)) ∧
(z_g f25 x29_5 ≠ 0 → (∀ f29 : Nat → Int32, f29 = z_s y29_ya_newUnits x29_5 v14 → L29 (x29_5 + 1) (x29_4 + 0) f29 f25))))) ∧
(z_g y_isThere ((1280 * hi_) + x29_5) ≠ 0 → (∀ (r31 : Int), z_in r31 → (r31 = z_b (decide ((-8388608 : Int) ≤ v14 ∧ v14 ≤ (8388608 : Int)))) → ((r31 = 0 → (0 ≤ x29_5 ∧ x29_5 < 1280) ∧ (∀ f33 : Nat → Int32, f33 = z_s y29_ya_isNew x29_5 0 → ((z_g f33 x29_5 = 0 → (∀ f35 : Nat → Int32, f35 = z_s y29_ya_newUnits x29_5 0 → ((z_g f33 x29_5 ≠ 0 → L29 (x29_5 + 1) (x29_4 + 0) f35 f33) ∧
(z_g f33 x29_5 = 0 → L29 (x29_5 + 1) (x29_4 + 1) f35 f33)))) ∧
(z_g f33 x29_5 ≠ 0 → (∀ f37 : Nat → Int32, f37 = z_s y29_ya_newUnits x29_5 v14 → ((z_g f33 x29_5 ≠ 0 → L29 (x29_5 + 1) (x29_4 + 0) f37 f33) ∧
(z_g f33 x29_5 = 0 → L29 (x29_5 + 1) (x29_4 + 1) f37 f33))))))) ∧
(r31 ≠ 0 → (0 ≤ x29_5 ∧ x29_5 < 1280) ∧ (∀ f40 : Nat → Int32, f40 = z_s y29_ya_isNew x29_5 1 → ((z_g f40 x29_5 = 0 → (∀ f42 : Nat → Int32, f42 = z_s y29_ya_newUnits x29_5 0 → ((z_g f40 x29_5 ≠ 0 → L29 (x29_5 + 1) (x29_4 + 0) f42 f40) ∧
(z_g f40 x29_5 = 0 → L29 (x29_5 + 1) (x29_4 + 1) f42 f40)))) ∧
(z_g f40 x29_5 ≠ 0 → (∀ f44 : Nat → Int32, f44 = z_s y29_ya_newUnits x29_5 v14 → ((z_g f40 x29_5 ≠ 0 → L29 (x29_5 + 1) (x29_4 + 0) f44 f40) ∧
(z_g f40 x29_5 = 0 → L29 (x29_5 + 1) (x29_4 + 1) f44 f40)))))))))))))))) → L29 x29_5 x29_4 y29_ya_newUnits y29_ya_isNew) →
L29 0 0 y_newUnits y_isNew)) ∧
(r3 = 0 → Q (-1) y_space y_offset y_length y_units y_isThere y_newUnits y_isNew)))))))))
set_option maxHeartbeats 4000000 in
set_option maxRecDepth 100000 in
theorem wk_X8_difference (l : Launch) (D : va_G) (cA : Nat → ClassId) (y : Nat) (ya_space : Nat) (y_space : Nat → Int32) (ya_offset : Nat) (y_offset : Nat → Int32) (ya_length : Nat) (y_length : Nat → Int32) (ya_units : Nat) (y_units : Nat → Int32) (ya_isThere : Nat) (y_isThere : Nat → Int32) (y_levels : Int) (y_level : Nat) (y_lines : Int) (y_lineLevel : Nat) (y_lineUnits : Nat) (y_lineFrom : Nat) (y_lineMany : Nat) (y_isClosed : Nat) (y_insides : Nat) (y_parent : Nat) (y_isHigh : Nat) (y_inBits : Nat) (y_sides : Int) (y_side : Nat) (y_sideA : Nat) (y_sideB : Nat) (y_lineSpace : Int) (y_wasThere : Nat) (y_leads : Nat) (y_isLed : Nat) (y_isOn : Nat) (y_goesTo : Nat) (y_stream : Nat) (y_filled : Nat) (y_isDone : Nat) (y_isReached : Nat) (ya_newUnits : Nat) (y_newUnits : Nat → Int32) (ya_isNew : Nat) (y_isNew : Nat → Int32) (gi : Int) (hi_ : Int) (to : Int) (h_y_levels : z_in y_levels) (h_y_lines : z_in y_lines) (h_y_sides : z_in y_sides) (h_y_lineSpace : z_in y_lineSpace) (h_gi : z_in gi) (h_hi_ : z_in hi_) (h_to : z_in to) (Q : Int → (Nat → Int32) → (Nat → Int32) → (Nat → Int32) → (Nat → Int32) → (Nat → Int32) → (Nat → Int32) → (Nat → Int32) → Prop) (hv : vc_X8_difference y_space y_offset y_length y_units y_isThere y_newUnits y_isNew gi hi_ to Q) : Met l yX8_difference wsX8_difference ({ frames := 2, cells := 0, slots := 0, locals := 42 } : Room) (va_Pc [.ref y, .int (z_i gi), .int (z_i hi_), .int (z_i to)] (z_M0 D cA [(y, .inr (6, [.ref ya_space, .ref ya_offset, .ref ya_length, .ref ya_units, .ref ya_isThere, .int (z_i y_levels), .ref y_level, .int (z_i y_lines), .ref y_lineLevel, .ref y_lineUnits, .ref y_lineFrom, .ref y_lineMany, .ref y_isClosed, .ref y_insides, .ref y_parent, .ref y_isHigh, .ref y_inBits, .int (z_i y_sides), .ref y_side, .ref y_sideA, .ref y_sideB, .int (z_i y_lineSpace), .ref y_wasThere, .ref y_leads, .ref y_isLed, .ref y_isOn, .ref y_goesTo, .ref y_stream, .ref y_filled, .ref y_isDone, .ref y_isReached, .ref ya_newUnits, .ref ya_isNew])), (ya_space, .inl (cA 1, 4, .inl y_space)), (ya_offset, .inl (cA 1, 128, .inl y_offset)), (ya_length, .inl (cA 1, 128, .inl y_length)), (ya_units, .inl (cA 1, 5120, .inl y_units)), (ya_isThere, .inl (cA 3, 5120, .inl y_isThere)), (ya_newUnits, .inl (cA 1, 1280, .inl y_newUnits)), (ya_isNew, .inl (cA 3, 1280, .inl y_isNew))])) (va_Qi (z_mi (fun v (u : (Nat → Int32) × (Nat → Int32) × (Nat → Int32) × (Nat → Int32) × (Nat → Int32) × (Nat → Int32) × (Nat → Int32)) => Q v u.1 u.2.1 u.2.2.1 u.2.2.2.1 u.2.2.2.2.1 u.2.2.2.2.2.1 u.2.2.2.2.2.2)) (fun (u : (Nat → Int32) × (Nat → Int32) × (Nat → Int32) × (Nat → Int32) × (Nat → Int32) × (Nat → Int32) × (Nat → Int32)) t => va_P D vwCl [(y, .inr (6, [.ref ya_space, .ref ya_offset, .ref ya_length, .ref ya_units, .ref ya_isThere, .int (z_i y_levels), .ref y_level, .int (z_i y_lines), .ref y_lineLevel, .ref y_lineUnits, .ref y_lineFrom, .ref y_lineMany, .ref y_isClosed, .ref y_insides, .ref y_parent, .ref y_isHigh, .ref y_inBits, .int (z_i y_sides), .ref y_side, .ref y_sideA, .ref y_sideB, .int (z_i y_lineSpace), .ref y_wasThere, .ref y_leads, .ref y_isLed, .ref y_isOn, .ref y_goesTo, .ref y_stream, .ref y_filled, .ref y_isDone, .ref y_isReached, .ref ya_newUnits, .ref ya_isNew])), (ya_space, .inl (cA 1, 4, .inl u.1)), (ya_offset, .inl (cA 1, 128, .inl u.2.1)), (ya_length, .inl (cA 1, 128, .inl u.2.2.1)), (ya_units, .inl (cA 1, 5120, .inl u.2.2.2.1)), (ya_isThere, .inl (cA 3, 5120, .inl u.2.2.2.2.1)), (ya_newUnits, .inl (cA 1, 1280, .inl u.2.2.2.2.2.1)), (ya_isNew, .inl (cA 3, 1280, .inl u.2.2.2.2.2.2))] t.heap) (z_A [(y, .inr (6, [.ref ya_space, .ref ya_offset, .ref ya_length, .ref ya_units, .ref ya_isThere, .int (z_i y_levels), .ref y_level, .int (z_i y_lines), .ref y_lineLevel, .ref y_lineUnits, .ref y_lineFrom, .ref y_lineMany, .ref y_isClosed, .ref y_insides, .ref y_parent, .ref y_isHigh, .ref y_inBits, .int (z_i y_sides), .ref y_side, .ref y_sideA, .ref y_sideB, .int (z_i y_lineSpace), .ref y_wasThere, .ref y_leads, .ref y_isLed, .ref y_isOn, .ref y_goesTo, .ref y_stream, .ref y_filled, .ref y_isDone, .ref y_isReached, .ref ya_newUnits, .ref ya_isNew])), (ya_space, .inl (cA 1, 4, .inl y_space)), (ya_offset, .inl (cA 1, 128, .inl y_offset)), (ya_length, .inl (cA 1, 128, .inl y_length)), (ya_units, .inl (cA 1, 5120, .inl y_units)), (ya_isThere, .inl (cA 3, 5120, .inl y_isThere)), (ya_newUnits, .inl (cA 1, 1280, .inl y_newUnits)), (ya_isNew, .inl (cA 3, 1280, .inl y_isNew))])) 0 0 (z_A [(y, .inr (6, [.ref ya_space, .ref ya_offset, .ref ya_length, .ref ya_units, .ref ya_isThere, .int (z_i y_levels), .ref y_level, .int (z_i y_lines), .ref y_lineLevel, .ref y_lineUnits, .ref y_lineFrom, .ref y_lineMany, .ref y_isClosed, .ref y_insides, .ref y_parent, .ref y_isHigh, .ref y_inBits, .int (z_i y_sides), .ref y_side, .ref y_sideA, .ref y_sideB, .int (z_i y_lineSpace), .ref y_wasThere, .ref y_leads, .ref y_isLed, .ref y_isOn, .ref y_goesTo, .ref y_stream, .ref y_filled, .ref y_isDone, .ref y_isReached, .ref ya_newUnits, .ref ya_isNew])), (ya_space, .inl (cA 1, 4, .inl y_space)), (ya_offset, .inl (cA 1, 128, .inl y_offset)), (ya_length, .inl (cA 1, 128, .inl y_length)), (ya_units, .inl (cA 1, 5120, .inl y_units)), (ya_isThere, .inl (cA 3, 5120, .inl y_isThere)), (ya_newUnits, .inl (cA 1, 1280, .inl y_newUnits)), (ya_isNew, .inl (cA 3, 1280, .inl y_isNew))]) := by
  unfold vc_X8_difference at hv
  refine Met.ofW (cc := cX8_difference) (maxL := 8) (ret := (some .int)) (by decide +kernel) rfl ?_
  intro p e s m args below meth c s₁ B hml hv0
  obtain ⟨rfl, hK, hP, hD0⟩ := hv0
  have hx := B.exec
  have hb := B.bytes
  have hr := B.returns
  have hts := atoms_spec (ws := wsX8_difference) B.pre
  have hown : s.vm.findClass RX8 = some m.cls := findClass_of_methodNamed B.named
  have hlocks := B.notSynchronized
  have hD := z_D_self hD0
  generalize hAe : z_A [(y, .inr (6, [.ref ya_space, .ref ya_offset, .ref ya_length, .ref ya_units, .ref ya_isThere, .int (z_i y_levels), .ref y_level, .int (z_i y_lines), .ref y_lineLevel, .ref y_lineUnits, .ref y_lineFrom, .ref y_lineMany, .ref y_isClosed, .ref y_insides, .ref y_parent, .ref y_isHigh, .ref y_inBits, .int (z_i y_sides), .ref y_side, .ref y_sideA, .ref y_sideB, .int (z_i y_lineSpace), .ref y_wasThere, .ref y_leads, .ref y_isLed, .ref y_isOn, .ref y_goesTo, .ref y_stream, .ref y_filled, .ref y_isDone, .ref y_isReached, .ref ya_newUnits, .ref ya_isNew])), (ya_space, .inl (cA 1, 4, .inl y_space)), (ya_offset, .inl (cA 1, 128, .inl y_offset)), (ya_length, .inl (cA 1, 128, .inl y_length)), (ya_units, .inl (cA 1, 5120, .inl y_units)), (ya_isThere, .inl (cA 3, 5120, .inl y_isThere)), (ya_newUnits, .inl (cA 1, 1280, .inl y_newUnits)), (ya_isNew, .inl (cA 3, 1280, .inl y_isNew))] = A at *
  have hS : va_S A s.heap s.heap [] := va_S.rf
  have hl := lv_entry ([.ref y, .int (z_i gi), .int (z_i hi_), .int (z_i to)]) (n := 8) (Nat.le_of_ble_eq_true rfl)
  rw [lg_entry_eq]
  generalize (lg_sl ([.ref y, .int (z_i gi), .int (z_i hi_), .int (z_i to)]) ++ List.replicate (8 - (lg_sl ([.ref y, .int (z_i gi), .int (z_i hi_), .int (z_i to)])).length) Slot.unset).toArray = ls at hl ⊢
  have hl : lv_has ls 8 [(0, .ref y), (1, .int (z_i gi)), (2, .int (z_i hi_)), (3, .int (z_i to))] := hl
  refine lv_iload_n hx hb dX8_difference_0 rfl (lv_at hl 1 rfl) ?_
  refine va_calli (va_runS (As := [.int (z_i gi)]) (rest := []) ⟨hx, hb, hml, hown, hts⟩ (mt_X8_isGrid l D cA gi h_gi) (va_cwS 1 hts gX8_difference_X8_isGrid rfl rfl rfl (by decide +kernel) ⟨Nat.le_of_ble_eq_true rfl, Nat.le_of_ble_eq_true rfl⟩) ⟨z_bl0, fun U hU hW => ⟨rfl, z_b0 hK (hP.sub (ws' := []) [] rfl) hU hW⟩⟩ rfl rfl hl.1 rfl (lv_room (Nat.le_of_ble_eq_true rfl)) dX8_difference_1 ⟨Nat.zero_le _, Nat.zero_le _⟩) hS (fun q _ h => h.elim) (fun q h => h.elim) (fun r0 u t H locs ht hvm hw hB hz1 hk1 hS => ?_)
  obtain ⟨r1, rfl, h_r1, hw⟩ := hw
  have hP := z_P_all hP hk1
  have hv := hv r1 h_r1 hw
  refine lx_if_eq (tgt := 21) hx hb dX8_difference_4 (by decide) h_r1 (fun hc => ?_) (fun hc => ?_)
  · have hv := hv.1 hc
    refine lv_iconst (v := z_i (-1)) hx hb dX8_difference_21 rfl ?_
    exact W.iret (v := z_i (-1)) hx hb hr (fun t ht hW => ⟨⟨z_i (-1), (y_space, y_offset, y_length, y_units, y_isThere, y_newUnits, y_isNew), rfl, ⟨-1, rfl, (show z_in (-1) from ⟨by decide, by decide⟩), hv⟩, z_pt hP ht⟩, hS.F ht⟩) hS.2.2 dX8_difference_22
  · have hv := hv.2 hc
    refine lv_iload_n hx hb dX8_difference_7 rfl (lv_at hl 2 rfl) ?_
    refine va_calli (va_runS (As := [.int (z_i hi_)]) (rest := []) ⟨hx, hb, hml, hown, hts⟩ (mt_X8_isGrid l D cA hi_ h_hi_) (va_cwS 1 hts gX8_difference_X8_isGrid rfl rfl rfl (by decide +kernel) ⟨Nat.le_of_ble_eq_true rfl, Nat.le_of_ble_eq_true rfl⟩) ⟨z_bl0, fun U hU hW => ⟨rfl, z_b0 hK (hP.sub (ws' := []) [] rfl) hU hW⟩⟩ rfl rfl hl.1 rfl (lv_room (Nat.le_of_ble_eq_true rfl)) dX8_difference_8 ⟨Nat.zero_le _, Nat.zero_le _⟩) hS (fun q _ h => h.elim) (fun q h => h.elim) (fun r0 u t H locs ht hvm hw hB hz1 hk1 hS => ?_)
    obtain ⟨r2, rfl, h_r2, hw⟩ := hw
    have hP := z_P_all hP hk1
    have hv := hv r2 h_r2 hw
    refine lx_if_eq (tgt := 21) hx hb dX8_difference_11 (by decide) h_r2 (fun hc => ?_) (fun hc => ?_)
    · have hv := hv.1 hc
      refine lv_iconst (v := z_i (-1)) hx hb dX8_difference_21 rfl ?_
      exact W.iret (v := z_i (-1)) hx hb hr (fun t ht hW => ⟨⟨z_i (-1), (y_space, y_offset, y_length, y_units, y_isThere, y_newUnits, y_isNew), rfl, ⟨-1, rfl, (show z_in (-1) from ⟨by decide, by decide⟩), hv⟩, z_pt hP ht⟩, hS.F ht⟩) hS.2.2 dX8_difference_22
    · have hv := hv.2 hc
      refine lv_iload_n hx hb dX8_difference_14 rfl (lv_at hl 3 rfl) ?_
      refine va_calli (va_runS (As := [.int (z_i to)]) (rest := []) ⟨hx, hb, hml, hown, hts⟩ (mt_X8_isGrid l D cA to h_to) (va_cwS 1 hts gX8_difference_X8_isGrid rfl rfl rfl (by decide +kernel) ⟨Nat.le_of_ble_eq_true rfl, Nat.le_of_ble_eq_true rfl⟩) ⟨z_bl0, fun U hU hW => ⟨rfl, z_b0 hK (hP.sub (ws' := []) [] rfl) hU hW⟩⟩ rfl rfl hl.1 rfl (lv_room (Nat.le_of_ble_eq_true rfl)) dX8_difference_15 ⟨Nat.zero_le _, Nat.zero_le _⟩) hS (fun q _ h => h.elim) (fun q h => h.elim) (fun r0 u t H locs ht hvm hw hB hz1 hk1 hS => ?_)
      obtain ⟨r3, rfl, h_r3, hw⟩ := hw
      have hP := z_P_all hP hk1
      have hv := hv r3 h_r3 hw
      refine lx_if_ne (tgt := 23) hx hb dX8_difference_18 (by decide) h_r3 (fun hc => ?_) (fun hc => ?_)
      · have hv := hv.1 hc
        refine lv_iconst (v := z_i 0) hx hb dX8_difference_23 rfl ?_
        refine lv_istore (lv' := [(4, .int (z_i 0)), (0, .ref y), (1, .int (z_i gi)), (2, .int (z_i hi_)), (3, .int (z_i to))]) hx hb dX8_difference_24 hl (by decide) rfl (fun ls hl => ?_)
        refine lv_iconst (v := z_i 0) hx hb dX8_difference_26 rfl ?_
        refine lv_istore (lv' := [(5, .int (z_i 0)), (4, .int (z_i 0)), (0, .ref y), (1, .int (z_i gi)), (2, .int (z_i hi_)), (3, .int (z_i to))]) hx hb dX8_difference_27 hl (by decide) rfl (fun ls hl => ?_)
        refine hv (fun (x29_5 : Int) (x29_4 : Int) (y29_ya_newUnits : Nat → Int32) (y29_ya_isNew : Nat → Int32) => ∀ (H : Heap) (locs : List Loc) (ls : Array Slot), va_P D vwCl [(y, .inr (6, [.ref ya_space, .ref ya_offset, .ref ya_length, .ref ya_units, .ref ya_isThere, .int (z_i y_levels), .ref y_level, .int (z_i y_lines), .ref y_lineLevel, .ref y_lineUnits, .ref y_lineFrom, .ref y_lineMany, .ref y_isClosed, .ref y_insides, .ref y_parent, .ref y_isHigh, .ref y_inBits, .int (z_i y_sides), .ref y_side, .ref y_sideA, .ref y_sideB, .int (z_i y_lineSpace), .ref y_wasThere, .ref y_leads, .ref y_isLed, .ref y_isOn, .ref y_goesTo, .ref y_stream, .ref y_filled, .ref y_isDone, .ref y_isReached, .ref ya_newUnits, .ref ya_isNew])), (ya_space, .inl (cA 1, 4, .inl y_space)), (ya_offset, .inl (cA 1, 128, .inl y_offset)), (ya_length, .inl (cA 1, 128, .inl y_length)), (ya_units, .inl (cA 1, 5120, .inl y_units)), (ya_isThere, .inl (cA 3, 5120, .inl y_isThere)), (ya_newUnits, .inl (cA 1, 1280, .inl y29_ya_newUnits)), (ya_isNew, .inl (cA 3, 1280, .inl y29_ya_isNew))] H → va_D A [(y, .inr (6, [.ref ya_space, .ref ya_offset, .ref ya_length, .ref ya_units, .ref ya_isThere, .int (z_i y_levels), .ref y_level, .int (z_i y_lines), .ref y_lineLevel, .ref y_lineUnits, .ref y_lineFrom, .ref y_lineMany, .ref y_isClosed, .ref y_insides, .ref y_parent, .ref y_isHigh, .ref y_inBits, .int (z_i y_sides), .ref y_side, .ref y_sideA, .ref y_sideB, .int (z_i y_lineSpace), .ref y_wasThere, .ref y_leads, .ref y_isLed, .ref y_isOn, .ref y_goesTo, .ref y_stream, .ref y_filled, .ref y_isDone, .ref y_isReached, .ref ya_newUnits, .ref ya_isNew])), (ya_space, .inl (cA 1, 4, .inl y_space)), (ya_offset, .inl (cA 1, 128, .inl y_offset)), (ya_length, .inl (cA 1, 128, .inl y_length)), (ya_units, .inl (cA 1, 5120, .inl y_units)), (ya_isThere, .inl (cA 3, 5120, .inl y_isThere)), (ya_newUnits, .inl (cA 1, 1280, .inl y29_ya_newUnits)), (ya_isNew, .inl (cA 3, 1280, .inl y29_ya_isNew))] → va_S A s.heap H locs → lv_has ls 8 [(5, .int (z_i x29_5)), (4, .int (z_i x29_4)), (0, .ref y), (1, .int (z_i gi)), (2, .int (z_i hi_)), (3, .int (z_i to))] → W p l e _ s m _ below meth c H locs 0 0 _ (F0 m 29 ls [])) ?_ _ _ ls hP hD hS (lv_sub hl [0, 1, 2, 3, 4, 5] rfl)
        intro x29_5 x29_4 y29_ya_newUnits y29_ya_isNew h_x29_5 h_x29_4 hv H locs ls hP hD hS hl
        refine lv_iload hx hb dX8_difference_29 (lv_at hl 0 rfl) ?_
        refine lv_sipush (v := z_i 1280) hx hb dX8_difference_31 (by decide) ?_
        refine lx_icmp_ge (tgt := 190) hx hb dX8_difference_34 (by decide) h_x29_5 (show z_in 1280 from ⟨by decide, by decide⟩) (fun hc => ?_) (fun hc => ?_)
        · have hv := hv.1 hc
          refine lv_aload_n hx hb dX8_difference_190 rfl (lv_at hl 2 rfl) ?_
          refine lv_iload_n hx hb dX8_difference_191 rfl (lv_at hl 3 rfl) ?_
          refine lv_iload_n hx hb dX8_difference_192 rfl (lv_at hl 5 rfl) ?_
          obtain ⟨hp4, hv⟩ := hv
          obtain ⟨hp5, hv⟩ := hv
          obtain ⟨hp6, hv⟩ := hv
          have hFc := z_fr (A := A) (wc := [(y, .inr (6, [.ref ya_space, .ref ya_offset, .ref ya_length, .ref ya_units, .ref ya_isThere, .int (z_i y_levels), .ref y_level, .int (z_i y_lines), .ref y_lineLevel, .ref y_lineUnits, .ref y_lineFrom, .ref y_lineMany, .ref y_isClosed, .ref y_insides, .ref y_parent, .ref y_isHigh, .ref y_inBits, .int (z_i y_sides), .ref y_side, .ref y_sideA, .ref y_sideB, .int (z_i y_lineSpace), .ref y_wasThere, .ref y_leads, .ref y_isLed, .ref y_isOn, .ref y_goesTo, .ref y_stream, .ref y_filled, .ref y_isDone, .ref y_isReached, .ref ya_newUnits, .ref ya_isNew])), (ya_space, .inl (cA 1, 4, .inl y_space)), (ya_offset, .inl (cA 1, 128, .inl y_offset)), (ya_length, .inl (cA 1, 128, .inl y_length)), (ya_units, .inl (cA 1, 5120, .inl y_units)), (ya_isThere, .inl (cA 3, 5120, .inl y_isThere)), (ya_newUnits, .inl (cA 1, 1280, .inl y29_ya_newUnits)), (ya_isNew, .inl (cA 3, 1280, .inl y29_ya_isNew))]) hD [0, 1, 2, 3, 4, 5, 6, 7] rfl
          refine va_callv (va_runV (As := [.int (z_i gi), .int (z_i to)]) (rest := []) ⟨hx, hb, hml, hown, hts⟩ (mt_X8_takes l D cA y ya_space y_space ya_offset y_offset ya_length y_length ya_units y_units ya_isThere y_isThere y_levels y_level y_lines y_lineLevel y_lineUnits y_lineFrom y_lineMany y_isClosed y_insides y_parent y_isHigh y_inBits y_sides y_side y_sideA y_sideB y_lineSpace y_wasThere y_leads y_isLed y_isOn y_goesTo y_stream y_filled y_isDone y_isReached ya_newUnits y29_ya_newUnits ya_isNew y29_ya_isNew gi to h_y_levels h_y_lines h_y_sides h_y_lineSpace h_gi h_to hp4 hp5 hp6) (cwV 2 hts gX8_difference_X8_takes rfl rfl rfl (by decide +kernel) ⟨Nat.le_of_ble_eq_true rfl, Nat.le_of_ble_eq_true rfl⟩) ⟨z_blm0, va_recv hK hP (ci := 6) (q0 := 0) rfl rfl, fun U hU hW => ⟨rfl, z_m0 hK hP hD hU hW⟩⟩ rfl rfl hl.1 rfl (lv_room (Nat.le_of_ble_eq_true rfl)) dX8_difference_193 ⟨Nat.zero_le _, Nat.zero_le _⟩) hS (fun q _ h => hFc q h) hFc (fun u t H locs ht hvm hw hB hz1 hk1 hS => ?_)
          obtain ⟨c7, c8, c9, c10, c11⟩ := u
          rw [ht] at hB
          have hP := hB
          have hP : va_P D vwCl [(y, .inr (6, [.ref ya_space, .ref ya_offset, .ref ya_length, .ref ya_units, .ref ya_isThere, .int (z_i y_levels), .ref y_level, .int (z_i y_lines), .ref y_lineLevel, .ref y_lineUnits, .ref y_lineFrom, .ref y_lineMany, .ref y_isClosed, .ref y_insides, .ref y_parent, .ref y_isHigh, .ref y_inBits, .int (z_i y_sides), .ref y_side, .ref y_sideA, .ref y_sideB, .int (z_i y_lineSpace), .ref y_wasThere, .ref y_leads, .ref y_isLed, .ref y_isOn, .ref y_goesTo, .ref y_stream, .ref y_filled, .ref y_isDone, .ref y_isReached, .ref ya_newUnits, .ref ya_isNew])), (ya_space, .inl (cA 1, 4, .inl c7)), (ya_offset, .inl (cA 1, 128, .inl c8)), (ya_length, .inl (cA 1, 128, .inl c9)), (ya_units, .inl (cA 1, 5120, .inl c10)), (ya_isThere, .inl (cA 3, 5120, .inl c11)), (ya_newUnits, .inl (cA 1, 1280, .inl y29_ya_newUnits)), (ya_isNew, .inl (cA 3, 1280, .inl y29_ya_isNew))] H := hP
          have hD : va_D A [(y, .inr (6, [.ref ya_space, .ref ya_offset, .ref ya_length, .ref ya_units, .ref ya_isThere, .int (z_i y_levels), .ref y_level, .int (z_i y_lines), .ref y_lineLevel, .ref y_lineUnits, .ref y_lineFrom, .ref y_lineMany, .ref y_isClosed, .ref y_insides, .ref y_parent, .ref y_isHigh, .ref y_inBits, .int (z_i y_sides), .ref y_side, .ref y_sideA, .ref y_sideB, .int (z_i y_lineSpace), .ref y_wasThere, .ref y_leads, .ref y_isLed, .ref y_isOn, .ref y_goesTo, .ref y_stream, .ref y_filled, .ref y_isDone, .ref y_isReached, .ref ya_newUnits, .ref ya_isNew])), (ya_space, .inl (cA 1, 4, .inl c7)), (ya_offset, .inl (cA 1, 128, .inl c8)), (ya_length, .inl (cA 1, 128, .inl c9)), (ya_units, .inl (cA 1, 5120, .inl c10)), (ya_isThere, .inl (cA 3, 5120, .inl c11)), (ya_newUnits, .inl (cA 1, 1280, .inl y29_ya_newUnits)), (ya_isNew, .inl (cA 3, 1280, .inl y29_ya_isNew))] := z_D_addr hD rfl
          have hv := hv c7 c8 c9 c10 c11 hw
          refine lv_iload hx hb dX8_difference_196 (lv_at hl 1 rfl) ?_
          exact W.iret (v := z_i x29_4) hx hb hr (fun t ht hW => ⟨⟨z_i x29_4, (c7, c8, c9, c10, c11, y29_ya_newUnits, y29_ya_isNew), rfl, ⟨x29_4, rfl, h_x29_4, hv⟩, z_pt hP ht⟩, hS.F ht⟩) hS.2.2 dX8_difference_198
        · have hv := hv.2 hc
          refine lv_aload_n hx hb dX8_difference_37 rfl (lv_at hl 2 rfl) ?_
          refine va_get (D := D) (ci := 6) (v := .ref ya_units) (C := RX8) (T := TX8) (N := 33) hx hb hts (fun w h => List.mem_cons_of_mem _ (List.mem_append_right _ h)) hown hK hP 0 rfl rfl 3 (by decide) (hts (.fieldLink RX8 19 "ContourSheetsModel" "units" "[I") (by decide +kernel)) (fun _ h9 => h9) rfl dX8_difference_38 ?_
          refine lv_sipush (v := z_i 1280) hx hb dX8_difference_41 (by decide) ?_
          refine lv_iload_n hx hb dX8_difference_44 rfl (lv_at hl 3 rfl) ?_
          refine lx_imul hx hb dX8_difference_45 ?_
          refine lv_iload hx hb dX8_difference_46 (lv_at hl 0 rfl) ?_
          refine lx_iadd hx hb dX8_difference_48 ?_
          obtain ⟨hi12, hv⟩ := hv
          refine lx_iald hx hb hK hP 4 1 rfl rfl (by decide) hi12.1 hi12.2 dX8_difference_49 ?_
          refine lv_aload_n hx hb dX8_difference_50 rfl (lv_at hl 2 rfl) ?_
          refine va_get (D := D) (ci := 6) (v := .ref ya_units) (C := RX8) (T := TX8) (N := 33) hx hb hts (fun w h => List.mem_cons_of_mem _ (List.mem_append_right _ h)) hown hK hP 0 rfl rfl 3 (by decide) (hts (.fieldLink RX8 19 "ContourSheetsModel" "units" "[I") (by decide +kernel)) (fun _ h9 => h9) rfl dX8_difference_51 ?_
          refine lv_sipush (v := z_i 1280) hx hb dX8_difference_54 (by decide) ?_
          refine lv_iload_n hx hb dX8_difference_57 rfl (lv_at hl 4 rfl) ?_
          refine lx_imul hx hb dX8_difference_58 ?_
          refine lv_iload hx hb dX8_difference_59 (lv_at hl 0 rfl) ?_
          refine lx_iadd hx hb dX8_difference_61 ?_
          obtain ⟨hi13, hv⟩ := hv
          refine lx_iald hx hb hK hP 4 1 rfl rfl (by decide) hi13.1 hi13.2 dX8_difference_62 ?_
          refine lx_isub hx hb dX8_difference_63 ?_
          obtain ⟨hr15, hv⟩ := hv
          refine lx_topi (fun v14 hy16 => ?_)
          have hv := hv v14 hy16
          have h_v14 : z_in v14 := by rw [hy16]; exact hr15
          refine lv_istore (lv' := [(6, .int (z_i v14)), (5, .int (z_i x29_5)), (4, .int (z_i x29_4)), (0, .ref y), (1, .int (z_i gi)), (2, .int (z_i hi_)), (3, .int (z_i to))]) hx hb dX8_difference_64 hl (by decide) rfl (fun ls hl => ?_)
          refine lv_aload_n hx hb dX8_difference_66 rfl (lv_at hl 3 rfl) ?_
          refine va_get (D := D) (ci := 6) (v := .ref ya_isThere) (C := RX8) (T := TX8) (N := 33) hx hb hts (fun w h => List.mem_cons_of_mem _ (List.mem_append_right _ h)) hown hK hP 0 rfl rfl 4 (by decide) (hts (.fieldLink RX8 22 "ContourSheetsModel" "isThere" "[Z") (by decide +kernel)) (fun _ h9 => h9) rfl dX8_difference_67 ?_
          refine lv_sipush (v := z_i 1280) hx hb dX8_difference_70 (by decide) ?_
          refine lv_iload_n hx hb dX8_difference_73 rfl (lv_at hl 4 rfl) ?_
          refine lx_imul hx hb dX8_difference_74 ?_
          refine lv_iload hx hb dX8_difference_75 (lv_at hl 1 rfl) ?_
          refine lx_iadd hx hb dX8_difference_77 ?_
          refine lx_zald hx hb hK hP 5 3 rfl rfl (by decide) hi12.1 hi12.2 dX8_difference_78 ?_
          refine lx_if_eq (tgt := 102) hx hb dX8_difference_79 (by decide) (z_in_g _ _) (fun hc => ?_) (fun hc => ?_)
          · have hv := hv.1 hc
            refine lv_iconst (v := z_i 0) hx hb dX8_difference_102 rfl ?_
            refine lv_istore (lv' := [(7, .int (z_i 0)), (6, .int (z_i v14)), (5, .int (z_i x29_5)), (4, .int (z_i x29_4)), (0, .ref y), (1, .int (z_i gi)), (2, .int (z_i hi_)), (3, .int (z_i to))]) hx hb dX8_difference_103 hl (by decide) rfl (fun ls hl => ?_)
            refine lv_aload_n hx hb dX8_difference_105 rfl (lv_at hl 4 rfl) ?_
            refine va_get (D := D) (ci := 6) (v := .ref ya_isNew) (C := RX8) (T := TX8) (N := 33) hx hb hts (fun w h => List.mem_cons_of_mem _ (List.mem_append_right _ h)) hown hK hP 0 rfl rfl 32 (by decide) (hts (.fieldLink RX8 96 "ContourSheetsModel" "isNew" "[Z") (by decide +kernel)) (fun _ h9 => h9) rfl dX8_difference_106 ?_
            refine lv_iload hx hb dX8_difference_109 (lv_at hl 2 rfl) ?_
            refine lv_iload hx hb dX8_difference_111 (lv_at hl 0 rfl) ?_
            refine lx_if_eq (tgt := 134) hx hb dX8_difference_113 (by decide) ⟨by decide, by decide⟩ (fun _ => ?_) (fun hc => absurd hc (by decide))
            refine lv_iconst (v := z_i 0) hx hb dX8_difference_134 rfl ?_
            obtain ⟨hi17, hv⟩ := hv
            refine lx_zast hx hb hK hP hD hS 7 3 rfl rfl (by decide) hi17.1 hi17.2 (by decide) dX8_difference_135 (fun H locs hP hD hS => ?_)
            obtain ⟨f18, hy19⟩ : ∃ y : Nat → Int32, y = z_s y29_ya_isNew x29_5 0 := ⟨_, rfl⟩
            have hv := hv f18 hy19
            have hP : va_P D vwCl [(y, .inr (6, [.ref ya_space, .ref ya_offset, .ref ya_length, .ref ya_units, .ref ya_isThere, .int (z_i y_levels), .ref y_level, .int (z_i y_lines), .ref y_lineLevel, .ref y_lineUnits, .ref y_lineFrom, .ref y_lineMany, .ref y_isClosed, .ref y_insides, .ref y_parent, .ref y_isHigh, .ref y_inBits, .int (z_i y_sides), .ref y_side, .ref y_sideA, .ref y_sideB, .int (z_i y_lineSpace), .ref y_wasThere, .ref y_leads, .ref y_isLed, .ref y_isOn, .ref y_goesTo, .ref y_stream, .ref y_filled, .ref y_isDone, .ref y_isReached, .ref ya_newUnits, .ref ya_isNew])), (ya_space, .inl (cA 1, 4, .inl y_space)), (ya_offset, .inl (cA 1, 128, .inl y_offset)), (ya_length, .inl (cA 1, 128, .inl y_length)), (ya_units, .inl (cA 1, 5120, .inl y_units)), (ya_isThere, .inl (cA 3, 5120, .inl y_isThere)), (ya_newUnits, .inl (cA 1, 1280, .inl y29_ya_newUnits)), (ya_isNew, .inl (cA 3, 1280, .inl f18))] H := by rw [hy19]; exact hP
            have hD : va_D A [(y, .inr (6, [.ref ya_space, .ref ya_offset, .ref ya_length, .ref ya_units, .ref ya_isThere, .int (z_i y_levels), .ref y_level, .int (z_i y_lines), .ref y_lineLevel, .ref y_lineUnits, .ref y_lineFrom, .ref y_lineMany, .ref y_isClosed, .ref y_insides, .ref y_parent, .ref y_isHigh, .ref y_inBits, .int (z_i y_sides), .ref y_side, .ref y_sideA, .ref y_sideB, .int (z_i y_lineSpace), .ref y_wasThere, .ref y_leads, .ref y_isLed, .ref y_isOn, .ref y_goesTo, .ref y_stream, .ref y_filled, .ref y_isDone, .ref y_isReached, .ref ya_newUnits, .ref ya_isNew])), (ya_space, .inl (cA 1, 4, .inl y_space)), (ya_offset, .inl (cA 1, 128, .inl y_offset)), (ya_length, .inl (cA 1, 128, .inl y_length)), (ya_units, .inl (cA 1, 5120, .inl y_units)), (ya_isThere, .inl (cA 3, 5120, .inl y_isThere)), (ya_newUnits, .inl (cA 1, 1280, .inl y29_ya_newUnits)), (ya_isNew, .inl (cA 3, 1280, .inl f18))] := by rw [hy19]; exact hD
            refine lv_aload_n hx hb dX8_difference_136 rfl (lv_at hl 4 rfl) ?_
            refine va_get (D := D) (ci := 6) (v := .ref ya_newUnits) (C := RX8) (T := TX8) (N := 33) hx hb hts (fun w h => List.mem_cons_of_mem _ (List.mem_append_right _ h)) hown hK hP 0 rfl rfl 31 (by decide) (hts (.fieldLink RX8 93 "ContourSheetsModel" "newUnits" "[I") (by decide +kernel)) (fun _ h9 => h9) rfl dX8_difference_137 ?_
            refine lv_iload hx hb dX8_difference_140 (lv_at hl 2 rfl) ?_
            refine lv_aload_n hx hb dX8_difference_142 rfl (lv_at hl 4 rfl) ?_
            refine va_get (D := D) (ci := 6) (v := .ref ya_isNew) (C := RX8) (T := TX8) (N := 33) hx hb hts (fun w h => List.mem_cons_of_mem _ (List.mem_append_right _ h)) hown hK hP 0 rfl rfl 32 (by decide) (hts (.fieldLink RX8 96 "ContourSheetsModel" "isNew" "[Z") (by decide +kernel)) (fun _ h9 => h9) rfl dX8_difference_143 ?_
            refine lv_iload hx hb dX8_difference_146 (lv_at hl 2 rfl) ?_
            refine lx_zald hx hb hK hP 7 3 rfl rfl (by decide) hi17.1 hi17.2 dX8_difference_148 ?_
            refine lx_if_eq (tgt := 157) hx hb dX8_difference_149 (by decide) (z_in_g _ _) (fun hc => ?_) (fun hc => ?_)
            · have hv := hv.1 hc
              refine lv_iconst (v := z_i 0) hx hb dX8_difference_157 rfl ?_
              refine lx_iast hx hb hK hP hD hS 6 1 rfl rfl (by decide) hi17.1 hi17.2 dX8_difference_158 (fun H locs hP hD hS => ?_)
              obtain ⟨f20, hy21⟩ : ∃ y : Nat → Int32, y = z_s y29_ya_newUnits x29_5 0 := ⟨_, rfl⟩
              have hv := hv f20 hy21
              have hP : va_P D vwCl [(y, .inr (6, [.ref ya_space, .ref ya_offset, .ref ya_length, .ref ya_units, .ref ya_isThere, .int (z_i y_levels), .ref y_level, .int (z_i y_lines), .ref y_lineLevel, .ref y_lineUnits, .ref y_lineFrom, .ref y_lineMany, .ref y_isClosed, .ref y_insides, .ref y_parent, .ref y_isHigh, .ref y_inBits, .int (z_i y_sides), .ref y_side, .ref y_sideA, .ref y_sideB, .int (z_i y_lineSpace), .ref y_wasThere, .ref y_leads, .ref y_isLed, .ref y_isOn, .ref y_goesTo, .ref y_stream, .ref y_filled, .ref y_isDone, .ref y_isReached, .ref ya_newUnits, .ref ya_isNew])), (ya_space, .inl (cA 1, 4, .inl y_space)), (ya_offset, .inl (cA 1, 128, .inl y_offset)), (ya_length, .inl (cA 1, 128, .inl y_length)), (ya_units, .inl (cA 1, 5120, .inl y_units)), (ya_isThere, .inl (cA 3, 5120, .inl y_isThere)), (ya_newUnits, .inl (cA 1, 1280, .inl f20)), (ya_isNew, .inl (cA 3, 1280, .inl f18))] H := by rw [hy21]; exact hP
              have hD : va_D A [(y, .inr (6, [.ref ya_space, .ref ya_offset, .ref ya_length, .ref ya_units, .ref ya_isThere, .int (z_i y_levels), .ref y_level, .int (z_i y_lines), .ref y_lineLevel, .ref y_lineUnits, .ref y_lineFrom, .ref y_lineMany, .ref y_isClosed, .ref y_insides, .ref y_parent, .ref y_isHigh, .ref y_inBits, .int (z_i y_sides), .ref y_side, .ref y_sideA, .ref y_sideB, .int (z_i y_lineSpace), .ref y_wasThere, .ref y_leads, .ref y_isLed, .ref y_isOn, .ref y_goesTo, .ref y_stream, .ref y_filled, .ref y_isDone, .ref y_isReached, .ref ya_newUnits, .ref ya_isNew])), (ya_space, .inl (cA 1, 4, .inl y_space)), (ya_offset, .inl (cA 1, 128, .inl y_offset)), (ya_length, .inl (cA 1, 128, .inl y_length)), (ya_units, .inl (cA 1, 5120, .inl y_units)), (ya_isThere, .inl (cA 3, 5120, .inl y_isThere)), (ya_newUnits, .inl (cA 1, 1280, .inl f20)), (ya_isNew, .inl (cA 3, 1280, .inl f18))] := by rw [hy21]; exact hD
              refine lv_iload hx hb dX8_difference_159 (lv_at hl 3 rfl) ?_
              refine lv_iload hx hb dX8_difference_161 (lv_at hl 0 rfl) ?_
              refine lx_if_eq (tgt := 180) hx hb dX8_difference_163 (by decide) ⟨by decide, by decide⟩ (fun _ => ?_) (fun hc => absurd hc (by decide))
              refine lv_iconst (v := z_i 0) hx hb dX8_difference_180 rfl ?_
              refine lx_iadd hx hb dX8_difference_181 ?_
              refine lv_istore (lv' := [(4, .int (z_i (x29_4 + 0))), (7, .int (z_i 0)), (6, .int (z_i v14)), (5, .int (z_i x29_5)), (0, .ref y), (1, .int (z_i gi)), (2, .int (z_i hi_)), (3, .int (z_i to))]) hx hb dX8_difference_182 hl (by decide) rfl (fun ls hl => ?_)
              refine lv_iinc (v := z_i (x29_5 + 1)) (lv' := [(5, .int (z_i (x29_5 + 1))), (4, .int (z_i (x29_4 + 0))), (7, .int (z_i 0)), (6, .int (z_i v14)), (0, .ref y), (1, .int (z_i gi)), (2, .int (z_i hi_)), (3, .int (z_i to))]) hx hb dX8_difference_184 hl (k := 3) rfl (z_i_add _ _) (by decide) rfl (fun ls hl => ?_)
              refine lv_goto (tgt := 29) hx hb dX8_difference_187 (by decide) ?_
              exact hv _ _ ls hP hD hS (lv_sub hl [0, 1, 4, 5, 6, 7] rfl)
            · have hv := hv.2 hc
              refine lv_iload hx hb dX8_difference_152 (lv_at hl 1 rfl) ?_
              refine lv_goto (tgt := 158) hx hb dX8_difference_154 (by decide) ?_
              refine lx_iast hx hb hK hP hD hS 6 1 rfl rfl (by decide) hi17.1 hi17.2 dX8_difference_158 (fun H locs hP hD hS => ?_)
              obtain ⟨f22, hy23⟩ : ∃ y : Nat → Int32, y = z_s y29_ya_newUnits x29_5 v14 := ⟨_, rfl⟩
              have hv := hv f22 hy23
              have hP : va_P D vwCl [(y, .inr (6, [.ref ya_space, .ref ya_offset, .ref ya_length, .ref ya_units, .ref ya_isThere, .int (z_i y_levels), .ref y_level, .int (z_i y_lines), .ref y_lineLevel, .ref y_lineUnits, .ref y_lineFrom, .ref y_lineMany, .ref y_isClosed, .ref y_insides, .ref y_parent, .ref y_isHigh, .ref y_inBits, .int (z_i y_sides), .ref y_side, .ref y_sideA, .ref y_sideB, .int (z_i y_lineSpace), .ref y_wasThere, .ref y_leads, .ref y_isLed, .ref y_isOn, .ref y_goesTo, .ref y_stream, .ref y_filled, .ref y_isDone, .ref y_isReached, .ref ya_newUnits, .ref ya_isNew])), (ya_space, .inl (cA 1, 4, .inl y_space)), (ya_offset, .inl (cA 1, 128, .inl y_offset)), (ya_length, .inl (cA 1, 128, .inl y_length)), (ya_units, .inl (cA 1, 5120, .inl y_units)), (ya_isThere, .inl (cA 3, 5120, .inl y_isThere)), (ya_newUnits, .inl (cA 1, 1280, .inl f22)), (ya_isNew, .inl (cA 3, 1280, .inl f18))] H := by rw [hy23]; exact hP
              have hD : va_D A [(y, .inr (6, [.ref ya_space, .ref ya_offset, .ref ya_length, .ref ya_units, .ref ya_isThere, .int (z_i y_levels), .ref y_level, .int (z_i y_lines), .ref y_lineLevel, .ref y_lineUnits, .ref y_lineFrom, .ref y_lineMany, .ref y_isClosed, .ref y_insides, .ref y_parent, .ref y_isHigh, .ref y_inBits, .int (z_i y_sides), .ref y_side, .ref y_sideA, .ref y_sideB, .int (z_i y_lineSpace), .ref y_wasThere, .ref y_leads, .ref y_isLed, .ref y_isOn, .ref y_goesTo, .ref y_stream, .ref y_filled, .ref y_isDone, .ref y_isReached, .ref ya_newUnits, .ref ya_isNew])), (ya_space, .inl (cA 1, 4, .inl y_space)), (ya_offset, .inl (cA 1, 128, .inl y_offset)), (ya_length, .inl (cA 1, 128, .inl y_length)), (ya_units, .inl (cA 1, 5120, .inl y_units)), (ya_isThere, .inl (cA 3, 5120, .inl y_isThere)), (ya_newUnits, .inl (cA 1, 1280, .inl f22)), (ya_isNew, .inl (cA 3, 1280, .inl f18))] := by rw [hy23]; exact hD
              refine lv_iload hx hb dX8_difference_159 (lv_at hl 3 rfl) ?_
              refine lv_iload hx hb dX8_difference_161 (lv_at hl 0 rfl) ?_
              refine lx_if_eq (tgt := 180) hx hb dX8_difference_163 (by decide) ⟨by decide, by decide⟩ (fun _ => ?_) (fun hc => absurd hc (by decide))
              refine lv_iconst (v := z_i 0) hx hb dX8_difference_180 rfl ?_
              refine lx_iadd hx hb dX8_difference_181 ?_
              refine lv_istore (lv' := [(4, .int (z_i (x29_4 + 0))), (7, .int (z_i 0)), (6, .int (z_i v14)), (5, .int (z_i x29_5)), (0, .ref y), (1, .int (z_i gi)), (2, .int (z_i hi_)), (3, .int (z_i to))]) hx hb dX8_difference_182 hl (by decide) rfl (fun ls hl => ?_)
              refine lv_iinc (v := z_i (x29_5 + 1)) (lv' := [(5, .int (z_i (x29_5 + 1))), (4, .int (z_i (x29_4 + 0))), (7, .int (z_i 0)), (6, .int (z_i v14)), (0, .ref y), (1, .int (z_i gi)), (2, .int (z_i hi_)), (3, .int (z_i to))]) hx hb dX8_difference_184 hl (k := 3) rfl (z_i_add _ _) (by decide) rfl (fun ls hl => ?_)
              refine lv_goto (tgt := 29) hx hb dX8_difference_187 (by decide) ?_
              exact hv _ _ ls hP hD hS (lv_sub hl [0, 1, 4, 5, 6, 7] rfl)
          · have hv := hv.2 hc
            refine lv_aload_n hx hb dX8_difference_82 rfl (lv_at hl 3 rfl) ?_
            refine va_get (D := D) (ci := 6) (v := .ref ya_isThere) (C := RX8) (T := TX8) (N := 33) hx hb hts (fun w h => List.mem_cons_of_mem _ (List.mem_append_right _ h)) hown hK hP 0 rfl rfl 4 (by decide) (hts (.fieldLink RX8 22 "ContourSheetsModel" "isThere" "[Z") (by decide +kernel)) (fun _ h9 => h9) rfl dX8_difference_83 ?_
            refine lv_sipush (v := z_i 1280) hx hb dX8_difference_86 (by decide) ?_
            refine lv_iload_n hx hb dX8_difference_89 rfl (lv_at hl 5 rfl) ?_
            refine lx_imul hx hb dX8_difference_90 ?_
            refine lv_iload hx hb dX8_difference_91 (lv_at hl 1 rfl) ?_
            refine lx_iadd hx hb dX8_difference_93 ?_
            refine lx_zald hx hb hK hP 5 3 rfl rfl (by decide) hi13.1 hi13.2 dX8_difference_94 ?_
            refine lx_if_eq (tgt := 102) hx hb dX8_difference_95 (by decide) (z_in_g _ _) (fun hc => ?_) (fun hc => ?_)
            · have hv := hv.1 hc
              refine lv_iconst (v := z_i 0) hx hb dX8_difference_102 rfl ?_
              refine lv_istore (lv' := [(7, .int (z_i 0)), (6, .int (z_i v14)), (5, .int (z_i x29_5)), (4, .int (z_i x29_4)), (0, .ref y), (1, .int (z_i gi)), (2, .int (z_i hi_)), (3, .int (z_i to))]) hx hb dX8_difference_103 hl (by decide) rfl (fun ls hl => ?_)
              refine lv_aload_n hx hb dX8_difference_105 rfl (lv_at hl 4 rfl) ?_
              refine va_get (D := D) (ci := 6) (v := .ref ya_isNew) (C := RX8) (T := TX8) (N := 33) hx hb hts (fun w h => List.mem_cons_of_mem _ (List.mem_append_right _ h)) hown hK hP 0 rfl rfl 32 (by decide) (hts (.fieldLink RX8 96 "ContourSheetsModel" "isNew" "[Z") (by decide +kernel)) (fun _ h9 => h9) rfl dX8_difference_106 ?_
              refine lv_iload hx hb dX8_difference_109 (lv_at hl 2 rfl) ?_
              refine lv_iload hx hb dX8_difference_111 (lv_at hl 0 rfl) ?_
              refine lx_if_eq (tgt := 134) hx hb dX8_difference_113 (by decide) ⟨by decide, by decide⟩ (fun _ => ?_) (fun hc => absurd hc (by decide))
              refine lv_iconst (v := z_i 0) hx hb dX8_difference_134 rfl ?_
              obtain ⟨hi24, hv⟩ := hv
              refine lx_zast hx hb hK hP hD hS 7 3 rfl rfl (by decide) hi24.1 hi24.2 (by decide) dX8_difference_135 (fun H locs hP hD hS => ?_)
              obtain ⟨f25, hy26⟩ : ∃ y : Nat → Int32, y = z_s y29_ya_isNew x29_5 0 := ⟨_, rfl⟩
              have hv := hv f25 hy26
              have hP : va_P D vwCl [(y, .inr (6, [.ref ya_space, .ref ya_offset, .ref ya_length, .ref ya_units, .ref ya_isThere, .int (z_i y_levels), .ref y_level, .int (z_i y_lines), .ref y_lineLevel, .ref y_lineUnits, .ref y_lineFrom, .ref y_lineMany, .ref y_isClosed, .ref y_insides, .ref y_parent, .ref y_isHigh, .ref y_inBits, .int (z_i y_sides), .ref y_side, .ref y_sideA, .ref y_sideB, .int (z_i y_lineSpace), .ref y_wasThere, .ref y_leads, .ref y_isLed, .ref y_isOn, .ref y_goesTo, .ref y_stream, .ref y_filled, .ref y_isDone, .ref y_isReached, .ref ya_newUnits, .ref ya_isNew])), (ya_space, .inl (cA 1, 4, .inl y_space)), (ya_offset, .inl (cA 1, 128, .inl y_offset)), (ya_length, .inl (cA 1, 128, .inl y_length)), (ya_units, .inl (cA 1, 5120, .inl y_units)), (ya_isThere, .inl (cA 3, 5120, .inl y_isThere)), (ya_newUnits, .inl (cA 1, 1280, .inl y29_ya_newUnits)), (ya_isNew, .inl (cA 3, 1280, .inl f25))] H := by rw [hy26]; exact hP
              have hD : va_D A [(y, .inr (6, [.ref ya_space, .ref ya_offset, .ref ya_length, .ref ya_units, .ref ya_isThere, .int (z_i y_levels), .ref y_level, .int (z_i y_lines), .ref y_lineLevel, .ref y_lineUnits, .ref y_lineFrom, .ref y_lineMany, .ref y_isClosed, .ref y_insides, .ref y_parent, .ref y_isHigh, .ref y_inBits, .int (z_i y_sides), .ref y_side, .ref y_sideA, .ref y_sideB, .int (z_i y_lineSpace), .ref y_wasThere, .ref y_leads, .ref y_isLed, .ref y_isOn, .ref y_goesTo, .ref y_stream, .ref y_filled, .ref y_isDone, .ref y_isReached, .ref ya_newUnits, .ref ya_isNew])), (ya_space, .inl (cA 1, 4, .inl y_space)), (ya_offset, .inl (cA 1, 128, .inl y_offset)), (ya_length, .inl (cA 1, 128, .inl y_length)), (ya_units, .inl (cA 1, 5120, .inl y_units)), (ya_isThere, .inl (cA 3, 5120, .inl y_isThere)), (ya_newUnits, .inl (cA 1, 1280, .inl y29_ya_newUnits)), (ya_isNew, .inl (cA 3, 1280, .inl f25))] := by rw [hy26]; exact hD
              refine lv_aload_n hx hb dX8_difference_136 rfl (lv_at hl 4 rfl) ?_
              refine va_get (D := D) (ci := 6) (v := .ref ya_newUnits) (C := RX8) (T := TX8) (N := 33) hx hb hts (fun w h => List.mem_cons_of_mem _ (List.mem_append_right _ h)) hown hK hP 0 rfl rfl 31 (by decide) (hts (.fieldLink RX8 93 "ContourSheetsModel" "newUnits" "[I") (by decide +kernel)) (fun _ h9 => h9) rfl dX8_difference_137 ?_
              refine lv_iload hx hb dX8_difference_140 (lv_at hl 2 rfl) ?_
              refine lv_aload_n hx hb dX8_difference_142 rfl (lv_at hl 4 rfl) ?_
              refine va_get (D := D) (ci := 6) (v := .ref ya_isNew) (C := RX8) (T := TX8) (N := 33) hx hb hts (fun w h => List.mem_cons_of_mem _ (List.mem_append_right _ h)) hown hK hP 0 rfl rfl 32 (by decide) (hts (.fieldLink RX8 96 "ContourSheetsModel" "isNew" "[Z") (by decide +kernel)) (fun _ h9 => h9) rfl dX8_difference_143 ?_
              refine lv_iload hx hb dX8_difference_146 (lv_at hl 2 rfl) ?_
              refine lx_zald hx hb hK hP 7 3 rfl rfl (by decide) hi24.1 hi24.2 dX8_difference_148 ?_
              refine lx_if_eq (tgt := 157) hx hb dX8_difference_149 (by decide) (z_in_g _ _) (fun hc => ?_) (fun hc => ?_)
              · have hv := hv.1 hc
                refine lv_iconst (v := z_i 0) hx hb dX8_difference_157 rfl ?_
                refine lx_iast hx hb hK hP hD hS 6 1 rfl rfl (by decide) hi24.1 hi24.2 dX8_difference_158 (fun H locs hP hD hS => ?_)
                obtain ⟨f27, hy28⟩ : ∃ y : Nat → Int32, y = z_s y29_ya_newUnits x29_5 0 := ⟨_, rfl⟩
                have hv := hv f27 hy28
                have hP : va_P D vwCl [(y, .inr (6, [.ref ya_space, .ref ya_offset, .ref ya_length, .ref ya_units, .ref ya_isThere, .int (z_i y_levels), .ref y_level, .int (z_i y_lines), .ref y_lineLevel, .ref y_lineUnits, .ref y_lineFrom, .ref y_lineMany, .ref y_isClosed, .ref y_insides, .ref y_parent, .ref y_isHigh, .ref y_inBits, .int (z_i y_sides), .ref y_side, .ref y_sideA, .ref y_sideB, .int (z_i y_lineSpace), .ref y_wasThere, .ref y_leads, .ref y_isLed, .ref y_isOn, .ref y_goesTo, .ref y_stream, .ref y_filled, .ref y_isDone, .ref y_isReached, .ref ya_newUnits, .ref ya_isNew])), (ya_space, .inl (cA 1, 4, .inl y_space)), (ya_offset, .inl (cA 1, 128, .inl y_offset)), (ya_length, .inl (cA 1, 128, .inl y_length)), (ya_units, .inl (cA 1, 5120, .inl y_units)), (ya_isThere, .inl (cA 3, 5120, .inl y_isThere)), (ya_newUnits, .inl (cA 1, 1280, .inl f27)), (ya_isNew, .inl (cA 3, 1280, .inl f25))] H := by rw [hy28]; exact hP
                have hD : va_D A [(y, .inr (6, [.ref ya_space, .ref ya_offset, .ref ya_length, .ref ya_units, .ref ya_isThere, .int (z_i y_levels), .ref y_level, .int (z_i y_lines), .ref y_lineLevel, .ref y_lineUnits, .ref y_lineFrom, .ref y_lineMany, .ref y_isClosed, .ref y_insides, .ref y_parent, .ref y_isHigh, .ref y_inBits, .int (z_i y_sides), .ref y_side, .ref y_sideA, .ref y_sideB, .int (z_i y_lineSpace), .ref y_wasThere, .ref y_leads, .ref y_isLed, .ref y_isOn, .ref y_goesTo, .ref y_stream, .ref y_filled, .ref y_isDone, .ref y_isReached, .ref ya_newUnits, .ref ya_isNew])), (ya_space, .inl (cA 1, 4, .inl y_space)), (ya_offset, .inl (cA 1, 128, .inl y_offset)), (ya_length, .inl (cA 1, 128, .inl y_length)), (ya_units, .inl (cA 1, 5120, .inl y_units)), (ya_isThere, .inl (cA 3, 5120, .inl y_isThere)), (ya_newUnits, .inl (cA 1, 1280, .inl f27)), (ya_isNew, .inl (cA 3, 1280, .inl f25))] := by rw [hy28]; exact hD
                refine lv_iload hx hb dX8_difference_159 (lv_at hl 3 rfl) ?_
                refine lv_iload hx hb dX8_difference_161 (lv_at hl 0 rfl) ?_
                refine lx_if_eq (tgt := 180) hx hb dX8_difference_163 (by decide) ⟨by decide, by decide⟩ (fun _ => ?_) (fun hc => absurd hc (by decide))
                refine lv_iconst (v := z_i 0) hx hb dX8_difference_180 rfl ?_
                refine lx_iadd hx hb dX8_difference_181 ?_
                refine lv_istore (lv' := [(4, .int (z_i (x29_4 + 0))), (7, .int (z_i 0)), (6, .int (z_i v14)), (5, .int (z_i x29_5)), (0, .ref y), (1, .int (z_i gi)), (2, .int (z_i hi_)), (3, .int (z_i to))]) hx hb dX8_difference_182 hl (by decide) rfl (fun ls hl => ?_)
                refine lv_iinc (v := z_i (x29_5 + 1)) (lv' := [(5, .int (z_i (x29_5 + 1))), (4, .int (z_i (x29_4 + 0))), (7, .int (z_i 0)), (6, .int (z_i v14)), (0, .ref y), (1, .int (z_i gi)), (2, .int (z_i hi_)), (3, .int (z_i to))]) hx hb dX8_difference_184 hl (k := 3) rfl (z_i_add _ _) (by decide) rfl (fun ls hl => ?_)
                refine lv_goto (tgt := 29) hx hb dX8_difference_187 (by decide) ?_
                exact hv _ _ ls hP hD hS (lv_sub hl [0, 1, 4, 5, 6, 7] rfl)
              · have hv := hv.2 hc
                refine lv_iload hx hb dX8_difference_152 (lv_at hl 1 rfl) ?_
                refine lv_goto (tgt := 158) hx hb dX8_difference_154 (by decide) ?_
                refine lx_iast hx hb hK hP hD hS 6 1 rfl rfl (by decide) hi24.1 hi24.2 dX8_difference_158 (fun H locs hP hD hS => ?_)
                obtain ⟨f29, hy30⟩ : ∃ y : Nat → Int32, y = z_s y29_ya_newUnits x29_5 v14 := ⟨_, rfl⟩
                have hv := hv f29 hy30
                have hP : va_P D vwCl [(y, .inr (6, [.ref ya_space, .ref ya_offset, .ref ya_length, .ref ya_units, .ref ya_isThere, .int (z_i y_levels), .ref y_level, .int (z_i y_lines), .ref y_lineLevel, .ref y_lineUnits, .ref y_lineFrom, .ref y_lineMany, .ref y_isClosed, .ref y_insides, .ref y_parent, .ref y_isHigh, .ref y_inBits, .int (z_i y_sides), .ref y_side, .ref y_sideA, .ref y_sideB, .int (z_i y_lineSpace), .ref y_wasThere, .ref y_leads, .ref y_isLed, .ref y_isOn, .ref y_goesTo, .ref y_stream, .ref y_filled, .ref y_isDone, .ref y_isReached, .ref ya_newUnits, .ref ya_isNew])), (ya_space, .inl (cA 1, 4, .inl y_space)), (ya_offset, .inl (cA 1, 128, .inl y_offset)), (ya_length, .inl (cA 1, 128, .inl y_length)), (ya_units, .inl (cA 1, 5120, .inl y_units)), (ya_isThere, .inl (cA 3, 5120, .inl y_isThere)), (ya_newUnits, .inl (cA 1, 1280, .inl f29)), (ya_isNew, .inl (cA 3, 1280, .inl f25))] H := by rw [hy30]; exact hP
                have hD : va_D A [(y, .inr (6, [.ref ya_space, .ref ya_offset, .ref ya_length, .ref ya_units, .ref ya_isThere, .int (z_i y_levels), .ref y_level, .int (z_i y_lines), .ref y_lineLevel, .ref y_lineUnits, .ref y_lineFrom, .ref y_lineMany, .ref y_isClosed, .ref y_insides, .ref y_parent, .ref y_isHigh, .ref y_inBits, .int (z_i y_sides), .ref y_side, .ref y_sideA, .ref y_sideB, .int (z_i y_lineSpace), .ref y_wasThere, .ref y_leads, .ref y_isLed, .ref y_isOn, .ref y_goesTo, .ref y_stream, .ref y_filled, .ref y_isDone, .ref y_isReached, .ref ya_newUnits, .ref ya_isNew])), (ya_space, .inl (cA 1, 4, .inl y_space)), (ya_offset, .inl (cA 1, 128, .inl y_offset)), (ya_length, .inl (cA 1, 128, .inl y_length)), (ya_units, .inl (cA 1, 5120, .inl y_units)), (ya_isThere, .inl (cA 3, 5120, .inl y_isThere)), (ya_newUnits, .inl (cA 1, 1280, .inl f29)), (ya_isNew, .inl (cA 3, 1280, .inl f25))] := by rw [hy30]; exact hD
                refine lv_iload hx hb dX8_difference_159 (lv_at hl 3 rfl) ?_
                refine lv_iload hx hb dX8_difference_161 (lv_at hl 0 rfl) ?_
                refine lx_if_eq (tgt := 180) hx hb dX8_difference_163 (by decide) ⟨by decide, by decide⟩ (fun _ => ?_) (fun hc => absurd hc (by decide))
                refine lv_iconst (v := z_i 0) hx hb dX8_difference_180 rfl ?_
                refine lx_iadd hx hb dX8_difference_181 ?_
                refine lv_istore (lv' := [(4, .int (z_i (x29_4 + 0))), (7, .int (z_i 0)), (6, .int (z_i v14)), (5, .int (z_i x29_5)), (0, .ref y), (1, .int (z_i gi)), (2, .int (z_i hi_)), (3, .int (z_i to))]) hx hb dX8_difference_182 hl (by decide) rfl (fun ls hl => ?_)
                refine lv_iinc (v := z_i (x29_5 + 1)) (lv' := [(5, .int (z_i (x29_5 + 1))), (4, .int (z_i (x29_4 + 0))), (7, .int (z_i 0)), (6, .int (z_i v14)), (0, .ref y), (1, .int (z_i gi)), (2, .int (z_i hi_)), (3, .int (z_i to))]) hx hb dX8_difference_184 hl (k := 3) rfl (z_i_add _ _) (by decide) rfl (fun ls hl => ?_)
                refine lv_goto (tgt := 29) hx hb dX8_difference_187 (by decide) ?_
                exact hv _ _ ls hP hD hS (lv_sub hl [0, 1, 4, 5, 6, 7] rfl)
            · have hv := hv.2 hc
              refine lv_iconst (v := z_i 1) hx hb dX8_difference_98 rfl ?_
              refine lv_goto (tgt := 103) hx hb dX8_difference_99 (by decide) ?_
              refine lv_istore (lv' := [(7, .int (z_i 1)), (6, .int (z_i v14)), (5, .int (z_i x29_5)), (4, .int (z_i x29_4)), (0, .ref y), (1, .int (z_i gi)), (2, .int (z_i hi_)), (3, .int (z_i to))]) hx hb dX8_difference_103 hl (by decide) rfl (fun ls hl => ?_)
              refine lv_aload_n hx hb dX8_difference_105 rfl (lv_at hl 4 rfl) ?_
              refine va_get (D := D) (ci := 6) (v := .ref ya_isNew) (C := RX8) (T := TX8) (N := 33) hx hb hts (fun w h => List.mem_cons_of_mem _ (List.mem_append_right _ h)) hown hK hP 0 rfl rfl 32 (by decide) (hts (.fieldLink RX8 96 "ContourSheetsModel" "isNew" "[Z") (by decide +kernel)) (fun _ h9 => h9) rfl dX8_difference_106 ?_
              refine lv_iload hx hb dX8_difference_109 (lv_at hl 2 rfl) ?_
              refine lv_iload hx hb dX8_difference_111 (lv_at hl 0 rfl) ?_
              refine lx_if_eq (tgt := 134) hx hb dX8_difference_113 (by decide) ⟨by decide, by decide⟩ (fun hc => absurd hc (by decide)) (fun _ => ?_)
              refine lv_iload hx hb dX8_difference_116 (lv_at hl 1 rfl) ?_
              refine lx_ldc_w (a := (-8388608)) hx hb hown (hts (.constant RX8 270 (-8388608)) (by decide +kernel)) (by decide) dX8_difference_118 ?_
              refine lx_ldc_w (a := 8388608) hx hb hown (hts (.constant RX8 271 (8388608)) (by decide +kernel)) (by decide) dX8_difference_121 ?_
              refine va_calli (va_runS (As := [.int (z_i v14), .int (z_i (-8388608)), .int (z_i 8388608)]) (rest := [.int (z_i x29_5), .ref ya_isNew]) ⟨hx, hb, hml, hown, hts⟩ (mt_X8_in l D cA v14 (-8388608) 8388608 h_v14 (show z_in (-8388608) from ⟨by decide, by decide⟩) (show z_in 8388608 from ⟨by decide, by decide⟩)) (va_cwS 3 hts gX8_difference_X8_in rfl rfl rfl (by decide +kernel) ⟨Nat.le_of_ble_eq_true rfl, Nat.le_of_ble_eq_true rfl⟩) ⟨z_bl0, fun U hU hW => ⟨rfl, z_b0 hK (hP.sub (ws' := []) [] rfl) hU hW⟩⟩ rfl rfl hl.1 rfl (lv_room (Nat.le_of_ble_eq_true rfl)) dX8_difference_124 ⟨Nat.zero_le _, Nat.zero_le _⟩) hS (fun q _ h => h.elim) (fun q h => h.elim) (fun r0 u t H locs ht hvm hw hB hz1 hk1 hS => ?_)
              obtain ⟨r31, rfl, h_r31, hw⟩ := hw
              have hP := z_P_all hP hk1
              have hv := hv r31 h_r31 hw
              refine lx_if_eq (tgt := 134) hx hb dX8_difference_127 (by decide) h_r31 (fun hc => ?_) (fun hc => ?_)
              · have hv := hv.1 hc
                refine lv_iconst (v := z_i 0) hx hb dX8_difference_134 rfl ?_
                obtain ⟨hi32, hv⟩ := hv
                refine lx_zast hx hb hK hP hD hS 7 3 rfl rfl (by decide) hi32.1 hi32.2 (by decide) dX8_difference_135 (fun H locs hP hD hS => ?_)
                obtain ⟨f33, hy34⟩ : ∃ y : Nat → Int32, y = z_s y29_ya_isNew x29_5 0 := ⟨_, rfl⟩
                have hv := hv f33 hy34
                have hP : va_P D vwCl [(y, .inr (6, [.ref ya_space, .ref ya_offset, .ref ya_length, .ref ya_units, .ref ya_isThere, .int (z_i y_levels), .ref y_level, .int (z_i y_lines), .ref y_lineLevel, .ref y_lineUnits, .ref y_lineFrom, .ref y_lineMany, .ref y_isClosed, .ref y_insides, .ref y_parent, .ref y_isHigh, .ref y_inBits, .int (z_i y_sides), .ref y_side, .ref y_sideA, .ref y_sideB, .int (z_i y_lineSpace), .ref y_wasThere, .ref y_leads, .ref y_isLed, .ref y_isOn, .ref y_goesTo, .ref y_stream, .ref y_filled, .ref y_isDone, .ref y_isReached, .ref ya_newUnits, .ref ya_isNew])), (ya_space, .inl (cA 1, 4, .inl y_space)), (ya_offset, .inl (cA 1, 128, .inl y_offset)), (ya_length, .inl (cA 1, 128, .inl y_length)), (ya_units, .inl (cA 1, 5120, .inl y_units)), (ya_isThere, .inl (cA 3, 5120, .inl y_isThere)), (ya_newUnits, .inl (cA 1, 1280, .inl y29_ya_newUnits)), (ya_isNew, .inl (cA 3, 1280, .inl f33))] H := by rw [hy34]; exact hP
                have hD : va_D A [(y, .inr (6, [.ref ya_space, .ref ya_offset, .ref ya_length, .ref ya_units, .ref ya_isThere, .int (z_i y_levels), .ref y_level, .int (z_i y_lines), .ref y_lineLevel, .ref y_lineUnits, .ref y_lineFrom, .ref y_lineMany, .ref y_isClosed, .ref y_insides, .ref y_parent, .ref y_isHigh, .ref y_inBits, .int (z_i y_sides), .ref y_side, .ref y_sideA, .ref y_sideB, .int (z_i y_lineSpace), .ref y_wasThere, .ref y_leads, .ref y_isLed, .ref y_isOn, .ref y_goesTo, .ref y_stream, .ref y_filled, .ref y_isDone, .ref y_isReached, .ref ya_newUnits, .ref ya_isNew])), (ya_space, .inl (cA 1, 4, .inl y_space)), (ya_offset, .inl (cA 1, 128, .inl y_offset)), (ya_length, .inl (cA 1, 128, .inl y_length)), (ya_units, .inl (cA 1, 5120, .inl y_units)), (ya_isThere, .inl (cA 3, 5120, .inl y_isThere)), (ya_newUnits, .inl (cA 1, 1280, .inl y29_ya_newUnits)), (ya_isNew, .inl (cA 3, 1280, .inl f33))] := by rw [hy34]; exact hD
                refine lv_aload_n hx hb dX8_difference_136 rfl (lv_at hl 4 rfl) ?_
                refine va_get (D := D) (ci := 6) (v := .ref ya_newUnits) (C := RX8) (T := TX8) (N := 33) hx hb hts (fun w h => List.mem_cons_of_mem _ (List.mem_append_right _ h)) hown hK hP 0 rfl rfl 31 (by decide) (hts (.fieldLink RX8 93 "ContourSheetsModel" "newUnits" "[I") (by decide +kernel)) (fun _ h9 => h9) rfl dX8_difference_137 ?_
                refine lv_iload hx hb dX8_difference_140 (lv_at hl 2 rfl) ?_
                refine lv_aload_n hx hb dX8_difference_142 rfl (lv_at hl 4 rfl) ?_
                refine va_get (D := D) (ci := 6) (v := .ref ya_isNew) (C := RX8) (T := TX8) (N := 33) hx hb hts (fun w h => List.mem_cons_of_mem _ (List.mem_append_right _ h)) hown hK hP 0 rfl rfl 32 (by decide) (hts (.fieldLink RX8 96 "ContourSheetsModel" "isNew" "[Z") (by decide +kernel)) (fun _ h9 => h9) rfl dX8_difference_143 ?_
                refine lv_iload hx hb dX8_difference_146 (lv_at hl 2 rfl) ?_
                refine lx_zald hx hb hK hP 7 3 rfl rfl (by decide) hi32.1 hi32.2 dX8_difference_148 ?_
                refine lx_if_eq (tgt := 157) hx hb dX8_difference_149 (by decide) (z_in_g _ _) (fun hc => ?_) (fun hc => ?_)
                · have hv := hv.1 hc
                  refine lv_iconst (v := z_i 0) hx hb dX8_difference_157 rfl ?_
                  refine lx_iast hx hb hK hP hD hS 6 1 rfl rfl (by decide) hi32.1 hi32.2 dX8_difference_158 (fun H locs hP hD hS => ?_)
                  obtain ⟨f35, hy36⟩ : ∃ y : Nat → Int32, y = z_s y29_ya_newUnits x29_5 0 := ⟨_, rfl⟩
                  have hv := hv f35 hy36
                  have hP : va_P D vwCl [(y, .inr (6, [.ref ya_space, .ref ya_offset, .ref ya_length, .ref ya_units, .ref ya_isThere, .int (z_i y_levels), .ref y_level, .int (z_i y_lines), .ref y_lineLevel, .ref y_lineUnits, .ref y_lineFrom, .ref y_lineMany, .ref y_isClosed, .ref y_insides, .ref y_parent, .ref y_isHigh, .ref y_inBits, .int (z_i y_sides), .ref y_side, .ref y_sideA, .ref y_sideB, .int (z_i y_lineSpace), .ref y_wasThere, .ref y_leads, .ref y_isLed, .ref y_isOn, .ref y_goesTo, .ref y_stream, .ref y_filled, .ref y_isDone, .ref y_isReached, .ref ya_newUnits, .ref ya_isNew])), (ya_space, .inl (cA 1, 4, .inl y_space)), (ya_offset, .inl (cA 1, 128, .inl y_offset)), (ya_length, .inl (cA 1, 128, .inl y_length)), (ya_units, .inl (cA 1, 5120, .inl y_units)), (ya_isThere, .inl (cA 3, 5120, .inl y_isThere)), (ya_newUnits, .inl (cA 1, 1280, .inl f35)), (ya_isNew, .inl (cA 3, 1280, .inl f33))] H := by rw [hy36]; exact hP
                  have hD : va_D A [(y, .inr (6, [.ref ya_space, .ref ya_offset, .ref ya_length, .ref ya_units, .ref ya_isThere, .int (z_i y_levels), .ref y_level, .int (z_i y_lines), .ref y_lineLevel, .ref y_lineUnits, .ref y_lineFrom, .ref y_lineMany, .ref y_isClosed, .ref y_insides, .ref y_parent, .ref y_isHigh, .ref y_inBits, .int (z_i y_sides), .ref y_side, .ref y_sideA, .ref y_sideB, .int (z_i y_lineSpace), .ref y_wasThere, .ref y_leads, .ref y_isLed, .ref y_isOn, .ref y_goesTo, .ref y_stream, .ref y_filled, .ref y_isDone, .ref y_isReached, .ref ya_newUnits, .ref ya_isNew])), (ya_space, .inl (cA 1, 4, .inl y_space)), (ya_offset, .inl (cA 1, 128, .inl y_offset)), (ya_length, .inl (cA 1, 128, .inl y_length)), (ya_units, .inl (cA 1, 5120, .inl y_units)), (ya_isThere, .inl (cA 3, 5120, .inl y_isThere)), (ya_newUnits, .inl (cA 1, 1280, .inl f35)), (ya_isNew, .inl (cA 3, 1280, .inl f33))] := by rw [hy36]; exact hD
                  refine lv_iload hx hb dX8_difference_159 (lv_at hl 3 rfl) ?_
                  refine lv_iload hx hb dX8_difference_161 (lv_at hl 0 rfl) ?_
                  refine lx_if_eq (tgt := 180) hx hb dX8_difference_163 (by decide) ⟨by decide, by decide⟩ (fun hc => absurd hc (by decide)) (fun _ => ?_)
                  refine lv_aload_n hx hb dX8_difference_166 rfl (lv_at hl 4 rfl) ?_
                  refine va_get (D := D) (ci := 6) (v := .ref ya_isNew) (C := RX8) (T := TX8) (N := 33) hx hb hts (fun w h => List.mem_cons_of_mem _ (List.mem_append_right _ h)) hown hK hP 0 rfl rfl 32 (by decide) (hts (.fieldLink RX8 96 "ContourSheetsModel" "isNew" "[Z") (by decide +kernel)) (fun _ h9 => h9) rfl dX8_difference_167 ?_
                  refine lv_iload hx hb dX8_difference_170 (lv_at hl 2 rfl) ?_
                  refine lx_zald hx hb hK hP 7 3 rfl rfl (by decide) hi32.1 hi32.2 dX8_difference_172 ?_
                  refine lx_if_ne (tgt := 180) hx hb dX8_difference_173 (by decide) (z_in_g _ _) (fun hc => ?_) (fun hc => ?_)
                  · have hv := hv.1 hc
                    refine lv_iconst (v := z_i 0) hx hb dX8_difference_180 rfl ?_
                    refine lx_iadd hx hb dX8_difference_181 ?_
                    refine lv_istore (lv' := [(4, .int (z_i (x29_4 + 0))), (7, .int (z_i 1)), (6, .int (z_i v14)), (5, .int (z_i x29_5)), (0, .ref y), (1, .int (z_i gi)), (2, .int (z_i hi_)), (3, .int (z_i to))]) hx hb dX8_difference_182 hl (by decide) rfl (fun ls hl => ?_)
                    refine lv_iinc (v := z_i (x29_5 + 1)) (lv' := [(5, .int (z_i (x29_5 + 1))), (4, .int (z_i (x29_4 + 0))), (7, .int (z_i 1)), (6, .int (z_i v14)), (0, .ref y), (1, .int (z_i gi)), (2, .int (z_i hi_)), (3, .int (z_i to))]) hx hb dX8_difference_184 hl (k := 3) rfl (z_i_add _ _) (by decide) rfl (fun ls hl => ?_)
                    refine lv_goto (tgt := 29) hx hb dX8_difference_187 (by decide) ?_
                    exact hv _ _ ls hP hD hS (lv_sub hl [0, 1, 4, 5, 6, 7] rfl)
                  · have hv := hv.2 hc
                    refine lv_iconst (v := z_i 1) hx hb dX8_difference_176 rfl ?_
                    refine lv_goto (tgt := 181) hx hb dX8_difference_177 (by decide) ?_
                    refine lx_iadd hx hb dX8_difference_181 ?_
                    refine lv_istore (lv' := [(4, .int (z_i (x29_4 + 1))), (7, .int (z_i 1)), (6, .int (z_i v14)), (5, .int (z_i x29_5)), (0, .ref y), (1, .int (z_i gi)), (2, .int (z_i hi_)), (3, .int (z_i to))]) hx hb dX8_difference_182 hl (by decide) rfl (fun ls hl => ?_)
                    refine lv_iinc (v := z_i (x29_5 + 1)) (lv' := [(5, .int (z_i (x29_5 + 1))), (4, .int (z_i (x29_4 + 1))), (7, .int (z_i 1)), (6, .int (z_i v14)), (0, .ref y), (1, .int (z_i gi)), (2, .int (z_i hi_)), (3, .int (z_i to))]) hx hb dX8_difference_184 hl (k := 3) rfl (z_i_add _ _) (by decide) rfl (fun ls hl => ?_)
                    refine lv_goto (tgt := 29) hx hb dX8_difference_187 (by decide) ?_
                    exact hv _ _ ls hP hD hS (lv_sub hl [0, 1, 4, 5, 6, 7] rfl)
                · have hv := hv.2 hc
                  refine lv_iload hx hb dX8_difference_152 (lv_at hl 1 rfl) ?_
                  refine lv_goto (tgt := 158) hx hb dX8_difference_154 (by decide) ?_
                  refine lx_iast hx hb hK hP hD hS 6 1 rfl rfl (by decide) hi32.1 hi32.2 dX8_difference_158 (fun H locs hP hD hS => ?_)
                  obtain ⟨f37, hy38⟩ : ∃ y : Nat → Int32, y = z_s y29_ya_newUnits x29_5 v14 := ⟨_, rfl⟩
                  have hv := hv f37 hy38
                  have hP : va_P D vwCl [(y, .inr (6, [.ref ya_space, .ref ya_offset, .ref ya_length, .ref ya_units, .ref ya_isThere, .int (z_i y_levels), .ref y_level, .int (z_i y_lines), .ref y_lineLevel, .ref y_lineUnits, .ref y_lineFrom, .ref y_lineMany, .ref y_isClosed, .ref y_insides, .ref y_parent, .ref y_isHigh, .ref y_inBits, .int (z_i y_sides), .ref y_side, .ref y_sideA, .ref y_sideB, .int (z_i y_lineSpace), .ref y_wasThere, .ref y_leads, .ref y_isLed, .ref y_isOn, .ref y_goesTo, .ref y_stream, .ref y_filled, .ref y_isDone, .ref y_isReached, .ref ya_newUnits, .ref ya_isNew])), (ya_space, .inl (cA 1, 4, .inl y_space)), (ya_offset, .inl (cA 1, 128, .inl y_offset)), (ya_length, .inl (cA 1, 128, .inl y_length)), (ya_units, .inl (cA 1, 5120, .inl y_units)), (ya_isThere, .inl (cA 3, 5120, .inl y_isThere)), (ya_newUnits, .inl (cA 1, 1280, .inl f37)), (ya_isNew, .inl (cA 3, 1280, .inl f33))] H := by rw [hy38]; exact hP
                  have hD : va_D A [(y, .inr (6, [.ref ya_space, .ref ya_offset, .ref ya_length, .ref ya_units, .ref ya_isThere, .int (z_i y_levels), .ref y_level, .int (z_i y_lines), .ref y_lineLevel, .ref y_lineUnits, .ref y_lineFrom, .ref y_lineMany, .ref y_isClosed, .ref y_insides, .ref y_parent, .ref y_isHigh, .ref y_inBits, .int (z_i y_sides), .ref y_side, .ref y_sideA, .ref y_sideB, .int (z_i y_lineSpace), .ref y_wasThere, .ref y_leads, .ref y_isLed, .ref y_isOn, .ref y_goesTo, .ref y_stream, .ref y_filled, .ref y_isDone, .ref y_isReached, .ref ya_newUnits, .ref ya_isNew])), (ya_space, .inl (cA 1, 4, .inl y_space)), (ya_offset, .inl (cA 1, 128, .inl y_offset)), (ya_length, .inl (cA 1, 128, .inl y_length)), (ya_units, .inl (cA 1, 5120, .inl y_units)), (ya_isThere, .inl (cA 3, 5120, .inl y_isThere)), (ya_newUnits, .inl (cA 1, 1280, .inl f37)), (ya_isNew, .inl (cA 3, 1280, .inl f33))] := by rw [hy38]; exact hD
                  refine lv_iload hx hb dX8_difference_159 (lv_at hl 3 rfl) ?_
                  refine lv_iload hx hb dX8_difference_161 (lv_at hl 0 rfl) ?_
                  refine lx_if_eq (tgt := 180) hx hb dX8_difference_163 (by decide) ⟨by decide, by decide⟩ (fun hc => absurd hc (by decide)) (fun _ => ?_)
                  refine lv_aload_n hx hb dX8_difference_166 rfl (lv_at hl 4 rfl) ?_
                  refine va_get (D := D) (ci := 6) (v := .ref ya_isNew) (C := RX8) (T := TX8) (N := 33) hx hb hts (fun w h => List.mem_cons_of_mem _ (List.mem_append_right _ h)) hown hK hP 0 rfl rfl 32 (by decide) (hts (.fieldLink RX8 96 "ContourSheetsModel" "isNew" "[Z") (by decide +kernel)) (fun _ h9 => h9) rfl dX8_difference_167 ?_
                  refine lv_iload hx hb dX8_difference_170 (lv_at hl 2 rfl) ?_
                  refine lx_zald hx hb hK hP 7 3 rfl rfl (by decide) hi32.1 hi32.2 dX8_difference_172 ?_
                  refine lx_if_ne (tgt := 180) hx hb dX8_difference_173 (by decide) (z_in_g _ _) (fun hc => ?_) (fun hc => ?_)
                  · have hv := hv.1 hc
                    refine lv_iconst (v := z_i 0) hx hb dX8_difference_180 rfl ?_
                    refine lx_iadd hx hb dX8_difference_181 ?_
                    refine lv_istore (lv' := [(4, .int (z_i (x29_4 + 0))), (7, .int (z_i 1)), (6, .int (z_i v14)), (5, .int (z_i x29_5)), (0, .ref y), (1, .int (z_i gi)), (2, .int (z_i hi_)), (3, .int (z_i to))]) hx hb dX8_difference_182 hl (by decide) rfl (fun ls hl => ?_)
                    refine lv_iinc (v := z_i (x29_5 + 1)) (lv' := [(5, .int (z_i (x29_5 + 1))), (4, .int (z_i (x29_4 + 0))), (7, .int (z_i 1)), (6, .int (z_i v14)), (0, .ref y), (1, .int (z_i gi)), (2, .int (z_i hi_)), (3, .int (z_i to))]) hx hb dX8_difference_184 hl (k := 3) rfl (z_i_add _ _) (by decide) rfl (fun ls hl => ?_)
                    refine lv_goto (tgt := 29) hx hb dX8_difference_187 (by decide) ?_
                    exact hv _ _ ls hP hD hS (lv_sub hl [0, 1, 4, 5, 6, 7] rfl)
                  · have hv := hv.2 hc
                    refine lv_iconst (v := z_i 1) hx hb dX8_difference_176 rfl ?_
                    refine lv_goto (tgt := 181) hx hb dX8_difference_177 (by decide) ?_
                    refine lx_iadd hx hb dX8_difference_181 ?_
                    refine lv_istore (lv' := [(4, .int (z_i (x29_4 + 1))), (7, .int (z_i 1)), (6, .int (z_i v14)), (5, .int (z_i x29_5)), (0, .ref y), (1, .int (z_i gi)), (2, .int (z_i hi_)), (3, .int (z_i to))]) hx hb dX8_difference_182 hl (by decide) rfl (fun ls hl => ?_)
                    refine lv_iinc (v := z_i (x29_5 + 1)) (lv' := [(5, .int (z_i (x29_5 + 1))), (4, .int (z_i (x29_4 + 1))), (7, .int (z_i 1)), (6, .int (z_i v14)), (0, .ref y), (1, .int (z_i gi)), (2, .int (z_i hi_)), (3, .int (z_i to))]) hx hb dX8_difference_184 hl (k := 3) rfl (z_i_add _ _) (by decide) rfl (fun ls hl => ?_)
                    refine lv_goto (tgt := 29) hx hb dX8_difference_187 (by decide) ?_
                    exact hv _ _ ls hP hD hS (lv_sub hl [0, 1, 4, 5, 6, 7] rfl)
              · have hv := hv.2 hc
                refine lv_iconst (v := z_i 1) hx hb dX8_difference_130 rfl ?_
                refine lv_goto (tgt := 135) hx hb dX8_difference_131 (by decide) ?_
                obtain ⟨hi39, hv⟩ := hv
                refine lx_zast hx hb hK hP hD hS 7 3 rfl rfl (by decide) hi39.1 hi39.2 (by decide) dX8_difference_135 (fun H locs hP hD hS => ?_)
                obtain ⟨f40, hy41⟩ : ∃ y : Nat → Int32, y = z_s y29_ya_isNew x29_5 1 := ⟨_, rfl⟩
                have hv := hv f40 hy41
                have hP : va_P D vwCl [(y, .inr (6, [.ref ya_space, .ref ya_offset, .ref ya_length, .ref ya_units, .ref ya_isThere, .int (z_i y_levels), .ref y_level, .int (z_i y_lines), .ref y_lineLevel, .ref y_lineUnits, .ref y_lineFrom, .ref y_lineMany, .ref y_isClosed, .ref y_insides, .ref y_parent, .ref y_isHigh, .ref y_inBits, .int (z_i y_sides), .ref y_side, .ref y_sideA, .ref y_sideB, .int (z_i y_lineSpace), .ref y_wasThere, .ref y_leads, .ref y_isLed, .ref y_isOn, .ref y_goesTo, .ref y_stream, .ref y_filled, .ref y_isDone, .ref y_isReached, .ref ya_newUnits, .ref ya_isNew])), (ya_space, .inl (cA 1, 4, .inl y_space)), (ya_offset, .inl (cA 1, 128, .inl y_offset)), (ya_length, .inl (cA 1, 128, .inl y_length)), (ya_units, .inl (cA 1, 5120, .inl y_units)), (ya_isThere, .inl (cA 3, 5120, .inl y_isThere)), (ya_newUnits, .inl (cA 1, 1280, .inl y29_ya_newUnits)), (ya_isNew, .inl (cA 3, 1280, .inl f40))] H := by rw [hy41]; exact hP
                have hD : va_D A [(y, .inr (6, [.ref ya_space, .ref ya_offset, .ref ya_length, .ref ya_units, .ref ya_isThere, .int (z_i y_levels), .ref y_level, .int (z_i y_lines), .ref y_lineLevel, .ref y_lineUnits, .ref y_lineFrom, .ref y_lineMany, .ref y_isClosed, .ref y_insides, .ref y_parent, .ref y_isHigh, .ref y_inBits, .int (z_i y_sides), .ref y_side, .ref y_sideA, .ref y_sideB, .int (z_i y_lineSpace), .ref y_wasThere, .ref y_leads, .ref y_isLed, .ref y_isOn, .ref y_goesTo, .ref y_stream, .ref y_filled, .ref y_isDone, .ref y_isReached, .ref ya_newUnits, .ref ya_isNew])), (ya_space, .inl (cA 1, 4, .inl y_space)), (ya_offset, .inl (cA 1, 128, .inl y_offset)), (ya_length, .inl (cA 1, 128, .inl y_length)), (ya_units, .inl (cA 1, 5120, .inl y_units)), (ya_isThere, .inl (cA 3, 5120, .inl y_isThere)), (ya_newUnits, .inl (cA 1, 1280, .inl y29_ya_newUnits)), (ya_isNew, .inl (cA 3, 1280, .inl f40))] := by rw [hy41]; exact hD
                refine lv_aload_n hx hb dX8_difference_136 rfl (lv_at hl 4 rfl) ?_
                refine va_get (D := D) (ci := 6) (v := .ref ya_newUnits) (C := RX8) (T := TX8) (N := 33) hx hb hts (fun w h => List.mem_cons_of_mem _ (List.mem_append_right _ h)) hown hK hP 0 rfl rfl 31 (by decide) (hts (.fieldLink RX8 93 "ContourSheetsModel" "newUnits" "[I") (by decide +kernel)) (fun _ h9 => h9) rfl dX8_difference_137 ?_
                refine lv_iload hx hb dX8_difference_140 (lv_at hl 2 rfl) ?_
                refine lv_aload_n hx hb dX8_difference_142 rfl (lv_at hl 4 rfl) ?_
                refine va_get (D := D) (ci := 6) (v := .ref ya_isNew) (C := RX8) (T := TX8) (N := 33) hx hb hts (fun w h => List.mem_cons_of_mem _ (List.mem_append_right _ h)) hown hK hP 0 rfl rfl 32 (by decide) (hts (.fieldLink RX8 96 "ContourSheetsModel" "isNew" "[Z") (by decide +kernel)) (fun _ h9 => h9) rfl dX8_difference_143 ?_
                refine lv_iload hx hb dX8_difference_146 (lv_at hl 2 rfl) ?_
                refine lx_zald hx hb hK hP 7 3 rfl rfl (by decide) hi39.1 hi39.2 dX8_difference_148 ?_
                refine lx_if_eq (tgt := 157) hx hb dX8_difference_149 (by decide) (z_in_g _ _) (fun hc => ?_) (fun hc => ?_)
                · have hv := hv.1 hc
                  refine lv_iconst (v := z_i 0) hx hb dX8_difference_157 rfl ?_
                  refine lx_iast hx hb hK hP hD hS 6 1 rfl rfl (by decide) hi39.1 hi39.2 dX8_difference_158 (fun H locs hP hD hS => ?_)
                  obtain ⟨f42, hy43⟩ : ∃ y : Nat → Int32, y = z_s y29_ya_newUnits x29_5 0 := ⟨_, rfl⟩
                  have hv := hv f42 hy43
                  have hP : va_P D vwCl [(y, .inr (6, [.ref ya_space, .ref ya_offset, .ref ya_length, .ref ya_units, .ref ya_isThere, .int (z_i y_levels), .ref y_level, .int (z_i y_lines), .ref y_lineLevel, .ref y_lineUnits, .ref y_lineFrom, .ref y_lineMany, .ref y_isClosed, .ref y_insides, .ref y_parent, .ref y_isHigh, .ref y_inBits, .int (z_i y_sides), .ref y_side, .ref y_sideA, .ref y_sideB, .int (z_i y_lineSpace), .ref y_wasThere, .ref y_leads, .ref y_isLed, .ref y_isOn, .ref y_goesTo, .ref y_stream, .ref y_filled, .ref y_isDone, .ref y_isReached, .ref ya_newUnits, .ref ya_isNew])), (ya_space, .inl (cA 1, 4, .inl y_space)), (ya_offset, .inl (cA 1, 128, .inl y_offset)), (ya_length, .inl (cA 1, 128, .inl y_length)), (ya_units, .inl (cA 1, 5120, .inl y_units)), (ya_isThere, .inl (cA 3, 5120, .inl y_isThere)), (ya_newUnits, .inl (cA 1, 1280, .inl f42)), (ya_isNew, .inl (cA 3, 1280, .inl f40))] H := by rw [hy43]; exact hP
                  have hD : va_D A [(y, .inr (6, [.ref ya_space, .ref ya_offset, .ref ya_length, .ref ya_units, .ref ya_isThere, .int (z_i y_levels), .ref y_level, .int (z_i y_lines), .ref y_lineLevel, .ref y_lineUnits, .ref y_lineFrom, .ref y_lineMany, .ref y_isClosed, .ref y_insides, .ref y_parent, .ref y_isHigh, .ref y_inBits, .int (z_i y_sides), .ref y_side, .ref y_sideA, .ref y_sideB, .int (z_i y_lineSpace), .ref y_wasThere, .ref y_leads, .ref y_isLed, .ref y_isOn, .ref y_goesTo, .ref y_stream, .ref y_filled, .ref y_isDone, .ref y_isReached, .ref ya_newUnits, .ref ya_isNew])), (ya_space, .inl (cA 1, 4, .inl y_space)), (ya_offset, .inl (cA 1, 128, .inl y_offset)), (ya_length, .inl (cA 1, 128, .inl y_length)), (ya_units, .inl (cA 1, 5120, .inl y_units)), (ya_isThere, .inl (cA 3, 5120, .inl y_isThere)), (ya_newUnits, .inl (cA 1, 1280, .inl f42)), (ya_isNew, .inl (cA 3, 1280, .inl f40))] := by rw [hy43]; exact hD
                  refine lv_iload hx hb dX8_difference_159 (lv_at hl 3 rfl) ?_
                  refine lv_iload hx hb dX8_difference_161 (lv_at hl 0 rfl) ?_
                  refine lx_if_eq (tgt := 180) hx hb dX8_difference_163 (by decide) ⟨by decide, by decide⟩ (fun hc => absurd hc (by decide)) (fun _ => ?_)
                  refine lv_aload_n hx hb dX8_difference_166 rfl (lv_at hl 4 rfl) ?_
                  refine va_get (D := D) (ci := 6) (v := .ref ya_isNew) (C := RX8) (T := TX8) (N := 33) hx hb hts (fun w h => List.mem_cons_of_mem _ (List.mem_append_right _ h)) hown hK hP 0 rfl rfl 32 (by decide) (hts (.fieldLink RX8 96 "ContourSheetsModel" "isNew" "[Z") (by decide +kernel)) (fun _ h9 => h9) rfl dX8_difference_167 ?_
                  refine lv_iload hx hb dX8_difference_170 (lv_at hl 2 rfl) ?_
                  refine lx_zald hx hb hK hP 7 3 rfl rfl (by decide) hi39.1 hi39.2 dX8_difference_172 ?_
                  refine lx_if_ne (tgt := 180) hx hb dX8_difference_173 (by decide) (z_in_g _ _) (fun hc => ?_) (fun hc => ?_)
                  · have hv := hv.1 hc
                    refine lv_iconst (v := z_i 0) hx hb dX8_difference_180 rfl ?_
                    refine lx_iadd hx hb dX8_difference_181 ?_
                    refine lv_istore (lv' := [(4, .int (z_i (x29_4 + 0))), (7, .int (z_i 1)), (6, .int (z_i v14)), (5, .int (z_i x29_5)), (0, .ref y), (1, .int (z_i gi)), (2, .int (z_i hi_)), (3, .int (z_i to))]) hx hb dX8_difference_182 hl (by decide) rfl (fun ls hl => ?_)
                    refine lv_iinc (v := z_i (x29_5 + 1)) (lv' := [(5, .int (z_i (x29_5 + 1))), (4, .int (z_i (x29_4 + 0))), (7, .int (z_i 1)), (6, .int (z_i v14)), (0, .ref y), (1, .int (z_i gi)), (2, .int (z_i hi_)), (3, .int (z_i to))]) hx hb dX8_difference_184 hl (k := 3) rfl (z_i_add _ _) (by decide) rfl (fun ls hl => ?_)
                    refine lv_goto (tgt := 29) hx hb dX8_difference_187 (by decide) ?_
                    exact hv _ _ ls hP hD hS (lv_sub hl [0, 1, 4, 5, 6, 7] rfl)
                  · have hv := hv.2 hc
                    refine lv_iconst (v := z_i 1) hx hb dX8_difference_176 rfl ?_
                    refine lv_goto (tgt := 181) hx hb dX8_difference_177 (by decide) ?_
                    refine lx_iadd hx hb dX8_difference_181 ?_
                    refine lv_istore (lv' := [(4, .int (z_i (x29_4 + 1))), (7, .int (z_i 1)), (6, .int (z_i v14)), (5, .int (z_i x29_5)), (0, .ref y), (1, .int (z_i gi)), (2, .int (z_i hi_)), (3, .int (z_i to))]) hx hb dX8_difference_182 hl (by decide) rfl (fun ls hl => ?_)
                    refine lv_iinc (v := z_i (x29_5 + 1)) (lv' := [(5, .int (z_i (x29_5 + 1))), (4, .int (z_i (x29_4 + 1))), (7, .int (z_i 1)), (6, .int (z_i v14)), (0, .ref y), (1, .int (z_i gi)), (2, .int (z_i hi_)), (3, .int (z_i to))]) hx hb dX8_difference_184 hl (k := 3) rfl (z_i_add _ _) (by decide) rfl (fun ls hl => ?_)
                    refine lv_goto (tgt := 29) hx hb dX8_difference_187 (by decide) ?_
                    exact hv _ _ ls hP hD hS (lv_sub hl [0, 1, 4, 5, 6, 7] rfl)
                · have hv := hv.2 hc
                  refine lv_iload hx hb dX8_difference_152 (lv_at hl 1 rfl) ?_
                  refine lv_goto (tgt := 158) hx hb dX8_difference_154 (by decide) ?_
                  refine lx_iast hx hb hK hP hD hS 6 1 rfl rfl (by decide) hi39.1 hi39.2 dX8_difference_158 (fun H locs hP hD hS => ?_)
                  obtain ⟨f44, hy45⟩ : ∃ y : Nat → Int32, y = z_s y29_ya_newUnits x29_5 v14 := ⟨_, rfl⟩
                  have hv := hv f44 hy45
                  have hP : va_P D vwCl [(y, .inr (6, [.ref ya_space, .ref ya_offset, .ref ya_length, .ref ya_units, .ref ya_isThere, .int (z_i y_levels), .ref y_level, .int (z_i y_lines), .ref y_lineLevel, .ref y_lineUnits, .ref y_lineFrom, .ref y_lineMany, .ref y_isClosed, .ref y_insides, .ref y_parent, .ref y_isHigh, .ref y_inBits, .int (z_i y_sides), .ref y_side, .ref y_sideA, .ref y_sideB, .int (z_i y_lineSpace), .ref y_wasThere, .ref y_leads, .ref y_isLed, .ref y_isOn, .ref y_goesTo, .ref y_stream, .ref y_filled, .ref y_isDone, .ref y_isReached, .ref ya_newUnits, .ref ya_isNew])), (ya_space, .inl (cA 1, 4, .inl y_space)), (ya_offset, .inl (cA 1, 128, .inl y_offset)), (ya_length, .inl (cA 1, 128, .inl y_length)), (ya_units, .inl (cA 1, 5120, .inl y_units)), (ya_isThere, .inl (cA 3, 5120, .inl y_isThere)), (ya_newUnits, .inl (cA 1, 1280, .inl f44)), (ya_isNew, .inl (cA 3, 1280, .inl f40))] H := by rw [hy45]; exact hP
                  have hD : va_D A [(y, .inr (6, [.ref ya_space, .ref ya_offset, .ref ya_length, .ref ya_units, .ref ya_isThere, .int (z_i y_levels), .ref y_level, .int (z_i y_lines), .ref y_lineLevel, .ref y_lineUnits, .ref y_lineFrom, .ref y_lineMany, .ref y_isClosed, .ref y_insides, .ref y_parent, .ref y_isHigh, .ref y_inBits, .int (z_i y_sides), .ref y_side, .ref y_sideA, .ref y_sideB, .int (z_i y_lineSpace), .ref y_wasThere, .ref y_leads, .ref y_isLed, .ref y_isOn, .ref y_goesTo, .ref y_stream, .ref y_filled, .ref y_isDone, .ref y_isReached, .ref ya_newUnits, .ref ya_isNew])), (ya_space, .inl (cA 1, 4, .inl y_space)), (ya_offset, .inl (cA 1, 128, .inl y_offset)), (ya_length, .inl (cA 1, 128, .inl y_length)), (ya_units, .inl (cA 1, 5120, .inl y_units)), (ya_isThere, .inl (cA 3, 5120, .inl y_isThere)), (ya_newUnits, .inl (cA 1, 1280, .inl f44)), (ya_isNew, .inl (cA 3, 1280, .inl f40))] := by rw [hy45]; exact hD
                  refine lv_iload hx hb dX8_difference_159 (lv_at hl 3 rfl) ?_
                  refine lv_iload hx hb dX8_difference_161 (lv_at hl 0 rfl) ?_
                  refine lx_if_eq (tgt := 180) hx hb dX8_difference_163 (by decide) ⟨by decide, by decide⟩ (fun hc => absurd hc (by decide)) (fun _ => ?_)
                  refine lv_aload_n hx hb dX8_difference_166 rfl (lv_at hl 4 rfl) ?_
                  refine va_get (D := D) (ci := 6) (v := .ref ya_isNew) (C := RX8) (T := TX8) (N := 33) hx hb hts (fun w h => List.mem_cons_of_mem _ (List.mem_append_right _ h)) hown hK hP 0 rfl rfl 32 (by decide) (hts (.fieldLink RX8 96 "ContourSheetsModel" "isNew" "[Z") (by decide +kernel)) (fun _ h9 => h9) rfl dX8_difference_167 ?_
                  refine lv_iload hx hb dX8_difference_170 (lv_at hl 2 rfl) ?_
                  refine lx_zald hx hb hK hP 7 3 rfl rfl (by decide) hi39.1 hi39.2 dX8_difference_172 ?_
                  refine lx_if_ne (tgt := 180) hx hb dX8_difference_173 (by decide) (z_in_g _ _) (fun hc => ?_) (fun hc => ?_)
                  · have hv := hv.1 hc
                    refine lv_iconst (v := z_i 0) hx hb dX8_difference_180 rfl ?_
                    refine lx_iadd hx hb dX8_difference_181 ?_
                    refine lv_istore (lv' := [(4, .int (z_i (x29_4 + 0))), (7, .int (z_i 1)), (6, .int (z_i v14)), (5, .int (z_i x29_5)), (0, .ref y), (1, .int (z_i gi)), (2, .int (z_i hi_)), (3, .int (z_i to))]) hx hb dX8_difference_182 hl (by decide) rfl (fun ls hl => ?_)
                    refine lv_iinc (v := z_i (x29_5 + 1)) (lv' := [(5, .int (z_i (x29_5 + 1))), (4, .int (z_i (x29_4 + 0))), (7, .int (z_i 1)), (6, .int (z_i v14)), (0, .ref y), (1, .int (z_i gi)), (2, .int (z_i hi_)), (3, .int (z_i to))]) hx hb dX8_difference_184 hl (k := 3) rfl (z_i_add _ _) (by decide) rfl (fun ls hl => ?_)
                    refine lv_goto (tgt := 29) hx hb dX8_difference_187 (by decide) ?_
                    exact hv _ _ ls hP hD hS (lv_sub hl [0, 1, 4, 5, 6, 7] rfl)
                  · have hv := hv.2 hc
                    refine lv_iconst (v := z_i 1) hx hb dX8_difference_176 rfl ?_
                    refine lv_goto (tgt := 181) hx hb dX8_difference_177 (by decide) ?_
                    refine lx_iadd hx hb dX8_difference_181 ?_
                    refine lv_istore (lv' := [(4, .int (z_i (x29_4 + 1))), (7, .int (z_i 1)), (6, .int (z_i v14)), (5, .int (z_i x29_5)), (0, .ref y), (1, .int (z_i gi)), (2, .int (z_i hi_)), (3, .int (z_i to))]) hx hb dX8_difference_182 hl (by decide) rfl (fun ls hl => ?_)
                    refine lv_iinc (v := z_i (x29_5 + 1)) (lv' := [(5, .int (z_i (x29_5 + 1))), (4, .int (z_i (x29_4 + 1))), (7, .int (z_i 1)), (6, .int (z_i v14)), (0, .ref y), (1, .int (z_i gi)), (2, .int (z_i hi_)), (3, .int (z_i to))]) hx hb dX8_difference_184 hl (k := 3) rfl (z_i_add _ _) (by decide) rfl (fun ls hl => ?_)
                    refine lv_goto (tgt := 29) hx hb dX8_difference_187 (by decide) ?_
                    exact hv _ _ ls hP hD hS (lv_sub hl [0, 1, 4, 5, 6, 7] rfl)
      · have hv := hv.2 hc
        refine lv_iconst (v := z_i (-1)) hx hb dX8_difference_21 rfl ?_
        exact W.iret (v := z_i (-1)) hx hb hr (fun t ht hW => ⟨⟨z_i (-1), (y_space, y_offset, y_length, y_units, y_isThere, y_newUnits, y_isNew), rfl, ⟨-1, rfl, (show z_in (-1) from ⟨by decide, by decide⟩), hv⟩, z_pt hP ht⟩, hS.F ht⟩) hS.2.2 dX8_difference_22
set_option maxHeartbeats 4000000 in
set_option maxRecDepth 100000 in
theorem mt_X8_difference (l : Launch) (D : va_G) (cA : Nat → ClassId) (y : Nat) (ya_space : Nat) (y_space : Nat → Int32) (ya_offset : Nat) (y_offset : Nat → Int32) (ya_length : Nat) (y_length : Nat → Int32) (ya_units : Nat) (y_units : Nat → Int32) (ya_isThere : Nat) (y_isThere : Nat → Int32) (y_levels : Int) (y_level : Nat) (y_lines : Int) (y_lineLevel : Nat) (y_lineUnits : Nat) (y_lineFrom : Nat) (y_lineMany : Nat) (y_isClosed : Nat) (y_insides : Nat) (y_parent : Nat) (y_isHigh : Nat) (y_inBits : Nat) (y_sides : Int) (y_side : Nat) (y_sideA : Nat) (y_sideB : Nat) (y_lineSpace : Int) (y_wasThere : Nat) (y_leads : Nat) (y_isLed : Nat) (y_isOn : Nat) (y_goesTo : Nat) (y_stream : Nat) (y_filled : Nat) (y_isDone : Nat) (y_isReached : Nat) (ya_newUnits : Nat) (y_newUnits : Nat → Int32) (ya_isNew : Nat) (y_isNew : Nat → Int32) (gi : Int) (hi_ : Int) (to : Int) (h_y_levels : z_in y_levels) (h_y_lines : z_in y_lines) (h_y_sides : z_in y_sides) (h_y_lineSpace : z_in y_lineSpace) (h_gi : z_in gi) (h_hi_ : z_in hi_) (h_to : z_in to) (hp1 : q_bd y_units) (hp2 : q_01 5120 y_isThere) : Met l yX8_difference wsX8_difference ({ frames := 2, cells := 0, slots := 0, locals := 42 } : Room) (va_Pc [.ref y, .int (z_i gi), .int (z_i hi_), .int (z_i to)] (z_M0 D cA [(y, .inr (6, [.ref ya_space, .ref ya_offset, .ref ya_length, .ref ya_units, .ref ya_isThere, .int (z_i y_levels), .ref y_level, .int (z_i y_lines), .ref y_lineLevel, .ref y_lineUnits, .ref y_lineFrom, .ref y_lineMany, .ref y_isClosed, .ref y_insides, .ref y_parent, .ref y_isHigh, .ref y_inBits, .int (z_i y_sides), .ref y_side, .ref y_sideA, .ref y_sideB, .int (z_i y_lineSpace), .ref y_wasThere, .ref y_leads, .ref y_isLed, .ref y_isOn, .ref y_goesTo, .ref y_stream, .ref y_filled, .ref y_isDone, .ref y_isReached, .ref ya_newUnits, .ref ya_isNew])), (ya_space, .inl (cA 1, 4, .inl y_space)), (ya_offset, .inl (cA 1, 128, .inl y_offset)), (ya_length, .inl (cA 1, 128, .inl y_length)), (ya_units, .inl (cA 1, 5120, .inl y_units)), (ya_isThere, .inl (cA 3, 5120, .inl y_isThere)), (ya_newUnits, .inl (cA 1, 1280, .inl y_newUnits)), (ya_isNew, .inl (cA 3, 1280, .inl y_isNew))])) (va_Qi (z_mi (fun v (u : (Nat → Int32) × (Nat → Int32) × (Nat → Int32) × (Nat → Int32) × (Nat → Int32) × (Nat → Int32) × (Nat → Int32)) => (fun (r : Int) (y_space' : (Nat → Int32)) (y_offset' : (Nat → Int32)) (y_length' : (Nat → Int32)) (y_units' : (Nat → Int32)) (y_isThere' : (Nat → Int32)) (y_newUnits' : (Nat → Int32)) (y_isNew' : (Nat → Int32)) => r = (if (0 ≤ gi ∧ gi < 4) ∧ (0 ≤ hi_ ∧ hi_ < 4) ∧ (0 ≤ to ∧ to < 4) then v_bc (q_th y_isThere gi) (q_at y_units y_isThere gi) (q_th y_isThere hi_) (q_at y_units y_isThere hi_) 1280 else -1) ∧ ((0 ≤ gi ∧ gi < 4) ∧ (0 ≤ hi_ ∧ hi_ < 4) ∧ (0 ≤ to ∧ to < 4) → (y_space' = z_s y_space to (z_g y_space gi) ∧ (∀ q : Int, 0 ≤ q → z_g y_offset' q = if 32 * to ≤ q ∧ q < 32 * to + 32 then z_g y_offset (q - 32 * to + 32 * gi) else z_g y_offset q) ∧ (∀ q : Int, 0 ≤ q → z_g y_length' q = if 32 * to ≤ q ∧ q < 32 * to + 32 then z_g y_length (q - 32 * to + 32 * gi) else z_g y_length q) ∧ (∀ q : Int, 0 ≤ q → z_g y_units' q = if 1280 * to ≤ q ∧ q < 1280 * to + 1280 then z_g y_newUnits' (q - 1280 * to) else z_g y_units q) ∧ (∀ q : Int, 0 ≤ q → z_g y_isThere' q = if 1280 * to ≤ q ∧ q < 1280 * to + 1280 then z_g y_isNew' (q - 1280 * to) else z_g y_isThere q)) ∧ ∀ n : Int, 0 ≤ n → n < 1280 → z_g y_isNew' n = z_b (v_in (q_th y_isThere gi) (q_at y_units y_isThere gi) (q_th y_isThere hi_) (q_at y_units y_isThere hi_) n) ∧ z_g y_newUnits' n = (if v_in (q_th y_isThere gi) (q_at y_units y_isThere gi) (q_th y_isThere hi_) (q_at y_units y_isThere hi_) n = true then (q_at y_units y_isThere gi) n - (q_at y_units y_isThere hi_) n else 0)) ∧ (¬ ((0 ≤ gi ∧ gi < 4) ∧ (0 ≤ hi_ ∧ hi_ < 4) ∧ (0 ≤ to ∧ to < 4)) → y_space' = y_space ∧ y_offset' = y_offset ∧ y_length' = y_length ∧ y_units' = y_units ∧ y_isThere' = y_isThere ∧ y_newUnits' = y_newUnits ∧ y_isNew' = y_isNew)) v u.1 u.2.1 u.2.2.1 u.2.2.2.1 u.2.2.2.2.1 u.2.2.2.2.2.1 u.2.2.2.2.2.2)) (fun (u : (Nat → Int32) × (Nat → Int32) × (Nat → Int32) × (Nat → Int32) × (Nat → Int32) × (Nat → Int32) × (Nat → Int32)) t => va_P D vwCl [(y, .inr (6, [.ref ya_space, .ref ya_offset, .ref ya_length, .ref ya_units, .ref ya_isThere, .int (z_i y_levels), .ref y_level, .int (z_i y_lines), .ref y_lineLevel, .ref y_lineUnits, .ref y_lineFrom, .ref y_lineMany, .ref y_isClosed, .ref y_insides, .ref y_parent, .ref y_isHigh, .ref y_inBits, .int (z_i y_sides), .ref y_side, .ref y_sideA, .ref y_sideB, .int (z_i y_lineSpace), .ref y_wasThere, .ref y_leads, .ref y_isLed, .ref y_isOn, .ref y_goesTo, .ref y_stream, .ref y_filled, .ref y_isDone, .ref y_isReached, .ref ya_newUnits, .ref ya_isNew])), (ya_space, .inl (cA 1, 4, .inl u.1)), (ya_offset, .inl (cA 1, 128, .inl u.2.1)), (ya_length, .inl (cA 1, 128, .inl u.2.2.1)), (ya_units, .inl (cA 1, 5120, .inl u.2.2.2.1)), (ya_isThere, .inl (cA 3, 5120, .inl u.2.2.2.2.1)), (ya_newUnits, .inl (cA 1, 1280, .inl u.2.2.2.2.2.1)), (ya_isNew, .inl (cA 3, 1280, .inl u.2.2.2.2.2.2))] t.heap) (z_A [(y, .inr (6, [.ref ya_space, .ref ya_offset, .ref ya_length, .ref ya_units, .ref ya_isThere, .int (z_i y_levels), .ref y_level, .int (z_i y_lines), .ref y_lineLevel, .ref y_lineUnits, .ref y_lineFrom, .ref y_lineMany, .ref y_isClosed, .ref y_insides, .ref y_parent, .ref y_isHigh, .ref y_inBits, .int (z_i y_sides), .ref y_side, .ref y_sideA, .ref y_sideB, .int (z_i y_lineSpace), .ref y_wasThere, .ref y_leads, .ref y_isLed, .ref y_isOn, .ref y_goesTo, .ref y_stream, .ref y_filled, .ref y_isDone, .ref y_isReached, .ref ya_newUnits, .ref ya_isNew])), (ya_space, .inl (cA 1, 4, .inl y_space)), (ya_offset, .inl (cA 1, 128, .inl y_offset)), (ya_length, .inl (cA 1, 128, .inl y_length)), (ya_units, .inl (cA 1, 5120, .inl y_units)), (ya_isThere, .inl (cA 3, 5120, .inl y_isThere)), (ya_newUnits, .inl (cA 1, 1280, .inl y_newUnits)), (ya_isNew, .inl (cA 3, 1280, .inl y_isNew))])) 0 0 (z_A [(y, .inr (6, [.ref ya_space, .ref ya_offset, .ref ya_length, .ref ya_units, .ref ya_isThere, .int (z_i y_levels), .ref y_level, .int (z_i y_lines), .ref y_lineLevel, .ref y_lineUnits, .ref y_lineFrom, .ref y_lineMany, .ref y_isClosed, .ref y_insides, .ref y_parent, .ref y_isHigh, .ref y_inBits, .int (z_i y_sides), .ref y_side, .ref y_sideA, .ref y_sideB, .int (z_i y_lineSpace), .ref y_wasThere, .ref y_leads, .ref y_isLed, .ref y_isOn, .ref y_goesTo, .ref y_stream, .ref y_filled, .ref y_isDone, .ref y_isReached, .ref ya_newUnits, .ref ya_isNew])), (ya_space, .inl (cA 1, 4, .inl y_space)), (ya_offset, .inl (cA 1, 128, .inl y_offset)), (ya_length, .inl (cA 1, 128, .inl y_length)), (ya_units, .inl (cA 1, 5120, .inl y_units)), (ya_isThere, .inl (cA 3, 5120, .inl y_isThere)), (ya_newUnits, .inl (cA 1, 1280, .inl y_newUnits)), (ya_isNew, .inl (cA 3, 1280, .inl y_isNew))]) := by
  refine wk_X8_difference l D cA y ya_space y_space ya_offset y_offset ya_length y_length ya_units y_units ya_isThere y_isThere y_levels y_level y_lines y_lineLevel y_lineUnits y_lineFrom y_lineMany y_isClosed y_insides y_parent y_isHigh y_inBits y_sides y_side y_sideA y_sideB y_lineSpace y_wasThere y_leads y_isLed y_isOn y_goesTo y_stream y_filled y_isDone y_isReached ya_newUnits y_newUnits ya_isNew y_isNew gi hi_ to h_y_levels h_y_lines h_y_sides h_y_lineSpace h_gi h_hi_ h_to (fun (r : Int) (y_space' : (Nat → Int32)) (y_offset' : (Nat → Int32)) (y_length' : (Nat → Int32)) (y_units' : (Nat → Int32)) (y_isThere' : (Nat → Int32)) (y_newUnits' : (Nat → Int32)) (y_isNew' : (Nat → Int32)) => r = (if (0 ≤ gi ∧ gi < 4) ∧ (0 ≤ hi_ ∧ hi_ < 4) ∧ (0 ≤ to ∧ to < 4) then v_bc (q_th y_isThere gi) (q_at y_units y_isThere gi) (q_th y_isThere hi_) (q_at y_units y_isThere hi_) 1280 else -1) ∧ ((0 ≤ gi ∧ gi < 4) ∧ (0 ≤ hi_ ∧ hi_ < 4) ∧ (0 ≤ to ∧ to < 4) → (y_space' = z_s y_space to (z_g y_space gi) ∧ (∀ q : Int, 0 ≤ q → z_g y_offset' q = if 32 * to ≤ q ∧ q < 32 * to + 32 then z_g y_offset (q - 32 * to + 32 * gi) else z_g y_offset q) ∧ (∀ q : Int, 0 ≤ q → z_g y_length' q = if 32 * to ≤ q ∧ q < 32 * to + 32 then z_g y_length (q - 32 * to + 32 * gi) else z_g y_length q) ∧ (∀ q : Int, 0 ≤ q → z_g y_units' q = if 1280 * to ≤ q ∧ q < 1280 * to + 1280 then z_g y_newUnits' (q - 1280 * to) else z_g y_units q) ∧ (∀ q : Int, 0 ≤ q → z_g y_isThere' q = if 1280 * to ≤ q ∧ q < 1280 * to + 1280 then z_g y_isNew' (q - 1280 * to) else z_g y_isThere q)) ∧ ∀ n : Int, 0 ≤ n → n < 1280 → z_g y_isNew' n = z_b (v_in (q_th y_isThere gi) (q_at y_units y_isThere gi) (q_th y_isThere hi_) (q_at y_units y_isThere hi_) n) ∧ z_g y_newUnits' n = (if v_in (q_th y_isThere gi) (q_at y_units y_isThere gi) (q_th y_isThere hi_) (q_at y_units y_isThere hi_) n = true then (q_at y_units y_isThere gi) n - (q_at y_units y_isThere hi_) n else 0)) ∧ (¬ ((0 ≤ gi ∧ gi < 4) ∧ (0 ≤ hi_ ∧ hi_ < 4) ∧ (0 ≤ to ∧ to < 4)) → y_space' = y_space ∧ y_offset' = y_offset ∧ y_length' = y_length ∧ y_units' = y_units ∧ y_isThere' = y_isThere ∧ y_newUnits' = y_newUnits ∧ y_isNew' = y_isNew)) ?_
  unfold vc_X8_difference
  have no : ¬ ((0 ≤ gi ∧ gi < 4) ∧ (0 ≤ hi_ ∧ hi_ < 4) ∧ (0 ≤ to ∧ to < 4)) → (-1 : Int) = (if (0 ≤ gi ∧ gi < 4) ∧ (0 ≤ hi_ ∧ hi_ < 4) ∧ (0 ≤ to ∧ to < 4) then v_bc (q_th y_isThere gi) (q_at y_units y_isThere gi) (q_th y_isThere hi_) (q_at y_units y_isThere hi_) 1280 else -1) ∧ ((0 ≤ gi ∧ gi < 4) ∧ (0 ≤ hi_ ∧ hi_ < 4) ∧ (0 ≤ to ∧ to < 4) → (y_space = z_s y_space to (z_g y_space gi) ∧ (∀ q : Int, 0 ≤ q → z_g y_offset q = if 32 * to ≤ q ∧ q < 32 * to + 32 then z_g y_offset (q - 32 * to + 32 * gi) else z_g y_offset q) ∧ (∀ q : Int, 0 ≤ q → z_g y_length q = if 32 * to ≤ q ∧ q < 32 * to + 32 then z_g y_length (q - 32 * to + 32 * gi) else z_g y_length q) ∧ (∀ q : Int, 0 ≤ q → z_g y_units q = if 1280 * to ≤ q ∧ q < 1280 * to + 1280 then z_g y_newUnits (q - 1280 * to) else z_g y_units q) ∧ (∀ q : Int, 0 ≤ q → z_g y_isThere q = if 1280 * to ≤ q ∧ q < 1280 * to + 1280 then z_g y_isNew (q - 1280 * to) else z_g y_isThere q)) ∧ ∀ n : Int, 0 ≤ n → n < 1280 → z_g y_isNew n = z_b (v_in (q_th y_isThere gi) (q_at y_units y_isThere gi) (q_th y_isThere hi_) (q_at y_units y_isThere hi_) n) ∧ z_g y_newUnits n = (if v_in (q_th y_isThere gi) (q_at y_units y_isThere gi) (q_th y_isThere hi_) (q_at y_units y_isThere hi_) n = true then (q_at y_units y_isThere gi) n - (q_at y_units y_isThere hi_) n else 0)) ∧ (¬ ((0 ≤ gi ∧ gi < 4) ∧ (0 ≤ hi_ ∧ hi_ < 4) ∧ (0 ≤ to ∧ to < 4)) → y_space = y_space ∧ y_offset = y_offset ∧ y_length = y_length ∧ y_units = y_units ∧ y_isThere = y_isThere ∧ y_newUnits = y_newUnits ∧ y_isNew = y_isNew) := fun h => ⟨by rw [if_neg h], fun h2 => absurd h2 h, fun _ => ⟨rfl, rfl, rfl, rfl, rfl, rfl, rfl⟩⟩
  rintro r1 _ rfl
  refine ⟨fun q => no (fun h => of_decide_eq_false (zb_f q) (by omega)), fun q => ?_⟩
  have q := of_decide_eq_true (zb_t q)
  rintro r2 _ rfl
  refine ⟨fun q1 => no (fun h => of_decide_eq_false (zb_f q1) (by omega)), fun q1 => ?_⟩
  have q1 := of_decide_eq_true (zb_t q1)
  rintro r3 _ rfl
  refine ⟨fun q2 => ?_, fun q2 => no (fun h => of_decide_eq_false (zb_f q2) (by omega))⟩
  have q2 := of_decide_eq_true (zb_t q2)
  have hg : 0 ≤ gi ∧ gi < 4 := by omega
  have ht : 0 ≤ to ∧ to < 4 := by omega
  have hc : (0 ≤ gi ∧ gi < 4) ∧ (0 ≤ hi_ ∧ hi_ < 4) ∧ (0 ≤ to ∧ to < 4) := ⟨hg, by omega, ht⟩
  have es : ∀ k : Nat, v_bc (q_th y_isThere gi) (q_at y_units y_isThere gi) (q_th y_isThere hi_) (q_at y_units y_isThere hi_) (k + 1) = v_bc (q_th y_isThere gi) (q_at y_units y_isThere gi) (q_th y_isThere hi_) (q_at y_units y_isThere hi_) k + (if ((q_th y_isThere gi) k && (q_th y_isThere hi_) k) = true ∧ v_in (q_th y_isThere gi) (q_at y_units y_isThere gi) (q_th y_isThere hi_) (q_at y_units y_isThere hi_) k = false then 1 else 0) := fun k => rfl
  have pb : ∀ k : Nat, 0 ≤ v_bc (q_th y_isThere gi) (q_at y_units y_isThere gi) (q_th y_isThere hi_) (q_at y_units y_isThere hi_) k ∧ v_bc (q_th y_isThere gi) (q_at y_units y_isThere gi) (q_th y_isThere hi_) (q_at y_units y_isThere hi_) k ≤ k := fun k => by
    induction k with
    | zero => exact ⟨Int.le_refl _, Int.le_refl _⟩
    | succ k ih => rw [es]; split <;> omega
  intro L1 hL1
  suffices H : ∀ (d k : Nat) (yu yw : Nat → Int32), k + d = 1280 → (∀ n : Int, 0 ≤ n → n < k → z_g yw n = z_b (v_in (q_th y_isThere gi) (q_at y_units y_isThere gi) (q_th y_isThere hi_) (q_at y_units y_isThere hi_) n) ∧ z_g yu n = (if v_in (q_th y_isThere gi) (q_at y_units y_isThere gi) (q_th y_isThere hi_) (q_at y_units y_isThere hi_) n = true then (q_at y_units y_isThere gi) n - (q_at y_units y_isThere hi_) n else 0)) → L1 k (v_bc (q_th y_isThere gi) (q_at y_units y_isThere gi) (q_th y_isThere hi_) (q_at y_units y_isThere hi_) k) yu yw from H 1280 0 _ _ rfl (fun n _ b => absurd b (by omega))
  intro d
  induction d with
  | zero =>
    intro k yu yw hk hy
    obtain rfl : k = 1280 := by omega
    have := pb 1280
    refine hL1 _ _ _ _ ⟨by omega, by omega⟩ ⟨by omega, by omega⟩ ⟨fun _ => ⟨hg, ht, fun n a b => ?_, ?_⟩, fun h => absurd h (by omega)⟩
    · rw [(hy n a (by omega)).1]; exact z_b_01 _
    · intro c7 c8 c9 c10 c11 h
      exact ⟨by rw [if_pos hc], fun _ => ⟨h, fun n a b => hy n a (by omega)⟩, fun h2 => absurd hc h2⟩
  | succ d ih =>
    intro k yu yw hk hy
    have b1 := hp1 (1280 * gi + k) (by omega) (by omega)
    have b2 := hp1 (1280 * hi_ + k) (by omega) (by omega)
    have bc := pb k
    refine hL1 _ _ _ _ ⟨by omega, by omega⟩ ⟨by omega, by omega⟩ ⟨fun h => absurd h (by omega), fun _ => ⟨⟨by omega, by omega⟩, ⟨by omega, by omega⟩, ⟨by omega, by omega⟩, ?_⟩⟩
    rintro v14 h14
    have ew : ∀ b : Int, z_in b → z_g (z_s yw k b) k = b := fun b zb => by rw [z_gs zb (by omega) (by omega), if_pos rfl]
    have tk : (q_th y_isThere gi) k = decide (z_g y_isThere (1280 * gi + k) ≠ 0) := by
      unfold q_th; by_cases h : z_g y_isThere (1280 * gi + k) ≠ 0
      · rw [decide_eq_true h, decide_eq_true ⟨by omega, by omega, h⟩]
      · rw [decide_eq_false h, decide_eq_false (fun q9 => h q9.2.2)]
    have sk : (q_th y_isThere hi_) k = decide (z_g y_isThere (1280 * hi_ + k) ≠ 0) := by
      unfold q_th; by_cases h : z_g y_isThere (1280 * hi_ + k) ≠ 0
      · rw [decide_eq_true h, decide_eq_true ⟨by omega, by omega, h⟩]
      · rw [decide_eq_false h, decide_eq_false (fun q9 => h q9.2.2)]
    have step : ∀ (b w f : Int), z_in b → z_in w → b = z_b (v_in (q_th y_isThere gi) (q_at y_units y_isThere gi) (q_th y_isThere hi_) (q_at y_units y_isThere hi_) k) → w = (if v_in (q_th y_isThere gi) (q_at y_units y_isThere gi) (q_th y_isThere hi_) (q_at y_units y_isThere hi_) k = true then (q_at y_units y_isThere gi) k - (q_at y_units y_isThere hi_) k else 0) → f = v_bc (q_th y_isThere gi) (q_at y_units y_isThere gi) (q_th y_isThere hi_) (q_at y_units y_isThere hi_) (k + 1) → L1 ((k : Int) + 1) f (z_s yu k w) (z_s yw k b) := by
      intro b w f zb zw hb hw hf
      rw [hf]
      refine ih (k + 1) _ _ (by omega) ?_
      intro n a c9
      rw [z_gs zb (by omega) a, z_gs zw (by omega) a]
      by_cases e : n = k
      · rw [if_pos e, if_pos e, e]; exact ⟨hb, hw⟩
      · rw [if_neg e, if_neg e]; exact hy n a (by omega)
    have z0 : z_in 0 := ⟨by omega, by omega⟩
    have z1 : z_in 1 := ⟨by omega, by omega⟩
    refine ⟨fun a => ⟨⟨by omega, by omega⟩, ?_⟩, fun a => ⟨fun a2 => ⟨⟨by omega, by omega⟩, ?_⟩, fun a2 => ?_⟩⟩
    · rintro f18 rfl
      have hv : v_in (q_th y_isThere gi) (q_at y_units y_isThere gi) (q_th y_isThere hi_) (q_at y_units y_isThere hi_) k = false := by unfold v_in; rw [tk, decide_eq_false (fun h => h a)]; rfl
      have hb : ((q_th y_isThere gi) k && (q_th y_isThere hi_) k) = false := by rw [tk, decide_eq_false (fun h => h a)]; rfl
      rw [ew 0 z0]
      refine ⟨fun _ => ?_, fun h => absurd rfl h⟩
      rintro f20 rfl
      exact step 0 0 _ z0 z0 (by rw [hv]; rfl) (by rw [hv]; rfl) (by rw [es, if_neg (fun h => by rw [hb] at h; exact absurd h.1 (by decide))])
    · rintro f25 rfl
      have hb : ((q_th y_isThere gi) k && (q_th y_isThere hi_) k) = false := by rw [sk, decide_eq_false (fun h => h a2), Bool.and_false]
      have hv : v_in (q_th y_isThere gi) (q_at y_units y_isThere gi) (q_th y_isThere hi_) (q_at y_units y_isThere hi_) k = false := by unfold v_in; rw [hb]; rfl
      rw [ew 0 z0]
      refine ⟨fun _ => ?_, fun h => absurd rfl h⟩
      rintro f20 rfl
      exact step 0 0 _ z0 z0 (by rw [hv]; rfl) (by rw [hv]; rfl) (by rw [es, if_neg (fun h => by rw [hb] at h; exact absurd h.1 (by decide))])
    · have t1 : (q_th y_isThere gi) k = true := by rw [tk]; exact decide_eq_true a
      have t2 : (q_th y_isThere hi_) k = true := by rw [sk]; exact decide_eq_true a2
      have hb : ((q_th y_isThere gi) k && (q_th y_isThere hi_) k) = true := by rw [t1, t2]; rfl
      have eu : (q_at y_units y_isThere gi) k - (q_at y_units y_isThere hi_) k = v14 := by rw [q_at_t t1, q_at_t t2, h14]
      have hv : v_in (q_th y_isThere gi) (q_at y_units y_isThere gi) (q_th y_isThere hi_) (q_at y_units y_isThere hi_) k = decide (-8388608 ≤ v14 ∧ v14 ≤ 8388608) := by unfold v_in; rw [hb, eu]; rfl
      rintro r31 _ rfl
      refine ⟨fun a3 => ⟨⟨by omega, by omega⟩, ?_⟩, fun a3 => ⟨⟨by omega, by omega⟩, ?_⟩⟩
      · rw [zb_f a3] at hv
        rintro f33 rfl
        rw [ew 0 z0]
        refine ⟨fun _ => ?_, fun h => absurd rfl h⟩
        rintro f35 rfl
        refine ⟨fun h => absurd rfl h, fun _ => ?_⟩
        exact step 0 0 _ z0 z0 (by rw [hv]; rfl) (by rw [hv]; rfl) (by rw [es, if_pos ⟨hb, hv⟩])
      · rw [zb_t a3] at hv
        have a4 := of_decide_eq_true (zb_t a3)
        rintro f40 rfl
        rw [ew 1 z1]
        refine ⟨fun h => absurd h (by decide), fun _ => ?_⟩
        rintro f44 rfl
        refine ⟨fun _ => ?_, fun h => absurd h (by decide)⟩
        exact step 1 v14 _ z1 ⟨by omega, by omega⟩ (by rw [hv]; rfl) (by rw [hv, if_pos rfl, eu]) (by rw [es, if_neg (fun h => by rw [hv] at h; exact absurd h.2 (by decide))])
