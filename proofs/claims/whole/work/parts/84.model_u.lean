/-! line, side, place, inside of the model -/
def pl_P (st w A B lv r : Int) : Prop := if B - A < 0 then b_rt (-(st * (w * (B - A) + (lv - A)))) (-(B - A)) r else b_rt (st * (w * (B - A) + (lv - A))) (B - A) r
theorem b_rt_z {un : Int} : b_rt 0 un 0 := by unfold b_rt; rw [if_pos (by decide)]
theorem pl_m {st w A B lv : Int} (s0 : 1 ≤ st) (s1 : st ≤ 100000) (w0 : 0 ≤ w) (w1 : w ≤ 39) (a0 : -8388608 ≤ A) (a1 : A ≤ 8388608) (b0 : -8388608 ≤ B) (b1 : B ≤ 8388608) (hd : decide (A ≥ lv) ≠ decide (B ≥ lv)) :
    z_nl (B - A) ∧ z_nl (st * (((w * (B - A)) + lv) - A)) ∧ ((st * (((w * (B - A)) + lv) - A) ≠ 0 → vf_n64 (FP.ddiv (z_l2d (st * (((w * (B - A)) + lv) - A))) (z_l2d (B - A))) ∧ ∀ x : UInt64, x = FP.ddiv (z_l2d (st * (((w * (B - A)) + lv) - A))) (z_l2d (B - A)) → z_dc x x .l = 0 ∧ pl_P st w A B lv (z_db x)) ∧ (st * (((w * (B - A)) + lv) - A) = 0 → pl_P st w A B lv 0)) := by
  have e : ((w * (B - A)) + lv) - A = w * (B - A) + (lv - A) := by omega
  rw [e]
  unfold pl_P
  by_cases hb : B - A < 0
  · have hA : A ≥ lv ∧ ¬ B ≥ lv := by
      by_cases h1 : A ≥ lv
      · by_cases h2 : B ≥ lv
        · rw [decide_eq_true h1, decide_eq_true h2] at hd; exact absurd rfl hd
        · exact ⟨h1, h2⟩
      · by_cases h2 : B ≥ lv
        · omega
        · rw [decide_eq_false h1, decide_eq_false h2] at hd; exact absurd rfl hd
    have P := pl_b (ri := -(B - A)) (le := A - lv) s0 s1 w0 w1 (by omega) (by omega) (by omega) (by omega)
    have e2 : w * (B - A) + (lv - A) = -(w * -(B - A) + (A - lv)) := by rw [Int.mul_neg]; omega
    rw [if_pos hb, e2, Int.mul_neg, Int.neg_neg]
    generalize st * (w * -(B - A) + (A - lv)) = V at P
    refine ⟨⟨by omega, by omega⟩, ⟨by omega, by omega⟩, fun h => ?_, fun h => ?_⟩
    · have D := dl_div (a := -V) (b := B - A) h (by omega) (by rw [decide_eq_true (show -V < 0 by omega), decide_eq_true hb]) (by omega) (by omega)
      have X := dl_bits (x := FP.ddiv (z_l2d (-V)) (z_l2d (B - A))) (by omega) (by omega) (by omega) (by omega) D
      refine ⟨X.1, ?_⟩
      rintro x rfl
      refine ⟨X.2.1, ?_⟩
      rw [if_pos hb]
      have X3 := X.2.2
      rw [show (((-V).natAbs : Nat) : Int) = V by omega, show (((B - A).natAbs : Nat) : Int) = -(B - A) by omega] at X3
      exact X3
    · rw [show V = 0 by omega]; exact b_rt_z
  · have hA : ¬ A ≥ lv ∧ B ≥ lv := by
      by_cases h1 : A ≥ lv
      · by_cases h2 : B ≥ lv
        · rw [decide_eq_true h1, decide_eq_true h2] at hd; exact absurd rfl hd
        · omega
      · by_cases h2 : B ≥ lv
        · exact ⟨h1, h2⟩
        · rw [decide_eq_false h1, decide_eq_false h2] at hd; exact absurd rfl hd
    have P := pl_b (ri := B - A) (le := lv - A) s0 s1 w0 w1 (by omega) (by omega) (by omega) (by omega)
    rw [if_neg hb]
    generalize st * (w * (B - A) + (lv - A)) = V at P
    refine ⟨⟨by omega, by omega⟩, ⟨by omega, by omega⟩, fun h => ?_, fun h => ?_⟩
    · have D := dl_div (a := V) (b := B - A) h (by omega) (by rw [decide_eq_false (show ¬ V < 0 by omega), decide_eq_false hb]) (by omega) (by omega)
      have X := dl_bits (x := FP.ddiv (z_l2d V) (z_l2d (B - A))) (by omega) (by omega) (by omega) (by omega) D
      refine ⟨X.1, ?_⟩
      rintro x rfl
      refine ⟨X.2.1, ?_⟩
      rw [if_neg hb]
      have X3 := X.2.2
      rw [show ((V.natAbs : Nat) : Int) = V by omega, show (((B - A).natAbs : Nat) : Int) = B - A by omega] at X3
      exact X3
    · rw [h]; exact b_rt_z
theorem pl_w {st w : Int} (s0 : 1 ≤ st) (s1 : st ≤ 100000) (w0 : 0 ≤ w) (w1 : w ≤ 39) : ∀ x : UInt64, x = z_l2d (st * w) → z_dc x x .l = 0 ∧ b_rt (st * w) 1 (z_db x) := by
  have h0 : 0 ≤ st * w := Int.mul_nonneg (by omega) w0
  have h1 : st * w ≤ 100000 * w := Int.mul_le_mul_of_nonneg_right s1 w0
  generalize st * w = V at h0 h1
  rintro x rfl
  by_cases h : V = 0
  · rw [h]
    refine ⟨by decide +kernel, ?_⟩
    rw [show z_db (z_l2d 0) = 0 by decide +kernel]; exact b_rt_z
  · have X := dl_bits (x := z_l2d V) (ov := V.natAbs) (un := 1) (by omega) (by omega) (by omega) (by omega) (dl_one (by omega) (by omega))
    have X3 := X.2.2
    rw [show ((V.natAbs : Nat) : Int) = V by omega] at X3
    exact ⟨X.2.1, X3⟩
theorem l_sd_n {ls : List d_L} {k i : Nat} {l : d_L} {s : Int} (h : ls[k]? = some l) (hi : l.2.2[i]? = some s) : l_sd ls (k : Int) (i : Int) = s := by
  unfold l_sd
  rw [if_pos (by omega), l_at_n h, Int.toNat_natCast, hi]; rfl
theorem l_sd_out {ls : List d_L} {k i : Int} (h : ¬ (0 ≤ k ∧ k < (ls.length : Int))) : l_sd ls k i = -1 := by
  unfold l_sd
  rw [l_at_f h]
  split <;> simp
def vc_X8_line (y_lines : Int) (y_lineLevel : Nat → Int32) (y_lineMany : Nat → Int32) (y_isClosed : Nat → Int32) (y_insides : Nat → Int32) (y_parent : Nat → Int32) (y_isHigh : Nat → Int32) (k : Int) (what : Int) (Q : Int → Prop) : Prop :=
z_in (y_lines - 1) ∧ (∀ (r2 : Int), z_in r2 → (r2 = z_b (decide ((0 : Int) ≤ k ∧ k ≤ (y_lines - 1)))) → ((r2 ≠ 0 → ((what = 0 → (0 ≤ k ∧ k < 400) ∧ Q (z_g y_lineLevel k)) ∧
(what = 1 → (0 ≤ k ∧ k < 400) ∧ Q (z_g y_lineMany k)) ∧
(what = 2 → (0 ≤ k ∧ k < 400) ∧ ((z_g y_isClosed k = 0 → Q 0) ∧
(z_g y_isClosed k ≠ 0 → Q 1))) ∧
(what = 3 → (0 ≤ k ∧ k < 400) ∧ Q (z_g y_parent k)) ∧
(what = 4 → (0 ≤ k ∧ k < 400) ∧ ((z_g y_isClosed k = 0 → Q (-1)) ∧
(z_g y_isClosed k ≠ 0 → Q (z_g y_insides k)))) ∧
(what = 5 → (0 ≤ k ∧ k < 400) ∧ ((z_g y_isClosed k ≠ 0 → ((z_g y_isHigh k = 0 → Q 0) ∧
(z_g y_isHigh k ≠ 0 → Q 1))) ∧
(z_g y_isClosed k = 0 → Q (-1)))) ∧
((what < 0 ∨ 5 < what) → Q (-1)))) ∧
(r2 = 0 → Q (-1))))
set_option maxHeartbeats 4000000 in
set_option maxRecDepth 100000 in
theorem wk_X8_line (l : Launch) (D : va_G) (cA : Nat → ClassId) (y : Nat) (y_space : Nat) (y_offset : Nat) (y_length : Nat) (y_units : Nat) (y_isThere : Nat) (y_levels : Int) (y_level : Nat) (y_lines : Int) (ya_lineLevel : Nat) (y_lineLevel : Nat → Int32) (ya_lineUnits : Nat) (y_lineUnits : Nat → Int32) (ya_lineFrom : Nat) (y_lineFrom : Nat → Int32) (ya_lineMany : Nat) (y_lineMany : Nat → Int32) (ya_isClosed : Nat) (y_isClosed : Nat → Int32) (ya_insides : Nat) (y_insides : Nat → Int32) (ya_parent : Nat) (y_parent : Nat → Int32) (ya_isHigh : Nat) (y_isHigh : Nat → Int32) (ya_inBits : Nat) (y_inBits : Nat → Int64) (y_sides : Int) (ya_side : Nat) (y_side : Nat → Int32) (ya_sideA : Nat) (y_sideA : Nat → Int32) (ya_sideB : Nat) (y_sideB : Nat → Int32) (y_lineSpace : Int) (y_wasThere : Nat) (y_leads : Nat) (y_isLed : Nat) (y_isOn : Nat) (y_goesTo : Nat) (y_stream : Nat) (y_filled : Nat) (y_isDone : Nat) (y_isReached : Nat) (y_newUnits : Nat) (y_isNew : Nat) (k : Int) (what : Int) (h_y_levels : z_in y_levels) (h_y_lines : z_in y_lines) (h_y_sides : z_in y_sides) (h_y_lineSpace : z_in y_lineSpace) (h_k : z_in k) (h_what : z_in what) (Q : Int → Prop) (hv : vc_X8_line y_lines y_lineLevel y_lineMany y_isClosed y_insides y_parent y_isHigh k what Q) : Met l yX8_line wsX8_line ({ frames := 1, cells := 0, slots := 0, locals := 22 } : Room) (va_Pc [.ref y, .int (z_i k), .int (z_i what)] (z_B0 D cA [(y, .inr (6, [.ref y_space, .ref y_offset, .ref y_length, .ref y_units, .ref y_isThere, .int (z_i y_levels), .ref y_level, .int (z_i y_lines), .ref ya_lineLevel, .ref ya_lineUnits, .ref ya_lineFrom, .ref ya_lineMany, .ref ya_isClosed, .ref ya_insides, .ref ya_parent, .ref ya_isHigh, .ref ya_inBits, .int (z_i y_sides), .ref ya_side, .ref ya_sideA, .ref ya_sideB, .int (z_i y_lineSpace), .ref y_wasThere, .ref y_leads, .ref y_isLed, .ref y_isOn, .ref y_goesTo, .ref y_stream, .ref y_filled, .ref y_isDone, .ref y_isReached, .ref y_newUnits, .ref y_isNew])), (ya_lineLevel, .inl (cA 1, 400, .inl y_lineLevel)), (ya_lineUnits, .inl (cA 1, 400, .inl y_lineUnits)), (ya_lineFrom, .inl (cA 1, 400, .inl y_lineFrom)), (ya_lineMany, .inl (cA 1, 400, .inl y_lineMany)), (ya_isClosed, .inl (cA 3, 400, .inl y_isClosed)), (ya_insides, .inl (cA 1, 400, .inl y_insides)), (ya_parent, .inl (cA 1, 400, .inl y_parent)), (ya_isHigh, .inl (cA 3, 400, .inl y_isHigh)), (ya_inBits, .inl (cA 2, 8000, .inr (.inl y_inBits))), (ya_side, .inl (cA 1, 8000, .inl y_side)), (ya_sideA, .inl (cA 1, 8000, .inl y_sideA)), (ya_sideB, .inl (cA 1, 8000, .inl y_sideB))])) (va_Qi (z_ri Q) (fun _ _ => True) (fun _ => False)) 0 0 (fun _ => False) := by
  unfold vc_X8_line at hv
  refine Met.ofW (cc := cX8_line) (maxL := 3) (ret := (some .int)) (by decide +kernel) rfl ?_
  intro p e s m args below meth c s₁ B hml hv0
  obtain ⟨rfl, hK, hP⟩ := hv0
  have hx := B.exec
  have hb := B.bytes
  have hr := B.returns
  have hts := atoms_spec (ws := wsX8_line) B.pre
  have hown : s.vm.findClass RX8 = some m.cls := findClass_of_methodNamed B.named
  have hlocks := B.notSynchronized
  have hS : va_S (fun _ : Nat => False) s.heap s.heap [] := va_S.rf
  have hl := lv_entry ([.ref y, .int (z_i k), .int (z_i what)]) (n := 3) (Nat.le_of_ble_eq_true rfl)
  rw [lg_entry_eq]
  generalize (lg_sl ([.ref y, .int (z_i k), .int (z_i what)]) ++ List.replicate (3 - (lg_sl ([.ref y, .int (z_i k), .int (z_i what)])).length) Slot.unset).toArray = ls at hl ⊢
  have hl : lv_has ls 3 [(0, .ref y), (1, .int (z_i k)), (2, .int (z_i what))] := hl
  refine lv_iload_n hx hb dX8_line_0 rfl (lv_at hl 1 rfl) ?_
  refine lv_iconst (v := z_i 0) hx hb dX8_line_1 rfl ?_
  refine lv_aload_n hx hb dX8_line_2 rfl (lv_at hl 0 rfl) ?_
  refine va_get (D := D) (ci := 6) (v := .int (z_i y_lines)) (C := RX8) (T := TX8) (N := 33) hx hb hts (fun w h => List.mem_cons_of_mem _ (List.mem_append_right _ h)) hown hK hP 0 rfl rfl 7 (by decide) (hts (.fieldLink RX8 156 "ContourSheetsModel" "lines" "I") (by decide +kernel)) (fun _ h9 => h9) rfl dX8_line_3 ?_
  refine lv_iconst (v := z_i 1) hx hb dX8_line_6 rfl ?_
  refine lx_isub hx hb dX8_line_7 ?_
  obtain ⟨hr1, hv⟩ := hv
  refine va_calli (va_runS (As := [.int (z_i k), .int (z_i 0), .int (z_i (y_lines - 1))]) (rest := []) ⟨hx, hb, hml, hown, hts⟩ (mt_X8_in l D cA k 0 (y_lines - 1) h_k (show z_in 0 from ⟨by decide, by decide⟩) hr1) (va_cwS 3 hts gX8_line_X8_in rfl rfl rfl (by decide +kernel) ⟨Nat.le_of_ble_eq_true rfl, Nat.le_of_ble_eq_true rfl⟩) ⟨z_bl0, fun U hU hW => ⟨rfl, z_b0 hK (hP.sub (ws' := []) [] rfl) hU hW⟩⟩ rfl rfl hl.1 rfl (lv_room (Nat.le_of_ble_eq_true rfl)) dX8_line_8 ⟨Nat.zero_le _, Nat.zero_le _⟩) hS (fun q _ h => h.elim) (fun q h => h.elim) (fun r0 u t H locs ht hvm hw hB hz1 hk1 hS => ?_)
  obtain ⟨r2, rfl, h_r2, hw⟩ := hw
  have hP := z_P_all hP hk1
  have hv := hv r2 h_r2 hw
  refine lx_if_ne (tgt := 16) hx hb dX8_line_11 (by decide) h_r2 (fun hc => ?_) (fun hc => ?_)
  · have hv := hv.1 hc
    refine lv_iload_n hx hb dX8_line_16 rfl (lv_at hl 2 rfl) ?_
    have hto := z_i_to h_what
    rcases (show what = 0 ∨ what = 1 ∨ what = 2 ∨ what = 3 ∨ what = 4 ∨ what = 5 ∨ (what < 0 ∨ 5 < what) by omega) with hc | hc | hc | hc | hc | hc | hc
    · have hv := hv.1 hc
      refine lv_tableIn (off := 39) (tgt := 56) hx hb dX8_line_17 (by rw [hto, hc]; decide) (by rw [hto, hc]; decide) (by rw [hto, hc]; decide) (by decide) ?_
      refine lv_aload_n hx hb dX8_line_56 rfl (lv_at hl 0 rfl) ?_
      refine va_get (D := D) (ci := 6) (v := .ref ya_lineLevel) (C := RX8) (T := TX8) (N := 33) hx hb hts (fun w h => List.mem_cons_of_mem _ (List.mem_append_right _ h)) hown hK hP 0 rfl rfl 8 (by decide) (hts (.fieldLink RX8 29 "ContourSheetsModel" "lineLevel" "[I") (by decide +kernel)) (fun _ h9 => h9) rfl dX8_line_57 ?_
      refine lv_iload_n hx hb dX8_line_60 rfl (lv_at hl 1 rfl) ?_
      obtain ⟨hi3, hv⟩ := hv
      refine lx_iald hx hb hK hP 1 1 rfl rfl (by decide) hi3.1 hi3.2 dX8_line_61 ?_
      exact W.iret (v := z_i (z_g y_lineLevel k)) hx hb hr (fun t ht hW => ⟨⟨z_i (z_g y_lineLevel k), (), rfl, ⟨z_g y_lineLevel k, rfl, (z_in_g _ _), hv⟩, trivial⟩, hS.F ht⟩) hS.2.2 dX8_line_62
    · have hv := hv.2.1 hc
      refine lv_tableIn (off := 46) (tgt := 63) hx hb dX8_line_17 (by rw [hto, hc]; decide) (by rw [hto, hc]; decide) (by rw [hto, hc]; decide) (by decide) ?_
      refine lv_aload_n hx hb dX8_line_63 rfl (lv_at hl 0 rfl) ?_
      refine va_get (D := D) (ci := 6) (v := .ref ya_lineMany) (C := RX8) (T := TX8) (N := 33) hx hb hts (fun w h => List.mem_cons_of_mem _ (List.mem_append_right _ h)) hown hK hP 0 rfl rfl 11 (by decide) (hts (.fieldLink RX8 38 "ContourSheetsModel" "lineMany" "[I") (by decide +kernel)) (fun _ h9 => h9) rfl dX8_line_64 ?_
      refine lv_iload_n hx hb dX8_line_67 rfl (lv_at hl 1 rfl) ?_
      obtain ⟨hi4, hv⟩ := hv
      refine lx_iald hx hb hK hP 4 1 rfl rfl (by decide) hi4.1 hi4.2 dX8_line_68 ?_
      exact W.iret (v := z_i (z_g y_lineMany k)) hx hb hr (fun t ht hW => ⟨⟨z_i (z_g y_lineMany k), (), rfl, ⟨z_g y_lineMany k, rfl, (z_in_g _ _), hv⟩, trivial⟩, hS.F ht⟩) hS.2.2 dX8_line_69
    · have hv := hv.2.2.1 hc
      refine lv_tableIn (off := 53) (tgt := 70) hx hb dX8_line_17 (by rw [hto, hc]; decide) (by rw [hto, hc]; decide) (by rw [hto, hc]; decide) (by decide) ?_
      refine lv_aload_n hx hb dX8_line_70 rfl (lv_at hl 0 rfl) ?_
      refine va_get (D := D) (ci := 6) (v := .ref ya_isClosed) (C := RX8) (T := TX8) (N := 33) hx hb hts (fun w h => List.mem_cons_of_mem _ (List.mem_append_right _ h)) hown hK hP 0 rfl rfl 12 (by decide) (hts (.fieldLink RX8 41 "ContourSheetsModel" "isClosed" "[Z") (by decide +kernel)) (fun _ h9 => h9) rfl dX8_line_71 ?_
      refine lv_iload_n hx hb dX8_line_74 rfl (lv_at hl 1 rfl) ?_
      obtain ⟨hi5, hv⟩ := hv
      refine lx_zald hx hb hK hP 5 3 rfl rfl (by decide) hi5.1 hi5.2 dX8_line_75 ?_
      refine lx_if_eq (tgt := 83) hx hb dX8_line_76 (by decide) (z_in_g _ _) (fun hc => ?_) (fun hc => ?_)
      · have hv := hv.1 hc
        refine lv_iconst (v := z_i 0) hx hb dX8_line_83 rfl ?_
        exact W.iret (v := z_i 0) hx hb hr (fun t ht hW => ⟨⟨z_i 0, (), rfl, ⟨0, rfl, (show z_in 0 from ⟨by decide, by decide⟩), hv⟩, trivial⟩, hS.F ht⟩) hS.2.2 dX8_line_84
      · have hv := hv.2 hc
        refine lv_iconst (v := z_i 1) hx hb dX8_line_79 rfl ?_
        refine lv_goto (tgt := 84) hx hb dX8_line_80 (by decide) ?_
        exact W.iret (v := z_i 1) hx hb hr (fun t ht hW => ⟨⟨z_i 1, (), rfl, ⟨1, rfl, (show z_in 1 from ⟨by decide, by decide⟩), hv⟩, trivial⟩, hS.F ht⟩) hS.2.2 dX8_line_84
    · have hv := hv.2.2.2.1 hc
      refine lv_tableIn (off := 68) (tgt := 85) hx hb dX8_line_17 (by rw [hto, hc]; decide) (by rw [hto, hc]; decide) (by rw [hto, hc]; decide) (by decide) ?_
      refine lv_aload_n hx hb dX8_line_85 rfl (lv_at hl 0 rfl) ?_
      refine va_get (D := D) (ci := 6) (v := .ref ya_parent) (C := RX8) (T := TX8) (N := 33) hx hb hts (fun w h => List.mem_cons_of_mem _ (List.mem_append_right _ h)) hown hK hP 0 rfl rfl 14 (by decide) (hts (.fieldLink RX8 47 "ContourSheetsModel" "parent" "[I") (by decide +kernel)) (fun _ h9 => h9) rfl dX8_line_86 ?_
      refine lv_iload_n hx hb dX8_line_89 rfl (lv_at hl 1 rfl) ?_
      obtain ⟨hi6, hv⟩ := hv
      refine lx_iald hx hb hK hP 7 1 rfl rfl (by decide) hi6.1 hi6.2 dX8_line_90 ?_
      exact W.iret (v := z_i (z_g y_parent k)) hx hb hr (fun t ht hW => ⟨⟨z_i (z_g y_parent k), (), rfl, ⟨z_g y_parent k, rfl, (z_in_g _ _), hv⟩, trivial⟩, hS.F ht⟩) hS.2.2 dX8_line_91
    · have hv := hv.2.2.2.2.1 hc
      refine lv_tableIn (off := 75) (tgt := 92) hx hb dX8_line_17 (by rw [hto, hc]; decide) (by rw [hto, hc]; decide) (by rw [hto, hc]; decide) (by decide) ?_
      refine lv_aload_n hx hb dX8_line_92 rfl (lv_at hl 0 rfl) ?_
      refine va_get (D := D) (ci := 6) (v := .ref ya_isClosed) (C := RX8) (T := TX8) (N := 33) hx hb hts (fun w h => List.mem_cons_of_mem _ (List.mem_append_right _ h)) hown hK hP 0 rfl rfl 12 (by decide) (hts (.fieldLink RX8 41 "ContourSheetsModel" "isClosed" "[Z") (by decide +kernel)) (fun _ h9 => h9) rfl dX8_line_93 ?_
      refine lv_iload_n hx hb dX8_line_96 rfl (lv_at hl 1 rfl) ?_
      obtain ⟨hi7, hv⟩ := hv
      refine lx_zald hx hb hK hP 5 3 rfl rfl (by decide) hi7.1 hi7.2 dX8_line_97 ?_
      refine lx_if_eq (tgt := 110) hx hb dX8_line_98 (by decide) (z_in_g _ _) (fun hc => ?_) (fun hc => ?_)
      · have hv := hv.1 hc
        refine lv_iconst (v := z_i (-1)) hx hb dX8_line_110 rfl ?_
        exact W.iret (v := z_i (-1)) hx hb hr (fun t ht hW => ⟨⟨z_i (-1), (), rfl, ⟨-1, rfl, (show z_in (-1) from ⟨by decide, by decide⟩), hv⟩, trivial⟩, hS.F ht⟩) hS.2.2 dX8_line_111
      · have hv := hv.2 hc
        refine lv_aload_n hx hb dX8_line_101 rfl (lv_at hl 0 rfl) ?_
        refine va_get (D := D) (ci := 6) (v := .ref ya_insides) (C := RX8) (T := TX8) (N := 33) hx hb hts (fun w h => List.mem_cons_of_mem _ (List.mem_append_right _ h)) hown hK hP 0 rfl rfl 13 (by decide) (hts (.fieldLink RX8 44 "ContourSheetsModel" "insides" "[I") (by decide +kernel)) (fun _ h9 => h9) rfl dX8_line_102 ?_
        refine lv_iload_n hx hb dX8_line_105 rfl (lv_at hl 1 rfl) ?_
        refine lx_iald hx hb hK hP 6 1 rfl rfl (by decide) hi7.1 hi7.2 dX8_line_106 ?_
        refine lv_goto (tgt := 111) hx hb dX8_line_107 (by decide) ?_
        exact W.iret (v := z_i (z_g y_insides k)) hx hb hr (fun t ht hW => ⟨⟨z_i (z_g y_insides k), (), rfl, ⟨z_g y_insides k, rfl, (z_in_g _ _), hv⟩, trivial⟩, hS.F ht⟩) hS.2.2 dX8_line_111
    · have hv := hv.2.2.2.2.2.1 hc
      refine lv_tableIn (off := 95) (tgt := 112) hx hb dX8_line_17 (by rw [hto, hc]; decide) (by rw [hto, hc]; decide) (by rw [hto, hc]; decide) (by decide) ?_
      refine lv_aload_n hx hb dX8_line_112 rfl (lv_at hl 0 rfl) ?_
      refine va_get (D := D) (ci := 6) (v := .ref ya_isClosed) (C := RX8) (T := TX8) (N := 33) hx hb hts (fun w h => List.mem_cons_of_mem _ (List.mem_append_right _ h)) hown hK hP 0 rfl rfl 12 (by decide) (hts (.fieldLink RX8 41 "ContourSheetsModel" "isClosed" "[Z") (by decide +kernel)) (fun _ h9 => h9) rfl dX8_line_113 ?_
      refine lv_iload_n hx hb dX8_line_116 rfl (lv_at hl 1 rfl) ?_
      obtain ⟨hi8, hv⟩ := hv
      refine lx_zald hx hb hK hP 5 3 rfl rfl (by decide) hi8.1 hi8.2 dX8_line_117 ?_
      refine lx_if_ne (tgt := 125) hx hb dX8_line_118 (by decide) (z_in_g _ _) (fun hc => ?_) (fun hc => ?_)
      · have hv := hv.1 hc
        refine lv_aload_n hx hb dX8_line_125 rfl (lv_at hl 0 rfl) ?_
        refine va_get (D := D) (ci := 6) (v := .ref ya_isHigh) (C := RX8) (T := TX8) (N := 33) hx hb hts (fun w h => List.mem_cons_of_mem _ (List.mem_append_right _ h)) hown hK hP 0 rfl rfl 15 (by decide) (hts (.fieldLink RX8 50 "ContourSheetsModel" "isHigh" "[Z") (by decide +kernel)) (fun _ h9 => h9) rfl dX8_line_126 ?_
        refine lv_iload_n hx hb dX8_line_129 rfl (lv_at hl 1 rfl) ?_
        refine lx_zald hx hb hK hP 8 3 rfl rfl (by decide) hi8.1 hi8.2 dX8_line_130 ?_
        refine lx_if_eq (tgt := 138) hx hb dX8_line_131 (by decide) (z_in_g _ _) (fun hc => ?_) (fun hc => ?_)
        · have hv := hv.1 hc
          refine lv_iconst (v := z_i 0) hx hb dX8_line_138 rfl ?_
          exact W.iret (v := z_i 0) hx hb hr (fun t ht hW => ⟨⟨z_i 0, (), rfl, ⟨0, rfl, (show z_in 0 from ⟨by decide, by decide⟩), hv⟩, trivial⟩, hS.F ht⟩) hS.2.2 dX8_line_139
        · have hv := hv.2 hc
          refine lv_iconst (v := z_i 1) hx hb dX8_line_134 rfl ?_
          refine lv_goto (tgt := 139) hx hb dX8_line_135 (by decide) ?_
          exact W.iret (v := z_i 1) hx hb hr (fun t ht hW => ⟨⟨z_i 1, (), rfl, ⟨1, rfl, (show z_in 1 from ⟨by decide, by decide⟩), hv⟩, trivial⟩, hS.F ht⟩) hS.2.2 dX8_line_139
      · have hv := hv.2 hc
        refine lv_iconst (v := z_i (-1)) hx hb dX8_line_121 rfl ?_
        refine lv_goto (tgt := 139) hx hb dX8_line_122 (by decide) ?_
        exact W.iret (v := z_i (-1)) hx hb hr (fun t ht hW => ⟨⟨z_i (-1), (), rfl, ⟨-1, rfl, (show z_in (-1) from ⟨by decide, by decide⟩), hv⟩, trivial⟩, hS.F ht⟩) hS.2.2 dX8_line_139
    · have hv := hv.2.2.2.2.2.2 hc
      refine lv_tableOut (tgt := 140) hx hb dX8_line_17 (by rw [hto]; exact hc) (by decide) ?_
      refine lv_iconst (v := z_i (-1)) hx hb dX8_line_140 rfl ?_
      exact W.iret (v := z_i (-1)) hx hb hr (fun t ht hW => ⟨⟨z_i (-1), (), rfl, ⟨-1, rfl, (show z_in (-1) from ⟨by decide, by decide⟩), hv⟩, trivial⟩, hS.F ht⟩) hS.2.2 dX8_line_141
  · have hv := hv.2 hc
    refine lv_iconst (v := z_i (-1)) hx hb dX8_line_14 rfl ?_
    exact W.iret (v := z_i (-1)) hx hb hr (fun t ht hW => ⟨⟨z_i (-1), (), rfl, ⟨-1, rfl, (show z_in (-1) from ⟨by decide, by decide⟩), hv⟩, trivial⟩, hS.F ht⟩) hS.2.2 dX8_line_15
set_option maxHeartbeats 4000000 in
set_option maxRecDepth 100000 in
theorem mt_X8_line (l : Launch) (D : va_G) (cA : Nat → ClassId) (y : Nat) (y_space : Nat) (y_offset : Nat) (y_length : Nat) (y_units : Nat) (y_isThere : Nat) (y_levels : Int) (y_level : Nat) (y_lines : Int) (ya_lineLevel : Nat) (y_lineLevel : Nat → Int32) (ya_lineUnits : Nat) (y_lineUnits : Nat → Int32) (ya_lineFrom : Nat) (y_lineFrom : Nat → Int32) (ya_lineMany : Nat) (y_lineMany : Nat → Int32) (ya_isClosed : Nat) (y_isClosed : Nat → Int32) (ya_insides : Nat) (y_insides : Nat → Int32) (ya_parent : Nat) (y_parent : Nat → Int32) (ya_isHigh : Nat) (y_isHigh : Nat → Int32) (ya_inBits : Nat) (y_inBits : Nat → Int64) (y_sides : Int) (ya_side : Nat) (y_side : Nat → Int32) (ya_sideA : Nat) (y_sideA : Nat → Int32) (ya_sideB : Nat) (y_sideB : Nat → Int32) (y_lineSpace : Int) (y_wasThere : Nat) (y_leads : Nat) (y_isLed : Nat) (y_isOn : Nat) (y_goesTo : Nat) (y_stream : Nat) (y_filled : Nat) (y_isDone : Nat) (y_isReached : Nat) (y_newUnits : Nat) (y_isNew : Nat) (k : Int) (what : Int) (h_y_levels : z_in y_levels) (h_y_lines : z_in y_lines) (h_y_sides : z_in y_sides) (h_y_lineSpace : z_in y_lineSpace) (h_k : z_in k) (h_what : z_in what) (ls : List d_L) (T : Int → Bool) (U : Int → Int) (hs : Nat → Int32) (hp1 : m_I ls T U hs y_lineLevel y_lineUnits y_lineFrom y_lineMany y_isClosed y_insides y_parent y_isHigh y_inBits y_side y_sideA y_sideB y_lines) : Met l yX8_line wsX8_line ({ frames := 1, cells := 0, slots := 0, locals := 22 } : Room) (va_Pc [.ref y, .int (z_i k), .int (z_i what)] (z_B0 D cA [(y, .inr (6, [.ref y_space, .ref y_offset, .ref y_length, .ref y_units, .ref y_isThere, .int (z_i y_levels), .ref y_level, .int (z_i y_lines), .ref ya_lineLevel, .ref ya_lineUnits, .ref ya_lineFrom, .ref ya_lineMany, .ref ya_isClosed, .ref ya_insides, .ref ya_parent, .ref ya_isHigh, .ref ya_inBits, .int (z_i y_sides), .ref ya_side, .ref ya_sideA, .ref ya_sideB, .int (z_i y_lineSpace), .ref y_wasThere, .ref y_leads, .ref y_isLed, .ref y_isOn, .ref y_goesTo, .ref y_stream, .ref y_filled, .ref y_isDone, .ref y_isReached, .ref y_newUnits, .ref y_isNew])), (ya_lineLevel, .inl (cA 1, 400, .inl y_lineLevel)), (ya_lineUnits, .inl (cA 1, 400, .inl y_lineUnits)), (ya_lineFrom, .inl (cA 1, 400, .inl y_lineFrom)), (ya_lineMany, .inl (cA 1, 400, .inl y_lineMany)), (ya_isClosed, .inl (cA 3, 400, .inl y_isClosed)), (ya_insides, .inl (cA 1, 400, .inl y_insides)), (ya_parent, .inl (cA 1, 400, .inl y_parent)), (ya_isHigh, .inl (cA 3, 400, .inl y_isHigh)), (ya_inBits, .inl (cA 2, 8000, .inr (.inl y_inBits))), (ya_side, .inl (cA 1, 8000, .inl y_side)), (ya_sideA, .inl (cA 1, 8000, .inl y_sideA)), (ya_sideB, .inl (cA 1, 8000, .inl y_sideB))])) (va_Qi (z_ri (fun (r : Int) => r = l_line T U hs ls k what)) (fun _ _ => True) (fun _ => False)) 0 0 (fun _ => False) := by
  refine wk_X8_line l D cA y y_space y_offset y_length y_units y_isThere y_levels y_level y_lines ya_lineLevel y_lineLevel ya_lineUnits y_lineUnits ya_lineFrom y_lineFrom ya_lineMany y_lineMany ya_isClosed y_isClosed ya_insides y_insides ya_parent y_parent ya_isHigh y_isHigh ya_inBits y_inBits y_sides ya_side y_side ya_sideA y_sideA ya_sideB y_sideB y_lineSpace y_wasThere y_leads y_isLed y_isOn y_goesTo y_stream y_filled y_isDone y_isReached y_newUnits y_isNew k what h_y_levels h_y_lines h_y_sides h_y_lineSpace h_k h_what (fun (r : Int) => r = l_line T U hs ls k what) ?_
  unfold vc_X8_line
  have hn : (ls.length : Int) ≤ 400 := by have := hp1.2.1.1; omega
  obtain ⟨m1, m2, m3, m4, m5, m6⟩ := hp1
  
  refine ⟨⟨by omega, by omega⟩, ?_⟩
  rintro r2 _ rfl
  refine ⟨fun q => ?_, fun q => ?_⟩
  · have q := of_decide_eq_true (zb_t q)
    obtain ⟨k, rfl⟩ := Int.eq_ofNat_of_zero_le q.1
    have hk : k < ls.length := by omega
    obtain ⟨l, hl⟩ : ∃ l, ls[k]? = some l := ⟨_, List.getElem?_eq_getElem hk⟩
    have hh : ¬ l_has ls (k : Int) = false := by
      unfold l_has; rw [decide_eq_true (⟨by omega, by omega⟩ : 0 ≤ (k : Int) ∧ (k : Int) < (ls.length : Int))]; decide
    have hat := l_at_n hl
    obtain ⟨d1, d2, d3, d4, d5⟩ := m2.2.2 k l hl
    obtain ⟨f1, f2, f3⟩ := m6 k l hl
    obtain ⟨g1, g2, g3⟩ := m4 k l hk hl
    have h01 := (m3 l (List.mem_of_getElem? hl)).2.1
    have kr : (0 : Int) ≤ k ∧ (k : Int) < 400 := ⟨by omega, by omega⟩
    refine ⟨?_, ?_, ?_, ?_, ?_, ?_, ?_⟩
    · rintro rfl
      refine ⟨kr, ?_⟩
      unfold l_line; rw [if_neg hh, if_pos (show (0 : Int) = 0 from rfl)]; rw [hat]; exact f1
    · rintro rfl
      refine ⟨kr, ?_⟩
      unfold l_line; rw [if_neg hh, if_neg (show ¬ (1 : Int) = 0 by decide), if_pos (show (1 : Int) = 1 from rfl)]; rw [hat]; exact d3
    · rintro rfl
      refine ⟨kr, fun h => ?_, fun h => ?_⟩
      · unfold l_line; rw [if_neg hh, if_neg (show ¬ (2 : Int) = 0 by decide), if_neg (show ¬ (2 : Int) = 1 by decide), if_pos (show (2 : Int) = 2 from rfl)]; rw [hat, decide_eq_false (by omega)]; rfl
      · unfold l_line; rw [if_neg hh, if_neg (show ¬ (2 : Int) = 0 by decide), if_neg (show ¬ (2 : Int) = 1 by decide), if_pos (show (2 : Int) = 2 from rfl)]; rw [hat, decide_eq_true (by omega)]; rfl
    · rintro rfl
      refine ⟨kr, ?_⟩
      unfold l_line; rw [if_neg hh, if_neg (show ¬ (3 : Int) = 0 by decide), if_neg (show ¬ (3 : Int) = 1 by decide), if_neg (show ¬ (3 : Int) = 2 by decide), if_pos (show (3 : Int) = 3 from rfl)]; rw [hat]; exact f2
    · rintro rfl
      refine ⟨kr, fun h => ?_, fun h => ?_⟩
      · unfold l_line; rw [if_neg hh, if_neg (show ¬ (4 : Int) = 0 by decide), if_neg (show ¬ (4 : Int) = 1 by decide), if_neg (show ¬ (4 : Int) = 2 by decide), if_neg (show ¬ (4 : Int) = 3 by decide), if_pos (show (4 : Int) = 4 from rfl)]; rw [hat, if_neg (by omega)]
      · have h1 : l.2.1 = 1 := by omega
        unfold l_line; rw [if_neg hh, if_neg (show ¬ (4 : Int) = 0 by decide), if_neg (show ¬ (4 : Int) = 1 by decide), if_neg (show ¬ (4 : Int) = 2 by decide), if_neg (show ¬ (4 : Int) = 3 by decide), if_pos (show (4 : Int) = 4 from rfl)]; rw [hat, if_pos h1]
        rw [if_pos h1] at g1; exact g1
    · rintro rfl
      refine ⟨kr, fun h => ?_, fun h => ?_⟩
      · have h1 : l.2.1 = 1 := by omega
        rw [decide_eq_true h1, Bool.true_and] at g2
        rw [g2]
        refine ⟨fun h2 => ?_, fun h2 => ?_⟩
        · unfold l_line; rw [if_neg hh, if_neg (show ¬ (5 : Int) = 0 by decide), if_neg (show ¬ (5 : Int) = 1 by decide), if_neg (show ¬ (5 : Int) = 2 by decide), if_neg (show ¬ (5 : Int) = 3 by decide), if_neg (show ¬ (5 : Int) = 4 by decide), if_pos (show (5 : Int) = 5 from rfl)]; rw [hat, if_pos h1, h2]
        · unfold l_line; rw [if_neg hh, if_neg (show ¬ (5 : Int) = 0 by decide), if_neg (show ¬ (5 : Int) = 1 by decide), if_neg (show ¬ (5 : Int) = 2 by decide), if_neg (show ¬ (5 : Int) = 3 by decide), if_neg (show ¬ (5 : Int) = 4 by decide), if_pos (show (5 : Int) = 5 from rfl)]; rw [hat, if_pos h1, zb_t h2]; rfl
      · unfold l_line; rw [if_neg hh, if_neg (show ¬ (5 : Int) = 0 by decide), if_neg (show ¬ (5 : Int) = 1 by decide), if_neg (show ¬ (5 : Int) = 2 by decide), if_neg (show ¬ (5 : Int) = 3 by decide), if_neg (show ¬ (5 : Int) = 4 by decide), if_pos (show (5 : Int) = 5 from rfl)]; rw [hat, if_neg (by omega)]
    · intro h
      unfold l_line
      rw [if_neg hh, if_neg (by omega), if_neg (by omega), if_neg (by omega), if_neg (by omega), if_neg (by omega), if_neg (by omega)]
  · have q := of_decide_eq_false (zb_f q)
    unfold l_line
    rw [if_pos]
    unfold l_has
    exact decide_eq_false (by omega)
def vc_X8_side (y_lines : Int) (y_lineFrom : Nat → Int32) (y_lineMany : Nat → Int32) (y_side : Nat → Int32) (k : Int) (i : Int) (Q : Int → Prop) : Prop :=
z_in (y_lines - 1) ∧ (∀ (r2 : Int), z_in r2 → (r2 = z_b (decide ((0 : Int) ≤ k ∧ k ≤ (y_lines - 1)))) → ((r2 = 0 → Q (-1)) ∧
(r2 ≠ 0 → (0 ≤ k ∧ k < 400) ∧ z_in ((z_g y_lineMany k) - 1) ∧ (∀ (r5 : Int), z_in r5 → (r5 = z_b (decide ((0 : Int) ≤ i ∧ i ≤ ((z_g y_lineMany k) - 1)))) → ((r5 = 0 → Q (-1)) ∧
(r5 ≠ 0 → (0 ≤ (z_g y_lineFrom k) + i ∧ (z_g y_lineFrom k) + i < 8000) ∧ Q (z_g y_side ((z_g y_lineFrom k) + i))))))))
set_option maxHeartbeats 4000000 in
set_option maxRecDepth 100000 in
theorem wk_X8_side (l : Launch) (D : va_G) (cA : Nat → ClassId) (y : Nat) (y_space : Nat) (y_offset : Nat) (y_length : Nat) (y_units : Nat) (y_isThere : Nat) (y_levels : Int) (y_level : Nat) (y_lines : Int) (ya_lineLevel : Nat) (y_lineLevel : Nat → Int32) (ya_lineUnits : Nat) (y_lineUnits : Nat → Int32) (ya_lineFrom : Nat) (y_lineFrom : Nat → Int32) (ya_lineMany : Nat) (y_lineMany : Nat → Int32) (ya_isClosed : Nat) (y_isClosed : Nat → Int32) (ya_insides : Nat) (y_insides : Nat → Int32) (ya_parent : Nat) (y_parent : Nat → Int32) (ya_isHigh : Nat) (y_isHigh : Nat → Int32) (ya_inBits : Nat) (y_inBits : Nat → Int64) (y_sides : Int) (ya_side : Nat) (y_side : Nat → Int32) (ya_sideA : Nat) (y_sideA : Nat → Int32) (ya_sideB : Nat) (y_sideB : Nat → Int32) (y_lineSpace : Int) (y_wasThere : Nat) (y_leads : Nat) (y_isLed : Nat) (y_isOn : Nat) (y_goesTo : Nat) (y_stream : Nat) (y_filled : Nat) (y_isDone : Nat) (y_isReached : Nat) (y_newUnits : Nat) (y_isNew : Nat) (k : Int) (i : Int) (h_y_levels : z_in y_levels) (h_y_lines : z_in y_lines) (h_y_sides : z_in y_sides) (h_y_lineSpace : z_in y_lineSpace) (h_k : z_in k) (h_i : z_in i) (Q : Int → Prop) (hv : vc_X8_side y_lines y_lineFrom y_lineMany y_side k i Q) : Met l yX8_side wsX8_side ({ frames := 1, cells := 0, slots := 0, locals := 22 } : Room) (va_Pc [.ref y, .int (z_i k), .int (z_i i)] (z_B0 D cA [(y, .inr (6, [.ref y_space, .ref y_offset, .ref y_length, .ref y_units, .ref y_isThere, .int (z_i y_levels), .ref y_level, .int (z_i y_lines), .ref ya_lineLevel, .ref ya_lineUnits, .ref ya_lineFrom, .ref ya_lineMany, .ref ya_isClosed, .ref ya_insides, .ref ya_parent, .ref ya_isHigh, .ref ya_inBits, .int (z_i y_sides), .ref ya_side, .ref ya_sideA, .ref ya_sideB, .int (z_i y_lineSpace), .ref y_wasThere, .ref y_leads, .ref y_isLed, .ref y_isOn, .ref y_goesTo, .ref y_stream, .ref y_filled, .ref y_isDone, .ref y_isReached, .ref y_newUnits, .ref y_isNew])), (ya_lineLevel, .inl (cA 1, 400, .inl y_lineLevel)), (ya_lineUnits, .inl (cA 1, 400, .inl y_lineUnits)), (ya_lineFrom, .inl (cA 1, 400, .inl y_lineFrom)), (ya_lineMany, .inl (cA 1, 400, .inl y_lineMany)), (ya_isClosed, .inl (cA 3, 400, .inl y_isClosed)), (ya_insides, .inl (cA 1, 400, .inl y_insides)), (ya_parent, .inl (cA 1, 400, .inl y_parent)), (ya_isHigh, .inl (cA 3, 400, .inl y_isHigh)), (ya_inBits, .inl (cA 2, 8000, .inr (.inl y_inBits))), (ya_side, .inl (cA 1, 8000, .inl y_side)), (ya_sideA, .inl (cA 1, 8000, .inl y_sideA)), (ya_sideB, .inl (cA 1, 8000, .inl y_sideB))])) (va_Qi (z_ri Q) (fun _ _ => True) (fun _ => False)) 0 0 (fun _ => False) := by
  unfold vc_X8_side at hv
  refine Met.ofW (cc := cX8_side) (maxL := 3) (ret := (some .int)) (by decide +kernel) rfl ?_
  intro p e s m args below meth c s₁ B hml hv0
  obtain ⟨rfl, hK, hP⟩ := hv0
  have hx := B.exec
  have hb := B.bytes
  have hr := B.returns
  have hts := atoms_spec (ws := wsX8_side) B.pre
  have hown : s.vm.findClass RX8 = some m.cls := findClass_of_methodNamed B.named
  have hlocks := B.notSynchronized
  have hS : va_S (fun _ : Nat => False) s.heap s.heap [] := va_S.rf
  have hl := lv_entry ([.ref y, .int (z_i k), .int (z_i i)]) (n := 3) (Nat.le_of_ble_eq_true rfl)
  rw [lg_entry_eq]
  generalize (lg_sl ([.ref y, .int (z_i k), .int (z_i i)]) ++ List.replicate (3 - (lg_sl ([.ref y, .int (z_i k), .int (z_i i)])).length) Slot.unset).toArray = ls at hl ⊢
  have hl : lv_has ls 3 [(0, .ref y), (1, .int (z_i k)), (2, .int (z_i i))] := hl
  refine lv_iload_n hx hb dX8_side_0 rfl (lv_at hl 1 rfl) ?_
  refine lv_iconst (v := z_i 0) hx hb dX8_side_1 rfl ?_
  refine lv_aload_n hx hb dX8_side_2 rfl (lv_at hl 0 rfl) ?_
  refine va_get (D := D) (ci := 6) (v := .int (z_i y_lines)) (C := RX8) (T := TX8) (N := 33) hx hb hts (fun w h => List.mem_cons_of_mem _ (List.mem_append_right _ h)) hown hK hP 0 rfl rfl 7 (by decide) (hts (.fieldLink RX8 156 "ContourSheetsModel" "lines" "I") (by decide +kernel)) (fun _ h9 => h9) rfl dX8_side_3 ?_
  refine lv_iconst (v := z_i 1) hx hb dX8_side_6 rfl ?_
  refine lx_isub hx hb dX8_side_7 ?_
  obtain ⟨hr1, hv⟩ := hv
  refine va_calli (va_runS (As := [.int (z_i k), .int (z_i 0), .int (z_i (y_lines - 1))]) (rest := []) ⟨hx, hb, hml, hown, hts⟩ (mt_X8_in l D cA k 0 (y_lines - 1) h_k (show z_in 0 from ⟨by decide, by decide⟩) hr1) (va_cwS 3 hts gX8_side_X8_in rfl rfl rfl (by decide +kernel) ⟨Nat.le_of_ble_eq_true rfl, Nat.le_of_ble_eq_true rfl⟩) ⟨z_bl0, fun U hU hW => ⟨rfl, z_b0 hK (hP.sub (ws' := []) [] rfl) hU hW⟩⟩ rfl rfl hl.1 rfl (lv_room (Nat.le_of_ble_eq_true rfl)) dX8_side_8 ⟨Nat.zero_le _, Nat.zero_le _⟩) hS (fun q _ h => h.elim) (fun q h => h.elim) (fun r0 u t H locs ht hvm hw hB hz1 hk1 hS => ?_)
  obtain ⟨r2, rfl, h_r2, hw⟩ := hw
  have hP := z_P_all hP hk1
  have hv := hv r2 h_r2 hw
  refine lx_if_eq (tgt := 46) hx hb dX8_side_11 (by decide) h_r2 (fun hc => ?_) (fun hc => ?_)
  · have hv := hv.1 hc
    refine lv_iconst (v := z_i (-1)) hx hb dX8_side_46 rfl ?_
    exact W.iret (v := z_i (-1)) hx hb hr (fun t ht hW => ⟨⟨z_i (-1), (), rfl, ⟨-1, rfl, (show z_in (-1) from ⟨by decide, by decide⟩), hv⟩, trivial⟩, hS.F ht⟩) hS.2.2 dX8_side_47
  · have hv := hv.2 hc
    refine lv_iload_n hx hb dX8_side_14 rfl (lv_at hl 2 rfl) ?_
    refine lv_iconst (v := z_i 0) hx hb dX8_side_15 rfl ?_
    refine lv_aload_n hx hb dX8_side_16 rfl (lv_at hl 0 rfl) ?_
    refine va_get (D := D) (ci := 6) (v := .ref ya_lineMany) (C := RX8) (T := TX8) (N := 33) hx hb hts (fun w h => List.mem_cons_of_mem _ (List.mem_append_right _ h)) hown hK hP 0 rfl rfl 11 (by decide) (hts (.fieldLink RX8 38 "ContourSheetsModel" "lineMany" "[I") (by decide +kernel)) (fun _ h9 => h9) rfl dX8_side_17 ?_
    refine lv_iload_n hx hb dX8_side_20 rfl (lv_at hl 1 rfl) ?_
    obtain ⟨hi3, hv⟩ := hv
    refine lx_iald hx hb hK hP 4 1 rfl rfl (by decide) hi3.1 hi3.2 dX8_side_21 ?_
    refine lv_iconst (v := z_i 1) hx hb dX8_side_22 rfl ?_
    refine lx_isub hx hb dX8_side_23 ?_
    obtain ⟨hr4, hv⟩ := hv
    refine va_calli (va_runS (As := [.int (z_i i), .int (z_i 0), .int (z_i ((z_g y_lineMany k) - 1))]) (rest := []) ⟨hx, hb, hml, hown, hts⟩ (mt_X8_in l D cA i 0 ((z_g y_lineMany k) - 1) h_i (show z_in 0 from ⟨by decide, by decide⟩) hr4) (va_cwS 3 hts gX8_side_X8_in rfl rfl rfl (by decide +kernel) ⟨Nat.le_of_ble_eq_true rfl, Nat.le_of_ble_eq_true rfl⟩) ⟨z_bl0, fun U hU hW => ⟨rfl, z_b0 hK (hP.sub (ws' := []) [] rfl) hU hW⟩⟩ rfl rfl hl.1 rfl (lv_room (Nat.le_of_ble_eq_true rfl)) dX8_side_24 ⟨Nat.zero_le _, Nat.zero_le _⟩) hS (fun q _ h => h.elim) (fun q h => h.elim) (fun r0 u t H locs ht hvm hw hB hz1 hk1 hS => ?_)
    obtain ⟨r5, rfl, h_r5, hw⟩ := hw
    have hP := z_P_all hP hk1
    have hv := hv r5 h_r5 hw
    refine lx_if_eq (tgt := 46) hx hb dX8_side_27 (by decide) h_r5 (fun hc => ?_) (fun hc => ?_)
    · have hv := hv.1 hc
      refine lv_iconst (v := z_i (-1)) hx hb dX8_side_46 rfl ?_
      exact W.iret (v := z_i (-1)) hx hb hr (fun t ht hW => ⟨⟨z_i (-1), (), rfl, ⟨-1, rfl, (show z_in (-1) from ⟨by decide, by decide⟩), hv⟩, trivial⟩, hS.F ht⟩) hS.2.2 dX8_side_47
    · have hv := hv.2 hc
      refine lv_aload_n hx hb dX8_side_30 rfl (lv_at hl 0 rfl) ?_
      refine va_get (D := D) (ci := 6) (v := .ref ya_side) (C := RX8) (T := TX8) (N := 33) hx hb hts (fun w h => List.mem_cons_of_mem _ (List.mem_append_right _ h)) hown hK hP 0 rfl rfl 18 (by decide) (hts (.fieldLink RX8 57 "ContourSheetsModel" "side" "[I") (by decide +kernel)) (fun _ h9 => h9) rfl dX8_side_31 ?_
      refine lv_aload_n hx hb dX8_side_34 rfl (lv_at hl 0 rfl) ?_
      refine va_get (D := D) (ci := 6) (v := .ref ya_lineFrom) (C := RX8) (T := TX8) (N := 33) hx hb hts (fun w h => List.mem_cons_of_mem _ (List.mem_append_right _ h)) hown hK hP 0 rfl rfl 10 (by decide) (hts (.fieldLink RX8 35 "ContourSheetsModel" "lineFrom" "[I") (by decide +kernel)) (fun _ h9 => h9) rfl dX8_side_35 ?_
      refine lv_iload_n hx hb dX8_side_38 rfl (lv_at hl 1 rfl) ?_
      refine lx_iald hx hb hK hP 3 1 rfl rfl (by decide) hi3.1 hi3.2 dX8_side_39 ?_
      refine lv_iload_n hx hb dX8_side_40 rfl (lv_at hl 2 rfl) ?_
      refine lx_iadd hx hb dX8_side_41 ?_
      obtain ⟨hi6, hv⟩ := hv
      refine lx_iald hx hb hK hP 10 1 rfl rfl (by decide) hi6.1 hi6.2 dX8_side_42 ?_
      refine lv_goto (tgt := 47) hx hb dX8_side_43 (by decide) ?_
      exact W.iret (v := z_i (z_g y_side ((z_g y_lineFrom k) + i))) hx hb hr (fun t ht hW => ⟨⟨z_i (z_g y_side ((z_g y_lineFrom k) + i)), (), rfl, ⟨z_g y_side ((z_g y_lineFrom k) + i), rfl, (z_in_g _ _), hv⟩, trivial⟩, hS.F ht⟩) hS.2.2 dX8_side_47
set_option maxHeartbeats 4000000 in
set_option maxRecDepth 100000 in
theorem mt_X8_side (l : Launch) (D : va_G) (cA : Nat → ClassId) (y : Nat) (y_space : Nat) (y_offset : Nat) (y_length : Nat) (y_units : Nat) (y_isThere : Nat) (y_levels : Int) (y_level : Nat) (y_lines : Int) (ya_lineLevel : Nat) (y_lineLevel : Nat → Int32) (ya_lineUnits : Nat) (y_lineUnits : Nat → Int32) (ya_lineFrom : Nat) (y_lineFrom : Nat → Int32) (ya_lineMany : Nat) (y_lineMany : Nat → Int32) (ya_isClosed : Nat) (y_isClosed : Nat → Int32) (ya_insides : Nat) (y_insides : Nat → Int32) (ya_parent : Nat) (y_parent : Nat → Int32) (ya_isHigh : Nat) (y_isHigh : Nat → Int32) (ya_inBits : Nat) (y_inBits : Nat → Int64) (y_sides : Int) (ya_side : Nat) (y_side : Nat → Int32) (ya_sideA : Nat) (y_sideA : Nat → Int32) (ya_sideB : Nat) (y_sideB : Nat → Int32) (y_lineSpace : Int) (y_wasThere : Nat) (y_leads : Nat) (y_isLed : Nat) (y_isOn : Nat) (y_goesTo : Nat) (y_stream : Nat) (y_filled : Nat) (y_isDone : Nat) (y_isReached : Nat) (y_newUnits : Nat) (y_isNew : Nat) (k : Int) (i : Int) (h_y_levels : z_in y_levels) (h_y_lines : z_in y_lines) (h_y_sides : z_in y_sides) (h_y_lineSpace : z_in y_lineSpace) (h_k : z_in k) (h_i : z_in i) (ls : List d_L) (T : Int → Bool) (U : Int → Int) (hs : Nat → Int32) (hp1 : m_I ls T U hs y_lineLevel y_lineUnits y_lineFrom y_lineMany y_isClosed y_insides y_parent y_isHigh y_inBits y_side y_sideA y_sideB y_lines) : Met l yX8_side wsX8_side ({ frames := 1, cells := 0, slots := 0, locals := 22 } : Room) (va_Pc [.ref y, .int (z_i k), .int (z_i i)] (z_B0 D cA [(y, .inr (6, [.ref y_space, .ref y_offset, .ref y_length, .ref y_units, .ref y_isThere, .int (z_i y_levels), .ref y_level, .int (z_i y_lines), .ref ya_lineLevel, .ref ya_lineUnits, .ref ya_lineFrom, .ref ya_lineMany, .ref ya_isClosed, .ref ya_insides, .ref ya_parent, .ref ya_isHigh, .ref ya_inBits, .int (z_i y_sides), .ref ya_side, .ref ya_sideA, .ref ya_sideB, .int (z_i y_lineSpace), .ref y_wasThere, .ref y_leads, .ref y_isLed, .ref y_isOn, .ref y_goesTo, .ref y_stream, .ref y_filled, .ref y_isDone, .ref y_isReached, .ref y_newUnits, .ref y_isNew])), (ya_lineLevel, .inl (cA 1, 400, .inl y_lineLevel)), (ya_lineUnits, .inl (cA 1, 400, .inl y_lineUnits)), (ya_lineFrom, .inl (cA 1, 400, .inl y_lineFrom)), (ya_lineMany, .inl (cA 1, 400, .inl y_lineMany)), (ya_isClosed, .inl (cA 3, 400, .inl y_isClosed)), (ya_insides, .inl (cA 1, 400, .inl y_insides)), (ya_parent, .inl (cA 1, 400, .inl y_parent)), (ya_isHigh, .inl (cA 3, 400, .inl y_isHigh)), (ya_inBits, .inl (cA 2, 8000, .inr (.inl y_inBits))), (ya_side, .inl (cA 1, 8000, .inl y_side)), (ya_sideA, .inl (cA 1, 8000, .inl y_sideA)), (ya_sideB, .inl (cA 1, 8000, .inl y_sideB))])) (va_Qi (z_ri (fun (r : Int) => r = l_sd ls k i)) (fun _ _ => True) (fun _ => False)) 0 0 (fun _ => False) := by
  refine wk_X8_side l D cA y y_space y_offset y_length y_units y_isThere y_levels y_level y_lines ya_lineLevel y_lineLevel ya_lineUnits y_lineUnits ya_lineFrom y_lineFrom ya_lineMany y_lineMany ya_isClosed y_isClosed ya_insides y_insides ya_parent y_parent ya_isHigh y_isHigh ya_inBits y_inBits y_sides ya_side y_side ya_sideA y_sideA ya_sideB y_sideB y_lineSpace y_wasThere y_leads y_isLed y_isOn y_goesTo y_stream y_filled y_isDone y_isReached y_newUnits y_isNew k i h_y_levels h_y_lines h_y_sides h_y_lineSpace h_k h_i (fun (r : Int) => r = l_sd ls k i) ?_
  unfold vc_X8_side
  have hn : (ls.length : Int) ≤ 400 := by have := hp1.2.1.1; omega
  obtain ⟨m1, m2, m3, m4, m5, m6⟩ := hp1
  
  refine ⟨⟨by omega, by omega⟩, ?_⟩
  rintro r2 _ rfl
  refine ⟨fun q => by have q := of_decide_eq_false (zb_f q); exact (l_sd_out (by omega)).symm, fun q => ?_⟩
  have q := of_decide_eq_true (zb_t q)
  obtain ⟨k, rfl⟩ := Int.eq_ofNat_of_zero_le q.1
  have hk : k < ls.length := by omega
  obtain ⟨l, hl⟩ : ∃ l, ls[k]? = some l := ⟨_, List.getElem?_eq_getElem hk⟩
  have hat := l_at_n hl
  obtain ⟨d1, d2, d3, d4, d5⟩ := m2.2.2 k l hl
  have hlen : l.2.2.length ≤ 8000 ∧ d_tot (ls.take k) + l.2.2.length ≤ 8000 := by
    have h1 := d_tot_take_add hl
    have h2 := d_tot_take_le ls (k + 1)
    have h3 := m2.2.1
    omega
  rw [d3]
  refine ⟨⟨by omega, by omega⟩, ⟨by omega, by omega⟩, ?_⟩
  rintro r5 _ rfl
  
  refine ⟨fun q2 => ?_, fun q2 => ?_⟩
  · have q2 := of_decide_eq_false (zb_f q2)
    unfold l_sd
    rw [hat]
    by_cases h : 0 ≤ i
    · rw [if_pos h, List.getElem?_eq_none (by omega)]; rfl
    · rw [if_neg h]
  · have q2 := of_decide_eq_true (zb_t q2)
    obtain ⟨i, rfl⟩ := Int.eq_ofNat_of_zero_le q2.1
    obtain ⟨s, hs⟩ : ∃ s, l.2.2[i]? = some s := ⟨_, List.getElem?_eq_getElem (show i < l.2.2.length by omega)⟩
    rw [d2]
    refine ⟨⟨by omega, by omega⟩, ?_⟩
    rw [l_sd_n hl hs]
    exact (d5 i s hs).1
def vc_X8_inside (y_lines : Int) (y_isClosed : Nat → Int32) (y_inBits : Nat → Int64) (k : Int) (i : Int) (j : Int) (Q : Int → Prop) : Prop :=
z_in (y_lines - 1) ∧ (∀ (r2 : Int), z_in r2 → (r2 = z_b (decide ((0 : Int) ≤ k ∧ k ≤ (y_lines - 1)))) → ((r2 = 0 → Q (-1)) ∧
(r2 ≠ 0 → (0 ≤ k ∧ k < 400) ∧ ((z_g y_isClosed k = 0 → Q (-1)) ∧
(z_g y_isClosed k ≠ 0 → (∀ (r4 : Int), z_in r4 → (r4 = z_b (decide ((0 : Int) ≤ i ∧ i ≤ (31 : Int)))) → ((r4 = 0 → Q (-1)) ∧
(r4 ≠ 0 → (∀ (r5 : Int), z_in r5 → (r5 = z_b (decide ((0 : Int) ≤ j ∧ j ≤ (39 : Int)))) → ((r5 ≠ 0 → z_in ((40 * i) + j) ∧ (0 ≤ k ∧ k < 400) ∧ (0 ≤ ((40 * i) + j) ∧ ((40 * i) + j) < 1280) ∧ (∀ (r9 : Int), z_in r9 → (r9 = z_b (i_bt y_inBits (20 * k.toNat + ((40 * i) + j).toNat / 64) (((40 * i) + j).toNat % 64))) → ((r9 = 0 → Q 0) ∧
(r9 ≠ 0 → Q 1)))) ∧
(r5 = 0 → Q (-1))))))))))))
set_option maxHeartbeats 4000000 in
set_option maxRecDepth 100000 in
theorem wk_X8_inside (l : Launch) (D : va_G) (cA : Nat → ClassId) (y : Nat) (y_space : Nat) (y_offset : Nat) (y_length : Nat) (y_units : Nat) (y_isThere : Nat) (y_levels : Int) (y_level : Nat) (y_lines : Int) (ya_lineLevel : Nat) (y_lineLevel : Nat → Int32) (ya_lineUnits : Nat) (y_lineUnits : Nat → Int32) (ya_lineFrom : Nat) (y_lineFrom : Nat → Int32) (ya_lineMany : Nat) (y_lineMany : Nat → Int32) (ya_isClosed : Nat) (y_isClosed : Nat → Int32) (ya_insides : Nat) (y_insides : Nat → Int32) (ya_parent : Nat) (y_parent : Nat → Int32) (ya_isHigh : Nat) (y_isHigh : Nat → Int32) (ya_inBits : Nat) (y_inBits : Nat → Int64) (y_sides : Int) (ya_side : Nat) (y_side : Nat → Int32) (ya_sideA : Nat) (y_sideA : Nat → Int32) (ya_sideB : Nat) (y_sideB : Nat → Int32) (y_lineSpace : Int) (y_wasThere : Nat) (y_leads : Nat) (y_isLed : Nat) (y_isOn : Nat) (y_goesTo : Nat) (y_stream : Nat) (y_filled : Nat) (y_isDone : Nat) (y_isReached : Nat) (y_newUnits : Nat) (y_isNew : Nat) (k : Int) (i : Int) (j : Int) (h_y_levels : z_in y_levels) (h_y_lines : z_in y_lines) (h_y_sides : z_in y_sides) (h_y_lineSpace : z_in y_lineSpace) (h_k : z_in k) (h_i : z_in i) (h_j : z_in j) (Q : Int → Prop) (hv : vc_X8_inside y_lines y_isClosed y_inBits k i j Q) : Met l yX8_inside wsX8_inside ({ frames := 1, cells := 0, slots := 0, locals := 22 } : Room) (va_Pc [.ref y, .int (z_i k), .int (z_i i), .int (z_i j)] (z_B0 D cA [(y, .inr (6, [.ref y_space, .ref y_offset, .ref y_length, .ref y_units, .ref y_isThere, .int (z_i y_levels), .ref y_level, .int (z_i y_lines), .ref ya_lineLevel, .ref ya_lineUnits, .ref ya_lineFrom, .ref ya_lineMany, .ref ya_isClosed, .ref ya_insides, .ref ya_parent, .ref ya_isHigh, .ref ya_inBits, .int (z_i y_sides), .ref ya_side, .ref ya_sideA, .ref ya_sideB, .int (z_i y_lineSpace), .ref y_wasThere, .ref y_leads, .ref y_isLed, .ref y_isOn, .ref y_goesTo, .ref y_stream, .ref y_filled, .ref y_isDone, .ref y_isReached, .ref y_newUnits, .ref y_isNew])), (ya_lineLevel, .inl (cA 1, 400, .inl y_lineLevel)), (ya_lineUnits, .inl (cA 1, 400, .inl y_lineUnits)), (ya_lineFrom, .inl (cA 1, 400, .inl y_lineFrom)), (ya_lineMany, .inl (cA 1, 400, .inl y_lineMany)), (ya_isClosed, .inl (cA 3, 400, .inl y_isClosed)), (ya_insides, .inl (cA 1, 400, .inl y_insides)), (ya_parent, .inl (cA 1, 400, .inl y_parent)), (ya_isHigh, .inl (cA 3, 400, .inl y_isHigh)), (ya_inBits, .inl (cA 2, 8000, .inr (.inl y_inBits))), (ya_side, .inl (cA 1, 8000, .inl y_side)), (ya_sideA, .inl (cA 1, 8000, .inl y_sideA)), (ya_sideB, .inl (cA 1, 8000, .inl y_sideB))])) (va_Qi (z_ri Q) (fun _ _ => True) (fun _ => False)) 0 0 (fun _ => False) := by
  unfold vc_X8_inside at hv
  refine Met.ofW (cc := cX8_inside) (maxL := 4) (ret := (some .int)) (by decide +kernel) rfl ?_
  intro p e s m args below meth c s₁ B hml hv0
  obtain ⟨rfl, hK, hP⟩ := hv0
  have hx := B.exec
  have hb := B.bytes
  have hr := B.returns
  have hts := atoms_spec (ws := wsX8_inside) B.pre
  have hown : s.vm.findClass RX8 = some m.cls := findClass_of_methodNamed B.named
  have hlocks := B.notSynchronized
  have hS : va_S (fun _ : Nat => False) s.heap s.heap [] := va_S.rf
  have hl := lv_entry ([.ref y, .int (z_i k), .int (z_i i), .int (z_i j)]) (n := 4) (Nat.le_of_ble_eq_true rfl)
  rw [lg_entry_eq]
  generalize (lg_sl ([.ref y, .int (z_i k), .int (z_i i), .int (z_i j)]) ++ List.replicate (4 - (lg_sl ([.ref y, .int (z_i k), .int (z_i i), .int (z_i j)])).length) Slot.unset).toArray = ls at hl ⊢
  have hl : lv_has ls 4 [(0, .ref y), (1, .int (z_i k)), (2, .int (z_i i)), (3, .int (z_i j))] := hl
  refine lv_iload_n hx hb dX8_inside_0 rfl (lv_at hl 1 rfl) ?_
  refine lv_iconst (v := z_i 0) hx hb dX8_inside_1 rfl ?_
  refine lv_aload_n hx hb dX8_inside_2 rfl (lv_at hl 0 rfl) ?_
  refine va_get (D := D) (ci := 6) (v := .int (z_i y_lines)) (C := RX8) (T := TX8) (N := 33) hx hb hts (fun w h => List.mem_cons_of_mem _ (List.mem_append_right _ h)) hown hK hP 0 rfl rfl 7 (by decide) (hts (.fieldLink RX8 156 "ContourSheetsModel" "lines" "I") (by decide +kernel)) (fun _ h9 => h9) rfl dX8_inside_3 ?_
  refine lv_iconst (v := z_i 1) hx hb dX8_inside_6 rfl ?_
  refine lx_isub hx hb dX8_inside_7 ?_
  obtain ⟨hr1, hv⟩ := hv
  refine va_calli (va_runS (As := [.int (z_i k), .int (z_i 0), .int (z_i (y_lines - 1))]) (rest := []) ⟨hx, hb, hml, hown, hts⟩ (mt_X8_in l D cA k 0 (y_lines - 1) h_k (show z_in 0 from ⟨by decide, by decide⟩) hr1) (va_cwS 3 hts gX8_inside_X8_in rfl rfl rfl (by decide +kernel) ⟨Nat.le_of_ble_eq_true rfl, Nat.le_of_ble_eq_true rfl⟩) ⟨z_bl0, fun U hU hW => ⟨rfl, z_b0 hK (hP.sub (ws' := []) [] rfl) hU hW⟩⟩ rfl rfl hl.1 rfl (lv_room (Nat.le_of_ble_eq_true rfl)) dX8_inside_8 ⟨Nat.zero_le _, Nat.zero_le _⟩) hS (fun q _ h => h.elim) (fun q h => h.elim) (fun r0 u t H locs ht hvm hw hB hz1 hk1 hS => ?_)
  obtain ⟨r2, rfl, h_r2, hw⟩ := hw
  have hP := z_P_all hP hk1
  have hv := hv r2 h_r2 hw
  refine lx_if_eq (tgt := 43) hx hb dX8_inside_11 (by decide) h_r2 (fun hc => ?_) (fun hc => ?_)
  · have hv := hv.1 hc
    refine lv_iconst (v := z_i (-1)) hx hb dX8_inside_43 rfl ?_
    exact W.iret (v := z_i (-1)) hx hb hr (fun t ht hW => ⟨⟨z_i (-1), (), rfl, ⟨-1, rfl, (show z_in (-1) from ⟨by decide, by decide⟩), hv⟩, trivial⟩, hS.F ht⟩) hS.2.2 dX8_inside_44
  · have hv := hv.2 hc
    refine lv_aload_n hx hb dX8_inside_14 rfl (lv_at hl 0 rfl) ?_
    refine va_get (D := D) (ci := 6) (v := .ref ya_isClosed) (C := RX8) (T := TX8) (N := 33) hx hb hts (fun w h => List.mem_cons_of_mem _ (List.mem_append_right _ h)) hown hK hP 0 rfl rfl 12 (by decide) (hts (.fieldLink RX8 41 "ContourSheetsModel" "isClosed" "[Z") (by decide +kernel)) (fun _ h9 => h9) rfl dX8_inside_15 ?_
    refine lv_iload_n hx hb dX8_inside_18 rfl (lv_at hl 1 rfl) ?_
    obtain ⟨hi3, hv⟩ := hv
    refine lx_zald hx hb hK hP 5 3 rfl rfl (by decide) hi3.1 hi3.2 dX8_inside_19 ?_
    refine lx_if_eq (tgt := 43) hx hb dX8_inside_20 (by decide) (z_in_g _ _) (fun hc => ?_) (fun hc => ?_)
    · have hv := hv.1 hc
      refine lv_iconst (v := z_i (-1)) hx hb dX8_inside_43 rfl ?_
      exact W.iret (v := z_i (-1)) hx hb hr (fun t ht hW => ⟨⟨z_i (-1), (), rfl, ⟨-1, rfl, (show z_in (-1) from ⟨by decide, by decide⟩), hv⟩, trivial⟩, hS.F ht⟩) hS.2.2 dX8_inside_44
    · have hv := hv.2 hc
      refine lv_iload_n hx hb dX8_inside_23 rfl (lv_at hl 2 rfl) ?_
      refine lv_iconst (v := z_i 0) hx hb dX8_inside_24 rfl ?_
      refine lv_bipush (v := z_i 31) hx hb dX8_inside_25 (by decide) ?_
      refine va_calli (va_runS (As := [.int (z_i i), .int (z_i 0), .int (z_i 31)]) (rest := []) ⟨hx, hb, hml, hown, hts⟩ (mt_X8_in l D cA i 0 31 h_i (show z_in 0 from ⟨by decide, by decide⟩) (show z_in 31 from ⟨by decide, by decide⟩)) (va_cwS 3 hts gX8_inside_X8_in rfl rfl rfl (by decide +kernel) ⟨Nat.le_of_ble_eq_true rfl, Nat.le_of_ble_eq_true rfl⟩) ⟨z_bl0, fun U hU hW => ⟨rfl, z_b0 hK (hP.sub (ws' := []) [] rfl) hU hW⟩⟩ rfl rfl hl.1 rfl (lv_room (Nat.le_of_ble_eq_true rfl)) dX8_inside_27 ⟨Nat.zero_le _, Nat.zero_le _⟩) hS (fun q _ h => h.elim) (fun q h => h.elim) (fun r0 u t H locs ht hvm hw hB hz1 hk1 hS => ?_)
      obtain ⟨r4, rfl, h_r4, hw⟩ := hw
      have hP := z_P_all hP hk1
      have hv := hv r4 h_r4 hw
      refine lx_if_eq (tgt := 43) hx hb dX8_inside_30 (by decide) h_r4 (fun hc => ?_) (fun hc => ?_)
      · have hv := hv.1 hc
        refine lv_iconst (v := z_i (-1)) hx hb dX8_inside_43 rfl ?_
        exact W.iret (v := z_i (-1)) hx hb hr (fun t ht hW => ⟨⟨z_i (-1), (), rfl, ⟨-1, rfl, (show z_in (-1) from ⟨by decide, by decide⟩), hv⟩, trivial⟩, hS.F ht⟩) hS.2.2 dX8_inside_44
      · have hv := hv.2 hc
        refine lv_iload_n hx hb dX8_inside_33 rfl (lv_at hl 3 rfl) ?_
        refine lv_iconst (v := z_i 0) hx hb dX8_inside_34 rfl ?_
        refine lv_bipush (v := z_i 39) hx hb dX8_inside_35 (by decide) ?_
        refine va_calli (va_runS (As := [.int (z_i j), .int (z_i 0), .int (z_i 39)]) (rest := []) ⟨hx, hb, hml, hown, hts⟩ (mt_X8_in l D cA j 0 39 h_j (show z_in 0 from ⟨by decide, by decide⟩) (show z_in 39 from ⟨by decide, by decide⟩)) (va_cwS 3 hts gX8_inside_X8_in rfl rfl rfl (by decide +kernel) ⟨Nat.le_of_ble_eq_true rfl, Nat.le_of_ble_eq_true rfl⟩) ⟨z_bl0, fun U hU hW => ⟨rfl, z_b0 hK (hP.sub (ws' := []) [] rfl) hU hW⟩⟩ rfl rfl hl.1 rfl (lv_room (Nat.le_of_ble_eq_true rfl)) dX8_inside_37 ⟨Nat.zero_le _, Nat.zero_le _⟩) hS (fun q _ h => h.elim) (fun q h => h.elim) (fun r0 u t H locs ht hvm hw hB hz1 hk1 hS => ?_)
        obtain ⟨r5, rfl, h_r5, hw⟩ := hw
        have hP := z_P_all hP hk1
        have hv := hv r5 h_r5 hw
        refine lx_if_ne (tgt := 45) hx hb dX8_inside_40 (by decide) h_r5 (fun hc => ?_) (fun hc => ?_)
        · have hv := hv.1 hc
          refine lv_aload_n hx hb dX8_inside_45 rfl (lv_at hl 0 rfl) ?_
          refine lv_iload_n hx hb dX8_inside_46 rfl (lv_at hl 1 rfl) ?_
          refine lv_bipush (v := z_i 40) hx hb dX8_inside_47 (by decide) ?_
          refine lv_iload_n hx hb dX8_inside_49 rfl (lv_at hl 2 rfl) ?_
          refine lx_imul hx hb dX8_inside_50 ?_
          refine lv_iload_n hx hb dX8_inside_51 rfl (lv_at hl 3 rfl) ?_
          refine lx_iadd hx hb dX8_inside_52 ?_
          obtain ⟨hr6, hv⟩ := hv
          obtain ⟨hp7, hv⟩ := hv
          obtain ⟨hp8, hv⟩ := hv
          refine va_calli (va_runV (As := [.int (z_i k), .int (z_i ((40 * i) + j))]) (rest := []) ⟨hx, hb, hml, hown, hts⟩ (mt_X8_isIn l D cA y y_space y_offset y_length y_units y_isThere y_levels y_level y_lines ya_lineLevel ya_lineUnits ya_lineFrom ya_lineMany ya_isClosed ya_insides ya_parent ya_isHigh ya_inBits y_inBits y_sides ya_side ya_sideA ya_sideB y_lineSpace y_wasThere y_leads y_isLed y_isOn y_goesTo y_stream y_filled y_isDone y_isReached y_newUnits y_isNew k ((40 * i) + j) h_y_levels h_y_lines h_y_sides h_y_lineSpace h_k hr6 hp7 hp8) (cwV 2 hts gX8_inside_X8_isIn rfl rfl rfl (by decide +kernel) ⟨Nat.le_of_ble_eq_true rfl, Nat.le_of_ble_eq_true rfl⟩) ⟨z_bl0, va_recv hK hP (ci := 6) (q0 := 0) rfl rfl, fun U hU hW => ⟨rfl, z_b0 hK (hP.sub (ws' := [(y, .inr (6, [.ref y_space, .ref y_offset, .ref y_length, .ref y_units, .ref y_isThere, .int (z_i y_levels), .ref y_level, .int (z_i y_lines), .ref ya_lineLevel, .ref ya_lineUnits, .ref ya_lineFrom, .ref ya_lineMany, .ref ya_isClosed, .ref ya_insides, .ref ya_parent, .ref ya_isHigh, .ref ya_inBits, .int (z_i y_sides), .ref ya_side, .ref ya_sideA, .ref ya_sideB, .int (z_i y_lineSpace), .ref y_wasThere, .ref y_leads, .ref y_isLed, .ref y_isOn, .ref y_goesTo, .ref y_stream, .ref y_filled, .ref y_isDone, .ref y_isReached, .ref y_newUnits, .ref y_isNew])), (ya_inBits, .inl (cA 2, 8000, .inr (.inl y_inBits)))]) [0, 9] rfl) hU hW⟩⟩ rfl rfl hl.1 rfl (lv_room (Nat.le_of_ble_eq_true rfl)) dX8_inside_53 ⟨Nat.zero_le _, Nat.zero_le _⟩) hS (fun q _ h => h.elim) (fun q h => h.elim) (fun r0 u t H locs ht hvm hw hB hz1 hk1 hS => ?_)
          obtain ⟨r9, rfl, h_r9, hw⟩ := hw
          have hP := z_P_all hP hk1
          have hv := hv r9 h_r9 hw
          refine lx_if_eq (tgt := 63) hx hb dX8_inside_56 (by decide) h_r9 (fun hc => ?_) (fun hc => ?_)
          · have hv := hv.1 hc
            refine lv_iconst (v := z_i 0) hx hb dX8_inside_63 rfl ?_
            exact W.iret (v := z_i 0) hx hb hr (fun t ht hW => ⟨⟨z_i 0, (), rfl, ⟨0, rfl, (show z_in 0 from ⟨by decide, by decide⟩), hv⟩, trivial⟩, hS.F ht⟩) hS.2.2 dX8_inside_64
          · have hv := hv.2 hc
            refine lv_iconst (v := z_i 1) hx hb dX8_inside_59 rfl ?_
            refine lv_goto (tgt := 64) hx hb dX8_inside_60 (by decide) ?_
            exact W.iret (v := z_i 1) hx hb hr (fun t ht hW => ⟨⟨z_i 1, (), rfl, ⟨1, rfl, (show z_in 1 from ⟨by decide, by decide⟩), hv⟩, trivial⟩, hS.F ht⟩) hS.2.2 dX8_inside_64
        · have hv := hv.2 hc
          refine lv_iconst (v := z_i (-1)) hx hb dX8_inside_43 rfl ?_
          exact W.iret (v := z_i (-1)) hx hb hr (fun t ht hW => ⟨⟨z_i (-1), (), rfl, ⟨-1, rfl, (show z_in (-1) from ⟨by decide, by decide⟩), hv⟩, trivial⟩, hS.F ht⟩) hS.2.2 dX8_inside_44
set_option maxHeartbeats 4000000 in
set_option maxRecDepth 100000 in
theorem mt_X8_inside (l : Launch) (D : va_G) (cA : Nat → ClassId) (y : Nat) (y_space : Nat) (y_offset : Nat) (y_length : Nat) (y_units : Nat) (y_isThere : Nat) (y_levels : Int) (y_level : Nat) (y_lines : Int) (ya_lineLevel : Nat) (y_lineLevel : Nat → Int32) (ya_lineUnits : Nat) (y_lineUnits : Nat → Int32) (ya_lineFrom : Nat) (y_lineFrom : Nat → Int32) (ya_lineMany : Nat) (y_lineMany : Nat → Int32) (ya_isClosed : Nat) (y_isClosed : Nat → Int32) (ya_insides : Nat) (y_insides : Nat → Int32) (ya_parent : Nat) (y_parent : Nat → Int32) (ya_isHigh : Nat) (y_isHigh : Nat → Int32) (ya_inBits : Nat) (y_inBits : Nat → Int64) (y_sides : Int) (ya_side : Nat) (y_side : Nat → Int32) (ya_sideA : Nat) (y_sideA : Nat → Int32) (ya_sideB : Nat) (y_sideB : Nat → Int32) (y_lineSpace : Int) (y_wasThere : Nat) (y_leads : Nat) (y_isLed : Nat) (y_isOn : Nat) (y_goesTo : Nat) (y_stream : Nat) (y_filled : Nat) (y_isDone : Nat) (y_isReached : Nat) (y_newUnits : Nat) (y_isNew : Nat) (k : Int) (i : Int) (j : Int) (h_y_levels : z_in y_levels) (h_y_lines : z_in y_lines) (h_y_sides : z_in y_sides) (h_y_lineSpace : z_in y_lineSpace) (h_k : z_in k) (h_i : z_in i) (h_j : z_in j) (ls : List d_L) (T : Int → Bool) (U : Int → Int) (hs : Nat → Int32) (hp1 : m_I ls T U hs y_lineLevel y_lineUnits y_lineFrom y_lineMany y_isClosed y_insides y_parent y_isHigh y_inBits y_side y_sideA y_sideB y_lines) : Met l yX8_inside wsX8_inside ({ frames := 1, cells := 0, slots := 0, locals := 22 } : Room) (va_Pc [.ref y, .int (z_i k), .int (z_i i), .int (z_i j)] (z_B0 D cA [(y, .inr (6, [.ref y_space, .ref y_offset, .ref y_length, .ref y_units, .ref y_isThere, .int (z_i y_levels), .ref y_level, .int (z_i y_lines), .ref ya_lineLevel, .ref ya_lineUnits, .ref ya_lineFrom, .ref ya_lineMany, .ref ya_isClosed, .ref ya_insides, .ref ya_parent, .ref ya_isHigh, .ref ya_inBits, .int (z_i y_sides), .ref ya_side, .ref ya_sideA, .ref ya_sideB, .int (z_i y_lineSpace), .ref y_wasThere, .ref y_leads, .ref y_isLed, .ref y_isOn, .ref y_goesTo, .ref y_stream, .ref y_filled, .ref y_isDone, .ref y_isReached, .ref y_newUnits, .ref y_isNew])), (ya_lineLevel, .inl (cA 1, 400, .inl y_lineLevel)), (ya_lineUnits, .inl (cA 1, 400, .inl y_lineUnits)), (ya_lineFrom, .inl (cA 1, 400, .inl y_lineFrom)), (ya_lineMany, .inl (cA 1, 400, .inl y_lineMany)), (ya_isClosed, .inl (cA 3, 400, .inl y_isClosed)), (ya_insides, .inl (cA 1, 400, .inl y_insides)), (ya_parent, .inl (cA 1, 400, .inl y_parent)), (ya_isHigh, .inl (cA 3, 400, .inl y_isHigh)), (ya_inBits, .inl (cA 2, 8000, .inr (.inl y_inBits))), (ya_side, .inl (cA 1, 8000, .inl y_side)), (ya_sideA, .inl (cA 1, 8000, .inl y_sideA)), (ya_sideB, .inl (cA 1, 8000, .inl y_sideB))])) (va_Qi (z_ri (fun (r : Int) => r = (if (l_at ls k).2.1 = 1 ∧ 0 ≤ i ∧ i < 32 ∧ 0 ≤ j ∧ j < 40 then z_b (a_in T (l_at ls k).2.2 (40 * i + j)) else -1))) (fun _ _ => True) (fun _ => False)) 0 0 (fun _ => False) := by
  refine wk_X8_inside l D cA y y_space y_offset y_length y_units y_isThere y_levels y_level y_lines ya_lineLevel y_lineLevel ya_lineUnits y_lineUnits ya_lineFrom y_lineFrom ya_lineMany y_lineMany ya_isClosed y_isClosed ya_insides y_insides ya_parent y_parent ya_isHigh y_isHigh ya_inBits y_inBits y_sides ya_side y_side ya_sideA y_sideA ya_sideB y_sideB y_lineSpace y_wasThere y_leads y_isLed y_isOn y_goesTo y_stream y_filled y_isDone y_isReached y_newUnits y_isNew k i j h_y_levels h_y_lines h_y_sides h_y_lineSpace h_k h_i h_j (fun (r : Int) => r = (if (l_at ls k).2.1 = 1 ∧ 0 ≤ i ∧ i < 32 ∧ 0 ≤ j ∧ j < 40 then z_b (a_in T (l_at ls k).2.2 (40 * i + j)) else -1)) ?_
  unfold vc_X8_inside
  have hn : (ls.length : Int) ≤ 400 := by have := hp1.2.1.1; omega
  obtain ⟨m1, m2, m3, m4, m5, m6⟩ := hp1
  
  refine ⟨⟨by omega, by omega⟩, ?_⟩
  rintro r2 _ rfl
  refine ⟨fun q => ?_, fun q => ?_⟩
  · have q := of_decide_eq_false (zb_f q)
    rw [if_neg]
    rw [l_at_f (by omega)]
    exact fun h => absurd h.1 (by decide)
  have q := of_decide_eq_true (zb_t q)
  obtain ⟨k, rfl⟩ := Int.eq_ofNat_of_zero_le q.1
  have hk : k < ls.length := by omega
  obtain ⟨l, hl⟩ : ∃ l, ls[k]? = some l := ⟨_, List.getElem?_eq_getElem hk⟩
  have hat := l_at_n hl
  obtain ⟨d1, d2, d3, d4, d5⟩ := m2.2.2 k l hl
  obtain ⟨g1, g2, g3⟩ := m4 k l hk hl
  have h01 := (m3 l (List.mem_of_getElem? hl)).2.1
  rw [hat]
  refine ⟨⟨by omega, by omega⟩, fun h => ?_, fun h => ?_⟩
  · rw [if_neg (fun h2 => by omega)]
  · rintro r4 _ rfl
    refine ⟨fun q2 => ?_, fun q2 => ?_⟩
    · have q2 := of_decide_eq_false (zb_f q2)
      rw [if_neg (fun h2 => by omega)]
    · have q2 := of_decide_eq_true (zb_t q2)
      rintro r5 _ rfl
      refine ⟨fun q3 => ?_, fun q3 => ?_⟩
      · have q3 := of_decide_eq_true (zb_t q3)
        refine ⟨⟨by omega, by omega⟩, ⟨by omega, by omega⟩, ⟨by omega, by omega⟩, ?_⟩
        rintro r9 _ h9
        rw [Int.toNat_natCast, g3 _ (by omega), decide_eq_true (show l.2.1 = 1 by omega), Bool.true_and, show (((40 * i + j).toNat : Nat) : Int) = 40 * i + j by omega] at h9
        rw [if_pos ⟨by omega, by omega, by omega, by omega, by omega⟩]
        refine ⟨fun h0 => ?_, fun h0 => ?_⟩
        · rw [← h9, h0]
        · rw [h9] at h0
          rw [zb_t h0]; rfl
      · have q3 := of_decide_eq_false (zb_f q3)
        rw [if_neg (fun h2 => by omega)]
def vc_X8_place (y_lines : Int) (y_lineUnits : Nat → Int32) (y_lineFrom : Nat → Int32) (y_lineMany : Nat → Int32) (y_side : Nat → Int32) (y_sideA : Nat → Int32) (y_sideB : Nat → Int32) (y_lineSpace : Int) (k : Int) (i : Int) (ax : Int) (Q : Int → Prop) : Prop :=
z_in (y_lines - 1) ∧ (∀ (r2 : Int), z_in r2 → (r2 = z_b (decide ((0 : Int) ≤ k ∧ k ≤ (y_lines - 1)))) → ((r2 = 0 → Q 0) ∧
(r2 ≠ 0 → (0 ≤ k ∧ k < 400) ∧ z_in ((z_g y_lineMany k) - 1) ∧ (∀ (r5 : Int), z_in r5 → (r5 = z_b (decide ((0 : Int) ≤ i ∧ i ≤ ((z_g y_lineMany k) - 1)))) → ((r5 = 0 → Q 0) ∧
(r5 ≠ 0 → (∀ (r6 : Int), z_in r6 → (r6 = z_b (decide ((0 : Int) ≤ ax ∧ ax ≤ (1 : Int)))) → ((r6 ≠ 0 → z_in ((z_g y_lineFrom k) + i) ∧ (∀ v7 : Int, v7 = (z_g y_lineFrom k) + i → (0 ≤ v7 ∧ v7 < 8000) ∧ z_in ((z_g y_side v7).tdiv 2) ∧ (∀ v11 : Int, v11 = (z_g y_side v7).tdiv 2 → ((ax ≠ 0 → z_in (v11.tdiv 40) ∧ (∀ v15 : Int, v15 = v11.tdiv 40 → z_in ((z_g y_side v7).tmod 2) ∧ (((z_g y_side v7).tmod 2 = ax → z_nl ((z_g y_sideB v7) - (z_g y_sideA v7)) ∧ (∀ v18 : Int, v18 = (z_g y_sideB v7) - (z_g y_sideA v7) → z_nl (y_lineSpace * (((v15 * v18) + (z_g y_lineUnits k)) - (z_g y_sideA v7))) ∧ (∀ v21 : Int, v21 = y_lineSpace * (((v15 * v18) + (z_g y_lineUnits k)) - (z_g y_sideA v7)) → ((v21 ≠ 0 → (∀ w24 : UInt64, w24 = z_l2d v21 → (∀ w26 : UInt64, w26 = z_l2d v18 → vf_n64 (FP.ddiv w24 w26) ∧ (∀ w29 : UInt64, w29 = FP.ddiv w24 w26 → (z_dc w29 w29 .l = 0) ∧ (∀ (r32 : Int), z_nl r32 → (r32 = z_db w29) → Q r32))))) ∧
(v21 = 0 → Q 0))))) ∧
((z_g y_side v7).tmod 2 ≠ ax → (∀ w33 : UInt64, w33 = z_l2d (y_lineSpace * v15) → (z_dc w33 w33 .l = 0) ∧ (∀ (r36 : Int), z_nl r36 → (r36 = z_db w33) → Q r36)))))) ∧
(ax = 0 → z_in (v11.tmod 40) ∧ (∀ v38 : Int, v38 = v11.tmod 40 → z_in ((z_g y_side v7).tmod 2) ∧ (((z_g y_side v7).tmod 2 = ax → z_nl ((z_g y_sideB v7) - (z_g y_sideA v7)) ∧ (∀ v41 : Int, v41 = (z_g y_sideB v7) - (z_g y_sideA v7) → z_nl (y_lineSpace * (((v38 * v41) + (z_g y_lineUnits k)) - (z_g y_sideA v7))) ∧ (∀ v44 : Int, v44 = y_lineSpace * (((v38 * v41) + (z_g y_lineUnits k)) - (z_g y_sideA v7)) → ((v44 ≠ 0 → (∀ w47 : UInt64, w47 = z_l2d v44 → (∀ w49 : UInt64, w49 = z_l2d v41 → vf_n64 (FP.ddiv w47 w49) ∧ (∀ w52 : UInt64, w52 = FP.ddiv w47 w49 → (z_dc w52 w52 .l = 0) ∧ (∀ (r55 : Int), z_nl r55 → (r55 = z_db w52) → Q r55))))) ∧
(v44 = 0 → Q 0))))) ∧
((z_g y_side v7).tmod 2 ≠ ax → (∀ w56 : UInt64, w56 = z_l2d (y_lineSpace * v38) → (z_dc w56 w56 .l = 0) ∧ (∀ (r59 : Int), z_nl r59 → (r59 = z_db w56) → Q r59)))))))))) ∧
(r6 = 0 → Q 0)))))))))
set_option maxHeartbeats 4000000 in
set_option maxRecDepth 100000 in
theorem wk_X8_place (l : Launch) (D : va_G) (cA : Nat → ClassId) (y : Nat) (y_space : Nat) (y_offset : Nat) (y_length : Nat) (y_units : Nat) (y_isThere : Nat) (y_levels : Int) (y_level : Nat) (y_lines : Int) (ya_lineLevel : Nat) (y_lineLevel : Nat → Int32) (ya_lineUnits : Nat) (y_lineUnits : Nat → Int32) (ya_lineFrom : Nat) (y_lineFrom : Nat → Int32) (ya_lineMany : Nat) (y_lineMany : Nat → Int32) (ya_isClosed : Nat) (y_isClosed : Nat → Int32) (ya_insides : Nat) (y_insides : Nat → Int32) (ya_parent : Nat) (y_parent : Nat → Int32) (ya_isHigh : Nat) (y_isHigh : Nat → Int32) (ya_inBits : Nat) (y_inBits : Nat → Int64) (y_sides : Int) (ya_side : Nat) (y_side : Nat → Int32) (ya_sideA : Nat) (y_sideA : Nat → Int32) (ya_sideB : Nat) (y_sideB : Nat → Int32) (y_lineSpace : Int) (y_wasThere : Nat) (y_leads : Nat) (y_isLed : Nat) (y_isOn : Nat) (y_goesTo : Nat) (y_stream : Nat) (y_filled : Nat) (y_isDone : Nat) (y_isReached : Nat) (y_newUnits : Nat) (y_isNew : Nat) (k : Int) (i : Int) (ax : Int) (h_y_levels : z_in y_levels) (h_y_lines : z_in y_lines) (h_y_sides : z_in y_sides) (h_y_lineSpace : z_in y_lineSpace) (h_k : z_in k) (h_i : z_in i) (h_ax : z_in ax) (Q : Int → Prop) (hv : vc_X8_place y_lines y_lineUnits y_lineFrom y_lineMany y_side y_sideA y_sideB y_lineSpace k i ax Q) : Met l yX8_place wsX8_place ({ frames := 2, cells := 0, slots := 0, locals := 42 } : Room) (va_Pc [.ref y, .int (z_i k), .int (z_i i), .int (z_i ax)] (z_B0 D cA [(y, .inr (6, [.ref y_space, .ref y_offset, .ref y_length, .ref y_units, .ref y_isThere, .int (z_i y_levels), .ref y_level, .int (z_i y_lines), .ref ya_lineLevel, .ref ya_lineUnits, .ref ya_lineFrom, .ref ya_lineMany, .ref ya_isClosed, .ref ya_insides, .ref ya_parent, .ref ya_isHigh, .ref ya_inBits, .int (z_i y_sides), .ref ya_side, .ref ya_sideA, .ref ya_sideB, .int (z_i y_lineSpace), .ref y_wasThere, .ref y_leads, .ref y_isLed, .ref y_isOn, .ref y_goesTo, .ref y_stream, .ref y_filled, .ref y_isDone, .ref y_isReached, .ref y_newUnits, .ref y_isNew])), (ya_lineLevel, .inl (cA 1, 400, .inl y_lineLevel)), (ya_lineUnits, .inl (cA 1, 400, .inl y_lineUnits)), (ya_lineFrom, .inl (cA 1, 400, .inl y_lineFrom)), (ya_lineMany, .inl (cA 1, 400, .inl y_lineMany)), (ya_isClosed, .inl (cA 3, 400, .inl y_isClosed)), (ya_insides, .inl (cA 1, 400, .inl y_insides)), (ya_parent, .inl (cA 1, 400, .inl y_parent)), (ya_isHigh, .inl (cA 3, 400, .inl y_isHigh)), (ya_inBits, .inl (cA 2, 8000, .inr (.inl y_inBits))), (ya_side, .inl (cA 1, 8000, .inl y_side)), (ya_sideA, .inl (cA 1, 8000, .inl y_sideA)), (ya_sideB, .inl (cA 1, 8000, .inl y_sideB))])) (va_Ql (z_rl Q) (fun _ _ => True) (fun _ => False)) 0 0 (fun _ => False) := by
  unfold vc_X8_place at hv
  refine Met.ofW (cc := cX8_place) (maxL := 12) (ret := (some .long)) (by decide +kernel) rfl ?_
  intro p e s m args below meth c s₁ B hml hv0
  obtain ⟨rfl, hK, hP⟩ := hv0
  have hx := B.exec
  have hb := B.bytes
  have hr := B.returns
  have hts := atoms_spec (ws := wsX8_place) B.pre
  have hown : s.vm.findClass RX8 = some m.cls := findClass_of_methodNamed B.named
  have hlocks := B.notSynchronized
  have hS : va_S (fun _ : Nat => False) s.heap s.heap [] := va_S.rf
  have hl := lv_entry ([.ref y, .int (z_i k), .int (z_i i), .int (z_i ax)]) (n := 12) (Nat.le_of_ble_eq_true rfl)
  rw [lg_entry_eq]
  generalize (lg_sl ([.ref y, .int (z_i k), .int (z_i i), .int (z_i ax)]) ++ List.replicate (12 - (lg_sl ([.ref y, .int (z_i k), .int (z_i i), .int (z_i ax)])).length) Slot.unset).toArray = ls at hl ⊢
  have hl : lv_has ls 12 [(0, .ref y), (1, .int (z_i k)), (2, .int (z_i i)), (3, .int (z_i ax))] := hl
  refine lv_iload_n hx hb dX8_place_0 rfl (lv_at hl 1 rfl) ?_
  refine lv_iconst (v := z_i 0) hx hb dX8_place_1 rfl ?_
  refine lv_aload_n hx hb dX8_place_2 rfl (lv_at hl 0 rfl) ?_
  refine va_get (D := D) (ci := 6) (v := .int (z_i y_lines)) (C := RX8) (T := TX8) (N := 33) hx hb hts (fun w h => List.mem_cons_of_mem _ (List.mem_append_right _ h)) hown hK hP 0 rfl rfl 7 (by decide) (hts (.fieldLink RX8 156 "ContourSheetsModel" "lines" "I") (by decide +kernel)) (fun _ h9 => h9) rfl dX8_place_3 ?_
  refine lv_iconst (v := z_i 1) hx hb dX8_place_6 rfl ?_
  refine lx_isub hx hb dX8_place_7 ?_
  obtain ⟨hr1, hv⟩ := hv
  refine va_calli (va_runS (As := [.int (z_i k), .int (z_i 0), .int (z_i (y_lines - 1))]) (rest := []) ⟨hx, hb, hml, hown, hts⟩ (mt_X8_in l D cA k 0 (y_lines - 1) h_k (show z_in 0 from ⟨by decide, by decide⟩) hr1) (va_cwS 3 hts gX8_place_X8_in rfl rfl rfl (by decide +kernel) ⟨Nat.le_of_ble_eq_true rfl, Nat.le_of_ble_eq_true rfl⟩) ⟨z_bl0, fun U hU hW => ⟨rfl, z_b0 hK (hP.sub (ws' := []) [] rfl) hU hW⟩⟩ rfl rfl hl.1 rfl (lv_room (Nat.le_of_ble_eq_true rfl)) dX8_place_8 ⟨Nat.zero_le _, Nat.zero_le _⟩) hS (fun q _ h => h.elim) (fun q h => h.elim) (fun r0 u t H locs ht hvm hw hB hz1 hk1 hS => ?_)
  obtain ⟨r2, rfl, h_r2, hw⟩ := hw
  have hP := z_P_all hP hk1
  have hv := hv r2 h_r2 hw
  refine lx_if_eq (tgt := 39) hx hb dX8_place_11 (by decide) h_r2 (fun hc => ?_) (fun hc => ?_)
  · have hv := hv.1 hc
    refine lv_lconst (v := z_l 0) hx hb dX8_place_39 (by decide) ?_
    exact W.lret (v := z_l 0) hx hb hr (fun t ht hW => ⟨⟨z_l 0, (), rfl, ⟨0, rfl, (show z_nl 0 from ⟨by decide, by decide⟩), hv⟩, trivial⟩, hS.F ht⟩) hS.2.2 dX8_place_40
  · have hv := hv.2 hc
    refine lv_iload_n hx hb dX8_place_14 rfl (lv_at hl 2 rfl) ?_
    refine lv_iconst (v := z_i 0) hx hb dX8_place_15 rfl ?_
    refine lv_aload_n hx hb dX8_place_16 rfl (lv_at hl 0 rfl) ?_
    refine va_get (D := D) (ci := 6) (v := .ref ya_lineMany) (C := RX8) (T := TX8) (N := 33) hx hb hts (fun w h => List.mem_cons_of_mem _ (List.mem_append_right _ h)) hown hK hP 0 rfl rfl 11 (by decide) (hts (.fieldLink RX8 38 "ContourSheetsModel" "lineMany" "[I") (by decide +kernel)) (fun _ h9 => h9) rfl dX8_place_17 ?_
    refine lv_iload_n hx hb dX8_place_20 rfl (lv_at hl 1 rfl) ?_
    obtain ⟨hi3, hv⟩ := hv
    refine lx_iald hx hb hK hP 4 1 rfl rfl (by decide) hi3.1 hi3.2 dX8_place_21 ?_
    refine lv_iconst (v := z_i 1) hx hb dX8_place_22 rfl ?_
    refine lx_isub hx hb dX8_place_23 ?_
    obtain ⟨hr4, hv⟩ := hv
    refine va_calli (va_runS (As := [.int (z_i i), .int (z_i 0), .int (z_i ((z_g y_lineMany k) - 1))]) (rest := []) ⟨hx, hb, hml, hown, hts⟩ (mt_X8_in l D cA i 0 ((z_g y_lineMany k) - 1) h_i (show z_in 0 from ⟨by decide, by decide⟩) hr4) (va_cwS 3 hts gX8_place_X8_in rfl rfl rfl (by decide +kernel) ⟨Nat.le_of_ble_eq_true rfl, Nat.le_of_ble_eq_true rfl⟩) ⟨z_bl0, fun U hU hW => ⟨rfl, z_b0 hK (hP.sub (ws' := []) [] rfl) hU hW⟩⟩ rfl rfl hl.1 rfl (lv_room (Nat.le_of_ble_eq_true rfl)) dX8_place_24 ⟨Nat.zero_le _, Nat.zero_le _⟩) hS (fun q _ h => h.elim) (fun q h => h.elim) (fun r0 u t H locs ht hvm hw hB hz1 hk1 hS => ?_)
    obtain ⟨r5, rfl, h_r5, hw⟩ := hw
    have hP := z_P_all hP hk1
    have hv := hv r5 h_r5 hw
    refine lx_if_eq (tgt := 39) hx hb dX8_place_27 (by decide) h_r5 (fun hc => ?_) (fun hc => ?_)
    · have hv := hv.1 hc
      refine lv_lconst (v := z_l 0) hx hb dX8_place_39 (by decide) ?_
      exact W.lret (v := z_l 0) hx hb hr (fun t ht hW => ⟨⟨z_l 0, (), rfl, ⟨0, rfl, (show z_nl 0 from ⟨by decide, by decide⟩), hv⟩, trivial⟩, hS.F ht⟩) hS.2.2 dX8_place_40
    · have hv := hv.2 hc
      refine lv_iload_n hx hb dX8_place_30 rfl (lv_at hl 3 rfl) ?_
      refine lv_iconst (v := z_i 0) hx hb dX8_place_31 rfl ?_
      refine lv_iconst (v := z_i 1) hx hb dX8_place_32 rfl ?_
      refine va_calli (va_runS (As := [.int (z_i ax), .int (z_i 0), .int (z_i 1)]) (rest := []) ⟨hx, hb, hml, hown, hts⟩ (mt_X8_in l D cA ax 0 1 h_ax (show z_in 0 from ⟨by decide, by decide⟩) (show z_in 1 from ⟨by decide, by decide⟩)) (va_cwS 3 hts gX8_place_X8_in rfl rfl rfl (by decide +kernel) ⟨Nat.le_of_ble_eq_true rfl, Nat.le_of_ble_eq_true rfl⟩) ⟨z_bl0, fun U hU hW => ⟨rfl, z_b0 hK (hP.sub (ws' := []) [] rfl) hU hW⟩⟩ rfl rfl hl.1 rfl (lv_room (Nat.le_of_ble_eq_true rfl)) dX8_place_33 ⟨Nat.zero_le _, Nat.zero_le _⟩) hS (fun q _ h => h.elim) (fun q h => h.elim) (fun r0 u t H locs ht hvm hw hB hz1 hk1 hS => ?_)
      obtain ⟨r6, rfl, h_r6, hw⟩ := hw
      have hP := z_P_all hP hk1
      have hv := hv r6 h_r6 hw
      refine lx_if_ne (tgt := 41) hx hb dX8_place_36 (by decide) h_r6 (fun hc => ?_) (fun hc => ?_)
      · have hv := hv.1 hc
        refine lv_aload_n hx hb dX8_place_41 rfl (lv_at hl 0 rfl) ?_
        refine va_get (D := D) (ci := 6) (v := .ref ya_lineFrom) (C := RX8) (T := TX8) (N := 33) hx hb hts (fun w h => List.mem_cons_of_mem _ (List.mem_append_right _ h)) hown hK hP 0 rfl rfl 10 (by decide) (hts (.fieldLink RX8 35 "ContourSheetsModel" "lineFrom" "[I") (by decide +kernel)) (fun _ h9 => h9) rfl dX8_place_42 ?_
        refine lv_iload_n hx hb dX8_place_45 rfl (lv_at hl 1 rfl) ?_
        refine lx_iald hx hb hK hP 3 1 rfl rfl (by decide) hi3.1 hi3.2 dX8_place_46 ?_
        refine lv_iload_n hx hb dX8_place_47 rfl (lv_at hl 2 rfl) ?_
        refine lx_iadd hx hb dX8_place_48 ?_
        obtain ⟨hr8, hv⟩ := hv
        refine lx_topi (fun v7 hy9 => ?_)
        have hv := hv v7 hy9
        have h_v7 : z_in v7 := by rw [hy9]; exact hr8
        refine lv_istore (lv' := [(4, .int (z_i v7)), (0, .ref y), (1, .int (z_i k)), (2, .int (z_i i)), (3, .int (z_i ax))]) hx hb dX8_place_49 hl (by decide) rfl (fun ls hl => ?_)
        refine lv_aload_n hx hb dX8_place_51 rfl (lv_at hl 1 rfl) ?_
        refine va_get (D := D) (ci := 6) (v := .ref ya_side) (C := RX8) (T := TX8) (N := 33) hx hb hts (fun w h => List.mem_cons_of_mem _ (List.mem_append_right _ h)) hown hK hP 0 rfl rfl 18 (by decide) (hts (.fieldLink RX8 57 "ContourSheetsModel" "side" "[I") (by decide +kernel)) (fun _ h9 => h9) rfl dX8_place_52 ?_
        refine lv_iload hx hb dX8_place_55 (lv_at hl 0 rfl) ?_
        obtain ⟨hi10, hv⟩ := hv
        refine lx_iald hx hb hK hP 10 1 rfl rfl (by decide) hi10.1 hi10.2 dX8_place_57 ?_
        refine lv_iconst (v := z_i 2) hx hb dX8_place_58 rfl ?_
        refine lx_idiv hx hb dX8_place_59 (z_in_g _ _) (show z_in 2 from ⟨by decide, by decide⟩) (by decide) ?_
        obtain ⟨hr12, hv⟩ := hv
        refine lx_topi (fun v11 hy13 => ?_)
        have hv := hv v11 hy13
        have h_v11 : z_in v11 := by rw [hy13]; exact hr12
        refine lv_istore (lv' := [(5, .int (z_i v11)), (4, .int (z_i v7)), (0, .ref y), (1, .int (z_i k)), (2, .int (z_i i)), (3, .int (z_i ax))]) hx hb dX8_place_60 hl (by decide) rfl (fun ls hl => ?_)
        refine lv_iload_n hx hb dX8_place_62 rfl (lv_at hl 5 rfl) ?_
        refine lx_if_ne (tgt := 75) hx hb dX8_place_63 (by decide) h_ax (fun hc => ?_) (fun hc => ?_)
        · have hv := hv.1 hc
          refine lv_iload hx hb dX8_place_75 (lv_at hl 0 rfl) ?_
          refine lv_bipush (v := z_i 40) hx hb dX8_place_77 (by decide) ?_
          refine lx_idiv hx hb dX8_place_79 h_v11 (show z_in 40 from ⟨by decide, by decide⟩) (by decide) ?_
          obtain ⟨hr14, hv⟩ := hv
          refine lx_i2l hx hb dX8_place_80 hr14 ?_
          refine lx_topl (fun v15 hy16 => ?_)
          have hv := hv v15 hy16
          have h_v15 : z_nl v15 := by rw [hy16]; exact (z_in_nl hr14)
          refine lv_lstore (lv' := [(6, .long (z_l v15)), (5, .int (z_i v11)), (4, .int (z_i v7)), (0, .ref y), (1, .int (z_i k)), (2, .int (z_i i)), (3, .int (z_i ax))]) hx hb dX8_place_81 hl (by decide) rfl (fun ls hl => ?_)
          refine lv_aload_n hx hb dX8_place_83 rfl (lv_at hl 3 rfl) ?_
          refine va_get (D := D) (ci := 6) (v := .ref ya_side) (C := RX8) (T := TX8) (N := 33) hx hb hts (fun w h => List.mem_cons_of_mem _ (List.mem_append_right _ h)) hown hK hP 0 rfl rfl 18 (by decide) (hts (.fieldLink RX8 57 "ContourSheetsModel" "side" "[I") (by decide +kernel)) (fun _ h9 => h9) rfl dX8_place_84 ?_
          refine lv_iload hx hb dX8_place_87 (lv_at hl 2 rfl) ?_
          refine lx_iald hx hb hK hP 10 1 rfl rfl (by decide) hi10.1 hi10.2 dX8_place_89 ?_
          refine lv_iconst (v := z_i 2) hx hb dX8_place_90 rfl ?_
          refine lx_irem hx hb dX8_place_91 (z_in_g _ _) (show z_in 2 from ⟨by decide, by decide⟩) (by decide) ?_
          refine lv_iload_n hx hb dX8_place_92 rfl (lv_at hl 6 rfl) ?_
          obtain ⟨hr17, hv⟩ := hv
          refine lx_icmp_eq (tgt := 109) hx hb dX8_place_93 (by decide) hr17 h_ax (fun hc => ?_) (fun hc => ?_)
          · have hv := hv.1 hc
            refine lv_aload_n hx hb dX8_place_109 rfl (lv_at hl 3 rfl) ?_
            refine va_get (D := D) (ci := 6) (v := .ref ya_sideB) (C := RX8) (T := TX8) (N := 33) hx hb hts (fun w h => List.mem_cons_of_mem _ (List.mem_append_right _ h)) hown hK hP 0 rfl rfl 20 (by decide) (hts (.fieldLink RX8 63 "ContourSheetsModel" "sideB" "[I") (by decide +kernel)) (fun _ h9 => h9) rfl dX8_place_110 ?_
            refine lv_iload hx hb dX8_place_113 (lv_at hl 2 rfl) ?_
            refine lx_iald hx hb hK hP 12 1 rfl rfl (by decide) hi10.1 hi10.2 dX8_place_115 ?_
            refine lx_i2l hx hb dX8_place_116 (z_in_g _ _) ?_
            refine lv_aload_n hx hb dX8_place_117 rfl (lv_at hl 3 rfl) ?_
            refine va_get (D := D) (ci := 6) (v := .ref ya_sideA) (C := RX8) (T := TX8) (N := 33) hx hb hts (fun w h => List.mem_cons_of_mem _ (List.mem_append_right _ h)) hown hK hP 0 rfl rfl 19 (by decide) (hts (.fieldLink RX8 60 "ContourSheetsModel" "sideA" "[I") (by decide +kernel)) (fun _ h9 => h9) rfl dX8_place_118 ?_
            refine lv_iload hx hb dX8_place_121 (lv_at hl 2 rfl) ?_
            refine lx_iald hx hb hK hP 11 1 rfl rfl (by decide) hi10.1 hi10.2 dX8_place_123 ?_
            refine lx_i2l hx hb dX8_place_124 (z_in_g _ _) ?_
            refine lx_lsub hx hb dX8_place_125 ?_
            obtain ⟨hr19, hv⟩ := hv
            refine lx_topl (fun v18 hy20 => ?_)
            have hv := hv v18 hy20
            have h_v18 : z_nl v18 := by rw [hy20]; exact hr19
            refine lv_lstore (lv' := [(8, .long (z_l v18)), (6, .long (z_l v15)), (5, .int (z_i v11)), (4, .int (z_i v7)), (0, .ref y), (1, .int (z_i k)), (2, .int (z_i i)), (3, .int (z_i ax))]) hx hb dX8_place_126 hl (by decide) rfl (fun ls hl => ?_)
            refine lv_aload_n hx hb dX8_place_128 rfl (lv_at hl 4 rfl) ?_
            refine va_get (D := D) (ci := 6) (v := .int (z_i y_lineSpace)) (C := RX8) (T := TX8) (N := 33) hx hb hts (fun w h => List.mem_cons_of_mem _ (List.mem_append_right _ h)) hown hK hP 0 rfl rfl 21 (by decide) (hts (.fieldLink RX8 162 "ContourSheetsModel" "lineSpace" "I") (by decide +kernel)) (fun _ h9 => h9) rfl dX8_place_129 ?_
            refine lx_i2l hx hb dX8_place_132 h_y_lineSpace ?_
            refine lv_lload hx hb dX8_place_133 (lv_at hl 1 rfl) ?_
            refine lv_lload hx hb dX8_place_135 (lv_at hl 0 rfl) ?_
            refine lx_lmul hx hb dX8_place_137 ?_
            refine lv_aload_n hx hb dX8_place_138 rfl (lv_at hl 4 rfl) ?_
            refine va_get (D := D) (ci := 6) (v := .ref ya_lineUnits) (C := RX8) (T := TX8) (N := 33) hx hb hts (fun w h => List.mem_cons_of_mem _ (List.mem_append_right _ h)) hown hK hP 0 rfl rfl 9 (by decide) (hts (.fieldLink RX8 32 "ContourSheetsModel" "lineUnits" "[I") (by decide +kernel)) (fun _ h9 => h9) rfl dX8_place_139 ?_
            refine lv_iload_n hx hb dX8_place_142 rfl (lv_at hl 5 rfl) ?_
            refine lx_iald hx hb hK hP 2 1 rfl rfl (by decide) hi3.1 hi3.2 dX8_place_143 ?_
            refine lx_i2l hx hb dX8_place_144 (z_in_g _ _) ?_
            refine lx_ladd hx hb dX8_place_145 ?_
            refine lv_aload_n hx hb dX8_place_146 rfl (lv_at hl 4 rfl) ?_
            refine va_get (D := D) (ci := 6) (v := .ref ya_sideA) (C := RX8) (T := TX8) (N := 33) hx hb hts (fun w h => List.mem_cons_of_mem _ (List.mem_append_right _ h)) hown hK hP 0 rfl rfl 19 (by decide) (hts (.fieldLink RX8 60 "ContourSheetsModel" "sideA" "[I") (by decide +kernel)) (fun _ h9 => h9) rfl dX8_place_147 ?_
            refine lv_iload hx hb dX8_place_150 (lv_at hl 3 rfl) ?_
            refine lx_iald hx hb hK hP 11 1 rfl rfl (by decide) hi10.1 hi10.2 dX8_place_152 ?_
            refine lx_i2l hx hb dX8_place_153 (z_in_g _ _) ?_
            refine lx_lsub hx hb dX8_place_154 ?_
            refine lx_lmul hx hb dX8_place_155 ?_
            obtain ⟨hr22, hv⟩ := hv
            refine lx_topl (fun v21 hy23 => ?_)
            have hv := hv v21 hy23
            have h_v21 : z_nl v21 := by rw [hy23]; exact hr22
            refine lv_lstore (lv' := [(10, .long (z_l v21)), (8, .long (z_l v18)), (6, .long (z_l v15)), (5, .int (z_i v11)), (4, .int (z_i v7)), (0, .ref y), (1, .int (z_i k)), (2, .int (z_i i)), (3, .int (z_i ax))]) hx hb dX8_place_156 hl (by decide) rfl (fun ls hl => ?_)
            refine lv_lload hx hb dX8_place_158 (lv_at hl 0 rfl) ?_
            refine lv_lconst (v := z_l 0) hx hb dX8_place_160 (by decide) ?_
            refine lx_lcmp hx hb dX8_place_161 h_v21 (show z_nl 0 from ⟨by decide, by decide⟩) ?_
            refine lx_if_ne (tgt := 169) hx hb dX8_place_162 (by decide) (z_in_cmp _ _) (fun hc => ?_) (fun hc => ?_)
            · have hv := hv.1 (z_cmp_ne.mp hc)
              refine lv_lload hx hb dX8_place_169 (lv_at hl 0 rfl) ?_
              refine lx_l2d hx hb dX8_place_171 ?_
              refine lv_topd (fun w24 hy25 => ?_)
              have hv := hv w24 hy25
              refine lv_lload hx hb dX8_place_172 (lv_at hl 1 rfl) ?_
              refine lx_l2d hx hb dX8_place_174 ?_
              refine lv_topd (fun w26 hy27 => ?_)
              have hv := hv w26 hy27
              obtain ⟨hf28, hv⟩ := hv
              refine lv_ddiv hx hb dX8_place_175 hf28 ?_
              refine lv_topd (fun w29 hy30 => ?_)
              have hv := hv w29 hy30
              obtain ⟨hp31, hv⟩ := hv
              refine va_calll (va_runS (As := [.double w29]) (rest := []) ⟨hx, hb, hml, hown, hts⟩ (mt_Jxe99ae_doubleToLongBits_ccdee l D cA w29 hp31) (va_cwS 1 hts gX8_place_Jxe99ae_doubleToLongBits_ccdee rfl rfl rfl (by decide +kernel) ⟨Nat.le_of_ble_eq_true rfl, Nat.le_of_ble_eq_true rfl⟩) ⟨z_bl0, fun U hU hW => ⟨rfl, z_b0 hK (hP.sub (ws' := []) [] rfl) hU hW⟩⟩ rfl rfl hl.1 rfl (lv_room (Nat.le_of_ble_eq_true rfl)) dX8_place_176 ⟨Nat.zero_le _, Nat.zero_le _⟩) hS (fun q _ h => h.elim) (fun q h => h.elim) (fun r0 u t H locs ht hvm hw hB hz1 hk1 hS => ?_)
              obtain ⟨r32, rfl, h_r32, hw⟩ := hw
              have hP := z_P_all hP hk1
              have hv := hv r32 h_r32 hw
              exact W.lret (v := z_l r32) hx hb hr (fun t ht hW => ⟨⟨z_l r32, (), rfl, ⟨r32, rfl, h_r32, hv⟩, trivial⟩, hS.F ht⟩) hS.2.2 dX8_place_179
            · have hv := hv.2 (z_cmp_eq.mp hc)
              refine lv_lconst (v := z_l 0) hx hb dX8_place_165 (by decide) ?_
              refine lv_goto (tgt := 179) hx hb dX8_place_166 (by decide) ?_
              exact W.lret (v := z_l 0) hx hb hr (fun t ht hW => ⟨⟨z_l 0, (), rfl, ⟨0, rfl, (show z_nl 0 from ⟨by decide, by decide⟩), hv⟩, trivial⟩, hS.F ht⟩) hS.2.2 dX8_place_179
          · have hv := hv.2 hc
            refine lv_aload_n hx hb dX8_place_96 rfl (lv_at hl 3 rfl) ?_
            refine va_get (D := D) (ci := 6) (v := .int (z_i y_lineSpace)) (C := RX8) (T := TX8) (N := 33) hx hb hts (fun w h => List.mem_cons_of_mem _ (List.mem_append_right _ h)) hown hK hP 0 rfl rfl 21 (by decide) (hts (.fieldLink RX8 162 "ContourSheetsModel" "lineSpace" "I") (by decide +kernel)) (fun _ h9 => h9) rfl dX8_place_97 ?_
            refine lx_i2l hx hb dX8_place_100 h_y_lineSpace ?_
            refine lv_lload hx hb dX8_place_101 (lv_at hl 0 rfl) ?_
            refine lx_lmul hx hb dX8_place_103 ?_
            refine lx_l2d hx hb dX8_place_104 ?_
            refine lv_topd (fun w33 hy34 => ?_)
            have hv := hv w33 hy34
            obtain ⟨hp35, hv⟩ := hv
            refine va_calll (va_runS (As := [.double w33]) (rest := []) ⟨hx, hb, hml, hown, hts⟩ (mt_Jxe99ae_doubleToLongBits_ccdee l D cA w33 hp35) (va_cwS 1 hts gX8_place_Jxe99ae_doubleToLongBits_ccdee rfl rfl rfl (by decide +kernel) ⟨Nat.le_of_ble_eq_true rfl, Nat.le_of_ble_eq_true rfl⟩) ⟨z_bl0, fun U hU hW => ⟨rfl, z_b0 hK (hP.sub (ws' := []) [] rfl) hU hW⟩⟩ rfl rfl hl.1 rfl (lv_room (Nat.le_of_ble_eq_true rfl)) dX8_place_105 ⟨Nat.zero_le _, Nat.zero_le _⟩) hS (fun q _ h => h.elim) (fun q h => h.elim) (fun r0 u t H locs ht hvm hw hB hz1 hk1 hS => ?_)
            obtain ⟨r36, rfl, h_r36, hw⟩ := hw
            have hP := z_P_all hP hk1
            have hv := hv r36 h_r36 hw
            exact W.lret (v := z_l r36) hx hb hr (fun t ht hW => ⟨⟨z_l r36, (), rfl, ⟨r36, rfl, h_r36, hv⟩, trivial⟩, hS.F ht⟩) hS.2.2 dX8_place_108
        · have hv := hv.2 hc
          refine lv_iload hx hb dX8_place_66 (lv_at hl 0 rfl) ?_
          refine lv_bipush (v := z_i 40) hx hb dX8_place_68 (by decide) ?_
          refine lx_irem hx hb dX8_place_70 h_v11 (show z_in 40 from ⟨by decide, by decide⟩) (by decide) ?_
          obtain ⟨hr37, hv⟩ := hv
          refine lx_i2l hx hb dX8_place_71 hr37 ?_
          refine lv_goto (tgt := 81) hx hb dX8_place_72 (by decide) ?_
          refine lx_topl (fun v38 hy39 => ?_)
          have hv := hv v38 hy39
          have h_v38 : z_nl v38 := by rw [hy39]; exact (z_in_nl hr37)
          refine lv_lstore (lv' := [(6, .long (z_l v38)), (5, .int (z_i v11)), (4, .int (z_i v7)), (0, .ref y), (1, .int (z_i k)), (2, .int (z_i i)), (3, .int (z_i ax))]) hx hb dX8_place_81 hl (by decide) rfl (fun ls hl => ?_)
          refine lv_aload_n hx hb dX8_place_83 rfl (lv_at hl 3 rfl) ?_
          refine va_get (D := D) (ci := 6) (v := .ref ya_side) (C := RX8) (T := TX8) (N := 33) hx hb hts (fun w h => List.mem_cons_of_mem _ (List.mem_append_right _ h)) hown hK hP 0 rfl rfl 18 (by decide) (hts (.fieldLink RX8 57 "ContourSheetsModel" "side" "[I") (by decide +kernel)) (fun _ h9 => h9) rfl dX8_place_84 ?_
          refine lv_iload hx hb dX8_place_87 (lv_at hl 2 rfl) ?_
          refine lx_iald hx hb hK hP 10 1 rfl rfl (by decide) hi10.1 hi10.2 dX8_place_89 ?_
          refine lv_iconst (v := z_i 2) hx hb dX8_place_90 rfl ?_
          refine lx_irem hx hb dX8_place_91 (z_in_g _ _) (show z_in 2 from ⟨by decide, by decide⟩) (by decide) ?_
          refine lv_iload_n hx hb dX8_place_92 rfl (lv_at hl 6 rfl) ?_
          obtain ⟨hr40, hv⟩ := hv
          refine lx_icmp_eq (tgt := 109) hx hb dX8_place_93 (by decide) hr40 h_ax (fun hc => ?_) (fun hc => ?_)
          · have hv := hv.1 hc
            refine lv_aload_n hx hb dX8_place_109 rfl (lv_at hl 3 rfl) ?_
            refine va_get (D := D) (ci := 6) (v := .ref ya_sideB) (C := RX8) (T := TX8) (N := 33) hx hb hts (fun w h => List.mem_cons_of_mem _ (List.mem_append_right _ h)) hown hK hP 0 rfl rfl 20 (by decide) (hts (.fieldLink RX8 63 "ContourSheetsModel" "sideB" "[I") (by decide +kernel)) (fun _ h9 => h9) rfl dX8_place_110 ?_
            refine lv_iload hx hb dX8_place_113 (lv_at hl 2 rfl) ?_
            refine lx_iald hx hb hK hP 12 1 rfl rfl (by decide) hi10.1 hi10.2 dX8_place_115 ?_
            refine lx_i2l hx hb dX8_place_116 (z_in_g _ _) ?_
            refine lv_aload_n hx hb dX8_place_117 rfl (lv_at hl 3 rfl) ?_
            refine va_get (D := D) (ci := 6) (v := .ref ya_sideA) (C := RX8) (T := TX8) (N := 33) hx hb hts (fun w h => List.mem_cons_of_mem _ (List.mem_append_right _ h)) hown hK hP 0 rfl rfl 19 (by decide) (hts (.fieldLink RX8 60 "ContourSheetsModel" "sideA" "[I") (by decide +kernel)) (fun _ h9 => h9) rfl dX8_place_118 ?_
            refine lv_iload hx hb dX8_place_121 (lv_at hl 2 rfl) ?_
            refine lx_iald hx hb hK hP 11 1 rfl rfl (by decide) hi10.1 hi10.2 dX8_place_123 ?_
            refine lx_i2l hx hb dX8_place_124 (z_in_g _ _) ?_
            refine lx_lsub hx hb dX8_place_125 ?_
            obtain ⟨hr42, hv⟩ := hv
            refine lx_topl (fun v41 hy43 => ?_)
            have hv := hv v41 hy43
            have h_v41 : z_nl v41 := by rw [hy43]; exact hr42
            refine lv_lstore (lv' := [(8, .long (z_l v41)), (6, .long (z_l v38)), (5, .int (z_i v11)), (4, .int (z_i v7)), (0, .ref y), (1, .int (z_i k)), (2, .int (z_i i)), (3, .int (z_i ax))]) hx hb dX8_place_126 hl (by decide) rfl (fun ls hl => ?_)
            refine lv_aload_n hx hb dX8_place_128 rfl (lv_at hl 4 rfl) ?_
            refine va_get (D := D) (ci := 6) (v := .int (z_i y_lineSpace)) (C := RX8) (T := TX8) (N := 33) hx hb hts (fun w h => List.mem_cons_of_mem _ (List.mem_append_right _ h)) hown hK hP 0 rfl rfl 21 (by decide) (hts (.fieldLink RX8 162 "ContourSheetsModel" "lineSpace" "I") (by decide +kernel)) (fun _ h9 => h9) rfl dX8_place_129 ?_
            refine lx_i2l hx hb dX8_place_132 h_y_lineSpace ?_
            refine lv_lload hx hb dX8_place_133 (lv_at hl 1 rfl) ?_
            refine lv_lload hx hb dX8_place_135 (lv_at hl 0 rfl) ?_
            refine lx_lmul hx hb dX8_place_137 ?_
            refine lv_aload_n hx hb dX8_place_138 rfl (lv_at hl 4 rfl) ?_
            refine va_get (D := D) (ci := 6) (v := .ref ya_lineUnits) (C := RX8) (T := TX8) (N := 33) hx hb hts (fun w h => List.mem_cons_of_mem _ (List.mem_append_right _ h)) hown hK hP 0 rfl rfl 9 (by decide) (hts (.fieldLink RX8 32 "ContourSheetsModel" "lineUnits" "[I") (by decide +kernel)) (fun _ h9 => h9) rfl dX8_place_139 ?_
            refine lv_iload_n hx hb dX8_place_142 rfl (lv_at hl 5 rfl) ?_
            refine lx_iald hx hb hK hP 2 1 rfl rfl (by decide) hi3.1 hi3.2 dX8_place_143 ?_
            refine lx_i2l hx hb dX8_place_144 (z_in_g _ _) ?_
            refine lx_ladd hx hb dX8_place_145 ?_
            refine lv_aload_n hx hb dX8_place_146 rfl (lv_at hl 4 rfl) ?_
            refine va_get (D := D) (ci := 6) (v := .ref ya_sideA) (C := RX8) (T := TX8) (N := 33) hx hb hts (fun w h => List.mem_cons_of_mem _ (List.mem_append_right _ h)) hown hK hP 0 rfl rfl 19 (by decide) (hts (.fieldLink RX8 60 "ContourSheetsModel" "sideA" "[I") (by decide +kernel)) (fun _ h9 => h9) rfl dX8_place_147 ?_
            refine lv_iload hx hb dX8_place_150 (lv_at hl 3 rfl) ?_
            refine lx_iald hx hb hK hP 11 1 rfl rfl (by decide) hi10.1 hi10.2 dX8_place_152 ?_
            refine lx_i2l hx hb dX8_place_153 (z_in_g _ _) ?_
            refine lx_lsub hx hb dX8_place_154 ?_
            refine lx_lmul hx hb dX8_place_155 ?_
            obtain ⟨hr45, hv⟩ := hv
            refine lx_topl (fun v44 hy46 => ?_)
            have hv := hv v44 hy46
            have h_v44 : z_nl v44 := by rw [hy46]; exact hr45
            refine lv_lstore (lv' := [(10, .long (z_l v44)), (8, .long (z_l v41)), (6, .long (z_l v38)), (5, .int (z_i v11)), (4, .int (z_i v7)), (0, .ref y), (1, .int (z_i k)), (2, .int (z_i i)), (3, .int (z_i ax))]) hx hb dX8_place_156 hl (by decide) rfl (fun ls hl => ?_)
            refine lv_lload hx hb dX8_place_158 (lv_at hl 0 rfl) ?_
            refine lv_lconst (v := z_l 0) hx hb dX8_place_160 (by decide) ?_
            refine lx_lcmp hx hb dX8_place_161 h_v44 (show z_nl 0 from ⟨by decide, by decide⟩) ?_
            refine lx_if_ne (tgt := 169) hx hb dX8_place_162 (by decide) (z_in_cmp _ _) (fun hc => ?_) (fun hc => ?_)
            · have hv := hv.1 (z_cmp_ne.mp hc)
              refine lv_lload hx hb dX8_place_169 (lv_at hl 0 rfl) ?_
              refine lx_l2d hx hb dX8_place_171 ?_
              refine lv_topd (fun w47 hy48 => ?_)
              have hv := hv w47 hy48
              refine lv_lload hx hb dX8_place_172 (lv_at hl 1 rfl) ?_
              refine lx_l2d hx hb dX8_place_174 ?_
              refine lv_topd (fun w49 hy50 => ?_)
              have hv := hv w49 hy50
              obtain ⟨hf51, hv⟩ := hv
              refine lv_ddiv hx hb dX8_place_175 hf51 ?_
              refine lv_topd (fun w52 hy53 => ?_)
              have hv := hv w52 hy53
              obtain ⟨hp54, hv⟩ := hv
              refine va_calll (va_runS (As := [.double w52]) (rest := []) ⟨hx, hb, hml, hown, hts⟩ (mt_Jxe99ae_doubleToLongBits_ccdee l D cA w52 hp54) (va_cwS 1 hts gX8_place_Jxe99ae_doubleToLongBits_ccdee rfl rfl rfl (by decide +kernel) ⟨Nat.le_of_ble_eq_true rfl, Nat.le_of_ble_eq_true rfl⟩) ⟨z_bl0, fun U hU hW => ⟨rfl, z_b0 hK (hP.sub (ws' := []) [] rfl) hU hW⟩⟩ rfl rfl hl.1 rfl (lv_room (Nat.le_of_ble_eq_true rfl)) dX8_place_176 ⟨Nat.zero_le _, Nat.zero_le _⟩) hS (fun q _ h => h.elim) (fun q h => h.elim) (fun r0 u t H locs ht hvm hw hB hz1 hk1 hS => ?_)
              obtain ⟨r55, rfl, h_r55, hw⟩ := hw
              have hP := z_P_all hP hk1
              have hv := hv r55 h_r55 hw
              exact W.lret (v := z_l r55) hx hb hr (fun t ht hW => ⟨⟨z_l r55, (), rfl, ⟨r55, rfl, h_r55, hv⟩, trivial⟩, hS.F ht⟩) hS.2.2 dX8_place_179
            · have hv := hv.2 (z_cmp_eq.mp hc)
              refine lv_lconst (v := z_l 0) hx hb dX8_place_165 (by decide) ?_
              refine lv_goto (tgt := 179) hx hb dX8_place_166 (by decide) ?_
              exact W.lret (v := z_l 0) hx hb hr (fun t ht hW => ⟨⟨z_l 0, (), rfl, ⟨0, rfl, (show z_nl 0 from ⟨by decide, by decide⟩), hv⟩, trivial⟩, hS.F ht⟩) hS.2.2 dX8_place_179
          · have hv := hv.2 hc
            refine lv_aload_n hx hb dX8_place_96 rfl (lv_at hl 3 rfl) ?_
            refine va_get (D := D) (ci := 6) (v := .int (z_i y_lineSpace)) (C := RX8) (T := TX8) (N := 33) hx hb hts (fun w h => List.mem_cons_of_mem _ (List.mem_append_right _ h)) hown hK hP 0 rfl rfl 21 (by decide) (hts (.fieldLink RX8 162 "ContourSheetsModel" "lineSpace" "I") (by decide +kernel)) (fun _ h9 => h9) rfl dX8_place_97 ?_
            refine lx_i2l hx hb dX8_place_100 h_y_lineSpace ?_
            refine lv_lload hx hb dX8_place_101 (lv_at hl 0 rfl) ?_
            refine lx_lmul hx hb dX8_place_103 ?_
            refine lx_l2d hx hb dX8_place_104 ?_
            refine lv_topd (fun w56 hy57 => ?_)
            have hv := hv w56 hy57
            obtain ⟨hp58, hv⟩ := hv
            refine va_calll (va_runS (As := [.double w56]) (rest := []) ⟨hx, hb, hml, hown, hts⟩ (mt_Jxe99ae_doubleToLongBits_ccdee l D cA w56 hp58) (va_cwS 1 hts gX8_place_Jxe99ae_doubleToLongBits_ccdee rfl rfl rfl (by decide +kernel) ⟨Nat.le_of_ble_eq_true rfl, Nat.le_of_ble_eq_true rfl⟩) ⟨z_bl0, fun U hU hW => ⟨rfl, z_b0 hK (hP.sub (ws' := []) [] rfl) hU hW⟩⟩ rfl rfl hl.1 rfl (lv_room (Nat.le_of_ble_eq_true rfl)) dX8_place_105 ⟨Nat.zero_le _, Nat.zero_le _⟩) hS (fun q _ h => h.elim) (fun q h => h.elim) (fun r0 u t H locs ht hvm hw hB hz1 hk1 hS => ?_)
            obtain ⟨r59, rfl, h_r59, hw⟩ := hw
            have hP := z_P_all hP hk1
            have hv := hv r59 h_r59 hw
            exact W.lret (v := z_l r59) hx hb hr (fun t ht hW => ⟨⟨z_l r59, (), rfl, ⟨r59, rfl, h_r59, hv⟩, trivial⟩, hS.F ht⟩) hS.2.2 dX8_place_108
      · have hv := hv.2 hc
        refine lv_lconst (v := z_l 0) hx hb dX8_place_39 (by decide) ?_
        exact W.lret (v := z_l 0) hx hb hr (fun t ht hW => ⟨⟨z_l 0, (), rfl, ⟨0, rfl, (show z_nl 0 from ⟨by decide, by decide⟩), hv⟩, trivial⟩, hS.F ht⟩) hS.2.2 dX8_place_40
set_option maxHeartbeats 4000000 in
set_option maxRecDepth 100000 in
theorem mt_X8_place (l : Launch) (D : va_G) (cA : Nat → ClassId) (y : Nat) (y_space : Nat) (y_offset : Nat) (y_length : Nat) (y_units : Nat) (y_isThere : Nat) (y_levels : Int) (y_level : Nat) (y_lines : Int) (ya_lineLevel : Nat) (y_lineLevel : Nat → Int32) (ya_lineUnits : Nat) (y_lineUnits : Nat → Int32) (ya_lineFrom : Nat) (y_lineFrom : Nat → Int32) (ya_lineMany : Nat) (y_lineMany : Nat → Int32) (ya_isClosed : Nat) (y_isClosed : Nat → Int32) (ya_insides : Nat) (y_insides : Nat → Int32) (ya_parent : Nat) (y_parent : Nat → Int32) (ya_isHigh : Nat) (y_isHigh : Nat → Int32) (ya_inBits : Nat) (y_inBits : Nat → Int64) (y_sides : Int) (ya_side : Nat) (y_side : Nat → Int32) (ya_sideA : Nat) (y_sideA : Nat → Int32) (ya_sideB : Nat) (y_sideB : Nat → Int32) (y_lineSpace : Int) (y_wasThere : Nat) (y_leads : Nat) (y_isLed : Nat) (y_isOn : Nat) (y_goesTo : Nat) (y_stream : Nat) (y_filled : Nat) (y_isDone : Nat) (y_isReached : Nat) (y_newUnits : Nat) (y_isNew : Nat) (k : Int) (i : Int) (ax : Int) (h_y_levels : z_in y_levels) (h_y_lines : z_in y_lines) (h_y_sides : z_in y_sides) (h_y_lineSpace : z_in y_lineSpace) (h_k : z_in k) (h_i : z_in i) (h_ax : z_in ax) (ls : List d_L) (T : Int → Bool) (U : Int → Int) (hs : Nat → Int32) (hp1 : m_I ls T U hs y_lineLevel y_lineUnits y_lineFrom y_lineMany y_isClosed y_insides y_parent y_isHigh y_inBits y_side y_sideA y_sideB y_lines) (hp2 : 0 < y_lines → 1 ≤ y_lineSpace ∧ y_lineSpace ≤ 100000) (hp3 : ∀ q, T q = true → -8388608 ≤ U q ∧ U q ≤ 8388608) : Met l yX8_place wsX8_place ({ frames := 2, cells := 0, slots := 0, locals := 42 } : Room) (va_Pc [.ref y, .int (z_i k), .int (z_i i), .int (z_i ax)] (z_B0 D cA [(y, .inr (6, [.ref y_space, .ref y_offset, .ref y_length, .ref y_units, .ref y_isThere, .int (z_i y_levels), .ref y_level, .int (z_i y_lines), .ref ya_lineLevel, .ref ya_lineUnits, .ref ya_lineFrom, .ref ya_lineMany, .ref ya_isClosed, .ref ya_insides, .ref ya_parent, .ref ya_isHigh, .ref ya_inBits, .int (z_i y_sides), .ref ya_side, .ref ya_sideA, .ref ya_sideB, .int (z_i y_lineSpace), .ref y_wasThere, .ref y_leads, .ref y_isLed, .ref y_isOn, .ref y_goesTo, .ref y_stream, .ref y_filled, .ref y_isDone, .ref y_isReached, .ref y_newUnits, .ref y_isNew])), (ya_lineLevel, .inl (cA 1, 400, .inl y_lineLevel)), (ya_lineUnits, .inl (cA 1, 400, .inl y_lineUnits)), (ya_lineFrom, .inl (cA 1, 400, .inl y_lineFrom)), (ya_lineMany, .inl (cA 1, 400, .inl y_lineMany)), (ya_isClosed, .inl (cA 3, 400, .inl y_isClosed)), (ya_insides, .inl (cA 1, 400, .inl y_insides)), (ya_parent, .inl (cA 1, 400, .inl y_parent)), (ya_isHigh, .inl (cA 3, 400, .inl y_isHigh)), (ya_inBits, .inl (cA 2, 8000, .inr (.inl y_inBits))), (ya_side, .inl (cA 1, 8000, .inl y_side)), (ya_sideA, .inl (cA 1, 8000, .inl y_sideA)), (ya_sideB, .inl (cA 1, 8000, .inl y_sideB))])) (va_Ql (z_rl (fun (r : Int) => (if (ax = 0 ∨ ax = 1) ∧ l_sd ls k i ≠ -1 then l_pl y_lineSpace U (l_sd ls k i) (l_lu ls hs k) ax r else r = 0))) (fun _ _ => True) (fun _ => False)) 0 0 (fun _ => False) := by
  refine wk_X8_place l D cA y y_space y_offset y_length y_units y_isThere y_levels y_level y_lines ya_lineLevel y_lineLevel ya_lineUnits y_lineUnits ya_lineFrom y_lineFrom ya_lineMany y_lineMany ya_isClosed y_isClosed ya_insides y_insides ya_parent y_parent ya_isHigh y_isHigh ya_inBits y_inBits y_sides ya_side y_side ya_sideA y_sideA ya_sideB y_sideB y_lineSpace y_wasThere y_leads y_isLed y_isOn y_goesTo y_stream y_filled y_isDone y_isReached y_newUnits y_isNew k i ax h_y_levels h_y_lines h_y_sides h_y_lineSpace h_k h_i h_ax (fun (r : Int) => (if (ax = 0 ∨ ax = 1) ∧ l_sd ls k i ≠ -1 then l_pl y_lineSpace U (l_sd ls k i) (l_lu ls hs k) ax r else r = 0)) ?_
  unfold vc_X8_place
  have no : l_sd ls k i = -1 → (if (ax = 0 ∨ ax = 1) ∧ l_sd ls k i ≠ -1 then l_pl y_lineSpace U (l_sd ls k i) (l_lu ls hs k) ax 0 else (0 : Int) = 0) := fun h => by rw [if_neg (fun h2 => h2.2 h)]
  have nox : ¬ (ax = 0 ∨ ax = 1) → (if (ax = 0 ∨ ax = 1) ∧ l_sd ls k i ≠ -1 then l_pl y_lineSpace U (l_sd ls k i) (l_lu ls hs k) ax 0 else (0 : Int) = 0) := fun h => by rw [if_neg (fun h2 => h h2.1)]
  have yes : (ax = 0 ∨ ax = 1) → l_sd ls k i ≠ -1 → ∀ r : Int, l_pl y_lineSpace U (l_sd ls k i) (l_lu ls hs k) ax r → (if (ax = 0 ∨ ax = 1) ∧ l_sd ls k i ≠ -1 then l_pl y_lineSpace U (l_sd ls k i) (l_lu ls hs k) ax r else r = 0) := fun h h2 r h3 => by rw [if_pos ⟨h, h2⟩]; exact h3
  
  have hn : (ls.length : Int) ≤ 400 := by have := hp1.2.1.1; omega
  obtain ⟨m1, m2, m3, m4, m5, m6⟩ := hp1
  
  refine ⟨⟨by omega, by omega⟩, ?_⟩
  rintro r2 _ rfl
  refine ⟨fun q => by have q := of_decide_eq_false (zb_f q); exact no (l_sd_out (by omega)), fun q => ?_⟩
  have q := of_decide_eq_true (zb_t q)
  obtain ⟨k, rfl⟩ := Int.eq_ofNat_of_zero_le q.1
  have hk : k < ls.length := by omega
  obtain ⟨l, hl⟩ : ∃ l, ls[k]? = some l := ⟨_, List.getElem?_eq_getElem hk⟩
  have hat := l_at_n hl
  obtain ⟨d1, d2, d3, d4, d5⟩ := m2.2.2 k l hl
  have hlen : l.2.2.length ≤ 8000 ∧ d_tot (ls.take k) + l.2.2.length ≤ 8000 := by
    have h1 := d_tot_take_add hl
    have h2 := d_tot_take_le ls (k + 1)
    have h3 := m2.2.1
    omega
  rw [d3]
  refine ⟨⟨by omega, by omega⟩, ⟨by omega, by omega⟩, ?_⟩
  rintro r5 _ rfl
  
  refine ⟨fun q2 => ?_, fun q2 => ?_⟩
  · have q2 := of_decide_eq_false (zb_f q2)
    apply no
    unfold l_sd
    rw [hat]
    by_cases h : 0 ≤ i
    · rw [if_pos h, List.getElem?_eq_none (by omega)]; rfl
    · rw [if_neg h]
  · have q2 := of_decide_eq_true (zb_t q2)
    obtain ⟨i, rfl⟩ := Int.eq_ofNat_of_zero_le q2.1
    obtain ⟨s, hs9⟩ : ∃ s, l.2.2[i]? = some s := ⟨_, List.getElem?_eq_getElem (show i < l.2.2.length by omega)⟩
    have hsd := l_sd_n hl hs9
    have hlu := l_lu_n m3 hl
    have hsok := (m3 l (List.mem_of_getElem? hl)).2.2.2 s (List.mem_of_getElem? hs9)
    obtain ⟨k1, k2, k3, k4, k5⟩ := id hsok
    have t1 := hp3 _ k3
    have t2 := hp3 _ k4
    have hst := hp2 (by omega)
    have v1 := (d5 i s hs9).1
    have v2 := (d5 i s hs9).2
    have v3 := (m6 k l hl).2.2 i s hs9
    have hne : l_sd ls (k : Int) (i : Int) ≠ -1 := by rw [hsd]; omega
    have e1 : s.tdiv 2 = s / 2 := Int.tdiv_eq_ediv_of_nonneg k1
    have e2 : s.tmod 2 = s % 2 := Int.tmod_eq_emod_of_nonneg k1
    have e3 : (s / 2).tdiv 40 = s / 2 / 40 := Int.tdiv_eq_ediv_of_nonneg (by omega)
    have e4 : (s / 2).tmod 40 = s / 2 % 40 := Int.tmod_eq_emod_of_nonneg (by omega)
    rintro r6 _ rfl
    refine ⟨fun q3 => ?_, fun q3 => nox (fun h => by have q3 := of_decide_eq_false (zb_f q3); omega)⟩
    have q3 := of_decide_eq_true (zb_t q3)
    rw [d2]
    refine ⟨⟨by omega, by omega⟩, ?_⟩
    intro v7 h7
    rw [show (d_tot (ls.take k) : Int) + (i : Int) = ((d_tot (ls.take k) + i : Nat) : Int) by omega] at h7
    subst h7
    rw [v1, v2, v3, e1, e2, d1]
    have yes2 : (ax = 0 ∨ ax = 1) → ∀ r : Int, l_pl y_lineSpace U s (z_g hs l.1) ax r → (if (ax = 0 ∨ ax = 1) ∧ l_sd ls (k : Int) (i : Int) ≠ -1 then l_pl y_lineSpace U (l_sd ls (k : Int) (i : Int)) (l_lu ls hs (k : Int)) ax r else r = 0) := fun h r h3 => yes h hne r (by rw [hsd, hlu]; exact h3)
    refine ⟨⟨by omega, by omega⟩, ⟨by omega, by omega⟩, ?_⟩
    rintro v11 rfl
    rw [e3, e4]
    have main : ∀ w : Int, 0 ≤ w → w ≤ 39 → w = (if ax = 0 then s / 2 % 40 else s / 2 / 40) → (ax = 0 ∨ ax = 1) → z_in (s % 2) ∧ ((s % 2 = ax → z_nl ((U (l_oe s)) - (U (s / 2))) ∧ (∀ v18 : Int, v18 = (U (l_oe s)) - (U (s / 2)) → z_nl (y_lineSpace * (((w * v18) + (z_g hs l.1)) - (U (s / 2)))) ∧ (∀ v21 : Int, v21 = y_lineSpace * (((w * v18) + (z_g hs l.1)) - (U (s / 2))) → ((v21 ≠ 0 → (∀ w24 : UInt64, w24 = z_l2d v21 → (∀ w26 : UInt64, w26 = z_l2d v18 → vf_n64 (FP.ddiv w24 w26) ∧ (∀ w29 : UInt64, w29 = FP.ddiv w24 w26 → (z_dc w29 w29 .l = 0) ∧ (∀ (r32 : Int), z_nl r32 → (r32 = z_db w29) → l_pl y_lineSpace U s (z_g hs l.1) ax r32))))) ∧
        (v21 = 0 → l_pl y_lineSpace U s (z_g hs l.1) ax 0))))) ∧
        (s % 2 ≠ ax → (∀ w33 : UInt64, w33 = z_l2d (y_lineSpace * w) → (z_dc w33 w33 .l = 0) ∧ (∀ (r36 : Int), z_nl r36 → (r36 = z_db w33) → l_pl y_lineSpace U s (z_g hs l.1) ax r36)))) := by
      intro w w0 w1 hw hax
      have PM := pl_m (st := y_lineSpace) (w := w) (A := U (s / 2)) (B := U (l_oe s)) (lv := z_g hs l.1) hst.1 hst.2 w0 w1 t1.1 t1.2 t2.1 t2.2 k5
      have PW := pl_w (st := y_lineSpace) (w := w) hst.1 hst.2 w0 w1
      have toP : s % 2 = ax → ∀ r : Int, pl_P y_lineSpace w (U (s / 2)) (U (l_oe s)) (z_g hs l.1) r → l_pl y_lineSpace U s (z_g hs l.1) ax r := fun h r hr => by
        unfold l_pl
        rw [if_neg (fun h2 => h2 h), ← hw]
        exact hr
      refine ⟨⟨by omega, by omega⟩, fun h => ⟨PM.1, ?_⟩, fun h => ?_⟩
      · rintro v18 rfl
        refine ⟨PM.2.1, ?_⟩
        rintro v21 rfl
        refine ⟨fun hz => ?_, fun hz => toP h _ (PM.2.2.2 hz)⟩
        rintro w24 rfl w26 rfl
        refine ⟨(PM.2.2.1 hz).1, ?_⟩
        intro w29 h29
        have X := (PM.2.2.1 hz).2 w29 h29
        refine ⟨X.1, ?_⟩
        rintro r32 _ rfl
        exact toP h _ X.2
      · intro w33 h33
        have X := PW w33 h33
        refine ⟨X.1, ?_⟩
        rintro r36 _ rfl
        unfold l_pl
        rw [if_pos h, ← hw]
        exact X.2
    refine ⟨fun ha => ⟨⟨by omega, by omega⟩, ?_⟩, fun ha => ⟨⟨by omega, by omega⟩, ?_⟩⟩
    · rintro v15 rfl
      have hax : ax = 0 ∨ ax = 1 := by omega
      have M := main (s / 2 / 40) (by omega) (by omega) (by rw [if_neg ha]) hax
      refine ⟨M.1, fun h => ⟨(M.2.1 h).1, ?_⟩, fun h => ?_⟩
      · intro v18 h18
        refine ⟨((M.2.1 h).2 v18 h18).1, ?_⟩
        intro v21 h21
        have M2 := ((M.2.1 h).2 v18 h18).2 v21 h21
        refine ⟨fun hz => ?_, fun hz => yes2 hax _ (M2.2 hz)⟩
        intro w24 h24 w26 h26
        refine ⟨(M2.1 hz w24 h24 w26 h26).1, ?_⟩
        intro w29 h29
        have M3 := (M2.1 hz w24 h24 w26 h26).2 w29 h29
        exact ⟨M3.1, fun r32 z32 h32 => yes2 hax _ (M3.2 r32 z32 h32)⟩
      · intro w33 h33
        have M3 := M.2.2 h w33 h33
        exact ⟨M3.1, fun r32 z32 h32 => yes2 hax _ (M3.2 r32 z32 h32)⟩
    · rintro v15 rfl
      have hax : ax = 0 ∨ ax = 1 := by omega
      have M := main (s / 2 % 40) (by omega) (by omega) (by rw [if_pos ha]) hax
      refine ⟨M.1, fun h => ⟨(M.2.1 h).1, ?_⟩, fun h => ?_⟩
      · intro v18 h18
        refine ⟨((M.2.1 h).2 v18 h18).1, ?_⟩
        intro v21 h21
        have M2 := ((M.2.1 h).2 v18 h18).2 v21 h21
        refine ⟨fun hz => ?_, fun hz => yes2 hax _ (M2.2 hz)⟩
        intro w24 h24 w26 h26
        refine ⟨(M2.1 hz w24 h24 w26 h26).1, ?_⟩
        intro w29 h29
        have M3 := (M2.1 hz w24 h24 w26 h26).2 w29 h29
        exact ⟨M3.1, fun r32 z32 h32 => yes2 hax _ (M3.2 r32 z32 h32)⟩
      · intro w33 h33
        have M3 := M.2.2 h w33 h33
        exact ⟨M3.1, fun r32 z32 h32 => yes2 hax _ (M3.2 r32 z32 h32)⟩
