/-! the model's rows of the lines -/
def e_C (ls : List d_L) (U : Int → Int) (lev ll lu lf lm cl sd sa sb : Nat → Int32) (lines sides : Int) : Prop :=
  lines = (ls.length : Int) ∧ ls.length ≤ 400 ∧ d_tot ls ≤ 8000 ∧ sides = (d_tot ls : Int) ∧
  ∀ (k : Nat) (l : d_L), ls[k]? = some l → z_g ll (k : Int) = l.1 ∧ z_g lu (k : Int) = 1024 * z_g lev l.1 ∧ z_g lf (k : Int) = (d_tot (ls.take k) : Int) ∧ z_g lm (k : Int) = (l.2.2.length : Int) ∧ z_g cl (k : Int) = l.2.1 ∧
    ∀ (i : Nat) (s : Int), l.2.2[i]? = some s → z_g sd ((d_tot (ls.take k) + i : Nat) : Int) = s ∧ z_g sa ((d_tot (ls.take k) + i : Nat) : Int) = U (s / 2) ∧ z_g sb ((d_tot (ls.take k) + i : Nat) : Int) = U (l_oe s)
theorem e_C_add {ls : List d_L} {U : Int → Int} {lev ll lu lf lm cl sd sa sb sd' sa' sb' : Nat → Int32} {lines sides : Int} {w : List Int} {v c : Int} (h : e_C ls U lev ll lu lf lm cl sd sa sb lines sides) (hf : d_fits ls w) (hv : z_in v) (hc : z_in c) (hu : z_in (1024 * z_g lev v))
    (hs : ∀ p : Int, 0 ≤ p → p < sides → z_g sd' p = z_g sd p ∧ z_g sa' p = z_g sa p ∧ z_g sb' p = z_g sb p) (hw : ∀ (i : Nat) (s : Int), w[i]? = some s → z_g sd' (sides + i) = s ∧ z_g sa' (sides + i) = U (s / 2) ∧ z_g sb' (sides + i) = U (l_oe s)) :
    e_C (ls ++ [(v, c, w)]) U lev (z_s ll lines v) (z_s lu lines (1024 * z_g lev v)) (z_s lf lines sides) (z_s lm lines (w.length : Int)) (z_s cl lines c) sd' sa' sb' (lines + 1) (sides + (w.length : Int)) := by
  obtain ⟨h1, h2, h3, h4, h5⟩ := h
  have e1 : d_tot (ls ++ [(v, c, w)]) = d_tot ls + w.length := by rw [d_tot_app, d_tot_one]
  have hf1 := hf.1
  have hf2 := hf.2
  refine ⟨by simp; omega, by simp; omega, by rw [e1]; exact hf.2, by rw [e1]; omega, fun k l hl => ?_⟩
  by_cases e : k = ls.length
  · subst e
    rw [List.getElem?_append_right (Nat.le_refl _)] at hl
    simp at hl
    subst hl
    refine ⟨?_, ?_, ?_, ?_, ?_, fun i s hi => ?_⟩
    · rw [z_gs hv (by omega) (by omega), if_pos (by omega)]
    · rw [z_gs hu (by omega) (by omega), if_pos (by omega)]
    · rw [z_gs ⟨by omega, by omega⟩ (by omega) (by omega), if_pos (by omega), List.take_append_of_le_length (Nat.le_refl _), List.take_length]; exact h4
    · rw [z_gs ⟨by omega, by omega⟩ (by omega) (by omega), if_pos (by omega)]
    · rw [z_gs hc (by omega) (by omega), if_pos (by omega)]
    · rw [List.take_append_of_le_length (Nat.le_refl _), List.take_length, show ((d_tot ls + i : Nat) : Int) = sides + i by omega]
      exact hw i s hi
  · have hk : k < ls.length := by
      have := (List.getElem?_eq_some_iff.mp hl).1
      simp at this
      omega
    rw [List.getElem?_append_left hk] at hl
    obtain ⟨g1, g2, g3, g4, g5, g6⟩ := h5 k l hl
    refine ⟨?_, ?_, ?_, ?_, ?_, fun i s hi => ?_⟩
    · rw [z_gs hv (by omega) (by omega), if_neg (by omega)]; exact g1
    · rw [z_gs hu (by omega) (by omega), if_neg (by omega)]; exact g2
    · rw [z_gs ⟨by omega, by omega⟩ (by omega) (by omega), if_neg (by omega), List.take_append_of_le_length (by omega)]; exact g3
    · rw [z_gs ⟨by omega, by omega⟩ (by omega) (by omega), if_neg (by omega)]; exact g4
    · rw [z_gs hc (by omega) (by omega), if_neg (by omega)]; exact g5
    · have hlt : i < l.2.2.length := (List.getElem?_eq_some_iff.mp hi).1
      have := d_tot_take_lt hl hlt
      obtain ⟨q1, q2, q3⟩ := hs ((d_tot (ls.take k) + i : Nat) : Int) (by omega) (by omega)
      rw [List.take_append_of_le_length (by omega), q1, q2, q3]
      exact g6 i s hi
def d_fb (ls : List d_L) (w : List Int) : Bool := decide (ls.length < 400 ∧ d_tot ls + w.length ≤ 8000)
theorem d_fb_t {ls : List d_L} {w : List Int} (h : d_fits ls w) : d_fb ls w = true := decide_eq_true h
theorem d_fb_f {ls : List d_L} {w : List Int} (h : ¬ d_fits ls w) : d_fb ls w = false := decide_eq_false h
/-- a side that has another end on its sheet -/
def e_sk (s : Int) : Prop := (s % 2 = 0 → s / 2 % 40 < 39) ∧ (s % 2 = 1 → s / 80 < 31)
def vc_X8_tellLine (y_units : Nat → Int32) (y_level : Nat → Int32) (y_lines : Int) (y_lineLevel : Nat → Int32) (y_lineUnits : Nat → Int32) (y_lineFrom : Nat → Int32) (y_lineMany : Nat → Int32) (y_isClosed : Nat → Int32) (y_sides : Int) (y_side : Nat → Int32) (y_sideA : Nat → Int32) (y_sideB : Nat → Int32) (y_leads : Nat → Int32) (y_isOn : Nat → Int32) (gi : Int) (vi : Int) (from_ : Int) (cl : Int) (Q : Int → (Nat → Int32) → (Nat → Int32) → (Nat → Int32) → (Nat → Int32) → (Nat → Int32) → (Nat → Int32) → (Nat → Int32) → (Nat → Int32) → (Nat → Int32) → Int → Int → Prop) : Prop :=
(∀ L9 : Int → Int → Int → Prop,
(∀ (x9_7 : Int) (x9_6 : Int) (x9_5 : Int), z_in x9_7 → z_in x9_6 → z_in x9_5 → ((x9_7 = 0 → ((y_lines = 400 → Q 0 y_lineLevel y_lineUnits y_lineFrom y_lineMany y_isClosed y_side y_sideA y_sideB y_isOn y_lines y_sides) ∧
(y_lines ≠ 400 → z_in (y_sides + x9_5) ∧ ((y_sides + x9_5 ≤ 8000 → (0 ≤ y_lines ∧ y_lines < 400) ∧ (∀ f3 : Nat → Int32, f3 = z_s y_lineLevel y_lines vi → (0 ≤ vi ∧ vi < 16) ∧ (∀ f6 : Nat → Int32, f6 = z_s y_lineUnits y_lines (1024 * (z_g y_level vi)) → (∀ f8 : Nat → Int32, f8 = z_s y_lineFrom y_lines y_sides → (∀ f10 : Nat → Int32, f10 = z_s y_lineMany y_lines x9_5 → (cl = 0 ∨ cl = 1) ∧ (∀ f13 : Nat → Int32, f13 = z_s y_isClosed y_lines cl → z_in (y_lines + 1) ∧ (∀ v15 : Int, v15 = y_lines + 1 → (∀ L152 : Int → Int → Int → (Nat → Int32) → (Nat → Int32) → (Nat → Int32) → (Nat → Int32) → Prop,
(∀ (x152_8 : Int) (x152_6 : Int) (y152_y_sides : Int) (y152_ya_side : Nat → Int32) (y152_ya_sideA : Nat → Int32) (y152_ya_sideB : Nat → Int32) (y152_ya_isOn : Nat → Int32), z_in x152_8 → z_in x152_6 → z_in y152_y_sides → ((x152_8 ≥ x9_5 → Q 1 f3 f6 f8 f10 f13 y152_ya_side y152_ya_sideA y152_ya_sideB y152_ya_isOn v15 y152_y_sides) ∧
(x152_8 < x9_5 → (0 ≤ x152_6 ∧ x152_6 < 2560) ∧ (∀ f19 : Nat → Int32, f19 = z_s y152_ya_isOn x152_6 1 → z_in (x152_6.tdiv 80) ∧ (∀ v21 : Int, v21 = x152_6.tdiv 80 → z_in (x152_6.tdiv 2) ∧ z_in ((x152_6.tdiv 2).tmod 40) ∧ (∀ v25 : Int, v25 = (x152_6.tdiv 2).tmod 40 → (0 ≤ y152_y_sides ∧ y152_y_sides < 8000) ∧ (∀ f29 : Nat → Int32, f29 = z_s y152_ya_side y152_y_sides x152_6 → (0 ≤ gi ∧ gi < 4) ∧ (0 ≤ v21 ∧ v21 < 32) ∧ (0 ≤ v25 ∧ v25 < 40) ∧ (∀ (r34 : Int), z_in r34 → (r34 = z_g y_units (1280 * gi + (40 * v21 + v25))) → (∀ f35 : Nat → Int32, f35 = z_s y152_ya_sideA y152_y_sides r34 → z_in (x152_6.tmod 2) ∧ ((x152_6.tmod 2 ≠ 0 → z_in (v21 + 1) ∧ (0 ≤ gi ∧ gi < 4) ∧ (0 ≤ (v21 + 1) ∧ (v21 + 1) < 32) ∧ (0 ≤ v25 ∧ v25 < 40) ∧ (∀ (r42 : Int), z_in r42 → (r42 = z_g y_units (1280 * gi + (40 * (v21 + 1) + v25))) → (∀ f43 : Nat → Int32, f43 = z_s y152_ya_sideB y152_y_sides r42 → z_in (y152_y_sides + 1) ∧ (∀ v45 : Int, v45 = y152_y_sides + 1 → (∀ v48 : Int, v48 = z_g y_leads x152_6 → L152 (x152_8 + 1) v48 v45 f29 f35 f43 f19))))) ∧
(x152_6.tmod 2 = 0 → z_in (v25 + 1) ∧ (0 ≤ gi ∧ gi < 4) ∧ (0 ≤ v21 ∧ v21 < 32) ∧ (0 ≤ (v25 + 1) ∧ (v25 + 1) < 40) ∧ (∀ (r54 : Int), z_in r54 → (r54 = z_g y_units (1280 * gi + (40 * v21 + (v25 + 1)))) → (∀ f55 : Nat → Int32, f55 = z_s y152_ya_sideB y152_y_sides r54 → z_in (y152_y_sides + 1) ∧ (∀ v57 : Int, v57 = y152_y_sides + 1 → (∀ v60 : Int, v60 = z_g y_leads x152_6 → L152 (x152_8 + 1) v60 v57 f29 f35 f55 f19)))))))))))))) → L152 x152_8 x152_6 y152_y_sides y152_ya_side y152_ya_sideA y152_ya_sideB y152_ya_isOn) →
L152 0 from_ y_sides y_side y_sideA y_sideB y_isOn)))))))) ∧
(y_sides + x9_5 > 8000 → Q 0 y_lineLevel y_lineUnits y_lineFrom y_lineMany y_isClosed y_side y_sideA y_sideB y_isOn y_lines y_sides))))) ∧
(x9_7 ≠ 0 → (0 ≤ x9_6 ∧ x9_6 < 2560) ∧ (∀ v63 : Int, v63 = z_g y_leads x9_6 → ((v63 < 0 → L9 0 v63 (x9_5 + 1)) ∧
(v63 ≥ 0 → ((v63 = from_ → L9 0 v63 (x9_5 + 1)) ∧
(v63 ≠ from_ → L9 1 v63 (x9_5 + 1)))))))) → L9 x9_7 x9_6 x9_5) →
L9 1 from_ 0)
set_option maxHeartbeats 4000000 in
set_option maxRecDepth 100000 in
theorem wk_X8_tellLine (l : Launch) (D : va_G) (cA : Nat → ClassId) (y : Nat) (y_space : Nat) (y_offset : Nat) (y_length : Nat) (ya_units : Nat) (y_units : Nat → Int32) (y_isThere : Nat) (y_levels : Int) (ya_level : Nat) (y_level : Nat → Int32) (y_lines : Int) (ya_lineLevel : Nat) (y_lineLevel : Nat → Int32) (ya_lineUnits : Nat) (y_lineUnits : Nat → Int32) (ya_lineFrom : Nat) (y_lineFrom : Nat → Int32) (ya_lineMany : Nat) (y_lineMany : Nat → Int32) (ya_isClosed : Nat) (y_isClosed : Nat → Int32) (y_insides : Nat) (y_parent : Nat) (y_isHigh : Nat) (y_inBits : Nat) (y_sides : Int) (ya_side : Nat) (y_side : Nat → Int32) (ya_sideA : Nat) (y_sideA : Nat → Int32) (ya_sideB : Nat) (y_sideB : Nat → Int32) (y_lineSpace : Int) (y_wasThere : Nat) (ya_leads : Nat) (y_leads : Nat → Int32) (y_isLed : Nat) (ya_isOn : Nat) (y_isOn : Nat → Int32) (y_goesTo : Nat) (y_stream : Nat) (y_filled : Nat) (y_isDone : Nat) (y_isReached : Nat) (y_newUnits : Nat) (y_isNew : Nat) (gi : Int) (vi : Int) (from_ : Int) (cl : Int) (h_y_levels : z_in y_levels) (h_y_lines : z_in y_lines) (h_y_sides : z_in y_sides) (h_y_lineSpace : z_in y_lineSpace) (h_gi : z_in gi) (h_vi : z_in vi) (h_from_ : z_in from_) (h_cl : z_in cl) (Q : Int → (Nat → Int32) → (Nat → Int32) → (Nat → Int32) → (Nat → Int32) → (Nat → Int32) → (Nat → Int32) → (Nat → Int32) → (Nat → Int32) → (Nat → Int32) → Int → Int → Prop) (hv : vc_X8_tellLine y_units y_level y_lines y_lineLevel y_lineUnits y_lineFrom y_lineMany y_isClosed y_sides y_side y_sideA y_sideB y_leads y_isOn gi vi from_ cl Q) : Met l yX8_tellLine wsX8_tellLine ({ frames := 1, cells := 0, slots := 0, locals := 23 } : Room) (va_Pc [.ref y, .int (z_i gi), .int (z_i vi), .int (z_i from_), .int (z_i cl)] (z_M0 D cA [(y, .inr (6, [.ref y_space, .ref y_offset, .ref y_length, .ref ya_units, .ref y_isThere, .int (z_i y_levels), .ref ya_level, .int (z_i y_lines), .ref ya_lineLevel, .ref ya_lineUnits, .ref ya_lineFrom, .ref ya_lineMany, .ref ya_isClosed, .ref y_insides, .ref y_parent, .ref y_isHigh, .ref y_inBits, .int (z_i y_sides), .ref ya_side, .ref ya_sideA, .ref ya_sideB, .int (z_i y_lineSpace), .ref y_wasThere, .ref ya_leads, .ref y_isLed, .ref ya_isOn, .ref y_goesTo, .ref y_stream, .ref y_filled, .ref y_isDone, .ref y_isReached, .ref y_newUnits, .ref y_isNew])), (ya_units, .inl (cA 1, 5120, .inl y_units)), (ya_level, .inl (cA 1, 16, .inl y_level)), (ya_lineLevel, .inl (cA 1, 400, .inl y_lineLevel)), (ya_lineUnits, .inl (cA 1, 400, .inl y_lineUnits)), (ya_lineFrom, .inl (cA 1, 400, .inl y_lineFrom)), (ya_lineMany, .inl (cA 1, 400, .inl y_lineMany)), (ya_isClosed, .inl (cA 3, 400, .inl y_isClosed)), (ya_side, .inl (cA 1, 8000, .inl y_side)), (ya_sideA, .inl (cA 1, 8000, .inl y_sideA)), (ya_sideB, .inl (cA 1, 8000, .inl y_sideB)), (ya_leads, .inl (cA 1, 2560, .inl y_leads)), (ya_isOn, .inl (cA 3, 2560, .inl y_isOn))])) (va_Qi (z_mi (fun v (u : (Nat → Int32) × (Nat → Int32) × (Nat → Int32) × (Nat → Int32) × (Nat → Int32) × (Nat → Int32) × (Nat → Int32) × (Nat → Int32) × (Nat → Int32) × Int × Int) => z_in u.2.2.2.2.2.2.2.2.2.1 ∧ z_in u.2.2.2.2.2.2.2.2.2.2 ∧ Q v u.1 u.2.1 u.2.2.1 u.2.2.2.1 u.2.2.2.2.1 u.2.2.2.2.2.1 u.2.2.2.2.2.2.1 u.2.2.2.2.2.2.2.1 u.2.2.2.2.2.2.2.2.1 u.2.2.2.2.2.2.2.2.2.1 u.2.2.2.2.2.2.2.2.2.2)) (fun (u : (Nat → Int32) × (Nat → Int32) × (Nat → Int32) × (Nat → Int32) × (Nat → Int32) × (Nat → Int32) × (Nat → Int32) × (Nat → Int32) × (Nat → Int32) × Int × Int) t => va_P D vwCl [(y, .inr (6, [.ref y_space, .ref y_offset, .ref y_length, .ref ya_units, .ref y_isThere, .int (z_i y_levels), .ref ya_level, .int (z_i u.2.2.2.2.2.2.2.2.2.1), .ref ya_lineLevel, .ref ya_lineUnits, .ref ya_lineFrom, .ref ya_lineMany, .ref ya_isClosed, .ref y_insides, .ref y_parent, .ref y_isHigh, .ref y_inBits, .int (z_i u.2.2.2.2.2.2.2.2.2.2), .ref ya_side, .ref ya_sideA, .ref ya_sideB, .int (z_i y_lineSpace), .ref y_wasThere, .ref ya_leads, .ref y_isLed, .ref ya_isOn, .ref y_goesTo, .ref y_stream, .ref y_filled, .ref y_isDone, .ref y_isReached, .ref y_newUnits, .ref y_isNew])), (ya_units, .inl (cA 1, 5120, .inl y_units)), (ya_level, .inl (cA 1, 16, .inl y_level)), (ya_lineLevel, .inl (cA 1, 400, .inl u.1)), (ya_lineUnits, .inl (cA 1, 400, .inl u.2.1)), (ya_lineFrom, .inl (cA 1, 400, .inl u.2.2.1)), (ya_lineMany, .inl (cA 1, 400, .inl u.2.2.2.1)), (ya_isClosed, .inl (cA 3, 400, .inl u.2.2.2.2.1)), (ya_side, .inl (cA 1, 8000, .inl u.2.2.2.2.2.1)), (ya_sideA, .inl (cA 1, 8000, .inl u.2.2.2.2.2.2.1)), (ya_sideB, .inl (cA 1, 8000, .inl u.2.2.2.2.2.2.2.1)), (ya_leads, .inl (cA 1, 2560, .inl y_leads)), (ya_isOn, .inl (cA 3, 2560, .inl u.2.2.2.2.2.2.2.2.1))] t.heap) (z_A [(y, .inr (6, [.ref y_space, .ref y_offset, .ref y_length, .ref ya_units, .ref y_isThere, .int (z_i y_levels), .ref ya_level, .int (z_i y_lines), .ref ya_lineLevel, .ref ya_lineUnits, .ref ya_lineFrom, .ref ya_lineMany, .ref ya_isClosed, .ref y_insides, .ref y_parent, .ref y_isHigh, .ref y_inBits, .int (z_i y_sides), .ref ya_side, .ref ya_sideA, .ref ya_sideB, .int (z_i y_lineSpace), .ref y_wasThere, .ref ya_leads, .ref y_isLed, .ref ya_isOn, .ref y_goesTo, .ref y_stream, .ref y_filled, .ref y_isDone, .ref y_isReached, .ref y_newUnits, .ref y_isNew])), (ya_units, .inl (cA 1, 5120, .inl y_units)), (ya_level, .inl (cA 1, 16, .inl y_level)), (ya_lineLevel, .inl (cA 1, 400, .inl y_lineLevel)), (ya_lineUnits, .inl (cA 1, 400, .inl y_lineUnits)), (ya_lineFrom, .inl (cA 1, 400, .inl y_lineFrom)), (ya_lineMany, .inl (cA 1, 400, .inl y_lineMany)), (ya_isClosed, .inl (cA 3, 400, .inl y_isClosed)), (ya_side, .inl (cA 1, 8000, .inl y_side)), (ya_sideA, .inl (cA 1, 8000, .inl y_sideA)), (ya_sideB, .inl (cA 1, 8000, .inl y_sideB)), (ya_leads, .inl (cA 1, 2560, .inl y_leads)), (ya_isOn, .inl (cA 3, 2560, .inl y_isOn))])) 0 0 (z_A [(y, .inr (6, [.ref y_space, .ref y_offset, .ref y_length, .ref ya_units, .ref y_isThere, .int (z_i y_levels), .ref ya_level, .int (z_i y_lines), .ref ya_lineLevel, .ref ya_lineUnits, .ref ya_lineFrom, .ref ya_lineMany, .ref ya_isClosed, .ref y_insides, .ref y_parent, .ref y_isHigh, .ref y_inBits, .int (z_i y_sides), .ref ya_side, .ref ya_sideA, .ref ya_sideB, .int (z_i y_lineSpace), .ref y_wasThere, .ref ya_leads, .ref y_isLed, .ref ya_isOn, .ref y_goesTo, .ref y_stream, .ref y_filled, .ref y_isDone, .ref y_isReached, .ref y_newUnits, .ref y_isNew])), (ya_units, .inl (cA 1, 5120, .inl y_units)), (ya_level, .inl (cA 1, 16, .inl y_level)), (ya_lineLevel, .inl (cA 1, 400, .inl y_lineLevel)), (ya_lineUnits, .inl (cA 1, 400, .inl y_lineUnits)), (ya_lineFrom, .inl (cA 1, 400, .inl y_lineFrom)), (ya_lineMany, .inl (cA 1, 400, .inl y_lineMany)), (ya_isClosed, .inl (cA 3, 400, .inl y_isClosed)), (ya_side, .inl (cA 1, 8000, .inl y_side)), (ya_sideA, .inl (cA 1, 8000, .inl y_sideA)), (ya_sideB, .inl (cA 1, 8000, .inl y_sideB)), (ya_leads, .inl (cA 1, 2560, .inl y_leads)), (ya_isOn, .inl (cA 3, 2560, .inl y_isOn))]) := by
  unfold vc_X8_tellLine at hv
  refine Met.ofW (cc := cX8_tellLine) (maxL := 11) (ret := (some .boolean)) (by decide +kernel) rfl ?_
  intro p e s m args below meth c s₁ B hml hv0
  obtain ⟨rfl, hK, hP, hD0⟩ := hv0
  have hx := B.exec
  have hb := B.bytes
  have hr := B.returns
  have hts := atoms_spec (ws := wsX8_tellLine) B.pre
  have hown : s.vm.findClass RX8 = some m.cls := findClass_of_methodNamed B.named
  have hlocks := B.notSynchronized
  have hD := z_D_self hD0
  generalize hAe : z_A [(y, .inr (6, [.ref y_space, .ref y_offset, .ref y_length, .ref ya_units, .ref y_isThere, .int (z_i y_levels), .ref ya_level, .int (z_i y_lines), .ref ya_lineLevel, .ref ya_lineUnits, .ref ya_lineFrom, .ref ya_lineMany, .ref ya_isClosed, .ref y_insides, .ref y_parent, .ref y_isHigh, .ref y_inBits, .int (z_i y_sides), .ref ya_side, .ref ya_sideA, .ref ya_sideB, .int (z_i y_lineSpace), .ref y_wasThere, .ref ya_leads, .ref y_isLed, .ref ya_isOn, .ref y_goesTo, .ref y_stream, .ref y_filled, .ref y_isDone, .ref y_isReached, .ref y_newUnits, .ref y_isNew])), (ya_units, .inl (cA 1, 5120, .inl y_units)), (ya_level, .inl (cA 1, 16, .inl y_level)), (ya_lineLevel, .inl (cA 1, 400, .inl y_lineLevel)), (ya_lineUnits, .inl (cA 1, 400, .inl y_lineUnits)), (ya_lineFrom, .inl (cA 1, 400, .inl y_lineFrom)), (ya_lineMany, .inl (cA 1, 400, .inl y_lineMany)), (ya_isClosed, .inl (cA 3, 400, .inl y_isClosed)), (ya_side, .inl (cA 1, 8000, .inl y_side)), (ya_sideA, .inl (cA 1, 8000, .inl y_sideA)), (ya_sideB, .inl (cA 1, 8000, .inl y_sideB)), (ya_leads, .inl (cA 1, 2560, .inl y_leads)), (ya_isOn, .inl (cA 3, 2560, .inl y_isOn))] = A at *
  have hS : va_S A s.heap s.heap [] := va_S.rf
  have hl := lv_entry ([.ref y, .int (z_i gi), .int (z_i vi), .int (z_i from_), .int (z_i cl)]) (n := 11) (Nat.le_of_ble_eq_true rfl)
  rw [lg_entry_eq]
  generalize (lg_sl ([.ref y, .int (z_i gi), .int (z_i vi), .int (z_i from_), .int (z_i cl)]) ++ List.replicate (11 - (lg_sl ([.ref y, .int (z_i gi), .int (z_i vi), .int (z_i from_), .int (z_i cl)])).length) Slot.unset).toArray = ls at hl ⊢
  have hl : lv_has ls 11 [(0, .ref y), (1, .int (z_i gi)), (2, .int (z_i vi)), (3, .int (z_i from_)), (4, .int (z_i cl))] := hl
  refine lv_iconst (v := z_i 0) hx hb dX8_tellLine_0 rfl ?_
  refine lv_istore (lv' := [(5, .int (z_i 0)), (0, .ref y), (1, .int (z_i gi)), (2, .int (z_i vi)), (3, .int (z_i from_)), (4, .int (z_i cl))]) hx hb dX8_tellLine_1 hl (by decide) rfl (fun ls hl => ?_)
  refine lv_iload_n hx hb dX8_tellLine_3 rfl (lv_at hl 4 rfl) ?_
  refine lv_istore (lv' := [(6, .int (z_i from_)), (5, .int (z_i 0)), (0, .ref y), (1, .int (z_i gi)), (2, .int (z_i vi)), (3, .int (z_i from_)), (4, .int (z_i cl))]) hx hb dX8_tellLine_4 hl (by decide) rfl (fun ls hl => ?_)
  refine lv_iconst (v := z_i 1) hx hb dX8_tellLine_6 rfl ?_
  refine lv_istore (lv' := [(7, .int (z_i 1)), (6, .int (z_i from_)), (5, .int (z_i 0)), (0, .ref y), (1, .int (z_i gi)), (2, .int (z_i vi)), (3, .int (z_i from_)), (4, .int (z_i cl))]) hx hb dX8_tellLine_7 hl (by decide) rfl (fun ls hl => ?_)
  refine hv (fun (x9_7 : Int) (x9_6 : Int) (x9_5 : Int) => ∀ (H : Heap) (locs : List Loc) (ls : Array Slot), va_P D vwCl [(y, .inr (6, [.ref y_space, .ref y_offset, .ref y_length, .ref ya_units, .ref y_isThere, .int (z_i y_levels), .ref ya_level, .int (z_i y_lines), .ref ya_lineLevel, .ref ya_lineUnits, .ref ya_lineFrom, .ref ya_lineMany, .ref ya_isClosed, .ref y_insides, .ref y_parent, .ref y_isHigh, .ref y_inBits, .int (z_i y_sides), .ref ya_side, .ref ya_sideA, .ref ya_sideB, .int (z_i y_lineSpace), .ref y_wasThere, .ref ya_leads, .ref y_isLed, .ref ya_isOn, .ref y_goesTo, .ref y_stream, .ref y_filled, .ref y_isDone, .ref y_isReached, .ref y_newUnits, .ref y_isNew])), (ya_units, .inl (cA 1, 5120, .inl y_units)), (ya_level, .inl (cA 1, 16, .inl y_level)), (ya_lineLevel, .inl (cA 1, 400, .inl y_lineLevel)), (ya_lineUnits, .inl (cA 1, 400, .inl y_lineUnits)), (ya_lineFrom, .inl (cA 1, 400, .inl y_lineFrom)), (ya_lineMany, .inl (cA 1, 400, .inl y_lineMany)), (ya_isClosed, .inl (cA 3, 400, .inl y_isClosed)), (ya_side, .inl (cA 1, 8000, .inl y_side)), (ya_sideA, .inl (cA 1, 8000, .inl y_sideA)), (ya_sideB, .inl (cA 1, 8000, .inl y_sideB)), (ya_leads, .inl (cA 1, 2560, .inl y_leads)), (ya_isOn, .inl (cA 3, 2560, .inl y_isOn))] H → va_D A [(y, .inr (6, [.ref y_space, .ref y_offset, .ref y_length, .ref ya_units, .ref y_isThere, .int (z_i y_levels), .ref ya_level, .int (z_i y_lines), .ref ya_lineLevel, .ref ya_lineUnits, .ref ya_lineFrom, .ref ya_lineMany, .ref ya_isClosed, .ref y_insides, .ref y_parent, .ref y_isHigh, .ref y_inBits, .int (z_i y_sides), .ref ya_side, .ref ya_sideA, .ref ya_sideB, .int (z_i y_lineSpace), .ref y_wasThere, .ref ya_leads, .ref y_isLed, .ref ya_isOn, .ref y_goesTo, .ref y_stream, .ref y_filled, .ref y_isDone, .ref y_isReached, .ref y_newUnits, .ref y_isNew])), (ya_units, .inl (cA 1, 5120, .inl y_units)), (ya_level, .inl (cA 1, 16, .inl y_level)), (ya_lineLevel, .inl (cA 1, 400, .inl y_lineLevel)), (ya_lineUnits, .inl (cA 1, 400, .inl y_lineUnits)), (ya_lineFrom, .inl (cA 1, 400, .inl y_lineFrom)), (ya_lineMany, .inl (cA 1, 400, .inl y_lineMany)), (ya_isClosed, .inl (cA 3, 400, .inl y_isClosed)), (ya_side, .inl (cA 1, 8000, .inl y_side)), (ya_sideA, .inl (cA 1, 8000, .inl y_sideA)), (ya_sideB, .inl (cA 1, 8000, .inl y_sideB)), (ya_leads, .inl (cA 1, 2560, .inl y_leads)), (ya_isOn, .inl (cA 3, 2560, .inl y_isOn))] → va_S A s.heap H locs → lv_has ls 11 [(7, .int (z_i x9_7)), (6, .int (z_i x9_6)), (5, .int (z_i x9_5)), (0, .ref y), (1, .int (z_i gi)), (2, .int (z_i vi)), (3, .int (z_i from_)), (4, .int (z_i cl))] → W p l e _ s m _ below meth c H locs 0 0 _ (F0 m 9 ls [])) ?_ _ _ ls hP hD hS (lv_sub hl [0, 1, 2, 3, 4, 5, 6, 7] rfl)
  intro x9_7 x9_6 x9_5 h_x9_7 h_x9_6 h_x9_5 hv H locs ls hP hD hS hl
  refine lv_iload hx hb dX8_tellLine_9 (lv_at hl 0 rfl) ?_
  refine lx_if_eq (tgt := 47) hx hb dX8_tellLine_11 (by decide) h_x9_7 (fun hc => ?_) (fun hc => ?_)
  · have hv := hv.1 hc
    refine lv_aload_n hx hb dX8_tellLine_47 rfl (lv_at hl 3 rfl) ?_
    refine va_get (D := D) (ci := 6) (v := .int (z_i y_lines)) (C := RX8) (T := TX8) (N := 33) hx hb hts (fun w h => List.mem_cons_of_mem _ (List.mem_append_right _ h)) hown hK hP 0 rfl rfl 7 (by decide) (hts (.fieldLink RX8 156 "ContourSheetsModel" "lines" "I") (by decide +kernel)) (fun _ h9 => h9) rfl dX8_tellLine_48 ?_
    refine lv_sipush (v := z_i 400) hx hb dX8_tellLine_51 (by decide) ?_
    refine lx_icmp_eq (tgt := 70) hx hb dX8_tellLine_54 (by decide) h_y_lines (show z_in 400 from ⟨by decide, by decide⟩) (fun hc => ?_) (fun hc => ?_)
    · have hv := hv.1 hc
      refine lv_iconst (v := z_i 0) hx hb dX8_tellLine_70 rfl ?_
      exact W.zret (v := z_i 0) hx hb hr (by decide) (fun t ht hW => ⟨⟨z_i 0, (y_lineLevel, y_lineUnits, y_lineFrom, y_lineMany, y_isClosed, y_side, y_sideA, y_sideB, y_isOn, y_lines, y_sides), rfl, ⟨0, rfl, (show z_in 0 from ⟨by decide, by decide⟩), h_y_lines, h_y_sides, hv⟩, z_pt hP ht⟩, hS.F ht⟩) hS.2.2 dX8_tellLine_71
    · have hv := hv.2 hc
      refine lv_aload_n hx hb dX8_tellLine_57 rfl (lv_at hl 3 rfl) ?_
      refine va_get (D := D) (ci := 6) (v := .int (z_i y_sides)) (C := RX8) (T := TX8) (N := 33) hx hb hts (fun w h => List.mem_cons_of_mem _ (List.mem_append_right _ h)) hown hK hP 0 rfl rfl 17 (by decide) (hts (.fieldLink RX8 159 "ContourSheetsModel" "sides" "I") (by decide +kernel)) (fun _ h9 => h9) rfl dX8_tellLine_58 ?_
      refine lv_iload hx hb dX8_tellLine_61 (lv_at hl 2 rfl) ?_
      refine lx_iadd hx hb dX8_tellLine_63 ?_
      refine lv_sipush (v := z_i 8000) hx hb dX8_tellLine_64 (by decide) ?_
      obtain ⟨hr1, hv⟩ := hv
      refine lx_icmp_le (tgt := 72) hx hb dX8_tellLine_67 (by decide) hr1 (show z_in 8000 from ⟨by decide, by decide⟩) (fun hc => ?_) (fun hc => ?_)
      · have hv := hv.1 hc
        refine lv_aload_n hx hb dX8_tellLine_72 rfl (lv_at hl 3 rfl) ?_
        refine va_get (D := D) (ci := 6) (v := .ref ya_lineLevel) (C := RX8) (T := TX8) (N := 33) hx hb hts (fun w h => List.mem_cons_of_mem _ (List.mem_append_right _ h)) hown hK hP 0 rfl rfl 8 (by decide) (hts (.fieldLink RX8 29 "ContourSheetsModel" "lineLevel" "[I") (by decide +kernel)) (fun _ h9 => h9) rfl dX8_tellLine_73 ?_
        refine lv_aload_n hx hb dX8_tellLine_76 rfl (lv_at hl 3 rfl) ?_
        refine va_get (D := D) (ci := 6) (v := .int (z_i y_lines)) (C := RX8) (T := TX8) (N := 33) hx hb hts (fun w h => List.mem_cons_of_mem _ (List.mem_append_right _ h)) hown hK hP 0 rfl rfl 7 (by decide) (hts (.fieldLink RX8 156 "ContourSheetsModel" "lines" "I") (by decide +kernel)) (fun _ h9 => h9) rfl dX8_tellLine_77 ?_
        refine lv_iload_n hx hb dX8_tellLine_80 rfl (lv_at hl 5 rfl) ?_
        obtain ⟨hi2, hv⟩ := hv
        refine lx_iast hx hb hK hP hD hS 3 1 rfl rfl (by decide) hi2.1 hi2.2 dX8_tellLine_81 (fun H locs hP hD hS => ?_)
        obtain ⟨f3, hy4⟩ : ∃ y : Nat → Int32, y = z_s y_lineLevel y_lines vi := ⟨_, rfl⟩
        have hv := hv f3 hy4
        have hP : va_P D vwCl [(y, .inr (6, [.ref y_space, .ref y_offset, .ref y_length, .ref ya_units, .ref y_isThere, .int (z_i y_levels), .ref ya_level, .int (z_i y_lines), .ref ya_lineLevel, .ref ya_lineUnits, .ref ya_lineFrom, .ref ya_lineMany, .ref ya_isClosed, .ref y_insides, .ref y_parent, .ref y_isHigh, .ref y_inBits, .int (z_i y_sides), .ref ya_side, .ref ya_sideA, .ref ya_sideB, .int (z_i y_lineSpace), .ref y_wasThere, .ref ya_leads, .ref y_isLed, .ref ya_isOn, .ref y_goesTo, .ref y_stream, .ref y_filled, .ref y_isDone, .ref y_isReached, .ref y_newUnits, .ref y_isNew])), (ya_units, .inl (cA 1, 5120, .inl y_units)), (ya_level, .inl (cA 1, 16, .inl y_level)), (ya_lineLevel, .inl (cA 1, 400, .inl f3)), (ya_lineUnits, .inl (cA 1, 400, .inl y_lineUnits)), (ya_lineFrom, .inl (cA 1, 400, .inl y_lineFrom)), (ya_lineMany, .inl (cA 1, 400, .inl y_lineMany)), (ya_isClosed, .inl (cA 3, 400, .inl y_isClosed)), (ya_side, .inl (cA 1, 8000, .inl y_side)), (ya_sideA, .inl (cA 1, 8000, .inl y_sideA)), (ya_sideB, .inl (cA 1, 8000, .inl y_sideB)), (ya_leads, .inl (cA 1, 2560, .inl y_leads)), (ya_isOn, .inl (cA 3, 2560, .inl y_isOn))] H := by rw [hy4]; exact hP
        have hD : va_D A [(y, .inr (6, [.ref y_space, .ref y_offset, .ref y_length, .ref ya_units, .ref y_isThere, .int (z_i y_levels), .ref ya_level, .int (z_i y_lines), .ref ya_lineLevel, .ref ya_lineUnits, .ref ya_lineFrom, .ref ya_lineMany, .ref ya_isClosed, .ref y_insides, .ref y_parent, .ref y_isHigh, .ref y_inBits, .int (z_i y_sides), .ref ya_side, .ref ya_sideA, .ref ya_sideB, .int (z_i y_lineSpace), .ref y_wasThere, .ref ya_leads, .ref y_isLed, .ref ya_isOn, .ref y_goesTo, .ref y_stream, .ref y_filled, .ref y_isDone, .ref y_isReached, .ref y_newUnits, .ref y_isNew])), (ya_units, .inl (cA 1, 5120, .inl y_units)), (ya_level, .inl (cA 1, 16, .inl y_level)), (ya_lineLevel, .inl (cA 1, 400, .inl f3)), (ya_lineUnits, .inl (cA 1, 400, .inl y_lineUnits)), (ya_lineFrom, .inl (cA 1, 400, .inl y_lineFrom)), (ya_lineMany, .inl (cA 1, 400, .inl y_lineMany)), (ya_isClosed, .inl (cA 3, 400, .inl y_isClosed)), (ya_side, .inl (cA 1, 8000, .inl y_side)), (ya_sideA, .inl (cA 1, 8000, .inl y_sideA)), (ya_sideB, .inl (cA 1, 8000, .inl y_sideB)), (ya_leads, .inl (cA 1, 2560, .inl y_leads)), (ya_isOn, .inl (cA 3, 2560, .inl y_isOn))] := by rw [hy4]; exact hD
        refine lv_aload_n hx hb dX8_tellLine_82 rfl (lv_at hl 3 rfl) ?_
        refine va_get (D := D) (ci := 6) (v := .ref ya_lineUnits) (C := RX8) (T := TX8) (N := 33) hx hb hts (fun w h => List.mem_cons_of_mem _ (List.mem_append_right _ h)) hown hK hP 0 rfl rfl 9 (by decide) (hts (.fieldLink RX8 32 "ContourSheetsModel" "lineUnits" "[I") (by decide +kernel)) (fun _ h9 => h9) rfl dX8_tellLine_83 ?_
        refine lv_aload_n hx hb dX8_tellLine_86 rfl (lv_at hl 3 rfl) ?_
        refine va_get (D := D) (ci := 6) (v := .int (z_i y_lines)) (C := RX8) (T := TX8) (N := 33) hx hb hts (fun w h => List.mem_cons_of_mem _ (List.mem_append_right _ h)) hown hK hP 0 rfl rfl 7 (by decide) (hts (.fieldLink RX8 156 "ContourSheetsModel" "lines" "I") (by decide +kernel)) (fun _ h9 => h9) rfl dX8_tellLine_87 ?_
        refine lv_sipush (v := z_i 1024) hx hb dX8_tellLine_90 (by decide) ?_
        refine lv_aload_n hx hb dX8_tellLine_93 rfl (lv_at hl 3 rfl) ?_
        refine va_get (D := D) (ci := 6) (v := .ref ya_level) (C := RX8) (T := TX8) (N := 33) hx hb hts (fun w h => List.mem_cons_of_mem _ (List.mem_append_right _ h)) hown hK hP 0 rfl rfl 6 (by decide) (hts (.fieldLink RX8 26 "ContourSheetsModel" "level" "[I") (by decide +kernel)) (fun _ h9 => h9) rfl dX8_tellLine_94 ?_
        refine lv_iload_n hx hb dX8_tellLine_97 rfl (lv_at hl 5 rfl) ?_
        obtain ⟨hi5, hv⟩ := hv
        refine lx_iald hx hb hK hP 2 1 rfl rfl (by decide) hi5.1 hi5.2 dX8_tellLine_98 ?_
        refine lx_imul hx hb dX8_tellLine_99 ?_
        refine lx_iast hx hb hK hP hD hS 4 1 rfl rfl (by decide) hi2.1 hi2.2 dX8_tellLine_100 (fun H locs hP hD hS => ?_)
        obtain ⟨f6, hy7⟩ : ∃ y : Nat → Int32, y = z_s y_lineUnits y_lines (1024 * (z_g y_level vi)) := ⟨_, rfl⟩
        have hv := hv f6 hy7
        have hP : va_P D vwCl [(y, .inr (6, [.ref y_space, .ref y_offset, .ref y_length, .ref ya_units, .ref y_isThere, .int (z_i y_levels), .ref ya_level, .int (z_i y_lines), .ref ya_lineLevel, .ref ya_lineUnits, .ref ya_lineFrom, .ref ya_lineMany, .ref ya_isClosed, .ref y_insides, .ref y_parent, .ref y_isHigh, .ref y_inBits, .int (z_i y_sides), .ref ya_side, .ref ya_sideA, .ref ya_sideB, .int (z_i y_lineSpace), .ref y_wasThere, .ref ya_leads, .ref y_isLed, .ref ya_isOn, .ref y_goesTo, .ref y_stream, .ref y_filled, .ref y_isDone, .ref y_isReached, .ref y_newUnits, .ref y_isNew])), (ya_units, .inl (cA 1, 5120, .inl y_units)), (ya_level, .inl (cA 1, 16, .inl y_level)), (ya_lineLevel, .inl (cA 1, 400, .inl f3)), (ya_lineUnits, .inl (cA 1, 400, .inl f6)), (ya_lineFrom, .inl (cA 1, 400, .inl y_lineFrom)), (ya_lineMany, .inl (cA 1, 400, .inl y_lineMany)), (ya_isClosed, .inl (cA 3, 400, .inl y_isClosed)), (ya_side, .inl (cA 1, 8000, .inl y_side)), (ya_sideA, .inl (cA 1, 8000, .inl y_sideA)), (ya_sideB, .inl (cA 1, 8000, .inl y_sideB)), (ya_leads, .inl (cA 1, 2560, .inl y_leads)), (ya_isOn, .inl (cA 3, 2560, .inl y_isOn))] H := by rw [hy7]; exact hP
        have hD : va_D A [(y, .inr (6, [.ref y_space, .ref y_offset, .ref y_length, .ref ya_units, .ref y_isThere, .int (z_i y_levels), .ref ya_level, .int (z_i y_lines), .ref ya_lineLevel, .ref ya_lineUnits, .ref ya_lineFrom, .ref ya_lineMany, .ref ya_isClosed, .ref y_insides, .ref y_parent, .ref y_isHigh, .ref y_inBits, .int (z_i y_sides), .ref ya_side, .ref ya_sideA, .ref ya_sideB, .int (z_i y_lineSpace), .ref y_wasThere, .ref ya_leads, .ref y_isLed, .ref ya_isOn, .ref y_goesTo, .ref y_stream, .ref y_filled, .ref y_isDone, .ref y_isReached, .ref y_newUnits, .ref y_isNew])), (ya_units, .inl (cA 1, 5120, .inl y_units)), (ya_level, .inl (cA 1, 16, .inl y_level)), (ya_lineLevel, .inl (cA 1, 400, .inl f3)), (ya_lineUnits, .inl (cA 1, 400, .inl f6)), (ya_lineFrom, .inl (cA 1, 400, .inl y_lineFrom)), (ya_lineMany, .inl (cA 1, 400, .inl y_lineMany)), (ya_isClosed, .inl (cA 3, 400, .inl y_isClosed)), (ya_side, .inl (cA 1, 8000, .inl y_side)), (ya_sideA, .inl (cA 1, 8000, .inl y_sideA)), (ya_sideB, .inl (cA 1, 8000, .inl y_sideB)), (ya_leads, .inl (cA 1, 2560, .inl y_leads)), (ya_isOn, .inl (cA 3, 2560, .inl y_isOn))] := by rw [hy7]; exact hD
        refine lv_aload_n hx hb dX8_tellLine_101 rfl (lv_at hl 3 rfl) ?_
        refine va_get (D := D) (ci := 6) (v := .ref ya_lineFrom) (C := RX8) (T := TX8) (N := 33) hx hb hts (fun w h => List.mem_cons_of_mem _ (List.mem_append_right _ h)) hown hK hP 0 rfl rfl 10 (by decide) (hts (.fieldLink RX8 35 "ContourSheetsModel" "lineFrom" "[I") (by decide +kernel)) (fun _ h9 => h9) rfl dX8_tellLine_102 ?_
        refine lv_aload_n hx hb dX8_tellLine_105 rfl (lv_at hl 3 rfl) ?_
        refine va_get (D := D) (ci := 6) (v := .int (z_i y_lines)) (C := RX8) (T := TX8) (N := 33) hx hb hts (fun w h => List.mem_cons_of_mem _ (List.mem_append_right _ h)) hown hK hP 0 rfl rfl 7 (by decide) (hts (.fieldLink RX8 156 "ContourSheetsModel" "lines" "I") (by decide +kernel)) (fun _ h9 => h9) rfl dX8_tellLine_106 ?_
        refine lv_aload_n hx hb dX8_tellLine_109 rfl (lv_at hl 3 rfl) ?_
        refine va_get (D := D) (ci := 6) (v := .int (z_i y_sides)) (C := RX8) (T := TX8) (N := 33) hx hb hts (fun w h => List.mem_cons_of_mem _ (List.mem_append_right _ h)) hown hK hP 0 rfl rfl 17 (by decide) (hts (.fieldLink RX8 159 "ContourSheetsModel" "sides" "I") (by decide +kernel)) (fun _ h9 => h9) rfl dX8_tellLine_110 ?_
        refine lx_iast hx hb hK hP hD hS 5 1 rfl rfl (by decide) hi2.1 hi2.2 dX8_tellLine_113 (fun H locs hP hD hS => ?_)
        obtain ⟨f8, hy9⟩ : ∃ y : Nat → Int32, y = z_s y_lineFrom y_lines y_sides := ⟨_, rfl⟩
        have hv := hv f8 hy9
        have hP : va_P D vwCl [(y, .inr (6, [.ref y_space, .ref y_offset, .ref y_length, .ref ya_units, .ref y_isThere, .int (z_i y_levels), .ref ya_level, .int (z_i y_lines), .ref ya_lineLevel, .ref ya_lineUnits, .ref ya_lineFrom, .ref ya_lineMany, .ref ya_isClosed, .ref y_insides, .ref y_parent, .ref y_isHigh, .ref y_inBits, .int (z_i y_sides), .ref ya_side, .ref ya_sideA, .ref ya_sideB, .int (z_i y_lineSpace), .ref y_wasThere, .ref ya_leads, .ref y_isLed, .ref ya_isOn, .ref y_goesTo, .ref y_stream, .ref y_filled, .ref y_isDone, .ref y_isReached, .ref y_newUnits, .ref y_isNew])), (ya_units, .inl (cA 1, 5120, .inl y_units)), (ya_level, .inl (cA 1, 16, .inl y_level)), (ya_lineLevel, .inl (cA 1, 400, .inl f3)), (ya_lineUnits, .inl (cA 1, 400, .inl f6)), (ya_lineFrom, .inl (cA 1, 400, .inl f8)), (ya_lineMany, .inl (cA 1, 400, .inl y_lineMany)), (ya_isClosed, .inl (cA 3, 400, .inl y_isClosed)), (ya_side, .inl (cA 1, 8000, .inl y_side)), (ya_sideA, .inl (cA 1, 8000, .inl y_sideA)), (ya_sideB, .inl (cA 1, 8000, .inl y_sideB)), (ya_leads, .inl (cA 1, 2560, .inl y_leads)), (ya_isOn, .inl (cA 3, 2560, .inl y_isOn))] H := by rw [hy9]; exact hP
        have hD : va_D A [(y, .inr (6, [.ref y_space, .ref y_offset, .ref y_length, .ref ya_units, .ref y_isThere, .int (z_i y_levels), .ref ya_level, .int (z_i y_lines), .ref ya_lineLevel, .ref ya_lineUnits, .ref ya_lineFrom, .ref ya_lineMany, .ref ya_isClosed, .ref y_insides, .ref y_parent, .ref y_isHigh, .ref y_inBits, .int (z_i y_sides), .ref ya_side, .ref ya_sideA, .ref ya_sideB, .int (z_i y_lineSpace), .ref y_wasThere, .ref ya_leads, .ref y_isLed, .ref ya_isOn, .ref y_goesTo, .ref y_stream, .ref y_filled, .ref y_isDone, .ref y_isReached, .ref y_newUnits, .ref y_isNew])), (ya_units, .inl (cA 1, 5120, .inl y_units)), (ya_level, .inl (cA 1, 16, .inl y_level)), (ya_lineLevel, .inl (cA 1, 400, .inl f3)), (ya_lineUnits, .inl (cA 1, 400, .inl f6)), (ya_lineFrom, .inl (cA 1, 400, .inl f8)), (ya_lineMany, .inl (cA 1, 400, .inl y_lineMany)), (ya_isClosed, .inl (cA 3, 400, .inl y_isClosed)), (ya_side, .inl (cA 1, 8000, .inl y_side)), (ya_sideA, .inl (cA 1, 8000, .inl y_sideA)), (ya_sideB, .inl (cA 1, 8000, .inl y_sideB)), (ya_leads, .inl (cA 1, 2560, .inl y_leads)), (ya_isOn, .inl (cA 3, 2560, .inl y_isOn))] := by rw [hy9]; exact hD
        refine lv_aload_n hx hb dX8_tellLine_114 rfl (lv_at hl 3 rfl) ?_
        refine va_get (D := D) (ci := 6) (v := .ref ya_lineMany) (C := RX8) (T := TX8) (N := 33) hx hb hts (fun w h => List.mem_cons_of_mem _ (List.mem_append_right _ h)) hown hK hP 0 rfl rfl 11 (by decide) (hts (.fieldLink RX8 38 "ContourSheetsModel" "lineMany" "[I") (by decide +kernel)) (fun _ h9 => h9) rfl dX8_tellLine_115 ?_
        refine lv_aload_n hx hb dX8_tellLine_118 rfl (lv_at hl 3 rfl) ?_
        refine va_get (D := D) (ci := 6) (v := .int (z_i y_lines)) (C := RX8) (T := TX8) (N := 33) hx hb hts (fun w h => List.mem_cons_of_mem _ (List.mem_append_right _ h)) hown hK hP 0 rfl rfl 7 (by decide) (hts (.fieldLink RX8 156 "ContourSheetsModel" "lines" "I") (by decide +kernel)) (fun _ h9 => h9) rfl dX8_tellLine_119 ?_
        refine lv_iload hx hb dX8_tellLine_122 (lv_at hl 2 rfl) ?_
        refine lx_iast hx hb hK hP hD hS 6 1 rfl rfl (by decide) hi2.1 hi2.2 dX8_tellLine_124 (fun H locs hP hD hS => ?_)
        obtain ⟨f10, hy11⟩ : ∃ y : Nat → Int32, y = z_s y_lineMany y_lines x9_5 := ⟨_, rfl⟩
        have hv := hv f10 hy11
        have hP : va_P D vwCl [(y, .inr (6, [.ref y_space, .ref y_offset, .ref y_length, .ref ya_units, .ref y_isThere, .int (z_i y_levels), .ref ya_level, .int (z_i y_lines), .ref ya_lineLevel, .ref ya_lineUnits, .ref ya_lineFrom, .ref ya_lineMany, .ref ya_isClosed, .ref y_insides, .ref y_parent, .ref y_isHigh, .ref y_inBits, .int (z_i y_sides), .ref ya_side, .ref ya_sideA, .ref ya_sideB, .int (z_i y_lineSpace), .ref y_wasThere, .ref ya_leads, .ref y_isLed, .ref ya_isOn, .ref y_goesTo, .ref y_stream, .ref y_filled, .ref y_isDone, .ref y_isReached, .ref y_newUnits, .ref y_isNew])), (ya_units, .inl (cA 1, 5120, .inl y_units)), (ya_level, .inl (cA 1, 16, .inl y_level)), (ya_lineLevel, .inl (cA 1, 400, .inl f3)), (ya_lineUnits, .inl (cA 1, 400, .inl f6)), (ya_lineFrom, .inl (cA 1, 400, .inl f8)), (ya_lineMany, .inl (cA 1, 400, .inl f10)), (ya_isClosed, .inl (cA 3, 400, .inl y_isClosed)), (ya_side, .inl (cA 1, 8000, .inl y_side)), (ya_sideA, .inl (cA 1, 8000, .inl y_sideA)), (ya_sideB, .inl (cA 1, 8000, .inl y_sideB)), (ya_leads, .inl (cA 1, 2560, .inl y_leads)), (ya_isOn, .inl (cA 3, 2560, .inl y_isOn))] H := by rw [hy11]; exact hP
        have hD : va_D A [(y, .inr (6, [.ref y_space, .ref y_offset, .ref y_length, .ref ya_units, .ref y_isThere, .int (z_i y_levels), .ref ya_level, .int (z_i y_lines), .ref ya_lineLevel, .ref ya_lineUnits, .ref ya_lineFrom, .ref ya_lineMany, .ref ya_isClosed, .ref y_insides, .ref y_parent, .ref y_isHigh, .ref y_inBits, .int (z_i y_sides), .ref ya_side, .ref ya_sideA, .ref ya_sideB, .int (z_i y_lineSpace), .ref y_wasThere, .ref ya_leads, .ref y_isLed, .ref ya_isOn, .ref y_goesTo, .ref y_stream, .ref y_filled, .ref y_isDone, .ref y_isReached, .ref y_newUnits, .ref y_isNew])), (ya_units, .inl (cA 1, 5120, .inl y_units)), (ya_level, .inl (cA 1, 16, .inl y_level)), (ya_lineLevel, .inl (cA 1, 400, .inl f3)), (ya_lineUnits, .inl (cA 1, 400, .inl f6)), (ya_lineFrom, .inl (cA 1, 400, .inl f8)), (ya_lineMany, .inl (cA 1, 400, .inl f10)), (ya_isClosed, .inl (cA 3, 400, .inl y_isClosed)), (ya_side, .inl (cA 1, 8000, .inl y_side)), (ya_sideA, .inl (cA 1, 8000, .inl y_sideA)), (ya_sideB, .inl (cA 1, 8000, .inl y_sideB)), (ya_leads, .inl (cA 1, 2560, .inl y_leads)), (ya_isOn, .inl (cA 3, 2560, .inl y_isOn))] := by rw [hy11]; exact hD
        refine lv_aload_n hx hb dX8_tellLine_125 rfl (lv_at hl 3 rfl) ?_
        refine va_get (D := D) (ci := 6) (v := .ref ya_isClosed) (C := RX8) (T := TX8) (N := 33) hx hb hts (fun w h => List.mem_cons_of_mem _ (List.mem_append_right _ h)) hown hK hP 0 rfl rfl 12 (by decide) (hts (.fieldLink RX8 41 "ContourSheetsModel" "isClosed" "[Z") (by decide +kernel)) (fun _ h9 => h9) rfl dX8_tellLine_126 ?_
        refine lv_aload_n hx hb dX8_tellLine_129 rfl (lv_at hl 3 rfl) ?_
        refine va_get (D := D) (ci := 6) (v := .int (z_i y_lines)) (C := RX8) (T := TX8) (N := 33) hx hb hts (fun w h => List.mem_cons_of_mem _ (List.mem_append_right _ h)) hown hK hP 0 rfl rfl 7 (by decide) (hts (.fieldLink RX8 156 "ContourSheetsModel" "lines" "I") (by decide +kernel)) (fun _ h9 => h9) rfl dX8_tellLine_130 ?_
        refine lv_iload hx hb dX8_tellLine_133 (lv_at hl 7 rfl) ?_
        obtain ⟨hb12, hv⟩ := hv
        refine lx_zast hx hb hK hP hD hS 7 3 rfl rfl (by decide) hi2.1 hi2.2 hb12 dX8_tellLine_135 (fun H locs hP hD hS => ?_)
        obtain ⟨f13, hy14⟩ : ∃ y : Nat → Int32, y = z_s y_isClosed y_lines cl := ⟨_, rfl⟩
        have hv := hv f13 hy14
        have hP : va_P D vwCl [(y, .inr (6, [.ref y_space, .ref y_offset, .ref y_length, .ref ya_units, .ref y_isThere, .int (z_i y_levels), .ref ya_level, .int (z_i y_lines), .ref ya_lineLevel, .ref ya_lineUnits, .ref ya_lineFrom, .ref ya_lineMany, .ref ya_isClosed, .ref y_insides, .ref y_parent, .ref y_isHigh, .ref y_inBits, .int (z_i y_sides), .ref ya_side, .ref ya_sideA, .ref ya_sideB, .int (z_i y_lineSpace), .ref y_wasThere, .ref ya_leads, .ref y_isLed, .ref ya_isOn, .ref y_goesTo, .ref y_stream, .ref y_filled, .ref y_isDone, .ref y_isReached, .ref y_newUnits, .ref y_isNew])), (ya_units, .inl (cA 1, 5120, .inl y_units)), (ya_level, .inl (cA 1, 16, .inl y_level)), (ya_lineLevel, .inl (cA 1, 400, .inl f3)), (ya_lineUnits, .inl (cA 1, 400, .inl f6)), (ya_lineFrom, .inl (cA 1, 400, .inl f8)), (ya_lineMany, .inl (cA 1, 400, .inl f10)), (ya_isClosed, .inl (cA 3, 400, .inl f13)), (ya_side, .inl (cA 1, 8000, .inl y_side)), (ya_sideA, .inl (cA 1, 8000, .inl y_sideA)), (ya_sideB, .inl (cA 1, 8000, .inl y_sideB)), (ya_leads, .inl (cA 1, 2560, .inl y_leads)), (ya_isOn, .inl (cA 3, 2560, .inl y_isOn))] H := by rw [hy14]; exact hP
        have hD : va_D A [(y, .inr (6, [.ref y_space, .ref y_offset, .ref y_length, .ref ya_units, .ref y_isThere, .int (z_i y_levels), .ref ya_level, .int (z_i y_lines), .ref ya_lineLevel, .ref ya_lineUnits, .ref ya_lineFrom, .ref ya_lineMany, .ref ya_isClosed, .ref y_insides, .ref y_parent, .ref y_isHigh, .ref y_inBits, .int (z_i y_sides), .ref ya_side, .ref ya_sideA, .ref ya_sideB, .int (z_i y_lineSpace), .ref y_wasThere, .ref ya_leads, .ref y_isLed, .ref ya_isOn, .ref y_goesTo, .ref y_stream, .ref y_filled, .ref y_isDone, .ref y_isReached, .ref y_newUnits, .ref y_isNew])), (ya_units, .inl (cA 1, 5120, .inl y_units)), (ya_level, .inl (cA 1, 16, .inl y_level)), (ya_lineLevel, .inl (cA 1, 400, .inl f3)), (ya_lineUnits, .inl (cA 1, 400, .inl f6)), (ya_lineFrom, .inl (cA 1, 400, .inl f8)), (ya_lineMany, .inl (cA 1, 400, .inl f10)), (ya_isClosed, .inl (cA 3, 400, .inl f13)), (ya_side, .inl (cA 1, 8000, .inl y_side)), (ya_sideA, .inl (cA 1, 8000, .inl y_sideA)), (ya_sideB, .inl (cA 1, 8000, .inl y_sideB)), (ya_leads, .inl (cA 1, 2560, .inl y_leads)), (ya_isOn, .inl (cA 3, 2560, .inl y_isOn))] := by rw [hy14]; exact hD
        refine lv_aload_n hx hb dX8_tellLine_136 rfl (lv_at hl 3 rfl) ?_
        refine lv_dup hx hb dX8_tellLine_137 rfl ?_
        refine va_get (D := D) (ci := 6) (v := .int (z_i y_lines)) (C := RX8) (T := TX8) (N := 33) hx hb hts (fun w h => List.mem_cons_of_mem _ (List.mem_append_right _ h)) hown hK hP 0 rfl rfl 7 (by decide) (hts (.fieldLink RX8 156 "ContourSheetsModel" "lines" "I") (by decide +kernel)) (fun _ h9 => h9) rfl dX8_tellLine_138 ?_
        refine lv_iconst (v := z_i 1) hx hb dX8_tellLine_141 rfl ?_
        refine lx_iadd hx hb dX8_tellLine_142 ?_
        obtain ⟨hr16, hv⟩ := hv
        refine lx_topi (fun v15 hy17 => ?_)
        have hv := hv v15 hy17
        have h_v15 : z_in v15 := by rw [hy17]; exact hr16
        refine va_put (D := D) (ci := 6) (v := .int (z_i v15)) (ty := .int) (C := RX8) (T := TX8) (N := 33) hx hb hts (fun w h => List.mem_cons_of_mem _ (List.mem_append_right _ h)) tyX8 tyX8_ok nmX8 hown hK hP hD hS 0 rfl rfl 7 (by decide) (hts (.fieldLink RX8 156 "ContourSheetsModel" "lines" "I") (by decide +kernel)) (fun _ h9 => h9) rfl (by decide +kernel) rfl rfl (Nat.le_of_ble_eq_true rfl) dX8_tellLine_143 (fun H locs hP hD hS => ?_)
        have hP : va_P D vwCl [(y, .inr (6, [.ref y_space, .ref y_offset, .ref y_length, .ref ya_units, .ref y_isThere, .int (z_i y_levels), .ref ya_level, .int (z_i v15), .ref ya_lineLevel, .ref ya_lineUnits, .ref ya_lineFrom, .ref ya_lineMany, .ref ya_isClosed, .ref y_insides, .ref y_parent, .ref y_isHigh, .ref y_inBits, .int (z_i y_sides), .ref ya_side, .ref ya_sideA, .ref ya_sideB, .int (z_i y_lineSpace), .ref y_wasThere, .ref ya_leads, .ref y_isLed, .ref ya_isOn, .ref y_goesTo, .ref y_stream, .ref y_filled, .ref y_isDone, .ref y_isReached, .ref y_newUnits, .ref y_isNew])), (ya_units, .inl (cA 1, 5120, .inl y_units)), (ya_level, .inl (cA 1, 16, .inl y_level)), (ya_lineLevel, .inl (cA 1, 400, .inl f3)), (ya_lineUnits, .inl (cA 1, 400, .inl f6)), (ya_lineFrom, .inl (cA 1, 400, .inl f8)), (ya_lineMany, .inl (cA 1, 400, .inl f10)), (ya_isClosed, .inl (cA 3, 400, .inl f13)), (ya_side, .inl (cA 1, 8000, .inl y_side)), (ya_sideA, .inl (cA 1, 8000, .inl y_sideA)), (ya_sideB, .inl (cA 1, 8000, .inl y_sideB)), (ya_leads, .inl (cA 1, 2560, .inl y_leads)), (ya_isOn, .inl (cA 3, 2560, .inl y_isOn))] H := hP
        have hD : va_D A [(y, .inr (6, [.ref y_space, .ref y_offset, .ref y_length, .ref ya_units, .ref y_isThere, .int (z_i y_levels), .ref ya_level, .int (z_i v15), .ref ya_lineLevel, .ref ya_lineUnits, .ref ya_lineFrom, .ref ya_lineMany, .ref ya_isClosed, .ref y_insides, .ref y_parent, .ref y_isHigh, .ref y_inBits, .int (z_i y_sides), .ref ya_side, .ref ya_sideA, .ref ya_sideB, .int (z_i y_lineSpace), .ref y_wasThere, .ref ya_leads, .ref y_isLed, .ref ya_isOn, .ref y_goesTo, .ref y_stream, .ref y_filled, .ref y_isDone, .ref y_isReached, .ref y_newUnits, .ref y_isNew])), (ya_units, .inl (cA 1, 5120, .inl y_units)), (ya_level, .inl (cA 1, 16, .inl y_level)), (ya_lineLevel, .inl (cA 1, 400, .inl f3)), (ya_lineUnits, .inl (cA 1, 400, .inl f6)), (ya_lineFrom, .inl (cA 1, 400, .inl f8)), (ya_lineMany, .inl (cA 1, 400, .inl f10)), (ya_isClosed, .inl (cA 3, 400, .inl f13)), (ya_side, .inl (cA 1, 8000, .inl y_side)), (ya_sideA, .inl (cA 1, 8000, .inl y_sideA)), (ya_sideB, .inl (cA 1, 8000, .inl y_sideB)), (ya_leads, .inl (cA 1, 2560, .inl y_leads)), (ya_isOn, .inl (cA 3, 2560, .inl y_isOn))] := hD
        refine lv_iload_n hx hb dX8_tellLine_146 rfl (lv_at hl 6 rfl) ?_
        refine lv_istore (lv' := [(6, .int (z_i from_)), (7, .int (z_i x9_7)), (5, .int (z_i x9_5)), (0, .ref y), (1, .int (z_i gi)), (2, .int (z_i vi)), (3, .int (z_i from_)), (4, .int (z_i cl))]) hx hb dX8_tellLine_147 hl (by decide) rfl (fun ls hl => ?_)
        refine lv_iconst (v := z_i 0) hx hb dX8_tellLine_149 rfl ?_
        refine lv_istore (lv' := [(8, .int (z_i 0)), (6, .int (z_i from_)), (7, .int (z_i x9_7)), (5, .int (z_i x9_5)), (0, .ref y), (1, .int (z_i gi)), (2, .int (z_i vi)), (3, .int (z_i from_)), (4, .int (z_i cl))]) hx hb dX8_tellLine_150 hl (by decide) rfl (fun ls hl => ?_)
        refine hv (fun (x152_8 : Int) (x152_6 : Int) (y152_y_sides : Int) (y152_ya_side : Nat → Int32) (y152_ya_sideA : Nat → Int32) (y152_ya_sideB : Nat → Int32) (y152_ya_isOn : Nat → Int32) => ∀ (H : Heap) (locs : List Loc) (ls : Array Slot), va_P D vwCl [(y, .inr (6, [.ref y_space, .ref y_offset, .ref y_length, .ref ya_units, .ref y_isThere, .int (z_i y_levels), .ref ya_level, .int (z_i v15), .ref ya_lineLevel, .ref ya_lineUnits, .ref ya_lineFrom, .ref ya_lineMany, .ref ya_isClosed, .ref y_insides, .ref y_parent, .ref y_isHigh, .ref y_inBits, .int (z_i y152_y_sides), .ref ya_side, .ref ya_sideA, .ref ya_sideB, .int (z_i y_lineSpace), .ref y_wasThere, .ref ya_leads, .ref y_isLed, .ref ya_isOn, .ref y_goesTo, .ref y_stream, .ref y_filled, .ref y_isDone, .ref y_isReached, .ref y_newUnits, .ref y_isNew])), (ya_units, .inl (cA 1, 5120, .inl y_units)), (ya_level, .inl (cA 1, 16, .inl y_level)), (ya_lineLevel, .inl (cA 1, 400, .inl f3)), (ya_lineUnits, .inl (cA 1, 400, .inl f6)), (ya_lineFrom, .inl (cA 1, 400, .inl f8)), (ya_lineMany, .inl (cA 1, 400, .inl f10)), (ya_isClosed, .inl (cA 3, 400, .inl f13)), (ya_side, .inl (cA 1, 8000, .inl y152_ya_side)), (ya_sideA, .inl (cA 1, 8000, .inl y152_ya_sideA)), (ya_sideB, .inl (cA 1, 8000, .inl y152_ya_sideB)), (ya_leads, .inl (cA 1, 2560, .inl y_leads)), (ya_isOn, .inl (cA 3, 2560, .inl y152_ya_isOn))] H → va_D A [(y, .inr (6, [.ref y_space, .ref y_offset, .ref y_length, .ref ya_units, .ref y_isThere, .int (z_i y_levels), .ref ya_level, .int (z_i v15), .ref ya_lineLevel, .ref ya_lineUnits, .ref ya_lineFrom, .ref ya_lineMany, .ref ya_isClosed, .ref y_insides, .ref y_parent, .ref y_isHigh, .ref y_inBits, .int (z_i y152_y_sides), .ref ya_side, .ref ya_sideA, .ref ya_sideB, .int (z_i y_lineSpace), .ref y_wasThere, .ref ya_leads, .ref y_isLed, .ref ya_isOn, .ref y_goesTo, .ref y_stream, .ref y_filled, .ref y_isDone, .ref y_isReached, .ref y_newUnits, .ref y_isNew])), (ya_units, .inl (cA 1, 5120, .inl y_units)), (ya_level, .inl (cA 1, 16, .inl y_level)), (ya_lineLevel, .inl (cA 1, 400, .inl f3)), (ya_lineUnits, .inl (cA 1, 400, .inl f6)), (ya_lineFrom, .inl (cA 1, 400, .inl f8)), (ya_lineMany, .inl (cA 1, 400, .inl f10)), (ya_isClosed, .inl (cA 3, 400, .inl f13)), (ya_side, .inl (cA 1, 8000, .inl y152_ya_side)), (ya_sideA, .inl (cA 1, 8000, .inl y152_ya_sideA)), (ya_sideB, .inl (cA 1, 8000, .inl y152_ya_sideB)), (ya_leads, .inl (cA 1, 2560, .inl y_leads)), (ya_isOn, .inl (cA 3, 2560, .inl y152_ya_isOn))] → va_S A s.heap H locs → lv_has ls 11 [(8, .int (z_i x152_8)), (6, .int (z_i x152_6)), (5, .int (z_i x9_5)), (0, .ref y), (1, .int (z_i gi))] → W p l e _ s m _ below meth c H locs 0 0 _ (F0 m 152 ls [])) ?_ _ _ ls hP hD hS (lv_sub hl [0, 1, 3, 4, 5] rfl)
        intro x152_8 x152_6 y152_y_sides y152_ya_side y152_ya_sideA y152_ya_sideB y152_ya_isOn h_x152_8 h_x152_6 h_y152_y_sides hv H locs ls hP hD hS hl
        refine lv_iload hx hb dX8_tellLine_152 (lv_at hl 0 rfl) ?_
        refine lv_iload hx hb dX8_tellLine_154 (lv_at hl 2 rfl) ?_
        refine lx_icmp_ge (tgt := 278) hx hb dX8_tellLine_156 (by decide) h_x152_8 h_x9_5 (fun hc => ?_) (fun hc => ?_)
        · have hv := hv.1 hc
          refine lv_iconst (v := z_i 1) hx hb dX8_tellLine_278 rfl ?_
          exact W.zret (v := z_i 1) hx hb hr (by decide) (fun t ht hW => ⟨⟨z_i 1, (f3, f6, f8, f10, f13, y152_ya_side, y152_ya_sideA, y152_ya_sideB, y152_ya_isOn, v15, y152_y_sides), rfl, ⟨1, rfl, (show z_in 1 from ⟨by decide, by decide⟩), h_v15, h_y152_y_sides, hv⟩, z_pt hP ht⟩, hS.F ht⟩) hS.2.2 dX8_tellLine_279
        · have hv := hv.2 hc
          refine lv_aload_n hx hb dX8_tellLine_159 rfl (lv_at hl 3 rfl) ?_
          refine va_get (D := D) (ci := 6) (v := .ref ya_isOn) (C := RX8) (T := TX8) (N := 33) hx hb hts (fun w h => List.mem_cons_of_mem _ (List.mem_append_right _ h)) hown hK hP 0 rfl rfl 25 (by decide) (hts (.fieldLink RX8 75 "ContourSheetsModel" "isOn" "[Z") (by decide +kernel)) (fun _ h9 => h9) rfl dX8_tellLine_160 ?_
          refine lv_iload hx hb dX8_tellLine_163 (lv_at hl 1 rfl) ?_
          refine lv_iconst (v := z_i 1) hx hb dX8_tellLine_165 rfl ?_
          obtain ⟨hi18, hv⟩ := hv
          refine lx_zast hx hb hK hP hD hS 12 3 rfl rfl (by decide) hi18.1 hi18.2 (by decide) dX8_tellLine_166 (fun H locs hP hD hS => ?_)
          obtain ⟨f19, hy20⟩ : ∃ y : Nat → Int32, y = z_s y152_ya_isOn x152_6 1 := ⟨_, rfl⟩
          have hv := hv f19 hy20
          have hP : va_P D vwCl [(y, .inr (6, [.ref y_space, .ref y_offset, .ref y_length, .ref ya_units, .ref y_isThere, .int (z_i y_levels), .ref ya_level, .int (z_i v15), .ref ya_lineLevel, .ref ya_lineUnits, .ref ya_lineFrom, .ref ya_lineMany, .ref ya_isClosed, .ref y_insides, .ref y_parent, .ref y_isHigh, .ref y_inBits, .int (z_i y152_y_sides), .ref ya_side, .ref ya_sideA, .ref ya_sideB, .int (z_i y_lineSpace), .ref y_wasThere, .ref ya_leads, .ref y_isLed, .ref ya_isOn, .ref y_goesTo, .ref y_stream, .ref y_filled, .ref y_isDone, .ref y_isReached, .ref y_newUnits, .ref y_isNew])), (ya_units, .inl (cA 1, 5120, .inl y_units)), (ya_level, .inl (cA 1, 16, .inl y_level)), (ya_lineLevel, .inl (cA 1, 400, .inl f3)), (ya_lineUnits, .inl (cA 1, 400, .inl f6)), (ya_lineFrom, .inl (cA 1, 400, .inl f8)), (ya_lineMany, .inl (cA 1, 400, .inl f10)), (ya_isClosed, .inl (cA 3, 400, .inl f13)), (ya_side, .inl (cA 1, 8000, .inl y152_ya_side)), (ya_sideA, .inl (cA 1, 8000, .inl y152_ya_sideA)), (ya_sideB, .inl (cA 1, 8000, .inl y152_ya_sideB)), (ya_leads, .inl (cA 1, 2560, .inl y_leads)), (ya_isOn, .inl (cA 3, 2560, .inl f19))] H := by rw [hy20]; exact hP
          have hD : va_D A [(y, .inr (6, [.ref y_space, .ref y_offset, .ref y_length, .ref ya_units, .ref y_isThere, .int (z_i y_levels), .ref ya_level, .int (z_i v15), .ref ya_lineLevel, .ref ya_lineUnits, .ref ya_lineFrom, .ref ya_lineMany, .ref ya_isClosed, .ref y_insides, .ref y_parent, .ref y_isHigh, .ref y_inBits, .int (z_i y152_y_sides), .ref ya_side, .ref ya_sideA, .ref ya_sideB, .int (z_i y_lineSpace), .ref y_wasThere, .ref ya_leads, .ref y_isLed, .ref ya_isOn, .ref y_goesTo, .ref y_stream, .ref y_filled, .ref y_isDone, .ref y_isReached, .ref y_newUnits, .ref y_isNew])), (ya_units, .inl (cA 1, 5120, .inl y_units)), (ya_level, .inl (cA 1, 16, .inl y_level)), (ya_lineLevel, .inl (cA 1, 400, .inl f3)), (ya_lineUnits, .inl (cA 1, 400, .inl f6)), (ya_lineFrom, .inl (cA 1, 400, .inl f8)), (ya_lineMany, .inl (cA 1, 400, .inl f10)), (ya_isClosed, .inl (cA 3, 400, .inl f13)), (ya_side, .inl (cA 1, 8000, .inl y152_ya_side)), (ya_sideA, .inl (cA 1, 8000, .inl y152_ya_sideA)), (ya_sideB, .inl (cA 1, 8000, .inl y152_ya_sideB)), (ya_leads, .inl (cA 1, 2560, .inl y_leads)), (ya_isOn, .inl (cA 3, 2560, .inl f19))] := by rw [hy20]; exact hD
          refine lv_iload hx hb dX8_tellLine_167 (lv_at hl 1 rfl) ?_
          refine lv_bipush (v := z_i 80) hx hb dX8_tellLine_169 (by decide) ?_
          refine lx_idiv hx hb dX8_tellLine_171 h_x152_6 (show z_in 80 from ⟨by decide, by decide⟩) (by decide) ?_
          obtain ⟨hr22, hv⟩ := hv
          refine lx_topi (fun v21 hy23 => ?_)
          have hv := hv v21 hy23
          have h_v21 : z_in v21 := by rw [hy23]; exact hr22
          refine lv_istore (lv' := [(9, .int (z_i v21)), (8, .int (z_i x152_8)), (6, .int (z_i x152_6)), (5, .int (z_i x9_5)), (0, .ref y), (1, .int (z_i gi))]) hx hb dX8_tellLine_172 hl (by decide) rfl (fun ls hl => ?_)
          refine lv_iload hx hb dX8_tellLine_174 (lv_at hl 2 rfl) ?_
          refine lv_iconst (v := z_i 2) hx hb dX8_tellLine_176 rfl ?_
          refine lx_idiv hx hb dX8_tellLine_177 h_x152_6 (show z_in 2 from ⟨by decide, by decide⟩) (by decide) ?_
          refine lv_bipush (v := z_i 40) hx hb dX8_tellLine_178 (by decide) ?_
          obtain ⟨hr24, hv⟩ := hv
          refine lx_irem hx hb dX8_tellLine_180 hr24 (show z_in 40 from ⟨by decide, by decide⟩) (by decide) ?_
          obtain ⟨hr26, hv⟩ := hv
          refine lx_topi (fun v25 hy27 => ?_)
          have hv := hv v25 hy27
          have h_v25 : z_in v25 := by rw [hy27]; exact hr26
          refine lv_istore (lv' := [(10, .int (z_i v25)), (9, .int (z_i v21)), (8, .int (z_i x152_8)), (6, .int (z_i x152_6)), (5, .int (z_i x9_5)), (0, .ref y), (1, .int (z_i gi))]) hx hb dX8_tellLine_181 hl (by decide) rfl (fun ls hl => ?_)
          refine lv_aload_n hx hb dX8_tellLine_183 rfl (lv_at hl 5 rfl) ?_
          refine va_get (D := D) (ci := 6) (v := .ref ya_side) (C := RX8) (T := TX8) (N := 33) hx hb hts (fun w h => List.mem_cons_of_mem _ (List.mem_append_right _ h)) hown hK hP 0 rfl rfl 18 (by decide) (hts (.fieldLink RX8 57 "ContourSheetsModel" "side" "[I") (by decide +kernel)) (fun _ h9 => h9) rfl dX8_tellLine_184 ?_
          refine lv_aload_n hx hb dX8_tellLine_187 rfl (lv_at hl 5 rfl) ?_
          refine va_get (D := D) (ci := 6) (v := .int (z_i y152_y_sides)) (C := RX8) (T := TX8) (N := 33) hx hb hts (fun w h => List.mem_cons_of_mem _ (List.mem_append_right _ h)) hown hK hP 0 rfl rfl 17 (by decide) (hts (.fieldLink RX8 159 "ContourSheetsModel" "sides" "I") (by decide +kernel)) (fun _ h9 => h9) rfl dX8_tellLine_188 ?_
          refine lv_iload hx hb dX8_tellLine_191 (lv_at hl 3 rfl) ?_
          obtain ⟨hi28, hv⟩ := hv
          refine lx_iast hx hb hK hP hD hS 8 1 rfl rfl (by decide) hi28.1 hi28.2 dX8_tellLine_193 (fun H locs hP hD hS => ?_)
          obtain ⟨f29, hy30⟩ : ∃ y : Nat → Int32, y = z_s y152_ya_side y152_y_sides x152_6 := ⟨_, rfl⟩
          have hv := hv f29 hy30
          have hP : va_P D vwCl [(y, .inr (6, [.ref y_space, .ref y_offset, .ref y_length, .ref ya_units, .ref y_isThere, .int (z_i y_levels), .ref ya_level, .int (z_i v15), .ref ya_lineLevel, .ref ya_lineUnits, .ref ya_lineFrom, .ref ya_lineMany, .ref ya_isClosed, .ref y_insides, .ref y_parent, .ref y_isHigh, .ref y_inBits, .int (z_i y152_y_sides), .ref ya_side, .ref ya_sideA, .ref ya_sideB, .int (z_i y_lineSpace), .ref y_wasThere, .ref ya_leads, .ref y_isLed, .ref ya_isOn, .ref y_goesTo, .ref y_stream, .ref y_filled, .ref y_isDone, .ref y_isReached, .ref y_newUnits, .ref y_isNew])), (ya_units, .inl (cA 1, 5120, .inl y_units)), (ya_level, .inl (cA 1, 16, .inl y_level)), (ya_lineLevel, .inl (cA 1, 400, .inl f3)), (ya_lineUnits, .inl (cA 1, 400, .inl f6)), (ya_lineFrom, .inl (cA 1, 400, .inl f8)), (ya_lineMany, .inl (cA 1, 400, .inl f10)), (ya_isClosed, .inl (cA 3, 400, .inl f13)), (ya_side, .inl (cA 1, 8000, .inl f29)), (ya_sideA, .inl (cA 1, 8000, .inl y152_ya_sideA)), (ya_sideB, .inl (cA 1, 8000, .inl y152_ya_sideB)), (ya_leads, .inl (cA 1, 2560, .inl y_leads)), (ya_isOn, .inl (cA 3, 2560, .inl f19))] H := by rw [hy30]; exact hP
          have hD : va_D A [(y, .inr (6, [.ref y_space, .ref y_offset, .ref y_length, .ref ya_units, .ref y_isThere, .int (z_i y_levels), .ref ya_level, .int (z_i v15), .ref ya_lineLevel, .ref ya_lineUnits, .ref ya_lineFrom, .ref ya_lineMany, .ref ya_isClosed, .ref y_insides, .ref y_parent, .ref y_isHigh, .ref y_inBits, .int (z_i y152_y_sides), .ref ya_side, .ref ya_sideA, .ref ya_sideB, .int (z_i y_lineSpace), .ref y_wasThere, .ref ya_leads, .ref y_isLed, .ref ya_isOn, .ref y_goesTo, .ref y_stream, .ref y_filled, .ref y_isDone, .ref y_isReached, .ref y_newUnits, .ref y_isNew])), (ya_units, .inl (cA 1, 5120, .inl y_units)), (ya_level, .inl (cA 1, 16, .inl y_level)), (ya_lineLevel, .inl (cA 1, 400, .inl f3)), (ya_lineUnits, .inl (cA 1, 400, .inl f6)), (ya_lineFrom, .inl (cA 1, 400, .inl f8)), (ya_lineMany, .inl (cA 1, 400, .inl f10)), (ya_isClosed, .inl (cA 3, 400, .inl f13)), (ya_side, .inl (cA 1, 8000, .inl f29)), (ya_sideA, .inl (cA 1, 8000, .inl y152_ya_sideA)), (ya_sideB, .inl (cA 1, 8000, .inl y152_ya_sideB)), (ya_leads, .inl (cA 1, 2560, .inl y_leads)), (ya_isOn, .inl (cA 3, 2560, .inl f19))] := by rw [hy30]; exact hD
          refine lv_aload_n hx hb dX8_tellLine_194 rfl (lv_at hl 5 rfl) ?_
          refine va_get (D := D) (ci := 6) (v := .ref ya_sideA) (C := RX8) (T := TX8) (N := 33) hx hb hts (fun w h => List.mem_cons_of_mem _ (List.mem_append_right _ h)) hown hK hP 0 rfl rfl 19 (by decide) (hts (.fieldLink RX8 60 "ContourSheetsModel" "sideA" "[I") (by decide +kernel)) (fun _ h9 => h9) rfl dX8_tellLine_195 ?_
          refine lv_aload_n hx hb dX8_tellLine_198 rfl (lv_at hl 5 rfl) ?_
          refine va_get (D := D) (ci := 6) (v := .int (z_i y152_y_sides)) (C := RX8) (T := TX8) (N := 33) hx hb hts (fun w h => List.mem_cons_of_mem _ (List.mem_append_right _ h)) hown hK hP 0 rfl rfl 17 (by decide) (hts (.fieldLink RX8 159 "ContourSheetsModel" "sides" "I") (by decide +kernel)) (fun _ h9 => h9) rfl dX8_tellLine_199 ?_
          refine lv_aload_n hx hb dX8_tellLine_202 rfl (lv_at hl 5 rfl) ?_
          refine lv_iload_n hx hb dX8_tellLine_203 rfl (lv_at hl 6 rfl) ?_
          refine lv_iload hx hb dX8_tellLine_204 (lv_at hl 1 rfl) ?_
          refine lv_iload hx hb dX8_tellLine_206 (lv_at hl 0 rfl) ?_
          obtain ⟨hp31, hv⟩ := hv
          obtain ⟨hp32, hv⟩ := hv
          obtain ⟨hp33, hv⟩ := hv
          refine va_calli (va_runV (As := [.int (z_i gi), .int (z_i v21), .int (z_i v25)]) (rest := [.int (z_i y152_y_sides), .ref ya_sideA]) ⟨hx, hb, hml, hown, hts⟩ (mt_X8_h l D cA y y_space y_offset y_length ya_units y_units y_isThere y_levels ya_level v15 ya_lineLevel ya_lineUnits ya_lineFrom ya_lineMany ya_isClosed y_insides y_parent y_isHigh y_inBits y152_y_sides ya_side ya_sideA ya_sideB y_lineSpace y_wasThere ya_leads y_isLed ya_isOn y_goesTo y_stream y_filled y_isDone y_isReached y_newUnits y_isNew gi v21 v25 h_y_levels h_v15 h_y152_y_sides h_y_lineSpace h_gi h_v21 h_v25 hp31 hp32 hp33) (cwV 3 hts gX8_tellLine_X8_h rfl rfl rfl (by decide +kernel) ⟨Nat.le_of_ble_eq_true rfl, Nat.le_of_ble_eq_true rfl⟩) ⟨z_bl0, va_recv hK hP (ci := 6) (q0 := 0) rfl rfl, fun U hU hW => ⟨rfl, z_b0 hK (hP.sub (ws' := [(y, .inr (6, [.ref y_space, .ref y_offset, .ref y_length, .ref ya_units, .ref y_isThere, .int (z_i y_levels), .ref ya_level, .int (z_i v15), .ref ya_lineLevel, .ref ya_lineUnits, .ref ya_lineFrom, .ref ya_lineMany, .ref ya_isClosed, .ref y_insides, .ref y_parent, .ref y_isHigh, .ref y_inBits, .int (z_i y152_y_sides), .ref ya_side, .ref ya_sideA, .ref ya_sideB, .int (z_i y_lineSpace), .ref y_wasThere, .ref ya_leads, .ref y_isLed, .ref ya_isOn, .ref y_goesTo, .ref y_stream, .ref y_filled, .ref y_isDone, .ref y_isReached, .ref y_newUnits, .ref y_isNew])), (ya_units, .inl (cA 1, 5120, .inl y_units))]) [0, 1] rfl) hU hW⟩⟩ rfl rfl hl.1 rfl (lv_room (Nat.le_of_ble_eq_true rfl)) dX8_tellLine_208 ⟨Nat.zero_le _, Nat.zero_le _⟩) hS (fun q _ h => h.elim) (fun q h => h.elim) (fun r0 u t H locs ht hvm hw hB hz1 hk1 hS => ?_)
          obtain ⟨r34, rfl, h_r34, hw⟩ := hw
          have hP := z_P_all hP hk1
          have hv := hv r34 h_r34 hw
          refine lx_iast hx hb hK hP hD hS 9 1 rfl rfl (by decide) hi28.1 hi28.2 dX8_tellLine_211 (fun H locs hP hD hS => ?_)
          obtain ⟨f35, hy36⟩ : ∃ y : Nat → Int32, y = z_s y152_ya_sideA y152_y_sides r34 := ⟨_, rfl⟩
          have hv := hv f35 hy36
          have hP : va_P D vwCl [(y, .inr (6, [.ref y_space, .ref y_offset, .ref y_length, .ref ya_units, .ref y_isThere, .int (z_i y_levels), .ref ya_level, .int (z_i v15), .ref ya_lineLevel, .ref ya_lineUnits, .ref ya_lineFrom, .ref ya_lineMany, .ref ya_isClosed, .ref y_insides, .ref y_parent, .ref y_isHigh, .ref y_inBits, .int (z_i y152_y_sides), .ref ya_side, .ref ya_sideA, .ref ya_sideB, .int (z_i y_lineSpace), .ref y_wasThere, .ref ya_leads, .ref y_isLed, .ref ya_isOn, .ref y_goesTo, .ref y_stream, .ref y_filled, .ref y_isDone, .ref y_isReached, .ref y_newUnits, .ref y_isNew])), (ya_units, .inl (cA 1, 5120, .inl y_units)), (ya_level, .inl (cA 1, 16, .inl y_level)), (ya_lineLevel, .inl (cA 1, 400, .inl f3)), (ya_lineUnits, .inl (cA 1, 400, .inl f6)), (ya_lineFrom, .inl (cA 1, 400, .inl f8)), (ya_lineMany, .inl (cA 1, 400, .inl f10)), (ya_isClosed, .inl (cA 3, 400, .inl f13)), (ya_side, .inl (cA 1, 8000, .inl f29)), (ya_sideA, .inl (cA 1, 8000, .inl f35)), (ya_sideB, .inl (cA 1, 8000, .inl y152_ya_sideB)), (ya_leads, .inl (cA 1, 2560, .inl y_leads)), (ya_isOn, .inl (cA 3, 2560, .inl f19))] H := by rw [hy36]; exact hP
          have hD : va_D A [(y, .inr (6, [.ref y_space, .ref y_offset, .ref y_length, .ref ya_units, .ref y_isThere, .int (z_i y_levels), .ref ya_level, .int (z_i v15), .ref ya_lineLevel, .ref ya_lineUnits, .ref ya_lineFrom, .ref ya_lineMany, .ref ya_isClosed, .ref y_insides, .ref y_parent, .ref y_isHigh, .ref y_inBits, .int (z_i y152_y_sides), .ref ya_side, .ref ya_sideA, .ref ya_sideB, .int (z_i y_lineSpace), .ref y_wasThere, .ref ya_leads, .ref y_isLed, .ref ya_isOn, .ref y_goesTo, .ref y_stream, .ref y_filled, .ref y_isDone, .ref y_isReached, .ref y_newUnits, .ref y_isNew])), (ya_units, .inl (cA 1, 5120, .inl y_units)), (ya_level, .inl (cA 1, 16, .inl y_level)), (ya_lineLevel, .inl (cA 1, 400, .inl f3)), (ya_lineUnits, .inl (cA 1, 400, .inl f6)), (ya_lineFrom, .inl (cA 1, 400, .inl f8)), (ya_lineMany, .inl (cA 1, 400, .inl f10)), (ya_isClosed, .inl (cA 3, 400, .inl f13)), (ya_side, .inl (cA 1, 8000, .inl f29)), (ya_sideA, .inl (cA 1, 8000, .inl f35)), (ya_sideB, .inl (cA 1, 8000, .inl y152_ya_sideB)), (ya_leads, .inl (cA 1, 2560, .inl y_leads)), (ya_isOn, .inl (cA 3, 2560, .inl f19))] := by rw [hy36]; exact hD
          refine lv_aload_n hx hb dX8_tellLine_212 rfl (lv_at hl 5 rfl) ?_
          refine va_get (D := D) (ci := 6) (v := .ref ya_sideB) (C := RX8) (T := TX8) (N := 33) hx hb hts (fun w h => List.mem_cons_of_mem _ (List.mem_append_right _ h)) hown hK hP 0 rfl rfl 20 (by decide) (hts (.fieldLink RX8 63 "ContourSheetsModel" "sideB" "[I") (by decide +kernel)) (fun _ h9 => h9) rfl dX8_tellLine_213 ?_
          refine lv_aload_n hx hb dX8_tellLine_216 rfl (lv_at hl 5 rfl) ?_
          refine va_get (D := D) (ci := 6) (v := .int (z_i y152_y_sides)) (C := RX8) (T := TX8) (N := 33) hx hb hts (fun w h => List.mem_cons_of_mem _ (List.mem_append_right _ h)) hown hK hP 0 rfl rfl 17 (by decide) (hts (.fieldLink RX8 159 "ContourSheetsModel" "sides" "I") (by decide +kernel)) (fun _ h9 => h9) rfl dX8_tellLine_217 ?_
          refine lv_iload hx hb dX8_tellLine_220 (lv_at hl 3 rfl) ?_
          refine lv_iconst (v := z_i 2) hx hb dX8_tellLine_222 rfl ?_
          refine lx_irem hx hb dX8_tellLine_223 h_x152_6 (show z_in 2 from ⟨by decide, by decide⟩) (by decide) ?_
          obtain ⟨hr37, hv⟩ := hv
          refine lx_if_ne (tgt := 241) hx hb dX8_tellLine_224 (by decide) hr37 (fun hc => ?_) (fun hc => ?_)
          · have hv := hv.1 hc
            refine lv_aload_n hx hb dX8_tellLine_241 rfl (lv_at hl 5 rfl) ?_
            refine lv_iload_n hx hb dX8_tellLine_242 rfl (lv_at hl 6 rfl) ?_
            refine lv_iload hx hb dX8_tellLine_243 (lv_at hl 1 rfl) ?_
            refine lv_iconst (v := z_i 1) hx hb dX8_tellLine_245 rfl ?_
            refine lx_iadd hx hb dX8_tellLine_246 ?_
            refine lv_iload hx hb dX8_tellLine_247 (lv_at hl 0 rfl) ?_
            obtain ⟨hr38, hv⟩ := hv
            obtain ⟨hp39, hv⟩ := hv
            obtain ⟨hp40, hv⟩ := hv
            obtain ⟨hp41, hv⟩ := hv
            refine va_calli (va_runV (As := [.int (z_i gi), .int (z_i (v21 + 1)), .int (z_i v25)]) (rest := [.int (z_i y152_y_sides), .ref ya_sideB]) ⟨hx, hb, hml, hown, hts⟩ (mt_X8_h l D cA y y_space y_offset y_length ya_units y_units y_isThere y_levels ya_level v15 ya_lineLevel ya_lineUnits ya_lineFrom ya_lineMany ya_isClosed y_insides y_parent y_isHigh y_inBits y152_y_sides ya_side ya_sideA ya_sideB y_lineSpace y_wasThere ya_leads y_isLed ya_isOn y_goesTo y_stream y_filled y_isDone y_isReached y_newUnits y_isNew gi (v21 + 1) v25 h_y_levels h_v15 h_y152_y_sides h_y_lineSpace h_gi hr38 h_v25 hp39 hp40 hp41) (cwV 3 hts gX8_tellLine_X8_h rfl rfl rfl (by decide +kernel) ⟨Nat.le_of_ble_eq_true rfl, Nat.le_of_ble_eq_true rfl⟩) ⟨z_bl0, va_recv hK hP (ci := 6) (q0 := 0) rfl rfl, fun U hU hW => ⟨rfl, z_b0 hK (hP.sub (ws' := [(y, .inr (6, [.ref y_space, .ref y_offset, .ref y_length, .ref ya_units, .ref y_isThere, .int (z_i y_levels), .ref ya_level, .int (z_i v15), .ref ya_lineLevel, .ref ya_lineUnits, .ref ya_lineFrom, .ref ya_lineMany, .ref ya_isClosed, .ref y_insides, .ref y_parent, .ref y_isHigh, .ref y_inBits, .int (z_i y152_y_sides), .ref ya_side, .ref ya_sideA, .ref ya_sideB, .int (z_i y_lineSpace), .ref y_wasThere, .ref ya_leads, .ref y_isLed, .ref ya_isOn, .ref y_goesTo, .ref y_stream, .ref y_filled, .ref y_isDone, .ref y_isReached, .ref y_newUnits, .ref y_isNew])), (ya_units, .inl (cA 1, 5120, .inl y_units))]) [0, 1] rfl) hU hW⟩⟩ rfl rfl hl.1 rfl (lv_room (Nat.le_of_ble_eq_true rfl)) dX8_tellLine_249 ⟨Nat.zero_le _, Nat.zero_le _⟩) hS (fun q _ h => h.elim) (fun q h => h.elim) (fun r0 u t H locs ht hvm hw hB hz1 hk1 hS => ?_)
            obtain ⟨r42, rfl, h_r42, hw⟩ := hw
            have hP := z_P_all hP hk1
            have hv := hv r42 h_r42 hw
            refine lx_iast hx hb hK hP hD hS 10 1 rfl rfl (by decide) hi28.1 hi28.2 dX8_tellLine_252 (fun H locs hP hD hS => ?_)
            obtain ⟨f43, hy44⟩ : ∃ y : Nat → Int32, y = z_s y152_ya_sideB y152_y_sides r42 := ⟨_, rfl⟩
            have hv := hv f43 hy44
            have hP : va_P D vwCl [(y, .inr (6, [.ref y_space, .ref y_offset, .ref y_length, .ref ya_units, .ref y_isThere, .int (z_i y_levels), .ref ya_level, .int (z_i v15), .ref ya_lineLevel, .ref ya_lineUnits, .ref ya_lineFrom, .ref ya_lineMany, .ref ya_isClosed, .ref y_insides, .ref y_parent, .ref y_isHigh, .ref y_inBits, .int (z_i y152_y_sides), .ref ya_side, .ref ya_sideA, .ref ya_sideB, .int (z_i y_lineSpace), .ref y_wasThere, .ref ya_leads, .ref y_isLed, .ref ya_isOn, .ref y_goesTo, .ref y_stream, .ref y_filled, .ref y_isDone, .ref y_isReached, .ref y_newUnits, .ref y_isNew])), (ya_units, .inl (cA 1, 5120, .inl y_units)), (ya_level, .inl (cA 1, 16, .inl y_level)), (ya_lineLevel, .inl (cA 1, 400, .inl f3)), (ya_lineUnits, .inl (cA 1, 400, .inl f6)), (ya_lineFrom, .inl (cA 1, 400, .inl f8)), (ya_lineMany, .inl (cA 1, 400, .inl f10)), (ya_isClosed, .inl (cA 3, 400, .inl f13)), (ya_side, .inl (cA 1, 8000, .inl f29)), (ya_sideA, .inl (cA 1, 8000, .inl f35)), (ya_sideB, .inl (cA 1, 8000, .inl f43)), (ya_leads, .inl (cA 1, 2560, .inl y_leads)), (ya_isOn, .inl (cA 3, 2560, .inl f19))] H := by rw [hy44]; exact hP
            have hD : va_D A [(y, .inr (6, [.ref y_space, .ref y_offset, .ref y_length, .ref ya_units, .ref y_isThere, .int (z_i y_levels), .ref ya_level, .int (z_i v15), .ref ya_lineLevel, .ref ya_lineUnits, .ref ya_lineFrom, .ref ya_lineMany, .ref ya_isClosed, .ref y_insides, .ref y_parent, .ref y_isHigh, .ref y_inBits, .int (z_i y152_y_sides), .ref ya_side, .ref ya_sideA, .ref ya_sideB, .int (z_i y_lineSpace), .ref y_wasThere, .ref ya_leads, .ref y_isLed, .ref ya_isOn, .ref y_goesTo, .ref y_stream, .ref y_filled, .ref y_isDone, .ref y_isReached, .ref y_newUnits, .ref y_isNew])), (ya_units, .inl (cA 1, 5120, .inl y_units)), (ya_level, .inl (cA 1, 16, .inl y_level)), (ya_lineLevel, .inl (cA 1, 400, .inl f3)), (ya_lineUnits, .inl (cA 1, 400, .inl f6)), (ya_lineFrom, .inl (cA 1, 400, .inl f8)), (ya_lineMany, .inl (cA 1, 400, .inl f10)), (ya_isClosed, .inl (cA 3, 400, .inl f13)), (ya_side, .inl (cA 1, 8000, .inl f29)), (ya_sideA, .inl (cA 1, 8000, .inl f35)), (ya_sideB, .inl (cA 1, 8000, .inl f43)), (ya_leads, .inl (cA 1, 2560, .inl y_leads)), (ya_isOn, .inl (cA 3, 2560, .inl f19))] := by rw [hy44]; exact hD
            refine lv_aload_n hx hb dX8_tellLine_253 rfl (lv_at hl 5 rfl) ?_
            refine lv_dup hx hb dX8_tellLine_254 rfl ?_
            refine va_get (D := D) (ci := 6) (v := .int (z_i y152_y_sides)) (C := RX8) (T := TX8) (N := 33) hx hb hts (fun w h => List.mem_cons_of_mem _ (List.mem_append_right _ h)) hown hK hP 0 rfl rfl 17 (by decide) (hts (.fieldLink RX8 159 "ContourSheetsModel" "sides" "I") (by decide +kernel)) (fun _ h9 => h9) rfl dX8_tellLine_255 ?_
            refine lv_iconst (v := z_i 1) hx hb dX8_tellLine_258 rfl ?_
            refine lx_iadd hx hb dX8_tellLine_259 ?_
            obtain ⟨hr46, hv⟩ := hv
            refine lx_topi (fun v45 hy47 => ?_)
            have hv := hv v45 hy47
            have h_v45 : z_in v45 := by rw [hy47]; exact hr46
            refine va_put (D := D) (ci := 6) (v := .int (z_i v45)) (ty := .int) (C := RX8) (T := TX8) (N := 33) hx hb hts (fun w h => List.mem_cons_of_mem _ (List.mem_append_right _ h)) tyX8 tyX8_ok nmX8 hown hK hP hD hS 0 rfl rfl 17 (by decide) (hts (.fieldLink RX8 159 "ContourSheetsModel" "sides" "I") (by decide +kernel)) (fun _ h9 => h9) rfl (by decide +kernel) rfl rfl (Nat.le_of_ble_eq_true rfl) dX8_tellLine_260 (fun H locs hP hD hS => ?_)
            have hP : va_P D vwCl [(y, .inr (6, [.ref y_space, .ref y_offset, .ref y_length, .ref ya_units, .ref y_isThere, .int (z_i y_levels), .ref ya_level, .int (z_i v15), .ref ya_lineLevel, .ref ya_lineUnits, .ref ya_lineFrom, .ref ya_lineMany, .ref ya_isClosed, .ref y_insides, .ref y_parent, .ref y_isHigh, .ref y_inBits, .int (z_i v45), .ref ya_side, .ref ya_sideA, .ref ya_sideB, .int (z_i y_lineSpace), .ref y_wasThere, .ref ya_leads, .ref y_isLed, .ref ya_isOn, .ref y_goesTo, .ref y_stream, .ref y_filled, .ref y_isDone, .ref y_isReached, .ref y_newUnits, .ref y_isNew])), (ya_units, .inl (cA 1, 5120, .inl y_units)), (ya_level, .inl (cA 1, 16, .inl y_level)), (ya_lineLevel, .inl (cA 1, 400, .inl f3)), (ya_lineUnits, .inl (cA 1, 400, .inl f6)), (ya_lineFrom, .inl (cA 1, 400, .inl f8)), (ya_lineMany, .inl (cA 1, 400, .inl f10)), (ya_isClosed, .inl (cA 3, 400, .inl f13)), (ya_side, .inl (cA 1, 8000, .inl f29)), (ya_sideA, .inl (cA 1, 8000, .inl f35)), (ya_sideB, .inl (cA 1, 8000, .inl f43)), (ya_leads, .inl (cA 1, 2560, .inl y_leads)), (ya_isOn, .inl (cA 3, 2560, .inl f19))] H := hP
            have hD : va_D A [(y, .inr (6, [.ref y_space, .ref y_offset, .ref y_length, .ref ya_units, .ref y_isThere, .int (z_i y_levels), .ref ya_level, .int (z_i v15), .ref ya_lineLevel, .ref ya_lineUnits, .ref ya_lineFrom, .ref ya_lineMany, .ref ya_isClosed, .ref y_insides, .ref y_parent, .ref y_isHigh, .ref y_inBits, .int (z_i v45), .ref ya_side, .ref ya_sideA, .ref ya_sideB, .int (z_i y_lineSpace), .ref y_wasThere, .ref ya_leads, .ref y_isLed, .ref ya_isOn, .ref y_goesTo, .ref y_stream, .ref y_filled, .ref y_isDone, .ref y_isReached, .ref y_newUnits, .ref y_isNew])), (ya_units, .inl (cA 1, 5120, .inl y_units)), (ya_level, .inl (cA 1, 16, .inl y_level)), (ya_lineLevel, .inl (cA 1, 400, .inl f3)), (ya_lineUnits, .inl (cA 1, 400, .inl f6)), (ya_lineFrom, .inl (cA 1, 400, .inl f8)), (ya_lineMany, .inl (cA 1, 400, .inl f10)), (ya_isClosed, .inl (cA 3, 400, .inl f13)), (ya_side, .inl (cA 1, 8000, .inl f29)), (ya_sideA, .inl (cA 1, 8000, .inl f35)), (ya_sideB, .inl (cA 1, 8000, .inl f43)), (ya_leads, .inl (cA 1, 2560, .inl y_leads)), (ya_isOn, .inl (cA 3, 2560, .inl f19))] := hD
            refine lv_aload_n hx hb dX8_tellLine_263 rfl (lv_at hl 5 rfl) ?_
            refine va_get (D := D) (ci := 6) (v := .ref ya_leads) (C := RX8) (T := TX8) (N := 33) hx hb hts (fun w h => List.mem_cons_of_mem _ (List.mem_append_right _ h)) hown hK hP 0 rfl rfl 23 (by decide) (hts (.fieldLink RX8 69 "ContourSheetsModel" "leads" "[I") (by decide +kernel)) (fun _ h9 => h9) rfl dX8_tellLine_264 ?_
            refine lv_iload hx hb dX8_tellLine_267 (lv_at hl 3 rfl) ?_
            refine lx_iald hx hb hK hP 11 1 rfl rfl (by decide) hi18.1 hi18.2 dX8_tellLine_269 ?_
            refine lx_topi (fun v48 hy49 => ?_)
            have hv := hv v48 hy49
            have h_v48 : z_in v48 := by rw [hy49]; exact (z_in_g _ _)
            refine lv_istore (lv' := [(6, .int (z_i v48)), (10, .int (z_i v25)), (9, .int (z_i v21)), (8, .int (z_i x152_8)), (5, .int (z_i x9_5)), (0, .ref y), (1, .int (z_i gi))]) hx hb dX8_tellLine_270 hl (by decide) rfl (fun ls hl => ?_)
            refine lv_iinc (v := z_i (x152_8 + 1)) (lv' := [(8, .int (z_i (x152_8 + 1))), (6, .int (z_i v48)), (10, .int (z_i v25)), (9, .int (z_i v21)), (5, .int (z_i x9_5)), (0, .ref y), (1, .int (z_i gi))]) hx hb dX8_tellLine_272 hl (k := 3) rfl (z_i_add _ _) (by decide) rfl (fun ls hl => ?_)
            refine lv_goto (tgt := 152) hx hb dX8_tellLine_275 (by decide) ?_
            exact hv _ _ ls hP hD hS (lv_sub hl [0, 1, 4, 5, 6] rfl)
          · have hv := hv.2 hc
            refine lv_aload_n hx hb dX8_tellLine_227 rfl (lv_at hl 5 rfl) ?_
            refine lv_iload_n hx hb dX8_tellLine_228 rfl (lv_at hl 6 rfl) ?_
            refine lv_iload hx hb dX8_tellLine_229 (lv_at hl 1 rfl) ?_
            refine lv_iload hx hb dX8_tellLine_231 (lv_at hl 0 rfl) ?_
            refine lv_iconst (v := z_i 1) hx hb dX8_tellLine_233 rfl ?_
            refine lx_iadd hx hb dX8_tellLine_234 ?_
            obtain ⟨hr50, hv⟩ := hv
            obtain ⟨hp51, hv⟩ := hv
            obtain ⟨hp52, hv⟩ := hv
            obtain ⟨hp53, hv⟩ := hv
            refine va_calli (va_runV (As := [.int (z_i gi), .int (z_i v21), .int (z_i (v25 + 1))]) (rest := [.int (z_i y152_y_sides), .ref ya_sideB]) ⟨hx, hb, hml, hown, hts⟩ (mt_X8_h l D cA y y_space y_offset y_length ya_units y_units y_isThere y_levels ya_level v15 ya_lineLevel ya_lineUnits ya_lineFrom ya_lineMany ya_isClosed y_insides y_parent y_isHigh y_inBits y152_y_sides ya_side ya_sideA ya_sideB y_lineSpace y_wasThere ya_leads y_isLed ya_isOn y_goesTo y_stream y_filled y_isDone y_isReached y_newUnits y_isNew gi v21 (v25 + 1) h_y_levels h_v15 h_y152_y_sides h_y_lineSpace h_gi h_v21 hr50 hp51 hp52 hp53) (cwV 3 hts gX8_tellLine_X8_h rfl rfl rfl (by decide +kernel) ⟨Nat.le_of_ble_eq_true rfl, Nat.le_of_ble_eq_true rfl⟩) ⟨z_bl0, va_recv hK hP (ci := 6) (q0 := 0) rfl rfl, fun U hU hW => ⟨rfl, z_b0 hK (hP.sub (ws' := [(y, .inr (6, [.ref y_space, .ref y_offset, .ref y_length, .ref ya_units, .ref y_isThere, .int (z_i y_levels), .ref ya_level, .int (z_i v15), .ref ya_lineLevel, .ref ya_lineUnits, .ref ya_lineFrom, .ref ya_lineMany, .ref ya_isClosed, .ref y_insides, .ref y_parent, .ref y_isHigh, .ref y_inBits, .int (z_i y152_y_sides), .ref ya_side, .ref ya_sideA, .ref ya_sideB, .int (z_i y_lineSpace), .ref y_wasThere, .ref ya_leads, .ref y_isLed, .ref ya_isOn, .ref y_goesTo, .ref y_stream, .ref y_filled, .ref y_isDone, .ref y_isReached, .ref y_newUnits, .ref y_isNew])), (ya_units, .inl (cA 1, 5120, .inl y_units))]) [0, 1] rfl) hU hW⟩⟩ rfl rfl hl.1 rfl (lv_room (Nat.le_of_ble_eq_true rfl)) dX8_tellLine_235 ⟨Nat.zero_le _, Nat.zero_le _⟩) hS (fun q _ h => h.elim) (fun q h => h.elim) (fun r0 u t H locs ht hvm hw hB hz1 hk1 hS => ?_)
            obtain ⟨r54, rfl, h_r54, hw⟩ := hw
            have hP := z_P_all hP hk1
            have hv := hv r54 h_r54 hw
            refine lv_goto (tgt := 252) hx hb dX8_tellLine_238 (by decide) ?_
            refine lx_iast hx hb hK hP hD hS 10 1 rfl rfl (by decide) hi28.1 hi28.2 dX8_tellLine_252 (fun H locs hP hD hS => ?_)
            obtain ⟨f55, hy56⟩ : ∃ y : Nat → Int32, y = z_s y152_ya_sideB y152_y_sides r54 := ⟨_, rfl⟩
            have hv := hv f55 hy56
            have hP : va_P D vwCl [(y, .inr (6, [.ref y_space, .ref y_offset, .ref y_length, .ref ya_units, .ref y_isThere, .int (z_i y_levels), .ref ya_level, .int (z_i v15), .ref ya_lineLevel, .ref ya_lineUnits, .ref ya_lineFrom, .ref ya_lineMany, .ref ya_isClosed, .ref y_insides, .ref y_parent, .ref y_isHigh, .ref y_inBits, .int (z_i y152_y_sides), .ref ya_side, .ref ya_sideA, .ref ya_sideB, .int (z_i y_lineSpace), .ref y_wasThere, .ref ya_leads, .ref y_isLed, .ref ya_isOn, .ref y_goesTo, .ref y_stream, .ref y_filled, .ref y_isDone, .ref y_isReached, .ref y_newUnits, .ref y_isNew])), (ya_units, .inl (cA 1, 5120, .inl y_units)), (ya_level, .inl (cA 1, 16, .inl y_level)), (ya_lineLevel, .inl (cA 1, 400, .inl f3)), (ya_lineUnits, .inl (cA 1, 400, .inl f6)), (ya_lineFrom, .inl (cA 1, 400, .inl f8)), (ya_lineMany, .inl (cA 1, 400, .inl f10)), (ya_isClosed, .inl (cA 3, 400, .inl f13)), (ya_side, .inl (cA 1, 8000, .inl f29)), (ya_sideA, .inl (cA 1, 8000, .inl f35)), (ya_sideB, .inl (cA 1, 8000, .inl f55)), (ya_leads, .inl (cA 1, 2560, .inl y_leads)), (ya_isOn, .inl (cA 3, 2560, .inl f19))] H := by rw [hy56]; exact hP
            have hD : va_D A [(y, .inr (6, [.ref y_space, .ref y_offset, .ref y_length, .ref ya_units, .ref y_isThere, .int (z_i y_levels), .ref ya_level, .int (z_i v15), .ref ya_lineLevel, .ref ya_lineUnits, .ref ya_lineFrom, .ref ya_lineMany, .ref ya_isClosed, .ref y_insides, .ref y_parent, .ref y_isHigh, .ref y_inBits, .int (z_i y152_y_sides), .ref ya_side, .ref ya_sideA, .ref ya_sideB, .int (z_i y_lineSpace), .ref y_wasThere, .ref ya_leads, .ref y_isLed, .ref ya_isOn, .ref y_goesTo, .ref y_stream, .ref y_filled, .ref y_isDone, .ref y_isReached, .ref y_newUnits, .ref y_isNew])), (ya_units, .inl (cA 1, 5120, .inl y_units)), (ya_level, .inl (cA 1, 16, .inl y_level)), (ya_lineLevel, .inl (cA 1, 400, .inl f3)), (ya_lineUnits, .inl (cA 1, 400, .inl f6)), (ya_lineFrom, .inl (cA 1, 400, .inl f8)), (ya_lineMany, .inl (cA 1, 400, .inl f10)), (ya_isClosed, .inl (cA 3, 400, .inl f13)), (ya_side, .inl (cA 1, 8000, .inl f29)), (ya_sideA, .inl (cA 1, 8000, .inl f35)), (ya_sideB, .inl (cA 1, 8000, .inl f55)), (ya_leads, .inl (cA 1, 2560, .inl y_leads)), (ya_isOn, .inl (cA 3, 2560, .inl f19))] := by rw [hy56]; exact hD
            refine lv_aload_n hx hb dX8_tellLine_253 rfl (lv_at hl 5 rfl) ?_
            refine lv_dup hx hb dX8_tellLine_254 rfl ?_
            refine va_get (D := D) (ci := 6) (v := .int (z_i y152_y_sides)) (C := RX8) (T := TX8) (N := 33) hx hb hts (fun w h => List.mem_cons_of_mem _ (List.mem_append_right _ h)) hown hK hP 0 rfl rfl 17 (by decide) (hts (.fieldLink RX8 159 "ContourSheetsModel" "sides" "I") (by decide +kernel)) (fun _ h9 => h9) rfl dX8_tellLine_255 ?_
            refine lv_iconst (v := z_i 1) hx hb dX8_tellLine_258 rfl ?_
            refine lx_iadd hx hb dX8_tellLine_259 ?_
            obtain ⟨hr58, hv⟩ := hv
            refine lx_topi (fun v57 hy59 => ?_)
            have hv := hv v57 hy59
            have h_v57 : z_in v57 := by rw [hy59]; exact hr58
            refine va_put (D := D) (ci := 6) (v := .int (z_i v57)) (ty := .int) (C := RX8) (T := TX8) (N := 33) hx hb hts (fun w h => List.mem_cons_of_mem _ (List.mem_append_right _ h)) tyX8 tyX8_ok nmX8 hown hK hP hD hS 0 rfl rfl 17 (by decide) (hts (.fieldLink RX8 159 "ContourSheetsModel" "sides" "I") (by decide +kernel)) (fun _ h9 => h9) rfl (by decide +kernel) rfl rfl (Nat.le_of_ble_eq_true rfl) dX8_tellLine_260 (fun H locs hP hD hS => ?_)
            have hP : va_P D vwCl [(y, .inr (6, [.ref y_space, .ref y_offset, .ref y_length, .ref ya_units, .ref y_isThere, .int (z_i y_levels), .ref ya_level, .int (z_i v15), .ref ya_lineLevel, .ref ya_lineUnits, .ref ya_lineFrom, .ref ya_lineMany, .ref ya_isClosed, .ref y_insides, .ref y_parent, .ref y_isHigh, .ref y_inBits, .int (z_i v57), .ref ya_side, .ref ya_sideA, .ref ya_sideB, .int (z_i y_lineSpace), .ref y_wasThere, .ref ya_leads, .ref y_isLed, .ref ya_isOn, .ref y_goesTo, .ref y_stream, .ref y_filled, .ref y_isDone, .ref y_isReached, .ref y_newUnits, .ref y_isNew])), (ya_units, .inl (cA 1, 5120, .inl y_units)), (ya_level, .inl (cA 1, 16, .inl y_level)), (ya_lineLevel, .inl (cA 1, 400, .inl f3)), (ya_lineUnits, .inl (cA 1, 400, .inl f6)), (ya_lineFrom, .inl (cA 1, 400, .inl f8)), (ya_lineMany, .inl (cA 1, 400, .inl f10)), (ya_isClosed, .inl (cA 3, 400, .inl f13)), (ya_side, .inl (cA 1, 8000, .inl f29)), (ya_sideA, .inl (cA 1, 8000, .inl f35)), (ya_sideB, .inl (cA 1, 8000, .inl f55)), (ya_leads, .inl (cA 1, 2560, .inl y_leads)), (ya_isOn, .inl (cA 3, 2560, .inl f19))] H := hP
            have hD : va_D A [(y, .inr (6, [.ref y_space, .ref y_offset, .ref y_length, .ref ya_units, .ref y_isThere, .int (z_i y_levels), .ref ya_level, .int (z_i v15), .ref ya_lineLevel, .ref ya_lineUnits, .ref ya_lineFrom, .ref ya_lineMany, .ref ya_isClosed, .ref y_insides, .ref y_parent, .ref y_isHigh, .ref y_inBits, .int (z_i v57), .ref ya_side, .ref ya_sideA, .ref ya_sideB, .int (z_i y_lineSpace), .ref y_wasThere, .ref ya_leads, .ref y_isLed, .ref ya_isOn, .ref y_goesTo, .ref y_stream, .ref y_filled, .ref y_isDone, .ref y_isReached, .ref y_newUnits, .ref y_isNew])), (ya_units, .inl (cA 1, 5120, .inl y_units)), (ya_level, .inl (cA 1, 16, .inl y_level)), (ya_lineLevel, .inl (cA 1, 400, .inl f3)), (ya_lineUnits, .inl (cA 1, 400, .inl f6)), (ya_lineFrom, .inl (cA 1, 400, .inl f8)), (ya_lineMany, .inl (cA 1, 400, .inl f10)), (ya_isClosed, .inl (cA 3, 400, .inl f13)), (ya_side, .inl (cA 1, 8000, .inl f29)), (ya_sideA, .inl (cA 1, 8000, .inl f35)), (ya_sideB, .inl (cA 1, 8000, .inl f55)), (ya_leads, .inl (cA 1, 2560, .inl y_leads)), (ya_isOn, .inl (cA 3, 2560, .inl f19))] := hD
            refine lv_aload_n hx hb dX8_tellLine_263 rfl (lv_at hl 5 rfl) ?_
            refine va_get (D := D) (ci := 6) (v := .ref ya_leads) (C := RX8) (T := TX8) (N := 33) hx hb hts (fun w h => List.mem_cons_of_mem _ (List.mem_append_right _ h)) hown hK hP 0 rfl rfl 23 (by decide) (hts (.fieldLink RX8 69 "ContourSheetsModel" "leads" "[I") (by decide +kernel)) (fun _ h9 => h9) rfl dX8_tellLine_264 ?_
            refine lv_iload hx hb dX8_tellLine_267 (lv_at hl 3 rfl) ?_
            refine lx_iald hx hb hK hP 11 1 rfl rfl (by decide) hi18.1 hi18.2 dX8_tellLine_269 ?_
            refine lx_topi (fun v60 hy61 => ?_)
            have hv := hv v60 hy61
            have h_v60 : z_in v60 := by rw [hy61]; exact (z_in_g _ _)
            refine lv_istore (lv' := [(6, .int (z_i v60)), (10, .int (z_i v25)), (9, .int (z_i v21)), (8, .int (z_i x152_8)), (5, .int (z_i x9_5)), (0, .ref y), (1, .int (z_i gi))]) hx hb dX8_tellLine_270 hl (by decide) rfl (fun ls hl => ?_)
            refine lv_iinc (v := z_i (x152_8 + 1)) (lv' := [(8, .int (z_i (x152_8 + 1))), (6, .int (z_i v60)), (10, .int (z_i v25)), (9, .int (z_i v21)), (5, .int (z_i x9_5)), (0, .ref y), (1, .int (z_i gi))]) hx hb dX8_tellLine_272 hl (k := 3) rfl (z_i_add _ _) (by decide) rfl (fun ls hl => ?_)
            refine lv_goto (tgt := 152) hx hb dX8_tellLine_275 (by decide) ?_
            exact hv _ _ ls hP hD hS (lv_sub hl [0, 1, 4, 5, 6] rfl)
      · have hv := hv.2 hc
        refine lv_iconst (v := z_i 0) hx hb dX8_tellLine_70 rfl ?_
        exact W.zret (v := z_i 0) hx hb hr (by decide) (fun t ht hW => ⟨⟨z_i 0, (y_lineLevel, y_lineUnits, y_lineFrom, y_lineMany, y_isClosed, y_side, y_sideA, y_sideB, y_isOn, y_lines, y_sides), rfl, ⟨0, rfl, (show z_in 0 from ⟨by decide, by decide⟩), h_y_lines, h_y_sides, hv⟩, z_pt hP ht⟩, hS.F ht⟩) hS.2.2 dX8_tellLine_71
  · have hv := hv.2 hc
    refine lv_iinc (v := z_i (x9_5 + 1)) (lv' := [(5, .int (z_i (x9_5 + 1))), (7, .int (z_i x9_7)), (6, .int (z_i x9_6)), (0, .ref y), (1, .int (z_i gi)), (2, .int (z_i vi)), (3, .int (z_i from_)), (4, .int (z_i cl))]) hx hb dX8_tellLine_14 hl (k := 2) rfl (z_i_add _ _) (by decide) rfl (fun ls hl => ?_)
    refine lv_aload_n hx hb dX8_tellLine_17 rfl (lv_at hl 3 rfl) ?_
    refine va_get (D := D) (ci := 6) (v := .ref ya_leads) (C := RX8) (T := TX8) (N := 33) hx hb hts (fun w h => List.mem_cons_of_mem _ (List.mem_append_right _ h)) hown hK hP 0 rfl rfl 23 (by decide) (hts (.fieldLink RX8 69 "ContourSheetsModel" "leads" "[I") (by decide +kernel)) (fun _ h9 => h9) rfl dX8_tellLine_18 ?_
    refine lv_iload hx hb dX8_tellLine_21 (lv_at hl 2 rfl) ?_
    obtain ⟨hi62, hv⟩ := hv
    refine lx_iald hx hb hK hP 11 1 rfl rfl (by decide) hi62.1 hi62.2 dX8_tellLine_23 ?_
    refine lx_topi (fun v63 hy64 => ?_)
    have hv := hv v63 hy64
    have h_v63 : z_in v63 := by rw [hy64]; exact (z_in_g _ _)
    refine lv_istore (lv' := [(6, .int (z_i v63)), (5, .int (z_i (x9_5 + 1))), (7, .int (z_i x9_7)), (0, .ref y), (1, .int (z_i gi)), (2, .int (z_i vi)), (3, .int (z_i from_)), (4, .int (z_i cl))]) hx hb dX8_tellLine_24 hl (by decide) rfl (fun ls hl => ?_)
    refine lv_iload hx hb dX8_tellLine_26 (lv_at hl 0 rfl) ?_
    refine lx_if_lt (tgt := 41) hx hb dX8_tellLine_28 (by decide) h_v63 (fun hc => ?_) (fun hc => ?_)
    · have hv := hv.1 hc
      refine lv_iconst (v := z_i 0) hx hb dX8_tellLine_41 rfl ?_
      refine lv_istore (lv' := [(7, .int (z_i 0)), (6, .int (z_i v63)), (5, .int (z_i (x9_5 + 1))), (0, .ref y), (1, .int (z_i gi)), (2, .int (z_i vi)), (3, .int (z_i from_)), (4, .int (z_i cl))]) hx hb dX8_tellLine_42 hl (by decide) rfl (fun ls hl => ?_)
      refine lv_goto (tgt := 9) hx hb dX8_tellLine_44 (by decide) ?_
      exact hv _ _ ls hP hD hS (lv_sub hl [0, 1, 2, 3, 4, 5, 6, 7] rfl)
    · have hv := hv.2 hc
      refine lv_iload hx hb dX8_tellLine_31 (lv_at hl 0 rfl) ?_
      refine lv_iload_n hx hb dX8_tellLine_33 rfl (lv_at hl 6 rfl) ?_
      refine lx_icmp_eq (tgt := 41) hx hb dX8_tellLine_34 (by decide) h_v63 h_from_ (fun hc => ?_) (fun hc => ?_)
      · have hv := hv.1 hc
        refine lv_iconst (v := z_i 0) hx hb dX8_tellLine_41 rfl ?_
        refine lv_istore (lv' := [(7, .int (z_i 0)), (6, .int (z_i v63)), (5, .int (z_i (x9_5 + 1))), (0, .ref y), (1, .int (z_i gi)), (2, .int (z_i vi)), (3, .int (z_i from_)), (4, .int (z_i cl))]) hx hb dX8_tellLine_42 hl (by decide) rfl (fun ls hl => ?_)
        refine lv_goto (tgt := 9) hx hb dX8_tellLine_44 (by decide) ?_
        exact hv _ _ ls hP hD hS (lv_sub hl [0, 1, 2, 3, 4, 5, 6, 7] rfl)
      · have hv := hv.2 hc
        refine lv_iconst (v := z_i 1) hx hb dX8_tellLine_37 rfl ?_
        refine lv_goto (tgt := 42) hx hb dX8_tellLine_38 (by decide) ?_
        refine lv_istore (lv' := [(7, .int (z_i 1)), (6, .int (z_i v63)), (5, .int (z_i (x9_5 + 1))), (0, .ref y), (1, .int (z_i gi)), (2, .int (z_i vi)), (3, .int (z_i from_)), (4, .int (z_i cl))]) hx hb dX8_tellLine_42 hl (by decide) rfl (fun ls hl => ?_)
        refine lv_goto (tgt := 9) hx hb dX8_tellLine_44 (by decide) ?_
        exact hv _ _ ls hP hD hS (lv_sub hl [0, 1, 2, 3, 4, 5, 6, 7] rfl)
set_option maxHeartbeats 4000000 in
set_option maxRecDepth 100000 in
theorem mt_X8_tellLine (l : Launch) (D : va_G) (cA : Nat → ClassId) (y : Nat) (y_space : Nat) (y_offset : Nat) (y_length : Nat) (ya_units : Nat) (y_units : Nat → Int32) (y_isThere : Nat) (y_levels : Int) (ya_level : Nat) (y_level : Nat → Int32) (y_lines : Int) (ya_lineLevel : Nat) (y_lineLevel : Nat → Int32) (ya_lineUnits : Nat) (y_lineUnits : Nat → Int32) (ya_lineFrom : Nat) (y_lineFrom : Nat → Int32) (ya_lineMany : Nat) (y_lineMany : Nat → Int32) (ya_isClosed : Nat) (y_isClosed : Nat → Int32) (y_insides : Nat) (y_parent : Nat) (y_isHigh : Nat) (y_inBits : Nat) (y_sides : Int) (ya_side : Nat) (y_side : Nat → Int32) (ya_sideA : Nat) (y_sideA : Nat → Int32) (ya_sideB : Nat) (y_sideB : Nat → Int32) (y_lineSpace : Int) (y_wasThere : Nat) (ya_leads : Nat) (y_leads : Nat → Int32) (y_isLed : Nat) (ya_isOn : Nat) (y_isOn : Nat → Int32) (y_goesTo : Nat) (y_stream : Nat) (y_filled : Nat) (y_isDone : Nat) (y_isReached : Nat) (y_newUnits : Nat) (y_isNew : Nat) (gi : Int) (vi : Int) (from_ : Int) (cl : Int) (h_y_levels : z_in y_levels) (h_y_lines : z_in y_lines) (h_y_sides : z_in y_sides) (h_y_lineSpace : z_in y_lineSpace) (h_gi : z_in gi) (h_vi : z_in vi) (h_from_ : z_in from_) (h_cl : z_in cl) (ls : List d_L) (nx : Int → Int) (bf : Int → Int) (hp1 : 0 ≤ gi ∧ gi < 4) (hp2 : 0 ≤ vi ∧ vi < 16) (hp3 : -8192 ≤ z_g y_level vi ∧ z_g y_level vi ≤ 8192) (hp4 : 0 ≤ from_ ∧ from_ < 2560) (hp5 : cl = 0 ∨ cl = 1) (hp6 : n_ok nx bf) (hp7 : ∀ s : Int, 0 ≤ s → s < 2560 → z_g y_leads s = nx s) (hp8 : ∀ s ∈ d_line nx from_, e_sk s) (hp9 : e_C ls (fun q => z_g y_units (1280 * gi + q)) y_level y_lineLevel y_lineUnits y_lineFrom y_lineMany y_isClosed y_side y_sideA y_sideB y_lines y_sides) : Met l yX8_tellLine wsX8_tellLine ({ frames := 1, cells := 0, slots := 0, locals := 23 } : Room) (va_Pc [.ref y, .int (z_i gi), .int (z_i vi), .int (z_i from_), .int (z_i cl)] (z_M0 D cA [(y, .inr (6, [.ref y_space, .ref y_offset, .ref y_length, .ref ya_units, .ref y_isThere, .int (z_i y_levels), .ref ya_level, .int (z_i y_lines), .ref ya_lineLevel, .ref ya_lineUnits, .ref ya_lineFrom, .ref ya_lineMany, .ref ya_isClosed, .ref y_insides, .ref y_parent, .ref y_isHigh, .ref y_inBits, .int (z_i y_sides), .ref ya_side, .ref ya_sideA, .ref ya_sideB, .int (z_i y_lineSpace), .ref y_wasThere, .ref ya_leads, .ref y_isLed, .ref ya_isOn, .ref y_goesTo, .ref y_stream, .ref y_filled, .ref y_isDone, .ref y_isReached, .ref y_newUnits, .ref y_isNew])), (ya_units, .inl (cA 1, 5120, .inl y_units)), (ya_level, .inl (cA 1, 16, .inl y_level)), (ya_lineLevel, .inl (cA 1, 400, .inl y_lineLevel)), (ya_lineUnits, .inl (cA 1, 400, .inl y_lineUnits)), (ya_lineFrom, .inl (cA 1, 400, .inl y_lineFrom)), (ya_lineMany, .inl (cA 1, 400, .inl y_lineMany)), (ya_isClosed, .inl (cA 3, 400, .inl y_isClosed)), (ya_side, .inl (cA 1, 8000, .inl y_side)), (ya_sideA, .inl (cA 1, 8000, .inl y_sideA)), (ya_sideB, .inl (cA 1, 8000, .inl y_sideB)), (ya_leads, .inl (cA 1, 2560, .inl y_leads)), (ya_isOn, .inl (cA 3, 2560, .inl y_isOn))])) (va_Qi (z_mi (fun v (u : (Nat → Int32) × (Nat → Int32) × (Nat → Int32) × (Nat → Int32) × (Nat → Int32) × (Nat → Int32) × (Nat → Int32) × (Nat → Int32) × (Nat → Int32) × Int × Int) => z_in u.2.2.2.2.2.2.2.2.2.1 ∧ z_in u.2.2.2.2.2.2.2.2.2.2 ∧ (fun (r : Int) (y_lineLevel' : (Nat → Int32)) (y_lineUnits' : (Nat → Int32)) (y_lineFrom' : (Nat → Int32)) (y_lineMany' : (Nat → Int32)) (y_isClosed' : (Nat → Int32)) (y_side' : (Nat → Int32)) (y_sideA' : (Nat → Int32)) (y_sideB' : (Nat → Int32)) (y_isOn' : (Nat → Int32)) (y_lines' : Int) (y_sides' : Int) => r = z_b (d_fb ls (d_line nx from_)) ∧ (d_fits ls (d_line nx from_) → e_C (ls ++ [(vi, cl, d_line nx from_)]) (fun q => z_g y_units (1280 * gi + q)) y_level y_lineLevel' y_lineUnits' y_lineFrom' y_lineMany' y_isClosed' y_side' y_sideA' y_sideB' y_lines' y_sides' ∧ ∀ x : Int, 0 ≤ x → x < 2560 → z_g y_isOn' x = if x ∈ d_line nx from_ then 1 else z_g y_isOn x) ∧ (¬ d_fits ls (d_line nx from_) → e_C ls (fun q => z_g y_units (1280 * gi + q)) y_level y_lineLevel' y_lineUnits' y_lineFrom' y_lineMany' y_isClosed' y_side' y_sideA' y_sideB' y_lines' y_sides')) v u.1 u.2.1 u.2.2.1 u.2.2.2.1 u.2.2.2.2.1 u.2.2.2.2.2.1 u.2.2.2.2.2.2.1 u.2.2.2.2.2.2.2.1 u.2.2.2.2.2.2.2.2.1 u.2.2.2.2.2.2.2.2.2.1 u.2.2.2.2.2.2.2.2.2.2)) (fun (u : (Nat → Int32) × (Nat → Int32) × (Nat → Int32) × (Nat → Int32) × (Nat → Int32) × (Nat → Int32) × (Nat → Int32) × (Nat → Int32) × (Nat → Int32) × Int × Int) t => va_P D vwCl [(y, .inr (6, [.ref y_space, .ref y_offset, .ref y_length, .ref ya_units, .ref y_isThere, .int (z_i y_levels), .ref ya_level, .int (z_i u.2.2.2.2.2.2.2.2.2.1), .ref ya_lineLevel, .ref ya_lineUnits, .ref ya_lineFrom, .ref ya_lineMany, .ref ya_isClosed, .ref y_insides, .ref y_parent, .ref y_isHigh, .ref y_inBits, .int (z_i u.2.2.2.2.2.2.2.2.2.2), .ref ya_side, .ref ya_sideA, .ref ya_sideB, .int (z_i y_lineSpace), .ref y_wasThere, .ref ya_leads, .ref y_isLed, .ref ya_isOn, .ref y_goesTo, .ref y_stream, .ref y_filled, .ref y_isDone, .ref y_isReached, .ref y_newUnits, .ref y_isNew])), (ya_units, .inl (cA 1, 5120, .inl y_units)), (ya_level, .inl (cA 1, 16, .inl y_level)), (ya_lineLevel, .inl (cA 1, 400, .inl u.1)), (ya_lineUnits, .inl (cA 1, 400, .inl u.2.1)), (ya_lineFrom, .inl (cA 1, 400, .inl u.2.2.1)), (ya_lineMany, .inl (cA 1, 400, .inl u.2.2.2.1)), (ya_isClosed, .inl (cA 3, 400, .inl u.2.2.2.2.1)), (ya_side, .inl (cA 1, 8000, .inl u.2.2.2.2.2.1)), (ya_sideA, .inl (cA 1, 8000, .inl u.2.2.2.2.2.2.1)), (ya_sideB, .inl (cA 1, 8000, .inl u.2.2.2.2.2.2.2.1)), (ya_leads, .inl (cA 1, 2560, .inl y_leads)), (ya_isOn, .inl (cA 3, 2560, .inl u.2.2.2.2.2.2.2.2.1))] t.heap) (z_A [(y, .inr (6, [.ref y_space, .ref y_offset, .ref y_length, .ref ya_units, .ref y_isThere, .int (z_i y_levels), .ref ya_level, .int (z_i y_lines), .ref ya_lineLevel, .ref ya_lineUnits, .ref ya_lineFrom, .ref ya_lineMany, .ref ya_isClosed, .ref y_insides, .ref y_parent, .ref y_isHigh, .ref y_inBits, .int (z_i y_sides), .ref ya_side, .ref ya_sideA, .ref ya_sideB, .int (z_i y_lineSpace), .ref y_wasThere, .ref ya_leads, .ref y_isLed, .ref ya_isOn, .ref y_goesTo, .ref y_stream, .ref y_filled, .ref y_isDone, .ref y_isReached, .ref y_newUnits, .ref y_isNew])), (ya_units, .inl (cA 1, 5120, .inl y_units)), (ya_level, .inl (cA 1, 16, .inl y_level)), (ya_lineLevel, .inl (cA 1, 400, .inl y_lineLevel)), (ya_lineUnits, .inl (cA 1, 400, .inl y_lineUnits)), (ya_lineFrom, .inl (cA 1, 400, .inl y_lineFrom)), (ya_lineMany, .inl (cA 1, 400, .inl y_lineMany)), (ya_isClosed, .inl (cA 3, 400, .inl y_isClosed)), (ya_side, .inl (cA 1, 8000, .inl y_side)), (ya_sideA, .inl (cA 1, 8000, .inl y_sideA)), (ya_sideB, .inl (cA 1, 8000, .inl y_sideB)), (ya_leads, .inl (cA 1, 2560, .inl y_leads)), (ya_isOn, .inl (cA 3, 2560, .inl y_isOn))])) 0 0 (z_A [(y, .inr (6, [.ref y_space, .ref y_offset, .ref y_length, .ref ya_units, .ref y_isThere, .int (z_i y_levels), .ref ya_level, .int (z_i y_lines), .ref ya_lineLevel, .ref ya_lineUnits, .ref ya_lineFrom, .ref ya_lineMany, .ref ya_isClosed, .ref y_insides, .ref y_parent, .ref y_isHigh, .ref y_inBits, .int (z_i y_sides), .ref ya_side, .ref ya_sideA, .ref ya_sideB, .int (z_i y_lineSpace), .ref y_wasThere, .ref ya_leads, .ref y_isLed, .ref ya_isOn, .ref y_goesTo, .ref y_stream, .ref y_filled, .ref y_isDone, .ref y_isReached, .ref y_newUnits, .ref y_isNew])), (ya_units, .inl (cA 1, 5120, .inl y_units)), (ya_level, .inl (cA 1, 16, .inl y_level)), (ya_lineLevel, .inl (cA 1, 400, .inl y_lineLevel)), (ya_lineUnits, .inl (cA 1, 400, .inl y_lineUnits)), (ya_lineFrom, .inl (cA 1, 400, .inl y_lineFrom)), (ya_lineMany, .inl (cA 1, 400, .inl y_lineMany)), (ya_isClosed, .inl (cA 3, 400, .inl y_isClosed)), (ya_side, .inl (cA 1, 8000, .inl y_side)), (ya_sideA, .inl (cA 1, 8000, .inl y_sideA)), (ya_sideB, .inl (cA 1, 8000, .inl y_sideB)), (ya_leads, .inl (cA 1, 2560, .inl y_leads)), (ya_isOn, .inl (cA 3, 2560, .inl y_isOn))]) := by
  refine wk_X8_tellLine l D cA y y_space y_offset y_length ya_units y_units y_isThere y_levels ya_level y_level y_lines ya_lineLevel y_lineLevel ya_lineUnits y_lineUnits ya_lineFrom y_lineFrom ya_lineMany y_lineMany ya_isClosed y_isClosed y_insides y_parent y_isHigh y_inBits y_sides ya_side y_side ya_sideA y_sideA ya_sideB y_sideB y_lineSpace y_wasThere ya_leads y_leads y_isLed ya_isOn y_isOn y_goesTo y_stream y_filled y_isDone y_isReached y_newUnits y_isNew gi vi from_ cl h_y_levels h_y_lines h_y_sides h_y_lineSpace h_gi h_vi h_from_ h_cl (fun (r : Int) (y_lineLevel' : (Nat → Int32)) (y_lineUnits' : (Nat → Int32)) (y_lineFrom' : (Nat → Int32)) (y_lineMany' : (Nat → Int32)) (y_isClosed' : (Nat → Int32)) (y_side' : (Nat → Int32)) (y_sideA' : (Nat → Int32)) (y_sideB' : (Nat → Int32)) (y_isOn' : (Nat → Int32)) (y_lines' : Int) (y_sides' : Int) => r = z_b (d_fb ls (d_line nx from_)) ∧ (d_fits ls (d_line nx from_) → e_C (ls ++ [(vi, cl, d_line nx from_)]) (fun q => z_g y_units (1280 * gi + q)) y_level y_lineLevel' y_lineUnits' y_lineFrom' y_lineMany' y_isClosed' y_side' y_sideA' y_sideB' y_lines' y_sides' ∧ ∀ x : Int, 0 ≤ x → x < 2560 → z_g y_isOn' x = if x ∈ d_line nx from_ then 1 else z_g y_isOn x) ∧ (¬ d_fits ls (d_line nx from_) → e_C ls (fun q => z_g y_units (1280 * gi + q)) y_level y_lineLevel' y_lineUnits' y_lineFrom' y_lineMany' y_isClosed' y_side' y_sideA' y_sideB' y_lines' y_sides')) ?_
  unfold vc_X8_tellLine
  have hlen := d_line_len hp6 hp4.1 hp4.2
  have hend := d_line_end hp6 hp4.1 hp4.2
  have hrng : ∀ x ∈ d_line nx from_, 0 ≤ x ∧ x < 2560 := d_walk_range hp6 hp4.1 hp4.2
  have hstep : ∀ (i : Nat) (x y : Int), (d_line nx from_)[i]? = some x → (d_line nx from_)[i + 1]? = some y → y = nx x ∧ y ≠ -1 ∧ y ≠ from_ := d_walk_step 2560 from_
  have h00 : (d_line nx from_)[0]? = some from_ := d_walk_0 2560 from_
  have hlast : ∀ (i : Nat) (x : Int), (d_line nx from_)[i]? = some x → (d_line nx from_)[i + 1]? = none → nx x = -1 ∨ nx x = from_ := fun i x h1 h2 => by
    rw [d_line_at h1 h2] at hend; exact hend
  obtain ⟨c1, c2, c3, c4, c5⟩ := id hp9
  generalize hw : d_line nx from_ = w at *
  intro L9 hL9
  suffices H : ∀ (d i : Nat) (x : Int), i + d + 1 = w.length → w[i]? = some x → L9 1 x (i : Int) from H (w.length - 1) 0 from_ (by have := (List.getElem?_eq_some_iff.mp h00).1; omega) h00
  have fin : ∀ y : Int, z_in y → L9 0 y (w.length : Int) := by
    intro y hy
    refine hL9 _ _ _ ⟨by omega, by omega⟩ hy ⟨by omega, by omega⟩ ⟨fun _ => ?_, fun h => absurd rfl h⟩
    have no : ¬ d_fits ls w → (0 : Int) = z_b (d_fb ls w) ∧ (d_fits ls w → e_C (ls ++ [(vi, cl, w)]) (fun q => z_g y_units (1280 * gi + q)) y_level y_lineLevel y_lineUnits y_lineFrom y_lineMany y_isClosed y_side y_sideA y_sideB y_lines y_sides ∧ ∀ x : Int, 0 ≤ x → x < 2560 → z_g y_isOn x = if x ∈ w then 1 else z_g y_isOn x) ∧ (¬ d_fits ls w → e_C ls (fun q => z_g y_units (1280 * gi + q)) y_level y_lineLevel y_lineUnits y_lineFrom y_lineMany y_isClosed y_side y_sideA y_sideB y_lines y_sides) := fun h => ⟨by rw [d_fb_f h]; rfl, fun h2 => absurd h2 h, fun _ => hp9⟩
    refine ⟨fun h => no (fun q => by have := q.1; omega), fun h => ⟨⟨by omega, by omega⟩, fun h2 => ?_, fun h2 => no (fun q => by have := q.2; omega)⟩⟩
    have hfit : d_fits ls w := ⟨by omega, by omega⟩
    refine ⟨⟨by omega, by omega⟩, ?_⟩
    rintro f3 rfl
    refine ⟨hp2, ?_⟩
    rintro f6 rfl f8 rfl f10 rfl
    refine ⟨hp5, ?_⟩
    rintro f13 rfl
    refine ⟨⟨by omega, by omega⟩, ?_⟩
    rintro v15 rfl L152 hL152
    suffices G : ∀ (d k : Nat) (s : Int) (sd sa sb on : Nat → Int32), k + d = w.length → z_in s → (k < w.length → w[k]? = some s) → (∀ p : Int, 0 ≤ p → p < y_sides → z_g sd p = z_g y_side p ∧ z_g sa p = z_g y_sideA p ∧ z_g sb p = z_g y_sideB p) → (∀ (i : Nat) (s : Int), i < k → w[i]? = some s → z_g sd (y_sides + i) = s ∧ z_g sa (y_sides + i) = z_g y_units (1280 * gi + s / 2) ∧ z_g sb (y_sides + i) = z_g y_units (1280 * gi + l_oe s)) → (∀ x : Int, 0 ≤ x → x < 2560 → z_g on x = if x ∈ w.take k then 1 else z_g y_isOn x) → L152 (k : Int) s (y_sides + k) sd sa sb on from by
      have := G w.length 0 from_ y_side y_sideA y_sideB y_isOn (by omega) h_from_ (fun _ => h00) (fun p _ _ => ⟨rfl, rfl, rfl⟩) (fun i s h => absurd h (by omega)) (fun x _ _ => by rw [List.take_zero, if_neg List.not_mem_nil])
      rw [show y_sides + ((0 : Nat) : Int) = y_sides by omega] at this
      exact this
    intro d
    induction d with
    | zero =>
      intro k s sd sa sb on hk hs hks ha hb hon
      obtain rfl : k = w.length := by omega
      refine hL152 _ _ _ _ _ _ _ ⟨by omega, by omega⟩ hs ⟨by omega, by omega⟩ ⟨fun _ => ⟨by rw [d_fb_t hfit]; rfl, fun _ => ⟨?_, fun x a b => ?_⟩, fun h => absurd hfit h⟩, fun h => absurd h (by omega)⟩
      · exact e_C_add hp9 hfit ⟨by omega, by omega⟩ (by rcases hp5 with h | h <;> rw [h] <;> decide) ⟨by omega, by omega⟩ ha (fun i s hi => hb i s (List.getElem?_eq_some_iff.mp hi).1 hi)
      · rw [hon x a b, List.take_length]
    | succ d ih =>
      intro k s sd sa sb on hk hs hks ha hb hon
      have hks := hks (by omega)
      have hsm : s ∈ w := List.mem_iff_getElem?.mpr ⟨k, hks⟩
      have hsr := hrng s hsm
      have hsk : (s % 2 = 0 → s / 2 % 40 < 39) ∧ (s % 2 = 1 → s / 80 < 31) := hp8 s hsm
      have e1 : s.tdiv 80 = s / 80 := Int.tdiv_eq_ediv_of_nonneg hsr.1
      have e2 : s.tmod 2 = s % 2 := Int.tmod_eq_emod_of_nonneg hsr.1
      have e3 : s.tdiv 2 = s / 2 := Int.tdiv_eq_ediv_of_nonneg hsr.1
      have e4 : (s / 2).tmod 40 = s / 2 % 40 := Int.tmod_eq_emod_of_nonneg (by omega)
      refine hL152 _ _ _ _ _ _ _ ⟨by omega, by omega⟩ hs ⟨by omega, by omega⟩ ⟨fun h => absurd h (by omega), fun _ => ⟨hsr, ?_⟩⟩
      rintro f19 rfl
      rw [e1, e2, e3, e4]
      refine ⟨⟨by omega, by omega⟩, ?_⟩
      rintro v21 rfl
      refine ⟨⟨by omega, by omega⟩, ⟨by omega, by omega⟩, ?_⟩
      rintro v25 rfl
      refine ⟨⟨by omega, by omega⟩, ?_⟩
      rintro f29 rfl
      refine ⟨hp1, ⟨by omega, by omega⟩, ⟨by omega, by omega⟩, ?_⟩
      rintro r34 z34 h34
      rw [show 40 * (s / 80) + s / 2 % 40 = s / 2 by omega] at h34
      rintro f35 rfl
      have go : ∀ o : Int, z_in o → o = z_g y_units (1280 * gi + l_oe s) → ∀ nk : Int, nk = z_g y_leads s → L152 ((k : Int) + 1) nk (y_sides + k + 1) (z_s sd (y_sides + k) s) (z_s sa (y_sides + k) r34) (z_s sb (y_sides + k) o) (z_s on s 1) := by
        intro o zo ho nk hnk
        have g1 : ∀ p : Int, 0 ≤ p → z_g (z_s sd (y_sides + k) s) p = if p = y_sides + k then s else z_g sd p := fun p hp => z_gs hs (by omega) hp
        have g2 : ∀ p : Int, 0 ≤ p → z_g (z_s sa (y_sides + k) r34) p = if p = y_sides + k then r34 else z_g sa p := fun p hp => z_gs z34 (by omega) hp
        have g3 : ∀ p : Int, 0 ≤ p → z_g (z_s sb (y_sides + k) o) p = if p = y_sides + k then o else z_g sb p := fun p hp => z_gs zo (by omega) hp
        have nkin : z_in nk := by rw [hnk]; exact z_in_g _ _
        have := ih (k + 1) nk (z_s sd (y_sides + k) s) (z_s sa (y_sides + k) r34) (z_s sb (y_sides + k) o) (z_s on s 1) (by omega) nkin ?_ ?_ ?_ ?_
        · rw [show y_sides + ((k + 1 : Nat) : Int) = y_sides + k + 1 by omega] at this
          exact this
        · intro hlt
          obtain ⟨y, hy⟩ : ∃ y, w[k + 1]? = some y := ⟨_, List.getElem?_eq_getElem hlt⟩
          have := hstep k s y hks hy
          rw [hy, hnk, hp7 s hsr.1 hsr.2, this.1]
        · intro p p0 p1
          rw [g1 p p0, g2 p p0, g3 p p0, if_neg (by omega), if_neg (by omega), if_neg (by omega)]
          exact ha p p0 p1
        · intro i s2 hi hi2
          rw [g1 _ (by omega), g2 _ (by omega), g3 _ (by omega)]
          by_cases e : i = k
          · subst e
            rw [hks] at hi2
            obtain rfl : s = s2 := Option.some.inj hi2
            rw [if_pos rfl, if_pos rfl, if_pos rfl]
            exact ⟨rfl, h34, ho⟩
          · rw [if_neg (by omega), if_neg (by omega), if_neg (by omega)]
            exact hb i s2 (by omega) hi2
        · intro x a b
          rw [z_gs ⟨by decide, by decide⟩ hsr.1 a, hon x a b, List.take_add_one, hks]
          by_cases e : x = s
          · rw [if_pos e, if_pos (by rw [e]; simp)]
          · rw [if_neg e]
            by_cases e2 : x ∈ w.take k
            · rw [if_pos e2, if_pos (List.mem_append_left _ e2)]
            · rw [if_neg e2, if_neg]
              intro h
              rcases List.mem_append.mp h with h | h
              · exact e2 h
              · simp at h; exact e h
      refine ⟨⟨by omega, by omega⟩, fun o => ⟨⟨by omega, by omega⟩, hp1, ⟨by omega, by omega⟩, ⟨by omega, by omega⟩, ?_⟩, fun o => ⟨⟨by omega, by omega⟩, hp1, ⟨by omega, by omega⟩, ⟨by omega, by omega⟩, ?_⟩⟩
      · rintro r42 z42 h42 f43 rfl
        refine ⟨⟨by omega, by omega⟩, ?_⟩
        rintro v45 rfl v48 h48
        refine go r42 z42 ?_ v48 h48
        unfold l_oe
        rw [h42, if_neg o, show 40 * (s / 80 + 1) + s / 2 % 40 = s / 2 + 40 by omega]
      · rintro r42 z42 h42 f43 rfl
        refine ⟨⟨by omega, by omega⟩, ?_⟩
        rintro v45 rfl v48 h48
        refine go r42 z42 ?_ v48 h48
        unfold l_oe
        rw [h42, if_pos o, show 40 * (s / 80) + (s / 2 % 40 + 1) = s / 2 + 1 by omega]
  intro d
  induction d with
  | zero =>
    intro i x hi hx
    have hxr := hrng x (List.mem_iff_getElem?.mpr ⟨i, hx⟩)
    have hn : w[i + 1]? = none := List.getElem?_eq_none (by omega)
    refine hL9 _ _ _ ⟨by omega, by omega⟩ ⟨by omega, by omega⟩ ⟨by omega, by omega⟩ ⟨fun h => absurd h (by decide), fun _ => ⟨hxr, ?_⟩⟩
    rintro v63 h63
    have z63 : z_in v63 := by rw [h63]; exact z_in_g _ _
    rw [hp7 x hxr.1 hxr.2] at h63
    have hl := hlast i x hx hn
    have f := fin v63 z63
    rw [show (w.length : Int) = (i : Int) + 1 by omega] at f
    exact ⟨fun _ => f, fun h => ⟨fun _ => f, fun h2 => absurd hl (by omega)⟩⟩
  | succ d ih =>
    intro i x hi hx
    have hxr := hrng x (List.mem_iff_getElem?.mpr ⟨i, hx⟩)
    obtain ⟨y, hy⟩ : ∃ y, w[i + 1]? = some y := ⟨_, List.getElem?_eq_getElem (show i + 1 < w.length by omega)⟩
    have hs := hstep i x y hx hy
    have hyr := hrng y (List.mem_iff_getElem?.mpr ⟨_, hy⟩)
    refine hL9 _ _ _ ⟨by omega, by omega⟩ ⟨by omega, by omega⟩ ⟨by omega, by omega⟩ ⟨fun h => absurd h (by decide), fun _ => ⟨hxr, ?_⟩⟩
    rintro v63 h63
    rw [hp7 x hxr.1 hxr.2, ← hs.1] at h63
    rw [h63]
    exact ⟨fun h => absurd h (by omega), fun _ => ⟨fun h => absurd h hs.2.2, fun _ => ih (i + 1) y (by omega) hy⟩⟩
