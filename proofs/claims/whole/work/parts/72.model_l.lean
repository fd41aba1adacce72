/-! from the rim inwards: what is done has its answer; what is open has an answer that a way bears out -/
def dj_I (T : Int → Bool) (K : Int → Int) (G : Int → Prop) (z kk : Int) (F : Int → Int) (P : Int → Prop) : Prop :=
  (∀ q, P q → T q = true ∧ w_fs T K G q (F q)) ∧
  (∀ q, T q = true → ¬ P q → (F q = 2147483647 ∨ w_con T K G q (F q)) ∧ (G q → F q ≤ K q)) ∧
  (∀ o, P o → ∀ j : Int, 0 ≤ j → j < 8 → (o = z → j < kk) → m_nb T o j ≠ -1 → ¬ P (m_nb T o j) → F (m_nb T o j) ≤ max (K (m_nb T o j)) (F o))
section
variable {T : Int → Bool} {K F : Int → Int} {z kk : Int} {G P : Int → Prop}
theorem dj_low (hr : ∀ q, T q = true → 0 ≤ q ∧ q < 1280) (I : dj_I T K G z 8 F P) {b : Int} (hm : ∀ q, T q = true → ¬ P q → F b ≤ F q) {c : Int} : ∀ (n : Nat) (o q : Int), ¬ P o → w_way T K c n o q → G q → F b ≤ c := by
  intro n
  induction n with
  | zero =>
    rintro o q ho ⟨rfl, h1, h2⟩ hG
    have a1 := hm o h1 ho
    have a2 := (I.2.1 o h1 ho).2 hG
    omega
  | succ n ih =>
    rintro o q ho ⟨h1, h2, k, k0, k1, hne, hw⟩ hG
    by_cases hP : P (m_nb T o k)
    · have hb := m_nb_back h1 (hr o h1).1 (hr o h1).2 k0 k1 hne
      have h3 := I.2.2 _ hP ((k + 4) % 8) (by omega) (by omega) (fun _ => by omega)
      rw [hb] at h3
      have h4 := h3 (by have := (hr o h1).1; omega) ho
      have h5 := (I.1 _ hP).2.2 c ⟨q, n, hG, hw⟩
      have h6 := hm o h1 ho
      omega
    · exact ih _ q hP hw hG
theorem dj_pop (hr : ∀ q, T q = true → 0 ≤ q ∧ q < 1280) (I : dj_I T K G z 8 F P) {b c0 : Int} (hT : T b = true) (hb : ¬ P b) (hm : ∀ q, T q = true → ¬ P q → F b ≤ F q) (hc : w_con T K G b c0) (hc0 : c0 < 2147483647) {P' : Int → Prop} (hP' : ∀ q, P' q ↔ P q ∨ q = b) : dj_I T K G b 0 F P' := by
  have low : ∀ c, w_con T K G b c → F b ≤ c := fun c ⟨q, n, hG, hw⟩ => dj_low hr I hm n b q hb hw hG
  refine ⟨fun q hq => ?_, fun q h1 h2 => I.2.1 q h1 (fun h => h2 ((hP' q).mpr (Or.inl h))), fun o ho j j0 j1 j2 hne hn => ?_⟩
  · rcases (hP' q).mp hq with h | rfl
    · exact I.1 q h
    · refine ⟨hT, ?_, low⟩
      rcases (I.2.1 q hT hb).1 with h | h
      · have := low c0 hc; omega
      · exact h
  · by_cases e : o = b
    · exact absurd (j2 e) (by omega)
    · rcases (hP' o).mp ho with h | h
      · exact I.2.2 o h j j0 j1 (fun _ => j1) hne (fun h3 => hn ((hP' _).mpr (Or.inl h3)))
      · exact absurd h e
theorem dj_skip {j : Int} (I : dj_I T K G z j F P) (hn : m_nb T z j = -1 ∨ P (m_nb T z j)) : dj_I T K G z (j + 1) F P := by
  refine ⟨I.1, I.2.1, fun o ho i i0 i1 i2 hne hnp => ?_⟩
  by_cases h : o = z ∧ i = j
  · obtain ⟨rfl, rfl⟩ := h
    rcases hn with h | h
    · exact absurd h hne
    · exact absurd h hnp
  · exact I.2.2 o ho i i0 i1 (fun h2 => by have := i2 h2; have : i ≠ j := fun h3 => h ⟨h2, h3⟩; omega) hne hnp
theorem dj_relax (hr : ∀ q, T q = true → 0 ≤ q ∧ q < 1280) {j o : Int} (I : dj_I T K G z j F P) (hz : P z) (h0 : 0 ≤ j) (h1 : j < 8) (ho : o = m_nb T z j) (hne : m_nb T z j ≠ -1) (hP : ¬ P o) {F' : Int → Int} (hF : ∀ q, 0 ≤ q → F' q = if q = o then min (max (K o) (F z)) (F o) else F q) : dj_I T K G z (j + 1) F' P := by
  have hzT := (I.1 z hz).1
  have hoT : T o = true := by rw [ho]; exact (m_nb_th hne).1
  have ho0 := (hr o hoT).1
  have ezo : z ≠ o := fun e => hP (e ▸ hz)
  have eP : ∀ q, P q → F' q = F q := fun q hq => by
    have hq2 := (hr q (I.1 q hq).1).1
    rw [hF q hq2, if_neg (fun e : q = o => hP (e ▸ hq))]
  have le : ∀ q, 0 ≤ q → F' q ≤ F q := fun q hq => by
    rw [hF q hq]
    by_cases e : q = o
    · rw [if_pos e, e]; omega
    · rw [if_neg e]; exact Int.le_refl _
  refine ⟨fun q hq => ?_, fun q h2 h3 => ?_, fun q hq i i0 i1 i2 hne2 hnp => ?_⟩
  · rw [eP q hq]; exact I.1 q hq
  · have hq0 := (hr q h2).1
    refine ⟨?_, fun hG => by have := (I.2.1 q h2 h3).2 hG; have := le q hq0; omega⟩
    rw [hF q hq0]
    by_cases e : q = o
    · rw [if_pos e]
      by_cases hlt : max (K o) (F z) < F o
      · right
        obtain ⟨q1, n, hG, hw⟩ := (I.1 z hz).2.1
        have hb := m_nb_back hzT (hr z hzT).1 (hr z hzT).2 h0 h1 hne
        have em : min (max (K o) (F z)) (F o) = max (K o) (F z) := by omega
        rw [em, e]
        refine ⟨q1, n + 1, hG, hoT, by omega, (j + 4) % 8, by omega, by omega, ?_, ?_⟩
        · rw [ho, hb]; have := (hr z hzT).1; omega
        · rw [ho, hb]; exact w_way_mono (by omega) hw
      · have em : min (max (K o) (F z)) (F o) = F o := by omega
        rw [em, e]
        exact (I.2.1 o hoT hP).1
    · rw [if_neg e]; exact (I.2.1 q h2 h3).1
  · have hm0 := (m_nb_th hne2).2.1
    rw [eP q hq]
    by_cases h : q = z ∧ i = j
    · obtain ⟨rfl, rfl⟩ := h
      rw [hF _ hm0, ← ho, if_pos rfl]
      omega
    · have h4 := I.2.2 q hq i i0 i1 (fun h2 => by have := i2 h2; have : i ≠ j := fun h3 => h ⟨h2, h3⟩; omega) hne2 hnp
      have := le _ hm0
      omega
/-- going straight up one comes to the rim -/
theorem w_rim {c : Int} (hr : ∀ q, T q = true → 0 ≤ q ∧ q < 1280) (hK : ∀ q, T q = true → K q ≤ c) : ∀ (d : Nat) (q : Int), T q = true → q / 40 < d → ∃ (q1 : Int) (n : Nat), m_nc T q1 < 8 ∧ w_way T K c n q q1 := by
  intro d
  induction d with
  | zero => intro q hq h; have := hr q hq; omega
  | succ d ih =>
    intro q hq h
    by_cases h8 : m_nc T q < 8
    · exact ⟨q, 0, h8, rfl, hq, hK q hq⟩
    · have hne : m_nb T q 1 ≠ -1 := m_nc_8 (by omega) 1 (by omega)
      obtain ⟨e, -, -, -, -⟩ := m_nb_eq hne
      have z1 : z_rs (1 : Int).toNat = -1 := by decide
      have z2 : z_cs (1 : Int).toNat = 0 := by decide
      rw [z1, z2] at e
      obtain ⟨q1, n, h1, h2⟩ := ih (m_nb T q 1) (m_nb_th hne).1 (by have := hr q hq; omega)
      exact ⟨q1, n + 1, h1, hq, hK q hq, 1, by omega, by omega, hne, h2⟩
end
def vc_X8_filledOf (y_units : Nat → Int32) (y_isThere : Nat → Int32) (y_filled : Nat → Int32) (y_isDone : Nat → Int32) (gi : Int) (n : Int) (Q : Int → (Nat → Int32) → (Nat → Int32) → Prop) : Prop :=
(∀ L2 : Int → (Nat → Int32) → (Nat → Int32) → Prop,
(∀ (x2_3 : Int) (y2_ya_filled : Nat → Int32) (y2_ya_isDone : Nat → Int32), z_in x2_3 → ((x2_3 ≥ 1280 → (∀ L84 : (Nat → Int32) → (Nat → Int32) → Prop,
(∀ (y84_ya_filled : Nat → Int32) (y84_ya_isDone : Nat → Int32), (0 ≤ n ∧ n < 1280) ∧ ((z_g y84_ya_isDone n ≠ 0 → Q (z_g y84_ya_filled n) y84_ya_filled y84_ya_isDone) ∧
(z_g y84_ya_isDone n = 0 → (∀ L98 : Int → Int → Prop,
(∀ (x98_4 : Int) (x98_3 : Int), z_in x98_4 → z_in x98_3 → ((x98_4 ≥ 1280 → (0 ≤ x98_3 ∧ x98_3 < 1280) ∧ (∀ f3 : Nat → Int32, f3 = z_s y84_ya_isDone x98_3 1 → (∀ L155 : Int → (Nat → Int32) → Prop,
(∀ (x155_4 : Int) (y155_ya_filled : Nat → Int32), z_in x155_4 → ((x155_4 ≥ 8 → L84 y155_ya_filled f3) ∧
(x155_4 < 8 → (0 ≤ gi ∧ gi < 4) ∧ (0 ≤ x98_3 ∧ x98_3 < 1280) ∧ (0 ≤ x155_4 ∧ x155_4 < 8) ∧ (∀ (r8 : Int), z_in r8 → (r8 = m_nb (q_th y_isThere gi) x98_3 x155_4) → ((r8 < 0 → L155 (x155_4 + 1) y155_ya_filled) ∧
(r8 ≥ 0 → (0 ≤ r8 ∧ r8 < 1280) ∧ ((z_g f3 r8 ≠ 0 → L155 (x155_4 + 1) y155_ya_filled) ∧
(z_g f3 r8 = 0 → (0 ≤ (1280 * gi) + r8 ∧ (1280 * gi) + r8 < 5120) ∧ (∀ v11 : Int, v11 = z_g y_units ((1280 * gi) + r8) → ((v11 ≤ z_g y155_ya_filled x98_3 → (∀ v13 : Int, v13 = z_g y155_ya_filled x98_3 → ((v13 ≥ z_g y155_ya_filled r8 → (∀ f15 : Nat → Int32, f15 = z_s y155_ya_filled r8 (z_g y155_ya_filled r8) → L155 (x155_4 + 1) f15)) ∧
(v13 < z_g y155_ya_filled r8 → (∀ f17 : Nat → Int32, f17 = z_s y155_ya_filled r8 v13 → L155 (x155_4 + 1) f17))))) ∧
(v11 > z_g y155_ya_filled x98_3 → ((v11 ≥ z_g y155_ya_filled r8 → (∀ f19 : Nat → Int32, f19 = z_s y155_ya_filled r8 (z_g y155_ya_filled r8) → L155 (x155_4 + 1) f19)) ∧
(v11 < z_g y155_ya_filled r8 → (∀ f21 : Nat → Int32, f21 = z_s y155_ya_filled r8 v11 → L155 (x155_4 + 1) f21))))))))))))) → L155 x155_4 y155_ya_filled) →
L155 0 y84_ya_filled))) ∧
(x98_4 < 1280 → (0 ≤ x98_4 ∧ x98_4 < 1280) ∧ ((z_g y84_ya_isDone x98_4 ≠ 0 → L98 (x98_4 + 1) x98_3) ∧
(z_g y84_ya_isDone x98_4 = 0 → ((x98_3 < 0 → L98 (x98_4 + 1) x98_4) ∧
(x98_3 ≥ 0 → (0 ≤ x98_3 ∧ x98_3 < 1280) ∧ ((z_g y84_ya_filled x98_4 ≥ z_g y84_ya_filled x98_3 → L98 (x98_4 + 1) x98_3) ∧
(z_g y84_ya_filled x98_4 < z_g y84_ya_filled x98_3 → L98 (x98_4 + 1) x98_4)))))))) → L98 x98_4 x98_3) →
L98 0 (-1)))) → L84 y84_ya_filled y84_ya_isDone) →
L84 y2_ya_filled y2_ya_isDone)) ∧
(x2_3 < 1280 → (0 ≤ (1280 * gi) + x2_3 ∧ (1280 * gi) + x2_3 < 5120) ∧ ((z_g y_isThere ((1280 * gi) + x2_3) ≠ 0 → (0 ≤ x2_3 ∧ x2_3 < 1280) ∧ (∀ f27 : Nat → Int32, f27 = z_s y2_ya_isDone x2_3 0 → ((z_g f27 x2_3 ≠ 0 → (∀ f29 : Nat → Int32, f29 = z_s y2_ya_filled x2_3 2147483647 → L2 (x2_3 + 1) f29 f27)) ∧
(z_g f27 x2_3 = 0 → (0 ≤ gi ∧ gi < 4) ∧ (0 ≤ x2_3 ∧ x2_3 < 1280) ∧ (∀ (r33 : Int), z_in r33 → (r33 = m_nc (q_th y_isThere gi) x2_3) → ((r33 ≥ 8 → (∀ f34 : Nat → Int32, f34 = z_s y2_ya_filled x2_3 2147483647 → L2 (x2_3 + 1) f34 f27)) ∧
(r33 < 8 → (∀ f36 : Nat → Int32, f36 = z_s y2_ya_filled x2_3 (z_g y_units ((1280 * gi) + x2_3)) → L2 (x2_3 + 1) f36 f27)))))))) ∧
(z_g y_isThere ((1280 * gi) + x2_3) = 0 → (0 ≤ x2_3 ∧ x2_3 < 1280) ∧ (∀ f39 : Nat → Int32, f39 = z_s y2_ya_isDone x2_3 1 → ((z_g f39 x2_3 ≠ 0 → (∀ f41 : Nat → Int32, f41 = z_s y2_ya_filled x2_3 2147483647 → L2 (x2_3 + 1) f41 f39)) ∧
(z_g f39 x2_3 = 0 → (0 ≤ gi ∧ gi < 4) ∧ (0 ≤ x2_3 ∧ x2_3 < 1280) ∧ (∀ (r45 : Int), z_in r45 → (r45 = m_nc (q_th y_isThere gi) x2_3) → ((r45 ≥ 8 → (∀ f46 : Nat → Int32, f46 = z_s y2_ya_filled x2_3 2147483647 → L2 (x2_3 + 1) f46 f39)) ∧
(r45 < 8 → (∀ f48 : Nat → Int32, f48 = z_s y2_ya_filled x2_3 (z_g y_units ((1280 * gi) + x2_3)) → L2 (x2_3 + 1) f48 f39))))))))))) → L2 x2_3 y2_ya_filled y2_ya_isDone) →
L2 0 y_filled y_isDone)
set_option maxHeartbeats 4000000 in
set_option maxRecDepth 100000 in
theorem wk_X8_filledOf (l : Launch) (D : va_G) (cA : Nat → ClassId) (y : Nat) (y_space : Nat) (y_offset : Nat) (y_length : Nat) (ya_units : Nat) (y_units : Nat → Int32) (ya_isThere : Nat) (y_isThere : Nat → Int32) (y_levels : Int) (y_level : Nat) (y_lines : Int) (y_lineLevel : Nat) (y_lineUnits : Nat) (y_lineFrom : Nat) (y_lineMany : Nat) (y_isClosed : Nat) (y_insides : Nat) (y_parent : Nat) (y_isHigh : Nat) (y_inBits : Nat) (y_sides : Int) (y_side : Nat) (y_sideA : Nat) (y_sideB : Nat) (y_lineSpace : Int) (y_wasThere : Nat) (y_leads : Nat) (y_isLed : Nat) (y_isOn : Nat) (y_goesTo : Nat) (y_stream : Nat) (ya_filled : Nat) (y_filled : Nat → Int32) (ya_isDone : Nat) (y_isDone : Nat → Int32) (y_isReached : Nat) (y_newUnits : Nat) (y_isNew : Nat) (gi : Int) (n : Int) (h_y_levels : z_in y_levels) (h_y_lines : z_in y_lines) (h_y_sides : z_in y_sides) (h_y_lineSpace : z_in y_lineSpace) (h_gi : z_in gi) (h_n : z_in n) (Q : Int → (Nat → Int32) → (Nat → Int32) → Prop) (hv : vc_X8_filledOf y_units y_isThere y_filled y_isDone gi n Q) : Met l yX8_filledOf wsX8_filledOf ({ frames := 4, cells := 0, slots := 0, locals := 94 } : Room) (va_Pc [.ref y, .int (z_i gi), .int (z_i n)] (z_M0 D cA [(y, .inr (6, [.ref y_space, .ref y_offset, .ref y_length, .ref ya_units, .ref ya_isThere, .int (z_i y_levels), .ref y_level, .int (z_i y_lines), .ref y_lineLevel, .ref y_lineUnits, .ref y_lineFrom, .ref y_lineMany, .ref y_isClosed, .ref y_insides, .ref y_parent, .ref y_isHigh, .ref y_inBits, .int (z_i y_sides), .ref y_side, .ref y_sideA, .ref y_sideB, .int (z_i y_lineSpace), .ref y_wasThere, .ref y_leads, .ref y_isLed, .ref y_isOn, .ref y_goesTo, .ref y_stream, .ref ya_filled, .ref ya_isDone, .ref y_isReached, .ref y_newUnits, .ref y_isNew])), (ya_units, .inl (cA 1, 5120, .inl y_units)), (ya_isThere, .inl (cA 3, 5120, .inl y_isThere)), (ya_filled, .inl (cA 1, 1280, .inl y_filled)), (ya_isDone, .inl (cA 3, 1280, .inl y_isDone))])) (va_Qi (z_mi (fun v (u : (Nat → Int32) × (Nat → Int32)) => Q v u.1 u.2)) (fun (u : (Nat → Int32) × (Nat → Int32)) t => va_P D vwCl [(y, .inr (6, [.ref y_space, .ref y_offset, .ref y_length, .ref ya_units, .ref ya_isThere, .int (z_i y_levels), .ref y_level, .int (z_i y_lines), .ref y_lineLevel, .ref y_lineUnits, .ref y_lineFrom, .ref y_lineMany, .ref y_isClosed, .ref y_insides, .ref y_parent, .ref y_isHigh, .ref y_inBits, .int (z_i y_sides), .ref y_side, .ref y_sideA, .ref y_sideB, .int (z_i y_lineSpace), .ref y_wasThere, .ref y_leads, .ref y_isLed, .ref y_isOn, .ref y_goesTo, .ref y_stream, .ref ya_filled, .ref ya_isDone, .ref y_isReached, .ref y_newUnits, .ref y_isNew])), (ya_units, .inl (cA 1, 5120, .inl y_units)), (ya_isThere, .inl (cA 3, 5120, .inl y_isThere)), (ya_filled, .inl (cA 1, 1280, .inl u.1)), (ya_isDone, .inl (cA 3, 1280, .inl u.2))] t.heap) (z_A [(y, .inr (6, [.ref y_space, .ref y_offset, .ref y_length, .ref ya_units, .ref ya_isThere, .int (z_i y_levels), .ref y_level, .int (z_i y_lines), .ref y_lineLevel, .ref y_lineUnits, .ref y_lineFrom, .ref y_lineMany, .ref y_isClosed, .ref y_insides, .ref y_parent, .ref y_isHigh, .ref y_inBits, .int (z_i y_sides), .ref y_side, .ref y_sideA, .ref y_sideB, .int (z_i y_lineSpace), .ref y_wasThere, .ref y_leads, .ref y_isLed, .ref y_isOn, .ref y_goesTo, .ref y_stream, .ref ya_filled, .ref ya_isDone, .ref y_isReached, .ref y_newUnits, .ref y_isNew])), (ya_units, .inl (cA 1, 5120, .inl y_units)), (ya_isThere, .inl (cA 3, 5120, .inl y_isThere)), (ya_filled, .inl (cA 1, 1280, .inl y_filled)), (ya_isDone, .inl (cA 3, 1280, .inl y_isDone))])) 0 0 (z_A [(y, .inr (6, [.ref y_space, .ref y_offset, .ref y_length, .ref ya_units, .ref ya_isThere, .int (z_i y_levels), .ref y_level, .int (z_i y_lines), .ref y_lineLevel, .ref y_lineUnits, .ref y_lineFrom, .ref y_lineMany, .ref y_isClosed, .ref y_insides, .ref y_parent, .ref y_isHigh, .ref y_inBits, .int (z_i y_sides), .ref y_side, .ref y_sideA, .ref y_sideB, .int (z_i y_lineSpace), .ref y_wasThere, .ref y_leads, .ref y_isLed, .ref y_isOn, .ref y_goesTo, .ref y_stream, .ref ya_filled, .ref ya_isDone, .ref y_isReached, .ref y_newUnits, .ref y_isNew])), (ya_units, .inl (cA 1, 5120, .inl y_units)), (ya_isThere, .inl (cA 3, 5120, .inl y_isThere)), (ya_filled, .inl (cA 1, 1280, .inl y_filled)), (ya_isDone, .inl (cA 3, 1280, .inl y_isDone))]) := by
  unfold vc_X8_filledOf at hv
  refine Met.ofW (cc := cX8_filledOf) (maxL := 8) (ret := (some .int)) (by decide +kernel) rfl ?_
  intro p e s m args below meth c s₁ B hml hv0
  obtain ⟨rfl, hK, hP, hD0⟩ := hv0
  have hx := B.exec
  have hb := B.bytes
  have hr := B.returns
  have hts := atoms_spec (ws := wsX8_filledOf) B.pre
  have hown : s.vm.findClass RX8 = some m.cls := findClass_of_methodNamed B.named
  have hlocks := B.notSynchronized
  have hD := z_D_self hD0
  generalize hAe : z_A [(y, .inr (6, [.ref y_space, .ref y_offset, .ref y_length, .ref ya_units, .ref ya_isThere, .int (z_i y_levels), .ref y_level, .int (z_i y_lines), .ref y_lineLevel, .ref y_lineUnits, .ref y_lineFrom, .ref y_lineMany, .ref y_isClosed, .ref y_insides, .ref y_parent, .ref y_isHigh, .ref y_inBits, .int (z_i y_sides), .ref y_side, .ref y_sideA, .ref y_sideB, .int (z_i y_lineSpace), .ref y_wasThere, .ref y_leads, .ref y_isLed, .ref y_isOn, .ref y_goesTo, .ref y_stream, .ref ya_filled, .ref ya_isDone, .ref y_isReached, .ref y_newUnits, .ref y_isNew])), (ya_units, .inl (cA 1, 5120, .inl y_units)), (ya_isThere, .inl (cA 3, 5120, .inl y_isThere)), (ya_filled, .inl (cA 1, 1280, .inl y_filled)), (ya_isDone, .inl (cA 3, 1280, .inl y_isDone))] = A at *
  have hS : va_S A s.heap s.heap [] := va_S.rf
  have hl := lv_entry ([.ref y, .int (z_i gi), .int (z_i n)]) (n := 8) (Nat.le_of_ble_eq_true rfl)
  rw [lg_entry_eq]
  generalize (lg_sl ([.ref y, .int (z_i gi), .int (z_i n)]) ++ List.replicate (8 - (lg_sl ([.ref y, .int (z_i gi), .int (z_i n)])).length) Slot.unset).toArray = ls at hl ⊢
  have hl : lv_has ls 8 [(0, .ref y), (1, .int (z_i gi)), (2, .int (z_i n))] := hl
  refine lv_iconst (v := z_i 0) hx hb dX8_filledOf_0 rfl ?_
  refine lv_istore_n (lv' := [(3, .int (z_i 0)), (0, .ref y), (1, .int (z_i gi)), (2, .int (z_i n))]) hx hb dX8_filledOf_1 rfl hl (by decide) rfl (fun ls hl => ?_)
  refine hv (fun (x2_3 : Int) (y2_ya_filled : Nat → Int32) (y2_ya_isDone : Nat → Int32) => ∀ (H : Heap) (locs : List Loc) (ls : Array Slot), va_P D vwCl [(y, .inr (6, [.ref y_space, .ref y_offset, .ref y_length, .ref ya_units, .ref ya_isThere, .int (z_i y_levels), .ref y_level, .int (z_i y_lines), .ref y_lineLevel, .ref y_lineUnits, .ref y_lineFrom, .ref y_lineMany, .ref y_isClosed, .ref y_insides, .ref y_parent, .ref y_isHigh, .ref y_inBits, .int (z_i y_sides), .ref y_side, .ref y_sideA, .ref y_sideB, .int (z_i y_lineSpace), .ref y_wasThere, .ref y_leads, .ref y_isLed, .ref y_isOn, .ref y_goesTo, .ref y_stream, .ref ya_filled, .ref ya_isDone, .ref y_isReached, .ref y_newUnits, .ref y_isNew])), (ya_units, .inl (cA 1, 5120, .inl y_units)), (ya_isThere, .inl (cA 3, 5120, .inl y_isThere)), (ya_filled, .inl (cA 1, 1280, .inl y2_ya_filled)), (ya_isDone, .inl (cA 3, 1280, .inl y2_ya_isDone))] H → va_D A [(y, .inr (6, [.ref y_space, .ref y_offset, .ref y_length, .ref ya_units, .ref ya_isThere, .int (z_i y_levels), .ref y_level, .int (z_i y_lines), .ref y_lineLevel, .ref y_lineUnits, .ref y_lineFrom, .ref y_lineMany, .ref y_isClosed, .ref y_insides, .ref y_parent, .ref y_isHigh, .ref y_inBits, .int (z_i y_sides), .ref y_side, .ref y_sideA, .ref y_sideB, .int (z_i y_lineSpace), .ref y_wasThere, .ref y_leads, .ref y_isLed, .ref y_isOn, .ref y_goesTo, .ref y_stream, .ref ya_filled, .ref ya_isDone, .ref y_isReached, .ref y_newUnits, .ref y_isNew])), (ya_units, .inl (cA 1, 5120, .inl y_units)), (ya_isThere, .inl (cA 3, 5120, .inl y_isThere)), (ya_filled, .inl (cA 1, 1280, .inl y2_ya_filled)), (ya_isDone, .inl (cA 3, 1280, .inl y2_ya_isDone))] → va_S A s.heap H locs → lv_has ls 8 [(3, .int (z_i x2_3)), (0, .ref y), (1, .int (z_i gi)), (2, .int (z_i n))] → W p l e _ s m _ below meth c H locs 0 0 _ (F0 m 2 ls [])) ?_ _ _ ls hP hD hS (lv_sub hl [0, 1, 2, 3] rfl)
  intro x2_3 y2_ya_filled y2_ya_isDone h_x2_3 hv H locs ls hP hD hS hl
  refine lv_iload_n hx hb dX8_filledOf_2 rfl (lv_at hl 0 rfl) ?_
  refine lv_sipush (v := z_i 1280) hx hb dX8_filledOf_3 (by decide) ?_
  refine lx_icmp_ge (tgt := 84) hx hb dX8_filledOf_6 (by decide) h_x2_3 (show z_in 1280 from ⟨by decide, by decide⟩) (fun hc => ?_) (fun hc => ?_)
  · have hv := hv.1 hc
    refine hv (fun (y84_ya_filled : Nat → Int32) (y84_ya_isDone : Nat → Int32) => ∀ (H : Heap) (locs : List Loc) (ls : Array Slot), va_P D vwCl [(y, .inr (6, [.ref y_space, .ref y_offset, .ref y_length, .ref ya_units, .ref ya_isThere, .int (z_i y_levels), .ref y_level, .int (z_i y_lines), .ref y_lineLevel, .ref y_lineUnits, .ref y_lineFrom, .ref y_lineMany, .ref y_isClosed, .ref y_insides, .ref y_parent, .ref y_isHigh, .ref y_inBits, .int (z_i y_sides), .ref y_side, .ref y_sideA, .ref y_sideB, .int (z_i y_lineSpace), .ref y_wasThere, .ref y_leads, .ref y_isLed, .ref y_isOn, .ref y_goesTo, .ref y_stream, .ref ya_filled, .ref ya_isDone, .ref y_isReached, .ref y_newUnits, .ref y_isNew])), (ya_units, .inl (cA 1, 5120, .inl y_units)), (ya_isThere, .inl (cA 3, 5120, .inl y_isThere)), (ya_filled, .inl (cA 1, 1280, .inl y84_ya_filled)), (ya_isDone, .inl (cA 3, 1280, .inl y84_ya_isDone))] H → va_D A [(y, .inr (6, [.ref y_space, .ref y_offset, .ref y_length, .ref ya_units, .ref ya_isThere, .int (z_i y_levels), .ref y_level, .int (z_i y_lines), .ref y_lineLevel, .ref y_lineUnits, .ref y_lineFrom, .ref y_lineMany, .ref y_isClosed, .ref y_insides, .ref y_parent, .ref y_isHigh, .ref y_inBits, .int (z_i y_sides), .ref y_side, .ref y_sideA, .ref y_sideB, .int (z_i y_lineSpace), .ref y_wasThere, .ref y_leads, .ref y_isLed, .ref y_isOn, .ref y_goesTo, .ref y_stream, .ref ya_filled, .ref ya_isDone, .ref y_isReached, .ref y_newUnits, .ref y_isNew])), (ya_units, .inl (cA 1, 5120, .inl y_units)), (ya_isThere, .inl (cA 3, 5120, .inl y_isThere)), (ya_filled, .inl (cA 1, 1280, .inl y84_ya_filled)), (ya_isDone, .inl (cA 3, 1280, .inl y84_ya_isDone))] → va_S A s.heap H locs → lv_has ls 8 [(0, .ref y), (1, .int (z_i gi)), (2, .int (z_i n))] → W p l e _ s m _ below meth c H locs 0 0 _ (F0 m 84 ls [])) ?_ _ _ ls hP hD hS (lv_sub hl [1, 2, 3] rfl)
    intro y84_ya_filled y84_ya_isDone  hv H locs ls hP hD hS hl
    refine lv_aload_n hx hb dX8_filledOf_84 rfl (lv_at hl 0 rfl) ?_
    refine va_get (D := D) (ci := 6) (v := .ref ya_isDone) (C := RX8) (T := TX8) (N := 33) hx hb hts (fun w h => List.mem_cons_of_mem _ (List.mem_append_right _ h)) hown hK hP 0 rfl rfl 29 (by decide) (hts (.fieldLink RX8 87 "ContourSheetsModel" "isDone" "[Z") (by decide +kernel)) (fun _ h9 => h9) rfl dX8_filledOf_85 ?_
    refine lv_iload_n hx hb dX8_filledOf_88 rfl (lv_at hl 2 rfl) ?_
    obtain ⟨hi1, hv⟩ := hv
    refine lx_zald hx hb hK hP 4 3 rfl rfl (by decide) hi1.1 hi1.2 dX8_filledOf_89 ?_
    refine lx_if_ne (tgt := 266) hx hb dX8_filledOf_90 (by decide) (z_in_g _ _) (fun hc => ?_) (fun hc => ?_)
    · have hv := hv.1 hc
      refine lv_aload_n hx hb dX8_filledOf_266 rfl (lv_at hl 0 rfl) ?_
      refine va_get (D := D) (ci := 6) (v := .ref ya_filled) (C := RX8) (T := TX8) (N := 33) hx hb hts (fun w h => List.mem_cons_of_mem _ (List.mem_append_right _ h)) hown hK hP 0 rfl rfl 28 (by decide) (hts (.fieldLink RX8 84 "ContourSheetsModel" "filled" "[I") (by decide +kernel)) (fun _ h9 => h9) rfl dX8_filledOf_267 ?_
      refine lv_iload_n hx hb dX8_filledOf_270 rfl (lv_at hl 2 rfl) ?_
      refine lx_iald hx hb hK hP 3 1 rfl rfl (by decide) hi1.1 hi1.2 dX8_filledOf_271 ?_
      exact W.iret (v := z_i (z_g y84_ya_filled n)) hx hb hr (fun t ht hW => ⟨⟨z_i (z_g y84_ya_filled n), (y84_ya_filled, y84_ya_isDone), rfl, ⟨z_g y84_ya_filled n, rfl, (z_in_g _ _), hv⟩, z_pt hP ht⟩, hS.F ht⟩) hS.2.2 dX8_filledOf_272
    · have hv := hv.2 hc
      refine lv_iconst (v := z_i (-1)) hx hb dX8_filledOf_93 rfl ?_
      refine lv_istore_n (lv' := [(3, .int (z_i (-1))), (0, .ref y), (1, .int (z_i gi)), (2, .int (z_i n))]) hx hb dX8_filledOf_94 rfl hl (by decide) rfl (fun ls hl => ?_)
      refine lv_iconst (v := z_i 0) hx hb dX8_filledOf_95 rfl ?_
      refine lv_istore (lv' := [(4, .int (z_i 0)), (3, .int (z_i (-1))), (0, .ref y), (1, .int (z_i gi)), (2, .int (z_i n))]) hx hb dX8_filledOf_96 hl (by decide) rfl (fun ls hl => ?_)
      refine hv (fun (x98_4 : Int) (x98_3 : Int) => ∀ (H : Heap) (locs : List Loc) (ls : Array Slot), va_P D vwCl [(y, .inr (6, [.ref y_space, .ref y_offset, .ref y_length, .ref ya_units, .ref ya_isThere, .int (z_i y_levels), .ref y_level, .int (z_i y_lines), .ref y_lineLevel, .ref y_lineUnits, .ref y_lineFrom, .ref y_lineMany, .ref y_isClosed, .ref y_insides, .ref y_parent, .ref y_isHigh, .ref y_inBits, .int (z_i y_sides), .ref y_side, .ref y_sideA, .ref y_sideB, .int (z_i y_lineSpace), .ref y_wasThere, .ref y_leads, .ref y_isLed, .ref y_isOn, .ref y_goesTo, .ref y_stream, .ref ya_filled, .ref ya_isDone, .ref y_isReached, .ref y_newUnits, .ref y_isNew])), (ya_units, .inl (cA 1, 5120, .inl y_units)), (ya_isThere, .inl (cA 3, 5120, .inl y_isThere)), (ya_filled, .inl (cA 1, 1280, .inl y84_ya_filled)), (ya_isDone, .inl (cA 3, 1280, .inl y84_ya_isDone))] H → va_D A [(y, .inr (6, [.ref y_space, .ref y_offset, .ref y_length, .ref ya_units, .ref ya_isThere, .int (z_i y_levels), .ref y_level, .int (z_i y_lines), .ref y_lineLevel, .ref y_lineUnits, .ref y_lineFrom, .ref y_lineMany, .ref y_isClosed, .ref y_insides, .ref y_parent, .ref y_isHigh, .ref y_inBits, .int (z_i y_sides), .ref y_side, .ref y_sideA, .ref y_sideB, .int (z_i y_lineSpace), .ref y_wasThere, .ref y_leads, .ref y_isLed, .ref y_isOn, .ref y_goesTo, .ref y_stream, .ref ya_filled, .ref ya_isDone, .ref y_isReached, .ref y_newUnits, .ref y_isNew])), (ya_units, .inl (cA 1, 5120, .inl y_units)), (ya_isThere, .inl (cA 3, 5120, .inl y_isThere)), (ya_filled, .inl (cA 1, 1280, .inl y84_ya_filled)), (ya_isDone, .inl (cA 3, 1280, .inl y84_ya_isDone))] → va_S A s.heap H locs → lv_has ls 8 [(4, .int (z_i x98_4)), (3, .int (z_i x98_3)), (0, .ref y), (1, .int (z_i gi)), (2, .int (z_i n))] → W p l e _ s m _ below meth c H locs 0 0 _ (F0 m 98 ls [])) ?_ _ _ ls hP hD hS (lv_sub hl [0, 1, 2, 3, 4] rfl)
      intro x98_4 x98_3 h_x98_4 h_x98_3 hv H locs ls hP hD hS hl
      refine lv_iload hx hb dX8_filledOf_98 (lv_at hl 0 rfl) ?_
      refine lv_sipush (v := z_i 1280) hx hb dX8_filledOf_100 (by decide) ?_
      refine lx_icmp_ge (tgt := 145) hx hb dX8_filledOf_103 (by decide) h_x98_4 (show z_in 1280 from ⟨by decide, by decide⟩) (fun hc => ?_) (fun hc => ?_)
      · have hv := hv.1 hc
        refine lv_aload_n hx hb dX8_filledOf_145 rfl (lv_at hl 2 rfl) ?_
        refine va_get (D := D) (ci := 6) (v := .ref ya_isDone) (C := RX8) (T := TX8) (N := 33) hx hb hts (fun w h => List.mem_cons_of_mem _ (List.mem_append_right _ h)) hown hK hP 0 rfl rfl 29 (by decide) (hts (.fieldLink RX8 87 "ContourSheetsModel" "isDone" "[Z") (by decide +kernel)) (fun _ h9 => h9) rfl dX8_filledOf_146 ?_
        refine lv_iload_n hx hb dX8_filledOf_149 rfl (lv_at hl 1 rfl) ?_
        refine lv_iconst (v := z_i 1) hx hb dX8_filledOf_150 rfl ?_
        obtain ⟨hi2, hv⟩ := hv
        refine lx_zast hx hb hK hP hD hS 4 3 rfl rfl (by decide) hi2.1 hi2.2 (by decide) dX8_filledOf_151 (fun H locs hP hD hS => ?_)
        obtain ⟨f3, hy4⟩ : ∃ y : Nat → Int32, y = z_s y84_ya_isDone x98_3 1 := ⟨_, rfl⟩
        have hv := hv f3 hy4
        have hP : va_P D vwCl [(y, .inr (6, [.ref y_space, .ref y_offset, .ref y_length, .ref ya_units, .ref ya_isThere, .int (z_i y_levels), .ref y_level, .int (z_i y_lines), .ref y_lineLevel, .ref y_lineUnits, .ref y_lineFrom, .ref y_lineMany, .ref y_isClosed, .ref y_insides, .ref y_parent, .ref y_isHigh, .ref y_inBits, .int (z_i y_sides), .ref y_side, .ref y_sideA, .ref y_sideB, .int (z_i y_lineSpace), .ref y_wasThere, .ref y_leads, .ref y_isLed, .ref y_isOn, .ref y_goesTo, .ref y_stream, .ref ya_filled, .ref ya_isDone, .ref y_isReached, .ref y_newUnits, .ref y_isNew])), (ya_units, .inl (cA 1, 5120, .inl y_units)), (ya_isThere, .inl (cA 3, 5120, .inl y_isThere)), (ya_filled, .inl (cA 1, 1280, .inl y84_ya_filled)), (ya_isDone, .inl (cA 3, 1280, .inl f3))] H := by rw [hy4]; exact hP
        have hD : va_D A [(y, .inr (6, [.ref y_space, .ref y_offset, .ref y_length, .ref ya_units, .ref ya_isThere, .int (z_i y_levels), .ref y_level, .int (z_i y_lines), .ref y_lineLevel, .ref y_lineUnits, .ref y_lineFrom, .ref y_lineMany, .ref y_isClosed, .ref y_insides, .ref y_parent, .ref y_isHigh, .ref y_inBits, .int (z_i y_sides), .ref y_side, .ref y_sideA, .ref y_sideB, .int (z_i y_lineSpace), .ref y_wasThere, .ref y_leads, .ref y_isLed, .ref y_isOn, .ref y_goesTo, .ref y_stream, .ref ya_filled, .ref ya_isDone, .ref y_isReached, .ref y_newUnits, .ref y_isNew])), (ya_units, .inl (cA 1, 5120, .inl y_units)), (ya_isThere, .inl (cA 3, 5120, .inl y_isThere)), (ya_filled, .inl (cA 1, 1280, .inl y84_ya_filled)), (ya_isDone, .inl (cA 3, 1280, .inl f3))] := by rw [hy4]; exact hD
        refine lv_iconst (v := z_i 0) hx hb dX8_filledOf_152 rfl ?_
        refine lv_istore (lv' := [(4, .int (z_i 0)), (3, .int (z_i x98_3)), (0, .ref y), (1, .int (z_i gi)), (2, .int (z_i n))]) hx hb dX8_filledOf_153 hl (by decide) rfl (fun ls hl => ?_)
        refine hv (fun (x155_4 : Int) (y155_ya_filled : Nat → Int32) => ∀ (H : Heap) (locs : List Loc) (ls : Array Slot), va_P D vwCl [(y, .inr (6, [.ref y_space, .ref y_offset, .ref y_length, .ref ya_units, .ref ya_isThere, .int (z_i y_levels), .ref y_level, .int (z_i y_lines), .ref y_lineLevel, .ref y_lineUnits, .ref y_lineFrom, .ref y_lineMany, .ref y_isClosed, .ref y_insides, .ref y_parent, .ref y_isHigh, .ref y_inBits, .int (z_i y_sides), .ref y_side, .ref y_sideA, .ref y_sideB, .int (z_i y_lineSpace), .ref y_wasThere, .ref y_leads, .ref y_isLed, .ref y_isOn, .ref y_goesTo, .ref y_stream, .ref ya_filled, .ref ya_isDone, .ref y_isReached, .ref y_newUnits, .ref y_isNew])), (ya_units, .inl (cA 1, 5120, .inl y_units)), (ya_isThere, .inl (cA 3, 5120, .inl y_isThere)), (ya_filled, .inl (cA 1, 1280, .inl y155_ya_filled)), (ya_isDone, .inl (cA 3, 1280, .inl f3))] H → va_D A [(y, .inr (6, [.ref y_space, .ref y_offset, .ref y_length, .ref ya_units, .ref ya_isThere, .int (z_i y_levels), .ref y_level, .int (z_i y_lines), .ref y_lineLevel, .ref y_lineUnits, .ref y_lineFrom, .ref y_lineMany, .ref y_isClosed, .ref y_insides, .ref y_parent, .ref y_isHigh, .ref y_inBits, .int (z_i y_sides), .ref y_side, .ref y_sideA, .ref y_sideB, .int (z_i y_lineSpace), .ref y_wasThere, .ref y_leads, .ref y_isLed, .ref y_isOn, .ref y_goesTo, .ref y_stream, .ref ya_filled, .ref ya_isDone, .ref y_isReached, .ref y_newUnits, .ref y_isNew])), (ya_units, .inl (cA 1, 5120, .inl y_units)), (ya_isThere, .inl (cA 3, 5120, .inl y_isThere)), (ya_filled, .inl (cA 1, 1280, .inl y155_ya_filled)), (ya_isDone, .inl (cA 3, 1280, .inl f3))] → va_S A s.heap H locs → lv_has ls 8 [(4, .int (z_i x155_4)), (3, .int (z_i x98_3)), (0, .ref y), (1, .int (z_i gi)), (2, .int (z_i n))] → W p l e _ s m _ below meth c H locs 0 0 _ (F0 m 155 ls [])) ?_ _ _ ls hP hD hS (lv_sub hl [0, 1, 2, 3, 4] rfl)
        intro x155_4 y155_ya_filled h_x155_4 hv H locs ls hP hD hS hl
        refine lv_iload hx hb dX8_filledOf_155 (lv_at hl 0 rfl) ?_
        refine lv_bipush (v := z_i 8) hx hb dX8_filledOf_157 (by decide) ?_
        refine lx_icmp_ge (tgt := 263) hx hb dX8_filledOf_159 (by decide) h_x155_4 (show z_in 8 from ⟨by decide, by decide⟩) (fun hc => ?_) (fun hc => ?_)
        · have hv := hv.1 hc
          refine lv_goto (tgt := 84) hx hb dX8_filledOf_263 (by decide) ?_
          exact hv _ _ ls hP hD hS (lv_sub hl [2, 3, 4] rfl)
        · have hv := hv.2 hc
          refine lv_aload_n hx hb dX8_filledOf_162 rfl (lv_at hl 2 rfl) ?_
          refine lv_iload_n hx hb dX8_filledOf_163 rfl (lv_at hl 3 rfl) ?_
          refine lv_iload_n hx hb dX8_filledOf_164 rfl (lv_at hl 1 rfl) ?_
          refine lv_iload hx hb dX8_filledOf_165 (lv_at hl 0 rfl) ?_
          obtain ⟨hp5, hv⟩ := hv
          obtain ⟨hp6, hv⟩ := hv
          obtain ⟨hp7, hv⟩ := hv
          refine va_calli (va_runV (As := [.int (z_i gi), .int (z_i x98_3), .int (z_i x155_4)]) (rest := []) ⟨hx, hb, hml, hown, hts⟩ (mt_X8_neighbour l D cA y y_space y_offset y_length ya_units ya_isThere y_isThere y_levels y_level y_lines y_lineLevel y_lineUnits y_lineFrom y_lineMany y_isClosed y_insides y_parent y_isHigh y_inBits y_sides y_side y_sideA y_sideB y_lineSpace y_wasThere y_leads y_isLed y_isOn y_goesTo y_stream ya_filled ya_isDone y_isReached y_newUnits y_isNew gi x98_3 x155_4 h_y_levels h_y_lines h_y_sides h_y_lineSpace h_gi h_x98_3 h_x155_4 hp5 hp6 hp7) (cwV 3 hts gX8_filledOf_X8_neighbour rfl rfl rfl (by decide +kernel) ⟨Nat.le_of_ble_eq_true rfl, Nat.le_of_ble_eq_true rfl⟩) ⟨z_bl0, va_recv hK hP (ci := 6) (q0 := 0) rfl rfl, fun U hU hW => ⟨rfl, z_b0 hK (hP.sub (ws' := [(y, .inr (6, [.ref y_space, .ref y_offset, .ref y_length, .ref ya_units, .ref ya_isThere, .int (z_i y_levels), .ref y_level, .int (z_i y_lines), .ref y_lineLevel, .ref y_lineUnits, .ref y_lineFrom, .ref y_lineMany, .ref y_isClosed, .ref y_insides, .ref y_parent, .ref y_isHigh, .ref y_inBits, .int (z_i y_sides), .ref y_side, .ref y_sideA, .ref y_sideB, .int (z_i y_lineSpace), .ref y_wasThere, .ref y_leads, .ref y_isLed, .ref y_isOn, .ref y_goesTo, .ref y_stream, .ref ya_filled, .ref ya_isDone, .ref y_isReached, .ref y_newUnits, .ref y_isNew])), (ya_isThere, .inl (cA 3, 5120, .inl y_isThere))]) [0, 2] rfl) hU hW⟩⟩ rfl rfl hl.1 rfl (lv_room (Nat.le_of_ble_eq_true rfl)) dX8_filledOf_167 ⟨Nat.zero_le _, Nat.zero_le _⟩) hS (fun q _ h => h.elim) (fun q h => h.elim) (fun r0 u t H locs ht hvm hw hB hz1 hk1 hS => ?_)
          obtain ⟨r8, rfl, h_r8, hw⟩ := hw
          have hP := z_P_all hP hk1
          have hv := hv r8 h_r8 hw
          refine lv_istore (lv' := [(5, .int (z_i r8)), (4, .int (z_i x155_4)), (3, .int (z_i x98_3)), (0, .ref y), (1, .int (z_i gi)), (2, .int (z_i n))]) hx hb dX8_filledOf_170 hl (by decide) rfl (fun ls hl => ?_)
          refine lv_iload hx hb dX8_filledOf_172 (lv_at hl 0 rfl) ?_
          refine lx_if_lt (tgt := 257) hx hb dX8_filledOf_174 (by decide) h_r8 (fun hc => ?_) (fun hc => ?_)
          · have hv := hv.1 hc
            refine lv_iinc (v := z_i (x155_4 + 1)) (lv' := [(4, .int (z_i (x155_4 + 1))), (5, .int (z_i r8)), (3, .int (z_i x98_3)), (0, .ref y), (1, .int (z_i gi)), (2, .int (z_i n))]) hx hb dX8_filledOf_257 hl (k := 1) rfl (z_i_add _ _) (by decide) rfl (fun ls hl => ?_)
            refine lv_goto (tgt := 155) hx hb dX8_filledOf_260 (by decide) ?_
            exact hv _ _ ls hP hD hS (lv_sub hl [0, 2, 3, 4, 5] rfl)
          · have hv := hv.2 hc
            refine lv_aload_n hx hb dX8_filledOf_177 rfl (lv_at hl 3 rfl) ?_
            refine va_get (D := D) (ci := 6) (v := .ref ya_isDone) (C := RX8) (T := TX8) (N := 33) hx hb hts (fun w h => List.mem_cons_of_mem _ (List.mem_append_right _ h)) hown hK hP 0 rfl rfl 29 (by decide) (hts (.fieldLink RX8 87 "ContourSheetsModel" "isDone" "[Z") (by decide +kernel)) (fun _ h9 => h9) rfl dX8_filledOf_178 ?_
            refine lv_iload hx hb dX8_filledOf_181 (lv_at hl 0 rfl) ?_
            obtain ⟨hi9, hv⟩ := hv
            refine lx_zald hx hb hK hP 4 3 rfl rfl (by decide) hi9.1 hi9.2 dX8_filledOf_183 ?_
            refine lx_if_ne (tgt := 257) hx hb dX8_filledOf_184 (by decide) (z_in_g _ _) (fun hc => ?_) (fun hc => ?_)
            · have hv := hv.1 hc
              refine lv_iinc (v := z_i (x155_4 + 1)) (lv' := [(4, .int (z_i (x155_4 + 1))), (5, .int (z_i r8)), (3, .int (z_i x98_3)), (0, .ref y), (1, .int (z_i gi)), (2, .int (z_i n))]) hx hb dX8_filledOf_257 hl (k := 1) rfl (z_i_add _ _) (by decide) rfl (fun ls hl => ?_)
              refine lv_goto (tgt := 155) hx hb dX8_filledOf_260 (by decide) ?_
              exact hv _ _ ls hP hD hS (lv_sub hl [0, 2, 3, 4, 5] rfl)
            · have hv := hv.2 hc
              refine lv_aload_n hx hb dX8_filledOf_187 rfl (lv_at hl 3 rfl) ?_
              refine va_get (D := D) (ci := 6) (v := .ref ya_units) (C := RX8) (T := TX8) (N := 33) hx hb hts (fun w h => List.mem_cons_of_mem _ (List.mem_append_right _ h)) hown hK hP 0 rfl rfl 3 (by decide) (hts (.fieldLink RX8 19 "ContourSheetsModel" "units" "[I") (by decide +kernel)) (fun _ h9 => h9) rfl dX8_filledOf_188 ?_
              refine lv_sipush (v := z_i 1280) hx hb dX8_filledOf_191 (by decide) ?_
              refine lv_iload_n hx hb dX8_filledOf_194 rfl (lv_at hl 4 rfl) ?_
              refine lx_imul hx hb dX8_filledOf_195 ?_
              refine lv_iload hx hb dX8_filledOf_196 (lv_at hl 0 rfl) ?_
              refine lx_iadd hx hb dX8_filledOf_198 ?_
              obtain ⟨hi10, hv⟩ := hv
              refine lx_iald hx hb hK hP 1 1 rfl rfl (by decide) hi10.1 hi10.2 dX8_filledOf_199 ?_
              refine lx_topi (fun v11 hy12 => ?_)
              have hv := hv v11 hy12
              have h_v11 : z_in v11 := by rw [hy12]; exact (z_in_g _ _)
              refine lv_istore (lv' := [(6, .int (z_i v11)), (5, .int (z_i r8)), (4, .int (z_i x155_4)), (3, .int (z_i x98_3)), (0, .ref y), (1, .int (z_i gi)), (2, .int (z_i n))]) hx hb dX8_filledOf_200 hl (by decide) rfl (fun ls hl => ?_)
              refine lv_iload hx hb dX8_filledOf_202 (lv_at hl 0 rfl) ?_
              refine lv_aload_n hx hb dX8_filledOf_204 rfl (lv_at hl 4 rfl) ?_
              refine va_get (D := D) (ci := 6) (v := .ref ya_filled) (C := RX8) (T := TX8) (N := 33) hx hb hts (fun w h => List.mem_cons_of_mem _ (List.mem_append_right _ h)) hown hK hP 0 rfl rfl 28 (by decide) (hts (.fieldLink RX8 84 "ContourSheetsModel" "filled" "[I") (by decide +kernel)) (fun _ h9 => h9) rfl dX8_filledOf_205 ?_
              refine lv_iload_n hx hb dX8_filledOf_208 rfl (lv_at hl 3 rfl) ?_
              refine lx_iald hx hb hK hP 3 1 rfl rfl (by decide) hi2.1 hi2.2 dX8_filledOf_209 ?_
              refine lx_icmp_le (tgt := 218) hx hb dX8_filledOf_210 (by decide) h_v11 (z_in_g _ _) (fun hc => ?_) (fun hc => ?_)
              · have hv := hv.1 hc
                refine lv_aload_n hx hb dX8_filledOf_218 rfl (lv_at hl 4 rfl) ?_
                refine va_get (D := D) (ci := 6) (v := .ref ya_filled) (C := RX8) (T := TX8) (N := 33) hx hb hts (fun w h => List.mem_cons_of_mem _ (List.mem_append_right _ h)) hown hK hP 0 rfl rfl 28 (by decide) (hts (.fieldLink RX8 84 "ContourSheetsModel" "filled" "[I") (by decide +kernel)) (fun _ h9 => h9) rfl dX8_filledOf_219 ?_
                refine lv_iload_n hx hb dX8_filledOf_222 rfl (lv_at hl 3 rfl) ?_
                refine lx_iald hx hb hK hP 3 1 rfl rfl (by decide) hi2.1 hi2.2 dX8_filledOf_223 ?_
                refine lx_topi (fun v13 hy14 => ?_)
                have hv := hv v13 hy14
                have h_v13 : z_in v13 := by rw [hy14]; exact (z_in_g _ _)
                refine lv_istore (lv' := [(7, .int (z_i v13)), (6, .int (z_i v11)), (5, .int (z_i r8)), (4, .int (z_i x155_4)), (3, .int (z_i x98_3)), (0, .ref y), (1, .int (z_i gi)), (2, .int (z_i n))]) hx hb dX8_filledOf_224 hl (by decide) rfl (fun ls hl => ?_)
                refine lv_aload_n hx hb dX8_filledOf_226 rfl (lv_at hl 5 rfl) ?_
                refine va_get (D := D) (ci := 6) (v := .ref ya_filled) (C := RX8) (T := TX8) (N := 33) hx hb hts (fun w h => List.mem_cons_of_mem _ (List.mem_append_right _ h)) hown hK hP 0 rfl rfl 28 (by decide) (hts (.fieldLink RX8 84 "ContourSheetsModel" "filled" "[I") (by decide +kernel)) (fun _ h9 => h9) rfl dX8_filledOf_227 ?_
                refine lv_iload hx hb dX8_filledOf_230 (lv_at hl 2 rfl) ?_
                refine lv_iload hx hb dX8_filledOf_232 (lv_at hl 0 rfl) ?_
                refine lv_aload_n hx hb dX8_filledOf_234 rfl (lv_at hl 5 rfl) ?_
                refine va_get (D := D) (ci := 6) (v := .ref ya_filled) (C := RX8) (T := TX8) (N := 33) hx hb hts (fun w h => List.mem_cons_of_mem _ (List.mem_append_right _ h)) hown hK hP 0 rfl rfl 28 (by decide) (hts (.fieldLink RX8 84 "ContourSheetsModel" "filled" "[I") (by decide +kernel)) (fun _ h9 => h9) rfl dX8_filledOf_235 ?_
                refine lv_iload hx hb dX8_filledOf_238 (lv_at hl 2 rfl) ?_
                refine lx_iald hx hb hK hP 3 1 rfl rfl (by decide) hi9.1 hi9.2 dX8_filledOf_240 ?_
                refine lx_icmp_ge (tgt := 249) hx hb dX8_filledOf_241 (by decide) h_v13 (z_in_g _ _) (fun hc => ?_) (fun hc => ?_)
                · have hv := hv.1 hc
                  refine lv_aload_n hx hb dX8_filledOf_249 rfl (lv_at hl 5 rfl) ?_
                  refine va_get (D := D) (ci := 6) (v := .ref ya_filled) (C := RX8) (T := TX8) (N := 33) hx hb hts (fun w h => List.mem_cons_of_mem _ (List.mem_append_right _ h)) hown hK hP 0 rfl rfl 28 (by decide) (hts (.fieldLink RX8 84 "ContourSheetsModel" "filled" "[I") (by decide +kernel)) (fun _ h9 => h9) rfl dX8_filledOf_250 ?_
                  refine lv_iload hx hb dX8_filledOf_253 (lv_at hl 2 rfl) ?_
                  refine lx_iald hx hb hK hP 3 1 rfl rfl (by decide) hi9.1 hi9.2 dX8_filledOf_255 ?_
                  refine lx_iast hx hb hK hP hD hS 3 1 rfl rfl (by decide) hi9.1 hi9.2 dX8_filledOf_256 (fun H locs hP hD hS => ?_)
                  obtain ⟨f15, hy16⟩ : ∃ y : Nat → Int32, y = z_s y155_ya_filled r8 (z_g y155_ya_filled r8) := ⟨_, rfl⟩
                  have hv := hv f15 hy16
                  have hP : va_P D vwCl [(y, .inr (6, [.ref y_space, .ref y_offset, .ref y_length, .ref ya_units, .ref ya_isThere, .int (z_i y_levels), .ref y_level, .int (z_i y_lines), .ref y_lineLevel, .ref y_lineUnits, .ref y_lineFrom, .ref y_lineMany, .ref y_isClosed, .ref y_insides, .ref y_parent, .ref y_isHigh, .ref y_inBits, .int (z_i y_sides), .ref y_side, .ref y_sideA, .ref y_sideB, .int (z_i y_lineSpace), .ref y_wasThere, .ref y_leads, .ref y_isLed, .ref y_isOn, .ref y_goesTo, .ref y_stream, .ref ya_filled, .ref ya_isDone, .ref y_isReached, .ref y_newUnits, .ref y_isNew])), (ya_units, .inl (cA 1, 5120, .inl y_units)), (ya_isThere, .inl (cA 3, 5120, .inl y_isThere)), (ya_filled, .inl (cA 1, 1280, .inl f15)), (ya_isDone, .inl (cA 3, 1280, .inl f3))] H := by rw [hy16]; exact hP
                  have hD : va_D A [(y, .inr (6, [.ref y_space, .ref y_offset, .ref y_length, .ref ya_units, .ref ya_isThere, .int (z_i y_levels), .ref y_level, .int (z_i y_lines), .ref y_lineLevel, .ref y_lineUnits, .ref y_lineFrom, .ref y_lineMany, .ref y_isClosed, .ref y_insides, .ref y_parent, .ref y_isHigh, .ref y_inBits, .int (z_i y_sides), .ref y_side, .ref y_sideA, .ref y_sideB, .int (z_i y_lineSpace), .ref y_wasThere, .ref y_leads, .ref y_isLed, .ref y_isOn, .ref y_goesTo, .ref y_stream, .ref ya_filled, .ref ya_isDone, .ref y_isReached, .ref y_newUnits, .ref y_isNew])), (ya_units, .inl (cA 1, 5120, .inl y_units)), (ya_isThere, .inl (cA 3, 5120, .inl y_isThere)), (ya_filled, .inl (cA 1, 1280, .inl f15)), (ya_isDone, .inl (cA 3, 1280, .inl f3))] := by rw [hy16]; exact hD
                  refine lv_iinc (v := z_i (x155_4 + 1)) (lv' := [(4, .int (z_i (x155_4 + 1))), (7, .int (z_i v13)), (6, .int (z_i v11)), (5, .int (z_i r8)), (3, .int (z_i x98_3)), (0, .ref y), (1, .int (z_i gi)), (2, .int (z_i n))]) hx hb dX8_filledOf_257 hl (k := 3) rfl (z_i_add _ _) (by decide) rfl (fun ls hl => ?_)
                  refine lv_goto (tgt := 155) hx hb dX8_filledOf_260 (by decide) ?_
                  exact hv _ _ ls hP hD hS (lv_sub hl [0, 4, 5, 6, 7] rfl)
                · have hv := hv.2 hc
                  refine lv_iload hx hb dX8_filledOf_244 (lv_at hl 0 rfl) ?_
                  refine lv_goto (tgt := 256) hx hb dX8_filledOf_246 (by decide) ?_
                  refine lx_iast hx hb hK hP hD hS 3 1 rfl rfl (by decide) hi9.1 hi9.2 dX8_filledOf_256 (fun H locs hP hD hS => ?_)
                  obtain ⟨f17, hy18⟩ : ∃ y : Nat → Int32, y = z_s y155_ya_filled r8 v13 := ⟨_, rfl⟩
                  have hv := hv f17 hy18
                  have hP : va_P D vwCl [(y, .inr (6, [.ref y_space, .ref y_offset, .ref y_length, .ref ya_units, .ref ya_isThere, .int (z_i y_levels), .ref y_level, .int (z_i y_lines), .ref y_lineLevel, .ref y_lineUnits, .ref y_lineFrom, .ref y_lineMany, .ref y_isClosed, .ref y_insides, .ref y_parent, .ref y_isHigh, .ref y_inBits, .int (z_i y_sides), .ref y_side, .ref y_sideA, .ref y_sideB, .int (z_i y_lineSpace), .ref y_wasThere, .ref y_leads, .ref y_isLed, .ref y_isOn, .ref y_goesTo, .ref y_stream, .ref ya_filled, .ref ya_isDone, .ref y_isReached, .ref y_newUnits, .ref y_isNew])), (ya_units, .inl (cA 1, 5120, .inl y_units)), (ya_isThere, .inl (cA 3, 5120, .inl y_isThere)), (ya_filled, .inl (cA 1, 1280, .inl f17)), (ya_isDone, .inl (cA 3, 1280, .inl f3))] H := by rw [hy18]; exact hP
                  have hD : va_D A [(y, .inr (6, [.ref y_space, .ref y_offset, .ref y_length, .ref ya_units, .ref ya_isThere, .int (z_i y_levels), .ref y_level, .int (z_i y_lines), .ref y_lineLevel, .ref y_lineUnits, .ref y_lineFrom, .ref y_lineMany, .ref y_isClosed, .ref y_insides, .ref y_parent, .ref y_isHigh, .ref y_inBits, .int (z_i y_sides), .ref y_side, .ref y_sideA, .ref y_sideB, .int (z_i y_lineSpace), .ref y_wasThere, .ref y_leads, .ref y_isLed, .ref y_isOn, .ref y_goesTo, .ref y_stream, .ref ya_filled, .ref ya_isDone, .ref y_isReached, .ref y_newUnits, .ref y_isNew])), (ya_units, .inl (cA 1, 5120, .inl y_units)), (ya_isThere, .inl (cA 3, 5120, .inl y_isThere)), (ya_filled, .inl (cA 1, 1280, .inl f17)), (ya_isDone, .inl (cA 3, 1280, .inl f3))] := by rw [hy18]; exact hD
                  refine lv_iinc (v := z_i (x155_4 + 1)) (lv' := [(4, .int (z_i (x155_4 + 1))), (7, .int (z_i v13)), (6, .int (z_i v11)), (5, .int (z_i r8)), (3, .int (z_i x98_3)), (0, .ref y), (1, .int (z_i gi)), (2, .int (z_i n))]) hx hb dX8_filledOf_257 hl (k := 3) rfl (z_i_add _ _) (by decide) rfl (fun ls hl => ?_)
                  refine lv_goto (tgt := 155) hx hb dX8_filledOf_260 (by decide) ?_
                  exact hv _ _ ls hP hD hS (lv_sub hl [0, 4, 5, 6, 7] rfl)
              · have hv := hv.2 hc
                refine lv_iload hx hb dX8_filledOf_213 (lv_at hl 0 rfl) ?_
                refine lv_goto (tgt := 224) hx hb dX8_filledOf_215 (by decide) ?_
                refine lv_istore (lv' := [(7, .int (z_i v11)), (6, .int (z_i v11)), (5, .int (z_i r8)), (4, .int (z_i x155_4)), (3, .int (z_i x98_3)), (0, .ref y), (1, .int (z_i gi)), (2, .int (z_i n))]) hx hb dX8_filledOf_224 hl (by decide) rfl (fun ls hl => ?_)
                refine lv_aload_n hx hb dX8_filledOf_226 rfl (lv_at hl 5 rfl) ?_
                refine va_get (D := D) (ci := 6) (v := .ref ya_filled) (C := RX8) (T := TX8) (N := 33) hx hb hts (fun w h => List.mem_cons_of_mem _ (List.mem_append_right _ h)) hown hK hP 0 rfl rfl 28 (by decide) (hts (.fieldLink RX8 84 "ContourSheetsModel" "filled" "[I") (by decide +kernel)) (fun _ h9 => h9) rfl dX8_filledOf_227 ?_
                refine lv_iload hx hb dX8_filledOf_230 (lv_at hl 2 rfl) ?_
                refine lv_iload hx hb dX8_filledOf_232 (lv_at hl 0 rfl) ?_
                refine lv_aload_n hx hb dX8_filledOf_234 rfl (lv_at hl 5 rfl) ?_
                refine va_get (D := D) (ci := 6) (v := .ref ya_filled) (C := RX8) (T := TX8) (N := 33) hx hb hts (fun w h => List.mem_cons_of_mem _ (List.mem_append_right _ h)) hown hK hP 0 rfl rfl 28 (by decide) (hts (.fieldLink RX8 84 "ContourSheetsModel" "filled" "[I") (by decide +kernel)) (fun _ h9 => h9) rfl dX8_filledOf_235 ?_
                refine lv_iload hx hb dX8_filledOf_238 (lv_at hl 2 rfl) ?_
                refine lx_iald hx hb hK hP 3 1 rfl rfl (by decide) hi9.1 hi9.2 dX8_filledOf_240 ?_
                refine lx_icmp_ge (tgt := 249) hx hb dX8_filledOf_241 (by decide) h_v11 (z_in_g _ _) (fun hc => ?_) (fun hc => ?_)
                · have hv := hv.1 hc
                  refine lv_aload_n hx hb dX8_filledOf_249 rfl (lv_at hl 5 rfl) ?_
                  refine va_get (D := D) (ci := 6) (v := .ref ya_filled) (C := RX8) (T := TX8) (N := 33) hx hb hts (fun w h => List.mem_cons_of_mem _ (List.mem_append_right _ h)) hown hK hP 0 rfl rfl 28 (by decide) (hts (.fieldLink RX8 84 "ContourSheetsModel" "filled" "[I") (by decide +kernel)) (fun _ h9 => h9) rfl dX8_filledOf_250 ?_
                  refine lv_iload hx hb dX8_filledOf_253 (lv_at hl 2 rfl) ?_
                  refine lx_iald hx hb hK hP 3 1 rfl rfl (by decide) hi9.1 hi9.2 dX8_filledOf_255 ?_
                  refine lx_iast hx hb hK hP hD hS 3 1 rfl rfl (by decide) hi9.1 hi9.2 dX8_filledOf_256 (fun H locs hP hD hS => ?_)
                  obtain ⟨f19, hy20⟩ : ∃ y : Nat → Int32, y = z_s y155_ya_filled r8 (z_g y155_ya_filled r8) := ⟨_, rfl⟩
                  have hv := hv f19 hy20
                  have hP : va_P D vwCl [(y, .inr (6, [.ref y_space, .ref y_offset, .ref y_length, .ref ya_units, .ref ya_isThere, .int (z_i y_levels), .ref y_level, .int (z_i y_lines), .ref y_lineLevel, .ref y_lineUnits, .ref y_lineFrom, .ref y_lineMany, .ref y_isClosed, .ref y_insides, .ref y_parent, .ref y_isHigh, .ref y_inBits, .int (z_i y_sides), .ref y_side, .ref y_sideA, .ref y_sideB, .int (z_i y_lineSpace), .ref y_wasThere, .ref y_leads, .ref y_isLed, .ref y_isOn, .ref y_goesTo, .ref y_stream, .ref ya_filled, .ref ya_isDone, .ref y_isReached, .ref y_newUnits, .ref y_isNew])), (ya_units, .inl (cA 1, 5120, .inl y_units)), (ya_isThere, .inl (cA 3, 5120, .inl y_isThere)), (ya_filled, .inl (cA 1, 1280, .inl f19)), (ya_isDone, .inl (cA 3, 1280, .inl f3))] H := by rw [hy20]; exact hP
                  have hD : va_D A [(y, .inr (6, [.ref y_space, .ref y_offset, .ref y_length, .ref ya_units, .ref ya_isThere, .int (z_i y_levels), .ref y_level, .int (z_i y_lines), .ref y_lineLevel, .ref y_lineUnits, .ref y_lineFrom, .ref y_lineMany, .ref y_isClosed, .ref y_insides, .ref y_parent, .ref y_isHigh, .ref y_inBits, .int (z_i y_sides), .ref y_side, .ref y_sideA, .ref y_sideB, .int (z_i y_lineSpace), .ref y_wasThere, .ref y_leads, .ref y_isLed, .ref y_isOn, .ref y_goesTo, .ref y_stream, .ref ya_filled, .ref ya_isDone, .ref y_isReached, .ref y_newUnits, .ref y_isNew])), (ya_units, .inl (cA 1, 5120, .inl y_units)), (ya_isThere, .inl (cA 3, 5120, .inl y_isThere)), (ya_filled, .inl (cA 1, 1280, .inl f19)), (ya_isDone, .inl (cA 3, 1280, .inl f3))] := by rw [hy20]; exact hD
                  refine lv_iinc (v := z_i (x155_4 + 1)) (lv' := [(4, .int (z_i (x155_4 + 1))), (7, .int (z_i v11)), (6, .int (z_i v11)), (5, .int (z_i r8)), (3, .int (z_i x98_3)), (0, .ref y), (1, .int (z_i gi)), (2, .int (z_i n))]) hx hb dX8_filledOf_257 hl (k := 3) rfl (z_i_add _ _) (by decide) rfl (fun ls hl => ?_)
                  refine lv_goto (tgt := 155) hx hb dX8_filledOf_260 (by decide) ?_
                  exact hv _ _ ls hP hD hS (lv_sub hl [0, 4, 5, 6, 7] rfl)
                · have hv := hv.2 hc
                  refine lv_iload hx hb dX8_filledOf_244 (lv_at hl 0 rfl) ?_
                  refine lv_goto (tgt := 256) hx hb dX8_filledOf_246 (by decide) ?_
                  refine lx_iast hx hb hK hP hD hS 3 1 rfl rfl (by decide) hi9.1 hi9.2 dX8_filledOf_256 (fun H locs hP hD hS => ?_)
                  obtain ⟨f21, hy22⟩ : ∃ y : Nat → Int32, y = z_s y155_ya_filled r8 v11 := ⟨_, rfl⟩
                  have hv := hv f21 hy22
                  have hP : va_P D vwCl [(y, .inr (6, [.ref y_space, .ref y_offset, .ref y_length, .ref ya_units, .ref ya_isThere, .int (z_i y_levels), .ref y_level, .int (z_i y_lines), .ref y_lineLevel, .ref y_lineUnits, .ref y_lineFrom, .ref y_lineMany, .ref y_isClosed, .ref y_insides, .ref y_parent, .ref y_isHigh, .ref y_inBits, .int (z_i y_sides), .ref y_side, .ref y_sideA, .ref y_sideB, .int (z_i y_lineSpace), .ref y_wasThere, .ref y_leads, .ref y_isLed, .ref y_isOn, .ref y_goesTo, .ref y_stream, .ref ya_filled, .ref ya_isDone, .ref y_isReached, .ref y_newUnits, .ref y_isNew])), (ya_units, .inl (cA 1, 5120, .inl y_units)), (ya_isThere, .inl (cA 3, 5120, .inl y_isThere)), (ya_filled, .inl (cA 1, 1280, .inl f21)), (ya_isDone, .inl (cA 3, 1280, .inl f3))] H := by rw [hy22]; exact hP
                  have hD : va_D A [(y, .inr (6, [.ref y_space, .ref y_offset, .ref y_length, .ref ya_units, .ref ya_isThere, .int (z_i y_levels), .ref y_level, .int (z_i y_lines), .ref y_lineLevel, .ref y_lineUnits, .ref y_lineFrom, .ref y_lineMany, .ref y_isClosed, .ref y_insides, .ref y_parent, .ref y_isHigh, .ref y_inBits, .int (z_i y_sides), .ref y_side, .ref y_sideA, .ref y_sideB, .int (z_i y_lineSpace), .ref y_wasThere, .ref y_leads, .ref y_isLed, .ref y_isOn, .ref y_goesTo, .ref y_stream, .ref ya_filled, .ref ya_isDone, .ref y_isReached, .ref y_newUnits, .ref y_isNew])), (ya_units, .inl (cA 1, 5120, .inl y_units)), (ya_isThere, .inl (cA 3, 5120, .inl y_isThere)), (ya_filled, .inl (cA 1, 1280, .inl f21)), (ya_isDone, .inl (cA 3, 1280, .inl f3))] := by rw [hy22]; exact hD
                  refine lv_iinc (v := z_i (x155_4 + 1)) (lv' := [(4, .int (z_i (x155_4 + 1))), (7, .int (z_i v11)), (6, .int (z_i v11)), (5, .int (z_i r8)), (3, .int (z_i x98_3)), (0, .ref y), (1, .int (z_i gi)), (2, .int (z_i n))]) hx hb dX8_filledOf_257 hl (k := 3) rfl (z_i_add _ _) (by decide) rfl (fun ls hl => ?_)
                  refine lv_goto (tgt := 155) hx hb dX8_filledOf_260 (by decide) ?_
                  exact hv _ _ ls hP hD hS (lv_sub hl [0, 4, 5, 6, 7] rfl)
      · have hv := hv.2 hc
        refine lv_aload_n hx hb dX8_filledOf_106 rfl (lv_at hl 2 rfl) ?_
        refine va_get (D := D) (ci := 6) (v := .ref ya_isDone) (C := RX8) (T := TX8) (N := 33) hx hb hts (fun w h => List.mem_cons_of_mem _ (List.mem_append_right _ h)) hown hK hP 0 rfl rfl 29 (by decide) (hts (.fieldLink RX8 87 "ContourSheetsModel" "isDone" "[Z") (by decide +kernel)) (fun _ h9 => h9) rfl dX8_filledOf_107 ?_
        refine lv_iload hx hb dX8_filledOf_110 (lv_at hl 0 rfl) ?_
        obtain ⟨hi23, hv⟩ := hv
        refine lx_zald hx hb hK hP 4 3 rfl rfl (by decide) hi23.1 hi23.2 dX8_filledOf_112 ?_
        refine lx_if_ne (tgt := 139) hx hb dX8_filledOf_113 (by decide) (z_in_g _ _) (fun hc => ?_) (fun hc => ?_)
        · have hv := hv.1 hc
          refine lv_iinc (v := z_i (x98_4 + 1)) (lv' := [(4, .int (z_i (x98_4 + 1))), (3, .int (z_i x98_3)), (0, .ref y), (1, .int (z_i gi)), (2, .int (z_i n))]) hx hb dX8_filledOf_139 hl (k := 0) rfl (z_i_add _ _) (by decide) rfl (fun ls hl => ?_)
          refine lv_goto (tgt := 98) hx hb dX8_filledOf_142 (by decide) ?_
          exact hv _ _ ls hP hD hS (lv_sub hl [0, 1, 2, 3, 4] rfl)
        · have hv := hv.2 hc
          refine lv_iload_n hx hb dX8_filledOf_116 rfl (lv_at hl 1 rfl) ?_
          refine lx_if_lt (tgt := 136) hx hb dX8_filledOf_117 (by decide) h_x98_3 (fun hc => ?_) (fun hc => ?_)
          · have hv := hv.1 hc
            refine lv_iload hx hb dX8_filledOf_136 (lv_at hl 0 rfl) ?_
            refine lv_istore_n (lv' := [(3, .int (z_i x98_4)), (4, .int (z_i x98_4)), (0, .ref y), (1, .int (z_i gi)), (2, .int (z_i n))]) hx hb dX8_filledOf_138 rfl hl (by decide) rfl (fun ls hl => ?_)
            refine lv_iinc (v := z_i (x98_4 + 1)) (lv' := [(4, .int (z_i (x98_4 + 1))), (3, .int (z_i x98_4)), (0, .ref y), (1, .int (z_i gi)), (2, .int (z_i n))]) hx hb dX8_filledOf_139 hl (k := 1) rfl (z_i_add _ _) (by decide) rfl (fun ls hl => ?_)
            refine lv_goto (tgt := 98) hx hb dX8_filledOf_142 (by decide) ?_
            exact hv _ _ ls hP hD hS (lv_sub hl [0, 1, 2, 3, 4] rfl)
          · have hv := hv.2 hc
            refine lv_aload_n hx hb dX8_filledOf_120 rfl (lv_at hl 2 rfl) ?_
            refine va_get (D := D) (ci := 6) (v := .ref ya_filled) (C := RX8) (T := TX8) (N := 33) hx hb hts (fun w h => List.mem_cons_of_mem _ (List.mem_append_right _ h)) hown hK hP 0 rfl rfl 28 (by decide) (hts (.fieldLink RX8 84 "ContourSheetsModel" "filled" "[I") (by decide +kernel)) (fun _ h9 => h9) rfl dX8_filledOf_121 ?_
            refine lv_iload hx hb dX8_filledOf_124 (lv_at hl 0 rfl) ?_
            refine lx_iald hx hb hK hP 3 1 rfl rfl (by decide) hi23.1 hi23.2 dX8_filledOf_126 ?_
            refine lv_aload_n hx hb dX8_filledOf_127 rfl (lv_at hl 2 rfl) ?_
            refine va_get (D := D) (ci := 6) (v := .ref ya_filled) (C := RX8) (T := TX8) (N := 33) hx hb hts (fun w h => List.mem_cons_of_mem _ (List.mem_append_right _ h)) hown hK hP 0 rfl rfl 28 (by decide) (hts (.fieldLink RX8 84 "ContourSheetsModel" "filled" "[I") (by decide +kernel)) (fun _ h9 => h9) rfl dX8_filledOf_128 ?_
            refine lv_iload_n hx hb dX8_filledOf_131 rfl (lv_at hl 1 rfl) ?_
            obtain ⟨hi24, hv⟩ := hv
            refine lx_iald hx hb hK hP 3 1 rfl rfl (by decide) hi24.1 hi24.2 dX8_filledOf_132 ?_
            refine lx_icmp_ge (tgt := 139) hx hb dX8_filledOf_133 (by decide) (z_in_g _ _) (z_in_g _ _) (fun hc => ?_) (fun hc => ?_)
            · have hv := hv.1 hc
              refine lv_iinc (v := z_i (x98_4 + 1)) (lv' := [(4, .int (z_i (x98_4 + 1))), (3, .int (z_i x98_3)), (0, .ref y), (1, .int (z_i gi)), (2, .int (z_i n))]) hx hb dX8_filledOf_139 hl (k := 0) rfl (z_i_add _ _) (by decide) rfl (fun ls hl => ?_)
              refine lv_goto (tgt := 98) hx hb dX8_filledOf_142 (by decide) ?_
              exact hv _ _ ls hP hD hS (lv_sub hl [0, 1, 2, 3, 4] rfl)
            · have hv := hv.2 hc
              refine lv_iload hx hb dX8_filledOf_136 (lv_at hl 0 rfl) ?_
              refine lv_istore_n (lv' := [(3, .int (z_i x98_4)), (4, .int (z_i x98_4)), (0, .ref y), (1, .int (z_i gi)), (2, .int (z_i n))]) hx hb dX8_filledOf_138 rfl hl (by decide) rfl (fun ls hl => ?_)
              refine lv_iinc (v := z_i (x98_4 + 1)) (lv' := [(4, .int (z_i (x98_4 + 1))), (3, .int (z_i x98_4)), (0, .ref y), (1, .int (z_i gi)), (2, .int (z_i n))]) hx hb dX8_filledOf_139 hl (k := 1) rfl (z_i_add _ _) (by decide) rfl (fun ls hl => ?_)
              refine lv_goto (tgt := 98) hx hb dX8_filledOf_142 (by decide) ?_
              exact hv _ _ ls hP hD hS (lv_sub hl [0, 1, 2, 3, 4] rfl)
  · have hv := hv.2 hc
    refine lv_aload_n hx hb dX8_filledOf_9 rfl (lv_at hl 1 rfl) ?_
    refine va_get (D := D) (ci := 6) (v := .ref ya_isDone) (C := RX8) (T := TX8) (N := 33) hx hb hts (fun w h => List.mem_cons_of_mem _ (List.mem_append_right _ h)) hown hK hP 0 rfl rfl 29 (by decide) (hts (.fieldLink RX8 87 "ContourSheetsModel" "isDone" "[Z") (by decide +kernel)) (fun _ h9 => h9) rfl dX8_filledOf_10 ?_
    refine lv_iload_n hx hb dX8_filledOf_13 rfl (lv_at hl 0 rfl) ?_
    refine lv_aload_n hx hb dX8_filledOf_14 rfl (lv_at hl 1 rfl) ?_
    refine va_get (D := D) (ci := 6) (v := .ref ya_isThere) (C := RX8) (T := TX8) (N := 33) hx hb hts (fun w h => List.mem_cons_of_mem _ (List.mem_append_right _ h)) hown hK hP 0 rfl rfl 4 (by decide) (hts (.fieldLink RX8 22 "ContourSheetsModel" "isThere" "[Z") (by decide +kernel)) (fun _ h9 => h9) rfl dX8_filledOf_15 ?_
    refine lv_sipush (v := z_i 1280) hx hb dX8_filledOf_18 (by decide) ?_
    refine lv_iload_n hx hb dX8_filledOf_21 rfl (lv_at hl 2 rfl) ?_
    refine lx_imul hx hb dX8_filledOf_22 ?_
    refine lv_iload_n hx hb dX8_filledOf_23 rfl (lv_at hl 0 rfl) ?_
    refine lx_iadd hx hb dX8_filledOf_24 ?_
    obtain ⟨hi25, hv⟩ := hv
    refine lx_zald hx hb hK hP 2 3 rfl rfl (by decide) hi25.1 hi25.2 dX8_filledOf_25 ?_
    refine lx_if_ne (tgt := 33) hx hb dX8_filledOf_26 (by decide) (z_in_g _ _) (fun hc => ?_) (fun hc => ?_)
    · have hv := hv.1 hc
      refine lv_iconst (v := z_i 0) hx hb dX8_filledOf_33 rfl ?_
      obtain ⟨hi26, hv⟩ := hv
      refine lx_zast hx hb hK hP hD hS 4 3 rfl rfl (by decide) hi26.1 hi26.2 (by decide) dX8_filledOf_34 (fun H locs hP hD hS => ?_)
      obtain ⟨f27, hy28⟩ : ∃ y : Nat → Int32, y = z_s y2_ya_isDone x2_3 0 := ⟨_, rfl⟩
      have hv := hv f27 hy28
      have hP : va_P D vwCl [(y, .inr (6, [.ref y_space, .ref y_offset, .ref y_length, .ref ya_units, .ref ya_isThere, .int (z_i y_levels), .ref y_level, .int (z_i y_lines), .ref y_lineLevel, .ref y_lineUnits, .ref y_lineFrom, .ref y_lineMany, .ref y_isClosed, .ref y_insides, .ref y_parent, .ref y_isHigh, .ref y_inBits, .int (z_i y_sides), .ref y_side, .ref y_sideA, .ref y_sideB, .int (z_i y_lineSpace), .ref y_wasThere, .ref y_leads, .ref y_isLed, .ref y_isOn, .ref y_goesTo, .ref y_stream, .ref ya_filled, .ref ya_isDone, .ref y_isReached, .ref y_newUnits, .ref y_isNew])), (ya_units, .inl (cA 1, 5120, .inl y_units)), (ya_isThere, .inl (cA 3, 5120, .inl y_isThere)), (ya_filled, .inl (cA 1, 1280, .inl y2_ya_filled)), (ya_isDone, .inl (cA 3, 1280, .inl f27))] H := by rw [hy28]; exact hP
      have hD : va_D A [(y, .inr (6, [.ref y_space, .ref y_offset, .ref y_length, .ref ya_units, .ref ya_isThere, .int (z_i y_levels), .ref y_level, .int (z_i y_lines), .ref y_lineLevel, .ref y_lineUnits, .ref y_lineFrom, .ref y_lineMany, .ref y_isClosed, .ref y_insides, .ref y_parent, .ref y_isHigh, .ref y_inBits, .int (z_i y_sides), .ref y_side, .ref y_sideA, .ref y_sideB, .int (z_i y_lineSpace), .ref y_wasThere, .ref y_leads, .ref y_isLed, .ref y_isOn, .ref y_goesTo, .ref y_stream, .ref ya_filled, .ref ya_isDone, .ref y_isReached, .ref y_newUnits, .ref y_isNew])), (ya_units, .inl (cA 1, 5120, .inl y_units)), (ya_isThere, .inl (cA 3, 5120, .inl y_isThere)), (ya_filled, .inl (cA 1, 1280, .inl y2_ya_filled)), (ya_isDone, .inl (cA 3, 1280, .inl f27))] := by rw [hy28]; exact hD
      refine lv_aload_n hx hb dX8_filledOf_35 rfl (lv_at hl 1 rfl) ?_
      refine va_get (D := D) (ci := 6) (v := .ref ya_filled) (C := RX8) (T := TX8) (N := 33) hx hb hts (fun w h => List.mem_cons_of_mem _ (List.mem_append_right _ h)) hown hK hP 0 rfl rfl 28 (by decide) (hts (.fieldLink RX8 84 "ContourSheetsModel" "filled" "[I") (by decide +kernel)) (fun _ h9 => h9) rfl dX8_filledOf_36 ?_
      refine lv_iload_n hx hb dX8_filledOf_39 rfl (lv_at hl 0 rfl) ?_
      refine lv_aload_n hx hb dX8_filledOf_40 rfl (lv_at hl 1 rfl) ?_
      refine va_get (D := D) (ci := 6) (v := .ref ya_isDone) (C := RX8) (T := TX8) (N := 33) hx hb hts (fun w h => List.mem_cons_of_mem _ (List.mem_append_right _ h)) hown hK hP 0 rfl rfl 29 (by decide) (hts (.fieldLink RX8 87 "ContourSheetsModel" "isDone" "[Z") (by decide +kernel)) (fun _ h9 => h9) rfl dX8_filledOf_41 ?_
      refine lv_iload_n hx hb dX8_filledOf_44 rfl (lv_at hl 0 rfl) ?_
      refine lx_zald hx hb hK hP 4 3 rfl rfl (by decide) hi26.1 hi26.2 dX8_filledOf_45 ?_
      refine lx_if_ne (tgt := 75) hx hb dX8_filledOf_46 (by decide) (z_in_g _ _) (fun hc => ?_) (fun hc => ?_)
      · have hv := hv.1 hc
        refine lx_ldc (a := 2147483647) hx hb hown (hts (.constant RX8 108 (2147483647)) (by decide +kernel)) (by decide) dX8_filledOf_75 ?_
        refine lx_iast hx hb hK hP hD hS 3 1 rfl rfl (by decide) hi26.1 hi26.2 dX8_filledOf_77 (fun H locs hP hD hS => ?_)
        obtain ⟨f29, hy30⟩ : ∃ y : Nat → Int32, y = z_s y2_ya_filled x2_3 2147483647 := ⟨_, rfl⟩
        have hv := hv f29 hy30
        have hP : va_P D vwCl [(y, .inr (6, [.ref y_space, .ref y_offset, .ref y_length, .ref ya_units, .ref ya_isThere, .int (z_i y_levels), .ref y_level, .int (z_i y_lines), .ref y_lineLevel, .ref y_lineUnits, .ref y_lineFrom, .ref y_lineMany, .ref y_isClosed, .ref y_insides, .ref y_parent, .ref y_isHigh, .ref y_inBits, .int (z_i y_sides), .ref y_side, .ref y_sideA, .ref y_sideB, .int (z_i y_lineSpace), .ref y_wasThere, .ref y_leads, .ref y_isLed, .ref y_isOn, .ref y_goesTo, .ref y_stream, .ref ya_filled, .ref ya_isDone, .ref y_isReached, .ref y_newUnits, .ref y_isNew])), (ya_units, .inl (cA 1, 5120, .inl y_units)), (ya_isThere, .inl (cA 3, 5120, .inl y_isThere)), (ya_filled, .inl (cA 1, 1280, .inl f29)), (ya_isDone, .inl (cA 3, 1280, .inl f27))] H := by rw [hy30]; exact hP
        have hD : va_D A [(y, .inr (6, [.ref y_space, .ref y_offset, .ref y_length, .ref ya_units, .ref ya_isThere, .int (z_i y_levels), .ref y_level, .int (z_i y_lines), .ref y_lineLevel, .ref y_lineUnits, .ref y_lineFrom, .ref y_lineMany, .ref y_isClosed, .ref y_insides, .ref y_parent, .ref y_isHigh, .ref y_inBits, .int (z_i y_sides), .ref y_side, .ref y_sideA, .ref y_sideB, .int (z_i y_lineSpace), .ref y_wasThere, .ref y_leads, .ref y_isLed, .ref y_isOn, .ref y_goesTo, .ref y_stream, .ref ya_filled, .ref ya_isDone, .ref y_isReached, .ref y_newUnits, .ref y_isNew])), (ya_units, .inl (cA 1, 5120, .inl y_units)), (ya_isThere, .inl (cA 3, 5120, .inl y_isThere)), (ya_filled, .inl (cA 1, 1280, .inl f29)), (ya_isDone, .inl (cA 3, 1280, .inl f27))] := by rw [hy30]; exact hD
        refine lv_iinc (v := z_i (x2_3 + 1)) (lv' := [(3, .int (z_i (x2_3 + 1))), (0, .ref y), (1, .int (z_i gi)), (2, .int (z_i n))]) hx hb dX8_filledOf_78 hl (k := 0) rfl (z_i_add _ _) (by decide) rfl (fun ls hl => ?_)
        refine lv_goto (tgt := 2) hx hb dX8_filledOf_81 (by decide) ?_
        exact hv _ _ ls hP hD hS (lv_sub hl [0, 1, 2, 3] rfl)
      · have hv := hv.2 hc
        refine lv_aload_n hx hb dX8_filledOf_49 rfl (lv_at hl 1 rfl) ?_
        refine lv_iload_n hx hb dX8_filledOf_50 rfl (lv_at hl 2 rfl) ?_
        refine lv_iload_n hx hb dX8_filledOf_51 rfl (lv_at hl 0 rfl) ?_
        obtain ⟨hp31, hv⟩ := hv
        obtain ⟨hp32, hv⟩ := hv
        refine va_calli (va_runV (As := [.int (z_i gi), .int (z_i x2_3)]) (rest := [.int (z_i x2_3), .ref ya_filled]) ⟨hx, hb, hml, hown, hts⟩ (mt_X8_neighbours l D cA y y_space y_offset y_length ya_units ya_isThere y_isThere y_levels y_level y_lines y_lineLevel y_lineUnits y_lineFrom y_lineMany y_isClosed y_insides y_parent y_isHigh y_inBits y_sides y_side y_sideA y_sideB y_lineSpace y_wasThere y_leads y_isLed y_isOn y_goesTo y_stream ya_filled ya_isDone y_isReached y_newUnits y_isNew gi x2_3 h_y_levels h_y_lines h_y_sides h_y_lineSpace h_gi h_x2_3 hp31 hp32) (cwV 2 hts gX8_filledOf_X8_neighbours rfl rfl rfl (by decide +kernel) ⟨Nat.le_of_ble_eq_true rfl, Nat.le_of_ble_eq_true rfl⟩) ⟨z_bl0, va_recv hK hP (ci := 6) (q0 := 0) rfl rfl, fun U hU hW => ⟨rfl, z_b0 hK (hP.sub (ws' := [(y, .inr (6, [.ref y_space, .ref y_offset, .ref y_length, .ref ya_units, .ref ya_isThere, .int (z_i y_levels), .ref y_level, .int (z_i y_lines), .ref y_lineLevel, .ref y_lineUnits, .ref y_lineFrom, .ref y_lineMany, .ref y_isClosed, .ref y_insides, .ref y_parent, .ref y_isHigh, .ref y_inBits, .int (z_i y_sides), .ref y_side, .ref y_sideA, .ref y_sideB, .int (z_i y_lineSpace), .ref y_wasThere, .ref y_leads, .ref y_isLed, .ref y_isOn, .ref y_goesTo, .ref y_stream, .ref ya_filled, .ref ya_isDone, .ref y_isReached, .ref y_newUnits, .ref y_isNew])), (ya_isThere, .inl (cA 3, 5120, .inl y_isThere))]) [0, 2] rfl) hU hW⟩⟩ rfl rfl hl.1 rfl (lv_room (Nat.le_of_ble_eq_true rfl)) dX8_filledOf_52 ⟨Nat.zero_le _, Nat.zero_le _⟩) hS (fun q _ h => h.elim) (fun q h => h.elim) (fun r0 u t H locs ht hvm hw hB hz1 hk1 hS => ?_)
        obtain ⟨r33, rfl, h_r33, hw⟩ := hw
        have hP := z_P_all hP hk1
        have hv := hv r33 h_r33 hw
        refine lv_bipush (v := z_i 8) hx hb dX8_filledOf_55 (by decide) ?_
        refine lx_icmp_ge (tgt := 75) hx hb dX8_filledOf_57 (by decide) h_r33 (show z_in 8 from ⟨by decide, by decide⟩) (fun hc => ?_) (fun hc => ?_)
        · have hv := hv.1 hc
          refine lx_ldc (a := 2147483647) hx hb hown (hts (.constant RX8 108 (2147483647)) (by decide +kernel)) (by decide) dX8_filledOf_75 ?_
          refine lx_iast hx hb hK hP hD hS 3 1 rfl rfl (by decide) hi26.1 hi26.2 dX8_filledOf_77 (fun H locs hP hD hS => ?_)
          obtain ⟨f34, hy35⟩ : ∃ y : Nat → Int32, y = z_s y2_ya_filled x2_3 2147483647 := ⟨_, rfl⟩
          have hv := hv f34 hy35
          have hP : va_P D vwCl [(y, .inr (6, [.ref y_space, .ref y_offset, .ref y_length, .ref ya_units, .ref ya_isThere, .int (z_i y_levels), .ref y_level, .int (z_i y_lines), .ref y_lineLevel, .ref y_lineUnits, .ref y_lineFrom, .ref y_lineMany, .ref y_isClosed, .ref y_insides, .ref y_parent, .ref y_isHigh, .ref y_inBits, .int (z_i y_sides), .ref y_side, .ref y_sideA, .ref y_sideB, .int (z_i y_lineSpace), .ref y_wasThere, .ref y_leads, .ref y_isLed, .ref y_isOn, .ref y_goesTo, .ref y_stream, .ref ya_filled, .ref ya_isDone, .ref y_isReached, .ref y_newUnits, .ref y_isNew])), (ya_units, .inl (cA 1, 5120, .inl y_units)), (ya_isThere, .inl (cA 3, 5120, .inl y_isThere)), (ya_filled, .inl (cA 1, 1280, .inl f34)), (ya_isDone, .inl (cA 3, 1280, .inl f27))] H := by rw [hy35]; exact hP
          have hD : va_D A [(y, .inr (6, [.ref y_space, .ref y_offset, .ref y_length, .ref ya_units, .ref ya_isThere, .int (z_i y_levels), .ref y_level, .int (z_i y_lines), .ref y_lineLevel, .ref y_lineUnits, .ref y_lineFrom, .ref y_lineMany, .ref y_isClosed, .ref y_insides, .ref y_parent, .ref y_isHigh, .ref y_inBits, .int (z_i y_sides), .ref y_side, .ref y_sideA, .ref y_sideB, .int (z_i y_lineSpace), .ref y_wasThere, .ref y_leads, .ref y_isLed, .ref y_isOn, .ref y_goesTo, .ref y_stream, .ref ya_filled, .ref ya_isDone, .ref y_isReached, .ref y_newUnits, .ref y_isNew])), (ya_units, .inl (cA 1, 5120, .inl y_units)), (ya_isThere, .inl (cA 3, 5120, .inl y_isThere)), (ya_filled, .inl (cA 1, 1280, .inl f34)), (ya_isDone, .inl (cA 3, 1280, .inl f27))] := by rw [hy35]; exact hD
          refine lv_iinc (v := z_i (x2_3 + 1)) (lv' := [(3, .int (z_i (x2_3 + 1))), (0, .ref y), (1, .int (z_i gi)), (2, .int (z_i n))]) hx hb dX8_filledOf_78 hl (k := 0) rfl (z_i_add _ _) (by decide) rfl (fun ls hl => ?_)
          refine lv_goto (tgt := 2) hx hb dX8_filledOf_81 (by decide) ?_
          exact hv _ _ ls hP hD hS (lv_sub hl [0, 1, 2, 3] rfl)
        · have hv := hv.2 hc
          refine lv_aload_n hx hb dX8_filledOf_60 rfl (lv_at hl 1 rfl) ?_
          refine va_get (D := D) (ci := 6) (v := .ref ya_units) (C := RX8) (T := TX8) (N := 33) hx hb hts (fun w h => List.mem_cons_of_mem _ (List.mem_append_right _ h)) hown hK hP 0 rfl rfl 3 (by decide) (hts (.fieldLink RX8 19 "ContourSheetsModel" "units" "[I") (by decide +kernel)) (fun _ h9 => h9) rfl dX8_filledOf_61 ?_
          refine lv_sipush (v := z_i 1280) hx hb dX8_filledOf_64 (by decide) ?_
          refine lv_iload_n hx hb dX8_filledOf_67 rfl (lv_at hl 2 rfl) ?_
          refine lx_imul hx hb dX8_filledOf_68 ?_
          refine lv_iload_n hx hb dX8_filledOf_69 rfl (lv_at hl 0 rfl) ?_
          refine lx_iadd hx hb dX8_filledOf_70 ?_
          refine lx_iald hx hb hK hP 1 1 rfl rfl (by decide) hi25.1 hi25.2 dX8_filledOf_71 ?_
          refine lv_goto (tgt := 77) hx hb dX8_filledOf_72 (by decide) ?_
          refine lx_iast hx hb hK hP hD hS 3 1 rfl rfl (by decide) hi26.1 hi26.2 dX8_filledOf_77 (fun H locs hP hD hS => ?_)
          obtain ⟨f36, hy37⟩ : ∃ y : Nat → Int32, y = z_s y2_ya_filled x2_3 (z_g y_units ((1280 * gi) + x2_3)) := ⟨_, rfl⟩
          have hv := hv f36 hy37
          have hP : va_P D vwCl [(y, .inr (6, [.ref y_space, .ref y_offset, .ref y_length, .ref ya_units, .ref ya_isThere, .int (z_i y_levels), .ref y_level, .int (z_i y_lines), .ref y_lineLevel, .ref y_lineUnits, .ref y_lineFrom, .ref y_lineMany, .ref y_isClosed, .ref y_insides, .ref y_parent, .ref y_isHigh, .ref y_inBits, .int (z_i y_sides), .ref y_side, .ref y_sideA, .ref y_sideB, .int (z_i y_lineSpace), .ref y_wasThere, .ref y_leads, .ref y_isLed, .ref y_isOn, .ref y_goesTo, .ref y_stream, .ref ya_filled, .ref ya_isDone, .ref y_isReached, .ref y_newUnits, .ref y_isNew])), (ya_units, .inl (cA 1, 5120, .inl y_units)), (ya_isThere, .inl (cA 3, 5120, .inl y_isThere)), (ya_filled, .inl (cA 1, 1280, .inl f36)), (ya_isDone, .inl (cA 3, 1280, .inl f27))] H := by rw [hy37]; exact hP
          have hD : va_D A [(y, .inr (6, [.ref y_space, .ref y_offset, .ref y_length, .ref ya_units, .ref ya_isThere, .int (z_i y_levels), .ref y_level, .int (z_i y_lines), .ref y_lineLevel, .ref y_lineUnits, .ref y_lineFrom, .ref y_lineMany, .ref y_isClosed, .ref y_insides, .ref y_parent, .ref y_isHigh, .ref y_inBits, .int (z_i y_sides), .ref y_side, .ref y_sideA, .ref y_sideB, .int (z_i y_lineSpace), .ref y_wasThere, .ref y_leads, .ref y_isLed, .ref y_isOn, .ref y_goesTo, .ref y_stream, .ref ya_filled, .ref ya_isDone, .ref y_isReached, .ref y_newUnits, .ref y_isNew])), (ya_units, .inl (cA 1, 5120, .inl y_units)), (ya_isThere, .inl (cA 3, 5120, .inl y_isThere)), (ya_filled, .inl (cA 1, 1280, .inl f36)), (ya_isDone, .inl (cA 3, 1280, .inl f27))] := by rw [hy37]; exact hD
          refine lv_iinc (v := z_i (x2_3 + 1)) (lv' := [(3, .int (z_i (x2_3 + 1))), (0, .ref y), (1, .int (z_i gi)), (2, .int (z_i n))]) hx hb dX8_filledOf_78 hl (k := 0) rfl (z_i_add _ _) (by decide) rfl (fun ls hl => ?_)
          refine lv_goto (tgt := 2) hx hb dX8_filledOf_81 (by decide) ?_
          exact hv _ _ ls hP hD hS (lv_sub hl [0, 1, 2, 3] rfl)
    · have hv := hv.2 hc
      refine lv_iconst (v := z_i 1) hx hb dX8_filledOf_29 rfl ?_
      refine lv_goto (tgt := 34) hx hb dX8_filledOf_30 (by decide) ?_
      obtain ⟨hi38, hv⟩ := hv
      refine lx_zast hx hb hK hP hD hS 4 3 rfl rfl (by decide) hi38.1 hi38.2 (by decide) dX8_filledOf_34 (fun H locs hP hD hS => ?_)
      obtain ⟨f39, hy40⟩ : ∃ y : Nat → Int32, y = z_s y2_ya_isDone x2_3 1 := ⟨_, rfl⟩
      have hv := hv f39 hy40
      have hP : va_P D vwCl [(y, .inr (6, [.ref y_space, .ref y_offset, .ref y_length, .ref ya_units, .ref ya_isThere, .int (z_i y_levels), .ref y_level, .int (z_i y_lines), .ref y_lineLevel, .ref y_lineUnits, .ref y_lineFrom, .ref y_lineMany, .ref y_isClosed, .ref y_insides, .ref y_parent, .ref y_isHigh, .ref y_inBits, .int (z_i y_sides), .ref y_side, .ref y_sideA, .ref y_sideB, .int (z_i y_lineSpace), .ref y_wasThere, .ref y_leads, .ref y_isLed, .ref y_isOn, .ref y_goesTo, .ref y_stream, .ref ya_filled, .ref ya_isDone, .ref y_isReached, .ref y_newUnits, .ref y_isNew])), (ya_units, .inl (cA 1, 5120, .inl y_units)), (ya_isThere, .inl (cA 3, 5120, .inl y_isThere)), (ya_filled, .inl (cA 1, 1280, .inl y2_ya_filled)), (ya_isDone, .inl (cA 3, 1280, .inl f39))] H := by rw [hy40]; exact hP
      have hD : va_D A [(y, .inr (6, [.ref y_space, .ref y_offset, .ref y_length, .ref ya_units, .ref ya_isThere, .int (z_i y_levels), .ref y_level, .int (z_i y_lines), .ref y_lineLevel, .ref y_lineUnits, .ref y_lineFrom, .ref y_lineMany, .ref y_isClosed, .ref y_insides, .ref y_parent, .ref y_isHigh, .ref y_inBits, .int (z_i y_sides), .ref y_side, .ref y_sideA, .ref y_sideB, .int (z_i y_lineSpace), .ref y_wasThere, .ref y_leads, .ref y_isLed, .ref y_isOn, .ref y_goesTo, .ref y_stream, .ref ya_filled, .ref ya_isDone, .ref y_isReached, .ref y_newUnits, .ref y_isNew])), (ya_units, .inl (cA 1, 5120, .inl y_units)), (ya_isThere, .inl (cA 3, 5120, .inl y_isThere)), (ya_filled, .inl (cA 1, 1280, .inl y2_ya_filled)), (ya_isDone, .inl (cA 3, 1280, .inl f39))] := by rw [hy40]; exact hD
      refine lv_aload_n hx hb dX8_filledOf_35 rfl (lv_at hl 1 rfl) ?_
      refine va_get (D := D) (ci := 6) (v := .ref ya_filled) (C := RX8) (T := TX8) (N := 33) hx hb hts (fun w h => List.mem_cons_of_mem _ (List.mem_append_right _ h)) hown hK hP 0 rfl rfl 28 (by decide) (hts (.fieldLink RX8 84 "ContourSheetsModel" "filled" "[I") (by decide +kernel)) (fun _ h9 => h9) rfl dX8_filledOf_36 ?_
      refine lv_iload_n hx hb dX8_filledOf_39 rfl (lv_at hl 0 rfl) ?_
      refine lv_aload_n hx hb dX8_filledOf_40 rfl (lv_at hl 1 rfl) ?_
      refine va_get (D := D) (ci := 6) (v := .ref ya_isDone) (C := RX8) (T := TX8) (N := 33) hx hb hts (fun w h => List.mem_cons_of_mem _ (List.mem_append_right _ h)) hown hK hP 0 rfl rfl 29 (by decide) (hts (.fieldLink RX8 87 "ContourSheetsModel" "isDone" "[Z") (by decide +kernel)) (fun _ h9 => h9) rfl dX8_filledOf_41 ?_
      refine lv_iload_n hx hb dX8_filledOf_44 rfl (lv_at hl 0 rfl) ?_
      refine lx_zald hx hb hK hP 4 3 rfl rfl (by decide) hi38.1 hi38.2 dX8_filledOf_45 ?_
      refine lx_if_ne (tgt := 75) hx hb dX8_filledOf_46 (by decide) (z_in_g _ _) (fun hc => ?_) (fun hc => ?_)
      · have hv := hv.1 hc
        refine lx_ldc (a := 2147483647) hx hb hown (hts (.constant RX8 108 (2147483647)) (by decide +kernel)) (by decide) dX8_filledOf_75 ?_
        refine lx_iast hx hb hK hP hD hS 3 1 rfl rfl (by decide) hi38.1 hi38.2 dX8_filledOf_77 (fun H locs hP hD hS => ?_)
        obtain ⟨f41, hy42⟩ : ∃ y : Nat → Int32, y = z_s y2_ya_filled x2_3 2147483647 := ⟨_, rfl⟩
        have hv := hv f41 hy42
        have hP : va_P D vwCl [(y, .inr (6, [.ref y_space, .ref y_offset, .ref y_length, .ref ya_units, .ref ya_isThere, .int (z_i y_levels), .ref y_level, .int (z_i y_lines), .ref y_lineLevel, .ref y_lineUnits, .ref y_lineFrom, .ref y_lineMany, .ref y_isClosed, .ref y_insides, .ref y_parent, .ref y_isHigh, .ref y_inBits, .int (z_i y_sides), .ref y_side, .ref y_sideA, .ref y_sideB, .int (z_i y_lineSpace), .ref y_wasThere, .ref y_leads, .ref y_isLed, .ref y_isOn, .ref y_goesTo, .ref y_stream, .ref ya_filled, .ref ya_isDone, .ref y_isReached, .ref y_newUnits, .ref y_isNew])), (ya_units, .inl (cA 1, 5120, .inl y_units)), (ya_isThere, .inl (cA 3, 5120, .inl y_isThere)), (ya_filled, .inl (cA 1, 1280, .inl f41)), (ya_isDone, .inl (cA 3, 1280, .inl f39))] H := by rw [hy42]; exact hP
        have hD : va_D A [(y, .inr (6, [.ref y_space, .ref y_offset, .ref y_length, .ref ya_units, .ref ya_isThere, .int (z_i y_levels), .ref y_level, .int (z_i y_lines), .ref y_lineLevel, .ref y_lineUnits, .ref y_lineFrom, .ref y_lineMany, .ref y_isClosed, .ref y_insides, .ref y_parent, .ref y_isHigh, .ref y_inBits, .int (z_i y_sides), .ref y_side, .ref y_sideA, .ref y_sideB, .int (z_i y_lineSpace), .ref y_wasThere, .ref y_leads, .ref y_isLed, .ref y_isOn, .ref y_goesTo, .ref y_stream, .ref ya_filled, .ref ya_isDone, .ref y_isReached, .ref y_newUnits, .ref y_isNew])), (ya_units, .inl (cA 1, 5120, .inl y_units)), (ya_isThere, .inl (cA 3, 5120, .inl y_isThere)), (ya_filled, .inl (cA 1, 1280, .inl f41)), (ya_isDone, .inl (cA 3, 1280, .inl f39))] := by rw [hy42]; exact hD
        refine lv_iinc (v := z_i (x2_3 + 1)) (lv' := [(3, .int (z_i (x2_3 + 1))), (0, .ref y), (1, .int (z_i gi)), (2, .int (z_i n))]) hx hb dX8_filledOf_78 hl (k := 0) rfl (z_i_add _ _) (by decide) rfl (fun ls hl => ?_)
        refine lv_goto (tgt := 2) hx hb dX8_filledOf_81 (by decide) ?_
        exact hv _ _ ls hP hD hS (lv_sub hl [0, 1, 2, 3] rfl)
      · have hv := hv.2 hc
        refine lv_aload_n hx hb dX8_filledOf_49 rfl (lv_at hl 1 rfl) ?_
        refine lv_iload_n hx hb dX8_filledOf_50 rfl (lv_at hl 2 rfl) ?_
        refine lv_iload_n hx hb dX8_filledOf_51 rfl (lv_at hl 0 rfl) ?_
        obtain ⟨hp43, hv⟩ := hv
        obtain ⟨hp44, hv⟩ := hv
        refine va_calli (va_runV (As := [.int (z_i gi), .int (z_i x2_3)]) (rest := [.int (z_i x2_3), .ref ya_filled]) ⟨hx, hb, hml, hown, hts⟩ (mt_X8_neighbours l D cA y y_space y_offset y_length ya_units ya_isThere y_isThere y_levels y_level y_lines y_lineLevel y_lineUnits y_lineFrom y_lineMany y_isClosed y_insides y_parent y_isHigh y_inBits y_sides y_side y_sideA y_sideB y_lineSpace y_wasThere y_leads y_isLed y_isOn y_goesTo y_stream ya_filled ya_isDone y_isReached y_newUnits y_isNew gi x2_3 h_y_levels h_y_lines h_y_sides h_y_lineSpace h_gi h_x2_3 hp43 hp44) (cwV 2 hts gX8_filledOf_X8_neighbours rfl rfl rfl (by decide +kernel) ⟨Nat.le_of_ble_eq_true rfl, Nat.le_of_ble_eq_true rfl⟩) ⟨z_bl0, va_recv hK hP (ci := 6) (q0 := 0) rfl rfl, fun U hU hW => ⟨rfl, z_b0 hK (hP.sub (ws' := [(y, .inr (6, [.ref y_space, .ref y_offset, .ref y_length, .ref ya_units, .ref ya_isThere, .int (z_i y_levels), .ref y_level, .int (z_i y_lines), .ref y_lineLevel, .ref y_lineUnits, .ref y_lineFrom, .ref y_lineMany, .ref y_isClosed, .ref y_insides, .ref y_parent, .ref y_isHigh, .ref y_inBits, .int (z_i y_sides), .ref y_side, .ref y_sideA, .ref y_sideB, .int (z_i y_lineSpace), .ref y_wasThere, .ref y_leads, .ref y_isLed, .ref y_isOn, .ref y_goesTo, .ref y_stream, .ref ya_filled, .ref ya_isDone, .ref y_isReached, .ref y_newUnits, .ref y_isNew])), (ya_isThere, .inl (cA 3, 5120, .inl y_isThere))]) [0, 2] rfl) hU hW⟩⟩ rfl rfl hl.1 rfl (lv_room (Nat.le_of_ble_eq_true rfl)) dX8_filledOf_52 ⟨Nat.zero_le _, Nat.zero_le _⟩) hS (fun q _ h => h.elim) (fun q h => h.elim) (fun r0 u t H locs ht hvm hw hB hz1 hk1 hS => ?_)
        obtain ⟨r45, rfl, h_r45, hw⟩ := hw
        have hP := z_P_all hP hk1
        have hv := hv r45 h_r45 hw
        refine lv_bipush (v := z_i 8) hx hb dX8_filledOf_55 (by decide) ?_
        refine lx_icmp_ge (tgt := 75) hx hb dX8_filledOf_57 (by decide) h_r45 (show z_in 8 from ⟨by decide, by decide⟩) (fun hc => ?_) (fun hc => ?_)
        · have hv := hv.1 hc
          refine lx_ldc (a := 2147483647) hx hb hown (hts (.constant RX8 108 (2147483647)) (by decide +kernel)) (by decide) dX8_filledOf_75 ?_
          refine lx_iast hx hb hK hP hD hS 3 1 rfl rfl (by decide) hi38.1 hi38.2 dX8_filledOf_77 (fun H locs hP hD hS => ?_)
          obtain ⟨f46, hy47⟩ : ∃ y : Nat → Int32, y = z_s y2_ya_filled x2_3 2147483647 := ⟨_, rfl⟩
          have hv := hv f46 hy47
          have hP : va_P D vwCl [(y, .inr (6, [.ref y_space, .ref y_offset, .ref y_length, .ref ya_units, .ref ya_isThere, .int (z_i y_levels), .ref y_level, .int (z_i y_lines), .ref y_lineLevel, .ref y_lineUnits, .ref y_lineFrom, .ref y_lineMany, .ref y_isClosed, .ref y_insides, .ref y_parent, .ref y_isHigh, .ref y_inBits, .int (z_i y_sides), .ref y_side, .ref y_sideA, .ref y_sideB, .int (z_i y_lineSpace), .ref y_wasThere, .ref y_leads, .ref y_isLed, .ref y_isOn, .ref y_goesTo, .ref y_stream, .ref ya_filled, .ref ya_isDone, .ref y_isReached, .ref y_newUnits, .ref y_isNew])), (ya_units, .inl (cA 1, 5120, .inl y_units)), (ya_isThere, .inl (cA 3, 5120, .inl y_isThere)), (ya_filled, .inl (cA 1, 1280, .inl f46)), (ya_isDone, .inl (cA 3, 1280, .inl f39))] H := by rw [hy47]; exact hP
          have hD : va_D A [(y, .inr (6, [.ref y_space, .ref y_offset, .ref y_length, .ref ya_units, .ref ya_isThere, .int (z_i y_levels), .ref y_level, .int (z_i y_lines), .ref y_lineLevel, .ref y_lineUnits, .ref y_lineFrom, .ref y_lineMany, .ref y_isClosed, .ref y_insides, .ref y_parent, .ref y_isHigh, .ref y_inBits, .int (z_i y_sides), .ref y_side, .ref y_sideA, .ref y_sideB, .int (z_i y_lineSpace), .ref y_wasThere, .ref y_leads, .ref y_isLed, .ref y_isOn, .ref y_goesTo, .ref y_stream, .ref ya_filled, .ref ya_isDone, .ref y_isReached, .ref y_newUnits, .ref y_isNew])), (ya_units, .inl (cA 1, 5120, .inl y_units)), (ya_isThere, .inl (cA 3, 5120, .inl y_isThere)), (ya_filled, .inl (cA 1, 1280, .inl f46)), (ya_isDone, .inl (cA 3, 1280, .inl f39))] := by rw [hy47]; exact hD
          refine lv_iinc (v := z_i (x2_3 + 1)) (lv' := [(3, .int (z_i (x2_3 + 1))), (0, .ref y), (1, .int (z_i gi)), (2, .int (z_i n))]) hx hb dX8_filledOf_78 hl (k := 0) rfl (z_i_add _ _) (by decide) rfl (fun ls hl => ?_)
          refine lv_goto (tgt := 2) hx hb dX8_filledOf_81 (by decide) ?_
          exact hv _ _ ls hP hD hS (lv_sub hl [0, 1, 2, 3] rfl)
        · have hv := hv.2 hc
          refine lv_aload_n hx hb dX8_filledOf_60 rfl (lv_at hl 1 rfl) ?_
          refine va_get (D := D) (ci := 6) (v := .ref ya_units) (C := RX8) (T := TX8) (N := 33) hx hb hts (fun w h => List.mem_cons_of_mem _ (List.mem_append_right _ h)) hown hK hP 0 rfl rfl 3 (by decide) (hts (.fieldLink RX8 19 "ContourSheetsModel" "units" "[I") (by decide +kernel)) (fun _ h9 => h9) rfl dX8_filledOf_61 ?_
          refine lv_sipush (v := z_i 1280) hx hb dX8_filledOf_64 (by decide) ?_
          refine lv_iload_n hx hb dX8_filledOf_67 rfl (lv_at hl 2 rfl) ?_
          refine lx_imul hx hb dX8_filledOf_68 ?_
          refine lv_iload_n hx hb dX8_filledOf_69 rfl (lv_at hl 0 rfl) ?_
          refine lx_iadd hx hb dX8_filledOf_70 ?_
          refine lx_iald hx hb hK hP 1 1 rfl rfl (by decide) hi25.1 hi25.2 dX8_filledOf_71 ?_
          refine lv_goto (tgt := 77) hx hb dX8_filledOf_72 (by decide) ?_
          refine lx_iast hx hb hK hP hD hS 3 1 rfl rfl (by decide) hi38.1 hi38.2 dX8_filledOf_77 (fun H locs hP hD hS => ?_)
          obtain ⟨f48, hy49⟩ : ∃ y : Nat → Int32, y = z_s y2_ya_filled x2_3 (z_g y_units ((1280 * gi) + x2_3)) := ⟨_, rfl⟩
          have hv := hv f48 hy49
          have hP : va_P D vwCl [(y, .inr (6, [.ref y_space, .ref y_offset, .ref y_length, .ref ya_units, .ref ya_isThere, .int (z_i y_levels), .ref y_level, .int (z_i y_lines), .ref y_lineLevel, .ref y_lineUnits, .ref y_lineFrom, .ref y_lineMany, .ref y_isClosed, .ref y_insides, .ref y_parent, .ref y_isHigh, .ref y_inBits, .int (z_i y_sides), .ref y_side, .ref y_sideA, .ref y_sideB, .int (z_i y_lineSpace), .ref y_wasThere, .ref y_leads, .ref y_isLed, .ref y_isOn, .ref y_goesTo, .ref y_stream, .ref ya_filled, .ref ya_isDone, .ref y_isReached, .ref y_newUnits, .ref y_isNew])), (ya_units, .inl (cA 1, 5120, .inl y_units)), (ya_isThere, .inl (cA 3, 5120, .inl y_isThere)), (ya_filled, .inl (cA 1, 1280, .inl f48)), (ya_isDone, .inl (cA 3, 1280, .inl f39))] H := by rw [hy49]; exact hP
          have hD : va_D A [(y, .inr (6, [.ref y_space, .ref y_offset, .ref y_length, .ref ya_units, .ref ya_isThere, .int (z_i y_levels), .ref y_level, .int (z_i y_lines), .ref y_lineLevel, .ref y_lineUnits, .ref y_lineFrom, .ref y_lineMany, .ref y_isClosed, .ref y_insides, .ref y_parent, .ref y_isHigh, .ref y_inBits, .int (z_i y_sides), .ref y_side, .ref y_sideA, .ref y_sideB, .int (z_i y_lineSpace), .ref y_wasThere, .ref y_leads, .ref y_isLed, .ref y_isOn, .ref y_goesTo, .ref y_stream, .ref ya_filled, .ref ya_isDone, .ref y_isReached, .ref y_newUnits, .ref y_isNew])), (ya_units, .inl (cA 1, 5120, .inl y_units)), (ya_isThere, .inl (cA 3, 5120, .inl y_isThere)), (ya_filled, .inl (cA 1, 1280, .inl f48)), (ya_isDone, .inl (cA 3, 1280, .inl f39))] := by rw [hy49]; exact hD
          refine lv_iinc (v := z_i (x2_3 + 1)) (lv' := [(3, .int (z_i (x2_3 + 1))), (0, .ref y), (1, .int (z_i gi)), (2, .int (z_i n))]) hx hb dX8_filledOf_78 hl (k := 0) rfl (z_i_add _ _) (by decide) rfl (fun ls hl => ?_)
          refine lv_goto (tgt := 2) hx hb dX8_filledOf_81 (by decide) ?_
          exact hv _ _ ls hP hD hS (lv_sub hl [0, 1, 2, 3] rfl)
set_option maxHeartbeats 4000000 in
set_option maxRecDepth 100000 in
theorem mt_X8_filledOf (l : Launch) (D : va_G) (cA : Nat → ClassId) (y : Nat) (y_space : Nat) (y_offset : Nat) (y_length : Nat) (ya_units : Nat) (y_units : Nat → Int32) (ya_isThere : Nat) (y_isThere : Nat → Int32) (y_levels : Int) (y_level : Nat) (y_lines : Int) (y_lineLevel : Nat) (y_lineUnits : Nat) (y_lineFrom : Nat) (y_lineMany : Nat) (y_isClosed : Nat) (y_insides : Nat) (y_parent : Nat) (y_isHigh : Nat) (y_inBits : Nat) (y_sides : Int) (y_side : Nat) (y_sideA : Nat) (y_sideB : Nat) (y_lineSpace : Int) (y_wasThere : Nat) (y_leads : Nat) (y_isLed : Nat) (y_isOn : Nat) (y_goesTo : Nat) (y_stream : Nat) (ya_filled : Nat) (y_filled : Nat → Int32) (ya_isDone : Nat) (y_isDone : Nat → Int32) (y_isReached : Nat) (y_newUnits : Nat) (y_isNew : Nat) (gi : Int) (n : Int) (h_y_levels : z_in y_levels) (h_y_lines : z_in y_lines) (h_y_sides : z_in y_sides) (h_y_lineSpace : z_in y_lineSpace) (h_gi : z_in gi) (h_n : z_in n) (hp1 : 0 ≤ gi ∧ gi < 4) (hp2 : q_bd y_units) (hp3 : q_th y_isThere gi n = true) : Met l yX8_filledOf wsX8_filledOf ({ frames := 4, cells := 0, slots := 0, locals := 94 } : Room) (va_Pc [.ref y, .int (z_i gi), .int (z_i n)] (z_M0 D cA [(y, .inr (6, [.ref y_space, .ref y_offset, .ref y_length, .ref ya_units, .ref ya_isThere, .int (z_i y_levels), .ref y_level, .int (z_i y_lines), .ref y_lineLevel, .ref y_lineUnits, .ref y_lineFrom, .ref y_lineMany, .ref y_isClosed, .ref y_insides, .ref y_parent, .ref y_isHigh, .ref y_inBits, .int (z_i y_sides), .ref y_side, .ref y_sideA, .ref y_sideB, .int (z_i y_lineSpace), .ref y_wasThere, .ref y_leads, .ref y_isLed, .ref y_isOn, .ref y_goesTo, .ref y_stream, .ref ya_filled, .ref ya_isDone, .ref y_isReached, .ref y_newUnits, .ref y_isNew])), (ya_units, .inl (cA 1, 5120, .inl y_units)), (ya_isThere, .inl (cA 3, 5120, .inl y_isThere)), (ya_filled, .inl (cA 1, 1280, .inl y_filled)), (ya_isDone, .inl (cA 3, 1280, .inl y_isDone))])) (va_Qi (z_mi (fun v (u : (Nat → Int32) × (Nat → Int32)) => (fun (r : Int) (y_filled' : (Nat → Int32)) (y_isDone' : (Nat → Int32)) => w_ans 1 (q_th y_isThere gi) (q_at y_units y_isThere gi) n r) v u.1 u.2)) (fun (u : (Nat → Int32) × (Nat → Int32)) t => va_P D vwCl [(y, .inr (6, [.ref y_space, .ref y_offset, .ref y_length, .ref ya_units, .ref ya_isThere, .int (z_i y_levels), .ref y_level, .int (z_i y_lines), .ref y_lineLevel, .ref y_lineUnits, .ref y_lineFrom, .ref y_lineMany, .ref y_isClosed, .ref y_insides, .ref y_parent, .ref y_isHigh, .ref y_inBits, .int (z_i y_sides), .ref y_side, .ref y_sideA, .ref y_sideB, .int (z_i y_lineSpace), .ref y_wasThere, .ref y_leads, .ref y_isLed, .ref y_isOn, .ref y_goesTo, .ref y_stream, .ref ya_filled, .ref ya_isDone, .ref y_isReached, .ref y_newUnits, .ref y_isNew])), (ya_units, .inl (cA 1, 5120, .inl y_units)), (ya_isThere, .inl (cA 3, 5120, .inl y_isThere)), (ya_filled, .inl (cA 1, 1280, .inl u.1)), (ya_isDone, .inl (cA 3, 1280, .inl u.2))] t.heap) (z_A [(y, .inr (6, [.ref y_space, .ref y_offset, .ref y_length, .ref ya_units, .ref ya_isThere, .int (z_i y_levels), .ref y_level, .int (z_i y_lines), .ref y_lineLevel, .ref y_lineUnits, .ref y_lineFrom, .ref y_lineMany, .ref y_isClosed, .ref y_insides, .ref y_parent, .ref y_isHigh, .ref y_inBits, .int (z_i y_sides), .ref y_side, .ref y_sideA, .ref y_sideB, .int (z_i y_lineSpace), .ref y_wasThere, .ref y_leads, .ref y_isLed, .ref y_isOn, .ref y_goesTo, .ref y_stream, .ref ya_filled, .ref ya_isDone, .ref y_isReached, .ref y_newUnits, .ref y_isNew])), (ya_units, .inl (cA 1, 5120, .inl y_units)), (ya_isThere, .inl (cA 3, 5120, .inl y_isThere)), (ya_filled, .inl (cA 1, 1280, .inl y_filled)), (ya_isDone, .inl (cA 3, 1280, .inl y_isDone))])) 0 0 (z_A [(y, .inr (6, [.ref y_space, .ref y_offset, .ref y_length, .ref ya_units, .ref ya_isThere, .int (z_i y_levels), .ref y_level, .int (z_i y_lines), .ref y_lineLevel, .ref y_lineUnits, .ref y_lineFrom, .ref y_lineMany, .ref y_isClosed, .ref y_insides, .ref y_parent, .ref y_isHigh, .ref y_inBits, .int (z_i y_sides), .ref y_side, .ref y_sideA, .ref y_sideB, .int (z_i y_lineSpace), .ref y_wasThere, .ref y_leads, .ref y_isLed, .ref y_isOn, .ref y_goesTo, .ref y_stream, .ref ya_filled, .ref ya_isDone, .ref y_isReached, .ref y_newUnits, .ref y_isNew])), (ya_units, .inl (cA 1, 5120, .inl y_units)), (ya_isThere, .inl (cA 3, 5120, .inl y_isThere)), (ya_filled, .inl (cA 1, 1280, .inl y_filled)), (ya_isDone, .inl (cA 3, 1280, .inl y_isDone))]) := by
  refine wk_X8_filledOf l D cA y y_space y_offset y_length ya_units y_units ya_isThere y_isThere y_levels y_level y_lines y_lineLevel y_lineUnits y_lineFrom y_lineMany y_isClosed y_insides y_parent y_isHigh y_inBits y_sides y_side y_sideA y_sideB y_lineSpace y_wasThere y_leads y_isLed y_isOn y_goesTo y_stream ya_filled y_filled ya_isDone y_isDone y_isReached y_newUnits y_isNew gi n h_y_levels h_y_lines h_y_sides h_y_lineSpace h_gi h_n (fun (r : Int) (y_filled' : (Nat → Int32)) (y_isDone' : (Nat → Int32)) => w_ans 1 (q_th y_isThere gi) (q_at y_units y_isThere gi) n r) ?_
  unfold vc_X8_filledOf
  have hU : ∀ p, (q_th y_isThere gi) p = true → -8388608 ≤ (q_at y_units y_isThere gi) p ∧ (q_at y_units y_isThere gi) p ≤ 8388608 := fun p hp => q_bd_at hp2 hp1.1 hp1.2 hp
  have hn := q_th_in hp3
  have hr : ∀ q, (q_th y_isThere gi) q = true → 0 ≤ q ∧ q < 1280 := fun q h => q_th_in h
  have tk : ∀ k : Int, 0 ≤ k → k < 1280 → ((q_th y_isThere gi) k = true ↔ z_g y_isThere (1280 * gi + k) ≠ 0) := fun k k0 k1 => by
    unfold q_th; rw [decide_eq_true_iff]; exact ⟨fun h => h.2.2, fun h => ⟨k0, k1, h⟩⟩
  have gG : ∀ q, m_nc (q_th y_isThere gi) q < 8 → w_goal 1 (q_th y_isThere gi) (q_at y_units y_isThere gi) n q := fun q h => Or.inl ⟨by decide, h⟩
  have gG' : ∀ q, w_goal 1 (q_th y_isThere gi) (q_at y_units y_isThere gi) n q → m_nc (q_th y_isThere gi) q < 8 := fun q h => by
    rcases h with h | h
    · exact h.2
    · exact absurd h.1 (by decide)
  have hcon : ∀ q, (q_th y_isThere gi) q = true → w_con (q_th y_isThere gi) (fun q => 1 * (q_at y_units y_isThere gi) q) (w_goal 1 (q_th y_isThere gi) (q_at y_units y_isThere gi) n) q 8388608 := fun q hq => by
    obtain ⟨q1, m1, h1, h2⟩ := w_rim (K := fun q => 1 * (q_at y_units y_isThere gi) q) (c := 8388608) hr (fun q h => by show 1 * _ ≤ _; have := hU q h; omega) 32 q hq (by have := hr q hq; omega)
    exact ⟨q1, m1, gG _ h1, h2⟩
  intro L2 hL2
  suffices H : ∀ (d k : Nat) (fl dn : Nat → Int32), k + d = 1280 → (∀ q : Int, 0 ≤ q → q < k → (z_g dn q ≠ 0 ↔ ¬ (q_th y_isThere gi) q = true) ∧ ((q_th y_isThere gi) q = true → (m_nc (q_th y_isThere gi) q < 8 → z_g fl q = (q_at y_units y_isThere gi) q) ∧ (8 ≤ m_nc (q_th y_isThere gi) q → z_g fl q = 2147483647))) → L2 k fl dn from H 1280 0 _ _ rfl (fun q _ b => absurd b (by omega))
  intro d
  induction d with
  | zero =>
    intro k fl dn hk hd
    obtain rfl : k = 1280 := by omega
    refine hL2 _ _ _ ⟨by omega, by omega⟩ ⟨fun _ => ?_, fun h => absurd h (by omega)⟩
    intro L84 hL84
    suffices M : ∀ (d : Nat) (z : Int) (fl dn : Nat → Int32), c_z dn 1280 + 1 ≤ d → (∀ q : Int, 0 ≤ q → q < 1280 → ¬ (q_th y_isThere gi) q = true → z_g dn q ≠ 0) → dj_I (q_th y_isThere gi) (fun q => 1 * (q_at y_units y_isThere gi) q) (w_goal 1 (q_th y_isThere gi) (q_at y_units y_isThere gi) n) z 8 (fun q => z_g fl q) (fun q => (q_th y_isThere gi) q = true ∧ z_g dn q ≠ 0) → L84 fl dn by
      refine M 1281 0 fl dn (by have := c_z_le dn 1280; omega) (fun q a b h => (hd q a (by omega)).1.mpr h) ⟨?_, ?_, ?_⟩
      · rintro q ⟨h1, h2⟩
        have := hr q h1
        exact absurd h1 ((hd q this.1 (by omega)).1.mp h2)
      · intro q h1 h2
        have hq := hr q h1
        have h3 := (hd q hq.1 (by omega)).2 h1
        refine ⟨?_, fun hG => ?_⟩
        · by_cases h8 : m_nc (q_th y_isThere gi) q < 8
          · right
            show w_con _ _ _ _ (z_g fl q)
            rw [h3.1 h8]
            exact ⟨q, 0, gG q h8, rfl, h1, by show 1 * _ ≤ _; omega⟩
          · exact Or.inl (h3.2 (by omega))
        · show z_g fl q ≤ 1 * _
          rw [h3.1 (gG' q hG)]; omega
      · rintro o ⟨h1, h2⟩
        have := hr o h1
        exact absurd h1 ((hd o this.1 (by omega)).1.mp h2)
    clear hd hL2 L2
    intro d
    induction d with
    | zero => intro z fl dn h; exact absurd h (by omega)
    | succ d ih =>
      intro z fl dn hc hdn I
      refine hL84 _ _ ⟨hn, fun h => ?_, fun h0 => ?_⟩
      · refine Or.inl ⟨z_g fl n, (I.1 n ⟨hp3, h⟩).2, by omega⟩
      · intro L98 hL98
        suffices S : ∀ (d2 k : Nat) (o : Int), k + d2 = 1280 → (o = -1 ∧ (∀ q : Int, 0 ≤ q → q < k → z_g dn q ≠ 0) ∨ (0 ≤ o ∧ o < k) ∧ z_g dn o = 0 ∧ ∀ q : Int, 0 ≤ q → q < k → z_g dn q = 0 → z_g fl o ≤ z_g fl q) → L98 k o from S 1280 0 (-1) rfl (Or.inl ⟨rfl, fun q _ h2 => absurd h2 (by omega)⟩)
        intro d2
        induction d2 with
        | zero =>
          intro k o hk ho
          obtain rfl : k = 1280 := by omega
          have ho2 : (0 ≤ o ∧ o < 1280) ∧ z_g dn o = 0 ∧ ∀ q : Int, 0 ≤ q → q < 1280 → z_g dn q = 0 → z_g fl o ≤ z_g fl q := by
            rcases ho with ⟨_, h⟩ | h
            · exact absurd h0 (h n hn.1 (by omega))
            · exact ⟨⟨h.1.1, by have := h.1.2; omega⟩, h.2.1, fun q a b => h.2.2 q a (by omega)⟩
          obtain ⟨hoi, hoz, hom⟩ := ho2
          have hTo : (q_th y_isThere gi) o = true := by
            apply Classical.byContradiction
            intro h
            exact hdn o hoi.1 hoi.2 h hoz
          refine hL98 _ _ ⟨by omega, by omega⟩ ⟨by omega, by omega⟩ ⟨fun _ => ⟨hoi, ?_⟩, fun h => absurd h (by omega)⟩
          rintro f3 rfl L155 hL155
          have hg3 : ∀ q : Int, 0 ≤ q → z_g (z_s dn o 1) q = if q = o then 1 else z_g dn q := fun q hq => z_gs ⟨by decide, by decide⟩ hoi.1 hq
          have hc3 := (c_z_s hoi.1 hoz 1280).1 (by omega)
          have hP' : ∀ q, ((q_th y_isThere gi) q = true ∧ z_g (z_s dn o 1) q ≠ 0) ↔ ((q_th y_isThere gi) q = true ∧ z_g dn q ≠ 0) ∨ q = o := fun q => by
            constructor
            · rintro ⟨h1, h2⟩
              by_cases e : q = o
              · exact Or.inr e
              · rw [hg3 q (hr q h1).1, if_neg e] at h2; exact Or.inl ⟨h1, h2⟩
            · rintro (⟨h1, h2⟩ | rfl)
              · refine ⟨h1, ?_⟩
                rw [hg3 q (hr q h1).1]
                split
                · decide
                · exact h2
              · refine ⟨hTo, ?_⟩
                rw [hg3 q hoi.1, if_pos rfl]; decide
          have I0 := dj_pop (P' := fun q => (q_th y_isThere gi) q = true ∧ z_g (z_s dn o 1) q ≠ 0) hr I hTo (fun h => h.2 hoz) (fun q h1 h2 => hom q (hr q h1).1 (hr q h1).2 (by
            apply Classical.byContradiction
            intro h
            exact h2 ⟨h1, h⟩)) (hcon o hTo) (by omega) hP'
          have hdn' : ∀ q : Int, 0 ≤ q → q < 1280 → ¬ (q_th y_isThere gi) q = true → z_g (z_s dn o 1) q ≠ 0 := fun q a b h => by
            rw [hg3 q a]
            split
            · decide
            · exact hdn q a b h
          suffices W : ∀ (d1 k : Nat) (fl : Nat → Int32), k + d1 = 8 → dj_I (q_th y_isThere gi) (fun q => 1 * (q_at y_units y_isThere gi) q) (w_goal 1 (q_th y_isThere gi) (q_at y_units y_isThere gi) n) o k (fun q => z_g fl q) (fun q => (q_th y_isThere gi) q = true ∧ z_g (z_s dn o 1) q ≠ 0) → L155 k fl from W 8 0 fl rfl I0
          intro d1
          induction d1 with
          | zero =>
            intro k fl hk I1
            obtain rfl : k = 8 := by omega
            exact hL155 _ _ ⟨by omega, by omega⟩ ⟨fun _ => ih o fl _ (by omega) hdn' I1, fun h => absurd h (by omega)⟩
          | succ d1 ih1 =>
            intro k fl hk I1
            have hk8 : (0 : Int) ≤ k ∧ (k : Int) < 8 := ⟨by omega, by omega⟩
            refine hL155 _ _ ⟨by omega, by omega⟩ ⟨fun h => absurd h (by omega), fun _ => ⟨hp1, hoi, hk8, ?_⟩⟩
            rintro r8 _ h8
            have hin := m_nb_in (q_th y_isThere gi) o k
            refine ⟨fun h => ih1 (k + 1) _ (by omega) (dj_skip I1 (Or.inl (by omega))), fun h => ?_⟩
            have hne : m_nb (q_th y_isThere gi) o k ≠ -1 := by omega
            have hT8 : (q_th y_isThere gi) r8 = true := by rw [h8]; exact (m_nb_th hne).1
            have hi8 := hr r8 hT8
            refine ⟨hi8, fun h1 => ih1 (k + 1) _ (by omega) (dj_skip I1 (Or.inr (by rw [← h8]; exact ⟨hT8, h1⟩))), fun h1 => ⟨⟨by omega, by omega⟩, ?_⟩⟩
            rintro v11 hv11
            rw [← q_at_t hT8] at hv11
            have go : ∀ x : Int, z_in x → x = min (max (1 * (q_at y_units y_isThere gi) r8) (z_g fl o)) (z_g fl r8) → L155 ((k : Int) + 1) (z_s fl r8 x) := fun x hx ex => by
              refine ih1 (k + 1) _ (by omega) (dj_relax hr I1 ((hP' o).mpr (Or.inr rfl)) hk8.1 hk8.2 h8 hne (fun h => h.2 h1) (fun q hq => ?_))
              show z_g (z_s fl r8 x) q = _
              rw [z_gs hx hi8.1 hq, ex]
            have zo := z_in_g fl o
            have z8 := z_in_g fl r8
            have zu := hU r8 hT8
            refine ⟨fun hle => ?_, fun hgt => ⟨fun h2 => ?_, fun h2 => ?_⟩⟩
            · rintro v13 rfl
              refine ⟨fun h2 => ?_, fun h2 => ?_⟩
              · rintro f15 rfl; exact go _ z8 (by omega)
              · rintro f17 rfl; exact go _ zo (by omega)
            · rintro f19 rfl; exact go _ z8 (by omega)
            · rintro f21 rfl; exact go _ ⟨by omega, by omega⟩ (by omega)
        | succ d2 ih2 =>
          intro k o hk ho
          have oin : -1 ≤ o ∧ o < 1280 := by
            rcases ho with ⟨rfl, -⟩ | ⟨h, -⟩
            · omega
            · omega
          have stay : (z_g dn k = 0 → 0 ≤ o ∧ z_g fl o ≤ z_g fl k) → L98 ((k : Int) + 1) o := by
            intro hs2
            refine ih2 (k + 1) o (by omega) ?_
            rcases ho with ⟨h1, h2⟩ | ⟨h1, h2, h3⟩
            · refine Or.inl ⟨h1, fun q hq hqk hz9 => ?_⟩
              by_cases e : q = k
              · rw [e] at hz9
                have := (hs2 hz9).1
                omega
              · exact h2 q hq (by omega) hz9
            · refine Or.inr ⟨⟨by omega, by omega⟩, h2, fun q hq hqk hnq => ?_⟩
              by_cases e : q = k
              · rw [e] at hnq ⊢
                exact (hs2 hnq).2
              · exact h3 q hq (by omega) hnq
          have take : z_g dn k = 0 → (∀ q : Int, 0 ≤ q → q < k → z_g dn q = 0 → z_g fl k ≤ z_g fl q) → L98 ((k : Int) + 1) k := by
            intro h1 h3
            refine ih2 (k + 1) k (by omega) (Or.inr ⟨⟨by omega, by omega⟩, h1, fun q hq hqk hnq => ?_⟩)
            by_cases e : q = k
            · rw [e]; exact Int.le_refl _
            · exact h3 q hq (by omega) hnq
          refine hL98 _ _ ⟨by omega, by omega⟩ ⟨by omega, by omega⟩ ⟨fun h => absurd h (by omega), fun _ => ⟨⟨by omega, by omega⟩, fun h1 => stay (fun h => absurd h h1), fun h1 => ⟨fun o0 => ?_, fun o0 => ⟨⟨by omega, by omega⟩, fun hge => stay (fun _ => ⟨o0, by omega⟩), fun hlt => ?_⟩⟩⟩⟩
          · rcases ho with ⟨_, h4⟩ | ⟨h4, -⟩
            · exact take h1 (fun q a b c => absurd c (h4 q a b))
            · exact absurd h4.1 (by omega)
          · rcases ho with ⟨h4, -⟩ | ⟨h4, h5, h6⟩
            · exact absurd h4 (by omega)
            · exact take h1 (fun q a b c => by have := h6 q a b c; omega)
  | succ d ih =>
    intro k fl dn hk hd
    have hk2 : (0 : Int) ≤ k ∧ (k : Int) < 1280 := ⟨by omega, by omega⟩
    have step : ∀ x y : Int, z_in x → z_in y → (y ≠ 0 ↔ ¬ (q_th y_isThere gi) k = true) → ((q_th y_isThere gi) k = true → (m_nc (q_th y_isThere gi) k < 8 → x = (q_at y_units y_isThere gi) k) ∧ (8 ≤ m_nc (q_th y_isThere gi) k → x = 2147483647)) → L2 ((k : Int) + 1) (z_s fl k x) (z_s dn k y) := by
      intro x y hx hy h1 h2
      refine ih (k + 1) _ _ (by omega) (fun q a b => ?_)
      rw [z_gs hx hk2.1 a, z_gs hy hk2.1 a]
      by_cases e : q = k
      · rw [if_pos e, if_pos e, e]; exact ⟨h1, h2⟩
      · rw [if_neg e, if_neg e]; exact hd q a (by omega)
    have i0 : z_in 0 := ⟨by decide, by decide⟩
    have i1 : z_in 1 := ⟨by decide, by decide⟩
    have iM : z_in 2147483647 := ⟨by decide, by decide⟩
    refine hL2 _ _ _ ⟨by omega, by omega⟩ ⟨fun h => absurd h (by omega), fun _ => ⟨⟨by omega, by omega⟩, fun h0 => ⟨hk2, ?_⟩, fun h0 => ⟨hk2, ?_⟩⟩⟩
    · have hT := (tk k hk2.1 hk2.2).mpr h0
      have y0 : ((0 : Int) ≠ 0 ↔ ¬ (q_th y_isThere gi) k = true) := ⟨fun h => absurd rfl h, fun h => absurd hT h⟩
      rintro f27 rfl
      refine ⟨fun h => absurd (by rw [z_gs i0 hk2.1 hk2.1, if_pos rfl]) h, fun _ => ⟨hp1, hk2, ?_⟩⟩
      rintro r33 _ rfl
      refine ⟨fun h8 => ?_, fun h8 => ?_⟩
      · rintro f34 rfl
        exact step _ _ iM i0 y0 (fun _ => ⟨fun h => absurd h (by omega), fun _ => rfl⟩)
      · rintro f36 rfl
        exact step _ _ (z_in_g _ _) i0 y0 (fun _ => ⟨fun _ => (q_at_t hT).symm, fun h => absurd h (by omega)⟩)
    · have hT : ¬ (q_th y_isThere gi) k = true := fun h => (tk k hk2.1 hk2.2).mp h h0
      rintro f39 rfl
      refine ⟨fun _ => ?_, fun h => absurd h (by rw [z_gs i1 hk2.1 hk2.1, if_pos rfl]; decide)⟩
      rintro f41 rfl
      exact step _ _ iM i1 ⟨fun _ => hT, fun _ => by decide⟩ (fun h => absurd h hT)
