/-! a grid's points: what stands there (a missing one is the least int), whether it is there, numbers, neighbours -/
def g_at (u : Nat → Int32) (n : Int) : Int := if 0 ≤ n ∧ n < 1280 then z_g u n else -2147483648
def g_th (u : Nat → Int32) (n : Int) : Bool := decide (g_at u n ≠ -2147483648)
/-- T: which points are there; U: what stands there -/
def m_no (T : Int → Bool) (i j : Int) : Int := if 0 ≤ i ∧ i < 32 ∧ 0 ≤ j ∧ j < 40 ∧ T (40 * i + j) = true then 40 * i + j else -1
def m_nb (T : Int → Bool) (n k : Int) : Int := m_no T (n / 40 + z_rs k.toNat) (n % 40 + z_cs k.toNat)
def m_ncK (T : Int → Bool) (n : Int) : Nat → Int
  | 0 => 0
  | k + 1 => m_ncK T n k + (if m_nb T n k = -1 then 0 else 1)
def m_nc (T : Int → Bool) (n : Int) : Int := m_ncK T n 8
def m_ab (U : Int → Int) (n o : Int) : Bool := decide (U n > U o ∨ (U n = U o ∧ n > o))
theorem g_at_in {u : Nat → Int32} {n : Int} (h0 : 0 ≤ n) (h1 : n < 1280) : g_at u n = z_g u n := if_pos ⟨h0, h1⟩
theorem g_at_lo {u : Nat → Int32} {n : Int} (h : n < 0) : g_at u n = -2147483648 := if_neg (by omega)
theorem g_at_hi {u : Nat → Int32} {n : Int} (h : n ≥ 1280) : g_at u n = -2147483648 := if_neg (by omega)
theorem g_th_iff {u : Nat → Int32} {n : Int} : g_th u n = true ↔ g_at u n ≠ -2147483648 := by unfold g_th; exact decide_eq_true_iff
theorem g_th_f {u : Nat → Int32} {n : Int} : g_th u n = false ↔ g_at u n = -2147483648 := by unfold g_th; simp
theorem g_at_zin (u : Nat → Int32) (n : Int) : z_in (g_at u n) := by
  unfold g_at
  split
  · exact z_in_g _ _
  · decide
theorem m_no_in (T : Int → Bool) (i j : Int) : -1 ≤ m_no T i j ∧ m_no T i j < 1280 := by unfold m_no; split <;> omega
theorem m_nb_in (T : Int → Bool) (n k : Int) : -1 ≤ m_nb T n k ∧ m_nb T n k < 1280 := m_no_in _ _ _
theorem z_rs_b (k : Nat) : -1 ≤ z_rs k ∧ z_rs k ≤ 1 := by unfold z_rs; split <;> decide
theorem z_cs_b (k : Nat) : -1 ≤ z_cs k ∧ z_cs k ≤ 1 := by unfold z_cs; split <;> decide
theorem m_ncK_b (T : Int → Bool) (n : Int) (k : Nat) : 0 ≤ m_ncK T n k ∧ m_ncK T n k ≤ k := by
  induction k with
  | zero => exact ⟨Int.le_refl _, Int.le_refl _⟩
  | succ k ih => unfold m_ncK; split <;> omega
theorem z_eights {k : Int} (h0 : 0 ≤ k) (h1 : k < 8) : ∃ j : Nat, j < 8 ∧ k = (j : Int) := ⟨k.toNat, by omega, by omega⟩
theorem z_if_b {p : Prop} {_ : Decidable p} : (if p then (1 : Int) else 0) = z_b (decide p) := by unfold z_b; by_cases h : p <;> simp [h]
def vc_X2_unitsOf (g_units : Nat → Int32) (n : Int) (Q : Int → Prop) : Prop :=
((n < 0 → Q (-2147483648)) ∧
(n ≥ 0 → ((n < 1280 → (0 ≤ n ∧ n < 1280) ∧ Q (z_g g_units n)) ∧
(n ≥ 1280 → Q (-2147483648)))))
set_option maxHeartbeats 4000000 in
set_option maxRecDepth 100000 in
theorem wk_X2_unitsOf (l : Launch) (D : va_G) (cA : Nat → ClassId) (g : Nat) (ga_units : Nat) (g_units : Nat → Int32) (ga_lengths : Nat) (g_lengths : Nat → Int32) (ga_offsets : Nat) (g_offsets : Nat → Int32) (g_step : Int) (n : Int) (h_g_step : z_in g_step) (h_n : z_in n) (Q : Int → Prop) (hv : vc_X2_unitsOf g_units n Q) : Met l yX2_unitsOf wsX2_unitsOf ({ frames := 0, cells := 0, slots := 0, locals := 0 } : Room) (va_Pc [.ref g, .int (z_i n)] (z_B0 D cA [(g, .inr (1, [.ref ga_units, .ref ga_lengths, .ref ga_offsets, .int (z_i g_step)])), (ga_units, .inl (cA 1, 1280, .inl g_units)), (ga_lengths, .inl (cA 1, 32, .inl g_lengths)), (ga_offsets, .inl (cA 1, 32, .inl g_offsets))])) (va_Qi (z_ri Q) (fun _ _ => True) (fun _ => False)) 0 0 (fun _ => False) := by
  unfold vc_X2_unitsOf at hv
  refine Met.ofW (cc := cX2_unitsOf) (maxL := 2) (ret := (some .int)) (by decide +kernel) rfl ?_
  intro p e s m args below meth c s₁ B hml hv0
  obtain ⟨rfl, hK, hP⟩ := hv0
  have hx := B.exec
  have hb := B.bytes
  have hr := B.returns
  have hts := atoms_spec (ws := wsX2_unitsOf) B.pre
  have hown : s.vm.findClass RX2 = some m.cls := findClass_of_methodNamed B.named
  have hlocks := B.notSynchronized
  have hS : va_S (fun _ : Nat => False) s.heap s.heap [] := va_S.rf
  have hl := lv_entry ([.ref g, .int (z_i n)]) (n := 2) (Nat.le_of_ble_eq_true rfl)
  rw [lg_entry_eq]
  generalize (lg_sl ([.ref g, .int (z_i n)]) ++ List.replicate (2 - (lg_sl ([.ref g, .int (z_i n)])).length) Slot.unset).toArray = ls at hl ⊢
  have hl : lv_has ls 2 [(0, .ref g), (1, .int (z_i n))] := hl
  refine lv_iload_n hx hb dX2_unitsOf_0 rfl (lv_at hl 1 rfl) ?_
  refine lx_if_lt (tgt := 11) hx hb dX2_unitsOf_1 (by decide) h_n (fun hc => ?_) (fun hc => ?_)
  · have hv := hv.1 hc
    refine lx_ldc (a := (-2147483648)) hx hb hown (hts (.constant RX2 15 (-2147483648)) (by decide +kernel)) (by decide) dX2_unitsOf_11 ?_
    refine lv_goto (tgt := 22) hx hb dX2_unitsOf_13 (by decide) ?_
    exact W.iret (v := z_i (-2147483648)) hx hb hr (fun t ht hW => ⟨⟨z_i (-2147483648), (), rfl, ⟨-2147483648, rfl, (show z_in (-2147483648) from ⟨by decide, by decide⟩), hv⟩, trivial⟩, hS.F ht⟩) hS.2.2 dX2_unitsOf_22
  · have hv := hv.2 hc
    refine lv_iload_n hx hb dX2_unitsOf_4 rfl (lv_at hl 1 rfl) ?_
    refine lv_sipush (v := z_i 1280) hx hb dX2_unitsOf_5 (by decide) ?_
    refine lx_icmp_lt (tgt := 16) hx hb dX2_unitsOf_8 (by decide) h_n (show z_in 1280 from ⟨by decide, by decide⟩) (fun hc => ?_) (fun hc => ?_)
    · have hv := hv.1 hc
      refine lv_aload_n hx hb dX2_unitsOf_16 rfl (lv_at hl 0 rfl) ?_
      refine va_get (D := D) (ci := 1) (v := .ref ga_units) (C := RX2) (T := TX2) (N := 4) hx hb hts (fun w h => List.mem_cons_of_mem _ (List.mem_append_right _ h)) hown hK hP 0 rfl rfl 0 (by decide) (hts (.fieldLink RX2 9 "ContourSheets$Grid" "units" "[I") (by decide +kernel)) (fun _ h9 => h9) rfl dX2_unitsOf_17 ?_
      refine lv_iload_n hx hb dX2_unitsOf_20 rfl (lv_at hl 1 rfl) ?_
      obtain ⟨hi1, hv⟩ := hv
      refine lx_iald hx hb hK hP 1 1 rfl rfl (by decide) hi1.1 hi1.2 dX2_unitsOf_21 ?_
      exact W.iret (v := z_i (z_g g_units n)) hx hb hr (fun t ht hW => ⟨⟨z_i (z_g g_units n), (), rfl, ⟨z_g g_units n, rfl, (z_in_g _ _), hv⟩, trivial⟩, hS.F ht⟩) hS.2.2 dX2_unitsOf_22
    · have hv := hv.2 hc
      refine lx_ldc (a := (-2147483648)) hx hb hown (hts (.constant RX2 15 (-2147483648)) (by decide +kernel)) (by decide) dX2_unitsOf_11 ?_
      refine lv_goto (tgt := 22) hx hb dX2_unitsOf_13 (by decide) ?_
      exact W.iret (v := z_i (-2147483648)) hx hb hr (fun t ht hW => ⟨⟨z_i (-2147483648), (), rfl, ⟨-2147483648, rfl, (show z_in (-2147483648) from ⟨by decide, by decide⟩), hv⟩, trivial⟩, hS.F ht⟩) hS.2.2 dX2_unitsOf_22
set_option maxHeartbeats 4000000 in
set_option maxRecDepth 100000 in
theorem mt_X2_unitsOf (l : Launch) (D : va_G) (cA : Nat → ClassId) (g : Nat) (ga_units : Nat) (g_units : Nat → Int32) (ga_lengths : Nat) (g_lengths : Nat → Int32) (ga_offsets : Nat) (g_offsets : Nat → Int32) (g_step : Int) (n : Int) (h_g_step : z_in g_step) (h_n : z_in n)  : Met l yX2_unitsOf wsX2_unitsOf ({ frames := 0, cells := 0, slots := 0, locals := 0 } : Room) (va_Pc [.ref g, .int (z_i n)] (z_B0 D cA [(g, .inr (1, [.ref ga_units, .ref ga_lengths, .ref ga_offsets, .int (z_i g_step)])), (ga_units, .inl (cA 1, 1280, .inl g_units)), (ga_lengths, .inl (cA 1, 32, .inl g_lengths)), (ga_offsets, .inl (cA 1, 32, .inl g_offsets))])) (va_Qi (z_ri (fun (r : Int) => r = g_at g_units n)) (fun _ _ => True) (fun _ => False)) 0 0 (fun _ => False) := by
  refine wk_X2_unitsOf l D cA g ga_units g_units ga_lengths g_lengths ga_offsets g_offsets g_step n h_g_step h_n (fun (r : Int) => r = g_at g_units n) ?_
  unfold vc_X2_unitsOf
  refine ⟨fun h => (g_at_lo h).symm, fun h => ⟨fun h2 => ⟨⟨h, h2⟩, (g_at_in h h2).symm⟩, fun h2 => (g_at_hi h2).symm⟩⟩
def vc_X2_isThere (g_units : Nat → Int32) (n : Int) (Q : Int → Prop) : Prop :=
((n < 0 → Q 0) ∧
(n ≥ 0 → ((n ≥ 1280 → Q 0) ∧
(n < 1280 → (0 ≤ n ∧ n < 1280) ∧ ((z_g g_units n = -2147483648 → Q 0) ∧
(z_g g_units n ≠ -2147483648 → Q 1))))))
set_option maxHeartbeats 4000000 in
set_option maxRecDepth 100000 in
theorem wk_X2_isThere (l : Launch) (D : va_G) (cA : Nat → ClassId) (g : Nat) (ga_units : Nat) (g_units : Nat → Int32) (ga_lengths : Nat) (g_lengths : Nat → Int32) (ga_offsets : Nat) (g_offsets : Nat → Int32) (g_step : Int) (n : Int) (h_g_step : z_in g_step) (h_n : z_in n) (Q : Int → Prop) (hv : vc_X2_isThere g_units n Q) : Met l yX2_isThere wsX2_isThere ({ frames := 0, cells := 0, slots := 0, locals := 0 } : Room) (va_Pc [.ref g, .int (z_i n)] (z_B0 D cA [(g, .inr (1, [.ref ga_units, .ref ga_lengths, .ref ga_offsets, .int (z_i g_step)])), (ga_units, .inl (cA 1, 1280, .inl g_units)), (ga_lengths, .inl (cA 1, 32, .inl g_lengths)), (ga_offsets, .inl (cA 1, 32, .inl g_offsets))])) (va_Qi (z_ri Q) (fun _ _ => True) (fun _ => False)) 0 0 (fun _ => False) := by
  unfold vc_X2_isThere at hv
  refine Met.ofW (cc := cX2_isThere) (maxL := 2) (ret := (some .boolean)) (by decide +kernel) rfl ?_
  intro p e s m args below meth c s₁ B hml hv0
  obtain ⟨rfl, hK, hP⟩ := hv0
  have hx := B.exec
  have hb := B.bytes
  have hr := B.returns
  have hts := atoms_spec (ws := wsX2_isThere) B.pre
  have hown : s.vm.findClass RX2 = some m.cls := findClass_of_methodNamed B.named
  have hlocks := B.notSynchronized
  have hS : va_S (fun _ : Nat => False) s.heap s.heap [] := va_S.rf
  have hl := lv_entry ([.ref g, .int (z_i n)]) (n := 2) (Nat.le_of_ble_eq_true rfl)
  rw [lg_entry_eq]
  generalize (lg_sl ([.ref g, .int (z_i n)]) ++ List.replicate (2 - (lg_sl ([.ref g, .int (z_i n)])).length) Slot.unset).toArray = ls at hl ⊢
  have hl : lv_has ls 2 [(0, .ref g), (1, .int (z_i n))] := hl
  refine lv_iload_n hx hb dX2_isThere_0 rfl (lv_at hl 1 rfl) ?_
  refine lx_if_lt (tgt := 26) hx hb dX2_isThere_1 (by decide) h_n (fun hc => ?_) (fun hc => ?_)
  · have hv := hv.1 hc
    refine lv_iconst (v := z_i 0) hx hb dX2_isThere_26 rfl ?_
    exact W.zret (v := z_i 0) hx hb hr (by decide) (fun t ht hW => ⟨⟨z_i 0, (), rfl, ⟨0, rfl, (show z_in 0 from ⟨by decide, by decide⟩), hv⟩, trivial⟩, hS.F ht⟩) hS.2.2 dX2_isThere_27
  · have hv := hv.2 hc
    refine lv_iload_n hx hb dX2_isThere_4 rfl (lv_at hl 1 rfl) ?_
    refine lv_sipush (v := z_i 1280) hx hb dX2_isThere_5 (by decide) ?_
    refine lx_icmp_ge (tgt := 26) hx hb dX2_isThere_8 (by decide) h_n (show z_in 1280 from ⟨by decide, by decide⟩) (fun hc => ?_) (fun hc => ?_)
    · have hv := hv.1 hc
      refine lv_iconst (v := z_i 0) hx hb dX2_isThere_26 rfl ?_
      exact W.zret (v := z_i 0) hx hb hr (by decide) (fun t ht hW => ⟨⟨z_i 0, (), rfl, ⟨0, rfl, (show z_in 0 from ⟨by decide, by decide⟩), hv⟩, trivial⟩, hS.F ht⟩) hS.2.2 dX2_isThere_27
    · have hv := hv.2 hc
      refine lv_aload_n hx hb dX2_isThere_11 rfl (lv_at hl 0 rfl) ?_
      refine va_get (D := D) (ci := 1) (v := .ref ga_units) (C := RX2) (T := TX2) (N := 4) hx hb hts (fun w h => List.mem_cons_of_mem _ (List.mem_append_right _ h)) hown hK hP 0 rfl rfl 0 (by decide) (hts (.fieldLink RX2 9 "ContourSheets$Grid" "units" "[I") (by decide +kernel)) (fun _ h9 => h9) rfl dX2_isThere_12 ?_
      refine lv_iload_n hx hb dX2_isThere_15 rfl (lv_at hl 1 rfl) ?_
      obtain ⟨hi1, hv⟩ := hv
      refine lx_iald hx hb hK hP 1 1 rfl rfl (by decide) hi1.1 hi1.2 dX2_isThere_16 ?_
      refine lx_ldc (a := (-2147483648)) hx hb hown (hts (.constant RX2 15 (-2147483648)) (by decide +kernel)) (by decide) dX2_isThere_17 ?_
      refine lx_icmp_eq (tgt := 26) hx hb dX2_isThere_19 (by decide) (z_in_g _ _) (show z_in (-2147483648) from ⟨by decide, by decide⟩) (fun hc => ?_) (fun hc => ?_)
      · have hv := hv.1 hc
        refine lv_iconst (v := z_i 0) hx hb dX2_isThere_26 rfl ?_
        exact W.zret (v := z_i 0) hx hb hr (by decide) (fun t ht hW => ⟨⟨z_i 0, (), rfl, ⟨0, rfl, (show z_in 0 from ⟨by decide, by decide⟩), hv⟩, trivial⟩, hS.F ht⟩) hS.2.2 dX2_isThere_27
      · have hv := hv.2 hc
        refine lv_iconst (v := z_i 1) hx hb dX2_isThere_22 rfl ?_
        refine lv_goto (tgt := 27) hx hb dX2_isThere_23 (by decide) ?_
        exact W.zret (v := z_i 1) hx hb hr (by decide) (fun t ht hW => ⟨⟨z_i 1, (), rfl, ⟨1, rfl, (show z_in 1 from ⟨by decide, by decide⟩), hv⟩, trivial⟩, hS.F ht⟩) hS.2.2 dX2_isThere_27
set_option maxHeartbeats 4000000 in
set_option maxRecDepth 100000 in
theorem mt_X2_isThere (l : Launch) (D : va_G) (cA : Nat → ClassId) (g : Nat) (ga_units : Nat) (g_units : Nat → Int32) (ga_lengths : Nat) (g_lengths : Nat → Int32) (ga_offsets : Nat) (g_offsets : Nat → Int32) (g_step : Int) (n : Int) (h_g_step : z_in g_step) (h_n : z_in n)  : Met l yX2_isThere wsX2_isThere ({ frames := 0, cells := 0, slots := 0, locals := 0 } : Room) (va_Pc [.ref g, .int (z_i n)] (z_B0 D cA [(g, .inr (1, [.ref ga_units, .ref ga_lengths, .ref ga_offsets, .int (z_i g_step)])), (ga_units, .inl (cA 1, 1280, .inl g_units)), (ga_lengths, .inl (cA 1, 32, .inl g_lengths)), (ga_offsets, .inl (cA 1, 32, .inl g_offsets))])) (va_Qi (z_ri (fun (r : Int) => r = z_b (g_th g_units n))) (fun _ _ => True) (fun _ => False)) 0 0 (fun _ => False) := by
  refine wk_X2_isThere l D cA g ga_units g_units ga_lengths g_lengths ga_offsets g_offsets g_step n h_g_step h_n (fun (r : Int) => r = z_b (g_th g_units n)) ?_
  unfold vc_X2_isThere
  refine ⟨fun h => ?_, fun h => ⟨fun h2 => ?_, fun h2 => ⟨⟨h, h2⟩, fun h3 => ?_, fun h3 => ?_⟩⟩⟩
  · rw [g_th_f.mpr (g_at_lo h)]; rfl
  · rw [g_th_f.mpr (g_at_hi h2)]; rfl
  · rw [g_th_f.mpr (by rw [g_at_in h h2]; exact h3)]; rfl
  · rw [g_th_iff.mpr (by rw [g_at_in h h2]; exact h3)]; rfl
def vc_X2_numberOf (g_units : Nat → Int32) (i : Int) (j : Int) (Q : Int → Prop) : Prop :=
((i < 0 → Q (-1)) ∧
(i ≥ 0 → ((i ≥ 32 → Q (-1)) ∧
(i < 32 → ((j < 0 → Q (-1)) ∧
(j ≥ 0 → ((j < 40 → z_in ((40 * i) + j) ∧ (∀ v1 : Int, v1 = (40 * i) + j → (∀ (r4 : Int), z_in r4 → (r4 = z_b (g_th g_units v1)) → ((r4 = 0 → Q (-1)) ∧
(r4 ≠ 0 → Q v1))))) ∧
(j ≥ 40 → Q (-1)))))))))
set_option maxHeartbeats 4000000 in
set_option maxRecDepth 100000 in
theorem wk_X2_numberOf (l : Launch) (D : va_G) (cA : Nat → ClassId) (g : Nat) (ga_units : Nat) (g_units : Nat → Int32) (ga_lengths : Nat) (g_lengths : Nat → Int32) (ga_offsets : Nat) (g_offsets : Nat → Int32) (g_step : Int) (i : Int) (j : Int) (h_g_step : z_in g_step) (h_i : z_in i) (h_j : z_in j) (Q : Int → Prop) (hv : vc_X2_numberOf g_units i j Q) : Met l yX2_numberOf wsX2_numberOf ({ frames := 1, cells := 0, slots := 0, locals := 21 } : Room) (va_Pc [.ref g, .int (z_i i), .int (z_i j)] (z_B0 D cA [(g, .inr (1, [.ref ga_units, .ref ga_lengths, .ref ga_offsets, .int (z_i g_step)])), (ga_units, .inl (cA 1, 1280, .inl g_units)), (ga_lengths, .inl (cA 1, 32, .inl g_lengths)), (ga_offsets, .inl (cA 1, 32, .inl g_offsets))])) (va_Qi (z_ri Q) (fun _ _ => True) (fun _ => False)) 0 0 (fun _ => False) := by
  unfold vc_X2_numberOf at hv
  refine Met.ofW (cc := cX2_numberOf) (maxL := 4) (ret := (some .int)) (by decide +kernel) rfl ?_
  intro p e s m args below meth c s₁ B hml hv0
  obtain ⟨rfl, hK, hP⟩ := hv0
  have hx := B.exec
  have hb := B.bytes
  have hr := B.returns
  have hts := atoms_spec (ws := wsX2_numberOf) B.pre
  have hown : s.vm.findClass RX2 = some m.cls := findClass_of_methodNamed B.named
  have hlocks := B.notSynchronized
  have hS : va_S (fun _ : Nat => False) s.heap s.heap [] := va_S.rf
  have hl := lv_entry ([.ref g, .int (z_i i), .int (z_i j)]) (n := 4) (Nat.le_of_ble_eq_true rfl)
  rw [lg_entry_eq]
  generalize (lg_sl ([.ref g, .int (z_i i), .int (z_i j)]) ++ List.replicate (4 - (lg_sl ([.ref g, .int (z_i i), .int (z_i j)])).length) Slot.unset).toArray = ls at hl ⊢
  have hl : lv_has ls 4 [(0, .ref g), (1, .int (z_i i)), (2, .int (z_i j))] := hl
  refine lv_iload_n hx hb dX2_numberOf_0 rfl (lv_at hl 1 rfl) ?_
  refine lx_if_lt (tgt := 20) hx hb dX2_numberOf_1 (by decide) h_i (fun hc => ?_) (fun hc => ?_)
  · have hv := hv.1 hc
    refine lv_iconst (v := z_i (-1)) hx hb dX2_numberOf_20 rfl ?_
    exact W.iret (v := z_i (-1)) hx hb hr (fun t ht hW => ⟨⟨z_i (-1), (), rfl, ⟨-1, rfl, (show z_in (-1) from ⟨by decide, by decide⟩), hv⟩, trivial⟩, hS.F ht⟩) hS.2.2 dX2_numberOf_21
  · have hv := hv.2 hc
    refine lv_iload_n hx hb dX2_numberOf_4 rfl (lv_at hl 1 rfl) ?_
    refine lv_bipush (v := z_i 32) hx hb dX2_numberOf_5 (by decide) ?_
    refine lx_icmp_ge (tgt := 20) hx hb dX2_numberOf_7 (by decide) h_i (show z_in 32 from ⟨by decide, by decide⟩) (fun hc => ?_) (fun hc => ?_)
    · have hv := hv.1 hc
      refine lv_iconst (v := z_i (-1)) hx hb dX2_numberOf_20 rfl ?_
      exact W.iret (v := z_i (-1)) hx hb hr (fun t ht hW => ⟨⟨z_i (-1), (), rfl, ⟨-1, rfl, (show z_in (-1) from ⟨by decide, by decide⟩), hv⟩, trivial⟩, hS.F ht⟩) hS.2.2 dX2_numberOf_21
    · have hv := hv.2 hc
      refine lv_iload_n hx hb dX2_numberOf_10 rfl (lv_at hl 2 rfl) ?_
      refine lx_if_lt (tgt := 20) hx hb dX2_numberOf_11 (by decide) h_j (fun hc => ?_) (fun hc => ?_)
      · have hv := hv.1 hc
        refine lv_iconst (v := z_i (-1)) hx hb dX2_numberOf_20 rfl ?_
        exact W.iret (v := z_i (-1)) hx hb hr (fun t ht hW => ⟨⟨z_i (-1), (), rfl, ⟨-1, rfl, (show z_in (-1) from ⟨by decide, by decide⟩), hv⟩, trivial⟩, hS.F ht⟩) hS.2.2 dX2_numberOf_21
      · have hv := hv.2 hc
        refine lv_iload_n hx hb dX2_numberOf_14 rfl (lv_at hl 2 rfl) ?_
        refine lv_bipush (v := z_i 40) hx hb dX2_numberOf_15 (by decide) ?_
        refine lx_icmp_lt (tgt := 22) hx hb dX2_numberOf_17 (by decide) h_j (show z_in 40 from ⟨by decide, by decide⟩) (fun hc => ?_) (fun hc => ?_)
        · have hv := hv.1 hc
          refine lv_bipush (v := z_i 40) hx hb dX2_numberOf_22 (by decide) ?_
          refine lv_iload_n hx hb dX2_numberOf_24 rfl (lv_at hl 1 rfl) ?_
          refine lx_imul hx hb dX2_numberOf_25 ?_
          refine lv_iload_n hx hb dX2_numberOf_26 rfl (lv_at hl 2 rfl) ?_
          refine lx_iadd hx hb dX2_numberOf_27 ?_
          obtain ⟨hr2, hv⟩ := hv
          refine lx_topi (fun v1 hy3 => ?_)
          have hv := hv v1 hy3
          have h_v1 : z_in v1 := by rw [hy3]; exact hr2
          refine lv_istore_n (lv' := [(3, .int (z_i v1)), (0, .ref g), (1, .int (z_i i)), (2, .int (z_i j))]) hx hb dX2_numberOf_28 rfl hl (by decide) rfl (fun ls hl => ?_)
          refine lv_aload_n hx hb dX2_numberOf_29 rfl (lv_at hl 1 rfl) ?_
          refine lv_iload_n hx hb dX2_numberOf_30 rfl (lv_at hl 0 rfl) ?_
          refine va_calli (va_runV (As := [.int (z_i v1)]) (rest := []) ⟨hx, hb, hml, hown, hts⟩ (mt_X2_isThere l D cA g ga_units g_units ga_lengths g_lengths ga_offsets g_offsets g_step v1 h_g_step h_v1) (cwV 1 hts gX2_numberOf_X2_isThere rfl rfl rfl (by decide +kernel) ⟨Nat.le_of_ble_eq_true rfl, Nat.le_of_ble_eq_true rfl⟩) ⟨z_bl0, va_recv hK hP (ci := 1) (q0 := 0) rfl rfl, fun U hU hW => ⟨rfl, z_b0 hK hP hU hW⟩⟩ rfl rfl hl.1 rfl (lv_room (Nat.le_of_ble_eq_true rfl)) dX2_numberOf_31 ⟨Nat.zero_le _, Nat.zero_le _⟩) hS (fun q _ h => h.elim) (fun q h => h.elim) (fun r0 u t H locs ht hvm hw hB hz1 hk1 hS => ?_)
          obtain ⟨r4, rfl, h_r4, hw⟩ := hw
          have hP := z_P_all hP hk1
          have hv := hv r4 h_r4 hw
          refine lx_if_eq (tgt := 41) hx hb dX2_numberOf_34 (by decide) h_r4 (fun hc => ?_) (fun hc => ?_)
          · have hv := hv.1 hc
            refine lv_iconst (v := z_i (-1)) hx hb dX2_numberOf_41 rfl ?_
            exact W.iret (v := z_i (-1)) hx hb hr (fun t ht hW => ⟨⟨z_i (-1), (), rfl, ⟨-1, rfl, (show z_in (-1) from ⟨by decide, by decide⟩), hv⟩, trivial⟩, hS.F ht⟩) hS.2.2 dX2_numberOf_42
          · have hv := hv.2 hc
            refine lv_iload_n hx hb dX2_numberOf_37 rfl (lv_at hl 0 rfl) ?_
            refine lv_goto (tgt := 42) hx hb dX2_numberOf_38 (by decide) ?_
            exact W.iret (v := z_i v1) hx hb hr (fun t ht hW => ⟨⟨z_i v1, (), rfl, ⟨v1, rfl, h_v1, hv⟩, trivial⟩, hS.F ht⟩) hS.2.2 dX2_numberOf_42
        · have hv := hv.2 hc
          refine lv_iconst (v := z_i (-1)) hx hb dX2_numberOf_20 rfl ?_
          exact W.iret (v := z_i (-1)) hx hb hr (fun t ht hW => ⟨⟨z_i (-1), (), rfl, ⟨-1, rfl, (show z_in (-1) from ⟨by decide, by decide⟩), hv⟩, trivial⟩, hS.F ht⟩) hS.2.2 dX2_numberOf_21
set_option maxHeartbeats 4000000 in
set_option maxRecDepth 100000 in
theorem mt_X2_numberOf (l : Launch) (D : va_G) (cA : Nat → ClassId) (g : Nat) (ga_units : Nat) (g_units : Nat → Int32) (ga_lengths : Nat) (g_lengths : Nat → Int32) (ga_offsets : Nat) (g_offsets : Nat → Int32) (g_step : Int) (i : Int) (j : Int) (h_g_step : z_in g_step) (h_i : z_in i) (h_j : z_in j)  : Met l yX2_numberOf wsX2_numberOf ({ frames := 1, cells := 0, slots := 0, locals := 21 } : Room) (va_Pc [.ref g, .int (z_i i), .int (z_i j)] (z_B0 D cA [(g, .inr (1, [.ref ga_units, .ref ga_lengths, .ref ga_offsets, .int (z_i g_step)])), (ga_units, .inl (cA 1, 1280, .inl g_units)), (ga_lengths, .inl (cA 1, 32, .inl g_lengths)), (ga_offsets, .inl (cA 1, 32, .inl g_offsets))])) (va_Qi (z_ri (fun (r : Int) => r = m_no (g_th g_units) i j)) (fun _ _ => True) (fun _ => False)) 0 0 (fun _ => False) := by
  refine wk_X2_numberOf l D cA g ga_units g_units ga_lengths g_lengths ga_offsets g_offsets g_step i j h_g_step h_i h_j (fun (r : Int) => r = m_no (g_th g_units) i j) ?_
  unfold vc_X2_numberOf
  unfold m_no
  refine ⟨fun h => (if_neg (by omega)).symm, fun h => ⟨fun h2 => (if_neg (by omega)).symm, fun h2 => ⟨fun h3 => (if_neg (by omega)).symm, fun h3 => ⟨fun h4 => ⟨⟨by omega, by omega⟩, ?_⟩, fun h4 => (if_neg (by omega)).symm⟩⟩⟩⟩
  rintro v rfl r hr rfl
  cases ht : g_th g_units (40 * i + j)
  · exact ⟨fun _ => (if_neg (by simp)).symm, fun q => absurd rfl q⟩
  · exact ⟨fun q => absurd q (by decide), fun _ => (if_pos ⟨h, h2, h3, h4, rfl⟩).symm⟩
def vc_X2_has (g_units : Nat → Int32) (i : Int) (j : Int) (Q : Int → Prop) : Prop :=
(∀ (r1 : Int), z_in r1 → (r1 = m_no (g_th g_units) i j) → ((r1 = -1 → Q 0) ∧
(r1 ≠ -1 → Q 1)))
set_option maxHeartbeats 4000000 in
set_option maxRecDepth 100000 in
theorem wk_X2_has (l : Launch) (D : va_G) (cA : Nat → ClassId) (g : Nat) (ga_units : Nat) (g_units : Nat → Int32) (ga_lengths : Nat) (g_lengths : Nat → Int32) (ga_offsets : Nat) (g_offsets : Nat → Int32) (g_step : Int) (i : Int) (j : Int) (h_g_step : z_in g_step) (h_i : z_in i) (h_j : z_in j) (Q : Int → Prop) (hv : vc_X2_has g_units i j Q) : Met l yX2_has wsX2_has ({ frames := 2, cells := 0, slots := 0, locals := 44 } : Room) (va_Pc [.ref g, .int (z_i i), .int (z_i j)] (z_B0 D cA [(g, .inr (1, [.ref ga_units, .ref ga_lengths, .ref ga_offsets, .int (z_i g_step)])), (ga_units, .inl (cA 1, 1280, .inl g_units)), (ga_lengths, .inl (cA 1, 32, .inl g_lengths)), (ga_offsets, .inl (cA 1, 32, .inl g_offsets))])) (va_Qi (z_ri Q) (fun _ _ => True) (fun _ => False)) 0 0 (fun _ => False) := by
  unfold vc_X2_has at hv
  refine Met.ofW (cc := cX2_has) (maxL := 3) (ret := (some .boolean)) (by decide +kernel) rfl ?_
  intro p e s m args below meth c s₁ B hml hv0
  obtain ⟨rfl, hK, hP⟩ := hv0
  have hx := B.exec
  have hb := B.bytes
  have hr := B.returns
  have hts := atoms_spec (ws := wsX2_has) B.pre
  have hown : s.vm.findClass RX2 = some m.cls := findClass_of_methodNamed B.named
  have hlocks := B.notSynchronized
  have hS : va_S (fun _ : Nat => False) s.heap s.heap [] := va_S.rf
  have hl := lv_entry ([.ref g, .int (z_i i), .int (z_i j)]) (n := 3) (Nat.le_of_ble_eq_true rfl)
  rw [lg_entry_eq]
  generalize (lg_sl ([.ref g, .int (z_i i), .int (z_i j)]) ++ List.replicate (3 - (lg_sl ([.ref g, .int (z_i i), .int (z_i j)])).length) Slot.unset).toArray = ls at hl ⊢
  have hl : lv_has ls 3 [(0, .ref g), (1, .int (z_i i)), (2, .int (z_i j))] := hl
  refine lv_aload_n hx hb dX2_has_0 rfl (lv_at hl 0 rfl) ?_
  refine lv_iload_n hx hb dX2_has_1 rfl (lv_at hl 1 rfl) ?_
  refine lv_iload_n hx hb dX2_has_2 rfl (lv_at hl 2 rfl) ?_
  refine va_calli (va_runV (As := [.int (z_i i), .int (z_i j)]) (rest := []) ⟨hx, hb, hml, hown, hts⟩ (mt_X2_numberOf l D cA g ga_units g_units ga_lengths g_lengths ga_offsets g_offsets g_step i j h_g_step h_i h_j) (cwV 2 hts gX2_has_X2_numberOf rfl rfl rfl (by decide +kernel) ⟨Nat.le_of_ble_eq_true rfl, Nat.le_of_ble_eq_true rfl⟩) ⟨z_bl0, va_recv hK hP (ci := 1) (q0 := 0) rfl rfl, fun U hU hW => ⟨rfl, z_b0 hK hP hU hW⟩⟩ rfl rfl hl.1 rfl (lv_room (Nat.le_of_ble_eq_true rfl)) dX2_has_3 ⟨Nat.zero_le _, Nat.zero_le _⟩) hS (fun q _ h => h.elim) (fun q h => h.elim) (fun r0 u t H locs ht hvm hw hB hz1 hk1 hS => ?_)
  obtain ⟨r1, rfl, h_r1, hw⟩ := hw
  have hP := z_P_all hP hk1
  have hv := hv r1 h_r1 hw
  refine lv_iconst (v := z_i (-1)) hx hb dX2_has_6 rfl ?_
  refine lx_icmp_eq (tgt := 14) hx hb dX2_has_7 (by decide) h_r1 (show z_in (-1) from ⟨by decide, by decide⟩) (fun hc => ?_) (fun hc => ?_)
  · have hv := hv.1 hc
    refine lv_iconst (v := z_i 0) hx hb dX2_has_14 rfl ?_
    exact W.zret (v := z_i 0) hx hb hr (by decide) (fun t ht hW => ⟨⟨z_i 0, (), rfl, ⟨0, rfl, (show z_in 0 from ⟨by decide, by decide⟩), hv⟩, trivial⟩, hS.F ht⟩) hS.2.2 dX2_has_15
  · have hv := hv.2 hc
    refine lv_iconst (v := z_i 1) hx hb dX2_has_10 rfl ?_
    refine lv_goto (tgt := 15) hx hb dX2_has_11 (by decide) ?_
    exact W.zret (v := z_i 1) hx hb hr (by decide) (fun t ht hW => ⟨⟨z_i 1, (), rfl, ⟨1, rfl, (show z_in 1 from ⟨by decide, by decide⟩), hv⟩, trivial⟩, hS.F ht⟩) hS.2.2 dX2_has_15
set_option maxHeartbeats 4000000 in
set_option maxRecDepth 100000 in
theorem mt_X2_has (l : Launch) (D : va_G) (cA : Nat → ClassId) (g : Nat) (ga_units : Nat) (g_units : Nat → Int32) (ga_lengths : Nat) (g_lengths : Nat → Int32) (ga_offsets : Nat) (g_offsets : Nat → Int32) (g_step : Int) (i : Int) (j : Int) (h_g_step : z_in g_step) (h_i : z_in i) (h_j : z_in j)  : Met l yX2_has wsX2_has ({ frames := 2, cells := 0, slots := 0, locals := 44 } : Room) (va_Pc [.ref g, .int (z_i i), .int (z_i j)] (z_B0 D cA [(g, .inr (1, [.ref ga_units, .ref ga_lengths, .ref ga_offsets, .int (z_i g_step)])), (ga_units, .inl (cA 1, 1280, .inl g_units)), (ga_lengths, .inl (cA 1, 32, .inl g_lengths)), (ga_offsets, .inl (cA 1, 32, .inl g_offsets))])) (va_Qi (z_ri (fun (r : Int) => r = z_b (decide (m_no (g_th g_units) i j ≠ -1)))) (fun _ _ => True) (fun _ => False)) 0 0 (fun _ => False) := by
  refine wk_X2_has l D cA g ga_units g_units ga_lengths g_lengths ga_offsets g_offsets g_step i j h_g_step h_i h_j (fun (r : Int) => r = z_b (decide (m_no (g_th g_units) i j ≠ -1))) ?_
  unfold vc_X2_has
  rintro r hr rfl
  exact ⟨fun h => by simp [h, z_b], fun h => by simp [h, z_b]⟩
def vc_X2_neighbour (g_units : Nat → Int32) (n : Int) (way : Int) (Q : Int → Prop) : Prop :=
((n < 0 → Q (-1)) ∧
(n ≥ 0 → ((n ≥ 1280 → Q (-1)) ∧
(n < 1280 → ((way < 0 → Q (-1)) ∧
(way ≥ 0 → ((way < 8 → (0 ≤ way ∧ way < 8) ∧ z_in ((n.tdiv 40) + (z_rs way.toNat)) ∧ z_in ((n.tmod 40) + (z_cs way.toNat)) ∧ (∀ (r4 : Int), z_in r4 → (r4 = m_no (g_th g_units) ((n.tdiv 40) + (z_rs way.toNat)) ((n.tmod 40) + (z_cs way.toNat))) → Q r4)) ∧
(way ≥ 8 → Q (-1)))))))))
set_option maxHeartbeats 4000000 in
set_option maxRecDepth 100000 in
theorem wk_X2_neighbour (l : Launch) (D : va_G) (cA : Nat → ClassId) (t1 t2 : Nat) (g : Nat) (ga_units : Nat) (g_units : Nat → Int32) (ga_lengths : Nat) (g_lengths : Nat → Int32) (ga_offsets : Nat) (g_offsets : Nat → Int32) (g_step : Int) (n : Int) (way : Int) (h_g_step : z_in g_step) (h_n : z_in n) (h_way : z_in way) (Q : Int → Prop) (hv : vc_X2_neighbour g_units n way Q) : Met l yX2_neighbour wsX2_neighbour ({ frames := 2, cells := 0, slots := 0, locals := 44 } : Room) (va_Pc [.ref g, .int (z_i n), .int (z_i way)] (z_B1 D cA t1 t2 [(g, .inr (1, [.ref ga_units, .ref ga_lengths, .ref ga_offsets, .int (z_i g_step)])), (ga_units, .inl (cA 1, 1280, .inl g_units)), (ga_lengths, .inl (cA 1, 32, .inl g_lengths)), (ga_offsets, .inl (cA 1, 32, .inl g_offsets))])) (va_Qi (z_ri Q) (fun _ _ => True) (fun _ => False)) 0 0 (fun _ => False) := by
  unfold vc_X2_neighbour at hv
  refine Met.ofW (cc := cX2_neighbour) (maxL := 3) (ret := (some .int)) (by decide +kernel) rfl ?_
  intro p e s m args below meth c s₁ B hml hv0
  obtain ⟨rfl, ⟨hK, hP⟩, hST⟩ := hv0
  have hx := B.exec
  have hb := B.bytes
  have hr := B.returns
  have hts := atoms_spec (ws := wsX2_neighbour) B.pre
  have hown : s.vm.findClass RX2 = some m.cls := findClass_of_methodNamed B.named
  have hlocks := B.notSynchronized
  have hS : va_S (fun _ : Nat => False) s.heap s.heap [] := va_S.rf
  have hl := lv_entry ([.ref g, .int (z_i n), .int (z_i way)]) (n := 3) (Nat.le_of_ble_eq_true rfl)
  rw [lg_entry_eq]
  generalize (lg_sl ([.ref g, .int (z_i n), .int (z_i way)]) ++ List.replicate (3 - (lg_sl ([.ref g, .int (z_i n), .int (z_i way)])).length) Slot.unset).toArray = ls at hl ⊢
  have hl : lv_has ls 3 [(0, .ref g), (1, .int (z_i n)), (2, .int (z_i way))] := hl
  refine lv_iload_n hx hb dX2_neighbour_0 rfl (lv_at hl 1 rfl) ?_
  refine lx_if_lt (tgt := 21) hx hb dX2_neighbour_1 (by decide) h_n (fun hc => ?_) (fun hc => ?_)
  · have hv := hv.1 hc
    refine lv_iconst (v := z_i (-1)) hx hb dX2_neighbour_21 rfl ?_
    exact W.iret (v := z_i (-1)) hx hb hr (fun t ht hW => ⟨⟨z_i (-1), (), rfl, ⟨-1, rfl, (show z_in (-1) from ⟨by decide, by decide⟩), hv⟩, trivial⟩, hS.F ht⟩) hS.2.2 dX2_neighbour_22
  · have hv := hv.2 hc
    refine lv_iload_n hx hb dX2_neighbour_4 rfl (lv_at hl 1 rfl) ?_
    refine lv_sipush (v := z_i 1280) hx hb dX2_neighbour_5 (by decide) ?_
    refine lx_icmp_ge (tgt := 21) hx hb dX2_neighbour_8 (by decide) h_n (show z_in 1280 from ⟨by decide, by decide⟩) (fun hc => ?_) (fun hc => ?_)
    · have hv := hv.1 hc
      refine lv_iconst (v := z_i (-1)) hx hb dX2_neighbour_21 rfl ?_
      exact W.iret (v := z_i (-1)) hx hb hr (fun t ht hW => ⟨⟨z_i (-1), (), rfl, ⟨-1, rfl, (show z_in (-1) from ⟨by decide, by decide⟩), hv⟩, trivial⟩, hS.F ht⟩) hS.2.2 dX2_neighbour_22
    · have hv := hv.2 hc
      refine lv_iload_n hx hb dX2_neighbour_11 rfl (lv_at hl 2 rfl) ?_
      refine lx_if_lt (tgt := 21) hx hb dX2_neighbour_12 (by decide) h_way (fun hc => ?_) (fun hc => ?_)
      · have hv := hv.1 hc
        refine lv_iconst (v := z_i (-1)) hx hb dX2_neighbour_21 rfl ?_
        exact W.iret (v := z_i (-1)) hx hb hr (fun t ht hW => ⟨⟨z_i (-1), (), rfl, ⟨-1, rfl, (show z_in (-1) from ⟨by decide, by decide⟩), hv⟩, trivial⟩, hS.F ht⟩) hS.2.2 dX2_neighbour_22
      · have hv := hv.2 hc
        refine lv_iload_n hx hb dX2_neighbour_15 rfl (lv_at hl 2 rfl) ?_
        refine lv_bipush (v := z_i 8) hx hb dX2_neighbour_16 (by decide) ?_
        refine lx_icmp_lt (tgt := 23) hx hb dX2_neighbour_18 (by decide) h_way (show z_in 8 from ⟨by decide, by decide⟩) (fun hc => ?_) (fun hc => ?_)
        · have hv := hv.1 hc
          refine lv_aload_n hx hb dX2_neighbour_23 rfl (lv_at hl 0 rfl) ?_
          refine lv_iload_n hx hb dX2_neighbour_24 rfl (lv_at hl 1 rfl) ?_
          refine lv_bipush (v := z_i 40) hx hb dX2_neighbour_25 (by decide) ?_
          refine lx_idiv hx hb dX2_neighbour_27 h_n (show z_in 40 from ⟨by decide, by decide⟩) (by decide) ?_
          refine va_getsN (C := RX7) (n := "ROW_STEP") (d := "[I") hx hb hST.2.1 hS hown (va_Nw.use rfl hST.1.1) (fun _ h9 => h9) dX2_neighbour_28 ?_
          refine lv_iload_n hx hb dX2_neighbour_31 rfl (lv_at hl 2 rfl) ?_
          obtain ⟨hi1, hv⟩ := hv
          refine lx_ti hx hb hST.2.2.2.1 hS hi1.1 hi1.2 dX2_neighbour_32 ?_
          refine lx_iadd hx hb dX2_neighbour_33 ?_
          refine lv_iload_n hx hb dX2_neighbour_34 rfl (lv_at hl 1 rfl) ?_
          refine lv_bipush (v := z_i 40) hx hb dX2_neighbour_35 (by decide) ?_
          refine lx_irem hx hb dX2_neighbour_37 h_n (show z_in 40 from ⟨by decide, by decide⟩) (by decide) ?_
          refine va_getsN (C := RX7) (n := "COLUMN_STEP") (d := "[I") hx hb hST.2.2.1 hS hown (va_Nw.use rfl hST.1.2.1) (fun _ h9 => h9) dX2_neighbour_38 ?_
          refine lv_iload_n hx hb dX2_neighbour_41 rfl (lv_at hl 2 rfl) ?_
          refine lx_ti hx hb hST.2.2.2.2 hS hi1.1 hi1.2 dX2_neighbour_42 ?_
          refine lx_iadd hx hb dX2_neighbour_43 ?_
          obtain ⟨hr2, hv⟩ := hv
          obtain ⟨hr3, hv⟩ := hv
          refine va_calli (va_runV (As := [.int (z_i ((n.tdiv 40) + (z_rs way.toNat))), .int (z_i ((n.tmod 40) + (z_cs way.toNat)))]) (rest := []) ⟨hx, hb, hml, hown, hts⟩ (mt_X2_numberOf l D cA g ga_units g_units ga_lengths g_lengths ga_offsets g_offsets g_step ((n.tdiv 40) + (z_rs way.toNat)) ((n.tmod 40) + (z_cs way.toNat)) h_g_step hr2 hr3) (cwV 2 hts gX2_neighbour_X2_numberOf rfl rfl rfl (by decide +kernel) ⟨Nat.le_of_ble_eq_true rfl, Nat.le_of_ble_eq_true rfl⟩) ⟨z_bl0, va_recv hK hP (ci := 1) (q0 := 0) rfl rfl, fun U hU hW => ⟨rfl, z_b0 hK hP hU hW⟩⟩ rfl rfl hl.1 rfl (lv_room (Nat.le_of_ble_eq_true rfl)) dX2_neighbour_44 ⟨Nat.zero_le _, Nat.zero_le _⟩) hS (fun q _ h => h.elim) (fun q h => h.elim) (fun r0 u t H locs ht hvm hw hB hz1 hk1 hS => ?_)
          obtain ⟨r4, rfl, h_r4, hw⟩ := hw
          have hP := z_P_all hP hk1
          have hv := hv r4 h_r4 hw
          exact W.iret (v := z_i r4) hx hb hr (fun t ht hW => ⟨⟨z_i r4, (), rfl, ⟨r4, rfl, h_r4, hv⟩, trivial⟩, hS.F ht⟩) hS.2.2 dX2_neighbour_47
        · have hv := hv.2 hc
          refine lv_iconst (v := z_i (-1)) hx hb dX2_neighbour_21 rfl ?_
          exact W.iret (v := z_i (-1)) hx hb hr (fun t ht hW => ⟨⟨z_i (-1), (), rfl, ⟨-1, rfl, (show z_in (-1) from ⟨by decide, by decide⟩), hv⟩, trivial⟩, hS.F ht⟩) hS.2.2 dX2_neighbour_22
set_option maxHeartbeats 4000000 in
set_option maxRecDepth 100000 in
theorem mt_X2_neighbour (l : Launch) (D : va_G) (cA : Nat → ClassId) (t1 t2 : Nat) (g : Nat) (ga_units : Nat) (g_units : Nat → Int32) (ga_lengths : Nat) (g_lengths : Nat → Int32) (ga_offsets : Nat) (g_offsets : Nat → Int32) (g_step : Int) (n : Int) (way : Int) (h_g_step : z_in g_step) (h_n : z_in n) (h_way : z_in way) (hp1 : 0 ≤ n ∧ n < 1280) (hp2 : 0 ≤ way ∧ way < 8) : Met l yX2_neighbour wsX2_neighbour ({ frames := 2, cells := 0, slots := 0, locals := 44 } : Room) (va_Pc [.ref g, .int (z_i n), .int (z_i way)] (z_B1 D cA t1 t2 [(g, .inr (1, [.ref ga_units, .ref ga_lengths, .ref ga_offsets, .int (z_i g_step)])), (ga_units, .inl (cA 1, 1280, .inl g_units)), (ga_lengths, .inl (cA 1, 32, .inl g_lengths)), (ga_offsets, .inl (cA 1, 32, .inl g_offsets))])) (va_Qi (z_ri (fun (r : Int) => r = m_nb (g_th g_units) n way)) (fun _ _ => True) (fun _ => False)) 0 0 (fun _ => False) := by
  refine wk_X2_neighbour l D cA t1 t2 g ga_units g_units ga_lengths g_lengths ga_offsets g_offsets g_step n way h_g_step h_n h_way (fun (r : Int) => r = m_nb (g_th g_units) n way) ?_
  unfold vc_X2_neighbour
  refine ⟨fun h => absurd hp1.1 (by omega), fun h => ⟨fun h2 => absurd hp1.2 (by omega), fun h2 => ⟨fun h3 => absurd hp2.1 (by omega), fun h3 => ⟨fun h4 => ⟨hp2, ?_, ?_, ?_⟩, fun h4 => absurd hp2.2 (by omega)⟩⟩⟩⟩
  · have := z_rs_b way.toNat
    rw [Int.tdiv_eq_ediv_of_nonneg h]
    exact ⟨by omega, by omega⟩
  · have := z_cs_b way.toNat
    rw [Int.tmod_eq_emod_of_nonneg h]
    exact ⟨by omega, by omega⟩
  · rintro r hr rfl
    rw [Int.tdiv_eq_ediv_of_nonneg h, Int.tmod_eq_emod_of_nonneg h]
    rfl
def vc_X2_neighbourCount (g_units : Nat → Int32) (n : Int) (Q : Int → Prop) : Prop :=
(∀ L4 : Int → Int → Prop,
(∀ (x4_3 : Int) (x4_2 : Int), z_in x4_3 → z_in x4_2 → ((x4_3 ≥ 8 → Q x4_2) ∧
(x4_3 < 8 → (0 ≤ n ∧ n < 1280) ∧ (0 ≤ x4_3 ∧ x4_3 < 8) ∧ (∀ (r3 : Int), z_in r3 → (r3 = m_nb (g_th g_units) n x4_3) → ((r3 = -1 → L4 (x4_3 + 1) x4_2) ∧
(r3 ≠ -1 → L4 (x4_3 + 1) (x4_2 + 1)))))) → L4 x4_3 x4_2) →
L4 0 0)
set_option maxHeartbeats 4000000 in
set_option maxRecDepth 100000 in
theorem wk_X2_neighbourCount (l : Launch) (D : va_G) (cA : Nat → ClassId) (t1 t2 : Nat) (g : Nat) (ga_units : Nat) (g_units : Nat → Int32) (ga_lengths : Nat) (g_lengths : Nat → Int32) (ga_offsets : Nat) (g_offsets : Nat → Int32) (g_step : Int) (n : Int) (h_g_step : z_in g_step) (h_n : z_in n) (Q : Int → Prop) (hv : vc_X2_neighbourCount g_units n Q) : Met l yX2_neighbourCount wsX2_neighbourCount ({ frames := 3, cells := 0, slots := 0, locals := 66 } : Room) (va_Pc [.ref g, .int (z_i n)] (z_B1 D cA t1 t2 [(g, .inr (1, [.ref ga_units, .ref ga_lengths, .ref ga_offsets, .int (z_i g_step)])), (ga_units, .inl (cA 1, 1280, .inl g_units)), (ga_lengths, .inl (cA 1, 32, .inl g_lengths)), (ga_offsets, .inl (cA 1, 32, .inl g_offsets))])) (va_Qi (z_ri Q) (fun _ _ => True) (fun _ => False)) 0 0 (fun _ => False) := by
  unfold vc_X2_neighbourCount at hv
  refine Met.ofW (cc := cX2_neighbourCount) (maxL := 4) (ret := (some .int)) (by decide +kernel) rfl ?_
  intro p e s m args below meth c s₁ B hml hv0
  obtain ⟨rfl, ⟨hK, hP⟩, hST⟩ := hv0
  have hx := B.exec
  have hb := B.bytes
  have hr := B.returns
  have hts := atoms_spec (ws := wsX2_neighbourCount) B.pre
  have hown : s.vm.findClass RX2 = some m.cls := findClass_of_methodNamed B.named
  have hlocks := B.notSynchronized
  have hS : va_S (fun _ : Nat => False) s.heap s.heap [] := va_S.rf
  have hl := lv_entry ([.ref g, .int (z_i n)]) (n := 4) (Nat.le_of_ble_eq_true rfl)
  rw [lg_entry_eq]
  generalize (lg_sl ([.ref g, .int (z_i n)]) ++ List.replicate (4 - (lg_sl ([.ref g, .int (z_i n)])).length) Slot.unset).toArray = ls at hl ⊢
  have hl : lv_has ls 4 [(0, .ref g), (1, .int (z_i n))] := hl
  refine lv_iconst (v := z_i 0) hx hb dX2_neighbourCount_0 rfl ?_
  refine lv_istore_n (lv' := [(2, .int (z_i 0)), (0, .ref g), (1, .int (z_i n))]) hx hb dX2_neighbourCount_1 rfl hl (by decide) rfl (fun ls hl => ?_)
  refine lv_iconst (v := z_i 0) hx hb dX2_neighbourCount_2 rfl ?_
  refine lv_istore_n (lv' := [(3, .int (z_i 0)), (2, .int (z_i 0)), (0, .ref g), (1, .int (z_i n))]) hx hb dX2_neighbourCount_3 rfl hl (by decide) rfl (fun ls hl => ?_)
  refine hv (fun (x4_3 : Int) (x4_2 : Int) => ∀ (H : Heap) (locs : List Loc) (ls : Array Slot), va_P D vwCl [(g, .inr (1, [.ref ga_units, .ref ga_lengths, .ref ga_offsets, .int (z_i g_step)])), (ga_units, .inl (cA 1, 1280, .inl g_units)), (ga_lengths, .inl (cA 1, 32, .inl g_lengths)), (ga_offsets, .inl (cA 1, 32, .inl g_offsets))] H → va_S (fun _ : Nat => False) s.heap H locs → lv_has ls 4 [(3, .int (z_i x4_3)), (2, .int (z_i x4_2)), (0, .ref g), (1, .int (z_i n))] → W p l e _ s m _ below meth c H locs 0 0 _ (F0 m 4 ls [])) ?_ _ _ ls hP hS (lv_sub hl [0, 1, 2, 3] rfl)
  intro x4_3 x4_2 h_x4_3 h_x4_2 hv H locs ls hP hS hl
  refine lv_iload_n hx hb dX2_neighbourCount_4 rfl (lv_at hl 0 rfl) ?_
  refine lv_bipush (v := z_i 8) hx hb dX2_neighbourCount_5 (by decide) ?_
  refine lx_icmp_ge (tgt := 29) hx hb dX2_neighbourCount_7 (by decide) h_x4_3 (show z_in 8 from ⟨by decide, by decide⟩) (fun hc => ?_) (fun hc => ?_)
  · have hv := hv.1 hc
    refine lv_iload_n hx hb dX2_neighbourCount_29 rfl (lv_at hl 1 rfl) ?_
    exact W.iret (v := z_i x4_2) hx hb hr (fun t ht hW => ⟨⟨z_i x4_2, (), rfl, ⟨x4_2, rfl, h_x4_2, hv⟩, trivial⟩, hS.F ht⟩) hS.2.2 dX2_neighbourCount_30
  · have hv := hv.2 hc
    refine lv_aload_n hx hb dX2_neighbourCount_10 rfl (lv_at hl 2 rfl) ?_
    refine lv_iload_n hx hb dX2_neighbourCount_11 rfl (lv_at hl 3 rfl) ?_
    refine lv_iload_n hx hb dX2_neighbourCount_12 rfl (lv_at hl 0 rfl) ?_
    obtain ⟨hp1, hv⟩ := hv
    obtain ⟨hp2, hv⟩ := hv
    refine va_calli (va_runV (As := [.int (z_i n), .int (z_i x4_3)]) (rest := []) ⟨hx, hb, hml, hown, hts⟩ (mt_X2_neighbour l D cA t1 t2 g ga_units g_units ga_lengths g_lengths ga_offsets g_offsets g_step n x4_3 h_g_step h_n h_x4_3 hp1 hp2) (cwV 2 hts gX2_neighbourCount_X2_neighbour rfl rfl rfl (by decide +kernel) ⟨Nat.le_of_ble_eq_true rfl, Nat.le_of_ble_eq_true rfl⟩) ⟨z_bl1, va_recv hK hP (ci := 1) (q0 := 0) rfl rfl, fun U hU hW => ⟨rfl, z_b1 hK hP (hST.at hS (fun _ h => h.elim)) hU hW⟩⟩ rfl rfl hl.1 rfl (lv_room (Nat.le_of_ble_eq_true rfl)) dX2_neighbourCount_13 ⟨Nat.zero_le _, Nat.zero_le _⟩) hS (fun q _ h => h.elim) (fun q h => h.elim) (fun r0 u t H locs ht hvm hw hB hz1 hk1 hS => ?_)
    obtain ⟨r3, rfl, h_r3, hw⟩ := hw
    have hP := z_P_all hP hk1
    have hv := hv r3 h_r3 hw
    refine lv_iconst (v := z_i (-1)) hx hb dX2_neighbourCount_16 rfl ?_
    refine lx_icmp_eq (tgt := 23) hx hb dX2_neighbourCount_17 (by decide) h_r3 (show z_in (-1) from ⟨by decide, by decide⟩) (fun hc => ?_) (fun hc => ?_)
    · have hv := hv.1 hc
      refine lv_iinc (v := z_i (x4_3 + 1)) (lv' := [(3, .int (z_i (x4_3 + 1))), (2, .int (z_i x4_2)), (0, .ref g), (1, .int (z_i n))]) hx hb dX2_neighbourCount_23 hl (k := 0) rfl (z_i_add _ _) (by decide) rfl (fun ls hl => ?_)
      refine lv_goto (tgt := 4) hx hb dX2_neighbourCount_26 (by decide) ?_
      exact hv _ _ ls hP hS (lv_sub hl [0, 1, 2, 3] rfl)
    · have hv := hv.2 hc
      refine lv_iinc (v := z_i (x4_2 + 1)) (lv' := [(2, .int (z_i (x4_2 + 1))), (3, .int (z_i x4_3)), (0, .ref g), (1, .int (z_i n))]) hx hb dX2_neighbourCount_20 hl (k := 1) rfl (z_i_add _ _) (by decide) rfl (fun ls hl => ?_)
      refine lv_iinc (v := z_i (x4_3 + 1)) (lv' := [(3, .int (z_i (x4_3 + 1))), (2, .int (z_i (x4_2 + 1))), (0, .ref g), (1, .int (z_i n))]) hx hb dX2_neighbourCount_23 hl (k := 1) rfl (z_i_add _ _) (by decide) rfl (fun ls hl => ?_)
      refine lv_goto (tgt := 4) hx hb dX2_neighbourCount_26 (by decide) ?_
      exact hv _ _ ls hP hS (lv_sub hl [0, 1, 2, 3] rfl)
set_option maxHeartbeats 4000000 in
set_option maxRecDepth 100000 in
theorem mt_X2_neighbourCount (l : Launch) (D : va_G) (cA : Nat → ClassId) (t1 t2 : Nat) (g : Nat) (ga_units : Nat) (g_units : Nat → Int32) (ga_lengths : Nat) (g_lengths : Nat → Int32) (ga_offsets : Nat) (g_offsets : Nat → Int32) (g_step : Int) (n : Int) (h_g_step : z_in g_step) (h_n : z_in n) (hp1 : 0 ≤ n ∧ n < 1280) : Met l yX2_neighbourCount wsX2_neighbourCount ({ frames := 3, cells := 0, slots := 0, locals := 66 } : Room) (va_Pc [.ref g, .int (z_i n)] (z_B1 D cA t1 t2 [(g, .inr (1, [.ref ga_units, .ref ga_lengths, .ref ga_offsets, .int (z_i g_step)])), (ga_units, .inl (cA 1, 1280, .inl g_units)), (ga_lengths, .inl (cA 1, 32, .inl g_lengths)), (ga_offsets, .inl (cA 1, 32, .inl g_offsets))])) (va_Qi (z_ri (fun (r : Int) => r = m_nc (g_th g_units) n)) (fun _ _ => True) (fun _ => False)) 0 0 (fun _ => False) := by
  refine wk_X2_neighbourCount l D cA t1 t2 g ga_units g_units ga_lengths g_lengths ga_offsets g_offsets g_step n h_g_step h_n (fun (r : Int) => r = m_nc (g_th g_units) n) ?_
  unfold vc_X2_neighbourCount
  intro L hL
  suffices H : ∀ (d k : Nat), k + d = 8 → L (k : Int) (m_ncK (g_th g_units) n k) from H 8 0 rfl
  intro d
  induction d with
  | zero =>
    intro k hk
    have hb := m_ncK_b (g_th g_units) n k
    refine hL _ _ ⟨by omega, by omega⟩ ⟨by omega, by omega⟩ ⟨fun _ => ?_, fun h => absurd h (by omega)⟩
    have : k = 8 := by omega
    subst this
    rfl
  | succ d ih =>
    intro k hk
    have hb := m_ncK_b (g_th g_units) n k
    refine hL _ _ ⟨by omega, by omega⟩ ⟨by omega, by omega⟩ ⟨fun h => absurd h (by omega), fun h => ⟨hp1, ⟨by omega, h⟩, ?_⟩⟩
    rintro r hr rfl
    have h9 := ih (k + 1) (by omega)
    unfold m_ncK at h9
    refine ⟨fun q => ?_, fun q => ?_⟩
    · rw [if_pos q] at h9; simpa using h9
    · rw [if_neg q] at h9; simpa using h9
def vc_X2_isRim (g_units : Nat → Int32) (n : Int) (Q : Int → Prop) : Prop :=
(0 ≤ n ∧ n < 1280) ∧ (∀ (r2 : Int), z_in r2 → (r2 = m_nc (g_th g_units) n) → ((r2 ≥ 8 → Q 0) ∧
(r2 < 8 → Q 1)))
set_option maxHeartbeats 4000000 in
set_option maxRecDepth 100000 in
theorem wk_X2_isRim (l : Launch) (D : va_G) (cA : Nat → ClassId) (t1 t2 : Nat) (g : Nat) (ga_units : Nat) (g_units : Nat → Int32) (ga_lengths : Nat) (g_lengths : Nat → Int32) (ga_offsets : Nat) (g_offsets : Nat → Int32) (g_step : Int) (n : Int) (h_g_step : z_in g_step) (h_n : z_in n) (Q : Int → Prop) (hv : vc_X2_isRim g_units n Q) : Met l yX2_isRim wsX2_isRim ({ frames := 4, cells := 0, slots := 0, locals := 89 } : Room) (va_Pc [.ref g, .int (z_i n)] (z_B1 D cA t1 t2 [(g, .inr (1, [.ref ga_units, .ref ga_lengths, .ref ga_offsets, .int (z_i g_step)])), (ga_units, .inl (cA 1, 1280, .inl g_units)), (ga_lengths, .inl (cA 1, 32, .inl g_lengths)), (ga_offsets, .inl (cA 1, 32, .inl g_offsets))])) (va_Qi (z_ri Q) (fun _ _ => True) (fun _ => False)) 0 0 (fun _ => False) := by
  unfold vc_X2_isRim at hv
  refine Met.ofW (cc := cX2_isRim) (maxL := 2) (ret := (some .boolean)) (by decide +kernel) rfl ?_
  intro p e s m args below meth c s₁ B hml hv0
  obtain ⟨rfl, ⟨hK, hP⟩, hST⟩ := hv0
  have hx := B.exec
  have hb := B.bytes
  have hr := B.returns
  have hts := atoms_spec (ws := wsX2_isRim) B.pre
  have hown : s.vm.findClass RX2 = some m.cls := findClass_of_methodNamed B.named
  have hlocks := B.notSynchronized
  have hS : va_S (fun _ : Nat => False) s.heap s.heap [] := va_S.rf
  have hl := lv_entry ([.ref g, .int (z_i n)]) (n := 2) (Nat.le_of_ble_eq_true rfl)
  rw [lg_entry_eq]
  generalize (lg_sl ([.ref g, .int (z_i n)]) ++ List.replicate (2 - (lg_sl ([.ref g, .int (z_i n)])).length) Slot.unset).toArray = ls at hl ⊢
  have hl : lv_has ls 2 [(0, .ref g), (1, .int (z_i n))] := hl
  refine lv_aload_n hx hb dX2_isRim_0 rfl (lv_at hl 0 rfl) ?_
  refine lv_iload_n hx hb dX2_isRim_1 rfl (lv_at hl 1 rfl) ?_
  obtain ⟨hp1, hv⟩ := hv
  refine va_calli (va_runV (As := [.int (z_i n)]) (rest := []) ⟨hx, hb, hml, hown, hts⟩ (mt_X2_neighbourCount l D cA t1 t2 g ga_units g_units ga_lengths g_lengths ga_offsets g_offsets g_step n h_g_step h_n hp1) (cwV 1 hts gX2_isRim_X2_neighbourCount rfl rfl rfl (by decide +kernel) ⟨Nat.le_of_ble_eq_true rfl, Nat.le_of_ble_eq_true rfl⟩) ⟨z_bl1, va_recv hK hP (ci := 1) (q0 := 0) rfl rfl, fun U hU hW => ⟨rfl, z_b1 hK hP (hST.at hS (fun _ h => h.elim)) hU hW⟩⟩ rfl rfl hl.1 rfl (lv_room (Nat.le_of_ble_eq_true rfl)) dX2_isRim_2 ⟨Nat.zero_le _, Nat.zero_le _⟩) hS (fun q _ h => h.elim) (fun q h => h.elim) (fun r0 u t H locs ht hvm hw hB hz1 hk1 hS => ?_)
  obtain ⟨r2, rfl, h_r2, hw⟩ := hw
  have hP := z_P_all hP hk1
  have hv := hv r2 h_r2 hw
  refine lv_bipush (v := z_i 8) hx hb dX2_isRim_5 (by decide) ?_
  refine lx_icmp_ge (tgt := 14) hx hb dX2_isRim_7 (by decide) h_r2 (show z_in 8 from ⟨by decide, by decide⟩) (fun hc => ?_) (fun hc => ?_)
  · have hv := hv.1 hc
    refine lv_iconst (v := z_i 0) hx hb dX2_isRim_14 rfl ?_
    exact W.zret (v := z_i 0) hx hb hr (by decide) (fun t ht hW => ⟨⟨z_i 0, (), rfl, ⟨0, rfl, (show z_in 0 from ⟨by decide, by decide⟩), hv⟩, trivial⟩, hS.F ht⟩) hS.2.2 dX2_isRim_15
  · have hv := hv.2 hc
    refine lv_iconst (v := z_i 1) hx hb dX2_isRim_10 rfl ?_
    refine lv_goto (tgt := 15) hx hb dX2_isRim_11 (by decide) ?_
    exact W.zret (v := z_i 1) hx hb hr (by decide) (fun t ht hW => ⟨⟨z_i 1, (), rfl, ⟨1, rfl, (show z_in 1 from ⟨by decide, by decide⟩), hv⟩, trivial⟩, hS.F ht⟩) hS.2.2 dX2_isRim_15
set_option maxHeartbeats 4000000 in
set_option maxRecDepth 100000 in
theorem mt_X2_isRim (l : Launch) (D : va_G) (cA : Nat → ClassId) (t1 t2 : Nat) (g : Nat) (ga_units : Nat) (g_units : Nat → Int32) (ga_lengths : Nat) (g_lengths : Nat → Int32) (ga_offsets : Nat) (g_offsets : Nat → Int32) (g_step : Int) (n : Int) (h_g_step : z_in g_step) (h_n : z_in n) (hp1 : 0 ≤ n ∧ n < 1280) : Met l yX2_isRim wsX2_isRim ({ frames := 4, cells := 0, slots := 0, locals := 89 } : Room) (va_Pc [.ref g, .int (z_i n)] (z_B1 D cA t1 t2 [(g, .inr (1, [.ref ga_units, .ref ga_lengths, .ref ga_offsets, .int (z_i g_step)])), (ga_units, .inl (cA 1, 1280, .inl g_units)), (ga_lengths, .inl (cA 1, 32, .inl g_lengths)), (ga_offsets, .inl (cA 1, 32, .inl g_offsets))])) (va_Qi (z_ri (fun (r : Int) => r = z_b (decide (m_nc (g_th g_units) n < 8)))) (fun _ _ => True) (fun _ => False)) 0 0 (fun _ => False) := by
  refine wk_X2_isRim l D cA t1 t2 g ga_units g_units ga_lengths g_lengths ga_offsets g_offsets g_step n h_g_step h_n (fun (r : Int) => r = z_b (decide (m_nc (g_th g_units) n < 8))) ?_
  unfold vc_X2_isRim
  refine ⟨hp1, ?_⟩
  rintro r hr rfl
  exact ⟨fun h => by simp [z_b]; omega, fun h => by simp [z_b]; omega⟩
def vc_X2_isAbove (g_units : Nat → Int32) (n : Int) (o : Int) (Q : Int → Prop) : Prop :=
(∀ (r1 : Int), z_in r1 → (r1 = g_at g_units n) → (∀ (r2 : Int), z_in r2 → (r2 = g_at g_units o) → ((r1 > r2 → Q 1) ∧
(r1 ≤ r2 → ((r1 ≠ r2 → Q 0) ∧
(r1 = r2 → ((n ≤ o → Q 0) ∧
(n > o → Q 1))))))))
set_option maxHeartbeats 4000000 in
set_option maxRecDepth 100000 in
theorem wk_X2_isAbove (l : Launch) (D : va_G) (cA : Nat → ClassId) (g : Nat) (ga_units : Nat) (g_units : Nat → Int32) (ga_lengths : Nat) (g_lengths : Nat → Int32) (ga_offsets : Nat) (g_offsets : Nat → Int32) (g_step : Int) (n : Int) (o : Int) (h_g_step : z_in g_step) (h_n : z_in n) (h_o : z_in o) (Q : Int → Prop) (hv : vc_X2_isAbove g_units n o Q) : Met l yX2_isAbove wsX2_isAbove ({ frames := 1, cells := 0, slots := 0, locals := 21 } : Room) (va_Pc [.ref g, .int (z_i n), .int (z_i o)] (z_B0 D cA [(g, .inr (1, [.ref ga_units, .ref ga_lengths, .ref ga_offsets, .int (z_i g_step)])), (ga_units, .inl (cA 1, 1280, .inl g_units)), (ga_lengths, .inl (cA 1, 32, .inl g_lengths)), (ga_offsets, .inl (cA 1, 32, .inl g_offsets))])) (va_Qi (z_ri Q) (fun _ _ => True) (fun _ => False)) 0 0 (fun _ => False) := by
  unfold vc_X2_isAbove at hv
  refine Met.ofW (cc := cX2_isAbove) (maxL := 5) (ret := (some .boolean)) (by decide +kernel) rfl ?_
  intro p e s m args below meth c s₁ B hml hv0
  obtain ⟨rfl, hK, hP⟩ := hv0
  have hx := B.exec
  have hb := B.bytes
  have hr := B.returns
  have hts := atoms_spec (ws := wsX2_isAbove) B.pre
  have hown : s.vm.findClass RX2 = some m.cls := findClass_of_methodNamed B.named
  have hlocks := B.notSynchronized
  have hS : va_S (fun _ : Nat => False) s.heap s.heap [] := va_S.rf
  have hl := lv_entry ([.ref g, .int (z_i n), .int (z_i o)]) (n := 5) (Nat.le_of_ble_eq_true rfl)
  rw [lg_entry_eq]
  generalize (lg_sl ([.ref g, .int (z_i n), .int (z_i o)]) ++ List.replicate (5 - (lg_sl ([.ref g, .int (z_i n), .int (z_i o)])).length) Slot.unset).toArray = ls at hl ⊢
  have hl : lv_has ls 5 [(0, .ref g), (1, .int (z_i n)), (2, .int (z_i o))] := hl
  refine lv_aload_n hx hb dX2_isAbove_0 rfl (lv_at hl 0 rfl) ?_
  refine lv_iload_n hx hb dX2_isAbove_1 rfl (lv_at hl 1 rfl) ?_
  refine va_calli (va_runV (As := [.int (z_i n)]) (rest := []) ⟨hx, hb, hml, hown, hts⟩ (mt_X2_unitsOf l D cA g ga_units g_units ga_lengths g_lengths ga_offsets g_offsets g_step n h_g_step h_n) (cwV 1 hts gX2_isAbove_X2_unitsOf rfl rfl rfl (by decide +kernel) ⟨Nat.le_of_ble_eq_true rfl, Nat.le_of_ble_eq_true rfl⟩) ⟨z_bl0, va_recv hK hP (ci := 1) (q0 := 0) rfl rfl, fun U hU hW => ⟨rfl, z_b0 hK hP hU hW⟩⟩ rfl rfl hl.1 rfl (lv_room (Nat.le_of_ble_eq_true rfl)) dX2_isAbove_2 ⟨Nat.zero_le _, Nat.zero_le _⟩) hS (fun q _ h => h.elim) (fun q h => h.elim) (fun r0 u t H locs ht hvm hw hB hz1 hk1 hS => ?_)
  obtain ⟨r1, rfl, h_r1, hw⟩ := hw
  have hP := z_P_all hP hk1
  have hv := hv r1 h_r1 hw
  refine lv_istore_n (lv' := [(3, .int (z_i r1)), (0, .ref g), (1, .int (z_i n)), (2, .int (z_i o))]) hx hb dX2_isAbove_5 rfl hl (by decide) rfl (fun ls hl => ?_)
  refine lv_aload_n hx hb dX2_isAbove_6 rfl (lv_at hl 1 rfl) ?_
  refine lv_iload_n hx hb dX2_isAbove_7 rfl (lv_at hl 3 rfl) ?_
  refine va_calli (va_runV (As := [.int (z_i o)]) (rest := []) ⟨hx, hb, hml, hown, hts⟩ (mt_X2_unitsOf l D cA g ga_units g_units ga_lengths g_lengths ga_offsets g_offsets g_step o h_g_step h_o) (cwV 1 hts gX2_isAbove_X2_unitsOf rfl rfl rfl (by decide +kernel) ⟨Nat.le_of_ble_eq_true rfl, Nat.le_of_ble_eq_true rfl⟩) ⟨z_bl0, va_recv hK hP (ci := 1) (q0 := 0) rfl rfl, fun U hU hW => ⟨rfl, z_b0 hK hP hU hW⟩⟩ rfl rfl hl.1 rfl (lv_room (Nat.le_of_ble_eq_true rfl)) dX2_isAbove_8 ⟨Nat.zero_le _, Nat.zero_le _⟩) hS (fun q _ h => h.elim) (fun q h => h.elim) (fun r0 u t H locs ht hvm hw hB hz1 hk1 hS => ?_)
  obtain ⟨r2, rfl, h_r2, hw⟩ := hw
  have hP := z_P_all hP hk1
  have hv := hv r2 h_r2 hw
  refine lv_istore (lv' := [(4, .int (z_i r2)), (3, .int (z_i r1)), (0, .ref g), (1, .int (z_i n)), (2, .int (z_i o))]) hx hb dX2_isAbove_11 hl (by decide) rfl (fun ls hl => ?_)
  refine lv_iload_n hx hb dX2_isAbove_13 rfl (lv_at hl 1 rfl) ?_
  refine lv_iload hx hb dX2_isAbove_14 (lv_at hl 0 rfl) ?_
  refine lx_icmp_gt (tgt := 30) hx hb dX2_isAbove_16 (by decide) h_r1 h_r2 (fun hc => ?_) (fun hc => ?_)
  · have hv := hv.1 hc
    refine lv_iconst (v := z_i 1) hx hb dX2_isAbove_30 rfl ?_
    refine lv_goto (tgt := 35) hx hb dX2_isAbove_31 (by decide) ?_
    exact W.zret (v := z_i 1) hx hb hr (by decide) (fun t ht hW => ⟨⟨z_i 1, (), rfl, ⟨1, rfl, (show z_in 1 from ⟨by decide, by decide⟩), hv⟩, trivial⟩, hS.F ht⟩) hS.2.2 dX2_isAbove_35
  · have hv := hv.2 hc
    refine lv_iload_n hx hb dX2_isAbove_19 rfl (lv_at hl 1 rfl) ?_
    refine lv_iload hx hb dX2_isAbove_20 (lv_at hl 0 rfl) ?_
    refine lx_icmp_ne (tgt := 34) hx hb dX2_isAbove_22 (by decide) h_r1 h_r2 (fun hc => ?_) (fun hc => ?_)
    · have hv := hv.1 hc
      refine lv_iconst (v := z_i 0) hx hb dX2_isAbove_34 rfl ?_
      exact W.zret (v := z_i 0) hx hb hr (by decide) (fun t ht hW => ⟨⟨z_i 0, (), rfl, ⟨0, rfl, (show z_in 0 from ⟨by decide, by decide⟩), hv⟩, trivial⟩, hS.F ht⟩) hS.2.2 dX2_isAbove_35
    · have hv := hv.2 hc
      refine lv_iload_n hx hb dX2_isAbove_25 rfl (lv_at hl 3 rfl) ?_
      refine lv_iload_n hx hb dX2_isAbove_26 rfl (lv_at hl 4 rfl) ?_
      refine lx_icmp_le (tgt := 34) hx hb dX2_isAbove_27 (by decide) h_n h_o (fun hc => ?_) (fun hc => ?_)
      · have hv := hv.1 hc
        refine lv_iconst (v := z_i 0) hx hb dX2_isAbove_34 rfl ?_
        exact W.zret (v := z_i 0) hx hb hr (by decide) (fun t ht hW => ⟨⟨z_i 0, (), rfl, ⟨0, rfl, (show z_in 0 from ⟨by decide, by decide⟩), hv⟩, trivial⟩, hS.F ht⟩) hS.2.2 dX2_isAbove_35
      · have hv := hv.2 hc
        refine lv_iconst (v := z_i 1) hx hb dX2_isAbove_30 rfl ?_
        refine lv_goto (tgt := 35) hx hb dX2_isAbove_31 (by decide) ?_
        exact W.zret (v := z_i 1) hx hb hr (by decide) (fun t ht hW => ⟨⟨z_i 1, (), rfl, ⟨1, rfl, (show z_in 1 from ⟨by decide, by decide⟩), hv⟩, trivial⟩, hS.F ht⟩) hS.2.2 dX2_isAbove_35
set_option maxHeartbeats 4000000 in
set_option maxRecDepth 100000 in
theorem mt_X2_isAbove (l : Launch) (D : va_G) (cA : Nat → ClassId) (g : Nat) (ga_units : Nat) (g_units : Nat → Int32) (ga_lengths : Nat) (g_lengths : Nat → Int32) (ga_offsets : Nat) (g_offsets : Nat → Int32) (g_step : Int) (n : Int) (o : Int) (h_g_step : z_in g_step) (h_n : z_in n) (h_o : z_in o)  : Met l yX2_isAbove wsX2_isAbove ({ frames := 1, cells := 0, slots := 0, locals := 21 } : Room) (va_Pc [.ref g, .int (z_i n), .int (z_i o)] (z_B0 D cA [(g, .inr (1, [.ref ga_units, .ref ga_lengths, .ref ga_offsets, .int (z_i g_step)])), (ga_units, .inl (cA 1, 1280, .inl g_units)), (ga_lengths, .inl (cA 1, 32, .inl g_lengths)), (ga_offsets, .inl (cA 1, 32, .inl g_offsets))])) (va_Qi (z_ri (fun (r : Int) => r = z_b (m_ab (g_at g_units) n o))) (fun _ _ => True) (fun _ => False)) 0 0 (fun _ => False) := by
  refine wk_X2_isAbove l D cA g ga_units g_units ga_lengths g_lengths ga_offsets g_offsets g_step n o h_g_step h_n h_o (fun (r : Int) => r = z_b (m_ab (g_at g_units) n o)) ?_
  unfold vc_X2_isAbove
  rintro r hr rfl r2 hr2 rfl
  unfold m_ab
  refine ⟨fun h => ?_, fun h => ⟨fun h2 => ?_, fun h2 => ⟨fun h3 => ?_, fun h3 => ?_⟩⟩⟩ <;> simp [z_b] <;> omega
