/-! lines, asked for -/
def l_at (ls : List d_L) (k : Int) : d_L := if 0 ≤ k then (ls[k.toNat]?).getD (-1, 0, []) else (-1, 0, [])
def l_has (ls : List d_L) (k : Int) : Bool := decide (0 ≤ k ∧ k < (ls.length : Int))
def l_sd (ls : List d_L) (k i : Int) : Int := if 0 ≤ i then ((l_at ls k).2.2[i.toNat]?).getD (-1) else -1
theorem l_at_f {ls : List d_L} {k : Int} (h : ¬ (0 ≤ k ∧ k < (ls.length : Int))) : l_at ls k = (-1, 0, []) := by
  unfold l_at
  split
  · rw [List.getElem?_eq_none (by omega)]; rfl
  · rfl
theorem l_at_t {ls : List d_L} {k : Int} (h0 : 0 ≤ k) (h1 : k < (ls.length : Int)) : ls[k.toNat]? = some (l_at ls k) := by
  unfold l_at
  rw [if_pos h0, List.getElem?_eq_getElem (by omega)]; rfl
theorem d_C_at {ls : List d_L} {sides firsts lix cls : Nat → Int32} {size : Int} (h : d_C ls sides firsts lix cls size) {k : Int} (h0 : 0 ≤ k) (h1 : k < (ls.length : Int)) : z_g lix k = (l_at ls k).1 ∧ z_g cls k = (l_at ls k).2.1 ∧ z_g firsts k = (d_tot (ls.take k.toNat) : Int) ∧ z_g firsts (k + 1) = (d_tot (ls.take k.toNat) : Int) + ((l_at ls k).2.2.length : Int) ∧ d_tot (ls.take k.toNat) + (l_at ls k).2.2.length ≤ 8000 ∧ ∀ i : Nat, i < (l_at ls k).2.2.length → z_g sides ((d_tot (ls.take k.toNat) + i : Nat) : Int) = l_sd ls k i := by
  obtain ⟨c1, c2, c3, c4, c5⟩ := h
  have hl := l_at_t h0 h1
  have h5 := c5 _ _ hl
  have hk : ((k.toNat : Nat) : Int) = k := Int.toNat_of_nonneg h0
  have e1 := c4 k.toNat (by omega)
  have e2 := c4 (k.toNat + 1) (by omega)
  rw [d_tot_take_add hl] at e2
  have e3 := d_tot_take_le ls (k.toNat + 1)
  rw [d_tot_take_add hl] at e3
  rw [hk] at e1 h5
  refine ⟨h5.1, h5.2.1, e1, ?_, by omega, fun i hi => ?_⟩
  · rw [show k + 1 = ((k.toNat + 1 : Nat) : Int) by omega, e2]; omega
  · have h6 := h5.2.2 i ((l_at ls k).2.2[i]) (List.getElem?_eq_getElem hi)
    rw [h6]
    unfold l_sd
    rw [if_pos (by omega), Int.toNat_natCast, List.getElem?_eq_getElem hi]; rfl
theorem z_and_1 (v : Nat) : z_and (v : Int) 1 = ((v % 2 : Nat) : Int) := by
  unfold z_and
  have h := pk_and (z_i (v : Int)) (m := z_i 1) 1 (by decide)
  rw [h]
  have e : (z_i (v : Int)).toBitVec.toNat = v % 2 ^ 32 := by
    show (Int32.ofInt (v : Int)).toBitVec.toNat = _
    rw [Int32.toBitVec_ofInt, BitVec.ofInt_natCast, BitVec.toNat_ofNat]
  rw [e, Nat.mod_mod_of_dvd _ (by decide), nI_toInt (by omega)]
theorem z_and_1i {v : Int} (h : 0 ≤ v) : z_and v 1 = v % 2 := by
  have := z_and_1 v.toNat
  rw [Int.toNat_of_nonneg h] at this
  rw [this]; omega
def l_lu (ls : List d_L) (hs : Nat → Int32) (k : Int) : Int := if 0 ≤ (l_at ls k).1 ∧ (l_at ls k).1 < 16 then z_g hs (l_at ls k).1 else 0
def l_oe (s : Int) : Int := s / 2 + (if s % 2 = 0 then 1 else 40)
/-- a side that a level crosses: both ends are there, one of them is high -/
def s_ok (T : Int → Bool) (U : Int → Int) (lv s : Int) : Prop := 0 ≤ s ∧ s < 2560 ∧ T (s / 2) = true ∧ T (l_oe s) = true ∧ n_hi U lv (s / 2) ≠ n_hi U lv (l_oe s)
/-- lines of such sides, levels and marks as they may be -/
def l_ok (T : Int → Bool) (U : Int → Int) (hs : Nat → Int32) (ls : List d_L) : Prop := ∀ l ∈ ls, (0 ≤ l.1 ∧ l.1 < 16) ∧ (l.2.1 = 0 ∨ l.2.1 = 1) ∧ l.2.2 ≠ [] ∧ ∀ s ∈ l.2.2, s_ok T U (z_g hs l.1) s
theorem l_ok_at {T : Int → Bool} {U : Int → Int} {hs : Nat → Int32} {ls : List d_L} (h : l_ok T U hs ls) {k : Int} (h0 : 0 ≤ k) (h1 : k < (ls.length : Int)) : (0 ≤ (l_at ls k).1 ∧ (l_at ls k).1 < 16) ∧ ((l_at ls k).2.1 = 0 ∨ (l_at ls k).2.1 = 1) ∧ (l_at ls k).2.2 ≠ [] ∧ ∀ s ∈ (l_at ls k).2.2, s_ok T U (l_lu ls hs k) s := by
  have h2 := h _ (List.mem_of_getElem? (l_at_t h0 h1))
  unfold l_lu
  rw [if_pos h2.1]
  exact h2
theorem l_sd_in {T : Int → Bool} {U : Int → Int} {hs : Nat → Int32} {ls : List d_L} (h : l_ok T U hs ls) {k i : Int} (hi0 : 0 ≤ i) (hi : i < ((l_at ls k).2.2.length : Int)) : l_sd ls k i ∈ (l_at ls k).2.2 ∧ s_ok T U (l_lu ls hs k) (l_sd ls k i) := by
  have hk : 0 ≤ k ∧ k < (ls.length : Int) := Classical.byContradiction fun q => by rw [l_at_f q] at hi; simp at hi; omega
  have e : l_sd ls k i = (l_at ls k).2.2[i.toNat]'(by omega) := by
    unfold l_sd
    rw [if_pos hi0, List.getElem?_eq_getElem (by omega)]; rfl
  have hm : l_sd ls k i ∈ (l_at ls k).2.2 := by rw [e]; exact List.getElem_mem _
  exact ⟨hm, (l_ok_at h hk.1 hk.2).2.2.2 _ hm⟩
/-- all that holds of a Lines' rows -/
def l_I (ls : List d_L) (gu hs : Nat → Int32) (th : Nat → Int64) (sides firsts lix cls : Nat → Int32) (size : Int) : Prop := d_C ls sides firsts lix cls size ∧ l_ok (g_th gu) (g_at gu) hs ls ∧ g_ok gu ∧ a_ok th ∧ ∀ q : Int, 0 ≤ q → q < 1280 → a_bt th q = g_th gu q
def vc_X4_has (L_size : Int) (k : Int) (Q : Int → Prop) : Prop :=
((k < 0 → Q 0) ∧
(k ≥ 0 → ((k ≥ L_size → Q 0) ∧
(k < L_size → ((k ≥ 400 → Q 0) ∧
(k < 400 → Q 1))))))
set_option maxHeartbeats 4000000 in
set_option maxRecDepth 100000 in
theorem wk_X4_has (l : Launch) (D : va_G) (cA : Nat → ClassId) (L : Nat) (L_ground : Nat) (L_grounda_units : Nat) (L_ground_units : Nat → Int32) (L_grounda_lengths : Nat) (L_ground_lengths : Nat → Int32) (L_grounda_offsets : Nat) (L_ground_offsets : Nat → Int32) (L_ground_step : Int) (L_joins : Nat) (L_joinsa_next : Nat) (L_joins_next : Nat → Int32) (L_joinsa_before : Nat) (L_joins_before : Nat → Int32) (L_joins_least : Int) (L_joins_last : Int) (La_heights : Nat) (L_heights : Nat → Int32) (La_sides : Nat) (L_sides : Nat → Int32) (La_firsts : Nat) (L_firsts : Nat → Int32) (La_levelIndex : Nat) (L_levelIndex : Nat → Int32) (La_closed : Nat) (L_closed : Nat → Int32) (L_there : Nat) (L_therea_masks : Nat) (L_there_masks : Nat → Int64) (L_there_size : Int) (L_inner : Nat) (L_innera_masks : Nat) (L_inner_masks : Nat → Int64) (L_inner_size : Int) (L_outer : Nat) (L_outera_masks : Nat) (L_outer_masks : Nat → Int64) (L_outer_size : Int) (L_size : Int) (L_full : Int) (k : Int) (h_L_ground_step : z_in L_ground_step) (h_L_joins_least : z_in L_joins_least) (h_L_joins_last : z_in L_joins_last) (h_L_there_size : z_in L_there_size) (h_L_inner_size : z_in L_inner_size) (h_L_outer_size : z_in L_outer_size) (h_L_size : z_in L_size) (h_L_full : z_in L_full) (h_k : z_in k) (Q : Int → Prop) (hv : vc_X4_has L_size k Q) : Met l yX4_has wsX4_has ({ frames := 0, cells := 0, slots := 0, locals := 0 } : Room) (va_Pc [.ref L, .int (z_i k)] (z_B0 D cA [(L, .inr (3, [.ref L_ground, .ref L_joins, .ref La_heights, .ref La_sides, .ref La_firsts, .ref La_levelIndex, .ref La_closed, .ref L_there, .ref L_inner, .ref L_outer, .int (z_i L_size), .int (z_i L_full)])), (L_ground, .inr (1, [.ref L_grounda_units, .ref L_grounda_lengths, .ref L_grounda_offsets, .int (z_i L_ground_step)])), (L_grounda_units, .inl (cA 1, 1280, .inl L_ground_units)), (L_grounda_lengths, .inl (cA 1, 32, .inl L_ground_lengths)), (L_grounda_offsets, .inl (cA 1, 32, .inl L_ground_offsets)), (L_joins, .inr (2, [.ref L_joinsa_next, .ref L_joinsa_before, .int (z_i L_joins_least), .int (z_i L_joins_last)])), (L_joinsa_next, .inl (cA 1, 2560, .inl L_joins_next)), (L_joinsa_before, .inl (cA 1, 2560, .inl L_joins_before)), (La_heights, .inl (cA 1, 16, .inl L_heights)), (La_sides, .inl (cA 1, 8000, .inl L_sides)), (La_firsts, .inl (cA 1, 401, .inl L_firsts)), (La_levelIndex, .inl (cA 1, 400, .inl L_levelIndex)), (La_closed, .inl (cA 0, 400, .inl L_closed)), (L_there, .inr (0, [.ref L_therea_masks, .int (z_i L_there_size)])), (L_therea_masks, .inl (cA 2, 32, .inr (.inl L_there_masks))), (L_inner, .inr (0, [.ref L_innera_masks, .int (z_i L_inner_size)])), (L_innera_masks, .inl (cA 2, 32, .inr (.inl L_inner_masks))), (L_outer, .inr (0, [.ref L_outera_masks, .int (z_i L_outer_size)])), (L_outera_masks, .inl (cA 2, 32, .inr (.inl L_outer_masks)))])) (va_Qi (z_ri Q) (fun _ _ => True) (fun _ => False)) 0 0 (fun _ => False) := by
  unfold vc_X4_has at hv
  refine Met.ofW (cc := cX4_has) (maxL := 2) (ret := (some .boolean)) (by decide +kernel) rfl ?_
  intro p e s m args below meth c s₁ B hml hv0
  obtain ⟨rfl, hK, hP⟩ := hv0
  have hx := B.exec
  have hb := B.bytes
  have hr := B.returns
  have hts := atoms_spec (ws := wsX4_has) B.pre
  have hown : s.vm.findClass RX4 = some m.cls := findClass_of_methodNamed B.named
  have hlocks := B.notSynchronized
  have hS : va_S (fun _ : Nat => False) s.heap s.heap [] := va_S.rf
  have hl := lv_entry ([.ref L, .int (z_i k)]) (n := 2) (Nat.le_of_ble_eq_true rfl)
  rw [lg_entry_eq]
  generalize (lg_sl ([.ref L, .int (z_i k)]) ++ List.replicate (2 - (lg_sl ([.ref L, .int (z_i k)])).length) Slot.unset).toArray = ls at hl ⊢
  have hl : lv_has ls 2 [(0, .ref L), (1, .int (z_i k))] := hl
  refine lv_iload_n hx hb dX4_has_0 rfl (lv_at hl 1 rfl) ?_
  refine lx_if_lt (tgt := 23) hx hb dX4_has_1 (by decide) h_k (fun hc => ?_) (fun hc => ?_)
  · have hv := hv.1 hc
    refine lv_iconst (v := z_i 0) hx hb dX4_has_23 rfl ?_
    exact W.zret (v := z_i 0) hx hb hr (by decide) (fun t ht hW => ⟨⟨z_i 0, (), rfl, ⟨0, rfl, (show z_in 0 from ⟨by decide, by decide⟩), hv⟩, trivial⟩, hS.F ht⟩) hS.2.2 dX4_has_24
  · have hv := hv.2 hc
    refine lv_iload_n hx hb dX4_has_4 rfl (lv_at hl 1 rfl) ?_
    refine lv_aload_n hx hb dX4_has_5 rfl (lv_at hl 0 rfl) ?_
    refine va_get (D := D) (ci := 3) (v := .int (z_i L_size)) (C := RX4) (T := TX4) (N := 12) hx hb hts (fun w h => List.mem_cons_of_mem _ (List.mem_append_right _ h)) hown hK hP 0 rfl rfl 10 (by decide) (hts (.fieldLink RX4 55 "ContourSheets$Lines" "size" "I") (by decide +kernel)) (fun _ h9 => h9) rfl dX4_has_6 ?_
    refine lx_icmp_ge (tgt := 23) hx hb dX4_has_9 (by decide) h_k h_L_size (fun hc => ?_) (fun hc => ?_)
    · have hv := hv.1 hc
      refine lv_iconst (v := z_i 0) hx hb dX4_has_23 rfl ?_
      exact W.zret (v := z_i 0) hx hb hr (by decide) (fun t ht hW => ⟨⟨z_i 0, (), rfl, ⟨0, rfl, (show z_in 0 from ⟨by decide, by decide⟩), hv⟩, trivial⟩, hS.F ht⟩) hS.2.2 dX4_has_24
    · have hv := hv.2 hc
      refine lv_iload_n hx hb dX4_has_12 rfl (lv_at hl 1 rfl) ?_
      refine lv_sipush (v := z_i 400) hx hb dX4_has_13 (by decide) ?_
      refine lx_icmp_ge (tgt := 23) hx hb dX4_has_16 (by decide) h_k (show z_in 400 from ⟨by decide, by decide⟩) (fun hc => ?_) (fun hc => ?_)
      · have hv := hv.1 hc
        refine lv_iconst (v := z_i 0) hx hb dX4_has_23 rfl ?_
        exact W.zret (v := z_i 0) hx hb hr (by decide) (fun t ht hW => ⟨⟨z_i 0, (), rfl, ⟨0, rfl, (show z_in 0 from ⟨by decide, by decide⟩), hv⟩, trivial⟩, hS.F ht⟩) hS.2.2 dX4_has_24
      · have hv := hv.2 hc
        refine lv_iconst (v := z_i 1) hx hb dX4_has_19 rfl ?_
        refine lv_goto (tgt := 24) hx hb dX4_has_20 (by decide) ?_
        exact W.zret (v := z_i 1) hx hb hr (by decide) (fun t ht hW => ⟨⟨z_i 1, (), rfl, ⟨1, rfl, (show z_in 1 from ⟨by decide, by decide⟩), hv⟩, trivial⟩, hS.F ht⟩) hS.2.2 dX4_has_24
set_option maxHeartbeats 4000000 in
set_option maxRecDepth 100000 in
theorem mt_X4_has (l : Launch) (D : va_G) (cA : Nat → ClassId) (L : Nat) (L_ground : Nat) (L_grounda_units : Nat) (L_ground_units : Nat → Int32) (L_grounda_lengths : Nat) (L_ground_lengths : Nat → Int32) (L_grounda_offsets : Nat) (L_ground_offsets : Nat → Int32) (L_ground_step : Int) (L_joins : Nat) (L_joinsa_next : Nat) (L_joins_next : Nat → Int32) (L_joinsa_before : Nat) (L_joins_before : Nat → Int32) (L_joins_least : Int) (L_joins_last : Int) (La_heights : Nat) (L_heights : Nat → Int32) (La_sides : Nat) (L_sides : Nat → Int32) (La_firsts : Nat) (L_firsts : Nat → Int32) (La_levelIndex : Nat) (L_levelIndex : Nat → Int32) (La_closed : Nat) (L_closed : Nat → Int32) (L_there : Nat) (L_therea_masks : Nat) (L_there_masks : Nat → Int64) (L_there_size : Int) (L_inner : Nat) (L_innera_masks : Nat) (L_inner_masks : Nat → Int64) (L_inner_size : Int) (L_outer : Nat) (L_outera_masks : Nat) (L_outer_masks : Nat → Int64) (L_outer_size : Int) (L_size : Int) (L_full : Int) (k : Int) (h_L_ground_step : z_in L_ground_step) (h_L_joins_least : z_in L_joins_least) (h_L_joins_last : z_in L_joins_last) (h_L_there_size : z_in L_there_size) (h_L_inner_size : z_in L_inner_size) (h_L_outer_size : z_in L_outer_size) (h_L_size : z_in L_size) (h_L_full : z_in L_full) (h_k : z_in k) (ls : List d_L) (hp1 : d_C ls L_sides L_firsts L_levelIndex L_closed L_size) : Met l yX4_has wsX4_has ({ frames := 0, cells := 0, slots := 0, locals := 0 } : Room) (va_Pc [.ref L, .int (z_i k)] (z_B0 D cA [(L, .inr (3, [.ref L_ground, .ref L_joins, .ref La_heights, .ref La_sides, .ref La_firsts, .ref La_levelIndex, .ref La_closed, .ref L_there, .ref L_inner, .ref L_outer, .int (z_i L_size), .int (z_i L_full)])), (L_ground, .inr (1, [.ref L_grounda_units, .ref L_grounda_lengths, .ref L_grounda_offsets, .int (z_i L_ground_step)])), (L_grounda_units, .inl (cA 1, 1280, .inl L_ground_units)), (L_grounda_lengths, .inl (cA 1, 32, .inl L_ground_lengths)), (L_grounda_offsets, .inl (cA 1, 32, .inl L_ground_offsets)), (L_joins, .inr (2, [.ref L_joinsa_next, .ref L_joinsa_before, .int (z_i L_joins_least), .int (z_i L_joins_last)])), (L_joinsa_next, .inl (cA 1, 2560, .inl L_joins_next)), (L_joinsa_before, .inl (cA 1, 2560, .inl L_joins_before)), (La_heights, .inl (cA 1, 16, .inl L_heights)), (La_sides, .inl (cA 1, 8000, .inl L_sides)), (La_firsts, .inl (cA 1, 401, .inl L_firsts)), (La_levelIndex, .inl (cA 1, 400, .inl L_levelIndex)), (La_closed, .inl (cA 0, 400, .inl L_closed)), (L_there, .inr (0, [.ref L_therea_masks, .int (z_i L_there_size)])), (L_therea_masks, .inl (cA 2, 32, .inr (.inl L_there_masks))), (L_inner, .inr (0, [.ref L_innera_masks, .int (z_i L_inner_size)])), (L_innera_masks, .inl (cA 2, 32, .inr (.inl L_inner_masks))), (L_outer, .inr (0, [.ref L_outera_masks, .int (z_i L_outer_size)])), (L_outera_masks, .inl (cA 2, 32, .inr (.inl L_outer_masks)))])) (va_Qi (z_ri (fun (r : Int) => r = z_b (l_has ls k))) (fun _ _ => True) (fun _ => False)) 0 0 (fun _ => False) := by
  refine wk_X4_has l D cA L L_ground L_grounda_units L_ground_units L_grounda_lengths L_ground_lengths L_grounda_offsets L_ground_offsets L_ground_step L_joins L_joinsa_next L_joins_next L_joinsa_before L_joins_before L_joins_least L_joins_last La_heights L_heights La_sides L_sides La_firsts L_firsts La_levelIndex L_levelIndex La_closed L_closed L_there L_therea_masks L_there_masks L_there_size L_inner L_innera_masks L_inner_masks L_inner_size L_outer L_outera_masks L_outer_masks L_outer_size L_size L_full k h_L_ground_step h_L_joins_least h_L_joins_last h_L_there_size h_L_inner_size h_L_outer_size h_L_size h_L_full h_k (fun (r : Int) => r = z_b (l_has ls k)) ?_
  unfold vc_X4_has
  have c1 := hp1.1
  have c2 := hp1.2.1
  unfold l_has
  refine ⟨fun h => ?_, fun h => ⟨fun h2 => ?_, fun h2 => ⟨fun h3 => ?_, fun h3 => ?_⟩⟩⟩
  · rw [decide_eq_false (by omega)]; rfl
  · rw [decide_eq_false (by omega)]; rfl
  · rw [decide_eq_false (by omega)]; rfl
  · rw [decide_eq_true (by omega)]; rfl
def vc_X4_isClosed (L_sides : Nat → Int32) (L_firsts : Nat → Int32) (L_levelIndex : Nat → Int32) (L_closed : Nat → Int32) (L_size : Int) (k : Int) (Q : Int → Prop) : Prop :=
(∃ g1 : List d_L, (d_C g1 L_sides L_firsts L_levelIndex L_closed L_size) ∧ (∀ (r3 : Int), z_in r3 → (r3 = z_b (l_has g1 k)) → ((r3 = 0 → Q 0) ∧
(r3 ≠ 0 → (0 ≤ k ∧ k < 400) ∧ ((z_g L_closed k ≠ 1 → Q 0) ∧
(z_g L_closed k = 1 → Q 1))))))
set_option maxHeartbeats 4000000 in
set_option maxRecDepth 100000 in
theorem wk_X4_isClosed (l : Launch) (D : va_G) (cA : Nat → ClassId) (L : Nat) (L_ground : Nat) (L_grounda_units : Nat) (L_ground_units : Nat → Int32) (L_grounda_lengths : Nat) (L_ground_lengths : Nat → Int32) (L_grounda_offsets : Nat) (L_ground_offsets : Nat → Int32) (L_ground_step : Int) (L_joins : Nat) (L_joinsa_next : Nat) (L_joins_next : Nat → Int32) (L_joinsa_before : Nat) (L_joins_before : Nat → Int32) (L_joins_least : Int) (L_joins_last : Int) (La_heights : Nat) (L_heights : Nat → Int32) (La_sides : Nat) (L_sides : Nat → Int32) (La_firsts : Nat) (L_firsts : Nat → Int32) (La_levelIndex : Nat) (L_levelIndex : Nat → Int32) (La_closed : Nat) (L_closed : Nat → Int32) (L_there : Nat) (L_therea_masks : Nat) (L_there_masks : Nat → Int64) (L_there_size : Int) (L_inner : Nat) (L_innera_masks : Nat) (L_inner_masks : Nat → Int64) (L_inner_size : Int) (L_outer : Nat) (L_outera_masks : Nat) (L_outer_masks : Nat → Int64) (L_outer_size : Int) (L_size : Int) (L_full : Int) (k : Int) (h_L_ground_step : z_in L_ground_step) (h_L_joins_least : z_in L_joins_least) (h_L_joins_last : z_in L_joins_last) (h_L_there_size : z_in L_there_size) (h_L_inner_size : z_in L_inner_size) (h_L_outer_size : z_in L_outer_size) (h_L_size : z_in L_size) (h_L_full : z_in L_full) (h_k : z_in k) (Q : Int → Prop) (hv : vc_X4_isClosed L_sides L_firsts L_levelIndex L_closed L_size k Q) : Met l yX4_isClosed wsX4_isClosed ({ frames := 1, cells := 0, slots := 0, locals := 21 } : Room) (va_Pc [.ref L, .int (z_i k)] (z_B0 D cA [(L, .inr (3, [.ref L_ground, .ref L_joins, .ref La_heights, .ref La_sides, .ref La_firsts, .ref La_levelIndex, .ref La_closed, .ref L_there, .ref L_inner, .ref L_outer, .int (z_i L_size), .int (z_i L_full)])), (L_ground, .inr (1, [.ref L_grounda_units, .ref L_grounda_lengths, .ref L_grounda_offsets, .int (z_i L_ground_step)])), (L_grounda_units, .inl (cA 1, 1280, .inl L_ground_units)), (L_grounda_lengths, .inl (cA 1, 32, .inl L_ground_lengths)), (L_grounda_offsets, .inl (cA 1, 32, .inl L_ground_offsets)), (L_joins, .inr (2, [.ref L_joinsa_next, .ref L_joinsa_before, .int (z_i L_joins_least), .int (z_i L_joins_last)])), (L_joinsa_next, .inl (cA 1, 2560, .inl L_joins_next)), (L_joinsa_before, .inl (cA 1, 2560, .inl L_joins_before)), (La_heights, .inl (cA 1, 16, .inl L_heights)), (La_sides, .inl (cA 1, 8000, .inl L_sides)), (La_firsts, .inl (cA 1, 401, .inl L_firsts)), (La_levelIndex, .inl (cA 1, 400, .inl L_levelIndex)), (La_closed, .inl (cA 0, 400, .inl L_closed)), (L_there, .inr (0, [.ref L_therea_masks, .int (z_i L_there_size)])), (L_therea_masks, .inl (cA 2, 32, .inr (.inl L_there_masks))), (L_inner, .inr (0, [.ref L_innera_masks, .int (z_i L_inner_size)])), (L_innera_masks, .inl (cA 2, 32, .inr (.inl L_inner_masks))), (L_outer, .inr (0, [.ref L_outera_masks, .int (z_i L_outer_size)])), (L_outera_masks, .inl (cA 2, 32, .inr (.inl L_outer_masks)))])) (va_Qi (z_ri Q) (fun _ _ => True) (fun _ => False)) 0 0 (fun _ => False) := by
  unfold vc_X4_isClosed at hv
  refine Met.ofW (cc := cX4_isClosed) (maxL := 2) (ret := (some .boolean)) (by decide +kernel) rfl ?_
  intro p e s m args below meth c s₁ B hml hv0
  obtain ⟨rfl, hK, hP⟩ := hv0
  have hx := B.exec
  have hb := B.bytes
  have hr := B.returns
  have hts := atoms_spec (ws := wsX4_isClosed) B.pre
  have hown : s.vm.findClass RX4 = some m.cls := findClass_of_methodNamed B.named
  have hlocks := B.notSynchronized
  have hS : va_S (fun _ : Nat => False) s.heap s.heap [] := va_S.rf
  have hl := lv_entry ([.ref L, .int (z_i k)]) (n := 2) (Nat.le_of_ble_eq_true rfl)
  rw [lg_entry_eq]
  generalize (lg_sl ([.ref L, .int (z_i k)]) ++ List.replicate (2 - (lg_sl ([.ref L, .int (z_i k)])).length) Slot.unset).toArray = ls at hl ⊢
  have hl : lv_has ls 2 [(0, .ref L), (1, .int (z_i k))] := hl
  refine lv_aload_n hx hb dX4_isClosed_0 rfl (lv_at hl 0 rfl) ?_
  refine lv_iload_n hx hb dX4_isClosed_1 rfl (lv_at hl 1 rfl) ?_
  obtain ⟨g1, hv⟩ := hv
  obtain ⟨hp2, hv⟩ := hv
  refine va_calli (va_runV (As := [.int (z_i k)]) (rest := []) ⟨hx, hb, hml, hown, hts⟩ (mt_X4_has l D cA L L_ground L_grounda_units L_ground_units L_grounda_lengths L_ground_lengths L_grounda_offsets L_ground_offsets L_ground_step L_joins L_joinsa_next L_joins_next L_joinsa_before L_joins_before L_joins_least L_joins_last La_heights L_heights La_sides L_sides La_firsts L_firsts La_levelIndex L_levelIndex La_closed L_closed L_there L_therea_masks L_there_masks L_there_size L_inner L_innera_masks L_inner_masks L_inner_size L_outer L_outera_masks L_outer_masks L_outer_size L_size L_full k h_L_ground_step h_L_joins_least h_L_joins_last h_L_there_size h_L_inner_size h_L_outer_size h_L_size h_L_full h_k g1 hp2) (cwV 1 hts gX4_isClosed_X4_has rfl rfl rfl (by decide +kernel) ⟨Nat.le_of_ble_eq_true rfl, Nat.le_of_ble_eq_true rfl⟩) ⟨z_bl0, va_recv hK hP (ci := 3) (q0 := 0) rfl rfl, fun U hU hW => ⟨rfl, z_b0 hK hP hU hW⟩⟩ rfl rfl hl.1 rfl (lv_room (Nat.le_of_ble_eq_true rfl)) dX4_isClosed_2 ⟨Nat.zero_le _, Nat.zero_le _⟩) hS (fun q _ h => h.elim) (fun q h => h.elim) (fun r0 u t H locs ht hvm hw hB hz1 hk1 hS => ?_)
  obtain ⟨r3, rfl, h_r3, hw⟩ := hw
  have hP := z_P_all hP hk1
  have hv := hv r3 h_r3 hw
  refine lx_if_eq (tgt := 22) hx hb dX4_isClosed_5 (by decide) h_r3 (fun hc => ?_) (fun hc => ?_)
  · have hv := hv.1 hc
    refine lv_iconst (v := z_i 0) hx hb dX4_isClosed_22 rfl ?_
    exact W.zret (v := z_i 0) hx hb hr (by decide) (fun t ht hW => ⟨⟨z_i 0, (), rfl, ⟨0, rfl, (show z_in 0 from ⟨by decide, by decide⟩), hv⟩, trivial⟩, hS.F ht⟩) hS.2.2 dX4_isClosed_23
  · have hv := hv.2 hc
    refine lv_aload_n hx hb dX4_isClosed_8 rfl (lv_at hl 0 rfl) ?_
    refine va_get (D := D) (ci := 3) (v := .ref La_closed) (C := RX4) (T := TX4) (N := 12) hx hb hts (fun w h => List.mem_cons_of_mem _ (List.mem_append_right _ h)) hown hK hP 0 rfl rfl 6 (by decide) (hts (.fieldLink RX4 38 "ContourSheets$Lines" "closed" "[B") (by decide +kernel)) (fun _ h9 => h9) rfl dX4_isClosed_9 ?_
    refine lv_iload_n hx hb dX4_isClosed_12 rfl (lv_at hl 1 rfl) ?_
    obtain ⟨hi4, hv⟩ := hv
    refine lx_bald hx hb hK hP 12 0 rfl rfl (by decide) hi4.1 hi4.2 dX4_isClosed_13 ?_
    refine lv_iconst (v := z_i 1) hx hb dX4_isClosed_14 rfl ?_
    refine lx_icmp_ne (tgt := 22) hx hb dX4_isClosed_15 (by decide) (z_in_g _ _) (show z_in 1 from ⟨by decide, by decide⟩) (fun hc => ?_) (fun hc => ?_)
    · have hv := hv.1 hc
      refine lv_iconst (v := z_i 0) hx hb dX4_isClosed_22 rfl ?_
      exact W.zret (v := z_i 0) hx hb hr (by decide) (fun t ht hW => ⟨⟨z_i 0, (), rfl, ⟨0, rfl, (show z_in 0 from ⟨by decide, by decide⟩), hv⟩, trivial⟩, hS.F ht⟩) hS.2.2 dX4_isClosed_23
    · have hv := hv.2 hc
      refine lv_iconst (v := z_i 1) hx hb dX4_isClosed_18 rfl ?_
      refine lv_goto (tgt := 23) hx hb dX4_isClosed_19 (by decide) ?_
      exact W.zret (v := z_i 1) hx hb hr (by decide) (fun t ht hW => ⟨⟨z_i 1, (), rfl, ⟨1, rfl, (show z_in 1 from ⟨by decide, by decide⟩), hv⟩, trivial⟩, hS.F ht⟩) hS.2.2 dX4_isClosed_23
set_option maxHeartbeats 4000000 in
set_option maxRecDepth 100000 in
theorem mt_X4_isClosed (l : Launch) (D : va_G) (cA : Nat → ClassId) (L : Nat) (L_ground : Nat) (L_grounda_units : Nat) (L_ground_units : Nat → Int32) (L_grounda_lengths : Nat) (L_ground_lengths : Nat → Int32) (L_grounda_offsets : Nat) (L_ground_offsets : Nat → Int32) (L_ground_step : Int) (L_joins : Nat) (L_joinsa_next : Nat) (L_joins_next : Nat → Int32) (L_joinsa_before : Nat) (L_joins_before : Nat → Int32) (L_joins_least : Int) (L_joins_last : Int) (La_heights : Nat) (L_heights : Nat → Int32) (La_sides : Nat) (L_sides : Nat → Int32) (La_firsts : Nat) (L_firsts : Nat → Int32) (La_levelIndex : Nat) (L_levelIndex : Nat → Int32) (La_closed : Nat) (L_closed : Nat → Int32) (L_there : Nat) (L_therea_masks : Nat) (L_there_masks : Nat → Int64) (L_there_size : Int) (L_inner : Nat) (L_innera_masks : Nat) (L_inner_masks : Nat → Int64) (L_inner_size : Int) (L_outer : Nat) (L_outera_masks : Nat) (L_outer_masks : Nat → Int64) (L_outer_size : Int) (L_size : Int) (L_full : Int) (k : Int) (h_L_ground_step : z_in L_ground_step) (h_L_joins_least : z_in L_joins_least) (h_L_joins_last : z_in L_joins_last) (h_L_there_size : z_in L_there_size) (h_L_inner_size : z_in L_inner_size) (h_L_outer_size : z_in L_outer_size) (h_L_size : z_in L_size) (h_L_full : z_in L_full) (h_k : z_in k) (ls : List d_L) (hp1 : d_C ls L_sides L_firsts L_levelIndex L_closed L_size) : Met l yX4_isClosed wsX4_isClosed ({ frames := 1, cells := 0, slots := 0, locals := 21 } : Room) (va_Pc [.ref L, .int (z_i k)] (z_B0 D cA [(L, .inr (3, [.ref L_ground, .ref L_joins, .ref La_heights, .ref La_sides, .ref La_firsts, .ref La_levelIndex, .ref La_closed, .ref L_there, .ref L_inner, .ref L_outer, .int (z_i L_size), .int (z_i L_full)])), (L_ground, .inr (1, [.ref L_grounda_units, .ref L_grounda_lengths, .ref L_grounda_offsets, .int (z_i L_ground_step)])), (L_grounda_units, .inl (cA 1, 1280, .inl L_ground_units)), (L_grounda_lengths, .inl (cA 1, 32, .inl L_ground_lengths)), (L_grounda_offsets, .inl (cA 1, 32, .inl L_ground_offsets)), (L_joins, .inr (2, [.ref L_joinsa_next, .ref L_joinsa_before, .int (z_i L_joins_least), .int (z_i L_joins_last)])), (L_joinsa_next, .inl (cA 1, 2560, .inl L_joins_next)), (L_joinsa_before, .inl (cA 1, 2560, .inl L_joins_before)), (La_heights, .inl (cA 1, 16, .inl L_heights)), (La_sides, .inl (cA 1, 8000, .inl L_sides)), (La_firsts, .inl (cA 1, 401, .inl L_firsts)), (La_levelIndex, .inl (cA 1, 400, .inl L_levelIndex)), (La_closed, .inl (cA 0, 400, .inl L_closed)), (L_there, .inr (0, [.ref L_therea_masks, .int (z_i L_there_size)])), (L_therea_masks, .inl (cA 2, 32, .inr (.inl L_there_masks))), (L_inner, .inr (0, [.ref L_innera_masks, .int (z_i L_inner_size)])), (L_innera_masks, .inl (cA 2, 32, .inr (.inl L_inner_masks))), (L_outer, .inr (0, [.ref L_outera_masks, .int (z_i L_outer_size)])), (L_outera_masks, .inl (cA 2, 32, .inr (.inl L_outer_masks)))])) (va_Qi (z_ri (fun (r : Int) => r = z_b (decide ((l_at ls k).2.1 = 1)))) (fun _ _ => True) (fun _ => False)) 0 0 (fun _ => False) := by
  refine wk_X4_isClosed l D cA L L_ground L_grounda_units L_ground_units L_grounda_lengths L_ground_lengths L_grounda_offsets L_ground_offsets L_ground_step L_joins L_joinsa_next L_joins_next L_joinsa_before L_joins_before L_joins_least L_joins_last La_heights L_heights La_sides L_sides La_firsts L_firsts La_levelIndex L_levelIndex La_closed L_closed L_there L_therea_masks L_there_masks L_there_size L_inner L_innera_masks L_inner_masks L_inner_size L_outer L_outera_masks L_outer_masks L_outer_size L_size L_full k h_L_ground_step h_L_joins_least h_L_joins_last h_L_there_size h_L_inner_size h_L_outer_size h_L_size h_L_full h_k (fun (r : Int) => r = z_b (decide ((l_at ls k).2.1 = 1))) ?_
  unfold vc_X4_isClosed
  refine ⟨ls, hp1, ?_⟩
  rintro r1 h1 rfl
  unfold l_has
  by_cases h : 0 ≤ k ∧ k < (ls.length : Int)
  case neg =>
    rw [decide_eq_false h, l_at_f h]
    exact ⟨fun _ => rfl, fun q => absurd rfl q⟩
  rw [decide_eq_true h]
  have c2 := hp1.2.1
  obtain ⟨d1, d2, d3, d4, d5, d6⟩ := d_C_at hp1 h.1 h.2
  refine ⟨fun q => absurd q (by decide), fun _ => ?_⟩
  
  rw [d2]
  refine ⟨⟨by omega, by omega⟩, fun q => ?_, fun q => ?_⟩
  · rw [decide_eq_false q]; rfl
  · rw [decide_eq_true q]; rfl
def vc_X4_lengthOf (L_sides : Nat → Int32) (L_firsts : Nat → Int32) (L_levelIndex : Nat → Int32) (L_closed : Nat → Int32) (L_size : Int) (k : Int) (Q : Int → Prop) : Prop :=
(∃ g1 : List d_L, (d_C g1 L_sides L_firsts L_levelIndex L_closed L_size) ∧ (∀ (r3 : Int), z_in r3 → (r3 = z_b (l_has g1 k)) → ((r3 = 0 → Q 0) ∧
(r3 ≠ 0 → (0 ≤ k + 1 ∧ k + 1 < 401) ∧ (0 ≤ k ∧ k < 401) ∧ z_in ((z_g L_firsts (k + 1)) - (z_g L_firsts k)) ∧ Q ((z_g L_firsts (k + 1)) - (z_g L_firsts k))))))
set_option maxHeartbeats 4000000 in
set_option maxRecDepth 100000 in
theorem wk_X4_lengthOf (l : Launch) (D : va_G) (cA : Nat → ClassId) (L : Nat) (L_ground : Nat) (L_grounda_units : Nat) (L_ground_units : Nat → Int32) (L_grounda_lengths : Nat) (L_ground_lengths : Nat → Int32) (L_grounda_offsets : Nat) (L_ground_offsets : Nat → Int32) (L_ground_step : Int) (L_joins : Nat) (L_joinsa_next : Nat) (L_joins_next : Nat → Int32) (L_joinsa_before : Nat) (L_joins_before : Nat → Int32) (L_joins_least : Int) (L_joins_last : Int) (La_heights : Nat) (L_heights : Nat → Int32) (La_sides : Nat) (L_sides : Nat → Int32) (La_firsts : Nat) (L_firsts : Nat → Int32) (La_levelIndex : Nat) (L_levelIndex : Nat → Int32) (La_closed : Nat) (L_closed : Nat → Int32) (L_there : Nat) (L_therea_masks : Nat) (L_there_masks : Nat → Int64) (L_there_size : Int) (L_inner : Nat) (L_innera_masks : Nat) (L_inner_masks : Nat → Int64) (L_inner_size : Int) (L_outer : Nat) (L_outera_masks : Nat) (L_outer_masks : Nat → Int64) (L_outer_size : Int) (L_size : Int) (L_full : Int) (k : Int) (h_L_ground_step : z_in L_ground_step) (h_L_joins_least : z_in L_joins_least) (h_L_joins_last : z_in L_joins_last) (h_L_there_size : z_in L_there_size) (h_L_inner_size : z_in L_inner_size) (h_L_outer_size : z_in L_outer_size) (h_L_size : z_in L_size) (h_L_full : z_in L_full) (h_k : z_in k) (Q : Int → Prop) (hv : vc_X4_lengthOf L_sides L_firsts L_levelIndex L_closed L_size k Q) : Met l yX4_lengthOf wsX4_lengthOf ({ frames := 1, cells := 0, slots := 0, locals := 21 } : Room) (va_Pc [.ref L, .int (z_i k)] (z_B0 D cA [(L, .inr (3, [.ref L_ground, .ref L_joins, .ref La_heights, .ref La_sides, .ref La_firsts, .ref La_levelIndex, .ref La_closed, .ref L_there, .ref L_inner, .ref L_outer, .int (z_i L_size), .int (z_i L_full)])), (L_ground, .inr (1, [.ref L_grounda_units, .ref L_grounda_lengths, .ref L_grounda_offsets, .int (z_i L_ground_step)])), (L_grounda_units, .inl (cA 1, 1280, .inl L_ground_units)), (L_grounda_lengths, .inl (cA 1, 32, .inl L_ground_lengths)), (L_grounda_offsets, .inl (cA 1, 32, .inl L_ground_offsets)), (L_joins, .inr (2, [.ref L_joinsa_next, .ref L_joinsa_before, .int (z_i L_joins_least), .int (z_i L_joins_last)])), (L_joinsa_next, .inl (cA 1, 2560, .inl L_joins_next)), (L_joinsa_before, .inl (cA 1, 2560, .inl L_joins_before)), (La_heights, .inl (cA 1, 16, .inl L_heights)), (La_sides, .inl (cA 1, 8000, .inl L_sides)), (La_firsts, .inl (cA 1, 401, .inl L_firsts)), (La_levelIndex, .inl (cA 1, 400, .inl L_levelIndex)), (La_closed, .inl (cA 0, 400, .inl L_closed)), (L_there, .inr (0, [.ref L_therea_masks, .int (z_i L_there_size)])), (L_therea_masks, .inl (cA 2, 32, .inr (.inl L_there_masks))), (L_inner, .inr (0, [.ref L_innera_masks, .int (z_i L_inner_size)])), (L_innera_masks, .inl (cA 2, 32, .inr (.inl L_inner_masks))), (L_outer, .inr (0, [.ref L_outera_masks, .int (z_i L_outer_size)])), (L_outera_masks, .inl (cA 2, 32, .inr (.inl L_outer_masks)))])) (va_Qi (z_ri Q) (fun _ _ => True) (fun _ => False)) 0 0 (fun _ => False) := by
  unfold vc_X4_lengthOf at hv
  refine Met.ofW (cc := cX4_lengthOf) (maxL := 2) (ret := (some .int)) (by decide +kernel) rfl ?_
  intro p e s m args below meth c s₁ B hml hv0
  obtain ⟨rfl, hK, hP⟩ := hv0
  have hx := B.exec
  have hb := B.bytes
  have hr := B.returns
  have hts := atoms_spec (ws := wsX4_lengthOf) B.pre
  have hown : s.vm.findClass RX4 = some m.cls := findClass_of_methodNamed B.named
  have hlocks := B.notSynchronized
  have hS : va_S (fun _ : Nat => False) s.heap s.heap [] := va_S.rf
  have hl := lv_entry ([.ref L, .int (z_i k)]) (n := 2) (Nat.le_of_ble_eq_true rfl)
  rw [lg_entry_eq]
  generalize (lg_sl ([.ref L, .int (z_i k)]) ++ List.replicate (2 - (lg_sl ([.ref L, .int (z_i k)])).length) Slot.unset).toArray = ls at hl ⊢
  have hl : lv_has ls 2 [(0, .ref L), (1, .int (z_i k))] := hl
  refine lv_aload_n hx hb dX4_lengthOf_0 rfl (lv_at hl 0 rfl) ?_
  refine lv_iload_n hx hb dX4_lengthOf_1 rfl (lv_at hl 1 rfl) ?_
  obtain ⟨g1, hv⟩ := hv
  obtain ⟨hp2, hv⟩ := hv
  refine va_calli (va_runV (As := [.int (z_i k)]) (rest := []) ⟨hx, hb, hml, hown, hts⟩ (mt_X4_has l D cA L L_ground L_grounda_units L_ground_units L_grounda_lengths L_ground_lengths L_grounda_offsets L_ground_offsets L_ground_step L_joins L_joinsa_next L_joins_next L_joinsa_before L_joins_before L_joins_least L_joins_last La_heights L_heights La_sides L_sides La_firsts L_firsts La_levelIndex L_levelIndex La_closed L_closed L_there L_therea_masks L_there_masks L_there_size L_inner L_innera_masks L_inner_masks L_inner_size L_outer L_outera_masks L_outer_masks L_outer_size L_size L_full k h_L_ground_step h_L_joins_least h_L_joins_last h_L_there_size h_L_inner_size h_L_outer_size h_L_size h_L_full h_k g1 hp2) (cwV 1 hts gX4_lengthOf_X4_has rfl rfl rfl (by decide +kernel) ⟨Nat.le_of_ble_eq_true rfl, Nat.le_of_ble_eq_true rfl⟩) ⟨z_bl0, va_recv hK hP (ci := 3) (q0 := 0) rfl rfl, fun U hU hW => ⟨rfl, z_b0 hK hP hU hW⟩⟩ rfl rfl hl.1 rfl (lv_room (Nat.le_of_ble_eq_true rfl)) dX4_lengthOf_2 ⟨Nat.zero_le _, Nat.zero_le _⟩) hS (fun q _ h => h.elim) (fun q h => h.elim) (fun r0 u t H locs ht hvm hw hB hz1 hk1 hS => ?_)
  obtain ⟨r3, rfl, h_r3, hw⟩ := hw
  have hP := z_P_all hP hk1
  have hv := hv r3 h_r3 hw
  refine lx_if_eq (tgt := 26) hx hb dX4_lengthOf_5 (by decide) h_r3 (fun hc => ?_) (fun hc => ?_)
  · have hv := hv.1 hc
    refine lv_iconst (v := z_i 0) hx hb dX4_lengthOf_26 rfl ?_
    exact W.iret (v := z_i 0) hx hb hr (fun t ht hW => ⟨⟨z_i 0, (), rfl, ⟨0, rfl, (show z_in 0 from ⟨by decide, by decide⟩), hv⟩, trivial⟩, hS.F ht⟩) hS.2.2 dX4_lengthOf_27
  · have hv := hv.2 hc
    refine lv_aload_n hx hb dX4_lengthOf_8 rfl (lv_at hl 0 rfl) ?_
    refine va_get (D := D) (ci := 3) (v := .ref La_firsts) (C := RX4) (T := TX4) (N := 12) hx hb hts (fun w h => List.mem_cons_of_mem _ (List.mem_append_right _ h)) hown hK hP 0 rfl rfl 4 (by decide) (hts (.fieldLink RX4 32 "ContourSheets$Lines" "firsts" "[I") (by decide +kernel)) (fun _ h9 => h9) rfl dX4_lengthOf_9 ?_
    refine lv_iload_n hx hb dX4_lengthOf_12 rfl (lv_at hl 1 rfl) ?_
    refine lv_iconst (v := z_i 1) hx hb dX4_lengthOf_13 rfl ?_
    refine lx_iadd hx hb dX4_lengthOf_14 ?_
    obtain ⟨hi4, hv⟩ := hv
    refine lx_iald hx hb hK hP 10 1 rfl rfl (by decide) hi4.1 hi4.2 dX4_lengthOf_15 ?_
    refine lv_aload_n hx hb dX4_lengthOf_16 rfl (lv_at hl 0 rfl) ?_
    refine va_get (D := D) (ci := 3) (v := .ref La_firsts) (C := RX4) (T := TX4) (N := 12) hx hb hts (fun w h => List.mem_cons_of_mem _ (List.mem_append_right _ h)) hown hK hP 0 rfl rfl 4 (by decide) (hts (.fieldLink RX4 32 "ContourSheets$Lines" "firsts" "[I") (by decide +kernel)) (fun _ h9 => h9) rfl dX4_lengthOf_17 ?_
    refine lv_iload_n hx hb dX4_lengthOf_20 rfl (lv_at hl 1 rfl) ?_
    obtain ⟨hi5, hv⟩ := hv
    refine lx_iald hx hb hK hP 10 1 rfl rfl (by decide) hi5.1 hi5.2 dX4_lengthOf_21 ?_
    refine lx_isub hx hb dX4_lengthOf_22 ?_
    refine lv_goto (tgt := 27) hx hb dX4_lengthOf_23 (by decide) ?_
    obtain ⟨hr6, hv⟩ := hv
    exact W.iret (v := z_i ((z_g L_firsts (k + 1)) - (z_g L_firsts k))) hx hb hr (fun t ht hW => ⟨⟨z_i ((z_g L_firsts (k + 1)) - (z_g L_firsts k)), (), rfl, ⟨(z_g L_firsts (k + 1)) - (z_g L_firsts k), rfl, hr6, hv⟩, trivial⟩, hS.F ht⟩) hS.2.2 dX4_lengthOf_27
set_option maxHeartbeats 4000000 in
set_option maxRecDepth 100000 in
theorem mt_X4_lengthOf (l : Launch) (D : va_G) (cA : Nat → ClassId) (L : Nat) (L_ground : Nat) (L_grounda_units : Nat) (L_ground_units : Nat → Int32) (L_grounda_lengths : Nat) (L_ground_lengths : Nat → Int32) (L_grounda_offsets : Nat) (L_ground_offsets : Nat → Int32) (L_ground_step : Int) (L_joins : Nat) (L_joinsa_next : Nat) (L_joins_next : Nat → Int32) (L_joinsa_before : Nat) (L_joins_before : Nat → Int32) (L_joins_least : Int) (L_joins_last : Int) (La_heights : Nat) (L_heights : Nat → Int32) (La_sides : Nat) (L_sides : Nat → Int32) (La_firsts : Nat) (L_firsts : Nat → Int32) (La_levelIndex : Nat) (L_levelIndex : Nat → Int32) (La_closed : Nat) (L_closed : Nat → Int32) (L_there : Nat) (L_therea_masks : Nat) (L_there_masks : Nat → Int64) (L_there_size : Int) (L_inner : Nat) (L_innera_masks : Nat) (L_inner_masks : Nat → Int64) (L_inner_size : Int) (L_outer : Nat) (L_outera_masks : Nat) (L_outer_masks : Nat → Int64) (L_outer_size : Int) (L_size : Int) (L_full : Int) (k : Int) (h_L_ground_step : z_in L_ground_step) (h_L_joins_least : z_in L_joins_least) (h_L_joins_last : z_in L_joins_last) (h_L_there_size : z_in L_there_size) (h_L_inner_size : z_in L_inner_size) (h_L_outer_size : z_in L_outer_size) (h_L_size : z_in L_size) (h_L_full : z_in L_full) (h_k : z_in k) (ls : List d_L) (hp1 : d_C ls L_sides L_firsts L_levelIndex L_closed L_size) : Met l yX4_lengthOf wsX4_lengthOf ({ frames := 1, cells := 0, slots := 0, locals := 21 } : Room) (va_Pc [.ref L, .int (z_i k)] (z_B0 D cA [(L, .inr (3, [.ref L_ground, .ref L_joins, .ref La_heights, .ref La_sides, .ref La_firsts, .ref La_levelIndex, .ref La_closed, .ref L_there, .ref L_inner, .ref L_outer, .int (z_i L_size), .int (z_i L_full)])), (L_ground, .inr (1, [.ref L_grounda_units, .ref L_grounda_lengths, .ref L_grounda_offsets, .int (z_i L_ground_step)])), (L_grounda_units, .inl (cA 1, 1280, .inl L_ground_units)), (L_grounda_lengths, .inl (cA 1, 32, .inl L_ground_lengths)), (L_grounda_offsets, .inl (cA 1, 32, .inl L_ground_offsets)), (L_joins, .inr (2, [.ref L_joinsa_next, .ref L_joinsa_before, .int (z_i L_joins_least), .int (z_i L_joins_last)])), (L_joinsa_next, .inl (cA 1, 2560, .inl L_joins_next)), (L_joinsa_before, .inl (cA 1, 2560, .inl L_joins_before)), (La_heights, .inl (cA 1, 16, .inl L_heights)), (La_sides, .inl (cA 1, 8000, .inl L_sides)), (La_firsts, .inl (cA 1, 401, .inl L_firsts)), (La_levelIndex, .inl (cA 1, 400, .inl L_levelIndex)), (La_closed, .inl (cA 0, 400, .inl L_closed)), (L_there, .inr (0, [.ref L_therea_masks, .int (z_i L_there_size)])), (L_therea_masks, .inl (cA 2, 32, .inr (.inl L_there_masks))), (L_inner, .inr (0, [.ref L_innera_masks, .int (z_i L_inner_size)])), (L_innera_masks, .inl (cA 2, 32, .inr (.inl L_inner_masks))), (L_outer, .inr (0, [.ref L_outera_masks, .int (z_i L_outer_size)])), (L_outera_masks, .inl (cA 2, 32, .inr (.inl L_outer_masks)))])) (va_Qi (z_ri (fun (r : Int) => r = ((l_at ls k).2.2.length : Int))) (fun _ _ => True) (fun _ => False)) 0 0 (fun _ => False) := by
  refine wk_X4_lengthOf l D cA L L_ground L_grounda_units L_ground_units L_grounda_lengths L_ground_lengths L_grounda_offsets L_ground_offsets L_ground_step L_joins L_joinsa_next L_joins_next L_joinsa_before L_joins_before L_joins_least L_joins_last La_heights L_heights La_sides L_sides La_firsts L_firsts La_levelIndex L_levelIndex La_closed L_closed L_there L_therea_masks L_there_masks L_there_size L_inner L_innera_masks L_inner_masks L_inner_size L_outer L_outera_masks L_outer_masks L_outer_size L_size L_full k h_L_ground_step h_L_joins_least h_L_joins_last h_L_there_size h_L_inner_size h_L_outer_size h_L_size h_L_full h_k (fun (r : Int) => r = ((l_at ls k).2.2.length : Int)) ?_
  unfold vc_X4_lengthOf
  refine ⟨ls, hp1, ?_⟩
  rintro r1 h1 rfl
  unfold l_has
  by_cases h : 0 ≤ k ∧ k < (ls.length : Int)
  case neg =>
    rw [decide_eq_false h, l_at_f h]
    exact ⟨fun _ => rfl, fun q => absurd rfl q⟩
  rw [decide_eq_true h]
  have c2 := hp1.2.1
  obtain ⟨d1, d2, d3, d4, d5, d6⟩ := d_C_at hp1 h.1 h.2
  refine ⟨fun q => absurd q (by decide), fun _ => ?_⟩
  
  rw [d3, d4]
  exact ⟨⟨by omega, by omega⟩, ⟨by omega, by omega⟩, ⟨by omega, by omega⟩, by omega⟩
def vc_X4_sideOf (L_sides : Nat → Int32) (L_firsts : Nat → Int32) (L_levelIndex : Nat → Int32) (L_closed : Nat → Int32) (L_size : Int) (k : Int) (i : Int) (Q : Int → Prop) : Prop :=
(∃ g1 : List d_L, (d_C g1 L_sides L_firsts L_levelIndex L_closed L_size) ∧ (∀ (r3 : Int), z_in r3 → (r3 = z_b (l_has g1 k)) → ((r3 = 0 → Q (-1)) ∧
(r3 ≠ 0 → ((i < 0 → Q (-1)) ∧
(i ≥ 0 → (∃ g4 : List d_L, (d_C g4 L_sides L_firsts L_levelIndex L_closed L_size) ∧ (∀ (r6 : Int), z_in r6 → (r6 = ((l_at g4 k).2.2.length : Int)) → ((i < r6 → (0 ≤ k ∧ k < 401) ∧ z_in ((z_g L_firsts k) + i) ∧ (∀ v8 : Int, v8 = (z_g L_firsts k) + i → ((v8 < 0 → Q (-1)) ∧
(v8 ≥ 0 → ((v8 < 8000 → (0 ≤ v8 ∧ v8 < 8000) ∧ Q (z_g L_sides v8)) ∧
(v8 ≥ 8000 → Q (-1))))))) ∧
(i ≥ r6 → Q (-1)))))))))))
set_option maxHeartbeats 4000000 in
set_option maxRecDepth 100000 in
theorem wk_X4_sideOf (l : Launch) (D : va_G) (cA : Nat → ClassId) (L : Nat) (L_ground : Nat) (L_grounda_units : Nat) (L_ground_units : Nat → Int32) (L_grounda_lengths : Nat) (L_ground_lengths : Nat → Int32) (L_grounda_offsets : Nat) (L_ground_offsets : Nat → Int32) (L_ground_step : Int) (L_joins : Nat) (L_joinsa_next : Nat) (L_joins_next : Nat → Int32) (L_joinsa_before : Nat) (L_joins_before : Nat → Int32) (L_joins_least : Int) (L_joins_last : Int) (La_heights : Nat) (L_heights : Nat → Int32) (La_sides : Nat) (L_sides : Nat → Int32) (La_firsts : Nat) (L_firsts : Nat → Int32) (La_levelIndex : Nat) (L_levelIndex : Nat → Int32) (La_closed : Nat) (L_closed : Nat → Int32) (L_there : Nat) (L_therea_masks : Nat) (L_there_masks : Nat → Int64) (L_there_size : Int) (L_inner : Nat) (L_innera_masks : Nat) (L_inner_masks : Nat → Int64) (L_inner_size : Int) (L_outer : Nat) (L_outera_masks : Nat) (L_outer_masks : Nat → Int64) (L_outer_size : Int) (L_size : Int) (L_full : Int) (k : Int) (i : Int) (h_L_ground_step : z_in L_ground_step) (h_L_joins_least : z_in L_joins_least) (h_L_joins_last : z_in L_joins_last) (h_L_there_size : z_in L_there_size) (h_L_inner_size : z_in L_inner_size) (h_L_outer_size : z_in L_outer_size) (h_L_size : z_in L_size) (h_L_full : z_in L_full) (h_k : z_in k) (h_i : z_in i) (Q : Int → Prop) (hv : vc_X4_sideOf L_sides L_firsts L_levelIndex L_closed L_size k i Q) : Met l yX4_sideOf wsX4_sideOf ({ frames := 2, cells := 0, slots := 0, locals := 42 } : Room) (va_Pc [.ref L, .int (z_i k), .int (z_i i)] (z_B0 D cA [(L, .inr (3, [.ref L_ground, .ref L_joins, .ref La_heights, .ref La_sides, .ref La_firsts, .ref La_levelIndex, .ref La_closed, .ref L_there, .ref L_inner, .ref L_outer, .int (z_i L_size), .int (z_i L_full)])), (L_ground, .inr (1, [.ref L_grounda_units, .ref L_grounda_lengths, .ref L_grounda_offsets, .int (z_i L_ground_step)])), (L_grounda_units, .inl (cA 1, 1280, .inl L_ground_units)), (L_grounda_lengths, .inl (cA 1, 32, .inl L_ground_lengths)), (L_grounda_offsets, .inl (cA 1, 32, .inl L_ground_offsets)), (L_joins, .inr (2, [.ref L_joinsa_next, .ref L_joinsa_before, .int (z_i L_joins_least), .int (z_i L_joins_last)])), (L_joinsa_next, .inl (cA 1, 2560, .inl L_joins_next)), (L_joinsa_before, .inl (cA 1, 2560, .inl L_joins_before)), (La_heights, .inl (cA 1, 16, .inl L_heights)), (La_sides, .inl (cA 1, 8000, .inl L_sides)), (La_firsts, .inl (cA 1, 401, .inl L_firsts)), (La_levelIndex, .inl (cA 1, 400, .inl L_levelIndex)), (La_closed, .inl (cA 0, 400, .inl L_closed)), (L_there, .inr (0, [.ref L_therea_masks, .int (z_i L_there_size)])), (L_therea_masks, .inl (cA 2, 32, .inr (.inl L_there_masks))), (L_inner, .inr (0, [.ref L_innera_masks, .int (z_i L_inner_size)])), (L_innera_masks, .inl (cA 2, 32, .inr (.inl L_inner_masks))), (L_outer, .inr (0, [.ref L_outera_masks, .int (z_i L_outer_size)])), (L_outera_masks, .inl (cA 2, 32, .inr (.inl L_outer_masks)))])) (va_Qi (z_ri Q) (fun _ _ => True) (fun _ => False)) 0 0 (fun _ => False) := by
  unfold vc_X4_sideOf at hv
  refine Met.ofW (cc := cX4_sideOf) (maxL := 4) (ret := (some .int)) (by decide +kernel) rfl ?_
  intro p e s m args below meth c s₁ B hml hv0
  obtain ⟨rfl, hK, hP⟩ := hv0
  have hx := B.exec
  have hb := B.bytes
  have hr := B.returns
  have hts := atoms_spec (ws := wsX4_sideOf) B.pre
  have hown : s.vm.findClass RX4 = some m.cls := findClass_of_methodNamed B.named
  have hlocks := B.notSynchronized
  have hS : va_S (fun _ : Nat => False) s.heap s.heap [] := va_S.rf
  have hl := lv_entry ([.ref L, .int (z_i k), .int (z_i i)]) (n := 4) (Nat.le_of_ble_eq_true rfl)
  rw [lg_entry_eq]
  generalize (lg_sl ([.ref L, .int (z_i k), .int (z_i i)]) ++ List.replicate (4 - (lg_sl ([.ref L, .int (z_i k), .int (z_i i)])).length) Slot.unset).toArray = ls at hl ⊢
  have hl : lv_has ls 4 [(0, .ref L), (1, .int (z_i k)), (2, .int (z_i i))] := hl
  refine lv_aload_n hx hb dX4_sideOf_0 rfl (lv_at hl 0 rfl) ?_
  refine lv_iload_n hx hb dX4_sideOf_1 rfl (lv_at hl 1 rfl) ?_
  obtain ⟨g1, hv⟩ := hv
  obtain ⟨hp2, hv⟩ := hv
  refine va_calli (va_runV (As := [.int (z_i k)]) (rest := []) ⟨hx, hb, hml, hown, hts⟩ (mt_X4_has l D cA L L_ground L_grounda_units L_ground_units L_grounda_lengths L_ground_lengths L_grounda_offsets L_ground_offsets L_ground_step L_joins L_joinsa_next L_joins_next L_joinsa_before L_joins_before L_joins_least L_joins_last La_heights L_heights La_sides L_sides La_firsts L_firsts La_levelIndex L_levelIndex La_closed L_closed L_there L_therea_masks L_there_masks L_there_size L_inner L_innera_masks L_inner_masks L_inner_size L_outer L_outera_masks L_outer_masks L_outer_size L_size L_full k h_L_ground_step h_L_joins_least h_L_joins_last h_L_there_size h_L_inner_size h_L_outer_size h_L_size h_L_full h_k g1 hp2) (cwV 1 hts gX4_sideOf_X4_has rfl rfl rfl (by decide +kernel) ⟨Nat.le_of_ble_eq_true rfl, Nat.le_of_ble_eq_true rfl⟩) ⟨z_bl0, va_recv hK hP (ci := 3) (q0 := 0) rfl rfl, fun U hU hW => ⟨rfl, z_b0 hK hP hU hW⟩⟩ rfl rfl hl.1 rfl (lv_room (Nat.le_of_ble_eq_true rfl)) dX4_sideOf_2 ⟨Nat.zero_le _, Nat.zero_le _⟩) hS (fun q _ h => h.elim) (fun q h => h.elim) (fun r0 u t H locs ht hvm hw hB hz1 hk1 hS => ?_)
  obtain ⟨r3, rfl, h_r3, hw⟩ := hw
  have hP := z_P_all hP hk1
  have hv := hv r3 h_r3 hw
  refine lx_if_eq (tgt := 21) hx hb dX4_sideOf_5 (by decide) h_r3 (fun hc => ?_) (fun hc => ?_)
  · have hv := hv.1 hc
    refine lv_iconst (v := z_i (-1)) hx hb dX4_sideOf_21 rfl ?_
    exact W.iret (v := z_i (-1)) hx hb hr (fun t ht hW => ⟨⟨z_i (-1), (), rfl, ⟨-1, rfl, (show z_in (-1) from ⟨by decide, by decide⟩), hv⟩, trivial⟩, hS.F ht⟩) hS.2.2 dX4_sideOf_22
  · have hv := hv.2 hc
    refine lv_iload_n hx hb dX4_sideOf_8 rfl (lv_at hl 2 rfl) ?_
    refine lx_if_lt (tgt := 21) hx hb dX4_sideOf_9 (by decide) h_i (fun hc => ?_) (fun hc => ?_)
    · have hv := hv.1 hc
      refine lv_iconst (v := z_i (-1)) hx hb dX4_sideOf_21 rfl ?_
      exact W.iret (v := z_i (-1)) hx hb hr (fun t ht hW => ⟨⟨z_i (-1), (), rfl, ⟨-1, rfl, (show z_in (-1) from ⟨by decide, by decide⟩), hv⟩, trivial⟩, hS.F ht⟩) hS.2.2 dX4_sideOf_22
    · have hv := hv.2 hc
      refine lv_iload_n hx hb dX4_sideOf_12 rfl (lv_at hl 2 rfl) ?_
      refine lv_aload_n hx hb dX4_sideOf_13 rfl (lv_at hl 0 rfl) ?_
      refine lv_iload_n hx hb dX4_sideOf_14 rfl (lv_at hl 1 rfl) ?_
      obtain ⟨g4, hv⟩ := hv
      obtain ⟨hp5, hv⟩ := hv
      refine va_calli (va_runV (As := [.int (z_i k)]) (rest := [.int (z_i i)]) ⟨hx, hb, hml, hown, hts⟩ (mt_X4_lengthOf l D cA L L_ground L_grounda_units L_ground_units L_grounda_lengths L_ground_lengths L_grounda_offsets L_ground_offsets L_ground_step L_joins L_joinsa_next L_joins_next L_joinsa_before L_joins_before L_joins_least L_joins_last La_heights L_heights La_sides L_sides La_firsts L_firsts La_levelIndex L_levelIndex La_closed L_closed L_there L_therea_masks L_there_masks L_there_size L_inner L_innera_masks L_inner_masks L_inner_size L_outer L_outera_masks L_outer_masks L_outer_size L_size L_full k h_L_ground_step h_L_joins_least h_L_joins_last h_L_there_size h_L_inner_size h_L_outer_size h_L_size h_L_full h_k g4 hp5) (cwV 1 hts gX4_sideOf_X4_lengthOf rfl rfl rfl (by decide +kernel) ⟨Nat.le_of_ble_eq_true rfl, Nat.le_of_ble_eq_true rfl⟩) ⟨z_bl0, va_recv hK hP (ci := 3) (q0 := 0) rfl rfl, fun U hU hW => ⟨rfl, z_b0 hK hP hU hW⟩⟩ rfl rfl hl.1 rfl (lv_room (Nat.le_of_ble_eq_true rfl)) dX4_sideOf_15 ⟨Nat.zero_le _, Nat.zero_le _⟩) hS (fun q _ h => h.elim) (fun q h => h.elim) (fun r0 u t H locs ht hvm hw hB hz1 hk1 hS => ?_)
      obtain ⟨r6, rfl, h_r6, hw⟩ := hw
      have hP := z_P_all hP hk1
      have hv := hv r6 h_r6 hw
      refine lx_icmp_lt (tgt := 23) hx hb dX4_sideOf_18 (by decide) h_i h_r6 (fun hc => ?_) (fun hc => ?_)
      · have hv := hv.1 hc
        refine lv_aload_n hx hb dX4_sideOf_23 rfl (lv_at hl 0 rfl) ?_
        refine va_get (D := D) (ci := 3) (v := .ref La_firsts) (C := RX4) (T := TX4) (N := 12) hx hb hts (fun w h => List.mem_cons_of_mem _ (List.mem_append_right _ h)) hown hK hP 0 rfl rfl 4 (by decide) (hts (.fieldLink RX4 32 "ContourSheets$Lines" "firsts" "[I") (by decide +kernel)) (fun _ h9 => h9) rfl dX4_sideOf_24 ?_
        refine lv_iload_n hx hb dX4_sideOf_27 rfl (lv_at hl 1 rfl) ?_
        obtain ⟨hi7, hv⟩ := hv
        refine lx_iald hx hb hK hP 10 1 rfl rfl (by decide) hi7.1 hi7.2 dX4_sideOf_28 ?_
        refine lv_iload_n hx hb dX4_sideOf_29 rfl (lv_at hl 2 rfl) ?_
        refine lx_iadd hx hb dX4_sideOf_30 ?_
        obtain ⟨hr9, hv⟩ := hv
        refine lx_topi (fun v8 hy10 => ?_)
        have hv := hv v8 hy10
        have h_v8 : z_in v8 := by rw [hy10]; exact hr9
        refine lv_istore_n (lv' := [(3, .int (z_i v8)), (0, .ref L), (1, .int (z_i k)), (2, .int (z_i i))]) hx hb dX4_sideOf_31 rfl hl (by decide) rfl (fun ls hl => ?_)
        refine lv_iload_n hx hb dX4_sideOf_32 rfl (lv_at hl 0 rfl) ?_
        refine lx_if_lt (tgt := 43) hx hb dX4_sideOf_33 (by decide) h_v8 (fun hc => ?_) (fun hc => ?_)
        · have hv := hv.1 hc
          refine lv_iconst (v := z_i (-1)) hx hb dX4_sideOf_43 rfl ?_
          refine lv_goto (tgt := 53) hx hb dX4_sideOf_44 (by decide) ?_
          exact W.iret (v := z_i (-1)) hx hb hr (fun t ht hW => ⟨⟨z_i (-1), (), rfl, ⟨-1, rfl, (show z_in (-1) from ⟨by decide, by decide⟩), hv⟩, trivial⟩, hS.F ht⟩) hS.2.2 dX4_sideOf_53
        · have hv := hv.2 hc
          refine lv_iload_n hx hb dX4_sideOf_36 rfl (lv_at hl 0 rfl) ?_
          refine lv_sipush (v := z_i 8000) hx hb dX4_sideOf_37 (by decide) ?_
          refine lx_icmp_lt (tgt := 47) hx hb dX4_sideOf_40 (by decide) h_v8 (show z_in 8000 from ⟨by decide, by decide⟩) (fun hc => ?_) (fun hc => ?_)
          · have hv := hv.1 hc
            refine lv_aload_n hx hb dX4_sideOf_47 rfl (lv_at hl 1 rfl) ?_
            refine va_get (D := D) (ci := 3) (v := .ref La_sides) (C := RX4) (T := TX4) (N := 12) hx hb hts (fun w h => List.mem_cons_of_mem _ (List.mem_append_right _ h)) hown hK hP 0 rfl rfl 3 (by decide) (hts (.fieldLink RX4 29 "ContourSheets$Lines" "sides" "[I") (by decide +kernel)) (fun _ h9 => h9) rfl dX4_sideOf_48 ?_
            refine lv_iload_n hx hb dX4_sideOf_51 rfl (lv_at hl 0 rfl) ?_
            obtain ⟨hi11, hv⟩ := hv
            refine lx_iald hx hb hK hP 9 1 rfl rfl (by decide) hi11.1 hi11.2 dX4_sideOf_52 ?_
            exact W.iret (v := z_i (z_g L_sides v8)) hx hb hr (fun t ht hW => ⟨⟨z_i (z_g L_sides v8), (), rfl, ⟨z_g L_sides v8, rfl, (z_in_g _ _), hv⟩, trivial⟩, hS.F ht⟩) hS.2.2 dX4_sideOf_53
          · have hv := hv.2 hc
            refine lv_iconst (v := z_i (-1)) hx hb dX4_sideOf_43 rfl ?_
            refine lv_goto (tgt := 53) hx hb dX4_sideOf_44 (by decide) ?_
            exact W.iret (v := z_i (-1)) hx hb hr (fun t ht hW => ⟨⟨z_i (-1), (), rfl, ⟨-1, rfl, (show z_in (-1) from ⟨by decide, by decide⟩), hv⟩, trivial⟩, hS.F ht⟩) hS.2.2 dX4_sideOf_53
      · have hv := hv.2 hc
        refine lv_iconst (v := z_i (-1)) hx hb dX4_sideOf_21 rfl ?_
        exact W.iret (v := z_i (-1)) hx hb hr (fun t ht hW => ⟨⟨z_i (-1), (), rfl, ⟨-1, rfl, (show z_in (-1) from ⟨by decide, by decide⟩), hv⟩, trivial⟩, hS.F ht⟩) hS.2.2 dX4_sideOf_22
set_option maxHeartbeats 4000000 in
set_option maxRecDepth 100000 in
theorem mt_X4_sideOf (l : Launch) (D : va_G) (cA : Nat → ClassId) (L : Nat) (L_ground : Nat) (L_grounda_units : Nat) (L_ground_units : Nat → Int32) (L_grounda_lengths : Nat) (L_ground_lengths : Nat → Int32) (L_grounda_offsets : Nat) (L_ground_offsets : Nat → Int32) (L_ground_step : Int) (L_joins : Nat) (L_joinsa_next : Nat) (L_joins_next : Nat → Int32) (L_joinsa_before : Nat) (L_joins_before : Nat → Int32) (L_joins_least : Int) (L_joins_last : Int) (La_heights : Nat) (L_heights : Nat → Int32) (La_sides : Nat) (L_sides : Nat → Int32) (La_firsts : Nat) (L_firsts : Nat → Int32) (La_levelIndex : Nat) (L_levelIndex : Nat → Int32) (La_closed : Nat) (L_closed : Nat → Int32) (L_there : Nat) (L_therea_masks : Nat) (L_there_masks : Nat → Int64) (L_there_size : Int) (L_inner : Nat) (L_innera_masks : Nat) (L_inner_masks : Nat → Int64) (L_inner_size : Int) (L_outer : Nat) (L_outera_masks : Nat) (L_outer_masks : Nat → Int64) (L_outer_size : Int) (L_size : Int) (L_full : Int) (k : Int) (i : Int) (h_L_ground_step : z_in L_ground_step) (h_L_joins_least : z_in L_joins_least) (h_L_joins_last : z_in L_joins_last) (h_L_there_size : z_in L_there_size) (h_L_inner_size : z_in L_inner_size) (h_L_outer_size : z_in L_outer_size) (h_L_size : z_in L_size) (h_L_full : z_in L_full) (h_k : z_in k) (h_i : z_in i) (ls : List d_L) (hp1 : d_C ls L_sides L_firsts L_levelIndex L_closed L_size) : Met l yX4_sideOf wsX4_sideOf ({ frames := 2, cells := 0, slots := 0, locals := 42 } : Room) (va_Pc [.ref L, .int (z_i k), .int (z_i i)] (z_B0 D cA [(L, .inr (3, [.ref L_ground, .ref L_joins, .ref La_heights, .ref La_sides, .ref La_firsts, .ref La_levelIndex, .ref La_closed, .ref L_there, .ref L_inner, .ref L_outer, .int (z_i L_size), .int (z_i L_full)])), (L_ground, .inr (1, [.ref L_grounda_units, .ref L_grounda_lengths, .ref L_grounda_offsets, .int (z_i L_ground_step)])), (L_grounda_units, .inl (cA 1, 1280, .inl L_ground_units)), (L_grounda_lengths, .inl (cA 1, 32, .inl L_ground_lengths)), (L_grounda_offsets, .inl (cA 1, 32, .inl L_ground_offsets)), (L_joins, .inr (2, [.ref L_joinsa_next, .ref L_joinsa_before, .int (z_i L_joins_least), .int (z_i L_joins_last)])), (L_joinsa_next, .inl (cA 1, 2560, .inl L_joins_next)), (L_joinsa_before, .inl (cA 1, 2560, .inl L_joins_before)), (La_heights, .inl (cA 1, 16, .inl L_heights)), (La_sides, .inl (cA 1, 8000, .inl L_sides)), (La_firsts, .inl (cA 1, 401, .inl L_firsts)), (La_levelIndex, .inl (cA 1, 400, .inl L_levelIndex)), (La_closed, .inl (cA 0, 400, .inl L_closed)), (L_there, .inr (0, [.ref L_therea_masks, .int (z_i L_there_size)])), (L_therea_masks, .inl (cA 2, 32, .inr (.inl L_there_masks))), (L_inner, .inr (0, [.ref L_innera_masks, .int (z_i L_inner_size)])), (L_innera_masks, .inl (cA 2, 32, .inr (.inl L_inner_masks))), (L_outer, .inr (0, [.ref L_outera_masks, .int (z_i L_outer_size)])), (L_outera_masks, .inl (cA 2, 32, .inr (.inl L_outer_masks)))])) (va_Qi (z_ri (fun (r : Int) => r = l_sd ls k i)) (fun _ _ => True) (fun _ => False)) 0 0 (fun _ => False) := by
  refine wk_X4_sideOf l D cA L L_ground L_grounda_units L_ground_units L_grounda_lengths L_ground_lengths L_grounda_offsets L_ground_offsets L_ground_step L_joins L_joinsa_next L_joins_next L_joinsa_before L_joins_before L_joins_least L_joins_last La_heights L_heights La_sides L_sides La_firsts L_firsts La_levelIndex L_levelIndex La_closed L_closed L_there L_therea_masks L_there_masks L_there_size L_inner L_innera_masks L_inner_masks L_inner_size L_outer L_outera_masks L_outer_masks L_outer_size L_size L_full k i h_L_ground_step h_L_joins_least h_L_joins_last h_L_there_size h_L_inner_size h_L_outer_size h_L_size h_L_full h_k h_i (fun (r : Int) => r = l_sd ls k i) ?_
  unfold vc_X4_sideOf
  refine ⟨ls, hp1, ?_⟩
  rintro r1 h1 rfl
  unfold l_has
  by_cases h : 0 ≤ k ∧ k < (ls.length : Int)
  case neg =>
    rw [decide_eq_false h]
    refine ⟨fun _ => ?_, fun q => absurd rfl q⟩
    unfold l_sd
    rw [l_at_f h]
    split <;> simp
  rw [decide_eq_true h]
  have c2 := hp1.2.1
  obtain ⟨d1, d2, d3, d4, d5, d6⟩ := d_C_at hp1 h.1 h.2
  refine ⟨fun q => absurd q (by decide), fun _ => ⟨fun q => ?_, fun q => ⟨ls, hp1, ?_⟩⟩⟩
  · unfold l_sd; rw [if_neg (by omega)]
  rintro r2 h2 rfl
  refine ⟨fun q2 => ⟨⟨by omega, by omega⟩, ?_⟩, fun q2 => ?_⟩
  · rw [d3]
    refine ⟨⟨by omega, by omega⟩, ?_⟩
    rintro v4 rfl
    refine ⟨fun q3 => absurd q3 (by omega), fun _ => ⟨fun q3 => ⟨⟨by omega, q3⟩, ?_⟩, fun q3 => absurd q3 (by omega)⟩⟩
    have := d6 i.toNat (by omega)
    rw [show ((d_tot (ls.take k.toNat) + i.toNat : Nat) : Int) = (d_tot (ls.take k.toNat) : Int) + i by omega, Int.toNat_of_nonneg q] at this
    exact this
  · unfold l_sd
    rw [if_pos q, List.getElem?_eq_none (by omega)]; rfl
def vc_X4_levelOf (L_sides : Nat → Int32) (L_firsts : Nat → Int32) (L_levelIndex : Nat → Int32) (L_closed : Nat → Int32) (L_size : Int) (k : Int) (Q : Int → Prop) : Prop :=
(∃ g1 : List d_L, (d_C g1 L_sides L_firsts L_levelIndex L_closed L_size) ∧ (∀ (r3 : Int), z_in r3 → (r3 = z_b (l_has g1 k)) → ((r3 = 0 → Q (-1)) ∧
(r3 ≠ 0 → (0 ≤ k ∧ k < 400) ∧ Q (z_g L_levelIndex k)))))
set_option maxHeartbeats 4000000 in
set_option maxRecDepth 100000 in
theorem wk_X4_levelOf (l : Launch) (D : va_G) (cA : Nat → ClassId) (L : Nat) (L_ground : Nat) (L_grounda_units : Nat) (L_ground_units : Nat → Int32) (L_grounda_lengths : Nat) (L_ground_lengths : Nat → Int32) (L_grounda_offsets : Nat) (L_ground_offsets : Nat → Int32) (L_ground_step : Int) (L_joins : Nat) (L_joinsa_next : Nat) (L_joins_next : Nat → Int32) (L_joinsa_before : Nat) (L_joins_before : Nat → Int32) (L_joins_least : Int) (L_joins_last : Int) (La_heights : Nat) (L_heights : Nat → Int32) (La_sides : Nat) (L_sides : Nat → Int32) (La_firsts : Nat) (L_firsts : Nat → Int32) (La_levelIndex : Nat) (L_levelIndex : Nat → Int32) (La_closed : Nat) (L_closed : Nat → Int32) (L_there : Nat) (L_therea_masks : Nat) (L_there_masks : Nat → Int64) (L_there_size : Int) (L_inner : Nat) (L_innera_masks : Nat) (L_inner_masks : Nat → Int64) (L_inner_size : Int) (L_outer : Nat) (L_outera_masks : Nat) (L_outer_masks : Nat → Int64) (L_outer_size : Int) (L_size : Int) (L_full : Int) (k : Int) (h_L_ground_step : z_in L_ground_step) (h_L_joins_least : z_in L_joins_least) (h_L_joins_last : z_in L_joins_last) (h_L_there_size : z_in L_there_size) (h_L_inner_size : z_in L_inner_size) (h_L_outer_size : z_in L_outer_size) (h_L_size : z_in L_size) (h_L_full : z_in L_full) (h_k : z_in k) (Q : Int → Prop) (hv : vc_X4_levelOf L_sides L_firsts L_levelIndex L_closed L_size k Q) : Met l yX4_levelOf wsX4_levelOf ({ frames := 1, cells := 0, slots := 0, locals := 21 } : Room) (va_Pc [.ref L, .int (z_i k)] (z_B0 D cA [(L, .inr (3, [.ref L_ground, .ref L_joins, .ref La_heights, .ref La_sides, .ref La_firsts, .ref La_levelIndex, .ref La_closed, .ref L_there, .ref L_inner, .ref L_outer, .int (z_i L_size), .int (z_i L_full)])), (L_ground, .inr (1, [.ref L_grounda_units, .ref L_grounda_lengths, .ref L_grounda_offsets, .int (z_i L_ground_step)])), (L_grounda_units, .inl (cA 1, 1280, .inl L_ground_units)), (L_grounda_lengths, .inl (cA 1, 32, .inl L_ground_lengths)), (L_grounda_offsets, .inl (cA 1, 32, .inl L_ground_offsets)), (L_joins, .inr (2, [.ref L_joinsa_next, .ref L_joinsa_before, .int (z_i L_joins_least), .int (z_i L_joins_last)])), (L_joinsa_next, .inl (cA 1, 2560, .inl L_joins_next)), (L_joinsa_before, .inl (cA 1, 2560, .inl L_joins_before)), (La_heights, .inl (cA 1, 16, .inl L_heights)), (La_sides, .inl (cA 1, 8000, .inl L_sides)), (La_firsts, .inl (cA 1, 401, .inl L_firsts)), (La_levelIndex, .inl (cA 1, 400, .inl L_levelIndex)), (La_closed, .inl (cA 0, 400, .inl L_closed)), (L_there, .inr (0, [.ref L_therea_masks, .int (z_i L_there_size)])), (L_therea_masks, .inl (cA 2, 32, .inr (.inl L_there_masks))), (L_inner, .inr (0, [.ref L_innera_masks, .int (z_i L_inner_size)])), (L_innera_masks, .inl (cA 2, 32, .inr (.inl L_inner_masks))), (L_outer, .inr (0, [.ref L_outera_masks, .int (z_i L_outer_size)])), (L_outera_masks, .inl (cA 2, 32, .inr (.inl L_outer_masks)))])) (va_Qi (z_ri Q) (fun _ _ => True) (fun _ => False)) 0 0 (fun _ => False) := by
  unfold vc_X4_levelOf at hv
  refine Met.ofW (cc := cX4_levelOf) (maxL := 2) (ret := (some .int)) (by decide +kernel) rfl ?_
  intro p e s m args below meth c s₁ B hml hv0
  obtain ⟨rfl, hK, hP⟩ := hv0
  have hx := B.exec
  have hb := B.bytes
  have hr := B.returns
  have hts := atoms_spec (ws := wsX4_levelOf) B.pre
  have hown : s.vm.findClass RX4 = some m.cls := findClass_of_methodNamed B.named
  have hlocks := B.notSynchronized
  have hS : va_S (fun _ : Nat => False) s.heap s.heap [] := va_S.rf
  have hl := lv_entry ([.ref L, .int (z_i k)]) (n := 2) (Nat.le_of_ble_eq_true rfl)
  rw [lg_entry_eq]
  generalize (lg_sl ([.ref L, .int (z_i k)]) ++ List.replicate (2 - (lg_sl ([.ref L, .int (z_i k)])).length) Slot.unset).toArray = ls at hl ⊢
  have hl : lv_has ls 2 [(0, .ref L), (1, .int (z_i k))] := hl
  refine lv_aload_n hx hb dX4_levelOf_0 rfl (lv_at hl 0 rfl) ?_
  refine lv_iload_n hx hb dX4_levelOf_1 rfl (lv_at hl 1 rfl) ?_
  obtain ⟨g1, hv⟩ := hv
  obtain ⟨hp2, hv⟩ := hv
  refine va_calli (va_runV (As := [.int (z_i k)]) (rest := []) ⟨hx, hb, hml, hown, hts⟩ (mt_X4_has l D cA L L_ground L_grounda_units L_ground_units L_grounda_lengths L_ground_lengths L_grounda_offsets L_ground_offsets L_ground_step L_joins L_joinsa_next L_joins_next L_joinsa_before L_joins_before L_joins_least L_joins_last La_heights L_heights La_sides L_sides La_firsts L_firsts La_levelIndex L_levelIndex La_closed L_closed L_there L_therea_masks L_there_masks L_there_size L_inner L_innera_masks L_inner_masks L_inner_size L_outer L_outera_masks L_outer_masks L_outer_size L_size L_full k h_L_ground_step h_L_joins_least h_L_joins_last h_L_there_size h_L_inner_size h_L_outer_size h_L_size h_L_full h_k g1 hp2) (cwV 1 hts gX4_levelOf_X4_has rfl rfl rfl (by decide +kernel) ⟨Nat.le_of_ble_eq_true rfl, Nat.le_of_ble_eq_true rfl⟩) ⟨z_bl0, va_recv hK hP (ci := 3) (q0 := 0) rfl rfl, fun U hU hW => ⟨rfl, z_b0 hK hP hU hW⟩⟩ rfl rfl hl.1 rfl (lv_room (Nat.le_of_ble_eq_true rfl)) dX4_levelOf_2 ⟨Nat.zero_le _, Nat.zero_le _⟩) hS (fun q _ h => h.elim) (fun q h => h.elim) (fun r0 u t H locs ht hvm hw hB hz1 hk1 hS => ?_)
  obtain ⟨r3, rfl, h_r3, hw⟩ := hw
  have hP := z_P_all hP hk1
  have hv := hv r3 h_r3 hw
  refine lx_if_eq (tgt := 17) hx hb dX4_levelOf_5 (by decide) h_r3 (fun hc => ?_) (fun hc => ?_)
  · have hv := hv.1 hc
    refine lv_iconst (v := z_i (-1)) hx hb dX4_levelOf_17 rfl ?_
    exact W.iret (v := z_i (-1)) hx hb hr (fun t ht hW => ⟨⟨z_i (-1), (), rfl, ⟨-1, rfl, (show z_in (-1) from ⟨by decide, by decide⟩), hv⟩, trivial⟩, hS.F ht⟩) hS.2.2 dX4_levelOf_18
  · have hv := hv.2 hc
    refine lv_aload_n hx hb dX4_levelOf_8 rfl (lv_at hl 0 rfl) ?_
    refine va_get (D := D) (ci := 3) (v := .ref La_levelIndex) (C := RX4) (T := TX4) (N := 12) hx hb hts (fun w h => List.mem_cons_of_mem _ (List.mem_append_right _ h)) hown hK hP 0 rfl rfl 5 (by decide) (hts (.fieldLink RX4 35 "ContourSheets$Lines" "levelIndex" "[I") (by decide +kernel)) (fun _ h9 => h9) rfl dX4_levelOf_9 ?_
    refine lv_iload_n hx hb dX4_levelOf_12 rfl (lv_at hl 1 rfl) ?_
    obtain ⟨hi4, hv⟩ := hv
    refine lx_iald hx hb hK hP 11 1 rfl rfl (by decide) hi4.1 hi4.2 dX4_levelOf_13 ?_
    refine lv_goto (tgt := 18) hx hb dX4_levelOf_14 (by decide) ?_
    exact W.iret (v := z_i (z_g L_levelIndex k)) hx hb hr (fun t ht hW => ⟨⟨z_i (z_g L_levelIndex k), (), rfl, ⟨z_g L_levelIndex k, rfl, (z_in_g _ _), hv⟩, trivial⟩, hS.F ht⟩) hS.2.2 dX4_levelOf_18
set_option maxHeartbeats 4000000 in
set_option maxRecDepth 100000 in
theorem mt_X4_levelOf (l : Launch) (D : va_G) (cA : Nat → ClassId) (L : Nat) (L_ground : Nat) (L_grounda_units : Nat) (L_ground_units : Nat → Int32) (L_grounda_lengths : Nat) (L_ground_lengths : Nat → Int32) (L_grounda_offsets : Nat) (L_ground_offsets : Nat → Int32) (L_ground_step : Int) (L_joins : Nat) (L_joinsa_next : Nat) (L_joins_next : Nat → Int32) (L_joinsa_before : Nat) (L_joins_before : Nat → Int32) (L_joins_least : Int) (L_joins_last : Int) (La_heights : Nat) (L_heights : Nat → Int32) (La_sides : Nat) (L_sides : Nat → Int32) (La_firsts : Nat) (L_firsts : Nat → Int32) (La_levelIndex : Nat) (L_levelIndex : Nat → Int32) (La_closed : Nat) (L_closed : Nat → Int32) (L_there : Nat) (L_therea_masks : Nat) (L_there_masks : Nat → Int64) (L_there_size : Int) (L_inner : Nat) (L_innera_masks : Nat) (L_inner_masks : Nat → Int64) (L_inner_size : Int) (L_outer : Nat) (L_outera_masks : Nat) (L_outer_masks : Nat → Int64) (L_outer_size : Int) (L_size : Int) (L_full : Int) (k : Int) (h_L_ground_step : z_in L_ground_step) (h_L_joins_least : z_in L_joins_least) (h_L_joins_last : z_in L_joins_last) (h_L_there_size : z_in L_there_size) (h_L_inner_size : z_in L_inner_size) (h_L_outer_size : z_in L_outer_size) (h_L_size : z_in L_size) (h_L_full : z_in L_full) (h_k : z_in k) (ls : List d_L) (hp1 : d_C ls L_sides L_firsts L_levelIndex L_closed L_size) : Met l yX4_levelOf wsX4_levelOf ({ frames := 1, cells := 0, slots := 0, locals := 21 } : Room) (va_Pc [.ref L, .int (z_i k)] (z_B0 D cA [(L, .inr (3, [.ref L_ground, .ref L_joins, .ref La_heights, .ref La_sides, .ref La_firsts, .ref La_levelIndex, .ref La_closed, .ref L_there, .ref L_inner, .ref L_outer, .int (z_i L_size), .int (z_i L_full)])), (L_ground, .inr (1, [.ref L_grounda_units, .ref L_grounda_lengths, .ref L_grounda_offsets, .int (z_i L_ground_step)])), (L_grounda_units, .inl (cA 1, 1280, .inl L_ground_units)), (L_grounda_lengths, .inl (cA 1, 32, .inl L_ground_lengths)), (L_grounda_offsets, .inl (cA 1, 32, .inl L_ground_offsets)), (L_joins, .inr (2, [.ref L_joinsa_next, .ref L_joinsa_before, .int (z_i L_joins_least), .int (z_i L_joins_last)])), (L_joinsa_next, .inl (cA 1, 2560, .inl L_joins_next)), (L_joinsa_before, .inl (cA 1, 2560, .inl L_joins_before)), (La_heights, .inl (cA 1, 16, .inl L_heights)), (La_sides, .inl (cA 1, 8000, .inl L_sides)), (La_firsts, .inl (cA 1, 401, .inl L_firsts)), (La_levelIndex, .inl (cA 1, 400, .inl L_levelIndex)), (La_closed, .inl (cA 0, 400, .inl L_closed)), (L_there, .inr (0, [.ref L_therea_masks, .int (z_i L_there_size)])), (L_therea_masks, .inl (cA 2, 32, .inr (.inl L_there_masks))), (L_inner, .inr (0, [.ref L_innera_masks, .int (z_i L_inner_size)])), (L_innera_masks, .inl (cA 2, 32, .inr (.inl L_inner_masks))), (L_outer, .inr (0, [.ref L_outera_masks, .int (z_i L_outer_size)])), (L_outera_masks, .inl (cA 2, 32, .inr (.inl L_outer_masks)))])) (va_Qi (z_ri (fun (r : Int) => r = (l_at ls k).1)) (fun _ _ => True) (fun _ => False)) 0 0 (fun _ => False) := by
  refine wk_X4_levelOf l D cA L L_ground L_grounda_units L_ground_units L_grounda_lengths L_ground_lengths L_grounda_offsets L_ground_offsets L_ground_step L_joins L_joinsa_next L_joins_next L_joinsa_before L_joins_before L_joins_least L_joins_last La_heights L_heights La_sides L_sides La_firsts L_firsts La_levelIndex L_levelIndex La_closed L_closed L_there L_therea_masks L_there_masks L_there_size L_inner L_innera_masks L_inner_masks L_inner_size L_outer L_outera_masks L_outer_masks L_outer_size L_size L_full k h_L_ground_step h_L_joins_least h_L_joins_last h_L_there_size h_L_inner_size h_L_outer_size h_L_size h_L_full h_k (fun (r : Int) => r = (l_at ls k).1) ?_
  unfold vc_X4_levelOf
  refine ⟨ls, hp1, ?_⟩
  rintro r1 h1 rfl
  unfold l_has
  by_cases h : 0 ≤ k ∧ k < (ls.length : Int)
  case neg =>
    rw [decide_eq_false h, l_at_f h]
    exact ⟨fun _ => rfl, fun q => absurd rfl q⟩
  rw [decide_eq_true h]
  have c2 := hp1.2.1
  obtain ⟨d1, d2, d3, d4, d5, d6⟩ := d_C_at hp1 h.1 h.2
  refine ⟨fun q => absurd q (by decide), fun _ => ?_⟩
  
  rw [d1]
  exact ⟨⟨by omega, by omega⟩, rfl⟩
def vc_X4_levelUnits (L_heights : Nat → Int32) (L_sides : Nat → Int32) (L_firsts : Nat → Int32) (L_levelIndex : Nat → Int32) (L_closed : Nat → Int32) (L_size : Int) (k : Int) (Q : Int → Prop) : Prop :=
(∃ g1 : List d_L, (d_C g1 L_sides L_firsts L_levelIndex L_closed L_size) ∧ (∀ (r3 : Int), z_in r3 → (r3 = (l_at g1 k).1) → ((r3 < 0 → Q 0) ∧
(r3 ≥ 0 → ((r3 < 16 → (0 ≤ r3 ∧ r3 < 16) ∧ Q (z_g L_heights r3)) ∧
(r3 ≥ 16 → Q 0))))))
set_option maxHeartbeats 4000000 in
set_option maxRecDepth 100000 in
theorem wk_X4_levelUnits (l : Launch) (D : va_G) (cA : Nat → ClassId) (L : Nat) (L_ground : Nat) (L_grounda_units : Nat) (L_ground_units : Nat → Int32) (L_grounda_lengths : Nat) (L_ground_lengths : Nat → Int32) (L_grounda_offsets : Nat) (L_ground_offsets : Nat → Int32) (L_ground_step : Int) (L_joins : Nat) (L_joinsa_next : Nat) (L_joins_next : Nat → Int32) (L_joinsa_before : Nat) (L_joins_before : Nat → Int32) (L_joins_least : Int) (L_joins_last : Int) (La_heights : Nat) (L_heights : Nat → Int32) (La_sides : Nat) (L_sides : Nat → Int32) (La_firsts : Nat) (L_firsts : Nat → Int32) (La_levelIndex : Nat) (L_levelIndex : Nat → Int32) (La_closed : Nat) (L_closed : Nat → Int32) (L_there : Nat) (L_therea_masks : Nat) (L_there_masks : Nat → Int64) (L_there_size : Int) (L_inner : Nat) (L_innera_masks : Nat) (L_inner_masks : Nat → Int64) (L_inner_size : Int) (L_outer : Nat) (L_outera_masks : Nat) (L_outer_masks : Nat → Int64) (L_outer_size : Int) (L_size : Int) (L_full : Int) (k : Int) (h_L_ground_step : z_in L_ground_step) (h_L_joins_least : z_in L_joins_least) (h_L_joins_last : z_in L_joins_last) (h_L_there_size : z_in L_there_size) (h_L_inner_size : z_in L_inner_size) (h_L_outer_size : z_in L_outer_size) (h_L_size : z_in L_size) (h_L_full : z_in L_full) (h_k : z_in k) (Q : Int → Prop) (hv : vc_X4_levelUnits L_heights L_sides L_firsts L_levelIndex L_closed L_size k Q) : Met l yX4_levelUnits wsX4_levelUnits ({ frames := 2, cells := 0, slots := 0, locals := 42 } : Room) (va_Pc [.ref L, .int (z_i k)] (z_B0 D cA [(L, .inr (3, [.ref L_ground, .ref L_joins, .ref La_heights, .ref La_sides, .ref La_firsts, .ref La_levelIndex, .ref La_closed, .ref L_there, .ref L_inner, .ref L_outer, .int (z_i L_size), .int (z_i L_full)])), (L_ground, .inr (1, [.ref L_grounda_units, .ref L_grounda_lengths, .ref L_grounda_offsets, .int (z_i L_ground_step)])), (L_grounda_units, .inl (cA 1, 1280, .inl L_ground_units)), (L_grounda_lengths, .inl (cA 1, 32, .inl L_ground_lengths)), (L_grounda_offsets, .inl (cA 1, 32, .inl L_ground_offsets)), (L_joins, .inr (2, [.ref L_joinsa_next, .ref L_joinsa_before, .int (z_i L_joins_least), .int (z_i L_joins_last)])), (L_joinsa_next, .inl (cA 1, 2560, .inl L_joins_next)), (L_joinsa_before, .inl (cA 1, 2560, .inl L_joins_before)), (La_heights, .inl (cA 1, 16, .inl L_heights)), (La_sides, .inl (cA 1, 8000, .inl L_sides)), (La_firsts, .inl (cA 1, 401, .inl L_firsts)), (La_levelIndex, .inl (cA 1, 400, .inl L_levelIndex)), (La_closed, .inl (cA 0, 400, .inl L_closed)), (L_there, .inr (0, [.ref L_therea_masks, .int (z_i L_there_size)])), (L_therea_masks, .inl (cA 2, 32, .inr (.inl L_there_masks))), (L_inner, .inr (0, [.ref L_innera_masks, .int (z_i L_inner_size)])), (L_innera_masks, .inl (cA 2, 32, .inr (.inl L_inner_masks))), (L_outer, .inr (0, [.ref L_outera_masks, .int (z_i L_outer_size)])), (L_outera_masks, .inl (cA 2, 32, .inr (.inl L_outer_masks)))])) (va_Qi (z_ri Q) (fun _ _ => True) (fun _ => False)) 0 0 (fun _ => False) := by
  unfold vc_X4_levelUnits at hv
  refine Met.ofW (cc := cX4_levelUnits) (maxL := 3) (ret := (some .int)) (by decide +kernel) rfl ?_
  intro p e s m args below meth c s₁ B hml hv0
  obtain ⟨rfl, hK, hP⟩ := hv0
  have hx := B.exec
  have hb := B.bytes
  have hr := B.returns
  have hts := atoms_spec (ws := wsX4_levelUnits) B.pre
  have hown : s.vm.findClass RX4 = some m.cls := findClass_of_methodNamed B.named
  have hlocks := B.notSynchronized
  have hS : va_S (fun _ : Nat => False) s.heap s.heap [] := va_S.rf
  have hl := lv_entry ([.ref L, .int (z_i k)]) (n := 3) (Nat.le_of_ble_eq_true rfl)
  rw [lg_entry_eq]
  generalize (lg_sl ([.ref L, .int (z_i k)]) ++ List.replicate (3 - (lg_sl ([.ref L, .int (z_i k)])).length) Slot.unset).toArray = ls at hl ⊢
  have hl : lv_has ls 3 [(0, .ref L), (1, .int (z_i k))] := hl
  refine lv_aload_n hx hb dX4_levelUnits_0 rfl (lv_at hl 0 rfl) ?_
  refine lv_iload_n hx hb dX4_levelUnits_1 rfl (lv_at hl 1 rfl) ?_
  obtain ⟨g1, hv⟩ := hv
  obtain ⟨hp2, hv⟩ := hv
  refine va_calli (va_runV (As := [.int (z_i k)]) (rest := []) ⟨hx, hb, hml, hown, hts⟩ (mt_X4_levelOf l D cA L L_ground L_grounda_units L_ground_units L_grounda_lengths L_ground_lengths L_grounda_offsets L_ground_offsets L_ground_step L_joins L_joinsa_next L_joins_next L_joinsa_before L_joins_before L_joins_least L_joins_last La_heights L_heights La_sides L_sides La_firsts L_firsts La_levelIndex L_levelIndex La_closed L_closed L_there L_therea_masks L_there_masks L_there_size L_inner L_innera_masks L_inner_masks L_inner_size L_outer L_outera_masks L_outer_masks L_outer_size L_size L_full k h_L_ground_step h_L_joins_least h_L_joins_last h_L_there_size h_L_inner_size h_L_outer_size h_L_size h_L_full h_k g1 hp2) (cwV 1 hts gX4_levelUnits_X4_levelOf rfl rfl rfl (by decide +kernel) ⟨Nat.le_of_ble_eq_true rfl, Nat.le_of_ble_eq_true rfl⟩) ⟨z_bl0, va_recv hK hP (ci := 3) (q0 := 0) rfl rfl, fun U hU hW => ⟨rfl, z_b0 hK hP hU hW⟩⟩ rfl rfl hl.1 rfl (lv_room (Nat.le_of_ble_eq_true rfl)) dX4_levelUnits_2 ⟨Nat.zero_le _, Nat.zero_le _⟩) hS (fun q _ h => h.elim) (fun q h => h.elim) (fun r0 u t H locs ht hvm hw hB hz1 hk1 hS => ?_)
  obtain ⟨r3, rfl, h_r3, hw⟩ := hw
  have hP := z_P_all hP hk1
  have hv := hv r3 h_r3 hw
  refine lv_istore_n (lv' := [(2, .int (z_i r3)), (0, .ref L), (1, .int (z_i k))]) hx hb dX4_levelUnits_5 rfl hl (by decide) rfl (fun ls hl => ?_)
  refine lv_iload_n hx hb dX4_levelUnits_6 rfl (lv_at hl 0 rfl) ?_
  refine lx_if_lt (tgt := 16) hx hb dX4_levelUnits_7 (by decide) h_r3 (fun hc => ?_) (fun hc => ?_)
  · have hv := hv.1 hc
    refine lv_iconst (v := z_i 0) hx hb dX4_levelUnits_16 rfl ?_
    refine lv_goto (tgt := 26) hx hb dX4_levelUnits_17 (by decide) ?_
    exact W.iret (v := z_i 0) hx hb hr (fun t ht hW => ⟨⟨z_i 0, (), rfl, ⟨0, rfl, (show z_in 0 from ⟨by decide, by decide⟩), hv⟩, trivial⟩, hS.F ht⟩) hS.2.2 dX4_levelUnits_26
  · have hv := hv.2 hc
    refine lv_iload_n hx hb dX4_levelUnits_10 rfl (lv_at hl 0 rfl) ?_
    refine lv_bipush (v := z_i 16) hx hb dX4_levelUnits_11 (by decide) ?_
    refine lx_icmp_lt (tgt := 20) hx hb dX4_levelUnits_13 (by decide) h_r3 (show z_in 16 from ⟨by decide, by decide⟩) (fun hc => ?_) (fun hc => ?_)
    · have hv := hv.1 hc
      refine lv_aload_n hx hb dX4_levelUnits_20 rfl (lv_at hl 1 rfl) ?_
      refine va_get (D := D) (ci := 3) (v := .ref La_heights) (C := RX4) (T := TX4) (N := 12) hx hb hts (fun w h => List.mem_cons_of_mem _ (List.mem_append_right _ h)) hown hK hP 0 rfl rfl 2 (by decide) (hts (.fieldLink RX4 25 "ContourSheets$Lines" "heights" "[I") (by decide +kernel)) (fun _ h9 => h9) rfl dX4_levelUnits_21 ?_
      refine lv_iload_n hx hb dX4_levelUnits_24 rfl (lv_at hl 0 rfl) ?_
      obtain ⟨hi4, hv⟩ := hv
      refine lx_iald hx hb hK hP 8 1 rfl rfl (by decide) hi4.1 hi4.2 dX4_levelUnits_25 ?_
      exact W.iret (v := z_i (z_g L_heights r3)) hx hb hr (fun t ht hW => ⟨⟨z_i (z_g L_heights r3), (), rfl, ⟨z_g L_heights r3, rfl, (z_in_g _ _), hv⟩, trivial⟩, hS.F ht⟩) hS.2.2 dX4_levelUnits_26
    · have hv := hv.2 hc
      refine lv_iconst (v := z_i 0) hx hb dX4_levelUnits_16 rfl ?_
      refine lv_goto (tgt := 26) hx hb dX4_levelUnits_17 (by decide) ?_
      exact W.iret (v := z_i 0) hx hb hr (fun t ht hW => ⟨⟨z_i 0, (), rfl, ⟨0, rfl, (show z_in 0 from ⟨by decide, by decide⟩), hv⟩, trivial⟩, hS.F ht⟩) hS.2.2 dX4_levelUnits_26
set_option maxHeartbeats 4000000 in
set_option maxRecDepth 100000 in
theorem mt_X4_levelUnits (l : Launch) (D : va_G) (cA : Nat → ClassId) (L : Nat) (L_ground : Nat) (L_grounda_units : Nat) (L_ground_units : Nat → Int32) (L_grounda_lengths : Nat) (L_ground_lengths : Nat → Int32) (L_grounda_offsets : Nat) (L_ground_offsets : Nat → Int32) (L_ground_step : Int) (L_joins : Nat) (L_joinsa_next : Nat) (L_joins_next : Nat → Int32) (L_joinsa_before : Nat) (L_joins_before : Nat → Int32) (L_joins_least : Int) (L_joins_last : Int) (La_heights : Nat) (L_heights : Nat → Int32) (La_sides : Nat) (L_sides : Nat → Int32) (La_firsts : Nat) (L_firsts : Nat → Int32) (La_levelIndex : Nat) (L_levelIndex : Nat → Int32) (La_closed : Nat) (L_closed : Nat → Int32) (L_there : Nat) (L_therea_masks : Nat) (L_there_masks : Nat → Int64) (L_there_size : Int) (L_inner : Nat) (L_innera_masks : Nat) (L_inner_masks : Nat → Int64) (L_inner_size : Int) (L_outer : Nat) (L_outera_masks : Nat) (L_outer_masks : Nat → Int64) (L_outer_size : Int) (L_size : Int) (L_full : Int) (k : Int) (h_L_ground_step : z_in L_ground_step) (h_L_joins_least : z_in L_joins_least) (h_L_joins_last : z_in L_joins_last) (h_L_there_size : z_in L_there_size) (h_L_inner_size : z_in L_inner_size) (h_L_outer_size : z_in L_outer_size) (h_L_size : z_in L_size) (h_L_full : z_in L_full) (h_k : z_in k) (ls : List d_L) (hp1 : d_C ls L_sides L_firsts L_levelIndex L_closed L_size) : Met l yX4_levelUnits wsX4_levelUnits ({ frames := 2, cells := 0, slots := 0, locals := 42 } : Room) (va_Pc [.ref L, .int (z_i k)] (z_B0 D cA [(L, .inr (3, [.ref L_ground, .ref L_joins, .ref La_heights, .ref La_sides, .ref La_firsts, .ref La_levelIndex, .ref La_closed, .ref L_there, .ref L_inner, .ref L_outer, .int (z_i L_size), .int (z_i L_full)])), (L_ground, .inr (1, [.ref L_grounda_units, .ref L_grounda_lengths, .ref L_grounda_offsets, .int (z_i L_ground_step)])), (L_grounda_units, .inl (cA 1, 1280, .inl L_ground_units)), (L_grounda_lengths, .inl (cA 1, 32, .inl L_ground_lengths)), (L_grounda_offsets, .inl (cA 1, 32, .inl L_ground_offsets)), (L_joins, .inr (2, [.ref L_joinsa_next, .ref L_joinsa_before, .int (z_i L_joins_least), .int (z_i L_joins_last)])), (L_joinsa_next, .inl (cA 1, 2560, .inl L_joins_next)), (L_joinsa_before, .inl (cA 1, 2560, .inl L_joins_before)), (La_heights, .inl (cA 1, 16, .inl L_heights)), (La_sides, .inl (cA 1, 8000, .inl L_sides)), (La_firsts, .inl (cA 1, 401, .inl L_firsts)), (La_levelIndex, .inl (cA 1, 400, .inl L_levelIndex)), (La_closed, .inl (cA 0, 400, .inl L_closed)), (L_there, .inr (0, [.ref L_therea_masks, .int (z_i L_there_size)])), (L_therea_masks, .inl (cA 2, 32, .inr (.inl L_there_masks))), (L_inner, .inr (0, [.ref L_innera_masks, .int (z_i L_inner_size)])), (L_innera_masks, .inl (cA 2, 32, .inr (.inl L_inner_masks))), (L_outer, .inr (0, [.ref L_outera_masks, .int (z_i L_outer_size)])), (L_outera_masks, .inl (cA 2, 32, .inr (.inl L_outer_masks)))])) (va_Qi (z_ri (fun (r : Int) => r = l_lu ls L_heights k)) (fun _ _ => True) (fun _ => False)) 0 0 (fun _ => False) := by
  refine wk_X4_levelUnits l D cA L L_ground L_grounda_units L_ground_units L_grounda_lengths L_ground_lengths L_grounda_offsets L_ground_offsets L_ground_step L_joins L_joinsa_next L_joins_next L_joinsa_before L_joins_before L_joins_least L_joins_last La_heights L_heights La_sides L_sides La_firsts L_firsts La_levelIndex L_levelIndex La_closed L_closed L_there L_therea_masks L_there_masks L_there_size L_inner L_innera_masks L_inner_masks L_inner_size L_outer L_outera_masks L_outer_masks L_outer_size L_size L_full k h_L_ground_step h_L_joins_least h_L_joins_last h_L_there_size h_L_inner_size h_L_outer_size h_L_size h_L_full h_k (fun (r : Int) => r = l_lu ls L_heights k) ?_
  unfold vc_X4_levelUnits
  refine ⟨ls, hp1, ?_⟩
  rintro r1 h1 rfl
  unfold l_lu
  refine ⟨fun q => (if_neg (by omega)).symm, fun q => ⟨fun q2 => ⟨⟨q, q2⟩, (if_pos ⟨q, q2⟩).symm⟩, fun q2 => (if_neg (by omega)).symm⟩⟩
def vc_X4_otherEnd (sd : Int) (Q : Int → Prop) : Prop :=
((z_and sd 1 ≠ 0 → z_in ((sd.tdiv 2) + 40) ∧ Q ((sd.tdiv 2) + 40)) ∧
(z_and sd 1 = 0 → z_in ((sd.tdiv 2) + 1) ∧ Q ((sd.tdiv 2) + 1)))
set_option maxHeartbeats 4000000 in
set_option maxRecDepth 100000 in
theorem wk_X4_otherEnd (l : Launch) (D : va_G) (cA : Nat → ClassId) (sd : Int) (h_sd : z_in sd) (Q : Int → Prop) (hv : vc_X4_otherEnd sd Q) : Met l yX4_otherEnd wsX4_otherEnd ({ frames := 0, cells := 0, slots := 0, locals := 0 } : Room) (va_Pc [.int (z_i sd)] (z_B0 D cA [])) (va_Qi (z_ri Q) (fun _ _ => True) (fun _ => False)) 0 0 (fun _ => False) := by
  unfold vc_X4_otherEnd at hv
  refine Met.ofW (cc := cX4_otherEnd) (maxL := 1) (ret := (some .int)) (by decide +kernel) rfl ?_
  intro p e s m args below meth c s₁ B hml hv0
  obtain ⟨rfl, hK, hP⟩ := hv0
  have hx := B.exec
  have hb := B.bytes
  have hr := B.returns
  have hts := atoms_spec (ws := wsX4_otherEnd) B.pre
  have hown : s.vm.findClass RX4 = some m.cls := findClass_of_methodNamed B.named
  have hlocks := B.notSynchronized
  have hS : va_S (fun _ : Nat => False) s.heap s.heap [] := va_S.rf
  have hl := lv_entry ([.int (z_i sd)]) (n := 1) (Nat.le_of_ble_eq_true rfl)
  rw [lg_entry_eq]
  generalize (lg_sl ([.int (z_i sd)]) ++ List.replicate (1 - (lg_sl ([.int (z_i sd)])).length) Slot.unset).toArray = ls at hl ⊢
  have hl : lv_has ls 1 [(0, .int (z_i sd))] := hl
  refine lv_iload_n hx hb dX4_otherEnd_0 rfl (lv_at hl 0 rfl) ?_
  refine lv_iconst (v := z_i 2) hx hb dX4_otherEnd_1 rfl ?_
  refine lx_idiv hx hb dX4_otherEnd_2 h_sd (show z_in 2 from ⟨by decide, by decide⟩) (by decide) ?_
  refine lv_iload_n hx hb dX4_otherEnd_3 rfl (lv_at hl 0 rfl) ?_
  refine lv_iconst (v := z_i 1) hx hb dX4_otherEnd_4 rfl ?_
  refine lx_iand hx hb dX4_otherEnd_5 ?_
  refine lx_if_ne (tgt := 13) hx hb dX4_otherEnd_6 (by decide) (z_in_of _) (fun hc => ?_) (fun hc => ?_)
  · have hv := hv.1 hc
    refine lv_bipush (v := z_i 40) hx hb dX4_otherEnd_13 (by decide) ?_
    refine lx_iadd hx hb dX4_otherEnd_15 ?_
    obtain ⟨hr1, hv⟩ := hv
    exact W.iret (v := z_i ((sd.tdiv 2) + 40)) hx hb hr (fun t ht hW => ⟨⟨z_i ((sd.tdiv 2) + 40), (), rfl, ⟨(sd.tdiv 2) + 40, rfl, hr1, hv⟩, trivial⟩, hS.F ht⟩) hS.2.2 dX4_otherEnd_16
  · have hv := hv.2 hc
    refine lv_iconst (v := z_i 1) hx hb dX4_otherEnd_9 rfl ?_
    refine lv_goto (tgt := 15) hx hb dX4_otherEnd_10 (by decide) ?_
    refine lx_iadd hx hb dX4_otherEnd_15 ?_
    obtain ⟨hr2, hv⟩ := hv
    exact W.iret (v := z_i ((sd.tdiv 2) + 1)) hx hb hr (fun t ht hW => ⟨⟨z_i ((sd.tdiv 2) + 1), (), rfl, ⟨(sd.tdiv 2) + 1, rfl, hr2, hv⟩, trivial⟩, hS.F ht⟩) hS.2.2 dX4_otherEnd_16
set_option maxHeartbeats 4000000 in
set_option maxRecDepth 100000 in
theorem mt_X4_otherEnd (l : Launch) (D : va_G) (cA : Nat → ClassId) (sd : Int) (h_sd : z_in sd) (hp1 : 0 ≤ sd ∧ sd < 2560) : Met l yX4_otherEnd wsX4_otherEnd ({ frames := 0, cells := 0, slots := 0, locals := 0 } : Room) (va_Pc [.int (z_i sd)] (z_B0 D cA [])) (va_Qi (z_ri (fun (r : Int) => r = l_oe sd)) (fun _ _ => True) (fun _ => False)) 0 0 (fun _ => False) := by
  refine wk_X4_otherEnd l D cA sd h_sd (fun (r : Int) => r = l_oe sd) ?_
  unfold vc_X4_otherEnd
  rw [z_and_1i hp1.1, Int.tdiv_eq_ediv_of_nonneg hp1.1]
  unfold l_oe
  refine ⟨fun q => ⟨⟨by omega, by omega⟩, by rw [if_neg q]⟩, fun q => ⟨⟨by omega, by omega⟩, by rw [if_pos q]⟩⟩
