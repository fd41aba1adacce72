/-! a heap of longs: what it holds, its order, all different -/
def hp_S (h : Nat → Int64) (k x : Int) : Prop := ∃ i : Int, 0 ≤ i ∧ i < k ∧ z_gl h i = x
def hp_ok (h : Nat → Int64) (k : Int) : Prop := (0 ≤ k ∧ k ≤ 1280) ∧ (∀ i : Int, 0 < i → i < k → z_gl h ((i - 1) / 2) ≤ z_gl h i) ∧ ∀ i j : Int, 0 ≤ i → i < k → 0 ≤ j → j < k → z_gl h i = z_gl h j → i = j
theorem hp_min {h : Nat → Int64} {k : Int} (H : hp_ok h k) : ∀ (n : Nat) (i : Int), i.toNat ≤ n → 0 ≤ i → i < k → z_gl h 0 ≤ z_gl h i := by
  intro n
  induction n with
  | zero =>
    intro i h1 h2 h3
    have : i = 0 := by omega
    subst this
    exact Int.le_refl _
  | succ n ih =>
    intro i h1 h2 h3
    by_cases h0 : i = 0
    · subst h0; exact Int.le_refl _
    · have a := H.2.1 i (by omega) h3
      have b := ih ((i - 1) / 2) (by omega) (by omega) (by omega)
      omega
/-- the heap with a hole at a place, a key in it -/
def hp_v (h : Nat → Int64) (a key i : Int) : Int := if i = a then key else z_gl h i
theorem hp_v_at {h : Nat → Int64} {a key : Int} : hp_v h a key a = key := if_pos rfl
theorem hp_v_ne {h : Nat → Int64} {a key i : Int} (hi : i ≠ a) : hp_v h a key i = z_gl h i := if_neg hi
theorem hp_swap {y : Nat → Int64} {a b key : Int} (hab : a ≠ b) (ha : 0 ≤ a) (i : Int) (hi : 0 ≤ i) : hp_v (z_sl y a (z_gl y b)) b key i = hp_v y a key (if i = b then a else if i = a then b else i) := by
  by_cases h1 : i = b
  · subst h1
    rw [hp_v_at, if_pos rfl, hp_v_at]
  · rw [hp_v_ne h1, z_gsl (z_nl_gl _ _) ha hi, if_neg h1]
    by_cases h2 : i = a
    · rw [if_pos h2, if_pos h2, hp_v_ne (fun h => hab h.symm)]
    · rw [if_neg h2, if_neg h2, hp_v_ne h2]
/-- all that the heap with the hole holds, and that it is all different -/
def hp_VS (h : Nat → Int64) (k a key x : Int) : Prop := ∃ i : Int, 0 ≤ i ∧ i < k ∧ hp_v h a key i = x
def hp_VI (h : Nat → Int64) (k a key : Int) : Prop := ∀ i j : Int, 0 ≤ i → i < k → 0 ≤ j → j < k → hp_v h a key i = hp_v h a key j → i = j
theorem hp_VS_swap {y : Nat → Int64} {k a b key : Int} (hab : a ≠ b) (ha : 0 ≤ a) (hak : a < k) (hb : 0 ≤ b) (hbk : b < k) (x : Int) : hp_VS (z_sl y a (z_gl y b)) k b key x ↔ hp_VS y k a key x := by
  constructor
  · rintro ⟨i, h0, h1, rfl⟩
    refine ⟨if i = b then a else if i = a then b else i, ?_, ?_, (hp_swap hab ha i h0).symm⟩
    · split <;> (try split) <;> omega
    · split <;> (try split) <;> omega
  · rintro ⟨i, h0, h1, rfl⟩
    refine ⟨if i = b then a else if i = a then b else i, ?_, ?_, ?_⟩
    · split <;> (try split) <;> omega
    · split <;> (try split) <;> omega
    · rw [hp_swap hab ha _ (by split <;> (try split) <;> omega)]
      congr 1
      by_cases h2 : i = b
      · rw [if_pos h2, if_neg hab, if_pos rfl, h2]
      · rw [if_neg h2]
        by_cases h3 : i = a
        · rw [if_pos h3, if_pos rfl, h3]
        · rw [if_neg h3, if_neg h2, if_neg h3]
theorem hp_VI_swap {y : Nat → Int64} {k a b key : Int} (hab : a ≠ b) (ha : 0 ≤ a) (hak : a < k) (hb : 0 ≤ b) (hbk : b < k) (h : hp_VI y k a key) : hp_VI (z_sl y a (z_gl y b)) k b key := by
  intro i j h0 h1 h2 h3 e
  rw [hp_swap hab ha i h0, hp_swap hab ha j h2] at e
  have := h _ _ (by split <;> (try split) <;> omega) (by split <;> (try split) <;> omega) (by split <;> (try split) <;> omega) (by split <;> (try split) <;> omega) e
  split at this <;> split at this <;> (try split at this) <;> (try split at this) <;> omega
theorem hp_fill {y : Nat → Int64} {a key : Int} (hk : z_nl key) (ha : 0 ≤ a) (i : Int) (hi : 0 ≤ i) : z_gl (z_sl y a key) i = hp_v y a key i := by
  rw [z_gsl hk ha hi]
  rfl
/-- the lesser child -/
def hp_lc (h : Nat → Int64) (k a : Int) : Int := if 2 * a + 1 + 1 < k ∧ z_gl h (2 * a + 1 + 1) < z_gl h (2 * a + 1) then 2 * a + 1 + 1 else 2 * a + 1
theorem hp_lc_or (h : Nat → Int64) (k a : Int) : hp_lc h k a = 2 * a + 1 ∨ (hp_lc h k a = 2 * a + 1 + 1 ∧ 2 * a + 1 + 1 < k) := by
  unfold hp_lc
  split
  · next q => exact Or.inr ⟨rfl, q.1⟩
  · exact Or.inl rfl
theorem hp_lc_le {h : Nat → Int64} {k a i : Int} (hi : i < k) (h2 : i = 2 * a + 1 ∨ i = 2 * a + 1 + 1) : z_gl h (hp_lc h k a) ≤ z_gl h i := by
  unfold hp_lc
  split
  · next q => rcases h2 with rfl | rfl <;> omega
  · next q =>
    rcases h2 with rfl | rfl
    · exact Int.le_refl _
    · omega
/-- going down: the order holds but below the hole -/
def hp_dn (y : Nat → Int64) (k a key : Int) : Prop := (∀ i : Int, 0 < i → i < k → (i - 1) / 2 ≠ a → hp_v y a key ((i - 1) / 2) ≤ hp_v y a key i) ∧ ∀ i : Int, 0 < i → i < k → (i - 1) / 2 = a → 0 < a → hp_v y a key ((a - 1) / 2) ≤ hp_v y a key i
theorem hp_dn_step {y : Nat → Int64} {k a key b : Int} (ha : 0 ≤ a) (hb : b = hp_lc y k a) (hbk : b < k) (hlt : z_gl y b < key) (h : hp_dn y k a key) : hp_dn (z_sl y a (z_gl y b)) k b key := by
  have hor := hp_lc_or y k a
  rw [← hb] at hor
  have hab : a ≠ b := by omega
  have hpb : (b - 1) / 2 = a := by omega
  have sw := fun i (hi : 0 ≤ i) => hp_swap (y := y) (key := key) hab ha i hi
  constructor
  · intro i h0 h1 h2
    rw [sw _ (by omega), sw _ (by omega), if_neg h2]
    by_cases e1 : i = b
    · rw [if_pos e1, e1, hpb, if_pos rfl, hp_v_ne (fun z => hab z.symm), hp_v_at]
      omega
    · rw [if_neg e1]
      by_cases e2 : i = a
      · rw [if_pos e2, if_neg (by omega), e2, hp_v_ne (fun z => hab z.symm)]
        have := h.2 b (by omega) hbk hpb (by omega)
        rw [hp_v_ne (fun z => hab z.symm)] at this
        exact this
      · rw [if_neg e2]
        by_cases e3 : (i - 1) / 2 = a
        · rw [if_pos e3, hp_v_ne (fun z => hab z.symm), hp_v_ne e2, hb]
          exact hp_lc_le h1 (by omega)
        · rw [if_neg e3]
          exact h.1 i h0 h1 e3
  · intro i h0 h1 h2 h3
    rw [sw _ (by omega), sw _ (by omega), hpb, if_neg hab, if_pos rfl, if_neg (by omega), if_neg (by omega)]
    have := h.1 i h0 h1 (by omega)
    rw [h2] at this
    exact this
theorem hp_dn_end {y : Nat → Int64} {k a key : Int} (hk : z_nl key) (hk0 : 0 ≤ k) (hk1 : k ≤ 1280) (ha : 0 ≤ a) (h : hp_dn y k a key) (hI : hp_VI y k a key) (he : k ≤ hp_lc y k a ∨ key ≤ z_gl y (hp_lc y k a)) : hp_ok (z_sl y a key) k ∧ ∀ x, hp_S (z_sl y a key) k x ↔ hp_VS y k a key x := by
  have fl := fun i (hi : 0 ≤ i) => hp_fill (y := y) hk ha i hi
  refine ⟨⟨⟨hk0, hk1⟩, fun i h0 h1 => ?_, fun i j h0 h1 h2 h3 e => ?_⟩, fun x => ⟨?_, ?_⟩⟩
  · rw [fl _ (by omega), fl _ (by omega)]
    by_cases e : (i - 1) / 2 = a
    · rw [e, hp_v_at, hp_v_ne (by omega)]
      rcases he with q | q
      · have := hp_lc_or y k a
        omega
      · have := hp_lc_le (h := y) h1 (show i = 2 * a + 1 ∨ i = 2 * a + 1 + 1 by omega)
        omega
    · exact h.1 i h0 h1 e
  · rw [fl _ h0, fl _ h2] at e
    exact hI i j h0 h1 h2 h3 e
  · rintro ⟨i, h0, h1, rfl⟩
    exact ⟨i, h0, h1, (fl i h0).symm⟩
  · rintro ⟨i, h0, h1, rfl⟩
    exact ⟨i, h0, h1, fl i h0⟩
/-- going up: the order holds but at the hole -/
def hp_up (y : Nat → Int64) (k a key : Int) : Prop := (∀ i : Int, 0 < i → i < k → i ≠ a → hp_v y a key ((i - 1) / 2) ≤ hp_v y a key i) ∧ ∀ i : Int, 0 < i → i < k → (i - 1) / 2 = a → 0 < a → hp_v y a key ((a - 1) / 2) ≤ hp_v y a key i
theorem hp_up_step {y : Nat → Int64} {k a key b : Int} (ha : 0 < a) (hak : a < k) (hb : b = (a - 1) / 2) (hlt : key < z_gl y b) (h : hp_up y k a key) : hp_up (z_sl y a (z_gl y b)) k b key := by
  have hab : a ≠ b := by omega
  have sw := fun i (hi : 0 ≤ i) => hp_swap (y := y) (key := key) hab (by omega : 0 ≤ a) i hi
  constructor
  · intro i h0 h1 h2
    rw [sw _ (by omega), sw _ (by omega), if_neg h2]
    by_cases e2 : i = a
    · rw [if_pos e2, e2, ← hb, if_pos rfl, hp_v_at, hp_v_ne (fun z => hab z.symm)]
      omega
    · rw [if_neg e2]
      by_cases e3 : (i - 1) / 2 = a
      · rw [e3, if_neg hab, if_pos rfl, hb]
        exact h.2 i h0 h1 e3 ha
      · by_cases e4 : (i - 1) / 2 = b
        · rw [if_pos e4, hp_v_at]
          have := h.1 i h0 h1 e2
          rw [e4, hp_v_ne (fun z => hab z.symm)] at this
          omega
        · rw [if_neg e4, if_neg e3]
          exact h.1 i h0 h1 e2
  · intro i h0 h1 h2 h3
    rw [sw _ (by omega), sw _ (by omega), if_neg (by omega), if_neg (by omega), if_neg (by omega)]
    have q := h.1 b h3 (by omega) (fun z => hab z.symm)
    by_cases e2 : i = a
    · rw [if_pos e2]
      exact q
    · rw [if_neg e2]
      have := h.1 i h0 h1 e2
      rw [h2] at this
      omega
theorem hp_up_end {y : Nat → Int64} {k a key : Int} (hk : z_nl key) (hk0 : 0 ≤ k) (hk1 : k ≤ 1280) (ha : 0 ≤ a) (h : hp_up y k a key) (hI : hp_VI y k a key) (he : a ≤ 0 ∨ z_gl y ((a - 1) / 2) ≤ key) : hp_ok (z_sl y a key) k ∧ ∀ x, hp_S (z_sl y a key) k x ↔ hp_VS y k a key x := by
  have fl := fun i (hi : 0 ≤ i) => hp_fill (y := y) hk ha i hi
  refine ⟨⟨⟨hk0, hk1⟩, fun i h0 h1 => ?_, fun i j h0 h1 h2 h3 e => ?_⟩, fun x => ⟨?_, ?_⟩⟩
  · rw [fl _ (by omega), fl _ (by omega)]
    by_cases e : i = a
    · rw [e, hp_v_at, hp_v_ne (by omega)]
      omega
    · exact h.1 i h0 h1 e
  · rw [fl _ h0, fl _ h2] at e
    exact hI i j h0 h1 h2 h3 e
  · rintro ⟨i, h0, h1, rfl⟩
    exact ⟨i, h0, h1, (fl i h0).symm⟩
  · rintro ⟨i, h0, h1, rfl⟩
    exact ⟨i, h0, h1, fl i h0⟩
def vc_X6_lesserChild (w_heap : Nat → Int64) (w_heapSize : Int) (at_ : Int) (Q : Int → Prop) : Prop :=
z_in ((2 * at_) + 1) ∧ (∀ v1 : Int, v1 = (2 * at_) + 1 → z_in (v1 + 1) ∧ ((v1 + 1 ≥ w_heapSize → Q v1) ∧
(v1 + 1 < w_heapSize → (0 ≤ v1 + 1 ∧ v1 + 1 < 1280) ∧ (0 ≤ v1 ∧ v1 < 1280) ∧ ((z_gl w_heap (v1 + 1) ≥ z_gl w_heap v1 → Q v1) ∧
(z_gl w_heap (v1 + 1) < z_gl w_heap v1 → Q (v1 + 1))))))
set_option maxHeartbeats 4000000 in
set_option maxRecDepth 100000 in
theorem wk_X6_lesserChild (l : Launch) (D : va_G) (cA : Nat → ClassId) (w : Nat) (wa_queue : Nat) (w_queue : Nat → Int32) (wa_heap : Nat) (w_heap : Nat → Int64) (wa_reached : Nat) (w_reached : Nat → Int32) (w_heapSize : Int) (at_ : Int) (h_w_heapSize : z_in w_heapSize) (h_at_ : z_in at_) (Q : Int → Prop) (hv : vc_X6_lesserChild w_heap w_heapSize at_ Q) : Met l yX6_lesserChild wsX6_lesserChild ({ frames := 0, cells := 0, slots := 0, locals := 0 } : Room) (va_Pc [.ref w, .int (z_i at_)] (z_B0 D cA [(w, .inr (4, [.ref wa_queue, .ref wa_heap, .ref wa_reached, .int (z_i w_heapSize)])), (wa_queue, .inl (cA 1, 1280, .inl w_queue)), (wa_heap, .inl (cA 2, 1280, .inr (.inl w_heap))), (wa_reached, .inl (cA 0, 1280, .inl w_reached))])) (va_Qi (z_ri Q) (fun _ _ => True) (fun _ => False)) 0 0 (fun _ => False) := by
  unfold vc_X6_lesserChild at hv
  refine Met.ofW (cc := cX6_lesserChild) (maxL := 3) (ret := (some .int)) (by decide +kernel) rfl ?_
  intro p e s m args below meth c s₁ B hml hv0
  obtain ⟨rfl, hK, hP⟩ := hv0
  have hx := B.exec
  have hb := B.bytes
  have hr := B.returns
  have hts := atoms_spec (ws := wsX6_lesserChild) B.pre
  have hown : s.vm.findClass RX6 = some m.cls := findClass_of_methodNamed B.named
  have hlocks := B.notSynchronized
  have hS : va_S (fun _ : Nat => False) s.heap s.heap [] := va_S.rf
  have hl := lv_entry ([.ref w, .int (z_i at_)]) (n := 3) (Nat.le_of_ble_eq_true rfl)
  rw [lg_entry_eq]
  generalize (lg_sl ([.ref w, .int (z_i at_)]) ++ List.replicate (3 - (lg_sl ([.ref w, .int (z_i at_)])).length) Slot.unset).toArray = ls at hl ⊢
  have hl : lv_has ls 3 [(0, .ref w), (1, .int (z_i at_))] := hl
  refine lv_iconst (v := z_i 2) hx hb dX6_lesserChild_0 rfl ?_
  refine lv_iload_n hx hb dX6_lesserChild_1 rfl (lv_at hl 1 rfl) ?_
  refine lx_imul hx hb dX6_lesserChild_2 ?_
  refine lv_iconst (v := z_i 1) hx hb dX6_lesserChild_3 rfl ?_
  refine lx_iadd hx hb dX6_lesserChild_4 ?_
  obtain ⟨hr2, hv⟩ := hv
  refine lx_topi (fun v1 hy3 => ?_)
  have hv := hv v1 hy3
  have h_v1 : z_in v1 := by rw [hy3]; exact hr2
  refine lv_istore_n (lv' := [(2, .int (z_i v1)), (0, .ref w), (1, .int (z_i at_))]) hx hb dX6_lesserChild_5 rfl hl (by decide) rfl (fun ls hl => ?_)
  refine lv_iload_n hx hb dX6_lesserChild_6 rfl (lv_at hl 0 rfl) ?_
  refine lv_iconst (v := z_i 1) hx hb dX6_lesserChild_7 rfl ?_
  refine lx_iadd hx hb dX6_lesserChild_8 ?_
  refine lv_aload_n hx hb dX6_lesserChild_9 rfl (lv_at hl 1 rfl) ?_
  refine va_get (D := D) (ci := 4) (v := .int (z_i w_heapSize)) (C := RX6) (T := TX6) (N := 4) hx hb hts (fun w h => List.mem_cons_of_mem _ (List.mem_append_right _ h)) hown hK hP 0 rfl rfl 3 (by decide) (hts (.fieldLink RX6 49 "ContourSheets$Water" "heapSize" "I") (by decide +kernel)) (fun _ h9 => h9) rfl dX6_lesserChild_10 ?_
  obtain ⟨hr4, hv⟩ := hv
  refine lx_icmp_ge (tgt := 40) hx hb dX6_lesserChild_13 (by decide) hr4 h_w_heapSize (fun hc => ?_) (fun hc => ?_)
  · have hv := hv.1 hc
    refine lv_iload_n hx hb dX6_lesserChild_40 rfl (lv_at hl 0 rfl) ?_
    exact W.iret (v := z_i v1) hx hb hr (fun t ht hW => ⟨⟨z_i v1, (), rfl, ⟨v1, rfl, h_v1, hv⟩, trivial⟩, hS.F ht⟩) hS.2.2 dX6_lesserChild_41
  · have hv := hv.2 hc
    refine lv_aload_n hx hb dX6_lesserChild_16 rfl (lv_at hl 1 rfl) ?_
    refine va_get (D := D) (ci := 4) (v := .ref wa_heap) (C := RX6) (T := TX6) (N := 4) hx hb hts (fun w h => List.mem_cons_of_mem _ (List.mem_append_right _ h)) hown hK hP 0 rfl rfl 1 (by decide) (hts (.fieldLink RX6 15 "ContourSheets$Water" "heap" "[J") (by decide +kernel)) (fun _ h9 => h9) rfl dX6_lesserChild_17 ?_
    refine lv_iload_n hx hb dX6_lesserChild_20 rfl (lv_at hl 0 rfl) ?_
    refine lv_iconst (v := z_i 1) hx hb dX6_lesserChild_21 rfl ?_
    refine lx_iadd hx hb dX6_lesserChild_22 ?_
    obtain ⟨hi5, hv⟩ := hv
    refine lx_lald hx hb hK hP 2 2 rfl rfl (by decide) hi5.1 hi5.2 dX6_lesserChild_23 ?_
    refine lv_aload_n hx hb dX6_lesserChild_24 rfl (lv_at hl 1 rfl) ?_
    refine va_get (D := D) (ci := 4) (v := .ref wa_heap) (C := RX6) (T := TX6) (N := 4) hx hb hts (fun w h => List.mem_cons_of_mem _ (List.mem_append_right _ h)) hown hK hP 0 rfl rfl 1 (by decide) (hts (.fieldLink RX6 15 "ContourSheets$Water" "heap" "[J") (by decide +kernel)) (fun _ h9 => h9) rfl dX6_lesserChild_25 ?_
    refine lv_iload_n hx hb dX6_lesserChild_28 rfl (lv_at hl 0 rfl) ?_
    obtain ⟨hi6, hv⟩ := hv
    refine lx_lald hx hb hK hP 2 2 rfl rfl (by decide) hi6.1 hi6.2 dX6_lesserChild_29 ?_
    refine lx_lcmp hx hb dX6_lesserChild_30 (z_nl_gl _ _) (z_nl_gl _ _) ?_
    refine lx_if_ge (tgt := 40) hx hb dX6_lesserChild_31 (by decide) (z_in_cmp _ _) (fun hc => ?_) (fun hc => ?_)
    · have hv := hv.1 (z_cmp_ge.mp hc)
      refine lv_iload_n hx hb dX6_lesserChild_40 rfl (lv_at hl 0 rfl) ?_
      exact W.iret (v := z_i v1) hx hb hr (fun t ht hW => ⟨⟨z_i v1, (), rfl, ⟨v1, rfl, h_v1, hv⟩, trivial⟩, hS.F ht⟩) hS.2.2 dX6_lesserChild_41
    · have hv := hv.2 (z_cmp_lt.mp hc)
      refine lv_iload_n hx hb dX6_lesserChild_34 rfl (lv_at hl 0 rfl) ?_
      refine lv_iconst (v := z_i 1) hx hb dX6_lesserChild_35 rfl ?_
      refine lx_iadd hx hb dX6_lesserChild_36 ?_
      refine lv_goto (tgt := 41) hx hb dX6_lesserChild_37 (by decide) ?_
      exact W.iret (v := z_i (v1 + 1)) hx hb hr (fun t ht hW => ⟨⟨z_i (v1 + 1), (), rfl, ⟨v1 + 1, rfl, hr4, hv⟩, trivial⟩, hS.F ht⟩) hS.2.2 dX6_lesserChild_41
set_option maxHeartbeats 4000000 in
set_option maxRecDepth 100000 in
theorem mt_X6_lesserChild (l : Launch) (D : va_G) (cA : Nat → ClassId) (w : Nat) (wa_queue : Nat) (w_queue : Nat → Int32) (wa_heap : Nat) (w_heap : Nat → Int64) (wa_reached : Nat) (w_reached : Nat → Int32) (w_heapSize : Int) (at_ : Int) (h_w_heapSize : z_in w_heapSize) (h_at_ : z_in at_) (hp1 : 0 ≤ at_ ∧ at_ < 1280) (hp2 : 0 ≤ w_heapSize ∧ w_heapSize ≤ 1280) : Met l yX6_lesserChild wsX6_lesserChild ({ frames := 0, cells := 0, slots := 0, locals := 0 } : Room) (va_Pc [.ref w, .int (z_i at_)] (z_B0 D cA [(w, .inr (4, [.ref wa_queue, .ref wa_heap, .ref wa_reached, .int (z_i w_heapSize)])), (wa_queue, .inl (cA 1, 1280, .inl w_queue)), (wa_heap, .inl (cA 2, 1280, .inr (.inl w_heap))), (wa_reached, .inl (cA 0, 1280, .inl w_reached))])) (va_Qi (z_ri (fun (r : Int) => r = hp_lc w_heap w_heapSize at_)) (fun _ _ => True) (fun _ => False)) 0 0 (fun _ => False) := by
  refine wk_X6_lesserChild l D cA w wa_queue w_queue wa_heap w_heap wa_reached w_reached w_heapSize at_ h_w_heapSize h_at_ (fun (r : Int) => r = hp_lc w_heap w_heapSize at_) ?_
  unfold vc_X6_lesserChild
  unfold hp_lc
  refine ⟨⟨by omega, by omega⟩, ?_⟩
  rintro v rfl
  exact ⟨⟨by omega, by omega⟩, fun h => (if_neg (by omega)).symm, fun h => ⟨⟨by omega, by omega⟩, ⟨by omega, by omega⟩, fun h2 => (if_neg (by omega)).symm, fun h2 => (if_pos ⟨h, h2⟩).symm⟩⟩
def vc_X6_sink (w_heap : Nat → Int64) (w_heapSize : Int) (key : Int) (Q : (Nat → Int64) → Prop) : Prop :=
(0 ≤ (0 : Int) ∧ (0 : Int) < 1280) ∧ (0 ≤ w_heapSize ∧ w_heapSize ≤ 1280) ∧ (∀ (r3 : Int), z_in r3 → (r3 = hp_lc w_heap w_heapSize (0 : Int)) → (∀ L9 : Int → Int → (Nat → Int64) → Prop,
(∀ (x9_4 : Int) (x9_3 : Int) (y9_wa_heap : Nat → Int64), z_in x9_4 → z_in x9_3 → ((x9_4 ≥ w_heapSize → (0 ≤ x9_3 ∧ x9_3 < 1280) ∧ (∀ f5 : Nat → Int64, f5 = z_sl y9_wa_heap x9_3 key → Q f5)) ∧
(x9_4 < w_heapSize → (0 ≤ x9_4 ∧ x9_4 < 1280) ∧ ((z_gl y9_wa_heap x9_4 ≥ key → (0 ≤ x9_3 ∧ x9_3 < 1280) ∧ (∀ f9 : Nat → Int64, f9 = z_sl y9_wa_heap x9_3 key → Q f9)) ∧
(z_gl y9_wa_heap x9_4 < key → (0 ≤ x9_3 ∧ x9_3 < 1280) ∧ (∀ f12 : Nat → Int64, f12 = z_sl y9_wa_heap x9_3 (z_gl y9_wa_heap x9_4) → (0 ≤ x9_4 ∧ x9_4 < 1280) ∧ (0 ≤ w_heapSize ∧ w_heapSize ≤ 1280) ∧ (∀ (r16 : Int), z_in r16 → (r16 = hp_lc f12 w_heapSize x9_4) → L9 r16 x9_4 f12)))))) → L9 x9_4 x9_3 y9_wa_heap) →
L9 r3 0 w_heap))
set_option maxHeartbeats 4000000 in
set_option maxRecDepth 100000 in
theorem wk_X6_sink (l : Launch) (D : va_G) (cA : Nat → ClassId) (w : Nat) (wa_queue : Nat) (w_queue : Nat → Int32) (wa_heap : Nat) (w_heap : Nat → Int64) (wa_reached : Nat) (w_reached : Nat → Int32) (w_heapSize : Int) (key : Int) (h_w_heapSize : z_in w_heapSize) (h_key : z_nl key) (Q : (Nat → Int64) → Prop) (hv : vc_X6_sink w_heap w_heapSize key Q) : Met l yX6_sink wsX6_sink ({ frames := 1, cells := 0, slots := 0, locals := 22 } : Room) (va_Pc [.ref w, .long (z_l key)] (z_M0 D cA [(w, .inr (4, [.ref wa_queue, .ref wa_heap, .ref wa_reached, .int (z_i w_heapSize)])), (wa_queue, .inl (cA 1, 1280, .inl w_queue)), (wa_heap, .inl (cA 2, 1280, .inr (.inl w_heap))), (wa_reached, .inl (cA 0, 1280, .inl w_reached))])) (va_Qv (fun (u : (Nat → Int64)) => Q u) (fun (u : (Nat → Int64)) t => va_P D vwCl [(w, .inr (4, [.ref wa_queue, .ref wa_heap, .ref wa_reached, .int (z_i w_heapSize)])), (wa_queue, .inl (cA 1, 1280, .inl w_queue)), (wa_heap, .inl (cA 2, 1280, .inr (.inl u))), (wa_reached, .inl (cA 0, 1280, .inl w_reached))] t.heap) (z_A [(w, .inr (4, [.ref wa_queue, .ref wa_heap, .ref wa_reached, .int (z_i w_heapSize)])), (wa_queue, .inl (cA 1, 1280, .inl w_queue)), (wa_heap, .inl (cA 2, 1280, .inr (.inl w_heap))), (wa_reached, .inl (cA 0, 1280, .inl w_reached))])) 0 0 (z_A [(w, .inr (4, [.ref wa_queue, .ref wa_heap, .ref wa_reached, .int (z_i w_heapSize)])), (wa_queue, .inl (cA 1, 1280, .inl w_queue)), (wa_heap, .inl (cA 2, 1280, .inr (.inl w_heap))), (wa_reached, .inl (cA 0, 1280, .inl w_reached))]) := by
  unfold vc_X6_sink at hv
  refine Met.ofW (cc := cX6_sink) (maxL := 5) (ret := none) (by decide +kernel) rfl ?_
  intro p e s m args below meth c s₁ B hml hv0
  obtain ⟨rfl, hK, hP, hD0⟩ := hv0
  have hx := B.exec
  have hb := B.bytes
  have hr := B.returns
  have hts := atoms_spec (ws := wsX6_sink) B.pre
  have hown : s.vm.findClass RX6 = some m.cls := findClass_of_methodNamed B.named
  have hlocks := B.notSynchronized
  have hD := z_D_self hD0
  generalize hAe : z_A [(w, .inr (4, [.ref wa_queue, .ref wa_heap, .ref wa_reached, .int (z_i w_heapSize)])), (wa_queue, .inl (cA 1, 1280, .inl w_queue)), (wa_heap, .inl (cA 2, 1280, .inr (.inl w_heap))), (wa_reached, .inl (cA 0, 1280, .inl w_reached))] = A at *
  have hS : va_S A s.heap s.heap [] := va_S.rf
  have hl := lv_entry ([.ref w, .long (z_l key)]) (n := 5) (Nat.le_of_ble_eq_true rfl)
  rw [lg_entry_eq]
  generalize (lg_sl ([.ref w, .long (z_l key)]) ++ List.replicate (5 - (lg_sl ([.ref w, .long (z_l key)])).length) Slot.unset).toArray = ls at hl ⊢
  have hl : lv_has ls 5 [(0, .ref w), (1, .long (z_l key))] := hl
  refine lv_iconst (v := z_i 0) hx hb dX6_sink_0 rfl ?_
  refine lv_istore_n (lv' := [(3, .int (z_i 0)), (0, .ref w), (1, .long (z_l key))]) hx hb dX6_sink_1 rfl hl (by decide) rfl (fun ls hl => ?_)
  refine lv_aload_n hx hb dX6_sink_2 rfl (lv_at hl 1 rfl) ?_
  refine lv_iload_n hx hb dX6_sink_3 rfl (lv_at hl 0 rfl) ?_
  obtain ⟨hp1, hv⟩ := hv
  obtain ⟨hp2, hv⟩ := hv
  refine va_calli (va_runV (As := [.int (z_i 0)]) (rest := []) ⟨hx, hb, hml, hown, hts⟩ (mt_X6_lesserChild l D cA w wa_queue w_queue wa_heap w_heap wa_reached w_reached w_heapSize 0 h_w_heapSize (show z_in 0 from ⟨by decide, by decide⟩) hp1 hp2) (cwV 1 hts gX6_sink_X6_lesserChild rfl rfl rfl (by decide +kernel) ⟨Nat.le_of_ble_eq_true rfl, Nat.le_of_ble_eq_true rfl⟩) ⟨z_bl0, va_recv hK hP (ci := 4) (q0 := 0) rfl rfl, fun U hU hW => ⟨rfl, z_b0 hK hP hU hW⟩⟩ rfl rfl hl.1 rfl (lv_room (Nat.le_of_ble_eq_true rfl)) dX6_sink_4 ⟨Nat.zero_le _, Nat.zero_le _⟩) hS (fun q _ h => h.elim) (fun q h => h.elim) (fun r0 u t H locs ht hvm hw hB hz1 hk1 hS => ?_)
  obtain ⟨r3, rfl, h_r3, hw⟩ := hw
  have hP := z_P_all hP hk1
  have hv := hv r3 h_r3 hw
  refine lv_istore (lv' := [(4, .int (z_i r3)), (3, .int (z_i 0)), (0, .ref w), (1, .long (z_l key))]) hx hb dX6_sink_7 hl (by decide) rfl (fun ls hl => ?_)
  refine hv (fun (x9_4 : Int) (x9_3 : Int) (y9_wa_heap : Nat → Int64) => ∀ (H : Heap) (locs : List Loc) (ls : Array Slot), va_P D vwCl [(w, .inr (4, [.ref wa_queue, .ref wa_heap, .ref wa_reached, .int (z_i w_heapSize)])), (wa_queue, .inl (cA 1, 1280, .inl w_queue)), (wa_heap, .inl (cA 2, 1280, .inr (.inl y9_wa_heap))), (wa_reached, .inl (cA 0, 1280, .inl w_reached))] H → va_D A [(w, .inr (4, [.ref wa_queue, .ref wa_heap, .ref wa_reached, .int (z_i w_heapSize)])), (wa_queue, .inl (cA 1, 1280, .inl w_queue)), (wa_heap, .inl (cA 2, 1280, .inr (.inl y9_wa_heap))), (wa_reached, .inl (cA 0, 1280, .inl w_reached))] → va_S A s.heap H locs → lv_has ls 5 [(4, .int (z_i x9_4)), (3, .int (z_i x9_3)), (0, .ref w), (1, .long (z_l key))] → W p l e _ s m _ below meth c H locs 0 0 _ (F0 m 9 ls [])) ?_ _ _ ls hP hD hS (lv_sub hl [0, 1, 2, 3] rfl)
  intro x9_4 x9_3 y9_wa_heap h_x9_4 h_x9_3 hv H locs ls hP hD hS hl
  refine lv_iload hx hb dX6_sink_9 (lv_at hl 0 rfl) ?_
  refine lv_aload_n hx hb dX6_sink_11 rfl (lv_at hl 2 rfl) ?_
  refine va_get (D := D) (ci := 4) (v := .int (z_i w_heapSize)) (C := RX6) (T := TX6) (N := 4) hx hb hts (fun w h => List.mem_cons_of_mem _ (List.mem_append_right _ h)) hown hK hP 0 rfl rfl 3 (by decide) (hts (.fieldLink RX6 49 "ContourSheets$Water" "heapSize" "I") (by decide +kernel)) (fun _ h9 => h9) rfl dX6_sink_12 ?_
  refine lx_icmp_ge (tgt := 56) hx hb dX6_sink_15 (by decide) h_x9_4 h_w_heapSize (fun hc => ?_) (fun hc => ?_)
  · have hv := hv.1 hc
    refine lv_aload_n hx hb dX6_sink_56 rfl (lv_at hl 2 rfl) ?_
    refine va_get (D := D) (ci := 4) (v := .ref wa_heap) (C := RX6) (T := TX6) (N := 4) hx hb hts (fun w h => List.mem_cons_of_mem _ (List.mem_append_right _ h)) hown hK hP 0 rfl rfl 1 (by decide) (hts (.fieldLink RX6 15 "ContourSheets$Water" "heap" "[J") (by decide +kernel)) (fun _ h9 => h9) rfl dX6_sink_57 ?_
    refine lv_iload_n hx hb dX6_sink_60 rfl (lv_at hl 1 rfl) ?_
    refine lv_lload_n hx hb dX6_sink_61 rfl (lv_at hl 3 rfl) ?_
    obtain ⟨hi4, hv⟩ := hv
    refine lx_last hx hb hK hP hD hS 2 2 rfl rfl (by decide) hi4.1 hi4.2 dX6_sink_62 (fun H locs hP hD hS => ?_)
    obtain ⟨f5, hy6⟩ : ∃ y : Nat → Int64, y = z_sl y9_wa_heap x9_3 key := ⟨_, rfl⟩
    have hv := hv f5 hy6
    have hP : va_P D vwCl [(w, .inr (4, [.ref wa_queue, .ref wa_heap, .ref wa_reached, .int (z_i w_heapSize)])), (wa_queue, .inl (cA 1, 1280, .inl w_queue)), (wa_heap, .inl (cA 2, 1280, .inr (.inl f5))), (wa_reached, .inl (cA 0, 1280, .inl w_reached))] H := by rw [hy6]; exact hP
    have hD : va_D A [(w, .inr (4, [.ref wa_queue, .ref wa_heap, .ref wa_reached, .int (z_i w_heapSize)])), (wa_queue, .inl (cA 1, 1280, .inl w_queue)), (wa_heap, .inl (cA 2, 1280, .inr (.inl f5))), (wa_reached, .inl (cA 0, 1280, .inl w_reached))] := by rw [hy6]; exact hD
    exact W.vret hx hb hr (fun t ht hW => ⟨⟨(f5), rfl, hv, z_pt hP ht⟩, hS.F ht⟩) hS.2.2 dX6_sink_63
  · have hv := hv.2 hc
    refine lv_aload_n hx hb dX6_sink_18 rfl (lv_at hl 2 rfl) ?_
    refine va_get (D := D) (ci := 4) (v := .ref wa_heap) (C := RX6) (T := TX6) (N := 4) hx hb hts (fun w h => List.mem_cons_of_mem _ (List.mem_append_right _ h)) hown hK hP 0 rfl rfl 1 (by decide) (hts (.fieldLink RX6 15 "ContourSheets$Water" "heap" "[J") (by decide +kernel)) (fun _ h9 => h9) rfl dX6_sink_19 ?_
    refine lv_iload hx hb dX6_sink_22 (lv_at hl 0 rfl) ?_
    obtain ⟨hi7, hv⟩ := hv
    refine lx_lald hx hb hK hP 2 2 rfl rfl (by decide) hi7.1 hi7.2 dX6_sink_24 ?_
    refine lv_lload_n hx hb dX6_sink_25 rfl (lv_at hl 3 rfl) ?_
    refine lx_lcmp hx hb dX6_sink_26 (z_nl_gl _ _) h_key ?_
    refine lx_if_ge (tgt := 56) hx hb dX6_sink_27 (by decide) (z_in_cmp _ _) (fun hc => ?_) (fun hc => ?_)
    · have hv := hv.1 (z_cmp_ge.mp hc)
      refine lv_aload_n hx hb dX6_sink_56 rfl (lv_at hl 2 rfl) ?_
      refine va_get (D := D) (ci := 4) (v := .ref wa_heap) (C := RX6) (T := TX6) (N := 4) hx hb hts (fun w h => List.mem_cons_of_mem _ (List.mem_append_right _ h)) hown hK hP 0 rfl rfl 1 (by decide) (hts (.fieldLink RX6 15 "ContourSheets$Water" "heap" "[J") (by decide +kernel)) (fun _ h9 => h9) rfl dX6_sink_57 ?_
      refine lv_iload_n hx hb dX6_sink_60 rfl (lv_at hl 1 rfl) ?_
      refine lv_lload_n hx hb dX6_sink_61 rfl (lv_at hl 3 rfl) ?_
      obtain ⟨hi8, hv⟩ := hv
      refine lx_last hx hb hK hP hD hS 2 2 rfl rfl (by decide) hi8.1 hi8.2 dX6_sink_62 (fun H locs hP hD hS => ?_)
      obtain ⟨f9, hy10⟩ : ∃ y : Nat → Int64, y = z_sl y9_wa_heap x9_3 key := ⟨_, rfl⟩
      have hv := hv f9 hy10
      have hP : va_P D vwCl [(w, .inr (4, [.ref wa_queue, .ref wa_heap, .ref wa_reached, .int (z_i w_heapSize)])), (wa_queue, .inl (cA 1, 1280, .inl w_queue)), (wa_heap, .inl (cA 2, 1280, .inr (.inl f9))), (wa_reached, .inl (cA 0, 1280, .inl w_reached))] H := by rw [hy10]; exact hP
      have hD : va_D A [(w, .inr (4, [.ref wa_queue, .ref wa_heap, .ref wa_reached, .int (z_i w_heapSize)])), (wa_queue, .inl (cA 1, 1280, .inl w_queue)), (wa_heap, .inl (cA 2, 1280, .inr (.inl f9))), (wa_reached, .inl (cA 0, 1280, .inl w_reached))] := by rw [hy10]; exact hD
      exact W.vret hx hb hr (fun t ht hW => ⟨⟨(f9), rfl, hv, z_pt hP ht⟩, hS.F ht⟩) hS.2.2 dX6_sink_63
    · have hv := hv.2 (z_cmp_lt.mp hc)
      refine lv_aload_n hx hb dX6_sink_30 rfl (lv_at hl 2 rfl) ?_
      refine va_get (D := D) (ci := 4) (v := .ref wa_heap) (C := RX6) (T := TX6) (N := 4) hx hb hts (fun w h => List.mem_cons_of_mem _ (List.mem_append_right _ h)) hown hK hP 0 rfl rfl 1 (by decide) (hts (.fieldLink RX6 15 "ContourSheets$Water" "heap" "[J") (by decide +kernel)) (fun _ h9 => h9) rfl dX6_sink_31 ?_
      refine lv_iload_n hx hb dX6_sink_34 rfl (lv_at hl 1 rfl) ?_
      refine lv_aload_n hx hb dX6_sink_35 rfl (lv_at hl 2 rfl) ?_
      refine va_get (D := D) (ci := 4) (v := .ref wa_heap) (C := RX6) (T := TX6) (N := 4) hx hb hts (fun w h => List.mem_cons_of_mem _ (List.mem_append_right _ h)) hown hK hP 0 rfl rfl 1 (by decide) (hts (.fieldLink RX6 15 "ContourSheets$Water" "heap" "[J") (by decide +kernel)) (fun _ h9 => h9) rfl dX6_sink_36 ?_
      refine lv_iload hx hb dX6_sink_39 (lv_at hl 0 rfl) ?_
      refine lx_lald hx hb hK hP 2 2 rfl rfl (by decide) hi7.1 hi7.2 dX6_sink_41 ?_
      obtain ⟨hi11, hv⟩ := hv
      refine lx_last hx hb hK hP hD hS 2 2 rfl rfl (by decide) hi11.1 hi11.2 dX6_sink_42 (fun H locs hP hD hS => ?_)
      obtain ⟨f12, hy13⟩ : ∃ y : Nat → Int64, y = z_sl y9_wa_heap x9_3 (z_gl y9_wa_heap x9_4) := ⟨_, rfl⟩
      have hv := hv f12 hy13
      have hP : va_P D vwCl [(w, .inr (4, [.ref wa_queue, .ref wa_heap, .ref wa_reached, .int (z_i w_heapSize)])), (wa_queue, .inl (cA 1, 1280, .inl w_queue)), (wa_heap, .inl (cA 2, 1280, .inr (.inl f12))), (wa_reached, .inl (cA 0, 1280, .inl w_reached))] H := by rw [hy13]; exact hP
      have hD : va_D A [(w, .inr (4, [.ref wa_queue, .ref wa_heap, .ref wa_reached, .int (z_i w_heapSize)])), (wa_queue, .inl (cA 1, 1280, .inl w_queue)), (wa_heap, .inl (cA 2, 1280, .inr (.inl f12))), (wa_reached, .inl (cA 0, 1280, .inl w_reached))] := by rw [hy13]; exact hD
      refine lv_iload hx hb dX6_sink_43 (lv_at hl 0 rfl) ?_
      refine lv_istore_n (lv' := [(3, .int (z_i x9_4)), (4, .int (z_i x9_4)), (0, .ref w), (1, .long (z_l key))]) hx hb dX6_sink_45 rfl hl (by decide) rfl (fun ls hl => ?_)
      refine lv_aload_n hx hb dX6_sink_46 rfl (lv_at hl 2 rfl) ?_
      refine lv_iload_n hx hb dX6_sink_47 rfl (lv_at hl 0 rfl) ?_
      obtain ⟨hp14, hv⟩ := hv
      obtain ⟨hp15, hv⟩ := hv
      refine va_calli (va_runV (As := [.int (z_i x9_4)]) (rest := []) ⟨hx, hb, hml, hown, hts⟩ (mt_X6_lesserChild l D cA w wa_queue w_queue wa_heap f12 wa_reached w_reached w_heapSize x9_4 h_w_heapSize h_x9_4 hp14 hp15) (cwV 1 hts gX6_sink_X6_lesserChild rfl rfl rfl (by decide +kernel) ⟨Nat.le_of_ble_eq_true rfl, Nat.le_of_ble_eq_true rfl⟩) ⟨z_bl0, va_recv hK hP (ci := 4) (q0 := 0) rfl rfl, fun U hU hW => ⟨rfl, z_b0 hK hP hU hW⟩⟩ rfl rfl hl.1 rfl (lv_room (Nat.le_of_ble_eq_true rfl)) dX6_sink_48 ⟨Nat.zero_le _, Nat.zero_le _⟩) hS (fun q _ h => h.elim) (fun q h => h.elim) (fun r0 u t H locs ht hvm hw hB hz1 hk1 hS => ?_)
      obtain ⟨r16, rfl, h_r16, hw⟩ := hw
      have hP := z_P_all hP hk1
      have hv := hv r16 h_r16 hw
      refine lv_istore (lv' := [(4, .int (z_i r16)), (3, .int (z_i x9_4)), (0, .ref w), (1, .long (z_l key))]) hx hb dX6_sink_51 hl (by decide) rfl (fun ls hl => ?_)
      refine lv_goto (tgt := 9) hx hb dX6_sink_53 (by decide) ?_
      exact hv _ _ ls hP hD hS (lv_sub hl [0, 1, 2, 3] rfl)
set_option maxHeartbeats 4000000 in
set_option maxRecDepth 100000 in
theorem mt_X6_sink (l : Launch) (D : va_G) (cA : Nat → ClassId) (w : Nat) (wa_queue : Nat) (w_queue : Nat → Int32) (wa_heap : Nat) (w_heap : Nat → Int64) (wa_reached : Nat) (w_reached : Nat → Int32) (w_heapSize : Int) (key : Int) (h_w_heapSize : z_in w_heapSize) (h_key : z_nl key) (hp1 : 0 ≤ w_heapSize ∧ w_heapSize < 1280) (hp2 : hp_dn w_heap w_heapSize 0 key) (hp3 : hp_VI w_heap w_heapSize 0 key) : Met l yX6_sink wsX6_sink ({ frames := 1, cells := 0, slots := 0, locals := 22 } : Room) (va_Pc [.ref w, .long (z_l key)] (z_M0 D cA [(w, .inr (4, [.ref wa_queue, .ref wa_heap, .ref wa_reached, .int (z_i w_heapSize)])), (wa_queue, .inl (cA 1, 1280, .inl w_queue)), (wa_heap, .inl (cA 2, 1280, .inr (.inl w_heap))), (wa_reached, .inl (cA 0, 1280, .inl w_reached))])) (va_Qv (fun (u : (Nat → Int64)) => (fun (w_heap' : (Nat → Int64)) => hp_ok w_heap' w_heapSize ∧ ∀ x : Int, hp_S w_heap' w_heapSize x ↔ hp_VS w_heap w_heapSize 0 key x) u) (fun (u : (Nat → Int64)) t => va_P D vwCl [(w, .inr (4, [.ref wa_queue, .ref wa_heap, .ref wa_reached, .int (z_i w_heapSize)])), (wa_queue, .inl (cA 1, 1280, .inl w_queue)), (wa_heap, .inl (cA 2, 1280, .inr (.inl u))), (wa_reached, .inl (cA 0, 1280, .inl w_reached))] t.heap) (z_A [(w, .inr (4, [.ref wa_queue, .ref wa_heap, .ref wa_reached, .int (z_i w_heapSize)])), (wa_queue, .inl (cA 1, 1280, .inl w_queue)), (wa_heap, .inl (cA 2, 1280, .inr (.inl w_heap))), (wa_reached, .inl (cA 0, 1280, .inl w_reached))])) 0 0 (z_A [(w, .inr (4, [.ref wa_queue, .ref wa_heap, .ref wa_reached, .int (z_i w_heapSize)])), (wa_queue, .inl (cA 1, 1280, .inl w_queue)), (wa_heap, .inl (cA 2, 1280, .inr (.inl w_heap))), (wa_reached, .inl (cA 0, 1280, .inl w_reached))]) := by
  refine wk_X6_sink l D cA w wa_queue w_queue wa_heap w_heap wa_reached w_reached w_heapSize key h_w_heapSize h_key (fun (w_heap' : (Nat → Int64)) => hp_ok w_heap' w_heapSize ∧ ∀ x : Int, hp_S w_heap' w_heapSize x ↔ hp_VS w_heap w_heapSize 0 key x) ?_
  unfold vc_X6_sink
  refine ⟨⟨by decide, by decide⟩, ⟨by omega, by omega⟩, ?_⟩
  rintro r2 hr2 rfl
  intro L hL
  suffices H : ∀ (d : Nat) (a : Int) (y : Nat → Int64), 1280 - a < d → 0 ≤ a → (a = 0 ∨ a < w_heapSize) → hp_dn y w_heapSize a key → hp_VI y w_heapSize a key → (∀ x : Int, hp_VS y w_heapSize a key x ↔ hp_VS w_heap w_heapSize 0 key x) → L (hp_lc y w_heapSize a) a y from H 1281 0 _ (by omega) (by omega) (Or.inl rfl) hp2 hp3 (fun x => Iff.rfl)
  intro d
  induction d with
  | zero => intro a y h1; omega
  | succ d ih =>
    intro a y h1 h2 h3 h4 h5 h6
    have hor := hp_lc_or y w_heapSize a
    have fin : (w_heapSize ≤ hp_lc y w_heapSize a ∨ key ≤ z_gl y (hp_lc y w_heapSize a)) → (0 ≤ a ∧ a < 1280) ∧ ∀ f : Nat → Int64, f = z_sl y a key → hp_ok f w_heapSize ∧ ∀ x : Int, hp_S f w_heapSize x ↔ hp_VS w_heap w_heapSize 0 key x := fun he => by
      refine ⟨⟨h2, by omega⟩, ?_⟩
      rintro f rfl
      have := hp_dn_end h_key hp1.1 (by omega) h2 h4 h5 he
      exact ⟨this.1, fun x => (this.2 x).trans (h6 x)⟩
    refine hL _ _ _ ⟨by omega, by omega⟩ ⟨by omega, by omega⟩ ⟨fun h => fin (Or.inl h), fun h => ⟨⟨by omega, by omega⟩, fun h7 => fin (Or.inr h7), fun h7 => ⟨⟨h2, by omega⟩, ?_⟩⟩⟩
    rintro f rfl
    refine ⟨⟨by omega, by omega⟩, ⟨by omega, by omega⟩, ?_⟩
    rintro r hr rfl
    have hab : a ≠ hp_lc y w_heapSize a := by omega
    refine ih _ _ (by omega) (by omega) (Or.inr h) (hp_dn_step h2 rfl h h7 h4) (hp_VI_swap hab h2 (by omega) (by omega) h h5) (fun x => (hp_VS_swap hab h2 (by omega) (by omega) h x).trans (h6 x))
