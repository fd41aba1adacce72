def vc_J7_fill_53178_a (rc : Nat → Int32) (v : Int) (Q : (Nat → Int32) → Prop) : Prop :=
(∀ L5 : Int → (Nat → Int32) → Prop,
(∀ (x5_2 : Int) (y5_ra : Nat → Int32), z_in x5_2 → ((x5_2 ≥ 1280 → Q y5_ra) ∧
(x5_2 < 1280 → (0 ≤ x5_2 ∧ x5_2 < 1280) ∧ (∀ f2 : Nat → Int32, f2 = z_s y5_ra x5_2 v → L5 (x5_2 + 1) f2))) → L5 x5_2 y5_ra) →
L5 0 rc)
set_option maxHeartbeats 4000000 in
set_option maxRecDepth 100000 in
theorem wk_J7_fill_53178_a (l : Launch) (D : va_G) (cA : Nat → ClassId) (ra : Nat) (rc : Nat → Int32) (v : Int) (h_v : z_in v) (Q : (Nat → Int32) → Prop) (hv : vc_J7_fill_53178_a rc v Q) : Met l yJ7_fill_53178 wsJ7_fill_53178 ({ frames := 0, cells := 0, slots := 0, locals := 0 } : Room) (va_Pc [.ref ra, .int (z_i v)] (z_M0 D cA [(ra, .inl (cA 1, 1280, .inl rc))])) (va_Qv (fun (u : (Nat → Int32)) => Q u) (fun (u : (Nat → Int32)) t => va_P D vwCl [(ra, .inl (cA 1, 1280, .inl u))] t.heap) (z_A [(ra, .inl (cA 1, 1280, .inl rc))])) 0 0 (z_A [(ra, .inl (cA 1, 1280, .inl rc))]) := by
  unfold vc_J7_fill_53178_a at hv
  refine Met.ofW (cc := cJ7_fill_53178) (maxL := 4) (ret := none) (by decide +kernel) rfl ?_
  intro p e s m args below meth c s₁ B hml hv0
  obtain ⟨rfl, hK, hP, hD0⟩ := hv0
  have hx := B.exec
  have hb := B.bytes
  have hr := B.returns
  have hts := atoms_spec (ws := wsJ7_fill_53178) B.pre
  have hown : s.vm.findClass RJ7 = some m.cls := findClass_of_methodNamed B.named
  have hlocks := B.notSynchronized
  have hD := z_D_self hD0
  generalize hAe : z_A [(ra, .inl (cA 1, 1280, .inl rc))] = A at *
  have hS : va_S A s.heap s.heap [] := va_S.rf
  have hl := lv_entry ([.ref ra, .int (z_i v)]) (n := 4) (Nat.le_of_ble_eq_true rfl)
  rw [lg_entry_eq]
  generalize (lg_sl ([.ref ra, .int (z_i v)]) ++ List.replicate (4 - (lg_sl ([.ref ra, .int (z_i v)])).length) Slot.unset).toArray = ls at hl ⊢
  have hl : lv_has ls 4 [(0, .ref ra), (1, .int (z_i v))] := hl
  refine lv_iconst (v := z_i 0) hx hb dJ7_fill_53178_0 rfl ?_
  refine lv_istore_n (lv' := [(2, .int (z_i 0)), (0, .ref ra), (1, .int (z_i v))]) hx hb dJ7_fill_53178_1 rfl hl (by decide) rfl (fun ls hl => ?_)
  refine lv_aload_n hx hb dJ7_fill_53178_2 rfl (lv_at hl 1 rfl) ?_
  refine va_alen (v := z_i 1280) hx hb hK hP 0 1 rfl rfl (show Int32.ofNat 1280 = z_i 1280 by decide) dJ7_fill_53178_3 ?_
  refine lv_istore_n (lv' := [(3, .int (z_i 1280)), (2, .int (z_i 0)), (0, .ref ra), (1, .int (z_i v))]) hx hb dJ7_fill_53178_4 rfl hl (by decide) rfl (fun ls hl => ?_)
  refine hv (fun (x5_2 : Int) (y5_ra : Nat → Int32) => ∀ (H : Heap) (locs : List Loc) (ls : Array Slot), va_P D vwCl [(ra, .inl (cA 1, 1280, .inl y5_ra))] H → va_D A [(ra, .inl (cA 1, 1280, .inl y5_ra))] → va_S A s.heap H locs → lv_has ls 4 [(3, .int (z_i 1280)), (2, .int (z_i x5_2)), (0, .ref ra), (1, .int (z_i v))] → W p l e _ s m _ below meth c H locs 0 0 _ (F0 m 5 ls [])) ?_ _ _ ls hP hD hS (lv_sub hl [0, 1, 2, 3] rfl)
  intro x5_2 y5_ra h_x5_2 hv H locs ls hP hD hS hl
  refine lv_iload_n hx hb dJ7_fill_53178_5 rfl (lv_at hl 1 rfl) ?_
  refine lv_iload_n hx hb dJ7_fill_53178_6 rfl (lv_at hl 0 rfl) ?_
  refine lx_icmp_ge (tgt := 20) hx hb dJ7_fill_53178_7 (by decide) h_x5_2 (show z_in 1280 from ⟨by decide, by decide⟩) (fun hc => ?_) (fun hc => ?_)
  · have hv := hv.1 hc
    exact W.vret hx hb hr (fun t ht hW => ⟨⟨(y5_ra), rfl, hv, z_pt hP ht⟩, hS.F ht⟩) hS.2.2 dJ7_fill_53178_20
  · have hv := hv.2 hc
    refine lv_aload_n hx hb dJ7_fill_53178_10 rfl (lv_at hl 2 rfl) ?_
    refine lv_iload_n hx hb dJ7_fill_53178_11 rfl (lv_at hl 1 rfl) ?_
    refine lv_iload_n hx hb dJ7_fill_53178_12 rfl (lv_at hl 3 rfl) ?_
    obtain ⟨hi1, hv⟩ := hv
    refine lx_iast hx hb hK hP hD hS 0 1 rfl rfl (by decide) hi1.1 hi1.2 dJ7_fill_53178_13 (fun H locs hP hD hS => ?_)
    obtain ⟨f2, hy3⟩ : ∃ y : Nat → Int32, y = z_s y5_ra x5_2 v := ⟨_, rfl⟩
    have hv := hv f2 hy3
    have hP : va_P D vwCl [(ra, .inl (cA 1, 1280, .inl f2))] H := by rw [hy3]; exact hP
    have hD : va_D A [(ra, .inl (cA 1, 1280, .inl f2))] := by rw [hy3]; exact hD
    refine lv_iinc (v := z_i (x5_2 + 1)) (lv' := [(2, .int (z_i (x5_2 + 1))), (3, .int (z_i 1280)), (0, .ref ra), (1, .int (z_i v))]) hx hb dJ7_fill_53178_14 hl (k := 1) rfl (z_i_add _ _) (by decide) rfl (fun ls hl => ?_)
    refine lv_goto (tgt := 5) hx hb dJ7_fill_53178_17 (by decide) ?_
    exact hv _ _ ls hP hD hS (lv_sub hl [1, 0, 2, 3] rfl)
set_option maxHeartbeats 4000000 in
set_option maxRecDepth 100000 in
theorem mt_J7_fill_53178_a (l : Launch) (D : va_G) (cA : Nat → ClassId) (ra : Nat) (rc : Nat → Int32) (v : Int) (h_v : z_in v)  : Met l yJ7_fill_53178 wsJ7_fill_53178 ({ frames := 0, cells := 0, slots := 0, locals := 0 } : Room) (va_Pc [.ref ra, .int (z_i v)] (z_M0 D cA [(ra, .inl (cA 1, 1280, .inl rc))])) (va_Qv (fun (u : (Nat → Int32)) => (fun (rc' : (Nat → Int32)) => ∀ q : Int, 0 ≤ q → q < 1280 → z_g rc' q = v) u) (fun (u : (Nat → Int32)) t => va_P D vwCl [(ra, .inl (cA 1, 1280, .inl u))] t.heap) (z_A [(ra, .inl (cA 1, 1280, .inl rc))])) 0 0 (z_A [(ra, .inl (cA 1, 1280, .inl rc))]) := by
  refine wk_J7_fill_53178_a l D cA ra rc v h_v (fun (rc' : (Nat → Int32)) => ∀ q : Int, 0 ≤ q → q < 1280 → z_g rc' q = v) ?_
  unfold vc_J7_fill_53178_a
  intro L hL
  suffices H : ∀ (d : Nat) (y : Nat → Int32), d ≤ 1280 → (∀ p : Int, 0 ≤ p → p < 1280 - d → z_g y p = v) → L (1280 - (d : Int)) y from H 1280 _ (Nat.le_refl _) (fun p h0 h1 => absurd h1 (by omega))
  intro d
  induction d with
  | zero =>
    intro y hd hy
    exact hL _ _ ⟨by omega, by omega⟩ ⟨fun _ p h0 h1 => hy p h0 (by omega), fun h => absurd h (by omega)⟩
  | succ d ih =>
    intro y hd hy
    refine hL _ _ ⟨by omega, by omega⟩ ⟨fun h => absurd h (by omega), fun h => ⟨⟨by omega, by omega⟩, ?_⟩⟩
    rintro f rfl
    rw [show 1280 - ((d + 1 : Nat) : Int) + 1 = 1280 - (d : Int) by omega]
    refine ih _ (by omega) (fun p h0 h1 => ?_)
    rw [z_gs h_v (by omega) h0]
    split
    · rfl
    · exact hy p h0 (by omega)
def vc_J7_fill_53178_b (rc : Nat → Int32) (v : Int) (Q : (Nat → Int32) → Prop) : Prop :=
(∀ L5 : Int → (Nat → Int32) → Prop,
(∀ (x5_2 : Int) (y5_ra : Nat → Int32), z_in x5_2 → ((x5_2 ≥ 2560 → Q y5_ra) ∧
(x5_2 < 2560 → (0 ≤ x5_2 ∧ x5_2 < 2560) ∧ (∀ f2 : Nat → Int32, f2 = z_s y5_ra x5_2 v → L5 (x5_2 + 1) f2))) → L5 x5_2 y5_ra) →
L5 0 rc)
set_option maxHeartbeats 4000000 in
set_option maxRecDepth 100000 in
theorem wk_J7_fill_53178_b (l : Launch) (D : va_G) (cA : Nat → ClassId) (ra : Nat) (rc : Nat → Int32) (v : Int) (h_v : z_in v) (Q : (Nat → Int32) → Prop) (hv : vc_J7_fill_53178_b rc v Q) : Met l yJ7_fill_53178 wsJ7_fill_53178 ({ frames := 0, cells := 0, slots := 0, locals := 0 } : Room) (va_Pc [.ref ra, .int (z_i v)] (z_M0 D cA [(ra, .inl (cA 1, 2560, .inl rc))])) (va_Qv (fun (u : (Nat → Int32)) => Q u) (fun (u : (Nat → Int32)) t => va_P D vwCl [(ra, .inl (cA 1, 2560, .inl u))] t.heap) (z_A [(ra, .inl (cA 1, 2560, .inl rc))])) 0 0 (z_A [(ra, .inl (cA 1, 2560, .inl rc))]) := by
  unfold vc_J7_fill_53178_b at hv
  refine Met.ofW (cc := cJ7_fill_53178) (maxL := 4) (ret := none) (by decide +kernel) rfl ?_
  intro p e s m args below meth c s₁ B hml hv0
  obtain ⟨rfl, hK, hP, hD0⟩ := hv0
  have hx := B.exec
  have hb := B.bytes
  have hr := B.returns
  have hts := atoms_spec (ws := wsJ7_fill_53178) B.pre
  have hown : s.vm.findClass RJ7 = some m.cls := findClass_of_methodNamed B.named
  have hlocks := B.notSynchronized
  have hD := z_D_self hD0
  generalize hAe : z_A [(ra, .inl (cA 1, 2560, .inl rc))] = A at *
  have hS : va_S A s.heap s.heap [] := va_S.rf
  have hl := lv_entry ([.ref ra, .int (z_i v)]) (n := 4) (Nat.le_of_ble_eq_true rfl)
  rw [lg_entry_eq]
  generalize (lg_sl ([.ref ra, .int (z_i v)]) ++ List.replicate (4 - (lg_sl ([.ref ra, .int (z_i v)])).length) Slot.unset).toArray = ls at hl ⊢
  have hl : lv_has ls 4 [(0, .ref ra), (1, .int (z_i v))] := hl
  refine lv_iconst (v := z_i 0) hx hb dJ7_fill_53178_0 rfl ?_
  refine lv_istore_n (lv' := [(2, .int (z_i 0)), (0, .ref ra), (1, .int (z_i v))]) hx hb dJ7_fill_53178_1 rfl hl (by decide) rfl (fun ls hl => ?_)
  refine lv_aload_n hx hb dJ7_fill_53178_2 rfl (lv_at hl 1 rfl) ?_
  refine va_alen (v := z_i 2560) hx hb hK hP 0 1 rfl rfl (show Int32.ofNat 2560 = z_i 2560 by decide) dJ7_fill_53178_3 ?_
  refine lv_istore_n (lv' := [(3, .int (z_i 2560)), (2, .int (z_i 0)), (0, .ref ra), (1, .int (z_i v))]) hx hb dJ7_fill_53178_4 rfl hl (by decide) rfl (fun ls hl => ?_)
  refine hv (fun (x5_2 : Int) (y5_ra : Nat → Int32) => ∀ (H : Heap) (locs : List Loc) (ls : Array Slot), va_P D vwCl [(ra, .inl (cA 1, 2560, .inl y5_ra))] H → va_D A [(ra, .inl (cA 1, 2560, .inl y5_ra))] → va_S A s.heap H locs → lv_has ls 4 [(3, .int (z_i 2560)), (2, .int (z_i x5_2)), (0, .ref ra), (1, .int (z_i v))] → W p l e _ s m _ below meth c H locs 0 0 _ (F0 m 5 ls [])) ?_ _ _ ls hP hD hS (lv_sub hl [0, 1, 2, 3] rfl)
  intro x5_2 y5_ra h_x5_2 hv H locs ls hP hD hS hl
  refine lv_iload_n hx hb dJ7_fill_53178_5 rfl (lv_at hl 1 rfl) ?_
  refine lv_iload_n hx hb dJ7_fill_53178_6 rfl (lv_at hl 0 rfl) ?_
  refine lx_icmp_ge (tgt := 20) hx hb dJ7_fill_53178_7 (by decide) h_x5_2 (show z_in 2560 from ⟨by decide, by decide⟩) (fun hc => ?_) (fun hc => ?_)
  · have hv := hv.1 hc
    exact W.vret hx hb hr (fun t ht hW => ⟨⟨(y5_ra), rfl, hv, z_pt hP ht⟩, hS.F ht⟩) hS.2.2 dJ7_fill_53178_20
  · have hv := hv.2 hc
    refine lv_aload_n hx hb dJ7_fill_53178_10 rfl (lv_at hl 2 rfl) ?_
    refine lv_iload_n hx hb dJ7_fill_53178_11 rfl (lv_at hl 1 rfl) ?_
    refine lv_iload_n hx hb dJ7_fill_53178_12 rfl (lv_at hl 3 rfl) ?_
    obtain ⟨hi1, hv⟩ := hv
    refine lx_iast hx hb hK hP hD hS 0 1 rfl rfl (by decide) hi1.1 hi1.2 dJ7_fill_53178_13 (fun H locs hP hD hS => ?_)
    obtain ⟨f2, hy3⟩ : ∃ y : Nat → Int32, y = z_s y5_ra x5_2 v := ⟨_, rfl⟩
    have hv := hv f2 hy3
    have hP : va_P D vwCl [(ra, .inl (cA 1, 2560, .inl f2))] H := by rw [hy3]; exact hP
    have hD : va_D A [(ra, .inl (cA 1, 2560, .inl f2))] := by rw [hy3]; exact hD
    refine lv_iinc (v := z_i (x5_2 + 1)) (lv' := [(2, .int (z_i (x5_2 + 1))), (3, .int (z_i 2560)), (0, .ref ra), (1, .int (z_i v))]) hx hb dJ7_fill_53178_14 hl (k := 1) rfl (z_i_add _ _) (by decide) rfl (fun ls hl => ?_)
    refine lv_goto (tgt := 5) hx hb dJ7_fill_53178_17 (by decide) ?_
    exact hv _ _ ls hP hD hS (lv_sub hl [1, 0, 2, 3] rfl)
set_option maxHeartbeats 4000000 in
set_option maxRecDepth 100000 in
theorem mt_J7_fill_53178_b (l : Launch) (D : va_G) (cA : Nat → ClassId) (ra : Nat) (rc : Nat → Int32) (v : Int) (h_v : z_in v)  : Met l yJ7_fill_53178 wsJ7_fill_53178 ({ frames := 0, cells := 0, slots := 0, locals := 0 } : Room) (va_Pc [.ref ra, .int (z_i v)] (z_M0 D cA [(ra, .inl (cA 1, 2560, .inl rc))])) (va_Qv (fun (u : (Nat → Int32)) => (fun (rc' : (Nat → Int32)) => ∀ q : Int, 0 ≤ q → q < 2560 → z_g rc' q = v) u) (fun (u : (Nat → Int32)) t => va_P D vwCl [(ra, .inl (cA 1, 2560, .inl u))] t.heap) (z_A [(ra, .inl (cA 1, 2560, .inl rc))])) 0 0 (z_A [(ra, .inl (cA 1, 2560, .inl rc))]) := by
  refine wk_J7_fill_53178_b l D cA ra rc v h_v (fun (rc' : (Nat → Int32)) => ∀ q : Int, 0 ≤ q → q < 2560 → z_g rc' q = v) ?_
  unfold vc_J7_fill_53178_b
  intro L hL
  suffices H : ∀ (d : Nat) (y : Nat → Int32), d ≤ 2560 → (∀ p : Int, 0 ≤ p → p < 2560 - d → z_g y p = v) → L (2560 - (d : Int)) y from H 2560 _ (Nat.le_refl _) (fun p h0 h1 => absurd h1 (by omega))
  intro d
  induction d with
  | zero =>
    intro y hd hy
    exact hL _ _ ⟨by omega, by omega⟩ ⟨fun _ p h0 h1 => hy p h0 (by omega), fun h => absurd h (by omega)⟩
  | succ d ih =>
    intro y hd hy
    refine hL _ _ ⟨by omega, by omega⟩ ⟨fun h => absurd h (by omega), fun h => ⟨⟨by omega, by omega⟩, ?_⟩⟩
    rintro f rfl
    rw [show 2560 - ((d + 1 : Nat) : Int) + 1 = 2560 - (d : Int) by omega]
    refine ih _ (by omega) (fun p h0 h1 => ?_)
    rw [z_gs h_v (by omega) h0]
    split
    · rfl
    · exact hy p h0 (by omega)
def vc_J7_fill_031fb_z (rc : Nat → Int32) (v : Int) (Q : (Nat → Int32) → Prop) : Prop :=
(∀ L5 : Int → (Nat → Int32) → Prop,
(∀ (x5_2 : Int) (y5_ra : Nat → Int32), z_in x5_2 → ((x5_2 ≥ 1280 → Q y5_ra) ∧
(x5_2 < 1280 → (0 ≤ x5_2 ∧ x5_2 < 1280) ∧ (v = 0 ∨ v = 1) ∧ (∀ f3 : Nat → Int32, f3 = z_s y5_ra x5_2 v → L5 (x5_2 + 1) f3))) → L5 x5_2 y5_ra) →
L5 0 rc)
set_option maxHeartbeats 4000000 in
set_option maxRecDepth 100000 in
theorem wk_J7_fill_031fb_z (l : Launch) (D : va_G) (cA : Nat → ClassId) (ra : Nat) (rc : Nat → Int32) (v : Int) (h_v : z_in v) (Q : (Nat → Int32) → Prop) (hv : vc_J7_fill_031fb_z rc v Q) : Met l yJ7_fill_031fb wsJ7_fill_031fb ({ frames := 0, cells := 0, slots := 0, locals := 0 } : Room) (va_Pc [.ref ra, .int (z_i v)] (z_M0 D cA [(ra, .inl (cA 0, 1280, .inl rc))])) (va_Qv (fun (u : (Nat → Int32)) => Q u) (fun (u : (Nat → Int32)) t => va_P D vwCl [(ra, .inl (cA 0, 1280, .inl u))] t.heap) (z_A [(ra, .inl (cA 0, 1280, .inl rc))])) 0 0 (z_A [(ra, .inl (cA 0, 1280, .inl rc))]) := by
  unfold vc_J7_fill_031fb_z at hv
  refine Met.ofW (cc := cJ7_fill_031fb) (maxL := 4) (ret := none) (by decide +kernel) rfl ?_
  intro p e s m args below meth c s₁ B hml hv0
  obtain ⟨rfl, hK, hP, hD0⟩ := hv0
  have hx := B.exec
  have hb := B.bytes
  have hr := B.returns
  have hts := atoms_spec (ws := wsJ7_fill_031fb) B.pre
  have hown : s.vm.findClass RJ7 = some m.cls := findClass_of_methodNamed B.named
  have hlocks := B.notSynchronized
  have hD := z_D_self hD0
  generalize hAe : z_A [(ra, .inl (cA 0, 1280, .inl rc))] = A at *
  have hS : va_S A s.heap s.heap [] := va_S.rf
  have hl := lv_entry ([.ref ra, .int (z_i v)]) (n := 4) (Nat.le_of_ble_eq_true rfl)
  rw [lg_entry_eq]
  generalize (lg_sl ([.ref ra, .int (z_i v)]) ++ List.replicate (4 - (lg_sl ([.ref ra, .int (z_i v)])).length) Slot.unset).toArray = ls at hl ⊢
  have hl : lv_has ls 4 [(0, .ref ra), (1, .int (z_i v))] := hl
  refine lv_iconst (v := z_i 0) hx hb dJ7_fill_031fb_0 rfl ?_
  refine lv_istore_n (lv' := [(2, .int (z_i 0)), (0, .ref ra), (1, .int (z_i v))]) hx hb dJ7_fill_031fb_1 rfl hl (by decide) rfl (fun ls hl => ?_)
  refine lv_aload_n hx hb dJ7_fill_031fb_2 rfl (lv_at hl 1 rfl) ?_
  refine va_alen (v := z_i 1280) hx hb hK hP 0 0 rfl rfl (show Int32.ofNat 1280 = z_i 1280 by decide) dJ7_fill_031fb_3 ?_
  refine lv_istore_n (lv' := [(3, .int (z_i 1280)), (2, .int (z_i 0)), (0, .ref ra), (1, .int (z_i v))]) hx hb dJ7_fill_031fb_4 rfl hl (by decide) rfl (fun ls hl => ?_)
  refine hv (fun (x5_2 : Int) (y5_ra : Nat → Int32) => ∀ (H : Heap) (locs : List Loc) (ls : Array Slot), va_P D vwCl [(ra, .inl (cA 0, 1280, .inl y5_ra))] H → va_D A [(ra, .inl (cA 0, 1280, .inl y5_ra))] → va_S A s.heap H locs → lv_has ls 4 [(3, .int (z_i 1280)), (2, .int (z_i x5_2)), (0, .ref ra), (1, .int (z_i v))] → W p l e _ s m _ below meth c H locs 0 0 _ (F0 m 5 ls [])) ?_ _ _ ls hP hD hS (lv_sub hl [0, 1, 2, 3] rfl)
  intro x5_2 y5_ra h_x5_2 hv H locs ls hP hD hS hl
  refine lv_iload_n hx hb dJ7_fill_031fb_5 rfl (lv_at hl 1 rfl) ?_
  refine lv_iload_n hx hb dJ7_fill_031fb_6 rfl (lv_at hl 0 rfl) ?_
  refine lx_icmp_ge (tgt := 20) hx hb dJ7_fill_031fb_7 (by decide) h_x5_2 (show z_in 1280 from ⟨by decide, by decide⟩) (fun hc => ?_) (fun hc => ?_)
  · have hv := hv.1 hc
    exact W.vret hx hb hr (fun t ht hW => ⟨⟨(y5_ra), rfl, hv, z_pt hP ht⟩, hS.F ht⟩) hS.2.2 dJ7_fill_031fb_20
  · have hv := hv.2 hc
    refine lv_aload_n hx hb dJ7_fill_031fb_10 rfl (lv_at hl 2 rfl) ?_
    refine lv_iload_n hx hb dJ7_fill_031fb_11 rfl (lv_at hl 1 rfl) ?_
    refine lv_iload_n hx hb dJ7_fill_031fb_12 rfl (lv_at hl 3 rfl) ?_
    obtain ⟨hi1, hv⟩ := hv
    obtain ⟨hb2, hv⟩ := hv
    refine lx_bast hx hb hK hP hD hS 0 0 rfl rfl (by decide) hi1.1 hi1.2 hb2 dJ7_fill_031fb_13 (fun H locs hP hD hS => ?_)
    obtain ⟨f3, hy4⟩ : ∃ y : Nat → Int32, y = z_s y5_ra x5_2 v := ⟨_, rfl⟩
    have hv := hv f3 hy4
    have hP : va_P D vwCl [(ra, .inl (cA 0, 1280, .inl f3))] H := by rw [hy4]; exact hP
    have hD : va_D A [(ra, .inl (cA 0, 1280, .inl f3))] := by rw [hy4]; exact hD
    refine lv_iinc (v := z_i (x5_2 + 1)) (lv' := [(2, .int (z_i (x5_2 + 1))), (3, .int (z_i 1280)), (0, .ref ra), (1, .int (z_i v))]) hx hb dJ7_fill_031fb_14 hl (k := 1) rfl (z_i_add _ _) (by decide) rfl (fun ls hl => ?_)
    refine lv_goto (tgt := 5) hx hb dJ7_fill_031fb_17 (by decide) ?_
    exact hv _ _ ls hP hD hS (lv_sub hl [1, 0, 2, 3] rfl)
set_option maxHeartbeats 4000000 in
set_option maxRecDepth 100000 in
theorem mt_J7_fill_031fb_z (l : Launch) (D : va_G) (cA : Nat → ClassId) (ra : Nat) (rc : Nat → Int32) (v : Int) (h_v : z_in v) (hp1 : v = 0 ∨ v = 1) : Met l yJ7_fill_031fb wsJ7_fill_031fb ({ frames := 0, cells := 0, slots := 0, locals := 0 } : Room) (va_Pc [.ref ra, .int (z_i v)] (z_M0 D cA [(ra, .inl (cA 0, 1280, .inl rc))])) (va_Qv (fun (u : (Nat → Int32)) => (fun (rc' : (Nat → Int32)) => ∀ q : Int, 0 ≤ q → q < 1280 → z_g rc' q = v) u) (fun (u : (Nat → Int32)) t => va_P D vwCl [(ra, .inl (cA 0, 1280, .inl u))] t.heap) (z_A [(ra, .inl (cA 0, 1280, .inl rc))])) 0 0 (z_A [(ra, .inl (cA 0, 1280, .inl rc))]) := by
  refine wk_J7_fill_031fb_z l D cA ra rc v h_v (fun (rc' : (Nat → Int32)) => ∀ q : Int, 0 ≤ q → q < 1280 → z_g rc' q = v) ?_
  unfold vc_J7_fill_031fb_z
  intro L hL
  suffices H : ∀ (d : Nat) (y : Nat → Int32), d ≤ 1280 → (∀ p : Int, 0 ≤ p → p < 1280 - d → z_g y p = v) → L (1280 - (d : Int)) y from H 1280 _ (Nat.le_refl _) (fun p h0 h1 => absurd h1 (by omega))
  intro d
  induction d with
  | zero =>
    intro y hd hy
    exact hL _ _ ⟨by omega, by omega⟩ ⟨fun _ p h0 h1 => hy p h0 (by omega), fun h => absurd h (by omega)⟩
  | succ d ih =>
    intro y hd hy
    refine hL _ _ ⟨by omega, by omega⟩ ⟨fun h => absurd h (by omega), fun h => ⟨⟨by omega, by omega⟩, hp1, ?_⟩⟩
    rintro f rfl
    rw [show 1280 - ((d + 1 : Nat) : Int) + 1 = 1280 - (d : Int) by omega]
    refine ih _ (by omega) (fun p h0 h1 => ?_)
    rw [z_gs h_v (by omega) h0]
    split
    · rfl
    · exact hy p h0 (by omega)
def vc_J7_fill_d0a16_l (rc : Nat → Int64) (v : Int) (Q : (Nat → Int64) → Prop) : Prop :=
(∀ L6 : Int → (Nat → Int64) → Prop,
(∀ (x6_3 : Int) (y6_ra : Nat → Int64), z_in x6_3 → ((x6_3 ≥ 32 → Q y6_ra) ∧
(x6_3 < 32 → (0 ≤ x6_3 ∧ x6_3 < 32) ∧ (∀ f2 : Nat → Int64, f2 = z_sl y6_ra x6_3 v → L6 (x6_3 + 1) f2))) → L6 x6_3 y6_ra) →
L6 0 rc)
set_option maxHeartbeats 4000000 in
set_option maxRecDepth 100000 in
theorem wk_J7_fill_d0a16_l (l : Launch) (D : va_G) (cA : Nat → ClassId) (ra : Nat) (rc : Nat → Int64) (v : Int) (h_v : z_nl v) (Q : (Nat → Int64) → Prop) (hv : vc_J7_fill_d0a16_l rc v Q) : Met l yJ7_fill_d0a16 wsJ7_fill_d0a16 ({ frames := 0, cells := 0, slots := 0, locals := 0 } : Room) (va_Pc [.ref ra, .long (z_l v)] (z_M0 D cA [(ra, .inl (cA 2, 32, .inr (.inl rc)))])) (va_Qv (fun (u : (Nat → Int64)) => Q u) (fun (u : (Nat → Int64)) t => va_P D vwCl [(ra, .inl (cA 2, 32, .inr (.inl u)))] t.heap) (z_A [(ra, .inl (cA 2, 32, .inr (.inl rc)))])) 0 0 (z_A [(ra, .inl (cA 2, 32, .inr (.inl rc)))]) := by
  unfold vc_J7_fill_d0a16_l at hv
  refine Met.ofW (cc := cJ7_fill_d0a16) (maxL := 5) (ret := none) (by decide +kernel) rfl ?_
  intro p e s m args below meth c s₁ B hml hv0
  obtain ⟨rfl, hK, hP, hD0⟩ := hv0
  have hx := B.exec
  have hb := B.bytes
  have hr := B.returns
  have hts := atoms_spec (ws := wsJ7_fill_d0a16) B.pre
  have hown : s.vm.findClass RJ7 = some m.cls := findClass_of_methodNamed B.named
  have hlocks := B.notSynchronized
  have hD := z_D_self hD0
  generalize hAe : z_A [(ra, .inl (cA 2, 32, .inr (.inl rc)))] = A at *
  have hS : va_S A s.heap s.heap [] := va_S.rf
  have hl := lv_entry ([.ref ra, .long (z_l v)]) (n := 5) (Nat.le_of_ble_eq_true rfl)
  rw [lg_entry_eq]
  generalize (lg_sl ([.ref ra, .long (z_l v)]) ++ List.replicate (5 - (lg_sl ([.ref ra, .long (z_l v)])).length) Slot.unset).toArray = ls at hl ⊢
  have hl : lv_has ls 5 [(0, .ref ra), (1, .long (z_l v))] := hl
  refine lv_iconst (v := z_i 0) hx hb dJ7_fill_d0a16_0 rfl ?_
  refine lv_istore_n (lv' := [(3, .int (z_i 0)), (0, .ref ra), (1, .long (z_l v))]) hx hb dJ7_fill_d0a16_1 rfl hl (by decide) rfl (fun ls hl => ?_)
  refine lv_aload_n hx hb dJ7_fill_d0a16_2 rfl (lv_at hl 1 rfl) ?_
  refine va_alen (v := z_i 32) hx hb hK hP 0 2 rfl rfl (show Int32.ofNat 32 = z_i 32 by decide) dJ7_fill_d0a16_3 ?_
  refine lv_istore (lv' := [(4, .int (z_i 32)), (3, .int (z_i 0)), (0, .ref ra), (1, .long (z_l v))]) hx hb dJ7_fill_d0a16_4 hl (by decide) rfl (fun ls hl => ?_)
  refine hv (fun (x6_3 : Int) (y6_ra : Nat → Int64) => ∀ (H : Heap) (locs : List Loc) (ls : Array Slot), va_P D vwCl [(ra, .inl (cA 2, 32, .inr (.inl y6_ra)))] H → va_D A [(ra, .inl (cA 2, 32, .inr (.inl y6_ra)))] → va_S A s.heap H locs → lv_has ls 5 [(4, .int (z_i 32)), (3, .int (z_i x6_3)), (0, .ref ra), (1, .long (z_l v))] → W p l e _ s m _ below meth c H locs 0 0 _ (F0 m 6 ls [])) ?_ _ _ ls hP hD hS (lv_sub hl [0, 1, 2, 3] rfl)
  intro x6_3 y6_ra h_x6_3 hv H locs ls hP hD hS hl
  refine lv_iload_n hx hb dJ7_fill_d0a16_6 rfl (lv_at hl 1 rfl) ?_
  refine lv_iload hx hb dJ7_fill_d0a16_7 (lv_at hl 0 rfl) ?_
  refine lx_icmp_ge (tgt := 22) hx hb dJ7_fill_d0a16_9 (by decide) h_x6_3 (show z_in 32 from ⟨by decide, by decide⟩) (fun hc => ?_) (fun hc => ?_)
  · have hv := hv.1 hc
    exact W.vret hx hb hr (fun t ht hW => ⟨⟨(y6_ra), rfl, hv, z_pt hP ht⟩, hS.F ht⟩) hS.2.2 dJ7_fill_d0a16_22
  · have hv := hv.2 hc
    refine lv_aload_n hx hb dJ7_fill_d0a16_12 rfl (lv_at hl 2 rfl) ?_
    refine lv_iload_n hx hb dJ7_fill_d0a16_13 rfl (lv_at hl 1 rfl) ?_
    refine lv_lload_n hx hb dJ7_fill_d0a16_14 rfl (lv_at hl 3 rfl) ?_
    obtain ⟨hi1, hv⟩ := hv
    refine lx_last hx hb hK hP hD hS 0 2 rfl rfl (by decide) hi1.1 hi1.2 dJ7_fill_d0a16_15 (fun H locs hP hD hS => ?_)
    obtain ⟨f2, hy3⟩ : ∃ y : Nat → Int64, y = z_sl y6_ra x6_3 v := ⟨_, rfl⟩
    have hv := hv f2 hy3
    have hP : va_P D vwCl [(ra, .inl (cA 2, 32, .inr (.inl f2)))] H := by rw [hy3]; exact hP
    have hD : va_D A [(ra, .inl (cA 2, 32, .inr (.inl f2)))] := by rw [hy3]; exact hD
    refine lv_iinc (v := z_i (x6_3 + 1)) (lv' := [(3, .int (z_i (x6_3 + 1))), (4, .int (z_i 32)), (0, .ref ra), (1, .long (z_l v))]) hx hb dJ7_fill_d0a16_16 hl (k := 1) rfl (z_i_add _ _) (by decide) rfl (fun ls hl => ?_)
    refine lv_goto (tgt := 6) hx hb dJ7_fill_d0a16_19 (by decide) ?_
    exact hv _ _ ls hP hD hS (lv_sub hl [1, 0, 2, 3] rfl)
set_option maxHeartbeats 4000000 in
set_option maxRecDepth 100000 in
theorem mt_J7_fill_d0a16_l (l : Launch) (D : va_G) (cA : Nat → ClassId) (ra : Nat) (rc : Nat → Int64) (v : Int) (h_v : z_nl v)  : Met l yJ7_fill_d0a16 wsJ7_fill_d0a16 ({ frames := 0, cells := 0, slots := 0, locals := 0 } : Room) (va_Pc [.ref ra, .long (z_l v)] (z_M0 D cA [(ra, .inl (cA 2, 32, .inr (.inl rc)))])) (va_Qv (fun (u : (Nat → Int64)) => (fun (rc' : (Nat → Int64)) => ∀ q : Int, 0 ≤ q → q < 32 → z_gl rc' q = v) u) (fun (u : (Nat → Int64)) t => va_P D vwCl [(ra, .inl (cA 2, 32, .inr (.inl u)))] t.heap) (z_A [(ra, .inl (cA 2, 32, .inr (.inl rc)))])) 0 0 (z_A [(ra, .inl (cA 2, 32, .inr (.inl rc)))]) := by
  refine wk_J7_fill_d0a16_l l D cA ra rc v h_v (fun (rc' : (Nat → Int64)) => ∀ q : Int, 0 ≤ q → q < 32 → z_gl rc' q = v) ?_
  unfold vc_J7_fill_d0a16_l
  intro L hL
  suffices H : ∀ (d : Nat) (y : Nat → Int64), d ≤ 32 → (∀ p : Int, 0 ≤ p → p < 32 - d → z_gl y p = v) → L (32 - (d : Int)) y from H 32 _ (Nat.le_refl _) (fun p h0 h1 => absurd h1 (by omega))
  intro d
  induction d with
  | zero =>
    intro y hd hy
    exact hL _ _ ⟨by omega, by omega⟩ ⟨fun _ p h0 h1 => hy p h0 (by omega), fun h => absurd h (by omega)⟩
  | succ d ih =>
    intro y hd hy
    refine hL _ _ ⟨by omega, by omega⟩ ⟨fun h => absurd h (by omega), fun h => ⟨⟨by omega, by omega⟩, ?_⟩⟩
    rintro f rfl
    rw [show 32 - ((d + 1 : Nat) : Int) + 1 = 32 - (d : Int) by omega]
    refine ih _ (by omega) (fun p h0 h1 => ?_)
    rw [z_gsl h_v (by omega) h0]
    split
    · rfl
    · exact hy p h0 (by omega)
def vc_X2_put (g_units : Nat → Int32) (n : Int) (value : Int) (Q : (Nat → Int32) → Prop) : Prop :=
((n < 0 → Q g_units) ∧
(n ≥ 0 → ((n ≥ 1280 → Q g_units) ∧
(n < 1280 → (0 ≤ n ∧ n < 1280) ∧ (∀ f2 : Nat → Int32, f2 = z_s g_units n value → Q f2)))))
set_option maxHeartbeats 4000000 in
set_option maxRecDepth 100000 in
theorem wk_X2_put (l : Launch) (D : va_G) (cA : Nat → ClassId) (g : Nat) (ga_units : Nat) (g_units : Nat → Int32) (ga_lengths : Nat) (g_lengths : Nat → Int32) (ga_offsets : Nat) (g_offsets : Nat → Int32) (g_step : Int) (n : Int) (value : Int) (h_g_step : z_in g_step) (h_n : z_in n) (h_value : z_in value) (Q : (Nat → Int32) → Prop) (hv : vc_X2_put g_units n value Q) : Met l yX2_put wsX2_put ({ frames := 0, cells := 0, slots := 0, locals := 0 } : Room) (va_Pc [.ref g, .int (z_i n), .int (z_i value)] (z_M0 D cA [(g, .inr (1, [.ref ga_units, .ref ga_lengths, .ref ga_offsets, .int (z_i g_step)])), (ga_units, .inl (cA 1, 1280, .inl g_units)), (ga_lengths, .inl (cA 1, 32, .inl g_lengths)), (ga_offsets, .inl (cA 1, 32, .inl g_offsets))])) (va_Qv (fun (u : (Nat → Int32)) => Q u) (fun (u : (Nat → Int32)) t => va_P D vwCl [(g, .inr (1, [.ref ga_units, .ref ga_lengths, .ref ga_offsets, .int (z_i g_step)])), (ga_units, .inl (cA 1, 1280, .inl u)), (ga_lengths, .inl (cA 1, 32, .inl g_lengths)), (ga_offsets, .inl (cA 1, 32, .inl g_offsets))] t.heap) (z_A [(g, .inr (1, [.ref ga_units, .ref ga_lengths, .ref ga_offsets, .int (z_i g_step)])), (ga_units, .inl (cA 1, 1280, .inl g_units)), (ga_lengths, .inl (cA 1, 32, .inl g_lengths)), (ga_offsets, .inl (cA 1, 32, .inl g_offsets))])) 0 0 (z_A [(g, .inr (1, [.ref ga_units, .ref ga_lengths, .ref ga_offsets, .int (z_i g_step)])), (ga_units, .inl (cA 1, 1280, .inl g_units)), (ga_lengths, .inl (cA 1, 32, .inl g_lengths)), (ga_offsets, .inl (cA 1, 32, .inl g_offsets))]) := by
  unfold vc_X2_put at hv
  refine Met.ofW (cc := cX2_put) (maxL := 3) (ret := none) (by decide +kernel) rfl ?_
  intro p e s m args below meth c s₁ B hml hv0
  obtain ⟨rfl, hK, hP, hD0⟩ := hv0
  have hx := B.exec
  have hb := B.bytes
  have hr := B.returns
  have hts := atoms_spec (ws := wsX2_put) B.pre
  have hown : s.vm.findClass RX2 = some m.cls := findClass_of_methodNamed B.named
  have hlocks := B.notSynchronized
  have hD := z_D_self hD0
  generalize hAe : z_A [(g, .inr (1, [.ref ga_units, .ref ga_lengths, .ref ga_offsets, .int (z_i g_step)])), (ga_units, .inl (cA 1, 1280, .inl g_units)), (ga_lengths, .inl (cA 1, 32, .inl g_lengths)), (ga_offsets, .inl (cA 1, 32, .inl g_offsets))] = A at *
  have hS : va_S A s.heap s.heap [] := va_S.rf
  have hl := lv_entry ([.ref g, .int (z_i n), .int (z_i value)]) (n := 3) (Nat.le_of_ble_eq_true rfl)
  rw [lg_entry_eq]
  generalize (lg_sl ([.ref g, .int (z_i n), .int (z_i value)]) ++ List.replicate (3 - (lg_sl ([.ref g, .int (z_i n), .int (z_i value)])).length) Slot.unset).toArray = ls at hl ⊢
  have hl : lv_has ls 3 [(0, .ref g), (1, .int (z_i n)), (2, .int (z_i value))] := hl
  refine lv_iload_n hx hb dX2_put_0 rfl (lv_at hl 1 rfl) ?_
  refine lx_if_lt (tgt := 18) hx hb dX2_put_1 (by decide) h_n (fun hc => ?_) (fun hc => ?_)
  · have hv := hv.1 hc
    exact W.vret hx hb hr (fun t ht hW => ⟨⟨(g_units), rfl, hv, z_pt hP ht⟩, hS.F ht⟩) hS.2.2 dX2_put_18
  · have hv := hv.2 hc
    refine lv_iload_n hx hb dX2_put_4 rfl (lv_at hl 1 rfl) ?_
    refine lv_sipush (v := z_i 1280) hx hb dX2_put_5 (by decide) ?_
    refine lx_icmp_ge (tgt := 18) hx hb dX2_put_8 (by decide) h_n (show z_in 1280 from ⟨by decide, by decide⟩) (fun hc => ?_) (fun hc => ?_)
    · have hv := hv.1 hc
      exact W.vret hx hb hr (fun t ht hW => ⟨⟨(g_units), rfl, hv, z_pt hP ht⟩, hS.F ht⟩) hS.2.2 dX2_put_18
    · have hv := hv.2 hc
      refine lv_aload_n hx hb dX2_put_11 rfl (lv_at hl 0 rfl) ?_
      refine va_get (D := D) (ci := 1) (v := .ref ga_units) (C := RX2) (T := TX2) (N := 4) hx hb hts (fun w h => List.mem_cons_of_mem _ (List.mem_append_right _ h)) hown hK hP 0 rfl rfl 0 (by decide) (hts (.fieldLink RX2 9 "ContourSheets$Grid" "units" "[I") (by decide +kernel)) (fun _ h9 => h9) rfl dX2_put_12 ?_
      refine lv_iload_n hx hb dX2_put_15 rfl (lv_at hl 1 rfl) ?_
      refine lv_iload_n hx hb dX2_put_16 rfl (lv_at hl 2 rfl) ?_
      obtain ⟨hi1, hv⟩ := hv
      refine lx_iast hx hb hK hP hD hS 1 1 rfl rfl (by decide) hi1.1 hi1.2 dX2_put_17 (fun H locs hP hD hS => ?_)
      obtain ⟨f2, hy3⟩ : ∃ y : Nat → Int32, y = z_s g_units n value := ⟨_, rfl⟩
      have hv := hv f2 hy3
      have hP : va_P D vwCl [(g, .inr (1, [.ref ga_units, .ref ga_lengths, .ref ga_offsets, .int (z_i g_step)])), (ga_units, .inl (cA 1, 1280, .inl f2)), (ga_lengths, .inl (cA 1, 32, .inl g_lengths)), (ga_offsets, .inl (cA 1, 32, .inl g_offsets))] H := by rw [hy3]; exact hP
      have hD : va_D A [(g, .inr (1, [.ref ga_units, .ref ga_lengths, .ref ga_offsets, .int (z_i g_step)])), (ga_units, .inl (cA 1, 1280, .inl f2)), (ga_lengths, .inl (cA 1, 32, .inl g_lengths)), (ga_offsets, .inl (cA 1, 32, .inl g_offsets))] := by rw [hy3]; exact hD
      exact W.vret hx hb hr (fun t ht hW => ⟨⟨(f2), rfl, hv, z_pt hP ht⟩, hS.F ht⟩) hS.2.2 dX2_put_18
set_option maxHeartbeats 4000000 in
set_option maxRecDepth 100000 in
theorem mt_X2_put (l : Launch) (D : va_G) (cA : Nat → ClassId) (g : Nat) (ga_units : Nat) (g_units : Nat → Int32) (ga_lengths : Nat) (g_lengths : Nat → Int32) (ga_offsets : Nat) (g_offsets : Nat → Int32) (g_step : Int) (n : Int) (value : Int) (h_g_step : z_in g_step) (h_n : z_in n) (h_value : z_in value) (hp1 : 0 ≤ n ∧ n < 1280) : Met l yX2_put wsX2_put ({ frames := 0, cells := 0, slots := 0, locals := 0 } : Room) (va_Pc [.ref g, .int (z_i n), .int (z_i value)] (z_M0 D cA [(g, .inr (1, [.ref ga_units, .ref ga_lengths, .ref ga_offsets, .int (z_i g_step)])), (ga_units, .inl (cA 1, 1280, .inl g_units)), (ga_lengths, .inl (cA 1, 32, .inl g_lengths)), (ga_offsets, .inl (cA 1, 32, .inl g_offsets))])) (va_Qv (fun (u : (Nat → Int32)) => (fun (g_units' : (Nat → Int32)) => g_units' = z_s g_units n value) u) (fun (u : (Nat → Int32)) t => va_P D vwCl [(g, .inr (1, [.ref ga_units, .ref ga_lengths, .ref ga_offsets, .int (z_i g_step)])), (ga_units, .inl (cA 1, 1280, .inl u)), (ga_lengths, .inl (cA 1, 32, .inl g_lengths)), (ga_offsets, .inl (cA 1, 32, .inl g_offsets))] t.heap) (z_A [(g, .inr (1, [.ref ga_units, .ref ga_lengths, .ref ga_offsets, .int (z_i g_step)])), (ga_units, .inl (cA 1, 1280, .inl g_units)), (ga_lengths, .inl (cA 1, 32, .inl g_lengths)), (ga_offsets, .inl (cA 1, 32, .inl g_offsets))])) 0 0 (z_A [(g, .inr (1, [.ref ga_units, .ref ga_lengths, .ref ga_offsets, .int (z_i g_step)])), (ga_units, .inl (cA 1, 1280, .inl g_units)), (ga_lengths, .inl (cA 1, 32, .inl g_lengths)), (ga_offsets, .inl (cA 1, 32, .inl g_offsets))]) := by
  refine wk_X2_put l D cA g ga_units g_units ga_lengths g_lengths ga_offsets g_offsets g_step n value h_g_step h_n h_value (fun (g_units' : (Nat → Int32)) => g_units' = z_s g_units n value) ?_
  unfold vc_X2_put
  exact ⟨fun h => absurd hp1.1 (by omega), fun h => ⟨fun h2 => absurd hp1.2 (by omega), fun h2 => ⟨hp1, fun f e => e⟩⟩⟩
def vc_X2_setRow (g_units : Nat → Int32) (g_lengths : Nat → Int32) (g_offsets : Nat → Int32) (i : Int) (length : Int) (offset : Int) (Q : (Nat → Int32) → (Nat → Int32) → (Nat → Int32) → Prop) : Prop :=
((i < 0 → Q g_units g_lengths g_offsets) ∧
(i ≥ 0 → ((i < 32 → (0 ≤ i ∧ i < 32) ∧ (∀ f2 : Nat → Int32, f2 = z_s g_lengths i length → (∀ f4 : Nat → Int32, f4 = z_s g_offsets i offset → (∀ L28 : Int → (Nat → Int32) → Prop,
(∀ (x28_4 : Int) (y28_ga_units : Nat → Int32), z_in x28_4 → ((x28_4 ≥ 40 → Q y28_ga_units f2 f4) ∧
(x28_4 < 40 → (0 ≤ (40 * i) + x28_4 ∧ (40 * i) + x28_4 < 1280) ∧ (∀ f7 : Nat → Int32, f7 = z_s y28_ga_units ((40 * i) + x28_4) (-2147483648) → L28 (x28_4 + 1) f7))) → L28 x28_4 y28_ga_units) →
L28 0 g_units)))) ∧
(i ≥ 32 → Q g_units g_lengths g_offsets))))
set_option maxHeartbeats 4000000 in
set_option maxRecDepth 100000 in
theorem wk_X2_setRow (l : Launch) (D : va_G) (cA : Nat → ClassId) (g : Nat) (ga_units : Nat) (g_units : Nat → Int32) (ga_lengths : Nat) (g_lengths : Nat → Int32) (ga_offsets : Nat) (g_offsets : Nat → Int32) (g_step : Int) (i : Int) (length : Int) (offset : Int) (h_g_step : z_in g_step) (h_i : z_in i) (h_length : z_in length) (h_offset : z_in offset) (Q : (Nat → Int32) → (Nat → Int32) → (Nat → Int32) → Prop) (hv : vc_X2_setRow g_units g_lengths g_offsets i length offset Q) : Met l yX2_setRow wsX2_setRow ({ frames := 0, cells := 0, slots := 0, locals := 0 } : Room) (va_Pc [.ref g, .int (z_i i), .int (z_i length), .int (z_i offset)] (z_M0 D cA [(g, .inr (1, [.ref ga_units, .ref ga_lengths, .ref ga_offsets, .int (z_i g_step)])), (ga_units, .inl (cA 1, 1280, .inl g_units)), (ga_lengths, .inl (cA 1, 32, .inl g_lengths)), (ga_offsets, .inl (cA 1, 32, .inl g_offsets))])) (va_Qv (fun (u : (Nat → Int32) × (Nat → Int32) × (Nat → Int32)) => Q u.1 u.2.1 u.2.2) (fun (u : (Nat → Int32) × (Nat → Int32) × (Nat → Int32)) t => va_P D vwCl [(g, .inr (1, [.ref ga_units, .ref ga_lengths, .ref ga_offsets, .int (z_i g_step)])), (ga_units, .inl (cA 1, 1280, .inl u.1)), (ga_lengths, .inl (cA 1, 32, .inl u.2.1)), (ga_offsets, .inl (cA 1, 32, .inl u.2.2))] t.heap) (z_A [(g, .inr (1, [.ref ga_units, .ref ga_lengths, .ref ga_offsets, .int (z_i g_step)])), (ga_units, .inl (cA 1, 1280, .inl g_units)), (ga_lengths, .inl (cA 1, 32, .inl g_lengths)), (ga_offsets, .inl (cA 1, 32, .inl g_offsets))])) 0 0 (z_A [(g, .inr (1, [.ref ga_units, .ref ga_lengths, .ref ga_offsets, .int (z_i g_step)])), (ga_units, .inl (cA 1, 1280, .inl g_units)), (ga_lengths, .inl (cA 1, 32, .inl g_lengths)), (ga_offsets, .inl (cA 1, 32, .inl g_offsets))]) := by
  unfold vc_X2_setRow at hv
  refine Met.ofW (cc := cX2_setRow) (maxL := 5) (ret := none) (by decide +kernel) rfl ?_
  intro p e s m args below meth c s₁ B hml hv0
  obtain ⟨rfl, hK, hP, hD0⟩ := hv0
  have hx := B.exec
  have hb := B.bytes
  have hr := B.returns
  have hts := atoms_spec (ws := wsX2_setRow) B.pre
  have hown : s.vm.findClass RX2 = some m.cls := findClass_of_methodNamed B.named
  have hlocks := B.notSynchronized
  have hD := z_D_self hD0
  generalize hAe : z_A [(g, .inr (1, [.ref ga_units, .ref ga_lengths, .ref ga_offsets, .int (z_i g_step)])), (ga_units, .inl (cA 1, 1280, .inl g_units)), (ga_lengths, .inl (cA 1, 32, .inl g_lengths)), (ga_offsets, .inl (cA 1, 32, .inl g_offsets))] = A at *
  have hS : va_S A s.heap s.heap [] := va_S.rf
  have hl := lv_entry ([.ref g, .int (z_i i), .int (z_i length), .int (z_i offset)]) (n := 5) (Nat.le_of_ble_eq_true rfl)
  rw [lg_entry_eq]
  generalize (lg_sl ([.ref g, .int (z_i i), .int (z_i length), .int (z_i offset)]) ++ List.replicate (5 - (lg_sl ([.ref g, .int (z_i i), .int (z_i length), .int (z_i offset)])).length) Slot.unset).toArray = ls at hl ⊢
  have hl : lv_has ls 5 [(0, .ref g), (1, .int (z_i i)), (2, .int (z_i length)), (3, .int (z_i offset))] := hl
  refine lv_iload_n hx hb dX2_setRow_0 rfl (lv_at hl 1 rfl) ?_
  refine lx_if_lt (tgt := 10) hx hb dX2_setRow_1 (by decide) h_i (fun hc => ?_) (fun hc => ?_)
  · have hv := hv.1 hc
    exact W.vret hx hb hr (fun t ht hW => ⟨⟨(g_units, g_lengths, g_offsets), rfl, hv, z_pt hP ht⟩, hS.F ht⟩) hS.2.2 dX2_setRow_10
  · have hv := hv.2 hc
    refine lv_iload_n hx hb dX2_setRow_4 rfl (lv_at hl 1 rfl) ?_
    refine lv_bipush (v := z_i 32) hx hb dX2_setRow_5 (by decide) ?_
    refine lx_icmp_lt (tgt := 11) hx hb dX2_setRow_7 (by decide) h_i (show z_in 32 from ⟨by decide, by decide⟩) (fun hc => ?_) (fun hc => ?_)
    · have hv := hv.1 hc
      refine lv_aload_n hx hb dX2_setRow_11 rfl (lv_at hl 0 rfl) ?_
      refine va_get (D := D) (ci := 1) (v := .ref ga_lengths) (C := RX2) (T := TX2) (N := 4) hx hb hts (fun w h => List.mem_cons_of_mem _ (List.mem_append_right _ h)) hown hK hP 0 rfl rfl 1 (by decide) (hts (.fieldLink RX2 22 "ContourSheets$Grid" "lengths" "[I") (by decide +kernel)) (fun _ h9 => h9) rfl dX2_setRow_12 ?_
      refine lv_iload_n hx hb dX2_setRow_15 rfl (lv_at hl 1 rfl) ?_
      refine lv_iload_n hx hb dX2_setRow_16 rfl (lv_at hl 2 rfl) ?_
      obtain ⟨hi1, hv⟩ := hv
      refine lx_iast hx hb hK hP hD hS 2 1 rfl rfl (by decide) hi1.1 hi1.2 dX2_setRow_17 (fun H locs hP hD hS => ?_)
      obtain ⟨f2, hy3⟩ : ∃ y : Nat → Int32, y = z_s g_lengths i length := ⟨_, rfl⟩
      have hv := hv f2 hy3
      have hP : va_P D vwCl [(g, .inr (1, [.ref ga_units, .ref ga_lengths, .ref ga_offsets, .int (z_i g_step)])), (ga_units, .inl (cA 1, 1280, .inl g_units)), (ga_lengths, .inl (cA 1, 32, .inl f2)), (ga_offsets, .inl (cA 1, 32, .inl g_offsets))] H := by rw [hy3]; exact hP
      have hD : va_D A [(g, .inr (1, [.ref ga_units, .ref ga_lengths, .ref ga_offsets, .int (z_i g_step)])), (ga_units, .inl (cA 1, 1280, .inl g_units)), (ga_lengths, .inl (cA 1, 32, .inl f2)), (ga_offsets, .inl (cA 1, 32, .inl g_offsets))] := by rw [hy3]; exact hD
      refine lv_aload_n hx hb dX2_setRow_18 rfl (lv_at hl 0 rfl) ?_
      refine va_get (D := D) (ci := 1) (v := .ref ga_offsets) (C := RX2) (T := TX2) (N := 4) hx hb hts (fun w h => List.mem_cons_of_mem _ (List.mem_append_right _ h)) hown hK hP 0 rfl rfl 2 (by decide) (hts (.fieldLink RX2 25 "ContourSheets$Grid" "offsets" "[I") (by decide +kernel)) (fun _ h9 => h9) rfl dX2_setRow_19 ?_
      refine lv_iload_n hx hb dX2_setRow_22 rfl (lv_at hl 1 rfl) ?_
      refine lv_iload_n hx hb dX2_setRow_23 rfl (lv_at hl 3 rfl) ?_
      refine lx_iast hx hb hK hP hD hS 3 1 rfl rfl (by decide) hi1.1 hi1.2 dX2_setRow_24 (fun H locs hP hD hS => ?_)
      obtain ⟨f4, hy5⟩ : ∃ y : Nat → Int32, y = z_s g_offsets i offset := ⟨_, rfl⟩
      have hv := hv f4 hy5
      have hP : va_P D vwCl [(g, .inr (1, [.ref ga_units, .ref ga_lengths, .ref ga_offsets, .int (z_i g_step)])), (ga_units, .inl (cA 1, 1280, .inl g_units)), (ga_lengths, .inl (cA 1, 32, .inl f2)), (ga_offsets, .inl (cA 1, 32, .inl f4))] H := by rw [hy5]; exact hP
      have hD : va_D A [(g, .inr (1, [.ref ga_units, .ref ga_lengths, .ref ga_offsets, .int (z_i g_step)])), (ga_units, .inl (cA 1, 1280, .inl g_units)), (ga_lengths, .inl (cA 1, 32, .inl f2)), (ga_offsets, .inl (cA 1, 32, .inl f4))] := by rw [hy5]; exact hD
      refine lv_iconst (v := z_i 0) hx hb dX2_setRow_25 rfl ?_
      refine lv_istore (lv' := [(4, .int (z_i 0)), (0, .ref g), (1, .int (z_i i)), (2, .int (z_i length)), (3, .int (z_i offset))]) hx hb dX2_setRow_26 hl (by decide) rfl (fun ls hl => ?_)
      refine hv (fun (x28_4 : Int) (y28_ga_units : Nat → Int32) => ∀ (H : Heap) (locs : List Loc) (ls : Array Slot), va_P D vwCl [(g, .inr (1, [.ref ga_units, .ref ga_lengths, .ref ga_offsets, .int (z_i g_step)])), (ga_units, .inl (cA 1, 1280, .inl y28_ga_units)), (ga_lengths, .inl (cA 1, 32, .inl f2)), (ga_offsets, .inl (cA 1, 32, .inl f4))] H → va_D A [(g, .inr (1, [.ref ga_units, .ref ga_lengths, .ref ga_offsets, .int (z_i g_step)])), (ga_units, .inl (cA 1, 1280, .inl y28_ga_units)), (ga_lengths, .inl (cA 1, 32, .inl f2)), (ga_offsets, .inl (cA 1, 32, .inl f4))] → va_S A s.heap H locs → lv_has ls 5 [(4, .int (z_i x28_4)), (0, .ref g), (1, .int (z_i i))] → W p l e _ s m _ below meth c H locs 0 0 _ (F0 m 28 ls [])) ?_ _ _ ls hP hD hS (lv_sub hl [0, 1, 2] rfl)
      intro x28_4 y28_ga_units h_x28_4 hv H locs ls hP hD hS hl
      refine lv_iload hx hb dX2_setRow_28 (lv_at hl 0 rfl) ?_
      refine lv_bipush (v := z_i 40) hx hb dX2_setRow_30 (by decide) ?_
      refine lx_icmp_ge (tgt := 55) hx hb dX2_setRow_32 (by decide) h_x28_4 (show z_in 40 from ⟨by decide, by decide⟩) (fun hc => ?_) (fun hc => ?_)
      · have hv := hv.1 hc
        exact W.vret hx hb hr (fun t ht hW => ⟨⟨(y28_ga_units, f2, f4), rfl, hv, z_pt hP ht⟩, hS.F ht⟩) hS.2.2 dX2_setRow_55
      · have hv := hv.2 hc
        refine lv_aload_n hx hb dX2_setRow_35 rfl (lv_at hl 1 rfl) ?_
        refine va_get (D := D) (ci := 1) (v := .ref ga_units) (C := RX2) (T := TX2) (N := 4) hx hb hts (fun w h => List.mem_cons_of_mem _ (List.mem_append_right _ h)) hown hK hP 0 rfl rfl 0 (by decide) (hts (.fieldLink RX2 9 "ContourSheets$Grid" "units" "[I") (by decide +kernel)) (fun _ h9 => h9) rfl dX2_setRow_36 ?_
        refine lv_bipush (v := z_i 40) hx hb dX2_setRow_39 (by decide) ?_
        refine lv_iload_n hx hb dX2_setRow_41 rfl (lv_at hl 2 rfl) ?_
        refine lx_imul hx hb dX2_setRow_42 ?_
        refine lv_iload hx hb dX2_setRow_43 (lv_at hl 0 rfl) ?_
        refine lx_iadd hx hb dX2_setRow_45 ?_
        refine lx_ldc (a := (-2147483648)) hx hb hown (hts (.constant RX2 15 (-2147483648)) (by decide +kernel)) (by decide) dX2_setRow_46 ?_
        obtain ⟨hi6, hv⟩ := hv
        refine lx_iast hx hb hK hP hD hS 1 1 rfl rfl (by decide) hi6.1 hi6.2 dX2_setRow_48 (fun H locs hP hD hS => ?_)
        obtain ⟨f7, hy8⟩ : ∃ y : Nat → Int32, y = z_s y28_ga_units ((40 * i) + x28_4) (-2147483648) := ⟨_, rfl⟩
        have hv := hv f7 hy8
        have hP : va_P D vwCl [(g, .inr (1, [.ref ga_units, .ref ga_lengths, .ref ga_offsets, .int (z_i g_step)])), (ga_units, .inl (cA 1, 1280, .inl f7)), (ga_lengths, .inl (cA 1, 32, .inl f2)), (ga_offsets, .inl (cA 1, 32, .inl f4))] H := by rw [hy8]; exact hP
        have hD : va_D A [(g, .inr (1, [.ref ga_units, .ref ga_lengths, .ref ga_offsets, .int (z_i g_step)])), (ga_units, .inl (cA 1, 1280, .inl f7)), (ga_lengths, .inl (cA 1, 32, .inl f2)), (ga_offsets, .inl (cA 1, 32, .inl f4))] := by rw [hy8]; exact hD
        refine lv_iinc (v := z_i (x28_4 + 1)) (lv' := [(4, .int (z_i (x28_4 + 1))), (0, .ref g), (1, .int (z_i i))]) hx hb dX2_setRow_49 hl (k := 0) rfl (z_i_add _ _) (by decide) rfl (fun ls hl => ?_)
        refine lv_goto (tgt := 28) hx hb dX2_setRow_52 (by decide) ?_
        exact hv _ _ ls hP hD hS (lv_sub hl [0, 1, 2] rfl)
    · have hv := hv.2 hc
      exact W.vret hx hb hr (fun t ht hW => ⟨⟨(g_units, g_lengths, g_offsets), rfl, hv, z_pt hP ht⟩, hS.F ht⟩) hS.2.2 dX2_setRow_10
set_option maxHeartbeats 4000000 in
set_option maxRecDepth 100000 in
theorem mt_X2_setRow (l : Launch) (D : va_G) (cA : Nat → ClassId) (g : Nat) (ga_units : Nat) (g_units : Nat → Int32) (ga_lengths : Nat) (g_lengths : Nat → Int32) (ga_offsets : Nat) (g_offsets : Nat → Int32) (g_step : Int) (i : Int) (length : Int) (offset : Int) (h_g_step : z_in g_step) (h_i : z_in i) (h_length : z_in length) (h_offset : z_in offset) (hp1 : 0 ≤ i ∧ i < 32) : Met l yX2_setRow wsX2_setRow ({ frames := 0, cells := 0, slots := 0, locals := 0 } : Room) (va_Pc [.ref g, .int (z_i i), .int (z_i length), .int (z_i offset)] (z_M0 D cA [(g, .inr (1, [.ref ga_units, .ref ga_lengths, .ref ga_offsets, .int (z_i g_step)])), (ga_units, .inl (cA 1, 1280, .inl g_units)), (ga_lengths, .inl (cA 1, 32, .inl g_lengths)), (ga_offsets, .inl (cA 1, 32, .inl g_offsets))])) (va_Qv (fun (u : (Nat → Int32) × (Nat → Int32) × (Nat → Int32)) => (fun (g_units' : (Nat → Int32)) (g_lengths' : (Nat → Int32)) (g_offsets' : (Nat → Int32)) => (∀ q : Int, 0 ≤ q → z_g g_units' q = if 40 * i ≤ q ∧ q < 40 * i + 40 then -2147483648 else z_g g_units q) ∧ g_lengths' = z_s g_lengths i length ∧ g_offsets' = z_s g_offsets i offset) u.1 u.2.1 u.2.2) (fun (u : (Nat → Int32) × (Nat → Int32) × (Nat → Int32)) t => va_P D vwCl [(g, .inr (1, [.ref ga_units, .ref ga_lengths, .ref ga_offsets, .int (z_i g_step)])), (ga_units, .inl (cA 1, 1280, .inl u.1)), (ga_lengths, .inl (cA 1, 32, .inl u.2.1)), (ga_offsets, .inl (cA 1, 32, .inl u.2.2))] t.heap) (z_A [(g, .inr (1, [.ref ga_units, .ref ga_lengths, .ref ga_offsets, .int (z_i g_step)])), (ga_units, .inl (cA 1, 1280, .inl g_units)), (ga_lengths, .inl (cA 1, 32, .inl g_lengths)), (ga_offsets, .inl (cA 1, 32, .inl g_offsets))])) 0 0 (z_A [(g, .inr (1, [.ref ga_units, .ref ga_lengths, .ref ga_offsets, .int (z_i g_step)])), (ga_units, .inl (cA 1, 1280, .inl g_units)), (ga_lengths, .inl (cA 1, 32, .inl g_lengths)), (ga_offsets, .inl (cA 1, 32, .inl g_offsets))]) := by
  refine wk_X2_setRow l D cA g ga_units g_units ga_lengths g_lengths ga_offsets g_offsets g_step i length offset h_g_step h_i h_length h_offset (fun (g_units' : (Nat → Int32)) (g_lengths' : (Nat → Int32)) (g_offsets' : (Nat → Int32)) => (∀ q : Int, 0 ≤ q → z_g g_units' q = if 40 * i ≤ q ∧ q < 40 * i + 40 then -2147483648 else z_g g_units q) ∧ g_lengths' = z_s g_lengths i length ∧ g_offsets' = z_s g_offsets i offset) ?_
  unfold vc_X2_setRow
  refine ⟨fun h => absurd hp1.1 (by omega), fun h => ⟨fun h2 => ⟨hp1, ?_⟩, fun h2 => absurd hp1.2 (by omega)⟩⟩
  rintro f2 rfl f4 rfl
  intro L hL
  suffices H : ∀ (d : Nat) (y : Nat → Int32), d ≤ 40 → (∀ q : Int, 0 ≤ q → z_g y q = if 40 * i ≤ q ∧ q < 40 * i + (40 - d) then -2147483648 else z_g g_units q) → L (40 - (d : Int)) y from H 40 _ (Nat.le_refl _) (fun q h0 => by rw [if_neg (by omega)])
  intro d
  induction d with
  | zero =>
    intro y hd hy
    exact hL _ _ ⟨by omega, by omega⟩ ⟨fun _ => ⟨fun q h0 => by rw [hy q h0]; simp, rfl, rfl⟩, fun h => absurd h (by omega)⟩
  | succ d ih =>
    intro y hd hy
    refine hL _ _ ⟨by omega, by omega⟩ ⟨fun h => absurd h (by omega), fun h => ⟨⟨by omega, by omega⟩, ?_⟩⟩
    rintro f rfl
    rw [show 40 - ((d + 1 : Nat) : Int) + 1 = 40 - (d : Int) by omega]
    refine ih _ (by omega) (fun q h0 => ?_)
    rw [z_gs (by decide) (by omega) h0, hy q h0]
    split
    · rw [if_pos (by omega)]
    · by_cases hq : 40 * i ≤ q ∧ q < 40 * i + (40 - ((d + 1 : Nat) : Int))
      · rw [if_pos hq, if_pos (by omega)]
      · rw [if_neg hq, if_neg (by omega)]
def vc_X2_takeShape (o_lengths : Nat → Int32) (o_offsets : Nat → Int32) (o_step : Int) (Q : (Nat → Int32) → (Nat → Int32) → Int → Prop) : Prop :=
Q o_lengths o_offsets o_step
set_option maxHeartbeats 4000000 in
set_option maxRecDepth 100000 in
theorem wk_X2_takeShape (l : Launch) (D : va_G) (cA : Nat → ClassId) (g : Nat) (ga_units : Nat) (g_units : Nat → Int32) (ga_lengths : Nat) (g_lengths : Nat → Int32) (ga_offsets : Nat) (g_offsets : Nat → Int32) (g_step : Int) (o : Nat) (oa_units : Nat) (o_units : Nat → Int32) (oa_lengths : Nat) (o_lengths : Nat → Int32) (oa_offsets : Nat) (o_offsets : Nat → Int32) (o_step : Int) (h_g_step : z_in g_step) (h_o_step : z_in o_step) (Q : (Nat → Int32) → (Nat → Int32) → Int → Prop) (hv : vc_X2_takeShape o_lengths o_offsets o_step Q) : Met l yX2_takeShape wsX2_takeShape ({ frames := 1, cells := 0, slots := 0, locals := 18 } : Room) (va_Pc [.ref g, .ref o] (z_M0 D cA [(g, .inr (1, [.ref ga_units, .ref ga_lengths, .ref ga_offsets, .int (z_i g_step)])), (ga_units, .inl (cA 1, 1280, .inl g_units)), (ga_lengths, .inl (cA 1, 32, .inl g_lengths)), (ga_offsets, .inl (cA 1, 32, .inl g_offsets)), (o, .inr (1, [.ref oa_units, .ref oa_lengths, .ref oa_offsets, .int (z_i o_step)])), (oa_units, .inl (cA 1, 1280, .inl o_units)), (oa_lengths, .inl (cA 1, 32, .inl o_lengths)), (oa_offsets, .inl (cA 1, 32, .inl o_offsets))])) (va_Qv (fun (u : (Nat → Int32) × (Nat → Int32) × Int) => z_in u.2.2 ∧ Q u.1 u.2.1 u.2.2) (fun (u : (Nat → Int32) × (Nat → Int32) × Int) t => va_P D vwCl [(g, .inr (1, [.ref ga_units, .ref ga_lengths, .ref ga_offsets, .int (z_i u.2.2)])), (ga_units, .inl (cA 1, 1280, .inl g_units)), (ga_lengths, .inl (cA 1, 32, .inl u.1)), (ga_offsets, .inl (cA 1, 32, .inl u.2.1)), (o, .inr (1, [.ref oa_units, .ref oa_lengths, .ref oa_offsets, .int (z_i o_step)])), (oa_units, .inl (cA 1, 1280, .inl o_units)), (oa_lengths, .inl (cA 1, 32, .inl o_lengths)), (oa_offsets, .inl (cA 1, 32, .inl o_offsets))] t.heap) (z_A [(g, .inr (1, [.ref ga_units, .ref ga_lengths, .ref ga_offsets, .int (z_i g_step)])), (ga_units, .inl (cA 1, 1280, .inl g_units)), (ga_lengths, .inl (cA 1, 32, .inl g_lengths)), (ga_offsets, .inl (cA 1, 32, .inl g_offsets)), (o, .inr (1, [.ref oa_units, .ref oa_lengths, .ref oa_offsets, .int (z_i o_step)])), (oa_units, .inl (cA 1, 1280, .inl o_units)), (oa_lengths, .inl (cA 1, 32, .inl o_lengths)), (oa_offsets, .inl (cA 1, 32, .inl o_offsets))])) 0 0 (z_A [(g, .inr (1, [.ref ga_units, .ref ga_lengths, .ref ga_offsets, .int (z_i g_step)])), (ga_units, .inl (cA 1, 1280, .inl g_units)), (ga_lengths, .inl (cA 1, 32, .inl g_lengths)), (ga_offsets, .inl (cA 1, 32, .inl g_offsets)), (o, .inr (1, [.ref oa_units, .ref oa_lengths, .ref oa_offsets, .int (z_i o_step)])), (oa_units, .inl (cA 1, 1280, .inl o_units)), (oa_lengths, .inl (cA 1, 32, .inl o_lengths)), (oa_offsets, .inl (cA 1, 32, .inl o_offsets))]) := by
  unfold vc_X2_takeShape at hv
  refine Met.ofW (cc := cX2_takeShape) (maxL := 2) (ret := none) (by decide +kernel) rfl ?_
  intro p e s m args below meth c s₁ B hml hv0
  obtain ⟨rfl, hK, hP, hD0⟩ := hv0
  have hx := B.exec
  have hb := B.bytes
  have hr := B.returns
  have hts := atoms_spec (ws := wsX2_takeShape) B.pre
  have hown : s.vm.findClass RX2 = some m.cls := findClass_of_methodNamed B.named
  have hlocks := B.notSynchronized
  have hD := z_D_self hD0
  generalize hAe : z_A [(g, .inr (1, [.ref ga_units, .ref ga_lengths, .ref ga_offsets, .int (z_i g_step)])), (ga_units, .inl (cA 1, 1280, .inl g_units)), (ga_lengths, .inl (cA 1, 32, .inl g_lengths)), (ga_offsets, .inl (cA 1, 32, .inl g_offsets)), (o, .inr (1, [.ref oa_units, .ref oa_lengths, .ref oa_offsets, .int (z_i o_step)])), (oa_units, .inl (cA 1, 1280, .inl o_units)), (oa_lengths, .inl (cA 1, 32, .inl o_lengths)), (oa_offsets, .inl (cA 1, 32, .inl o_offsets))] = A at *
  have hS : va_S A s.heap s.heap [] := va_S.rf
  have hl := lv_entry ([.ref g, .ref o]) (n := 2) (Nat.le_of_ble_eq_true rfl)
  rw [lg_entry_eq]
  generalize (lg_sl ([.ref g, .ref o]) ++ List.replicate (2 - (lg_sl ([.ref g, .ref o])).length) Slot.unset).toArray = ls at hl ⊢
  have hl : lv_has ls 2 [(0, .ref g), (1, .ref o)] := hl
  refine lv_aload_n hx hb dX2_takeShape_0 rfl (lv_at hl 1 rfl) ?_
  refine va_get (D := D) (ci := 1) (v := .ref oa_lengths) (C := RX2) (T := TX2) (N := 4) hx hb hts (fun w h => List.mem_cons_of_mem _ (List.mem_append_right _ h)) hown hK hP 4 rfl rfl 1 (by decide) (hts (.fieldLink RX2 22 "ContourSheets$Grid" "lengths" "[I") (by decide +kernel)) (fun _ h9 => h9) rfl dX2_takeShape_1 ?_
  refine lv_iconst (v := z_i 0) hx hb dX2_takeShape_4 rfl ?_
  refine lv_aload_n hx hb dX2_takeShape_5 rfl (lv_at hl 0 rfl) ?_
  refine va_get (D := D) (ci := 1) (v := .ref ga_lengths) (C := RX2) (T := TX2) (N := 4) hx hb hts (fun w h => List.mem_cons_of_mem _ (List.mem_append_right _ h)) hown hK hP 0 rfl rfl 1 (by decide) (hts (.fieldLink RX2 22 "ContourSheets$Grid" "lengths" "[I") (by decide +kernel)) (fun _ h9 => h9) rfl dX2_takeShape_6 ?_
  refine lv_iconst (v := z_i 0) hx hb dX2_takeShape_9 rfl ?_
  refine lv_bipush (v := z_i 32) hx hb dX2_takeShape_10 (by decide) ?_
  refine lx_acopy hx hb (hml.trans hl.1.symm) hown (hts (.methodLink RX2 32 arraycopyName) (by decide +kernel)) (hts (.native arraycopyName) (by decide +kernel)) (hts (.static arraycopyName) (by decide +kernel)) (hts (.initialized "java/lang/System") (by decide +kernel)) hK hP hD hS 6 2 1 rfl rfl rfl (by decide) (Nat.le_of_ble_eq_true rfl) (Nat.le_of_ble_eq_true rfl) rfl dX2_takeShape_12 (fun H locs hP hD hS => ?_)
  have hP : va_P D vwCl [(g, .inr (1, [.ref ga_units, .ref ga_lengths, .ref ga_offsets, .int (z_i g_step)])), (ga_units, .inl (cA 1, 1280, .inl g_units)), (ga_lengths, .inl (cA 1, 32, .inl o_lengths)), (ga_offsets, .inl (cA 1, 32, .inl g_offsets)), (o, .inr (1, [.ref oa_units, .ref oa_lengths, .ref oa_offsets, .int (z_i o_step)])), (oa_units, .inl (cA 1, 1280, .inl o_units)), (oa_lengths, .inl (cA 1, 32, .inl o_lengths)), (oa_offsets, .inl (cA 1, 32, .inl o_offsets))] H := hP
  have hD : va_D A [(g, .inr (1, [.ref ga_units, .ref ga_lengths, .ref ga_offsets, .int (z_i g_step)])), (ga_units, .inl (cA 1, 1280, .inl g_units)), (ga_lengths, .inl (cA 1, 32, .inl o_lengths)), (ga_offsets, .inl (cA 1, 32, .inl g_offsets)), (o, .inr (1, [.ref oa_units, .ref oa_lengths, .ref oa_offsets, .int (z_i o_step)])), (oa_units, .inl (cA 1, 1280, .inl o_units)), (oa_lengths, .inl (cA 1, 32, .inl o_lengths)), (oa_offsets, .inl (cA 1, 32, .inl o_offsets))] := hD
  refine lv_aload_n hx hb dX2_takeShape_15 rfl (lv_at hl 1 rfl) ?_
  refine va_get (D := D) (ci := 1) (v := .ref oa_offsets) (C := RX2) (T := TX2) (N := 4) hx hb hts (fun w h => List.mem_cons_of_mem _ (List.mem_append_right _ h)) hown hK hP 4 rfl rfl 2 (by decide) (hts (.fieldLink RX2 25 "ContourSheets$Grid" "offsets" "[I") (by decide +kernel)) (fun _ h9 => h9) rfl dX2_takeShape_16 ?_
  refine lv_iconst (v := z_i 0) hx hb dX2_takeShape_19 rfl ?_
  refine lv_aload_n hx hb dX2_takeShape_20 rfl (lv_at hl 0 rfl) ?_
  refine va_get (D := D) (ci := 1) (v := .ref ga_offsets) (C := RX2) (T := TX2) (N := 4) hx hb hts (fun w h => List.mem_cons_of_mem _ (List.mem_append_right _ h)) hown hK hP 0 rfl rfl 2 (by decide) (hts (.fieldLink RX2 25 "ContourSheets$Grid" "offsets" "[I") (by decide +kernel)) (fun _ h9 => h9) rfl dX2_takeShape_21 ?_
  refine lv_iconst (v := z_i 0) hx hb dX2_takeShape_24 rfl ?_
  refine lv_bipush (v := z_i 32) hx hb dX2_takeShape_25 (by decide) ?_
  refine lx_acopy hx hb (hml.trans hl.1.symm) hown (hts (.methodLink RX2 32 arraycopyName) (by decide +kernel)) (hts (.native arraycopyName) (by decide +kernel)) (hts (.static arraycopyName) (by decide +kernel)) (hts (.initialized "java/lang/System") (by decide +kernel)) hK hP hD hS 7 3 1 rfl rfl rfl (by decide) (Nat.le_of_ble_eq_true rfl) (Nat.le_of_ble_eq_true rfl) rfl dX2_takeShape_27 (fun H locs hP hD hS => ?_)
  have hP : va_P D vwCl [(g, .inr (1, [.ref ga_units, .ref ga_lengths, .ref ga_offsets, .int (z_i g_step)])), (ga_units, .inl (cA 1, 1280, .inl g_units)), (ga_lengths, .inl (cA 1, 32, .inl o_lengths)), (ga_offsets, .inl (cA 1, 32, .inl o_offsets)), (o, .inr (1, [.ref oa_units, .ref oa_lengths, .ref oa_offsets, .int (z_i o_step)])), (oa_units, .inl (cA 1, 1280, .inl o_units)), (oa_lengths, .inl (cA 1, 32, .inl o_lengths)), (oa_offsets, .inl (cA 1, 32, .inl o_offsets))] H := hP
  have hD : va_D A [(g, .inr (1, [.ref ga_units, .ref ga_lengths, .ref ga_offsets, .int (z_i g_step)])), (ga_units, .inl (cA 1, 1280, .inl g_units)), (ga_lengths, .inl (cA 1, 32, .inl o_lengths)), (ga_offsets, .inl (cA 1, 32, .inl o_offsets)), (o, .inr (1, [.ref oa_units, .ref oa_lengths, .ref oa_offsets, .int (z_i o_step)])), (oa_units, .inl (cA 1, 1280, .inl o_units)), (oa_lengths, .inl (cA 1, 32, .inl o_lengths)), (oa_offsets, .inl (cA 1, 32, .inl o_offsets))] := hD
  refine lv_aload_n hx hb dX2_takeShape_30 rfl (lv_at hl 0 rfl) ?_
  refine lv_aload_n hx hb dX2_takeShape_31 rfl (lv_at hl 1 rfl) ?_
  refine va_get (D := D) (ci := 1) (v := .int (z_i o_step)) (C := RX2) (T := TX2) (N := 4) hx hb hts (fun w h => List.mem_cons_of_mem _ (List.mem_append_right _ h)) hown hK hP 4 rfl rfl 3 (by decide) (hts (.fieldLink RX2 28 "ContourSheets$Grid" "step" "I") (by decide +kernel)) (fun _ h9 => h9) rfl dX2_takeShape_32 ?_
  refine va_put (D := D) (ci := 1) (v := .int (z_i o_step)) (ty := .int) (C := RX2) (T := TX2) (N := 4) hx hb hts (fun w h => List.mem_cons_of_mem _ (List.mem_append_right _ h)) tyX2 tyX2_ok nmX2 hown hK hP hD hS 0 rfl rfl 3 (by decide) (hts (.fieldLink RX2 28 "ContourSheets$Grid" "step" "I") (by decide +kernel)) (fun _ h9 => h9) rfl (by decide +kernel) rfl rfl (Nat.le_of_ble_eq_true rfl) dX2_takeShape_35 (fun H locs hP hD hS => ?_)
  have hP : va_P D vwCl [(g, .inr (1, [.ref ga_units, .ref ga_lengths, .ref ga_offsets, .int (z_i o_step)])), (ga_units, .inl (cA 1, 1280, .inl g_units)), (ga_lengths, .inl (cA 1, 32, .inl o_lengths)), (ga_offsets, .inl (cA 1, 32, .inl o_offsets)), (o, .inr (1, [.ref oa_units, .ref oa_lengths, .ref oa_offsets, .int (z_i o_step)])), (oa_units, .inl (cA 1, 1280, .inl o_units)), (oa_lengths, .inl (cA 1, 32, .inl o_lengths)), (oa_offsets, .inl (cA 1, 32, .inl o_offsets))] H := hP
  have hD : va_D A [(g, .inr (1, [.ref ga_units, .ref ga_lengths, .ref ga_offsets, .int (z_i o_step)])), (ga_units, .inl (cA 1, 1280, .inl g_units)), (ga_lengths, .inl (cA 1, 32, .inl o_lengths)), (ga_offsets, .inl (cA 1, 32, .inl o_offsets)), (o, .inr (1, [.ref oa_units, .ref oa_lengths, .ref oa_offsets, .int (z_i o_step)])), (oa_units, .inl (cA 1, 1280, .inl o_units)), (oa_lengths, .inl (cA 1, 32, .inl o_lengths)), (oa_offsets, .inl (cA 1, 32, .inl o_offsets))] := hD
  exact W.vret hx hb hr (fun t ht hW => ⟨⟨(o_lengths, o_offsets, o_step), rfl, ⟨h_o_step, hv⟩, z_pt hP ht⟩, hS.F ht⟩) hS.2.2 dX2_takeShape_38
set_option maxHeartbeats 4000000 in
set_option maxRecDepth 100000 in
theorem mt_X2_takeShape (l : Launch) (D : va_G) (cA : Nat → ClassId) (g : Nat) (ga_units : Nat) (g_units : Nat → Int32) (ga_lengths : Nat) (g_lengths : Nat → Int32) (ga_offsets : Nat) (g_offsets : Nat → Int32) (g_step : Int) (o : Nat) (oa_units : Nat) (o_units : Nat → Int32) (oa_lengths : Nat) (o_lengths : Nat → Int32) (oa_offsets : Nat) (o_offsets : Nat → Int32) (o_step : Int) (h_g_step : z_in g_step) (h_o_step : z_in o_step)  : Met l yX2_takeShape wsX2_takeShape ({ frames := 1, cells := 0, slots := 0, locals := 18 } : Room) (va_Pc [.ref g, .ref o] (z_M0 D cA [(g, .inr (1, [.ref ga_units, .ref ga_lengths, .ref ga_offsets, .int (z_i g_step)])), (ga_units, .inl (cA 1, 1280, .inl g_units)), (ga_lengths, .inl (cA 1, 32, .inl g_lengths)), (ga_offsets, .inl (cA 1, 32, .inl g_offsets)), (o, .inr (1, [.ref oa_units, .ref oa_lengths, .ref oa_offsets, .int (z_i o_step)])), (oa_units, .inl (cA 1, 1280, .inl o_units)), (oa_lengths, .inl (cA 1, 32, .inl o_lengths)), (oa_offsets, .inl (cA 1, 32, .inl o_offsets))])) (va_Qv (fun (u : (Nat → Int32) × (Nat → Int32) × Int) => z_in u.2.2 ∧ (fun (g_lengths' : (Nat → Int32)) (g_offsets' : (Nat → Int32)) (g_step' : Int) => g_lengths' = o_lengths ∧ g_offsets' = o_offsets ∧ g_step' = o_step) u.1 u.2.1 u.2.2) (fun (u : (Nat → Int32) × (Nat → Int32) × Int) t => va_P D vwCl [(g, .inr (1, [.ref ga_units, .ref ga_lengths, .ref ga_offsets, .int (z_i u.2.2)])), (ga_units, .inl (cA 1, 1280, .inl g_units)), (ga_lengths, .inl (cA 1, 32, .inl u.1)), (ga_offsets, .inl (cA 1, 32, .inl u.2.1)), (o, .inr (1, [.ref oa_units, .ref oa_lengths, .ref oa_offsets, .int (z_i o_step)])), (oa_units, .inl (cA 1, 1280, .inl o_units)), (oa_lengths, .inl (cA 1, 32, .inl o_lengths)), (oa_offsets, .inl (cA 1, 32, .inl o_offsets))] t.heap) (z_A [(g, .inr (1, [.ref ga_units, .ref ga_lengths, .ref ga_offsets, .int (z_i g_step)])), (ga_units, .inl (cA 1, 1280, .inl g_units)), (ga_lengths, .inl (cA 1, 32, .inl g_lengths)), (ga_offsets, .inl (cA 1, 32, .inl g_offsets)), (o, .inr (1, [.ref oa_units, .ref oa_lengths, .ref oa_offsets, .int (z_i o_step)])), (oa_units, .inl (cA 1, 1280, .inl o_units)), (oa_lengths, .inl (cA 1, 32, .inl o_lengths)), (oa_offsets, .inl (cA 1, 32, .inl o_offsets))])) 0 0 (z_A [(g, .inr (1, [.ref ga_units, .ref ga_lengths, .ref ga_offsets, .int (z_i g_step)])), (ga_units, .inl (cA 1, 1280, .inl g_units)), (ga_lengths, .inl (cA 1, 32, .inl g_lengths)), (ga_offsets, .inl (cA 1, 32, .inl g_offsets)), (o, .inr (1, [.ref oa_units, .ref oa_lengths, .ref oa_offsets, .int (z_i o_step)])), (oa_units, .inl (cA 1, 1280, .inl o_units)), (oa_lengths, .inl (cA 1, 32, .inl o_lengths)), (oa_offsets, .inl (cA 1, 32, .inl o_offsets))]) := by
  refine wk_X2_takeShape l D cA g ga_units g_units ga_lengths g_lengths ga_offsets g_offsets g_step o oa_units o_units oa_lengths o_lengths oa_offsets o_offsets o_step h_g_step h_o_step (fun (g_lengths' : (Nat → Int32)) (g_offsets' : (Nat → Int32)) (g_step' : Int) => g_lengths' = o_lengths ∧ g_offsets' = o_offsets ∧ g_step' = o_step) ?_
  unfold vc_X2_takeShape
  exact ⟨rfl, rfl, rfl⟩
def vc_X2_takeShape_s (g_lengths : Nat → Int32) (g_offsets : Nat → Int32) (g_step : Int) (Q : (Nat → Int32) → (Nat → Int32) → Int → Prop) : Prop :=
Q g_lengths g_offsets g_step
set_option maxHeartbeats 4000000 in
set_option maxRecDepth 100000 in
theorem wk_X2_takeShape_s (l : Launch) (D : va_G) (cA : Nat → ClassId) (g : Nat) (ga_units : Nat) (g_units : Nat → Int32) (ga_lengths : Nat) (g_lengths : Nat → Int32) (ga_offsets : Nat) (g_offsets : Nat → Int32) (g_step : Int) (h_g_step : z_in g_step) (Q : (Nat → Int32) → (Nat → Int32) → Int → Prop) (hv : vc_X2_takeShape_s g_lengths g_offsets g_step Q) : Met l yX2_takeShape wsX2_takeShape ({ frames := 1, cells := 0, slots := 0, locals := 18 } : Room) (va_Pc [.ref g, .ref g] (z_M0 D cA [(g, .inr (1, [.ref ga_units, .ref ga_lengths, .ref ga_offsets, .int (z_i g_step)])), (ga_units, .inl (cA 1, 1280, .inl g_units)), (ga_lengths, .inl (cA 1, 32, .inl g_lengths)), (ga_offsets, .inl (cA 1, 32, .inl g_offsets))])) (va_Qv (fun (u : (Nat → Int32) × (Nat → Int32) × Int) => z_in u.2.2 ∧ Q u.1 u.2.1 u.2.2) (fun (u : (Nat → Int32) × (Nat → Int32) × Int) t => va_P D vwCl [(g, .inr (1, [.ref ga_units, .ref ga_lengths, .ref ga_offsets, .int (z_i u.2.2)])), (ga_units, .inl (cA 1, 1280, .inl g_units)), (ga_lengths, .inl (cA 1, 32, .inl u.1)), (ga_offsets, .inl (cA 1, 32, .inl u.2.1))] t.heap) (z_A [(g, .inr (1, [.ref ga_units, .ref ga_lengths, .ref ga_offsets, .int (z_i g_step)])), (ga_units, .inl (cA 1, 1280, .inl g_units)), (ga_lengths, .inl (cA 1, 32, .inl g_lengths)), (ga_offsets, .inl (cA 1, 32, .inl g_offsets))])) 0 0 (z_A [(g, .inr (1, [.ref ga_units, .ref ga_lengths, .ref ga_offsets, .int (z_i g_step)])), (ga_units, .inl (cA 1, 1280, .inl g_units)), (ga_lengths, .inl (cA 1, 32, .inl g_lengths)), (ga_offsets, .inl (cA 1, 32, .inl g_offsets))]) := by
  unfold vc_X2_takeShape_s at hv
  refine Met.ofW (cc := cX2_takeShape) (maxL := 2) (ret := none) (by decide +kernel) rfl ?_
  intro p e s m args below meth c s₁ B hml hv0
  obtain ⟨rfl, hK, hP, hD0⟩ := hv0
  have hx := B.exec
  have hb := B.bytes
  have hr := B.returns
  have hts := atoms_spec (ws := wsX2_takeShape) B.pre
  have hown : s.vm.findClass RX2 = some m.cls := findClass_of_methodNamed B.named
  have hlocks := B.notSynchronized
  have hD := z_D_self hD0
  generalize hAe : z_A [(g, .inr (1, [.ref ga_units, .ref ga_lengths, .ref ga_offsets, .int (z_i g_step)])), (ga_units, .inl (cA 1, 1280, .inl g_units)), (ga_lengths, .inl (cA 1, 32, .inl g_lengths)), (ga_offsets, .inl (cA 1, 32, .inl g_offsets))] = A at *
  have hS : va_S A s.heap s.heap [] := va_S.rf
  have hl := lv_entry ([.ref g, .ref g]) (n := 2) (Nat.le_of_ble_eq_true rfl)
  rw [lg_entry_eq]
  generalize (lg_sl ([.ref g, .ref g]) ++ List.replicate (2 - (lg_sl ([.ref g, .ref g])).length) Slot.unset).toArray = ls at hl ⊢
  have hl : lv_has ls 2 [(0, .ref g), (1, .ref g)] := hl
  refine lv_aload_n hx hb dX2_takeShape_0 rfl (lv_at hl 1 rfl) ?_
  refine va_get (D := D) (ci := 1) (v := .ref ga_lengths) (C := RX2) (T := TX2) (N := 4) hx hb hts (fun w h => List.mem_cons_of_mem _ (List.mem_append_right _ h)) hown hK hP 0 rfl rfl 1 (by decide) (hts (.fieldLink RX2 22 "ContourSheets$Grid" "lengths" "[I") (by decide +kernel)) (fun _ h9 => h9) rfl dX2_takeShape_1 ?_
  refine lv_iconst (v := z_i 0) hx hb dX2_takeShape_4 rfl ?_
  refine lv_aload_n hx hb dX2_takeShape_5 rfl (lv_at hl 0 rfl) ?_
  refine va_get (D := D) (ci := 1) (v := .ref ga_lengths) (C := RX2) (T := TX2) (N := 4) hx hb hts (fun w h => List.mem_cons_of_mem _ (List.mem_append_right _ h)) hown hK hP 0 rfl rfl 1 (by decide) (hts (.fieldLink RX2 22 "ContourSheets$Grid" "lengths" "[I") (by decide +kernel)) (fun _ h9 => h9) rfl dX2_takeShape_6 ?_
  refine lv_iconst (v := z_i 0) hx hb dX2_takeShape_9 rfl ?_
  refine lv_bipush (v := z_i 32) hx hb dX2_takeShape_10 (by decide) ?_
  refine lx_acopy hx hb (hml.trans hl.1.symm) hown (hts (.methodLink RX2 32 arraycopyName) (by decide +kernel)) (hts (.native arraycopyName) (by decide +kernel)) (hts (.static arraycopyName) (by decide +kernel)) (hts (.initialized "java/lang/System") (by decide +kernel)) hK hP hD hS 2 2 1 rfl rfl rfl (by decide) (Nat.le_of_ble_eq_true rfl) (Nat.le_of_ble_eq_true rfl) rfl dX2_takeShape_12 (fun H locs hP hD hS => ?_)
  have hP : va_P D vwCl [(g, .inr (1, [.ref ga_units, .ref ga_lengths, .ref ga_offsets, .int (z_i g_step)])), (ga_units, .inl (cA 1, 1280, .inl g_units)), (ga_lengths, .inl (cA 1, 32, .inl g_lengths)), (ga_offsets, .inl (cA 1, 32, .inl g_offsets))] H := hP
  have hD : va_D A [(g, .inr (1, [.ref ga_units, .ref ga_lengths, .ref ga_offsets, .int (z_i g_step)])), (ga_units, .inl (cA 1, 1280, .inl g_units)), (ga_lengths, .inl (cA 1, 32, .inl g_lengths)), (ga_offsets, .inl (cA 1, 32, .inl g_offsets))] := hD
  refine lv_aload_n hx hb dX2_takeShape_15 rfl (lv_at hl 1 rfl) ?_
  refine va_get (D := D) (ci := 1) (v := .ref ga_offsets) (C := RX2) (T := TX2) (N := 4) hx hb hts (fun w h => List.mem_cons_of_mem _ (List.mem_append_right _ h)) hown hK hP 0 rfl rfl 2 (by decide) (hts (.fieldLink RX2 25 "ContourSheets$Grid" "offsets" "[I") (by decide +kernel)) (fun _ h9 => h9) rfl dX2_takeShape_16 ?_
  refine lv_iconst (v := z_i 0) hx hb dX2_takeShape_19 rfl ?_
  refine lv_aload_n hx hb dX2_takeShape_20 rfl (lv_at hl 0 rfl) ?_
  refine va_get (D := D) (ci := 1) (v := .ref ga_offsets) (C := RX2) (T := TX2) (N := 4) hx hb hts (fun w h => List.mem_cons_of_mem _ (List.mem_append_right _ h)) hown hK hP 0 rfl rfl 2 (by decide) (hts (.fieldLink RX2 25 "ContourSheets$Grid" "offsets" "[I") (by decide +kernel)) (fun _ h9 => h9) rfl dX2_takeShape_21 ?_
  refine lv_iconst (v := z_i 0) hx hb dX2_takeShape_24 rfl ?_
  refine lv_bipush (v := z_i 32) hx hb dX2_takeShape_25 (by decide) ?_
  refine lx_acopy hx hb (hml.trans hl.1.symm) hown (hts (.methodLink RX2 32 arraycopyName) (by decide +kernel)) (hts (.native arraycopyName) (by decide +kernel)) (hts (.static arraycopyName) (by decide +kernel)) (hts (.initialized "java/lang/System") (by decide +kernel)) hK hP hD hS 3 3 1 rfl rfl rfl (by decide) (Nat.le_of_ble_eq_true rfl) (Nat.le_of_ble_eq_true rfl) rfl dX2_takeShape_27 (fun H locs hP hD hS => ?_)
  have hP : va_P D vwCl [(g, .inr (1, [.ref ga_units, .ref ga_lengths, .ref ga_offsets, .int (z_i g_step)])), (ga_units, .inl (cA 1, 1280, .inl g_units)), (ga_lengths, .inl (cA 1, 32, .inl g_lengths)), (ga_offsets, .inl (cA 1, 32, .inl g_offsets))] H := hP
  have hD : va_D A [(g, .inr (1, [.ref ga_units, .ref ga_lengths, .ref ga_offsets, .int (z_i g_step)])), (ga_units, .inl (cA 1, 1280, .inl g_units)), (ga_lengths, .inl (cA 1, 32, .inl g_lengths)), (ga_offsets, .inl (cA 1, 32, .inl g_offsets))] := hD
  refine lv_aload_n hx hb dX2_takeShape_30 rfl (lv_at hl 0 rfl) ?_
  refine lv_aload_n hx hb dX2_takeShape_31 rfl (lv_at hl 1 rfl) ?_
  refine va_get (D := D) (ci := 1) (v := .int (z_i g_step)) (C := RX2) (T := TX2) (N := 4) hx hb hts (fun w h => List.mem_cons_of_mem _ (List.mem_append_right _ h)) hown hK hP 0 rfl rfl 3 (by decide) (hts (.fieldLink RX2 28 "ContourSheets$Grid" "step" "I") (by decide +kernel)) (fun _ h9 => h9) rfl dX2_takeShape_32 ?_
  refine va_put (D := D) (ci := 1) (v := .int (z_i g_step)) (ty := .int) (C := RX2) (T := TX2) (N := 4) hx hb hts (fun w h => List.mem_cons_of_mem _ (List.mem_append_right _ h)) tyX2 tyX2_ok nmX2 hown hK hP hD hS 0 rfl rfl 3 (by decide) (hts (.fieldLink RX2 28 "ContourSheets$Grid" "step" "I") (by decide +kernel)) (fun _ h9 => h9) rfl (by decide +kernel) rfl rfl (Nat.le_of_ble_eq_true rfl) dX2_takeShape_35 (fun H locs hP hD hS => ?_)
  have hP : va_P D vwCl [(g, .inr (1, [.ref ga_units, .ref ga_lengths, .ref ga_offsets, .int (z_i g_step)])), (ga_units, .inl (cA 1, 1280, .inl g_units)), (ga_lengths, .inl (cA 1, 32, .inl g_lengths)), (ga_offsets, .inl (cA 1, 32, .inl g_offsets))] H := hP
  have hD : va_D A [(g, .inr (1, [.ref ga_units, .ref ga_lengths, .ref ga_offsets, .int (z_i g_step)])), (ga_units, .inl (cA 1, 1280, .inl g_units)), (ga_lengths, .inl (cA 1, 32, .inl g_lengths)), (ga_offsets, .inl (cA 1, 32, .inl g_offsets))] := hD
  exact W.vret hx hb hr (fun t ht hW => ⟨⟨(g_lengths, g_offsets, g_step), rfl, ⟨h_g_step, hv⟩, z_pt hP ht⟩, hS.F ht⟩) hS.2.2 dX2_takeShape_38
set_option maxHeartbeats 4000000 in
set_option maxRecDepth 100000 in
theorem mt_X2_takeShape_s (l : Launch) (D : va_G) (cA : Nat → ClassId) (g : Nat) (ga_units : Nat) (g_units : Nat → Int32) (ga_lengths : Nat) (g_lengths : Nat → Int32) (ga_offsets : Nat) (g_offsets : Nat → Int32) (g_step : Int) (h_g_step : z_in g_step)  : Met l yX2_takeShape wsX2_takeShape ({ frames := 1, cells := 0, slots := 0, locals := 18 } : Room) (va_Pc [.ref g, .ref g] (z_M0 D cA [(g, .inr (1, [.ref ga_units, .ref ga_lengths, .ref ga_offsets, .int (z_i g_step)])), (ga_units, .inl (cA 1, 1280, .inl g_units)), (ga_lengths, .inl (cA 1, 32, .inl g_lengths)), (ga_offsets, .inl (cA 1, 32, .inl g_offsets))])) (va_Qv (fun (u : (Nat → Int32) × (Nat → Int32) × Int) => z_in u.2.2 ∧ (fun (g_lengths' : (Nat → Int32)) (g_offsets' : (Nat → Int32)) (g_step' : Int) => g_lengths' = g_lengths ∧ g_offsets' = g_offsets ∧ g_step' = g_step) u.1 u.2.1 u.2.2) (fun (u : (Nat → Int32) × (Nat → Int32) × Int) t => va_P D vwCl [(g, .inr (1, [.ref ga_units, .ref ga_lengths, .ref ga_offsets, .int (z_i u.2.2)])), (ga_units, .inl (cA 1, 1280, .inl g_units)), (ga_lengths, .inl (cA 1, 32, .inl u.1)), (ga_offsets, .inl (cA 1, 32, .inl u.2.1))] t.heap) (z_A [(g, .inr (1, [.ref ga_units, .ref ga_lengths, .ref ga_offsets, .int (z_i g_step)])), (ga_units, .inl (cA 1, 1280, .inl g_units)), (ga_lengths, .inl (cA 1, 32, .inl g_lengths)), (ga_offsets, .inl (cA 1, 32, .inl g_offsets))])) 0 0 (z_A [(g, .inr (1, [.ref ga_units, .ref ga_lengths, .ref ga_offsets, .int (z_i g_step)])), (ga_units, .inl (cA 1, 1280, .inl g_units)), (ga_lengths, .inl (cA 1, 32, .inl g_lengths)), (ga_offsets, .inl (cA 1, 32, .inl g_offsets))]) := by
  refine wk_X2_takeShape_s l D cA g ga_units g_units ga_lengths g_lengths ga_offsets g_offsets g_step h_g_step (fun (g_lengths' : (Nat → Int32)) (g_offsets' : (Nat → Int32)) (g_step' : Int) => g_lengths' = g_lengths ∧ g_offsets' = g_offsets ∧ g_step' = g_step) ?_
  unfold vc_X2_takeShape_s
  exact ⟨rfl, rfl, rfl⟩
def vc_X2_takeAll (o_units : Nat → Int32) (o_lengths : Nat → Int32) (o_offsets : Nat → Int32) (o_step : Int) (Q : (Nat → Int32) → (Nat → Int32) → (Nat → Int32) → Int → Prop) : Prop :=
(∀ (c1 : Nat → Int32) (c2 : Nat → Int32) (c3 : Int), z_in c3 → (c1 = o_lengths ∧ c2 = o_offsets ∧ c3 = o_step) → Q o_units c1 c2 c3)
set_option maxHeartbeats 4000000 in
set_option maxRecDepth 100000 in
theorem wk_X2_takeAll (l : Launch) (D : va_G) (cA : Nat → ClassId) (g : Nat) (ga_units : Nat) (g_units : Nat → Int32) (ga_lengths : Nat) (g_lengths : Nat → Int32) (ga_offsets : Nat) (g_offsets : Nat → Int32) (g_step : Int) (o : Nat) (oa_units : Nat) (o_units : Nat → Int32) (oa_lengths : Nat) (o_lengths : Nat → Int32) (oa_offsets : Nat) (o_offsets : Nat → Int32) (o_step : Int) (h_g_step : z_in g_step) (h_o_step : z_in o_step) (Q : (Nat → Int32) → (Nat → Int32) → (Nat → Int32) → Int → Prop) (hv : vc_X2_takeAll o_units o_lengths o_offsets o_step Q) : Met l yX2_takeAll wsX2_takeAll ({ frames := 2, cells := 0, slots := 0, locals := 39 } : Room) (va_Pc [.ref g, .ref o] (z_M0 D cA [(g, .inr (1, [.ref ga_units, .ref ga_lengths, .ref ga_offsets, .int (z_i g_step)])), (ga_units, .inl (cA 1, 1280, .inl g_units)), (ga_lengths, .inl (cA 1, 32, .inl g_lengths)), (ga_offsets, .inl (cA 1, 32, .inl g_offsets)), (o, .inr (1, [.ref oa_units, .ref oa_lengths, .ref oa_offsets, .int (z_i o_step)])), (oa_units, .inl (cA 1, 1280, .inl o_units)), (oa_lengths, .inl (cA 1, 32, .inl o_lengths)), (oa_offsets, .inl (cA 1, 32, .inl o_offsets))])) (va_Qv (fun (u : (Nat → Int32) × (Nat → Int32) × (Nat → Int32) × Int) => z_in u.2.2.2 ∧ Q u.1 u.2.1 u.2.2.1 u.2.2.2) (fun (u : (Nat → Int32) × (Nat → Int32) × (Nat → Int32) × Int) t => va_P D vwCl [(g, .inr (1, [.ref ga_units, .ref ga_lengths, .ref ga_offsets, .int (z_i u.2.2.2)])), (ga_units, .inl (cA 1, 1280, .inl u.1)), (ga_lengths, .inl (cA 1, 32, .inl u.2.1)), (ga_offsets, .inl (cA 1, 32, .inl u.2.2.1)), (o, .inr (1, [.ref oa_units, .ref oa_lengths, .ref oa_offsets, .int (z_i o_step)])), (oa_units, .inl (cA 1, 1280, .inl o_units)), (oa_lengths, .inl (cA 1, 32, .inl o_lengths)), (oa_offsets, .inl (cA 1, 32, .inl o_offsets))] t.heap) (z_A [(g, .inr (1, [.ref ga_units, .ref ga_lengths, .ref ga_offsets, .int (z_i g_step)])), (ga_units, .inl (cA 1, 1280, .inl g_units)), (ga_lengths, .inl (cA 1, 32, .inl g_lengths)), (ga_offsets, .inl (cA 1, 32, .inl g_offsets)), (o, .inr (1, [.ref oa_units, .ref oa_lengths, .ref oa_offsets, .int (z_i o_step)])), (oa_units, .inl (cA 1, 1280, .inl o_units)), (oa_lengths, .inl (cA 1, 32, .inl o_lengths)), (oa_offsets, .inl (cA 1, 32, .inl o_offsets))])) 0 0 (z_A [(g, .inr (1, [.ref ga_units, .ref ga_lengths, .ref ga_offsets, .int (z_i g_step)])), (ga_units, .inl (cA 1, 1280, .inl g_units)), (ga_lengths, .inl (cA 1, 32, .inl g_lengths)), (ga_offsets, .inl (cA 1, 32, .inl g_offsets)), (o, .inr (1, [.ref oa_units, .ref oa_lengths, .ref oa_offsets, .int (z_i o_step)])), (oa_units, .inl (cA 1, 1280, .inl o_units)), (oa_lengths, .inl (cA 1, 32, .inl o_lengths)), (oa_offsets, .inl (cA 1, 32, .inl o_offsets))]) := by
  unfold vc_X2_takeAll at hv
  refine Met.ofW (cc := cX2_takeAll) (maxL := 2) (ret := none) (by decide +kernel) rfl ?_
  intro p e s m args below meth c s₁ B hml hv0
  obtain ⟨rfl, hK, hP, hD0⟩ := hv0
  have hx := B.exec
  have hb := B.bytes
  have hr := B.returns
  have hts := atoms_spec (ws := wsX2_takeAll) B.pre
  have hown : s.vm.findClass RX2 = some m.cls := findClass_of_methodNamed B.named
  have hlocks := B.notSynchronized
  have hD := z_D_self hD0
  generalize hAe : z_A [(g, .inr (1, [.ref ga_units, .ref ga_lengths, .ref ga_offsets, .int (z_i g_step)])), (ga_units, .inl (cA 1, 1280, .inl g_units)), (ga_lengths, .inl (cA 1, 32, .inl g_lengths)), (ga_offsets, .inl (cA 1, 32, .inl g_offsets)), (o, .inr (1, [.ref oa_units, .ref oa_lengths, .ref oa_offsets, .int (z_i o_step)])), (oa_units, .inl (cA 1, 1280, .inl o_units)), (oa_lengths, .inl (cA 1, 32, .inl o_lengths)), (oa_offsets, .inl (cA 1, 32, .inl o_offsets))] = A at *
  have hS : va_S A s.heap s.heap [] := va_S.rf
  have hl := lv_entry ([.ref g, .ref o]) (n := 2) (Nat.le_of_ble_eq_true rfl)
  rw [lg_entry_eq]
  generalize (lg_sl ([.ref g, .ref o]) ++ List.replicate (2 - (lg_sl ([.ref g, .ref o])).length) Slot.unset).toArray = ls at hl ⊢
  have hl : lv_has ls 2 [(0, .ref g), (1, .ref o)] := hl
  refine lv_aload_n hx hb dX2_takeAll_0 rfl (lv_at hl 0 rfl) ?_
  refine lv_aload_n hx hb dX2_takeAll_1 rfl (lv_at hl 1 rfl) ?_
  have hFc := z_fr (A := A) (wc := [(g, .inr (1, [.ref ga_units, .ref ga_lengths, .ref ga_offsets, .int (z_i g_step)])), (ga_units, .inl (cA 1, 1280, .inl g_units)), (ga_lengths, .inl (cA 1, 32, .inl g_lengths)), (ga_offsets, .inl (cA 1, 32, .inl g_offsets)), (o, .inr (1, [.ref oa_units, .ref oa_lengths, .ref oa_offsets, .int (z_i o_step)])), (oa_units, .inl (cA 1, 1280, .inl o_units)), (oa_lengths, .inl (cA 1, 32, .inl o_lengths)), (oa_offsets, .inl (cA 1, 32, .inl o_offsets))]) hD [0, 1, 2, 3, 4, 5, 6, 7] rfl
  refine va_callv (va_runV (As := [.ref o]) (rest := []) ⟨hx, hb, hml, hown, hts⟩ (mt_X2_takeShape l D cA g ga_units g_units ga_lengths g_lengths ga_offsets g_offsets g_step o oa_units o_units oa_lengths o_lengths oa_offsets o_offsets o_step h_g_step h_o_step) (cwV 1 hts gX2_takeAll_X2_takeShape rfl rfl rfl (by decide +kernel) ⟨Nat.le_of_ble_eq_true rfl, Nat.le_of_ble_eq_true rfl⟩) ⟨z_blm0, va_recv hK hP (ci := 1) (q0 := 0) rfl rfl, fun U hU hW => ⟨rfl, z_m0 hK hP hD hU hW⟩⟩ rfl rfl hl.1 rfl (lv_room (Nat.le_of_ble_eq_true rfl)) dX2_takeAll_2 ⟨Nat.zero_le _, Nat.zero_le _⟩) hS (fun q _ h => hFc q h) hFc (fun u t H locs ht hvm hw hB hz1 hk1 hS => ?_)
  obtain ⟨c1, c2, c3⟩ := u
  rw [ht] at hB
  have hP := hB
  have hP : va_P D vwCl [(g, .inr (1, [.ref ga_units, .ref ga_lengths, .ref ga_offsets, .int (z_i c3)])), (ga_units, .inl (cA 1, 1280, .inl g_units)), (ga_lengths, .inl (cA 1, 32, .inl c1)), (ga_offsets, .inl (cA 1, 32, .inl c2)), (o, .inr (1, [.ref oa_units, .ref oa_lengths, .ref oa_offsets, .int (z_i o_step)])), (oa_units, .inl (cA 1, 1280, .inl o_units)), (oa_lengths, .inl (cA 1, 32, .inl o_lengths)), (oa_offsets, .inl (cA 1, 32, .inl o_offsets))] H := hP
  have hD : va_D A [(g, .inr (1, [.ref ga_units, .ref ga_lengths, .ref ga_offsets, .int (z_i c3)])), (ga_units, .inl (cA 1, 1280, .inl g_units)), (ga_lengths, .inl (cA 1, 32, .inl c1)), (ga_offsets, .inl (cA 1, 32, .inl c2)), (o, .inr (1, [.ref oa_units, .ref oa_lengths, .ref oa_offsets, .int (z_i o_step)])), (oa_units, .inl (cA 1, 1280, .inl o_units)), (oa_lengths, .inl (cA 1, 32, .inl o_lengths)), (oa_offsets, .inl (cA 1, 32, .inl o_offsets))] := z_D_addr hD rfl
  obtain ⟨h_c3, hw⟩ := hw
  have hv := hv c1 c2 c3 h_c3 hw
  refine lv_aload_n hx hb dX2_takeAll_5 rfl (lv_at hl 1 rfl) ?_
  refine va_get (D := D) (ci := 1) (v := .ref oa_units) (C := RX2) (T := TX2) (N := 4) hx hb hts (fun w h => List.mem_cons_of_mem _ (List.mem_append_right _ h)) hown hK hP 4 rfl rfl 0 (by decide) (hts (.fieldLink RX2 9 "ContourSheets$Grid" "units" "[I") (by decide +kernel)) (fun _ h9 => h9) rfl dX2_takeAll_6 ?_
  refine lv_iconst (v := z_i 0) hx hb dX2_takeAll_9 rfl ?_
  refine lv_aload_n hx hb dX2_takeAll_10 rfl (lv_at hl 0 rfl) ?_
  refine va_get (D := D) (ci := 1) (v := .ref ga_units) (C := RX2) (T := TX2) (N := 4) hx hb hts (fun w h => List.mem_cons_of_mem _ (List.mem_append_right _ h)) hown hK hP 0 rfl rfl 0 (by decide) (hts (.fieldLink RX2 9 "ContourSheets$Grid" "units" "[I") (by decide +kernel)) (fun _ h9 => h9) rfl dX2_takeAll_11 ?_
  refine lv_iconst (v := z_i 0) hx hb dX2_takeAll_14 rfl ?_
  refine lv_sipush (v := z_i 1280) hx hb dX2_takeAll_15 (by decide) ?_
  refine lx_acopy hx hb (hml.trans hl.1.symm) hown (hts (.methodLink RX2 32 arraycopyName) (by decide +kernel)) (hts (.native arraycopyName) (by decide +kernel)) (hts (.static arraycopyName) (by decide +kernel)) (hts (.initialized "java/lang/System") (by decide +kernel)) hK hP hD hS 5 1 1 rfl rfl rfl (by decide) (Nat.le_of_ble_eq_true rfl) (Nat.le_of_ble_eq_true rfl) rfl dX2_takeAll_18 (fun H locs hP hD hS => ?_)
  have hP : va_P D vwCl [(g, .inr (1, [.ref ga_units, .ref ga_lengths, .ref ga_offsets, .int (z_i c3)])), (ga_units, .inl (cA 1, 1280, .inl o_units)), (ga_lengths, .inl (cA 1, 32, .inl c1)), (ga_offsets, .inl (cA 1, 32, .inl c2)), (o, .inr (1, [.ref oa_units, .ref oa_lengths, .ref oa_offsets, .int (z_i o_step)])), (oa_units, .inl (cA 1, 1280, .inl o_units)), (oa_lengths, .inl (cA 1, 32, .inl o_lengths)), (oa_offsets, .inl (cA 1, 32, .inl o_offsets))] H := hP
  have hD : va_D A [(g, .inr (1, [.ref ga_units, .ref ga_lengths, .ref ga_offsets, .int (z_i c3)])), (ga_units, .inl (cA 1, 1280, .inl o_units)), (ga_lengths, .inl (cA 1, 32, .inl c1)), (ga_offsets, .inl (cA 1, 32, .inl c2)), (o, .inr (1, [.ref oa_units, .ref oa_lengths, .ref oa_offsets, .int (z_i o_step)])), (oa_units, .inl (cA 1, 1280, .inl o_units)), (oa_lengths, .inl (cA 1, 32, .inl o_lengths)), (oa_offsets, .inl (cA 1, 32, .inl o_offsets))] := hD
  exact W.vret hx hb hr (fun t ht hW => ⟨⟨(o_units, c1, c2, c3), rfl, ⟨h_c3, hv⟩, z_pt hP ht⟩, hS.F ht⟩) hS.2.2 dX2_takeAll_21
set_option maxHeartbeats 4000000 in
set_option maxRecDepth 100000 in
theorem mt_X2_takeAll (l : Launch) (D : va_G) (cA : Nat → ClassId) (g : Nat) (ga_units : Nat) (g_units : Nat → Int32) (ga_lengths : Nat) (g_lengths : Nat → Int32) (ga_offsets : Nat) (g_offsets : Nat → Int32) (g_step : Int) (o : Nat) (oa_units : Nat) (o_units : Nat → Int32) (oa_lengths : Nat) (o_lengths : Nat → Int32) (oa_offsets : Nat) (o_offsets : Nat → Int32) (o_step : Int) (h_g_step : z_in g_step) (h_o_step : z_in o_step)  : Met l yX2_takeAll wsX2_takeAll ({ frames := 2, cells := 0, slots := 0, locals := 39 } : Room) (va_Pc [.ref g, .ref o] (z_M0 D cA [(g, .inr (1, [.ref ga_units, .ref ga_lengths, .ref ga_offsets, .int (z_i g_step)])), (ga_units, .inl (cA 1, 1280, .inl g_units)), (ga_lengths, .inl (cA 1, 32, .inl g_lengths)), (ga_offsets, .inl (cA 1, 32, .inl g_offsets)), (o, .inr (1, [.ref oa_units, .ref oa_lengths, .ref oa_offsets, .int (z_i o_step)])), (oa_units, .inl (cA 1, 1280, .inl o_units)), (oa_lengths, .inl (cA 1, 32, .inl o_lengths)), (oa_offsets, .inl (cA 1, 32, .inl o_offsets))])) (va_Qv (fun (u : (Nat → Int32) × (Nat → Int32) × (Nat → Int32) × Int) => z_in u.2.2.2 ∧ (fun (g_units' : (Nat → Int32)) (g_lengths' : (Nat → Int32)) (g_offsets' : (Nat → Int32)) (g_step' : Int) => g_units' = o_units ∧ g_lengths' = o_lengths ∧ g_offsets' = o_offsets ∧ g_step' = o_step) u.1 u.2.1 u.2.2.1 u.2.2.2) (fun (u : (Nat → Int32) × (Nat → Int32) × (Nat → Int32) × Int) t => va_P D vwCl [(g, .inr (1, [.ref ga_units, .ref ga_lengths, .ref ga_offsets, .int (z_i u.2.2.2)])), (ga_units, .inl (cA 1, 1280, .inl u.1)), (ga_lengths, .inl (cA 1, 32, .inl u.2.1)), (ga_offsets, .inl (cA 1, 32, .inl u.2.2.1)), (o, .inr (1, [.ref oa_units, .ref oa_lengths, .ref oa_offsets, .int (z_i o_step)])), (oa_units, .inl (cA 1, 1280, .inl o_units)), (oa_lengths, .inl (cA 1, 32, .inl o_lengths)), (oa_offsets, .inl (cA 1, 32, .inl o_offsets))] t.heap) (z_A [(g, .inr (1, [.ref ga_units, .ref ga_lengths, .ref ga_offsets, .int (z_i g_step)])), (ga_units, .inl (cA 1, 1280, .inl g_units)), (ga_lengths, .inl (cA 1, 32, .inl g_lengths)), (ga_offsets, .inl (cA 1, 32, .inl g_offsets)), (o, .inr (1, [.ref oa_units, .ref oa_lengths, .ref oa_offsets, .int (z_i o_step)])), (oa_units, .inl (cA 1, 1280, .inl o_units)), (oa_lengths, .inl (cA 1, 32, .inl o_lengths)), (oa_offsets, .inl (cA 1, 32, .inl o_offsets))])) 0 0 (z_A [(g, .inr (1, [.ref ga_units, .ref ga_lengths, .ref ga_offsets, .int (z_i g_step)])), (ga_units, .inl (cA 1, 1280, .inl g_units)), (ga_lengths, .inl (cA 1, 32, .inl g_lengths)), (ga_offsets, .inl (cA 1, 32, .inl g_offsets)), (o, .inr (1, [.ref oa_units, .ref oa_lengths, .ref oa_offsets, .int (z_i o_step)])), (oa_units, .inl (cA 1, 1280, .inl o_units)), (oa_lengths, .inl (cA 1, 32, .inl o_lengths)), (oa_offsets, .inl (cA 1, 32, .inl o_offsets))]) := by
  refine wk_X2_takeAll l D cA g ga_units g_units ga_lengths g_lengths ga_offsets g_offsets g_step o oa_units o_units oa_lengths o_lengths oa_offsets o_offsets o_step h_g_step h_o_step (fun (g_units' : (Nat → Int32)) (g_lengths' : (Nat → Int32)) (g_offsets' : (Nat → Int32)) (g_step' : Int) => g_units' = o_units ∧ g_lengths' = o_lengths ∧ g_offsets' = o_offsets ∧ g_step' = o_step) ?_
  unfold vc_X2_takeAll
  rintro c1 c2 c3 h3 ⟨rfl, rfl, rfl⟩
  exact ⟨rfl, rfl, rfl, rfl⟩
