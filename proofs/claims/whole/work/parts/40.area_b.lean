/-! areas: a bit a point -/
def a_ok (f : Nat → Int64) : Prop := ∀ i : Int, 0 ≤ i → i < 32 → 0 ≤ z_gl f i ∧ z_gl f i < 1099511627776
def a_bt (f : Nat → Int64) (p : Int) : Bool := (z_gl f (p / 40)).toNat.testBit (p % 40).toNat
def a_cn (B : Int → Bool) : Nat → Int
  | 0 => 0
  | n + 1 => a_cn B n + (if B n = true then 1 else 0)
theorem a_shl1 : ∀ j : Fin 40, z_shll 1 (j.val : Int) = ((2 ^ j.val : Nat) : Int) := by decide +kernel
theorem a_tail : ∀ j : Fin 40, z_andl 1099511627775 (-(z_shll 2 (j.val : Int))) = ((1099511627776 - 2 ^ (j.val + 1) : Nat) : Int) := by decide +kernel
theorem a_tailb : ∀ j c : Fin 40, (1099511627776 - 2 ^ (j.val + 1) : Nat).testBit c.val = decide (j.val < c.val) := by decide +kernel
theorem a_bt_s {f : Nat → Int64} {i p : Int} {m : Nat} (hm : m < 1099511627776) (h0 : 0 ≤ i) (hp : 0 ≤ p) : a_bt (z_sl f i (m : Int)) p = if p / 40 = i then m.testBit (p % 40).toNat else a_bt f p := by
  unfold a_bt
  rw [z_gsl ⟨by omega, by omega⟩ h0 (by omega)]
  split
  · rw [Int.toNat_natCast]
  · rfl
theorem a_ok_s {f : Nat → Int64} {i : Int} {m : Nat} (h : a_ok f) (hm : m < 1099511627776) (h0 : 0 ≤ i) : a_ok (z_sl f i (m : Int)) := by
  intro k a b
  rw [z_gsl ⟨by omega, by omega⟩ h0 a]
  split
  · omega
  · exact h k a b
theorem a_nat {f : Nat → Int64} (h : a_ok f) {i : Int} (h0 : 0 ≤ i) (h1 : i < 32) : ∃ m : Nat, z_gl f i = (m : Int) ∧ m < 1099511627776 := ⟨(z_gl f i).toNat, by have := h i h0 h1; omega, by have := h i h0 h1; omega⟩
theorem a_cn_row {B : Int → Bool} {m i : Nat} (h : ∀ j : Nat, j < 40 → m.testBit j = B ((40 * i + j : Nat) : Int)) : ∀ k : Nat, k ≤ 40 → a_cn B (40 * i + k) = a_cn B (40 * i) + (b_pc m k : Int) := by
  intro k
  induction k with
  | zero => intro _; show a_cn B (40 * i) = a_cn B (40 * i) + ((0 : Nat) : Int); omega
  | succ k ih =>
    intro hk
    show a_cn B (40 * i + k) + (if B ((40 * i + k : Nat) : Int) = true then 1 else 0) = _
    rw [ih (by omega), ← h k (by omega)]
    show _ = a_cn B (40 * i) + ((b_pc m k + (if m.testBit k then 1 else 0) : Nat) : Int)
    split <;> omega
theorem a_cn_b (B : Int → Bool) (n : Nat) : 0 ≤ a_cn B n ∧ a_cn B n ≤ n := by
  induction n with
  | zero => exact ⟨Int.le_refl _, Int.le_refl _⟩
  | succ n ih => unfold a_cn; split <;> omega
def vc_X0_turnBehind (ar_masks : Nat → Int64) (n : Int) (Q : (Nat → Int64) → Prop) : Prop :=
(0 ≤ n.tdiv 40 ∧ n.tdiv 40 < 32) ∧ (∀ f2 : Nat → Int64, f2 = z_sl ar_masks (n.tdiv 40) (z_xorl (z_gl ar_masks (n.tdiv 40)) (z_andl 1099511627775 (-(z_shll 2 (n.tmod 40))))) → Q f2)
set_option maxHeartbeats 4000000 in
set_option maxRecDepth 100000 in
theorem wk_X0_turnBehind (l : Launch) (D : va_G) (cA : Nat → ClassId) (ar : Nat) (ara_masks : Nat) (ar_masks : Nat → Int64) (ar_size : Int) (n : Int) (h_ar_size : z_in ar_size) (h_n : z_in n) (Q : (Nat → Int64) → Prop) (hv : vc_X0_turnBehind ar_masks n Q) : Met l yX0_turnBehind wsX0_turnBehind ({ frames := 0, cells := 0, slots := 0, locals := 0 } : Room) (va_Pc [.ref ar, .int (z_i n)] (z_M0 D cA [(ar, .inr (0, [.ref ara_masks, .int (z_i ar_size)])), (ara_masks, .inl (cA 2, 32, .inr (.inl ar_masks)))])) (va_Qv (fun (u : (Nat → Int64)) => Q u) (fun (u : (Nat → Int64)) t => va_P D vwCl [(ar, .inr (0, [.ref ara_masks, .int (z_i ar_size)])), (ara_masks, .inl (cA 2, 32, .inr (.inl u)))] t.heap) (z_A [(ar, .inr (0, [.ref ara_masks, .int (z_i ar_size)])), (ara_masks, .inl (cA 2, 32, .inr (.inl ar_masks)))])) 0 0 (z_A [(ar, .inr (0, [.ref ara_masks, .int (z_i ar_size)])), (ara_masks, .inl (cA 2, 32, .inr (.inl ar_masks)))]) := by
  unfold vc_X0_turnBehind at hv
  refine Met.ofW (cc := cX0_turnBehind) (maxL := 2) (ret := none) (by decide +kernel) rfl ?_
  intro p e s m args below meth c s₁ B hml hv0
  obtain ⟨rfl, hK, hP, hD0⟩ := hv0
  have hx := B.exec
  have hb := B.bytes
  have hr := B.returns
  have hts := atoms_spec (ws := wsX0_turnBehind) B.pre
  have hown : s.vm.findClass RX0 = some m.cls := findClass_of_methodNamed B.named
  have hlocks := B.notSynchronized
  have hD := z_D_self hD0
  generalize hAe : z_A [(ar, .inr (0, [.ref ara_masks, .int (z_i ar_size)])), (ara_masks, .inl (cA 2, 32, .inr (.inl ar_masks)))] = A at *
  have hS : va_S A s.heap s.heap [] := va_S.rf
  have hl := lv_entry ([.ref ar, .int (z_i n)]) (n := 2) (Nat.le_of_ble_eq_true rfl)
  rw [lg_entry_eq]
  generalize (lg_sl ([.ref ar, .int (z_i n)]) ++ List.replicate (2 - (lg_sl ([.ref ar, .int (z_i n)])).length) Slot.unset).toArray = ls at hl ⊢
  have hl : lv_has ls 2 [(0, .ref ar), (1, .int (z_i n))] := hl
  refine lv_aload_n hx hb dX0_turnBehind_0 rfl (lv_at hl 0 rfl) ?_
  refine va_get (D := D) (ci := 0) (v := .ref ara_masks) (C := RX0) (T := TX0) (N := 2) hx hb hts (fun w h => List.mem_cons_of_mem _ (List.mem_append_right _ h)) hown hK hP 0 rfl rfl 0 (by decide) (hts (.fieldLink RX0 9 "ContourSheets$Area" "masks" "[J") (by decide +kernel)) (fun _ h9 => h9) rfl dX0_turnBehind_1 ?_
  refine lv_iload_n hx hb dX0_turnBehind_4 rfl (lv_at hl 1 rfl) ?_
  refine lv_bipush (v := z_i 40) hx hb dX0_turnBehind_5 (by decide) ?_
  refine lx_idiv hx hb dX0_turnBehind_7 h_n (show z_in 40 from ⟨by decide, by decide⟩) (by decide) ?_
  refine lv_dup2_11 hx hb dX0_turnBehind_8 rfl rfl ?_
  obtain ⟨hi1, hv⟩ := hv
  refine lx_lald hx hb hK hP 1 2 rfl rfl (by decide) hi1.1 hi1.2 dX0_turnBehind_9 ?_
  refine lx_ldc2 (a := 1099511627775) hx hb hown (hts (.constantLong RX0 49 (1099511627775)) (by decide +kernel)) (by decide) dX0_turnBehind_10 ?_
  refine lx_ldc2 (a := 2) hx hb hown (hts (.constantLong RX0 51 (2)) (by decide +kernel)) (by decide) dX0_turnBehind_13 ?_
  refine lv_iload_n hx hb dX0_turnBehind_16 rfl (lv_at hl 1 rfl) ?_
  refine lv_bipush (v := z_i 40) hx hb dX0_turnBehind_17 (by decide) ?_
  refine lx_irem hx hb dX0_turnBehind_19 h_n (show z_in 40 from ⟨by decide, by decide⟩) (by decide) ?_
  refine lx_lshl hx hb dX0_turnBehind_20 ?_
  refine lx_lneg hx hb dX0_turnBehind_21 ?_
  refine lx_land hx hb dX0_turnBehind_22 ?_
  refine lx_lxor hx hb dX0_turnBehind_23 ?_
  refine lx_last hx hb hK hP hD hS 1 2 rfl rfl (by decide) hi1.1 hi1.2 dX0_turnBehind_24 (fun H locs hP hD hS => ?_)
  obtain ⟨f2, hy3⟩ : ∃ y : Nat → Int64, y = z_sl ar_masks (n.tdiv 40) (z_xorl (z_gl ar_masks (n.tdiv 40)) (z_andl 1099511627775 (-(z_shll 2 (n.tmod 40))))) := ⟨_, rfl⟩
  have hv := hv f2 hy3
  have hP : va_P D vwCl [(ar, .inr (0, [.ref ara_masks, .int (z_i ar_size)])), (ara_masks, .inl (cA 2, 32, .inr (.inl f2)))] H := by rw [hy3]; exact hP
  have hD : va_D A [(ar, .inr (0, [.ref ara_masks, .int (z_i ar_size)])), (ara_masks, .inl (cA 2, 32, .inr (.inl f2)))] := by rw [hy3]; exact hD
  exact W.vret hx hb hr (fun t ht hW => ⟨⟨(f2), rfl, hv, z_pt hP ht⟩, hS.F ht⟩) hS.2.2 dX0_turnBehind_25
set_option maxHeartbeats 4000000 in
set_option maxRecDepth 100000 in
theorem mt_X0_turnBehind (l : Launch) (D : va_G) (cA : Nat → ClassId) (ar : Nat) (ara_masks : Nat) (ar_masks : Nat → Int64) (ar_size : Int) (n : Int) (h_ar_size : z_in ar_size) (h_n : z_in n) (hp1 : 0 ≤ n ∧ n < 1280) (hp2 : a_ok ar_masks) : Met l yX0_turnBehind wsX0_turnBehind ({ frames := 0, cells := 0, slots := 0, locals := 0 } : Room) (va_Pc [.ref ar, .int (z_i n)] (z_M0 D cA [(ar, .inr (0, [.ref ara_masks, .int (z_i ar_size)])), (ara_masks, .inl (cA 2, 32, .inr (.inl ar_masks)))])) (va_Qv (fun (u : (Nat → Int64)) => (fun (ar_masks' : (Nat → Int64)) => a_ok ar_masks' ∧ ∀ q : Int, 0 ≤ q → q < 1280 → a_bt ar_masks' q = (a_bt ar_masks q ^^ decide (q / 40 = n / 40 ∧ n < q))) u) (fun (u : (Nat → Int64)) t => va_P D vwCl [(ar, .inr (0, [.ref ara_masks, .int (z_i ar_size)])), (ara_masks, .inl (cA 2, 32, .inr (.inl u)))] t.heap) (z_A [(ar, .inr (0, [.ref ara_masks, .int (z_i ar_size)])), (ara_masks, .inl (cA 2, 32, .inr (.inl ar_masks)))])) 0 0 (z_A [(ar, .inr (0, [.ref ara_masks, .int (z_i ar_size)])), (ara_masks, .inl (cA 2, 32, .inr (.inl ar_masks)))]) := by
  refine wk_X0_turnBehind l D cA ar ara_masks ar_masks ar_size n h_ar_size h_n (fun (ar_masks' : (Nat → Int64)) => a_ok ar_masks' ∧ ∀ q : Int, 0 ≤ q → q < 1280 → a_bt ar_masks' q = (a_bt ar_masks q ^^ decide (q / 40 = n / 40 ∧ n < q))) ?_
  unfold vc_X0_turnBehind
  rw [Int.tdiv_eq_ediv_of_nonneg hp1.1, Int.tmod_eq_emod_of_nonneg hp1.1]
  refine ⟨⟨by omega, by omega⟩, ?_⟩
  obtain ⟨m, em, hm⟩ := a_nat hp2 (i := n / 40) (by omega) (by omega)
  have et := a_tail ⟨(n % 40).toNat, by omega⟩
  rw [show (((⟨(n % 40).toNat, by omega⟩ : Fin 40).val : Nat) : Int) = n % 40 from Int.toNat_of_nonneg (by omega)] at et
  dsimp only at et
  have hK : 1099511627776 - 2 ^ ((n % 40).toNat + 1) < 9223372036854775808 := Nat.lt_of_le_of_lt (Nat.sub_le _ _) (by decide)
  rw [em, et, z_xorl_nat (by omega) hK]
  have hx : m ^^^ (1099511627776 - 2 ^ ((n % 40).toNat + 1)) < 1099511627776 := Nat.xor_lt_two_pow (n := 40) hm (by have : 0 < 2 ^ ((n % 40).toNat + 1) := Nat.two_pow_pos _; omega)
  rintro f rfl
  refine ⟨a_ok_s hp2 hx (by omega), fun q a b => ?_⟩
  rw [a_bt_s hx (by omega) a]
  by_cases e : q / 40 = n / 40
  · rw [if_pos e, Nat.testBit_xor, a_tailb ⟨(n % 40).toNat, by omega⟩ ⟨(q % 40).toNat, by omega⟩]
    unfold a_bt
    rw [e, em, Int.toNat_natCast]
    congr 1
    apply decide_eq_decide.mpr
    dsimp only
    omega
  · rw [if_neg e, decide_eq_false (fun z => e z.1)]
    simp
def vc_X0_keep (ar_masks : Nat → Int64) (tt_masks : Nat → Int64) (Q : (Nat → Int64) → Int → Prop) : Prop :=
(∀ L7 : Int → Int → (Nat → Int64) → Prop,
(∀ (x7_2 : Int) (y7_ar_size : Int) (y7_ara_masks : Nat → Int64), z_in x7_2 → z_in y7_ar_size → ((x7_2 ≥ 32 → Q y7_ara_masks y7_ar_size) ∧
(x7_2 < 32 → (0 ≤ x7_2 ∧ x7_2 < 32) ∧ (∀ f2 : Nat → Int64, f2 = z_sl y7_ara_masks x7_2 (z_andl (z_gl y7_ara_masks x7_2) (z_gl tt_masks x7_2)) → (0 ≤ (z_gl f2 x7_2) ∧ (z_gl f2 x7_2) < 1099511627776) ∧ (∀ (r5 : Int), z_in r5 → (r5 = (b_pc (z_gl f2 x7_2).toNat 40 : Int)) → z_in (y7_ar_size + r5) ∧ (∀ v6 : Int, v6 = y7_ar_size + r5 → L7 (x7_2 + 1) v6 f2))))) → L7 x7_2 y7_ar_size y7_ara_masks) →
L7 0 0 ar_masks)
set_option maxHeartbeats 4000000 in
set_option maxRecDepth 100000 in
theorem wk_X0_keep (l : Launch) (D : va_G) (cA : Nat → ClassId) (ar : Nat) (ara_masks : Nat) (ar_masks : Nat → Int64) (ar_size : Int) (tt : Nat) (tta_masks : Nat) (tt_masks : Nat → Int64) (tt_size : Int) (h_ar_size : z_in ar_size) (h_tt_size : z_in tt_size) (Q : (Nat → Int64) → Int → Prop) (hv : vc_X0_keep ar_masks tt_masks Q) : Met l yX0_keep wsX0_keep ({ frames := 1, cells := 0, slots := 0, locals := 21 } : Room) (va_Pc [.ref ar, .ref tt] (z_M0 D cA [(ar, .inr (0, [.ref ara_masks, .int (z_i ar_size)])), (ara_masks, .inl (cA 2, 32, .inr (.inl ar_masks))), (tt, .inr (0, [.ref tta_masks, .int (z_i tt_size)])), (tta_masks, .inl (cA 2, 32, .inr (.inl tt_masks)))])) (va_Qv (fun (u : (Nat → Int64) × Int) => z_in u.2 ∧ Q u.1 u.2) (fun (u : (Nat → Int64) × Int) t => va_P D vwCl [(ar, .inr (0, [.ref ara_masks, .int (z_i u.2)])), (ara_masks, .inl (cA 2, 32, .inr (.inl u.1))), (tt, .inr (0, [.ref tta_masks, .int (z_i tt_size)])), (tta_masks, .inl (cA 2, 32, .inr (.inl tt_masks)))] t.heap) (z_A [(ar, .inr (0, [.ref ara_masks, .int (z_i ar_size)])), (ara_masks, .inl (cA 2, 32, .inr (.inl ar_masks))), (tt, .inr (0, [.ref tta_masks, .int (z_i tt_size)])), (tta_masks, .inl (cA 2, 32, .inr (.inl tt_masks)))])) 0 0 (z_A [(ar, .inr (0, [.ref ara_masks, .int (z_i ar_size)])), (ara_masks, .inl (cA 2, 32, .inr (.inl ar_masks))), (tt, .inr (0, [.ref tta_masks, .int (z_i tt_size)])), (tta_masks, .inl (cA 2, 32, .inr (.inl tt_masks)))]) := by
  unfold vc_X0_keep at hv
  refine Met.ofW (cc := cX0_keep) (maxL := 3) (ret := none) (by decide +kernel) rfl ?_
  intro p e s m args below meth c s₁ B hml hv0
  obtain ⟨rfl, hK, hP, hD0⟩ := hv0
  have hx := B.exec
  have hb := B.bytes
  have hr := B.returns
  have hts := atoms_spec (ws := wsX0_keep) B.pre
  have hown : s.vm.findClass RX0 = some m.cls := findClass_of_methodNamed B.named
  have hlocks := B.notSynchronized
  have hD := z_D_self hD0
  generalize hAe : z_A [(ar, .inr (0, [.ref ara_masks, .int (z_i ar_size)])), (ara_masks, .inl (cA 2, 32, .inr (.inl ar_masks))), (tt, .inr (0, [.ref tta_masks, .int (z_i tt_size)])), (tta_masks, .inl (cA 2, 32, .inr (.inl tt_masks)))] = A at *
  have hS : va_S A s.heap s.heap [] := va_S.rf
  have hl := lv_entry ([.ref ar, .ref tt]) (n := 3) (Nat.le_of_ble_eq_true rfl)
  rw [lg_entry_eq]
  generalize (lg_sl ([.ref ar, .ref tt]) ++ List.replicate (3 - (lg_sl ([.ref ar, .ref tt])).length) Slot.unset).toArray = ls at hl ⊢
  have hl : lv_has ls 3 [(0, .ref ar), (1, .ref tt)] := hl
  refine lv_aload_n hx hb dX0_keep_0 rfl (lv_at hl 0 rfl) ?_
  refine lv_iconst (v := z_i 0) hx hb dX0_keep_1 rfl ?_
  refine va_put (D := D) (ci := 0) (v := .int (z_i 0)) (ty := .int) (C := RX0) (T := TX0) (N := 2) hx hb hts (fun w h => List.mem_cons_of_mem _ (List.mem_append_right _ h)) tyX0 tyX0_ok nmX0 hown hK hP hD hS 0 rfl rfl 1 (by decide) (hts (.fieldLink RX0 53 "ContourSheets$Area" "size" "I") (by decide +kernel)) (fun _ h9 => h9) rfl (by decide +kernel) rfl rfl (Nat.le_of_ble_eq_true rfl) dX0_keep_2 (fun H locs hP hD hS => ?_)
  have hP : va_P D vwCl [(ar, .inr (0, [.ref ara_masks, .int (z_i 0)])), (ara_masks, .inl (cA 2, 32, .inr (.inl ar_masks))), (tt, .inr (0, [.ref tta_masks, .int (z_i tt_size)])), (tta_masks, .inl (cA 2, 32, .inr (.inl tt_masks)))] H := hP
  have hD : va_D A [(ar, .inr (0, [.ref ara_masks, .int (z_i 0)])), (ara_masks, .inl (cA 2, 32, .inr (.inl ar_masks))), (tt, .inr (0, [.ref tta_masks, .int (z_i tt_size)])), (tta_masks, .inl (cA 2, 32, .inr (.inl tt_masks)))] := hD
  refine lv_iconst (v := z_i 0) hx hb dX0_keep_5 rfl ?_
  refine lv_istore_n (lv' := [(2, .int (z_i 0)), (0, .ref ar), (1, .ref tt)]) hx hb dX0_keep_6 rfl hl (by decide) rfl (fun ls hl => ?_)
  refine hv (fun (x7_2 : Int) (y7_ar_size : Int) (y7_ara_masks : Nat → Int64) => ∀ (H : Heap) (locs : List Loc) (ls : Array Slot), va_P D vwCl [(ar, .inr (0, [.ref ara_masks, .int (z_i y7_ar_size)])), (ara_masks, .inl (cA 2, 32, .inr (.inl y7_ara_masks))), (tt, .inr (0, [.ref tta_masks, .int (z_i tt_size)])), (tta_masks, .inl (cA 2, 32, .inr (.inl tt_masks)))] H → va_D A [(ar, .inr (0, [.ref ara_masks, .int (z_i y7_ar_size)])), (ara_masks, .inl (cA 2, 32, .inr (.inl y7_ara_masks))), (tt, .inr (0, [.ref tta_masks, .int (z_i tt_size)])), (tta_masks, .inl (cA 2, 32, .inr (.inl tt_masks)))] → va_S A s.heap H locs → lv_has ls 3 [(2, .int (z_i x7_2)), (0, .ref ar), (1, .ref tt)] → W p l e _ s m _ below meth c H locs 0 0 _ (F0 m 7 ls [])) ?_ _ _ ls hP hD hS (lv_sub hl [0, 1, 2] rfl)
  intro x7_2 y7_ar_size y7_ara_masks h_x7_2 h_y7_ar_size hv H locs ls hP hD hS hl
  refine lv_iload_n hx hb dX0_keep_7 rfl (lv_at hl 0 rfl) ?_
  refine lv_bipush (v := z_i 32) hx hb dX0_keep_8 (by decide) ?_
  refine lx_icmp_ge (tgt := 52) hx hb dX0_keep_10 (by decide) h_x7_2 (show z_in 32 from ⟨by decide, by decide⟩) (fun hc => ?_) (fun hc => ?_)
  · have hv := hv.1 hc
    exact W.vret hx hb hr (fun t ht hW => ⟨⟨(y7_ara_masks, y7_ar_size), rfl, ⟨h_y7_ar_size, hv⟩, z_pt hP ht⟩, hS.F ht⟩) hS.2.2 dX0_keep_52
  · have hv := hv.2 hc
    refine lv_aload_n hx hb dX0_keep_13 rfl (lv_at hl 1 rfl) ?_
    refine va_get (D := D) (ci := 0) (v := .ref ara_masks) (C := RX0) (T := TX0) (N := 2) hx hb hts (fun w h => List.mem_cons_of_mem _ (List.mem_append_right _ h)) hown hK hP 0 rfl rfl 0 (by decide) (hts (.fieldLink RX0 9 "ContourSheets$Area" "masks" "[J") (by decide +kernel)) (fun _ h9 => h9) rfl dX0_keep_14 ?_
    refine lv_iload_n hx hb dX0_keep_17 rfl (lv_at hl 0 rfl) ?_
    refine lv_dup2_11 hx hb dX0_keep_18 rfl rfl ?_
    obtain ⟨hi1, hv⟩ := hv
    refine lx_lald hx hb hK hP 1 2 rfl rfl (by decide) hi1.1 hi1.2 dX0_keep_19 ?_
    refine lv_aload_n hx hb dX0_keep_20 rfl (lv_at hl 2 rfl) ?_
    refine va_get (D := D) (ci := 0) (v := .ref tta_masks) (C := RX0) (T := TX0) (N := 2) hx hb hts (fun w h => List.mem_cons_of_mem _ (List.mem_append_right _ h)) hown hK hP 2 rfl rfl 0 (by decide) (hts (.fieldLink RX0 9 "ContourSheets$Area" "masks" "[J") (by decide +kernel)) (fun _ h9 => h9) rfl dX0_keep_21 ?_
    refine lv_iload_n hx hb dX0_keep_24 rfl (lv_at hl 0 rfl) ?_
    refine lx_lald hx hb hK hP 3 2 rfl rfl (by decide) hi1.1 hi1.2 dX0_keep_25 ?_
    refine lx_land hx hb dX0_keep_26 ?_
    refine lx_last hx hb hK hP hD hS 1 2 rfl rfl (by decide) hi1.1 hi1.2 dX0_keep_27 (fun H locs hP hD hS => ?_)
    obtain ⟨f2, hy3⟩ : ∃ y : Nat → Int64, y = z_sl y7_ara_masks x7_2 (z_andl (z_gl y7_ara_masks x7_2) (z_gl tt_masks x7_2)) := ⟨_, rfl⟩
    have hv := hv f2 hy3
    have hP : va_P D vwCl [(ar, .inr (0, [.ref ara_masks, .int (z_i y7_ar_size)])), (ara_masks, .inl (cA 2, 32, .inr (.inl f2))), (tt, .inr (0, [.ref tta_masks, .int (z_i tt_size)])), (tta_masks, .inl (cA 2, 32, .inr (.inl tt_masks)))] H := by rw [hy3]; exact hP
    have hD : va_D A [(ar, .inr (0, [.ref ara_masks, .int (z_i y7_ar_size)])), (ara_masks, .inl (cA 2, 32, .inr (.inl f2))), (tt, .inr (0, [.ref tta_masks, .int (z_i tt_size)])), (tta_masks, .inl (cA 2, 32, .inr (.inl tt_masks)))] := by rw [hy3]; exact hD
    refine lv_aload_n hx hb dX0_keep_28 rfl (lv_at hl 1 rfl) ?_
    refine lv_dup hx hb dX0_keep_29 rfl ?_
    refine va_get (D := D) (ci := 0) (v := .int (z_i y7_ar_size)) (C := RX0) (T := TX0) (N := 2) hx hb hts (fun w h => List.mem_cons_of_mem _ (List.mem_append_right _ h)) hown hK hP 0 rfl rfl 1 (by decide) (hts (.fieldLink RX0 53 "ContourSheets$Area" "size" "I") (by decide +kernel)) (fun _ h9 => h9) rfl dX0_keep_30 ?_
    refine lv_aload_n hx hb dX0_keep_33 rfl (lv_at hl 1 rfl) ?_
    refine va_get (D := D) (ci := 0) (v := .ref ara_masks) (C := RX0) (T := TX0) (N := 2) hx hb hts (fun w h => List.mem_cons_of_mem _ (List.mem_append_right _ h)) hown hK hP 0 rfl rfl 0 (by decide) (hts (.fieldLink RX0 9 "ContourSheets$Area" "masks" "[J") (by decide +kernel)) (fun _ h9 => h9) rfl dX0_keep_34 ?_
    refine lv_iload_n hx hb dX0_keep_37 rfl (lv_at hl 0 rfl) ?_
    refine lx_lald hx hb hK hP 1 2 rfl rfl (by decide) hi1.1 hi1.2 dX0_keep_38 ?_
    obtain ⟨hp4, hv⟩ := hv
    refine va_calli (va_runS (As := [.long (z_l (z_gl f2 x7_2))]) (rest := [.int (z_i y7_ar_size), .ref ar]) ⟨hx, hb, hml, hown, hts⟩ (mt_J13_bitCount_95d88 l D cA (z_gl f2 x7_2) (z_nl_gl _ _) hp4) (va_cwS 1 hts gX0_keep_J13_bitCount_95d88 rfl rfl rfl (by decide +kernel) ⟨Nat.le_of_ble_eq_true rfl, Nat.le_of_ble_eq_true rfl⟩) ⟨z_bl0, fun U hU hW => ⟨rfl, z_b0 hK (hP.sub (ws' := []) [] rfl) hU hW⟩⟩ rfl rfl hl.1 rfl (lv_room (Nat.le_of_ble_eq_true rfl)) dX0_keep_39 ⟨Nat.zero_le _, Nat.zero_le _⟩) hS (fun q _ h => h.elim) (fun q h => h.elim) (fun r0 u t H locs ht hvm hw hB hz1 hk1 hS => ?_)
    obtain ⟨r5, rfl, h_r5, hw⟩ := hw
    have hP := z_P_all hP hk1
    have hv := hv r5 h_r5 hw
    refine lx_iadd hx hb dX0_keep_42 ?_
    obtain ⟨hr7, hv⟩ := hv
    refine lx_topi (fun v6 hy8 => ?_)
    have hv := hv v6 hy8
    have h_v6 : z_in v6 := by rw [hy8]; exact hr7
    refine va_put (D := D) (ci := 0) (v := .int (z_i v6)) (ty := .int) (C := RX0) (T := TX0) (N := 2) hx hb hts (fun w h => List.mem_cons_of_mem _ (List.mem_append_right _ h)) tyX0 tyX0_ok nmX0 hown hK hP hD hS 0 rfl rfl 1 (by decide) (hts (.fieldLink RX0 53 "ContourSheets$Area" "size" "I") (by decide +kernel)) (fun _ h9 => h9) rfl (by decide +kernel) rfl rfl (Nat.le_of_ble_eq_true rfl) dX0_keep_43 (fun H locs hP hD hS => ?_)
    have hP : va_P D vwCl [(ar, .inr (0, [.ref ara_masks, .int (z_i v6)])), (ara_masks, .inl (cA 2, 32, .inr (.inl f2))), (tt, .inr (0, [.ref tta_masks, .int (z_i tt_size)])), (tta_masks, .inl (cA 2, 32, .inr (.inl tt_masks)))] H := hP
    have hD : va_D A [(ar, .inr (0, [.ref ara_masks, .int (z_i v6)])), (ara_masks, .inl (cA 2, 32, .inr (.inl f2))), (tt, .inr (0, [.ref tta_masks, .int (z_i tt_size)])), (tta_masks, .inl (cA 2, 32, .inr (.inl tt_masks)))] := hD
    refine lv_iinc (v := z_i (x7_2 + 1)) (lv' := [(2, .int (z_i (x7_2 + 1))), (0, .ref ar), (1, .ref tt)]) hx hb dX0_keep_46 hl (k := 0) rfl (z_i_add _ _) (by decide) rfl (fun ls hl => ?_)
    refine lv_goto (tgt := 7) hx hb dX0_keep_49 (by decide) ?_
    exact hv _ _ ls hP hD hS (lv_sub hl [0, 1, 2] rfl)
set_option maxHeartbeats 4000000 in
set_option maxRecDepth 100000 in
theorem mt_X0_keep (l : Launch) (D : va_G) (cA : Nat → ClassId) (ar : Nat) (ara_masks : Nat) (ar_masks : Nat → Int64) (ar_size : Int) (tt : Nat) (tta_masks : Nat) (tt_masks : Nat → Int64) (tt_size : Int) (h_ar_size : z_in ar_size) (h_tt_size : z_in tt_size) (hp1 : a_ok ar_masks) (hp2 : a_ok tt_masks) : Met l yX0_keep wsX0_keep ({ frames := 1, cells := 0, slots := 0, locals := 21 } : Room) (va_Pc [.ref ar, .ref tt] (z_M0 D cA [(ar, .inr (0, [.ref ara_masks, .int (z_i ar_size)])), (ara_masks, .inl (cA 2, 32, .inr (.inl ar_masks))), (tt, .inr (0, [.ref tta_masks, .int (z_i tt_size)])), (tta_masks, .inl (cA 2, 32, .inr (.inl tt_masks)))])) (va_Qv (fun (u : (Nat → Int64) × Int) => z_in u.2 ∧ (fun (ar_masks' : (Nat → Int64)) (ar_size' : Int) => a_ok ar_masks' ∧ (∀ q : Int, 0 ≤ q → q < 1280 → a_bt ar_masks' q = (a_bt ar_masks q && a_bt tt_masks q)) ∧ ar_size' = a_cn (fun q => a_bt ar_masks q && a_bt tt_masks q) 1280) u.1 u.2) (fun (u : (Nat → Int64) × Int) t => va_P D vwCl [(ar, .inr (0, [.ref ara_masks, .int (z_i u.2)])), (ara_masks, .inl (cA 2, 32, .inr (.inl u.1))), (tt, .inr (0, [.ref tta_masks, .int (z_i tt_size)])), (tta_masks, .inl (cA 2, 32, .inr (.inl tt_masks)))] t.heap) (z_A [(ar, .inr (0, [.ref ara_masks, .int (z_i ar_size)])), (ara_masks, .inl (cA 2, 32, .inr (.inl ar_masks))), (tt, .inr (0, [.ref tta_masks, .int (z_i tt_size)])), (tta_masks, .inl (cA 2, 32, .inr (.inl tt_masks)))])) 0 0 (z_A [(ar, .inr (0, [.ref ara_masks, .int (z_i ar_size)])), (ara_masks, .inl (cA 2, 32, .inr (.inl ar_masks))), (tt, .inr (0, [.ref tta_masks, .int (z_i tt_size)])), (tta_masks, .inl (cA 2, 32, .inr (.inl tt_masks)))]) := by
  refine wk_X0_keep l D cA ar ara_masks ar_masks ar_size tt tta_masks tt_masks tt_size h_ar_size h_tt_size (fun (ar_masks' : (Nat → Int64)) (ar_size' : Int) => a_ok ar_masks' ∧ (∀ q : Int, 0 ≤ q → q < 1280 → a_bt ar_masks' q = (a_bt ar_masks q && a_bt tt_masks q)) ∧ ar_size' = a_cn (fun q => a_bt ar_masks q && a_bt tt_masks q) 1280) ?_
  unfold vc_X0_keep
  intro L hL
  suffices H : ∀ (d k : Nat) (y : Nat → Int64), k + d = 32 → a_ok y → (∀ q : Int, 0 ≤ q → q < 1280 → a_bt y q = if q < 40 * k then (a_bt ar_masks q && a_bt tt_masks q) else a_bt ar_masks q) → L (k : Int) (a_cn (fun q => a_bt ar_masks q && a_bt tt_masks q) (40 * k)) y from H 32 0 _ rfl hp1 (fun q a b => by rw [if_neg (by omega)])
  intro d
  induction d with
  | zero =>
    intro k y hk hy hb
    have hc := a_cn_b (fun q => a_bt ar_masks q && a_bt tt_masks q) (40 * k)
    have e : k = 32 := by omega
    subst e
    exact hL _ _ _ ⟨by omega, by omega⟩ ⟨by omega, by omega⟩ ⟨fun _ => ⟨hy, fun q a b => by rw [hb q a b, if_pos (by omega)], rfl⟩, fun h => absurd h (by omega)⟩
  | succ d ih =>
    intro k y hk hy hb
    have hc := a_cn_b (fun q => a_bt ar_masks q && a_bt tt_masks q) (40 * k)
    refine hL _ _ _ ⟨by omega, by omega⟩ ⟨by omega, by omega⟩ ⟨fun h => absurd h (by omega), fun h => ⟨⟨by omega, h⟩, ?_⟩⟩
    obtain ⟨m, em, hm⟩ := a_nat hy (i := k) (by omega) h
    obtain ⟨t, et, ht⟩ := a_nat hp2 (i := k) (by omega) h
    rw [em, et, z_andl_nat (by omega)]
    have hmt : m &&& t < 1099511627776 := Nat.lt_of_le_of_lt Nat.and_le_left hm
    rintro f rfl
    rw [z_gsl ⟨by omega, by omega⟩ (by omega) (by omega), if_pos rfl, Int.toNat_natCast]
    refine ⟨⟨by omega, by omega⟩, ?_⟩
    rintro r5 h5 rfl
    have hrow := a_cn_row (B := fun q => a_bt ar_masks q && a_bt tt_masks q) (m := m &&& t) (i := k) (fun j hj => by
      have hq := hb ((40 * k + j : Nat) : Int) (by omega) (by omega)
      rw [if_neg (by omega)] at hq
      try dsimp only
      rw [← hq, Nat.testBit_and]
      unfold a_bt
      have e1 : ((40 * k + j : Nat) : Int) / 40 = k := by omega
      have e2 : (((40 * k + j : Nat) : Int) % 40).toNat = j := by omega
      rw [e1, e2, em, et, Int.toNat_natCast, Int.toNat_natCast]) 40 (Nat.le_refl _)
    have hc2 := a_cn_b (fun q => a_bt ar_masks q && a_bt tt_masks q) (40 * (k + 1))
    rw [show 40 * k + 40 = 40 * (k + 1) by omega] at hrow
    refine ⟨⟨by omega, by omega⟩, ?_⟩
    rintro v6 rfl
    rw [← hrow]
    refine ih (k + 1) _ (by omega) (a_ok_s hy hmt (by omega)) (fun q a b => ?_)
    rw [a_bt_s hmt (by omega) a]
    have hq := hb q a b
    by_cases e : q / 40 = k
    · rw [if_pos e, if_pos (by omega)]
      rw [if_neg (by omega)] at hq
      rw [← hq, Nat.testBit_and]
      unfold a_bt
      rw [e, em, et, Int.toNat_natCast, Int.toNat_natCast]
    · rw [if_neg e, hq]
      by_cases e2 : q < 40 * (k : Int)
      · rw [if_pos e2, if_pos (by omega)]
      · rw [if_neg e2, if_neg (by omega)]
def vc_X0_has (ar_masks : Nat → Int64) (i : Int) (j : Int) (Q : Int → Prop) : Prop :=
((i < 0 → Q 0) ∧
(i ≥ 0 → ((i ≥ 32 → Q 0) ∧
(i < 32 → ((j < 0 → Q 0) ∧
(j ≥ 0 → ((j ≥ 40 → Q 0) ∧
(j < 40 → (0 ≤ i ∧ i < 32) ∧ ((z_andl (z_shrl (z_gl ar_masks i) j) 1 ≠ 1 → Q 0) ∧
(z_andl (z_shrl (z_gl ar_masks i) j) 1 = 1 → Q 1))))))))))
set_option maxHeartbeats 4000000 in
set_option maxRecDepth 100000 in
theorem wk_X0_has (l : Launch) (D : va_G) (cA : Nat → ClassId) (ar : Nat) (ara_masks : Nat) (ar_masks : Nat → Int64) (ar_size : Int) (i : Int) (j : Int) (h_ar_size : z_in ar_size) (h_i : z_in i) (h_j : z_in j) (Q : Int → Prop) (hv : vc_X0_has ar_masks i j Q) : Met l yX0_has wsX0_has ({ frames := 0, cells := 0, slots := 0, locals := 0 } : Room) (va_Pc [.ref ar, .int (z_i i), .int (z_i j)] (z_B0 D cA [(ar, .inr (0, [.ref ara_masks, .int (z_i ar_size)])), (ara_masks, .inl (cA 2, 32, .inr (.inl ar_masks)))])) (va_Qi (z_ri Q) (fun _ _ => True) (fun _ => False)) 0 0 (fun _ => False) := by
  unfold vc_X0_has at hv
  refine Met.ofW (cc := cX0_has) (maxL := 3) (ret := (some .boolean)) (by decide +kernel) rfl ?_
  intro p e s m args below meth c s₁ B hml hv0
  obtain ⟨rfl, hK, hP⟩ := hv0
  have hx := B.exec
  have hb := B.bytes
  have hr := B.returns
  have hts := atoms_spec (ws := wsX0_has) B.pre
  have hown : s.vm.findClass RX0 = some m.cls := findClass_of_methodNamed B.named
  have hlocks := B.notSynchronized
  have hS : va_S (fun _ : Nat => False) s.heap s.heap [] := va_S.rf
  have hl := lv_entry ([.ref ar, .int (z_i i), .int (z_i j)]) (n := 3) (Nat.le_of_ble_eq_true rfl)
  rw [lg_entry_eq]
  generalize (lg_sl ([.ref ar, .int (z_i i), .int (z_i j)]) ++ List.replicate (3 - (lg_sl ([.ref ar, .int (z_i i), .int (z_i j)])).length) Slot.unset).toArray = ls at hl ⊢
  have hl : lv_has ls 3 [(0, .ref ar), (1, .int (z_i i)), (2, .int (z_i j))] := hl
  refine lv_iload_n hx hb dX0_has_0 rfl (lv_at hl 1 rfl) ?_
  refine lx_if_lt (tgt := 39) hx hb dX0_has_1 (by decide) h_i (fun hc => ?_) (fun hc => ?_)
  · have hv := hv.1 hc
    refine lv_iconst (v := z_i 0) hx hb dX0_has_39 rfl ?_
    exact W.zret (v := z_i 0) hx hb hr (by decide) (fun t ht hW => ⟨⟨z_i 0, (), rfl, ⟨0, rfl, (show z_in 0 from ⟨by decide, by decide⟩), hv⟩, trivial⟩, hS.F ht⟩) hS.2.2 dX0_has_40
  · have hv := hv.2 hc
    refine lv_iload_n hx hb dX0_has_4 rfl (lv_at hl 1 rfl) ?_
    refine lv_bipush (v := z_i 32) hx hb dX0_has_5 (by decide) ?_
    refine lx_icmp_ge (tgt := 39) hx hb dX0_has_7 (by decide) h_i (show z_in 32 from ⟨by decide, by decide⟩) (fun hc => ?_) (fun hc => ?_)
    · have hv := hv.1 hc
      refine lv_iconst (v := z_i 0) hx hb dX0_has_39 rfl ?_
      exact W.zret (v := z_i 0) hx hb hr (by decide) (fun t ht hW => ⟨⟨z_i 0, (), rfl, ⟨0, rfl, (show z_in 0 from ⟨by decide, by decide⟩), hv⟩, trivial⟩, hS.F ht⟩) hS.2.2 dX0_has_40
    · have hv := hv.2 hc
      refine lv_iload_n hx hb dX0_has_10 rfl (lv_at hl 2 rfl) ?_
      refine lx_if_lt (tgt := 39) hx hb dX0_has_11 (by decide) h_j (fun hc => ?_) (fun hc => ?_)
      · have hv := hv.1 hc
        refine lv_iconst (v := z_i 0) hx hb dX0_has_39 rfl ?_
        exact W.zret (v := z_i 0) hx hb hr (by decide) (fun t ht hW => ⟨⟨z_i 0, (), rfl, ⟨0, rfl, (show z_in 0 from ⟨by decide, by decide⟩), hv⟩, trivial⟩, hS.F ht⟩) hS.2.2 dX0_has_40
      · have hv := hv.2 hc
        refine lv_iload_n hx hb dX0_has_14 rfl (lv_at hl 2 rfl) ?_
        refine lv_bipush (v := z_i 40) hx hb dX0_has_15 (by decide) ?_
        refine lx_icmp_ge (tgt := 39) hx hb dX0_has_17 (by decide) h_j (show z_in 40 from ⟨by decide, by decide⟩) (fun hc => ?_) (fun hc => ?_)
        · have hv := hv.1 hc
          refine lv_iconst (v := z_i 0) hx hb dX0_has_39 rfl ?_
          exact W.zret (v := z_i 0) hx hb hr (by decide) (fun t ht hW => ⟨⟨z_i 0, (), rfl, ⟨0, rfl, (show z_in 0 from ⟨by decide, by decide⟩), hv⟩, trivial⟩, hS.F ht⟩) hS.2.2 dX0_has_40
        · have hv := hv.2 hc
          refine lv_aload_n hx hb dX0_has_20 rfl (lv_at hl 0 rfl) ?_
          refine va_get (D := D) (ci := 0) (v := .ref ara_masks) (C := RX0) (T := TX0) (N := 2) hx hb hts (fun w h => List.mem_cons_of_mem _ (List.mem_append_right _ h)) hown hK hP 0 rfl rfl 0 (by decide) (hts (.fieldLink RX0 9 "ContourSheets$Area" "masks" "[J") (by decide +kernel)) (fun _ h9 => h9) rfl dX0_has_21 ?_
          refine lv_iload_n hx hb dX0_has_24 rfl (lv_at hl 1 rfl) ?_
          obtain ⟨hi1, hv⟩ := hv
          refine lx_lald hx hb hK hP 1 2 rfl rfl (by decide) hi1.1 hi1.2 dX0_has_25 ?_
          refine lv_iload_n hx hb dX0_has_26 rfl (lv_at hl 2 rfl) ?_
          refine lx_lshr hx hb dX0_has_27 ?_
          refine lv_lconst (v := z_l 1) hx hb dX0_has_28 (by decide) ?_
          refine lx_land hx hb dX0_has_29 ?_
          refine lv_lconst (v := z_l 1) hx hb dX0_has_30 (by decide) ?_
          refine lx_lcmp hx hb dX0_has_31 (z_nl_of _) (show z_nl 1 from ⟨by decide, by decide⟩) ?_
          refine lx_if_ne (tgt := 39) hx hb dX0_has_32 (by decide) (z_in_cmp _ _) (fun hc => ?_) (fun hc => ?_)
          · have hv := hv.1 (z_cmp_ne.mp hc)
            refine lv_iconst (v := z_i 0) hx hb dX0_has_39 rfl ?_
            exact W.zret (v := z_i 0) hx hb hr (by decide) (fun t ht hW => ⟨⟨z_i 0, (), rfl, ⟨0, rfl, (show z_in 0 from ⟨by decide, by decide⟩), hv⟩, trivial⟩, hS.F ht⟩) hS.2.2 dX0_has_40
          · have hv := hv.2 (z_cmp_eq.mp hc)
            refine lv_iconst (v := z_i 1) hx hb dX0_has_35 rfl ?_
            refine lv_goto (tgt := 40) hx hb dX0_has_36 (by decide) ?_
            exact W.zret (v := z_i 1) hx hb hr (by decide) (fun t ht hW => ⟨⟨z_i 1, (), rfl, ⟨1, rfl, (show z_in 1 from ⟨by decide, by decide⟩), hv⟩, trivial⟩, hS.F ht⟩) hS.2.2 dX0_has_40
set_option maxHeartbeats 4000000 in
set_option maxRecDepth 100000 in
theorem mt_X0_has (l : Launch) (D : va_G) (cA : Nat → ClassId) (ar : Nat) (ara_masks : Nat) (ar_masks : Nat → Int64) (ar_size : Int) (i : Int) (j : Int) (h_ar_size : z_in ar_size) (h_i : z_in i) (h_j : z_in j) (hp1 : a_ok ar_masks) : Met l yX0_has wsX0_has ({ frames := 0, cells := 0, slots := 0, locals := 0 } : Room) (va_Pc [.ref ar, .int (z_i i), .int (z_i j)] (z_B0 D cA [(ar, .inr (0, [.ref ara_masks, .int (z_i ar_size)])), (ara_masks, .inl (cA 2, 32, .inr (.inl ar_masks)))])) (va_Qi (z_ri (fun (r : Int) => r = z_b (decide (0 ≤ i ∧ i < 32 ∧ 0 ≤ j ∧ j < 40) && a_bt ar_masks (40 * i + j)))) (fun _ _ => True) (fun _ => False)) 0 0 (fun _ => False) := by
  refine wk_X0_has l D cA ar ara_masks ar_masks ar_size i j h_ar_size h_i h_j (fun (r : Int) => r = z_b (decide (0 ≤ i ∧ i < 32 ∧ 0 ≤ j ∧ j < 40) && a_bt ar_masks (40 * i + j))) ?_
  unfold vc_X0_has
  refine ⟨fun h => ?_, fun h => ⟨fun h2 => ?_, fun h2 => ⟨fun h3 => ?_, fun h3 => ⟨fun h4 => ?_, fun h4 => ⟨⟨h, h2⟩, ?_⟩⟩⟩⟩⟩
  · rw [decide_eq_false (by omega)]; rfl
  · rw [decide_eq_false (by omega)]; rfl
  · rw [decide_eq_false (by omega)]; rfl
  · rw [decide_eq_false (by omega)]; rfl
  · rw [decide_eq_true ⟨h, h2, h3, h4⟩, Bool.true_and]
    obtain ⟨m, em, hm⟩ := a_nat hp1 h h2
    have es : z_shrl (m : Int) j = ((m / 2 ^ j.toNat : Nat) : Int) := by
      have := z_shrl_nat (a := m) (k := j.toNat) (by omega) (by omega)
      rwa [Int.toNat_of_nonneg h3] at this
    have hle : m / 2 ^ j.toNat ≤ m := Nat.div_le_self _ _
    have ea : z_andl ((m / 2 ^ j.toNat : Nat) : Int) 1 = ((m / 2 ^ j.toNat % 2 : Nat) : Int) := by
      have := z_andl_nat (a := m / 2 ^ j.toNat) (b := 1) (by omega)
      rw [Nat.and_one_is_mod] at this
      exact this
    have eb : a_bt ar_masks (40 * i + j) = decide (m / 2 ^ j.toNat % 2 = 1) := by
      unfold a_bt
      rw [show (40 * i + j) / 40 = i by omega, show (40 * i + j) % 40 = j by omega, em, Int.toNat_natCast, Nat.testBit_eq_decide_div_mod_eq]
    rw [em, es, ea, eb]
    refine ⟨fun q => ?_, fun q => ?_⟩
    · rw [decide_eq_false (by omega)]; rfl
    · rw [decide_eq_true (by omega)]; rfl
theorem a_covrow {r t : Nat} (hr : r < 1099511627776) (ht : t < 1099511627776) : z_andl (t : Int) (z_xorl (r : Int) (-1)) = 0 ↔ ∀ j : Nat, j < 40 → t.testBit j = true → r.testBit j = true := by
  have e1 : z_l (z_xorl (r : Int) (-1)) = z_l (r : Int) ^^^ z_l (-1) := by unfold z_xorl; exact z_l_of _
  unfold z_andl
  rw [e1]
  have e2 : (z_l (t : Int) &&& (z_l (r : Int) ^^^ z_l (-1))).toInt = 0 ↔ (z_l (t : Int) &&& (z_l (r : Int) ^^^ z_l (-1))).toBitVec = 0#64 := by
    constructor
    · intro h
      have : (z_l (t : Int) &&& (z_l (r : Int) ^^^ z_l (-1))) = 0 := Int64.toInt_inj.mp h
      rw [this]; rfl
    · intro h
      have : (z_l (t : Int) &&& (z_l (r : Int) ^^^ z_l (-1))) = 0 := Int64.toBitVec_inj.mp h
      rw [this]; rfl
  rw [e2, Int64.toBitVec_and, Int64.toBitVec_xor, b_nat, b_nat, show (z_l (-1)).toBitVec = BitVec.allOnes 64 from by decide]
  constructor
  · intro h j hj hb
    have h1 := congrArg (fun v => v.getLsbD j) h
    simp only [BitVec.getLsbD_and, BitVec.getLsbD_xor, BitVec.getLsbD_ofNat, BitVec.getLsbD_allOnes, BitVec.getLsbD_zero] at h1
    rw [hb, decide_eq_true (by omega : j < 64)] at h1
    simpa using h1
  · intro h
    apply BitVec.eq_of_getLsbD_eq
    intro j hj
    simp only [BitVec.getLsbD_and, BitVec.getLsbD_xor, BitVec.getLsbD_ofNat, BitVec.getLsbD_allOnes, BitVec.getLsbD_zero]
    rw [decide_eq_true hj]
    by_cases h40 : j < 40
    · cases ht2 : t.testBit j
      · simp
      · rw [h j h40 ht2]; simp
    · have : t.testBit j = false := Nat.testBit_lt_two_pow (Nat.lt_of_lt_of_le ht (Nat.pow_le_pow_right (n := 2) (by decide) (by omega : 40 ≤ j)))
      rw [this]; simp
def vc_X0_covers (ar_masks : Nat → Int64) (tt_masks : Nat → Int64) (Q : Int → Prop) : Prop :=
(∀ L2 : Int → Prop,
(∀ (x2_2 : Int), z_in x2_2 → ((x2_2 ≥ 32 → Q 1) ∧
(x2_2 < 32 → (0 ≤ x2_2 ∧ x2_2 < 32) ∧ ((z_andl (z_gl tt_masks x2_2) (z_xorl (z_gl ar_masks x2_2) (-1)) = 0 → L2 (x2_2 + 1)) ∧
(z_andl (z_gl tt_masks x2_2) (z_xorl (z_gl ar_masks x2_2) (-1)) ≠ 0 → Q 0)))) → L2 x2_2) →
L2 0)
set_option maxHeartbeats 4000000 in
set_option maxRecDepth 100000 in
theorem wk_X0_covers (l : Launch) (D : va_G) (cA : Nat → ClassId) (ar : Nat) (ara_masks : Nat) (ar_masks : Nat → Int64) (ar_size : Int) (tt : Nat) (tta_masks : Nat) (tt_masks : Nat → Int64) (tt_size : Int) (h_ar_size : z_in ar_size) (h_tt_size : z_in tt_size) (Q : Int → Prop) (hv : vc_X0_covers ar_masks tt_masks Q) : Met l yX0_covers wsX0_covers ({ frames := 0, cells := 0, slots := 0, locals := 0 } : Room) (va_Pc [.ref ar, .ref tt] (z_B0 D cA [(ar, .inr (0, [.ref ara_masks, .int (z_i ar_size)])), (ara_masks, .inl (cA 2, 32, .inr (.inl ar_masks))), (tt, .inr (0, [.ref tta_masks, .int (z_i tt_size)])), (tta_masks, .inl (cA 2, 32, .inr (.inl tt_masks)))])) (va_Qi (z_ri Q) (fun _ _ => True) (fun _ => False)) 0 0 (fun _ => False) := by
  unfold vc_X0_covers at hv
  refine Met.ofW (cc := cX0_covers) (maxL := 3) (ret := (some .boolean)) (by decide +kernel) rfl ?_
  intro p e s m args below meth c s₁ B hml hv0
  obtain ⟨rfl, hK, hP⟩ := hv0
  have hx := B.exec
  have hb := B.bytes
  have hr := B.returns
  have hts := atoms_spec (ws := wsX0_covers) B.pre
  have hown : s.vm.findClass RX0 = some m.cls := findClass_of_methodNamed B.named
  have hlocks := B.notSynchronized
  have hS : va_S (fun _ : Nat => False) s.heap s.heap [] := va_S.rf
  have hl := lv_entry ([.ref ar, .ref tt]) (n := 3) (Nat.le_of_ble_eq_true rfl)
  rw [lg_entry_eq]
  generalize (lg_sl ([.ref ar, .ref tt]) ++ List.replicate (3 - (lg_sl ([.ref ar, .ref tt])).length) Slot.unset).toArray = ls at hl ⊢
  have hl : lv_has ls 3 [(0, .ref ar), (1, .ref tt)] := hl
  refine lv_iconst (v := z_i 0) hx hb dX0_covers_0 rfl ?_
  refine lv_istore_n (lv' := [(2, .int (z_i 0)), (0, .ref ar), (1, .ref tt)]) hx hb dX0_covers_1 rfl hl (by decide) rfl (fun ls hl => ?_)
  refine hv (fun (x2_2 : Int) => ∀ (H : Heap) (locs : List Loc) (ls : Array Slot), va_P D vwCl [(ar, .inr (0, [.ref ara_masks, .int (z_i ar_size)])), (ara_masks, .inl (cA 2, 32, .inr (.inl ar_masks))), (tt, .inr (0, [.ref tta_masks, .int (z_i tt_size)])), (tta_masks, .inl (cA 2, 32, .inr (.inl tt_masks)))] H → va_S (fun _ : Nat => False) s.heap H locs → lv_has ls 3 [(2, .int (z_i x2_2)), (0, .ref ar), (1, .ref tt)] → W p l e _ s m _ below meth c H locs 0 0 _ (F0 m 2 ls [])) ?_ _ _ ls hP hS (lv_sub hl [0, 1, 2] rfl)
  intro x2_2 h_x2_2 hv H locs ls hP hS hl
  refine lv_iload_n hx hb dX0_covers_2 rfl (lv_at hl 0 rfl) ?_
  refine lv_bipush (v := z_i 32) hx hb dX0_covers_3 (by decide) ?_
  refine lx_icmp_ge (tgt := 38) hx hb dX0_covers_5 (by decide) h_x2_2 (show z_in 32 from ⟨by decide, by decide⟩) (fun hc => ?_) (fun hc => ?_)
  · have hv := hv.1 hc
    refine lv_iconst (v := z_i 1) hx hb dX0_covers_38 rfl ?_
    exact W.zret (v := z_i 1) hx hb hr (by decide) (fun t ht hW => ⟨⟨z_i 1, (), rfl, ⟨1, rfl, (show z_in 1 from ⟨by decide, by decide⟩), hv⟩, trivial⟩, hS.F ht⟩) hS.2.2 dX0_covers_39
  · have hv := hv.2 hc
    refine lv_aload_n hx hb dX0_covers_8 rfl (lv_at hl 2 rfl) ?_
    refine va_get (D := D) (ci := 0) (v := .ref tta_masks) (C := RX0) (T := TX0) (N := 2) hx hb hts (fun w h => List.mem_cons_of_mem _ (List.mem_append_right _ h)) hown hK hP 2 rfl rfl 0 (by decide) (hts (.fieldLink RX0 9 "ContourSheets$Area" "masks" "[J") (by decide +kernel)) (fun _ h9 => h9) rfl dX0_covers_9 ?_
    refine lv_iload_n hx hb dX0_covers_12 rfl (lv_at hl 0 rfl) ?_
    obtain ⟨hi1, hv⟩ := hv
    refine lx_lald hx hb hK hP 3 2 rfl rfl (by decide) hi1.1 hi1.2 dX0_covers_13 ?_
    refine lv_aload_n hx hb dX0_covers_14 rfl (lv_at hl 1 rfl) ?_
    refine va_get (D := D) (ci := 0) (v := .ref ara_masks) (C := RX0) (T := TX0) (N := 2) hx hb hts (fun w h => List.mem_cons_of_mem _ (List.mem_append_right _ h)) hown hK hP 0 rfl rfl 0 (by decide) (hts (.fieldLink RX0 9 "ContourSheets$Area" "masks" "[J") (by decide +kernel)) (fun _ h9 => h9) rfl dX0_covers_15 ?_
    refine lv_iload_n hx hb dX0_covers_18 rfl (lv_at hl 0 rfl) ?_
    refine lx_lald hx hb hK hP 1 2 rfl rfl (by decide) hi1.1 hi1.2 dX0_covers_19 ?_
    refine lx_ldc2 (a := (-1)) hx hb hown (hts (.constantLong RX0 63 (-1)) (by decide +kernel)) (by decide) dX0_covers_20 ?_
    refine lx_lxor hx hb dX0_covers_23 ?_
    refine lx_land hx hb dX0_covers_24 ?_
    refine lv_lconst (v := z_l 0) hx hb dX0_covers_25 (by decide) ?_
    refine lx_lcmp hx hb dX0_covers_26 (z_nl_of _) (show z_nl 0 from ⟨by decide, by decide⟩) ?_
    refine lx_if_eq (tgt := 32) hx hb dX0_covers_27 (by decide) (z_in_cmp _ _) (fun hc => ?_) (fun hc => ?_)
    · have hv := hv.1 (z_cmp_eq.mp hc)
      refine lv_iinc (v := z_i (x2_2 + 1)) (lv' := [(2, .int (z_i (x2_2 + 1))), (0, .ref ar), (1, .ref tt)]) hx hb dX0_covers_32 hl (k := 0) rfl (z_i_add _ _) (by decide) rfl (fun ls hl => ?_)
      refine lv_goto (tgt := 2) hx hb dX0_covers_35 (by decide) ?_
      exact hv _ _ ls hP hS (lv_sub hl [0, 1, 2] rfl)
    · have hv := hv.2 (z_cmp_ne.mp hc)
      refine lv_iconst (v := z_i 0) hx hb dX0_covers_30 rfl ?_
      exact W.zret (v := z_i 0) hx hb hr (by decide) (fun t ht hW => ⟨⟨z_i 0, (), rfl, ⟨0, rfl, (show z_in 0 from ⟨by decide, by decide⟩), hv⟩, trivial⟩, hS.F ht⟩) hS.2.2 dX0_covers_31
set_option maxHeartbeats 4000000 in
set_option maxRecDepth 100000 in
theorem mt_X0_covers (l : Launch) (D : va_G) (cA : Nat → ClassId) (ar : Nat) (ara_masks : Nat) (ar_masks : Nat → Int64) (ar_size : Int) (tt : Nat) (tta_masks : Nat) (tt_masks : Nat → Int64) (tt_size : Int) (h_ar_size : z_in ar_size) (h_tt_size : z_in tt_size) (hp1 : a_ok ar_masks) (hp2 : a_ok tt_masks) : Met l yX0_covers wsX0_covers ({ frames := 0, cells := 0, slots := 0, locals := 0 } : Room) (va_Pc [.ref ar, .ref tt] (z_B0 D cA [(ar, .inr (0, [.ref ara_masks, .int (z_i ar_size)])), (ara_masks, .inl (cA 2, 32, .inr (.inl ar_masks))), (tt, .inr (0, [.ref tta_masks, .int (z_i tt_size)])), (tta_masks, .inl (cA 2, 32, .inr (.inl tt_masks)))])) (va_Qi (z_ri (fun (r : Int) => (r = 1 ∧ ∀ q : Int, 0 ≤ q → q < 1280 → a_bt tt_masks q = true → a_bt ar_masks q = true) ∨ (r = 0 ∧ ¬ ∀ q : Int, 0 ≤ q → q < 1280 → a_bt tt_masks q = true → a_bt ar_masks q = true))) (fun _ _ => True) (fun _ => False)) 0 0 (fun _ => False) := by
  refine wk_X0_covers l D cA ar ara_masks ar_masks ar_size tt tta_masks tt_masks tt_size h_ar_size h_tt_size (fun (r : Int) => (r = 1 ∧ ∀ q : Int, 0 ≤ q → q < 1280 → a_bt tt_masks q = true → a_bt ar_masks q = true) ∨ (r = 0 ∧ ¬ ∀ q : Int, 0 ≤ q → q < 1280 → a_bt tt_masks q = true → a_bt ar_masks q = true)) ?_
  unfold vc_X0_covers
  intro L hL
  suffices H : ∀ (d k : Nat), k + d = 32 → (∀ q : Int, 0 ≤ q → q < 40 * k → a_bt tt_masks q = true → a_bt ar_masks q = true) → L (k : Int) from H 32 0 rfl (fun q a b => absurd b (by omega))
  intro d
  induction d with
  | zero =>
    intro k hk hb
    exact hL _ ⟨by omega, by omega⟩ ⟨fun _ => Or.inl ⟨rfl, fun q a b => hb q a (by omega)⟩, fun h => absurd h (by omega)⟩
  | succ d ih =>
    intro k hk hb
    obtain ⟨m, em, hm⟩ := a_nat hp1 (i := k) (by omega) (by omega)
    obtain ⟨t, et, ht⟩ := a_nat hp2 (i := k) (by omega) (by omega)
    have hr := a_covrow hm ht
    have bt : ∀ q : Int, q / 40 = k → a_bt tt_masks q = t.testBit (q % 40).toNat ∧ a_bt ar_masks q = m.testBit (q % 40).toNat := fun q e => by
      unfold a_bt
      rw [e, em, et, Int.toNat_natCast, Int.toNat_natCast]
      exact ⟨rfl, rfl⟩
    refine hL _ ⟨by omega, by omega⟩ ⟨fun h => absurd h (by omega), fun h => ⟨⟨by omega, h⟩, ?_⟩⟩
    rw [em, et]
    refine ⟨fun q => ih (k + 1) (by omega) (fun p a b c => ?_), fun q => Or.inr ⟨rfl, fun hall => q (hr.mpr (fun j hj hb2 => ?_))⟩⟩
    · by_cases e : p / 40 = k
      · have b2 := bt p e
        rw [b2.1] at c
        rw [b2.2]
        exact hr.mp q _ (by omega) c
      · exact hb p a (by omega) c
    · have e : ((40 * k + j : Nat) : Int) / 40 = k := by omega
      have b2 := bt _ e
      have e2 : (((40 * k + j : Nat) : Int) % 40).toNat = j := by omega
      rw [e2] at b2
      rw [← b2.2]
      exact hall _ (by omega) (by omega) (by rw [b2.1]; exact hb2)
def vc_X0_takeAll (g_units : Nat → Int32) (Q : (Nat → Int64) → Prop) : Prop :=
(∀ (c1 : Nat → Int64), (∀ q : Int, 0 ≤ q → q < 32 → z_gl c1 q = (0 : Int)) → (∀ L10 : Int → (Nat → Int64) → Prop,
(∀ (x10_2 : Int) (y10_ara_masks : Nat → Int64), z_in x10_2 → ((x10_2 ≥ 1280 → Q y10_ara_masks) ∧
(x10_2 < 1280 → (∀ (r2 : Int), z_in r2 → (r2 = z_b (g_th g_units x10_2)) → ((r2 = 0 → L10 (x10_2 + 1) y10_ara_masks) ∧
(r2 ≠ 0 → (0 ≤ x10_2.tdiv 40 ∧ x10_2.tdiv 40 < 32) ∧ (∀ f4 : Nat → Int64, f4 = z_sl y10_ara_masks (x10_2.tdiv 40) (z_orl (z_gl y10_ara_masks (x10_2.tdiv 40)) (z_shll 1 (x10_2.tmod 40))) → L10 (x10_2 + 1) f4)))))) → L10 x10_2 y10_ara_masks) →
L10 0 c1))
set_option maxHeartbeats 4000000 in
set_option maxRecDepth 100000 in
theorem wk_X0_takeAll (l : Launch) (D : va_G) (cA : Nat → ClassId) (ar : Nat) (ara_masks : Nat) (ar_masks : Nat → Int64) (ar_size : Int) (g : Nat) (ga_units : Nat) (g_units : Nat → Int32) (ga_lengths : Nat) (g_lengths : Nat → Int32) (ga_offsets : Nat) (g_offsets : Nat → Int32) (g_step : Int) (h_ar_size : z_in ar_size) (h_g_step : z_in g_step) (Q : (Nat → Int64) → Prop) (hv : vc_X0_takeAll g_units Q) : Met l yX0_takeAll wsX0_takeAll ({ frames := 1, cells := 0, slots := 0, locals := 24 } : Room) (va_Pc [.ref ar, .ref g] (z_M0 D cA [(ar, .inr (0, [.ref ara_masks, .int (z_i ar_size)])), (ara_masks, .inl (cA 2, 32, .inr (.inl ar_masks))), (g, .inr (1, [.ref ga_units, .ref ga_lengths, .ref ga_offsets, .int (z_i g_step)])), (ga_units, .inl (cA 1, 1280, .inl g_units)), (ga_lengths, .inl (cA 1, 32, .inl g_lengths)), (ga_offsets, .inl (cA 1, 32, .inl g_offsets))])) (va_Qv (fun (u : (Nat → Int64)) => Q u) (fun (u : (Nat → Int64)) t => va_P D vwCl [(ar, .inr (0, [.ref ara_masks, .int (z_i ar_size)])), (ara_masks, .inl (cA 2, 32, .inr (.inl u))), (g, .inr (1, [.ref ga_units, .ref ga_lengths, .ref ga_offsets, .int (z_i g_step)])), (ga_units, .inl (cA 1, 1280, .inl g_units)), (ga_lengths, .inl (cA 1, 32, .inl g_lengths)), (ga_offsets, .inl (cA 1, 32, .inl g_offsets))] t.heap) (z_A [(ar, .inr (0, [.ref ara_masks, .int (z_i ar_size)])), (ara_masks, .inl (cA 2, 32, .inr (.inl ar_masks))), (g, .inr (1, [.ref ga_units, .ref ga_lengths, .ref ga_offsets, .int (z_i g_step)])), (ga_units, .inl (cA 1, 1280, .inl g_units)), (ga_lengths, .inl (cA 1, 32, .inl g_lengths)), (ga_offsets, .inl (cA 1, 32, .inl g_offsets))])) 0 0 (z_A [(ar, .inr (0, [.ref ara_masks, .int (z_i ar_size)])), (ara_masks, .inl (cA 2, 32, .inr (.inl ar_masks))), (g, .inr (1, [.ref ga_units, .ref ga_lengths, .ref ga_offsets, .int (z_i g_step)])), (ga_units, .inl (cA 1, 1280, .inl g_units)), (ga_lengths, .inl (cA 1, 32, .inl g_lengths)), (ga_offsets, .inl (cA 1, 32, .inl g_offsets))]) := by
  unfold vc_X0_takeAll at hv
  refine Met.ofW (cc := cX0_takeAll) (maxL := 3) (ret := none) (by decide +kernel) rfl ?_
  intro p e s m args below meth c s₁ B hml hv0
  obtain ⟨rfl, hK, hP, hD0⟩ := hv0
  have hx := B.exec
  have hb := B.bytes
  have hr := B.returns
  have hts := atoms_spec (ws := wsX0_takeAll) B.pre
  have hown : s.vm.findClass RX0 = some m.cls := findClass_of_methodNamed B.named
  have hlocks := B.notSynchronized
  have hD := z_D_self hD0
  generalize hAe : z_A [(ar, .inr (0, [.ref ara_masks, .int (z_i ar_size)])), (ara_masks, .inl (cA 2, 32, .inr (.inl ar_masks))), (g, .inr (1, [.ref ga_units, .ref ga_lengths, .ref ga_offsets, .int (z_i g_step)])), (ga_units, .inl (cA 1, 1280, .inl g_units)), (ga_lengths, .inl (cA 1, 32, .inl g_lengths)), (ga_offsets, .inl (cA 1, 32, .inl g_offsets))] = A at *
  have hS : va_S A s.heap s.heap [] := va_S.rf
  have hl := lv_entry ([.ref ar, .ref g]) (n := 3) (Nat.le_of_ble_eq_true rfl)
  rw [lg_entry_eq]
  generalize (lg_sl ([.ref ar, .ref g]) ++ List.replicate (3 - (lg_sl ([.ref ar, .ref g])).length) Slot.unset).toArray = ls at hl ⊢
  have hl : lv_has ls 3 [(0, .ref ar), (1, .ref g)] := hl
  refine lv_aload_n hx hb dX0_takeAll_0 rfl (lv_at hl 0 rfl) ?_
  refine va_get (D := D) (ci := 0) (v := .ref ara_masks) (C := RX0) (T := TX0) (N := 2) hx hb hts (fun w h => List.mem_cons_of_mem _ (List.mem_append_left _ (List.mem_append_right _ h))) hown hK hP 0 rfl rfl 0 (by decide) (hts (.fieldLink RX0 9 "ContourSheets$Area" "masks" "[J") (by decide +kernel)) (fun _ h9 => h9) rfl dX0_takeAll_1 ?_
  refine lv_lconst (v := z_l 0) hx hb dX0_takeAll_4 (by decide) ?_
  have hFc := z_fr (A := A) (wc := [(ara_masks, .inl (cA 2, 32, .inr (.inl ar_masks)))]) hD [1] rfl
  refine va_callv (va_runS (As := [.ref ara_masks, .long (z_l 0)]) (rest := []) ⟨hx, hb, hml, hown, hts⟩ (mt_J7_fill_d0a16_l l D cA ara_masks ar_masks 0 (show z_nl 0 from ⟨by decide, by decide⟩)) (va_cwS 2 hts gX0_takeAll_J7_fill_d0a16 rfl rfl rfl (by decide +kernel) ⟨Nat.le_of_ble_eq_true rfl, Nat.le_of_ble_eq_true rfl⟩) ⟨z_blm0, fun U hU hW => ⟨rfl, z_m0 hK (hP.sub (ws' := [(ara_masks, .inl (cA 2, 32, .inr (.inl ar_masks)))]) [1] rfl) (hD.sub (ws' := [(ara_masks, .inl (cA 2, 32, .inr (.inl ar_masks)))]) [1] (by decide) rfl) hU hW⟩⟩ rfl rfl hl.1 rfl (lv_room (Nat.le_of_ble_eq_true rfl)) dX0_takeAll_5 ⟨Nat.zero_le _, Nat.zero_le _⟩) hS (fun q _ h => hFc q h) hFc (fun u t H locs ht hvm hw hB hz1 hk1 hS => ?_)
  obtain ⟨c1, rfl⟩ : ∃ z, z = u := ⟨_, rfl⟩
  rw [ht] at hB
  have hP := z_join2 (wc := [(ara_masks, .inl (cA 2, 32, .inr (.inl ar_masks)))]) (w1 := [(ara_masks, .inl (cA 2, 32, .inr (.inl c1)))]) hP hD [1] [0, 1] rfl rfl rfl hk1 hB
  have hP : va_P D vwCl [(ar, .inr (0, [.ref ara_masks, .int (z_i ar_size)])), (ara_masks, .inl (cA 2, 32, .inr (.inl c1))), (g, .inr (1, [.ref ga_units, .ref ga_lengths, .ref ga_offsets, .int (z_i g_step)])), (ga_units, .inl (cA 1, 1280, .inl g_units)), (ga_lengths, .inl (cA 1, 32, .inl g_lengths)), (ga_offsets, .inl (cA 1, 32, .inl g_offsets))] H := hP
  have hD : va_D A [(ar, .inr (0, [.ref ara_masks, .int (z_i ar_size)])), (ara_masks, .inl (cA 2, 32, .inr (.inl c1))), (g, .inr (1, [.ref ga_units, .ref ga_lengths, .ref ga_offsets, .int (z_i g_step)])), (ga_units, .inl (cA 1, 1280, .inl g_units)), (ga_lengths, .inl (cA 1, 32, .inl g_lengths)), (ga_offsets, .inl (cA 1, 32, .inl g_offsets))] := z_D_addr hD rfl
  have hv := hv c1 hw
  refine lv_iconst (v := z_i 0) hx hb dX0_takeAll_8 rfl ?_
  refine lv_istore_n (lv' := [(2, .int (z_i 0)), (0, .ref ar), (1, .ref g)]) hx hb dX0_takeAll_9 rfl hl (by decide) rfl (fun ls hl => ?_)
  refine hv (fun (x10_2 : Int) (y10_ara_masks : Nat → Int64) => ∀ (H : Heap) (locs : List Loc) (ls : Array Slot), va_P D vwCl [(ar, .inr (0, [.ref ara_masks, .int (z_i ar_size)])), (ara_masks, .inl (cA 2, 32, .inr (.inl y10_ara_masks))), (g, .inr (1, [.ref ga_units, .ref ga_lengths, .ref ga_offsets, .int (z_i g_step)])), (ga_units, .inl (cA 1, 1280, .inl g_units)), (ga_lengths, .inl (cA 1, 32, .inl g_lengths)), (ga_offsets, .inl (cA 1, 32, .inl g_offsets))] H → va_D A [(ar, .inr (0, [.ref ara_masks, .int (z_i ar_size)])), (ara_masks, .inl (cA 2, 32, .inr (.inl y10_ara_masks))), (g, .inr (1, [.ref ga_units, .ref ga_lengths, .ref ga_offsets, .int (z_i g_step)])), (ga_units, .inl (cA 1, 1280, .inl g_units)), (ga_lengths, .inl (cA 1, 32, .inl g_lengths)), (ga_offsets, .inl (cA 1, 32, .inl g_offsets))] → va_S A s.heap H locs → lv_has ls 3 [(2, .int (z_i x10_2)), (0, .ref ar), (1, .ref g)] → W p l e _ s m _ below meth c H locs 0 0 _ (F0 m 10 ls [])) ?_ _ _ ls hP hD hS (lv_sub hl [0, 1, 2] rfl)
  intro x10_2 y10_ara_masks h_x10_2 hv H locs ls hP hD hS hl
  refine lv_iload_n hx hb dX0_takeAll_10 rfl (lv_at hl 0 rfl) ?_
  refine lv_sipush (v := z_i 1280) hx hb dX0_takeAll_11 (by decide) ?_
  refine lx_icmp_ge (tgt := 49) hx hb dX0_takeAll_14 (by decide) h_x10_2 (show z_in 1280 from ⟨by decide, by decide⟩) (fun hc => ?_) (fun hc => ?_)
  · have hv := hv.1 hc
    exact W.vret hx hb hr (fun t ht hW => ⟨⟨(y10_ara_masks), rfl, hv, z_pt hP ht⟩, hS.F ht⟩) hS.2.2 dX0_takeAll_49
  · have hv := hv.2 hc
    refine lv_aload_n hx hb dX0_takeAll_17 rfl (lv_at hl 2 rfl) ?_
    refine lv_iload_n hx hb dX0_takeAll_18 rfl (lv_at hl 0 rfl) ?_
    refine va_calli (va_runV (As := [.int (z_i x10_2)]) (rest := []) ⟨hx, hb, hml, hown, hts⟩ (mt_X2_isThere l D cA g ga_units g_units ga_lengths g_lengths ga_offsets g_offsets g_step x10_2 h_g_step h_x10_2) (cwV 1 hts gX0_takeAll_X2_isThere rfl rfl rfl (by decide +kernel) ⟨Nat.le_of_ble_eq_true rfl, Nat.le_of_ble_eq_true rfl⟩) ⟨z_bl0, va_recv hK hP (ci := 1) (q0 := 2) rfl rfl, fun U hU hW => ⟨rfl, z_b0 hK (hP.sub (ws' := [(g, .inr (1, [.ref ga_units, .ref ga_lengths, .ref ga_offsets, .int (z_i g_step)])), (ga_units, .inl (cA 1, 1280, .inl g_units)), (ga_lengths, .inl (cA 1, 32, .inl g_lengths)), (ga_offsets, .inl (cA 1, 32, .inl g_offsets))]) [2, 3, 4, 5] rfl) hU hW⟩⟩ rfl rfl hl.1 rfl (lv_room (Nat.le_of_ble_eq_true rfl)) dX0_takeAll_19 ⟨Nat.zero_le _, Nat.zero_le _⟩) hS (fun q _ h => h.elim) (fun q h => h.elim) (fun r0 u t H locs ht hvm hw hB hz1 hk1 hS => ?_)
    obtain ⟨r2, rfl, h_r2, hw⟩ := hw
    have hP := z_P_all hP hk1
    have hv := hv r2 h_r2 hw
    refine lx_if_eq (tgt := 43) hx hb dX0_takeAll_22 (by decide) h_r2 (fun hc => ?_) (fun hc => ?_)
    · have hv := hv.1 hc
      refine lv_iinc (v := z_i (x10_2 + 1)) (lv' := [(2, .int (z_i (x10_2 + 1))), (0, .ref ar), (1, .ref g)]) hx hb dX0_takeAll_43 hl (k := 0) rfl (z_i_add _ _) (by decide) rfl (fun ls hl => ?_)
      refine lv_goto (tgt := 10) hx hb dX0_takeAll_46 (by decide) ?_
      exact hv _ _ ls hP hD hS (lv_sub hl [0, 1, 2] rfl)
    · have hv := hv.2 hc
      refine lv_aload_n hx hb dX0_takeAll_25 rfl (lv_at hl 1 rfl) ?_
      refine va_get (D := D) (ci := 0) (v := .ref ara_masks) (C := RX0) (T := TX0) (N := 2) hx hb hts (fun w h => List.mem_cons_of_mem _ (List.mem_append_left _ (List.mem_append_right _ h))) hown hK hP 0 rfl rfl 0 (by decide) (hts (.fieldLink RX0 9 "ContourSheets$Area" "masks" "[J") (by decide +kernel)) (fun _ h9 => h9) rfl dX0_takeAll_26 ?_
      refine lv_iload_n hx hb dX0_takeAll_29 rfl (lv_at hl 0 rfl) ?_
      refine lv_bipush (v := z_i 40) hx hb dX0_takeAll_30 (by decide) ?_
      refine lx_idiv hx hb dX0_takeAll_32 h_x10_2 (show z_in 40 from ⟨by decide, by decide⟩) (by decide) ?_
      refine lv_dup2_11 hx hb dX0_takeAll_33 rfl rfl ?_
      obtain ⟨hi3, hv⟩ := hv
      refine lx_lald hx hb hK hP 1 2 rfl rfl (by decide) hi3.1 hi3.2 dX0_takeAll_34 ?_
      refine lv_lconst (v := z_l 1) hx hb dX0_takeAll_35 (by decide) ?_
      refine lv_iload_n hx hb dX0_takeAll_36 rfl (lv_at hl 0 rfl) ?_
      refine lv_bipush (v := z_i 40) hx hb dX0_takeAll_37 (by decide) ?_
      refine lx_irem hx hb dX0_takeAll_39 h_x10_2 (show z_in 40 from ⟨by decide, by decide⟩) (by decide) ?_
      refine lx_lshl hx hb dX0_takeAll_40 ?_
      refine lx_lor hx hb dX0_takeAll_41 ?_
      refine lx_last hx hb hK hP hD hS 1 2 rfl rfl (by decide) hi3.1 hi3.2 dX0_takeAll_42 (fun H locs hP hD hS => ?_)
      obtain ⟨f4, hy5⟩ : ∃ y : Nat → Int64, y = z_sl y10_ara_masks (x10_2.tdiv 40) (z_orl (z_gl y10_ara_masks (x10_2.tdiv 40)) (z_shll 1 (x10_2.tmod 40))) := ⟨_, rfl⟩
      have hv := hv f4 hy5
      have hP : va_P D vwCl [(ar, .inr (0, [.ref ara_masks, .int (z_i ar_size)])), (ara_masks, .inl (cA 2, 32, .inr (.inl f4))), (g, .inr (1, [.ref ga_units, .ref ga_lengths, .ref ga_offsets, .int (z_i g_step)])), (ga_units, .inl (cA 1, 1280, .inl g_units)), (ga_lengths, .inl (cA 1, 32, .inl g_lengths)), (ga_offsets, .inl (cA 1, 32, .inl g_offsets))] H := by rw [hy5]; exact hP
      have hD : va_D A [(ar, .inr (0, [.ref ara_masks, .int (z_i ar_size)])), (ara_masks, .inl (cA 2, 32, .inr (.inl f4))), (g, .inr (1, [.ref ga_units, .ref ga_lengths, .ref ga_offsets, .int (z_i g_step)])), (ga_units, .inl (cA 1, 1280, .inl g_units)), (ga_lengths, .inl (cA 1, 32, .inl g_lengths)), (ga_offsets, .inl (cA 1, 32, .inl g_offsets))] := by rw [hy5]; exact hD
      refine lv_iinc (v := z_i (x10_2 + 1)) (lv' := [(2, .int (z_i (x10_2 + 1))), (0, .ref ar), (1, .ref g)]) hx hb dX0_takeAll_43 hl (k := 0) rfl (z_i_add _ _) (by decide) rfl (fun ls hl => ?_)
      refine lv_goto (tgt := 10) hx hb dX0_takeAll_46 (by decide) ?_
      exact hv _ _ ls hP hD hS (lv_sub hl [0, 1, 2] rfl)
set_option maxHeartbeats 4000000 in
set_option maxRecDepth 100000 in
theorem mt_X0_takeAll (l : Launch) (D : va_G) (cA : Nat → ClassId) (ar : Nat) (ara_masks : Nat) (ar_masks : Nat → Int64) (ar_size : Int) (g : Nat) (ga_units : Nat) (g_units : Nat → Int32) (ga_lengths : Nat) (g_lengths : Nat → Int32) (ga_offsets : Nat) (g_offsets : Nat → Int32) (g_step : Int) (h_ar_size : z_in ar_size) (h_g_step : z_in g_step)  : Met l yX0_takeAll wsX0_takeAll ({ frames := 1, cells := 0, slots := 0, locals := 24 } : Room) (va_Pc [.ref ar, .ref g] (z_M0 D cA [(ar, .inr (0, [.ref ara_masks, .int (z_i ar_size)])), (ara_masks, .inl (cA 2, 32, .inr (.inl ar_masks))), (g, .inr (1, [.ref ga_units, .ref ga_lengths, .ref ga_offsets, .int (z_i g_step)])), (ga_units, .inl (cA 1, 1280, .inl g_units)), (ga_lengths, .inl (cA 1, 32, .inl g_lengths)), (ga_offsets, .inl (cA 1, 32, .inl g_offsets))])) (va_Qv (fun (u : (Nat → Int64)) => (fun (ar_masks' : (Nat → Int64)) => a_ok ar_masks' ∧ ∀ q : Int, 0 ≤ q → q < 1280 → a_bt ar_masks' q = g_th g_units q) u) (fun (u : (Nat → Int64)) t => va_P D vwCl [(ar, .inr (0, [.ref ara_masks, .int (z_i ar_size)])), (ara_masks, .inl (cA 2, 32, .inr (.inl u))), (g, .inr (1, [.ref ga_units, .ref ga_lengths, .ref ga_offsets, .int (z_i g_step)])), (ga_units, .inl (cA 1, 1280, .inl g_units)), (ga_lengths, .inl (cA 1, 32, .inl g_lengths)), (ga_offsets, .inl (cA 1, 32, .inl g_offsets))] t.heap) (z_A [(ar, .inr (0, [.ref ara_masks, .int (z_i ar_size)])), (ara_masks, .inl (cA 2, 32, .inr (.inl ar_masks))), (g, .inr (1, [.ref ga_units, .ref ga_lengths, .ref ga_offsets, .int (z_i g_step)])), (ga_units, .inl (cA 1, 1280, .inl g_units)), (ga_lengths, .inl (cA 1, 32, .inl g_lengths)), (ga_offsets, .inl (cA 1, 32, .inl g_offsets))])) 0 0 (z_A [(ar, .inr (0, [.ref ara_masks, .int (z_i ar_size)])), (ara_masks, .inl (cA 2, 32, .inr (.inl ar_masks))), (g, .inr (1, [.ref ga_units, .ref ga_lengths, .ref ga_offsets, .int (z_i g_step)])), (ga_units, .inl (cA 1, 1280, .inl g_units)), (ga_lengths, .inl (cA 1, 32, .inl g_lengths)), (ga_offsets, .inl (cA 1, 32, .inl g_offsets))]) := by
  refine wk_X0_takeAll l D cA ar ara_masks ar_masks ar_size g ga_units g_units ga_lengths g_lengths ga_offsets g_offsets g_step h_ar_size h_g_step (fun (ar_masks' : (Nat → Int64)) => a_ok ar_masks' ∧ ∀ q : Int, 0 ≤ q → q < 1280 → a_bt ar_masks' q = g_th g_units q) ?_
  unfold vc_X0_takeAll
  intro c1 hc1
  intro L hL
  have ok0 : a_ok c1 := fun i a b => by rw [hc1 i a b]; decide
  suffices H : ∀ (d k : Nat) (y : Nat → Int64), k + d = 1280 → a_ok y → (∀ q : Int, 0 ≤ q → q < 1280 → a_bt y q = (decide (q < k) && g_th g_units q)) → L (k : Int) y from H 1280 0 _ rfl ok0 (fun q a b => by unfold a_bt; rw [hc1 _ (by omega) (by omega), decide_eq_false (by omega)]; simp)
  intro d
  induction d with
  | zero =>
    intro k y hk hy hb
    exact hL _ _ ⟨by omega, by omega⟩ ⟨fun _ => ⟨hy, fun q a b => by rw [hb q a b, decide_eq_true (by omega)]; simp⟩, fun h => absurd h (by omega)⟩
  | succ d ih =>
    intro k y hk hy hb
    refine hL _ _ ⟨by omega, by omega⟩ ⟨fun h => absurd h (by omega), fun h => ?_⟩
    rintro r2 h2 rfl
    rw [Int.tdiv_eq_ediv_of_nonneg (by omega), Int.tmod_eq_emod_of_nonneg (by omega)]
    refine ⟨fun q => ?_, fun q => ⟨⟨by omega, by omega⟩, ?_⟩⟩
    · have hf : g_th g_units k = false := by
        cases hc : g_th g_units k
        · rfl
        · rw [hc] at q; exact absurd q (by decide)
      refine ih (k + 1) y (by omega) hy (fun p a b => ?_)
      rw [hb p a b]
      by_cases e : p = k
      · rw [e, hf]; simp
      · congr 1
        apply decide_eq_decide.mpr
        omega
    · have hf : g_th g_units k = true := by
        cases hc : g_th g_units k
        · rw [hc] at q; exact absurd rfl q
        · rfl
      obtain ⟨m, em, hm⟩ := a_nat hy (i := (k : Int) / 40) (by omega) (by omega)
      have es := a_shl1 ⟨((k : Int) % 40).toNat, by omega⟩
      have hk40 : (0 : Int) ≤ (k : Int) % 40 := by omega
      rw [show (((⟨((k : Int) % 40).toNat, by omega⟩ : Fin 40).val : Nat) : Int) = (k : Int) % 40 from Int.toNat_of_nonneg hk40] at es
      dsimp only at es
      have h40 : 2 ^ ((k : Int) % 40).toNat < 1099511627776 := Nat.pow_lt_pow_right (a := 2) (by decide) (by omega : ((k : Int) % 40).toNat < 40)
      rw [em, es, z_orl_nat (by omega) (by omega)]
      have ho : m ||| 2 ^ ((k : Int) % 40).toNat < 1099511627776 := Nat.or_lt_two_pow (n := 40) hm h40
      rintro f rfl
      refine ih (k + 1) _ (by omega) (a_ok_s hy ho (by omega)) (fun p a b => ?_)
      rw [a_bt_s ho (by omega) a]
      have hq := hb p a b
      by_cases e : p / 40 = (k : Int) / 40
      · rw [if_pos e, Nat.testBit_or, Nat.testBit_two_pow]
        have e2 : m.testBit (p % 40).toNat = a_bt y p := by unfold a_bt; rw [e, em, Int.toNat_natCast]
        rw [e2, hq]
        by_cases e3 : p = k
        · rw [e3, hf, decide_eq_true (by omega : (k : Int) < ((k + 1 : Nat) : Int))]
          simp
        · rw [decide_eq_false (by omega : ¬ ((k : Int) % 40).toNat = (p % 40).toNat), Bool.or_false]
          congr 1
          apply decide_eq_decide.mpr
          omega
      · rw [if_neg e, hq]
        congr 1
        apply decide_eq_decide.mpr
        omega
