/-! bits of small numbers; floors; the neighbours that are above; kinds; whole cells; means; the way down -/
def j_b1 (i : Int) : Int := i - (z_and (z_ushr i 1) 1431655765)
def j_b2 (i : Int) : Int := (z_and (j_b1 i) 858993459) + (z_and (z_ushr (j_b1 i) 2) 858993459)
def j_b3 (i : Int) : Int := z_and (j_b2 i + (z_ushr (j_b2 i) 4)) 252645135
def j_b4 (i : Int) : Int := j_b3 i + (z_ushr (j_b3 i) 8)
def j_b5 (i : Int) : Int := j_b4 i + (z_ushr (j_b4 i) 16)
def j_bc (i : Int) : Int := z_and (j_b5 i) 63
theorem j_b_ok : ∀ k : Fin 256, z_in (j_b1 (k.val : Int)) ∧ z_in (j_b2 (k.val : Int)) ∧ z_in (j_b4 (k.val : Int)) ∧ z_in (j_b5 (k.val : Int)) := by decide +kernel
theorem z_fin {i : Int} {N : Nat} {P : Int → Prop} (h : ∀ k : Fin N, P (k.val : Int)) (h0 : 0 ≤ i) (h1 : i < N) : P i := by
  have := h ⟨i.toNat, by omega⟩
  rwa [show ((⟨i.toNat, by omega⟩ : Fin N).val : Int) = i from Int.toNat_of_nonneg h0] at this
theorem z_xorl_neg {x y : Int} (hx : z_nl x) (hy : z_nl y) (h : 0 ≤ y) : z_xorl x y < 0 ↔ x < 0 := by
  have e1 : ∀ v : Int64, v.toInt < 0 ↔ v.toBitVec.msb = true := fun v => by rw [BitVec.msb_eq_toInt]; exact decide_eq_true_iff.symm
  unfold z_xorl
  rw [e1, Int64.toBitVec_xor, BitVec.msb_xor]
  have h2 : (z_l y).toBitVec.msb = false := by
    cases hh : (z_l y).toBitVec.msb
    · rfl
    · have := (e1 (z_l y)).mpr hh
      rw [z_l_to hy] at this
      omega
  have h3 := e1 (z_l x)
  rw [z_l_to hx] at h3
  rw [h2, h3]
  simp
theorem z_andl_1 {q : Int} (h : z_nl q) : z_andl q 1 = q % 2 := by
  have e : ∀ v : Int64, (v &&& 1).toInt = v.toInt % 2 := fun v => by
    have h1 : (v &&& 1).toBitVec = v.toBitVec &&& 1#64 := rfl
    have h2 : (v.toBitVec &&& 1#64).toNat = v.toBitVec.toNat % 2 := by
      rw [BitVec.toNat_and]
      exact Nat.and_one_is_mod _
    have h3 : v.toInt = v.toBitVec.toInt := rfl
    have h4 : (v &&& 1).toInt = (v.toBitVec &&& 1#64).toInt := rfl
    rw [h4, h3, BitVec.toInt_eq_toNat_cond, BitVec.toInt_eq_toNat_cond, h2]
    have := v.toBitVec.isLt
    split <;> split <;> omega
  unfold z_andl
  rw [show z_l 1 = 1 from rfl, e, z_l_to h]
def vc_J6_bitCount_0f7a4 (i : Int) (Q : Int → Prop) : Prop :=
z_in (i - (z_and (z_ushr i 1) 1431655765)) ∧ (∀ v1 : Int, v1 = i - (z_and (z_ushr i 1) 1431655765) → z_in ((z_and v1 858993459) + (z_and (z_ushr v1 2) 858993459)) ∧ (∀ v4 : Int, v4 = (z_and v1 858993459) + (z_and (z_ushr v1 2) 858993459) → (∀ v7 : Int, v7 = z_and (v4 + (z_ushr v4 4)) 252645135 → z_in (v7 + (z_ushr v7 8)) ∧ (∀ v9 : Int, v9 = v7 + (z_ushr v7 8) → z_in (v9 + (z_ushr v9 16)) ∧ (∀ v12 : Int, v12 = v9 + (z_ushr v9 16) → Q (z_and v12 63))))))
set_option maxHeartbeats 4000000 in
set_option maxRecDepth 100000 in
theorem wk_J6_bitCount_0f7a4 (l : Launch) (D : va_G) (cA : Nat → ClassId) (i : Int) (h_i : z_in i) (Q : Int → Prop) (hv : vc_J6_bitCount_0f7a4 i Q) : Met l yJ6_bitCount_0f7a4 wsJ6_bitCount_0f7a4 ({ frames := 0, cells := 0, slots := 0, locals := 0 } : Room) (va_Pc [.int (z_i i)] (z_B0 D cA [])) (va_Qi (z_ri Q) (fun _ _ => True) (fun _ => False)) 0 0 (fun _ => False) := by
  unfold vc_J6_bitCount_0f7a4 at hv
  refine Met.ofW (cc := cJ6_bitCount_0f7a4) (maxL := 1) (ret := (some .int)) (by decide +kernel) rfl ?_
  intro p e s m args below meth c s₁ B hml hv0
  obtain ⟨rfl, hK, hP⟩ := hv0
  have hx := B.exec
  have hb := B.bytes
  have hr := B.returns
  have hts := atoms_spec (ws := wsJ6_bitCount_0f7a4) B.pre
  have hown : s.vm.findClass RJ6 = some m.cls := findClass_of_methodNamed B.named
  have hlocks := B.notSynchronized
  have hS : va_S (fun _ : Nat => False) s.heap s.heap [] := va_S.rf
  have hl := lv_entry ([.int (z_i i)]) (n := 1) (Nat.le_of_ble_eq_true rfl)
  rw [lg_entry_eq]
  generalize (lg_sl ([.int (z_i i)]) ++ List.replicate (1 - (lg_sl ([.int (z_i i)])).length) Slot.unset).toArray = ls at hl ⊢
  have hl : lv_has ls 1 [(0, .int (z_i i))] := hl
  refine lv_iload_n hx hb dJ6_bitCount_0f7a4_0 rfl (lv_at hl 0 rfl) ?_
  refine lv_iload_n hx hb dJ6_bitCount_0f7a4_1 rfl (lv_at hl 0 rfl) ?_
  refine lv_iconst (v := z_i 1) hx hb dJ6_bitCount_0f7a4_2 rfl ?_
  refine lx_iushr hx hb dJ6_bitCount_0f7a4_3 ?_
  refine lx_ldc_w (a := 1431655765) hx hb hown (hts (.constant RJ6 265 (1431655765)) (by decide +kernel)) (by decide) dJ6_bitCount_0f7a4_4 ?_
  refine lx_iand hx hb dJ6_bitCount_0f7a4_7 ?_
  refine lx_isub hx hb dJ6_bitCount_0f7a4_8 ?_
  obtain ⟨hr2, hv⟩ := hv
  refine lx_topi (fun v1 hy3 => ?_)
  have hv := hv v1 hy3
  have h_v1 : z_in v1 := by rw [hy3]; exact hr2
  refine lv_istore_n (lv' := [(0, .int (z_i v1))]) hx hb dJ6_bitCount_0f7a4_9 rfl hl (by decide) rfl (fun ls hl => ?_)
  refine lv_iload_n hx hb dJ6_bitCount_0f7a4_10 rfl (lv_at hl 0 rfl) ?_
  refine lx_ldc_w (a := 858993459) hx hb hown (hts (.constant RJ6 266 (858993459)) (by decide +kernel)) (by decide) dJ6_bitCount_0f7a4_11 ?_
  refine lx_iand hx hb dJ6_bitCount_0f7a4_14 ?_
  refine lv_iload_n hx hb dJ6_bitCount_0f7a4_15 rfl (lv_at hl 0 rfl) ?_
  refine lv_iconst (v := z_i 2) hx hb dJ6_bitCount_0f7a4_16 rfl ?_
  refine lx_iushr hx hb dJ6_bitCount_0f7a4_17 ?_
  refine lx_ldc_w (a := 858993459) hx hb hown (hts (.constant RJ6 266 (858993459)) (by decide +kernel)) (by decide) dJ6_bitCount_0f7a4_18 ?_
  refine lx_iand hx hb dJ6_bitCount_0f7a4_21 ?_
  refine lx_iadd hx hb dJ6_bitCount_0f7a4_22 ?_
  obtain ⟨hr5, hv⟩ := hv
  refine lx_topi (fun v4 hy6 => ?_)
  have hv := hv v4 hy6
  have h_v4 : z_in v4 := by rw [hy6]; exact hr5
  refine lv_istore_n (lv' := [(0, .int (z_i v4))]) hx hb dJ6_bitCount_0f7a4_23 rfl hl (by decide) rfl (fun ls hl => ?_)
  refine lv_iload_n hx hb dJ6_bitCount_0f7a4_24 rfl (lv_at hl 0 rfl) ?_
  refine lv_iload_n hx hb dJ6_bitCount_0f7a4_25 rfl (lv_at hl 0 rfl) ?_
  refine lv_iconst (v := z_i 4) hx hb dJ6_bitCount_0f7a4_26 rfl ?_
  refine lx_iushr hx hb dJ6_bitCount_0f7a4_27 ?_
  refine lx_iadd hx hb dJ6_bitCount_0f7a4_28 ?_
  refine lx_ldc_w (a := 252645135) hx hb hown (hts (.constant RJ6 267 (252645135)) (by decide +kernel)) (by decide) dJ6_bitCount_0f7a4_29 ?_
  refine lx_iand hx hb dJ6_bitCount_0f7a4_32 ?_
  refine lx_topi (fun v7 hy8 => ?_)
  have hv := hv v7 hy8
  have h_v7 : z_in v7 := by rw [hy8]; exact (z_in_of _)
  refine lv_istore_n (lv' := [(0, .int (z_i v7))]) hx hb dJ6_bitCount_0f7a4_33 rfl hl (by decide) rfl (fun ls hl => ?_)
  refine lv_iload_n hx hb dJ6_bitCount_0f7a4_34 rfl (lv_at hl 0 rfl) ?_
  refine lv_iload_n hx hb dJ6_bitCount_0f7a4_35 rfl (lv_at hl 0 rfl) ?_
  refine lv_bipush (v := z_i 8) hx hb dJ6_bitCount_0f7a4_36 (by decide) ?_
  refine lx_iushr hx hb dJ6_bitCount_0f7a4_38 ?_
  refine lx_iadd hx hb dJ6_bitCount_0f7a4_39 ?_
  obtain ⟨hr10, hv⟩ := hv
  refine lx_topi (fun v9 hy11 => ?_)
  have hv := hv v9 hy11
  have h_v9 : z_in v9 := by rw [hy11]; exact hr10
  refine lv_istore_n (lv' := [(0, .int (z_i v9))]) hx hb dJ6_bitCount_0f7a4_40 rfl hl (by decide) rfl (fun ls hl => ?_)
  refine lv_iload_n hx hb dJ6_bitCount_0f7a4_41 rfl (lv_at hl 0 rfl) ?_
  refine lv_iload_n hx hb dJ6_bitCount_0f7a4_42 rfl (lv_at hl 0 rfl) ?_
  refine lv_bipush (v := z_i 16) hx hb dJ6_bitCount_0f7a4_43 (by decide) ?_
  refine lx_iushr hx hb dJ6_bitCount_0f7a4_45 ?_
  refine lx_iadd hx hb dJ6_bitCount_0f7a4_46 ?_
  obtain ⟨hr13, hv⟩ := hv
  refine lx_topi (fun v12 hy14 => ?_)
  have hv := hv v12 hy14
  have h_v12 : z_in v12 := by rw [hy14]; exact hr13
  refine lv_istore_n (lv' := [(0, .int (z_i v12))]) hx hb dJ6_bitCount_0f7a4_47 rfl hl (by decide) rfl (fun ls hl => ?_)
  refine lv_iload_n hx hb dJ6_bitCount_0f7a4_48 rfl (lv_at hl 0 rfl) ?_
  refine lv_bipush (v := z_i 63) hx hb dJ6_bitCount_0f7a4_49 (by decide) ?_
  refine lx_iand hx hb dJ6_bitCount_0f7a4_51 ?_
  exact W.iret (v := z_i (z_and v12 63)) hx hb hr (fun t ht hW => ⟨⟨z_i (z_and v12 63), (), rfl, ⟨z_and v12 63, rfl, (z_in_of _), hv⟩, trivial⟩, hS.F ht⟩) hS.2.2 dJ6_bitCount_0f7a4_52
set_option maxHeartbeats 4000000 in
set_option maxRecDepth 100000 in
theorem mt_J6_bitCount_0f7a4 (l : Launch) (D : va_G) (cA : Nat → ClassId) (i : Int) (h_i : z_in i) (hp1 : 0 ≤ i ∧ i < 256) : Met l yJ6_bitCount_0f7a4 wsJ6_bitCount_0f7a4 ({ frames := 0, cells := 0, slots := 0, locals := 0 } : Room) (va_Pc [.int (z_i i)] (z_B0 D cA [])) (va_Qi (z_ri (fun (r : Int) => r = j_bc i)) (fun _ _ => True) (fun _ => False)) 0 0 (fun _ => False) := by
  refine wk_J6_bitCount_0f7a4 l D cA i h_i (fun (r : Int) => r = j_bc i) ?_
  unfold vc_J6_bitCount_0f7a4
  have hk := z_fin (P := fun i => z_in (j_b1 i) ∧ z_in (j_b2 i) ∧ z_in (j_b4 i) ∧ z_in (j_b5 i)) j_b_ok hp1.1 hp1.2
  refine ⟨hk.1, fun v1 e1 => ?_⟩
  have e1 : v1 = j_b1 i := e1
  subst e1
  refine ⟨hk.2.1, fun v2 e2 => ?_⟩
  have e2 : v2 = j_b2 i := e2
  subst e2
  intro v3 e3
  have e3 : v3 = j_b3 i := e3
  subst e3
  refine ⟨hk.2.2.1, fun v4 e4 => ?_⟩
  have e4 : v4 = j_b4 i := e4
  subst e4
  refine ⟨hk.2.2.2, fun v5 e5 => ?_⟩
  rw [e5]
  rfl
theorem z_tdiv_neg {x y : Int} (hx : x < 0) (hy : 0 < y) : x.tdiv y = if y ∣ x then x / y else x / y + 1 := by
  rw [Int.tdiv_eq_ediv]
  have : y.sign = 1 := Int.sign_eq_one_of_pos hy
  by_cases h : y ∣ x
  · rw [if_pos (Or.inr h), if_pos h]; omega
  · rw [if_neg (by rintro (q | q); omega; exact h q), if_neg h, this]
theorem z_tmod_neg {x y : Int} (hx : x < 0) (hy : 0 < y) : x.tmod y = if y ∣ x then 0 else x % y - y := by
  rw [Int.tmod_eq_emod]
  by_cases h : y ∣ x
  · rw [if_pos (Or.inr h), if_pos h, Int.emod_eq_zero_of_dvd h]; rfl
  · rw [if_neg (by rintro (q | q); omega; exact h q), if_neg h]; omega
theorem z_ediv_b {x y : Int} (hy : 0 < y) {M : Int} (hM : 0 ≤ M) (h1 : -M ≤ x) (h2 : x ≤ M) : -M ≤ x / y ∧ x / y ≤ M := by
  constructor
  · rw [Int.le_ediv_iff_mul_le hy]
    have : M * 1 ≤ M * y := Int.mul_le_mul_of_nonneg_left (by omega) hM
    have e : -M * y = -(M * y) := Int.neg_mul M y
    omega
  · have h3 := Int.ediv_le_ediv hy h2
    have h4 : M / y ≤ M := Int.ediv_le_self _ hM
    omega
def vc_J9_floorDiv_f86c9 (x : Int) (y : Int) (Q : Int → Prop) : Prop :=
y ≠ 0 ∧ z_nl (x.tdiv y) ∧ (∀ v2 : Int, v2 = x.tdiv y → ((z_xorl x y ≥ 0 → Q v2) ∧
(z_xorl x y < 0 → z_nl (v2 * y) ∧ ((v2 * y = x → Q v2) ∧
(v2 * y ≠ x → z_nl (v2 - 1) ∧ Q (v2 - 1))))))
set_option maxHeartbeats 4000000 in
set_option maxRecDepth 100000 in
theorem wk_J9_floorDiv_f86c9 (l : Launch) (D : va_G) (cA : Nat → ClassId) (x : Int) (y : Int) (h_x : z_nl x) (h_y : z_nl y) (Q : Int → Prop) (hv : vc_J9_floorDiv_f86c9 x y Q) : Met l yJ9_floorDiv_f86c9 wsJ9_floorDiv_f86c9 ({ frames := 0, cells := 0, slots := 0, locals := 0 } : Room) (va_Pc [.long (z_l x), .long (z_l y)] (z_B0 D cA [])) (va_Ql (z_rl Q) (fun _ _ => True) (fun _ => False)) 0 0 (fun _ => False) := by
  unfold vc_J9_floorDiv_f86c9 at hv
  refine va_MetF (cc := cJ9_floorDiv_f86c9) (maxL := 6) (ret := (some .long)) (by decide +kernel) rfl ?_
  intro p e s m args below meth c s₁ B hml hv0
  obtain ⟨rfl, hK, hP⟩ := hv0
  have hx := B.exec
  have hb := B.bytes
  have hr := B.returns
  have hts := atoms_spec (ws := wsJ9_floorDiv_f86c9) B.pre
  have hown : s.vm.findClass RJ9 = some m.cls := findClass_of_methodNamed B.named
  have hlocks := B.notSynchronized
  have hS : va_S (fun _ : Nat => False) s.heap s.heap [] := va_S.rf
  have hl := lv_entry ([.long (z_l x), .long (z_l y)]) (n := 6) (Nat.le_of_ble_eq_true rfl)
  rw [lg_entry_eq]
  generalize (lg_sl ([.long (z_l x), .long (z_l y)]) ++ List.replicate (6 - (lg_sl ([.long (z_l x), .long (z_l y)])).length) Slot.unset).toArray = ls at hl ⊢
  have hl : lv_has ls 6 [(0, .long (z_l x)), (2, .long (z_l y))] := hl
  refine lv_lload_n hx hb dJ9_floorDiv_f86c9_0 rfl (lv_at hl 0 rfl) ?_
  refine lv_lload_n hx hb dJ9_floorDiv_f86c9_1 rfl (lv_at hl 1 rfl) ?_
  obtain ⟨hz1, hv⟩ := hv
  refine lx_ldiv hx hb dJ9_floorDiv_f86c9_2 h_x h_y hz1 ?_
  obtain ⟨hr3, hv⟩ := hv
  refine lx_topl (fun v2 hy4 => ?_)
  have hv := hv v2 hy4
  have h_v2 : z_nl v2 := by rw [hy4]; exact hr3
  refine lv_lstore (lv' := [(4, .long (z_l v2)), (0, .long (z_l x)), (2, .long (z_l y))]) hx hb dJ9_floorDiv_f86c9_3 hl (by decide) rfl (fun ls hl => ?_)
  refine lv_lload_n hx hb dJ9_floorDiv_f86c9_5 rfl (lv_at hl 1 rfl) ?_
  refine lv_lload_n hx hb dJ9_floorDiv_f86c9_6 rfl (lv_at hl 2 rfl) ?_
  refine lx_lxor hx hb dJ9_floorDiv_f86c9_7 ?_
  refine lv_lconst (v := z_l 0) hx hb dJ9_floorDiv_f86c9_8 (by decide) ?_
  refine lx_lcmp hx hb dJ9_floorDiv_f86c9_9 (z_nl_of _) (show z_nl 0 from ⟨by decide, by decide⟩) ?_
  refine lx_if_ge (tgt := 27) hx hb dJ9_floorDiv_f86c9_10 (by decide) (z_in_cmp _ _) (fun hc => ?_) (fun hc => ?_)
  · have hv := hv.1 (z_cmp_ge.mp hc)
    refine lv_lload hx hb dJ9_floorDiv_f86c9_27 (lv_at hl 0 rfl) ?_
    exact W.lret (v := z_l v2) hx hb hr (fun t ht hW => ⟨⟨z_l v2, (), rfl, ⟨v2, rfl, h_v2, hv⟩, trivial⟩, hS.F ht⟩) hS.2.2 dJ9_floorDiv_f86c9_29
  · have hv := hv.2 (z_cmp_lt.mp hc)
    refine lv_lload hx hb dJ9_floorDiv_f86c9_13 (lv_at hl 0 rfl) ?_
    refine lv_lload_n hx hb dJ9_floorDiv_f86c9_15 rfl (lv_at hl 2 rfl) ?_
    refine lx_lmul hx hb dJ9_floorDiv_f86c9_16 ?_
    refine lv_lload_n hx hb dJ9_floorDiv_f86c9_17 rfl (lv_at hl 1 rfl) ?_
    obtain ⟨hr5, hv⟩ := hv
    refine lx_lcmp hx hb dJ9_floorDiv_f86c9_18 hr5 h_x ?_
    refine lx_if_eq (tgt := 27) hx hb dJ9_floorDiv_f86c9_19 (by decide) (z_in_cmp _ _) (fun hc => ?_) (fun hc => ?_)
    · have hv := hv.1 (z_cmp_eq.mp hc)
      refine lv_lload hx hb dJ9_floorDiv_f86c9_27 (lv_at hl 0 rfl) ?_
      exact W.lret (v := z_l v2) hx hb hr (fun t ht hW => ⟨⟨z_l v2, (), rfl, ⟨v2, rfl, h_v2, hv⟩, trivial⟩, hS.F ht⟩) hS.2.2 dJ9_floorDiv_f86c9_29
    · have hv := hv.2 (z_cmp_ne.mp hc)
      refine lv_lload hx hb dJ9_floorDiv_f86c9_22 (lv_at hl 0 rfl) ?_
      refine lv_lconst (v := z_l 1) hx hb dJ9_floorDiv_f86c9_24 (by decide) ?_
      refine lx_lsub hx hb dJ9_floorDiv_f86c9_25 ?_
      obtain ⟨hr6, hv⟩ := hv
      exact W.lret (v := z_l (v2 - 1)) hx hb hr (fun t ht hW => ⟨⟨z_l (v2 - 1), (), rfl, ⟨v2 - 1, rfl, hr6, hv⟩, trivial⟩, hS.F ht⟩) hS.2.2 dJ9_floorDiv_f86c9_26
set_option maxHeartbeats 4000000 in
set_option maxRecDepth 100000 in
theorem mt_J9_floorDiv_f86c9 (l : Launch) (D : va_G) (cA : Nat → ClassId) (x : Int) (y : Int) (h_x : z_nl x) (h_y : z_nl y) (hp1 : 0 < y) (hp2 : -4611686018427387904 ≤ x ∧ x ≤ 4611686018427387904) : Met l yJ9_floorDiv_f86c9 wsJ9_floorDiv_f86c9 ({ frames := 0, cells := 0, slots := 0, locals := 0 } : Room) (va_Pc [.long (z_l x), .long (z_l y)] (z_B0 D cA [])) (va_Ql (z_rl (fun (r : Int) => r = x / y)) (fun _ _ => True) (fun _ => False)) 0 0 (fun _ => False) := by
  refine wk_J9_floorDiv_f86c9 l D cA x y h_x h_y (fun (r : Int) => r = x / y) ?_
  unfold vc_J9_floorDiv_f86c9
  have hb := z_ediv_b hp1 (M := 4611686018427387904) (by decide) hp2.1 hp2.2
  have hxy := z_xorl_neg h_x h_y (by omega)
  have hm := Int.mul_ediv_add_emod x y
  have hmo := Int.emod_nonneg x (by omega : y ≠ 0)
  have hml := Int.emod_lt_of_pos x hp1
  rcases Int.lt_or_le x 0 with hx | hx
  · rw [z_tdiv_neg hx hp1]
    by_cases hd : y ∣ x
    · rw [if_pos hd]
      have hz := Int.emod_eq_zero_of_dvd hd
      refine ⟨by omega, ⟨by omega, by omega⟩, fun v e => ?_⟩
      subst e
      refine ⟨fun h => absurd (hxy.mpr hx) (by omega), fun _ => ⟨?_, fun _ => rfl, fun q => absurd ?_ q⟩⟩
      · rw [Int.mul_comm]; exact ⟨by omega, by omega⟩
      · rw [Int.mul_comm]; omega
    · rw [if_neg hd]
      refine ⟨by omega, ⟨by omega, by omega⟩, fun v e => ?_⟩
      subst e
      have e2 : (x / y + 1) * y = x - x % y + y := by rw [Int.add_mul, Int.mul_comm (x / y) y]; omega
      refine ⟨fun h => absurd (hxy.mpr hx) (by omega), fun _ => ⟨?_, fun q => ?_, fun _ => ⟨⟨by omega, by omega⟩, by omega⟩⟩⟩
      · rw [e2]; exact ⟨by omega, by omega⟩
      · rw [e2] at q
        exact absurd (Int.dvd_of_emod_eq_zero (show x % y = 0 by omega)) hd
  · rw [Int.tdiv_eq_ediv_of_nonneg hx]
    refine ⟨by omega, ⟨by omega, by omega⟩, fun v e => ⟨fun _ => e, fun h => absurd (hxy.mp h) (by omega)⟩⟩
def vc_J9_floorMod_f86c9 (x : Int) (y : Int) (Q : Int → Prop) : Prop :=
y ≠ 0 ∧ z_nl (x.tmod y) ∧ (∀ v2 : Int, v2 = x.tmod y → ((z_xorl x y ≥ 0 → Q v2) ∧
(z_xorl x y < 0 → ((v2 = 0 → Q v2) ∧
(v2 ≠ 0 → z_nl (v2 + y) ∧ Q (v2 + y))))))
set_option maxHeartbeats 4000000 in
set_option maxRecDepth 100000 in
theorem wk_J9_floorMod_f86c9 (l : Launch) (D : va_G) (cA : Nat → ClassId) (x : Int) (y : Int) (h_x : z_nl x) (h_y : z_nl y) (Q : Int → Prop) (hv : vc_J9_floorMod_f86c9 x y Q) : Met l yJ9_floorMod_f86c9 wsJ9_floorMod_f86c9 ({ frames := 0, cells := 0, slots := 0, locals := 0 } : Room) (va_Pc [.long (z_l x), .long (z_l y)] (z_B0 D cA [])) (va_Ql (z_rl Q) (fun _ _ => True) (fun _ => False)) 0 0 (fun _ => False) := by
  unfold vc_J9_floorMod_f86c9 at hv
  refine va_MetF (cc := cJ9_floorMod_f86c9) (maxL := 6) (ret := (some .long)) (by decide +kernel) rfl ?_
  intro p e s m args below meth c s₁ B hml hv0
  obtain ⟨rfl, hK, hP⟩ := hv0
  have hx := B.exec
  have hb := B.bytes
  have hr := B.returns
  have hts := atoms_spec (ws := wsJ9_floorMod_f86c9) B.pre
  have hown : s.vm.findClass RJ9 = some m.cls := findClass_of_methodNamed B.named
  have hlocks := B.notSynchronized
  have hS : va_S (fun _ : Nat => False) s.heap s.heap [] := va_S.rf
  have hl := lv_entry ([.long (z_l x), .long (z_l y)]) (n := 6) (Nat.le_of_ble_eq_true rfl)
  rw [lg_entry_eq]
  generalize (lg_sl ([.long (z_l x), .long (z_l y)]) ++ List.replicate (6 - (lg_sl ([.long (z_l x), .long (z_l y)])).length) Slot.unset).toArray = ls at hl ⊢
  have hl : lv_has ls 6 [(0, .long (z_l x)), (2, .long (z_l y))] := hl
  refine lv_lload_n hx hb dJ9_floorMod_f86c9_0 rfl (lv_at hl 0 rfl) ?_
  refine lv_lload_n hx hb dJ9_floorMod_f86c9_1 rfl (lv_at hl 1 rfl) ?_
  obtain ⟨hz1, hv⟩ := hv
  refine lx_lrem hx hb dJ9_floorMod_f86c9_2 h_x h_y hz1 ?_
  obtain ⟨hr3, hv⟩ := hv
  refine lx_topl (fun v2 hy4 => ?_)
  have hv := hv v2 hy4
  have h_v2 : z_nl v2 := by rw [hy4]; exact hr3
  refine lv_lstore (lv' := [(4, .long (z_l v2)), (0, .long (z_l x)), (2, .long (z_l y))]) hx hb dJ9_floorMod_f86c9_3 hl (by decide) rfl (fun ls hl => ?_)
  refine lv_lload_n hx hb dJ9_floorMod_f86c9_5 rfl (lv_at hl 1 rfl) ?_
  refine lv_lload_n hx hb dJ9_floorMod_f86c9_6 rfl (lv_at hl 2 rfl) ?_
  refine lx_lxor hx hb dJ9_floorMod_f86c9_7 ?_
  refine lv_lconst (v := z_l 0) hx hb dJ9_floorMod_f86c9_8 (by decide) ?_
  refine lx_lcmp hx hb dJ9_floorMod_f86c9_9 (z_nl_of _) (show z_nl 0 from ⟨by decide, by decide⟩) ?_
  refine lx_if_ge (tgt := 25) hx hb dJ9_floorMod_f86c9_10 (by decide) (z_in_cmp _ _) (fun hc => ?_) (fun hc => ?_)
  · have hv := hv.1 (z_cmp_ge.mp hc)
    refine lv_lload hx hb dJ9_floorMod_f86c9_25 (lv_at hl 0 rfl) ?_
    exact W.lret (v := z_l v2) hx hb hr (fun t ht hW => ⟨⟨z_l v2, (), rfl, ⟨v2, rfl, h_v2, hv⟩, trivial⟩, hS.F ht⟩) hS.2.2 dJ9_floorMod_f86c9_27
  · have hv := hv.2 (z_cmp_lt.mp hc)
    refine lv_lload hx hb dJ9_floorMod_f86c9_13 (lv_at hl 0 rfl) ?_
    refine lv_lconst (v := z_l 0) hx hb dJ9_floorMod_f86c9_15 (by decide) ?_
    refine lx_lcmp hx hb dJ9_floorMod_f86c9_16 h_v2 (show z_nl 0 from ⟨by decide, by decide⟩) ?_
    refine lx_if_eq (tgt := 25) hx hb dJ9_floorMod_f86c9_17 (by decide) (z_in_cmp _ _) (fun hc => ?_) (fun hc => ?_)
    · have hv := hv.1 (z_cmp_eq.mp hc)
      refine lv_lload hx hb dJ9_floorMod_f86c9_25 (lv_at hl 0 rfl) ?_
      exact W.lret (v := z_l v2) hx hb hr (fun t ht hW => ⟨⟨z_l v2, (), rfl, ⟨v2, rfl, h_v2, hv⟩, trivial⟩, hS.F ht⟩) hS.2.2 dJ9_floorMod_f86c9_27
    · have hv := hv.2 (z_cmp_ne.mp hc)
      refine lv_lload hx hb dJ9_floorMod_f86c9_20 (lv_at hl 0 rfl) ?_
      refine lv_lload_n hx hb dJ9_floorMod_f86c9_22 rfl (lv_at hl 2 rfl) ?_
      refine lx_ladd hx hb dJ9_floorMod_f86c9_23 ?_
      obtain ⟨hr5, hv⟩ := hv
      exact W.lret (v := z_l (v2 + y)) hx hb hr (fun t ht hW => ⟨⟨z_l (v2 + y), (), rfl, ⟨v2 + y, rfl, hr5, hv⟩, trivial⟩, hS.F ht⟩) hS.2.2 dJ9_floorMod_f86c9_24
set_option maxHeartbeats 4000000 in
set_option maxRecDepth 100000 in
theorem mt_J9_floorMod_f86c9 (l : Launch) (D : va_G) (cA : Nat → ClassId) (x : Int) (y : Int) (h_x : z_nl x) (h_y : z_nl y) (hp1 : 0 < y) (hp2 : -4611686018427387904 ≤ x ∧ x ≤ 4611686018427387904) : Met l yJ9_floorMod_f86c9 wsJ9_floorMod_f86c9 ({ frames := 0, cells := 0, slots := 0, locals := 0 } : Room) (va_Pc [.long (z_l x), .long (z_l y)] (z_B0 D cA [])) (va_Ql (z_rl (fun (r : Int) => r = x % y)) (fun _ _ => True) (fun _ => False)) 0 0 (fun _ => False) := by
  refine wk_J9_floorMod_f86c9 l D cA x y h_x h_y (fun (r : Int) => r = x % y) ?_
  unfold vc_J9_floorMod_f86c9
  have hxy := z_xorl_neg h_x h_y (by omega)
  have hmo := Int.emod_nonneg x (by omega : y ≠ 0)
  have hml := Int.emod_lt_of_pos x hp1
  rcases Int.lt_or_le x 0 with hx | hx
  · rw [z_tmod_neg hx hp1]
    by_cases hd : y ∣ x
    · rw [if_pos hd]
      have hz := Int.emod_eq_zero_of_dvd hd
      refine ⟨by omega, ⟨by omega, by omega⟩, fun v e => ?_⟩
      subst e
      exact ⟨fun h => absurd (hxy.mpr hx) (by omega), fun _ => ⟨fun _ => hz.symm, fun q => absurd rfl q⟩⟩
    · rw [if_neg hd]
      refine ⟨by omega, ⟨by omega, by omega⟩, fun v e => ?_⟩
      subst e
      exact ⟨fun h => absurd (hxy.mpr hx) (by omega), fun _ => ⟨fun q => by omega, fun _ => ⟨⟨by omega, by omega⟩, by omega⟩⟩⟩
  · rw [Int.tmod_eq_emod_of_nonneg hx]
    refine ⟨by omega, ⟨by omega, by omega⟩, fun v e => ⟨fun _ => e, fun h => absurd (hxy.mp h) (by omega)⟩⟩
