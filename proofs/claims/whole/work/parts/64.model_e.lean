theorem n_fl {a n : Int} (h : 0 < n) : -((-a + n - 1) / n) = a / n := by
  have h1 := Int.mul_ediv_add_emod a n
  have h2 := Int.emod_nonneg a (show n ≠ 0 by omega)
  have h3 := Int.emod_lt_of_pos a h
  have e : -a + n - 1 = (n - 1 - a % n) + n * (-(a / n)) := by rw [Int.mul_neg]; omega
  rw [e, Int.add_mul_ediv_left _ _ (by omega), Int.ediv_eq_zero_of_lt (by omega) (by omega)]
  omega
theorem n_bd {a n : Int} (h : 0 < n) (h0 : -(8388608 * n) ≤ a) (h1 : a ≤ 8388608 * n) : -8388608 ≤ a / n ∧ a / n ≤ 8388608 := by
  constructor
  · apply Int.le_ediv_of_mul_le h; rw [Int.neg_mul]; exact h0
  · have := Int.ediv_le_ediv h h1
    rw [Int.mul_ediv_cancel _ (by omega)] at this; exact this
def vc_X8_nearest (av : Int) (nn : Int) (Q : Int → Prop) : Prop :=
((av < 0 → z_nl (((-av) + nn) - 1) ∧ nn ≠ 0 ∧ z_nl (-((((-av) + nn) - 1).tdiv nn)) ∧ (∀ v3 : Int, v3 = -((((-av) + nn) - 1).tdiv nn) → z_nl (2 * (av - (v3 * nn))) ∧ (∀ v6 : Int, v6 = 2 * (av - (v3 * nn)) → ((v6 > nn → z_in (v3 + 1) ∧ Q (v3 + 1)) ∧
(v6 ≤ nn → ((v6 ≠ nn → z_in v3 ∧ Q v3) ∧
(v6 = nn → z_nl (v3.tmod 2) ∧ ((v3.tmod 2 = 0 → z_in v3 ∧ Q v3) ∧
(v3.tmod 2 ≠ 0 → z_in (v3 + 1) ∧ Q (v3 + 1)))))))))) ∧
(av ≥ 0 → nn ≠ 0 ∧ z_nl (av.tdiv nn) ∧ (∀ v15 : Int, v15 = av.tdiv nn → z_nl (2 * (av - (v15 * nn))) ∧ (∀ v18 : Int, v18 = 2 * (av - (v15 * nn)) → ((v18 > nn → z_in (v15 + 1) ∧ Q (v15 + 1)) ∧
(v18 ≤ nn → ((v18 ≠ nn → z_in v15 ∧ Q v15) ∧
(v18 = nn → z_nl (v15.tmod 2) ∧ ((v15.tmod 2 = 0 → z_in v15 ∧ Q v15) ∧
(v15.tmod 2 ≠ 0 → z_in (v15 + 1) ∧ Q (v15 + 1)))))))))))
set_option maxHeartbeats 4000000 in
set_option maxRecDepth 100000 in
theorem wk_X8_nearest (l : Launch) (D : va_G) (cA : Nat → ClassId) (av : Int) (nn : Int) (h_av : z_nl av) (h_nn : z_nl nn) (Q : Int → Prop) (hv : vc_X8_nearest av nn Q) : Met l yX8_nearest wsX8_nearest ({ frames := 0, cells := 0, slots := 0, locals := 0 } : Room) (va_Pc [.long (z_l av), .long (z_l nn)] (z_B0 D cA [])) (va_Qi (z_ri Q) (fun _ _ => True) (fun _ => False)) 0 0 (fun _ => False) := by
  unfold vc_X8_nearest at hv
  refine Met.ofW (cc := cX8_nearest) (maxL := 9) (ret := (some .int)) (by decide +kernel) rfl ?_
  intro p e s m args below meth c s₁ B hml hv0
  obtain ⟨rfl, hK, hP⟩ := hv0
  have hx := B.exec
  have hb := B.bytes
  have hr := B.returns
  have hts := atoms_spec (ws := wsX8_nearest) B.pre
  have hown : s.vm.findClass RX8 = some m.cls := findClass_of_methodNamed B.named
  have hlocks := B.notSynchronized
  have hS : va_S (fun _ : Nat => False) s.heap s.heap [] := va_S.rf
  have hl := lv_entry ([.long (z_l av), .long (z_l nn)]) (n := 9) (Nat.le_of_ble_eq_true rfl)
  rw [lg_entry_eq]
  generalize (lg_sl ([.long (z_l av), .long (z_l nn)]) ++ List.replicate (9 - (lg_sl ([.long (z_l av), .long (z_l nn)])).length) Slot.unset).toArray = ls at hl ⊢
  have hl : lv_has ls 9 [(0, .long (z_l av)), (2, .long (z_l nn))] := hl
  refine lv_lload_n hx hb dX8_nearest_0 rfl (lv_at hl 0 rfl) ?_
  refine lv_lconst (v := z_l 0) hx hb dX8_nearest_1 (by decide) ?_
  refine lx_lcmp hx hb dX8_nearest_2 h_av (show z_nl 0 from ⟨by decide, by decide⟩) ?_
  refine lx_if_lt (tgt := 12) hx hb dX8_nearest_3 (by decide) (z_in_cmp _ _) (fun hc => ?_) (fun hc => ?_)
  · have hv := hv.1 (z_cmp_lt.mp hc)
    refine lv_lload_n hx hb dX8_nearest_12 rfl (lv_at hl 0 rfl) ?_
    refine lx_lneg hx hb dX8_nearest_13 ?_
    refine lv_lload_n hx hb dX8_nearest_14 rfl (lv_at hl 1 rfl) ?_
    refine lx_ladd hx hb dX8_nearest_15 ?_
    refine lv_lconst (v := z_l 1) hx hb dX8_nearest_16 (by decide) ?_
    refine lx_lsub hx hb dX8_nearest_17 ?_
    refine lv_lload_n hx hb dX8_nearest_18 rfl (lv_at hl 1 rfl) ?_
    obtain ⟨hr1, hv⟩ := hv
    obtain ⟨hz2, hv⟩ := hv
    refine lx_ldiv hx hb dX8_nearest_19 hr1 h_nn hz2 ?_
    refine lx_lneg hx hb dX8_nearest_20 ?_
    obtain ⟨hr4, hv⟩ := hv
    refine lx_topl (fun v3 hy5 => ?_)
    have hv := hv v3 hy5
    have h_v3 : z_nl v3 := by rw [hy5]; exact hr4
    refine lv_lstore (lv' := [(4, .long (z_l v3)), (0, .long (z_l av)), (2, .long (z_l nn))]) hx hb dX8_nearest_21 hl (by decide) rfl (fun ls hl => ?_)
    refine lx_ldc2 (a := 2) hx hb hown (hts (.constantLong RX8 209 (2)) (by decide +kernel)) (by decide) dX8_nearest_23 ?_
    refine lv_lload_n hx hb dX8_nearest_26 rfl (lv_at hl 1 rfl) ?_
    refine lv_lload hx hb dX8_nearest_27 (lv_at hl 0 rfl) ?_
    refine lv_lload_n hx hb dX8_nearest_29 rfl (lv_at hl 2 rfl) ?_
    refine lx_lmul hx hb dX8_nearest_30 ?_
    refine lx_lsub hx hb dX8_nearest_31 ?_
    refine lx_lmul hx hb dX8_nearest_32 ?_
    obtain ⟨hr7, hv⟩ := hv
    refine lx_topl (fun v6 hy8 => ?_)
    have hv := hv v6 hy8
    have h_v6 : z_nl v6 := by rw [hy8]; exact hr7
    refine lv_lstore (lv' := [(6, .long (z_l v6)), (4, .long (z_l v3)), (0, .long (z_l av)), (2, .long (z_l nn))]) hx hb dX8_nearest_33 hl (by decide) rfl (fun ls hl => ?_)
    refine lv_lload hx hb dX8_nearest_35 (lv_at hl 0 rfl) ?_
    refine lv_lload_n hx hb dX8_nearest_37 rfl (lv_at hl 3 rfl) ?_
    refine lx_lcmp hx hb dX8_nearest_38 h_v6 h_nn ?_
    refine lx_if_gt (tgt := 60) hx hb dX8_nearest_39 (by decide) (z_in_cmp _ _) (fun hc => ?_) (fun hc => ?_)
    · have hv := hv.1 (z_cmp_gt.mp hc)
      refine lv_iconst (v := z_i 1) hx hb dX8_nearest_60 rfl ?_
      refine lv_goto (tgt := 65) hx hb dX8_nearest_61 (by decide) ?_
      refine lv_istore (lv' := [(8, .int (z_i 1)), (6, .long (z_l v6)), (4, .long (z_l v3)), (0, .long (z_l av)), (2, .long (z_l nn))]) hx hb dX8_nearest_65 hl (by decide) rfl (fun ls hl => ?_)
      refine lv_iload hx hb dX8_nearest_67 (lv_at hl 0 rfl) ?_
      refine lx_if_eq (tgt := 79) hx hb dX8_nearest_69 (by decide) ⟨by decide, by decide⟩ (fun hc => absurd hc (by decide)) (fun _ => ?_)
      refine lv_lload hx hb dX8_nearest_72 (lv_at hl 2 rfl) ?_
      refine lv_lconst (v := z_l 1) hx hb dX8_nearest_74 (by decide) ?_
      refine lx_ladd hx hb dX8_nearest_75 ?_
      refine lv_goto (tgt := 81) hx hb dX8_nearest_76 (by decide) ?_
      refine lx_l2i hx hb dX8_nearest_81 ?_
      obtain ⟨hr9, hv⟩ := hv
      exact W.iret (v := z_i (v3 + 1)) hx hb hr (fun t ht hW => ⟨⟨z_i (v3 + 1), (), rfl, ⟨v3 + 1, rfl, hr9, hv⟩, trivial⟩, hS.F ht⟩) hS.2.2 dX8_nearest_82
    · have hv := hv.2 (z_cmp_le.mp hc)
      refine lv_lload hx hb dX8_nearest_42 (lv_at hl 0 rfl) ?_
      refine lv_lload_n hx hb dX8_nearest_44 rfl (lv_at hl 3 rfl) ?_
      refine lx_lcmp hx hb dX8_nearest_45 h_v6 h_nn ?_
      refine lx_if_ne (tgt := 64) hx hb dX8_nearest_46 (by decide) (z_in_cmp _ _) (fun hc => ?_) (fun hc => ?_)
      · have hv := hv.1 (z_cmp_ne.mp hc)
        refine lv_iconst (v := z_i 0) hx hb dX8_nearest_64 rfl ?_
        refine lv_istore (lv' := [(8, .int (z_i 0)), (6, .long (z_l v6)), (4, .long (z_l v3)), (0, .long (z_l av)), (2, .long (z_l nn))]) hx hb dX8_nearest_65 hl (by decide) rfl (fun ls hl => ?_)
        refine lv_iload hx hb dX8_nearest_67 (lv_at hl 0 rfl) ?_
        refine lx_if_eq (tgt := 79) hx hb dX8_nearest_69 (by decide) ⟨by decide, by decide⟩ (fun _ => ?_) (fun hc => absurd hc (by decide))
        refine lv_lload hx hb dX8_nearest_79 (lv_at hl 2 rfl) ?_
        refine lx_l2i hx hb dX8_nearest_81 ?_
        obtain ⟨hr10, hv⟩ := hv
        exact W.iret (v := z_i v3) hx hb hr (fun t ht hW => ⟨⟨z_i v3, (), rfl, ⟨v3, rfl, hr10, hv⟩, trivial⟩, hS.F ht⟩) hS.2.2 dX8_nearest_82
      · have hv := hv.2 (z_cmp_eq.mp hc)
        refine lv_lload hx hb dX8_nearest_49 (lv_at hl 1 rfl) ?_
        refine lx_ldc2 (a := 2) hx hb hown (hts (.constantLong RX8 209 (2)) (by decide +kernel)) (by decide) dX8_nearest_51 ?_
        refine lx_lrem hx hb dX8_nearest_54 h_v3 (show z_nl 2 from ⟨by decide, by decide⟩) (by decide) ?_
        refine lv_lconst (v := z_l 0) hx hb dX8_nearest_55 (by decide) ?_
        obtain ⟨hr11, hv⟩ := hv
        refine lx_lcmp hx hb dX8_nearest_56 hr11 (show z_nl 0 from ⟨by decide, by decide⟩) ?_
        refine lx_if_eq (tgt := 64) hx hb dX8_nearest_57 (by decide) (z_in_cmp _ _) (fun hc => ?_) (fun hc => ?_)
        · have hv := hv.1 (z_cmp_eq.mp hc)
          refine lv_iconst (v := z_i 0) hx hb dX8_nearest_64 rfl ?_
          refine lv_istore (lv' := [(8, .int (z_i 0)), (6, .long (z_l v6)), (4, .long (z_l v3)), (0, .long (z_l av)), (2, .long (z_l nn))]) hx hb dX8_nearest_65 hl (by decide) rfl (fun ls hl => ?_)
          refine lv_iload hx hb dX8_nearest_67 (lv_at hl 0 rfl) ?_
          refine lx_if_eq (tgt := 79) hx hb dX8_nearest_69 (by decide) ⟨by decide, by decide⟩ (fun _ => ?_) (fun hc => absurd hc (by decide))
          refine lv_lload hx hb dX8_nearest_79 (lv_at hl 2 rfl) ?_
          refine lx_l2i hx hb dX8_nearest_81 ?_
          obtain ⟨hr12, hv⟩ := hv
          exact W.iret (v := z_i v3) hx hb hr (fun t ht hW => ⟨⟨z_i v3, (), rfl, ⟨v3, rfl, hr12, hv⟩, trivial⟩, hS.F ht⟩) hS.2.2 dX8_nearest_82
        · have hv := hv.2 (z_cmp_ne.mp hc)
          refine lv_iconst (v := z_i 1) hx hb dX8_nearest_60 rfl ?_
          refine lv_goto (tgt := 65) hx hb dX8_nearest_61 (by decide) ?_
          refine lv_istore (lv' := [(8, .int (z_i 1)), (6, .long (z_l v6)), (4, .long (z_l v3)), (0, .long (z_l av)), (2, .long (z_l nn))]) hx hb dX8_nearest_65 hl (by decide) rfl (fun ls hl => ?_)
          refine lv_iload hx hb dX8_nearest_67 (lv_at hl 0 rfl) ?_
          refine lx_if_eq (tgt := 79) hx hb dX8_nearest_69 (by decide) ⟨by decide, by decide⟩ (fun hc => absurd hc (by decide)) (fun _ => ?_)
          refine lv_lload hx hb dX8_nearest_72 (lv_at hl 2 rfl) ?_
          refine lv_lconst (v := z_l 1) hx hb dX8_nearest_74 (by decide) ?_
          refine lx_ladd hx hb dX8_nearest_75 ?_
          refine lv_goto (tgt := 81) hx hb dX8_nearest_76 (by decide) ?_
          refine lx_l2i hx hb dX8_nearest_81 ?_
          obtain ⟨hr13, hv⟩ := hv
          exact W.iret (v := z_i (v3 + 1)) hx hb hr (fun t ht hW => ⟨⟨z_i (v3 + 1), (), rfl, ⟨v3 + 1, rfl, hr13, hv⟩, trivial⟩, hS.F ht⟩) hS.2.2 dX8_nearest_82
  · have hv := hv.2 (z_cmp_ge.mp hc)
    refine lv_lload_n hx hb dX8_nearest_6 rfl (lv_at hl 0 rfl) ?_
    refine lv_lload_n hx hb dX8_nearest_7 rfl (lv_at hl 1 rfl) ?_
    obtain ⟨hz14, hv⟩ := hv
    refine lx_ldiv hx hb dX8_nearest_8 h_av h_nn hz14 ?_
    refine lv_goto (tgt := 21) hx hb dX8_nearest_9 (by decide) ?_
    obtain ⟨hr16, hv⟩ := hv
    refine lx_topl (fun v15 hy17 => ?_)
    have hv := hv v15 hy17
    have h_v15 : z_nl v15 := by rw [hy17]; exact hr16
    refine lv_lstore (lv' := [(4, .long (z_l v15)), (0, .long (z_l av)), (2, .long (z_l nn))]) hx hb dX8_nearest_21 hl (by decide) rfl (fun ls hl => ?_)
    refine lx_ldc2 (a := 2) hx hb hown (hts (.constantLong RX8 209 (2)) (by decide +kernel)) (by decide) dX8_nearest_23 ?_
    refine lv_lload_n hx hb dX8_nearest_26 rfl (lv_at hl 1 rfl) ?_
    refine lv_lload hx hb dX8_nearest_27 (lv_at hl 0 rfl) ?_
    refine lv_lload_n hx hb dX8_nearest_29 rfl (lv_at hl 2 rfl) ?_
    refine lx_lmul hx hb dX8_nearest_30 ?_
    refine lx_lsub hx hb dX8_nearest_31 ?_
    refine lx_lmul hx hb dX8_nearest_32 ?_
    obtain ⟨hr19, hv⟩ := hv
    refine lx_topl (fun v18 hy20 => ?_)
    have hv := hv v18 hy20
    have h_v18 : z_nl v18 := by rw [hy20]; exact hr19
    refine lv_lstore (lv' := [(6, .long (z_l v18)), (4, .long (z_l v15)), (0, .long (z_l av)), (2, .long (z_l nn))]) hx hb dX8_nearest_33 hl (by decide) rfl (fun ls hl => ?_)
    refine lv_lload hx hb dX8_nearest_35 (lv_at hl 0 rfl) ?_
    refine lv_lload_n hx hb dX8_nearest_37 rfl (lv_at hl 3 rfl) ?_
    refine lx_lcmp hx hb dX8_nearest_38 h_v18 h_nn ?_
    refine lx_if_gt (tgt := 60) hx hb dX8_nearest_39 (by decide) (z_in_cmp _ _) (fun hc => ?_) (fun hc => ?_)
    · have hv := hv.1 (z_cmp_gt.mp hc)
      refine lv_iconst (v := z_i 1) hx hb dX8_nearest_60 rfl ?_
      refine lv_goto (tgt := 65) hx hb dX8_nearest_61 (by decide) ?_
      refine lv_istore (lv' := [(8, .int (z_i 1)), (6, .long (z_l v18)), (4, .long (z_l v15)), (0, .long (z_l av)), (2, .long (z_l nn))]) hx hb dX8_nearest_65 hl (by decide) rfl (fun ls hl => ?_)
      refine lv_iload hx hb dX8_nearest_67 (lv_at hl 0 rfl) ?_
      refine lx_if_eq (tgt := 79) hx hb dX8_nearest_69 (by decide) ⟨by decide, by decide⟩ (fun hc => absurd hc (by decide)) (fun _ => ?_)
      refine lv_lload hx hb dX8_nearest_72 (lv_at hl 2 rfl) ?_
      refine lv_lconst (v := z_l 1) hx hb dX8_nearest_74 (by decide) ?_
      refine lx_ladd hx hb dX8_nearest_75 ?_
      refine lv_goto (tgt := 81) hx hb dX8_nearest_76 (by decide) ?_
      refine lx_l2i hx hb dX8_nearest_81 ?_
      obtain ⟨hr21, hv⟩ := hv
      exact W.iret (v := z_i (v15 + 1)) hx hb hr (fun t ht hW => ⟨⟨z_i (v15 + 1), (), rfl, ⟨v15 + 1, rfl, hr21, hv⟩, trivial⟩, hS.F ht⟩) hS.2.2 dX8_nearest_82
    · have hv := hv.2 (z_cmp_le.mp hc)
      refine lv_lload hx hb dX8_nearest_42 (lv_at hl 0 rfl) ?_
      refine lv_lload_n hx hb dX8_nearest_44 rfl (lv_at hl 3 rfl) ?_
      refine lx_lcmp hx hb dX8_nearest_45 h_v18 h_nn ?_
      refine lx_if_ne (tgt := 64) hx hb dX8_nearest_46 (by decide) (z_in_cmp _ _) (fun hc => ?_) (fun hc => ?_)
      · have hv := hv.1 (z_cmp_ne.mp hc)
        refine lv_iconst (v := z_i 0) hx hb dX8_nearest_64 rfl ?_
        refine lv_istore (lv' := [(8, .int (z_i 0)), (6, .long (z_l v18)), (4, .long (z_l v15)), (0, .long (z_l av)), (2, .long (z_l nn))]) hx hb dX8_nearest_65 hl (by decide) rfl (fun ls hl => ?_)
        refine lv_iload hx hb dX8_nearest_67 (lv_at hl 0 rfl) ?_
        refine lx_if_eq (tgt := 79) hx hb dX8_nearest_69 (by decide) ⟨by decide, by decide⟩ (fun _ => ?_) (fun hc => absurd hc (by decide))
        refine lv_lload hx hb dX8_nearest_79 (lv_at hl 2 rfl) ?_
        refine lx_l2i hx hb dX8_nearest_81 ?_
        obtain ⟨hr22, hv⟩ := hv
        exact W.iret (v := z_i v15) hx hb hr (fun t ht hW => ⟨⟨z_i v15, (), rfl, ⟨v15, rfl, hr22, hv⟩, trivial⟩, hS.F ht⟩) hS.2.2 dX8_nearest_82
      · have hv := hv.2 (z_cmp_eq.mp hc)
        refine lv_lload hx hb dX8_nearest_49 (lv_at hl 1 rfl) ?_
        refine lx_ldc2 (a := 2) hx hb hown (hts (.constantLong RX8 209 (2)) (by decide +kernel)) (by decide) dX8_nearest_51 ?_
        refine lx_lrem hx hb dX8_nearest_54 h_v15 (show z_nl 2 from ⟨by decide, by decide⟩) (by decide) ?_
        refine lv_lconst (v := z_l 0) hx hb dX8_nearest_55 (by decide) ?_
        obtain ⟨hr23, hv⟩ := hv
        refine lx_lcmp hx hb dX8_nearest_56 hr23 (show z_nl 0 from ⟨by decide, by decide⟩) ?_
        refine lx_if_eq (tgt := 64) hx hb dX8_nearest_57 (by decide) (z_in_cmp _ _) (fun hc => ?_) (fun hc => ?_)
        · have hv := hv.1 (z_cmp_eq.mp hc)
          refine lv_iconst (v := z_i 0) hx hb dX8_nearest_64 rfl ?_
          refine lv_istore (lv' := [(8, .int (z_i 0)), (6, .long (z_l v18)), (4, .long (z_l v15)), (0, .long (z_l av)), (2, .long (z_l nn))]) hx hb dX8_nearest_65 hl (by decide) rfl (fun ls hl => ?_)
          refine lv_iload hx hb dX8_nearest_67 (lv_at hl 0 rfl) ?_
          refine lx_if_eq (tgt := 79) hx hb dX8_nearest_69 (by decide) ⟨by decide, by decide⟩ (fun _ => ?_) (fun hc => absurd hc (by decide))
          refine lv_lload hx hb dX8_nearest_79 (lv_at hl 2 rfl) ?_
          refine lx_l2i hx hb dX8_nearest_81 ?_
          obtain ⟨hr24, hv⟩ := hv
          exact W.iret (v := z_i v15) hx hb hr (fun t ht hW => ⟨⟨z_i v15, (), rfl, ⟨v15, rfl, hr24, hv⟩, trivial⟩, hS.F ht⟩) hS.2.2 dX8_nearest_82
        · have hv := hv.2 (z_cmp_ne.mp hc)
          refine lv_iconst (v := z_i 1) hx hb dX8_nearest_60 rfl ?_
          refine lv_goto (tgt := 65) hx hb dX8_nearest_61 (by decide) ?_
          refine lv_istore (lv' := [(8, .int (z_i 1)), (6, .long (z_l v18)), (4, .long (z_l v15)), (0, .long (z_l av)), (2, .long (z_l nn))]) hx hb dX8_nearest_65 hl (by decide) rfl (fun ls hl => ?_)
          refine lv_iload hx hb dX8_nearest_67 (lv_at hl 0 rfl) ?_
          refine lx_if_eq (tgt := 79) hx hb dX8_nearest_69 (by decide) ⟨by decide, by decide⟩ (fun hc => absurd hc (by decide)) (fun _ => ?_)
          refine lv_lload hx hb dX8_nearest_72 (lv_at hl 2 rfl) ?_
          refine lv_lconst (v := z_l 1) hx hb dX8_nearest_74 (by decide) ?_
          refine lx_ladd hx hb dX8_nearest_75 ?_
          refine lv_goto (tgt := 81) hx hb dX8_nearest_76 (by decide) ?_
          refine lx_l2i hx hb dX8_nearest_81 ?_
          obtain ⟨hr25, hv⟩ := hv
          exact W.iret (v := z_i (v15 + 1)) hx hb hr (fun t ht hW => ⟨⟨z_i (v15 + 1), (), rfl, ⟨v15 + 1, rfl, hr25, hv⟩, trivial⟩, hS.F ht⟩) hS.2.2 dX8_nearest_82
set_option maxHeartbeats 4000000 in
set_option maxRecDepth 100000 in
theorem mt_X8_nearest (l : Launch) (D : va_G) (cA : Nat → ClassId) (av : Int) (nn : Int) (h_av : z_nl av) (h_nn : z_nl nn) (hp1 : -(8388608 * nn) ≤ av ∧ av ≤ 8388608 * nn) (hp2 : 1 ≤ nn ∧ nn ≤ 10000) : Met l yX8_nearest wsX8_nearest ({ frames := 0, cells := 0, slots := 0, locals := 0 } : Room) (va_Pc [.long (z_l av), .long (z_l nn)] (z_B0 D cA [])) (va_Qi (z_ri (fun (r : Int) => r = m_ne av nn)) (fun _ _ => True) (fun _ => False)) 0 0 (fun _ => False) := by
  refine wk_X8_nearest l D cA av nn h_av h_nn (fun (r : Int) => r = m_ne av nn) ?_
  unfold vc_X8_nearest
  have d1 := Int.mul_ediv_add_emod av nn
  have d2 := Int.emod_nonneg av (show nn ≠ 0 by omega)
  have d3 := Int.emod_lt_of_pos av (show 0 < nn by omega)
  have d4 := n_bd (show 0 < nn by omega) hp1.1 hp1.2
  have hm : m_ne av nn = if 2 * (av % nn) > nn ∨ (2 * (av % nn) = nn ∧ (av / nn) % 2 = 1) then av / nn + 1 else av / nn := rfl
  rw [Int.mul_comm] at d1
  rw [hm]
  have key : ∀ v : Int, v = av / nn → z_nl (2 * (av - (v * nn))) ∧ (∀ v6 : Int, v6 = 2 * (av - (v * nn)) → ((v6 > nn → z_in (v + 1) ∧ v + 1 = (if 2 * (av % nn) > nn ∨ (2 * (av % nn) = nn ∧ (av / nn) % 2 = 1) then av / nn + 1 else av / nn)) ∧
  (v6 ≤ nn → ((v6 ≠ nn → z_in v ∧ v = (if 2 * (av % nn) > nn ∨ (2 * (av % nn) = nn ∧ (av / nn) % 2 = 1) then av / nn + 1 else av / nn)) ∧
  (v6 = nn → z_nl (v.tmod 2) ∧ ((v.tmod 2 = 0 → z_in v ∧ v = (if 2 * (av % nn) > nn ∨ (2 * (av % nn) = nn ∧ (av / nn) % 2 = 1) then av / nn + 1 else av / nn)) ∧
  (v.tmod 2 ≠ 0 → z_in (v + 1) ∧ v + 1 = (if 2 * (av % nn) > nn ∨ (2 * (av % nn) = nn ∧ (av / nn) % 2 = 1) then av / nn + 1 else av / nn)))))))) := by
    intro v hv
    rw [← hv] at d1 d4 ⊢
    have ev : 2 * (av - v * nn) = 2 * (av % nn) := by omega
    rw [ev]
    refine ⟨⟨by omega, by omega⟩, ?_⟩
    rintro v6 rfl
    have tm : v.tmod 2 = 0 ↔ v % 2 = 0 := by rw [← Int.dvd_iff_tmod_eq_zero, Int.dvd_iff_emod_eq_zero]
    have tb : -2 < v.tmod 2 ∧ v.tmod 2 < 2 := by
      have h1 := Int.tmod_lt_of_pos v (show (0 : Int) < 2 by decide)
      have h2 := Int.lt_tmod_of_pos v (show (0 : Int) < 2 by decide)
      exact ⟨h2, h1⟩
    refine ⟨fun q => ⟨⟨by omega, by omega⟩, by rw [if_pos (Or.inl q)]⟩, fun q => ⟨fun q1 => ⟨⟨by omega, by omega⟩, by rw [if_neg (by omega)]⟩, fun q1 => ⟨⟨by omega, by omega⟩, fun q2 => ⟨⟨by omega, by omega⟩, ?_⟩, fun q2 => ⟨⟨by omega, by omega⟩, ?_⟩⟩⟩⟩
    · have := tm.mp q2
      rw [if_neg (by omega)]
    · have : ¬ v % 2 = 0 := fun h => q2 (tm.mpr h)
      rw [if_pos (Or.inr ⟨q1, by omega⟩)]
  refine ⟨fun q => ?_, fun q => ?_⟩
  · have e1 : (-av + nn - 1).tdiv nn = (-av + nn - 1) / nn := Int.tdiv_eq_ediv_of_nonneg (by omega)
    have e2 := n_fl (a := av) (show 0 < nn by omega)
    rw [e1, e2]
    refine ⟨⟨by omega, by omega⟩, by omega, ⟨by omega, by omega⟩, ?_⟩
    intro v3 h3
    exact key v3 h3
  · have e1 : av.tdiv nn = av / nn := Int.tdiv_eq_ediv_of_nonneg q
    rw [e1]
    refine ⟨by omega, ⟨by omega, by omega⟩, ?_⟩
    intro v15 h15
    exact key v15 h15
def vc_X8_takes (y_space : Nat → Int32) (y_offset : Nat → Int32) (y_length : Nat → Int32) (y_units : Nat → Int32) (y_isThere : Nat → Int32) (y_newUnits : Nat → Int32) (y_isNew : Nat → Int32) (gi : Int) (to : Int) (Q : (Nat → Int32) → (Nat → Int32) → (Nat → Int32) → (Nat → Int32) → (Nat → Int32) → Prop) : Prop :=
(0 ≤ gi ∧ gi < 4) ∧ (0 ≤ to ∧ to < 4) ∧ (∀ f3 : Nat → Int32, f3 = z_s y_space to (z_g y_space gi) → (∀ L14 : Int → (Nat → Int32) → (Nat → Int32) → Prop,
(∀ (x14_3 : Int) (y14_ya_offset : Nat → Int32) (y14_ya_length : Nat → Int32), z_in x14_3 → ((x14_3 ≥ 32 → (∀ L72 : Int → (Nat → Int32) → (Nat → Int32) → Prop,
(∀ (x72_3 : Int) (y72_ya_units : Nat → Int32) (y72_ya_isThere : Nat → Int32), z_in x72_3 → ((x72_3 ≥ 1280 → Q f3 y14_ya_offset y14_ya_length y72_ya_units y72_ya_isThere) ∧
(x72_3 < 1280 → (0 ≤ x72_3 ∧ x72_3 < 1280) ∧ (0 ≤ (1280 * to) + x72_3 ∧ (1280 * to) + x72_3 < 5120) ∧ (∀ f7 : Nat → Int32, f7 = z_s y72_ya_units ((1280 * to) + x72_3) (z_g y_newUnits x72_3) → (z_g y_isNew x72_3 = 0 ∨ z_g y_isNew x72_3 = 1) ∧ (∀ f10 : Nat → Int32, f10 = z_s y72_ya_isThere ((1280 * to) + x72_3) (z_g y_isNew x72_3) → L72 (x72_3 + 1) f7 f10)))) → L72 x72_3 y72_ya_units y72_ya_isThere) →
L72 0 y_units y_isThere)) ∧
(x14_3 < 32 → (0 ≤ (32 * gi) + x14_3 ∧ (32 * gi) + x14_3 < 128) ∧ (0 ≤ (32 * to) + x14_3 ∧ (32 * to) + x14_3 < 128) ∧ (∀ f14 : Nat → Int32, f14 = z_s y14_ya_offset ((32 * to) + x14_3) (z_g y14_ya_offset ((32 * gi) + x14_3)) → (∀ f16 : Nat → Int32, f16 = z_s y14_ya_length ((32 * to) + x14_3) (z_g y14_ya_length ((32 * gi) + x14_3)) → L14 (x14_3 + 1) f14 f16)))) → L14 x14_3 y14_ya_offset y14_ya_length) →
L14 0 y_offset y_length))
set_option maxHeartbeats 4000000 in
set_option maxRecDepth 100000 in
theorem wk_X8_takes (l : Launch) (D : va_G) (cA : Nat → ClassId) (y : Nat) (ya_space : Nat) (y_space : Nat → Int32) (ya_offset : Nat) (y_offset : Nat → Int32) (ya_length : Nat) (y_length : Nat → Int32) (ya_units : Nat) (y_units : Nat → Int32) (ya_isThere : Nat) (y_isThere : Nat → Int32) (y_levels : Int) (y_level : Nat) (y_lines : Int) (y_lineLevel : Nat) (y_lineUnits : Nat) (y_lineFrom : Nat) (y_lineMany : Nat) (y_isClosed : Nat) (y_insides : Nat) (y_parent : Nat) (y_isHigh : Nat) (y_inBits : Nat) (y_sides : Int) (y_side : Nat) (y_sideA : Nat) (y_sideB : Nat) (y_lineSpace : Int) (y_wasThere : Nat) (y_leads : Nat) (y_isLed : Nat) (y_isOn : Nat) (y_goesTo : Nat) (y_stream : Nat) (y_filled : Nat) (y_isDone : Nat) (y_isReached : Nat) (ya_newUnits : Nat) (y_newUnits : Nat → Int32) (ya_isNew : Nat) (y_isNew : Nat → Int32) (gi : Int) (to : Int) (h_y_levels : z_in y_levels) (h_y_lines : z_in y_lines) (h_y_sides : z_in y_sides) (h_y_lineSpace : z_in y_lineSpace) (h_gi : z_in gi) (h_to : z_in to) (Q : (Nat → Int32) → (Nat → Int32) → (Nat → Int32) → (Nat → Int32) → (Nat → Int32) → Prop) (hv : vc_X8_takes y_space y_offset y_length y_units y_isThere y_newUnits y_isNew gi to Q) : Met l yX8_takes wsX8_takes ({ frames := 0, cells := 0, slots := 0, locals := 0 } : Room) (va_Pc [.ref y, .int (z_i gi), .int (z_i to)] (z_M0 D cA [(y, .inr (6, [.ref ya_space, .ref ya_offset, .ref ya_length, .ref ya_units, .ref ya_isThere, .int (z_i y_levels), .ref y_level, .int (z_i y_lines), .ref y_lineLevel, .ref y_lineUnits, .ref y_lineFrom, .ref y_lineMany, .ref y_isClosed, .ref y_insides, .ref y_parent, .ref y_isHigh, .ref y_inBits, .int (z_i y_sides), .ref y_side, .ref y_sideA, .ref y_sideB, .int (z_i y_lineSpace), .ref y_wasThere, .ref y_leads, .ref y_isLed, .ref y_isOn, .ref y_goesTo, .ref y_stream, .ref y_filled, .ref y_isDone, .ref y_isReached, .ref ya_newUnits, .ref ya_isNew])), (ya_space, .inl (cA 1, 4, .inl y_space)), (ya_offset, .inl (cA 1, 128, .inl y_offset)), (ya_length, .inl (cA 1, 128, .inl y_length)), (ya_units, .inl (cA 1, 5120, .inl y_units)), (ya_isThere, .inl (cA 3, 5120, .inl y_isThere)), (ya_newUnits, .inl (cA 1, 1280, .inl y_newUnits)), (ya_isNew, .inl (cA 3, 1280, .inl y_isNew))])) (va_Qv (fun (u : (Nat → Int32) × (Nat → Int32) × (Nat → Int32) × (Nat → Int32) × (Nat → Int32)) => Q u.1 u.2.1 u.2.2.1 u.2.2.2.1 u.2.2.2.2) (fun (u : (Nat → Int32) × (Nat → Int32) × (Nat → Int32) × (Nat → Int32) × (Nat → Int32)) t => va_P D vwCl [(y, .inr (6, [.ref ya_space, .ref ya_offset, .ref ya_length, .ref ya_units, .ref ya_isThere, .int (z_i y_levels), .ref y_level, .int (z_i y_lines), .ref y_lineLevel, .ref y_lineUnits, .ref y_lineFrom, .ref y_lineMany, .ref y_isClosed, .ref y_insides, .ref y_parent, .ref y_isHigh, .ref y_inBits, .int (z_i y_sides), .ref y_side, .ref y_sideA, .ref y_sideB, .int (z_i y_lineSpace), .ref y_wasThere, .ref y_leads, .ref y_isLed, .ref y_isOn, .ref y_goesTo, .ref y_stream, .ref y_filled, .ref y_isDone, .ref y_isReached, .ref ya_newUnits, .ref ya_isNew])), (ya_space, .inl (cA 1, 4, .inl u.1)), (ya_offset, .inl (cA 1, 128, .inl u.2.1)), (ya_length, .inl (cA 1, 128, .inl u.2.2.1)), (ya_units, .inl (cA 1, 5120, .inl u.2.2.2.1)), (ya_isThere, .inl (cA 3, 5120, .inl u.2.2.2.2)), (ya_newUnits, .inl (cA 1, 1280, .inl y_newUnits)), (ya_isNew, .inl (cA 3, 1280, .inl y_isNew))] t.heap) (z_A [(y, .inr (6, [.ref ya_space, .ref ya_offset, .ref ya_length, .ref ya_units, .ref ya_isThere, .int (z_i y_levels), .ref y_level, .int (z_i y_lines), .ref y_lineLevel, .ref y_lineUnits, .ref y_lineFrom, .ref y_lineMany, .ref y_isClosed, .ref y_insides, .ref y_parent, .ref y_isHigh, .ref y_inBits, .int (z_i y_sides), .ref y_side, .ref y_sideA, .ref y_sideB, .int (z_i y_lineSpace), .ref y_wasThere, .ref y_leads, .ref y_isLed, .ref y_isOn, .ref y_goesTo, .ref y_stream, .ref y_filled, .ref y_isDone, .ref y_isReached, .ref ya_newUnits, .ref ya_isNew])), (ya_space, .inl (cA 1, 4, .inl y_space)), (ya_offset, .inl (cA 1, 128, .inl y_offset)), (ya_length, .inl (cA 1, 128, .inl y_length)), (ya_units, .inl (cA 1, 5120, .inl y_units)), (ya_isThere, .inl (cA 3, 5120, .inl y_isThere)), (ya_newUnits, .inl (cA 1, 1280, .inl y_newUnits)), (ya_isNew, .inl (cA 3, 1280, .inl y_isNew))])) 0 0 (z_A [(y, .inr (6, [.ref ya_space, .ref ya_offset, .ref ya_length, .ref ya_units, .ref ya_isThere, .int (z_i y_levels), .ref y_level, .int (z_i y_lines), .ref y_lineLevel, .ref y_lineUnits, .ref y_lineFrom, .ref y_lineMany, .ref y_isClosed, .ref y_insides, .ref y_parent, .ref y_isHigh, .ref y_inBits, .int (z_i y_sides), .ref y_side, .ref y_sideA, .ref y_sideB, .int (z_i y_lineSpace), .ref y_wasThere, .ref y_leads, .ref y_isLed, .ref y_isOn, .ref y_goesTo, .ref y_stream, .ref y_filled, .ref y_isDone, .ref y_isReached, .ref ya_newUnits, .ref ya_isNew])), (ya_space, .inl (cA 1, 4, .inl y_space)), (ya_offset, .inl (cA 1, 128, .inl y_offset)), (ya_length, .inl (cA 1, 128, .inl y_length)), (ya_units, .inl (cA 1, 5120, .inl y_units)), (ya_isThere, .inl (cA 3, 5120, .inl y_isThere)), (ya_newUnits, .inl (cA 1, 1280, .inl y_newUnits)), (ya_isNew, .inl (cA 3, 1280, .inl y_isNew))]) := by
  unfold vc_X8_takes at hv
  refine Met.ofW (cc := cX8_takes) (maxL := 4) (ret := none) (by decide +kernel) rfl ?_
  intro p e s m args below meth c s₁ B hml hv0
  obtain ⟨rfl, hK, hP, hD0⟩ := hv0
  have hx := B.exec
  have hb := B.bytes
  have hr := B.returns
  have hts := atoms_spec (ws := wsX8_takes) B.pre
  have hown : s.vm.findClass RX8 = some m.cls := findClass_of_methodNamed B.named
  have hlocks := B.notSynchronized
  have hD := z_D_self hD0
  generalize hAe : z_A [(y, .inr (6, [.ref ya_space, .ref ya_offset, .ref ya_length, .ref ya_units, .ref ya_isThere, .int (z_i y_levels), .ref y_level, .int (z_i y_lines), .ref y_lineLevel, .ref y_lineUnits, .ref y_lineFrom, .ref y_lineMany, .ref y_isClosed, .ref y_insides, .ref y_parent, .ref y_isHigh, .ref y_inBits, .int (z_i y_sides), .ref y_side, .ref y_sideA, .ref y_sideB, .int (z_i y_lineSpace), .ref y_wasThere, .ref y_leads, .ref y_isLed, .ref y_isOn, .ref y_goesTo, .ref y_stream, .ref y_filled, .ref y_isDone, .ref y_isReached, .ref ya_newUnits, .ref ya_isNew])), (ya_space, .inl (cA 1, 4, .inl y_space)), (ya_offset, .inl (cA 1, 128, .inl y_offset)), (ya_length, .inl (cA 1, 128, .inl y_length)), (ya_units, .inl (cA 1, 5120, .inl y_units)), (ya_isThere, .inl (cA 3, 5120, .inl y_isThere)), (ya_newUnits, .inl (cA 1, 1280, .inl y_newUnits)), (ya_isNew, .inl (cA 3, 1280, .inl y_isNew))] = A at *
  have hS : va_S A s.heap s.heap [] := va_S.rf
  have hl := lv_entry ([.ref y, .int (z_i gi), .int (z_i to)]) (n := 4) (Nat.le_of_ble_eq_true rfl)
  rw [lg_entry_eq]
  generalize (lg_sl ([.ref y, .int (z_i gi), .int (z_i to)]) ++ List.replicate (4 - (lg_sl ([.ref y, .int (z_i gi), .int (z_i to)])).length) Slot.unset).toArray = ls at hl ⊢
  have hl : lv_has ls 4 [(0, .ref y), (1, .int (z_i gi)), (2, .int (z_i to))] := hl
  refine lv_aload_n hx hb dX8_takes_0 rfl (lv_at hl 0 rfl) ?_
  refine va_get (D := D) (ci := 6) (v := .ref ya_space) (C := RX8) (T := TX8) (N := 33) hx hb hts (fun w h => List.mem_cons_of_mem _ (List.mem_append_right _ h)) hown hK hP 0 rfl rfl 0 (by decide) (hts (.fieldLink RX8 7 "ContourSheetsModel" "space" "[I") (by decide +kernel)) (fun _ h9 => h9) rfl dX8_takes_1 ?_
  refine lv_iload_n hx hb dX8_takes_4 rfl (lv_at hl 2 rfl) ?_
  refine lv_aload_n hx hb dX8_takes_5 rfl (lv_at hl 0 rfl) ?_
  refine va_get (D := D) (ci := 6) (v := .ref ya_space) (C := RX8) (T := TX8) (N := 33) hx hb hts (fun w h => List.mem_cons_of_mem _ (List.mem_append_right _ h)) hown hK hP 0 rfl rfl 0 (by decide) (hts (.fieldLink RX8 7 "ContourSheetsModel" "space" "[I") (by decide +kernel)) (fun _ h9 => h9) rfl dX8_takes_6 ?_
  refine lv_iload_n hx hb dX8_takes_9 rfl (lv_at hl 1 rfl) ?_
  obtain ⟨hi1, hv⟩ := hv
  refine lx_iald hx hb hK hP 1 1 rfl rfl (by decide) hi1.1 hi1.2 dX8_takes_10 ?_
  obtain ⟨hi2, hv⟩ := hv
  refine lx_iast hx hb hK hP hD hS 1 1 rfl rfl (by decide) hi2.1 hi2.2 dX8_takes_11 (fun H locs hP hD hS => ?_)
  obtain ⟨f3, hy4⟩ : ∃ y : Nat → Int32, y = z_s y_space to (z_g y_space gi) := ⟨_, rfl⟩
  have hv := hv f3 hy4
  have hP : va_P D vwCl [(y, .inr (6, [.ref ya_space, .ref ya_offset, .ref ya_length, .ref ya_units, .ref ya_isThere, .int (z_i y_levels), .ref y_level, .int (z_i y_lines), .ref y_lineLevel, .ref y_lineUnits, .ref y_lineFrom, .ref y_lineMany, .ref y_isClosed, .ref y_insides, .ref y_parent, .ref y_isHigh, .ref y_inBits, .int (z_i y_sides), .ref y_side, .ref y_sideA, .ref y_sideB, .int (z_i y_lineSpace), .ref y_wasThere, .ref y_leads, .ref y_isLed, .ref y_isOn, .ref y_goesTo, .ref y_stream, .ref y_filled, .ref y_isDone, .ref y_isReached, .ref ya_newUnits, .ref ya_isNew])), (ya_space, .inl (cA 1, 4, .inl f3)), (ya_offset, .inl (cA 1, 128, .inl y_offset)), (ya_length, .inl (cA 1, 128, .inl y_length)), (ya_units, .inl (cA 1, 5120, .inl y_units)), (ya_isThere, .inl (cA 3, 5120, .inl y_isThere)), (ya_newUnits, .inl (cA 1, 1280, .inl y_newUnits)), (ya_isNew, .inl (cA 3, 1280, .inl y_isNew))] H := by rw [hy4]; exact hP
  have hD : va_D A [(y, .inr (6, [.ref ya_space, .ref ya_offset, .ref ya_length, .ref ya_units, .ref ya_isThere, .int (z_i y_levels), .ref y_level, .int (z_i y_lines), .ref y_lineLevel, .ref y_lineUnits, .ref y_lineFrom, .ref y_lineMany, .ref y_isClosed, .ref y_insides, .ref y_parent, .ref y_isHigh, .ref y_inBits, .int (z_i y_sides), .ref y_side, .ref y_sideA, .ref y_sideB, .int (z_i y_lineSpace), .ref y_wasThere, .ref y_leads, .ref y_isLed, .ref y_isOn, .ref y_goesTo, .ref y_stream, .ref y_filled, .ref y_isDone, .ref y_isReached, .ref ya_newUnits, .ref ya_isNew])), (ya_space, .inl (cA 1, 4, .inl f3)), (ya_offset, .inl (cA 1, 128, .inl y_offset)), (ya_length, .inl (cA 1, 128, .inl y_length)), (ya_units, .inl (cA 1, 5120, .inl y_units)), (ya_isThere, .inl (cA 3, 5120, .inl y_isThere)), (ya_newUnits, .inl (cA 1, 1280, .inl y_newUnits)), (ya_isNew, .inl (cA 3, 1280, .inl y_isNew))] := by rw [hy4]; exact hD
  refine lv_iconst (v := z_i 0) hx hb dX8_takes_12 rfl ?_
  refine lv_istore_n (lv' := [(3, .int (z_i 0)), (0, .ref y), (1, .int (z_i gi)), (2, .int (z_i to))]) hx hb dX8_takes_13 rfl hl (by decide) rfl (fun ls hl => ?_)
  refine hv (fun (x14_3 : Int) (y14_ya_offset : Nat → Int32) (y14_ya_length : Nat → Int32) => ∀ (H : Heap) (locs : List Loc) (ls : Array Slot), va_P D vwCl [(y, .inr (6, [.ref ya_space, .ref ya_offset, .ref ya_length, .ref ya_units, .ref ya_isThere, .int (z_i y_levels), .ref y_level, .int (z_i y_lines), .ref y_lineLevel, .ref y_lineUnits, .ref y_lineFrom, .ref y_lineMany, .ref y_isClosed, .ref y_insides, .ref y_parent, .ref y_isHigh, .ref y_inBits, .int (z_i y_sides), .ref y_side, .ref y_sideA, .ref y_sideB, .int (z_i y_lineSpace), .ref y_wasThere, .ref y_leads, .ref y_isLed, .ref y_isOn, .ref y_goesTo, .ref y_stream, .ref y_filled, .ref y_isDone, .ref y_isReached, .ref ya_newUnits, .ref ya_isNew])), (ya_space, .inl (cA 1, 4, .inl f3)), (ya_offset, .inl (cA 1, 128, .inl y14_ya_offset)), (ya_length, .inl (cA 1, 128, .inl y14_ya_length)), (ya_units, .inl (cA 1, 5120, .inl y_units)), (ya_isThere, .inl (cA 3, 5120, .inl y_isThere)), (ya_newUnits, .inl (cA 1, 1280, .inl y_newUnits)), (ya_isNew, .inl (cA 3, 1280, .inl y_isNew))] H → va_D A [(y, .inr (6, [.ref ya_space, .ref ya_offset, .ref ya_length, .ref ya_units, .ref ya_isThere, .int (z_i y_levels), .ref y_level, .int (z_i y_lines), .ref y_lineLevel, .ref y_lineUnits, .ref y_lineFrom, .ref y_lineMany, .ref y_isClosed, .ref y_insides, .ref y_parent, .ref y_isHigh, .ref y_inBits, .int (z_i y_sides), .ref y_side, .ref y_sideA, .ref y_sideB, .int (z_i y_lineSpace), .ref y_wasThere, .ref y_leads, .ref y_isLed, .ref y_isOn, .ref y_goesTo, .ref y_stream, .ref y_filled, .ref y_isDone, .ref y_isReached, .ref ya_newUnits, .ref ya_isNew])), (ya_space, .inl (cA 1, 4, .inl f3)), (ya_offset, .inl (cA 1, 128, .inl y14_ya_offset)), (ya_length, .inl (cA 1, 128, .inl y14_ya_length)), (ya_units, .inl (cA 1, 5120, .inl y_units)), (ya_isThere, .inl (cA 3, 5120, .inl y_isThere)), (ya_newUnits, .inl (cA 1, 1280, .inl y_newUnits)), (ya_isNew, .inl (cA 3, 1280, .inl y_isNew))] → va_S A s.heap H locs → lv_has ls 4 [(3, .int (z_i x14_3)), (0, .ref y), (1, .int (z_i gi)), (2, .int (z_i to))] → W p l e _ s m _ below meth c H locs 0 0 _ (F0 m 14 ls [])) ?_ _ _ ls hP hD hS (lv_sub hl [0, 1, 2, 3] rfl)
  intro x14_3 y14_ya_offset y14_ya_length h_x14_3 hv H locs ls hP hD hS hl
  refine lv_iload_n hx hb dX8_takes_14 rfl (lv_at hl 0 rfl) ?_
  refine lv_bipush (v := z_i 32) hx hb dX8_takes_15 (by decide) ?_
  refine lx_icmp_ge (tgt := 70) hx hb dX8_takes_17 (by decide) h_x14_3 (show z_in 32 from ⟨by decide, by decide⟩) (fun hc => ?_) (fun hc => ?_)
  · have hv := hv.1 hc
    refine lv_iconst (v := z_i 0) hx hb dX8_takes_70 rfl ?_
    refine lv_istore_n (lv' := [(3, .int (z_i 0)), (0, .ref y), (1, .int (z_i gi)), (2, .int (z_i to))]) hx hb dX8_takes_71 rfl hl (by decide) rfl (fun ls hl => ?_)
    refine hv (fun (x72_3 : Int) (y72_ya_units : Nat → Int32) (y72_ya_isThere : Nat → Int32) => ∀ (H : Heap) (locs : List Loc) (ls : Array Slot), va_P D vwCl [(y, .inr (6, [.ref ya_space, .ref ya_offset, .ref ya_length, .ref ya_units, .ref ya_isThere, .int (z_i y_levels), .ref y_level, .int (z_i y_lines), .ref y_lineLevel, .ref y_lineUnits, .ref y_lineFrom, .ref y_lineMany, .ref y_isClosed, .ref y_insides, .ref y_parent, .ref y_isHigh, .ref y_inBits, .int (z_i y_sides), .ref y_side, .ref y_sideA, .ref y_sideB, .int (z_i y_lineSpace), .ref y_wasThere, .ref y_leads, .ref y_isLed, .ref y_isOn, .ref y_goesTo, .ref y_stream, .ref y_filled, .ref y_isDone, .ref y_isReached, .ref ya_newUnits, .ref ya_isNew])), (ya_space, .inl (cA 1, 4, .inl f3)), (ya_offset, .inl (cA 1, 128, .inl y14_ya_offset)), (ya_length, .inl (cA 1, 128, .inl y14_ya_length)), (ya_units, .inl (cA 1, 5120, .inl y72_ya_units)), (ya_isThere, .inl (cA 3, 5120, .inl y72_ya_isThere)), (ya_newUnits, .inl (cA 1, 1280, .inl y_newUnits)), (ya_isNew, .inl (cA 3, 1280, .inl y_isNew))] H → va_D A [(y, .inr (6, [.ref ya_space, .ref ya_offset, .ref ya_length, .ref ya_units, .ref ya_isThere, .int (z_i y_levels), .ref y_level, .int (z_i y_lines), .ref y_lineLevel, .ref y_lineUnits, .ref y_lineFrom, .ref y_lineMany, .ref y_isClosed, .ref y_insides, .ref y_parent, .ref y_isHigh, .ref y_inBits, .int (z_i y_sides), .ref y_side, .ref y_sideA, .ref y_sideB, .int (z_i y_lineSpace), .ref y_wasThere, .ref y_leads, .ref y_isLed, .ref y_isOn, .ref y_goesTo, .ref y_stream, .ref y_filled, .ref y_isDone, .ref y_isReached, .ref ya_newUnits, .ref ya_isNew])), (ya_space, .inl (cA 1, 4, .inl f3)), (ya_offset, .inl (cA 1, 128, .inl y14_ya_offset)), (ya_length, .inl (cA 1, 128, .inl y14_ya_length)), (ya_units, .inl (cA 1, 5120, .inl y72_ya_units)), (ya_isThere, .inl (cA 3, 5120, .inl y72_ya_isThere)), (ya_newUnits, .inl (cA 1, 1280, .inl y_newUnits)), (ya_isNew, .inl (cA 3, 1280, .inl y_isNew))] → va_S A s.heap H locs → lv_has ls 4 [(3, .int (z_i x72_3)), (0, .ref y), (2, .int (z_i to))] → W p l e _ s m _ below meth c H locs 0 0 _ (F0 m 72 ls [])) ?_ _ _ ls hP hD hS (lv_sub hl [0, 1, 3] rfl)
    intro x72_3 y72_ya_units y72_ya_isThere h_x72_3 hv H locs ls hP hD hS hl
    refine lv_iload_n hx hb dX8_takes_72 rfl (lv_at hl 0 rfl) ?_
    refine lv_sipush (v := z_i 1280) hx hb dX8_takes_73 (by decide) ?_
    refine lx_icmp_ge (tgt := 121) hx hb dX8_takes_76 (by decide) h_x72_3 (show z_in 1280 from ⟨by decide, by decide⟩) (fun hc => ?_) (fun hc => ?_)
    · have hv := hv.1 hc
      exact W.vret hx hb hr (fun t ht hW => ⟨⟨(f3, y14_ya_offset, y14_ya_length, y72_ya_units, y72_ya_isThere), rfl, hv, z_pt hP ht⟩, hS.F ht⟩) hS.2.2 dX8_takes_121
    · have hv := hv.2 hc
      refine lv_aload_n hx hb dX8_takes_79 rfl (lv_at hl 1 rfl) ?_
      refine va_get (D := D) (ci := 6) (v := .ref ya_units) (C := RX8) (T := TX8) (N := 33) hx hb hts (fun w h => List.mem_cons_of_mem _ (List.mem_append_right _ h)) hown hK hP 0 rfl rfl 3 (by decide) (hts (.fieldLink RX8 19 "ContourSheetsModel" "units" "[I") (by decide +kernel)) (fun _ h9 => h9) rfl dX8_takes_80 ?_
      refine lv_sipush (v := z_i 1280) hx hb dX8_takes_83 (by decide) ?_
      refine lv_iload_n hx hb dX8_takes_86 rfl (lv_at hl 2 rfl) ?_
      refine lx_imul hx hb dX8_takes_87 ?_
      refine lv_iload_n hx hb dX8_takes_88 rfl (lv_at hl 0 rfl) ?_
      refine lx_iadd hx hb dX8_takes_89 ?_
      refine lv_aload_n hx hb dX8_takes_90 rfl (lv_at hl 1 rfl) ?_
      refine va_get (D := D) (ci := 6) (v := .ref ya_newUnits) (C := RX8) (T := TX8) (N := 33) hx hb hts (fun w h => List.mem_cons_of_mem _ (List.mem_append_right _ h)) hown hK hP 0 rfl rfl 31 (by decide) (hts (.fieldLink RX8 93 "ContourSheetsModel" "newUnits" "[I") (by decide +kernel)) (fun _ h9 => h9) rfl dX8_takes_91 ?_
      refine lv_iload_n hx hb dX8_takes_94 rfl (lv_at hl 0 rfl) ?_
      obtain ⟨hi5, hv⟩ := hv
      refine lx_iald hx hb hK hP 6 1 rfl rfl (by decide) hi5.1 hi5.2 dX8_takes_95 ?_
      obtain ⟨hi6, hv⟩ := hv
      refine lx_iast hx hb hK hP hD hS 4 1 rfl rfl (by decide) hi6.1 hi6.2 dX8_takes_96 (fun H locs hP hD hS => ?_)
      obtain ⟨f7, hy8⟩ : ∃ y : Nat → Int32, y = z_s y72_ya_units ((1280 * to) + x72_3) (z_g y_newUnits x72_3) := ⟨_, rfl⟩
      have hv := hv f7 hy8
      have hP : va_P D vwCl [(y, .inr (6, [.ref ya_space, .ref ya_offset, .ref ya_length, .ref ya_units, .ref ya_isThere, .int (z_i y_levels), .ref y_level, .int (z_i y_lines), .ref y_lineLevel, .ref y_lineUnits, .ref y_lineFrom, .ref y_lineMany, .ref y_isClosed, .ref y_insides, .ref y_parent, .ref y_isHigh, .ref y_inBits, .int (z_i y_sides), .ref y_side, .ref y_sideA, .ref y_sideB, .int (z_i y_lineSpace), .ref y_wasThere, .ref y_leads, .ref y_isLed, .ref y_isOn, .ref y_goesTo, .ref y_stream, .ref y_filled, .ref y_isDone, .ref y_isReached, .ref ya_newUnits, .ref ya_isNew])), (ya_space, .inl (cA 1, 4, .inl f3)), (ya_offset, .inl (cA 1, 128, .inl y14_ya_offset)), (ya_length, .inl (cA 1, 128, .inl y14_ya_length)), (ya_units, .inl (cA 1, 5120, .inl f7)), (ya_isThere, .inl (cA 3, 5120, .inl y72_ya_isThere)), (ya_newUnits, .inl (cA 1, 1280, .inl y_newUnits)), (ya_isNew, .inl (cA 3, 1280, .inl y_isNew))] H := by rw [hy8]; exact hP
      have hD : va_D A [(y, .inr (6, [.ref ya_space, .ref ya_offset, .ref ya_length, .ref ya_units, .ref ya_isThere, .int (z_i y_levels), .ref y_level, .int (z_i y_lines), .ref y_lineLevel, .ref y_lineUnits, .ref y_lineFrom, .ref y_lineMany, .ref y_isClosed, .ref y_insides, .ref y_parent, .ref y_isHigh, .ref y_inBits, .int (z_i y_sides), .ref y_side, .ref y_sideA, .ref y_sideB, .int (z_i y_lineSpace), .ref y_wasThere, .ref y_leads, .ref y_isLed, .ref y_isOn, .ref y_goesTo, .ref y_stream, .ref y_filled, .ref y_isDone, .ref y_isReached, .ref ya_newUnits, .ref ya_isNew])), (ya_space, .inl (cA 1, 4, .inl f3)), (ya_offset, .inl (cA 1, 128, .inl y14_ya_offset)), (ya_length, .inl (cA 1, 128, .inl y14_ya_length)), (ya_units, .inl (cA 1, 5120, .inl f7)), (ya_isThere, .inl (cA 3, 5120, .inl y72_ya_isThere)), (ya_newUnits, .inl (cA 1, 1280, .inl y_newUnits)), (ya_isNew, .inl (cA 3, 1280, .inl y_isNew))] := by rw [hy8]; exact hD
      refine lv_aload_n hx hb dX8_takes_97 rfl (lv_at hl 1 rfl) ?_
      refine va_get (D := D) (ci := 6) (v := .ref ya_isThere) (C := RX8) (T := TX8) (N := 33) hx hb hts (fun w h => List.mem_cons_of_mem _ (List.mem_append_right _ h)) hown hK hP 0 rfl rfl 4 (by decide) (hts (.fieldLink RX8 22 "ContourSheetsModel" "isThere" "[Z") (by decide +kernel)) (fun _ h9 => h9) rfl dX8_takes_98 ?_
      refine lv_sipush (v := z_i 1280) hx hb dX8_takes_101 (by decide) ?_
      refine lv_iload_n hx hb dX8_takes_104 rfl (lv_at hl 2 rfl) ?_
      refine lx_imul hx hb dX8_takes_105 ?_
      refine lv_iload_n hx hb dX8_takes_106 rfl (lv_at hl 0 rfl) ?_
      refine lx_iadd hx hb dX8_takes_107 ?_
      refine lv_aload_n hx hb dX8_takes_108 rfl (lv_at hl 1 rfl) ?_
      refine va_get (D := D) (ci := 6) (v := .ref ya_isNew) (C := RX8) (T := TX8) (N := 33) hx hb hts (fun w h => List.mem_cons_of_mem _ (List.mem_append_right _ h)) hown hK hP 0 rfl rfl 32 (by decide) (hts (.fieldLink RX8 96 "ContourSheetsModel" "isNew" "[Z") (by decide +kernel)) (fun _ h9 => h9) rfl dX8_takes_109 ?_
      refine lv_iload_n hx hb dX8_takes_112 rfl (lv_at hl 0 rfl) ?_
      refine lx_zald hx hb hK hP 7 3 rfl rfl (by decide) hi5.1 hi5.2 dX8_takes_113 ?_
      obtain ⟨hb9, hv⟩ := hv
      refine lx_zast hx hb hK hP hD hS 5 3 rfl rfl (by decide) hi6.1 hi6.2 hb9 dX8_takes_114 (fun H locs hP hD hS => ?_)
      obtain ⟨f10, hy11⟩ : ∃ y : Nat → Int32, y = z_s y72_ya_isThere ((1280 * to) + x72_3) (z_g y_isNew x72_3) := ⟨_, rfl⟩
      have hv := hv f10 hy11
      have hP : va_P D vwCl [(y, .inr (6, [.ref ya_space, .ref ya_offset, .ref ya_length, .ref ya_units, .ref ya_isThere, .int (z_i y_levels), .ref y_level, .int (z_i y_lines), .ref y_lineLevel, .ref y_lineUnits, .ref y_lineFrom, .ref y_lineMany, .ref y_isClosed, .ref y_insides, .ref y_parent, .ref y_isHigh, .ref y_inBits, .int (z_i y_sides), .ref y_side, .ref y_sideA, .ref y_sideB, .int (z_i y_lineSpace), .ref y_wasThere, .ref y_leads, .ref y_isLed, .ref y_isOn, .ref y_goesTo, .ref y_stream, .ref y_filled, .ref y_isDone, .ref y_isReached, .ref ya_newUnits, .ref ya_isNew])), (ya_space, .inl (cA 1, 4, .inl f3)), (ya_offset, .inl (cA 1, 128, .inl y14_ya_offset)), (ya_length, .inl (cA 1, 128, .inl y14_ya_length)), (ya_units, .inl (cA 1, 5120, .inl f7)), (ya_isThere, .inl (cA 3, 5120, .inl f10)), (ya_newUnits, .inl (cA 1, 1280, .inl y_newUnits)), (ya_isNew, .inl (cA 3, 1280, .inl y_isNew))] H := by rw [hy11]; exact hP
      have hD : va_D A [(y, .inr (6, [.ref ya_space, .ref ya_offset, .ref ya_length, .ref ya_units, .ref ya_isThere, .int (z_i y_levels), .ref y_level, .int (z_i y_lines), .ref y_lineLevel, .ref y_lineUnits, .ref y_lineFrom, .ref y_lineMany, .ref y_isClosed, .ref y_insides, .ref y_parent, .ref y_isHigh, .ref y_inBits, .int (z_i y_sides), .ref y_side, .ref y_sideA, .ref y_sideB, .int (z_i y_lineSpace), .ref y_wasThere, .ref y_leads, .ref y_isLed, .ref y_isOn, .ref y_goesTo, .ref y_stream, .ref y_filled, .ref y_isDone, .ref y_isReached, .ref ya_newUnits, .ref ya_isNew])), (ya_space, .inl (cA 1, 4, .inl f3)), (ya_offset, .inl (cA 1, 128, .inl y14_ya_offset)), (ya_length, .inl (cA 1, 128, .inl y14_ya_length)), (ya_units, .inl (cA 1, 5120, .inl f7)), (ya_isThere, .inl (cA 3, 5120, .inl f10)), (ya_newUnits, .inl (cA 1, 1280, .inl y_newUnits)), (ya_isNew, .inl (cA 3, 1280, .inl y_isNew))] := by rw [hy11]; exact hD
      refine lv_iinc (v := z_i (x72_3 + 1)) (lv' := [(3, .int (z_i (x72_3 + 1))), (0, .ref y), (2, .int (z_i to))]) hx hb dX8_takes_115 hl (k := 0) rfl (z_i_add _ _) (by decide) rfl (fun ls hl => ?_)
      refine lv_goto (tgt := 72) hx hb dX8_takes_118 (by decide) ?_
      exact hv _ _ ls hP hD hS (lv_sub hl [0, 1, 2] rfl)
  · have hv := hv.2 hc
    refine lv_aload_n hx hb dX8_takes_20 rfl (lv_at hl 1 rfl) ?_
    refine va_get (D := D) (ci := 6) (v := .ref ya_offset) (C := RX8) (T := TX8) (N := 33) hx hb hts (fun w h => List.mem_cons_of_mem _ (List.mem_append_right _ h)) hown hK hP 0 rfl rfl 1 (by decide) (hts (.fieldLink RX8 13 "ContourSheetsModel" "offset" "[I") (by decide +kernel)) (fun _ h9 => h9) rfl dX8_takes_21 ?_
    refine lv_bipush (v := z_i 32) hx hb dX8_takes_24 (by decide) ?_
    refine lv_iload_n hx hb dX8_takes_26 rfl (lv_at hl 3 rfl) ?_
    refine lx_imul hx hb dX8_takes_27 ?_
    refine lv_iload_n hx hb dX8_takes_28 rfl (lv_at hl 0 rfl) ?_
    refine lx_iadd hx hb dX8_takes_29 ?_
    refine lv_aload_n hx hb dX8_takes_30 rfl (lv_at hl 1 rfl) ?_
    refine va_get (D := D) (ci := 6) (v := .ref ya_offset) (C := RX8) (T := TX8) (N := 33) hx hb hts (fun w h => List.mem_cons_of_mem _ (List.mem_append_right _ h)) hown hK hP 0 rfl rfl 1 (by decide) (hts (.fieldLink RX8 13 "ContourSheetsModel" "offset" "[I") (by decide +kernel)) (fun _ h9 => h9) rfl dX8_takes_31 ?_
    refine lv_bipush (v := z_i 32) hx hb dX8_takes_34 (by decide) ?_
    refine lv_iload_n hx hb dX8_takes_36 rfl (lv_at hl 2 rfl) ?_
    refine lx_imul hx hb dX8_takes_37 ?_
    refine lv_iload_n hx hb dX8_takes_38 rfl (lv_at hl 0 rfl) ?_
    refine lx_iadd hx hb dX8_takes_39 ?_
    obtain ⟨hi12, hv⟩ := hv
    refine lx_iald hx hb hK hP 2 1 rfl rfl (by decide) hi12.1 hi12.2 dX8_takes_40 ?_
    obtain ⟨hi13, hv⟩ := hv
    refine lx_iast hx hb hK hP hD hS 2 1 rfl rfl (by decide) hi13.1 hi13.2 dX8_takes_41 (fun H locs hP hD hS => ?_)
    obtain ⟨f14, hy15⟩ : ∃ y : Nat → Int32, y = z_s y14_ya_offset ((32 * to) + x14_3) (z_g y14_ya_offset ((32 * gi) + x14_3)) := ⟨_, rfl⟩
    have hv := hv f14 hy15
    have hP : va_P D vwCl [(y, .inr (6, [.ref ya_space, .ref ya_offset, .ref ya_length, .ref ya_units, .ref ya_isThere, .int (z_i y_levels), .ref y_level, .int (z_i y_lines), .ref y_lineLevel, .ref y_lineUnits, .ref y_lineFrom, .ref y_lineMany, .ref y_isClosed, .ref y_insides, .ref y_parent, .ref y_isHigh, .ref y_inBits, .int (z_i y_sides), .ref y_side, .ref y_sideA, .ref y_sideB, .int (z_i y_lineSpace), .ref y_wasThere, .ref y_leads, .ref y_isLed, .ref y_isOn, .ref y_goesTo, .ref y_stream, .ref y_filled, .ref y_isDone, .ref y_isReached, .ref ya_newUnits, .ref ya_isNew])), (ya_space, .inl (cA 1, 4, .inl f3)), (ya_offset, .inl (cA 1, 128, .inl f14)), (ya_length, .inl (cA 1, 128, .inl y14_ya_length)), (ya_units, .inl (cA 1, 5120, .inl y_units)), (ya_isThere, .inl (cA 3, 5120, .inl y_isThere)), (ya_newUnits, .inl (cA 1, 1280, .inl y_newUnits)), (ya_isNew, .inl (cA 3, 1280, .inl y_isNew))] H := by rw [hy15]; exact hP
    have hD : va_D A [(y, .inr (6, [.ref ya_space, .ref ya_offset, .ref ya_length, .ref ya_units, .ref ya_isThere, .int (z_i y_levels), .ref y_level, .int (z_i y_lines), .ref y_lineLevel, .ref y_lineUnits, .ref y_lineFrom, .ref y_lineMany, .ref y_isClosed, .ref y_insides, .ref y_parent, .ref y_isHigh, .ref y_inBits, .int (z_i y_sides), .ref y_side, .ref y_sideA, .ref y_sideB, .int (z_i y_lineSpace), .ref y_wasThere, .ref y_leads, .ref y_isLed, .ref y_isOn, .ref y_goesTo, .ref y_stream, .ref y_filled, .ref y_isDone, .ref y_isReached, .ref ya_newUnits, .ref ya_isNew])), (ya_space, .inl (cA 1, 4, .inl f3)), (ya_offset, .inl (cA 1, 128, .inl f14)), (ya_length, .inl (cA 1, 128, .inl y14_ya_length)), (ya_units, .inl (cA 1, 5120, .inl y_units)), (ya_isThere, .inl (cA 3, 5120, .inl y_isThere)), (ya_newUnits, .inl (cA 1, 1280, .inl y_newUnits)), (ya_isNew, .inl (cA 3, 1280, .inl y_isNew))] := by rw [hy15]; exact hD
    refine lv_aload_n hx hb dX8_takes_42 rfl (lv_at hl 1 rfl) ?_
    refine va_get (D := D) (ci := 6) (v := .ref ya_length) (C := RX8) (T := TX8) (N := 33) hx hb hts (fun w h => List.mem_cons_of_mem _ (List.mem_append_right _ h)) hown hK hP 0 rfl rfl 2 (by decide) (hts (.fieldLink RX8 16 "ContourSheetsModel" "length" "[I") (by decide +kernel)) (fun _ h9 => h9) rfl dX8_takes_43 ?_
    refine lv_bipush (v := z_i 32) hx hb dX8_takes_46 (by decide) ?_
    refine lv_iload_n hx hb dX8_takes_48 rfl (lv_at hl 3 rfl) ?_
    refine lx_imul hx hb dX8_takes_49 ?_
    refine lv_iload_n hx hb dX8_takes_50 rfl (lv_at hl 0 rfl) ?_
    refine lx_iadd hx hb dX8_takes_51 ?_
    refine lv_aload_n hx hb dX8_takes_52 rfl (lv_at hl 1 rfl) ?_
    refine va_get (D := D) (ci := 6) (v := .ref ya_length) (C := RX8) (T := TX8) (N := 33) hx hb hts (fun w h => List.mem_cons_of_mem _ (List.mem_append_right _ h)) hown hK hP 0 rfl rfl 2 (by decide) (hts (.fieldLink RX8 16 "ContourSheetsModel" "length" "[I") (by decide +kernel)) (fun _ h9 => h9) rfl dX8_takes_53 ?_
    refine lv_bipush (v := z_i 32) hx hb dX8_takes_56 (by decide) ?_
    refine lv_iload_n hx hb dX8_takes_58 rfl (lv_at hl 2 rfl) ?_
    refine lx_imul hx hb dX8_takes_59 ?_
    refine lv_iload_n hx hb dX8_takes_60 rfl (lv_at hl 0 rfl) ?_
    refine lx_iadd hx hb dX8_takes_61 ?_
    refine lx_iald hx hb hK hP 3 1 rfl rfl (by decide) hi12.1 hi12.2 dX8_takes_62 ?_
    refine lx_iast hx hb hK hP hD hS 3 1 rfl rfl (by decide) hi13.1 hi13.2 dX8_takes_63 (fun H locs hP hD hS => ?_)
    obtain ⟨f16, hy17⟩ : ∃ y : Nat → Int32, y = z_s y14_ya_length ((32 * to) + x14_3) (z_g y14_ya_length ((32 * gi) + x14_3)) := ⟨_, rfl⟩
    have hv := hv f16 hy17
    have hP : va_P D vwCl [(y, .inr (6, [.ref ya_space, .ref ya_offset, .ref ya_length, .ref ya_units, .ref ya_isThere, .int (z_i y_levels), .ref y_level, .int (z_i y_lines), .ref y_lineLevel, .ref y_lineUnits, .ref y_lineFrom, .ref y_lineMany, .ref y_isClosed, .ref y_insides, .ref y_parent, .ref y_isHigh, .ref y_inBits, .int (z_i y_sides), .ref y_side, .ref y_sideA, .ref y_sideB, .int (z_i y_lineSpace), .ref y_wasThere, .ref y_leads, .ref y_isLed, .ref y_isOn, .ref y_goesTo, .ref y_stream, .ref y_filled, .ref y_isDone, .ref y_isReached, .ref ya_newUnits, .ref ya_isNew])), (ya_space, .inl (cA 1, 4, .inl f3)), (ya_offset, .inl (cA 1, 128, .inl f14)), (ya_length, .inl (cA 1, 128, .inl f16)), (ya_units, .inl (cA 1, 5120, .inl y_units)), (ya_isThere, .inl (cA 3, 5120, .inl y_isThere)), (ya_newUnits, .inl (cA 1, 1280, .inl y_newUnits)), (ya_isNew, .inl (cA 3, 1280, .inl y_isNew))] H := by rw [hy17]; exact hP
    have hD : va_D A [(y, .inr (6, [.ref ya_space, .ref ya_offset, .ref ya_length, .ref ya_units, .ref ya_isThere, .int (z_i y_levels), .ref y_level, .int (z_i y_lines), .ref y_lineLevel, .ref y_lineUnits, .ref y_lineFrom, .ref y_lineMany, .ref y_isClosed, .ref y_insides, .ref y_parent, .ref y_isHigh, .ref y_inBits, .int (z_i y_sides), .ref y_side, .ref y_sideA, .ref y_sideB, .int (z_i y_lineSpace), .ref y_wasThere, .ref y_leads, .ref y_isLed, .ref y_isOn, .ref y_goesTo, .ref y_stream, .ref y_filled, .ref y_isDone, .ref y_isReached, .ref ya_newUnits, .ref ya_isNew])), (ya_space, .inl (cA 1, 4, .inl f3)), (ya_offset, .inl (cA 1, 128, .inl f14)), (ya_length, .inl (cA 1, 128, .inl f16)), (ya_units, .inl (cA 1, 5120, .inl y_units)), (ya_isThere, .inl (cA 3, 5120, .inl y_isThere)), (ya_newUnits, .inl (cA 1, 1280, .inl y_newUnits)), (ya_isNew, .inl (cA 3, 1280, .inl y_isNew))] := by rw [hy17]; exact hD
    refine lv_iinc (v := z_i (x14_3 + 1)) (lv' := [(3, .int (z_i (x14_3 + 1))), (0, .ref y), (1, .int (z_i gi)), (2, .int (z_i to))]) hx hb dX8_takes_64 hl (k := 0) rfl (z_i_add _ _) (by decide) rfl (fun ls hl => ?_)
    refine lv_goto (tgt := 14) hx hb dX8_takes_67 (by decide) ?_
    exact hv _ _ ls hP hD hS (lv_sub hl [0, 1, 2, 3] rfl)
set_option maxHeartbeats 4000000 in
set_option maxRecDepth 100000 in
theorem mt_X8_takes (l : Launch) (D : va_G) (cA : Nat → ClassId) (y : Nat) (ya_space : Nat) (y_space : Nat → Int32) (ya_offset : Nat) (y_offset : Nat → Int32) (ya_length : Nat) (y_length : Nat → Int32) (ya_units : Nat) (y_units : Nat → Int32) (ya_isThere : Nat) (y_isThere : Nat → Int32) (y_levels : Int) (y_level : Nat) (y_lines : Int) (y_lineLevel : Nat) (y_lineUnits : Nat) (y_lineFrom : Nat) (y_lineMany : Nat) (y_isClosed : Nat) (y_insides : Nat) (y_parent : Nat) (y_isHigh : Nat) (y_inBits : Nat) (y_sides : Int) (y_side : Nat) (y_sideA : Nat) (y_sideB : Nat) (y_lineSpace : Int) (y_wasThere : Nat) (y_leads : Nat) (y_isLed : Nat) (y_isOn : Nat) (y_goesTo : Nat) (y_stream : Nat) (y_filled : Nat) (y_isDone : Nat) (y_isReached : Nat) (ya_newUnits : Nat) (y_newUnits : Nat → Int32) (ya_isNew : Nat) (y_isNew : Nat → Int32) (gi : Int) (to : Int) (h_y_levels : z_in y_levels) (h_y_lines : z_in y_lines) (h_y_sides : z_in y_sides) (h_y_lineSpace : z_in y_lineSpace) (h_gi : z_in gi) (h_to : z_in to) (hp1 : 0 ≤ gi ∧ gi < 4) (hp2 : 0 ≤ to ∧ to < 4) (hp3 : ∀ n : Int, 0 ≤ n → n < 1280 → z_g y_isNew n = 0 ∨ z_g y_isNew n = 1) : Met l yX8_takes wsX8_takes ({ frames := 0, cells := 0, slots := 0, locals := 0 } : Room) (va_Pc [.ref y, .int (z_i gi), .int (z_i to)] (z_M0 D cA [(y, .inr (6, [.ref ya_space, .ref ya_offset, .ref ya_length, .ref ya_units, .ref ya_isThere, .int (z_i y_levels), .ref y_level, .int (z_i y_lines), .ref y_lineLevel, .ref y_lineUnits, .ref y_lineFrom, .ref y_lineMany, .ref y_isClosed, .ref y_insides, .ref y_parent, .ref y_isHigh, .ref y_inBits, .int (z_i y_sides), .ref y_side, .ref y_sideA, .ref y_sideB, .int (z_i y_lineSpace), .ref y_wasThere, .ref y_leads, .ref y_isLed, .ref y_isOn, .ref y_goesTo, .ref y_stream, .ref y_filled, .ref y_isDone, .ref y_isReached, .ref ya_newUnits, .ref ya_isNew])), (ya_space, .inl (cA 1, 4, .inl y_space)), (ya_offset, .inl (cA 1, 128, .inl y_offset)), (ya_length, .inl (cA 1, 128, .inl y_length)), (ya_units, .inl (cA 1, 5120, .inl y_units)), (ya_isThere, .inl (cA 3, 5120, .inl y_isThere)), (ya_newUnits, .inl (cA 1, 1280, .inl y_newUnits)), (ya_isNew, .inl (cA 3, 1280, .inl y_isNew))])) (va_Qv (fun (u : (Nat → Int32) × (Nat → Int32) × (Nat → Int32) × (Nat → Int32) × (Nat → Int32)) => (fun (y_space' : (Nat → Int32)) (y_offset' : (Nat → Int32)) (y_length' : (Nat → Int32)) (y_units' : (Nat → Int32)) (y_isThere' : (Nat → Int32)) => y_space' = z_s y_space to (z_g y_space gi) ∧ (∀ q : Int, 0 ≤ q → z_g y_offset' q = if 32 * to ≤ q ∧ q < 32 * to + 32 then z_g y_offset (q - 32 * to + 32 * gi) else z_g y_offset q) ∧ (∀ q : Int, 0 ≤ q → z_g y_length' q = if 32 * to ≤ q ∧ q < 32 * to + 32 then z_g y_length (q - 32 * to + 32 * gi) else z_g y_length q) ∧ (∀ q : Int, 0 ≤ q → z_g y_units' q = if 1280 * to ≤ q ∧ q < 1280 * to + 1280 then z_g y_newUnits (q - 1280 * to) else z_g y_units q) ∧ (∀ q : Int, 0 ≤ q → z_g y_isThere' q = if 1280 * to ≤ q ∧ q < 1280 * to + 1280 then z_g y_isNew (q - 1280 * to) else z_g y_isThere q)) u.1 u.2.1 u.2.2.1 u.2.2.2.1 u.2.2.2.2) (fun (u : (Nat → Int32) × (Nat → Int32) × (Nat → Int32) × (Nat → Int32) × (Nat → Int32)) t => va_P D vwCl [(y, .inr (6, [.ref ya_space, .ref ya_offset, .ref ya_length, .ref ya_units, .ref ya_isThere, .int (z_i y_levels), .ref y_level, .int (z_i y_lines), .ref y_lineLevel, .ref y_lineUnits, .ref y_lineFrom, .ref y_lineMany, .ref y_isClosed, .ref y_insides, .ref y_parent, .ref y_isHigh, .ref y_inBits, .int (z_i y_sides), .ref y_side, .ref y_sideA, .ref y_sideB, .int (z_i y_lineSpace), .ref y_wasThere, .ref y_leads, .ref y_isLed, .ref y_isOn, .ref y_goesTo, .ref y_stream, .ref y_filled, .ref y_isDone, .ref y_isReached, .ref ya_newUnits, .ref ya_isNew])), (ya_space, .inl (cA 1, 4, .inl u.1)), (ya_offset, .inl (cA 1, 128, .inl u.2.1)), (ya_length, .inl (cA 1, 128, .inl u.2.2.1)), (ya_units, .inl (cA 1, 5120, .inl u.2.2.2.1)), (ya_isThere, .inl (cA 3, 5120, .inl u.2.2.2.2)), (ya_newUnits, .inl (cA 1, 1280, .inl y_newUnits)), (ya_isNew, .inl (cA 3, 1280, .inl y_isNew))] t.heap) (z_A [(y, .inr (6, [.ref ya_space, .ref ya_offset, .ref ya_length, .ref ya_units, .ref ya_isThere, .int (z_i y_levels), .ref y_level, .int (z_i y_lines), .ref y_lineLevel, .ref y_lineUnits, .ref y_lineFrom, .ref y_lineMany, .ref y_isClosed, .ref y_insides, .ref y_parent, .ref y_isHigh, .ref y_inBits, .int (z_i y_sides), .ref y_side, .ref y_sideA, .ref y_sideB, .int (z_i y_lineSpace), .ref y_wasThere, .ref y_leads, .ref y_isLed, .ref y_isOn, .ref y_goesTo, .ref y_stream, .ref y_filled, .ref y_isDone, .ref y_isReached, .ref ya_newUnits, .ref ya_isNew])), (ya_space, .inl (cA 1, 4, .inl y_space)), (ya_offset, .inl (cA 1, 128, .inl y_offset)), (ya_length, .inl (cA 1, 128, .inl y_length)), (ya_units, .inl (cA 1, 5120, .inl y_units)), (ya_isThere, .inl (cA 3, 5120, .inl y_isThere)), (ya_newUnits, .inl (cA 1, 1280, .inl y_newUnits)), (ya_isNew, .inl (cA 3, 1280, .inl y_isNew))])) 0 0 (z_A [(y, .inr (6, [.ref ya_space, .ref ya_offset, .ref ya_length, .ref ya_units, .ref ya_isThere, .int (z_i y_levels), .ref y_level, .int (z_i y_lines), .ref y_lineLevel, .ref y_lineUnits, .ref y_lineFrom, .ref y_lineMany, .ref y_isClosed, .ref y_insides, .ref y_parent, .ref y_isHigh, .ref y_inBits, .int (z_i y_sides), .ref y_side, .ref y_sideA, .ref y_sideB, .int (z_i y_lineSpace), .ref y_wasThere, .ref y_leads, .ref y_isLed, .ref y_isOn, .ref y_goesTo, .ref y_stream, .ref y_filled, .ref y_isDone, .ref y_isReached, .ref ya_newUnits, .ref ya_isNew])), (ya_space, .inl (cA 1, 4, .inl y_space)), (ya_offset, .inl (cA 1, 128, .inl y_offset)), (ya_length, .inl (cA 1, 128, .inl y_length)), (ya_units, .inl (cA 1, 5120, .inl y_units)), (ya_isThere, .inl (cA 3, 5120, .inl y_isThere)), (ya_newUnits, .inl (cA 1, 1280, .inl y_newUnits)), (ya_isNew, .inl (cA 3, 1280, .inl y_isNew))]) := by
  refine wk_X8_takes l D cA y ya_space y_space ya_offset y_offset ya_length y_length ya_units y_units ya_isThere y_isThere y_levels y_level y_lines y_lineLevel y_lineUnits y_lineFrom y_lineMany y_isClosed y_insides y_parent y_isHigh y_inBits y_sides y_side y_sideA y_sideB y_lineSpace y_wasThere y_leads y_isLed y_isOn y_goesTo y_stream y_filled y_isDone y_isReached ya_newUnits y_newUnits ya_isNew y_isNew gi to h_y_levels h_y_lines h_y_sides h_y_lineSpace h_gi h_to (fun (y_space' : (Nat → Int32)) (y_offset' : (Nat → Int32)) (y_length' : (Nat → Int32)) (y_units' : (Nat → Int32)) (y_isThere' : (Nat → Int32)) => y_space' = z_s y_space to (z_g y_space gi) ∧ (∀ q : Int, 0 ≤ q → z_g y_offset' q = if 32 * to ≤ q ∧ q < 32 * to + 32 then z_g y_offset (q - 32 * to + 32 * gi) else z_g y_offset q) ∧ (∀ q : Int, 0 ≤ q → z_g y_length' q = if 32 * to ≤ q ∧ q < 32 * to + 32 then z_g y_length (q - 32 * to + 32 * gi) else z_g y_length q) ∧ (∀ q : Int, 0 ≤ q → z_g y_units' q = if 1280 * to ≤ q ∧ q < 1280 * to + 1280 then z_g y_newUnits (q - 1280 * to) else z_g y_units q) ∧ (∀ q : Int, 0 ≤ q → z_g y_isThere' q = if 1280 * to ≤ q ∧ q < 1280 * to + 1280 then z_g y_isNew (q - 1280 * to) else z_g y_isThere q)) ?_
  unfold vc_X8_takes
  refine ⟨hp1, hp2, ?_⟩
  rintro f3 rfl
  intro L1 hL1
  suffices H : ∀ (d k : Nat) (yo yl : Nat → Int32), k + d = 32 → (∀ q : Int, 0 ≤ q → z_g yo q = if 32 * to ≤ q ∧ q < 32 * to + k then z_g y_offset (q - 32 * to + 32 * gi) else z_g y_offset q) → (∀ q : Int, 0 ≤ q → z_g yl q = if 32 * to ≤ q ∧ q < 32 * to + k then z_g y_length (q - 32 * to + 32 * gi) else z_g y_length q) → L1 k yo yl from H 32 0 _ _ rfl (fun q _ => by rw [if_neg (by omega)]) (fun q _ => by rw [if_neg (by omega)])
  intro d
  induction d with
  | zero =>
    intro k yo yl hk ho hl
    obtain rfl : k = 32 := by omega
    refine hL1 _ _ _ ⟨by omega, by omega⟩ ⟨fun _ => ?_, fun h => absurd h (by omega)⟩
    intro L2 hL2
    suffices H : ∀ (d k : Nat) (yu yt : Nat → Int32), k + d = 1280 → (∀ q : Int, 0 ≤ q → z_g yu q = if 1280 * to ≤ q ∧ q < 1280 * to + k then z_g y_newUnits (q - 1280 * to) else z_g y_units q) → (∀ q : Int, 0 ≤ q → z_g yt q = if 1280 * to ≤ q ∧ q < 1280 * to + k then z_g y_isNew (q - 1280 * to) else z_g y_isThere q) → L2 k yu yt from H 1280 0 _ _ rfl (fun q _ => by rw [if_neg (by omega)]) (fun q _ => by rw [if_neg (by omega)])
    intro d
    induction d with
    | zero =>
      intro k yu yt hk hu ht
      obtain rfl : k = 1280 := by omega
      exact hL2 _ _ _ ⟨by omega, by omega⟩ ⟨fun _ => ⟨rfl, ho, hl, hu, ht⟩, fun h => absurd h (by omega)⟩
    | succ d ih =>
      intro k yu yt hk hu ht
      refine hL2 _ _ _ ⟨by omega, by omega⟩ ⟨fun h => absurd h (by omega), fun _ => ⟨⟨by omega, by omega⟩, ⟨by omega, by omega⟩, ?_⟩⟩
      rintro f7 rfl
      refine ⟨hp3 _ (by omega) (by omega), ?_⟩
      rintro f10 rfl
      refine ih (k + 1) _ _ (by omega) ?_ ?_
      · intro q hq
        rw [z_gs (z_in_g _ _) (by omega) hq]
        by_cases e : q = 1280 * to + k
        · rw [if_pos e, if_pos (by omega), show q - 1280 * to = k by omega]
        · rw [if_neg e, hu q hq]
          by_cases e2 : 1280 * to ≤ q ∧ q < 1280 * to + k
          · rw [if_pos e2, if_pos (by omega)]
          · rw [if_neg e2, if_neg (by omega)]
      · intro q hq
        rw [z_gs (z_in_g _ _) (by omega) hq]
        by_cases e : q = 1280 * to + k
        · rw [if_pos e, if_pos (by omega), show q - 1280 * to = k by omega]
        · rw [if_neg e, ht q hq]
          by_cases e2 : 1280 * to ≤ q ∧ q < 1280 * to + k
          · rw [if_pos e2, if_pos (by omega)]
          · rw [if_neg e2, if_neg (by omega)]
  | succ d ih =>
    intro k yo yl hk ho hl
    refine hL1 _ _ _ ⟨by omega, by omega⟩ ⟨fun h => absurd h (by omega), fun _ => ⟨⟨by omega, by omega⟩, ⟨by omega, by omega⟩, ?_⟩⟩
    rintro f14 rfl f16 rfl
    refine ih (k + 1) _ _ (by omega) ?_ ?_
    · intro q hq
      rw [z_gs (z_in_g _ _) (by omega) hq]
      by_cases e : q = 32 * to + k
      · rw [if_pos e, if_pos (by omega), ho _ (by omega), if_neg (by omega), show q - 32 * to + 32 * gi = 32 * gi + k by omega]
      · rw [if_neg e, ho q hq]
        by_cases e2 : 32 * to ≤ q ∧ q < 32 * to + k
        · rw [if_pos e2, if_pos (by omega)]
        · rw [if_neg e2, if_neg (by omega)]
    · intro q hq
      rw [z_gs (z_in_g _ _) (by omega) hq]
      by_cases e : q = 32 * to + k
      · rw [if_pos e, if_pos (by omega), hl _ (by omega), if_neg (by omega), show q - 32 * to + 32 * gi = 32 * gi + k by omega]
      · rw [if_neg e, hl q hq]
        by_cases e2 : 32 * to ≤ q ∧ q < 32 * to + k
        · rw [if_pos e2, if_pos (by omega)]
        · rw [if_neg e2, if_neg (by omega)]
