/-- the key of a point: by its height (upside down: sign -1), then by its number -/
def w_key (sg : Int) (U : Int → Int) (n : Int) : Int := sg * U n * 1280 + n
def vc_X6_takeLeast (w_heap : Nat → Int64) (w_heapSize : Int) (Q : Int → (Nat → Int64) → Int → Prop) : Prop :=
((w_heapSize < 1 → Q (-1) w_heap w_heapSize) ∧
(w_heapSize ≥ 1 → ((w_heapSize ≤ 1280 → (∀ v1 : Int, v1 = z_gl w_heap 0 → z_in (w_heapSize - 1) ∧ (∀ v3 : Int, v3 = w_heapSize - 1 → (0 ≤ v3 ∧ v3 < 1280) ∧ (0 ≤ v3 ∧ v3 < 1280) ∧ (hp_dn w_heap v3 0 (z_gl w_heap v3)) ∧ (hp_VI w_heap v3 0 (z_gl w_heap v3)) ∧ (∀ (c10 : Nat → Int64), (hp_ok c10 v3 ∧ ∀ x : Int, hp_S c10 v3 x ↔ hp_VS w_heap v3 0 (z_gl w_heap v3) x) → (0 < (1280 : Int)) ∧ (-4611686018427387904 ≤ v1 ∧ v1 ≤ 4611686018427387904) ∧ (∀ (r13 : Int), z_nl r13 → (r13 = v1 % (1280 : Int)) → z_in r13 ∧ Q r13 c10 v3))))) ∧
(w_heapSize > 1280 → Q (-1) w_heap w_heapSize))))
set_option maxHeartbeats 4000000 in
set_option maxRecDepth 100000 in
theorem wk_X6_takeLeast (l : Launch) (D : va_G) (cA : Nat → ClassId) (w : Nat) (wa_queue : Nat) (w_queue : Nat → Int32) (wa_heap : Nat) (w_heap : Nat → Int64) (wa_reached : Nat) (w_reached : Nat → Int32) (w_heapSize : Int) (h_w_heapSize : z_in w_heapSize) (Q : Int → (Nat → Int64) → Int → Prop) (hv : vc_X6_takeLeast w_heap w_heapSize Q) : Met l yX6_takeLeast wsX6_takeLeast ({ frames := 2, cells := 0, slots := 0, locals := 46 } : Room) (va_Pc [.ref w] (z_M0 D cA [(w, .inr (4, [.ref wa_queue, .ref wa_heap, .ref wa_reached, .int (z_i w_heapSize)])), (wa_queue, .inl (cA 1, 1280, .inl w_queue)), (wa_heap, .inl (cA 2, 1280, .inr (.inl w_heap))), (wa_reached, .inl (cA 0, 1280, .inl w_reached))])) (va_Qi (z_mi (fun v (u : (Nat → Int64) × Int) => z_in u.2 ∧ Q v u.1 u.2)) (fun (u : (Nat → Int64) × Int) t => va_P D vwCl [(w, .inr (4, [.ref wa_queue, .ref wa_heap, .ref wa_reached, .int (z_i u.2)])), (wa_queue, .inl (cA 1, 1280, .inl w_queue)), (wa_heap, .inl (cA 2, 1280, .inr (.inl u.1))), (wa_reached, .inl (cA 0, 1280, .inl w_reached))] t.heap) (z_A [(w, .inr (4, [.ref wa_queue, .ref wa_heap, .ref wa_reached, .int (z_i w_heapSize)])), (wa_queue, .inl (cA 1, 1280, .inl w_queue)), (wa_heap, .inl (cA 2, 1280, .inr (.inl w_heap))), (wa_reached, .inl (cA 0, 1280, .inl w_reached))])) 0 0 (z_A [(w, .inr (4, [.ref wa_queue, .ref wa_heap, .ref wa_reached, .int (z_i w_heapSize)])), (wa_queue, .inl (cA 1, 1280, .inl w_queue)), (wa_heap, .inl (cA 2, 1280, .inr (.inl w_heap))), (wa_reached, .inl (cA 0, 1280, .inl w_reached))]) := by
  unfold vc_X6_takeLeast at hv
  refine Met.ofW (cc := cX6_takeLeast) (maxL := 3) (ret := (some .int)) (by decide +kernel) rfl ?_
  intro p e s m args below meth c s₁ B hml hv0
  obtain ⟨rfl, hK, hP, hD0⟩ := hv0
  have hx := B.exec
  have hb := B.bytes
  have hr := B.returns
  have hts := atoms_spec (ws := wsX6_takeLeast) B.pre
  have hown : s.vm.findClass RX6 = some m.cls := findClass_of_methodNamed B.named
  have hlocks := B.notSynchronized
  have hD := z_D_self hD0
  generalize hAe : z_A [(w, .inr (4, [.ref wa_queue, .ref wa_heap, .ref wa_reached, .int (z_i w_heapSize)])), (wa_queue, .inl (cA 1, 1280, .inl w_queue)), (wa_heap, .inl (cA 2, 1280, .inr (.inl w_heap))), (wa_reached, .inl (cA 0, 1280, .inl w_reached))] = A at *
  have hS : va_S A s.heap s.heap [] := va_S.rf
  have hl := lv_entry ([.ref w]) (n := 3) (Nat.le_of_ble_eq_true rfl)
  rw [lg_entry_eq]
  generalize (lg_sl ([.ref w]) ++ List.replicate (3 - (lg_sl ([.ref w])).length) Slot.unset).toArray = ls at hl ⊢
  have hl : lv_has ls 3 [(0, .ref w)] := hl
  refine lv_aload_n hx hb dX6_takeLeast_0 rfl (lv_at hl 0 rfl) ?_
  refine va_get (D := D) (ci := 4) (v := .int (z_i w_heapSize)) (C := RX6) (T := TX6) (N := 4) hx hb hts (fun w h => List.mem_cons_of_mem _ (List.mem_append_right _ h)) hown hK hP 0 rfl rfl 3 (by decide) (hts (.fieldLink RX6 49 "ContourSheets$Water" "heapSize" "I") (by decide +kernel)) (fun _ h9 => h9) rfl dX6_takeLeast_1 ?_
  refine lv_iconst (v := z_i 1) hx hb dX6_takeLeast_4 rfl ?_
  refine lx_icmp_lt (tgt := 18) hx hb dX6_takeLeast_5 (by decide) h_w_heapSize (show z_in 1 from ⟨by decide, by decide⟩) (fun hc => ?_) (fun hc => ?_)
  · have hv := hv.1 hc
    refine lv_iconst (v := z_i (-1)) hx hb dX6_takeLeast_18 rfl ?_
    exact W.iret (v := z_i (-1)) hx hb hr (fun t ht hW => ⟨⟨z_i (-1), (w_heap, w_heapSize), rfl, ⟨-1, rfl, (show z_in (-1) from ⟨by decide, by decide⟩), h_w_heapSize, hv⟩, z_pt hP ht⟩, hS.F ht⟩) hS.2.2 dX6_takeLeast_19
  · have hv := hv.2 hc
    refine lv_aload_n hx hb dX6_takeLeast_8 rfl (lv_at hl 0 rfl) ?_
    refine va_get (D := D) (ci := 4) (v := .int (z_i w_heapSize)) (C := RX6) (T := TX6) (N := 4) hx hb hts (fun w h => List.mem_cons_of_mem _ (List.mem_append_right _ h)) hown hK hP 0 rfl rfl 3 (by decide) (hts (.fieldLink RX6 49 "ContourSheets$Water" "heapSize" "I") (by decide +kernel)) (fun _ h9 => h9) rfl dX6_takeLeast_9 ?_
    refine lv_sipush (v := z_i 1280) hx hb dX6_takeLeast_12 (by decide) ?_
    refine lx_icmp_le (tgt := 20) hx hb dX6_takeLeast_15 (by decide) h_w_heapSize (show z_in 1280 from ⟨by decide, by decide⟩) (fun hc => ?_) (fun hc => ?_)
    · have hv := hv.1 hc
      refine lv_aload_n hx hb dX6_takeLeast_20 rfl (lv_at hl 0 rfl) ?_
      refine va_get (D := D) (ci := 4) (v := .ref wa_heap) (C := RX6) (T := TX6) (N := 4) hx hb hts (fun w h => List.mem_cons_of_mem _ (List.mem_append_right _ h)) hown hK hP 0 rfl rfl 1 (by decide) (hts (.fieldLink RX6 15 "ContourSheets$Water" "heap" "[J") (by decide +kernel)) (fun _ h9 => h9) rfl dX6_takeLeast_21 ?_
      refine lv_iconst (v := z_i 0) hx hb dX6_takeLeast_24 rfl ?_
      refine lx_lald hx hb hK hP 2 2 rfl rfl (by decide) (by decide) (by decide) dX6_takeLeast_25 ?_
      refine lx_topl (fun v1 hy2 => ?_)
      have hv := hv v1 hy2
      have h_v1 : z_nl v1 := by rw [hy2]; exact (z_nl_gl _ _)
      refine lv_lstore_n (lv' := [(1, .long (z_l v1)), (0, .ref w)]) hx hb dX6_takeLeast_26 rfl hl (by decide) rfl (fun ls hl => ?_)
      refine lv_aload_n hx hb dX6_takeLeast_27 rfl (lv_at hl 1 rfl) ?_
      refine lv_dup hx hb dX6_takeLeast_28 rfl ?_
      refine va_get (D := D) (ci := 4) (v := .int (z_i w_heapSize)) (C := RX6) (T := TX6) (N := 4) hx hb hts (fun w h => List.mem_cons_of_mem _ (List.mem_append_right _ h)) hown hK hP 0 rfl rfl 3 (by decide) (hts (.fieldLink RX6 49 "ContourSheets$Water" "heapSize" "I") (by decide +kernel)) (fun _ h9 => h9) rfl dX6_takeLeast_29 ?_
      refine lv_iconst (v := z_i 1) hx hb dX6_takeLeast_32 rfl ?_
      refine lx_isub hx hb dX6_takeLeast_33 ?_
      obtain ⟨hr4, hv⟩ := hv
      refine lx_topi (fun v3 hy5 => ?_)
      have hv := hv v3 hy5
      have h_v3 : z_in v3 := by rw [hy5]; exact hr4
      refine va_put (D := D) (ci := 4) (v := .int (z_i v3)) (ty := .int) (C := RX6) (T := TX6) (N := 4) hx hb hts (fun w h => List.mem_cons_of_mem _ (List.mem_append_right _ h)) tyX6 tyX6_ok nmX6 hown hK hP hD hS 0 rfl rfl 3 (by decide) (hts (.fieldLink RX6 49 "ContourSheets$Water" "heapSize" "I") (by decide +kernel)) (fun _ h9 => h9) rfl (by decide +kernel) rfl rfl (Nat.le_of_ble_eq_true rfl) dX6_takeLeast_34 (fun H locs hP hD hS => ?_)
      have hP : va_P D vwCl [(w, .inr (4, [.ref wa_queue, .ref wa_heap, .ref wa_reached, .int (z_i v3)])), (wa_queue, .inl (cA 1, 1280, .inl w_queue)), (wa_heap, .inl (cA 2, 1280, .inr (.inl w_heap))), (wa_reached, .inl (cA 0, 1280, .inl w_reached))] H := hP
      have hD : va_D A [(w, .inr (4, [.ref wa_queue, .ref wa_heap, .ref wa_reached, .int (z_i v3)])), (wa_queue, .inl (cA 1, 1280, .inl w_queue)), (wa_heap, .inl (cA 2, 1280, .inr (.inl w_heap))), (wa_reached, .inl (cA 0, 1280, .inl w_reached))] := hD
      refine lv_aload_n hx hb dX6_takeLeast_37 rfl (lv_at hl 1 rfl) ?_
      refine lv_aload_n hx hb dX6_takeLeast_38 rfl (lv_at hl 1 rfl) ?_
      refine va_get (D := D) (ci := 4) (v := .ref wa_heap) (C := RX6) (T := TX6) (N := 4) hx hb hts (fun w h => List.mem_cons_of_mem _ (List.mem_append_right _ h)) hown hK hP 0 rfl rfl 1 (by decide) (hts (.fieldLink RX6 15 "ContourSheets$Water" "heap" "[J") (by decide +kernel)) (fun _ h9 => h9) rfl dX6_takeLeast_39 ?_
      refine lv_aload_n hx hb dX6_takeLeast_42 rfl (lv_at hl 1 rfl) ?_
      refine va_get (D := D) (ci := 4) (v := .int (z_i v3)) (C := RX6) (T := TX6) (N := 4) hx hb hts (fun w h => List.mem_cons_of_mem _ (List.mem_append_right _ h)) hown hK hP 0 rfl rfl 3 (by decide) (hts (.fieldLink RX6 49 "ContourSheets$Water" "heapSize" "I") (by decide +kernel)) (fun _ h9 => h9) rfl dX6_takeLeast_43 ?_
      obtain ⟨hi6, hv⟩ := hv
      refine lx_lald hx hb hK hP 2 2 rfl rfl (by decide) hi6.1 hi6.2 dX6_takeLeast_46 ?_
      obtain ⟨hp7, hv⟩ := hv
      obtain ⟨hp8, hv⟩ := hv
      obtain ⟨hp9, hv⟩ := hv
      have hFc := z_fr (A := A) (wc := [(w, .inr (4, [.ref wa_queue, .ref wa_heap, .ref wa_reached, .int (z_i v3)])), (wa_queue, .inl (cA 1, 1280, .inl w_queue)), (wa_heap, .inl (cA 2, 1280, .inr (.inl w_heap))), (wa_reached, .inl (cA 0, 1280, .inl w_reached))]) hD [0, 1, 2, 3] rfl
      refine va_callv (va_runV (As := [.long (z_l (z_gl w_heap v3))]) (rest := []) ⟨hx, hb, hml, hown, hts⟩ (mt_X6_sink l D cA w wa_queue w_queue wa_heap w_heap wa_reached w_reached v3 (z_gl w_heap v3) h_v3 (z_nl_gl _ _) hp7 hp8 hp9) (cwV 1 hts gX6_takeLeast_X6_sink rfl rfl rfl (by decide +kernel) ⟨Nat.le_of_ble_eq_true rfl, Nat.le_of_ble_eq_true rfl⟩) ⟨z_blm0, va_recv hK hP (ci := 4) (q0 := 0) rfl rfl, fun U hU hW => ⟨rfl, z_m0 hK hP hD hU hW⟩⟩ rfl rfl hl.1 rfl (lv_room (Nat.le_of_ble_eq_true rfl)) dX6_takeLeast_47 ⟨Nat.zero_le _, Nat.zero_le _⟩) hS (fun q _ h => hFc q h) hFc (fun u t H locs ht hvm hw hB hz1 hk1 hS => ?_)
      obtain ⟨c10, rfl⟩ : ∃ z, z = u := ⟨_, rfl⟩
      rw [ht] at hB
      have hP := hB
      have hP : va_P D vwCl [(w, .inr (4, [.ref wa_queue, .ref wa_heap, .ref wa_reached, .int (z_i v3)])), (wa_queue, .inl (cA 1, 1280, .inl w_queue)), (wa_heap, .inl (cA 2, 1280, .inr (.inl c10))), (wa_reached, .inl (cA 0, 1280, .inl w_reached))] H := hP
      have hD : va_D A [(w, .inr (4, [.ref wa_queue, .ref wa_heap, .ref wa_reached, .int (z_i v3)])), (wa_queue, .inl (cA 1, 1280, .inl w_queue)), (wa_heap, .inl (cA 2, 1280, .inr (.inl c10))), (wa_reached, .inl (cA 0, 1280, .inl w_reached))] := z_D_addr hD rfl
      have hv := hv c10 hw
      refine lv_lload_n hx hb dX6_takeLeast_50 rfl (lv_at hl 0 rfl) ?_
      refine lx_ldc2 (a := 1280) hx hb hown (hts (.constantLong RX6 71 (1280)) (by decide +kernel)) (by decide) dX6_takeLeast_51 ?_
      obtain ⟨hp11, hv⟩ := hv
      obtain ⟨hp12, hv⟩ := hv
      refine va_calll (va_runS (As := [.long (z_l v1), .long (z_l 1280)]) (rest := []) ⟨hx, hb, hml, hown, hts⟩ (mt_J9_floorMod_f86c9 l D cA v1 1280 h_v1 (show z_nl 1280 from ⟨by decide, by decide⟩) hp11 hp12) (va_cwS 2 hts gX6_takeLeast_J9_floorMod_f86c9 rfl rfl rfl (by decide +kernel) ⟨Nat.le_of_ble_eq_true rfl, Nat.le_of_ble_eq_true rfl⟩) ⟨z_bl0, fun U hU hW => ⟨rfl, z_b0 hK (hP.sub (ws' := []) [] rfl) hU hW⟩⟩ rfl rfl hl.1 rfl (lv_room (Nat.le_of_ble_eq_true rfl)) dX6_takeLeast_54 ⟨Nat.zero_le _, Nat.zero_le _⟩) hS (fun q _ h => h.elim) (fun q h => h.elim) (fun r0 u t H locs ht hvm hw hB hz1 hk1 hS => ?_)
      obtain ⟨r13, rfl, h_r13, hw⟩ := hw
      have hP := z_P_all hP hk1
      have hv := hv r13 h_r13 hw
      refine lx_l2i hx hb dX6_takeLeast_57 ?_
      obtain ⟨hr14, hv⟩ := hv
      exact W.iret (v := z_i r13) hx hb hr (fun t ht hW => ⟨⟨z_i r13, (c10, v3), rfl, ⟨r13, rfl, hr14, h_v3, hv⟩, z_pt hP ht⟩, hS.F ht⟩) hS.2.2 dX6_takeLeast_58
    · have hv := hv.2 hc
      refine lv_iconst (v := z_i (-1)) hx hb dX6_takeLeast_18 rfl ?_
      exact W.iret (v := z_i (-1)) hx hb hr (fun t ht hW => ⟨⟨z_i (-1), (w_heap, w_heapSize), rfl, ⟨-1, rfl, (show z_in (-1) from ⟨by decide, by decide⟩), h_w_heapSize, hv⟩, z_pt hP ht⟩, hS.F ht⟩) hS.2.2 dX6_takeLeast_19
set_option maxHeartbeats 4000000 in
set_option maxRecDepth 100000 in
theorem mt_X6_takeLeast (l : Launch) (D : va_G) (cA : Nat → ClassId) (w : Nat) (wa_queue : Nat) (w_queue : Nat → Int32) (wa_heap : Nat) (w_heap : Nat → Int64) (wa_reached : Nat) (w_reached : Nat → Int32) (w_heapSize : Int) (h_w_heapSize : z_in w_heapSize) (hp1 : hp_ok w_heap w_heapSize) (hp2 : 1 ≤ w_heapSize) (hp3 : -4611686018427387904 ≤ z_gl w_heap 0 ∧ z_gl w_heap 0 ≤ 4611686018427387904) : Met l yX6_takeLeast wsX6_takeLeast ({ frames := 2, cells := 0, slots := 0, locals := 46 } : Room) (va_Pc [.ref w] (z_M0 D cA [(w, .inr (4, [.ref wa_queue, .ref wa_heap, .ref wa_reached, .int (z_i w_heapSize)])), (wa_queue, .inl (cA 1, 1280, .inl w_queue)), (wa_heap, .inl (cA 2, 1280, .inr (.inl w_heap))), (wa_reached, .inl (cA 0, 1280, .inl w_reached))])) (va_Qi (z_mi (fun v (u : (Nat → Int64) × Int) => z_in u.2 ∧ (fun (r : Int) (w_heap' : (Nat → Int64)) (w_heapSize' : Int) => r = z_gl w_heap 0 % 1280 ∧ w_heapSize' = w_heapSize - 1 ∧ hp_ok w_heap' (w_heapSize - 1) ∧ ∀ x : Int, hp_S w_heap' (w_heapSize - 1) x ↔ hp_S w_heap w_heapSize x ∧ x ≠ z_gl w_heap 0) v u.1 u.2)) (fun (u : (Nat → Int64) × Int) t => va_P D vwCl [(w, .inr (4, [.ref wa_queue, .ref wa_heap, .ref wa_reached, .int (z_i u.2)])), (wa_queue, .inl (cA 1, 1280, .inl w_queue)), (wa_heap, .inl (cA 2, 1280, .inr (.inl u.1))), (wa_reached, .inl (cA 0, 1280, .inl w_reached))] t.heap) (z_A [(w, .inr (4, [.ref wa_queue, .ref wa_heap, .ref wa_reached, .int (z_i w_heapSize)])), (wa_queue, .inl (cA 1, 1280, .inl w_queue)), (wa_heap, .inl (cA 2, 1280, .inr (.inl w_heap))), (wa_reached, .inl (cA 0, 1280, .inl w_reached))])) 0 0 (z_A [(w, .inr (4, [.ref wa_queue, .ref wa_heap, .ref wa_reached, .int (z_i w_heapSize)])), (wa_queue, .inl (cA 1, 1280, .inl w_queue)), (wa_heap, .inl (cA 2, 1280, .inr (.inl w_heap))), (wa_reached, .inl (cA 0, 1280, .inl w_reached))]) := by
  refine wk_X6_takeLeast l D cA w wa_queue w_queue wa_heap w_heap wa_reached w_reached w_heapSize h_w_heapSize (fun (r : Int) (w_heap' : (Nat → Int64)) (w_heapSize' : Int) => r = z_gl w_heap 0 % 1280 ∧ w_heapSize' = w_heapSize - 1 ∧ hp_ok w_heap' (w_heapSize - 1) ∧ ∀ x : Int, hp_S w_heap' (w_heapSize - 1) x ↔ hp_S w_heap w_heapSize x ∧ x ≠ z_gl w_heap 0) ?_
  unfold vc_X6_takeLeast
  obtain ⟨⟨k0, k1⟩, ho, hI⟩ := id hp1
  refine ⟨fun h => absurd hp2 (by omega), fun _ => ⟨fun _ => ?_, fun h => absurd k1 (by omega)⟩⟩
  rintro v1 rfl
  refine ⟨⟨by omega, by omega⟩, ?_⟩
  rintro v3 rfl
  have hv : ∀ i : Int, i ≠ 0 → hp_v w_heap 0 (z_gl w_heap (w_heapSize - 1)) i = z_gl w_heap i := fun i hi => hp_v_ne hi
  have h0v : hp_v w_heap 0 (z_gl w_heap (w_heapSize - 1)) 0 = z_gl w_heap (w_heapSize - 1) := hp_v_at
  refine ⟨⟨by omega, by omega⟩, ⟨by omega, by omega⟩, ⟨fun i a b c => ?_, fun i a b c d => absurd d (by omega)⟩, ?_, ?_⟩
  · rw [hv _ c, hv i (by omega)]
    exact ho i a (by omega)
  · intro i j a b c d e
    by_cases hi : i = 0
    · by_cases hj : j = 0
      · omega
      · rw [hi, h0v, hv j hj] at e
        have := hI _ _ (by omega) (by omega) c (by omega) e
        omega
    · by_cases hj : j = 0
      · rw [hj, h0v, hv i hi] at e
        have := hI _ _ a (by omega) (by omega) (by omega) e
        omega
      · rw [hv i hi, hv j hj] at e
        exact hI _ _ a (by omega) c (by omega) e
  · rintro c7 ⟨q1, q2⟩
    refine ⟨by decide, hp3, ?_⟩
    rintro r10 hr rfl
    refine ⟨⟨by omega, by omega⟩, rfl, rfl, q1, fun x => (q2 x).trans ⟨?_, ?_⟩⟩
    · rintro ⟨i, a, b, rfl⟩
      by_cases hi : i = 0
      · rw [hi, h0v]
        exact ⟨⟨w_heapSize - 1, by omega, by omega, rfl⟩, fun e => by have := hI _ _ (by omega) (by omega) (by omega) (by omega) e; omega⟩
      · rw [hv i hi]
        exact ⟨⟨i, a, by omega, rfl⟩, fun e => hi (hI _ _ a (by omega) (by omega) (by omega) e)⟩
    · rintro ⟨⟨i, a, b, rfl⟩, hne⟩
      by_cases hi : i = w_heapSize - 1
      · by_cases hk : w_heapSize = 1
        · exact absurd (by rw [hi, hk]; rfl) hne
        · exact ⟨0, by omega, by omega, by rw [h0v, hi]⟩
      · exact ⟨i, a, by omega, hv i (fun z => hne (by rw [z]))⟩
def vc_X6_reach (w_heap : Nat → Int64) (w_reached : Nat → Int32) (w_heapSize : Int) (g_units : Nat → Int32) (n : Int) (sg : Int) (Q : (Nat → Int64) → (Nat → Int32) → Int → Prop) : Prop :=
((n < 0 → Q w_heap w_reached w_heapSize) ∧
(n ≥ 0 → ((n ≥ 1280 → Q w_heap w_reached w_heapSize) ∧
(n < 1280 → (0 ≤ n ∧ n < 1280) ∧ ((z_g w_reached n ≠ 0 → Q w_heap w_reached w_heapSize) ∧
(z_g w_reached n = 0 → ((w_heapSize < 0 → Q w_heap w_reached w_heapSize) ∧
(w_heapSize ≥ 0 → ((w_heapSize < 1280 → (∀ f2 : Nat → Int32, f2 = z_s w_reached n 1 → (∀ (r4 : Int), z_in r4 → (r4 = g_at g_units n) → z_in (sg * r4) ∧ z_nl (((sg * r4) * 1280) + n) ∧ (∀ v6 : Int, v6 = ((sg * r4) * 1280) + n → z_in (w_heapSize + 1) ∧ (∀ v9 : Int, v9 = w_heapSize + 1 → (∀ L78 : Int → (Nat → Int64) → Prop,
(∀ (x78_6 : Int) (y78_wa_heap : Nat → Int64), z_in x78_6 → ((x78_6 ≤ 0 → (0 ≤ x78_6 ∧ x78_6 < 1280) ∧ (∀ f13 : Nat → Int64, f13 = z_sl y78_wa_heap x78_6 v6 → Q f13 f2 v9)) ∧
(x78_6 > 0 → z_in (x78_6 - 1) ∧ (0 ≤ (x78_6 - 1).tdiv 2 ∧ (x78_6 - 1).tdiv 2 < 1280) ∧ ((z_gl y78_wa_heap ((x78_6 - 1).tdiv 2) ≤ v6 → (0 ≤ x78_6 ∧ x78_6 < 1280) ∧ (∀ f18 : Nat → Int64, f18 = z_sl y78_wa_heap x78_6 v6 → Q f18 f2 v9)) ∧
(z_gl y78_wa_heap ((x78_6 - 1).tdiv 2) > v6 → (0 ≤ x78_6 ∧ x78_6 < 1280) ∧ (∀ f21 : Nat → Int64, f21 = z_sl y78_wa_heap x78_6 (z_gl y78_wa_heap ((x78_6 - 1).tdiv 2)) → z_in ((x78_6 - 1).tdiv 2) ∧ (∀ v23 : Int, v23 = (x78_6 - 1).tdiv 2 → L78 v23 f21)))))) → L78 x78_6 y78_wa_heap) →
L78 w_heapSize w_heap)))))) ∧
(w_heapSize ≥ 1280 → Q w_heap w_reached w_heapSize))))))))))
set_option maxHeartbeats 4000000 in
set_option maxRecDepth 100000 in
theorem wk_X6_reach (l : Launch) (D : va_G) (cA : Nat → ClassId) (w : Nat) (wa_queue : Nat) (w_queue : Nat → Int32) (wa_heap : Nat) (w_heap : Nat → Int64) (wa_reached : Nat) (w_reached : Nat → Int32) (w_heapSize : Int) (g : Nat) (ga_units : Nat) (g_units : Nat → Int32) (ga_lengths : Nat) (g_lengths : Nat → Int32) (ga_offsets : Nat) (g_offsets : Nat → Int32) (g_step : Int) (n : Int) (sg : Int) (h_w_heapSize : z_in w_heapSize) (h_g_step : z_in g_step) (h_n : z_in n) (h_sg : z_in sg) (Q : (Nat → Int64) → (Nat → Int32) → Int → Prop) (hv : vc_X6_reach w_heap w_reached w_heapSize g_units n sg Q) : Met l yX6_reach wsX6_reach ({ frames := 1, cells := 0, slots := 0, locals := 21 } : Room) (va_Pc [.ref w, .ref g, .int (z_i n), .int (z_i sg)] (z_M0 D cA [(w, .inr (4, [.ref wa_queue, .ref wa_heap, .ref wa_reached, .int (z_i w_heapSize)])), (wa_queue, .inl (cA 1, 1280, .inl w_queue)), (wa_heap, .inl (cA 2, 1280, .inr (.inl w_heap))), (wa_reached, .inl (cA 0, 1280, .inl w_reached)), (g, .inr (1, [.ref ga_units, .ref ga_lengths, .ref ga_offsets, .int (z_i g_step)])), (ga_units, .inl (cA 1, 1280, .inl g_units)), (ga_lengths, .inl (cA 1, 32, .inl g_lengths)), (ga_offsets, .inl (cA 1, 32, .inl g_offsets))])) (va_Qv (fun (u : (Nat → Int64) × (Nat → Int32) × Int) => z_in u.2.2 ∧ Q u.1 u.2.1 u.2.2) (fun (u : (Nat → Int64) × (Nat → Int32) × Int) t => va_P D vwCl [(w, .inr (4, [.ref wa_queue, .ref wa_heap, .ref wa_reached, .int (z_i u.2.2)])), (wa_queue, .inl (cA 1, 1280, .inl w_queue)), (wa_heap, .inl (cA 2, 1280, .inr (.inl u.1))), (wa_reached, .inl (cA 0, 1280, .inl u.2.1)), (g, .inr (1, [.ref ga_units, .ref ga_lengths, .ref ga_offsets, .int (z_i g_step)])), (ga_units, .inl (cA 1, 1280, .inl g_units)), (ga_lengths, .inl (cA 1, 32, .inl g_lengths)), (ga_offsets, .inl (cA 1, 32, .inl g_offsets))] t.heap) (z_A [(w, .inr (4, [.ref wa_queue, .ref wa_heap, .ref wa_reached, .int (z_i w_heapSize)])), (wa_queue, .inl (cA 1, 1280, .inl w_queue)), (wa_heap, .inl (cA 2, 1280, .inr (.inl w_heap))), (wa_reached, .inl (cA 0, 1280, .inl w_reached)), (g, .inr (1, [.ref ga_units, .ref ga_lengths, .ref ga_offsets, .int (z_i g_step)])), (ga_units, .inl (cA 1, 1280, .inl g_units)), (ga_lengths, .inl (cA 1, 32, .inl g_lengths)), (ga_offsets, .inl (cA 1, 32, .inl g_offsets))])) 0 0 (z_A [(w, .inr (4, [.ref wa_queue, .ref wa_heap, .ref wa_reached, .int (z_i w_heapSize)])), (wa_queue, .inl (cA 1, 1280, .inl w_queue)), (wa_heap, .inl (cA 2, 1280, .inr (.inl w_heap))), (wa_reached, .inl (cA 0, 1280, .inl w_reached)), (g, .inr (1, [.ref ga_units, .ref ga_lengths, .ref ga_offsets, .int (z_i g_step)])), (ga_units, .inl (cA 1, 1280, .inl g_units)), (ga_lengths, .inl (cA 1, 32, .inl g_lengths)), (ga_offsets, .inl (cA 1, 32, .inl g_offsets))]) := by
  unfold vc_X6_reach at hv
  refine Met.ofW (cc := cX6_reach) (maxL := 7) (ret := none) (by decide +kernel) rfl ?_
  intro p e s m args below meth c s₁ B hml hv0
  obtain ⟨rfl, hK, hP, hD0⟩ := hv0
  have hx := B.exec
  have hb := B.bytes
  have hr := B.returns
  have hts := atoms_spec (ws := wsX6_reach) B.pre
  have hown : s.vm.findClass RX6 = some m.cls := findClass_of_methodNamed B.named
  have hlocks := B.notSynchronized
  have hD := z_D_self hD0
  generalize hAe : z_A [(w, .inr (4, [.ref wa_queue, .ref wa_heap, .ref wa_reached, .int (z_i w_heapSize)])), (wa_queue, .inl (cA 1, 1280, .inl w_queue)), (wa_heap, .inl (cA 2, 1280, .inr (.inl w_heap))), (wa_reached, .inl (cA 0, 1280, .inl w_reached)), (g, .inr (1, [.ref ga_units, .ref ga_lengths, .ref ga_offsets, .int (z_i g_step)])), (ga_units, .inl (cA 1, 1280, .inl g_units)), (ga_lengths, .inl (cA 1, 32, .inl g_lengths)), (ga_offsets, .inl (cA 1, 32, .inl g_offsets))] = A at *
  have hS : va_S A s.heap s.heap [] := va_S.rf
  have hl := lv_entry ([.ref w, .ref g, .int (z_i n), .int (z_i sg)]) (n := 7) (Nat.le_of_ble_eq_true rfl)
  rw [lg_entry_eq]
  generalize (lg_sl ([.ref w, .ref g, .int (z_i n), .int (z_i sg)]) ++ List.replicate (7 - (lg_sl ([.ref w, .ref g, .int (z_i n), .int (z_i sg)])).length) Slot.unset).toArray = ls at hl ⊢
  have hl : lv_has ls 7 [(0, .ref w), (1, .ref g), (2, .int (z_i n)), (3, .int (z_i sg))] := hl
  refine lv_iload_n hx hb dX6_reach_0 rfl (lv_at hl 2 rfl) ?_
  refine lx_if_lt (tgt := 37) hx hb dX6_reach_1 (by decide) h_n (fun hc => ?_) (fun hc => ?_)
  · have hv := hv.1 hc
    exact W.vret hx hb hr (fun t ht hW => ⟨⟨(w_heap, w_reached, w_heapSize), rfl, ⟨h_w_heapSize, hv⟩, z_pt hP ht⟩, hS.F ht⟩) hS.2.2 dX6_reach_37
  · have hv := hv.2 hc
    refine lv_iload_n hx hb dX6_reach_4 rfl (lv_at hl 2 rfl) ?_
    refine lv_sipush (v := z_i 1280) hx hb dX6_reach_5 (by decide) ?_
    refine lx_icmp_ge (tgt := 37) hx hb dX6_reach_8 (by decide) h_n (show z_in 1280 from ⟨by decide, by decide⟩) (fun hc => ?_) (fun hc => ?_)
    · have hv := hv.1 hc
      exact W.vret hx hb hr (fun t ht hW => ⟨⟨(w_heap, w_reached, w_heapSize), rfl, ⟨h_w_heapSize, hv⟩, z_pt hP ht⟩, hS.F ht⟩) hS.2.2 dX6_reach_37
    · have hv := hv.2 hc
      refine lv_aload_n hx hb dX6_reach_11 rfl (lv_at hl 0 rfl) ?_
      refine va_get (D := D) (ci := 4) (v := .ref wa_reached) (C := RX6) (T := TX6) (N := 4) hx hb hts (fun w h => List.mem_cons_of_mem _ (List.mem_append_left _ (List.mem_append_right _ h))) hown hK hP 0 rfl rfl 2 (by decide) (hts (.fieldLink RX6 19 "ContourSheets$Water" "reached" "[B") (by decide +kernel)) (fun _ h9 => h9) rfl dX6_reach_12 ?_
      refine lv_iload_n hx hb dX6_reach_15 rfl (lv_at hl 2 rfl) ?_
      obtain ⟨hi1, hv⟩ := hv
      refine lx_bald hx hb hK hP 3 0 rfl rfl (by decide) hi1.1 hi1.2 dX6_reach_16 ?_
      refine lx_if_ne (tgt := 37) hx hb dX6_reach_17 (by decide) (z_in_g _ _) (fun hc => ?_) (fun hc => ?_)
      · have hv := hv.1 hc
        exact W.vret hx hb hr (fun t ht hW => ⟨⟨(w_heap, w_reached, w_heapSize), rfl, ⟨h_w_heapSize, hv⟩, z_pt hP ht⟩, hS.F ht⟩) hS.2.2 dX6_reach_37
      · have hv := hv.2 hc
        refine lv_aload_n hx hb dX6_reach_20 rfl (lv_at hl 0 rfl) ?_
        refine va_get (D := D) (ci := 4) (v := .int (z_i w_heapSize)) (C := RX6) (T := TX6) (N := 4) hx hb hts (fun w h => List.mem_cons_of_mem _ (List.mem_append_left _ (List.mem_append_right _ h))) hown hK hP 0 rfl rfl 3 (by decide) (hts (.fieldLink RX6 49 "ContourSheets$Water" "heapSize" "I") (by decide +kernel)) (fun _ h9 => h9) rfl dX6_reach_21 ?_
        refine lx_if_lt (tgt := 37) hx hb dX6_reach_24 (by decide) h_w_heapSize (fun hc => ?_) (fun hc => ?_)
        · have hv := hv.1 hc
          exact W.vret hx hb hr (fun t ht hW => ⟨⟨(w_heap, w_reached, w_heapSize), rfl, ⟨h_w_heapSize, hv⟩, z_pt hP ht⟩, hS.F ht⟩) hS.2.2 dX6_reach_37
        · have hv := hv.2 hc
          refine lv_aload_n hx hb dX6_reach_27 rfl (lv_at hl 0 rfl) ?_
          refine va_get (D := D) (ci := 4) (v := .int (z_i w_heapSize)) (C := RX6) (T := TX6) (N := 4) hx hb hts (fun w h => List.mem_cons_of_mem _ (List.mem_append_left _ (List.mem_append_right _ h))) hown hK hP 0 rfl rfl 3 (by decide) (hts (.fieldLink RX6 49 "ContourSheets$Water" "heapSize" "I") (by decide +kernel)) (fun _ h9 => h9) rfl dX6_reach_28 ?_
          refine lv_sipush (v := z_i 1280) hx hb dX6_reach_31 (by decide) ?_
          refine lx_icmp_lt (tgt := 38) hx hb dX6_reach_34 (by decide) h_w_heapSize (show z_in 1280 from ⟨by decide, by decide⟩) (fun hc => ?_) (fun hc => ?_)
          · have hv := hv.1 hc
            refine lv_aload_n hx hb dX6_reach_38 rfl (lv_at hl 0 rfl) ?_
            refine va_get (D := D) (ci := 4) (v := .ref wa_reached) (C := RX6) (T := TX6) (N := 4) hx hb hts (fun w h => List.mem_cons_of_mem _ (List.mem_append_left _ (List.mem_append_right _ h))) hown hK hP 0 rfl rfl 2 (by decide) (hts (.fieldLink RX6 19 "ContourSheets$Water" "reached" "[B") (by decide +kernel)) (fun _ h9 => h9) rfl dX6_reach_39 ?_
            refine lv_iload_n hx hb dX6_reach_42 rfl (lv_at hl 2 rfl) ?_
            refine lv_iconst (v := z_i 1) hx hb dX6_reach_43 rfl ?_
            refine lx_bast hx hb hK hP hD hS 3 0 rfl rfl (by decide) hi1.1 hi1.2 (by decide) dX6_reach_44 (fun H locs hP hD hS => ?_)
            obtain ⟨f2, hy3⟩ : ∃ y : Nat → Int32, y = z_s w_reached n 1 := ⟨_, rfl⟩
            have hv := hv f2 hy3
            have hP : va_P D vwCl [(w, .inr (4, [.ref wa_queue, .ref wa_heap, .ref wa_reached, .int (z_i w_heapSize)])), (wa_queue, .inl (cA 1, 1280, .inl w_queue)), (wa_heap, .inl (cA 2, 1280, .inr (.inl w_heap))), (wa_reached, .inl (cA 0, 1280, .inl f2)), (g, .inr (1, [.ref ga_units, .ref ga_lengths, .ref ga_offsets, .int (z_i g_step)])), (ga_units, .inl (cA 1, 1280, .inl g_units)), (ga_lengths, .inl (cA 1, 32, .inl g_lengths)), (ga_offsets, .inl (cA 1, 32, .inl g_offsets))] H := by rw [hy3]; exact hP
            have hD : va_D A [(w, .inr (4, [.ref wa_queue, .ref wa_heap, .ref wa_reached, .int (z_i w_heapSize)])), (wa_queue, .inl (cA 1, 1280, .inl w_queue)), (wa_heap, .inl (cA 2, 1280, .inr (.inl w_heap))), (wa_reached, .inl (cA 0, 1280, .inl f2)), (g, .inr (1, [.ref ga_units, .ref ga_lengths, .ref ga_offsets, .int (z_i g_step)])), (ga_units, .inl (cA 1, 1280, .inl g_units)), (ga_lengths, .inl (cA 1, 32, .inl g_lengths)), (ga_offsets, .inl (cA 1, 32, .inl g_offsets))] := by rw [hy3]; exact hD
            refine lv_iload_n hx hb dX6_reach_45 rfl (lv_at hl 3 rfl) ?_
            refine lv_aload_n hx hb dX6_reach_46 rfl (lv_at hl 1 rfl) ?_
            refine lv_iload_n hx hb dX6_reach_47 rfl (lv_at hl 2 rfl) ?_
            refine va_calli (va_runV (As := [.int (z_i n)]) (rest := [.int (z_i sg)]) ⟨hx, hb, hml, hown, hts⟩ (mt_X2_unitsOf l D cA g ga_units g_units ga_lengths g_lengths ga_offsets g_offsets g_step n h_g_step h_n) (cwV 1 hts gX6_reach_X2_unitsOf rfl rfl rfl (by decide +kernel) ⟨Nat.le_of_ble_eq_true rfl, Nat.le_of_ble_eq_true rfl⟩) ⟨z_bl0, va_recv hK hP (ci := 1) (q0 := 4) rfl rfl, fun U hU hW => ⟨rfl, z_b0 hK (hP.sub (ws' := [(g, .inr (1, [.ref ga_units, .ref ga_lengths, .ref ga_offsets, .int (z_i g_step)])), (ga_units, .inl (cA 1, 1280, .inl g_units)), (ga_lengths, .inl (cA 1, 32, .inl g_lengths)), (ga_offsets, .inl (cA 1, 32, .inl g_offsets))]) [4, 5, 6, 7] rfl) hU hW⟩⟩ rfl rfl hl.1 rfl (lv_room (Nat.le_of_ble_eq_true rfl)) dX6_reach_48 ⟨Nat.zero_le _, Nat.zero_le _⟩) hS (fun q _ h => h.elim) (fun q h => h.elim) (fun r0 u t H locs ht hvm hw hB hz1 hk1 hS => ?_)
            obtain ⟨r4, rfl, h_r4, hw⟩ := hw
            have hP := z_P_all hP hk1
            have hv := hv r4 h_r4 hw
            refine lx_imul hx hb dX6_reach_51 ?_
            obtain ⟨hr5, hv⟩ := hv
            refine lx_i2l hx hb dX6_reach_52 hr5 ?_
            refine lx_ldc2 (a := 1280) hx hb hown (hts (.constantLong RX6 71 (1280)) (by decide +kernel)) (by decide) dX6_reach_53 ?_
            refine lx_lmul hx hb dX6_reach_56 ?_
            refine lv_iload_n hx hb dX6_reach_57 rfl (lv_at hl 2 rfl) ?_
            refine lx_i2l hx hb dX6_reach_58 h_n ?_
            refine lx_ladd hx hb dX6_reach_59 ?_
            obtain ⟨hr7, hv⟩ := hv
            refine lx_topl (fun v6 hy8 => ?_)
            have hv := hv v6 hy8
            have h_v6 : z_nl v6 := by rw [hy8]; exact hr7
            refine lv_lstore (lv' := [(4, .long (z_l v6)), (0, .ref w), (1, .ref g), (2, .int (z_i n)), (3, .int (z_i sg))]) hx hb dX6_reach_60 hl (by decide) rfl (fun ls hl => ?_)
            refine lv_aload_n hx hb dX6_reach_62 rfl (lv_at hl 1 rfl) ?_
            refine va_get (D := D) (ci := 4) (v := .int (z_i w_heapSize)) (C := RX6) (T := TX6) (N := 4) hx hb hts (fun w h => List.mem_cons_of_mem _ (List.mem_append_left _ (List.mem_append_right _ h))) hown hK hP 0 rfl rfl 3 (by decide) (hts (.fieldLink RX6 49 "ContourSheets$Water" "heapSize" "I") (by decide +kernel)) (fun _ h9 => h9) rfl dX6_reach_63 ?_
            refine lv_istore (lv' := [(6, .int (z_i w_heapSize)), (4, .long (z_l v6)), (0, .ref w), (1, .ref g), (2, .int (z_i n)), (3, .int (z_i sg))]) hx hb dX6_reach_66 hl (by decide) rfl (fun ls hl => ?_)
            refine lv_aload_n hx hb dX6_reach_68 rfl (lv_at hl 2 rfl) ?_
            refine lv_dup hx hb dX6_reach_69 rfl ?_
            refine va_get (D := D) (ci := 4) (v := .int (z_i w_heapSize)) (C := RX6) (T := TX6) (N := 4) hx hb hts (fun w h => List.mem_cons_of_mem _ (List.mem_append_left _ (List.mem_append_right _ h))) hown hK hP 0 rfl rfl 3 (by decide) (hts (.fieldLink RX6 49 "ContourSheets$Water" "heapSize" "I") (by decide +kernel)) (fun _ h9 => h9) rfl dX6_reach_70 ?_
            refine lv_iconst (v := z_i 1) hx hb dX6_reach_73 rfl ?_
            refine lx_iadd hx hb dX6_reach_74 ?_
            obtain ⟨hr10, hv⟩ := hv
            refine lx_topi (fun v9 hy11 => ?_)
            have hv := hv v9 hy11
            have h_v9 : z_in v9 := by rw [hy11]; exact hr10
            refine va_put (D := D) (ci := 4) (v := .int (z_i v9)) (ty := .int) (C := RX6) (T := TX6) (N := 4) hx hb hts (fun w h => List.mem_cons_of_mem _ (List.mem_append_left _ (List.mem_append_right _ h))) tyX6 tyX6_ok nmX6 hown hK hP hD hS 0 rfl rfl 3 (by decide) (hts (.fieldLink RX6 49 "ContourSheets$Water" "heapSize" "I") (by decide +kernel)) (fun _ h9 => h9) rfl (by decide +kernel) rfl rfl (Nat.le_of_ble_eq_true rfl) dX6_reach_75 (fun H locs hP hD hS => ?_)
            have hP : va_P D vwCl [(w, .inr (4, [.ref wa_queue, .ref wa_heap, .ref wa_reached, .int (z_i v9)])), (wa_queue, .inl (cA 1, 1280, .inl w_queue)), (wa_heap, .inl (cA 2, 1280, .inr (.inl w_heap))), (wa_reached, .inl (cA 0, 1280, .inl f2)), (g, .inr (1, [.ref ga_units, .ref ga_lengths, .ref ga_offsets, .int (z_i g_step)])), (ga_units, .inl (cA 1, 1280, .inl g_units)), (ga_lengths, .inl (cA 1, 32, .inl g_lengths)), (ga_offsets, .inl (cA 1, 32, .inl g_offsets))] H := hP
            have hD : va_D A [(w, .inr (4, [.ref wa_queue, .ref wa_heap, .ref wa_reached, .int (z_i v9)])), (wa_queue, .inl (cA 1, 1280, .inl w_queue)), (wa_heap, .inl (cA 2, 1280, .inr (.inl w_heap))), (wa_reached, .inl (cA 0, 1280, .inl f2)), (g, .inr (1, [.ref ga_units, .ref ga_lengths, .ref ga_offsets, .int (z_i g_step)])), (ga_units, .inl (cA 1, 1280, .inl g_units)), (ga_lengths, .inl (cA 1, 32, .inl g_lengths)), (ga_offsets, .inl (cA 1, 32, .inl g_offsets))] := hD
            refine hv (fun (x78_6 : Int) (y78_wa_heap : Nat → Int64) => ∀ (H : Heap) (locs : List Loc) (ls : Array Slot), va_P D vwCl [(w, .inr (4, [.ref wa_queue, .ref wa_heap, .ref wa_reached, .int (z_i v9)])), (wa_queue, .inl (cA 1, 1280, .inl w_queue)), (wa_heap, .inl (cA 2, 1280, .inr (.inl y78_wa_heap))), (wa_reached, .inl (cA 0, 1280, .inl f2)), (g, .inr (1, [.ref ga_units, .ref ga_lengths, .ref ga_offsets, .int (z_i g_step)])), (ga_units, .inl (cA 1, 1280, .inl g_units)), (ga_lengths, .inl (cA 1, 32, .inl g_lengths)), (ga_offsets, .inl (cA 1, 32, .inl g_offsets))] H → va_D A [(w, .inr (4, [.ref wa_queue, .ref wa_heap, .ref wa_reached, .int (z_i v9)])), (wa_queue, .inl (cA 1, 1280, .inl w_queue)), (wa_heap, .inl (cA 2, 1280, .inr (.inl y78_wa_heap))), (wa_reached, .inl (cA 0, 1280, .inl f2)), (g, .inr (1, [.ref ga_units, .ref ga_lengths, .ref ga_offsets, .int (z_i g_step)])), (ga_units, .inl (cA 1, 1280, .inl g_units)), (ga_lengths, .inl (cA 1, 32, .inl g_lengths)), (ga_offsets, .inl (cA 1, 32, .inl g_offsets))] → va_S A s.heap H locs → lv_has ls 7 [(6, .int (z_i x78_6)), (4, .long (z_l v6)), (0, .ref w)] → W p l e _ s m _ below meth c H locs 0 0 _ (F0 m 78 ls [])) ?_ _ _ ls hP hD hS (lv_sub hl [0, 1, 2] rfl)
            intro x78_6 y78_wa_heap h_x78_6 hv H locs ls hP hD hS hl
            refine lv_iload hx hb dX6_reach_78 (lv_at hl 0 rfl) ?_
            refine lx_if_le (tgt := 129) hx hb dX6_reach_80 (by decide) h_x78_6 (fun hc => ?_) (fun hc => ?_)
            · have hv := hv.1 hc
              refine lv_aload_n hx hb dX6_reach_129 rfl (lv_at hl 2 rfl) ?_
              refine va_get (D := D) (ci := 4) (v := .ref wa_heap) (C := RX6) (T := TX6) (N := 4) hx hb hts (fun w h => List.mem_cons_of_mem _ (List.mem_append_left _ (List.mem_append_right _ h))) hown hK hP 0 rfl rfl 1 (by decide) (hts (.fieldLink RX6 15 "ContourSheets$Water" "heap" "[J") (by decide +kernel)) (fun _ h9 => h9) rfl dX6_reach_130 ?_
              refine lv_iload hx hb dX6_reach_133 (lv_at hl 0 rfl) ?_
              refine lv_lload hx hb dX6_reach_135 (lv_at hl 1 rfl) ?_
              obtain ⟨hi12, hv⟩ := hv
              refine lx_last hx hb hK hP hD hS 2 2 rfl rfl (by decide) hi12.1 hi12.2 dX6_reach_137 (fun H locs hP hD hS => ?_)
              obtain ⟨f13, hy14⟩ : ∃ y : Nat → Int64, y = z_sl y78_wa_heap x78_6 v6 := ⟨_, rfl⟩
              have hv := hv f13 hy14
              have hP : va_P D vwCl [(w, .inr (4, [.ref wa_queue, .ref wa_heap, .ref wa_reached, .int (z_i v9)])), (wa_queue, .inl (cA 1, 1280, .inl w_queue)), (wa_heap, .inl (cA 2, 1280, .inr (.inl f13))), (wa_reached, .inl (cA 0, 1280, .inl f2)), (g, .inr (1, [.ref ga_units, .ref ga_lengths, .ref ga_offsets, .int (z_i g_step)])), (ga_units, .inl (cA 1, 1280, .inl g_units)), (ga_lengths, .inl (cA 1, 32, .inl g_lengths)), (ga_offsets, .inl (cA 1, 32, .inl g_offsets))] H := by rw [hy14]; exact hP
              have hD : va_D A [(w, .inr (4, [.ref wa_queue, .ref wa_heap, .ref wa_reached, .int (z_i v9)])), (wa_queue, .inl (cA 1, 1280, .inl w_queue)), (wa_heap, .inl (cA 2, 1280, .inr (.inl f13))), (wa_reached, .inl (cA 0, 1280, .inl f2)), (g, .inr (1, [.ref ga_units, .ref ga_lengths, .ref ga_offsets, .int (z_i g_step)])), (ga_units, .inl (cA 1, 1280, .inl g_units)), (ga_lengths, .inl (cA 1, 32, .inl g_lengths)), (ga_offsets, .inl (cA 1, 32, .inl g_offsets))] := by rw [hy14]; exact hD
              exact W.vret hx hb hr (fun t ht hW => ⟨⟨(f13, f2, v9), rfl, ⟨h_v9, hv⟩, z_pt hP ht⟩, hS.F ht⟩) hS.2.2 dX6_reach_138
            · have hv := hv.2 hc
              refine lv_aload_n hx hb dX6_reach_83 rfl (lv_at hl 2 rfl) ?_
              refine va_get (D := D) (ci := 4) (v := .ref wa_heap) (C := RX6) (T := TX6) (N := 4) hx hb hts (fun w h => List.mem_cons_of_mem _ (List.mem_append_left _ (List.mem_append_right _ h))) hown hK hP 0 rfl rfl 1 (by decide) (hts (.fieldLink RX6 15 "ContourSheets$Water" "heap" "[J") (by decide +kernel)) (fun _ h9 => h9) rfl dX6_reach_84 ?_
              refine lv_iload hx hb dX6_reach_87 (lv_at hl 0 rfl) ?_
              refine lv_iconst (v := z_i 1) hx hb dX6_reach_89 rfl ?_
              refine lx_isub hx hb dX6_reach_90 ?_
              refine lv_iconst (v := z_i 2) hx hb dX6_reach_91 rfl ?_
              obtain ⟨hr15, hv⟩ := hv
              refine lx_idiv hx hb dX6_reach_92 hr15 (show z_in 2 from ⟨by decide, by decide⟩) (by decide) ?_
              obtain ⟨hi16, hv⟩ := hv
              refine lx_lald hx hb hK hP 2 2 rfl rfl (by decide) hi16.1 hi16.2 dX6_reach_93 ?_
              refine lv_lload hx hb dX6_reach_94 (lv_at hl 1 rfl) ?_
              refine lx_lcmp hx hb dX6_reach_96 (z_nl_gl _ _) h_v6 ?_
              refine lx_if_le (tgt := 129) hx hb dX6_reach_97 (by decide) (z_in_cmp _ _) (fun hc => ?_) (fun hc => ?_)
              · have hv := hv.1 (z_cmp_le.mp hc)
                refine lv_aload_n hx hb dX6_reach_129 rfl (lv_at hl 2 rfl) ?_
                refine va_get (D := D) (ci := 4) (v := .ref wa_heap) (C := RX6) (T := TX6) (N := 4) hx hb hts (fun w h => List.mem_cons_of_mem _ (List.mem_append_left _ (List.mem_append_right _ h))) hown hK hP 0 rfl rfl 1 (by decide) (hts (.fieldLink RX6 15 "ContourSheets$Water" "heap" "[J") (by decide +kernel)) (fun _ h9 => h9) rfl dX6_reach_130 ?_
                refine lv_iload hx hb dX6_reach_133 (lv_at hl 0 rfl) ?_
                refine lv_lload hx hb dX6_reach_135 (lv_at hl 1 rfl) ?_
                obtain ⟨hi17, hv⟩ := hv
                refine lx_last hx hb hK hP hD hS 2 2 rfl rfl (by decide) hi17.1 hi17.2 dX6_reach_137 (fun H locs hP hD hS => ?_)
                obtain ⟨f18, hy19⟩ : ∃ y : Nat → Int64, y = z_sl y78_wa_heap x78_6 v6 := ⟨_, rfl⟩
                have hv := hv f18 hy19
                have hP : va_P D vwCl [(w, .inr (4, [.ref wa_queue, .ref wa_heap, .ref wa_reached, .int (z_i v9)])), (wa_queue, .inl (cA 1, 1280, .inl w_queue)), (wa_heap, .inl (cA 2, 1280, .inr (.inl f18))), (wa_reached, .inl (cA 0, 1280, .inl f2)), (g, .inr (1, [.ref ga_units, .ref ga_lengths, .ref ga_offsets, .int (z_i g_step)])), (ga_units, .inl (cA 1, 1280, .inl g_units)), (ga_lengths, .inl (cA 1, 32, .inl g_lengths)), (ga_offsets, .inl (cA 1, 32, .inl g_offsets))] H := by rw [hy19]; exact hP
                have hD : va_D A [(w, .inr (4, [.ref wa_queue, .ref wa_heap, .ref wa_reached, .int (z_i v9)])), (wa_queue, .inl (cA 1, 1280, .inl w_queue)), (wa_heap, .inl (cA 2, 1280, .inr (.inl f18))), (wa_reached, .inl (cA 0, 1280, .inl f2)), (g, .inr (1, [.ref ga_units, .ref ga_lengths, .ref ga_offsets, .int (z_i g_step)])), (ga_units, .inl (cA 1, 1280, .inl g_units)), (ga_lengths, .inl (cA 1, 32, .inl g_lengths)), (ga_offsets, .inl (cA 1, 32, .inl g_offsets))] := by rw [hy19]; exact hD
                exact W.vret hx hb hr (fun t ht hW => ⟨⟨(f18, f2, v9), rfl, ⟨h_v9, hv⟩, z_pt hP ht⟩, hS.F ht⟩) hS.2.2 dX6_reach_138
              · have hv := hv.2 (z_cmp_gt.mp hc)
                refine lv_aload_n hx hb dX6_reach_100 rfl (lv_at hl 2 rfl) ?_
                refine va_get (D := D) (ci := 4) (v := .ref wa_heap) (C := RX6) (T := TX6) (N := 4) hx hb hts (fun w h => List.mem_cons_of_mem _ (List.mem_append_left _ (List.mem_append_right _ h))) hown hK hP 0 rfl rfl 1 (by decide) (hts (.fieldLink RX6 15 "ContourSheets$Water" "heap" "[J") (by decide +kernel)) (fun _ h9 => h9) rfl dX6_reach_101 ?_
                refine lv_iload hx hb dX6_reach_104 (lv_at hl 0 rfl) ?_
                refine lv_aload_n hx hb dX6_reach_106 rfl (lv_at hl 2 rfl) ?_
                refine va_get (D := D) (ci := 4) (v := .ref wa_heap) (C := RX6) (T := TX6) (N := 4) hx hb hts (fun w h => List.mem_cons_of_mem _ (List.mem_append_left _ (List.mem_append_right _ h))) hown hK hP 0 rfl rfl 1 (by decide) (hts (.fieldLink RX6 15 "ContourSheets$Water" "heap" "[J") (by decide +kernel)) (fun _ h9 => h9) rfl dX6_reach_107 ?_
                refine lv_iload hx hb dX6_reach_110 (lv_at hl 0 rfl) ?_
                refine lv_iconst (v := z_i 1) hx hb dX6_reach_112 rfl ?_
                refine lx_isub hx hb dX6_reach_113 ?_
                refine lv_iconst (v := z_i 2) hx hb dX6_reach_114 rfl ?_
                refine lx_idiv hx hb dX6_reach_115 hr15 (show z_in 2 from ⟨by decide, by decide⟩) (by decide) ?_
                refine lx_lald hx hb hK hP 2 2 rfl rfl (by decide) hi16.1 hi16.2 dX6_reach_116 ?_
                obtain ⟨hi20, hv⟩ := hv
                refine lx_last hx hb hK hP hD hS 2 2 rfl rfl (by decide) hi20.1 hi20.2 dX6_reach_117 (fun H locs hP hD hS => ?_)
                obtain ⟨f21, hy22⟩ : ∃ y : Nat → Int64, y = z_sl y78_wa_heap x78_6 (z_gl y78_wa_heap ((x78_6 - 1).tdiv 2)) := ⟨_, rfl⟩
                have hv := hv f21 hy22
                have hP : va_P D vwCl [(w, .inr (4, [.ref wa_queue, .ref wa_heap, .ref wa_reached, .int (z_i v9)])), (wa_queue, .inl (cA 1, 1280, .inl w_queue)), (wa_heap, .inl (cA 2, 1280, .inr (.inl f21))), (wa_reached, .inl (cA 0, 1280, .inl f2)), (g, .inr (1, [.ref ga_units, .ref ga_lengths, .ref ga_offsets, .int (z_i g_step)])), (ga_units, .inl (cA 1, 1280, .inl g_units)), (ga_lengths, .inl (cA 1, 32, .inl g_lengths)), (ga_offsets, .inl (cA 1, 32, .inl g_offsets))] H := by rw [hy22]; exact hP
                have hD : va_D A [(w, .inr (4, [.ref wa_queue, .ref wa_heap, .ref wa_reached, .int (z_i v9)])), (wa_queue, .inl (cA 1, 1280, .inl w_queue)), (wa_heap, .inl (cA 2, 1280, .inr (.inl f21))), (wa_reached, .inl (cA 0, 1280, .inl f2)), (g, .inr (1, [.ref ga_units, .ref ga_lengths, .ref ga_offsets, .int (z_i g_step)])), (ga_units, .inl (cA 1, 1280, .inl g_units)), (ga_lengths, .inl (cA 1, 32, .inl g_lengths)), (ga_offsets, .inl (cA 1, 32, .inl g_offsets))] := by rw [hy22]; exact hD
                refine lv_iload hx hb dX6_reach_118 (lv_at hl 0 rfl) ?_
                refine lv_iconst (v := z_i 1) hx hb dX6_reach_120 rfl ?_
                refine lx_isub hx hb dX6_reach_121 ?_
                refine lv_iconst (v := z_i 2) hx hb dX6_reach_122 rfl ?_
                refine lx_idiv hx hb dX6_reach_123 hr15 (show z_in 2 from ⟨by decide, by decide⟩) (by decide) ?_
                obtain ⟨hr24, hv⟩ := hv
                refine lx_topi (fun v23 hy25 => ?_)
                have hv := hv v23 hy25
                have h_v23 : z_in v23 := by rw [hy25]; exact hr24
                refine lv_istore (lv' := [(6, .int (z_i v23)), (4, .long (z_l v6)), (0, .ref w)]) hx hb dX6_reach_124 hl (by decide) rfl (fun ls hl => ?_)
                refine lv_goto (tgt := 78) hx hb dX6_reach_126 (by decide) ?_
                exact hv _ _ ls hP hD hS (lv_sub hl [0, 1, 2] rfl)
          · have hv := hv.2 hc
            exact W.vret hx hb hr (fun t ht hW => ⟨⟨(w_heap, w_reached, w_heapSize), rfl, ⟨h_w_heapSize, hv⟩, z_pt hP ht⟩, hS.F ht⟩) hS.2.2 dX6_reach_37
set_option maxHeartbeats 4000000 in
set_option maxRecDepth 100000 in
theorem mt_X6_reach (l : Launch) (D : va_G) (cA : Nat → ClassId) (w : Nat) (wa_queue : Nat) (w_queue : Nat → Int32) (wa_heap : Nat) (w_heap : Nat → Int64) (wa_reached : Nat) (w_reached : Nat → Int32) (w_heapSize : Int) (g : Nat) (ga_units : Nat) (g_units : Nat → Int32) (ga_lengths : Nat) (g_lengths : Nat → Int32) (ga_offsets : Nat) (g_offsets : Nat → Int32) (g_step : Int) (n : Int) (sg : Int) (h_w_heapSize : z_in w_heapSize) (h_g_step : z_in g_step) (h_n : z_in n) (h_sg : z_in sg) (hp1 : hp_ok w_heap w_heapSize) (hp2 : sg = 1 ∨ sg = -1) (hp3 : -1 ≤ n ∧ n < 1280) (hp4 : g_ok g_units) (hp5 : n ≠ -1 → g_th g_units n = true) (hp6 : n ≠ -1 → z_g w_reached n = 0 → w_heapSize < 1280 ∧ ¬ hp_S w_heap w_heapSize (w_key sg (g_at g_units) n)) : Met l yX6_reach wsX6_reach ({ frames := 1, cells := 0, slots := 0, locals := 21 } : Room) (va_Pc [.ref w, .ref g, .int (z_i n), .int (z_i sg)] (z_M0 D cA [(w, .inr (4, [.ref wa_queue, .ref wa_heap, .ref wa_reached, .int (z_i w_heapSize)])), (wa_queue, .inl (cA 1, 1280, .inl w_queue)), (wa_heap, .inl (cA 2, 1280, .inr (.inl w_heap))), (wa_reached, .inl (cA 0, 1280, .inl w_reached)), (g, .inr (1, [.ref ga_units, .ref ga_lengths, .ref ga_offsets, .int (z_i g_step)])), (ga_units, .inl (cA 1, 1280, .inl g_units)), (ga_lengths, .inl (cA 1, 32, .inl g_lengths)), (ga_offsets, .inl (cA 1, 32, .inl g_offsets))])) (va_Qv (fun (u : (Nat → Int64) × (Nat → Int32) × Int) => z_in u.2.2 ∧ (fun (w_heap' : (Nat → Int64)) (w_reached' : (Nat → Int32)) (w_heapSize' : Int) => ((n = -1 ∨ z_g w_reached n ≠ 0) → w_heap' = w_heap ∧ w_reached' = w_reached ∧ w_heapSize' = w_heapSize) ∧ ((n ≠ -1 ∧ z_g w_reached n = 0) → w_heapSize' = w_heapSize + 1 ∧ w_reached' = z_s w_reached n 1 ∧ hp_ok w_heap' (w_heapSize + 1) ∧ ∀ x : Int, hp_S w_heap' (w_heapSize + 1) x ↔ hp_S w_heap w_heapSize x ∨ x = w_key sg (g_at g_units) n)) u.1 u.2.1 u.2.2) (fun (u : (Nat → Int64) × (Nat → Int32) × Int) t => va_P D vwCl [(w, .inr (4, [.ref wa_queue, .ref wa_heap, .ref wa_reached, .int (z_i u.2.2)])), (wa_queue, .inl (cA 1, 1280, .inl w_queue)), (wa_heap, .inl (cA 2, 1280, .inr (.inl u.1))), (wa_reached, .inl (cA 0, 1280, .inl u.2.1)), (g, .inr (1, [.ref ga_units, .ref ga_lengths, .ref ga_offsets, .int (z_i g_step)])), (ga_units, .inl (cA 1, 1280, .inl g_units)), (ga_lengths, .inl (cA 1, 32, .inl g_lengths)), (ga_offsets, .inl (cA 1, 32, .inl g_offsets))] t.heap) (z_A [(w, .inr (4, [.ref wa_queue, .ref wa_heap, .ref wa_reached, .int (z_i w_heapSize)])), (wa_queue, .inl (cA 1, 1280, .inl w_queue)), (wa_heap, .inl (cA 2, 1280, .inr (.inl w_heap))), (wa_reached, .inl (cA 0, 1280, .inl w_reached)), (g, .inr (1, [.ref ga_units, .ref ga_lengths, .ref ga_offsets, .int (z_i g_step)])), (ga_units, .inl (cA 1, 1280, .inl g_units)), (ga_lengths, .inl (cA 1, 32, .inl g_lengths)), (ga_offsets, .inl (cA 1, 32, .inl g_offsets))])) 0 0 (z_A [(w, .inr (4, [.ref wa_queue, .ref wa_heap, .ref wa_reached, .int (z_i w_heapSize)])), (wa_queue, .inl (cA 1, 1280, .inl w_queue)), (wa_heap, .inl (cA 2, 1280, .inr (.inl w_heap))), (wa_reached, .inl (cA 0, 1280, .inl w_reached)), (g, .inr (1, [.ref ga_units, .ref ga_lengths, .ref ga_offsets, .int (z_i g_step)])), (ga_units, .inl (cA 1, 1280, .inl g_units)), (ga_lengths, .inl (cA 1, 32, .inl g_lengths)), (ga_offsets, .inl (cA 1, 32, .inl g_offsets))]) := by
  refine wk_X6_reach l D cA w wa_queue w_queue wa_heap w_heap wa_reached w_reached w_heapSize g ga_units g_units ga_lengths g_lengths ga_offsets g_offsets g_step n sg h_w_heapSize h_g_step h_n h_sg (fun (w_heap' : (Nat → Int64)) (w_reached' : (Nat → Int32)) (w_heapSize' : Int) => ((n = -1 ∨ z_g w_reached n ≠ 0) → w_heap' = w_heap ∧ w_reached' = w_reached ∧ w_heapSize' = w_heapSize) ∧ ((n ≠ -1 ∧ z_g w_reached n = 0) → w_heapSize' = w_heapSize + 1 ∧ w_reached' = z_s w_reached n 1 ∧ hp_ok w_heap' (w_heapSize + 1) ∧ ∀ x : Int, hp_S w_heap' (w_heapSize + 1) x ↔ hp_S w_heap w_heapSize x ∨ x = w_key sg (g_at g_units) n)) ?_
  unfold vc_X6_reach
  obtain ⟨⟨k0, k1⟩, ho, hI⟩ := id hp1
  refine ⟨fun h => ⟨fun _ => ⟨rfl, rfl, rfl⟩, fun q => absurd h (by omega)⟩, fun h => ⟨fun h2 => absurd hp3.2 (by omega), fun h2 => ⟨⟨h, h2⟩, fun h3 => ⟨fun _ => ⟨rfl, rfl, rfl⟩, fun q => absurd q.2 h3⟩, fun h3 => ⟨fun h4 => absurd k0 (by omega), fun h4 => ⟨fun h5 => ?_, fun h5 => absurd (hp6 (by omega) h3).1 (by omega)⟩⟩⟩⟩⟩
  rintro f2 rfl r4 hr4 rfl
  have hU := g_ok_at hp4 (hp5 (by omega))
  have hsu : -8388608 ≤ sg * g_at g_units n ∧ sg * g_at g_units n ≤ 8388608 := by rcases hp2 with rfl | rfl <;> omega
  refine ⟨⟨by omega, by omega⟩, ⟨by omega, by omega⟩, ?_⟩
  intro v6 e6
  have hkey : v6 = w_key sg (g_at g_units) n := e6
  have hkn : z_nl v6 := by rw [e6]; exact ⟨by omega, by omega⟩
  have hfr := (hp6 (by omega) h3).2
  rw [← hkey] at hfr
  refine ⟨⟨by omega, by omega⟩, ?_⟩
  rintro v9 rfl
  intro L hL
  suffices H : ∀ (d : Nat) (a : Int) (y : Nat → Int64), a < d → 0 ≤ a → a ≤ w_heapSize → hp_up y (w_heapSize + 1) a v6 → hp_VI y (w_heapSize + 1) a v6 → (∀ x : Int, hp_VS y (w_heapSize + 1) a v6 x ↔ hp_S w_heap w_heapSize x ∨ x = v6) → L a y by
    have hv : ∀ i : Int, i < w_heapSize → hp_v w_heap w_heapSize v6 i = z_gl w_heap i := fun i hi => hp_v_ne (by omega)
    refine H 1281 _ _ (by omega) k0 (Int.le_refl _) ⟨fun i a b c => ?_, fun i a b c d => absurd b (by omega)⟩ ?_ (fun x => ⟨?_, ?_⟩)
    · rw [hv _ (by omega), hv i (by omega)]
      exact ho i a (by omega)
    · intro i j a b c d e
      by_cases hi : i = w_heapSize
      · by_cases hj : j = w_heapSize
        · omega
        · rw [hi, hp_v_at, hv j (by omega)] at e
          exact absurd ⟨j, c, by omega, e.symm⟩ hfr
      · by_cases hj : j = w_heapSize
        · rw [hj, hp_v_at, hv i (by omega)] at e
          exact absurd ⟨i, a, by omega, e⟩ hfr
        · rw [hv i (by omega), hv j (by omega)] at e
          exact hI _ _ a (by omega) c (by omega) e
    · rintro ⟨i, a, b, rfl⟩
      by_cases hi : i = w_heapSize
      · right; rw [hi, hp_v_at]
      · left; exact ⟨i, a, by omega, (hv i (by omega)).symm⟩
    · rintro (⟨i, a, b, rfl⟩ | rfl)
      · exact ⟨i, a, by omega, hv i b⟩
      · exact ⟨w_heapSize, k0, by omega, hp_v_at⟩
  intro d
  induction d with
  | zero => intro a y h1; omega
  | succ d ih =>
    intro a y h1 h6 h7 h8 h9 h10
    have fin : (a ≤ 0 ∨ z_gl y ((a - 1) / 2) ≤ v6) → (0 ≤ a ∧ a < 1280) ∧ ∀ f : Nat → Int64, f = z_sl y a v6 → ((n = -1 ∨ z_g w_reached n ≠ 0) → f = w_heap ∧ z_s w_reached n 1 = w_reached ∧ w_heapSize + 1 = w_heapSize) ∧ ((n ≠ -1 ∧ z_g w_reached n = 0) → w_heapSize + 1 = w_heapSize + 1 ∧ z_s w_reached n 1 = z_s w_reached n 1 ∧ hp_ok f (w_heapSize + 1) ∧ ∀ x : Int, hp_S f (w_heapSize + 1) x ↔ hp_S w_heap w_heapSize x ∨ x = w_key sg (g_at g_units) n) := fun he => by
      refine ⟨⟨h6, by omega⟩, ?_⟩
      rintro f rfl
      have := hp_up_end hkn (by omega) (by omega) h6 h8 h9 he
      refine ⟨fun q => ?_, fun _ => ⟨rfl, rfl, this.1, fun x => (this.2 x).trans (by rw [← hkey]; exact h10 x)⟩⟩
      rcases q with q | q
      · omega
      · exact absurd h3 q
    have hdv : (a - 1).tdiv 2 = (a - 1) / 2 ∨ a ≤ 0 := by
      by_cases h0 : a ≤ 0
      · exact Or.inr h0
      · exact Or.inl (Int.tdiv_eq_ediv_of_nonneg (by omega))
    refine hL _ _ ⟨by omega, by omega⟩ ⟨fun h11 => fin (Or.inl h11), fun h11 => ?_⟩
    rcases hdv with hdv | hdv
    · rw [hdv]
      refine ⟨⟨by omega, by omega⟩, ⟨by omega, by omega⟩, fun h12 => fin (Or.inr h12), fun h12 => ⟨⟨h6, by omega⟩, ?_⟩⟩
      rintro f rfl
      refine ⟨⟨by omega, by omega⟩, ?_⟩
      rintro v23 rfl
      have hab : a ≠ (a - 1) / 2 := by omega
      exact ih _ _ (by omega) (by omega) (by omega) (hp_up_step h11 (by omega) rfl h12 h8) (hp_VI_swap hab h6 (by omega) (by omega) (by omega) h9) (fun x => (hp_VS_swap hab h6 (by omega) (by omega) (by omega) x).trans (h10 x))
    · omega
