theorem lw_and31 (x : Int) : 0 ≤ z_and x 31 ∧ z_and x 31 < 32 := by
  unfold z_and
  have h := pk_and (z_i x) (m := z_i 31) 5 (by decide)
  rw [h, nI_toInt (by omega)]
  have e := i_tn x
  omega
theorem z_nL (L : Nat) : Int32.ofNat L = z_i (L : Int) := by
  first | exact Int32.ofInt_eq_ofNat.symm | rfl | simp [z_i]
set_option maxHeartbeats 4000000 in
set_option maxRecDepth 100000 in
/-- the law's loop: seven ints a call -/
theorem law_loop {p : Program} {l : Launch} {e : Env} {s : State} {m : MethodId} {below : List Frame} {meth : Method} {c : Code} {D : va_G} {cA : Nat → ClassId} {t1 t2 b L : Nat} {xs : Nat → Int32} (C : lw_C p s m c b L xs D cA t1 t2) (hr : meth.sig.returnType = ret) (hlocks : meth.locks = false) {a b2 : Nat → Nat} :
    ∀ (n : Nat) (i : Int), 0 ≤ i → (L : Int) < i + 7 * n + 7 → i ≤ 4000 → ∀ (u v : xS) (H : Heap) (locs : List Loc), lw_R u v → lw_V D cA s a b2 u v H locs → ∀ (ls : Array Slot), lv_has ls 4 [(0, .ref b), (1, .ref (a 0)), (2, .ref (b2 0)), (3, .int (z_i i))] → W p l e room_1 s m #[Value.ref b] below meth c H locs 73 90014 (lw_Z below #[Value.ref b] s) (F0 m 18 ls []) := by
  have C' := id C
  obtain ⟨hx, hb, hml, hown, hts, hX, hbl, hK, hST, hL⟩ := C'
  have hbA : ¬ (fun q : Nat => s.heap.size ≤ q) b := Nat.not_le.mpr hbl
  intro n
  induction n with
  | zero =>
    intro i hi hn hi4 u v H locs R hV ls hl
    have hS := hV.2.2.2.2.2
    refine lv_iload_n hx hb dL_law_18 rfl (lv_at hl 3 rfl) ?_
    refine lv_aload_n hx hb dL_law_19 rfl (lv_at hl 0 rfl) ?_
    refine va_slen hx hb hX hbl hbA hS dL_law_20 ?_
    rw [z_nL]
    refine lv_bipush (v := z_i 7) hx hb dL_law_21 (by decide) ?_
    refine lx_isub hx hb dL_law_23 ?_
    refine lx_icmp_gt (tgt := 852) hx hb dL_law_24 (by decide) ⟨by omega, by omega⟩ ⟨by omega, by omega⟩ (fun _ => ?_) (fun h => absurd h (by omega))
    refine lv_iconst (v := 1) hx hb dL_law_852 rfl ?_
    refine va_forget (fun q hq => hS.2.2 q hq) ?_
    refine W.widen (k := 600000) (n := 7302250) (by omega) (by omega) ?_
    refine W.base ?_
    exact lw_ret (Drawn.sameBut.refl s.drawn lw_cs) hx hb hr hlocks dL_law_853
  | succ n ih =>
    intro i hi hn hi4 u v H locs R hV ls hl
    have hS := hV.2.2.2.2.2
    refine lv_iload_n hx hb dL_law_18 rfl (lv_at hl 3 rfl) ?_
    refine lv_aload_n hx hb dL_law_19 rfl (lv_at hl 0 rfl) ?_
    refine va_slen hx hb hX hbl hbA hS dL_law_20 ?_
    rw [z_nL]
    refine lv_bipush (v := z_i 7) hx hb dL_law_21 (by decide) ?_
    refine lx_isub hx hb dL_law_23 ?_
    refine lx_icmp_gt (tgt := 852) hx hb dL_law_24 (by decide) ⟨by omega, by omega⟩ ⟨by omega, by omega⟩ (fun _ => ?_) (fun hle => ?_)
    · refine lv_iconst (v := 1) hx hb dL_law_852 rfl ?_
      refine va_forget (fun q hq => hS.2.2 q hq) ?_
      refine W.widen (k := 600000) (n := 7302250) (by omega) (by omega) ?_
      refine W.base ?_
      exact lw_ret (Drawn.sameBut.refl s.drawn lw_cs) hx hb hr hlocks dL_law_853
    · have back : ∀ (u1 v1 : xS) (H : Heap) (locs : List Loc), lw_R u1 v1 → lw_V D cA s a b2 u1 v1 H locs → W p l e room_1 s m #[Value.ref b] below meth c H locs 73 90014 (lw_Z below #[Value.ref b] s) (F0 m 846 ls []) := by
        intro u1 v1 H locs R hV
        refine lv_iinc (v := z_i (i + 7)) (lv' := [(3, .int (z_i (i + 7))), (0, .ref b), (1, .ref (a 0)), (2, .ref (b2 0))]) hx hb dL_law_846 hl (k := 3) rfl (by show z_i i + z_i 7 = _; rw [z_i_add]) (by decide) rfl (fun ls hl => ?_)
        refine lv_goto (tgt := 18) hx hb dL_law_849 (by decide) ?_
        exact ih (i + 7) (by omega) (by omega) (by omega) u1 v1 H locs R hV ls (lv_sub hl [1, 2, 3, 0] rfl)
      refine lv_aload_n hx hb dL_law_27 rfl (lv_at hl 0 rfl) ?_
      refine lv_iload_n hx hb dL_law_28 rfl (lv_at hl 3 rfl) ?_
      refine lw_sld hx hb hX hbl hbA hS hi (by omega) hL dL_law_29 ?_
      refine lv_bipush (v := z_i 31) hx hb dL_law_30 (by decide) ?_
      refine lx_iand hx hb dL_law_32 ?_
      have hw := lw_and31 (lw_x xs i)
      generalize z_and (lw_x xs i) 31 = w at hw ⊢
      have hto : (z_i w).toInt = w := z_i_to ⟨by omega, by omega⟩
      by_cases h17 : w ≤ 17
      · rcases (show w = 0 ∨ w = 1 ∨ w = 2 ∨ w = 3 ∨ w = 4 ∨ w = 5 ∨ w = 6 ∨ w = 7 ∨ w = 8 ∨ w = 9 ∨ w = 10 ∨ w = 11 ∨ w = 12 ∨ w = 13 ∨ w = 14 ∨ w = 15 ∨ w = 16 ∨ w = 17 by omega) with hc | hc | hc | hc | hc | hc | hc | hc | hc | hc | hc | hc | hc | hc | hc | hc | hc | hc
        · refine lv_tableIn (off := 87) (tgt := 120) hx hb dL_law_33 (by rw [hto, hc]; decide) (by rw [hto, hc]; decide) (by rw [hto, hc]; decide) (by decide) ?_
          exact lc_spacing C hi (by omega) R hV hl (fun u1 v1 H locs R hV => back u1 v1 H locs R hV)
        · refine lv_tableIn (off := 120) (tgt := 153) hx hb dL_law_33 (by rw [hto, hc]; decide) (by rw [hto, hc]; decide) (by rw [hto, hc]; decide) (by decide) ?_
          exact lc_row C hi (by omega) R hV hl (fun u1 v1 H locs R hV => back u1 v1 H locs R hV)
        · refine lv_tableIn (off := 173) (tgt := 206) hx hb dL_law_33 (by rw [hto, hc]; decide) (by rw [hto, hc]; decide) (by rw [hto, hc]; decide) (by decide) ?_
          exact lc_height C hi (by omega) R hV hl (fun u1 v1 H locs R hV => back u1 v1 H locs R hV)
        · refine lv_tableIn (off := 226) (tgt := 259) hx hb dL_law_33 (by rw [hto, hc]; decide) (by rw [hto, hc]; decide) (by rw [hto, hc]; decide) (by decide) ?_
          exact lc_missing C hi (by omega) R hV hl (fun u1 v1 H locs R hV => back u1 v1 H locs R hV)
        · refine lv_tableIn (off := 269) (tgt := 302) hx hb dL_law_33 (by rw [hto, hc]; decide) (by rw [hto, hc]; decide) (by rw [hto, hc]; decide) (by decide) ?_
          exact lc_at C hi (by omega) R hV hl (fun u1 v1 H locs R hV => back u1 v1 H locs R hV)
        · refine lv_tableIn (off := 312) (tgt := 345) hx hb dL_law_33 (by rw [hto, hc]; decide) (by rw [hto, hc]; decide) (by rw [hto, hc]; decide) (by decide) ?_
          exact lc_level C hi (by omega) R hV hl (fun u1 v1 H locs R hV => back u1 v1 H locs R hV)
        · refine lv_tableIn (off := 335) (tgt := 368) hx hb dL_law_33 (by rw [hto, hc]; decide) (by rw [hto, hc]; decide) (by rw [hto, hc]; decide) (by decide) ?_
          exact lc_levels C hi (by omega) R hV hl (fun u1 v1 H locs R hV => back u1 v1 H locs R hV)
        · refine lv_tableIn (off := 346) (tgt := 379) hx hb dL_law_33 (by rw [hto, hc]; decide) (by rw [hto, hc]; decide) (by rw [hto, hc]; decide) (by decide) ?_
          exact lc_contour C hi (by omega) R hV hl (fun u1 v1 H locs R hV => back u1 v1 H locs R hV)
        · refine lv_tableIn (off := 369) (tgt := 402) hx hb dL_law_33 (by rw [hto, hc]; decide) (by rw [hto, hc]; decide) (by rw [hto, hc]; decide) (by decide) ?_
          exact lc_line C hi (by omega) R hV hl (fun u1 v1 H locs R hV => back u1 v1 H locs R hV)
        · refine lv_tableIn (off := 402) (tgt := 435) hx hb dL_law_33 (by rw [hto, hc]; decide) (by rw [hto, hc]; decide) (by rw [hto, hc]; decide) (by decide) ?_
          exact lc_side C hi (by omega) R hV hl (fun u1 v1 H locs R hV => back u1 v1 H locs R hV)
        · refine lv_tableIn (off := 435) (tgt := 468) hx hb dL_law_33 (by rw [hto, hc]; decide) (by rw [hto, hc]; decide) (by rw [hto, hc]; decide) (by decide) ?_
          exact lc_place C hi (by omega) R hV hl (fun u1 v1 H locs R hV => back u1 v1 H locs R hV)
        · refine lv_tableIn (off := 479) (tgt := 512) hx hb dL_law_33 (by rw [hto, hc]; decide) (by rw [hto, hc]; decide) (by rw [hto, hc]; decide) (by decide) ?_
          exact lc_inside C hi (by omega) R hV hl (fun u1 v1 H locs R hV => back u1 v1 H locs R hV)
        · refine lv_tableIn (off := 522) (tgt := 555) hx hb dL_law_33 (by rw [hto, hc]; decide) (by rw [hto, hc]; decide) (by rw [hto, hc]; decide) (by decide) ?_
          exact lc_point C hi (by omega) R hV hl (fun u1 v1 H locs R hV => back u1 v1 H locs R hV)
        · refine lv_tableIn (off := 575) (tgt := 608) hx hb dL_law_33 (by rw [hto, hc]; decide) (by rw [hto, hc]; decide) (by rw [hto, hc]; decide) (by decide) ?_
          exact lc_count C hi (by omega) R hV hl (fun u1 v1 H locs R hV => back u1 v1 H locs R hV)
        · refine lv_tableIn (off := 608) (tgt := 641) hx hb dL_law_33 (by rw [hto, hc]; decide) (by rw [hto, hc]; decide) (by rw [hto, hc]; decide) (by decide) ?_
          exact lc_volume C hi (by omega) R hV hl (fun u1 v1 H locs R hV => back u1 v1 H locs R hV)
        · refine lv_tableIn (off := 652) (tgt := 685) hx hb dL_law_33 (by rw [hto, hc]; decide) (by rw [hto, hc]; decide) (by rw [hto, hc]; decide) (by decide) ?_
          exact lc_seen C hi (by omega) R hV hl (fun u1 v1 H locs R hV => back u1 v1 H locs R hV)
        · refine lv_tableIn (off := 727) (tgt := 760) hx hb dL_law_33 (by rw [hto, hc]; decide) (by rw [hto, hc]; decide) (by rw [hto, hc]; decide) (by decide) ?_
          exact lc_smooth C hi (by omega) R hV hl (fun u1 v1 H locs R hV => back u1 v1 H locs R hV)
        · refine lv_tableIn (off := 770) (tgt := 803) hx hb dL_law_33 (by rw [hto, hc]; decide) (by rw [hto, hc]; decide) (by rw [hto, hc]; decide) (by decide) ?_
          exact lc_difference C hi (by omega) R hV hl (fun u1 v1 H locs R hV => back u1 v1 H locs R hV)
      · refine lv_tableOut (tgt := 846) hx hb dL_law_33 (by rw [hto]; omega) (by decide) ?_
        exact back u v H locs R hV
