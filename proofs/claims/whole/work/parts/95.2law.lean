set_option maxHeartbeats 4000000 in
set_option maxRecDepth 100000 in
theorem lc_side {p : Program} {l : Launch} {e : Env} {s : State} {m : MethodId} {below : List Frame} {meth : Method} {c : Code} {D : va_G} {cA : Nat → ClassId} {t1 t2 b L : Nat} {xs : Nat → Int32} {Q : State → Prop} (C : lw_C p s m c b L xs D cA t1 t2) {i : Int} (hi : 0 ≤ i) (hi7 : i + 7 ≤ (L : Int)) {a b2 : Nat → Nat} {u v : xS} (R : lw_R u v) {H : Heap} {locs : List Loc} (hV : lw_V D cA s a b2 u v H locs) {ls : Array Slot} (hl : lv_has ls 4 [(0, .ref b), (1, .ref (a 0)), (2, .ref (b2 0)), (3, .int (z_i i))])
    (kk : ∀ (u1 v1 : xS) (H : Heap) (locs : List Loc), lw_R u1 v1 → lw_V D cA s a b2 u1 v1 H locs → W p l e room_1 s m #[Value.ref b] below meth c H locs 73 90014 Q (F0 m 846 ls [])) : W p l e room_1 s m #[Value.ref b] below meth c H locs 73 90014 Q (F0 m 435 ls []) := by
  obtain ⟨hx, hb, hml, hown, hts, hX, hbl, hK, hST, hL⟩ := C
  have hbA : ¬ (fun q : Nat => s.heap.size ≤ q) b := Nat.not_le.mpr hbl
  obtain ⟨hPx, hPy, hDx, hDy, hN, hS⟩ := id hV
  obtain ⟨ls, T, U, hs, px1, py1, hend⟩ := op_side R (lw_x xs (i + 1)) (lw_x xs (i + 2)) 
  refine lv_aload_n hx hb dL_law_435 rfl (lv_at hl 1 rfl) ?_
  refine lv_aload_n hx hb dL_law_436 rfl (lv_at hl 0 rfl) ?_
  refine lv_iload_n hx hb dL_law_437 rfl (lv_at hl 3 rfl) ?_
  refine lv_iconst (v := z_i 1) hx hb dL_law_438 rfl ?_
  refine lx_iadd hx hb dL_law_439 ?_
  refine lw_sld hx hb hX hbl hbA hS (by omega) (by omega) hL dL_law_440 ?_
  refine lv_aload_n hx hb dL_law_441 rfl (lv_at hl 0 rfl) ?_
  refine lv_iload_n hx hb dL_law_442 rfl (lv_at hl 3 rfl) ?_
  refine lv_iconst (v := z_i 2) hx hb dL_law_443 rfl ?_
  refine lx_iadd hx hb dL_law_444 ?_
  refine lw_sld hx hb hX hbl hbA hS (by omega) (by omega) hL dL_law_445 ?_
  have hFx := va_D_in hDx
  refine va_calli (va_runV (As := [.int (z_i (lw_x xs (i + 1))), .int (z_i (lw_x xs (i + 2)))]) (rest := []) ⟨hx, hb, hml, hown, hts⟩ (mw_X7_side l D cA t1 t2 a u R.1.1 (lw_x xs (i + 1)) (lw_x xs (i + 2)) (lw_x_in xs _) (lw_x_in xs _) ls px1) (cwV 2 hts gL_law_X7_side rfl rfl rfl (by decide +kernel) ⟨Nat.le_of_ble_eq_true rfl, Nat.le_of_ble_eq_true rfl⟩) ⟨z_blm1, va_recv hK hPx (ci := 5) (q0 := 0) rfl rfl, fun U hU hW => ⟨rfl, z_m1 hK hPx hDx (hST.at hS hFx) hU hW⟩⟩ rfl rfl hl.1 rfl (lv_room (Nat.le_of_ble_eq_true rfl)) dL_law_446 ⟨Nat.le_of_ble_eq_true rfl, Nat.le_of_ble_eq_true rfl⟩) hS (fun q _ h => hFx q h) hFx (fun r0 u1 t H locs ht hvm hw hB hz1 hk1 hS => ?_)
  rw [ht] at hB
  obtain ⟨r1, rfl, hr_r1, hw1⟩ := hw
  have hV := lw_Vx hV hk1 hB hS
  obtain ⟨hPx, hPy, hDx, hDy, hN, -⟩ := id hV
  refine lv_aload_n hx hb dL_law_449 rfl (lv_at hl 2 rfl) ?_
  refine lv_aload_n hx hb dL_law_450 rfl (lv_at hl 0 rfl) ?_
  refine lv_iload_n hx hb dL_law_451 rfl (lv_at hl 3 rfl) ?_
  refine lv_iconst (v := z_i 1) hx hb dL_law_452 rfl ?_
  refine lx_iadd hx hb dL_law_453 ?_
  refine lw_sld hx hb hX hbl hbA hS (by omega) (by omega) hL dL_law_454 ?_
  refine lv_aload_n hx hb dL_law_455 rfl (lv_at hl 0 rfl) ?_
  refine lv_iload_n hx hb dL_law_456 rfl (lv_at hl 3 rfl) ?_
  refine lv_iconst (v := z_i 2) hx hb dL_law_457 rfl ?_
  refine lx_iadd hx hb dL_law_458 ?_
  refine lw_sld hx hb hX hbl hbA hS (by omega) (by omega) hL dL_law_459 ?_
  have hFy := va_D_in hDy
  refine va_calli (va_runV (As := [.int (z_i (lw_x xs (i + 1))), .int (z_i (lw_x xs (i + 2)))]) (rest := [.int (z_i r1)]) ⟨hx, hb, hml, hown, hts⟩ (mw_X8_side l D cA t1 t2 b2 v R.1.2 (lw_x xs (i + 1)) (lw_x xs (i + 2)) (lw_x_in xs _) (lw_x_in xs _) ls T U hs py1) (cwV 2 hts gL_law_X8_side rfl rfl rfl (by decide +kernel) ⟨Nat.le_of_ble_eq_true rfl, Nat.le_of_ble_eq_true rfl⟩) ⟨z_blm1, va_recv hK hPy (ci := 6) (q0 := 0) rfl rfl, fun U hU hW => ⟨rfl, z_m1 hK hPy hDy (hST.at hS hFy) hU hW⟩⟩ rfl rfl hl.1 rfl (lv_room (Nat.le_of_ble_eq_true rfl)) dL_law_460 ⟨Nat.le_of_ble_eq_true rfl, Nat.le_of_ble_eq_true rfl⟩) hS (fun q _ h => hFy q h) hFy (fun r0 v1 t H locs ht hvm hw hB hz1 hk1 hS => ?_)
  rw [ht] at hB
  obtain ⟨r2, rfl, hr_r2, hw2⟩ := hw
  have hV := lw_Vy hV hk1 hB hS
  obtain ⟨rfl, R⟩ := hend _ _ _ _ hw1 hw2
  exact lx_icmp_eq (tgt := 846) hx hb dL_law_463 (by decide) hr_r1 hr_r2 (fun _ => kk _ _ _ _ R hV) (fun h => absurd rfl h)
set_option maxHeartbeats 4000000 in
set_option maxRecDepth 100000 in
theorem lc_place {p : Program} {l : Launch} {e : Env} {s : State} {m : MethodId} {below : List Frame} {meth : Method} {c : Code} {D : va_G} {cA : Nat → ClassId} {t1 t2 b L : Nat} {xs : Nat → Int32} {Q : State → Prop} (C : lw_C p s m c b L xs D cA t1 t2) {i : Int} (hi : 0 ≤ i) (hi7 : i + 7 ≤ (L : Int)) {a b2 : Nat → Nat} {u v : xS} (R : lw_R u v) {H : Heap} {locs : List Loc} (hV : lw_V D cA s a b2 u v H locs) {ls : Array Slot} (hl : lv_has ls 4 [(0, .ref b), (1, .ref (a 0)), (2, .ref (b2 0)), (3, .int (z_i i))])
    (kk : ∀ (u1 v1 : xS) (H : Heap) (locs : List Loc), lw_R u1 v1 → lw_V D cA s a b2 u1 v1 H locs → W p l e room_1 s m #[Value.ref b] below meth c H locs 73 90014 Q (F0 m 846 ls [])) : W p l e room_1 s m #[Value.ref b] below meth c H locs 73 90014 Q (F0 m 468 ls []) := by
  obtain ⟨hx, hb, hml, hown, hts, hX, hbl, hK, hST, hL⟩ := C
  have hbA : ¬ (fun q : Nat => s.heap.size ≤ q) b := Nat.not_le.mpr hbl
  obtain ⟨hPx, hPy, hDx, hDy, hN, hS⟩ := id hV
  obtain ⟨ls, T, U, hs, px1, px2, py1, py2, py3, hend⟩ := op_place R (lw_x xs (i + 1)) (lw_x xs (i + 2)) (lw_x xs (i + 3)) 
  refine lv_aload_n hx hb dL_law_468 rfl (lv_at hl 1 rfl) ?_
  refine lv_aload_n hx hb dL_law_469 rfl (lv_at hl 0 rfl) ?_
  refine lv_iload_n hx hb dL_law_470 rfl (lv_at hl 3 rfl) ?_
  refine lv_iconst (v := z_i 1) hx hb dL_law_471 rfl ?_
  refine lx_iadd hx hb dL_law_472 ?_
  refine lw_sld hx hb hX hbl hbA hS (by omega) (by omega) hL dL_law_473 ?_
  refine lv_aload_n hx hb dL_law_474 rfl (lv_at hl 0 rfl) ?_
  refine lv_iload_n hx hb dL_law_475 rfl (lv_at hl 3 rfl) ?_
  refine lv_iconst (v := z_i 2) hx hb dL_law_476 rfl ?_
  refine lx_iadd hx hb dL_law_477 ?_
  refine lw_sld hx hb hX hbl hbA hS (by omega) (by omega) hL dL_law_478 ?_
  refine lv_aload_n hx hb dL_law_479 rfl (lv_at hl 0 rfl) ?_
  refine lv_iload_n hx hb dL_law_480 rfl (lv_at hl 3 rfl) ?_
  refine lv_iconst (v := z_i 3) hx hb dL_law_481 rfl ?_
  refine lx_iadd hx hb dL_law_482 ?_
  refine lw_sld hx hb hX hbl hbA hS (by omega) (by omega) hL dL_law_483 ?_
  have hFx := va_D_in hDx
  refine va_calll (va_runV (As := [.int (z_i (lw_x xs (i + 1))), .int (z_i (lw_x xs (i + 2))), .int (z_i (lw_x xs (i + 3)))]) (rest := []) ⟨hx, hb, hml, hown, hts⟩ (mw_X7_place l D cA t1 t2 a u R.1.1 (lw_x xs (i + 1)) (lw_x xs (i + 2)) (lw_x xs (i + 3)) (lw_x_in xs _) (lw_x_in xs _) (lw_x_in xs _) ls px1 px2) (cwV 3 hts gL_law_X7_place rfl rfl rfl (by decide +kernel) ⟨Nat.le_of_ble_eq_true rfl, Nat.le_of_ble_eq_true rfl⟩) ⟨z_blm1, va_recv hK hPx (ci := 5) (q0 := 0) rfl rfl, fun U hU hW => ⟨rfl, z_m1 hK hPx hDx (hST.at hS hFx) hU hW⟩⟩ rfl rfl hl.1 rfl (lv_room (Nat.le_of_ble_eq_true rfl)) dL_law_484 ⟨Nat.le_of_ble_eq_true rfl, Nat.le_of_ble_eq_true rfl⟩) hS (fun q _ h => hFx q h) hFx (fun r0 u1 t H locs ht hvm hw hB hz1 hk1 hS => ?_)
  rw [ht] at hB
  obtain ⟨r1, rfl, hr_r1, hw1⟩ := hw
  have hV := lw_Vx hV hk1 hB hS
  obtain ⟨hPx, hPy, hDx, hDy, hN, -⟩ := id hV
  refine lv_aload_n hx hb dL_law_487 rfl (lv_at hl 2 rfl) ?_
  refine lv_aload_n hx hb dL_law_488 rfl (lv_at hl 0 rfl) ?_
  refine lv_iload_n hx hb dL_law_489 rfl (lv_at hl 3 rfl) ?_
  refine lv_iconst (v := z_i 1) hx hb dL_law_490 rfl ?_
  refine lx_iadd hx hb dL_law_491 ?_
  refine lw_sld hx hb hX hbl hbA hS (by omega) (by omega) hL dL_law_492 ?_
  refine lv_aload_n hx hb dL_law_493 rfl (lv_at hl 0 rfl) ?_
  refine lv_iload_n hx hb dL_law_494 rfl (lv_at hl 3 rfl) ?_
  refine lv_iconst (v := z_i 2) hx hb dL_law_495 rfl ?_
  refine lx_iadd hx hb dL_law_496 ?_
  refine lw_sld hx hb hX hbl hbA hS (by omega) (by omega) hL dL_law_497 ?_
  refine lv_aload_n hx hb dL_law_498 rfl (lv_at hl 0 rfl) ?_
  refine lv_iload_n hx hb dL_law_499 rfl (lv_at hl 3 rfl) ?_
  refine lv_iconst (v := z_i 3) hx hb dL_law_500 rfl ?_
  refine lx_iadd hx hb dL_law_501 ?_
  refine lw_sld hx hb hX hbl hbA hS (by omega) (by omega) hL dL_law_502 ?_
  have hFy := va_D_in hDy
  refine va_calll (va_runV (As := [.int (z_i (lw_x xs (i + 1))), .int (z_i (lw_x xs (i + 2))), .int (z_i (lw_x xs (i + 3)))]) (rest := [.long (z_l r1)]) ⟨hx, hb, hml, hown, hts⟩ (mw_X8_place l D cA t1 t2 b2 v R.1.2 (lw_x xs (i + 1)) (lw_x xs (i + 2)) (lw_x xs (i + 3)) (lw_x_in xs _) (lw_x_in xs _) (lw_x_in xs _) ls T U hs py1 py2 py3) (cwV 3 hts gL_law_X8_place rfl rfl rfl (by decide +kernel) ⟨Nat.le_of_ble_eq_true rfl, Nat.le_of_ble_eq_true rfl⟩) ⟨z_blm1, va_recv hK hPy (ci := 6) (q0 := 0) rfl rfl, fun U hU hW => ⟨rfl, z_m1 hK hPy hDy (hST.at hS hFy) hU hW⟩⟩ rfl rfl hl.1 rfl (lv_room (Nat.le_of_ble_eq_true rfl)) dL_law_503 ⟨Nat.le_of_ble_eq_true rfl, Nat.le_of_ble_eq_true rfl⟩) hS (fun q _ h => hFy q h) hFy (fun r0 v1 t H locs ht hvm hw hB hz1 hk1 hS => ?_)
  rw [ht] at hB
  obtain ⟨r2, rfl, hr_r2, hw2⟩ := hw
  have hV := lw_Vy hV hk1 hB hS
  obtain ⟨rfl, R⟩ := hend _ _ _ _ hw1 hw2
  refine lx_lcmp hx hb dL_law_506 hr_r1 hr_r2 ?_
  rw [z_cmp_0]
  exact lx_if_eq (tgt := 846) hx hb dL_law_507 (by decide) z_in0 (fun _ => kk _ _ _ _ R hV) (fun h => absurd rfl h)
set_option maxHeartbeats 4000000 in
set_option maxRecDepth 100000 in
theorem lc_inside {p : Program} {l : Launch} {e : Env} {s : State} {m : MethodId} {below : List Frame} {meth : Method} {c : Code} {D : va_G} {cA : Nat → ClassId} {t1 t2 b L : Nat} {xs : Nat → Int32} {Q : State → Prop} (C : lw_C p s m c b L xs D cA t1 t2) {i : Int} (hi : 0 ≤ i) (hi7 : i + 7 ≤ (L : Int)) {a b2 : Nat → Nat} {u v : xS} (R : lw_R u v) {H : Heap} {locs : List Loc} (hV : lw_V D cA s a b2 u v H locs) {ls : Array Slot} (hl : lv_has ls 4 [(0, .ref b), (1, .ref (a 0)), (2, .ref (b2 0)), (3, .int (z_i i))])
    (kk : ∀ (u1 v1 : xS) (H : Heap) (locs : List Loc), lw_R u1 v1 → lw_V D cA s a b2 u1 v1 H locs → W p l e room_1 s m #[Value.ref b] below meth c H locs 73 90014 Q (F0 m 846 ls [])) : W p l e room_1 s m #[Value.ref b] below meth c H locs 73 90014 Q (F0 m 512 ls []) := by
  obtain ⟨hx, hb, hml, hown, hts, hX, hbl, hK, hST, hL⟩ := C
  have hbA : ¬ (fun q : Nat => s.heap.size ≤ q) b := Nat.not_le.mpr hbl
  obtain ⟨hPx, hPy, hDx, hDy, hN, hS⟩ := id hV
  obtain ⟨ls, T, U, hs, px1, py1, hend⟩ := op_inside R (lw_x xs (i + 1)) (lw_x xs (i + 2)) (lw_x xs (i + 3)) 
  refine lv_aload_n hx hb dL_law_512 rfl (lv_at hl 1 rfl) ?_
  refine lv_aload_n hx hb dL_law_513 rfl (lv_at hl 0 rfl) ?_
  refine lv_iload_n hx hb dL_law_514 rfl (lv_at hl 3 rfl) ?_
  refine lv_iconst (v := z_i 1) hx hb dL_law_515 rfl ?_
  refine lx_iadd hx hb dL_law_516 ?_
  refine lw_sld hx hb hX hbl hbA hS (by omega) (by omega) hL dL_law_517 ?_
  refine lv_aload_n hx hb dL_law_518 rfl (lv_at hl 0 rfl) ?_
  refine lv_iload_n hx hb dL_law_519 rfl (lv_at hl 3 rfl) ?_
  refine lv_iconst (v := z_i 2) hx hb dL_law_520 rfl ?_
  refine lx_iadd hx hb dL_law_521 ?_
  refine lw_sld hx hb hX hbl hbA hS (by omega) (by omega) hL dL_law_522 ?_
  refine lv_aload_n hx hb dL_law_523 rfl (lv_at hl 0 rfl) ?_
  refine lv_iload_n hx hb dL_law_524 rfl (lv_at hl 3 rfl) ?_
  refine lv_iconst (v := z_i 3) hx hb dL_law_525 rfl ?_
  refine lx_iadd hx hb dL_law_526 ?_
  refine lw_sld hx hb hX hbl hbA hS (by omega) (by omega) hL dL_law_527 ?_
  have hFx := va_D_in hDx
  refine va_calli (va_runV (As := [.int (z_i (lw_x xs (i + 1))), .int (z_i (lw_x xs (i + 2))), .int (z_i (lw_x xs (i + 3)))]) (rest := []) ⟨hx, hb, hml, hown, hts⟩ (mw_X7_inside l D cA t1 t2 a u R.1.1 (lw_x xs (i + 1)) (lw_x xs (i + 2)) (lw_x xs (i + 3)) (lw_x_in xs _) (lw_x_in xs _) (lw_x_in xs _) ls px1) (cwV 3 hts gL_law_X7_inside rfl rfl rfl (by decide +kernel) ⟨Nat.le_of_ble_eq_true rfl, Nat.le_of_ble_eq_true rfl⟩) ⟨z_blm1, va_recv hK hPx (ci := 5) (q0 := 0) rfl rfl, fun U hU hW => ⟨rfl, z_m1 hK hPx hDx (hST.at hS hFx) hU hW⟩⟩ rfl rfl hl.1 rfl (lv_room (Nat.le_of_ble_eq_true rfl)) dL_law_528 ⟨Nat.le_of_ble_eq_true rfl, Nat.le_of_ble_eq_true rfl⟩) hS (fun q _ h => hFx q h) hFx (fun r0 u1 t H locs ht hvm hw hB hz1 hk1 hS => ?_)
  rw [ht] at hB
  obtain ⟨r1, rfl, hr_r1, hw1⟩ := hw
  have hV := lw_Vx hV hk1 hB hS
  obtain ⟨hPx, hPy, hDx, hDy, hN, -⟩ := id hV
  refine lv_aload_n hx hb dL_law_531 rfl (lv_at hl 2 rfl) ?_
  refine lv_aload_n hx hb dL_law_532 rfl (lv_at hl 0 rfl) ?_
  refine lv_iload_n hx hb dL_law_533 rfl (lv_at hl 3 rfl) ?_
  refine lv_iconst (v := z_i 1) hx hb dL_law_534 rfl ?_
  refine lx_iadd hx hb dL_law_535 ?_
  refine lw_sld hx hb hX hbl hbA hS (by omega) (by omega) hL dL_law_536 ?_
  refine lv_aload_n hx hb dL_law_537 rfl (lv_at hl 0 rfl) ?_
  refine lv_iload_n hx hb dL_law_538 rfl (lv_at hl 3 rfl) ?_
  refine lv_iconst (v := z_i 2) hx hb dL_law_539 rfl ?_
  refine lx_iadd hx hb dL_law_540 ?_
  refine lw_sld hx hb hX hbl hbA hS (by omega) (by omega) hL dL_law_541 ?_
  refine lv_aload_n hx hb dL_law_542 rfl (lv_at hl 0 rfl) ?_
  refine lv_iload_n hx hb dL_law_543 rfl (lv_at hl 3 rfl) ?_
  refine lv_iconst (v := z_i 3) hx hb dL_law_544 rfl ?_
  refine lx_iadd hx hb dL_law_545 ?_
  refine lw_sld hx hb hX hbl hbA hS (by omega) (by omega) hL dL_law_546 ?_
  have hFy := va_D_in hDy
  refine va_calli (va_runV (As := [.int (z_i (lw_x xs (i + 1))), .int (z_i (lw_x xs (i + 2))), .int (z_i (lw_x xs (i + 3)))]) (rest := [.int (z_i r1)]) ⟨hx, hb, hml, hown, hts⟩ (mw_X8_inside l D cA t1 t2 b2 v R.1.2 (lw_x xs (i + 1)) (lw_x xs (i + 2)) (lw_x xs (i + 3)) (lw_x_in xs _) (lw_x_in xs _) (lw_x_in xs _) ls T U hs py1) (cwV 3 hts gL_law_X8_inside rfl rfl rfl (by decide +kernel) ⟨Nat.le_of_ble_eq_true rfl, Nat.le_of_ble_eq_true rfl⟩) ⟨z_blm1, va_recv hK hPy (ci := 6) (q0 := 0) rfl rfl, fun U hU hW => ⟨rfl, z_m1 hK hPy hDy (hST.at hS hFy) hU hW⟩⟩ rfl rfl hl.1 rfl (lv_room (Nat.le_of_ble_eq_true rfl)) dL_law_547 ⟨Nat.le_of_ble_eq_true rfl, Nat.le_of_ble_eq_true rfl⟩) hS (fun q _ h => hFy q h) hFy (fun r0 v1 t H locs ht hvm hw hB hz1 hk1 hS => ?_)
  rw [ht] at hB
  obtain ⟨r2, rfl, hr_r2, hw2⟩ := hw
  have hV := lw_Vy hV hk1 hB hS
  obtain ⟨rfl, R⟩ := hend _ _ _ _ hw1 hw2
  exact lx_icmp_eq (tgt := 846) hx hb dL_law_550 (by decide) hr_r1 hr_r2 (fun _ => kk _ _ _ _ R hV) (fun h => absurd rfl h)
set_option maxHeartbeats 4000000 in
set_option maxRecDepth 100000 in
theorem lc_point {p : Program} {l : Launch} {e : Env} {s : State} {m : MethodId} {below : List Frame} {meth : Method} {c : Code} {D : va_G} {cA : Nat → ClassId} {t1 t2 b L : Nat} {xs : Nat → Int32} {Q : State → Prop} (C : lw_C p s m c b L xs D cA t1 t2) {i : Int} (hi : 0 ≤ i) (hi7 : i + 7 ≤ (L : Int)) {a b2 : Nat → Nat} {u v : xS} (R : lw_R u v) {H : Heap} {locs : List Loc} (hV : lw_V D cA s a b2 u v H locs) {ls : Array Slot} (hl : lv_has ls 4 [(0, .ref b), (1, .ref (a 0)), (2, .ref (b2 0)), (3, .int (z_i i))])
    (kk : ∀ (u1 v1 : xS) (H : Heap) (locs : List Loc), lw_R u1 v1 → lw_V D cA s a b2 u1 v1 H locs → W p l e room_1 s m #[Value.ref b] below meth c H locs 73 90014 Q (F0 m 846 ls [])) : W p l e room_1 s m #[Value.ref b] below meth c H locs 73 90014 Q (F0 m 555 ls []) := by
  obtain ⟨hx, hb, hml, hown, hts, hX, hbl, hK, hST, hL⟩ := C
  have hbA : ¬ (fun q : Nat => s.heap.size ≤ q) b := Nat.not_le.mpr hbl
  obtain ⟨hPx, hPy, hDx, hDy, hN, hS⟩ := id hV
  obtain ⟨k1, hk_gi⟩ := z_gq_ex (lw_x xs (i + 1))
  obtain ⟨px1, py1, hend⟩ := op_point R (lw_x xs (i + 1)) (lw_x xs (i + 2)) (lw_x xs (i + 3)) (lw_x xs (i + 4)) hk_gi
  refine lv_aload_n hx hb dL_law_555 rfl (lv_at hl 1 rfl) ?_
  refine lv_aload_n hx hb dL_law_556 rfl (lv_at hl 0 rfl) ?_
  refine lv_iload_n hx hb dL_law_557 rfl (lv_at hl 3 rfl) ?_
  refine lv_iconst (v := z_i 1) hx hb dL_law_558 rfl ?_
  refine lx_iadd hx hb dL_law_559 ?_
  refine lw_sld hx hb hX hbl hbA hS (by omega) (by omega) hL dL_law_560 ?_
  refine lv_aload_n hx hb dL_law_561 rfl (lv_at hl 0 rfl) ?_
  refine lv_iload_n hx hb dL_law_562 rfl (lv_at hl 3 rfl) ?_
  refine lv_iconst (v := z_i 2) hx hb dL_law_563 rfl ?_
  refine lx_iadd hx hb dL_law_564 ?_
  refine lw_sld hx hb hX hbl hbA hS (by omega) (by omega) hL dL_law_565 ?_
  refine lv_aload_n hx hb dL_law_566 rfl (lv_at hl 0 rfl) ?_
  refine lv_iload_n hx hb dL_law_567 rfl (lv_at hl 3 rfl) ?_
  refine lv_iconst (v := z_i 3) hx hb dL_law_568 rfl ?_
  refine lx_iadd hx hb dL_law_569 ?_
  refine lw_sld hx hb hX hbl hbA hS (by omega) (by omega) hL dL_law_570 ?_
  refine lv_aload_n hx hb dL_law_571 rfl (lv_at hl 0 rfl) ?_
  refine lv_iload_n hx hb dL_law_572 rfl (lv_at hl 3 rfl) ?_
  refine lv_iconst (v := z_i 4) hx hb dL_law_573 rfl ?_
  refine lx_iadd hx hb dL_law_574 ?_
  refine lw_sld hx hb hX hbl hbA hS (by omega) (by omega) hL dL_law_575 ?_
  have hFx := va_D_in hDx
  refine va_calli (va_runV (As := [.int (z_i (lw_x xs (i + 1))), .int (z_i (lw_x xs (i + 2))), .int (z_i (lw_x xs (i + 3))), .int (z_i (lw_x xs (i + 4)))]) (rest := []) ⟨hx, hb, hml, hown, hts⟩ (mw_X7_point l D cA t1 t2 a u R.1.1 (lw_x xs (i + 1)) (lw_x xs (i + 2)) (lw_x xs (i + 3)) (lw_x xs (i + 4)) (lw_x_in xs _) (lw_x_in xs _) (lw_x_in xs _) (lw_x_in xs _) k1 hk_gi px1) (cwV 4 hts gL_law_X7_point rfl rfl rfl (by decide +kernel) ⟨Nat.le_of_ble_eq_true rfl, Nat.le_of_ble_eq_true rfl⟩) ⟨z_blm1, va_recv hK hPx (ci := 5) (q0 := 0) rfl rfl, fun U hU hW => ⟨rfl, z_m1 hK hPx hDx (hST.at hS hFx) hU hW⟩⟩ rfl rfl hl.1 rfl (lv_room (Nat.le_of_ble_eq_true rfl)) dL_law_576 ⟨Nat.le_of_ble_eq_true rfl, Nat.le_of_ble_eq_true rfl⟩) hS (fun q _ h => hFx q h) hFx (fun r0 u1 t H locs ht hvm hw hB hz1 hk1 hS => ?_)
  rw [ht] at hB
  obtain ⟨r1, rfl, hr_r1, hw1⟩ := hw
  have hV := lw_Vx hV hk1 hB hS
  obtain ⟨hPx, hPy, hDx, hDy, hN, -⟩ := id hV
  refine lv_aload_n hx hb dL_law_579 rfl (lv_at hl 2 rfl) ?_
  refine lv_aload_n hx hb dL_law_580 rfl (lv_at hl 0 rfl) ?_
  refine lv_iload_n hx hb dL_law_581 rfl (lv_at hl 3 rfl) ?_
  refine lv_iconst (v := z_i 1) hx hb dL_law_582 rfl ?_
  refine lx_iadd hx hb dL_law_583 ?_
  refine lw_sld hx hb hX hbl hbA hS (by omega) (by omega) hL dL_law_584 ?_
  refine lv_aload_n hx hb dL_law_585 rfl (lv_at hl 0 rfl) ?_
  refine lv_iload_n hx hb dL_law_586 rfl (lv_at hl 3 rfl) ?_
  refine lv_iconst (v := z_i 2) hx hb dL_law_587 rfl ?_
  refine lx_iadd hx hb dL_law_588 ?_
  refine lw_sld hx hb hX hbl hbA hS (by omega) (by omega) hL dL_law_589 ?_
  refine lv_aload_n hx hb dL_law_590 rfl (lv_at hl 0 rfl) ?_
  refine lv_iload_n hx hb dL_law_591 rfl (lv_at hl 3 rfl) ?_
  refine lv_iconst (v := z_i 3) hx hb dL_law_592 rfl ?_
  refine lx_iadd hx hb dL_law_593 ?_
  refine lw_sld hx hb hX hbl hbA hS (by omega) (by omega) hL dL_law_594 ?_
  refine lv_aload_n hx hb dL_law_595 rfl (lv_at hl 0 rfl) ?_
  refine lv_iload_n hx hb dL_law_596 rfl (lv_at hl 3 rfl) ?_
  refine lv_iconst (v := z_i 4) hx hb dL_law_597 rfl ?_
  refine lx_iadd hx hb dL_law_598 ?_
  refine lw_sld hx hb hX hbl hbA hS (by omega) (by omega) hL dL_law_599 ?_
  have hFy := va_D_in hDy
  refine va_calli (va_runV (As := [.int (z_i (lw_x xs (i + 1))), .int (z_i (lw_x xs (i + 2))), .int (z_i (lw_x xs (i + 3))), .int (z_i (lw_x xs (i + 4)))]) (rest := [.int (z_i r1)]) ⟨hx, hb, hml, hown, hts⟩ (mw_X8_point l D cA t1 t2 b2 v R.1.2 (lw_x xs (i + 1)) (lw_x xs (i + 2)) (lw_x xs (i + 3)) (lw_x xs (i + 4)) (lw_x_in xs _) (lw_x_in xs _) (lw_x_in xs _) (lw_x_in xs _) py1) (cwV 4 hts gL_law_X8_point rfl rfl rfl (by decide +kernel) ⟨Nat.le_of_ble_eq_true rfl, Nat.le_of_ble_eq_true rfl⟩) ⟨z_blm1, va_recv hK hPy (ci := 6) (q0 := 0) rfl rfl, fun U hU hW => ⟨rfl, z_m1 hK hPy hDy (hST.at hS hFy) hU hW⟩⟩ rfl rfl hl.1 rfl (lv_room (Nat.le_of_ble_eq_true rfl)) dL_law_600 ⟨Nat.le_of_ble_eq_true rfl, Nat.le_of_ble_eq_true rfl⟩) hS (fun q _ h => hFy q h) hFy (fun r0 v1 t H locs ht hvm hw hB hz1 hk1 hS => ?_)
  rw [ht] at hB
  obtain ⟨r2, rfl, hr_r2, hw2⟩ := hw
  have hV := lw_Vy hV hk1 hB hS
  obtain ⟨rfl, R⟩ := hend _ _ _ _ hw1 hw2
  exact lx_icmp_eq (tgt := 846) hx hb dL_law_603 (by decide) hr_r1 hr_r2 (fun _ => kk _ _ _ _ R hV) (fun h => absurd rfl h)
set_option maxHeartbeats 4000000 in
set_option maxRecDepth 100000 in
theorem lc_count {p : Program} {l : Launch} {e : Env} {s : State} {m : MethodId} {below : List Frame} {meth : Method} {c : Code} {D : va_G} {cA : Nat → ClassId} {t1 t2 b L : Nat} {xs : Nat → Int32} {Q : State → Prop} (C : lw_C p s m c b L xs D cA t1 t2) {i : Int} (hi : 0 ≤ i) (hi7 : i + 7 ≤ (L : Int)) {a b2 : Nat → Nat} {u v : xS} (R : lw_R u v) {H : Heap} {locs : List Loc} (hV : lw_V D cA s a b2 u v H locs) {ls : Array Slot} (hl : lv_has ls 4 [(0, .ref b), (1, .ref (a 0)), (2, .ref (b2 0)), (3, .int (z_i i))])
    (kk : ∀ (u1 v1 : xS) (H : Heap) (locs : List Loc), lw_R u1 v1 → lw_V D cA s a b2 u1 v1 H locs → W p l e room_1 s m #[Value.ref b] below meth c H locs 73 90014 Q (F0 m 846 ls [])) : W p l e room_1 s m #[Value.ref b] below meth c H locs 73 90014 Q (F0 m 608 ls []) := by
  obtain ⟨hx, hb, hml, hown, hts, hX, hbl, hK, hST, hL⟩ := C
  have hbA : ¬ (fun q : Nat => s.heap.size ≤ q) b := Nat.not_le.mpr hbl
  obtain ⟨hPx, hPy, hDx, hDy, hN, hS⟩ := id hV
  obtain ⟨k1, hk_gi⟩ := z_gq_ex (lw_x xs (i + 1))
  obtain ⟨px1, py1, hend⟩ := op_count R (lw_x xs (i + 1)) (lw_x xs (i + 2)) hk_gi
  refine lv_aload_n hx hb dL_law_608 rfl (lv_at hl 1 rfl) ?_
  refine lv_aload_n hx hb dL_law_609 rfl (lv_at hl 0 rfl) ?_
  refine lv_iload_n hx hb dL_law_610 rfl (lv_at hl 3 rfl) ?_
  refine lv_iconst (v := z_i 1) hx hb dL_law_611 rfl ?_
  refine lx_iadd hx hb dL_law_612 ?_
  refine lw_sld hx hb hX hbl hbA hS (by omega) (by omega) hL dL_law_613 ?_
  refine lv_aload_n hx hb dL_law_614 rfl (lv_at hl 0 rfl) ?_
  refine lv_iload_n hx hb dL_law_615 rfl (lv_at hl 3 rfl) ?_
  refine lv_iconst (v := z_i 2) hx hb dL_law_616 rfl ?_
  refine lx_iadd hx hb dL_law_617 ?_
  refine lw_sld hx hb hX hbl hbA hS (by omega) (by omega) hL dL_law_618 ?_
  have hFx := va_D_in hDx
  refine va_calli (va_runV (As := [.int (z_i (lw_x xs (i + 1))), .int (z_i (lw_x xs (i + 2)))]) (rest := []) ⟨hx, hb, hml, hown, hts⟩ (mw_X7_count l D cA t1 t2 a u R.1.1 (lw_x xs (i + 1)) (lw_x xs (i + 2)) (lw_x_in xs _) (lw_x_in xs _) k1 hk_gi px1) (cwV 2 hts gL_law_X7_count rfl rfl rfl (by decide +kernel) ⟨Nat.le_of_ble_eq_true rfl, Nat.le_of_ble_eq_true rfl⟩) ⟨z_blm1, va_recv hK hPx (ci := 5) (q0 := 0) rfl rfl, fun U hU hW => ⟨rfl, z_m1 hK hPx hDx (hST.at hS hFx) hU hW⟩⟩ rfl rfl hl.1 rfl (lv_room (Nat.le_of_ble_eq_true rfl)) dL_law_619 ⟨Nat.le_of_ble_eq_true rfl, Nat.le_of_ble_eq_true rfl⟩) hS (fun q _ h => hFx q h) hFx (fun r0 u1 t H locs ht hvm hw hB hz1 hk1 hS => ?_)
  rw [ht] at hB
  obtain ⟨r1, rfl, hr_r1, hw1⟩ := hw
  have hV := lw_Vx hV hk1 hB hS
  obtain ⟨hPx, hPy, hDx, hDy, hN, -⟩ := id hV
  refine lv_aload_n hx hb dL_law_622 rfl (lv_at hl 2 rfl) ?_
  refine lv_aload_n hx hb dL_law_623 rfl (lv_at hl 0 rfl) ?_
  refine lv_iload_n hx hb dL_law_624 rfl (lv_at hl 3 rfl) ?_
  refine lv_iconst (v := z_i 1) hx hb dL_law_625 rfl ?_
  refine lx_iadd hx hb dL_law_626 ?_
  refine lw_sld hx hb hX hbl hbA hS (by omega) (by omega) hL dL_law_627 ?_
  refine lv_aload_n hx hb dL_law_628 rfl (lv_at hl 0 rfl) ?_
  refine lv_iload_n hx hb dL_law_629 rfl (lv_at hl 3 rfl) ?_
  refine lv_iconst (v := z_i 2) hx hb dL_law_630 rfl ?_
  refine lx_iadd hx hb dL_law_631 ?_
  refine lw_sld hx hb hX hbl hbA hS (by omega) (by omega) hL dL_law_632 ?_
  have hFy := va_D_in hDy
  refine va_calli (va_runV (As := [.int (z_i (lw_x xs (i + 1))), .int (z_i (lw_x xs (i + 2)))]) (rest := [.int (z_i r1)]) ⟨hx, hb, hml, hown, hts⟩ (mw_X8_count l D cA t1 t2 b2 v R.1.2 (lw_x xs (i + 1)) (lw_x xs (i + 2)) (lw_x_in xs _) (lw_x_in xs _) py1) (cwV 2 hts gL_law_X8_count rfl rfl rfl (by decide +kernel) ⟨Nat.le_of_ble_eq_true rfl, Nat.le_of_ble_eq_true rfl⟩) ⟨z_blm1, va_recv hK hPy (ci := 6) (q0 := 0) rfl rfl, fun U hU hW => ⟨rfl, z_m1 hK hPy hDy (hST.at hS hFy) hU hW⟩⟩ rfl rfl hl.1 rfl (lv_room (Nat.le_of_ble_eq_true rfl)) dL_law_633 ⟨Nat.le_of_ble_eq_true rfl, Nat.le_of_ble_eq_true rfl⟩) hS (fun q _ h => hFy q h) hFy (fun r0 v1 t H locs ht hvm hw hB hz1 hk1 hS => ?_)
  rw [ht] at hB
  obtain ⟨r2, rfl, hr_r2, hw2⟩ := hw
  have hV := lw_Vy hV hk1 hB hS
  obtain ⟨rfl, R⟩ := hend _ _ _ _ hw1 hw2
  exact lx_icmp_eq (tgt := 846) hx hb dL_law_636 (by decide) hr_r1 hr_r2 (fun _ => kk _ _ _ _ R hV) (fun h => absurd rfl h)
set_option maxHeartbeats 4000000 in
set_option maxRecDepth 100000 in
theorem lc_volume {p : Program} {l : Launch} {e : Env} {s : State} {m : MethodId} {below : List Frame} {meth : Method} {c : Code} {D : va_G} {cA : Nat → ClassId} {t1 t2 b L : Nat} {xs : Nat → Int32} {Q : State → Prop} (C : lw_C p s m c b L xs D cA t1 t2) {i : Int} (hi : 0 ≤ i) (hi7 : i + 7 ≤ (L : Int)) {a b2 : Nat → Nat} {u v : xS} (R : lw_R u v) {H : Heap} {locs : List Loc} (hV : lw_V D cA s a b2 u v H locs) {ls : Array Slot} (hl : lv_has ls 4 [(0, .ref b), (1, .ref (a 0)), (2, .ref (b2 0)), (3, .int (z_i i))])
    (kk : ∀ (u1 v1 : xS) (H : Heap) (locs : List Loc), lw_R u1 v1 → lw_V D cA s a b2 u1 v1 H locs → W p l e room_1 s m #[Value.ref b] below meth c H locs 73 90014 Q (F0 m 846 ls [])) : W p l e room_1 s m #[Value.ref b] below meth c H locs 73 90014 Q (F0 m 641 ls []) := by
  obtain ⟨hx, hb, hml, hown, hts, hX, hbl, hK, hST, hL⟩ := C
  have hbA : ¬ (fun q : Nat => s.heap.size ≤ q) b := Nat.not_le.mpr hbl
  obtain ⟨hPx, hPy, hDx, hDy, hN, hS⟩ := id hV
  obtain ⟨k1, hk_gi⟩ := z_gq_ex (lw_x xs (i + 1))
  obtain ⟨px1, py1, hend⟩ := op_volume R (lw_x xs (i + 1)) (lw_x xs (i + 2)) (lw_x xs (i + 3)) hk_gi
  refine lv_aload_n hx hb dL_law_641 rfl (lv_at hl 1 rfl) ?_
  refine lv_aload_n hx hb dL_law_642 rfl (lv_at hl 0 rfl) ?_
  refine lv_iload_n hx hb dL_law_643 rfl (lv_at hl 3 rfl) ?_
  refine lv_iconst (v := z_i 1) hx hb dL_law_644 rfl ?_
  refine lx_iadd hx hb dL_law_645 ?_
  refine lw_sld hx hb hX hbl hbA hS (by omega) (by omega) hL dL_law_646 ?_
  refine lv_aload_n hx hb dL_law_647 rfl (lv_at hl 0 rfl) ?_
  refine lv_iload_n hx hb dL_law_648 rfl (lv_at hl 3 rfl) ?_
  refine lv_iconst (v := z_i 2) hx hb dL_law_649 rfl ?_
  refine lx_iadd hx hb dL_law_650 ?_
  refine lw_sld hx hb hX hbl hbA hS (by omega) (by omega) hL dL_law_651 ?_
  refine lv_aload_n hx hb dL_law_652 rfl (lv_at hl 0 rfl) ?_
  refine lv_iload_n hx hb dL_law_653 rfl (lv_at hl 3 rfl) ?_
  refine lv_iconst (v := z_i 3) hx hb dL_law_654 rfl ?_
  refine lx_iadd hx hb dL_law_655 ?_
  refine lw_sld hx hb hX hbl hbA hS (by omega) (by omega) hL dL_law_656 ?_
  have hFx := va_D_in hDx
  refine va_calll (va_runV (As := [.int (z_i (lw_x xs (i + 1))), .int (z_i (lw_x xs (i + 2))), .int (z_i (lw_x xs (i + 3)))]) (rest := []) ⟨hx, hb, hml, hown, hts⟩ (mw_X7_volume l D cA t1 t2 a u R.1.1 (lw_x xs (i + 1)) (lw_x xs (i + 2)) (lw_x xs (i + 3)) (lw_x_in xs _) (lw_x_in xs _) (lw_x_in xs _) k1 hk_gi px1) (cwV 3 hts gL_law_X7_volume rfl rfl rfl (by decide +kernel) ⟨Nat.le_of_ble_eq_true rfl, Nat.le_of_ble_eq_true rfl⟩) ⟨z_blm1, va_recv hK hPx (ci := 5) (q0 := 0) rfl rfl, fun U hU hW => ⟨rfl, z_m1 hK hPx hDx (hST.at hS hFx) hU hW⟩⟩ rfl rfl hl.1 rfl (lv_room (Nat.le_of_ble_eq_true rfl)) dL_law_657 ⟨Nat.le_of_ble_eq_true rfl, Nat.le_of_ble_eq_true rfl⟩) hS (fun q _ h => hFx q h) hFx (fun r0 u1 t H locs ht hvm hw hB hz1 hk1 hS => ?_)
  rw [ht] at hB
  obtain ⟨r1, rfl, hr_r1, hw1⟩ := hw
  have hV := lw_Vx hV hk1 hB hS
  obtain ⟨hPx, hPy, hDx, hDy, hN, -⟩ := id hV
  refine lv_aload_n hx hb dL_law_660 rfl (lv_at hl 2 rfl) ?_
  refine lv_aload_n hx hb dL_law_661 rfl (lv_at hl 0 rfl) ?_
  refine lv_iload_n hx hb dL_law_662 rfl (lv_at hl 3 rfl) ?_
  refine lv_iconst (v := z_i 1) hx hb dL_law_663 rfl ?_
  refine lx_iadd hx hb dL_law_664 ?_
  refine lw_sld hx hb hX hbl hbA hS (by omega) (by omega) hL dL_law_665 ?_
  refine lv_aload_n hx hb dL_law_666 rfl (lv_at hl 0 rfl) ?_
  refine lv_iload_n hx hb dL_law_667 rfl (lv_at hl 3 rfl) ?_
  refine lv_iconst (v := z_i 2) hx hb dL_law_668 rfl ?_
  refine lx_iadd hx hb dL_law_669 ?_
  refine lw_sld hx hb hX hbl hbA hS (by omega) (by omega) hL dL_law_670 ?_
  refine lv_aload_n hx hb dL_law_671 rfl (lv_at hl 0 rfl) ?_
  refine lv_iload_n hx hb dL_law_672 rfl (lv_at hl 3 rfl) ?_
  refine lv_iconst (v := z_i 3) hx hb dL_law_673 rfl ?_
  refine lx_iadd hx hb dL_law_674 ?_
  refine lw_sld hx hb hX hbl hbA hS (by omega) (by omega) hL dL_law_675 ?_
  have hFy := va_D_in hDy
  refine va_calll (va_runV (As := [.int (z_i (lw_x xs (i + 1))), .int (z_i (lw_x xs (i + 2))), .int (z_i (lw_x xs (i + 3)))]) (rest := [.long (z_l r1)]) ⟨hx, hb, hml, hown, hts⟩ (mw_X8_volume l D cA t1 t2 b2 v R.1.2 (lw_x xs (i + 1)) (lw_x xs (i + 2)) (lw_x xs (i + 3)) (lw_x_in xs _) (lw_x_in xs _) (lw_x_in xs _) py1) (cwV 3 hts gL_law_X8_volume rfl rfl rfl (by decide +kernel) ⟨Nat.le_of_ble_eq_true rfl, Nat.le_of_ble_eq_true rfl⟩) ⟨z_blm1, va_recv hK hPy (ci := 6) (q0 := 0) rfl rfl, fun U hU hW => ⟨rfl, z_m1 hK hPy hDy (hST.at hS hFy) hU hW⟩⟩ rfl rfl hl.1 rfl (lv_room (Nat.le_of_ble_eq_true rfl)) dL_law_676 ⟨Nat.le_of_ble_eq_true rfl, Nat.le_of_ble_eq_true rfl⟩) hS (fun q _ h => hFy q h) hFy (fun r0 v1 t H locs ht hvm hw hB hz1 hk1 hS => ?_)
  rw [ht] at hB
  obtain ⟨r2, rfl, hr_r2, hw2⟩ := hw
  have hV := lw_Vy hV hk1 hB hS
  obtain ⟨rfl, R⟩ := hend _ _ _ _ hw1 hw2
  refine lx_lcmp hx hb dL_law_679 hr_r1 hr_r2 ?_
  rw [z_cmp_0]
  exact lx_if_eq (tgt := 846) hx hb dL_law_680 (by decide) z_in0 (fun _ => kk _ _ _ _ R hV) (fun h => absurd rfl h)
set_option maxHeartbeats 4000000 in
set_option maxRecDepth 100000 in
theorem lc_seen {p : Program} {l : Launch} {e : Env} {s : State} {m : MethodId} {below : List Frame} {meth : Method} {c : Code} {D : va_G} {cA : Nat → ClassId} {t1 t2 b L : Nat} {xs : Nat → Int32} {Q : State → Prop} (C : lw_C p s m c b L xs D cA t1 t2) {i : Int} (hi : 0 ≤ i) (hi7 : i + 7 ≤ (L : Int)) {a b2 : Nat → Nat} {u v : xS} (R : lw_R u v) {H : Heap} {locs : List Loc} (hV : lw_V D cA s a b2 u v H locs) {ls : Array Slot} (hl : lv_has ls 4 [(0, .ref b), (1, .ref (a 0)), (2, .ref (b2 0)), (3, .int (z_i i))])
    (kk : ∀ (u1 v1 : xS) (H : Heap) (locs : List Loc), lw_R u1 v1 → lw_V D cA s a b2 u1 v1 H locs → W p l e room_1 s m #[Value.ref b] below meth c H locs 73 90014 Q (F0 m 846 ls [])) : W p l e room_1 s m #[Value.ref b] below meth c H locs 73 90014 Q (F0 m 685 ls []) := by
  obtain ⟨hx, hb, hml, hown, hts, hX, hbl, hK, hST, hL⟩ := C
  have hbA : ¬ (fun q : Nat => s.heap.size ≤ q) b := Nat.not_le.mpr hbl
  obtain ⟨hPx, hPy, hDx, hDy, hN, hS⟩ := id hV
  obtain ⟨k1, hk_gi⟩ := z_gq_ex (lw_x xs (i + 1))
  obtain ⟨px1, py1, hend⟩ := op_seen R (lw_x xs (i + 1)) (lw_x xs (i + 2)) (lw_x xs (i + 3)) (lw_x xs (i + 4)) (lw_x xs (i + 5)) (lw_x xs (i + 6)) hk_gi
  refine lv_aload_n hx hb dL_law_685 rfl (lv_at hl 1 rfl) ?_
  refine lv_aload_n hx hb dL_law_686 rfl (lv_at hl 0 rfl) ?_
  refine lv_iload_n hx hb dL_law_687 rfl (lv_at hl 3 rfl) ?_
  refine lv_iconst (v := z_i 1) hx hb dL_law_688 rfl ?_
  refine lx_iadd hx hb dL_law_689 ?_
  refine lw_sld hx hb hX hbl hbA hS (by omega) (by omega) hL dL_law_690 ?_
  refine lv_aload_n hx hb dL_law_691 rfl (lv_at hl 0 rfl) ?_
  refine lv_iload_n hx hb dL_law_692 rfl (lv_at hl 3 rfl) ?_
  refine lv_iconst (v := z_i 2) hx hb dL_law_693 rfl ?_
  refine lx_iadd hx hb dL_law_694 ?_
  refine lw_sld hx hb hX hbl hbA hS (by omega) (by omega) hL dL_law_695 ?_
  refine lv_aload_n hx hb dL_law_696 rfl (lv_at hl 0 rfl) ?_
  refine lv_iload_n hx hb dL_law_697 rfl (lv_at hl 3 rfl) ?_
  refine lv_iconst (v := z_i 3) hx hb dL_law_698 rfl ?_
  refine lx_iadd hx hb dL_law_699 ?_
  refine lw_sld hx hb hX hbl hbA hS (by omega) (by omega) hL dL_law_700 ?_
  refine lv_aload_n hx hb dL_law_701 rfl (lv_at hl 0 rfl) ?_
  refine lv_iload_n hx hb dL_law_702 rfl (lv_at hl 3 rfl) ?_
  refine lv_iconst (v := z_i 4) hx hb dL_law_703 rfl ?_
  refine lx_iadd hx hb dL_law_704 ?_
  refine lw_sld hx hb hX hbl hbA hS (by omega) (by omega) hL dL_law_705 ?_
  refine lv_aload_n hx hb dL_law_706 rfl (lv_at hl 0 rfl) ?_
  refine lv_iload_n hx hb dL_law_707 rfl (lv_at hl 3 rfl) ?_
  refine lv_iconst (v := z_i 5) hx hb dL_law_708 rfl ?_
  refine lx_iadd hx hb dL_law_709 ?_
  refine lw_sld hx hb hX hbl hbA hS (by omega) (by omega) hL dL_law_710 ?_
  refine lv_aload_n hx hb dL_law_711 rfl (lv_at hl 0 rfl) ?_
  refine lv_iload_n hx hb dL_law_712 rfl (lv_at hl 3 rfl) ?_
  refine lv_bipush (v := z_i 6) hx hb dL_law_713 (by decide) ?_
  refine lx_iadd hx hb dL_law_715 ?_
  refine lw_sld hx hb hX hbl hbA hS (by omega) (by omega) hL dL_law_716 ?_
  have hFx := va_D_in hDx
  refine va_calli (va_runV (As := [.int (z_i (lw_x xs (i + 1))), .int (z_i (lw_x xs (i + 2))), .int (z_i (lw_x xs (i + 3))), .int (z_i (lw_x xs (i + 4))), .int (z_i (lw_x xs (i + 5))), .int (z_i (lw_x xs (i + 6)))]) (rest := []) ⟨hx, hb, hml, hown, hts⟩ (mw_X7_seen l D cA t1 t2 a u R.1.1 (lw_x xs (i + 1)) (lw_x xs (i + 2)) (lw_x xs (i + 3)) (lw_x xs (i + 4)) (lw_x xs (i + 5)) (lw_x xs (i + 6)) (lw_x_in xs _) (lw_x_in xs _) (lw_x_in xs _) (lw_x_in xs _) (lw_x_in xs _) (lw_x_in xs _) k1 hk_gi px1) (cwV 6 hts gL_law_X7_seen rfl rfl rfl (by decide +kernel) ⟨Nat.le_of_ble_eq_true rfl, Nat.le_of_ble_eq_true rfl⟩) ⟨z_blm1, va_recv hK hPx (ci := 5) (q0 := 0) rfl rfl, fun U hU hW => ⟨rfl, z_m1 hK hPx hDx (hST.at hS hFx) hU hW⟩⟩ rfl rfl hl.1 rfl (lv_room (Nat.le_of_ble_eq_true rfl)) dL_law_717 ⟨Nat.le_of_ble_eq_true rfl, Nat.le_of_ble_eq_true rfl⟩) hS (fun q _ h => hFx q h) hFx (fun r0 u1 t H locs ht hvm hw hB hz1 hk1 hS => ?_)
  rw [ht] at hB
  obtain ⟨r1, rfl, hr_r1, hw1⟩ := hw
  have hV := lw_Vx hV hk1 hB hS
  obtain ⟨hPx, hPy, hDx, hDy, hN, -⟩ := id hV
  refine lv_aload_n hx hb dL_law_720 rfl (lv_at hl 2 rfl) ?_
  refine lv_aload_n hx hb dL_law_721 rfl (lv_at hl 0 rfl) ?_
  refine lv_iload_n hx hb dL_law_722 rfl (lv_at hl 3 rfl) ?_
  refine lv_iconst (v := z_i 1) hx hb dL_law_723 rfl ?_
  refine lx_iadd hx hb dL_law_724 ?_
  refine lw_sld hx hb hX hbl hbA hS (by omega) (by omega) hL dL_law_725 ?_
  refine lv_aload_n hx hb dL_law_726 rfl (lv_at hl 0 rfl) ?_
  refine lv_iload_n hx hb dL_law_727 rfl (lv_at hl 3 rfl) ?_
  refine lv_iconst (v := z_i 2) hx hb dL_law_728 rfl ?_
  refine lx_iadd hx hb dL_law_729 ?_
  refine lw_sld hx hb hX hbl hbA hS (by omega) (by omega) hL dL_law_730 ?_
  refine lv_aload_n hx hb dL_law_731 rfl (lv_at hl 0 rfl) ?_
  refine lv_iload_n hx hb dL_law_732 rfl (lv_at hl 3 rfl) ?_
  refine lv_iconst (v := z_i 3) hx hb dL_law_733 rfl ?_
  refine lx_iadd hx hb dL_law_734 ?_
  refine lw_sld hx hb hX hbl hbA hS (by omega) (by omega) hL dL_law_735 ?_
  refine lv_aload_n hx hb dL_law_736 rfl (lv_at hl 0 rfl) ?_
  refine lv_iload_n hx hb dL_law_737 rfl (lv_at hl 3 rfl) ?_
  refine lv_iconst (v := z_i 4) hx hb dL_law_738 rfl ?_
  refine lx_iadd hx hb dL_law_739 ?_
  refine lw_sld hx hb hX hbl hbA hS (by omega) (by omega) hL dL_law_740 ?_
  refine lv_aload_n hx hb dL_law_741 rfl (lv_at hl 0 rfl) ?_
  refine lv_iload_n hx hb dL_law_742 rfl (lv_at hl 3 rfl) ?_
  refine lv_iconst (v := z_i 5) hx hb dL_law_743 rfl ?_
  refine lx_iadd hx hb dL_law_744 ?_
  refine lw_sld hx hb hX hbl hbA hS (by omega) (by omega) hL dL_law_745 ?_
  refine lv_aload_n hx hb dL_law_746 rfl (lv_at hl 0 rfl) ?_
  refine lv_iload_n hx hb dL_law_747 rfl (lv_at hl 3 rfl) ?_
  refine lv_bipush (v := z_i 6) hx hb dL_law_748 (by decide) ?_
  refine lx_iadd hx hb dL_law_750 ?_
  refine lw_sld hx hb hX hbl hbA hS (by omega) (by omega) hL dL_law_751 ?_
  have hFy := va_D_in hDy
  refine va_calli (va_runV (As := [.int (z_i (lw_x xs (i + 1))), .int (z_i (lw_x xs (i + 2))), .int (z_i (lw_x xs (i + 3))), .int (z_i (lw_x xs (i + 4))), .int (z_i (lw_x xs (i + 5))), .int (z_i (lw_x xs (i + 6)))]) (rest := [.int (z_i r1)]) ⟨hx, hb, hml, hown, hts⟩ (mw_X8_seen l D cA t1 t2 b2 v R.1.2 (lw_x xs (i + 1)) (lw_x xs (i + 2)) (lw_x xs (i + 3)) (lw_x xs (i + 4)) (lw_x xs (i + 5)) (lw_x xs (i + 6)) (lw_x_in xs _) (lw_x_in xs _) (lw_x_in xs _) (lw_x_in xs _) (lw_x_in xs _) (lw_x_in xs _) py1) (cwV 6 hts gL_law_X8_seen rfl rfl rfl (by decide +kernel) ⟨Nat.le_of_ble_eq_true rfl, Nat.le_of_ble_eq_true rfl⟩) ⟨z_blm1, va_recv hK hPy (ci := 6) (q0 := 0) rfl rfl, fun U hU hW => ⟨rfl, z_m1 hK hPy hDy (hST.at hS hFy) hU hW⟩⟩ rfl rfl hl.1 rfl (lv_room (Nat.le_of_ble_eq_true rfl)) dL_law_752 ⟨Nat.le_of_ble_eq_true rfl, Nat.le_of_ble_eq_true rfl⟩) hS (fun q _ h => hFy q h) hFy (fun r0 v1 t H locs ht hvm hw hB hz1 hk1 hS => ?_)
  rw [ht] at hB
  obtain ⟨r2, rfl, hr_r2, hw2⟩ := hw
  have hV := lw_Vy hV hk1 hB hS
  obtain ⟨rfl, R⟩ := hend _ _ _ _ hw1 hw2
  exact lx_icmp_eq (tgt := 846) hx hb dL_law_755 (by decide) hr_r1 hr_r2 (fun _ => kk _ _ _ _ R hV) (fun h => absurd rfl h)
set_option maxHeartbeats 4000000 in
set_option maxRecDepth 100000 in
theorem lc_smooth {p : Program} {l : Launch} {e : Env} {s : State} {m : MethodId} {below : List Frame} {meth : Method} {c : Code} {D : va_G} {cA : Nat → ClassId} {t1 t2 b L : Nat} {xs : Nat → Int32} {Q : State → Prop} (C : lw_C p s m c b L xs D cA t1 t2) {i : Int} (hi : 0 ≤ i) (hi7 : i + 7 ≤ (L : Int)) {a b2 : Nat → Nat} {u v : xS} (R : lw_R u v) {H : Heap} {locs : List Loc} (hV : lw_V D cA s a b2 u v H locs) {ls : Array Slot} (hl : lv_has ls 4 [(0, .ref b), (1, .ref (a 0)), (2, .ref (b2 0)), (3, .int (z_i i))])
    (kk : ∀ (u1 v1 : xS) (H : Heap) (locs : List Loc), lw_R u1 v1 → lw_V D cA s a b2 u1 v1 H locs → W p l e room_1 s m #[Value.ref b] below meth c H locs 73 90014 Q (F0 m 846 ls [])) : W p l e room_1 s m #[Value.ref b] below meth c H locs 73 90014 Q (F0 m 760 ls []) := by
  obtain ⟨hx, hb, hml, hown, hts, hX, hbl, hK, hST, hL⟩ := C
  have hbA : ¬ (fun q : Nat => s.heap.size ≤ q) b := Nat.not_le.mpr hbl
  obtain ⟨hPx, hPy, hDx, hDy, hN, hS⟩ := id hV
  obtain ⟨k1, hk_gi⟩ := z_gq_ex (lw_x xs (i + 1))
  obtain ⟨k2, hk_to⟩ := z_gq_ex (lw_x xs (i + 2))
  obtain ⟨px1, py1, py2, hend⟩ := op_smooth R (lw_x xs (i + 1)) (lw_x xs (i + 2)) (lw_x xs (i + 3)) hk_gi hk_to
  refine lv_aload_n hx hb dL_law_760 rfl (lv_at hl 1 rfl) ?_
  refine lv_aload_n hx hb dL_law_761 rfl (lv_at hl 0 rfl) ?_
  refine lv_iload_n hx hb dL_law_762 rfl (lv_at hl 3 rfl) ?_
  refine lv_iconst (v := z_i 1) hx hb dL_law_763 rfl ?_
  refine lx_iadd hx hb dL_law_764 ?_
  refine lw_sld hx hb hX hbl hbA hS (by omega) (by omega) hL dL_law_765 ?_
  refine lv_aload_n hx hb dL_law_766 rfl (lv_at hl 0 rfl) ?_
  refine lv_iload_n hx hb dL_law_767 rfl (lv_at hl 3 rfl) ?_
  refine lv_iconst (v := z_i 2) hx hb dL_law_768 rfl ?_
  refine lx_iadd hx hb dL_law_769 ?_
  refine lw_sld hx hb hX hbl hbA hS (by omega) (by omega) hL dL_law_770 ?_
  refine lv_aload_n hx hb dL_law_771 rfl (lv_at hl 0 rfl) ?_
  refine lv_iload_n hx hb dL_law_772 rfl (lv_at hl 3 rfl) ?_
  refine lv_iconst (v := z_i 3) hx hb dL_law_773 rfl ?_
  refine lx_iadd hx hb dL_law_774 ?_
  refine lw_sld hx hb hX hbl hbA hS (by omega) (by omega) hL dL_law_775 ?_
  have hFx := va_D_in hDx
  refine va_calli (va_runV (As := [.int (z_i (lw_x xs (i + 1))), .int (z_i (lw_x xs (i + 2))), .int (z_i (lw_x xs (i + 3)))]) (rest := []) ⟨hx, hb, hml, hown, hts⟩ (mw_X7_smooth l D cA t1 t2 a u R.1.1 (lw_x xs (i + 1)) (lw_x xs (i + 2)) (lw_x xs (i + 3)) (lw_x_in xs _) (lw_x_in xs _) (lw_x_in xs _) k1 k2 hk_gi hk_to px1) (cwV 3 hts gL_law_X7_smooth rfl rfl rfl (by decide +kernel) ⟨Nat.le_of_ble_eq_true rfl, Nat.le_of_ble_eq_true rfl⟩) ⟨z_blm1, va_recv hK hPx (ci := 5) (q0 := 0) rfl rfl, fun U hU hW => ⟨rfl, z_m1 hK hPx hDx (hST.at hS hFx) hU hW⟩⟩ rfl rfl hl.1 rfl (lv_room (Nat.le_of_ble_eq_true rfl)) dL_law_776 ⟨Nat.le_of_ble_eq_true rfl, Nat.le_of_ble_eq_true rfl⟩) hS (fun q _ h => hFx q h) hFx (fun r0 u1 t H locs ht hvm hw hB hz1 hk1 hS => ?_)
  rw [ht] at hB
  obtain ⟨r1, rfl, hr_r1, hw1⟩ := hw
  have hV := lw_Vx hV hk1 hB hS
  obtain ⟨hPx, hPy, hDx, hDy, hN, -⟩ := id hV
  refine lv_aload_n hx hb dL_law_779 rfl (lv_at hl 2 rfl) ?_
  refine lv_aload_n hx hb dL_law_780 rfl (lv_at hl 0 rfl) ?_
  refine lv_iload_n hx hb dL_law_781 rfl (lv_at hl 3 rfl) ?_
  refine lv_iconst (v := z_i 1) hx hb dL_law_782 rfl ?_
  refine lx_iadd hx hb dL_law_783 ?_
  refine lw_sld hx hb hX hbl hbA hS (by omega) (by omega) hL dL_law_784 ?_
  refine lv_aload_n hx hb dL_law_785 rfl (lv_at hl 0 rfl) ?_
  refine lv_iload_n hx hb dL_law_786 rfl (lv_at hl 3 rfl) ?_
  refine lv_iconst (v := z_i 2) hx hb dL_law_787 rfl ?_
  refine lx_iadd hx hb dL_law_788 ?_
  refine lw_sld hx hb hX hbl hbA hS (by omega) (by omega) hL dL_law_789 ?_
  refine lv_aload_n hx hb dL_law_790 rfl (lv_at hl 0 rfl) ?_
  refine lv_iload_n hx hb dL_law_791 rfl (lv_at hl 3 rfl) ?_
  refine lv_iconst (v := z_i 3) hx hb dL_law_792 rfl ?_
  refine lx_iadd hx hb dL_law_793 ?_
  refine lw_sld hx hb hX hbl hbA hS (by omega) (by omega) hL dL_law_794 ?_
  have hFy := va_D_in hDy
  refine va_calli (va_runV (As := [.int (z_i (lw_x xs (i + 1))), .int (z_i (lw_x xs (i + 2))), .int (z_i (lw_x xs (i + 3)))]) (rest := [.int (z_i r1)]) ⟨hx, hb, hml, hown, hts⟩ (mw_X8_smooth l D cA t1 t2 b2 v R.1.2 (lw_x xs (i + 1)) (lw_x xs (i + 2)) (lw_x xs (i + 3)) (lw_x_in xs _) (lw_x_in xs _) (lw_x_in xs _) py1 py2) (cwV 3 hts gL_law_X8_smooth rfl rfl rfl (by decide +kernel) ⟨Nat.le_of_ble_eq_true rfl, Nat.le_of_ble_eq_true rfl⟩) ⟨z_blm1, va_recv hK hPy (ci := 6) (q0 := 0) rfl rfl, fun U hU hW => ⟨rfl, z_m1 hK hPy hDy (hST.at hS hFy) hU hW⟩⟩ rfl rfl hl.1 rfl (lv_room (Nat.le_of_ble_eq_true rfl)) dL_law_795 ⟨Nat.le_of_ble_eq_true rfl, Nat.le_of_ble_eq_true rfl⟩) hS (fun q _ h => hFy q h) hFy (fun r0 v1 t H locs ht hvm hw hB hz1 hk1 hS => ?_)
  rw [ht] at hB
  obtain ⟨r2, rfl, hr_r2, hw2⟩ := hw
  have hV := lw_Vy hV hk1 hB hS
  obtain ⟨rfl, R⟩ := hend _ _ _ _ hw1 hw2
  exact lx_icmp_eq (tgt := 846) hx hb dL_law_798 (by decide) hr_r1 hr_r2 (fun _ => kk _ _ _ _ R hV) (fun h => absurd rfl h)
set_option maxHeartbeats 4000000 in
set_option maxRecDepth 100000 in
theorem lc_difference {p : Program} {l : Launch} {e : Env} {s : State} {m : MethodId} {below : List Frame} {meth : Method} {c : Code} {D : va_G} {cA : Nat → ClassId} {t1 t2 b L : Nat} {xs : Nat → Int32} {Q : State → Prop} (C : lw_C p s m c b L xs D cA t1 t2) {i : Int} (hi : 0 ≤ i) (hi7 : i + 7 ≤ (L : Int)) {a b2 : Nat → Nat} {u v : xS} (R : lw_R u v) {H : Heap} {locs : List Loc} (hV : lw_V D cA s a b2 u v H locs) {ls : Array Slot} (hl : lv_has ls 4 [(0, .ref b), (1, .ref (a 0)), (2, .ref (b2 0)), (3, .int (z_i i))])
    (kk : ∀ (u1 v1 : xS) (H : Heap) (locs : List Loc), lw_R u1 v1 → lw_V D cA s a b2 u1 v1 H locs → W p l e room_1 s m #[Value.ref b] below meth c H locs 73 90014 Q (F0 m 846 ls [])) : W p l e room_1 s m #[Value.ref b] below meth c H locs 73 90014 Q (F0 m 803 ls []) := by
  obtain ⟨hx, hb, hml, hown, hts, hX, hbl, hK, hST, hL⟩ := C
  have hbA : ¬ (fun q : Nat => s.heap.size ≤ q) b := Nat.not_le.mpr hbl
  obtain ⟨hPx, hPy, hDx, hDy, hN, hS⟩ := id hV
  obtain ⟨k1, hk_gi⟩ := z_gq_ex (lw_x xs (i + 1))
  obtain ⟨k2, hk_hi_⟩ := z_gq_ex (lw_x xs (i + 2))
  obtain ⟨k3, hk_to⟩ := z_gq_ex (lw_x xs (i + 3))
  obtain ⟨px1, px2, py1, py2, hend⟩ := op_difference R (lw_x xs (i + 1)) (lw_x xs (i + 2)) (lw_x xs (i + 3)) hk_gi hk_hi_ hk_to
  refine lv_aload_n hx hb dL_law_803 rfl (lv_at hl 1 rfl) ?_
  refine lv_aload_n hx hb dL_law_804 rfl (lv_at hl 0 rfl) ?_
  refine lv_iload_n hx hb dL_law_805 rfl (lv_at hl 3 rfl) ?_
  refine lv_iconst (v := z_i 1) hx hb dL_law_806 rfl ?_
  refine lx_iadd hx hb dL_law_807 ?_
  refine lw_sld hx hb hX hbl hbA hS (by omega) (by omega) hL dL_law_808 ?_
  refine lv_aload_n hx hb dL_law_809 rfl (lv_at hl 0 rfl) ?_
  refine lv_iload_n hx hb dL_law_810 rfl (lv_at hl 3 rfl) ?_
  refine lv_iconst (v := z_i 2) hx hb dL_law_811 rfl ?_
  refine lx_iadd hx hb dL_law_812 ?_
  refine lw_sld hx hb hX hbl hbA hS (by omega) (by omega) hL dL_law_813 ?_
  refine lv_aload_n hx hb dL_law_814 rfl (lv_at hl 0 rfl) ?_
  refine lv_iload_n hx hb dL_law_815 rfl (lv_at hl 3 rfl) ?_
  refine lv_iconst (v := z_i 3) hx hb dL_law_816 rfl ?_
  refine lx_iadd hx hb dL_law_817 ?_
  refine lw_sld hx hb hX hbl hbA hS (by omega) (by omega) hL dL_law_818 ?_
  have hFx := va_D_in hDx
  refine va_calli (va_runV (As := [.int (z_i (lw_x xs (i + 1))), .int (z_i (lw_x xs (i + 2))), .int (z_i (lw_x xs (i + 3)))]) (rest := []) ⟨hx, hb, hml, hown, hts⟩ (mw_X7_difference l D cA t1 t2 a u R.1.1 (lw_x xs (i + 1)) (lw_x xs (i + 2)) (lw_x xs (i + 3)) (lw_x_in xs _) (lw_x_in xs _) (lw_x_in xs _) k1 k2 k3 hk_gi hk_hi_ hk_to px1 px2) (cwV 3 hts gL_law_X7_difference rfl rfl rfl (by decide +kernel) ⟨Nat.le_of_ble_eq_true rfl, Nat.le_of_ble_eq_true rfl⟩) ⟨z_blm1, va_recv hK hPx (ci := 5) (q0 := 0) rfl rfl, fun U hU hW => ⟨rfl, z_m1 hK hPx hDx (hST.at hS hFx) hU hW⟩⟩ rfl rfl hl.1 rfl (lv_room (Nat.le_of_ble_eq_true rfl)) dL_law_819 ⟨Nat.le_of_ble_eq_true rfl, Nat.le_of_ble_eq_true rfl⟩) hS (fun q _ h => hFx q h) hFx (fun r0 u1 t H locs ht hvm hw hB hz1 hk1 hS => ?_)
  rw [ht] at hB
  obtain ⟨r1, rfl, hr_r1, hw1⟩ := hw
  have hV := lw_Vx hV hk1 hB hS
  obtain ⟨hPx, hPy, hDx, hDy, hN, -⟩ := id hV
  refine lv_aload_n hx hb dL_law_822 rfl (lv_at hl 2 rfl) ?_
  refine lv_aload_n hx hb dL_law_823 rfl (lv_at hl 0 rfl) ?_
  refine lv_iload_n hx hb dL_law_824 rfl (lv_at hl 3 rfl) ?_
  refine lv_iconst (v := z_i 1) hx hb dL_law_825 rfl ?_
  refine lx_iadd hx hb dL_law_826 ?_
  refine lw_sld hx hb hX hbl hbA hS (by omega) (by omega) hL dL_law_827 ?_
  refine lv_aload_n hx hb dL_law_828 rfl (lv_at hl 0 rfl) ?_
  refine lv_iload_n hx hb dL_law_829 rfl (lv_at hl 3 rfl) ?_
  refine lv_iconst (v := z_i 2) hx hb dL_law_830 rfl ?_
  refine lx_iadd hx hb dL_law_831 ?_
  refine lw_sld hx hb hX hbl hbA hS (by omega) (by omega) hL dL_law_832 ?_
  refine lv_aload_n hx hb dL_law_833 rfl (lv_at hl 0 rfl) ?_
  refine lv_iload_n hx hb dL_law_834 rfl (lv_at hl 3 rfl) ?_
  refine lv_iconst (v := z_i 3) hx hb dL_law_835 rfl ?_
  refine lx_iadd hx hb dL_law_836 ?_
  refine lw_sld hx hb hX hbl hbA hS (by omega) (by omega) hL dL_law_837 ?_
  have hFy := va_D_in hDy
  refine va_calli (va_runV (As := [.int (z_i (lw_x xs (i + 1))), .int (z_i (lw_x xs (i + 2))), .int (z_i (lw_x xs (i + 3)))]) (rest := [.int (z_i r1)]) ⟨hx, hb, hml, hown, hts⟩ (mw_X8_difference l D cA t1 t2 b2 v R.1.2 (lw_x xs (i + 1)) (lw_x xs (i + 2)) (lw_x xs (i + 3)) (lw_x_in xs _) (lw_x_in xs _) (lw_x_in xs _) py1 py2) (cwV 3 hts gL_law_X8_difference rfl rfl rfl (by decide +kernel) ⟨Nat.le_of_ble_eq_true rfl, Nat.le_of_ble_eq_true rfl⟩) ⟨z_blm1, va_recv hK hPy (ci := 6) (q0 := 0) rfl rfl, fun U hU hW => ⟨rfl, z_m1 hK hPy hDy (hST.at hS hFy) hU hW⟩⟩ rfl rfl hl.1 rfl (lv_room (Nat.le_of_ble_eq_true rfl)) dL_law_838 ⟨Nat.le_of_ble_eq_true rfl, Nat.le_of_ble_eq_true rfl⟩) hS (fun q _ h => hFy q h) hFy (fun r0 v1 t H locs ht hvm hw hB hz1 hk1 hS => ?_)
  rw [ht] at hB
  obtain ⟨r2, rfl, hr_r2, hw2⟩ := hw
  have hV := lw_Vy hV hk1 hB hS
  obtain ⟨rfl, R⟩ := hend _ _ _ _ hw1 hw2
  exact lx_icmp_eq (tgt := 846) hx hb dL_law_841 (by decide) hr_r1 hr_r2 (fun _ => kk _ _ _ _ R hV) (fun h => absurd rfl h)
