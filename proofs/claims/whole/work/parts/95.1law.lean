set_option maxHeartbeats 4000000 in
set_option maxRecDepth 100000 in
theorem lc_spacing {p : Program} {l : Launch} {e : Env} {s : State} {m : MethodId} {below : List Frame} {meth : Method} {c : Code} {D : va_G} {cA : Nat → ClassId} {t1 t2 b L : Nat} {xs : Nat → Int32} {Q : State → Prop} (C : lw_C p s m c b L xs D cA t1 t2) {i : Int} (hi : 0 ≤ i) (hi7 : i + 7 ≤ (L : Int)) {a b2 : Nat → Nat} {u v : xS} (R : lw_R u v) {H : Heap} {locs : List Loc} (hV : lw_V D cA s a b2 u v H locs) {ls : Array Slot} (hl : lv_has ls 4 [(0, .ref b), (1, .ref (a 0)), (2, .ref (b2 0)), (3, .int (z_i i))])
    (kk : ∀ (u1 v1 : xS) (H : Heap) (locs : List Loc), lw_R u1 v1 → lw_V D cA s a b2 u1 v1 H locs → W p l e room_1 s m #[Value.ref b] below meth c H locs 73 90014 Q (F0 m 846 ls [])) : W p l e room_1 s m #[Value.ref b] below meth c H locs 73 90014 Q (F0 m 120 ls []) := by
  obtain ⟨hx, hb, hml, hown, hts, hX, hbl, hK, hST, hL⟩ := C
  have hbA : ¬ (fun q : Nat => s.heap.size ≤ q) b := Nat.not_le.mpr hbl
  obtain ⟨hPx, hPy, hDx, hDy, hN, hS⟩ := id hV
  obtain ⟨k1, hk_gi⟩ := z_gq_ex (lw_x xs (i + 1))
  have hend := op_spacing R (lw_x xs (i + 1)) (lw_x xs (i + 2)) hk_gi
  refine lv_aload_n hx hb dL_law_120 rfl (lv_at hl 1 rfl) ?_
  refine lv_aload_n hx hb dL_law_121 rfl (lv_at hl 0 rfl) ?_
  refine lv_iload_n hx hb dL_law_122 rfl (lv_at hl 3 rfl) ?_
  refine lv_iconst (v := z_i 1) hx hb dL_law_123 rfl ?_
  refine lx_iadd hx hb dL_law_124 ?_
  refine lw_sld hx hb hX hbl hbA hS (by omega) (by omega) hL dL_law_125 ?_
  refine lv_aload_n hx hb dL_law_126 rfl (lv_at hl 0 rfl) ?_
  refine lv_iload_n hx hb dL_law_127 rfl (lv_at hl 3 rfl) ?_
  refine lv_iconst (v := z_i 2) hx hb dL_law_128 rfl ?_
  refine lx_iadd hx hb dL_law_129 ?_
  refine lw_sld hx hb hX hbl hbA hS (by omega) (by omega) hL dL_law_130 ?_
  have hFx := va_D_in hDx
  refine va_calli (va_runV (As := [.int (z_i (lw_x xs (i + 1))), .int (z_i (lw_x xs (i + 2)))]) (rest := []) ⟨hx, hb, hml, hown, hts⟩ (mw_X7_spacing l D cA t1 t2 a u R.1.1 (lw_x xs (i + 1)) (lw_x xs (i + 2)) (lw_x_in xs _) (lw_x_in xs _) k1 hk_gi) (cwV 2 hts gL_law_X7_spacing rfl rfl rfl (by decide +kernel) ⟨Nat.le_of_ble_eq_true rfl, Nat.le_of_ble_eq_true rfl⟩) ⟨z_blm1, va_recv hK hPx (ci := 5) (q0 := 0) rfl rfl, fun U hU hW => ⟨rfl, z_m1 hK hPx hDx (hST.at hS hFx) hU hW⟩⟩ rfl rfl hl.1 rfl (lv_room (Nat.le_of_ble_eq_true rfl)) dL_law_131 ⟨Nat.le_of_ble_eq_true rfl, Nat.le_of_ble_eq_true rfl⟩) hS (fun q _ h => hFx q h) hFx (fun r0 u1 t H locs ht hvm hw hB hz1 hk1 hS => ?_)
  rw [ht] at hB
  obtain ⟨r1, rfl, hr_r1, hw1⟩ := hw
  have hV := lw_Vx hV hk1 hB hS
  obtain ⟨hPx, hPy, hDx, hDy, hN, -⟩ := id hV
  refine lv_aload_n hx hb dL_law_134 rfl (lv_at hl 2 rfl) ?_
  refine lv_aload_n hx hb dL_law_135 rfl (lv_at hl 0 rfl) ?_
  refine lv_iload_n hx hb dL_law_136 rfl (lv_at hl 3 rfl) ?_
  refine lv_iconst (v := z_i 1) hx hb dL_law_137 rfl ?_
  refine lx_iadd hx hb dL_law_138 ?_
  refine lw_sld hx hb hX hbl hbA hS (by omega) (by omega) hL dL_law_139 ?_
  refine lv_aload_n hx hb dL_law_140 rfl (lv_at hl 0 rfl) ?_
  refine lv_iload_n hx hb dL_law_141 rfl (lv_at hl 3 rfl) ?_
  refine lv_iconst (v := z_i 2) hx hb dL_law_142 rfl ?_
  refine lx_iadd hx hb dL_law_143 ?_
  refine lw_sld hx hb hX hbl hbA hS (by omega) (by omega) hL dL_law_144 ?_
  have hFy := va_D_in hDy
  refine va_calli (va_runV (As := [.int (z_i (lw_x xs (i + 1))), .int (z_i (lw_x xs (i + 2)))]) (rest := [.int (z_i r1)]) ⟨hx, hb, hml, hown, hts⟩ (mw_X8_spacing l D cA t1 t2 b2 v R.1.2 (lw_x xs (i + 1)) (lw_x xs (i + 2)) (lw_x_in xs _) (lw_x_in xs _)) (cwV 2 hts gL_law_X8_spacing rfl rfl rfl (by decide +kernel) ⟨Nat.le_of_ble_eq_true rfl, Nat.le_of_ble_eq_true rfl⟩) ⟨z_blm1, va_recv hK hPy (ci := 6) (q0 := 0) rfl rfl, fun U hU hW => ⟨rfl, z_m1 hK hPy hDy (hST.at hS hFy) hU hW⟩⟩ rfl rfl hl.1 rfl (lv_room (Nat.le_of_ble_eq_true rfl)) dL_law_145 ⟨Nat.le_of_ble_eq_true rfl, Nat.le_of_ble_eq_true rfl⟩) hS (fun q _ h => hFy q h) hFy (fun r0 v1 t H locs ht hvm hw hB hz1 hk1 hS => ?_)
  rw [ht] at hB
  obtain ⟨r2, rfl, hr_r2, hw2⟩ := hw
  have hV := lw_Vy hV hk1 hB hS
  obtain ⟨rfl, R⟩ := hend _ _ _ _ hw1 hw2
  exact lx_icmp_eq (tgt := 846) hx hb dL_law_148 (by decide) hr_r1 hr_r2 (fun _ => kk _ _ _ _ R hV) (fun h => absurd rfl h)
set_option maxHeartbeats 4000000 in
set_option maxRecDepth 100000 in
theorem lc_row {p : Program} {l : Launch} {e : Env} {s : State} {m : MethodId} {below : List Frame} {meth : Method} {c : Code} {D : va_G} {cA : Nat → ClassId} {t1 t2 b L : Nat} {xs : Nat → Int32} {Q : State → Prop} (C : lw_C p s m c b L xs D cA t1 t2) {i : Int} (hi : 0 ≤ i) (hi7 : i + 7 ≤ (L : Int)) {a b2 : Nat → Nat} {u v : xS} (R : lw_R u v) {H : Heap} {locs : List Loc} (hV : lw_V D cA s a b2 u v H locs) {ls : Array Slot} (hl : lv_has ls 4 [(0, .ref b), (1, .ref (a 0)), (2, .ref (b2 0)), (3, .int (z_i i))])
    (kk : ∀ (u1 v1 : xS) (H : Heap) (locs : List Loc), lw_R u1 v1 → lw_V D cA s a b2 u1 v1 H locs → W p l e room_1 s m #[Value.ref b] below meth c H locs 73 90014 Q (F0 m 846 ls [])) : W p l e room_1 s m #[Value.ref b] below meth c H locs 73 90014 Q (F0 m 153 ls []) := by
  obtain ⟨hx, hb, hml, hown, hts, hX, hbl, hK, hST, hL⟩ := C
  have hbA : ¬ (fun q : Nat => s.heap.size ≤ q) b := Nat.not_le.mpr hbl
  obtain ⟨hPx, hPy, hDx, hDy, hN, hS⟩ := id hV
  obtain ⟨k1, hk_gi⟩ := z_gq_ex (lw_x xs (i + 1))
  have hend := op_row R (lw_x xs (i + 1)) (lw_x xs (i + 2)) (lw_x xs (i + 3)) (lw_x xs (i + 4)) hk_gi
  refine lv_aload_n hx hb dL_law_153 rfl (lv_at hl 1 rfl) ?_
  refine lv_aload_n hx hb dL_law_154 rfl (lv_at hl 0 rfl) ?_
  refine lv_iload_n hx hb dL_law_155 rfl (lv_at hl 3 rfl) ?_
  refine lv_iconst (v := z_i 1) hx hb dL_law_156 rfl ?_
  refine lx_iadd hx hb dL_law_157 ?_
  refine lw_sld hx hb hX hbl hbA hS (by omega) (by omega) hL dL_law_158 ?_
  refine lv_aload_n hx hb dL_law_159 rfl (lv_at hl 0 rfl) ?_
  refine lv_iload_n hx hb dL_law_160 rfl (lv_at hl 3 rfl) ?_
  refine lv_iconst (v := z_i 2) hx hb dL_law_161 rfl ?_
  refine lx_iadd hx hb dL_law_162 ?_
  refine lw_sld hx hb hX hbl hbA hS (by omega) (by omega) hL dL_law_163 ?_
  refine lv_aload_n hx hb dL_law_164 rfl (lv_at hl 0 rfl) ?_
  refine lv_iload_n hx hb dL_law_165 rfl (lv_at hl 3 rfl) ?_
  refine lv_iconst (v := z_i 3) hx hb dL_law_166 rfl ?_
  refine lx_iadd hx hb dL_law_167 ?_
  refine lw_sld hx hb hX hbl hbA hS (by omega) (by omega) hL dL_law_168 ?_
  refine lv_aload_n hx hb dL_law_169 rfl (lv_at hl 0 rfl) ?_
  refine lv_iload_n hx hb dL_law_170 rfl (lv_at hl 3 rfl) ?_
  refine lv_iconst (v := z_i 4) hx hb dL_law_171 rfl ?_
  refine lx_iadd hx hb dL_law_172 ?_
  refine lw_sld hx hb hX hbl hbA hS (by omega) (by omega) hL dL_law_173 ?_
  have hFx := va_D_in hDx
  refine va_calli (va_runV (As := [.int (z_i (lw_x xs (i + 1))), .int (z_i (lw_x xs (i + 2))), .int (z_i (lw_x xs (i + 3))), .int (z_i (lw_x xs (i + 4)))]) (rest := []) ⟨hx, hb, hml, hown, hts⟩ (mw_X7_row l D cA t1 t2 a u R.1.1 (lw_x xs (i + 1)) (lw_x xs (i + 2)) (lw_x xs (i + 3)) (lw_x xs (i + 4)) (lw_x_in xs _) (lw_x_in xs _) (lw_x_in xs _) (lw_x_in xs _) k1 hk_gi) (cwV 4 hts gL_law_X7_row rfl rfl rfl (by decide +kernel) ⟨Nat.le_of_ble_eq_true rfl, Nat.le_of_ble_eq_true rfl⟩) ⟨z_blm1, va_recv hK hPx (ci := 5) (q0 := 0) rfl rfl, fun U hU hW => ⟨rfl, z_m1 hK hPx hDx (hST.at hS hFx) hU hW⟩⟩ rfl rfl hl.1 rfl (lv_room (Nat.le_of_ble_eq_true rfl)) dL_law_174 ⟨Nat.le_of_ble_eq_true rfl, Nat.le_of_ble_eq_true rfl⟩) hS (fun q _ h => hFx q h) hFx (fun r0 u1 t H locs ht hvm hw hB hz1 hk1 hS => ?_)
  rw [ht] at hB
  obtain ⟨r1, rfl, hr_r1, hw1⟩ := hw
  have hV := lw_Vx hV hk1 hB hS
  obtain ⟨hPx, hPy, hDx, hDy, hN, -⟩ := id hV
  refine lv_aload_n hx hb dL_law_177 rfl (lv_at hl 2 rfl) ?_
  refine lv_aload_n hx hb dL_law_178 rfl (lv_at hl 0 rfl) ?_
  refine lv_iload_n hx hb dL_law_179 rfl (lv_at hl 3 rfl) ?_
  refine lv_iconst (v := z_i 1) hx hb dL_law_180 rfl ?_
  refine lx_iadd hx hb dL_law_181 ?_
  refine lw_sld hx hb hX hbl hbA hS (by omega) (by omega) hL dL_law_182 ?_
  refine lv_aload_n hx hb dL_law_183 rfl (lv_at hl 0 rfl) ?_
  refine lv_iload_n hx hb dL_law_184 rfl (lv_at hl 3 rfl) ?_
  refine lv_iconst (v := z_i 2) hx hb dL_law_185 rfl ?_
  refine lx_iadd hx hb dL_law_186 ?_
  refine lw_sld hx hb hX hbl hbA hS (by omega) (by omega) hL dL_law_187 ?_
  refine lv_aload_n hx hb dL_law_188 rfl (lv_at hl 0 rfl) ?_
  refine lv_iload_n hx hb dL_law_189 rfl (lv_at hl 3 rfl) ?_
  refine lv_iconst (v := z_i 3) hx hb dL_law_190 rfl ?_
  refine lx_iadd hx hb dL_law_191 ?_
  refine lw_sld hx hb hX hbl hbA hS (by omega) (by omega) hL dL_law_192 ?_
  refine lv_aload_n hx hb dL_law_193 rfl (lv_at hl 0 rfl) ?_
  refine lv_iload_n hx hb dL_law_194 rfl (lv_at hl 3 rfl) ?_
  refine lv_iconst (v := z_i 4) hx hb dL_law_195 rfl ?_
  refine lx_iadd hx hb dL_law_196 ?_
  refine lw_sld hx hb hX hbl hbA hS (by omega) (by omega) hL dL_law_197 ?_
  have hFy := va_D_in hDy
  refine va_calli (va_runV (As := [.int (z_i (lw_x xs (i + 1))), .int (z_i (lw_x xs (i + 2))), .int (z_i (lw_x xs (i + 3))), .int (z_i (lw_x xs (i + 4)))]) (rest := [.int (z_i r1)]) ⟨hx, hb, hml, hown, hts⟩ (mw_X8_row l D cA t1 t2 b2 v R.1.2 (lw_x xs (i + 1)) (lw_x xs (i + 2)) (lw_x xs (i + 3)) (lw_x xs (i + 4)) (lw_x_in xs _) (lw_x_in xs _) (lw_x_in xs _) (lw_x_in xs _)) (cwV 4 hts gL_law_X8_row rfl rfl rfl (by decide +kernel) ⟨Nat.le_of_ble_eq_true rfl, Nat.le_of_ble_eq_true rfl⟩) ⟨z_blm1, va_recv hK hPy (ci := 6) (q0 := 0) rfl rfl, fun U hU hW => ⟨rfl, z_m1 hK hPy hDy (hST.at hS hFy) hU hW⟩⟩ rfl rfl hl.1 rfl (lv_room (Nat.le_of_ble_eq_true rfl)) dL_law_198 ⟨Nat.le_of_ble_eq_true rfl, Nat.le_of_ble_eq_true rfl⟩) hS (fun q _ h => hFy q h) hFy (fun r0 v1 t H locs ht hvm hw hB hz1 hk1 hS => ?_)
  rw [ht] at hB
  obtain ⟨r2, rfl, hr_r2, hw2⟩ := hw
  have hV := lw_Vy hV hk1 hB hS
  obtain ⟨rfl, R⟩ := hend _ _ _ _ hw1 hw2
  exact lx_icmp_eq (tgt := 846) hx hb dL_law_201 (by decide) hr_r1 hr_r2 (fun _ => kk _ _ _ _ R hV) (fun h => absurd rfl h)
set_option maxHeartbeats 4000000 in
set_option maxRecDepth 100000 in
theorem lc_height {p : Program} {l : Launch} {e : Env} {s : State} {m : MethodId} {below : List Frame} {meth : Method} {c : Code} {D : va_G} {cA : Nat → ClassId} {t1 t2 b L : Nat} {xs : Nat → Int32} {Q : State → Prop} (C : lw_C p s m c b L xs D cA t1 t2) {i : Int} (hi : 0 ≤ i) (hi7 : i + 7 ≤ (L : Int)) {a b2 : Nat → Nat} {u v : xS} (R : lw_R u v) {H : Heap} {locs : List Loc} (hV : lw_V D cA s a b2 u v H locs) {ls : Array Slot} (hl : lv_has ls 4 [(0, .ref b), (1, .ref (a 0)), (2, .ref (b2 0)), (3, .int (z_i i))])
    (kk : ∀ (u1 v1 : xS) (H : Heap) (locs : List Loc), lw_R u1 v1 → lw_V D cA s a b2 u1 v1 H locs → W p l e room_1 s m #[Value.ref b] below meth c H locs 73 90014 Q (F0 m 846 ls [])) : W p l e room_1 s m #[Value.ref b] below meth c H locs 73 90014 Q (F0 m 206 ls []) := by
  obtain ⟨hx, hb, hml, hown, hts, hX, hbl, hK, hST, hL⟩ := C
  have hbA : ¬ (fun q : Nat => s.heap.size ≤ q) b := Nat.not_le.mpr hbl
  obtain ⟨hPx, hPy, hDx, hDy, hN, hS⟩ := id hV
  obtain ⟨k1, hk_gi⟩ := z_gq_ex (lw_x xs (i + 1))
  obtain ⟨px1, py1, py2, hend⟩ := op_height R (lw_x xs (i + 1)) (lw_x xs (i + 2)) (lw_x xs (i + 3)) (lw_x xs (i + 4)) hk_gi
  refine lv_aload_n hx hb dL_law_206 rfl (lv_at hl 1 rfl) ?_
  refine lv_aload_n hx hb dL_law_207 rfl (lv_at hl 0 rfl) ?_
  refine lv_iload_n hx hb dL_law_208 rfl (lv_at hl 3 rfl) ?_
  refine lv_iconst (v := z_i 1) hx hb dL_law_209 rfl ?_
  refine lx_iadd hx hb dL_law_210 ?_
  refine lw_sld hx hb hX hbl hbA hS (by omega) (by omega) hL dL_law_211 ?_
  refine lv_aload_n hx hb dL_law_212 rfl (lv_at hl 0 rfl) ?_
  refine lv_iload_n hx hb dL_law_213 rfl (lv_at hl 3 rfl) ?_
  refine lv_iconst (v := z_i 2) hx hb dL_law_214 rfl ?_
  refine lx_iadd hx hb dL_law_215 ?_
  refine lw_sld hx hb hX hbl hbA hS (by omega) (by omega) hL dL_law_216 ?_
  refine lv_aload_n hx hb dL_law_217 rfl (lv_at hl 0 rfl) ?_
  refine lv_iload_n hx hb dL_law_218 rfl (lv_at hl 3 rfl) ?_
  refine lv_iconst (v := z_i 3) hx hb dL_law_219 rfl ?_
  refine lx_iadd hx hb dL_law_220 ?_
  refine lw_sld hx hb hX hbl hbA hS (by omega) (by omega) hL dL_law_221 ?_
  refine lv_aload_n hx hb dL_law_222 rfl (lv_at hl 0 rfl) ?_
  refine lv_iload_n hx hb dL_law_223 rfl (lv_at hl 3 rfl) ?_
  refine lv_iconst (v := z_i 4) hx hb dL_law_224 rfl ?_
  refine lx_iadd hx hb dL_law_225 ?_
  refine lw_sld hx hb hX hbl hbA hS (by omega) (by omega) hL dL_law_226 ?_
  have hFx := va_D_in hDx
  refine va_calli (va_runV (As := [.int (z_i (lw_x xs (i + 1))), .int (z_i (lw_x xs (i + 2))), .int (z_i (lw_x xs (i + 3))), .int (z_i (lw_x xs (i + 4)))]) (rest := []) ⟨hx, hb, hml, hown, hts⟩ (mw_X7_height l D cA t1 t2 a u R.1.1 (lw_x xs (i + 1)) (lw_x xs (i + 2)) (lw_x xs (i + 3)) (lw_x xs (i + 4)) (lw_x_in xs _) (lw_x_in xs _) (lw_x_in xs _) (lw_x_in xs _) k1 hk_gi px1) (cwV 4 hts gL_law_X7_height rfl rfl rfl (by decide +kernel) ⟨Nat.le_of_ble_eq_true rfl, Nat.le_of_ble_eq_true rfl⟩) ⟨z_blm1, va_recv hK hPx (ci := 5) (q0 := 0) rfl rfl, fun U hU hW => ⟨rfl, z_m1 hK hPx hDx (hST.at hS hFx) hU hW⟩⟩ rfl rfl hl.1 rfl (lv_room (Nat.le_of_ble_eq_true rfl)) dL_law_227 ⟨Nat.le_of_ble_eq_true rfl, Nat.le_of_ble_eq_true rfl⟩) hS (fun q _ h => hFx q h) hFx (fun r0 u1 t H locs ht hvm hw hB hz1 hk1 hS => ?_)
  rw [ht] at hB
  obtain ⟨r1, rfl, hr_r1, hw1⟩ := hw
  have hV := lw_Vx hV hk1 hB hS
  obtain ⟨hPx, hPy, hDx, hDy, hN, -⟩ := id hV
  refine lv_aload_n hx hb dL_law_230 rfl (lv_at hl 2 rfl) ?_
  refine lv_aload_n hx hb dL_law_231 rfl (lv_at hl 0 rfl) ?_
  refine lv_iload_n hx hb dL_law_232 rfl (lv_at hl 3 rfl) ?_
  refine lv_iconst (v := z_i 1) hx hb dL_law_233 rfl ?_
  refine lx_iadd hx hb dL_law_234 ?_
  refine lw_sld hx hb hX hbl hbA hS (by omega) (by omega) hL dL_law_235 ?_
  refine lv_aload_n hx hb dL_law_236 rfl (lv_at hl 0 rfl) ?_
  refine lv_iload_n hx hb dL_law_237 rfl (lv_at hl 3 rfl) ?_
  refine lv_iconst (v := z_i 2) hx hb dL_law_238 rfl ?_
  refine lx_iadd hx hb dL_law_239 ?_
  refine lw_sld hx hb hX hbl hbA hS (by omega) (by omega) hL dL_law_240 ?_
  refine lv_aload_n hx hb dL_law_241 rfl (lv_at hl 0 rfl) ?_
  refine lv_iload_n hx hb dL_law_242 rfl (lv_at hl 3 rfl) ?_
  refine lv_iconst (v := z_i 3) hx hb dL_law_243 rfl ?_
  refine lx_iadd hx hb dL_law_244 ?_
  refine lw_sld hx hb hX hbl hbA hS (by omega) (by omega) hL dL_law_245 ?_
  refine lv_aload_n hx hb dL_law_246 rfl (lv_at hl 0 rfl) ?_
  refine lv_iload_n hx hb dL_law_247 rfl (lv_at hl 3 rfl) ?_
  refine lv_iconst (v := z_i 4) hx hb dL_law_248 rfl ?_
  refine lx_iadd hx hb dL_law_249 ?_
  refine lw_sld hx hb hX hbl hbA hS (by omega) (by omega) hL dL_law_250 ?_
  have hFy := va_D_in hDy
  refine va_calli (va_runV (As := [.int (z_i (lw_x xs (i + 1))), .int (z_i (lw_x xs (i + 2))), .int (z_i (lw_x xs (i + 3))), .int (z_i (lw_x xs (i + 4)))]) (rest := [.int (z_i r1)]) ⟨hx, hb, hml, hown, hts⟩ (mw_X8_height l D cA t1 t2 b2 v R.1.2 (lw_x xs (i + 1)) (lw_x xs (i + 2)) (lw_x xs (i + 3)) (lw_x xs (i + 4)) (lw_x_in xs _) (lw_x_in xs _) (lw_x_in xs _) (lw_x_in xs _) py1 py2) (cwV 4 hts gL_law_X8_height rfl rfl rfl (by decide +kernel) ⟨Nat.le_of_ble_eq_true rfl, Nat.le_of_ble_eq_true rfl⟩) ⟨z_blm1, va_recv hK hPy (ci := 6) (q0 := 0) rfl rfl, fun U hU hW => ⟨rfl, z_m1 hK hPy hDy (hST.at hS hFy) hU hW⟩⟩ rfl rfl hl.1 rfl (lv_room (Nat.le_of_ble_eq_true rfl)) dL_law_251 ⟨Nat.le_of_ble_eq_true rfl, Nat.le_of_ble_eq_true rfl⟩) hS (fun q _ h => hFy q h) hFy (fun r0 v1 t H locs ht hvm hw hB hz1 hk1 hS => ?_)
  rw [ht] at hB
  obtain ⟨r2, rfl, hr_r2, hw2⟩ := hw
  have hV := lw_Vy hV hk1 hB hS
  obtain ⟨rfl, R⟩ := hend _ _ _ _ hw1 hw2
  exact lx_icmp_eq (tgt := 846) hx hb dL_law_254 (by decide) hr_r1 hr_r2 (fun _ => kk _ _ _ _ R hV) (fun h => absurd rfl h)
set_option maxHeartbeats 4000000 in
set_option maxRecDepth 100000 in
theorem lc_missing {p : Program} {l : Launch} {e : Env} {s : State} {m : MethodId} {below : List Frame} {meth : Method} {c : Code} {D : va_G} {cA : Nat → ClassId} {t1 t2 b L : Nat} {xs : Nat → Int32} {Q : State → Prop} (C : lw_C p s m c b L xs D cA t1 t2) {i : Int} (hi : 0 ≤ i) (hi7 : i + 7 ≤ (L : Int)) {a b2 : Nat → Nat} {u v : xS} (R : lw_R u v) {H : Heap} {locs : List Loc} (hV : lw_V D cA s a b2 u v H locs) {ls : Array Slot} (hl : lv_has ls 4 [(0, .ref b), (1, .ref (a 0)), (2, .ref (b2 0)), (3, .int (z_i i))])
    (kk : ∀ (u1 v1 : xS) (H : Heap) (locs : List Loc), lw_R u1 v1 → lw_V D cA s a b2 u1 v1 H locs → W p l e room_1 s m #[Value.ref b] below meth c H locs 73 90014 Q (F0 m 846 ls [])) : W p l e room_1 s m #[Value.ref b] below meth c H locs 73 90014 Q (F0 m 259 ls []) := by
  obtain ⟨hx, hb, hml, hown, hts, hX, hbl, hK, hST, hL⟩ := C
  have hbA : ¬ (fun q : Nat => s.heap.size ≤ q) b := Nat.not_le.mpr hbl
  obtain ⟨hPx, hPy, hDx, hDy, hN, hS⟩ := id hV
  obtain ⟨k1, hk_gi⟩ := z_gq_ex (lw_x xs (i + 1))
  have hend := op_missing R (lw_x xs (i + 1)) (lw_x xs (i + 2)) (lw_x xs (i + 3)) hk_gi
  refine lv_aload_n hx hb dL_law_259 rfl (lv_at hl 1 rfl) ?_
  refine lv_aload_n hx hb dL_law_260 rfl (lv_at hl 0 rfl) ?_
  refine lv_iload_n hx hb dL_law_261 rfl (lv_at hl 3 rfl) ?_
  refine lv_iconst (v := z_i 1) hx hb dL_law_262 rfl ?_
  refine lx_iadd hx hb dL_law_263 ?_
  refine lw_sld hx hb hX hbl hbA hS (by omega) (by omega) hL dL_law_264 ?_
  refine lv_aload_n hx hb dL_law_265 rfl (lv_at hl 0 rfl) ?_
  refine lv_iload_n hx hb dL_law_266 rfl (lv_at hl 3 rfl) ?_
  refine lv_iconst (v := z_i 2) hx hb dL_law_267 rfl ?_
  refine lx_iadd hx hb dL_law_268 ?_
  refine lw_sld hx hb hX hbl hbA hS (by omega) (by omega) hL dL_law_269 ?_
  refine lv_aload_n hx hb dL_law_270 rfl (lv_at hl 0 rfl) ?_
  refine lv_iload_n hx hb dL_law_271 rfl (lv_at hl 3 rfl) ?_
  refine lv_iconst (v := z_i 3) hx hb dL_law_272 rfl ?_
  refine lx_iadd hx hb dL_law_273 ?_
  refine lw_sld hx hb hX hbl hbA hS (by omega) (by omega) hL dL_law_274 ?_
  have hFx := va_D_in hDx
  refine va_calli (va_runV (As := [.int (z_i (lw_x xs (i + 1))), .int (z_i (lw_x xs (i + 2))), .int (z_i (lw_x xs (i + 3)))]) (rest := []) ⟨hx, hb, hml, hown, hts⟩ (mw_X7_missing l D cA t1 t2 a u R.1.1 (lw_x xs (i + 1)) (lw_x xs (i + 2)) (lw_x xs (i + 3)) (lw_x_in xs _) (lw_x_in xs _) (lw_x_in xs _) k1 hk_gi) (cwV 3 hts gL_law_X7_missing rfl rfl rfl (by decide +kernel) ⟨Nat.le_of_ble_eq_true rfl, Nat.le_of_ble_eq_true rfl⟩) ⟨z_blm1, va_recv hK hPx (ci := 5) (q0 := 0) rfl rfl, fun U hU hW => ⟨rfl, z_m1 hK hPx hDx (hST.at hS hFx) hU hW⟩⟩ rfl rfl hl.1 rfl (lv_room (Nat.le_of_ble_eq_true rfl)) dL_law_275 ⟨Nat.le_of_ble_eq_true rfl, Nat.le_of_ble_eq_true rfl⟩) hS (fun q _ h => hFx q h) hFx (fun r0 u1 t H locs ht hvm hw hB hz1 hk1 hS => ?_)
  rw [ht] at hB
  obtain ⟨r1, rfl, hr_r1, hw1⟩ := hw
  have hV := lw_Vx hV hk1 hB hS
  obtain ⟨hPx, hPy, hDx, hDy, hN, -⟩ := id hV
  refine lv_aload_n hx hb dL_law_278 rfl (lv_at hl 2 rfl) ?_
  refine lv_aload_n hx hb dL_law_279 rfl (lv_at hl 0 rfl) ?_
  refine lv_iload_n hx hb dL_law_280 rfl (lv_at hl 3 rfl) ?_
  refine lv_iconst (v := z_i 1) hx hb dL_law_281 rfl ?_
  refine lx_iadd hx hb dL_law_282 ?_
  refine lw_sld hx hb hX hbl hbA hS (by omega) (by omega) hL dL_law_283 ?_
  refine lv_aload_n hx hb dL_law_284 rfl (lv_at hl 0 rfl) ?_
  refine lv_iload_n hx hb dL_law_285 rfl (lv_at hl 3 rfl) ?_
  refine lv_iconst (v := z_i 2) hx hb dL_law_286 rfl ?_
  refine lx_iadd hx hb dL_law_287 ?_
  refine lw_sld hx hb hX hbl hbA hS (by omega) (by omega) hL dL_law_288 ?_
  refine lv_aload_n hx hb dL_law_289 rfl (lv_at hl 0 rfl) ?_
  refine lv_iload_n hx hb dL_law_290 rfl (lv_at hl 3 rfl) ?_
  refine lv_iconst (v := z_i 3) hx hb dL_law_291 rfl ?_
  refine lx_iadd hx hb dL_law_292 ?_
  refine lw_sld hx hb hX hbl hbA hS (by omega) (by omega) hL dL_law_293 ?_
  have hFy := va_D_in hDy
  refine va_calli (va_runV (As := [.int (z_i (lw_x xs (i + 1))), .int (z_i (lw_x xs (i + 2))), .int (z_i (lw_x xs (i + 3)))]) (rest := [.int (z_i r1)]) ⟨hx, hb, hml, hown, hts⟩ (mw_X8_missing l D cA t1 t2 b2 v R.1.2 (lw_x xs (i + 1)) (lw_x xs (i + 2)) (lw_x xs (i + 3)) (lw_x_in xs _) (lw_x_in xs _) (lw_x_in xs _)) (cwV 3 hts gL_law_X8_missing rfl rfl rfl (by decide +kernel) ⟨Nat.le_of_ble_eq_true rfl, Nat.le_of_ble_eq_true rfl⟩) ⟨z_blm1, va_recv hK hPy (ci := 6) (q0 := 0) rfl rfl, fun U hU hW => ⟨rfl, z_m1 hK hPy hDy (hST.at hS hFy) hU hW⟩⟩ rfl rfl hl.1 rfl (lv_room (Nat.le_of_ble_eq_true rfl)) dL_law_294 ⟨Nat.le_of_ble_eq_true rfl, Nat.le_of_ble_eq_true rfl⟩) hS (fun q _ h => hFy q h) hFy (fun r0 v1 t H locs ht hvm hw hB hz1 hk1 hS => ?_)
  rw [ht] at hB
  obtain ⟨r2, rfl, hr_r2, hw2⟩ := hw
  have hV := lw_Vy hV hk1 hB hS
  obtain ⟨rfl, R⟩ := hend _ _ _ _ hw1 hw2
  exact lx_icmp_eq (tgt := 846) hx hb dL_law_297 (by decide) hr_r1 hr_r2 (fun _ => kk _ _ _ _ R hV) (fun h => absurd rfl h)
set_option maxHeartbeats 4000000 in
set_option maxRecDepth 100000 in
theorem lc_at {p : Program} {l : Launch} {e : Env} {s : State} {m : MethodId} {below : List Frame} {meth : Method} {c : Code} {D : va_G} {cA : Nat → ClassId} {t1 t2 b L : Nat} {xs : Nat → Int32} {Q : State → Prop} (C : lw_C p s m c b L xs D cA t1 t2) {i : Int} (hi : 0 ≤ i) (hi7 : i + 7 ≤ (L : Int)) {a b2 : Nat → Nat} {u v : xS} (R : lw_R u v) {H : Heap} {locs : List Loc} (hV : lw_V D cA s a b2 u v H locs) {ls : Array Slot} (hl : lv_has ls 4 [(0, .ref b), (1, .ref (a 0)), (2, .ref (b2 0)), (3, .int (z_i i))])
    (kk : ∀ (u1 v1 : xS) (H : Heap) (locs : List Loc), lw_R u1 v1 → lw_V D cA s a b2 u1 v1 H locs → W p l e room_1 s m #[Value.ref b] below meth c H locs 73 90014 Q (F0 m 846 ls [])) : W p l e room_1 s m #[Value.ref b] below meth c H locs 73 90014 Q (F0 m 302 ls []) := by
  obtain ⟨hx, hb, hml, hown, hts, hX, hbl, hK, hST, hL⟩ := C
  have hbA : ¬ (fun q : Nat => s.heap.size ≤ q) b := Nat.not_le.mpr hbl
  obtain ⟨hPx, hPy, hDx, hDy, hN, hS⟩ := id hV
  obtain ⟨k1, hk_gi⟩ := z_gq_ex (lw_x xs (i + 1))
  obtain ⟨px1, py1, hend⟩ := op_at R (lw_x xs (i + 1)) (lw_x xs (i + 2)) (lw_x xs (i + 3)) hk_gi
  refine lv_aload_n hx hb dL_law_302 rfl (lv_at hl 1 rfl) ?_
  refine lv_aload_n hx hb dL_law_303 rfl (lv_at hl 0 rfl) ?_
  refine lv_iload_n hx hb dL_law_304 rfl (lv_at hl 3 rfl) ?_
  refine lv_iconst (v := z_i 1) hx hb dL_law_305 rfl ?_
  refine lx_iadd hx hb dL_law_306 ?_
  refine lw_sld hx hb hX hbl hbA hS (by omega) (by omega) hL dL_law_307 ?_
  refine lv_aload_n hx hb dL_law_308 rfl (lv_at hl 0 rfl) ?_
  refine lv_iload_n hx hb dL_law_309 rfl (lv_at hl 3 rfl) ?_
  refine lv_iconst (v := z_i 2) hx hb dL_law_310 rfl ?_
  refine lx_iadd hx hb dL_law_311 ?_
  refine lw_sld hx hb hX hbl hbA hS (by omega) (by omega) hL dL_law_312 ?_
  refine lv_aload_n hx hb dL_law_313 rfl (lv_at hl 0 rfl) ?_
  refine lv_iload_n hx hb dL_law_314 rfl (lv_at hl 3 rfl) ?_
  refine lv_iconst (v := z_i 3) hx hb dL_law_315 rfl ?_
  refine lx_iadd hx hb dL_law_316 ?_
  refine lw_sld hx hb hX hbl hbA hS (by omega) (by omega) hL dL_law_317 ?_
  have hFx := va_D_in hDx
  refine va_calli (va_runV (As := [.int (z_i (lw_x xs (i + 1))), .int (z_i (lw_x xs (i + 2))), .int (z_i (lw_x xs (i + 3)))]) (rest := []) ⟨hx, hb, hml, hown, hts⟩ (mw_X7_at l D cA t1 t2 a u R.1.1 (lw_x xs (i + 1)) (lw_x xs (i + 2)) (lw_x xs (i + 3)) (lw_x_in xs _) (lw_x_in xs _) (lw_x_in xs _) k1 hk_gi px1) (cwV 3 hts gL_law_X7_at rfl rfl rfl (by decide +kernel) ⟨Nat.le_of_ble_eq_true rfl, Nat.le_of_ble_eq_true rfl⟩) ⟨z_blm1, va_recv hK hPx (ci := 5) (q0 := 0) rfl rfl, fun U hU hW => ⟨rfl, z_m1 hK hPx hDx (hST.at hS hFx) hU hW⟩⟩ rfl rfl hl.1 rfl (lv_room (Nat.le_of_ble_eq_true rfl)) dL_law_318 ⟨Nat.le_of_ble_eq_true rfl, Nat.le_of_ble_eq_true rfl⟩) hS (fun q _ h => hFx q h) hFx (fun r0 u1 t H locs ht hvm hw hB hz1 hk1 hS => ?_)
  rw [ht] at hB
  obtain ⟨r1, rfl, hr_r1, hw1⟩ := hw
  have hV := lw_Vx hV hk1 hB hS
  obtain ⟨hPx, hPy, hDx, hDy, hN, -⟩ := id hV
  refine lv_aload_n hx hb dL_law_321 rfl (lv_at hl 2 rfl) ?_
  refine lv_aload_n hx hb dL_law_322 rfl (lv_at hl 0 rfl) ?_
  refine lv_iload_n hx hb dL_law_323 rfl (lv_at hl 3 rfl) ?_
  refine lv_iconst (v := z_i 1) hx hb dL_law_324 rfl ?_
  refine lx_iadd hx hb dL_law_325 ?_
  refine lw_sld hx hb hX hbl hbA hS (by omega) (by omega) hL dL_law_326 ?_
  refine lv_aload_n hx hb dL_law_327 rfl (lv_at hl 0 rfl) ?_
  refine lv_iload_n hx hb dL_law_328 rfl (lv_at hl 3 rfl) ?_
  refine lv_iconst (v := z_i 2) hx hb dL_law_329 rfl ?_
  refine lx_iadd hx hb dL_law_330 ?_
  refine lw_sld hx hb hX hbl hbA hS (by omega) (by omega) hL dL_law_331 ?_
  refine lv_aload_n hx hb dL_law_332 rfl (lv_at hl 0 rfl) ?_
  refine lv_iload_n hx hb dL_law_333 rfl (lv_at hl 3 rfl) ?_
  refine lv_iconst (v := z_i 3) hx hb dL_law_334 rfl ?_
  refine lx_iadd hx hb dL_law_335 ?_
  refine lw_sld hx hb hX hbl hbA hS (by omega) (by omega) hL dL_law_336 ?_
  have hFy := va_D_in hDy
  refine va_calli (va_runV (As := [.int (z_i (lw_x xs (i + 1))), .int (z_i (lw_x xs (i + 2))), .int (z_i (lw_x xs (i + 3)))]) (rest := [.int (z_i r1)]) ⟨hx, hb, hml, hown, hts⟩ (mw_X8_at l D cA t1 t2 b2 v R.1.2 (lw_x xs (i + 1)) (lw_x xs (i + 2)) (lw_x xs (i + 3)) (lw_x_in xs _) (lw_x_in xs _) (lw_x_in xs _) py1) (cwV 3 hts gL_law_X8_at rfl rfl rfl (by decide +kernel) ⟨Nat.le_of_ble_eq_true rfl, Nat.le_of_ble_eq_true rfl⟩) ⟨z_blm1, va_recv hK hPy (ci := 6) (q0 := 0) rfl rfl, fun U hU hW => ⟨rfl, z_m1 hK hPy hDy (hST.at hS hFy) hU hW⟩⟩ rfl rfl hl.1 rfl (lv_room (Nat.le_of_ble_eq_true rfl)) dL_law_337 ⟨Nat.le_of_ble_eq_true rfl, Nat.le_of_ble_eq_true rfl⟩) hS (fun q _ h => hFy q h) hFy (fun r0 v1 t H locs ht hvm hw hB hz1 hk1 hS => ?_)
  rw [ht] at hB
  obtain ⟨r2, rfl, hr_r2, hw2⟩ := hw
  have hV := lw_Vy hV hk1 hB hS
  obtain ⟨rfl, R⟩ := hend _ _ _ _ hw1 hw2
  exact lx_icmp_eq (tgt := 846) hx hb dL_law_340 (by decide) hr_r1 hr_r2 (fun _ => kk _ _ _ _ R hV) (fun h => absurd rfl h)
set_option maxHeartbeats 4000000 in
set_option maxRecDepth 100000 in
theorem lc_level {p : Program} {l : Launch} {e : Env} {s : State} {m : MethodId} {below : List Frame} {meth : Method} {c : Code} {D : va_G} {cA : Nat → ClassId} {t1 t2 b L : Nat} {xs : Nat → Int32} {Q : State → Prop} (C : lw_C p s m c b L xs D cA t1 t2) {i : Int} (hi : 0 ≤ i) (hi7 : i + 7 ≤ (L : Int)) {a b2 : Nat → Nat} {u v : xS} (R : lw_R u v) {H : Heap} {locs : List Loc} (hV : lw_V D cA s a b2 u v H locs) {ls : Array Slot} (hl : lv_has ls 4 [(0, .ref b), (1, .ref (a 0)), (2, .ref (b2 0)), (3, .int (z_i i))])
    (kk : ∀ (u1 v1 : xS) (H : Heap) (locs : List Loc), lw_R u1 v1 → lw_V D cA s a b2 u1 v1 H locs → W p l e room_1 s m #[Value.ref b] below meth c H locs 73 90014 Q (F0 m 846 ls [])) : W p l e room_1 s m #[Value.ref b] below meth c H locs 73 90014 Q (F0 m 345 ls []) := by
  obtain ⟨hx, hb, hml, hown, hts, hX, hbl, hK, hST, hL⟩ := C
  have hbA : ¬ (fun q : Nat => s.heap.size ≤ q) b := Nat.not_le.mpr hbl
  obtain ⟨hPx, hPy, hDx, hDy, hN, hS⟩ := id hV
  obtain ⟨px1, py1, hend⟩ := op_level R (lw_x xs (i + 1)) 
  refine lv_aload_n hx hb dL_law_345 rfl (lv_at hl 1 rfl) ?_
  refine lv_aload_n hx hb dL_law_346 rfl (lv_at hl 0 rfl) ?_
  refine lv_iload_n hx hb dL_law_347 rfl (lv_at hl 3 rfl) ?_
  refine lv_iconst (v := z_i 1) hx hb dL_law_348 rfl ?_
  refine lx_iadd hx hb dL_law_349 ?_
  refine lw_sld hx hb hX hbl hbA hS (by omega) (by omega) hL dL_law_350 ?_
  have hFx := va_D_in hDx
  refine va_calli (va_runV (As := [.int (z_i (lw_x xs (i + 1)))]) (rest := []) ⟨hx, hb, hml, hown, hts⟩ (mw_X7_level l D cA t1 t2 a u R.1.1 (lw_x xs (i + 1)) (lw_x_in xs _) px1) (cwV 1 hts gL_law_X7_level rfl rfl rfl (by decide +kernel) ⟨Nat.le_of_ble_eq_true rfl, Nat.le_of_ble_eq_true rfl⟩) ⟨z_blm1, va_recv hK hPx (ci := 5) (q0 := 0) rfl rfl, fun U hU hW => ⟨rfl, z_m1 hK hPx hDx (hST.at hS hFx) hU hW⟩⟩ rfl rfl hl.1 rfl (lv_room (Nat.le_of_ble_eq_true rfl)) dL_law_351 ⟨Nat.le_of_ble_eq_true rfl, Nat.le_of_ble_eq_true rfl⟩) hS (fun q _ h => hFx q h) hFx (fun r0 u1 t H locs ht hvm hw hB hz1 hk1 hS => ?_)
  rw [ht] at hB
  obtain ⟨r1, rfl, hr_r1, hw1⟩ := hw
  have hV := lw_Vx hV hk1 hB hS
  obtain ⟨hPx, hPy, hDx, hDy, hN, -⟩ := id hV
  refine lv_aload_n hx hb dL_law_354 rfl (lv_at hl 2 rfl) ?_
  refine lv_aload_n hx hb dL_law_355 rfl (lv_at hl 0 rfl) ?_
  refine lv_iload_n hx hb dL_law_356 rfl (lv_at hl 3 rfl) ?_
  refine lv_iconst (v := z_i 1) hx hb dL_law_357 rfl ?_
  refine lx_iadd hx hb dL_law_358 ?_
  refine lw_sld hx hb hX hbl hbA hS (by omega) (by omega) hL dL_law_359 ?_
  have hFy := va_D_in hDy
  refine va_calli (va_runV (As := [.int (z_i (lw_x xs (i + 1)))]) (rest := [.int (z_i r1)]) ⟨hx, hb, hml, hown, hts⟩ (mw_X8_level l D cA t1 t2 b2 v R.1.2 (lw_x xs (i + 1)) (lw_x_in xs _) py1) (cwV 1 hts gL_law_X8_level rfl rfl rfl (by decide +kernel) ⟨Nat.le_of_ble_eq_true rfl, Nat.le_of_ble_eq_true rfl⟩) ⟨z_blm1, va_recv hK hPy (ci := 6) (q0 := 0) rfl rfl, fun U hU hW => ⟨rfl, z_m1 hK hPy hDy (hST.at hS hFy) hU hW⟩⟩ rfl rfl hl.1 rfl (lv_room (Nat.le_of_ble_eq_true rfl)) dL_law_360 ⟨Nat.le_of_ble_eq_true rfl, Nat.le_of_ble_eq_true rfl⟩) hS (fun q _ h => hFy q h) hFy (fun r0 v1 t H locs ht hvm hw hB hz1 hk1 hS => ?_)
  rw [ht] at hB
  obtain ⟨r2, rfl, hr_r2, hw2⟩ := hw
  have hV := lw_Vy hV hk1 hB hS
  obtain ⟨rfl, R⟩ := hend _ _ _ _ hw1 hw2
  exact lx_icmp_eq (tgt := 846) hx hb dL_law_363 (by decide) hr_r1 hr_r2 (fun _ => kk _ _ _ _ R hV) (fun h => absurd rfl h)
set_option maxHeartbeats 4000000 in
set_option maxRecDepth 100000 in
theorem lc_levels {p : Program} {l : Launch} {e : Env} {s : State} {m : MethodId} {below : List Frame} {meth : Method} {c : Code} {D : va_G} {cA : Nat → ClassId} {t1 t2 b L : Nat} {xs : Nat → Int32} {Q : State → Prop} (C : lw_C p s m c b L xs D cA t1 t2) {i : Int} (hi : 0 ≤ i) (hi7 : i + 7 ≤ (L : Int)) {a b2 : Nat → Nat} {u v : xS} (R : lw_R u v) {H : Heap} {locs : List Loc} (hV : lw_V D cA s a b2 u v H locs) {ls : Array Slot} (hl : lv_has ls 4 [(0, .ref b), (1, .ref (a 0)), (2, .ref (b2 0)), (3, .int (z_i i))])
    (kk : ∀ (u1 v1 : xS) (H : Heap) (locs : List Loc), lw_R u1 v1 → lw_V D cA s a b2 u1 v1 H locs → W p l e room_1 s m #[Value.ref b] below meth c H locs 73 90014 Q (F0 m 846 ls [])) : W p l e room_1 s m #[Value.ref b] below meth c H locs 73 90014 Q (F0 m 368 ls []) := by
  obtain ⟨hx, hb, hml, hown, hts, hX, hbl, hK, hST, hL⟩ := C
  have hbA : ¬ (fun q : Nat => s.heap.size ≤ q) b := Nat.not_le.mpr hbl
  obtain ⟨hPx, hPy, hDx, hDy, hN, hS⟩ := id hV
  have hend := op_levels R  
  refine lv_aload_n hx hb dL_law_368 rfl (lv_at hl 1 rfl) ?_
  have hFx := va_D_in hDx
  refine va_callv (va_runV (As := []) (rest := []) ⟨hx, hb, hml, hown, hts⟩ (mw_X7_levels l D cA t1 t2 a u R.1.1 ) (cwV 0 hts gL_law_X7_levels rfl rfl rfl (by decide +kernel) ⟨Nat.le_of_ble_eq_true rfl, Nat.le_of_ble_eq_true rfl⟩) ⟨z_blm1, va_recv hK hPx (ci := 5) (q0 := 0) rfl rfl, fun U hU hW => ⟨rfl, z_m1 hK hPx hDx (hST.at hS hFx) hU hW⟩⟩ rfl rfl hl.1 rfl (lv_room (Nat.le_of_ble_eq_true rfl)) dL_law_369 ⟨Nat.le_of_ble_eq_true rfl, Nat.le_of_ble_eq_true rfl⟩) hS (fun q _ h => hFx q h) hFx (fun u1 t H locs ht hvm hw hB hz1 hk1 hS => ?_)
  rw [ht] at hB
  have hw1 := hw
  have hV := lw_Vx hV hk1 hB hS
  obtain ⟨hPx, hPy, hDx, hDy, hN, -⟩ := id hV
  refine lv_aload_n hx hb dL_law_372 rfl (lv_at hl 2 rfl) ?_
  have hFy := va_D_in hDy
  refine va_callv (va_runV (As := []) (rest := []) ⟨hx, hb, hml, hown, hts⟩ (mw_X8_levels l D cA t1 t2 b2 v R.1.2 ) (cwV 0 hts gL_law_X8_levels rfl rfl rfl (by decide +kernel) ⟨Nat.le_of_ble_eq_true rfl, Nat.le_of_ble_eq_true rfl⟩) ⟨z_blm1, va_recv hK hPy (ci := 6) (q0 := 0) rfl rfl, fun U hU hW => ⟨rfl, z_m1 hK hPy hDy (hST.at hS hFy) hU hW⟩⟩ rfl rfl hl.1 rfl (lv_room (Nat.le_of_ble_eq_true rfl)) dL_law_373 ⟨Nat.le_of_ble_eq_true rfl, Nat.le_of_ble_eq_true rfl⟩) hS (fun q _ h => hFy q h) hFy (fun v1 t H locs ht hvm hw hB hz1 hk1 hS => ?_)
  rw [ht] at hB
  have hw2 := hw
  have hV := lw_Vy hV hk1 hB hS
  have R := hend _ _ hw1 hw2
  exact lv_goto (tgt := 846) hx hb dL_law_376 (by decide) (kk _ _ _ _ R hV)
set_option maxHeartbeats 4000000 in
set_option maxRecDepth 100000 in
theorem lc_contour {p : Program} {l : Launch} {e : Env} {s : State} {m : MethodId} {below : List Frame} {meth : Method} {c : Code} {D : va_G} {cA : Nat → ClassId} {t1 t2 b L : Nat} {xs : Nat → Int32} {Q : State → Prop} (C : lw_C p s m c b L xs D cA t1 t2) {i : Int} (hi : 0 ≤ i) (hi7 : i + 7 ≤ (L : Int)) {a b2 : Nat → Nat} {u v : xS} (R : lw_R u v) {H : Heap} {locs : List Loc} (hV : lw_V D cA s a b2 u v H locs) {ls : Array Slot} (hl : lv_has ls 4 [(0, .ref b), (1, .ref (a 0)), (2, .ref (b2 0)), (3, .int (z_i i))])
    (kk : ∀ (u1 v1 : xS) (H : Heap) (locs : List Loc), lw_R u1 v1 → lw_V D cA s a b2 u1 v1 H locs → W p l e room_1 s m #[Value.ref b] below meth c H locs 73 90014 Q (F0 m 846 ls [])) : W p l e room_1 s m #[Value.ref b] below meth c H locs 73 90014 Q (F0 m 379 ls []) := by
  obtain ⟨hx, hb, hml, hown, hts, hX, hbl, hK, hST, hL⟩ := C
  have hbA : ¬ (fun q : Nat => s.heap.size ≤ q) b := Nat.not_le.mpr hbl
  obtain ⟨hPx, hPy, hDx, hDy, hN, hS⟩ := id hV
  obtain ⟨k1, hk_gi⟩ := z_gq_ex (lw_x xs (i + 1))
  obtain ⟨px1, px2, px3, px4, py1, py2, py3, hend⟩ := op_contour R (lw_x xs (i + 1)) hk_gi
  refine lv_aload_n hx hb dL_law_379 rfl (lv_at hl 1 rfl) ?_
  refine lv_aload_n hx hb dL_law_380 rfl (lv_at hl 0 rfl) ?_
  refine lv_iload_n hx hb dL_law_381 rfl (lv_at hl 3 rfl) ?_
  refine lv_iconst (v := z_i 1) hx hb dL_law_382 rfl ?_
  refine lx_iadd hx hb dL_law_383 ?_
  refine lw_sld hx hb hX hbl hbA hS (by omega) (by omega) hL dL_law_384 ?_
  have hFx := va_D_in hDx
  refine va_calli (va_runV (As := [.int (z_i (lw_x xs (i + 1)))]) (rest := []) ⟨hx, hb, hml, hown, hts⟩ (mw_X7_contour l D cA t1 t2 a u R.1.1 (lw_x xs (i + 1)) (lw_x_in xs _) k1 hk_gi px1 px2 px3 px4) (cwV 1 hts gL_law_X7_contour rfl rfl rfl (by decide +kernel) ⟨Nat.le_of_ble_eq_true rfl, Nat.le_of_ble_eq_true rfl⟩) ⟨z_blm1, va_recv hK hPx (ci := 5) (q0 := 0) rfl rfl, fun U hU hW => ⟨rfl, z_m1 hK hPx hDx (hST.at hS hFx) hU hW⟩⟩ rfl rfl hl.1 rfl (lv_room (Nat.le_of_ble_eq_true rfl)) dL_law_385 ⟨Nat.le_of_ble_eq_true rfl, Nat.le_of_ble_eq_true rfl⟩) hS (fun q _ h => hFx q h) hFx (fun r0 u1 t H locs ht hvm hw hB hz1 hk1 hS => ?_)
  rw [ht] at hB
  obtain ⟨r1, rfl, hr_r1, hw1⟩ := hw
  have hV := lw_Vx hV hk1 hB hS
  obtain ⟨hPx, hPy, hDx, hDy, hN, -⟩ := id hV
  refine lv_aload_n hx hb dL_law_388 rfl (lv_at hl 2 rfl) ?_
  refine lv_aload_n hx hb dL_law_389 rfl (lv_at hl 0 rfl) ?_
  refine lv_iload_n hx hb dL_law_390 rfl (lv_at hl 3 rfl) ?_
  refine lv_iconst (v := z_i 1) hx hb dL_law_391 rfl ?_
  refine lx_iadd hx hb dL_law_392 ?_
  refine lw_sld hx hb hX hbl hbA hS (by omega) (by omega) hL dL_law_393 ?_
  have hFy := va_D_in hDy
  refine va_calli (va_runV (As := [.int (z_i (lw_x xs (i + 1)))]) (rest := [.int (z_i r1)]) ⟨hx, hb, hml, hown, hts⟩ (mw_X8_contour l D cA t1 t2 b2 v R.1.2 (lw_x xs (i + 1)) (lw_x_in xs _) py1 py2 py3) (cwV 1 hts gL_law_X8_contour rfl rfl rfl (by decide +kernel) ⟨Nat.le_of_ble_eq_true rfl, Nat.le_of_ble_eq_true rfl⟩) ⟨z_blm1, va_recv hK hPy (ci := 6) (q0 := 0) rfl rfl, fun U hU hW => ⟨rfl, z_m1 hK hPy hDy (hST.at hS hFy) hU hW⟩⟩ rfl rfl hl.1 rfl (lv_room (Nat.le_of_ble_eq_true rfl)) dL_law_394 ⟨Nat.le_of_ble_eq_true rfl, Nat.le_of_ble_eq_true rfl⟩) hS (fun q _ h => hFy q h) hFy (fun r0 v1 t H locs ht hvm hw hB hz1 hk1 hS => ?_)
  rw [ht] at hB
  obtain ⟨r2, rfl, hr_r2, hw2⟩ := hw
  have hV := lw_Vy hV hk1 hB hS
  obtain ⟨rfl, R⟩ := hend _ _ _ _ hw1 hw2
  exact lx_icmp_eq (tgt := 846) hx hb dL_law_397 (by decide) hr_r1 hr_r2 (fun _ => kk _ _ _ _ R hV) (fun h => absurd rfl h)
set_option maxHeartbeats 4000000 in
set_option maxRecDepth 100000 in
theorem lc_line {p : Program} {l : Launch} {e : Env} {s : State} {m : MethodId} {below : List Frame} {meth : Method} {c : Code} {D : va_G} {cA : Nat → ClassId} {t1 t2 b L : Nat} {xs : Nat → Int32} {Q : State → Prop} (C : lw_C p s m c b L xs D cA t1 t2) {i : Int} (hi : 0 ≤ i) (hi7 : i + 7 ≤ (L : Int)) {a b2 : Nat → Nat} {u v : xS} (R : lw_R u v) {H : Heap} {locs : List Loc} (hV : lw_V D cA s a b2 u v H locs) {ls : Array Slot} (hl : lv_has ls 4 [(0, .ref b), (1, .ref (a 0)), (2, .ref (b2 0)), (3, .int (z_i i))])
    (kk : ∀ (u1 v1 : xS) (H : Heap) (locs : List Loc), lw_R u1 v1 → lw_V D cA s a b2 u1 v1 H locs → W p l e room_1 s m #[Value.ref b] below meth c H locs 73 90014 Q (F0 m 846 ls [])) : W p l e room_1 s m #[Value.ref b] below meth c H locs 73 90014 Q (F0 m 402 ls []) := by
  obtain ⟨hx, hb, hml, hown, hts, hX, hbl, hK, hST, hL⟩ := C
  have hbA : ¬ (fun q : Nat => s.heap.size ≤ q) b := Nat.not_le.mpr hbl
  obtain ⟨hPx, hPy, hDx, hDy, hN, hS⟩ := id hV
  obtain ⟨ls, T, U, hs, px1, py1, hend⟩ := op_line R (lw_x xs (i + 1)) (lw_x xs (i + 2)) 
  refine lv_aload_n hx hb dL_law_402 rfl (lv_at hl 1 rfl) ?_
  refine lv_aload_n hx hb dL_law_403 rfl (lv_at hl 0 rfl) ?_
  refine lv_iload_n hx hb dL_law_404 rfl (lv_at hl 3 rfl) ?_
  refine lv_iconst (v := z_i 1) hx hb dL_law_405 rfl ?_
  refine lx_iadd hx hb dL_law_406 ?_
  refine lw_sld hx hb hX hbl hbA hS (by omega) (by omega) hL dL_law_407 ?_
  refine lv_aload_n hx hb dL_law_408 rfl (lv_at hl 0 rfl) ?_
  refine lv_iload_n hx hb dL_law_409 rfl (lv_at hl 3 rfl) ?_
  refine lv_iconst (v := z_i 2) hx hb dL_law_410 rfl ?_
  refine lx_iadd hx hb dL_law_411 ?_
  refine lw_sld hx hb hX hbl hbA hS (by omega) (by omega) hL dL_law_412 ?_
  have hFx := va_D_in hDx
  refine va_calli (va_runV (As := [.int (z_i (lw_x xs (i + 1))), .int (z_i (lw_x xs (i + 2)))]) (rest := []) ⟨hx, hb, hml, hown, hts⟩ (mw_X7_line l D cA t1 t2 a u R.1.1 (lw_x xs (i + 1)) (lw_x xs (i + 2)) (lw_x_in xs _) (lw_x_in xs _) ls px1) (cwV 2 hts gL_law_X7_line rfl rfl rfl (by decide +kernel) ⟨Nat.le_of_ble_eq_true rfl, Nat.le_of_ble_eq_true rfl⟩) ⟨z_blm1, va_recv hK hPx (ci := 5) (q0 := 0) rfl rfl, fun U hU hW => ⟨rfl, z_m1 hK hPx hDx (hST.at hS hFx) hU hW⟩⟩ rfl rfl hl.1 rfl (lv_room (Nat.le_of_ble_eq_true rfl)) dL_law_413 ⟨Nat.le_of_ble_eq_true rfl, Nat.le_of_ble_eq_true rfl⟩) hS (fun q _ h => hFx q h) hFx (fun r0 u1 t H locs ht hvm hw hB hz1 hk1 hS => ?_)
  rw [ht] at hB
  obtain ⟨r1, rfl, hr_r1, hw1⟩ := hw
  have hV := lw_Vx hV hk1 hB hS
  obtain ⟨hPx, hPy, hDx, hDy, hN, -⟩ := id hV
  refine lv_aload_n hx hb dL_law_416 rfl (lv_at hl 2 rfl) ?_
  refine lv_aload_n hx hb dL_law_417 rfl (lv_at hl 0 rfl) ?_
  refine lv_iload_n hx hb dL_law_418 rfl (lv_at hl 3 rfl) ?_
  refine lv_iconst (v := z_i 1) hx hb dL_law_419 rfl ?_
  refine lx_iadd hx hb dL_law_420 ?_
  refine lw_sld hx hb hX hbl hbA hS (by omega) (by omega) hL dL_law_421 ?_
  refine lv_aload_n hx hb dL_law_422 rfl (lv_at hl 0 rfl) ?_
  refine lv_iload_n hx hb dL_law_423 rfl (lv_at hl 3 rfl) ?_
  refine lv_iconst (v := z_i 2) hx hb dL_law_424 rfl ?_
  refine lx_iadd hx hb dL_law_425 ?_
  refine lw_sld hx hb hX hbl hbA hS (by omega) (by omega) hL dL_law_426 ?_
  have hFy := va_D_in hDy
  refine va_calli (va_runV (As := [.int (z_i (lw_x xs (i + 1))), .int (z_i (lw_x xs (i + 2)))]) (rest := [.int (z_i r1)]) ⟨hx, hb, hml, hown, hts⟩ (mw_X8_line l D cA t1 t2 b2 v R.1.2 (lw_x xs (i + 1)) (lw_x xs (i + 2)) (lw_x_in xs _) (lw_x_in xs _) ls T U hs py1) (cwV 2 hts gL_law_X8_line rfl rfl rfl (by decide +kernel) ⟨Nat.le_of_ble_eq_true rfl, Nat.le_of_ble_eq_true rfl⟩) ⟨z_blm1, va_recv hK hPy (ci := 6) (q0 := 0) rfl rfl, fun U hU hW => ⟨rfl, z_m1 hK hPy hDy (hST.at hS hFy) hU hW⟩⟩ rfl rfl hl.1 rfl (lv_room (Nat.le_of_ble_eq_true rfl)) dL_law_427 ⟨Nat.le_of_ble_eq_true rfl, Nat.le_of_ble_eq_true rfl⟩) hS (fun q _ h => hFy q h) hFy (fun r0 v1 t H locs ht hvm hw hB hz1 hk1 hS => ?_)
  rw [ht] at hB
  obtain ⟨r2, rfl, hr_r2, hw2⟩ := hw
  have hV := lw_Vy hV hk1 hB hS
  obtain ⟨rfl, R⟩ := hend _ _ _ _ hw1 hw2
  exact lx_icmp_eq (tgt := 846) hx hb dL_law_430 (by decide) hr_r1 hr_r2 (fun _ => kk _ _ _ _ R hV) (fun h => absurd rfl h)
