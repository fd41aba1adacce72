theorem b_sum {p0 p1 p2 p3 p4 V : Nat} (h0 : p0 ≤ 8) (h1 : p1 ≤ 8) (h2 : p2 ≤ 8) (h3 : p3 ≤ 8) (h4 : p4 ≤ 8) (hV : V = b_5 p0 p1 p2 p3 p4) : (V + V / 256 + (V + V / 256) / 65536 + (V + V / 256 + (V + V / 256) / 65536) / 4294967296) % 128 = p0 + p1 + p2 + p3 + p4 := by
  unfold b_5 at hV
  have a1 : V / 256 = p1 + 256 * (p2 + 256 * (p3 + 256 * p4)) := by omega
  obtain ⟨W, eW⟩ : ∃ W, W = V + V / 256 := ⟨_, rfl⟩
  have a2 : W = (p0 + p1) + 256 * ((p1 + p2) + 256 * ((p2 + p3) + 256 * ((p3 + p4) + 256 * p4))) := by omega
  have a3 : W / 65536 = (p2 + p3) + 256 * ((p3 + p4) + 256 * p4) := by clear hV a1 eW; omega
  obtain ⟨X, eX⟩ : ∃ X, X = W + W / 65536 := ⟨_, rfl⟩
  rw [← eW, ← eX]
  have a4 : X = (p0 + p1 + p2 + p3) + 256 * ((p1 + p2 + p3 + p4) + 256 * ((p2 + p3 + p4) + 256 * ((p3 + p4) + 256 * p4))) := by clear hV a1 eW; omega
  have a5 : X / 4294967296 = p4 := by clear hV a1 eW a2 a3 eX; omega
  rw [a5]
  clear hV a1 eW a2 a3 eX a5
  omega
theorem b_swar (a : Nat) (ha : a < 1099511627776) : ∃ v1 v2 v3 : Nat, v1 = a - ((a / 2) &&& 6148914691236517205) ∧ ((a / 2) &&& 6148914691236517205) ≤ a ∧ v2 = (v1 &&& 3689348814741910323) + ((v1 / 4) &&& 3689348814741910323) ∧ v3 = (v2 + v2 / 16) &&& 1085102592571150095 ∧ v1 ≤ a ∧ v2 < 1099511627776 ∧ v2 + v2 / 16 < 1099511627776 ∧ v3 < 1099511627776 ∧ (v3 + v3 / 256 + (v3 + v3 / 256) / 65536 + (v3 + v3 / 256 + (v3 + v3 / 256) / 65536) / 4294967296) % 128 = b_pc a 40 := by
  obtain ⟨b0, e0⟩ : ∃ b, b = a % 256 := ⟨_, rfl⟩
  obtain ⟨b1, e1⟩ : ∃ b, b = a / 256 % 256 := ⟨_, rfl⟩
  obtain ⟨b2, e2⟩ : ∃ b, b = a / 65536 % 256 := ⟨_, rfl⟩
  obtain ⟨b3, e3⟩ : ∃ b, b = a / 16777216 % 256 := ⟨_, rfl⟩
  obtain ⟨b4, e4⟩ : ∃ b, b = a / 4294967296 % 256 := ⟨_, rfl⟩
  have hpc := b_pc8 a
  rw [← e0, ← e1, ← e2, ← e3, ← e4] at hpc
  have hb0 : b0 < 256 := by omega
  have hb1 : b1 < 256 := by omega
  have hb2 : b2 < 256 := by omega
  have hb3 : b3 < 256 := by omega
  have hb4 : b4 < 256 := by omega
  have ea : a = b_5 b0 b1 b2 b3 b4 := by unfold b_5; omega
  have f1 := fun x (h : x < 256) => b_f1 ⟨x, h⟩
  have f1t := fun x (h : x < 256) t (ht : t < 2) => (b_f1 ⟨x, h⟩).2 ⟨t, ht⟩
  dsimp only at f1 f1t
  -- step 1
  have s1 : (a / 2) &&& 6148914691236517205 = b_5 ((b0 / 2) &&& 85) ((b1 / 2) &&& 85) ((b2 / 2) &&& 85) ((b3 / 2) &&& 85) ((b4 / 2) &&& 85) := by
    have e : a / 2 = b_5 (b0 / 2 + 128 * (b1 % 2)) (b1 / 2 + 128 * (b2 % 2)) (b2 / 2 + 128 * (b3 % 2)) (b3 / 2 + 128 * (b4 % 2)) (b4 / 2 + 128 * 0) := by rw [ea]; unfold b_5; omega
    rw [e, show (6148914691236517205 : Nat) = 85 + 256 * (85 + 256 * (85 + 256 * (85 + 256 * (85 + 256 * 5592405)))) from rfl, b_and5 (by omega) (by omega) (by omega) (by omega) (by omega) (by decide), f1t b0 hb0 _ (by omega), f1t b1 hb1 _ (by omega), f1t b2 hb2 _ (by omega), f1t b3 hb3 _ (by omega), f1t b4 hb4 _ (by omega)]
  have g0 := (f1 b0 hb0).1
  have g1 := (f1 b1 hb1).1
  have g2 := (f1 b2 hb2).1
  have g3 := (f1 b3 hb3).1
  have g4 := (f1 b4 hb4).1
  have hle : (a / 2) &&& 6148914691236517205 ≤ a := by rw [s1, ea]; unfold b_5; omega
  obtain ⟨v1, ev1⟩ : ∃ v, v = a - ((a / 2) &&& 6148914691236517205) := ⟨_, rfl⟩
  have r1 : v1 = b_5 (b_c1 b0) (b_c1 b1) (b_c1 b2) (b_c1 b3) (b_c1 b4) := by rw [ev1, s1, ea]; unfold b_5 b_c1; omega
  have k0 := b_c1_lt hb0
  have k1 := b_c1_lt hb1
  have k2 := b_c1_lt hb2
  have k3 := b_c1_lt hb3
  have k4 := b_c1_lt hb4
  have h40 := b_f4 ⟨b0, hb0⟩
  have h41 := b_f4 ⟨b1, hb1⟩
  have h42 := b_f4 ⟨b2, hb2⟩
  have h43 := b_f4 ⟨b3, hb3⟩
  have h44 := b_f4 ⟨b4, hb4⟩
  dsimp only at h40 h41 h42 h43 h44
  generalize b_c1 b0 = c0 at *
  generalize b_c1 b1 = c1 at *
  generalize b_c1 b2 = c2 at *
  generalize b_c1 b3 = c3 at *
  generalize b_c1 b4 = c4 at *
  have f2 := fun x (h : x < 256) => (b_f2 ⟨x, h⟩).1
  have f2t := fun x (h : x < 256) t (ht : t < 4) => (b_f2 ⟨x, h⟩).2 ⟨t, ht⟩
  dsimp only at f2 f2t
  -- step 2
  have s2 : v1 &&& 3689348814741910323 = b_5 (c0 &&& 51) (c1 &&& 51) (c2 &&& 51) (c3 &&& 51) (c4 &&& 51) := by
    rw [r1, show (3689348814741910323 : Nat) = 51 + 256 * (51 + 256 * (51 + 256 * (51 + 256 * (51 + 256 * 3355443)))) from rfl, b_and5 k0 k1 k2 k3 k4 (by decide)]
  have s3 : (v1 / 4) &&& 3689348814741910323 = b_5 ((c0 / 4) &&& 51) ((c1 / 4) &&& 51) ((c2 / 4) &&& 51) ((c3 / 4) &&& 51) ((c4 / 4) &&& 51) := by
    have e : v1 / 4 = b_5 (c0 / 4 + 64 * (c1 % 4)) (c1 / 4 + 64 * (c2 % 4)) (c2 / 4 + 64 * (c3 % 4)) (c3 / 4 + 64 * (c4 % 4)) (c4 / 4 + 64 * 0) := by rw [r1]; unfold b_5; omega
    rw [e, show (3689348814741910323 : Nat) = 51 + 256 * (51 + 256 * (51 + 256 * (51 + 256 * (51 + 256 * 3355443)))) from rfl, b_and5 (by omega) (by omega) (by omega) (by omega) (by omega) (by decide), f2t c0 k0 _ (by omega), f2t c1 k1 _ (by omega), f2t c2 k2 _ (by omega), f2t c3 k3 _ (by omega), f2t c4 k4 _ (by omega)]
  have t0 := f2 c0 k0
  have t1 := f2 c1 k1
  have t2 := f2 c2 k2
  have t3 := f2 c3 k3
  have t4 := f2 c4 k4
  obtain ⟨v2, ev2⟩ : ∃ v, v = (v1 &&& 3689348814741910323) + ((v1 / 4) &&& 3689348814741910323) := ⟨_, rfl⟩
  have r2 : v2 = b_5 (b_c2 c0) (b_c2 c1) (b_c2 c2) (b_c2 c3) (b_c2 c4) := by rw [ev2, s2, s3]; unfold b_5 b_c2; omega
  generalize b_c2 c0 = d0 at *
  generalize b_c2 c1 = d1 at *
  generalize b_c2 c2 = d2 at *
  generalize b_c2 c3 = d3 at *
  generalize b_c2 c4 = d4 at *
  -- step 3
  have f3t := fun x (h : x < 103) t (ht : t < 16) => b_f3 ⟨x, h⟩ ⟨t, ht⟩
  dsimp only at f3t
  obtain ⟨v3, ev3⟩ : ∃ v, v = (v2 + v2 / 16) &&& 1085102592571150095 := ⟨_, rfl⟩
  have s4 : v2 + v2 / 16 = b_5 (d0 + d0 / 16 + 16 * (d1 % 16)) (d1 + d1 / 16 + 16 * (d2 % 16)) (d2 + d2 / 16 + 16 * (d3 % 16)) (d3 + d3 / 16 + 16 * (d4 % 16)) (d4 + d4 / 16 + 16 * 0) := by rw [r2]; unfold b_5; omega
  have r3 : v3 = b_5 (b_c3 d0) (b_c3 d1) (b_c3 d2) (b_c3 d3) (b_c3 d4) := by
    rw [ev3, s4, show (1085102592571150095 : Nat) = 15 + 256 * (15 + 256 * (15 + 256 * (15 + 256 * (15 + 256 * 986895)))) from rfl, b_and5 (by omega) (by omega) (by omega) (by omega) (by omega) (by decide), f3t d0 (by omega) _ (by omega), f3t d1 (by omega) _ (by omega), f3t d2 (by omega) _ (by omega), f3t d3 (by omega) _ (by omega), f3t d4 (by omega) _ (by omega)]
    rfl
  rw [h40.1, h41.1, h42.1, h43.1, h44.1] at r3
  refine ⟨v1, v2, v3, ev1, hle, ev2, ev3, by omega, ?_, ?_, ?_, ?_⟩
  · rw [r2]; unfold b_5; omega
  · rw [s4]; unfold b_5; omega
  · rw [r3]; unfold b_5; omega
  · rw [hpc]
    exact b_sum h40.2.1 h41.2.1 h42.2.1 h43.2.1 h44.2.1 r3
def vc_J13_bitCount_95d88 (x : Int) (Q : Int → Prop) : Prop :=
z_nl (x - (z_andl (z_ushrl x 1) 6148914691236517205)) ∧ (∀ v1 : Int, v1 = x - (z_andl (z_ushrl x 1) 6148914691236517205) → z_nl ((z_andl v1 3689348814741910323) + (z_andl (z_ushrl v1 2) 3689348814741910323)) ∧ (∀ v4 : Int, v4 = (z_andl v1 3689348814741910323) + (z_andl (z_ushrl v1 2) 3689348814741910323) → (∀ v7 : Int, v7 = z_andl (v4 + (z_ushrl v4 4)) 1085102592571150095 → z_nl (v7 + (z_ushrl v7 8)) ∧ (∀ v9 : Int, v9 = v7 + (z_ushrl v7 8) → z_nl (v9 + (z_ushrl v9 16)) ∧ (∀ v12 : Int, v12 = v9 + (z_ushrl v9 16) → z_nl (v12 + (z_ushrl v12 32)) ∧ (∀ v15 : Int, v15 = v12 + (z_ushrl v12 32) → Q (z_and v15 127)))))))
set_option maxHeartbeats 4000000 in
set_option maxRecDepth 100000 in
theorem wk_J13_bitCount_95d88 (l : Launch) (D : va_G) (cA : Nat → ClassId) (x : Int) (h_x : z_nl x) (Q : Int → Prop) (hv : vc_J13_bitCount_95d88 x Q) : Met l yJ13_bitCount_95d88 wsJ13_bitCount_95d88 ({ frames := 0, cells := 0, slots := 0, locals := 0 } : Room) (va_Pc [.long (z_l x)] (z_B0 D cA [])) (va_Qi (z_ri Q) (fun _ _ => True) (fun _ => False)) 0 0 (fun _ => False) := by
  unfold vc_J13_bitCount_95d88 at hv
  refine Met.ofW (cc := cJ13_bitCount_95d88) (maxL := 2) (ret := (some .int)) (by decide +kernel) rfl ?_
  intro p e s m args below meth c s₁ B hml hv0
  obtain ⟨rfl, hK, hP⟩ := hv0
  have hx := B.exec
  have hb := B.bytes
  have hr := B.returns
  have hts := atoms_spec (ws := wsJ13_bitCount_95d88) B.pre
  have hown : s.vm.findClass RJ13 = some m.cls := findClass_of_methodNamed B.named
  have hlocks := B.notSynchronized
  have hS : va_S (fun _ : Nat => False) s.heap s.heap [] := va_S.rf
  have hl := lv_entry ([.long (z_l x)]) (n := 2) (Nat.le_of_ble_eq_true rfl)
  rw [lg_entry_eq]
  generalize (lg_sl ([.long (z_l x)]) ++ List.replicate (2 - (lg_sl ([.long (z_l x)])).length) Slot.unset).toArray = ls at hl ⊢
  have hl : lv_has ls 2 [(0, .long (z_l x))] := hl
  refine lv_lload_n hx hb dJ13_bitCount_95d88_0 rfl (lv_at hl 0 rfl) ?_
  refine lv_lload_n hx hb dJ13_bitCount_95d88_1 rfl (lv_at hl 0 rfl) ?_
  refine lv_iconst (v := z_i 1) hx hb dJ13_bitCount_95d88_2 rfl ?_
  refine lx_lushr hx hb dJ13_bitCount_95d88_3 ?_
  refine lx_ldc2 (a := 6148914691236517205) hx hb hown (hts (.constantLong RJ13 314 (6148914691236517205)) (by decide +kernel)) (by decide) dJ13_bitCount_95d88_4 ?_
  refine lx_land hx hb dJ13_bitCount_95d88_7 ?_
  refine lx_lsub hx hb dJ13_bitCount_95d88_8 ?_
  obtain ⟨hr2, hv⟩ := hv
  refine lx_topl (fun v1 hy3 => ?_)
  have hv := hv v1 hy3
  have h_v1 : z_nl v1 := by rw [hy3]; exact hr2
  refine lv_lstore_n (lv' := [(0, .long (z_l v1))]) hx hb dJ13_bitCount_95d88_9 rfl hl (by decide) rfl (fun ls hl => ?_)
  refine lv_lload_n hx hb dJ13_bitCount_95d88_10 rfl (lv_at hl 0 rfl) ?_
  refine lx_ldc2 (a := 3689348814741910323) hx hb hown (hts (.constantLong RJ13 316 (3689348814741910323)) (by decide +kernel)) (by decide) dJ13_bitCount_95d88_11 ?_
  refine lx_land hx hb dJ13_bitCount_95d88_14 ?_
  refine lv_lload_n hx hb dJ13_bitCount_95d88_15 rfl (lv_at hl 0 rfl) ?_
  refine lv_iconst (v := z_i 2) hx hb dJ13_bitCount_95d88_16 rfl ?_
  refine lx_lushr hx hb dJ13_bitCount_95d88_17 ?_
  refine lx_ldc2 (a := 3689348814741910323) hx hb hown (hts (.constantLong RJ13 316 (3689348814741910323)) (by decide +kernel)) (by decide) dJ13_bitCount_95d88_18 ?_
  refine lx_land hx hb dJ13_bitCount_95d88_21 ?_
  refine lx_ladd hx hb dJ13_bitCount_95d88_22 ?_
  obtain ⟨hr5, hv⟩ := hv
  refine lx_topl (fun v4 hy6 => ?_)
  have hv := hv v4 hy6
  have h_v4 : z_nl v4 := by rw [hy6]; exact hr5
  refine lv_lstore_n (lv' := [(0, .long (z_l v4))]) hx hb dJ13_bitCount_95d88_23 rfl hl (by decide) rfl (fun ls hl => ?_)
  refine lv_lload_n hx hb dJ13_bitCount_95d88_24 rfl (lv_at hl 0 rfl) ?_
  refine lv_lload_n hx hb dJ13_bitCount_95d88_25 rfl (lv_at hl 0 rfl) ?_
  refine lv_iconst (v := z_i 4) hx hb dJ13_bitCount_95d88_26 rfl ?_
  refine lx_lushr hx hb dJ13_bitCount_95d88_27 ?_
  refine lx_ladd hx hb dJ13_bitCount_95d88_28 ?_
  refine lx_ldc2 (a := 1085102592571150095) hx hb hown (hts (.constantLong RJ13 318 (1085102592571150095)) (by decide +kernel)) (by decide) dJ13_bitCount_95d88_29 ?_
  refine lx_land hx hb dJ13_bitCount_95d88_32 ?_
  refine lx_topl (fun v7 hy8 => ?_)
  have hv := hv v7 hy8
  have h_v7 : z_nl v7 := by rw [hy8]; exact (z_nl_of _)
  refine lv_lstore_n (lv' := [(0, .long (z_l v7))]) hx hb dJ13_bitCount_95d88_33 rfl hl (by decide) rfl (fun ls hl => ?_)
  refine lv_lload_n hx hb dJ13_bitCount_95d88_34 rfl (lv_at hl 0 rfl) ?_
  refine lv_lload_n hx hb dJ13_bitCount_95d88_35 rfl (lv_at hl 0 rfl) ?_
  refine lv_bipush (v := z_i 8) hx hb dJ13_bitCount_95d88_36 (by decide) ?_
  refine lx_lushr hx hb dJ13_bitCount_95d88_38 ?_
  refine lx_ladd hx hb dJ13_bitCount_95d88_39 ?_
  obtain ⟨hr10, hv⟩ := hv
  refine lx_topl (fun v9 hy11 => ?_)
  have hv := hv v9 hy11
  have h_v9 : z_nl v9 := by rw [hy11]; exact hr10
  refine lv_lstore_n (lv' := [(0, .long (z_l v9))]) hx hb dJ13_bitCount_95d88_40 rfl hl (by decide) rfl (fun ls hl => ?_)
  refine lv_lload_n hx hb dJ13_bitCount_95d88_41 rfl (lv_at hl 0 rfl) ?_
  refine lv_lload_n hx hb dJ13_bitCount_95d88_42 rfl (lv_at hl 0 rfl) ?_
  refine lv_bipush (v := z_i 16) hx hb dJ13_bitCount_95d88_43 (by decide) ?_
  refine lx_lushr hx hb dJ13_bitCount_95d88_45 ?_
  refine lx_ladd hx hb dJ13_bitCount_95d88_46 ?_
  obtain ⟨hr13, hv⟩ := hv
  refine lx_topl (fun v12 hy14 => ?_)
  have hv := hv v12 hy14
  have h_v12 : z_nl v12 := by rw [hy14]; exact hr13
  refine lv_lstore_n (lv' := [(0, .long (z_l v12))]) hx hb dJ13_bitCount_95d88_47 rfl hl (by decide) rfl (fun ls hl => ?_)
  refine lv_lload_n hx hb dJ13_bitCount_95d88_48 rfl (lv_at hl 0 rfl) ?_
  refine lv_lload_n hx hb dJ13_bitCount_95d88_49 rfl (lv_at hl 0 rfl) ?_
  refine lv_bipush (v := z_i 32) hx hb dJ13_bitCount_95d88_50 (by decide) ?_
  refine lx_lushr hx hb dJ13_bitCount_95d88_52 ?_
  refine lx_ladd hx hb dJ13_bitCount_95d88_53 ?_
  obtain ⟨hr16, hv⟩ := hv
  refine lx_topl (fun v15 hy17 => ?_)
  have hv := hv v15 hy17
  have h_v15 : z_nl v15 := by rw [hy17]; exact hr16
  refine lv_lstore_n (lv' := [(0, .long (z_l v15))]) hx hb dJ13_bitCount_95d88_54 rfl hl (by decide) rfl (fun ls hl => ?_)
  refine lv_lload_n hx hb dJ13_bitCount_95d88_55 rfl (lv_at hl 0 rfl) ?_
  refine lx_l2i hx hb dJ13_bitCount_95d88_56 ?_
  refine lv_bipush (v := z_i 127) hx hb dJ13_bitCount_95d88_57 (by decide) ?_
  refine lx_iand hx hb dJ13_bitCount_95d88_59 ?_
  exact W.iret (v := z_i (z_and v15 127)) hx hb hr (fun t ht hW => ⟨⟨z_i (z_and v15 127), (), rfl, ⟨z_and v15 127, rfl, (z_in_of _), hv⟩, trivial⟩, hS.F ht⟩) hS.2.2 dJ13_bitCount_95d88_60
set_option maxHeartbeats 4000000 in
set_option maxRecDepth 100000 in
theorem mt_J13_bitCount_95d88 (l : Launch) (D : va_G) (cA : Nat → ClassId) (x : Int) (h_x : z_nl x) (hp1 : 0 ≤ x ∧ x < 1099511627776) : Met l yJ13_bitCount_95d88 wsJ13_bitCount_95d88 ({ frames := 0, cells := 0, slots := 0, locals := 0 } : Room) (va_Pc [.long (z_l x)] (z_B0 D cA [])) (va_Qi (z_ri (fun (r : Int) => r = (b_pc x.toNat 40 : Int))) (fun _ _ => True) (fun _ => False)) 0 0 (fun _ => False) := by
  refine wk_J13_bitCount_95d88 l D cA x h_x (fun (r : Int) => r = (b_pc x.toNat 40 : Int)) ?_
  unfold vc_J13_bitCount_95d88
  obtain ⟨a, rfl⟩ : ∃ a : Nat, x = (a : Int) := ⟨x.toNat, by omega⟩
  have ha : a < 1099511627776 := by omega
  obtain ⟨v1, v2, v3, e1, l1, e2, e3, l2, l3, l4, l5, e4⟩ := b_swar a ha
  have c1 : z_ushrl (a : Int) 1 = ((a / 2 : Nat) : Int) := z_ushrl_nat (k := 1) (by omega) (by decide)
  have c2 : z_andl (((a / 2 : Nat) : Int)) 6148914691236517205 = (((a / 2) &&& 6148914691236517205 : Nat) : Int) := z_andl_nat (b := 6148914691236517205) (by omega)
  rw [c1, c2, Int.toNat_natCast]
  refine ⟨⟨by omega, by omega⟩, ?_⟩
  intro w1 f1
  have f1 : w1 = (v1 : Int) := by omega
  subst f1
  have c3 : z_ushrl (v1 : Int) 2 = ((v1 / 4 : Nat) : Int) := z_ushrl_nat (k := 2) (by omega) (by decide)
  have c4 : z_andl ((v1 / 4 : Nat) : Int) 3689348814741910323 = (((v1 / 4) &&& 3689348814741910323 : Nat) : Int) := z_andl_nat (b := 3689348814741910323) (by omega)
  have c5 : z_andl (v1 : Int) 3689348814741910323 = ((v1 &&& 3689348814741910323 : Nat) : Int) := z_andl_nat (b := 3689348814741910323) (by omega)
  rw [c3, c4, c5]
  refine ⟨⟨by omega, by omega⟩, ?_⟩
  intro w2 f2
  have f2 : w2 = (v2 : Int) := by omega
  subst f2
  have c6 : z_ushrl (v2 : Int) 4 = ((v2 / 16 : Nat) : Int) := z_ushrl_nat (k := 4) (by omega) (by decide)
  rw [c6]
  intro w3 f3
  have c7 : z_andl ((v2 : Int) + ((v2 / 16 : Nat) : Int)) 1085102592571150095 = (((v2 + v2 / 16) &&& 1085102592571150095 : Nat) : Int) := z_andl_nat (a := v2 + v2 / 16) (b := 1085102592571150095) (by omega)
  rw [c7, ← e3] at f3
  subst f3
  have c8 : z_ushrl (v3 : Int) 8 = ((v3 / 256 : Nat) : Int) := z_ushrl_nat (k := 8) (by omega) (by decide)
  rw [c8]
  refine ⟨⟨by omega, by omega⟩, ?_⟩
  intro w4 f4
  obtain ⟨v4, e5⟩ : ∃ v, v = v3 + v3 / 256 := ⟨_, rfl⟩
  rw [← e5] at e4
  have f4 : w4 = (v4 : Int) := by omega
  subst f4
  have c9 : z_ushrl (v4 : Int) 16 = ((v4 / 65536 : Nat) : Int) := z_ushrl_nat (k := 16) (by omega) (by decide)
  rw [c9]
  refine ⟨⟨by omega, by omega⟩, ?_⟩
  intro w5 f5
  obtain ⟨v5, e6⟩ : ∃ v, v = v4 + v4 / 65536 := ⟨_, rfl⟩
  rw [← e6] at e4
  have f5 : w5 = (v5 : Int) := by omega
  subst f5
  have c10 : z_ushrl (v5 : Int) 32 = ((v5 / 4294967296 : Nat) : Int) := z_ushrl_nat (k := 32) (by omega) (by decide)
  rw [c10]
  refine ⟨⟨by omega, by omega⟩, ?_⟩
  intro w6 f6
  have f6 : w6 = ((v5 + v5 / 4294967296 : Nat) : Int) := by omega
  subst f6
  rw [z_and_127, e4]
