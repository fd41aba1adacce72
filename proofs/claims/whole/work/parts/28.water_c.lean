/-- where a flood ends: at the rim, or (upside down) above its start -/
def w_goal (sg : Int) (T : Int → Bool) (U : Int → Int) (st q : Int) : Prop := (sg > 0 ∧ m_nc T q < 8) ∨ (sg ≤ 0 ∧ m_ab U q st = true)
def w_ans (sg : Int) (T : Int → Bool) (U : Int → Int) (st r : Int) : Prop := (∃ c : Int, w_fs T (fun q => sg * U q) (w_goal sg T U st) st c ∧ r = sg * c) ∨ ((∀ c : Int, ¬ w_con T (fun q => sg * U q) (w_goal sg T U st) st c) ∧ r = -8388609)
def vc_X6_flood (w_heap : Nat → Int64) (g_units : Nat → Int32) (start : Int) (sg : Int) (Q : Int → (Nat → Int64) → (Nat → Int32) → Int → Prop) : Prop :=
((0 : Int) = 0 ∨ (0 : Int) = 1) ∧ (∀ (c2 : Nat → Int32), (∀ q : Int, 0 ≤ q → q < 1280 → z_g c2 q = (0 : Int)) → (hp_ok w_heap (0 : Int)) ∧ (sg = 1 ∨ sg = -1) ∧ (-1 ≤ start ∧ start < 1280) ∧ (g_ok g_units) ∧ (start ≠ -1 → g_th g_units start = true) ∧ (start ≠ -1 → z_g c2 start = 0 → (0 : Int) < 1280 ∧ ¬ hp_S w_heap (0 : Int) (w_key sg (g_at g_units) start)) ∧ (∀ (c9 : Nat → Int64) (c10 : Nat → Int32) (c11 : Int), z_in c11 → (((start = -1 ∨ z_g c2 start ≠ 0) → c9 = w_heap ∧ c10 = c2 ∧ c11 = (0 : Int)) ∧ ((start ≠ -1 ∧ z_g c2 start = 0) → c11 = (0 : Int) + 1 ∧ c10 = z_s c2 start 1 ∧ hp_ok c9 ((0 : Int) + 1) ∧ ∀ x : Int, hp_S c9 ((0 : Int) + 1) x ↔ hp_S w_heap (0 : Int) x ∨ x = w_key sg (g_at g_units) start)) → (∀ L27 : Int → Int → Int → (Nat → Int64) → (Nat → Int32) → Prop,
(∀ (x27_5 : Int) (x27_4 : Int) (y27_w_heapSize : Int) (y27_wa_heap : Nat → Int64) (y27_wa_reached : Nat → Int32), z_in x27_5 → z_in x27_4 → z_in y27_w_heapSize → ((x27_5 ≥ 1280 → Q (-8388609) y27_wa_heap y27_wa_reached y27_w_heapSize) ∧
(x27_5 < 1280 → ((y27_w_heapSize ≤ 0 → Q (-8388609) y27_wa_heap y27_wa_reached y27_w_heapSize) ∧
(y27_w_heapSize > 0 → (hp_ok y27_wa_heap y27_w_heapSize) ∧ (1 ≤ y27_w_heapSize) ∧ (-4611686018427387904 ≤ z_gl y27_wa_heap 0 ∧ z_gl y27_wa_heap 0 ≤ 4611686018427387904) ∧ (∀ (r15 : Int) (c16 : Nat → Int64) (c17 : Int), z_in r15 → z_in c17 → (r15 = z_gl y27_wa_heap 0 % 1280 ∧ c17 = y27_w_heapSize - 1 ∧ hp_ok c16 (y27_w_heapSize - 1) ∧ ∀ x : Int, hp_S c16 (y27_w_heapSize - 1) x ↔ hp_S y27_wa_heap y27_w_heapSize x ∧ x ≠ z_gl y27_wa_heap 0) → (∀ (r18 : Int), z_in r18 → (r18 = g_at g_units r15) → z_in (sg * r18) ∧ (∀ v19 : Int, v19 = sg * r18 → (∀ J72 : Int → Prop,
(∀ (s72_0 : Int), z_in s72_0 → (∀ J105 : Prop,
((∀ L108 : Int → Int → (Nat → Int64) → (Nat → Int32) → Prop,
(∀ (x108_8 : Int) (y108_w_heapSize : Int) (y108_wa_heap : Nat → Int64) (y108_wa_reached : Nat → Int32), z_in x108_8 → z_in y108_w_heapSize → ((x108_8 ≥ 8 → L27 (x27_5 + 1) s72_0 y108_w_heapSize y108_wa_heap y108_wa_reached) ∧
(x108_8 < 8 → (0 ≤ r15 ∧ r15 < 1280) ∧ (0 ≤ x108_8 ∧ x108_8 < 8) ∧ (∀ (r24 : Int), z_in r24 → (r24 = m_nb (g_th g_units) r15 x108_8) → (hp_ok y108_wa_heap y108_w_heapSize) ∧ (sg = 1 ∨ sg = -1) ∧ (-1 ≤ r24 ∧ r24 < 1280) ∧ (g_ok g_units) ∧ (r24 ≠ -1 → g_th g_units r24 = true) ∧ (r24 ≠ -1 → z_g y108_wa_reached r24 = 0 → y108_w_heapSize < 1280 ∧ ¬ hp_S y108_wa_heap y108_w_heapSize (w_key sg (g_at g_units) r24)) ∧ (∀ (c31 : Nat → Int64) (c32 : Nat → Int32) (c33 : Int), z_in c33 → (((r24 = -1 ∨ z_g y108_wa_reached r24 ≠ 0) → c31 = y108_wa_heap ∧ c32 = y108_wa_reached ∧ c33 = y108_w_heapSize) ∧ ((r24 ≠ -1 ∧ z_g y108_wa_reached r24 = 0) → c33 = y108_w_heapSize + 1 ∧ c32 = z_s y108_wa_reached r24 1 ∧ hp_ok c31 (y108_w_heapSize + 1) ∧ ∀ x : Int, hp_S c31 (y108_w_heapSize + 1) x ↔ hp_S y108_wa_heap y108_w_heapSize x ∨ x = w_key sg (g_at g_units) r24)) → L108 (x108_8 + 1) c33 c31 c32)))) → L108 x108_8 y108_w_heapSize y108_wa_heap y108_wa_reached) →
L108 0 c17 c16 y27_wa_reached) → J105 ) →
((sg ≤ 0 → (∀ (r34 : Int), z_in r34 → (r34 = z_b (m_ab (g_at g_units) r15 start)) → ((r34 = 0 → J105 ) ∧
(r34 ≠ 0 → z_in (sg * s72_0) ∧ Q (sg * s72_0) c16 y27_wa_reached c17)))) ∧
(sg > 0 → (0 ≤ r15 ∧ r15 < 1280) ∧ (∀ (r37 : Int), z_in r37 → (r37 = z_b (decide (m_nc (g_th g_units) r15 < 8))) → ((r37 = 0 → J105 ) ∧
(r37 ≠ 0 → z_in (sg * s72_0) ∧ Q (sg * s72_0) c16 y27_wa_reached c17)))))) → J72 s72_0) →
((v19 ≤ x27_4 → J72 x27_4) ∧
(v19 > x27_4 → J72 v19)))))))))) → L27 x27_5 x27_4 y27_w_heapSize y27_wa_heap y27_wa_reached) →
L27 0 (-8388608) c11 c9 c10)))
set_option maxHeartbeats 4000000 in
set_option maxRecDepth 100000 in
theorem wk_X6_flood (l : Launch) (D : va_G) (cA : Nat → ClassId) (t1 t2 : Nat) (w : Nat) (wa_queue : Nat) (w_queue : Nat → Int32) (wa_heap : Nat) (w_heap : Nat → Int64) (wa_reached : Nat) (w_reached : Nat → Int32) (w_heapSize : Int) (g : Nat) (ga_units : Nat) (g_units : Nat → Int32) (ga_lengths : Nat) (g_lengths : Nat → Int32) (ga_offsets : Nat) (g_offsets : Nat → Int32) (g_step : Int) (start : Int) (sg : Int) (h_w_heapSize : z_in w_heapSize) (h_g_step : z_in g_step) (h_start : z_in start) (h_sg : z_in sg) (Q : Int → (Nat → Int64) → (Nat → Int32) → Int → Prop) (hv : vc_X6_flood w_heap g_units start sg Q) : Met l yX6_flood wsX6_flood ({ frames := 5, cells := 0, slots := 0, locals := 110 } : Room) (va_Pc [.ref w, .ref g, .int (z_i start), .int (z_i sg)] (z_M1 D cA t1 t2 [(w, .inr (4, [.ref wa_queue, .ref wa_heap, .ref wa_reached, .int (z_i w_heapSize)])), (wa_queue, .inl (cA 1, 1280, .inl w_queue)), (wa_heap, .inl (cA 2, 1280, .inr (.inl w_heap))), (wa_reached, .inl (cA 0, 1280, .inl w_reached)), (g, .inr (1, [.ref ga_units, .ref ga_lengths, .ref ga_offsets, .int (z_i g_step)])), (ga_units, .inl (cA 1, 1280, .inl g_units)), (ga_lengths, .inl (cA 1, 32, .inl g_lengths)), (ga_offsets, .inl (cA 1, 32, .inl g_offsets))])) (va_Qi (z_mi (fun v (u : (Nat → Int64) × (Nat → Int32) × Int) => z_in u.2.2 ∧ Q v u.1 u.2.1 u.2.2)) (fun (u : (Nat → Int64) × (Nat → Int32) × Int) t => va_P D vwCl [(w, .inr (4, [.ref wa_queue, .ref wa_heap, .ref wa_reached, .int (z_i u.2.2)])), (wa_queue, .inl (cA 1, 1280, .inl w_queue)), (wa_heap, .inl (cA 2, 1280, .inr (.inl u.1))), (wa_reached, .inl (cA 0, 1280, .inl u.2.1)), (g, .inr (1, [.ref ga_units, .ref ga_lengths, .ref ga_offsets, .int (z_i g_step)])), (ga_units, .inl (cA 1, 1280, .inl g_units)), (ga_lengths, .inl (cA 1, 32, .inl g_lengths)), (ga_offsets, .inl (cA 1, 32, .inl g_offsets))] t.heap) (z_A [(w, .inr (4, [.ref wa_queue, .ref wa_heap, .ref wa_reached, .int (z_i w_heapSize)])), (wa_queue, .inl (cA 1, 1280, .inl w_queue)), (wa_heap, .inl (cA 2, 1280, .inr (.inl w_heap))), (wa_reached, .inl (cA 0, 1280, .inl w_reached)), (g, .inr (1, [.ref ga_units, .ref ga_lengths, .ref ga_offsets, .int (z_i g_step)])), (ga_units, .inl (cA 1, 1280, .inl g_units)), (ga_lengths, .inl (cA 1, 32, .inl g_lengths)), (ga_offsets, .inl (cA 1, 32, .inl g_offsets))])) 0 0 (z_A [(w, .inr (4, [.ref wa_queue, .ref wa_heap, .ref wa_reached, .int (z_i w_heapSize)])), (wa_queue, .inl (cA 1, 1280, .inl w_queue)), (wa_heap, .inl (cA 2, 1280, .inr (.inl w_heap))), (wa_reached, .inl (cA 0, 1280, .inl w_reached)), (g, .inr (1, [.ref ga_units, .ref ga_lengths, .ref ga_offsets, .int (z_i g_step)])), (ga_units, .inl (cA 1, 1280, .inl g_units)), (ga_lengths, .inl (cA 1, 32, .inl g_lengths)), (ga_offsets, .inl (cA 1, 32, .inl g_offsets))]) := by
  unfold vc_X6_flood at hv
  refine Met.ofW (cc := cX6_flood) (maxL := 9) (ret := (some .int)) (by decide +kernel) rfl ?_
  intro p e s m args below meth c s₁ B hml hv0
  obtain ⟨rfl, ⟨hK, hP, hD0⟩, hST⟩ := hv0
  have hx := B.exec
  have hb := B.bytes
  have hr := B.returns
  have hts := atoms_spec (ws := wsX6_flood) B.pre
  have hown : s.vm.findClass RX6 = some m.cls := findClass_of_methodNamed B.named
  have hlocks := B.notSynchronized
  have hD := z_D_self hD0
  generalize hAe : z_A [(w, .inr (4, [.ref wa_queue, .ref wa_heap, .ref wa_reached, .int (z_i w_heapSize)])), (wa_queue, .inl (cA 1, 1280, .inl w_queue)), (wa_heap, .inl (cA 2, 1280, .inr (.inl w_heap))), (wa_reached, .inl (cA 0, 1280, .inl w_reached)), (g, .inr (1, [.ref ga_units, .ref ga_lengths, .ref ga_offsets, .int (z_i g_step)])), (ga_units, .inl (cA 1, 1280, .inl g_units)), (ga_lengths, .inl (cA 1, 32, .inl g_lengths)), (ga_offsets, .inl (cA 1, 32, .inl g_offsets))] = A at *
  have hS : va_S A s.heap s.heap [] := va_S.rf
  have hl := lv_entry ([.ref w, .ref g, .int (z_i start), .int (z_i sg)]) (n := 9) (Nat.le_of_ble_eq_true rfl)
  rw [lg_entry_eq]
  generalize (lg_sl ([.ref w, .ref g, .int (z_i start), .int (z_i sg)]) ++ List.replicate (9 - (lg_sl ([.ref w, .ref g, .int (z_i start), .int (z_i sg)])).length) Slot.unset).toArray = ls at hl ⊢
  have hl : lv_has ls 9 [(0, .ref w), (1, .ref g), (2, .int (z_i start)), (3, .int (z_i sg))] := hl
  refine lv_aload_n hx hb dX6_flood_0 rfl (lv_at hl 0 rfl) ?_
  refine va_get (D := D) (ci := 4) (v := .ref wa_reached) (C := RX6) (T := TX6) (N := 4) hx hb hts (fun w h => List.mem_cons_of_mem _ (List.mem_append_left _ (List.mem_append_right _ h))) hown hK hP 0 rfl rfl 2 (by decide) (hts (.fieldLink RX6 19 "ContourSheets$Water" "reached" "[B") (by decide +kernel)) (fun _ h9 => h9) rfl dX6_flood_1 ?_
  refine lv_iconst (v := z_i 0) hx hb dX6_flood_4 rfl ?_
  obtain ⟨hp1, hv⟩ := hv
  have hFc := z_fr (A := A) (wc := [(wa_reached, .inl (cA 0, 1280, .inl w_reached))]) hD [3] rfl
  refine va_callv (va_runS (As := [.ref wa_reached, .int (z_i 0)]) (rest := []) ⟨hx, hb, hml, hown, hts⟩ (mt_J7_fill_031fb_z l D cA wa_reached w_reached 0 (show z_in 0 from ⟨by decide, by decide⟩) hp1) (va_cwS 2 hts gX6_flood_J7_fill_031fb rfl rfl rfl (by decide +kernel) ⟨Nat.le_of_ble_eq_true rfl, Nat.le_of_ble_eq_true rfl⟩) ⟨z_blm0, fun U hU hW => ⟨rfl, z_m0 hK (hP.sub (ws' := [(wa_reached, .inl (cA 0, 1280, .inl w_reached))]) [3] rfl) (hD.sub (ws' := [(wa_reached, .inl (cA 0, 1280, .inl w_reached))]) [3] (by decide) rfl) hU hW⟩⟩ rfl rfl hl.1 rfl (lv_room (Nat.le_of_ble_eq_true rfl)) dX6_flood_5 ⟨Nat.zero_le _, Nat.zero_le _⟩) hS (fun q _ h => hFc q h) hFc (fun u t H locs ht hvm hw hB hz1 hk1 hS => ?_)
  obtain ⟨c2, rfl⟩ : ∃ z, z = u := ⟨_, rfl⟩
  rw [ht] at hB
  have hP := z_join2 (wc := [(wa_reached, .inl (cA 0, 1280, .inl w_reached))]) (w1 := [(wa_reached, .inl (cA 0, 1280, .inl c2))]) hP hD [3] [0, 0, 0, 1] rfl rfl rfl hk1 hB
  have hP : va_P D vwCl [(w, .inr (4, [.ref wa_queue, .ref wa_heap, .ref wa_reached, .int (z_i w_heapSize)])), (wa_queue, .inl (cA 1, 1280, .inl w_queue)), (wa_heap, .inl (cA 2, 1280, .inr (.inl w_heap))), (wa_reached, .inl (cA 0, 1280, .inl c2)), (g, .inr (1, [.ref ga_units, .ref ga_lengths, .ref ga_offsets, .int (z_i g_step)])), (ga_units, .inl (cA 1, 1280, .inl g_units)), (ga_lengths, .inl (cA 1, 32, .inl g_lengths)), (ga_offsets, .inl (cA 1, 32, .inl g_offsets))] H := hP
  have hD : va_D A [(w, .inr (4, [.ref wa_queue, .ref wa_heap, .ref wa_reached, .int (z_i w_heapSize)])), (wa_queue, .inl (cA 1, 1280, .inl w_queue)), (wa_heap, .inl (cA 2, 1280, .inr (.inl w_heap))), (wa_reached, .inl (cA 0, 1280, .inl c2)), (g, .inr (1, [.ref ga_units, .ref ga_lengths, .ref ga_offsets, .int (z_i g_step)])), (ga_units, .inl (cA 1, 1280, .inl g_units)), (ga_lengths, .inl (cA 1, 32, .inl g_lengths)), (ga_offsets, .inl (cA 1, 32, .inl g_offsets))] := z_D_addr hD rfl
  have hv := hv c2 hw
  refine lv_aload_n hx hb dX6_flood_8 rfl (lv_at hl 0 rfl) ?_
  refine lv_iconst (v := z_i 0) hx hb dX6_flood_9 rfl ?_
  refine va_put (D := D) (ci := 4) (v := .int (z_i 0)) (ty := .int) (C := RX6) (T := TX6) (N := 4) hx hb hts (fun w h => List.mem_cons_of_mem _ (List.mem_append_left _ (List.mem_append_right _ h))) tyX6 tyX6_ok nmX6 hown hK hP hD hS 0 rfl rfl 3 (by decide) (hts (.fieldLink RX6 49 "ContourSheets$Water" "heapSize" "I") (by decide +kernel)) (fun _ h9 => h9) rfl (by decide +kernel) rfl rfl (Nat.le_of_ble_eq_true rfl) dX6_flood_10 (fun H locs hP hD hS => ?_)
  have hP : va_P D vwCl [(w, .inr (4, [.ref wa_queue, .ref wa_heap, .ref wa_reached, .int (z_i 0)])), (wa_queue, .inl (cA 1, 1280, .inl w_queue)), (wa_heap, .inl (cA 2, 1280, .inr (.inl w_heap))), (wa_reached, .inl (cA 0, 1280, .inl c2)), (g, .inr (1, [.ref ga_units, .ref ga_lengths, .ref ga_offsets, .int (z_i g_step)])), (ga_units, .inl (cA 1, 1280, .inl g_units)), (ga_lengths, .inl (cA 1, 32, .inl g_lengths)), (ga_offsets, .inl (cA 1, 32, .inl g_offsets))] H := hP
  have hD : va_D A [(w, .inr (4, [.ref wa_queue, .ref wa_heap, .ref wa_reached, .int (z_i 0)])), (wa_queue, .inl (cA 1, 1280, .inl w_queue)), (wa_heap, .inl (cA 2, 1280, .inr (.inl w_heap))), (wa_reached, .inl (cA 0, 1280, .inl c2)), (g, .inr (1, [.ref ga_units, .ref ga_lengths, .ref ga_offsets, .int (z_i g_step)])), (ga_units, .inl (cA 1, 1280, .inl g_units)), (ga_lengths, .inl (cA 1, 32, .inl g_lengths)), (ga_offsets, .inl (cA 1, 32, .inl g_offsets))] := hD
  refine lv_aload_n hx hb dX6_flood_13 rfl (lv_at hl 0 rfl) ?_
  refine lv_aload_n hx hb dX6_flood_14 rfl (lv_at hl 1 rfl) ?_
  refine lv_iload_n hx hb dX6_flood_15 rfl (lv_at hl 2 rfl) ?_
  refine lv_iload_n hx hb dX6_flood_16 rfl (lv_at hl 3 rfl) ?_
  obtain ⟨hp3, hv⟩ := hv
  obtain ⟨hp4, hv⟩ := hv
  obtain ⟨hp5, hv⟩ := hv
  obtain ⟨hp6, hv⟩ := hv
  obtain ⟨hp7, hv⟩ := hv
  obtain ⟨hp8, hv⟩ := hv
  have hFc := z_fr (A := A) (wc := [(w, .inr (4, [.ref wa_queue, .ref wa_heap, .ref wa_reached, .int (z_i 0)])), (wa_queue, .inl (cA 1, 1280, .inl w_queue)), (wa_heap, .inl (cA 2, 1280, .inr (.inl w_heap))), (wa_reached, .inl (cA 0, 1280, .inl c2)), (g, .inr (1, [.ref ga_units, .ref ga_lengths, .ref ga_offsets, .int (z_i g_step)])), (ga_units, .inl (cA 1, 1280, .inl g_units)), (ga_lengths, .inl (cA 1, 32, .inl g_lengths)), (ga_offsets, .inl (cA 1, 32, .inl g_offsets))]) hD [0, 1, 2, 3, 4, 5, 6, 7] rfl
  refine va_callv (va_runV (As := [.ref g, .int (z_i start), .int (z_i sg)]) (rest := []) ⟨hx, hb, hml, hown, hts⟩ (mt_X6_reach l D cA w wa_queue w_queue wa_heap w_heap wa_reached c2 0 g ga_units g_units ga_lengths g_lengths ga_offsets g_offsets g_step start sg (show z_in 0 from ⟨by decide, by decide⟩) h_g_step h_start h_sg hp3 hp4 hp5 hp6 hp7 hp8) (cwV 3 hts gX6_flood_X6_reach rfl rfl rfl (by decide +kernel) ⟨Nat.le_of_ble_eq_true rfl, Nat.le_of_ble_eq_true rfl⟩) ⟨z_blm0, va_recv hK hP (ci := 4) (q0 := 0) rfl rfl, fun U hU hW => ⟨rfl, z_m0 hK hP hD hU hW⟩⟩ rfl rfl hl.1 rfl (lv_room (Nat.le_of_ble_eq_true rfl)) dX6_flood_17 ⟨Nat.zero_le _, Nat.zero_le _⟩) hS (fun q _ h => hFc q h) hFc (fun u t H locs ht hvm hw hB hz1 hk1 hS => ?_)
  obtain ⟨c9, c10, c11⟩ := u
  rw [ht] at hB
  have hP := hB
  have hP : va_P D vwCl [(w, .inr (4, [.ref wa_queue, .ref wa_heap, .ref wa_reached, .int (z_i c11)])), (wa_queue, .inl (cA 1, 1280, .inl w_queue)), (wa_heap, .inl (cA 2, 1280, .inr (.inl c9))), (wa_reached, .inl (cA 0, 1280, .inl c10)), (g, .inr (1, [.ref ga_units, .ref ga_lengths, .ref ga_offsets, .int (z_i g_step)])), (ga_units, .inl (cA 1, 1280, .inl g_units)), (ga_lengths, .inl (cA 1, 32, .inl g_lengths)), (ga_offsets, .inl (cA 1, 32, .inl g_offsets))] H := hP
  have hD : va_D A [(w, .inr (4, [.ref wa_queue, .ref wa_heap, .ref wa_reached, .int (z_i c11)])), (wa_queue, .inl (cA 1, 1280, .inl w_queue)), (wa_heap, .inl (cA 2, 1280, .inr (.inl c9))), (wa_reached, .inl (cA 0, 1280, .inl c10)), (g, .inr (1, [.ref ga_units, .ref ga_lengths, .ref ga_offsets, .int (z_i g_step)])), (ga_units, .inl (cA 1, 1280, .inl g_units)), (ga_lengths, .inl (cA 1, 32, .inl g_lengths)), (ga_offsets, .inl (cA 1, 32, .inl g_offsets))] := z_D_addr hD rfl
  obtain ⟨h_c11, hw⟩ := hw
  have hv := hv c9 c10 c11 h_c11 hw
  refine lx_ldc (a := (-8388608)) hx hb hown (hts (.constant RX6 57 (-8388608)) (by decide +kernel)) (by decide) dX6_flood_20 ?_
  refine lv_istore (lv' := [(4, .int (z_i (-8388608))), (0, .ref w), (1, .ref g), (2, .int (z_i start)), (3, .int (z_i sg))]) hx hb dX6_flood_22 hl (by decide) rfl (fun ls hl => ?_)
  refine lv_iconst (v := z_i 0) hx hb dX6_flood_24 rfl ?_
  refine lv_istore (lv' := [(5, .int (z_i 0)), (4, .int (z_i (-8388608))), (0, .ref w), (1, .ref g), (2, .int (z_i start)), (3, .int (z_i sg))]) hx hb dX6_flood_25 hl (by decide) rfl (fun ls hl => ?_)
  refine hv (fun (x27_5 : Int) (x27_4 : Int) (y27_w_heapSize : Int) (y27_wa_heap : Nat → Int64) (y27_wa_reached : Nat → Int32) => ∀ (H : Heap) (locs : List Loc) (ls : Array Slot), va_P D vwCl [(w, .inr (4, [.ref wa_queue, .ref wa_heap, .ref wa_reached, .int (z_i y27_w_heapSize)])), (wa_queue, .inl (cA 1, 1280, .inl w_queue)), (wa_heap, .inl (cA 2, 1280, .inr (.inl y27_wa_heap))), (wa_reached, .inl (cA 0, 1280, .inl y27_wa_reached)), (g, .inr (1, [.ref ga_units, .ref ga_lengths, .ref ga_offsets, .int (z_i g_step)])), (ga_units, .inl (cA 1, 1280, .inl g_units)), (ga_lengths, .inl (cA 1, 32, .inl g_lengths)), (ga_offsets, .inl (cA 1, 32, .inl g_offsets))] H → va_D A [(w, .inr (4, [.ref wa_queue, .ref wa_heap, .ref wa_reached, .int (z_i y27_w_heapSize)])), (wa_queue, .inl (cA 1, 1280, .inl w_queue)), (wa_heap, .inl (cA 2, 1280, .inr (.inl y27_wa_heap))), (wa_reached, .inl (cA 0, 1280, .inl y27_wa_reached)), (g, .inr (1, [.ref ga_units, .ref ga_lengths, .ref ga_offsets, .int (z_i g_step)])), (ga_units, .inl (cA 1, 1280, .inl g_units)), (ga_lengths, .inl (cA 1, 32, .inl g_lengths)), (ga_offsets, .inl (cA 1, 32, .inl g_offsets))] → va_S A s.heap H locs → lv_has ls 9 [(5, .int (z_i x27_5)), (4, .int (z_i x27_4)), (0, .ref w), (1, .ref g), (2, .int (z_i start)), (3, .int (z_i sg))] → W p l e _ s m _ below meth c H locs 0 0 _ (F0 m 27 ls [])) ?_ _ _ ls hP hD hS (lv_sub hl [0, 1, 2, 3, 4, 5] rfl)
  intro x27_5 x27_4 y27_w_heapSize y27_wa_heap y27_wa_reached h_x27_5 h_x27_4 h_y27_w_heapSize hv H locs ls hP hD hS hl
  refine lv_iload hx hb dX6_flood_27 (lv_at hl 0 rfl) ?_
  refine lv_sipush (v := z_i 1280) hx hb dX6_flood_29 (by decide) ?_
  refine lx_icmp_ge (tgt := 141) hx hb dX6_flood_32 (by decide) h_x27_5 (show z_in 1280 from ⟨by decide, by decide⟩) (fun hc => ?_) (fun hc => ?_)
  · have hv := hv.1 hc
    refine lx_ldc (a := (-8388609)) hx hb hown (hts (.constant RX6 70 (-8388609)) (by decide +kernel)) (by decide) dX6_flood_141 ?_
    exact W.iret (v := z_i (-8388609)) hx hb hr (fun t ht hW => ⟨⟨z_i (-8388609), (y27_wa_heap, y27_wa_reached, y27_w_heapSize), rfl, ⟨-8388609, rfl, (show z_in (-8388609) from ⟨by decide, by decide⟩), h_y27_w_heapSize, hv⟩, z_pt hP ht⟩, hS.F ht⟩) hS.2.2 dX6_flood_143
  · have hv := hv.2 hc
    refine lv_aload_n hx hb dX6_flood_35 rfl (lv_at hl 2 rfl) ?_
    refine va_get (D := D) (ci := 4) (v := .int (z_i y27_w_heapSize)) (C := RX6) (T := TX6) (N := 4) hx hb hts (fun w h => List.mem_cons_of_mem _ (List.mem_append_left _ (List.mem_append_right _ h))) hown hK hP 0 rfl rfl 3 (by decide) (hts (.fieldLink RX6 49 "ContourSheets$Water" "heapSize" "I") (by decide +kernel)) (fun _ h9 => h9) rfl dX6_flood_36 ?_
    refine lx_if_le (tgt := 141) hx hb dX6_flood_39 (by decide) h_y27_w_heapSize (fun hc => ?_) (fun hc => ?_)
    · have hv := hv.1 hc
      refine lx_ldc (a := (-8388609)) hx hb hown (hts (.constant RX6 70 (-8388609)) (by decide +kernel)) (by decide) dX6_flood_141 ?_
      exact W.iret (v := z_i (-8388609)) hx hb hr (fun t ht hW => ⟨⟨z_i (-8388609), (y27_wa_heap, y27_wa_reached, y27_w_heapSize), rfl, ⟨-8388609, rfl, (show z_in (-8388609) from ⟨by decide, by decide⟩), h_y27_w_heapSize, hv⟩, z_pt hP ht⟩, hS.F ht⟩) hS.2.2 dX6_flood_143
    · have hv := hv.2 hc
      refine lv_aload_n hx hb dX6_flood_42 rfl (lv_at hl 2 rfl) ?_
      obtain ⟨hp12, hv⟩ := hv
      obtain ⟨hp13, hv⟩ := hv
      obtain ⟨hp14, hv⟩ := hv
      have hFc := z_fr (A := A) (wc := [(w, .inr (4, [.ref wa_queue, .ref wa_heap, .ref wa_reached, .int (z_i y27_w_heapSize)])), (wa_queue, .inl (cA 1, 1280, .inl w_queue)), (wa_heap, .inl (cA 2, 1280, .inr (.inl y27_wa_heap))), (wa_reached, .inl (cA 0, 1280, .inl y27_wa_reached))]) hD [0, 1, 2, 3] rfl
      refine va_calli (va_runV (As := []) (rest := []) ⟨hx, hb, hml, hown, hts⟩ (mt_X6_takeLeast l D cA w wa_queue w_queue wa_heap y27_wa_heap wa_reached y27_wa_reached y27_w_heapSize h_y27_w_heapSize hp12 hp13 hp14) (cwV 0 hts gX6_flood_X6_takeLeast rfl rfl rfl (by decide +kernel) ⟨Nat.le_of_ble_eq_true rfl, Nat.le_of_ble_eq_true rfl⟩) ⟨z_blm0, va_recv hK hP (ci := 4) (q0 := 0) rfl rfl, fun U hU hW => ⟨rfl, z_m0 hK (hP.sub (ws' := [(w, .inr (4, [.ref wa_queue, .ref wa_heap, .ref wa_reached, .int (z_i y27_w_heapSize)])), (wa_queue, .inl (cA 1, 1280, .inl w_queue)), (wa_heap, .inl (cA 2, 1280, .inr (.inl y27_wa_heap))), (wa_reached, .inl (cA 0, 1280, .inl y27_wa_reached))]) [0, 1, 2, 3] rfl) (hD.sub (ws' := [(w, .inr (4, [.ref wa_queue, .ref wa_heap, .ref wa_reached, .int (z_i y27_w_heapSize)])), (wa_queue, .inl (cA 1, 1280, .inl w_queue)), (wa_heap, .inl (cA 2, 1280, .inr (.inl y27_wa_heap))), (wa_reached, .inl (cA 0, 1280, .inl y27_wa_reached))]) [0, 1, 2, 3] (by decide) rfl) hU hW⟩⟩ rfl rfl hl.1 rfl (lv_room (Nat.le_of_ble_eq_true rfl)) dX6_flood_43 ⟨Nat.zero_le _, Nat.zero_le _⟩) hS (fun q _ h => hFc q h) hFc (fun r0 u t H locs ht hvm hw hB hz1 hk1 hS => ?_)
      obtain ⟨r15, rfl, h_r15, hw⟩ := hw
      obtain ⟨c16, c17⟩ := u
      rw [ht] at hB
      have hP := z_join2 (wc := [(w, .inr (4, [.ref wa_queue, .ref wa_heap, .ref wa_reached, .int (z_i y27_w_heapSize)])), (wa_queue, .inl (cA 1, 1280, .inl w_queue)), (wa_heap, .inl (cA 2, 1280, .inr (.inl y27_wa_heap))), (wa_reached, .inl (cA 0, 1280, .inl y27_wa_reached))]) (w1 := [(w, .inr (4, [.ref wa_queue, .ref wa_heap, .ref wa_reached, .int (z_i c17)])), (wa_queue, .inl (cA 1, 1280, .inl w_queue)), (wa_heap, .inl (cA 2, 1280, .inr (.inl c16))), (wa_reached, .inl (cA 0, 1280, .inl y27_wa_reached))]) hP hD [0, 1, 2, 3] [1, 2, 3, 4] rfl rfl rfl hk1 hB
      have hP : va_P D vwCl [(w, .inr (4, [.ref wa_queue, .ref wa_heap, .ref wa_reached, .int (z_i c17)])), (wa_queue, .inl (cA 1, 1280, .inl w_queue)), (wa_heap, .inl (cA 2, 1280, .inr (.inl c16))), (wa_reached, .inl (cA 0, 1280, .inl y27_wa_reached)), (g, .inr (1, [.ref ga_units, .ref ga_lengths, .ref ga_offsets, .int (z_i g_step)])), (ga_units, .inl (cA 1, 1280, .inl g_units)), (ga_lengths, .inl (cA 1, 32, .inl g_lengths)), (ga_offsets, .inl (cA 1, 32, .inl g_offsets))] H := hP
      have hD : va_D A [(w, .inr (4, [.ref wa_queue, .ref wa_heap, .ref wa_reached, .int (z_i c17)])), (wa_queue, .inl (cA 1, 1280, .inl w_queue)), (wa_heap, .inl (cA 2, 1280, .inr (.inl c16))), (wa_reached, .inl (cA 0, 1280, .inl y27_wa_reached)), (g, .inr (1, [.ref ga_units, .ref ga_lengths, .ref ga_offsets, .int (z_i g_step)])), (ga_units, .inl (cA 1, 1280, .inl g_units)), (ga_lengths, .inl (cA 1, 32, .inl g_lengths)), (ga_offsets, .inl (cA 1, 32, .inl g_offsets))] := z_D_addr hD rfl
      obtain ⟨h_c17, hw⟩ := hw
      have hv := hv r15 c16 c17 h_r15 h_c17 hw
      refine lv_istore (lv' := [(6, .int (z_i r15)), (5, .int (z_i x27_5)), (4, .int (z_i x27_4)), (0, .ref w), (1, .ref g), (2, .int (z_i start)), (3, .int (z_i sg))]) hx hb dX6_flood_46 hl (by decide) rfl (fun ls hl => ?_)
      refine lv_iload_n hx hb dX6_flood_48 rfl (lv_at hl 6 rfl) ?_
      refine lv_aload_n hx hb dX6_flood_49 rfl (lv_at hl 4 rfl) ?_
      refine lv_iload hx hb dX6_flood_50 (lv_at hl 0 rfl) ?_
      refine va_calli (va_runV (As := [.int (z_i r15)]) (rest := [.int (z_i sg)]) ⟨hx, hb, hml, hown, hts⟩ (mt_X2_unitsOf l D cA g ga_units g_units ga_lengths g_lengths ga_offsets g_offsets g_step r15 h_g_step h_r15) (cwV 1 hts gX6_flood_X2_unitsOf rfl rfl rfl (by decide +kernel) ⟨Nat.le_of_ble_eq_true rfl, Nat.le_of_ble_eq_true rfl⟩) ⟨z_bl0, va_recv hK hP (ci := 1) (q0 := 4) rfl rfl, fun U hU hW => ⟨rfl, z_b0 hK (hP.sub (ws' := [(g, .inr (1, [.ref ga_units, .ref ga_lengths, .ref ga_offsets, .int (z_i g_step)])), (ga_units, .inl (cA 1, 1280, .inl g_units)), (ga_lengths, .inl (cA 1, 32, .inl g_lengths)), (ga_offsets, .inl (cA 1, 32, .inl g_offsets))]) [4, 5, 6, 7] rfl) hU hW⟩⟩ rfl rfl hl.1 rfl (lv_room (Nat.le_of_ble_eq_true rfl)) dX6_flood_52 ⟨Nat.zero_le _, Nat.zero_le _⟩) hS (fun q _ h => h.elim) (fun q h => h.elim) (fun r0 u t H locs ht hvm hw hB hz1 hk1 hS => ?_)
      obtain ⟨r18, rfl, h_r18, hw⟩ := hw
      have hP := z_P_all hP hk1
      have hv := hv r18 h_r18 hw
      refine lx_imul hx hb dX6_flood_55 ?_
      obtain ⟨hr20, hv⟩ := hv
      refine lx_topi (fun v19 hy21 => ?_)
      have hv := hv v19 hy21
      have h_v19 : z_in v19 := by rw [hy21]; exact hr20
      refine lv_istore (lv' := [(7, .int (z_i v19)), (6, .int (z_i r15)), (5, .int (z_i x27_5)), (4, .int (z_i x27_4)), (0, .ref w), (1, .ref g), (2, .int (z_i start)), (3, .int (z_i sg))]) hx hb dX6_flood_56 hl (by decide) rfl (fun ls hl => ?_)
      have hv := hv (fun (s72_0 : Int) => ∀ (H : Heap) (locs : List Loc) (ls : Array Slot), va_P D vwCl [(w, .inr (4, [.ref wa_queue, .ref wa_heap, .ref wa_reached, .int (z_i c17)])), (wa_queue, .inl (cA 1, 1280, .inl w_queue)), (wa_heap, .inl (cA 2, 1280, .inr (.inl c16))), (wa_reached, .inl (cA 0, 1280, .inl y27_wa_reached)), (g, .inr (1, [.ref ga_units, .ref ga_lengths, .ref ga_offsets, .int (z_i g_step)])), (ga_units, .inl (cA 1, 1280, .inl g_units)), (ga_lengths, .inl (cA 1, 32, .inl g_lengths)), (ga_offsets, .inl (cA 1, 32, .inl g_offsets))] H → va_D A [(w, .inr (4, [.ref wa_queue, .ref wa_heap, .ref wa_reached, .int (z_i c17)])), (wa_queue, .inl (cA 1, 1280, .inl w_queue)), (wa_heap, .inl (cA 2, 1280, .inr (.inl c16))), (wa_reached, .inl (cA 0, 1280, .inl y27_wa_reached)), (g, .inr (1, [.ref ga_units, .ref ga_lengths, .ref ga_offsets, .int (z_i g_step)])), (ga_units, .inl (cA 1, 1280, .inl g_units)), (ga_lengths, .inl (cA 1, 32, .inl g_lengths)), (ga_offsets, .inl (cA 1, 32, .inl g_offsets))] → va_S A s.heap H locs → lv_has ls 9 [(6, .int (z_i r15)), (5, .int (z_i x27_5)), (0, .ref w), (1, .ref g), (2, .int (z_i start)), (3, .int (z_i sg))] → W p l e (headSpec wsX6_flood ({ frames := 5, cells := 0, slots := 0, locals := 110 } : Room)).room s m ([.ref w, .ref g, .int (z_i start), .int (z_i sg)]).toArray below meth c H locs 0 0 (MQ below (va_Qi (z_mi (fun v (u : (Nat → Int64) × (Nat → Int32) × Int) => z_in u.2.2 ∧ Q v u.1 u.2.1 u.2.2)) (fun (u : (Nat → Int64) × (Nat → Int32) × Int) t => va_P D vwCl [(w, .inr (4, [.ref wa_queue, .ref wa_heap, .ref wa_reached, .int (z_i u.2.2)])), (wa_queue, .inl (cA 1, 1280, .inl w_queue)), (wa_heap, .inl (cA 2, 1280, .inr (.inl u.1))), (wa_reached, .inl (cA 0, 1280, .inl u.2.1)), (g, .inr (1, [.ref ga_units, .ref ga_lengths, .ref ga_offsets, .int (z_i g_step)])), (ga_units, .inl (cA 1, 1280, .inl g_units)), (ga_lengths, .inl (cA 1, 32, .inl g_lengths)), (ga_offsets, .inl (cA 1, 32, .inl g_offsets))] t.heap) A) ([.ref w, .ref g, .int (z_i start), .int (z_i sg)]).toArray s 0 0 A) (F0 m 72 ls [.int (z_i s72_0)])) (by
        intro s72_0 h_s72_0 hv H locs ls hP hD hS hl
        refine lv_istore (lv' := [(4, .int (z_i s72_0)), (6, .int (z_i r15)), (5, .int (z_i x27_5)), (0, .ref w), (1, .ref g), (2, .int (z_i start)), (3, .int (z_i sg))]) hx hb dX6_flood_72 hl (by decide) rfl (fun ls hl => ?_)
        have hv := hv (∀ (H : Heap) (locs : List Loc) (ls : Array Slot), va_P D vwCl [(w, .inr (4, [.ref wa_queue, .ref wa_heap, .ref wa_reached, .int (z_i c17)])), (wa_queue, .inl (cA 1, 1280, .inl w_queue)), (wa_heap, .inl (cA 2, 1280, .inr (.inl c16))), (wa_reached, .inl (cA 0, 1280, .inl y27_wa_reached)), (g, .inr (1, [.ref ga_units, .ref ga_lengths, .ref ga_offsets, .int (z_i g_step)])), (ga_units, .inl (cA 1, 1280, .inl g_units)), (ga_lengths, .inl (cA 1, 32, .inl g_lengths)), (ga_offsets, .inl (cA 1, 32, .inl g_offsets))] H → va_D A [(w, .inr (4, [.ref wa_queue, .ref wa_heap, .ref wa_reached, .int (z_i c17)])), (wa_queue, .inl (cA 1, 1280, .inl w_queue)), (wa_heap, .inl (cA 2, 1280, .inr (.inl c16))), (wa_reached, .inl (cA 0, 1280, .inl y27_wa_reached)), (g, .inr (1, [.ref ga_units, .ref ga_lengths, .ref ga_offsets, .int (z_i g_step)])), (ga_units, .inl (cA 1, 1280, .inl g_units)), (ga_lengths, .inl (cA 1, 32, .inl g_lengths)), (ga_offsets, .inl (cA 1, 32, .inl g_offsets))] → va_S A s.heap H locs → lv_has ls 9 [(4, .int (z_i s72_0)), (6, .int (z_i r15)), (5, .int (z_i x27_5)), (0, .ref w), (1, .ref g), (2, .int (z_i start)), (3, .int (z_i sg))] → W p l e (headSpec wsX6_flood ({ frames := 5, cells := 0, slots := 0, locals := 110 } : Room)).room s m ([.ref w, .ref g, .int (z_i start), .int (z_i sg)]).toArray below meth c H locs 0 0 (MQ below (va_Qi (z_mi (fun v (u : (Nat → Int64) × (Nat → Int32) × Int) => z_in u.2.2 ∧ Q v u.1 u.2.1 u.2.2)) (fun (u : (Nat → Int64) × (Nat → Int32) × Int) t => va_P D vwCl [(w, .inr (4, [.ref wa_queue, .ref wa_heap, .ref wa_reached, .int (z_i u.2.2)])), (wa_queue, .inl (cA 1, 1280, .inl w_queue)), (wa_heap, .inl (cA 2, 1280, .inr (.inl u.1))), (wa_reached, .inl (cA 0, 1280, .inl u.2.1)), (g, .inr (1, [.ref ga_units, .ref ga_lengths, .ref ga_offsets, .int (z_i g_step)])), (ga_units, .inl (cA 1, 1280, .inl g_units)), (ga_lengths, .inl (cA 1, 32, .inl g_lengths)), (ga_offsets, .inl (cA 1, 32, .inl g_offsets))] t.heap) A) ([.ref w, .ref g, .int (z_i start), .int (z_i sg)]).toArray s 0 0 A) (F0 m 105 ls [])) (by
          intro   hv H locs ls hP hD hS hl
          refine lv_iconst (v := z_i 0) hx hb dX6_flood_105 rfl ?_
          refine lv_istore (lv' := [(8, .int (z_i 0)), (4, .int (z_i s72_0)), (6, .int (z_i r15)), (5, .int (z_i x27_5)), (0, .ref w), (1, .ref g), (2, .int (z_i start)), (3, .int (z_i sg))]) hx hb dX6_flood_106 hl (by decide) rfl (fun ls hl => ?_)
          refine hv (fun (x108_8 : Int) (y108_w_heapSize : Int) (y108_wa_heap : Nat → Int64) (y108_wa_reached : Nat → Int32) => ∀ (H : Heap) (locs : List Loc) (ls : Array Slot), va_P D vwCl [(w, .inr (4, [.ref wa_queue, .ref wa_heap, .ref wa_reached, .int (z_i y108_w_heapSize)])), (wa_queue, .inl (cA 1, 1280, .inl w_queue)), (wa_heap, .inl (cA 2, 1280, .inr (.inl y108_wa_heap))), (wa_reached, .inl (cA 0, 1280, .inl y108_wa_reached)), (g, .inr (1, [.ref ga_units, .ref ga_lengths, .ref ga_offsets, .int (z_i g_step)])), (ga_units, .inl (cA 1, 1280, .inl g_units)), (ga_lengths, .inl (cA 1, 32, .inl g_lengths)), (ga_offsets, .inl (cA 1, 32, .inl g_offsets))] H → va_D A [(w, .inr (4, [.ref wa_queue, .ref wa_heap, .ref wa_reached, .int (z_i y108_w_heapSize)])), (wa_queue, .inl (cA 1, 1280, .inl w_queue)), (wa_heap, .inl (cA 2, 1280, .inr (.inl y108_wa_heap))), (wa_reached, .inl (cA 0, 1280, .inl y108_wa_reached)), (g, .inr (1, [.ref ga_units, .ref ga_lengths, .ref ga_offsets, .int (z_i g_step)])), (ga_units, .inl (cA 1, 1280, .inl g_units)), (ga_lengths, .inl (cA 1, 32, .inl g_lengths)), (ga_offsets, .inl (cA 1, 32, .inl g_offsets))] → va_S A s.heap H locs → lv_has ls 9 [(8, .int (z_i x108_8)), (4, .int (z_i s72_0)), (6, .int (z_i r15)), (5, .int (z_i x27_5)), (0, .ref w), (1, .ref g), (2, .int (z_i start)), (3, .int (z_i sg))] → W p l e _ s m _ below meth c H locs 0 0 _ (F0 m 108 ls [])) ?_ _ _ ls hP hD hS (lv_sub hl [0, 1, 2, 3, 4, 5, 6, 7] rfl)
          intro x108_8 y108_w_heapSize y108_wa_heap y108_wa_reached h_x108_8 h_y108_w_heapSize hv H locs ls hP hD hS hl
          refine lv_iload hx hb dX6_flood_108 (lv_at hl 0 rfl) ?_
          refine lv_bipush (v := z_i 8) hx hb dX6_flood_110 (by decide) ?_
          refine lx_icmp_ge (tgt := 135) hx hb dX6_flood_112 (by decide) h_x108_8 (show z_in 8 from ⟨by decide, by decide⟩) (fun hc => ?_) (fun hc => ?_)
          · have hv := hv.1 hc
            refine lv_iinc (v := z_i (x27_5 + 1)) (lv' := [(5, .int (z_i (x27_5 + 1))), (8, .int (z_i x108_8)), (4, .int (z_i s72_0)), (6, .int (z_i r15)), (0, .ref w), (1, .ref g), (2, .int (z_i start)), (3, .int (z_i sg))]) hx hb dX6_flood_135 hl (k := 3) rfl (z_i_add _ _) (by decide) rfl (fun ls hl => ?_)
            refine lv_goto (tgt := 27) hx hb dX6_flood_138 (by decide) ?_
            exact hv _ _ ls hP hD hS (lv_sub hl [0, 2, 4, 5, 6, 7] rfl)
          · have hv := hv.2 hc
            refine lv_aload_n hx hb dX6_flood_115 rfl (lv_at hl 4 rfl) ?_
            refine lv_aload_n hx hb dX6_flood_116 rfl (lv_at hl 5 rfl) ?_
            refine lv_aload_n hx hb dX6_flood_117 rfl (lv_at hl 5 rfl) ?_
            refine lv_iload hx hb dX6_flood_118 (lv_at hl 2 rfl) ?_
            refine lv_iload hx hb dX6_flood_120 (lv_at hl 0 rfl) ?_
            obtain ⟨hp22, hv⟩ := hv
            obtain ⟨hp23, hv⟩ := hv
            refine va_calli (va_runV (As := [.int (z_i r15), .int (z_i x108_8)]) (rest := [.ref g, .ref w]) ⟨hx, hb, hml, hown, hts⟩ (mt_X2_neighbour l D cA t1 t2 g ga_units g_units ga_lengths g_lengths ga_offsets g_offsets g_step r15 x108_8 h_g_step h_r15 h_x108_8 hp22 hp23) (cwV 2 hts gX6_flood_X2_neighbour rfl rfl rfl (by decide +kernel) ⟨Nat.le_of_ble_eq_true rfl, Nat.le_of_ble_eq_true rfl⟩) ⟨z_bl1, va_recv hK hP (ci := 1) (q0 := 4) rfl rfl, fun U hU hW => ⟨rfl, z_b1 hK (hP.sub (ws' := [(g, .inr (1, [.ref ga_units, .ref ga_lengths, .ref ga_offsets, .int (z_i g_step)])), (ga_units, .inl (cA 1, 1280, .inl g_units)), (ga_lengths, .inl (cA 1, 32, .inl g_lengths)), (ga_offsets, .inl (cA 1, 32, .inl g_offsets))]) [4, 5, 6, 7] rfl) (hST.at hS (fun _ h => h.elim)) hU hW⟩⟩ rfl rfl hl.1 rfl (lv_room (Nat.le_of_ble_eq_true rfl)) dX6_flood_122 ⟨Nat.zero_le _, Nat.zero_le _⟩) hS (fun q _ h => h.elim) (fun q h => h.elim) (fun r0 u t H locs ht hvm hw hB hz1 hk1 hS => ?_)
            obtain ⟨r24, rfl, h_r24, hw⟩ := hw
            have hP := z_P_all hP hk1
            have hv := hv r24 h_r24 hw
            refine lv_iload_n hx hb dX6_flood_125 rfl (lv_at hl 7 rfl) ?_
            obtain ⟨hp25, hv⟩ := hv
            obtain ⟨hp26, hv⟩ := hv
            obtain ⟨hp27, hv⟩ := hv
            obtain ⟨hp28, hv⟩ := hv
            obtain ⟨hp29, hv⟩ := hv
            obtain ⟨hp30, hv⟩ := hv
            have hFc := z_fr (A := A) (wc := [(w, .inr (4, [.ref wa_queue, .ref wa_heap, .ref wa_reached, .int (z_i y108_w_heapSize)])), (wa_queue, .inl (cA 1, 1280, .inl w_queue)), (wa_heap, .inl (cA 2, 1280, .inr (.inl y108_wa_heap))), (wa_reached, .inl (cA 0, 1280, .inl y108_wa_reached)), (g, .inr (1, [.ref ga_units, .ref ga_lengths, .ref ga_offsets, .int (z_i g_step)])), (ga_units, .inl (cA 1, 1280, .inl g_units)), (ga_lengths, .inl (cA 1, 32, .inl g_lengths)), (ga_offsets, .inl (cA 1, 32, .inl g_offsets))]) hD [0, 1, 2, 3, 4, 5, 6, 7] rfl
            refine va_callv (va_runV (As := [.ref g, .int (z_i r24), .int (z_i sg)]) (rest := []) ⟨hx, hb, hml, hown, hts⟩ (mt_X6_reach l D cA w wa_queue w_queue wa_heap y108_wa_heap wa_reached y108_wa_reached y108_w_heapSize g ga_units g_units ga_lengths g_lengths ga_offsets g_offsets g_step r24 sg h_y108_w_heapSize h_g_step h_r24 h_sg hp25 hp26 hp27 hp28 hp29 hp30) (cwV 3 hts gX6_flood_X6_reach rfl rfl rfl (by decide +kernel) ⟨Nat.le_of_ble_eq_true rfl, Nat.le_of_ble_eq_true rfl⟩) ⟨z_blm0, va_recv hK hP (ci := 4) (q0 := 0) rfl rfl, fun U hU hW => ⟨rfl, z_m0 hK hP hD hU hW⟩⟩ rfl rfl hl.1 rfl (lv_room (Nat.le_of_ble_eq_true rfl)) dX6_flood_126 ⟨Nat.zero_le _, Nat.zero_le _⟩) hS (fun q _ h => hFc q h) hFc (fun u t H locs ht hvm hw hB hz1 hk1 hS => ?_)
            obtain ⟨c31, c32, c33⟩ := u
            rw [ht] at hB
            have hP := hB
            have hP : va_P D vwCl [(w, .inr (4, [.ref wa_queue, .ref wa_heap, .ref wa_reached, .int (z_i c33)])), (wa_queue, .inl (cA 1, 1280, .inl w_queue)), (wa_heap, .inl (cA 2, 1280, .inr (.inl c31))), (wa_reached, .inl (cA 0, 1280, .inl c32)), (g, .inr (1, [.ref ga_units, .ref ga_lengths, .ref ga_offsets, .int (z_i g_step)])), (ga_units, .inl (cA 1, 1280, .inl g_units)), (ga_lengths, .inl (cA 1, 32, .inl g_lengths)), (ga_offsets, .inl (cA 1, 32, .inl g_offsets))] H := hP
            have hD : va_D A [(w, .inr (4, [.ref wa_queue, .ref wa_heap, .ref wa_reached, .int (z_i c33)])), (wa_queue, .inl (cA 1, 1280, .inl w_queue)), (wa_heap, .inl (cA 2, 1280, .inr (.inl c31))), (wa_reached, .inl (cA 0, 1280, .inl c32)), (g, .inr (1, [.ref ga_units, .ref ga_lengths, .ref ga_offsets, .int (z_i g_step)])), (ga_units, .inl (cA 1, 1280, .inl g_units)), (ga_lengths, .inl (cA 1, 32, .inl g_lengths)), (ga_offsets, .inl (cA 1, 32, .inl g_offsets))] := z_D_addr hD rfl
            obtain ⟨h_c33, hw⟩ := hw
            have hv := hv c31 c32 c33 h_c33 hw
            refine lv_iinc (v := z_i (x108_8 + 1)) (lv' := [(8, .int (z_i (x108_8 + 1))), (4, .int (z_i s72_0)), (6, .int (z_i r15)), (5, .int (z_i x27_5)), (0, .ref w), (1, .ref g), (2, .int (z_i start)), (3, .int (z_i sg))]) hx hb dX6_flood_129 hl (k := 0) rfl (z_i_add _ _) (by decide) rfl (fun ls hl => ?_)
            refine lv_goto (tgt := 108) hx hb dX6_flood_132 (by decide) ?_
            exact hv _ _ ls hP hD hS (lv_sub hl [0, 1, 2, 3, 4, 5, 6, 7] rfl))
        refine lv_iload_n hx hb dX6_flood_74 rfl (lv_at hl 6 rfl) ?_
        refine lx_if_le (tgt := 90) hx hb dX6_flood_75 (by decide) h_sg (fun hc => ?_) (fun hc => ?_)
        · have hv := hv.1 hc
          refine lv_aload_n hx hb dX6_flood_90 rfl (lv_at hl 4 rfl) ?_
          refine lv_iload hx hb dX6_flood_91 (lv_at hl 1 rfl) ?_
          refine lv_iload_n hx hb dX6_flood_93 rfl (lv_at hl 5 rfl) ?_
          refine va_calli (va_runV (As := [.int (z_i r15), .int (z_i start)]) (rest := []) ⟨hx, hb, hml, hown, hts⟩ (mt_X2_isAbove l D cA g ga_units g_units ga_lengths g_lengths ga_offsets g_offsets g_step r15 start h_g_step h_r15 h_start) (cwV 2 hts gX6_flood_X2_isAbove rfl rfl rfl (by decide +kernel) ⟨Nat.le_of_ble_eq_true rfl, Nat.le_of_ble_eq_true rfl⟩) ⟨z_bl0, va_recv hK hP (ci := 1) (q0 := 4) rfl rfl, fun U hU hW => ⟨rfl, z_b0 hK (hP.sub (ws' := [(g, .inr (1, [.ref ga_units, .ref ga_lengths, .ref ga_offsets, .int (z_i g_step)])), (ga_units, .inl (cA 1, 1280, .inl g_units)), (ga_lengths, .inl (cA 1, 32, .inl g_lengths)), (ga_offsets, .inl (cA 1, 32, .inl g_offsets))]) [4, 5, 6, 7] rfl) hU hW⟩⟩ rfl rfl hl.1 rfl (lv_room (Nat.le_of_ble_eq_true rfl)) dX6_flood_94 ⟨Nat.zero_le _, Nat.zero_le _⟩) hS (fun q _ h => h.elim) (fun q h => h.elim) (fun r0 u t H locs ht hvm hw hB hz1 hk1 hS => ?_)
          obtain ⟨r34, rfl, h_r34, hw⟩ := hw
          have hP := z_P_all hP hk1
          have hv := hv r34 h_r34 hw
          refine lx_if_eq (tgt := 105) hx hb dX6_flood_97 (by decide) h_r34 (fun hc => ?_) (fun hc => ?_)
          · have hv := hv.1 hc
            exact hv _ _ ls hP hD hS (lv_sub hl [0, 1, 2, 3, 4, 5, 6] rfl)
          · have hv := hv.2 hc
            refine lv_iload_n hx hb dX6_flood_100 rfl (lv_at hl 6 rfl) ?_
            refine lv_iload hx hb dX6_flood_101 (lv_at hl 0 rfl) ?_
            refine lx_imul hx hb dX6_flood_103 ?_
            obtain ⟨hr35, hv⟩ := hv
            exact W.iret (v := z_i (sg * s72_0)) hx hb hr (fun t ht hW => ⟨⟨z_i (sg * s72_0), (c16, y27_wa_reached, c17), rfl, ⟨sg * s72_0, rfl, hr35, h_c17, hv⟩, z_pt hP ht⟩, hS.F ht⟩) hS.2.2 dX6_flood_104
        · have hv := hv.2 hc
          refine lv_aload_n hx hb dX6_flood_78 rfl (lv_at hl 4 rfl) ?_
          refine lv_iload hx hb dX6_flood_79 (lv_at hl 1 rfl) ?_
          obtain ⟨hp36, hv⟩ := hv
          refine va_calli (va_runV (As := [.int (z_i r15)]) (rest := []) ⟨hx, hb, hml, hown, hts⟩ (mt_X2_isRim l D cA t1 t2 g ga_units g_units ga_lengths g_lengths ga_offsets g_offsets g_step r15 h_g_step h_r15 hp36) (cwV 1 hts gX6_flood_X2_isRim rfl rfl rfl (by decide +kernel) ⟨Nat.le_of_ble_eq_true rfl, Nat.le_of_ble_eq_true rfl⟩) ⟨z_bl1, va_recv hK hP (ci := 1) (q0 := 4) rfl rfl, fun U hU hW => ⟨rfl, z_b1 hK (hP.sub (ws' := [(g, .inr (1, [.ref ga_units, .ref ga_lengths, .ref ga_offsets, .int (z_i g_step)])), (ga_units, .inl (cA 1, 1280, .inl g_units)), (ga_lengths, .inl (cA 1, 32, .inl g_lengths)), (ga_offsets, .inl (cA 1, 32, .inl g_offsets))]) [4, 5, 6, 7] rfl) (hST.at hS (fun _ h => h.elim)) hU hW⟩⟩ rfl rfl hl.1 rfl (lv_room (Nat.le_of_ble_eq_true rfl)) dX6_flood_81 ⟨Nat.zero_le _, Nat.zero_le _⟩) hS (fun q _ h => h.elim) (fun q h => h.elim) (fun r0 u t H locs ht hvm hw hB hz1 hk1 hS => ?_)
          obtain ⟨r37, rfl, h_r37, hw⟩ := hw
          have hP := z_P_all hP hk1
          have hv := hv r37 h_r37 hw
          refine lx_if_eq (tgt := 105) hx hb dX6_flood_84 (by decide) h_r37 (fun hc => ?_) (fun hc => ?_)
          · have hv := hv.1 hc
            exact hv _ _ ls hP hD hS (lv_sub hl [0, 1, 2, 3, 4, 5, 6] rfl)
          · have hv := hv.2 hc
            refine lv_goto (tgt := 100) hx hb dX6_flood_87 (by decide) ?_
            refine lv_iload_n hx hb dX6_flood_100 rfl (lv_at hl 6 rfl) ?_
            refine lv_iload hx hb dX6_flood_101 (lv_at hl 0 rfl) ?_
            refine lx_imul hx hb dX6_flood_103 ?_
            obtain ⟨hr38, hv⟩ := hv
            exact W.iret (v := z_i (sg * s72_0)) hx hb hr (fun t ht hW => ⟨⟨z_i (sg * s72_0), (c16, y27_wa_reached, c17), rfl, ⟨sg * s72_0, rfl, hr38, h_c17, hv⟩, z_pt hP ht⟩, hS.F ht⟩) hS.2.2 dX6_flood_104)
      refine lv_iload hx hb dX6_flood_58 (lv_at hl 0 rfl) ?_
      refine lv_iload hx hb dX6_flood_60 (lv_at hl 3 rfl) ?_
      refine lx_icmp_le (tgt := 70) hx hb dX6_flood_62 (by decide) h_v19 h_x27_4 (fun hc => ?_) (fun hc => ?_)
      · have hv := hv.1 hc
        refine lv_iload hx hb dX6_flood_70 (lv_at hl 3 rfl) ?_
        exact hv _ _ ls hP hD hS (lv_sub hl [1, 2, 4, 5, 6, 7] rfl)
      · have hv := hv.2 hc
        refine lv_iload hx hb dX6_flood_65 (lv_at hl 0 rfl) ?_
        refine lv_goto (tgt := 72) hx hb dX6_flood_67 (by decide) ?_
        exact hv _ _ ls hP hD hS (lv_sub hl [1, 2, 4, 5, 6, 7] rfl)
set_option maxHeartbeats 4000000 in
set_option maxRecDepth 100000 in
theorem mt_X6_flood (l : Launch) (D : va_G) (cA : Nat → ClassId) (t1 t2 : Nat) (w : Nat) (wa_queue : Nat) (w_queue : Nat → Int32) (wa_heap : Nat) (w_heap : Nat → Int64) (wa_reached : Nat) (w_reached : Nat → Int32) (w_heapSize : Int) (g : Nat) (ga_units : Nat) (g_units : Nat → Int32) (ga_lengths : Nat) (g_lengths : Nat → Int32) (ga_offsets : Nat) (g_offsets : Nat → Int32) (g_step : Int) (start : Int) (sg : Int) (h_w_heapSize : z_in w_heapSize) (h_g_step : z_in g_step) (h_start : z_in start) (h_sg : z_in sg) (hp1 : sg = 1 ∨ sg = -1) (hp2 : g_ok g_units) (hp3 : g_th g_units start = true) : Met l yX6_flood wsX6_flood ({ frames := 5, cells := 0, slots := 0, locals := 110 } : Room) (va_Pc [.ref w, .ref g, .int (z_i start), .int (z_i sg)] (z_M1 D cA t1 t2 [(w, .inr (4, [.ref wa_queue, .ref wa_heap, .ref wa_reached, .int (z_i w_heapSize)])), (wa_queue, .inl (cA 1, 1280, .inl w_queue)), (wa_heap, .inl (cA 2, 1280, .inr (.inl w_heap))), (wa_reached, .inl (cA 0, 1280, .inl w_reached)), (g, .inr (1, [.ref ga_units, .ref ga_lengths, .ref ga_offsets, .int (z_i g_step)])), (ga_units, .inl (cA 1, 1280, .inl g_units)), (ga_lengths, .inl (cA 1, 32, .inl g_lengths)), (ga_offsets, .inl (cA 1, 32, .inl g_offsets))])) (va_Qi (z_mi (fun v (u : (Nat → Int64) × (Nat → Int32) × Int) => z_in u.2.2 ∧ (fun (r : Int) (w_heap' : (Nat → Int64)) (w_reached' : (Nat → Int32)) (w_heapSize' : Int) => w_ans sg (g_th g_units) (g_at g_units) start r) v u.1 u.2.1 u.2.2)) (fun (u : (Nat → Int64) × (Nat → Int32) × Int) t => va_P D vwCl [(w, .inr (4, [.ref wa_queue, .ref wa_heap, .ref wa_reached, .int (z_i u.2.2)])), (wa_queue, .inl (cA 1, 1280, .inl w_queue)), (wa_heap, .inl (cA 2, 1280, .inr (.inl u.1))), (wa_reached, .inl (cA 0, 1280, .inl u.2.1)), (g, .inr (1, [.ref ga_units, .ref ga_lengths, .ref ga_offsets, .int (z_i g_step)])), (ga_units, .inl (cA 1, 1280, .inl g_units)), (ga_lengths, .inl (cA 1, 32, .inl g_lengths)), (ga_offsets, .inl (cA 1, 32, .inl g_offsets))] t.heap) (z_A [(w, .inr (4, [.ref wa_queue, .ref wa_heap, .ref wa_reached, .int (z_i w_heapSize)])), (wa_queue, .inl (cA 1, 1280, .inl w_queue)), (wa_heap, .inl (cA 2, 1280, .inr (.inl w_heap))), (wa_reached, .inl (cA 0, 1280, .inl w_reached)), (g, .inr (1, [.ref ga_units, .ref ga_lengths, .ref ga_offsets, .int (z_i g_step)])), (ga_units, .inl (cA 1, 1280, .inl g_units)), (ga_lengths, .inl (cA 1, 32, .inl g_lengths)), (ga_offsets, .inl (cA 1, 32, .inl g_offsets))])) 0 0 (z_A [(w, .inr (4, [.ref wa_queue, .ref wa_heap, .ref wa_reached, .int (z_i w_heapSize)])), (wa_queue, .inl (cA 1, 1280, .inl w_queue)), (wa_heap, .inl (cA 2, 1280, .inr (.inl w_heap))), (wa_reached, .inl (cA 0, 1280, .inl w_reached)), (g, .inr (1, [.ref ga_units, .ref ga_lengths, .ref ga_offsets, .int (z_i g_step)])), (ga_units, .inl (cA 1, 1280, .inl g_units)), (ga_lengths, .inl (cA 1, 32, .inl g_lengths)), (ga_offsets, .inl (cA 1, 32, .inl g_offsets))]) := by
  refine wk_X6_flood l D cA t1 t2 w wa_queue w_queue wa_heap w_heap wa_reached w_reached w_heapSize g ga_units g_units ga_lengths g_lengths ga_offsets g_offsets g_step start sg h_w_heapSize h_g_step h_start h_sg (fun (r : Int) (w_heap' : (Nat → Int64)) (w_reached' : (Nat → Int32)) (w_heapSize' : Int) => w_ans sg (g_th g_units) (g_at g_units) start r) ?_
  unfold vc_X6_flood
  have hth := g_th_in hp3
  have hU : ∀ p, g_th g_units p = true → -8388608 ≤ sg * g_at g_units p ∧ sg * g_at g_units p ≤ 8388608 := fun p h => by
    have := g_ok_at hp2 h
    rcases hp1 with rfl | rfl <;> omega
  refine ⟨Or.inl rfl, ?_⟩
  intro c2 hc2
  refine ⟨⟨⟨by omega, by omega⟩, fun i a b => absurd b (by omega), fun i j a b => absurd b (by omega)⟩, hp1, ⟨by omega, by omega⟩, hp2, fun _ => hp3, fun _ _ => ⟨by decide, fun ⟨i, a, b, _⟩ => by omega⟩, ?_⟩
  rintro c9 c10 c11 h11 ⟨-, q⟩
  obtain ⟨rfl, rfl, q1, q2⟩ := q ⟨by omega, hc2 _ hth.1 hth.2⟩
  have I0 : fl_I (g_th g_units) (g_at g_units) sg start (w_goal sg (g_th g_units) (g_at g_units) start) (-1) 0 0 (-8388608) 1 c9 (z_s c2 start 1) := fl_init hU hp3 hth.1 hth.2 hc2 q1 (fun x => (q2 x).trans ⟨fun h => h.elim (fun ⟨i, a, b, _⟩ => by omega) id, Or.inr⟩)
  intro L hL
  suffices H : ∀ (d : Nat) (turn worst k : Int) (h : Nat → Int64) (rc : Nat → Int32), d ≤ 1280 → turn = 1280 - (d : Int) → fl_I (g_th g_units) (g_at g_units) sg start (w_goal sg (g_th g_units) (g_at g_units) start) (-1) 0 turn worst k h rc → L turn worst k h rc from H 1280 0 _ _ _ _ (Nat.le_refl _) rfl I0
  intro d
  induction d with
  | zero =>
    intro turn worst k h rc hd ht I
    have hk := I.1.1
    have hw := I.2.2.2.2.2.2.2.2
    exact hL _ _ _ _ _ ⟨by omega, by omega⟩ ⟨by omega, by omega⟩ ⟨by omega, by omega⟩ ⟨fun _ => Or.inr ⟨fl_none I (fl_turns I (by omega)), rfl⟩, fun h => absurd h (by omega)⟩
  | succ d ih =>
    intro turn worst k h rc hd ht I
    have hk := I.1.1
    have hw := I.2.2.2.2.2.2.2.2
    refine hL _ _ _ _ _ ⟨by omega, by omega⟩ ⟨by omega, by omega⟩ ⟨by omega, by omega⟩ ⟨fun h => absurd h (by omega), fun _ => ⟨fun hk0 => Or.inr ⟨fl_none I hk0, rfl⟩, fun hk0 => ⟨I.1, by omega, ?_, ?_⟩⟩⟩
    · obtain ⟨y, hy, ey⟩ := I.2.1 (z_gl h 0) ⟨0, by omega, by omega, rfl⟩
      have := hU y (I.2.2.1 y hy)
      have := hy.1
      have := hy.2.1
      rw [ey]
      unfold w_key
      exact ⟨by omega, by omega⟩
    rintro r15 c16 c17 hr15 hc17 ⟨rfl, rfl, s1, s2⟩
    obtain ⟨p1, p2, p3⟩ := fl_pop hU I (by omega) s1 s2
    have hb := hU _ (I.2.2.1 _ p1)
    generalize z_gl h 0 % 1280 = z at *
    rintro r18 h18 rfl
    refine ⟨⟨by omega, by omega⟩, ?_⟩
    rintro v19 rfl
    intro J72 hJ
    suffices HJ : J72 (max worst (sg * g_at g_units z)) from ⟨fun q => by rw [Int.max_eq_left q] at HJ; exact HJ, fun q => by rw [Int.max_eq_right (by omega)] at HJ; exact HJ⟩
    refine hJ _ ⟨by omega, by omega⟩ ?_
    intro J105 hJ2
    have ret : w_goal sg (g_th g_units) (g_at g_units) start z → z_in (sg * max worst (sg * g_at g_units z)) ∧ w_ans sg (g_th g_units) (g_at g_units) start (sg * max worst (sg * g_at g_units z)) := fun hG => by
      refine ⟨?_, Or.inl ⟨_, p3 hG, rfl⟩⟩
      generalize hm : max worst (sg * g_at g_units z) = mm
      have : -8388608 ≤ mm ∧ mm ≤ 8388608 := by omega
      rcases hp1 with rfl | rfl
      · exact ⟨by omega, by omega⟩
      · exact ⟨by omega, by omega⟩
    have inner : ¬ w_goal sg (g_th g_units) (g_at g_units) start z → J105 := fun hG => hJ2 (by
      intro L2 hL2
      obtain ⟨z1, z2⟩ := p2 hG
      suffices H2 : ∀ (d2 : Nat) (j k2 : Int) (h2 : Nat → Int64) (rc2 : Nat → Int32), d2 ≤ 8 → j = 8 - (d2 : Int) → fl_P rc2 h2 k2 sg (g_at g_units) z → fl_I (g_th g_units) (g_at g_units) sg start (w_goal sg (g_th g_units) (g_at g_units) start) z j (turn + 1) (max worst (sg * g_at g_units z)) k2 h2 rc2 → L2 j k2 h2 rc2 from H2 8 0 _ _ _ (Nat.le_refl _) rfl z1 z2
      intro d2
      induction d2 with
      | zero =>
        intro j k2 h2 rc2 a b z3 I2
        have hk2 := I2.1.1
        have e8 : j = 8 := by omega
        subst e8
        exact hL2 _ _ _ _ ⟨by omega, by omega⟩ ⟨by omega, by omega⟩ ⟨fun _ => ih _ _ _ _ _ (by omega) (by omega) (fl_closed I2), fun h => absurd h (by omega)⟩
      | succ d2 ih2 =>
        intro j k2 h2 rc2 a b z3 I2
        have hk2 := I2.1.1
        refine hL2 _ _ _ _ ⟨by omega, by omega⟩ ⟨by omega, by omega⟩ ⟨fun h => absurd h (by omega), fun hj => ⟨⟨p1.1, p1.2.1⟩, ⟨by omega, hj⟩, ?_⟩⟩
        rintro r24 h24 rfl
        have hmi := m_nb_in (g_th g_units) z j
        refine ⟨I2.1, hp1, hmi, hp2, fun q => (m_nb_th q).1, fun q q2 => fl_room I2 (m_nb_th q).2.1 (m_nb_th q).2.2 (fun R => R.2.2 q2), ?_⟩
        rintro c31 c32 c33 h33 ⟨e1, e2⟩
        by_cases hn : m_nb (g_th g_units) z j = -1 ∨ z_g rc2 (m_nb (g_th g_units) z j) ≠ 0
        · obtain ⟨rfl, rfl, rfl⟩ := e1 hn
          refine ih2 _ _ _ _ (by omega) (by omega) z3 (fl_skip (by omega) I2 ?_)
          rcases hn with hn | hn
          · exact Or.inl hn
          · by_cases hn1 : m_nb (g_th g_units) z j = -1
            · exact Or.inl hn1
            · exact Or.inr ⟨(m_nb_th hn1).2.1, (m_nb_th hn1).2.2, hn⟩
        · have hn1 : m_nb (g_th g_units) z j ≠ -1 := fun q => hn (Or.inl q)
          have hn2 : z_g rc2 (m_nb (g_th g_units) z j) = 0 := Classical.byContradiction fun q => hn (Or.inr q)
          obtain ⟨rfl, rfl, t1, t2⟩ := e2 ⟨hn1, hn2⟩
          have := fl_push z3 (by omega) hj I2 hn1 hn2 t1 t2
          exact ih2 _ _ _ _ (by omega) (by omega) this.1 this.2)
    refine ⟨fun hsg => ?_, fun hsg => ⟨⟨p1.1, p1.2.1⟩, ?_⟩⟩
    · rintro r34 h34 rfl
      refine ⟨fun q => inner ?_, fun q => ret (Or.inr ⟨hsg, ?_⟩)⟩
      · rintro (⟨a, b⟩ | ⟨a, b⟩)
        · omega
        · rw [b] at q; exact absurd q (by decide)
      · cases hc : m_ab (g_at g_units) z start
        · rw [hc] at q; exact absurd rfl q
        · rfl
    · rintro r37 h37 rfl
      refine ⟨fun q => inner ?_, fun q => ret (Or.inl ⟨hsg, ?_⟩)⟩
      · rintro (⟨a, b⟩ | ⟨a, b⟩)
        · rw [decide_eq_true b] at q; exact absurd q (by decide)
        · omega
      · refine Classical.byContradiction fun hc => q ?_
        rw [decide_eq_false hc]
        rfl
def vc_X6_filled (g_units : Nat → Int32) (n : Int) (Q : Int → (Nat → Int64) → (Nat → Int32) → Int → Prop) : Prop :=
((1 : Int) = 1 ∨ (1 : Int) = -1) ∧ (g_ok g_units) ∧ (g_th g_units n = true) ∧ (∀ (r4 : Int) (c5 : Nat → Int64) (c6 : Nat → Int32) (c7 : Int), z_in r4 → z_in c7 → (w_ans (1 : Int) (g_th g_units) (g_at g_units) n r4) → Q r4 c5 c6 c7)
set_option maxHeartbeats 4000000 in
set_option maxRecDepth 100000 in
theorem wk_X6_filled (l : Launch) (D : va_G) (cA : Nat → ClassId) (t1 t2 : Nat) (w : Nat) (wa_queue : Nat) (w_queue : Nat → Int32) (wa_heap : Nat) (w_heap : Nat → Int64) (wa_reached : Nat) (w_reached : Nat → Int32) (w_heapSize : Int) (g : Nat) (ga_units : Nat) (g_units : Nat → Int32) (ga_lengths : Nat) (g_lengths : Nat → Int32) (ga_offsets : Nat) (g_offsets : Nat → Int32) (g_step : Int) (n : Int) (h_w_heapSize : z_in w_heapSize) (h_g_step : z_in g_step) (h_n : z_in n) (Q : Int → (Nat → Int64) → (Nat → Int32) → Int → Prop) (hv : vc_X6_filled g_units n Q) : Met l yX6_filled wsX6_filled ({ frames := 6, cells := 0, slots := 0, locals := 138 } : Room) (va_Pc [.ref w, .ref g, .int (z_i n)] (z_M1 D cA t1 t2 [(w, .inr (4, [.ref wa_queue, .ref wa_heap, .ref wa_reached, .int (z_i w_heapSize)])), (wa_queue, .inl (cA 1, 1280, .inl w_queue)), (wa_heap, .inl (cA 2, 1280, .inr (.inl w_heap))), (wa_reached, .inl (cA 0, 1280, .inl w_reached)), (g, .inr (1, [.ref ga_units, .ref ga_lengths, .ref ga_offsets, .int (z_i g_step)])), (ga_units, .inl (cA 1, 1280, .inl g_units)), (ga_lengths, .inl (cA 1, 32, .inl g_lengths)), (ga_offsets, .inl (cA 1, 32, .inl g_offsets))])) (va_Qi (z_mi (fun v (u : (Nat → Int64) × (Nat → Int32) × Int) => z_in u.2.2 ∧ Q v u.1 u.2.1 u.2.2)) (fun (u : (Nat → Int64) × (Nat → Int32) × Int) t => va_P D vwCl [(w, .inr (4, [.ref wa_queue, .ref wa_heap, .ref wa_reached, .int (z_i u.2.2)])), (wa_queue, .inl (cA 1, 1280, .inl w_queue)), (wa_heap, .inl (cA 2, 1280, .inr (.inl u.1))), (wa_reached, .inl (cA 0, 1280, .inl u.2.1)), (g, .inr (1, [.ref ga_units, .ref ga_lengths, .ref ga_offsets, .int (z_i g_step)])), (ga_units, .inl (cA 1, 1280, .inl g_units)), (ga_lengths, .inl (cA 1, 32, .inl g_lengths)), (ga_offsets, .inl (cA 1, 32, .inl g_offsets))] t.heap) (z_A [(w, .inr (4, [.ref wa_queue, .ref wa_heap, .ref wa_reached, .int (z_i w_heapSize)])), (wa_queue, .inl (cA 1, 1280, .inl w_queue)), (wa_heap, .inl (cA 2, 1280, .inr (.inl w_heap))), (wa_reached, .inl (cA 0, 1280, .inl w_reached)), (g, .inr (1, [.ref ga_units, .ref ga_lengths, .ref ga_offsets, .int (z_i g_step)])), (ga_units, .inl (cA 1, 1280, .inl g_units)), (ga_lengths, .inl (cA 1, 32, .inl g_lengths)), (ga_offsets, .inl (cA 1, 32, .inl g_offsets))])) 0 0 (z_A [(w, .inr (4, [.ref wa_queue, .ref wa_heap, .ref wa_reached, .int (z_i w_heapSize)])), (wa_queue, .inl (cA 1, 1280, .inl w_queue)), (wa_heap, .inl (cA 2, 1280, .inr (.inl w_heap))), (wa_reached, .inl (cA 0, 1280, .inl w_reached)), (g, .inr (1, [.ref ga_units, .ref ga_lengths, .ref ga_offsets, .int (z_i g_step)])), (ga_units, .inl (cA 1, 1280, .inl g_units)), (ga_lengths, .inl (cA 1, 32, .inl g_lengths)), (ga_offsets, .inl (cA 1, 32, .inl g_offsets))]) := by
  unfold vc_X6_filled at hv
  refine Met.ofW (cc := cX6_filled) (maxL := 3) (ret := (some .int)) (by decide +kernel) rfl ?_
  intro p e s m args below meth c s₁ B hml hv0
  obtain ⟨rfl, ⟨hK, hP, hD0⟩, hST⟩ := hv0
  have hx := B.exec
  have hb := B.bytes
  have hr := B.returns
  have hts := atoms_spec (ws := wsX6_filled) B.pre
  have hown : s.vm.findClass RX6 = some m.cls := findClass_of_methodNamed B.named
  have hlocks := B.notSynchronized
  have hD := z_D_self hD0
  generalize hAe : z_A [(w, .inr (4, [.ref wa_queue, .ref wa_heap, .ref wa_reached, .int (z_i w_heapSize)])), (wa_queue, .inl (cA 1, 1280, .inl w_queue)), (wa_heap, .inl (cA 2, 1280, .inr (.inl w_heap))), (wa_reached, .inl (cA 0, 1280, .inl w_reached)), (g, .inr (1, [.ref ga_units, .ref ga_lengths, .ref ga_offsets, .int (z_i g_step)])), (ga_units, .inl (cA 1, 1280, .inl g_units)), (ga_lengths, .inl (cA 1, 32, .inl g_lengths)), (ga_offsets, .inl (cA 1, 32, .inl g_offsets))] = A at *
  have hS : va_S A s.heap s.heap [] := va_S.rf
  have hl := lv_entry ([.ref w, .ref g, .int (z_i n)]) (n := 3) (Nat.le_of_ble_eq_true rfl)
  rw [lg_entry_eq]
  generalize (lg_sl ([.ref w, .ref g, .int (z_i n)]) ++ List.replicate (3 - (lg_sl ([.ref w, .ref g, .int (z_i n)])).length) Slot.unset).toArray = ls at hl ⊢
  have hl : lv_has ls 3 [(0, .ref w), (1, .ref g), (2, .int (z_i n))] := hl
  refine lv_aload_n hx hb dX6_filled_0 rfl (lv_at hl 0 rfl) ?_
  refine lv_aload_n hx hb dX6_filled_1 rfl (lv_at hl 1 rfl) ?_
  refine lv_iload_n hx hb dX6_filled_2 rfl (lv_at hl 2 rfl) ?_
  refine lv_iconst (v := z_i 1) hx hb dX6_filled_3 rfl ?_
  obtain ⟨hp1, hv⟩ := hv
  obtain ⟨hp2, hv⟩ := hv
  obtain ⟨hp3, hv⟩ := hv
  have hFc := z_fr (A := A) (wc := [(w, .inr (4, [.ref wa_queue, .ref wa_heap, .ref wa_reached, .int (z_i w_heapSize)])), (wa_queue, .inl (cA 1, 1280, .inl w_queue)), (wa_heap, .inl (cA 2, 1280, .inr (.inl w_heap))), (wa_reached, .inl (cA 0, 1280, .inl w_reached)), (g, .inr (1, [.ref ga_units, .ref ga_lengths, .ref ga_offsets, .int (z_i g_step)])), (ga_units, .inl (cA 1, 1280, .inl g_units)), (ga_lengths, .inl (cA 1, 32, .inl g_lengths)), (ga_offsets, .inl (cA 1, 32, .inl g_offsets))]) hD [0, 1, 2, 3, 4, 5, 6, 7] rfl
  refine va_calli (va_runV (As := [.ref g, .int (z_i n), .int (z_i 1)]) (rest := []) ⟨hx, hb, hml, hown, hts⟩ (mt_X6_flood l D cA t1 t2 w wa_queue w_queue wa_heap w_heap wa_reached w_reached w_heapSize g ga_units g_units ga_lengths g_lengths ga_offsets g_offsets g_step n 1 h_w_heapSize h_g_step h_n (show z_in 1 from ⟨by decide, by decide⟩) hp1 hp2 hp3) (cwV 3 hts gX6_filled_X6_flood rfl rfl rfl (by decide +kernel) ⟨Nat.le_of_ble_eq_true rfl, Nat.le_of_ble_eq_true rfl⟩) ⟨z_blm1, va_recv hK hP (ci := 4) (q0 := 0) rfl rfl, fun U hU hW => ⟨rfl, z_m1 hK hP hD (hST.at hS hFc) hU hW⟩⟩ rfl rfl hl.1 rfl (lv_room (Nat.le_of_ble_eq_true rfl)) dX6_filled_4 ⟨Nat.zero_le _, Nat.zero_le _⟩) hS (fun q _ h => hFc q h) hFc (fun r0 u t H locs ht hvm hw hB hz1 hk1 hS => ?_)
  obtain ⟨r4, rfl, h_r4, hw⟩ := hw
  obtain ⟨c5, c6, c7⟩ := u
  rw [ht] at hB
  have hP := hB
  have hP : va_P D vwCl [(w, .inr (4, [.ref wa_queue, .ref wa_heap, .ref wa_reached, .int (z_i c7)])), (wa_queue, .inl (cA 1, 1280, .inl w_queue)), (wa_heap, .inl (cA 2, 1280, .inr (.inl c5))), (wa_reached, .inl (cA 0, 1280, .inl c6)), (g, .inr (1, [.ref ga_units, .ref ga_lengths, .ref ga_offsets, .int (z_i g_step)])), (ga_units, .inl (cA 1, 1280, .inl g_units)), (ga_lengths, .inl (cA 1, 32, .inl g_lengths)), (ga_offsets, .inl (cA 1, 32, .inl g_offsets))] H := hP
  have hD : va_D A [(w, .inr (4, [.ref wa_queue, .ref wa_heap, .ref wa_reached, .int (z_i c7)])), (wa_queue, .inl (cA 1, 1280, .inl w_queue)), (wa_heap, .inl (cA 2, 1280, .inr (.inl c5))), (wa_reached, .inl (cA 0, 1280, .inl c6)), (g, .inr (1, [.ref ga_units, .ref ga_lengths, .ref ga_offsets, .int (z_i g_step)])), (ga_units, .inl (cA 1, 1280, .inl g_units)), (ga_lengths, .inl (cA 1, 32, .inl g_lengths)), (ga_offsets, .inl (cA 1, 32, .inl g_offsets))] := z_D_addr hD rfl
  obtain ⟨h_c7, hw⟩ := hw
  have hv := hv r4 c5 c6 c7 h_r4 h_c7 hw
  exact W.iret (v := z_i r4) hx hb hr (fun t ht hW => ⟨⟨z_i r4, (c5, c6, c7), rfl, ⟨r4, rfl, h_r4, h_c7, hv⟩, z_pt hP ht⟩, hS.F ht⟩) hS.2.2 dX6_filled_7
set_option maxHeartbeats 4000000 in
set_option maxRecDepth 100000 in
theorem mt_X6_filled (l : Launch) (D : va_G) (cA : Nat → ClassId) (t1 t2 : Nat) (w : Nat) (wa_queue : Nat) (w_queue : Nat → Int32) (wa_heap : Nat) (w_heap : Nat → Int64) (wa_reached : Nat) (w_reached : Nat → Int32) (w_heapSize : Int) (g : Nat) (ga_units : Nat) (g_units : Nat → Int32) (ga_lengths : Nat) (g_lengths : Nat → Int32) (ga_offsets : Nat) (g_offsets : Nat → Int32) (g_step : Int) (n : Int) (h_w_heapSize : z_in w_heapSize) (h_g_step : z_in g_step) (h_n : z_in n) (hp1 : g_ok g_units) (hp2 : g_th g_units n = true) : Met l yX6_filled wsX6_filled ({ frames := 6, cells := 0, slots := 0, locals := 138 } : Room) (va_Pc [.ref w, .ref g, .int (z_i n)] (z_M1 D cA t1 t2 [(w, .inr (4, [.ref wa_queue, .ref wa_heap, .ref wa_reached, .int (z_i w_heapSize)])), (wa_queue, .inl (cA 1, 1280, .inl w_queue)), (wa_heap, .inl (cA 2, 1280, .inr (.inl w_heap))), (wa_reached, .inl (cA 0, 1280, .inl w_reached)), (g, .inr (1, [.ref ga_units, .ref ga_lengths, .ref ga_offsets, .int (z_i g_step)])), (ga_units, .inl (cA 1, 1280, .inl g_units)), (ga_lengths, .inl (cA 1, 32, .inl g_lengths)), (ga_offsets, .inl (cA 1, 32, .inl g_offsets))])) (va_Qi (z_mi (fun v (u : (Nat → Int64) × (Nat → Int32) × Int) => z_in u.2.2 ∧ (fun (r : Int) (w_heap' : (Nat → Int64)) (w_reached' : (Nat → Int32)) (w_heapSize' : Int) => w_ans 1 (g_th g_units) (g_at g_units) n r) v u.1 u.2.1 u.2.2)) (fun (u : (Nat → Int64) × (Nat → Int32) × Int) t => va_P D vwCl [(w, .inr (4, [.ref wa_queue, .ref wa_heap, .ref wa_reached, .int (z_i u.2.2)])), (wa_queue, .inl (cA 1, 1280, .inl w_queue)), (wa_heap, .inl (cA 2, 1280, .inr (.inl u.1))), (wa_reached, .inl (cA 0, 1280, .inl u.2.1)), (g, .inr (1, [.ref ga_units, .ref ga_lengths, .ref ga_offsets, .int (z_i g_step)])), (ga_units, .inl (cA 1, 1280, .inl g_units)), (ga_lengths, .inl (cA 1, 32, .inl g_lengths)), (ga_offsets, .inl (cA 1, 32, .inl g_offsets))] t.heap) (z_A [(w, .inr (4, [.ref wa_queue, .ref wa_heap, .ref wa_reached, .int (z_i w_heapSize)])), (wa_queue, .inl (cA 1, 1280, .inl w_queue)), (wa_heap, .inl (cA 2, 1280, .inr (.inl w_heap))), (wa_reached, .inl (cA 0, 1280, .inl w_reached)), (g, .inr (1, [.ref ga_units, .ref ga_lengths, .ref ga_offsets, .int (z_i g_step)])), (ga_units, .inl (cA 1, 1280, .inl g_units)), (ga_lengths, .inl (cA 1, 32, .inl g_lengths)), (ga_offsets, .inl (cA 1, 32, .inl g_offsets))])) 0 0 (z_A [(w, .inr (4, [.ref wa_queue, .ref wa_heap, .ref wa_reached, .int (z_i w_heapSize)])), (wa_queue, .inl (cA 1, 1280, .inl w_queue)), (wa_heap, .inl (cA 2, 1280, .inr (.inl w_heap))), (wa_reached, .inl (cA 0, 1280, .inl w_reached)), (g, .inr (1, [.ref ga_units, .ref ga_lengths, .ref ga_offsets, .int (z_i g_step)])), (ga_units, .inl (cA 1, 1280, .inl g_units)), (ga_lengths, .inl (cA 1, 32, .inl g_lengths)), (ga_offsets, .inl (cA 1, 32, .inl g_offsets))]) := by
  refine wk_X6_filled l D cA t1 t2 w wa_queue w_queue wa_heap w_heap wa_reached w_reached w_heapSize g ga_units g_units ga_lengths g_lengths ga_offsets g_offsets g_step n h_w_heapSize h_g_step h_n (fun (r : Int) (w_heap' : (Nat → Int64)) (w_reached' : (Nat → Int32)) (w_heapSize' : Int) => w_ans 1 (g_th g_units) (g_at g_units) n r) ?_
  unfold vc_X6_filled
  refine ⟨Or.inl rfl, hp1, hp2, ?_⟩
  intro r c1 c2 c3 hr hc hw
  exact hw
def vc_X6_saddle (g_units : Nat → Int32) (n : Int) (Q : Int → (Nat → Int64) → (Nat → Int32) → Int → Prop) : Prop :=
((-1 : Int) = 1 ∨ (-1 : Int) = -1) ∧ (g_ok g_units) ∧ (g_th g_units n = true) ∧ (∀ (r4 : Int) (c5 : Nat → Int64) (c6 : Nat → Int32) (c7 : Int), z_in r4 → z_in c7 → (w_ans (-1 : Int) (g_th g_units) (g_at g_units) n r4) → Q r4 c5 c6 c7)
set_option maxHeartbeats 4000000 in
set_option maxRecDepth 100000 in
theorem wk_X6_saddle (l : Launch) (D : va_G) (cA : Nat → ClassId) (t1 t2 : Nat) (w : Nat) (wa_queue : Nat) (w_queue : Nat → Int32) (wa_heap : Nat) (w_heap : Nat → Int64) (wa_reached : Nat) (w_reached : Nat → Int32) (w_heapSize : Int) (g : Nat) (ga_units : Nat) (g_units : Nat → Int32) (ga_lengths : Nat) (g_lengths : Nat → Int32) (ga_offsets : Nat) (g_offsets : Nat → Int32) (g_step : Int) (n : Int) (h_w_heapSize : z_in w_heapSize) (h_g_step : z_in g_step) (h_n : z_in n) (Q : Int → (Nat → Int64) → (Nat → Int32) → Int → Prop) (hv : vc_X6_saddle g_units n Q) : Met l yX6_saddle wsX6_saddle ({ frames := 6, cells := 0, slots := 0, locals := 138 } : Room) (va_Pc [.ref w, .ref g, .int (z_i n)] (z_M1 D cA t1 t2 [(w, .inr (4, [.ref wa_queue, .ref wa_heap, .ref wa_reached, .int (z_i w_heapSize)])), (wa_queue, .inl (cA 1, 1280, .inl w_queue)), (wa_heap, .inl (cA 2, 1280, .inr (.inl w_heap))), (wa_reached, .inl (cA 0, 1280, .inl w_reached)), (g, .inr (1, [.ref ga_units, .ref ga_lengths, .ref ga_offsets, .int (z_i g_step)])), (ga_units, .inl (cA 1, 1280, .inl g_units)), (ga_lengths, .inl (cA 1, 32, .inl g_lengths)), (ga_offsets, .inl (cA 1, 32, .inl g_offsets))])) (va_Qi (z_mi (fun v (u : (Nat → Int64) × (Nat → Int32) × Int) => z_in u.2.2 ∧ Q v u.1 u.2.1 u.2.2)) (fun (u : (Nat → Int64) × (Nat → Int32) × Int) t => va_P D vwCl [(w, .inr (4, [.ref wa_queue, .ref wa_heap, .ref wa_reached, .int (z_i u.2.2)])), (wa_queue, .inl (cA 1, 1280, .inl w_queue)), (wa_heap, .inl (cA 2, 1280, .inr (.inl u.1))), (wa_reached, .inl (cA 0, 1280, .inl u.2.1)), (g, .inr (1, [.ref ga_units, .ref ga_lengths, .ref ga_offsets, .int (z_i g_step)])), (ga_units, .inl (cA 1, 1280, .inl g_units)), (ga_lengths, .inl (cA 1, 32, .inl g_lengths)), (ga_offsets, .inl (cA 1, 32, .inl g_offsets))] t.heap) (z_A [(w, .inr (4, [.ref wa_queue, .ref wa_heap, .ref wa_reached, .int (z_i w_heapSize)])), (wa_queue, .inl (cA 1, 1280, .inl w_queue)), (wa_heap, .inl (cA 2, 1280, .inr (.inl w_heap))), (wa_reached, .inl (cA 0, 1280, .inl w_reached)), (g, .inr (1, [.ref ga_units, .ref ga_lengths, .ref ga_offsets, .int (z_i g_step)])), (ga_units, .inl (cA 1, 1280, .inl g_units)), (ga_lengths, .inl (cA 1, 32, .inl g_lengths)), (ga_offsets, .inl (cA 1, 32, .inl g_offsets))])) 0 0 (z_A [(w, .inr (4, [.ref wa_queue, .ref wa_heap, .ref wa_reached, .int (z_i w_heapSize)])), (wa_queue, .inl (cA 1, 1280, .inl w_queue)), (wa_heap, .inl (cA 2, 1280, .inr (.inl w_heap))), (wa_reached, .inl (cA 0, 1280, .inl w_reached)), (g, .inr (1, [.ref ga_units, .ref ga_lengths, .ref ga_offsets, .int (z_i g_step)])), (ga_units, .inl (cA 1, 1280, .inl g_units)), (ga_lengths, .inl (cA 1, 32, .inl g_lengths)), (ga_offsets, .inl (cA 1, 32, .inl g_offsets))]) := by
  unfold vc_X6_saddle at hv
  refine Met.ofW (cc := cX6_saddle) (maxL := 3) (ret := (some .int)) (by decide +kernel) rfl ?_
  intro p e s m args below meth c s₁ B hml hv0
  obtain ⟨rfl, ⟨hK, hP, hD0⟩, hST⟩ := hv0
  have hx := B.exec
  have hb := B.bytes
  have hr := B.returns
  have hts := atoms_spec (ws := wsX6_saddle) B.pre
  have hown : s.vm.findClass RX6 = some m.cls := findClass_of_methodNamed B.named
  have hlocks := B.notSynchronized
  have hD := z_D_self hD0
  generalize hAe : z_A [(w, .inr (4, [.ref wa_queue, .ref wa_heap, .ref wa_reached, .int (z_i w_heapSize)])), (wa_queue, .inl (cA 1, 1280, .inl w_queue)), (wa_heap, .inl (cA 2, 1280, .inr (.inl w_heap))), (wa_reached, .inl (cA 0, 1280, .inl w_reached)), (g, .inr (1, [.ref ga_units, .ref ga_lengths, .ref ga_offsets, .int (z_i g_step)])), (ga_units, .inl (cA 1, 1280, .inl g_units)), (ga_lengths, .inl (cA 1, 32, .inl g_lengths)), (ga_offsets, .inl (cA 1, 32, .inl g_offsets))] = A at *
  have hS : va_S A s.heap s.heap [] := va_S.rf
  have hl := lv_entry ([.ref w, .ref g, .int (z_i n)]) (n := 3) (Nat.le_of_ble_eq_true rfl)
  rw [lg_entry_eq]
  generalize (lg_sl ([.ref w, .ref g, .int (z_i n)]) ++ List.replicate (3 - (lg_sl ([.ref w, .ref g, .int (z_i n)])).length) Slot.unset).toArray = ls at hl ⊢
  have hl : lv_has ls 3 [(0, .ref w), (1, .ref g), (2, .int (z_i n))] := hl
  refine lv_aload_n hx hb dX6_saddle_0 rfl (lv_at hl 0 rfl) ?_
  refine lv_aload_n hx hb dX6_saddle_1 rfl (lv_at hl 1 rfl) ?_
  refine lv_iload_n hx hb dX6_saddle_2 rfl (lv_at hl 2 rfl) ?_
  refine lv_iconst (v := z_i (-1)) hx hb dX6_saddle_3 rfl ?_
  obtain ⟨hp1, hv⟩ := hv
  obtain ⟨hp2, hv⟩ := hv
  obtain ⟨hp3, hv⟩ := hv
  have hFc := z_fr (A := A) (wc := [(w, .inr (4, [.ref wa_queue, .ref wa_heap, .ref wa_reached, .int (z_i w_heapSize)])), (wa_queue, .inl (cA 1, 1280, .inl w_queue)), (wa_heap, .inl (cA 2, 1280, .inr (.inl w_heap))), (wa_reached, .inl (cA 0, 1280, .inl w_reached)), (g, .inr (1, [.ref ga_units, .ref ga_lengths, .ref ga_offsets, .int (z_i g_step)])), (ga_units, .inl (cA 1, 1280, .inl g_units)), (ga_lengths, .inl (cA 1, 32, .inl g_lengths)), (ga_offsets, .inl (cA 1, 32, .inl g_offsets))]) hD [0, 1, 2, 3, 4, 5, 6, 7] rfl
  refine va_calli (va_runV (As := [.ref g, .int (z_i n), .int (z_i (-1))]) (rest := []) ⟨hx, hb, hml, hown, hts⟩ (mt_X6_flood l D cA t1 t2 w wa_queue w_queue wa_heap w_heap wa_reached w_reached w_heapSize g ga_units g_units ga_lengths g_lengths ga_offsets g_offsets g_step n (-1) h_w_heapSize h_g_step h_n (show z_in (-1) from ⟨by decide, by decide⟩) hp1 hp2 hp3) (cwV 3 hts gX6_saddle_X6_flood rfl rfl rfl (by decide +kernel) ⟨Nat.le_of_ble_eq_true rfl, Nat.le_of_ble_eq_true rfl⟩) ⟨z_blm1, va_recv hK hP (ci := 4) (q0 := 0) rfl rfl, fun U hU hW => ⟨rfl, z_m1 hK hP hD (hST.at hS hFc) hU hW⟩⟩ rfl rfl hl.1 rfl (lv_room (Nat.le_of_ble_eq_true rfl)) dX6_saddle_4 ⟨Nat.zero_le _, Nat.zero_le _⟩) hS (fun q _ h => hFc q h) hFc (fun r0 u t H locs ht hvm hw hB hz1 hk1 hS => ?_)
  obtain ⟨r4, rfl, h_r4, hw⟩ := hw
  obtain ⟨c5, c6, c7⟩ := u
  rw [ht] at hB
  have hP := hB
  have hP : va_P D vwCl [(w, .inr (4, [.ref wa_queue, .ref wa_heap, .ref wa_reached, .int (z_i c7)])), (wa_queue, .inl (cA 1, 1280, .inl w_queue)), (wa_heap, .inl (cA 2, 1280, .inr (.inl c5))), (wa_reached, .inl (cA 0, 1280, .inl c6)), (g, .inr (1, [.ref ga_units, .ref ga_lengths, .ref ga_offsets, .int (z_i g_step)])), (ga_units, .inl (cA 1, 1280, .inl g_units)), (ga_lengths, .inl (cA 1, 32, .inl g_lengths)), (ga_offsets, .inl (cA 1, 32, .inl g_offsets))] H := hP
  have hD : va_D A [(w, .inr (4, [.ref wa_queue, .ref wa_heap, .ref wa_reached, .int (z_i c7)])), (wa_queue, .inl (cA 1, 1280, .inl w_queue)), (wa_heap, .inl (cA 2, 1280, .inr (.inl c5))), (wa_reached, .inl (cA 0, 1280, .inl c6)), (g, .inr (1, [.ref ga_units, .ref ga_lengths, .ref ga_offsets, .int (z_i g_step)])), (ga_units, .inl (cA 1, 1280, .inl g_units)), (ga_lengths, .inl (cA 1, 32, .inl g_lengths)), (ga_offsets, .inl (cA 1, 32, .inl g_offsets))] := z_D_addr hD rfl
  obtain ⟨h_c7, hw⟩ := hw
  have hv := hv r4 c5 c6 c7 h_r4 h_c7 hw
  exact W.iret (v := z_i r4) hx hb hr (fun t ht hW => ⟨⟨z_i r4, (c5, c6, c7), rfl, ⟨r4, rfl, h_r4, h_c7, hv⟩, z_pt hP ht⟩, hS.F ht⟩) hS.2.2 dX6_saddle_7
set_option maxHeartbeats 4000000 in
set_option maxRecDepth 100000 in
theorem mt_X6_saddle (l : Launch) (D : va_G) (cA : Nat → ClassId) (t1 t2 : Nat) (w : Nat) (wa_queue : Nat) (w_queue : Nat → Int32) (wa_heap : Nat) (w_heap : Nat → Int64) (wa_reached : Nat) (w_reached : Nat → Int32) (w_heapSize : Int) (g : Nat) (ga_units : Nat) (g_units : Nat → Int32) (ga_lengths : Nat) (g_lengths : Nat → Int32) (ga_offsets : Nat) (g_offsets : Nat → Int32) (g_step : Int) (n : Int) (h_w_heapSize : z_in w_heapSize) (h_g_step : z_in g_step) (h_n : z_in n) (hp1 : g_ok g_units) (hp2 : g_th g_units n = true) : Met l yX6_saddle wsX6_saddle ({ frames := 6, cells := 0, slots := 0, locals := 138 } : Room) (va_Pc [.ref w, .ref g, .int (z_i n)] (z_M1 D cA t1 t2 [(w, .inr (4, [.ref wa_queue, .ref wa_heap, .ref wa_reached, .int (z_i w_heapSize)])), (wa_queue, .inl (cA 1, 1280, .inl w_queue)), (wa_heap, .inl (cA 2, 1280, .inr (.inl w_heap))), (wa_reached, .inl (cA 0, 1280, .inl w_reached)), (g, .inr (1, [.ref ga_units, .ref ga_lengths, .ref ga_offsets, .int (z_i g_step)])), (ga_units, .inl (cA 1, 1280, .inl g_units)), (ga_lengths, .inl (cA 1, 32, .inl g_lengths)), (ga_offsets, .inl (cA 1, 32, .inl g_offsets))])) (va_Qi (z_mi (fun v (u : (Nat → Int64) × (Nat → Int32) × Int) => z_in u.2.2 ∧ (fun (r : Int) (w_heap' : (Nat → Int64)) (w_reached' : (Nat → Int32)) (w_heapSize' : Int) => w_ans (-1) (g_th g_units) (g_at g_units) n r) v u.1 u.2.1 u.2.2)) (fun (u : (Nat → Int64) × (Nat → Int32) × Int) t => va_P D vwCl [(w, .inr (4, [.ref wa_queue, .ref wa_heap, .ref wa_reached, .int (z_i u.2.2)])), (wa_queue, .inl (cA 1, 1280, .inl w_queue)), (wa_heap, .inl (cA 2, 1280, .inr (.inl u.1))), (wa_reached, .inl (cA 0, 1280, .inl u.2.1)), (g, .inr (1, [.ref ga_units, .ref ga_lengths, .ref ga_offsets, .int (z_i g_step)])), (ga_units, .inl (cA 1, 1280, .inl g_units)), (ga_lengths, .inl (cA 1, 32, .inl g_lengths)), (ga_offsets, .inl (cA 1, 32, .inl g_offsets))] t.heap) (z_A [(w, .inr (4, [.ref wa_queue, .ref wa_heap, .ref wa_reached, .int (z_i w_heapSize)])), (wa_queue, .inl (cA 1, 1280, .inl w_queue)), (wa_heap, .inl (cA 2, 1280, .inr (.inl w_heap))), (wa_reached, .inl (cA 0, 1280, .inl w_reached)), (g, .inr (1, [.ref ga_units, .ref ga_lengths, .ref ga_offsets, .int (z_i g_step)])), (ga_units, .inl (cA 1, 1280, .inl g_units)), (ga_lengths, .inl (cA 1, 32, .inl g_lengths)), (ga_offsets, .inl (cA 1, 32, .inl g_offsets))])) 0 0 (z_A [(w, .inr (4, [.ref wa_queue, .ref wa_heap, .ref wa_reached, .int (z_i w_heapSize)])), (wa_queue, .inl (cA 1, 1280, .inl w_queue)), (wa_heap, .inl (cA 2, 1280, .inr (.inl w_heap))), (wa_reached, .inl (cA 0, 1280, .inl w_reached)), (g, .inr (1, [.ref ga_units, .ref ga_lengths, .ref ga_offsets, .int (z_i g_step)])), (ga_units, .inl (cA 1, 1280, .inl g_units)), (ga_lengths, .inl (cA 1, 32, .inl g_lengths)), (ga_offsets, .inl (cA 1, 32, .inl g_offsets))]) := by
  refine wk_X6_saddle l D cA t1 t2 w wa_queue w_queue wa_heap w_heap wa_reached w_reached w_heapSize g ga_units g_units ga_lengths g_lengths ga_offsets g_offsets g_step n h_w_heapSize h_g_step h_n (fun (r : Int) (w_heap' : (Nat → Int64)) (w_reached' : (Nat → Int32)) (w_heapSize' : Int) => w_ans (-1) (g_th g_units) (g_at g_units) n r) ?_
  unfold vc_X6_saddle
  refine ⟨Or.inr rfl, hp1, hp2, ?_⟩
  intro r c1 c2 c3 hr hc hw
  exact hw
