/-! all cells, one behind the other -/
def j_nxK (T : Int → Bool) (U : Int → Int) (lv : Int) (f : Nat → Int32) : Nat → (Nat → Int32)
  | 0 => f
  | n + 1 => if m_wh T n = true then c_nxK (c_mk U lv n 4) (c_rl U lv n) n (j_nxK T U lv f n) 4 else j_nxK T U lv f n
def j_bfK (T : Int → Bool) (U : Int → Int) (lv : Int) (f : Nat → Int32) : Nat → (Nat → Int32)
  | 0 => f
  | n + 1 => if m_wh T n = true then c_bfK (c_mk U lv n 4) (c_rl U lv n) n (j_bfK T U lv f n) 4 else j_bfK T U lv f n
def j_leK (T : Int → Bool) (U : Int → Int) (lv : Int) : Nat → Int
  | 0 => 2560
  | n + 1 => if m_wh T n = true then c_leK (c_mk U lv n 4) n (j_leK T U lv n) 4 else j_leK T U lv n
def j_laK (T : Int → Bool) (U : Int → Int) (lv : Int) : Nat → Int
  | 0 => -1
  | n + 1 => if m_wh T n = true then c_laK (c_mk U lv n 4) n (j_laK T U lv n) 4 else j_laK T U lv n
theorem j_leK_b (T : Int → Bool) (U : Int → Int) (lv : Int) (n : Nat) : 0 ≤ j_leK T U lv n ∧ j_leK T U lv n ≤ 2560 := by
  induction n with
  | zero => exact ⟨show (0 : Int) ≤ 2560 by decide, Int.le_refl _⟩
  | succ n ih =>
    unfold j_leK
    split
    · next h =>
      have := m_wh_spec h
      exact c_leK_b (by omega) (by omega) ih.1 ih.2 4
    · exact ih
theorem j_laK_b (T : Int → Bool) (U : Int → Int) (lv : Int) (n : Nat) : -1 ≤ j_laK T U lv n ∧ j_laK T U lv n < 2560 := by
  induction n with
  | zero => exact ⟨Int.le_refl _, show (-1 : Int) < 2560 by decide⟩
  | succ n ih =>
    unfold j_laK
    split
    · next h =>
      have := m_wh_spec h
      exact c_laK_b (by omega) (by omega) ih.1 ih.2 4
    · exact ih
def j_post (T : Int → Bool) (U : Int → Int) (lv : Int) (nx bf : Nat → Int32) (le la : Int) : Prop := ∃ c1 c2 : Nat → Int32, (∀ q : Int, 0 ≤ q → q < 2560 → z_g c1 q = -1) ∧ (∀ q : Int, 0 ≤ q → q < 2560 → z_g c2 q = -1) ∧ nx = j_nxK T U lv c1 1280 ∧ bf = j_bfK T U lv c2 1280 ∧ le = j_leK T U lv 1280 ∧ la = j_laK T U lv 1280
def vc_X3_join (g_units : Nat → Int32) (level : Int) (Q : (Nat → Int32) → (Nat → Int32) → Int → Int → Prop) : Prop :=
(∀ (c1 : Nat → Int32), (∀ q : Int, 0 ≤ q → q < 2560 → z_g c1 q = (-1 : Int)) → (∀ (c2 : Nat → Int32), (∀ q : Int, 0 ≤ q → q < 2560 → z_g c2 q = (-1 : Int)) → (∀ L30 : Int → Int → Int → (Nat → Int32) → (Nat → Int32) → Prop,
(∀ (x30_3 : Int) (y30_j_least : Int) (y30_j_last : Int) (y30_ja_next : Nat → Int32) (y30_ja_before : Nat → Int32), z_in x30_3 → z_in y30_j_least → z_in y30_j_last → ((x30_3 ≥ 1280 → Q y30_ja_next y30_ja_before y30_j_least y30_j_last) ∧
(x30_3 < 1280 → (0 ≤ x30_3 ∧ x30_3 < 1280) ∧ (∀ (r4 : Int), z_in r4 → (r4 = z_b (m_wh (g_th g_units) x30_3)) → ((r4 = 0 → L30 (x30_3 + 1) y30_j_least y30_j_last y30_ja_next y30_ja_before) ∧
(r4 ≠ 0 → (0 ≤ x30_3 ∧ x30_3 < 1280) ∧ (g_ok g_units) ∧ (m_wh (g_th g_units) x30_3 = true) ∧ (-8388608 ≤ level ∧ level ≤ 8388608) ∧ (∀ (c9 : Nat → Int32) (c10 : Nat → Int32) (c11 : Int) (c12 : Int), z_in c11 → z_in c12 → (c9 = c_nxK (c_mk (g_at g_units) level x30_3 4) (c_rl (g_at g_units) level x30_3) x30_3 y30_ja_next 4 ∧ c10 = c_bfK (c_mk (g_at g_units) level x30_3 4) (c_rl (g_at g_units) level x30_3) x30_3 y30_ja_before 4 ∧ c11 = c_leK (c_mk (g_at g_units) level x30_3 4) x30_3 y30_j_least 4 ∧ c12 = c_laK (c_mk (g_at g_units) level x30_3 4) x30_3 y30_j_last 4) → L30 (x30_3 + 1) c11 c12 c9 c10)))))) → L30 x30_3 y30_j_least y30_j_last y30_ja_next y30_ja_before) →
L30 0 2560 (-1) c1 c2)))
set_option maxHeartbeats 4000000 in
set_option maxRecDepth 100000 in
theorem wk_X3_join (l : Launch) (D : va_G) (cA : Nat → ClassId) (t1 t2 : Nat) (j : Nat) (ja_next : Nat) (j_next : Nat → Int32) (ja_before : Nat) (j_before : Nat → Int32) (j_least : Int) (j_last : Int) (g : Nat) (ga_units : Nat) (g_units : Nat → Int32) (ga_lengths : Nat) (g_lengths : Nat → Int32) (ga_offsets : Nat) (g_offsets : Nat → Int32) (g_step : Int) (level : Int) (h_j_least : z_in j_least) (h_j_last : z_in j_last) (h_g_step : z_in g_step) (h_level : z_in level) (Q : (Nat → Int32) → (Nat → Int32) → Int → Int → Prop) (hv : vc_X3_join g_units level Q) : Met l yX3_join wsX3_join ({ frames := 4, cells := 0, slots := 0, locals := 87 } : Room) (va_Pc [.ref j, .ref g, .int (z_i level)] (z_M1 D cA t1 t2 [(j, .inr (2, [.ref ja_next, .ref ja_before, .int (z_i j_least), .int (z_i j_last)])), (ja_next, .inl (cA 1, 2560, .inl j_next)), (ja_before, .inl (cA 1, 2560, .inl j_before)), (g, .inr (1, [.ref ga_units, .ref ga_lengths, .ref ga_offsets, .int (z_i g_step)])), (ga_units, .inl (cA 1, 1280, .inl g_units)), (ga_lengths, .inl (cA 1, 32, .inl g_lengths)), (ga_offsets, .inl (cA 1, 32, .inl g_offsets))])) (va_Qv (fun (u : (Nat → Int32) × (Nat → Int32) × Int × Int) => z_in u.2.2.1 ∧ z_in u.2.2.2 ∧ Q u.1 u.2.1 u.2.2.1 u.2.2.2) (fun (u : (Nat → Int32) × (Nat → Int32) × Int × Int) t => va_P D vwCl [(j, .inr (2, [.ref ja_next, .ref ja_before, .int (z_i u.2.2.1), .int (z_i u.2.2.2)])), (ja_next, .inl (cA 1, 2560, .inl u.1)), (ja_before, .inl (cA 1, 2560, .inl u.2.1)), (g, .inr (1, [.ref ga_units, .ref ga_lengths, .ref ga_offsets, .int (z_i g_step)])), (ga_units, .inl (cA 1, 1280, .inl g_units)), (ga_lengths, .inl (cA 1, 32, .inl g_lengths)), (ga_offsets, .inl (cA 1, 32, .inl g_offsets))] t.heap) (z_A [(j, .inr (2, [.ref ja_next, .ref ja_before, .int (z_i j_least), .int (z_i j_last)])), (ja_next, .inl (cA 1, 2560, .inl j_next)), (ja_before, .inl (cA 1, 2560, .inl j_before)), (g, .inr (1, [.ref ga_units, .ref ga_lengths, .ref ga_offsets, .int (z_i g_step)])), (ga_units, .inl (cA 1, 1280, .inl g_units)), (ga_lengths, .inl (cA 1, 32, .inl g_lengths)), (ga_offsets, .inl (cA 1, 32, .inl g_offsets))])) 0 0 (z_A [(j, .inr (2, [.ref ja_next, .ref ja_before, .int (z_i j_least), .int (z_i j_last)])), (ja_next, .inl (cA 1, 2560, .inl j_next)), (ja_before, .inl (cA 1, 2560, .inl j_before)), (g, .inr (1, [.ref ga_units, .ref ga_lengths, .ref ga_offsets, .int (z_i g_step)])), (ga_units, .inl (cA 1, 1280, .inl g_units)), (ga_lengths, .inl (cA 1, 32, .inl g_lengths)), (ga_offsets, .inl (cA 1, 32, .inl g_offsets))]) := by
  unfold vc_X3_join at hv
  refine Met.ofW (cc := cX3_join) (maxL := 4) (ret := none) (by decide +kernel) rfl ?_
  intro p e s m args below meth c s₁ B hml hv0
  obtain ⟨rfl, ⟨hK, hP, hD0⟩, hST⟩ := hv0
  have hx := B.exec
  have hb := B.bytes
  have hr := B.returns
  have hts := atoms_spec (ws := wsX3_join) B.pre
  have hown : s.vm.findClass RX3 = some m.cls := findClass_of_methodNamed B.named
  have hlocks := B.notSynchronized
  have hD := z_D_self hD0
  generalize hAe : z_A [(j, .inr (2, [.ref ja_next, .ref ja_before, .int (z_i j_least), .int (z_i j_last)])), (ja_next, .inl (cA 1, 2560, .inl j_next)), (ja_before, .inl (cA 1, 2560, .inl j_before)), (g, .inr (1, [.ref ga_units, .ref ga_lengths, .ref ga_offsets, .int (z_i g_step)])), (ga_units, .inl (cA 1, 1280, .inl g_units)), (ga_lengths, .inl (cA 1, 32, .inl g_lengths)), (ga_offsets, .inl (cA 1, 32, .inl g_offsets))] = A at *
  have hS : va_S A s.heap s.heap [] := va_S.rf
  have hl := lv_entry ([.ref j, .ref g, .int (z_i level)]) (n := 4) (Nat.le_of_ble_eq_true rfl)
  rw [lg_entry_eq]
  generalize (lg_sl ([.ref j, .ref g, .int (z_i level)]) ++ List.replicate (4 - (lg_sl ([.ref j, .ref g, .int (z_i level)])).length) Slot.unset).toArray = ls at hl ⊢
  have hl : lv_has ls 4 [(0, .ref j), (1, .ref g), (2, .int (z_i level))] := hl
  refine lv_aload_n hx hb dX3_join_0 rfl (lv_at hl 0 rfl) ?_
  refine va_get (D := D) (ci := 2) (v := .ref ja_next) (C := RX3) (T := TX3) (N := 4) hx hb hts (fun w h => List.mem_cons_of_mem _ (List.mem_append_left _ (List.mem_append_right _ h))) hown hK hP 0 rfl rfl 0 (by decide) (hts (.fieldLink RX3 9 "ContourSheets$Joins" "next" "[I") (by decide +kernel)) (fun _ h9 => h9) rfl dX3_join_1 ?_
  refine lv_iconst (v := z_i (-1)) hx hb dX3_join_4 rfl ?_
  have hFc := z_fr (A := A) (wc := [(ja_next, .inl (cA 1, 2560, .inl j_next))]) hD [1] rfl
  refine va_callv (va_runS (As := [.ref ja_next, .int (z_i (-1))]) (rest := []) ⟨hx, hb, hml, hown, hts⟩ (mt_J7_fill_53178_b l D cA ja_next j_next (-1) (show z_in (-1) from ⟨by decide, by decide⟩)) (va_cwS 2 hts gX3_join_J7_fill_53178 rfl rfl rfl (by decide +kernel) ⟨Nat.le_of_ble_eq_true rfl, Nat.le_of_ble_eq_true rfl⟩) ⟨z_blm0, fun U hU hW => ⟨rfl, z_m0 hK (hP.sub (ws' := [(ja_next, .inl (cA 1, 2560, .inl j_next))]) [1] rfl) (hD.sub (ws' := [(ja_next, .inl (cA 1, 2560, .inl j_next))]) [1] (by decide) rfl) hU hW⟩⟩ rfl rfl hl.1 rfl (lv_room (Nat.le_of_ble_eq_true rfl)) dX3_join_5 ⟨Nat.zero_le _, Nat.zero_le _⟩) hS (fun q _ h => hFc q h) hFc (fun u t H locs ht hvm hw hB hz1 hk1 hS => ?_)
  obtain ⟨c1, rfl⟩ : ∃ z, z = u := ⟨_, rfl⟩
  rw [ht] at hB
  have hP := z_join2 (wc := [(ja_next, .inl (cA 1, 2560, .inl j_next))]) (w1 := [(ja_next, .inl (cA 1, 2560, .inl c1))]) hP hD [1] [0, 1] rfl rfl rfl hk1 hB
  have hP : va_P D vwCl [(j, .inr (2, [.ref ja_next, .ref ja_before, .int (z_i j_least), .int (z_i j_last)])), (ja_next, .inl (cA 1, 2560, .inl c1)), (ja_before, .inl (cA 1, 2560, .inl j_before)), (g, .inr (1, [.ref ga_units, .ref ga_lengths, .ref ga_offsets, .int (z_i g_step)])), (ga_units, .inl (cA 1, 1280, .inl g_units)), (ga_lengths, .inl (cA 1, 32, .inl g_lengths)), (ga_offsets, .inl (cA 1, 32, .inl g_offsets))] H := hP
  have hD : va_D A [(j, .inr (2, [.ref ja_next, .ref ja_before, .int (z_i j_least), .int (z_i j_last)])), (ja_next, .inl (cA 1, 2560, .inl c1)), (ja_before, .inl (cA 1, 2560, .inl j_before)), (g, .inr (1, [.ref ga_units, .ref ga_lengths, .ref ga_offsets, .int (z_i g_step)])), (ga_units, .inl (cA 1, 1280, .inl g_units)), (ga_lengths, .inl (cA 1, 32, .inl g_lengths)), (ga_offsets, .inl (cA 1, 32, .inl g_offsets))] := z_D_addr hD rfl
  have hv := hv c1 hw
  refine lv_aload_n hx hb dX3_join_8 rfl (lv_at hl 0 rfl) ?_
  refine va_get (D := D) (ci := 2) (v := .ref ja_before) (C := RX3) (T := TX3) (N := 4) hx hb hts (fun w h => List.mem_cons_of_mem _ (List.mem_append_left _ (List.mem_append_right _ h))) hown hK hP 0 rfl rfl 1 (by decide) (hts (.fieldLink RX3 15 "ContourSheets$Joins" "before" "[I") (by decide +kernel)) (fun _ h9 => h9) rfl dX3_join_9 ?_
  refine lv_iconst (v := z_i (-1)) hx hb dX3_join_12 rfl ?_
  have hFc := z_fr (A := A) (wc := [(ja_before, .inl (cA 1, 2560, .inl j_before))]) hD [2] rfl
  refine va_callv (va_runS (As := [.ref ja_before, .int (z_i (-1))]) (rest := []) ⟨hx, hb, hml, hown, hts⟩ (mt_J7_fill_53178_b l D cA ja_before j_before (-1) (show z_in (-1) from ⟨by decide, by decide⟩)) (va_cwS 2 hts gX3_join_J7_fill_53178 rfl rfl rfl (by decide +kernel) ⟨Nat.le_of_ble_eq_true rfl, Nat.le_of_ble_eq_true rfl⟩) ⟨z_blm0, fun U hU hW => ⟨rfl, z_m0 hK (hP.sub (ws' := [(ja_before, .inl (cA 1, 2560, .inl j_before))]) [2] rfl) (hD.sub (ws' := [(ja_before, .inl (cA 1, 2560, .inl j_before))]) [2] (by decide) rfl) hU hW⟩⟩ rfl rfl hl.1 rfl (lv_room (Nat.le_of_ble_eq_true rfl)) dX3_join_13 ⟨Nat.zero_le _, Nat.zero_le _⟩) hS (fun q _ h => hFc q h) hFc (fun u t H locs ht hvm hw hB hz1 hk1 hS => ?_)
  obtain ⟨c2, rfl⟩ : ∃ z, z = u := ⟨_, rfl⟩
  rw [ht] at hB
  have hP := z_join2 (wc := [(ja_before, .inl (cA 1, 2560, .inl j_before))]) (w1 := [(ja_before, .inl (cA 1, 2560, .inl c2))]) hP hD [2] [0, 0, 1] rfl rfl rfl hk1 hB
  have hP : va_P D vwCl [(j, .inr (2, [.ref ja_next, .ref ja_before, .int (z_i j_least), .int (z_i j_last)])), (ja_next, .inl (cA 1, 2560, .inl c1)), (ja_before, .inl (cA 1, 2560, .inl c2)), (g, .inr (1, [.ref ga_units, .ref ga_lengths, .ref ga_offsets, .int (z_i g_step)])), (ga_units, .inl (cA 1, 1280, .inl g_units)), (ga_lengths, .inl (cA 1, 32, .inl g_lengths)), (ga_offsets, .inl (cA 1, 32, .inl g_offsets))] H := hP
  have hD : va_D A [(j, .inr (2, [.ref ja_next, .ref ja_before, .int (z_i j_least), .int (z_i j_last)])), (ja_next, .inl (cA 1, 2560, .inl c1)), (ja_before, .inl (cA 1, 2560, .inl c2)), (g, .inr (1, [.ref ga_units, .ref ga_lengths, .ref ga_offsets, .int (z_i g_step)])), (ga_units, .inl (cA 1, 1280, .inl g_units)), (ga_lengths, .inl (cA 1, 32, .inl g_lengths)), (ga_offsets, .inl (cA 1, 32, .inl g_offsets))] := z_D_addr hD rfl
  have hv := hv c2 hw
  refine lv_aload_n hx hb dX3_join_16 rfl (lv_at hl 0 rfl) ?_
  refine lv_sipush (v := z_i 2560) hx hb dX3_join_17 (by decide) ?_
  refine va_put (D := D) (ci := 2) (v := .int (z_i 2560)) (ty := .int) (C := RX3) (T := TX3) (N := 4) hx hb hts (fun w h => List.mem_cons_of_mem _ (List.mem_append_left _ (List.mem_append_right _ h))) tyX3 tyX3_ok nmX3 hown hK hP hD hS 0 rfl rfl 2 (by decide) (hts (.fieldLink RX3 24 "ContourSheets$Joins" "least" "I") (by decide +kernel)) (fun _ h9 => h9) rfl (by decide +kernel) rfl rfl (Nat.le_of_ble_eq_true rfl) dX3_join_20 (fun H locs hP hD hS => ?_)
  have hP : va_P D vwCl [(j, .inr (2, [.ref ja_next, .ref ja_before, .int (z_i 2560), .int (z_i j_last)])), (ja_next, .inl (cA 1, 2560, .inl c1)), (ja_before, .inl (cA 1, 2560, .inl c2)), (g, .inr (1, [.ref ga_units, .ref ga_lengths, .ref ga_offsets, .int (z_i g_step)])), (ga_units, .inl (cA 1, 1280, .inl g_units)), (ga_lengths, .inl (cA 1, 32, .inl g_lengths)), (ga_offsets, .inl (cA 1, 32, .inl g_offsets))] H := hP
  have hD : va_D A [(j, .inr (2, [.ref ja_next, .ref ja_before, .int (z_i 2560), .int (z_i j_last)])), (ja_next, .inl (cA 1, 2560, .inl c1)), (ja_before, .inl (cA 1, 2560, .inl c2)), (g, .inr (1, [.ref ga_units, .ref ga_lengths, .ref ga_offsets, .int (z_i g_step)])), (ga_units, .inl (cA 1, 1280, .inl g_units)), (ga_lengths, .inl (cA 1, 32, .inl g_lengths)), (ga_offsets, .inl (cA 1, 32, .inl g_offsets))] := hD
  refine lv_aload_n hx hb dX3_join_23 rfl (lv_at hl 0 rfl) ?_
  refine lv_iconst (v := z_i (-1)) hx hb dX3_join_24 rfl ?_
  refine va_put (D := D) (ci := 2) (v := .int (z_i (-1))) (ty := .int) (C := RX3) (T := TX3) (N := 4) hx hb hts (fun w h => List.mem_cons_of_mem _ (List.mem_append_left _ (List.mem_append_right _ h))) tyX3 tyX3_ok nmX3 hown hK hP hD hS 0 rfl rfl 3 (by decide) (hts (.fieldLink RX3 28 "ContourSheets$Joins" "last" "I") (by decide +kernel)) (fun _ h9 => h9) rfl (by decide +kernel) rfl rfl (Nat.le_of_ble_eq_true rfl) dX3_join_25 (fun H locs hP hD hS => ?_)
  have hP : va_P D vwCl [(j, .inr (2, [.ref ja_next, .ref ja_before, .int (z_i 2560), .int (z_i (-1))])), (ja_next, .inl (cA 1, 2560, .inl c1)), (ja_before, .inl (cA 1, 2560, .inl c2)), (g, .inr (1, [.ref ga_units, .ref ga_lengths, .ref ga_offsets, .int (z_i g_step)])), (ga_units, .inl (cA 1, 1280, .inl g_units)), (ga_lengths, .inl (cA 1, 32, .inl g_lengths)), (ga_offsets, .inl (cA 1, 32, .inl g_offsets))] H := hP
  have hD : va_D A [(j, .inr (2, [.ref ja_next, .ref ja_before, .int (z_i 2560), .int (z_i (-1))])), (ja_next, .inl (cA 1, 2560, .inl c1)), (ja_before, .inl (cA 1, 2560, .inl c2)), (g, .inr (1, [.ref ga_units, .ref ga_lengths, .ref ga_offsets, .int (z_i g_step)])), (ga_units, .inl (cA 1, 1280, .inl g_units)), (ga_lengths, .inl (cA 1, 32, .inl g_lengths)), (ga_offsets, .inl (cA 1, 32, .inl g_offsets))] := hD
  refine lv_iconst (v := z_i 0) hx hb dX3_join_28 rfl ?_
  refine lv_istore_n (lv' := [(3, .int (z_i 0)), (0, .ref j), (1, .ref g), (2, .int (z_i level))]) hx hb dX3_join_29 rfl hl (by decide) rfl (fun ls hl => ?_)
  refine hv (fun (x30_3 : Int) (y30_j_least : Int) (y30_j_last : Int) (y30_ja_next : Nat → Int32) (y30_ja_before : Nat → Int32) => ∀ (H : Heap) (locs : List Loc) (ls : Array Slot), va_P D vwCl [(j, .inr (2, [.ref ja_next, .ref ja_before, .int (z_i y30_j_least), .int (z_i y30_j_last)])), (ja_next, .inl (cA 1, 2560, .inl y30_ja_next)), (ja_before, .inl (cA 1, 2560, .inl y30_ja_before)), (g, .inr (1, [.ref ga_units, .ref ga_lengths, .ref ga_offsets, .int (z_i g_step)])), (ga_units, .inl (cA 1, 1280, .inl g_units)), (ga_lengths, .inl (cA 1, 32, .inl g_lengths)), (ga_offsets, .inl (cA 1, 32, .inl g_offsets))] H → va_D A [(j, .inr (2, [.ref ja_next, .ref ja_before, .int (z_i y30_j_least), .int (z_i y30_j_last)])), (ja_next, .inl (cA 1, 2560, .inl y30_ja_next)), (ja_before, .inl (cA 1, 2560, .inl y30_ja_before)), (g, .inr (1, [.ref ga_units, .ref ga_lengths, .ref ga_offsets, .int (z_i g_step)])), (ga_units, .inl (cA 1, 1280, .inl g_units)), (ga_lengths, .inl (cA 1, 32, .inl g_lengths)), (ga_offsets, .inl (cA 1, 32, .inl g_offsets))] → va_S A s.heap H locs → lv_has ls 4 [(3, .int (z_i x30_3)), (0, .ref j), (1, .ref g), (2, .int (z_i level))] → W p l e _ s m _ below meth c H locs 0 0 _ (F0 m 30 ls [])) ?_ _ _ ls hP hD hS (lv_sub hl [0, 1, 2, 3] rfl)
  intro x30_3 y30_j_least y30_j_last y30_ja_next y30_ja_before h_x30_3 h_y30_j_least h_y30_j_last hv H locs ls hP hD hS hl
  refine lv_iload_n hx hb dX3_join_30 rfl (lv_at hl 0 rfl) ?_
  refine lv_sipush (v := z_i 1280) hx hb dX3_join_31 (by decide) ?_
  refine lx_icmp_ge (tgt := 58) hx hb dX3_join_34 (by decide) h_x30_3 (show z_in 1280 from ⟨by decide, by decide⟩) (fun hc => ?_) (fun hc => ?_)
  · have hv := hv.1 hc
    exact W.vret hx hb hr (fun t ht hW => ⟨⟨(y30_ja_next, y30_ja_before, y30_j_least, y30_j_last), rfl, ⟨h_y30_j_least, h_y30_j_last, hv⟩, z_pt hP ht⟩, hS.F ht⟩) hS.2.2 dX3_join_58
  · have hv := hv.2 hc
    refine lv_aload_n hx hb dX3_join_37 rfl (lv_at hl 2 rfl) ?_
    refine lv_iload_n hx hb dX3_join_38 rfl (lv_at hl 0 rfl) ?_
    obtain ⟨hp3, hv⟩ := hv
    refine va_calli (va_runV (As := [.int (z_i x30_3)]) (rest := []) ⟨hx, hb, hml, hown, hts⟩ (mt_X2_isWhole l D cA t1 t2 g ga_units g_units ga_lengths g_lengths ga_offsets g_offsets g_step x30_3 h_g_step h_x30_3 hp3) (cwV 1 hts gX3_join_X2_isWhole rfl rfl rfl (by decide +kernel) ⟨Nat.le_of_ble_eq_true rfl, Nat.le_of_ble_eq_true rfl⟩) ⟨z_bl1, va_recv hK hP (ci := 1) (q0 := 3) rfl rfl, fun U hU hW => ⟨rfl, z_b1 hK (hP.sub (ws' := [(g, .inr (1, [.ref ga_units, .ref ga_lengths, .ref ga_offsets, .int (z_i g_step)])), (ga_units, .inl (cA 1, 1280, .inl g_units)), (ga_lengths, .inl (cA 1, 32, .inl g_lengths)), (ga_offsets, .inl (cA 1, 32, .inl g_offsets))]) [3, 4, 5, 6] rfl) (hST.at hS (fun _ h => h.elim)) hU hW⟩⟩ rfl rfl hl.1 rfl (lv_room (Nat.le_of_ble_eq_true rfl)) dX3_join_39 ⟨Nat.zero_le _, Nat.zero_le _⟩) hS (fun q _ h => h.elim) (fun q h => h.elim) (fun r0 u t H locs ht hvm hw hB hz1 hk1 hS => ?_)
    obtain ⟨r4, rfl, h_r4, hw⟩ := hw
    have hP := z_P_all hP hk1
    have hv := hv r4 h_r4 hw
    refine lx_if_eq (tgt := 52) hx hb dX3_join_42 (by decide) h_r4 (fun hc => ?_) (fun hc => ?_)
    · have hv := hv.1 hc
      refine lv_iinc (v := z_i (x30_3 + 1)) (lv' := [(3, .int (z_i (x30_3 + 1))), (0, .ref j), (1, .ref g), (2, .int (z_i level))]) hx hb dX3_join_52 hl (k := 0) rfl (z_i_add _ _) (by decide) rfl (fun ls hl => ?_)
      refine lv_goto (tgt := 30) hx hb dX3_join_55 (by decide) ?_
      exact hv _ _ ls hP hD hS (lv_sub hl [0, 1, 2, 3] rfl)
    · have hv := hv.2 hc
      refine lv_aload_n hx hb dX3_join_45 rfl (lv_at hl 1 rfl) ?_
      refine lv_aload_n hx hb dX3_join_46 rfl (lv_at hl 2 rfl) ?_
      refine lv_iload_n hx hb dX3_join_47 rfl (lv_at hl 0 rfl) ?_
      refine lv_iload_n hx hb dX3_join_48 rfl (lv_at hl 3 rfl) ?_
      obtain ⟨hp5, hv⟩ := hv
      obtain ⟨hp6, hv⟩ := hv
      obtain ⟨hp7, hv⟩ := hv
      obtain ⟨hp8, hv⟩ := hv
      have hFc := z_fr (A := A) (wc := [(j, .inr (2, [.ref ja_next, .ref ja_before, .int (z_i y30_j_least), .int (z_i y30_j_last)])), (ja_next, .inl (cA 1, 2560, .inl y30_ja_next)), (ja_before, .inl (cA 1, 2560, .inl y30_ja_before)), (g, .inr (1, [.ref ga_units, .ref ga_lengths, .ref ga_offsets, .int (z_i g_step)])), (ga_units, .inl (cA 1, 1280, .inl g_units)), (ga_lengths, .inl (cA 1, 32, .inl g_lengths)), (ga_offsets, .inl (cA 1, 32, .inl g_offsets))]) hD [0, 1, 2, 3, 4, 5, 6] rfl
      refine va_callv (va_runV (As := [.ref g, .int (z_i x30_3), .int (z_i level)]) (rest := []) ⟨hx, hb, hml, hown, hts⟩ (mt_X3_joinCell l D cA j ja_next y30_ja_next ja_before y30_ja_before y30_j_least y30_j_last g ga_units g_units ga_lengths g_lengths ga_offsets g_offsets g_step x30_3 level h_y30_j_least h_y30_j_last h_g_step h_x30_3 h_level hp5 hp6 hp7 hp8) (cwV 3 hts gX3_join_X3_joinCell rfl rfl rfl (by decide +kernel) ⟨Nat.le_of_ble_eq_true rfl, Nat.le_of_ble_eq_true rfl⟩) ⟨z_blm0, va_recv hK hP (ci := 2) (q0 := 0) rfl rfl, fun U hU hW => ⟨rfl, z_m0 hK hP hD hU hW⟩⟩ rfl rfl hl.1 rfl (lv_room (Nat.le_of_ble_eq_true rfl)) dX3_join_49 ⟨Nat.zero_le _, Nat.zero_le _⟩) hS (fun q _ h => hFc q h) hFc (fun u t H locs ht hvm hw hB hz1 hk1 hS => ?_)
      obtain ⟨c9, c10, c11, c12⟩ := u
      rw [ht] at hB
      have hP := hB
      have hP : va_P D vwCl [(j, .inr (2, [.ref ja_next, .ref ja_before, .int (z_i c11), .int (z_i c12)])), (ja_next, .inl (cA 1, 2560, .inl c9)), (ja_before, .inl (cA 1, 2560, .inl c10)), (g, .inr (1, [.ref ga_units, .ref ga_lengths, .ref ga_offsets, .int (z_i g_step)])), (ga_units, .inl (cA 1, 1280, .inl g_units)), (ga_lengths, .inl (cA 1, 32, .inl g_lengths)), (ga_offsets, .inl (cA 1, 32, .inl g_offsets))] H := hP
      have hD : va_D A [(j, .inr (2, [.ref ja_next, .ref ja_before, .int (z_i c11), .int (z_i c12)])), (ja_next, .inl (cA 1, 2560, .inl c9)), (ja_before, .inl (cA 1, 2560, .inl c10)), (g, .inr (1, [.ref ga_units, .ref ga_lengths, .ref ga_offsets, .int (z_i g_step)])), (ga_units, .inl (cA 1, 1280, .inl g_units)), (ga_lengths, .inl (cA 1, 32, .inl g_lengths)), (ga_offsets, .inl (cA 1, 32, .inl g_offsets))] := z_D_addr hD rfl
      obtain ⟨h_c11, h_c12, hw⟩ := hw
      have hv := hv c9 c10 c11 c12 h_c11 h_c12 hw
      refine lv_iinc (v := z_i (x30_3 + 1)) (lv' := [(3, .int (z_i (x30_3 + 1))), (0, .ref j), (1, .ref g), (2, .int (z_i level))]) hx hb dX3_join_52 hl (k := 0) rfl (z_i_add _ _) (by decide) rfl (fun ls hl => ?_)
      refine lv_goto (tgt := 30) hx hb dX3_join_55 (by decide) ?_
      exact hv _ _ ls hP hD hS (lv_sub hl [0, 1, 2, 3] rfl)
set_option maxHeartbeats 4000000 in
set_option maxRecDepth 100000 in
theorem mt_X3_join (l : Launch) (D : va_G) (cA : Nat → ClassId) (t1 t2 : Nat) (j : Nat) (ja_next : Nat) (j_next : Nat → Int32) (ja_before : Nat) (j_before : Nat → Int32) (j_least : Int) (j_last : Int) (g : Nat) (ga_units : Nat) (g_units : Nat → Int32) (ga_lengths : Nat) (g_lengths : Nat → Int32) (ga_offsets : Nat) (g_offsets : Nat → Int32) (g_step : Int) (level : Int) (h_j_least : z_in j_least) (h_j_last : z_in j_last) (h_g_step : z_in g_step) (h_level : z_in level) (hp1 : g_ok g_units) (hp2 : -8388608 ≤ level ∧ level ≤ 8388608) : Met l yX3_join wsX3_join ({ frames := 4, cells := 0, slots := 0, locals := 87 } : Room) (va_Pc [.ref j, .ref g, .int (z_i level)] (z_M1 D cA t1 t2 [(j, .inr (2, [.ref ja_next, .ref ja_before, .int (z_i j_least), .int (z_i j_last)])), (ja_next, .inl (cA 1, 2560, .inl j_next)), (ja_before, .inl (cA 1, 2560, .inl j_before)), (g, .inr (1, [.ref ga_units, .ref ga_lengths, .ref ga_offsets, .int (z_i g_step)])), (ga_units, .inl (cA 1, 1280, .inl g_units)), (ga_lengths, .inl (cA 1, 32, .inl g_lengths)), (ga_offsets, .inl (cA 1, 32, .inl g_offsets))])) (va_Qv (fun (u : (Nat → Int32) × (Nat → Int32) × Int × Int) => z_in u.2.2.1 ∧ z_in u.2.2.2 ∧ (fun (j_next' : (Nat → Int32)) (j_before' : (Nat → Int32)) (j_least' : Int) (j_last' : Int) => j_post (g_th g_units) (g_at g_units) level j_next' j_before' j_least' j_last') u.1 u.2.1 u.2.2.1 u.2.2.2) (fun (u : (Nat → Int32) × (Nat → Int32) × Int × Int) t => va_P D vwCl [(j, .inr (2, [.ref ja_next, .ref ja_before, .int (z_i u.2.2.1), .int (z_i u.2.2.2)])), (ja_next, .inl (cA 1, 2560, .inl u.1)), (ja_before, .inl (cA 1, 2560, .inl u.2.1)), (g, .inr (1, [.ref ga_units, .ref ga_lengths, .ref ga_offsets, .int (z_i g_step)])), (ga_units, .inl (cA 1, 1280, .inl g_units)), (ga_lengths, .inl (cA 1, 32, .inl g_lengths)), (ga_offsets, .inl (cA 1, 32, .inl g_offsets))] t.heap) (z_A [(j, .inr (2, [.ref ja_next, .ref ja_before, .int (z_i j_least), .int (z_i j_last)])), (ja_next, .inl (cA 1, 2560, .inl j_next)), (ja_before, .inl (cA 1, 2560, .inl j_before)), (g, .inr (1, [.ref ga_units, .ref ga_lengths, .ref ga_offsets, .int (z_i g_step)])), (ga_units, .inl (cA 1, 1280, .inl g_units)), (ga_lengths, .inl (cA 1, 32, .inl g_lengths)), (ga_offsets, .inl (cA 1, 32, .inl g_offsets))])) 0 0 (z_A [(j, .inr (2, [.ref ja_next, .ref ja_before, .int (z_i j_least), .int (z_i j_last)])), (ja_next, .inl (cA 1, 2560, .inl j_next)), (ja_before, .inl (cA 1, 2560, .inl j_before)), (g, .inr (1, [.ref ga_units, .ref ga_lengths, .ref ga_offsets, .int (z_i g_step)])), (ga_units, .inl (cA 1, 1280, .inl g_units)), (ga_lengths, .inl (cA 1, 32, .inl g_lengths)), (ga_offsets, .inl (cA 1, 32, .inl g_offsets))]) := by
  refine wk_X3_join l D cA t1 t2 j ja_next j_next ja_before j_before j_least j_last g ga_units g_units ga_lengths g_lengths ga_offsets g_offsets g_step level h_j_least h_j_last h_g_step h_level (fun (j_next' : (Nat → Int32)) (j_before' : (Nat → Int32)) (j_least' : Int) (j_last' : Int) => j_post (g_th g_units) (g_at g_units) level j_next' j_before' j_least' j_last') ?_
  unfold vc_X3_join
  intro c1 hc1 c2 hc2
  intro L hL
  suffices H : ∀ (d k : Nat), k + d = 1280 → L (k : Int) (j_leK (g_th g_units) (g_at g_units) level k) (j_laK (g_th g_units) (g_at g_units) level k) (j_nxK (g_th g_units) (g_at g_units) level c1 k) (j_bfK (g_th g_units) (g_at g_units) level c2 k) from H 1280 0 rfl
  intro d
  induction d with
  | zero =>
    intro k hk
    have b1 := j_leK_b (g_th g_units) (g_at g_units) level k
    have b2 := j_laK_b (g_th g_units) (g_at g_units) level k
    have hk2 : k = 1280 := by omega
    subst hk2
    exact hL _ _ _ _ _ ⟨by omega, by omega⟩ ⟨by omega, by omega⟩ ⟨by omega, by omega⟩ ⟨fun _ => ⟨c1, c2, hc1, hc2, rfl, rfl, rfl, rfl⟩, fun h => absurd h (by omega)⟩
  | succ d ih =>
    intro k hk
    have b1 := j_leK_b (g_th g_units) (g_at g_units) level k
    have b2 := j_laK_b (g_th g_units) (g_at g_units) level k
    have hi := ih (k + 1) (by omega)
    unfold j_leK j_laK j_nxK j_bfK at hi
    refine hL _ _ _ _ _ ⟨by omega, by omega⟩ ⟨by omega, by omega⟩ ⟨by omega, by omega⟩ ⟨fun h => absurd h (by omega), fun h => ⟨⟨by omega, h⟩, ?_⟩⟩
    rintro r4 h4 rfl
    refine ⟨fun q => ?_, fun q => ⟨⟨by omega, h⟩, hp1, ?_, hp2, ?_⟩⟩
    · have e : m_wh (g_th g_units) k = false := by
        cases hc : m_wh (g_th g_units) k
        · rfl
        · rw [hc] at q; exact absurd q (by decide)
      rw [e] at hi
      simpa using hi
    · cases hc : m_wh (g_th g_units) k
      · rw [hc] at q; exact absurd rfl q
      · rfl
    · have e : m_wh (g_th g_units) k = true := by
        cases hc : m_wh (g_th g_units) k
        · rw [hc] at q; exact absurd rfl q
        · rfl
      rw [if_pos e, if_pos e, if_pos e, if_pos e] at hi
      rintro c8 c9 c10 c11 h10 h11 ⟨rfl, rfl, rfl, rfl⟩
      exact hi
