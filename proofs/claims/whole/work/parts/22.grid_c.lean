def m_waK (T : Int → Bool) (U : Int → Int) (n : Int) : Nat → Int
  | 0 => 0
  | k + 1 => m_waK T U n k + (if m_nb T n k ≠ -1 ∧ m_ab U (m_nb T n k) n = true then 2 ^ k else 0)
def m_wa (T : Int → Bool) (U : Int → Int) (n : Int) : Int := m_waK T U n 8
theorem m_waK_b (T : Int → Bool) (U : Int → Int) (n : Int) (k : Nat) : 0 ≤ m_waK T U n k ∧ m_waK T U n k < 2 ^ k := by
  induction k with
  | zero => exact ⟨Int.le_refl _, show (0 : Int) < 2 ^ 0 by decide⟩
  | succ k ih =>
    unfold m_waK
    have h2 : (2 : Int) ^ (k + 1) = 2 ^ k + 2 ^ k := by rw [Int.pow_succ]; omega
    split <;> omega
theorem z_or_bit : ∀ k : Fin 8, ∀ m : Fin 128, m.val < 2 ^ k.val → z_or (m.val : Int) (z_shl 1 (k.val : Int)) = (m.val : Int) + 2 ^ k.val := by decide +kernel
theorem z_or_bit' {k : Nat} {m : Int} (hk : k < 8) (h0 : 0 ≤ m) (h1 : m < 2 ^ k) : z_or m (z_shl 1 (k : Int)) = m + 2 ^ k := by
  have h2 : (2 : Int) ^ k ≤ 2 ^ 7 := by exact_mod_cast Nat.pow_le_pow_right (n := 2) (by decide) (by omega : k ≤ 7)
  have h3 : (2 : Int) ^ 7 = 128 := by decide
  have h4 := z_or_bit ⟨k, hk⟩ ⟨m.toNat, by omega⟩ (by
    have : ((m.toNat : Nat) : Int) < ((2 ^ k : Nat) : Int) := by rw [Int.toNat_of_nonneg h0]; simpa using h1
    exact Int.ofNat_lt.mp this)
  simpa [Int.toNat_of_nonneg h0] using h4
theorem z_turn : ∀ m : Fin 256, 0 ≤ z_xor (m.val : Int) (z_and (z_or (z_shl (m.val : Int) 1) (z_shr (m.val : Int) 7)) 255) ∧ z_xor (m.val : Int) (z_and (z_or (z_shl (m.val : Int) 1) (z_shr (m.val : Int) 7)) 255) < 256 := by decide +kernel
/-- the kind by the mask of what is above -/
def m_km (m : Int) : Int := if m = 0 then 1 else if m = 255 then 2 else if j_bc (z_xor m (z_and (z_or (z_shl m 1) (z_shr m 7)) 255)) ≥ 4 then 3 else 0
def m_kd (T : Int → Bool) (U : Int → Int) (n : Int) : Int := if m_nc T n < 8 then 0 else m_km (m_wa T U n)
def m_wh (T : Int → Bool) (n : Int) : Bool := T n && decide (m_nb T n 3 ≠ -1) && decide (m_nb T n 4 ≠ -1) && decide (m_nb T n 5 ≠ -1)
def g_ok (u : Nat → Int32) : Prop := ∀ n : Int, g_at u n = -2147483648 ∨ (-8388608 ≤ g_at u n ∧ g_at u n ≤ 8388608)
theorem g_ok_at {u : Nat → Int32} (h : g_ok u) {n : Int} (ht : g_th u n = true) : -8388608 ≤ g_at u n ∧ g_at u n ≤ 8388608 := by
  rcases h n with q | q
  · exact absurd q (g_th_iff.mp ht)
  · exact q
theorem m_no_some {T : Int → Bool} {i j : Int} (h : m_no T i j ≠ -1) : m_no T i j = 40 * i + j ∧ 0 ≤ i ∧ i < 32 ∧ 0 ≤ j ∧ j < 40 ∧ T (40 * i + j) = true := by
  unfold m_no at *
  split at h
  · next q => rw [if_pos q]; exact ⟨rfl, q⟩
  · exact absurd rfl h
theorem m_nb_th {T : Int → Bool} {n k : Int} (h : m_nb T n k ≠ -1) : T (m_nb T n k) = true ∧ 0 ≤ m_nb T n k ∧ m_nb T n k < 1280 := by
  obtain ⟨h1, h2, h3, h4, h5, h6⟩ := m_no_some h
  have e : m_nb T n k = 40 * (n / 40 + z_rs k.toNat) + (n % 40 + z_cs k.toNat) := h1
  rw [e]
  exact ⟨h6, by omega, by omega⟩
theorem m_wh_spec {T : Int → Bool} {n : Int} (h : m_wh T n = true) : T n = true ∧ T (n + 1) = true ∧ T (n + 40) = true ∧ T (n + 40 + 1) = true ∧ 0 ≤ n / 40 ∧ n / 40 < 31 ∧ n % 40 < 39 := by
  unfold m_wh at h
  simp only [Bool.and_eq_true, decide_eq_true_eq] at h
  obtain ⟨⟨⟨h1, h2⟩, h3⟩, h4⟩ := h
  obtain ⟨-, a1, a2, a3, a4, a5⟩ := m_no_some h2
  obtain ⟨-, b1, b2, b3, b4, b5⟩ := m_no_some h3
  obtain ⟨-, c1, c2, c3, c4, c5⟩ := m_no_some h4
  have r3 : z_rs (3 : Int).toNat = 0 := rfl
  have r4 : z_rs (4 : Int).toNat = 1 := rfl
  have r5 : z_rs (5 : Int).toNat = 1 := rfl
  have s3 : z_cs (3 : Int).toNat = 1 := rfl
  have s4 : z_cs (4 : Int).toNat = 1 := rfl
  have s5 : z_cs (5 : Int).toNat = 0 := rfl
  rw [r3, s3] at a5
  rw [r4, s4] at b5
  rw [r5, s5] at c5
  rw [r3] at a1 a2
  rw [s3] at a3 a4
  rw [r4] at b1 b2
  have em := Int.mul_ediv_add_emod n 40
  refine ⟨h1, ?_, ?_, ?_, by omega, by omega, by omega⟩
  · rw [← a5]; congr 1; omega
  · rw [← c5]; congr 1; omega
  · rw [← b5]; congr 1; omega
/-- to the nearest whole, a half to the even one -/
def m_ne (a n : Int) : Int := if 2 * (a % n) > n ∨ (2 * (a % n) = n ∧ (a / n) % 2 = 1) then a / n + 1 else a / n
def m_smK (T : Int → Bool) (U : Int → Int) (n : Int) : Nat → Int × Int
  | 0 => (0, 0)
  | k + 1 => if m_nb T n (2 * k + 1) = -1 then m_smK T U n k else ((m_smK T U n k).1 + U (m_nb T n (2 * k + 1)), (m_smK T U n k).2 + 1)
def m_sm (T : Int → Bool) (U : Int → Int) (n w : Int) : Int := m_ne (w * U n + (m_smK T U n 4).1) (w + (m_smK T U n 4).2)
def g_rw (le off : Nat → Int32) : Prop := ∀ i : Int, 0 ≤ i → i < 32 → 0 ≤ z_g off i ∧ z_g off i ≤ 39 ∧ 0 ≤ z_g le i ∧ z_g le i ≤ 40
def vc_X2_waysAbove (g_units : Nat → Int32) (n : Int) (Q : Int → Prop) : Prop :=
(∀ L4 : Int → Int → Prop,
(∀ (x4_3 : Int) (x4_2 : Int), z_in x4_3 → z_in x4_2 → ((x4_3 ≥ 8 → Q x4_2) ∧
(x4_3 < 8 → (0 ≤ n ∧ n < 1280) ∧ (0 ≤ x4_3 ∧ x4_3 < 8) ∧ (∀ (r3 : Int), z_in r3 → (r3 = m_nb (g_th g_units) n x4_3) → ((r3 = -1 → L4 (x4_3 + 1) x4_2) ∧
(r3 ≠ -1 → (∀ (r4 : Int), z_in r4 → (r4 = z_b (m_ab (g_at g_units) r3 n)) → ((r4 = 0 → L4 (x4_3 + 1) x4_2) ∧
(r4 ≠ 0 → (∀ v5 : Int, v5 = z_or x4_2 (z_shl 1 x4_3) → L4 (x4_3 + 1) v5))))))))) → L4 x4_3 x4_2) →
L4 0 0)
set_option maxHeartbeats 4000000 in
set_option maxRecDepth 100000 in
theorem wk_X2_waysAbove (l : Launch) (D : va_G) (cA : Nat → ClassId) (t1 t2 : Nat) (g : Nat) (ga_units : Nat) (g_units : Nat → Int32) (ga_lengths : Nat) (g_lengths : Nat → Int32) (ga_offsets : Nat) (g_offsets : Nat → Int32) (g_step : Int) (n : Int) (h_g_step : z_in g_step) (h_n : z_in n) (Q : Int → Prop) (hv : vc_X2_waysAbove g_units n Q) : Met l yX2_waysAbove wsX2_waysAbove ({ frames := 3, cells := 0, slots := 0, locals := 66 } : Room) (va_Pc [.ref g, .int (z_i n)] (z_B1 D cA t1 t2 [(g, .inr (1, [.ref ga_units, .ref ga_lengths, .ref ga_offsets, .int (z_i g_step)])), (ga_units, .inl (cA 1, 1280, .inl g_units)), (ga_lengths, .inl (cA 1, 32, .inl g_lengths)), (ga_offsets, .inl (cA 1, 32, .inl g_offsets))])) (va_Qi (z_ri Q) (fun _ _ => True) (fun _ => False)) 0 0 (fun _ => False) := by
  unfold vc_X2_waysAbove at hv
  refine Met.ofW (cc := cX2_waysAbove) (maxL := 5) (ret := (some .int)) (by decide +kernel) rfl ?_
  intro p e s m args below meth c s₁ B hml hv0
  obtain ⟨rfl, ⟨hK, hP⟩, hST⟩ := hv0
  have hx := B.exec
  have hb := B.bytes
  have hr := B.returns
  have hts := atoms_spec (ws := wsX2_waysAbove) B.pre
  have hown : s.vm.findClass RX2 = some m.cls := findClass_of_methodNamed B.named
  have hlocks := B.notSynchronized
  have hS : va_S (fun _ : Nat => False) s.heap s.heap [] := va_S.rf
  have hl := lv_entry ([.ref g, .int (z_i n)]) (n := 5) (Nat.le_of_ble_eq_true rfl)
  rw [lg_entry_eq]
  generalize (lg_sl ([.ref g, .int (z_i n)]) ++ List.replicate (5 - (lg_sl ([.ref g, .int (z_i n)])).length) Slot.unset).toArray = ls at hl ⊢
  have hl : lv_has ls 5 [(0, .ref g), (1, .int (z_i n))] := hl
  refine lv_iconst (v := z_i 0) hx hb dX2_waysAbove_0 rfl ?_
  refine lv_istore_n (lv' := [(2, .int (z_i 0)), (0, .ref g), (1, .int (z_i n))]) hx hb dX2_waysAbove_1 rfl hl (by decide) rfl (fun ls hl => ?_)
  refine lv_iconst (v := z_i 0) hx hb dX2_waysAbove_2 rfl ?_
  refine lv_istore_n (lv' := [(3, .int (z_i 0)), (2, .int (z_i 0)), (0, .ref g), (1, .int (z_i n))]) hx hb dX2_waysAbove_3 rfl hl (by decide) rfl (fun ls hl => ?_)
  refine hv (fun (x4_3 : Int) (x4_2 : Int) => ∀ (H : Heap) (locs : List Loc) (ls : Array Slot), va_P D vwCl [(g, .inr (1, [.ref ga_units, .ref ga_lengths, .ref ga_offsets, .int (z_i g_step)])), (ga_units, .inl (cA 1, 1280, .inl g_units)), (ga_lengths, .inl (cA 1, 32, .inl g_lengths)), (ga_offsets, .inl (cA 1, 32, .inl g_offsets))] H → va_S (fun _ : Nat => False) s.heap H locs → lv_has ls 5 [(3, .int (z_i x4_3)), (2, .int (z_i x4_2)), (0, .ref g), (1, .int (z_i n))] → W p l e _ s m _ below meth c H locs 0 0 _ (F0 m 4 ls [])) ?_ _ _ ls hP hS (lv_sub hl [0, 1, 2, 3] rfl)
  intro x4_3 x4_2 h_x4_3 h_x4_2 hv H locs ls hP hS hl
  refine lv_iload_n hx hb dX2_waysAbove_4 rfl (lv_at hl 0 rfl) ?_
  refine lv_bipush (v := z_i 8) hx hb dX2_waysAbove_5 (by decide) ?_
  refine lx_icmp_ge (tgt := 46) hx hb dX2_waysAbove_7 (by decide) h_x4_3 (show z_in 8 from ⟨by decide, by decide⟩) (fun hc => ?_) (fun hc => ?_)
  · have hv := hv.1 hc
    refine lv_iload_n hx hb dX2_waysAbove_46 rfl (lv_at hl 1 rfl) ?_
    exact W.iret (v := z_i x4_2) hx hb hr (fun t ht hW => ⟨⟨z_i x4_2, (), rfl, ⟨x4_2, rfl, h_x4_2, hv⟩, trivial⟩, hS.F ht⟩) hS.2.2 dX2_waysAbove_47
  · have hv := hv.2 hc
    refine lv_aload_n hx hb dX2_waysAbove_10 rfl (lv_at hl 2 rfl) ?_
    refine lv_iload_n hx hb dX2_waysAbove_11 rfl (lv_at hl 3 rfl) ?_
    refine lv_iload_n hx hb dX2_waysAbove_12 rfl (lv_at hl 0 rfl) ?_
    obtain ⟨hp1, hv⟩ := hv
    obtain ⟨hp2, hv⟩ := hv
    refine va_calli (va_runV (As := [.int (z_i n), .int (z_i x4_3)]) (rest := []) ⟨hx, hb, hml, hown, hts⟩ (mt_X2_neighbour l D cA t1 t2 g ga_units g_units ga_lengths g_lengths ga_offsets g_offsets g_step n x4_3 h_g_step h_n h_x4_3 hp1 hp2) (cwV 2 hts gX2_waysAbove_X2_neighbour rfl rfl rfl (by decide +kernel) ⟨Nat.le_of_ble_eq_true rfl, Nat.le_of_ble_eq_true rfl⟩) ⟨z_bl1, va_recv hK hP (ci := 1) (q0 := 0) rfl rfl, fun U hU hW => ⟨rfl, z_b1 hK hP (hST.at hS (fun _ h => h.elim)) hU hW⟩⟩ rfl rfl hl.1 rfl (lv_room (Nat.le_of_ble_eq_true rfl)) dX2_waysAbove_13 ⟨Nat.zero_le _, Nat.zero_le _⟩) hS (fun q _ h => h.elim) (fun q h => h.elim) (fun r0 u t H locs ht hvm hw hB hz1 hk1 hS => ?_)
    obtain ⟨r3, rfl, h_r3, hw⟩ := hw
    have hP := z_P_all hP hk1
    have hv := hv r3 h_r3 hw
    refine lv_istore (lv' := [(4, .int (z_i r3)), (3, .int (z_i x4_3)), (2, .int (z_i x4_2)), (0, .ref g), (1, .int (z_i n))]) hx hb dX2_waysAbove_16 hl (by decide) rfl (fun ls hl => ?_)
    refine lv_iload hx hb dX2_waysAbove_18 (lv_at hl 0 rfl) ?_
    refine lv_iconst (v := z_i (-1)) hx hb dX2_waysAbove_20 rfl ?_
    refine lx_icmp_eq (tgt := 40) hx hb dX2_waysAbove_21 (by decide) h_r3 (show z_in (-1) from ⟨by decide, by decide⟩) (fun hc => ?_) (fun hc => ?_)
    · have hv := hv.1 hc
      refine lv_iinc (v := z_i (x4_3 + 1)) (lv' := [(3, .int (z_i (x4_3 + 1))), (4, .int (z_i r3)), (2, .int (z_i x4_2)), (0, .ref g), (1, .int (z_i n))]) hx hb dX2_waysAbove_40 hl (k := 1) rfl (z_i_add _ _) (by decide) rfl (fun ls hl => ?_)
      refine lv_goto (tgt := 4) hx hb dX2_waysAbove_43 (by decide) ?_
      exact hv _ _ ls hP hS (lv_sub hl [0, 2, 3, 4] rfl)
    · have hv := hv.2 hc
      refine lv_aload_n hx hb dX2_waysAbove_24 rfl (lv_at hl 3 rfl) ?_
      refine lv_iload hx hb dX2_waysAbove_25 (lv_at hl 0 rfl) ?_
      refine lv_iload_n hx hb dX2_waysAbove_27 rfl (lv_at hl 4 rfl) ?_
      refine va_calli (va_runV (As := [.int (z_i r3), .int (z_i n)]) (rest := []) ⟨hx, hb, hml, hown, hts⟩ (mt_X2_isAbove l D cA g ga_units g_units ga_lengths g_lengths ga_offsets g_offsets g_step r3 n h_g_step h_r3 h_n) (cwV 2 hts gX2_waysAbove_X2_isAbove rfl rfl rfl (by decide +kernel) ⟨Nat.le_of_ble_eq_true rfl, Nat.le_of_ble_eq_true rfl⟩) ⟨z_bl0, va_recv hK hP (ci := 1) (q0 := 0) rfl rfl, fun U hU hW => ⟨rfl, z_b0 hK hP hU hW⟩⟩ rfl rfl hl.1 rfl (lv_room (Nat.le_of_ble_eq_true rfl)) dX2_waysAbove_28 ⟨Nat.zero_le _, Nat.zero_le _⟩) hS (fun q _ h => h.elim) (fun q h => h.elim) (fun r0 u t H locs ht hvm hw hB hz1 hk1 hS => ?_)
      obtain ⟨r4, rfl, h_r4, hw⟩ := hw
      have hP := z_P_all hP hk1
      have hv := hv r4 h_r4 hw
      refine lx_if_eq (tgt := 40) hx hb dX2_waysAbove_31 (by decide) h_r4 (fun hc => ?_) (fun hc => ?_)
      · have hv := hv.1 hc
        refine lv_iinc (v := z_i (x4_3 + 1)) (lv' := [(3, .int (z_i (x4_3 + 1))), (4, .int (z_i r3)), (2, .int (z_i x4_2)), (0, .ref g), (1, .int (z_i n))]) hx hb dX2_waysAbove_40 hl (k := 1) rfl (z_i_add _ _) (by decide) rfl (fun ls hl => ?_)
        refine lv_goto (tgt := 4) hx hb dX2_waysAbove_43 (by decide) ?_
        exact hv _ _ ls hP hS (lv_sub hl [0, 2, 3, 4] rfl)
      · have hv := hv.2 hc
        refine lv_iload_n hx hb dX2_waysAbove_34 rfl (lv_at hl 2 rfl) ?_
        refine lv_iconst (v := z_i 1) hx hb dX2_waysAbove_35 rfl ?_
        refine lv_iload_n hx hb dX2_waysAbove_36 rfl (lv_at hl 1 rfl) ?_
        refine lx_ishl hx hb dX2_waysAbove_37 ?_
        refine lx_ior hx hb dX2_waysAbove_38 ?_
        refine lx_topi (fun v5 hy6 => ?_)
        have hv := hv v5 hy6
        have h_v5 : z_in v5 := by rw [hy6]; exact (z_in_of _)
        refine lv_istore_n (lv' := [(2, .int (z_i v5)), (4, .int (z_i r3)), (3, .int (z_i x4_3)), (0, .ref g), (1, .int (z_i n))]) hx hb dX2_waysAbove_39 rfl hl (by decide) rfl (fun ls hl => ?_)
        refine lv_iinc (v := z_i (x4_3 + 1)) (lv' := [(3, .int (z_i (x4_3 + 1))), (2, .int (z_i v5)), (4, .int (z_i r3)), (0, .ref g), (1, .int (z_i n))]) hx hb dX2_waysAbove_40 hl (k := 2) rfl (z_i_add _ _) (by decide) rfl (fun ls hl => ?_)
        refine lv_goto (tgt := 4) hx hb dX2_waysAbove_43 (by decide) ?_
        exact hv _ _ ls hP hS (lv_sub hl [0, 1, 3, 4] rfl)
set_option maxHeartbeats 4000000 in
set_option maxRecDepth 100000 in
theorem mt_X2_waysAbove (l : Launch) (D : va_G) (cA : Nat → ClassId) (t1 t2 : Nat) (g : Nat) (ga_units : Nat) (g_units : Nat → Int32) (ga_lengths : Nat) (g_lengths : Nat → Int32) (ga_offsets : Nat) (g_offsets : Nat → Int32) (g_step : Int) (n : Int) (h_g_step : z_in g_step) (h_n : z_in n) (hp1 : 0 ≤ n ∧ n < 1280) : Met l yX2_waysAbove wsX2_waysAbove ({ frames := 3, cells := 0, slots := 0, locals := 66 } : Room) (va_Pc [.ref g, .int (z_i n)] (z_B1 D cA t1 t2 [(g, .inr (1, [.ref ga_units, .ref ga_lengths, .ref ga_offsets, .int (z_i g_step)])), (ga_units, .inl (cA 1, 1280, .inl g_units)), (ga_lengths, .inl (cA 1, 32, .inl g_lengths)), (ga_offsets, .inl (cA 1, 32, .inl g_offsets))])) (va_Qi (z_ri (fun (r : Int) => r = m_wa (g_th g_units) (g_at g_units) n)) (fun _ _ => True) (fun _ => False)) 0 0 (fun _ => False) := by
  refine wk_X2_waysAbove l D cA t1 t2 g ga_units g_units ga_lengths g_lengths ga_offsets g_offsets g_step n h_g_step h_n (fun (r : Int) => r = m_wa (g_th g_units) (g_at g_units) n) ?_
  unfold vc_X2_waysAbove
  intro L hL
  suffices H : ∀ (d k : Nat), k + d = 8 → L (k : Int) (m_waK (g_th g_units) (g_at g_units) n k) from H 8 0 rfl
  intro d
  induction d with
  | zero =>
    intro k hk
    have hb := m_waK_b (g_th g_units) (g_at g_units) n k
    have hk8 : k = 8 := by omega
    subst hk8
    have h3 : (2 : Int) ^ 8 = 256 := by decide
    exact hL _ _ ⟨by omega, by omega⟩ ⟨by omega, by omega⟩ ⟨fun _ => rfl, fun h => absurd h (by omega)⟩
  | succ d ih =>
    intro k hk
    have hb := m_waK_b (g_th g_units) (g_at g_units) n k
    have h2 : (2 : Int) ^ k ≤ 2 ^ 7 := by exact_mod_cast Nat.pow_le_pow_right (n := 2) (by decide) (by omega : k ≤ 7)
    have h3 : (2 : Int) ^ 7 = 128 := by decide
    refine hL _ _ ⟨by omega, by omega⟩ ⟨by omega, by omega⟩ ⟨fun h => absurd h (by omega), fun h => ⟨hp1, ⟨by omega, h⟩, ?_⟩⟩
    rintro r hr rfl
    have h9 := ih (k + 1) (by omega)
    unfold m_waK at h9
    refine ⟨fun q => ?_, fun q => ?_⟩
    · rw [if_neg (fun z => z.1 q)] at h9; simpa using h9
    · rintro r4 hr4 rfl
      refine ⟨fun q2 => ?_, fun q2 => ?_⟩
      · rw [if_neg (fun z => by rw [z.2] at q2; exact absurd q2 (by decide))] at h9; simpa using h9
      · rintro v rfl
        rw [if_pos ⟨q, by cases hc : m_ab (g_at g_units) (m_nb (g_th g_units) n k) n; (rw [hc] at q2; exact absurd rfl q2); rfl⟩] at h9
        rw [z_or_bit' (by omega) hb.1 hb.2]
        simpa using h9
def vc_X2_isPeak (g_units : Nat → Int32) (n : Int) (Q : Int → Prop) : Prop :=
(0 ≤ n ∧ n < 1280) ∧ (∀ (r2 : Int), z_in r2 → (r2 = m_wa (g_th g_units) (g_at g_units) n) → ((r2 ≠ 0 → Q 0) ∧
(r2 = 0 → Q 1)))
set_option maxHeartbeats 4000000 in
set_option maxRecDepth 100000 in
theorem wk_X2_isPeak (l : Launch) (D : va_G) (cA : Nat → ClassId) (t1 t2 : Nat) (g : Nat) (ga_units : Nat) (g_units : Nat → Int32) (ga_lengths : Nat) (g_lengths : Nat → Int32) (ga_offsets : Nat) (g_offsets : Nat → Int32) (g_step : Int) (n : Int) (h_g_step : z_in g_step) (h_n : z_in n) (Q : Int → Prop) (hv : vc_X2_isPeak g_units n Q) : Met l yX2_isPeak wsX2_isPeak ({ frames := 4, cells := 0, slots := 0, locals := 90 } : Room) (va_Pc [.ref g, .int (z_i n)] (z_B1 D cA t1 t2 [(g, .inr (1, [.ref ga_units, .ref ga_lengths, .ref ga_offsets, .int (z_i g_step)])), (ga_units, .inl (cA 1, 1280, .inl g_units)), (ga_lengths, .inl (cA 1, 32, .inl g_lengths)), (ga_offsets, .inl (cA 1, 32, .inl g_offsets))])) (va_Qi (z_ri Q) (fun _ _ => True) (fun _ => False)) 0 0 (fun _ => False) := by
  unfold vc_X2_isPeak at hv
  refine Met.ofW (cc := cX2_isPeak) (maxL := 2) (ret := (some .boolean)) (by decide +kernel) rfl ?_
  intro p e s m args below meth c s₁ B hml hv0
  obtain ⟨rfl, ⟨hK, hP⟩, hST⟩ := hv0
  have hx := B.exec
  have hb := B.bytes
  have hr := B.returns
  have hts := atoms_spec (ws := wsX2_isPeak) B.pre
  have hown : s.vm.findClass RX2 = some m.cls := findClass_of_methodNamed B.named
  have hlocks := B.notSynchronized
  have hS : va_S (fun _ : Nat => False) s.heap s.heap [] := va_S.rf
  have hl := lv_entry ([.ref g, .int (z_i n)]) (n := 2) (Nat.le_of_ble_eq_true rfl)
  rw [lg_entry_eq]
  generalize (lg_sl ([.ref g, .int (z_i n)]) ++ List.replicate (2 - (lg_sl ([.ref g, .int (z_i n)])).length) Slot.unset).toArray = ls at hl ⊢
  have hl : lv_has ls 2 [(0, .ref g), (1, .int (z_i n))] := hl
  refine lv_aload_n hx hb dX2_isPeak_0 rfl (lv_at hl 0 rfl) ?_
  refine lv_iload_n hx hb dX2_isPeak_1 rfl (lv_at hl 1 rfl) ?_
  obtain ⟨hp1, hv⟩ := hv
  refine va_calli (va_runV (As := [.int (z_i n)]) (rest := []) ⟨hx, hb, hml, hown, hts⟩ (mt_X2_waysAbove l D cA t1 t2 g ga_units g_units ga_lengths g_lengths ga_offsets g_offsets g_step n h_g_step h_n hp1) (cwV 1 hts gX2_isPeak_X2_waysAbove rfl rfl rfl (by decide +kernel) ⟨Nat.le_of_ble_eq_true rfl, Nat.le_of_ble_eq_true rfl⟩) ⟨z_bl1, va_recv hK hP (ci := 1) (q0 := 0) rfl rfl, fun U hU hW => ⟨rfl, z_b1 hK hP (hST.at hS (fun _ h => h.elim)) hU hW⟩⟩ rfl rfl hl.1 rfl (lv_room (Nat.le_of_ble_eq_true rfl)) dX2_isPeak_2 ⟨Nat.zero_le _, Nat.zero_le _⟩) hS (fun q _ h => h.elim) (fun q h => h.elim) (fun r0 u t H locs ht hvm hw hB hz1 hk1 hS => ?_)
  obtain ⟨r2, rfl, h_r2, hw⟩ := hw
  have hP := z_P_all hP hk1
  have hv := hv r2 h_r2 hw
  refine lx_if_ne (tgt := 12) hx hb dX2_isPeak_5 (by decide) h_r2 (fun hc => ?_) (fun hc => ?_)
  · have hv := hv.1 hc
    refine lv_iconst (v := z_i 0) hx hb dX2_isPeak_12 rfl ?_
    exact W.zret (v := z_i 0) hx hb hr (by decide) (fun t ht hW => ⟨⟨z_i 0, (), rfl, ⟨0, rfl, (show z_in 0 from ⟨by decide, by decide⟩), hv⟩, trivial⟩, hS.F ht⟩) hS.2.2 dX2_isPeak_13
  · have hv := hv.2 hc
    refine lv_iconst (v := z_i 1) hx hb dX2_isPeak_8 rfl ?_
    refine lv_goto (tgt := 13) hx hb dX2_isPeak_9 (by decide) ?_
    exact W.zret (v := z_i 1) hx hb hr (by decide) (fun t ht hW => ⟨⟨z_i 1, (), rfl, ⟨1, rfl, (show z_in 1 from ⟨by decide, by decide⟩), hv⟩, trivial⟩, hS.F ht⟩) hS.2.2 dX2_isPeak_13
set_option maxHeartbeats 4000000 in
set_option maxRecDepth 100000 in
theorem mt_X2_isPeak (l : Launch) (D : va_G) (cA : Nat → ClassId) (t1 t2 : Nat) (g : Nat) (ga_units : Nat) (g_units : Nat → Int32) (ga_lengths : Nat) (g_lengths : Nat → Int32) (ga_offsets : Nat) (g_offsets : Nat → Int32) (g_step : Int) (n : Int) (h_g_step : z_in g_step) (h_n : z_in n) (hp1 : 0 ≤ n ∧ n < 1280) : Met l yX2_isPeak wsX2_isPeak ({ frames := 4, cells := 0, slots := 0, locals := 90 } : Room) (va_Pc [.ref g, .int (z_i n)] (z_B1 D cA t1 t2 [(g, .inr (1, [.ref ga_units, .ref ga_lengths, .ref ga_offsets, .int (z_i g_step)])), (ga_units, .inl (cA 1, 1280, .inl g_units)), (ga_lengths, .inl (cA 1, 32, .inl g_lengths)), (ga_offsets, .inl (cA 1, 32, .inl g_offsets))])) (va_Qi (z_ri (fun (r : Int) => r = z_b (decide (m_wa (g_th g_units) (g_at g_units) n = 0)))) (fun _ _ => True) (fun _ => False)) 0 0 (fun _ => False) := by
  refine wk_X2_isPeak l D cA t1 t2 g ga_units g_units ga_lengths g_lengths ga_offsets g_offsets g_step n h_g_step h_n (fun (r : Int) => r = z_b (decide (m_wa (g_th g_units) (g_at g_units) n = 0))) ?_
  unfold vc_X2_isPeak
  refine ⟨hp1, ?_⟩
  rintro r hr rfl
  exact ⟨fun h => by simp [z_b, h], fun h => by simp [z_b, h]⟩
def vc_X2_kindOf (g_units : Nat → Int32) (n : Int) (Q : Int → Prop) : Prop :=
(0 ≤ n ∧ n < 1280) ∧ (∀ (r2 : Int), z_in r2 → (r2 = z_b (decide (m_nc (g_th g_units) n < 8))) → ((r2 = 0 → (0 ≤ n ∧ n < 1280) ∧ (∀ (r4 : Int), z_in r4 → (r4 = m_wa (g_th g_units) (g_at g_units) n) → ((r4 ≠ 0 → ((r4 ≠ 255 → (∀ v5 : Int, v5 = z_and (z_or (z_shl r4 1) (z_shr r4 7)) 255 → (0 ≤ (z_xor r4 v5) ∧ (z_xor r4 v5) < 256) ∧ (∀ (r8 : Int), z_in r8 → (r8 = j_bc (z_xor r4 v5)) → ((r8 < 4 → Q 0) ∧
(r8 ≥ 4 → Q 3))))) ∧
(r4 = 255 → Q 2))) ∧
(r4 = 0 → Q 1)))) ∧
(r2 ≠ 0 → Q 0)))
set_option maxHeartbeats 4000000 in
set_option maxRecDepth 100000 in
theorem wk_X2_kindOf (l : Launch) (D : va_G) (cA : Nat → ClassId) (t1 t2 : Nat) (g : Nat) (ga_units : Nat) (g_units : Nat → Int32) (ga_lengths : Nat) (g_lengths : Nat → Int32) (ga_offsets : Nat) (g_offsets : Nat → Int32) (g_step : Int) (n : Int) (h_g_step : z_in g_step) (h_n : z_in n) (Q : Int → Prop) (hv : vc_X2_kindOf g_units n Q) : Met l yX2_kindOf wsX2_kindOf ({ frames := 5, cells := 0, slots := 0, locals := 110 } : Room) (va_Pc [.ref g, .int (z_i n)] (z_B1 D cA t1 t2 [(g, .inr (1, [.ref ga_units, .ref ga_lengths, .ref ga_offsets, .int (z_i g_step)])), (ga_units, .inl (cA 1, 1280, .inl g_units)), (ga_lengths, .inl (cA 1, 32, .inl g_lengths)), (ga_offsets, .inl (cA 1, 32, .inl g_offsets))])) (va_Qi (z_ri Q) (fun _ _ => True) (fun _ => False)) 0 0 (fun _ => False) := by
  unfold vc_X2_kindOf at hv
  refine Met.ofW (cc := cX2_kindOf) (maxL := 4) (ret := (some .int)) (by decide +kernel) rfl ?_
  intro p e s m args below meth c s₁ B hml hv0
  obtain ⟨rfl, ⟨hK, hP⟩, hST⟩ := hv0
  have hx := B.exec
  have hb := B.bytes
  have hr := B.returns
  have hts := atoms_spec (ws := wsX2_kindOf) B.pre
  have hown : s.vm.findClass RX2 = some m.cls := findClass_of_methodNamed B.named
  have hlocks := B.notSynchronized
  have hS : va_S (fun _ : Nat => False) s.heap s.heap [] := va_S.rf
  have hl := lv_entry ([.ref g, .int (z_i n)]) (n := 4) (Nat.le_of_ble_eq_true rfl)
  rw [lg_entry_eq]
  generalize (lg_sl ([.ref g, .int (z_i n)]) ++ List.replicate (4 - (lg_sl ([.ref g, .int (z_i n)])).length) Slot.unset).toArray = ls at hl ⊢
  have hl : lv_has ls 4 [(0, .ref g), (1, .int (z_i n))] := hl
  refine lv_aload_n hx hb dX2_kindOf_0 rfl (lv_at hl 0 rfl) ?_
  refine lv_iload_n hx hb dX2_kindOf_1 rfl (lv_at hl 1 rfl) ?_
  obtain ⟨hp1, hv⟩ := hv
  refine va_calli (va_runV (As := [.int (z_i n)]) (rest := []) ⟨hx, hb, hml, hown, hts⟩ (mt_X2_isRim l D cA t1 t2 g ga_units g_units ga_lengths g_lengths ga_offsets g_offsets g_step n h_g_step h_n hp1) (cwV 1 hts gX2_kindOf_X2_isRim rfl rfl rfl (by decide +kernel) ⟨Nat.le_of_ble_eq_true rfl, Nat.le_of_ble_eq_true rfl⟩) ⟨z_bl1, va_recv hK hP (ci := 1) (q0 := 0) rfl rfl, fun U hU hW => ⟨rfl, z_b1 hK hP (hST.at hS (fun _ h => h.elim)) hU hW⟩⟩ rfl rfl hl.1 rfl (lv_room (Nat.le_of_ble_eq_true rfl)) dX2_kindOf_2 ⟨Nat.zero_le _, Nat.zero_le _⟩) hS (fun q _ h => h.elim) (fun q h => h.elim) (fun r0 u t H locs ht hvm hw hB hz1 hk1 hS => ?_)
  obtain ⟨r2, rfl, h_r2, hw⟩ := hw
  have hP := z_P_all hP hk1
  have hv := hv r2 h_r2 hw
  refine lx_if_eq (tgt := 10) hx hb dX2_kindOf_5 (by decide) h_r2 (fun hc => ?_) (fun hc => ?_)
  · have hv := hv.1 hc
    refine lv_aload_n hx hb dX2_kindOf_10 rfl (lv_at hl 0 rfl) ?_
    refine lv_iload_n hx hb dX2_kindOf_11 rfl (lv_at hl 1 rfl) ?_
    obtain ⟨hp3, hv⟩ := hv
    refine va_calli (va_runV (As := [.int (z_i n)]) (rest := []) ⟨hx, hb, hml, hown, hts⟩ (mt_X2_waysAbove l D cA t1 t2 g ga_units g_units ga_lengths g_lengths ga_offsets g_offsets g_step n h_g_step h_n hp3) (cwV 1 hts gX2_kindOf_X2_waysAbove rfl rfl rfl (by decide +kernel) ⟨Nat.le_of_ble_eq_true rfl, Nat.le_of_ble_eq_true rfl⟩) ⟨z_bl1, va_recv hK hP (ci := 1) (q0 := 0) rfl rfl, fun U hU hW => ⟨rfl, z_b1 hK hP (hST.at hS (fun _ h => h.elim)) hU hW⟩⟩ rfl rfl hl.1 rfl (lv_room (Nat.le_of_ble_eq_true rfl)) dX2_kindOf_12 ⟨Nat.zero_le _, Nat.zero_le _⟩) hS (fun q _ h => h.elim) (fun q h => h.elim) (fun r0 u t H locs ht hvm hw hB hz1 hk1 hS => ?_)
    obtain ⟨r4, rfl, h_r4, hw⟩ := hw
    have hP := z_P_all hP hk1
    have hv := hv r4 h_r4 hw
    refine lv_istore_n (lv' := [(2, .int (z_i r4)), (0, .ref g), (1, .int (z_i n))]) hx hb dX2_kindOf_15 rfl hl (by decide) rfl (fun ls hl => ?_)
    refine lv_iload_n hx hb dX2_kindOf_16 rfl (lv_at hl 0 rfl) ?_
    refine lx_if_ne (tgt := 22) hx hb dX2_kindOf_17 (by decide) h_r4 (fun hc => ?_) (fun hc => ?_)
    · have hv := hv.1 hc
      refine lv_iload_n hx hb dX2_kindOf_22 rfl (lv_at hl 0 rfl) ?_
      refine lv_sipush (v := z_i 255) hx hb dX2_kindOf_23 (by decide) ?_
      refine lx_icmp_ne (tgt := 31) hx hb dX2_kindOf_26 (by decide) h_r4 (show z_in 255 from ⟨by decide, by decide⟩) (fun hc => ?_) (fun hc => ?_)
      · have hv := hv.1 hc
        refine lv_iload_n hx hb dX2_kindOf_31 rfl (lv_at hl 0 rfl) ?_
        refine lv_iconst (v := z_i 1) hx hb dX2_kindOf_32 rfl ?_
        refine lx_ishl hx hb dX2_kindOf_33 ?_
        refine lv_iload_n hx hb dX2_kindOf_34 rfl (lv_at hl 0 rfl) ?_
        refine lv_bipush (v := z_i 7) hx hb dX2_kindOf_35 (by decide) ?_
        refine lx_ishr hx hb dX2_kindOf_37 ?_
        refine lx_ior hx hb dX2_kindOf_38 ?_
        refine lv_sipush (v := z_i 255) hx hb dX2_kindOf_39 (by decide) ?_
        refine lx_iand hx hb dX2_kindOf_42 ?_
        refine lx_topi (fun v5 hy6 => ?_)
        have hv := hv v5 hy6
        have h_v5 : z_in v5 := by rw [hy6]; exact (z_in_of _)
        refine lv_istore_n (lv' := [(3, .int (z_i v5)), (2, .int (z_i r4)), (0, .ref g), (1, .int (z_i n))]) hx hb dX2_kindOf_43 rfl hl (by decide) rfl (fun ls hl => ?_)
        refine lv_iload_n hx hb dX2_kindOf_44 rfl (lv_at hl 1 rfl) ?_
        refine lv_iload_n hx hb dX2_kindOf_45 rfl (lv_at hl 0 rfl) ?_
        refine lx_ixor hx hb dX2_kindOf_46 ?_
        obtain ⟨hp7, hv⟩ := hv
        refine va_calli (va_runS (As := [.int (z_i (z_xor r4 v5))]) (rest := []) ⟨hx, hb, hml, hown, hts⟩ (mt_J6_bitCount_0f7a4 l D cA (z_xor r4 v5) (z_in_of _) hp7) (va_cwS 1 hts gX2_kindOf_J6_bitCount_0f7a4 rfl rfl rfl (by decide +kernel) ⟨Nat.le_of_ble_eq_true rfl, Nat.le_of_ble_eq_true rfl⟩) ⟨z_bl0, fun U hU hW => ⟨rfl, z_b0 hK (hP.sub (ws' := []) [] rfl) hU hW⟩⟩ rfl rfl hl.1 rfl (lv_room (Nat.le_of_ble_eq_true rfl)) dX2_kindOf_47 ⟨Nat.zero_le _, Nat.zero_le _⟩) hS (fun q _ h => h.elim) (fun q h => h.elim) (fun r0 u t H locs ht hvm hw hB hz1 hk1 hS => ?_)
        obtain ⟨r8, rfl, h_r8, hw⟩ := hw
        have hP := z_P_all hP hk1
        have hv := hv r8 h_r8 hw
        refine lv_iconst (v := z_i 4) hx hb dX2_kindOf_50 rfl ?_
        refine lx_icmp_lt (tgt := 58) hx hb dX2_kindOf_51 (by decide) h_r8 (show z_in 4 from ⟨by decide, by decide⟩) (fun hc => ?_) (fun hc => ?_)
        · have hv := hv.1 hc
          refine lv_iconst (v := z_i 0) hx hb dX2_kindOf_58 rfl ?_
          exact W.iret (v := z_i 0) hx hb hr (fun t ht hW => ⟨⟨z_i 0, (), rfl, ⟨0, rfl, (show z_in 0 from ⟨by decide, by decide⟩), hv⟩, trivial⟩, hS.F ht⟩) hS.2.2 dX2_kindOf_59
        · have hv := hv.2 hc
          refine lv_iconst (v := z_i 3) hx hb dX2_kindOf_54 rfl ?_
          refine lv_goto (tgt := 59) hx hb dX2_kindOf_55 (by decide) ?_
          exact W.iret (v := z_i 3) hx hb hr (fun t ht hW => ⟨⟨z_i 3, (), rfl, ⟨3, rfl, (show z_in 3 from ⟨by decide, by decide⟩), hv⟩, trivial⟩, hS.F ht⟩) hS.2.2 dX2_kindOf_59
      · have hv := hv.2 hc
        refine lv_iconst (v := z_i 2) hx hb dX2_kindOf_29 rfl ?_
        exact W.iret (v := z_i 2) hx hb hr (fun t ht hW => ⟨⟨z_i 2, (), rfl, ⟨2, rfl, (show z_in 2 from ⟨by decide, by decide⟩), hv⟩, trivial⟩, hS.F ht⟩) hS.2.2 dX2_kindOf_30
    · have hv := hv.2 hc
      refine lv_iconst (v := z_i 1) hx hb dX2_kindOf_20 rfl ?_
      exact W.iret (v := z_i 1) hx hb hr (fun t ht hW => ⟨⟨z_i 1, (), rfl, ⟨1, rfl, (show z_in 1 from ⟨by decide, by decide⟩), hv⟩, trivial⟩, hS.F ht⟩) hS.2.2 dX2_kindOf_21
  · have hv := hv.2 hc
    refine lv_iconst (v := z_i 0) hx hb dX2_kindOf_8 rfl ?_
    exact W.iret (v := z_i 0) hx hb hr (fun t ht hW => ⟨⟨z_i 0, (), rfl, ⟨0, rfl, (show z_in 0 from ⟨by decide, by decide⟩), hv⟩, trivial⟩, hS.F ht⟩) hS.2.2 dX2_kindOf_9
set_option maxHeartbeats 4000000 in
set_option maxRecDepth 100000 in
theorem mt_X2_kindOf (l : Launch) (D : va_G) (cA : Nat → ClassId) (t1 t2 : Nat) (g : Nat) (ga_units : Nat) (g_units : Nat → Int32) (ga_lengths : Nat) (g_lengths : Nat → Int32) (ga_offsets : Nat) (g_offsets : Nat → Int32) (g_step : Int) (n : Int) (h_g_step : z_in g_step) (h_n : z_in n) (hp1 : 0 ≤ n ∧ n < 1280) : Met l yX2_kindOf wsX2_kindOf ({ frames := 5, cells := 0, slots := 0, locals := 110 } : Room) (va_Pc [.ref g, .int (z_i n)] (z_B1 D cA t1 t2 [(g, .inr (1, [.ref ga_units, .ref ga_lengths, .ref ga_offsets, .int (z_i g_step)])), (ga_units, .inl (cA 1, 1280, .inl g_units)), (ga_lengths, .inl (cA 1, 32, .inl g_lengths)), (ga_offsets, .inl (cA 1, 32, .inl g_offsets))])) (va_Qi (z_ri (fun (r : Int) => r = m_kd (g_th g_units) (g_at g_units) n)) (fun _ _ => True) (fun _ => False)) 0 0 (fun _ => False) := by
  refine wk_X2_kindOf l D cA t1 t2 g ga_units g_units ga_lengths g_lengths ga_offsets g_offsets g_step n h_g_step h_n (fun (r : Int) => r = m_kd (g_th g_units) (g_at g_units) n) ?_
  unfold vc_X2_kindOf
  refine ⟨hp1, ?_⟩
  rintro r hr rfl
  unfold m_kd
  by_cases h8 : m_nc (g_th g_units) n < 8
  · refine ⟨fun h => absurd h (by simp [z_b, h8]), fun _ => by rw [if_pos h8]⟩
  · refine ⟨fun _ => ⟨hp1, ?_⟩, fun h => absurd (by simp [z_b, h8]) h⟩
    rw [if_neg h8]
    rintro r4 hr4 rfl
    have hb := m_waK_b (g_th g_units) (g_at g_units) n 8
    have h3 : (2 : Int) ^ 8 = 256 := by decide
    have hb2 : 0 ≤ m_wa (g_th g_units) (g_at g_units) n ∧ m_wa (g_th g_units) (g_at g_units) n < 256 := ⟨hb.1, by rw [← h3]; exact hb.2⟩
    generalize m_wa (g_th g_units) (g_at g_units) n = w at *
    unfold m_km
    refine ⟨fun h0 => ⟨fun h1 => ?_, fun h1 => ?_⟩, fun h0 => ?_⟩
    · rintro v5 rfl
      refine ⟨z_fin (P := fun w => 0 ≤ z_xor w (z_and (z_or (z_shl w 1) (z_shr w 7)) 255) ∧ z_xor w (z_and (z_or (z_shl w 1) (z_shr w 7)) 255) < 256) z_turn hb2.1 hb2.2, ?_⟩
      rintro r8 hr8 rfl
      rw [if_neg h0, if_neg h1]
      exact ⟨fun q => by rw [if_neg (by omega)], fun q => by rw [if_pos q]⟩
    · rw [if_neg h0, if_pos h1]
    · rw [if_pos h0]
def vc_X2_isWhole (g_units : Nat → Int32) (n : Int) (Q : Int → Prop) : Prop :=
(∀ (r1 : Int), z_in r1 → (r1 = z_b (g_th g_units n)) → ((r1 = 0 → Q 0) ∧
(r1 ≠ 0 → (0 ≤ n ∧ n < 1280) ∧ (0 ≤ (3 : Int) ∧ (3 : Int) < 8) ∧ (∀ (r4 : Int), z_in r4 → (r4 = m_nb (g_th g_units) n (3 : Int)) → ((r4 = -1 → Q 0) ∧
(r4 ≠ -1 → (0 ≤ n ∧ n < 1280) ∧ (0 ≤ (4 : Int) ∧ (4 : Int) < 8) ∧ (∀ (r7 : Int), z_in r7 → (r7 = m_nb (g_th g_units) n (4 : Int)) → ((r7 = -1 → Q 0) ∧
(r7 ≠ -1 → (0 ≤ n ∧ n < 1280) ∧ (0 ≤ (5 : Int) ∧ (5 : Int) < 8) ∧ (∀ (r10 : Int), z_in r10 → (r10 = m_nb (g_th g_units) n (5 : Int)) → ((r10 = -1 → Q 0) ∧
(r10 ≠ -1 → Q 1))))))))))))
set_option maxHeartbeats 4000000 in
set_option maxRecDepth 100000 in
theorem wk_X2_isWhole (l : Launch) (D : va_G) (cA : Nat → ClassId) (t1 t2 : Nat) (g : Nat) (ga_units : Nat) (g_units : Nat → Int32) (ga_lengths : Nat) (g_lengths : Nat → Int32) (ga_offsets : Nat) (g_offsets : Nat → Int32) (g_step : Int) (n : Int) (h_g_step : z_in g_step) (h_n : z_in n) (Q : Int → Prop) (hv : vc_X2_isWhole g_units n Q) : Met l yX2_isWhole wsX2_isWhole ({ frames := 3, cells := 0, slots := 0, locals := 66 } : Room) (va_Pc [.ref g, .int (z_i n)] (z_B1 D cA t1 t2 [(g, .inr (1, [.ref ga_units, .ref ga_lengths, .ref ga_offsets, .int (z_i g_step)])), (ga_units, .inl (cA 1, 1280, .inl g_units)), (ga_lengths, .inl (cA 1, 32, .inl g_lengths)), (ga_offsets, .inl (cA 1, 32, .inl g_offsets))])) (va_Qi (z_ri Q) (fun _ _ => True) (fun _ => False)) 0 0 (fun _ => False) := by
  unfold vc_X2_isWhole at hv
  refine Met.ofW (cc := cX2_isWhole) (maxL := 2) (ret := (some .boolean)) (by decide +kernel) rfl ?_
  intro p e s m args below meth c s₁ B hml hv0
  obtain ⟨rfl, ⟨hK, hP⟩, hST⟩ := hv0
  have hx := B.exec
  have hb := B.bytes
  have hr := B.returns
  have hts := atoms_spec (ws := wsX2_isWhole) B.pre
  have hown : s.vm.findClass RX2 = some m.cls := findClass_of_methodNamed B.named
  have hlocks := B.notSynchronized
  have hS : va_S (fun _ : Nat => False) s.heap s.heap [] := va_S.rf
  have hl := lv_entry ([.ref g, .int (z_i n)]) (n := 2) (Nat.le_of_ble_eq_true rfl)
  rw [lg_entry_eq]
  generalize (lg_sl ([.ref g, .int (z_i n)]) ++ List.replicate (2 - (lg_sl ([.ref g, .int (z_i n)])).length) Slot.unset).toArray = ls at hl ⊢
  have hl : lv_has ls 2 [(0, .ref g), (1, .int (z_i n))] := hl
  refine lv_aload_n hx hb dX2_isWhole_0 rfl (lv_at hl 0 rfl) ?_
  refine lv_iload_n hx hb dX2_isWhole_1 rfl (lv_at hl 1 rfl) ?_
  refine va_calli (va_runV (As := [.int (z_i n)]) (rest := []) ⟨hx, hb, hml, hown, hts⟩ (mt_X2_isThere l D cA g ga_units g_units ga_lengths g_lengths ga_offsets g_offsets g_step n h_g_step h_n) (cwV 1 hts gX2_isWhole_X2_isThere rfl rfl rfl (by decide +kernel) ⟨Nat.le_of_ble_eq_true rfl, Nat.le_of_ble_eq_true rfl⟩) ⟨z_bl0, va_recv hK hP (ci := 1) (q0 := 0) rfl rfl, fun U hU hW => ⟨rfl, z_b0 hK hP hU hW⟩⟩ rfl rfl hl.1 rfl (lv_room (Nat.le_of_ble_eq_true rfl)) dX2_isWhole_2 ⟨Nat.zero_le _, Nat.zero_le _⟩) hS (fun q _ h => h.elim) (fun q h => h.elim) (fun r0 u t H locs ht hvm hw hB hz1 hk1 hS => ?_)
  obtain ⟨r1, rfl, h_r1, hw⟩ := hw
  have hP := z_P_all hP hk1
  have hv := hv r1 h_r1 hw
  refine lx_if_eq (tgt := 42) hx hb dX2_isWhole_5 (by decide) h_r1 (fun hc => ?_) (fun hc => ?_)
  · have hv := hv.1 hc
    refine lv_iconst (v := z_i 0) hx hb dX2_isWhole_42 rfl ?_
    exact W.zret (v := z_i 0) hx hb hr (by decide) (fun t ht hW => ⟨⟨z_i 0, (), rfl, ⟨0, rfl, (show z_in 0 from ⟨by decide, by decide⟩), hv⟩, trivial⟩, hS.F ht⟩) hS.2.2 dX2_isWhole_43
  · have hv := hv.2 hc
    refine lv_aload_n hx hb dX2_isWhole_8 rfl (lv_at hl 0 rfl) ?_
    refine lv_iload_n hx hb dX2_isWhole_9 rfl (lv_at hl 1 rfl) ?_
    refine lv_iconst (v := z_i 3) hx hb dX2_isWhole_10 rfl ?_
    obtain ⟨hp2, hv⟩ := hv
    obtain ⟨hp3, hv⟩ := hv
    refine va_calli (va_runV (As := [.int (z_i n), .int (z_i 3)]) (rest := []) ⟨hx, hb, hml, hown, hts⟩ (mt_X2_neighbour l D cA t1 t2 g ga_units g_units ga_lengths g_lengths ga_offsets g_offsets g_step n 3 h_g_step h_n (show z_in 3 from ⟨by decide, by decide⟩) hp2 hp3) (cwV 2 hts gX2_isWhole_X2_neighbour rfl rfl rfl (by decide +kernel) ⟨Nat.le_of_ble_eq_true rfl, Nat.le_of_ble_eq_true rfl⟩) ⟨z_bl1, va_recv hK hP (ci := 1) (q0 := 0) rfl rfl, fun U hU hW => ⟨rfl, z_b1 hK hP (hST.at hS (fun _ h => h.elim)) hU hW⟩⟩ rfl rfl hl.1 rfl (lv_room (Nat.le_of_ble_eq_true rfl)) dX2_isWhole_11 ⟨Nat.zero_le _, Nat.zero_le _⟩) hS (fun q _ h => h.elim) (fun q h => h.elim) (fun r0 u t H locs ht hvm hw hB hz1 hk1 hS => ?_)
    obtain ⟨r4, rfl, h_r4, hw⟩ := hw
    have hP := z_P_all hP hk1
    have hv := hv r4 h_r4 hw
    refine lv_iconst (v := z_i (-1)) hx hb dX2_isWhole_14 rfl ?_
    refine lx_icmp_eq (tgt := 42) hx hb dX2_isWhole_15 (by decide) h_r4 (show z_in (-1) from ⟨by decide, by decide⟩) (fun hc => ?_) (fun hc => ?_)
    · have hv := hv.1 hc
      refine lv_iconst (v := z_i 0) hx hb dX2_isWhole_42 rfl ?_
      exact W.zret (v := z_i 0) hx hb hr (by decide) (fun t ht hW => ⟨⟨z_i 0, (), rfl, ⟨0, rfl, (show z_in 0 from ⟨by decide, by decide⟩), hv⟩, trivial⟩, hS.F ht⟩) hS.2.2 dX2_isWhole_43
    · have hv := hv.2 hc
      refine lv_aload_n hx hb dX2_isWhole_18 rfl (lv_at hl 0 rfl) ?_
      refine lv_iload_n hx hb dX2_isWhole_19 rfl (lv_at hl 1 rfl) ?_
      refine lv_iconst (v := z_i 4) hx hb dX2_isWhole_20 rfl ?_
      obtain ⟨hp5, hv⟩ := hv
      obtain ⟨hp6, hv⟩ := hv
      refine va_calli (va_runV (As := [.int (z_i n), .int (z_i 4)]) (rest := []) ⟨hx, hb, hml, hown, hts⟩ (mt_X2_neighbour l D cA t1 t2 g ga_units g_units ga_lengths g_lengths ga_offsets g_offsets g_step n 4 h_g_step h_n (show z_in 4 from ⟨by decide, by decide⟩) hp5 hp6) (cwV 2 hts gX2_isWhole_X2_neighbour rfl rfl rfl (by decide +kernel) ⟨Nat.le_of_ble_eq_true rfl, Nat.le_of_ble_eq_true rfl⟩) ⟨z_bl1, va_recv hK hP (ci := 1) (q0 := 0) rfl rfl, fun U hU hW => ⟨rfl, z_b1 hK hP (hST.at hS (fun _ h => h.elim)) hU hW⟩⟩ rfl rfl hl.1 rfl (lv_room (Nat.le_of_ble_eq_true rfl)) dX2_isWhole_21 ⟨Nat.zero_le _, Nat.zero_le _⟩) hS (fun q _ h => h.elim) (fun q h => h.elim) (fun r0 u t H locs ht hvm hw hB hz1 hk1 hS => ?_)
      obtain ⟨r7, rfl, h_r7, hw⟩ := hw
      have hP := z_P_all hP hk1
      have hv := hv r7 h_r7 hw
      refine lv_iconst (v := z_i (-1)) hx hb dX2_isWhole_24 rfl ?_
      refine lx_icmp_eq (tgt := 42) hx hb dX2_isWhole_25 (by decide) h_r7 (show z_in (-1) from ⟨by decide, by decide⟩) (fun hc => ?_) (fun hc => ?_)
      · have hv := hv.1 hc
        refine lv_iconst (v := z_i 0) hx hb dX2_isWhole_42 rfl ?_
        exact W.zret (v := z_i 0) hx hb hr (by decide) (fun t ht hW => ⟨⟨z_i 0, (), rfl, ⟨0, rfl, (show z_in 0 from ⟨by decide, by decide⟩), hv⟩, trivial⟩, hS.F ht⟩) hS.2.2 dX2_isWhole_43
      · have hv := hv.2 hc
        refine lv_aload_n hx hb dX2_isWhole_28 rfl (lv_at hl 0 rfl) ?_
        refine lv_iload_n hx hb dX2_isWhole_29 rfl (lv_at hl 1 rfl) ?_
        refine lv_iconst (v := z_i 5) hx hb dX2_isWhole_30 rfl ?_
        obtain ⟨hp8, hv⟩ := hv
        obtain ⟨hp9, hv⟩ := hv
        refine va_calli (va_runV (As := [.int (z_i n), .int (z_i 5)]) (rest := []) ⟨hx, hb, hml, hown, hts⟩ (mt_X2_neighbour l D cA t1 t2 g ga_units g_units ga_lengths g_lengths ga_offsets g_offsets g_step n 5 h_g_step h_n (show z_in 5 from ⟨by decide, by decide⟩) hp8 hp9) (cwV 2 hts gX2_isWhole_X2_neighbour rfl rfl rfl (by decide +kernel) ⟨Nat.le_of_ble_eq_true rfl, Nat.le_of_ble_eq_true rfl⟩) ⟨z_bl1, va_recv hK hP (ci := 1) (q0 := 0) rfl rfl, fun U hU hW => ⟨rfl, z_b1 hK hP (hST.at hS (fun _ h => h.elim)) hU hW⟩⟩ rfl rfl hl.1 rfl (lv_room (Nat.le_of_ble_eq_true rfl)) dX2_isWhole_31 ⟨Nat.zero_le _, Nat.zero_le _⟩) hS (fun q _ h => h.elim) (fun q h => h.elim) (fun r0 u t H locs ht hvm hw hB hz1 hk1 hS => ?_)
        obtain ⟨r10, rfl, h_r10, hw⟩ := hw
        have hP := z_P_all hP hk1
        have hv := hv r10 h_r10 hw
        refine lv_iconst (v := z_i (-1)) hx hb dX2_isWhole_34 rfl ?_
        refine lx_icmp_eq (tgt := 42) hx hb dX2_isWhole_35 (by decide) h_r10 (show z_in (-1) from ⟨by decide, by decide⟩) (fun hc => ?_) (fun hc => ?_)
        · have hv := hv.1 hc
          refine lv_iconst (v := z_i 0) hx hb dX2_isWhole_42 rfl ?_
          exact W.zret (v := z_i 0) hx hb hr (by decide) (fun t ht hW => ⟨⟨z_i 0, (), rfl, ⟨0, rfl, (show z_in 0 from ⟨by decide, by decide⟩), hv⟩, trivial⟩, hS.F ht⟩) hS.2.2 dX2_isWhole_43
        · have hv := hv.2 hc
          refine lv_iconst (v := z_i 1) hx hb dX2_isWhole_38 rfl ?_
          refine lv_goto (tgt := 43) hx hb dX2_isWhole_39 (by decide) ?_
          exact W.zret (v := z_i 1) hx hb hr (by decide) (fun t ht hW => ⟨⟨z_i 1, (), rfl, ⟨1, rfl, (show z_in 1 from ⟨by decide, by decide⟩), hv⟩, trivial⟩, hS.F ht⟩) hS.2.2 dX2_isWhole_43
set_option maxHeartbeats 4000000 in
set_option maxRecDepth 100000 in
theorem mt_X2_isWhole (l : Launch) (D : va_G) (cA : Nat → ClassId) (t1 t2 : Nat) (g : Nat) (ga_units : Nat) (g_units : Nat → Int32) (ga_lengths : Nat) (g_lengths : Nat → Int32) (ga_offsets : Nat) (g_offsets : Nat → Int32) (g_step : Int) (n : Int) (h_g_step : z_in g_step) (h_n : z_in n) (hp1 : 0 ≤ n ∧ n < 1280) : Met l yX2_isWhole wsX2_isWhole ({ frames := 3, cells := 0, slots := 0, locals := 66 } : Room) (va_Pc [.ref g, .int (z_i n)] (z_B1 D cA t1 t2 [(g, .inr (1, [.ref ga_units, .ref ga_lengths, .ref ga_offsets, .int (z_i g_step)])), (ga_units, .inl (cA 1, 1280, .inl g_units)), (ga_lengths, .inl (cA 1, 32, .inl g_lengths)), (ga_offsets, .inl (cA 1, 32, .inl g_offsets))])) (va_Qi (z_ri (fun (r : Int) => r = z_b (m_wh (g_th g_units) n))) (fun _ _ => True) (fun _ => False)) 0 0 (fun _ => False) := by
  refine wk_X2_isWhole l D cA t1 t2 g ga_units g_units ga_lengths g_lengths ga_offsets g_offsets g_step n h_g_step h_n (fun (r : Int) => r = z_b (m_wh (g_th g_units) n)) ?_
  unfold vc_X2_isWhole
  unfold m_wh
  rintro r hr rfl
  cases ht : g_th g_units n
  · exact ⟨fun _ => rfl, fun q => absurd rfl q⟩
  refine ⟨fun q => absurd q (by decide), fun _ => ⟨hp1, ⟨by decide, by decide⟩, ?_⟩⟩
  rintro r4 hr4 rfl
  refine ⟨fun q => by simp [q, z_b], fun q => ⟨hp1, ⟨by decide, by decide⟩, ?_⟩⟩
  rintro r7 hr7 rfl
  refine ⟨fun q => by simp [q, z_b], fun q2 => ⟨hp1, ⟨by decide, by decide⟩, ?_⟩⟩
  rintro r10 hr10 rfl
  exact ⟨fun q => by simp [q, z_b], fun q3 => by simp [q, q2, q3, z_b]⟩
def vc_X2_cellSum (g_units : Nat → Int32) (n : Int) (Q : Int → Prop) : Prop :=
(∀ (r1 : Int), z_in r1 → (r1 = g_at g_units n) → z_in (n + 1) ∧ (∀ (r3 : Int), z_in r3 → (r3 = g_at g_units (n + 1)) → z_in (n + 40) ∧ (∀ (r5 : Int), z_in r5 → (r5 = g_at g_units (n + 40)) → z_in ((n + 40) + 1) ∧ (∀ (r7 : Int), z_in r7 → (r7 = g_at g_units ((n + 40) + 1)) → z_in (((r1 + r3) + r5) + r7) ∧ Q (((r1 + r3) + r5) + r7)))))
set_option maxHeartbeats 4000000 in
set_option maxRecDepth 100000 in
theorem wk_X2_cellSum (l : Launch) (D : va_G) (cA : Nat → ClassId) (g : Nat) (ga_units : Nat) (g_units : Nat → Int32) (ga_lengths : Nat) (g_lengths : Nat → Int32) (ga_offsets : Nat) (g_offsets : Nat → Int32) (g_step : Int) (n : Int) (h_g_step : z_in g_step) (h_n : z_in n) (Q : Int → Prop) (hv : vc_X2_cellSum g_units n Q) : Met l yX2_cellSum wsX2_cellSum ({ frames := 1, cells := 0, slots := 0, locals := 21 } : Room) (va_Pc [.ref g, .int (z_i n)] (z_B0 D cA [(g, .inr (1, [.ref ga_units, .ref ga_lengths, .ref ga_offsets, .int (z_i g_step)])), (ga_units, .inl (cA 1, 1280, .inl g_units)), (ga_lengths, .inl (cA 1, 32, .inl g_lengths)), (ga_offsets, .inl (cA 1, 32, .inl g_offsets))])) (va_Qi (z_ri Q) (fun _ _ => True) (fun _ => False)) 0 0 (fun _ => False) := by
  unfold vc_X2_cellSum at hv
  refine Met.ofW (cc := cX2_cellSum) (maxL := 2) (ret := (some .int)) (by decide +kernel) rfl ?_
  intro p e s m args below meth c s₁ B hml hv0
  obtain ⟨rfl, hK, hP⟩ := hv0
  have hx := B.exec
  have hb := B.bytes
  have hr := B.returns
  have hts := atoms_spec (ws := wsX2_cellSum) B.pre
  have hown : s.vm.findClass RX2 = some m.cls := findClass_of_methodNamed B.named
  have hlocks := B.notSynchronized
  have hS : va_S (fun _ : Nat => False) s.heap s.heap [] := va_S.rf
  have hl := lv_entry ([.ref g, .int (z_i n)]) (n := 2) (Nat.le_of_ble_eq_true rfl)
  rw [lg_entry_eq]
  generalize (lg_sl ([.ref g, .int (z_i n)]) ++ List.replicate (2 - (lg_sl ([.ref g, .int (z_i n)])).length) Slot.unset).toArray = ls at hl ⊢
  have hl : lv_has ls 2 [(0, .ref g), (1, .int (z_i n))] := hl
  refine lv_aload_n hx hb dX2_cellSum_0 rfl (lv_at hl 0 rfl) ?_
  refine lv_iload_n hx hb dX2_cellSum_1 rfl (lv_at hl 1 rfl) ?_
  refine va_calli (va_runV (As := [.int (z_i n)]) (rest := []) ⟨hx, hb, hml, hown, hts⟩ (mt_X2_unitsOf l D cA g ga_units g_units ga_lengths g_lengths ga_offsets g_offsets g_step n h_g_step h_n) (cwV 1 hts gX2_cellSum_X2_unitsOf rfl rfl rfl (by decide +kernel) ⟨Nat.le_of_ble_eq_true rfl, Nat.le_of_ble_eq_true rfl⟩) ⟨z_bl0, va_recv hK hP (ci := 1) (q0 := 0) rfl rfl, fun U hU hW => ⟨rfl, z_b0 hK hP hU hW⟩⟩ rfl rfl hl.1 rfl (lv_room (Nat.le_of_ble_eq_true rfl)) dX2_cellSum_2 ⟨Nat.zero_le _, Nat.zero_le _⟩) hS (fun q _ h => h.elim) (fun q h => h.elim) (fun r0 u t H locs ht hvm hw hB hz1 hk1 hS => ?_)
  obtain ⟨r1, rfl, h_r1, hw⟩ := hw
  have hP := z_P_all hP hk1
  have hv := hv r1 h_r1 hw
  refine lv_aload_n hx hb dX2_cellSum_5 rfl (lv_at hl 0 rfl) ?_
  refine lv_iload_n hx hb dX2_cellSum_6 rfl (lv_at hl 1 rfl) ?_
  refine lv_iconst (v := z_i 1) hx hb dX2_cellSum_7 rfl ?_
  refine lx_iadd hx hb dX2_cellSum_8 ?_
  obtain ⟨hr2, hv⟩ := hv
  refine va_calli (va_runV (As := [.int (z_i (n + 1))]) (rest := [.int (z_i r1)]) ⟨hx, hb, hml, hown, hts⟩ (mt_X2_unitsOf l D cA g ga_units g_units ga_lengths g_lengths ga_offsets g_offsets g_step (n + 1) h_g_step hr2) (cwV 1 hts gX2_cellSum_X2_unitsOf rfl rfl rfl (by decide +kernel) ⟨Nat.le_of_ble_eq_true rfl, Nat.le_of_ble_eq_true rfl⟩) ⟨z_bl0, va_recv hK hP (ci := 1) (q0 := 0) rfl rfl, fun U hU hW => ⟨rfl, z_b0 hK hP hU hW⟩⟩ rfl rfl hl.1 rfl (lv_room (Nat.le_of_ble_eq_true rfl)) dX2_cellSum_9 ⟨Nat.zero_le _, Nat.zero_le _⟩) hS (fun q _ h => h.elim) (fun q h => h.elim) (fun r0 u t H locs ht hvm hw hB hz1 hk1 hS => ?_)
  obtain ⟨r3, rfl, h_r3, hw⟩ := hw
  have hP := z_P_all hP hk1
  have hv := hv r3 h_r3 hw
  refine lx_iadd hx hb dX2_cellSum_12 ?_
  refine lv_aload_n hx hb dX2_cellSum_13 rfl (lv_at hl 0 rfl) ?_
  refine lv_iload_n hx hb dX2_cellSum_14 rfl (lv_at hl 1 rfl) ?_
  refine lv_bipush (v := z_i 40) hx hb dX2_cellSum_15 (by decide) ?_
  refine lx_iadd hx hb dX2_cellSum_17 ?_
  obtain ⟨hr4, hv⟩ := hv
  refine va_calli (va_runV (As := [.int (z_i (n + 40))]) (rest := [.int (z_i (r1 + r3))]) ⟨hx, hb, hml, hown, hts⟩ (mt_X2_unitsOf l D cA g ga_units g_units ga_lengths g_lengths ga_offsets g_offsets g_step (n + 40) h_g_step hr4) (cwV 1 hts gX2_cellSum_X2_unitsOf rfl rfl rfl (by decide +kernel) ⟨Nat.le_of_ble_eq_true rfl, Nat.le_of_ble_eq_true rfl⟩) ⟨z_bl0, va_recv hK hP (ci := 1) (q0 := 0) rfl rfl, fun U hU hW => ⟨rfl, z_b0 hK hP hU hW⟩⟩ rfl rfl hl.1 rfl (lv_room (Nat.le_of_ble_eq_true rfl)) dX2_cellSum_18 ⟨Nat.zero_le _, Nat.zero_le _⟩) hS (fun q _ h => h.elim) (fun q h => h.elim) (fun r0 u t H locs ht hvm hw hB hz1 hk1 hS => ?_)
  obtain ⟨r5, rfl, h_r5, hw⟩ := hw
  have hP := z_P_all hP hk1
  have hv := hv r5 h_r5 hw
  refine lx_iadd hx hb dX2_cellSum_21 ?_
  refine lv_aload_n hx hb dX2_cellSum_22 rfl (lv_at hl 0 rfl) ?_
  refine lv_iload_n hx hb dX2_cellSum_23 rfl (lv_at hl 1 rfl) ?_
  refine lv_bipush (v := z_i 40) hx hb dX2_cellSum_24 (by decide) ?_
  refine lx_iadd hx hb dX2_cellSum_26 ?_
  refine lv_iconst (v := z_i 1) hx hb dX2_cellSum_27 rfl ?_
  refine lx_iadd hx hb dX2_cellSum_28 ?_
  obtain ⟨hr6, hv⟩ := hv
  refine va_calli (va_runV (As := [.int (z_i ((n + 40) + 1))]) (rest := [.int (z_i ((r1 + r3) + r5))]) ⟨hx, hb, hml, hown, hts⟩ (mt_X2_unitsOf l D cA g ga_units g_units ga_lengths g_lengths ga_offsets g_offsets g_step ((n + 40) + 1) h_g_step hr6) (cwV 1 hts gX2_cellSum_X2_unitsOf rfl rfl rfl (by decide +kernel) ⟨Nat.le_of_ble_eq_true rfl, Nat.le_of_ble_eq_true rfl⟩) ⟨z_bl0, va_recv hK hP (ci := 1) (q0 := 0) rfl rfl, fun U hU hW => ⟨rfl, z_b0 hK hP hU hW⟩⟩ rfl rfl hl.1 rfl (lv_room (Nat.le_of_ble_eq_true rfl)) dX2_cellSum_29 ⟨Nat.zero_le _, Nat.zero_le _⟩) hS (fun q _ h => h.elim) (fun q h => h.elim) (fun r0 u t H locs ht hvm hw hB hz1 hk1 hS => ?_)
  obtain ⟨r7, rfl, h_r7, hw⟩ := hw
  have hP := z_P_all hP hk1
  have hv := hv r7 h_r7 hw
  refine lx_iadd hx hb dX2_cellSum_32 ?_
  obtain ⟨hr8, hv⟩ := hv
  exact W.iret (v := z_i (((r1 + r3) + r5) + r7)) hx hb hr (fun t ht hW => ⟨⟨z_i (((r1 + r3) + r5) + r7), (), rfl, ⟨((r1 + r3) + r5) + r7, rfl, hr8, hv⟩, trivial⟩, hS.F ht⟩) hS.2.2 dX2_cellSum_33
set_option maxHeartbeats 4000000 in
set_option maxRecDepth 100000 in
theorem mt_X2_cellSum (l : Launch) (D : va_G) (cA : Nat → ClassId) (g : Nat) (ga_units : Nat) (g_units : Nat → Int32) (ga_lengths : Nat) (g_lengths : Nat → Int32) (ga_offsets : Nat) (g_offsets : Nat → Int32) (g_step : Int) (n : Int) (h_g_step : z_in g_step) (h_n : z_in n) (hp1 : 0 ≤ n ∧ n < 1280) (hp2 : g_ok g_units) (hp3 : m_wh (g_th g_units) n = true) : Met l yX2_cellSum wsX2_cellSum ({ frames := 1, cells := 0, slots := 0, locals := 21 } : Room) (va_Pc [.ref g, .int (z_i n)] (z_B0 D cA [(g, .inr (1, [.ref ga_units, .ref ga_lengths, .ref ga_offsets, .int (z_i g_step)])), (ga_units, .inl (cA 1, 1280, .inl g_units)), (ga_lengths, .inl (cA 1, 32, .inl g_lengths)), (ga_offsets, .inl (cA 1, 32, .inl g_offsets))])) (va_Qi (z_ri (fun (r : Int) => r = g_at g_units n + g_at g_units (n + 1) + g_at g_units (n + 40) + g_at g_units (n + 40 + 1))) (fun _ _ => True) (fun _ => False)) 0 0 (fun _ => False) := by
  refine wk_X2_cellSum l D cA g ga_units g_units ga_lengths g_lengths ga_offsets g_offsets g_step n h_g_step h_n (fun (r : Int) => r = g_at g_units n + g_at g_units (n + 1) + g_at g_units (n + 40) + g_at g_units (n + 40 + 1)) ?_
  unfold vc_X2_cellSum
  obtain ⟨t1, t2, t3, t4, -, -, -⟩ := m_wh_spec hp3
  have b1 := g_ok_at hp2 t1
  have b2 := g_ok_at hp2 t2
  have b3 := g_ok_at hp2 t3
  have b4 := g_ok_at hp2 t4
  rintro r1 h1 rfl
  refine ⟨⟨by omega, by omega⟩, ?_⟩
  rintro r2 h2 rfl
  refine ⟨⟨by omega, by omega⟩, ?_⟩
  rintro r3 h3 rfl
  refine ⟨⟨by omega, by omega⟩, ?_⟩
  rintro r4 h4 rfl
  exact ⟨⟨by omega, by omega⟩, rfl⟩
def vc_X2_nearestEven (over : Int) (under : Int) (Q : Int → Prop) : Prop :=
((under > 0 → (0 < under) ∧ (-4611686018427387904 ≤ over ∧ over ≤ 4611686018427387904) ∧ (∀ (r3 : Int), z_nl r3 → (r3 = over / under) → (0 < under) ∧ (-4611686018427387904 ≤ over ∧ over ≤ 4611686018427387904) ∧ (∀ (r6 : Int), z_nl r6 → (r6 = over % under) → z_nl (2 * r6) ∧ ((2 * r6 > under → z_nl (r3 + 1) ∧ Q (r3 + 1)) ∧
(2 * r6 ≤ under → ((2 * r6 ≠ under → Q r3) ∧
(2 * r6 = under → ((z_andl r3 1 ≠ 1 → Q r3) ∧
(z_andl r3 1 = 1 → z_nl (r3 + 1) ∧ Q (r3 + 1)))))))))) ∧
(under ≤ 0 → Q 0))
set_option maxHeartbeats 4000000 in
set_option maxRecDepth 100000 in
theorem wk_X2_nearestEven (l : Launch) (D : va_G) (cA : Nat → ClassId) (over : Int) (under : Int) (h_over : z_nl over) (h_under : z_nl under) (Q : Int → Prop) (hv : vc_X2_nearestEven over under Q) : Met l yX2_nearestEven wsX2_nearestEven ({ frames := 1, cells := 0, slots := 0, locals := 25 } : Room) (va_Pc [.long (z_l over), .long (z_l under)] (z_B0 D cA [])) (va_Ql (z_rl Q) (fun _ _ => True) (fun _ => False)) 0 0 (fun _ => False) := by
  unfold vc_X2_nearestEven at hv
  refine Met.ofW (cc := cX2_nearestEven) (maxL := 9) (ret := (some .long)) (by decide +kernel) rfl ?_
  intro p e s m args below meth c s₁ B hml hv0
  obtain ⟨rfl, hK, hP⟩ := hv0
  have hx := B.exec
  have hb := B.bytes
  have hr := B.returns
  have hts := atoms_spec (ws := wsX2_nearestEven) B.pre
  have hown : s.vm.findClass RX2 = some m.cls := findClass_of_methodNamed B.named
  have hlocks := B.notSynchronized
  have hS : va_S (fun _ : Nat => False) s.heap s.heap [] := va_S.rf
  have hl := lv_entry ([.long (z_l over), .long (z_l under)]) (n := 9) (Nat.le_of_ble_eq_true rfl)
  rw [lg_entry_eq]
  generalize (lg_sl ([.long (z_l over), .long (z_l under)]) ++ List.replicate (9 - (lg_sl ([.long (z_l over), .long (z_l under)])).length) Slot.unset).toArray = ls at hl ⊢
  have hl : lv_has ls 9 [(0, .long (z_l over)), (2, .long (z_l under))] := hl
  refine lv_lload_n hx hb dX2_nearestEven_0 rfl (lv_at hl 1 rfl) ?_
  refine lv_lconst (v := z_l 0) hx hb dX2_nearestEven_1 (by decide) ?_
  refine lx_lcmp hx hb dX2_nearestEven_2 h_under (show z_nl 0 from ⟨by decide, by decide⟩) ?_
  refine lx_if_gt (tgt := 8) hx hb dX2_nearestEven_3 (by decide) (z_in_cmp _ _) (fun hc => ?_) (fun hc => ?_)
  · have hv := hv.1 (z_cmp_gt.mp hc)
    refine lv_lload_n hx hb dX2_nearestEven_8 rfl (lv_at hl 0 rfl) ?_
    refine lv_lload_n hx hb dX2_nearestEven_9 rfl (lv_at hl 1 rfl) ?_
    obtain ⟨hp1, hv⟩ := hv
    obtain ⟨hp2, hv⟩ := hv
    refine va_calll (va_runS (As := [.long (z_l over), .long (z_l under)]) (rest := []) ⟨hx, hb, hml, hown, hts⟩ (mt_J9_floorDiv_f86c9 l D cA over under h_over h_under hp1 hp2) (va_cwS 2 hts gX2_nearestEven_J9_floorDiv_f86c9 rfl rfl rfl (by decide +kernel) ⟨Nat.le_of_ble_eq_true rfl, Nat.le_of_ble_eq_true rfl⟩) ⟨z_bl0, fun U hU hW => ⟨rfl, z_b0 hK hP hU hW⟩⟩ rfl rfl hl.1 rfl (lv_room (Nat.le_of_ble_eq_true rfl)) dX2_nearestEven_10 ⟨Nat.zero_le _, Nat.zero_le _⟩) hS (fun q _ h => h.elim) (fun q h => h.elim) (fun r0 u t H locs ht hvm hw hB hz1 hk1 hS => ?_)
    obtain ⟨r3, rfl, h_r3, hw⟩ := hw
    have hP := z_P_all hP hk1
    have hv := hv r3 h_r3 hw
    refine lv_lstore (lv' := [(4, .long (z_l r3)), (0, .long (z_l over)), (2, .long (z_l under))]) hx hb dX2_nearestEven_13 hl (by decide) rfl (fun ls hl => ?_)
    refine lv_lload_n hx hb dX2_nearestEven_15 rfl (lv_at hl 1 rfl) ?_
    refine lv_lload_n hx hb dX2_nearestEven_16 rfl (lv_at hl 2 rfl) ?_
    obtain ⟨hp4, hv⟩ := hv
    obtain ⟨hp5, hv⟩ := hv
    refine va_calll (va_runS (As := [.long (z_l over), .long (z_l under)]) (rest := []) ⟨hx, hb, hml, hown, hts⟩ (mt_J9_floorMod_f86c9 l D cA over under h_over h_under hp4 hp5) (va_cwS 2 hts gX2_nearestEven_J9_floorMod_f86c9 rfl rfl rfl (by decide +kernel) ⟨Nat.le_of_ble_eq_true rfl, Nat.le_of_ble_eq_true rfl⟩) ⟨z_bl0, fun U hU hW => ⟨rfl, z_b0 hK hP hU hW⟩⟩ rfl rfl hl.1 rfl (lv_room (Nat.le_of_ble_eq_true rfl)) dX2_nearestEven_17 ⟨Nat.zero_le _, Nat.zero_le _⟩) hS (fun q _ h => h.elim) (fun q h => h.elim) (fun r0 u t H locs ht hvm hw hB hz1 hk1 hS => ?_)
    obtain ⟨r6, rfl, h_r6, hw⟩ := hw
    have hP := z_P_all hP hk1
    have hv := hv r6 h_r6 hw
    refine lv_lstore (lv' := [(6, .long (z_l r6)), (4, .long (z_l r3)), (0, .long (z_l over)), (2, .long (z_l under))]) hx hb dX2_nearestEven_20 hl (by decide) rfl (fun ls hl => ?_)
    refine lx_ldc2 (a := 2) hx hb hown (hts (.constantLong RX2 93 (2)) (by decide +kernel)) (by decide) dX2_nearestEven_22 ?_
    refine lv_lload hx hb dX2_nearestEven_25 (lv_at hl 0 rfl) ?_
    refine lx_lmul hx hb dX2_nearestEven_27 ?_
    refine lv_lload_n hx hb dX2_nearestEven_28 rfl (lv_at hl 3 rfl) ?_
    obtain ⟨hr7, hv⟩ := hv
    refine lx_lcmp hx hb dX2_nearestEven_29 hr7 h_under ?_
    refine lx_if_gt (tgt := 53) hx hb dX2_nearestEven_30 (by decide) (z_in_cmp _ _) (fun hc => ?_) (fun hc => ?_)
    · have hv := hv.1 (z_cmp_gt.mp hc)
      refine lv_iconst (v := z_i 1) hx hb dX2_nearestEven_53 rfl ?_
      refine lv_goto (tgt := 58) hx hb dX2_nearestEven_54 (by decide) ?_
      refine lv_istore (lv' := [(8, .int (z_i 1)), (6, .long (z_l r6)), (4, .long (z_l r3)), (0, .long (z_l over)), (2, .long (z_l under))]) hx hb dX2_nearestEven_58 hl (by decide) rfl (fun ls hl => ?_)
      refine lv_iload hx hb dX2_nearestEven_60 (lv_at hl 0 rfl) ?_
      refine lx_if_eq (tgt := 72) hx hb dX2_nearestEven_62 (by decide) ⟨by decide, by decide⟩ (fun hc => absurd hc (by decide)) (fun _ => ?_)
      refine lv_lload hx hb dX2_nearestEven_65 (lv_at hl 2 rfl) ?_
      refine lv_lconst (v := z_l 1) hx hb dX2_nearestEven_67 (by decide) ?_
      refine lx_ladd hx hb dX2_nearestEven_68 ?_
      refine lv_goto (tgt := 74) hx hb dX2_nearestEven_69 (by decide) ?_
      obtain ⟨hr8, hv⟩ := hv
      exact W.lret (v := z_l (r3 + 1)) hx hb hr (fun t ht hW => ⟨⟨z_l (r3 + 1), (), rfl, ⟨r3 + 1, rfl, hr8, hv⟩, trivial⟩, hS.F ht⟩) hS.2.2 dX2_nearestEven_74
    · have hv := hv.2 (z_cmp_le.mp hc)
      refine lx_ldc2 (a := 2) hx hb hown (hts (.constantLong RX2 93 (2)) (by decide +kernel)) (by decide) dX2_nearestEven_33 ?_
      refine lv_lload hx hb dX2_nearestEven_36 (lv_at hl 0 rfl) ?_
      refine lx_lmul hx hb dX2_nearestEven_38 ?_
      refine lv_lload_n hx hb dX2_nearestEven_39 rfl (lv_at hl 3 rfl) ?_
      refine lx_lcmp hx hb dX2_nearestEven_40 hr7 h_under ?_
      refine lx_if_ne (tgt := 57) hx hb dX2_nearestEven_41 (by decide) (z_in_cmp _ _) (fun hc => ?_) (fun hc => ?_)
      · have hv := hv.1 (z_cmp_ne.mp hc)
        refine lv_iconst (v := z_i 0) hx hb dX2_nearestEven_57 rfl ?_
        refine lv_istore (lv' := [(8, .int (z_i 0)), (6, .long (z_l r6)), (4, .long (z_l r3)), (0, .long (z_l over)), (2, .long (z_l under))]) hx hb dX2_nearestEven_58 hl (by decide) rfl (fun ls hl => ?_)
        refine lv_iload hx hb dX2_nearestEven_60 (lv_at hl 0 rfl) ?_
        refine lx_if_eq (tgt := 72) hx hb dX2_nearestEven_62 (by decide) ⟨by decide, by decide⟩ (fun _ => ?_) (fun hc => absurd hc (by decide))
        refine lv_lload hx hb dX2_nearestEven_72 (lv_at hl 2 rfl) ?_
        exact W.lret (v := z_l r3) hx hb hr (fun t ht hW => ⟨⟨z_l r3, (), rfl, ⟨r3, rfl, h_r3, hv⟩, trivial⟩, hS.F ht⟩) hS.2.2 dX2_nearestEven_74
      · have hv := hv.2 (z_cmp_eq.mp hc)
        refine lv_lload hx hb dX2_nearestEven_44 (lv_at hl 1 rfl) ?_
        refine lv_lconst (v := z_l 1) hx hb dX2_nearestEven_46 (by decide) ?_
        refine lx_land hx hb dX2_nearestEven_47 ?_
        refine lv_lconst (v := z_l 1) hx hb dX2_nearestEven_48 (by decide) ?_
        refine lx_lcmp hx hb dX2_nearestEven_49 (z_nl_of _) (show z_nl 1 from ⟨by decide, by decide⟩) ?_
        refine lx_if_ne (tgt := 57) hx hb dX2_nearestEven_50 (by decide) (z_in_cmp _ _) (fun hc => ?_) (fun hc => ?_)
        · have hv := hv.1 (z_cmp_ne.mp hc)
          refine lv_iconst (v := z_i 0) hx hb dX2_nearestEven_57 rfl ?_
          refine lv_istore (lv' := [(8, .int (z_i 0)), (6, .long (z_l r6)), (4, .long (z_l r3)), (0, .long (z_l over)), (2, .long (z_l under))]) hx hb dX2_nearestEven_58 hl (by decide) rfl (fun ls hl => ?_)
          refine lv_iload hx hb dX2_nearestEven_60 (lv_at hl 0 rfl) ?_
          refine lx_if_eq (tgt := 72) hx hb dX2_nearestEven_62 (by decide) ⟨by decide, by decide⟩ (fun _ => ?_) (fun hc => absurd hc (by decide))
          refine lv_lload hx hb dX2_nearestEven_72 (lv_at hl 2 rfl) ?_
          exact W.lret (v := z_l r3) hx hb hr (fun t ht hW => ⟨⟨z_l r3, (), rfl, ⟨r3, rfl, h_r3, hv⟩, trivial⟩, hS.F ht⟩) hS.2.2 dX2_nearestEven_74
        · have hv := hv.2 (z_cmp_eq.mp hc)
          refine lv_iconst (v := z_i 1) hx hb dX2_nearestEven_53 rfl ?_
          refine lv_goto (tgt := 58) hx hb dX2_nearestEven_54 (by decide) ?_
          refine lv_istore (lv' := [(8, .int (z_i 1)), (6, .long (z_l r6)), (4, .long (z_l r3)), (0, .long (z_l over)), (2, .long (z_l under))]) hx hb dX2_nearestEven_58 hl (by decide) rfl (fun ls hl => ?_)
          refine lv_iload hx hb dX2_nearestEven_60 (lv_at hl 0 rfl) ?_
          refine lx_if_eq (tgt := 72) hx hb dX2_nearestEven_62 (by decide) ⟨by decide, by decide⟩ (fun hc => absurd hc (by decide)) (fun _ => ?_)
          refine lv_lload hx hb dX2_nearestEven_65 (lv_at hl 2 rfl) ?_
          refine lv_lconst (v := z_l 1) hx hb dX2_nearestEven_67 (by decide) ?_
          refine lx_ladd hx hb dX2_nearestEven_68 ?_
          refine lv_goto (tgt := 74) hx hb dX2_nearestEven_69 (by decide) ?_
          obtain ⟨hr9, hv⟩ := hv
          exact W.lret (v := z_l (r3 + 1)) hx hb hr (fun t ht hW => ⟨⟨z_l (r3 + 1), (), rfl, ⟨r3 + 1, rfl, hr9, hv⟩, trivial⟩, hS.F ht⟩) hS.2.2 dX2_nearestEven_74
  · have hv := hv.2 (z_cmp_le.mp hc)
    refine lv_lconst (v := z_l 0) hx hb dX2_nearestEven_6 (by decide) ?_
    exact W.lret (v := z_l 0) hx hb hr (fun t ht hW => ⟨⟨z_l 0, (), rfl, ⟨0, rfl, (show z_nl 0 from ⟨by decide, by decide⟩), hv⟩, trivial⟩, hS.F ht⟩) hS.2.2 dX2_nearestEven_7
set_option maxHeartbeats 4000000 in
set_option maxRecDepth 100000 in
theorem mt_X2_nearestEven (l : Launch) (D : va_G) (cA : Nat → ClassId) (over : Int) (under : Int) (h_over : z_nl over) (h_under : z_nl under) (hp1 : 0 < under ∧ under ≤ 100000) (hp2 : -4611686018427387904 ≤ over ∧ over ≤ 4611686018427387904) : Met l yX2_nearestEven wsX2_nearestEven ({ frames := 1, cells := 0, slots := 0, locals := 25 } : Room) (va_Pc [.long (z_l over), .long (z_l under)] (z_B0 D cA [])) (va_Ql (z_rl (fun (r : Int) => r = m_ne over under)) (fun _ _ => True) (fun _ => False)) 0 0 (fun _ => False) := by
  refine wk_X2_nearestEven l D cA over under h_over h_under (fun (r : Int) => r = m_ne over under) ?_
  unfold vc_X2_nearestEven
  have hb := z_ediv_b hp1.1 (M := 4611686018427387904) (by decide) hp2.1 hp2.2
  have hmo := Int.emod_nonneg over (by omega : under ≠ 0)
  have hml := Int.emod_lt_of_pos over hp1.1
  unfold m_ne
  refine ⟨fun h => ⟨hp1.1, hp2, ?_⟩, fun h => absurd hp1.1 (by omega)⟩
  rintro r3 h3 rfl
  refine ⟨hp1.1, hp2, ?_⟩
  rintro r6 h6 rfl
  have e := z_andl_1 h3
  refine ⟨⟨by omega, by omega⟩, fun q => ⟨⟨by omega, by omega⟩, (if_pos (Or.inl q)).symm⟩, fun q => ⟨fun q2 => (if_neg (by omega)).symm, fun q2 => ⟨fun q3 => ?_, fun q3 => ⟨⟨by omega, by omega⟩, ?_⟩⟩⟩⟩
  · rw [e] at q3; exact (if_neg (by omega)).symm
  · rw [e] at q3; exact (if_pos (Or.inr ⟨q2, q3⟩)).symm
