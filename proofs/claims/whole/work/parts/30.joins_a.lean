/-! a cell: which corners are high, its sides, which side leads to which -/
def c_hi (high k : Int) : Bool := decide (high / 2 ^ ((k % 4).toNat) % 2 = 1)
def c_wo (high en rl : Int) : Int :=
  if c_hi high (en + (if rl = 0 then 3 else 1) * 1) = false ∧ c_hi high (en + (if rl = 0 then 3 else 1) * 1 + 1) = true then (en + (if rl = 0 then 3 else 1) * 1) % 4
  else if c_hi high (en + (if rl = 0 then 3 else 1) * 2) = false ∧ c_hi high (en + (if rl = 0 then 3 else 1) * 2 + 1) = true then (en + (if rl = 0 then 3 else 1) * 2) % 4
  else if c_hi high (en + (if rl = 0 then 3 else 1) * 3) = false ∧ c_hi high (en + (if rl = 0 then 3 else 1) * 3 + 1) = true then (en + (if rl = 0 then 3 else 1) * 3) % 4 else en
def c_co (n k : Int) : Int := n + (if k = 1 ∨ k = 2 then 1 else 0) + (if k ≥ 2 then 40 else 0)
def c_sd (n k : Int) : Int := if k = 0 then 2 * n else if k = 1 then 2 * (n + 1) + 1 else if k = 2 then 2 * (n + 40) else 2 * n + 1
theorem c_hi_ok : ∀ h : Fin 16, ∀ k : Fin 16, (z_and (z_shr (h.val : Int) (z_and (k.val : Int) 3)) 1 = 1 ↔ c_hi (h.val : Int) (k.val : Int) = true) := by decide +kernel
theorem c_and3 : ∀ k : Fin 16, z_and (k.val : Int) 3 = (k.val : Int) % 4 := by decide +kernel
theorem c_wo_in {high en rl : Int} (h0 : 0 ≤ en) (h1 : en < 4) : 0 ≤ c_wo high en rl ∧ c_wo high en rl < 4 := by
  unfold c_wo
  split
  · omega
  · split
    · omega
    · split <;> omega
def c_mk (U : Int → Int) (lv n : Int) : Nat → Int
  | 0 => 0
  | k + 1 => c_mk U lv n k + (if U (c_co n k) ≥ lv then 2 ^ k else 0)
theorem c_mk_b (U : Int → Int) (lv n : Int) (k : Nat) : 0 ≤ c_mk U lv n k ∧ c_mk U lv n k < 2 ^ k := by
  induction k with
  | zero => exact ⟨Int.le_refl _, show (0 : Int) < 2 ^ 0 by decide⟩
  | succ k ih =>
    unfold c_mk
    have h2 : (2 : Int) ^ (k + 1) = 2 ^ k + 2 ^ k := by rw [Int.pow_succ]; omega
    split <;> omega
def c_rl (U : Int → Int) (lv n : Int) : Int := z_b (decide (U n + U (n + 1) + U (n + 40) + U (n + 40 + 1) ≥ 4 * lv))
def c_go (m k : Int) : Bool := c_hi m k && !c_hi m (k + 1)
def c_nxK (m rl n : Int) (f : Nat → Int32) : Nat → (Nat → Int32)
  | 0 => f
  | k + 1 => if c_go m k = true then z_s (c_nxK m rl n f k) (c_sd n k) (c_sd n (c_wo m k rl)) else c_nxK m rl n f k
def c_bfK (m rl n : Int) (f : Nat → Int32) : Nat → (Nat → Int32)
  | 0 => f
  | k + 1 => if c_go m k = true then z_s (c_bfK m rl n f k) (c_sd n (c_wo m k rl)) (c_sd n k) else c_bfK m rl n f k
def c_leK (m n x : Int) : Nat → Int
  | 0 => x
  | k + 1 => if c_go m k = true then min (c_leK m n x k) (c_sd n k) else c_leK m n x k
def c_laK (m n x : Int) : Nat → Int
  | 0 => x
  | k + 1 => if c_go m k = true then max (c_laK m n x k) (c_sd n k) else c_laK m n x k
theorem c_sd_in {n k : Int} (h0 : 0 ≤ n) (h1 : n < 1240) : 0 ≤ c_sd n k ∧ c_sd n k < 2560 := by
  unfold c_sd
  split
  · omega
  · split
    · omega
    · split <;> omega
theorem c_leK_b {m n x : Int} (h0 : 0 ≤ n) (h1 : n < 1240) (hx0 : 0 ≤ x) (hx1 : x ≤ 2560) (k : Nat) : 0 ≤ c_leK m n x k ∧ c_leK m n x k ≤ 2560 := by
  induction k with
  | zero => exact ⟨hx0, hx1⟩
  | succ k ih =>
    unfold c_leK
    have := c_sd_in (k := k) h0 h1
    split <;> omega
theorem c_laK_b {m n x : Int} (h0 : 0 ≤ n) (h1 : n < 1240) (hx0 : -1 ≤ x) (hx1 : x < 2560) (k : Nat) : -1 ≤ c_laK m n x k ∧ c_laK m n x k < 2560 := by
  induction k with
  | zero => exact ⟨hx0, hx1⟩
  | succ k ih =>
    unfold c_laK
    have := c_sd_in (k := k) h0 h1
    split <;> omega
def vc_X3_isHigh (high : Int) (k : Int) (Q : Int → Prop) : Prop :=
((z_and (z_shr high (z_and k 3)) 1 ≠ 1 → Q 0) ∧
(z_and (z_shr high (z_and k 3)) 1 = 1 → Q 1))
set_option maxHeartbeats 4000000 in
set_option maxRecDepth 100000 in
theorem wk_X3_isHigh (l : Launch) (D : va_G) (cA : Nat → ClassId) (high : Int) (k : Int) (h_high : z_in high) (h_k : z_in k) (Q : Int → Prop) (hv : vc_X3_isHigh high k Q) : Met l yX3_isHigh wsX3_isHigh ({ frames := 0, cells := 0, slots := 0, locals := 0 } : Room) (va_Pc [.int (z_i high), .int (z_i k)] (z_B0 D cA [])) (va_Qi (z_ri Q) (fun _ _ => True) (fun _ => False)) 0 0 (fun _ => False) := by
  unfold vc_X3_isHigh at hv
  refine Met.ofW (cc := cX3_isHigh) (maxL := 2) (ret := (some .boolean)) (by decide +kernel) rfl ?_
  intro p e s m args below meth c s₁ B hml hv0
  obtain ⟨rfl, hK, hP⟩ := hv0
  have hx := B.exec
  have hb := B.bytes
  have hr := B.returns
  have hts := atoms_spec (ws := wsX3_isHigh) B.pre
  have hown : s.vm.findClass RX3 = some m.cls := findClass_of_methodNamed B.named
  have hlocks := B.notSynchronized
  have hS : va_S (fun _ : Nat => False) s.heap s.heap [] := va_S.rf
  have hl := lv_entry ([.int (z_i high), .int (z_i k)]) (n := 2) (Nat.le_of_ble_eq_true rfl)
  rw [lg_entry_eq]
  generalize (lg_sl ([.int (z_i high), .int (z_i k)]) ++ List.replicate (2 - (lg_sl ([.int (z_i high), .int (z_i k)])).length) Slot.unset).toArray = ls at hl ⊢
  have hl : lv_has ls 2 [(0, .int (z_i high)), (1, .int (z_i k))] := hl
  refine lv_iload_n hx hb dX3_isHigh_0 rfl (lv_at hl 0 rfl) ?_
  refine lv_iload_n hx hb dX3_isHigh_1 rfl (lv_at hl 1 rfl) ?_
  refine lv_iconst (v := z_i 3) hx hb dX3_isHigh_2 rfl ?_
  refine lx_iand hx hb dX3_isHigh_3 ?_
  refine lx_ishr hx hb dX3_isHigh_4 ?_
  refine lv_iconst (v := z_i 1) hx hb dX3_isHigh_5 rfl ?_
  refine lx_iand hx hb dX3_isHigh_6 ?_
  refine lv_iconst (v := z_i 1) hx hb dX3_isHigh_7 rfl ?_
  refine lx_icmp_ne (tgt := 15) hx hb dX3_isHigh_8 (by decide) (z_in_of _) (show z_in 1 from ⟨by decide, by decide⟩) (fun hc => ?_) (fun hc => ?_)
  · have hv := hv.1 hc
    refine lv_iconst (v := z_i 0) hx hb dX3_isHigh_15 rfl ?_
    exact W.zret (v := z_i 0) hx hb hr (by decide) (fun t ht hW => ⟨⟨z_i 0, (), rfl, ⟨0, rfl, (show z_in 0 from ⟨by decide, by decide⟩), hv⟩, trivial⟩, hS.F ht⟩) hS.2.2 dX3_isHigh_16
  · have hv := hv.2 hc
    refine lv_iconst (v := z_i 1) hx hb dX3_isHigh_11 rfl ?_
    refine lv_goto (tgt := 16) hx hb dX3_isHigh_12 (by decide) ?_
    exact W.zret (v := z_i 1) hx hb hr (by decide) (fun t ht hW => ⟨⟨z_i 1, (), rfl, ⟨1, rfl, (show z_in 1 from ⟨by decide, by decide⟩), hv⟩, trivial⟩, hS.F ht⟩) hS.2.2 dX3_isHigh_16
set_option maxHeartbeats 4000000 in
set_option maxRecDepth 100000 in
theorem mt_X3_isHigh (l : Launch) (D : va_G) (cA : Nat → ClassId) (high : Int) (k : Int) (h_high : z_in high) (h_k : z_in k) (hp1 : 0 ≤ high ∧ high < 16) (hp2 : 0 ≤ k ∧ k < 16) : Met l yX3_isHigh wsX3_isHigh ({ frames := 0, cells := 0, slots := 0, locals := 0 } : Room) (va_Pc [.int (z_i high), .int (z_i k)] (z_B0 D cA [])) (va_Qi (z_ri (fun (r : Int) => r = z_b (c_hi high k))) (fun _ _ => True) (fun _ => False)) 0 0 (fun _ => False) := by
  refine wk_X3_isHigh l D cA high k h_high h_k (fun (r : Int) => r = z_b (c_hi high k)) ?_
  unfold vc_X3_isHigh
  have h := z_fin (N := 16) (P := fun k => (z_and (z_shr high (z_and k 3)) 1 = 1 ↔ c_hi high k = true)) (fun k => z_fin (N := 16) (P := fun high => (z_and (z_shr high (z_and (k.val : Int) 3)) 1 = 1 ↔ c_hi high (k.val : Int) = true)) (fun h => c_hi_ok h k) hp1.1 hp1.2) hp2.1 hp2.2
  refine ⟨fun q => ?_, fun q => ?_⟩
  · cases hc : c_hi high k
    · rfl
    · exact absurd (h.mpr hc) q
  · rw [h.mp q]; rfl
def vc_X3_cornerOf (n : Int) (k : Int) (Q : Int → Prop) : Prop :=
((k = 1 → ((k < 2 → z_in ((n + 1) + 0) ∧ Q ((n + 1) + 0)) ∧
(k ≥ 2 → z_in ((n + 1) + 40) ∧ Q ((n + 1) + 40)))) ∧
(k ≠ 1 → ((k ≠ 2 → ((k < 2 → z_in ((n + 0) + 0) ∧ Q ((n + 0) + 0)) ∧
(k ≥ 2 → z_in ((n + 0) + 40) ∧ Q ((n + 0) + 40)))) ∧
(k = 2 → ((k < 2 → z_in ((n + 1) + 0) ∧ Q ((n + 1) + 0)) ∧
(k ≥ 2 → z_in ((n + 1) + 40) ∧ Q ((n + 1) + 40)))))))
set_option maxHeartbeats 4000000 in
set_option maxRecDepth 100000 in
theorem wk_X3_cornerOf (l : Launch) (D : va_G) (cA : Nat → ClassId) (n : Int) (k : Int) (h_n : z_in n) (h_k : z_in k) (Q : Int → Prop) (hv : vc_X3_cornerOf n k Q) : Met l yX3_cornerOf wsX3_cornerOf ({ frames := 0, cells := 0, slots := 0, locals := 0 } : Room) (va_Pc [.int (z_i n), .int (z_i k)] (z_B0 D cA [])) (va_Qi (z_ri Q) (fun _ _ => True) (fun _ => False)) 0 0 (fun _ => False) := by
  unfold vc_X3_cornerOf at hv
  refine Met.ofW (cc := cX3_cornerOf) (maxL := 2) (ret := (some .int)) (by decide +kernel) rfl ?_
  intro p e s m args below meth c s₁ B hml hv0
  obtain ⟨rfl, hK, hP⟩ := hv0
  have hx := B.exec
  have hb := B.bytes
  have hr := B.returns
  have hts := atoms_spec (ws := wsX3_cornerOf) B.pre
  have hown : s.vm.findClass RX3 = some m.cls := findClass_of_methodNamed B.named
  have hlocks := B.notSynchronized
  have hS : va_S (fun _ : Nat => False) s.heap s.heap [] := va_S.rf
  have hl := lv_entry ([.int (z_i n), .int (z_i k)]) (n := 2) (Nat.le_of_ble_eq_true rfl)
  rw [lg_entry_eq]
  generalize (lg_sl ([.int (z_i n), .int (z_i k)]) ++ List.replicate (2 - (lg_sl ([.int (z_i n), .int (z_i k)])).length) Slot.unset).toArray = ls at hl ⊢
  have hl : lv_has ls 2 [(0, .int (z_i n)), (1, .int (z_i k))] := hl
  refine lv_iload_n hx hb dX3_cornerOf_0 rfl (lv_at hl 0 rfl) ?_
  refine lv_iload_n hx hb dX3_cornerOf_1 rfl (lv_at hl 1 rfl) ?_
  refine lv_iconst (v := z_i 1) hx hb dX3_cornerOf_2 rfl ?_
  refine lx_icmp_eq (tgt := 11) hx hb dX3_cornerOf_3 (by decide) h_k (show z_in 1 from ⟨by decide, by decide⟩) (fun hc => ?_) (fun hc => ?_)
  · have hv := hv.1 hc
    refine lv_iconst (v := z_i 1) hx hb dX3_cornerOf_11 rfl ?_
    refine lv_goto (tgt := 16) hx hb dX3_cornerOf_12 (by decide) ?_
    refine lx_iadd hx hb dX3_cornerOf_16 ?_
    refine lv_iload_n hx hb dX3_cornerOf_17 rfl (lv_at hl 1 rfl) ?_
    refine lv_iconst (v := z_i 2) hx hb dX3_cornerOf_18 rfl ?_
    refine lx_icmp_lt (tgt := 27) hx hb dX3_cornerOf_19 (by decide) h_k (show z_in 2 from ⟨by decide, by decide⟩) (fun hc => ?_) (fun hc => ?_)
    · have hv := hv.1 hc
      refine lv_iconst (v := z_i 0) hx hb dX3_cornerOf_27 rfl ?_
      refine lx_iadd hx hb dX3_cornerOf_28 ?_
      obtain ⟨hr1, hv⟩ := hv
      exact W.iret (v := z_i ((n + 1) + 0)) hx hb hr (fun t ht hW => ⟨⟨z_i ((n + 1) + 0), (), rfl, ⟨(n + 1) + 0, rfl, hr1, hv⟩, trivial⟩, hS.F ht⟩) hS.2.2 dX3_cornerOf_29
    · have hv := hv.2 hc
      refine lv_bipush (v := z_i 40) hx hb dX3_cornerOf_22 (by decide) ?_
      refine lv_goto (tgt := 28) hx hb dX3_cornerOf_24 (by decide) ?_
      refine lx_iadd hx hb dX3_cornerOf_28 ?_
      obtain ⟨hr2, hv⟩ := hv
      exact W.iret (v := z_i ((n + 1) + 40)) hx hb hr (fun t ht hW => ⟨⟨z_i ((n + 1) + 40), (), rfl, ⟨(n + 1) + 40, rfl, hr2, hv⟩, trivial⟩, hS.F ht⟩) hS.2.2 dX3_cornerOf_29
  · have hv := hv.2 hc
    refine lv_iload_n hx hb dX3_cornerOf_6 rfl (lv_at hl 1 rfl) ?_
    refine lv_iconst (v := z_i 2) hx hb dX3_cornerOf_7 rfl ?_
    refine lx_icmp_ne (tgt := 15) hx hb dX3_cornerOf_8 (by decide) h_k (show z_in 2 from ⟨by decide, by decide⟩) (fun hc => ?_) (fun hc => ?_)
    · have hv := hv.1 hc
      refine lv_iconst (v := z_i 0) hx hb dX3_cornerOf_15 rfl ?_
      refine lx_iadd hx hb dX3_cornerOf_16 ?_
      refine lv_iload_n hx hb dX3_cornerOf_17 rfl (lv_at hl 1 rfl) ?_
      refine lv_iconst (v := z_i 2) hx hb dX3_cornerOf_18 rfl ?_
      refine lx_icmp_lt (tgt := 27) hx hb dX3_cornerOf_19 (by decide) h_k (show z_in 2 from ⟨by decide, by decide⟩) (fun hc => ?_) (fun hc => ?_)
      · have hv := hv.1 hc
        refine lv_iconst (v := z_i 0) hx hb dX3_cornerOf_27 rfl ?_
        refine lx_iadd hx hb dX3_cornerOf_28 ?_
        obtain ⟨hr3, hv⟩ := hv
        exact W.iret (v := z_i ((n + 0) + 0)) hx hb hr (fun t ht hW => ⟨⟨z_i ((n + 0) + 0), (), rfl, ⟨(n + 0) + 0, rfl, hr3, hv⟩, trivial⟩, hS.F ht⟩) hS.2.2 dX3_cornerOf_29
      · have hv := hv.2 hc
        refine lv_bipush (v := z_i 40) hx hb dX3_cornerOf_22 (by decide) ?_
        refine lv_goto (tgt := 28) hx hb dX3_cornerOf_24 (by decide) ?_
        refine lx_iadd hx hb dX3_cornerOf_28 ?_
        obtain ⟨hr4, hv⟩ := hv
        exact W.iret (v := z_i ((n + 0) + 40)) hx hb hr (fun t ht hW => ⟨⟨z_i ((n + 0) + 40), (), rfl, ⟨(n + 0) + 40, rfl, hr4, hv⟩, trivial⟩, hS.F ht⟩) hS.2.2 dX3_cornerOf_29
    · have hv := hv.2 hc
      refine lv_iconst (v := z_i 1) hx hb dX3_cornerOf_11 rfl ?_
      refine lv_goto (tgt := 16) hx hb dX3_cornerOf_12 (by decide) ?_
      refine lx_iadd hx hb dX3_cornerOf_16 ?_
      refine lv_iload_n hx hb dX3_cornerOf_17 rfl (lv_at hl 1 rfl) ?_
      refine lv_iconst (v := z_i 2) hx hb dX3_cornerOf_18 rfl ?_
      refine lx_icmp_lt (tgt := 27) hx hb dX3_cornerOf_19 (by decide) h_k (show z_in 2 from ⟨by decide, by decide⟩) (fun hc => ?_) (fun hc => ?_)
      · have hv := hv.1 hc
        refine lv_iconst (v := z_i 0) hx hb dX3_cornerOf_27 rfl ?_
        refine lx_iadd hx hb dX3_cornerOf_28 ?_
        obtain ⟨hr5, hv⟩ := hv
        exact W.iret (v := z_i ((n + 1) + 0)) hx hb hr (fun t ht hW => ⟨⟨z_i ((n + 1) + 0), (), rfl, ⟨(n + 1) + 0, rfl, hr5, hv⟩, trivial⟩, hS.F ht⟩) hS.2.2 dX3_cornerOf_29
      · have hv := hv.2 hc
        refine lv_bipush (v := z_i 40) hx hb dX3_cornerOf_22 (by decide) ?_
        refine lv_goto (tgt := 28) hx hb dX3_cornerOf_24 (by decide) ?_
        refine lx_iadd hx hb dX3_cornerOf_28 ?_
        obtain ⟨hr6, hv⟩ := hv
        exact W.iret (v := z_i ((n + 1) + 40)) hx hb hr (fun t ht hW => ⟨⟨z_i ((n + 1) + 40), (), rfl, ⟨(n + 1) + 40, rfl, hr6, hv⟩, trivial⟩, hS.F ht⟩) hS.2.2 dX3_cornerOf_29
set_option maxHeartbeats 4000000 in
set_option maxRecDepth 100000 in
theorem mt_X3_cornerOf (l : Launch) (D : va_G) (cA : Nat → ClassId) (n : Int) (k : Int) (h_n : z_in n) (h_k : z_in k) (hp1 : 0 ≤ n ∧ n < 1280) (hp2 : 0 ≤ k ∧ k < 4) : Met l yX3_cornerOf wsX3_cornerOf ({ frames := 0, cells := 0, slots := 0, locals := 0 } : Room) (va_Pc [.int (z_i n), .int (z_i k)] (z_B0 D cA [])) (va_Qi (z_ri (fun (r : Int) => r = c_co n k)) (fun _ _ => True) (fun _ => False)) 0 0 (fun _ => False) := by
  refine wk_X3_cornerOf l D cA n k h_n h_k (fun (r : Int) => r = c_co n k) ?_
  unfold vc_X3_cornerOf
  unfold c_co
  refine ⟨fun h => ⟨fun h2 => ⟨⟨by omega, by omega⟩, ?_⟩, fun h2 => absurd h (by omega)⟩, fun h => ⟨fun h2 => ⟨fun h3 => ⟨⟨by omega, by omega⟩, ?_⟩, fun h3 => ⟨⟨by omega, by omega⟩, ?_⟩⟩, fun h2 => ⟨fun h3 => absurd h2 (by omega), fun h3 => ⟨⟨by omega, by omega⟩, ?_⟩⟩⟩⟩
  · rw [if_pos (by omega), if_neg (by omega)]
  · rw [if_neg (by omega), if_neg (by omega)]
  · rw [if_neg (by omega), if_pos (by omega)]
  · rw [if_pos (by omega), if_pos (by omega)]
def vc_X3_sideOfCell (n : Int) (k : Int) (Q : Int → Prop) : Prop :=
((k = 0 → z_in (2 * n) ∧ Q (2 * n)) ∧
(k = 1 → z_in ((2 * (n + 1)) + 1) ∧ Q ((2 * (n + 1)) + 1)) ∧
(k = 2 → z_in (2 * (n + 40)) ∧ Q (2 * (n + 40))) ∧
((k < 0 ∨ 2 < k) → z_in ((2 * n) + 1) ∧ Q ((2 * n) + 1)))
set_option maxHeartbeats 4000000 in
set_option maxRecDepth 100000 in
theorem wk_X3_sideOfCell (l : Launch) (D : va_G) (cA : Nat → ClassId) (n : Int) (k : Int) (h_n : z_in n) (h_k : z_in k) (Q : Int → Prop) (hv : vc_X3_sideOfCell n k Q) : Met l yX3_sideOfCell wsX3_sideOfCell ({ frames := 0, cells := 0, slots := 0, locals := 0 } : Room) (va_Pc [.int (z_i n), .int (z_i k)] (z_B0 D cA [])) (va_Qi (z_ri Q) (fun _ _ => True) (fun _ => False)) 0 0 (fun _ => False) := by
  unfold vc_X3_sideOfCell at hv
  refine Met.ofW (cc := cX3_sideOfCell) (maxL := 2) (ret := (some .int)) (by decide +kernel) rfl ?_
  intro p e s m args below meth c s₁ B hml hv0
  obtain ⟨rfl, hK, hP⟩ := hv0
  have hx := B.exec
  have hb := B.bytes
  have hr := B.returns
  have hts := atoms_spec (ws := wsX3_sideOfCell) B.pre
  have hown : s.vm.findClass RX3 = some m.cls := findClass_of_methodNamed B.named
  have hlocks := B.notSynchronized
  have hS : va_S (fun _ : Nat => False) s.heap s.heap [] := va_S.rf
  have hl := lv_entry ([.int (z_i n), .int (z_i k)]) (n := 2) (Nat.le_of_ble_eq_true rfl)
  rw [lg_entry_eq]
  generalize (lg_sl ([.int (z_i n), .int (z_i k)]) ++ List.replicate (2 - (lg_sl ([.int (z_i n), .int (z_i k)])).length) Slot.unset).toArray = ls at hl ⊢
  have hl : lv_has ls 2 [(0, .int (z_i n)), (1, .int (z_i k))] := hl
  refine lv_iload_n hx hb dX3_sideOfCell_0 rfl (lv_at hl 1 rfl) ?_
  have hto := z_i_to h_k
  rcases (show k = 0 ∨ k = 1 ∨ k = 2 ∨ (k < 0 ∨ 2 < k) by omega) with hc | hc | hc | hc
  · have hv := hv.1 hc
    refine lv_tableIn (off := 27) (tgt := 28) hx hb dX3_sideOfCell_1 (by rw [hto, hc]; decide) (by rw [hto, hc]; decide) (by rw [hto, hc]; decide) (by decide) ?_
    refine lv_iconst (v := z_i 2) hx hb dX3_sideOfCell_28 rfl ?_
    refine lv_iload_n hx hb dX3_sideOfCell_29 rfl (lv_at hl 0 rfl) ?_
    refine lx_imul hx hb dX3_sideOfCell_30 ?_
    obtain ⟨hr1, hv⟩ := hv
    exact W.iret (v := z_i (2 * n)) hx hb hr (fun t ht hW => ⟨⟨z_i (2 * n), (), rfl, ⟨2 * n, rfl, hr1, hv⟩, trivial⟩, hS.F ht⟩) hS.2.2 dX3_sideOfCell_31
  · have hv := hv.2.1 hc
    refine lv_tableIn (off := 31) (tgt := 32) hx hb dX3_sideOfCell_1 (by rw [hto, hc]; decide) (by rw [hto, hc]; decide) (by rw [hto, hc]; decide) (by decide) ?_
    refine lv_iconst (v := z_i 2) hx hb dX3_sideOfCell_32 rfl ?_
    refine lv_iload_n hx hb dX3_sideOfCell_33 rfl (lv_at hl 0 rfl) ?_
    refine lv_iconst (v := z_i 1) hx hb dX3_sideOfCell_34 rfl ?_
    refine lx_iadd hx hb dX3_sideOfCell_35 ?_
    refine lx_imul hx hb dX3_sideOfCell_36 ?_
    refine lv_iconst (v := z_i 1) hx hb dX3_sideOfCell_37 rfl ?_
    refine lx_iadd hx hb dX3_sideOfCell_38 ?_
    obtain ⟨hr2, hv⟩ := hv
    exact W.iret (v := z_i ((2 * (n + 1)) + 1)) hx hb hr (fun t ht hW => ⟨⟨z_i ((2 * (n + 1)) + 1), (), rfl, ⟨(2 * (n + 1)) + 1, rfl, hr2, hv⟩, trivial⟩, hS.F ht⟩) hS.2.2 dX3_sideOfCell_39
  · have hv := hv.2.2.1 hc
    refine lv_tableIn (off := 39) (tgt := 40) hx hb dX3_sideOfCell_1 (by rw [hto, hc]; decide) (by rw [hto, hc]; decide) (by rw [hto, hc]; decide) (by decide) ?_
    refine lv_iconst (v := z_i 2) hx hb dX3_sideOfCell_40 rfl ?_
    refine lv_iload_n hx hb dX3_sideOfCell_41 rfl (lv_at hl 0 rfl) ?_
    refine lv_bipush (v := z_i 40) hx hb dX3_sideOfCell_42 (by decide) ?_
    refine lx_iadd hx hb dX3_sideOfCell_44 ?_
    refine lx_imul hx hb dX3_sideOfCell_45 ?_
    obtain ⟨hr3, hv⟩ := hv
    exact W.iret (v := z_i (2 * (n + 40))) hx hb hr (fun t ht hW => ⟨⟨z_i (2 * (n + 40)), (), rfl, ⟨2 * (n + 40), rfl, hr3, hv⟩, trivial⟩, hS.F ht⟩) hS.2.2 dX3_sideOfCell_46
  · have hv := hv.2.2.2 hc
    refine lv_tableOut (tgt := 47) hx hb dX3_sideOfCell_1 (by rw [hto]; exact hc) (by decide) ?_
    refine lv_iconst (v := z_i 2) hx hb dX3_sideOfCell_47 rfl ?_
    refine lv_iload_n hx hb dX3_sideOfCell_48 rfl (lv_at hl 0 rfl) ?_
    refine lx_imul hx hb dX3_sideOfCell_49 ?_
    refine lv_iconst (v := z_i 1) hx hb dX3_sideOfCell_50 rfl ?_
    refine lx_iadd hx hb dX3_sideOfCell_51 ?_
    obtain ⟨hr4, hv⟩ := hv
    exact W.iret (v := z_i ((2 * n) + 1)) hx hb hr (fun t ht hW => ⟨⟨z_i ((2 * n) + 1), (), rfl, ⟨(2 * n) + 1, rfl, hr4, hv⟩, trivial⟩, hS.F ht⟩) hS.2.2 dX3_sideOfCell_52
set_option maxHeartbeats 4000000 in
set_option maxRecDepth 100000 in
theorem mt_X3_sideOfCell (l : Launch) (D : va_G) (cA : Nat → ClassId) (n : Int) (k : Int) (h_n : z_in n) (h_k : z_in k) (hp1 : 0 ≤ n ∧ n < 1280) (hp2 : 0 ≤ k ∧ k < 4) : Met l yX3_sideOfCell wsX3_sideOfCell ({ frames := 0, cells := 0, slots := 0, locals := 0 } : Room) (va_Pc [.int (z_i n), .int (z_i k)] (z_B0 D cA [])) (va_Qi (z_ri (fun (r : Int) => r = c_sd n k)) (fun _ _ => True) (fun _ => False)) 0 0 (fun _ => False) := by
  refine wk_X3_sideOfCell l D cA n k h_n h_k (fun (r : Int) => r = c_sd n k) ?_
  unfold vc_X3_sideOfCell
  unfold c_sd
  refine ⟨fun h => ⟨⟨by omega, by omega⟩, ?_⟩, fun h => ⟨⟨by omega, by omega⟩, ?_⟩, fun h => ⟨⟨by omega, by omega⟩, ?_⟩, fun h => ⟨⟨by omega, by omega⟩, ?_⟩⟩
  · rw [if_pos h]
  · rw [if_neg (by omega), if_pos h]
  · rw [if_neg (by omega), if_neg (by omega), if_pos h]
  · rw [if_neg (by omega), if_neg (by omega), if_neg (by omega)]
def vc_X3_wayOut (high : Int) (en : Int) (rl : Int) (Q : Int → Prop) : Prop :=
(∀ J9 : Int → Prop,
(∀ (s9_0 : Int), z_in s9_0 → (∀ L13 : Int → Prop,
(∀ (x13_4 : Int), z_in x13_4 → ((x13_4 ≥ 4 → Q en) ∧
(x13_4 < 4 → z_in (en + (s9_0 * x13_4)) ∧ (∀ v1 : Int, v1 = en + (s9_0 * x13_4) → (0 ≤ high ∧ high < 16) ∧ (0 ≤ v1 ∧ v1 < 16) ∧ (∀ (r6 : Int), z_in r6 → (r6 = z_b (c_hi high v1)) → ((r6 ≠ 0 → L13 (x13_4 + 1)) ∧
(r6 = 0 → z_in (v1 + 1) ∧ (0 ≤ high ∧ high < 16) ∧ (0 ≤ (v1 + 1) ∧ (v1 + 1) < 16) ∧ (∀ (r10 : Int), z_in r10 → (r10 = z_b (c_hi high (v1 + 1))) → ((r10 = 0 → L13 (x13_4 + 1)) ∧
(r10 ≠ 0 → Q (z_and v1 3)))))))))) → L13 x13_4) →
L13 1) → J9 s9_0) →
((rl = 0 → J9 3) ∧
(rl ≠ 0 → J9 1)))
set_option maxHeartbeats 4000000 in
set_option maxRecDepth 100000 in
theorem wk_X3_wayOut (l : Launch) (D : va_G) (cA : Nat → ClassId) (high : Int) (en : Int) (rl : Int) (h_high : z_in high) (h_en : z_in en) (h_rl : z_in rl) (Q : Int → Prop) (hv : vc_X3_wayOut high en rl Q) : Met l yX3_wayOut wsX3_wayOut ({ frames := 1, cells := 0, slots := 0, locals := 21 } : Room) (va_Pc [.int (z_i high), .int (z_i en), .int (z_i rl)] (z_B0 D cA [])) (va_Qi (z_ri Q) (fun _ _ => True) (fun _ => False)) 0 0 (fun _ => False) := by
  unfold vc_X3_wayOut at hv
  refine Met.ofW (cc := cX3_wayOut) (maxL := 6) (ret := (some .int)) (by decide +kernel) rfl ?_
  intro p e s m args below meth c s₁ B hml hv0
  obtain ⟨rfl, hK, hP⟩ := hv0
  have hx := B.exec
  have hb := B.bytes
  have hr := B.returns
  have hts := atoms_spec (ws := wsX3_wayOut) B.pre
  have hown : s.vm.findClass RX3 = some m.cls := findClass_of_methodNamed B.named
  have hlocks := B.notSynchronized
  have hS : va_S (fun _ : Nat => False) s.heap s.heap [] := va_S.rf
  have hl := lv_entry ([.int (z_i high), .int (z_i en), .int (z_i rl)]) (n := 6) (Nat.le_of_ble_eq_true rfl)
  rw [lg_entry_eq]
  generalize (lg_sl ([.int (z_i high), .int (z_i en), .int (z_i rl)]) ++ List.replicate (6 - (lg_sl ([.int (z_i high), .int (z_i en), .int (z_i rl)])).length) Slot.unset).toArray = ls at hl ⊢
  have hl : lv_has ls 6 [(0, .int (z_i high)), (1, .int (z_i en)), (2, .int (z_i rl))] := hl
  have hv := hv (fun (s9_0 : Int) => ∀ (H : Heap) (locs : List Loc) (ls : Array Slot), va_P D vwCl [] H → va_S (fun _ : Nat => False) s.heap H locs → lv_has ls 6 [(0, .int (z_i high)), (1, .int (z_i en))] → W p l e (headSpec wsX3_wayOut ({ frames := 1, cells := 0, slots := 0, locals := 21 } : Room)).room s m ([.int (z_i high), .int (z_i en), .int (z_i rl)]).toArray below meth c H locs 0 0 (MQ below (va_Qi (z_ri Q) (fun _ _ => True) (fun _ => False)) ([.int (z_i high), .int (z_i en), .int (z_i rl)]).toArray s 0 0 (fun _ => False)) (F0 m 9 ls [.int (z_i s9_0)])) (by
    intro s9_0 h_s9_0 hv H locs ls hP hS hl
    refine lv_istore_n (lv' := [(3, .int (z_i s9_0)), (0, .int (z_i high)), (1, .int (z_i en))]) hx hb dX3_wayOut_9 rfl hl (by decide) rfl (fun ls hl => ?_)
    refine lv_iconst (v := z_i 1) hx hb dX3_wayOut_10 rfl ?_
    refine lv_istore (lv' := [(4, .int (z_i 1)), (3, .int (z_i s9_0)), (0, .int (z_i high)), (1, .int (z_i en))]) hx hb dX3_wayOut_11 hl (by decide) rfl (fun ls hl => ?_)
    refine hv (fun (x13_4 : Int) => ∀ (H : Heap) (locs : List Loc) (ls : Array Slot), va_P D vwCl [] H → va_S (fun _ : Nat => False) s.heap H locs → lv_has ls 6 [(4, .int (z_i x13_4)), (3, .int (z_i s9_0)), (0, .int (z_i high)), (1, .int (z_i en))] → W p l e _ s m _ below meth c H locs 0 0 _ (F0 m 13 ls [])) ?_ _ _ ls hP hS (lv_sub hl [0, 1, 2, 3] rfl)
    intro x13_4 h_x13_4 hv H locs ls hP hS hl
    refine lv_iload hx hb dX3_wayOut_13 (lv_at hl 0 rfl) ?_
    refine lv_iconst (v := z_i 4) hx hb dX3_wayOut_15 rfl ?_
    refine lx_icmp_ge (tgt := 58) hx hb dX3_wayOut_16 (by decide) h_x13_4 (show z_in 4 from ⟨by decide, by decide⟩) (fun hc => ?_) (fun hc => ?_)
    · have hv := hv.1 hc
      refine lv_iload_n hx hb dX3_wayOut_58 rfl (lv_at hl 3 rfl) ?_
      exact W.iret (v := z_i en) hx hb hr (fun t ht hW => ⟨⟨z_i en, (), rfl, ⟨en, rfl, h_en, hv⟩, trivial⟩, hS.F ht⟩) hS.2.2 dX3_wayOut_59
    · have hv := hv.2 hc
      refine lv_iload_n hx hb dX3_wayOut_19 rfl (lv_at hl 3 rfl) ?_
      refine lv_iload_n hx hb dX3_wayOut_20 rfl (lv_at hl 1 rfl) ?_
      refine lv_iload hx hb dX3_wayOut_21 (lv_at hl 0 rfl) ?_
      refine lx_imul hx hb dX3_wayOut_23 ?_
      refine lx_iadd hx hb dX3_wayOut_24 ?_
      obtain ⟨hr2, hv⟩ := hv
      refine lx_topi (fun v1 hy3 => ?_)
      have hv := hv v1 hy3
      have h_v1 : z_in v1 := by rw [hy3]; exact hr2
      refine lv_istore (lv' := [(5, .int (z_i v1)), (4, .int (z_i x13_4)), (3, .int (z_i s9_0)), (0, .int (z_i high)), (1, .int (z_i en))]) hx hb dX3_wayOut_25 hl (by decide) rfl (fun ls hl => ?_)
      refine lv_iload_n hx hb dX3_wayOut_27 rfl (lv_at hl 3 rfl) ?_
      refine lv_iload hx hb dX3_wayOut_28 (lv_at hl 0 rfl) ?_
      obtain ⟨hp4, hv⟩ := hv
      obtain ⟨hp5, hv⟩ := hv
      refine va_calli (va_runS (As := [.int (z_i high), .int (z_i v1)]) (rest := []) ⟨hx, hb, hml, hown, hts⟩ (mt_X3_isHigh l D cA high v1 h_high h_v1 hp4 hp5) (va_cwS 2 hts gX3_wayOut_X3_isHigh rfl rfl rfl (by decide +kernel) ⟨Nat.le_of_ble_eq_true rfl, Nat.le_of_ble_eq_true rfl⟩) ⟨z_bl0, fun U hU hW => ⟨rfl, z_b0 hK hP hU hW⟩⟩ rfl rfl hl.1 rfl (lv_room (Nat.le_of_ble_eq_true rfl)) dX3_wayOut_30 ⟨Nat.zero_le _, Nat.zero_le _⟩) hS (fun q _ h => h.elim) (fun q h => h.elim) (fun r0 u t H locs ht hvm hw hB hz1 hk1 hS => ?_)
      obtain ⟨r6, rfl, h_r6, hw⟩ := hw
      have hP := z_P_all hP hk1
      have hv := hv r6 h_r6 hw
      refine lx_if_ne (tgt := 52) hx hb dX3_wayOut_33 (by decide) h_r6 (fun hc => ?_) (fun hc => ?_)
      · have hv := hv.1 hc
        refine lv_iinc (v := z_i (x13_4 + 1)) (lv' := [(4, .int (z_i (x13_4 + 1))), (5, .int (z_i v1)), (3, .int (z_i s9_0)), (0, .int (z_i high)), (1, .int (z_i en))]) hx hb dX3_wayOut_52 hl (k := 1) rfl (z_i_add _ _) (by decide) rfl (fun ls hl => ?_)
        refine lv_goto (tgt := 13) hx hb dX3_wayOut_55 (by decide) ?_
        exact hv _ _ ls hP hS (lv_sub hl [0, 2, 3, 4] rfl)
      · have hv := hv.2 hc
        refine lv_iload_n hx hb dX3_wayOut_36 rfl (lv_at hl 3 rfl) ?_
        refine lv_iload hx hb dX3_wayOut_37 (lv_at hl 0 rfl) ?_
        refine lv_iconst (v := z_i 1) hx hb dX3_wayOut_39 rfl ?_
        refine lx_iadd hx hb dX3_wayOut_40 ?_
        obtain ⟨hr7, hv⟩ := hv
        obtain ⟨hp8, hv⟩ := hv
        obtain ⟨hp9, hv⟩ := hv
        refine va_calli (va_runS (As := [.int (z_i high), .int (z_i (v1 + 1))]) (rest := []) ⟨hx, hb, hml, hown, hts⟩ (mt_X3_isHigh l D cA high (v1 + 1) h_high hr7 hp8 hp9) (va_cwS 2 hts gX3_wayOut_X3_isHigh rfl rfl rfl (by decide +kernel) ⟨Nat.le_of_ble_eq_true rfl, Nat.le_of_ble_eq_true rfl⟩) ⟨z_bl0, fun U hU hW => ⟨rfl, z_b0 hK hP hU hW⟩⟩ rfl rfl hl.1 rfl (lv_room (Nat.le_of_ble_eq_true rfl)) dX3_wayOut_41 ⟨Nat.zero_le _, Nat.zero_le _⟩) hS (fun q _ h => h.elim) (fun q h => h.elim) (fun r0 u t H locs ht hvm hw hB hz1 hk1 hS => ?_)
        obtain ⟨r10, rfl, h_r10, hw⟩ := hw
        have hP := z_P_all hP hk1
        have hv := hv r10 h_r10 hw
        refine lx_if_eq (tgt := 52) hx hb dX3_wayOut_44 (by decide) h_r10 (fun hc => ?_) (fun hc => ?_)
        · have hv := hv.1 hc
          refine lv_iinc (v := z_i (x13_4 + 1)) (lv' := [(4, .int (z_i (x13_4 + 1))), (5, .int (z_i v1)), (3, .int (z_i s9_0)), (0, .int (z_i high)), (1, .int (z_i en))]) hx hb dX3_wayOut_52 hl (k := 1) rfl (z_i_add _ _) (by decide) rfl (fun ls hl => ?_)
          refine lv_goto (tgt := 13) hx hb dX3_wayOut_55 (by decide) ?_
          exact hv _ _ ls hP hS (lv_sub hl [0, 2, 3, 4] rfl)
        · have hv := hv.2 hc
          refine lv_iload hx hb dX3_wayOut_47 (lv_at hl 0 rfl) ?_
          refine lv_iconst (v := z_i 3) hx hb dX3_wayOut_49 rfl ?_
          refine lx_iand hx hb dX3_wayOut_50 ?_
          exact W.iret (v := z_i (z_and v1 3)) hx hb hr (fun t ht hW => ⟨⟨z_i (z_and v1 3), (), rfl, ⟨z_and v1 3, rfl, (z_in_of _), hv⟩, trivial⟩, hS.F ht⟩) hS.2.2 dX3_wayOut_51)
  refine lv_iload_n hx hb dX3_wayOut_0 rfl (lv_at hl 2 rfl) ?_
  refine lx_if_eq (tgt := 8) hx hb dX3_wayOut_1 (by decide) h_rl (fun hc => ?_) (fun hc => ?_)
  · have hv := hv.1 hc
    refine lv_iconst (v := z_i 3) hx hb dX3_wayOut_8 rfl ?_
    exact hv _ _ ls hP hS (lv_sub hl [0, 1] rfl)
  · have hv := hv.2 hc
    refine lv_iconst (v := z_i 1) hx hb dX3_wayOut_4 rfl ?_
    refine lv_goto (tgt := 9) hx hb dX3_wayOut_5 (by decide) ?_
    exact hv _ _ ls hP hS (lv_sub hl [0, 1] rfl)
set_option maxHeartbeats 4000000 in
set_option maxRecDepth 100000 in
theorem mt_X3_wayOut (l : Launch) (D : va_G) (cA : Nat → ClassId) (high : Int) (en : Int) (rl : Int) (h_high : z_in high) (h_en : z_in en) (h_rl : z_in rl) (hp1 : 0 ≤ high ∧ high < 16) (hp2 : 0 ≤ en ∧ en < 4) (hp3 : rl = 0 ∨ rl = 1) : Met l yX3_wayOut wsX3_wayOut ({ frames := 1, cells := 0, slots := 0, locals := 21 } : Room) (va_Pc [.int (z_i high), .int (z_i en), .int (z_i rl)] (z_B0 D cA [])) (va_Qi (z_ri (fun (r : Int) => r = c_wo high en rl)) (fun _ _ => True) (fun _ => False)) 0 0 (fun _ => False) := by
  refine wk_X3_wayOut l D cA high en rl h_high h_en h_rl (fun (r : Int) => r = c_wo high en rl) ?_
  unfold vc_X3_wayOut
  intro J hJ
  suffices H : J (if rl = 0 then 3 else 1) from ⟨fun h => by rw [if_pos h] at H; exact H, fun h => by rw [if_neg h] at H; exact H⟩
  have hst : ∃ st : Int, st = (if rl = 0 then 3 else 1) ∧ 1 ≤ st ∧ st ≤ 3 := ⟨_, rfl, by split <;> omega, by split <;> omega⟩
  obtain ⟨st, est, s0, s1⟩ := hst
  rw [← est]
  refine hJ st ⟨by omega, by omega⟩ ?_
  unfold c_wo
  rw [← est]
  have a3 := fun (v : Int) (a : 0 ≤ v) (b : v < 16) => z_fin (N := 16) (P := fun k => z_and k 3 = k % 4) c_and3 a b
  intro L hL
  have step : ∀ t : Int, 1 ≤ t → t ≤ 3 → (¬ (c_hi high (en + st * t) = false ∧ c_hi high (en + st * t + 1) = true) → L (t + 1)) → (c_hi high (en + st * t) = false ∧ c_hi high (en + st * t + 1) = true → (en + st * t) % 4 = c_wo high en rl) → L t := by
    intro t t0 t1 hn hy
    have hb : 0 ≤ st * t ∧ st * t ≤ 9 := by
      constructor
      · exact Int.mul_nonneg (by omega) (by omega)
      · have := Int.mul_le_mul s1 t1 (by omega) (by omega : (0 : Int) ≤ 3)
        omega
    refine hL t ⟨by omega, by omega⟩ ⟨fun h => absurd h (by omega), fun h => ⟨⟨by omega, by omega⟩, ?_⟩⟩
    rintro v rfl
    refine ⟨hp1, ⟨by omega, by omega⟩, ?_⟩
    rintro r6 h6 rfl
    refine ⟨fun q => hn (fun z => ?_), fun q => ⟨⟨by omega, by omega⟩, hp1, ⟨by omega, by omega⟩, ?_⟩⟩
    · rw [z.1] at q; exact absurd rfl q
    · rintro r10 h10 rfl
      refine ⟨fun q2 => hn (fun z => ?_), fun q2 => ?_⟩
      · rw [z.2] at q2; exact absurd q2 (by decide)
      · rw [a3 _ (by omega) (by omega)]
        have e1 : c_hi high (en + st * t) = false := by
          cases hc : c_hi high (en + st * t)
          · rfl
          · rw [hc] at q; exact absurd q (by decide)
        have e2 : c_hi high (en + st * t + 1) = true := by
          cases hc : c_hi high (en + st * t + 1)
          · rw [hc] at q2; exact absurd rfl q2
          · rfl
        have := hy ⟨e1, e2⟩
        rw [this]
        unfold c_wo
        rw [← est]
  have e4 : (1 : Int) + 1 + 1 + 1 = 4 := by decide
  refine step 1 (by decide) (by decide) (fun n1 => ?_) (fun y1 => ?_)
  · refine step 2 (by decide) (by decide) (fun n2 => ?_) (fun y2 => ?_)
    · refine step 3 (by decide) (by decide) (fun n3 => ?_) (fun y3 => ?_)
      · refine hL 4 ⟨by decide, by decide⟩ ⟨fun _ => ?_, fun h => absurd h (by decide)⟩
        rw [if_neg n1, if_neg n2, if_neg n3]
      · unfold c_wo; rw [← est, if_neg n1, if_neg n2, if_pos y3]
    · unfold c_wo; rw [← est, if_neg n1, if_pos y2]
  · unfold c_wo; rw [← est, if_pos y1]
def vc_X3_link (j_next : Nat → Int32) (j_before : Nat → Int32) (j_least : Int) (j_last : Int) (from_ : Int) (to_ : Int) (Q : (Nat → Int32) → (Nat → Int32) → Int → Int → Prop) : Prop :=
((from_ < 0 → Q j_next j_before j_least j_last) ∧
(from_ ≥ 0 → ((from_ ≥ 2560 → Q j_next j_before j_least j_last) ∧
(from_ < 2560 → ((to_ < 0 → Q j_next j_before j_least j_last) ∧
(to_ ≥ 0 → ((to_ ≥ 2560 → Q j_next j_before j_least j_last) ∧
(to_ < 2560 → (0 ≤ from_ ∧ from_ < 2560) ∧ (∀ f2 : Nat → Int32, f2 = z_s j_next from_ to_ → (0 ≤ to_ ∧ to_ < 2560) ∧ (∀ f5 : Nat → Int32, f5 = z_s j_before to_ from_ → z_in (min j_least from_) ∧ (∀ v7 : Int, v7 = min j_least from_ → z_in (max j_last from_) ∧ (∀ v10 : Int, v10 = max j_last from_ → Q f2 f5 v7 v10))))))))))))
set_option maxHeartbeats 4000000 in
set_option maxRecDepth 100000 in
theorem wk_X3_link (l : Launch) (D : va_G) (cA : Nat → ClassId) (j : Nat) (ja_next : Nat) (j_next : Nat → Int32) (ja_before : Nat) (j_before : Nat → Int32) (j_least : Int) (j_last : Int) (from_ : Int) (to_ : Int) (h_j_least : z_in j_least) (h_j_last : z_in j_last) (h_from_ : z_in from_) (h_to_ : z_in to_) (Q : (Nat → Int32) → (Nat → Int32) → Int → Int → Prop) (hv : vc_X3_link j_next j_before j_least j_last from_ to_ Q) : Met l yX3_link wsX3_link ({ frames := 1, cells := 0, slots := 0, locals := 14 } : Room) (va_Pc [.ref j, .int (z_i from_), .int (z_i to_)] (z_M0 D cA [(j, .inr (2, [.ref ja_next, .ref ja_before, .int (z_i j_least), .int (z_i j_last)])), (ja_next, .inl (cA 1, 2560, .inl j_next)), (ja_before, .inl (cA 1, 2560, .inl j_before))])) (va_Qv (fun (u : (Nat → Int32) × (Nat → Int32) × Int × Int) => z_in u.2.2.1 ∧ z_in u.2.2.2 ∧ Q u.1 u.2.1 u.2.2.1 u.2.2.2) (fun (u : (Nat → Int32) × (Nat → Int32) × Int × Int) t => va_P D vwCl [(j, .inr (2, [.ref ja_next, .ref ja_before, .int (z_i u.2.2.1), .int (z_i u.2.2.2)])), (ja_next, .inl (cA 1, 2560, .inl u.1)), (ja_before, .inl (cA 1, 2560, .inl u.2.1))] t.heap) (z_A [(j, .inr (2, [.ref ja_next, .ref ja_before, .int (z_i j_least), .int (z_i j_last)])), (ja_next, .inl (cA 1, 2560, .inl j_next)), (ja_before, .inl (cA 1, 2560, .inl j_before))])) 0 0 (z_A [(j, .inr (2, [.ref ja_next, .ref ja_before, .int (z_i j_least), .int (z_i j_last)])), (ja_next, .inl (cA 1, 2560, .inl j_next)), (ja_before, .inl (cA 1, 2560, .inl j_before))]) := by
  unfold vc_X3_link at hv
  refine Met.ofW (cc := cX3_link) (maxL := 3) (ret := none) (by decide +kernel) rfl ?_
  intro p e s m args below meth c s₁ B hml hv0
  obtain ⟨rfl, hK, hP, hD0⟩ := hv0
  have hx := B.exec
  have hb := B.bytes
  have hr := B.returns
  have hts := atoms_spec (ws := wsX3_link) B.pre
  have hown : s.vm.findClass RX3 = some m.cls := findClass_of_methodNamed B.named
  have hlocks := B.notSynchronized
  have hD := z_D_self hD0
  generalize hAe : z_A [(j, .inr (2, [.ref ja_next, .ref ja_before, .int (z_i j_least), .int (z_i j_last)])), (ja_next, .inl (cA 1, 2560, .inl j_next)), (ja_before, .inl (cA 1, 2560, .inl j_before))] = A at *
  have hS : va_S A s.heap s.heap [] := va_S.rf
  have hl := lv_entry ([.ref j, .int (z_i from_), .int (z_i to_)]) (n := 3) (Nat.le_of_ble_eq_true rfl)
  rw [lg_entry_eq]
  generalize (lg_sl ([.ref j, .int (z_i from_), .int (z_i to_)]) ++ List.replicate (3 - (lg_sl ([.ref j, .int (z_i from_), .int (z_i to_)])).length) Slot.unset).toArray = ls at hl ⊢
  have hl : lv_has ls 3 [(0, .ref j), (1, .int (z_i from_)), (2, .int (z_i to_))] := hl
  refine lv_iload_n hx hb dX3_link_0 rfl (lv_at hl 1 rfl) ?_
  refine lx_if_lt (tgt := 60) hx hb dX3_link_1 (by decide) h_from_ (fun hc => ?_) (fun hc => ?_)
  · have hv := hv.1 hc
    exact W.vret hx hb hr (fun t ht hW => ⟨⟨(j_next, j_before, j_least, j_last), rfl, ⟨h_j_least, h_j_last, hv⟩, z_pt hP ht⟩, hS.F ht⟩) hS.2.2 dX3_link_60
  · have hv := hv.2 hc
    refine lv_iload_n hx hb dX3_link_4 rfl (lv_at hl 1 rfl) ?_
    refine lv_sipush (v := z_i 2560) hx hb dX3_link_5 (by decide) ?_
    refine lx_icmp_ge (tgt := 60) hx hb dX3_link_8 (by decide) h_from_ (show z_in 2560 from ⟨by decide, by decide⟩) (fun hc => ?_) (fun hc => ?_)
    · have hv := hv.1 hc
      exact W.vret hx hb hr (fun t ht hW => ⟨⟨(j_next, j_before, j_least, j_last), rfl, ⟨h_j_least, h_j_last, hv⟩, z_pt hP ht⟩, hS.F ht⟩) hS.2.2 dX3_link_60
    · have hv := hv.2 hc
      refine lv_iload_n hx hb dX3_link_11 rfl (lv_at hl 2 rfl) ?_
      refine lx_if_lt (tgt := 60) hx hb dX3_link_12 (by decide) h_to_ (fun hc => ?_) (fun hc => ?_)
      · have hv := hv.1 hc
        exact W.vret hx hb hr (fun t ht hW => ⟨⟨(j_next, j_before, j_least, j_last), rfl, ⟨h_j_least, h_j_last, hv⟩, z_pt hP ht⟩, hS.F ht⟩) hS.2.2 dX3_link_60
      · have hv := hv.2 hc
        refine lv_iload_n hx hb dX3_link_15 rfl (lv_at hl 2 rfl) ?_
        refine lv_sipush (v := z_i 2560) hx hb dX3_link_16 (by decide) ?_
        refine lx_icmp_ge (tgt := 60) hx hb dX3_link_19 (by decide) h_to_ (show z_in 2560 from ⟨by decide, by decide⟩) (fun hc => ?_) (fun hc => ?_)
        · have hv := hv.1 hc
          exact W.vret hx hb hr (fun t ht hW => ⟨⟨(j_next, j_before, j_least, j_last), rfl, ⟨h_j_least, h_j_last, hv⟩, z_pt hP ht⟩, hS.F ht⟩) hS.2.2 dX3_link_60
        · have hv := hv.2 hc
          refine lv_aload_n hx hb dX3_link_22 rfl (lv_at hl 0 rfl) ?_
          refine va_get (D := D) (ci := 2) (v := .ref ja_next) (C := RX3) (T := TX3) (N := 4) hx hb hts (fun w h => List.mem_cons_of_mem _ (List.mem_append_right _ h)) hown hK hP 0 rfl rfl 0 (by decide) (hts (.fieldLink RX3 9 "ContourSheets$Joins" "next" "[I") (by decide +kernel)) (fun _ h9 => h9) rfl dX3_link_23 ?_
          refine lv_iload_n hx hb dX3_link_26 rfl (lv_at hl 1 rfl) ?_
          refine lv_iload_n hx hb dX3_link_27 rfl (lv_at hl 2 rfl) ?_
          obtain ⟨hi1, hv⟩ := hv
          refine lx_iast hx hb hK hP hD hS 1 1 rfl rfl (by decide) hi1.1 hi1.2 dX3_link_28 (fun H locs hP hD hS => ?_)
          obtain ⟨f2, hy3⟩ : ∃ y : Nat → Int32, y = z_s j_next from_ to_ := ⟨_, rfl⟩
          have hv := hv f2 hy3
          have hP : va_P D vwCl [(j, .inr (2, [.ref ja_next, .ref ja_before, .int (z_i j_least), .int (z_i j_last)])), (ja_next, .inl (cA 1, 2560, .inl f2)), (ja_before, .inl (cA 1, 2560, .inl j_before))] H := by rw [hy3]; exact hP
          have hD : va_D A [(j, .inr (2, [.ref ja_next, .ref ja_before, .int (z_i j_least), .int (z_i j_last)])), (ja_next, .inl (cA 1, 2560, .inl f2)), (ja_before, .inl (cA 1, 2560, .inl j_before))] := by rw [hy3]; exact hD
          refine lv_aload_n hx hb dX3_link_29 rfl (lv_at hl 0 rfl) ?_
          refine va_get (D := D) (ci := 2) (v := .ref ja_before) (C := RX3) (T := TX3) (N := 4) hx hb hts (fun w h => List.mem_cons_of_mem _ (List.mem_append_right _ h)) hown hK hP 0 rfl rfl 1 (by decide) (hts (.fieldLink RX3 15 "ContourSheets$Joins" "before" "[I") (by decide +kernel)) (fun _ h9 => h9) rfl dX3_link_30 ?_
          refine lv_iload_n hx hb dX3_link_33 rfl (lv_at hl 2 rfl) ?_
          refine lv_iload_n hx hb dX3_link_34 rfl (lv_at hl 1 rfl) ?_
          obtain ⟨hi4, hv⟩ := hv
          refine lx_iast hx hb hK hP hD hS 2 1 rfl rfl (by decide) hi4.1 hi4.2 dX3_link_35 (fun H locs hP hD hS => ?_)
          obtain ⟨f5, hy6⟩ : ∃ y : Nat → Int32, y = z_s j_before to_ from_ := ⟨_, rfl⟩
          have hv := hv f5 hy6
          have hP : va_P D vwCl [(j, .inr (2, [.ref ja_next, .ref ja_before, .int (z_i j_least), .int (z_i j_last)])), (ja_next, .inl (cA 1, 2560, .inl f2)), (ja_before, .inl (cA 1, 2560, .inl f5))] H := by rw [hy6]; exact hP
          have hD : va_D A [(j, .inr (2, [.ref ja_next, .ref ja_before, .int (z_i j_least), .int (z_i j_last)])), (ja_next, .inl (cA 1, 2560, .inl f2)), (ja_before, .inl (cA 1, 2560, .inl f5))] := by rw [hy6]; exact hD
          refine lv_aload_n hx hb dX3_link_36 rfl (lv_at hl 0 rfl) ?_
          refine lv_aload_n hx hb dX3_link_37 rfl (lv_at hl 0 rfl) ?_
          refine va_get (D := D) (ci := 2) (v := .int (z_i j_least)) (C := RX3) (T := TX3) (N := 4) hx hb hts (fun w h => List.mem_cons_of_mem _ (List.mem_append_right _ h)) hown hK hP 0 rfl rfl 2 (by decide) (hts (.fieldLink RX3 24 "ContourSheets$Joins" "least" "I") (by decide +kernel)) (fun _ h9 => h9) rfl dX3_link_38 ?_
          refine lv_iload_n hx hb dX3_link_41 rfl (lv_at hl 1 rfl) ?_
          refine lx_mmin hx hb (hml.trans hl.1.symm) hown (hts (.methodLink RX3 67 Lib.Math.min.name) (by decide +kernel)) (hts (.static Lib.Math.min.name) (by decide +kernel)) (hts (.initialized "java/lang/Math") (by decide +kernel)) (hts (.code Lib.Math.min.name Lib.Math.min.code 2 (some .int)) (by decide +kernel)) (Nat.le_of_ble_eq_true rfl) (Nat.le_of_ble_eq_true rfl) (Nat.zero_le _) (Nat.zero_le _) dX3_link_42 h_j_least h_from_ ?_
          obtain ⟨hr8, hv⟩ := hv
          refine lx_topi (fun v7 hy9 => ?_)
          have hv := hv v7 hy9
          have h_v7 : z_in v7 := by rw [hy9]; exact hr8
          refine va_put (D := D) (ci := 2) (v := .int (z_i v7)) (ty := .int) (C := RX3) (T := TX3) (N := 4) hx hb hts (fun w h => List.mem_cons_of_mem _ (List.mem_append_right _ h)) tyX3 tyX3_ok nmX3 hown hK hP hD hS 0 rfl rfl 2 (by decide) (hts (.fieldLink RX3 24 "ContourSheets$Joins" "least" "I") (by decide +kernel)) (fun _ h9 => h9) rfl (by decide +kernel) rfl rfl (Nat.le_of_ble_eq_true rfl) dX3_link_45 (fun H locs hP hD hS => ?_)
          have hP : va_P D vwCl [(j, .inr (2, [.ref ja_next, .ref ja_before, .int (z_i v7), .int (z_i j_last)])), (ja_next, .inl (cA 1, 2560, .inl f2)), (ja_before, .inl (cA 1, 2560, .inl f5))] H := hP
          have hD : va_D A [(j, .inr (2, [.ref ja_next, .ref ja_before, .int (z_i v7), .int (z_i j_last)])), (ja_next, .inl (cA 1, 2560, .inl f2)), (ja_before, .inl (cA 1, 2560, .inl f5))] := hD
          refine lv_aload_n hx hb dX3_link_48 rfl (lv_at hl 0 rfl) ?_
          refine lv_aload_n hx hb dX3_link_49 rfl (lv_at hl 0 rfl) ?_
          refine va_get (D := D) (ci := 2) (v := .int (z_i j_last)) (C := RX3) (T := TX3) (N := 4) hx hb hts (fun w h => List.mem_cons_of_mem _ (List.mem_append_right _ h)) hown hK hP 0 rfl rfl 3 (by decide) (hts (.fieldLink RX3 28 "ContourSheets$Joins" "last" "I") (by decide +kernel)) (fun _ h9 => h9) rfl dX3_link_50 ?_
          refine lv_iload_n hx hb dX3_link_53 rfl (lv_at hl 1 rfl) ?_
          refine lx_mmax hx hb (hml.trans hl.1.symm) hown (hts (.methodLink RX3 72 Lib.Math.max.name) (by decide +kernel)) (hts (.static Lib.Math.max.name) (by decide +kernel)) (hts (.initialized "java/lang/Math") (by decide +kernel)) (hts (.code Lib.Math.max.name Lib.Math.max.code 2 (some .int)) (by decide +kernel)) (Nat.le_of_ble_eq_true rfl) (Nat.le_of_ble_eq_true rfl) (Nat.zero_le _) (Nat.zero_le _) dX3_link_54 h_j_last h_from_ ?_
          obtain ⟨hr11, hv⟩ := hv
          refine lx_topi (fun v10 hy12 => ?_)
          have hv := hv v10 hy12
          have h_v10 : z_in v10 := by rw [hy12]; exact hr11
          refine va_put (D := D) (ci := 2) (v := .int (z_i v10)) (ty := .int) (C := RX3) (T := TX3) (N := 4) hx hb hts (fun w h => List.mem_cons_of_mem _ (List.mem_append_right _ h)) tyX3 tyX3_ok nmX3 hown hK hP hD hS 0 rfl rfl 3 (by decide) (hts (.fieldLink RX3 28 "ContourSheets$Joins" "last" "I") (by decide +kernel)) (fun _ h9 => h9) rfl (by decide +kernel) rfl rfl (Nat.le_of_ble_eq_true rfl) dX3_link_57 (fun H locs hP hD hS => ?_)
          have hP : va_P D vwCl [(j, .inr (2, [.ref ja_next, .ref ja_before, .int (z_i v7), .int (z_i v10)])), (ja_next, .inl (cA 1, 2560, .inl f2)), (ja_before, .inl (cA 1, 2560, .inl f5))] H := hP
          have hD : va_D A [(j, .inr (2, [.ref ja_next, .ref ja_before, .int (z_i v7), .int (z_i v10)])), (ja_next, .inl (cA 1, 2560, .inl f2)), (ja_before, .inl (cA 1, 2560, .inl f5))] := hD
          exact W.vret hx hb hr (fun t ht hW => ⟨⟨(f2, f5, v7, v10), rfl, ⟨h_v7, h_v10, hv⟩, z_pt hP ht⟩, hS.F ht⟩) hS.2.2 dX3_link_60
set_option maxHeartbeats 4000000 in
set_option maxRecDepth 100000 in
theorem mt_X3_link (l : Launch) (D : va_G) (cA : Nat → ClassId) (j : Nat) (ja_next : Nat) (j_next : Nat → Int32) (ja_before : Nat) (j_before : Nat → Int32) (j_least : Int) (j_last : Int) (from_ : Int) (to_ : Int) (h_j_least : z_in j_least) (h_j_last : z_in j_last) (h_from_ : z_in from_) (h_to_ : z_in to_) (hp1 : 0 ≤ from_ ∧ from_ < 2560) (hp2 : 0 ≤ to_ ∧ to_ < 2560) : Met l yX3_link wsX3_link ({ frames := 1, cells := 0, slots := 0, locals := 14 } : Room) (va_Pc [.ref j, .int (z_i from_), .int (z_i to_)] (z_M0 D cA [(j, .inr (2, [.ref ja_next, .ref ja_before, .int (z_i j_least), .int (z_i j_last)])), (ja_next, .inl (cA 1, 2560, .inl j_next)), (ja_before, .inl (cA 1, 2560, .inl j_before))])) (va_Qv (fun (u : (Nat → Int32) × (Nat → Int32) × Int × Int) => z_in u.2.2.1 ∧ z_in u.2.2.2 ∧ (fun (j_next' : (Nat → Int32)) (j_before' : (Nat → Int32)) (j_least' : Int) (j_last' : Int) => j_next' = z_s j_next from_ to_ ∧ j_before' = z_s j_before to_ from_ ∧ j_least' = min j_least from_ ∧ j_last' = max j_last from_) u.1 u.2.1 u.2.2.1 u.2.2.2) (fun (u : (Nat → Int32) × (Nat → Int32) × Int × Int) t => va_P D vwCl [(j, .inr (2, [.ref ja_next, .ref ja_before, .int (z_i u.2.2.1), .int (z_i u.2.2.2)])), (ja_next, .inl (cA 1, 2560, .inl u.1)), (ja_before, .inl (cA 1, 2560, .inl u.2.1))] t.heap) (z_A [(j, .inr (2, [.ref ja_next, .ref ja_before, .int (z_i j_least), .int (z_i j_last)])), (ja_next, .inl (cA 1, 2560, .inl j_next)), (ja_before, .inl (cA 1, 2560, .inl j_before))])) 0 0 (z_A [(j, .inr (2, [.ref ja_next, .ref ja_before, .int (z_i j_least), .int (z_i j_last)])), (ja_next, .inl (cA 1, 2560, .inl j_next)), (ja_before, .inl (cA 1, 2560, .inl j_before))]) := by
  refine wk_X3_link l D cA j ja_next j_next ja_before j_before j_least j_last from_ to_ h_j_least h_j_last h_from_ h_to_ (fun (j_next' : (Nat → Int32)) (j_before' : (Nat → Int32)) (j_least' : Int) (j_last' : Int) => j_next' = z_s j_next from_ to_ ∧ j_before' = z_s j_before to_ from_ ∧ j_least' = min j_least from_ ∧ j_last' = max j_last from_) ?_
  unfold vc_X3_link
  refine ⟨fun h => absurd hp1 (by omega), fun h => ⟨fun h => absurd hp1 (by omega), fun h => ⟨fun h => absurd hp2 (by omega), fun h => ⟨fun h => absurd hp2 (by omega), fun h => ⟨hp1, ?_⟩⟩⟩⟩⟩
  rintro f2 rfl
  refine ⟨hp2, ?_⟩
  rintro f5 rfl
  refine ⟨⟨by omega, by omega⟩, ?_⟩
  rintro v7 rfl
  refine ⟨⟨by omega, by omega⟩, ?_⟩
  rintro v10 rfl
  exact ⟨rfl, rfl, rfl, rfl⟩
def vc_X3_leadsOn (j_next : Nat → Int32) (sd : Int) (Q : Int → Prop) : Prop :=
((sd < 0 → Q 0) ∧
(sd ≥ 0 → ((sd ≥ 2560 → Q 0) ∧
(sd < 2560 → (0 ≤ sd ∧ sd < 2560) ∧ ((z_g j_next sd = -1 → Q 0) ∧
(z_g j_next sd ≠ -1 → Q 1))))))
set_option maxHeartbeats 4000000 in
set_option maxRecDepth 100000 in
theorem wk_X3_leadsOn (l : Launch) (D : va_G) (cA : Nat → ClassId) (j : Nat) (ja_next : Nat) (j_next : Nat → Int32) (ja_before : Nat) (j_before : Nat → Int32) (j_least : Int) (j_last : Int) (sd : Int) (h_j_least : z_in j_least) (h_j_last : z_in j_last) (h_sd : z_in sd) (Q : Int → Prop) (hv : vc_X3_leadsOn j_next sd Q) : Met l yX3_leadsOn wsX3_leadsOn ({ frames := 0, cells := 0, slots := 0, locals := 0 } : Room) (va_Pc [.ref j, .int (z_i sd)] (z_B0 D cA [(j, .inr (2, [.ref ja_next, .ref ja_before, .int (z_i j_least), .int (z_i j_last)])), (ja_next, .inl (cA 1, 2560, .inl j_next)), (ja_before, .inl (cA 1, 2560, .inl j_before))])) (va_Qi (z_ri Q) (fun _ _ => True) (fun _ => False)) 0 0 (fun _ => False) := by
  unfold vc_X3_leadsOn at hv
  refine Met.ofW (cc := cX3_leadsOn) (maxL := 2) (ret := (some .boolean)) (by decide +kernel) rfl ?_
  intro p e s m args below meth c s₁ B hml hv0
  obtain ⟨rfl, hK, hP⟩ := hv0
  have hx := B.exec
  have hb := B.bytes
  have hr := B.returns
  have hts := atoms_spec (ws := wsX3_leadsOn) B.pre
  have hown : s.vm.findClass RX3 = some m.cls := findClass_of_methodNamed B.named
  have hlocks := B.notSynchronized
  have hS : va_S (fun _ : Nat => False) s.heap s.heap [] := va_S.rf
  have hl := lv_entry ([.ref j, .int (z_i sd)]) (n := 2) (Nat.le_of_ble_eq_true rfl)
  rw [lg_entry_eq]
  generalize (lg_sl ([.ref j, .int (z_i sd)]) ++ List.replicate (2 - (lg_sl ([.ref j, .int (z_i sd)])).length) Slot.unset).toArray = ls at hl ⊢
  have hl : lv_has ls 2 [(0, .ref j), (1, .int (z_i sd))] := hl
  refine lv_iload_n hx hb dX3_leadsOn_0 rfl (lv_at hl 1 rfl) ?_
  refine lx_if_lt (tgt := 25) hx hb dX3_leadsOn_1 (by decide) h_sd (fun hc => ?_) (fun hc => ?_)
  · have hv := hv.1 hc
    refine lv_iconst (v := z_i 0) hx hb dX3_leadsOn_25 rfl ?_
    exact W.zret (v := z_i 0) hx hb hr (by decide) (fun t ht hW => ⟨⟨z_i 0, (), rfl, ⟨0, rfl, (show z_in 0 from ⟨by decide, by decide⟩), hv⟩, trivial⟩, hS.F ht⟩) hS.2.2 dX3_leadsOn_26
  · have hv := hv.2 hc
    refine lv_iload_n hx hb dX3_leadsOn_4 rfl (lv_at hl 1 rfl) ?_
    refine lv_sipush (v := z_i 2560) hx hb dX3_leadsOn_5 (by decide) ?_
    refine lx_icmp_ge (tgt := 25) hx hb dX3_leadsOn_8 (by decide) h_sd (show z_in 2560 from ⟨by decide, by decide⟩) (fun hc => ?_) (fun hc => ?_)
    · have hv := hv.1 hc
      refine lv_iconst (v := z_i 0) hx hb dX3_leadsOn_25 rfl ?_
      exact W.zret (v := z_i 0) hx hb hr (by decide) (fun t ht hW => ⟨⟨z_i 0, (), rfl, ⟨0, rfl, (show z_in 0 from ⟨by decide, by decide⟩), hv⟩, trivial⟩, hS.F ht⟩) hS.2.2 dX3_leadsOn_26
    · have hv := hv.2 hc
      refine lv_aload_n hx hb dX3_leadsOn_11 rfl (lv_at hl 0 rfl) ?_
      refine va_get (D := D) (ci := 2) (v := .ref ja_next) (C := RX3) (T := TX3) (N := 4) hx hb hts (fun w h => List.mem_cons_of_mem _ (List.mem_append_right _ h)) hown hK hP 0 rfl rfl 0 (by decide) (hts (.fieldLink RX3 9 "ContourSheets$Joins" "next" "[I") (by decide +kernel)) (fun _ h9 => h9) rfl dX3_leadsOn_12 ?_
      refine lv_iload_n hx hb dX3_leadsOn_15 rfl (lv_at hl 1 rfl) ?_
      obtain ⟨hi1, hv⟩ := hv
      refine lx_iald hx hb hK hP 1 1 rfl rfl (by decide) hi1.1 hi1.2 dX3_leadsOn_16 ?_
      refine lv_iconst (v := z_i (-1)) hx hb dX3_leadsOn_17 rfl ?_
      refine lx_icmp_eq (tgt := 25) hx hb dX3_leadsOn_18 (by decide) (z_in_g _ _) (show z_in (-1) from ⟨by decide, by decide⟩) (fun hc => ?_) (fun hc => ?_)
      · have hv := hv.1 hc
        refine lv_iconst (v := z_i 0) hx hb dX3_leadsOn_25 rfl ?_
        exact W.zret (v := z_i 0) hx hb hr (by decide) (fun t ht hW => ⟨⟨z_i 0, (), rfl, ⟨0, rfl, (show z_in 0 from ⟨by decide, by decide⟩), hv⟩, trivial⟩, hS.F ht⟩) hS.2.2 dX3_leadsOn_26
      · have hv := hv.2 hc
        refine lv_iconst (v := z_i 1) hx hb dX3_leadsOn_21 rfl ?_
        refine lv_goto (tgt := 26) hx hb dX3_leadsOn_22 (by decide) ?_
        exact W.zret (v := z_i 1) hx hb hr (by decide) (fun t ht hW => ⟨⟨z_i 1, (), rfl, ⟨1, rfl, (show z_in 1 from ⟨by decide, by decide⟩), hv⟩, trivial⟩, hS.F ht⟩) hS.2.2 dX3_leadsOn_26
set_option maxHeartbeats 4000000 in
set_option maxRecDepth 100000 in
theorem mt_X3_leadsOn (l : Launch) (D : va_G) (cA : Nat → ClassId) (j : Nat) (ja_next : Nat) (j_next : Nat → Int32) (ja_before : Nat) (j_before : Nat → Int32) (j_least : Int) (j_last : Int) (sd : Int) (h_j_least : z_in j_least) (h_j_last : z_in j_last) (h_sd : z_in sd)  : Met l yX3_leadsOn wsX3_leadsOn ({ frames := 0, cells := 0, slots := 0, locals := 0 } : Room) (va_Pc [.ref j, .int (z_i sd)] (z_B0 D cA [(j, .inr (2, [.ref ja_next, .ref ja_before, .int (z_i j_least), .int (z_i j_last)])), (ja_next, .inl (cA 1, 2560, .inl j_next)), (ja_before, .inl (cA 1, 2560, .inl j_before))])) (va_Qi (z_ri (fun (r : Int) => r = z_b (decide (0 ≤ sd ∧ sd < 2560 ∧ z_g j_next sd ≠ -1)))) (fun _ _ => True) (fun _ => False)) 0 0 (fun _ => False) := by
  refine wk_X3_leadsOn l D cA j ja_next j_next ja_before j_before j_least j_last sd h_j_least h_j_last h_sd (fun (r : Int) => r = z_b (decide (0 ≤ sd ∧ sd < 2560 ∧ z_g j_next sd ≠ -1))) ?_
  unfold vc_X3_leadsOn
  refine ⟨fun h => ?_, fun h => ⟨fun h2 => ?_, fun h2 => ⟨⟨h, h2⟩, fun h3 => ?_, fun h3 => ?_⟩⟩⟩
  · rw [decide_eq_false (by omega)]; rfl
  · rw [decide_eq_false (by omega)]; rfl
  · rw [decide_eq_false (by omega)]; rfl
  · rw [decide_eq_true ⟨h, h2, h3⟩]; rfl
def vc_X3_beginsAt (j_next : Nat → Int32) (j_before : Nat → Int32) (sd : Int) (Q : Int → Prop) : Prop :=
(∀ (r1 : Int), z_in r1 → (r1 = z_b (decide (0 ≤ sd ∧ sd < 2560 ∧ z_g j_next sd ≠ -1))) → ((r1 = 0 → Q 0) ∧
(r1 ≠ 0 → (0 ≤ sd ∧ sd < 2560) ∧ ((z_g j_before sd ≠ -1 → Q 0) ∧
(z_g j_before sd = -1 → Q 1)))))
set_option maxHeartbeats 4000000 in
set_option maxRecDepth 100000 in
theorem wk_X3_beginsAt (l : Launch) (D : va_G) (cA : Nat → ClassId) (j : Nat) (ja_next : Nat) (j_next : Nat → Int32) (ja_before : Nat) (j_before : Nat → Int32) (j_least : Int) (j_last : Int) (sd : Int) (h_j_least : z_in j_least) (h_j_last : z_in j_last) (h_sd : z_in sd) (Q : Int → Prop) (hv : vc_X3_beginsAt j_next j_before sd Q) : Met l yX3_beginsAt wsX3_beginsAt ({ frames := 1, cells := 0, slots := 0, locals := 21 } : Room) (va_Pc [.ref j, .int (z_i sd)] (z_B0 D cA [(j, .inr (2, [.ref ja_next, .ref ja_before, .int (z_i j_least), .int (z_i j_last)])), (ja_next, .inl (cA 1, 2560, .inl j_next)), (ja_before, .inl (cA 1, 2560, .inl j_before))])) (va_Qi (z_ri Q) (fun _ _ => True) (fun _ => False)) 0 0 (fun _ => False) := by
  unfold vc_X3_beginsAt at hv
  refine Met.ofW (cc := cX3_beginsAt) (maxL := 2) (ret := (some .boolean)) (by decide +kernel) rfl ?_
  intro p e s m args below meth c s₁ B hml hv0
  obtain ⟨rfl, hK, hP⟩ := hv0
  have hx := B.exec
  have hb := B.bytes
  have hr := B.returns
  have hts := atoms_spec (ws := wsX3_beginsAt) B.pre
  have hown : s.vm.findClass RX3 = some m.cls := findClass_of_methodNamed B.named
  have hlocks := B.notSynchronized
  have hS : va_S (fun _ : Nat => False) s.heap s.heap [] := va_S.rf
  have hl := lv_entry ([.ref j, .int (z_i sd)]) (n := 2) (Nat.le_of_ble_eq_true rfl)
  rw [lg_entry_eq]
  generalize (lg_sl ([.ref j, .int (z_i sd)]) ++ List.replicate (2 - (lg_sl ([.ref j, .int (z_i sd)])).length) Slot.unset).toArray = ls at hl ⊢
  have hl : lv_has ls 2 [(0, .ref j), (1, .int (z_i sd))] := hl
  refine lv_aload_n hx hb dX3_beginsAt_0 rfl (lv_at hl 0 rfl) ?_
  refine lv_iload_n hx hb dX3_beginsAt_1 rfl (lv_at hl 1 rfl) ?_
  refine va_calli (va_runV (As := [.int (z_i sd)]) (rest := []) ⟨hx, hb, hml, hown, hts⟩ (mt_X3_leadsOn l D cA j ja_next j_next ja_before j_before j_least j_last sd h_j_least h_j_last h_sd) (cwV 1 hts gX3_beginsAt_X3_leadsOn rfl rfl rfl (by decide +kernel) ⟨Nat.le_of_ble_eq_true rfl, Nat.le_of_ble_eq_true rfl⟩) ⟨z_bl0, va_recv hK hP (ci := 2) (q0 := 0) rfl rfl, fun U hU hW => ⟨rfl, z_b0 hK hP hU hW⟩⟩ rfl rfl hl.1 rfl (lv_room (Nat.le_of_ble_eq_true rfl)) dX3_beginsAt_2 ⟨Nat.zero_le _, Nat.zero_le _⟩) hS (fun q _ h => h.elim) (fun q h => h.elim) (fun r0 u t H locs ht hvm hw hB hz1 hk1 hS => ?_)
  obtain ⟨r1, rfl, h_r1, hw⟩ := hw
  have hP := z_P_all hP hk1
  have hv := hv r1 h_r1 hw
  refine lx_if_eq (tgt := 22) hx hb dX3_beginsAt_5 (by decide) h_r1 (fun hc => ?_) (fun hc => ?_)
  · have hv := hv.1 hc
    refine lv_iconst (v := z_i 0) hx hb dX3_beginsAt_22 rfl ?_
    exact W.zret (v := z_i 0) hx hb hr (by decide) (fun t ht hW => ⟨⟨z_i 0, (), rfl, ⟨0, rfl, (show z_in 0 from ⟨by decide, by decide⟩), hv⟩, trivial⟩, hS.F ht⟩) hS.2.2 dX3_beginsAt_23
  · have hv := hv.2 hc
    refine lv_aload_n hx hb dX3_beginsAt_8 rfl (lv_at hl 0 rfl) ?_
    refine va_get (D := D) (ci := 2) (v := .ref ja_before) (C := RX3) (T := TX3) (N := 4) hx hb hts (fun w h => List.mem_cons_of_mem _ (List.mem_append_right _ h)) hown hK hP 0 rfl rfl 1 (by decide) (hts (.fieldLink RX3 15 "ContourSheets$Joins" "before" "[I") (by decide +kernel)) (fun _ h9 => h9) rfl dX3_beginsAt_9 ?_
    refine lv_iload_n hx hb dX3_beginsAt_12 rfl (lv_at hl 1 rfl) ?_
    obtain ⟨hi2, hv⟩ := hv
    refine lx_iald hx hb hK hP 2 1 rfl rfl (by decide) hi2.1 hi2.2 dX3_beginsAt_13 ?_
    refine lv_iconst (v := z_i (-1)) hx hb dX3_beginsAt_14 rfl ?_
    refine lx_icmp_ne (tgt := 22) hx hb dX3_beginsAt_15 (by decide) (z_in_g _ _) (show z_in (-1) from ⟨by decide, by decide⟩) (fun hc => ?_) (fun hc => ?_)
    · have hv := hv.1 hc
      refine lv_iconst (v := z_i 0) hx hb dX3_beginsAt_22 rfl ?_
      exact W.zret (v := z_i 0) hx hb hr (by decide) (fun t ht hW => ⟨⟨z_i 0, (), rfl, ⟨0, rfl, (show z_in 0 from ⟨by decide, by decide⟩), hv⟩, trivial⟩, hS.F ht⟩) hS.2.2 dX3_beginsAt_23
    · have hv := hv.2 hc
      refine lv_iconst (v := z_i 1) hx hb dX3_beginsAt_18 rfl ?_
      refine lv_goto (tgt := 23) hx hb dX3_beginsAt_19 (by decide) ?_
      exact W.zret (v := z_i 1) hx hb hr (by decide) (fun t ht hW => ⟨⟨z_i 1, (), rfl, ⟨1, rfl, (show z_in 1 from ⟨by decide, by decide⟩), hv⟩, trivial⟩, hS.F ht⟩) hS.2.2 dX3_beginsAt_23
set_option maxHeartbeats 4000000 in
set_option maxRecDepth 100000 in
theorem mt_X3_beginsAt (l : Launch) (D : va_G) (cA : Nat → ClassId) (j : Nat) (ja_next : Nat) (j_next : Nat → Int32) (ja_before : Nat) (j_before : Nat → Int32) (j_least : Int) (j_last : Int) (sd : Int) (h_j_least : z_in j_least) (h_j_last : z_in j_last) (h_sd : z_in sd)  : Met l yX3_beginsAt wsX3_beginsAt ({ frames := 1, cells := 0, slots := 0, locals := 21 } : Room) (va_Pc [.ref j, .int (z_i sd)] (z_B0 D cA [(j, .inr (2, [.ref ja_next, .ref ja_before, .int (z_i j_least), .int (z_i j_last)])), (ja_next, .inl (cA 1, 2560, .inl j_next)), (ja_before, .inl (cA 1, 2560, .inl j_before))])) (va_Qi (z_ri (fun (r : Int) => r = z_b (decide (0 ≤ sd ∧ sd < 2560 ∧ z_g j_next sd ≠ -1 ∧ z_g j_before sd = -1)))) (fun _ _ => True) (fun _ => False)) 0 0 (fun _ => False) := by
  refine wk_X3_beginsAt l D cA j ja_next j_next ja_before j_before j_least j_last sd h_j_least h_j_last h_sd (fun (r : Int) => r = z_b (decide (0 ≤ sd ∧ sd < 2560 ∧ z_g j_next sd ≠ -1 ∧ z_g j_before sd = -1))) ?_
  unfold vc_X3_beginsAt
  rintro r2 h2 rfl
  by_cases h : 0 ≤ sd ∧ sd < 2560 ∧ z_g j_next sd ≠ -1
  · rw [decide_eq_true h]
    refine ⟨fun q => absurd q (by decide), fun _ => ⟨⟨h.1, h.2.1⟩, fun q => ?_, fun q => ?_⟩⟩
    · rw [decide_eq_false (fun z => q z.2.2.2)]; rfl
    · rw [decide_eq_true ⟨h.1, h.2.1, h.2.2, q⟩]; rfl
  · rw [decide_eq_false h]
    refine ⟨fun _ => ?_, fun q => absurd rfl q⟩
    rw [decide_eq_false (fun z => h ⟨z.1, z.2.1, z.2.2.1⟩)]; rfl
def vc_X3_leave (j_next : Nat → Int32) (sd : Int) (Q : Int → (Nat → Int32) → Prop) : Prop :=
(∀ (r1 : Int), z_in r1 → (r1 = z_b (decide (0 ≤ sd ∧ sd < 2560 ∧ z_g j_next sd ≠ -1))) → ((r1 ≠ 0 → (0 ≤ sd ∧ sd < 2560) ∧ (∀ v3 : Int, v3 = z_g j_next sd → (∀ f5 : Nat → Int32, f5 = z_s j_next sd (-1) → Q v3 f5))) ∧
(r1 = 0 → Q (-1) j_next)))
set_option maxHeartbeats 4000000 in
set_option maxRecDepth 100000 in
theorem wk_X3_leave (l : Launch) (D : va_G) (cA : Nat → ClassId) (j : Nat) (ja_next : Nat) (j_next : Nat → Int32) (ja_before : Nat) (j_before : Nat → Int32) (j_least : Int) (j_last : Int) (sd : Int) (h_j_least : z_in j_least) (h_j_last : z_in j_last) (h_sd : z_in sd) (Q : Int → (Nat → Int32) → Prop) (hv : vc_X3_leave j_next sd Q) : Met l yX3_leave wsX3_leave ({ frames := 1, cells := 0, slots := 0, locals := 21 } : Room) (va_Pc [.ref j, .int (z_i sd)] (z_M0 D cA [(j, .inr (2, [.ref ja_next, .ref ja_before, .int (z_i j_least), .int (z_i j_last)])), (ja_next, .inl (cA 1, 2560, .inl j_next)), (ja_before, .inl (cA 1, 2560, .inl j_before))])) (va_Qi (z_mi (fun v (u : (Nat → Int32)) => Q v u)) (fun (u : (Nat → Int32)) t => va_P D vwCl [(j, .inr (2, [.ref ja_next, .ref ja_before, .int (z_i j_least), .int (z_i j_last)])), (ja_next, .inl (cA 1, 2560, .inl u)), (ja_before, .inl (cA 1, 2560, .inl j_before))] t.heap) (z_A [(j, .inr (2, [.ref ja_next, .ref ja_before, .int (z_i j_least), .int (z_i j_last)])), (ja_next, .inl (cA 1, 2560, .inl j_next)), (ja_before, .inl (cA 1, 2560, .inl j_before))])) 0 0 (z_A [(j, .inr (2, [.ref ja_next, .ref ja_before, .int (z_i j_least), .int (z_i j_last)])), (ja_next, .inl (cA 1, 2560, .inl j_next)), (ja_before, .inl (cA 1, 2560, .inl j_before))]) := by
  unfold vc_X3_leave at hv
  refine Met.ofW (cc := cX3_leave) (maxL := 3) (ret := (some .int)) (by decide +kernel) rfl ?_
  intro p e s m args below meth c s₁ B hml hv0
  obtain ⟨rfl, hK, hP, hD0⟩ := hv0
  have hx := B.exec
  have hb := B.bytes
  have hr := B.returns
  have hts := atoms_spec (ws := wsX3_leave) B.pre
  have hown : s.vm.findClass RX3 = some m.cls := findClass_of_methodNamed B.named
  have hlocks := B.notSynchronized
  have hD := z_D_self hD0
  generalize hAe : z_A [(j, .inr (2, [.ref ja_next, .ref ja_before, .int (z_i j_least), .int (z_i j_last)])), (ja_next, .inl (cA 1, 2560, .inl j_next)), (ja_before, .inl (cA 1, 2560, .inl j_before))] = A at *
  have hS : va_S A s.heap s.heap [] := va_S.rf
  have hl := lv_entry ([.ref j, .int (z_i sd)]) (n := 3) (Nat.le_of_ble_eq_true rfl)
  rw [lg_entry_eq]
  generalize (lg_sl ([.ref j, .int (z_i sd)]) ++ List.replicate (3 - (lg_sl ([.ref j, .int (z_i sd)])).length) Slot.unset).toArray = ls at hl ⊢
  have hl : lv_has ls 3 [(0, .ref j), (1, .int (z_i sd))] := hl
  refine lv_aload_n hx hb dX3_leave_0 rfl (lv_at hl 0 rfl) ?_
  refine lv_iload_n hx hb dX3_leave_1 rfl (lv_at hl 1 rfl) ?_
  refine va_calli (va_runV (As := [.int (z_i sd)]) (rest := []) ⟨hx, hb, hml, hown, hts⟩ (mt_X3_leadsOn l D cA j ja_next j_next ja_before j_before j_least j_last sd h_j_least h_j_last h_sd) (cwV 1 hts gX3_leave_X3_leadsOn rfl rfl rfl (by decide +kernel) ⟨Nat.le_of_ble_eq_true rfl, Nat.le_of_ble_eq_true rfl⟩) ⟨z_bl0, va_recv hK hP (ci := 2) (q0 := 0) rfl rfl, fun U hU hW => ⟨rfl, z_b0 hK hP hU hW⟩⟩ rfl rfl hl.1 rfl (lv_room (Nat.le_of_ble_eq_true rfl)) dX3_leave_2 ⟨Nat.zero_le _, Nat.zero_le _⟩) hS (fun q _ h => h.elim) (fun q h => h.elim) (fun r0 u t H locs ht hvm hw hB hz1 hk1 hS => ?_)
  obtain ⟨r1, rfl, h_r1, hw⟩ := hw
  have hP := z_P_all hP hk1
  have hv := hv r1 h_r1 hw
  refine lx_if_ne (tgt := 10) hx hb dX3_leave_5 (by decide) h_r1 (fun hc => ?_) (fun hc => ?_)
  · have hv := hv.1 hc
    refine lv_aload_n hx hb dX3_leave_10 rfl (lv_at hl 0 rfl) ?_
    refine va_get (D := D) (ci := 2) (v := .ref ja_next) (C := RX3) (T := TX3) (N := 4) hx hb hts (fun w h => List.mem_cons_of_mem _ (List.mem_append_right _ h)) hown hK hP 0 rfl rfl 0 (by decide) (hts (.fieldLink RX3 9 "ContourSheets$Joins" "next" "[I") (by decide +kernel)) (fun _ h9 => h9) rfl dX3_leave_11 ?_
    refine lv_iload_n hx hb dX3_leave_14 rfl (lv_at hl 1 rfl) ?_
    obtain ⟨hi2, hv⟩ := hv
    refine lx_iald hx hb hK hP 1 1 rfl rfl (by decide) hi2.1 hi2.2 dX3_leave_15 ?_
    refine lx_topi (fun v3 hy4 => ?_)
    have hv := hv v3 hy4
    have h_v3 : z_in v3 := by rw [hy4]; exact (z_in_g _ _)
    refine lv_istore_n (lv' := [(2, .int (z_i v3)), (0, .ref j), (1, .int (z_i sd))]) hx hb dX3_leave_16 rfl hl (by decide) rfl (fun ls hl => ?_)
    refine lv_aload_n hx hb dX3_leave_17 rfl (lv_at hl 1 rfl) ?_
    refine va_get (D := D) (ci := 2) (v := .ref ja_next) (C := RX3) (T := TX3) (N := 4) hx hb hts (fun w h => List.mem_cons_of_mem _ (List.mem_append_right _ h)) hown hK hP 0 rfl rfl 0 (by decide) (hts (.fieldLink RX3 9 "ContourSheets$Joins" "next" "[I") (by decide +kernel)) (fun _ h9 => h9) rfl dX3_leave_18 ?_
    refine lv_iload_n hx hb dX3_leave_21 rfl (lv_at hl 2 rfl) ?_
    refine lv_iconst (v := z_i (-1)) hx hb dX3_leave_22 rfl ?_
    refine lx_iast hx hb hK hP hD hS 1 1 rfl rfl (by decide) hi2.1 hi2.2 dX3_leave_23 (fun H locs hP hD hS => ?_)
    obtain ⟨f5, hy6⟩ : ∃ y : Nat → Int32, y = z_s j_next sd (-1) := ⟨_, rfl⟩
    have hv := hv f5 hy6
    have hP : va_P D vwCl [(j, .inr (2, [.ref ja_next, .ref ja_before, .int (z_i j_least), .int (z_i j_last)])), (ja_next, .inl (cA 1, 2560, .inl f5)), (ja_before, .inl (cA 1, 2560, .inl j_before))] H := by rw [hy6]; exact hP
    have hD : va_D A [(j, .inr (2, [.ref ja_next, .ref ja_before, .int (z_i j_least), .int (z_i j_last)])), (ja_next, .inl (cA 1, 2560, .inl f5)), (ja_before, .inl (cA 1, 2560, .inl j_before))] := by rw [hy6]; exact hD
    refine lv_iload_n hx hb dX3_leave_24 rfl (lv_at hl 0 rfl) ?_
    exact W.iret (v := z_i v3) hx hb hr (fun t ht hW => ⟨⟨z_i v3, (f5), rfl, ⟨v3, rfl, h_v3, hv⟩, z_pt hP ht⟩, hS.F ht⟩) hS.2.2 dX3_leave_25
  · have hv := hv.2 hc
    refine lv_iconst (v := z_i (-1)) hx hb dX3_leave_8 rfl ?_
    exact W.iret (v := z_i (-1)) hx hb hr (fun t ht hW => ⟨⟨z_i (-1), (j_next), rfl, ⟨-1, rfl, (show z_in (-1) from ⟨by decide, by decide⟩), hv⟩, z_pt hP ht⟩, hS.F ht⟩) hS.2.2 dX3_leave_9
set_option maxHeartbeats 4000000 in
set_option maxRecDepth 100000 in
theorem mt_X3_leave (l : Launch) (D : va_G) (cA : Nat → ClassId) (j : Nat) (ja_next : Nat) (j_next : Nat → Int32) (ja_before : Nat) (j_before : Nat → Int32) (j_least : Int) (j_last : Int) (sd : Int) (h_j_least : z_in j_least) (h_j_last : z_in j_last) (h_sd : z_in sd) (hp1 : 0 ≤ sd ∧ sd < 2560) : Met l yX3_leave wsX3_leave ({ frames := 1, cells := 0, slots := 0, locals := 21 } : Room) (va_Pc [.ref j, .int (z_i sd)] (z_M0 D cA [(j, .inr (2, [.ref ja_next, .ref ja_before, .int (z_i j_least), .int (z_i j_last)])), (ja_next, .inl (cA 1, 2560, .inl j_next)), (ja_before, .inl (cA 1, 2560, .inl j_before))])) (va_Qi (z_mi (fun v (u : (Nat → Int32)) => (fun (r : Int) (j_next' : (Nat → Int32)) => r = z_g j_next sd ∧ j_next' = (if z_g j_next sd = -1 then j_next else z_s j_next sd (-1))) v u)) (fun (u : (Nat → Int32)) t => va_P D vwCl [(j, .inr (2, [.ref ja_next, .ref ja_before, .int (z_i j_least), .int (z_i j_last)])), (ja_next, .inl (cA 1, 2560, .inl u)), (ja_before, .inl (cA 1, 2560, .inl j_before))] t.heap) (z_A [(j, .inr (2, [.ref ja_next, .ref ja_before, .int (z_i j_least), .int (z_i j_last)])), (ja_next, .inl (cA 1, 2560, .inl j_next)), (ja_before, .inl (cA 1, 2560, .inl j_before))])) 0 0 (z_A [(j, .inr (2, [.ref ja_next, .ref ja_before, .int (z_i j_least), .int (z_i j_last)])), (ja_next, .inl (cA 1, 2560, .inl j_next)), (ja_before, .inl (cA 1, 2560, .inl j_before))]) := by
  refine wk_X3_leave l D cA j ja_next j_next ja_before j_before j_least j_last sd h_j_least h_j_last h_sd (fun (r : Int) (j_next' : (Nat → Int32)) => r = z_g j_next sd ∧ j_next' = (if z_g j_next sd = -1 then j_next else z_s j_next sd (-1))) ?_
  unfold vc_X3_leave
  rintro r2 h2 rfl
  by_cases h : z_g j_next sd = -1
  · refine ⟨fun q => absurd ?_ q, fun _ => ⟨h.symm, (if_pos h).symm⟩⟩
    rw [decide_eq_false (fun z => z.2.2 h)]; rfl
  · refine ⟨fun _ => ⟨hp1, ?_⟩, fun q => absurd q ?_⟩
    · rintro v4 rfl f6 rfl
      exact ⟨rfl, (if_neg h).symm⟩
    · rw [decide_eq_true ⟨hp1.1, hp1.2, h⟩]; decide
def vc_X3_joinCell (j_next : Nat → Int32) (j_before : Nat → Int32) (j_least : Int) (j_last : Int) (g_units : Nat → Int32) (n : Int) (level : Int) (Q : (Nat → Int32) → (Nat → Int32) → Int → Int → Prop) : Prop :=
(∀ L6 : Int → Int → Prop,
(∀ (x6_5 : Int) (x6_4 : Int), z_in x6_5 → z_in x6_4 → ((x6_5 ≥ 4 → (0 ≤ n ∧ n < 1280) ∧ (g_ok g_units) ∧ (m_wh (g_th g_units) n = true) ∧ (∀ (r4 : Int), z_in r4 → (r4 = g_at g_units n + g_at g_units (n + 1) + g_at g_units (n + 40) + g_at g_units (n + 40 + 1)) → (∀ J57 : Int → Prop,
(∀ (s57_0 : Int), z_in s57_0 → (∀ L62 : Int → Int → Int → (Nat → Int32) → (Nat → Int32) → Prop,
(∀ (x62_6 : Int) (y62_j_least : Int) (y62_j_last : Int) (y62_ja_next : Nat → Int32) (y62_ja_before : Nat → Int32), z_in x62_6 → z_in y62_j_least → z_in y62_j_last → ((x62_6 ≥ 4 → Q y62_ja_next y62_ja_before y62_j_least y62_j_last) ∧
(x62_6 < 4 → (0 ≤ x6_4 ∧ x6_4 < 16) ∧ (0 ≤ x62_6 ∧ x62_6 < 16) ∧ (∀ (r7 : Int), z_in r7 → (r7 = z_b (c_hi x6_4 x62_6)) → ((r7 = 0 → L62 (x62_6 + 1) y62_j_least y62_j_last y62_ja_next y62_ja_before) ∧
(r7 ≠ 0 → z_in (x62_6 + 1) ∧ (0 ≤ x6_4 ∧ x6_4 < 16) ∧ (0 ≤ (x62_6 + 1) ∧ (x62_6 + 1) < 16) ∧ (∀ (r11 : Int), z_in r11 → (r11 = z_b (c_hi x6_4 (x62_6 + 1))) → ((r11 ≠ 0 → L62 (x62_6 + 1) y62_j_least y62_j_last y62_ja_next y62_ja_before) ∧
(r11 = 0 → (0 ≤ n ∧ n < 1280) ∧ (0 ≤ x62_6 ∧ x62_6 < 4) ∧ (∀ (r14 : Int), z_in r14 → (r14 = c_sd n x62_6) → (0 ≤ x6_4 ∧ x6_4 < 16) ∧ (0 ≤ x62_6 ∧ x62_6 < 4) ∧ (s57_0 = 0 ∨ s57_0 = 1) ∧ (∀ (r18 : Int), z_in r18 → (r18 = c_wo x6_4 x62_6 s57_0) → (0 ≤ n ∧ n < 1280) ∧ (0 ≤ r18 ∧ r18 < 4) ∧ (∀ (r21 : Int), z_in r21 → (r21 = c_sd n r18) → (0 ≤ r14 ∧ r14 < 2560) ∧ (0 ≤ r21 ∧ r21 < 2560) ∧ (∀ (c24 : Nat → Int32) (c25 : Nat → Int32) (c26 : Int) (c27 : Int), z_in c26 → z_in c27 → (c24 = z_s y62_ja_next r14 r21 ∧ c25 = z_s y62_ja_before r21 r14 ∧ c26 = min y62_j_least r14 ∧ c27 = max y62_j_last r14) → L62 (x62_6 + 1) c26 c27 c24 c25)))))))))))) → L62 x62_6 y62_j_least y62_j_last y62_ja_next y62_ja_before) →
L62 0 j_least j_last j_next j_before) → J57 s57_0) →
z_in (4 * level) ∧ ((r4 < 4 * level → J57 0) ∧
(r4 ≥ 4 * level → J57 1))))) ∧
(x6_5 < 4 → (0 ≤ n ∧ n < 1280) ∧ (0 ≤ x6_5 ∧ x6_5 < 4) ∧ (∀ (r31 : Int), z_in r31 → (r31 = c_co n x6_5) → (∀ (r32 : Int), z_in r32 → (r32 = g_at g_units r31) → ((r32 < level → L6 (x6_5 + 1) x6_4) ∧
(r32 ≥ level → (∀ v33 : Int, v33 = z_or x6_4 (z_shl 1 x6_5) → L6 (x6_5 + 1) v33))))))) → L6 x6_5 x6_4) →
L6 0 0)
set_option maxHeartbeats 4000000 in
set_option maxRecDepth 100000 in
theorem wk_X3_joinCell (l : Launch) (D : va_G) (cA : Nat → ClassId) (j : Nat) (ja_next : Nat) (j_next : Nat → Int32) (ja_before : Nat) (j_before : Nat → Int32) (j_least : Int) (j_last : Int) (g : Nat) (ga_units : Nat) (g_units : Nat → Int32) (ga_lengths : Nat) (g_lengths : Nat → Int32) (ga_offsets : Nat) (g_offsets : Nat → Int32) (g_step : Int) (n : Int) (level : Int) (h_j_least : z_in j_least) (h_j_last : z_in j_last) (h_g_step : z_in g_step) (h_n : z_in n) (h_level : z_in level) (Q : (Nat → Int32) → (Nat → Int32) → Int → Int → Prop) (hv : vc_X3_joinCell j_next j_before j_least j_last g_units n level Q) : Met l yX3_joinCell wsX3_joinCell ({ frames := 2, cells := 0, slots := 0, locals := 46 } : Room) (va_Pc [.ref j, .ref g, .int (z_i n), .int (z_i level)] (z_M0 D cA [(j, .inr (2, [.ref ja_next, .ref ja_before, .int (z_i j_least), .int (z_i j_last)])), (ja_next, .inl (cA 1, 2560, .inl j_next)), (ja_before, .inl (cA 1, 2560, .inl j_before)), (g, .inr (1, [.ref ga_units, .ref ga_lengths, .ref ga_offsets, .int (z_i g_step)])), (ga_units, .inl (cA 1, 1280, .inl g_units)), (ga_lengths, .inl (cA 1, 32, .inl g_lengths)), (ga_offsets, .inl (cA 1, 32, .inl g_offsets))])) (va_Qv (fun (u : (Nat → Int32) × (Nat → Int32) × Int × Int) => z_in u.2.2.1 ∧ z_in u.2.2.2 ∧ Q u.1 u.2.1 u.2.2.1 u.2.2.2) (fun (u : (Nat → Int32) × (Nat → Int32) × Int × Int) t => va_P D vwCl [(j, .inr (2, [.ref ja_next, .ref ja_before, .int (z_i u.2.2.1), .int (z_i u.2.2.2)])), (ja_next, .inl (cA 1, 2560, .inl u.1)), (ja_before, .inl (cA 1, 2560, .inl u.2.1)), (g, .inr (1, [.ref ga_units, .ref ga_lengths, .ref ga_offsets, .int (z_i g_step)])), (ga_units, .inl (cA 1, 1280, .inl g_units)), (ga_lengths, .inl (cA 1, 32, .inl g_lengths)), (ga_offsets, .inl (cA 1, 32, .inl g_offsets))] t.heap) (z_A [(j, .inr (2, [.ref ja_next, .ref ja_before, .int (z_i j_least), .int (z_i j_last)])), (ja_next, .inl (cA 1, 2560, .inl j_next)), (ja_before, .inl (cA 1, 2560, .inl j_before)), (g, .inr (1, [.ref ga_units, .ref ga_lengths, .ref ga_offsets, .int (z_i g_step)])), (ga_units, .inl (cA 1, 1280, .inl g_units)), (ga_lengths, .inl (cA 1, 32, .inl g_lengths)), (ga_offsets, .inl (cA 1, 32, .inl g_offsets))])) 0 0 (z_A [(j, .inr (2, [.ref ja_next, .ref ja_before, .int (z_i j_least), .int (z_i j_last)])), (ja_next, .inl (cA 1, 2560, .inl j_next)), (ja_before, .inl (cA 1, 2560, .inl j_before)), (g, .inr (1, [.ref ga_units, .ref ga_lengths, .ref ga_offsets, .int (z_i g_step)])), (ga_units, .inl (cA 1, 1280, .inl g_units)), (ga_lengths, .inl (cA 1, 32, .inl g_lengths)), (ga_offsets, .inl (cA 1, 32, .inl g_offsets))]) := by
  unfold vc_X3_joinCell at hv
  refine Met.ofW (cc := cX3_joinCell) (maxL := 7) (ret := none) (by decide +kernel) rfl ?_
  intro p e s m args below meth c s₁ B hml hv0
  obtain ⟨rfl, hK, hP, hD0⟩ := hv0
  have hx := B.exec
  have hb := B.bytes
  have hr := B.returns
  have hts := atoms_spec (ws := wsX3_joinCell) B.pre
  have hown : s.vm.findClass RX3 = some m.cls := findClass_of_methodNamed B.named
  have hlocks := B.notSynchronized
  have hD := z_D_self hD0
  generalize hAe : z_A [(j, .inr (2, [.ref ja_next, .ref ja_before, .int (z_i j_least), .int (z_i j_last)])), (ja_next, .inl (cA 1, 2560, .inl j_next)), (ja_before, .inl (cA 1, 2560, .inl j_before)), (g, .inr (1, [.ref ga_units, .ref ga_lengths, .ref ga_offsets, .int (z_i g_step)])), (ga_units, .inl (cA 1, 1280, .inl g_units)), (ga_lengths, .inl (cA 1, 32, .inl g_lengths)), (ga_offsets, .inl (cA 1, 32, .inl g_offsets))] = A at *
  have hS : va_S A s.heap s.heap [] := va_S.rf
  have hl := lv_entry ([.ref j, .ref g, .int (z_i n), .int (z_i level)]) (n := 7) (Nat.le_of_ble_eq_true rfl)
  rw [lg_entry_eq]
  generalize (lg_sl ([.ref j, .ref g, .int (z_i n), .int (z_i level)]) ++ List.replicate (7 - (lg_sl ([.ref j, .ref g, .int (z_i n), .int (z_i level)])).length) Slot.unset).toArray = ls at hl ⊢
  have hl : lv_has ls 7 [(0, .ref j), (1, .ref g), (2, .int (z_i n)), (3, .int (z_i level))] := hl
  refine lv_iconst (v := z_i 0) hx hb dX3_joinCell_0 rfl ?_
  refine lv_istore (lv' := [(4, .int (z_i 0)), (0, .ref j), (1, .ref g), (2, .int (z_i n)), (3, .int (z_i level))]) hx hb dX3_joinCell_1 hl (by decide) rfl (fun ls hl => ?_)
  refine lv_iconst (v := z_i 0) hx hb dX3_joinCell_3 rfl ?_
  refine lv_istore (lv' := [(5, .int (z_i 0)), (4, .int (z_i 0)), (0, .ref j), (1, .ref g), (2, .int (z_i n)), (3, .int (z_i level))]) hx hb dX3_joinCell_4 hl (by decide) rfl (fun ls hl => ?_)
  refine hv (fun (x6_5 : Int) (x6_4 : Int) => ∀ (H : Heap) (locs : List Loc) (ls : Array Slot), va_P D vwCl [(j, .inr (2, [.ref ja_next, .ref ja_before, .int (z_i j_least), .int (z_i j_last)])), (ja_next, .inl (cA 1, 2560, .inl j_next)), (ja_before, .inl (cA 1, 2560, .inl j_before)), (g, .inr (1, [.ref ga_units, .ref ga_lengths, .ref ga_offsets, .int (z_i g_step)])), (ga_units, .inl (cA 1, 1280, .inl g_units)), (ga_lengths, .inl (cA 1, 32, .inl g_lengths)), (ga_offsets, .inl (cA 1, 32, .inl g_offsets))] H → va_D A [(j, .inr (2, [.ref ja_next, .ref ja_before, .int (z_i j_least), .int (z_i j_last)])), (ja_next, .inl (cA 1, 2560, .inl j_next)), (ja_before, .inl (cA 1, 2560, .inl j_before)), (g, .inr (1, [.ref ga_units, .ref ga_lengths, .ref ga_offsets, .int (z_i g_step)])), (ga_units, .inl (cA 1, 1280, .inl g_units)), (ga_lengths, .inl (cA 1, 32, .inl g_lengths)), (ga_offsets, .inl (cA 1, 32, .inl g_offsets))] → va_S A s.heap H locs → lv_has ls 7 [(5, .int (z_i x6_5)), (4, .int (z_i x6_4)), (0, .ref j), (1, .ref g), (2, .int (z_i n)), (3, .int (z_i level))] → W p l e _ s m _ below meth c H locs 0 0 _ (F0 m 6 ls [])) ?_ _ _ ls hP hD hS (lv_sub hl [0, 1, 2, 3, 4, 5] rfl)
  intro x6_5 x6_4 h_x6_5 h_x6_4 hv H locs ls hP hD hS hl
  refine lv_iload hx hb dX3_joinCell_6 (lv_at hl 0 rfl) ?_
  refine lv_iconst (v := z_i 4) hx hb dX3_joinCell_8 rfl ?_
  refine lx_icmp_ge (tgt := 41) hx hb dX3_joinCell_9 (by decide) h_x6_5 (show z_in 4 from ⟨by decide, by decide⟩) (fun hc => ?_) (fun hc => ?_)
  · have hv := hv.1 hc
    refine lv_aload_n hx hb dX3_joinCell_41 rfl (lv_at hl 3 rfl) ?_
    refine lv_iload_n hx hb dX3_joinCell_42 rfl (lv_at hl 4 rfl) ?_
    obtain ⟨hp1, hv⟩ := hv
    obtain ⟨hp2, hv⟩ := hv
    obtain ⟨hp3, hv⟩ := hv
    refine va_calli (va_runV (As := [.int (z_i n)]) (rest := []) ⟨hx, hb, hml, hown, hts⟩ (mt_X2_cellSum l D cA g ga_units g_units ga_lengths g_lengths ga_offsets g_offsets g_step n h_g_step h_n hp1 hp2 hp3) (cwV 1 hts gX3_joinCell_X2_cellSum rfl rfl rfl (by decide +kernel) ⟨Nat.le_of_ble_eq_true rfl, Nat.le_of_ble_eq_true rfl⟩) ⟨z_bl0, va_recv hK hP (ci := 1) (q0 := 3) rfl rfl, fun U hU hW => ⟨rfl, z_b0 hK (hP.sub (ws' := [(g, .inr (1, [.ref ga_units, .ref ga_lengths, .ref ga_offsets, .int (z_i g_step)])), (ga_units, .inl (cA 1, 1280, .inl g_units)), (ga_lengths, .inl (cA 1, 32, .inl g_lengths)), (ga_offsets, .inl (cA 1, 32, .inl g_offsets))]) [3, 4, 5, 6] rfl) hU hW⟩⟩ rfl rfl hl.1 rfl (lv_room (Nat.le_of_ble_eq_true rfl)) dX3_joinCell_43 ⟨Nat.zero_le _, Nat.zero_le _⟩) hS (fun q _ h => h.elim) (fun q h => h.elim) (fun r0 u t H locs ht hvm hw hB hz1 hk1 hS => ?_)
    obtain ⟨r4, rfl, h_r4, hw⟩ := hw
    have hP := z_P_all hP hk1
    have hv := hv r4 h_r4 hw
    have hv := hv (fun (s57_0 : Int) => ∀ (H : Heap) (locs : List Loc) (ls : Array Slot), va_P D vwCl [(j, .inr (2, [.ref ja_next, .ref ja_before, .int (z_i j_least), .int (z_i j_last)])), (ja_next, .inl (cA 1, 2560, .inl j_next)), (ja_before, .inl (cA 1, 2560, .inl j_before)), (g, .inr (1, [.ref ga_units, .ref ga_lengths, .ref ga_offsets, .int (z_i g_step)])), (ga_units, .inl (cA 1, 1280, .inl g_units)), (ga_lengths, .inl (cA 1, 32, .inl g_lengths)), (ga_offsets, .inl (cA 1, 32, .inl g_offsets))] H → va_D A [(j, .inr (2, [.ref ja_next, .ref ja_before, .int (z_i j_least), .int (z_i j_last)])), (ja_next, .inl (cA 1, 2560, .inl j_next)), (ja_before, .inl (cA 1, 2560, .inl j_before)), (g, .inr (1, [.ref ga_units, .ref ga_lengths, .ref ga_offsets, .int (z_i g_step)])), (ga_units, .inl (cA 1, 1280, .inl g_units)), (ga_lengths, .inl (cA 1, 32, .inl g_lengths)), (ga_offsets, .inl (cA 1, 32, .inl g_offsets))] → va_S A s.heap H locs → lv_has ls 7 [(4, .int (z_i x6_4)), (0, .ref j), (2, .int (z_i n))] → W p l e (headSpec wsX3_joinCell ({ frames := 2, cells := 0, slots := 0, locals := 46 } : Room)).room s m ([.ref j, .ref g, .int (z_i n), .int (z_i level)]).toArray below meth c H locs 0 0 (MQ below (va_Qv (fun (u : (Nat → Int32) × (Nat → Int32) × Int × Int) => z_in u.2.2.1 ∧ z_in u.2.2.2 ∧ Q u.1 u.2.1 u.2.2.1 u.2.2.2) (fun (u : (Nat → Int32) × (Nat → Int32) × Int × Int) t => va_P D vwCl [(j, .inr (2, [.ref ja_next, .ref ja_before, .int (z_i u.2.2.1), .int (z_i u.2.2.2)])), (ja_next, .inl (cA 1, 2560, .inl u.1)), (ja_before, .inl (cA 1, 2560, .inl u.2.1)), (g, .inr (1, [.ref ga_units, .ref ga_lengths, .ref ga_offsets, .int (z_i g_step)])), (ga_units, .inl (cA 1, 1280, .inl g_units)), (ga_lengths, .inl (cA 1, 32, .inl g_lengths)), (ga_offsets, .inl (cA 1, 32, .inl g_offsets))] t.heap) A) ([.ref j, .ref g, .int (z_i n), .int (z_i level)]).toArray s 0 0 A) (F0 m 57 ls [.int (z_i s57_0)])) (by
      intro s57_0 h_s57_0 hv H locs ls hP hD hS hl
      refine lv_istore (lv' := [(5, .int (z_i s57_0)), (4, .int (z_i x6_4)), (0, .ref j), (2, .int (z_i n))]) hx hb dX3_joinCell_57 hl (by decide) rfl (fun ls hl => ?_)
      refine lv_iconst (v := z_i 0) hx hb dX3_joinCell_59 rfl ?_
      refine lv_istore (lv' := [(6, .int (z_i 0)), (5, .int (z_i s57_0)), (4, .int (z_i x6_4)), (0, .ref j), (2, .int (z_i n))]) hx hb dX3_joinCell_60 hl (by decide) rfl (fun ls hl => ?_)
      refine hv (fun (x62_6 : Int) (y62_j_least : Int) (y62_j_last : Int) (y62_ja_next : Nat → Int32) (y62_ja_before : Nat → Int32) => ∀ (H : Heap) (locs : List Loc) (ls : Array Slot), va_P D vwCl [(j, .inr (2, [.ref ja_next, .ref ja_before, .int (z_i y62_j_least), .int (z_i y62_j_last)])), (ja_next, .inl (cA 1, 2560, .inl y62_ja_next)), (ja_before, .inl (cA 1, 2560, .inl y62_ja_before)), (g, .inr (1, [.ref ga_units, .ref ga_lengths, .ref ga_offsets, .int (z_i g_step)])), (ga_units, .inl (cA 1, 1280, .inl g_units)), (ga_lengths, .inl (cA 1, 32, .inl g_lengths)), (ga_offsets, .inl (cA 1, 32, .inl g_offsets))] H → va_D A [(j, .inr (2, [.ref ja_next, .ref ja_before, .int (z_i y62_j_least), .int (z_i y62_j_last)])), (ja_next, .inl (cA 1, 2560, .inl y62_ja_next)), (ja_before, .inl (cA 1, 2560, .inl y62_ja_before)), (g, .inr (1, [.ref ga_units, .ref ga_lengths, .ref ga_offsets, .int (z_i g_step)])), (ga_units, .inl (cA 1, 1280, .inl g_units)), (ga_lengths, .inl (cA 1, 32, .inl g_lengths)), (ga_offsets, .inl (cA 1, 32, .inl g_offsets))] → va_S A s.heap H locs → lv_has ls 7 [(6, .int (z_i x62_6)), (5, .int (z_i s57_0)), (4, .int (z_i x6_4)), (0, .ref j), (2, .int (z_i n))] → W p l e _ s m _ below meth c H locs 0 0 _ (F0 m 62 ls [])) ?_ _ _ ls hP hD hS (lv_sub hl [0, 1, 2, 3, 4] rfl)
      intro x62_6 y62_j_least y62_j_last y62_ja_next y62_ja_before h_x62_6 h_y62_j_least h_y62_j_last hv H locs ls hP hD hS hl
      refine lv_iload hx hb dX3_joinCell_62 (lv_at hl 0 rfl) ?_
      refine lv_iconst (v := z_i 4) hx hb dX3_joinCell_64 rfl ?_
      refine lx_icmp_ge (tgt := 119) hx hb dX3_joinCell_65 (by decide) h_x62_6 (show z_in 4 from ⟨by decide, by decide⟩) (fun hc => ?_) (fun hc => ?_)
      · have hv := hv.1 hc
        exact W.vret hx hb hr (fun t ht hW => ⟨⟨(y62_ja_next, y62_ja_before, y62_j_least, y62_j_last), rfl, ⟨h_y62_j_least, h_y62_j_last, hv⟩, z_pt hP ht⟩, hS.F ht⟩) hS.2.2 dX3_joinCell_119
      · have hv := hv.2 hc
        refine lv_iload hx hb dX3_joinCell_68 (lv_at hl 2 rfl) ?_
        refine lv_iload hx hb dX3_joinCell_70 (lv_at hl 0 rfl) ?_
        obtain ⟨hp5, hv⟩ := hv
        obtain ⟨hp6, hv⟩ := hv
        refine va_calli (va_runS (As := [.int (z_i x6_4), .int (z_i x62_6)]) (rest := []) ⟨hx, hb, hml, hown, hts⟩ (mt_X3_isHigh l D cA x6_4 x62_6 h_x6_4 h_x62_6 hp5 hp6) (va_cwS 2 hts gX3_joinCell_X3_isHigh rfl rfl rfl (by decide +kernel) ⟨Nat.le_of_ble_eq_true rfl, Nat.le_of_ble_eq_true rfl⟩) ⟨z_bl0, fun U hU hW => ⟨rfl, z_b0 hK (hP.sub (ws' := []) [] rfl) hU hW⟩⟩ rfl rfl hl.1 rfl (lv_room (Nat.le_of_ble_eq_true rfl)) dX3_joinCell_72 ⟨Nat.zero_le _, Nat.zero_le _⟩) hS (fun q _ h => h.elim) (fun q h => h.elim) (fun r0 u t H locs ht hvm hw hB hz1 hk1 hS => ?_)
        obtain ⟨r7, rfl, h_r7, hw⟩ := hw
        have hP := z_P_all hP hk1
        have hv := hv r7 h_r7 hw
        refine lx_if_eq (tgt := 113) hx hb dX3_joinCell_75 (by decide) h_r7 (fun hc => ?_) (fun hc => ?_)
        · have hv := hv.1 hc
          refine lv_iinc (v := z_i (x62_6 + 1)) (lv' := [(6, .int (z_i (x62_6 + 1))), (5, .int (z_i s57_0)), (4, .int (z_i x6_4)), (0, .ref j), (2, .int (z_i n))]) hx hb dX3_joinCell_113 hl (k := 0) rfl (z_i_add _ _) (by decide) rfl (fun ls hl => ?_)
          refine lv_goto (tgt := 62) hx hb dX3_joinCell_116 (by decide) ?_
          exact hv _ _ ls hP hD hS (lv_sub hl [0, 1, 2, 3, 4] rfl)
        · have hv := hv.2 hc
          refine lv_iload hx hb dX3_joinCell_78 (lv_at hl 2 rfl) ?_
          refine lv_iload hx hb dX3_joinCell_80 (lv_at hl 0 rfl) ?_
          refine lv_iconst (v := z_i 1) hx hb dX3_joinCell_82 rfl ?_
          refine lx_iadd hx hb dX3_joinCell_83 ?_
          obtain ⟨hr8, hv⟩ := hv
          obtain ⟨hp9, hv⟩ := hv
          obtain ⟨hp10, hv⟩ := hv
          refine va_calli (va_runS (As := [.int (z_i x6_4), .int (z_i (x62_6 + 1))]) (rest := []) ⟨hx, hb, hml, hown, hts⟩ (mt_X3_isHigh l D cA x6_4 (x62_6 + 1) h_x6_4 hr8 hp9 hp10) (va_cwS 2 hts gX3_joinCell_X3_isHigh rfl rfl rfl (by decide +kernel) ⟨Nat.le_of_ble_eq_true rfl, Nat.le_of_ble_eq_true rfl⟩) ⟨z_bl0, fun U hU hW => ⟨rfl, z_b0 hK (hP.sub (ws' := []) [] rfl) hU hW⟩⟩ rfl rfl hl.1 rfl (lv_room (Nat.le_of_ble_eq_true rfl)) dX3_joinCell_84 ⟨Nat.zero_le _, Nat.zero_le _⟩) hS (fun q _ h => h.elim) (fun q h => h.elim) (fun r0 u t H locs ht hvm hw hB hz1 hk1 hS => ?_)
          obtain ⟨r11, rfl, h_r11, hw⟩ := hw
          have hP := z_P_all hP hk1
          have hv := hv r11 h_r11 hw
          refine lx_if_ne (tgt := 113) hx hb dX3_joinCell_87 (by decide) h_r11 (fun hc => ?_) (fun hc => ?_)
          · have hv := hv.1 hc
            refine lv_iinc (v := z_i (x62_6 + 1)) (lv' := [(6, .int (z_i (x62_6 + 1))), (5, .int (z_i s57_0)), (4, .int (z_i x6_4)), (0, .ref j), (2, .int (z_i n))]) hx hb dX3_joinCell_113 hl (k := 0) rfl (z_i_add _ _) (by decide) rfl (fun ls hl => ?_)
            refine lv_goto (tgt := 62) hx hb dX3_joinCell_116 (by decide) ?_
            exact hv _ _ ls hP hD hS (lv_sub hl [0, 1, 2, 3, 4] rfl)
          · have hv := hv.2 hc
            refine lv_aload_n hx hb dX3_joinCell_90 rfl (lv_at hl 3 rfl) ?_
            refine lv_iload_n hx hb dX3_joinCell_91 rfl (lv_at hl 4 rfl) ?_
            refine lv_iload hx hb dX3_joinCell_92 (lv_at hl 0 rfl) ?_
            obtain ⟨hp12, hv⟩ := hv
            obtain ⟨hp13, hv⟩ := hv
            refine va_calli (va_runS (As := [.int (z_i n), .int (z_i x62_6)]) (rest := [.ref j]) ⟨hx, hb, hml, hown, hts⟩ (mt_X3_sideOfCell l D cA n x62_6 h_n h_x62_6 hp12 hp13) (va_cwS 2 hts gX3_joinCell_X3_sideOfCell rfl rfl rfl (by decide +kernel) ⟨Nat.le_of_ble_eq_true rfl, Nat.le_of_ble_eq_true rfl⟩) ⟨z_bl0, fun U hU hW => ⟨rfl, z_b0 hK (hP.sub (ws' := []) [] rfl) hU hW⟩⟩ rfl rfl hl.1 rfl (lv_room (Nat.le_of_ble_eq_true rfl)) dX3_joinCell_94 ⟨Nat.zero_le _, Nat.zero_le _⟩) hS (fun q _ h => h.elim) (fun q h => h.elim) (fun r0 u t H locs ht hvm hw hB hz1 hk1 hS => ?_)
            obtain ⟨r14, rfl, h_r14, hw⟩ := hw
            have hP := z_P_all hP hk1
            have hv := hv r14 h_r14 hw
            refine lv_iload_n hx hb dX3_joinCell_97 rfl (lv_at hl 4 rfl) ?_
            refine lv_iload hx hb dX3_joinCell_98 (lv_at hl 2 rfl) ?_
            refine lv_iload hx hb dX3_joinCell_100 (lv_at hl 0 rfl) ?_
            refine lv_iload hx hb dX3_joinCell_102 (lv_at hl 1 rfl) ?_
            obtain ⟨hp15, hv⟩ := hv
            obtain ⟨hp16, hv⟩ := hv
            obtain ⟨hp17, hv⟩ := hv
            refine va_calli (va_runS (As := [.int (z_i x6_4), .int (z_i x62_6), .int (z_i s57_0)]) (rest := [.int (z_i n), .int (z_i r14), .ref j]) ⟨hx, hb, hml, hown, hts⟩ (mt_X3_wayOut l D cA x6_4 x62_6 s57_0 h_x6_4 h_x62_6 h_s57_0 hp15 hp16 hp17) (va_cwS 3 hts gX3_joinCell_X3_wayOut rfl rfl rfl (by decide +kernel) ⟨Nat.le_of_ble_eq_true rfl, Nat.le_of_ble_eq_true rfl⟩) ⟨z_bl0, fun U hU hW => ⟨rfl, z_b0 hK (hP.sub (ws' := []) [] rfl) hU hW⟩⟩ rfl rfl hl.1 rfl (lv_room (Nat.le_of_ble_eq_true rfl)) dX3_joinCell_104 ⟨Nat.zero_le _, Nat.zero_le _⟩) hS (fun q _ h => h.elim) (fun q h => h.elim) (fun r0 u t H locs ht hvm hw hB hz1 hk1 hS => ?_)
            obtain ⟨r18, rfl, h_r18, hw⟩ := hw
            have hP := z_P_all hP hk1
            have hv := hv r18 h_r18 hw
            obtain ⟨hp19, hv⟩ := hv
            obtain ⟨hp20, hv⟩ := hv
            refine va_calli (va_runS (As := [.int (z_i n), .int (z_i r18)]) (rest := [.int (z_i r14), .ref j]) ⟨hx, hb, hml, hown, hts⟩ (mt_X3_sideOfCell l D cA n r18 h_n h_r18 hp19 hp20) (va_cwS 2 hts gX3_joinCell_X3_sideOfCell rfl rfl rfl (by decide +kernel) ⟨Nat.le_of_ble_eq_true rfl, Nat.le_of_ble_eq_true rfl⟩) ⟨z_bl0, fun U hU hW => ⟨rfl, z_b0 hK (hP.sub (ws' := []) [] rfl) hU hW⟩⟩ rfl rfl hl.1 rfl (lv_room (Nat.le_of_ble_eq_true rfl)) dX3_joinCell_107 ⟨Nat.zero_le _, Nat.zero_le _⟩) hS (fun q _ h => h.elim) (fun q h => h.elim) (fun r0 u t H locs ht hvm hw hB hz1 hk1 hS => ?_)
            obtain ⟨r21, rfl, h_r21, hw⟩ := hw
            have hP := z_P_all hP hk1
            have hv := hv r21 h_r21 hw
            obtain ⟨hp22, hv⟩ := hv
            obtain ⟨hp23, hv⟩ := hv
            have hFc := z_fr (A := A) (wc := [(j, .inr (2, [.ref ja_next, .ref ja_before, .int (z_i y62_j_least), .int (z_i y62_j_last)])), (ja_next, .inl (cA 1, 2560, .inl y62_ja_next)), (ja_before, .inl (cA 1, 2560, .inl y62_ja_before))]) hD [0, 1, 2] rfl
            refine va_callv (va_runV (As := [.int (z_i r14), .int (z_i r21)]) (rest := []) ⟨hx, hb, hml, hown, hts⟩ (mt_X3_link l D cA j ja_next y62_ja_next ja_before y62_ja_before y62_j_least y62_j_last r14 r21 h_y62_j_least h_y62_j_last h_r14 h_r21 hp22 hp23) (cwV 2 hts gX3_joinCell_X3_link rfl rfl rfl (by decide +kernel) ⟨Nat.le_of_ble_eq_true rfl, Nat.le_of_ble_eq_true rfl⟩) ⟨z_blm0, va_recv hK hP (ci := 2) (q0 := 0) rfl rfl, fun U hU hW => ⟨rfl, z_m0 hK (hP.sub (ws' := [(j, .inr (2, [.ref ja_next, .ref ja_before, .int (z_i y62_j_least), .int (z_i y62_j_last)])), (ja_next, .inl (cA 1, 2560, .inl y62_ja_next)), (ja_before, .inl (cA 1, 2560, .inl y62_ja_before))]) [0, 1, 2] rfl) (hD.sub (ws' := [(j, .inr (2, [.ref ja_next, .ref ja_before, .int (z_i y62_j_least), .int (z_i y62_j_last)])), (ja_next, .inl (cA 1, 2560, .inl y62_ja_next)), (ja_before, .inl (cA 1, 2560, .inl y62_ja_before))]) [0, 1, 2] (by decide) rfl) hU hW⟩⟩ rfl rfl hl.1 rfl (lv_room (Nat.le_of_ble_eq_true rfl)) dX3_joinCell_110 ⟨Nat.zero_le _, Nat.zero_le _⟩) hS (fun q _ h => hFc q h) hFc (fun u t H locs ht hvm hw hB hz1 hk1 hS => ?_)
            obtain ⟨c24, c25, c26, c27⟩ := u
            rw [ht] at hB
            have hP := z_join2 (wc := [(j, .inr (2, [.ref ja_next, .ref ja_before, .int (z_i y62_j_least), .int (z_i y62_j_last)])), (ja_next, .inl (cA 1, 2560, .inl y62_ja_next)), (ja_before, .inl (cA 1, 2560, .inl y62_ja_before))]) (w1 := [(j, .inr (2, [.ref ja_next, .ref ja_before, .int (z_i c26), .int (z_i c27)])), (ja_next, .inl (cA 1, 2560, .inl c24)), (ja_before, .inl (cA 1, 2560, .inl c25))]) hP hD [0, 1, 2] [1, 2, 3] rfl rfl rfl hk1 hB
            have hP : va_P D vwCl [(j, .inr (2, [.ref ja_next, .ref ja_before, .int (z_i c26), .int (z_i c27)])), (ja_next, .inl (cA 1, 2560, .inl c24)), (ja_before, .inl (cA 1, 2560, .inl c25)), (g, .inr (1, [.ref ga_units, .ref ga_lengths, .ref ga_offsets, .int (z_i g_step)])), (ga_units, .inl (cA 1, 1280, .inl g_units)), (ga_lengths, .inl (cA 1, 32, .inl g_lengths)), (ga_offsets, .inl (cA 1, 32, .inl g_offsets))] H := hP
            have hD : va_D A [(j, .inr (2, [.ref ja_next, .ref ja_before, .int (z_i c26), .int (z_i c27)])), (ja_next, .inl (cA 1, 2560, .inl c24)), (ja_before, .inl (cA 1, 2560, .inl c25)), (g, .inr (1, [.ref ga_units, .ref ga_lengths, .ref ga_offsets, .int (z_i g_step)])), (ga_units, .inl (cA 1, 1280, .inl g_units)), (ga_lengths, .inl (cA 1, 32, .inl g_lengths)), (ga_offsets, .inl (cA 1, 32, .inl g_offsets))] := z_D_addr hD rfl
            obtain ⟨h_c26, h_c27, hw⟩ := hw
            have hv := hv c24 c25 c26 c27 h_c26 h_c27 hw
            refine lv_iinc (v := z_i (x62_6 + 1)) (lv' := [(6, .int (z_i (x62_6 + 1))), (5, .int (z_i s57_0)), (4, .int (z_i x6_4)), (0, .ref j), (2, .int (z_i n))]) hx hb dX3_joinCell_113 hl (k := 0) rfl (z_i_add _ _) (by decide) rfl (fun ls hl => ?_)
            refine lv_goto (tgt := 62) hx hb dX3_joinCell_116 (by decide) ?_
            exact hv _ _ ls hP hD hS (lv_sub hl [0, 1, 2, 3, 4] rfl))
    refine lv_iconst (v := z_i 4) hx hb dX3_joinCell_46 rfl ?_
    refine lv_iload_n hx hb dX3_joinCell_47 rfl (lv_at hl 5 rfl) ?_
    refine lx_imul hx hb dX3_joinCell_48 ?_
    obtain ⟨hr28, hv⟩ := hv
    refine lx_icmp_lt (tgt := 56) hx hb dX3_joinCell_49 (by decide) h_r4 hr28 (fun hc => ?_) (fun hc => ?_)
    · have hv := hv.1 hc
      refine lv_iconst (v := z_i 0) hx hb dX3_joinCell_56 rfl ?_
      exact hv _ _ ls hP hD hS (lv_sub hl [1, 2, 4] rfl)
    · have hv := hv.2 hc
      refine lv_iconst (v := z_i 1) hx hb dX3_joinCell_52 rfl ?_
      refine lv_goto (tgt := 57) hx hb dX3_joinCell_53 (by decide) ?_
      exact hv _ _ ls hP hD hS (lv_sub hl [1, 2, 4] rfl)
  · have hv := hv.2 hc
    refine lv_aload_n hx hb dX3_joinCell_12 rfl (lv_at hl 3 rfl) ?_
    refine lv_iload_n hx hb dX3_joinCell_13 rfl (lv_at hl 4 rfl) ?_
    refine lv_iload hx hb dX3_joinCell_14 (lv_at hl 0 rfl) ?_
    obtain ⟨hp29, hv⟩ := hv
    obtain ⟨hp30, hv⟩ := hv
    refine va_calli (va_runS (As := [.int (z_i n), .int (z_i x6_5)]) (rest := [.ref g]) ⟨hx, hb, hml, hown, hts⟩ (mt_X3_cornerOf l D cA n x6_5 h_n h_x6_5 hp29 hp30) (va_cwS 2 hts gX3_joinCell_X3_cornerOf rfl rfl rfl (by decide +kernel) ⟨Nat.le_of_ble_eq_true rfl, Nat.le_of_ble_eq_true rfl⟩) ⟨z_bl0, fun U hU hW => ⟨rfl, z_b0 hK (hP.sub (ws' := []) [] rfl) hU hW⟩⟩ rfl rfl hl.1 rfl (lv_room (Nat.le_of_ble_eq_true rfl)) dX3_joinCell_16 ⟨Nat.zero_le _, Nat.zero_le _⟩) hS (fun q _ h => h.elim) (fun q h => h.elim) (fun r0 u t H locs ht hvm hw hB hz1 hk1 hS => ?_)
    obtain ⟨r31, rfl, h_r31, hw⟩ := hw
    have hP := z_P_all hP hk1
    have hv := hv r31 h_r31 hw
    refine va_calli (va_runV (As := [.int (z_i r31)]) (rest := []) ⟨hx, hb, hml, hown, hts⟩ (mt_X2_unitsOf l D cA g ga_units g_units ga_lengths g_lengths ga_offsets g_offsets g_step r31 h_g_step h_r31) (cwV 1 hts gX3_joinCell_X2_unitsOf rfl rfl rfl (by decide +kernel) ⟨Nat.le_of_ble_eq_true rfl, Nat.le_of_ble_eq_true rfl⟩) ⟨z_bl0, va_recv hK hP (ci := 1) (q0 := 3) rfl rfl, fun U hU hW => ⟨rfl, z_b0 hK (hP.sub (ws' := [(g, .inr (1, [.ref ga_units, .ref ga_lengths, .ref ga_offsets, .int (z_i g_step)])), (ga_units, .inl (cA 1, 1280, .inl g_units)), (ga_lengths, .inl (cA 1, 32, .inl g_lengths)), (ga_offsets, .inl (cA 1, 32, .inl g_offsets))]) [3, 4, 5, 6] rfl) hU hW⟩⟩ rfl rfl hl.1 rfl (lv_room (Nat.le_of_ble_eq_true rfl)) dX3_joinCell_19 ⟨Nat.zero_le _, Nat.zero_le _⟩) hS (fun q _ h => h.elim) (fun q h => h.elim) (fun r0 u t H locs ht hvm hw hB hz1 hk1 hS => ?_)
    obtain ⟨r32, rfl, h_r32, hw⟩ := hw
    have hP := z_P_all hP hk1
    have hv := hv r32 h_r32 hw
    refine lv_iload_n hx hb dX3_joinCell_22 rfl (lv_at hl 5 rfl) ?_
    refine lx_icmp_lt (tgt := 35) hx hb dX3_joinCell_23 (by decide) h_r32 h_level (fun hc => ?_) (fun hc => ?_)
    · have hv := hv.1 hc
      refine lv_iinc (v := z_i (x6_5 + 1)) (lv' := [(5, .int (z_i (x6_5 + 1))), (4, .int (z_i x6_4)), (0, .ref j), (1, .ref g), (2, .int (z_i n)), (3, .int (z_i level))]) hx hb dX3_joinCell_35 hl (k := 0) rfl (z_i_add _ _) (by decide) rfl (fun ls hl => ?_)
      refine lv_goto (tgt := 6) hx hb dX3_joinCell_38 (by decide) ?_
      exact hv _ _ ls hP hD hS (lv_sub hl [0, 1, 2, 3, 4, 5] rfl)
    · have hv := hv.2 hc
      refine lv_iload hx hb dX3_joinCell_26 (lv_at hl 1 rfl) ?_
      refine lv_iconst (v := z_i 1) hx hb dX3_joinCell_28 rfl ?_
      refine lv_iload hx hb dX3_joinCell_29 (lv_at hl 0 rfl) ?_
      refine lx_ishl hx hb dX3_joinCell_31 ?_
      refine lx_ior hx hb dX3_joinCell_32 ?_
      refine lx_topi (fun v33 hy34 => ?_)
      have hv := hv v33 hy34
      have h_v33 : z_in v33 := by rw [hy34]; exact (z_in_of _)
      refine lv_istore (lv' := [(4, .int (z_i v33)), (5, .int (z_i x6_5)), (0, .ref j), (1, .ref g), (2, .int (z_i n)), (3, .int (z_i level))]) hx hb dX3_joinCell_33 hl (by decide) rfl (fun ls hl => ?_)
      refine lv_iinc (v := z_i (x6_5 + 1)) (lv' := [(5, .int (z_i (x6_5 + 1))), (4, .int (z_i v33)), (0, .ref j), (1, .ref g), (2, .int (z_i n)), (3, .int (z_i level))]) hx hb dX3_joinCell_35 hl (k := 1) rfl (z_i_add _ _) (by decide) rfl (fun ls hl => ?_)
      refine lv_goto (tgt := 6) hx hb dX3_joinCell_38 (by decide) ?_
      exact hv _ _ ls hP hD hS (lv_sub hl [0, 1, 2, 3, 4, 5] rfl)
set_option maxHeartbeats 4000000 in
set_option maxRecDepth 100000 in
theorem mt_X3_joinCell (l : Launch) (D : va_G) (cA : Nat → ClassId) (j : Nat) (ja_next : Nat) (j_next : Nat → Int32) (ja_before : Nat) (j_before : Nat → Int32) (j_least : Int) (j_last : Int) (g : Nat) (ga_units : Nat) (g_units : Nat → Int32) (ga_lengths : Nat) (g_lengths : Nat → Int32) (ga_offsets : Nat) (g_offsets : Nat → Int32) (g_step : Int) (n : Int) (level : Int) (h_j_least : z_in j_least) (h_j_last : z_in j_last) (h_g_step : z_in g_step) (h_n : z_in n) (h_level : z_in level) (hp1 : 0 ≤ n ∧ n < 1280) (hp2 : g_ok g_units) (hp3 : m_wh (g_th g_units) n = true) (hp4 : -8388608 ≤ level ∧ level ≤ 8388608) : Met l yX3_joinCell wsX3_joinCell ({ frames := 2, cells := 0, slots := 0, locals := 46 } : Room) (va_Pc [.ref j, .ref g, .int (z_i n), .int (z_i level)] (z_M0 D cA [(j, .inr (2, [.ref ja_next, .ref ja_before, .int (z_i j_least), .int (z_i j_last)])), (ja_next, .inl (cA 1, 2560, .inl j_next)), (ja_before, .inl (cA 1, 2560, .inl j_before)), (g, .inr (1, [.ref ga_units, .ref ga_lengths, .ref ga_offsets, .int (z_i g_step)])), (ga_units, .inl (cA 1, 1280, .inl g_units)), (ga_lengths, .inl (cA 1, 32, .inl g_lengths)), (ga_offsets, .inl (cA 1, 32, .inl g_offsets))])) (va_Qv (fun (u : (Nat → Int32) × (Nat → Int32) × Int × Int) => z_in u.2.2.1 ∧ z_in u.2.2.2 ∧ (fun (j_next' : (Nat → Int32)) (j_before' : (Nat → Int32)) (j_least' : Int) (j_last' : Int) => j_next' = c_nxK (c_mk (g_at g_units) level n 4) (c_rl (g_at g_units) level n) n j_next 4 ∧ j_before' = c_bfK (c_mk (g_at g_units) level n 4) (c_rl (g_at g_units) level n) n j_before 4 ∧ j_least' = c_leK (c_mk (g_at g_units) level n 4) n j_least 4 ∧ j_last' = c_laK (c_mk (g_at g_units) level n 4) n j_last 4) u.1 u.2.1 u.2.2.1 u.2.2.2) (fun (u : (Nat → Int32) × (Nat → Int32) × Int × Int) t => va_P D vwCl [(j, .inr (2, [.ref ja_next, .ref ja_before, .int (z_i u.2.2.1), .int (z_i u.2.2.2)])), (ja_next, .inl (cA 1, 2560, .inl u.1)), (ja_before, .inl (cA 1, 2560, .inl u.2.1)), (g, .inr (1, [.ref ga_units, .ref ga_lengths, .ref ga_offsets, .int (z_i g_step)])), (ga_units, .inl (cA 1, 1280, .inl g_units)), (ga_lengths, .inl (cA 1, 32, .inl g_lengths)), (ga_offsets, .inl (cA 1, 32, .inl g_offsets))] t.heap) (z_A [(j, .inr (2, [.ref ja_next, .ref ja_before, .int (z_i j_least), .int (z_i j_last)])), (ja_next, .inl (cA 1, 2560, .inl j_next)), (ja_before, .inl (cA 1, 2560, .inl j_before)), (g, .inr (1, [.ref ga_units, .ref ga_lengths, .ref ga_offsets, .int (z_i g_step)])), (ga_units, .inl (cA 1, 1280, .inl g_units)), (ga_lengths, .inl (cA 1, 32, .inl g_lengths)), (ga_offsets, .inl (cA 1, 32, .inl g_offsets))])) 0 0 (z_A [(j, .inr (2, [.ref ja_next, .ref ja_before, .int (z_i j_least), .int (z_i j_last)])), (ja_next, .inl (cA 1, 2560, .inl j_next)), (ja_before, .inl (cA 1, 2560, .inl j_before)), (g, .inr (1, [.ref ga_units, .ref ga_lengths, .ref ga_offsets, .int (z_i g_step)])), (ga_units, .inl (cA 1, 1280, .inl g_units)), (ga_lengths, .inl (cA 1, 32, .inl g_lengths)), (ga_offsets, .inl (cA 1, 32, .inl g_offsets))]) := by
  refine wk_X3_joinCell l D cA j ja_next j_next ja_before j_before j_least j_last g ga_units g_units ga_lengths g_lengths ga_offsets g_offsets g_step n level h_j_least h_j_last h_g_step h_n h_level (fun (j_next' : (Nat → Int32)) (j_before' : (Nat → Int32)) (j_least' : Int) (j_last' : Int) => j_next' = c_nxK (c_mk (g_at g_units) level n 4) (c_rl (g_at g_units) level n) n j_next 4 ∧ j_before' = c_bfK (c_mk (g_at g_units) level n 4) (c_rl (g_at g_units) level n) n j_before 4 ∧ j_least' = c_leK (c_mk (g_at g_units) level n 4) n j_least 4 ∧ j_last' = c_laK (c_mk (g_at g_units) level n 4) n j_last 4) ?_
  unfold vc_X3_joinCell
  have hw := m_wh_spec hp3
  intro L hL
  suffices H : ∀ (d k : Nat), k + d = 4 → L (k : Int) (c_mk (g_at g_units) level n k) from H 4 0 rfl
  intro d
  induction d with
  | succ d ih =>
    intro k hk
    have hb := c_mk_b (g_at g_units) level n k
    have h2 : (2 : Int) ^ k ≤ 2 ^ 3 := by exact_mod_cast Nat.pow_le_pow_right (n := 2) (by decide) (by omega : k ≤ 3)
    have h3 : (2 : Int) ^ 3 = 8 := by decide
    have hi := ih (k + 1) (by omega)
    unfold c_mk at hi
    refine hL _ _ ⟨by omega, by omega⟩ ⟨by omega, by omega⟩ ⟨fun h => absurd h (by omega), fun h => ⟨hp1, ⟨by omega, h⟩, ?_⟩⟩
    rintro r54 h54 rfl r55 h55 rfl
    refine ⟨fun q => by rw [if_neg (by omega)] at hi; simpa using hi, fun q => ?_⟩
    rintro v56 rfl
    rw [if_pos q] at hi
    rw [z_or_bit' (by omega) hb.1 hb.2]
    simpa using hi
  | zero =>
    intro k hk
    have hk4 : k = 4 := by omega
    subst hk4
    have hb := c_mk_b (g_at g_units) level n 4
    have h3 : (2 : Int) ^ 4 = 16 := by decide
    refine hL _ _ ⟨by omega, by omega⟩ ⟨by omega, by omega⟩ ⟨fun _ => ⟨hp1, hp2, hp3, ?_⟩, fun h => absurd h (by omega)⟩
    have hb : 0 ≤ c_mk (g_at g_units) level n 4 ∧ c_mk (g_at g_units) level n 4 < 16 := ⟨hb.1, by rw [← h3]; exact hb.2⟩
    generalize c_mk (g_at g_units) level n 4 = m at *
    intro r4 h4 e4
    intro J hJ
    have HJ : ∀ rl, rl = c_rl (g_at g_units) level n → (rl = 0 ∨ rl = 1) → J rl := by
      intro rl erl hrl
      refine hJ rl ⟨by omega, by omega⟩ ?_
      rw [← erl]
      intro L2 hL2
      suffices H2 : ∀ (d k : Nat), k + d = 4 → z_in (c_leK m n j_least k) → z_in (c_laK m n j_last k) → L2 (k : Int) (c_leK m n j_least k) (c_laK m n j_last k) (c_nxK m rl n j_next k) (c_bfK m rl n j_before k) from H2 4 0 rfl h_j_least h_j_last
      intro d
      induction d with
      | zero =>
        intro k hk z1 z2
        have hk4 : k = 4 := by omega
        subst hk4
        exact hL2 _ _ _ _ _ ⟨by omega, by omega⟩ z1 z2 ⟨fun _ => ⟨rfl, rfl, rfl, rfl⟩, fun h => absurd h (by omega)⟩
      | succ d ih =>
        intro k hk z1 z2
        have hi := ih (k + 1) (by omega)
        unfold c_nxK c_bfK c_leK c_laK at hi
        refine hL2 _ _ _ _ _ ⟨by omega, by omega⟩ z1 z2 ⟨fun h => absurd h (by omega), fun h => ⟨hb, ⟨by omega, by omega⟩, ?_⟩⟩
        rintro r8 h8 rfl
        unfold c_go at hi
        refine ⟨fun q => ?_, fun q => ⟨⟨by omega, by omega⟩, hb, ⟨by omega, by omega⟩, ?_⟩⟩
        · have e : c_hi m k = false := by
            cases hc : c_hi m k
            · rfl
            · rw [hc] at q; exact absurd q (by decide)
          rw [e] at hi
          simpa using hi z1 z2
        · have e : c_hi m k = true := by
            cases hc : c_hi m k
            · rw [hc] at q; exact absurd rfl q
            · rfl
          rintro r12 h12 rfl
          refine ⟨fun q2 => ?_, fun q2 => ?_⟩
          · have e2 : c_hi m (k + 1) = true := by
              cases hc : c_hi m (k + 1)
              · rw [hc] at q2; exact absurd rfl q2
              · rfl
            rw [e, e2] at hi
            simpa using hi z1 z2
          · have e2 : c_hi m (k + 1) = false := by
              cases hc : c_hi m (k + 1)
              · rfl
              · rw [hc] at q2; exact absurd q2 (by decide)
            rw [e, e2] at hi
            have hs1 := c_sd_in (n := n) (k := k) hp1.1 (by omega)
            refine ⟨hp1, ⟨by omega, h⟩, ?_⟩
            rintro r15 h15 rfl
            refine ⟨hb, ⟨by omega, h⟩, hrl, ?_⟩
            rintro r19 h19 rfl
            have hs2 := c_sd_in (n := n) (k := c_wo m k rl) hp1.1 (by omega)
            refine ⟨hp1, c_wo_in (by omega) h, ?_⟩
            rintro r22 h22 rfl
            refine ⟨hs1, hs2, ?_⟩
            rintro c25 c26 c27 c28 h27 h28 ⟨rfl, rfl, rfl, rfl⟩
            simpa using hi (by simpa using h27) (by simpa using h28)
    refine ⟨⟨by omega, by omega⟩, fun q => HJ 0 ?_ (Or.inl rfl), fun q => HJ 1 ?_ (Or.inr rfl)⟩
    · unfold c_rl; rw [decide_eq_false (by omega)]; rfl
    · unfold c_rl; rw [decide_eq_true (by omega)]; rfl
