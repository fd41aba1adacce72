/-! the middle of a side; which way a line goes -/
def e_mx (sd : Int) : Int := 2 * (sd / 2 % 40) + (if sd % 2 = 0 then 1 else 0)
def e_my (sd : Int) : Int := 2 * (sd / 80) + (if sd % 2 = 0 then 0 else 1)
def e_lf (U : Int → Int) (lv sd td : Int) : Bool :=
  if sd % 2 = 0 then (if n_hi U lv (sd / 2) = true then decide (e_my td - e_my sd > 0) else decide (e_my td - e_my sd < 0))
  else (if n_hi U lv (sd / 2) = true then decide (e_mx td - e_mx sd < 0) else decide (e_mx td - e_mx sd > 0))
theorem e_mx_e {sd : Int} (h : sd % 2 = 0) : e_mx sd = 2 * (sd / 2 % 40) + 1 := by unfold e_mx; rw [if_pos h]
theorem e_mx_o {sd : Int} (h : sd % 2 = 1) : e_mx sd = 2 * (sd / 2 % 40) := by unfold e_mx; rw [if_neg (by omega)]; omega
theorem e_my_e {sd : Int} (h : sd % 2 = 0) : e_my sd = 2 * (sd / 80) := by unfold e_my; rw [if_pos h]; omega
theorem e_my_o {sd : Int} (h : sd % 2 = 1) : e_my sd = 2 * (sd / 80) + 1 := by unfold e_my; rw [if_neg (by omega)]
theorem e_lf_e {U : Int → Int} {lv sd td : Int} (h : sd % 2 = 0) : (n_hi U lv (sd / 2) = true → e_lf U lv sd td = decide (e_my td - e_my sd > 0)) ∧ (n_hi U lv (sd / 2) = false → e_lf U lv sd td = decide (e_my td - e_my sd < 0)) := by
  unfold e_lf
  rw [if_pos h]
  exact ⟨fun q => if_pos q, fun q => if_neg (by rw [q]; decide)⟩
theorem e_lf_o {U : Int → Int} {lv sd td : Int} (h : sd % 2 = 1) : (n_hi U lv (sd / 2) = true → e_lf U lv sd td = decide (e_mx td - e_mx sd < 0)) ∧ (n_hi U lv (sd / 2) = false → e_lf U lv sd td = decide (e_mx td - e_mx sd > 0)) := by
  unfold e_lf
  rw [if_neg (by omega)]
  exact ⟨fun q => if_pos q, fun q => if_neg (by rw [q]; decide)⟩
theorem e_prod {dx dy a b r : Int} : ((a = 0 ∧ b = 1) → dx * a - dy * b = -dy) ∧ ((a = 0 ∧ b = -1) → dx * a - dy * b = dy) ∧ ((a = 1 ∧ b = 0) → dx * a - dy * b = dx) ∧ ((a = -1 ∧ b = 0) → dx * a - dy * b = -dx) := by
  refine ⟨?_, ?_, ?_, ?_⟩ <;> rintro ⟨rfl, rfl⟩ <;> omega
theorem n_hi_y {U : Int → Int} {lv o v : Int} (h : U o = v) (h2 : v ≥ lv) : n_hi U lv o = true := decide_eq_true (by rw [h]; exact h2)
theorem n_hi_n {U : Int → Int} {lv o v : Int} (h : U o = v) (h2 : v < lv) : n_hi U lv o = false := decide_eq_false (by rw [h]; omega)
def c_ldK (m rl n : Int) (f : Nat → Int32) : Nat → (Nat → Int32)
  | 0 => f
  | k + 1 => if c_go m k = true then z_s (c_ldK m rl n f k) (c_sd n (c_wo m k rl)) 1 else c_ldK m rl n f k
theorem c_mk_v (U : Int → Int) (lv n : Int) : c_mk U lv n 4 = (if n_hi U lv n = true then 1 else 0) + (if n_hi U lv (n + 1) = true then 2 else 0) + (if n_hi U lv (n + 40 + 1) = true then 4 else 0) + (if n_hi U lv (n + 40) = true then 8 else 0) := by
  have e0 : c_co n ((0 : Nat) : Int) = n := by show n + _ + _ = n; rw [if_neg (by decide), if_neg (by decide)]; omega
  have e1 : c_co n ((1 : Nat) : Int) = n + 1 := by show n + _ + _ = n + 1; rw [if_pos (by decide), if_neg (by decide)]; omega
  have e2 : c_co n ((2 : Nat) : Int) = n + 40 + 1 := by show n + _ + _ = n + 40 + 1; rw [if_pos (by decide), if_pos (by decide)]; omega
  have e3 : c_co n ((3 : Nat) : Int) = n + 40 := by show n + _ + _ = n + 40; rw [if_neg (by decide), if_pos (by decide)]; omega
  show (((0 + _) + _) + _) + _ = _
  rw [e0, e1, e2, e3]
  simp only [n_hi, decide_eq_true_eq]
  have p0 : (2 : Int) ^ 0 = 1 := rfl
  have p1 : (2 : Int) ^ 1 = 2 := rfl
  have p2 : (2 : Int) ^ 2 = 4 := rfl
  have p3 : (2 : Int) ^ 3 = 8 := rfl
  rw [p0, p1, p2, p3]; omega
theorem c_nx_0 {m rl n : Int} {f g : Nat → Int32} (h0 : c_go m ((0 : Nat) : Int) = false) (h1 : c_go m ((1 : Nat) : Int) = false) (h2 : c_go m ((2 : Nat) : Int) = false) (h3 : c_go m ((3 : Nat) : Int) = false) : f = c_nxK m rl n f 4 ∧ g = c_ldK m rl n g 4 := by
  unfold c_nxK c_nxK c_nxK c_nxK c_nxK c_ldK c_ldK c_ldK c_ldK c_ldK
  rw [h0, h1, h2, h3]
  exact ⟨rfl, rfl⟩
theorem c_nx_k {m rl n : Int} {f g : Nat → Int32} {b0 b1 b2 b3 : Bool} (h0 : c_go m ((0 : Nat) : Int) = b0) (h1 : c_go m ((1 : Nat) : Int) = b1) (h2 : c_go m ((2 : Nat) : Int) = b2) (h3 : c_go m ((3 : Nat) : Int) = b3) :
    c_nxK m rl n f 4 = (if b3 = true then z_s (if b2 = true then z_s (if b1 = true then z_s (if b0 = true then z_s f (c_sd n 0) (c_sd n (c_wo m 0 rl)) else f) (c_sd n 1) (c_sd n (c_wo m 1 rl)) else (if b0 = true then z_s f (c_sd n 0) (c_sd n (c_wo m 0 rl)) else f)) (c_sd n 2) (c_sd n (c_wo m 2 rl)) else (if b1 = true then z_s (if b0 = true then z_s f (c_sd n 0) (c_sd n (c_wo m 0 rl)) else f) (c_sd n 1) (c_sd n (c_wo m 1 rl)) else (if b0 = true then z_s f (c_sd n 0) (c_sd n (c_wo m 0 rl)) else f))) (c_sd n 3) (c_sd n (c_wo m 3 rl)) else (if b2 = true then z_s (if b1 = true then z_s (if b0 = true then z_s f (c_sd n 0) (c_sd n (c_wo m 0 rl)) else f) (c_sd n 1) (c_sd n (c_wo m 1 rl)) else (if b0 = true then z_s f (c_sd n 0) (c_sd n (c_wo m 0 rl)) else f)) (c_sd n 2) (c_sd n (c_wo m 2 rl)) else (if b1 = true then z_s (if b0 = true then z_s f (c_sd n 0) (c_sd n (c_wo m 0 rl)) else f) (c_sd n 1) (c_sd n (c_wo m 1 rl)) else (if b0 = true then z_s f (c_sd n 0) (c_sd n (c_wo m 0 rl)) else f)))) ∧
    c_ldK m rl n g 4 = (if b3 = true then z_s (if b2 = true then z_s (if b1 = true then z_s (if b0 = true then z_s g (c_sd n (c_wo m 0 rl)) 1 else g) (c_sd n (c_wo m 1 rl)) 1 else (if b0 = true then z_s g (c_sd n (c_wo m 0 rl)) 1 else g)) (c_sd n (c_wo m 2 rl)) 1 else (if b1 = true then z_s (if b0 = true then z_s g (c_sd n (c_wo m 0 rl)) 1 else g) (c_sd n (c_wo m 1 rl)) 1 else (if b0 = true then z_s g (c_sd n (c_wo m 0 rl)) 1 else g))) (c_sd n (c_wo m 3 rl)) 1 else (if b2 = true then z_s (if b1 = true then z_s (if b0 = true then z_s g (c_sd n (c_wo m 0 rl)) 1 else g) (c_sd n (c_wo m 1 rl)) 1 else (if b0 = true then z_s g (c_sd n (c_wo m 0 rl)) 1 else g)) (c_sd n (c_wo m 2 rl)) 1 else (if b1 = true then z_s (if b0 = true then z_s g (c_sd n (c_wo m 0 rl)) 1 else g) (c_sd n (c_wo m 1 rl)) 1 else (if b0 = true then z_s g (c_sd n (c_wo m 0 rl)) 1 else g)))) := by
  subst h0 h1 h2 h3
  exact ⟨rfl, rfl⟩
theorem z_s_comm {f : Nat → Int32} {a b x y : Int} (ha : 0 ≤ a) (hb : 0 ≤ b) (h : a ≠ b) : z_s (z_s f a x) b y = z_s (z_s f b y) a x := by
  funext k
  unfold z_s upd
  by_cases h1 : k = b.toNat
  · rw [if_pos h1, if_neg (by omega), if_pos h1]
  · rw [if_neg h1]
    by_cases h2 : k = a.toNat
    · rw [if_pos h2, if_pos h2]
    · rw [if_neg h2, if_neg h2, if_neg h1]
def vc_X8_midX (sd : Int) (Q : Int → Prop) : Prop :=
z_in (sd.tdiv 2) ∧ z_in (sd.tmod 2) ∧ ((sd.tmod 2 ≠ 0 → z_in ((2 * ((sd.tdiv 2).tmod 40)) + 0) ∧ Q ((2 * ((sd.tdiv 2).tmod 40)) + 0)) ∧
(sd.tmod 2 = 0 → z_in ((2 * ((sd.tdiv 2).tmod 40)) + 1) ∧ Q ((2 * ((sd.tdiv 2).tmod 40)) + 1)))
set_option maxHeartbeats 4000000 in
set_option maxRecDepth 100000 in
theorem wk_X8_midX (l : Launch) (D : va_G) (cA : Nat → ClassId) (sd : Int) (h_sd : z_in sd) (Q : Int → Prop) (hv : vc_X8_midX sd Q) : Met l yX8_midX wsX8_midX ({ frames := 0, cells := 0, slots := 0, locals := 0 } : Room) (va_Pc [.int (z_i sd)] (z_B0 D cA [])) (va_Qi (z_ri Q) (fun _ _ => True) (fun _ => False)) 0 0 (fun _ => False) := by
  unfold vc_X8_midX at hv
  refine Met.ofW (cc := cX8_midX) (maxL := 1) (ret := (some .int)) (by decide +kernel) rfl ?_
  intro p e s m args below meth c s₁ B hml hv0
  obtain ⟨rfl, hK, hP⟩ := hv0
  have hx := B.exec
  have hb := B.bytes
  have hr := B.returns
  have hts := atoms_spec (ws := wsX8_midX) B.pre
  have hown : s.vm.findClass RX8 = some m.cls := findClass_of_methodNamed B.named
  have hlocks := B.notSynchronized
  have hS : va_S (fun _ : Nat => False) s.heap s.heap [] := va_S.rf
  have hl := lv_entry ([.int (z_i sd)]) (n := 1) (Nat.le_of_ble_eq_true rfl)
  rw [lg_entry_eq]
  generalize (lg_sl ([.int (z_i sd)]) ++ List.replicate (1 - (lg_sl ([.int (z_i sd)])).length) Slot.unset).toArray = ls at hl ⊢
  have hl : lv_has ls 1 [(0, .int (z_i sd))] := hl
  refine lv_iconst (v := z_i 2) hx hb dX8_midX_0 rfl ?_
  refine lv_iload_n hx hb dX8_midX_1 rfl (lv_at hl 0 rfl) ?_
  refine lv_iconst (v := z_i 2) hx hb dX8_midX_2 rfl ?_
  refine lx_idiv hx hb dX8_midX_3 h_sd (show z_in 2 from ⟨by decide, by decide⟩) (by decide) ?_
  refine lv_bipush (v := z_i 40) hx hb dX8_midX_4 (by decide) ?_
  obtain ⟨hr1, hv⟩ := hv
  refine lx_irem hx hb dX8_midX_6 hr1 (show z_in 40 from ⟨by decide, by decide⟩) (by decide) ?_
  refine lx_imul hx hb dX8_midX_7 ?_
  refine lv_iload_n hx hb dX8_midX_8 rfl (lv_at hl 0 rfl) ?_
  refine lv_iconst (v := z_i 2) hx hb dX8_midX_9 rfl ?_
  refine lx_irem hx hb dX8_midX_10 h_sd (show z_in 2 from ⟨by decide, by decide⟩) (by decide) ?_
  obtain ⟨hr2, hv⟩ := hv
  refine lx_if_ne (tgt := 18) hx hb dX8_midX_11 (by decide) hr2 (fun hc => ?_) (fun hc => ?_)
  · have hv := hv.1 hc
    refine lv_iconst (v := z_i 0) hx hb dX8_midX_18 rfl ?_
    refine lx_iadd hx hb dX8_midX_19 ?_
    obtain ⟨hr3, hv⟩ := hv
    exact W.iret (v := z_i ((2 * ((sd.tdiv 2).tmod 40)) + 0)) hx hb hr (fun t ht hW => ⟨⟨z_i ((2 * ((sd.tdiv 2).tmod 40)) + 0), (), rfl, ⟨(2 * ((sd.tdiv 2).tmod 40)) + 0, rfl, hr3, hv⟩, trivial⟩, hS.F ht⟩) hS.2.2 dX8_midX_20
  · have hv := hv.2 hc
    refine lv_iconst (v := z_i 1) hx hb dX8_midX_14 rfl ?_
    refine lv_goto (tgt := 19) hx hb dX8_midX_15 (by decide) ?_
    refine lx_iadd hx hb dX8_midX_19 ?_
    obtain ⟨hr4, hv⟩ := hv
    exact W.iret (v := z_i ((2 * ((sd.tdiv 2).tmod 40)) + 1)) hx hb hr (fun t ht hW => ⟨⟨z_i ((2 * ((sd.tdiv 2).tmod 40)) + 1), (), rfl, ⟨(2 * ((sd.tdiv 2).tmod 40)) + 1, rfl, hr4, hv⟩, trivial⟩, hS.F ht⟩) hS.2.2 dX8_midX_20
set_option maxHeartbeats 4000000 in
set_option maxRecDepth 100000 in
theorem mt_X8_midX (l : Launch) (D : va_G) (cA : Nat → ClassId) (sd : Int) (h_sd : z_in sd) (hp1 : 0 ≤ sd ∧ sd < 2560) : Met l yX8_midX wsX8_midX ({ frames := 0, cells := 0, slots := 0, locals := 0 } : Room) (va_Pc [.int (z_i sd)] (z_B0 D cA [])) (va_Qi (z_ri (fun (r : Int) => r = e_mx sd)) (fun _ _ => True) (fun _ => False)) 0 0 (fun _ => False) := by
  refine wk_X8_midX l D cA sd h_sd (fun (r : Int) => r = e_mx sd) ?_
  unfold vc_X8_midX
  have e1 : sd.tdiv 2 = sd / 2 := Int.tdiv_eq_ediv_of_nonneg hp1.1
  have e2 : sd.tmod 2 = sd % 2 := Int.tmod_eq_emod_of_nonneg hp1.1
  have e3 : (sd / 2).tmod 40 = sd / 2 % 40 := Int.tmod_eq_emod_of_nonneg (by omega)
  rw [e1, e2, e3]
  refine ⟨⟨by omega, by omega⟩, ⟨by omega, by omega⟩, fun h => ⟨⟨by omega, by omega⟩, ?_⟩, fun h => ⟨⟨by omega, by omega⟩, ?_⟩⟩
  · rw [e_mx_o (by omega)]; omega
  · rw [e_mx_e h]
def vc_X8_midY (sd : Int) (Q : Int → Prop) : Prop :=
z_in (sd.tmod 2) ∧ ((sd.tmod 2 ≠ 0 → z_in ((2 * (sd.tdiv 80)) + 1) ∧ Q ((2 * (sd.tdiv 80)) + 1)) ∧
(sd.tmod 2 = 0 → z_in ((2 * (sd.tdiv 80)) + 0) ∧ Q ((2 * (sd.tdiv 80)) + 0)))
set_option maxHeartbeats 4000000 in
set_option maxRecDepth 100000 in
theorem wk_X8_midY (l : Launch) (D : va_G) (cA : Nat → ClassId) (sd : Int) (h_sd : z_in sd) (Q : Int → Prop) (hv : vc_X8_midY sd Q) : Met l yX8_midY wsX8_midY ({ frames := 0, cells := 0, slots := 0, locals := 0 } : Room) (va_Pc [.int (z_i sd)] (z_B0 D cA [])) (va_Qi (z_ri Q) (fun _ _ => True) (fun _ => False)) 0 0 (fun _ => False) := by
  unfold vc_X8_midY at hv
  refine Met.ofW (cc := cX8_midY) (maxL := 1) (ret := (some .int)) (by decide +kernel) rfl ?_
  intro p e s m args below meth c s₁ B hml hv0
  obtain ⟨rfl, hK, hP⟩ := hv0
  have hx := B.exec
  have hb := B.bytes
  have hr := B.returns
  have hts := atoms_spec (ws := wsX8_midY) B.pre
  have hown : s.vm.findClass RX8 = some m.cls := findClass_of_methodNamed B.named
  have hlocks := B.notSynchronized
  have hS : va_S (fun _ : Nat => False) s.heap s.heap [] := va_S.rf
  have hl := lv_entry ([.int (z_i sd)]) (n := 1) (Nat.le_of_ble_eq_true rfl)
  rw [lg_entry_eq]
  generalize (lg_sl ([.int (z_i sd)]) ++ List.replicate (1 - (lg_sl ([.int (z_i sd)])).length) Slot.unset).toArray = ls at hl ⊢
  have hl : lv_has ls 1 [(0, .int (z_i sd))] := hl
  refine lv_iconst (v := z_i 2) hx hb dX8_midY_0 rfl ?_
  refine lv_iload_n hx hb dX8_midY_1 rfl (lv_at hl 0 rfl) ?_
  refine lv_bipush (v := z_i 80) hx hb dX8_midY_2 (by decide) ?_
  refine lx_idiv hx hb dX8_midY_4 h_sd (show z_in 80 from ⟨by decide, by decide⟩) (by decide) ?_
  refine lx_imul hx hb dX8_midY_5 ?_
  refine lv_iload_n hx hb dX8_midY_6 rfl (lv_at hl 0 rfl) ?_
  refine lv_iconst (v := z_i 2) hx hb dX8_midY_7 rfl ?_
  refine lx_irem hx hb dX8_midY_8 h_sd (show z_in 2 from ⟨by decide, by decide⟩) (by decide) ?_
  obtain ⟨hr1, hv⟩ := hv
  refine lx_if_ne (tgt := 16) hx hb dX8_midY_9 (by decide) hr1 (fun hc => ?_) (fun hc => ?_)
  · have hv := hv.1 hc
    refine lv_iconst (v := z_i 1) hx hb dX8_midY_16 rfl ?_
    refine lx_iadd hx hb dX8_midY_17 ?_
    obtain ⟨hr2, hv⟩ := hv
    exact W.iret (v := z_i ((2 * (sd.tdiv 80)) + 1)) hx hb hr (fun t ht hW => ⟨⟨z_i ((2 * (sd.tdiv 80)) + 1), (), rfl, ⟨(2 * (sd.tdiv 80)) + 1, rfl, hr2, hv⟩, trivial⟩, hS.F ht⟩) hS.2.2 dX8_midY_18
  · have hv := hv.2 hc
    refine lv_iconst (v := z_i 0) hx hb dX8_midY_12 rfl ?_
    refine lv_goto (tgt := 17) hx hb dX8_midY_13 (by decide) ?_
    refine lx_iadd hx hb dX8_midY_17 ?_
    obtain ⟨hr3, hv⟩ := hv
    exact W.iret (v := z_i ((2 * (sd.tdiv 80)) + 0)) hx hb hr (fun t ht hW => ⟨⟨z_i ((2 * (sd.tdiv 80)) + 0), (), rfl, ⟨(2 * (sd.tdiv 80)) + 0, rfl, hr3, hv⟩, trivial⟩, hS.F ht⟩) hS.2.2 dX8_midY_18
set_option maxHeartbeats 4000000 in
set_option maxRecDepth 100000 in
theorem mt_X8_midY (l : Launch) (D : va_G) (cA : Nat → ClassId) (sd : Int) (h_sd : z_in sd) (hp1 : 0 ≤ sd ∧ sd < 2560) : Met l yX8_midY wsX8_midY ({ frames := 0, cells := 0, slots := 0, locals := 0 } : Room) (va_Pc [.int (z_i sd)] (z_B0 D cA [])) (va_Qi (z_ri (fun (r : Int) => r = e_my sd)) (fun _ _ => True) (fun _ => False)) 0 0 (fun _ => False) := by
  refine wk_X8_midY l D cA sd h_sd (fun (r : Int) => r = e_my sd) ?_
  unfold vc_X8_midY
  have e1 : sd.tdiv 80 = sd / 80 := Int.tdiv_eq_ediv_of_nonneg hp1.1
  have e2 : sd.tmod 2 = sd % 2 := Int.tmod_eq_emod_of_nonneg hp1.1
  rw [e1, e2]
  refine ⟨⟨by omega, by omega⟩, fun h => ⟨⟨by omega, by omega⟩, ?_⟩, fun h => ⟨⟨by omega, by omega⟩, ?_⟩⟩
  · rw [e_my_o (by omega)]
  · rw [e_my_e h]; omega
def vc_X8_isLeft (y_units : Nat → Int32) (gi : Int) (sd : Int) (td : Int) (lv : Int) (Q : Int → Prop) : Prop :=
z_in (sd.tdiv 80) ∧ (∀ v1 : Int, v1 = sd.tdiv 80 → z_in (sd.tdiv 2) ∧ z_in ((sd.tdiv 2).tmod 40) ∧ (∀ v5 : Int, v5 = (sd.tdiv 2).tmod 40 → (0 ≤ gi ∧ gi < 4) ∧ (0 ≤ v1 ∧ v1 < 32) ∧ (0 ≤ v5 ∧ v5 < 40) ∧ (∀ (r11 : Int), z_in r11 → (r11 = z_g y_units (1280 * gi + (40 * v1 + v5))) → ((r11 < lv → z_in (sd.tmod 2) ∧ ((sd.tmod 2 ≠ 1 → z_in (2 * (v5 + 1)) ∧ (∀ v13 : Int, v13 = 2 * (v5 + 1) → ((sd.tmod 2 ≠ 0 → z_in (2 * (v1 + 1)) ∧ (∀ v16 : Int, v16 = 2 * (v1 + 1) → (0 ≤ td ∧ td < 2560) ∧ (∀ (r20 : Int), z_in r20 → (r20 = e_mx td) → (0 ≤ sd ∧ sd < 2560) ∧ (∀ (r22 : Int), z_in r22 → (r22 = e_mx sd) → z_in (r20 - r22) ∧ (∀ v23 : Int, v23 = r20 - r22 → (0 ≤ td ∧ td < 2560) ∧ (∀ (r27 : Int), z_in r27 → (r27 = e_my td) → (0 ≤ sd ∧ sd < 2560) ∧ (∀ (r29 : Int), z_in r29 → (r29 = e_my sd) → z_in (r27 - r29) ∧ (∀ v30 : Int, v30 = r27 - r29 → (0 ≤ sd ∧ sd < 2560) ∧ (∀ (r34 : Int), z_in r34 → (r34 = e_my sd) → (0 ≤ sd ∧ sd < 2560) ∧ (∀ (r36 : Int), z_in r36 → (r36 = e_mx sd) → z_in ((v23 * (v16 - r34)) - (v30 * (v13 - r36))) ∧ (((v23 * (v16 - r34)) - (v30 * (v13 - r36)) ≤ 0 → Q 0) ∧
((v23 * (v16 - r34)) - (v30 * (v13 - r36)) > 0 → Q 1)))))))))))) ∧
(sd.tmod 2 = 0 → z_in (2 * v1) ∧ (∀ v38 : Int, v38 = 2 * v1 → (0 ≤ td ∧ td < 2560) ∧ (∀ (r42 : Int), z_in r42 → (r42 = e_mx td) → (0 ≤ sd ∧ sd < 2560) ∧ (∀ (r44 : Int), z_in r44 → (r44 = e_mx sd) → z_in (r42 - r44) ∧ (∀ v45 : Int, v45 = r42 - r44 → (0 ≤ td ∧ td < 2560) ∧ (∀ (r49 : Int), z_in r49 → (r49 = e_my td) → (0 ≤ sd ∧ sd < 2560) ∧ (∀ (r51 : Int), z_in r51 → (r51 = e_my sd) → z_in (r49 - r51) ∧ (∀ v52 : Int, v52 = r49 - r51 → (0 ≤ sd ∧ sd < 2560) ∧ (∀ (r56 : Int), z_in r56 → (r56 = e_my sd) → (0 ≤ sd ∧ sd < 2560) ∧ (∀ (r58 : Int), z_in r58 → (r58 = e_mx sd) → z_in ((v45 * (v38 - r56)) - (v52 * (v13 - r58))) ∧ (((v45 * (v38 - r56)) - (v52 * (v13 - r58)) ≤ 0 → Q 0) ∧
((v45 * (v38 - r56)) - (v52 * (v13 - r58)) > 0 → Q 1))))))))))))))) ∧
(sd.tmod 2 = 1 → z_in (2 * v5) ∧ (∀ v60 : Int, v60 = 2 * v5 → ((sd.tmod 2 ≠ 0 → z_in (2 * (v1 + 1)) ∧ (∀ v63 : Int, v63 = 2 * (v1 + 1) → (0 ≤ td ∧ td < 2560) ∧ (∀ (r67 : Int), z_in r67 → (r67 = e_mx td) → (0 ≤ sd ∧ sd < 2560) ∧ (∀ (r69 : Int), z_in r69 → (r69 = e_mx sd) → z_in (r67 - r69) ∧ (∀ v70 : Int, v70 = r67 - r69 → (0 ≤ td ∧ td < 2560) ∧ (∀ (r74 : Int), z_in r74 → (r74 = e_my td) → (0 ≤ sd ∧ sd < 2560) ∧ (∀ (r76 : Int), z_in r76 → (r76 = e_my sd) → z_in (r74 - r76) ∧ (∀ v77 : Int, v77 = r74 - r76 → (0 ≤ sd ∧ sd < 2560) ∧ (∀ (r81 : Int), z_in r81 → (r81 = e_my sd) → (0 ≤ sd ∧ sd < 2560) ∧ (∀ (r83 : Int), z_in r83 → (r83 = e_mx sd) → z_in ((v70 * (v63 - r81)) - (v77 * (v60 - r83))) ∧ (((v70 * (v63 - r81)) - (v77 * (v60 - r83)) ≤ 0 → Q 0) ∧
((v70 * (v63 - r81)) - (v77 * (v60 - r83)) > 0 → Q 1)))))))))))) ∧
(sd.tmod 2 = 0 → z_in (2 * v1) ∧ (∀ v85 : Int, v85 = 2 * v1 → (0 ≤ td ∧ td < 2560) ∧ (∀ (r89 : Int), z_in r89 → (r89 = e_mx td) → (0 ≤ sd ∧ sd < 2560) ∧ (∀ (r91 : Int), z_in r91 → (r91 = e_mx sd) → z_in (r89 - r91) ∧ (∀ v92 : Int, v92 = r89 - r91 → (0 ≤ td ∧ td < 2560) ∧ (∀ (r96 : Int), z_in r96 → (r96 = e_my td) → (0 ≤ sd ∧ sd < 2560) ∧ (∀ (r98 : Int), z_in r98 → (r98 = e_my sd) → z_in (r96 - r98) ∧ (∀ v99 : Int, v99 = r96 - r98 → (0 ≤ sd ∧ sd < 2560) ∧ (∀ (r103 : Int), z_in r103 → (r103 = e_my sd) → (0 ≤ sd ∧ sd < 2560) ∧ (∀ (r105 : Int), z_in r105 → (r105 = e_mx sd) → z_in ((v92 * (v85 - r103)) - (v99 * (v60 - r105))) ∧ (((v92 * (v85 - r103)) - (v99 * (v60 - r105)) ≤ 0 → Q 0) ∧
((v92 * (v85 - r103)) - (v99 * (v60 - r105)) > 0 → Q 1))))))))))))))))) ∧
(r11 ≥ lv → z_in (2 * v5) ∧ (∀ v107 : Int, v107 = 2 * v5 → z_in (2 * v1) ∧ (∀ v110 : Int, v110 = 2 * v1 → (0 ≤ td ∧ td < 2560) ∧ (∀ (r114 : Int), z_in r114 → (r114 = e_mx td) → (0 ≤ sd ∧ sd < 2560) ∧ (∀ (r116 : Int), z_in r116 → (r116 = e_mx sd) → z_in (r114 - r116) ∧ (∀ v117 : Int, v117 = r114 - r116 → (0 ≤ td ∧ td < 2560) ∧ (∀ (r121 : Int), z_in r121 → (r121 = e_my td) → (0 ≤ sd ∧ sd < 2560) ∧ (∀ (r123 : Int), z_in r123 → (r123 = e_my sd) → z_in (r121 - r123) ∧ (∀ v124 : Int, v124 = r121 - r123 → (0 ≤ sd ∧ sd < 2560) ∧ (∀ (r128 : Int), z_in r128 → (r128 = e_my sd) → (0 ≤ sd ∧ sd < 2560) ∧ (∀ (r130 : Int), z_in r130 → (r130 = e_mx sd) → z_in ((v117 * (v110 - r128)) - (v124 * (v107 - r130))) ∧ (((v117 * (v110 - r128)) - (v124 * (v107 - r130)) ≤ 0 → Q 0) ∧
((v117 * (v110 - r128)) - (v124 * (v107 - r130)) > 0 → Q 1)))))))))))))))))
set_option maxHeartbeats 4000000 in
set_option maxRecDepth 100000 in
theorem wk_X8_isLeft (l : Launch) (D : va_G) (cA : Nat → ClassId) (y : Nat) (y_space : Nat) (y_offset : Nat) (y_length : Nat) (ya_units : Nat) (y_units : Nat → Int32) (y_isThere : Nat) (y_levels : Int) (y_level : Nat) (y_lines : Int) (y_lineLevel : Nat) (y_lineUnits : Nat) (y_lineFrom : Nat) (y_lineMany : Nat) (y_isClosed : Nat) (y_insides : Nat) (y_parent : Nat) (y_isHigh : Nat) (y_inBits : Nat) (y_sides : Int) (y_side : Nat) (y_sideA : Nat) (y_sideB : Nat) (y_lineSpace : Int) (y_wasThere : Nat) (y_leads : Nat) (y_isLed : Nat) (y_isOn : Nat) (y_goesTo : Nat) (y_stream : Nat) (y_filled : Nat) (y_isDone : Nat) (y_isReached : Nat) (y_newUnits : Nat) (y_isNew : Nat) (gi : Int) (sd : Int) (td : Int) (lv : Int) (h_y_levels : z_in y_levels) (h_y_lines : z_in y_lines) (h_y_sides : z_in y_sides) (h_y_lineSpace : z_in y_lineSpace) (h_gi : z_in gi) (h_sd : z_in sd) (h_td : z_in td) (h_lv : z_in lv) (Q : Int → Prop) (hv : vc_X8_isLeft y_units gi sd td lv Q) : Met l yX8_isLeft wsX8_isLeft ({ frames := 1, cells := 0, slots := 0, locals := 23 } : Room) (va_Pc [.ref y, .int (z_i gi), .int (z_i sd), .int (z_i td), .int (z_i lv)] (z_B0 D cA [(y, .inr (6, [.ref y_space, .ref y_offset, .ref y_length, .ref ya_units, .ref y_isThere, .int (z_i y_levels), .ref y_level, .int (z_i y_lines), .ref y_lineLevel, .ref y_lineUnits, .ref y_lineFrom, .ref y_lineMany, .ref y_isClosed, .ref y_insides, .ref y_parent, .ref y_isHigh, .ref y_inBits, .int (z_i y_sides), .ref y_side, .ref y_sideA, .ref y_sideB, .int (z_i y_lineSpace), .ref y_wasThere, .ref y_leads, .ref y_isLed, .ref y_isOn, .ref y_goesTo, .ref y_stream, .ref y_filled, .ref y_isDone, .ref y_isReached, .ref y_newUnits, .ref y_isNew])), (ya_units, .inl (cA 1, 5120, .inl y_units))])) (va_Qi (z_ri Q) (fun _ _ => True) (fun _ => False)) 0 0 (fun _ => False) := by
  unfold vc_X8_isLeft at hv
  refine Met.ofW (cc := cX8_isLeft) (maxL := 12) (ret := (some .boolean)) (by decide +kernel) rfl ?_
  intro p e s m args below meth c s₁ B hml hv0
  obtain ⟨rfl, hK, hP⟩ := hv0
  have hx := B.exec
  have hb := B.bytes
  have hr := B.returns
  have hts := atoms_spec (ws := wsX8_isLeft) B.pre
  have hown : s.vm.findClass RX8 = some m.cls := findClass_of_methodNamed B.named
  have hlocks := B.notSynchronized
  have hS : va_S (fun _ : Nat => False) s.heap s.heap [] := va_S.rf
  have hl := lv_entry ([.ref y, .int (z_i gi), .int (z_i sd), .int (z_i td), .int (z_i lv)]) (n := 12) (Nat.le_of_ble_eq_true rfl)
  rw [lg_entry_eq]
  generalize (lg_sl ([.ref y, .int (z_i gi), .int (z_i sd), .int (z_i td), .int (z_i lv)]) ++ List.replicate (12 - (lg_sl ([.ref y, .int (z_i gi), .int (z_i sd), .int (z_i td), .int (z_i lv)])).length) Slot.unset).toArray = ls at hl ⊢
  have hl : lv_has ls 12 [(0, .ref y), (1, .int (z_i gi)), (2, .int (z_i sd)), (3, .int (z_i td)), (4, .int (z_i lv))] := hl
  refine lv_iload_n hx hb dX8_isLeft_0 rfl (lv_at hl 2 rfl) ?_
  refine lv_bipush (v := z_i 80) hx hb dX8_isLeft_1 (by decide) ?_
  refine lx_idiv hx hb dX8_isLeft_3 h_sd (show z_in 80 from ⟨by decide, by decide⟩) (by decide) ?_
  obtain ⟨hr2, hv⟩ := hv
  refine lx_topi (fun v1 hy3 => ?_)
  have hv := hv v1 hy3
  have h_v1 : z_in v1 := by rw [hy3]; exact hr2
  refine lv_istore (lv' := [(5, .int (z_i v1)), (0, .ref y), (1, .int (z_i gi)), (2, .int (z_i sd)), (3, .int (z_i td)), (4, .int (z_i lv))]) hx hb dX8_isLeft_4 hl (by decide) rfl (fun ls hl => ?_)
  refine lv_iload_n hx hb dX8_isLeft_6 rfl (lv_at hl 3 rfl) ?_
  refine lv_iconst (v := z_i 2) hx hb dX8_isLeft_7 rfl ?_
  refine lx_idiv hx hb dX8_isLeft_8 h_sd (show z_in 2 from ⟨by decide, by decide⟩) (by decide) ?_
  refine lv_bipush (v := z_i 40) hx hb dX8_isLeft_9 (by decide) ?_
  obtain ⟨hr4, hv⟩ := hv
  refine lx_irem hx hb dX8_isLeft_11 hr4 (show z_in 40 from ⟨by decide, by decide⟩) (by decide) ?_
  obtain ⟨hr6, hv⟩ := hv
  refine lx_topi (fun v5 hy7 => ?_)
  have hv := hv v5 hy7
  have h_v5 : z_in v5 := by rw [hy7]; exact hr6
  refine lv_istore (lv' := [(6, .int (z_i v5)), (5, .int (z_i v1)), (0, .ref y), (1, .int (z_i gi)), (2, .int (z_i sd)), (3, .int (z_i td)), (4, .int (z_i lv))]) hx hb dX8_isLeft_12 hl (by decide) rfl (fun ls hl => ?_)
  refine lv_aload_n hx hb dX8_isLeft_14 rfl (lv_at hl 2 rfl) ?_
  refine lv_iload_n hx hb dX8_isLeft_15 rfl (lv_at hl 3 rfl) ?_
  refine lv_iload hx hb dX8_isLeft_16 (lv_at hl 1 rfl) ?_
  refine lv_iload hx hb dX8_isLeft_18 (lv_at hl 0 rfl) ?_
  obtain ⟨hp8, hv⟩ := hv
  obtain ⟨hp9, hv⟩ := hv
  obtain ⟨hp10, hv⟩ := hv
  refine va_calli (va_runV (As := [.int (z_i gi), .int (z_i v1), .int (z_i v5)]) (rest := []) ⟨hx, hb, hml, hown, hts⟩ (mt_X8_h l D cA y y_space y_offset y_length ya_units y_units y_isThere y_levels y_level y_lines y_lineLevel y_lineUnits y_lineFrom y_lineMany y_isClosed y_insides y_parent y_isHigh y_inBits y_sides y_side y_sideA y_sideB y_lineSpace y_wasThere y_leads y_isLed y_isOn y_goesTo y_stream y_filled y_isDone y_isReached y_newUnits y_isNew gi v1 v5 h_y_levels h_y_lines h_y_sides h_y_lineSpace h_gi h_v1 h_v5 hp8 hp9 hp10) (cwV 3 hts gX8_isLeft_X8_h rfl rfl rfl (by decide +kernel) ⟨Nat.le_of_ble_eq_true rfl, Nat.le_of_ble_eq_true rfl⟩) ⟨z_bl0, va_recv hK hP (ci := 6) (q0 := 0) rfl rfl, fun U hU hW => ⟨rfl, z_b0 hK hP hU hW⟩⟩ rfl rfl hl.1 rfl (lv_room (Nat.le_of_ble_eq_true rfl)) dX8_isLeft_20 ⟨Nat.zero_le _, Nat.zero_le _⟩) hS (fun q _ h => h.elim) (fun q h => h.elim) (fun r0 u t H locs ht hvm hw hB hz1 hk1 hS => ?_)
  obtain ⟨r11, rfl, h_r11, hw⟩ := hw
  have hP := z_P_all hP hk1
  have hv := hv r11 h_r11 hw
  refine lv_iload hx hb dX8_isLeft_23 (lv_at hl 6 rfl) ?_
  refine lx_icmp_lt (tgt := 32) hx hb dX8_isLeft_25 (by decide) h_r11 h_lv (fun hc => ?_) (fun hc => ?_)
  · have hv := hv.1 hc
    refine lv_iconst (v := z_i 0) hx hb dX8_isLeft_32 rfl ?_
    refine lv_istore (lv' := [(7, .int (z_i 0)), (6, .int (z_i v5)), (5, .int (z_i v1)), (0, .ref y), (1, .int (z_i gi)), (2, .int (z_i sd)), (3, .int (z_i td)), (4, .int (z_i lv))]) hx hb dX8_isLeft_33 hl (by decide) rfl (fun ls hl => ?_)
    refine lv_iconst (v := z_i 2) hx hb dX8_isLeft_35 rfl ?_
    refine lv_iload hx hb dX8_isLeft_36 (lv_at hl 0 rfl) ?_
    refine lx_if_ne (tgt := 48) hx hb dX8_isLeft_38 (by decide) ⟨by decide, by decide⟩ (fun hc => absurd hc (by decide)) (fun _ => ?_)
    refine lv_iload_n hx hb dX8_isLeft_41 rfl (lv_at hl 5 rfl) ?_
    refine lv_iconst (v := z_i 2) hx hb dX8_isLeft_42 rfl ?_
    refine lx_irem hx hb dX8_isLeft_43 h_sd (show z_in 2 from ⟨by decide, by decide⟩) (by decide) ?_
    refine lv_iconst (v := z_i 1) hx hb dX8_isLeft_44 rfl ?_
    obtain ⟨hr12, hv⟩ := hv
    refine lx_icmp_ne (tgt := 53) hx hb dX8_isLeft_45 (by decide) hr12 (show z_in 1 from ⟨by decide, by decide⟩) (fun hc => ?_) (fun hc => ?_)
    · have hv := hv.1 hc
      refine lv_iload hx hb dX8_isLeft_53 (lv_at hl 1 rfl) ?_
      refine lv_iconst (v := z_i 1) hx hb dX8_isLeft_55 rfl ?_
      refine lx_iadd hx hb dX8_isLeft_56 ?_
      refine lx_imul hx hb dX8_isLeft_57 ?_
      obtain ⟨hr14, hv⟩ := hv
      refine lx_topi (fun v13 hy15 => ?_)
      have hv := hv v13 hy15
      have h_v13 : z_in v13 := by rw [hy15]; exact hr14
      refine lv_istore (lv' := [(8, .int (z_i v13)), (7, .int (z_i 0)), (6, .int (z_i v5)), (5, .int (z_i v1)), (0, .ref y), (1, .int (z_i gi)), (2, .int (z_i sd)), (3, .int (z_i td)), (4, .int (z_i lv))]) hx hb dX8_isLeft_58 hl (by decide) rfl (fun ls hl => ?_)
      refine lv_iconst (v := z_i 2) hx hb dX8_isLeft_60 rfl ?_
      refine lv_iload hx hb dX8_isLeft_61 (lv_at hl 1 rfl) ?_
      refine lx_if_ne (tgt := 72) hx hb dX8_isLeft_63 (by decide) ⟨by decide, by decide⟩ (fun hc => absurd hc (by decide)) (fun _ => ?_)
      refine lv_iload_n hx hb dX8_isLeft_66 rfl (lv_at hl 6 rfl) ?_
      refine lv_iconst (v := z_i 2) hx hb dX8_isLeft_67 rfl ?_
      refine lx_irem hx hb dX8_isLeft_68 h_sd (show z_in 2 from ⟨by decide, by decide⟩) (by decide) ?_
      refine lx_if_ne (tgt := 77) hx hb dX8_isLeft_69 (by decide) hr12 (fun hc => ?_) (fun hc => ?_)
      · have hv := hv.1 hc
        refine lv_iload hx hb dX8_isLeft_77 (lv_at hl 3 rfl) ?_
        refine lv_iconst (v := z_i 1) hx hb dX8_isLeft_79 rfl ?_
        refine lx_iadd hx hb dX8_isLeft_80 ?_
        refine lx_imul hx hb dX8_isLeft_81 ?_
        obtain ⟨hr17, hv⟩ := hv
        refine lx_topi (fun v16 hy18 => ?_)
        have hv := hv v16 hy18
        have h_v16 : z_in v16 := by rw [hy18]; exact hr17
        refine lv_istore (lv' := [(9, .int (z_i v16)), (8, .int (z_i v13)), (7, .int (z_i 0)), (6, .int (z_i v5)), (5, .int (z_i v1)), (0, .ref y), (1, .int (z_i gi)), (2, .int (z_i sd)), (3, .int (z_i td)), (4, .int (z_i lv))]) hx hb dX8_isLeft_82 hl (by decide) rfl (fun ls hl => ?_)
        refine lv_iload_n hx hb dX8_isLeft_84 rfl (lv_at hl 8 rfl) ?_
        obtain ⟨hp19, hv⟩ := hv
        refine va_calli (va_runS (As := [.int (z_i td)]) (rest := []) ⟨hx, hb, hml, hown, hts⟩ (mt_X8_midX l D cA td h_td hp19) (va_cwS 1 hts gX8_isLeft_X8_midX rfl rfl rfl (by decide +kernel) ⟨Nat.le_of_ble_eq_true rfl, Nat.le_of_ble_eq_true rfl⟩) ⟨z_bl0, fun U hU hW => ⟨rfl, z_b0 hK (hP.sub (ws' := []) [] rfl) hU hW⟩⟩ rfl rfl hl.1 rfl (lv_room (Nat.le_of_ble_eq_true rfl)) dX8_isLeft_85 ⟨Nat.zero_le _, Nat.zero_le _⟩) hS (fun q _ h => h.elim) (fun q h => h.elim) (fun r0 u t H locs ht hvm hw hB hz1 hk1 hS => ?_)
        obtain ⟨r20, rfl, h_r20, hw⟩ := hw
        have hP := z_P_all hP hk1
        have hv := hv r20 h_r20 hw
        refine lv_iload_n hx hb dX8_isLeft_88 rfl (lv_at hl 7 rfl) ?_
        obtain ⟨hp21, hv⟩ := hv
        refine va_calli (va_runS (As := [.int (z_i sd)]) (rest := [.int (z_i r20)]) ⟨hx, hb, hml, hown, hts⟩ (mt_X8_midX l D cA sd h_sd hp21) (va_cwS 1 hts gX8_isLeft_X8_midX rfl rfl rfl (by decide +kernel) ⟨Nat.le_of_ble_eq_true rfl, Nat.le_of_ble_eq_true rfl⟩) ⟨z_bl0, fun U hU hW => ⟨rfl, z_b0 hK (hP.sub (ws' := []) [] rfl) hU hW⟩⟩ rfl rfl hl.1 rfl (lv_room (Nat.le_of_ble_eq_true rfl)) dX8_isLeft_89 ⟨Nat.zero_le _, Nat.zero_le _⟩) hS (fun q _ h => h.elim) (fun q h => h.elim) (fun r0 u t H locs ht hvm hw hB hz1 hk1 hS => ?_)
        obtain ⟨r22, rfl, h_r22, hw⟩ := hw
        have hP := z_P_all hP hk1
        have hv := hv r22 h_r22 hw
        refine lx_isub hx hb dX8_isLeft_92 ?_
        obtain ⟨hr24, hv⟩ := hv
        refine lx_topi (fun v23 hy25 => ?_)
        have hv := hv v23 hy25
        have h_v23 : z_in v23 := by rw [hy25]; exact hr24
        refine lv_istore (lv' := [(10, .int (z_i v23)), (9, .int (z_i v16)), (8, .int (z_i v13)), (7, .int (z_i 0)), (6, .int (z_i v5)), (5, .int (z_i v1)), (0, .ref y), (1, .int (z_i gi)), (2, .int (z_i sd)), (3, .int (z_i td)), (4, .int (z_i lv))]) hx hb dX8_isLeft_93 hl (by decide) rfl (fun ls hl => ?_)
        refine lv_iload_n hx hb dX8_isLeft_95 rfl (lv_at hl 9 rfl) ?_
        obtain ⟨hp26, hv⟩ := hv
        refine va_calli (va_runS (As := [.int (z_i td)]) (rest := []) ⟨hx, hb, hml, hown, hts⟩ (mt_X8_midY l D cA td h_td hp26) (va_cwS 1 hts gX8_isLeft_X8_midY rfl rfl rfl (by decide +kernel) ⟨Nat.le_of_ble_eq_true rfl, Nat.le_of_ble_eq_true rfl⟩) ⟨z_bl0, fun U hU hW => ⟨rfl, z_b0 hK (hP.sub (ws' := []) [] rfl) hU hW⟩⟩ rfl rfl hl.1 rfl (lv_room (Nat.le_of_ble_eq_true rfl)) dX8_isLeft_96 ⟨Nat.zero_le _, Nat.zero_le _⟩) hS (fun q _ h => h.elim) (fun q h => h.elim) (fun r0 u t H locs ht hvm hw hB hz1 hk1 hS => ?_)
        obtain ⟨r27, rfl, h_r27, hw⟩ := hw
        have hP := z_P_all hP hk1
        have hv := hv r27 h_r27 hw
        refine lv_iload_n hx hb dX8_isLeft_99 rfl (lv_at hl 8 rfl) ?_
        obtain ⟨hp28, hv⟩ := hv
        refine va_calli (va_runS (As := [.int (z_i sd)]) (rest := [.int (z_i r27)]) ⟨hx, hb, hml, hown, hts⟩ (mt_X8_midY l D cA sd h_sd hp28) (va_cwS 1 hts gX8_isLeft_X8_midY rfl rfl rfl (by decide +kernel) ⟨Nat.le_of_ble_eq_true rfl, Nat.le_of_ble_eq_true rfl⟩) ⟨z_bl0, fun U hU hW => ⟨rfl, z_b0 hK (hP.sub (ws' := []) [] rfl) hU hW⟩⟩ rfl rfl hl.1 rfl (lv_room (Nat.le_of_ble_eq_true rfl)) dX8_isLeft_100 ⟨Nat.zero_le _, Nat.zero_le _⟩) hS (fun q _ h => h.elim) (fun q h => h.elim) (fun r0 u t H locs ht hvm hw hB hz1 hk1 hS => ?_)
        obtain ⟨r29, rfl, h_r29, hw⟩ := hw
        have hP := z_P_all hP hk1
        have hv := hv r29 h_r29 hw
        refine lx_isub hx hb dX8_isLeft_103 ?_
        obtain ⟨hr31, hv⟩ := hv
        refine lx_topi (fun v30 hy32 => ?_)
        have hv := hv v30 hy32
        have h_v30 : z_in v30 := by rw [hy32]; exact hr31
        refine lv_istore (lv' := [(11, .int (z_i v30)), (10, .int (z_i v23)), (9, .int (z_i v16)), (8, .int (z_i v13)), (7, .int (z_i 0)), (6, .int (z_i v5)), (5, .int (z_i v1)), (0, .ref y), (1, .int (z_i gi)), (2, .int (z_i sd)), (3, .int (z_i td)), (4, .int (z_i lv))]) hx hb dX8_isLeft_104 hl (by decide) rfl (fun ls hl => ?_)
        refine lv_iload hx hb dX8_isLeft_106 (lv_at hl 1 rfl) ?_
        refine lv_iload hx hb dX8_isLeft_108 (lv_at hl 2 rfl) ?_
        refine lv_iload_n hx hb dX8_isLeft_110 rfl (lv_at hl 9 rfl) ?_
        obtain ⟨hp33, hv⟩ := hv
        refine va_calli (va_runS (As := [.int (z_i sd)]) (rest := [.int (z_i v16), .int (z_i v23)]) ⟨hx, hb, hml, hown, hts⟩ (mt_X8_midY l D cA sd h_sd hp33) (va_cwS 1 hts gX8_isLeft_X8_midY rfl rfl rfl (by decide +kernel) ⟨Nat.le_of_ble_eq_true rfl, Nat.le_of_ble_eq_true rfl⟩) ⟨z_bl0, fun U hU hW => ⟨rfl, z_b0 hK (hP.sub (ws' := []) [] rfl) hU hW⟩⟩ rfl rfl hl.1 rfl (lv_room (Nat.le_of_ble_eq_true rfl)) dX8_isLeft_111 ⟨Nat.zero_le _, Nat.zero_le _⟩) hS (fun q _ h => h.elim) (fun q h => h.elim) (fun r0 u t H locs ht hvm hw hB hz1 hk1 hS => ?_)
        obtain ⟨r34, rfl, h_r34, hw⟩ := hw
        have hP := z_P_all hP hk1
        have hv := hv r34 h_r34 hw
        refine lx_isub hx hb dX8_isLeft_114 ?_
        refine lx_imul hx hb dX8_isLeft_115 ?_
        refine lv_iload hx hb dX8_isLeft_116 (lv_at hl 0 rfl) ?_
        refine lv_iload hx hb dX8_isLeft_118 (lv_at hl 3 rfl) ?_
        refine lv_iload_n hx hb dX8_isLeft_120 rfl (lv_at hl 9 rfl) ?_
        obtain ⟨hp35, hv⟩ := hv
        refine va_calli (va_runS (As := [.int (z_i sd)]) (rest := [.int (z_i v13), .int (z_i v30), .int (z_i (v23 * (v16 - r34)))]) ⟨hx, hb, hml, hown, hts⟩ (mt_X8_midX l D cA sd h_sd hp35) (va_cwS 1 hts gX8_isLeft_X8_midX rfl rfl rfl (by decide +kernel) ⟨Nat.le_of_ble_eq_true rfl, Nat.le_of_ble_eq_true rfl⟩) ⟨z_bl0, fun U hU hW => ⟨rfl, z_b0 hK (hP.sub (ws' := []) [] rfl) hU hW⟩⟩ rfl rfl hl.1 rfl (lv_room (Nat.le_of_ble_eq_true rfl)) dX8_isLeft_121 ⟨Nat.zero_le _, Nat.zero_le _⟩) hS (fun q _ h => h.elim) (fun q h => h.elim) (fun r0 u t H locs ht hvm hw hB hz1 hk1 hS => ?_)
        obtain ⟨r36, rfl, h_r36, hw⟩ := hw
        have hP := z_P_all hP hk1
        have hv := hv r36 h_r36 hw
        refine lx_isub hx hb dX8_isLeft_124 ?_
        refine lx_imul hx hb dX8_isLeft_125 ?_
        refine lx_isub hx hb dX8_isLeft_126 ?_
        obtain ⟨hr37, hv⟩ := hv
        refine lx_if_le (tgt := 134) hx hb dX8_isLeft_127 (by decide) hr37 (fun hc => ?_) (fun hc => ?_)
        · have hv := hv.1 hc
          refine lv_iconst (v := z_i 0) hx hb dX8_isLeft_134 rfl ?_
          exact W.zret (v := z_i 0) hx hb hr (by decide) (fun t ht hW => ⟨⟨z_i 0, (), rfl, ⟨0, rfl, (show z_in 0 from ⟨by decide, by decide⟩), hv⟩, trivial⟩, hS.F ht⟩) hS.2.2 dX8_isLeft_135
        · have hv := hv.2 hc
          refine lv_iconst (v := z_i 1) hx hb dX8_isLeft_130 rfl ?_
          refine lv_goto (tgt := 135) hx hb dX8_isLeft_131 (by decide) ?_
          exact W.zret (v := z_i 1) hx hb hr (by decide) (fun t ht hW => ⟨⟨z_i 1, (), rfl, ⟨1, rfl, (show z_in 1 from ⟨by decide, by decide⟩), hv⟩, trivial⟩, hS.F ht⟩) hS.2.2 dX8_isLeft_135
      · have hv := hv.2 hc
        refine lv_iload hx hb dX8_isLeft_72 (lv_at hl 3 rfl) ?_
        refine lv_goto (tgt := 81) hx hb dX8_isLeft_74 (by decide) ?_
        refine lx_imul hx hb dX8_isLeft_81 ?_
        obtain ⟨hr39, hv⟩ := hv
        refine lx_topi (fun v38 hy40 => ?_)
        have hv := hv v38 hy40
        have h_v38 : z_in v38 := by rw [hy40]; exact hr39
        refine lv_istore (lv' := [(9, .int (z_i v38)), (8, .int (z_i v13)), (7, .int (z_i 0)), (6, .int (z_i v5)), (5, .int (z_i v1)), (0, .ref y), (1, .int (z_i gi)), (2, .int (z_i sd)), (3, .int (z_i td)), (4, .int (z_i lv))]) hx hb dX8_isLeft_82 hl (by decide) rfl (fun ls hl => ?_)
        refine lv_iload_n hx hb dX8_isLeft_84 rfl (lv_at hl 8 rfl) ?_
        obtain ⟨hp41, hv⟩ := hv
        refine va_calli (va_runS (As := [.int (z_i td)]) (rest := []) ⟨hx, hb, hml, hown, hts⟩ (mt_X8_midX l D cA td h_td hp41) (va_cwS 1 hts gX8_isLeft_X8_midX rfl rfl rfl (by decide +kernel) ⟨Nat.le_of_ble_eq_true rfl, Nat.le_of_ble_eq_true rfl⟩) ⟨z_bl0, fun U hU hW => ⟨rfl, z_b0 hK (hP.sub (ws' := []) [] rfl) hU hW⟩⟩ rfl rfl hl.1 rfl (lv_room (Nat.le_of_ble_eq_true rfl)) dX8_isLeft_85 ⟨Nat.zero_le _, Nat.zero_le _⟩) hS (fun q _ h => h.elim) (fun q h => h.elim) (fun r0 u t H locs ht hvm hw hB hz1 hk1 hS => ?_)
        obtain ⟨r42, rfl, h_r42, hw⟩ := hw
        have hP := z_P_all hP hk1
        have hv := hv r42 h_r42 hw
        refine lv_iload_n hx hb dX8_isLeft_88 rfl (lv_at hl 7 rfl) ?_
        obtain ⟨hp43, hv⟩ := hv
        refine va_calli (va_runS (As := [.int (z_i sd)]) (rest := [.int (z_i r42)]) ⟨hx, hb, hml, hown, hts⟩ (mt_X8_midX l D cA sd h_sd hp43) (va_cwS 1 hts gX8_isLeft_X8_midX rfl rfl rfl (by decide +kernel) ⟨Nat.le_of_ble_eq_true rfl, Nat.le_of_ble_eq_true rfl⟩) ⟨z_bl0, fun U hU hW => ⟨rfl, z_b0 hK (hP.sub (ws' := []) [] rfl) hU hW⟩⟩ rfl rfl hl.1 rfl (lv_room (Nat.le_of_ble_eq_true rfl)) dX8_isLeft_89 ⟨Nat.zero_le _, Nat.zero_le _⟩) hS (fun q _ h => h.elim) (fun q h => h.elim) (fun r0 u t H locs ht hvm hw hB hz1 hk1 hS => ?_)
        obtain ⟨r44, rfl, h_r44, hw⟩ := hw
        have hP := z_P_all hP hk1
        have hv := hv r44 h_r44 hw
        refine lx_isub hx hb dX8_isLeft_92 ?_
        obtain ⟨hr46, hv⟩ := hv
        refine lx_topi (fun v45 hy47 => ?_)
        have hv := hv v45 hy47
        have h_v45 : z_in v45 := by rw [hy47]; exact hr46
        refine lv_istore (lv' := [(10, .int (z_i v45)), (9, .int (z_i v38)), (8, .int (z_i v13)), (7, .int (z_i 0)), (6, .int (z_i v5)), (5, .int (z_i v1)), (0, .ref y), (1, .int (z_i gi)), (2, .int (z_i sd)), (3, .int (z_i td)), (4, .int (z_i lv))]) hx hb dX8_isLeft_93 hl (by decide) rfl (fun ls hl => ?_)
        refine lv_iload_n hx hb dX8_isLeft_95 rfl (lv_at hl 9 rfl) ?_
        obtain ⟨hp48, hv⟩ := hv
        refine va_calli (va_runS (As := [.int (z_i td)]) (rest := []) ⟨hx, hb, hml, hown, hts⟩ (mt_X8_midY l D cA td h_td hp48) (va_cwS 1 hts gX8_isLeft_X8_midY rfl rfl rfl (by decide +kernel) ⟨Nat.le_of_ble_eq_true rfl, Nat.le_of_ble_eq_true rfl⟩) ⟨z_bl0, fun U hU hW => ⟨rfl, z_b0 hK (hP.sub (ws' := []) [] rfl) hU hW⟩⟩ rfl rfl hl.1 rfl (lv_room (Nat.le_of_ble_eq_true rfl)) dX8_isLeft_96 ⟨Nat.zero_le _, Nat.zero_le _⟩) hS (fun q _ h => h.elim) (fun q h => h.elim) (fun r0 u t H locs ht hvm hw hB hz1 hk1 hS => ?_)
        obtain ⟨r49, rfl, h_r49, hw⟩ := hw
        have hP := z_P_all hP hk1
        have hv := hv r49 h_r49 hw
        refine lv_iload_n hx hb dX8_isLeft_99 rfl (lv_at hl 8 rfl) ?_
        obtain ⟨hp50, hv⟩ := hv
        refine va_calli (va_runS (As := [.int (z_i sd)]) (rest := [.int (z_i r49)]) ⟨hx, hb, hml, hown, hts⟩ (mt_X8_midY l D cA sd h_sd hp50) (va_cwS 1 hts gX8_isLeft_X8_midY rfl rfl rfl (by decide +kernel) ⟨Nat.le_of_ble_eq_true rfl, Nat.le_of_ble_eq_true rfl⟩) ⟨z_bl0, fun U hU hW => ⟨rfl, z_b0 hK (hP.sub (ws' := []) [] rfl) hU hW⟩⟩ rfl rfl hl.1 rfl (lv_room (Nat.le_of_ble_eq_true rfl)) dX8_isLeft_100 ⟨Nat.zero_le _, Nat.zero_le _⟩) hS (fun q _ h => h.elim) (fun q h => h.elim) (fun r0 u t H locs ht hvm hw hB hz1 hk1 hS => ?_)
        obtain ⟨r51, rfl, h_r51, hw⟩ := hw
        have hP := z_P_all hP hk1
        have hv := hv r51 h_r51 hw
        refine lx_isub hx hb dX8_isLeft_103 ?_
        obtain ⟨hr53, hv⟩ := hv
        refine lx_topi (fun v52 hy54 => ?_)
        have hv := hv v52 hy54
        have h_v52 : z_in v52 := by rw [hy54]; exact hr53
        refine lv_istore (lv' := [(11, .int (z_i v52)), (10, .int (z_i v45)), (9, .int (z_i v38)), (8, .int (z_i v13)), (7, .int (z_i 0)), (6, .int (z_i v5)), (5, .int (z_i v1)), (0, .ref y), (1, .int (z_i gi)), (2, .int (z_i sd)), (3, .int (z_i td)), (4, .int (z_i lv))]) hx hb dX8_isLeft_104 hl (by decide) rfl (fun ls hl => ?_)
        refine lv_iload hx hb dX8_isLeft_106 (lv_at hl 1 rfl) ?_
        refine lv_iload hx hb dX8_isLeft_108 (lv_at hl 2 rfl) ?_
        refine lv_iload_n hx hb dX8_isLeft_110 rfl (lv_at hl 9 rfl) ?_
        obtain ⟨hp55, hv⟩ := hv
        refine va_calli (va_runS (As := [.int (z_i sd)]) (rest := [.int (z_i v38), .int (z_i v45)]) ⟨hx, hb, hml, hown, hts⟩ (mt_X8_midY l D cA sd h_sd hp55) (va_cwS 1 hts gX8_isLeft_X8_midY rfl rfl rfl (by decide +kernel) ⟨Nat.le_of_ble_eq_true rfl, Nat.le_of_ble_eq_true rfl⟩) ⟨z_bl0, fun U hU hW => ⟨rfl, z_b0 hK (hP.sub (ws' := []) [] rfl) hU hW⟩⟩ rfl rfl hl.1 rfl (lv_room (Nat.le_of_ble_eq_true rfl)) dX8_isLeft_111 ⟨Nat.zero_le _, Nat.zero_le _⟩) hS (fun q _ h => h.elim) (fun q h => h.elim) (fun r0 u t H locs ht hvm hw hB hz1 hk1 hS => ?_)
        obtain ⟨r56, rfl, h_r56, hw⟩ := hw
        have hP := z_P_all hP hk1
        have hv := hv r56 h_r56 hw
        refine lx_isub hx hb dX8_isLeft_114 ?_
        refine lx_imul hx hb dX8_isLeft_115 ?_
        refine lv_iload hx hb dX8_isLeft_116 (lv_at hl 0 rfl) ?_
        refine lv_iload hx hb dX8_isLeft_118 (lv_at hl 3 rfl) ?_
        refine lv_iload_n hx hb dX8_isLeft_120 rfl (lv_at hl 9 rfl) ?_
        obtain ⟨hp57, hv⟩ := hv
        refine va_calli (va_runS (As := [.int (z_i sd)]) (rest := [.int (z_i v13), .int (z_i v52), .int (z_i (v45 * (v38 - r56)))]) ⟨hx, hb, hml, hown, hts⟩ (mt_X8_midX l D cA sd h_sd hp57) (va_cwS 1 hts gX8_isLeft_X8_midX rfl rfl rfl (by decide +kernel) ⟨Nat.le_of_ble_eq_true rfl, Nat.le_of_ble_eq_true rfl⟩) ⟨z_bl0, fun U hU hW => ⟨rfl, z_b0 hK (hP.sub (ws' := []) [] rfl) hU hW⟩⟩ rfl rfl hl.1 rfl (lv_room (Nat.le_of_ble_eq_true rfl)) dX8_isLeft_121 ⟨Nat.zero_le _, Nat.zero_le _⟩) hS (fun q _ h => h.elim) (fun q h => h.elim) (fun r0 u t H locs ht hvm hw hB hz1 hk1 hS => ?_)
        obtain ⟨r58, rfl, h_r58, hw⟩ := hw
        have hP := z_P_all hP hk1
        have hv := hv r58 h_r58 hw
        refine lx_isub hx hb dX8_isLeft_124 ?_
        refine lx_imul hx hb dX8_isLeft_125 ?_
        refine lx_isub hx hb dX8_isLeft_126 ?_
        obtain ⟨hr59, hv⟩ := hv
        refine lx_if_le (tgt := 134) hx hb dX8_isLeft_127 (by decide) hr59 (fun hc => ?_) (fun hc => ?_)
        · have hv := hv.1 hc
          refine lv_iconst (v := z_i 0) hx hb dX8_isLeft_134 rfl ?_
          exact W.zret (v := z_i 0) hx hb hr (by decide) (fun t ht hW => ⟨⟨z_i 0, (), rfl, ⟨0, rfl, (show z_in 0 from ⟨by decide, by decide⟩), hv⟩, trivial⟩, hS.F ht⟩) hS.2.2 dX8_isLeft_135
        · have hv := hv.2 hc
          refine lv_iconst (v := z_i 1) hx hb dX8_isLeft_130 rfl ?_
          refine lv_goto (tgt := 135) hx hb dX8_isLeft_131 (by decide) ?_
          exact W.zret (v := z_i 1) hx hb hr (by decide) (fun t ht hW => ⟨⟨z_i 1, (), rfl, ⟨1, rfl, (show z_in 1 from ⟨by decide, by decide⟩), hv⟩, trivial⟩, hS.F ht⟩) hS.2.2 dX8_isLeft_135
    · have hv := hv.2 hc
      refine lv_iload hx hb dX8_isLeft_48 (lv_at hl 1 rfl) ?_
      refine lv_goto (tgt := 57) hx hb dX8_isLeft_50 (by decide) ?_
      refine lx_imul hx hb dX8_isLeft_57 ?_
      obtain ⟨hr61, hv⟩ := hv
      refine lx_topi (fun v60 hy62 => ?_)
      have hv := hv v60 hy62
      have h_v60 : z_in v60 := by rw [hy62]; exact hr61
      refine lv_istore (lv' := [(8, .int (z_i v60)), (7, .int (z_i 0)), (6, .int (z_i v5)), (5, .int (z_i v1)), (0, .ref y), (1, .int (z_i gi)), (2, .int (z_i sd)), (3, .int (z_i td)), (4, .int (z_i lv))]) hx hb dX8_isLeft_58 hl (by decide) rfl (fun ls hl => ?_)
      refine lv_iconst (v := z_i 2) hx hb dX8_isLeft_60 rfl ?_
      refine lv_iload hx hb dX8_isLeft_61 (lv_at hl 1 rfl) ?_
      refine lx_if_ne (tgt := 72) hx hb dX8_isLeft_63 (by decide) ⟨by decide, by decide⟩ (fun hc => absurd hc (by decide)) (fun _ => ?_)
      refine lv_iload_n hx hb dX8_isLeft_66 rfl (lv_at hl 6 rfl) ?_
      refine lv_iconst (v := z_i 2) hx hb dX8_isLeft_67 rfl ?_
      refine lx_irem hx hb dX8_isLeft_68 h_sd (show z_in 2 from ⟨by decide, by decide⟩) (by decide) ?_
      refine lx_if_ne (tgt := 77) hx hb dX8_isLeft_69 (by decide) hr12 (fun hc => ?_) (fun hc => ?_)
      · have hv := hv.1 hc
        refine lv_iload hx hb dX8_isLeft_77 (lv_at hl 3 rfl) ?_
        refine lv_iconst (v := z_i 1) hx hb dX8_isLeft_79 rfl ?_
        refine lx_iadd hx hb dX8_isLeft_80 ?_
        refine lx_imul hx hb dX8_isLeft_81 ?_
        obtain ⟨hr64, hv⟩ := hv
        refine lx_topi (fun v63 hy65 => ?_)
        have hv := hv v63 hy65
        have h_v63 : z_in v63 := by rw [hy65]; exact hr64
        refine lv_istore (lv' := [(9, .int (z_i v63)), (8, .int (z_i v60)), (7, .int (z_i 0)), (6, .int (z_i v5)), (5, .int (z_i v1)), (0, .ref y), (1, .int (z_i gi)), (2, .int (z_i sd)), (3, .int (z_i td)), (4, .int (z_i lv))]) hx hb dX8_isLeft_82 hl (by decide) rfl (fun ls hl => ?_)
        refine lv_iload_n hx hb dX8_isLeft_84 rfl (lv_at hl 8 rfl) ?_
        obtain ⟨hp66, hv⟩ := hv
        refine va_calli (va_runS (As := [.int (z_i td)]) (rest := []) ⟨hx, hb, hml, hown, hts⟩ (mt_X8_midX l D cA td h_td hp66) (va_cwS 1 hts gX8_isLeft_X8_midX rfl rfl rfl (by decide +kernel) ⟨Nat.le_of_ble_eq_true rfl, Nat.le_of_ble_eq_true rfl⟩) ⟨z_bl0, fun U hU hW => ⟨rfl, z_b0 hK (hP.sub (ws' := []) [] rfl) hU hW⟩⟩ rfl rfl hl.1 rfl (lv_room (Nat.le_of_ble_eq_true rfl)) dX8_isLeft_85 ⟨Nat.zero_le _, Nat.zero_le _⟩) hS (fun q _ h => h.elim) (fun q h => h.elim) (fun r0 u t H locs ht hvm hw hB hz1 hk1 hS => ?_)
        obtain ⟨r67, rfl, h_r67, hw⟩ := hw
        have hP := z_P_all hP hk1
        have hv := hv r67 h_r67 hw
        refine lv_iload_n hx hb dX8_isLeft_88 rfl (lv_at hl 7 rfl) ?_
        obtain ⟨hp68, hv⟩ := hv
        refine va_calli (va_runS (As := [.int (z_i sd)]) (rest := [.int (z_i r67)]) ⟨hx, hb, hml, hown, hts⟩ (mt_X8_midX l D cA sd h_sd hp68) (va_cwS 1 hts gX8_isLeft_X8_midX rfl rfl rfl (by decide +kernel) ⟨Nat.le_of_ble_eq_true rfl, Nat.le_of_ble_eq_true rfl⟩) ⟨z_bl0, fun U hU hW => ⟨rfl, z_b0 hK (hP.sub (ws' := []) [] rfl) hU hW⟩⟩ rfl rfl hl.1 rfl (lv_room (Nat.le_of_ble_eq_true rfl)) dX8_isLeft_89 ⟨Nat.zero_le _, Nat.zero_le _⟩) hS (fun q _ h => h.elim) (fun q h => h.elim) (fun r0 u t H locs ht hvm hw hB hz1 hk1 hS => ?_)
        obtain ⟨r69, rfl, h_r69, hw⟩ := hw
        have hP := z_P_all hP hk1
        have hv := hv r69 h_r69 hw
        refine lx_isub hx hb dX8_isLeft_92 ?_
        obtain ⟨hr71, hv⟩ := hv
        refine lx_topi (fun v70 hy72 => ?_)
        have hv := hv v70 hy72
        have h_v70 : z_in v70 := by rw [hy72]; exact hr71
        refine lv_istore (lv' := [(10, .int (z_i v70)), (9, .int (z_i v63)), (8, .int (z_i v60)), (7, .int (z_i 0)), (6, .int (z_i v5)), (5, .int (z_i v1)), (0, .ref y), (1, .int (z_i gi)), (2, .int (z_i sd)), (3, .int (z_i td)), (4, .int (z_i lv))]) hx hb dX8_isLeft_93 hl (by decide) rfl (fun ls hl => ?_)
        refine lv_iload_n hx hb dX8_isLeft_95 rfl (lv_at hl 9 rfl) ?_
        obtain ⟨hp73, hv⟩ := hv
        refine va_calli (va_runS (As := [.int (z_i td)]) (rest := []) ⟨hx, hb, hml, hown, hts⟩ (mt_X8_midY l D cA td h_td hp73) (va_cwS 1 hts gX8_isLeft_X8_midY rfl rfl rfl (by decide +kernel) ⟨Nat.le_of_ble_eq_true rfl, Nat.le_of_ble_eq_true rfl⟩) ⟨z_bl0, fun U hU hW => ⟨rfl, z_b0 hK (hP.sub (ws' := []) [] rfl) hU hW⟩⟩ rfl rfl hl.1 rfl (lv_room (Nat.le_of_ble_eq_true rfl)) dX8_isLeft_96 ⟨Nat.zero_le _, Nat.zero_le _⟩) hS (fun q _ h => h.elim) (fun q h => h.elim) (fun r0 u t H locs ht hvm hw hB hz1 hk1 hS => ?_)
        obtain ⟨r74, rfl, h_r74, hw⟩ := hw
        have hP := z_P_all hP hk1
        have hv := hv r74 h_r74 hw
        refine lv_iload_n hx hb dX8_isLeft_99 rfl (lv_at hl 8 rfl) ?_
        obtain ⟨hp75, hv⟩ := hv
        refine va_calli (va_runS (As := [.int (z_i sd)]) (rest := [.int (z_i r74)]) ⟨hx, hb, hml, hown, hts⟩ (mt_X8_midY l D cA sd h_sd hp75) (va_cwS 1 hts gX8_isLeft_X8_midY rfl rfl rfl (by decide +kernel) ⟨Nat.le_of_ble_eq_true rfl, Nat.le_of_ble_eq_true rfl⟩) ⟨z_bl0, fun U hU hW => ⟨rfl, z_b0 hK (hP.sub (ws' := []) [] rfl) hU hW⟩⟩ rfl rfl hl.1 rfl (lv_room (Nat.le_of_ble_eq_true rfl)) dX8_isLeft_100 ⟨Nat.zero_le _, Nat.zero_le _⟩) hS (fun q _ h => h.elim) (fun q h => h.elim) (fun r0 u t H locs ht hvm hw hB hz1 hk1 hS => ?_)
        obtain ⟨r76, rfl, h_r76, hw⟩ := hw
        have hP := z_P_all hP hk1
        have hv := hv r76 h_r76 hw
        refine lx_isub hx hb dX8_isLeft_103 ?_
        obtain ⟨hr78, hv⟩ := hv
        refine lx_topi (fun v77 hy79 => ?_)
        have hv := hv v77 hy79
        have h_v77 : z_in v77 := by rw [hy79]; exact hr78
        refine lv_istore (lv' := [(11, .int (z_i v77)), (10, .int (z_i v70)), (9, .int (z_i v63)), (8, .int (z_i v60)), (7, .int (z_i 0)), (6, .int (z_i v5)), (5, .int (z_i v1)), (0, .ref y), (1, .int (z_i gi)), (2, .int (z_i sd)), (3, .int (z_i td)), (4, .int (z_i lv))]) hx hb dX8_isLeft_104 hl (by decide) rfl (fun ls hl => ?_)
        refine lv_iload hx hb dX8_isLeft_106 (lv_at hl 1 rfl) ?_
        refine lv_iload hx hb dX8_isLeft_108 (lv_at hl 2 rfl) ?_
        refine lv_iload_n hx hb dX8_isLeft_110 rfl (lv_at hl 9 rfl) ?_
        obtain ⟨hp80, hv⟩ := hv
        refine va_calli (va_runS (As := [.int (z_i sd)]) (rest := [.int (z_i v63), .int (z_i v70)]) ⟨hx, hb, hml, hown, hts⟩ (mt_X8_midY l D cA sd h_sd hp80) (va_cwS 1 hts gX8_isLeft_X8_midY rfl rfl rfl (by decide +kernel) ⟨Nat.le_of_ble_eq_true rfl, Nat.le_of_ble_eq_true rfl⟩) ⟨z_bl0, fun U hU hW => ⟨rfl, z_b0 hK (hP.sub (ws' := []) [] rfl) hU hW⟩⟩ rfl rfl hl.1 rfl (lv_room (Nat.le_of_ble_eq_true rfl)) dX8_isLeft_111 ⟨Nat.zero_le _, Nat.zero_le _⟩) hS (fun q _ h => h.elim) (fun q h => h.elim) (fun r0 u t H locs ht hvm hw hB hz1 hk1 hS => ?_)
        obtain ⟨r81, rfl, h_r81, hw⟩ := hw
        have hP := z_P_all hP hk1
        have hv := hv r81 h_r81 hw
        refine lx_isub hx hb dX8_isLeft_114 ?_
        refine lx_imul hx hb dX8_isLeft_115 ?_
        refine lv_iload hx hb dX8_isLeft_116 (lv_at hl 0 rfl) ?_
        refine lv_iload hx hb dX8_isLeft_118 (lv_at hl 3 rfl) ?_
        refine lv_iload_n hx hb dX8_isLeft_120 rfl (lv_at hl 9 rfl) ?_
        obtain ⟨hp82, hv⟩ := hv
        refine va_calli (va_runS (As := [.int (z_i sd)]) (rest := [.int (z_i v60), .int (z_i v77), .int (z_i (v70 * (v63 - r81)))]) ⟨hx, hb, hml, hown, hts⟩ (mt_X8_midX l D cA sd h_sd hp82) (va_cwS 1 hts gX8_isLeft_X8_midX rfl rfl rfl (by decide +kernel) ⟨Nat.le_of_ble_eq_true rfl, Nat.le_of_ble_eq_true rfl⟩) ⟨z_bl0, fun U hU hW => ⟨rfl, z_b0 hK (hP.sub (ws' := []) [] rfl) hU hW⟩⟩ rfl rfl hl.1 rfl (lv_room (Nat.le_of_ble_eq_true rfl)) dX8_isLeft_121 ⟨Nat.zero_le _, Nat.zero_le _⟩) hS (fun q _ h => h.elim) (fun q h => h.elim) (fun r0 u t H locs ht hvm hw hB hz1 hk1 hS => ?_)
        obtain ⟨r83, rfl, h_r83, hw⟩ := hw
        have hP := z_P_all hP hk1
        have hv := hv r83 h_r83 hw
        refine lx_isub hx hb dX8_isLeft_124 ?_
        refine lx_imul hx hb dX8_isLeft_125 ?_
        refine lx_isub hx hb dX8_isLeft_126 ?_
        obtain ⟨hr84, hv⟩ := hv
        refine lx_if_le (tgt := 134) hx hb dX8_isLeft_127 (by decide) hr84 (fun hc => ?_) (fun hc => ?_)
        · have hv := hv.1 hc
          refine lv_iconst (v := z_i 0) hx hb dX8_isLeft_134 rfl ?_
          exact W.zret (v := z_i 0) hx hb hr (by decide) (fun t ht hW => ⟨⟨z_i 0, (), rfl, ⟨0, rfl, (show z_in 0 from ⟨by decide, by decide⟩), hv⟩, trivial⟩, hS.F ht⟩) hS.2.2 dX8_isLeft_135
        · have hv := hv.2 hc
          refine lv_iconst (v := z_i 1) hx hb dX8_isLeft_130 rfl ?_
          refine lv_goto (tgt := 135) hx hb dX8_isLeft_131 (by decide) ?_
          exact W.zret (v := z_i 1) hx hb hr (by decide) (fun t ht hW => ⟨⟨z_i 1, (), rfl, ⟨1, rfl, (show z_in 1 from ⟨by decide, by decide⟩), hv⟩, trivial⟩, hS.F ht⟩) hS.2.2 dX8_isLeft_135
      · have hv := hv.2 hc
        refine lv_iload hx hb dX8_isLeft_72 (lv_at hl 3 rfl) ?_
        refine lv_goto (tgt := 81) hx hb dX8_isLeft_74 (by decide) ?_
        refine lx_imul hx hb dX8_isLeft_81 ?_
        obtain ⟨hr86, hv⟩ := hv
        refine lx_topi (fun v85 hy87 => ?_)
        have hv := hv v85 hy87
        have h_v85 : z_in v85 := by rw [hy87]; exact hr86
        refine lv_istore (lv' := [(9, .int (z_i v85)), (8, .int (z_i v60)), (7, .int (z_i 0)), (6, .int (z_i v5)), (5, .int (z_i v1)), (0, .ref y), (1, .int (z_i gi)), (2, .int (z_i sd)), (3, .int (z_i td)), (4, .int (z_i lv))]) hx hb dX8_isLeft_82 hl (by decide) rfl (fun ls hl => ?_)
        refine lv_iload_n hx hb dX8_isLeft_84 rfl (lv_at hl 8 rfl) ?_
        obtain ⟨hp88, hv⟩ := hv
        refine va_calli (va_runS (As := [.int (z_i td)]) (rest := []) ⟨hx, hb, hml, hown, hts⟩ (mt_X8_midX l D cA td h_td hp88) (va_cwS 1 hts gX8_isLeft_X8_midX rfl rfl rfl (by decide +kernel) ⟨Nat.le_of_ble_eq_true rfl, Nat.le_of_ble_eq_true rfl⟩) ⟨z_bl0, fun U hU hW => ⟨rfl, z_b0 hK (hP.sub (ws' := []) [] rfl) hU hW⟩⟩ rfl rfl hl.1 rfl (lv_room (Nat.le_of_ble_eq_true rfl)) dX8_isLeft_85 ⟨Nat.zero_le _, Nat.zero_le _⟩) hS (fun q _ h => h.elim) (fun q h => h.elim) (fun r0 u t H locs ht hvm hw hB hz1 hk1 hS => ?_)
        obtain ⟨r89, rfl, h_r89, hw⟩ := hw
        have hP := z_P_all hP hk1
        have hv := hv r89 h_r89 hw
        refine lv_iload_n hx hb dX8_isLeft_88 rfl (lv_at hl 7 rfl) ?_
        obtain ⟨hp90, hv⟩ := hv
        refine va_calli (va_runS (As := [.int (z_i sd)]) (rest := [.int (z_i r89)]) ⟨hx, hb, hml, hown, hts⟩ (mt_X8_midX l D cA sd h_sd hp90) (va_cwS 1 hts gX8_isLeft_X8_midX rfl rfl rfl (by decide +kernel) ⟨Nat.le_of_ble_eq_true rfl, Nat.le_of_ble_eq_true rfl⟩) ⟨z_bl0, fun U hU hW => ⟨rfl, z_b0 hK (hP.sub (ws' := []) [] rfl) hU hW⟩⟩ rfl rfl hl.1 rfl (lv_room (Nat.le_of_ble_eq_true rfl)) dX8_isLeft_89 ⟨Nat.zero_le _, Nat.zero_le _⟩) hS (fun q _ h => h.elim) (fun q h => h.elim) (fun r0 u t H locs ht hvm hw hB hz1 hk1 hS => ?_)
        obtain ⟨r91, rfl, h_r91, hw⟩ := hw
        have hP := z_P_all hP hk1
        have hv := hv r91 h_r91 hw
        refine lx_isub hx hb dX8_isLeft_92 ?_
        obtain ⟨hr93, hv⟩ := hv
        refine lx_topi (fun v92 hy94 => ?_)
        have hv := hv v92 hy94
        have h_v92 : z_in v92 := by rw [hy94]; exact hr93
        refine lv_istore (lv' := [(10, .int (z_i v92)), (9, .int (z_i v85)), (8, .int (z_i v60)), (7, .int (z_i 0)), (6, .int (z_i v5)), (5, .int (z_i v1)), (0, .ref y), (1, .int (z_i gi)), (2, .int (z_i sd)), (3, .int (z_i td)), (4, .int (z_i lv))]) hx hb dX8_isLeft_93 hl (by decide) rfl (fun ls hl => ?_)
        refine lv_iload_n hx hb dX8_isLeft_95 rfl (lv_at hl 9 rfl) ?_
        obtain ⟨hp95, hv⟩ := hv
        refine va_calli (va_runS (As := [.int (z_i td)]) (rest := []) ⟨hx, hb, hml, hown, hts⟩ (mt_X8_midY l D cA td h_td hp95) (va_cwS 1 hts gX8_isLeft_X8_midY rfl rfl rfl (by decide +kernel) ⟨Nat.le_of_ble_eq_true rfl, Nat.le_of_ble_eq_true rfl⟩) ⟨z_bl0, fun U hU hW => ⟨rfl, z_b0 hK (hP.sub (ws' := []) [] rfl) hU hW⟩⟩ rfl rfl hl.1 rfl (lv_room (Nat.le_of_ble_eq_true rfl)) dX8_isLeft_96 ⟨Nat.zero_le _, Nat.zero_le _⟩) hS (fun q _ h => h.elim) (fun q h => h.elim) (fun r0 u t H locs ht hvm hw hB hz1 hk1 hS => ?_)
        obtain ⟨r96, rfl, h_r96, hw⟩ := hw
        have hP := z_P_all hP hk1
        have hv := hv r96 h_r96 hw
        refine lv_iload_n hx hb dX8_isLeft_99 rfl (lv_at hl 8 rfl) ?_
        obtain ⟨hp97, hv⟩ := hv
        refine va_calli (va_runS (As := [.int (z_i sd)]) (rest := [.int (z_i r96)]) ⟨hx, hb, hml, hown, hts⟩ (mt_X8_midY l D cA sd h_sd hp97) (va_cwS 1 hts gX8_isLeft_X8_midY rfl rfl rfl (by decide +kernel) ⟨Nat.le_of_ble_eq_true rfl, Nat.le_of_ble_eq_true rfl⟩) ⟨z_bl0, fun U hU hW => ⟨rfl, z_b0 hK (hP.sub (ws' := []) [] rfl) hU hW⟩⟩ rfl rfl hl.1 rfl (lv_room (Nat.le_of_ble_eq_true rfl)) dX8_isLeft_100 ⟨Nat.zero_le _, Nat.zero_le _⟩) hS (fun q _ h => h.elim) (fun q h => h.elim) (fun r0 u t H locs ht hvm hw hB hz1 hk1 hS => ?_)
        obtain ⟨r98, rfl, h_r98, hw⟩ := hw
        have hP := z_P_all hP hk1
        have hv := hv r98 h_r98 hw
        refine lx_isub hx hb dX8_isLeft_103 ?_
        obtain ⟨hr100, hv⟩ := hv
        refine lx_topi (fun v99 hy101 => ?_)
        have hv := hv v99 hy101
        have h_v99 : z_in v99 := by rw [hy101]; exact hr100
        refine lv_istore (lv' := [(11, .int (z_i v99)), (10, .int (z_i v92)), (9, .int (z_i v85)), (8, .int (z_i v60)), (7, .int (z_i 0)), (6, .int (z_i v5)), (5, .int (z_i v1)), (0, .ref y), (1, .int (z_i gi)), (2, .int (z_i sd)), (3, .int (z_i td)), (4, .int (z_i lv))]) hx hb dX8_isLeft_104 hl (by decide) rfl (fun ls hl => ?_)
        refine lv_iload hx hb dX8_isLeft_106 (lv_at hl 1 rfl) ?_
        refine lv_iload hx hb dX8_isLeft_108 (lv_at hl 2 rfl) ?_
        refine lv_iload_n hx hb dX8_isLeft_110 rfl (lv_at hl 9 rfl) ?_
        obtain ⟨hp102, hv⟩ := hv
        refine va_calli (va_runS (As := [.int (z_i sd)]) (rest := [.int (z_i v85), .int (z_i v92)]) ⟨hx, hb, hml, hown, hts⟩ (mt_X8_midY l D cA sd h_sd hp102) (va_cwS 1 hts gX8_isLeft_X8_midY rfl rfl rfl (by decide +kernel) ⟨Nat.le_of_ble_eq_true rfl, Nat.le_of_ble_eq_true rfl⟩) ⟨z_bl0, fun U hU hW => ⟨rfl, z_b0 hK (hP.sub (ws' := []) [] rfl) hU hW⟩⟩ rfl rfl hl.1 rfl (lv_room (Nat.le_of_ble_eq_true rfl)) dX8_isLeft_111 ⟨Nat.zero_le _, Nat.zero_le _⟩) hS (fun q _ h => h.elim) (fun q h => h.elim) (fun r0 u t H locs ht hvm hw hB hz1 hk1 hS => ?_)
        obtain ⟨r103, rfl, h_r103, hw⟩ := hw
        have hP := z_P_all hP hk1
        have hv := hv r103 h_r103 hw
        refine lx_isub hx hb dX8_isLeft_114 ?_
        refine lx_imul hx hb dX8_isLeft_115 ?_
        refine lv_iload hx hb dX8_isLeft_116 (lv_at hl 0 rfl) ?_
        refine lv_iload hx hb dX8_isLeft_118 (lv_at hl 3 rfl) ?_
        refine lv_iload_n hx hb dX8_isLeft_120 rfl (lv_at hl 9 rfl) ?_
        obtain ⟨hp104, hv⟩ := hv
        refine va_calli (va_runS (As := [.int (z_i sd)]) (rest := [.int (z_i v60), .int (z_i v99), .int (z_i (v92 * (v85 - r103)))]) ⟨hx, hb, hml, hown, hts⟩ (mt_X8_midX l D cA sd h_sd hp104) (va_cwS 1 hts gX8_isLeft_X8_midX rfl rfl rfl (by decide +kernel) ⟨Nat.le_of_ble_eq_true rfl, Nat.le_of_ble_eq_true rfl⟩) ⟨z_bl0, fun U hU hW => ⟨rfl, z_b0 hK (hP.sub (ws' := []) [] rfl) hU hW⟩⟩ rfl rfl hl.1 rfl (lv_room (Nat.le_of_ble_eq_true rfl)) dX8_isLeft_121 ⟨Nat.zero_le _, Nat.zero_le _⟩) hS (fun q _ h => h.elim) (fun q h => h.elim) (fun r0 u t H locs ht hvm hw hB hz1 hk1 hS => ?_)
        obtain ⟨r105, rfl, h_r105, hw⟩ := hw
        have hP := z_P_all hP hk1
        have hv := hv r105 h_r105 hw
        refine lx_isub hx hb dX8_isLeft_124 ?_
        refine lx_imul hx hb dX8_isLeft_125 ?_
        refine lx_isub hx hb dX8_isLeft_126 ?_
        obtain ⟨hr106, hv⟩ := hv
        refine lx_if_le (tgt := 134) hx hb dX8_isLeft_127 (by decide) hr106 (fun hc => ?_) (fun hc => ?_)
        · have hv := hv.1 hc
          refine lv_iconst (v := z_i 0) hx hb dX8_isLeft_134 rfl ?_
          exact W.zret (v := z_i 0) hx hb hr (by decide) (fun t ht hW => ⟨⟨z_i 0, (), rfl, ⟨0, rfl, (show z_in 0 from ⟨by decide, by decide⟩), hv⟩, trivial⟩, hS.F ht⟩) hS.2.2 dX8_isLeft_135
        · have hv := hv.2 hc
          refine lv_iconst (v := z_i 1) hx hb dX8_isLeft_130 rfl ?_
          refine lv_goto (tgt := 135) hx hb dX8_isLeft_131 (by decide) ?_
          exact W.zret (v := z_i 1) hx hb hr (by decide) (fun t ht hW => ⟨⟨z_i 1, (), rfl, ⟨1, rfl, (show z_in 1 from ⟨by decide, by decide⟩), hv⟩, trivial⟩, hS.F ht⟩) hS.2.2 dX8_isLeft_135
  · have hv := hv.2 hc
    refine lv_iconst (v := z_i 1) hx hb dX8_isLeft_28 rfl ?_
    refine lv_goto (tgt := 33) hx hb dX8_isLeft_29 (by decide) ?_
    refine lv_istore (lv' := [(7, .int (z_i 1)), (6, .int (z_i v5)), (5, .int (z_i v1)), (0, .ref y), (1, .int (z_i gi)), (2, .int (z_i sd)), (3, .int (z_i td)), (4, .int (z_i lv))]) hx hb dX8_isLeft_33 hl (by decide) rfl (fun ls hl => ?_)
    refine lv_iconst (v := z_i 2) hx hb dX8_isLeft_35 rfl ?_
    refine lv_iload hx hb dX8_isLeft_36 (lv_at hl 0 rfl) ?_
    refine lx_if_ne (tgt := 48) hx hb dX8_isLeft_38 (by decide) ⟨by decide, by decide⟩ (fun _ => ?_) (fun hc => absurd hc (by decide))
    refine lv_iload hx hb dX8_isLeft_48 (lv_at hl 1 rfl) ?_
    refine lv_goto (tgt := 57) hx hb dX8_isLeft_50 (by decide) ?_
    refine lx_imul hx hb dX8_isLeft_57 ?_
    obtain ⟨hr108, hv⟩ := hv
    refine lx_topi (fun v107 hy109 => ?_)
    have hv := hv v107 hy109
    have h_v107 : z_in v107 := by rw [hy109]; exact hr108
    refine lv_istore (lv' := [(8, .int (z_i v107)), (7, .int (z_i 1)), (6, .int (z_i v5)), (5, .int (z_i v1)), (0, .ref y), (1, .int (z_i gi)), (2, .int (z_i sd)), (3, .int (z_i td)), (4, .int (z_i lv))]) hx hb dX8_isLeft_58 hl (by decide) rfl (fun ls hl => ?_)
    refine lv_iconst (v := z_i 2) hx hb dX8_isLeft_60 rfl ?_
    refine lv_iload hx hb dX8_isLeft_61 (lv_at hl 1 rfl) ?_
    refine lx_if_ne (tgt := 72) hx hb dX8_isLeft_63 (by decide) ⟨by decide, by decide⟩ (fun _ => ?_) (fun hc => absurd hc (by decide))
    refine lv_iload hx hb dX8_isLeft_72 (lv_at hl 3 rfl) ?_
    refine lv_goto (tgt := 81) hx hb dX8_isLeft_74 (by decide) ?_
    refine lx_imul hx hb dX8_isLeft_81 ?_
    obtain ⟨hr111, hv⟩ := hv
    refine lx_topi (fun v110 hy112 => ?_)
    have hv := hv v110 hy112
    have h_v110 : z_in v110 := by rw [hy112]; exact hr111
    refine lv_istore (lv' := [(9, .int (z_i v110)), (8, .int (z_i v107)), (7, .int (z_i 1)), (6, .int (z_i v5)), (5, .int (z_i v1)), (0, .ref y), (1, .int (z_i gi)), (2, .int (z_i sd)), (3, .int (z_i td)), (4, .int (z_i lv))]) hx hb dX8_isLeft_82 hl (by decide) rfl (fun ls hl => ?_)
    refine lv_iload_n hx hb dX8_isLeft_84 rfl (lv_at hl 8 rfl) ?_
    obtain ⟨hp113, hv⟩ := hv
    refine va_calli (va_runS (As := [.int (z_i td)]) (rest := []) ⟨hx, hb, hml, hown, hts⟩ (mt_X8_midX l D cA td h_td hp113) (va_cwS 1 hts gX8_isLeft_X8_midX rfl rfl rfl (by decide +kernel) ⟨Nat.le_of_ble_eq_true rfl, Nat.le_of_ble_eq_true rfl⟩) ⟨z_bl0, fun U hU hW => ⟨rfl, z_b0 hK (hP.sub (ws' := []) [] rfl) hU hW⟩⟩ rfl rfl hl.1 rfl (lv_room (Nat.le_of_ble_eq_true rfl)) dX8_isLeft_85 ⟨Nat.zero_le _, Nat.zero_le _⟩) hS (fun q _ h => h.elim) (fun q h => h.elim) (fun r0 u t H locs ht hvm hw hB hz1 hk1 hS => ?_)
    obtain ⟨r114, rfl, h_r114, hw⟩ := hw
    have hP := z_P_all hP hk1
    have hv := hv r114 h_r114 hw
    refine lv_iload_n hx hb dX8_isLeft_88 rfl (lv_at hl 7 rfl) ?_
    obtain ⟨hp115, hv⟩ := hv
    refine va_calli (va_runS (As := [.int (z_i sd)]) (rest := [.int (z_i r114)]) ⟨hx, hb, hml, hown, hts⟩ (mt_X8_midX l D cA sd h_sd hp115) (va_cwS 1 hts gX8_isLeft_X8_midX rfl rfl rfl (by decide +kernel) ⟨Nat.le_of_ble_eq_true rfl, Nat.le_of_ble_eq_true rfl⟩) ⟨z_bl0, fun U hU hW => ⟨rfl, z_b0 hK (hP.sub (ws' := []) [] rfl) hU hW⟩⟩ rfl rfl hl.1 rfl (lv_room (Nat.le_of_ble_eq_true rfl)) dX8_isLeft_89 ⟨Nat.zero_le _, Nat.zero_le _⟩) hS (fun q _ h => h.elim) (fun q h => h.elim) (fun r0 u t H locs ht hvm hw hB hz1 hk1 hS => ?_)
    obtain ⟨r116, rfl, h_r116, hw⟩ := hw
    have hP := z_P_all hP hk1
    have hv := hv r116 h_r116 hw
    refine lx_isub hx hb dX8_isLeft_92 ?_
    obtain ⟨hr118, hv⟩ := hv
    refine lx_topi (fun v117 hy119 => ?_)
    have hv := hv v117 hy119
    have h_v117 : z_in v117 := by rw [hy119]; exact hr118
    refine lv_istore (lv' := [(10, .int (z_i v117)), (9, .int (z_i v110)), (8, .int (z_i v107)), (7, .int (z_i 1)), (6, .int (z_i v5)), (5, .int (z_i v1)), (0, .ref y), (1, .int (z_i gi)), (2, .int (z_i sd)), (3, .int (z_i td)), (4, .int (z_i lv))]) hx hb dX8_isLeft_93 hl (by decide) rfl (fun ls hl => ?_)
    refine lv_iload_n hx hb dX8_isLeft_95 rfl (lv_at hl 9 rfl) ?_
    obtain ⟨hp120, hv⟩ := hv
    refine va_calli (va_runS (As := [.int (z_i td)]) (rest := []) ⟨hx, hb, hml, hown, hts⟩ (mt_X8_midY l D cA td h_td hp120) (va_cwS 1 hts gX8_isLeft_X8_midY rfl rfl rfl (by decide +kernel) ⟨Nat.le_of_ble_eq_true rfl, Nat.le_of_ble_eq_true rfl⟩) ⟨z_bl0, fun U hU hW => ⟨rfl, z_b0 hK (hP.sub (ws' := []) [] rfl) hU hW⟩⟩ rfl rfl hl.1 rfl (lv_room (Nat.le_of_ble_eq_true rfl)) dX8_isLeft_96 ⟨Nat.zero_le _, Nat.zero_le _⟩) hS (fun q _ h => h.elim) (fun q h => h.elim) (fun r0 u t H locs ht hvm hw hB hz1 hk1 hS => ?_)
    obtain ⟨r121, rfl, h_r121, hw⟩ := hw
    have hP := z_P_all hP hk1
    have hv := hv r121 h_r121 hw
    refine lv_iload_n hx hb dX8_isLeft_99 rfl (lv_at hl 8 rfl) ?_
    obtain ⟨hp122, hv⟩ := hv
    refine va_calli (va_runS (As := [.int (z_i sd)]) (rest := [.int (z_i r121)]) ⟨hx, hb, hml, hown, hts⟩ (mt_X8_midY l D cA sd h_sd hp122) (va_cwS 1 hts gX8_isLeft_X8_midY rfl rfl rfl (by decide +kernel) ⟨Nat.le_of_ble_eq_true rfl, Nat.le_of_ble_eq_true rfl⟩) ⟨z_bl0, fun U hU hW => ⟨rfl, z_b0 hK (hP.sub (ws' := []) [] rfl) hU hW⟩⟩ rfl rfl hl.1 rfl (lv_room (Nat.le_of_ble_eq_true rfl)) dX8_isLeft_100 ⟨Nat.zero_le _, Nat.zero_le _⟩) hS (fun q _ h => h.elim) (fun q h => h.elim) (fun r0 u t H locs ht hvm hw hB hz1 hk1 hS => ?_)
    obtain ⟨r123, rfl, h_r123, hw⟩ := hw
    have hP := z_P_all hP hk1
    have hv := hv r123 h_r123 hw
    refine lx_isub hx hb dX8_isLeft_103 ?_
    obtain ⟨hr125, hv⟩ := hv
    refine lx_topi (fun v124 hy126 => ?_)
    have hv := hv v124 hy126
    have h_v124 : z_in v124 := by rw [hy126]; exact hr125
    refine lv_istore (lv' := [(11, .int (z_i v124)), (10, .int (z_i v117)), (9, .int (z_i v110)), (8, .int (z_i v107)), (7, .int (z_i 1)), (6, .int (z_i v5)), (5, .int (z_i v1)), (0, .ref y), (1, .int (z_i gi)), (2, .int (z_i sd)), (3, .int (z_i td)), (4, .int (z_i lv))]) hx hb dX8_isLeft_104 hl (by decide) rfl (fun ls hl => ?_)
    refine lv_iload hx hb dX8_isLeft_106 (lv_at hl 1 rfl) ?_
    refine lv_iload hx hb dX8_isLeft_108 (lv_at hl 2 rfl) ?_
    refine lv_iload_n hx hb dX8_isLeft_110 rfl (lv_at hl 9 rfl) ?_
    obtain ⟨hp127, hv⟩ := hv
    refine va_calli (va_runS (As := [.int (z_i sd)]) (rest := [.int (z_i v110), .int (z_i v117)]) ⟨hx, hb, hml, hown, hts⟩ (mt_X8_midY l D cA sd h_sd hp127) (va_cwS 1 hts gX8_isLeft_X8_midY rfl rfl rfl (by decide +kernel) ⟨Nat.le_of_ble_eq_true rfl, Nat.le_of_ble_eq_true rfl⟩) ⟨z_bl0, fun U hU hW => ⟨rfl, z_b0 hK (hP.sub (ws' := []) [] rfl) hU hW⟩⟩ rfl rfl hl.1 rfl (lv_room (Nat.le_of_ble_eq_true rfl)) dX8_isLeft_111 ⟨Nat.zero_le _, Nat.zero_le _⟩) hS (fun q _ h => h.elim) (fun q h => h.elim) (fun r0 u t H locs ht hvm hw hB hz1 hk1 hS => ?_)
    obtain ⟨r128, rfl, h_r128, hw⟩ := hw
    have hP := z_P_all hP hk1
    have hv := hv r128 h_r128 hw
    refine lx_isub hx hb dX8_isLeft_114 ?_
    refine lx_imul hx hb dX8_isLeft_115 ?_
    refine lv_iload hx hb dX8_isLeft_116 (lv_at hl 0 rfl) ?_
    refine lv_iload hx hb dX8_isLeft_118 (lv_at hl 3 rfl) ?_
    refine lv_iload_n hx hb dX8_isLeft_120 rfl (lv_at hl 9 rfl) ?_
    obtain ⟨hp129, hv⟩ := hv
    refine va_calli (va_runS (As := [.int (z_i sd)]) (rest := [.int (z_i v107), .int (z_i v124), .int (z_i (v117 * (v110 - r128)))]) ⟨hx, hb, hml, hown, hts⟩ (mt_X8_midX l D cA sd h_sd hp129) (va_cwS 1 hts gX8_isLeft_X8_midX rfl rfl rfl (by decide +kernel) ⟨Nat.le_of_ble_eq_true rfl, Nat.le_of_ble_eq_true rfl⟩) ⟨z_bl0, fun U hU hW => ⟨rfl, z_b0 hK (hP.sub (ws' := []) [] rfl) hU hW⟩⟩ rfl rfl hl.1 rfl (lv_room (Nat.le_of_ble_eq_true rfl)) dX8_isLeft_121 ⟨Nat.zero_le _, Nat.zero_le _⟩) hS (fun q _ h => h.elim) (fun q h => h.elim) (fun r0 u t H locs ht hvm hw hB hz1 hk1 hS => ?_)
    obtain ⟨r130, rfl, h_r130, hw⟩ := hw
    have hP := z_P_all hP hk1
    have hv := hv r130 h_r130 hw
    refine lx_isub hx hb dX8_isLeft_124 ?_
    refine lx_imul hx hb dX8_isLeft_125 ?_
    refine lx_isub hx hb dX8_isLeft_126 ?_
    obtain ⟨hr131, hv⟩ := hv
    refine lx_if_le (tgt := 134) hx hb dX8_isLeft_127 (by decide) hr131 (fun hc => ?_) (fun hc => ?_)
    · have hv := hv.1 hc
      refine lv_iconst (v := z_i 0) hx hb dX8_isLeft_134 rfl ?_
      exact W.zret (v := z_i 0) hx hb hr (by decide) (fun t ht hW => ⟨⟨z_i 0, (), rfl, ⟨0, rfl, (show z_in 0 from ⟨by decide, by decide⟩), hv⟩, trivial⟩, hS.F ht⟩) hS.2.2 dX8_isLeft_135
    · have hv := hv.2 hc
      refine lv_iconst (v := z_i 1) hx hb dX8_isLeft_130 rfl ?_
      refine lv_goto (tgt := 135) hx hb dX8_isLeft_131 (by decide) ?_
      exact W.zret (v := z_i 1) hx hb hr (by decide) (fun t ht hW => ⟨⟨z_i 1, (), rfl, ⟨1, rfl, (show z_in 1 from ⟨by decide, by decide⟩), hv⟩, trivial⟩, hS.F ht⟩) hS.2.2 dX8_isLeft_135
set_option maxHeartbeats 4000000 in
set_option maxRecDepth 100000 in
theorem mt_X8_isLeft (l : Launch) (D : va_G) (cA : Nat → ClassId) (y : Nat) (y_space : Nat) (y_offset : Nat) (y_length : Nat) (ya_units : Nat) (y_units : Nat → Int32) (y_isThere : Nat) (y_levels : Int) (y_level : Nat) (y_lines : Int) (y_lineLevel : Nat) (y_lineUnits : Nat) (y_lineFrom : Nat) (y_lineMany : Nat) (y_isClosed : Nat) (y_insides : Nat) (y_parent : Nat) (y_isHigh : Nat) (y_inBits : Nat) (y_sides : Int) (y_side : Nat) (y_sideA : Nat) (y_sideB : Nat) (y_lineSpace : Int) (y_wasThere : Nat) (y_leads : Nat) (y_isLed : Nat) (y_isOn : Nat) (y_goesTo : Nat) (y_stream : Nat) (y_filled : Nat) (y_isDone : Nat) (y_isReached : Nat) (y_newUnits : Nat) (y_isNew : Nat) (gi : Int) (sd : Int) (td : Int) (lv : Int) (h_y_levels : z_in y_levels) (h_y_lines : z_in y_lines) (h_y_sides : z_in y_sides) (h_y_lineSpace : z_in y_lineSpace) (h_gi : z_in gi) (h_sd : z_in sd) (h_td : z_in td) (h_lv : z_in lv) (hp1 : 0 ≤ gi ∧ gi < 4) (hp2 : 0 ≤ sd ∧ sd < 2560) (hp3 : 0 ≤ td ∧ td < 2560) : Met l yX8_isLeft wsX8_isLeft ({ frames := 1, cells := 0, slots := 0, locals := 23 } : Room) (va_Pc [.ref y, .int (z_i gi), .int (z_i sd), .int (z_i td), .int (z_i lv)] (z_B0 D cA [(y, .inr (6, [.ref y_space, .ref y_offset, .ref y_length, .ref ya_units, .ref y_isThere, .int (z_i y_levels), .ref y_level, .int (z_i y_lines), .ref y_lineLevel, .ref y_lineUnits, .ref y_lineFrom, .ref y_lineMany, .ref y_isClosed, .ref y_insides, .ref y_parent, .ref y_isHigh, .ref y_inBits, .int (z_i y_sides), .ref y_side, .ref y_sideA, .ref y_sideB, .int (z_i y_lineSpace), .ref y_wasThere, .ref y_leads, .ref y_isLed, .ref y_isOn, .ref y_goesTo, .ref y_stream, .ref y_filled, .ref y_isDone, .ref y_isReached, .ref y_newUnits, .ref y_isNew])), (ya_units, .inl (cA 1, 5120, .inl y_units))])) (va_Qi (z_ri (fun (r : Int) => r = z_b (e_lf (fun q => z_g y_units (1280 * gi + q)) lv sd td))) (fun _ _ => True) (fun _ => False)) 0 0 (fun _ => False) := by
  refine wk_X8_isLeft l D cA y y_space y_offset y_length ya_units y_units y_isThere y_levels y_level y_lines y_lineLevel y_lineUnits y_lineFrom y_lineMany y_isClosed y_insides y_parent y_isHigh y_inBits y_sides y_side y_sideA y_sideB y_lineSpace y_wasThere y_leads y_isLed y_isOn y_goesTo y_stream y_filled y_isDone y_isReached y_newUnits y_isNew gi sd td lv h_y_levels h_y_lines h_y_sides h_y_lineSpace h_gi h_sd h_td h_lv (fun (r : Int) => r = z_b (e_lf (fun q => z_g y_units (1280 * gi + q)) lv sd td)) ?_
  unfold vc_X8_isLeft
  have e1 : sd.tdiv 80 = sd / 80 := Int.tdiv_eq_ediv_of_nonneg hp2.1
  have e2 : sd.tmod 2 = sd % 2 := Int.tmod_eq_emod_of_nonneg hp2.1
  have e3 : sd.tdiv 2 = sd / 2 := Int.tdiv_eq_ediv_of_nonneg hp2.1
  have e4 : (sd / 2).tmod 40 = sd / 2 % 40 := Int.tmod_eq_emod_of_nonneg (by omega)
  rw [e1, e2, e3, e4]
  have bx : ∀ q : Int, 0 ≤ q → q < 2560 → 0 ≤ e_mx q ∧ e_mx q ≤ 80 := fun q a b => by
    rcases (show q % 2 = 0 ∨ q % 2 = 1 by omega) with h | h
    · rw [e_mx_e h]; omega
    · rw [e_mx_o h]; omega
  have bY : ∀ q : Int, 0 ≤ q → q < 2560 → 0 ≤ e_my q ∧ e_my q ≤ 80 := fun q a b => by
    rcases (show q % 2 = 0 ∨ q % 2 = 1 by omega) with h | h
    · rw [e_my_e h]; omega
    · rw [e_my_o h]; omega
  have bs := bx sd hp2.1 hp2.2
  have bt := bx td hp3.1 hp3.2
  have cs := bY sd hp2.1 hp2.2
  have ct := bY td hp3.1 hp3.2
  have fin : ∀ v16 v13 : Int, ∀ a b : Int, v16 - e_my sd = a → v13 - e_mx sd = b → ((sd % 2 = 0 ∧ n_hi (fun q => z_g y_units (1280 * gi + q)) lv (sd / 2) = true ∧ a = 0 ∧ b = -1) ∨ (sd % 2 = 0 ∧ n_hi (fun q => z_g y_units (1280 * gi + q)) lv (sd / 2) = false ∧ a = 0 ∧ b = 1) ∨ (sd % 2 = 1 ∧ n_hi (fun q => z_g y_units (1280 * gi + q)) lv (sd / 2) = true ∧ a = -1 ∧ b = 0) ∨ (sd % 2 = 1 ∧ n_hi (fun q => z_g y_units (1280 * gi + q)) lv (sd / 2) = false ∧ a = 1 ∧ b = 0)) →
      (0 ≤ td ∧ td < 2560) ∧ (∀ (r20 : Int), z_in r20 → (r20 = e_mx td) → (0 ≤ sd ∧ sd < 2560) ∧ (∀ (r22 : Int), z_in r22 → (r22 = e_mx sd) → z_in (r20 - r22) ∧ (∀ v23 : Int, v23 = r20 - r22 → (0 ≤ td ∧ td < 2560) ∧ (∀ (r27 : Int), z_in r27 → (r27 = e_my td) → (0 ≤ sd ∧ sd < 2560) ∧ (∀ (r29 : Int), z_in r29 → (r29 = e_my sd) → z_in (r27 - r29) ∧ (∀ v30 : Int, v30 = r27 - r29 → (0 ≤ sd ∧ sd < 2560) ∧ (∀ (r34 : Int), z_in r34 → (r34 = e_my sd) → (0 ≤ sd ∧ sd < 2560) ∧ (∀ (r36 : Int), z_in r36 → (r36 = e_mx sd) → z_in ((v23 * (v16 - r34)) - (v30 * (v13 - r36))) ∧ (((v23 * (v16 - r34)) - (v30 * (v13 - r36)) ≤ 0 → (0 : Int) = z_b (e_lf (fun q => z_g y_units (1280 * gi + q)) lv sd td)) ∧
      ((v23 * (v16 - r34)) - (v30 * (v13 - r36)) > 0 → (1 : Int) = z_b (e_lf (fun q => z_g y_units (1280 * gi + q)) lv sd td))))))))))) := by
    intro v16 v13 a b ha hb hc
    refine ⟨hp3, ?_⟩
    rintro r20 _ rfl
    refine ⟨hp2, ?_⟩
    rintro r22 _ rfl
    refine ⟨⟨by omega, by omega⟩, ?_⟩
    rintro v23 rfl
    refine ⟨hp3, ?_⟩
    rintro r27 _ rfl
    refine ⟨hp2, ?_⟩
    rintro r29 _ rfl
    refine ⟨⟨by omega, by omega⟩, ?_⟩
    rintro v30 rfl
    refine ⟨hp2, ?_⟩
    rintro r34 _ rfl
    refine ⟨hp2, ?_⟩
    rintro r36 _ rfl
    rw [ha, hb]
    have E := e_prod (dx := e_mx td - e_mx sd) (dy := e_my td - e_my sd) (a := a) (b := b) (r := 0)
    rcases hc with ⟨h, ho, h1, h2⟩ | ⟨h, ho, h1, h2⟩ | ⟨h, ho, h1, h2⟩ | ⟨h, ho, h1, h2⟩
    · rw [E.2.1 ⟨h1, h2⟩, (e_lf_e h).1 ho]
      refine ⟨⟨by omega, by omega⟩, fun q => ?_, fun q => ?_⟩
      · rw [decide_eq_false (by omega)]; rfl
      · rw [decide_eq_true (by omega)]; rfl
    · rw [E.1 ⟨h1, h2⟩, (e_lf_e h).2 ho]
      refine ⟨⟨by omega, by omega⟩, fun q => ?_, fun q => ?_⟩
      · rw [decide_eq_false (by omega)]; rfl
      · rw [decide_eq_true (by omega)]; rfl
    · rw [E.2.2.2 ⟨h1, h2⟩, (e_lf_o h).1 ho]
      refine ⟨⟨by omega, by omega⟩, fun q => ?_, fun q => ?_⟩
      · rw [decide_eq_false (by omega)]; rfl
      · rw [decide_eq_true (by omega)]; rfl
    · rw [E.2.2.1 ⟨h1, h2⟩, (e_lf_o h).2 ho]
      refine ⟨⟨by omega, by omega⟩, fun q => ?_, fun q => ?_⟩
      · rw [decide_eq_false (by omega)]; rfl
      · rw [decide_eq_true (by omega)]; rfl
  refine ⟨⟨by omega, by omega⟩, ?_⟩
  rintro v1 rfl
  refine ⟨⟨by omega, by omega⟩, ⟨by omega, by omega⟩, ?_⟩
  rintro v5 rfl
  refine ⟨hp1, ⟨by omega, by omega⟩, ⟨by omega, by omega⟩, ?_⟩
  rintro r11 _ h11
  have hn : 40 * (sd / 80) + sd / 2 % 40 = sd / 2 := by omega
  rw [hn] at h11
  have own : n_hi (fun q => z_g y_units (1280 * gi + q)) lv (sd / 2) = decide (r11 ≥ lv) := by rw [h11]; rfl
  refine ⟨fun q => ⟨⟨by omega, by omega⟩, fun o => ⟨⟨by omega, by omega⟩, ?_⟩, fun o => ⟨⟨by omega, by omega⟩, ?_⟩⟩, fun q => ⟨⟨by omega, by omega⟩, ?_⟩⟩
  · rintro v13 rfl
    refine ⟨fun o2 => absurd o2 (by omega), fun o2 => ⟨⟨by omega, by omega⟩, ?_⟩⟩
    rintro v16 rfl
    exact fin _ _ 0 1 (by rw [e_my_e o2]; omega) (by rw [e_mx_e o2]; omega) (Or.inr (Or.inl ⟨o2, by rw [own]; exact decide_eq_false (by omega), rfl, rfl⟩))
  · rintro v13 rfl
    refine ⟨fun o2 => ⟨⟨by omega, by omega⟩, ?_⟩, fun o2 => absurd o2 (by omega)⟩
    rintro v16 rfl
    exact fin _ _ 1 0 (by rw [e_my_o o]; omega) (by rw [e_mx_o o]; omega) (Or.inr (Or.inr (Or.inr ⟨o, by rw [own]; exact decide_eq_false (by omega), rfl, rfl⟩)))
  · rintro v13 rfl
    refine ⟨⟨by omega, by omega⟩, ?_⟩
    rintro v16 rfl
    rcases (show sd % 2 = 0 ∨ sd % 2 = 1 by omega) with o | o
    · exact fin _ _ 0 (-1) (by rw [e_my_e o]; omega) (by rw [e_mx_e o]; omega) (Or.inl ⟨o, by rw [own]; exact decide_eq_true q, rfl, rfl⟩)
    · exact fin _ _ (-1) 0 (by rw [e_my_o o]; omega) (by rw [e_mx_o o]; omega) (Or.inr (Or.inr (Or.inl ⟨o, by rw [own]; exact decide_eq_true q, rfl, rfl⟩)))
def vc_X8_joins (y_units : Nat → Int32) (y_leads : Nat → Int32) (y_isLed : Nat → Int32) (gi : Int) (sd : Int) (td : Int) (lv : Int) (Q : (Nat → Int32) → (Nat → Int32) → Prop) : Prop :=
(0 ≤ gi ∧ gi < 4) ∧ (0 ≤ sd ∧ sd < 2560) ∧ (0 ≤ td ∧ td < 2560) ∧ (∀ (r4 : Int), z_in r4 → (r4 = z_b (e_lf (fun q => z_g y_units (1280 * gi + q)) lv sd td)) → ((r4 = 0 → ((r4 = 0 → (0 ≤ td ∧ td < 2560) ∧ (∀ f6 : Nat → Int32, f6 = z_s y_leads td sd → (0 ≤ sd ∧ sd < 2560) ∧ (∀ f9 : Nat → Int32, f9 = z_s y_isLed sd 1 → Q f6 f9))) ∧
(r4 ≠ 0 → (0 ≤ td ∧ td < 2560) ∧ (∀ f12 : Nat → Int32, f12 = z_s y_leads td td → (∀ f14 : Nat → Int32, f14 = z_s y_isLed td 1 → Q f12 f14))))) ∧
(r4 ≠ 0 → ((r4 = 0 → (0 ≤ sd ∧ sd < 2560) ∧ (∀ f17 : Nat → Int32, f17 = z_s y_leads sd sd → (∀ f19 : Nat → Int32, f19 = z_s y_isLed sd 1 → Q f17 f19))) ∧
(r4 ≠ 0 → (0 ≤ sd ∧ sd < 2560) ∧ (∀ f22 : Nat → Int32, f22 = z_s y_leads sd td → (0 ≤ td ∧ td < 2560) ∧ (∀ f25 : Nat → Int32, f25 = z_s y_isLed td 1 → Q f22 f25)))))))
set_option maxHeartbeats 4000000 in
set_option maxRecDepth 100000 in
theorem wk_X8_joins (l : Launch) (D : va_G) (cA : Nat → ClassId) (y : Nat) (y_space : Nat) (y_offset : Nat) (y_length : Nat) (ya_units : Nat) (y_units : Nat → Int32) (y_isThere : Nat) (y_levels : Int) (y_level : Nat) (y_lines : Int) (y_lineLevel : Nat) (y_lineUnits : Nat) (y_lineFrom : Nat) (y_lineMany : Nat) (y_isClosed : Nat) (y_insides : Nat) (y_parent : Nat) (y_isHigh : Nat) (y_inBits : Nat) (y_sides : Int) (y_side : Nat) (y_sideA : Nat) (y_sideB : Nat) (y_lineSpace : Int) (y_wasThere : Nat) (ya_leads : Nat) (y_leads : Nat → Int32) (ya_isLed : Nat) (y_isLed : Nat → Int32) (y_isOn : Nat) (y_goesTo : Nat) (y_stream : Nat) (y_filled : Nat) (y_isDone : Nat) (y_isReached : Nat) (y_newUnits : Nat) (y_isNew : Nat) (gi : Int) (sd : Int) (td : Int) (lv : Int) (h_y_levels : z_in y_levels) (h_y_lines : z_in y_lines) (h_y_sides : z_in y_sides) (h_y_lineSpace : z_in y_lineSpace) (h_gi : z_in gi) (h_sd : z_in sd) (h_td : z_in td) (h_lv : z_in lv) (Q : (Nat → Int32) → (Nat → Int32) → Prop) (hv : vc_X8_joins y_units y_leads y_isLed gi sd td lv Q) : Met l yX8_joins wsX8_joins ({ frames := 2, cells := 0, slots := 0, locals := 54 } : Room) (va_Pc [.ref y, .int (z_i gi), .int (z_i sd), .int (z_i td), .int (z_i lv)] (z_M0 D cA [(y, .inr (6, [.ref y_space, .ref y_offset, .ref y_length, .ref ya_units, .ref y_isThere, .int (z_i y_levels), .ref y_level, .int (z_i y_lines), .ref y_lineLevel, .ref y_lineUnits, .ref y_lineFrom, .ref y_lineMany, .ref y_isClosed, .ref y_insides, .ref y_parent, .ref y_isHigh, .ref y_inBits, .int (z_i y_sides), .ref y_side, .ref y_sideA, .ref y_sideB, .int (z_i y_lineSpace), .ref y_wasThere, .ref ya_leads, .ref ya_isLed, .ref y_isOn, .ref y_goesTo, .ref y_stream, .ref y_filled, .ref y_isDone, .ref y_isReached, .ref y_newUnits, .ref y_isNew])), (ya_units, .inl (cA 1, 5120, .inl y_units)), (ya_leads, .inl (cA 1, 2560, .inl y_leads)), (ya_isLed, .inl (cA 3, 2560, .inl y_isLed))])) (va_Qv (fun (u : (Nat → Int32) × (Nat → Int32)) => Q u.1 u.2) (fun (u : (Nat → Int32) × (Nat → Int32)) t => va_P D vwCl [(y, .inr (6, [.ref y_space, .ref y_offset, .ref y_length, .ref ya_units, .ref y_isThere, .int (z_i y_levels), .ref y_level, .int (z_i y_lines), .ref y_lineLevel, .ref y_lineUnits, .ref y_lineFrom, .ref y_lineMany, .ref y_isClosed, .ref y_insides, .ref y_parent, .ref y_isHigh, .ref y_inBits, .int (z_i y_sides), .ref y_side, .ref y_sideA, .ref y_sideB, .int (z_i y_lineSpace), .ref y_wasThere, .ref ya_leads, .ref ya_isLed, .ref y_isOn, .ref y_goesTo, .ref y_stream, .ref y_filled, .ref y_isDone, .ref y_isReached, .ref y_newUnits, .ref y_isNew])), (ya_units, .inl (cA 1, 5120, .inl y_units)), (ya_leads, .inl (cA 1, 2560, .inl u.1)), (ya_isLed, .inl (cA 3, 2560, .inl u.2))] t.heap) (z_A [(y, .inr (6, [.ref y_space, .ref y_offset, .ref y_length, .ref ya_units, .ref y_isThere, .int (z_i y_levels), .ref y_level, .int (z_i y_lines), .ref y_lineLevel, .ref y_lineUnits, .ref y_lineFrom, .ref y_lineMany, .ref y_isClosed, .ref y_insides, .ref y_parent, .ref y_isHigh, .ref y_inBits, .int (z_i y_sides), .ref y_side, .ref y_sideA, .ref y_sideB, .int (z_i y_lineSpace), .ref y_wasThere, .ref ya_leads, .ref ya_isLed, .ref y_isOn, .ref y_goesTo, .ref y_stream, .ref y_filled, .ref y_isDone, .ref y_isReached, .ref y_newUnits, .ref y_isNew])), (ya_units, .inl (cA 1, 5120, .inl y_units)), (ya_leads, .inl (cA 1, 2560, .inl y_leads)), (ya_isLed, .inl (cA 3, 2560, .inl y_isLed))])) 0 0 (z_A [(y, .inr (6, [.ref y_space, .ref y_offset, .ref y_length, .ref ya_units, .ref y_isThere, .int (z_i y_levels), .ref y_level, .int (z_i y_lines), .ref y_lineLevel, .ref y_lineUnits, .ref y_lineFrom, .ref y_lineMany, .ref y_isClosed, .ref y_insides, .ref y_parent, .ref y_isHigh, .ref y_inBits, .int (z_i y_sides), .ref y_side, .ref y_sideA, .ref y_sideB, .int (z_i y_lineSpace), .ref y_wasThere, .ref ya_leads, .ref ya_isLed, .ref y_isOn, .ref y_goesTo, .ref y_stream, .ref y_filled, .ref y_isDone, .ref y_isReached, .ref y_newUnits, .ref y_isNew])), (ya_units, .inl (cA 1, 5120, .inl y_units)), (ya_leads, .inl (cA 1, 2560, .inl y_leads)), (ya_isLed, .inl (cA 3, 2560, .inl y_isLed))]) := by
  unfold vc_X8_joins at hv
  refine Met.ofW (cc := cX8_joins) (maxL := 8) (ret := none) (by decide +kernel) rfl ?_
  intro p e s m args below meth c s₁ B hml hv0
  obtain ⟨rfl, hK, hP, hD0⟩ := hv0
  have hx := B.exec
  have hb := B.bytes
  have hr := B.returns
  have hts := atoms_spec (ws := wsX8_joins) B.pre
  have hown : s.vm.findClass RX8 = some m.cls := findClass_of_methodNamed B.named
  have hlocks := B.notSynchronized
  have hD := z_D_self hD0
  generalize hAe : z_A [(y, .inr (6, [.ref y_space, .ref y_offset, .ref y_length, .ref ya_units, .ref y_isThere, .int (z_i y_levels), .ref y_level, .int (z_i y_lines), .ref y_lineLevel, .ref y_lineUnits, .ref y_lineFrom, .ref y_lineMany, .ref y_isClosed, .ref y_insides, .ref y_parent, .ref y_isHigh, .ref y_inBits, .int (z_i y_sides), .ref y_side, .ref y_sideA, .ref y_sideB, .int (z_i y_lineSpace), .ref y_wasThere, .ref ya_leads, .ref ya_isLed, .ref y_isOn, .ref y_goesTo, .ref y_stream, .ref y_filled, .ref y_isDone, .ref y_isReached, .ref y_newUnits, .ref y_isNew])), (ya_units, .inl (cA 1, 5120, .inl y_units)), (ya_leads, .inl (cA 1, 2560, .inl y_leads)), (ya_isLed, .inl (cA 3, 2560, .inl y_isLed))] = A at *
  have hS : va_S A s.heap s.heap [] := va_S.rf
  have hl := lv_entry ([.ref y, .int (z_i gi), .int (z_i sd), .int (z_i td), .int (z_i lv)]) (n := 8) (Nat.le_of_ble_eq_true rfl)
  rw [lg_entry_eq]
  generalize (lg_sl ([.ref y, .int (z_i gi), .int (z_i sd), .int (z_i td), .int (z_i lv)]) ++ List.replicate (8 - (lg_sl ([.ref y, .int (z_i gi), .int (z_i sd), .int (z_i td), .int (z_i lv)])).length) Slot.unset).toArray = ls at hl ⊢
  have hl : lv_has ls 8 [(0, .ref y), (1, .int (z_i gi)), (2, .int (z_i sd)), (3, .int (z_i td)), (4, .int (z_i lv))] := hl
  refine lv_aload_n hx hb dX8_joins_0 rfl (lv_at hl 0 rfl) ?_
  refine lv_iload_n hx hb dX8_joins_1 rfl (lv_at hl 1 rfl) ?_
  refine lv_iload_n hx hb dX8_joins_2 rfl (lv_at hl 2 rfl) ?_
  refine lv_iload_n hx hb dX8_joins_3 rfl (lv_at hl 3 rfl) ?_
  refine lv_iload hx hb dX8_joins_4 (lv_at hl 4 rfl) ?_
  obtain ⟨hp1, hv⟩ := hv
  obtain ⟨hp2, hv⟩ := hv
  obtain ⟨hp3, hv⟩ := hv
  refine va_calli (va_runV (As := [.int (z_i gi), .int (z_i sd), .int (z_i td), .int (z_i lv)]) (rest := []) ⟨hx, hb, hml, hown, hts⟩ (mt_X8_isLeft l D cA y y_space y_offset y_length ya_units y_units y_isThere y_levels y_level y_lines y_lineLevel y_lineUnits y_lineFrom y_lineMany y_isClosed y_insides y_parent y_isHigh y_inBits y_sides y_side y_sideA y_sideB y_lineSpace y_wasThere ya_leads ya_isLed y_isOn y_goesTo y_stream y_filled y_isDone y_isReached y_newUnits y_isNew gi sd td lv h_y_levels h_y_lines h_y_sides h_y_lineSpace h_gi h_sd h_td h_lv hp1 hp2 hp3) (cwV 4 hts gX8_joins_X8_isLeft rfl rfl rfl (by decide +kernel) ⟨Nat.le_of_ble_eq_true rfl, Nat.le_of_ble_eq_true rfl⟩) ⟨z_bl0, va_recv hK hP (ci := 6) (q0 := 0) rfl rfl, fun U hU hW => ⟨rfl, z_b0 hK (hP.sub (ws' := [(y, .inr (6, [.ref y_space, .ref y_offset, .ref y_length, .ref ya_units, .ref y_isThere, .int (z_i y_levels), .ref y_level, .int (z_i y_lines), .ref y_lineLevel, .ref y_lineUnits, .ref y_lineFrom, .ref y_lineMany, .ref y_isClosed, .ref y_insides, .ref y_parent, .ref y_isHigh, .ref y_inBits, .int (z_i y_sides), .ref y_side, .ref y_sideA, .ref y_sideB, .int (z_i y_lineSpace), .ref y_wasThere, .ref ya_leads, .ref ya_isLed, .ref y_isOn, .ref y_goesTo, .ref y_stream, .ref y_filled, .ref y_isDone, .ref y_isReached, .ref y_newUnits, .ref y_isNew])), (ya_units, .inl (cA 1, 5120, .inl y_units))]) [0, 1] rfl) hU hW⟩⟩ rfl rfl hl.1 rfl (lv_room (Nat.le_of_ble_eq_true rfl)) dX8_joins_6 ⟨Nat.zero_le _, Nat.zero_le _⟩) hS (fun q _ h => h.elim) (fun q h => h.elim) (fun r0 u t H locs ht hvm hw hB hz1 hk1 hS => ?_)
  obtain ⟨r4, rfl, h_r4, hw⟩ := hw
  have hP := z_P_all hP hk1
  have hv := hv r4 h_r4 hw
  refine lv_istore (lv' := [(5, .int (z_i r4)), (0, .ref y), (1, .int (z_i gi)), (2, .int (z_i sd)), (3, .int (z_i td)), (4, .int (z_i lv))]) hx hb dX8_joins_9 hl (by decide) rfl (fun ls hl => ?_)
  refine lv_iload hx hb dX8_joins_11 (lv_at hl 0 rfl) ?_
  refine lx_if_eq (tgt := 20) hx hb dX8_joins_13 (by decide) h_r4 (fun hc => ?_) (fun hc => ?_)
  · have hv := hv.1 hc
    refine lv_iload_n hx hb dX8_joins_20 rfl (lv_at hl 4 rfl) ?_
    refine lv_istore (lv' := [(6, .int (z_i td)), (5, .int (z_i r4)), (0, .ref y), (1, .int (z_i gi)), (2, .int (z_i sd)), (3, .int (z_i td)), (4, .int (z_i lv))]) hx hb dX8_joins_21 hl (by decide) rfl (fun ls hl => ?_)
    refine lv_iload hx hb dX8_joins_23 (lv_at hl 1 rfl) ?_
    refine lx_if_eq (tgt := 32) hx hb dX8_joins_25 (by decide) h_r4 (fun hc => ?_) (fun hc => ?_)
    · have hv := hv.1 hc
      refine lv_iload_n hx hb dX8_joins_32 rfl (lv_at hl 4 rfl) ?_
      refine lv_istore (lv' := [(7, .int (z_i sd)), (6, .int (z_i td)), (5, .int (z_i r4)), (0, .ref y), (1, .int (z_i gi)), (2, .int (z_i sd)), (3, .int (z_i td)), (4, .int (z_i lv))]) hx hb dX8_joins_33 hl (by decide) rfl (fun ls hl => ?_)
      refine lv_aload_n hx hb dX8_joins_35 rfl (lv_at hl 3 rfl) ?_
      refine va_get (D := D) (ci := 6) (v := .ref ya_leads) (C := RX8) (T := TX8) (N := 33) hx hb hts (fun w h => List.mem_cons_of_mem _ (List.mem_append_right _ h)) hown hK hP 0 rfl rfl 23 (by decide) (hts (.fieldLink RX8 69 "ContourSheetsModel" "leads" "[I") (by decide +kernel)) (fun _ h9 => h9) rfl dX8_joins_36 ?_
      refine lv_iload hx hb dX8_joins_39 (lv_at hl 1 rfl) ?_
      refine lv_iload hx hb dX8_joins_41 (lv_at hl 0 rfl) ?_
      obtain ⟨hi5, hv⟩ := hv
      refine lx_iast hx hb hK hP hD hS 2 1 rfl rfl (by decide) hi5.1 hi5.2 dX8_joins_43 (fun H locs hP hD hS => ?_)
      obtain ⟨f6, hy7⟩ : ∃ y : Nat → Int32, y = z_s y_leads td sd := ⟨_, rfl⟩
      have hv := hv f6 hy7
      have hP : va_P D vwCl [(y, .inr (6, [.ref y_space, .ref y_offset, .ref y_length, .ref ya_units, .ref y_isThere, .int (z_i y_levels), .ref y_level, .int (z_i y_lines), .ref y_lineLevel, .ref y_lineUnits, .ref y_lineFrom, .ref y_lineMany, .ref y_isClosed, .ref y_insides, .ref y_parent, .ref y_isHigh, .ref y_inBits, .int (z_i y_sides), .ref y_side, .ref y_sideA, .ref y_sideB, .int (z_i y_lineSpace), .ref y_wasThere, .ref ya_leads, .ref ya_isLed, .ref y_isOn, .ref y_goesTo, .ref y_stream, .ref y_filled, .ref y_isDone, .ref y_isReached, .ref y_newUnits, .ref y_isNew])), (ya_units, .inl (cA 1, 5120, .inl y_units)), (ya_leads, .inl (cA 1, 2560, .inl f6)), (ya_isLed, .inl (cA 3, 2560, .inl y_isLed))] H := by rw [hy7]; exact hP
      have hD : va_D A [(y, .inr (6, [.ref y_space, .ref y_offset, .ref y_length, .ref ya_units, .ref y_isThere, .int (z_i y_levels), .ref y_level, .int (z_i y_lines), .ref y_lineLevel, .ref y_lineUnits, .ref y_lineFrom, .ref y_lineMany, .ref y_isClosed, .ref y_insides, .ref y_parent, .ref y_isHigh, .ref y_inBits, .int (z_i y_sides), .ref y_side, .ref y_sideA, .ref y_sideB, .int (z_i y_lineSpace), .ref y_wasThere, .ref ya_leads, .ref ya_isLed, .ref y_isOn, .ref y_goesTo, .ref y_stream, .ref y_filled, .ref y_isDone, .ref y_isReached, .ref y_newUnits, .ref y_isNew])), (ya_units, .inl (cA 1, 5120, .inl y_units)), (ya_leads, .inl (cA 1, 2560, .inl f6)), (ya_isLed, .inl (cA 3, 2560, .inl y_isLed))] := by rw [hy7]; exact hD
      refine lv_aload_n hx hb dX8_joins_44 rfl (lv_at hl 3 rfl) ?_
      refine va_get (D := D) (ci := 6) (v := .ref ya_isLed) (C := RX8) (T := TX8) (N := 33) hx hb hts (fun w h => List.mem_cons_of_mem _ (List.mem_append_right _ h)) hown hK hP 0 rfl rfl 24 (by decide) (hts (.fieldLink RX8 72 "ContourSheetsModel" "isLed" "[Z") (by decide +kernel)) (fun _ h9 => h9) rfl dX8_joins_45 ?_
      refine lv_iload hx hb dX8_joins_48 (lv_at hl 0 rfl) ?_
      refine lv_iconst (v := z_i 1) hx hb dX8_joins_50 rfl ?_
      obtain ⟨hi8, hv⟩ := hv
      refine lx_zast hx hb hK hP hD hS 3 3 rfl rfl (by decide) hi8.1 hi8.2 (by decide) dX8_joins_51 (fun H locs hP hD hS => ?_)
      obtain ⟨f9, hy10⟩ : ∃ y : Nat → Int32, y = z_s y_isLed sd 1 := ⟨_, rfl⟩
      have hv := hv f9 hy10
      have hP : va_P D vwCl [(y, .inr (6, [.ref y_space, .ref y_offset, .ref y_length, .ref ya_units, .ref y_isThere, .int (z_i y_levels), .ref y_level, .int (z_i y_lines), .ref y_lineLevel, .ref y_lineUnits, .ref y_lineFrom, .ref y_lineMany, .ref y_isClosed, .ref y_insides, .ref y_parent, .ref y_isHigh, .ref y_inBits, .int (z_i y_sides), .ref y_side, .ref y_sideA, .ref y_sideB, .int (z_i y_lineSpace), .ref y_wasThere, .ref ya_leads, .ref ya_isLed, .ref y_isOn, .ref y_goesTo, .ref y_stream, .ref y_filled, .ref y_isDone, .ref y_isReached, .ref y_newUnits, .ref y_isNew])), (ya_units, .inl (cA 1, 5120, .inl y_units)), (ya_leads, .inl (cA 1, 2560, .inl f6)), (ya_isLed, .inl (cA 3, 2560, .inl f9))] H := by rw [hy10]; exact hP
      have hD : va_D A [(y, .inr (6, [.ref y_space, .ref y_offset, .ref y_length, .ref ya_units, .ref y_isThere, .int (z_i y_levels), .ref y_level, .int (z_i y_lines), .ref y_lineLevel, .ref y_lineUnits, .ref y_lineFrom, .ref y_lineMany, .ref y_isClosed, .ref y_insides, .ref y_parent, .ref y_isHigh, .ref y_inBits, .int (z_i y_sides), .ref y_side, .ref y_sideA, .ref y_sideB, .int (z_i y_lineSpace), .ref y_wasThere, .ref ya_leads, .ref ya_isLed, .ref y_isOn, .ref y_goesTo, .ref y_stream, .ref y_filled, .ref y_isDone, .ref y_isReached, .ref y_newUnits, .ref y_isNew])), (ya_units, .inl (cA 1, 5120, .inl y_units)), (ya_leads, .inl (cA 1, 2560, .inl f6)), (ya_isLed, .inl (cA 3, 2560, .inl f9))] := by rw [hy10]; exact hD
      exact W.vret hx hb hr (fun t ht hW => ⟨⟨(f6, f9), rfl, hv, z_pt hP ht⟩, hS.F ht⟩) hS.2.2 dX8_joins_52
    · have hv := hv.2 hc
      refine lv_iload_n hx hb dX8_joins_28 rfl (lv_at hl 5 rfl) ?_
      refine lv_goto (tgt := 33) hx hb dX8_joins_29 (by decide) ?_
      refine lv_istore (lv' := [(7, .int (z_i td)), (6, .int (z_i td)), (5, .int (z_i r4)), (0, .ref y), (1, .int (z_i gi)), (2, .int (z_i sd)), (3, .int (z_i td)), (4, .int (z_i lv))]) hx hb dX8_joins_33 hl (by decide) rfl (fun ls hl => ?_)
      refine lv_aload_n hx hb dX8_joins_35 rfl (lv_at hl 3 rfl) ?_
      refine va_get (D := D) (ci := 6) (v := .ref ya_leads) (C := RX8) (T := TX8) (N := 33) hx hb hts (fun w h => List.mem_cons_of_mem _ (List.mem_append_right _ h)) hown hK hP 0 rfl rfl 23 (by decide) (hts (.fieldLink RX8 69 "ContourSheetsModel" "leads" "[I") (by decide +kernel)) (fun _ h9 => h9) rfl dX8_joins_36 ?_
      refine lv_iload hx hb dX8_joins_39 (lv_at hl 1 rfl) ?_
      refine lv_iload hx hb dX8_joins_41 (lv_at hl 0 rfl) ?_
      obtain ⟨hi11, hv⟩ := hv
      refine lx_iast hx hb hK hP hD hS 2 1 rfl rfl (by decide) hi11.1 hi11.2 dX8_joins_43 (fun H locs hP hD hS => ?_)
      obtain ⟨f12, hy13⟩ : ∃ y : Nat → Int32, y = z_s y_leads td td := ⟨_, rfl⟩
      have hv := hv f12 hy13
      have hP : va_P D vwCl [(y, .inr (6, [.ref y_space, .ref y_offset, .ref y_length, .ref ya_units, .ref y_isThere, .int (z_i y_levels), .ref y_level, .int (z_i y_lines), .ref y_lineLevel, .ref y_lineUnits, .ref y_lineFrom, .ref y_lineMany, .ref y_isClosed, .ref y_insides, .ref y_parent, .ref y_isHigh, .ref y_inBits, .int (z_i y_sides), .ref y_side, .ref y_sideA, .ref y_sideB, .int (z_i y_lineSpace), .ref y_wasThere, .ref ya_leads, .ref ya_isLed, .ref y_isOn, .ref y_goesTo, .ref y_stream, .ref y_filled, .ref y_isDone, .ref y_isReached, .ref y_newUnits, .ref y_isNew])), (ya_units, .inl (cA 1, 5120, .inl y_units)), (ya_leads, .inl (cA 1, 2560, .inl f12)), (ya_isLed, .inl (cA 3, 2560, .inl y_isLed))] H := by rw [hy13]; exact hP
      have hD : va_D A [(y, .inr (6, [.ref y_space, .ref y_offset, .ref y_length, .ref ya_units, .ref y_isThere, .int (z_i y_levels), .ref y_level, .int (z_i y_lines), .ref y_lineLevel, .ref y_lineUnits, .ref y_lineFrom, .ref y_lineMany, .ref y_isClosed, .ref y_insides, .ref y_parent, .ref y_isHigh, .ref y_inBits, .int (z_i y_sides), .ref y_side, .ref y_sideA, .ref y_sideB, .int (z_i y_lineSpace), .ref y_wasThere, .ref ya_leads, .ref ya_isLed, .ref y_isOn, .ref y_goesTo, .ref y_stream, .ref y_filled, .ref y_isDone, .ref y_isReached, .ref y_newUnits, .ref y_isNew])), (ya_units, .inl (cA 1, 5120, .inl y_units)), (ya_leads, .inl (cA 1, 2560, .inl f12)), (ya_isLed, .inl (cA 3, 2560, .inl y_isLed))] := by rw [hy13]; exact hD
      refine lv_aload_n hx hb dX8_joins_44 rfl (lv_at hl 3 rfl) ?_
      refine va_get (D := D) (ci := 6) (v := .ref ya_isLed) (C := RX8) (T := TX8) (N := 33) hx hb hts (fun w h => List.mem_cons_of_mem _ (List.mem_append_right _ h)) hown hK hP 0 rfl rfl 24 (by decide) (hts (.fieldLink RX8 72 "ContourSheetsModel" "isLed" "[Z") (by decide +kernel)) (fun _ h9 => h9) rfl dX8_joins_45 ?_
      refine lv_iload hx hb dX8_joins_48 (lv_at hl 0 rfl) ?_
      refine lv_iconst (v := z_i 1) hx hb dX8_joins_50 rfl ?_
      refine lx_zast hx hb hK hP hD hS 3 3 rfl rfl (by decide) hi11.1 hi11.2 (by decide) dX8_joins_51 (fun H locs hP hD hS => ?_)
      obtain ⟨f14, hy15⟩ : ∃ y : Nat → Int32, y = z_s y_isLed td 1 := ⟨_, rfl⟩
      have hv := hv f14 hy15
      have hP : va_P D vwCl [(y, .inr (6, [.ref y_space, .ref y_offset, .ref y_length, .ref ya_units, .ref y_isThere, .int (z_i y_levels), .ref y_level, .int (z_i y_lines), .ref y_lineLevel, .ref y_lineUnits, .ref y_lineFrom, .ref y_lineMany, .ref y_isClosed, .ref y_insides, .ref y_parent, .ref y_isHigh, .ref y_inBits, .int (z_i y_sides), .ref y_side, .ref y_sideA, .ref y_sideB, .int (z_i y_lineSpace), .ref y_wasThere, .ref ya_leads, .ref ya_isLed, .ref y_isOn, .ref y_goesTo, .ref y_stream, .ref y_filled, .ref y_isDone, .ref y_isReached, .ref y_newUnits, .ref y_isNew])), (ya_units, .inl (cA 1, 5120, .inl y_units)), (ya_leads, .inl (cA 1, 2560, .inl f12)), (ya_isLed, .inl (cA 3, 2560, .inl f14))] H := by rw [hy15]; exact hP
      have hD : va_D A [(y, .inr (6, [.ref y_space, .ref y_offset, .ref y_length, .ref ya_units, .ref y_isThere, .int (z_i y_levels), .ref y_level, .int (z_i y_lines), .ref y_lineLevel, .ref y_lineUnits, .ref y_lineFrom, .ref y_lineMany, .ref y_isClosed, .ref y_insides, .ref y_parent, .ref y_isHigh, .ref y_inBits, .int (z_i y_sides), .ref y_side, .ref y_sideA, .ref y_sideB, .int (z_i y_lineSpace), .ref y_wasThere, .ref ya_leads, .ref ya_isLed, .ref y_isOn, .ref y_goesTo, .ref y_stream, .ref y_filled, .ref y_isDone, .ref y_isReached, .ref y_newUnits, .ref y_isNew])), (ya_units, .inl (cA 1, 5120, .inl y_units)), (ya_leads, .inl (cA 1, 2560, .inl f12)), (ya_isLed, .inl (cA 3, 2560, .inl f14))] := by rw [hy15]; exact hD
      exact W.vret hx hb hr (fun t ht hW => ⟨⟨(f12, f14), rfl, hv, z_pt hP ht⟩, hS.F ht⟩) hS.2.2 dX8_joins_52
  · have hv := hv.2 hc
    refine lv_iload_n hx hb dX8_joins_16 rfl (lv_at hl 3 rfl) ?_
    refine lv_goto (tgt := 21) hx hb dX8_joins_17 (by decide) ?_
    refine lv_istore (lv' := [(6, .int (z_i sd)), (5, .int (z_i r4)), (0, .ref y), (1, .int (z_i gi)), (2, .int (z_i sd)), (3, .int (z_i td)), (4, .int (z_i lv))]) hx hb dX8_joins_21 hl (by decide) rfl (fun ls hl => ?_)
    refine lv_iload hx hb dX8_joins_23 (lv_at hl 1 rfl) ?_
    refine lx_if_eq (tgt := 32) hx hb dX8_joins_25 (by decide) h_r4 (fun hc => ?_) (fun hc => ?_)
    · have hv := hv.1 hc
      refine lv_iload_n hx hb dX8_joins_32 rfl (lv_at hl 4 rfl) ?_
      refine lv_istore (lv' := [(7, .int (z_i sd)), (6, .int (z_i sd)), (5, .int (z_i r4)), (0, .ref y), (1, .int (z_i gi)), (2, .int (z_i sd)), (3, .int (z_i td)), (4, .int (z_i lv))]) hx hb dX8_joins_33 hl (by decide) rfl (fun ls hl => ?_)
      refine lv_aload_n hx hb dX8_joins_35 rfl (lv_at hl 3 rfl) ?_
      refine va_get (D := D) (ci := 6) (v := .ref ya_leads) (C := RX8) (T := TX8) (N := 33) hx hb hts (fun w h => List.mem_cons_of_mem _ (List.mem_append_right _ h)) hown hK hP 0 rfl rfl 23 (by decide) (hts (.fieldLink RX8 69 "ContourSheetsModel" "leads" "[I") (by decide +kernel)) (fun _ h9 => h9) rfl dX8_joins_36 ?_
      refine lv_iload hx hb dX8_joins_39 (lv_at hl 1 rfl) ?_
      refine lv_iload hx hb dX8_joins_41 (lv_at hl 0 rfl) ?_
      obtain ⟨hi16, hv⟩ := hv
      refine lx_iast hx hb hK hP hD hS 2 1 rfl rfl (by decide) hi16.1 hi16.2 dX8_joins_43 (fun H locs hP hD hS => ?_)
      obtain ⟨f17, hy18⟩ : ∃ y : Nat → Int32, y = z_s y_leads sd sd := ⟨_, rfl⟩
      have hv := hv f17 hy18
      have hP : va_P D vwCl [(y, .inr (6, [.ref y_space, .ref y_offset, .ref y_length, .ref ya_units, .ref y_isThere, .int (z_i y_levels), .ref y_level, .int (z_i y_lines), .ref y_lineLevel, .ref y_lineUnits, .ref y_lineFrom, .ref y_lineMany, .ref y_isClosed, .ref y_insides, .ref y_parent, .ref y_isHigh, .ref y_inBits, .int (z_i y_sides), .ref y_side, .ref y_sideA, .ref y_sideB, .int (z_i y_lineSpace), .ref y_wasThere, .ref ya_leads, .ref ya_isLed, .ref y_isOn, .ref y_goesTo, .ref y_stream, .ref y_filled, .ref y_isDone, .ref y_isReached, .ref y_newUnits, .ref y_isNew])), (ya_units, .inl (cA 1, 5120, .inl y_units)), (ya_leads, .inl (cA 1, 2560, .inl f17)), (ya_isLed, .inl (cA 3, 2560, .inl y_isLed))] H := by rw [hy18]; exact hP
      have hD : va_D A [(y, .inr (6, [.ref y_space, .ref y_offset, .ref y_length, .ref ya_units, .ref y_isThere, .int (z_i y_levels), .ref y_level, .int (z_i y_lines), .ref y_lineLevel, .ref y_lineUnits, .ref y_lineFrom, .ref y_lineMany, .ref y_isClosed, .ref y_insides, .ref y_parent, .ref y_isHigh, .ref y_inBits, .int (z_i y_sides), .ref y_side, .ref y_sideA, .ref y_sideB, .int (z_i y_lineSpace), .ref y_wasThere, .ref ya_leads, .ref ya_isLed, .ref y_isOn, .ref y_goesTo, .ref y_stream, .ref y_filled, .ref y_isDone, .ref y_isReached, .ref y_newUnits, .ref y_isNew])), (ya_units, .inl (cA 1, 5120, .inl y_units)), (ya_leads, .inl (cA 1, 2560, .inl f17)), (ya_isLed, .inl (cA 3, 2560, .inl y_isLed))] := by rw [hy18]; exact hD
      refine lv_aload_n hx hb dX8_joins_44 rfl (lv_at hl 3 rfl) ?_
      refine va_get (D := D) (ci := 6) (v := .ref ya_isLed) (C := RX8) (T := TX8) (N := 33) hx hb hts (fun w h => List.mem_cons_of_mem _ (List.mem_append_right _ h)) hown hK hP 0 rfl rfl 24 (by decide) (hts (.fieldLink RX8 72 "ContourSheetsModel" "isLed" "[Z") (by decide +kernel)) (fun _ h9 => h9) rfl dX8_joins_45 ?_
      refine lv_iload hx hb dX8_joins_48 (lv_at hl 0 rfl) ?_
      refine lv_iconst (v := z_i 1) hx hb dX8_joins_50 rfl ?_
      refine lx_zast hx hb hK hP hD hS 3 3 rfl rfl (by decide) hi16.1 hi16.2 (by decide) dX8_joins_51 (fun H locs hP hD hS => ?_)
      obtain ⟨f19, hy20⟩ : ∃ y : Nat → Int32, y = z_s y_isLed sd 1 := ⟨_, rfl⟩
      have hv := hv f19 hy20
      have hP : va_P D vwCl [(y, .inr (6, [.ref y_space, .ref y_offset, .ref y_length, .ref ya_units, .ref y_isThere, .int (z_i y_levels), .ref y_level, .int (z_i y_lines), .ref y_lineLevel, .ref y_lineUnits, .ref y_lineFrom, .ref y_lineMany, .ref y_isClosed, .ref y_insides, .ref y_parent, .ref y_isHigh, .ref y_inBits, .int (z_i y_sides), .ref y_side, .ref y_sideA, .ref y_sideB, .int (z_i y_lineSpace), .ref y_wasThere, .ref ya_leads, .ref ya_isLed, .ref y_isOn, .ref y_goesTo, .ref y_stream, .ref y_filled, .ref y_isDone, .ref y_isReached, .ref y_newUnits, .ref y_isNew])), (ya_units, .inl (cA 1, 5120, .inl y_units)), (ya_leads, .inl (cA 1, 2560, .inl f17)), (ya_isLed, .inl (cA 3, 2560, .inl f19))] H := by rw [hy20]; exact hP
      have hD : va_D A [(y, .inr (6, [.ref y_space, .ref y_offset, .ref y_length, .ref ya_units, .ref y_isThere, .int (z_i y_levels), .ref y_level, .int (z_i y_lines), .ref y_lineLevel, .ref y_lineUnits, .ref y_lineFrom, .ref y_lineMany, .ref y_isClosed, .ref y_insides, .ref y_parent, .ref y_isHigh, .ref y_inBits, .int (z_i y_sides), .ref y_side, .ref y_sideA, .ref y_sideB, .int (z_i y_lineSpace), .ref y_wasThere, .ref ya_leads, .ref ya_isLed, .ref y_isOn, .ref y_goesTo, .ref y_stream, .ref y_filled, .ref y_isDone, .ref y_isReached, .ref y_newUnits, .ref y_isNew])), (ya_units, .inl (cA 1, 5120, .inl y_units)), (ya_leads, .inl (cA 1, 2560, .inl f17)), (ya_isLed, .inl (cA 3, 2560, .inl f19))] := by rw [hy20]; exact hD
      exact W.vret hx hb hr (fun t ht hW => ⟨⟨(f17, f19), rfl, hv, z_pt hP ht⟩, hS.F ht⟩) hS.2.2 dX8_joins_52
    · have hv := hv.2 hc
      refine lv_iload_n hx hb dX8_joins_28 rfl (lv_at hl 5 rfl) ?_
      refine lv_goto (tgt := 33) hx hb dX8_joins_29 (by decide) ?_
      refine lv_istore (lv' := [(7, .int (z_i td)), (6, .int (z_i sd)), (5, .int (z_i r4)), (0, .ref y), (1, .int (z_i gi)), (2, .int (z_i sd)), (3, .int (z_i td)), (4, .int (z_i lv))]) hx hb dX8_joins_33 hl (by decide) rfl (fun ls hl => ?_)
      refine lv_aload_n hx hb dX8_joins_35 rfl (lv_at hl 3 rfl) ?_
      refine va_get (D := D) (ci := 6) (v := .ref ya_leads) (C := RX8) (T := TX8) (N := 33) hx hb hts (fun w h => List.mem_cons_of_mem _ (List.mem_append_right _ h)) hown hK hP 0 rfl rfl 23 (by decide) (hts (.fieldLink RX8 69 "ContourSheetsModel" "leads" "[I") (by decide +kernel)) (fun _ h9 => h9) rfl dX8_joins_36 ?_
      refine lv_iload hx hb dX8_joins_39 (lv_at hl 1 rfl) ?_
      refine lv_iload hx hb dX8_joins_41 (lv_at hl 0 rfl) ?_
      obtain ⟨hi21, hv⟩ := hv
      refine lx_iast hx hb hK hP hD hS 2 1 rfl rfl (by decide) hi21.1 hi21.2 dX8_joins_43 (fun H locs hP hD hS => ?_)
      obtain ⟨f22, hy23⟩ : ∃ y : Nat → Int32, y = z_s y_leads sd td := ⟨_, rfl⟩
      have hv := hv f22 hy23
      have hP : va_P D vwCl [(y, .inr (6, [.ref y_space, .ref y_offset, .ref y_length, .ref ya_units, .ref y_isThere, .int (z_i y_levels), .ref y_level, .int (z_i y_lines), .ref y_lineLevel, .ref y_lineUnits, .ref y_lineFrom, .ref y_lineMany, .ref y_isClosed, .ref y_insides, .ref y_parent, .ref y_isHigh, .ref y_inBits, .int (z_i y_sides), .ref y_side, .ref y_sideA, .ref y_sideB, .int (z_i y_lineSpace), .ref y_wasThere, .ref ya_leads, .ref ya_isLed, .ref y_isOn, .ref y_goesTo, .ref y_stream, .ref y_filled, .ref y_isDone, .ref y_isReached, .ref y_newUnits, .ref y_isNew])), (ya_units, .inl (cA 1, 5120, .inl y_units)), (ya_leads, .inl (cA 1, 2560, .inl f22)), (ya_isLed, .inl (cA 3, 2560, .inl y_isLed))] H := by rw [hy23]; exact hP
      have hD : va_D A [(y, .inr (6, [.ref y_space, .ref y_offset, .ref y_length, .ref ya_units, .ref y_isThere, .int (z_i y_levels), .ref y_level, .int (z_i y_lines), .ref y_lineLevel, .ref y_lineUnits, .ref y_lineFrom, .ref y_lineMany, .ref y_isClosed, .ref y_insides, .ref y_parent, .ref y_isHigh, .ref y_inBits, .int (z_i y_sides), .ref y_side, .ref y_sideA, .ref y_sideB, .int (z_i y_lineSpace), .ref y_wasThere, .ref ya_leads, .ref ya_isLed, .ref y_isOn, .ref y_goesTo, .ref y_stream, .ref y_filled, .ref y_isDone, .ref y_isReached, .ref y_newUnits, .ref y_isNew])), (ya_units, .inl (cA 1, 5120, .inl y_units)), (ya_leads, .inl (cA 1, 2560, .inl f22)), (ya_isLed, .inl (cA 3, 2560, .inl y_isLed))] := by rw [hy23]; exact hD
      refine lv_aload_n hx hb dX8_joins_44 rfl (lv_at hl 3 rfl) ?_
      refine va_get (D := D) (ci := 6) (v := .ref ya_isLed) (C := RX8) (T := TX8) (N := 33) hx hb hts (fun w h => List.mem_cons_of_mem _ (List.mem_append_right _ h)) hown hK hP 0 rfl rfl 24 (by decide) (hts (.fieldLink RX8 72 "ContourSheetsModel" "isLed" "[Z") (by decide +kernel)) (fun _ h9 => h9) rfl dX8_joins_45 ?_
      refine lv_iload hx hb dX8_joins_48 (lv_at hl 0 rfl) ?_
      refine lv_iconst (v := z_i 1) hx hb dX8_joins_50 rfl ?_
      obtain ⟨hi24, hv⟩ := hv
      refine lx_zast hx hb hK hP hD hS 3 3 rfl rfl (by decide) hi24.1 hi24.2 (by decide) dX8_joins_51 (fun H locs hP hD hS => ?_)
      obtain ⟨f25, hy26⟩ : ∃ y : Nat → Int32, y = z_s y_isLed td 1 := ⟨_, rfl⟩
      have hv := hv f25 hy26
      have hP : va_P D vwCl [(y, .inr (6, [.ref y_space, .ref y_offset, .ref y_length, .ref ya_units, .ref y_isThere, .int (z_i y_levels), .ref y_level, .int (z_i y_lines), .ref y_lineLevel, .ref y_lineUnits, .ref y_lineFrom, .ref y_lineMany, .ref y_isClosed, .ref y_insides, .ref y_parent, .ref y_isHigh, .ref y_inBits, .int (z_i y_sides), .ref y_side, .ref y_sideA, .ref y_sideB, .int (z_i y_lineSpace), .ref y_wasThere, .ref ya_leads, .ref ya_isLed, .ref y_isOn, .ref y_goesTo, .ref y_stream, .ref y_filled, .ref y_isDone, .ref y_isReached, .ref y_newUnits, .ref y_isNew])), (ya_units, .inl (cA 1, 5120, .inl y_units)), (ya_leads, .inl (cA 1, 2560, .inl f22)), (ya_isLed, .inl (cA 3, 2560, .inl f25))] H := by rw [hy26]; exact hP
      have hD : va_D A [(y, .inr (6, [.ref y_space, .ref y_offset, .ref y_length, .ref ya_units, .ref y_isThere, .int (z_i y_levels), .ref y_level, .int (z_i y_lines), .ref y_lineLevel, .ref y_lineUnits, .ref y_lineFrom, .ref y_lineMany, .ref y_isClosed, .ref y_insides, .ref y_parent, .ref y_isHigh, .ref y_inBits, .int (z_i y_sides), .ref y_side, .ref y_sideA, .ref y_sideB, .int (z_i y_lineSpace), .ref y_wasThere, .ref ya_leads, .ref ya_isLed, .ref y_isOn, .ref y_goesTo, .ref y_stream, .ref y_filled, .ref y_isDone, .ref y_isReached, .ref y_newUnits, .ref y_isNew])), (ya_units, .inl (cA 1, 5120, .inl y_units)), (ya_leads, .inl (cA 1, 2560, .inl f22)), (ya_isLed, .inl (cA 3, 2560, .inl f25))] := by rw [hy26]; exact hD
      exact W.vret hx hb hr (fun t ht hW => ⟨⟨(f22, f25), rfl, hv, z_pt hP ht⟩, hS.F ht⟩) hS.2.2 dX8_joins_52
set_option maxHeartbeats 4000000 in
set_option maxRecDepth 100000 in
theorem mt_X8_joins (l : Launch) (D : va_G) (cA : Nat → ClassId) (y : Nat) (y_space : Nat) (y_offset : Nat) (y_length : Nat) (ya_units : Nat) (y_units : Nat → Int32) (y_isThere : Nat) (y_levels : Int) (y_level : Nat) (y_lines : Int) (y_lineLevel : Nat) (y_lineUnits : Nat) (y_lineFrom : Nat) (y_lineMany : Nat) (y_isClosed : Nat) (y_insides : Nat) (y_parent : Nat) (y_isHigh : Nat) (y_inBits : Nat) (y_sides : Int) (y_side : Nat) (y_sideA : Nat) (y_sideB : Nat) (y_lineSpace : Int) (y_wasThere : Nat) (ya_leads : Nat) (y_leads : Nat → Int32) (ya_isLed : Nat) (y_isLed : Nat → Int32) (y_isOn : Nat) (y_goesTo : Nat) (y_stream : Nat) (y_filled : Nat) (y_isDone : Nat) (y_isReached : Nat) (y_newUnits : Nat) (y_isNew : Nat) (gi : Int) (sd : Int) (td : Int) (lv : Int) (h_y_levels : z_in y_levels) (h_y_lines : z_in y_lines) (h_y_sides : z_in y_sides) (h_y_lineSpace : z_in y_lineSpace) (h_gi : z_in gi) (h_sd : z_in sd) (h_td : z_in td) (h_lv : z_in lv) (hp1 : 0 ≤ gi ∧ gi < 4) (hp2 : 0 ≤ sd ∧ sd < 2560) (hp3 : 0 ≤ td ∧ td < 2560) : Met l yX8_joins wsX8_joins ({ frames := 2, cells := 0, slots := 0, locals := 54 } : Room) (va_Pc [.ref y, .int (z_i gi), .int (z_i sd), .int (z_i td), .int (z_i lv)] (z_M0 D cA [(y, .inr (6, [.ref y_space, .ref y_offset, .ref y_length, .ref ya_units, .ref y_isThere, .int (z_i y_levels), .ref y_level, .int (z_i y_lines), .ref y_lineLevel, .ref y_lineUnits, .ref y_lineFrom, .ref y_lineMany, .ref y_isClosed, .ref y_insides, .ref y_parent, .ref y_isHigh, .ref y_inBits, .int (z_i y_sides), .ref y_side, .ref y_sideA, .ref y_sideB, .int (z_i y_lineSpace), .ref y_wasThere, .ref ya_leads, .ref ya_isLed, .ref y_isOn, .ref y_goesTo, .ref y_stream, .ref y_filled, .ref y_isDone, .ref y_isReached, .ref y_newUnits, .ref y_isNew])), (ya_units, .inl (cA 1, 5120, .inl y_units)), (ya_leads, .inl (cA 1, 2560, .inl y_leads)), (ya_isLed, .inl (cA 3, 2560, .inl y_isLed))])) (va_Qv (fun (u : (Nat → Int32) × (Nat → Int32)) => (fun (y_leads' : (Nat → Int32)) (y_isLed' : (Nat → Int32)) => (e_lf (fun q => z_g y_units (1280 * gi + q)) lv sd td = true → y_leads' = z_s y_leads sd td ∧ y_isLed' = z_s y_isLed td 1) ∧ (¬ e_lf (fun q => z_g y_units (1280 * gi + q)) lv sd td = true → y_leads' = z_s y_leads td sd ∧ y_isLed' = z_s y_isLed sd 1)) u.1 u.2) (fun (u : (Nat → Int32) × (Nat → Int32)) t => va_P D vwCl [(y, .inr (6, [.ref y_space, .ref y_offset, .ref y_length, .ref ya_units, .ref y_isThere, .int (z_i y_levels), .ref y_level, .int (z_i y_lines), .ref y_lineLevel, .ref y_lineUnits, .ref y_lineFrom, .ref y_lineMany, .ref y_isClosed, .ref y_insides, .ref y_parent, .ref y_isHigh, .ref y_inBits, .int (z_i y_sides), .ref y_side, .ref y_sideA, .ref y_sideB, .int (z_i y_lineSpace), .ref y_wasThere, .ref ya_leads, .ref ya_isLed, .ref y_isOn, .ref y_goesTo, .ref y_stream, .ref y_filled, .ref y_isDone, .ref y_isReached, .ref y_newUnits, .ref y_isNew])), (ya_units, .inl (cA 1, 5120, .inl y_units)), (ya_leads, .inl (cA 1, 2560, .inl u.1)), (ya_isLed, .inl (cA 3, 2560, .inl u.2))] t.heap) (z_A [(y, .inr (6, [.ref y_space, .ref y_offset, .ref y_length, .ref ya_units, .ref y_isThere, .int (z_i y_levels), .ref y_level, .int (z_i y_lines), .ref y_lineLevel, .ref y_lineUnits, .ref y_lineFrom, .ref y_lineMany, .ref y_isClosed, .ref y_insides, .ref y_parent, .ref y_isHigh, .ref y_inBits, .int (z_i y_sides), .ref y_side, .ref y_sideA, .ref y_sideB, .int (z_i y_lineSpace), .ref y_wasThere, .ref ya_leads, .ref ya_isLed, .ref y_isOn, .ref y_goesTo, .ref y_stream, .ref y_filled, .ref y_isDone, .ref y_isReached, .ref y_newUnits, .ref y_isNew])), (ya_units, .inl (cA 1, 5120, .inl y_units)), (ya_leads, .inl (cA 1, 2560, .inl y_leads)), (ya_isLed, .inl (cA 3, 2560, .inl y_isLed))])) 0 0 (z_A [(y, .inr (6, [.ref y_space, .ref y_offset, .ref y_length, .ref ya_units, .ref y_isThere, .int (z_i y_levels), .ref y_level, .int (z_i y_lines), .ref y_lineLevel, .ref y_lineUnits, .ref y_lineFrom, .ref y_lineMany, .ref y_isClosed, .ref y_insides, .ref y_parent, .ref y_isHigh, .ref y_inBits, .int (z_i y_sides), .ref y_side, .ref y_sideA, .ref y_sideB, .int (z_i y_lineSpace), .ref y_wasThere, .ref ya_leads, .ref ya_isLed, .ref y_isOn, .ref y_goesTo, .ref y_stream, .ref y_filled, .ref y_isDone, .ref y_isReached, .ref y_newUnits, .ref y_isNew])), (ya_units, .inl (cA 1, 5120, .inl y_units)), (ya_leads, .inl (cA 1, 2560, .inl y_leads)), (ya_isLed, .inl (cA 3, 2560, .inl y_isLed))]) := by
  refine wk_X8_joins l D cA y y_space y_offset y_length ya_units y_units y_isThere y_levels y_level y_lines y_lineLevel y_lineUnits y_lineFrom y_lineMany y_isClosed y_insides y_parent y_isHigh y_inBits y_sides y_side y_sideA y_sideB y_lineSpace y_wasThere ya_leads y_leads ya_isLed y_isLed y_isOn y_goesTo y_stream y_filled y_isDone y_isReached y_newUnits y_isNew gi sd td lv h_y_levels h_y_lines h_y_sides h_y_lineSpace h_gi h_sd h_td h_lv (fun (y_leads' : (Nat → Int32)) (y_isLed' : (Nat → Int32)) => (e_lf (fun q => z_g y_units (1280 * gi + q)) lv sd td = true → y_leads' = z_s y_leads sd td ∧ y_isLed' = z_s y_isLed td 1) ∧ (¬ e_lf (fun q => z_g y_units (1280 * gi + q)) lv sd td = true → y_leads' = z_s y_leads td sd ∧ y_isLed' = z_s y_isLed sd 1)) ?_
  unfold vc_X8_joins
  refine ⟨hp1, hp2, hp3, ?_⟩
  rintro r4 _ rfl
  refine ⟨fun h => ⟨fun _ => ⟨hp3, ?_⟩, fun h2 => absurd h h2⟩, fun h => ⟨fun h2 => absurd h2 h, fun _ => ⟨hp2, ?_⟩⟩⟩
  · rintro f6 rfl
    refine ⟨hp2, ?_⟩
    rintro f9 rfl
    exact ⟨fun q => absurd (zb_f h) (by rw [q]; decide), fun _ => ⟨rfl, rfl⟩⟩
  · rintro f6 rfl
    refine ⟨hp3, ?_⟩
    rintro f9 rfl
    exact ⟨fun _ => ⟨rfl, rfl⟩, fun q => absurd (zb_t h) q⟩
def vc_X8_cell (y_units : Nat → Int32) (y_leads : Nat → Int32) (y_isLed : Nat → Int32) (gi : Int) (i : Int) (j : Int) (lv : Int) (Q : (Nat → Int32) → (Nat → Int32) → Prop) : Prop :=
z_in (2 * ((40 * i) + j)) ∧ (∀ v1 : Int, v1 = 2 * ((40 * i) + j) → (0 ≤ gi ∧ gi < 4) ∧ (0 ≤ i ∧ i < 32) ∧ (0 ≤ j ∧ j < 40) ∧ (∀ (r7 : Int), z_in r7 → (r7 = z_g y_units (1280 * gi + (40 * i + j))) → ((r7 < lv → z_in (j + 1) ∧ (0 ≤ gi ∧ gi < 4) ∧ (0 ≤ i ∧ i < 32) ∧ (0 ≤ (j + 1) ∧ (j + 1) < 40) ∧ (∀ (r12 : Int), z_in r12 → (r12 = z_g y_units (1280 * gi + (40 * i + (j + 1)))) → ((r12 < lv → z_in (i + 1) ∧ (0 ≤ gi ∧ gi < 4) ∧ (0 ≤ (i + 1) ∧ (i + 1) < 32) ∧ (0 ≤ j ∧ j < 40) ∧ (∀ (r17 : Int), z_in r17 → (r17 = z_g y_units (1280 * gi + (40 * (i + 1) + j))) → ((r17 < lv → (0 ≤ gi ∧ gi < 4) ∧ (0 ≤ (i + 1) ∧ (i + 1) < 32) ∧ (0 ≤ (j + 1) ∧ (j + 1) < 40) ∧ (∀ (r21 : Int), z_in r21 → (r21 = z_g y_units (1280 * gi + (40 * (i + 1) + (j + 1)))) → ((r21 < lv → Q y_leads y_isLed) ∧
(r21 ≥ lv → z_in (v1 + 80) ∧ ((v1 + 80 < 0 → Q y_leads y_isLed) ∧
(v1 + 80 ≥ 0 → z_in (v1 + 3) ∧ ((v1 + 3 < 0 → Q y_leads y_isLed) ∧
(v1 + 3 ≥ 0 → (0 ≤ gi ∧ gi < 4) ∧ (0 ≤ (v1 + 80) ∧ (v1 + 80) < 2560) ∧ (0 ≤ (v1 + 3) ∧ (v1 + 3) < 2560) ∧ (∀ (c27 : Nat → Int32) (c28 : Nat → Int32), ((e_lf (fun q => z_g y_units (1280 * gi + q)) lv (v1 + 80) (v1 + 3) = true → c27 = z_s y_leads (v1 + 80) (v1 + 3) ∧ c28 = z_s y_isLed (v1 + 3) 1) ∧ (¬ e_lf (fun q => z_g y_units (1280 * gi + q)) lv (v1 + 80) (v1 + 3) = true → c27 = z_s y_leads (v1 + 3) (v1 + 80) ∧ c28 = z_s y_isLed (v1 + 80) 1)) → Q c27 c28))))))))) ∧
(r17 ≥ lv → (0 ≤ gi ∧ gi < 4) ∧ (0 ≤ (i + 1) ∧ (i + 1) < 32) ∧ (0 ≤ (j + 1) ∧ (j + 1) < 40) ∧ (∀ (r32 : Int), z_in r32 → (r32 = z_g y_units (1280 * gi + (40 * (i + 1) + (j + 1)))) → ((r32 < lv → z_in (v1 + 80) ∧ ((v1 + 80 < 0 → Q y_leads y_isLed) ∧
(v1 + 80 ≥ 0 → z_in (v1 + 1) ∧ ((v1 + 1 < 0 → Q y_leads y_isLed) ∧
(v1 + 1 ≥ 0 → (0 ≤ gi ∧ gi < 4) ∧ (0 ≤ (v1 + 80) ∧ (v1 + 80) < 2560) ∧ (0 ≤ (v1 + 1) ∧ (v1 + 1) < 2560) ∧ (∀ (c38 : Nat → Int32) (c39 : Nat → Int32), ((e_lf (fun q => z_g y_units (1280 * gi + q)) lv (v1 + 80) (v1 + 1) = true → c38 = z_s y_leads (v1 + 80) (v1 + 1) ∧ c39 = z_s y_isLed (v1 + 1) 1) ∧ (¬ e_lf (fun q => z_g y_units (1280 * gi + q)) lv (v1 + 80) (v1 + 1) = true → c38 = z_s y_leads (v1 + 1) (v1 + 80) ∧ c39 = z_s y_isLed (v1 + 80) 1)) → Q c38 c39)))))) ∧
(r32 ≥ lv → z_in (v1 + 3) ∧ ((v1 + 3 < 0 → Q y_leads y_isLed) ∧
(v1 + 3 ≥ 0 → z_in (v1 + 1) ∧ ((v1 + 1 < 0 → Q y_leads y_isLed) ∧
(v1 + 1 ≥ 0 → (0 ≤ gi ∧ gi < 4) ∧ (0 ≤ (v1 + 3) ∧ (v1 + 3) < 2560) ∧ (0 ≤ (v1 + 1) ∧ (v1 + 1) < 2560) ∧ (∀ (c45 : Nat → Int32) (c46 : Nat → Int32), ((e_lf (fun q => z_g y_units (1280 * gi + q)) lv (v1 + 3) (v1 + 1) = true → c45 = z_s y_leads (v1 + 3) (v1 + 1) ∧ c46 = z_s y_isLed (v1 + 1) 1) ∧ (¬ e_lf (fun q => z_g y_units (1280 * gi + q)) lv (v1 + 3) (v1 + 1) = true → c45 = z_s y_leads (v1 + 1) (v1 + 3) ∧ c46 = z_s y_isLed (v1 + 3) 1)) → Q c45 c46)))))))))))) ∧
(r12 ≥ lv → z_in (i + 1) ∧ (0 ≤ gi ∧ gi < 4) ∧ (0 ≤ (i + 1) ∧ (i + 1) < 32) ∧ (0 ≤ j ∧ j < 40) ∧ (∀ (r51 : Int), z_in r51 → (r51 = z_g y_units (1280 * gi + (40 * (i + 1) + j))) → ((r51 < lv → (0 ≤ gi ∧ gi < 4) ∧ (0 ≤ (i + 1) ∧ (i + 1) < 32) ∧ (0 ≤ (j + 1) ∧ (j + 1) < 40) ∧ (∀ (r55 : Int), z_in r55 → (r55 = z_g y_units (1280 * gi + (40 * (i + 1) + (j + 1)))) → ((r55 < lv → z_in (v1 + 3) ∧ ((v1 + 3 < 0 → Q y_leads y_isLed) ∧
(v1 + 3 ≥ 0 → ((v1 < 0 → Q y_leads y_isLed) ∧
(v1 ≥ 0 → (0 ≤ gi ∧ gi < 4) ∧ (0 ≤ (v1 + 3) ∧ (v1 + 3) < 2560) ∧ (0 ≤ v1 ∧ v1 < 2560) ∧ (∀ (c60 : Nat → Int32) (c61 : Nat → Int32), ((e_lf (fun q => z_g y_units (1280 * gi + q)) lv (v1 + 3) v1 = true → c60 = z_s y_leads (v1 + 3) v1 ∧ c61 = z_s y_isLed v1 1) ∧ (¬ e_lf (fun q => z_g y_units (1280 * gi + q)) lv (v1 + 3) v1 = true → c60 = z_s y_leads v1 (v1 + 3) ∧ c61 = z_s y_isLed (v1 + 3) 1)) → Q c60 c61)))))) ∧
(r55 ≥ lv → z_in (v1 + 80) ∧ ((v1 + 80 < 0 → Q y_leads y_isLed) ∧
(v1 + 80 ≥ 0 → ((v1 < 0 → Q y_leads y_isLed) ∧
(v1 ≥ 0 → (0 ≤ gi ∧ gi < 4) ∧ (0 ≤ (v1 + 80) ∧ (v1 + 80) < 2560) ∧ (0 ≤ v1 ∧ v1 < 2560) ∧ (∀ (c66 : Nat → Int32) (c67 : Nat → Int32), ((e_lf (fun q => z_g y_units (1280 * gi + q)) lv (v1 + 80) v1 = true → c66 = z_s y_leads (v1 + 80) v1 ∧ c67 = z_s y_isLed v1 1) ∧ (¬ e_lf (fun q => z_g y_units (1280 * gi + q)) lv (v1 + 80) v1 = true → c66 = z_s y_leads v1 (v1 + 80) ∧ c67 = z_s y_isLed (v1 + 80) 1)) → Q c66 c67))))))))) ∧
(r51 ≥ lv → (0 ≤ gi ∧ gi < 4) ∧ (0 ≤ (i + 1) ∧ (i + 1) < 32) ∧ (0 ≤ (j + 1) ∧ (j + 1) < 40) ∧ (∀ (r71 : Int), z_in r71 → (r71 = z_g y_units (1280 * gi + (40 * (i + 1) + (j + 1)))) → ((r71 < lv → (0 ≤ gi ∧ gi < 4) ∧ (0 ≤ i ∧ i < 32) ∧ (0 ≤ j ∧ j < 40) ∧ (∀ (r75 : Int), z_in r75 → (r75 = z_g y_units (1280 * gi + (40 * i + j))) → (0 ≤ gi ∧ gi < 4) ∧ (0 ≤ i ∧ i < 32) ∧ (0 ≤ (j + 1) ∧ (j + 1) < 40) ∧ (∀ (r79 : Int), z_in r79 → (r79 = z_g y_units (1280 * gi + (40 * i + (j + 1)))) → (0 ≤ gi ∧ gi < 4) ∧ (0 ≤ (i + 1) ∧ (i + 1) < 32) ∧ (0 ≤ j ∧ j < 40) ∧ (∀ (r83 : Int), z_in r83 → (r83 = z_g y_units (1280 * gi + (40 * (i + 1) + j))) → (0 ≤ gi ∧ gi < 4) ∧ (0 ≤ (i + 1) ∧ (i + 1) < 32) ∧ (0 ≤ (j + 1) ∧ (j + 1) < 40) ∧ (∀ (r87 : Int), z_in r87 → (r87 = z_g y_units (1280 * gi + (40 * (i + 1) + (j + 1)))) → z_nl (((r75 + r79) + r83) + r87) ∧ (∀ v88 : Int, v88 = ((r75 + r79) + r83) + r87 → z_nl (4 * lv) ∧ ((v88 < 4 * lv → z_in (v1 + 3) ∧ (0 ≤ gi ∧ gi < 4) ∧ (0 ≤ v1 ∧ v1 < 2560) ∧ (0 ≤ (v1 + 3) ∧ (v1 + 3) < 2560) ∧ (∀ (c96 : Nat → Int32) (c97 : Nat → Int32), ((e_lf (fun q => z_g y_units (1280 * gi + q)) lv v1 (v1 + 3) = true → c96 = z_s y_leads v1 (v1 + 3) ∧ c97 = z_s y_isLed (v1 + 3) 1) ∧ (¬ e_lf (fun q => z_g y_units (1280 * gi + q)) lv v1 (v1 + 3) = true → c96 = z_s y_leads (v1 + 3) v1 ∧ c97 = z_s y_isLed v1 1)) → z_in (v1 + 1) ∧ z_in (v1 + 80) ∧ (0 ≤ gi ∧ gi < 4) ∧ (0 ≤ (v1 + 1) ∧ (v1 + 1) < 2560) ∧ (0 ≤ (v1 + 80) ∧ (v1 + 80) < 2560) ∧ (∀ (c103 : Nat → Int32) (c104 : Nat → Int32), ((e_lf (fun q => z_g y_units (1280 * gi + q)) lv (v1 + 1) (v1 + 80) = true → c103 = z_s c96 (v1 + 1) (v1 + 80) ∧ c104 = z_s c97 (v1 + 80) 1) ∧ (¬ e_lf (fun q => z_g y_units (1280 * gi + q)) lv (v1 + 1) (v1 + 80) = true → c103 = z_s c96 (v1 + 80) (v1 + 1) ∧ c104 = z_s c97 (v1 + 1) 1)) → Q c103 c104))) ∧
(v88 ≥ 4 * lv → z_in (v1 + 1) ∧ (0 ≤ gi ∧ gi < 4) ∧ (0 ≤ v1 ∧ v1 < 2560) ∧ (0 ≤ (v1 + 1) ∧ (v1 + 1) < 2560) ∧ (∀ (c109 : Nat → Int32) (c110 : Nat → Int32), ((e_lf (fun q => z_g y_units (1280 * gi + q)) lv v1 (v1 + 1) = true → c109 = z_s y_leads v1 (v1 + 1) ∧ c110 = z_s y_isLed (v1 + 1) 1) ∧ (¬ e_lf (fun q => z_g y_units (1280 * gi + q)) lv v1 (v1 + 1) = true → c109 = z_s y_leads (v1 + 1) v1 ∧ c110 = z_s y_isLed v1 1)) → z_in (v1 + 3) ∧ z_in (v1 + 80) ∧ (0 ≤ gi ∧ gi < 4) ∧ (0 ≤ (v1 + 3) ∧ (v1 + 3) < 2560) ∧ (0 ≤ (v1 + 80) ∧ (v1 + 80) < 2560) ∧ (∀ (c116 : Nat → Int32) (c117 : Nat → Int32), ((e_lf (fun q => z_g y_units (1280 * gi + q)) lv (v1 + 3) (v1 + 80) = true → c116 = z_s c109 (v1 + 3) (v1 + 80) ∧ c117 = z_s c110 (v1 + 80) 1) ∧ (¬ e_lf (fun q => z_g y_units (1280 * gi + q)) lv (v1 + 3) (v1 + 80) = true → c116 = z_s c109 (v1 + 80) (v1 + 3) ∧ c117 = z_s c110 (v1 + 3) 1)) → Q c116 c117)))))))))) ∧
(r71 ≥ lv → z_in (v1 + 1) ∧ ((v1 + 1 < 0 → Q y_leads y_isLed) ∧
(v1 + 1 ≥ 0 → ((v1 < 0 → Q y_leads y_isLed) ∧
(v1 ≥ 0 → (0 ≤ gi ∧ gi < 4) ∧ (0 ≤ (v1 + 1) ∧ (v1 + 1) < 2560) ∧ (0 ≤ v1 ∧ v1 < 2560) ∧ (∀ (c122 : Nat → Int32) (c123 : Nat → Int32), ((e_lf (fun q => z_g y_units (1280 * gi + q)) lv (v1 + 1) v1 = true → c122 = z_s y_leads (v1 + 1) v1 ∧ c123 = z_s y_isLed v1 1) ∧ (¬ e_lf (fun q => z_g y_units (1280 * gi + q)) lv (v1 + 1) v1 = true → c122 = z_s y_leads v1 (v1 + 1) ∧ c123 = z_s y_isLed (v1 + 1) 1)) → Q c122 c123))))))))))))))) ∧
(r7 ≥ lv → z_in (j + 1) ∧ (0 ≤ gi ∧ gi < 4) ∧ (0 ≤ i ∧ i < 32) ∧ (0 ≤ (j + 1) ∧ (j + 1) < 40) ∧ (∀ (r128 : Int), z_in r128 → (r128 = z_g y_units (1280 * gi + (40 * i + (j + 1)))) → ((r128 < lv → z_in (i + 1) ∧ (0 ≤ gi ∧ gi < 4) ∧ (0 ≤ (i + 1) ∧ (i + 1) < 32) ∧ (0 ≤ j ∧ j < 40) ∧ (∀ (r133 : Int), z_in r133 → (r133 = z_g y_units (1280 * gi + (40 * (i + 1) + j))) → ((r133 < lv → (0 ≤ gi ∧ gi < 4) ∧ (0 ≤ (i + 1) ∧ (i + 1) < 32) ∧ (0 ≤ (j + 1) ∧ (j + 1) < 40) ∧ (∀ (r137 : Int), z_in r137 → (r137 = z_g y_units (1280 * gi + (40 * (i + 1) + (j + 1)))) → ((r137 < lv → z_in (v1 + 1) ∧ ((v1 + 1 < 0 → Q y_leads y_isLed) ∧
(v1 + 1 ≥ 0 → ((v1 < 0 → Q y_leads y_isLed) ∧
(v1 ≥ 0 → (0 ≤ gi ∧ gi < 4) ∧ (0 ≤ (v1 + 1) ∧ (v1 + 1) < 2560) ∧ (0 ≤ v1 ∧ v1 < 2560) ∧ (∀ (c142 : Nat → Int32) (c143 : Nat → Int32), ((e_lf (fun q => z_g y_units (1280 * gi + q)) lv (v1 + 1) v1 = true → c142 = z_s y_leads (v1 + 1) v1 ∧ c143 = z_s y_isLed v1 1) ∧ (¬ e_lf (fun q => z_g y_units (1280 * gi + q)) lv (v1 + 1) v1 = true → c142 = z_s y_leads v1 (v1 + 1) ∧ c143 = z_s y_isLed (v1 + 1) 1)) → Q c142 c143)))))) ∧
(r137 ≥ lv → (0 ≤ gi ∧ gi < 4) ∧ (0 ≤ i ∧ i < 32) ∧ (0 ≤ j ∧ j < 40) ∧ (∀ (r147 : Int), z_in r147 → (r147 = z_g y_units (1280 * gi + (40 * i + j))) → (0 ≤ gi ∧ gi < 4) ∧ (0 ≤ i ∧ i < 32) ∧ (0 ≤ (j + 1) ∧ (j + 1) < 40) ∧ (∀ (r151 : Int), z_in r151 → (r151 = z_g y_units (1280 * gi + (40 * i + (j + 1)))) → (0 ≤ gi ∧ gi < 4) ∧ (0 ≤ (i + 1) ∧ (i + 1) < 32) ∧ (0 ≤ j ∧ j < 40) ∧ (∀ (r155 : Int), z_in r155 → (r155 = z_g y_units (1280 * gi + (40 * (i + 1) + j))) → (0 ≤ gi ∧ gi < 4) ∧ (0 ≤ (i + 1) ∧ (i + 1) < 32) ∧ (0 ≤ (j + 1) ∧ (j + 1) < 40) ∧ (∀ (r159 : Int), z_in r159 → (r159 = z_g y_units (1280 * gi + (40 * (i + 1) + (j + 1)))) → z_nl (((r147 + r151) + r155) + r159) ∧ (∀ v160 : Int, v160 = ((r147 + r151) + r155) + r159 → z_nl (4 * lv) ∧ ((v160 < 4 * lv → z_in (v1 + 1) ∧ (0 ≤ gi ∧ gi < 4) ∧ (0 ≤ v1 ∧ v1 < 2560) ∧ (0 ≤ (v1 + 1) ∧ (v1 + 1) < 2560) ∧ (∀ (c168 : Nat → Int32) (c169 : Nat → Int32), ((e_lf (fun q => z_g y_units (1280 * gi + q)) lv v1 (v1 + 1) = true → c168 = z_s y_leads v1 (v1 + 1) ∧ c169 = z_s y_isLed (v1 + 1) 1) ∧ (¬ e_lf (fun q => z_g y_units (1280 * gi + q)) lv v1 (v1 + 1) = true → c168 = z_s y_leads (v1 + 1) v1 ∧ c169 = z_s y_isLed v1 1)) → z_in (v1 + 3) ∧ z_in (v1 + 80) ∧ (0 ≤ gi ∧ gi < 4) ∧ (0 ≤ (v1 + 3) ∧ (v1 + 3) < 2560) ∧ (0 ≤ (v1 + 80) ∧ (v1 + 80) < 2560) ∧ (∀ (c175 : Nat → Int32) (c176 : Nat → Int32), ((e_lf (fun q => z_g y_units (1280 * gi + q)) lv (v1 + 3) (v1 + 80) = true → c175 = z_s c168 (v1 + 3) (v1 + 80) ∧ c176 = z_s c169 (v1 + 80) 1) ∧ (¬ e_lf (fun q => z_g y_units (1280 * gi + q)) lv (v1 + 3) (v1 + 80) = true → c175 = z_s c168 (v1 + 80) (v1 + 3) ∧ c176 = z_s c169 (v1 + 3) 1)) → Q c175 c176))) ∧
(v160 ≥ 4 * lv → z_in (v1 + 3) ∧ (0 ≤ gi ∧ gi < 4) ∧ (0 ≤ v1 ∧ v1 < 2560) ∧ (0 ≤ (v1 + 3) ∧ (v1 + 3) < 2560) ∧ (∀ (c181 : Nat → Int32) (c182 : Nat → Int32), ((e_lf (fun q => z_g y_units (1280 * gi + q)) lv v1 (v1 + 3) = true → c181 = z_s y_leads v1 (v1 + 3) ∧ c182 = z_s y_isLed (v1 + 3) 1) ∧ (¬ e_lf (fun q => z_g y_units (1280 * gi + q)) lv v1 (v1 + 3) = true → c181 = z_s y_leads (v1 + 3) v1 ∧ c182 = z_s y_isLed v1 1)) → z_in (v1 + 1) ∧ z_in (v1 + 80) ∧ (0 ≤ gi ∧ gi < 4) ∧ (0 ≤ (v1 + 1) ∧ (v1 + 1) < 2560) ∧ (0 ≤ (v1 + 80) ∧ (v1 + 80) < 2560) ∧ (∀ (c188 : Nat → Int32) (c189 : Nat → Int32), ((e_lf (fun q => z_g y_units (1280 * gi + q)) lv (v1 + 1) (v1 + 80) = true → c188 = z_s c181 (v1 + 1) (v1 + 80) ∧ c189 = z_s c182 (v1 + 80) 1) ∧ (¬ e_lf (fun q => z_g y_units (1280 * gi + q)) lv (v1 + 1) (v1 + 80) = true → c188 = z_s c181 (v1 + 80) (v1 + 1) ∧ c189 = z_s c182 (v1 + 1) 1)) → Q c188 c189))))))))))))) ∧
(r133 ≥ lv → (0 ≤ gi ∧ gi < 4) ∧ (0 ≤ (i + 1) ∧ (i + 1) < 32) ∧ (0 ≤ (j + 1) ∧ (j + 1) < 40) ∧ (∀ (r193 : Int), z_in r193 → (r193 = z_g y_units (1280 * gi + (40 * (i + 1) + (j + 1)))) → ((r193 < lv → z_in (v1 + 80) ∧ ((v1 + 80 < 0 → Q y_leads y_isLed) ∧
(v1 + 80 ≥ 0 → ((v1 < 0 → Q y_leads y_isLed) ∧
(v1 ≥ 0 → (0 ≤ gi ∧ gi < 4) ∧ (0 ≤ (v1 + 80) ∧ (v1 + 80) < 2560) ∧ (0 ≤ v1 ∧ v1 < 2560) ∧ (∀ (c198 : Nat → Int32) (c199 : Nat → Int32), ((e_lf (fun q => z_g y_units (1280 * gi + q)) lv (v1 + 80) v1 = true → c198 = z_s y_leads (v1 + 80) v1 ∧ c199 = z_s y_isLed v1 1) ∧ (¬ e_lf (fun q => z_g y_units (1280 * gi + q)) lv (v1 + 80) v1 = true → c198 = z_s y_leads v1 (v1 + 80) ∧ c199 = z_s y_isLed (v1 + 80) 1)) → Q c198 c199)))))) ∧
(r193 ≥ lv → z_in (v1 + 3) ∧ ((v1 + 3 < 0 → Q y_leads y_isLed) ∧
(v1 + 3 ≥ 0 → ((v1 < 0 → Q y_leads y_isLed) ∧
(v1 ≥ 0 → (0 ≤ gi ∧ gi < 4) ∧ (0 ≤ (v1 + 3) ∧ (v1 + 3) < 2560) ∧ (0 ≤ v1 ∧ v1 < 2560) ∧ (∀ (c204 : Nat → Int32) (c205 : Nat → Int32), ((e_lf (fun q => z_g y_units (1280 * gi + q)) lv (v1 + 3) v1 = true → c204 = z_s y_leads (v1 + 3) v1 ∧ c205 = z_s y_isLed v1 1) ∧ (¬ e_lf (fun q => z_g y_units (1280 * gi + q)) lv (v1 + 3) v1 = true → c204 = z_s y_leads v1 (v1 + 3) ∧ c205 = z_s y_isLed (v1 + 3) 1)) → Q c204 c205)))))))))))) ∧
(r128 ≥ lv → z_in (i + 1) ∧ (0 ≤ gi ∧ gi < 4) ∧ (0 ≤ (i + 1) ∧ (i + 1) < 32) ∧ (0 ≤ j ∧ j < 40) ∧ (∀ (r210 : Int), z_in r210 → (r210 = z_g y_units (1280 * gi + (40 * (i + 1) + j))) → ((r210 < lv → (0 ≤ gi ∧ gi < 4) ∧ (0 ≤ (i + 1) ∧ (i + 1) < 32) ∧ (0 ≤ (j + 1) ∧ (j + 1) < 40) ∧ (∀ (r214 : Int), z_in r214 → (r214 = z_g y_units (1280 * gi + (40 * (i + 1) + (j + 1)))) → ((r214 < lv → z_in (v1 + 3) ∧ ((v1 + 3 < 0 → Q y_leads y_isLed) ∧
(v1 + 3 ≥ 0 → z_in (v1 + 1) ∧ ((v1 + 1 < 0 → Q y_leads y_isLed) ∧
(v1 + 1 ≥ 0 → (0 ≤ gi ∧ gi < 4) ∧ (0 ≤ (v1 + 3) ∧ (v1 + 3) < 2560) ∧ (0 ≤ (v1 + 1) ∧ (v1 + 1) < 2560) ∧ (∀ (c220 : Nat → Int32) (c221 : Nat → Int32), ((e_lf (fun q => z_g y_units (1280 * gi + q)) lv (v1 + 3) (v1 + 1) = true → c220 = z_s y_leads (v1 + 3) (v1 + 1) ∧ c221 = z_s y_isLed (v1 + 1) 1) ∧ (¬ e_lf (fun q => z_g y_units (1280 * gi + q)) lv (v1 + 3) (v1 + 1) = true → c220 = z_s y_leads (v1 + 1) (v1 + 3) ∧ c221 = z_s y_isLed (v1 + 3) 1)) → Q c220 c221)))))) ∧
(r214 ≥ lv → z_in (v1 + 80) ∧ ((v1 + 80 < 0 → Q y_leads y_isLed) ∧
(v1 + 80 ≥ 0 → z_in (v1 + 1) ∧ ((v1 + 1 < 0 → Q y_leads y_isLed) ∧
(v1 + 1 ≥ 0 → (0 ≤ gi ∧ gi < 4) ∧ (0 ≤ (v1 + 80) ∧ (v1 + 80) < 2560) ∧ (0 ≤ (v1 + 1) ∧ (v1 + 1) < 2560) ∧ (∀ (c227 : Nat → Int32) (c228 : Nat → Int32), ((e_lf (fun q => z_g y_units (1280 * gi + q)) lv (v1 + 80) (v1 + 1) = true → c227 = z_s y_leads (v1 + 80) (v1 + 1) ∧ c228 = z_s y_isLed (v1 + 1) 1) ∧ (¬ e_lf (fun q => z_g y_units (1280 * gi + q)) lv (v1 + 80) (v1 + 1) = true → c227 = z_s y_leads (v1 + 1) (v1 + 80) ∧ c228 = z_s y_isLed (v1 + 80) 1)) → Q c227 c228))))))))) ∧
(r210 ≥ lv → (0 ≤ gi ∧ gi < 4) ∧ (0 ≤ (i + 1) ∧ (i + 1) < 32) ∧ (0 ≤ (j + 1) ∧ (j + 1) < 40) ∧ (∀ (r232 : Int), z_in r232 → (r232 = z_g y_units (1280 * gi + (40 * (i + 1) + (j + 1)))) → ((r232 < lv → z_in (v1 + 80) ∧ ((v1 + 80 < 0 → Q y_leads y_isLed) ∧
(v1 + 80 ≥ 0 → z_in (v1 + 3) ∧ ((v1 + 3 < 0 → Q y_leads y_isLed) ∧
(v1 + 3 ≥ 0 → (0 ≤ gi ∧ gi < 4) ∧ (0 ≤ (v1 + 80) ∧ (v1 + 80) < 2560) ∧ (0 ≤ (v1 + 3) ∧ (v1 + 3) < 2560) ∧ (∀ (c238 : Nat → Int32) (c239 : Nat → Int32), ((e_lf (fun q => z_g y_units (1280 * gi + q)) lv (v1 + 80) (v1 + 3) = true → c238 = z_s y_leads (v1 + 80) (v1 + 3) ∧ c239 = z_s y_isLed (v1 + 3) 1) ∧ (¬ e_lf (fun q => z_g y_units (1280 * gi + q)) lv (v1 + 80) (v1 + 3) = true → c238 = z_s y_leads (v1 + 3) (v1 + 80) ∧ c239 = z_s y_isLed (v1 + 80) 1)) → Q c238 c239)))))) ∧
(r232 ≥ lv → Q y_leads y_isLed)))))))))))))
set_option maxHeartbeats 4000000 in
set_option maxRecDepth 100000 in
theorem wk_X8_cell (l : Launch) (D : va_G) (cA : Nat → ClassId) (y : Nat) (y_space : Nat) (y_offset : Nat) (y_length : Nat) (ya_units : Nat) (y_units : Nat → Int32) (y_isThere : Nat) (y_levels : Int) (y_level : Nat) (y_lines : Int) (y_lineLevel : Nat) (y_lineUnits : Nat) (y_lineFrom : Nat) (y_lineMany : Nat) (y_isClosed : Nat) (y_insides : Nat) (y_parent : Nat) (y_isHigh : Nat) (y_inBits : Nat) (y_sides : Int) (y_side : Nat) (y_sideA : Nat) (y_sideB : Nat) (y_lineSpace : Int) (y_wasThere : Nat) (ya_leads : Nat) (y_leads : Nat → Int32) (ya_isLed : Nat) (y_isLed : Nat → Int32) (y_isOn : Nat) (y_goesTo : Nat) (y_stream : Nat) (y_filled : Nat) (y_isDone : Nat) (y_isReached : Nat) (y_newUnits : Nat) (y_isNew : Nat) (gi : Int) (i : Int) (j : Int) (lv : Int) (h_y_levels : z_in y_levels) (h_y_lines : z_in y_lines) (h_y_sides : z_in y_sides) (h_y_lineSpace : z_in y_lineSpace) (h_gi : z_in gi) (h_i : z_in i) (h_j : z_in j) (h_lv : z_in lv) (Q : (Nat → Int32) → (Nat → Int32) → Prop) (hv : vc_X8_cell y_units y_leads y_isLed gi i j lv Q) : Met l yX8_cell wsX8_cell ({ frames := 3, cells := 0, slots := 0, locals := 81 } : Room) (va_Pc [.ref y, .int (z_i gi), .int (z_i i), .int (z_i j), .int (z_i lv)] (z_M0 D cA [(y, .inr (6, [.ref y_space, .ref y_offset, .ref y_length, .ref ya_units, .ref y_isThere, .int (z_i y_levels), .ref y_level, .int (z_i y_lines), .ref y_lineLevel, .ref y_lineUnits, .ref y_lineFrom, .ref y_lineMany, .ref y_isClosed, .ref y_insides, .ref y_parent, .ref y_isHigh, .ref y_inBits, .int (z_i y_sides), .ref y_side, .ref y_sideA, .ref y_sideB, .int (z_i y_lineSpace), .ref y_wasThere, .ref ya_leads, .ref ya_isLed, .ref y_isOn, .ref y_goesTo, .ref y_stream, .ref y_filled, .ref y_isDone, .ref y_isReached, .ref y_newUnits, .ref y_isNew])), (ya_units, .inl (cA 1, 5120, .inl y_units)), (ya_leads, .inl (cA 1, 2560, .inl y_leads)), (ya_isLed, .inl (cA 3, 2560, .inl y_isLed))])) (va_Qv (fun (u : (Nat → Int32) × (Nat → Int32)) => Q u.1 u.2) (fun (u : (Nat → Int32) × (Nat → Int32)) t => va_P D vwCl [(y, .inr (6, [.ref y_space, .ref y_offset, .ref y_length, .ref ya_units, .ref y_isThere, .int (z_i y_levels), .ref y_level, .int (z_i y_lines), .ref y_lineLevel, .ref y_lineUnits, .ref y_lineFrom, .ref y_lineMany, .ref y_isClosed, .ref y_insides, .ref y_parent, .ref y_isHigh, .ref y_inBits, .int (z_i y_sides), .ref y_side, .ref y_sideA, .ref y_sideB, .int (z_i y_lineSpace), .ref y_wasThere, .ref ya_leads, .ref ya_isLed, .ref y_isOn, .ref y_goesTo, .ref y_stream, .ref y_filled, .ref y_isDone, .ref y_isReached, .ref y_newUnits, .ref y_isNew])), (ya_units, .inl (cA 1, 5120, .inl y_units)), (ya_leads, .inl (cA 1, 2560, .inl u.1)), (ya_isLed, .inl (cA 3, 2560, .inl u.2))] t.heap) (z_A [(y, .inr (6, [.ref y_space, .ref y_offset, .ref y_length, .ref ya_units, .ref y_isThere, .int (z_i y_levels), .ref y_level, .int (z_i y_lines), .ref y_lineLevel, .ref y_lineUnits, .ref y_lineFrom, .ref y_lineMany, .ref y_isClosed, .ref y_insides, .ref y_parent, .ref y_isHigh, .ref y_inBits, .int (z_i y_sides), .ref y_side, .ref y_sideA, .ref y_sideB, .int (z_i y_lineSpace), .ref y_wasThere, .ref ya_leads, .ref ya_isLed, .ref y_isOn, .ref y_goesTo, .ref y_stream, .ref y_filled, .ref y_isDone, .ref y_isReached, .ref y_newUnits, .ref y_isNew])), (ya_units, .inl (cA 1, 5120, .inl y_units)), (ya_leads, .inl (cA 1, 2560, .inl y_leads)), (ya_isLed, .inl (cA 3, 2560, .inl y_isLed))])) 0 0 (z_A [(y, .inr (6, [.ref y_space, .ref y_offset, .ref y_length, .ref ya_units, .ref y_isThere, .int (z_i y_levels), .ref y_level, .int (z_i y_lines), .ref y_lineLevel, .ref y_lineUnits, .ref y_lineFrom, .ref y_lineMany, .ref y_isClosed, .ref y_insides, .ref y_parent, .ref y_isHigh, .ref y_inBits, .int (z_i y_sides), .ref y_side, .ref y_sideA, .ref y_sideB, .int (z_i y_lineSpace), .ref y_wasThere, .ref ya_leads, .ref ya_isLed, .ref y_isOn, .ref y_goesTo, .ref y_stream, .ref y_filled, .ref y_isDone, .ref y_isReached, .ref y_newUnits, .ref y_isNew])), (ya_units, .inl (cA 1, 5120, .inl y_units)), (ya_leads, .inl (cA 1, 2560, .inl y_leads)), (ya_isLed, .inl (cA 3, 2560, .inl y_isLed))]) := by
  unfold vc_X8_cell at hv
  refine Met.ofW (cc := cX8_cell) (maxL := 16) (ret := none) (by decide +kernel) rfl ?_
  intro p e s m args below meth c s₁ B hml hv0
  obtain ⟨rfl, hK, hP, hD0⟩ := hv0
  have hx := B.exec
  have hb := B.bytes
  have hr := B.returns
  have hts := atoms_spec (ws := wsX8_cell) B.pre
  have hown : s.vm.findClass RX8 = some m.cls := findClass_of_methodNamed B.named
  have hlocks := B.notSynchronized
  have hD := z_D_self hD0
  generalize hAe : z_A [(y, .inr (6, [.ref y_space, .ref y_offset, .ref y_length, .ref ya_units, .ref y_isThere, .int (z_i y_levels), .ref y_level, .int (z_i y_lines), .ref y_lineLevel, .ref y_lineUnits, .ref y_lineFrom, .ref y_lineMany, .ref y_isClosed, .ref y_insides, .ref y_parent, .ref y_isHigh, .ref y_inBits, .int (z_i y_sides), .ref y_side, .ref y_sideA, .ref y_sideB, .int (z_i y_lineSpace), .ref y_wasThere, .ref ya_leads, .ref ya_isLed, .ref y_isOn, .ref y_goesTo, .ref y_stream, .ref y_filled, .ref y_isDone, .ref y_isReached, .ref y_newUnits, .ref y_isNew])), (ya_units, .inl (cA 1, 5120, .inl y_units)), (ya_leads, .inl (cA 1, 2560, .inl y_leads)), (ya_isLed, .inl (cA 3, 2560, .inl y_isLed))] = A at *
  have hS : va_S A s.heap s.heap [] := va_S.rf
  have hl := lv_entry ([.ref y, .int (z_i gi), .int (z_i i), .int (z_i j), .int (z_i lv)]) (n := 16) (Nat.le_of_ble_eq_true rfl)
  rw [lg_entry_eq]
  generalize (lg_sl ([.ref y, .int (z_i gi), .int (z_i i), .int (z_i j), .int (z_i lv)]) ++ List.replicate (16 - (lg_sl ([.ref y, .int (z_i gi), .int (z_i i), .int (z_i j), .int (z_i lv)])).length) Slot.unset).toArray = ls at hl ⊢
  have hl : lv_has ls 16 [(0, .ref y), (1, .int (z_i gi)), (2, .int (z_i i)), (3, .int (z_i j)), (4, .int (z_i lv))] := hl
  refine lv_iconst (v := z_i 2) hx hb dX8_cell_0 rfl ?_
  refine lv_bipush (v := z_i 40) hx hb dX8_cell_1 (by decide) ?_
  refine lv_iload_n hx hb dX8_cell_3 rfl (lv_at hl 2 rfl) ?_
  refine lx_imul hx hb dX8_cell_4 ?_
  refine lv_iload_n hx hb dX8_cell_5 rfl (lv_at hl 3 rfl) ?_
  refine lx_iadd hx hb dX8_cell_6 ?_
  refine lx_imul hx hb dX8_cell_7 ?_
  obtain ⟨hr2, hv⟩ := hv
  refine lx_topi (fun v1 hy3 => ?_)
  have hv := hv v1 hy3
  have h_v1 : z_in v1 := by rw [hy3]; exact hr2
  refine lv_istore (lv' := [(5, .int (z_i v1)), (0, .ref y), (1, .int (z_i gi)), (2, .int (z_i i)), (3, .int (z_i j)), (4, .int (z_i lv))]) hx hb dX8_cell_8 hl (by decide) rfl (fun ls hl => ?_)
  refine lv_iload hx hb dX8_cell_10 (lv_at hl 0 rfl) ?_
  refine lv_iconst (v := z_i 1) hx hb dX8_cell_12 rfl ?_
  refine lx_iadd hx hb dX8_cell_13 ?_
  refine lv_istore (lv' := [(6, .int (z_i (v1 + 1))), (5, .int (z_i v1)), (0, .ref y), (1, .int (z_i gi)), (2, .int (z_i i)), (3, .int (z_i j)), (4, .int (z_i lv))]) hx hb dX8_cell_14 hl (by decide) rfl (fun ls hl => ?_)
  refine lv_iload hx hb dX8_cell_16 (lv_at hl 1 rfl) ?_
  refine lv_bipush (v := z_i 80) hx hb dX8_cell_18 (by decide) ?_
  refine lx_iadd hx hb dX8_cell_20 ?_
  refine lv_istore (lv' := [(7, .int (z_i (v1 + 80))), (6, .int (z_i (v1 + 1))), (5, .int (z_i v1)), (0, .ref y), (1, .int (z_i gi)), (2, .int (z_i i)), (3, .int (z_i j)), (4, .int (z_i lv))]) hx hb dX8_cell_21 hl (by decide) rfl (fun ls hl => ?_)
  refine lv_iload hx hb dX8_cell_23 (lv_at hl 2 rfl) ?_
  refine lv_iconst (v := z_i 3) hx hb dX8_cell_25 rfl ?_
  refine lx_iadd hx hb dX8_cell_26 ?_
  refine lv_istore (lv' := [(8, .int (z_i (v1 + 3))), (7, .int (z_i (v1 + 80))), (6, .int (z_i (v1 + 1))), (5, .int (z_i v1)), (0, .ref y), (1, .int (z_i gi)), (2, .int (z_i i)), (3, .int (z_i j)), (4, .int (z_i lv))]) hx hb dX8_cell_27 hl (by decide) rfl (fun ls hl => ?_)
  refine lv_aload_n hx hb dX8_cell_29 rfl (lv_at hl 4 rfl) ?_
  refine lv_iload_n hx hb dX8_cell_30 rfl (lv_at hl 5 rfl) ?_
  refine lv_iload_n hx hb dX8_cell_31 rfl (lv_at hl 6 rfl) ?_
  refine lv_iload_n hx hb dX8_cell_32 rfl (lv_at hl 7 rfl) ?_
  obtain ⟨hp4, hv⟩ := hv
  obtain ⟨hp5, hv⟩ := hv
  obtain ⟨hp6, hv⟩ := hv
  refine va_calli (va_runV (As := [.int (z_i gi), .int (z_i i), .int (z_i j)]) (rest := []) ⟨hx, hb, hml, hown, hts⟩ (mt_X8_h l D cA y y_space y_offset y_length ya_units y_units y_isThere y_levels y_level y_lines y_lineLevel y_lineUnits y_lineFrom y_lineMany y_isClosed y_insides y_parent y_isHigh y_inBits y_sides y_side y_sideA y_sideB y_lineSpace y_wasThere ya_leads ya_isLed y_isOn y_goesTo y_stream y_filled y_isDone y_isReached y_newUnits y_isNew gi i j h_y_levels h_y_lines h_y_sides h_y_lineSpace h_gi h_i h_j hp4 hp5 hp6) (cwV 3 hts gX8_cell_X8_h rfl rfl rfl (by decide +kernel) ⟨Nat.le_of_ble_eq_true rfl, Nat.le_of_ble_eq_true rfl⟩) ⟨z_bl0, va_recv hK hP (ci := 6) (q0 := 0) rfl rfl, fun U hU hW => ⟨rfl, z_b0 hK (hP.sub (ws' := [(y, .inr (6, [.ref y_space, .ref y_offset, .ref y_length, .ref ya_units, .ref y_isThere, .int (z_i y_levels), .ref y_level, .int (z_i y_lines), .ref y_lineLevel, .ref y_lineUnits, .ref y_lineFrom, .ref y_lineMany, .ref y_isClosed, .ref y_insides, .ref y_parent, .ref y_isHigh, .ref y_inBits, .int (z_i y_sides), .ref y_side, .ref y_sideA, .ref y_sideB, .int (z_i y_lineSpace), .ref y_wasThere, .ref ya_leads, .ref ya_isLed, .ref y_isOn, .ref y_goesTo, .ref y_stream, .ref y_filled, .ref y_isDone, .ref y_isReached, .ref y_newUnits, .ref y_isNew])), (ya_units, .inl (cA 1, 5120, .inl y_units))]) [0, 1] rfl) hU hW⟩⟩ rfl rfl hl.1 rfl (lv_room (Nat.le_of_ble_eq_true rfl)) dX8_cell_33 ⟨Nat.zero_le _, Nat.zero_le _⟩) hS (fun q _ h => h.elim) (fun q h => h.elim) (fun r0 u t H locs ht hvm hw hB hz1 hk1 hS => ?_)
  obtain ⟨r7, rfl, h_r7, hw⟩ := hw
  have hP := z_P_all hP hk1
  have hv := hv r7 h_r7 hw
  refine lv_iload hx hb dX8_cell_36 (lv_at hl 8 rfl) ?_
  refine lx_icmp_lt (tgt := 45) hx hb dX8_cell_38 (by decide) h_r7 h_lv (fun hc => ?_) (fun hc => ?_)
  · have hv := hv.1 hc
    refine lv_iconst (v := z_i 0) hx hb dX8_cell_45 rfl ?_
    refine lv_istore (lv' := [(9, .int (z_i 0)), (8, .int (z_i (v1 + 3))), (7, .int (z_i (v1 + 80))), (6, .int (z_i (v1 + 1))), (5, .int (z_i v1)), (0, .ref y), (1, .int (z_i gi)), (2, .int (z_i i)), (3, .int (z_i j)), (4, .int (z_i lv))]) hx hb dX8_cell_46 hl (by decide) rfl (fun ls hl => ?_)
    refine lv_aload_n hx hb dX8_cell_48 rfl (lv_at hl 5 rfl) ?_
    refine lv_iload_n hx hb dX8_cell_49 rfl (lv_at hl 6 rfl) ?_
    refine lv_iload_n hx hb dX8_cell_50 rfl (lv_at hl 7 rfl) ?_
    refine lv_iload_n hx hb dX8_cell_51 rfl (lv_at hl 8 rfl) ?_
    refine lv_iconst (v := z_i 1) hx hb dX8_cell_52 rfl ?_
    refine lx_iadd hx hb dX8_cell_53 ?_
    obtain ⟨hr8, hv⟩ := hv
    obtain ⟨hp9, hv⟩ := hv
    obtain ⟨hp10, hv⟩ := hv
    obtain ⟨hp11, hv⟩ := hv
    refine va_calli (va_runV (As := [.int (z_i gi), .int (z_i i), .int (z_i (j + 1))]) (rest := []) ⟨hx, hb, hml, hown, hts⟩ (mt_X8_h l D cA y y_space y_offset y_length ya_units y_units y_isThere y_levels y_level y_lines y_lineLevel y_lineUnits y_lineFrom y_lineMany y_isClosed y_insides y_parent y_isHigh y_inBits y_sides y_side y_sideA y_sideB y_lineSpace y_wasThere ya_leads ya_isLed y_isOn y_goesTo y_stream y_filled y_isDone y_isReached y_newUnits y_isNew gi i (j + 1) h_y_levels h_y_lines h_y_sides h_y_lineSpace h_gi h_i hr8 hp9 hp10 hp11) (cwV 3 hts gX8_cell_X8_h rfl rfl rfl (by decide +kernel) ⟨Nat.le_of_ble_eq_true rfl, Nat.le_of_ble_eq_true rfl⟩) ⟨z_bl0, va_recv hK hP (ci := 6) (q0 := 0) rfl rfl, fun U hU hW => ⟨rfl, z_b0 hK (hP.sub (ws' := [(y, .inr (6, [.ref y_space, .ref y_offset, .ref y_length, .ref ya_units, .ref y_isThere, .int (z_i y_levels), .ref y_level, .int (z_i y_lines), .ref y_lineLevel, .ref y_lineUnits, .ref y_lineFrom, .ref y_lineMany, .ref y_isClosed, .ref y_insides, .ref y_parent, .ref y_isHigh, .ref y_inBits, .int (z_i y_sides), .ref y_side, .ref y_sideA, .ref y_sideB, .int (z_i y_lineSpace), .ref y_wasThere, .ref ya_leads, .ref ya_isLed, .ref y_isOn, .ref y_goesTo, .ref y_stream, .ref y_filled, .ref y_isDone, .ref y_isReached, .ref y_newUnits, .ref y_isNew])), (ya_units, .inl (cA 1, 5120, .inl y_units))]) [0, 1] rfl) hU hW⟩⟩ rfl rfl hl.1 rfl (lv_room (Nat.le_of_ble_eq_true rfl)) dX8_cell_54 ⟨Nat.zero_le _, Nat.zero_le _⟩) hS (fun q _ h => h.elim) (fun q h => h.elim) (fun r0 u t H locs ht hvm hw hB hz1 hk1 hS => ?_)
    obtain ⟨r12, rfl, h_r12, hw⟩ := hw
    have hP := z_P_all hP hk1
    have hv := hv r12 h_r12 hw
    refine lv_iload hx hb dX8_cell_57 (lv_at hl 9 rfl) ?_
    refine lx_icmp_lt (tgt := 66) hx hb dX8_cell_59 (by decide) h_r12 h_lv (fun hc => ?_) (fun hc => ?_)
    · have hv := hv.1 hc
      refine lv_iconst (v := z_i 0) hx hb dX8_cell_66 rfl ?_
      refine lv_istore (lv' := [(10, .int (z_i 0)), (9, .int (z_i 0)), (8, .int (z_i (v1 + 3))), (7, .int (z_i (v1 + 80))), (6, .int (z_i (v1 + 1))), (5, .int (z_i v1)), (0, .ref y), (1, .int (z_i gi)), (2, .int (z_i i)), (3, .int (z_i j)), (4, .int (z_i lv))]) hx hb dX8_cell_67 hl (by decide) rfl (fun ls hl => ?_)
      refine lv_aload_n hx hb dX8_cell_69 rfl (lv_at hl 6 rfl) ?_
      refine lv_iload_n hx hb dX8_cell_70 rfl (lv_at hl 7 rfl) ?_
      refine lv_iload_n hx hb dX8_cell_71 rfl (lv_at hl 8 rfl) ?_
      refine lv_iconst (v := z_i 1) hx hb dX8_cell_72 rfl ?_
      refine lx_iadd hx hb dX8_cell_73 ?_
      refine lv_iload_n hx hb dX8_cell_74 rfl (lv_at hl 9 rfl) ?_
      obtain ⟨hr13, hv⟩ := hv
      obtain ⟨hp14, hv⟩ := hv
      obtain ⟨hp15, hv⟩ := hv
      obtain ⟨hp16, hv⟩ := hv
      refine va_calli (va_runV (As := [.int (z_i gi), .int (z_i (i + 1)), .int (z_i j)]) (rest := []) ⟨hx, hb, hml, hown, hts⟩ (mt_X8_h l D cA y y_space y_offset y_length ya_units y_units y_isThere y_levels y_level y_lines y_lineLevel y_lineUnits y_lineFrom y_lineMany y_isClosed y_insides y_parent y_isHigh y_inBits y_sides y_side y_sideA y_sideB y_lineSpace y_wasThere ya_leads ya_isLed y_isOn y_goesTo y_stream y_filled y_isDone y_isReached y_newUnits y_isNew gi (i + 1) j h_y_levels h_y_lines h_y_sides h_y_lineSpace h_gi hr13 h_j hp14 hp15 hp16) (cwV 3 hts gX8_cell_X8_h rfl rfl rfl (by decide +kernel) ⟨Nat.le_of_ble_eq_true rfl, Nat.le_of_ble_eq_true rfl⟩) ⟨z_bl0, va_recv hK hP (ci := 6) (q0 := 0) rfl rfl, fun U hU hW => ⟨rfl, z_b0 hK (hP.sub (ws' := [(y, .inr (6, [.ref y_space, .ref y_offset, .ref y_length, .ref ya_units, .ref y_isThere, .int (z_i y_levels), .ref y_level, .int (z_i y_lines), .ref y_lineLevel, .ref y_lineUnits, .ref y_lineFrom, .ref y_lineMany, .ref y_isClosed, .ref y_insides, .ref y_parent, .ref y_isHigh, .ref y_inBits, .int (z_i y_sides), .ref y_side, .ref y_sideA, .ref y_sideB, .int (z_i y_lineSpace), .ref y_wasThere, .ref ya_leads, .ref ya_isLed, .ref y_isOn, .ref y_goesTo, .ref y_stream, .ref y_filled, .ref y_isDone, .ref y_isReached, .ref y_newUnits, .ref y_isNew])), (ya_units, .inl (cA 1, 5120, .inl y_units))]) [0, 1] rfl) hU hW⟩⟩ rfl rfl hl.1 rfl (lv_room (Nat.le_of_ble_eq_true rfl)) dX8_cell_75 ⟨Nat.zero_le _, Nat.zero_le _⟩) hS (fun q _ h => h.elim) (fun q h => h.elim) (fun r0 u t H locs ht hvm hw hB hz1 hk1 hS => ?_)
      obtain ⟨r17, rfl, h_r17, hw⟩ := hw
      have hP := z_P_all hP hk1
      have hv := hv r17 h_r17 hw
      refine lv_iload hx hb dX8_cell_78 (lv_at hl 10 rfl) ?_
      refine lx_icmp_lt (tgt := 87) hx hb dX8_cell_80 (by decide) h_r17 h_lv (fun hc => ?_) (fun hc => ?_)
      · have hv := hv.1 hc
        refine lv_iconst (v := z_i 0) hx hb dX8_cell_87 rfl ?_
        refine lv_istore (lv' := [(11, .int (z_i 0)), (10, .int (z_i 0)), (9, .int (z_i 0)), (8, .int (z_i (v1 + 3))), (7, .int (z_i (v1 + 80))), (6, .int (z_i (v1 + 1))), (5, .int (z_i v1)), (0, .ref y), (1, .int (z_i gi)), (2, .int (z_i i)), (3, .int (z_i j)), (4, .int (z_i lv))]) hx hb dX8_cell_88 hl (by decide) rfl (fun ls hl => ?_)
        refine lv_aload_n hx hb dX8_cell_90 rfl (lv_at hl 7 rfl) ?_
        refine lv_iload_n hx hb dX8_cell_91 rfl (lv_at hl 8 rfl) ?_
        refine lv_iload_n hx hb dX8_cell_92 rfl (lv_at hl 9 rfl) ?_
        refine lv_iconst (v := z_i 1) hx hb dX8_cell_93 rfl ?_
        refine lx_iadd hx hb dX8_cell_94 ?_
        refine lv_iload_n hx hb dX8_cell_95 rfl (lv_at hl 10 rfl) ?_
        refine lv_iconst (v := z_i 1) hx hb dX8_cell_96 rfl ?_
        refine lx_iadd hx hb dX8_cell_97 ?_
        obtain ⟨hp18, hv⟩ := hv
        obtain ⟨hp19, hv⟩ := hv
        obtain ⟨hp20, hv⟩ := hv
        refine va_calli (va_runV (As := [.int (z_i gi), .int (z_i (i + 1)), .int (z_i (j + 1))]) (rest := []) ⟨hx, hb, hml, hown, hts⟩ (mt_X8_h l D cA y y_space y_offset y_length ya_units y_units y_isThere y_levels y_level y_lines y_lineLevel y_lineUnits y_lineFrom y_lineMany y_isClosed y_insides y_parent y_isHigh y_inBits y_sides y_side y_sideA y_sideB y_lineSpace y_wasThere ya_leads ya_isLed y_isOn y_goesTo y_stream y_filled y_isDone y_isReached y_newUnits y_isNew gi (i + 1) (j + 1) h_y_levels h_y_lines h_y_sides h_y_lineSpace h_gi hr13 hr8 hp18 hp19 hp20) (cwV 3 hts gX8_cell_X8_h rfl rfl rfl (by decide +kernel) ⟨Nat.le_of_ble_eq_true rfl, Nat.le_of_ble_eq_true rfl⟩) ⟨z_bl0, va_recv hK hP (ci := 6) (q0 := 0) rfl rfl, fun U hU hW => ⟨rfl, z_b0 hK (hP.sub (ws' := [(y, .inr (6, [.ref y_space, .ref y_offset, .ref y_length, .ref ya_units, .ref y_isThere, .int (z_i y_levels), .ref y_level, .int (z_i y_lines), .ref y_lineLevel, .ref y_lineUnits, .ref y_lineFrom, .ref y_lineMany, .ref y_isClosed, .ref y_insides, .ref y_parent, .ref y_isHigh, .ref y_inBits, .int (z_i y_sides), .ref y_side, .ref y_sideA, .ref y_sideB, .int (z_i y_lineSpace), .ref y_wasThere, .ref ya_leads, .ref ya_isLed, .ref y_isOn, .ref y_goesTo, .ref y_stream, .ref y_filled, .ref y_isDone, .ref y_isReached, .ref y_newUnits, .ref y_isNew])), (ya_units, .inl (cA 1, 5120, .inl y_units))]) [0, 1] rfl) hU hW⟩⟩ rfl rfl hl.1 rfl (lv_room (Nat.le_of_ble_eq_true rfl)) dX8_cell_98 ⟨Nat.zero_le _, Nat.zero_le _⟩) hS (fun q _ h => h.elim) (fun q h => h.elim) (fun r0 u t H locs ht hvm hw hB hz1 hk1 hS => ?_)
        obtain ⟨r21, rfl, h_r21, hw⟩ := hw
        have hP := z_P_all hP hk1
        have hv := hv r21 h_r21 hw
        refine lv_iload hx hb dX8_cell_101 (lv_at hl 11 rfl) ?_
        refine lx_icmp_lt (tgt := 110) hx hb dX8_cell_103 (by decide) h_r21 h_lv (fun hc => ?_) (fun hc => ?_)
        · have hv := hv.1 hc
          refine lv_iconst (v := z_i 0) hx hb dX8_cell_110 rfl ?_
          refine lv_istore (lv' := [(12, .int (z_i 0)), (11, .int (z_i 0)), (10, .int (z_i 0)), (9, .int (z_i 0)), (8, .int (z_i (v1 + 3))), (7, .int (z_i (v1 + 80))), (6, .int (z_i (v1 + 1))), (5, .int (z_i v1)), (0, .ref y), (1, .int (z_i gi)), (2, .int (z_i i)), (3, .int (z_i j)), (4, .int (z_i lv))]) hx hb dX8_cell_111 hl (by decide) rfl (fun ls hl => ?_)
          refine lv_iload hx hb dX8_cell_113 (lv_at hl 3 rfl) ?_
          refine lv_iload hx hb dX8_cell_115 (lv_at hl 2 rfl) ?_
          refine lx_icmp_eq (tgt := 261) hx hb dX8_cell_117 (by decide) ⟨by decide, by decide⟩ ⟨by decide, by decide⟩ (fun _ => ?_) (fun hc => absurd hc (by decide))
          refine lv_iconst (v := z_i (-1)) hx hb dX8_cell_261 rfl ?_
          refine lv_istore (lv' := [(13, .int (z_i (-1))), (12, .int (z_i 0)), (11, .int (z_i 0)), (10, .int (z_i 0)), (9, .int (z_i 0)), (8, .int (z_i (v1 + 3))), (7, .int (z_i (v1 + 80))), (6, .int (z_i (v1 + 1))), (5, .int (z_i v1)), (0, .ref y), (1, .int (z_i gi)), (2, .int (z_i i)), (3, .int (z_i j)), (4, .int (z_i lv))]) hx hb dX8_cell_262 hl (by decide) rfl (fun ls hl => ?_)
          refine lv_iconst (v := z_i (-1)) hx hb dX8_cell_264 rfl ?_
          refine lv_istore (lv' := [(14, .int (z_i (-1))), (13, .int (z_i (-1))), (12, .int (z_i 0)), (11, .int (z_i 0)), (10, .int (z_i 0)), (9, .int (z_i 0)), (8, .int (z_i (v1 + 3))), (7, .int (z_i (v1 + 80))), (6, .int (z_i (v1 + 1))), (5, .int (z_i v1)), (0, .ref y), (1, .int (z_i gi)), (2, .int (z_i i)), (3, .int (z_i j)), (4, .int (z_i lv))]) hx hb dX8_cell_265 hl (by decide) rfl (fun ls hl => ?_)
          refine lv_iload hx hb dX8_cell_267 (lv_at hl 5 rfl) ?_
          refine lv_iload hx hb dX8_cell_269 (lv_at hl 4 rfl) ?_
          refine lx_icmp_eq (tgt := 278) hx hb dX8_cell_271 (by decide) ⟨by decide, by decide⟩ ⟨by decide, by decide⟩ (fun _ => ?_) (fun hc => absurd hc (by decide))
          refine lv_iload hx hb dX8_cell_278 (lv_at hl 5 rfl) ?_
          refine lv_iload hx hb dX8_cell_280 (lv_at hl 3 rfl) ?_
          refine lx_icmp_eq (tgt := 293) hx hb dX8_cell_282 (by decide) ⟨by decide, by decide⟩ ⟨by decide, by decide⟩ (fun _ => ?_) (fun hc => absurd hc (by decide))
          refine lv_iload hx hb dX8_cell_293 (lv_at hl 4 rfl) ?_
          refine lv_iload hx hb dX8_cell_295 (lv_at hl 2 rfl) ?_
          refine lx_icmp_eq (tgt := 308) hx hb dX8_cell_297 (by decide) ⟨by decide, by decide⟩ ⟨by decide, by decide⟩ (fun _ => ?_) (fun hc => absurd hc (by decide))
          refine lv_iload hx hb dX8_cell_308 (lv_at hl 3 rfl) ?_
          refine lv_iload hx hb dX8_cell_310 (lv_at hl 2 rfl) ?_
          refine lx_icmp_eq (tgt := 323) hx hb dX8_cell_312 (by decide) ⟨by decide, by decide⟩ ⟨by decide, by decide⟩ (fun _ => ?_) (fun hc => absurd hc (by decide))
          refine lv_iload hx hb dX8_cell_323 (lv_at hl 1 rfl) ?_
          refine lx_if_lt (tgt := 344) hx hb dX8_cell_325 (by decide) ⟨by decide, by decide⟩ (fun _ => ?_) (fun hc => absurd hc (by decide))
          exact W.vret hx hb hr (fun t ht hW => ⟨⟨(y_leads, y_isLed), rfl, hv, z_pt hP ht⟩, hS.F ht⟩) hS.2.2 dX8_cell_344
        · have hv := hv.2 hc
          refine lv_iconst (v := z_i 1) hx hb dX8_cell_106 rfl ?_
          refine lv_goto (tgt := 111) hx hb dX8_cell_107 (by decide) ?_
          refine lv_istore (lv' := [(12, .int (z_i 1)), (11, .int (z_i 0)), (10, .int (z_i 0)), (9, .int (z_i 0)), (8, .int (z_i (v1 + 3))), (7, .int (z_i (v1 + 80))), (6, .int (z_i (v1 + 1))), (5, .int (z_i v1)), (0, .ref y), (1, .int (z_i gi)), (2, .int (z_i i)), (3, .int (z_i j)), (4, .int (z_i lv))]) hx hb dX8_cell_111 hl (by decide) rfl (fun ls hl => ?_)
          refine lv_iload hx hb dX8_cell_113 (lv_at hl 3 rfl) ?_
          refine lv_iload hx hb dX8_cell_115 (lv_at hl 2 rfl) ?_
          refine lx_icmp_eq (tgt := 261) hx hb dX8_cell_117 (by decide) ⟨by decide, by decide⟩ ⟨by decide, by decide⟩ (fun _ => ?_) (fun hc => absurd hc (by decide))
          refine lv_iconst (v := z_i (-1)) hx hb dX8_cell_261 rfl ?_
          refine lv_istore (lv' := [(13, .int (z_i (-1))), (12, .int (z_i 1)), (11, .int (z_i 0)), (10, .int (z_i 0)), (9, .int (z_i 0)), (8, .int (z_i (v1 + 3))), (7, .int (z_i (v1 + 80))), (6, .int (z_i (v1 + 1))), (5, .int (z_i v1)), (0, .ref y), (1, .int (z_i gi)), (2, .int (z_i i)), (3, .int (z_i j)), (4, .int (z_i lv))]) hx hb dX8_cell_262 hl (by decide) rfl (fun ls hl => ?_)
          refine lv_iconst (v := z_i (-1)) hx hb dX8_cell_264 rfl ?_
          refine lv_istore (lv' := [(14, .int (z_i (-1))), (13, .int (z_i (-1))), (12, .int (z_i 1)), (11, .int (z_i 0)), (10, .int (z_i 0)), (9, .int (z_i 0)), (8, .int (z_i (v1 + 3))), (7, .int (z_i (v1 + 80))), (6, .int (z_i (v1 + 1))), (5, .int (z_i v1)), (0, .ref y), (1, .int (z_i gi)), (2, .int (z_i i)), (3, .int (z_i j)), (4, .int (z_i lv))]) hx hb dX8_cell_265 hl (by decide) rfl (fun ls hl => ?_)
          refine lv_iload hx hb dX8_cell_267 (lv_at hl 5 rfl) ?_
          refine lv_iload hx hb dX8_cell_269 (lv_at hl 4 rfl) ?_
          refine lx_icmp_eq (tgt := 278) hx hb dX8_cell_271 (by decide) ⟨by decide, by decide⟩ ⟨by decide, by decide⟩ (fun _ => ?_) (fun hc => absurd hc (by decide))
          refine lv_iload hx hb dX8_cell_278 (lv_at hl 5 rfl) ?_
          refine lv_iload hx hb dX8_cell_280 (lv_at hl 3 rfl) ?_
          refine lx_icmp_eq (tgt := 293) hx hb dX8_cell_282 (by decide) ⟨by decide, by decide⟩ ⟨by decide, by decide⟩ (fun _ => ?_) (fun hc => absurd hc (by decide))
          refine lv_iload hx hb dX8_cell_293 (lv_at hl 4 rfl) ?_
          refine lv_iload hx hb dX8_cell_295 (lv_at hl 2 rfl) ?_
          refine lx_icmp_eq (tgt := 308) hx hb dX8_cell_297 (by decide) ⟨by decide, by decide⟩ ⟨by decide, by decide⟩ (fun hc => absurd hc (by decide)) (fun _ => ?_)
          refine lv_iload hx hb dX8_cell_300 (lv_at hl 1 rfl) ?_
          refine lv_istore (lv' := [(14, .int (z_i (-1))), (13, .int (z_i (-1))), (12, .int (z_i 1)), (11, .int (z_i 0)), (10, .int (z_i 0)), (9, .int (z_i 0)), (8, .int (z_i (v1 + 3))), (7, .int (z_i (v1 + 80))), (6, .int (z_i (v1 + 1))), (5, .int (z_i v1)), (0, .ref y), (1, .int (z_i gi)), (2, .int (z_i i)), (3, .int (z_i j)), (4, .int (z_i lv))]) hx hb dX8_cell_302 hl (by decide) rfl (fun ls hl => ?_)
          refine lv_iload hx hb dX8_cell_304 (lv_at hl 6 rfl) ?_
          refine lv_istore (lv' := [(13, .int (z_i (v1 + 3))), (14, .int (z_i (-1))), (12, .int (z_i 1)), (11, .int (z_i 0)), (10, .int (z_i 0)), (9, .int (z_i 0)), (8, .int (z_i (v1 + 3))), (7, .int (z_i (v1 + 80))), (6, .int (z_i (v1 + 1))), (5, .int (z_i v1)), (0, .ref y), (1, .int (z_i gi)), (2, .int (z_i i)), (3, .int (z_i j)), (4, .int (z_i lv))]) hx hb dX8_cell_306 hl (by decide) rfl (fun ls hl => ?_)
          refine lv_iload hx hb dX8_cell_308 (lv_at hl 3 rfl) ?_
          refine lv_iload hx hb dX8_cell_310 (lv_at hl 2 rfl) ?_
          refine lx_icmp_eq (tgt := 323) hx hb dX8_cell_312 (by decide) ⟨by decide, by decide⟩ ⟨by decide, by decide⟩ (fun hc => absurd hc (by decide)) (fun _ => ?_)
          refine lv_iload hx hb dX8_cell_315 (lv_at hl 0 rfl) ?_
          refine lv_istore (lv' := [(14, .int (z_i (v1 + 3))), (13, .int (z_i (v1 + 3))), (12, .int (z_i 1)), (11, .int (z_i 0)), (10, .int (z_i 0)), (9, .int (z_i 0)), (8, .int (z_i (v1 + 3))), (7, .int (z_i (v1 + 80))), (6, .int (z_i (v1 + 1))), (5, .int (z_i v1)), (0, .ref y), (1, .int (z_i gi)), (2, .int (z_i i)), (3, .int (z_i j)), (4, .int (z_i lv))]) hx hb dX8_cell_317 hl (by decide) rfl (fun ls hl => ?_)
          refine lv_iload hx hb dX8_cell_319 (lv_at hl 7 rfl) ?_
          refine lv_istore (lv' := [(13, .int (z_i (v1 + 80))), (14, .int (z_i (v1 + 3))), (12, .int (z_i 1)), (11, .int (z_i 0)), (10, .int (z_i 0)), (9, .int (z_i 0)), (8, .int (z_i (v1 + 3))), (7, .int (z_i (v1 + 80))), (6, .int (z_i (v1 + 1))), (5, .int (z_i v1)), (0, .ref y), (1, .int (z_i gi)), (2, .int (z_i i)), (3, .int (z_i j)), (4, .int (z_i lv))]) hx hb dX8_cell_321 hl (by decide) rfl (fun ls hl => ?_)
          refine lv_iload hx hb dX8_cell_323 (lv_at hl 0 rfl) ?_
          obtain ⟨hr22, hv⟩ := hv
          refine lx_if_lt (tgt := 344) hx hb dX8_cell_325 (by decide) hr22 (fun hc => ?_) (fun hc => ?_)
          · have hv := hv.1 hc
            exact W.vret hx hb hr (fun t ht hW => ⟨⟨(y_leads, y_isLed), rfl, hv, z_pt hP ht⟩, hS.F ht⟩) hS.2.2 dX8_cell_344
          · have hv := hv.2 hc
            refine lv_iload hx hb dX8_cell_328 (lv_at hl 1 rfl) ?_
            obtain ⟨hr23, hv⟩ := hv
            refine lx_if_lt (tgt := 344) hx hb dX8_cell_330 (by decide) hr23 (fun hc => ?_) (fun hc => ?_)
            · have hv := hv.1 hc
              exact W.vret hx hb hr (fun t ht hW => ⟨⟨(y_leads, y_isLed), rfl, hv, z_pt hP ht⟩, hS.F ht⟩) hS.2.2 dX8_cell_344
            · have hv := hv.2 hc
              refine lv_aload_n hx hb dX8_cell_333 rfl (lv_at hl 10 rfl) ?_
              refine lv_iload_n hx hb dX8_cell_334 rfl (lv_at hl 11 rfl) ?_
              refine lv_iload hx hb dX8_cell_335 (lv_at hl 0 rfl) ?_
              refine lv_iload hx hb dX8_cell_337 (lv_at hl 1 rfl) ?_
              refine lv_iload hx hb dX8_cell_339 (lv_at hl 14 rfl) ?_
              obtain ⟨hp24, hv⟩ := hv
              obtain ⟨hp25, hv⟩ := hv
              obtain ⟨hp26, hv⟩ := hv
              have hFc := z_fr (A := A) (wc := [(y, .inr (6, [.ref y_space, .ref y_offset, .ref y_length, .ref ya_units, .ref y_isThere, .int (z_i y_levels), .ref y_level, .int (z_i y_lines), .ref y_lineLevel, .ref y_lineUnits, .ref y_lineFrom, .ref y_lineMany, .ref y_isClosed, .ref y_insides, .ref y_parent, .ref y_isHigh, .ref y_inBits, .int (z_i y_sides), .ref y_side, .ref y_sideA, .ref y_sideB, .int (z_i y_lineSpace), .ref y_wasThere, .ref ya_leads, .ref ya_isLed, .ref y_isOn, .ref y_goesTo, .ref y_stream, .ref y_filled, .ref y_isDone, .ref y_isReached, .ref y_newUnits, .ref y_isNew])), (ya_units, .inl (cA 1, 5120, .inl y_units)), (ya_leads, .inl (cA 1, 2560, .inl y_leads)), (ya_isLed, .inl (cA 3, 2560, .inl y_isLed))]) hD [0, 1, 2, 3] rfl
              refine va_callv (va_runV (As := [.int (z_i gi), .int (z_i (v1 + 80)), .int (z_i (v1 + 3)), .int (z_i lv)]) (rest := []) ⟨hx, hb, hml, hown, hts⟩ (mt_X8_joins l D cA y y_space y_offset y_length ya_units y_units y_isThere y_levels y_level y_lines y_lineLevel y_lineUnits y_lineFrom y_lineMany y_isClosed y_insides y_parent y_isHigh y_inBits y_sides y_side y_sideA y_sideB y_lineSpace y_wasThere ya_leads y_leads ya_isLed y_isLed y_isOn y_goesTo y_stream y_filled y_isDone y_isReached y_newUnits y_isNew gi (v1 + 80) (v1 + 3) lv h_y_levels h_y_lines h_y_sides h_y_lineSpace h_gi hr22 hr23 h_lv hp24 hp25 hp26) (cwV 4 hts gX8_cell_X8_joins rfl rfl rfl (by decide +kernel) ⟨Nat.le_of_ble_eq_true rfl, Nat.le_of_ble_eq_true rfl⟩) ⟨z_blm0, va_recv hK hP (ci := 6) (q0 := 0) rfl rfl, fun U hU hW => ⟨rfl, z_m0 hK hP hD hU hW⟩⟩ rfl rfl hl.1 rfl (lv_room (Nat.le_of_ble_eq_true rfl)) dX8_cell_341 ⟨Nat.zero_le _, Nat.zero_le _⟩) hS (fun q _ h => hFc q h) hFc (fun u t H locs ht hvm hw hB hz1 hk1 hS => ?_)
              obtain ⟨c27, c28⟩ := u
              rw [ht] at hB
              have hP := hB
              have hP : va_P D vwCl [(y, .inr (6, [.ref y_space, .ref y_offset, .ref y_length, .ref ya_units, .ref y_isThere, .int (z_i y_levels), .ref y_level, .int (z_i y_lines), .ref y_lineLevel, .ref y_lineUnits, .ref y_lineFrom, .ref y_lineMany, .ref y_isClosed, .ref y_insides, .ref y_parent, .ref y_isHigh, .ref y_inBits, .int (z_i y_sides), .ref y_side, .ref y_sideA, .ref y_sideB, .int (z_i y_lineSpace), .ref y_wasThere, .ref ya_leads, .ref ya_isLed, .ref y_isOn, .ref y_goesTo, .ref y_stream, .ref y_filled, .ref y_isDone, .ref y_isReached, .ref y_newUnits, .ref y_isNew])), (ya_units, .inl (cA 1, 5120, .inl y_units)), (ya_leads, .inl (cA 1, 2560, .inl c27)), (ya_isLed, .inl (cA 3, 2560, .inl c28))] H := hP
              have hD : va_D A [(y, .inr (6, [.ref y_space, .ref y_offset, .ref y_length, .ref ya_units, .ref y_isThere, .int (z_i y_levels), .ref y_level, .int (z_i y_lines), .ref y_lineLevel, .ref y_lineUnits, .ref y_lineFrom, .ref y_lineMany, .ref y_isClosed, .ref y_insides, .ref y_parent, .ref y_isHigh, .ref y_inBits, .int (z_i y_sides), .ref y_side, .ref y_sideA, .ref y_sideB, .int (z_i y_lineSpace), .ref y_wasThere, .ref ya_leads, .ref ya_isLed, .ref y_isOn, .ref y_goesTo, .ref y_stream, .ref y_filled, .ref y_isDone, .ref y_isReached, .ref y_newUnits, .ref y_isNew])), (ya_units, .inl (cA 1, 5120, .inl y_units)), (ya_leads, .inl (cA 1, 2560, .inl c27)), (ya_isLed, .inl (cA 3, 2560, .inl c28))] := z_D_addr hD rfl
              have hv := hv c27 c28 hw
              exact W.vret hx hb hr (fun t ht hW => ⟨⟨(c27, c28), rfl, hv, z_pt hP ht⟩, hS.F ht⟩) hS.2.2 dX8_cell_344
      · have hv := hv.2 hc
        refine lv_iconst (v := z_i 1) hx hb dX8_cell_83 rfl ?_
        refine lv_goto (tgt := 88) hx hb dX8_cell_84 (by decide) ?_
        refine lv_istore (lv' := [(11, .int (z_i 1)), (10, .int (z_i 0)), (9, .int (z_i 0)), (8, .int (z_i (v1 + 3))), (7, .int (z_i (v1 + 80))), (6, .int (z_i (v1 + 1))), (5, .int (z_i v1)), (0, .ref y), (1, .int (z_i gi)), (2, .int (z_i i)), (3, .int (z_i j)), (4, .int (z_i lv))]) hx hb dX8_cell_88 hl (by decide) rfl (fun ls hl => ?_)
        refine lv_aload_n hx hb dX8_cell_90 rfl (lv_at hl 7 rfl) ?_
        refine lv_iload_n hx hb dX8_cell_91 rfl (lv_at hl 8 rfl) ?_
        refine lv_iload_n hx hb dX8_cell_92 rfl (lv_at hl 9 rfl) ?_
        refine lv_iconst (v := z_i 1) hx hb dX8_cell_93 rfl ?_
        refine lx_iadd hx hb dX8_cell_94 ?_
        refine lv_iload_n hx hb dX8_cell_95 rfl (lv_at hl 10 rfl) ?_
        refine lv_iconst (v := z_i 1) hx hb dX8_cell_96 rfl ?_
        refine lx_iadd hx hb dX8_cell_97 ?_
        obtain ⟨hp29, hv⟩ := hv
        obtain ⟨hp30, hv⟩ := hv
        obtain ⟨hp31, hv⟩ := hv
        refine va_calli (va_runV (As := [.int (z_i gi), .int (z_i (i + 1)), .int (z_i (j + 1))]) (rest := []) ⟨hx, hb, hml, hown, hts⟩ (mt_X8_h l D cA y y_space y_offset y_length ya_units y_units y_isThere y_levels y_level y_lines y_lineLevel y_lineUnits y_lineFrom y_lineMany y_isClosed y_insides y_parent y_isHigh y_inBits y_sides y_side y_sideA y_sideB y_lineSpace y_wasThere ya_leads ya_isLed y_isOn y_goesTo y_stream y_filled y_isDone y_isReached y_newUnits y_isNew gi (i + 1) (j + 1) h_y_levels h_y_lines h_y_sides h_y_lineSpace h_gi hr13 hr8 hp29 hp30 hp31) (cwV 3 hts gX8_cell_X8_h rfl rfl rfl (by decide +kernel) ⟨Nat.le_of_ble_eq_true rfl, Nat.le_of_ble_eq_true rfl⟩) ⟨z_bl0, va_recv hK hP (ci := 6) (q0 := 0) rfl rfl, fun U hU hW => ⟨rfl, z_b0 hK (hP.sub (ws' := [(y, .inr (6, [.ref y_space, .ref y_offset, .ref y_length, .ref ya_units, .ref y_isThere, .int (z_i y_levels), .ref y_level, .int (z_i y_lines), .ref y_lineLevel, .ref y_lineUnits, .ref y_lineFrom, .ref y_lineMany, .ref y_isClosed, .ref y_insides, .ref y_parent, .ref y_isHigh, .ref y_inBits, .int (z_i y_sides), .ref y_side, .ref y_sideA, .ref y_sideB, .int (z_i y_lineSpace), .ref y_wasThere, .ref ya_leads, .ref ya_isLed, .ref y_isOn, .ref y_goesTo, .ref y_stream, .ref y_filled, .ref y_isDone, .ref y_isReached, .ref y_newUnits, .ref y_isNew])), (ya_units, .inl (cA 1, 5120, .inl y_units))]) [0, 1] rfl) hU hW⟩⟩ rfl rfl hl.1 rfl (lv_room (Nat.le_of_ble_eq_true rfl)) dX8_cell_98 ⟨Nat.zero_le _, Nat.zero_le _⟩) hS (fun q _ h => h.elim) (fun q h => h.elim) (fun r0 u t H locs ht hvm hw hB hz1 hk1 hS => ?_)
        obtain ⟨r32, rfl, h_r32, hw⟩ := hw
        have hP := z_P_all hP hk1
        have hv := hv r32 h_r32 hw
        refine lv_iload hx hb dX8_cell_101 (lv_at hl 11 rfl) ?_
        refine lx_icmp_lt (tgt := 110) hx hb dX8_cell_103 (by decide) h_r32 h_lv (fun hc => ?_) (fun hc => ?_)
        · have hv := hv.1 hc
          refine lv_iconst (v := z_i 0) hx hb dX8_cell_110 rfl ?_
          refine lv_istore (lv' := [(12, .int (z_i 0)), (11, .int (z_i 1)), (10, .int (z_i 0)), (9, .int (z_i 0)), (8, .int (z_i (v1 + 3))), (7, .int (z_i (v1 + 80))), (6, .int (z_i (v1 + 1))), (5, .int (z_i v1)), (0, .ref y), (1, .int (z_i gi)), (2, .int (z_i i)), (3, .int (z_i j)), (4, .int (z_i lv))]) hx hb dX8_cell_111 hl (by decide) rfl (fun ls hl => ?_)
          refine lv_iload hx hb dX8_cell_113 (lv_at hl 3 rfl) ?_
          refine lv_iload hx hb dX8_cell_115 (lv_at hl 2 rfl) ?_
          refine lx_icmp_eq (tgt := 261) hx hb dX8_cell_117 (by decide) ⟨by decide, by decide⟩ ⟨by decide, by decide⟩ (fun _ => ?_) (fun hc => absurd hc (by decide))
          refine lv_iconst (v := z_i (-1)) hx hb dX8_cell_261 rfl ?_
          refine lv_istore (lv' := [(13, .int (z_i (-1))), (12, .int (z_i 0)), (11, .int (z_i 1)), (10, .int (z_i 0)), (9, .int (z_i 0)), (8, .int (z_i (v1 + 3))), (7, .int (z_i (v1 + 80))), (6, .int (z_i (v1 + 1))), (5, .int (z_i v1)), (0, .ref y), (1, .int (z_i gi)), (2, .int (z_i i)), (3, .int (z_i j)), (4, .int (z_i lv))]) hx hb dX8_cell_262 hl (by decide) rfl (fun ls hl => ?_)
          refine lv_iconst (v := z_i (-1)) hx hb dX8_cell_264 rfl ?_
          refine lv_istore (lv' := [(14, .int (z_i (-1))), (13, .int (z_i (-1))), (12, .int (z_i 0)), (11, .int (z_i 1)), (10, .int (z_i 0)), (9, .int (z_i 0)), (8, .int (z_i (v1 + 3))), (7, .int (z_i (v1 + 80))), (6, .int (z_i (v1 + 1))), (5, .int (z_i v1)), (0, .ref y), (1, .int (z_i gi)), (2, .int (z_i i)), (3, .int (z_i j)), (4, .int (z_i lv))]) hx hb dX8_cell_265 hl (by decide) rfl (fun ls hl => ?_)
          refine lv_iload hx hb dX8_cell_267 (lv_at hl 5 rfl) ?_
          refine lv_iload hx hb dX8_cell_269 (lv_at hl 4 rfl) ?_
          refine lx_icmp_eq (tgt := 278) hx hb dX8_cell_271 (by decide) ⟨by decide, by decide⟩ ⟨by decide, by decide⟩ (fun _ => ?_) (fun hc => absurd hc (by decide))
          refine lv_iload hx hb dX8_cell_278 (lv_at hl 5 rfl) ?_
          refine lv_iload hx hb dX8_cell_280 (lv_at hl 3 rfl) ?_
          refine lx_icmp_eq (tgt := 293) hx hb dX8_cell_282 (by decide) ⟨by decide, by decide⟩ ⟨by decide, by decide⟩ (fun hc => absurd hc (by decide)) (fun _ => ?_)
          refine lv_iload hx hb dX8_cell_285 (lv_at hl 1 rfl) ?_
          refine lv_istore (lv' := [(14, .int (z_i (-1))), (13, .int (z_i (-1))), (12, .int (z_i 0)), (11, .int (z_i 1)), (10, .int (z_i 0)), (9, .int (z_i 0)), (8, .int (z_i (v1 + 3))), (7, .int (z_i (v1 + 80))), (6, .int (z_i (v1 + 1))), (5, .int (z_i v1)), (0, .ref y), (1, .int (z_i gi)), (2, .int (z_i i)), (3, .int (z_i j)), (4, .int (z_i lv))]) hx hb dX8_cell_287 hl (by decide) rfl (fun ls hl => ?_)
          refine lv_iload hx hb dX8_cell_289 (lv_at hl 8 rfl) ?_
          refine lv_istore (lv' := [(13, .int (z_i (v1 + 1))), (14, .int (z_i (-1))), (12, .int (z_i 0)), (11, .int (z_i 1)), (10, .int (z_i 0)), (9, .int (z_i 0)), (8, .int (z_i (v1 + 3))), (7, .int (z_i (v1 + 80))), (6, .int (z_i (v1 + 1))), (5, .int (z_i v1)), (0, .ref y), (1, .int (z_i gi)), (2, .int (z_i i)), (3, .int (z_i j)), (4, .int (z_i lv))]) hx hb dX8_cell_291 hl (by decide) rfl (fun ls hl => ?_)
          refine lv_iload hx hb dX8_cell_293 (lv_at hl 4 rfl) ?_
          refine lv_iload hx hb dX8_cell_295 (lv_at hl 2 rfl) ?_
          refine lx_icmp_eq (tgt := 308) hx hb dX8_cell_297 (by decide) ⟨by decide, by decide⟩ ⟨by decide, by decide⟩ (fun _ => ?_) (fun hc => absurd hc (by decide))
          refine lv_iload hx hb dX8_cell_308 (lv_at hl 3 rfl) ?_
          refine lv_iload hx hb dX8_cell_310 (lv_at hl 2 rfl) ?_
          refine lx_icmp_eq (tgt := 323) hx hb dX8_cell_312 (by decide) ⟨by decide, by decide⟩ ⟨by decide, by decide⟩ (fun hc => absurd hc (by decide)) (fun _ => ?_)
          refine lv_iload hx hb dX8_cell_315 (lv_at hl 0 rfl) ?_
          refine lv_istore (lv' := [(14, .int (z_i (v1 + 1))), (13, .int (z_i (v1 + 1))), (12, .int (z_i 0)), (11, .int (z_i 1)), (10, .int (z_i 0)), (9, .int (z_i 0)), (8, .int (z_i (v1 + 3))), (7, .int (z_i (v1 + 80))), (6, .int (z_i (v1 + 1))), (5, .int (z_i v1)), (0, .ref y), (1, .int (z_i gi)), (2, .int (z_i i)), (3, .int (z_i j)), (4, .int (z_i lv))]) hx hb dX8_cell_317 hl (by decide) rfl (fun ls hl => ?_)
          refine lv_iload hx hb dX8_cell_319 (lv_at hl 7 rfl) ?_
          refine lv_istore (lv' := [(13, .int (z_i (v1 + 80))), (14, .int (z_i (v1 + 1))), (12, .int (z_i 0)), (11, .int (z_i 1)), (10, .int (z_i 0)), (9, .int (z_i 0)), (8, .int (z_i (v1 + 3))), (7, .int (z_i (v1 + 80))), (6, .int (z_i (v1 + 1))), (5, .int (z_i v1)), (0, .ref y), (1, .int (z_i gi)), (2, .int (z_i i)), (3, .int (z_i j)), (4, .int (z_i lv))]) hx hb dX8_cell_321 hl (by decide) rfl (fun ls hl => ?_)
          refine lv_iload hx hb dX8_cell_323 (lv_at hl 0 rfl) ?_
          obtain ⟨hr33, hv⟩ := hv
          refine lx_if_lt (tgt := 344) hx hb dX8_cell_325 (by decide) hr33 (fun hc => ?_) (fun hc => ?_)
          · have hv := hv.1 hc
            exact W.vret hx hb hr (fun t ht hW => ⟨⟨(y_leads, y_isLed), rfl, hv, z_pt hP ht⟩, hS.F ht⟩) hS.2.2 dX8_cell_344
          · have hv := hv.2 hc
            refine lv_iload hx hb dX8_cell_328 (lv_at hl 1 rfl) ?_
            obtain ⟨hr34, hv⟩ := hv
            refine lx_if_lt (tgt := 344) hx hb dX8_cell_330 (by decide) hr34 (fun hc => ?_) (fun hc => ?_)
            · have hv := hv.1 hc
              exact W.vret hx hb hr (fun t ht hW => ⟨⟨(y_leads, y_isLed), rfl, hv, z_pt hP ht⟩, hS.F ht⟩) hS.2.2 dX8_cell_344
            · have hv := hv.2 hc
              refine lv_aload_n hx hb dX8_cell_333 rfl (lv_at hl 10 rfl) ?_
              refine lv_iload_n hx hb dX8_cell_334 rfl (lv_at hl 11 rfl) ?_
              refine lv_iload hx hb dX8_cell_335 (lv_at hl 0 rfl) ?_
              refine lv_iload hx hb dX8_cell_337 (lv_at hl 1 rfl) ?_
              refine lv_iload hx hb dX8_cell_339 (lv_at hl 14 rfl) ?_
              obtain ⟨hp35, hv⟩ := hv
              obtain ⟨hp36, hv⟩ := hv
              obtain ⟨hp37, hv⟩ := hv
              have hFc := z_fr (A := A) (wc := [(y, .inr (6, [.ref y_space, .ref y_offset, .ref y_length, .ref ya_units, .ref y_isThere, .int (z_i y_levels), .ref y_level, .int (z_i y_lines), .ref y_lineLevel, .ref y_lineUnits, .ref y_lineFrom, .ref y_lineMany, .ref y_isClosed, .ref y_insides, .ref y_parent, .ref y_isHigh, .ref y_inBits, .int (z_i y_sides), .ref y_side, .ref y_sideA, .ref y_sideB, .int (z_i y_lineSpace), .ref y_wasThere, .ref ya_leads, .ref ya_isLed, .ref y_isOn, .ref y_goesTo, .ref y_stream, .ref y_filled, .ref y_isDone, .ref y_isReached, .ref y_newUnits, .ref y_isNew])), (ya_units, .inl (cA 1, 5120, .inl y_units)), (ya_leads, .inl (cA 1, 2560, .inl y_leads)), (ya_isLed, .inl (cA 3, 2560, .inl y_isLed))]) hD [0, 1, 2, 3] rfl
              refine va_callv (va_runV (As := [.int (z_i gi), .int (z_i (v1 + 80)), .int (z_i (v1 + 1)), .int (z_i lv)]) (rest := []) ⟨hx, hb, hml, hown, hts⟩ (mt_X8_joins l D cA y y_space y_offset y_length ya_units y_units y_isThere y_levels y_level y_lines y_lineLevel y_lineUnits y_lineFrom y_lineMany y_isClosed y_insides y_parent y_isHigh y_inBits y_sides y_side y_sideA y_sideB y_lineSpace y_wasThere ya_leads y_leads ya_isLed y_isLed y_isOn y_goesTo y_stream y_filled y_isDone y_isReached y_newUnits y_isNew gi (v1 + 80) (v1 + 1) lv h_y_levels h_y_lines h_y_sides h_y_lineSpace h_gi hr33 hr34 h_lv hp35 hp36 hp37) (cwV 4 hts gX8_cell_X8_joins rfl rfl rfl (by decide +kernel) ⟨Nat.le_of_ble_eq_true rfl, Nat.le_of_ble_eq_true rfl⟩) ⟨z_blm0, va_recv hK hP (ci := 6) (q0 := 0) rfl rfl, fun U hU hW => ⟨rfl, z_m0 hK hP hD hU hW⟩⟩ rfl rfl hl.1 rfl (lv_room (Nat.le_of_ble_eq_true rfl)) dX8_cell_341 ⟨Nat.zero_le _, Nat.zero_le _⟩) hS (fun q _ h => hFc q h) hFc (fun u t H locs ht hvm hw hB hz1 hk1 hS => ?_)
              obtain ⟨c38, c39⟩ := u
              rw [ht] at hB
              have hP := hB
              have hP : va_P D vwCl [(y, .inr (6, [.ref y_space, .ref y_offset, .ref y_length, .ref ya_units, .ref y_isThere, .int (z_i y_levels), .ref y_level, .int (z_i y_lines), .ref y_lineLevel, .ref y_lineUnits, .ref y_lineFrom, .ref y_lineMany, .ref y_isClosed, .ref y_insides, .ref y_parent, .ref y_isHigh, .ref y_inBits, .int (z_i y_sides), .ref y_side, .ref y_sideA, .ref y_sideB, .int (z_i y_lineSpace), .ref y_wasThere, .ref ya_leads, .ref ya_isLed, .ref y_isOn, .ref y_goesTo, .ref y_stream, .ref y_filled, .ref y_isDone, .ref y_isReached, .ref y_newUnits, .ref y_isNew])), (ya_units, .inl (cA 1, 5120, .inl y_units)), (ya_leads, .inl (cA 1, 2560, .inl c38)), (ya_isLed, .inl (cA 3, 2560, .inl c39))] H := hP
              have hD : va_D A [(y, .inr (6, [.ref y_space, .ref y_offset, .ref y_length, .ref ya_units, .ref y_isThere, .int (z_i y_levels), .ref y_level, .int (z_i y_lines), .ref y_lineLevel, .ref y_lineUnits, .ref y_lineFrom, .ref y_lineMany, .ref y_isClosed, .ref y_insides, .ref y_parent, .ref y_isHigh, .ref y_inBits, .int (z_i y_sides), .ref y_side, .ref y_sideA, .ref y_sideB, .int (z_i y_lineSpace), .ref y_wasThere, .ref ya_leads, .ref ya_isLed, .ref y_isOn, .ref y_goesTo, .ref y_stream, .ref y_filled, .ref y_isDone, .ref y_isReached, .ref y_newUnits, .ref y_isNew])), (ya_units, .inl (cA 1, 5120, .inl y_units)), (ya_leads, .inl (cA 1, 2560, .inl c38)), (ya_isLed, .inl (cA 3, 2560, .inl c39))] := z_D_addr hD rfl
              have hv := hv c38 c39 hw
              exact W.vret hx hb hr (fun t ht hW => ⟨⟨(c38, c39), rfl, hv, z_pt hP ht⟩, hS.F ht⟩) hS.2.2 dX8_cell_344
        · have hv := hv.2 hc
          refine lv_iconst (v := z_i 1) hx hb dX8_cell_106 rfl ?_
          refine lv_goto (tgt := 111) hx hb dX8_cell_107 (by decide) ?_
          refine lv_istore (lv' := [(12, .int (z_i 1)), (11, .int (z_i 1)), (10, .int (z_i 0)), (9, .int (z_i 0)), (8, .int (z_i (v1 + 3))), (7, .int (z_i (v1 + 80))), (6, .int (z_i (v1 + 1))), (5, .int (z_i v1)), (0, .ref y), (1, .int (z_i gi)), (2, .int (z_i i)), (3, .int (z_i j)), (4, .int (z_i lv))]) hx hb dX8_cell_111 hl (by decide) rfl (fun ls hl => ?_)
          refine lv_iload hx hb dX8_cell_113 (lv_at hl 3 rfl) ?_
          refine lv_iload hx hb dX8_cell_115 (lv_at hl 2 rfl) ?_
          refine lx_icmp_eq (tgt := 261) hx hb dX8_cell_117 (by decide) ⟨by decide, by decide⟩ ⟨by decide, by decide⟩ (fun _ => ?_) (fun hc => absurd hc (by decide))
          refine lv_iconst (v := z_i (-1)) hx hb dX8_cell_261 rfl ?_
          refine lv_istore (lv' := [(13, .int (z_i (-1))), (12, .int (z_i 1)), (11, .int (z_i 1)), (10, .int (z_i 0)), (9, .int (z_i 0)), (8, .int (z_i (v1 + 3))), (7, .int (z_i (v1 + 80))), (6, .int (z_i (v1 + 1))), (5, .int (z_i v1)), (0, .ref y), (1, .int (z_i gi)), (2, .int (z_i i)), (3, .int (z_i j)), (4, .int (z_i lv))]) hx hb dX8_cell_262 hl (by decide) rfl (fun ls hl => ?_)
          refine lv_iconst (v := z_i (-1)) hx hb dX8_cell_264 rfl ?_
          refine lv_istore (lv' := [(14, .int (z_i (-1))), (13, .int (z_i (-1))), (12, .int (z_i 1)), (11, .int (z_i 1)), (10, .int (z_i 0)), (9, .int (z_i 0)), (8, .int (z_i (v1 + 3))), (7, .int (z_i (v1 + 80))), (6, .int (z_i (v1 + 1))), (5, .int (z_i v1)), (0, .ref y), (1, .int (z_i gi)), (2, .int (z_i i)), (3, .int (z_i j)), (4, .int (z_i lv))]) hx hb dX8_cell_265 hl (by decide) rfl (fun ls hl => ?_)
          refine lv_iload hx hb dX8_cell_267 (lv_at hl 5 rfl) ?_
          refine lv_iload hx hb dX8_cell_269 (lv_at hl 4 rfl) ?_
          refine lx_icmp_eq (tgt := 278) hx hb dX8_cell_271 (by decide) ⟨by decide, by decide⟩ ⟨by decide, by decide⟩ (fun _ => ?_) (fun hc => absurd hc (by decide))
          refine lv_iload hx hb dX8_cell_278 (lv_at hl 5 rfl) ?_
          refine lv_iload hx hb dX8_cell_280 (lv_at hl 3 rfl) ?_
          refine lx_icmp_eq (tgt := 293) hx hb dX8_cell_282 (by decide) ⟨by decide, by decide⟩ ⟨by decide, by decide⟩ (fun hc => absurd hc (by decide)) (fun _ => ?_)
          refine lv_iload hx hb dX8_cell_285 (lv_at hl 1 rfl) ?_
          refine lv_istore (lv' := [(14, .int (z_i (-1))), (13, .int (z_i (-1))), (12, .int (z_i 1)), (11, .int (z_i 1)), (10, .int (z_i 0)), (9, .int (z_i 0)), (8, .int (z_i (v1 + 3))), (7, .int (z_i (v1 + 80))), (6, .int (z_i (v1 + 1))), (5, .int (z_i v1)), (0, .ref y), (1, .int (z_i gi)), (2, .int (z_i i)), (3, .int (z_i j)), (4, .int (z_i lv))]) hx hb dX8_cell_287 hl (by decide) rfl (fun ls hl => ?_)
          refine lv_iload hx hb dX8_cell_289 (lv_at hl 8 rfl) ?_
          refine lv_istore (lv' := [(13, .int (z_i (v1 + 1))), (14, .int (z_i (-1))), (12, .int (z_i 1)), (11, .int (z_i 1)), (10, .int (z_i 0)), (9, .int (z_i 0)), (8, .int (z_i (v1 + 3))), (7, .int (z_i (v1 + 80))), (6, .int (z_i (v1 + 1))), (5, .int (z_i v1)), (0, .ref y), (1, .int (z_i gi)), (2, .int (z_i i)), (3, .int (z_i j)), (4, .int (z_i lv))]) hx hb dX8_cell_291 hl (by decide) rfl (fun ls hl => ?_)
          refine lv_iload hx hb dX8_cell_293 (lv_at hl 4 rfl) ?_
          refine lv_iload hx hb dX8_cell_295 (lv_at hl 2 rfl) ?_
          refine lx_icmp_eq (tgt := 308) hx hb dX8_cell_297 (by decide) ⟨by decide, by decide⟩ ⟨by decide, by decide⟩ (fun hc => absurd hc (by decide)) (fun _ => ?_)
          refine lv_iload hx hb dX8_cell_300 (lv_at hl 0 rfl) ?_
          refine lv_istore (lv' := [(14, .int (z_i (v1 + 1))), (13, .int (z_i (v1 + 1))), (12, .int (z_i 1)), (11, .int (z_i 1)), (10, .int (z_i 0)), (9, .int (z_i 0)), (8, .int (z_i (v1 + 3))), (7, .int (z_i (v1 + 80))), (6, .int (z_i (v1 + 1))), (5, .int (z_i v1)), (0, .ref y), (1, .int (z_i gi)), (2, .int (z_i i)), (3, .int (z_i j)), (4, .int (z_i lv))]) hx hb dX8_cell_302 hl (by decide) rfl (fun ls hl => ?_)
          refine lv_iload hx hb dX8_cell_304 (lv_at hl 6 rfl) ?_
          refine lv_istore (lv' := [(13, .int (z_i (v1 + 3))), (14, .int (z_i (v1 + 1))), (12, .int (z_i 1)), (11, .int (z_i 1)), (10, .int (z_i 0)), (9, .int (z_i 0)), (8, .int (z_i (v1 + 3))), (7, .int (z_i (v1 + 80))), (6, .int (z_i (v1 + 1))), (5, .int (z_i v1)), (0, .ref y), (1, .int (z_i gi)), (2, .int (z_i i)), (3, .int (z_i j)), (4, .int (z_i lv))]) hx hb dX8_cell_306 hl (by decide) rfl (fun ls hl => ?_)
          refine lv_iload hx hb dX8_cell_308 (lv_at hl 3 rfl) ?_
          refine lv_iload hx hb dX8_cell_310 (lv_at hl 2 rfl) ?_
          refine lx_icmp_eq (tgt := 323) hx hb dX8_cell_312 (by decide) ⟨by decide, by decide⟩ ⟨by decide, by decide⟩ (fun _ => ?_) (fun hc => absurd hc (by decide))
          refine lv_iload hx hb dX8_cell_323 (lv_at hl 0 rfl) ?_
          obtain ⟨hr40, hv⟩ := hv
          refine lx_if_lt (tgt := 344) hx hb dX8_cell_325 (by decide) hr40 (fun hc => ?_) (fun hc => ?_)
          · have hv := hv.1 hc
            exact W.vret hx hb hr (fun t ht hW => ⟨⟨(y_leads, y_isLed), rfl, hv, z_pt hP ht⟩, hS.F ht⟩) hS.2.2 dX8_cell_344
          · have hv := hv.2 hc
            refine lv_iload hx hb dX8_cell_328 (lv_at hl 1 rfl) ?_
            obtain ⟨hr41, hv⟩ := hv
            refine lx_if_lt (tgt := 344) hx hb dX8_cell_330 (by decide) hr41 (fun hc => ?_) (fun hc => ?_)
            · have hv := hv.1 hc
              exact W.vret hx hb hr (fun t ht hW => ⟨⟨(y_leads, y_isLed), rfl, hv, z_pt hP ht⟩, hS.F ht⟩) hS.2.2 dX8_cell_344
            · have hv := hv.2 hc
              refine lv_aload_n hx hb dX8_cell_333 rfl (lv_at hl 10 rfl) ?_
              refine lv_iload_n hx hb dX8_cell_334 rfl (lv_at hl 11 rfl) ?_
              refine lv_iload hx hb dX8_cell_335 (lv_at hl 0 rfl) ?_
              refine lv_iload hx hb dX8_cell_337 (lv_at hl 1 rfl) ?_
              refine lv_iload hx hb dX8_cell_339 (lv_at hl 14 rfl) ?_
              obtain ⟨hp42, hv⟩ := hv
              obtain ⟨hp43, hv⟩ := hv
              obtain ⟨hp44, hv⟩ := hv
              have hFc := z_fr (A := A) (wc := [(y, .inr (6, [.ref y_space, .ref y_offset, .ref y_length, .ref ya_units, .ref y_isThere, .int (z_i y_levels), .ref y_level, .int (z_i y_lines), .ref y_lineLevel, .ref y_lineUnits, .ref y_lineFrom, .ref y_lineMany, .ref y_isClosed, .ref y_insides, .ref y_parent, .ref y_isHigh, .ref y_inBits, .int (z_i y_sides), .ref y_side, .ref y_sideA, .ref y_sideB, .int (z_i y_lineSpace), .ref y_wasThere, .ref ya_leads, .ref ya_isLed, .ref y_isOn, .ref y_goesTo, .ref y_stream, .ref y_filled, .ref y_isDone, .ref y_isReached, .ref y_newUnits, .ref y_isNew])), (ya_units, .inl (cA 1, 5120, .inl y_units)), (ya_leads, .inl (cA 1, 2560, .inl y_leads)), (ya_isLed, .inl (cA 3, 2560, .inl y_isLed))]) hD [0, 1, 2, 3] rfl
              refine va_callv (va_runV (As := [.int (z_i gi), .int (z_i (v1 + 3)), .int (z_i (v1 + 1)), .int (z_i lv)]) (rest := []) ⟨hx, hb, hml, hown, hts⟩ (mt_X8_joins l D cA y y_space y_offset y_length ya_units y_units y_isThere y_levels y_level y_lines y_lineLevel y_lineUnits y_lineFrom y_lineMany y_isClosed y_insides y_parent y_isHigh y_inBits y_sides y_side y_sideA y_sideB y_lineSpace y_wasThere ya_leads y_leads ya_isLed y_isLed y_isOn y_goesTo y_stream y_filled y_isDone y_isReached y_newUnits y_isNew gi (v1 + 3) (v1 + 1) lv h_y_levels h_y_lines h_y_sides h_y_lineSpace h_gi hr40 hr41 h_lv hp42 hp43 hp44) (cwV 4 hts gX8_cell_X8_joins rfl rfl rfl (by decide +kernel) ⟨Nat.le_of_ble_eq_true rfl, Nat.le_of_ble_eq_true rfl⟩) ⟨z_blm0, va_recv hK hP (ci := 6) (q0 := 0) rfl rfl, fun U hU hW => ⟨rfl, z_m0 hK hP hD hU hW⟩⟩ rfl rfl hl.1 rfl (lv_room (Nat.le_of_ble_eq_true rfl)) dX8_cell_341 ⟨Nat.zero_le _, Nat.zero_le _⟩) hS (fun q _ h => hFc q h) hFc (fun u t H locs ht hvm hw hB hz1 hk1 hS => ?_)
              obtain ⟨c45, c46⟩ := u
              rw [ht] at hB
              have hP := hB
              have hP : va_P D vwCl [(y, .inr (6, [.ref y_space, .ref y_offset, .ref y_length, .ref ya_units, .ref y_isThere, .int (z_i y_levels), .ref y_level, .int (z_i y_lines), .ref y_lineLevel, .ref y_lineUnits, .ref y_lineFrom, .ref y_lineMany, .ref y_isClosed, .ref y_insides, .ref y_parent, .ref y_isHigh, .ref y_inBits, .int (z_i y_sides), .ref y_side, .ref y_sideA, .ref y_sideB, .int (z_i y_lineSpace), .ref y_wasThere, .ref ya_leads, .ref ya_isLed, .ref y_isOn, .ref y_goesTo, .ref y_stream, .ref y_filled, .ref y_isDone, .ref y_isReached, .ref y_newUnits, .ref y_isNew])), (ya_units, .inl (cA 1, 5120, .inl y_units)), (ya_leads, .inl (cA 1, 2560, .inl c45)), (ya_isLed, .inl (cA 3, 2560, .inl c46))] H := hP
              have hD : va_D A [(y, .inr (6, [.ref y_space, .ref y_offset, .ref y_length, .ref ya_units, .ref y_isThere, .int (z_i y_levels), .ref y_level, .int (z_i y_lines), .ref y_lineLevel, .ref y_lineUnits, .ref y_lineFrom, .ref y_lineMany, .ref y_isClosed, .ref y_insides, .ref y_parent, .ref y_isHigh, .ref y_inBits, .int (z_i y_sides), .ref y_side, .ref y_sideA, .ref y_sideB, .int (z_i y_lineSpace), .ref y_wasThere, .ref ya_leads, .ref ya_isLed, .ref y_isOn, .ref y_goesTo, .ref y_stream, .ref y_filled, .ref y_isDone, .ref y_isReached, .ref y_newUnits, .ref y_isNew])), (ya_units, .inl (cA 1, 5120, .inl y_units)), (ya_leads, .inl (cA 1, 2560, .inl c45)), (ya_isLed, .inl (cA 3, 2560, .inl c46))] := z_D_addr hD rfl
              have hv := hv c45 c46 hw
              exact W.vret hx hb hr (fun t ht hW => ⟨⟨(c45, c46), rfl, hv, z_pt hP ht⟩, hS.F ht⟩) hS.2.2 dX8_cell_344
    · have hv := hv.2 hc
      refine lv_iconst (v := z_i 1) hx hb dX8_cell_62 rfl ?_
      refine lv_goto (tgt := 67) hx hb dX8_cell_63 (by decide) ?_
      refine lv_istore (lv' := [(10, .int (z_i 1)), (9, .int (z_i 0)), (8, .int (z_i (v1 + 3))), (7, .int (z_i (v1 + 80))), (6, .int (z_i (v1 + 1))), (5, .int (z_i v1)), (0, .ref y), (1, .int (z_i gi)), (2, .int (z_i i)), (3, .int (z_i j)), (4, .int (z_i lv))]) hx hb dX8_cell_67 hl (by decide) rfl (fun ls hl => ?_)
      refine lv_aload_n hx hb dX8_cell_69 rfl (lv_at hl 6 rfl) ?_
      refine lv_iload_n hx hb dX8_cell_70 rfl (lv_at hl 7 rfl) ?_
      refine lv_iload_n hx hb dX8_cell_71 rfl (lv_at hl 8 rfl) ?_
      refine lv_iconst (v := z_i 1) hx hb dX8_cell_72 rfl ?_
      refine lx_iadd hx hb dX8_cell_73 ?_
      refine lv_iload_n hx hb dX8_cell_74 rfl (lv_at hl 9 rfl) ?_
      obtain ⟨hr47, hv⟩ := hv
      obtain ⟨hp48, hv⟩ := hv
      obtain ⟨hp49, hv⟩ := hv
      obtain ⟨hp50, hv⟩ := hv
      refine va_calli (va_runV (As := [.int (z_i gi), .int (z_i (i + 1)), .int (z_i j)]) (rest := []) ⟨hx, hb, hml, hown, hts⟩ (mt_X8_h l D cA y y_space y_offset y_length ya_units y_units y_isThere y_levels y_level y_lines y_lineLevel y_lineUnits y_lineFrom y_lineMany y_isClosed y_insides y_parent y_isHigh y_inBits y_sides y_side y_sideA y_sideB y_lineSpace y_wasThere ya_leads ya_isLed y_isOn y_goesTo y_stream y_filled y_isDone y_isReached y_newUnits y_isNew gi (i + 1) j h_y_levels h_y_lines h_y_sides h_y_lineSpace h_gi hr47 h_j hp48 hp49 hp50) (cwV 3 hts gX8_cell_X8_h rfl rfl rfl (by decide +kernel) ⟨Nat.le_of_ble_eq_true rfl, Nat.le_of_ble_eq_true rfl⟩) ⟨z_bl0, va_recv hK hP (ci := 6) (q0 := 0) rfl rfl, fun U hU hW => ⟨rfl, z_b0 hK (hP.sub (ws' := [(y, .inr (6, [.ref y_space, .ref y_offset, .ref y_length, .ref ya_units, .ref y_isThere, .int (z_i y_levels), .ref y_level, .int (z_i y_lines), .ref y_lineLevel, .ref y_lineUnits, .ref y_lineFrom, .ref y_lineMany, .ref y_isClosed, .ref y_insides, .ref y_parent, .ref y_isHigh, .ref y_inBits, .int (z_i y_sides), .ref y_side, .ref y_sideA, .ref y_sideB, .int (z_i y_lineSpace), .ref y_wasThere, .ref ya_leads, .ref ya_isLed, .ref y_isOn, .ref y_goesTo, .ref y_stream, .ref y_filled, .ref y_isDone, .ref y_isReached, .ref y_newUnits, .ref y_isNew])), (ya_units, .inl (cA 1, 5120, .inl y_units))]) [0, 1] rfl) hU hW⟩⟩ rfl rfl hl.1 rfl (lv_room (Nat.le_of_ble_eq_true rfl)) dX8_cell_75 ⟨Nat.zero_le _, Nat.zero_le _⟩) hS (fun q _ h => h.elim) (fun q h => h.elim) (fun r0 u t H locs ht hvm hw hB hz1 hk1 hS => ?_)
      obtain ⟨r51, rfl, h_r51, hw⟩ := hw
      have hP := z_P_all hP hk1
      have hv := hv r51 h_r51 hw
      refine lv_iload hx hb dX8_cell_78 (lv_at hl 10 rfl) ?_
      refine lx_icmp_lt (tgt := 87) hx hb dX8_cell_80 (by decide) h_r51 h_lv (fun hc => ?_) (fun hc => ?_)
      · have hv := hv.1 hc
        refine lv_iconst (v := z_i 0) hx hb dX8_cell_87 rfl ?_
        refine lv_istore (lv' := [(11, .int (z_i 0)), (10, .int (z_i 1)), (9, .int (z_i 0)), (8, .int (z_i (v1 + 3))), (7, .int (z_i (v1 + 80))), (6, .int (z_i (v1 + 1))), (5, .int (z_i v1)), (0, .ref y), (1, .int (z_i gi)), (2, .int (z_i i)), (3, .int (z_i j)), (4, .int (z_i lv))]) hx hb dX8_cell_88 hl (by decide) rfl (fun ls hl => ?_)
        refine lv_aload_n hx hb dX8_cell_90 rfl (lv_at hl 7 rfl) ?_
        refine lv_iload_n hx hb dX8_cell_91 rfl (lv_at hl 8 rfl) ?_
        refine lv_iload_n hx hb dX8_cell_92 rfl (lv_at hl 9 rfl) ?_
        refine lv_iconst (v := z_i 1) hx hb dX8_cell_93 rfl ?_
        refine lx_iadd hx hb dX8_cell_94 ?_
        refine lv_iload_n hx hb dX8_cell_95 rfl (lv_at hl 10 rfl) ?_
        refine lv_iconst (v := z_i 1) hx hb dX8_cell_96 rfl ?_
        refine lx_iadd hx hb dX8_cell_97 ?_
        obtain ⟨hp52, hv⟩ := hv
        obtain ⟨hp53, hv⟩ := hv
        obtain ⟨hp54, hv⟩ := hv
        refine va_calli (va_runV (As := [.int (z_i gi), .int (z_i (i + 1)), .int (z_i (j + 1))]) (rest := []) ⟨hx, hb, hml, hown, hts⟩ (mt_X8_h l D cA y y_space y_offset y_length ya_units y_units y_isThere y_levels y_level y_lines y_lineLevel y_lineUnits y_lineFrom y_lineMany y_isClosed y_insides y_parent y_isHigh y_inBits y_sides y_side y_sideA y_sideB y_lineSpace y_wasThere ya_leads ya_isLed y_isOn y_goesTo y_stream y_filled y_isDone y_isReached y_newUnits y_isNew gi (i + 1) (j + 1) h_y_levels h_y_lines h_y_sides h_y_lineSpace h_gi hr47 hr8 hp52 hp53 hp54) (cwV 3 hts gX8_cell_X8_h rfl rfl rfl (by decide +kernel) ⟨Nat.le_of_ble_eq_true rfl, Nat.le_of_ble_eq_true rfl⟩) ⟨z_bl0, va_recv hK hP (ci := 6) (q0 := 0) rfl rfl, fun U hU hW => ⟨rfl, z_b0 hK (hP.sub (ws' := [(y, .inr (6, [.ref y_space, .ref y_offset, .ref y_length, .ref ya_units, .ref y_isThere, .int (z_i y_levels), .ref y_level, .int (z_i y_lines), .ref y_lineLevel, .ref y_lineUnits, .ref y_lineFrom, .ref y_lineMany, .ref y_isClosed, .ref y_insides, .ref y_parent, .ref y_isHigh, .ref y_inBits, .int (z_i y_sides), .ref y_side, .ref y_sideA, .ref y_sideB, .int (z_i y_lineSpace), .ref y_wasThere, .ref ya_leads, .ref ya_isLed, .ref y_isOn, .ref y_goesTo, .ref y_stream, .ref y_filled, .ref y_isDone, .ref y_isReached, .ref y_newUnits, .ref y_isNew])), (ya_units, .inl (cA 1, 5120, .inl y_units))]) [0, 1] rfl) hU hW⟩⟩ rfl rfl hl.1 rfl (lv_room (Nat.le_of_ble_eq_true rfl)) dX8_cell_98 ⟨Nat.zero_le _, Nat.zero_le _⟩) hS (fun q _ h => h.elim) (fun q h => h.elim) (fun r0 u t H locs ht hvm hw hB hz1 hk1 hS => ?_)
        obtain ⟨r55, rfl, h_r55, hw⟩ := hw
        have hP := z_P_all hP hk1
        have hv := hv r55 h_r55 hw
        refine lv_iload hx hb dX8_cell_101 (lv_at hl 11 rfl) ?_
        refine lx_icmp_lt (tgt := 110) hx hb dX8_cell_103 (by decide) h_r55 h_lv (fun hc => ?_) (fun hc => ?_)
        · have hv := hv.1 hc
          refine lv_iconst (v := z_i 0) hx hb dX8_cell_110 rfl ?_
          refine lv_istore (lv' := [(12, .int (z_i 0)), (11, .int (z_i 0)), (10, .int (z_i 1)), (9, .int (z_i 0)), (8, .int (z_i (v1 + 3))), (7, .int (z_i (v1 + 80))), (6, .int (z_i (v1 + 1))), (5, .int (z_i v1)), (0, .ref y), (1, .int (z_i gi)), (2, .int (z_i i)), (3, .int (z_i j)), (4, .int (z_i lv))]) hx hb dX8_cell_111 hl (by decide) rfl (fun ls hl => ?_)
          refine lv_iload hx hb dX8_cell_113 (lv_at hl 3 rfl) ?_
          refine lv_iload hx hb dX8_cell_115 (lv_at hl 2 rfl) ?_
          refine lx_icmp_eq (tgt := 261) hx hb dX8_cell_117 (by decide) ⟨by decide, by decide⟩ ⟨by decide, by decide⟩ (fun hc => absurd hc (by decide)) (fun _ => ?_)
          refine lv_iload hx hb dX8_cell_120 (lv_at hl 3 rfl) ?_
          refine lv_iload hx hb dX8_cell_122 (lv_at hl 1 rfl) ?_
          refine lx_icmp_eq (tgt := 261) hx hb dX8_cell_124 (by decide) ⟨by decide, by decide⟩ ⟨by decide, by decide⟩ (fun _ => ?_) (fun hc => absurd hc (by decide))
          refine lv_iconst (v := z_i (-1)) hx hb dX8_cell_261 rfl ?_
          refine lv_istore (lv' := [(13, .int (z_i (-1))), (12, .int (z_i 0)), (11, .int (z_i 0)), (10, .int (z_i 1)), (9, .int (z_i 0)), (8, .int (z_i (v1 + 3))), (7, .int (z_i (v1 + 80))), (6, .int (z_i (v1 + 1))), (5, .int (z_i v1)), (0, .ref y), (1, .int (z_i gi)), (2, .int (z_i i)), (3, .int (z_i j)), (4, .int (z_i lv))]) hx hb dX8_cell_262 hl (by decide) rfl (fun ls hl => ?_)
          refine lv_iconst (v := z_i (-1)) hx hb dX8_cell_264 rfl ?_
          refine lv_istore (lv' := [(14, .int (z_i (-1))), (13, .int (z_i (-1))), (12, .int (z_i 0)), (11, .int (z_i 0)), (10, .int (z_i 1)), (9, .int (z_i 0)), (8, .int (z_i (v1 + 3))), (7, .int (z_i (v1 + 80))), (6, .int (z_i (v1 + 1))), (5, .int (z_i v1)), (0, .ref y), (1, .int (z_i gi)), (2, .int (z_i i)), (3, .int (z_i j)), (4, .int (z_i lv))]) hx hb dX8_cell_265 hl (by decide) rfl (fun ls hl => ?_)
          refine lv_iload hx hb dX8_cell_267 (lv_at hl 5 rfl) ?_
          refine lv_iload hx hb dX8_cell_269 (lv_at hl 4 rfl) ?_
          refine lx_icmp_eq (tgt := 278) hx hb dX8_cell_271 (by decide) ⟨by decide, by decide⟩ ⟨by decide, by decide⟩ (fun hc => absurd hc (by decide)) (fun _ => ?_)
          refine lv_iload hx hb dX8_cell_274 (lv_at hl 9 rfl) ?_
          refine lv_istore (lv' := [(13, .int (z_i v1)), (14, .int (z_i (-1))), (12, .int (z_i 0)), (11, .int (z_i 0)), (10, .int (z_i 1)), (9, .int (z_i 0)), (8, .int (z_i (v1 + 3))), (7, .int (z_i (v1 + 80))), (6, .int (z_i (v1 + 1))), (5, .int (z_i v1)), (0, .ref y), (1, .int (z_i gi)), (2, .int (z_i i)), (3, .int (z_i j)), (4, .int (z_i lv))]) hx hb dX8_cell_276 hl (by decide) rfl (fun ls hl => ?_)
          refine lv_iload hx hb dX8_cell_278 (lv_at hl 5 rfl) ?_
          refine lv_iload hx hb dX8_cell_280 (lv_at hl 3 rfl) ?_
          refine lx_icmp_eq (tgt := 293) hx hb dX8_cell_282 (by decide) ⟨by decide, by decide⟩ ⟨by decide, by decide⟩ (fun _ => ?_) (fun hc => absurd hc (by decide))
          refine lv_iload hx hb dX8_cell_293 (lv_at hl 4 rfl) ?_
          refine lv_iload hx hb dX8_cell_295 (lv_at hl 2 rfl) ?_
          refine lx_icmp_eq (tgt := 308) hx hb dX8_cell_297 (by decide) ⟨by decide, by decide⟩ ⟨by decide, by decide⟩ (fun hc => absurd hc (by decide)) (fun _ => ?_)
          refine lv_iload hx hb dX8_cell_300 (lv_at hl 0 rfl) ?_
          refine lv_istore (lv' := [(14, .int (z_i v1)), (13, .int (z_i v1)), (12, .int (z_i 0)), (11, .int (z_i 0)), (10, .int (z_i 1)), (9, .int (z_i 0)), (8, .int (z_i (v1 + 3))), (7, .int (z_i (v1 + 80))), (6, .int (z_i (v1 + 1))), (5, .int (z_i v1)), (0, .ref y), (1, .int (z_i gi)), (2, .int (z_i i)), (3, .int (z_i j)), (4, .int (z_i lv))]) hx hb dX8_cell_302 hl (by decide) rfl (fun ls hl => ?_)
          refine lv_iload hx hb dX8_cell_304 (lv_at hl 6 rfl) ?_
          refine lv_istore (lv' := [(13, .int (z_i (v1 + 3))), (14, .int (z_i v1)), (12, .int (z_i 0)), (11, .int (z_i 0)), (10, .int (z_i 1)), (9, .int (z_i 0)), (8, .int (z_i (v1 + 3))), (7, .int (z_i (v1 + 80))), (6, .int (z_i (v1 + 1))), (5, .int (z_i v1)), (0, .ref y), (1, .int (z_i gi)), (2, .int (z_i i)), (3, .int (z_i j)), (4, .int (z_i lv))]) hx hb dX8_cell_306 hl (by decide) rfl (fun ls hl => ?_)
          refine lv_iload hx hb dX8_cell_308 (lv_at hl 3 rfl) ?_
          refine lv_iload hx hb dX8_cell_310 (lv_at hl 2 rfl) ?_
          refine lx_icmp_eq (tgt := 323) hx hb dX8_cell_312 (by decide) ⟨by decide, by decide⟩ ⟨by decide, by decide⟩ (fun _ => ?_) (fun hc => absurd hc (by decide))
          refine lv_iload hx hb dX8_cell_323 (lv_at hl 0 rfl) ?_
          obtain ⟨hr56, hv⟩ := hv
          refine lx_if_lt (tgt := 344) hx hb dX8_cell_325 (by decide) hr56 (fun hc => ?_) (fun hc => ?_)
          · have hv := hv.1 hc
            exact W.vret hx hb hr (fun t ht hW => ⟨⟨(y_leads, y_isLed), rfl, hv, z_pt hP ht⟩, hS.F ht⟩) hS.2.2 dX8_cell_344
          · have hv := hv.2 hc
            refine lv_iload hx hb dX8_cell_328 (lv_at hl 1 rfl) ?_
            refine lx_if_lt (tgt := 344) hx hb dX8_cell_330 (by decide) h_v1 (fun hc => ?_) (fun hc => ?_)
            · have hv := hv.1 hc
              exact W.vret hx hb hr (fun t ht hW => ⟨⟨(y_leads, y_isLed), rfl, hv, z_pt hP ht⟩, hS.F ht⟩) hS.2.2 dX8_cell_344
            · have hv := hv.2 hc
              refine lv_aload_n hx hb dX8_cell_333 rfl (lv_at hl 10 rfl) ?_
              refine lv_iload_n hx hb dX8_cell_334 rfl (lv_at hl 11 rfl) ?_
              refine lv_iload hx hb dX8_cell_335 (lv_at hl 0 rfl) ?_
              refine lv_iload hx hb dX8_cell_337 (lv_at hl 1 rfl) ?_
              refine lv_iload hx hb dX8_cell_339 (lv_at hl 14 rfl) ?_
              obtain ⟨hp57, hv⟩ := hv
              obtain ⟨hp58, hv⟩ := hv
              obtain ⟨hp59, hv⟩ := hv
              have hFc := z_fr (A := A) (wc := [(y, .inr (6, [.ref y_space, .ref y_offset, .ref y_length, .ref ya_units, .ref y_isThere, .int (z_i y_levels), .ref y_level, .int (z_i y_lines), .ref y_lineLevel, .ref y_lineUnits, .ref y_lineFrom, .ref y_lineMany, .ref y_isClosed, .ref y_insides, .ref y_parent, .ref y_isHigh, .ref y_inBits, .int (z_i y_sides), .ref y_side, .ref y_sideA, .ref y_sideB, .int (z_i y_lineSpace), .ref y_wasThere, .ref ya_leads, .ref ya_isLed, .ref y_isOn, .ref y_goesTo, .ref y_stream, .ref y_filled, .ref y_isDone, .ref y_isReached, .ref y_newUnits, .ref y_isNew])), (ya_units, .inl (cA 1, 5120, .inl y_units)), (ya_leads, .inl (cA 1, 2560, .inl y_leads)), (ya_isLed, .inl (cA 3, 2560, .inl y_isLed))]) hD [0, 1, 2, 3] rfl
              refine va_callv (va_runV (As := [.int (z_i gi), .int (z_i (v1 + 3)), .int (z_i v1), .int (z_i lv)]) (rest := []) ⟨hx, hb, hml, hown, hts⟩ (mt_X8_joins l D cA y y_space y_offset y_length ya_units y_units y_isThere y_levels y_level y_lines y_lineLevel y_lineUnits y_lineFrom y_lineMany y_isClosed y_insides y_parent y_isHigh y_inBits y_sides y_side y_sideA y_sideB y_lineSpace y_wasThere ya_leads y_leads ya_isLed y_isLed y_isOn y_goesTo y_stream y_filled y_isDone y_isReached y_newUnits y_isNew gi (v1 + 3) v1 lv h_y_levels h_y_lines h_y_sides h_y_lineSpace h_gi hr56 h_v1 h_lv hp57 hp58 hp59) (cwV 4 hts gX8_cell_X8_joins rfl rfl rfl (by decide +kernel) ⟨Nat.le_of_ble_eq_true rfl, Nat.le_of_ble_eq_true rfl⟩) ⟨z_blm0, va_recv hK hP (ci := 6) (q0 := 0) rfl rfl, fun U hU hW => ⟨rfl, z_m0 hK hP hD hU hW⟩⟩ rfl rfl hl.1 rfl (lv_room (Nat.le_of_ble_eq_true rfl)) dX8_cell_341 ⟨Nat.zero_le _, Nat.zero_le _⟩) hS (fun q _ h => hFc q h) hFc (fun u t H locs ht hvm hw hB hz1 hk1 hS => ?_)
              obtain ⟨c60, c61⟩ := u
              rw [ht] at hB
              have hP := hB
              have hP : va_P D vwCl [(y, .inr (6, [.ref y_space, .ref y_offset, .ref y_length, .ref ya_units, .ref y_isThere, .int (z_i y_levels), .ref y_level, .int (z_i y_lines), .ref y_lineLevel, .ref y_lineUnits, .ref y_lineFrom, .ref y_lineMany, .ref y_isClosed, .ref y_insides, .ref y_parent, .ref y_isHigh, .ref y_inBits, .int (z_i y_sides), .ref y_side, .ref y_sideA, .ref y_sideB, .int (z_i y_lineSpace), .ref y_wasThere, .ref ya_leads, .ref ya_isLed, .ref y_isOn, .ref y_goesTo, .ref y_stream, .ref y_filled, .ref y_isDone, .ref y_isReached, .ref y_newUnits, .ref y_isNew])), (ya_units, .inl (cA 1, 5120, .inl y_units)), (ya_leads, .inl (cA 1, 2560, .inl c60)), (ya_isLed, .inl (cA 3, 2560, .inl c61))] H := hP
              have hD : va_D A [(y, .inr (6, [.ref y_space, .ref y_offset, .ref y_length, .ref ya_units, .ref y_isThere, .int (z_i y_levels), .ref y_level, .int (z_i y_lines), .ref y_lineLevel, .ref y_lineUnits, .ref y_lineFrom, .ref y_lineMany, .ref y_isClosed, .ref y_insides, .ref y_parent, .ref y_isHigh, .ref y_inBits, .int (z_i y_sides), .ref y_side, .ref y_sideA, .ref y_sideB, .int (z_i y_lineSpace), .ref y_wasThere, .ref ya_leads, .ref ya_isLed, .ref y_isOn, .ref y_goesTo, .ref y_stream, .ref y_filled, .ref y_isDone, .ref y_isReached, .ref y_newUnits, .ref y_isNew])), (ya_units, .inl (cA 1, 5120, .inl y_units)), (ya_leads, .inl (cA 1, 2560, .inl c60)), (ya_isLed, .inl (cA 3, 2560, .inl c61))] := z_D_addr hD rfl
              have hv := hv c60 c61 hw
              exact W.vret hx hb hr (fun t ht hW => ⟨⟨(c60, c61), rfl, hv, z_pt hP ht⟩, hS.F ht⟩) hS.2.2 dX8_cell_344
        · have hv := hv.2 hc
          refine lv_iconst (v := z_i 1) hx hb dX8_cell_106 rfl ?_
          refine lv_goto (tgt := 111) hx hb dX8_cell_107 (by decide) ?_
          refine lv_istore (lv' := [(12, .int (z_i 1)), (11, .int (z_i 0)), (10, .int (z_i 1)), (9, .int (z_i 0)), (8, .int (z_i (v1 + 3))), (7, .int (z_i (v1 + 80))), (6, .int (z_i (v1 + 1))), (5, .int (z_i v1)), (0, .ref y), (1, .int (z_i gi)), (2, .int (z_i i)), (3, .int (z_i j)), (4, .int (z_i lv))]) hx hb dX8_cell_111 hl (by decide) rfl (fun ls hl => ?_)
          refine lv_iload hx hb dX8_cell_113 (lv_at hl 3 rfl) ?_
          refine lv_iload hx hb dX8_cell_115 (lv_at hl 2 rfl) ?_
          refine lx_icmp_eq (tgt := 261) hx hb dX8_cell_117 (by decide) ⟨by decide, by decide⟩ ⟨by decide, by decide⟩ (fun hc => absurd hc (by decide)) (fun _ => ?_)
          refine lv_iload hx hb dX8_cell_120 (lv_at hl 3 rfl) ?_
          refine lv_iload hx hb dX8_cell_122 (lv_at hl 1 rfl) ?_
          refine lx_icmp_eq (tgt := 261) hx hb dX8_cell_124 (by decide) ⟨by decide, by decide⟩ ⟨by decide, by decide⟩ (fun _ => ?_) (fun hc => absurd hc (by decide))
          refine lv_iconst (v := z_i (-1)) hx hb dX8_cell_261 rfl ?_
          refine lv_istore (lv' := [(13, .int (z_i (-1))), (12, .int (z_i 1)), (11, .int (z_i 0)), (10, .int (z_i 1)), (9, .int (z_i 0)), (8, .int (z_i (v1 + 3))), (7, .int (z_i (v1 + 80))), (6, .int (z_i (v1 + 1))), (5, .int (z_i v1)), (0, .ref y), (1, .int (z_i gi)), (2, .int (z_i i)), (3, .int (z_i j)), (4, .int (z_i lv))]) hx hb dX8_cell_262 hl (by decide) rfl (fun ls hl => ?_)
          refine lv_iconst (v := z_i (-1)) hx hb dX8_cell_264 rfl ?_
          refine lv_istore (lv' := [(14, .int (z_i (-1))), (13, .int (z_i (-1))), (12, .int (z_i 1)), (11, .int (z_i 0)), (10, .int (z_i 1)), (9, .int (z_i 0)), (8, .int (z_i (v1 + 3))), (7, .int (z_i (v1 + 80))), (6, .int (z_i (v1 + 1))), (5, .int (z_i v1)), (0, .ref y), (1, .int (z_i gi)), (2, .int (z_i i)), (3, .int (z_i j)), (4, .int (z_i lv))]) hx hb dX8_cell_265 hl (by decide) rfl (fun ls hl => ?_)
          refine lv_iload hx hb dX8_cell_267 (lv_at hl 5 rfl) ?_
          refine lv_iload hx hb dX8_cell_269 (lv_at hl 4 rfl) ?_
          refine lx_icmp_eq (tgt := 278) hx hb dX8_cell_271 (by decide) ⟨by decide, by decide⟩ ⟨by decide, by decide⟩ (fun hc => absurd hc (by decide)) (fun _ => ?_)
          refine lv_iload hx hb dX8_cell_274 (lv_at hl 9 rfl) ?_
          refine lv_istore (lv' := [(13, .int (z_i v1)), (14, .int (z_i (-1))), (12, .int (z_i 1)), (11, .int (z_i 0)), (10, .int (z_i 1)), (9, .int (z_i 0)), (8, .int (z_i (v1 + 3))), (7, .int (z_i (v1 + 80))), (6, .int (z_i (v1 + 1))), (5, .int (z_i v1)), (0, .ref y), (1, .int (z_i gi)), (2, .int (z_i i)), (3, .int (z_i j)), (4, .int (z_i lv))]) hx hb dX8_cell_276 hl (by decide) rfl (fun ls hl => ?_)
          refine lv_iload hx hb dX8_cell_278 (lv_at hl 5 rfl) ?_
          refine lv_iload hx hb dX8_cell_280 (lv_at hl 3 rfl) ?_
          refine lx_icmp_eq (tgt := 293) hx hb dX8_cell_282 (by decide) ⟨by decide, by decide⟩ ⟨by decide, by decide⟩ (fun _ => ?_) (fun hc => absurd hc (by decide))
          refine lv_iload hx hb dX8_cell_293 (lv_at hl 4 rfl) ?_
          refine lv_iload hx hb dX8_cell_295 (lv_at hl 2 rfl) ?_
          refine lx_icmp_eq (tgt := 308) hx hb dX8_cell_297 (by decide) ⟨by decide, by decide⟩ ⟨by decide, by decide⟩ (fun _ => ?_) (fun hc => absurd hc (by decide))
          refine lv_iload hx hb dX8_cell_308 (lv_at hl 3 rfl) ?_
          refine lv_iload hx hb dX8_cell_310 (lv_at hl 2 rfl) ?_
          refine lx_icmp_eq (tgt := 323) hx hb dX8_cell_312 (by decide) ⟨by decide, by decide⟩ ⟨by decide, by decide⟩ (fun hc => absurd hc (by decide)) (fun _ => ?_)
          refine lv_iload hx hb dX8_cell_315 (lv_at hl 0 rfl) ?_
          refine lv_istore (lv' := [(14, .int (z_i v1)), (13, .int (z_i v1)), (12, .int (z_i 1)), (11, .int (z_i 0)), (10, .int (z_i 1)), (9, .int (z_i 0)), (8, .int (z_i (v1 + 3))), (7, .int (z_i (v1 + 80))), (6, .int (z_i (v1 + 1))), (5, .int (z_i v1)), (0, .ref y), (1, .int (z_i gi)), (2, .int (z_i i)), (3, .int (z_i j)), (4, .int (z_i lv))]) hx hb dX8_cell_317 hl (by decide) rfl (fun ls hl => ?_)
          refine lv_iload hx hb dX8_cell_319 (lv_at hl 7 rfl) ?_
          refine lv_istore (lv' := [(13, .int (z_i (v1 + 80))), (14, .int (z_i v1)), (12, .int (z_i 1)), (11, .int (z_i 0)), (10, .int (z_i 1)), (9, .int (z_i 0)), (8, .int (z_i (v1 + 3))), (7, .int (z_i (v1 + 80))), (6, .int (z_i (v1 + 1))), (5, .int (z_i v1)), (0, .ref y), (1, .int (z_i gi)), (2, .int (z_i i)), (3, .int (z_i j)), (4, .int (z_i lv))]) hx hb dX8_cell_321 hl (by decide) rfl (fun ls hl => ?_)
          refine lv_iload hx hb dX8_cell_323 (lv_at hl 0 rfl) ?_
          obtain ⟨hr62, hv⟩ := hv
          refine lx_if_lt (tgt := 344) hx hb dX8_cell_325 (by decide) hr62 (fun hc => ?_) (fun hc => ?_)
          · have hv := hv.1 hc
            exact W.vret hx hb hr (fun t ht hW => ⟨⟨(y_leads, y_isLed), rfl, hv, z_pt hP ht⟩, hS.F ht⟩) hS.2.2 dX8_cell_344
          · have hv := hv.2 hc
            refine lv_iload hx hb dX8_cell_328 (lv_at hl 1 rfl) ?_
            refine lx_if_lt (tgt := 344) hx hb dX8_cell_330 (by decide) h_v1 (fun hc => ?_) (fun hc => ?_)
            · have hv := hv.1 hc
              exact W.vret hx hb hr (fun t ht hW => ⟨⟨(y_leads, y_isLed), rfl, hv, z_pt hP ht⟩, hS.F ht⟩) hS.2.2 dX8_cell_344
            · have hv := hv.2 hc
              refine lv_aload_n hx hb dX8_cell_333 rfl (lv_at hl 10 rfl) ?_
              refine lv_iload_n hx hb dX8_cell_334 rfl (lv_at hl 11 rfl) ?_
              refine lv_iload hx hb dX8_cell_335 (lv_at hl 0 rfl) ?_
              refine lv_iload hx hb dX8_cell_337 (lv_at hl 1 rfl) ?_
              refine lv_iload hx hb dX8_cell_339 (lv_at hl 14 rfl) ?_
              obtain ⟨hp63, hv⟩ := hv
              obtain ⟨hp64, hv⟩ := hv
              obtain ⟨hp65, hv⟩ := hv
              have hFc := z_fr (A := A) (wc := [(y, .inr (6, [.ref y_space, .ref y_offset, .ref y_length, .ref ya_units, .ref y_isThere, .int (z_i y_levels), .ref y_level, .int (z_i y_lines), .ref y_lineLevel, .ref y_lineUnits, .ref y_lineFrom, .ref y_lineMany, .ref y_isClosed, .ref y_insides, .ref y_parent, .ref y_isHigh, .ref y_inBits, .int (z_i y_sides), .ref y_side, .ref y_sideA, .ref y_sideB, .int (z_i y_lineSpace), .ref y_wasThere, .ref ya_leads, .ref ya_isLed, .ref y_isOn, .ref y_goesTo, .ref y_stream, .ref y_filled, .ref y_isDone, .ref y_isReached, .ref y_newUnits, .ref y_isNew])), (ya_units, .inl (cA 1, 5120, .inl y_units)), (ya_leads, .inl (cA 1, 2560, .inl y_leads)), (ya_isLed, .inl (cA 3, 2560, .inl y_isLed))]) hD [0, 1, 2, 3] rfl
              refine va_callv (va_runV (As := [.int (z_i gi), .int (z_i (v1 + 80)), .int (z_i v1), .int (z_i lv)]) (rest := []) ⟨hx, hb, hml, hown, hts⟩ (mt_X8_joins l D cA y y_space y_offset y_length ya_units y_units y_isThere y_levels y_level y_lines y_lineLevel y_lineUnits y_lineFrom y_lineMany y_isClosed y_insides y_parent y_isHigh y_inBits y_sides y_side y_sideA y_sideB y_lineSpace y_wasThere ya_leads y_leads ya_isLed y_isLed y_isOn y_goesTo y_stream y_filled y_isDone y_isReached y_newUnits y_isNew gi (v1 + 80) v1 lv h_y_levels h_y_lines h_y_sides h_y_lineSpace h_gi hr62 h_v1 h_lv hp63 hp64 hp65) (cwV 4 hts gX8_cell_X8_joins rfl rfl rfl (by decide +kernel) ⟨Nat.le_of_ble_eq_true rfl, Nat.le_of_ble_eq_true rfl⟩) ⟨z_blm0, va_recv hK hP (ci := 6) (q0 := 0) rfl rfl, fun U hU hW => ⟨rfl, z_m0 hK hP hD hU hW⟩⟩ rfl rfl hl.1 rfl (lv_room (Nat.le_of_ble_eq_true rfl)) dX8_cell_341 ⟨Nat.zero_le _, Nat.zero_le _⟩) hS (fun q _ h => hFc q h) hFc (fun u t H locs ht hvm hw hB hz1 hk1 hS => ?_)
              obtain ⟨c66, c67⟩ := u
              rw [ht] at hB
              have hP := hB
              have hP : va_P D vwCl [(y, .inr (6, [.ref y_space, .ref y_offset, .ref y_length, .ref ya_units, .ref y_isThere, .int (z_i y_levels), .ref y_level, .int (z_i y_lines), .ref y_lineLevel, .ref y_lineUnits, .ref y_lineFrom, .ref y_lineMany, .ref y_isClosed, .ref y_insides, .ref y_parent, .ref y_isHigh, .ref y_inBits, .int (z_i y_sides), .ref y_side, .ref y_sideA, .ref y_sideB, .int (z_i y_lineSpace), .ref y_wasThere, .ref ya_leads, .ref ya_isLed, .ref y_isOn, .ref y_goesTo, .ref y_stream, .ref y_filled, .ref y_isDone, .ref y_isReached, .ref y_newUnits, .ref y_isNew])), (ya_units, .inl (cA 1, 5120, .inl y_units)), (ya_leads, .inl (cA 1, 2560, .inl c66)), (ya_isLed, .inl (cA 3, 2560, .inl c67))] H := hP
              have hD : va_D A [(y, .inr (6, [.ref y_space, .ref y_offset, .ref y_length, .ref ya_units, .ref y_isThere, .int (z_i y_levels), .ref y_level, .int (z_i y_lines), .ref y_lineLevel, .ref y_lineUnits, .ref y_lineFrom, .ref y_lineMany, .ref y_isClosed, .ref y_insides, .ref y_parent, .ref y_isHigh, .ref y_inBits, .int (z_i y_sides), .ref y_side, .ref y_sideA, .ref y_sideB, .int (z_i y_lineSpace), .ref y_wasThere, .ref ya_leads, .ref ya_isLed, .ref y_isOn, .ref y_goesTo, .ref y_stream, .ref y_filled, .ref y_isDone, .ref y_isReached, .ref y_newUnits, .ref y_isNew])), (ya_units, .inl (cA 1, 5120, .inl y_units)), (ya_leads, .inl (cA 1, 2560, .inl c66)), (ya_isLed, .inl (cA 3, 2560, .inl c67))] := z_D_addr hD rfl
              have hv := hv c66 c67 hw
              exact W.vret hx hb hr (fun t ht hW => ⟨⟨(c66, c67), rfl, hv, z_pt hP ht⟩, hS.F ht⟩) hS.2.2 dX8_cell_344
      · have hv := hv.2 hc
        refine lv_iconst (v := z_i 1) hx hb dX8_cell_83 rfl ?_
        refine lv_goto (tgt := 88) hx hb dX8_cell_84 (by decide) ?_
        refine lv_istore (lv' := [(11, .int (z_i 1)), (10, .int (z_i 1)), (9, .int (z_i 0)), (8, .int (z_i (v1 + 3))), (7, .int (z_i (v1 + 80))), (6, .int (z_i (v1 + 1))), (5, .int (z_i v1)), (0, .ref y), (1, .int (z_i gi)), (2, .int (z_i i)), (3, .int (z_i j)), (4, .int (z_i lv))]) hx hb dX8_cell_88 hl (by decide) rfl (fun ls hl => ?_)
        refine lv_aload_n hx hb dX8_cell_90 rfl (lv_at hl 7 rfl) ?_
        refine lv_iload_n hx hb dX8_cell_91 rfl (lv_at hl 8 rfl) ?_
        refine lv_iload_n hx hb dX8_cell_92 rfl (lv_at hl 9 rfl) ?_
        refine lv_iconst (v := z_i 1) hx hb dX8_cell_93 rfl ?_
        refine lx_iadd hx hb dX8_cell_94 ?_
        refine lv_iload_n hx hb dX8_cell_95 rfl (lv_at hl 10 rfl) ?_
        refine lv_iconst (v := z_i 1) hx hb dX8_cell_96 rfl ?_
        refine lx_iadd hx hb dX8_cell_97 ?_
        obtain ⟨hp68, hv⟩ := hv
        obtain ⟨hp69, hv⟩ := hv
        obtain ⟨hp70, hv⟩ := hv
        refine va_calli (va_runV (As := [.int (z_i gi), .int (z_i (i + 1)), .int (z_i (j + 1))]) (rest := []) ⟨hx, hb, hml, hown, hts⟩ (mt_X8_h l D cA y y_space y_offset y_length ya_units y_units y_isThere y_levels y_level y_lines y_lineLevel y_lineUnits y_lineFrom y_lineMany y_isClosed y_insides y_parent y_isHigh y_inBits y_sides y_side y_sideA y_sideB y_lineSpace y_wasThere ya_leads ya_isLed y_isOn y_goesTo y_stream y_filled y_isDone y_isReached y_newUnits y_isNew gi (i + 1) (j + 1) h_y_levels h_y_lines h_y_sides h_y_lineSpace h_gi hr47 hr8 hp68 hp69 hp70) (cwV 3 hts gX8_cell_X8_h rfl rfl rfl (by decide +kernel) ⟨Nat.le_of_ble_eq_true rfl, Nat.le_of_ble_eq_true rfl⟩) ⟨z_bl0, va_recv hK hP (ci := 6) (q0 := 0) rfl rfl, fun U hU hW => ⟨rfl, z_b0 hK (hP.sub (ws' := [(y, .inr (6, [.ref y_space, .ref y_offset, .ref y_length, .ref ya_units, .ref y_isThere, .int (z_i y_levels), .ref y_level, .int (z_i y_lines), .ref y_lineLevel, .ref y_lineUnits, .ref y_lineFrom, .ref y_lineMany, .ref y_isClosed, .ref y_insides, .ref y_parent, .ref y_isHigh, .ref y_inBits, .int (z_i y_sides), .ref y_side, .ref y_sideA, .ref y_sideB, .int (z_i y_lineSpace), .ref y_wasThere, .ref ya_leads, .ref ya_isLed, .ref y_isOn, .ref y_goesTo, .ref y_stream, .ref y_filled, .ref y_isDone, .ref y_isReached, .ref y_newUnits, .ref y_isNew])), (ya_units, .inl (cA 1, 5120, .inl y_units))]) [0, 1] rfl) hU hW⟩⟩ rfl rfl hl.1 rfl (lv_room (Nat.le_of_ble_eq_true rfl)) dX8_cell_98 ⟨Nat.zero_le _, Nat.zero_le _⟩) hS (fun q _ h => h.elim) (fun q h => h.elim) (fun r0 u t H locs ht hvm hw hB hz1 hk1 hS => ?_)
        obtain ⟨r71, rfl, h_r71, hw⟩ := hw
        have hP := z_P_all hP hk1
        have hv := hv r71 h_r71 hw
        refine lv_iload hx hb dX8_cell_101 (lv_at hl 11 rfl) ?_
        refine lx_icmp_lt (tgt := 110) hx hb dX8_cell_103 (by decide) h_r71 h_lv (fun hc => ?_) (fun hc => ?_)
        · have hv := hv.1 hc
          refine lv_iconst (v := z_i 0) hx hb dX8_cell_110 rfl ?_
          refine lv_istore (lv' := [(12, .int (z_i 0)), (11, .int (z_i 1)), (10, .int (z_i 1)), (9, .int (z_i 0)), (8, .int (z_i (v1 + 3))), (7, .int (z_i (v1 + 80))), (6, .int (z_i (v1 + 1))), (5, .int (z_i v1)), (0, .ref y), (1, .int (z_i gi)), (2, .int (z_i i)), (3, .int (z_i j)), (4, .int (z_i lv))]) hx hb dX8_cell_111 hl (by decide) rfl (fun ls hl => ?_)
          refine lv_iload hx hb dX8_cell_113 (lv_at hl 3 rfl) ?_
          refine lv_iload hx hb dX8_cell_115 (lv_at hl 2 rfl) ?_
          refine lx_icmp_eq (tgt := 261) hx hb dX8_cell_117 (by decide) ⟨by decide, by decide⟩ ⟨by decide, by decide⟩ (fun hc => absurd hc (by decide)) (fun _ => ?_)
          refine lv_iload hx hb dX8_cell_120 (lv_at hl 3 rfl) ?_
          refine lv_iload hx hb dX8_cell_122 (lv_at hl 1 rfl) ?_
          refine lx_icmp_eq (tgt := 261) hx hb dX8_cell_124 (by decide) ⟨by decide, by decide⟩ ⟨by decide, by decide⟩ (fun hc => absurd hc (by decide)) (fun _ => ?_)
          refine lv_iload hx hb dX8_cell_127 (lv_at hl 2 rfl) ?_
          refine lv_iload hx hb dX8_cell_129 (lv_at hl 0 rfl) ?_
          refine lx_icmp_eq (tgt := 261) hx hb dX8_cell_131 (by decide) ⟨by decide, by decide⟩ ⟨by decide, by decide⟩ (fun hc => absurd hc (by decide)) (fun _ => ?_)
          refine lv_iload hx hb dX8_cell_134 (lv_at hl 1 rfl) ?_
          refine lv_iload hx hb dX8_cell_136 (lv_at hl 0 rfl) ?_
          refine lx_icmp_eq (tgt := 261) hx hb dX8_cell_138 (by decide) ⟨by decide, by decide⟩ ⟨by decide, by decide⟩ (fun hc => absurd hc (by decide)) (fun _ => ?_)
          refine lv_aload_n hx hb dX8_cell_141 rfl (lv_at hl 8 rfl) ?_
          refine lv_iload_n hx hb dX8_cell_142 rfl (lv_at hl 9 rfl) ?_
          refine lv_iload_n hx hb dX8_cell_143 rfl (lv_at hl 10 rfl) ?_
          refine lv_iload_n hx hb dX8_cell_144 rfl (lv_at hl 11 rfl) ?_
          obtain ⟨hp72, hv⟩ := hv
          obtain ⟨hp73, hv⟩ := hv
          obtain ⟨hp74, hv⟩ := hv
          refine va_calli (va_runV (As := [.int (z_i gi), .int (z_i i), .int (z_i j)]) (rest := []) ⟨hx, hb, hml, hown, hts⟩ (mt_X8_h l D cA y y_space y_offset y_length ya_units y_units y_isThere y_levels y_level y_lines y_lineLevel y_lineUnits y_lineFrom y_lineMany y_isClosed y_insides y_parent y_isHigh y_inBits y_sides y_side y_sideA y_sideB y_lineSpace y_wasThere ya_leads ya_isLed y_isOn y_goesTo y_stream y_filled y_isDone y_isReached y_newUnits y_isNew gi i j h_y_levels h_y_lines h_y_sides h_y_lineSpace h_gi h_i h_j hp72 hp73 hp74) (cwV 3 hts gX8_cell_X8_h rfl rfl rfl (by decide +kernel) ⟨Nat.le_of_ble_eq_true rfl, Nat.le_of_ble_eq_true rfl⟩) ⟨z_bl0, va_recv hK hP (ci := 6) (q0 := 0) rfl rfl, fun U hU hW => ⟨rfl, z_b0 hK (hP.sub (ws' := [(y, .inr (6, [.ref y_space, .ref y_offset, .ref y_length, .ref ya_units, .ref y_isThere, .int (z_i y_levels), .ref y_level, .int (z_i y_lines), .ref y_lineLevel, .ref y_lineUnits, .ref y_lineFrom, .ref y_lineMany, .ref y_isClosed, .ref y_insides, .ref y_parent, .ref y_isHigh, .ref y_inBits, .int (z_i y_sides), .ref y_side, .ref y_sideA, .ref y_sideB, .int (z_i y_lineSpace), .ref y_wasThere, .ref ya_leads, .ref ya_isLed, .ref y_isOn, .ref y_goesTo, .ref y_stream, .ref y_filled, .ref y_isDone, .ref y_isReached, .ref y_newUnits, .ref y_isNew])), (ya_units, .inl (cA 1, 5120, .inl y_units))]) [0, 1] rfl) hU hW⟩⟩ rfl rfl hl.1 rfl (lv_room (Nat.le_of_ble_eq_true rfl)) dX8_cell_145 ⟨Nat.zero_le _, Nat.zero_le _⟩) hS (fun q _ h => h.elim) (fun q h => h.elim) (fun r0 u t H locs ht hvm hw hB hz1 hk1 hS => ?_)
          obtain ⟨r75, rfl, h_r75, hw⟩ := hw
          have hP := z_P_all hP hk1
          have hv := hv r75 h_r75 hw
          refine lx_i2l hx hb dX8_cell_148 h_r75 ?_
          refine lv_aload_n hx hb dX8_cell_149 rfl (lv_at hl 8 rfl) ?_
          refine lv_iload_n hx hb dX8_cell_150 rfl (lv_at hl 9 rfl) ?_
          refine lv_iload_n hx hb dX8_cell_151 rfl (lv_at hl 10 rfl) ?_
          refine lv_iload_n hx hb dX8_cell_152 rfl (lv_at hl 11 rfl) ?_
          refine lv_iconst (v := z_i 1) hx hb dX8_cell_153 rfl ?_
          refine lx_iadd hx hb dX8_cell_154 ?_
          obtain ⟨hp76, hv⟩ := hv
          obtain ⟨hp77, hv⟩ := hv
          obtain ⟨hp78, hv⟩ := hv
          refine va_calli (va_runV (As := [.int (z_i gi), .int (z_i i), .int (z_i (j + 1))]) (rest := [.long (z_l r75)]) ⟨hx, hb, hml, hown, hts⟩ (mt_X8_h l D cA y y_space y_offset y_length ya_units y_units y_isThere y_levels y_level y_lines y_lineLevel y_lineUnits y_lineFrom y_lineMany y_isClosed y_insides y_parent y_isHigh y_inBits y_sides y_side y_sideA y_sideB y_lineSpace y_wasThere ya_leads ya_isLed y_isOn y_goesTo y_stream y_filled y_isDone y_isReached y_newUnits y_isNew gi i (j + 1) h_y_levels h_y_lines h_y_sides h_y_lineSpace h_gi h_i hr8 hp76 hp77 hp78) (cwV 3 hts gX8_cell_X8_h rfl rfl rfl (by decide +kernel) ⟨Nat.le_of_ble_eq_true rfl, Nat.le_of_ble_eq_true rfl⟩) ⟨z_bl0, va_recv hK hP (ci := 6) (q0 := 0) rfl rfl, fun U hU hW => ⟨rfl, z_b0 hK (hP.sub (ws' := [(y, .inr (6, [.ref y_space, .ref y_offset, .ref y_length, .ref ya_units, .ref y_isThere, .int (z_i y_levels), .ref y_level, .int (z_i y_lines), .ref y_lineLevel, .ref y_lineUnits, .ref y_lineFrom, .ref y_lineMany, .ref y_isClosed, .ref y_insides, .ref y_parent, .ref y_isHigh, .ref y_inBits, .int (z_i y_sides), .ref y_side, .ref y_sideA, .ref y_sideB, .int (z_i y_lineSpace), .ref y_wasThere, .ref ya_leads, .ref ya_isLed, .ref y_isOn, .ref y_goesTo, .ref y_stream, .ref y_filled, .ref y_isDone, .ref y_isReached, .ref y_newUnits, .ref y_isNew])), (ya_units, .inl (cA 1, 5120, .inl y_units))]) [0, 1] rfl) hU hW⟩⟩ rfl rfl hl.1 rfl (lv_room (Nat.le_of_ble_eq_true rfl)) dX8_cell_155 ⟨Nat.zero_le _, Nat.zero_le _⟩) hS (fun q _ h => h.elim) (fun q h => h.elim) (fun r0 u t H locs ht hvm hw hB hz1 hk1 hS => ?_)
          obtain ⟨r79, rfl, h_r79, hw⟩ := hw
          have hP := z_P_all hP hk1
          have hv := hv r79 h_r79 hw
          refine lx_i2l hx hb dX8_cell_158 h_r79 ?_
          refine lx_ladd hx hb dX8_cell_159 ?_
          refine lv_aload_n hx hb dX8_cell_160 rfl (lv_at hl 8 rfl) ?_
          refine lv_iload_n hx hb dX8_cell_161 rfl (lv_at hl 9 rfl) ?_
          refine lv_iload_n hx hb dX8_cell_162 rfl (lv_at hl 10 rfl) ?_
          refine lv_iconst (v := z_i 1) hx hb dX8_cell_163 rfl ?_
          refine lx_iadd hx hb dX8_cell_164 ?_
          refine lv_iload_n hx hb dX8_cell_165 rfl (lv_at hl 11 rfl) ?_
          obtain ⟨hp80, hv⟩ := hv
          obtain ⟨hp81, hv⟩ := hv
          obtain ⟨hp82, hv⟩ := hv
          refine va_calli (va_runV (As := [.int (z_i gi), .int (z_i (i + 1)), .int (z_i j)]) (rest := [.long (z_l (r75 + r79))]) ⟨hx, hb, hml, hown, hts⟩ (mt_X8_h l D cA y y_space y_offset y_length ya_units y_units y_isThere y_levels y_level y_lines y_lineLevel y_lineUnits y_lineFrom y_lineMany y_isClosed y_insides y_parent y_isHigh y_inBits y_sides y_side y_sideA y_sideB y_lineSpace y_wasThere ya_leads ya_isLed y_isOn y_goesTo y_stream y_filled y_isDone y_isReached y_newUnits y_isNew gi (i + 1) j h_y_levels h_y_lines h_y_sides h_y_lineSpace h_gi hr47 h_j hp80 hp81 hp82) (cwV 3 hts gX8_cell_X8_h rfl rfl rfl (by decide +kernel) ⟨Nat.le_of_ble_eq_true rfl, Nat.le_of_ble_eq_true rfl⟩) ⟨z_bl0, va_recv hK hP (ci := 6) (q0 := 0) rfl rfl, fun U hU hW => ⟨rfl, z_b0 hK (hP.sub (ws' := [(y, .inr (6, [.ref y_space, .ref y_offset, .ref y_length, .ref ya_units, .ref y_isThere, .int (z_i y_levels), .ref y_level, .int (z_i y_lines), .ref y_lineLevel, .ref y_lineUnits, .ref y_lineFrom, .ref y_lineMany, .ref y_isClosed, .ref y_insides, .ref y_parent, .ref y_isHigh, .ref y_inBits, .int (z_i y_sides), .ref y_side, .ref y_sideA, .ref y_sideB, .int (z_i y_lineSpace), .ref y_wasThere, .ref ya_leads, .ref ya_isLed, .ref y_isOn, .ref y_goesTo, .ref y_stream, .ref y_filled, .ref y_isDone, .ref y_isReached, .ref y_newUnits, .ref y_isNew])), (ya_units, .inl (cA 1, 5120, .inl y_units))]) [0, 1] rfl) hU hW⟩⟩ rfl rfl hl.1 rfl (lv_room (Nat.le_of_ble_eq_true rfl)) dX8_cell_166 ⟨Nat.zero_le _, Nat.zero_le _⟩) hS (fun q _ h => h.elim) (fun q h => h.elim) (fun r0 u t H locs ht hvm hw hB hz1 hk1 hS => ?_)
          obtain ⟨r83, rfl, h_r83, hw⟩ := hw
          have hP := z_P_all hP hk1
          have hv := hv r83 h_r83 hw
          refine lx_i2l hx hb dX8_cell_169 h_r83 ?_
          refine lx_ladd hx hb dX8_cell_170 ?_
          refine lv_aload_n hx hb dX8_cell_171 rfl (lv_at hl 8 rfl) ?_
          refine lv_iload_n hx hb dX8_cell_172 rfl (lv_at hl 9 rfl) ?_
          refine lv_iload_n hx hb dX8_cell_173 rfl (lv_at hl 10 rfl) ?_
          refine lv_iconst (v := z_i 1) hx hb dX8_cell_174 rfl ?_
          refine lx_iadd hx hb dX8_cell_175 ?_
          refine lv_iload_n hx hb dX8_cell_176 rfl (lv_at hl 11 rfl) ?_
          refine lv_iconst (v := z_i 1) hx hb dX8_cell_177 rfl ?_
          refine lx_iadd hx hb dX8_cell_178 ?_
          obtain ⟨hp84, hv⟩ := hv
          obtain ⟨hp85, hv⟩ := hv
          obtain ⟨hp86, hv⟩ := hv
          refine va_calli (va_runV (As := [.int (z_i gi), .int (z_i (i + 1)), .int (z_i (j + 1))]) (rest := [.long (z_l ((r75 + r79) + r83))]) ⟨hx, hb, hml, hown, hts⟩ (mt_X8_h l D cA y y_space y_offset y_length ya_units y_units y_isThere y_levels y_level y_lines y_lineLevel y_lineUnits y_lineFrom y_lineMany y_isClosed y_insides y_parent y_isHigh y_inBits y_sides y_side y_sideA y_sideB y_lineSpace y_wasThere ya_leads ya_isLed y_isOn y_goesTo y_stream y_filled y_isDone y_isReached y_newUnits y_isNew gi (i + 1) (j + 1) h_y_levels h_y_lines h_y_sides h_y_lineSpace h_gi hr47 hr8 hp84 hp85 hp86) (cwV 3 hts gX8_cell_X8_h rfl rfl rfl (by decide +kernel) ⟨Nat.le_of_ble_eq_true rfl, Nat.le_of_ble_eq_true rfl⟩) ⟨z_bl0, va_recv hK hP (ci := 6) (q0 := 0) rfl rfl, fun U hU hW => ⟨rfl, z_b0 hK (hP.sub (ws' := [(y, .inr (6, [.ref y_space, .ref y_offset, .ref y_length, .ref ya_units, .ref y_isThere, .int (z_i y_levels), .ref y_level, .int (z_i y_lines), .ref y_lineLevel, .ref y_lineUnits, .ref y_lineFrom, .ref y_lineMany, .ref y_isClosed, .ref y_insides, .ref y_parent, .ref y_isHigh, .ref y_inBits, .int (z_i y_sides), .ref y_side, .ref y_sideA, .ref y_sideB, .int (z_i y_lineSpace), .ref y_wasThere, .ref ya_leads, .ref ya_isLed, .ref y_isOn, .ref y_goesTo, .ref y_stream, .ref y_filled, .ref y_isDone, .ref y_isReached, .ref y_newUnits, .ref y_isNew])), (ya_units, .inl (cA 1, 5120, .inl y_units))]) [0, 1] rfl) hU hW⟩⟩ rfl rfl hl.1 rfl (lv_room (Nat.le_of_ble_eq_true rfl)) dX8_cell_179 ⟨Nat.zero_le _, Nat.zero_le _⟩) hS (fun q _ h => h.elim) (fun q h => h.elim) (fun r0 u t H locs ht hvm hw hB hz1 hk1 hS => ?_)
          obtain ⟨r87, rfl, h_r87, hw⟩ := hw
          have hP := z_P_all hP hk1
          have hv := hv r87 h_r87 hw
          refine lx_i2l hx hb dX8_cell_182 h_r87 ?_
          refine lx_ladd hx hb dX8_cell_183 ?_
          obtain ⟨hr89, hv⟩ := hv
          refine lx_topl (fun v88 hy90 => ?_)
          have hv := hv v88 hy90
          have h_v88 : z_nl v88 := by rw [hy90]; exact hr89
          refine lv_lstore (lv' := [(13, .long (z_l v88)), (12, .int (z_i 0)), (11, .int (z_i 1)), (10, .int (z_i 1)), (9, .int (z_i 0)), (8, .int (z_i (v1 + 3))), (7, .int (z_i (v1 + 80))), (6, .int (z_i (v1 + 1))), (5, .int (z_i v1)), (0, .ref y), (1, .int (z_i gi)), (2, .int (z_i i)), (3, .int (z_i j)), (4, .int (z_i lv))]) hx hb dX8_cell_184 hl (by decide) rfl (fun ls hl => ?_)
          refine lv_lload hx hb dX8_cell_186 (lv_at hl 0 rfl) ?_
          refine lx_ldc2 (a := 4) hx hb hown (hts (.constantLong RX8 150 (4)) (by decide +kernel)) (by decide) dX8_cell_188 ?_
          refine lv_iload hx hb dX8_cell_191 (lv_at hl 13 rfl) ?_
          refine lx_i2l hx hb dX8_cell_193 h_lv ?_
          refine lx_lmul hx hb dX8_cell_194 ?_
          obtain ⟨hr91, hv⟩ := hv
          refine lx_lcmp hx hb dX8_cell_195 h_v88 hr91 ?_
          refine lx_if_lt (tgt := 203) hx hb dX8_cell_196 (by decide) (z_in_cmp _ _) (fun hc => ?_) (fun hc => ?_)
          · have hv := hv.1 (z_cmp_lt.mp hc)
            refine lv_iconst (v := z_i 0) hx hb dX8_cell_203 rfl ?_
            refine lv_istore (lv' := [(15, .int (z_i 0)), (13, .long (z_l v88)), (12, .int (z_i 0)), (11, .int (z_i 1)), (10, .int (z_i 1)), (9, .int (z_i 0)), (8, .int (z_i (v1 + 3))), (7, .int (z_i (v1 + 80))), (6, .int (z_i (v1 + 1))), (5, .int (z_i v1)), (0, .ref y), (1, .int (z_i gi)), (2, .int (z_i i)), (3, .int (z_i j)), (4, .int (z_i lv))]) hx hb dX8_cell_204 hl (by decide) rfl (fun ls hl => ?_)
            refine lv_iload hx hb dX8_cell_206 (lv_at hl 5 rfl) ?_
            refine lv_iload hx hb dX8_cell_208 (lv_at hl 0 rfl) ?_
            refine lx_icmp_eq (tgt := 238) hx hb dX8_cell_210 (by decide) ⟨by decide, by decide⟩ ⟨by decide, by decide⟩ (fun _ => ?_) (fun hc => absurd hc (by decide))
            refine lv_aload_n hx hb dX8_cell_238 rfl (lv_at hl 10 rfl) ?_
            refine lv_iload_n hx hb dX8_cell_239 rfl (lv_at hl 11 rfl) ?_
            refine lv_iload hx hb dX8_cell_240 (lv_at hl 9 rfl) ?_
            refine lv_iload hx hb dX8_cell_242 (lv_at hl 6 rfl) ?_
            refine lv_iload hx hb dX8_cell_244 (lv_at hl 14 rfl) ?_
            obtain ⟨hr92, hv⟩ := hv
            obtain ⟨hp93, hv⟩ := hv
            obtain ⟨hp94, hv⟩ := hv
            obtain ⟨hp95, hv⟩ := hv
            have hFc := z_fr (A := A) (wc := [(y, .inr (6, [.ref y_space, .ref y_offset, .ref y_length, .ref ya_units, .ref y_isThere, .int (z_i y_levels), .ref y_level, .int (z_i y_lines), .ref y_lineLevel, .ref y_lineUnits, .ref y_lineFrom, .ref y_lineMany, .ref y_isClosed, .ref y_insides, .ref y_parent, .ref y_isHigh, .ref y_inBits, .int (z_i y_sides), .ref y_side, .ref y_sideA, .ref y_sideB, .int (z_i y_lineSpace), .ref y_wasThere, .ref ya_leads, .ref ya_isLed, .ref y_isOn, .ref y_goesTo, .ref y_stream, .ref y_filled, .ref y_isDone, .ref y_isReached, .ref y_newUnits, .ref y_isNew])), (ya_units, .inl (cA 1, 5120, .inl y_units)), (ya_leads, .inl (cA 1, 2560, .inl y_leads)), (ya_isLed, .inl (cA 3, 2560, .inl y_isLed))]) hD [0, 1, 2, 3] rfl
            refine va_callv (va_runV (As := [.int (z_i gi), .int (z_i v1), .int (z_i (v1 + 3)), .int (z_i lv)]) (rest := []) ⟨hx, hb, hml, hown, hts⟩ (mt_X8_joins l D cA y y_space y_offset y_length ya_units y_units y_isThere y_levels y_level y_lines y_lineLevel y_lineUnits y_lineFrom y_lineMany y_isClosed y_insides y_parent y_isHigh y_inBits y_sides y_side y_sideA y_sideB y_lineSpace y_wasThere ya_leads y_leads ya_isLed y_isLed y_isOn y_goesTo y_stream y_filled y_isDone y_isReached y_newUnits y_isNew gi v1 (v1 + 3) lv h_y_levels h_y_lines h_y_sides h_y_lineSpace h_gi h_v1 hr92 h_lv hp93 hp94 hp95) (cwV 4 hts gX8_cell_X8_joins rfl rfl rfl (by decide +kernel) ⟨Nat.le_of_ble_eq_true rfl, Nat.le_of_ble_eq_true rfl⟩) ⟨z_blm0, va_recv hK hP (ci := 6) (q0 := 0) rfl rfl, fun U hU hW => ⟨rfl, z_m0 hK hP hD hU hW⟩⟩ rfl rfl hl.1 rfl (lv_room (Nat.le_of_ble_eq_true rfl)) dX8_cell_246 ⟨Nat.zero_le _, Nat.zero_le _⟩) hS (fun q _ h => hFc q h) hFc (fun u t H locs ht hvm hw hB hz1 hk1 hS => ?_)
            obtain ⟨c96, c97⟩ := u
            rw [ht] at hB
            have hP := hB
            have hP : va_P D vwCl [(y, .inr (6, [.ref y_space, .ref y_offset, .ref y_length, .ref ya_units, .ref y_isThere, .int (z_i y_levels), .ref y_level, .int (z_i y_lines), .ref y_lineLevel, .ref y_lineUnits, .ref y_lineFrom, .ref y_lineMany, .ref y_isClosed, .ref y_insides, .ref y_parent, .ref y_isHigh, .ref y_inBits, .int (z_i y_sides), .ref y_side, .ref y_sideA, .ref y_sideB, .int (z_i y_lineSpace), .ref y_wasThere, .ref ya_leads, .ref ya_isLed, .ref y_isOn, .ref y_goesTo, .ref y_stream, .ref y_filled, .ref y_isDone, .ref y_isReached, .ref y_newUnits, .ref y_isNew])), (ya_units, .inl (cA 1, 5120, .inl y_units)), (ya_leads, .inl (cA 1, 2560, .inl c96)), (ya_isLed, .inl (cA 3, 2560, .inl c97))] H := hP
            have hD : va_D A [(y, .inr (6, [.ref y_space, .ref y_offset, .ref y_length, .ref ya_units, .ref y_isThere, .int (z_i y_levels), .ref y_level, .int (z_i y_lines), .ref y_lineLevel, .ref y_lineUnits, .ref y_lineFrom, .ref y_lineMany, .ref y_isClosed, .ref y_insides, .ref y_parent, .ref y_isHigh, .ref y_inBits, .int (z_i y_sides), .ref y_side, .ref y_sideA, .ref y_sideB, .int (z_i y_lineSpace), .ref y_wasThere, .ref ya_leads, .ref ya_isLed, .ref y_isOn, .ref y_goesTo, .ref y_stream, .ref y_filled, .ref y_isDone, .ref y_isReached, .ref y_newUnits, .ref y_isNew])), (ya_units, .inl (cA 1, 5120, .inl y_units)), (ya_leads, .inl (cA 1, 2560, .inl c96)), (ya_isLed, .inl (cA 3, 2560, .inl c97))] := z_D_addr hD rfl
            have hv := hv c96 c97 hw
            refine lv_aload_n hx hb dX8_cell_249 rfl (lv_at hl 10 rfl) ?_
            refine lv_iload_n hx hb dX8_cell_250 rfl (lv_at hl 11 rfl) ?_
            refine lv_iload hx hb dX8_cell_251 (lv_at hl 8 rfl) ?_
            refine lv_iload hx hb dX8_cell_253 (lv_at hl 7 rfl) ?_
            refine lv_iload hx hb dX8_cell_255 (lv_at hl 14 rfl) ?_
            obtain ⟨hr98, hv⟩ := hv
            obtain ⟨hr99, hv⟩ := hv
            obtain ⟨hp100, hv⟩ := hv
            obtain ⟨hp101, hv⟩ := hv
            obtain ⟨hp102, hv⟩ := hv
            have hFc := z_fr (A := A) (wc := [(y, .inr (6, [.ref y_space, .ref y_offset, .ref y_length, .ref ya_units, .ref y_isThere, .int (z_i y_levels), .ref y_level, .int (z_i y_lines), .ref y_lineLevel, .ref y_lineUnits, .ref y_lineFrom, .ref y_lineMany, .ref y_isClosed, .ref y_insides, .ref y_parent, .ref y_isHigh, .ref y_inBits, .int (z_i y_sides), .ref y_side, .ref y_sideA, .ref y_sideB, .int (z_i y_lineSpace), .ref y_wasThere, .ref ya_leads, .ref ya_isLed, .ref y_isOn, .ref y_goesTo, .ref y_stream, .ref y_filled, .ref y_isDone, .ref y_isReached, .ref y_newUnits, .ref y_isNew])), (ya_units, .inl (cA 1, 5120, .inl y_units)), (ya_leads, .inl (cA 1, 2560, .inl c96)), (ya_isLed, .inl (cA 3, 2560, .inl c97))]) hD [0, 1, 2, 3] rfl
            refine va_callv (va_runV (As := [.int (z_i gi), .int (z_i (v1 + 1)), .int (z_i (v1 + 80)), .int (z_i lv)]) (rest := []) ⟨hx, hb, hml, hown, hts⟩ (mt_X8_joins l D cA y y_space y_offset y_length ya_units y_units y_isThere y_levels y_level y_lines y_lineLevel y_lineUnits y_lineFrom y_lineMany y_isClosed y_insides y_parent y_isHigh y_inBits y_sides y_side y_sideA y_sideB y_lineSpace y_wasThere ya_leads c96 ya_isLed c97 y_isOn y_goesTo y_stream y_filled y_isDone y_isReached y_newUnits y_isNew gi (v1 + 1) (v1 + 80) lv h_y_levels h_y_lines h_y_sides h_y_lineSpace h_gi hr98 hr99 h_lv hp100 hp101 hp102) (cwV 4 hts gX8_cell_X8_joins rfl rfl rfl (by decide +kernel) ⟨Nat.le_of_ble_eq_true rfl, Nat.le_of_ble_eq_true rfl⟩) ⟨z_blm0, va_recv hK hP (ci := 6) (q0 := 0) rfl rfl, fun U hU hW => ⟨rfl, z_m0 hK hP hD hU hW⟩⟩ rfl rfl hl.1 rfl (lv_room (Nat.le_of_ble_eq_true rfl)) dX8_cell_257 ⟨Nat.zero_le _, Nat.zero_le _⟩) hS (fun q _ h => hFc q h) hFc (fun u t H locs ht hvm hw hB hz1 hk1 hS => ?_)
            obtain ⟨c103, c104⟩ := u
            rw [ht] at hB
            have hP := hB
            have hP : va_P D vwCl [(y, .inr (6, [.ref y_space, .ref y_offset, .ref y_length, .ref ya_units, .ref y_isThere, .int (z_i y_levels), .ref y_level, .int (z_i y_lines), .ref y_lineLevel, .ref y_lineUnits, .ref y_lineFrom, .ref y_lineMany, .ref y_isClosed, .ref y_insides, .ref y_parent, .ref y_isHigh, .ref y_inBits, .int (z_i y_sides), .ref y_side, .ref y_sideA, .ref y_sideB, .int (z_i y_lineSpace), .ref y_wasThere, .ref ya_leads, .ref ya_isLed, .ref y_isOn, .ref y_goesTo, .ref y_stream, .ref y_filled, .ref y_isDone, .ref y_isReached, .ref y_newUnits, .ref y_isNew])), (ya_units, .inl (cA 1, 5120, .inl y_units)), (ya_leads, .inl (cA 1, 2560, .inl c103)), (ya_isLed, .inl (cA 3, 2560, .inl c104))] H := hP
            have hD : va_D A [(y, .inr (6, [.ref y_space, .ref y_offset, .ref y_length, .ref ya_units, .ref y_isThere, .int (z_i y_levels), .ref y_level, .int (z_i y_lines), .ref y_lineLevel, .ref y_lineUnits, .ref y_lineFrom, .ref y_lineMany, .ref y_isClosed, .ref y_insides, .ref y_parent, .ref y_isHigh, .ref y_inBits, .int (z_i y_sides), .ref y_side, .ref y_sideA, .ref y_sideB, .int (z_i y_lineSpace), .ref y_wasThere, .ref ya_leads, .ref ya_isLed, .ref y_isOn, .ref y_goesTo, .ref y_stream, .ref y_filled, .ref y_isDone, .ref y_isReached, .ref y_newUnits, .ref y_isNew])), (ya_units, .inl (cA 1, 5120, .inl y_units)), (ya_leads, .inl (cA 1, 2560, .inl c103)), (ya_isLed, .inl (cA 3, 2560, .inl c104))] := z_D_addr hD rfl
            have hv := hv c103 c104 hw
            exact W.vret hx hb hr (fun t ht hW => ⟨⟨(c103, c104), rfl, hv, z_pt hP ht⟩, hS.F ht⟩) hS.2.2 dX8_cell_260
          · have hv := hv.2 (z_cmp_ge.mp hc)
            refine lv_iconst (v := z_i 1) hx hb dX8_cell_199 rfl ?_
            refine lv_goto (tgt := 204) hx hb dX8_cell_200 (by decide) ?_
            refine lv_istore (lv' := [(15, .int (z_i 1)), (13, .long (z_l v88)), (12, .int (z_i 0)), (11, .int (z_i 1)), (10, .int (z_i 1)), (9, .int (z_i 0)), (8, .int (z_i (v1 + 3))), (7, .int (z_i (v1 + 80))), (6, .int (z_i (v1 + 1))), (5, .int (z_i v1)), (0, .ref y), (1, .int (z_i gi)), (2, .int (z_i i)), (3, .int (z_i j)), (4, .int (z_i lv))]) hx hb dX8_cell_204 hl (by decide) rfl (fun ls hl => ?_)
            refine lv_iload hx hb dX8_cell_206 (lv_at hl 5 rfl) ?_
            refine lv_iload hx hb dX8_cell_208 (lv_at hl 0 rfl) ?_
            refine lx_icmp_eq (tgt := 238) hx hb dX8_cell_210 (by decide) ⟨by decide, by decide⟩ ⟨by decide, by decide⟩ (fun hc => absurd hc (by decide)) (fun _ => ?_)
            refine lv_aload_n hx hb dX8_cell_213 rfl (lv_at hl 10 rfl) ?_
            refine lv_iload_n hx hb dX8_cell_214 rfl (lv_at hl 11 rfl) ?_
            refine lv_iload hx hb dX8_cell_215 (lv_at hl 9 rfl) ?_
            refine lv_iload hx hb dX8_cell_217 (lv_at hl 8 rfl) ?_
            refine lv_iload hx hb dX8_cell_219 (lv_at hl 14 rfl) ?_
            obtain ⟨hr105, hv⟩ := hv
            obtain ⟨hp106, hv⟩ := hv
            obtain ⟨hp107, hv⟩ := hv
            obtain ⟨hp108, hv⟩ := hv
            have hFc := z_fr (A := A) (wc := [(y, .inr (6, [.ref y_space, .ref y_offset, .ref y_length, .ref ya_units, .ref y_isThere, .int (z_i y_levels), .ref y_level, .int (z_i y_lines), .ref y_lineLevel, .ref y_lineUnits, .ref y_lineFrom, .ref y_lineMany, .ref y_isClosed, .ref y_insides, .ref y_parent, .ref y_isHigh, .ref y_inBits, .int (z_i y_sides), .ref y_side, .ref y_sideA, .ref y_sideB, .int (z_i y_lineSpace), .ref y_wasThere, .ref ya_leads, .ref ya_isLed, .ref y_isOn, .ref y_goesTo, .ref y_stream, .ref y_filled, .ref y_isDone, .ref y_isReached, .ref y_newUnits, .ref y_isNew])), (ya_units, .inl (cA 1, 5120, .inl y_units)), (ya_leads, .inl (cA 1, 2560, .inl y_leads)), (ya_isLed, .inl (cA 3, 2560, .inl y_isLed))]) hD [0, 1, 2, 3] rfl
            refine va_callv (va_runV (As := [.int (z_i gi), .int (z_i v1), .int (z_i (v1 + 1)), .int (z_i lv)]) (rest := []) ⟨hx, hb, hml, hown, hts⟩ (mt_X8_joins l D cA y y_space y_offset y_length ya_units y_units y_isThere y_levels y_level y_lines y_lineLevel y_lineUnits y_lineFrom y_lineMany y_isClosed y_insides y_parent y_isHigh y_inBits y_sides y_side y_sideA y_sideB y_lineSpace y_wasThere ya_leads y_leads ya_isLed y_isLed y_isOn y_goesTo y_stream y_filled y_isDone y_isReached y_newUnits y_isNew gi v1 (v1 + 1) lv h_y_levels h_y_lines h_y_sides h_y_lineSpace h_gi h_v1 hr105 h_lv hp106 hp107 hp108) (cwV 4 hts gX8_cell_X8_joins rfl rfl rfl (by decide +kernel) ⟨Nat.le_of_ble_eq_true rfl, Nat.le_of_ble_eq_true rfl⟩) ⟨z_blm0, va_recv hK hP (ci := 6) (q0 := 0) rfl rfl, fun U hU hW => ⟨rfl, z_m0 hK hP hD hU hW⟩⟩ rfl rfl hl.1 rfl (lv_room (Nat.le_of_ble_eq_true rfl)) dX8_cell_221 ⟨Nat.zero_le _, Nat.zero_le _⟩) hS (fun q _ h => hFc q h) hFc (fun u t H locs ht hvm hw hB hz1 hk1 hS => ?_)
            obtain ⟨c109, c110⟩ := u
            rw [ht] at hB
            have hP := hB
            have hP : va_P D vwCl [(y, .inr (6, [.ref y_space, .ref y_offset, .ref y_length, .ref ya_units, .ref y_isThere, .int (z_i y_levels), .ref y_level, .int (z_i y_lines), .ref y_lineLevel, .ref y_lineUnits, .ref y_lineFrom, .ref y_lineMany, .ref y_isClosed, .ref y_insides, .ref y_parent, .ref y_isHigh, .ref y_inBits, .int (z_i y_sides), .ref y_side, .ref y_sideA, .ref y_sideB, .int (z_i y_lineSpace), .ref y_wasThere, .ref ya_leads, .ref ya_isLed, .ref y_isOn, .ref y_goesTo, .ref y_stream, .ref y_filled, .ref y_isDone, .ref y_isReached, .ref y_newUnits, .ref y_isNew])), (ya_units, .inl (cA 1, 5120, .inl y_units)), (ya_leads, .inl (cA 1, 2560, .inl c109)), (ya_isLed, .inl (cA 3, 2560, .inl c110))] H := hP
            have hD : va_D A [(y, .inr (6, [.ref y_space, .ref y_offset, .ref y_length, .ref ya_units, .ref y_isThere, .int (z_i y_levels), .ref y_level, .int (z_i y_lines), .ref y_lineLevel, .ref y_lineUnits, .ref y_lineFrom, .ref y_lineMany, .ref y_isClosed, .ref y_insides, .ref y_parent, .ref y_isHigh, .ref y_inBits, .int (z_i y_sides), .ref y_side, .ref y_sideA, .ref y_sideB, .int (z_i y_lineSpace), .ref y_wasThere, .ref ya_leads, .ref ya_isLed, .ref y_isOn, .ref y_goesTo, .ref y_stream, .ref y_filled, .ref y_isDone, .ref y_isReached, .ref y_newUnits, .ref y_isNew])), (ya_units, .inl (cA 1, 5120, .inl y_units)), (ya_leads, .inl (cA 1, 2560, .inl c109)), (ya_isLed, .inl (cA 3, 2560, .inl c110))] := z_D_addr hD rfl
            have hv := hv c109 c110 hw
            refine lv_aload_n hx hb dX8_cell_224 rfl (lv_at hl 10 rfl) ?_
            refine lv_iload_n hx hb dX8_cell_225 rfl (lv_at hl 11 rfl) ?_
            refine lv_iload hx hb dX8_cell_226 (lv_at hl 6 rfl) ?_
            refine lv_iload hx hb dX8_cell_228 (lv_at hl 7 rfl) ?_
            refine lv_iload hx hb dX8_cell_230 (lv_at hl 14 rfl) ?_
            obtain ⟨hr111, hv⟩ := hv
            obtain ⟨hr112, hv⟩ := hv
            obtain ⟨hp113, hv⟩ := hv
            obtain ⟨hp114, hv⟩ := hv
            obtain ⟨hp115, hv⟩ := hv
            have hFc := z_fr (A := A) (wc := [(y, .inr (6, [.ref y_space, .ref y_offset, .ref y_length, .ref ya_units, .ref y_isThere, .int (z_i y_levels), .ref y_level, .int (z_i y_lines), .ref y_lineLevel, .ref y_lineUnits, .ref y_lineFrom, .ref y_lineMany, .ref y_isClosed, .ref y_insides, .ref y_parent, .ref y_isHigh, .ref y_inBits, .int (z_i y_sides), .ref y_side, .ref y_sideA, .ref y_sideB, .int (z_i y_lineSpace), .ref y_wasThere, .ref ya_leads, .ref ya_isLed, .ref y_isOn, .ref y_goesTo, .ref y_stream, .ref y_filled, .ref y_isDone, .ref y_isReached, .ref y_newUnits, .ref y_isNew])), (ya_units, .inl (cA 1, 5120, .inl y_units)), (ya_leads, .inl (cA 1, 2560, .inl c109)), (ya_isLed, .inl (cA 3, 2560, .inl c110))]) hD [0, 1, 2, 3] rfl
            refine va_callv (va_runV (As := [.int (z_i gi), .int (z_i (v1 + 3)), .int (z_i (v1 + 80)), .int (z_i lv)]) (rest := []) ⟨hx, hb, hml, hown, hts⟩ (mt_X8_joins l D cA y y_space y_offset y_length ya_units y_units y_isThere y_levels y_level y_lines y_lineLevel y_lineUnits y_lineFrom y_lineMany y_isClosed y_insides y_parent y_isHigh y_inBits y_sides y_side y_sideA y_sideB y_lineSpace y_wasThere ya_leads c109 ya_isLed c110 y_isOn y_goesTo y_stream y_filled y_isDone y_isReached y_newUnits y_isNew gi (v1 + 3) (v1 + 80) lv h_y_levels h_y_lines h_y_sides h_y_lineSpace h_gi hr111 hr112 h_lv hp113 hp114 hp115) (cwV 4 hts gX8_cell_X8_joins rfl rfl rfl (by decide +kernel) ⟨Nat.le_of_ble_eq_true rfl, Nat.le_of_ble_eq_true rfl⟩) ⟨z_blm0, va_recv hK hP (ci := 6) (q0 := 0) rfl rfl, fun U hU hW => ⟨rfl, z_m0 hK hP hD hU hW⟩⟩ rfl rfl hl.1 rfl (lv_room (Nat.le_of_ble_eq_true rfl)) dX8_cell_232 ⟨Nat.zero_le _, Nat.zero_le _⟩) hS (fun q _ h => hFc q h) hFc (fun u t H locs ht hvm hw hB hz1 hk1 hS => ?_)
            obtain ⟨c116, c117⟩ := u
            rw [ht] at hB
            have hP := hB
            have hP : va_P D vwCl [(y, .inr (6, [.ref y_space, .ref y_offset, .ref y_length, .ref ya_units, .ref y_isThere, .int (z_i y_levels), .ref y_level, .int (z_i y_lines), .ref y_lineLevel, .ref y_lineUnits, .ref y_lineFrom, .ref y_lineMany, .ref y_isClosed, .ref y_insides, .ref y_parent, .ref y_isHigh, .ref y_inBits, .int (z_i y_sides), .ref y_side, .ref y_sideA, .ref y_sideB, .int (z_i y_lineSpace), .ref y_wasThere, .ref ya_leads, .ref ya_isLed, .ref y_isOn, .ref y_goesTo, .ref y_stream, .ref y_filled, .ref y_isDone, .ref y_isReached, .ref y_newUnits, .ref y_isNew])), (ya_units, .inl (cA 1, 5120, .inl y_units)), (ya_leads, .inl (cA 1, 2560, .inl c116)), (ya_isLed, .inl (cA 3, 2560, .inl c117))] H := hP
            have hD : va_D A [(y, .inr (6, [.ref y_space, .ref y_offset, .ref y_length, .ref ya_units, .ref y_isThere, .int (z_i y_levels), .ref y_level, .int (z_i y_lines), .ref y_lineLevel, .ref y_lineUnits, .ref y_lineFrom, .ref y_lineMany, .ref y_isClosed, .ref y_insides, .ref y_parent, .ref y_isHigh, .ref y_inBits, .int (z_i y_sides), .ref y_side, .ref y_sideA, .ref y_sideB, .int (z_i y_lineSpace), .ref y_wasThere, .ref ya_leads, .ref ya_isLed, .ref y_isOn, .ref y_goesTo, .ref y_stream, .ref y_filled, .ref y_isDone, .ref y_isReached, .ref y_newUnits, .ref y_isNew])), (ya_units, .inl (cA 1, 5120, .inl y_units)), (ya_leads, .inl (cA 1, 2560, .inl c116)), (ya_isLed, .inl (cA 3, 2560, .inl c117))] := z_D_addr hD rfl
            have hv := hv c116 c117 hw
            refine lv_goto (tgt := 260) hx hb dX8_cell_235 (by decide) ?_
            exact W.vret hx hb hr (fun t ht hW => ⟨⟨(c116, c117), rfl, hv, z_pt hP ht⟩, hS.F ht⟩) hS.2.2 dX8_cell_260
        · have hv := hv.2 hc
          refine lv_iconst (v := z_i 1) hx hb dX8_cell_106 rfl ?_
          refine lv_goto (tgt := 111) hx hb dX8_cell_107 (by decide) ?_
          refine lv_istore (lv' := [(12, .int (z_i 1)), (11, .int (z_i 1)), (10, .int (z_i 1)), (9, .int (z_i 0)), (8, .int (z_i (v1 + 3))), (7, .int (z_i (v1 + 80))), (6, .int (z_i (v1 + 1))), (5, .int (z_i v1)), (0, .ref y), (1, .int (z_i gi)), (2, .int (z_i i)), (3, .int (z_i j)), (4, .int (z_i lv))]) hx hb dX8_cell_111 hl (by decide) rfl (fun ls hl => ?_)
          refine lv_iload hx hb dX8_cell_113 (lv_at hl 3 rfl) ?_
          refine lv_iload hx hb dX8_cell_115 (lv_at hl 2 rfl) ?_
          refine lx_icmp_eq (tgt := 261) hx hb dX8_cell_117 (by decide) ⟨by decide, by decide⟩ ⟨by decide, by decide⟩ (fun hc => absurd hc (by decide)) (fun _ => ?_)
          refine lv_iload hx hb dX8_cell_120 (lv_at hl 3 rfl) ?_
          refine lv_iload hx hb dX8_cell_122 (lv_at hl 1 rfl) ?_
          refine lx_icmp_eq (tgt := 261) hx hb dX8_cell_124 (by decide) ⟨by decide, by decide⟩ ⟨by decide, by decide⟩ (fun hc => absurd hc (by decide)) (fun _ => ?_)
          refine lv_iload hx hb dX8_cell_127 (lv_at hl 2 rfl) ?_
          refine lv_iload hx hb dX8_cell_129 (lv_at hl 0 rfl) ?_
          refine lx_icmp_eq (tgt := 261) hx hb dX8_cell_131 (by decide) ⟨by decide, by decide⟩ ⟨by decide, by decide⟩ (fun _ => ?_) (fun hc => absurd hc (by decide))
          refine lv_iconst (v := z_i (-1)) hx hb dX8_cell_261 rfl ?_
          refine lv_istore (lv' := [(13, .int (z_i (-1))), (12, .int (z_i 1)), (11, .int (z_i 1)), (10, .int (z_i 1)), (9, .int (z_i 0)), (8, .int (z_i (v1 + 3))), (7, .int (z_i (v1 + 80))), (6, .int (z_i (v1 + 1))), (5, .int (z_i v1)), (0, .ref y), (1, .int (z_i gi)), (2, .int (z_i i)), (3, .int (z_i j)), (4, .int (z_i lv))]) hx hb dX8_cell_262 hl (by decide) rfl (fun ls hl => ?_)
          refine lv_iconst (v := z_i (-1)) hx hb dX8_cell_264 rfl ?_
          refine lv_istore (lv' := [(14, .int (z_i (-1))), (13, .int (z_i (-1))), (12, .int (z_i 1)), (11, .int (z_i 1)), (10, .int (z_i 1)), (9, .int (z_i 0)), (8, .int (z_i (v1 + 3))), (7, .int (z_i (v1 + 80))), (6, .int (z_i (v1 + 1))), (5, .int (z_i v1)), (0, .ref y), (1, .int (z_i gi)), (2, .int (z_i i)), (3, .int (z_i j)), (4, .int (z_i lv))]) hx hb dX8_cell_265 hl (by decide) rfl (fun ls hl => ?_)
          refine lv_iload hx hb dX8_cell_267 (lv_at hl 5 rfl) ?_
          refine lv_iload hx hb dX8_cell_269 (lv_at hl 4 rfl) ?_
          refine lx_icmp_eq (tgt := 278) hx hb dX8_cell_271 (by decide) ⟨by decide, by decide⟩ ⟨by decide, by decide⟩ (fun hc => absurd hc (by decide)) (fun _ => ?_)
          refine lv_iload hx hb dX8_cell_274 (lv_at hl 9 rfl) ?_
          refine lv_istore (lv' := [(13, .int (z_i v1)), (14, .int (z_i (-1))), (12, .int (z_i 1)), (11, .int (z_i 1)), (10, .int (z_i 1)), (9, .int (z_i 0)), (8, .int (z_i (v1 + 3))), (7, .int (z_i (v1 + 80))), (6, .int (z_i (v1 + 1))), (5, .int (z_i v1)), (0, .ref y), (1, .int (z_i gi)), (2, .int (z_i i)), (3, .int (z_i j)), (4, .int (z_i lv))]) hx hb dX8_cell_276 hl (by decide) rfl (fun ls hl => ?_)
          refine lv_iload hx hb dX8_cell_278 (lv_at hl 5 rfl) ?_
          refine lv_iload hx hb dX8_cell_280 (lv_at hl 3 rfl) ?_
          refine lx_icmp_eq (tgt := 293) hx hb dX8_cell_282 (by decide) ⟨by decide, by decide⟩ ⟨by decide, by decide⟩ (fun hc => absurd hc (by decide)) (fun _ => ?_)
          refine lv_iload hx hb dX8_cell_285 (lv_at hl 0 rfl) ?_
          refine lv_istore (lv' := [(14, .int (z_i v1)), (13, .int (z_i v1)), (12, .int (z_i 1)), (11, .int (z_i 1)), (10, .int (z_i 1)), (9, .int (z_i 0)), (8, .int (z_i (v1 + 3))), (7, .int (z_i (v1 + 80))), (6, .int (z_i (v1 + 1))), (5, .int (z_i v1)), (0, .ref y), (1, .int (z_i gi)), (2, .int (z_i i)), (3, .int (z_i j)), (4, .int (z_i lv))]) hx hb dX8_cell_287 hl (by decide) rfl (fun ls hl => ?_)
          refine lv_iload hx hb dX8_cell_289 (lv_at hl 8 rfl) ?_
          refine lv_istore (lv' := [(13, .int (z_i (v1 + 1))), (14, .int (z_i v1)), (12, .int (z_i 1)), (11, .int (z_i 1)), (10, .int (z_i 1)), (9, .int (z_i 0)), (8, .int (z_i (v1 + 3))), (7, .int (z_i (v1 + 80))), (6, .int (z_i (v1 + 1))), (5, .int (z_i v1)), (0, .ref y), (1, .int (z_i gi)), (2, .int (z_i i)), (3, .int (z_i j)), (4, .int (z_i lv))]) hx hb dX8_cell_291 hl (by decide) rfl (fun ls hl => ?_)
          refine lv_iload hx hb dX8_cell_293 (lv_at hl 4 rfl) ?_
          refine lv_iload hx hb dX8_cell_295 (lv_at hl 2 rfl) ?_
          refine lx_icmp_eq (tgt := 308) hx hb dX8_cell_297 (by decide) ⟨by decide, by decide⟩ ⟨by decide, by decide⟩ (fun _ => ?_) (fun hc => absurd hc (by decide))
          refine lv_iload hx hb dX8_cell_308 (lv_at hl 3 rfl) ?_
          refine lv_iload hx hb dX8_cell_310 (lv_at hl 2 rfl) ?_
          refine lx_icmp_eq (tgt := 323) hx hb dX8_cell_312 (by decide) ⟨by decide, by decide⟩ ⟨by decide, by decide⟩ (fun _ => ?_) (fun hc => absurd hc (by decide))
          refine lv_iload hx hb dX8_cell_323 (lv_at hl 0 rfl) ?_
          obtain ⟨hr118, hv⟩ := hv
          refine lx_if_lt (tgt := 344) hx hb dX8_cell_325 (by decide) hr118 (fun hc => ?_) (fun hc => ?_)
          · have hv := hv.1 hc
            exact W.vret hx hb hr (fun t ht hW => ⟨⟨(y_leads, y_isLed), rfl, hv, z_pt hP ht⟩, hS.F ht⟩) hS.2.2 dX8_cell_344
          · have hv := hv.2 hc
            refine lv_iload hx hb dX8_cell_328 (lv_at hl 1 rfl) ?_
            refine lx_if_lt (tgt := 344) hx hb dX8_cell_330 (by decide) h_v1 (fun hc => ?_) (fun hc => ?_)
            · have hv := hv.1 hc
              exact W.vret hx hb hr (fun t ht hW => ⟨⟨(y_leads, y_isLed), rfl, hv, z_pt hP ht⟩, hS.F ht⟩) hS.2.2 dX8_cell_344
            · have hv := hv.2 hc
              refine lv_aload_n hx hb dX8_cell_333 rfl (lv_at hl 10 rfl) ?_
              refine lv_iload_n hx hb dX8_cell_334 rfl (lv_at hl 11 rfl) ?_
              refine lv_iload hx hb dX8_cell_335 (lv_at hl 0 rfl) ?_
              refine lv_iload hx hb dX8_cell_337 (lv_at hl 1 rfl) ?_
              refine lv_iload hx hb dX8_cell_339 (lv_at hl 14 rfl) ?_
              obtain ⟨hp119, hv⟩ := hv
              obtain ⟨hp120, hv⟩ := hv
              obtain ⟨hp121, hv⟩ := hv
              have hFc := z_fr (A := A) (wc := [(y, .inr (6, [.ref y_space, .ref y_offset, .ref y_length, .ref ya_units, .ref y_isThere, .int (z_i y_levels), .ref y_level, .int (z_i y_lines), .ref y_lineLevel, .ref y_lineUnits, .ref y_lineFrom, .ref y_lineMany, .ref y_isClosed, .ref y_insides, .ref y_parent, .ref y_isHigh, .ref y_inBits, .int (z_i y_sides), .ref y_side, .ref y_sideA, .ref y_sideB, .int (z_i y_lineSpace), .ref y_wasThere, .ref ya_leads, .ref ya_isLed, .ref y_isOn, .ref y_goesTo, .ref y_stream, .ref y_filled, .ref y_isDone, .ref y_isReached, .ref y_newUnits, .ref y_isNew])), (ya_units, .inl (cA 1, 5120, .inl y_units)), (ya_leads, .inl (cA 1, 2560, .inl y_leads)), (ya_isLed, .inl (cA 3, 2560, .inl y_isLed))]) hD [0, 1, 2, 3] rfl
              refine va_callv (va_runV (As := [.int (z_i gi), .int (z_i (v1 + 1)), .int (z_i v1), .int (z_i lv)]) (rest := []) ⟨hx, hb, hml, hown, hts⟩ (mt_X8_joins l D cA y y_space y_offset y_length ya_units y_units y_isThere y_levels y_level y_lines y_lineLevel y_lineUnits y_lineFrom y_lineMany y_isClosed y_insides y_parent y_isHigh y_inBits y_sides y_side y_sideA y_sideB y_lineSpace y_wasThere ya_leads y_leads ya_isLed y_isLed y_isOn y_goesTo y_stream y_filled y_isDone y_isReached y_newUnits y_isNew gi (v1 + 1) v1 lv h_y_levels h_y_lines h_y_sides h_y_lineSpace h_gi hr118 h_v1 h_lv hp119 hp120 hp121) (cwV 4 hts gX8_cell_X8_joins rfl rfl rfl (by decide +kernel) ⟨Nat.le_of_ble_eq_true rfl, Nat.le_of_ble_eq_true rfl⟩) ⟨z_blm0, va_recv hK hP (ci := 6) (q0 := 0) rfl rfl, fun U hU hW => ⟨rfl, z_m0 hK hP hD hU hW⟩⟩ rfl rfl hl.1 rfl (lv_room (Nat.le_of_ble_eq_true rfl)) dX8_cell_341 ⟨Nat.zero_le _, Nat.zero_le _⟩) hS (fun q _ h => hFc q h) hFc (fun u t H locs ht hvm hw hB hz1 hk1 hS => ?_)
              obtain ⟨c122, c123⟩ := u
              rw [ht] at hB
              have hP := hB
              have hP : va_P D vwCl [(y, .inr (6, [.ref y_space, .ref y_offset, .ref y_length, .ref ya_units, .ref y_isThere, .int (z_i y_levels), .ref y_level, .int (z_i y_lines), .ref y_lineLevel, .ref y_lineUnits, .ref y_lineFrom, .ref y_lineMany, .ref y_isClosed, .ref y_insides, .ref y_parent, .ref y_isHigh, .ref y_inBits, .int (z_i y_sides), .ref y_side, .ref y_sideA, .ref y_sideB, .int (z_i y_lineSpace), .ref y_wasThere, .ref ya_leads, .ref ya_isLed, .ref y_isOn, .ref y_goesTo, .ref y_stream, .ref y_filled, .ref y_isDone, .ref y_isReached, .ref y_newUnits, .ref y_isNew])), (ya_units, .inl (cA 1, 5120, .inl y_units)), (ya_leads, .inl (cA 1, 2560, .inl c122)), (ya_isLed, .inl (cA 3, 2560, .inl c123))] H := hP
              have hD : va_D A [(y, .inr (6, [.ref y_space, .ref y_offset, .ref y_length, .ref ya_units, .ref y_isThere, .int (z_i y_levels), .ref y_level, .int (z_i y_lines), .ref y_lineLevel, .ref y_lineUnits, .ref y_lineFrom, .ref y_lineMany, .ref y_isClosed, .ref y_insides, .ref y_parent, .ref y_isHigh, .ref y_inBits, .int (z_i y_sides), .ref y_side, .ref y_sideA, .ref y_sideB, .int (z_i y_lineSpace), .ref y_wasThere, .ref ya_leads, .ref ya_isLed, .ref y_isOn, .ref y_goesTo, .ref y_stream, .ref y_filled, .ref y_isDone, .ref y_isReached, .ref y_newUnits, .ref y_isNew])), (ya_units, .inl (cA 1, 5120, .inl y_units)), (ya_leads, .inl (cA 1, 2560, .inl c122)), (ya_isLed, .inl (cA 3, 2560, .inl c123))] := z_D_addr hD rfl
              have hv := hv c122 c123 hw
              exact W.vret hx hb hr (fun t ht hW => ⟨⟨(c122, c123), rfl, hv, z_pt hP ht⟩, hS.F ht⟩) hS.2.2 dX8_cell_344
  · have hv := hv.2 hc
    refine lv_iconst (v := z_i 1) hx hb dX8_cell_41 rfl ?_
    refine lv_goto (tgt := 46) hx hb dX8_cell_42 (by decide) ?_
    refine lv_istore (lv' := [(9, .int (z_i 1)), (8, .int (z_i (v1 + 3))), (7, .int (z_i (v1 + 80))), (6, .int (z_i (v1 + 1))), (5, .int (z_i v1)), (0, .ref y), (1, .int (z_i gi)), (2, .int (z_i i)), (3, .int (z_i j)), (4, .int (z_i lv))]) hx hb dX8_cell_46 hl (by decide) rfl (fun ls hl => ?_)
    refine lv_aload_n hx hb dX8_cell_48 rfl (lv_at hl 5 rfl) ?_
    refine lv_iload_n hx hb dX8_cell_49 rfl (lv_at hl 6 rfl) ?_
    refine lv_iload_n hx hb dX8_cell_50 rfl (lv_at hl 7 rfl) ?_
    refine lv_iload_n hx hb dX8_cell_51 rfl (lv_at hl 8 rfl) ?_
    refine lv_iconst (v := z_i 1) hx hb dX8_cell_52 rfl ?_
    refine lx_iadd hx hb dX8_cell_53 ?_
    obtain ⟨hr124, hv⟩ := hv
    obtain ⟨hp125, hv⟩ := hv
    obtain ⟨hp126, hv⟩ := hv
    obtain ⟨hp127, hv⟩ := hv
    refine va_calli (va_runV (As := [.int (z_i gi), .int (z_i i), .int (z_i (j + 1))]) (rest := []) ⟨hx, hb, hml, hown, hts⟩ (mt_X8_h l D cA y y_space y_offset y_length ya_units y_units y_isThere y_levels y_level y_lines y_lineLevel y_lineUnits y_lineFrom y_lineMany y_isClosed y_insides y_parent y_isHigh y_inBits y_sides y_side y_sideA y_sideB y_lineSpace y_wasThere ya_leads ya_isLed y_isOn y_goesTo y_stream y_filled y_isDone y_isReached y_newUnits y_isNew gi i (j + 1) h_y_levels h_y_lines h_y_sides h_y_lineSpace h_gi h_i hr124 hp125 hp126 hp127) (cwV 3 hts gX8_cell_X8_h rfl rfl rfl (by decide +kernel) ⟨Nat.le_of_ble_eq_true rfl, Nat.le_of_ble_eq_true rfl⟩) ⟨z_bl0, va_recv hK hP (ci := 6) (q0 := 0) rfl rfl, fun U hU hW => ⟨rfl, z_b0 hK (hP.sub (ws' := [(y, .inr (6, [.ref y_space, .ref y_offset, .ref y_length, .ref ya_units, .ref y_isThere, .int (z_i y_levels), .ref y_level, .int (z_i y_lines), .ref y_lineLevel, .ref y_lineUnits, .ref y_lineFrom, .ref y_lineMany, .ref y_isClosed, .ref y_insides, .ref y_parent, .ref y_isHigh, .ref y_inBits, .int (z_i y_sides), .ref y_side, .ref y_sideA, .ref y_sideB, .int (z_i y_lineSpace), .ref y_wasThere, .ref ya_leads, .ref ya_isLed, .ref y_isOn, .ref y_goesTo, .ref y_stream, .ref y_filled, .ref y_isDone, .ref y_isReached, .ref y_newUnits, .ref y_isNew])), (ya_units, .inl (cA 1, 5120, .inl y_units))]) [0, 1] rfl) hU hW⟩⟩ rfl rfl hl.1 rfl (lv_room (Nat.le_of_ble_eq_true rfl)) dX8_cell_54 ⟨Nat.zero_le _, Nat.zero_le _⟩) hS (fun q _ h => h.elim) (fun q h => h.elim) (fun r0 u t H locs ht hvm hw hB hz1 hk1 hS => ?_)
    obtain ⟨r128, rfl, h_r128, hw⟩ := hw
    have hP := z_P_all hP hk1
    have hv := hv r128 h_r128 hw
    refine lv_iload hx hb dX8_cell_57 (lv_at hl 9 rfl) ?_
    refine lx_icmp_lt (tgt := 66) hx hb dX8_cell_59 (by decide) h_r128 h_lv (fun hc => ?_) (fun hc => ?_)
    · have hv := hv.1 hc
      refine lv_iconst (v := z_i 0) hx hb dX8_cell_66 rfl ?_
      refine lv_istore (lv' := [(10, .int (z_i 0)), (9, .int (z_i 1)), (8, .int (z_i (v1 + 3))), (7, .int (z_i (v1 + 80))), (6, .int (z_i (v1 + 1))), (5, .int (z_i v1)), (0, .ref y), (1, .int (z_i gi)), (2, .int (z_i i)), (3, .int (z_i j)), (4, .int (z_i lv))]) hx hb dX8_cell_67 hl (by decide) rfl (fun ls hl => ?_)
      refine lv_aload_n hx hb dX8_cell_69 rfl (lv_at hl 6 rfl) ?_
      refine lv_iload_n hx hb dX8_cell_70 rfl (lv_at hl 7 rfl) ?_
      refine lv_iload_n hx hb dX8_cell_71 rfl (lv_at hl 8 rfl) ?_
      refine lv_iconst (v := z_i 1) hx hb dX8_cell_72 rfl ?_
      refine lx_iadd hx hb dX8_cell_73 ?_
      refine lv_iload_n hx hb dX8_cell_74 rfl (lv_at hl 9 rfl) ?_
      obtain ⟨hr129, hv⟩ := hv
      obtain ⟨hp130, hv⟩ := hv
      obtain ⟨hp131, hv⟩ := hv
      obtain ⟨hp132, hv⟩ := hv
      refine va_calli (va_runV (As := [.int (z_i gi), .int (z_i (i + 1)), .int (z_i j)]) (rest := []) ⟨hx, hb, hml, hown, hts⟩ (mt_X8_h l D cA y y_space y_offset y_length ya_units y_units y_isThere y_levels y_level y_lines y_lineLevel y_lineUnits y_lineFrom y_lineMany y_isClosed y_insides y_parent y_isHigh y_inBits y_sides y_side y_sideA y_sideB y_lineSpace y_wasThere ya_leads ya_isLed y_isOn y_goesTo y_stream y_filled y_isDone y_isReached y_newUnits y_isNew gi (i + 1) j h_y_levels h_y_lines h_y_sides h_y_lineSpace h_gi hr129 h_j hp130 hp131 hp132) (cwV 3 hts gX8_cell_X8_h rfl rfl rfl (by decide +kernel) ⟨Nat.le_of_ble_eq_true rfl, Nat.le_of_ble_eq_true rfl⟩) ⟨z_bl0, va_recv hK hP (ci := 6) (q0 := 0) rfl rfl, fun U hU hW => ⟨rfl, z_b0 hK (hP.sub (ws' := [(y, .inr (6, [.ref y_space, .ref y_offset, .ref y_length, .ref ya_units, .ref y_isThere, .int (z_i y_levels), .ref y_level, .int (z_i y_lines), .ref y_lineLevel, .ref y_lineUnits, .ref y_lineFrom, .ref y_lineMany, .ref y_isClosed, .ref y_insides, .ref y_parent, .ref y_isHigh, .ref y_inBits, .int (z_i y_sides), .ref y_side, .ref y_sideA, .ref y_sideB, .int (z_i y_lineSpace), .ref y_wasThere, .ref ya_leads, .ref ya_isLed, .ref y_isOn, .ref y_goesTo, .ref y_stream, .ref y_filled, .ref y_isDone, .ref y_isReached, .ref y_newUnits, .ref y_isNew])), (ya_units, .inl (cA 1, 5120, .inl y_units))]) [0, 1] rfl) hU hW⟩⟩ rfl rfl hl.1 rfl (lv_room (Nat.le_of_ble_eq_true rfl)) dX8_cell_75 ⟨Nat.zero_le _, Nat.zero_le _⟩) hS (fun q _ h => h.elim) (fun q h => h.elim) (fun r0 u t H locs ht hvm hw hB hz1 hk1 hS => ?_)
      obtain ⟨r133, rfl, h_r133, hw⟩ := hw
      have hP := z_P_all hP hk1
      have hv := hv r133 h_r133 hw
      refine lv_iload hx hb dX8_cell_78 (lv_at hl 10 rfl) ?_
      refine lx_icmp_lt (tgt := 87) hx hb dX8_cell_80 (by decide) h_r133 h_lv (fun hc => ?_) (fun hc => ?_)
      · have hv := hv.1 hc
        refine lv_iconst (v := z_i 0) hx hb dX8_cell_87 rfl ?_
        refine lv_istore (lv' := [(11, .int (z_i 0)), (10, .int (z_i 0)), (9, .int (z_i 1)), (8, .int (z_i (v1 + 3))), (7, .int (z_i (v1 + 80))), (6, .int (z_i (v1 + 1))), (5, .int (z_i v1)), (0, .ref y), (1, .int (z_i gi)), (2, .int (z_i i)), (3, .int (z_i j)), (4, .int (z_i lv))]) hx hb dX8_cell_88 hl (by decide) rfl (fun ls hl => ?_)
        refine lv_aload_n hx hb dX8_cell_90 rfl (lv_at hl 7 rfl) ?_
        refine lv_iload_n hx hb dX8_cell_91 rfl (lv_at hl 8 rfl) ?_
        refine lv_iload_n hx hb dX8_cell_92 rfl (lv_at hl 9 rfl) ?_
        refine lv_iconst (v := z_i 1) hx hb dX8_cell_93 rfl ?_
        refine lx_iadd hx hb dX8_cell_94 ?_
        refine lv_iload_n hx hb dX8_cell_95 rfl (lv_at hl 10 rfl) ?_
        refine lv_iconst (v := z_i 1) hx hb dX8_cell_96 rfl ?_
        refine lx_iadd hx hb dX8_cell_97 ?_
        obtain ⟨hp134, hv⟩ := hv
        obtain ⟨hp135, hv⟩ := hv
        obtain ⟨hp136, hv⟩ := hv
        refine va_calli (va_runV (As := [.int (z_i gi), .int (z_i (i + 1)), .int (z_i (j + 1))]) (rest := []) ⟨hx, hb, hml, hown, hts⟩ (mt_X8_h l D cA y y_space y_offset y_length ya_units y_units y_isThere y_levels y_level y_lines y_lineLevel y_lineUnits y_lineFrom y_lineMany y_isClosed y_insides y_parent y_isHigh y_inBits y_sides y_side y_sideA y_sideB y_lineSpace y_wasThere ya_leads ya_isLed y_isOn y_goesTo y_stream y_filled y_isDone y_isReached y_newUnits y_isNew gi (i + 1) (j + 1) h_y_levels h_y_lines h_y_sides h_y_lineSpace h_gi hr129 hr124 hp134 hp135 hp136) (cwV 3 hts gX8_cell_X8_h rfl rfl rfl (by decide +kernel) ⟨Nat.le_of_ble_eq_true rfl, Nat.le_of_ble_eq_true rfl⟩) ⟨z_bl0, va_recv hK hP (ci := 6) (q0 := 0) rfl rfl, fun U hU hW => ⟨rfl, z_b0 hK (hP.sub (ws' := [(y, .inr (6, [.ref y_space, .ref y_offset, .ref y_length, .ref ya_units, .ref y_isThere, .int (z_i y_levels), .ref y_level, .int (z_i y_lines), .ref y_lineLevel, .ref y_lineUnits, .ref y_lineFrom, .ref y_lineMany, .ref y_isClosed, .ref y_insides, .ref y_parent, .ref y_isHigh, .ref y_inBits, .int (z_i y_sides), .ref y_side, .ref y_sideA, .ref y_sideB, .int (z_i y_lineSpace), .ref y_wasThere, .ref ya_leads, .ref ya_isLed, .ref y_isOn, .ref y_goesTo, .ref y_stream, .ref y_filled, .ref y_isDone, .ref y_isReached, .ref y_newUnits, .ref y_isNew])), (ya_units, .inl (cA 1, 5120, .inl y_units))]) [0, 1] rfl) hU hW⟩⟩ rfl rfl hl.1 rfl (lv_room (Nat.le_of_ble_eq_true rfl)) dX8_cell_98 ⟨Nat.zero_le _, Nat.zero_le _⟩) hS (fun q _ h => h.elim) (fun q h => h.elim) (fun r0 u t H locs ht hvm hw hB hz1 hk1 hS => ?_)
        obtain ⟨r137, rfl, h_r137, hw⟩ := hw
        have hP := z_P_all hP hk1
        have hv := hv r137 h_r137 hw
        refine lv_iload hx hb dX8_cell_101 (lv_at hl 11 rfl) ?_
        refine lx_icmp_lt (tgt := 110) hx hb dX8_cell_103 (by decide) h_r137 h_lv (fun hc => ?_) (fun hc => ?_)
        · have hv := hv.1 hc
          refine lv_iconst (v := z_i 0) hx hb dX8_cell_110 rfl ?_
          refine lv_istore (lv' := [(12, .int (z_i 0)), (11, .int (z_i 0)), (10, .int (z_i 0)), (9, .int (z_i 1)), (8, .int (z_i (v1 + 3))), (7, .int (z_i (v1 + 80))), (6, .int (z_i (v1 + 1))), (5, .int (z_i v1)), (0, .ref y), (1, .int (z_i gi)), (2, .int (z_i i)), (3, .int (z_i j)), (4, .int (z_i lv))]) hx hb dX8_cell_111 hl (by decide) rfl (fun ls hl => ?_)
          refine lv_iload hx hb dX8_cell_113 (lv_at hl 3 rfl) ?_
          refine lv_iload hx hb dX8_cell_115 (lv_at hl 2 rfl) ?_
          refine lx_icmp_eq (tgt := 261) hx hb dX8_cell_117 (by decide) ⟨by decide, by decide⟩ ⟨by decide, by decide⟩ (fun hc => absurd hc (by decide)) (fun _ => ?_)
          refine lv_iload hx hb dX8_cell_120 (lv_at hl 3 rfl) ?_
          refine lv_iload hx hb dX8_cell_122 (lv_at hl 1 rfl) ?_
          refine lx_icmp_eq (tgt := 261) hx hb dX8_cell_124 (by decide) ⟨by decide, by decide⟩ ⟨by decide, by decide⟩ (fun hc => absurd hc (by decide)) (fun _ => ?_)
          refine lv_iload hx hb dX8_cell_127 (lv_at hl 2 rfl) ?_
          refine lv_iload hx hb dX8_cell_129 (lv_at hl 0 rfl) ?_
          refine lx_icmp_eq (tgt := 261) hx hb dX8_cell_131 (by decide) ⟨by decide, by decide⟩ ⟨by decide, by decide⟩ (fun _ => ?_) (fun hc => absurd hc (by decide))
          refine lv_iconst (v := z_i (-1)) hx hb dX8_cell_261 rfl ?_
          refine lv_istore (lv' := [(13, .int (z_i (-1))), (12, .int (z_i 0)), (11, .int (z_i 0)), (10, .int (z_i 0)), (9, .int (z_i 1)), (8, .int (z_i (v1 + 3))), (7, .int (z_i (v1 + 80))), (6, .int (z_i (v1 + 1))), (5, .int (z_i v1)), (0, .ref y), (1, .int (z_i gi)), (2, .int (z_i i)), (3, .int (z_i j)), (4, .int (z_i lv))]) hx hb dX8_cell_262 hl (by decide) rfl (fun ls hl => ?_)
          refine lv_iconst (v := z_i (-1)) hx hb dX8_cell_264 rfl ?_
          refine lv_istore (lv' := [(14, .int (z_i (-1))), (13, .int (z_i (-1))), (12, .int (z_i 0)), (11, .int (z_i 0)), (10, .int (z_i 0)), (9, .int (z_i 1)), (8, .int (z_i (v1 + 3))), (7, .int (z_i (v1 + 80))), (6, .int (z_i (v1 + 1))), (5, .int (z_i v1)), (0, .ref y), (1, .int (z_i gi)), (2, .int (z_i i)), (3, .int (z_i j)), (4, .int (z_i lv))]) hx hb dX8_cell_265 hl (by decide) rfl (fun ls hl => ?_)
          refine lv_iload hx hb dX8_cell_267 (lv_at hl 5 rfl) ?_
          refine lv_iload hx hb dX8_cell_269 (lv_at hl 4 rfl) ?_
          refine lx_icmp_eq (tgt := 278) hx hb dX8_cell_271 (by decide) ⟨by decide, by decide⟩ ⟨by decide, by decide⟩ (fun hc => absurd hc (by decide)) (fun _ => ?_)
          refine lv_iload hx hb dX8_cell_274 (lv_at hl 9 rfl) ?_
          refine lv_istore (lv' := [(13, .int (z_i v1)), (14, .int (z_i (-1))), (12, .int (z_i 0)), (11, .int (z_i 0)), (10, .int (z_i 0)), (9, .int (z_i 1)), (8, .int (z_i (v1 + 3))), (7, .int (z_i (v1 + 80))), (6, .int (z_i (v1 + 1))), (5, .int (z_i v1)), (0, .ref y), (1, .int (z_i gi)), (2, .int (z_i i)), (3, .int (z_i j)), (4, .int (z_i lv))]) hx hb dX8_cell_276 hl (by decide) rfl (fun ls hl => ?_)
          refine lv_iload hx hb dX8_cell_278 (lv_at hl 5 rfl) ?_
          refine lv_iload hx hb dX8_cell_280 (lv_at hl 3 rfl) ?_
          refine lx_icmp_eq (tgt := 293) hx hb dX8_cell_282 (by decide) ⟨by decide, by decide⟩ ⟨by decide, by decide⟩ (fun hc => absurd hc (by decide)) (fun _ => ?_)
          refine lv_iload hx hb dX8_cell_285 (lv_at hl 0 rfl) ?_
          refine lv_istore (lv' := [(14, .int (z_i v1)), (13, .int (z_i v1)), (12, .int (z_i 0)), (11, .int (z_i 0)), (10, .int (z_i 0)), (9, .int (z_i 1)), (8, .int (z_i (v1 + 3))), (7, .int (z_i (v1 + 80))), (6, .int (z_i (v1 + 1))), (5, .int (z_i v1)), (0, .ref y), (1, .int (z_i gi)), (2, .int (z_i i)), (3, .int (z_i j)), (4, .int (z_i lv))]) hx hb dX8_cell_287 hl (by decide) rfl (fun ls hl => ?_)
          refine lv_iload hx hb dX8_cell_289 (lv_at hl 8 rfl) ?_
          refine lv_istore (lv' := [(13, .int (z_i (v1 + 1))), (14, .int (z_i v1)), (12, .int (z_i 0)), (11, .int (z_i 0)), (10, .int (z_i 0)), (9, .int (z_i 1)), (8, .int (z_i (v1 + 3))), (7, .int (z_i (v1 + 80))), (6, .int (z_i (v1 + 1))), (5, .int (z_i v1)), (0, .ref y), (1, .int (z_i gi)), (2, .int (z_i i)), (3, .int (z_i j)), (4, .int (z_i lv))]) hx hb dX8_cell_291 hl (by decide) rfl (fun ls hl => ?_)
          refine lv_iload hx hb dX8_cell_293 (lv_at hl 4 rfl) ?_
          refine lv_iload hx hb dX8_cell_295 (lv_at hl 2 rfl) ?_
          refine lx_icmp_eq (tgt := 308) hx hb dX8_cell_297 (by decide) ⟨by decide, by decide⟩ ⟨by decide, by decide⟩ (fun _ => ?_) (fun hc => absurd hc (by decide))
          refine lv_iload hx hb dX8_cell_308 (lv_at hl 3 rfl) ?_
          refine lv_iload hx hb dX8_cell_310 (lv_at hl 2 rfl) ?_
          refine lx_icmp_eq (tgt := 323) hx hb dX8_cell_312 (by decide) ⟨by decide, by decide⟩ ⟨by decide, by decide⟩ (fun _ => ?_) (fun hc => absurd hc (by decide))
          refine lv_iload hx hb dX8_cell_323 (lv_at hl 0 rfl) ?_
          obtain ⟨hr138, hv⟩ := hv
          refine lx_if_lt (tgt := 344) hx hb dX8_cell_325 (by decide) hr138 (fun hc => ?_) (fun hc => ?_)
          · have hv := hv.1 hc
            exact W.vret hx hb hr (fun t ht hW => ⟨⟨(y_leads, y_isLed), rfl, hv, z_pt hP ht⟩, hS.F ht⟩) hS.2.2 dX8_cell_344
          · have hv := hv.2 hc
            refine lv_iload hx hb dX8_cell_328 (lv_at hl 1 rfl) ?_
            refine lx_if_lt (tgt := 344) hx hb dX8_cell_330 (by decide) h_v1 (fun hc => ?_) (fun hc => ?_)
            · have hv := hv.1 hc
              exact W.vret hx hb hr (fun t ht hW => ⟨⟨(y_leads, y_isLed), rfl, hv, z_pt hP ht⟩, hS.F ht⟩) hS.2.2 dX8_cell_344
            · have hv := hv.2 hc
              refine lv_aload_n hx hb dX8_cell_333 rfl (lv_at hl 10 rfl) ?_
              refine lv_iload_n hx hb dX8_cell_334 rfl (lv_at hl 11 rfl) ?_
              refine lv_iload hx hb dX8_cell_335 (lv_at hl 0 rfl) ?_
              refine lv_iload hx hb dX8_cell_337 (lv_at hl 1 rfl) ?_
              refine lv_iload hx hb dX8_cell_339 (lv_at hl 14 rfl) ?_
              obtain ⟨hp139, hv⟩ := hv
              obtain ⟨hp140, hv⟩ := hv
              obtain ⟨hp141, hv⟩ := hv
              have hFc := z_fr (A := A) (wc := [(y, .inr (6, [.ref y_space, .ref y_offset, .ref y_length, .ref ya_units, .ref y_isThere, .int (z_i y_levels), .ref y_level, .int (z_i y_lines), .ref y_lineLevel, .ref y_lineUnits, .ref y_lineFrom, .ref y_lineMany, .ref y_isClosed, .ref y_insides, .ref y_parent, .ref y_isHigh, .ref y_inBits, .int (z_i y_sides), .ref y_side, .ref y_sideA, .ref y_sideB, .int (z_i y_lineSpace), .ref y_wasThere, .ref ya_leads, .ref ya_isLed, .ref y_isOn, .ref y_goesTo, .ref y_stream, .ref y_filled, .ref y_isDone, .ref y_isReached, .ref y_newUnits, .ref y_isNew])), (ya_units, .inl (cA 1, 5120, .inl y_units)), (ya_leads, .inl (cA 1, 2560, .inl y_leads)), (ya_isLed, .inl (cA 3, 2560, .inl y_isLed))]) hD [0, 1, 2, 3] rfl
              refine va_callv (va_runV (As := [.int (z_i gi), .int (z_i (v1 + 1)), .int (z_i v1), .int (z_i lv)]) (rest := []) ⟨hx, hb, hml, hown, hts⟩ (mt_X8_joins l D cA y y_space y_offset y_length ya_units y_units y_isThere y_levels y_level y_lines y_lineLevel y_lineUnits y_lineFrom y_lineMany y_isClosed y_insides y_parent y_isHigh y_inBits y_sides y_side y_sideA y_sideB y_lineSpace y_wasThere ya_leads y_leads ya_isLed y_isLed y_isOn y_goesTo y_stream y_filled y_isDone y_isReached y_newUnits y_isNew gi (v1 + 1) v1 lv h_y_levels h_y_lines h_y_sides h_y_lineSpace h_gi hr138 h_v1 h_lv hp139 hp140 hp141) (cwV 4 hts gX8_cell_X8_joins rfl rfl rfl (by decide +kernel) ⟨Nat.le_of_ble_eq_true rfl, Nat.le_of_ble_eq_true rfl⟩) ⟨z_blm0, va_recv hK hP (ci := 6) (q0 := 0) rfl rfl, fun U hU hW => ⟨rfl, z_m0 hK hP hD hU hW⟩⟩ rfl rfl hl.1 rfl (lv_room (Nat.le_of_ble_eq_true rfl)) dX8_cell_341 ⟨Nat.zero_le _, Nat.zero_le _⟩) hS (fun q _ h => hFc q h) hFc (fun u t H locs ht hvm hw hB hz1 hk1 hS => ?_)
              obtain ⟨c142, c143⟩ := u
              rw [ht] at hB
              have hP := hB
              have hP : va_P D vwCl [(y, .inr (6, [.ref y_space, .ref y_offset, .ref y_length, .ref ya_units, .ref y_isThere, .int (z_i y_levels), .ref y_level, .int (z_i y_lines), .ref y_lineLevel, .ref y_lineUnits, .ref y_lineFrom, .ref y_lineMany, .ref y_isClosed, .ref y_insides, .ref y_parent, .ref y_isHigh, .ref y_inBits, .int (z_i y_sides), .ref y_side, .ref y_sideA, .ref y_sideB, .int (z_i y_lineSpace), .ref y_wasThere, .ref ya_leads, .ref ya_isLed, .ref y_isOn, .ref y_goesTo, .ref y_stream, .ref y_filled, .ref y_isDone, .ref y_isReached, .ref y_newUnits, .ref y_isNew])), (ya_units, .inl (cA 1, 5120, .inl y_units)), (ya_leads, .inl (cA 1, 2560, .inl c142)), (ya_isLed, .inl (cA 3, 2560, .inl c143))] H := hP
              have hD : va_D A [(y, .inr (6, [.ref y_space, .ref y_offset, .ref y_length, .ref ya_units, .ref y_isThere, .int (z_i y_levels), .ref y_level, .int (z_i y_lines), .ref y_lineLevel, .ref y_lineUnits, .ref y_lineFrom, .ref y_lineMany, .ref y_isClosed, .ref y_insides, .ref y_parent, .ref y_isHigh, .ref y_inBits, .int (z_i y_sides), .ref y_side, .ref y_sideA, .ref y_sideB, .int (z_i y_lineSpace), .ref y_wasThere, .ref ya_leads, .ref ya_isLed, .ref y_isOn, .ref y_goesTo, .ref y_stream, .ref y_filled, .ref y_isDone, .ref y_isReached, .ref y_newUnits, .ref y_isNew])), (ya_units, .inl (cA 1, 5120, .inl y_units)), (ya_leads, .inl (cA 1, 2560, .inl c142)), (ya_isLed, .inl (cA 3, 2560, .inl c143))] := z_D_addr hD rfl
              have hv := hv c142 c143 hw
              exact W.vret hx hb hr (fun t ht hW => ⟨⟨(c142, c143), rfl, hv, z_pt hP ht⟩, hS.F ht⟩) hS.2.2 dX8_cell_344
        · have hv := hv.2 hc
          refine lv_iconst (v := z_i 1) hx hb dX8_cell_106 rfl ?_
          refine lv_goto (tgt := 111) hx hb dX8_cell_107 (by decide) ?_
          refine lv_istore (lv' := [(12, .int (z_i 1)), (11, .int (z_i 0)), (10, .int (z_i 0)), (9, .int (z_i 1)), (8, .int (z_i (v1 + 3))), (7, .int (z_i (v1 + 80))), (6, .int (z_i (v1 + 1))), (5, .int (z_i v1)), (0, .ref y), (1, .int (z_i gi)), (2, .int (z_i i)), (3, .int (z_i j)), (4, .int (z_i lv))]) hx hb dX8_cell_111 hl (by decide) rfl (fun ls hl => ?_)
          refine lv_iload hx hb dX8_cell_113 (lv_at hl 3 rfl) ?_
          refine lv_iload hx hb dX8_cell_115 (lv_at hl 2 rfl) ?_
          refine lx_icmp_eq (tgt := 261) hx hb dX8_cell_117 (by decide) ⟨by decide, by decide⟩ ⟨by decide, by decide⟩ (fun hc => absurd hc (by decide)) (fun _ => ?_)
          refine lv_iload hx hb dX8_cell_120 (lv_at hl 3 rfl) ?_
          refine lv_iload hx hb dX8_cell_122 (lv_at hl 1 rfl) ?_
          refine lx_icmp_eq (tgt := 261) hx hb dX8_cell_124 (by decide) ⟨by decide, by decide⟩ ⟨by decide, by decide⟩ (fun hc => absurd hc (by decide)) (fun _ => ?_)
          refine lv_iload hx hb dX8_cell_127 (lv_at hl 2 rfl) ?_
          refine lv_iload hx hb dX8_cell_129 (lv_at hl 0 rfl) ?_
          refine lx_icmp_eq (tgt := 261) hx hb dX8_cell_131 (by decide) ⟨by decide, by decide⟩ ⟨by decide, by decide⟩ (fun hc => absurd hc (by decide)) (fun _ => ?_)
          refine lv_iload hx hb dX8_cell_134 (lv_at hl 1 rfl) ?_
          refine lv_iload hx hb dX8_cell_136 (lv_at hl 0 rfl) ?_
          refine lx_icmp_eq (tgt := 261) hx hb dX8_cell_138 (by decide) ⟨by decide, by decide⟩ ⟨by decide, by decide⟩ (fun hc => absurd hc (by decide)) (fun _ => ?_)
          refine lv_aload_n hx hb dX8_cell_141 rfl (lv_at hl 8 rfl) ?_
          refine lv_iload_n hx hb dX8_cell_142 rfl (lv_at hl 9 rfl) ?_
          refine lv_iload_n hx hb dX8_cell_143 rfl (lv_at hl 10 rfl) ?_
          refine lv_iload_n hx hb dX8_cell_144 rfl (lv_at hl 11 rfl) ?_
          obtain ⟨hp144, hv⟩ := hv
          obtain ⟨hp145, hv⟩ := hv
          obtain ⟨hp146, hv⟩ := hv
          refine va_calli (va_runV (As := [.int (z_i gi), .int (z_i i), .int (z_i j)]) (rest := []) ⟨hx, hb, hml, hown, hts⟩ (mt_X8_h l D cA y y_space y_offset y_length ya_units y_units y_isThere y_levels y_level y_lines y_lineLevel y_lineUnits y_lineFrom y_lineMany y_isClosed y_insides y_parent y_isHigh y_inBits y_sides y_side y_sideA y_sideB y_lineSpace y_wasThere ya_leads ya_isLed y_isOn y_goesTo y_stream y_filled y_isDone y_isReached y_newUnits y_isNew gi i j h_y_levels h_y_lines h_y_sides h_y_lineSpace h_gi h_i h_j hp144 hp145 hp146) (cwV 3 hts gX8_cell_X8_h rfl rfl rfl (by decide +kernel) ⟨Nat.le_of_ble_eq_true rfl, Nat.le_of_ble_eq_true rfl⟩) ⟨z_bl0, va_recv hK hP (ci := 6) (q0 := 0) rfl rfl, fun U hU hW => ⟨rfl, z_b0 hK (hP.sub (ws' := [(y, .inr (6, [.ref y_space, .ref y_offset, .ref y_length, .ref ya_units, .ref y_isThere, .int (z_i y_levels), .ref y_level, .int (z_i y_lines), .ref y_lineLevel, .ref y_lineUnits, .ref y_lineFrom, .ref y_lineMany, .ref y_isClosed, .ref y_insides, .ref y_parent, .ref y_isHigh, .ref y_inBits, .int (z_i y_sides), .ref y_side, .ref y_sideA, .ref y_sideB, .int (z_i y_lineSpace), .ref y_wasThere, .ref ya_leads, .ref ya_isLed, .ref y_isOn, .ref y_goesTo, .ref y_stream, .ref y_filled, .ref y_isDone, .ref y_isReached, .ref y_newUnits, .ref y_isNew])), (ya_units, .inl (cA 1, 5120, .inl y_units))]) [0, 1] rfl) hU hW⟩⟩ rfl rfl hl.1 rfl (lv_room (Nat.le_of_ble_eq_true rfl)) dX8_cell_145 ⟨Nat.zero_le _, Nat.zero_le _⟩) hS (fun q _ h => h.elim) (fun q h => h.elim) (fun r0 u t H locs ht hvm hw hB hz1 hk1 hS => ?_)
          obtain ⟨r147, rfl, h_r147, hw⟩ := hw
          have hP := z_P_all hP hk1
          have hv := hv r147 h_r147 hw
          refine lx_i2l hx hb dX8_cell_148 h_r147 ?_
          refine lv_aload_n hx hb dX8_cell_149 rfl (lv_at hl 8 rfl) ?_
          refine lv_iload_n hx hb dX8_cell_150 rfl (lv_at hl 9 rfl) ?_
          refine lv_iload_n hx hb dX8_cell_151 rfl (lv_at hl 10 rfl) ?_
          refine lv_iload_n hx hb dX8_cell_152 rfl (lv_at hl 11 rfl) ?_
          refine lv_iconst (v := z_i 1) hx hb dX8_cell_153 rfl ?_
          refine lx_iadd hx hb dX8_cell_154 ?_
          obtain ⟨hp148, hv⟩ := hv
          obtain ⟨hp149, hv⟩ := hv
          obtain ⟨hp150, hv⟩ := hv
          refine va_calli (va_runV (As := [.int (z_i gi), .int (z_i i), .int (z_i (j + 1))]) (rest := [.long (z_l r147)]) ⟨hx, hb, hml, hown, hts⟩ (mt_X8_h l D cA y y_space y_offset y_length ya_units y_units y_isThere y_levels y_level y_lines y_lineLevel y_lineUnits y_lineFrom y_lineMany y_isClosed y_insides y_parent y_isHigh y_inBits y_sides y_side y_sideA y_sideB y_lineSpace y_wasThere ya_leads ya_isLed y_isOn y_goesTo y_stream y_filled y_isDone y_isReached y_newUnits y_isNew gi i (j + 1) h_y_levels h_y_lines h_y_sides h_y_lineSpace h_gi h_i hr124 hp148 hp149 hp150) (cwV 3 hts gX8_cell_X8_h rfl rfl rfl (by decide +kernel) ⟨Nat.le_of_ble_eq_true rfl, Nat.le_of_ble_eq_true rfl⟩) ⟨z_bl0, va_recv hK hP (ci := 6) (q0 := 0) rfl rfl, fun U hU hW => ⟨rfl, z_b0 hK (hP.sub (ws' := [(y, .inr (6, [.ref y_space, .ref y_offset, .ref y_length, .ref ya_units, .ref y_isThere, .int (z_i y_levels), .ref y_level, .int (z_i y_lines), .ref y_lineLevel, .ref y_lineUnits, .ref y_lineFrom, .ref y_lineMany, .ref y_isClosed, .ref y_insides, .ref y_parent, .ref y_isHigh, .ref y_inBits, .int (z_i y_sides), .ref y_side, .ref y_sideA, .ref y_sideB, .int (z_i y_lineSpace), .ref y_wasThere, .ref ya_leads, .ref ya_isLed, .ref y_isOn, .ref y_goesTo, .ref y_stream, .ref y_filled, .ref y_isDone, .ref y_isReached, .ref y_newUnits, .ref y_isNew])), (ya_units, .inl (cA 1, 5120, .inl y_units))]) [0, 1] rfl) hU hW⟩⟩ rfl rfl hl.1 rfl (lv_room (Nat.le_of_ble_eq_true rfl)) dX8_cell_155 ⟨Nat.zero_le _, Nat.zero_le _⟩) hS (fun q _ h => h.elim) (fun q h => h.elim) (fun r0 u t H locs ht hvm hw hB hz1 hk1 hS => ?_)
          obtain ⟨r151, rfl, h_r151, hw⟩ := hw
          have hP := z_P_all hP hk1
          have hv := hv r151 h_r151 hw
          refine lx_i2l hx hb dX8_cell_158 h_r151 ?_
          refine lx_ladd hx hb dX8_cell_159 ?_
          refine lv_aload_n hx hb dX8_cell_160 rfl (lv_at hl 8 rfl) ?_
          refine lv_iload_n hx hb dX8_cell_161 rfl (lv_at hl 9 rfl) ?_
          refine lv_iload_n hx hb dX8_cell_162 rfl (lv_at hl 10 rfl) ?_
          refine lv_iconst (v := z_i 1) hx hb dX8_cell_163 rfl ?_
          refine lx_iadd hx hb dX8_cell_164 ?_
          refine lv_iload_n hx hb dX8_cell_165 rfl (lv_at hl 11 rfl) ?_
          obtain ⟨hp152, hv⟩ := hv
          obtain ⟨hp153, hv⟩ := hv
          obtain ⟨hp154, hv⟩ := hv
          refine va_calli (va_runV (As := [.int (z_i gi), .int (z_i (i + 1)), .int (z_i j)]) (rest := [.long (z_l (r147 + r151))]) ⟨hx, hb, hml, hown, hts⟩ (mt_X8_h l D cA y y_space y_offset y_length ya_units y_units y_isThere y_levels y_level y_lines y_lineLevel y_lineUnits y_lineFrom y_lineMany y_isClosed y_insides y_parent y_isHigh y_inBits y_sides y_side y_sideA y_sideB y_lineSpace y_wasThere ya_leads ya_isLed y_isOn y_goesTo y_stream y_filled y_isDone y_isReached y_newUnits y_isNew gi (i + 1) j h_y_levels h_y_lines h_y_sides h_y_lineSpace h_gi hr129 h_j hp152 hp153 hp154) (cwV 3 hts gX8_cell_X8_h rfl rfl rfl (by decide +kernel) ⟨Nat.le_of_ble_eq_true rfl, Nat.le_of_ble_eq_true rfl⟩) ⟨z_bl0, va_recv hK hP (ci := 6) (q0 := 0) rfl rfl, fun U hU hW => ⟨rfl, z_b0 hK (hP.sub (ws' := [(y, .inr (6, [.ref y_space, .ref y_offset, .ref y_length, .ref ya_units, .ref y_isThere, .int (z_i y_levels), .ref y_level, .int (z_i y_lines), .ref y_lineLevel, .ref y_lineUnits, .ref y_lineFrom, .ref y_lineMany, .ref y_isClosed, .ref y_insides, .ref y_parent, .ref y_isHigh, .ref y_inBits, .int (z_i y_sides), .ref y_side, .ref y_sideA, .ref y_sideB, .int (z_i y_lineSpace), .ref y_wasThere, .ref ya_leads, .ref ya_isLed, .ref y_isOn, .ref y_goesTo, .ref y_stream, .ref y_filled, .ref y_isDone, .ref y_isReached, .ref y_newUnits, .ref y_isNew])), (ya_units, .inl (cA 1, 5120, .inl y_units))]) [0, 1] rfl) hU hW⟩⟩ rfl rfl hl.1 rfl (lv_room (Nat.le_of_ble_eq_true rfl)) dX8_cell_166 ⟨Nat.zero_le _, Nat.zero_le _⟩) hS (fun q _ h => h.elim) (fun q h => h.elim) (fun r0 u t H locs ht hvm hw hB hz1 hk1 hS => ?_)
          obtain ⟨r155, rfl, h_r155, hw⟩ := hw
          have hP := z_P_all hP hk1
          have hv := hv r155 h_r155 hw
          refine lx_i2l hx hb dX8_cell_169 h_r155 ?_
          refine lx_ladd hx hb dX8_cell_170 ?_
          refine lv_aload_n hx hb dX8_cell_171 rfl (lv_at hl 8 rfl) ?_
          refine lv_iload_n hx hb dX8_cell_172 rfl (lv_at hl 9 rfl) ?_
          refine lv_iload_n hx hb dX8_cell_173 rfl (lv_at hl 10 rfl) ?_
          refine lv_iconst (v := z_i 1) hx hb dX8_cell_174 rfl ?_
          refine lx_iadd hx hb dX8_cell_175 ?_
          refine lv_iload_n hx hb dX8_cell_176 rfl (lv_at hl 11 rfl) ?_
          refine lv_iconst (v := z_i 1) hx hb dX8_cell_177 rfl ?_
          refine lx_iadd hx hb dX8_cell_178 ?_
          obtain ⟨hp156, hv⟩ := hv
          obtain ⟨hp157, hv⟩ := hv
          obtain ⟨hp158, hv⟩ := hv
          refine va_calli (va_runV (As := [.int (z_i gi), .int (z_i (i + 1)), .int (z_i (j + 1))]) (rest := [.long (z_l ((r147 + r151) + r155))]) ⟨hx, hb, hml, hown, hts⟩ (mt_X8_h l D cA y y_space y_offset y_length ya_units y_units y_isThere y_levels y_level y_lines y_lineLevel y_lineUnits y_lineFrom y_lineMany y_isClosed y_insides y_parent y_isHigh y_inBits y_sides y_side y_sideA y_sideB y_lineSpace y_wasThere ya_leads ya_isLed y_isOn y_goesTo y_stream y_filled y_isDone y_isReached y_newUnits y_isNew gi (i + 1) (j + 1) h_y_levels h_y_lines h_y_sides h_y_lineSpace h_gi hr129 hr124 hp156 hp157 hp158) (cwV 3 hts gX8_cell_X8_h rfl rfl rfl (by decide +kernel) ⟨Nat.le_of_ble_eq_true rfl, Nat.le_of_ble_eq_true rfl⟩) ⟨z_bl0, va_recv hK hP (ci := 6) (q0 := 0) rfl rfl, fun U hU hW => ⟨rfl, z_b0 hK (hP.sub (ws' := [(y, .inr (6, [.ref y_space, .ref y_offset, .ref y_length, .ref ya_units, .ref y_isThere, .int (z_i y_levels), .ref y_level, .int (z_i y_lines), .ref y_lineLevel, .ref y_lineUnits, .ref y_lineFrom, .ref y_lineMany, .ref y_isClosed, .ref y_insides, .ref y_parent, .ref y_isHigh, .ref y_inBits, .int (z_i y_sides), .ref y_side, .ref y_sideA, .ref y_sideB, .int (z_i y_lineSpace), .ref y_wasThere, .ref ya_leads, .ref ya_isLed, .ref y_isOn, .ref y_goesTo, .ref y_stream, .ref y_filled, .ref y_isDone, .ref y_isReached, .ref y_newUnits, .ref y_isNew])), (ya_units, .inl (cA 1, 5120, .inl y_units))]) [0, 1] rfl) hU hW⟩⟩ rfl rfl hl.1 rfl (lv_room (Nat.le_of_ble_eq_true rfl)) dX8_cell_179 ⟨Nat.zero_le _, Nat.zero_le _⟩) hS (fun q _ h => h.elim) (fun q h => h.elim) (fun r0 u t H locs ht hvm hw hB hz1 hk1 hS => ?_)
          obtain ⟨r159, rfl, h_r159, hw⟩ := hw
          have hP := z_P_all hP hk1
          have hv := hv r159 h_r159 hw
          refine lx_i2l hx hb dX8_cell_182 h_r159 ?_
          refine lx_ladd hx hb dX8_cell_183 ?_
          obtain ⟨hr161, hv⟩ := hv
          refine lx_topl (fun v160 hy162 => ?_)
          have hv := hv v160 hy162
          have h_v160 : z_nl v160 := by rw [hy162]; exact hr161
          refine lv_lstore (lv' := [(13, .long (z_l v160)), (12, .int (z_i 1)), (11, .int (z_i 0)), (10, .int (z_i 0)), (9, .int (z_i 1)), (8, .int (z_i (v1 + 3))), (7, .int (z_i (v1 + 80))), (6, .int (z_i (v1 + 1))), (5, .int (z_i v1)), (0, .ref y), (1, .int (z_i gi)), (2, .int (z_i i)), (3, .int (z_i j)), (4, .int (z_i lv))]) hx hb dX8_cell_184 hl (by decide) rfl (fun ls hl => ?_)
          refine lv_lload hx hb dX8_cell_186 (lv_at hl 0 rfl) ?_
          refine lx_ldc2 (a := 4) hx hb hown (hts (.constantLong RX8 150 (4)) (by decide +kernel)) (by decide) dX8_cell_188 ?_
          refine lv_iload hx hb dX8_cell_191 (lv_at hl 13 rfl) ?_
          refine lx_i2l hx hb dX8_cell_193 h_lv ?_
          refine lx_lmul hx hb dX8_cell_194 ?_
          obtain ⟨hr163, hv⟩ := hv
          refine lx_lcmp hx hb dX8_cell_195 h_v160 hr163 ?_
          refine lx_if_lt (tgt := 203) hx hb dX8_cell_196 (by decide) (z_in_cmp _ _) (fun hc => ?_) (fun hc => ?_)
          · have hv := hv.1 (z_cmp_lt.mp hc)
            refine lv_iconst (v := z_i 0) hx hb dX8_cell_203 rfl ?_
            refine lv_istore (lv' := [(15, .int (z_i 0)), (13, .long (z_l v160)), (12, .int (z_i 1)), (11, .int (z_i 0)), (10, .int (z_i 0)), (9, .int (z_i 1)), (8, .int (z_i (v1 + 3))), (7, .int (z_i (v1 + 80))), (6, .int (z_i (v1 + 1))), (5, .int (z_i v1)), (0, .ref y), (1, .int (z_i gi)), (2, .int (z_i i)), (3, .int (z_i j)), (4, .int (z_i lv))]) hx hb dX8_cell_204 hl (by decide) rfl (fun ls hl => ?_)
            refine lv_iload hx hb dX8_cell_206 (lv_at hl 5 rfl) ?_
            refine lv_iload hx hb dX8_cell_208 (lv_at hl 0 rfl) ?_
            refine lx_icmp_eq (tgt := 238) hx hb dX8_cell_210 (by decide) ⟨by decide, by decide⟩ ⟨by decide, by decide⟩ (fun hc => absurd hc (by decide)) (fun _ => ?_)
            refine lv_aload_n hx hb dX8_cell_213 rfl (lv_at hl 10 rfl) ?_
            refine lv_iload_n hx hb dX8_cell_214 rfl (lv_at hl 11 rfl) ?_
            refine lv_iload hx hb dX8_cell_215 (lv_at hl 9 rfl) ?_
            refine lv_iload hx hb dX8_cell_217 (lv_at hl 8 rfl) ?_
            refine lv_iload hx hb dX8_cell_219 (lv_at hl 14 rfl) ?_
            obtain ⟨hr164, hv⟩ := hv
            obtain ⟨hp165, hv⟩ := hv
            obtain ⟨hp166, hv⟩ := hv
            obtain ⟨hp167, hv⟩ := hv
            have hFc := z_fr (A := A) (wc := [(y, .inr (6, [.ref y_space, .ref y_offset, .ref y_length, .ref ya_units, .ref y_isThere, .int (z_i y_levels), .ref y_level, .int (z_i y_lines), .ref y_lineLevel, .ref y_lineUnits, .ref y_lineFrom, .ref y_lineMany, .ref y_isClosed, .ref y_insides, .ref y_parent, .ref y_isHigh, .ref y_inBits, .int (z_i y_sides), .ref y_side, .ref y_sideA, .ref y_sideB, .int (z_i y_lineSpace), .ref y_wasThere, .ref ya_leads, .ref ya_isLed, .ref y_isOn, .ref y_goesTo, .ref y_stream, .ref y_filled, .ref y_isDone, .ref y_isReached, .ref y_newUnits, .ref y_isNew])), (ya_units, .inl (cA 1, 5120, .inl y_units)), (ya_leads, .inl (cA 1, 2560, .inl y_leads)), (ya_isLed, .inl (cA 3, 2560, .inl y_isLed))]) hD [0, 1, 2, 3] rfl
            refine va_callv (va_runV (As := [.int (z_i gi), .int (z_i v1), .int (z_i (v1 + 1)), .int (z_i lv)]) (rest := []) ⟨hx, hb, hml, hown, hts⟩ (mt_X8_joins l D cA y y_space y_offset y_length ya_units y_units y_isThere y_levels y_level y_lines y_lineLevel y_lineUnits y_lineFrom y_lineMany y_isClosed y_insides y_parent y_isHigh y_inBits y_sides y_side y_sideA y_sideB y_lineSpace y_wasThere ya_leads y_leads ya_isLed y_isLed y_isOn y_goesTo y_stream y_filled y_isDone y_isReached y_newUnits y_isNew gi v1 (v1 + 1) lv h_y_levels h_y_lines h_y_sides h_y_lineSpace h_gi h_v1 hr164 h_lv hp165 hp166 hp167) (cwV 4 hts gX8_cell_X8_joins rfl rfl rfl (by decide +kernel) ⟨Nat.le_of_ble_eq_true rfl, Nat.le_of_ble_eq_true rfl⟩) ⟨z_blm0, va_recv hK hP (ci := 6) (q0 := 0) rfl rfl, fun U hU hW => ⟨rfl, z_m0 hK hP hD hU hW⟩⟩ rfl rfl hl.1 rfl (lv_room (Nat.le_of_ble_eq_true rfl)) dX8_cell_221 ⟨Nat.zero_le _, Nat.zero_le _⟩) hS (fun q _ h => hFc q h) hFc (fun u t H locs ht hvm hw hB hz1 hk1 hS => ?_)
            obtain ⟨c168, c169⟩ := u
            rw [ht] at hB
            have hP := hB
            have hP : va_P D vwCl [(y, .inr (6, [.ref y_space, .ref y_offset, .ref y_length, .ref ya_units, .ref y_isThere, .int (z_i y_levels), .ref y_level, .int (z_i y_lines), .ref y_lineLevel, .ref y_lineUnits, .ref y_lineFrom, .ref y_lineMany, .ref y_isClosed, .ref y_insides, .ref y_parent, .ref y_isHigh, .ref y_inBits, .int (z_i y_sides), .ref y_side, .ref y_sideA, .ref y_sideB, .int (z_i y_lineSpace), .ref y_wasThere, .ref ya_leads, .ref ya_isLed, .ref y_isOn, .ref y_goesTo, .ref y_stream, .ref y_filled, .ref y_isDone, .ref y_isReached, .ref y_newUnits, .ref y_isNew])), (ya_units, .inl (cA 1, 5120, .inl y_units)), (ya_leads, .inl (cA 1, 2560, .inl c168)), (ya_isLed, .inl (cA 3, 2560, .inl c169))] H := hP
            have hD : va_D A [(y, .inr (6, [.ref y_space, .ref y_offset, .ref y_length, .ref ya_units, .ref y_isThere, .int (z_i y_levels), .ref y_level, .int (z_i y_lines), .ref y_lineLevel, .ref y_lineUnits, .ref y_lineFrom, .ref y_lineMany, .ref y_isClosed, .ref y_insides, .ref y_parent, .ref y_isHigh, .ref y_inBits, .int (z_i y_sides), .ref y_side, .ref y_sideA, .ref y_sideB, .int (z_i y_lineSpace), .ref y_wasThere, .ref ya_leads, .ref ya_isLed, .ref y_isOn, .ref y_goesTo, .ref y_stream, .ref y_filled, .ref y_isDone, .ref y_isReached, .ref y_newUnits, .ref y_isNew])), (ya_units, .inl (cA 1, 5120, .inl y_units)), (ya_leads, .inl (cA 1, 2560, .inl c168)), (ya_isLed, .inl (cA 3, 2560, .inl c169))] := z_D_addr hD rfl
            have hv := hv c168 c169 hw
            refine lv_aload_n hx hb dX8_cell_224 rfl (lv_at hl 10 rfl) ?_
            refine lv_iload_n hx hb dX8_cell_225 rfl (lv_at hl 11 rfl) ?_
            refine lv_iload hx hb dX8_cell_226 (lv_at hl 6 rfl) ?_
            refine lv_iload hx hb dX8_cell_228 (lv_at hl 7 rfl) ?_
            refine lv_iload hx hb dX8_cell_230 (lv_at hl 14 rfl) ?_
            obtain ⟨hr170, hv⟩ := hv
            obtain ⟨hr171, hv⟩ := hv
            obtain ⟨hp172, hv⟩ := hv
            obtain ⟨hp173, hv⟩ := hv
            obtain ⟨hp174, hv⟩ := hv
            have hFc := z_fr (A := A) (wc := [(y, .inr (6, [.ref y_space, .ref y_offset, .ref y_length, .ref ya_units, .ref y_isThere, .int (z_i y_levels), .ref y_level, .int (z_i y_lines), .ref y_lineLevel, .ref y_lineUnits, .ref y_lineFrom, .ref y_lineMany, .ref y_isClosed, .ref y_insides, .ref y_parent, .ref y_isHigh, .ref y_inBits, .int (z_i y_sides), .ref y_side, .ref y_sideA, .ref y_sideB, .int (z_i y_lineSpace), .ref y_wasThere, .ref ya_leads, .ref ya_isLed, .ref y_isOn, .ref y_goesTo, .ref y_stream, .ref y_filled, .ref y_isDone, .ref y_isReached, .ref y_newUnits, .ref y_isNew])), (ya_units, .inl (cA 1, 5120, .inl y_units)), (ya_leads, .inl (cA 1, 2560, .inl c168)), (ya_isLed, .inl (cA 3, 2560, .inl c169))]) hD [0, 1, 2, 3] rfl
            refine va_callv (va_runV (As := [.int (z_i gi), .int (z_i (v1 + 3)), .int (z_i (v1 + 80)), .int (z_i lv)]) (rest := []) ⟨hx, hb, hml, hown, hts⟩ (mt_X8_joins l D cA y y_space y_offset y_length ya_units y_units y_isThere y_levels y_level y_lines y_lineLevel y_lineUnits y_lineFrom y_lineMany y_isClosed y_insides y_parent y_isHigh y_inBits y_sides y_side y_sideA y_sideB y_lineSpace y_wasThere ya_leads c168 ya_isLed c169 y_isOn y_goesTo y_stream y_filled y_isDone y_isReached y_newUnits y_isNew gi (v1 + 3) (v1 + 80) lv h_y_levels h_y_lines h_y_sides h_y_lineSpace h_gi hr170 hr171 h_lv hp172 hp173 hp174) (cwV 4 hts gX8_cell_X8_joins rfl rfl rfl (by decide +kernel) ⟨Nat.le_of_ble_eq_true rfl, Nat.le_of_ble_eq_true rfl⟩) ⟨z_blm0, va_recv hK hP (ci := 6) (q0 := 0) rfl rfl, fun U hU hW => ⟨rfl, z_m0 hK hP hD hU hW⟩⟩ rfl rfl hl.1 rfl (lv_room (Nat.le_of_ble_eq_true rfl)) dX8_cell_232 ⟨Nat.zero_le _, Nat.zero_le _⟩) hS (fun q _ h => hFc q h) hFc (fun u t H locs ht hvm hw hB hz1 hk1 hS => ?_)
            obtain ⟨c175, c176⟩ := u
            rw [ht] at hB
            have hP := hB
            have hP : va_P D vwCl [(y, .inr (6, [.ref y_space, .ref y_offset, .ref y_length, .ref ya_units, .ref y_isThere, .int (z_i y_levels), .ref y_level, .int (z_i y_lines), .ref y_lineLevel, .ref y_lineUnits, .ref y_lineFrom, .ref y_lineMany, .ref y_isClosed, .ref y_insides, .ref y_parent, .ref y_isHigh, .ref y_inBits, .int (z_i y_sides), .ref y_side, .ref y_sideA, .ref y_sideB, .int (z_i y_lineSpace), .ref y_wasThere, .ref ya_leads, .ref ya_isLed, .ref y_isOn, .ref y_goesTo, .ref y_stream, .ref y_filled, .ref y_isDone, .ref y_isReached, .ref y_newUnits, .ref y_isNew])), (ya_units, .inl (cA 1, 5120, .inl y_units)), (ya_leads, .inl (cA 1, 2560, .inl c175)), (ya_isLed, .inl (cA 3, 2560, .inl c176))] H := hP
            have hD : va_D A [(y, .inr (6, [.ref y_space, .ref y_offset, .ref y_length, .ref ya_units, .ref y_isThere, .int (z_i y_levels), .ref y_level, .int (z_i y_lines), .ref y_lineLevel, .ref y_lineUnits, .ref y_lineFrom, .ref y_lineMany, .ref y_isClosed, .ref y_insides, .ref y_parent, .ref y_isHigh, .ref y_inBits, .int (z_i y_sides), .ref y_side, .ref y_sideA, .ref y_sideB, .int (z_i y_lineSpace), .ref y_wasThere, .ref ya_leads, .ref ya_isLed, .ref y_isOn, .ref y_goesTo, .ref y_stream, .ref y_filled, .ref y_isDone, .ref y_isReached, .ref y_newUnits, .ref y_isNew])), (ya_units, .inl (cA 1, 5120, .inl y_units)), (ya_leads, .inl (cA 1, 2560, .inl c175)), (ya_isLed, .inl (cA 3, 2560, .inl c176))] := z_D_addr hD rfl
            have hv := hv c175 c176 hw
            refine lv_goto (tgt := 260) hx hb dX8_cell_235 (by decide) ?_
            exact W.vret hx hb hr (fun t ht hW => ⟨⟨(c175, c176), rfl, hv, z_pt hP ht⟩, hS.F ht⟩) hS.2.2 dX8_cell_260
          · have hv := hv.2 (z_cmp_ge.mp hc)
            refine lv_iconst (v := z_i 1) hx hb dX8_cell_199 rfl ?_
            refine lv_goto (tgt := 204) hx hb dX8_cell_200 (by decide) ?_
            refine lv_istore (lv' := [(15, .int (z_i 1)), (13, .long (z_l v160)), (12, .int (z_i 1)), (11, .int (z_i 0)), (10, .int (z_i 0)), (9, .int (z_i 1)), (8, .int (z_i (v1 + 3))), (7, .int (z_i (v1 + 80))), (6, .int (z_i (v1 + 1))), (5, .int (z_i v1)), (0, .ref y), (1, .int (z_i gi)), (2, .int (z_i i)), (3, .int (z_i j)), (4, .int (z_i lv))]) hx hb dX8_cell_204 hl (by decide) rfl (fun ls hl => ?_)
            refine lv_iload hx hb dX8_cell_206 (lv_at hl 5 rfl) ?_
            refine lv_iload hx hb dX8_cell_208 (lv_at hl 0 rfl) ?_
            refine lx_icmp_eq (tgt := 238) hx hb dX8_cell_210 (by decide) ⟨by decide, by decide⟩ ⟨by decide, by decide⟩ (fun _ => ?_) (fun hc => absurd hc (by decide))
            refine lv_aload_n hx hb dX8_cell_238 rfl (lv_at hl 10 rfl) ?_
            refine lv_iload_n hx hb dX8_cell_239 rfl (lv_at hl 11 rfl) ?_
            refine lv_iload hx hb dX8_cell_240 (lv_at hl 9 rfl) ?_
            refine lv_iload hx hb dX8_cell_242 (lv_at hl 6 rfl) ?_
            refine lv_iload hx hb dX8_cell_244 (lv_at hl 14 rfl) ?_
            obtain ⟨hr177, hv⟩ := hv
            obtain ⟨hp178, hv⟩ := hv
            obtain ⟨hp179, hv⟩ := hv
            obtain ⟨hp180, hv⟩ := hv
            have hFc := z_fr (A := A) (wc := [(y, .inr (6, [.ref y_space, .ref y_offset, .ref y_length, .ref ya_units, .ref y_isThere, .int (z_i y_levels), .ref y_level, .int (z_i y_lines), .ref y_lineLevel, .ref y_lineUnits, .ref y_lineFrom, .ref y_lineMany, .ref y_isClosed, .ref y_insides, .ref y_parent, .ref y_isHigh, .ref y_inBits, .int (z_i y_sides), .ref y_side, .ref y_sideA, .ref y_sideB, .int (z_i y_lineSpace), .ref y_wasThere, .ref ya_leads, .ref ya_isLed, .ref y_isOn, .ref y_goesTo, .ref y_stream, .ref y_filled, .ref y_isDone, .ref y_isReached, .ref y_newUnits, .ref y_isNew])), (ya_units, .inl (cA 1, 5120, .inl y_units)), (ya_leads, .inl (cA 1, 2560, .inl y_leads)), (ya_isLed, .inl (cA 3, 2560, .inl y_isLed))]) hD [0, 1, 2, 3] rfl
            refine va_callv (va_runV (As := [.int (z_i gi), .int (z_i v1), .int (z_i (v1 + 3)), .int (z_i lv)]) (rest := []) ⟨hx, hb, hml, hown, hts⟩ (mt_X8_joins l D cA y y_space y_offset y_length ya_units y_units y_isThere y_levels y_level y_lines y_lineLevel y_lineUnits y_lineFrom y_lineMany y_isClosed y_insides y_parent y_isHigh y_inBits y_sides y_side y_sideA y_sideB y_lineSpace y_wasThere ya_leads y_leads ya_isLed y_isLed y_isOn y_goesTo y_stream y_filled y_isDone y_isReached y_newUnits y_isNew gi v1 (v1 + 3) lv h_y_levels h_y_lines h_y_sides h_y_lineSpace h_gi h_v1 hr177 h_lv hp178 hp179 hp180) (cwV 4 hts gX8_cell_X8_joins rfl rfl rfl (by decide +kernel) ⟨Nat.le_of_ble_eq_true rfl, Nat.le_of_ble_eq_true rfl⟩) ⟨z_blm0, va_recv hK hP (ci := 6) (q0 := 0) rfl rfl, fun U hU hW => ⟨rfl, z_m0 hK hP hD hU hW⟩⟩ rfl rfl hl.1 rfl (lv_room (Nat.le_of_ble_eq_true rfl)) dX8_cell_246 ⟨Nat.zero_le _, Nat.zero_le _⟩) hS (fun q _ h => hFc q h) hFc (fun u t H locs ht hvm hw hB hz1 hk1 hS => ?_)
            obtain ⟨c181, c182⟩ := u
            rw [ht] at hB
            have hP := hB
            have hP : va_P D vwCl [(y, .inr (6, [.ref y_space, .ref y_offset, .ref y_length, .ref ya_units, .ref y_isThere, .int (z_i y_levels), .ref y_level, .int (z_i y_lines), .ref y_lineLevel, .ref y_lineUnits, .ref y_lineFrom, .ref y_lineMany, .ref y_isClosed, .ref y_insides, .ref y_parent, .ref y_isHigh, .ref y_inBits, .int (z_i y_sides), .ref y_side, .ref y_sideA, .ref y_sideB, .int (z_i y_lineSpace), .ref y_wasThere, .ref ya_leads, .ref ya_isLed, .ref y_isOn, .ref y_goesTo, .ref y_stream, .ref y_filled, .ref y_isDone, .ref y_isReached, .ref y_newUnits, .ref y_isNew])), (ya_units, .inl (cA 1, 5120, .inl y_units)), (ya_leads, .inl (cA 1, 2560, .inl c181)), (ya_isLed, .inl (cA 3, 2560, .inl c182))] H := hP
            have hD : va_D A [(y, .inr (6, [.ref y_space, .ref y_offset, .ref y_length, .ref ya_units, .ref y_isThere, .int (z_i y_levels), .ref y_level, .int (z_i y_lines), .ref y_lineLevel, .ref y_lineUnits, .ref y_lineFrom, .ref y_lineMany, .ref y_isClosed, .ref y_insides, .ref y_parent, .ref y_isHigh, .ref y_inBits, .int (z_i y_sides), .ref y_side, .ref y_sideA, .ref y_sideB, .int (z_i y_lineSpace), .ref y_wasThere, .ref ya_leads, .ref ya_isLed, .ref y_isOn, .ref y_goesTo, .ref y_stream, .ref y_filled, .ref y_isDone, .ref y_isReached, .ref y_newUnits, .ref y_isNew])), (ya_units, .inl (cA 1, 5120, .inl y_units)), (ya_leads, .inl (cA 1, 2560, .inl c181)), (ya_isLed, .inl (cA 3, 2560, .inl c182))] := z_D_addr hD rfl
            have hv := hv c181 c182 hw
            refine lv_aload_n hx hb dX8_cell_249 rfl (lv_at hl 10 rfl) ?_
            refine lv_iload_n hx hb dX8_cell_250 rfl (lv_at hl 11 rfl) ?_
            refine lv_iload hx hb dX8_cell_251 (lv_at hl 8 rfl) ?_
            refine lv_iload hx hb dX8_cell_253 (lv_at hl 7 rfl) ?_
            refine lv_iload hx hb dX8_cell_255 (lv_at hl 14 rfl) ?_
            obtain ⟨hr183, hv⟩ := hv
            obtain ⟨hr184, hv⟩ := hv
            obtain ⟨hp185, hv⟩ := hv
            obtain ⟨hp186, hv⟩ := hv
            obtain ⟨hp187, hv⟩ := hv
            have hFc := z_fr (A := A) (wc := [(y, .inr (6, [.ref y_space, .ref y_offset, .ref y_length, .ref ya_units, .ref y_isThere, .int (z_i y_levels), .ref y_level, .int (z_i y_lines), .ref y_lineLevel, .ref y_lineUnits, .ref y_lineFrom, .ref y_lineMany, .ref y_isClosed, .ref y_insides, .ref y_parent, .ref y_isHigh, .ref y_inBits, .int (z_i y_sides), .ref y_side, .ref y_sideA, .ref y_sideB, .int (z_i y_lineSpace), .ref y_wasThere, .ref ya_leads, .ref ya_isLed, .ref y_isOn, .ref y_goesTo, .ref y_stream, .ref y_filled, .ref y_isDone, .ref y_isReached, .ref y_newUnits, .ref y_isNew])), (ya_units, .inl (cA 1, 5120, .inl y_units)), (ya_leads, .inl (cA 1, 2560, .inl c181)), (ya_isLed, .inl (cA 3, 2560, .inl c182))]) hD [0, 1, 2, 3] rfl
            refine va_callv (va_runV (As := [.int (z_i gi), .int (z_i (v1 + 1)), .int (z_i (v1 + 80)), .int (z_i lv)]) (rest := []) ⟨hx, hb, hml, hown, hts⟩ (mt_X8_joins l D cA y y_space y_offset y_length ya_units y_units y_isThere y_levels y_level y_lines y_lineLevel y_lineUnits y_lineFrom y_lineMany y_isClosed y_insides y_parent y_isHigh y_inBits y_sides y_side y_sideA y_sideB y_lineSpace y_wasThere ya_leads c181 ya_isLed c182 y_isOn y_goesTo y_stream y_filled y_isDone y_isReached y_newUnits y_isNew gi (v1 + 1) (v1 + 80) lv h_y_levels h_y_lines h_y_sides h_y_lineSpace h_gi hr183 hr184 h_lv hp185 hp186 hp187) (cwV 4 hts gX8_cell_X8_joins rfl rfl rfl (by decide +kernel) ⟨Nat.le_of_ble_eq_true rfl, Nat.le_of_ble_eq_true rfl⟩) ⟨z_blm0, va_recv hK hP (ci := 6) (q0 := 0) rfl rfl, fun U hU hW => ⟨rfl, z_m0 hK hP hD hU hW⟩⟩ rfl rfl hl.1 rfl (lv_room (Nat.le_of_ble_eq_true rfl)) dX8_cell_257 ⟨Nat.zero_le _, Nat.zero_le _⟩) hS (fun q _ h => hFc q h) hFc (fun u t H locs ht hvm hw hB hz1 hk1 hS => ?_)
            obtain ⟨c188, c189⟩ := u
            rw [ht] at hB
            have hP := hB
            have hP : va_P D vwCl [(y, .inr (6, [.ref y_space, .ref y_offset, .ref y_length, .ref ya_units, .ref y_isThere, .int (z_i y_levels), .ref y_level, .int (z_i y_lines), .ref y_lineLevel, .ref y_lineUnits, .ref y_lineFrom, .ref y_lineMany, .ref y_isClosed, .ref y_insides, .ref y_parent, .ref y_isHigh, .ref y_inBits, .int (z_i y_sides), .ref y_side, .ref y_sideA, .ref y_sideB, .int (z_i y_lineSpace), .ref y_wasThere, .ref ya_leads, .ref ya_isLed, .ref y_isOn, .ref y_goesTo, .ref y_stream, .ref y_filled, .ref y_isDone, .ref y_isReached, .ref y_newUnits, .ref y_isNew])), (ya_units, .inl (cA 1, 5120, .inl y_units)), (ya_leads, .inl (cA 1, 2560, .inl c188)), (ya_isLed, .inl (cA 3, 2560, .inl c189))] H := hP
            have hD : va_D A [(y, .inr (6, [.ref y_space, .ref y_offset, .ref y_length, .ref ya_units, .ref y_isThere, .int (z_i y_levels), .ref y_level, .int (z_i y_lines), .ref y_lineLevel, .ref y_lineUnits, .ref y_lineFrom, .ref y_lineMany, .ref y_isClosed, .ref y_insides, .ref y_parent, .ref y_isHigh, .ref y_inBits, .int (z_i y_sides), .ref y_side, .ref y_sideA, .ref y_sideB, .int (z_i y_lineSpace), .ref y_wasThere, .ref ya_leads, .ref ya_isLed, .ref y_isOn, .ref y_goesTo, .ref y_stream, .ref y_filled, .ref y_isDone, .ref y_isReached, .ref y_newUnits, .ref y_isNew])), (ya_units, .inl (cA 1, 5120, .inl y_units)), (ya_leads, .inl (cA 1, 2560, .inl c188)), (ya_isLed, .inl (cA 3, 2560, .inl c189))] := z_D_addr hD rfl
            have hv := hv c188 c189 hw
            exact W.vret hx hb hr (fun t ht hW => ⟨⟨(c188, c189), rfl, hv, z_pt hP ht⟩, hS.F ht⟩) hS.2.2 dX8_cell_260
      · have hv := hv.2 hc
        refine lv_iconst (v := z_i 1) hx hb dX8_cell_83 rfl ?_
        refine lv_goto (tgt := 88) hx hb dX8_cell_84 (by decide) ?_
        refine lv_istore (lv' := [(11, .int (z_i 1)), (10, .int (z_i 0)), (9, .int (z_i 1)), (8, .int (z_i (v1 + 3))), (7, .int (z_i (v1 + 80))), (6, .int (z_i (v1 + 1))), (5, .int (z_i v1)), (0, .ref y), (1, .int (z_i gi)), (2, .int (z_i i)), (3, .int (z_i j)), (4, .int (z_i lv))]) hx hb dX8_cell_88 hl (by decide) rfl (fun ls hl => ?_)
        refine lv_aload_n hx hb dX8_cell_90 rfl (lv_at hl 7 rfl) ?_
        refine lv_iload_n hx hb dX8_cell_91 rfl (lv_at hl 8 rfl) ?_
        refine lv_iload_n hx hb dX8_cell_92 rfl (lv_at hl 9 rfl) ?_
        refine lv_iconst (v := z_i 1) hx hb dX8_cell_93 rfl ?_
        refine lx_iadd hx hb dX8_cell_94 ?_
        refine lv_iload_n hx hb dX8_cell_95 rfl (lv_at hl 10 rfl) ?_
        refine lv_iconst (v := z_i 1) hx hb dX8_cell_96 rfl ?_
        refine lx_iadd hx hb dX8_cell_97 ?_
        obtain ⟨hp190, hv⟩ := hv
        obtain ⟨hp191, hv⟩ := hv
        obtain ⟨hp192, hv⟩ := hv
        refine va_calli (va_runV (As := [.int (z_i gi), .int (z_i (i + 1)), .int (z_i (j + 1))]) (rest := []) ⟨hx, hb, hml, hown, hts⟩ (mt_X8_h l D cA y y_space y_offset y_length ya_units y_units y_isThere y_levels y_level y_lines y_lineLevel y_lineUnits y_lineFrom y_lineMany y_isClosed y_insides y_parent y_isHigh y_inBits y_sides y_side y_sideA y_sideB y_lineSpace y_wasThere ya_leads ya_isLed y_isOn y_goesTo y_stream y_filled y_isDone y_isReached y_newUnits y_isNew gi (i + 1) (j + 1) h_y_levels h_y_lines h_y_sides h_y_lineSpace h_gi hr129 hr124 hp190 hp191 hp192) (cwV 3 hts gX8_cell_X8_h rfl rfl rfl (by decide +kernel) ⟨Nat.le_of_ble_eq_true rfl, Nat.le_of_ble_eq_true rfl⟩) ⟨z_bl0, va_recv hK hP (ci := 6) (q0 := 0) rfl rfl, fun U hU hW => ⟨rfl, z_b0 hK (hP.sub (ws' := [(y, .inr (6, [.ref y_space, .ref y_offset, .ref y_length, .ref ya_units, .ref y_isThere, .int (z_i y_levels), .ref y_level, .int (z_i y_lines), .ref y_lineLevel, .ref y_lineUnits, .ref y_lineFrom, .ref y_lineMany, .ref y_isClosed, .ref y_insides, .ref y_parent, .ref y_isHigh, .ref y_inBits, .int (z_i y_sides), .ref y_side, .ref y_sideA, .ref y_sideB, .int (z_i y_lineSpace), .ref y_wasThere, .ref ya_leads, .ref ya_isLed, .ref y_isOn, .ref y_goesTo, .ref y_stream, .ref y_filled, .ref y_isDone, .ref y_isReached, .ref y_newUnits, .ref y_isNew])), (ya_units, .inl (cA 1, 5120, .inl y_units))]) [0, 1] rfl) hU hW⟩⟩ rfl rfl hl.1 rfl (lv_room (Nat.le_of_ble_eq_true rfl)) dX8_cell_98 ⟨Nat.zero_le _, Nat.zero_le _⟩) hS (fun q _ h => h.elim) (fun q h => h.elim) (fun r0 u t H locs ht hvm hw hB hz1 hk1 hS => ?_)
        obtain ⟨r193, rfl, h_r193, hw⟩ := hw
        have hP := z_P_all hP hk1
        have hv := hv r193 h_r193 hw
        refine lv_iload hx hb dX8_cell_101 (lv_at hl 11 rfl) ?_
        refine lx_icmp_lt (tgt := 110) hx hb dX8_cell_103 (by decide) h_r193 h_lv (fun hc => ?_) (fun hc => ?_)
        · have hv := hv.1 hc
          refine lv_iconst (v := z_i 0) hx hb dX8_cell_110 rfl ?_
          refine lv_istore (lv' := [(12, .int (z_i 0)), (11, .int (z_i 1)), (10, .int (z_i 0)), (9, .int (z_i 1)), (8, .int (z_i (v1 + 3))), (7, .int (z_i (v1 + 80))), (6, .int (z_i (v1 + 1))), (5, .int (z_i v1)), (0, .ref y), (1, .int (z_i gi)), (2, .int (z_i i)), (3, .int (z_i j)), (4, .int (z_i lv))]) hx hb dX8_cell_111 hl (by decide) rfl (fun ls hl => ?_)
          refine lv_iload hx hb dX8_cell_113 (lv_at hl 3 rfl) ?_
          refine lv_iload hx hb dX8_cell_115 (lv_at hl 2 rfl) ?_
          refine lx_icmp_eq (tgt := 261) hx hb dX8_cell_117 (by decide) ⟨by decide, by decide⟩ ⟨by decide, by decide⟩ (fun hc => absurd hc (by decide)) (fun _ => ?_)
          refine lv_iload hx hb dX8_cell_120 (lv_at hl 3 rfl) ?_
          refine lv_iload hx hb dX8_cell_122 (lv_at hl 1 rfl) ?_
          refine lx_icmp_eq (tgt := 261) hx hb dX8_cell_124 (by decide) ⟨by decide, by decide⟩ ⟨by decide, by decide⟩ (fun _ => ?_) (fun hc => absurd hc (by decide))
          refine lv_iconst (v := z_i (-1)) hx hb dX8_cell_261 rfl ?_
          refine lv_istore (lv' := [(13, .int (z_i (-1))), (12, .int (z_i 0)), (11, .int (z_i 1)), (10, .int (z_i 0)), (9, .int (z_i 1)), (8, .int (z_i (v1 + 3))), (7, .int (z_i (v1 + 80))), (6, .int (z_i (v1 + 1))), (5, .int (z_i v1)), (0, .ref y), (1, .int (z_i gi)), (2, .int (z_i i)), (3, .int (z_i j)), (4, .int (z_i lv))]) hx hb dX8_cell_262 hl (by decide) rfl (fun ls hl => ?_)
          refine lv_iconst (v := z_i (-1)) hx hb dX8_cell_264 rfl ?_
          refine lv_istore (lv' := [(14, .int (z_i (-1))), (13, .int (z_i (-1))), (12, .int (z_i 0)), (11, .int (z_i 1)), (10, .int (z_i 0)), (9, .int (z_i 1)), (8, .int (z_i (v1 + 3))), (7, .int (z_i (v1 + 80))), (6, .int (z_i (v1 + 1))), (5, .int (z_i v1)), (0, .ref y), (1, .int (z_i gi)), (2, .int (z_i i)), (3, .int (z_i j)), (4, .int (z_i lv))]) hx hb dX8_cell_265 hl (by decide) rfl (fun ls hl => ?_)
          refine lv_iload hx hb dX8_cell_267 (lv_at hl 5 rfl) ?_
          refine lv_iload hx hb dX8_cell_269 (lv_at hl 4 rfl) ?_
          refine lx_icmp_eq (tgt := 278) hx hb dX8_cell_271 (by decide) ⟨by decide, by decide⟩ ⟨by decide, by decide⟩ (fun hc => absurd hc (by decide)) (fun _ => ?_)
          refine lv_iload hx hb dX8_cell_274 (lv_at hl 9 rfl) ?_
          refine lv_istore (lv' := [(13, .int (z_i v1)), (14, .int (z_i (-1))), (12, .int (z_i 0)), (11, .int (z_i 1)), (10, .int (z_i 0)), (9, .int (z_i 1)), (8, .int (z_i (v1 + 3))), (7, .int (z_i (v1 + 80))), (6, .int (z_i (v1 + 1))), (5, .int (z_i v1)), (0, .ref y), (1, .int (z_i gi)), (2, .int (z_i i)), (3, .int (z_i j)), (4, .int (z_i lv))]) hx hb dX8_cell_276 hl (by decide) rfl (fun ls hl => ?_)
          refine lv_iload hx hb dX8_cell_278 (lv_at hl 5 rfl) ?_
          refine lv_iload hx hb dX8_cell_280 (lv_at hl 3 rfl) ?_
          refine lx_icmp_eq (tgt := 293) hx hb dX8_cell_282 (by decide) ⟨by decide, by decide⟩ ⟨by decide, by decide⟩ (fun _ => ?_) (fun hc => absurd hc (by decide))
          refine lv_iload hx hb dX8_cell_293 (lv_at hl 4 rfl) ?_
          refine lv_iload hx hb dX8_cell_295 (lv_at hl 2 rfl) ?_
          refine lx_icmp_eq (tgt := 308) hx hb dX8_cell_297 (by decide) ⟨by decide, by decide⟩ ⟨by decide, by decide⟩ (fun _ => ?_) (fun hc => absurd hc (by decide))
          refine lv_iload hx hb dX8_cell_308 (lv_at hl 3 rfl) ?_
          refine lv_iload hx hb dX8_cell_310 (lv_at hl 2 rfl) ?_
          refine lx_icmp_eq (tgt := 323) hx hb dX8_cell_312 (by decide) ⟨by decide, by decide⟩ ⟨by decide, by decide⟩ (fun hc => absurd hc (by decide)) (fun _ => ?_)
          refine lv_iload hx hb dX8_cell_315 (lv_at hl 0 rfl) ?_
          refine lv_istore (lv' := [(14, .int (z_i v1)), (13, .int (z_i v1)), (12, .int (z_i 0)), (11, .int (z_i 1)), (10, .int (z_i 0)), (9, .int (z_i 1)), (8, .int (z_i (v1 + 3))), (7, .int (z_i (v1 + 80))), (6, .int (z_i (v1 + 1))), (5, .int (z_i v1)), (0, .ref y), (1, .int (z_i gi)), (2, .int (z_i i)), (3, .int (z_i j)), (4, .int (z_i lv))]) hx hb dX8_cell_317 hl (by decide) rfl (fun ls hl => ?_)
          refine lv_iload hx hb dX8_cell_319 (lv_at hl 7 rfl) ?_
          refine lv_istore (lv' := [(13, .int (z_i (v1 + 80))), (14, .int (z_i v1)), (12, .int (z_i 0)), (11, .int (z_i 1)), (10, .int (z_i 0)), (9, .int (z_i 1)), (8, .int (z_i (v1 + 3))), (7, .int (z_i (v1 + 80))), (6, .int (z_i (v1 + 1))), (5, .int (z_i v1)), (0, .ref y), (1, .int (z_i gi)), (2, .int (z_i i)), (3, .int (z_i j)), (4, .int (z_i lv))]) hx hb dX8_cell_321 hl (by decide) rfl (fun ls hl => ?_)
          refine lv_iload hx hb dX8_cell_323 (lv_at hl 0 rfl) ?_
          obtain ⟨hr194, hv⟩ := hv
          refine lx_if_lt (tgt := 344) hx hb dX8_cell_325 (by decide) hr194 (fun hc => ?_) (fun hc => ?_)
          · have hv := hv.1 hc
            exact W.vret hx hb hr (fun t ht hW => ⟨⟨(y_leads, y_isLed), rfl, hv, z_pt hP ht⟩, hS.F ht⟩) hS.2.2 dX8_cell_344
          · have hv := hv.2 hc
            refine lv_iload hx hb dX8_cell_328 (lv_at hl 1 rfl) ?_
            refine lx_if_lt (tgt := 344) hx hb dX8_cell_330 (by decide) h_v1 (fun hc => ?_) (fun hc => ?_)
            · have hv := hv.1 hc
              exact W.vret hx hb hr (fun t ht hW => ⟨⟨(y_leads, y_isLed), rfl, hv, z_pt hP ht⟩, hS.F ht⟩) hS.2.2 dX8_cell_344
            · have hv := hv.2 hc
              refine lv_aload_n hx hb dX8_cell_333 rfl (lv_at hl 10 rfl) ?_
              refine lv_iload_n hx hb dX8_cell_334 rfl (lv_at hl 11 rfl) ?_
              refine lv_iload hx hb dX8_cell_335 (lv_at hl 0 rfl) ?_
              refine lv_iload hx hb dX8_cell_337 (lv_at hl 1 rfl) ?_
              refine lv_iload hx hb dX8_cell_339 (lv_at hl 14 rfl) ?_
              obtain ⟨hp195, hv⟩ := hv
              obtain ⟨hp196, hv⟩ := hv
              obtain ⟨hp197, hv⟩ := hv
              have hFc := z_fr (A := A) (wc := [(y, .inr (6, [.ref y_space, .ref y_offset, .ref y_length, .ref ya_units, .ref y_isThere, .int (z_i y_levels), .ref y_level, .int (z_i y_lines), .ref y_lineLevel, .ref y_lineUnits, .ref y_lineFrom, .ref y_lineMany, .ref y_isClosed, .ref y_insides, .ref y_parent, .ref y_isHigh, .ref y_inBits, .int (z_i y_sides), .ref y_side, .ref y_sideA, .ref y_sideB, .int (z_i y_lineSpace), .ref y_wasThere, .ref ya_leads, .ref ya_isLed, .ref y_isOn, .ref y_goesTo, .ref y_stream, .ref y_filled, .ref y_isDone, .ref y_isReached, .ref y_newUnits, .ref y_isNew])), (ya_units, .inl (cA 1, 5120, .inl y_units)), (ya_leads, .inl (cA 1, 2560, .inl y_leads)), (ya_isLed, .inl (cA 3, 2560, .inl y_isLed))]) hD [0, 1, 2, 3] rfl
              refine va_callv (va_runV (As := [.int (z_i gi), .int (z_i (v1 + 80)), .int (z_i v1), .int (z_i lv)]) (rest := []) ⟨hx, hb, hml, hown, hts⟩ (mt_X8_joins l D cA y y_space y_offset y_length ya_units y_units y_isThere y_levels y_level y_lines y_lineLevel y_lineUnits y_lineFrom y_lineMany y_isClosed y_insides y_parent y_isHigh y_inBits y_sides y_side y_sideA y_sideB y_lineSpace y_wasThere ya_leads y_leads ya_isLed y_isLed y_isOn y_goesTo y_stream y_filled y_isDone y_isReached y_newUnits y_isNew gi (v1 + 80) v1 lv h_y_levels h_y_lines h_y_sides h_y_lineSpace h_gi hr194 h_v1 h_lv hp195 hp196 hp197) (cwV 4 hts gX8_cell_X8_joins rfl rfl rfl (by decide +kernel) ⟨Nat.le_of_ble_eq_true rfl, Nat.le_of_ble_eq_true rfl⟩) ⟨z_blm0, va_recv hK hP (ci := 6) (q0 := 0) rfl rfl, fun U hU hW => ⟨rfl, z_m0 hK hP hD hU hW⟩⟩ rfl rfl hl.1 rfl (lv_room (Nat.le_of_ble_eq_true rfl)) dX8_cell_341 ⟨Nat.zero_le _, Nat.zero_le _⟩) hS (fun q _ h => hFc q h) hFc (fun u t H locs ht hvm hw hB hz1 hk1 hS => ?_)
              obtain ⟨c198, c199⟩ := u
              rw [ht] at hB
              have hP := hB
              have hP : va_P D vwCl [(y, .inr (6, [.ref y_space, .ref y_offset, .ref y_length, .ref ya_units, .ref y_isThere, .int (z_i y_levels), .ref y_level, .int (z_i y_lines), .ref y_lineLevel, .ref y_lineUnits, .ref y_lineFrom, .ref y_lineMany, .ref y_isClosed, .ref y_insides, .ref y_parent, .ref y_isHigh, .ref y_inBits, .int (z_i y_sides), .ref y_side, .ref y_sideA, .ref y_sideB, .int (z_i y_lineSpace), .ref y_wasThere, .ref ya_leads, .ref ya_isLed, .ref y_isOn, .ref y_goesTo, .ref y_stream, .ref y_filled, .ref y_isDone, .ref y_isReached, .ref y_newUnits, .ref y_isNew])), (ya_units, .inl (cA 1, 5120, .inl y_units)), (ya_leads, .inl (cA 1, 2560, .inl c198)), (ya_isLed, .inl (cA 3, 2560, .inl c199))] H := hP
              have hD : va_D A [(y, .inr (6, [.ref y_space, .ref y_offset, .ref y_length, .ref ya_units, .ref y_isThere, .int (z_i y_levels), .ref y_level, .int (z_i y_lines), .ref y_lineLevel, .ref y_lineUnits, .ref y_lineFrom, .ref y_lineMany, .ref y_isClosed, .ref y_insides, .ref y_parent, .ref y_isHigh, .ref y_inBits, .int (z_i y_sides), .ref y_side, .ref y_sideA, .ref y_sideB, .int (z_i y_lineSpace), .ref y_wasThere, .ref ya_leads, .ref ya_isLed, .ref y_isOn, .ref y_goesTo, .ref y_stream, .ref y_filled, .ref y_isDone, .ref y_isReached, .ref y_newUnits, .ref y_isNew])), (ya_units, .inl (cA 1, 5120, .inl y_units)), (ya_leads, .inl (cA 1, 2560, .inl c198)), (ya_isLed, .inl (cA 3, 2560, .inl c199))] := z_D_addr hD rfl
              have hv := hv c198 c199 hw
              exact W.vret hx hb hr (fun t ht hW => ⟨⟨(c198, c199), rfl, hv, z_pt hP ht⟩, hS.F ht⟩) hS.2.2 dX8_cell_344
        · have hv := hv.2 hc
          refine lv_iconst (v := z_i 1) hx hb dX8_cell_106 rfl ?_
          refine lv_goto (tgt := 111) hx hb dX8_cell_107 (by decide) ?_
          refine lv_istore (lv' := [(12, .int (z_i 1)), (11, .int (z_i 1)), (10, .int (z_i 0)), (9, .int (z_i 1)), (8, .int (z_i (v1 + 3))), (7, .int (z_i (v1 + 80))), (6, .int (z_i (v1 + 1))), (5, .int (z_i v1)), (0, .ref y), (1, .int (z_i gi)), (2, .int (z_i i)), (3, .int (z_i j)), (4, .int (z_i lv))]) hx hb dX8_cell_111 hl (by decide) rfl (fun ls hl => ?_)
          refine lv_iload hx hb dX8_cell_113 (lv_at hl 3 rfl) ?_
          refine lv_iload hx hb dX8_cell_115 (lv_at hl 2 rfl) ?_
          refine lx_icmp_eq (tgt := 261) hx hb dX8_cell_117 (by decide) ⟨by decide, by decide⟩ ⟨by decide, by decide⟩ (fun hc => absurd hc (by decide)) (fun _ => ?_)
          refine lv_iload hx hb dX8_cell_120 (lv_at hl 3 rfl) ?_
          refine lv_iload hx hb dX8_cell_122 (lv_at hl 1 rfl) ?_
          refine lx_icmp_eq (tgt := 261) hx hb dX8_cell_124 (by decide) ⟨by decide, by decide⟩ ⟨by decide, by decide⟩ (fun _ => ?_) (fun hc => absurd hc (by decide))
          refine lv_iconst (v := z_i (-1)) hx hb dX8_cell_261 rfl ?_
          refine lv_istore (lv' := [(13, .int (z_i (-1))), (12, .int (z_i 1)), (11, .int (z_i 1)), (10, .int (z_i 0)), (9, .int (z_i 1)), (8, .int (z_i (v1 + 3))), (7, .int (z_i (v1 + 80))), (6, .int (z_i (v1 + 1))), (5, .int (z_i v1)), (0, .ref y), (1, .int (z_i gi)), (2, .int (z_i i)), (3, .int (z_i j)), (4, .int (z_i lv))]) hx hb dX8_cell_262 hl (by decide) rfl (fun ls hl => ?_)
          refine lv_iconst (v := z_i (-1)) hx hb dX8_cell_264 rfl ?_
          refine lv_istore (lv' := [(14, .int (z_i (-1))), (13, .int (z_i (-1))), (12, .int (z_i 1)), (11, .int (z_i 1)), (10, .int (z_i 0)), (9, .int (z_i 1)), (8, .int (z_i (v1 + 3))), (7, .int (z_i (v1 + 80))), (6, .int (z_i (v1 + 1))), (5, .int (z_i v1)), (0, .ref y), (1, .int (z_i gi)), (2, .int (z_i i)), (3, .int (z_i j)), (4, .int (z_i lv))]) hx hb dX8_cell_265 hl (by decide) rfl (fun ls hl => ?_)
          refine lv_iload hx hb dX8_cell_267 (lv_at hl 5 rfl) ?_
          refine lv_iload hx hb dX8_cell_269 (lv_at hl 4 rfl) ?_
          refine lx_icmp_eq (tgt := 278) hx hb dX8_cell_271 (by decide) ⟨by decide, by decide⟩ ⟨by decide, by decide⟩ (fun hc => absurd hc (by decide)) (fun _ => ?_)
          refine lv_iload hx hb dX8_cell_274 (lv_at hl 9 rfl) ?_
          refine lv_istore (lv' := [(13, .int (z_i v1)), (14, .int (z_i (-1))), (12, .int (z_i 1)), (11, .int (z_i 1)), (10, .int (z_i 0)), (9, .int (z_i 1)), (8, .int (z_i (v1 + 3))), (7, .int (z_i (v1 + 80))), (6, .int (z_i (v1 + 1))), (5, .int (z_i v1)), (0, .ref y), (1, .int (z_i gi)), (2, .int (z_i i)), (3, .int (z_i j)), (4, .int (z_i lv))]) hx hb dX8_cell_276 hl (by decide) rfl (fun ls hl => ?_)
          refine lv_iload hx hb dX8_cell_278 (lv_at hl 5 rfl) ?_
          refine lv_iload hx hb dX8_cell_280 (lv_at hl 3 rfl) ?_
          refine lx_icmp_eq (tgt := 293) hx hb dX8_cell_282 (by decide) ⟨by decide, by decide⟩ ⟨by decide, by decide⟩ (fun _ => ?_) (fun hc => absurd hc (by decide))
          refine lv_iload hx hb dX8_cell_293 (lv_at hl 4 rfl) ?_
          refine lv_iload hx hb dX8_cell_295 (lv_at hl 2 rfl) ?_
          refine lx_icmp_eq (tgt := 308) hx hb dX8_cell_297 (by decide) ⟨by decide, by decide⟩ ⟨by decide, by decide⟩ (fun hc => absurd hc (by decide)) (fun _ => ?_)
          refine lv_iload hx hb dX8_cell_300 (lv_at hl 0 rfl) ?_
          refine lv_istore (lv' := [(14, .int (z_i v1)), (13, .int (z_i v1)), (12, .int (z_i 1)), (11, .int (z_i 1)), (10, .int (z_i 0)), (9, .int (z_i 1)), (8, .int (z_i (v1 + 3))), (7, .int (z_i (v1 + 80))), (6, .int (z_i (v1 + 1))), (5, .int (z_i v1)), (0, .ref y), (1, .int (z_i gi)), (2, .int (z_i i)), (3, .int (z_i j)), (4, .int (z_i lv))]) hx hb dX8_cell_302 hl (by decide) rfl (fun ls hl => ?_)
          refine lv_iload hx hb dX8_cell_304 (lv_at hl 6 rfl) ?_
          refine lv_istore (lv' := [(13, .int (z_i (v1 + 3))), (14, .int (z_i v1)), (12, .int (z_i 1)), (11, .int (z_i 1)), (10, .int (z_i 0)), (9, .int (z_i 1)), (8, .int (z_i (v1 + 3))), (7, .int (z_i (v1 + 80))), (6, .int (z_i (v1 + 1))), (5, .int (z_i v1)), (0, .ref y), (1, .int (z_i gi)), (2, .int (z_i i)), (3, .int (z_i j)), (4, .int (z_i lv))]) hx hb dX8_cell_306 hl (by decide) rfl (fun ls hl => ?_)
          refine lv_iload hx hb dX8_cell_308 (lv_at hl 3 rfl) ?_
          refine lv_iload hx hb dX8_cell_310 (lv_at hl 2 rfl) ?_
          refine lx_icmp_eq (tgt := 323) hx hb dX8_cell_312 (by decide) ⟨by decide, by decide⟩ ⟨by decide, by decide⟩ (fun _ => ?_) (fun hc => absurd hc (by decide))
          refine lv_iload hx hb dX8_cell_323 (lv_at hl 0 rfl) ?_
          obtain ⟨hr200, hv⟩ := hv
          refine lx_if_lt (tgt := 344) hx hb dX8_cell_325 (by decide) hr200 (fun hc => ?_) (fun hc => ?_)
          · have hv := hv.1 hc
            exact W.vret hx hb hr (fun t ht hW => ⟨⟨(y_leads, y_isLed), rfl, hv, z_pt hP ht⟩, hS.F ht⟩) hS.2.2 dX8_cell_344
          · have hv := hv.2 hc
            refine lv_iload hx hb dX8_cell_328 (lv_at hl 1 rfl) ?_
            refine lx_if_lt (tgt := 344) hx hb dX8_cell_330 (by decide) h_v1 (fun hc => ?_) (fun hc => ?_)
            · have hv := hv.1 hc
              exact W.vret hx hb hr (fun t ht hW => ⟨⟨(y_leads, y_isLed), rfl, hv, z_pt hP ht⟩, hS.F ht⟩) hS.2.2 dX8_cell_344
            · have hv := hv.2 hc
              refine lv_aload_n hx hb dX8_cell_333 rfl (lv_at hl 10 rfl) ?_
              refine lv_iload_n hx hb dX8_cell_334 rfl (lv_at hl 11 rfl) ?_
              refine lv_iload hx hb dX8_cell_335 (lv_at hl 0 rfl) ?_
              refine lv_iload hx hb dX8_cell_337 (lv_at hl 1 rfl) ?_
              refine lv_iload hx hb dX8_cell_339 (lv_at hl 14 rfl) ?_
              obtain ⟨hp201, hv⟩ := hv
              obtain ⟨hp202, hv⟩ := hv
              obtain ⟨hp203, hv⟩ := hv
              have hFc := z_fr (A := A) (wc := [(y, .inr (6, [.ref y_space, .ref y_offset, .ref y_length, .ref ya_units, .ref y_isThere, .int (z_i y_levels), .ref y_level, .int (z_i y_lines), .ref y_lineLevel, .ref y_lineUnits, .ref y_lineFrom, .ref y_lineMany, .ref y_isClosed, .ref y_insides, .ref y_parent, .ref y_isHigh, .ref y_inBits, .int (z_i y_sides), .ref y_side, .ref y_sideA, .ref y_sideB, .int (z_i y_lineSpace), .ref y_wasThere, .ref ya_leads, .ref ya_isLed, .ref y_isOn, .ref y_goesTo, .ref y_stream, .ref y_filled, .ref y_isDone, .ref y_isReached, .ref y_newUnits, .ref y_isNew])), (ya_units, .inl (cA 1, 5120, .inl y_units)), (ya_leads, .inl (cA 1, 2560, .inl y_leads)), (ya_isLed, .inl (cA 3, 2560, .inl y_isLed))]) hD [0, 1, 2, 3] rfl
              refine va_callv (va_runV (As := [.int (z_i gi), .int (z_i (v1 + 3)), .int (z_i v1), .int (z_i lv)]) (rest := []) ⟨hx, hb, hml, hown, hts⟩ (mt_X8_joins l D cA y y_space y_offset y_length ya_units y_units y_isThere y_levels y_level y_lines y_lineLevel y_lineUnits y_lineFrom y_lineMany y_isClosed y_insides y_parent y_isHigh y_inBits y_sides y_side y_sideA y_sideB y_lineSpace y_wasThere ya_leads y_leads ya_isLed y_isLed y_isOn y_goesTo y_stream y_filled y_isDone y_isReached y_newUnits y_isNew gi (v1 + 3) v1 lv h_y_levels h_y_lines h_y_sides h_y_lineSpace h_gi hr200 h_v1 h_lv hp201 hp202 hp203) (cwV 4 hts gX8_cell_X8_joins rfl rfl rfl (by decide +kernel) ⟨Nat.le_of_ble_eq_true rfl, Nat.le_of_ble_eq_true rfl⟩) ⟨z_blm0, va_recv hK hP (ci := 6) (q0 := 0) rfl rfl, fun U hU hW => ⟨rfl, z_m0 hK hP hD hU hW⟩⟩ rfl rfl hl.1 rfl (lv_room (Nat.le_of_ble_eq_true rfl)) dX8_cell_341 ⟨Nat.zero_le _, Nat.zero_le _⟩) hS (fun q _ h => hFc q h) hFc (fun u t H locs ht hvm hw hB hz1 hk1 hS => ?_)
              obtain ⟨c204, c205⟩ := u
              rw [ht] at hB
              have hP := hB
              have hP : va_P D vwCl [(y, .inr (6, [.ref y_space, .ref y_offset, .ref y_length, .ref ya_units, .ref y_isThere, .int (z_i y_levels), .ref y_level, .int (z_i y_lines), .ref y_lineLevel, .ref y_lineUnits, .ref y_lineFrom, .ref y_lineMany, .ref y_isClosed, .ref y_insides, .ref y_parent, .ref y_isHigh, .ref y_inBits, .int (z_i y_sides), .ref y_side, .ref y_sideA, .ref y_sideB, .int (z_i y_lineSpace), .ref y_wasThere, .ref ya_leads, .ref ya_isLed, .ref y_isOn, .ref y_goesTo, .ref y_stream, .ref y_filled, .ref y_isDone, .ref y_isReached, .ref y_newUnits, .ref y_isNew])), (ya_units, .inl (cA 1, 5120, .inl y_units)), (ya_leads, .inl (cA 1, 2560, .inl c204)), (ya_isLed, .inl (cA 3, 2560, .inl c205))] H := hP
              have hD : va_D A [(y, .inr (6, [.ref y_space, .ref y_offset, .ref y_length, .ref ya_units, .ref y_isThere, .int (z_i y_levels), .ref y_level, .int (z_i y_lines), .ref y_lineLevel, .ref y_lineUnits, .ref y_lineFrom, .ref y_lineMany, .ref y_isClosed, .ref y_insides, .ref y_parent, .ref y_isHigh, .ref y_inBits, .int (z_i y_sides), .ref y_side, .ref y_sideA, .ref y_sideB, .int (z_i y_lineSpace), .ref y_wasThere, .ref ya_leads, .ref ya_isLed, .ref y_isOn, .ref y_goesTo, .ref y_stream, .ref y_filled, .ref y_isDone, .ref y_isReached, .ref y_newUnits, .ref y_isNew])), (ya_units, .inl (cA 1, 5120, .inl y_units)), (ya_leads, .inl (cA 1, 2560, .inl c204)), (ya_isLed, .inl (cA 3, 2560, .inl c205))] := z_D_addr hD rfl
              have hv := hv c204 c205 hw
              exact W.vret hx hb hr (fun t ht hW => ⟨⟨(c204, c205), rfl, hv, z_pt hP ht⟩, hS.F ht⟩) hS.2.2 dX8_cell_344
    · have hv := hv.2 hc
      refine lv_iconst (v := z_i 1) hx hb dX8_cell_62 rfl ?_
      refine lv_goto (tgt := 67) hx hb dX8_cell_63 (by decide) ?_
      refine lv_istore (lv' := [(10, .int (z_i 1)), (9, .int (z_i 1)), (8, .int (z_i (v1 + 3))), (7, .int (z_i (v1 + 80))), (6, .int (z_i (v1 + 1))), (5, .int (z_i v1)), (0, .ref y), (1, .int (z_i gi)), (2, .int (z_i i)), (3, .int (z_i j)), (4, .int (z_i lv))]) hx hb dX8_cell_67 hl (by decide) rfl (fun ls hl => ?_)
      refine lv_aload_n hx hb dX8_cell_69 rfl (lv_at hl 6 rfl) ?_
      refine lv_iload_n hx hb dX8_cell_70 rfl (lv_at hl 7 rfl) ?_
      refine lv_iload_n hx hb dX8_cell_71 rfl (lv_at hl 8 rfl) ?_
      refine lv_iconst (v := z_i 1) hx hb dX8_cell_72 rfl ?_
      refine lx_iadd hx hb dX8_cell_73 ?_
      refine lv_iload_n hx hb dX8_cell_74 rfl (lv_at hl 9 rfl) ?_
      obtain ⟨hr206, hv⟩ := hv
      obtain ⟨hp207, hv⟩ := hv
      obtain ⟨hp208, hv⟩ := hv
      obtain ⟨hp209, hv⟩ := hv
      refine va_calli (va_runV (As := [.int (z_i gi), .int (z_i (i + 1)), .int (z_i j)]) (rest := []) ⟨hx, hb, hml, hown, hts⟩ (mt_X8_h l D cA y y_space y_offset y_length ya_units y_units y_isThere y_levels y_level y_lines y_lineLevel y_lineUnits y_lineFrom y_lineMany y_isClosed y_insides y_parent y_isHigh y_inBits y_sides y_side y_sideA y_sideB y_lineSpace y_wasThere ya_leads ya_isLed y_isOn y_goesTo y_stream y_filled y_isDone y_isReached y_newUnits y_isNew gi (i + 1) j h_y_levels h_y_lines h_y_sides h_y_lineSpace h_gi hr206 h_j hp207 hp208 hp209) (cwV 3 hts gX8_cell_X8_h rfl rfl rfl (by decide +kernel) ⟨Nat.le_of_ble_eq_true rfl, Nat.le_of_ble_eq_true rfl⟩) ⟨z_bl0, va_recv hK hP (ci := 6) (q0 := 0) rfl rfl, fun U hU hW => ⟨rfl, z_b0 hK (hP.sub (ws' := [(y, .inr (6, [.ref y_space, .ref y_offset, .ref y_length, .ref ya_units, .ref y_isThere, .int (z_i y_levels), .ref y_level, .int (z_i y_lines), .ref y_lineLevel, .ref y_lineUnits, .ref y_lineFrom, .ref y_lineMany, .ref y_isClosed, .ref y_insides, .ref y_parent, .ref y_isHigh, .ref y_inBits, .int (z_i y_sides), .ref y_side, .ref y_sideA, .ref y_sideB, .int (z_i y_lineSpace), .ref y_wasThere, .ref ya_leads, .ref ya_isLed, .ref y_isOn, .ref y_goesTo, .ref y_stream, .ref y_filled, .ref y_isDone, .ref y_isReached, .ref y_newUnits, .ref y_isNew])), (ya_units, .inl (cA 1, 5120, .inl y_units))]) [0, 1] rfl) hU hW⟩⟩ rfl rfl hl.1 rfl (lv_room (Nat.le_of_ble_eq_true rfl)) dX8_cell_75 ⟨Nat.zero_le _, Nat.zero_le _⟩) hS (fun q _ h => h.elim) (fun q h => h.elim) (fun r0 u t H locs ht hvm hw hB hz1 hk1 hS => ?_)
      obtain ⟨r210, rfl, h_r210, hw⟩ := hw
      have hP := z_P_all hP hk1
      have hv := hv r210 h_r210 hw
      refine lv_iload hx hb dX8_cell_78 (lv_at hl 10 rfl) ?_
      refine lx_icmp_lt (tgt := 87) hx hb dX8_cell_80 (by decide) h_r210 h_lv (fun hc => ?_) (fun hc => ?_)
      · have hv := hv.1 hc
        refine lv_iconst (v := z_i 0) hx hb dX8_cell_87 rfl ?_
        refine lv_istore (lv' := [(11, .int (z_i 0)), (10, .int (z_i 1)), (9, .int (z_i 1)), (8, .int (z_i (v1 + 3))), (7, .int (z_i (v1 + 80))), (6, .int (z_i (v1 + 1))), (5, .int (z_i v1)), (0, .ref y), (1, .int (z_i gi)), (2, .int (z_i i)), (3, .int (z_i j)), (4, .int (z_i lv))]) hx hb dX8_cell_88 hl (by decide) rfl (fun ls hl => ?_)
        refine lv_aload_n hx hb dX8_cell_90 rfl (lv_at hl 7 rfl) ?_
        refine lv_iload_n hx hb dX8_cell_91 rfl (lv_at hl 8 rfl) ?_
        refine lv_iload_n hx hb dX8_cell_92 rfl (lv_at hl 9 rfl) ?_
        refine lv_iconst (v := z_i 1) hx hb dX8_cell_93 rfl ?_
        refine lx_iadd hx hb dX8_cell_94 ?_
        refine lv_iload_n hx hb dX8_cell_95 rfl (lv_at hl 10 rfl) ?_
        refine lv_iconst (v := z_i 1) hx hb dX8_cell_96 rfl ?_
        refine lx_iadd hx hb dX8_cell_97 ?_
        obtain ⟨hp211, hv⟩ := hv
        obtain ⟨hp212, hv⟩ := hv
        obtain ⟨hp213, hv⟩ := hv
        refine va_calli (va_runV (As := [.int (z_i gi), .int (z_i (i + 1)), .int (z_i (j + 1))]) (rest := []) ⟨hx, hb, hml, hown, hts⟩ (mt_X8_h l D cA y y_space y_offset y_length ya_units y_units y_isThere y_levels y_level y_lines y_lineLevel y_lineUnits y_lineFrom y_lineMany y_isClosed y_insides y_parent y_isHigh y_inBits y_sides y_side y_sideA y_sideB y_lineSpace y_wasThere ya_leads ya_isLed y_isOn y_goesTo y_stream y_filled y_isDone y_isReached y_newUnits y_isNew gi (i + 1) (j + 1) h_y_levels h_y_lines h_y_sides h_y_lineSpace h_gi hr206 hr124 hp211 hp212 hp213) (cwV 3 hts gX8_cell_X8_h rfl rfl rfl (by decide +kernel) ⟨Nat.le_of_ble_eq_true rfl, Nat.le_of_ble_eq_true rfl⟩) ⟨z_bl0, va_recv hK hP (ci := 6) (q0 := 0) rfl rfl, fun U hU hW => ⟨rfl, z_b0 hK (hP.sub (ws' := [(y, .inr (6, [.ref y_space, .ref y_offset, .ref y_length, .ref ya_units, .ref y_isThere, .int (z_i y_levels), .ref y_level, .int (z_i y_lines), .ref y_lineLevel, .ref y_lineUnits, .ref y_lineFrom, .ref y_lineMany, .ref y_isClosed, .ref y_insides, .ref y_parent, .ref y_isHigh, .ref y_inBits, .int (z_i y_sides), .ref y_side, .ref y_sideA, .ref y_sideB, .int (z_i y_lineSpace), .ref y_wasThere, .ref ya_leads, .ref ya_isLed, .ref y_isOn, .ref y_goesTo, .ref y_stream, .ref y_filled, .ref y_isDone, .ref y_isReached, .ref y_newUnits, .ref y_isNew])), (ya_units, .inl (cA 1, 5120, .inl y_units))]) [0, 1] rfl) hU hW⟩⟩ rfl rfl hl.1 rfl (lv_room (Nat.le_of_ble_eq_true rfl)) dX8_cell_98 ⟨Nat.zero_le _, Nat.zero_le _⟩) hS (fun q _ h => h.elim) (fun q h => h.elim) (fun r0 u t H locs ht hvm hw hB hz1 hk1 hS => ?_)
        obtain ⟨r214, rfl, h_r214, hw⟩ := hw
        have hP := z_P_all hP hk1
        have hv := hv r214 h_r214 hw
        refine lv_iload hx hb dX8_cell_101 (lv_at hl 11 rfl) ?_
        refine lx_icmp_lt (tgt := 110) hx hb dX8_cell_103 (by decide) h_r214 h_lv (fun hc => ?_) (fun hc => ?_)
        · have hv := hv.1 hc
          refine lv_iconst (v := z_i 0) hx hb dX8_cell_110 rfl ?_
          refine lv_istore (lv' := [(12, .int (z_i 0)), (11, .int (z_i 0)), (10, .int (z_i 1)), (9, .int (z_i 1)), (8, .int (z_i (v1 + 3))), (7, .int (z_i (v1 + 80))), (6, .int (z_i (v1 + 1))), (5, .int (z_i v1)), (0, .ref y), (1, .int (z_i gi)), (2, .int (z_i i)), (3, .int (z_i j)), (4, .int (z_i lv))]) hx hb dX8_cell_111 hl (by decide) rfl (fun ls hl => ?_)
          refine lv_iload hx hb dX8_cell_113 (lv_at hl 3 rfl) ?_
          refine lv_iload hx hb dX8_cell_115 (lv_at hl 2 rfl) ?_
          refine lx_icmp_eq (tgt := 261) hx hb dX8_cell_117 (by decide) ⟨by decide, by decide⟩ ⟨by decide, by decide⟩ (fun _ => ?_) (fun hc => absurd hc (by decide))
          refine lv_iconst (v := z_i (-1)) hx hb dX8_cell_261 rfl ?_
          refine lv_istore (lv' := [(13, .int (z_i (-1))), (12, .int (z_i 0)), (11, .int (z_i 0)), (10, .int (z_i 1)), (9, .int (z_i 1)), (8, .int (z_i (v1 + 3))), (7, .int (z_i (v1 + 80))), (6, .int (z_i (v1 + 1))), (5, .int (z_i v1)), (0, .ref y), (1, .int (z_i gi)), (2, .int (z_i i)), (3, .int (z_i j)), (4, .int (z_i lv))]) hx hb dX8_cell_262 hl (by decide) rfl (fun ls hl => ?_)
          refine lv_iconst (v := z_i (-1)) hx hb dX8_cell_264 rfl ?_
          refine lv_istore (lv' := [(14, .int (z_i (-1))), (13, .int (z_i (-1))), (12, .int (z_i 0)), (11, .int (z_i 0)), (10, .int (z_i 1)), (9, .int (z_i 1)), (8, .int (z_i (v1 + 3))), (7, .int (z_i (v1 + 80))), (6, .int (z_i (v1 + 1))), (5, .int (z_i v1)), (0, .ref y), (1, .int (z_i gi)), (2, .int (z_i i)), (3, .int (z_i j)), (4, .int (z_i lv))]) hx hb dX8_cell_265 hl (by decide) rfl (fun ls hl => ?_)
          refine lv_iload hx hb dX8_cell_267 (lv_at hl 5 rfl) ?_
          refine lv_iload hx hb dX8_cell_269 (lv_at hl 4 rfl) ?_
          refine lx_icmp_eq (tgt := 278) hx hb dX8_cell_271 (by decide) ⟨by decide, by decide⟩ ⟨by decide, by decide⟩ (fun _ => ?_) (fun hc => absurd hc (by decide))
          refine lv_iload hx hb dX8_cell_278 (lv_at hl 5 rfl) ?_
          refine lv_iload hx hb dX8_cell_280 (lv_at hl 3 rfl) ?_
          refine lx_icmp_eq (tgt := 293) hx hb dX8_cell_282 (by decide) ⟨by decide, by decide⟩ ⟨by decide, by decide⟩ (fun hc => absurd hc (by decide)) (fun _ => ?_)
          refine lv_iload hx hb dX8_cell_285 (lv_at hl 1 rfl) ?_
          refine lv_istore (lv' := [(14, .int (z_i (-1))), (13, .int (z_i (-1))), (12, .int (z_i 0)), (11, .int (z_i 0)), (10, .int (z_i 1)), (9, .int (z_i 1)), (8, .int (z_i (v1 + 3))), (7, .int (z_i (v1 + 80))), (6, .int (z_i (v1 + 1))), (5, .int (z_i v1)), (0, .ref y), (1, .int (z_i gi)), (2, .int (z_i i)), (3, .int (z_i j)), (4, .int (z_i lv))]) hx hb dX8_cell_287 hl (by decide) rfl (fun ls hl => ?_)
          refine lv_iload hx hb dX8_cell_289 (lv_at hl 8 rfl) ?_
          refine lv_istore (lv' := [(13, .int (z_i (v1 + 1))), (14, .int (z_i (-1))), (12, .int (z_i 0)), (11, .int (z_i 0)), (10, .int (z_i 1)), (9, .int (z_i 1)), (8, .int (z_i (v1 + 3))), (7, .int (z_i (v1 + 80))), (6, .int (z_i (v1 + 1))), (5, .int (z_i v1)), (0, .ref y), (1, .int (z_i gi)), (2, .int (z_i i)), (3, .int (z_i j)), (4, .int (z_i lv))]) hx hb dX8_cell_291 hl (by decide) rfl (fun ls hl => ?_)
          refine lv_iload hx hb dX8_cell_293 (lv_at hl 4 rfl) ?_
          refine lv_iload hx hb dX8_cell_295 (lv_at hl 2 rfl) ?_
          refine lx_icmp_eq (tgt := 308) hx hb dX8_cell_297 (by decide) ⟨by decide, by decide⟩ ⟨by decide, by decide⟩ (fun hc => absurd hc (by decide)) (fun _ => ?_)
          refine lv_iload hx hb dX8_cell_300 (lv_at hl 0 rfl) ?_
          refine lv_istore (lv' := [(14, .int (z_i (v1 + 1))), (13, .int (z_i (v1 + 1))), (12, .int (z_i 0)), (11, .int (z_i 0)), (10, .int (z_i 1)), (9, .int (z_i 1)), (8, .int (z_i (v1 + 3))), (7, .int (z_i (v1 + 80))), (6, .int (z_i (v1 + 1))), (5, .int (z_i v1)), (0, .ref y), (1, .int (z_i gi)), (2, .int (z_i i)), (3, .int (z_i j)), (4, .int (z_i lv))]) hx hb dX8_cell_302 hl (by decide) rfl (fun ls hl => ?_)
          refine lv_iload hx hb dX8_cell_304 (lv_at hl 6 rfl) ?_
          refine lv_istore (lv' := [(13, .int (z_i (v1 + 3))), (14, .int (z_i (v1 + 1))), (12, .int (z_i 0)), (11, .int (z_i 0)), (10, .int (z_i 1)), (9, .int (z_i 1)), (8, .int (z_i (v1 + 3))), (7, .int (z_i (v1 + 80))), (6, .int (z_i (v1 + 1))), (5, .int (z_i v1)), (0, .ref y), (1, .int (z_i gi)), (2, .int (z_i i)), (3, .int (z_i j)), (4, .int (z_i lv))]) hx hb dX8_cell_306 hl (by decide) rfl (fun ls hl => ?_)
          refine lv_iload hx hb dX8_cell_308 (lv_at hl 3 rfl) ?_
          refine lv_iload hx hb dX8_cell_310 (lv_at hl 2 rfl) ?_
          refine lx_icmp_eq (tgt := 323) hx hb dX8_cell_312 (by decide) ⟨by decide, by decide⟩ ⟨by decide, by decide⟩ (fun _ => ?_) (fun hc => absurd hc (by decide))
          refine lv_iload hx hb dX8_cell_323 (lv_at hl 0 rfl) ?_
          obtain ⟨hr215, hv⟩ := hv
          refine lx_if_lt (tgt := 344) hx hb dX8_cell_325 (by decide) hr215 (fun hc => ?_) (fun hc => ?_)
          · have hv := hv.1 hc
            exact W.vret hx hb hr (fun t ht hW => ⟨⟨(y_leads, y_isLed), rfl, hv, z_pt hP ht⟩, hS.F ht⟩) hS.2.2 dX8_cell_344
          · have hv := hv.2 hc
            refine lv_iload hx hb dX8_cell_328 (lv_at hl 1 rfl) ?_
            obtain ⟨hr216, hv⟩ := hv
            refine lx_if_lt (tgt := 344) hx hb dX8_cell_330 (by decide) hr216 (fun hc => ?_) (fun hc => ?_)
            · have hv := hv.1 hc
              exact W.vret hx hb hr (fun t ht hW => ⟨⟨(y_leads, y_isLed), rfl, hv, z_pt hP ht⟩, hS.F ht⟩) hS.2.2 dX8_cell_344
            · have hv := hv.2 hc
              refine lv_aload_n hx hb dX8_cell_333 rfl (lv_at hl 10 rfl) ?_
              refine lv_iload_n hx hb dX8_cell_334 rfl (lv_at hl 11 rfl) ?_
              refine lv_iload hx hb dX8_cell_335 (lv_at hl 0 rfl) ?_
              refine lv_iload hx hb dX8_cell_337 (lv_at hl 1 rfl) ?_
              refine lv_iload hx hb dX8_cell_339 (lv_at hl 14 rfl) ?_
              obtain ⟨hp217, hv⟩ := hv
              obtain ⟨hp218, hv⟩ := hv
              obtain ⟨hp219, hv⟩ := hv
              have hFc := z_fr (A := A) (wc := [(y, .inr (6, [.ref y_space, .ref y_offset, .ref y_length, .ref ya_units, .ref y_isThere, .int (z_i y_levels), .ref y_level, .int (z_i y_lines), .ref y_lineLevel, .ref y_lineUnits, .ref y_lineFrom, .ref y_lineMany, .ref y_isClosed, .ref y_insides, .ref y_parent, .ref y_isHigh, .ref y_inBits, .int (z_i y_sides), .ref y_side, .ref y_sideA, .ref y_sideB, .int (z_i y_lineSpace), .ref y_wasThere, .ref ya_leads, .ref ya_isLed, .ref y_isOn, .ref y_goesTo, .ref y_stream, .ref y_filled, .ref y_isDone, .ref y_isReached, .ref y_newUnits, .ref y_isNew])), (ya_units, .inl (cA 1, 5120, .inl y_units)), (ya_leads, .inl (cA 1, 2560, .inl y_leads)), (ya_isLed, .inl (cA 3, 2560, .inl y_isLed))]) hD [0, 1, 2, 3] rfl
              refine va_callv (va_runV (As := [.int (z_i gi), .int (z_i (v1 + 3)), .int (z_i (v1 + 1)), .int (z_i lv)]) (rest := []) ⟨hx, hb, hml, hown, hts⟩ (mt_X8_joins l D cA y y_space y_offset y_length ya_units y_units y_isThere y_levels y_level y_lines y_lineLevel y_lineUnits y_lineFrom y_lineMany y_isClosed y_insides y_parent y_isHigh y_inBits y_sides y_side y_sideA y_sideB y_lineSpace y_wasThere ya_leads y_leads ya_isLed y_isLed y_isOn y_goesTo y_stream y_filled y_isDone y_isReached y_newUnits y_isNew gi (v1 + 3) (v1 + 1) lv h_y_levels h_y_lines h_y_sides h_y_lineSpace h_gi hr215 hr216 h_lv hp217 hp218 hp219) (cwV 4 hts gX8_cell_X8_joins rfl rfl rfl (by decide +kernel) ⟨Nat.le_of_ble_eq_true rfl, Nat.le_of_ble_eq_true rfl⟩) ⟨z_blm0, va_recv hK hP (ci := 6) (q0 := 0) rfl rfl, fun U hU hW => ⟨rfl, z_m0 hK hP hD hU hW⟩⟩ rfl rfl hl.1 rfl (lv_room (Nat.le_of_ble_eq_true rfl)) dX8_cell_341 ⟨Nat.zero_le _, Nat.zero_le _⟩) hS (fun q _ h => hFc q h) hFc (fun u t H locs ht hvm hw hB hz1 hk1 hS => ?_)
              obtain ⟨c220, c221⟩ := u
              rw [ht] at hB
              have hP := hB
              have hP : va_P D vwCl [(y, .inr (6, [.ref y_space, .ref y_offset, .ref y_length, .ref ya_units, .ref y_isThere, .int (z_i y_levels), .ref y_level, .int (z_i y_lines), .ref y_lineLevel, .ref y_lineUnits, .ref y_lineFrom, .ref y_lineMany, .ref y_isClosed, .ref y_insides, .ref y_parent, .ref y_isHigh, .ref y_inBits, .int (z_i y_sides), .ref y_side, .ref y_sideA, .ref y_sideB, .int (z_i y_lineSpace), .ref y_wasThere, .ref ya_leads, .ref ya_isLed, .ref y_isOn, .ref y_goesTo, .ref y_stream, .ref y_filled, .ref y_isDone, .ref y_isReached, .ref y_newUnits, .ref y_isNew])), (ya_units, .inl (cA 1, 5120, .inl y_units)), (ya_leads, .inl (cA 1, 2560, .inl c220)), (ya_isLed, .inl (cA 3, 2560, .inl c221))] H := hP
              have hD : va_D A [(y, .inr (6, [.ref y_space, .ref y_offset, .ref y_length, .ref ya_units, .ref y_isThere, .int (z_i y_levels), .ref y_level, .int (z_i y_lines), .ref y_lineLevel, .ref y_lineUnits, .ref y_lineFrom, .ref y_lineMany, .ref y_isClosed, .ref y_insides, .ref y_parent, .ref y_isHigh, .ref y_inBits, .int (z_i y_sides), .ref y_side, .ref y_sideA, .ref y_sideB, .int (z_i y_lineSpace), .ref y_wasThere, .ref ya_leads, .ref ya_isLed, .ref y_isOn, .ref y_goesTo, .ref y_stream, .ref y_filled, .ref y_isDone, .ref y_isReached, .ref y_newUnits, .ref y_isNew])), (ya_units, .inl (cA 1, 5120, .inl y_units)), (ya_leads, .inl (cA 1, 2560, .inl c220)), (ya_isLed, .inl (cA 3, 2560, .inl c221))] := z_D_addr hD rfl
              have hv := hv c220 c221 hw
              exact W.vret hx hb hr (fun t ht hW => ⟨⟨(c220, c221), rfl, hv, z_pt hP ht⟩, hS.F ht⟩) hS.2.2 dX8_cell_344
        · have hv := hv.2 hc
          refine lv_iconst (v := z_i 1) hx hb dX8_cell_106 rfl ?_
          refine lv_goto (tgt := 111) hx hb dX8_cell_107 (by decide) ?_
          refine lv_istore (lv' := [(12, .int (z_i 1)), (11, .int (z_i 0)), (10, .int (z_i 1)), (9, .int (z_i 1)), (8, .int (z_i (v1 + 3))), (7, .int (z_i (v1 + 80))), (6, .int (z_i (v1 + 1))), (5, .int (z_i v1)), (0, .ref y), (1, .int (z_i gi)), (2, .int (z_i i)), (3, .int (z_i j)), (4, .int (z_i lv))]) hx hb dX8_cell_111 hl (by decide) rfl (fun ls hl => ?_)
          refine lv_iload hx hb dX8_cell_113 (lv_at hl 3 rfl) ?_
          refine lv_iload hx hb dX8_cell_115 (lv_at hl 2 rfl) ?_
          refine lx_icmp_eq (tgt := 261) hx hb dX8_cell_117 (by decide) ⟨by decide, by decide⟩ ⟨by decide, by decide⟩ (fun _ => ?_) (fun hc => absurd hc (by decide))
          refine lv_iconst (v := z_i (-1)) hx hb dX8_cell_261 rfl ?_
          refine lv_istore (lv' := [(13, .int (z_i (-1))), (12, .int (z_i 1)), (11, .int (z_i 0)), (10, .int (z_i 1)), (9, .int (z_i 1)), (8, .int (z_i (v1 + 3))), (7, .int (z_i (v1 + 80))), (6, .int (z_i (v1 + 1))), (5, .int (z_i v1)), (0, .ref y), (1, .int (z_i gi)), (2, .int (z_i i)), (3, .int (z_i j)), (4, .int (z_i lv))]) hx hb dX8_cell_262 hl (by decide) rfl (fun ls hl => ?_)
          refine lv_iconst (v := z_i (-1)) hx hb dX8_cell_264 rfl ?_
          refine lv_istore (lv' := [(14, .int (z_i (-1))), (13, .int (z_i (-1))), (12, .int (z_i 1)), (11, .int (z_i 0)), (10, .int (z_i 1)), (9, .int (z_i 1)), (8, .int (z_i (v1 + 3))), (7, .int (z_i (v1 + 80))), (6, .int (z_i (v1 + 1))), (5, .int (z_i v1)), (0, .ref y), (1, .int (z_i gi)), (2, .int (z_i i)), (3, .int (z_i j)), (4, .int (z_i lv))]) hx hb dX8_cell_265 hl (by decide) rfl (fun ls hl => ?_)
          refine lv_iload hx hb dX8_cell_267 (lv_at hl 5 rfl) ?_
          refine lv_iload hx hb dX8_cell_269 (lv_at hl 4 rfl) ?_
          refine lx_icmp_eq (tgt := 278) hx hb dX8_cell_271 (by decide) ⟨by decide, by decide⟩ ⟨by decide, by decide⟩ (fun _ => ?_) (fun hc => absurd hc (by decide))
          refine lv_iload hx hb dX8_cell_278 (lv_at hl 5 rfl) ?_
          refine lv_iload hx hb dX8_cell_280 (lv_at hl 3 rfl) ?_
          refine lx_icmp_eq (tgt := 293) hx hb dX8_cell_282 (by decide) ⟨by decide, by decide⟩ ⟨by decide, by decide⟩ (fun hc => absurd hc (by decide)) (fun _ => ?_)
          refine lv_iload hx hb dX8_cell_285 (lv_at hl 1 rfl) ?_
          refine lv_istore (lv' := [(14, .int (z_i (-1))), (13, .int (z_i (-1))), (12, .int (z_i 1)), (11, .int (z_i 0)), (10, .int (z_i 1)), (9, .int (z_i 1)), (8, .int (z_i (v1 + 3))), (7, .int (z_i (v1 + 80))), (6, .int (z_i (v1 + 1))), (5, .int (z_i v1)), (0, .ref y), (1, .int (z_i gi)), (2, .int (z_i i)), (3, .int (z_i j)), (4, .int (z_i lv))]) hx hb dX8_cell_287 hl (by decide) rfl (fun ls hl => ?_)
          refine lv_iload hx hb dX8_cell_289 (lv_at hl 8 rfl) ?_
          refine lv_istore (lv' := [(13, .int (z_i (v1 + 1))), (14, .int (z_i (-1))), (12, .int (z_i 1)), (11, .int (z_i 0)), (10, .int (z_i 1)), (9, .int (z_i 1)), (8, .int (z_i (v1 + 3))), (7, .int (z_i (v1 + 80))), (6, .int (z_i (v1 + 1))), (5, .int (z_i v1)), (0, .ref y), (1, .int (z_i gi)), (2, .int (z_i i)), (3, .int (z_i j)), (4, .int (z_i lv))]) hx hb dX8_cell_291 hl (by decide) rfl (fun ls hl => ?_)
          refine lv_iload hx hb dX8_cell_293 (lv_at hl 4 rfl) ?_
          refine lv_iload hx hb dX8_cell_295 (lv_at hl 2 rfl) ?_
          refine lx_icmp_eq (tgt := 308) hx hb dX8_cell_297 (by decide) ⟨by decide, by decide⟩ ⟨by decide, by decide⟩ (fun _ => ?_) (fun hc => absurd hc (by decide))
          refine lv_iload hx hb dX8_cell_308 (lv_at hl 3 rfl) ?_
          refine lv_iload hx hb dX8_cell_310 (lv_at hl 2 rfl) ?_
          refine lx_icmp_eq (tgt := 323) hx hb dX8_cell_312 (by decide) ⟨by decide, by decide⟩ ⟨by decide, by decide⟩ (fun hc => absurd hc (by decide)) (fun _ => ?_)
          refine lv_iload hx hb dX8_cell_315 (lv_at hl 0 rfl) ?_
          refine lv_istore (lv' := [(14, .int (z_i (v1 + 1))), (13, .int (z_i (v1 + 1))), (12, .int (z_i 1)), (11, .int (z_i 0)), (10, .int (z_i 1)), (9, .int (z_i 1)), (8, .int (z_i (v1 + 3))), (7, .int (z_i (v1 + 80))), (6, .int (z_i (v1 + 1))), (5, .int (z_i v1)), (0, .ref y), (1, .int (z_i gi)), (2, .int (z_i i)), (3, .int (z_i j)), (4, .int (z_i lv))]) hx hb dX8_cell_317 hl (by decide) rfl (fun ls hl => ?_)
          refine lv_iload hx hb dX8_cell_319 (lv_at hl 7 rfl) ?_
          refine lv_istore (lv' := [(13, .int (z_i (v1 + 80))), (14, .int (z_i (v1 + 1))), (12, .int (z_i 1)), (11, .int (z_i 0)), (10, .int (z_i 1)), (9, .int (z_i 1)), (8, .int (z_i (v1 + 3))), (7, .int (z_i (v1 + 80))), (6, .int (z_i (v1 + 1))), (5, .int (z_i v1)), (0, .ref y), (1, .int (z_i gi)), (2, .int (z_i i)), (3, .int (z_i j)), (4, .int (z_i lv))]) hx hb dX8_cell_321 hl (by decide) rfl (fun ls hl => ?_)
          refine lv_iload hx hb dX8_cell_323 (lv_at hl 0 rfl) ?_
          obtain ⟨hr222, hv⟩ := hv
          refine lx_if_lt (tgt := 344) hx hb dX8_cell_325 (by decide) hr222 (fun hc => ?_) (fun hc => ?_)
          · have hv := hv.1 hc
            exact W.vret hx hb hr (fun t ht hW => ⟨⟨(y_leads, y_isLed), rfl, hv, z_pt hP ht⟩, hS.F ht⟩) hS.2.2 dX8_cell_344
          · have hv := hv.2 hc
            refine lv_iload hx hb dX8_cell_328 (lv_at hl 1 rfl) ?_
            obtain ⟨hr223, hv⟩ := hv
            refine lx_if_lt (tgt := 344) hx hb dX8_cell_330 (by decide) hr223 (fun hc => ?_) (fun hc => ?_)
            · have hv := hv.1 hc
              exact W.vret hx hb hr (fun t ht hW => ⟨⟨(y_leads, y_isLed), rfl, hv, z_pt hP ht⟩, hS.F ht⟩) hS.2.2 dX8_cell_344
            · have hv := hv.2 hc
              refine lv_aload_n hx hb dX8_cell_333 rfl (lv_at hl 10 rfl) ?_
              refine lv_iload_n hx hb dX8_cell_334 rfl (lv_at hl 11 rfl) ?_
              refine lv_iload hx hb dX8_cell_335 (lv_at hl 0 rfl) ?_
              refine lv_iload hx hb dX8_cell_337 (lv_at hl 1 rfl) ?_
              refine lv_iload hx hb dX8_cell_339 (lv_at hl 14 rfl) ?_
              obtain ⟨hp224, hv⟩ := hv
              obtain ⟨hp225, hv⟩ := hv
              obtain ⟨hp226, hv⟩ := hv
              have hFc := z_fr (A := A) (wc := [(y, .inr (6, [.ref y_space, .ref y_offset, .ref y_length, .ref ya_units, .ref y_isThere, .int (z_i y_levels), .ref y_level, .int (z_i y_lines), .ref y_lineLevel, .ref y_lineUnits, .ref y_lineFrom, .ref y_lineMany, .ref y_isClosed, .ref y_insides, .ref y_parent, .ref y_isHigh, .ref y_inBits, .int (z_i y_sides), .ref y_side, .ref y_sideA, .ref y_sideB, .int (z_i y_lineSpace), .ref y_wasThere, .ref ya_leads, .ref ya_isLed, .ref y_isOn, .ref y_goesTo, .ref y_stream, .ref y_filled, .ref y_isDone, .ref y_isReached, .ref y_newUnits, .ref y_isNew])), (ya_units, .inl (cA 1, 5120, .inl y_units)), (ya_leads, .inl (cA 1, 2560, .inl y_leads)), (ya_isLed, .inl (cA 3, 2560, .inl y_isLed))]) hD [0, 1, 2, 3] rfl
              refine va_callv (va_runV (As := [.int (z_i gi), .int (z_i (v1 + 80)), .int (z_i (v1 + 1)), .int (z_i lv)]) (rest := []) ⟨hx, hb, hml, hown, hts⟩ (mt_X8_joins l D cA y y_space y_offset y_length ya_units y_units y_isThere y_levels y_level y_lines y_lineLevel y_lineUnits y_lineFrom y_lineMany y_isClosed y_insides y_parent y_isHigh y_inBits y_sides y_side y_sideA y_sideB y_lineSpace y_wasThere ya_leads y_leads ya_isLed y_isLed y_isOn y_goesTo y_stream y_filled y_isDone y_isReached y_newUnits y_isNew gi (v1 + 80) (v1 + 1) lv h_y_levels h_y_lines h_y_sides h_y_lineSpace h_gi hr222 hr223 h_lv hp224 hp225 hp226) (cwV 4 hts gX8_cell_X8_joins rfl rfl rfl (by decide +kernel) ⟨Nat.le_of_ble_eq_true rfl, Nat.le_of_ble_eq_true rfl⟩) ⟨z_blm0, va_recv hK hP (ci := 6) (q0 := 0) rfl rfl, fun U hU hW => ⟨rfl, z_m0 hK hP hD hU hW⟩⟩ rfl rfl hl.1 rfl (lv_room (Nat.le_of_ble_eq_true rfl)) dX8_cell_341 ⟨Nat.zero_le _, Nat.zero_le _⟩) hS (fun q _ h => hFc q h) hFc (fun u t H locs ht hvm hw hB hz1 hk1 hS => ?_)
              obtain ⟨c227, c228⟩ := u
              rw [ht] at hB
              have hP := hB
              have hP : va_P D vwCl [(y, .inr (6, [.ref y_space, .ref y_offset, .ref y_length, .ref ya_units, .ref y_isThere, .int (z_i y_levels), .ref y_level, .int (z_i y_lines), .ref y_lineLevel, .ref y_lineUnits, .ref y_lineFrom, .ref y_lineMany, .ref y_isClosed, .ref y_insides, .ref y_parent, .ref y_isHigh, .ref y_inBits, .int (z_i y_sides), .ref y_side, .ref y_sideA, .ref y_sideB, .int (z_i y_lineSpace), .ref y_wasThere, .ref ya_leads, .ref ya_isLed, .ref y_isOn, .ref y_goesTo, .ref y_stream, .ref y_filled, .ref y_isDone, .ref y_isReached, .ref y_newUnits, .ref y_isNew])), (ya_units, .inl (cA 1, 5120, .inl y_units)), (ya_leads, .inl (cA 1, 2560, .inl c227)), (ya_isLed, .inl (cA 3, 2560, .inl c228))] H := hP
              have hD : va_D A [(y, .inr (6, [.ref y_space, .ref y_offset, .ref y_length, .ref ya_units, .ref y_isThere, .int (z_i y_levels), .ref y_level, .int (z_i y_lines), .ref y_lineLevel, .ref y_lineUnits, .ref y_lineFrom, .ref y_lineMany, .ref y_isClosed, .ref y_insides, .ref y_parent, .ref y_isHigh, .ref y_inBits, .int (z_i y_sides), .ref y_side, .ref y_sideA, .ref y_sideB, .int (z_i y_lineSpace), .ref y_wasThere, .ref ya_leads, .ref ya_isLed, .ref y_isOn, .ref y_goesTo, .ref y_stream, .ref y_filled, .ref y_isDone, .ref y_isReached, .ref y_newUnits, .ref y_isNew])), (ya_units, .inl (cA 1, 5120, .inl y_units)), (ya_leads, .inl (cA 1, 2560, .inl c227)), (ya_isLed, .inl (cA 3, 2560, .inl c228))] := z_D_addr hD rfl
              have hv := hv c227 c228 hw
              exact W.vret hx hb hr (fun t ht hW => ⟨⟨(c227, c228), rfl, hv, z_pt hP ht⟩, hS.F ht⟩) hS.2.2 dX8_cell_344
      · have hv := hv.2 hc
        refine lv_iconst (v := z_i 1) hx hb dX8_cell_83 rfl ?_
        refine lv_goto (tgt := 88) hx hb dX8_cell_84 (by decide) ?_
        refine lv_istore (lv' := [(11, .int (z_i 1)), (10, .int (z_i 1)), (9, .int (z_i 1)), (8, .int (z_i (v1 + 3))), (7, .int (z_i (v1 + 80))), (6, .int (z_i (v1 + 1))), (5, .int (z_i v1)), (0, .ref y), (1, .int (z_i gi)), (2, .int (z_i i)), (3, .int (z_i j)), (4, .int (z_i lv))]) hx hb dX8_cell_88 hl (by decide) rfl (fun ls hl => ?_)
        refine lv_aload_n hx hb dX8_cell_90 rfl (lv_at hl 7 rfl) ?_
        refine lv_iload_n hx hb dX8_cell_91 rfl (lv_at hl 8 rfl) ?_
        refine lv_iload_n hx hb dX8_cell_92 rfl (lv_at hl 9 rfl) ?_
        refine lv_iconst (v := z_i 1) hx hb dX8_cell_93 rfl ?_
        refine lx_iadd hx hb dX8_cell_94 ?_
        refine lv_iload_n hx hb dX8_cell_95 rfl (lv_at hl 10 rfl) ?_
        refine lv_iconst (v := z_i 1) hx hb dX8_cell_96 rfl ?_
        refine lx_iadd hx hb dX8_cell_97 ?_
        obtain ⟨hp229, hv⟩ := hv
        obtain ⟨hp230, hv⟩ := hv
        obtain ⟨hp231, hv⟩ := hv
        refine va_calli (va_runV (As := [.int (z_i gi), .int (z_i (i + 1)), .int (z_i (j + 1))]) (rest := []) ⟨hx, hb, hml, hown, hts⟩ (mt_X8_h l D cA y y_space y_offset y_length ya_units y_units y_isThere y_levels y_level y_lines y_lineLevel y_lineUnits y_lineFrom y_lineMany y_isClosed y_insides y_parent y_isHigh y_inBits y_sides y_side y_sideA y_sideB y_lineSpace y_wasThere ya_leads ya_isLed y_isOn y_goesTo y_stream y_filled y_isDone y_isReached y_newUnits y_isNew gi (i + 1) (j + 1) h_y_levels h_y_lines h_y_sides h_y_lineSpace h_gi hr206 hr124 hp229 hp230 hp231) (cwV 3 hts gX8_cell_X8_h rfl rfl rfl (by decide +kernel) ⟨Nat.le_of_ble_eq_true rfl, Nat.le_of_ble_eq_true rfl⟩) ⟨z_bl0, va_recv hK hP (ci := 6) (q0 := 0) rfl rfl, fun U hU hW => ⟨rfl, z_b0 hK (hP.sub (ws' := [(y, .inr (6, [.ref y_space, .ref y_offset, .ref y_length, .ref ya_units, .ref y_isThere, .int (z_i y_levels), .ref y_level, .int (z_i y_lines), .ref y_lineLevel, .ref y_lineUnits, .ref y_lineFrom, .ref y_lineMany, .ref y_isClosed, .ref y_insides, .ref y_parent, .ref y_isHigh, .ref y_inBits, .int (z_i y_sides), .ref y_side, .ref y_sideA, .ref y_sideB, .int (z_i y_lineSpace), .ref y_wasThere, .ref ya_leads, .ref ya_isLed, .ref y_isOn, .ref y_goesTo, .ref y_stream, .ref y_filled, .ref y_isDone, .ref y_isReached, .ref y_newUnits, .ref y_isNew])), (ya_units, .inl (cA 1, 5120, .inl y_units))]) [0, 1] rfl) hU hW⟩⟩ rfl rfl hl.1 rfl (lv_room (Nat.le_of_ble_eq_true rfl)) dX8_cell_98 ⟨Nat.zero_le _, Nat.zero_le _⟩) hS (fun q _ h => h.elim) (fun q h => h.elim) (fun r0 u t H locs ht hvm hw hB hz1 hk1 hS => ?_)
        obtain ⟨r232, rfl, h_r232, hw⟩ := hw
        have hP := z_P_all hP hk1
        have hv := hv r232 h_r232 hw
        refine lv_iload hx hb dX8_cell_101 (lv_at hl 11 rfl) ?_
        refine lx_icmp_lt (tgt := 110) hx hb dX8_cell_103 (by decide) h_r232 h_lv (fun hc => ?_) (fun hc => ?_)
        · have hv := hv.1 hc
          refine lv_iconst (v := z_i 0) hx hb dX8_cell_110 rfl ?_
          refine lv_istore (lv' := [(12, .int (z_i 0)), (11, .int (z_i 1)), (10, .int (z_i 1)), (9, .int (z_i 1)), (8, .int (z_i (v1 + 3))), (7, .int (z_i (v1 + 80))), (6, .int (z_i (v1 + 1))), (5, .int (z_i v1)), (0, .ref y), (1, .int (z_i gi)), (2, .int (z_i i)), (3, .int (z_i j)), (4, .int (z_i lv))]) hx hb dX8_cell_111 hl (by decide) rfl (fun ls hl => ?_)
          refine lv_iload hx hb dX8_cell_113 (lv_at hl 3 rfl) ?_
          refine lv_iload hx hb dX8_cell_115 (lv_at hl 2 rfl) ?_
          refine lx_icmp_eq (tgt := 261) hx hb dX8_cell_117 (by decide) ⟨by decide, by decide⟩ ⟨by decide, by decide⟩ (fun _ => ?_) (fun hc => absurd hc (by decide))
          refine lv_iconst (v := z_i (-1)) hx hb dX8_cell_261 rfl ?_
          refine lv_istore (lv' := [(13, .int (z_i (-1))), (12, .int (z_i 0)), (11, .int (z_i 1)), (10, .int (z_i 1)), (9, .int (z_i 1)), (8, .int (z_i (v1 + 3))), (7, .int (z_i (v1 + 80))), (6, .int (z_i (v1 + 1))), (5, .int (z_i v1)), (0, .ref y), (1, .int (z_i gi)), (2, .int (z_i i)), (3, .int (z_i j)), (4, .int (z_i lv))]) hx hb dX8_cell_262 hl (by decide) rfl (fun ls hl => ?_)
          refine lv_iconst (v := z_i (-1)) hx hb dX8_cell_264 rfl ?_
          refine lv_istore (lv' := [(14, .int (z_i (-1))), (13, .int (z_i (-1))), (12, .int (z_i 0)), (11, .int (z_i 1)), (10, .int (z_i 1)), (9, .int (z_i 1)), (8, .int (z_i (v1 + 3))), (7, .int (z_i (v1 + 80))), (6, .int (z_i (v1 + 1))), (5, .int (z_i v1)), (0, .ref y), (1, .int (z_i gi)), (2, .int (z_i i)), (3, .int (z_i j)), (4, .int (z_i lv))]) hx hb dX8_cell_265 hl (by decide) rfl (fun ls hl => ?_)
          refine lv_iload hx hb dX8_cell_267 (lv_at hl 5 rfl) ?_
          refine lv_iload hx hb dX8_cell_269 (lv_at hl 4 rfl) ?_
          refine lx_icmp_eq (tgt := 278) hx hb dX8_cell_271 (by decide) ⟨by decide, by decide⟩ ⟨by decide, by decide⟩ (fun _ => ?_) (fun hc => absurd hc (by decide))
          refine lv_iload hx hb dX8_cell_278 (lv_at hl 5 rfl) ?_
          refine lv_iload hx hb dX8_cell_280 (lv_at hl 3 rfl) ?_
          refine lx_icmp_eq (tgt := 293) hx hb dX8_cell_282 (by decide) ⟨by decide, by decide⟩ ⟨by decide, by decide⟩ (fun _ => ?_) (fun hc => absurd hc (by decide))
          refine lv_iload hx hb dX8_cell_293 (lv_at hl 4 rfl) ?_
          refine lv_iload hx hb dX8_cell_295 (lv_at hl 2 rfl) ?_
          refine lx_icmp_eq (tgt := 308) hx hb dX8_cell_297 (by decide) ⟨by decide, by decide⟩ ⟨by decide, by decide⟩ (fun hc => absurd hc (by decide)) (fun _ => ?_)
          refine lv_iload hx hb dX8_cell_300 (lv_at hl 1 rfl) ?_
          refine lv_istore (lv' := [(14, .int (z_i (-1))), (13, .int (z_i (-1))), (12, .int (z_i 0)), (11, .int (z_i 1)), (10, .int (z_i 1)), (9, .int (z_i 1)), (8, .int (z_i (v1 + 3))), (7, .int (z_i (v1 + 80))), (6, .int (z_i (v1 + 1))), (5, .int (z_i v1)), (0, .ref y), (1, .int (z_i gi)), (2, .int (z_i i)), (3, .int (z_i j)), (4, .int (z_i lv))]) hx hb dX8_cell_302 hl (by decide) rfl (fun ls hl => ?_)
          refine lv_iload hx hb dX8_cell_304 (lv_at hl 6 rfl) ?_
          refine lv_istore (lv' := [(13, .int (z_i (v1 + 3))), (14, .int (z_i (-1))), (12, .int (z_i 0)), (11, .int (z_i 1)), (10, .int (z_i 1)), (9, .int (z_i 1)), (8, .int (z_i (v1 + 3))), (7, .int (z_i (v1 + 80))), (6, .int (z_i (v1 + 1))), (5, .int (z_i v1)), (0, .ref y), (1, .int (z_i gi)), (2, .int (z_i i)), (3, .int (z_i j)), (4, .int (z_i lv))]) hx hb dX8_cell_306 hl (by decide) rfl (fun ls hl => ?_)
          refine lv_iload hx hb dX8_cell_308 (lv_at hl 3 rfl) ?_
          refine lv_iload hx hb dX8_cell_310 (lv_at hl 2 rfl) ?_
          refine lx_icmp_eq (tgt := 323) hx hb dX8_cell_312 (by decide) ⟨by decide, by decide⟩ ⟨by decide, by decide⟩ (fun hc => absurd hc (by decide)) (fun _ => ?_)
          refine lv_iload hx hb dX8_cell_315 (lv_at hl 0 rfl) ?_
          refine lv_istore (lv' := [(14, .int (z_i (v1 + 3))), (13, .int (z_i (v1 + 3))), (12, .int (z_i 0)), (11, .int (z_i 1)), (10, .int (z_i 1)), (9, .int (z_i 1)), (8, .int (z_i (v1 + 3))), (7, .int (z_i (v1 + 80))), (6, .int (z_i (v1 + 1))), (5, .int (z_i v1)), (0, .ref y), (1, .int (z_i gi)), (2, .int (z_i i)), (3, .int (z_i j)), (4, .int (z_i lv))]) hx hb dX8_cell_317 hl (by decide) rfl (fun ls hl => ?_)
          refine lv_iload hx hb dX8_cell_319 (lv_at hl 7 rfl) ?_
          refine lv_istore (lv' := [(13, .int (z_i (v1 + 80))), (14, .int (z_i (v1 + 3))), (12, .int (z_i 0)), (11, .int (z_i 1)), (10, .int (z_i 1)), (9, .int (z_i 1)), (8, .int (z_i (v1 + 3))), (7, .int (z_i (v1 + 80))), (6, .int (z_i (v1 + 1))), (5, .int (z_i v1)), (0, .ref y), (1, .int (z_i gi)), (2, .int (z_i i)), (3, .int (z_i j)), (4, .int (z_i lv))]) hx hb dX8_cell_321 hl (by decide) rfl (fun ls hl => ?_)
          refine lv_iload hx hb dX8_cell_323 (lv_at hl 0 rfl) ?_
          obtain ⟨hr233, hv⟩ := hv
          refine lx_if_lt (tgt := 344) hx hb dX8_cell_325 (by decide) hr233 (fun hc => ?_) (fun hc => ?_)
          · have hv := hv.1 hc
            exact W.vret hx hb hr (fun t ht hW => ⟨⟨(y_leads, y_isLed), rfl, hv, z_pt hP ht⟩, hS.F ht⟩) hS.2.2 dX8_cell_344
          · have hv := hv.2 hc
            refine lv_iload hx hb dX8_cell_328 (lv_at hl 1 rfl) ?_
            obtain ⟨hr234, hv⟩ := hv
            refine lx_if_lt (tgt := 344) hx hb dX8_cell_330 (by decide) hr234 (fun hc => ?_) (fun hc => ?_)
            · have hv := hv.1 hc
              exact W.vret hx hb hr (fun t ht hW => ⟨⟨(y_leads, y_isLed), rfl, hv, z_pt hP ht⟩, hS.F ht⟩) hS.2.2 dX8_cell_344
            · have hv := hv.2 hc
              refine lv_aload_n hx hb dX8_cell_333 rfl (lv_at hl 10 rfl) ?_
              refine lv_iload_n hx hb dX8_cell_334 rfl (lv_at hl 11 rfl) ?_
              refine lv_iload hx hb dX8_cell_335 (lv_at hl 0 rfl) ?_
              refine lv_iload hx hb dX8_cell_337 (lv_at hl 1 rfl) ?_
              refine lv_iload hx hb dX8_cell_339 (lv_at hl 14 rfl) ?_
              obtain ⟨hp235, hv⟩ := hv
              obtain ⟨hp236, hv⟩ := hv
              obtain ⟨hp237, hv⟩ := hv
              have hFc := z_fr (A := A) (wc := [(y, .inr (6, [.ref y_space, .ref y_offset, .ref y_length, .ref ya_units, .ref y_isThere, .int (z_i y_levels), .ref y_level, .int (z_i y_lines), .ref y_lineLevel, .ref y_lineUnits, .ref y_lineFrom, .ref y_lineMany, .ref y_isClosed, .ref y_insides, .ref y_parent, .ref y_isHigh, .ref y_inBits, .int (z_i y_sides), .ref y_side, .ref y_sideA, .ref y_sideB, .int (z_i y_lineSpace), .ref y_wasThere, .ref ya_leads, .ref ya_isLed, .ref y_isOn, .ref y_goesTo, .ref y_stream, .ref y_filled, .ref y_isDone, .ref y_isReached, .ref y_newUnits, .ref y_isNew])), (ya_units, .inl (cA 1, 5120, .inl y_units)), (ya_leads, .inl (cA 1, 2560, .inl y_leads)), (ya_isLed, .inl (cA 3, 2560, .inl y_isLed))]) hD [0, 1, 2, 3] rfl
              refine va_callv (va_runV (As := [.int (z_i gi), .int (z_i (v1 + 80)), .int (z_i (v1 + 3)), .int (z_i lv)]) (rest := []) ⟨hx, hb, hml, hown, hts⟩ (mt_X8_joins l D cA y y_space y_offset y_length ya_units y_units y_isThere y_levels y_level y_lines y_lineLevel y_lineUnits y_lineFrom y_lineMany y_isClosed y_insides y_parent y_isHigh y_inBits y_sides y_side y_sideA y_sideB y_lineSpace y_wasThere ya_leads y_leads ya_isLed y_isLed y_isOn y_goesTo y_stream y_filled y_isDone y_isReached y_newUnits y_isNew gi (v1 + 80) (v1 + 3) lv h_y_levels h_y_lines h_y_sides h_y_lineSpace h_gi hr233 hr234 h_lv hp235 hp236 hp237) (cwV 4 hts gX8_cell_X8_joins rfl rfl rfl (by decide +kernel) ⟨Nat.le_of_ble_eq_true rfl, Nat.le_of_ble_eq_true rfl⟩) ⟨z_blm0, va_recv hK hP (ci := 6) (q0 := 0) rfl rfl, fun U hU hW => ⟨rfl, z_m0 hK hP hD hU hW⟩⟩ rfl rfl hl.1 rfl (lv_room (Nat.le_of_ble_eq_true rfl)) dX8_cell_341 ⟨Nat.zero_le _, Nat.zero_le _⟩) hS (fun q _ h => hFc q h) hFc (fun u t H locs ht hvm hw hB hz1 hk1 hS => ?_)
              obtain ⟨c238, c239⟩ := u
              rw [ht] at hB
              have hP := hB
              have hP : va_P D vwCl [(y, .inr (6, [.ref y_space, .ref y_offset, .ref y_length, .ref ya_units, .ref y_isThere, .int (z_i y_levels), .ref y_level, .int (z_i y_lines), .ref y_lineLevel, .ref y_lineUnits, .ref y_lineFrom, .ref y_lineMany, .ref y_isClosed, .ref y_insides, .ref y_parent, .ref y_isHigh, .ref y_inBits, .int (z_i y_sides), .ref y_side, .ref y_sideA, .ref y_sideB, .int (z_i y_lineSpace), .ref y_wasThere, .ref ya_leads, .ref ya_isLed, .ref y_isOn, .ref y_goesTo, .ref y_stream, .ref y_filled, .ref y_isDone, .ref y_isReached, .ref y_newUnits, .ref y_isNew])), (ya_units, .inl (cA 1, 5120, .inl y_units)), (ya_leads, .inl (cA 1, 2560, .inl c238)), (ya_isLed, .inl (cA 3, 2560, .inl c239))] H := hP
              have hD : va_D A [(y, .inr (6, [.ref y_space, .ref y_offset, .ref y_length, .ref ya_units, .ref y_isThere, .int (z_i y_levels), .ref y_level, .int (z_i y_lines), .ref y_lineLevel, .ref y_lineUnits, .ref y_lineFrom, .ref y_lineMany, .ref y_isClosed, .ref y_insides, .ref y_parent, .ref y_isHigh, .ref y_inBits, .int (z_i y_sides), .ref y_side, .ref y_sideA, .ref y_sideB, .int (z_i y_lineSpace), .ref y_wasThere, .ref ya_leads, .ref ya_isLed, .ref y_isOn, .ref y_goesTo, .ref y_stream, .ref y_filled, .ref y_isDone, .ref y_isReached, .ref y_newUnits, .ref y_isNew])), (ya_units, .inl (cA 1, 5120, .inl y_units)), (ya_leads, .inl (cA 1, 2560, .inl c238)), (ya_isLed, .inl (cA 3, 2560, .inl c239))] := z_D_addr hD rfl
              have hv := hv c238 c239 hw
              exact W.vret hx hb hr (fun t ht hW => ⟨⟨(c238, c239), rfl, hv, z_pt hP ht⟩, hS.F ht⟩) hS.2.2 dX8_cell_344
        · have hv := hv.2 hc
          refine lv_iconst (v := z_i 1) hx hb dX8_cell_106 rfl ?_
          refine lv_goto (tgt := 111) hx hb dX8_cell_107 (by decide) ?_
          refine lv_istore (lv' := [(12, .int (z_i 1)), (11, .int (z_i 1)), (10, .int (z_i 1)), (9, .int (z_i 1)), (8, .int (z_i (v1 + 3))), (7, .int (z_i (v1 + 80))), (6, .int (z_i (v1 + 1))), (5, .int (z_i v1)), (0, .ref y), (1, .int (z_i gi)), (2, .int (z_i i)), (3, .int (z_i j)), (4, .int (z_i lv))]) hx hb dX8_cell_111 hl (by decide) rfl (fun ls hl => ?_)
          refine lv_iload hx hb dX8_cell_113 (lv_at hl 3 rfl) ?_
          refine lv_iload hx hb dX8_cell_115 (lv_at hl 2 rfl) ?_
          refine lx_icmp_eq (tgt := 261) hx hb dX8_cell_117 (by decide) ⟨by decide, by decide⟩ ⟨by decide, by decide⟩ (fun _ => ?_) (fun hc => absurd hc (by decide))
          refine lv_iconst (v := z_i (-1)) hx hb dX8_cell_261 rfl ?_
          refine lv_istore (lv' := [(13, .int (z_i (-1))), (12, .int (z_i 1)), (11, .int (z_i 1)), (10, .int (z_i 1)), (9, .int (z_i 1)), (8, .int (z_i (v1 + 3))), (7, .int (z_i (v1 + 80))), (6, .int (z_i (v1 + 1))), (5, .int (z_i v1)), (0, .ref y), (1, .int (z_i gi)), (2, .int (z_i i)), (3, .int (z_i j)), (4, .int (z_i lv))]) hx hb dX8_cell_262 hl (by decide) rfl (fun ls hl => ?_)
          refine lv_iconst (v := z_i (-1)) hx hb dX8_cell_264 rfl ?_
          refine lv_istore (lv' := [(14, .int (z_i (-1))), (13, .int (z_i (-1))), (12, .int (z_i 1)), (11, .int (z_i 1)), (10, .int (z_i 1)), (9, .int (z_i 1)), (8, .int (z_i (v1 + 3))), (7, .int (z_i (v1 + 80))), (6, .int (z_i (v1 + 1))), (5, .int (z_i v1)), (0, .ref y), (1, .int (z_i gi)), (2, .int (z_i i)), (3, .int (z_i j)), (4, .int (z_i lv))]) hx hb dX8_cell_265 hl (by decide) rfl (fun ls hl => ?_)
          refine lv_iload hx hb dX8_cell_267 (lv_at hl 5 rfl) ?_
          refine lv_iload hx hb dX8_cell_269 (lv_at hl 4 rfl) ?_
          refine lx_icmp_eq (tgt := 278) hx hb dX8_cell_271 (by decide) ⟨by decide, by decide⟩ ⟨by decide, by decide⟩ (fun _ => ?_) (fun hc => absurd hc (by decide))
          refine lv_iload hx hb dX8_cell_278 (lv_at hl 5 rfl) ?_
          refine lv_iload hx hb dX8_cell_280 (lv_at hl 3 rfl) ?_
          refine lx_icmp_eq (tgt := 293) hx hb dX8_cell_282 (by decide) ⟨by decide, by decide⟩ ⟨by decide, by decide⟩ (fun _ => ?_) (fun hc => absurd hc (by decide))
          refine lv_iload hx hb dX8_cell_293 (lv_at hl 4 rfl) ?_
          refine lv_iload hx hb dX8_cell_295 (lv_at hl 2 rfl) ?_
          refine lx_icmp_eq (tgt := 308) hx hb dX8_cell_297 (by decide) ⟨by decide, by decide⟩ ⟨by decide, by decide⟩ (fun _ => ?_) (fun hc => absurd hc (by decide))
          refine lv_iload hx hb dX8_cell_308 (lv_at hl 3 rfl) ?_
          refine lv_iload hx hb dX8_cell_310 (lv_at hl 2 rfl) ?_
          refine lx_icmp_eq (tgt := 323) hx hb dX8_cell_312 (by decide) ⟨by decide, by decide⟩ ⟨by decide, by decide⟩ (fun _ => ?_) (fun hc => absurd hc (by decide))
          refine lv_iload hx hb dX8_cell_323 (lv_at hl 1 rfl) ?_
          refine lx_if_lt (tgt := 344) hx hb dX8_cell_325 (by decide) ⟨by decide, by decide⟩ (fun _ => ?_) (fun hc => absurd hc (by decide))
          exact W.vret hx hb hr (fun t ht hW => ⟨⟨(y_leads, y_isLed), rfl, hv, z_pt hP ht⟩, hS.F ht⟩) hS.2.2 dX8_cell_344
set_option maxHeartbeats 4000000 in
set_option maxRecDepth 100000 in
theorem mt_X8_cell (l : Launch) (D : va_G) (cA : Nat → ClassId) (y : Nat) (y_space : Nat) (y_offset : Nat) (y_length : Nat) (ya_units : Nat) (y_units : Nat → Int32) (y_isThere : Nat) (y_levels : Int) (y_level : Nat) (y_lines : Int) (y_lineLevel : Nat) (y_lineUnits : Nat) (y_lineFrom : Nat) (y_lineMany : Nat) (y_isClosed : Nat) (y_insides : Nat) (y_parent : Nat) (y_isHigh : Nat) (y_inBits : Nat) (y_sides : Int) (y_side : Nat) (y_sideA : Nat) (y_sideB : Nat) (y_lineSpace : Int) (y_wasThere : Nat) (ya_leads : Nat) (y_leads : Nat → Int32) (ya_isLed : Nat) (y_isLed : Nat → Int32) (y_isOn : Nat) (y_goesTo : Nat) (y_stream : Nat) (y_filled : Nat) (y_isDone : Nat) (y_isReached : Nat) (y_newUnits : Nat) (y_isNew : Nat) (gi : Int) (i : Int) (j : Int) (lv : Int) (h_y_levels : z_in y_levels) (h_y_lines : z_in y_lines) (h_y_sides : z_in y_sides) (h_y_lineSpace : z_in y_lineSpace) (h_gi : z_in gi) (h_i : z_in i) (h_j : z_in j) (h_lv : z_in lv) (hp1 : 0 ≤ gi ∧ gi < 4) (hp2 : 0 ≤ i ∧ i < 31) (hp3 : 0 ≤ j ∧ j < 39) : Met l yX8_cell wsX8_cell ({ frames := 3, cells := 0, slots := 0, locals := 81 } : Room) (va_Pc [.ref y, .int (z_i gi), .int (z_i i), .int (z_i j), .int (z_i lv)] (z_M0 D cA [(y, .inr (6, [.ref y_space, .ref y_offset, .ref y_length, .ref ya_units, .ref y_isThere, .int (z_i y_levels), .ref y_level, .int (z_i y_lines), .ref y_lineLevel, .ref y_lineUnits, .ref y_lineFrom, .ref y_lineMany, .ref y_isClosed, .ref y_insides, .ref y_parent, .ref y_isHigh, .ref y_inBits, .int (z_i y_sides), .ref y_side, .ref y_sideA, .ref y_sideB, .int (z_i y_lineSpace), .ref y_wasThere, .ref ya_leads, .ref ya_isLed, .ref y_isOn, .ref y_goesTo, .ref y_stream, .ref y_filled, .ref y_isDone, .ref y_isReached, .ref y_newUnits, .ref y_isNew])), (ya_units, .inl (cA 1, 5120, .inl y_units)), (ya_leads, .inl (cA 1, 2560, .inl y_leads)), (ya_isLed, .inl (cA 3, 2560, .inl y_isLed))])) (va_Qv (fun (u : (Nat → Int32) × (Nat → Int32)) => (fun (y_leads' : (Nat → Int32)) (y_isLed' : (Nat → Int32)) => y_leads' = c_nxK (c_mk (fun q => z_g y_units (1280 * gi + q)) lv (40 * i + j) 4) (c_rl (fun q => z_g y_units (1280 * gi + q)) lv (40 * i + j)) (40 * i + j) y_leads 4 ∧ y_isLed' = c_ldK (c_mk (fun q => z_g y_units (1280 * gi + q)) lv (40 * i + j) 4) (c_rl (fun q => z_g y_units (1280 * gi + q)) lv (40 * i + j)) (40 * i + j) y_isLed 4) u.1 u.2) (fun (u : (Nat → Int32) × (Nat → Int32)) t => va_P D vwCl [(y, .inr (6, [.ref y_space, .ref y_offset, .ref y_length, .ref ya_units, .ref y_isThere, .int (z_i y_levels), .ref y_level, .int (z_i y_lines), .ref y_lineLevel, .ref y_lineUnits, .ref y_lineFrom, .ref y_lineMany, .ref y_isClosed, .ref y_insides, .ref y_parent, .ref y_isHigh, .ref y_inBits, .int (z_i y_sides), .ref y_side, .ref y_sideA, .ref y_sideB, .int (z_i y_lineSpace), .ref y_wasThere, .ref ya_leads, .ref ya_isLed, .ref y_isOn, .ref y_goesTo, .ref y_stream, .ref y_filled, .ref y_isDone, .ref y_isReached, .ref y_newUnits, .ref y_isNew])), (ya_units, .inl (cA 1, 5120, .inl y_units)), (ya_leads, .inl (cA 1, 2560, .inl u.1)), (ya_isLed, .inl (cA 3, 2560, .inl u.2))] t.heap) (z_A [(y, .inr (6, [.ref y_space, .ref y_offset, .ref y_length, .ref ya_units, .ref y_isThere, .int (z_i y_levels), .ref y_level, .int (z_i y_lines), .ref y_lineLevel, .ref y_lineUnits, .ref y_lineFrom, .ref y_lineMany, .ref y_isClosed, .ref y_insides, .ref y_parent, .ref y_isHigh, .ref y_inBits, .int (z_i y_sides), .ref y_side, .ref y_sideA, .ref y_sideB, .int (z_i y_lineSpace), .ref y_wasThere, .ref ya_leads, .ref ya_isLed, .ref y_isOn, .ref y_goesTo, .ref y_stream, .ref y_filled, .ref y_isDone, .ref y_isReached, .ref y_newUnits, .ref y_isNew])), (ya_units, .inl (cA 1, 5120, .inl y_units)), (ya_leads, .inl (cA 1, 2560, .inl y_leads)), (ya_isLed, .inl (cA 3, 2560, .inl y_isLed))])) 0 0 (z_A [(y, .inr (6, [.ref y_space, .ref y_offset, .ref y_length, .ref ya_units, .ref y_isThere, .int (z_i y_levels), .ref y_level, .int (z_i y_lines), .ref y_lineLevel, .ref y_lineUnits, .ref y_lineFrom, .ref y_lineMany, .ref y_isClosed, .ref y_insides, .ref y_parent, .ref y_isHigh, .ref y_inBits, .int (z_i y_sides), .ref y_side, .ref y_sideA, .ref y_sideB, .int (z_i y_lineSpace), .ref y_wasThere, .ref ya_leads, .ref ya_isLed, .ref y_isOn, .ref y_goesTo, .ref y_stream, .ref y_filled, .ref y_isDone, .ref y_isReached, .ref y_newUnits, .ref y_isNew])), (ya_units, .inl (cA 1, 5120, .inl y_units)), (ya_leads, .inl (cA 1, 2560, .inl y_leads)), (ya_isLed, .inl (cA 3, 2560, .inl y_isLed))]) := by
  refine wk_X8_cell l D cA y y_space y_offset y_length ya_units y_units y_isThere y_levels y_level y_lines y_lineLevel y_lineUnits y_lineFrom y_lineMany y_isClosed y_insides y_parent y_isHigh y_inBits y_sides y_side y_sideA y_sideB y_lineSpace y_wasThere ya_leads y_leads ya_isLed y_isLed y_isOn y_goesTo y_stream y_filled y_isDone y_isReached y_newUnits y_isNew gi i j lv h_y_levels h_y_lines h_y_sides h_y_lineSpace h_gi h_i h_j h_lv (fun (y_leads' : (Nat → Int32)) (y_isLed' : (Nat → Int32)) => y_leads' = c_nxK (c_mk (fun q => z_g y_units (1280 * gi + q)) lv (40 * i + j) 4) (c_rl (fun q => z_g y_units (1280 * gi + q)) lv (40 * i + j)) (40 * i + j) y_leads 4 ∧ y_isLed' = c_ldK (c_mk (fun q => z_g y_units (1280 * gi + q)) lv (40 * i + j) 4) (c_rl (fun q => z_g y_units (1280 * gi + q)) lv (40 * i + j)) (40 * i + j) y_isLed 4) ?_
  unfold vc_X8_cell
  have hn0 : 0 ≤ 40 * i + j ∧ 40 * i + j < 1240 := ⟨by omega, by omega⟩
  refine ⟨⟨by omega, by omega⟩, ?_⟩
  rintro v1 rfl
  refine ⟨hp1, ⟨by omega, by omega⟩, ⟨by omega, by omega⟩, ?_⟩
  rintro r7 _ e7
  have eA : z_g y_units (1280 * gi + (40 * i + j)) = r7 := by rw [e7]
  refine ⟨fun qA => ?_, fun qA => ?_⟩
  · have hA : n_hi (fun q => z_g y_units (1280 * gi + q)) lv (40 * i + j) = false := n_hi_n (v := _) eA qA
    refine ⟨⟨by omega, by omega⟩, hp1, ⟨by omega, by omega⟩, ⟨by omega, by omega⟩, ?_⟩
    rintro r12 _ e12
    have eB : z_g y_units (1280 * gi + (40 * i + j + 1)) = r12 := by rw [e12, show 40 * i + j + 1 = 40 * i + (j + 1) by omega]
    refine ⟨fun qB => ?_, fun qB => ?_⟩
    · have hB : n_hi (fun q => z_g y_units (1280 * gi + q)) lv (40 * i + j + 1) = false := n_hi_n (v := _) eB qB
      refine ⟨⟨by omega, by omega⟩, hp1, ⟨by omega, by omega⟩, ⟨by omega, by omega⟩, ?_⟩
      rintro r17 _ e17
      have eC : z_g y_units (1280 * gi + (40 * i + j + 40)) = r17 := by rw [e17, show 40 * i + j + 40 = 40 * (i + 1) + j by omega]
      refine ⟨fun qC => ?_, fun qC => ?_⟩
      · have hC : n_hi (fun q => z_g y_units (1280 * gi + q)) lv (40 * i + j + 40) = false := n_hi_n (v := _) eC qC
        refine ⟨hp1, ⟨by omega, by omega⟩, ⟨by omega, by omega⟩, ?_⟩
        rintro r21 _ e21
        have eD : z_g y_units (1280 * gi + (40 * i + j + 40 + 1)) = r21 := by rw [e21, show 40 * i + j + 40 + 1 = 40 * (i + 1) + (j + 1) by omega]
        refine ⟨fun qD => ?_, fun qD => ?_⟩
        · have hD : n_hi (fun q => z_g y_units (1280 * gi + q)) lv (40 * i + j + 40 + 1) = false := n_hi_n (v := _) eD qD
          have hm : c_mk (fun q => z_g y_units (1280 * gi + q)) lv (40 * i + j) 4 = 0 := by rw [c_mk_v, hA, hB, hC, hD]; decide
          rw [hm]
          exact c_nx_0 (by decide +kernel) (by decide +kernel) (by decide +kernel) (by decide +kernel)
        · have hD : n_hi (fun q => z_g y_units (1280 * gi + q)) lv (40 * i + j + 40 + 1) = true := n_hi_y (v := _) eD qD
          refine ⟨⟨by omega, by omega⟩, fun h => absurd h (by omega), fun _ => ⟨⟨by omega, by omega⟩, fun h => absurd h (by omega), fun _ => ⟨hp1, ⟨by omega, by omega⟩, ⟨by omega, by omega⟩, ?_⟩⟩⟩
          rintro c1 c2 ⟨k1, k2⟩
          have ee : e_lf (fun q => z_g y_units (1280 * gi + q)) lv (2 * (40 * i + j) + 80) (2 * (40 * i + j) + 3) = true := by
            rw [(e_lf_e (show (2 * (40 * i + j) + 80) % 2 = 0 by omega)).2 (by rw [show (2 * (40 * i + j) + 80) / 2 = 40 * i + j + 40 by omega]; exact hC), e_my_o (show (2 * (40 * i + j) + 3) % 2 = 1 by omega), e_my_e (show (2 * (40 * i + j) + 80) % 2 = 0 by omega)]
            exact decide_eq_true (by omega)
          obtain ⟨rfl, rfl⟩ := k1 ee
          have hm : c_mk (fun q => z_g y_units (1280 * gi + q)) lv (40 * i + j) 4 = 4 := by rw [c_mk_v, hA, hB, hC, hD]; decide
          have tb := c_nx_k (m := 4) (rl := c_rl (fun q => z_g y_units (1280 * gi + q)) lv (40 * i + j)) (n := 40 * i + j) (f := y_leads) (g := y_isLed) (b0 := false) (b1 := false) (b2 := true) (b3 := false) (by decide +kernel) (by decide +kernel) (by decide +kernel) (by decide +kernel)
          rw [hm, tb.1, tb.2]
          have w : c_wo 4 2 (c_rl (fun q => z_g y_units (1280 * gi + q)) lv (40 * i + j)) = 1 := by rcases c_rl_01 (fun q => z_g y_units (1280 * gi + q)) lv (40 * i + j) with h | h <;> rw [h] <;> decide +kernel
          have s1 : c_sd (40 * i + j) 2 = 2 * (40 * i + j) + 80 := by rw [c_sd_2]; omega
          have s2 : c_sd (40 * i + j) 1 = 2 * (40 * i + j) + 3 := by rw [c_sd_1]; omega
          show _ = z_s y_leads (c_sd (40 * i + j) 2) (c_sd (40 * i + j) (c_wo 4 2 (c_rl (fun q => z_g y_units (1280 * gi + q)) lv (40 * i + j)))) ∧ _ = z_s y_isLed (c_sd (40 * i + j) (c_wo 4 2 (c_rl (fun q => z_g y_units (1280 * gi + q)) lv (40 * i + j)))) 1
          rw [w, s1, s2]
          exact ⟨rfl, rfl⟩
      · have hC : n_hi (fun q => z_g y_units (1280 * gi + q)) lv (40 * i + j + 40) = true := n_hi_y (v := _) eC qC
        refine ⟨hp1, ⟨by omega, by omega⟩, ⟨by omega, by omega⟩, ?_⟩
        rintro r21 _ e21
        have eD : z_g y_units (1280 * gi + (40 * i + j + 40 + 1)) = r21 := by rw [e21, show 40 * i + j + 40 + 1 = 40 * (i + 1) + (j + 1) by omega]
        refine ⟨fun qD => ?_, fun qD => ?_⟩
        · have hD : n_hi (fun q => z_g y_units (1280 * gi + q)) lv (40 * i + j + 40 + 1) = false := n_hi_n (v := _) eD qD
          refine ⟨⟨by omega, by omega⟩, fun h => absurd h (by omega), fun _ => ⟨⟨by omega, by omega⟩, fun h => absurd h (by omega), fun _ => ⟨hp1, ⟨by omega, by omega⟩, ⟨by omega, by omega⟩, ?_⟩⟩⟩
          rintro c1 c2 ⟨k1, k2⟩
          have ee : e_lf (fun q => z_g y_units (1280 * gi + q)) lv (2 * (40 * i + j) + 80) (2 * (40 * i + j) + 1) = false := by
            rw [(e_lf_e (show (2 * (40 * i + j) + 80) % 2 = 0 by omega)).1 (by rw [show (2 * (40 * i + j) + 80) / 2 = 40 * i + j + 40 by omega]; exact hC), e_my_o (show (2 * (40 * i + j) + 1) % 2 = 1 by omega), e_my_e (show (2 * (40 * i + j) + 80) % 2 = 0 by omega)]
            exact decide_eq_false (by omega)
          obtain ⟨rfl, rfl⟩ := k2 (by rw [ee]; decide)
          have hm : c_mk (fun q => z_g y_units (1280 * gi + q)) lv (40 * i + j) 4 = 8 := by rw [c_mk_v, hA, hB, hC, hD]; decide
          have tb := c_nx_k (m := 8) (rl := c_rl (fun q => z_g y_units (1280 * gi + q)) lv (40 * i + j)) (n := 40 * i + j) (f := y_leads) (g := y_isLed) (b0 := false) (b1 := false) (b2 := false) (b3 := true) (by decide +kernel) (by decide +kernel) (by decide +kernel) (by decide +kernel)
          rw [hm, tb.1, tb.2]
          have w : c_wo 8 3 (c_rl (fun q => z_g y_units (1280 * gi + q)) lv (40 * i + j)) = 2 := by rcases c_rl_01 (fun q => z_g y_units (1280 * gi + q)) lv (40 * i + j) with h | h <;> rw [h] <;> decide +kernel
          have s1 : c_sd (40 * i + j) 3 = 2 * (40 * i + j) + 1 := by rw [c_sd_3]
          have s2 : c_sd (40 * i + j) 2 = 2 * (40 * i + j) + 80 := by rw [c_sd_2]; omega
          show _ = z_s y_leads (c_sd (40 * i + j) 3) (c_sd (40 * i + j) (c_wo 8 3 (c_rl (fun q => z_g y_units (1280 * gi + q)) lv (40 * i + j)))) ∧ _ = z_s y_isLed (c_sd (40 * i + j) (c_wo 8 3 (c_rl (fun q => z_g y_units (1280 * gi + q)) lv (40 * i + j)))) 1
          rw [w, s1, s2]
          exact ⟨rfl, rfl⟩
        · have hD : n_hi (fun q => z_g y_units (1280 * gi + q)) lv (40 * i + j + 40 + 1) = true := n_hi_y (v := _) eD qD
          refine ⟨⟨by omega, by omega⟩, fun h => absurd h (by omega), fun _ => ⟨⟨by omega, by omega⟩, fun h => absurd h (by omega), fun _ => ⟨hp1, ⟨by omega, by omega⟩, ⟨by omega, by omega⟩, ?_⟩⟩⟩
          rintro c1 c2 ⟨k1, k2⟩
          have ee : e_lf (fun q => z_g y_units (1280 * gi + q)) lv (2 * (40 * i + j) + 3) (2 * (40 * i + j) + 1) = false := by
            rw [(e_lf_o (show (2 * (40 * i + j) + 3) % 2 = 1 by omega)).2 (by rw [show (2 * (40 * i + j) + 3) / 2 = 40 * i + j + 1 by omega]; exact hB), e_mx_o (show (2 * (40 * i + j) + 1) % 2 = 1 by omega), e_mx_o (show (2 * (40 * i + j) + 3) % 2 = 1 by omega)]
            exact decide_eq_false (by omega)
          obtain ⟨rfl, rfl⟩ := k2 (by rw [ee]; decide)
          have hm : c_mk (fun q => z_g y_units (1280 * gi + q)) lv (40 * i + j) 4 = 12 := by rw [c_mk_v, hA, hB, hC, hD]; decide
          have tb := c_nx_k (m := 12) (rl := c_rl (fun q => z_g y_units (1280 * gi + q)) lv (40 * i + j)) (n := 40 * i + j) (f := y_leads) (g := y_isLed) (b0 := false) (b1 := false) (b2 := false) (b3 := true) (by decide +kernel) (by decide +kernel) (by decide +kernel) (by decide +kernel)
          rw [hm, tb.1, tb.2]
          have w : c_wo 12 3 (c_rl (fun q => z_g y_units (1280 * gi + q)) lv (40 * i + j)) = 1 := by rcases c_rl_01 (fun q => z_g y_units (1280 * gi + q)) lv (40 * i + j) with h | h <;> rw [h] <;> decide +kernel
          have s1 : c_sd (40 * i + j) 3 = 2 * (40 * i + j) + 1 := by rw [c_sd_3]
          have s2 : c_sd (40 * i + j) 1 = 2 * (40 * i + j) + 3 := by rw [c_sd_1]; omega
          show _ = z_s y_leads (c_sd (40 * i + j) 3) (c_sd (40 * i + j) (c_wo 12 3 (c_rl (fun q => z_g y_units (1280 * gi + q)) lv (40 * i + j)))) ∧ _ = z_s y_isLed (c_sd (40 * i + j) (c_wo 12 3 (c_rl (fun q => z_g y_units (1280 * gi + q)) lv (40 * i + j)))) 1
          rw [w, s1, s2]
          exact ⟨rfl, rfl⟩
    · have hB : n_hi (fun q => z_g y_units (1280 * gi + q)) lv (40 * i + j + 1) = true := n_hi_y (v := _) eB qB
      refine ⟨⟨by omega, by omega⟩, hp1, ⟨by omega, by omega⟩, ⟨by omega, by omega⟩, ?_⟩
      rintro r17 _ e17
      have eC : z_g y_units (1280 * gi + (40 * i + j + 40)) = r17 := by rw [e17, show 40 * i + j + 40 = 40 * (i + 1) + j by omega]
      refine ⟨fun qC => ?_, fun qC => ?_⟩
      · have hC : n_hi (fun q => z_g y_units (1280 * gi + q)) lv (40 * i + j + 40) = false := n_hi_n (v := _) eC qC
        refine ⟨hp1, ⟨by omega, by omega⟩, ⟨by omega, by omega⟩, ?_⟩
        rintro r21 _ e21
        have eD : z_g y_units (1280 * gi + (40 * i + j + 40 + 1)) = r21 := by rw [e21, show 40 * i + j + 40 + 1 = 40 * (i + 1) + (j + 1) by omega]
        refine ⟨fun qD => ?_, fun qD => ?_⟩
        · have hD : n_hi (fun q => z_g y_units (1280 * gi + q)) lv (40 * i + j + 40 + 1) = false := n_hi_n (v := _) eD qD
          refine ⟨⟨by omega, by omega⟩, fun h => absurd h (by omega), fun _ => ⟨fun h => absurd h (by omega), fun _ => ⟨hp1, ⟨by omega, by omega⟩, ⟨by omega, by omega⟩, ?_⟩⟩⟩
          rintro c1 c2 ⟨k1, k2⟩
          have ee : e_lf (fun q => z_g y_units (1280 * gi + q)) lv (2 * (40 * i + j) + 3) (2 * (40 * i + j)) = true := by
            rw [(e_lf_o (show (2 * (40 * i + j) + 3) % 2 = 1 by omega)).1 (by rw [show (2 * (40 * i + j) + 3) / 2 = 40 * i + j + 1 by omega]; exact hB), e_mx_e (show (2 * (40 * i + j)) % 2 = 0 by omega), e_mx_o (show (2 * (40 * i + j) + 3) % 2 = 1 by omega)]
            exact decide_eq_true (by omega)
          obtain ⟨rfl, rfl⟩ := k1 ee
          have hm : c_mk (fun q => z_g y_units (1280 * gi + q)) lv (40 * i + j) 4 = 2 := by rw [c_mk_v, hA, hB, hC, hD]; decide
          have tb := c_nx_k (m := 2) (rl := c_rl (fun q => z_g y_units (1280 * gi + q)) lv (40 * i + j)) (n := 40 * i + j) (f := y_leads) (g := y_isLed) (b0 := false) (b1 := true) (b2 := false) (b3 := false) (by decide +kernel) (by decide +kernel) (by decide +kernel) (by decide +kernel)
          rw [hm, tb.1, tb.2]
          have w : c_wo 2 1 (c_rl (fun q => z_g y_units (1280 * gi + q)) lv (40 * i + j)) = 0 := by rcases c_rl_01 (fun q => z_g y_units (1280 * gi + q)) lv (40 * i + j) with h | h <;> rw [h] <;> decide +kernel
          have s1 : c_sd (40 * i + j) 1 = 2 * (40 * i + j) + 3 := by rw [c_sd_1]; omega
          have s2 : c_sd (40 * i + j) 0 = 2 * (40 * i + j) := by rw [c_sd_0]
          show _ = z_s y_leads (c_sd (40 * i + j) 1) (c_sd (40 * i + j) (c_wo 2 1 (c_rl (fun q => z_g y_units (1280 * gi + q)) lv (40 * i + j)))) ∧ _ = z_s y_isLed (c_sd (40 * i + j) (c_wo 2 1 (c_rl (fun q => z_g y_units (1280 * gi + q)) lv (40 * i + j)))) 1
          rw [w, s1, s2]
          exact ⟨rfl, rfl⟩
        · have hD : n_hi (fun q => z_g y_units (1280 * gi + q)) lv (40 * i + j + 40 + 1) = true := n_hi_y (v := _) eD qD
          refine ⟨⟨by omega, by omega⟩, fun h => absurd h (by omega), fun _ => ⟨fun h => absurd h (by omega), fun _ => ⟨hp1, ⟨by omega, by omega⟩, ⟨by omega, by omega⟩, ?_⟩⟩⟩
          rintro c1 c2 ⟨k1, k2⟩
          have ee : e_lf (fun q => z_g y_units (1280 * gi + q)) lv (2 * (40 * i + j) + 80) (2 * (40 * i + j)) = true := by
            rw [(e_lf_e (show (2 * (40 * i + j) + 80) % 2 = 0 by omega)).2 (by rw [show (2 * (40 * i + j) + 80) / 2 = 40 * i + j + 40 by omega]; exact hC), e_my_e (show (2 * (40 * i + j)) % 2 = 0 by omega), e_my_e (show (2 * (40 * i + j) + 80) % 2 = 0 by omega)]
            exact decide_eq_true (by omega)
          obtain ⟨rfl, rfl⟩ := k1 ee
          have hm : c_mk (fun q => z_g y_units (1280 * gi + q)) lv (40 * i + j) 4 = 6 := by rw [c_mk_v, hA, hB, hC, hD]; decide
          have tb := c_nx_k (m := 6) (rl := c_rl (fun q => z_g y_units (1280 * gi + q)) lv (40 * i + j)) (n := 40 * i + j) (f := y_leads) (g := y_isLed) (b0 := false) (b1 := false) (b2 := true) (b3 := false) (by decide +kernel) (by decide +kernel) (by decide +kernel) (by decide +kernel)
          rw [hm, tb.1, tb.2]
          have w : c_wo 6 2 (c_rl (fun q => z_g y_units (1280 * gi + q)) lv (40 * i + j)) = 0 := by rcases c_rl_01 (fun q => z_g y_units (1280 * gi + q)) lv (40 * i + j) with h | h <;> rw [h] <;> decide +kernel
          have s1 : c_sd (40 * i + j) 2 = 2 * (40 * i + j) + 80 := by rw [c_sd_2]; omega
          have s2 : c_sd (40 * i + j) 0 = 2 * (40 * i + j) := by rw [c_sd_0]
          show _ = z_s y_leads (c_sd (40 * i + j) 2) (c_sd (40 * i + j) (c_wo 6 2 (c_rl (fun q => z_g y_units (1280 * gi + q)) lv (40 * i + j)))) ∧ _ = z_s y_isLed (c_sd (40 * i + j) (c_wo 6 2 (c_rl (fun q => z_g y_units (1280 * gi + q)) lv (40 * i + j)))) 1
          rw [w, s1, s2]
          exact ⟨rfl, rfl⟩
      · have hC : n_hi (fun q => z_g y_units (1280 * gi + q)) lv (40 * i + j + 40) = true := n_hi_y (v := _) eC qC
        refine ⟨hp1, ⟨by omega, by omega⟩, ⟨by omega, by omega⟩, ?_⟩
        rintro r21 _ e21
        have eD : z_g y_units (1280 * gi + (40 * i + j + 40 + 1)) = r21 := by rw [e21, show 40 * i + j + 40 + 1 = 40 * (i + 1) + (j + 1) by omega]
        refine ⟨fun qD => ?_, fun qD => ?_⟩
        · have hD : n_hi (fun q => z_g y_units (1280 * gi + q)) lv (40 * i + j + 40 + 1) = false := n_hi_n (v := _) eD qD
          refine ⟨hp1, ⟨by omega, by omega⟩, ⟨by omega, by omega⟩, ?_⟩
          rintro r75 z75 e75
          refine ⟨hp1, ⟨by omega, by omega⟩, ⟨by omega, by omega⟩, ?_⟩
          rintro r79 z79 e79
          refine ⟨hp1, ⟨by omega, by omega⟩, ⟨by omega, by omega⟩, ?_⟩
          rintro r83 z83 e83
          refine ⟨hp1, ⟨by omega, by omega⟩, ⟨by omega, by omega⟩, ?_⟩
          rintro r87 z87 e87
          have f1 : r75 = r7 := by rw [e75, e7]
          have f2 : r79 = r12 := by rw [e79, e12]
          have f3 : r83 = r17 := by rw [e83, e17]
          have f4 : r87 = r21 := by rw [e87, e21]
          obtain ⟨za1, za2⟩ := z75
          obtain ⟨zb1, zb2⟩ := z79
          obtain ⟨zc1, zc2⟩ := z83
          obtain ⟨zd1, zd2⟩ := z87
          obtain ⟨zl1, zl2⟩ := h_lv
          refine ⟨⟨by omega, by omega⟩, ?_⟩
          rintro v88 rfl
          refine ⟨⟨by omega, by omega⟩, fun qL => ?_, fun qL => ?_⟩
          · refine ⟨⟨by omega, by omega⟩, hp1, ⟨by omega, by omega⟩, ⟨by omega, by omega⟩, ?_⟩
            rintro c1 c2 ⟨k1, k2⟩
            have e1 : e_lf (fun q => z_g y_units (1280 * gi + q)) lv (2 * (40 * i + j)) (2 * (40 * i + j) + 3) = false := by
              rw [(e_lf_e (show (2 * (40 * i + j)) % 2 = 0 by omega)).2 (by rw [show (2 * (40 * i + j)) / 2 = 40 * i + j by omega]; exact hA), e_my_o (show (2 * (40 * i + j) + 3) % 2 = 1 by omega), e_my_e (show (2 * (40 * i + j)) % 2 = 0 by omega)]
              exact decide_eq_false (by omega)
            obtain ⟨rfl, rfl⟩ := k2 (by rw [e1]; decide)
            refine ⟨⟨by omega, by omega⟩, ⟨by omega, by omega⟩, hp1, ⟨by omega, by omega⟩, ⟨by omega, by omega⟩, ?_⟩
            rintro c3 c4 ⟨k3, k4⟩
            have e2 : e_lf (fun q => z_g y_units (1280 * gi + q)) lv (2 * (40 * i + j) + 1) (2 * (40 * i + j) + 80) = true := by
              rw [(e_lf_o (show (2 * (40 * i + j) + 1) % 2 = 1 by omega)).2 (by rw [show (2 * (40 * i + j) + 1) / 2 = 40 * i + j by omega]; exact hA), e_mx_e (show (2 * (40 * i + j) + 80) % 2 = 0 by omega), e_mx_o (show (2 * (40 * i + j) + 1) % 2 = 1 by omega)]
              exact decide_eq_true (by omega)
            obtain ⟨rfl, rfl⟩ := k3 e2
            have hm : c_mk (fun q => z_g y_units (1280 * gi + q)) lv (40 * i + j) 4 = 10 := by rw [c_mk_v, hA, hB, hC, hD]; decide
            have hr : c_rl (fun q => z_g y_units (1280 * gi + q)) lv (40 * i + j) = 0 := by unfold c_rl; rw [decide_eq_false (show ¬ z_g y_units (1280 * gi + (40 * i + j)) + z_g y_units (1280 * gi + (40 * i + j + 1)) + z_g y_units (1280 * gi + (40 * i + j + 40)) + z_g y_units (1280 * gi + (40 * i + j + 40 + 1)) ≥ 4 * lv by omega)]; rfl
            have tb := c_nx_k (m := 10) (rl := c_rl (fun q => z_g y_units (1280 * gi + q)) lv (40 * i + j)) (n := 40 * i + j) (f := y_leads) (g := y_isLed) (b0 := false) (b1 := true) (b2 := false) (b3 := true) (by decide +kernel) (by decide +kernel) (by decide +kernel) (by decide +kernel)
            rw [hm, tb.1, tb.2, hr]
            have w1 : c_wo 10 1 0 = 0 := by decide +kernel
            have w2 : c_wo 10 3 0 = 2 := by decide +kernel
            have s0 : c_sd (40 * i + j) 0 = 2 * (40 * i + j) := by rw [c_sd_0]
            have s1 : c_sd (40 * i + j) 1 = 2 * (40 * i + j) + 3 := by rw [c_sd_1]; omega
            have s2 : c_sd (40 * i + j) 2 = 2 * (40 * i + j) + 80 := by rw [c_sd_2]; omega
            have s3 : c_sd (40 * i + j) 3 = 2 * (40 * i + j) + 1 := by rw [c_sd_3]
            show _ = z_s (z_s y_leads (c_sd (40 * i + j) 1) (c_sd (40 * i + j) (c_wo 10 1 0))) (c_sd (40 * i + j) 3) (c_sd (40 * i + j) (c_wo 10 3 0)) ∧ _ = z_s (z_s y_isLed (c_sd (40 * i + j) (c_wo 10 1 0)) 1) (c_sd (40 * i + j) (c_wo 10 3 0)) 1
            rw [w1, w2, s0, s1, s2, s3]
            exact ⟨rfl, rfl⟩
          · refine ⟨⟨by omega, by omega⟩, hp1, ⟨by omega, by omega⟩, ⟨by omega, by omega⟩, ?_⟩
            rintro c1 c2 ⟨k1, k2⟩
            have e1 : e_lf (fun q => z_g y_units (1280 * gi + q)) lv (2 * (40 * i + j)) (2 * (40 * i + j) + 1) = false := by
              rw [(e_lf_e (show (2 * (40 * i + j)) % 2 = 0 by omega)).2 (by rw [show (2 * (40 * i + j)) / 2 = 40 * i + j by omega]; exact hA), e_my_o (show (2 * (40 * i + j) + 1) % 2 = 1 by omega), e_my_e (show (2 * (40 * i + j)) % 2 = 0 by omega)]
              exact decide_eq_false (by omega)
            obtain ⟨rfl, rfl⟩ := k2 (by rw [e1]; decide)
            refine ⟨⟨by omega, by omega⟩, ⟨by omega, by omega⟩, hp1, ⟨by omega, by omega⟩, ⟨by omega, by omega⟩, ?_⟩
            rintro c3 c4 ⟨k3, k4⟩
            have e2 : e_lf (fun q => z_g y_units (1280 * gi + q)) lv (2 * (40 * i + j) + 3) (2 * (40 * i + j) + 80) = true := by
              rw [(e_lf_o (show (2 * (40 * i + j) + 3) % 2 = 1 by omega)).1 (by rw [show (2 * (40 * i + j) + 3) / 2 = 40 * i + j + 1 by omega]; exact hB), e_mx_e (show (2 * (40 * i + j) + 80) % 2 = 0 by omega), e_mx_o (show (2 * (40 * i + j) + 3) % 2 = 1 by omega)]
              exact decide_eq_true (by omega)
            obtain ⟨rfl, rfl⟩ := k3 e2
            have hm : c_mk (fun q => z_g y_units (1280 * gi + q)) lv (40 * i + j) 4 = 10 := by rw [c_mk_v, hA, hB, hC, hD]; decide
            have hr : c_rl (fun q => z_g y_units (1280 * gi + q)) lv (40 * i + j) = 1 := by unfold c_rl; rw [decide_eq_true (show z_g y_units (1280 * gi + (40 * i + j)) + z_g y_units (1280 * gi + (40 * i + j + 1)) + z_g y_units (1280 * gi + (40 * i + j + 40)) + z_g y_units (1280 * gi + (40 * i + j + 40 + 1)) ≥ 4 * lv by omega)]; rfl
            have tb := c_nx_k (m := 10) (rl := c_rl (fun q => z_g y_units (1280 * gi + q)) lv (40 * i + j)) (n := 40 * i + j) (f := y_leads) (g := y_isLed) (b0 := false) (b1 := true) (b2 := false) (b3 := true) (by decide +kernel) (by decide +kernel) (by decide +kernel) (by decide +kernel)
            rw [hm, tb.1, tb.2, hr]
            have w1 : c_wo 10 1 1 = 2 := by decide +kernel
            have w2 : c_wo 10 3 1 = 0 := by decide +kernel
            have s0 : c_sd (40 * i + j) 0 = 2 * (40 * i + j) := by rw [c_sd_0]
            have s1 : c_sd (40 * i + j) 1 = 2 * (40 * i + j) + 3 := by rw [c_sd_1]; omega
            have s2 : c_sd (40 * i + j) 2 = 2 * (40 * i + j) + 80 := by rw [c_sd_2]; omega
            have s3 : c_sd (40 * i + j) 3 = 2 * (40 * i + j) + 1 := by rw [c_sd_3]
            show _ = z_s (z_s y_leads (c_sd (40 * i + j) 1) (c_sd (40 * i + j) (c_wo 10 1 1))) (c_sd (40 * i + j) 3) (c_sd (40 * i + j) (c_wo 10 3 1)) ∧ _ = z_s (z_s y_isLed (c_sd (40 * i + j) (c_wo 10 1 1)) 1) (c_sd (40 * i + j) (c_wo 10 3 1)) 1
            rw [w1, w2, s0, s1, s2, s3]
            exact ⟨z_s_comm (by omega) (by omega) (by omega), z_s_comm (by omega) (by omega) (by omega)⟩
        · have hD : n_hi (fun q => z_g y_units (1280 * gi + q)) lv (40 * i + j + 40 + 1) = true := n_hi_y (v := _) eD qD
          refine ⟨⟨by omega, by omega⟩, fun h => absurd h (by omega), fun _ => ⟨fun h => absurd h (by omega), fun _ => ⟨hp1, ⟨by omega, by omega⟩, ⟨by omega, by omega⟩, ?_⟩⟩⟩
          rintro c1 c2 ⟨k1, k2⟩
          have ee : e_lf (fun q => z_g y_units (1280 * gi + q)) lv (2 * (40 * i + j) + 1) (2 * (40 * i + j)) = true := by
            rw [(e_lf_o (show (2 * (40 * i + j) + 1) % 2 = 1 by omega)).2 (by rw [show (2 * (40 * i + j) + 1) / 2 = 40 * i + j by omega]; exact hA), e_mx_e (show (2 * (40 * i + j)) % 2 = 0 by omega), e_mx_o (show (2 * (40 * i + j) + 1) % 2 = 1 by omega)]
            exact decide_eq_true (by omega)
          obtain ⟨rfl, rfl⟩ := k1 ee
          have hm : c_mk (fun q => z_g y_units (1280 * gi + q)) lv (40 * i + j) 4 = 14 := by rw [c_mk_v, hA, hB, hC, hD]; decide
          have tb := c_nx_k (m := 14) (rl := c_rl (fun q => z_g y_units (1280 * gi + q)) lv (40 * i + j)) (n := 40 * i + j) (f := y_leads) (g := y_isLed) (b0 := false) (b1 := false) (b2 := false) (b3 := true) (by decide +kernel) (by decide +kernel) (by decide +kernel) (by decide +kernel)
          rw [hm, tb.1, tb.2]
          have w : c_wo 14 3 (c_rl (fun q => z_g y_units (1280 * gi + q)) lv (40 * i + j)) = 0 := by rcases c_rl_01 (fun q => z_g y_units (1280 * gi + q)) lv (40 * i + j) with h | h <;> rw [h] <;> decide +kernel
          have s1 : c_sd (40 * i + j) 3 = 2 * (40 * i + j) + 1 := by rw [c_sd_3]
          have s2 : c_sd (40 * i + j) 0 = 2 * (40 * i + j) := by rw [c_sd_0]
          show _ = z_s y_leads (c_sd (40 * i + j) 3) (c_sd (40 * i + j) (c_wo 14 3 (c_rl (fun q => z_g y_units (1280 * gi + q)) lv (40 * i + j)))) ∧ _ = z_s y_isLed (c_sd (40 * i + j) (c_wo 14 3 (c_rl (fun q => z_g y_units (1280 * gi + q)) lv (40 * i + j)))) 1
          rw [w, s1, s2]
          exact ⟨rfl, rfl⟩
  · have hA : n_hi (fun q => z_g y_units (1280 * gi + q)) lv (40 * i + j) = true := n_hi_y (v := _) eA qA
    refine ⟨⟨by omega, by omega⟩, hp1, ⟨by omega, by omega⟩, ⟨by omega, by omega⟩, ?_⟩
    rintro r12 _ e12
    have eB : z_g y_units (1280 * gi + (40 * i + j + 1)) = r12 := by rw [e12, show 40 * i + j + 1 = 40 * i + (j + 1) by omega]
    refine ⟨fun qB => ?_, fun qB => ?_⟩
    · have hB : n_hi (fun q => z_g y_units (1280 * gi + q)) lv (40 * i + j + 1) = false := n_hi_n (v := _) eB qB
      refine ⟨⟨by omega, by omega⟩, hp1, ⟨by omega, by omega⟩, ⟨by omega, by omega⟩, ?_⟩
      rintro r17 _ e17
      have eC : z_g y_units (1280 * gi + (40 * i + j + 40)) = r17 := by rw [e17, show 40 * i + j + 40 = 40 * (i + 1) + j by omega]
      refine ⟨fun qC => ?_, fun qC => ?_⟩
      · have hC : n_hi (fun q => z_g y_units (1280 * gi + q)) lv (40 * i + j + 40) = false := n_hi_n (v := _) eC qC
        refine ⟨hp1, ⟨by omega, by omega⟩, ⟨by omega, by omega⟩, ?_⟩
        rintro r21 _ e21
        have eD : z_g y_units (1280 * gi + (40 * i + j + 40 + 1)) = r21 := by rw [e21, show 40 * i + j + 40 + 1 = 40 * (i + 1) + (j + 1) by omega]
        refine ⟨fun qD => ?_, fun qD => ?_⟩
        · have hD : n_hi (fun q => z_g y_units (1280 * gi + q)) lv (40 * i + j + 40 + 1) = false := n_hi_n (v := _) eD qD
          refine ⟨⟨by omega, by omega⟩, fun h => absurd h (by omega), fun _ => ⟨fun h => absurd h (by omega), fun _ => ⟨hp1, ⟨by omega, by omega⟩, ⟨by omega, by omega⟩, ?_⟩⟩⟩
          rintro c1 c2 ⟨k1, k2⟩
          have ee : e_lf (fun q => z_g y_units (1280 * gi + q)) lv (2 * (40 * i + j) + 1) (2 * (40 * i + j)) = false := by
            rw [(e_lf_o (show (2 * (40 * i + j) + 1) % 2 = 1 by omega)).1 (by rw [show (2 * (40 * i + j) + 1) / 2 = 40 * i + j by omega]; exact hA), e_mx_e (show (2 * (40 * i + j)) % 2 = 0 by omega), e_mx_o (show (2 * (40 * i + j) + 1) % 2 = 1 by omega)]
            exact decide_eq_false (by omega)
          obtain ⟨rfl, rfl⟩ := k2 (by rw [ee]; decide)
          have hm : c_mk (fun q => z_g y_units (1280 * gi + q)) lv (40 * i + j) 4 = 1 := by rw [c_mk_v, hA, hB, hC, hD]; decide
          have tb := c_nx_k (m := 1) (rl := c_rl (fun q => z_g y_units (1280 * gi + q)) lv (40 * i + j)) (n := 40 * i + j) (f := y_leads) (g := y_isLed) (b0 := true) (b1 := false) (b2 := false) (b3 := false) (by decide +kernel) (by decide +kernel) (by decide +kernel) (by decide +kernel)
          rw [hm, tb.1, tb.2]
          have w : c_wo 1 0 (c_rl (fun q => z_g y_units (1280 * gi + q)) lv (40 * i + j)) = 3 := by rcases c_rl_01 (fun q => z_g y_units (1280 * gi + q)) lv (40 * i + j) with h | h <;> rw [h] <;> decide +kernel
          have s1 : c_sd (40 * i + j) 0 = 2 * (40 * i + j) := by rw [c_sd_0]
          have s2 : c_sd (40 * i + j) 3 = 2 * (40 * i + j) + 1 := by rw [c_sd_3]
          show _ = z_s y_leads (c_sd (40 * i + j) 0) (c_sd (40 * i + j) (c_wo 1 0 (c_rl (fun q => z_g y_units (1280 * gi + q)) lv (40 * i + j)))) ∧ _ = z_s y_isLed (c_sd (40 * i + j) (c_wo 1 0 (c_rl (fun q => z_g y_units (1280 * gi + q)) lv (40 * i + j)))) 1
          rw [w, s1, s2]
          exact ⟨rfl, rfl⟩
        · have hD : n_hi (fun q => z_g y_units (1280 * gi + q)) lv (40 * i + j + 40 + 1) = true := n_hi_y (v := _) eD qD
          refine ⟨hp1, ⟨by omega, by omega⟩, ⟨by omega, by omega⟩, ?_⟩
          rintro r75 z75 e75
          refine ⟨hp1, ⟨by omega, by omega⟩, ⟨by omega, by omega⟩, ?_⟩
          rintro r79 z79 e79
          refine ⟨hp1, ⟨by omega, by omega⟩, ⟨by omega, by omega⟩, ?_⟩
          rintro r83 z83 e83
          refine ⟨hp1, ⟨by omega, by omega⟩, ⟨by omega, by omega⟩, ?_⟩
          rintro r87 z87 e87
          have f1 : r75 = r7 := by rw [e75, e7]
          have f2 : r79 = r12 := by rw [e79, e12]
          have f3 : r83 = r17 := by rw [e83, e17]
          have f4 : r87 = r21 := by rw [e87, e21]
          obtain ⟨za1, za2⟩ := z75
          obtain ⟨zb1, zb2⟩ := z79
          obtain ⟨zc1, zc2⟩ := z83
          obtain ⟨zd1, zd2⟩ := z87
          obtain ⟨zl1, zl2⟩ := h_lv
          refine ⟨⟨by omega, by omega⟩, ?_⟩
          rintro v88 rfl
          refine ⟨⟨by omega, by omega⟩, fun qL => ?_, fun qL => ?_⟩
          · refine ⟨⟨by omega, by omega⟩, hp1, ⟨by omega, by omega⟩, ⟨by omega, by omega⟩, ?_⟩
            rintro c1 c2 ⟨k1, k2⟩
            have e1 : e_lf (fun q => z_g y_units (1280 * gi + q)) lv (2 * (40 * i + j)) (2 * (40 * i + j) + 1) = true := by
              rw [(e_lf_e (show (2 * (40 * i + j)) % 2 = 0 by omega)).1 (by rw [show (2 * (40 * i + j)) / 2 = 40 * i + j by omega]; exact hA), e_my_o (show (2 * (40 * i + j) + 1) % 2 = 1 by omega), e_my_e (show (2 * (40 * i + j)) % 2 = 0 by omega)]
              exact decide_eq_true (by omega)
            obtain ⟨rfl, rfl⟩ := k1 e1
            refine ⟨⟨by omega, by omega⟩, ⟨by omega, by omega⟩, hp1, ⟨by omega, by omega⟩, ⟨by omega, by omega⟩, ?_⟩
            rintro c3 c4 ⟨k3, k4⟩
            have e2 : e_lf (fun q => z_g y_units (1280 * gi + q)) lv (2 * (40 * i + j) + 3) (2 * (40 * i + j) + 80) = false := by
              rw [(e_lf_o (show (2 * (40 * i + j) + 3) % 2 = 1 by omega)).2 (by rw [show (2 * (40 * i + j) + 3) / 2 = 40 * i + j + 1 by omega]; exact hB), e_mx_e (show (2 * (40 * i + j) + 80) % 2 = 0 by omega), e_mx_o (show (2 * (40 * i + j) + 3) % 2 = 1 by omega)]
              exact decide_eq_false (by omega)
            obtain ⟨rfl, rfl⟩ := k4 (by rw [e2]; decide)
            have hm : c_mk (fun q => z_g y_units (1280 * gi + q)) lv (40 * i + j) 4 = 5 := by rw [c_mk_v, hA, hB, hC, hD]; decide
            have hr : c_rl (fun q => z_g y_units (1280 * gi + q)) lv (40 * i + j) = 0 := by unfold c_rl; rw [decide_eq_false (show ¬ z_g y_units (1280 * gi + (40 * i + j)) + z_g y_units (1280 * gi + (40 * i + j + 1)) + z_g y_units (1280 * gi + (40 * i + j + 40)) + z_g y_units (1280 * gi + (40 * i + j + 40 + 1)) ≥ 4 * lv by omega)]; rfl
            have tb := c_nx_k (m := 5) (rl := c_rl (fun q => z_g y_units (1280 * gi + q)) lv (40 * i + j)) (n := 40 * i + j) (f := y_leads) (g := y_isLed) (b0 := true) (b1 := false) (b2 := true) (b3 := false) (by decide +kernel) (by decide +kernel) (by decide +kernel) (by decide +kernel)
            rw [hm, tb.1, tb.2, hr]
            have w1 : c_wo 5 0 0 = 3 := by decide +kernel
            have w2 : c_wo 5 2 0 = 1 := by decide +kernel
            have s0 : c_sd (40 * i + j) 0 = 2 * (40 * i + j) := by rw [c_sd_0]
            have s1 : c_sd (40 * i + j) 1 = 2 * (40 * i + j) + 3 := by rw [c_sd_1]; omega
            have s2 : c_sd (40 * i + j) 2 = 2 * (40 * i + j) + 80 := by rw [c_sd_2]; omega
            have s3 : c_sd (40 * i + j) 3 = 2 * (40 * i + j) + 1 := by rw [c_sd_3]
            show _ = z_s (z_s y_leads (c_sd (40 * i + j) 0) (c_sd (40 * i + j) (c_wo 5 0 0))) (c_sd (40 * i + j) 2) (c_sd (40 * i + j) (c_wo 5 2 0)) ∧ _ = z_s (z_s y_isLed (c_sd (40 * i + j) (c_wo 5 0 0)) 1) (c_sd (40 * i + j) (c_wo 5 2 0)) 1
            rw [w1, w2, s0, s1, s2, s3]
            exact ⟨rfl, rfl⟩
          · refine ⟨⟨by omega, by omega⟩, hp1, ⟨by omega, by omega⟩, ⟨by omega, by omega⟩, ?_⟩
            rintro c1 c2 ⟨k1, k2⟩
            have e1 : e_lf (fun q => z_g y_units (1280 * gi + q)) lv (2 * (40 * i + j)) (2 * (40 * i + j) + 3) = true := by
              rw [(e_lf_e (show (2 * (40 * i + j)) % 2 = 0 by omega)).1 (by rw [show (2 * (40 * i + j)) / 2 = 40 * i + j by omega]; exact hA), e_my_o (show (2 * (40 * i + j) + 3) % 2 = 1 by omega), e_my_e (show (2 * (40 * i + j)) % 2 = 0 by omega)]
              exact decide_eq_true (by omega)
            obtain ⟨rfl, rfl⟩ := k1 e1
            refine ⟨⟨by omega, by omega⟩, ⟨by omega, by omega⟩, hp1, ⟨by omega, by omega⟩, ⟨by omega, by omega⟩, ?_⟩
            rintro c3 c4 ⟨k3, k4⟩
            have e2 : e_lf (fun q => z_g y_units (1280 * gi + q)) lv (2 * (40 * i + j) + 1) (2 * (40 * i + j) + 80) = false := by
              rw [(e_lf_o (show (2 * (40 * i + j) + 1) % 2 = 1 by omega)).1 (by rw [show (2 * (40 * i + j) + 1) / 2 = 40 * i + j by omega]; exact hA), e_mx_e (show (2 * (40 * i + j) + 80) % 2 = 0 by omega), e_mx_o (show (2 * (40 * i + j) + 1) % 2 = 1 by omega)]
              exact decide_eq_false (by omega)
            obtain ⟨rfl, rfl⟩ := k4 (by rw [e2]; decide)
            have hm : c_mk (fun q => z_g y_units (1280 * gi + q)) lv (40 * i + j) 4 = 5 := by rw [c_mk_v, hA, hB, hC, hD]; decide
            have hr : c_rl (fun q => z_g y_units (1280 * gi + q)) lv (40 * i + j) = 1 := by unfold c_rl; rw [decide_eq_true (show z_g y_units (1280 * gi + (40 * i + j)) + z_g y_units (1280 * gi + (40 * i + j + 1)) + z_g y_units (1280 * gi + (40 * i + j + 40)) + z_g y_units (1280 * gi + (40 * i + j + 40 + 1)) ≥ 4 * lv by omega)]; rfl
            have tb := c_nx_k (m := 5) (rl := c_rl (fun q => z_g y_units (1280 * gi + q)) lv (40 * i + j)) (n := 40 * i + j) (f := y_leads) (g := y_isLed) (b0 := true) (b1 := false) (b2 := true) (b3 := false) (by decide +kernel) (by decide +kernel) (by decide +kernel) (by decide +kernel)
            rw [hm, tb.1, tb.2, hr]
            have w1 : c_wo 5 0 1 = 1 := by decide +kernel
            have w2 : c_wo 5 2 1 = 3 := by decide +kernel
            have s0 : c_sd (40 * i + j) 0 = 2 * (40 * i + j) := by rw [c_sd_0]
            have s1 : c_sd (40 * i + j) 1 = 2 * (40 * i + j) + 3 := by rw [c_sd_1]; omega
            have s2 : c_sd (40 * i + j) 2 = 2 * (40 * i + j) + 80 := by rw [c_sd_2]; omega
            have s3 : c_sd (40 * i + j) 3 = 2 * (40 * i + j) + 1 := by rw [c_sd_3]
            show _ = z_s (z_s y_leads (c_sd (40 * i + j) 0) (c_sd (40 * i + j) (c_wo 5 0 1))) (c_sd (40 * i + j) 2) (c_sd (40 * i + j) (c_wo 5 2 1)) ∧ _ = z_s (z_s y_isLed (c_sd (40 * i + j) (c_wo 5 0 1)) 1) (c_sd (40 * i + j) (c_wo 5 2 1)) 1
            rw [w1, w2, s0, s1, s2, s3]
            exact ⟨rfl, rfl⟩
      · have hC : n_hi (fun q => z_g y_units (1280 * gi + q)) lv (40 * i + j + 40) = true := n_hi_y (v := _) eC qC
        refine ⟨hp1, ⟨by omega, by omega⟩, ⟨by omega, by omega⟩, ?_⟩
        rintro r21 _ e21
        have eD : z_g y_units (1280 * gi + (40 * i + j + 40 + 1)) = r21 := by rw [e21, show 40 * i + j + 40 + 1 = 40 * (i + 1) + (j + 1) by omega]
        refine ⟨fun qD => ?_, fun qD => ?_⟩
        · have hD : n_hi (fun q => z_g y_units (1280 * gi + q)) lv (40 * i + j + 40 + 1) = false := n_hi_n (v := _) eD qD
          refine ⟨⟨by omega, by omega⟩, fun h => absurd h (by omega), fun _ => ⟨fun h => absurd h (by omega), fun _ => ⟨hp1, ⟨by omega, by omega⟩, ⟨by omega, by omega⟩, ?_⟩⟩⟩
          rintro c1 c2 ⟨k1, k2⟩
          have ee : e_lf (fun q => z_g y_units (1280 * gi + q)) lv (2 * (40 * i + j) + 80) (2 * (40 * i + j)) = false := by
            rw [(e_lf_e (show (2 * (40 * i + j) + 80) % 2 = 0 by omega)).1 (by rw [show (2 * (40 * i + j) + 80) / 2 = 40 * i + j + 40 by omega]; exact hC), e_my_e (show (2 * (40 * i + j)) % 2 = 0 by omega), e_my_e (show (2 * (40 * i + j) + 80) % 2 = 0 by omega)]
            exact decide_eq_false (by omega)
          obtain ⟨rfl, rfl⟩ := k2 (by rw [ee]; decide)
          have hm : c_mk (fun q => z_g y_units (1280 * gi + q)) lv (40 * i + j) 4 = 9 := by rw [c_mk_v, hA, hB, hC, hD]; decide
          have tb := c_nx_k (m := 9) (rl := c_rl (fun q => z_g y_units (1280 * gi + q)) lv (40 * i + j)) (n := 40 * i + j) (f := y_leads) (g := y_isLed) (b0 := true) (b1 := false) (b2 := false) (b3 := false) (by decide +kernel) (by decide +kernel) (by decide +kernel) (by decide +kernel)
          rw [hm, tb.1, tb.2]
          have w : c_wo 9 0 (c_rl (fun q => z_g y_units (1280 * gi + q)) lv (40 * i + j)) = 2 := by rcases c_rl_01 (fun q => z_g y_units (1280 * gi + q)) lv (40 * i + j) with h | h <;> rw [h] <;> decide +kernel
          have s1 : c_sd (40 * i + j) 0 = 2 * (40 * i + j) := by rw [c_sd_0]
          have s2 : c_sd (40 * i + j) 2 = 2 * (40 * i + j) + 80 := by rw [c_sd_2]; omega
          show _ = z_s y_leads (c_sd (40 * i + j) 0) (c_sd (40 * i + j) (c_wo 9 0 (c_rl (fun q => z_g y_units (1280 * gi + q)) lv (40 * i + j)))) ∧ _ = z_s y_isLed (c_sd (40 * i + j) (c_wo 9 0 (c_rl (fun q => z_g y_units (1280 * gi + q)) lv (40 * i + j)))) 1
          rw [w, s1, s2]
          exact ⟨rfl, rfl⟩
        · have hD : n_hi (fun q => z_g y_units (1280 * gi + q)) lv (40 * i + j + 40 + 1) = true := n_hi_y (v := _) eD qD
          refine ⟨⟨by omega, by omega⟩, fun h => absurd h (by omega), fun _ => ⟨fun h => absurd h (by omega), fun _ => ⟨hp1, ⟨by omega, by omega⟩, ⟨by omega, by omega⟩, ?_⟩⟩⟩
          rintro c1 c2 ⟨k1, k2⟩
          have ee : e_lf (fun q => z_g y_units (1280 * gi + q)) lv (2 * (40 * i + j) + 3) (2 * (40 * i + j)) = false := by
            rw [(e_lf_o (show (2 * (40 * i + j) + 3) % 2 = 1 by omega)).2 (by rw [show (2 * (40 * i + j) + 3) / 2 = 40 * i + j + 1 by omega]; exact hB), e_mx_e (show (2 * (40 * i + j)) % 2 = 0 by omega), e_mx_o (show (2 * (40 * i + j) + 3) % 2 = 1 by omega)]
            exact decide_eq_false (by omega)
          obtain ⟨rfl, rfl⟩ := k2 (by rw [ee]; decide)
          have hm : c_mk (fun q => z_g y_units (1280 * gi + q)) lv (40 * i + j) 4 = 13 := by rw [c_mk_v, hA, hB, hC, hD]; decide
          have tb := c_nx_k (m := 13) (rl := c_rl (fun q => z_g y_units (1280 * gi + q)) lv (40 * i + j)) (n := 40 * i + j) (f := y_leads) (g := y_isLed) (b0 := true) (b1 := false) (b2 := false) (b3 := false) (by decide +kernel) (by decide +kernel) (by decide +kernel) (by decide +kernel)
          rw [hm, tb.1, tb.2]
          have w : c_wo 13 0 (c_rl (fun q => z_g y_units (1280 * gi + q)) lv (40 * i + j)) = 1 := by rcases c_rl_01 (fun q => z_g y_units (1280 * gi + q)) lv (40 * i + j) with h | h <;> rw [h] <;> decide +kernel
          have s1 : c_sd (40 * i + j) 0 = 2 * (40 * i + j) := by rw [c_sd_0]
          have s2 : c_sd (40 * i + j) 1 = 2 * (40 * i + j) + 3 := by rw [c_sd_1]; omega
          show _ = z_s y_leads (c_sd (40 * i + j) 0) (c_sd (40 * i + j) (c_wo 13 0 (c_rl (fun q => z_g y_units (1280 * gi + q)) lv (40 * i + j)))) ∧ _ = z_s y_isLed (c_sd (40 * i + j) (c_wo 13 0 (c_rl (fun q => z_g y_units (1280 * gi + q)) lv (40 * i + j)))) 1
          rw [w, s1, s2]
          exact ⟨rfl, rfl⟩
    · have hB : n_hi (fun q => z_g y_units (1280 * gi + q)) lv (40 * i + j + 1) = true := n_hi_y (v := _) eB qB
      refine ⟨⟨by omega, by omega⟩, hp1, ⟨by omega, by omega⟩, ⟨by omega, by omega⟩, ?_⟩
      rintro r17 _ e17
      have eC : z_g y_units (1280 * gi + (40 * i + j + 40)) = r17 := by rw [e17, show 40 * i + j + 40 = 40 * (i + 1) + j by omega]
      refine ⟨fun qC => ?_, fun qC => ?_⟩
      · have hC : n_hi (fun q => z_g y_units (1280 * gi + q)) lv (40 * i + j + 40) = false := n_hi_n (v := _) eC qC
        refine ⟨hp1, ⟨by omega, by omega⟩, ⟨by omega, by omega⟩, ?_⟩
        rintro r21 _ e21
        have eD : z_g y_units (1280 * gi + (40 * i + j + 40 + 1)) = r21 := by rw [e21, show 40 * i + j + 40 + 1 = 40 * (i + 1) + (j + 1) by omega]
        refine ⟨fun qD => ?_, fun qD => ?_⟩
        · have hD : n_hi (fun q => z_g y_units (1280 * gi + q)) lv (40 * i + j + 40 + 1) = false := n_hi_n (v := _) eD qD
          refine ⟨⟨by omega, by omega⟩, fun h => absurd h (by omega), fun _ => ⟨⟨by omega, by omega⟩, fun h => absurd h (by omega), fun _ => ⟨hp1, ⟨by omega, by omega⟩, ⟨by omega, by omega⟩, ?_⟩⟩⟩
          rintro c1 c2 ⟨k1, k2⟩
          have ee : e_lf (fun q => z_g y_units (1280 * gi + q)) lv (2 * (40 * i + j) + 3) (2 * (40 * i + j) + 1) = true := by
            rw [(e_lf_o (show (2 * (40 * i + j) + 3) % 2 = 1 by omega)).1 (by rw [show (2 * (40 * i + j) + 3) / 2 = 40 * i + j + 1 by omega]; exact hB), e_mx_o (show (2 * (40 * i + j) + 1) % 2 = 1 by omega), e_mx_o (show (2 * (40 * i + j) + 3) % 2 = 1 by omega)]
            exact decide_eq_true (by omega)
          obtain ⟨rfl, rfl⟩ := k1 ee
          have hm : c_mk (fun q => z_g y_units (1280 * gi + q)) lv (40 * i + j) 4 = 3 := by rw [c_mk_v, hA, hB, hC, hD]; decide
          have tb := c_nx_k (m := 3) (rl := c_rl (fun q => z_g y_units (1280 * gi + q)) lv (40 * i + j)) (n := 40 * i + j) (f := y_leads) (g := y_isLed) (b0 := false) (b1 := true) (b2 := false) (b3 := false) (by decide +kernel) (by decide +kernel) (by decide +kernel) (by decide +kernel)
          rw [hm, tb.1, tb.2]
          have w : c_wo 3 1 (c_rl (fun q => z_g y_units (1280 * gi + q)) lv (40 * i + j)) = 3 := by rcases c_rl_01 (fun q => z_g y_units (1280 * gi + q)) lv (40 * i + j) with h | h <;> rw [h] <;> decide +kernel
          have s1 : c_sd (40 * i + j) 1 = 2 * (40 * i + j) + 3 := by rw [c_sd_1]; omega
          have s2 : c_sd (40 * i + j) 3 = 2 * (40 * i + j) + 1 := by rw [c_sd_3]
          show _ = z_s y_leads (c_sd (40 * i + j) 1) (c_sd (40 * i + j) (c_wo 3 1 (c_rl (fun q => z_g y_units (1280 * gi + q)) lv (40 * i + j)))) ∧ _ = z_s y_isLed (c_sd (40 * i + j) (c_wo 3 1 (c_rl (fun q => z_g y_units (1280 * gi + q)) lv (40 * i + j)))) 1
          rw [w, s1, s2]
          exact ⟨rfl, rfl⟩
        · have hD : n_hi (fun q => z_g y_units (1280 * gi + q)) lv (40 * i + j + 40 + 1) = true := n_hi_y (v := _) eD qD
          refine ⟨⟨by omega, by omega⟩, fun h => absurd h (by omega), fun _ => ⟨⟨by omega, by omega⟩, fun h => absurd h (by omega), fun _ => ⟨hp1, ⟨by omega, by omega⟩, ⟨by omega, by omega⟩, ?_⟩⟩⟩
          rintro c1 c2 ⟨k1, k2⟩
          have ee : e_lf (fun q => z_g y_units (1280 * gi + q)) lv (2 * (40 * i + j) + 80) (2 * (40 * i + j) + 1) = true := by
            rw [(e_lf_e (show (2 * (40 * i + j) + 80) % 2 = 0 by omega)).2 (by rw [show (2 * (40 * i + j) + 80) / 2 = 40 * i + j + 40 by omega]; exact hC), e_my_o (show (2 * (40 * i + j) + 1) % 2 = 1 by omega), e_my_e (show (2 * (40 * i + j) + 80) % 2 = 0 by omega)]
            exact decide_eq_true (by omega)
          obtain ⟨rfl, rfl⟩ := k1 ee
          have hm : c_mk (fun q => z_g y_units (1280 * gi + q)) lv (40 * i + j) 4 = 7 := by rw [c_mk_v, hA, hB, hC, hD]; decide
          have tb := c_nx_k (m := 7) (rl := c_rl (fun q => z_g y_units (1280 * gi + q)) lv (40 * i + j)) (n := 40 * i + j) (f := y_leads) (g := y_isLed) (b0 := false) (b1 := false) (b2 := true) (b3 := false) (by decide +kernel) (by decide +kernel) (by decide +kernel) (by decide +kernel)
          rw [hm, tb.1, tb.2]
          have w : c_wo 7 2 (c_rl (fun q => z_g y_units (1280 * gi + q)) lv (40 * i + j)) = 3 := by rcases c_rl_01 (fun q => z_g y_units (1280 * gi + q)) lv (40 * i + j) with h | h <;> rw [h] <;> decide +kernel
          have s1 : c_sd (40 * i + j) 2 = 2 * (40 * i + j) + 80 := by rw [c_sd_2]; omega
          have s2 : c_sd (40 * i + j) 3 = 2 * (40 * i + j) + 1 := by rw [c_sd_3]
          show _ = z_s y_leads (c_sd (40 * i + j) 2) (c_sd (40 * i + j) (c_wo 7 2 (c_rl (fun q => z_g y_units (1280 * gi + q)) lv (40 * i + j)))) ∧ _ = z_s y_isLed (c_sd (40 * i + j) (c_wo 7 2 (c_rl (fun q => z_g y_units (1280 * gi + q)) lv (40 * i + j)))) 1
          rw [w, s1, s2]
          exact ⟨rfl, rfl⟩
      · have hC : n_hi (fun q => z_g y_units (1280 * gi + q)) lv (40 * i + j + 40) = true := n_hi_y (v := _) eC qC
        refine ⟨hp1, ⟨by omega, by omega⟩, ⟨by omega, by omega⟩, ?_⟩
        rintro r21 _ e21
        have eD : z_g y_units (1280 * gi + (40 * i + j + 40 + 1)) = r21 := by rw [e21, show 40 * i + j + 40 + 1 = 40 * (i + 1) + (j + 1) by omega]
        refine ⟨fun qD => ?_, fun qD => ?_⟩
        · have hD : n_hi (fun q => z_g y_units (1280 * gi + q)) lv (40 * i + j + 40 + 1) = false := n_hi_n (v := _) eD qD
          refine ⟨⟨by omega, by omega⟩, fun h => absurd h (by omega), fun _ => ⟨⟨by omega, by omega⟩, fun h => absurd h (by omega), fun _ => ⟨hp1, ⟨by omega, by omega⟩, ⟨by omega, by omega⟩, ?_⟩⟩⟩
          rintro c1 c2 ⟨k1, k2⟩
          have ee : e_lf (fun q => z_g y_units (1280 * gi + q)) lv (2 * (40 * i + j) + 80) (2 * (40 * i + j) + 3) = false := by
            rw [(e_lf_e (show (2 * (40 * i + j) + 80) % 2 = 0 by omega)).1 (by rw [show (2 * (40 * i + j) + 80) / 2 = 40 * i + j + 40 by omega]; exact hC), e_my_o (show (2 * (40 * i + j) + 3) % 2 = 1 by omega), e_my_e (show (2 * (40 * i + j) + 80) % 2 = 0 by omega)]
            exact decide_eq_false (by omega)
          obtain ⟨rfl, rfl⟩ := k2 (by rw [ee]; decide)
          have hm : c_mk (fun q => z_g y_units (1280 * gi + q)) lv (40 * i + j) 4 = 11 := by rw [c_mk_v, hA, hB, hC, hD]; decide
          have tb := c_nx_k (m := 11) (rl := c_rl (fun q => z_g y_units (1280 * gi + q)) lv (40 * i + j)) (n := 40 * i + j) (f := y_leads) (g := y_isLed) (b0 := false) (b1 := true) (b2 := false) (b3 := false) (by decide +kernel) (by decide +kernel) (by decide +kernel) (by decide +kernel)
          rw [hm, tb.1, tb.2]
          have w : c_wo 11 1 (c_rl (fun q => z_g y_units (1280 * gi + q)) lv (40 * i + j)) = 2 := by rcases c_rl_01 (fun q => z_g y_units (1280 * gi + q)) lv (40 * i + j) with h | h <;> rw [h] <;> decide +kernel
          have s1 : c_sd (40 * i + j) 1 = 2 * (40 * i + j) + 3 := by rw [c_sd_1]; omega
          have s2 : c_sd (40 * i + j) 2 = 2 * (40 * i + j) + 80 := by rw [c_sd_2]; omega
          show _ = z_s y_leads (c_sd (40 * i + j) 1) (c_sd (40 * i + j) (c_wo 11 1 (c_rl (fun q => z_g y_units (1280 * gi + q)) lv (40 * i + j)))) ∧ _ = z_s y_isLed (c_sd (40 * i + j) (c_wo 11 1 (c_rl (fun q => z_g y_units (1280 * gi + q)) lv (40 * i + j)))) 1
          rw [w, s1, s2]
          exact ⟨rfl, rfl⟩
        · have hD : n_hi (fun q => z_g y_units (1280 * gi + q)) lv (40 * i + j + 40 + 1) = true := n_hi_y (v := _) eD qD
          have hm : c_mk (fun q => z_g y_units (1280 * gi + q)) lv (40 * i + j) 4 = 15 := by rw [c_mk_v, hA, hB, hC, hD]; decide
          rw [hm]
          exact c_nx_0 (by decide +kernel) (by decide +kernel) (by decide +kernel) (by decide +kernel)
