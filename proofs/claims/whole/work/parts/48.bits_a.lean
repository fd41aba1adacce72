/-! floats and doubles as bits -/
def b_uf (b : Int) : Int :=
  if b / 8388608 % 256 = 0 ∧ b % 8388608 = 0 then 0
  else if b / 8388608 % 256 = 0 ∨ 140 < b / 8388608 % 256 ∨ b / 8388608 % 256 < 117 then -2147483648
  else if (b % 8388608 + 8388608) % ((2 ^ (140 - b / 8388608 % 256).toNat : Nat) : Int) ≠ 0 ∨ 8388608 < (b % 8388608 + 8388608) / ((2 ^ (140 - b / 8388608 % 256).toNat : Nat) : Int) then -2147483648
  else if b < 0 then -((b % 8388608 + 8388608) / ((2 ^ (140 - b / 8388608 % 256).toNat : Nat) : Int)) else (b % 8388608 + 8388608) / ((2 ^ (140 - b / 8388608 % 256).toNat : Nat) : Int)
def b_fu (u : Int) : Int :=
  if u = 0 ∨ 8388608 < u.natAbs then 0
  else (if u < 0 then -2147483648 else 0) + ((u.natAbs.log2 : Int) + 117) * 8388608 + (((u.natAbs * 2 ^ (23 - u.natAbs.log2) : Nat) : Int) - 8388608)
/-- the bits of the double nearest to ov / un -/
def b_rt (ov un r : Int) : Prop :=
  if ov ≤ 0 then r = 0 else ∃ s : Nat, s ≤ 100 ∧ 4503599627370496 * un ≤ ov * ((2 ^ s : Nat) : Int) ∧ ov * ((2 ^ s : Nat) : Int) < 9007199254740992 * un ∧
    r = (1075 - (s : Int)) * 4503599627370496 + (ov * ((2 ^ s : Nat) : Int) / un - 4503599627370496) + (if 2 * (ov * ((2 ^ s : Nat) : Int) % un) > un ∨ (2 * (ov * ((2 ^ s : Nat) : Int) % un) = un ∧ ov * ((2 ^ s : Nat) : Int) / un % 2 = 1) then 1 else 0)
theorem uf_core {w sh : Int} (h0 : 0 ≤ w) (h1 : w < 16777216) (s0 : 0 ≤ sh) (s1 : sh ≤ 23) : z_shr w sh = w / ((2 ^ sh.toNat : Nat) : Int) ∧ (z_shl (w / ((2 ^ sh.toNat : Nat) : Int)) sh = w ↔ w % ((2 ^ sh.toNat : Nat) : Int) = 0) ∧ 0 ≤ w / ((2 ^ sh.toNat : Nat) : Int) ∧ w / ((2 ^ sh.toNat : Nat) : Int) < 16777216 := by
  obtain ⟨n, rfl⟩ := Int.eq_ofNat_of_zero_le h0
  obtain ⟨k, rfl⟩ := Int.eq_ofNat_of_zero_le s0
  rw [Int.toNat_natCast]
  have hp : 0 < 2 ^ k := Nat.two_pow_pos k
  have e1 := z_shr_ok (x := (n : Int)) ⟨by omega, by omega⟩ (k := k) (by omega)
  have e2 : ((n : Int) / ((2 ^ k : Nat) : Int)) = ((n / 2 ^ k : Nat) : Int) := (Int.natCast_ediv n (2 ^ k)).symm
  have e3 : ((n : Int) % ((2 ^ k : Nat) : Int)) = ((n % 2 ^ k : Nat) : Int) := (Int.natCast_emod n (2 ^ k)).symm
  have hm : n / 2 ^ k * 2 ^ k ≤ n := Nat.div_mul_le_self n (2 ^ k)
  have hd := Nat.div_add_mod n (2 ^ k)
  rw [Nat.mul_comm] at hd
  have e4 := z_shl_nat (a := n / 2 ^ k) (k := k) (by omega) (by omega)
  have hl : n / 2 ^ k ≤ n := Nat.div_le_self _ _
  rw [e1, e2, e3, e4]
  refine ⟨rfl, ?_, Int.natCast_nonneg _, Int.lt_of_le_of_lt (Int.ofNat_le.mpr hl) h1⟩
  constructor <;> intro h <;> omega
theorem z_or_hi {e f : Nat} (h0 : 256 ≤ e) (h1 : e < 512) (hf : f < 8388608) : z_or ((e : Int) * 8388608 - 4294967296) (f : Int) = (e : Int) * 8388608 + f - 4294967296 := by
  have ea : (z_i ((e : Int) * 8388608 - 4294967296)).toBitVec.toNat = e * 2 ^ 23 := by
    have := i_tn ((e : Int) * 8388608 - 4294967296)
    omega
  have eb : (z_i ((e : Int) * 8388608 - 4294967296) ||| z_i (f : Int)).toBitVec.toNat = e * 8388608 + f := by
    rw [Int32.toBitVec_or, i_nat, BitVec.toNat_or, BitVec.toNat_ofNat, Nat.mod_eq_of_lt (by omega), ea, n_or_add (by omega)]
  unfold z_or
  show (z_i ((e : Int) * 8388608 - 4294967296) ||| z_i (f : Int)).toBitVec.toInt = _
  rw [BitVec.toInt_eq_toNat_cond, eb, if_neg (by omega)]
  omega
theorem uf_sh {b : Int} (h : z_in b) : z_and (z_shr b 23) 255 = b / 8388608 % 256 := by
  rw [show (23 : Int) = ((23 : Nat) : Int) by rfl, z_shr_ok h (by decide), z_and_8]
  rfl
def vc_J6_numberOfLeadingZeros_0f7a4 (x : Int) (Q : Int → Prop) : Prop :=
((x > 0 → ((x < 65536 → ((x < 256 → ((x < 16 → ((x < 4 → z_in (31 - (z_ushr x 1)) ∧ Q (31 - (z_ushr x 1))) ∧
(x ≥ 4 → (∀ v2 : Int, v2 = z_ushr x 2 → z_in ((31 - 2) - (z_ushr v2 1)) ∧ Q ((31 - 2) - (z_ushr v2 1)))))) ∧
(x ≥ 16 → (∀ v5 : Int, v5 = z_ushr x 4 → ((v5 < 4 → z_in ((31 - 4) - (z_ushr v5 1)) ∧ Q ((31 - 4) - (z_ushr v5 1))) ∧
(v5 ≥ 4 → (∀ v8 : Int, v8 = z_ushr v5 2 → z_in (((31 - 4) + (-2)) - (z_ushr v8 1)) ∧ Q (((31 - 4) + (-2)) - (z_ushr v8 1))))))))) ∧
(x ≥ 256 → (∀ v11 : Int, v11 = z_ushr x 8 → ((v11 < 16 → ((v11 < 4 → z_in ((31 - 8) - (z_ushr v11 1)) ∧ Q ((31 - 8) - (z_ushr v11 1))) ∧
(v11 ≥ 4 → (∀ v14 : Int, v14 = z_ushr v11 2 → z_in (((31 - 8) + (-2)) - (z_ushr v14 1)) ∧ Q (((31 - 8) + (-2)) - (z_ushr v14 1)))))) ∧
(v11 ≥ 16 → (∀ v17 : Int, v17 = z_ushr v11 4 → ((v17 < 4 → z_in (((31 - 8) + (-4)) - (z_ushr v17 1)) ∧ Q (((31 - 8) + (-4)) - (z_ushr v17 1))) ∧
(v17 ≥ 4 → (∀ v20 : Int, v20 = z_ushr v17 2 → z_in ((((31 - 8) + (-4)) + (-2)) - (z_ushr v20 1)) ∧ Q ((((31 - 8) + (-4)) + (-2)) - (z_ushr v20 1)))))))))))) ∧
(x ≥ 65536 → (∀ v23 : Int, v23 = z_ushr x 16 → ((v23 < 256 → ((v23 < 16 → ((v23 < 4 → z_in ((31 - 16) - (z_ushr v23 1)) ∧ Q ((31 - 16) - (z_ushr v23 1))) ∧
(v23 ≥ 4 → (∀ v26 : Int, v26 = z_ushr v23 2 → z_in (((31 - 16) + (-2)) - (z_ushr v26 1)) ∧ Q (((31 - 16) + (-2)) - (z_ushr v26 1)))))) ∧
(v23 ≥ 16 → (∀ v29 : Int, v29 = z_ushr v23 4 → ((v29 < 4 → z_in (((31 - 16) + (-4)) - (z_ushr v29 1)) ∧ Q (((31 - 16) + (-4)) - (z_ushr v29 1))) ∧
(v29 ≥ 4 → (∀ v32 : Int, v32 = z_ushr v29 2 → z_in ((((31 - 16) + (-4)) + (-2)) - (z_ushr v32 1)) ∧ Q ((((31 - 16) + (-4)) + (-2)) - (z_ushr v32 1))))))))) ∧
(v23 ≥ 256 → (∀ v35 : Int, v35 = z_ushr v23 8 → ((v35 < 16 → ((v35 < 4 → z_in (((31 - 16) + (-8)) - (z_ushr v35 1)) ∧ Q (((31 - 16) + (-8)) - (z_ushr v35 1))) ∧
(v35 ≥ 4 → (∀ v38 : Int, v38 = z_ushr v35 2 → z_in ((((31 - 16) + (-8)) + (-2)) - (z_ushr v38 1)) ∧ Q ((((31 - 16) + (-8)) + (-2)) - (z_ushr v38 1)))))) ∧
(v35 ≥ 16 → (∀ v41 : Int, v41 = z_ushr v35 4 → ((v41 < 4 → z_in ((((31 - 16) + (-8)) + (-4)) - (z_ushr v41 1)) ∧ Q ((((31 - 16) + (-8)) + (-4)) - (z_ushr v41 1))) ∧
(v41 ≥ 4 → (∀ v44 : Int, v44 = z_ushr v41 2 → z_in (((((31 - 16) + (-8)) + (-4)) + (-2)) - (z_ushr v44 1)) ∧ Q (((((31 - 16) + (-8)) + (-4)) + (-2)) - (z_ushr v44 1))))))))))))))) ∧
(x ≤ 0 → ((x ≠ 0 → Q 0) ∧
(x = 0 → Q 32))))
set_option maxHeartbeats 4000000 in
set_option maxRecDepth 100000 in
theorem wk_J6_numberOfLeadingZeros_0f7a4 (l : Launch) (D : va_G) (cA : Nat → ClassId) (x : Int) (h_x : z_in x) (Q : Int → Prop) (hv : vc_J6_numberOfLeadingZeros_0f7a4 x Q) : Met l yJ6_numberOfLeadingZeros_0f7a4 wsJ6_numberOfLeadingZeros_0f7a4 ({ frames := 0, cells := 0, slots := 0, locals := 0 } : Room) (va_Pc [.int (z_i x)] (z_B0 D cA [])) (va_Qi (z_ri Q) (fun _ _ => True) (fun _ => False)) 0 0 (fun _ => False) := by
  unfold vc_J6_numberOfLeadingZeros_0f7a4 at hv
  refine Met.ofW (cc := cJ6_numberOfLeadingZeros_0f7a4) (maxL := 2) (ret := (some .int)) (by decide +kernel) rfl ?_
  intro p e s m args below meth c s₁ B hml hv0
  obtain ⟨rfl, hK, hP⟩ := hv0
  have hx := B.exec
  have hb := B.bytes
  have hr := B.returns
  have hts := atoms_spec (ws := wsJ6_numberOfLeadingZeros_0f7a4) B.pre
  have hown : s.vm.findClass RJ6 = some m.cls := findClass_of_methodNamed B.named
  have hlocks := B.notSynchronized
  have hS : va_S (fun _ : Nat => False) s.heap s.heap [] := va_S.rf
  have hl := lv_entry ([.int (z_i x)]) (n := 2) (Nat.le_of_ble_eq_true rfl)
  rw [lg_entry_eq]
  generalize (lg_sl ([.int (z_i x)]) ++ List.replicate (2 - (lg_sl ([.int (z_i x)])).length) Slot.unset).toArray = ls at hl ⊢
  have hl : lv_has ls 2 [(0, .int (z_i x))] := hl
  refine lv_iload_n hx hb dJ6_numberOfLeadingZeros_0f7a4_0 rfl (lv_at hl 0 rfl) ?_
  refine lx_if_gt (tgt := 15) hx hb dJ6_numberOfLeadingZeros_0f7a4_1 (by decide) h_x (fun hc => ?_) (fun hc => ?_)
  · have hv := hv.1 hc
    refine lv_bipush (v := z_i 31) hx hb dJ6_numberOfLeadingZeros_0f7a4_15 (by decide) ?_
    refine lv_istore_n (lv' := [(1, .int (z_i 31)), (0, .int (z_i x))]) hx hb dJ6_numberOfLeadingZeros_0f7a4_17 rfl hl (by decide) rfl (fun ls hl => ?_)
    refine lv_iload_n hx hb dJ6_numberOfLeadingZeros_0f7a4_18 rfl (lv_at hl 1 rfl) ?_
    refine lx_ldc_w (a := 65536) hx hb hown (hts (.constant RJ6 264 (65536)) (by decide +kernel)) (by decide) dJ6_numberOfLeadingZeros_0f7a4_19 ?_
    refine lx_icmp_lt (tgt := 33) hx hb dJ6_numberOfLeadingZeros_0f7a4_22 (by decide) h_x (show z_in 65536 from ⟨by decide, by decide⟩) (fun hc => ?_) (fun hc => ?_)
    · have hv := hv.1 hc
      refine lv_iload_n hx hb dJ6_numberOfLeadingZeros_0f7a4_33 rfl (lv_at hl 1 rfl) ?_
      refine lv_sipush (v := z_i 256) hx hb dJ6_numberOfLeadingZeros_0f7a4_34 (by decide) ?_
      refine lx_icmp_lt (tgt := 48) hx hb dJ6_numberOfLeadingZeros_0f7a4_37 (by decide) h_x (show z_in 256 from ⟨by decide, by decide⟩) (fun hc => ?_) (fun hc => ?_)
      · have hv := hv.1 hc
        refine lv_iload_n hx hb dJ6_numberOfLeadingZeros_0f7a4_48 rfl (lv_at hl 1 rfl) ?_
        refine lv_bipush (v := z_i 16) hx hb dJ6_numberOfLeadingZeros_0f7a4_49 (by decide) ?_
        refine lx_icmp_lt (tgt := 61) hx hb dJ6_numberOfLeadingZeros_0f7a4_51 (by decide) h_x (show z_in 16 from ⟨by decide, by decide⟩) (fun hc => ?_) (fun hc => ?_)
        · have hv := hv.1 hc
          refine lv_iload_n hx hb dJ6_numberOfLeadingZeros_0f7a4_61 rfl (lv_at hl 1 rfl) ?_
          refine lv_iconst (v := z_i 4) hx hb dJ6_numberOfLeadingZeros_0f7a4_62 rfl ?_
          refine lx_icmp_lt (tgt := 73) hx hb dJ6_numberOfLeadingZeros_0f7a4_63 (by decide) h_x (show z_in 4 from ⟨by decide, by decide⟩) (fun hc => ?_) (fun hc => ?_)
          · have hv := hv.1 hc
            refine lv_iload_n hx hb dJ6_numberOfLeadingZeros_0f7a4_73 rfl (lv_at hl 0 rfl) ?_
            refine lv_iload_n hx hb dJ6_numberOfLeadingZeros_0f7a4_74 rfl (lv_at hl 1 rfl) ?_
            refine lv_iconst (v := z_i 1) hx hb dJ6_numberOfLeadingZeros_0f7a4_75 rfl ?_
            refine lx_iushr hx hb dJ6_numberOfLeadingZeros_0f7a4_76 ?_
            refine lx_isub hx hb dJ6_numberOfLeadingZeros_0f7a4_77 ?_
            obtain ⟨hr1, hv⟩ := hv
            exact W.iret (v := z_i (31 - (z_ushr x 1))) hx hb hr (fun t ht hW => ⟨⟨z_i (31 - (z_ushr x 1)), (), rfl, ⟨31 - (z_ushr x 1), rfl, hr1, hv⟩, trivial⟩, hS.F ht⟩) hS.2.2 dJ6_numberOfLeadingZeros_0f7a4_78
          · have hv := hv.2 hc
            refine lv_iinc (v := z_i (31 - 2)) (lv' := [(1, .int (z_i (31 - 2))), (0, .int (z_i x))]) hx hb dJ6_numberOfLeadingZeros_0f7a4_66 hl (k := 0) rfl (z_i_add _ _) (by decide) rfl (fun ls hl => ?_)
            refine lv_iload_n hx hb dJ6_numberOfLeadingZeros_0f7a4_69 rfl (lv_at hl 1 rfl) ?_
            refine lv_iconst (v := z_i 2) hx hb dJ6_numberOfLeadingZeros_0f7a4_70 rfl ?_
            refine lx_iushr hx hb dJ6_numberOfLeadingZeros_0f7a4_71 ?_
            refine lx_topi (fun v2 hy3 => ?_)
            have hv := hv v2 hy3
            have h_v2 : z_in v2 := by rw [hy3]; exact (z_in_of _)
            refine lv_istore_n (lv' := [(0, .int (z_i v2)), (1, .int (z_i (31 - 2)))]) hx hb dJ6_numberOfLeadingZeros_0f7a4_72 rfl hl (by decide) rfl (fun ls hl => ?_)
            refine lv_iload_n hx hb dJ6_numberOfLeadingZeros_0f7a4_73 rfl (lv_at hl 1 rfl) ?_
            refine lv_iload_n hx hb dJ6_numberOfLeadingZeros_0f7a4_74 rfl (lv_at hl 0 rfl) ?_
            refine lv_iconst (v := z_i 1) hx hb dJ6_numberOfLeadingZeros_0f7a4_75 rfl ?_
            refine lx_iushr hx hb dJ6_numberOfLeadingZeros_0f7a4_76 ?_
            refine lx_isub hx hb dJ6_numberOfLeadingZeros_0f7a4_77 ?_
            obtain ⟨hr4, hv⟩ := hv
            exact W.iret (v := z_i ((31 - 2) - (z_ushr v2 1))) hx hb hr (fun t ht hW => ⟨⟨z_i ((31 - 2) - (z_ushr v2 1)), (), rfl, ⟨(31 - 2) - (z_ushr v2 1), rfl, hr4, hv⟩, trivial⟩, hS.F ht⟩) hS.2.2 dJ6_numberOfLeadingZeros_0f7a4_78
        · have hv := hv.2 hc
          refine lv_iinc (v := z_i (31 - 4)) (lv' := [(1, .int (z_i (31 - 4))), (0, .int (z_i x))]) hx hb dJ6_numberOfLeadingZeros_0f7a4_54 hl (k := 0) rfl (z_i_add _ _) (by decide) rfl (fun ls hl => ?_)
          refine lv_iload_n hx hb dJ6_numberOfLeadingZeros_0f7a4_57 rfl (lv_at hl 1 rfl) ?_
          refine lv_iconst (v := z_i 4) hx hb dJ6_numberOfLeadingZeros_0f7a4_58 rfl ?_
          refine lx_iushr hx hb dJ6_numberOfLeadingZeros_0f7a4_59 ?_
          refine lx_topi (fun v5 hy6 => ?_)
          have hv := hv v5 hy6
          have h_v5 : z_in v5 := by rw [hy6]; exact (z_in_of _)
          refine lv_istore_n (lv' := [(0, .int (z_i v5)), (1, .int (z_i (31 - 4)))]) hx hb dJ6_numberOfLeadingZeros_0f7a4_60 rfl hl (by decide) rfl (fun ls hl => ?_)
          refine lv_iload_n hx hb dJ6_numberOfLeadingZeros_0f7a4_61 rfl (lv_at hl 0 rfl) ?_
          refine lv_iconst (v := z_i 4) hx hb dJ6_numberOfLeadingZeros_0f7a4_62 rfl ?_
          refine lx_icmp_lt (tgt := 73) hx hb dJ6_numberOfLeadingZeros_0f7a4_63 (by decide) h_v5 (show z_in 4 from ⟨by decide, by decide⟩) (fun hc => ?_) (fun hc => ?_)
          · have hv := hv.1 hc
            refine lv_iload_n hx hb dJ6_numberOfLeadingZeros_0f7a4_73 rfl (lv_at hl 1 rfl) ?_
            refine lv_iload_n hx hb dJ6_numberOfLeadingZeros_0f7a4_74 rfl (lv_at hl 0 rfl) ?_
            refine lv_iconst (v := z_i 1) hx hb dJ6_numberOfLeadingZeros_0f7a4_75 rfl ?_
            refine lx_iushr hx hb dJ6_numberOfLeadingZeros_0f7a4_76 ?_
            refine lx_isub hx hb dJ6_numberOfLeadingZeros_0f7a4_77 ?_
            obtain ⟨hr7, hv⟩ := hv
            exact W.iret (v := z_i ((31 - 4) - (z_ushr v5 1))) hx hb hr (fun t ht hW => ⟨⟨z_i ((31 - 4) - (z_ushr v5 1)), (), rfl, ⟨(31 - 4) - (z_ushr v5 1), rfl, hr7, hv⟩, trivial⟩, hS.F ht⟩) hS.2.2 dJ6_numberOfLeadingZeros_0f7a4_78
          · have hv := hv.2 hc
            refine lv_iinc (v := z_i ((31 - 4) + (-2))) (lv' := [(1, .int (z_i ((31 - 4) + (-2)))), (0, .int (z_i v5))]) hx hb dJ6_numberOfLeadingZeros_0f7a4_66 hl (k := 1) rfl (z_i_add _ _) (by decide) rfl (fun ls hl => ?_)
            refine lv_iload_n hx hb dJ6_numberOfLeadingZeros_0f7a4_69 rfl (lv_at hl 1 rfl) ?_
            refine lv_iconst (v := z_i 2) hx hb dJ6_numberOfLeadingZeros_0f7a4_70 rfl ?_
            refine lx_iushr hx hb dJ6_numberOfLeadingZeros_0f7a4_71 ?_
            refine lx_topi (fun v8 hy9 => ?_)
            have hv := hv v8 hy9
            have h_v8 : z_in v8 := by rw [hy9]; exact (z_in_of _)
            refine lv_istore_n (lv' := [(0, .int (z_i v8)), (1, .int (z_i ((31 - 4) + (-2))))]) hx hb dJ6_numberOfLeadingZeros_0f7a4_72 rfl hl (by decide) rfl (fun ls hl => ?_)
            refine lv_iload_n hx hb dJ6_numberOfLeadingZeros_0f7a4_73 rfl (lv_at hl 1 rfl) ?_
            refine lv_iload_n hx hb dJ6_numberOfLeadingZeros_0f7a4_74 rfl (lv_at hl 0 rfl) ?_
            refine lv_iconst (v := z_i 1) hx hb dJ6_numberOfLeadingZeros_0f7a4_75 rfl ?_
            refine lx_iushr hx hb dJ6_numberOfLeadingZeros_0f7a4_76 ?_
            refine lx_isub hx hb dJ6_numberOfLeadingZeros_0f7a4_77 ?_
            obtain ⟨hr10, hv⟩ := hv
            exact W.iret (v := z_i (((31 - 4) + (-2)) - (z_ushr v8 1))) hx hb hr (fun t ht hW => ⟨⟨z_i (((31 - 4) + (-2)) - (z_ushr v8 1)), (), rfl, ⟨((31 - 4) + (-2)) - (z_ushr v8 1), rfl, hr10, hv⟩, trivial⟩, hS.F ht⟩) hS.2.2 dJ6_numberOfLeadingZeros_0f7a4_78
      · have hv := hv.2 hc
        refine lv_iinc (v := z_i (31 - 8)) (lv' := [(1, .int (z_i (31 - 8))), (0, .int (z_i x))]) hx hb dJ6_numberOfLeadingZeros_0f7a4_40 hl (k := 0) rfl (z_i_add _ _) (by decide) rfl (fun ls hl => ?_)
        refine lv_iload_n hx hb dJ6_numberOfLeadingZeros_0f7a4_43 rfl (lv_at hl 1 rfl) ?_
        refine lv_bipush (v := z_i 8) hx hb dJ6_numberOfLeadingZeros_0f7a4_44 (by decide) ?_
        refine lx_iushr hx hb dJ6_numberOfLeadingZeros_0f7a4_46 ?_
        refine lx_topi (fun v11 hy12 => ?_)
        have hv := hv v11 hy12
        have h_v11 : z_in v11 := by rw [hy12]; exact (z_in_of _)
        refine lv_istore_n (lv' := [(0, .int (z_i v11)), (1, .int (z_i (31 - 8)))]) hx hb dJ6_numberOfLeadingZeros_0f7a4_47 rfl hl (by decide) rfl (fun ls hl => ?_)
        refine lv_iload_n hx hb dJ6_numberOfLeadingZeros_0f7a4_48 rfl (lv_at hl 0 rfl) ?_
        refine lv_bipush (v := z_i 16) hx hb dJ6_numberOfLeadingZeros_0f7a4_49 (by decide) ?_
        refine lx_icmp_lt (tgt := 61) hx hb dJ6_numberOfLeadingZeros_0f7a4_51 (by decide) h_v11 (show z_in 16 from ⟨by decide, by decide⟩) (fun hc => ?_) (fun hc => ?_)
        · have hv := hv.1 hc
          refine lv_iload_n hx hb dJ6_numberOfLeadingZeros_0f7a4_61 rfl (lv_at hl 0 rfl) ?_
          refine lv_iconst (v := z_i 4) hx hb dJ6_numberOfLeadingZeros_0f7a4_62 rfl ?_
          refine lx_icmp_lt (tgt := 73) hx hb dJ6_numberOfLeadingZeros_0f7a4_63 (by decide) h_v11 (show z_in 4 from ⟨by decide, by decide⟩) (fun hc => ?_) (fun hc => ?_)
          · have hv := hv.1 hc
            refine lv_iload_n hx hb dJ6_numberOfLeadingZeros_0f7a4_73 rfl (lv_at hl 1 rfl) ?_
            refine lv_iload_n hx hb dJ6_numberOfLeadingZeros_0f7a4_74 rfl (lv_at hl 0 rfl) ?_
            refine lv_iconst (v := z_i 1) hx hb dJ6_numberOfLeadingZeros_0f7a4_75 rfl ?_
            refine lx_iushr hx hb dJ6_numberOfLeadingZeros_0f7a4_76 ?_
            refine lx_isub hx hb dJ6_numberOfLeadingZeros_0f7a4_77 ?_
            obtain ⟨hr13, hv⟩ := hv
            exact W.iret (v := z_i ((31 - 8) - (z_ushr v11 1))) hx hb hr (fun t ht hW => ⟨⟨z_i ((31 - 8) - (z_ushr v11 1)), (), rfl, ⟨(31 - 8) - (z_ushr v11 1), rfl, hr13, hv⟩, trivial⟩, hS.F ht⟩) hS.2.2 dJ6_numberOfLeadingZeros_0f7a4_78
          · have hv := hv.2 hc
            refine lv_iinc (v := z_i ((31 - 8) + (-2))) (lv' := [(1, .int (z_i ((31 - 8) + (-2)))), (0, .int (z_i v11))]) hx hb dJ6_numberOfLeadingZeros_0f7a4_66 hl (k := 1) rfl (z_i_add _ _) (by decide) rfl (fun ls hl => ?_)
            refine lv_iload_n hx hb dJ6_numberOfLeadingZeros_0f7a4_69 rfl (lv_at hl 1 rfl) ?_
            refine lv_iconst (v := z_i 2) hx hb dJ6_numberOfLeadingZeros_0f7a4_70 rfl ?_
            refine lx_iushr hx hb dJ6_numberOfLeadingZeros_0f7a4_71 ?_
            refine lx_topi (fun v14 hy15 => ?_)
            have hv := hv v14 hy15
            have h_v14 : z_in v14 := by rw [hy15]; exact (z_in_of _)
            refine lv_istore_n (lv' := [(0, .int (z_i v14)), (1, .int (z_i ((31 - 8) + (-2))))]) hx hb dJ6_numberOfLeadingZeros_0f7a4_72 rfl hl (by decide) rfl (fun ls hl => ?_)
            refine lv_iload_n hx hb dJ6_numberOfLeadingZeros_0f7a4_73 rfl (lv_at hl 1 rfl) ?_
            refine lv_iload_n hx hb dJ6_numberOfLeadingZeros_0f7a4_74 rfl (lv_at hl 0 rfl) ?_
            refine lv_iconst (v := z_i 1) hx hb dJ6_numberOfLeadingZeros_0f7a4_75 rfl ?_
            refine lx_iushr hx hb dJ6_numberOfLeadingZeros_0f7a4_76 ?_
            refine lx_isub hx hb dJ6_numberOfLeadingZeros_0f7a4_77 ?_
            obtain ⟨hr16, hv⟩ := hv
            exact W.iret (v := z_i (((31 - 8) + (-2)) - (z_ushr v14 1))) hx hb hr (fun t ht hW => ⟨⟨z_i (((31 - 8) + (-2)) - (z_ushr v14 1)), (), rfl, ⟨((31 - 8) + (-2)) - (z_ushr v14 1), rfl, hr16, hv⟩, trivial⟩, hS.F ht⟩) hS.2.2 dJ6_numberOfLeadingZeros_0f7a4_78
        · have hv := hv.2 hc
          refine lv_iinc (v := z_i ((31 - 8) + (-4))) (lv' := [(1, .int (z_i ((31 - 8) + (-4)))), (0, .int (z_i v11))]) hx hb dJ6_numberOfLeadingZeros_0f7a4_54 hl (k := 1) rfl (z_i_add _ _) (by decide) rfl (fun ls hl => ?_)
          refine lv_iload_n hx hb dJ6_numberOfLeadingZeros_0f7a4_57 rfl (lv_at hl 1 rfl) ?_
          refine lv_iconst (v := z_i 4) hx hb dJ6_numberOfLeadingZeros_0f7a4_58 rfl ?_
          refine lx_iushr hx hb dJ6_numberOfLeadingZeros_0f7a4_59 ?_
          refine lx_topi (fun v17 hy18 => ?_)
          have hv := hv v17 hy18
          have h_v17 : z_in v17 := by rw [hy18]; exact (z_in_of _)
          refine lv_istore_n (lv' := [(0, .int (z_i v17)), (1, .int (z_i ((31 - 8) + (-4))))]) hx hb dJ6_numberOfLeadingZeros_0f7a4_60 rfl hl (by decide) rfl (fun ls hl => ?_)
          refine lv_iload_n hx hb dJ6_numberOfLeadingZeros_0f7a4_61 rfl (lv_at hl 0 rfl) ?_
          refine lv_iconst (v := z_i 4) hx hb dJ6_numberOfLeadingZeros_0f7a4_62 rfl ?_
          refine lx_icmp_lt (tgt := 73) hx hb dJ6_numberOfLeadingZeros_0f7a4_63 (by decide) h_v17 (show z_in 4 from ⟨by decide, by decide⟩) (fun hc => ?_) (fun hc => ?_)
          · have hv := hv.1 hc
            refine lv_iload_n hx hb dJ6_numberOfLeadingZeros_0f7a4_73 rfl (lv_at hl 1 rfl) ?_
            refine lv_iload_n hx hb dJ6_numberOfLeadingZeros_0f7a4_74 rfl (lv_at hl 0 rfl) ?_
            refine lv_iconst (v := z_i 1) hx hb dJ6_numberOfLeadingZeros_0f7a4_75 rfl ?_
            refine lx_iushr hx hb dJ6_numberOfLeadingZeros_0f7a4_76 ?_
            refine lx_isub hx hb dJ6_numberOfLeadingZeros_0f7a4_77 ?_
            obtain ⟨hr19, hv⟩ := hv
            exact W.iret (v := z_i (((31 - 8) + (-4)) - (z_ushr v17 1))) hx hb hr (fun t ht hW => ⟨⟨z_i (((31 - 8) + (-4)) - (z_ushr v17 1)), (), rfl, ⟨((31 - 8) + (-4)) - (z_ushr v17 1), rfl, hr19, hv⟩, trivial⟩, hS.F ht⟩) hS.2.2 dJ6_numberOfLeadingZeros_0f7a4_78
          · have hv := hv.2 hc
            refine lv_iinc (v := z_i (((31 - 8) + (-4)) + (-2))) (lv' := [(1, .int (z_i (((31 - 8) + (-4)) + (-2)))), (0, .int (z_i v17))]) hx hb dJ6_numberOfLeadingZeros_0f7a4_66 hl (k := 1) rfl (z_i_add _ _) (by decide) rfl (fun ls hl => ?_)
            refine lv_iload_n hx hb dJ6_numberOfLeadingZeros_0f7a4_69 rfl (lv_at hl 1 rfl) ?_
            refine lv_iconst (v := z_i 2) hx hb dJ6_numberOfLeadingZeros_0f7a4_70 rfl ?_
            refine lx_iushr hx hb dJ6_numberOfLeadingZeros_0f7a4_71 ?_
            refine lx_topi (fun v20 hy21 => ?_)
            have hv := hv v20 hy21
            have h_v20 : z_in v20 := by rw [hy21]; exact (z_in_of _)
            refine lv_istore_n (lv' := [(0, .int (z_i v20)), (1, .int (z_i (((31 - 8) + (-4)) + (-2))))]) hx hb dJ6_numberOfLeadingZeros_0f7a4_72 rfl hl (by decide) rfl (fun ls hl => ?_)
            refine lv_iload_n hx hb dJ6_numberOfLeadingZeros_0f7a4_73 rfl (lv_at hl 1 rfl) ?_
            refine lv_iload_n hx hb dJ6_numberOfLeadingZeros_0f7a4_74 rfl (lv_at hl 0 rfl) ?_
            refine lv_iconst (v := z_i 1) hx hb dJ6_numberOfLeadingZeros_0f7a4_75 rfl ?_
            refine lx_iushr hx hb dJ6_numberOfLeadingZeros_0f7a4_76 ?_
            refine lx_isub hx hb dJ6_numberOfLeadingZeros_0f7a4_77 ?_
            obtain ⟨hr22, hv⟩ := hv
            exact W.iret (v := z_i ((((31 - 8) + (-4)) + (-2)) - (z_ushr v20 1))) hx hb hr (fun t ht hW => ⟨⟨z_i ((((31 - 8) + (-4)) + (-2)) - (z_ushr v20 1)), (), rfl, ⟨(((31 - 8) + (-4)) + (-2)) - (z_ushr v20 1), rfl, hr22, hv⟩, trivial⟩, hS.F ht⟩) hS.2.2 dJ6_numberOfLeadingZeros_0f7a4_78
    · have hv := hv.2 hc
      refine lv_iinc (v := z_i (31 - 16)) (lv' := [(1, .int (z_i (31 - 16))), (0, .int (z_i x))]) hx hb dJ6_numberOfLeadingZeros_0f7a4_25 hl (k := 0) rfl (z_i_add _ _) (by decide) rfl (fun ls hl => ?_)
      refine lv_iload_n hx hb dJ6_numberOfLeadingZeros_0f7a4_28 rfl (lv_at hl 1 rfl) ?_
      refine lv_bipush (v := z_i 16) hx hb dJ6_numberOfLeadingZeros_0f7a4_29 (by decide) ?_
      refine lx_iushr hx hb dJ6_numberOfLeadingZeros_0f7a4_31 ?_
      refine lx_topi (fun v23 hy24 => ?_)
      have hv := hv v23 hy24
      have h_v23 : z_in v23 := by rw [hy24]; exact (z_in_of _)
      refine lv_istore_n (lv' := [(0, .int (z_i v23)), (1, .int (z_i (31 - 16)))]) hx hb dJ6_numberOfLeadingZeros_0f7a4_32 rfl hl (by decide) rfl (fun ls hl => ?_)
      refine lv_iload_n hx hb dJ6_numberOfLeadingZeros_0f7a4_33 rfl (lv_at hl 0 rfl) ?_
      refine lv_sipush (v := z_i 256) hx hb dJ6_numberOfLeadingZeros_0f7a4_34 (by decide) ?_
      refine lx_icmp_lt (tgt := 48) hx hb dJ6_numberOfLeadingZeros_0f7a4_37 (by decide) h_v23 (show z_in 256 from ⟨by decide, by decide⟩) (fun hc => ?_) (fun hc => ?_)
      · have hv := hv.1 hc
        refine lv_iload_n hx hb dJ6_numberOfLeadingZeros_0f7a4_48 rfl (lv_at hl 0 rfl) ?_
        refine lv_bipush (v := z_i 16) hx hb dJ6_numberOfLeadingZeros_0f7a4_49 (by decide) ?_
        refine lx_icmp_lt (tgt := 61) hx hb dJ6_numberOfLeadingZeros_0f7a4_51 (by decide) h_v23 (show z_in 16 from ⟨by decide, by decide⟩) (fun hc => ?_) (fun hc => ?_)
        · have hv := hv.1 hc
          refine lv_iload_n hx hb dJ6_numberOfLeadingZeros_0f7a4_61 rfl (lv_at hl 0 rfl) ?_
          refine lv_iconst (v := z_i 4) hx hb dJ6_numberOfLeadingZeros_0f7a4_62 rfl ?_
          refine lx_icmp_lt (tgt := 73) hx hb dJ6_numberOfLeadingZeros_0f7a4_63 (by decide) h_v23 (show z_in 4 from ⟨by decide, by decide⟩) (fun hc => ?_) (fun hc => ?_)
          · have hv := hv.1 hc
            refine lv_iload_n hx hb dJ6_numberOfLeadingZeros_0f7a4_73 rfl (lv_at hl 1 rfl) ?_
            refine lv_iload_n hx hb dJ6_numberOfLeadingZeros_0f7a4_74 rfl (lv_at hl 0 rfl) ?_
            refine lv_iconst (v := z_i 1) hx hb dJ6_numberOfLeadingZeros_0f7a4_75 rfl ?_
            refine lx_iushr hx hb dJ6_numberOfLeadingZeros_0f7a4_76 ?_
            refine lx_isub hx hb dJ6_numberOfLeadingZeros_0f7a4_77 ?_
            obtain ⟨hr25, hv⟩ := hv
            exact W.iret (v := z_i ((31 - 16) - (z_ushr v23 1))) hx hb hr (fun t ht hW => ⟨⟨z_i ((31 - 16) - (z_ushr v23 1)), (), rfl, ⟨(31 - 16) - (z_ushr v23 1), rfl, hr25, hv⟩, trivial⟩, hS.F ht⟩) hS.2.2 dJ6_numberOfLeadingZeros_0f7a4_78
          · have hv := hv.2 hc
            refine lv_iinc (v := z_i ((31 - 16) + (-2))) (lv' := [(1, .int (z_i ((31 - 16) + (-2)))), (0, .int (z_i v23))]) hx hb dJ6_numberOfLeadingZeros_0f7a4_66 hl (k := 1) rfl (z_i_add _ _) (by decide) rfl (fun ls hl => ?_)
            refine lv_iload_n hx hb dJ6_numberOfLeadingZeros_0f7a4_69 rfl (lv_at hl 1 rfl) ?_
            refine lv_iconst (v := z_i 2) hx hb dJ6_numberOfLeadingZeros_0f7a4_70 rfl ?_
            refine lx_iushr hx hb dJ6_numberOfLeadingZeros_0f7a4_71 ?_
            refine lx_topi (fun v26 hy27 => ?_)
            have hv := hv v26 hy27
            have h_v26 : z_in v26 := by rw [hy27]; exact (z_in_of _)
            refine lv_istore_n (lv' := [(0, .int (z_i v26)), (1, .int (z_i ((31 - 16) + (-2))))]) hx hb dJ6_numberOfLeadingZeros_0f7a4_72 rfl hl (by decide) rfl (fun ls hl => ?_)
            refine lv_iload_n hx hb dJ6_numberOfLeadingZeros_0f7a4_73 rfl (lv_at hl 1 rfl) ?_
            refine lv_iload_n hx hb dJ6_numberOfLeadingZeros_0f7a4_74 rfl (lv_at hl 0 rfl) ?_
            refine lv_iconst (v := z_i 1) hx hb dJ6_numberOfLeadingZeros_0f7a4_75 rfl ?_
            refine lx_iushr hx hb dJ6_numberOfLeadingZeros_0f7a4_76 ?_
            refine lx_isub hx hb dJ6_numberOfLeadingZeros_0f7a4_77 ?_
            obtain ⟨hr28, hv⟩ := hv
            exact W.iret (v := z_i (((31 - 16) + (-2)) - (z_ushr v26 1))) hx hb hr (fun t ht hW => ⟨⟨z_i (((31 - 16) + (-2)) - (z_ushr v26 1)), (), rfl, ⟨((31 - 16) + (-2)) - (z_ushr v26 1), rfl, hr28, hv⟩, trivial⟩, hS.F ht⟩) hS.2.2 dJ6_numberOfLeadingZeros_0f7a4_78
        · have hv := hv.2 hc
          refine lv_iinc (v := z_i ((31 - 16) + (-4))) (lv' := [(1, .int (z_i ((31 - 16) + (-4)))), (0, .int (z_i v23))]) hx hb dJ6_numberOfLeadingZeros_0f7a4_54 hl (k := 1) rfl (z_i_add _ _) (by decide) rfl (fun ls hl => ?_)
          refine lv_iload_n hx hb dJ6_numberOfLeadingZeros_0f7a4_57 rfl (lv_at hl 1 rfl) ?_
          refine lv_iconst (v := z_i 4) hx hb dJ6_numberOfLeadingZeros_0f7a4_58 rfl ?_
          refine lx_iushr hx hb dJ6_numberOfLeadingZeros_0f7a4_59 ?_
          refine lx_topi (fun v29 hy30 => ?_)
          have hv := hv v29 hy30
          have h_v29 : z_in v29 := by rw [hy30]; exact (z_in_of _)
          refine lv_istore_n (lv' := [(0, .int (z_i v29)), (1, .int (z_i ((31 - 16) + (-4))))]) hx hb dJ6_numberOfLeadingZeros_0f7a4_60 rfl hl (by decide) rfl (fun ls hl => ?_)
          refine lv_iload_n hx hb dJ6_numberOfLeadingZeros_0f7a4_61 rfl (lv_at hl 0 rfl) ?_
          refine lv_iconst (v := z_i 4) hx hb dJ6_numberOfLeadingZeros_0f7a4_62 rfl ?_
          refine lx_icmp_lt (tgt := 73) hx hb dJ6_numberOfLeadingZeros_0f7a4_63 (by decide) h_v29 (show z_in 4 from ⟨by decide, by decide⟩) (fun hc => ?_) (fun hc => ?_)
          · have hv := hv.1 hc
            refine lv_iload_n hx hb dJ6_numberOfLeadingZeros_0f7a4_73 rfl (lv_at hl 1 rfl) ?_
            refine lv_iload_n hx hb dJ6_numberOfLeadingZeros_0f7a4_74 rfl (lv_at hl 0 rfl) ?_
            refine lv_iconst (v := z_i 1) hx hb dJ6_numberOfLeadingZeros_0f7a4_75 rfl ?_
            refine lx_iushr hx hb dJ6_numberOfLeadingZeros_0f7a4_76 ?_
            refine lx_isub hx hb dJ6_numberOfLeadingZeros_0f7a4_77 ?_
            obtain ⟨hr31, hv⟩ := hv
            exact W.iret (v := z_i (((31 - 16) + (-4)) - (z_ushr v29 1))) hx hb hr (fun t ht hW => ⟨⟨z_i (((31 - 16) + (-4)) - (z_ushr v29 1)), (), rfl, ⟨((31 - 16) + (-4)) - (z_ushr v29 1), rfl, hr31, hv⟩, trivial⟩, hS.F ht⟩) hS.2.2 dJ6_numberOfLeadingZeros_0f7a4_78
          · have hv := hv.2 hc
            refine lv_iinc (v := z_i (((31 - 16) + (-4)) + (-2))) (lv' := [(1, .int (z_i (((31 - 16) + (-4)) + (-2)))), (0, .int (z_i v29))]) hx hb dJ6_numberOfLeadingZeros_0f7a4_66 hl (k := 1) rfl (z_i_add _ _) (by decide) rfl (fun ls hl => ?_)
            refine lv_iload_n hx hb dJ6_numberOfLeadingZeros_0f7a4_69 rfl (lv_at hl 1 rfl) ?_
            refine lv_iconst (v := z_i 2) hx hb dJ6_numberOfLeadingZeros_0f7a4_70 rfl ?_
            refine lx_iushr hx hb dJ6_numberOfLeadingZeros_0f7a4_71 ?_
            refine lx_topi (fun v32 hy33 => ?_)
            have hv := hv v32 hy33
            have h_v32 : z_in v32 := by rw [hy33]; exact (z_in_of _)
            refine lv_istore_n (lv' := [(0, .int (z_i v32)), (1, .int (z_i (((31 - 16) + (-4)) + (-2))))]) hx hb dJ6_numberOfLeadingZeros_0f7a4_72 rfl hl (by decide) rfl (fun ls hl => ?_)
            refine lv_iload_n hx hb dJ6_numberOfLeadingZeros_0f7a4_73 rfl (lv_at hl 1 rfl) ?_
            refine lv_iload_n hx hb dJ6_numberOfLeadingZeros_0f7a4_74 rfl (lv_at hl 0 rfl) ?_
            refine lv_iconst (v := z_i 1) hx hb dJ6_numberOfLeadingZeros_0f7a4_75 rfl ?_
            refine lx_iushr hx hb dJ6_numberOfLeadingZeros_0f7a4_76 ?_
            refine lx_isub hx hb dJ6_numberOfLeadingZeros_0f7a4_77 ?_
            obtain ⟨hr34, hv⟩ := hv
            exact W.iret (v := z_i ((((31 - 16) + (-4)) + (-2)) - (z_ushr v32 1))) hx hb hr (fun t ht hW => ⟨⟨z_i ((((31 - 16) + (-4)) + (-2)) - (z_ushr v32 1)), (), rfl, ⟨(((31 - 16) + (-4)) + (-2)) - (z_ushr v32 1), rfl, hr34, hv⟩, trivial⟩, hS.F ht⟩) hS.2.2 dJ6_numberOfLeadingZeros_0f7a4_78
      · have hv := hv.2 hc
        refine lv_iinc (v := z_i ((31 - 16) + (-8))) (lv' := [(1, .int (z_i ((31 - 16) + (-8)))), (0, .int (z_i v23))]) hx hb dJ6_numberOfLeadingZeros_0f7a4_40 hl (k := 1) rfl (z_i_add _ _) (by decide) rfl (fun ls hl => ?_)
        refine lv_iload_n hx hb dJ6_numberOfLeadingZeros_0f7a4_43 rfl (lv_at hl 1 rfl) ?_
        refine lv_bipush (v := z_i 8) hx hb dJ6_numberOfLeadingZeros_0f7a4_44 (by decide) ?_
        refine lx_iushr hx hb dJ6_numberOfLeadingZeros_0f7a4_46 ?_
        refine lx_topi (fun v35 hy36 => ?_)
        have hv := hv v35 hy36
        have h_v35 : z_in v35 := by rw [hy36]; exact (z_in_of _)
        refine lv_istore_n (lv' := [(0, .int (z_i v35)), (1, .int (z_i ((31 - 16) + (-8))))]) hx hb dJ6_numberOfLeadingZeros_0f7a4_47 rfl hl (by decide) rfl (fun ls hl => ?_)
        refine lv_iload_n hx hb dJ6_numberOfLeadingZeros_0f7a4_48 rfl (lv_at hl 0 rfl) ?_
        refine lv_bipush (v := z_i 16) hx hb dJ6_numberOfLeadingZeros_0f7a4_49 (by decide) ?_
        refine lx_icmp_lt (tgt := 61) hx hb dJ6_numberOfLeadingZeros_0f7a4_51 (by decide) h_v35 (show z_in 16 from ⟨by decide, by decide⟩) (fun hc => ?_) (fun hc => ?_)
        · have hv := hv.1 hc
          refine lv_iload_n hx hb dJ6_numberOfLeadingZeros_0f7a4_61 rfl (lv_at hl 0 rfl) ?_
          refine lv_iconst (v := z_i 4) hx hb dJ6_numberOfLeadingZeros_0f7a4_62 rfl ?_
          refine lx_icmp_lt (tgt := 73) hx hb dJ6_numberOfLeadingZeros_0f7a4_63 (by decide) h_v35 (show z_in 4 from ⟨by decide, by decide⟩) (fun hc => ?_) (fun hc => ?_)
          · have hv := hv.1 hc
            refine lv_iload_n hx hb dJ6_numberOfLeadingZeros_0f7a4_73 rfl (lv_at hl 1 rfl) ?_
            refine lv_iload_n hx hb dJ6_numberOfLeadingZeros_0f7a4_74 rfl (lv_at hl 0 rfl) ?_
            refine lv_iconst (v := z_i 1) hx hb dJ6_numberOfLeadingZeros_0f7a4_75 rfl ?_
            refine lx_iushr hx hb dJ6_numberOfLeadingZeros_0f7a4_76 ?_
            refine lx_isub hx hb dJ6_numberOfLeadingZeros_0f7a4_77 ?_
            obtain ⟨hr37, hv⟩ := hv
            exact W.iret (v := z_i (((31 - 16) + (-8)) - (z_ushr v35 1))) hx hb hr (fun t ht hW => ⟨⟨z_i (((31 - 16) + (-8)) - (z_ushr v35 1)), (), rfl, ⟨((31 - 16) + (-8)) - (z_ushr v35 1), rfl, hr37, hv⟩, trivial⟩, hS.F ht⟩) hS.2.2 dJ6_numberOfLeadingZeros_0f7a4_78
          · have hv := hv.2 hc
            refine lv_iinc (v := z_i (((31 - 16) + (-8)) + (-2))) (lv' := [(1, .int (z_i (((31 - 16) + (-8)) + (-2)))), (0, .int (z_i v35))]) hx hb dJ6_numberOfLeadingZeros_0f7a4_66 hl (k := 1) rfl (z_i_add _ _) (by decide) rfl (fun ls hl => ?_)
            refine lv_iload_n hx hb dJ6_numberOfLeadingZeros_0f7a4_69 rfl (lv_at hl 1 rfl) ?_
            refine lv_iconst (v := z_i 2) hx hb dJ6_numberOfLeadingZeros_0f7a4_70 rfl ?_
            refine lx_iushr hx hb dJ6_numberOfLeadingZeros_0f7a4_71 ?_
            refine lx_topi (fun v38 hy39 => ?_)
            have hv := hv v38 hy39
            have h_v38 : z_in v38 := by rw [hy39]; exact (z_in_of _)
            refine lv_istore_n (lv' := [(0, .int (z_i v38)), (1, .int (z_i (((31 - 16) + (-8)) + (-2))))]) hx hb dJ6_numberOfLeadingZeros_0f7a4_72 rfl hl (by decide) rfl (fun ls hl => ?_)
            refine lv_iload_n hx hb dJ6_numberOfLeadingZeros_0f7a4_73 rfl (lv_at hl 1 rfl) ?_
            refine lv_iload_n hx hb dJ6_numberOfLeadingZeros_0f7a4_74 rfl (lv_at hl 0 rfl) ?_
            refine lv_iconst (v := z_i 1) hx hb dJ6_numberOfLeadingZeros_0f7a4_75 rfl ?_
            refine lx_iushr hx hb dJ6_numberOfLeadingZeros_0f7a4_76 ?_
            refine lx_isub hx hb dJ6_numberOfLeadingZeros_0f7a4_77 ?_
            obtain ⟨hr40, hv⟩ := hv
            exact W.iret (v := z_i ((((31 - 16) + (-8)) + (-2)) - (z_ushr v38 1))) hx hb hr (fun t ht hW => ⟨⟨z_i ((((31 - 16) + (-8)) + (-2)) - (z_ushr v38 1)), (), rfl, ⟨(((31 - 16) + (-8)) + (-2)) - (z_ushr v38 1), rfl, hr40, hv⟩, trivial⟩, hS.F ht⟩) hS.2.2 dJ6_numberOfLeadingZeros_0f7a4_78
        · have hv := hv.2 hc
          refine lv_iinc (v := z_i (((31 - 16) + (-8)) + (-4))) (lv' := [(1, .int (z_i (((31 - 16) + (-8)) + (-4)))), (0, .int (z_i v35))]) hx hb dJ6_numberOfLeadingZeros_0f7a4_54 hl (k := 1) rfl (z_i_add _ _) (by decide) rfl (fun ls hl => ?_)
          refine lv_iload_n hx hb dJ6_numberOfLeadingZeros_0f7a4_57 rfl (lv_at hl 1 rfl) ?_
          refine lv_iconst (v := z_i 4) hx hb dJ6_numberOfLeadingZeros_0f7a4_58 rfl ?_
          refine lx_iushr hx hb dJ6_numberOfLeadingZeros_0f7a4_59 ?_
          refine lx_topi (fun v41 hy42 => ?_)
          have hv := hv v41 hy42
          have h_v41 : z_in v41 := by rw [hy42]; exact (z_in_of _)
          refine lv_istore_n (lv' := [(0, .int (z_i v41)), (1, .int (z_i (((31 - 16) + (-8)) + (-4))))]) hx hb dJ6_numberOfLeadingZeros_0f7a4_60 rfl hl (by decide) rfl (fun ls hl => ?_)
          refine lv_iload_n hx hb dJ6_numberOfLeadingZeros_0f7a4_61 rfl (lv_at hl 0 rfl) ?_
          refine lv_iconst (v := z_i 4) hx hb dJ6_numberOfLeadingZeros_0f7a4_62 rfl ?_
          refine lx_icmp_lt (tgt := 73) hx hb dJ6_numberOfLeadingZeros_0f7a4_63 (by decide) h_v41 (show z_in 4 from ⟨by decide, by decide⟩) (fun hc => ?_) (fun hc => ?_)
          · have hv := hv.1 hc
            refine lv_iload_n hx hb dJ6_numberOfLeadingZeros_0f7a4_73 rfl (lv_at hl 1 rfl) ?_
            refine lv_iload_n hx hb dJ6_numberOfLeadingZeros_0f7a4_74 rfl (lv_at hl 0 rfl) ?_
            refine lv_iconst (v := z_i 1) hx hb dJ6_numberOfLeadingZeros_0f7a4_75 rfl ?_
            refine lx_iushr hx hb dJ6_numberOfLeadingZeros_0f7a4_76 ?_
            refine lx_isub hx hb dJ6_numberOfLeadingZeros_0f7a4_77 ?_
            obtain ⟨hr43, hv⟩ := hv
            exact W.iret (v := z_i ((((31 - 16) + (-8)) + (-4)) - (z_ushr v41 1))) hx hb hr (fun t ht hW => ⟨⟨z_i ((((31 - 16) + (-8)) + (-4)) - (z_ushr v41 1)), (), rfl, ⟨(((31 - 16) + (-8)) + (-4)) - (z_ushr v41 1), rfl, hr43, hv⟩, trivial⟩, hS.F ht⟩) hS.2.2 dJ6_numberOfLeadingZeros_0f7a4_78
          · have hv := hv.2 hc
            refine lv_iinc (v := z_i ((((31 - 16) + (-8)) + (-4)) + (-2))) (lv' := [(1, .int (z_i ((((31 - 16) + (-8)) + (-4)) + (-2)))), (0, .int (z_i v41))]) hx hb dJ6_numberOfLeadingZeros_0f7a4_66 hl (k := 1) rfl (z_i_add _ _) (by decide) rfl (fun ls hl => ?_)
            refine lv_iload_n hx hb dJ6_numberOfLeadingZeros_0f7a4_69 rfl (lv_at hl 1 rfl) ?_
            refine lv_iconst (v := z_i 2) hx hb dJ6_numberOfLeadingZeros_0f7a4_70 rfl ?_
            refine lx_iushr hx hb dJ6_numberOfLeadingZeros_0f7a4_71 ?_
            refine lx_topi (fun v44 hy45 => ?_)
            have hv := hv v44 hy45
            have h_v44 : z_in v44 := by rw [hy45]; exact (z_in_of _)
            refine lv_istore_n (lv' := [(0, .int (z_i v44)), (1, .int (z_i ((((31 - 16) + (-8)) + (-4)) + (-2))))]) hx hb dJ6_numberOfLeadingZeros_0f7a4_72 rfl hl (by decide) rfl (fun ls hl => ?_)
            refine lv_iload_n hx hb dJ6_numberOfLeadingZeros_0f7a4_73 rfl (lv_at hl 1 rfl) ?_
            refine lv_iload_n hx hb dJ6_numberOfLeadingZeros_0f7a4_74 rfl (lv_at hl 0 rfl) ?_
            refine lv_iconst (v := z_i 1) hx hb dJ6_numberOfLeadingZeros_0f7a4_75 rfl ?_
            refine lx_iushr hx hb dJ6_numberOfLeadingZeros_0f7a4_76 ?_
            refine lx_isub hx hb dJ6_numberOfLeadingZeros_0f7a4_77 ?_
            obtain ⟨hr46, hv⟩ := hv
            exact W.iret (v := z_i (((((31 - 16) + (-8)) + (-4)) + (-2)) - (z_ushr v44 1))) hx hb hr (fun t ht hW => ⟨⟨z_i (((((31 - 16) + (-8)) + (-4)) + (-2)) - (z_ushr v44 1)), (), rfl, ⟨((((31 - 16) + (-8)) + (-4)) + (-2)) - (z_ushr v44 1), rfl, hr46, hv⟩, trivial⟩, hS.F ht⟩) hS.2.2 dJ6_numberOfLeadingZeros_0f7a4_78
  · have hv := hv.2 hc
    refine lv_iload_n hx hb dJ6_numberOfLeadingZeros_0f7a4_4 rfl (lv_at hl 0 rfl) ?_
    refine lx_if_ne (tgt := 13) hx hb dJ6_numberOfLeadingZeros_0f7a4_5 (by decide) h_x (fun hc => ?_) (fun hc => ?_)
    · have hv := hv.1 hc
      refine lv_iconst (v := z_i 0) hx hb dJ6_numberOfLeadingZeros_0f7a4_13 rfl ?_
      exact W.iret (v := z_i 0) hx hb hr (fun t ht hW => ⟨⟨z_i 0, (), rfl, ⟨0, rfl, (show z_in 0 from ⟨by decide, by decide⟩), hv⟩, trivial⟩, hS.F ht⟩) hS.2.2 dJ6_numberOfLeadingZeros_0f7a4_14
    · have hv := hv.2 hc
      refine lv_bipush (v := z_i 32) hx hb dJ6_numberOfLeadingZeros_0f7a4_8 (by decide) ?_
      refine lv_goto (tgt := 14) hx hb dJ6_numberOfLeadingZeros_0f7a4_10 (by decide) ?_
      exact W.iret (v := z_i 32) hx hb hr (fun t ht hW => ⟨⟨z_i 32, (), rfl, ⟨32, rfl, (show z_in 32 from ⟨by decide, by decide⟩), hv⟩, trivial⟩, hS.F ht⟩) hS.2.2 dJ6_numberOfLeadingZeros_0f7a4_14
set_option maxHeartbeats 4000000 in
set_option maxRecDepth 100000 in
theorem mt_J6_numberOfLeadingZeros_0f7a4 (l : Launch) (D : va_G) (cA : Nat → ClassId) (x : Int) (h_x : z_in x) (hp1 : 1 ≤ x ∧ x ≤ 8388608) : Met l yJ6_numberOfLeadingZeros_0f7a4 wsJ6_numberOfLeadingZeros_0f7a4 ({ frames := 0, cells := 0, slots := 0, locals := 0 } : Room) (va_Pc [.int (z_i x)] (z_B0 D cA [])) (va_Qi (z_ri (fun (r : Int) => r = 31 - (x.toNat.log2 : Int))) (fun _ _ => True) (fun _ => False)) 0 0 (fun _ => False) := by
  refine wk_J6_numberOfLeadingZeros_0f7a4 l D cA x h_x (fun (r : Int) => r = 31 - (x.toNat.log2 : Int)) ?_
  unfold vc_J6_numberOfLeadingZeros_0f7a4
  obtain ⟨n, rfl⟩ := Int.eq_ofNat_of_zero_le (show 0 ≤ x by omega)
  have hn0 : n ≠ 0 := by omega
  have hlt : n < 2147483648 := by omega
  have hsh : ∀ (a k : Nat), a < 2147483648 → k < 32 → z_ushr (a : Int) (k : Int) = ((a / 2 ^ k : Nat) : Int) := fun a k => z_ushr_nat
  have key : ∀ (q t : Nat) (v : Int), n / 2 ^ t = q → 1 ≤ q → q < 4 → v = 31 - (t : Int) → z_in (v - z_ushr (q : Int) 1) ∧ v - z_ushr (q : Int) 1 = 31 - ((n.log2 : Nat) : Int) := by
    intro q t v hq h1 h4 hv
    have e : z_ushr (q : Int) 1 = ((q / 2 ^ 1 : Nat) : Int) := hsh q 1 (by omega) (by decide)
    have hlog : n.log2 = t + q / 2 ^ 1 := by
      rw [Nat.log2_eq_iff hn0]
      have hp : 0 < 2 ^ t := Nat.two_pow_pos t
      have hd := Nat.div_add_mod n (2 ^ t)
      have hm := Nat.mod_lt n hp
      rw [hq] at hd
      have hq3 : q = 1 ∨ q = 2 ∨ q = 3 := by omega
      rcases hq3 with rfl | rfl | rfl
      · refine ⟨by simp; omega, ?_⟩
        rw [show t + 1 / 2 ^ 1 + 1 = t + 1 by rfl, Nat.pow_succ]; omega
      · refine ⟨by rw [show t + 2 / 2 ^ 1 = t + 1 by rfl, Nat.pow_succ]; omega, ?_⟩
        rw [show t + 2 / 2 ^ 1 + 1 = t + 2 by rfl, Nat.pow_add]; omega
      · refine ⟨by rw [show t + 3 / 2 ^ 1 = t + 1 by rfl, Nat.pow_succ]; omega, ?_⟩
        rw [show t + 3 / 2 ^ 1 + 1 = t + 2 by rfl, Nat.pow_add]; omega
    have ht : t < 32 := by
      apply Nat.lt_of_not_le
      intro h32
      have h2 : 2 ^ 32 ≤ 2 ^ t := Nat.pow_le_pow_right (by decide) h32
      rw [Nat.div_eq_of_lt (by omega)] at hq
      omega
    rw [e, hlog, hv]
    refine ⟨⟨by omega, by omega⟩, by omega⟩
  have dd : ∀ a b : Nat, n / 2 ^ a / 2 ^ b = n / 2 ^ (a + b) := fun a b => by rw [Nat.div_div_eq_div_mul, ← Nat.pow_add]
  rw [Int.toNat_natCast]
  have s2 : ∀ (q : Nat), q < 2147483648 → z_ushr (q : Int) 2 = ((q / 2 ^ 2 : Nat) : Int) := fun q h => hsh q 2 h (by decide)
  have s4 : ∀ (q : Nat), q < 2147483648 → z_ushr (q : Int) 4 = ((q / 2 ^ 4 : Nat) : Int) := fun q h => hsh q 4 h (by decide)
  have s8 : ∀ (q : Nat), q < 2147483648 → z_ushr (q : Int) 8 = ((q / 2 ^ 8 : Nat) : Int) := fun q h => hsh q 8 h (by decide)
  have s16 : ∀ (q : Nat), q < 2147483648 → z_ushr (q : Int) 16 = ((q / 2 ^ 16 : Nat) : Int) := fun q h => hsh q 16 h (by decide)
  have last : ∀ (q t : Nat) (v : Int), n / 2 ^ t = q → 1 ≤ q → q < 16 → q < 2147483648 → v = 31 - (t : Int) → ((q : Int) < 4 → z_in (v - z_ushr (q : Int) 1) ∧ v - z_ushr (q : Int) 1 = 31 - ((n.log2 : Nat) : Int)) ∧ ((q : Int) ≥ 4 → ∀ w : Int, w = z_ushr (q : Int) 2 → z_in ((v + (-2)) - z_ushr w 1) ∧ (v + (-2)) - z_ushr w 1 = 31 - ((n.log2 : Nat) : Int)) := by
    intro q t v hq h1 h16 hb hv
    refine ⟨fun h => key q t v hq h1 (by omega) hv, ?_⟩
    rintro h w rfl
    rw [s2 q hb]
    refine key (q / 2 ^ 2) (t + 2) (v + (-2)) (by rw [← dd, hq]) (by omega) (by omega) (by omega)
  have mid : ∀ (q t : Nat) (v : Int), n / 2 ^ t = q → 1 ≤ q → q < 256 → q < 2147483648 → v = 31 - (t : Int) → ((q : Int) < 16 → ((q : Int) < 4 → z_in (v - z_ushr (q : Int) 1) ∧ v - z_ushr (q : Int) 1 = 31 - ((n.log2 : Nat) : Int)) ∧ ((q : Int) ≥ 4 → ∀ w : Int, w = z_ushr (q : Int) 2 → z_in ((v + (-2)) - z_ushr w 1) ∧ (v + (-2)) - z_ushr w 1 = 31 - ((n.log2 : Nat) : Int))) ∧ ((q : Int) ≥ 16 → ∀ w : Int, w = z_ushr (q : Int) 4 → ((w < 4 → z_in ((v + (-4)) - z_ushr w 1) ∧ (v + (-4)) - z_ushr w 1 = 31 - ((n.log2 : Nat) : Int)) ∧ (w ≥ 4 → ∀ w' : Int, w' = z_ushr w 2 → z_in (((v + (-4)) + (-2)) - z_ushr w' 1) ∧ ((v + (-4)) + (-2)) - z_ushr w' 1 = 31 - ((n.log2 : Nat) : Int)))) := by
    intro q t v hq h1 h16 hb hv
    refine ⟨fun h => last q t v hq h1 (by omega) hb hv, ?_⟩
    rintro h w rfl
    rw [s4 q hb]
    exact last (q / 2 ^ 4) (t + 4) (v + (-4)) (by rw [← dd, hq]) (by omega) (by omega) (by omega) (by omega)
  have b0 : n / 2 ^ 0 = n := by simp
  refine ⟨fun _ => ⟨fun q1 => ⟨fun q2 => ?_, fun q2 => ?_⟩, fun q1 => ?_⟩, fun q => absurd q (by omega)⟩
  · exact mid n 0 31 b0 (by omega) (by omega) hlt rfl
  · rintro v11 rfl
    rw [s8 n hlt]
    exact mid (n / 2 ^ 8) 8 (31 - 8) rfl (by omega) (by omega) (by omega) rfl
  · rintro v23 rfl
    rw [s16 n hlt]
    refine ⟨fun q2 => ?_, fun q2 => ?_⟩
    · exact mid (n / 2 ^ 16) 16 (31 - 16) rfl (by omega) (by omega) (by omega) rfl
    · exact absurd q2 (by omega)
def vc_X1_unitsOfFloat (bits : Int) (Q : Int → Prop) : Prop :=
(∀ v1 : Int, v1 = z_and bits 8388607 → (∀ v3 : Int, v3 = z_and (z_shr bits 23) 255 → ((v3 ≠ 0 → z_in (140 - v3) ∧ (∀ v5 : Int, v5 = 140 - v3 → ((v3 = 0 → Q (-2147483648)) ∧
(v3 ≠ 0 → ((v5 < 0 → Q (-2147483648)) ∧
(v5 ≥ 0 → ((v5 ≤ 23 → (∀ v8 : Int, v8 = z_or v1 8388608 → (∀ v10 : Int, v10 = z_shr v8 v5 → ((z_shl v10 v5 ≠ v8 → Q (-2147483648)) ∧
(z_shl v10 v5 = v8 → ((v10 ≤ 8388608 → ((bits ≥ 0 → Q v10) ∧
(bits < 0 → z_in (-v10) ∧ Q (-v10)))) ∧
(v10 > 8388608 → Q (-2147483648)))))))) ∧
(v5 > 23 → Q (-2147483648))))))))) ∧
(v3 = 0 → ((v1 ≠ 0 → z_in (140 - v3) ∧ (∀ v13 : Int, v13 = 140 - v3 → ((v3 = 0 → Q (-2147483648)) ∧
(v3 ≠ 0 → ((v13 < 0 → Q (-2147483648)) ∧
(v13 ≥ 0 → ((v13 ≤ 23 → (∀ v16 : Int, v16 = z_or v1 8388608 → (∀ v18 : Int, v18 = z_shr v16 v13 → ((z_shl v18 v13 ≠ v16 → Q (-2147483648)) ∧
(z_shl v18 v13 = v16 → ((v18 ≤ 8388608 → ((bits ≥ 0 → Q v18) ∧
(bits < 0 → z_in (-v18) ∧ Q (-v18)))) ∧
(v18 > 8388608 → Q (-2147483648)))))))) ∧
(v13 > 23 → Q (-2147483648))))))))) ∧
(v1 = 0 → Q 0))))))
set_option maxHeartbeats 4000000 in
set_option maxRecDepth 100000 in
theorem wk_X1_unitsOfFloat (l : Launch) (D : va_G) (cA : Nat → ClassId) (bits : Int) (h_bits : z_in bits) (Q : Int → Prop) (hv : vc_X1_unitsOfFloat bits Q) : Met l yX1_unitsOfFloat wsX1_unitsOfFloat ({ frames := 0, cells := 0, slots := 0, locals := 0 } : Room) (va_Pc [.int (z_i bits)] (z_B0 D cA [])) (va_Qi (z_ri Q) (fun _ _ => True) (fun _ => False)) 0 0 (fun _ => False) := by
  unfold vc_X1_unitsOfFloat at hv
  refine Met.ofW (cc := cX1_unitsOfFloat) (maxL := 6) (ret := (some .int)) (by decide +kernel) rfl ?_
  intro p e s m args below meth c s₁ B hml hv0
  obtain ⟨rfl, hK, hP⟩ := hv0
  have hx := B.exec
  have hb := B.bytes
  have hr := B.returns
  have hts := atoms_spec (ws := wsX1_unitsOfFloat) B.pre
  have hown : s.vm.findClass RX1 = some m.cls := findClass_of_methodNamed B.named
  have hlocks := B.notSynchronized
  have hS : va_S (fun _ : Nat => False) s.heap s.heap [] := va_S.rf
  have hl := lv_entry ([.int (z_i bits)]) (n := 6) (Nat.le_of_ble_eq_true rfl)
  rw [lg_entry_eq]
  generalize (lg_sl ([.int (z_i bits)]) ++ List.replicate (6 - (lg_sl ([.int (z_i bits)])).length) Slot.unset).toArray = ls at hl ⊢
  have hl : lv_has ls 6 [(0, .int (z_i bits))] := hl
  refine lv_iload_n hx hb dX1_unitsOfFloat_0 rfl (lv_at hl 0 rfl) ?_
  refine lx_ldc (a := 8388607) hx hb hown (hts (.constant RX1 11 (8388607)) (by decide +kernel)) (by decide) dX1_unitsOfFloat_1 ?_
  refine lx_iand hx hb dX1_unitsOfFloat_3 ?_
  refine lx_topi (fun v1 hy2 => ?_)
  have hv := hv v1 hy2
  have h_v1 : z_in v1 := by rw [hy2]; exact (z_in_of _)
  refine lv_istore_n (lv' := [(1, .int (z_i v1)), (0, .int (z_i bits))]) hx hb dX1_unitsOfFloat_4 rfl hl (by decide) rfl (fun ls hl => ?_)
  refine lv_iload_n hx hb dX1_unitsOfFloat_5 rfl (lv_at hl 1 rfl) ?_
  refine lv_bipush (v := z_i 23) hx hb dX1_unitsOfFloat_6 (by decide) ?_
  refine lx_ishr hx hb dX1_unitsOfFloat_8 ?_
  refine lv_sipush (v := z_i 255) hx hb dX1_unitsOfFloat_9 (by decide) ?_
  refine lx_iand hx hb dX1_unitsOfFloat_12 ?_
  refine lx_topi (fun v3 hy4 => ?_)
  have hv := hv v3 hy4
  have h_v3 : z_in v3 := by rw [hy4]; exact (z_in_of _)
  refine lv_istore_n (lv' := [(2, .int (z_i v3)), (1, .int (z_i v1)), (0, .int (z_i bits))]) hx hb dX1_unitsOfFloat_13 rfl hl (by decide) rfl (fun ls hl => ?_)
  refine lv_iload_n hx hb dX1_unitsOfFloat_14 rfl (lv_at hl 0 rfl) ?_
  refine lx_if_ne (tgt := 24) hx hb dX1_unitsOfFloat_15 (by decide) h_v3 (fun hc => ?_) (fun hc => ?_)
  · have hv := hv.1 hc
    refine lv_sipush (v := z_i 140) hx hb dX1_unitsOfFloat_24 (by decide) ?_
    refine lv_iload_n hx hb dX1_unitsOfFloat_27 rfl (lv_at hl 0 rfl) ?_
    refine lx_isub hx hb dX1_unitsOfFloat_28 ?_
    obtain ⟨hr6, hv⟩ := hv
    refine lx_topi (fun v5 hy7 => ?_)
    have hv := hv v5 hy7
    have h_v5 : z_in v5 := by rw [hy7]; exact hr6
    refine lv_istore_n (lv' := [(3, .int (z_i v5)), (2, .int (z_i v3)), (1, .int (z_i v1)), (0, .int (z_i bits))]) hx hb dX1_unitsOfFloat_29 rfl hl (by decide) rfl (fun ls hl => ?_)
    refine lv_iload_n hx hb dX1_unitsOfFloat_30 rfl (lv_at hl 1 rfl) ?_
    refine lx_if_eq (tgt := 44) hx hb dX1_unitsOfFloat_31 (by decide) h_v3 (fun hc => ?_) (fun hc => ?_)
    · have hv := hv.1 hc
      refine lx_ldc (a := (-2147483648)) hx hb hown (hts (.constant RX1 12 (-2147483648)) (by decide +kernel)) (by decide) dX1_unitsOfFloat_44 ?_
      exact W.iret (v := z_i (-2147483648)) hx hb hr (fun t ht hW => ⟨⟨z_i (-2147483648), (), rfl, ⟨-2147483648, rfl, (show z_in (-2147483648) from ⟨by decide, by decide⟩), hv⟩, trivial⟩, hS.F ht⟩) hS.2.2 dX1_unitsOfFloat_46
    · have hv := hv.2 hc
      refine lv_iload_n hx hb dX1_unitsOfFloat_34 rfl (lv_at hl 0 rfl) ?_
      refine lx_if_lt (tgt := 44) hx hb dX1_unitsOfFloat_35 (by decide) h_v5 (fun hc => ?_) (fun hc => ?_)
      · have hv := hv.1 hc
        refine lx_ldc (a := (-2147483648)) hx hb hown (hts (.constant RX1 12 (-2147483648)) (by decide +kernel)) (by decide) dX1_unitsOfFloat_44 ?_
        exact W.iret (v := z_i (-2147483648)) hx hb hr (fun t ht hW => ⟨⟨z_i (-2147483648), (), rfl, ⟨-2147483648, rfl, (show z_in (-2147483648) from ⟨by decide, by decide⟩), hv⟩, trivial⟩, hS.F ht⟩) hS.2.2 dX1_unitsOfFloat_46
      · have hv := hv.2 hc
        refine lv_iload_n hx hb dX1_unitsOfFloat_38 rfl (lv_at hl 0 rfl) ?_
        refine lv_bipush (v := z_i 23) hx hb dX1_unitsOfFloat_39 (by decide) ?_
        refine lx_icmp_le (tgt := 47) hx hb dX1_unitsOfFloat_41 (by decide) h_v5 (show z_in 23 from ⟨by decide, by decide⟩) (fun hc => ?_) (fun hc => ?_)
        · have hv := hv.1 hc
          refine lv_iload_n hx hb dX1_unitsOfFloat_47 rfl (lv_at hl 2 rfl) ?_
          refine lx_ldc (a := 8388608) hx hb hown (hts (.constant RX1 13 (8388608)) (by decide +kernel)) (by decide) dX1_unitsOfFloat_48 ?_
          refine lx_ior hx hb dX1_unitsOfFloat_50 ?_
          refine lx_topi (fun v8 hy9 => ?_)
          have hv := hv v8 hy9
          have h_v8 : z_in v8 := by rw [hy9]; exact (z_in_of _)
          refine lv_istore (lv' := [(4, .int (z_i v8)), (3, .int (z_i v5)), (2, .int (z_i v3)), (1, .int (z_i v1)), (0, .int (z_i bits))]) hx hb dX1_unitsOfFloat_51 hl (by decide) rfl (fun ls hl => ?_)
          refine lv_iload hx hb dX1_unitsOfFloat_53 (lv_at hl 0 rfl) ?_
          refine lv_iload_n hx hb dX1_unitsOfFloat_55 rfl (lv_at hl 1 rfl) ?_
          refine lx_ishr hx hb dX1_unitsOfFloat_56 ?_
          refine lx_topi (fun v10 hy11 => ?_)
          have hv := hv v10 hy11
          have h_v10 : z_in v10 := by rw [hy11]; exact (z_in_of _)
          refine lv_istore (lv' := [(5, .int (z_i v10)), (4, .int (z_i v8)), (3, .int (z_i v5)), (2, .int (z_i v3)), (1, .int (z_i v1)), (0, .int (z_i bits))]) hx hb dX1_unitsOfFloat_57 hl (by decide) rfl (fun ls hl => ?_)
          refine lv_iload hx hb dX1_unitsOfFloat_59 (lv_at hl 0 rfl) ?_
          refine lv_iload_n hx hb dX1_unitsOfFloat_61 rfl (lv_at hl 2 rfl) ?_
          refine lx_ishl hx hb dX1_unitsOfFloat_62 ?_
          refine lv_iload hx hb dX1_unitsOfFloat_63 (lv_at hl 1 rfl) ?_
          refine lx_icmp_ne (tgt := 75) hx hb dX1_unitsOfFloat_65 (by decide) (z_in_of _) h_v8 (fun hc => ?_) (fun hc => ?_)
          · have hv := hv.1 hc
            refine lx_ldc (a := (-2147483648)) hx hb hown (hts (.constant RX1 12 (-2147483648)) (by decide +kernel)) (by decide) dX1_unitsOfFloat_75 ?_
            exact W.iret (v := z_i (-2147483648)) hx hb hr (fun t ht hW => ⟨⟨z_i (-2147483648), (), rfl, ⟨-2147483648, rfl, (show z_in (-2147483648) from ⟨by decide, by decide⟩), hv⟩, trivial⟩, hS.F ht⟩) hS.2.2 dX1_unitsOfFloat_77
          · have hv := hv.2 hc
            refine lv_iload hx hb dX1_unitsOfFloat_68 (lv_at hl 0 rfl) ?_
            refine lx_ldc (a := 8388608) hx hb hown (hts (.constant RX1 13 (8388608)) (by decide +kernel)) (by decide) dX1_unitsOfFloat_70 ?_
            refine lx_icmp_le (tgt := 78) hx hb dX1_unitsOfFloat_72 (by decide) h_v10 (show z_in 8388608 from ⟨by decide, by decide⟩) (fun hc => ?_) (fun hc => ?_)
            · have hv := hv.1 hc
              refine lv_iload_n hx hb dX1_unitsOfFloat_78 rfl (lv_at hl 5 rfl) ?_
              refine lx_if_ge (tgt := 88) hx hb dX1_unitsOfFloat_79 (by decide) h_bits (fun hc => ?_) (fun hc => ?_)
              · have hv := hv.1 hc
                refine lv_iload hx hb dX1_unitsOfFloat_88 (lv_at hl 0 rfl) ?_
                exact W.iret (v := z_i v10) hx hb hr (fun t ht hW => ⟨⟨z_i v10, (), rfl, ⟨v10, rfl, h_v10, hv⟩, trivial⟩, hS.F ht⟩) hS.2.2 dX1_unitsOfFloat_90
              · have hv := hv.2 hc
                refine lv_iload hx hb dX1_unitsOfFloat_82 (lv_at hl 0 rfl) ?_
                refine lx_ineg hx hb dX1_unitsOfFloat_84 ?_
                refine lv_goto (tgt := 90) hx hb dX1_unitsOfFloat_85 (by decide) ?_
                obtain ⟨hr12, hv⟩ := hv
                exact W.iret (v := z_i (-v10)) hx hb hr (fun t ht hW => ⟨⟨z_i (-v10), (), rfl, ⟨-v10, rfl, hr12, hv⟩, trivial⟩, hS.F ht⟩) hS.2.2 dX1_unitsOfFloat_90
            · have hv := hv.2 hc
              refine lx_ldc (a := (-2147483648)) hx hb hown (hts (.constant RX1 12 (-2147483648)) (by decide +kernel)) (by decide) dX1_unitsOfFloat_75 ?_
              exact W.iret (v := z_i (-2147483648)) hx hb hr (fun t ht hW => ⟨⟨z_i (-2147483648), (), rfl, ⟨-2147483648, rfl, (show z_in (-2147483648) from ⟨by decide, by decide⟩), hv⟩, trivial⟩, hS.F ht⟩) hS.2.2 dX1_unitsOfFloat_77
        · have hv := hv.2 hc
          refine lx_ldc (a := (-2147483648)) hx hb hown (hts (.constant RX1 12 (-2147483648)) (by decide +kernel)) (by decide) dX1_unitsOfFloat_44 ?_
          exact W.iret (v := z_i (-2147483648)) hx hb hr (fun t ht hW => ⟨⟨z_i (-2147483648), (), rfl, ⟨-2147483648, rfl, (show z_in (-2147483648) from ⟨by decide, by decide⟩), hv⟩, trivial⟩, hS.F ht⟩) hS.2.2 dX1_unitsOfFloat_46
  · have hv := hv.2 hc
    refine lv_iload_n hx hb dX1_unitsOfFloat_18 rfl (lv_at hl 1 rfl) ?_
    refine lx_if_ne (tgt := 24) hx hb dX1_unitsOfFloat_19 (by decide) h_v1 (fun hc => ?_) (fun hc => ?_)
    · have hv := hv.1 hc
      refine lv_sipush (v := z_i 140) hx hb dX1_unitsOfFloat_24 (by decide) ?_
      refine lv_iload_n hx hb dX1_unitsOfFloat_27 rfl (lv_at hl 0 rfl) ?_
      refine lx_isub hx hb dX1_unitsOfFloat_28 ?_
      obtain ⟨hr14, hv⟩ := hv
      refine lx_topi (fun v13 hy15 => ?_)
      have hv := hv v13 hy15
      have h_v13 : z_in v13 := by rw [hy15]; exact hr14
      refine lv_istore_n (lv' := [(3, .int (z_i v13)), (2, .int (z_i v3)), (1, .int (z_i v1)), (0, .int (z_i bits))]) hx hb dX1_unitsOfFloat_29 rfl hl (by decide) rfl (fun ls hl => ?_)
      refine lv_iload_n hx hb dX1_unitsOfFloat_30 rfl (lv_at hl 1 rfl) ?_
      refine lx_if_eq (tgt := 44) hx hb dX1_unitsOfFloat_31 (by decide) h_v3 (fun hc => ?_) (fun hc => ?_)
      · have hv := hv.1 hc
        refine lx_ldc (a := (-2147483648)) hx hb hown (hts (.constant RX1 12 (-2147483648)) (by decide +kernel)) (by decide) dX1_unitsOfFloat_44 ?_
        exact W.iret (v := z_i (-2147483648)) hx hb hr (fun t ht hW => ⟨⟨z_i (-2147483648), (), rfl, ⟨-2147483648, rfl, (show z_in (-2147483648) from ⟨by decide, by decide⟩), hv⟩, trivial⟩, hS.F ht⟩) hS.2.2 dX1_unitsOfFloat_46
      · have hv := hv.2 hc
        refine lv_iload_n hx hb dX1_unitsOfFloat_34 rfl (lv_at hl 0 rfl) ?_
        refine lx_if_lt (tgt := 44) hx hb dX1_unitsOfFloat_35 (by decide) h_v13 (fun hc => ?_) (fun hc => ?_)
        · have hv := hv.1 hc
          refine lx_ldc (a := (-2147483648)) hx hb hown (hts (.constant RX1 12 (-2147483648)) (by decide +kernel)) (by decide) dX1_unitsOfFloat_44 ?_
          exact W.iret (v := z_i (-2147483648)) hx hb hr (fun t ht hW => ⟨⟨z_i (-2147483648), (), rfl, ⟨-2147483648, rfl, (show z_in (-2147483648) from ⟨by decide, by decide⟩), hv⟩, trivial⟩, hS.F ht⟩) hS.2.2 dX1_unitsOfFloat_46
        · have hv := hv.2 hc
          refine lv_iload_n hx hb dX1_unitsOfFloat_38 rfl (lv_at hl 0 rfl) ?_
          refine lv_bipush (v := z_i 23) hx hb dX1_unitsOfFloat_39 (by decide) ?_
          refine lx_icmp_le (tgt := 47) hx hb dX1_unitsOfFloat_41 (by decide) h_v13 (show z_in 23 from ⟨by decide, by decide⟩) (fun hc => ?_) (fun hc => ?_)
          · have hv := hv.1 hc
            refine lv_iload_n hx hb dX1_unitsOfFloat_47 rfl (lv_at hl 2 rfl) ?_
            refine lx_ldc (a := 8388608) hx hb hown (hts (.constant RX1 13 (8388608)) (by decide +kernel)) (by decide) dX1_unitsOfFloat_48 ?_
            refine lx_ior hx hb dX1_unitsOfFloat_50 ?_
            refine lx_topi (fun v16 hy17 => ?_)
            have hv := hv v16 hy17
            have h_v16 : z_in v16 := by rw [hy17]; exact (z_in_of _)
            refine lv_istore (lv' := [(4, .int (z_i v16)), (3, .int (z_i v13)), (2, .int (z_i v3)), (1, .int (z_i v1)), (0, .int (z_i bits))]) hx hb dX1_unitsOfFloat_51 hl (by decide) rfl (fun ls hl => ?_)
            refine lv_iload hx hb dX1_unitsOfFloat_53 (lv_at hl 0 rfl) ?_
            refine lv_iload_n hx hb dX1_unitsOfFloat_55 rfl (lv_at hl 1 rfl) ?_
            refine lx_ishr hx hb dX1_unitsOfFloat_56 ?_
            refine lx_topi (fun v18 hy19 => ?_)
            have hv := hv v18 hy19
            have h_v18 : z_in v18 := by rw [hy19]; exact (z_in_of _)
            refine lv_istore (lv' := [(5, .int (z_i v18)), (4, .int (z_i v16)), (3, .int (z_i v13)), (2, .int (z_i v3)), (1, .int (z_i v1)), (0, .int (z_i bits))]) hx hb dX1_unitsOfFloat_57 hl (by decide) rfl (fun ls hl => ?_)
            refine lv_iload hx hb dX1_unitsOfFloat_59 (lv_at hl 0 rfl) ?_
            refine lv_iload_n hx hb dX1_unitsOfFloat_61 rfl (lv_at hl 2 rfl) ?_
            refine lx_ishl hx hb dX1_unitsOfFloat_62 ?_
            refine lv_iload hx hb dX1_unitsOfFloat_63 (lv_at hl 1 rfl) ?_
            refine lx_icmp_ne (tgt := 75) hx hb dX1_unitsOfFloat_65 (by decide) (z_in_of _) h_v16 (fun hc => ?_) (fun hc => ?_)
            · have hv := hv.1 hc
              refine lx_ldc (a := (-2147483648)) hx hb hown (hts (.constant RX1 12 (-2147483648)) (by decide +kernel)) (by decide) dX1_unitsOfFloat_75 ?_
              exact W.iret (v := z_i (-2147483648)) hx hb hr (fun t ht hW => ⟨⟨z_i (-2147483648), (), rfl, ⟨-2147483648, rfl, (show z_in (-2147483648) from ⟨by decide, by decide⟩), hv⟩, trivial⟩, hS.F ht⟩) hS.2.2 dX1_unitsOfFloat_77
            · have hv := hv.2 hc
              refine lv_iload hx hb dX1_unitsOfFloat_68 (lv_at hl 0 rfl) ?_
              refine lx_ldc (a := 8388608) hx hb hown (hts (.constant RX1 13 (8388608)) (by decide +kernel)) (by decide) dX1_unitsOfFloat_70 ?_
              refine lx_icmp_le (tgt := 78) hx hb dX1_unitsOfFloat_72 (by decide) h_v18 (show z_in 8388608 from ⟨by decide, by decide⟩) (fun hc => ?_) (fun hc => ?_)
              · have hv := hv.1 hc
                refine lv_iload_n hx hb dX1_unitsOfFloat_78 rfl (lv_at hl 5 rfl) ?_
                refine lx_if_ge (tgt := 88) hx hb dX1_unitsOfFloat_79 (by decide) h_bits (fun hc => ?_) (fun hc => ?_)
                · have hv := hv.1 hc
                  refine lv_iload hx hb dX1_unitsOfFloat_88 (lv_at hl 0 rfl) ?_
                  exact W.iret (v := z_i v18) hx hb hr (fun t ht hW => ⟨⟨z_i v18, (), rfl, ⟨v18, rfl, h_v18, hv⟩, trivial⟩, hS.F ht⟩) hS.2.2 dX1_unitsOfFloat_90
                · have hv := hv.2 hc
                  refine lv_iload hx hb dX1_unitsOfFloat_82 (lv_at hl 0 rfl) ?_
                  refine lx_ineg hx hb dX1_unitsOfFloat_84 ?_
                  refine lv_goto (tgt := 90) hx hb dX1_unitsOfFloat_85 (by decide) ?_
                  obtain ⟨hr20, hv⟩ := hv
                  exact W.iret (v := z_i (-v18)) hx hb hr (fun t ht hW => ⟨⟨z_i (-v18), (), rfl, ⟨-v18, rfl, hr20, hv⟩, trivial⟩, hS.F ht⟩) hS.2.2 dX1_unitsOfFloat_90
              · have hv := hv.2 hc
                refine lx_ldc (a := (-2147483648)) hx hb hown (hts (.constant RX1 12 (-2147483648)) (by decide +kernel)) (by decide) dX1_unitsOfFloat_75 ?_
                exact W.iret (v := z_i (-2147483648)) hx hb hr (fun t ht hW => ⟨⟨z_i (-2147483648), (), rfl, ⟨-2147483648, rfl, (show z_in (-2147483648) from ⟨by decide, by decide⟩), hv⟩, trivial⟩, hS.F ht⟩) hS.2.2 dX1_unitsOfFloat_77
          · have hv := hv.2 hc
            refine lx_ldc (a := (-2147483648)) hx hb hown (hts (.constant RX1 12 (-2147483648)) (by decide +kernel)) (by decide) dX1_unitsOfFloat_44 ?_
            exact W.iret (v := z_i (-2147483648)) hx hb hr (fun t ht hW => ⟨⟨z_i (-2147483648), (), rfl, ⟨-2147483648, rfl, (show z_in (-2147483648) from ⟨by decide, by decide⟩), hv⟩, trivial⟩, hS.F ht⟩) hS.2.2 dX1_unitsOfFloat_46
    · have hv := hv.2 hc
      refine lv_iconst (v := z_i 0) hx hb dX1_unitsOfFloat_22 rfl ?_
      exact W.iret (v := z_i 0) hx hb hr (fun t ht hW => ⟨⟨z_i 0, (), rfl, ⟨0, rfl, (show z_in 0 from ⟨by decide, by decide⟩), hv⟩, trivial⟩, hS.F ht⟩) hS.2.2 dX1_unitsOfFloat_23
set_option maxHeartbeats 4000000 in
set_option maxRecDepth 100000 in
theorem mt_X1_unitsOfFloat (l : Launch) (D : va_G) (cA : Nat → ClassId) (bits : Int) (h_bits : z_in bits)  : Met l yX1_unitsOfFloat wsX1_unitsOfFloat ({ frames := 0, cells := 0, slots := 0, locals := 0 } : Room) (va_Pc [.int (z_i bits)] (z_B0 D cA [])) (va_Qi (z_ri (fun (r : Int) => r = b_uf bits)) (fun _ _ => True) (fun _ => False)) 0 0 (fun _ => False) := by
  refine wk_X1_unitsOfFloat l D cA bits h_bits (fun (r : Int) => r = b_uf bits) ?_
  unfold vc_X1_unitsOfFloat
  rw [z_and_23, uf_sh h_bits]
  rintro v1 rfl v3 rfl
  have c1 : 0 ≤ bits % 8388608 := by omega
  have c2 : bits % 8388608 < 8388608 := by omega
  have c3 : 0 ≤ bits / 8388608 % 256 := by omega
  have c4 : bits / 8388608 % 256 < 256 := by omega
  have hu : b_uf bits = if bits / 8388608 % 256 = 0 ∧ bits % 8388608 = 0 then 0
    else if bits / 8388608 % 256 = 0 ∨ 140 < bits / 8388608 % 256 ∨ bits / 8388608 % 256 < 117 then -2147483648
    else if (bits % 8388608 + 8388608) % ((2 ^ (140 - bits / 8388608 % 256).toNat : Nat) : Int) ≠ 0 ∨ 8388608 < (bits % 8388608 + 8388608) / ((2 ^ (140 - bits / 8388608 % 256).toNat : Nat) : Int) then -2147483648
    else if bits < 0 then -((bits % 8388608 + 8388608) / ((2 ^ (140 - bits / 8388608 % 256).toNat : Nat) : Int)) else (bits % 8388608 + 8388608) / ((2 ^ (140 - bits / 8388608 % 256).toNat : Nat) : Int) := rfl
  revert c1 c2 c3 c4 hu
  generalize bits % 8388608 = fr
  generalize bits / 8388608 % 256 = po
  intro c1 c2 c3 c4 hu
  refine ⟨fun q => ⟨⟨by omega, by omega⟩, ?_⟩, fun q => ⟨fun q2 => ⟨⟨by omega, by omega⟩, ?_⟩, fun q2 => ?_⟩⟩
  · rintro v5 rfl
    refine ⟨fun q2 => absurd q2 q, fun _ => ⟨fun q3 => ?_, fun q3 => ⟨fun q4 => ?_, fun q4 => ?_⟩⟩⟩
    · rw [hu, if_neg (by omega), if_pos (by omega)]
    · rintro v8 rfl
      rw [z_or_23 c1 c2]
      obtain ⟨k1, k2, k3, k4⟩ := uf_core (w := fr + 8388608) (sh := 140 - po) (by omega) (by omega) (by omega) (by omega)
      rintro v10 rfl
      rw [k1]
      rw [if_neg (by omega), if_neg (by omega)] at hu
      refine ⟨fun q5 => ?_, fun q5 => ⟨fun q6 => ⟨fun q7 => ?_, fun q7 => ⟨⟨by omega, by omega⟩, ?_⟩⟩, fun q6 => ?_⟩⟩
      · rw [hu, if_pos (Or.inl (fun h => q5 (k2.mpr h)))]
      · rw [hu, if_neg (fun h => h.elim (fun h => h (k2.mp q5)) (fun h => by omega)), if_neg (by omega)]
      · rw [hu, if_neg (fun h => h.elim (fun h => h (k2.mp q5)) (fun h => by omega)), if_pos q7]
      · rw [hu, if_pos (Or.inr q6)]
    · rw [hu, if_neg (by omega), if_pos (by omega)]
  · rintro v13 rfl
    exact ⟨fun _ => by rw [hu, if_neg (by omega), if_pos (Or.inl q)], fun h => absurd q h⟩
  · rw [hu, if_pos ⟨q, q2⟩]
def vc_X1_floatOfUnits (uu : Int) (Q : Int → Prop) : Prop :=
((uu ≥ 0 → ((uu < 1 → Q 0) ∧
(uu ≥ 1 → ((uu ≤ 8388608 → (1 ≤ uu ∧ uu ≤ 8388608) ∧ (∀ (r2 : Int), z_in r2 → (r2 = 31 - (uu.toNat.log2 : Int)) → z_in (31 - r2) ∧ (∀ v3 : Int, v3 = 31 - r2 → (∀ v6 : Int, v6 = z_and (z_shl uu (23 - v3)) 8388607 → ((uu ≥ 0 → Q (z_or (z_or 0 (z_shl ((v3 - 10) + 127) 23)) v6)) ∧
(uu < 0 → Q (z_or (z_or (-2147483648) (z_shl ((v3 - 10) + 127) 23)) v6))))))) ∧
(uu > 8388608 → Q 0))))) ∧
(uu < 0 → z_in (-uu) ∧ ((-uu < 1 → Q 0) ∧
(-uu ≥ 1 → ((-uu ≤ 8388608 → (1 ≤ (-uu) ∧ (-uu) ≤ 8388608) ∧ (∀ (r10 : Int), z_in r10 → (r10 = 31 - ((-uu).toNat.log2 : Int)) → z_in (31 - r10) ∧ (∀ v11 : Int, v11 = 31 - r10 → (∀ v14 : Int, v14 = z_and (z_shl (-uu) (23 - v11)) 8388607 → ((uu ≥ 0 → Q (z_or (z_or 0 (z_shl ((v11 - 10) + 127) 23)) v14)) ∧
(uu < 0 → Q (z_or (z_or (-2147483648) (z_shl ((v11 - 10) + 127) 23)) v14))))))) ∧
(-uu > 8388608 → Q 0))))))
set_option maxHeartbeats 4000000 in
set_option maxRecDepth 100000 in
theorem wk_X1_floatOfUnits (l : Launch) (D : va_G) (cA : Nat → ClassId) (uu : Int) (h_uu : z_in uu) (Q : Int → Prop) (hv : vc_X1_floatOfUnits uu Q) : Met l yX1_floatOfUnits wsX1_floatOfUnits ({ frames := 1, cells := 0, slots := 0, locals := 21 } : Room) (va_Pc [.int (z_i uu)] (z_B0 D cA [])) (va_Qi (z_ri Q) (fun _ _ => True) (fun _ => False)) 0 0 (fun _ => False) := by
  unfold vc_X1_floatOfUnits at hv
  refine Met.ofW (cc := cX1_floatOfUnits) (maxL := 5) (ret := (some .int)) (by decide +kernel) rfl ?_
  intro p e s m args below meth c s₁ B hml hv0
  obtain ⟨rfl, hK, hP⟩ := hv0
  have hx := B.exec
  have hb := B.bytes
  have hr := B.returns
  have hts := atoms_spec (ws := wsX1_floatOfUnits) B.pre
  have hown : s.vm.findClass RX1 = some m.cls := findClass_of_methodNamed B.named
  have hlocks := B.notSynchronized
  have hS : va_S (fun _ : Nat => False) s.heap s.heap [] := va_S.rf
  have hl := lv_entry ([.int (z_i uu)]) (n := 5) (Nat.le_of_ble_eq_true rfl)
  rw [lg_entry_eq]
  generalize (lg_sl ([.int (z_i uu)]) ++ List.replicate (5 - (lg_sl ([.int (z_i uu)])).length) Slot.unset).toArray = ls at hl ⊢
  have hl : lv_has ls 5 [(0, .int (z_i uu))] := hl
  refine lv_iload_n hx hb dX1_floatOfUnits_0 rfl (lv_at hl 0 rfl) ?_
  refine lx_if_ge (tgt := 9) hx hb dX1_floatOfUnits_1 (by decide) h_uu (fun hc => ?_) (fun hc => ?_)
  · have hv := hv.1 hc
    refine lv_iload_n hx hb dX1_floatOfUnits_9 rfl (lv_at hl 0 rfl) ?_
    refine lv_istore_n (lv' := [(1, .int (z_i uu)), (0, .int (z_i uu))]) hx hb dX1_floatOfUnits_10 rfl hl (by decide) rfl (fun ls hl => ?_)
    refine lv_iload_n hx hb dX1_floatOfUnits_11 rfl (lv_at hl 0 rfl) ?_
    refine lv_iconst (v := z_i 1) hx hb dX1_floatOfUnits_12 rfl ?_
    refine lx_icmp_lt (tgt := 22) hx hb dX1_floatOfUnits_13 (by decide) h_uu (show z_in 1 from ⟨by decide, by decide⟩) (fun hc => ?_) (fun hc => ?_)
    · have hv := hv.1 hc
      refine lv_iconst (v := z_i 0) hx hb dX1_floatOfUnits_22 rfl ?_
      exact W.iret (v := z_i 0) hx hb hr (fun t ht hW => ⟨⟨z_i 0, (), rfl, ⟨0, rfl, (show z_in 0 from ⟨by decide, by decide⟩), hv⟩, trivial⟩, hS.F ht⟩) hS.2.2 dX1_floatOfUnits_23
    · have hv := hv.2 hc
      refine lv_iload_n hx hb dX1_floatOfUnits_16 rfl (lv_at hl 0 rfl) ?_
      refine lx_ldc (a := 8388608) hx hb hown (hts (.constant RX1 13 (8388608)) (by decide +kernel)) (by decide) dX1_floatOfUnits_17 ?_
      refine lx_icmp_le (tgt := 24) hx hb dX1_floatOfUnits_19 (by decide) h_uu (show z_in 8388608 from ⟨by decide, by decide⟩) (fun hc => ?_) (fun hc => ?_)
      · have hv := hv.1 hc
        refine lv_bipush (v := z_i 31) hx hb dX1_floatOfUnits_24 (by decide) ?_
        refine lv_iload_n hx hb dX1_floatOfUnits_26 rfl (lv_at hl 0 rfl) ?_
        obtain ⟨hp1, hv⟩ := hv
        refine va_calli (va_runS (As := [.int (z_i uu)]) (rest := [.int (z_i 31)]) ⟨hx, hb, hml, hown, hts⟩ (mt_J6_numberOfLeadingZeros_0f7a4 l D cA uu h_uu hp1) (va_cwS 1 hts gX1_floatOfUnits_J6_numberOfLeadingZeros_0f7a4 rfl rfl rfl (by decide +kernel) ⟨Nat.le_of_ble_eq_true rfl, Nat.le_of_ble_eq_true rfl⟩) ⟨z_bl0, fun U hU hW => ⟨rfl, z_b0 hK hP hU hW⟩⟩ rfl rfl hl.1 rfl (lv_room (Nat.le_of_ble_eq_true rfl)) dX1_floatOfUnits_27 ⟨Nat.zero_le _, Nat.zero_le _⟩) hS (fun q _ h => h.elim) (fun q h => h.elim) (fun r0 u t H locs ht hvm hw hB hz1 hk1 hS => ?_)
        obtain ⟨r2, rfl, h_r2, hw⟩ := hw
        have hP := z_P_all hP hk1
        have hv := hv r2 h_r2 hw
        refine lx_isub hx hb dX1_floatOfUnits_30 ?_
        obtain ⟨hr4, hv⟩ := hv
        refine lx_topi (fun v3 hy5 => ?_)
        have hv := hv v3 hy5
        have h_v3 : z_in v3 := by rw [hy5]; exact hr4
        refine lv_istore_n (lv' := [(2, .int (z_i v3)), (1, .int (z_i uu)), (0, .int (z_i uu))]) hx hb dX1_floatOfUnits_31 rfl hl (by decide) rfl (fun ls hl => ?_)
        refine lv_iload_n hx hb dX1_floatOfUnits_32 rfl (lv_at hl 1 rfl) ?_
        refine lv_bipush (v := z_i 23) hx hb dX1_floatOfUnits_33 (by decide) ?_
        refine lv_iload_n hx hb dX1_floatOfUnits_35 rfl (lv_at hl 0 rfl) ?_
        refine lx_isub hx hb dX1_floatOfUnits_36 ?_
        refine lx_ishl hx hb dX1_floatOfUnits_37 ?_
        refine lx_ldc (a := 8388607) hx hb hown (hts (.constant RX1 11 (8388607)) (by decide +kernel)) (by decide) dX1_floatOfUnits_38 ?_
        refine lx_iand hx hb dX1_floatOfUnits_40 ?_
        refine lx_topi (fun v6 hy7 => ?_)
        have hv := hv v6 hy7
        have h_v6 : z_in v6 := by rw [hy7]; exact (z_in_of _)
        refine lv_istore_n (lv' := [(3, .int (z_i v6)), (2, .int (z_i v3)), (1, .int (z_i uu)), (0, .int (z_i uu))]) hx hb dX1_floatOfUnits_41 rfl hl (by decide) rfl (fun ls hl => ?_)
        refine lv_iload_n hx hb dX1_floatOfUnits_42 rfl (lv_at hl 3 rfl) ?_
        refine lx_if_ge (tgt := 51) hx hb dX1_floatOfUnits_43 (by decide) h_uu (fun hc => ?_) (fun hc => ?_)
        · have hv := hv.1 hc
          refine lv_iconst (v := z_i 0) hx hb dX1_floatOfUnits_51 rfl ?_
          refine lv_istore (lv' := [(4, .int (z_i 0)), (3, .int (z_i v6)), (2, .int (z_i v3)), (1, .int (z_i uu)), (0, .int (z_i uu))]) hx hb dX1_floatOfUnits_52 hl (by decide) rfl (fun ls hl => ?_)
          refine lv_iload hx hb dX1_floatOfUnits_54 (lv_at hl 0 rfl) ?_
          refine lv_iload_n hx hb dX1_floatOfUnits_56 rfl (lv_at hl 2 rfl) ?_
          refine lv_bipush (v := z_i 10) hx hb dX1_floatOfUnits_57 (by decide) ?_
          refine lx_isub hx hb dX1_floatOfUnits_59 ?_
          refine lv_bipush (v := z_i 127) hx hb dX1_floatOfUnits_60 (by decide) ?_
          refine lx_iadd hx hb dX1_floatOfUnits_62 ?_
          refine lv_bipush (v := z_i 23) hx hb dX1_floatOfUnits_63 (by decide) ?_
          refine lx_ishl hx hb dX1_floatOfUnits_65 ?_
          refine lx_ior hx hb dX1_floatOfUnits_66 ?_
          refine lv_iload_n hx hb dX1_floatOfUnits_67 rfl (lv_at hl 1 rfl) ?_
          refine lx_ior hx hb dX1_floatOfUnits_68 ?_
          exact W.iret (v := z_i (z_or (z_or 0 (z_shl ((v3 - 10) + 127) 23)) v6)) hx hb hr (fun t ht hW => ⟨⟨z_i (z_or (z_or 0 (z_shl ((v3 - 10) + 127) 23)) v6), (), rfl, ⟨z_or (z_or 0 (z_shl ((v3 - 10) + 127) 23)) v6, rfl, (z_in_of _), hv⟩, trivial⟩, hS.F ht⟩) hS.2.2 dX1_floatOfUnits_69
        · have hv := hv.2 hc
          refine lx_ldc (a := (-2147483648)) hx hb hown (hts (.constant RX1 12 (-2147483648)) (by decide +kernel)) (by decide) dX1_floatOfUnits_46 ?_
          refine lv_goto (tgt := 52) hx hb dX1_floatOfUnits_48 (by decide) ?_
          refine lv_istore (lv' := [(4, .int (z_i (-2147483648))), (3, .int (z_i v6)), (2, .int (z_i v3)), (1, .int (z_i uu)), (0, .int (z_i uu))]) hx hb dX1_floatOfUnits_52 hl (by decide) rfl (fun ls hl => ?_)
          refine lv_iload hx hb dX1_floatOfUnits_54 (lv_at hl 0 rfl) ?_
          refine lv_iload_n hx hb dX1_floatOfUnits_56 rfl (lv_at hl 2 rfl) ?_
          refine lv_bipush (v := z_i 10) hx hb dX1_floatOfUnits_57 (by decide) ?_
          refine lx_isub hx hb dX1_floatOfUnits_59 ?_
          refine lv_bipush (v := z_i 127) hx hb dX1_floatOfUnits_60 (by decide) ?_
          refine lx_iadd hx hb dX1_floatOfUnits_62 ?_
          refine lv_bipush (v := z_i 23) hx hb dX1_floatOfUnits_63 (by decide) ?_
          refine lx_ishl hx hb dX1_floatOfUnits_65 ?_
          refine lx_ior hx hb dX1_floatOfUnits_66 ?_
          refine lv_iload_n hx hb dX1_floatOfUnits_67 rfl (lv_at hl 1 rfl) ?_
          refine lx_ior hx hb dX1_floatOfUnits_68 ?_
          exact W.iret (v := z_i (z_or (z_or (-2147483648) (z_shl ((v3 - 10) + 127) 23)) v6)) hx hb hr (fun t ht hW => ⟨⟨z_i (z_or (z_or (-2147483648) (z_shl ((v3 - 10) + 127) 23)) v6), (), rfl, ⟨z_or (z_or (-2147483648) (z_shl ((v3 - 10) + 127) 23)) v6, rfl, (z_in_of _), hv⟩, trivial⟩, hS.F ht⟩) hS.2.2 dX1_floatOfUnits_69
      · have hv := hv.2 hc
        refine lv_iconst (v := z_i 0) hx hb dX1_floatOfUnits_22 rfl ?_
        exact W.iret (v := z_i 0) hx hb hr (fun t ht hW => ⟨⟨z_i 0, (), rfl, ⟨0, rfl, (show z_in 0 from ⟨by decide, by decide⟩), hv⟩, trivial⟩, hS.F ht⟩) hS.2.2 dX1_floatOfUnits_23
  · have hv := hv.2 hc
    refine lv_iload_n hx hb dX1_floatOfUnits_4 rfl (lv_at hl 0 rfl) ?_
    refine lx_ineg hx hb dX1_floatOfUnits_5 ?_
    refine lv_goto (tgt := 10) hx hb dX1_floatOfUnits_6 (by decide) ?_
    refine lv_istore_n (lv' := [(1, .int (z_i (-uu))), (0, .int (z_i uu))]) hx hb dX1_floatOfUnits_10 rfl hl (by decide) rfl (fun ls hl => ?_)
    refine lv_iload_n hx hb dX1_floatOfUnits_11 rfl (lv_at hl 0 rfl) ?_
    refine lv_iconst (v := z_i 1) hx hb dX1_floatOfUnits_12 rfl ?_
    obtain ⟨hr8, hv⟩ := hv
    refine lx_icmp_lt (tgt := 22) hx hb dX1_floatOfUnits_13 (by decide) hr8 (show z_in 1 from ⟨by decide, by decide⟩) (fun hc => ?_) (fun hc => ?_)
    · have hv := hv.1 hc
      refine lv_iconst (v := z_i 0) hx hb dX1_floatOfUnits_22 rfl ?_
      exact W.iret (v := z_i 0) hx hb hr (fun t ht hW => ⟨⟨z_i 0, (), rfl, ⟨0, rfl, (show z_in 0 from ⟨by decide, by decide⟩), hv⟩, trivial⟩, hS.F ht⟩) hS.2.2 dX1_floatOfUnits_23
    · have hv := hv.2 hc
      refine lv_iload_n hx hb dX1_floatOfUnits_16 rfl (lv_at hl 0 rfl) ?_
      refine lx_ldc (a := 8388608) hx hb hown (hts (.constant RX1 13 (8388608)) (by decide +kernel)) (by decide) dX1_floatOfUnits_17 ?_
      refine lx_icmp_le (tgt := 24) hx hb dX1_floatOfUnits_19 (by decide) hr8 (show z_in 8388608 from ⟨by decide, by decide⟩) (fun hc => ?_) (fun hc => ?_)
      · have hv := hv.1 hc
        refine lv_bipush (v := z_i 31) hx hb dX1_floatOfUnits_24 (by decide) ?_
        refine lv_iload_n hx hb dX1_floatOfUnits_26 rfl (lv_at hl 0 rfl) ?_
        obtain ⟨hp9, hv⟩ := hv
        refine va_calli (va_runS (As := [.int (z_i (-uu))]) (rest := [.int (z_i 31)]) ⟨hx, hb, hml, hown, hts⟩ (mt_J6_numberOfLeadingZeros_0f7a4 l D cA (-uu) hr8 hp9) (va_cwS 1 hts gX1_floatOfUnits_J6_numberOfLeadingZeros_0f7a4 rfl rfl rfl (by decide +kernel) ⟨Nat.le_of_ble_eq_true rfl, Nat.le_of_ble_eq_true rfl⟩) ⟨z_bl0, fun U hU hW => ⟨rfl, z_b0 hK hP hU hW⟩⟩ rfl rfl hl.1 rfl (lv_room (Nat.le_of_ble_eq_true rfl)) dX1_floatOfUnits_27 ⟨Nat.zero_le _, Nat.zero_le _⟩) hS (fun q _ h => h.elim) (fun q h => h.elim) (fun r0 u t H locs ht hvm hw hB hz1 hk1 hS => ?_)
        obtain ⟨r10, rfl, h_r10, hw⟩ := hw
        have hP := z_P_all hP hk1
        have hv := hv r10 h_r10 hw
        refine lx_isub hx hb dX1_floatOfUnits_30 ?_
        obtain ⟨hr12, hv⟩ := hv
        refine lx_topi (fun v11 hy13 => ?_)
        have hv := hv v11 hy13
        have h_v11 : z_in v11 := by rw [hy13]; exact hr12
        refine lv_istore_n (lv' := [(2, .int (z_i v11)), (1, .int (z_i (-uu))), (0, .int (z_i uu))]) hx hb dX1_floatOfUnits_31 rfl hl (by decide) rfl (fun ls hl => ?_)
        refine lv_iload_n hx hb dX1_floatOfUnits_32 rfl (lv_at hl 1 rfl) ?_
        refine lv_bipush (v := z_i 23) hx hb dX1_floatOfUnits_33 (by decide) ?_
        refine lv_iload_n hx hb dX1_floatOfUnits_35 rfl (lv_at hl 0 rfl) ?_
        refine lx_isub hx hb dX1_floatOfUnits_36 ?_
        refine lx_ishl hx hb dX1_floatOfUnits_37 ?_
        refine lx_ldc (a := 8388607) hx hb hown (hts (.constant RX1 11 (8388607)) (by decide +kernel)) (by decide) dX1_floatOfUnits_38 ?_
        refine lx_iand hx hb dX1_floatOfUnits_40 ?_
        refine lx_topi (fun v14 hy15 => ?_)
        have hv := hv v14 hy15
        have h_v14 : z_in v14 := by rw [hy15]; exact (z_in_of _)
        refine lv_istore_n (lv' := [(3, .int (z_i v14)), (2, .int (z_i v11)), (1, .int (z_i (-uu))), (0, .int (z_i uu))]) hx hb dX1_floatOfUnits_41 rfl hl (by decide) rfl (fun ls hl => ?_)
        refine lv_iload_n hx hb dX1_floatOfUnits_42 rfl (lv_at hl 3 rfl) ?_
        refine lx_if_ge (tgt := 51) hx hb dX1_floatOfUnits_43 (by decide) h_uu (fun hc => ?_) (fun hc => ?_)
        · have hv := hv.1 hc
          refine lv_iconst (v := z_i 0) hx hb dX1_floatOfUnits_51 rfl ?_
          refine lv_istore (lv' := [(4, .int (z_i 0)), (3, .int (z_i v14)), (2, .int (z_i v11)), (1, .int (z_i (-uu))), (0, .int (z_i uu))]) hx hb dX1_floatOfUnits_52 hl (by decide) rfl (fun ls hl => ?_)
          refine lv_iload hx hb dX1_floatOfUnits_54 (lv_at hl 0 rfl) ?_
          refine lv_iload_n hx hb dX1_floatOfUnits_56 rfl (lv_at hl 2 rfl) ?_
          refine lv_bipush (v := z_i 10) hx hb dX1_floatOfUnits_57 (by decide) ?_
          refine lx_isub hx hb dX1_floatOfUnits_59 ?_
          refine lv_bipush (v := z_i 127) hx hb dX1_floatOfUnits_60 (by decide) ?_
          refine lx_iadd hx hb dX1_floatOfUnits_62 ?_
          refine lv_bipush (v := z_i 23) hx hb dX1_floatOfUnits_63 (by decide) ?_
          refine lx_ishl hx hb dX1_floatOfUnits_65 ?_
          refine lx_ior hx hb dX1_floatOfUnits_66 ?_
          refine lv_iload_n hx hb dX1_floatOfUnits_67 rfl (lv_at hl 1 rfl) ?_
          refine lx_ior hx hb dX1_floatOfUnits_68 ?_
          exact W.iret (v := z_i (z_or (z_or 0 (z_shl ((v11 - 10) + 127) 23)) v14)) hx hb hr (fun t ht hW => ⟨⟨z_i (z_or (z_or 0 (z_shl ((v11 - 10) + 127) 23)) v14), (), rfl, ⟨z_or (z_or 0 (z_shl ((v11 - 10) + 127) 23)) v14, rfl, (z_in_of _), hv⟩, trivial⟩, hS.F ht⟩) hS.2.2 dX1_floatOfUnits_69
        · have hv := hv.2 hc
          refine lx_ldc (a := (-2147483648)) hx hb hown (hts (.constant RX1 12 (-2147483648)) (by decide +kernel)) (by decide) dX1_floatOfUnits_46 ?_
          refine lv_goto (tgt := 52) hx hb dX1_floatOfUnits_48 (by decide) ?_
          refine lv_istore (lv' := [(4, .int (z_i (-2147483648))), (3, .int (z_i v14)), (2, .int (z_i v11)), (1, .int (z_i (-uu))), (0, .int (z_i uu))]) hx hb dX1_floatOfUnits_52 hl (by decide) rfl (fun ls hl => ?_)
          refine lv_iload hx hb dX1_floatOfUnits_54 (lv_at hl 0 rfl) ?_
          refine lv_iload_n hx hb dX1_floatOfUnits_56 rfl (lv_at hl 2 rfl) ?_
          refine lv_bipush (v := z_i 10) hx hb dX1_floatOfUnits_57 (by decide) ?_
          refine lx_isub hx hb dX1_floatOfUnits_59 ?_
          refine lv_bipush (v := z_i 127) hx hb dX1_floatOfUnits_60 (by decide) ?_
          refine lx_iadd hx hb dX1_floatOfUnits_62 ?_
          refine lv_bipush (v := z_i 23) hx hb dX1_floatOfUnits_63 (by decide) ?_
          refine lx_ishl hx hb dX1_floatOfUnits_65 ?_
          refine lx_ior hx hb dX1_floatOfUnits_66 ?_
          refine lv_iload_n hx hb dX1_floatOfUnits_67 rfl (lv_at hl 1 rfl) ?_
          refine lx_ior hx hb dX1_floatOfUnits_68 ?_
          exact W.iret (v := z_i (z_or (z_or (-2147483648) (z_shl ((v11 - 10) + 127) 23)) v14)) hx hb hr (fun t ht hW => ⟨⟨z_i (z_or (z_or (-2147483648) (z_shl ((v11 - 10) + 127) 23)) v14), (), rfl, ⟨z_or (z_or (-2147483648) (z_shl ((v11 - 10) + 127) 23)) v14, rfl, (z_in_of _), hv⟩, trivial⟩, hS.F ht⟩) hS.2.2 dX1_floatOfUnits_69
      · have hv := hv.2 hc
        refine lv_iconst (v := z_i 0) hx hb dX1_floatOfUnits_22 rfl ?_
        exact W.iret (v := z_i 0) hx hb hr (fun t ht hW => ⟨⟨z_i 0, (), rfl, ⟨0, rfl, (show z_in 0 from ⟨by decide, by decide⟩), hv⟩, trivial⟩, hS.F ht⟩) hS.2.2 dX1_floatOfUnits_23
set_option maxHeartbeats 4000000 in
set_option maxRecDepth 100000 in
theorem mt_X1_floatOfUnits (l : Launch) (D : va_G) (cA : Nat → ClassId) (uu : Int) (h_uu : z_in uu) (hp1 : -8388608 ≤ uu ∧ uu ≤ 8388608) : Met l yX1_floatOfUnits wsX1_floatOfUnits ({ frames := 1, cells := 0, slots := 0, locals := 21 } : Room) (va_Pc [.int (z_i uu)] (z_B0 D cA [])) (va_Qi (z_ri (fun (r : Int) => r = b_fu uu)) (fun _ _ => True) (fun _ => False)) 0 0 (fun _ => False) := by
  refine wk_X1_floatOfUnits l D cA uu h_uu (fun (r : Int) => r = b_fu uu) ?_
  unfold vc_X1_floatOfUnits
  have core : ∀ n : Nat, 1 ≤ n → n ≤ 8388608 → ∃ f : Nat, f < 8388608 ∧ n * 2 ^ (23 - n.log2) = f + 8388608 ∧ n.log2 ≤ 23 ∧ z_and (z_shl (n : Int) (23 - (n.log2 : Int))) 8388607 = (f : Int) ∧ z_shl ((n.log2 : Int) - 10 + 127) 23 = ((n.log2 + 117 : Nat) : Int) * 8388608 := by
    intro n h1 h2
    have hl := Nat.log2_self_le (n := n) (by omega)
    have hu := Nat.lt_log2_self (n := n)
    have h23 : n.log2 ≤ 23 := by
      apply Nat.le_of_not_lt
      intro h
      have := Nat.pow_le_pow_right (n := 2) (by decide) h
      omega
    have hp : 2 ^ n.log2 * 2 ^ (23 - n.log2) = 8388608 := by rw [← Nat.pow_add, show n.log2 + (23 - n.log2) = 23 by omega]
    have ha : 8388608 ≤ n * 2 ^ (23 - n.log2) := by rw [← hp]; exact Nat.mul_le_mul_right _ hl
    have hb : n * 2 ^ (23 - n.log2) < 16777216 := by
      have : n * 2 ^ (23 - n.log2) < 2 ^ (n.log2 + 1) * 2 ^ (23 - n.log2) := Nat.mul_lt_mul_of_pos_right hu (Nat.two_pow_pos _)
      rw [Nat.pow_succ, Nat.mul_right_comm, hp] at this
      exact this
    refine ⟨n * 2 ^ (23 - n.log2) - 8388608, by omega, by omega, h23, ?_, ?_⟩
    · rw [show (23 : Int) - (n.log2 : Int) = ((23 - n.log2 : Nat) : Int) by omega, z_shl_nat (by omega) (by omega), z_and_23]
      omega
    · rw [show (n.log2 : Int) - 10 + 127 = ((n.log2 + 117 : Nat) : Int) by omega, show (23 : Int) = ((23 : Nat) : Int) by rfl, z_shl_nat (by decide) (by omega)]
      omega
  have orr : ∀ (f e : Nat), f < 8388608 → e < 256 → z_or (z_or 0 ((e : Int) * 8388608)) (f : Int) = (e : Int) * 8388608 + f ∧ z_or (z_or (-2147483648) ((e : Int) * 8388608)) (f : Int) = (e : Int) * 8388608 + f - 2147483648 := by
    intro f e hf he
    have e1 : (e : Int) * 8388608 = ((e * 8388608 : Nat) : Int) := by omega
    have e2 : z_or 0 ((e : Int) * 8388608) = ((e * 8388608 : Nat) : Int) := by
      rw [e1, show (0 : Int) = ((0 : Nat) : Int) by rfl, z_or_nat (by decide) (by omega), Nat.zero_or]
    refine ⟨?_, ?_⟩
    · rw [e2, z_or_nat (by omega) (by omega), show e * 8388608 = e * 2 ^ 23 by rfl, n_or_add (by omega)]
      omega
    · rw [e1, z_or_min (by omega), show ((e * 8388608 : Nat) : Int) - 2147483648 = ((e + 256 : Nat) : Int) * 8388608 - 4294967296 by omega, z_or_hi (by omega) (by omega) hf]
      omega
  have fin : ∀ n : Nat, 1 ≤ n → n ≤ 8388608 → uu.natAbs = n → b_fu uu = (if uu < 0 then -2147483648 else 0) + ((n.log2 : Int) + 117) * 8388608 + (((n * 2 ^ (23 - n.log2) : Nat) : Int) - 8388608) := by
    intro n h1 h2 h3
    unfold b_fu
    rw [h3, if_neg (by omega)]
  refine ⟨fun q => ⟨fun q1 => ?_, fun q1 => ⟨fun q2 => ⟨⟨q1, q2⟩, ?_⟩, fun q2 => ?_⟩⟩, fun q => ⟨⟨by omega, by omega⟩, fun q1 => absurd q1 (by omega), fun q1 => ⟨fun q2 => ⟨⟨q1, q2⟩, ?_⟩, fun q2 => ?_⟩⟩⟩
  · unfold b_fu; rw [if_pos (by omega)]
  · obtain ⟨n, rfl⟩ := Int.eq_ofNat_of_zero_le q
    rw [Int.toNat_natCast]
    obtain ⟨f, f1, f2, f3, f4, f5⟩ := core n (by omega) (by omega)
    rintro r2 hr2 rfl
    refine ⟨⟨by omega, by omega⟩, ?_⟩
    rintro v3 rfl
    rw [show (31 : Int) - (31 - (n.log2 : Int)) = (n.log2 : Int) by omega]
    rintro v6 rfl
    rw [f4, f5]
    refine ⟨fun _ => ?_, fun h => absurd h (by omega)⟩
    rw [(orr f (n.log2 + 117) f1 (by omega)).1, fin n (by omega) (by omega) (by omega), if_neg (by omega), f2]
    omega
  · unfold b_fu; rw [if_pos (by omega)]
  · obtain ⟨n, hn⟩ := Int.eq_ofNat_of_zero_le (show 0 ≤ -uu by omega)
    rw [hn, Int.toNat_natCast]
    obtain ⟨f, f1, f2, f3, f4, f5⟩ := core n (by omega) (by omega)
    rintro r2 hr2 rfl
    refine ⟨⟨by omega, by omega⟩, ?_⟩
    rintro v3 rfl
    rw [show (31 : Int) - (31 - (n.log2 : Int)) = (n.log2 : Int) by omega]
    rintro v6 rfl
    rw [f4, f5]
    refine ⟨fun h => absurd h (by omega), fun _ => ?_⟩
    rw [(orr f (n.log2 + 117) f1 (by omega)).2, fin n (by omega) (by omega) (by omega), if_pos q, f2]
    omega
  · unfold b_fu; rw [if_pos (by omega)]
theorem b_up (c : Prop) [Decidable c] : (0 : Int) ≤ (if c then 1 else 0) ∧ (if c then (1 : Int) else 0) ≤ 1 := by split <;> omega
def vc_X1_doubleOfRatio (ov : Int) (un : Int) (Q : Int → Prop) : Prop :=
((ov ≤ 0 → Q 0) ∧
(ov > 0 → ((un > 0 → un ≠ 0 ∧ z_nl (ov.tdiv un) ∧ (∀ v2 : Int, v2 = ov.tdiv un → un ≠ 0 ∧ z_nl (ov.tmod un) ∧ (∀ v6 : Int, v6 = ov.tmod un → (∀ L27 : Int → Int → Int → Prop,
(∀ (x27_8 : Int) (x27_6 : Int) (x27_4 : Int), z_in x27_8 → z_nl x27_6 → z_nl x27_4 → ((x27_8 ≥ 1000 → z_nl (2 * x27_6) ∧ ((2 * x27_6 > un → z_in (1075 - x27_8) ∧ z_nl (((z_shll (1075 - x27_8) 52) + (x27_4 - 4503599627370496)) + 1) ∧ Q (((z_shll (1075 - x27_8) 52) + (x27_4 - 4503599627370496)) + 1)) ∧
(2 * x27_6 ≤ un → ((2 * x27_6 ≠ un → z_in (1075 - x27_8) ∧ z_nl (((z_shll (1075 - x27_8) 52) + (x27_4 - 4503599627370496)) + 0) ∧ Q (((z_shll (1075 - x27_8) 52) + (x27_4 - 4503599627370496)) + 0)) ∧
(2 * x27_6 = un → ((z_andl x27_4 1 ≠ 1 → z_in (1075 - x27_8) ∧ z_nl (((z_shll (1075 - x27_8) 52) + (x27_4 - 4503599627370496)) + 0) ∧ Q (((z_shll (1075 - x27_8) 52) + (x27_4 - 4503599627370496)) + 0)) ∧
(z_andl x27_4 1 = 1 → z_in (1075 - x27_8) ∧ z_nl (((z_shll (1075 - x27_8) 52) + (x27_4 - 4503599627370496)) + 1) ∧ Q (((z_shll (1075 - x27_8) 52) + (x27_4 - 4503599627370496)) + 1)))))))) ∧
(x27_8 < 1000 → ((x27_4 ≥ 4503599627370496 → z_nl (2 * x27_6) ∧ ((2 * x27_6 > un → z_in (1075 - x27_8) ∧ z_nl (((z_shll (1075 - x27_8) 52) + (x27_4 - 4503599627370496)) + 1) ∧ Q (((z_shll (1075 - x27_8) 52) + (x27_4 - 4503599627370496)) + 1)) ∧
(2 * x27_6 ≤ un → ((2 * x27_6 ≠ un → z_in (1075 - x27_8) ∧ z_nl (((z_shll (1075 - x27_8) 52) + (x27_4 - 4503599627370496)) + 0) ∧ Q (((z_shll (1075 - x27_8) 52) + (x27_4 - 4503599627370496)) + 0)) ∧
(2 * x27_6 = un → ((z_andl x27_4 1 ≠ 1 → z_in (1075 - x27_8) ∧ z_nl (((z_shll (1075 - x27_8) 52) + (x27_4 - 4503599627370496)) + 0) ∧ Q (((z_shll (1075 - x27_8) 52) + (x27_4 - 4503599627370496)) + 0)) ∧
(z_andl x27_4 1 = 1 → z_in (1075 - x27_8) ∧ z_nl (((z_shll (1075 - x27_8) 52) + (x27_4 - 4503599627370496)) + 1) ∧ Q (((z_shll (1075 - x27_8) 52) + (x27_4 - 4503599627370496)) + 1)))))))) ∧
(x27_4 < 4503599627370496 → z_nl (2 * x27_6) ∧ (∀ v27 : Int, v27 = 2 * x27_6 → ((v27 < un → z_nl (v27 - (0 * un)) ∧ (∀ v30 : Int, v30 = v27 - (0 * un) → z_nl ((2 * x27_4) + 0) ∧ (∀ v33 : Int, v33 = (2 * x27_4) + 0 → L27 (x27_8 + 1) v30 v33))) ∧
(v27 ≥ un → z_nl (v27 - (1 * un)) ∧ (∀ v36 : Int, v36 = v27 - (1 * un) → z_nl ((2 * x27_4) + 1) ∧ (∀ v39 : Int, v39 = (2 * x27_4) + 1 → L27 (x27_8 + 1) v36 v39))))))))) → L27 x27_8 x27_6 x27_4) →
L27 0 v6 v2)))) ∧
(un ≤ 0 → Q 0))))
set_option maxHeartbeats 4000000 in
set_option maxRecDepth 100000 in
theorem wk_X1_doubleOfRatio (l : Launch) (D : va_G) (cA : Nat → ClassId) (ov : Int) (un : Int) (h_ov : z_nl ov) (h_un : z_nl un) (Q : Int → Prop) (hv : vc_X1_doubleOfRatio ov un Q) : Met l yX1_doubleOfRatio wsX1_doubleOfRatio ({ frames := 0, cells := 0, slots := 0, locals := 0 } : Room) (va_Pc [.long (z_l ov), .long (z_l un)] (z_B0 D cA [])) (va_Ql (z_rl Q) (fun _ _ => True) (fun _ => False)) 0 0 (fun _ => False) := by
  unfold vc_X1_doubleOfRatio at hv
  refine Met.ofW (cc := cX1_doubleOfRatio) (maxL := 11) (ret := (some .long)) (by decide +kernel) rfl ?_
  intro p e s m args below meth c s₁ B hml hv0
  obtain ⟨rfl, hK, hP⟩ := hv0
  have hx := B.exec
  have hb := B.bytes
  have hr := B.returns
  have hts := atoms_spec (ws := wsX1_doubleOfRatio) B.pre
  have hown : s.vm.findClass RX1 = some m.cls := findClass_of_methodNamed B.named
  have hlocks := B.notSynchronized
  have hS : va_S (fun _ : Nat => False) s.heap s.heap [] := va_S.rf
  have hl := lv_entry ([.long (z_l ov), .long (z_l un)]) (n := 11) (Nat.le_of_ble_eq_true rfl)
  rw [lg_entry_eq]
  generalize (lg_sl ([.long (z_l ov), .long (z_l un)]) ++ List.replicate (11 - (lg_sl ([.long (z_l ov), .long (z_l un)])).length) Slot.unset).toArray = ls at hl ⊢
  have hl : lv_has ls 11 [(0, .long (z_l ov)), (2, .long (z_l un))] := hl
  refine lv_lload_n hx hb dX1_doubleOfRatio_0 rfl (lv_at hl 0 rfl) ?_
  refine lv_lconst (v := z_l 0) hx hb dX1_doubleOfRatio_1 (by decide) ?_
  refine lx_lcmp hx hb dX1_doubleOfRatio_2 h_ov (show z_nl 0 from ⟨by decide, by decide⟩) ?_
  refine lx_if_le (tgt := 12) hx hb dX1_doubleOfRatio_3 (by decide) (z_in_cmp _ _) (fun hc => ?_) (fun hc => ?_)
  · have hv := hv.1 (z_cmp_le.mp hc)
    refine lv_lconst (v := z_l 0) hx hb dX1_doubleOfRatio_12 (by decide) ?_
    exact W.lret (v := z_l 0) hx hb hr (fun t ht hW => ⟨⟨z_l 0, (), rfl, ⟨0, rfl, (show z_nl 0 from ⟨by decide, by decide⟩), hv⟩, trivial⟩, hS.F ht⟩) hS.2.2 dX1_doubleOfRatio_13
  · have hv := hv.2 (z_cmp_gt.mp hc)
    refine lv_lload_n hx hb dX1_doubleOfRatio_6 rfl (lv_at hl 1 rfl) ?_
    refine lv_lconst (v := z_l 0) hx hb dX1_doubleOfRatio_7 (by decide) ?_
    refine lx_lcmp hx hb dX1_doubleOfRatio_8 h_un (show z_nl 0 from ⟨by decide, by decide⟩) ?_
    refine lx_if_gt (tgt := 14) hx hb dX1_doubleOfRatio_9 (by decide) (z_in_cmp _ _) (fun hc => ?_) (fun hc => ?_)
    · have hv := hv.1 (z_cmp_gt.mp hc)
      refine lv_lload_n hx hb dX1_doubleOfRatio_14 rfl (lv_at hl 0 rfl) ?_
      refine lv_lload_n hx hb dX1_doubleOfRatio_15 rfl (lv_at hl 1 rfl) ?_
      obtain ⟨hz1, hv⟩ := hv
      refine lx_ldiv hx hb dX1_doubleOfRatio_16 h_ov h_un hz1 ?_
      obtain ⟨hr3, hv⟩ := hv
      refine lx_topl (fun v2 hy4 => ?_)
      have hv := hv v2 hy4
      have h_v2 : z_nl v2 := by rw [hy4]; exact hr3
      refine lv_lstore (lv' := [(4, .long (z_l v2)), (0, .long (z_l ov)), (2, .long (z_l un))]) hx hb dX1_doubleOfRatio_17 hl (by decide) rfl (fun ls hl => ?_)
      refine lv_lload_n hx hb dX1_doubleOfRatio_19 rfl (lv_at hl 1 rfl) ?_
      refine lv_lload_n hx hb dX1_doubleOfRatio_20 rfl (lv_at hl 2 rfl) ?_
      obtain ⟨hz5, hv⟩ := hv
      refine lx_lrem hx hb dX1_doubleOfRatio_21 h_ov h_un hz5 ?_
      obtain ⟨hr7, hv⟩ := hv
      refine lx_topl (fun v6 hy8 => ?_)
      have hv := hv v6 hy8
      have h_v6 : z_nl v6 := by rw [hy8]; exact hr7
      refine lv_lstore (lv' := [(6, .long (z_l v6)), (4, .long (z_l v2)), (0, .long (z_l ov)), (2, .long (z_l un))]) hx hb dX1_doubleOfRatio_22 hl (by decide) rfl (fun ls hl => ?_)
      refine lv_iconst (v := z_i 0) hx hb dX1_doubleOfRatio_24 rfl ?_
      refine lv_istore (lv' := [(8, .int (z_i 0)), (6, .long (z_l v6)), (4, .long (z_l v2)), (0, .long (z_l ov)), (2, .long (z_l un))]) hx hb dX1_doubleOfRatio_25 hl (by decide) rfl (fun ls hl => ?_)
      refine hv (fun (x27_8 : Int) (x27_6 : Int) (x27_4 : Int) => ∀ (H : Heap) (locs : List Loc) (ls : Array Slot), va_P D vwCl [] H → va_S (fun _ : Nat => False) s.heap H locs → lv_has ls 11 [(8, .int (z_i x27_8)), (6, .long (z_l x27_6)), (4, .long (z_l x27_4)), (2, .long (z_l un))] → W p l e _ s m _ below meth c H locs 0 0 _ (F0 m 27 ls [])) ?_ _ _ ls hP hS (lv_sub hl [0, 1, 2, 4] rfl)
      intro x27_8 x27_6 x27_4 h_x27_8 h_x27_6 h_x27_4 hv H locs ls hP hS hl
      refine lv_iload hx hb dX1_doubleOfRatio_27 (lv_at hl 0 rfl) ?_
      refine lv_sipush (v := z_i 1000) hx hb dX1_doubleOfRatio_29 (by decide) ?_
      refine lx_icmp_ge (tgt := 92) hx hb dX1_doubleOfRatio_32 (by decide) h_x27_8 (show z_in 1000 from ⟨by decide, by decide⟩) (fun hc => ?_) (fun hc => ?_)
      · have hv := hv.1 hc
        refine lx_ldc2 (a := 2) hx hb hown (hts (.constantLong RX1 22 (2)) (by decide +kernel)) (by decide) dX1_doubleOfRatio_92 ?_
        refine lv_lload hx hb dX1_doubleOfRatio_95 (lv_at hl 1 rfl) ?_
        refine lx_lmul hx hb dX1_doubleOfRatio_97 ?_
        refine lv_lload_n hx hb dX1_doubleOfRatio_98 rfl (lv_at hl 3 rfl) ?_
        obtain ⟨hr9, hv⟩ := hv
        refine lx_lcmp hx hb dX1_doubleOfRatio_99 hr9 h_un ?_
        refine lx_if_gt (tgt := 123) hx hb dX1_doubleOfRatio_100 (by decide) (z_in_cmp _ _) (fun hc => ?_) (fun hc => ?_)
        · have hv := hv.1 (z_cmp_gt.mp hc)
          refine lv_iconst (v := z_i 1) hx hb dX1_doubleOfRatio_123 rfl ?_
          refine lv_goto (tgt := 128) hx hb dX1_doubleOfRatio_124 (by decide) ?_
          refine lv_istore (lv' := [(9, .int (z_i 1)), (8, .int (z_i x27_8)), (6, .long (z_l x27_6)), (4, .long (z_l x27_4)), (2, .long (z_l un))]) hx hb dX1_doubleOfRatio_128 hl (by decide) rfl (fun ls hl => ?_)
          refine lv_sipush (v := z_i 1075) hx hb dX1_doubleOfRatio_130 (by decide) ?_
          refine lv_iload hx hb dX1_doubleOfRatio_133 (lv_at hl 1 rfl) ?_
          refine lx_isub hx hb dX1_doubleOfRatio_135 ?_
          obtain ⟨hr10, hv⟩ := hv
          refine lx_i2l hx hb dX1_doubleOfRatio_136 hr10 ?_
          refine lv_bipush (v := z_i 52) hx hb dX1_doubleOfRatio_137 (by decide) ?_
          refine lx_lshl hx hb dX1_doubleOfRatio_139 ?_
          refine lv_lload hx hb dX1_doubleOfRatio_140 (lv_at hl 3 rfl) ?_
          refine lx_ldc2 (a := 4503599627370496) hx hb hown (hts (.constantLong RX1 20 (4503599627370496)) (by decide +kernel)) (by decide) dX1_doubleOfRatio_142 ?_
          refine lx_lsub hx hb dX1_doubleOfRatio_145 ?_
          refine lx_ladd hx hb dX1_doubleOfRatio_146 ?_
          refine lv_iload hx hb dX1_doubleOfRatio_147 (lv_at hl 0 rfl) ?_
          refine lx_if_eq (tgt := 156) hx hb dX1_doubleOfRatio_149 (by decide) ⟨by decide, by decide⟩ (fun hc => absurd hc (by decide)) (fun _ => ?_)
          refine lv_lconst (v := z_l 1) hx hb dX1_doubleOfRatio_152 (by decide) ?_
          refine lv_goto (tgt := 157) hx hb dX1_doubleOfRatio_153 (by decide) ?_
          refine lx_ladd hx hb dX1_doubleOfRatio_157 ?_
          obtain ⟨hr11, hv⟩ := hv
          exact W.lret (v := z_l (((z_shll (1075 - x27_8) 52) + (x27_4 - 4503599627370496)) + 1)) hx hb hr (fun t ht hW => ⟨⟨z_l (((z_shll (1075 - x27_8) 52) + (x27_4 - 4503599627370496)) + 1), (), rfl, ⟨((z_shll (1075 - x27_8) 52) + (x27_4 - 4503599627370496)) + 1, rfl, hr11, hv⟩, trivial⟩, hS.F ht⟩) hS.2.2 dX1_doubleOfRatio_158
        · have hv := hv.2 (z_cmp_le.mp hc)
          refine lx_ldc2 (a := 2) hx hb hown (hts (.constantLong RX1 22 (2)) (by decide +kernel)) (by decide) dX1_doubleOfRatio_103 ?_
          refine lv_lload hx hb dX1_doubleOfRatio_106 (lv_at hl 1 rfl) ?_
          refine lx_lmul hx hb dX1_doubleOfRatio_108 ?_
          refine lv_lload_n hx hb dX1_doubleOfRatio_109 rfl (lv_at hl 3 rfl) ?_
          refine lx_lcmp hx hb dX1_doubleOfRatio_110 hr9 h_un ?_
          refine lx_if_ne (tgt := 127) hx hb dX1_doubleOfRatio_111 (by decide) (z_in_cmp _ _) (fun hc => ?_) (fun hc => ?_)
          · have hv := hv.1 (z_cmp_ne.mp hc)
            refine lv_iconst (v := z_i 0) hx hb dX1_doubleOfRatio_127 rfl ?_
            refine lv_istore (lv' := [(9, .int (z_i 0)), (8, .int (z_i x27_8)), (6, .long (z_l x27_6)), (4, .long (z_l x27_4)), (2, .long (z_l un))]) hx hb dX1_doubleOfRatio_128 hl (by decide) rfl (fun ls hl => ?_)
            refine lv_sipush (v := z_i 1075) hx hb dX1_doubleOfRatio_130 (by decide) ?_
            refine lv_iload hx hb dX1_doubleOfRatio_133 (lv_at hl 1 rfl) ?_
            refine lx_isub hx hb dX1_doubleOfRatio_135 ?_
            obtain ⟨hr12, hv⟩ := hv
            refine lx_i2l hx hb dX1_doubleOfRatio_136 hr12 ?_
            refine lv_bipush (v := z_i 52) hx hb dX1_doubleOfRatio_137 (by decide) ?_
            refine lx_lshl hx hb dX1_doubleOfRatio_139 ?_
            refine lv_lload hx hb dX1_doubleOfRatio_140 (lv_at hl 3 rfl) ?_
            refine lx_ldc2 (a := 4503599627370496) hx hb hown (hts (.constantLong RX1 20 (4503599627370496)) (by decide +kernel)) (by decide) dX1_doubleOfRatio_142 ?_
            refine lx_lsub hx hb dX1_doubleOfRatio_145 ?_
            refine lx_ladd hx hb dX1_doubleOfRatio_146 ?_
            refine lv_iload hx hb dX1_doubleOfRatio_147 (lv_at hl 0 rfl) ?_
            refine lx_if_eq (tgt := 156) hx hb dX1_doubleOfRatio_149 (by decide) ⟨by decide, by decide⟩ (fun _ => ?_) (fun hc => absurd hc (by decide))
            refine lv_lconst (v := z_l 0) hx hb dX1_doubleOfRatio_156 (by decide) ?_
            refine lx_ladd hx hb dX1_doubleOfRatio_157 ?_
            obtain ⟨hr13, hv⟩ := hv
            exact W.lret (v := z_l (((z_shll (1075 - x27_8) 52) + (x27_4 - 4503599627370496)) + 0)) hx hb hr (fun t ht hW => ⟨⟨z_l (((z_shll (1075 - x27_8) 52) + (x27_4 - 4503599627370496)) + 0), (), rfl, ⟨((z_shll (1075 - x27_8) 52) + (x27_4 - 4503599627370496)) + 0, rfl, hr13, hv⟩, trivial⟩, hS.F ht⟩) hS.2.2 dX1_doubleOfRatio_158
          · have hv := hv.2 (z_cmp_eq.mp hc)
            refine lv_lload hx hb dX1_doubleOfRatio_114 (lv_at hl 2 rfl) ?_
            refine lv_lconst (v := z_l 1) hx hb dX1_doubleOfRatio_116 (by decide) ?_
            refine lx_land hx hb dX1_doubleOfRatio_117 ?_
            refine lv_lconst (v := z_l 1) hx hb dX1_doubleOfRatio_118 (by decide) ?_
            refine lx_lcmp hx hb dX1_doubleOfRatio_119 (z_nl_of _) (show z_nl 1 from ⟨by decide, by decide⟩) ?_
            refine lx_if_ne (tgt := 127) hx hb dX1_doubleOfRatio_120 (by decide) (z_in_cmp _ _) (fun hc => ?_) (fun hc => ?_)
            · have hv := hv.1 (z_cmp_ne.mp hc)
              refine lv_iconst (v := z_i 0) hx hb dX1_doubleOfRatio_127 rfl ?_
              refine lv_istore (lv' := [(9, .int (z_i 0)), (8, .int (z_i x27_8)), (6, .long (z_l x27_6)), (4, .long (z_l x27_4)), (2, .long (z_l un))]) hx hb dX1_doubleOfRatio_128 hl (by decide) rfl (fun ls hl => ?_)
              refine lv_sipush (v := z_i 1075) hx hb dX1_doubleOfRatio_130 (by decide) ?_
              refine lv_iload hx hb dX1_doubleOfRatio_133 (lv_at hl 1 rfl) ?_
              refine lx_isub hx hb dX1_doubleOfRatio_135 ?_
              obtain ⟨hr14, hv⟩ := hv
              refine lx_i2l hx hb dX1_doubleOfRatio_136 hr14 ?_
              refine lv_bipush (v := z_i 52) hx hb dX1_doubleOfRatio_137 (by decide) ?_
              refine lx_lshl hx hb dX1_doubleOfRatio_139 ?_
              refine lv_lload hx hb dX1_doubleOfRatio_140 (lv_at hl 3 rfl) ?_
              refine lx_ldc2 (a := 4503599627370496) hx hb hown (hts (.constantLong RX1 20 (4503599627370496)) (by decide +kernel)) (by decide) dX1_doubleOfRatio_142 ?_
              refine lx_lsub hx hb dX1_doubleOfRatio_145 ?_
              refine lx_ladd hx hb dX1_doubleOfRatio_146 ?_
              refine lv_iload hx hb dX1_doubleOfRatio_147 (lv_at hl 0 rfl) ?_
              refine lx_if_eq (tgt := 156) hx hb dX1_doubleOfRatio_149 (by decide) ⟨by decide, by decide⟩ (fun _ => ?_) (fun hc => absurd hc (by decide))
              refine lv_lconst (v := z_l 0) hx hb dX1_doubleOfRatio_156 (by decide) ?_
              refine lx_ladd hx hb dX1_doubleOfRatio_157 ?_
              obtain ⟨hr15, hv⟩ := hv
              exact W.lret (v := z_l (((z_shll (1075 - x27_8) 52) + (x27_4 - 4503599627370496)) + 0)) hx hb hr (fun t ht hW => ⟨⟨z_l (((z_shll (1075 - x27_8) 52) + (x27_4 - 4503599627370496)) + 0), (), rfl, ⟨((z_shll (1075 - x27_8) 52) + (x27_4 - 4503599627370496)) + 0, rfl, hr15, hv⟩, trivial⟩, hS.F ht⟩) hS.2.2 dX1_doubleOfRatio_158
            · have hv := hv.2 (z_cmp_eq.mp hc)
              refine lv_iconst (v := z_i 1) hx hb dX1_doubleOfRatio_123 rfl ?_
              refine lv_goto (tgt := 128) hx hb dX1_doubleOfRatio_124 (by decide) ?_
              refine lv_istore (lv' := [(9, .int (z_i 1)), (8, .int (z_i x27_8)), (6, .long (z_l x27_6)), (4, .long (z_l x27_4)), (2, .long (z_l un))]) hx hb dX1_doubleOfRatio_128 hl (by decide) rfl (fun ls hl => ?_)
              refine lv_sipush (v := z_i 1075) hx hb dX1_doubleOfRatio_130 (by decide) ?_
              refine lv_iload hx hb dX1_doubleOfRatio_133 (lv_at hl 1 rfl) ?_
              refine lx_isub hx hb dX1_doubleOfRatio_135 ?_
              obtain ⟨hr16, hv⟩ := hv
              refine lx_i2l hx hb dX1_doubleOfRatio_136 hr16 ?_
              refine lv_bipush (v := z_i 52) hx hb dX1_doubleOfRatio_137 (by decide) ?_
              refine lx_lshl hx hb dX1_doubleOfRatio_139 ?_
              refine lv_lload hx hb dX1_doubleOfRatio_140 (lv_at hl 3 rfl) ?_
              refine lx_ldc2 (a := 4503599627370496) hx hb hown (hts (.constantLong RX1 20 (4503599627370496)) (by decide +kernel)) (by decide) dX1_doubleOfRatio_142 ?_
              refine lx_lsub hx hb dX1_doubleOfRatio_145 ?_
              refine lx_ladd hx hb dX1_doubleOfRatio_146 ?_
              refine lv_iload hx hb dX1_doubleOfRatio_147 (lv_at hl 0 rfl) ?_
              refine lx_if_eq (tgt := 156) hx hb dX1_doubleOfRatio_149 (by decide) ⟨by decide, by decide⟩ (fun hc => absurd hc (by decide)) (fun _ => ?_)
              refine lv_lconst (v := z_l 1) hx hb dX1_doubleOfRatio_152 (by decide) ?_
              refine lv_goto (tgt := 157) hx hb dX1_doubleOfRatio_153 (by decide) ?_
              refine lx_ladd hx hb dX1_doubleOfRatio_157 ?_
              obtain ⟨hr17, hv⟩ := hv
              exact W.lret (v := z_l (((z_shll (1075 - x27_8) 52) + (x27_4 - 4503599627370496)) + 1)) hx hb hr (fun t ht hW => ⟨⟨z_l (((z_shll (1075 - x27_8) 52) + (x27_4 - 4503599627370496)) + 1), (), rfl, ⟨((z_shll (1075 - x27_8) 52) + (x27_4 - 4503599627370496)) + 1, rfl, hr17, hv⟩, trivial⟩, hS.F ht⟩) hS.2.2 dX1_doubleOfRatio_158
      · have hv := hv.2 hc
        refine lv_lload hx hb dX1_doubleOfRatio_35 (lv_at hl 2 rfl) ?_
        refine lx_ldc2 (a := 4503599627370496) hx hb hown (hts (.constantLong RX1 20 (4503599627370496)) (by decide +kernel)) (by decide) dX1_doubleOfRatio_37 ?_
        refine lx_lcmp hx hb dX1_doubleOfRatio_40 h_x27_4 (show z_nl 4503599627370496 from ⟨by decide, by decide⟩) ?_
        refine lx_if_ge (tgt := 92) hx hb dX1_doubleOfRatio_41 (by decide) (z_in_cmp _ _) (fun hc => ?_) (fun hc => ?_)
        · have hv := hv.1 (z_cmp_ge.mp hc)
          refine lx_ldc2 (a := 2) hx hb hown (hts (.constantLong RX1 22 (2)) (by decide +kernel)) (by decide) dX1_doubleOfRatio_92 ?_
          refine lv_lload hx hb dX1_doubleOfRatio_95 (lv_at hl 1 rfl) ?_
          refine lx_lmul hx hb dX1_doubleOfRatio_97 ?_
          refine lv_lload_n hx hb dX1_doubleOfRatio_98 rfl (lv_at hl 3 rfl) ?_
          obtain ⟨hr18, hv⟩ := hv
          refine lx_lcmp hx hb dX1_doubleOfRatio_99 hr18 h_un ?_
          refine lx_if_gt (tgt := 123) hx hb dX1_doubleOfRatio_100 (by decide) (z_in_cmp _ _) (fun hc => ?_) (fun hc => ?_)
          · have hv := hv.1 (z_cmp_gt.mp hc)
            refine lv_iconst (v := z_i 1) hx hb dX1_doubleOfRatio_123 rfl ?_
            refine lv_goto (tgt := 128) hx hb dX1_doubleOfRatio_124 (by decide) ?_
            refine lv_istore (lv' := [(9, .int (z_i 1)), (8, .int (z_i x27_8)), (6, .long (z_l x27_6)), (4, .long (z_l x27_4)), (2, .long (z_l un))]) hx hb dX1_doubleOfRatio_128 hl (by decide) rfl (fun ls hl => ?_)
            refine lv_sipush (v := z_i 1075) hx hb dX1_doubleOfRatio_130 (by decide) ?_
            refine lv_iload hx hb dX1_doubleOfRatio_133 (lv_at hl 1 rfl) ?_
            refine lx_isub hx hb dX1_doubleOfRatio_135 ?_
            obtain ⟨hr19, hv⟩ := hv
            refine lx_i2l hx hb dX1_doubleOfRatio_136 hr19 ?_
            refine lv_bipush (v := z_i 52) hx hb dX1_doubleOfRatio_137 (by decide) ?_
            refine lx_lshl hx hb dX1_doubleOfRatio_139 ?_
            refine lv_lload hx hb dX1_doubleOfRatio_140 (lv_at hl 3 rfl) ?_
            refine lx_ldc2 (a := 4503599627370496) hx hb hown (hts (.constantLong RX1 20 (4503599627370496)) (by decide +kernel)) (by decide) dX1_doubleOfRatio_142 ?_
            refine lx_lsub hx hb dX1_doubleOfRatio_145 ?_
            refine lx_ladd hx hb dX1_doubleOfRatio_146 ?_
            refine lv_iload hx hb dX1_doubleOfRatio_147 (lv_at hl 0 rfl) ?_
            refine lx_if_eq (tgt := 156) hx hb dX1_doubleOfRatio_149 (by decide) ⟨by decide, by decide⟩ (fun hc => absurd hc (by decide)) (fun _ => ?_)
            refine lv_lconst (v := z_l 1) hx hb dX1_doubleOfRatio_152 (by decide) ?_
            refine lv_goto (tgt := 157) hx hb dX1_doubleOfRatio_153 (by decide) ?_
            refine lx_ladd hx hb dX1_doubleOfRatio_157 ?_
            obtain ⟨hr20, hv⟩ := hv
            exact W.lret (v := z_l (((z_shll (1075 - x27_8) 52) + (x27_4 - 4503599627370496)) + 1)) hx hb hr (fun t ht hW => ⟨⟨z_l (((z_shll (1075 - x27_8) 52) + (x27_4 - 4503599627370496)) + 1), (), rfl, ⟨((z_shll (1075 - x27_8) 52) + (x27_4 - 4503599627370496)) + 1, rfl, hr20, hv⟩, trivial⟩, hS.F ht⟩) hS.2.2 dX1_doubleOfRatio_158
          · have hv := hv.2 (z_cmp_le.mp hc)
            refine lx_ldc2 (a := 2) hx hb hown (hts (.constantLong RX1 22 (2)) (by decide +kernel)) (by decide) dX1_doubleOfRatio_103 ?_
            refine lv_lload hx hb dX1_doubleOfRatio_106 (lv_at hl 1 rfl) ?_
            refine lx_lmul hx hb dX1_doubleOfRatio_108 ?_
            refine lv_lload_n hx hb dX1_doubleOfRatio_109 rfl (lv_at hl 3 rfl) ?_
            refine lx_lcmp hx hb dX1_doubleOfRatio_110 hr18 h_un ?_
            refine lx_if_ne (tgt := 127) hx hb dX1_doubleOfRatio_111 (by decide) (z_in_cmp _ _) (fun hc => ?_) (fun hc => ?_)
            · have hv := hv.1 (z_cmp_ne.mp hc)
              refine lv_iconst (v := z_i 0) hx hb dX1_doubleOfRatio_127 rfl ?_
              refine lv_istore (lv' := [(9, .int (z_i 0)), (8, .int (z_i x27_8)), (6, .long (z_l x27_6)), (4, .long (z_l x27_4)), (2, .long (z_l un))]) hx hb dX1_doubleOfRatio_128 hl (by decide) rfl (fun ls hl => ?_)
              refine lv_sipush (v := z_i 1075) hx hb dX1_doubleOfRatio_130 (by decide) ?_
              refine lv_iload hx hb dX1_doubleOfRatio_133 (lv_at hl 1 rfl) ?_
              refine lx_isub hx hb dX1_doubleOfRatio_135 ?_
              obtain ⟨hr21, hv⟩ := hv
              refine lx_i2l hx hb dX1_doubleOfRatio_136 hr21 ?_
              refine lv_bipush (v := z_i 52) hx hb dX1_doubleOfRatio_137 (by decide) ?_
              refine lx_lshl hx hb dX1_doubleOfRatio_139 ?_
              refine lv_lload hx hb dX1_doubleOfRatio_140 (lv_at hl 3 rfl) ?_
              refine lx_ldc2 (a := 4503599627370496) hx hb hown (hts (.constantLong RX1 20 (4503599627370496)) (by decide +kernel)) (by decide) dX1_doubleOfRatio_142 ?_
              refine lx_lsub hx hb dX1_doubleOfRatio_145 ?_
              refine lx_ladd hx hb dX1_doubleOfRatio_146 ?_
              refine lv_iload hx hb dX1_doubleOfRatio_147 (lv_at hl 0 rfl) ?_
              refine lx_if_eq (tgt := 156) hx hb dX1_doubleOfRatio_149 (by decide) ⟨by decide, by decide⟩ (fun _ => ?_) (fun hc => absurd hc (by decide))
              refine lv_lconst (v := z_l 0) hx hb dX1_doubleOfRatio_156 (by decide) ?_
              refine lx_ladd hx hb dX1_doubleOfRatio_157 ?_
              obtain ⟨hr22, hv⟩ := hv
              exact W.lret (v := z_l (((z_shll (1075 - x27_8) 52) + (x27_4 - 4503599627370496)) + 0)) hx hb hr (fun t ht hW => ⟨⟨z_l (((z_shll (1075 - x27_8) 52) + (x27_4 - 4503599627370496)) + 0), (), rfl, ⟨((z_shll (1075 - x27_8) 52) + (x27_4 - 4503599627370496)) + 0, rfl, hr22, hv⟩, trivial⟩, hS.F ht⟩) hS.2.2 dX1_doubleOfRatio_158
            · have hv := hv.2 (z_cmp_eq.mp hc)
              refine lv_lload hx hb dX1_doubleOfRatio_114 (lv_at hl 2 rfl) ?_
              refine lv_lconst (v := z_l 1) hx hb dX1_doubleOfRatio_116 (by decide) ?_
              refine lx_land hx hb dX1_doubleOfRatio_117 ?_
              refine lv_lconst (v := z_l 1) hx hb dX1_doubleOfRatio_118 (by decide) ?_
              refine lx_lcmp hx hb dX1_doubleOfRatio_119 (z_nl_of _) (show z_nl 1 from ⟨by decide, by decide⟩) ?_
              refine lx_if_ne (tgt := 127) hx hb dX1_doubleOfRatio_120 (by decide) (z_in_cmp _ _) (fun hc => ?_) (fun hc => ?_)
              · have hv := hv.1 (z_cmp_ne.mp hc)
                refine lv_iconst (v := z_i 0) hx hb dX1_doubleOfRatio_127 rfl ?_
                refine lv_istore (lv' := [(9, .int (z_i 0)), (8, .int (z_i x27_8)), (6, .long (z_l x27_6)), (4, .long (z_l x27_4)), (2, .long (z_l un))]) hx hb dX1_doubleOfRatio_128 hl (by decide) rfl (fun ls hl => ?_)
                refine lv_sipush (v := z_i 1075) hx hb dX1_doubleOfRatio_130 (by decide) ?_
                refine lv_iload hx hb dX1_doubleOfRatio_133 (lv_at hl 1 rfl) ?_
                refine lx_isub hx hb dX1_doubleOfRatio_135 ?_
                obtain ⟨hr23, hv⟩ := hv
                refine lx_i2l hx hb dX1_doubleOfRatio_136 hr23 ?_
                refine lv_bipush (v := z_i 52) hx hb dX1_doubleOfRatio_137 (by decide) ?_
                refine lx_lshl hx hb dX1_doubleOfRatio_139 ?_
                refine lv_lload hx hb dX1_doubleOfRatio_140 (lv_at hl 3 rfl) ?_
                refine lx_ldc2 (a := 4503599627370496) hx hb hown (hts (.constantLong RX1 20 (4503599627370496)) (by decide +kernel)) (by decide) dX1_doubleOfRatio_142 ?_
                refine lx_lsub hx hb dX1_doubleOfRatio_145 ?_
                refine lx_ladd hx hb dX1_doubleOfRatio_146 ?_
                refine lv_iload hx hb dX1_doubleOfRatio_147 (lv_at hl 0 rfl) ?_
                refine lx_if_eq (tgt := 156) hx hb dX1_doubleOfRatio_149 (by decide) ⟨by decide, by decide⟩ (fun _ => ?_) (fun hc => absurd hc (by decide))
                refine lv_lconst (v := z_l 0) hx hb dX1_doubleOfRatio_156 (by decide) ?_
                refine lx_ladd hx hb dX1_doubleOfRatio_157 ?_
                obtain ⟨hr24, hv⟩ := hv
                exact W.lret (v := z_l (((z_shll (1075 - x27_8) 52) + (x27_4 - 4503599627370496)) + 0)) hx hb hr (fun t ht hW => ⟨⟨z_l (((z_shll (1075 - x27_8) 52) + (x27_4 - 4503599627370496)) + 0), (), rfl, ⟨((z_shll (1075 - x27_8) 52) + (x27_4 - 4503599627370496)) + 0, rfl, hr24, hv⟩, trivial⟩, hS.F ht⟩) hS.2.2 dX1_doubleOfRatio_158
              · have hv := hv.2 (z_cmp_eq.mp hc)
                refine lv_iconst (v := z_i 1) hx hb dX1_doubleOfRatio_123 rfl ?_
                refine lv_goto (tgt := 128) hx hb dX1_doubleOfRatio_124 (by decide) ?_
                refine lv_istore (lv' := [(9, .int (z_i 1)), (8, .int (z_i x27_8)), (6, .long (z_l x27_6)), (4, .long (z_l x27_4)), (2, .long (z_l un))]) hx hb dX1_doubleOfRatio_128 hl (by decide) rfl (fun ls hl => ?_)
                refine lv_sipush (v := z_i 1075) hx hb dX1_doubleOfRatio_130 (by decide) ?_
                refine lv_iload hx hb dX1_doubleOfRatio_133 (lv_at hl 1 rfl) ?_
                refine lx_isub hx hb dX1_doubleOfRatio_135 ?_
                obtain ⟨hr25, hv⟩ := hv
                refine lx_i2l hx hb dX1_doubleOfRatio_136 hr25 ?_
                refine lv_bipush (v := z_i 52) hx hb dX1_doubleOfRatio_137 (by decide) ?_
                refine lx_lshl hx hb dX1_doubleOfRatio_139 ?_
                refine lv_lload hx hb dX1_doubleOfRatio_140 (lv_at hl 3 rfl) ?_
                refine lx_ldc2 (a := 4503599627370496) hx hb hown (hts (.constantLong RX1 20 (4503599627370496)) (by decide +kernel)) (by decide) dX1_doubleOfRatio_142 ?_
                refine lx_lsub hx hb dX1_doubleOfRatio_145 ?_
                refine lx_ladd hx hb dX1_doubleOfRatio_146 ?_
                refine lv_iload hx hb dX1_doubleOfRatio_147 (lv_at hl 0 rfl) ?_
                refine lx_if_eq (tgt := 156) hx hb dX1_doubleOfRatio_149 (by decide) ⟨by decide, by decide⟩ (fun hc => absurd hc (by decide)) (fun _ => ?_)
                refine lv_lconst (v := z_l 1) hx hb dX1_doubleOfRatio_152 (by decide) ?_
                refine lv_goto (tgt := 157) hx hb dX1_doubleOfRatio_153 (by decide) ?_
                refine lx_ladd hx hb dX1_doubleOfRatio_157 ?_
                obtain ⟨hr26, hv⟩ := hv
                exact W.lret (v := z_l (((z_shll (1075 - x27_8) 52) + (x27_4 - 4503599627370496)) + 1)) hx hb hr (fun t ht hW => ⟨⟨z_l (((z_shll (1075 - x27_8) 52) + (x27_4 - 4503599627370496)) + 1), (), rfl, ⟨((z_shll (1075 - x27_8) 52) + (x27_4 - 4503599627370496)) + 1, rfl, hr26, hv⟩, trivial⟩, hS.F ht⟩) hS.2.2 dX1_doubleOfRatio_158
        · have hv := hv.2 (z_cmp_lt.mp hc)
          refine lx_ldc2 (a := 2) hx hb hown (hts (.constantLong RX1 22 (2)) (by decide +kernel)) (by decide) dX1_doubleOfRatio_44 ?_
          refine lv_lload hx hb dX1_doubleOfRatio_47 (lv_at hl 1 rfl) ?_
          refine lx_lmul hx hb dX1_doubleOfRatio_49 ?_
          obtain ⟨hr28, hv⟩ := hv
          refine lx_topl (fun v27 hy29 => ?_)
          have hv := hv v27 hy29
          have h_v27 : z_nl v27 := by rw [hy29]; exact hr28
          refine lv_lstore (lv' := [(6, .long (z_l v27)), (8, .int (z_i x27_8)), (4, .long (z_l x27_4)), (2, .long (z_l un))]) hx hb dX1_doubleOfRatio_50 hl (by decide) rfl (fun ls hl => ?_)
          refine lv_lload hx hb dX1_doubleOfRatio_52 (lv_at hl 0 rfl) ?_
          refine lv_lload_n hx hb dX1_doubleOfRatio_54 rfl (lv_at hl 3 rfl) ?_
          refine lx_lcmp hx hb dX1_doubleOfRatio_55 h_v27 h_un ?_
          refine lx_if_lt (tgt := 63) hx hb dX1_doubleOfRatio_56 (by decide) (z_in_cmp _ _) (fun hc => ?_) (fun hc => ?_)
          · have hv := hv.1 (z_cmp_lt.mp hc)
            refine lv_lconst (v := z_l 0) hx hb dX1_doubleOfRatio_63 (by decide) ?_
            refine lv_lstore (lv' := [(9, .long (z_l 0)), (6, .long (z_l v27)), (8, .int (z_i x27_8)), (4, .long (z_l x27_4)), (2, .long (z_l un))]) hx hb dX1_doubleOfRatio_64 hl (by decide) rfl (fun ls hl => ?_)
            refine lv_lload hx hb dX1_doubleOfRatio_66 (lv_at hl 1 rfl) ?_
            refine lv_lload hx hb dX1_doubleOfRatio_68 (lv_at hl 0 rfl) ?_
            refine lv_lload_n hx hb dX1_doubleOfRatio_70 rfl (lv_at hl 4 rfl) ?_
            refine lx_lmul hx hb dX1_doubleOfRatio_71 ?_
            refine lx_lsub hx hb dX1_doubleOfRatio_72 ?_
            obtain ⟨hr31, hv⟩ := hv
            refine lx_topl (fun v30 hy32 => ?_)
            have hv := hv v30 hy32
            have h_v30 : z_nl v30 := by rw [hy32]; exact hr31
            refine lv_lstore (lv' := [(6, .long (z_l v30)), (9, .long (z_l 0)), (8, .int (z_i x27_8)), (4, .long (z_l x27_4)), (2, .long (z_l un))]) hx hb dX1_doubleOfRatio_73 hl (by decide) rfl (fun ls hl => ?_)
            refine lx_ldc2 (a := 2) hx hb hown (hts (.constantLong RX1 22 (2)) (by decide +kernel)) (by decide) dX1_doubleOfRatio_75 ?_
            refine lv_lload hx hb dX1_doubleOfRatio_78 (lv_at hl 3 rfl) ?_
            refine lx_lmul hx hb dX1_doubleOfRatio_80 ?_
            refine lv_lload hx hb dX1_doubleOfRatio_81 (lv_at hl 1 rfl) ?_
            refine lx_ladd hx hb dX1_doubleOfRatio_83 ?_
            obtain ⟨hr34, hv⟩ := hv
            refine lx_topl (fun v33 hy35 => ?_)
            have hv := hv v33 hy35
            have h_v33 : z_nl v33 := by rw [hy35]; exact hr34
            refine lv_lstore (lv' := [(4, .long (z_l v33)), (6, .long (z_l v30)), (9, .long (z_l 0)), (8, .int (z_i x27_8)), (2, .long (z_l un))]) hx hb dX1_doubleOfRatio_84 hl (by decide) rfl (fun ls hl => ?_)
            refine lv_iinc (v := z_i (x27_8 + 1)) (lv' := [(8, .int (z_i (x27_8 + 1))), (4, .long (z_l v33)), (6, .long (z_l v30)), (9, .long (z_l 0)), (2, .long (z_l un))]) hx hb dX1_doubleOfRatio_86 hl (k := 3) rfl (z_i_add _ _) (by decide) rfl (fun ls hl => ?_)
            refine lv_goto (tgt := 27) hx hb dX1_doubleOfRatio_89 (by decide) ?_
            exact hv _ _ ls hP hS (lv_sub hl [0, 2, 1, 4] rfl)
          · have hv := hv.2 (z_cmp_ge.mp hc)
            refine lv_lconst (v := z_l 1) hx hb dX1_doubleOfRatio_59 (by decide) ?_
            refine lv_goto (tgt := 64) hx hb dX1_doubleOfRatio_60 (by decide) ?_
            refine lv_lstore (lv' := [(9, .long (z_l 1)), (6, .long (z_l v27)), (8, .int (z_i x27_8)), (4, .long (z_l x27_4)), (2, .long (z_l un))]) hx hb dX1_doubleOfRatio_64 hl (by decide) rfl (fun ls hl => ?_)
            refine lv_lload hx hb dX1_doubleOfRatio_66 (lv_at hl 1 rfl) ?_
            refine lv_lload hx hb dX1_doubleOfRatio_68 (lv_at hl 0 rfl) ?_
            refine lv_lload_n hx hb dX1_doubleOfRatio_70 rfl (lv_at hl 4 rfl) ?_
            refine lx_lmul hx hb dX1_doubleOfRatio_71 ?_
            refine lx_lsub hx hb dX1_doubleOfRatio_72 ?_
            obtain ⟨hr37, hv⟩ := hv
            refine lx_topl (fun v36 hy38 => ?_)
            have hv := hv v36 hy38
            have h_v36 : z_nl v36 := by rw [hy38]; exact hr37
            refine lv_lstore (lv' := [(6, .long (z_l v36)), (9, .long (z_l 1)), (8, .int (z_i x27_8)), (4, .long (z_l x27_4)), (2, .long (z_l un))]) hx hb dX1_doubleOfRatio_73 hl (by decide) rfl (fun ls hl => ?_)
            refine lx_ldc2 (a := 2) hx hb hown (hts (.constantLong RX1 22 (2)) (by decide +kernel)) (by decide) dX1_doubleOfRatio_75 ?_
            refine lv_lload hx hb dX1_doubleOfRatio_78 (lv_at hl 3 rfl) ?_
            refine lx_lmul hx hb dX1_doubleOfRatio_80 ?_
            refine lv_lload hx hb dX1_doubleOfRatio_81 (lv_at hl 1 rfl) ?_
            refine lx_ladd hx hb dX1_doubleOfRatio_83 ?_
            obtain ⟨hr40, hv⟩ := hv
            refine lx_topl (fun v39 hy41 => ?_)
            have hv := hv v39 hy41
            have h_v39 : z_nl v39 := by rw [hy41]; exact hr40
            refine lv_lstore (lv' := [(4, .long (z_l v39)), (6, .long (z_l v36)), (9, .long (z_l 1)), (8, .int (z_i x27_8)), (2, .long (z_l un))]) hx hb dX1_doubleOfRatio_84 hl (by decide) rfl (fun ls hl => ?_)
            refine lv_iinc (v := z_i (x27_8 + 1)) (lv' := [(8, .int (z_i (x27_8 + 1))), (4, .long (z_l v39)), (6, .long (z_l v36)), (9, .long (z_l 1)), (2, .long (z_l un))]) hx hb dX1_doubleOfRatio_86 hl (k := 3) rfl (z_i_add _ _) (by decide) rfl (fun ls hl => ?_)
            refine lv_goto (tgt := 27) hx hb dX1_doubleOfRatio_89 (by decide) ?_
            exact hv _ _ ls hP hS (lv_sub hl [0, 2, 1, 4] rfl)
    · have hv := hv.2 (z_cmp_le.mp hc)
      refine lv_lconst (v := z_l 0) hx hb dX1_doubleOfRatio_12 (by decide) ?_
      exact W.lret (v := z_l 0) hx hb hr (fun t ht hW => ⟨⟨z_l 0, (), rfl, ⟨0, rfl, (show z_nl 0 from ⟨by decide, by decide⟩), hv⟩, trivial⟩, hS.F ht⟩) hS.2.2 dX1_doubleOfRatio_13
set_option maxHeartbeats 4000000 in
set_option maxRecDepth 100000 in
theorem mt_X1_doubleOfRatio (l : Launch) (D : va_G) (cA : Nat → ClassId) (ov : Int) (un : Int) (h_ov : z_nl ov) (h_un : z_nl un) (hp1 : 0 ≤ ov ∧ ov < 140737488355328) (hp2 : 1 ≤ un ∧ un ≤ 33554432) : Met l yX1_doubleOfRatio wsX1_doubleOfRatio ({ frames := 0, cells := 0, slots := 0, locals := 0 } : Room) (va_Pc [.long (z_l ov), .long (z_l un)] (z_B0 D cA [])) (va_Ql (z_rl (fun (r : Int) => b_rt ov un r)) (fun _ _ => True) (fun _ => False)) 0 0 (fun _ => False) := by
  refine wk_X1_doubleOfRatio l D cA ov un h_ov h_un (fun (r : Int) => b_rt ov un r) ?_
  unfold vc_X1_doubleOfRatio
  refine ⟨fun q => ?_, fun q => ⟨fun _ => ⟨by omega, ?_⟩, fun q => absurd q (by omega)⟩⟩
  · show b_rt ov un 0
    unfold b_rt; rw [if_pos q]
  have ed : ov.tdiv un = ov / un := Int.tdiv_eq_ediv_of_nonneg (by omega)
  have em : ov.tmod un = ov % un := Int.tmod_eq_emod_of_nonneg (by omega)
  have d0 : 0 ≤ ov / un := Int.ediv_nonneg (by omega) (by omega)
  have d1 : ov / un ≤ ov := Int.ediv_le_self _ (by omega)
  have m0 := Int.emod_nonneg ov (show un ≠ 0 by omega)
  have m1 := Int.emod_lt_of_pos ov (show 0 < un by omega)
  rw [ed, em]
  refine ⟨⟨by omega, by omega⟩, ?_⟩
  rintro v2 rfl
  refine ⟨by omega, ⟨by omega, by omega⟩, ?_⟩
  rintro v6 rfl
  intro L2 hL
  have dm := Int.mul_ediv_add_emod ov un
  suffices H : ∀ (d s : Nat) (re wh : Int), s + d = 100 → 0 ≤ re → re < un → 0 ≤ wh → un * wh + re = ov * ((2 ^ s : Nat) : Int) → wh < 9007199254740992 → (s = 0 ∨ ov * ((2 ^ s : Nat) : Int) < 2 * 4503599627370496 * un) → L2 s re wh from
    H 100 0 _ _ rfl m0 m1 d0 (by omega) (by omega) (Or.inl rfl)
  have fin : ∀ (s : Nat) (re wh : Int), s ≤ 100 → 0 ≤ re → re < un → 4503599627370496 ≤ wh → wh < 9007199254740992 → un * wh + re = ov * ((2 ^ s : Nat) : Int) → z_nl (2 * re) ∧ ((2 * re > un → z_in (1075 - (s : Int)) ∧ z_nl (((z_shll (1075 - (s : Int)) 52) + (wh - 4503599627370496)) + 1) ∧ b_rt ov un (((z_shll (1075 - (s : Int)) 52) + (wh - 4503599627370496)) + 1)) ∧ (2 * re ≤ un → ((2 * re ≠ un → z_in (1075 - (s : Int)) ∧ z_nl (((z_shll (1075 - (s : Int)) 52) + (wh - 4503599627370496)) + 0) ∧ b_rt ov un (((z_shll (1075 - (s : Int)) 52) + (wh - 4503599627370496)) + 0)) ∧ (2 * re = un → ((z_andl wh 1 ≠ 1 → z_in (1075 - (s : Int)) ∧ z_nl (((z_shll (1075 - (s : Int)) 52) + (wh - 4503599627370496)) + 0) ∧ b_rt ov un (((z_shll (1075 - (s : Int)) 52) + (wh - 4503599627370496)) + 0)) ∧ (z_andl wh 1 = 1 → z_in (1075 - (s : Int)) ∧ z_nl (((z_shll (1075 - (s : Int)) 52) + (wh - 4503599627370496)) + 1) ∧ b_rt ov un (((z_shll (1075 - (s : Int)) 52) + (wh - 4503599627370496)) + 1))))))) := by
    intro s re wh hs r0 r1 w0 w1 he
    have esh : z_shll (1075 - (s : Int)) 52 = (1075 - (s : Int)) * 4503599627370496 := by
      have := z_shll_exp ⟨1075 - s, by omega⟩
      rw [show (1075 - (s : Int)) = ((1075 - s : Nat) : Int) by omega]
      exact this
    have ea : z_andl wh 1 = wh % 2 := z_andl_1 ⟨by omega, by omega⟩
    have eq1 : ov * ((2 ^ s : Nat) : Int) / un = wh := by
      rw [← he, Int.add_comm, Int.add_mul_ediv_left _ _ (by omega), Int.ediv_eq_zero_of_lt r0 r1]; omega
    have er1 : ov * ((2 ^ s : Nat) : Int) % un = re := by
      rw [← he, Int.add_comm, Int.add_mul_emod_self_left, Int.emod_eq_of_lt r0 r1]
    have l1 : 4503599627370496 * un ≤ ov * ((2 ^ s : Nat) : Int) := by
      have := Int.mul_le_mul_of_nonneg_left w0 (show 0 ≤ un by omega)
      omega
    have l2 : ov * ((2 ^ s : Nat) : Int) < 9007199254740992 * un := by
      have := Int.mul_le_mul_of_nonneg_left (show wh ≤ 9007199254740991 by omega) (show 0 ≤ un by omega)
      omega
    have ans : ∀ v : Int, v = (if 2 * re > un ∨ (2 * re = un ∧ wh % 2 = 1) then 1 else 0) → z_in (1075 - (s : Int)) ∧ z_nl (((z_shll (1075 - (s : Int)) 52) + (wh - 4503599627370496)) + v) ∧ b_rt ov un (((z_shll (1075 - (s : Int)) 52) + (wh - 4503599627370496)) + v) := by
      intro v hv
      have hb := b_up (2 * re > un ∨ (2 * re = un ∧ wh % 2 = 1))
      rw [← hv] at hb
      refine ⟨⟨by omega, by omega⟩, ⟨by rw [esh]; omega, by rw [esh]; omega⟩, ?_⟩
      unfold b_rt
      rw [if_neg (by omega)]
      refine ⟨s, hs, l1, l2, ?_⟩
      rw [eq1, er1, ← hv, esh]
    rw [ea]
    refine ⟨⟨by omega, by omega⟩, fun q1 => ans 1 ?_, fun q1 => ⟨fun q2 => ans 0 ?_, fun q2 => ⟨fun q3 => ans 0 ?_, fun q3 => ans 1 ?_⟩⟩⟩
    · rw [if_pos (Or.inl q1)]
    · rw [if_neg (by omega)]
    · rw [if_neg (by omega)]
    · rw [if_pos (Or.inr ⟨q2, q3⟩)]
  intro d
  induction d with
  | zero =>
    intro s re wh hs r0 r1 w0 he w1 hb
    obtain rfl : s = 100 := by omega
    have hov : (2 ^ 100 : Nat) ≤ ov * ((2 ^ 100 : Nat) : Int) := by
      have := Int.mul_le_mul_of_nonneg_right (show 1 ≤ ov by omega) (show (0 : Int) ≤ ((2 ^ 100 : Nat) : Int) by decide)
      omega
    exact absurd hb (by omega)
  | succ d ih =>
    intro s re wh hs r0 r1 w0 he w1 hb
    refine hL _ _ _ ⟨by omega, by omega⟩ ⟨by omega, by omega⟩ ⟨by omega, by omega⟩ ⟨fun q => absurd q (by omega), fun _ => ⟨fun q => fin s re wh (by omega) r0 r1 q w1 he, fun q => ⟨⟨by omega, by omega⟩, ?_⟩⟩⟩
    have ep : ov * ((2 ^ (s + 1) : Nat) : Int) = 2 * (ov * ((2 ^ s : Nat) : Int)) := by
      rw [Nat.pow_succ, Int.natCast_mul]
      generalize ((2 ^ s : Nat) : Int) = y
      rw [← Int.mul_assoc, Int.mul_comm]
      rfl
    have lb : un * wh + re < 4503599627370496 * un := by
      have := Int.mul_le_mul_of_nonneg_left (show wh ≤ 4503599627370495 by omega) (show 0 ≤ un by omega)
      omega
    have hi := ih (s + 1)
    rw [ep] at hi
    have e2 : un * (2 * wh) = 2 * (un * wh) := by rw [Int.mul_left_comm]
    have e3 : un * (2 * wh + 1) = 2 * (un * wh) + un := by rw [Int.mul_add, Int.mul_left_comm, Int.mul_one]
    rintro v27 rfl
    refine ⟨fun q1 => ⟨⟨by omega, by omega⟩, ?_⟩, fun q1 => ⟨⟨by omega, by omega⟩, ?_⟩⟩
    · rintro v30 rfl
      refine ⟨⟨by omega, by omega⟩, ?_⟩
      rintro v33 rfl
      exact hi _ _ (by omega) (by omega) (by omega) (by omega) (by rw [Int.add_zero, e2]; omega) (by omega) (Or.inr (by omega))
    · rintro v30 rfl
      refine ⟨⟨by omega, by omega⟩, ?_⟩
      rintro v33 rfl
      exact hi _ _ (by omega) (by omega) (by omega) (by omega) (by rw [e3]; omega) (by omega) (Or.inr (by omega))
