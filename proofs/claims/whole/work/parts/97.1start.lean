set_option maxRecDepth 100000 in
theorem lw_K0 {s : State} {b : Nat} (hts0 : ∀ w ∈ lw_tbl, w.before #[Value.ref b] s = true) : ∃ (D : va_G) (cA : Nat → ClassId), va_K D vwCl (z_ty cA) s := by
  obtain ⟨c0, iS0, hKn0⟩ := u_known (C := RX0) (T := TX0) (N := 2) (n := 2) hts0 wsX00_in (hts0 (.instantiable RX0 2) (List.mem_of_getElem? (i := 147) (by decide +kernel)))
  obtain ⟨c1, iS1, hKn1⟩ := u_known (C := RX2) (T := TX2) (N := 4) (n := 4) hts0 wsX20_in (hts0 (.instantiable RX2 4) (List.mem_of_getElem? (i := 71) (by decide +kernel)))
  obtain ⟨c2, iS2, hKn2⟩ := u_known (C := RX3) (T := TX3) (N := 4) (n := 4) hts0 wsX30_in (hts0 (.instantiable RX3 4) (List.mem_of_getElem? (i := 126) (by decide +kernel)))
  obtain ⟨c3, iS3, hKn3⟩ := u_known (C := RX4) (T := TX4) (N := 12) (n := 12) hts0 wsX40_in (hts0 (.instantiable RX4 12) (List.mem_of_getElem? (i := 118) (by decide +kernel)))
  obtain ⟨c4, iS4, hKn4⟩ := u_known (C := RX6) (T := TX6) (N := 4) (n := 4) hts0 wsX60_in (hts0 (.instantiable RX6 4) (List.mem_of_getElem? (i := 97) (by decide +kernel)))
  obtain ⟨c5, iS5, hKn5⟩ := u_known (C := RX7) (T := TX7) (N := 6) (n := 6) hts0 wsX70_in (hts0 (.instantiable RX7 6) (List.mem_of_getElem? (i := 62) (by decide +kernel)))
  obtain ⟨c6, iS6, hKn6⟩ := u_known (C := RX8) (T := TX8) (N := 33) (n := 33) hts0 wsX80_in (hts0 (.instantiable RX8 33) (List.mem_of_getElem? (i := 656) (by decide +kernel)))
  obtain ⟨a0, k0, p0, e0, f0, g0⟩ := Cond.arrayClass_spec (hts0 (.arrayClass .byte) (List.mem_of_getElem? (i := 116) (by decide +kernel)))
  obtain ⟨a1, k1, p1, e1, f1, g1⟩ := Cond.arrayClass_spec (hts0 (.arrayClass .int) (List.mem_of_getElem? (i := 95) (by decide +kernel)))
  obtain ⟨a2, k2, p2, e2, f2, g2⟩ := Cond.arrayClass_spec (hts0 (.arrayClass .long) (List.mem_of_getElem? (i := 115) (by decide +kernel)))
  obtain ⟨a3, k3, p3, e3, f3, g3⟩ := Cond.arrayClass_spec (hts0 (.arrayClass .boolean) (List.mem_of_getElem? (i := 761) (by decide +kernel)))
  obtain ⟨p4, a4, k4, h1, h2, h3, h4, h5⟩ := Cond.arrayOver_spec (hts0 (.arrayOver (.object RX2)) (List.mem_of_getElem? (i := 70) (by decide +kernel)))
  refine ⟨(fun k => if k = 0 then c0 else if k = 1 then c1 else if k = 2 then c2 else if k = 3 then c3 else if k = 4 then c4 else if k = 5 then c5 else c6, fun k => if k = 0 then iS0 else if k = 1 then iS1 else if k = 2 then iS2 else if k = 3 then iS3 else if k = 4 then iS4 else if k = 5 then iS5 else iS6), fun k => if k = 0 then a0 else if k = 1 then a1 else if k = 2 then a2 else if k = 3 then a3 else a4, fun k q hq => ?_, fun k q hq => ?_⟩
  · match k, hq with
    | 0, hq => cases hq; exact hKn0
    | 1, hq => cases hq; exact hKn1
    | 2, hq => cases hq; exact hKn2
    | 3, hq => cases hq; exact hKn3
    | 4, hq => cases hq; exact hKn4
    | 5, hq => cases hq; exact hKn5
    | 6, hq => cases hq; exact hKn6
    | k + 7, hq => simp [vwCl] at hq
  · match k, hq with
    | 0, hq => cases hq; exact ⟨fun n z => ⟨fun k h => (by cases h), k0, f0, p0, g0⟩, e0⟩
    | 1, hq => cases hq; exact ⟨fun n z => ⟨fun k h => (by cases h), k1, f1, p1, g1⟩, e1⟩
    | 2, hq => cases hq; exact ⟨fun n z => ⟨fun k h => (by cases h), k2, f2, p2, g2⟩, e2⟩
    | 3, hq => cases hq; exact ⟨fun n z => ⟨fun k h => (by cases h), k3, f3, p3, g3⟩, e3⟩
    | 4, hq => cases hq; exact ⟨fun n z => ⟨fun k h => (by cases h), k4, h3, p4, h4⟩, k4, p4, h3, h4, h1, h5⟩
    | k + 5, hq => simp [z_ty] at hq
set_option maxRecDepth 100000 in
theorem lw_S0 {s : State} {b : Nat} (hts0 : ∀ w ∈ lw_tbl, w.before #[Value.ref b] s = true) (hgv : (Jvm.Cond.and given_1 narrow_1).before #[Value.ref b] s = true) : ∃ t1 t2 : Nat, z_ST (fun q : Nat => s.heap.size ≤ q) t1 t2 s s.heap := by
  have hg := flat_of_before _ hgv
  have hA : ∀ a : Nat, a < s.heap.size → ¬ (fun q : Nat => s.heap.size ≤ q) a := fun a h => Nat.not_le.mpr h
  obtain ⟨t1, ht1, hT1⟩ := va_Tof (tm := (Term.static RX7 "ROW_STEP" "[I")) (ty := .int) (N := 8) (f := fun k => .int (z_i (z_rs k))) (A := fun q : Nat => s.heap.size ≤ q) (by decide) (hg (.arrayOf (Term.static RX7 "ROW_STEP" "[I") .int) (by decide +kernel)) (va_eqt (hg (.eq (.length (Term.static RX7 "ROW_STEP" "[I")) (.int 8)) (by decide +kernel))) (fun j hj => by
      match j, hj with
      | 0, _ => exact va_eqt (z := z_i (z_rs 0)) (hg (.eq (.elem (Term.static RX7 "ROW_STEP" "[I") (.int 0)) (.int (-1))) (by decide +kernel))
      | 1, _ => exact va_eqt (z := z_i (z_rs 1)) (hg (.eq (.elem (Term.static RX7 "ROW_STEP" "[I") (.int 1)) (.int (-1))) (by decide +kernel))
      | 2, _ => exact va_eqt (z := z_i (z_rs 2)) (hg (.eq (.elem (Term.static RX7 "ROW_STEP" "[I") (.int 2)) (.int (-1))) (by decide +kernel))
      | 3, _ => exact va_eqt (z := z_i (z_rs 3)) (hg (.eq (.elem (Term.static RX7 "ROW_STEP" "[I") (.int 3)) (.int (0))) (by decide +kernel))
      | 4, _ => exact va_eqt (z := z_i (z_rs 4)) (hg (.eq (.elem (Term.static RX7 "ROW_STEP" "[I") (.int 4)) (.int (1))) (by decide +kernel))
      | 5, _ => exact va_eqt (z := z_i (z_rs 5)) (hg (.eq (.elem (Term.static RX7 "ROW_STEP" "[I") (.int 5)) (.int (1))) (by decide +kernel))
      | 6, _ => exact va_eqt (z := z_i (z_rs 6)) (hg (.eq (.elem (Term.static RX7 "ROW_STEP" "[I") (.int 6)) (.int (1))) (by decide +kernel))
      | 7, _ => exact va_eqt (z := z_i (z_rs 7)) (hg (.eq (.elem (Term.static RX7 "ROW_STEP" "[I") (.int 7)) (.int (0))) (by decide +kernel))
      | j + 8, hj => exact absurd hj (by omega)) hA
  obtain ⟨t2, ht2, hT2⟩ := va_Tof (tm := (Term.static RX7 "COLUMN_STEP" "[I")) (ty := .int) (N := 8) (f := fun k => .int (z_i (z_cs k))) (A := fun q : Nat => s.heap.size ≤ q) (by decide) (hg (.arrayOf (Term.static RX7 "COLUMN_STEP" "[I") .int) (by decide +kernel)) (va_eqt (hg (.eq (.length (Term.static RX7 "COLUMN_STEP" "[I")) (.int 8)) (by decide +kernel))) (fun j hj => by
      match j, hj with
      | 0, _ => exact va_eqt (z := z_i (z_cs 0)) (hg (.eq (.elem (Term.static RX7 "COLUMN_STEP" "[I") (.int 0)) (.int (-1))) (by decide +kernel))
      | 1, _ => exact va_eqt (z := z_i (z_cs 1)) (hg (.eq (.elem (Term.static RX7 "COLUMN_STEP" "[I") (.int 1)) (.int (0))) (by decide +kernel))
      | 2, _ => exact va_eqt (z := z_i (z_cs 2)) (hg (.eq (.elem (Term.static RX7 "COLUMN_STEP" "[I") (.int 2)) (.int (1))) (by decide +kernel))
      | 3, _ => exact va_eqt (z := z_i (z_cs 3)) (hg (.eq (.elem (Term.static RX7 "COLUMN_STEP" "[I") (.int 3)) (.int (1))) (by decide +kernel))
      | 4, _ => exact va_eqt (z := z_i (z_cs 4)) (hg (.eq (.elem (Term.static RX7 "COLUMN_STEP" "[I") (.int 4)) (.int (1))) (by decide +kernel))
      | 5, _ => exact va_eqt (z := z_i (z_cs 5)) (hg (.eq (.elem (Term.static RX7 "COLUMN_STEP" "[I") (.int 5)) (.int (0))) (by decide +kernel))
      | 6, _ => exact va_eqt (z := z_i (z_cs 6)) (hg (.eq (.elem (Term.static RX7 "COLUMN_STEP" "[I") (.int 6)) (.int (-1))) (by decide +kernel))
      | 7, _ => exact va_eqt (z := z_i (z_cs 7)) (hg (.eq (.elem (Term.static RX7 "COLUMN_STEP" "[I") (.int 7)) (.int (-1))) (by decide +kernel))
      | j + 8, hj => exact absurd hj (by omega)) hA
  refine ⟨t1, t2, ⟨va_Nw.of rfl (hts0 (.fieldLinkNest RX2 50 "ContourSheets" "ROW_STEP" "[I" "ContourSheets") (List.mem_of_getElem? (i := 338) (by decide +kernel))), va_Nw.of rfl (hts0 (.fieldLinkNest RX2 53 "ContourSheets" "COLUMN_STEP" "[I" "ContourSheets") (List.mem_of_getElem? (i := 340) (by decide +kernel))), va_Nw.of rfl (hts0 (.fieldLinkNest RX0 41 "ContourSheets$Lines" "there" "LContourSheets$Area;" "ContourSheets") (List.mem_of_getElem? (i := 168) (by decide +kernel)))⟩, va_Zref (hts0 (.laysStatic RX7 "ROW_STEP" "[I") (List.mem_of_getElem? (i := 339) (by decide +kernel))) (hts0 (.initialized RX7) (List.mem_of_getElem? (i := 44) (by decide +kernel))) ht1 hA, va_Zref (hts0 (.laysStatic RX7 "COLUMN_STEP" "[I") (List.mem_of_getElem? (i := 341) (by decide +kernel))) (hts0 (.initialized RX7) (List.mem_of_getElem? (i := 44) (by decide +kernel))) ht2 hA, hT1, hT2⟩
theorem lw_apart {A : Nat → Prop} {X Y : va_W} (hD : va_D A (X ++ Y)) : ∀ q, z_A X q → ¬ z_A Y q := by
  rintro q ⟨k, e, hk⟩ ⟨k2, e2, hk2⟩
  have hlt : k < X.length := (List.getElem?_eq_some_iff.mp hk).1
  have h1 : (X ++ Y)[k]? = some (q, e) := by rw [List.getElem?_append_left hlt]; exact hk
  have h2 : (X ++ Y)[X.length + k2]? = some (q, e2) := by rw [List.getElem?_append_right (by omega), show X.length + k2 - X.length = k2 by omega]; exact hk2
  have := hD.1 _ _ _ _ h1 h2 rfl
  omega
