theorem z_arr {cA : ClassId} {n : Nat} {f g : Nat → Value} (h : ∀ j, j < n → f j = g j) : arrV cA n f = arrV cA n g := by
  unfold arrV
  congr 1
  congr 1
  funext j
  exact h j.val j.isLt
section
variable {p : Program} {l : Launch} {e : Env} {R : Room} {s : State} {m : MethodId} {args : Array Value} {below : List Frame} {meth : Method} {c : Code} {H : Heap} {locs : List Loc} {cells slots : Nat} {Q : State → Prop}
variable {cc : ByteArray} {pc : Nat} {ls : Array Slot} {rest : List Value} {D : va_G} {cl : List vw_C} {tys : List (ClassId × FieldType)} {ws : va_W} {A : Nat → Prop} {H0 : Heap} {a : Nat}
/-- a whole row of ints copied onto one of the same length -/
theorem lx_acopy (hx : p.tables.exec = Jvm.exec) (hb : c.code = cc) (hml : c.maxLocals = ls.size) {own : String} {index : Nat} (hown : s.vm.findClass own = some m.cls) (hlink : (Cond.methodLink own index arraycopyName).before args s = true) (hnat : (Cond.native arraycopyName).before args s = true) (hstat : (Cond.static arraycopyName).before args s = true) (hini : (Cond.initialized "java/lang/System").before args s = true)
    (hK : va_K D cl tys s) (hP : va_P D cl ws H) (hD : va_D A ws) (hS : va_S A H0 H locs) (q0 q1 t0 : Nat) {a0 : Nat} {c0 : ClassId} {n : Nat} {f g : Nat → Int32} (ha0 : ws[q0]? = some (a0, .inl (c0, n, .inl f))) (ha1 : ws[q1]? = some (a, .inl (c0, n, .inl g))) (ht0 : tys[t0]? = some (c0, .int)) (hn : n < 2147483648)
    (hframes : 1 ≤ R.frames) (hlocals : (rest.map fun v => v.category).sum + 18 ≤ R.locals) {N : Int} (hN : N = (n : Int)) (hdg : decode cc pc = .ok (.invokestatic index, 3))
    (kk : ∀ (H1 : Heap) (locs1 : List Loc), va_P D cl (ws.set q1 (a, .inl (c0, n, .inl f))) H1 → va_D A (ws.set q1 (a, .inl (c0, n, .inl f))) → va_S A H0 H1 locs1 → W p l e R s m args below meth c H1 locs1 cells slots Q (F0 m (pc + 3) ls rest)) : W p l e R s m args below meth c H locs cells slots Q (F0 m pc ls (.int (z_i N) :: .int (z_i 0) :: .ref a :: .int (z_i 0) :: .ref a0 :: rest)) := by
  subst hN
  have e : (z_i (n : Int)).toNatClampNeg = n := by rw [z_clamp ⟨by omega, by omega⟩]; exact Int.toNat_natCast n
  refine va_copyi hx hb hml hown hlink hnat hstat hini hK hP hD hS q0 q1 t0 t0 ha0 ha1 ht0 ht0 rfl (by decide) (by decide) (fun h => ?_) ?_ ?_ (fun _ _ => rfl) hframes hlocals hdg (fun H1 locs1 h1 h2 h3 => kk H1 locs1 ?_ (z_D_addr h2 (by simp)) h3)
  · have := (z_i_lt ⟨by omega, by omega⟩ z_in0).mp h
    omega
  · rw [e]; exact Nat.le_of_eq (Nat.zero_add n)
  · rw [e]; exact Nat.le_of_eq (Nat.zero_add n)
  · intro k q hq
    rw [List.getElem?_set] at hq
    by_cases hk : q1 = k
    · rw [if_pos hk] at hq
      split at hq
      · next hl =>
        cases hq
        have := h1 k _ (by rw [List.getElem?_set, if_pos hk, if_pos hl])
        have h4 : H1[a]? = some (vp_cell c0 (n, .inl (va_cpy f g (z_i 0).toNatClampNeg (z_i 0).toNatClampNeg (z_i (n : Int)).toNatClampNeg))) := this
        show H1[a]? = some (vp_cell c0 (n, .inl f))
        rw [h4, vp_cell_i, vp_cell_i]
        refine congrArg some (z_arr fun j hj => ?_)
        rw [e]
        show Value.int (va_cpy f g 0 0 n j) = _
        unfold va_cpy
        rw [if_pos ⟨Nat.zero_le _, by omega⟩]
        simp
      · cases hq
    · rw [if_neg hk] at hq
      exact h1 k q (by rw [List.getElem?_set, if_neg hk]; exact hq)
end
theorem z_pt {D : va_G} {cl : List vw_C} {ws : va_W} {H : Heap} {t : State} (hP : va_P D cl ws H) (ht : t.heap = H) : va_P D cl ws t.heap := ht ▸ hP
