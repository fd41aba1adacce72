/-! the law: two worlds beside each other -/
def lw_x (xs : Nat → Int32) (j : Int) : Int := (xs j.toNat).toInt
theorem lw_x_in (xs : Nat → Int32) (j : Int) : z_in (lw_x xs j) := z_in_of _
theorem z_A_addr {ws w2 : va_W} (h : w2.map Prod.fst = ws.map Prod.fst) {q : Nat} (hq : z_A w2 q) : z_A ws q := by
  obtain ⟨k, e, hk⟩ := hq
  have h0 : (w2[k]?).map Prod.fst = (ws[k]?).map Prod.fst := by rw [← List.getElem?_map, ← List.getElem?_map, h]
  rw [hk] at h0
  obtain ⟨q2, h3, h4⟩ := Option.map_eq_some_iff.mp h0.symm
  exact ⟨k, q2.2, by rw [h3]; exact congrArg some (Prod.ext h4 rfl)⟩
def lw_V (D : va_G) (cA : Nat → ClassId) (s : State) (a b : Nat → Nat) (u v : xS) (H : Heap) (locs : List Loc) : Prop :=
  va_P D vwCl (xW cA a u) H ∧ va_P D vwCl (yW cA b v) H ∧ va_D (fun q : Nat => s.heap.size ≤ q) (xW cA a u) ∧ va_D (fun q : Nat => s.heap.size ≤ q) (yW cA b v) ∧ (∀ q, z_A (xW cA a u) q → ¬ z_A (yW cA b v) q) ∧ va_S (fun q : Nat => s.heap.size ≤ q) s.heap H locs
def lw_C (p : Program) (s : State) (m : MethodId) (c : Code) (b L : Nat) (xs : Nat → Int32) (D : va_G) (cA : Nat → ClassId) (t1 t2 : Nat) : Prop :=
  p.tables.exec = Jvm.exec ∧ c.code = cL_law ∧ c.maxLocals = 4 ∧ s.vm.findClass RL = some m.cls ∧ (∀ w ∈ wsL_law, w.before #[Value.ref b] s = true) ∧ va_X b L xs s s.heap ∧ b < s.heap.size ∧ va_K D vwCl (z_ty cA) s ∧ z_ST (fun q : Nat => s.heap.size ≤ q) t1 t2 s s.heap ∧ L ≤ 3584
theorem xW_addr (cA : Nat → ClassId) (a : Nat → Nat) (u u' : xS) : (xW cA a u').map Prod.fst = (xW cA a u).map Prod.fst := rfl
theorem yW_addr (cA : Nat → ClassId) (b : Nat → Nat) (v v' : xS) : (yW cA b v').map Prod.fst = (yW cA b v).map Prod.fst := rfl
theorem va_D_in {A : Nat → Prop} {ws : va_W} (hD : va_D A ws) : ∀ q, z_A ws q → A q := fun q h => by
  obtain ⟨k, e, hk⟩ := h
  exact hD.2 k (q, e) hk
theorem lw_Vx {D : va_G} {cA : Nat → ClassId} {s : State} {a b : Nat → Nat} {u v u' : xS} {H H1 : Heap} {locs locs1 : List Loc} (h : lw_V D cA s a b u v H locs) (hk : ∀ q : Nat, q < H.size → ¬ z_A (xW cA a u) q → H1[q]? = H[q]?) (hB : va_P D vwCl (xW cA a u') H1) (hS : va_S (fun q : Nat => s.heap.size ≤ q) s.heap H1 locs1) : lw_V D cA s a b u' v H1 locs1 := by
  obtain ⟨h1, h2, h3, h4, h5, h6⟩ := h
  exact ⟨hB, h2.kept (fun k q hq => hk q.1 (z_P_lt h2 hq) (fun hx => h5 _ hx (z_A_in hq))), z_D_addr h3 (xW_addr cA a u u'), h4, fun q hq => h5 q (z_A_addr (xW_addr cA a u u') hq), hS⟩
theorem lw_Vy {D : va_G} {cA : Nat → ClassId} {s : State} {a b : Nat → Nat} {u v v' : xS} {H H1 : Heap} {locs locs1 : List Loc} (h : lw_V D cA s a b u v H locs) (hk : ∀ q : Nat, q < H.size → ¬ z_A (yW cA b v) q → H1[q]? = H[q]?) (hB : va_P D vwCl (yW cA b v') H1) (hS : va_S (fun q : Nat => s.heap.size ≤ q) s.heap H1 locs1) : lw_V D cA s a b u v' H1 locs1 := by
  obtain ⟨h1, h2, h3, h4, h5, h6⟩ := h
  exact ⟨h1.kept (fun k q hq => hk q.1 (z_P_lt h1 hq) (fun hy => h5 _ (z_A_in hq) hy)), hB, h3, z_D_addr h4 (yW_addr cA b v v'), fun q hq hy => h5 q hq (z_A_addr (yW_addr cA b v v') hy), hS⟩
theorem z_cmp_0 (a : Int) : z_cmp a a = 0 := by unfold z_cmp; rw [if_neg (Int.lt_irrefl a), if_pos rfl]
section
variable {p : Program} {l : Launch} {e : Env} {R : Room} {s : State} {m : MethodId} {args : Array Value} {below : List Frame} {meth : Method} {c : Code} {H : Heap} {locs : List Loc} {cells slots : Nat} {Q : State → Prop} {cc : ByteArray} {pc : Nat} {ls : Array Slot} {rest : List Value} {A : Nat → Prop} {H0 : Heap}
theorem lw_sld (hx : p.tables.exec = Jvm.exec) (hb : c.code = cc) {b L : Nat} {xs : Nat → Int32} (hX : va_X b L xs s H0) (hbl : b < H0.size) (hbA : ¬ A b) (hS : va_S A H0 H locs) {j : Int} (h0 : 0 ≤ j) (h1 : j < L) (hL : L ≤ 3584) (hd : decode cc pc = .ok (.iaload, 1)) (k : W p l e R s m args below meth c H locs cells slots Q (F0 m (pc + 1) ls (.int (z_i (lw_x xs j)) :: rest))) : W p l e R s m args below meth c H locs cells slots Q (F0 m pc ls (.int (z_i j) :: .ref b :: rest)) := va_sld hx hb hX hbl hbA hS (z_vin h0 h1 (by omega)) hd (by
  rw [z_clamp ⟨by omega, by omega⟩]
  unfold lw_x at k
  rw [z_i_of] at k
  exact k)
end
