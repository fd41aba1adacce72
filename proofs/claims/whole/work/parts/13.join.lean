/-! the frame of a call, by a list that says which cells came back (j + 1: the call's cell j; 0: the cell that was there) -/
def z_mix (w1 : va_W) : List Nat → va_W → va_W
  | 0 :: ss, c :: ws => c :: z_mix w1 ss ws
  | (j + 1) :: ss, c :: ws => (w1[j]?).getD c :: z_mix w1 ss ws
  | _, ws => ws
theorem z_mix_spec {w1 : va_W} : ∀ {sel : List Nat} {ws : va_W} {k : Nat} {q : Nat × va_E}, (z_mix w1 sel ws)[k]? = some q → (∃ j : Nat, w1[j]? = some q) ∨ (ws[k]? = some q ∧ ∀ j : Nat, sel[k]? = some (j + 1) → w1[j]? = none) := by
  intro sel
  induction sel with
  | nil =>
    intro ws k q h
    have e : z_mix w1 [] ws = ws := by cases ws <;> rfl
    rw [e] at h
    exact Or.inr ⟨h, fun j hj => by simp at hj⟩
  | cons a ss ih =>
    intro ws k q h
    cases ws with
    | nil =>
      have e : z_mix w1 (a :: ss) [] = [] := by cases a <;> rfl
      rw [e] at h
      simp at h
    | cons c ws =>
      cases a with
      | zero =>
        have e : z_mix w1 (0 :: ss) (c :: ws) = c :: z_mix w1 ss ws := rfl
        rw [e] at h
        cases k with
        | zero =>
          refine Or.inr ⟨h, fun j hj => ?_⟩
          simp at hj
        | succ k =>
          simp only [List.getElem?_cons_succ] at h ⊢
          exact ih h
      | succ j =>
        have e : z_mix w1 ((j + 1) :: ss) (c :: ws) = (w1[j]?).getD c :: z_mix w1 ss ws := rfl
        rw [e] at h
        cases k with
        | zero =>
          simp only [List.getElem?_cons_zero, Option.some.injEq] at h
          cases hj : w1[j]? with
          | none =>
            rw [hj] at h
            refine Or.inr ⟨by rw [← h]; rfl, fun i hi => ?_⟩
            simp at hi
            rw [← hi]; exact hj
          | some r =>
            rw [hj] at h
            exact Or.inl ⟨j, by rw [hj, ← h]; rfl⟩
        | succ k =>
          simp only [List.getElem?_cons_succ] at h ⊢
          exact ih h
theorem z_join2 {A : Nat → Prop} {D : va_G} {cl : List vw_C} {ws wc w1 : va_W} {H H1 : Heap} (hP : va_P D cl ws H) (hD : va_D A ws) (isC sel : List Nat) (hC : isC.map (fun i => ws[i]?) = wc.map some) (ha : wc.map Prod.fst = w1.map Prod.fst) (hs : isC.all (fun k => (sel[k]?.getD 0 != 0) && decide (sel[k]?.getD 0 ≤ isC.length)) = true) (hk : ∀ q : Nat, q < H.size → ¬ z_A wc q → H1[q]? = H[q]?) (h1 : va_P D cl w1 H1) : va_P D cl (z_mix w1 sel ws) H1 := by
  intro k q hq
  have hl : isC.length = w1.length := by
    have h2 := congrArg List.length hC
    have h3 := congrArg List.length ha
    simp at h2 h3
    omega
  rcases z_mix_spec hq with ⟨j, hj⟩ | ⟨h2, h3⟩
  · exact h1 j q hj
  · refine (hP k q h2).kept (hk q.1 (z_P_lt hP h2) ?_)
    rintro ⟨j, e, hj⟩
    have h4 : (wc.map some)[j]? = some (some (q.1, e)) := by rw [List.getElem?_map, hj]; rfl
    rw [← hC, List.getElem?_map] at h4
    obtain ⟨i, hi, h5⟩ := Option.map_eq_some_iff.mp h4
    have h6 := hD.1 i k (q.1, e) q h5 h2 rfl
    subst h6
    have h7 := List.all_eq_true.mp hs i (List.mem_of_getElem? hi)
    simp only [Bool.and_eq_true, bne_iff_ne, ne_eq, decide_eq_true_eq] at h7
    cases h8 : sel[i]? with
    | none => rw [h8] at h7; exact h7.1 rfl
    | some x =>
      rw [h8] at h7
      simp only [Option.getD_some] at h7
      obtain ⟨y, rfl⟩ : ∃ y, x = y + 1 := ⟨x - 1, by omega⟩
      have h9 := h3 y h8
      have := List.getElem?_eq_none_iff.mp h9
      omega
