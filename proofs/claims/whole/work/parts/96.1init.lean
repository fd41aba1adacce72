/-! both new: they say the same -/
def xI (f1 f2 f3 f4 f5 : Nat → Int32) : xS := (z_u (z_u (z_u (z_u (z_u (fun _ => z_0) 3 f1) 7 f2) 11 f3) 15 f4) 26 f5, fun _ => z_0l, z_u (z_u (z_u (z_u (z_u (fun _ => 0) 1 1000) 2 1000) 3 1000) 4 1000) 6 1000)
def yI : xS := (z_u (fun _ => z_0) 1 (z_s (z_s (z_s (z_s z_0 0 1000) 1 1000) 2 1000) 3 1000), fun _ => z_0l, fun _ => 0)
theorem i_at {f : Nat → Int32} (h : ∀ q : Int, 0 ≤ q → q < 1280 → z_g f q = (-2147483648)) (n : Int) : g_at f n = -2147483648 := by
  unfold g_at
  split
  · next q => exact h n q.1 q.2
  · rfl
theorem i_rg {f : Nat → Int32} {st : Int} {k : Nat} (h : ∀ q : Int, 0 ≤ q → q < 1280 → z_g f q = (-2147483648)) (hst : st = 1000) (hk : z_g (yI.1 1) (k : Int) = st) : r_g f z_0 z_0 st yI k := by
  refine ⟨fun n => Or.inl (i_at h n), fun i _ _ => ?_, by rw [hst]; decide, hk, fun i _ _ => ⟨rfl, rfl⟩, fun n => ?_⟩
  · rw [z_0_g]; decide
  · rw [i_at h n]
    unfold q_at
    rw [if_neg]
    intro q
    exact q.2.2 rfl
theorem i_R {f1 f2 f3 f4 f5 : Nat → Int32} (h1 : ∀ q : Int, 0 ≤ q → q < 1280 → z_g f1 q = (-2147483648)) (h2 : ∀ q : Int, 0 ≤ q → q < 1280 → z_g f2 q = (-2147483648)) (h3 : ∀ q : Int, 0 ≤ q → q < 1280 → z_g f3 q = (-2147483648)) (h4 : ∀ q : Int, 0 ≤ q → q < 1280 → z_g f4 q = (-2147483648)) (h5 : ∀ q : Int, 0 ≤ q → q < 1280 → z_g f5 q = (-2147483648)) : lw_R (xI f1 f2 f3 f4 f5) yI := by
  have z1 : z_in 1000 := ⟨by decide, by decide⟩
  have z0 : z_in 0 := ⟨by decide, by decide⟩
  have hnone : ∀ n, g_th f5 n = false := fun n => by unfold g_th; rw [i_at h5 n]; rfl
  refine ⟨⟨z_u_in z1 (z_u_in z1 (z_u_in z1 (z_u_in z1 (z_u_in z1 (fun _ => z0))))), fun _ => z0⟩, fun k hk => ?_, ⟨fun n _ _ => ?_, fun i _ _ => ?_, fun i _ _ => ?_, fun i _ _ => Or.inl rfl⟩, ⟨rfl, ⟨show (0 : Int) ≤ 0 by decide, show (0 : Int) ≤ 16 by decide⟩, fun q _ _ => ⟨rfl, ?_⟩⟩, ?_⟩
  · rcases (show k = 0 ∨ k = 1 ∨ k = 2 ∨ k = 3 by omega) with rfl | rfl | rfl | rfl
    · exact i_rg (st := 1000) h1 rfl (by decide)
    · exact i_rg (st := 1000) h2 rfl (by decide)
    · exact i_rg (st := 1000) h3 rfl (by decide)
    · exact i_rg (st := 1000) h4 rfl (by decide)
  · show -8388608 ≤ z_g z_0 n ∧ z_g z_0 n ≤ 8388608
    rw [z_0_g]; decide
  · show 0 ≤ z_g z_0 i ∧ z_g z_0 i ≤ 39 ∧ 0 ≤ z_g z_0 i ∧ z_g z_0 i ≤ 40
    rw [z_0_g]; decide
  · show z_g z_0 i + z_g z_0 i ≤ 40
    rw [z_0_g]; decide
  · show -8192 ≤ z_g z_0 q ∧ z_g z_0 q ≤ 8192
    rw [z_0_g]; decide
  · refine r_L_mk (ls := []) (T := g_th f5) (U := g_at f5) (hs := z_0) (gu := f5) (he := z_0) (bt := z_0l) (sd := z_0) (fi := z_0) (lx := z_0) (cl := z_0) (sz := 0) (st := 1000) (q7 := z_0) (q8 := z_0) (q9 := z_0) (q10 := z_0) (q11 := z_0) (q12 := z_0) (q13 := z_0) (q14 := z_0) (ib := z_0l) (q16 := z_0) (q17 := z_0) (q18 := z_0) (ln := 0) (lp := 0) rfl rfl rfl rfl rfl rfl rfl rfl rfl rfl rfl rfl rfl rfl rfl rfl rfl rfl rfl rfl rfl rfl rfl rfl rfl ?_ ?_ (fun _ => rfl) (fun h => absurd h (by decide)) (by decide) (by decide)
    · refine ⟨⟨rfl, Nat.zero_le _, Nat.zero_le _, fun k hk => ?_, fun k l h => ?_⟩, fun l h => absurd h List.not_mem_nil, fun n => Or.inl (i_at h5 n), fun i _ _ => ?_, fun q _ _ => ?_⟩
      · rw [Nat.le_zero.mp hk]; rfl
      · simp at h
      · rw [z_0l_g]; decide
      · rw [hnone]
        unfold a_bt
        rw [z_0l_g]
        exact Nat.zero_testBit _
    · refine ⟨rfl, ⟨Nat.zero_le _, Nat.zero_le _, fun k l h => ?_⟩, fun l h => absurd h List.not_mem_nil, fun k l hk => ?_, fun q hq => ?_, fun k l h => ?_⟩
      · simp at h
      · exact absurd hk (Nat.not_lt_zero _)
      · rw [hnone] at hq; cases hq
      · simp at h
