/-! the joins of all cells: no side leads to two, to none lead two -/
theorem c_fin : ∀ m : Fin 16, ∀ k : Fin 4, ∀ r : Fin 2, c_go (m.val : Int) (k.val : Int) = true → c_hi (m.val : Int) (c_wo (m.val : Int) (k.val : Int) (r.val : Int)) = false ∧ c_hi (m.val : Int) (c_wo (m.val : Int) (k.val : Int) (r.val : Int) + 1) = true ∧ ∀ j : Fin 4, c_go (m.val : Int) (j.val : Int) = true → c_wo (m.val : Int) (j.val : Int) (r.val : Int) = c_wo (m.val : Int) (k.val : Int) (r.val : Int) → j = k := by decide +kernel
theorem c_hi4 : ∀ m : Fin 16, c_hi (m.val : Int) 4 = c_hi (m.val : Int) 0 := by decide +kernel
theorem c_bits (a b c d : Bool) : (c_hi ((0 + (if a then 2 ^ 0 else 0)) + (if b then 2 ^ 1 else 0) + (if c then 2 ^ 2 else 0) + (if d then 2 ^ 3 else 0)) 0 = a) ∧ (c_hi ((0 + (if a then 2 ^ 0 else 0)) + (if b then 2 ^ 1 else 0) + (if c then 2 ^ 2 else 0) + (if d then 2 ^ 3 else 0)) 1 = b) ∧ (c_hi ((0 + (if a then 2 ^ 0 else 0)) + (if b then 2 ^ 1 else 0) + (if c then 2 ^ 2 else 0) + (if d then 2 ^ 3 else 0)) 2 = c) ∧ (c_hi ((0 + (if a then 2 ^ 0 else 0)) + (if b then 2 ^ 1 else 0) + (if c then 2 ^ 2 else 0) + (if d then 2 ^ 3 else 0)) 3 = d) := by
  cases a <;> cases b <;> cases c <;> cases d <;> decide +kernel
/-- a corner is high -/
def n_hi (U : Int → Int) (lv p : Int) : Bool := decide (U p ≥ lv)
theorem c_mk_bits (U : Int → Int) (lv n : Int) : c_hi (c_mk U lv n 4) 0 = n_hi U lv n ∧ c_hi (c_mk U lv n 4) 1 = n_hi U lv (n + 1) ∧ c_hi (c_mk U lv n 4) 2 = n_hi U lv (n + 40 + 1) ∧ c_hi (c_mk U lv n 4) 3 = n_hi U lv (n + 40) := by
  have e0 : c_co n ((0 : Nat) : Int) = n := by show n + _ + _ = n; rw [if_neg (by decide), if_neg (by decide)]; omega
  have e1 : c_co n ((1 : Nat) : Int) = n + 1 := by show n + _ + _ = n + 1; rw [if_pos (by decide), if_neg (by decide)]; omega
  have e2 : c_co n ((2 : Nat) : Int) = n + 40 + 1 := by show n + _ + _ = n + 40 + 1; rw [if_pos (by decide), if_pos (by decide)]; omega
  have e3 : c_co n ((3 : Nat) : Int) = n + 40 := by show n + _ + _ = n + 40; rw [if_neg (by decide), if_pos (by decide)]; omega
  have h := c_bits (n_hi U lv n) (n_hi U lv (n + 1)) (n_hi U lv (n + 40 + 1)) (n_hi U lv (n + 40))
  have e : c_mk U lv n 4 = (0 + (if n_hi U lv n then 2 ^ 0 else 0)) + (if n_hi U lv (n + 1) then 2 ^ 1 else 0) + (if n_hi U lv (n + 40 + 1) then 2 ^ 2 else 0) + (if n_hi U lv (n + 40) then 2 ^ 3 else 0) := by
    show (((0 + _) + _) + _) + _ = _
    rw [e0, e1, e2, e3]
    simp only [n_hi, decide_eq_true_eq]
  rw [e]
  exact h
theorem c_mk_16 (U : Int → Int) (lv n : Int) : 0 ≤ c_mk U lv n 4 ∧ c_mk U lv n 4 < 16 := c_mk_b U lv n 4
theorem c_rl_01 (U : Int → Int) (lv n : Int) : c_rl U lv n = 0 ∨ c_rl U lv n = 1 := z_b_01 _
/-- a side's two ends, one of them high: which cells it may lead from (fr), to (tr), of the first n -/
def n_fr (U : Int → Int) (lv n s : Int) : Prop := if s % 2 = 0 then (s / 2 < n ∧ n_hi U lv (s / 2) = true ∧ n_hi U lv (s / 2 + 1) = false) ∨ (s / 2 - 40 < n ∧ n_hi U lv (s / 2 + 1) = true ∧ n_hi U lv (s / 2) = false) else (s / 2 < n ∧ n_hi U lv (s / 2 + 40) = true ∧ n_hi U lv (s / 2) = false) ∨ (s / 2 - 1 < n ∧ n_hi U lv (s / 2) = true ∧ n_hi U lv (s / 2 + 40) = false)
def n_tr (U : Int → Int) (lv n s : Int) : Prop := if s % 2 = 0 then (s / 2 < n ∧ n_hi U lv (s / 2) = false ∧ n_hi U lv (s / 2 + 1) = true) ∨ (s / 2 - 40 < n ∧ n_hi U lv (s / 2 + 1) = false ∧ n_hi U lv (s / 2) = true) else (s / 2 < n ∧ n_hi U lv (s / 2 + 40) = false ∧ n_hi U lv (s / 2) = true) ∨ (s / 2 - 1 < n ∧ n_hi U lv (s / 2) = false ∧ n_hi U lv (s / 2 + 40) = true)
theorem n_fr_up {U : Int → Int} {lv n s : Int} (h : n_fr U lv n s) : n_fr U lv (n + 1) s := by
  unfold n_fr at *
  split at h
  · next e => rw [if_pos e]; rcases h with h | h; exact Or.inl ⟨by omega, h.2⟩; exact Or.inr ⟨by omega, h.2⟩
  · next e => rw [if_neg e]; rcases h with h | h; exact Or.inl ⟨by omega, h.2⟩; exact Or.inr ⟨by omega, h.2⟩
theorem n_tr_up {U : Int → Int} {lv n s : Int} (h : n_tr U lv n s) : n_tr U lv (n + 1) s := by
  unfold n_tr at *
  split at h
  · next e => rw [if_pos e]; rcases h with h | h; exact Or.inl ⟨by omega, h.2⟩; exact Or.inr ⟨by omega, h.2⟩
  · next e => rw [if_neg e]; rcases h with h | h; exact Or.inl ⟨by omega, h.2⟩; exact Or.inr ⟨by omega, h.2⟩
/-- a side of cell n between corner k and the next: its number's parts -/
theorem c_sd_0 (n : Int) : c_sd n 0 = 2 * n := if_pos rfl
theorem c_sd_1 (n : Int) : c_sd n 1 = 2 * (n + 1) + 1 := by unfold c_sd; rw [if_neg (by decide), if_pos rfl]
theorem c_sd_2 (n : Int) : c_sd n 2 = 2 * (n + 40) := by unfold c_sd; rw [if_neg (by decide), if_neg (by decide), if_pos rfl]
theorem c_sd_3 (n : Int) : c_sd n 3 = 2 * n + 1 := by unfold c_sd; rw [if_neg (by decide), if_neg (by decide), if_neg (by decide)]
theorem c_sd_inj {n j k : Int} (h0 : 0 ≤ j) (h1 : j < 4) (h2 : 0 ≤ k) (h3 : k < 4) (h : c_sd n j = c_sd n k) : j = k := by
  rcases (show j = 0 ∨ j = 1 ∨ j = 2 ∨ j = 3 by omega) with rfl | rfl | rfl | rfl <;> rcases (show k = 0 ∨ k = 1 ∨ k = 2 ∨ k = 3 by omega) with rfl | rfl | rfl | rfl <;> simp only [c_sd_0, c_sd_1, c_sd_2, c_sd_3] at h <;> omega
theorem n_dir {U : Int → Int} {lv n k : Int} (h0 : 0 ≤ k) (h1 : k < 4) : (c_hi (c_mk U lv n 4) k = true → c_hi (c_mk U lv n 4) (k + 1) = false → ¬ n_fr U lv n (c_sd n k) ∧ n_fr U lv (n + 1) (c_sd n k)) ∧ (c_hi (c_mk U lv n 4) k = false → c_hi (c_mk U lv n 4) (k + 1) = true → ¬ n_tr U lv n (c_sd n k) ∧ n_tr U lv (n + 1) (c_sd n k)) := by
  obtain ⟨b0, b1, b2, b3⟩ := c_mk_bits U lv n
  have b4 : c_hi (c_mk U lv n 4) 4 = n_hi U lv n := by
    rw [← b0]
    exact z_fin (N := 16) (P := fun m => c_hi m 4 = c_hi m 0) c_hi4 (c_mk_16 U lv n).1 (c_mk_16 U lv n).2
  unfold n_fr n_tr
  rcases (show k = 0 ∨ k = 1 ∨ k = 2 ∨ k = 3 by omega) with rfl | rfl | rfl | rfl
  · rw [c_sd_0, if_pos (by omega), if_pos (by omega), if_pos (by omega), if_pos (by omega), show (2 * n) / 2 = n by omega, b0, show (0 : Int) + 1 = 1 from rfl, b1]
    refine ⟨fun x y => ⟨fun h => ?_, Or.inl ⟨by omega, x, y⟩⟩, fun x y => ⟨fun h => ?_, Or.inl ⟨by omega, x, y⟩⟩⟩
    · rcases h with h | h
      · omega
      · rw [y] at h; exact absurd h.2.1 (by decide)
    · rcases h with h | h
      · omega
      · rw [y] at h; exact absurd h.2.1 (by decide)
  · rw [c_sd_1, if_neg (by omega), if_neg (by omega), if_neg (by omega), if_neg (by omega), show (2 * (n + 1) + 1) / 2 = n + 1 by omega, b1, show (1 : Int) + 1 = 2 from rfl, b2, show n + 1 + 40 = n + 40 + 1 by omega]
    refine ⟨fun x y => ⟨fun h => ?_, Or.inr ⟨by omega, x, y⟩⟩, fun x y => ⟨fun h => ?_, Or.inr ⟨by omega, x, y⟩⟩⟩ <;> rcases h with h | h <;> omega
  · rw [c_sd_2, if_pos (by omega), if_pos (by omega), if_pos (by omega), if_pos (by omega), show (2 * (n + 40)) / 2 = n + 40 by omega, b2, show (2 : Int) + 1 = 3 from rfl, b3]
    refine ⟨fun x y => ⟨fun h => ?_, Or.inr ⟨by omega, x, y⟩⟩, fun x y => ⟨fun h => ?_, Or.inr ⟨by omega, x, y⟩⟩⟩ <;> rcases h with h | h <;> omega
  · rw [c_sd_3, if_neg (by omega), if_neg (by omega), if_neg (by omega), if_neg (by omega), show (2 * n + 1) / 2 = n by omega, b3, show (3 : Int) + 1 = 4 from rfl, b4]
    refine ⟨fun x y => ⟨fun h => ?_, Or.inl ⟨by omega, x, y⟩⟩, fun x y => ⟨fun h => ?_, Or.inl ⟨by omega, x, y⟩⟩⟩
    · rcases h with h | h
      · omega
      · rw [y] at h; exact absurd h.2.1 (by decide)
    · rcases h with h | h
      · omega
      · rw [y] at h; exact absurd h.2.1 (by decide)
/-- nx and bf are each other's backs, within the sides -/
def n_inv (nx bf : Nat → Int32) : Prop := (∀ s : Int, 0 ≤ s → s < 2560 → -1 ≤ z_g nx s ∧ z_g nx s < 2560 ∧ -1 ≤ z_g bf s ∧ z_g bf s < 2560) ∧ ∀ s t : Int, 0 ≤ s → s < 2560 → 0 ≤ t → t < 2560 → (z_g nx s = t ↔ z_g bf t = s)
theorem n_inv_link {nx bf : Nat → Int32} {s t : Int} (hs0 : 0 ≤ s) (hs1 : s < 2560) (ht0 : 0 ≤ t) (ht1 : t < 2560) (h : n_inv nx bf) (h1 : z_g nx s = -1) (h2 : z_g bf t = -1) : n_inv (z_s nx s t) (z_s bf t s) := by
  have g1 : ∀ x : Int, 0 ≤ x → z_g (z_s nx s t) x = if x = s then t else z_g nx x := fun x hx => z_gs ⟨by omega, by omega⟩ hs0 hx
  have g2 : ∀ x : Int, 0 ≤ x → z_g (z_s bf t s) x = if x = t then s else z_g bf x := fun x hx => z_gs ⟨by omega, by omega⟩ ht0 hx
  refine ⟨fun x a b => ?_, fun x y a b c d => ?_⟩
  · have := h.1 x a b
    rw [g1 x a, g2 x a]
    refine ⟨?_, ?_, ?_, ?_⟩ <;> split <;> omega
  · rw [g1 x a, g2 y c]
    have h3 := h.2 x y a b c d
    have h4 := h.2 s y hs0 hs1 c d
    have h5 := h.2 x t a b ht0 ht1
    by_cases e1 : x = s
    · by_cases e2 : y = t
      · rw [if_pos e1, if_pos e2]; omega
      · rw [if_pos e1, if_neg e2]
        constructor
        · intro q; omega
        · intro q
          rw [e1] at q
          have := h4.mpr q
          omega
    · by_cases e2 : y = t
      · rw [if_neg e1, if_pos e2]
        constructor
        · intro q
          rw [e2] at q
          have := h5.mp q
          omega
        · intro q; omega
      · rw [if_neg e1, if_neg e2]
        exact h3
theorem n_cell {U : Int → Int} {lv n : Int} {nx bf : Nat → Int32} (hn0 : 0 ≤ n) (hn1 : n < 1240) (h : n_inv nx bf) (hf : ∀ s : Int, 0 ≤ s → s < 2560 → z_g nx s ≠ -1 → n_fr U lv n s) (ht : ∀ s : Int, 0 ≤ s → s < 2560 → z_g bf s ≠ -1 → n_tr U lv n s) : ∀ k : Nat, k ≤ 4 →
    n_inv (c_nxK (c_mk U lv n 4) (c_rl U lv n) n nx k) (c_bfK (c_mk U lv n 4) (c_rl U lv n) n bf k) ∧
    (∀ s : Int, 0 ≤ s → s < 2560 → z_g (c_nxK (c_mk U lv n 4) (c_rl U lv n) n nx k) s ≠ -1 → n_fr U lv n s ∨ ∃ j : Int, 0 ≤ j ∧ j < k ∧ c_go (c_mk U lv n 4) j = true ∧ s = c_sd n j) ∧
    (∀ s : Int, 0 ≤ s → s < 2560 → z_g (c_bfK (c_mk U lv n 4) (c_rl U lv n) n bf k) s ≠ -1 → n_tr U lv n s ∨ ∃ j : Int, 0 ≤ j ∧ j < k ∧ c_go (c_mk U lv n 4) j = true ∧ s = c_sd n (c_wo (c_mk U lv n 4) j (c_rl U lv n))) := by
  intro k
  induction k with
  | zero => intro _; exact ⟨h, fun s a b c => Or.inl (hf s a b c), fun s a b c => Or.inl (ht s a b c)⟩
  | succ k ih =>
    intro hk
    obtain ⟨i1, i2, i3⟩ := ih (by omega)
    unfold c_nxK c_bfK
    have hm := c_mk_16 U lv n
    have hr := c_rl_01 U lv n
    by_cases hg : c_go (c_mk U lv n 4) k = true
    · rw [if_pos hg, if_pos hg]
      have hg2 : c_hi (c_mk U lv n 4) k = true ∧ c_hi (c_mk U lv n 4) (k + 1) = false := by
        unfold c_go at hg
        simpa using hg
      have fin := z_fin (N := 16) (P := fun m => ∀ k : Fin 4, ∀ r : Fin 2, c_go m (k.val : Int) = true → c_hi m (c_wo m (k.val : Int) (r.val : Int)) = false ∧ c_hi m (c_wo m (k.val : Int) (r.val : Int) + 1) = true ∧ ∀ j : Fin 4, c_go m (j.val : Int) = true → c_wo m (j.val : Int) (r.val : Int) = c_wo m (k.val : Int) (r.val : Int) → j = k) c_fin hm.1 hm.2
      have fin2 : c_hi (c_mk U lv n 4) (c_wo (c_mk U lv n 4) k (c_rl U lv n)) = false ∧ c_hi (c_mk U lv n 4) (c_wo (c_mk U lv n 4) k (c_rl U lv n) + 1) = true ∧ ∀ j : Int, 0 ≤ j → j < 4 → c_go (c_mk U lv n 4) j = true → c_wo (c_mk U lv n 4) j (c_rl U lv n) = c_wo (c_mk U lv n 4) k (c_rl U lv n) → j = k := by
        have hrl : ∃ r : Fin 2, (r.val : Int) = c_rl U lv n := by
          rcases hr with e | e
          · exact ⟨0, by rw [e]; rfl⟩
          · exact ⟨1, by rw [e]; rfl⟩
        obtain ⟨r, er⟩ := hrl
        have f := fin ⟨k, by omega⟩ r hg
        rw [er] at f
        refine ⟨f.1, f.2.1, fun j a b c d => ?_⟩
        have f2 := f.2.2 ⟨j.toNat, by omega⟩ (by rw [show ((⟨j.toNat, by omega⟩ : Fin 4).val : Int) = j from Int.toNat_of_nonneg a]; exact c) (by rw [show ((⟨j.toNat, by omega⟩ : Fin 4).val : Int) = j from Int.toNat_of_nonneg a]; exact d)
        have f3 := congrArg Fin.val f2
        dsimp only at f3
        omega
      have hw := c_wo_in (high := c_mk U lv n 4) (rl := c_rl U lv n) (show (0 : Int) ≤ k by omega) (show (k : Int) < 4 by omega)
      have s1 := c_sd_in (k := k) hn0 hn1
      have s2 := c_sd_in (k := c_wo (c_mk U lv n 4) k (c_rl U lv n)) hn0 hn1
      have d1 := (n_dir (U := U) (lv := lv) (n := n) (k := k) (by omega) (by omega)).1 hg2.1 hg2.2
      have d2 := (n_dir (U := U) (lv := lv) (n := n) hw.1 hw.2).2 fin2.1 fin2.2.1
      have n1 : z_g (c_nxK (c_mk U lv n 4) (c_rl U lv n) n nx k) (c_sd n k) = -1 := Classical.byContradiction fun q => by
        rcases i2 _ s1.1 s1.2 q with q | ⟨j, a, b, c, d⟩
        · exact d1.1 q
        · have := c_sd_inj (by omega) (by omega) a (by omega) d
          omega
      have n2 : z_g (c_bfK (c_mk U lv n 4) (c_rl U lv n) n bf k) (c_sd n (c_wo (c_mk U lv n 4) k (c_rl U lv n))) = -1 := Classical.byContradiction fun q => by
        rcases i3 _ s2.1 s2.2 q with q | ⟨j, a, b, c, d⟩
        · exact d2.1 q
        · have hwj := c_wo_in (high := c_mk U lv n 4) (rl := c_rl U lv n) a (show j < 4 by omega)
          have := c_sd_inj hw.1 hw.2 hwj.1 hwj.2 d
          have := fin2.2.2 j a (by omega) c this.symm
          omega
      refine ⟨n_inv_link s1.1 s1.2 s2.1 s2.2 i1 n1 n2, fun s a b c => ?_, fun s a b c => ?_⟩
      · rw [z_gs ⟨by omega, by omega⟩ s1.1 a] at c
        by_cases e : s = c_sd n k
        · exact Or.inr ⟨k, by omega, by omega, hg, e⟩
        · rw [if_neg e] at c
          rcases i2 s a b c with q | ⟨j, x, y, z, w⟩
          · exact Or.inl q
          · exact Or.inr ⟨j, x, by omega, z, w⟩
      · rw [z_gs ⟨by omega, by omega⟩ s2.1 a] at c
        by_cases e : s = c_sd n (c_wo (c_mk U lv n 4) k (c_rl U lv n))
        · exact Or.inr ⟨k, by omega, by omega, hg, e⟩
        · rw [if_neg e] at c
          rcases i3 s a b c with q | ⟨j, x, y, z, w⟩
          · exact Or.inl q
          · exact Or.inr ⟨j, x, by omega, z, w⟩
    · rw [if_neg hg, if_neg hg]
      refine ⟨i1, fun s a b c => ?_, fun s a b c => ?_⟩
      · rcases i2 s a b c with q | ⟨j, x, y, z, w⟩
        · exact Or.inl q
        · exact Or.inr ⟨j, x, by omega, z, w⟩
      · rcases i3 s a b c with q | ⟨j, x, y, z, w⟩
        · exact Or.inl q
        · exact Or.inr ⟨j, x, by omega, z, w⟩
theorem n_all {T : Int → Bool} {U : Int → Int} {lv : Int} {c1 c2 : Nat → Int32} (h1 : ∀ q : Int, 0 ≤ q → q < 2560 → z_g c1 q = -1) (h2 : ∀ q : Int, 0 ≤ q → q < 2560 → z_g c2 q = -1) : ∀ n : Nat, n_inv (j_nxK T U lv c1 n) (j_bfK T U lv c2 n) ∧ (∀ s : Int, 0 ≤ s → s < 2560 → z_g (j_nxK T U lv c1 n) s ≠ -1 → n_fr U lv n s) ∧ (∀ s : Int, 0 ≤ s → s < 2560 → z_g (j_bfK T U lv c2 n) s ≠ -1 → n_tr U lv n s) := by
  intro n
  induction n with
  | zero =>
    refine ⟨⟨fun s a b => ?_, fun s t a b c d => ?_⟩, fun s a b c => absurd (h1 s a b) c, fun s a b c => absurd (h2 s a b) c⟩
    · show -1 ≤ z_g c1 s ∧ z_g c1 s < 2560 ∧ -1 ≤ z_g c2 s ∧ z_g c2 s < 2560
      rw [h1 s a b, h2 s a b]; omega
    · show z_g c1 s = t ↔ z_g c2 t = s
      rw [h1 s a b, h2 t c d]; omega
  | succ n ih =>
    unfold j_nxK j_bfK
    split
    · next hw =>
      have hs := m_wh_spec hw
      have hc := n_cell (U := U) (lv := lv) (n := n) (by omega) (by omega) ih.1 ih.2.1 ih.2.2 4 (Nat.le_refl _)
      refine ⟨hc.1, fun s a b c => ?_, fun s a b c => ?_⟩
      · rcases hc.2.1 s a b c with q | ⟨j, x, y, z, w⟩
        · exact n_fr_up q
        · rw [w]
          have hg2 : c_hi (c_mk U lv n 4) j = true ∧ c_hi (c_mk U lv n 4) (j + 1) = false := by
            unfold c_go at z
            simpa using z
          exact ((n_dir (U := U) (lv := lv) (n := n) x (by omega)).1 hg2.1 hg2.2).2
      · rcases hc.2.2 s a b c with q | ⟨j, x, y, z, w⟩
        · exact n_tr_up q
        · rw [w]
          have hw := c_wo_in (high := c_mk U lv n 4) (rl := c_rl U lv n) x (show j < 4 by omega)
          have hm := c_mk_16 U lv n
          have fin := z_fin (N := 16) (P := fun m => ∀ k : Fin 4, ∀ r : Fin 2, c_go m (k.val : Int) = true → c_hi m (c_wo m (k.val : Int) (r.val : Int)) = false ∧ c_hi m (c_wo m (k.val : Int) (r.val : Int) + 1) = true ∧ ∀ j : Fin 4, c_go m (j.val : Int) = true → c_wo m (j.val : Int) (r.val : Int) = c_wo m (k.val : Int) (r.val : Int) → j = k) c_fin hm.1 hm.2
          have hrl : ∃ r : Fin 2, (r.val : Int) = c_rl U lv n := by
            rcases c_rl_01 U lv n with e | e
            · exact ⟨0, by rw [e]; rfl⟩
            · exact ⟨1, by rw [e]; rfl⟩
          obtain ⟨r, er⟩ := hrl
          have f := fin ⟨j.toNat, by omega⟩ r (by rw [show ((⟨j.toNat, by omega⟩ : Fin 4).val : Int) = j from Int.toNat_of_nonneg x]; exact z)
          rw [er, show ((⟨j.toNat, by omega⟩ : Fin 4).val : Int) = j from Int.toNat_of_nonneg x] at f
          exact ((n_dir (U := U) (lv := lv) (n := n) hw.1 hw.2).2 f.1 f.2.1).2
    · exact ⟨ih.1, fun s a b c => n_fr_up (ih.2.1 s a b c), fun s a b c => n_tr_up (ih.2.2 s a b c)⟩
