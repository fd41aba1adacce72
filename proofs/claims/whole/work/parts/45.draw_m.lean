/-! every side on a line is crossed -/
theorem c_sd_T {T : Int → Bool} {n k : Int} (h : m_wh T n = true) (hn : 0 ≤ n) (h0 : 0 ≤ k) (h1 : k < 4) : T (c_sd n k / 2) = true ∧ T (l_oe (c_sd n k)) = true := by
  obtain ⟨a, b, c, d, -, -, -⟩ := m_wh_spec h
  unfold l_oe
  rcases (show k = 0 ∨ k = 1 ∨ k = 2 ∨ k = 3 by omega) with rfl | rfl | rfl | rfl
  · rw [c_sd_0, if_pos (by omega), show (2 * n) / 2 = n by omega]; exact ⟨a, b⟩
  · rw [c_sd_1, if_neg (by omega), show (2 * (n + 1) + 1) / 2 = n + 1 by omega, show n + 1 + 40 = n + 40 + 1 by omega]; exact ⟨b, d⟩
  · rw [c_sd_2, if_pos (by omega), show (2 * (n + 40)) / 2 = n + 40 by omega]; exact ⟨c, d⟩
  · rw [c_sd_3, if_neg (by omega), show (2 * n + 1) / 2 = n by omega]; exact ⟨a, c⟩
theorem c_nx_T {T : Int → Bool} {m rl n : Int} {f g : Nat → Int32} (hw : m_wh T n = true) (hn : 0 ≤ n) (hf : ∀ s : Int, 0 ≤ s → s < 2560 → z_g f s ≠ -1 ∨ z_g g s ≠ -1 → T (s / 2) = true ∧ T (l_oe s) = true) : ∀ k : Nat, k ≤ 4 → ∀ s : Int, 0 ≤ s → s < 2560 → z_g (c_nxK m rl n f k) s ≠ -1 ∨ z_g (c_bfK m rl n g k) s ≠ -1 → T (s / 2) = true ∧ T (l_oe s) = true := by
  have hs := m_wh_spec hw
  intro k
  induction k with
  | zero => intro _; exact hf
  | succ k ih =>
    intro hk s a b c
    have s1 := c_sd_in (n := n) (k := k) hn (by omega)
    have hwo := c_wo_in (high := m) (rl := rl) (show (0 : Int) ≤ k by omega) (show (k : Int) < 4 by omega)
    have s2 := c_sd_in (n := n) (k := c_wo m k rl) hn (by omega)
    unfold c_nxK c_bfK at c
    split at c
    · rw [z_gs ⟨by omega, by omega⟩ s1.1 a, z_gs ⟨by omega, by omega⟩ s2.1 a] at c
      by_cases e1 : s = c_sd n k
      · rw [e1]; exact c_sd_T hw hn (by omega) (by omega)
      · by_cases e2 : s = c_sd n (c_wo m k rl)
        · rw [e2]; exact c_sd_T hw hn hwo.1 hwo.2
        · rw [if_neg e1, if_neg e2] at c
          exact ih (by omega) s a b c
    · exact ih (by omega) s a b c
theorem j_nx_T {T : Int → Bool} {U : Int → Int} {lv : Int} {c1 c2 : Nat → Int32} (h1 : ∀ q : Int, 0 ≤ q → q < 2560 → z_g c1 q = -1) (h2 : ∀ q : Int, 0 ≤ q → q < 2560 → z_g c2 q = -1) : ∀ n : Nat, ∀ s : Int, 0 ≤ s → s < 2560 → z_g (j_nxK T U lv c1 n) s ≠ -1 ∨ z_g (j_bfK T U lv c2 n) s ≠ -1 → T (s / 2) = true ∧ T (l_oe s) = true := by
  intro n
  induction n with
  | zero =>
    intro s a b c
    rcases c with c | c
    · exact absurd (h1 s a b) c
    · exact absurd (h2 s a b) c
  | succ n ih =>
    unfold j_nxK j_bfK
    split
    · next hw => exact c_nx_T hw (by omega) ih 4 (Nat.le_refl _)
    · exact ih
theorem m_nx_sok {T : Int → Bool} {U : Int → Int} {lv s : Int} (h : m_nx T U lv s ≠ -1 ∨ m_bf T U lv s ≠ -1) : s_ok T U lv s := by
  have hr : 0 ≤ s ∧ s < 2560 := Classical.byContradiction fun q => by
    have := (m_nx_ok T U lv).2.2 s (by omega)
    rcases h with h | h
    · exact h this.1
    · exact h this.2
  have hT := j_nx_T (T := T) (U := U) (lv := lv) (fun q _ _ => m_c0_g q) (fun q _ _ => m_c0_g q) 1280 s hr.1 hr.2
  have hA := n_all (T := T) (U := U) (lv := lv) (fun q _ _ => m_c0_g q) (fun q _ _ => m_c0_g q) 1280
  unfold m_nx m_bf at h
  rw [if_pos hr, if_pos hr] at h
  obtain ⟨t1, t2⟩ := hT h
  refine ⟨hr.1, hr.2, t1, t2, ?_⟩
  unfold l_oe
  rcases h with h | h
  · have := hA.2.1 s hr.1 hr.2 h
    unfold n_fr at this
    split at this
    · next e => rw [if_pos e]; rcases this with q | q <;> rw [q.2.1, q.2.2] <;> decide
    · next e => rw [if_neg e]; rcases this with q | q <;> rw [q.2.1, q.2.2] <;> decide
  · have := hA.2.2 s hr.1 hr.2 h
    unfold n_tr at this
    split at this
    · next e => rw [if_pos e]; rcases this with q | q <;> rw [q.2.1, q.2.2] <;> decide
    · next e => rw [if_neg e]; rcases this with q | q <;> rw [q.2.1, q.2.2] <;> decide
theorem d_line_sok {T : Int → Bool} {U : Int → Int} {lv st : Int} (hn : m_nx T U lv st ≠ -1) : ∀ s ∈ d_line (m_nx T U lv) st, s_ok T U lv s := by
  intro s hs
  have hok := m_nx_ok T U lv
  obtain ⟨i, hi⟩ := List.mem_iff_getElem?.mp hs
  cases i with
  | zero =>
    have := d_walk_0 (nx := m_nx T U lv) (st := st) 2560 st
    have e : some st = some s := by rw [← this]; exact hi
    rw [← Option.some.inj e]
    exact m_nx_sok (Or.inl hn)
  | succ i =>
    have hlt := (List.getElem?_eq_some_iff.mp hi).1
    obtain ⟨y, hy⟩ : ∃ y, (d_line (m_nx T U lv) st)[i]? = some y := ⟨_, List.getElem?_eq_getElem (by omega)⟩
    have a := d_walk_step 2560 st i y s hy hi
    have h0 : 0 ≤ y := Classical.byContradiction fun q => a.2.1 (a.1.trans (hok.2.2 y (by omega)).1)
    have h1 := hok.1 y
    have h2 := (hok.2.1 y s h0 (by omega)).mp a.1.symm
    exact m_nx_sok (Or.inr (by omega))
def l_good (T : Int → Bool) (U : Int → Int) (hs : Nat → Int32) (l : d_L) : Prop := (0 ≤ l.1 ∧ l.1 < 16) ∧ (l.2.1 = 0 ∨ l.2.1 = 1) ∧ l.2.2 ≠ [] ∧ ∀ s ∈ l.2.2, s_ok T U (z_g hs l.1) s
theorem d_tell_good {T : Int → Bool} {U : Int → Int} {hs : Nat → Int32} {v s : Int} {S : d_S} (hv0 : 0 ≤ v) (hv1 : v < 16) (hn : m_nx T U (z_g hs v) s ≠ -1) (h : ∀ l ∈ S.1, l_good T U hs l) : ∀ l ∈ (d_tell (m_nx T U (z_g hs v)) v s S).1, l_good T U hs l := by
  unfold d_tell
  split
  · intro l hl
    rcases List.mem_append.mp hl with hl | hl
    · exact h l hl
    · rw [List.mem_singleton.mp hl]
      refine ⟨⟨hv0, hv1⟩, ?_, fun e => ?_, d_line_sok hn⟩
      · show d_cl _ _ = 0 ∨ d_cl _ _ = 1
        unfold d_cl
        split
        · exact Or.inr rfl
        · exact Or.inl rfl
      · have := d_line_st (nx := m_nx T U (z_g hs v)) (st := s)
        have e2 : d_line (m_nx T U (z_g hs v)) s = [] := e
        rw [e2] at this
        cases this
  · exact h
theorem d_lvl_good {T : Int → Bool} {U : Int → Int} {hs : Nat → Int32} {v : Int} {ls : List d_L} (hv0 : 0 ≤ v) (hv1 : v < 16) (h : ∀ l ∈ ls, l_good T U hs l) : ∀ l ∈ (d_lvl (m_nx T U (z_g hs v)) (m_bf T U (z_g hs v)) v ls).1, l_good T U hs l := by
  have h1 : ∀ k : Nat, ∀ l ∈ (d_p1 (m_nx T U (z_g hs v)) (m_bf T U (z_g hs v)) v (ls, fun _ => false, false) k).1, l_good T U hs l := by
    intro k
    induction k with
    | zero => exact h
    | succ k ih =>
      rw [d_p1_s]
      split
      · next q => exact d_tell_good hv0 hv1 q.2.1 ih
      · exact ih
  have h2 : ∀ k : Nat, ∀ l ∈ (d_p2 (m_nx T U (z_g hs v)) v (d_p1 (m_nx T U (z_g hs v)) (m_bf T U (z_g hs v)) v (ls, fun _ => false, false) 2560) k).1, l_good T U hs l := by
    intro k
    induction k with
    | zero => exact h1 2560
    | succ k ih =>
      rw [d_p2_s]
      split
      · next q => exact d_tell_good hv0 hv1 q.2.1 ih
      · exact ih
  exact h2 2560
/-- all levels, rising; full or not -/
def d_ds (T : Int → Bool) (U : Int → Int) (mm : Nat → Int32) (v : Nat) (X : List d_L × Bool) : List d_L × Bool :=
  if X.2 = true then X else ((d_lvl (m_nx T U (1024 * z_g mm v)) (m_bf T U (1024 * z_g mm v)) v X.1).1, (d_lvl (m_nx T U (1024 * z_g mm v)) (m_bf T U (1024 * z_g mm v)) v X.1).2.2)
def d_dr (T : Int → Bool) (U : Int → Int) (mm : Nat → Int32) : Nat → List d_L × Bool
  | 0 => ([], false)
  | v + 1 => d_ds T U mm v (d_dr T U mm v)
theorem d_dr_z {T : Int → Bool} {U : Int → Int} {mm : Nat → Int32} : d_dr T U mm 0 = ([], false) := rfl
theorem d_dr_s {T : Int → Bool} {U : Int → Int} {mm : Nat → Int32} {v : Nat} : d_dr T U mm (v + 1) = d_ds T U mm v (d_dr T U mm v) := rfl
theorem d_ds_t {T : Int → Bool} {U : Int → Int} {mm : Nat → Int32} {v : Nat} {X : List d_L × Bool} (h : X.2 = true) : d_ds T U mm v X = X := if_pos h
theorem d_ds_f {T : Int → Bool} {U : Int → Int} {mm : Nat → Int32} {v : Nat} {X : List d_L × Bool} (h : ¬ X.2 = true) : d_ds T U mm v X = ((d_lvl (m_nx T U (1024 * z_g mm v)) (m_bf T U (1024 * z_g mm v)) v X.1).1, (d_lvl (m_nx T U (1024 * z_g mm v)) (m_bf T U (1024 * z_g mm v)) v X.1).2.2) := if_neg h
theorem l_good_hs {T : Int → Bool} {U : Int → Int} {hs hs' : Nat → Int32} {l : d_L} (h : l_good T U hs l) (e : z_g hs' l.1 = z_g hs l.1) : l_good T U hs' l := ⟨h.1, h.2.1, h.2.2.1, by rw [e]; exact h.2.2.2⟩
