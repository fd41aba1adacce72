/-! walks along sides -/
theorem c_le_la {m rl n le la : Int} {f : Nat → Int32} (hn0 : 0 ≤ n) (hn1 : n < 1240) (h : ∀ s : Int, 0 ≤ s → s < 2560 → z_g f s ≠ -1 → le ≤ s ∧ s ≤ la) (k : Nat) (hk : k ≤ 4) : ∀ s : Int, 0 ≤ s → s < 2560 → z_g (c_nxK m rl n f k) s ≠ -1 → c_leK m n le k ≤ s ∧ s ≤ c_laK m n la k := by
  induction k with
  | zero => exact h
  | succ k ih =>
    intro s a b c
    have s1 := c_sd_in (k := k) hn0 hn1
    have s2 := c_sd_in (k := c_wo m k rl) hn0 hn1
    unfold c_nxK at c
    unfold c_leK c_laK
    split at c
    · next hg =>
      rw [if_pos hg, if_pos hg]
      rw [z_gs ⟨by omega, by omega⟩ s1.1 a] at c
      by_cases e : s = c_sd n k
      · omega
      · rw [if_neg e] at c
        have := ih (by omega) s a b c
        omega
    · next hg =>
      rw [if_neg hg, if_neg hg]
      exact ih (by omega) s a b c
theorem j_le_la {T : Int → Bool} {U : Int → Int} {lv : Int} {c1 : Nat → Int32} (h1 : ∀ q : Int, 0 ≤ q → q < 2560 → z_g c1 q = -1) (n : Nat) : ∀ s : Int, 0 ≤ s → s < 2560 → z_g (j_nxK T U lv c1 n) s ≠ -1 → j_leK T U lv n ≤ s ∧ s ≤ j_laK T U lv n := by
  induction n with
  | zero => intro s a b c; exact absurd (h1 s a b) c
  | succ n ih =>
    unfold j_nxK j_leK j_laK
    split
    · next hw =>
      have hs := m_wh_spec hw
      exact c_le_la (by omega) (by omega) ih 4 (Nat.le_refl _)
    · exact ih
theorem c_nxK_c {m rl n : Int} {f g : Nat → Int32} (hn0 : 0 ≤ n) (hn1 : n < 1240) (h : ∀ s : Int, 0 ≤ s → s < 2560 → z_g f s = z_g g s) (k : Nat) : ∀ s : Int, 0 ≤ s → s < 2560 → z_g (c_nxK m rl n f k) s = z_g (c_nxK m rl n g k) s := by
  induction k with
  | zero => exact h
  | succ k ih =>
    intro s a b
    have s1 := c_sd_in (k := k) hn0 hn1
    have s2 := c_sd_in (k := c_wo m k rl) hn0 hn1
    unfold c_nxK
    split
    · rw [z_gs ⟨by omega, by omega⟩ s1.1 a, z_gs ⟨by omega, by omega⟩ s1.1 a, ih s a b]
    · exact ih s a b
theorem c_bfK_c {m rl n : Int} {f g : Nat → Int32} (hn0 : 0 ≤ n) (hn1 : n < 1240) (h : ∀ s : Int, 0 ≤ s → s < 2560 → z_g f s = z_g g s) (k : Nat) : ∀ s : Int, 0 ≤ s → s < 2560 → z_g (c_bfK m rl n f k) s = z_g (c_bfK m rl n g k) s := by
  induction k with
  | zero => exact h
  | succ k ih =>
    intro s a b
    have s1 := c_sd_in (k := k) hn0 hn1
    have s2 := c_sd_in (k := c_wo m k rl) hn0 hn1
    unfold c_bfK
    split
    · rw [z_gs ⟨by omega, by omega⟩ s2.1 a, z_gs ⟨by omega, by omega⟩ s2.1 a, ih s a b]
    · exact ih s a b
theorem j_nxK_c {T : Int → Bool} {U : Int → Int} {lv : Int} {f g : Nat → Int32} (h : ∀ s : Int, 0 ≤ s → s < 2560 → z_g f s = z_g g s) (n : Nat) : ∀ s : Int, 0 ≤ s → s < 2560 → z_g (j_nxK T U lv f n) s = z_g (j_nxK T U lv g n) s := by
  induction n with
  | zero => exact h
  | succ n ih =>
    unfold j_nxK
    split
    · next hw =>
      have hs := m_wh_spec hw
      exact c_nxK_c (by omega) (by omega) ih 4
    · exact ih
theorem j_bfK_c {T : Int → Bool} {U : Int → Int} {lv : Int} {f g : Nat → Int32} (h : ∀ s : Int, 0 ≤ s → s < 2560 → z_g f s = z_g g s) (n : Nat) : ∀ s : Int, 0 ≤ s → s < 2560 → z_g (j_bfK T U lv f n) s = z_g (j_bfK T U lv g n) s := by
  induction n with
  | zero => exact h
  | succ n ih =>
    unfold j_bfK
    split
    · next hw =>
      have hs := m_wh_spec hw
      exact c_bfK_c (by omega) (by omega) ih 4
    · exact ih
def m_c0 : Nat → Int32 := fun _ => z_i (-1)
theorem m_c0_g (s : Int) : z_g m_c0 s = -1 := z_i_to (by decide)
/-- where a side leads on, at a level; what leads to it -/
def m_nx (T : Int → Bool) (U : Int → Int) (lv s : Int) : Int := if 0 ≤ s ∧ s < 2560 then z_g (j_nxK T U lv m_c0 1280) s else -1
def m_bf (T : Int → Bool) (U : Int → Int) (lv s : Int) : Int := if 0 ≤ s ∧ s < 2560 then z_g (j_bfK T U lv m_c0 1280) s else -1
def n_ok (nx bf : Int → Int) : Prop := (∀ s, -1 ≤ nx s ∧ nx s < 2560 ∧ -1 ≤ bf s ∧ bf s < 2560) ∧ (∀ s t, 0 ≤ s → 0 ≤ t → (nx s = t ↔ bf t = s)) ∧ ∀ s, (s < 0 ∨ 2560 ≤ s) → nx s = -1 ∧ bf s = -1
theorem m_nx_ok (T : Int → Bool) (U : Int → Int) (lv : Int) : n_ok (m_nx T U lv) (m_bf T U lv) := by
  have h := (n_all (T := T) (U := U) (lv := lv) (fun q _ _ => m_c0_g q) (fun q _ _ => m_c0_g q) 1280).1
  refine ⟨fun s => ?_, fun s t a b => ?_, fun s a => ⟨if_neg (by omega), if_neg (by omega)⟩⟩ <;> unfold m_nx m_bf
  · by_cases e : 0 ≤ s ∧ s < 2560
    · rw [if_pos e, if_pos e]; exact h.1 s e.1 e.2
    · rw [if_neg e, if_neg e]; omega
  · by_cases e1 : s < 2560
    · by_cases e2 : t < 2560
      · rw [if_pos ⟨a, e1⟩, if_pos ⟨b, e2⟩]; exact h.2 s t a e1 b e2
      · rw [if_pos ⟨a, e1⟩, if_neg (by omega)]
        have := h.1 s a e1
        omega
    · by_cases e2 : t < 2560
      · rw [if_neg (by omega), if_pos ⟨b, e2⟩]
        have := h.1 t b e2
        omega
      · rw [if_neg (by omega), if_neg (by omega)]; omega
theorem j_post_nx {T : Int → Bool} {U : Int → Int} {lv : Int} {nx bf : Nat → Int32} {le la : Int} (h : j_post T U lv nx bf le la) : (∀ s : Int, 0 ≤ s → s < 2560 → z_g nx s = m_nx T U lv s ∧ z_g bf s = m_bf T U lv s) ∧ 0 ≤ le ∧ le ≤ 2560 ∧ -1 ≤ la ∧ la < 2560 ∧ ∀ s : Int, m_nx T U lv s ≠ -1 → le ≤ s ∧ s ≤ la := by
  obtain ⟨c1, c2, h1, h2, rfl, rfl, rfl, rfl⟩ := h
  have b1 := j_leK_b T U lv 1280
  have b2 := j_laK_b T U lv 1280
  have e1 : ∀ s : Int, 0 ≤ s → s < 2560 → z_g (j_nxK T U lv c1 1280) s = m_nx T U lv s := fun s a b => by
    unfold m_nx
    rw [if_pos ⟨a, b⟩]
    exact j_nxK_c (fun q x y => by rw [h1 q x y, m_c0_g]) 1280 s a b
  refine ⟨fun s a b => ⟨e1 s a b, ?_⟩, b1.1, b1.2, b2.1, b2.2, fun s hs => ?_⟩
  · unfold m_bf
    rw [if_pos ⟨a, b⟩]
    exact j_bfK_c (fun q x y => by rw [h2 q x y, m_c0_g]) 1280 s a b
  · have hr : 0 ≤ s ∧ s < 2560 := Classical.byContradiction fun q => hs (if_neg q)
    rw [← e1 s hr.1 hr.2] at hs
    exact j_le_la h1 1280 s hr.1 hr.2 hs
/-! walks -/
section
variable {nx bf : Int → Int} {st : Int}
theorem d_walk_0 (f : Nat) (s : Int) : (d_walk nx st f s)[0]? = some s := by
  obtain ⟨t, ht⟩ := d_walk_head nx st f s
  rw [ht]; rfl
theorem d_walk_step (f : Nat) : ∀ (s : Int) (i : Nat) (x y : Int), (d_walk nx st f s)[i]? = some x → (d_walk nx st f s)[i + 1]? = some y → y = nx x ∧ y ≠ -1 ∧ y ≠ st := by
  induction f with
  | zero =>
    intro s i x y h1 h2
    unfold d_walk at h2
    simp at h2
  | succ f ih =>
    intro s i x y h1 h2
    unfold d_walk at h1 h2
    split at h1
    · next q => rw [if_pos q] at h2; simp at h2
    · next q =>
      rw [if_neg q] at h2
      cases i with
      | zero =>
        simp at h1 h2
        have := d_walk_0 (nx := nx) (st := st) f (nx s)
        rw [h2] at this
        have e : y = nx s := Option.some.inj this
        rw [e, ← h1]
        exact ⟨rfl, fun z => q (Or.inl z), fun z => q (Or.inr z)⟩
      | succ i =>
        simp at h1 h2
        exact ih (nx s) i x y h1 h2
theorem d_walk_len (f : Nat) : ∀ s : Int, (d_walk nx st f s).length ≤ f + 1 ∧ ((d_walk nx st f s).length ≤ f → nx ((d_walk nx st f s).getLastD st) = -1 ∨ nx ((d_walk nx st f s).getLastD st) = st) := by
  induction f with
  | zero => intro s; unfold d_walk; simp
  | succ f ih =>
    intro s
    unfold d_walk
    split
    · next q => exact ⟨by simp, fun _ => by simpa using q⟩
    · next q =>
      have := ih (nx s)
      refine ⟨by simp; omega, fun h => ?_⟩
      simp at h
      have h2 := this.2 (by omega)
      obtain ⟨t, ht⟩ := d_walk_head nx st f (nx s)
      rw [ht] at h2 ⊢
      simpa using h2
theorem d_walk_mem {f : Nat} {s x : Int} (h : x ∈ d_walk nx st f s) : ∃ i : Nat, (d_walk nx st f s)[i]? = some x := List.mem_iff_getElem?.mp h
theorem n_inj (h : n_ok nx bf) {a b : Int} (ha : nx a ≠ -1) (hab : nx a = nx b) : a = b := by
  have h1 : 0 ≤ a := Classical.byContradiction fun q => ha (h.2.2 a (by omega)).1
  have h2 : 0 ≤ b := Classical.byContradiction fun q => ha (hab ▸ (h.2.2 b (by omega)).1)
  have h3 := h.1 a
  have e1 := (h.2.1 a (nx a) h1 (by omega)).mp rfl
  have e2 := (h.2.1 b (nx a) h2 (by omega)).mp hab.symm
  omega
theorem d_walk_range (h : n_ok nx bf) (h0 : 0 ≤ st) (h1 : st < 2560) {f : Nat} : ∀ x ∈ d_walk nx st f st, 0 ≤ x ∧ x < 2560 := by
  intro x hx
  obtain ⟨i, hi⟩ := d_walk_mem hx
  cases i with
  | zero =>
    rw [d_walk_0] at hi
    have : st = x := Option.some.inj hi
    omega
  | succ i =>
    have hlt := (List.getElem?_eq_some_iff.mp hi).1
    obtain ⟨y, hy⟩ : ∃ y, (d_walk nx st f st)[i]? = some y := ⟨_, List.getElem?_eq_getElem (by omega)⟩
    have h2 := d_walk_step f st i y x hy hi
    have h3 := h.1 y
    omega
theorem d_walk_apart (h : n_ok nx bf) {f : Nat} : ∀ (i j : Nat) (x y : Int), i < j → (d_walk nx st f st)[i]? = some x → (d_walk nx st f st)[j]? = some y → x ≠ y := by
  intro i
  induction i with
  | zero =>
    intro j x y hij h1 h2 e
    rw [d_walk_0] at h1
    have e1 : st = x := Option.some.inj h1
    obtain ⟨j, rfl⟩ : ∃ k, j = k + 1 := ⟨j - 1, by omega⟩
    have hlt := (List.getElem?_eq_some_iff.mp h2).1
    obtain ⟨z, hz⟩ : ∃ z, (d_walk nx st f st)[j]? = some z := ⟨_, List.getElem?_eq_getElem (by omega)⟩
    have := d_walk_step f st j z y hz h2
    omega
  | succ i ih =>
    intro j x y hij h1 h2 e
    obtain ⟨j, rfl⟩ : ∃ k, j = k + 1 := ⟨j - 1, by omega⟩
    have hlt1 := (List.getElem?_eq_some_iff.mp h1).1
    have hlt2 := (List.getElem?_eq_some_iff.mp h2).1
    obtain ⟨z, hz⟩ : ∃ z, (d_walk nx st f st)[j]? = some z := ⟨_, List.getElem?_eq_getElem (by omega)⟩
    obtain ⟨w, hw⟩ : ∃ w, (d_walk nx st f st)[i]? = some w := ⟨_, List.getElem?_eq_getElem (by omega)⟩
    have a1 := d_walk_step f st i w x hw h1
    have a2 := d_walk_step f st j z y hz h2
    have : w = z := n_inj h (by rw [← a1.1]; exact a1.2.1) (by rw [← a1.1, ← a2.1, e])
    exact ih j w z (by omega) hw hz this
theorem d_line_nodup (h : n_ok nx bf) : (d_line nx st).Nodup := by
  unfold d_line
  rw [List.nodup_iff_pairwise_ne, List.pairwise_iff_getElem]
  intro i j hi hj hij
  exact d_walk_apart h i j _ _ hij (List.getElem?_eq_getElem hi) (List.getElem?_eq_getElem hj)
theorem d_line_len (h : n_ok nx bf) (h0 : 0 ≤ st) (h1 : st < 2560) : (d_line nx st).length ≤ 2560 := by
  have := nd_len 2560 ((d_line nx st).map Int.toNat) (by
    have hn := d_line_nodup (st := st) h
    rw [List.nodup_iff_pairwise_ne] at *
    rw [List.pairwise_map]
    refine List.Pairwise.imp_of_mem ?_ hn
    intro a b ha hb hab e
    have := d_walk_range h h0 h1 a ha
    have := d_walk_range h h0 h1 b hb
    omega) (fun x hx => by
    obtain ⟨y, hy, rfl⟩ := List.mem_map.mp hx
    have := d_walk_range h h0 h1 y hy
    omega)
  simpa using this
theorem d_line_end (h : n_ok nx bf) (h0 : 0 ≤ st) (h1 : st < 2560) : nx ((d_line nx st).getLastD st) = -1 ∨ nx ((d_line nx st).getLastD st) = st := (d_walk_len 2560 st).2 (d_line_len h h0 h1)
theorem d_line_st : st ∈ d_line nx st := by
  obtain ⟨t, ht⟩ := d_walk_head nx st 2560 st
  unfold d_line
  rw [ht]
  exact List.mem_cons_self
theorem z_lastD : ∀ (l : List Int) (d : Int), l.getLastD d = d ∨ l.getLastD d ∈ l := by
  intro l
  induction l with
  | nil => intro d; exact Or.inl rfl
  | cons a t ih =>
    intro d
    rw [List.getLastD_cons]
    rcases ih a with h | h
    · exact Or.inr (by rw [h]; exact List.mem_cons_self)
    · exact Or.inr (List.mem_cons_of_mem _ h)
theorem d_line_last : (d_line nx st).getLastD st ∈ d_line nx st := by
  rcases z_lastD (d_line nx st) st with h | h
  · rw [h]; exact d_line_st
  · exact h
theorem d_line_at {i : Nat} {x : Int} (hx : (d_line nx st)[i]? = some x) (hl : (d_line nx st)[i + 1]? = none) : (d_line nx st).getLastD st = x := by
  have h1 := (List.getElem?_eq_some_iff.mp hx).1
  have h2 := List.getElem?_eq_none_iff.mp hl
  rw [List.getLastD_eq_getLast?, List.getLast?_eq_getElem?]
  rw [show (d_line nx st).length - 1 = i by omega, hx]
  rfl
/-- what a side of a line leads to is on the line -/
theorem d_line_succ (h : n_ok nx bf) (h0 : 0 ≤ st) (h1 : st < 2560) {x : Int} (hx : x ∈ d_line nx st) (hn : nx x ≠ -1) : nx x ∈ d_line nx st := by
  obtain ⟨i, hi⟩ := List.mem_iff_getElem?.mp hx
  cases hl : (d_line nx st)[i + 1]? with
  | none =>
    have e := d_line_at hi hl
    rcases d_line_end h h0 h1 with q | q
    · rw [e] at q; exact absurd q hn
    · rw [e] at q; rw [q]; exact d_line_st
  | some y =>
    have := d_walk_step 2560 st i x y hi hl
    rw [← this.1]
    exact List.mem_iff_getElem?.mpr ⟨i + 1, hl⟩
theorem d_line_pred (h : n_ok nx bf) {z : Int} (hz : nx z ≠ -1) (hm : nx z ∈ d_line nx st) : z ∈ d_line nx st ∨ nx z = st := by
  obtain ⟨i, hi⟩ := List.mem_iff_getElem?.mp hm
  cases i with
  | zero =>
    have := d_walk_0 (nx := nx) (st := st) 2560 st
    have e : some st = some (nx z) := by rw [← this]; exact hi
    exact Or.inr (Option.some.inj e).symm
  | succ i =>
    have hlt := (List.getElem?_eq_some_iff.mp hi).1
    obtain ⟨y, hy⟩ : ∃ y, (d_line nx st)[i]? = some y := ⟨_, List.getElem?_eq_getElem (by omega)⟩
    have a := d_walk_step 2560 st i y (nx z) hy hi
    have : z = y := n_inj h hz a.1
    rw [this]
    exact Or.inl (List.mem_iff_getElem?.mpr ⟨i, hy⟩)
theorem d_line_heads (h : n_ok nx bf) {x : Int} (hx : x ∈ d_line nx st) (hb : bf x = -1) : x = st := by
  obtain ⟨i, hi⟩ := List.mem_iff_getElem?.mp hx
  cases i with
  | zero =>
    have := d_walk_0 (nx := nx) (st := st) 2560 st
    have e : some st = some x := by rw [← this]; exact hi
    exact (Option.some.inj e).symm
  | succ i =>
    have hlt := (List.getElem?_eq_some_iff.mp hi).1
    obtain ⟨y, hy⟩ : ∃ y, (d_line nx st)[i]? = some y := ⟨_, List.getElem?_eq_getElem (by omega)⟩
    have a := d_walk_step 2560 st i y x hy hi
    have h2 : 0 ≤ y := Classical.byContradiction fun q => a.2.1 (a.1.trans (h.2.2 y (by omega)).1)
    have h3 := h.1 y
    have := (h.2.1 y x h2 (by omega)).mp a.1.symm
    omega
/-- on: what is on lines so far; whole lines alone -/
def d_on (nx bf : Int → Int) (on : Int → Bool) : Prop := (∀ x, on x = true → nx x ≠ -1 → on (nx x) = true) ∧ ∀ z, nx z ≠ -1 → on (nx z) = true → on z = true
theorem d_on_off (h : n_ok nx bf) {on : Int → Bool} (ho : d_on nx bf on) (hs : on st = false) : ∀ x ∈ d_line nx st, on x = false := by
  suffices H : ∀ (i : Nat) (x : Int), (d_line nx st)[i]? = some x → on x = false from fun x hx => by
    obtain ⟨i, hi⟩ := List.mem_iff_getElem?.mp hx
    exact H i x hi
  intro i
  induction i with
  | zero =>
    intro x hx
    have := d_walk_0 (nx := nx) (st := st) 2560 st
    have e : some st = some x := by rw [← this]; exact hx
    rw [← Option.some.inj e]; exact hs
  | succ i ih =>
    intro x hx
    have hlt := (List.getElem?_eq_some_iff.mp hx).1
    obtain ⟨y, hy⟩ : ∃ y, (d_line nx st)[i]? = some y := ⟨_, List.getElem?_eq_getElem (by omega)⟩
    have a := d_walk_step 2560 st i y x hy hx
    have b := ih y hy
    cases hc : on x
    · rfl
    · have := ho.2 y (by rw [← a.1]; exact a.2.1) (by rw [← a.1]; exact hc)
      rw [this] at b
      cases b
theorem d_on_add (h : n_ok nx bf) (h0 : 0 ≤ st) (h1 : st < 2560) {on : Int → Bool} (ho : d_on nx bf on) (hp : bf st = -1 ∨ nx ((d_line nx st).getLastD st) = st) : d_on nx bf (fun x => on x || decide (x ∈ d_line nx st)) := by
  refine ⟨fun x hx hn => ?_, fun z hz hx => ?_⟩
  · simp only [Bool.or_eq_true, decide_eq_true_eq] at *
    rcases hx with hx | hx
    · exact Or.inl (ho.1 x hx hn)
    · exact Or.inr (d_line_succ h h0 h1 hx hn)
  · simp only [Bool.or_eq_true, decide_eq_true_eq] at *
    rcases hx with hx | hx
    · exact Or.inl (ho.2 z hz hx)
    · rcases d_line_pred h hz hx with q | q
      · exact Or.inr q
      · rcases hp with hp | hp
        · have h2 : 0 ≤ z := Classical.byContradiction fun w => hz (h.2.2 z (by omega)).1
          have := (h.2.1 z st h2 h0).mp q
          omega
        · have : z = (d_line nx st).getLastD st := n_inj h hz (q.trans hp.symm)
          rw [this]
          exact Or.inr d_line_last
theorem n_ok_sw (h : n_ok nx bf) : n_ok bf nx := ⟨fun s => ⟨(h.1 s).2.2.1, (h.1 s).2.2.2, (h.1 s).1, (h.1 s).2.1⟩, fun s t a b => (h.2.1 t s b a).symm, fun s a => (h.2.2 s a).symm⟩
/-- off the lines that begin somewhere, every side comes back to itself -/
theorem d_back (h : n_ok nx bf) (h0 : 0 ≤ st) (h1 : st < 2560) {on : Int → Bool} (ho : d_on nx bf on) (hall : ∀ x, nx x ≠ -1 → bf x = -1 → on x = true) (hn : nx st ≠ -1) (hs : on st = false) : nx ((d_line nx st).getLastD st) = st := by
  have hsw := n_ok_sw h
  rcases d_line_end h h0 h1 with q | q
  case inr => exact q
  exfalso
  -- all of the backward line is off, and leads on
  have bk : ∀ (i : Nat) (x : Int), (d_line bf st)[i]? = some x → on x = false ∧ nx x ≠ -1 ∧ 0 ≤ x := by
    intro i
    induction i with
    | zero =>
      intro x hx
      have := d_walk_0 (nx := bf) (st := st) 2560 st
      have e : some st = some x := by rw [← this]; exact hx
      rw [← Option.some.inj e]; exact ⟨hs, hn, h0⟩
    | succ i ih =>
      intro x hx
      have hlt := (List.getElem?_eq_some_iff.mp hx).1
      obtain ⟨y, hy⟩ : ∃ y, (d_line bf st)[i]? = some y := ⟨_, List.getElem?_eq_getElem (by omega)⟩
      have a := d_walk_step 2560 st i y x hy hx
      have b := ih y hy
      have hb := h.1 y
      have e : nx x = y := (h.2.1 x y (by omega) b.2.2).mpr a.1.symm
      refine ⟨?_, by omega, by omega⟩
      cases hc : on x
      · rfl
      · have := ho.1 x hc (by omega)
        rw [e, b.1] at this
        cases this
  obtain ⟨i, hi⟩ := List.mem_iff_getElem?.mp (d_line_last (nx := bf) (st := st))
  have be := bk i _ hi
  rcases d_line_end hsw h0 h1 with w | w
  · have := hall _ be.2.1 w
    rw [be.1] at this
    cases this
  · -- the backward line is closed under nx
    have e1 : nx st = (d_line bf st).getLastD st := (h.2.1 st _ h0 be.2.2).mpr w
    have cl : ∀ x ∈ d_line bf st, nx x ∈ d_line bf st := by
      intro x hx
      obtain ⟨j, hj⟩ := List.mem_iff_getElem?.mp hx
      cases j with
      | zero =>
        have := d_walk_0 (nx := bf) (st := st) 2560 st
        have e : some st = some x := by rw [← this]; exact hj
        rw [← Option.some.inj e, e1]
        exact d_line_last
      | succ j =>
        have hlt := (List.getElem?_eq_some_iff.mp hj).1
        obtain ⟨y, hy⟩ : ∃ y, (d_line bf st)[j]? = some y := ⟨_, List.getElem?_eq_getElem (by omega)⟩
        have a := d_walk_step 2560 st j y x hy hj
        have b := bk j y hy
        have c := bk (j + 1) x hj
        have e : nx x = y := (h.2.1 x y c.2.2 b.2.2).mpr a.1.symm
        rw [e]
        exact List.mem_iff_getElem?.mpr ⟨j, hy⟩
    have sub : ∀ (j : Nat) (x : Int), (d_line nx st)[j]? = some x → x ∈ d_line bf st := by
      intro j
      induction j with
      | zero =>
        intro x hx
        have := d_walk_0 (nx := nx) (st := st) 2560 st
        have e : some st = some x := by rw [← this]; exact hx
        rw [← Option.some.inj e]; exact d_line_st
      | succ j ih =>
        intro x hx
        have hlt := (List.getElem?_eq_some_iff.mp hx).1
        obtain ⟨y, hy⟩ : ∃ y, (d_line nx st)[j]? = some y := ⟨_, List.getElem?_eq_getElem (by omega)⟩
        have a := d_walk_step 2560 st j y x hy hx
        rw [a.1]
        exact cl y (ih y hy)
    obtain ⟨j, hj⟩ := List.mem_iff_getElem?.mp (d_line_last (nx := nx) (st := st))
    have hm := sub j _ hj
    obtain ⟨k, hk⟩ := List.mem_iff_getElem?.mp hm
    exact (bk k _ hk).2.1 q
end
