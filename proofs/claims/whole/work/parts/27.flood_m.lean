/-! ways over neighbours; what a flood answers -/
/-- a way from p to q over neighbours, in n steps, on which the weight is nowhere above c -/
def w_way (T : Int → Bool) (K : Int → Int) (c : Int) : Nat → Int → Int → Prop
  | 0, p, q => p = q ∧ T p = true ∧ K p ≤ c
  | n + 1, p, q => T p = true ∧ K p ≤ c ∧ ∃ k : Int, 0 ≤ k ∧ k < 8 ∧ m_nb T p k ≠ -1 ∧ w_way T K c n (m_nb T p k) q
def w_con (T : Int → Bool) (K : Int → Int) (G : Int → Prop) (p c : Int) : Prop := ∃ (q : Int) (n : Nat), G q ∧ w_way T K c n p q
def w_fs (T : Int → Bool) (K : Int → Int) (G : Int → Prop) (p c : Int) : Prop := w_con T K G p c ∧ ∀ c' : Int, w_con T K G p c' → c ≤ c'
theorem w_fs_uniq {T : Int → Bool} {K : Int → Int} {G : Int → Prop} {p c d : Int} (h1 : w_fs T K G p c) (h2 : w_fs T K G p d) : c = d := Int.le_antisymm (h1.2 d h2.1) (h2.2 c h1.1)
theorem w_way_mono {T : Int → Bool} {K : Int → Int} {c d : Int} (hcd : c ≤ d) : ∀ {n : Nat} {p q : Int}, w_way T K c n p q → w_way T K d n p q := by
  intro n
  induction n with
  | zero => rintro p q ⟨h1, h2, h3⟩; exact ⟨h1, h2, by omega⟩
  | succ n ih => rintro p q ⟨h1, h2, k, h3, h4, h5, h6⟩; exact ⟨h1, by omega, k, h3, h4, h5, ih h6⟩
theorem w_way_snoc {T : Int → Bool} {K : Int → Int} {c k : Int} (h0 : 0 ≤ k) (h1 : k < 8) : ∀ {n : Nat} {p q : Int}, w_way T K c n p q → m_nb T q k ≠ -1 → K (m_nb T q k) ≤ c → w_way T K c (n + 1) p (m_nb T q k) := by
  intro n
  induction n with
  | zero =>
    rintro p q ⟨rfl, h2, h3⟩ h4 h5
    exact ⟨h2, h3, k, h0, h1, h4, rfl, (m_nb_th h4).1, h5⟩
  | succ n ih =>
    rintro p q ⟨h2, h3, j, h6, h7, h8, h9⟩ h4 h5
    exact ⟨h2, h3, j, h6, h7, h8, ih h9 h4 h5⟩
theorem w_way_start {T : Int → Bool} {K : Int → Int} {c : Int} {n : Nat} {p q : Int} (h : w_way T K c n p q) : T p = true ∧ K p ≤ c := by
  cases n with
  | zero => exact h.2
  | succ n => exact ⟨h.1, h.2.1⟩
/-- a way to the goal leaves what is done: a point that is reached, not done, no higher -/
theorem w_cut {T : Int → Bool} {K : Int → Int} {G R P : Int → Prop} {c : Int} (hP : ∀ q, P q → ¬ G q ∧ ∀ j : Int, 0 ≤ j → j < 8 → m_nb T q j ≠ -1 → R (m_nb T q j)) : ∀ {n : Nat} {p q : Int}, R p → w_way T K c n p q → G q → ∃ y, R y ∧ ¬ P y ∧ K y ≤ c := by
  intro n
  induction n with
  | zero =>
    rintro p q hR ⟨rfl, h2, h3⟩ hG
    exact ⟨p, hR, fun h => (hP p h).1 hG, h3⟩
  | succ n ih =>
    rintro p q hR ⟨h2, h3, j, h4, h5, h6, h7⟩ hG
    by_cases hp : P p
    · exact ih ((hP p hp).2 j h4 h5 h6) h7 hG
    · exact ⟨p, hR, hp, h3⟩
theorem nd_len : ∀ (n : Nat) (l : List Nat), l.Nodup → (∀ x ∈ l, x < n) → l.length ≤ n := by
  intro n
  induction n with
  | zero =>
    intro l _ h
    cases l with
    | nil => exact Nat.le_refl _
    | cons a l => exact absurd (h a List.mem_cons_self) (by omega)
  | succ n ih =>
    intro l hn h
    have h1 := ih (l.erase n) (hn.erase n) (fun x hx => by
      have h2 := (List.Nodup.mem_erase_iff hn).mp hx
      have h3 := h x h2.2
      omega)
    have h4 : l.length ≤ (l.erase n).length + 1 := by
      rw [List.length_erase]
      split <;> omega
    omega
theorem nd_len' {l : List Int} (hn : l.Nodup) (h : ∀ x ∈ l, 0 ≤ x ∧ x < 1280) : l.length ≤ 1280 := by
  have h1 := nd_len 1280 (l.map Int.toNat) (by
    rw [List.nodup_iff_pairwise_ne] at *
    rw [List.pairwise_map]
    refine List.Pairwise.imp_of_mem ?_ hn
    intro a b ha hb hab e
    have := h a ha
    have := h b hb
    omega) (fun x hx => by
    obtain ⟨y, hy, rfl⟩ := List.mem_map.mp hx
    have := h y hy
    omega)
  simpa using h1
theorem w_key_mod {sg : Int} {U : Int → Int} {n : Int} (h0 : 0 ≤ n) (h1 : n < 1280) : w_key sg U n % 1280 = n := by unfold w_key; omega
theorem w_key_le {sg : Int} {U : Int → Int} {a b : Int} (ha : 0 ≤ a) (hb : b < 1280) (h : w_key sg U a ≤ w_key sg U b) : sg * U a ≤ sg * U b := by unfold w_key at h; omega
def fl_R (rc : Nat → Int32) (q : Int) : Prop := 0 ≤ q ∧ q < 1280 ∧ z_g rc q ≠ 0
def fl_P (rc : Nat → Int32) (h : Nat → Int64) (k sg : Int) (U : Int → Int) (q : Int) : Prop := fl_R rc q ∧ ¬ hp_S h k (w_key sg U q)
/-- the flood's state: turn points are done, none a goal, none above worst; of z's neighbours those before kk are reached -/
def fl_I (T : Int → Bool) (U : Int → Int) (sg st : Int) (G : Int → Prop) (z kk turn worst k : Int) (h : Nat → Int64) (rc : Nat → Int32) : Prop :=
  hp_ok h k ∧ (∀ x, hp_S h k x → ∃ q, fl_R rc q ∧ x = w_key sg U q) ∧ (∀ q, fl_R rc q → T q = true) ∧ fl_R rc st ∧
  (∀ q, fl_P rc h k sg U q → sg * U q ≤ worst ∧ ¬ G q ∧ ∀ j : Int, 0 ≤ j → j < 8 → (q = z → j < kk) → m_nb T q j ≠ -1 → fl_R rc (m_nb T q j)) ∧
  (∀ q, fl_R rc q → ∃ n, w_way T (fun q => sg * U q) (max worst (sg * U q)) n st q) ∧
  (∀ c, w_con T (fun q => sg * U q) G st c → worst ≤ c) ∧
  (∃ l : List Int, l.Nodup ∧ (l.length : Int) = turn ∧ ∀ q, q ∈ l ↔ fl_P rc h k sg U q) ∧ (-8388608 ≤ worst ∧ worst ≤ 8388608)
section
variable {T : Int → Bool} {U : Int → Int} {sg st : Int} {G : Int → Prop} {z kk turn worst k : Int} {h h' : Nat → Int64} {rc : Nat → Int32}
theorem fl_closed (I : fl_I T U sg st G z 8 turn worst k h rc) : fl_I T U sg st G (-1) 0 turn worst k h rc := by
  obtain ⟨i1, i2, i3, i4, i5, i6⟩ := I
  exact ⟨i1, i2, i3, i4, fun q hq => ⟨(i5 q hq).1, (i5 q hq).2.1, fun j a b _ d => (i5 q hq).2.2 j a b (fun _ => b) d⟩, i6⟩
theorem fl_open (I : fl_I T U sg st G (-1) 0 turn worst k h rc) (q : Int) (hq : fl_P rc h k sg U q) : ¬ G q ∧ ∀ j : Int, 0 ≤ j → j < 8 → m_nb T q j ≠ -1 → fl_R rc (m_nb T q j) := by
  obtain ⟨-, -, -, -, i5, -⟩ := I
  exact ⟨(i5 q hq).2.1, fun j a b d => (i5 q hq).2.2 j a b (fun e => absurd hq.1.1 (by omega)) d⟩
theorem fl_pop (hU : ∀ p, T p = true → -8388608 ≤ sg * U p ∧ sg * U p ≤ 8388608) (I : fl_I T U sg st G (-1) 0 turn worst k h rc) (hk : 1 ≤ k) (ho : hp_ok h' (k - 1)) (hs : ∀ x, hp_S h' (k - 1) x ↔ hp_S h k x ∧ x ≠ z_gl h 0) :
    fl_R rc (z_gl h 0 % 1280) ∧ (¬ G (z_gl h 0 % 1280) → fl_P rc h' (k - 1) sg U (z_gl h 0 % 1280) ∧ fl_I T U sg st G (z_gl h 0 % 1280) 0 (turn + 1) (max worst (sg * U (z_gl h 0 % 1280))) (k - 1) h' rc) ∧ (G (z_gl h 0 % 1280) → w_fs T (fun q => sg * U q) G st (max worst (sg * U (z_gl h 0 % 1280)))) := by
  obtain ⟨i1, i2, i3, i4, i5, i6, i7, ⟨l, l1, l2, l3⟩, i9⟩ := id I
  obtain ⟨y, hy, ey⟩ := i2 (z_gl h 0) ⟨0, by omega, by omega, rfl⟩
  have hyz : z_gl h 0 % 1280 = y := by rw [ey]; exact w_key_mod hy.1 hy.2.1
  rw [hyz]
  have hT := i3 y hy
  have hb := hU y hT
  have lb : ∀ c, w_con T (fun q => sg * U q) G st c → max worst (sg * U y) ≤ c := by
    rintro c ⟨q, n, hG, hw⟩
    obtain ⟨x, x1, x2, x3⟩ := w_cut (fun q hq => fl_open I q hq) i4 hw hG
    have x4 : hp_S h k (w_key sg U x) := Classical.byContradiction fun hn => x2 ⟨x1, hn⟩
    obtain ⟨i, j0, j1, j2⟩ := x4
    have x5 := hp_min i1 i.toNat i (Nat.le_refl _) j0 j1
    rw [j2, ey] at x5
    have x6 := w_key_le hy.1 x1.2.1 x5
    have x7 := i7 c ⟨q, n, hG, hw⟩
    try dsimp only at x3
    omega
  have hP' : ∀ q, fl_P rc h' (k - 1) sg U q ↔ q = y ∨ fl_P rc h k sg U q := by
    intro q
    constructor
    · rintro ⟨a, b⟩
      by_cases hq : q = y
      · exact Or.inl hq
      · refine Or.inr ⟨a, fun hh => b ((hs _).mpr ⟨hh, fun e => hq ?_⟩)⟩
        rw [ey] at e
        have := congrArg (· % 1280) e
        try dsimp only at this
        rw [w_key_mod a.1 a.2.1, w_key_mod hy.1 hy.2.1] at this
        exact this
    · rintro (rfl | ⟨a, b⟩)
      · exact ⟨hy, fun hh => ((hs _).mp hh).2 ey.symm⟩
      · exact ⟨a, fun hh => b ((hs _).mp hh).1⟩
  have hyP : ¬ fl_P rc h k sg U y := fun q => q.2 ⟨0, by omega, by omega, ey⟩
  refine ⟨hy, fun hG => ⟨(hP' y).mpr (Or.inl rfl), ho, fun x hx => i2 x ((hs x).mp hx).1, i3, i4, fun q hq => ?_, fun q hq => ?_, lb, ⟨y :: l, ?_, ?_, fun q => ?_⟩, by omega, by omega⟩, fun hG => ⟨?_, lb⟩⟩
  · rcases (hP' q).mp hq with rfl | hq
    · exact ⟨by omega, hG, fun j a b d => absurd (d rfl) (by omega)⟩
    · have := i5 q hq
      exact ⟨by omega, this.2.1, fun j a b d e => (fl_open I q hq).2 j a b e⟩
  · obtain ⟨n, hn⟩ := i6 q hq
    exact ⟨n, w_way_mono (by omega) hn⟩
  · exact List.nodup_cons.mpr ⟨fun hh => hyP ((l3 y).mp hh), l1⟩
  · simp only [List.length_cons]; omega
  · rw [List.mem_cons, l3, hP']
  · obtain ⟨n, hn⟩ := i6 y hy
    exact ⟨y, n, hG, hn⟩
theorem fl_room (I : fl_I T U sg st G z kk turn worst k h rc) {q : Int} (h0 : 0 ≤ q) (h1 : q < 1280) (hq : ¬ fl_R rc q) : k < 1280 ∧ ¬ hp_S h k (w_key sg U q) := by
  obtain ⟨i1, i2, -⟩ := I
  have hfr : ¬ hp_S h k (w_key sg U q) := by
    intro hh
    obtain ⟨y, hy, ey⟩ := i2 _ hh
    have := congrArg (· % 1280) ey
    try dsimp only at this
    rw [w_key_mod h0 h1, w_key_mod hy.1 hy.2.1] at this
    exact hq (this ▸ hy)
  refine ⟨?_, hfr⟩
  have hnode : ∀ i : Int, 0 ≤ i → i < k → fl_R rc (z_gl h i % 1280) ∧ z_gl h i = w_key sg U (z_gl h i % 1280) := by
    intro i a b
    obtain ⟨y, hy, ey⟩ := i2 _ ⟨i, a, b, rfl⟩
    have e : z_gl h i % 1280 = y := by rw [ey]; exact w_key_mod hy.1 hy.2.1
    rw [e]
    exact ⟨hy, ey⟩
  have hl := nd_len' (l := q :: (List.range k.toNat).map (fun i : Nat => z_gl h (i : Int) % 1280)) (by
    refine List.nodup_cons.mpr ⟨fun hh => ?_, ?_⟩
    · obtain ⟨i, hi, e⟩ := List.mem_map.mp hh
      have := List.mem_range.mp hi
      exact hq (e ▸ (hnode i (by omega) (by omega)).1)
    · rw [List.nodup_iff_pairwise_ne, List.pairwise_map]
      refine List.Pairwise.imp_of_mem ?_ (List.nodup_iff_pairwise_ne.mp List.nodup_range)
      intro a b ha hb hab e
      have ha := List.mem_range.mp ha
      have hb := List.mem_range.mp hb
      have e1 := (hnode a (by omega) (by omega)).2
      have e2 := (hnode b (by omega) (by omega)).2
      rw [e, ← e2] at e1
      have := i1.2.2 a b (by omega) (by omega) (by omega) (by omega) e1
      omega) (fun x hx => by
    rcases List.mem_cons.mp hx with rfl | hx
    · exact ⟨h0, h1⟩
    · obtain ⟨i, hi, rfl⟩ := List.mem_map.mp hx
      omega)
  simp at hl
  omega
theorem fl_push {z j : Int} {rc : Nat → Int32} (hz : fl_P rc h k sg U z) (h0 : 0 ≤ j) (h1 : j < 8) (I : fl_I T U sg st G z j turn worst k h rc) (hn : m_nb T z j ≠ -1) (hr : z_g rc (m_nb T z j) = 0) (ho : hp_ok h' (k + 1)) (hs : ∀ x, hp_S h' (k + 1) x ↔ hp_S h k x ∨ x = w_key sg U (m_nb T z j)) :
    fl_P (z_s rc (m_nb T z j) 1) h' (k + 1) sg U z ∧ fl_I T U sg st G z (j + 1) turn worst (k + 1) h' (z_s rc (m_nb T z j) 1) := by
  obtain ⟨i1, i2, i3, i4, i5, i6, i7, ⟨l, l1, l2, l3⟩, i9⟩ := id I
  have hb := m_nb_th hn
  generalize ey : m_nb T z j = y at *
  have hR' : ∀ q, fl_R (z_s rc y 1) q ↔ fl_R rc q ∨ q = y := by
    intro q
    unfold fl_R
    constructor
    · rintro ⟨a, b, c⟩
      rw [z_gs (by decide) hb.2.1 a] at c
      by_cases e : q = y
      · exact Or.inr e
      · rw [if_neg e] at c
        exact Or.inl ⟨a, b, c⟩
    · rintro (⟨a, b, c⟩ | rfl)
      · refine ⟨a, b, ?_⟩
        rw [z_gs (by decide) hb.2.1 a]
        split
        · decide
        · exact c
      · refine ⟨hb.2.1, hb.2.2, ?_⟩
        rw [z_gs (by decide) hb.2.1 hb.2.1, if_pos rfl]
        decide
  have hyR : ¬ fl_R rc y := fun hh => hh.2.2 hr
  have hP' : ∀ q, fl_P (z_s rc y 1) h' (k + 1) sg U q ↔ fl_P rc h k sg U q := by
    intro q
    constructor
    · rintro ⟨a, b⟩
      rcases (hR' q).mp a with a | rfl
      · exact ⟨a, fun hh => b ((hs _).mpr (Or.inl hh))⟩
      · exact absurd ((hs _).mpr (Or.inr rfl)) b
    · rintro ⟨a, b⟩
      refine ⟨(hR' q).mpr (Or.inl a), fun hh => ?_⟩
      rcases (hs _).mp hh with hh | hh
      · exact b hh
      · have := congrArg (· % 1280) hh
        try dsimp only at this
        rw [w_key_mod a.1 a.2.1, w_key_mod hb.2.1 hb.2.2] at this
        exact hyR (this ▸ a)
  refine ⟨(hP' z).mpr hz, ho, fun x hx => ?_, fun q hq => ?_, (hR' st).mpr (Or.inl i4), fun q hq => ?_, fun q hq => ?_, i7, ⟨l, l1, l2, fun q => (l3 q).trans (hP' q).symm⟩, i9⟩
  · rcases (hs x).mp hx with hx | rfl
    · obtain ⟨q, a, b⟩ := i2 x hx
      exact ⟨q, (hR' q).mpr (Or.inl a), b⟩
    · exact ⟨y, (hR' y).mpr (Or.inr rfl), rfl⟩
  · rcases (hR' q).mp hq with a | rfl
    · exact i3 q a
    · exact hb.1
  · have hq := (hP' q).mp hq
    have := i5 q hq
    refine ⟨this.1, this.2.1, fun i a b c d => ?_⟩
    by_cases e : q = z ∧ i = j
    · rw [e.1, e.2, ey]
      exact (hR' y).mpr (Or.inr rfl)
    · refine (hR' _).mpr (Or.inl (this.2.2 i a b (fun q1 => ?_) d))
      have := c q1
      have : i ≠ j := fun q2 => e ⟨q1, q2⟩
      omega
  · rcases (hR' q).mp hq with a | rfl
    · exact i6 q a
    · obtain ⟨n, hw⟩ := i6 z hz.1
      have hzw := (i5 z hz).1
      have e1 : max worst (sg * U z) = worst := by omega
      rw [e1] at hw
      have := w_way_snoc (k := j) h0 h1 (w_way_mono (d := max worst (sg * U q)) (by omega) hw) (by rw [ey]; exact hn)
      rw [ey] at this
      exact ⟨n + 1, this (show sg * U q ≤ _ by omega)⟩
theorem fl_skip {z j : Int} (h0 : 0 ≤ j) (I : fl_I T U sg st G z j turn worst k h rc) (hn : m_nb T z j = -1 ∨ fl_R rc (m_nb T z j)) : fl_I T U sg st G z (j + 1) turn worst k h rc := by
  obtain ⟨i1, i2, i3, i4, i5, i6⟩ := I
  refine ⟨i1, i2, i3, i4, fun q hq => ⟨(i5 q hq).1, (i5 q hq).2.1, fun i a b c d => ?_⟩, i6⟩
  by_cases e : q = z ∧ i = j
  · rw [e.1, e.2] at d ⊢
    rcases hn with hn | hn
    · exact absurd hn d
    · exact hn
  · refine (i5 q hq).2.2 i a b (fun q1 => ?_) d
    have := c q1
    have : i ≠ j := fun q2 => e ⟨q1, q2⟩
    omega
theorem fl_none (I : fl_I T U sg st G (-1) 0 turn worst k h rc) (hk : k ≤ 0) (c : Int) : ¬ w_con T (fun q => sg * U q) G st c := by
  rintro ⟨q, n, hG, hw⟩
  obtain ⟨x, x1, x2, x3⟩ := w_cut (fun q hq => fl_open I q hq) I.2.2.2.1 hw hG
  exact x2 ⟨x1, fun ⟨i, a, b, _⟩ => by omega⟩
theorem fl_turns (I : fl_I T U sg st G (-1) 0 turn worst k h rc) (ht : 1280 ≤ turn) : k ≤ 0 := by
  obtain ⟨i1, i2, i3, i4, i5, i6, i7, ⟨l, l1, l2, l3⟩, i9⟩ := I
  refine Classical.byContradiction fun hk => ?_
  obtain ⟨y, hy, ey⟩ := i2 (z_gl h 0) ⟨0, by omega, by omega, rfl⟩
  have := nd_len' (l := y :: l) (List.nodup_cons.mpr ⟨fun hh => ((l3 y).mp hh).2 ⟨0, by omega, by omega, ey⟩, l1⟩) (fun x hx => by
    rcases List.mem_cons.mp hx with rfl | hx
    · exact ⟨hy.1, hy.2.1⟩
    · have := ((l3 x).mp hx).1
      exact ⟨this.1, this.2.1⟩)
  simp at this
  omega
theorem fl_init {rc0 : Nat → Int32} (hU : ∀ p, T p = true → -8388608 ≤ sg * U p ∧ sg * U p ≤ 8388608) (hst : T st = true) (h0 : 0 ≤ st) (h1 : st < 1280) (hz : ∀ q : Int, 0 ≤ q → q < 1280 → z_g rc0 q = 0) (ho : hp_ok h' 1) (hs : ∀ x, hp_S h' 1 x ↔ x = w_key sg U st) : fl_I T U sg st G (-1) 0 0 (-8388608) 1 h' (z_s rc0 st 1) := by
  have hR : ∀ q, fl_R (z_s rc0 st 1) q ↔ q = st := by
    intro q
    unfold fl_R
    constructor
    · rintro ⟨a, b, c⟩
      rw [z_gs (by decide) h0 a] at c
      by_cases e : q = st
      · exact e
      · rw [if_neg e, hz q a b] at c
        exact absurd rfl c
    · rintro rfl
      refine ⟨h0, h1, ?_⟩
      rw [z_gs (by decide) h0 h0, if_pos rfl]
      decide
  have hP : ∀ q, ¬ fl_P (z_s rc0 st 1) h' 1 sg U q := fun q hq => hq.2 ((hs _).mpr (by rw [(hR q).mp hq.1]))
  refine ⟨ho, fun x hx => ⟨st, (hR st).mpr rfl, (hs x).mp hx⟩, fun q hq => by rw [(hR q).mp hq]; exact hst, (hR st).mpr rfl, fun q hq => absurd hq (hP q), fun q hq => ?_, ?_, ⟨[], List.nodup_nil, rfl, fun q => ⟨fun hh => absurd hh List.not_mem_nil, fun hh => absurd hh (hP q)⟩⟩, by decide, by decide⟩
  · rw [(hR q).mp hq]
    exact ⟨0, rfl, hst, show sg * U st ≤ _ by omega⟩
  · rintro c ⟨q, n, hG, hw⟩
    have := w_way_start hw
    have h2 := hU st hst
    have h3 : sg * U st ≤ c := this.2
    omega
end
