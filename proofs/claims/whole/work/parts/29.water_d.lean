/-! streams: what flows to a point -/
def st_to (T : Int → Bool) (U : Int → Int) : Nat → Int → Int → Prop
  | 0, q, n => q = n
  | k + 1, q, n => m_dn T U q ≠ -1 ∧ st_to T U k (m_dn T U q) n
def st_ans (T : Int → Bool) (U : Int → Int) (n r : Int) : Prop := ∃ l : List Int, l.Nodup ∧ (∀ q, q ∈ l ↔ T q = true ∧ ∃ k, st_to T U k q n) ∧ r = (l.length : Int)
theorem z_back : ∀ k : Fin 8, z_rs ((k.val + 4) % 8) = -z_rs k.val ∧ z_cs ((k.val + 4) % 8) = -z_cs k.val := by decide
theorem z_ways : ∀ k j : Fin 8, z_rs k.val = z_rs j.val → z_cs k.val = z_cs j.val → k = j := by decide
theorem m_nb_eq {T : Int → Bool} {n k : Int} (h : m_nb T n k ≠ -1) : m_nb T n k = 40 * (n / 40 + z_rs k.toNat) + (n % 40 + z_cs k.toNat) ∧ 0 ≤ n / 40 + z_rs k.toNat ∧ n / 40 + z_rs k.toNat < 32 ∧ 0 ≤ n % 40 + z_cs k.toNat ∧ n % 40 + z_cs k.toNat < 40 := by
  obtain ⟨h1, h2, h3, h4, h5, h6⟩ := m_no_some h
  exact ⟨h1, h2, h3, h4, h5⟩
theorem m_nb_back {T : Int → Bool} {p j : Int} (hT : T p = true) (hp0 : 0 ≤ p) (hp1 : p < 1280) (h0 : 0 ≤ j) (h1 : j < 8) (h : m_nb T p j ≠ -1) : m_nb T (m_nb T p j) ((j + 4) % 8) = p := by
  obtain ⟨e, a, b, c, d⟩ := m_nb_eq h
  have hb := z_back ⟨j.toNat, by omega⟩
  dsimp only at hb
  have ej : ((j + 4) % 8).toNat = (j.toNat + 4) % 8 := by omega
  have e1 : (m_nb T p j) / 40 = p / 40 + z_rs j.toNat := by rw [e]; omega
  have e2 : (m_nb T p j) % 40 = p % 40 + z_cs j.toNat := by rw [e]; omega
  have ep : 40 * (p / 40) + p % 40 = p := by omega
  unfold m_nb at e1 e2 ⊢
  rw [e1, e2, ej, hb.1, hb.2]
  have x1 : p / 40 + z_rs j.toNat + -z_rs j.toNat = p / 40 := by omega
  have x2 : p % 40 + z_cs j.toNat + -z_cs j.toNat = p % 40 := by omega
  rw [x1, x2]
  unfold m_no
  rw [if_pos ⟨by omega, by omega, by omega, by omega, by rw [ep]; exact hT⟩, ep]
theorem m_nb_inj {T : Int → Bool} {n k j : Int} (h0 : 0 ≤ k) (h1 : k < 8) (h2 : 0 ≤ j) (h3 : j < 8) (hk : m_nb T n k ≠ -1) (h : m_nb T n k = m_nb T n j) : k = j := by
  obtain ⟨e, a, b, c, d⟩ := m_nb_eq hk
  obtain ⟨e', a', b', c', d'⟩ := m_nb_eq (h ▸ hk)
  rw [e, e'] at h
  have := z_ways ⟨k.toNat, by omega⟩ ⟨j.toNat, by omega⟩ (show z_rs k.toNat = z_rs j.toNat by omega) (show z_cs k.toNat = z_cs j.toNat by omega)
  have := congrArg Fin.val this
  dsimp only at this
  omega
theorem m_dnK_nb (T : Int → Bool) (U : Int → Int) (n : Int) (k : Nat) : (m_dnK T U n k).2 ≠ -1 → ∃ j : Int, 0 ≤ j ∧ j < k ∧ (m_dnK T U n k).2 = m_nb T n j := by
  induction k with
  | zero => intro h; exact absurd rfl h
  | succ k ih =>
    unfold m_dnK
    have up : (∃ j : Int, 0 ≤ j ∧ j < k ∧ (m_dnK T U n k).2 = m_nb T n j) → ∃ j : Int, 0 ≤ j ∧ j < ((k + 1 : Nat) : Int) ∧ (m_dnK T U n k).2 = m_nb T n j := fun ⟨j, a, b, c⟩ => ⟨j, a, by omega, c⟩
    split
    · exact fun h => up (ih h)
    · split
      · exact fun h => up (ih h)
      · split
        · exact fun _ => ⟨k, by omega, by omega, rfl⟩
        · exact fun h => up (ih h)
theorem m_dn_nb {T : Int → Bool} {U : Int → Int} {n : Int} (h : m_dn T U n ≠ -1) : ∃ j : Int, 0 ≤ j ∧ j < 8 ∧ m_dn T U n = m_nb T n j := m_dnK_nb T U n 8 h
theorem st_to_le {T : Int → Bool} {U : Int → Int} (hU : ∀ p, T p = true → -8388608 ≤ U p ∧ U p ≤ 8388608) : ∀ {k : Nat} {q n : Int}, T q = true → st_to T U k q n → U n ≤ U q := by
  intro k
  induction k with
  | zero => rintro q n _ rfl; exact Int.le_refl _
  | succ k ih =>
    rintro q n hT ⟨h1, h2⟩
    have := m_dn_th hU hT h1
    have := ih this.1 h2
    omega
/-- the queue: k of its points are looked at, of the next one w ways -/
def st_I (T : Int → Bool) (U : Int → Int) (n k w size : Int) (f : Nat → Int32) : Prop :=
  (1 ≤ size ∧ size ≤ 1280 ∧ 0 ≤ k ∧ k ≤ size) ∧ z_g f 0 = n ∧ (∀ i : Int, 0 ≤ i → i < size → T (z_g f i) = true ∧ 0 ≤ z_g f i ∧ z_g f i < 1280 ∧ ∃ m, st_to T U m (z_g f i) n) ∧
  (∀ i j : Int, 0 ≤ i → i < size → 0 ≤ j → j < size → z_g f i = z_g f j → i = j) ∧
  (∀ i : Int, 0 < i → i < size → ∃ i' : Int, 0 ≤ i' ∧ i' ≤ k ∧ i' < size ∧ m_dn T U (z_g f i) = z_g f i' ∧ (i' = k → ∃ w' : Int, 0 ≤ w' ∧ w' < w ∧ z_g f i = m_nb T (z_g f k) w')) ∧
  (∀ i : Int, 0 ≤ i → i < k → ∀ p, T p = true → m_dn T U p = z_g f i → ∃ j : Int, 0 ≤ j ∧ j < size ∧ z_g f j = p) ∧
  (k < size → ∀ w' : Int, 0 ≤ w' → w' < w → m_nb T (z_g f k) w' ≠ -1 → m_dn T U (m_nb T (z_g f k) w') = z_g f k → ∃ j : Int, 0 ≤ j ∧ j < size ∧ z_g f j = m_nb T (z_g f k) w')
theorem st_list {f : Nat → Int32} {size : Int} (h0 : 0 ≤ size) (hi : ∀ i j : Int, 0 ≤ i → i < size → 0 ≤ j → j < size → z_g f i = z_g f j → i = j) : ∃ l : List Int, l.Nodup ∧ (l.length : Int) = size ∧ ∀ q, q ∈ l ↔ ∃ j : Int, 0 ≤ j ∧ j < size ∧ z_g f j = q := by
  refine ⟨(List.range size.toNat).map (fun i : Nat => z_g f (i : Int)), ?_, by simp; omega, fun q => ⟨fun h => ?_, ?_⟩⟩
  · rw [List.nodup_iff_pairwise_ne, List.pairwise_map]
    refine List.Pairwise.imp_of_mem ?_ (List.nodup_iff_pairwise_ne.mp List.nodup_range)
    intro a b ha hb hab e
    have ha := List.mem_range.mp ha
    have hb := List.mem_range.mp hb
    have := hi a b (by omega) (by omega) (by omega) (by omega) e
    omega
  · obtain ⟨i, a, b⟩ := List.mem_map.mp h
    have := List.mem_range.mp a
    exact ⟨i, by omega, by omega, b⟩
  · rintro ⟨j, a, b, c⟩
    exact List.mem_map.mpr ⟨j.toNat, List.mem_range.mpr (by omega), by rw [← c]; congr 1; omega⟩
theorem st_full {T : Int → Bool} {U : Int → Int} {n k w size : Int} {f : Nat → Int32} (I : st_I T U n k w size f) (h : 1280 ≤ size) {p : Int} (h0 : 0 ≤ p) (h1 : p < 1280) : ∃ j : Int, 0 ≤ j ∧ j < size ∧ z_g f j = p := by
  obtain ⟨l, l1, l2, l3⟩ := st_list (by omega) I.2.2.2.1
  refine Classical.byContradiction fun hn => ?_
  have := nd_len' (l := p :: l) (List.nodup_cons.mpr ⟨fun q => hn ((l3 p).mp q), l1⟩) (fun x hx => by
    rcases List.mem_cons.mp hx with rfl | hx
    · exact ⟨h0, h1⟩
    · obtain ⟨j, a, b, c⟩ := (l3 x).mp hx
      have := I.2.2.1 j a b
      omega)
  simp at this
  omega
theorem st_end {T : Int → Bool} {U : Int → Int} {n k size : Int} {f : Nat → Int32} (hU : ∀ p, T p = true → -8388608 ≤ U p ∧ U p ≤ 8388608) (I : st_I T U n k 0 size f) (h : size ≤ k) : st_ans T U n size := by
  obtain ⟨l, l1, l2, l3⟩ := st_list (by have := I.1; omega) I.2.2.2.1
  refine ⟨l, l1, fun q => ⟨fun hq => ?_, ?_⟩, l2.symm⟩
  · obtain ⟨j, a, b, rfl⟩ := (l3 q).mp hq
    have := I.2.2.1 j a b
    exact ⟨this.1, this.2.2.2⟩
  · rintro ⟨hT, m, hm⟩
    refine (l3 q).mpr ?_
    induction m generalizing q with
    | zero =>
      have e : q = n := hm
      exact ⟨0, by omega, by have := I.1; omega, by rw [e]; exact I.2.1⟩
    | succ m ih =>
      obtain ⟨a, b⟩ := hm
      obtain ⟨j, c, d, e⟩ := ih (m_dn T U q) (m_dn_th hU hT a).1 b
      exact I.2.2.2.2.2.1 j c (by omega) q hT e.symm
theorem st_next {T : Int → Bool} {U : Int → Int} {n k size : Int} {f : Nat → Int32} (hT : ∀ p, T p = true → 0 ≤ p ∧ p < 1280) (hk : k < size) (I : st_I T U n k 8 size f) : st_I T U n (k + 1) 0 size f := by
  obtain ⟨i1, i2, i3, i4, i5, i6, i7⟩ := I
  refine ⟨by omega, i2, i3, i4, fun i a b => ?_, fun i a b p c d => ?_, fun _ w' a b => absurd b (by omega)⟩
  · obtain ⟨i', x1, x2, x3, x4, x5⟩ := i5 i a b
    exact ⟨i', x1, by omega, x3, x4, fun e => absurd e (by omega)⟩
  · by_cases e : i = k
    · subst e
      have hne : m_dn T U p ≠ -1 := by rw [d]; have := i3 i a hk; omega
      obtain ⟨j, y1, y2, y3⟩ := m_dn_nb hne
      have hpp := hT p c
      have y4 := m_nb_back c hpp.1 hpp.2 y1 y2 (y3 ▸ hne)
      rw [← y3, d] at y4
      have := i7 hk ((j + 4) % 8) (by omega) (by omega)
      rw [y4] at this
      exact this (by omega) d
    · exact i6 i a (by omega) p c d
theorem st_skip {T : Int → Bool} {U : Int → Int} {n k w size : Int} {f : Nat → Int32} (I : st_I T U n k w size f) (h : m_nb T (z_g f k) w ≠ -1 → m_dn T U (m_nb T (z_g f k) w) = z_g f k → ∃ j : Int, 0 ≤ j ∧ j < size ∧ z_g f j = m_nb T (z_g f k) w) : st_I T U n k (w + 1) size f := by
  obtain ⟨i1, i2, i3, i4, i5, i6, i7⟩ := I
  refine ⟨i1, i2, i3, i4, fun i a b => ?_, i6, fun hk w' a b c d => ?_⟩
  · obtain ⟨i', x1, x2, x3, x4, x5⟩ := i5 i a b
    exact ⟨i', x1, x2, x3, x4, fun e => by obtain ⟨w', y1, y2, y3⟩ := x5 e; exact ⟨w', y1, by omega, y3⟩⟩
  · by_cases e : w' = w
    · subst e; exact h c d
    · exact i7 hk w' a (by omega) c d
theorem st_add {T : Int → Bool} {U : Int → Int} {n k w size : Int} {f : Nat → Int32} (hU : ∀ p, T p = true → -8388608 ≤ U p ∧ U p ≤ 8388608) (hk : k < size) (hs : size < 1280) (h0 : 0 ≤ w) (h1 : w < 8) (I : st_I T U n k w size f) (hn : m_nb T (z_g f k) w ≠ -1) (hd : m_dn T U (m_nb T (z_g f k) w) = z_g f k) : st_I T U n k (w + 1) (size + 1) (z_s f size (m_nb T (z_g f k) w)) := by
  obtain ⟨i1, i2, i3, i4, i5, i6, i7⟩ := I
  have hb := m_nb_th hn
  have hkk := i3 k i1.2.2.1 hk
  generalize ey : m_nb T (z_g f k) w = y at *
  have g1 : ∀ i : Int, 0 ≤ i → i < size → z_g (z_s f size y) i = z_g f i := fun i a b => by rw [z_gs ⟨by omega, by omega⟩ (by omega) a, if_neg (by omega)]
  have g2 : z_g (z_s f size y) size = y := by rw [z_gs ⟨by omega, by omega⟩ (by omega) (by omega), if_pos rfl]
  have gk := g1 k i1.2.2.1 hk
  have hmem : ∀ p, (∃ j : Int, 0 ≤ j ∧ j < size ∧ z_g f j = p) → ∃ j : Int, 0 ≤ j ∧ j < size + 1 ∧ z_g (z_s f size y) j = p := fun p ⟨j, a, b, c⟩ => ⟨j, a, by omega, by rw [g1 j a b]; exact c⟩
  have hnew : ∀ i : Int, 0 ≤ i → i < size → z_g f i ≠ y := by
    intro i a b e
    by_cases hi : i = 0
    · rw [hi, i2] at e
      obtain ⟨m, hm⟩ := hkk.2.2.2
      have u1 := st_to_le hU hkk.1 hm
      have u2 := (m_dn_th hU hb.1 (by omega)).2
      rw [hd] at u2
      rw [e] at u1
      omega
    · obtain ⟨i', x1, x2, x3, x4, x5⟩ := i5 i (by omega) b
      rw [e, hd] at x4
      have := i4 k i' i1.2.2.1 hk x1 x3 x4
      obtain ⟨w', y1, y2, y3⟩ := x5 this.symm
      rw [e, ← ey] at y3
      have := m_nb_inj h0 h1 y1 (by omega) (by omega) y3
      omega
  refine ⟨by omega, by rw [g1 0 (by omega) (by omega)]; exact i2, fun i a b => ?_, fun i j a b c d e => ?_, fun i a b => ?_, fun i a b p c d => ?_, fun _ w' a b c d => ?_⟩
  · by_cases e : i = size
    · rw [e, g2]
      obtain ⟨m, hm⟩ := hkk.2.2.2
      exact ⟨hb.1, hb.2.1, hb.2.2, m + 1, by omega, by rw [hd]; exact hm⟩
    · rw [g1 i a (by omega)]
      exact i3 i a (by omega)
  · by_cases e1 : i = size
    · by_cases e2 : j = size
      · omega
      · rw [e1, g2, g1 j c (by omega)] at e
        exact absurd e.symm (hnew j c (by omega))
    · by_cases e2 : j = size
      · rw [e2, g2, g1 i a (by omega)] at e
        exact absurd e (hnew i a (by omega))
      · rw [g1 i a (by omega), g1 j c (by omega)] at e
        exact i4 i j a (by omega) c (by omega) e
  · by_cases e : i = size
    · rw [e, g2]
      exact ⟨k, i1.2.2.1, Int.le_refl _, by omega, by rw [gk]; exact hd, fun _ => ⟨w, h0, by omega, by rw [gk, ey]⟩⟩
    · obtain ⟨i', x1, x2, x3, x4, x5⟩ := i5 i a (by omega)
      rw [g1 i (by omega) (by omega)]
      exact ⟨i', x1, x2, by omega, by rw [g1 i' x1 x3]; exact x4, fun e => by obtain ⟨w', y1, y2, y3⟩ := x5 e; exact ⟨w', y1, by omega, by rw [gk]; exact y3⟩⟩
  · rw [g1 i a (by omega)] at d
    exact hmem p (i6 i a b p c d)
  · rw [gk] at c d ⊢
    by_cases e : w' = w
    · rw [e, ey]
      exact ⟨size, by omega, by omega, g2⟩
    · exact hmem _ (i7 hk w' a (by omega) c d)
theorem st_init {T : Int → Bool} {U : Int → Int} {n : Int} {f : Nat → Int32} (hT : T n = true) (h0 : 0 ≤ n) (h1 : n < 1280) : st_I T U n 0 0 1 (z_s f 0 n) := by
  have g : z_g (z_s f 0 n) 0 = n := by rw [z_gs ⟨by omega, by omega⟩ (by omega) (by omega), if_pos rfl]
  refine ⟨by omega, g, fun i a b => ?_, fun i j a b c d _ => by omega, fun i a b => absurd b (by omega), fun i a b => absurd b (by omega), fun _ w' a b => absurd b (by omega)⟩
  have : i = 0 := by omega
  rw [this, g]
  exact ⟨hT, h0, h1, 0, rfl⟩
def vc_X6_streamAt (w_queue : Nat → Int32) (g_units : Nat → Int32) (n : Int) (Q : Int → (Nat → Int32) → Prop) : Prop :=
(∀ f1 : Nat → Int32, f1 = z_s w_queue 0 n → (∀ L12 : Int → Int → (Nat → Int32) → Prop,
(∀ (x12_4 : Int) (x12_3 : Int) (y12_wa_queue : Nat → Int32), z_in x12_4 → z_in x12_3 → ((x12_4 ≥ x12_3 → Q x12_3 y12_wa_queue) ∧
(x12_4 < x12_3 → ((x12_4 ≥ 1280 → Q x12_3 y12_wa_queue) ∧
(x12_4 < 1280 → (∀ L29 : Int → Int → (Nat → Int32) → Prop,
(∀ (x29_5 : Int) (x29_3 : Int) (y29_wa_queue : Nat → Int32), z_in x29_5 → z_in x29_3 → ((x29_5 ≥ 8 → L12 (x12_4 + 1) x29_3 y29_wa_queue) ∧
(x29_5 < 8 → (0 ≤ x12_4 ∧ x12_4 < 1280) ∧ (0 ≤ (z_g y29_wa_queue x12_4) ∧ (z_g y29_wa_queue x12_4) < 1280) ∧ (0 ≤ x29_5 ∧ x29_5 < 8) ∧ (∀ (r6 : Int), z_in r6 → (r6 = m_nb (g_th g_units) (z_g y29_wa_queue x12_4) x29_5) → ((r6 = -1 → L29 (x29_5 + 1) x29_3 y29_wa_queue) ∧
(r6 ≠ -1 → ((x29_3 ≥ 1280 → L29 (x29_5 + 1) x29_3 y29_wa_queue) ∧
(x29_3 < 1280 → (0 ≤ r6 ∧ r6 < 1280) ∧ (g_ok g_units) ∧ (g_th g_units r6 = true) ∧ (∀ (r10 : Int), z_in r10 → (r10 = m_dn (g_th g_units) (g_at g_units) r6) → ((r10 ≠ z_g y29_wa_queue x12_4 → L29 (x29_5 + 1) x29_3 y29_wa_queue) ∧
(r10 = z_g y29_wa_queue x12_4 → (0 ≤ x29_3 ∧ x29_3 < 1280) ∧ (∀ f12 : Nat → Int32, f12 = z_s y29_wa_queue x29_3 r6 → L29 (x29_5 + 1) (x29_3 + 1) f12))))))))))) → L29 x29_5 x29_3 y29_wa_queue) →
L29 0 x12_3 y12_wa_queue))))) → L12 x12_4 x12_3 y12_wa_queue) →
L12 0 1 f1))
set_option maxHeartbeats 4000000 in
set_option maxRecDepth 100000 in
theorem wk_X6_streamAt (l : Launch) (D : va_G) (cA : Nat → ClassId) (t1 t2 : Nat) (w : Nat) (wa_queue : Nat) (w_queue : Nat → Int32) (wa_heap : Nat) (w_heap : Nat → Int64) (wa_reached : Nat) (w_reached : Nat → Int32) (w_heapSize : Int) (g : Nat) (ga_units : Nat) (g_units : Nat → Int32) (ga_lengths : Nat) (g_lengths : Nat → Int32) (ga_offsets : Nat) (g_offsets : Nat → Int32) (g_step : Int) (n : Int) (h_w_heapSize : z_in w_heapSize) (h_g_step : z_in g_step) (h_n : z_in n) (Q : Int → (Nat → Int32) → Prop) (hv : vc_X6_streamAt w_queue g_units n Q) : Met l yX6_streamAt wsX6_streamAt ({ frames := 4, cells := 0, slots := 0, locals := 96 } : Room) (va_Pc [.ref w, .ref g, .int (z_i n)] (z_M1 D cA t1 t2 [(w, .inr (4, [.ref wa_queue, .ref wa_heap, .ref wa_reached, .int (z_i w_heapSize)])), (wa_queue, .inl (cA 1, 1280, .inl w_queue)), (wa_heap, .inl (cA 2, 1280, .inr (.inl w_heap))), (wa_reached, .inl (cA 0, 1280, .inl w_reached)), (g, .inr (1, [.ref ga_units, .ref ga_lengths, .ref ga_offsets, .int (z_i g_step)])), (ga_units, .inl (cA 1, 1280, .inl g_units)), (ga_lengths, .inl (cA 1, 32, .inl g_lengths)), (ga_offsets, .inl (cA 1, 32, .inl g_offsets))])) (va_Qi (z_mi (fun v (u : (Nat → Int32)) => Q v u)) (fun (u : (Nat → Int32)) t => va_P D vwCl [(w, .inr (4, [.ref wa_queue, .ref wa_heap, .ref wa_reached, .int (z_i w_heapSize)])), (wa_queue, .inl (cA 1, 1280, .inl u)), (wa_heap, .inl (cA 2, 1280, .inr (.inl w_heap))), (wa_reached, .inl (cA 0, 1280, .inl w_reached)), (g, .inr (1, [.ref ga_units, .ref ga_lengths, .ref ga_offsets, .int (z_i g_step)])), (ga_units, .inl (cA 1, 1280, .inl g_units)), (ga_lengths, .inl (cA 1, 32, .inl g_lengths)), (ga_offsets, .inl (cA 1, 32, .inl g_offsets))] t.heap) (z_A [(w, .inr (4, [.ref wa_queue, .ref wa_heap, .ref wa_reached, .int (z_i w_heapSize)])), (wa_queue, .inl (cA 1, 1280, .inl w_queue)), (wa_heap, .inl (cA 2, 1280, .inr (.inl w_heap))), (wa_reached, .inl (cA 0, 1280, .inl w_reached)), (g, .inr (1, [.ref ga_units, .ref ga_lengths, .ref ga_offsets, .int (z_i g_step)])), (ga_units, .inl (cA 1, 1280, .inl g_units)), (ga_lengths, .inl (cA 1, 32, .inl g_lengths)), (ga_offsets, .inl (cA 1, 32, .inl g_offsets))])) 0 0 (z_A [(w, .inr (4, [.ref wa_queue, .ref wa_heap, .ref wa_reached, .int (z_i w_heapSize)])), (wa_queue, .inl (cA 1, 1280, .inl w_queue)), (wa_heap, .inl (cA 2, 1280, .inr (.inl w_heap))), (wa_reached, .inl (cA 0, 1280, .inl w_reached)), (g, .inr (1, [.ref ga_units, .ref ga_lengths, .ref ga_offsets, .int (z_i g_step)])), (ga_units, .inl (cA 1, 1280, .inl g_units)), (ga_lengths, .inl (cA 1, 32, .inl g_lengths)), (ga_offsets, .inl (cA 1, 32, .inl g_offsets))]) := by
  unfold vc_X6_streamAt at hv
  refine Met.ofW (cc := cX6_streamAt) (maxL := 7) (ret := (some .int)) (by decide +kernel) rfl ?_
  intro p e s m args below meth c s₁ B hml hv0
  obtain ⟨rfl, ⟨hK, hP, hD0⟩, hST⟩ := hv0
  have hx := B.exec
  have hb := B.bytes
  have hr := B.returns
  have hts := atoms_spec (ws := wsX6_streamAt) B.pre
  have hown : s.vm.findClass RX6 = some m.cls := findClass_of_methodNamed B.named
  have hlocks := B.notSynchronized
  have hD := z_D_self hD0
  generalize hAe : z_A [(w, .inr (4, [.ref wa_queue, .ref wa_heap, .ref wa_reached, .int (z_i w_heapSize)])), (wa_queue, .inl (cA 1, 1280, .inl w_queue)), (wa_heap, .inl (cA 2, 1280, .inr (.inl w_heap))), (wa_reached, .inl (cA 0, 1280, .inl w_reached)), (g, .inr (1, [.ref ga_units, .ref ga_lengths, .ref ga_offsets, .int (z_i g_step)])), (ga_units, .inl (cA 1, 1280, .inl g_units)), (ga_lengths, .inl (cA 1, 32, .inl g_lengths)), (ga_offsets, .inl (cA 1, 32, .inl g_offsets))] = A at *
  have hS : va_S A s.heap s.heap [] := va_S.rf
  have hl := lv_entry ([.ref w, .ref g, .int (z_i n)]) (n := 7) (Nat.le_of_ble_eq_true rfl)
  rw [lg_entry_eq]
  generalize (lg_sl ([.ref w, .ref g, .int (z_i n)]) ++ List.replicate (7 - (lg_sl ([.ref w, .ref g, .int (z_i n)])).length) Slot.unset).toArray = ls at hl ⊢
  have hl : lv_has ls 7 [(0, .ref w), (1, .ref g), (2, .int (z_i n))] := hl
  refine lv_aload_n hx hb dX6_streamAt_0 rfl (lv_at hl 0 rfl) ?_
  refine va_get (D := D) (ci := 4) (v := .ref wa_queue) (C := RX6) (T := TX6) (N := 4) hx hb hts (fun w h => List.mem_cons_of_mem _ (List.mem_append_left _ (List.mem_append_right _ h))) hown hK hP 0 rfl rfl 0 (by decide) (hts (.fieldLink RX6 9 "ContourSheets$Water" "queue" "[I") (by decide +kernel)) (fun _ h9 => h9) rfl dX6_streamAt_1 ?_
  refine lv_iconst (v := z_i 0) hx hb dX6_streamAt_4 rfl ?_
  refine lv_iload_n hx hb dX6_streamAt_5 rfl (lv_at hl 2 rfl) ?_
  refine lx_iast hx hb hK hP hD hS 1 1 rfl rfl (by decide) (by decide) (by decide) dX6_streamAt_6 (fun H locs hP hD hS => ?_)
  obtain ⟨f1, hy2⟩ : ∃ y : Nat → Int32, y = z_s w_queue 0 n := ⟨_, rfl⟩
  have hv := hv f1 hy2
  have hP : va_P D vwCl [(w, .inr (4, [.ref wa_queue, .ref wa_heap, .ref wa_reached, .int (z_i w_heapSize)])), (wa_queue, .inl (cA 1, 1280, .inl f1)), (wa_heap, .inl (cA 2, 1280, .inr (.inl w_heap))), (wa_reached, .inl (cA 0, 1280, .inl w_reached)), (g, .inr (1, [.ref ga_units, .ref ga_lengths, .ref ga_offsets, .int (z_i g_step)])), (ga_units, .inl (cA 1, 1280, .inl g_units)), (ga_lengths, .inl (cA 1, 32, .inl g_lengths)), (ga_offsets, .inl (cA 1, 32, .inl g_offsets))] H := by rw [hy2]; exact hP
  have hD : va_D A [(w, .inr (4, [.ref wa_queue, .ref wa_heap, .ref wa_reached, .int (z_i w_heapSize)])), (wa_queue, .inl (cA 1, 1280, .inl f1)), (wa_heap, .inl (cA 2, 1280, .inr (.inl w_heap))), (wa_reached, .inl (cA 0, 1280, .inl w_reached)), (g, .inr (1, [.ref ga_units, .ref ga_lengths, .ref ga_offsets, .int (z_i g_step)])), (ga_units, .inl (cA 1, 1280, .inl g_units)), (ga_lengths, .inl (cA 1, 32, .inl g_lengths)), (ga_offsets, .inl (cA 1, 32, .inl g_offsets))] := by rw [hy2]; exact hD
  refine lv_iconst (v := z_i 1) hx hb dX6_streamAt_7 rfl ?_
  refine lv_istore_n (lv' := [(3, .int (z_i 1)), (0, .ref w), (1, .ref g), (2, .int (z_i n))]) hx hb dX6_streamAt_8 rfl hl (by decide) rfl (fun ls hl => ?_)
  refine lv_iconst (v := z_i 0) hx hb dX6_streamAt_9 rfl ?_
  refine lv_istore (lv' := [(4, .int (z_i 0)), (3, .int (z_i 1)), (0, .ref w), (1, .ref g), (2, .int (z_i n))]) hx hb dX6_streamAt_10 hl (by decide) rfl (fun ls hl => ?_)
  refine hv (fun (x12_4 : Int) (x12_3 : Int) (y12_wa_queue : Nat → Int32) => ∀ (H : Heap) (locs : List Loc) (ls : Array Slot), va_P D vwCl [(w, .inr (4, [.ref wa_queue, .ref wa_heap, .ref wa_reached, .int (z_i w_heapSize)])), (wa_queue, .inl (cA 1, 1280, .inl y12_wa_queue)), (wa_heap, .inl (cA 2, 1280, .inr (.inl w_heap))), (wa_reached, .inl (cA 0, 1280, .inl w_reached)), (g, .inr (1, [.ref ga_units, .ref ga_lengths, .ref ga_offsets, .int (z_i g_step)])), (ga_units, .inl (cA 1, 1280, .inl g_units)), (ga_lengths, .inl (cA 1, 32, .inl g_lengths)), (ga_offsets, .inl (cA 1, 32, .inl g_offsets))] H → va_D A [(w, .inr (4, [.ref wa_queue, .ref wa_heap, .ref wa_reached, .int (z_i w_heapSize)])), (wa_queue, .inl (cA 1, 1280, .inl y12_wa_queue)), (wa_heap, .inl (cA 2, 1280, .inr (.inl w_heap))), (wa_reached, .inl (cA 0, 1280, .inl w_reached)), (g, .inr (1, [.ref ga_units, .ref ga_lengths, .ref ga_offsets, .int (z_i g_step)])), (ga_units, .inl (cA 1, 1280, .inl g_units)), (ga_lengths, .inl (cA 1, 32, .inl g_lengths)), (ga_offsets, .inl (cA 1, 32, .inl g_offsets))] → va_S A s.heap H locs → lv_has ls 7 [(4, .int (z_i x12_4)), (3, .int (z_i x12_3)), (0, .ref w), (1, .ref g)] → W p l e _ s m _ below meth c H locs 0 0 _ (F0 m 12 ls [])) ?_ _ _ ls hP hD hS (lv_sub hl [0, 1, 2, 3] rfl)
  intro x12_4 x12_3 y12_wa_queue h_x12_4 h_x12_3 hv H locs ls hP hD hS hl
  refine lv_iload hx hb dX6_streamAt_12 (lv_at hl 0 rfl) ?_
  refine lv_iload_n hx hb dX6_streamAt_14 rfl (lv_at hl 1 rfl) ?_
  refine lx_icmp_ge (tgt := 103) hx hb dX6_streamAt_15 (by decide) h_x12_4 h_x12_3 (fun hc => ?_) (fun hc => ?_)
  · have hv := hv.1 hc
    refine lv_iload_n hx hb dX6_streamAt_103 rfl (lv_at hl 1 rfl) ?_
    exact W.iret (v := z_i x12_3) hx hb hr (fun t ht hW => ⟨⟨z_i x12_3, (y12_wa_queue), rfl, ⟨x12_3, rfl, h_x12_3, hv⟩, z_pt hP ht⟩, hS.F ht⟩) hS.2.2 dX6_streamAt_104
  · have hv := hv.2 hc
    refine lv_iload hx hb dX6_streamAt_18 (lv_at hl 0 rfl) ?_
    refine lv_sipush (v := z_i 1280) hx hb dX6_streamAt_20 (by decide) ?_
    refine lx_icmp_ge (tgt := 103) hx hb dX6_streamAt_23 (by decide) h_x12_4 (show z_in 1280 from ⟨by decide, by decide⟩) (fun hc => ?_) (fun hc => ?_)
    · have hv := hv.1 hc
      refine lv_iload_n hx hb dX6_streamAt_103 rfl (lv_at hl 1 rfl) ?_
      exact W.iret (v := z_i x12_3) hx hb hr (fun t ht hW => ⟨⟨z_i x12_3, (y12_wa_queue), rfl, ⟨x12_3, rfl, h_x12_3, hv⟩, z_pt hP ht⟩, hS.F ht⟩) hS.2.2 dX6_streamAt_104
    · have hv := hv.2 hc
      refine lv_iconst (v := z_i 0) hx hb dX6_streamAt_26 rfl ?_
      refine lv_istore (lv' := [(5, .int (z_i 0)), (4, .int (z_i x12_4)), (3, .int (z_i x12_3)), (0, .ref w), (1, .ref g)]) hx hb dX6_streamAt_27 hl (by decide) rfl (fun ls hl => ?_)
      refine hv (fun (x29_5 : Int) (x29_3 : Int) (y29_wa_queue : Nat → Int32) => ∀ (H : Heap) (locs : List Loc) (ls : Array Slot), va_P D vwCl [(w, .inr (4, [.ref wa_queue, .ref wa_heap, .ref wa_reached, .int (z_i w_heapSize)])), (wa_queue, .inl (cA 1, 1280, .inl y29_wa_queue)), (wa_heap, .inl (cA 2, 1280, .inr (.inl w_heap))), (wa_reached, .inl (cA 0, 1280, .inl w_reached)), (g, .inr (1, [.ref ga_units, .ref ga_lengths, .ref ga_offsets, .int (z_i g_step)])), (ga_units, .inl (cA 1, 1280, .inl g_units)), (ga_lengths, .inl (cA 1, 32, .inl g_lengths)), (ga_offsets, .inl (cA 1, 32, .inl g_offsets))] H → va_D A [(w, .inr (4, [.ref wa_queue, .ref wa_heap, .ref wa_reached, .int (z_i w_heapSize)])), (wa_queue, .inl (cA 1, 1280, .inl y29_wa_queue)), (wa_heap, .inl (cA 2, 1280, .inr (.inl w_heap))), (wa_reached, .inl (cA 0, 1280, .inl w_reached)), (g, .inr (1, [.ref ga_units, .ref ga_lengths, .ref ga_offsets, .int (z_i g_step)])), (ga_units, .inl (cA 1, 1280, .inl g_units)), (ga_lengths, .inl (cA 1, 32, .inl g_lengths)), (ga_offsets, .inl (cA 1, 32, .inl g_offsets))] → va_S A s.heap H locs → lv_has ls 7 [(5, .int (z_i x29_5)), (4, .int (z_i x12_4)), (3, .int (z_i x29_3)), (0, .ref w), (1, .ref g)] → W p l e _ s m _ below meth c H locs 0 0 _ (F0 m 29 ls [])) ?_ _ _ ls hP hD hS (lv_sub hl [0, 1, 2, 3, 4] rfl)
      intro x29_5 x29_3 y29_wa_queue h_x29_5 h_x29_3 hv H locs ls hP hD hS hl
      refine lv_iload hx hb dX6_streamAt_29 (lv_at hl 0 rfl) ?_
      refine lv_bipush (v := z_i 8) hx hb dX6_streamAt_31 (by decide) ?_
      refine lx_icmp_ge (tgt := 97) hx hb dX6_streamAt_33 (by decide) h_x29_5 (show z_in 8 from ⟨by decide, by decide⟩) (fun hc => ?_) (fun hc => ?_)
      · have hv := hv.1 hc
        refine lv_iinc (v := z_i (x12_4 + 1)) (lv' := [(4, .int (z_i (x12_4 + 1))), (5, .int (z_i x29_5)), (3, .int (z_i x29_3)), (0, .ref w), (1, .ref g)]) hx hb dX6_streamAt_97 hl (k := 1) rfl (z_i_add _ _) (by decide) rfl (fun ls hl => ?_)
        refine lv_goto (tgt := 12) hx hb dX6_streamAt_100 (by decide) ?_
        exact hv _ _ ls hP hD hS (lv_sub hl [0, 2, 3, 4] rfl)
      · have hv := hv.2 hc
        refine lv_aload_n hx hb dX6_streamAt_36 rfl (lv_at hl 4 rfl) ?_
        refine lv_aload_n hx hb dX6_streamAt_37 rfl (lv_at hl 3 rfl) ?_
        refine va_get (D := D) (ci := 4) (v := .ref wa_queue) (C := RX6) (T := TX6) (N := 4) hx hb hts (fun w h => List.mem_cons_of_mem _ (List.mem_append_left _ (List.mem_append_right _ h))) hown hK hP 0 rfl rfl 0 (by decide) (hts (.fieldLink RX6 9 "ContourSheets$Water" "queue" "[I") (by decide +kernel)) (fun _ h9 => h9) rfl dX6_streamAt_38 ?_
        refine lv_iload hx hb dX6_streamAt_41 (lv_at hl 1 rfl) ?_
        obtain ⟨hi3, hv⟩ := hv
        refine lx_iald hx hb hK hP 1 1 rfl rfl (by decide) hi3.1 hi3.2 dX6_streamAt_43 ?_
        refine lv_iload hx hb dX6_streamAt_44 (lv_at hl 0 rfl) ?_
        obtain ⟨hp4, hv⟩ := hv
        obtain ⟨hp5, hv⟩ := hv
        refine va_calli (va_runV (As := [.int (z_i (z_g y29_wa_queue x12_4)), .int (z_i x29_5)]) (rest := []) ⟨hx, hb, hml, hown, hts⟩ (mt_X2_neighbour l D cA t1 t2 g ga_units g_units ga_lengths g_lengths ga_offsets g_offsets g_step (z_g y29_wa_queue x12_4) x29_5 h_g_step (z_in_g _ _) h_x29_5 hp4 hp5) (cwV 2 hts gX6_streamAt_X2_neighbour rfl rfl rfl (by decide +kernel) ⟨Nat.le_of_ble_eq_true rfl, Nat.le_of_ble_eq_true rfl⟩) ⟨z_bl1, va_recv hK hP (ci := 1) (q0 := 4) rfl rfl, fun U hU hW => ⟨rfl, z_b1 hK (hP.sub (ws' := [(g, .inr (1, [.ref ga_units, .ref ga_lengths, .ref ga_offsets, .int (z_i g_step)])), (ga_units, .inl (cA 1, 1280, .inl g_units)), (ga_lengths, .inl (cA 1, 32, .inl g_lengths)), (ga_offsets, .inl (cA 1, 32, .inl g_offsets))]) [4, 5, 6, 7] rfl) (hST.at hS (fun _ h => h.elim)) hU hW⟩⟩ rfl rfl hl.1 rfl (lv_room (Nat.le_of_ble_eq_true rfl)) dX6_streamAt_46 ⟨Nat.zero_le _, Nat.zero_le _⟩) hS (fun q _ h => h.elim) (fun q h => h.elim) (fun r0 u t H locs ht hvm hw hB hz1 hk1 hS => ?_)
        obtain ⟨r6, rfl, h_r6, hw⟩ := hw
        have hP := z_P_all hP hk1
        have hv := hv r6 h_r6 hw
        refine lv_istore (lv' := [(6, .int (z_i r6)), (5, .int (z_i x29_5)), (4, .int (z_i x12_4)), (3, .int (z_i x29_3)), (0, .ref w), (1, .ref g)]) hx hb dX6_streamAt_49 hl (by decide) rfl (fun ls hl => ?_)
        refine lv_iload hx hb dX6_streamAt_51 (lv_at hl 0 rfl) ?_
        refine lv_iconst (v := z_i (-1)) hx hb dX6_streamAt_53 rfl ?_
        refine lx_icmp_eq (tgt := 91) hx hb dX6_streamAt_54 (by decide) h_r6 (show z_in (-1) from ⟨by decide, by decide⟩) (fun hc => ?_) (fun hc => ?_)
        · have hv := hv.1 hc
          refine lv_iinc (v := z_i (x29_5 + 1)) (lv' := [(5, .int (z_i (x29_5 + 1))), (6, .int (z_i r6)), (4, .int (z_i x12_4)), (3, .int (z_i x29_3)), (0, .ref w), (1, .ref g)]) hx hb dX6_streamAt_91 hl (k := 1) rfl (z_i_add _ _) (by decide) rfl (fun ls hl => ?_)
          refine lv_goto (tgt := 29) hx hb dX6_streamAt_94 (by decide) ?_
          exact hv _ _ ls hP hD hS (lv_sub hl [0, 2, 3, 4, 5] rfl)
        · have hv := hv.2 hc
          refine lv_iload_n hx hb dX6_streamAt_57 rfl (lv_at hl 3 rfl) ?_
          refine lv_sipush (v := z_i 1280) hx hb dX6_streamAt_58 (by decide) ?_
          refine lx_icmp_ge (tgt := 91) hx hb dX6_streamAt_61 (by decide) h_x29_3 (show z_in 1280 from ⟨by decide, by decide⟩) (fun hc => ?_) (fun hc => ?_)
          · have hv := hv.1 hc
            refine lv_iinc (v := z_i (x29_5 + 1)) (lv' := [(5, .int (z_i (x29_5 + 1))), (6, .int (z_i r6)), (4, .int (z_i x12_4)), (3, .int (z_i x29_3)), (0, .ref w), (1, .ref g)]) hx hb dX6_streamAt_91 hl (k := 1) rfl (z_i_add _ _) (by decide) rfl (fun ls hl => ?_)
            refine lv_goto (tgt := 29) hx hb dX6_streamAt_94 (by decide) ?_
            exact hv _ _ ls hP hD hS (lv_sub hl [0, 2, 3, 4, 5] rfl)
          · have hv := hv.2 hc
            refine lv_aload_n hx hb dX6_streamAt_64 rfl (lv_at hl 5 rfl) ?_
            refine lv_iload hx hb dX6_streamAt_65 (lv_at hl 0 rfl) ?_
            obtain ⟨hp7, hv⟩ := hv
            obtain ⟨hp8, hv⟩ := hv
            obtain ⟨hp9, hv⟩ := hv
            refine va_calli (va_runS (As := [.ref g, .int (z_i r6)]) (rest := []) ⟨hx, hb, hml, hown, hts⟩ (mt_X6_downFrom l D cA t1 t2 g ga_units g_units ga_lengths g_lengths ga_offsets g_offsets g_step r6 h_g_step h_r6 hp7 hp8 hp9) (va_cwS 2 hts gX6_streamAt_X6_downFrom rfl rfl rfl (by decide +kernel) ⟨Nat.le_of_ble_eq_true rfl, Nat.le_of_ble_eq_true rfl⟩) ⟨z_bl1, fun U hU hW => ⟨rfl, z_b1 hK (hP.sub (ws' := [(g, .inr (1, [.ref ga_units, .ref ga_lengths, .ref ga_offsets, .int (z_i g_step)])), (ga_units, .inl (cA 1, 1280, .inl g_units)), (ga_lengths, .inl (cA 1, 32, .inl g_lengths)), (ga_offsets, .inl (cA 1, 32, .inl g_offsets))]) [4, 5, 6, 7] rfl) (hST.at hS (fun _ h => h.elim)) hU hW⟩⟩ rfl rfl hl.1 rfl (lv_room (Nat.le_of_ble_eq_true rfl)) dX6_streamAt_67 ⟨Nat.zero_le _, Nat.zero_le _⟩) hS (fun q _ h => h.elim) (fun q h => h.elim) (fun r0 u t H locs ht hvm hw hB hz1 hk1 hS => ?_)
            obtain ⟨r10, rfl, h_r10, hw⟩ := hw
            have hP := z_P_all hP hk1
            have hv := hv r10 h_r10 hw
            refine lv_aload_n hx hb dX6_streamAt_70 rfl (lv_at hl 4 rfl) ?_
            refine va_get (D := D) (ci := 4) (v := .ref wa_queue) (C := RX6) (T := TX6) (N := 4) hx hb hts (fun w h => List.mem_cons_of_mem _ (List.mem_append_left _ (List.mem_append_right _ h))) hown hK hP 0 rfl rfl 0 (by decide) (hts (.fieldLink RX6 9 "ContourSheets$Water" "queue" "[I") (by decide +kernel)) (fun _ h9 => h9) rfl dX6_streamAt_71 ?_
            refine lv_iload hx hb dX6_streamAt_74 (lv_at hl 2 rfl) ?_
            refine lx_iald hx hb hK hP 1 1 rfl rfl (by decide) hi3.1 hi3.2 dX6_streamAt_76 ?_
            refine lx_icmp_ne (tgt := 91) hx hb dX6_streamAt_77 (by decide) h_r10 (z_in_g _ _) (fun hc => ?_) (fun hc => ?_)
            · have hv := hv.1 hc
              refine lv_iinc (v := z_i (x29_5 + 1)) (lv' := [(5, .int (z_i (x29_5 + 1))), (6, .int (z_i r6)), (4, .int (z_i x12_4)), (3, .int (z_i x29_3)), (0, .ref w), (1, .ref g)]) hx hb dX6_streamAt_91 hl (k := 1) rfl (z_i_add _ _) (by decide) rfl (fun ls hl => ?_)
              refine lv_goto (tgt := 29) hx hb dX6_streamAt_94 (by decide) ?_
              exact hv _ _ ls hP hD hS (lv_sub hl [0, 2, 3, 4, 5] rfl)
            · have hv := hv.2 hc
              refine lv_aload_n hx hb dX6_streamAt_80 rfl (lv_at hl 4 rfl) ?_
              refine va_get (D := D) (ci := 4) (v := .ref wa_queue) (C := RX6) (T := TX6) (N := 4) hx hb hts (fun w h => List.mem_cons_of_mem _ (List.mem_append_left _ (List.mem_append_right _ h))) hown hK hP 0 rfl rfl 0 (by decide) (hts (.fieldLink RX6 9 "ContourSheets$Water" "queue" "[I") (by decide +kernel)) (fun _ h9 => h9) rfl dX6_streamAt_81 ?_
              refine lv_iload_n hx hb dX6_streamAt_84 rfl (lv_at hl 3 rfl) ?_
              refine lv_iload hx hb dX6_streamAt_85 (lv_at hl 0 rfl) ?_
              obtain ⟨hi11, hv⟩ := hv
              refine lx_iast hx hb hK hP hD hS 1 1 rfl rfl (by decide) hi11.1 hi11.2 dX6_streamAt_87 (fun H locs hP hD hS => ?_)
              obtain ⟨f12, hy13⟩ : ∃ y : Nat → Int32, y = z_s y29_wa_queue x29_3 r6 := ⟨_, rfl⟩
              have hv := hv f12 hy13
              have hP : va_P D vwCl [(w, .inr (4, [.ref wa_queue, .ref wa_heap, .ref wa_reached, .int (z_i w_heapSize)])), (wa_queue, .inl (cA 1, 1280, .inl f12)), (wa_heap, .inl (cA 2, 1280, .inr (.inl w_heap))), (wa_reached, .inl (cA 0, 1280, .inl w_reached)), (g, .inr (1, [.ref ga_units, .ref ga_lengths, .ref ga_offsets, .int (z_i g_step)])), (ga_units, .inl (cA 1, 1280, .inl g_units)), (ga_lengths, .inl (cA 1, 32, .inl g_lengths)), (ga_offsets, .inl (cA 1, 32, .inl g_offsets))] H := by rw [hy13]; exact hP
              have hD : va_D A [(w, .inr (4, [.ref wa_queue, .ref wa_heap, .ref wa_reached, .int (z_i w_heapSize)])), (wa_queue, .inl (cA 1, 1280, .inl f12)), (wa_heap, .inl (cA 2, 1280, .inr (.inl w_heap))), (wa_reached, .inl (cA 0, 1280, .inl w_reached)), (g, .inr (1, [.ref ga_units, .ref ga_lengths, .ref ga_offsets, .int (z_i g_step)])), (ga_units, .inl (cA 1, 1280, .inl g_units)), (ga_lengths, .inl (cA 1, 32, .inl g_lengths)), (ga_offsets, .inl (cA 1, 32, .inl g_offsets))] := by rw [hy13]; exact hD
              refine lv_iinc (v := z_i (x29_3 + 1)) (lv' := [(3, .int (z_i (x29_3 + 1))), (6, .int (z_i r6)), (5, .int (z_i x29_5)), (4, .int (z_i x12_4)), (0, .ref w), (1, .ref g)]) hx hb dX6_streamAt_88 hl (k := 3) rfl (z_i_add _ _) (by decide) rfl (fun ls hl => ?_)
              refine lv_iinc (v := z_i (x29_5 + 1)) (lv' := [(5, .int (z_i (x29_5 + 1))), (3, .int (z_i (x29_3 + 1))), (6, .int (z_i r6)), (4, .int (z_i x12_4)), (0, .ref w), (1, .ref g)]) hx hb dX6_streamAt_91 hl (k := 2) rfl (z_i_add _ _) (by decide) rfl (fun ls hl => ?_)
              refine lv_goto (tgt := 29) hx hb dX6_streamAt_94 (by decide) ?_
              exact hv _ _ ls hP hD hS (lv_sub hl [0, 3, 1, 4, 5] rfl)
set_option maxHeartbeats 4000000 in
set_option maxRecDepth 100000 in
theorem mt_X6_streamAt (l : Launch) (D : va_G) (cA : Nat → ClassId) (t1 t2 : Nat) (w : Nat) (wa_queue : Nat) (w_queue : Nat → Int32) (wa_heap : Nat) (w_heap : Nat → Int64) (wa_reached : Nat) (w_reached : Nat → Int32) (w_heapSize : Int) (g : Nat) (ga_units : Nat) (g_units : Nat → Int32) (ga_lengths : Nat) (g_lengths : Nat → Int32) (ga_offsets : Nat) (g_offsets : Nat → Int32) (g_step : Int) (n : Int) (h_w_heapSize : z_in w_heapSize) (h_g_step : z_in g_step) (h_n : z_in n) (hp1 : g_ok g_units) (hp2 : g_th g_units n = true) : Met l yX6_streamAt wsX6_streamAt ({ frames := 4, cells := 0, slots := 0, locals := 96 } : Room) (va_Pc [.ref w, .ref g, .int (z_i n)] (z_M1 D cA t1 t2 [(w, .inr (4, [.ref wa_queue, .ref wa_heap, .ref wa_reached, .int (z_i w_heapSize)])), (wa_queue, .inl (cA 1, 1280, .inl w_queue)), (wa_heap, .inl (cA 2, 1280, .inr (.inl w_heap))), (wa_reached, .inl (cA 0, 1280, .inl w_reached)), (g, .inr (1, [.ref ga_units, .ref ga_lengths, .ref ga_offsets, .int (z_i g_step)])), (ga_units, .inl (cA 1, 1280, .inl g_units)), (ga_lengths, .inl (cA 1, 32, .inl g_lengths)), (ga_offsets, .inl (cA 1, 32, .inl g_offsets))])) (va_Qi (z_mi (fun v (u : (Nat → Int32)) => (fun (r : Int) (w_queue' : (Nat → Int32)) => st_ans (g_th g_units) (g_at g_units) n r) v u)) (fun (u : (Nat → Int32)) t => va_P D vwCl [(w, .inr (4, [.ref wa_queue, .ref wa_heap, .ref wa_reached, .int (z_i w_heapSize)])), (wa_queue, .inl (cA 1, 1280, .inl u)), (wa_heap, .inl (cA 2, 1280, .inr (.inl w_heap))), (wa_reached, .inl (cA 0, 1280, .inl w_reached)), (g, .inr (1, [.ref ga_units, .ref ga_lengths, .ref ga_offsets, .int (z_i g_step)])), (ga_units, .inl (cA 1, 1280, .inl g_units)), (ga_lengths, .inl (cA 1, 32, .inl g_lengths)), (ga_offsets, .inl (cA 1, 32, .inl g_offsets))] t.heap) (z_A [(w, .inr (4, [.ref wa_queue, .ref wa_heap, .ref wa_reached, .int (z_i w_heapSize)])), (wa_queue, .inl (cA 1, 1280, .inl w_queue)), (wa_heap, .inl (cA 2, 1280, .inr (.inl w_heap))), (wa_reached, .inl (cA 0, 1280, .inl w_reached)), (g, .inr (1, [.ref ga_units, .ref ga_lengths, .ref ga_offsets, .int (z_i g_step)])), (ga_units, .inl (cA 1, 1280, .inl g_units)), (ga_lengths, .inl (cA 1, 32, .inl g_lengths)), (ga_offsets, .inl (cA 1, 32, .inl g_offsets))])) 0 0 (z_A [(w, .inr (4, [.ref wa_queue, .ref wa_heap, .ref wa_reached, .int (z_i w_heapSize)])), (wa_queue, .inl (cA 1, 1280, .inl w_queue)), (wa_heap, .inl (cA 2, 1280, .inr (.inl w_heap))), (wa_reached, .inl (cA 0, 1280, .inl w_reached)), (g, .inr (1, [.ref ga_units, .ref ga_lengths, .ref ga_offsets, .int (z_i g_step)])), (ga_units, .inl (cA 1, 1280, .inl g_units)), (ga_lengths, .inl (cA 1, 32, .inl g_lengths)), (ga_offsets, .inl (cA 1, 32, .inl g_offsets))]) := by
  refine wk_X6_streamAt l D cA t1 t2 w wa_queue w_queue wa_heap w_heap wa_reached w_reached w_heapSize g ga_units g_units ga_lengths g_lengths ga_offsets g_offsets g_step n h_w_heapSize h_g_step h_n (fun (r : Int) (w_queue' : (Nat → Int32)) => st_ans (g_th g_units) (g_at g_units) n r) ?_
  unfold vc_X6_streamAt
  have hU : ∀ p, g_th g_units p = true → -8388608 ≤ g_at g_units p ∧ g_at g_units p ≤ 8388608 := fun p h => g_ok_at hp1 h
  have hT : ∀ p, g_th g_units p = true → 0 ≤ p ∧ p < 1280 := fun p h => g_th_in h
  rintro f1 rfl
  intro L hL
  suffices H : ∀ (d : Nat) (k size : Int) (f : Nat → Int32), 1280 - k < d → st_I (g_th g_units) (g_at g_units) n k 0 size f → L k size f from H 1281 0 1 _ (by omega) (st_init hp2 (hT n hp2).1 (hT n hp2).2)
  intro d
  induction d with
  | zero =>
    intro k size f h1 I
    have := I.1
    omega
  | succ d ih =>
    intro k size f h1 I
    have i1 := I.1
    refine hL _ _ _ ⟨by omega, by omega⟩ ⟨by omega, by omega⟩ ⟨fun h => st_end hU I h, fun hk => ⟨fun h => absurd hk (by omega), fun hk2 => ?_⟩⟩
    intro L2 hL2
    suffices H2 : ∀ (d2 : Nat) (w size : Int) (f : Nat → Int32), d2 ≤ 8 → w = 8 - (d2 : Int) → k < size → st_I (g_th g_units) (g_at g_units) n k w size f → L2 w size f from H2 8 0 size f (Nat.le_refl _) rfl hk I
    intro d2
    induction d2 with
    | zero =>
      intro w size f a b c I
      have i1 := I.1
      have e8 : w = 8 := by omega
      subst e8
      exact hL2 _ _ _ ⟨by omega, by omega⟩ ⟨by omega, by omega⟩ ⟨fun _ => ih _ _ _ (by omega) (st_next hT c I), fun h => absurd h (by omega)⟩
    | succ d2 ih2 =>
      intro w size f a b c I
      have i1 := I.1
      have ik := I.2.2.1 k i1.2.2.1 c
      refine hL2 _ _ _ ⟨by omega, by omega⟩ ⟨by omega, by omega⟩ ⟨fun h => absurd h (by omega), fun hw => ⟨⟨by omega, by omega⟩, ⟨ik.2.1, ik.2.2.1⟩, ⟨by omega, hw⟩, ?_⟩⟩
      rintro r6 h6 rfl
      refine ⟨fun q => ih2 _ _ _ (by omega) (by omega) c (st_skip I (fun q2 => absurd q q2)), fun q => ⟨fun q2 => ?_, fun q2 => ?_⟩⟩
      · exact ih2 _ _ _ (by omega) (by omega) c (st_skip I (fun _ _ => st_full I q2 (m_nb_th q).2.1 (m_nb_th q).2.2))
      · refine ⟨(m_nb_th q).2, hp1, (m_nb_th q).1, ?_⟩
        rintro r10 h10 rfl
        refine ⟨fun q3 => ih2 _ _ _ (by omega) (by omega) c (st_skip I (fun _ q4 => absurd q4 q3)), fun q3 => ⟨⟨by omega, by omega⟩, ?_⟩⟩
        rintro f12 rfl
        exact ih2 _ _ _ (by omega) (by omega) (by omega) (st_add hU c q2 (by omega) hw I q q3)
