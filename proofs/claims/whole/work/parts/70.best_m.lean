/-! best first: what is reached (R), what is done (P), the worst so far -/
def bf_I (T : Int → Bool) (K : Int → Int) (st : Int) (G : Int → Prop) (z kk worst : Int) (R P : Int → Prop) : Prop :=
  (∀ q, R q → T q = true) ∧ R st ∧ (∀ q, P q → R q ∧ K q ≤ worst ∧ ¬ G q ∧ ∀ j : Int, 0 ≤ j → j < 8 → (q = z → j < kk) → m_nb T q j ≠ -1 → R (m_nb T q j)) ∧
  (∀ q, R q → ∃ n, w_way T K (max worst (K q)) n st q) ∧ (∀ c, w_con T K G st c → worst ≤ c)
section
variable {T : Int → Bool} {K : Int → Int} {st z kk worst : Int} {G R P : Int → Prop}
theorem bf_open (I : bf_I T K st G z 8 worst R P) (q : Int) (hq : P q) : ¬ G q ∧ ∀ j : Int, 0 ≤ j → j < 8 → m_nb T q j ≠ -1 → R (m_nb T q j) :=
  ⟨(I.2.2.1 q hq).2.2.1, fun j a b d => (I.2.2.1 q hq).2.2.2 j a b (fun _ => b) d⟩
theorem bf_pop (I : bf_I T K st G z 8 worst R P) {b : Int} (hb : R b) (hm : ∀ q, R q → ¬ P q → K b ≤ K q) : (G b → w_fs T K G st (max worst (K b))) ∧ ∀ P' : Int → Prop, (∀ q, P' q ↔ P q ∨ q = b) → ¬ G b → ¬ P b → bf_I T K st G b 0 (max worst (K b)) R P' := by
  obtain ⟨i1, i2, i3, i4, i5⟩ := id I
  have lb : ∀ c, w_con T K G st c → max worst (K b) ≤ c := by
    rintro c ⟨q, n, hG, hw⟩
    obtain ⟨y, y1, y2, y3⟩ := w_cut (fun q hq => bf_open I q hq) i2 hw hG
    have a1 := hm y y1 y2
    have a2 := i5 c ⟨q, n, hG, hw⟩
    omega
  refine ⟨fun hG => ⟨?_, lb⟩, fun P' hP' hG hn => ⟨i1, i2, ?_, ?_, lb⟩⟩
  · obtain ⟨n, hw⟩ := i4 b hb
    exact ⟨b, n, hG, hw⟩
  · intro q hq
    rcases (hP' q).mp hq with h | rfl
    · obtain ⟨a1, a2, a3, a4⟩ := i3 q h
      exact ⟨a1, by omega, a3, fun j c d _ e => a4 j c d (fun _ => d) e⟩
    · exact ⟨hb, by omega, hG, fun j c d e _ => absurd (e rfl) (by omega)⟩
  · intro q hq
    obtain ⟨n, hw⟩ := i4 q hq
    exact ⟨n, w_way_mono (by omega) hw⟩
theorem bf_skip {j : Int} (I : bf_I T K st G z j worst R P) (hn : m_nb T z j = -1 ∨ R (m_nb T z j)) : bf_I T K st G z (j + 1) worst R P := by
  obtain ⟨i1, i2, i3, i4⟩ := I
  refine ⟨i1, i2, fun q hq => ?_, i4⟩
  obtain ⟨a1, a2, a3, a4⟩ := i3 q hq
  refine ⟨a1, a2, a3, fun i c d e f => ?_⟩
  by_cases h : q = z ∧ i = j
  · obtain ⟨rfl, rfl⟩ := h
    rcases hn with h | h
    · exact absurd h f
    · exact h
  · exact a4 i c d (fun h2 => by have := e h2; have : i ≠ j := fun h3 => h ⟨h2, h3⟩; omega) f
theorem bf_push {j : Int} (I : bf_I T K st G z j worst R P) (hz : P z) (h0 : 0 ≤ j) (h1 : j < 8) (hn : m_nb T z j ≠ -1) {R' : Int → Prop} (hR : ∀ q, R' q ↔ R q ∨ q = m_nb T z j) : bf_I T K st G z (j + 1) worst R' P := by
  obtain ⟨i1, i2, i3, i4, i5⟩ := I
  refine bf_skip ⟨?_, (hR _).mpr (Or.inl i2), ?_, ?_, i5⟩ (Or.inr ((hR _).mpr (Or.inr rfl)))
  · intro q hq
    rcases (hR q).mp hq with h | rfl
    · exact i1 q h
    · exact (m_nb_th hn).1
  · intro q hq
    obtain ⟨a1, a2, a3, a4⟩ := i3 q hq
    exact ⟨(hR _).mpr (Or.inl a1), a2, a3, fun i c d e f => (hR _).mpr (Or.inl (a4 i c d e f))⟩
  · intro q hq
    rcases (hR q).mp hq with h | rfl
    · exact i4 q h
    · obtain ⟨n, hw⟩ := i4 z (i3 z hz).1
      have hk := (i3 z hz).2.1
      exact ⟨n + 1, w_way_snoc h0 h1 (w_way_mono (by omega) hw) hn (by omega)⟩
theorem bf_none (I : bf_I T K st G z 8 worst R P) (h : ∀ q, R q → P q) (c : Int) : ¬ w_con T K G st c := by
  rintro ⟨q, n, hG, hw⟩
  obtain ⟨y, y1, y2, -⟩ := w_cut (fun q hq => bf_open I q hq) I.2.1 hw hG
  exact y2 (h y y1)
end
/-- how many are zero -/
def c_z (f : Nat → Int32) : Nat → Nat
  | 0 => 0
  | m + 1 => c_z f m + (if z_g f m = 0 then 1 else 0)
theorem c_z_le (f : Nat → Int32) (m : Nat) : c_z f m ≤ m := by
  induction m with
  | zero => exact Nat.le_refl _
  | succ m ih => unfold c_z; split <;> omega
theorem c_z_s {f : Nat → Int32} {b : Int} (h0 : 0 ≤ b) (hz : z_g f b = 0) (m : Nat) : (b < m → c_z (z_s f b 1) m + 1 = c_z f m) ∧ (m ≤ b → c_z (z_s f b 1) m = c_z f m) := by
  induction m with
  | zero => exact ⟨fun h => by omega, fun _ => rfl⟩
  | succ m ih =>
    have e : z_g (z_s f b 1) m = if (m : Int) = b then 1 else z_g f m := z_gs ⟨by decide, by decide⟩ h0 (by omega)
    unfold c_z
    rw [e]
    by_cases q : (m : Int) = b
    · rw [if_pos q, if_neg (by decide), q, if_pos hz]
      have := ih.2 (by omega)
      exact ⟨fun _ => by omega, fun h => by omega⟩
    · rw [if_neg q]
      refine ⟨fun h => ?_, fun h => ?_⟩
      · have := ih.1 (by omega); omega
      · have := ih.2 (by omega); omega
theorem fl_R_s {f : Nat → Int32} {b q : Int} (h0 : 0 ≤ b) (h1 : b < 1280) : fl_R (z_s f b 1) q ↔ fl_R f q ∨ q = b := by
  unfold fl_R
  constructor
  · rintro ⟨a, c, d⟩
    rw [z_gs ⟨by decide, by decide⟩ h0 a] at d
    by_cases e : q = b
    · exact Or.inr e
    · rw [if_neg e] at d; exact Or.inl ⟨a, c, d⟩
  · rintro (⟨a, c, d⟩ | rfl)
    · refine ⟨a, c, ?_⟩
      rw [z_gs ⟨by decide, by decide⟩ h0 a]
      split
      · decide
      · exact d
    · refine ⟨h0, h1, ?_⟩
      rw [z_gs ⟨by decide, by decide⟩ h0 h0, if_pos rfl]; decide
