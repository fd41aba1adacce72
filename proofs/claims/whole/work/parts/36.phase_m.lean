/-! the lines of a level: first those that begin somewhere, then the closed ones -/
abbrev d_S : Type := List d_L × (Int → Bool) × Bool
def d_tell (nx : Int → Int) (v s : Int) (S : d_S) : d_S := if S.1.length < 400 ∧ d_tot S.1 + (d_line nx s).length ≤ 8000 then (S.1 ++ [(v, d_cl nx s, d_line nx s)], fun x => S.2.1 x || decide (x ∈ d_line nx s), false) else (S.1, S.2.1, true)
def d_p1 (nx bf : Int → Int) (v : Int) (S : d_S) : Nat → d_S
  | 0 => S
  | k + 1 => if (d_p1 nx bf v S k).2.2 = false ∧ nx k ≠ -1 ∧ bf k = -1 then d_tell nx v k (d_p1 nx bf v S k) else d_p1 nx bf v S k
def d_p2 (nx : Int → Int) (v : Int) (S : d_S) : Nat → d_S
  | 0 => S
  | k + 1 => if (d_p2 nx v S k).2.2 = false ∧ nx k ≠ -1 ∧ (d_p2 nx v S k).2.1 k = false then d_tell nx v k (d_p2 nx v S k) else d_p2 nx v S k
def d_lvl (nx bf : Int → Int) (v : Int) (ls : List d_L) : d_S := d_p2 nx v (d_p1 nx bf v (ls, fun _ => false, false) 2560) 2560
section
variable {nx bf : Int → Int} {v : Int}
/-- ready for the closed ones: all that begin are on lines -/
def d_rd (nx bf : Int → Int) (S : d_S) : Prop := S.2.2 = false → d_on nx bf S.2.1 ∧ ∀ x, nx x ≠ -1 → bf x = -1 → S.2.1 x = true
theorem d_p1_inv (h : n_ok nx bf) (ls : List d_L) : ∀ k : Nat, k ≤ 2560 → (d_p1 nx bf v (ls, fun _ => false, false) k).2.2 = false → d_on nx bf (d_p1 nx bf v (ls, fun _ => false, false) k).2.1 ∧ (∀ x, (d_p1 nx bf v (ls, fun _ => false, false) k).2.1 x = true → bf x = -1 → x < k) ∧ ∀ x : Int, 0 ≤ x → x < k → nx x ≠ -1 → bf x = -1 → (d_p1 nx bf v (ls, fun _ => false, false) k).2.1 x = true := by
  intro k
  induction k with
  | zero =>
    intro _ _
    exact ⟨⟨fun x hx => absurd hx (by decide : ¬ (false = true)), fun z _ hx => absurd hx (by decide : ¬ (false = true))⟩, fun x hx => absurd hx (by decide : ¬ (false = true)), fun x a b => absurd b (by omega)⟩
  | succ k ih =>
    intro hk
    unfold d_p1
    split
    · next q =>
      obtain ⟨i1, i2, i3⟩ := ih (by omega) q.1
      unfold d_tell
      split
      · intro _
        refine ⟨d_on_add h (by omega) (by omega) i1 (Or.inl q.2.2), fun x hx hb => ?_, fun x a b c d => ?_⟩
        · simp only [Bool.or_eq_true, decide_eq_true_eq] at hx
          rcases hx with hx | hx
          · have := i2 x hx hb; omega
          · have := d_line_heads h hx hb; omega
        · simp only [Bool.or_eq_true, decide_eq_true_eq]
          by_cases e : x = k
          · right; rw [e]; exact d_line_st
          · exact Or.inl (i3 x a (by omega) c d)
      · intro w; cases w
    · next q =>
      intro hf
      obtain ⟨i1, i2, i3⟩ := ih (by omega) hf
      refine ⟨i1, fun x hx hb => by have := i2 x hx hb; omega, fun x a b c d => ?_⟩
      by_cases e : x = k
      · subst e; exact absurd ⟨hf, c, d⟩ q
      · exact i3 x a (by omega) c d
theorem d_p1_ready (h : n_ok nx bf) (ls : List d_L) {k : Nat} (hk : k < 2560) (hf : (d_p1 nx bf v (ls, fun _ => false, false) k).2.2 = false) (hb : bf k = -1) : (∀ s ∈ d_line nx k, (d_p1 nx bf v (ls, fun _ => false, false) k).2.1 s = false ∧ 0 ≤ s ∧ s < 2560) ∧ d_cl nx k = 0 := by
  obtain ⟨i1, i2, i3⟩ := d_p1_inv (v := v) h ls k (by omega) hf
  have off : (d_p1 nx bf v (ls, fun _ => false, false) k).2.1 k = false := by
    cases hc : (d_p1 nx bf v (ls, fun _ => false, false) k).2.1 k
    · rfl
    · have := i2 k hc hb; omega
  refine ⟨fun s hs => ⟨d_on_off h i1 off s hs, d_walk_range h (by omega) (by omega) s hs⟩, ?_⟩
  unfold d_cl
  rw [if_neg]
  intro e
  have h2 := d_walk_range h (by omega) (by omega) _ (d_line_last (nx := nx) (st := (k : Int)))
  have := (h.2.1 _ (k : Int) h2.1 (by omega)).mp e
  omega
theorem d_p1_rd (h : n_ok nx bf) (ls : List d_L) : d_rd nx bf (d_p1 nx bf v (ls, fun _ => false, false) 2560) := by
  intro hf
  obtain ⟨i1, i2, i3⟩ := d_p1_inv (v := v) h ls 2560 (Nat.le_refl _) hf
  refine ⟨i1, fun x hx hb => i3 x ?_ ?_ hx hb⟩
  · exact Classical.byContradiction fun q => hx (h.2.2 x (by omega)).1
  · exact Classical.byContradiction fun q => hx (h.2.2 x (by omega)).1
theorem d_p2_inv (h : n_ok nx bf) {S : d_S} (hS : d_rd nx bf S) : ∀ k : Nat, k ≤ 2560 → d_rd nx bf (d_p2 nx v S k) := by
  intro k
  induction k with
  | zero => intro _; exact hS
  | succ k ih =>
    intro hk
    unfold d_p2
    split
    · next q =>
      obtain ⟨i1, i2⟩ := ih (by omega) q.1
      have hb := d_back h (show (0 : Int) ≤ k by omega) (show (k : Int) < 2560 by omega) i1 i2 q.2.1 q.2.2
      unfold d_tell
      split
      · intro _
        refine ⟨d_on_add h (by omega) (by omega) i1 (Or.inr hb), fun x c d => ?_⟩
        simp only [Bool.or_eq_true, decide_eq_true_eq]
        exact Or.inl (i2 x c d)
      · intro w; cases w
    · exact ih (by omega)
theorem d_p2_ready (h : n_ok nx bf) {S : d_S} (hS : d_rd nx bf S) {k : Nat} (hk : k < 2560) (hf : (d_p2 nx v S k).2.2 = false) (hn : nx k ≠ -1) (hoff : (d_p2 nx v S k).2.1 k = false) : (∀ s ∈ d_line nx k, (d_p2 nx v S k).2.1 s = false ∧ 0 ≤ s ∧ s < 2560) ∧ d_cl nx k = 1 := by
  obtain ⟨i1, i2⟩ := d_p2_inv (v := v) h hS k (by omega) hf
  have hb := d_back h (show (0 : Int) ≤ k by omega) (show (k : Int) < 2560 by omega) i1 i2 hn hoff
  refine ⟨fun s hs => ⟨d_on_off h i1 hoff s hs, d_walk_range h (by omega) (by omega) s hs⟩, ?_⟩
  unfold d_cl
  rw [if_pos hb]
theorem d_p1_s (S : d_S) (k : Nat) : d_p1 nx bf v S (k + 1) = if (d_p1 nx bf v S k).2.2 = false ∧ nx k ≠ -1 ∧ bf k = -1 then d_tell nx v k (d_p1 nx bf v S k) else d_p1 nx bf v S k := rfl
theorem d_p2_s (S : d_S) (k : Nat) : d_p2 nx v S (k + 1) = if (d_p2 nx v S k).2.2 = false ∧ nx k ≠ -1 ∧ (d_p2 nx v S k).2.1 k = false then d_tell nx v k (d_p2 nx v S k) else d_p2 nx v S k := rfl
/-- sides that lead nowhere tell no line -/
theorem d_p1_skip {S : d_S} {a b : Nat} (hab : a ≤ b) (hn : ∀ k : Nat, a ≤ k → k < b → nx k = -1) : d_p1 nx bf v S b = d_p1 nx bf v S a := by
  induction b with
  | zero => rw [show a = 0 by omega]
  | succ b ih =>
    by_cases e : a = b + 1
    · rw [e]
    · rw [d_p1_s, if_neg (fun q => q.2.1 (hn b (by omega) (by omega)))]
      exact ih (by omega) (fun k x y => hn k x (by omega))
theorem d_p2_skip {S : d_S} {a b : Nat} (hab : a ≤ b) (hn : ∀ k : Nat, a ≤ k → k < b → nx k = -1) : d_p2 nx v S b = d_p2 nx v S a := by
  induction b with
  | zero => rw [show a = 0 by omega]
  | succ b ih =>
    by_cases e : a = b + 1
    · rw [e]
    · rw [d_p2_s, if_neg (fun q => q.2.1 (hn b (by omega) (by omega)))]
      exact ih (by omega) (fun k x y => hn k x (by omega))
theorem d_p1_full {S : d_S} {a b : Nat} (hab : a ≤ b) (hf : (d_p1 nx bf v S a).2.2 = true) : d_p1 nx bf v S b = d_p1 nx bf v S a := by
  induction b with
  | zero => rw [show a = 0 by omega]
  | succ b ih =>
    by_cases e : a = b + 1
    · rw [e]
    · have := ih (by omega)
      rw [d_p1_s, this, if_neg (fun q => by rw [hf] at q; cases q.1)]
theorem d_p2_full {S : d_S} {a b : Nat} (hab : a ≤ b) (hf : (d_p2 nx v S a).2.2 = true) : d_p2 nx v S b = d_p2 nx v S a := by
  induction b with
  | zero => rw [show a = 0 by omega]
  | succ b ih =>
    by_cases e : a = b + 1
    · rw [e]
    · have := ih (by omega)
      rw [d_p2_s, this, if_neg (fun q => by rw [hf] at q; cases q.1)]
/-- the class's rows beside a state: the lines, the joins with what is on lines left out, whether it is full -/
def d_CS (nx : Int → Int) (S : d_S) (jn sides firsts lix cls : Nat → Int32) (size full : Int) : Prop := d_C S.1 sides firsts lix cls size ∧ full = z_b S.2.2 ∧ (S.2.2 = false → ∀ s : Int, 0 ≤ s → s < 2560 → z_g jn s = if S.2.1 s = true then -1 else nx s)
theorem d_CS_tell {S : d_S} {s : Int} {jn sides firsts lix cls : Nat → Int32} {size full : Int} (h1 : ¬ d_fits S.1 (d_line nx s) → full = 1 ∧ d_C S.1 sides firsts lix cls size) (h2 : d_fits S.1 (d_line nx s) → full = 0 ∧ d_C (S.1 ++ [(v, d_cl nx s, d_line nx s)]) sides firsts lix cls size ∧ ∀ x : Int, 0 ≤ x → x < 2560 → z_g jn x = if S.2.1 x = true ∨ x ∈ d_line nx s then -1 else nx x) : d_CS nx (d_tell nx v s S) jn sides firsts lix cls size full := by
  unfold d_tell d_CS
  by_cases hf : S.1.length < 400 ∧ d_tot S.1 + (d_line nx s).length ≤ 8000
  · rw [if_pos hf]
    obtain ⟨a, b, c⟩ := h2 hf
    refine ⟨b, a, fun _ x hx hy => ?_⟩
    rw [c x hx hy]
    simp only [Bool.or_eq_true, decide_eq_true_eq]
  · rw [if_neg hf]
    obtain ⟨a, b⟩ := h1 hf
    exact ⟨b, a, fun q => absurd q (by decide : ¬ (true = false))⟩
end
