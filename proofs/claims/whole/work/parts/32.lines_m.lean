/-! lines: level's index, closed or not, sides -/
abbrev d_L : Type := Int × Int × List Int
def d_tot (ls : List d_L) : Nat := (ls.map (fun l => l.2.2.length)).sum
theorem d_tot_app (a b : List d_L) : d_tot (a ++ b) = d_tot a + d_tot b := by unfold d_tot; rw [List.map_append, List.sum_append]
theorem d_tot_one (l : d_L) : d_tot [l] = l.2.2.length := by unfold d_tot; simp
theorem d_tot_take_le (ls : List d_L) (k : Nat) : d_tot (ls.take k) ≤ d_tot ls := by
  have h := d_tot_app (ls.take k) (ls.drop k)
  rw [List.take_append_drop] at h
  omega
theorem d_tot_take_add {ls : List d_L} {k : Nat} {l : d_L} (h : ls[k]? = some l) : d_tot (ls.take (k + 1)) = d_tot (ls.take k) + l.2.2.length := by
  rw [List.take_add_one, h, d_tot_app]
  simp [d_tot_one]
theorem d_tot_take_lt {ls : List d_L} {k : Nat} {l : d_L} (h : ls[k]? = some l) {i : Nat} (hi : i < l.2.2.length) : d_tot (ls.take k) + i < d_tot ls := by
  have h1 := d_tot_take_add h
  have h2 := d_tot_take_le ls (k + 1)
  omega
/-- the class's rows of them -/
def d_C (ls : List d_L) (sides firsts lix cls : Nat → Int32) (size : Int) : Prop :=
  size = (ls.length : Int) ∧ ls.length ≤ 400 ∧ d_tot ls ≤ 8000 ∧ (∀ k : Nat, k ≤ ls.length → z_g firsts (k : Int) = (d_tot (ls.take k) : Int)) ∧
  ∀ (k : Nat) (l : d_L), ls[k]? = some l → z_g lix (k : Int) = l.1 ∧ z_g cls (k : Int) = l.2.1 ∧ ∀ (i : Nat) (s : Int), l.2.2[i]? = some s → z_g sides ((d_tot (ls.take k) + i : Nat) : Int) = s
/-- from a side on, until there is no more, or the start comes again -/
def d_walk (nx : Int → Int) (st : Int) : Nat → Int → List Int
  | 0, s => [s]
  | f + 1, s => if nx s = -1 ∨ nx s = st then [s] else s :: d_walk nx st f (nx s)
def d_line (nx : Int → Int) (st : Int) : List Int := d_walk nx st 2560 st
def d_cl (nx : Int → Int) (st : Int) : Int := if nx ((d_line nx st).getLastD st) = st then 1 else 0
def d_fits (ls : List d_L) (w : List Int) : Prop := ls.length < 400 ∧ d_tot ls + w.length ≤ 8000
/-- what is written behind the last line is nobody's -/
theorem d_C_sides {ls : List d_L} {sides sides' firsts lix cls : Nat → Int32} {size : Int} (h : d_C ls sides firsts lix cls size) (hs : ∀ p : Int, 0 ≤ p → p < (d_tot ls : Int) → z_g sides' p = z_g sides p) : d_C ls sides' firsts lix cls size := by
  obtain ⟨h1, h2, h3, h4, h5⟩ := h
  refine ⟨h1, h2, h3, h4, fun k l hl => ⟨(h5 k l hl).1, (h5 k l hl).2.1, fun i s hi => ?_⟩⟩
  have hlt : i < l.2.2.length := (List.getElem?_eq_some_iff.mp hi).1
  have := d_tot_take_lt hl hlt
  rw [hs _ (by omega) (by omega)]
  exact (h5 k l hl).2.2 i s hi
theorem d_C_add {ls : List d_L} {sides sides' firsts lix cls : Nat → Int32} {size : Int} {w : List Int} {v c : Int} (h : d_C ls sides firsts lix cls size) (hf : d_fits ls w) (hv : z_in v) (hc : z_in c)
    (hs : ∀ p : Int, 0 ≤ p → p < (d_tot ls : Int) → z_g sides' p = z_g sides p) (hw : ∀ (i : Nat) (s : Int), w[i]? = some s → z_g sides' ((d_tot ls + i : Nat) : Int) = s) :
    d_C (ls ++ [(v, c, w)]) sides' (z_s firsts (size + 1) ((d_tot ls : Int) + (w.length : Int))) (z_s lix size v) (z_s cls size c) (size + 1) := by
  obtain ⟨h1, h2, h3, h4, h5⟩ := h
  have e1 : d_tot (ls ++ [(v, c, w)]) = d_tot ls + w.length := by rw [d_tot_app, d_tot_one]
  have hf1 := hf.1
  have hf2 := hf.2
  refine ⟨by simp; omega, by simp; omega, by rw [e1]; exact hf.2, fun k hk => ?_, fun k l hl => ?_⟩
  · simp at hk
    rw [z_gs ⟨by omega, by omega⟩ (by omega) (by omega)]
    by_cases e : k = ls.length + 1
    · rw [if_pos (by omega), List.take_of_length_le (by simp; omega), e1]
      omega
    · rw [if_neg (by omega), h4 k (by omega), List.take_append_of_le_length (by omega)]
  · by_cases e : k = ls.length
    · subst e
      rw [List.getElem?_append_right (Nat.le_refl _)] at hl
      simp at hl
      subst hl
      refine ⟨?_, ?_, fun i s hi => ?_⟩
      · rw [z_gs hv (by omega) (by omega), if_pos (by omega)]
      · rw [z_gs hc (by omega) (by omega), if_pos (by omega)]
      · rw [List.take_append_of_le_length (Nat.le_refl _), List.take_length]
        exact hw i s hi
    · have hk : k < ls.length := by
        have := (List.getElem?_eq_some_iff.mp hl).1
        simp at this
        omega
      rw [List.getElem?_append_left hk] at hl
      have h6 := h5 k l hl
      refine ⟨?_, ?_, fun i s hi => ?_⟩
      · rw [z_gs hv (by omega) (by omega), if_neg (by omega)]
        exact h6.1
      · rw [z_gs hc (by omega) (by omega), if_neg (by omega)]
        exact h6.2.1
      · have hlt : i < l.2.2.length := (List.getElem?_eq_some_iff.mp hi).1
        have := d_tot_take_lt hl hlt
        rw [List.take_append_of_le_length (by omega), hs _ (by omega) (by omega)]
        exact h6.2.2 i s hi
