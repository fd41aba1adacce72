/-! the class and the model say the same -/
theorem z_u_s {α : Type} {f : Nat → α} {k : Nat} {x : α} : z_u f k x k = x := if_pos rfl
theorem z_u_n {α : Type} {f : Nat → α} {k j : Nat} {x : α} (h : j ≠ k) : z_u f k x j = f j := if_neg h
theorem z_u_in {f : Nat → Int} {k : Nat} {x : Int} (h : z_in x) (hf : ∀ j, z_in (f j)) (j : Nat) : z_in (z_u f k x j) := by
  unfold z_u; split
  · exact h
  · exact hf j
/-- one grid -/
def r_g (un le of : Nat → Int32) (st : Int) (v : xS) (k : Nat) : Prop := g_ok un ∧ g_rw le of ∧ (1 ≤ st ∧ st ≤ 100000) ∧ z_g (v.1 1) (k : Int) = st ∧ (∀ i : Int, 0 ≤ i → i < 32 → z_g le i = z_g (v.1 3) (32 * (k : Int) + i) ∧ z_g of i = z_g (v.1 2) (32 * (k : Int) + i)) ∧ ∀ n : Int, g_at un n = q_at (v.1 4) (v.1 5) (k : Int) n
def r_M (v : xS) : Prop := q_bd (v.1 4) ∧ q_rw (v.1 3) (v.1 2) ∧ q_rs (v.1 3) (v.1 2) ∧ q_01 5120 (v.1 5)
def r_V (u v : xS) : Prop := u.2.2 0 = v.2.2 0 ∧ (0 ≤ u.2.2 0 ∧ u.2.2 0 ≤ 16) ∧ ∀ q : Int, 0 ≤ q → q < 16 → z_g (u.1 18) q = z_g (v.1 6) q ∧ -8192 ≤ z_g (v.1 6) q ∧ z_g (v.1 6) q ≤ 8192
def r_L (u v : xS) : Prop := ∃ (ls : List d_L) (T : Int → Bool) (U : Int → Int) (hs : Nat → Int32), T = g_th (u.1 26) ∧ U = g_at (u.1 26) ∧ l_I ls (u.1 26) (u.1 32) (u.2.1 38) (u.1 33) (u.1 34) (u.1 35) (u.1 36) (u.2.2 12) ∧ m_I ls T U hs (v.1 7) (v.1 8) (v.1 9) (v.1 10) (v.1 11) (v.1 12) (v.1 13) (v.1 14) (v.2.1 15) (v.1 16) (v.1 17) (v.1 18) (v.2.2 1) ∧ (∀ k, l_lu ls (u.1 32) k = l_lu ls hs k) ∧ (0 < v.2.2 1 → v.2.2 3 = u.2.2 6) ∧ 1 ≤ u.2.2 6 ∧ u.2.2 6 ≤ 100000
def lw_R (u v : xS) : Prop := ((∀ j, z_in (u.2.2 j)) ∧ ∀ j, z_in (v.2.2 j)) ∧ (∀ k : Nat, k < 4 → r_g (u.1 (3 + 4 * k)) (u.1 (4 + 4 * k)) (u.1 (5 + 4 * k)) (u.2.2 (1 + k)) v k) ∧ r_M v ∧ r_V u v ∧ r_L u v
theorem r_th {un u th : Nat → Int32} {k : Nat} (hb : q_bd u) (hk : k < 4) (h : ∀ n : Int, g_at un n = q_at u th (k : Int) n) : g_th un = q_th th (k : Int) ∧ g_at un = q_at u th (k : Int) := by
  refine ⟨?_, funext h⟩
  funext n
  unfold g_th
  rw [h n]
  by_cases q : q_th th (k : Int) n = true
  · rw [q, q_at_t q]
    have hin := q_th_in q
    have := hb (1280 * (k : Int) + n) (by omega) (by omega)
    exact decide_eq_true (by omega)
  · have e : q_at u th (k : Int) n = -2147483648 := by
      unfold q_at
      rw [if_neg]
      intro h2
      exact q (decide_eq_true h2)
    rw [e, Bool.eq_false_iff.mpr q]
    decide
theorem lw_TU {u v : xS} (R : lw_R u v) {gi : Int} {k : Nat} (hk : z_gq gi k) (hg : 0 ≤ gi ∧ gi < 4) : g_th (u.1 (3 + 4 * k)) = q_th (v.1 5) gi ∧ g_at (u.1 (3 + 4 * k)) = q_at (v.1 4) (v.1 5) gi := by
  have h := R.2.1 k hk.1
  rw [hk.2 hg]
  exact r_th R.2.2.1.1 hk.1 h.2.2.2.2.2
theorem lw_gok {u v : xS} (R : lw_R u v) {gi : Int} {k : Nat} (hk : z_gq gi k) : g_ok (u.1 (3 + 4 * k)) := (R.2.1 k hk.1).1
/-- what the relation looks at -/
def r_sx (u u' : xS) : Prop := (∀ j, (3 ≤ j ∧ j ≤ 18) ∨ j = 26 ∨ (32 ≤ j ∧ j ≤ 36) → u'.1 j = u.1 j) ∧ u'.2.1 38 = u.2.1 38 ∧ (∀ j, j ≤ 4 ∨ j = 6 ∨ j = 12 → u'.2.2 j = u.2.2 j) ∧ ∀ j, z_in (u'.2.2 j)
def r_sy (v v' : xS) : Prop := (∀ j, 1 ≤ j ∧ j ≤ 18 → v'.1 j = v.1 j) ∧ v'.2.1 15 = v.2.1 15 ∧ (∀ j, j = 0 ∨ j = 1 ∨ j = 3 → v'.2.2 j = v.2.2 j) ∧ ∀ j, z_in (v'.2.2 j)
theorem r_g_same {un le of : Nat → Int32} {st : Int} {v v' : xS} {k : Nat} (h : r_g un le of st v k) (h1 : z_g (v'.1 1) (k : Int) = z_g (v.1 1) (k : Int)) (h2 : ∀ i : Int, 0 ≤ i → i < 32 → z_g (v'.1 2) (32 * (k : Int) + i) = z_g (v.1 2) (32 * (k : Int) + i) ∧ z_g (v'.1 3) (32 * (k : Int) + i) = z_g (v.1 3) (32 * (k : Int) + i)) (h3 : ∀ n : Int, 0 ≤ n → n < 1280 → z_g (v'.1 4) (1280 * (k : Int) + n) = z_g (v.1 4) (1280 * (k : Int) + n) ∧ z_g (v'.1 5) (1280 * (k : Int) + n) = z_g (v.1 5) (1280 * (k : Int) + n)) : r_g un le of st v' k := by
  obtain ⟨a1, a2, a3, a4, a5, a6⟩ := h
  refine ⟨a1, a2, a3, by rw [h1]; exact a4, fun i p q => ?_, fun n => ?_⟩
  · rw [(h2 i p q).1, (h2 i p q).2]; exact a5 i p q
  · rw [a6 n]
    unfold q_at
    by_cases hn : 0 ≤ n ∧ n < 1280
    · rw [(h3 n hn.1 hn.2).1, (h3 n hn.1 hn.2).2]
    · rw [if_neg (fun q => hn ⟨q.1, q.2.1⟩), if_neg (fun q => hn ⟨q.1, q.2.1⟩)]
theorem r_L_same {u v u' v' : xS} (h : r_L u v) (hx : ∀ j, j = 26 ∨ (32 ≤ j ∧ j ≤ 36) → u'.1 j = u.1 j) (hx2 : u'.2.1 38 = u.2.1 38) (hx3 : ∀ j, j = 6 ∨ j = 12 → u'.2.2 j = u.2.2 j) (hy : ∀ j, 7 ≤ j ∧ j ≤ 18 → v'.1 j = v.1 j) (hy2 : v'.2.1 15 = v.2.1 15) (hy3 : ∀ j, j = 1 ∨ j = 3 → v'.2.2 j = v.2.2 j) : r_L u' v' := by
  unfold r_L at *
  rw [hx 26 (by omega), hx 32 (by omega), hx 33 (by omega), hx 34 (by omega), hx 35 (by omega), hx 36 (by omega), hx2, hx3 6 (by omega), hx3 12 (by omega), hy 7 (by omega), hy 8 (by omega), hy 9 (by omega), hy 10 (by omega), hy 11 (by omega), hy 12 (by omega), hy 13 (by omega), hy 14 (by omega), hy 16 (by omega), hy 17 (by omega), hy 18 (by omega), hy2, hy3 1 (by omega), hy3 3 (by omega)]
  exact h
theorem lw_same {u v u' v' : xS} (R : lw_R u v) (hx : r_sx u u') (hy : r_sy v v') : lw_R u' v' := by
  obtain ⟨R1, R2, R3, R4, R5⟩ := R
  obtain ⟨x1, x2, x3, x4⟩ := hx
  obtain ⟨y1, y2, y3, y4⟩ := hy
  refine ⟨⟨x4, y4⟩, fun k hk => ?_, ?_, ?_, r_L_same R5 (fun j h => x1 j (by omega)) x2 (fun j h => x3 j (by omega)) (fun j h => y1 j (by omega)) y2 (fun j h => y3 j (by omega))⟩
  · rw [x1 (3 + 4 * k) (by omega), x1 (4 + 4 * k) (by omega), x1 (5 + 4 * k) (by omega), x3 (1 + k) (by omega)]
    exact r_g_same (R2 k hk) (by rw [y1 1 (by omega)]) (fun i _ _ => by rw [y1 2 (by omega), y1 3 (by omega)]; exact ⟨rfl, rfl⟩) (fun n _ _ => by rw [y1 4 (by omega), y1 5 (by omega)]; exact ⟨rfl, rfl⟩)
  · unfold r_M at *
    rw [y1 2 (by omega), y1 3 (by omega), y1 4 (by omega), y1 5 (by omega)]; exact R3
  · unfold r_V at *
    rw [x3 0 (by omega), y3 0 (by omega), x1 18 (by omega), y1 6 (by omega)]; exact R4
theorem r_sx_rfl {u v : xS} (R : lw_R u v) : r_sx u u := ⟨fun _ _ => rfl, rfl, fun _ _ => rfl, R.1.1⟩
theorem r_sy_rfl {u v : xS} (R : lw_R u v) : r_sy v v := ⟨fun _ _ => rfl, rfl, fun _ _ => rfl, R.1.2⟩
/-- a grid is put anew -/
theorem lw_grid {u v u' v' : xS} {K : Nat} (R : lw_R u v) (hI : (∀ j, z_in (u'.2.2 j)) ∧ ∀ j, z_in (v'.2.2 j)) (hx : ∀ j, j = 18 ∨ j = 26 ∨ (32 ≤ j ∧ j ≤ 36) → u'.1 j = u.1 j) (hx2 : u'.2.1 38 = u.2.1 38) (hx3 : ∀ j, j = 0 ∨ j = 6 ∨ j = 12 → u'.2.2 j = u.2.2 j)
    (hxo : ∀ k, k < 4 → k ≠ K → u'.1 (3 + 4 * k) = u.1 (3 + 4 * k) ∧ u'.1 (4 + 4 * k) = u.1 (4 + 4 * k) ∧ u'.1 (5 + 4 * k) = u.1 (5 + 4 * k) ∧ u'.2.2 (1 + k) = u.2.2 (1 + k))
    (hy : ∀ j, 6 ≤ j ∧ j ≤ 18 → v'.1 j = v.1 j) (hy2 : v'.2.1 15 = v.2.1 15) (hy3 : ∀ j, j = 0 ∨ j = 1 ∨ j = 3 → v'.2.2 j = v.2.2 j)
    (hyo : ∀ k : Nat, k < 4 → k ≠ K → z_g (v'.1 1) (k : Int) = z_g (v.1 1) (k : Int) ∧ (∀ i : Int, 0 ≤ i → i < 32 → z_g (v'.1 2) (32 * (k : Int) + i) = z_g (v.1 2) (32 * (k : Int) + i) ∧ z_g (v'.1 3) (32 * (k : Int) + i) = z_g (v.1 3) (32 * (k : Int) + i)) ∧ ∀ n : Int, 0 ≤ n → n < 1280 → z_g (v'.1 4) (1280 * (k : Int) + n) = z_g (v.1 4) (1280 * (k : Int) + n) ∧ z_g (v'.1 5) (1280 * (k : Int) + n) = z_g (v.1 5) (1280 * (k : Int) + n))
    (hM : r_M v') (hnew : r_g (u'.1 (3 + 4 * K)) (u'.1 (4 + 4 * K)) (u'.1 (5 + 4 * K)) (u'.2.2 (1 + K)) v' K) : lw_R u' v' := by
  obtain ⟨R1, R2, R3, R4, R5⟩ := R
  refine ⟨hI, fun k hk => ?_, hM, ?_, r_L_same R5 (fun j h => hx j (by omega)) hx2 (fun j h => hx3 j (by omega)) (fun j h => hy j (by omega)) hy2 (fun j h => hy3 j (by omega))⟩
  · by_cases e : k = K
    · rw [e]; exact hnew
    · obtain ⟨o1, o2, o3, o4⟩ := hxo k hk e
      obtain ⟨p1, p2, p3⟩ := hyo k hk e
      rw [o1, o2, o3, o4]
      exact r_g_same (R2 k hk) p1 p2 p3
  · unfold r_V at *
    rw [hx3 0 (by omega), hy3 0 (by omega), hx 18 (by omega), hy 6 (by omega)]; exact R4
/-- answers that are one -/
theorem w_ans_uniq {sg : Int} {T : Int → Bool} {U : Int → Int} {st r1 r2 : Int} (h1 : w_ans sg T U st r1) (h2 : w_ans sg T U st r2) : r1 = r2 := by
  rcases h1 with ⟨c1, f1, rfl⟩ | ⟨n1, rfl⟩ <;> rcases h2 with ⟨c2, f2, rfl⟩ | ⟨n2, rfl⟩
  · rw [w_fs_uniq f1 f2]
  · exact absurd f1.1 (n2 _)
  · exact absurd f2.1 (n1 _)
  · rfl
theorem st_ans_uniq {T : Int → Bool} {U : Int → Int} {n r1 r2 : Int} (h1 : st_ans T U n r1) (h2 : st_ans T U n r2) : r1 = r2 := by
  obtain ⟨l1, a1, b1, c1⟩ := h1
  obtain ⟨l2, a2, b2, c2⟩ := h2
  have hp : l1.Perm l2 := (List.perm_ext_iff_of_nodup a1 a2).mpr (fun q => (b1 q).trans (b2 q).symm)
  rw [c1, c2, hp.length_eq]
theorem p_ans_uniq {T : Int → Bool} {U : Int → Int} {n what r1 r2 : Int} (h1 : p_ans T U n what r1) (h2 : p_ans T U n what r2) : r1 = r2 := by
  unfold p_ans at h1 h2
  split at h1
  · next h => rw [if_pos h] at h2; rw [h1, h2]
  · next h =>
    rw [if_neg h] at h2
    split at h1
    · next h => rw [if_pos h] at h2; rw [h1, h2]
    · next h =>
      rw [if_neg h] at h2
      split at h1
      · next h => rw [if_pos h] at h2; exact st_ans_uniq h1 h2
      · next h =>
        rw [if_neg h] at h2
        split at h1
        · next h => rw [if_pos h] at h2; exact w_ans_uniq h1 h2
        · next h =>
          rw [if_neg h] at h2
          split at h1
          · next h => rw [if_pos h] at h2; rw [h1, h2]
          · next h =>
            rw [if_neg h] at h2
            split at h1
            · next h =>
              rw [if_pos h] at h2
              split at h1
              · next h => rw [if_pos h] at h2; exact w_ans_uniq h1 h2
              · next h => rw [if_neg h] at h2; rw [h1, h2]
            · next h =>
              rw [if_neg h] at h2
              split at h1
              · next h => rw [if_pos h] at h2; rw [h1, h2]
              · next h => rw [if_neg h] at h2; rw [h1, h2]
theorem l_pl_uniq {st : Int} {U : Int → Int} {sd lv ax r1 r2 : Int} (hne : U (l_oe sd) ≠ U (sd / 2)) (h1 : l_pl st U sd lv ax r1) (h2 : l_pl st U sd lv ax r2) : r1 = r2 := by
  unfold l_pl at h1 h2
  split at h1
  · next h => rw [if_pos h] at h2; exact b_rt_uniq (by decide) h1 h2
  · next h =>
    rw [if_neg h] at h2
    split at h1
    · next h => rw [if_pos h] at h2; exact b_rt_uniq (by omega) h1 h2
    · next h => rw [if_neg h] at h2; exact b_rt_uniq (by omega) h1 h2
theorem l_line_hs {T : Int → Bool} {U : Int → Int} {h1 h2 : Nat → Int32} {ls : List d_L} (h : ∀ k, l_lu ls h1 k = l_lu ls h2 k) (k what : Int) : l_line T U h1 ls k what = l_line T U h2 ls k what := by
  have hf : l_lu ls h1 = l_lu ls h2 := funext h
  have e1 : l_hi T U h1 ls = l_hi T U h2 ls := by
    funext q
    unfold l_hi l_hp
    rw [hf]
  have e2 : ∀ a b : Int, l_ar T U h1 ls a b ↔ l_ar T U h2 ls a b := fun a b => by
    unfold l_ar
    rw [e1, hf]
  have e3 : ∀ a b c : Int, l_pc T U h1 ls a b c ↔ l_pc T U h2 ls a b c := fun a b c => by
    unfold l_pc
    rw [e2, hf]
  have e4 : ∀ n : Nat, l_pa T U h1 ls k n = l_pa T U h2 ls k n := by
    intro n
    induction n with
    | zero => rfl
    | succ n ih =>
      by_cases hc : l_pc T U h1 ls k (l_pa T U h1 ls k n) n
      · rw [l_pa_t hc, l_pa_t ((e3 _ _ _).mp (by rw [← ih]; exact hc))]
      · rw [l_pa_f hc, l_pa_f (fun q => hc ((e3 _ _ _).mpr (by rw [ih]; exact q))), ih]
  unfold l_line
  rw [e4, e1]
