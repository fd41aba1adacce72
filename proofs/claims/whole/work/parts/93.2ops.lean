/-- a grid put anew, said of the rows -/
theorem lw_put {u v u' v' : xS} {K : Nat} (R : lw_R u v) (hK : K < 4) {un le of s1 s2 s3 s4 s5 : Nat → Int32} {st : Int} (e3 : u'.1 (3 + 4 * K) = un) (e4 : u'.1 (4 + 4 * K) = le) (e5 : u'.1 (5 + 4 * K) = of) (e1 : u'.2.2 (1 + K) = st) (hin : z_in st)
    (hux : ∀ j, j ≠ 3 + 4 * K → j ≠ 4 + 4 * K → j ≠ 5 + 4 * K → j ≠ 23 → u'.1 j = u.1 j) (hu2 : u'.2.1 = u.2.1) (hu3 : ∀ j, j ≠ 1 + K → u'.2.2 j = u.2.2 j) (f1 : v'.1 1 = s1) (f2 : v'.1 2 = s2) (f3 : v'.1 3 = s3) (f4 : v'.1 4 = s4) (f5 : v'.1 5 = s5) (hvx : ∀ j, 6 ≤ j ∧ j ≤ 18 → v'.1 j = v.1 j) (hv2 : v'.2.1 = v.2.1) (hv3 : v'.2.2 = v.2.2)
    (hM : q_bd s4 ∧ q_rw s3 s2 ∧ q_rs s3 s2 ∧ q_01 5120 s5)
    (hyo : ∀ k : Nat, k < 4 → k ≠ K → z_g s1 (k : Int) = z_g (v.1 1) (k : Int) ∧ (∀ i : Int, 0 ≤ i → i < 32 → z_g s2 (32 * (k : Int) + i) = z_g (v.1 2) (32 * (k : Int) + i) ∧ z_g s3 (32 * (k : Int) + i) = z_g (v.1 3) (32 * (k : Int) + i)) ∧ ∀ n : Int, 0 ≤ n → n < 1280 → z_g s4 (1280 * (k : Int) + n) = z_g (v.1 4) (1280 * (k : Int) + n) ∧ z_g s5 (1280 * (k : Int) + n) = z_g (v.1 5) (1280 * (k : Int) + n))
    (hst : 1 ≤ st ∧ st ≤ 100000) (hs1 : z_g s1 (K : Int) = st) (hl : ∀ i : Int, 0 ≤ i → i < 32 → z_g le i = z_g s3 (32 * (K : Int) + i) ∧ z_g of i = z_g s2 (32 * (K : Int) + i)) (hun : ∀ n : Int, 0 ≤ n → n < 1280 → z_g un n = if z_g s5 (1280 * (K : Int) + n) ≠ 0 then z_g s4 (1280 * (K : Int) + n) else -2147483648) : lw_R u' v' := by
  have hat : ∀ n : Int, g_at un n = q_at s4 s5 (K : Int) n := fun n => by
    unfold g_at q_at
    by_cases hn : 0 ≤ n ∧ n < 1280
    · rw [if_pos hn, hun n hn.1 hn.2]
      by_cases h : z_g s5 (1280 * (K : Int) + n) ≠ 0
      · rw [if_pos h, if_pos ⟨hn.1, hn.2, h⟩]
      · rw [if_neg h, if_neg (fun q => h q.2.2)]
    · rw [if_neg hn, if_neg (fun q => hn ⟨q.1, q.2.1⟩)]
  have hok : g_ok un := fun n => by
    rw [hat n]
    unfold q_at
    split
    · next h =>
      have := hM.1 (1280 * (K : Int) + n) (by omega) (by omega)
      exact Or.inr this
    · exact Or.inl rfl
  have hrw : g_rw le of := fun i a b => by
    rw [(hl i a b).1, (hl i a b).2]
    exact hM.2.1 (32 * (K : Int) + i) (by omega) (by omega)
  refine lw_grid (K := K) R ⟨fun j => ?_, by rw [hv3]; exact R.1.2⟩ (fun j h => hux j (by omega) (by omega) (by omega) (by omega)) (by rw [hu2]) (fun j h => hu3 j (by omega)) (fun k hk e => ⟨hux _ (by omega) (by omega) (by omega) (by omega), hux _ (by omega) (by omega) (by omega) (by omega), hux _ (by omega) (by omega) (by omega) (by omega), hu3 _ (by omega)⟩) hvx (by rw [hv2]) (fun j _ => by rw [hv3]) (fun k hk e => by rw [f1, f2, f3, f4, f5]; exact hyo k hk e) (by unfold r_M; rw [f2, f3, f4, f5]; exact hM) ?_
  · by_cases e : j = 1 + K
    · rw [e, e1]; exact hin
    · rw [hu3 j e]; exact R.1.1 j
  · rw [e3, e4, e5, e1]
    exact ⟨hok, hrw, hst, by rw [f1]; exact hs1, fun i a b => by rw [f2, f3]; exact hl i a b, fun n => by rw [f4, f5]; exact hat n⟩
theorem b_uf_b (b : Int) : b_uf b = -2147483648 ∨ (-8388608 ≤ b_uf b ∧ b_uf b ≤ 8388608) := by
  rw [b_uf_n]
  have h0 : 0 ≤ (b % 8388608 + 8388608) / ((2 ^ (140 - b / 8388608 % 256).toNat : Nat) : Int) := Int.ediv_nonneg (by omega) (Int.natCast_nonneg _)
  generalize (b % 8388608 + 8388608) / ((2 ^ (140 - b / 8388608 % 256).toNat : Nat) : Int) = Z at h0
  generalize (b % 8388608 + 8388608) % ((2 ^ (140 - b / 8388608 % 256).toNat : Nat) : Int) = Wd
  unfold fl_ufn
  split
  · right; omega
  · split
    · exact Or.inl rfl
    · split
      · exact Or.inl rfl
      · split <;> (right; omega)
theorem lw_un {u v : xS} (R : lw_R u v) {K : Nat} (hK : K < 4) (n : Int) (h0 : 0 ≤ n) (h1 : n < 1280) : z_g (u.1 (3 + 4 * K)) n = if z_g (v.1 5) (1280 * (K : Int) + n) ≠ 0 then z_g (v.1 4) (1280 * (K : Int) + n) else -2147483648 := by
  have h := (R.2.1 K hK).2.2.2.2.2 n
  unfold g_at q_at at h
  rw [if_pos ⟨h0, h1⟩] at h
  rw [h]
  by_cases q : z_g (v.1 5) (1280 * (K : Int) + n) ≠ 0
  · rw [if_pos q, if_pos ⟨h0, h1, q⟩]
  · rw [if_neg q, if_neg (fun h => q h.2.2)]
set_option maxHeartbeats 2000000 in
theorem op_missing {u v : xS} (R : lw_R u v) (gi : Int) (i : Int) (j : Int) {k1 : Nat} (hk_gi : z_gq gi k1) : ∀ (r1 : Int) (u' : xS) (r2 : Int) (v' : xS), (∃ (n1 : Nat → Int32), (r1 = z_b (decide ((0 ≤ gi ∧ gi < 4) ∧ m_no (g_th (u.1 (3 + 4 * k1))) i j ≠ -1)) ∧ n1 = (if (0 ≤ gi ∧ gi < 4) ∧ m_no (g_th (u.1 (3 + 4 * k1))) i j ≠ -1 then z_s (u.1 (3 + 4 * k1)) (40 * i + j) (-2147483648) else (u.1 (3 + 4 * k1)))) ∧ u' = (z_u (u.1) (3 + 4 * k1) n1, u.2.1, u.2.2)) → (∃ (n1 : Nat → Int32), (r2 = z_b (decide ((0 ≤ gi ∧ gi < 4) ∧ m_no (q_th (v.1 5) gi) i j ≠ -1)) ∧ n1 = (if (0 ≤ gi ∧ gi < 4) ∧ m_no (q_th (v.1 5) gi) i j ≠ -1 then z_s (v.1 5) (1280 * gi + (40 * i + j)) 0 else (v.1 5))) ∧ v' = (z_u (v.1) 5 n1, v.2.1, v.2.2)) → r1 = r2 ∧ lw_R u' v' := by
  rintro r1 u' r2 v' ⟨n1, ⟨a1, a2⟩, rfl⟩ ⟨m1, ⟨b1, b2⟩, rfl⟩
  
  have hK := hk_gi.1
  have G := R.2.1 k1 hK
  obtain ⟨M1, M2, M3, M4⟩ := R.2.2.1
  
  have hcc : ((0 ≤ gi ∧ gi < 4) ∧ m_no (g_th (u.1 (3 + 4 * k1))) i j ≠ -1) ↔ ((0 ≤ gi ∧ gi < 4) ∧ m_no (q_th (v.1 5) gi) i j ≠ -1) := by
    constructor
    · rintro ⟨h, h2⟩; exact ⟨h, by rw [← (lw_TU R hk_gi h).1]; exact h2⟩
    · rintro ⟨h, h2⟩; exact ⟨h, by rw [(lw_TU R hk_gi h).1]; exact h2⟩
  by_cases hc : (0 ≤ gi ∧ gi < 4) ∧ m_no (g_th (u.1 (3 + 4 * k1))) i j ≠ -1
  · have hd := hcc.mp hc
    rw [decide_eq_true hc] at a1
    rw [decide_eq_true hd] at b1
    rw [if_pos hc] at a2
    rw [if_pos hd, hk_gi.2 hc.1] at b2
    obtain ⟨-, i0, i1, j0, j1, -⟩ := m_no_some hc.2
    refine ⟨by rw [a1, b1], lw_put (K := k1) (un := n1) (s5 := m1) R hK z_u_s (z_u_n (by omega)) (z_u_n (by omega)) rfl (R.1.1 _) (fun j h _ _ _ => z_u_n h) rfl (fun _ _ => rfl) (show (z_u v.1 5 m1) 1 = v.1 1 from (z_u_n (by decide))) (show (z_u v.1 5 m1) 2 = v.1 2 from (z_u_n (by decide))) (show (z_u v.1 5 m1) 3 = v.1 3 from (z_u_n (by decide))) (show (z_u v.1 5 m1) 4 = v.1 4 from (z_u_n (by decide))) (show (z_u v.1 5 m1) 5 = m1 from z_u_s) (fun j h => z_u_n (by omega)) rfl rfl ⟨M1, M2, M3, ?_⟩ (fun k hk e => ⟨rfl, fun _ _ _ => ⟨rfl, rfl⟩, fun n p q => ⟨rfl, ?_⟩⟩) G.2.2.1 G.2.2.2.1 G.2.2.2.2.1 (fun n p q => ?_)⟩
    · intro q p1 p2
      rw [b2, z_gs ⟨by decide, by decide⟩ (by omega) p1]
      split
      · exact Or.inl rfl
      · exact M4 q p1 p2
    · rw [b2, z_gs ⟨by decide, by decide⟩ (by omega) (by omega), if_neg (by omega)]
    · rw [a2, b2, z_gs ⟨by decide, by decide⟩ (by omega) p, z_gs ⟨by decide, by decide⟩ (by omega) (by omega)]
      by_cases e : n = 40 * i + j
      · have e2 : 1280 * (k1 : Int) + n = 1280 * (k1 : Int) + (40 * i + j) := by omega
        rw [if_pos e, if_neg (by rw [if_pos e2]; decide)]
      · have e2 : ¬ 1280 * (k1 : Int) + n = 1280 * (k1 : Int) + (40 * i + j) := by omega
        rw [if_neg e, lw_un R hK n p q, if_neg (c := 1280 * (k1 : Int) + n = 1280 * (k1 : Int) + (40 * i + j)) e2]
  · have hd := fun h => hc (hcc.mpr h)
    rw [decide_eq_false hc] at a1
    rw [decide_eq_false hd] at b1
    rw [if_neg hc] at a2
    rw [if_neg hd] at b2
    refine ⟨by rw [a1, b1], lw_same R ⟨fun q _ => ?_, rfl, fun _ _ => rfl, R.1.1⟩ ⟨fun q _ => ?_, rfl, fun _ _ => rfl, R.1.2⟩⟩
    · show z_u u.1 (3 + 4 * k1) n1 q = _
      rw [a2]; unfold z_u; split
      · next h => rw [h]
      · rfl
    · show z_u v.1 5 m1 q = _
      rw [b2]; unfold z_u; split
      · next h => rw [h]
      · rfl
set_option maxHeartbeats 2000000 in
theorem op_height {u v : xS} (R : lw_R u v) (gi : Int) (i : Int) (j : Int) (bits : Int) {k1 : Nat} (hk_gi : z_gq gi k1) : (g_rw (u.1 (4 + 4 * k1)) (u.1 (5 + 4 * k1))) ∧ (q_rw (v.1 3) (v.1 2)) ∧ (q_rs (v.1 3) (v.1 2)) ∧ ∀ (r1 : Int) (u' : xS) (r2 : Int) (v' : xS), (∃ (n1 : Nat → Int32), (r1 = z_b (decide ((0 ≤ gi ∧ gi < 4) ∧ b_uf bits ≠ -2147483648 ∧ 0 ≤ i ∧ i < 32 ∧ 0 ≤ j ∧ j < 40 ∧ z_g (u.1 (5 + 4 * k1)) i ≤ j ∧ j < z_g (u.1 (5 + 4 * k1)) i + z_g (u.1 (4 + 4 * k1)) i)) ∧ n1 = (if (0 ≤ gi ∧ gi < 4) ∧ b_uf bits ≠ -2147483648 ∧ 0 ≤ i ∧ i < 32 ∧ 0 ≤ j ∧ j < 40 ∧ z_g (u.1 (5 + 4 * k1)) i ≤ j ∧ j < z_g (u.1 (5 + 4 * k1)) i + z_g (u.1 (4 + 4 * k1)) i then z_s (u.1 (3 + 4 * k1)) (40 * i + j) (b_uf bits) else (u.1 (3 + 4 * k1)))) ∧ u' = (z_u (u.1) (3 + 4 * k1) n1, u.2.1, u.2.2)) → (∃ (n1 : Nat → Int32), ∃ (n2 : Nat → Int32), (r2 = z_b (decide ((0 ≤ gi ∧ gi < 4) ∧ b_uf bits ≠ -2147483648 ∧ 0 ≤ i ∧ i < 32 ∧ 0 ≤ j ∧ j < 40 ∧ z_g (v.1 2) (32 * gi + i) ≤ j ∧ j < z_g (v.1 2) (32 * gi + i) + z_g (v.1 3) (32 * gi + i))) ∧ (((0 ≤ gi ∧ gi < 4) ∧ b_uf bits ≠ -2147483648 ∧ 0 ≤ i ∧ i < 32 ∧ 0 ≤ j ∧ j < 40 ∧ z_g (v.1 2) (32 * gi + i) ≤ j ∧ j < z_g (v.1 2) (32 * gi + i) + z_g (v.1 3) (32 * gi + i)) → n1 = z_s (v.1 4) (1280 * gi + (40 * i + j)) (b_uf bits) ∧ n2 = z_s (v.1 5) (1280 * gi + (40 * i + j)) 1) ∧ (¬ ((0 ≤ gi ∧ gi < 4) ∧ b_uf bits ≠ -2147483648 ∧ 0 ≤ i ∧ i < 32 ∧ 0 ≤ j ∧ j < 40 ∧ z_g (v.1 2) (32 * gi + i) ≤ j ∧ j < z_g (v.1 2) (32 * gi + i) + z_g (v.1 3) (32 * gi + i)) → n1 = (v.1 4) ∧ n2 = (v.1 5))) ∧ v' = (z_u (z_u (v.1) 4 n1) 5 n2, v.2.1, v.2.2)) → r1 = r2 ∧ lw_R u' v' := by
  refine ⟨(R.2.1 k1 hk_gi.1).2.1, R.2.2.1.2.1, R.2.2.1.2.2.1, ?_⟩
  rintro r1 u' r2 v' ⟨n1, ⟨a1, a2⟩, rfl⟩ ⟨m1, m2, ⟨b1, b2, b3⟩, rfl⟩
  
  have hK := hk_gi.1
  have G := R.2.1 k1 hK
  obtain ⟨M1, M2, M3, M4⟩ := R.2.2.1
  
  have hcc : ((0 ≤ gi ∧ gi < 4) ∧ b_uf bits ≠ -2147483648 ∧ 0 ≤ i ∧ i < 32 ∧ 0 ≤ j ∧ j < 40 ∧ z_g (u.1 (5 + 4 * k1)) i ≤ j ∧ j < z_g (u.1 (5 + 4 * k1)) i + z_g (u.1 (4 + 4 * k1)) i) ↔ ((0 ≤ gi ∧ gi < 4) ∧ b_uf bits ≠ -2147483648 ∧ 0 ≤ i ∧ i < 32 ∧ 0 ≤ j ∧ j < 40 ∧ z_g (v.1 2) (32 * gi + i) ≤ j ∧ j < z_g (v.1 2) (32 * gi + i) + z_g (v.1 3) (32 * gi + i)) := by
    constructor
    · rintro ⟨h, h2, h3, h4, h5, h6, h7, h8⟩
      have := G.2.2.2.2.1 i h3 h4
      rw [← hk_gi.2 h] at this
      exact ⟨h, h2, h3, h4, h5, h6, by omega, by omega⟩
    · rintro ⟨h, h2, h3, h4, h5, h6, h7, h8⟩
      have := G.2.2.2.2.1 i h3 h4
      rw [← hk_gi.2 h] at this
      exact ⟨h, h2, h3, h4, h5, h6, by omega, by omega⟩
  by_cases hc : (0 ≤ gi ∧ gi < 4) ∧ b_uf bits ≠ -2147483648 ∧ 0 ≤ i ∧ i < 32 ∧ 0 ≤ j ∧ j < 40 ∧ z_g (u.1 (5 + 4 * k1)) i ≤ j ∧ j < z_g (u.1 (5 + 4 * k1)) i + z_g (u.1 (4 + 4 * k1)) i
  · have hd := hcc.mp hc
    rw [decide_eq_true hc] at a1
    rw [decide_eq_true hd] at b1
    rw [if_pos hc] at a2
    obtain ⟨b2, b4⟩ := b2 hd
    rw [hk_gi.2 hc.1] at b2 b4
    obtain ⟨_, c2, i0, i1, j0, j1, _, _⟩ := hc
    have hub : -8388608 ≤ b_uf bits ∧ b_uf bits ≤ 8388608 := by
      rcases b_uf_b bits with h | h
      · exact absurd h c2
      · exact h
    have huz : z_in (b_uf bits) := ⟨by omega, by omega⟩
    refine ⟨by rw [a1, b1], lw_put (K := k1) (un := n1) (s4 := m1) (s5 := m2) R hK z_u_s (z_u_n (by omega)) (z_u_n (by omega)) rfl (R.1.1 _) (fun j h _ _ _ => z_u_n h) rfl (fun _ _ => rfl) (show (z_u (z_u v.1 4 m1) 5 m2) 1 = v.1 1 from ((z_u_n (by decide)).trans (z_u_n (by decide)))) (show (z_u (z_u v.1 4 m1) 5 m2) 2 = v.1 2 from ((z_u_n (by decide)).trans (z_u_n (by decide)))) (show (z_u (z_u v.1 4 m1) 5 m2) 3 = v.1 3 from ((z_u_n (by decide)).trans (z_u_n (by decide)))) (show (z_u (z_u v.1 4 m1) 5 m2) 4 = m1 from ((z_u_n (by decide)).trans z_u_s)) (show (z_u (z_u v.1 4 m1) 5 m2) 5 = m2 from z_u_s) (fun j h => (z_u_n (by omega)).trans (z_u_n (by omega))) rfl rfl ⟨?_, M2, M3, ?_⟩ (fun k hk e => ⟨rfl, fun _ _ _ => ⟨rfl, rfl⟩, fun n p q => ?_⟩) G.2.2.1 G.2.2.2.1 G.2.2.2.2.1 (fun n p q => ?_)⟩
    · intro q p1 p2
      rw [b2, z_gs huz (by omega) p1]
      split
      · exact hub
      · exact M1 q p1 p2
    · intro q p1 p2
      rw [b4, z_gs ⟨by decide, by decide⟩ (by omega) p1]
      split
      · exact Or.inr rfl
      · exact M4 q p1 p2
    · rw [b2, b4, z_gs huz (by omega) (by omega), if_neg (by omega), z_gs ⟨by decide, by decide⟩ (by omega) (by omega), if_neg (by omega)]; exact ⟨rfl, rfl⟩
    · rw [a2, b2, b4, z_gs huz (by omega) p, z_gs huz (by omega) (by omega), z_gs ⟨by decide, by decide⟩ (by omega) (by omega)]
      by_cases e : n = 40 * i + j
      · have e2 : 1280 * (k1 : Int) + n = 1280 * (k1 : Int) + (40 * i + j) := by omega
        rw [if_pos e, if_pos (c := _ ≠ (0:Int)) (by rw [if_pos e2]; decide), if_pos e2]
      · have e2 : ¬ 1280 * (k1 : Int) + n = 1280 * (k1 : Int) + (40 * i + j) := by omega
        rw [if_neg e, lw_un R hK n p q, if_neg (c := 1280 * (k1 : Int) + n = 1280 * (k1 : Int) + (40 * i + j)) e2, if_neg (c := 1280 * (k1 : Int) + n = 1280 * (k1 : Int) + (40 * i + j)) e2]
  · have hd := fun h => hc (hcc.mpr h)
    rw [decide_eq_false hc] at a1
    rw [decide_eq_false hd] at b1
    rw [if_neg hc] at a2
    obtain ⟨b3, b4⟩ := b3 hd
    refine ⟨by rw [a1, b1], lw_same R ⟨fun q _ => ?_, rfl, fun _ _ => rfl, R.1.1⟩ ⟨fun q _ => ?_, rfl, fun _ _ => rfl, R.1.2⟩⟩
    · show z_u u.1 (3 + 4 * k1) n1 q = _
      rw [a2]; unfold z_u; split
      · next h => rw [h]
      · rfl
    · show z_u (z_u v.1 4 m1) 5 m2 q = _
      rw [b3, b4]; unfold z_u; split
      · next h => rw [h]
      · split
        · next h => rw [h]
        · rfl
set_option maxHeartbeats 2000000 in
theorem op_row {u v : xS} (R : lw_R u v) (gi : Int) (i : Int) (len : Int) (ofs : Int) {k1 : Nat} (hk_gi : z_gq gi k1) : ∀ (r1 : Int) (u' : xS) (r2 : Int) (v' : xS), (∃ (n1 : Nat → Int32), ∃ (n2 : Nat → Int32), ∃ (n3 : Nat → Int32), (r1 = z_b (decide ((0 ≤ gi ∧ gi < 4) ∧ 0 ≤ i ∧ i < 32 ∧ 0 ≤ ofs ∧ ofs < 40 ∧ 0 ≤ len ∧ len ≤ 40 - ofs)) ∧ ((0 ≤ gi ∧ gi < 4) ∧ 0 ≤ i ∧ i < 32 ∧ 0 ≤ ofs ∧ ofs < 40 ∧ 0 ≤ len ∧ len ≤ 40 - ofs → (∀ q : Int, 0 ≤ q → z_g n1 q = if 40 * i ≤ q ∧ q < 40 * i + 40 then -2147483648 else z_g (u.1 (3 + 4 * k1)) q) ∧ n2 = z_s (u.1 (4 + 4 * k1)) i len ∧ n3 = z_s (u.1 (5 + 4 * k1)) i ofs) ∧ (¬ ((0 ≤ gi ∧ gi < 4) ∧ 0 ≤ i ∧ i < 32 ∧ 0 ≤ ofs ∧ ofs < 40 ∧ 0 ≤ len ∧ len ≤ 40 - ofs) → n1 = (u.1 (3 + 4 * k1)) ∧ n2 = (u.1 (4 + 4 * k1)) ∧ n3 = (u.1 (5 + 4 * k1)))) ∧ u' = (z_u (z_u (z_u (u.1) (3 + 4 * k1) n1) (4 + 4 * k1) n2) (5 + 4 * k1) n3, u.2.1, u.2.2)) → (∃ (n1 : Nat → Int32), ∃ (n2 : Nat → Int32), ∃ (n3 : Nat → Int32), (r2 = z_b (decide ((0 ≤ gi ∧ gi < 4) ∧ 0 ≤ i ∧ i < 32 ∧ 0 ≤ ofs ∧ ofs < 40 ∧ 0 ≤ len ∧ len ≤ 40 - ofs)) ∧ ((0 ≤ gi ∧ gi < 4) ∧ 0 ≤ i ∧ i < 32 ∧ 0 ≤ ofs ∧ ofs < 40 ∧ 0 ≤ len ∧ len ≤ 40 - ofs → (∀ q : Int, 0 ≤ q → z_g n1 q = if 1280 * gi + 40 * i ≤ q ∧ q < 1280 * gi + 40 * i + 40 then 0 else z_g (v.1 5) q) ∧ n2 = z_s (v.1 3) (32 * gi + i) len ∧ n3 = z_s (v.1 2) (32 * gi + i) ofs) ∧ (¬ ((0 ≤ gi ∧ gi < 4) ∧ 0 ≤ i ∧ i < 32 ∧ 0 ≤ ofs ∧ ofs < 40 ∧ 0 ≤ len ∧ len ≤ 40 - ofs) → n1 = (v.1 5) ∧ n2 = (v.1 3) ∧ n3 = (v.1 2))) ∧ v' = (z_u (z_u (z_u (v.1) 5 n1) 3 n2) 2 n3, v.2.1, v.2.2)) → r1 = r2 ∧ lw_R u' v' := by
  rintro r1 u' r2 v' ⟨n1, n2, n3, ⟨a1, a2, a3⟩, rfl⟩ ⟨m1, m2, m3, ⟨b1, b2, b3⟩, rfl⟩
  
  have hK := hk_gi.1
  have G := R.2.1 k1 hK
  obtain ⟨M1, M2, M3, M4⟩ := R.2.2.1
  
  refine ⟨by rw [a1, b1], ?_⟩
  by_cases hc : (0 ≤ gi ∧ gi < 4) ∧ 0 ≤ i ∧ i < 32 ∧ 0 ≤ ofs ∧ ofs < 40 ∧ 0 ≤ len ∧ len ≤ 40 - ofs
  · obtain ⟨p1, p2, p3⟩ := a2 hc
    obtain ⟨q1, q2, q3⟩ := b2 hc
    rw [hk_gi.2 hc.1] at q1 q2 q3
    obtain ⟨_, i0, i1, o0, o1, l0, l1⟩ := hc
    have zl : z_in len := ⟨by omega, by omega⟩
    have zo : z_in ofs := ⟨by omega, by omega⟩
    refine lw_put (K := k1) (un := n1) (le := n2) (of := n3) (s2 := m3) (s3 := m2) (s5 := m1) R hK ((z_u_n (by omega)).trans ((z_u_n (by omega)).trans z_u_s)) ((z_u_n (by omega)).trans z_u_s) z_u_s rfl (R.1.1 _) (fun j h h2 h3 _ => (z_u_n h3).trans ((z_u_n h2).trans (z_u_n h))) rfl (fun _ _ => rfl) (show (z_u (z_u (z_u v.1 5 m1) 3 m2) 2 m3) 1 = v.1 1 from ((z_u_n (by decide)).trans ((z_u_n (by decide)).trans (z_u_n (by decide))))) (show (z_u (z_u (z_u v.1 5 m1) 3 m2) 2 m3) 2 = m3 from z_u_s) (show (z_u (z_u (z_u v.1 5 m1) 3 m2) 2 m3) 3 = m2 from ((z_u_n (by decide)).trans z_u_s)) (show (z_u (z_u (z_u v.1 5 m1) 3 m2) 2 m3) 4 = v.1 4 from ((z_u_n (by decide)).trans ((z_u_n (by decide)).trans (z_u_n (by decide))))) (show (z_u (z_u (z_u v.1 5 m1) 3 m2) 2 m3) 5 = m1 from ((z_u_n (by decide)).trans ((z_u_n (by decide)).trans z_u_s))) (fun j h => (z_u_n (by omega)).trans ((z_u_n (by omega)).trans (z_u_n (by omega)))) rfl rfl ⟨M1, ?_, ?_, ?_⟩ (fun k hk e => ⟨rfl, fun x x0 x1 => ?_, fun n p q => ⟨rfl, ?_⟩⟩) G.2.2.1 G.2.2.2.1 (fun x x0 x1 => ?_) (fun n p q => ?_)
    · intro q a b
      rw [q2, q3, z_gs zl (by omega) a, z_gs zo (by omega) a]
      have := M2 q a b
      by_cases e : q = 32 * (k1 : Int) + i
      · rw [if_pos e, if_pos e]; omega
      · rw [if_neg e, if_neg e]; exact this
    · intro q a b
      rw [q2, q3, z_gs zl (by omega) a, z_gs zo (by omega) a]
      have := M3 q a b
      by_cases e : q = 32 * (k1 : Int) + i
      · rw [if_pos e, if_pos e]; omega
      · rw [if_neg e, if_neg e]; exact this
    · intro q a b
      rw [q1 q a]
      split
      · exact Or.inl rfl
      · exact M4 q a b
    · rw [q2, q3, z_gs zl (by omega) (by omega), z_gs zo (by omega) (by omega), if_neg (by omega), if_neg (by omega)]; exact ⟨rfl, rfl⟩
    · rw [q1 _ (by omega), if_neg (by omega)]
    · rw [p2, p3, q2, q3, z_gs zl (by omega) x0, z_gs zo (by omega) x0, z_gs zl (by omega) (by omega), z_gs zo (by omega) (by omega)]
      by_cases e : x = i
      · rw [if_pos e, if_pos e, if_pos (by omega), if_pos (by omega)]; exact ⟨rfl, rfl⟩
      · rw [if_neg e, if_neg e, if_neg (by omega), if_neg (by omega)]; exact G.2.2.2.2.1 x x0 x1
    · rw [p1 n p, q1 _ (by omega)]
      by_cases e : 40 * i ≤ n ∧ n < 40 * i + 40
      · rw [if_pos e, if_pos (show 1280 * (k1 : Int) + 40 * i ≤ 1280 * (k1 : Int) + n ∧ 1280 * (k1 : Int) + n < 1280 * (k1 : Int) + 40 * i + 40 by omega), if_neg (by decide)]
      · rw [if_neg e, if_neg (show ¬ (1280 * (k1 : Int) + 40 * i ≤ 1280 * (k1 : Int) + n ∧ 1280 * (k1 : Int) + n < 1280 * (k1 : Int) + 40 * i + 40) by omega)]; exact lw_un R hK n p q
  · obtain ⟨p1, p2, p3⟩ := a3 hc
    obtain ⟨q1, q2, q3⟩ := b3 hc
    refine lw_same R ⟨fun q _ => ?_, rfl, fun _ _ => rfl, R.1.1⟩ ⟨fun q _ => ?_, rfl, fun _ _ => rfl, R.1.2⟩
    · show z_u (z_u (z_u u.1 (3 + 4 * k1) n1) (4 + 4 * k1) n2) (5 + 4 * k1) n3 q = _
      rw [p1, p2, p3]; unfold z_u; split
      · next h => rw [h]
      · split
        · next h => rw [h]
        · split
          · next h => rw [h]
          · rfl
    · show z_u (z_u (z_u v.1 5 m1) 3 m2) 2 m3 q = _
      rw [q1, q2, q3]; unfold z_u; split
      · next h => rw [h]
      · split
        · next h => rw [h]
        · split
          · next h => rw [h]
          · rfl
