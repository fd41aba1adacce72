/-- a grid that is put anew from another, through rows of its own -/
theorem lw_fill {u v u' v' : xS} {k1 k2 : Nat} (R : lw_R u v) (h1 : k1 < 4) (h2 : k2 < 4) {n2 m1 m2 m3 m4 m5 m6 m7 : Nat → Int32} (e3 : u'.1 (3 + 4 * k2) = n2) (e4 : u'.1 (4 + 4 * k2) = u.1 (4 + 4 * k1)) (e5 : u'.1 (5 + 4 * k2) = u.1 (5 + 4 * k1)) (e1 : u'.2.2 (1 + k2) = u.2.2 (1 + k1))
    (hux : ∀ j, j ≠ 3 + 4 * k2 → j ≠ 4 + 4 * k2 → j ≠ 5 + 4 * k2 → j ≠ 23 → u'.1 j = u.1 j) (hu2 : u'.2.1 = u.2.1) (hu3 : ∀ j, j ≠ 1 + k2 → u'.2.2 j = u.2.2 j) (f1 : v'.1 1 = m1) (f2 : v'.1 2 = m2) (f3 : v'.1 3 = m3) (f4 : v'.1 4 = m4) (f5 : v'.1 5 = m5) (hvx : ∀ j, 6 ≤ j ∧ j ≤ 18 → v'.1 j = v.1 j) (hv2 : v'.2.1 = v.2.1) (hv3 : v'.2.2 = v.2.2)
    (p1 : m1 = z_s (v.1 1) (k2 : Int) (z_g (v.1 1) (k1 : Int)))
    (p2 : ∀ q : Int, 0 ≤ q → z_g m2 q = if 32 * (k2 : Int) ≤ q ∧ q < 32 * (k2 : Int) + 32 then z_g (v.1 2) (q - 32 * (k2 : Int) + 32 * (k1 : Int)) else z_g (v.1 2) q)
    (p3 : ∀ q : Int, 0 ≤ q → z_g m3 q = if 32 * (k2 : Int) ≤ q ∧ q < 32 * (k2 : Int) + 32 then z_g (v.1 3) (q - 32 * (k2 : Int) + 32 * (k1 : Int)) else z_g (v.1 3) q)
    (p4 : ∀ q : Int, 0 ≤ q → z_g m4 q = if 1280 * (k2 : Int) ≤ q ∧ q < 1280 * (k2 : Int) + 1280 then z_g m6 (q - 1280 * (k2 : Int)) else z_g (v.1 4) q)
    (p5 : ∀ q : Int, 0 ≤ q → z_g m5 q = if 1280 * (k2 : Int) ≤ q ∧ q < 1280 * (k2 : Int) + 1280 then z_g m7 (q - 1280 * (k2 : Int)) else z_g (v.1 5) q)
    (hb : ∀ n : Int, 0 ≤ n → n < 1280 → (z_g m7 n = 0 ∨ z_g m7 n = 1) ∧ (-8388608 ≤ z_g m6 n ∧ z_g m6 n ≤ 8388608) ∧ z_g n2 n = if z_g m7 n ≠ 0 then z_g m6 n else -2147483648) : lw_R u' v' := by
  have G := R.2.1 k1 h1
  obtain ⟨M1, M2, M3, M4⟩ := R.2.2.1
  refine lw_put (K := k2) R h2 e3 e4 e5 e1 (R.1.1 _) hux hu2 hu3 f1 f2 f3 f4 f5 hvx hv2 hv3 ⟨?_, ?_, ?_, ?_⟩ (fun k hk e => ⟨?_, fun i a b => ⟨?_, ?_⟩, fun n a b => ⟨?_, ?_⟩⟩) G.2.2.1 ?_ (fun i a b => ?_) (fun n a b => ?_)
  · intro q a b
    rw [p4 q a]; split
    · exact (hb _ (by omega) (by omega)).2.1
    · exact M1 q a b
  · intro q a b
    rw [p2 q a, p3 q a]
    by_cases c : 32 * (k2 : Int) ≤ q ∧ q < 32 * (k2 : Int) + 32
    · rw [if_pos c, if_pos c]; exact M2 _ (by omega) (by omega)
    · rw [if_neg c, if_neg c]; exact M2 q a b
  · intro q a b
    rw [p2 q a, p3 q a]
    by_cases c : 32 * (k2 : Int) ≤ q ∧ q < 32 * (k2 : Int) + 32
    · rw [if_pos c, if_pos c]; exact M3 _ (by omega) (by omega)
    · rw [if_neg c, if_neg c]; exact M3 q a b
  · intro q a b
    rw [p5 q a]; split
    · exact (hb _ (by omega) (by omega)).1
    · exact M4 q a b
  · rw [p1, z_gs (z_in_g _ _) (by omega) (by omega), if_neg (by omega)]
  · rw [p2 _ (by omega), if_neg (by omega)]
  · rw [p3 _ (by omega), if_neg (by omega)]
  · rw [p4 _ (by omega), if_neg (by omega)]
  · rw [p5 _ (by omega), if_neg (by omega)]
  · rw [p1, z_gs (z_in_g _ _) (by omega) (by omega), if_pos rfl]; exact G.2.2.2.1
  · rw [p2 _ (by omega), p3 _ (by omega), if_pos ⟨by omega, by omega⟩, if_pos ⟨by omega, by omega⟩, show 32 * (k2 : Int) + i - 32 * (k2 : Int) + 32 * (k1 : Int) = 32 * (k1 : Int) + i by omega]
    exact G.2.2.2.2.1 i a b
  · rw [p4 _ (by omega), p5 _ (by omega), if_pos (c := 1280 * (k2 : Int) ≤ 1280 * (k2 : Int) + n ∧ 1280 * (k2 : Int) + n < 1280 * (k2 : Int) + 1280) ⟨by omega, by omega⟩, if_pos (c := 1280 * (k2 : Int) ≤ 1280 * (k2 : Int) + n ∧ 1280 * (k2 : Int) + n < 1280 * (k2 : Int) + 1280) ⟨by omega, by omega⟩, show 1280 * (k2 : Int) + n - 1280 * (k2 : Int) = n by omega]
    exact (hb n a b).2.2
theorem z_u_id {α : Type} {f : Nat → α} {k : Nat} {x : α} (h : x = f k) (j : Nat) : z_u f k x j = f j := by
  unfold z_u; split
  · next e => rw [e]; exact h
  · rfl
set_option maxHeartbeats 2000000 in
theorem op_smooth {u v : xS} (R : lw_R u v) (gi : Int) (to : Int) (weight : Int) {k1 : Nat} {k2 : Nat} (hk_gi : z_gq gi k1) (hk_to : z_gq to k2) : (g_ok (u.1 (3 + 4 * k1))) ∧ (q_bd (v.1 4)) ∧ (q_01 5120 (v.1 5)) ∧ ∀ (r1 : Int) (u' : xS) (r2 : Int) (v' : xS), (∃ (n1 : Nat → Int32), ∃ (n2 : Nat → Int32), ∃ (n3 : Nat → Int32), ∃ (n4 : Nat → Int32), ∃ (n5 : Int), z_in n5 ∧ (r1 = z_b (decide ((0 ≤ gi ∧ gi < 4) ∧ (0 ≤ to ∧ to < 4) ∧ 1 ≤ weight ∧ weight ≤ 1000)) ∧ ((0 ≤ gi ∧ gi < 4) ∧ (0 ≤ to ∧ to < 4) ∧ 1 ≤ weight ∧ weight ≤ 1000 → (∀ n : Int, 0 ≤ n → n < 1280 → z_g n2 n = f_sm (u.1 (3 + 4 * k1)) weight n) ∧ n3 = (u.1 (4 + 4 * k1)) ∧ n4 = (u.1 (5 + 4 * k1)) ∧ n5 = (u.2.2 (1 + k1))) ∧ (¬ ((0 ≤ gi ∧ gi < 4) ∧ (0 ≤ to ∧ to < 4) ∧ 1 ≤ weight ∧ weight ≤ 1000) → n2 = (u.1 (3 + 4 * k2)) ∧ n3 = (u.1 (4 + 4 * k2)) ∧ n4 = (u.1 (5 + 4 * k2)) ∧ n5 = (u.2.2 (1 + k2)))) ∧ u' = (z_u (z_u (z_u (z_u (u.1) 23 n1) (3 + 4 * k2) n2) (4 + 4 * k2) n3) (5 + 4 * k2) n4, u.2.1, z_u (u.2.2) (1 + k2) n5)) → (∃ (n1 : Nat → Int32), ∃ (n2 : Nat → Int32), ∃ (n3 : Nat → Int32), ∃ (n4 : Nat → Int32), ∃ (n5 : Nat → Int32), ∃ (n6 : Nat → Int32), ∃ (n7 : Nat → Int32), (r2 = z_b (decide ((0 ≤ gi ∧ gi < 4) ∧ (0 ≤ to ∧ to < 4) ∧ 1 ≤ weight ∧ weight ≤ 1000)) ∧ ((0 ≤ gi ∧ gi < 4) ∧ (0 ≤ to ∧ to < 4) ∧ 1 ≤ weight ∧ weight ≤ 1000 → (n1 = z_s (v.1 1) to (z_g (v.1 1) gi) ∧ (∀ q : Int, 0 ≤ q → z_g n2 q = if 32 * to ≤ q ∧ q < 32 * to + 32 then z_g (v.1 2) (q - 32 * to + 32 * gi) else z_g (v.1 2) q) ∧ (∀ q : Int, 0 ≤ q → z_g n3 q = if 32 * to ≤ q ∧ q < 32 * to + 32 then z_g (v.1 3) (q - 32 * to + 32 * gi) else z_g (v.1 3) q) ∧ (∀ q : Int, 0 ≤ q → z_g n4 q = if 1280 * to ≤ q ∧ q < 1280 * to + 1280 then z_g n6 (q - 1280 * to) else z_g (v.1 4) q) ∧ (∀ q : Int, 0 ≤ q → z_g n5 q = if 1280 * to ≤ q ∧ q < 1280 * to + 1280 then z_g n7 (q - 1280 * to) else z_g (v.1 5) q)) ∧ ∀ n : Int, 0 ≤ n → n < 1280 → z_g n7 n = z_g (v.1 5) (1280 * gi + n) ∧ z_g n6 n = (if (q_th (v.1 5) gi) n = true then m_sm (q_th (v.1 5) gi) (q_at (v.1 4) (v.1 5) gi) n weight else 0)) ∧ (¬ ((0 ≤ gi ∧ gi < 4) ∧ (0 ≤ to ∧ to < 4) ∧ 1 ≤ weight ∧ weight ≤ 1000) → n1 = (v.1 1) ∧ n2 = (v.1 2) ∧ n3 = (v.1 3) ∧ n4 = (v.1 4) ∧ n5 = (v.1 5) ∧ n6 = (v.1 28) ∧ n7 = (v.1 29))) ∧ v' = (z_u (z_u (z_u (z_u (z_u (z_u (z_u (v.1) 1 n1) 2 n2) 3 n3) 4 n4) 5 n5) 28 n6) 29 n7, v.2.1, v.2.2)) → r1 = r2 ∧ lw_R u' v' := by
  refine ⟨lw_gok R hk_gi, R.2.2.1.1, R.2.2.1.2.2.2, ?_⟩
  rintro r1 u' r2 v' ⟨n1, n2, n3, n4, n5, hn5, ⟨a1, a2, a3⟩, rfl⟩ ⟨m1, m2, m3, m4, m5, m6, m7, ⟨b0, b1, b2⟩, rfl⟩
  refine ⟨by rw [a1, b0], ?_⟩
  by_cases hc : (0 ≤ gi ∧ gi < 4) ∧ (0 ≤ to ∧ to < 4) ∧ 1 ≤ weight ∧ weight ≤ 1000
  · obtain ⟨a4, a5, a6, a7⟩ := a2 hc
    obtain ⟨⟨p1, p2, p3, p4, p5⟩, p6⟩ := b1 hc
    obtain ⟨eT, eU⟩ := lw_TU R hk_gi hc.1
    have eg := hk_gi.2 hc.1
    have et := hk_to.2 hc.2.1
    have h0 := hk_gi.1
    have h1 := hk_to.1
    refine lw_fill (k1 := k1) (k2 := k2) (n2 := n2) (m6 := m6) (m7 := m7) R h0 h1 ?_ ?_ ?_ (by show z_u u.2.2 (1 + k2) n5 (1 + k2) = _; rw [z_u_s, a7]) (fun j p q r s => ?_) rfl (fun j h => z_u_n h) (show (z_u (z_u (z_u (z_u (z_u (z_u (z_u v.1 1 m1) 2 m2) 3 m3) 4 m4) 5 m5) 28 m6) 29 m7) 1 = m1 from ((z_u_n (by decide)).trans ((z_u_n (by decide)).trans ((z_u_n (by decide)).trans ((z_u_n (by decide)).trans ((z_u_n (by decide)).trans ((z_u_n (by decide)).trans z_u_s))))))) (show (z_u (z_u (z_u (z_u (z_u (z_u (z_u v.1 1 m1) 2 m2) 3 m3) 4 m4) 5 m5) 28 m6) 29 m7) 2 = m2 from ((z_u_n (by decide)).trans ((z_u_n (by decide)).trans ((z_u_n (by decide)).trans ((z_u_n (by decide)).trans ((z_u_n (by decide)).trans z_u_s)))))) (show (z_u (z_u (z_u (z_u (z_u (z_u (z_u v.1 1 m1) 2 m2) 3 m3) 4 m4) 5 m5) 28 m6) 29 m7) 3 = m3 from ((z_u_n (by decide)).trans ((z_u_n (by decide)).trans ((z_u_n (by decide)).trans ((z_u_n (by decide)).trans z_u_s))))) (show (z_u (z_u (z_u (z_u (z_u (z_u (z_u v.1 1 m1) 2 m2) 3 m3) 4 m4) 5 m5) 28 m6) 29 m7) 4 = m4 from ((z_u_n (by decide)).trans ((z_u_n (by decide)).trans ((z_u_n (by decide)).trans z_u_s)))) (show (z_u (z_u (z_u (z_u (z_u (z_u (z_u v.1 1 m1) 2 m2) 3 m3) 4 m4) 5 m5) 28 m6) 29 m7) 5 = m5 from ((z_u_n (by decide)).trans ((z_u_n (by decide)).trans z_u_s))) (fun j h => ((z_u_n (by omega)).trans ((z_u_n (by omega)).trans ((z_u_n (by omega)).trans ((z_u_n (by omega)).trans ((z_u_n (by omega)).trans ((z_u_n (by omega)).trans (z_u_n (by omega))))))))) rfl rfl (by rw [p1, eg, et]) (fun q h => by rw [p2 q h, eg, et]) (fun q h => by rw [p3 q h, eg, et]) (fun q h => by rw [p4 q h, et]) (fun q h => by rw [p5 q h, et]) (fun n p q => ?_)
    · show z_u (z_u (z_u (z_u u.1 23 n1) (3 + 4 * k2) n2) (4 + 4 * k2) n3) (5 + 4 * k2) n4 (3 + 4 * k2) = n2
      rw [z_u_n (by omega), z_u_n (by omega), z_u_s]
    · show z_u (z_u (z_u (z_u u.1 23 n1) (3 + 4 * k2) n2) (4 + 4 * k2) n3) (5 + 4 * k2) n4 (4 + 4 * k2) = _
      rw [z_u_n (by omega), z_u_s, a5]
    · show z_u (z_u (z_u (z_u u.1 23 n1) (3 + 4 * k2) n2) (4 + 4 * k2) n3) (5 + 4 * k2) n4 (5 + 4 * k2) = _
      rw [z_u_s, a6]
    · show z_u (z_u (z_u (z_u u.1 23 n1) (3 + 4 * k2) n2) (4 + 4 * k2) n3) (5 + 4 * k2) n4 j = _
      rw [z_u_n r, z_u_n q, z_u_n p, z_u_n s]
    · obtain ⟨c1, c2⟩ := p6 n p q
      have M4 := R.2.2.1.2.2.2 (1280 * gi + n) (by omega) (by omega)
      have hqt : q_th (v.1 5) gi n = true ↔ z_g (v.1 5) (1280 * gi + n) ≠ 0 := ⟨fun h => (of_decide_eq_true h).2.2, fun h => decide_eq_true ⟨p, q, h⟩⟩
      have e := a4 n p q
      unfold f_sm at e
      rw [eT, eU] at e
      by_cases ht : q_th (v.1 5) gi n = true
      · rw [if_pos ht] at c2 e
        have hbd : -8388608 ≤ m_sm (q_th (v.1 5) gi) (q_at (v.1 4) (v.1 5) gi) n weight ∧ m_sm (q_th (v.1 5) gi) (q_at (v.1 4) (v.1 5) gi) n weight ≤ 8388608 := by
          refine m_sm_b (fun x hx => ?_) ht (by omega)
          rw [q_at_t hx]
          have := q_th_in hx
          exact R.2.2.1.1 _ (by omega) (by omega)
        rw [c1, c2, e, if_pos (hqt.mp ht)]
        exact ⟨M4, hbd, rfl⟩
      · rw [if_neg ht] at c2 e
        rw [c1, c2, e, if_neg (fun h => ht (hqt.mpr h))]
        exact ⟨M4, ⟨by decide, by decide⟩, rfl⟩
  · obtain ⟨a4, a5, a6, a7⟩ := a3 hc
    obtain ⟨b1, b2, b3, b4, b5, -, -⟩ := b2 hc
    refine lw_same R ⟨fun q hq => ?_, rfl, fun q _ => z_u_id a7 q, z_u_in hn5 R.1.1⟩ ⟨fun q hq => ?_, rfl, fun _ _ => rfl, R.1.2⟩
    · show z_u (z_u (z_u (z_u u.1 23 n1) (3 + 4 * k2) n2) (4 + 4 * k2) n3) (5 + 4 * k2) n4 q = _
      have e : ∀ j, j ≠ 23 → z_u u.1 23 n1 j = u.1 j := fun j h => z_u_n h
      have h1 := hk_to.1
      rw [z_u_id (by rw [z_u_n (by omega), z_u_n (by omega), z_u_n (by omega)]; exact a6), z_u_id (by rw [z_u_n (by omega), z_u_n (by omega)]; exact a5), z_u_id (by rw [z_u_n (by omega)]; exact a4), z_u_n (by omega)]
    · show z_u (z_u (z_u (z_u (z_u (z_u (z_u v.1 1 m1) 2 m2) 3 m3) 4 m4) 5 m5) 28 m6) 29 m7 q = _
      rw [z_u_n (by omega), z_u_n (by omega), z_u_id (by rw [z_u_n (by decide), z_u_n (by decide), z_u_n (by decide), z_u_n (by decide)]; exact b5), z_u_id (by rw [z_u_n (by decide), z_u_n (by decide), z_u_n (by decide)]; exact b4), z_u_id (by rw [z_u_n (by decide), z_u_n (by decide)]; exact b3), z_u_id (by rw [z_u_n (by decide)]; exact b2), z_u_id b1]
set_option maxHeartbeats 2000000 in
theorem op_difference {u v : xS} (R : lw_R u v) (gi : Int) (hi_ : Int) (to : Int) {k1 : Nat} {k2 : Nat} {k3 : Nat} (hk_gi : z_gq gi k1) (hk_hi_ : z_gq hi_ k2) (hk_to : z_gq to k3) : (g_ok (u.1 (3 + 4 * k1))) ∧ (g_ok (u.1 (3 + 4 * k2))) ∧ (q_bd (v.1 4)) ∧ (q_01 5120 (v.1 5)) ∧ ∀ (r1 : Int) (u' : xS) (r2 : Int) (v' : xS), (∃ (n1 : Nat → Int32), ∃ (n2 : Nat → Int32), ∃ (n3 : Nat → Int32), ∃ (n4 : Int), z_in n4 ∧ (r1 = (if (0 ≤ gi ∧ gi < 4) ∧ (0 ≤ hi_ ∧ hi_ < 4) ∧ (0 ≤ to ∧ to < 4) then f_bc (u.1 (3 + 4 * k1)) (u.1 (3 + 4 * k2)) 1280 else -1) ∧ ((0 ≤ gi ∧ gi < 4) ∧ (0 ≤ hi_ ∧ hi_ < 4) ∧ (0 ≤ to ∧ to < 4) → (∀ n : Int, 0 ≤ n → n < 1280 → z_g n1 n = f_df (u.1 (3 + 4 * k1)) (u.1 (3 + 4 * k2)) n) ∧ n2 = (u.1 (4 + 4 * k1)) ∧ n3 = (u.1 (5 + 4 * k1)) ∧ n4 = (u.2.2 (1 + k1))) ∧ (¬ ((0 ≤ gi ∧ gi < 4) ∧ (0 ≤ hi_ ∧ hi_ < 4) ∧ (0 ≤ to ∧ to < 4)) → n1 = (u.1 (3 + 4 * k3)) ∧ n2 = (u.1 (4 + 4 * k3)) ∧ n3 = (u.1 (5 + 4 * k3)) ∧ n4 = (u.2.2 (1 + k3)))) ∧ u' = (z_u (z_u (z_u (u.1) (3 + 4 * k3) n1) (4 + 4 * k3) n2) (5 + 4 * k3) n3, u.2.1, z_u (u.2.2) (1 + k3) n4)) → (∃ (n1 : Nat → Int32), ∃ (n2 : Nat → Int32), ∃ (n3 : Nat → Int32), ∃ (n4 : Nat → Int32), ∃ (n5 : Nat → Int32), ∃ (n6 : Nat → Int32), ∃ (n7 : Nat → Int32), (r2 = (if (0 ≤ gi ∧ gi < 4) ∧ (0 ≤ hi_ ∧ hi_ < 4) ∧ (0 ≤ to ∧ to < 4) then v_bc (q_th (v.1 5) gi) (q_at (v.1 4) (v.1 5) gi) (q_th (v.1 5) hi_) (q_at (v.1 4) (v.1 5) hi_) 1280 else -1) ∧ ((0 ≤ gi ∧ gi < 4) ∧ (0 ≤ hi_ ∧ hi_ < 4) ∧ (0 ≤ to ∧ to < 4) → (n1 = z_s (v.1 1) to (z_g (v.1 1) gi) ∧ (∀ q : Int, 0 ≤ q → z_g n2 q = if 32 * to ≤ q ∧ q < 32 * to + 32 then z_g (v.1 2) (q - 32 * to + 32 * gi) else z_g (v.1 2) q) ∧ (∀ q : Int, 0 ≤ q → z_g n3 q = if 32 * to ≤ q ∧ q < 32 * to + 32 then z_g (v.1 3) (q - 32 * to + 32 * gi) else z_g (v.1 3) q) ∧ (∀ q : Int, 0 ≤ q → z_g n4 q = if 1280 * to ≤ q ∧ q < 1280 * to + 1280 then z_g n6 (q - 1280 * to) else z_g (v.1 4) q) ∧ (∀ q : Int, 0 ≤ q → z_g n5 q = if 1280 * to ≤ q ∧ q < 1280 * to + 1280 then z_g n7 (q - 1280 * to) else z_g (v.1 5) q)) ∧ ∀ n : Int, 0 ≤ n → n < 1280 → z_g n7 n = z_b (v_in (q_th (v.1 5) gi) (q_at (v.1 4) (v.1 5) gi) (q_th (v.1 5) hi_) (q_at (v.1 4) (v.1 5) hi_) n) ∧ z_g n6 n = (if v_in (q_th (v.1 5) gi) (q_at (v.1 4) (v.1 5) gi) (q_th (v.1 5) hi_) (q_at (v.1 4) (v.1 5) hi_) n = true then (q_at (v.1 4) (v.1 5) gi) n - (q_at (v.1 4) (v.1 5) hi_) n else 0)) ∧ (¬ ((0 ≤ gi ∧ gi < 4) ∧ (0 ≤ hi_ ∧ hi_ < 4) ∧ (0 ≤ to ∧ to < 4)) → n1 = (v.1 1) ∧ n2 = (v.1 2) ∧ n3 = (v.1 3) ∧ n4 = (v.1 4) ∧ n5 = (v.1 5) ∧ n6 = (v.1 28) ∧ n7 = (v.1 29))) ∧ v' = (z_u (z_u (z_u (z_u (z_u (z_u (z_u (v.1) 1 n1) 2 n2) 3 n3) 4 n4) 5 n5) 28 n6) 29 n7, v.2.1, v.2.2)) → r1 = r2 ∧ lw_R u' v' := by
  refine ⟨lw_gok R hk_gi, lw_gok R hk_hi_, R.2.2.1.1, R.2.2.1.2.2.2, ?_⟩
  rintro r1 u' r2 v' ⟨n2, n3, n4, n5, hn5, ⟨a1, a2, a3⟩, rfl⟩ ⟨m1, m2, m3, m4, m5, m6, m7, ⟨b0, b1, b2⟩, rfl⟩
  by_cases hc : (0 ≤ gi ∧ gi < 4) ∧ (0 ≤ hi_ ∧ hi_ < 4) ∧ (0 ≤ to ∧ to < 4)
  · obtain ⟨a4, a5, a6, a7⟩ := a2 hc
    obtain ⟨⟨p1, p2, p3, p4, p5⟩, p6⟩ := b1 hc
    obtain ⟨eT, eU⟩ := lw_TU R hk_gi hc.1
    obtain ⟨eT2, eU2⟩ := lw_TU R hk_hi_ hc.2.1
    have eg := hk_gi.2 hc.1
    have et := hk_to.2 hc.2.2
    have h0 := hk_gi.1
    have h1 := hk_to.1
    refine ⟨by rw [a1, b0, if_pos hc, if_pos hc, v_bc_f, eT, eU, eT2, eU2], ?_⟩
    refine lw_fill (k1 := k1) (k2 := k3) (n2 := n2) (m6 := m6) (m7 := m7) R h0 h1 ?_ ?_ ?_ (by show z_u u.2.2 (1 + k3) n5 (1 + k3) = _; rw [z_u_s, a7]) (fun j p q r s => ?_) rfl (fun j h => z_u_n h) (show (z_u (z_u (z_u (z_u (z_u (z_u (z_u v.1 1 m1) 2 m2) 3 m3) 4 m4) 5 m5) 28 m6) 29 m7) 1 = m1 from ((z_u_n (by decide)).trans ((z_u_n (by decide)).trans ((z_u_n (by decide)).trans ((z_u_n (by decide)).trans ((z_u_n (by decide)).trans ((z_u_n (by decide)).trans z_u_s))))))) (show (z_u (z_u (z_u (z_u (z_u (z_u (z_u v.1 1 m1) 2 m2) 3 m3) 4 m4) 5 m5) 28 m6) 29 m7) 2 = m2 from ((z_u_n (by decide)).trans ((z_u_n (by decide)).trans ((z_u_n (by decide)).trans ((z_u_n (by decide)).trans ((z_u_n (by decide)).trans z_u_s)))))) (show (z_u (z_u (z_u (z_u (z_u (z_u (z_u v.1 1 m1) 2 m2) 3 m3) 4 m4) 5 m5) 28 m6) 29 m7) 3 = m3 from ((z_u_n (by decide)).trans ((z_u_n (by decide)).trans ((z_u_n (by decide)).trans ((z_u_n (by decide)).trans z_u_s))))) (show (z_u (z_u (z_u (z_u (z_u (z_u (z_u v.1 1 m1) 2 m2) 3 m3) 4 m4) 5 m5) 28 m6) 29 m7) 4 = m4 from ((z_u_n (by decide)).trans ((z_u_n (by decide)).trans ((z_u_n (by decide)).trans z_u_s)))) (show (z_u (z_u (z_u (z_u (z_u (z_u (z_u v.1 1 m1) 2 m2) 3 m3) 4 m4) 5 m5) 28 m6) 29 m7) 5 = m5 from ((z_u_n (by decide)).trans ((z_u_n (by decide)).trans z_u_s))) (fun j h => ((z_u_n (by omega)).trans ((z_u_n (by omega)).trans ((z_u_n (by omega)).trans ((z_u_n (by omega)).trans ((z_u_n (by omega)).trans ((z_u_n (by omega)).trans (z_u_n (by omega))))))))) rfl rfl (by rw [p1, eg, et]) (fun q h => by rw [p2 q h, eg, et]) (fun q h => by rw [p3 q h, eg, et]) (fun q h => by rw [p4 q h, et]) (fun q h => by rw [p5 q h, et]) (fun n p q => ?_)
    · show z_u (z_u (z_u u.1 (3 + 4 * k3) n2) (4 + 4 * k3) n3) (5 + 4 * k3) n4 (3 + 4 * k3) = n2
      rw [z_u_n (by omega), z_u_n (by omega), z_u_s]
    · show z_u (z_u (z_u u.1 (3 + 4 * k3) n2) (4 + 4 * k3) n3) (5 + 4 * k3) n4 (4 + 4 * k3) = _
      rw [z_u_n (by omega), z_u_s, a5]
    · show z_u (z_u (z_u u.1 (3 + 4 * k3) n2) (4 + 4 * k3) n3) (5 + 4 * k3) n4 (5 + 4 * k3) = _
      rw [z_u_s, a6]
    · show z_u (z_u (z_u u.1 (3 + 4 * k3) n2) (4 + 4 * k3) n3) (5 + 4 * k3) n4 j = _
      rw [z_u_n r, z_u_n q, z_u_n p]
    · obtain ⟨c1, c2⟩ := p6 n p q
      have e := a4 n p q
      unfold f_df f_bt at e
      rw [eT, eU, eT2, eU2] at e
      have hvi : v_in (q_th (v.1 5) gi) (q_at (v.1 4) (v.1 5) gi) (q_th (v.1 5) hi_) (q_at (v.1 4) (v.1 5) hi_) n = true ↔ ((q_th (v.1 5) gi n && q_th (v.1 5) hi_ n) = true ∧ -8388608 ≤ q_at (v.1 4) (v.1 5) gi n - q_at (v.1 4) (v.1 5) hi_ n ∧ q_at (v.1 4) (v.1 5) gi n - q_at (v.1 4) (v.1 5) hi_ n ≤ 8388608) := by
        unfold v_in
        rw [Bool.and_eq_true, decide_eq_true_iff]
      by_cases ht : v_in (q_th (v.1 5) gi) (q_at (v.1 4) (v.1 5) gi) (q_th (v.1 5) hi_) (q_at (v.1 4) (v.1 5) hi_) n = true
      · rw [if_pos (hvi.mp ht)] at e
        rw [if_pos ht] at c2
        rw [ht] at c1
        have hb := (hvi.mp ht).2
        rw [show z_b true = 1 from rfl] at c1
        rw [c1, c2, e, if_pos (by decide)]
        exact ⟨Or.inr rfl, hb, rfl⟩
      · rw [if_neg (fun h => ht (hvi.mpr h))] at e
        rw [if_neg ht] at c2
        rw [Bool.eq_false_iff.mpr ht, show z_b false = 0 from rfl] at c1
        rw [c1, c2, e, if_neg (by decide)]
        exact ⟨Or.inl rfl, ⟨by decide, by decide⟩, rfl⟩
  · obtain ⟨a4, a5, a6, a7⟩ := a3 hc
    obtain ⟨b1, b2, b3, b4, b5, -, -⟩ := b2 hc
    refine ⟨by rw [a1, b0, if_neg hc, if_neg hc], lw_same R ⟨fun q hq => ?_, rfl, fun q _ => z_u_id a7 q, z_u_in hn5 R.1.1⟩ ⟨fun q hq => ?_, rfl, fun _ _ => rfl, R.1.2⟩⟩
    · show z_u (z_u (z_u u.1 (3 + 4 * k3) n2) (4 + 4 * k3) n3) (5 + 4 * k3) n4 q = _
      rw [z_u_id (by rw [z_u_n (by omega), z_u_n (by omega)]; exact a6), z_u_id (by rw [z_u_n (by omega)]; exact a5), z_u_id a4]
    · show z_u (z_u (z_u (z_u (z_u (z_u (z_u v.1 1 m1) 2 m2) 3 m3) 4 m4) 5 m5) 28 m6) 29 m7 q = _
      rw [z_u_n (by omega), z_u_n (by omega), z_u_id (by rw [z_u_n (by decide), z_u_n (by decide), z_u_n (by decide), z_u_n (by decide)]; exact b5), z_u_id (by rw [z_u_n (by decide), z_u_n (by decide), z_u_n (by decide)]; exact b4), z_u_id (by rw [z_u_n (by decide), z_u_n (by decide)]; exact b3), z_u_id (by rw [z_u_n (by decide)]; exact b2), z_u_id b1]
theorem d_dr_lt {T : Int → Bool} {U : Int → Int} {mm : Nat → Int32} : ∀ n : Nat, ∀ l ∈ (d_dr T U mm n).1, 0 ≤ l.1 ∧ l.1 < (n : Int) := by
  intro n
  induction n with
  | zero =>
    intro l hl
    rw [d_dr_z] at hl
    exact absurd hl List.not_mem_nil
  | succ n ih =>
    rw [d_dr_s]
    by_cases h : (d_dr T U mm n).2 = true
    · rw [d_ds_t h]
      intro l hl
      have := ih l hl
      omega
    · refine d_ds_good h (fun l hl => ?_)
      rcases d_lvl_lv l hl with q | q
      · have := ih l q
        omega
      · omega
theorem d_dr_cg {T : Int → Bool} {U : Int → Int} {m1 m2 : Nat → Int32} : ∀ n : Nat, (∀ q : Int, 0 ≤ q → q < (n : Int) → z_g m1 q = z_g m2 q) → d_dr T U m1 n = d_dr T U m2 n := by
  intro n
  induction n with
  | zero => intro _; rfl
  | succ n ih =>
    intro h
    rw [d_dr_s, d_dr_s, ih (fun q a b => h q a (by omega))]
    unfold d_ds
    rw [h n (by omega) (by omega)]
/-- all but the lines is as before -/
theorem lw_lines {u v u' v' : xS} (R : lw_R u v) (hI : (∀ j, z_in (u'.2.2 j)) ∧ ∀ j, z_in (v'.2.2 j)) (hx : ∀ j, 3 ≤ j ∧ j ≤ 18 → u'.1 j = u.1 j) (hx3 : ∀ j, j ≤ 4 → u'.2.2 j = u.2.2 j) (hy : ∀ j, 1 ≤ j ∧ j ≤ 6 → v'.1 j = v.1 j) (hy3 : v'.2.2 0 = v.2.2 0) (hL : r_L u' v') : lw_R u' v' := by
  obtain ⟨R1, R2, R3, R4, R5⟩ := R
  refine ⟨hI, fun k hk => ?_, ?_, ?_, hL⟩
  · rw [hx (3 + 4 * k) (by omega), hx (4 + 4 * k) (by omega), hx (5 + 4 * k) (by omega), hx3 (1 + k) (by omega)]
    exact r_g_same (R2 k hk) (by rw [hy 1 (by omega)]) (fun i _ _ => by rw [hy 2 (by omega), hy 3 (by omega)]; exact ⟨rfl, rfl⟩) (fun n _ _ => by rw [hy 4 (by omega), hy 5 (by omega)]; exact ⟨rfl, rfl⟩)
  · unfold r_M at *
    rw [hy 2 (by omega), hy 3 (by omega), hy 4 (by omega), hy 5 (by omega)]; exact R3
  · unfold r_V at *
    rw [hx3 0 (by omega), hy3, hx 18 (by omega), hy 6 (by omega)]; exact R4
theorem r_L_mk {u v : xS} {ls : List d_L} {T : Int → Bool} {U : Int → Int} {hs gu he sd fi lx cl : Nat → Int32} {bt ib : Nat → Int64} {sz st : Int} {q7 q8 q9 q10 q11 q12 q13 q14 q16 q17 q18 : Nat → Int32} {ln lp : Int}
    (x26 : u.1 26 = gu) (x32 : u.1 32 = he) (x38 : u.2.1 38 = bt) (x33 : u.1 33 = sd) (x34 : u.1 34 = fi) (x35 : u.1 35 = lx) (x36 : u.1 36 = cl) (w12 : u.2.2 12 = sz) (w6 : u.2.2 6 = st)
    (y7 : v.1 7 = q7) (y8 : v.1 8 = q8) (y9 : v.1 9 = q9) (y10 : v.1 10 = q10) (y11 : v.1 11 = q11) (y12 : v.1 12 = q12) (y13 : v.1 13 = q13) (y14 : v.1 14 = q14) (y15 : v.2.1 15 = ib) (y16 : v.1 16 = q16) (y17 : v.1 17 = q17) (y18 : v.1 18 = q18) (s1 : v.2.2 1 = ln) (s3 : v.2.2 3 = lp)
    (hT : T = g_th gu) (hU : U = g_at gu) (hI : l_I ls gu he bt sd fi lx cl sz) (hM : m_I ls T U hs q7 q8 q9 q10 q11 q12 q13 q14 ib q16 q17 q18 ln) (hl : ∀ k, l_lu ls he k = l_lu ls hs k) (hst : 0 < ln → lp = st) (h0 : 1 ≤ st) (h1 : st ≤ 100000) : r_L u v := by
  subst x26 x32 x38 x33 x34 x35 x36 w12 w6 y7 y8 y9 y10 y11 y12 y13 y14 y15 y16 y17 y18 s1 s3
  exact ⟨ls, T, U, hs, hT, hU, hI, hM, hl, hst, h0, h1⟩
set_option maxHeartbeats 2000000 in
theorem op_contour {u v : xS} (R : lw_R u v) (gi : Int) {k1 : Nat} (hk_gi : z_gq gi k1) : (0 ≤ (u.2.2 0) ∧ (u.2.2 0) ≤ 16) ∧ (∀ v : Int, 0 ≤ v → v < (u.2.2 0) → -8192 ≤ z_g (u.1 18) v ∧ z_g (u.1 18) v ≤ 8192) ∧ (g_ok (u.1 (3 + 4 * k1))) ∧ (z_g (u.1 34) 0 = 0) ∧ (q_01 5120 (v.1 5)) ∧ (0 ≤ (v.2.2 0) ∧ (v.2.2 0) ≤ 16) ∧ (∀ q : Int, 0 ≤ q → q < 16 → -8192 ≤ z_g (v.1 6) q ∧ z_g (v.1 6) q ≤ 8192) ∧ ∀ (r1 : Int) (u' : xS) (r2 : Int) (v' : xS), (∃ (n1 : Nat → Int32), ∃ (n2 : Nat → Int32), ∃ (n3 : Nat → Int32), ∃ (n4 : Int), ∃ (n5 : Nat → Int32), ∃ (n6 : Nat → Int32), ∃ (n7 : Int), ∃ (n8 : Int), ∃ (n9 : Nat → Int32), ∃ (n10 : Nat → Int32), ∃ (n11 : Nat → Int32), ∃ (n12 : Nat → Int32), ∃ (n13 : Nat → Int32), ∃ (n14 : Nat → Int64), ∃ (n15 : Int), ∃ (n16 : Int), z_in n4 ∧ z_in n7 ∧ z_in n8 ∧ z_in n15 ∧ z_in n16 ∧ ((0 ≤ gi ∧ gi < 4 → r1 = n15 ∧ l_I (d_dr (g_th (u.1 (3 + 4 * k1))) (g_at (u.1 (3 + 4 * k1))) (u.1 18) (u.2.2 0).toNat).1 n1 n9 n14 n10 n11 n12 n13 n15 ∧ n1 = (u.1 (3 + 4 * k1)) ∧ n2 = (u.1 (4 + 4 * k1)) ∧ n3 = (u.1 (5 + 4 * k1)) ∧ n4 = (u.2.2 (1 + k1)) ∧ ∀ v : Int, 0 ≤ v → v < (u.2.2 0) → z_g n9 v = 1024 * z_g (u.1 18) v) ∧ (¬ (0 ≤ gi ∧ gi < 4) → r1 = -1 ∧ n1 = (u.1 26) ∧ n2 = (u.1 27) ∧ n3 = (u.1 28) ∧ n4 = (u.2.2 6) ∧ n5 = (u.1 30) ∧ n6 = (u.1 31) ∧ n7 = (u.2.2 7) ∧ n8 = (u.2.2 8) ∧ n9 = (u.1 32) ∧ n10 = (u.1 33) ∧ n11 = (u.1 34) ∧ n12 = (u.1 35) ∧ n13 = (u.1 36) ∧ n14 = (u.2.1 38) ∧ n15 = (u.2.2 12) ∧ n16 = (u.2.2 13))) ∧ u' = (z_u (z_u (z_u (z_u (z_u (z_u (z_u (z_u (z_u (z_u (u.1) 26 n1) 27 n2) 28 n3) 30 n5) 31 n6) 32 n9) 33 n10) 34 n11) 35 n12) 36 n13, z_u (u.2.1) 38 n14, z_u (z_u (z_u (z_u (z_u (u.2.2) 6 n4) 7 n7) 8 n8) 12 n15) 13 n16)) → (∃ (n1 : Nat → Int32), ∃ (n2 : Nat → Int32), ∃ (n3 : Nat → Int32), ∃ (n4 : Nat → Int32), ∃ (n5 : Nat → Int32), ∃ (n6 : Nat → Int32), ∃ (n7 : Nat → Int32), ∃ (n8 : Nat → Int32), ∃ (n9 : Nat → Int64), ∃ (n10 : Nat → Int32), ∃ (n11 : Nat → Int32), ∃ (n12 : Nat → Int32), ∃ (n13 : Nat → Int32), ∃ (n14 : Nat → Int32), ∃ (n15 : Nat → Int32), ∃ (n16 : Nat → Int32), ∃ (n17 : Int), ∃ (n18 : Int), ∃ (n19 : Int), z_in n17 ∧ z_in n18 ∧ z_in n19 ∧ ((0 ≤ gi ∧ gi < 4 → r2 = n17 ∧ m_I (d_dr (q_th (v.1 5) gi) (q_at (v.1 4) (v.1 5) gi) (v.1 6) (v.2.2 0).toNat).1 (q_th (v.1 5) gi) (q_at (v.1 4) (v.1 5) gi) (e_hs (v.1 6)) n1 n2 n3 n4 n5 n6 n7 n8 n9 n10 n11 n12 n17 ∧ n19 = z_g (v.1 1) gi) ∧ (¬ (0 ≤ gi ∧ gi < 4) → r2 = -1 ∧ n1 = (v.1 7) ∧ n2 = (v.1 8) ∧ n3 = (v.1 9) ∧ n4 = (v.1 10) ∧ n5 = (v.1 11) ∧ n6 = (v.1 12) ∧ n7 = (v.1 13) ∧ n8 = (v.1 14) ∧ n9 = (v.2.1 15) ∧ n10 = (v.1 16) ∧ n11 = (v.1 17) ∧ n12 = (v.1 18) ∧ n17 = (v.2.2 1) ∧ n19 = (v.2.2 3))) ∧ v' = (z_u (z_u (z_u (z_u (z_u (z_u (z_u (z_u (z_u (z_u (z_u (z_u (z_u (z_u (z_u (v.1) 7 n1) 8 n2) 9 n3) 10 n4) 11 n5) 12 n6) 13 n7) 14 n8) 16 n10) 17 n11) 18 n12) 19 n13) 20 n14) 21 n15) 22 n16, z_u (v.2.1) 15 n9, z_u (z_u (z_u (v.2.2) 1 n17) 2 n18) 3 n19)) → r1 = r2 ∧ lw_R u' v' := by
  have hV := id R.2.2.2.1
  have hV1 := hV.2.1
  have hgok := lw_gok R hk_gi
  have hf0 : z_g (u.1 34) 0 = 0 := by
    obtain ⟨ls, T, U, hs, rfl, rfl, hI, _⟩ := id R.2.2.2.2
    have := hI.1.2.2.2.1 0 (by omega)
    exact this
  refine ⟨hV.2.1, fun q a b => ?_, hgok, hf0, R.2.2.1.2.2.2, by rw [← hV.1]; exact hV.2.1, fun q a b => (hV.2.2 q a b).2, ?_⟩
  · have h := hV.2.2 q a (by omega)
    rw [h.1]; exact h.2
  rintro r1 u' r2 v' ⟨n1, n2, n3, n4, n5, n6, n7, n8, n9, n10, n11, n12, n13, n14, n15, n16, z1, z2, z3, z4, z5, ⟨a1, a2⟩, rfl⟩ ⟨m1, m2, m3, m4, m5, m6, m7, m8, m9, m10, m11, m12, m13, m14, m15, m16, m17, m18, m19, t1, t2, t3, ⟨b1, b2⟩, rfl⟩
  have hzI : (∀ j, z_in ((z_u (z_u (z_u (z_u (z_u u.2.2 6 n4) 7 n7) 8 n8) 12 n15) 13 n16) j)) ∧ ∀ j, z_in ((z_u (z_u (z_u v.2.2 1 m17) 2 m18) 3 m19) j) := ⟨z_u_in z5 (z_u_in z4 (z_u_in z3 (z_u_in z2 (z_u_in z1 R.1.1)))), z_u_in t3 (z_u_in t2 (z_u_in t1 R.1.2))⟩
  by_cases hc : 0 ≤ gi ∧ gi < 4
  · obtain ⟨c1, c2, g1, g2, g3, g4, c3⟩ := a1 hc
    rw [g1] at c2
    obtain ⟨d1, d2, d3⟩ := b1 hc
    obtain ⟨eT, eU⟩ := lw_TU R hk_gi hc
    have eg := hk_gi.2 hc
    have G := R.2.1 k1 hk_gi.1
    have eD : d_dr (q_th (v.1 5) gi) (q_at (v.1 4) (v.1 5) gi) (v.1 6) (v.2.2 0).toNat = d_dr (g_th (u.1 (3 + 4 * k1))) (g_at (u.1 (3 + 4 * k1))) (u.1 18) (u.2.2 0).toNat := by
      rw [eT, eU, ← hV.1]
      exact d_dr_cg _ (fun q a b => ((hV.2.2 q a (by omega)).1).symm)
    have hlt := d_dr_lt (T := g_th (u.1 (3 + 4 * k1))) (U := g_at (u.1 (3 + 4 * k1))) (mm := u.1 18) (u.2.2 0).toNat
    rw [eD, ← eT, ← eU] at d2
    generalize (d_dr (g_th (u.1 (3 + 4 * k1))) (g_at (u.1 (3 + 4 * k1))) (u.1 18) (u.2.2 0).toNat).1 = ls at c2 d2 hlt
    refine ⟨by rw [c1, d1, c2.1.1, d2.1], lw_lines R hzI (fun j h => ((z_u_n (by omega)).trans ((z_u_n (by omega)).trans ((z_u_n (by omega)).trans ((z_u_n (by omega)).trans ((z_u_n (by omega)).trans ((z_u_n (by omega)).trans ((z_u_n (by omega)).trans ((z_u_n (by omega)).trans ((z_u_n (by omega)).trans (z_u_n (by omega)))))))))))) (fun j h => ((z_u_n (by omega)).trans ((z_u_n (by omega)).trans ((z_u_n (by omega)).trans ((z_u_n (by omega)).trans (z_u_n (by omega))))))) (fun j h => ((z_u_n (by omega)).trans ((z_u_n (by omega)).trans ((z_u_n (by omega)).trans ((z_u_n (by omega)).trans ((z_u_n (by omega)).trans ((z_u_n (by omega)).trans ((z_u_n (by omega)).trans ((z_u_n (by omega)).trans ((z_u_n (by omega)).trans ((z_u_n (by omega)).trans ((z_u_n (by omega)).trans ((z_u_n (by omega)).trans ((z_u_n (by omega)).trans ((z_u_n (by omega)).trans (z_u_n (by omega))))))))))))))))) (show (z_u (z_u (z_u v.2.2 1 m17) 2 m18) 3 m19) 0 = v.2.2 0 from ((z_u_n (by omega)).trans ((z_u_n (by omega)).trans (z_u_n (by omega))))) ?_⟩
    · skip
      have x26 := (show (z_u (z_u (z_u (z_u (z_u (z_u (z_u (z_u (z_u (z_u u.1 26 n1) 27 n2) 28 n3) 30 n5) 31 n6) 32 n9) 33 n10) 34 n11) 35 n12) 36 n13) 26 = n1 from ((z_u_n (by decide)).trans ((z_u_n (by decide)).trans ((z_u_n (by decide)).trans ((z_u_n (by decide)).trans ((z_u_n (by decide)).trans ((z_u_n (by decide)).trans ((z_u_n (by decide)).trans ((z_u_n (by decide)).trans ((z_u_n (by decide)).trans z_u_s))))))))))
      have x32 := (show (z_u (z_u (z_u (z_u (z_u (z_u (z_u (z_u (z_u (z_u u.1 26 n1) 27 n2) 28 n3) 30 n5) 31 n6) 32 n9) 33 n10) 34 n11) 35 n12) 36 n13) 32 = n9 from ((z_u_n (by decide)).trans ((z_u_n (by decide)).trans ((z_u_n (by decide)).trans ((z_u_n (by decide)).trans z_u_s)))))
      have x33 := (show (z_u (z_u (z_u (z_u (z_u (z_u (z_u (z_u (z_u (z_u u.1 26 n1) 27 n2) 28 n3) 30 n5) 31 n6) 32 n9) 33 n10) 34 n11) 35 n12) 36 n13) 33 = n10 from ((z_u_n (by decide)).trans ((z_u_n (by decide)).trans ((z_u_n (by decide)).trans z_u_s))))
      have x34 := (show (z_u (z_u (z_u (z_u (z_u (z_u (z_u (z_u (z_u (z_u u.1 26 n1) 27 n2) 28 n3) 30 n5) 31 n6) 32 n9) 33 n10) 34 n11) 35 n12) 36 n13) 34 = n11 from ((z_u_n (by decide)).trans ((z_u_n (by decide)).trans z_u_s)))
      have x35 := (show (z_u (z_u (z_u (z_u (z_u (z_u (z_u (z_u (z_u (z_u u.1 26 n1) 27 n2) 28 n3) 30 n5) 31 n6) 32 n9) 33 n10) 34 n11) 35 n12) 36 n13) 35 = n12 from ((z_u_n (by decide)).trans z_u_s))
      have x36 := (show (z_u (z_u (z_u (z_u (z_u (z_u (z_u (z_u (z_u (z_u u.1 26 n1) 27 n2) 28 n3) 30 n5) 31 n6) 32 n9) 33 n10) 34 n11) 35 n12) 36 n13) 36 = n13 from z_u_s)
      have w6 := (show (z_u (z_u (z_u (z_u (z_u u.2.2 6 n4) 7 n7) 8 n8) 12 n15) 13 n16) 6 = n4 from ((z_u_n (by decide)).trans ((z_u_n (by decide)).trans ((z_u_n (by decide)).trans ((z_u_n (by decide)).trans z_u_s)))))
      have w12 := (show (z_u (z_u (z_u (z_u (z_u u.2.2 6 n4) 7 n7) 8 n8) 12 n15) 13 n16) 12 = n15 from ((z_u_n (by decide)).trans z_u_s))
      have y7 := (show (z_u (z_u (z_u (z_u (z_u (z_u (z_u (z_u (z_u (z_u (z_u (z_u (z_u (z_u (z_u v.1 7 m1) 8 m2) 9 m3) 10 m4) 11 m5) 12 m6) 13 m7) 14 m8) 16 m10) 17 m11) 18 m12) 19 m13) 20 m14) 21 m15) 22 m16) 7 = m1 from ((z_u_n (by decide)).trans ((z_u_n (by decide)).trans ((z_u_n (by decide)).trans ((z_u_n (by decide)).trans ((z_u_n (by decide)).trans ((z_u_n (by decide)).trans ((z_u_n (by decide)).trans ((z_u_n (by decide)).trans ((z_u_n (by decide)).trans ((z_u_n (by decide)).trans ((z_u_n (by decide)).trans ((z_u_n (by decide)).trans ((z_u_n (by decide)).trans ((z_u_n (by decide)).trans z_u_s)))))))))))))))
      have y8 := (show (z_u (z_u (z_u (z_u (z_u (z_u (z_u (z_u (z_u (z_u (z_u (z_u (z_u (z_u (z_u v.1 7 m1) 8 m2) 9 m3) 10 m4) 11 m5) 12 m6) 13 m7) 14 m8) 16 m10) 17 m11) 18 m12) 19 m13) 20 m14) 21 m15) 22 m16) 8 = m2 from ((z_u_n (by decide)).trans ((z_u_n (by decide)).trans ((z_u_n (by decide)).trans ((z_u_n (by decide)).trans ((z_u_n (by decide)).trans ((z_u_n (by decide)).trans ((z_u_n (by decide)).trans ((z_u_n (by decide)).trans ((z_u_n (by decide)).trans ((z_u_n (by decide)).trans ((z_u_n (by decide)).trans ((z_u_n (by decide)).trans ((z_u_n (by decide)).trans z_u_s))))))))))))))
      have y9 := (show (z_u (z_u (z_u (z_u (z_u (z_u (z_u (z_u (z_u (z_u (z_u (z_u (z_u (z_u (z_u v.1 7 m1) 8 m2) 9 m3) 10 m4) 11 m5) 12 m6) 13 m7) 14 m8) 16 m10) 17 m11) 18 m12) 19 m13) 20 m14) 21 m15) 22 m16) 9 = m3 from ((z_u_n (by decide)).trans ((z_u_n (by decide)).trans ((z_u_n (by decide)).trans ((z_u_n (by decide)).trans ((z_u_n (by decide)).trans ((z_u_n (by decide)).trans ((z_u_n (by decide)).trans ((z_u_n (by decide)).trans ((z_u_n (by decide)).trans ((z_u_n (by decide)).trans ((z_u_n (by decide)).trans ((z_u_n (by decide)).trans z_u_s)))))))))))))
      have y10 := (show (z_u (z_u (z_u (z_u (z_u (z_u (z_u (z_u (z_u (z_u (z_u (z_u (z_u (z_u (z_u v.1 7 m1) 8 m2) 9 m3) 10 m4) 11 m5) 12 m6) 13 m7) 14 m8) 16 m10) 17 m11) 18 m12) 19 m13) 20 m14) 21 m15) 22 m16) 10 = m4 from ((z_u_n (by decide)).trans ((z_u_n (by decide)).trans ((z_u_n (by decide)).trans ((z_u_n (by decide)).trans ((z_u_n (by decide)).trans ((z_u_n (by decide)).trans ((z_u_n (by decide)).trans ((z_u_n (by decide)).trans ((z_u_n (by decide)).trans ((z_u_n (by decide)).trans ((z_u_n (by decide)).trans z_u_s))))))))))))
      have y11 := (show (z_u (z_u (z_u (z_u (z_u (z_u (z_u (z_u (z_u (z_u (z_u (z_u (z_u (z_u (z_u v.1 7 m1) 8 m2) 9 m3) 10 m4) 11 m5) 12 m6) 13 m7) 14 m8) 16 m10) 17 m11) 18 m12) 19 m13) 20 m14) 21 m15) 22 m16) 11 = m5 from ((z_u_n (by decide)).trans ((z_u_n (by decide)).trans ((z_u_n (by decide)).trans ((z_u_n (by decide)).trans ((z_u_n (by decide)).trans ((z_u_n (by decide)).trans ((z_u_n (by decide)).trans ((z_u_n (by decide)).trans ((z_u_n (by decide)).trans ((z_u_n (by decide)).trans z_u_s)))))))))))
      have y12 := (show (z_u (z_u (z_u (z_u (z_u (z_u (z_u (z_u (z_u (z_u (z_u (z_u (z_u (z_u (z_u v.1 7 m1) 8 m2) 9 m3) 10 m4) 11 m5) 12 m6) 13 m7) 14 m8) 16 m10) 17 m11) 18 m12) 19 m13) 20 m14) 21 m15) 22 m16) 12 = m6 from ((z_u_n (by decide)).trans ((z_u_n (by decide)).trans ((z_u_n (by decide)).trans ((z_u_n (by decide)).trans ((z_u_n (by decide)).trans ((z_u_n (by decide)).trans ((z_u_n (by decide)).trans ((z_u_n (by decide)).trans ((z_u_n (by decide)).trans z_u_s))))))))))
      have y13 := (show (z_u (z_u (z_u (z_u (z_u (z_u (z_u (z_u (z_u (z_u (z_u (z_u (z_u (z_u (z_u v.1 7 m1) 8 m2) 9 m3) 10 m4) 11 m5) 12 m6) 13 m7) 14 m8) 16 m10) 17 m11) 18 m12) 19 m13) 20 m14) 21 m15) 22 m16) 13 = m7 from ((z_u_n (by decide)).trans ((z_u_n (by decide)).trans ((z_u_n (by decide)).trans ((z_u_n (by decide)).trans ((z_u_n (by decide)).trans ((z_u_n (by decide)).trans ((z_u_n (by decide)).trans ((z_u_n (by decide)).trans z_u_s)))))))))
      have y14 := (show (z_u (z_u (z_u (z_u (z_u (z_u (z_u (z_u (z_u (z_u (z_u (z_u (z_u (z_u (z_u v.1 7 m1) 8 m2) 9 m3) 10 m4) 11 m5) 12 m6) 13 m7) 14 m8) 16 m10) 17 m11) 18 m12) 19 m13) 20 m14) 21 m15) 22 m16) 14 = m8 from ((z_u_n (by decide)).trans ((z_u_n (by decide)).trans ((z_u_n (by decide)).trans ((z_u_n (by decide)).trans ((z_u_n (by decide)).trans ((z_u_n (by decide)).trans ((z_u_n (by decide)).trans z_u_s))))))))
      have y16 := (show (z_u (z_u (z_u (z_u (z_u (z_u (z_u (z_u (z_u (z_u (z_u (z_u (z_u (z_u (z_u v.1 7 m1) 8 m2) 9 m3) 10 m4) 11 m5) 12 m6) 13 m7) 14 m8) 16 m10) 17 m11) 18 m12) 19 m13) 20 m14) 21 m15) 22 m16) 16 = m10 from ((z_u_n (by decide)).trans ((z_u_n (by decide)).trans ((z_u_n (by decide)).trans ((z_u_n (by decide)).trans ((z_u_n (by decide)).trans ((z_u_n (by decide)).trans z_u_s)))))))
      have y17 := (show (z_u (z_u (z_u (z_u (z_u (z_u (z_u (z_u (z_u (z_u (z_u (z_u (z_u (z_u (z_u v.1 7 m1) 8 m2) 9 m3) 10 m4) 11 m5) 12 m6) 13 m7) 14 m8) 16 m10) 17 m11) 18 m12) 19 m13) 20 m14) 21 m15) 22 m16) 17 = m11 from ((z_u_n (by decide)).trans ((z_u_n (by decide)).trans ((z_u_n (by decide)).trans ((z_u_n (by decide)).trans ((z_u_n (by decide)).trans z_u_s))))))
      have y18 := (show (z_u (z_u (z_u (z_u (z_u (z_u (z_u (z_u (z_u (z_u (z_u (z_u (z_u (z_u (z_u v.1 7 m1) 8 m2) 9 m3) 10 m4) 11 m5) 12 m6) 13 m7) 14 m8) 16 m10) 17 m11) 18 m12) 19 m13) 20 m14) 21 m15) 22 m16) 18 = m12 from ((z_u_n (by decide)).trans ((z_u_n (by decide)).trans ((z_u_n (by decide)).trans ((z_u_n (by decide)).trans z_u_s)))))
      have s1 := (show (z_u (z_u (z_u v.2.2 1 m17) 2 m18) 3 m19) 1 = m17 from ((z_u_n (by decide)).trans ((z_u_n (by decide)).trans z_u_s)))
      have s3 := (show (z_u (z_u (z_u v.2.2 1 m17) 2 m18) 3 m19) 3 = m19 from z_u_s)
      have x26 := x26.trans g1
      have w6 := w6.trans g4
      refine r_L_mk (hs := e_hs (v.1 6)) x26 x32 (show z_u u.2.1 38 n14 38 = n14 from z_u_s) x33 x34 x35 x36 w12 w6 y7 y8 y9 y10 y11 y12 y13 y14 (show z_u v.2.1 15 m9 15 = m9 from z_u_s) y16 y17 y18 s1 s3 rfl rfl c2 d2 (fun k => ?_) (fun _ => by rw [d3, eg]; exact G.2.2.2.1) G.2.2.1.1 G.2.2.1.2
      unfold l_lu
      by_cases hk : 0 ≤ k ∧ k < (ls.length : Int)
      · have hm : l_at ls k ∈ ls := List.mem_of_getElem? (l_at_t hk.1 hk.2)
        have := hlt _ hm
        have hq := hV.2.2 (l_at ls k).1 this.1 (by omega)
        rw [if_pos ⟨this.1, by omega⟩, if_pos ⟨this.1, by omega⟩, c3 _ this.1 (by omega), e_hs_g this.1 hq.2, hq.1]
      · rw [l_at_f hk, if_neg (by decide), if_neg (by decide)]
  · obtain ⟨c1, e1, e2, e3, e4, e5, e6, e7, e8, e9, e10, e11, e12, e13, e14, e15, e16⟩ := a2 hc
    obtain ⟨d1, f1, f2, f3, f4, f5, f6, f7, f8, f9, f10, f11, f12, f17, f19⟩ := b2 hc
    refine ⟨by rw [c1, d1], lw_lines R hzI (fun j h => ((z_u_n (by omega)).trans ((z_u_n (by omega)).trans ((z_u_n (by omega)).trans ((z_u_n (by omega)).trans ((z_u_n (by omega)).trans ((z_u_n (by omega)).trans ((z_u_n (by omega)).trans ((z_u_n (by omega)).trans ((z_u_n (by omega)).trans (z_u_n (by omega)))))))))))) (fun j h => ((z_u_n (by omega)).trans ((z_u_n (by omega)).trans ((z_u_n (by omega)).trans ((z_u_n (by omega)).trans (z_u_n (by omega))))))) (fun j h => ((z_u_n (by omega)).trans ((z_u_n (by omega)).trans ((z_u_n (by omega)).trans ((z_u_n (by omega)).trans ((z_u_n (by omega)).trans ((z_u_n (by omega)).trans ((z_u_n (by omega)).trans ((z_u_n (by omega)).trans ((z_u_n (by omega)).trans ((z_u_n (by omega)).trans ((z_u_n (by omega)).trans ((z_u_n (by omega)).trans ((z_u_n (by omega)).trans ((z_u_n (by omega)).trans (z_u_n (by omega))))))))))))))))) (show (z_u (z_u (z_u v.2.2 1 m17) 2 m18) 3 m19) 0 = v.2.2 0 from ((z_u_n (by omega)).trans ((z_u_n (by omega)).trans (z_u_n (by omega))))) ?_⟩
    · skip
      have x26 := (show (z_u (z_u (z_u (z_u (z_u (z_u (z_u (z_u (z_u (z_u u.1 26 n1) 27 n2) 28 n3) 30 n5) 31 n6) 32 n9) 33 n10) 34 n11) 35 n12) 36 n13) 26 = n1 from ((z_u_n (by decide)).trans ((z_u_n (by decide)).trans ((z_u_n (by decide)).trans ((z_u_n (by decide)).trans ((z_u_n (by decide)).trans ((z_u_n (by decide)).trans ((z_u_n (by decide)).trans ((z_u_n (by decide)).trans ((z_u_n (by decide)).trans z_u_s))))))))))
      have x32 := (show (z_u (z_u (z_u (z_u (z_u (z_u (z_u (z_u (z_u (z_u u.1 26 n1) 27 n2) 28 n3) 30 n5) 31 n6) 32 n9) 33 n10) 34 n11) 35 n12) 36 n13) 32 = n9 from ((z_u_n (by decide)).trans ((z_u_n (by decide)).trans ((z_u_n (by decide)).trans ((z_u_n (by decide)).trans z_u_s)))))
      have x33 := (show (z_u (z_u (z_u (z_u (z_u (z_u (z_u (z_u (z_u (z_u u.1 26 n1) 27 n2) 28 n3) 30 n5) 31 n6) 32 n9) 33 n10) 34 n11) 35 n12) 36 n13) 33 = n10 from ((z_u_n (by decide)).trans ((z_u_n (by decide)).trans ((z_u_n (by decide)).trans z_u_s))))
      have x34 := (show (z_u (z_u (z_u (z_u (z_u (z_u (z_u (z_u (z_u (z_u u.1 26 n1) 27 n2) 28 n3) 30 n5) 31 n6) 32 n9) 33 n10) 34 n11) 35 n12) 36 n13) 34 = n11 from ((z_u_n (by decide)).trans ((z_u_n (by decide)).trans z_u_s)))
      have x35 := (show (z_u (z_u (z_u (z_u (z_u (z_u (z_u (z_u (z_u (z_u u.1 26 n1) 27 n2) 28 n3) 30 n5) 31 n6) 32 n9) 33 n10) 34 n11) 35 n12) 36 n13) 35 = n12 from ((z_u_n (by decide)).trans z_u_s))
      have x36 := (show (z_u (z_u (z_u (z_u (z_u (z_u (z_u (z_u (z_u (z_u u.1 26 n1) 27 n2) 28 n3) 30 n5) 31 n6) 32 n9) 33 n10) 34 n11) 35 n12) 36 n13) 36 = n13 from z_u_s)
      have w6 := (show (z_u (z_u (z_u (z_u (z_u u.2.2 6 n4) 7 n7) 8 n8) 12 n15) 13 n16) 6 = n4 from ((z_u_n (by decide)).trans ((z_u_n (by decide)).trans ((z_u_n (by decide)).trans ((z_u_n (by decide)).trans z_u_s)))))
      have w12 := (show (z_u (z_u (z_u (z_u (z_u u.2.2 6 n4) 7 n7) 8 n8) 12 n15) 13 n16) 12 = n15 from ((z_u_n (by decide)).trans z_u_s))
      have y7 := (show (z_u (z_u (z_u (z_u (z_u (z_u (z_u (z_u (z_u (z_u (z_u (z_u (z_u (z_u (z_u v.1 7 m1) 8 m2) 9 m3) 10 m4) 11 m5) 12 m6) 13 m7) 14 m8) 16 m10) 17 m11) 18 m12) 19 m13) 20 m14) 21 m15) 22 m16) 7 = m1 from ((z_u_n (by decide)).trans ((z_u_n (by decide)).trans ((z_u_n (by decide)).trans ((z_u_n (by decide)).trans ((z_u_n (by decide)).trans ((z_u_n (by decide)).trans ((z_u_n (by decide)).trans ((z_u_n (by decide)).trans ((z_u_n (by decide)).trans ((z_u_n (by decide)).trans ((z_u_n (by decide)).trans ((z_u_n (by decide)).trans ((z_u_n (by decide)).trans ((z_u_n (by decide)).trans z_u_s)))))))))))))))
      have y8 := (show (z_u (z_u (z_u (z_u (z_u (z_u (z_u (z_u (z_u (z_u (z_u (z_u (z_u (z_u (z_u v.1 7 m1) 8 m2) 9 m3) 10 m4) 11 m5) 12 m6) 13 m7) 14 m8) 16 m10) 17 m11) 18 m12) 19 m13) 20 m14) 21 m15) 22 m16) 8 = m2 from ((z_u_n (by decide)).trans ((z_u_n (by decide)).trans ((z_u_n (by decide)).trans ((z_u_n (by decide)).trans ((z_u_n (by decide)).trans ((z_u_n (by decide)).trans ((z_u_n (by decide)).trans ((z_u_n (by decide)).trans ((z_u_n (by decide)).trans ((z_u_n (by decide)).trans ((z_u_n (by decide)).trans ((z_u_n (by decide)).trans ((z_u_n (by decide)).trans z_u_s))))))))))))))
      have y9 := (show (z_u (z_u (z_u (z_u (z_u (z_u (z_u (z_u (z_u (z_u (z_u (z_u (z_u (z_u (z_u v.1 7 m1) 8 m2) 9 m3) 10 m4) 11 m5) 12 m6) 13 m7) 14 m8) 16 m10) 17 m11) 18 m12) 19 m13) 20 m14) 21 m15) 22 m16) 9 = m3 from ((z_u_n (by decide)).trans ((z_u_n (by decide)).trans ((z_u_n (by decide)).trans ((z_u_n (by decide)).trans ((z_u_n (by decide)).trans ((z_u_n (by decide)).trans ((z_u_n (by decide)).trans ((z_u_n (by decide)).trans ((z_u_n (by decide)).trans ((z_u_n (by decide)).trans ((z_u_n (by decide)).trans ((z_u_n (by decide)).trans z_u_s)))))))))))))
      have y10 := (show (z_u (z_u (z_u (z_u (z_u (z_u (z_u (z_u (z_u (z_u (z_u (z_u (z_u (z_u (z_u v.1 7 m1) 8 m2) 9 m3) 10 m4) 11 m5) 12 m6) 13 m7) 14 m8) 16 m10) 17 m11) 18 m12) 19 m13) 20 m14) 21 m15) 22 m16) 10 = m4 from ((z_u_n (by decide)).trans ((z_u_n (by decide)).trans ((z_u_n (by decide)).trans ((z_u_n (by decide)).trans ((z_u_n (by decide)).trans ((z_u_n (by decide)).trans ((z_u_n (by decide)).trans ((z_u_n (by decide)).trans ((z_u_n (by decide)).trans ((z_u_n (by decide)).trans ((z_u_n (by decide)).trans z_u_s))))))))))))
      have y11 := (show (z_u (z_u (z_u (z_u (z_u (z_u (z_u (z_u (z_u (z_u (z_u (z_u (z_u (z_u (z_u v.1 7 m1) 8 m2) 9 m3) 10 m4) 11 m5) 12 m6) 13 m7) 14 m8) 16 m10) 17 m11) 18 m12) 19 m13) 20 m14) 21 m15) 22 m16) 11 = m5 from ((z_u_n (by decide)).trans ((z_u_n (by decide)).trans ((z_u_n (by decide)).trans ((z_u_n (by decide)).trans ((z_u_n (by decide)).trans ((z_u_n (by decide)).trans ((z_u_n (by decide)).trans ((z_u_n (by decide)).trans ((z_u_n (by decide)).trans ((z_u_n (by decide)).trans z_u_s)))))))))))
      have y12 := (show (z_u (z_u (z_u (z_u (z_u (z_u (z_u (z_u (z_u (z_u (z_u (z_u (z_u (z_u (z_u v.1 7 m1) 8 m2) 9 m3) 10 m4) 11 m5) 12 m6) 13 m7) 14 m8) 16 m10) 17 m11) 18 m12) 19 m13) 20 m14) 21 m15) 22 m16) 12 = m6 from ((z_u_n (by decide)).trans ((z_u_n (by decide)).trans ((z_u_n (by decide)).trans ((z_u_n (by decide)).trans ((z_u_n (by decide)).trans ((z_u_n (by decide)).trans ((z_u_n (by decide)).trans ((z_u_n (by decide)).trans ((z_u_n (by decide)).trans z_u_s))))))))))
      have y13 := (show (z_u (z_u (z_u (z_u (z_u (z_u (z_u (z_u (z_u (z_u (z_u (z_u (z_u (z_u (z_u v.1 7 m1) 8 m2) 9 m3) 10 m4) 11 m5) 12 m6) 13 m7) 14 m8) 16 m10) 17 m11) 18 m12) 19 m13) 20 m14) 21 m15) 22 m16) 13 = m7 from ((z_u_n (by decide)).trans ((z_u_n (by decide)).trans ((z_u_n (by decide)).trans ((z_u_n (by decide)).trans ((z_u_n (by decide)).trans ((z_u_n (by decide)).trans ((z_u_n (by decide)).trans ((z_u_n (by decide)).trans z_u_s)))))))))
      have y14 := (show (z_u (z_u (z_u (z_u (z_u (z_u (z_u (z_u (z_u (z_u (z_u (z_u (z_u (z_u (z_u v.1 7 m1) 8 m2) 9 m3) 10 m4) 11 m5) 12 m6) 13 m7) 14 m8) 16 m10) 17 m11) 18 m12) 19 m13) 20 m14) 21 m15) 22 m16) 14 = m8 from ((z_u_n (by decide)).trans ((z_u_n (by decide)).trans ((z_u_n (by decide)).trans ((z_u_n (by decide)).trans ((z_u_n (by decide)).trans ((z_u_n (by decide)).trans ((z_u_n (by decide)).trans z_u_s))))))))
      have y16 := (show (z_u (z_u (z_u (z_u (z_u (z_u (z_u (z_u (z_u (z_u (z_u (z_u (z_u (z_u (z_u v.1 7 m1) 8 m2) 9 m3) 10 m4) 11 m5) 12 m6) 13 m7) 14 m8) 16 m10) 17 m11) 18 m12) 19 m13) 20 m14) 21 m15) 22 m16) 16 = m10 from ((z_u_n (by decide)).trans ((z_u_n (by decide)).trans ((z_u_n (by decide)).trans ((z_u_n (by decide)).trans ((z_u_n (by decide)).trans ((z_u_n (by decide)).trans z_u_s)))))))
      have y17 := (show (z_u (z_u (z_u (z_u (z_u (z_u (z_u (z_u (z_u (z_u (z_u (z_u (z_u (z_u (z_u v.1 7 m1) 8 m2) 9 m3) 10 m4) 11 m5) 12 m6) 13 m7) 14 m8) 16 m10) 17 m11) 18 m12) 19 m13) 20 m14) 21 m15) 22 m16) 17 = m11 from ((z_u_n (by decide)).trans ((z_u_n (by decide)).trans ((z_u_n (by decide)).trans ((z_u_n (by decide)).trans ((z_u_n (by decide)).trans z_u_s))))))
      have y18 := (show (z_u (z_u (z_u (z_u (z_u (z_u (z_u (z_u (z_u (z_u (z_u (z_u (z_u (z_u (z_u v.1 7 m1) 8 m2) 9 m3) 10 m4) 11 m5) 12 m6) 13 m7) 14 m8) 16 m10) 17 m11) 18 m12) 19 m13) 20 m14) 21 m15) 22 m16) 18 = m12 from ((z_u_n (by decide)).trans ((z_u_n (by decide)).trans ((z_u_n (by decide)).trans ((z_u_n (by decide)).trans z_u_s)))))
      have s1 := (show (z_u (z_u (z_u v.2.2 1 m17) 2 m18) 3 m19) 1 = m17 from ((z_u_n (by decide)).trans ((z_u_n (by decide)).trans z_u_s)))
      have s3 := (show (z_u (z_u (z_u v.2.2 1 m17) 2 m18) 3 m19) 3 = m19 from z_u_s)
      have x26 := x26.trans e1
      have x32 := x32.trans e9
      have x33 := x33.trans e10
      have x34 := x34.trans e11
      have x35 := x35.trans e12
      have x36 := x36.trans e13
      have w6 := w6.trans e4
      have w12 := w12.trans e15
      have y7 := y7.trans f1
      have y8 := y8.trans f2
      have y9 := y9.trans f3
      have y10 := y10.trans f4
      have y11 := y11.trans f5
      have y12 := y12.trans f6
      have y13 := y13.trans f7
      have y14 := y14.trans f8
      have y16 := y16.trans f10
      have y17 := y17.trans f11
      have y18 := y18.trans f12
      have s1 := s1.trans f17
      have s3 := s3.trans f19
      obtain ⟨ls, T, U, hs, hT, hU, hI, hM, hl, hst, h0, h1⟩ := id R.2.2.2.2
      exact r_L_mk x26 x32 ((show z_u u.2.1 38 n14 38 = n14 from z_u_s).trans e14) x33 x34 x35 x36 w12 w6 y7 y8 y9 y10 y11 y12 y13 y14 ((show z_u v.2.1 15 m9 15 = m9 from z_u_s).trans f9) y16 y17 y18 s1 s3 hT hU hI hM hl hst h0 h1
