set_option maxHeartbeats 2000000 in
theorem op_at {u v : xS} (R : lw_R u v) (gi : Int) (i : Int) (j : Int) {k1 : Nat} (hk_gi : z_gq gi k1) : (g_ok (u.1 (3 + 4 * k1))) ∧ (q_bd (v.1 4)) ∧ ∀ (r1 : Int) (u' : xS) (r2 : Int) (v' : xS), ((r1 = (if (0 ≤ gi ∧ gi < 4) ∧ m_no (g_th (u.1 (3 + 4 * k1))) i j ≠ -1 then b_fu (g_at (u.1 (3 + 4 * k1)) (40 * i + j)) else 2147483647)) ∧ u' = u) → ((r2 = (if (0 ≤ gi ∧ gi < 4) ∧ m_no (q_th (v.1 5) gi) i j ≠ -1 then b_fu (q_at (v.1 4) (v.1 5) gi (40 * i + j)) else 2147483647)) ∧ v' = v) → r1 = r2 ∧ lw_R u' v' := by
  refine ⟨lw_gok R hk_gi, R.2.2.1.1, ?_⟩
  rintro r1 u' r2 v' ⟨h1, rfl⟩ ⟨h2, rfl⟩
  refine ⟨?_, R⟩
  by_cases hc : 0 ≤ gi ∧ gi < 4
  · obtain ⟨e1, e2⟩ := lw_TU R hk_gi hc
    rw [h1, h2, e1, e2]
  · rw [h1, h2, if_neg (fun h => hc h.1), if_neg (fun h => hc h.1)]
set_option maxHeartbeats 2000000 in
theorem op_count {u v : xS} (R : lw_R u v) (gi : Int) (what : Int) {k1 : Nat} (hk_gi : z_gq gi k1) : (g_ok (u.1 (3 + 4 * k1))) ∧ (q_bd (v.1 4)) ∧ ∀ (r1 : Int) (u' : xS) (r2 : Int) (v' : xS), ((r1 = if (0 ≤ gi ∧ gi < 4) ∧ 0 ≤ what ∧ what ≤ 5 then p_ct (g_th (u.1 (3 + 4 * k1))) (g_at (u.1 (3 + 4 * k1))) what 1280 else -1) ∧ u' = u) → ((r2 = if (0 ≤ gi ∧ gi < 4) ∧ 0 ≤ what ∧ what ≤ 5 then p_ct (q_th (v.1 5) gi) (q_at (v.1 4) (v.1 5) gi) what 1280 else -1) ∧ v' = v) → r1 = r2 ∧ lw_R u' v' := by
  refine ⟨lw_gok R hk_gi, R.2.2.1.1, ?_⟩
  rintro r1 u' r2 v' ⟨h1, rfl⟩ ⟨h2, rfl⟩
  refine ⟨?_, R⟩
  by_cases hc : 0 ≤ gi ∧ gi < 4
  · obtain ⟨e1, e2⟩ := lw_TU R hk_gi hc
    rw [h1, h2, e1, e2]
  · rw [h1, h2, if_neg (fun h => hc h.1), if_neg (fun h => hc h.1)]
set_option maxHeartbeats 2000000 in
theorem op_volume {u v : xS} (R : lw_R u v) (gi : Int) (mm : Int) (what : Int) {k1 : Nat} (hk_gi : z_gq gi k1) : (g_ok (u.1 (3 + 4 * k1))) ∧ (q_bd (v.1 4)) ∧ ∀ (r1 : Int) (u' : xS) (r2 : Int) (v' : xS), ((r1 = if (0 ≤ gi ∧ gi < 4) ∧ -8192 ≤ mm ∧ mm ≤ 8192 ∧ 0 ≤ what ∧ what ≤ 1 then p_vl (g_th (u.1 (3 + 4 * k1))) (g_at (u.1 (3 + 4 * k1))) mm what 1280 else -1) ∧ u' = u) → ((r2 = if (0 ≤ gi ∧ gi < 4) ∧ -8192 ≤ mm ∧ mm ≤ 8192 ∧ 0 ≤ what ∧ what ≤ 1 then p_vl (q_th (v.1 5) gi) (q_at (v.1 4) (v.1 5) gi) mm what 1280 else -1) ∧ v' = v) → r1 = r2 ∧ lw_R u' v' := by
  refine ⟨lw_gok R hk_gi, R.2.2.1.1, ?_⟩
  rintro r1 u' r2 v' ⟨h1, rfl⟩ ⟨h2, rfl⟩
  refine ⟨?_, R⟩
  by_cases hc : 0 ≤ gi ∧ gi < 4
  · obtain ⟨e1, e2⟩ := lw_TU R hk_gi hc
    rw [h1, h2, e1, e2]
  · rw [h1, h2, if_neg (fun h => hc h.1), if_neg (fun h => hc h.1)]
set_option maxHeartbeats 2000000 in
theorem op_seen {u v : xS} (R : lw_R u v) (gi : Int) (i : Int) (j : Int) (i2 : Int) (j2 : Int) (eye : Int) {k1 : Nat} (hk_gi : z_gq gi k1) : (g_ok (u.1 (3 + 4 * k1))) ∧ (q_bd (v.1 4)) ∧ ∀ (r1 : Int) (u' : xS) (r2 : Int) (v' : xS), ((if (0 ≤ gi ∧ gi < 4) ∧ 0 ≤ eye ∧ eye ≤ 8192 ∧ m_no (g_th (u.1 (3 + 4 * k1))) i j ≠ -1 ∧ m_no (g_th (u.1 (3 + 4 * k1))) i2 j2 ≠ -1 then (r1 = 0 ∧ (e_hid (g_th (u.1 (3 + 4 * k1))) (g_at (u.1 (3 + 4 * k1))) (40 * i + j) (40 * i2 + j2) eye 1 ∨ e_hid (g_th (u.1 (3 + 4 * k1))) (g_at (u.1 (3 + 4 * k1))) (40 * i + j) (40 * i2 + j2) eye 0)) ∨ (r1 = 1 ∧ ¬ e_hid (g_th (u.1 (3 + 4 * k1))) (g_at (u.1 (3 + 4 * k1))) (40 * i + j) (40 * i2 + j2) eye 1 ∧ ¬ e_hid (g_th (u.1 (3 + 4 * k1))) (g_at (u.1 (3 + 4 * k1))) (40 * i + j) (40 * i2 + j2) eye 0) else r1 = -1) ∧ u' = u) → ((if (0 ≤ gi ∧ gi < 4) ∧ 0 ≤ eye ∧ eye ≤ 8192 ∧ m_no (q_th (v.1 5) gi) i j ≠ -1 ∧ m_no (q_th (v.1 5) gi) i2 j2 ≠ -1 then (r2 = 0 ∧ (e_hid (q_th (v.1 5) gi) (q_at (v.1 4) (v.1 5) gi) (40 * i + j) (40 * i2 + j2) eye 1 ∨ e_hid (q_th (v.1 5) gi) (q_at (v.1 4) (v.1 5) gi) (40 * i + j) (40 * i2 + j2) eye 0)) ∨ (r2 = 1 ∧ ¬ e_hid (q_th (v.1 5) gi) (q_at (v.1 4) (v.1 5) gi) (40 * i + j) (40 * i2 + j2) eye 1 ∧ ¬ e_hid (q_th (v.1 5) gi) (q_at (v.1 4) (v.1 5) gi) (40 * i + j) (40 * i2 + j2) eye 0) else r2 = -1) ∧ v' = v) → r1 = r2 ∧ lw_R u' v' := by
  refine ⟨lw_gok R hk_gi, R.2.2.1.1, ?_⟩
  rintro r1 u' r2 v' ⟨h1, rfl⟩ ⟨h2, rfl⟩
  refine ⟨?_, R⟩
  by_cases hc : 0 ≤ gi ∧ gi < 4
  · obtain ⟨e1, e2⟩ := lw_TU R hk_gi hc
    rw [e1, e2] at h1
    split at h1
    · next h =>
      rw [if_pos h] at h2
      rcases h1 with ⟨a1, b1⟩ | ⟨a1, b1, c1⟩ <;> rcases h2 with ⟨a2, b2⟩ | ⟨a2, b2, c2⟩
      · rw [a1, a2]
      · rcases b1 with b1 | b1
        · exact absurd b1 b2
        · exact absurd b1 c2
      · rcases b2 with b2 | b2
        · exact absurd b2 b1
        · exact absurd b2 c1
      · rw [a1, a2]
    · next h => rw [if_neg h] at h2; rw [h1, h2]
  · rw [if_neg (fun h => hc h.1)] at h1 h2
    rw [h1, h2]
set_option maxHeartbeats 2000000 in
theorem op_point {u v : xS} (R : lw_R u v) (gi : Int) (i : Int) (j : Int) (what : Int) {k1 : Nat} (hk_gi : z_gq gi k1) : (g_ok (u.1 (3 + 4 * k1))) ∧ (q_bd (v.1 4)) ∧ ∀ (r1 : Int) (u' : xS) (r2 : Int) (v' : xS), (∃ (n1 : Nat → Int32), ∃ (n2 : Nat → Int64), ∃ (n3 : Nat → Int32), ∃ (n4 : Int), z_in n4 ∧ (if (0 ≤ gi ∧ gi < 4) ∧ m_no (g_th (u.1 (3 + 4 * k1))) i j ≠ -1 then p_ans (g_th (u.1 (3 + 4 * k1))) (g_at (u.1 (3 + 4 * k1))) (40 * i + j) what r1 else r1 = -8388610) ∧ u' = (z_u (z_u (u.1) 20 n1) 22 n3, z_u (u.2.1) 21 n2, z_u (u.2.2) 5 n4)) → (∃ (n1 : Nat → Int32), ∃ (n2 : Nat → Int32), ∃ (n3 : Nat → Int32), ∃ (n4 : Nat → Int32), ((if (0 ≤ gi ∧ gi < 4) ∧ m_no (q_th (v.1 5) gi) i j ≠ -1 then p_ans (q_th (v.1 5) gi) (q_at (v.1 4) (v.1 5) gi) (40 * i + j) what r2 else r2 = -8388610)) ∧ v' = (z_u (z_u (z_u (z_u (v.1) 23 n1) 25 n2) 26 n3) 27 n4, v.2.1, v.2.2)) → r1 = r2 ∧ lw_R u' v' := by
  refine ⟨lw_gok R hk_gi, R.2.2.1.1, ?_⟩
  rintro r1 u' r2 v' ⟨n1, n2, n3, n4, hn4, h1, rfl⟩ ⟨m1, m2, m3, m4, h2, rfl⟩
  refine ⟨?_, lw_same R ⟨fun j h => ?_, ?_, fun j h => ?_, z_u_in hn4 R.1.1⟩ ⟨fun j h => ?_, rfl, fun _ _ => rfl, R.1.2⟩⟩
  · by_cases hc : 0 ≤ gi ∧ gi < 4
    · obtain ⟨e1, e2⟩ := lw_TU R hk_gi hc
      rw [e1, e2] at h1
      split at h1
      · next h => rw [if_pos h] at h2; exact p_ans_uniq h1 h2
      · next h => rw [if_neg h] at h2; rw [h1, h2]
    · rw [if_neg (fun h => hc h.1)] at h1 h2
      rw [h1, h2]
  · show z_u _ _ _ _ = _; rw [z_u_n (by omega), z_u_n (by omega)]
  · show z_u u.2.1 21 n2 38 = _; rw [z_u_n (by omega)]
  · show z_u _ _ _ _ = _; rw [z_u_n (by omega)]
  · show z_u _ _ _ _ = _; rw [z_u_n (by omega), z_u_n (by omega), z_u_n (by omega), z_u_n (by omega)]
set_option maxHeartbeats 2000000 in
theorem op_line {u v : xS} (R : lw_R u v) (k : Int) (what : Int)   : ∃ (ls : List d_L), ∃ (T : Int → Bool), ∃ (U : Int → Int), ∃ (hs : Nat → Int32), (l_I ls (u.1 26) (u.1 32) (u.2.1 38) (u.1 33) (u.1 34) (u.1 35) (u.1 36) (u.2.2 12)) ∧ (m_I ls T U hs (v.1 7) (v.1 8) (v.1 9) (v.1 10) (v.1 11) (v.1 12) (v.1 13) (v.1 14) (v.2.1 15) (v.1 16) (v.1 17) (v.1 18) (v.2.2 1)) ∧ ∀ (r1 : Int) (u' : xS) (r2 : Int) (v' : xS), (∃ (n1 : Nat → Int64), ∃ (n2 : Int), ∃ (n3 : Nat → Int64), ∃ (n4 : Int), z_in n2 ∧ z_in n4 ∧ (r1 = l_line (g_th (u.1 26)) (g_at (u.1 26)) (u.1 32) ls k what) ∧ u' = (u.1, z_u (z_u (u.2.1) 40 n1) 42 n3, z_u (z_u (u.2.2) 10 n2) 11 n4)) → ((r2 = l_line T U hs ls k what) ∧ v' = v) → r1 = r2 ∧ lw_R u' v' := by
  obtain ⟨ls, T, U, hs, rfl, rfl, hI, hM, hlu, hst, hs0, hs1⟩ := id R.2.2.2.2
  
  refine ⟨ls, _, _, hs, hI, hM, ?_⟩
  rintro r1 u' r2 v' ⟨n1, n2, n3, n4, hn2, hn4, h1, rfl⟩ ⟨h2, rfl⟩
  refine ⟨by rw [h1, h2]; exact l_line_hs hlu _ _, lw_same R ⟨fun _ _ => rfl, ?_, fun j h => ?_, z_u_in hn4 (z_u_in hn2 R.1.1)⟩ (r_sy_rfl R)⟩
  · show z_u (z_u u.2.1 40 n1) 42 n3 38 = _; rw [z_u_n (by omega), z_u_n (by omega)]
  · show z_u _ _ _ _ = _; rw [z_u_n (by omega), z_u_n (by omega)]
set_option maxHeartbeats 2000000 in
theorem op_side {u v : xS} (R : lw_R u v) (k : Int) (i : Int)   : ∃ (ls : List d_L), ∃ (T : Int → Bool), ∃ (U : Int → Int), ∃ (hs : Nat → Int32), (d_C ls (u.1 33) (u.1 34) (u.1 35) (u.1 36) (u.2.2 12)) ∧ (m_I ls T U hs (v.1 7) (v.1 8) (v.1 9) (v.1 10) (v.1 11) (v.1 12) (v.1 13) (v.1 14) (v.2.1 15) (v.1 16) (v.1 17) (v.1 18) (v.2.2 1)) ∧ ∀ (r1 : Int) (u' : xS) (r2 : Int) (v' : xS), ((r1 = l_sd ls k i) ∧ u' = u) → ((r2 = l_sd ls k i) ∧ v' = v) → r1 = r2 ∧ lw_R u' v' := by
  obtain ⟨ls, T, U, hs, rfl, rfl, hI, hM, hlu, hst, hs0, hs1⟩ := id R.2.2.2.2
  
  refine ⟨ls, _, _, hs, hI.1, hM, ?_⟩
  rintro r1 u' r2 v' ⟨h1, rfl⟩ ⟨h2, rfl⟩
  exact ⟨by rw [h1, h2], R⟩
set_option maxHeartbeats 2000000 in
theorem op_inside {u v : xS} (R : lw_R u v) (k : Int) (i : Int) (j : Int)   : ∃ (ls : List d_L), ∃ (T : Int → Bool), ∃ (U : Int → Int), ∃ (hs : Nat → Int32), (l_I ls (u.1 26) (u.1 32) (u.2.1 38) (u.1 33) (u.1 34) (u.1 35) (u.1 36) (u.2.2 12)) ∧ (m_I ls T U hs (v.1 7) (v.1 8) (v.1 9) (v.1 10) (v.1 11) (v.1 12) (v.1 13) (v.1 14) (v.2.1 15) (v.1 16) (v.1 17) (v.1 18) (v.2.2 1)) ∧ ∀ (r1 : Int) (u' : xS) (r2 : Int) (v' : xS), (∃ (n1 : Nat → Int64), ∃ (n2 : Int), z_in n2 ∧ (r1 = if (l_at ls k).2.1 = 1 ∧ 0 ≤ i ∧ i < 32 ∧ 0 ≤ j ∧ j < 40 then z_b (a_in (g_th (u.1 26)) (l_at ls k).2.2 (40 * i + j)) else -1) ∧ u' = (u.1, z_u (u.2.1) 40 n1, z_u (u.2.2) 10 n2)) → ((r2 = (if (l_at ls k).2.1 = 1 ∧ 0 ≤ i ∧ i < 32 ∧ 0 ≤ j ∧ j < 40 then z_b (a_in T (l_at ls k).2.2 (40 * i + j)) else -1)) ∧ v' = v) → r1 = r2 ∧ lw_R u' v' := by
  obtain ⟨ls, T, U, hs, rfl, rfl, hI, hM, hlu, hst, hs0, hs1⟩ := id R.2.2.2.2
  
  refine ⟨ls, _, _, hs, hI, hM, ?_⟩
  rintro r1 u' r2 v' ⟨n1, n2, hn2, h1, rfl⟩ ⟨h2, rfl⟩
  refine ⟨by rw [h1, h2], lw_same R ⟨fun _ _ => rfl, ?_, fun j h => ?_, z_u_in hn2 R.1.1⟩ (r_sy_rfl R)⟩
  · show z_u u.2.1 40 n1 38 = _; rw [z_u_n (by omega)]
  · show z_u _ _ _ _ = _; rw [z_u_n (by omega)]
set_option maxHeartbeats 2000000 in
theorem op_place {u v : xS} (R : lw_R u v) (k : Int) (i : Int) (ax : Int)   : ∃ (ls : List d_L), ∃ (T : Int → Bool), ∃ (U : Int → Int), ∃ (hs : Nat → Int32), (l_I ls (u.1 26) (u.1 32) (u.2.1 38) (u.1 33) (u.1 34) (u.1 35) (u.1 36) (u.2.2 12)) ∧ (1 ≤ (u.2.2 6) ∧ (u.2.2 6) ≤ 100000) ∧ (m_I ls T U hs (v.1 7) (v.1 8) (v.1 9) (v.1 10) (v.1 11) (v.1 12) (v.1 13) (v.1 14) (v.2.1 15) (v.1 16) (v.1 17) (v.1 18) (v.2.2 1)) ∧ (0 < (v.2.2 1) → 1 ≤ (v.2.2 3) ∧ (v.2.2 3) ≤ 100000) ∧ (∀ q, T q = true → -8388608 ≤ U q ∧ U q ≤ 8388608) ∧ ∀ (r1 : Int) (u' : xS) (r2 : Int) (v' : xS), ((if (ax = 0 ∨ ax = 1) ∧ l_sd ls k i ≠ -1 then l_pl (u.2.2 6) (g_at (u.1 26)) (l_sd ls k i) (l_lu ls (u.1 32) k) ax r1 else r1 = 0) ∧ u' = u) → (((if (ax = 0 ∨ ax = 1) ∧ l_sd ls k i ≠ -1 then l_pl (v.2.2 3) U (l_sd ls k i) (l_lu ls hs k) ax r2 else r2 = 0)) ∧ v' = v) → r1 = r2 ∧ lw_R u' v' := by
  obtain ⟨ls, T, U, hs, rfl, rfl, hI, hM, hlu, hst, hs0, hs1⟩ := id R.2.2.2.2
  
  have hgo : g_ok (u.1 26) := hI.2.2.1
  refine ⟨ls, _, _, hs, hI, ⟨hs0, hs1⟩, hM, fun h => by rw [hst h]; exact ⟨hs0, hs1⟩, fun q hq => g_ok_at hgo hq, ?_⟩
  rintro r1 u' r2 v' ⟨h1, rfl⟩ ⟨h2, rfl⟩
  refine ⟨?_, R⟩
  rw [hlu] at h1
  split at h1
  · next h =>
    rw [if_pos h] at h2
    have hok := l_sd_ok (i := i) (k := k) hM.2.2.1 h.2
    have hpos : 0 < v'.2.2 1 := by
      have hk : 0 ≤ k ∧ k < (ls.length : Int) := by
        apply Decidable.byContradiction
        intro hn
        exact h.2 (l_sd_out hn)
      have := hM.1
      omega
    rw [hst hpos] at h2
    refine l_pl_uniq ?_ h1 h2
    intro e
    have := hok.2.2.2.2
    unfold n_hi at this
    rw [e] at this
    exact this rfl
  · next h => rw [if_neg h] at h2; rw [h1, h2]
set_option maxHeartbeats 2000000 in
theorem op_levels {u v : xS} (R : lw_R u v)    : ∀ (u' v' : xS), (∃ (n1 : Int), z_in n1 ∧ (n1 = 0) ∧ u' = (u.1, u.2.1, z_u (u.2.2) 0 n1)) → (∃ (n1 : Int), z_in n1 ∧ (n1 = 0) ∧ v' = (v.1, v.2.1, z_u (v.2.2) 0 n1)) → lw_R u' v' := by
  rintro u' v' ⟨n1, hn1, rfl, rfl⟩ ⟨m1, hm1, rfl, rfl⟩
  obtain ⟨R1, R2, R3, R4, R5⟩ := R
  refine ⟨⟨z_u_in hn1 R1.1, z_u_in hm1 R1.2⟩, fun k hk => ?_, R3, ?_, r_L_same R5 (fun _ _ => rfl) rfl (fun j h => ?_) (fun _ _ => rfl) rfl (fun j h => ?_)⟩
  · show r_g _ _ _ (z_u u.2.2 0 0 (1 + k)) _ k
    rw [z_u_n (by omega)]
    exact R2 k hk
  · exact ⟨rfl, ⟨by show (0 : Int) ≤ 0; omega, by show (0 : Int) ≤ 16; omega⟩, R4.2.2⟩
  · show z_u _ _ _ _ = _; rw [z_u_n (by omega)]
  · show z_u _ _ _ _ = _; rw [z_u_n (by omega)]
set_option maxHeartbeats 2000000 in
theorem op_level {u v : xS} (R : lw_R u v) (mm : Int)   : (0 ≤ (u.2.2 0) ∧ (u.2.2 0) ≤ 16) ∧ (0 ≤ (v.2.2 0) ∧ (v.2.2 0) ≤ 16) ∧ ∀ (r1 : Int) (u' : xS) (r2 : Int) (v' : xS), (∃ (n1 : Nat → Int32), ∃ (n2 : Int), z_in n2 ∧ (r1 = (if -8192 ≤ mm ∧ mm ≤ 8192 ∧ (u.2.2 0) < 16 ∧ ((u.2.2 0) > 0 → z_g (u.1 18) ((u.2.2 0) - 1) < mm) then (u.2.2 0) + 1 else -1) ∧ n2 = (if -8192 ≤ mm ∧ mm ≤ 8192 ∧ (u.2.2 0) < 16 ∧ ((u.2.2 0) > 0 → z_g (u.1 18) ((u.2.2 0) - 1) < mm) then (u.2.2 0) + 1 else (u.2.2 0)) ∧ n1 = (if -8192 ≤ mm ∧ mm ≤ 8192 ∧ (u.2.2 0) < 16 ∧ ((u.2.2 0) > 0 → z_g (u.1 18) ((u.2.2 0) - 1) < mm) then z_s (u.1 18) (u.2.2 0) mm else (u.1 18))) ∧ u' = (z_u (u.1) 18 n1, u.2.1, z_u (u.2.2) 0 n2)) → (∃ (n1 : Nat → Int32), ∃ (n2 : Int), z_in n2 ∧ (r2 = (if -8192 ≤ mm ∧ mm ≤ 8192 ∧ (v.2.2 0) < 16 ∧ ((v.2.2 0) > 0 → z_g (v.1 6) ((v.2.2 0) - 1) < mm) then (v.2.2 0) + 1 else -1) ∧ n2 = (if -8192 ≤ mm ∧ mm ≤ 8192 ∧ (v.2.2 0) < 16 ∧ ((v.2.2 0) > 0 → z_g (v.1 6) ((v.2.2 0) - 1) < mm) then (v.2.2 0) + 1 else (v.2.2 0)) ∧ n1 = (if -8192 ≤ mm ∧ mm ≤ 8192 ∧ (v.2.2 0) < 16 ∧ ((v.2.2 0) > 0 → z_g (v.1 6) ((v.2.2 0) - 1) < mm) then z_s (v.1 6) (v.2.2 0) mm else (v.1 6))) ∧ v' = (z_u (v.1) 6 n1, v.2.1, z_u (v.2.2) 0 n2)) → r1 = r2 ∧ lw_R u' v' := by
  obtain ⟨V1, V2, V3⟩ := R.2.2.2.1
  refine ⟨V2, by rw [← V1]; exact V2, ?_⟩
  rintro r1 u' r2 v' ⟨n1, n2, hn2, ⟨a1, a2, a3⟩, rfl⟩ ⟨m1, m2, hm2, ⟨b1, b2, b3⟩, rfl⟩
  have hcc : (-8192 ≤ mm ∧ mm ≤ 8192 ∧ (u.2.2 0) < 16 ∧ ((u.2.2 0) > 0 → z_g (u.1 18) ((u.2.2 0) - 1) < mm)) ↔ (-8192 ≤ mm ∧ mm ≤ 8192 ∧ (v.2.2 0) < 16 ∧ ((v.2.2 0) > 0 → z_g (v.1 6) ((v.2.2 0) - 1) < mm)) := by
    rw [← V1]
    constructor
    · rintro ⟨p1, p2, p3, p4⟩
      exact ⟨p1, p2, p3, fun h => by rw [← (V3 _ (by omega) (by omega)).1]; exact p4 h⟩
    · rintro ⟨p1, p2, p3, p4⟩
      exact ⟨p1, p2, p3, fun h => by rw [(V3 _ (by omega) (by omega)).1]; exact p4 h⟩
  have fin : r1 = r2 ∧ n2 = m2 ∧ (0 ≤ n2 ∧ n2 ≤ 16) ∧ ∀ q : Int, 0 ≤ q → q < 16 → z_g n1 q = z_g m1 q ∧ -8192 ≤ z_g m1 q ∧ z_g m1 q ≤ 8192 := by
    by_cases hc : -8192 ≤ mm ∧ mm ≤ 8192 ∧ (u.2.2 0) < 16 ∧ ((u.2.2 0) > 0 → z_g (u.1 18) ((u.2.2 0) - 1) < mm)
    · have hd := hcc.mp hc
      rw [if_pos hc] at a1 a2 a3
      rw [if_pos hd] at b1 b2 b3
      rw [a1, b1, a2, b2, a3, b3, V1]
      refine ⟨rfl, rfl, ⟨by omega, by omega⟩, fun q p1 p2 => ?_⟩
      rw [z_gs ⟨by omega, by omega⟩ (by omega) p1, z_gs ⟨by omega, by omega⟩ (by omega) p1]
      by_cases e : q = v.2.2 0
      · rw [if_pos e, if_pos e]; exact ⟨rfl, by omega, by omega⟩
      · rw [if_neg e, if_neg e]; exact V3 q p1 p2
    · have hd := fun h => hc (hcc.mpr h)
      rw [if_neg hc] at a1 a2 a3
      rw [if_neg hd] at b1 b2 b3
      rw [a1, b1, a2, b2, a3, b3]
      exact ⟨rfl, V1, V2, V3⟩
  clear a1 a2 a3 b1 b2 b3 hcc
  obtain ⟨f1, f2, f3, f4⟩ := fin
  obtain ⟨R1, R2, R3, R4, R5⟩ := R
  refine ⟨f1, ⟨z_u_in hn2 R1.1, z_u_in hm2 R1.2⟩, fun k hk => ?_, ?_, ?_, r_L_same R5 (fun j h => ?_) rfl (fun j h => ?_) (fun j h => ?_) rfl (fun j h => ?_)⟩
  · show r_g (z_u u.1 18 n1 (3 + 4 * k)) (z_u u.1 18 n1 (4 + 4 * k)) (z_u u.1 18 n1 (5 + 4 * k)) (z_u u.2.2 0 n2 (1 + k)) _ k
    rw [z_u_n (by omega), z_u_n (by omega), z_u_n (by omega), z_u_n (by omega)]
    refine r_g_same (R2 k hk) ?_ (fun i _ _ => ?_) (fun i _ _ => ?_)
    · show z_g (z_u v.1 6 m1 1) _ = _; rw [z_u_n (by omega)]
    · show z_g (z_u v.1 6 m1 2) _ = _ ∧ z_g (z_u v.1 6 m1 3) _ = _; rw [z_u_n (by omega), z_u_n (by omega)]; exact ⟨rfl, rfl⟩
    · show z_g (z_u v.1 6 m1 4) _ = _ ∧ z_g (z_u v.1 6 m1 5) _ = _; rw [z_u_n (by omega), z_u_n (by omega)]; exact ⟨rfl, rfl⟩
  · show q_bd (z_u v.1 6 m1 4) ∧ q_rw (z_u v.1 6 m1 3) (z_u v.1 6 m1 2) ∧ q_rs (z_u v.1 6 m1 3) (z_u v.1 6 m1 2) ∧ q_01 5120 (z_u v.1 6 m1 5)
    rw [z_u_n (by omega), z_u_n (by omega), z_u_n (by omega), z_u_n (by omega)]
    exact R3
  · show z_u u.2.2 0 n2 0 = z_u v.2.2 0 m2 0 ∧ (0 ≤ z_u u.2.2 0 n2 0 ∧ z_u u.2.2 0 n2 0 ≤ 16) ∧ ∀ q : Int, 0 ≤ q → q < 16 → z_g (z_u u.1 18 n1 18) q = z_g (z_u v.1 6 m1 6) q ∧ -8192 ≤ z_g (z_u v.1 6 m1 6) q ∧ z_g (z_u v.1 6 m1 6) q ≤ 8192
    rw [z_u_s, z_u_s, z_u_s, z_u_s]
    exact ⟨f2, f3, f4⟩
  · show z_u _ _ _ _ = _; rw [z_u_n (by omega)]
  · show z_u _ _ _ _ = _; rw [z_u_n (by omega)]
  · show z_u _ _ _ _ = _; rw [z_u_n (by omega)]
  · show z_u _ _ _ _ = _; rw [z_u_n (by omega)]
set_option maxHeartbeats 2000000 in
theorem op_spacing {u v : xS} (R : lw_R u v) (gi : Int) (mm : Int) {k1 : Nat} (hk_gi : z_gq gi k1) : ∀ (r1 : Int) (u' : xS) (r2 : Int) (v' : xS), (∃ (n1 : Int), z_in n1 ∧ (n1 = (if (0 ≤ gi ∧ gi < 4) ∧ 1 ≤ mm ∧ mm ≤ 100000 then mm else (u.2.2 (1 + k1))) ∧ r1 = z_b (decide ((0 ≤ gi ∧ gi < 4) ∧ 1 ≤ mm ∧ mm ≤ 100000))) ∧ u' = (u.1, u.2.1, z_u (u.2.2) (1 + k1) n1)) → (∃ (n1 : Nat → Int32), (r2 = z_b (decide ((0 ≤ gi ∧ gi < 4) ∧ 1 ≤ mm ∧ mm ≤ 100000)) ∧ n1 = (if (0 ≤ gi ∧ gi < 4) ∧ 1 ≤ mm ∧ mm ≤ 100000 then z_s (v.1 1) gi mm else (v.1 1))) ∧ v' = (z_u (v.1) 1 n1, v.2.1, v.2.2)) → r1 = r2 ∧ lw_R u' v' := by
  rintro r1 u' r2 v' ⟨n1, hn1, ⟨a1, a2⟩, rfl⟩ ⟨m1, ⟨b1, b2⟩, rfl⟩
  refine ⟨by rw [a2, b1], ?_⟩
  have hK := hk_gi.1
  have G := R.2.1 k1 hK
  have M := R.2.2.1
  have ov : ∀ j, j ≠ 1 → z_u v.1 1 m1 j = v.1 j := fun j h => z_u_n h
  have hm1 : ∀ q : Int, 0 ≤ q → z_g m1 q = if q = k1 ∧ (0 ≤ gi ∧ gi < 4) ∧ 1 ≤ mm ∧ mm ≤ 100000 then mm else z_g (v.1 1) q := fun q hq => by
    rw [b2]
    by_cases hc : (0 ≤ gi ∧ gi < 4) ∧ 1 ≤ mm ∧ mm ≤ 100000
    · rw [if_pos hc, z_gs ⟨by omega, by omega⟩ hc.1.1 hq, hk_gi.2 hc.1]
      by_cases e : q = (k1 : Int)
      · rw [if_pos e, if_pos ⟨e, by rw [← hk_gi.2 hc.1]; exact hc.1, hc.2⟩]
      · rw [if_neg e, if_neg (fun h => e h.1)]
    · rw [if_neg hc, if_neg (fun h => hc h.2)]
  refine lw_grid (K := k1) R ⟨z_u_in hn1 R.1.1, R.1.2⟩ (fun _ _ => rfl) rfl (fun j h => ?_) (fun k hk e => ⟨rfl, rfl, rfl, ?_⟩) (fun j h => ov j (by omega)) rfl (fun _ _ => rfl) (fun k hk e => ?_) ?_ ?_
  · show z_u _ _ _ _ = _; rw [z_u_n (by omega)]
  · show z_u _ _ _ _ = _; rw [z_u_n (by omega)]
  · refine ⟨?_, fun i _ _ => ?_, fun n _ _ => ?_⟩
    · show z_g (z_u v.1 1 m1 1) _ = _
      rw [z_u_s, hm1 k (by omega), if_neg (fun h => by have := h.1; omega)]
    · show z_g (z_u v.1 1 m1 2) _ = _ ∧ z_g (z_u v.1 1 m1 3) _ = _; rw [ov 2 (by decide), ov 3 (by decide)]; exact ⟨rfl, rfl⟩
    · show z_g (z_u v.1 1 m1 4) _ = _ ∧ z_g (z_u v.1 1 m1 5) _ = _; rw [ov 4 (by decide), ov 5 (by decide)]; exact ⟨rfl, rfl⟩
  · show q_bd (z_u v.1 1 m1 4) ∧ q_rw (z_u v.1 1 m1 3) (z_u v.1 1 m1 2) ∧ q_rs (z_u v.1 1 m1 3) (z_u v.1 1 m1 2) ∧ q_01 5120 (z_u v.1 1 m1 5)
    rw [ov 2 (by decide), ov 3 (by decide), ov 4 (by decide), ov 5 (by decide)]; exact M
  · show r_g (u.1 (3 + 4 * k1)) (u.1 (4 + 4 * k1)) (u.1 (5 + 4 * k1)) (z_u u.2.2 (1 + k1) n1 (1 + k1)) _ k1
    rw [z_u_s]
    obtain ⟨g1, g2, g3, g4, g5, g6⟩ := G
    have hv : n1 = (if (0 ≤ gi ∧ gi < 4) ∧ 1 ≤ mm ∧ mm ≤ 100000 then mm else (u.2.2 (1 + k1))) := a1
    refine ⟨g1, g2, ?_, ?_, fun i p q => ?_, fun n => ?_⟩
    · rw [hv]; split <;> omega
    · show z_g (z_u v.1 1 m1 1) _ = _
      rw [z_u_s, hm1 k1 (by omega), hv]
      by_cases hc : (0 ≤ gi ∧ gi < 4) ∧ 1 ≤ mm ∧ mm ≤ 100000
      · rw [if_pos ⟨rfl, hc⟩, if_pos hc]
      · rw [if_neg (fun h => hc h.2), if_neg hc]; exact g4
    · show _ = z_g (z_u v.1 1 m1 3) _ ∧ _ = z_g (z_u v.1 1 m1 2) _; rw [ov 2 (by decide), ov 3 (by decide)]; exact g5 i p q
    · show _ = q_at (z_u v.1 1 m1 4) (z_u v.1 1 m1 5) _ n; rw [ov 4 (by decide), ov 5 (by decide)]; exact g6 n
