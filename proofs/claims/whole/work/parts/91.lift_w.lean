set_option maxHeartbeats 4000000 in
set_option maxRecDepth 100000 in
theorem mw_X7_smooth (l : Launch) (D : va_G) (cA : Nat → ClassId) (t1 t2 : Nat) (a : Nat → Nat) (u : xS) (hu : ∀ j, z_in (u.2.2 j)) (gi : Int) (to : Int) (weight : Int) (h_gi : z_in gi) (h_to : z_in to) (h_weight : z_in weight) (k1 : Nat)  (k2 : Nat) (hk_gi : z_gq gi k1) (hk_to : z_gq to k2)  (hp1 : g_ok (u.1 (3 + 4 * k1))) : Met l yX7_smooth wsX7_smooth ({ frames := 4, cells := 0, slots := 0, locals := 93 } : Room) (va_Pc [.ref (a 0), .int (z_i gi), .int (z_i to), .int (z_i weight)] (z_M1 D cA t1 t2 (xW cA a u))) (va_Qi (z_mi (fun (r : Int) (u' : xS) => ∃ (n1 : Nat → Int32), ∃ (n2 : Nat → Int32), ∃ (n3 : Nat → Int32), ∃ (n4 : Nat → Int32), ∃ (n5 : Int), z_in n5 ∧ (r = z_b (decide ((0 ≤ gi ∧ gi < 4) ∧ (0 ≤ to ∧ to < 4) ∧ 1 ≤ weight ∧ weight ≤ 1000)) ∧ ((0 ≤ gi ∧ gi < 4) ∧ (0 ≤ to ∧ to < 4) ∧ 1 ≤ weight ∧ weight ≤ 1000 → (∀ n : Int, 0 ≤ n → n < 1280 → z_g n2 n = f_sm (u.1 (3 + 4 * k1)) weight n) ∧ n3 = (u.1 (4 + 4 * k1)) ∧ n4 = (u.1 (5 + 4 * k1)) ∧ n5 = (u.2.2 (1 + k1))) ∧ (¬ ((0 ≤ gi ∧ gi < 4) ∧ (0 ≤ to ∧ to < 4) ∧ 1 ≤ weight ∧ weight ≤ 1000) → n2 = (u.1 (3 + 4 * k2)) ∧ n3 = (u.1 (4 + 4 * k2)) ∧ n4 = (u.1 (5 + 4 * k2)) ∧ n5 = (u.2.2 (1 + k2)))) ∧ u' = (z_u (z_u (z_u (z_u (u.1) 23 n1) (3 + 4 * k2) n2) (4 + 4 * k2) n3) (5 + 4 * k2) n4, u.2.1, z_u (u.2.2) (1 + k2) n5))) (fun (u' : xS) t => va_P D vwCl (xW cA a u') t.heap) (z_A (xW cA a u))) 0 0 (z_A (xW cA a u)) := by
  by_cases h : k1 = k2
  · subst h
    exact mw_X7_smooth_s l D cA t1 t2 a u hu gi to weight h_gi h_to h_weight k1 hk_gi hk_to hp1
  · exact mw_X7_smooth_d l D cA t1 t2 a u hu gi to weight h_gi h_to h_weight k1 k2 h hk_gi hk_to hp1
set_option maxHeartbeats 4000000 in
set_option maxRecDepth 100000 in
theorem mw_X7_difference (l : Launch) (D : va_G) (cA : Nat → ClassId) (t1 t2 : Nat) (a : Nat → Nat) (u : xS) (hu : ∀ j, z_in (u.2.2 j)) (gi : Int) (hi_ : Int) (to : Int) (h_gi : z_in gi) (h_hi_ : z_in hi_) (h_to : z_in to) (k1 : Nat)  (k2 : Nat)  (k3 : Nat)   (hk_gi : z_gq gi k1) (hk_hi_ : z_gq hi_ k2) (hk_to : z_gq to k3)  (hp1 : g_ok (u.1 (3 + 4 * k1))) (hp2 : g_ok (u.1 (3 + 4 * k2))) : Met l yX7_difference wsX7_difference ({ frames := 2, cells := 0, slots := 0, locals := 39 } : Room) (va_Pc [.ref (a 0), .int (z_i gi), .int (z_i hi_), .int (z_i to)] (z_M1 D cA t1 t2 (xW cA a u))) (va_Qi (z_mi (fun (r : Int) (u' : xS) => ∃ (n1 : Nat → Int32), ∃ (n2 : Nat → Int32), ∃ (n3 : Nat → Int32), ∃ (n4 : Int), z_in n4 ∧ (r = (if (0 ≤ gi ∧ gi < 4) ∧ (0 ≤ hi_ ∧ hi_ < 4) ∧ (0 ≤ to ∧ to < 4) then f_bc (u.1 (3 + 4 * k1)) (u.1 (3 + 4 * k2)) 1280 else -1) ∧ ((0 ≤ gi ∧ gi < 4) ∧ (0 ≤ hi_ ∧ hi_ < 4) ∧ (0 ≤ to ∧ to < 4) → (∀ n : Int, 0 ≤ n → n < 1280 → z_g n1 n = f_df (u.1 (3 + 4 * k1)) (u.1 (3 + 4 * k2)) n) ∧ n2 = (u.1 (4 + 4 * k1)) ∧ n3 = (u.1 (5 + 4 * k1)) ∧ n4 = (u.2.2 (1 + k1))) ∧ (¬ ((0 ≤ gi ∧ gi < 4) ∧ (0 ≤ hi_ ∧ hi_ < 4) ∧ (0 ≤ to ∧ to < 4)) → n1 = (u.1 (3 + 4 * k3)) ∧ n2 = (u.1 (4 + 4 * k3)) ∧ n3 = (u.1 (5 + 4 * k3)) ∧ n4 = (u.2.2 (1 + k3)))) ∧ u' = (z_u (z_u (z_u (u.1) (3 + 4 * k3) n1) (4 + 4 * k3) n2) (5 + 4 * k3) n3, u.2.1, z_u (u.2.2) (1 + k3) n4))) (fun (u' : xS) t => va_P D vwCl (xW cA a u') t.heap) (z_A (xW cA a u))) 0 0 (z_A (xW cA a u)) := by
  by_cases h : k1 = k2
  · subst h
    by_cases h2 : k1 = k3
    · subst h2
      exact mw_X7_difference_a l D cA t1 t2 a u hu gi hi_ to h_gi h_hi_ h_to k1 hk_gi hk_hi_ hk_to hp1
    · exact mw_X7_difference_b l D cA t1 t2 a u hu gi hi_ to h_gi h_hi_ h_to k1 k3 h2 hk_gi hk_hi_ hk_to hp1
  · by_cases h2 : k1 = k3
    · subst h2
      exact mw_X7_difference_c l D cA t1 t2 a u hu gi hi_ to h_gi h_hi_ h_to k1 k2 h hk_gi hk_hi_ hk_to hp1 hp2
    · by_cases h3 : k2 = k3
      · subst h3
        exact mw_X7_difference_d l D cA t1 t2 a u hu gi hi_ to h_gi h_hi_ h_to k1 k2 h hk_gi hk_hi_ hk_to hp1 hp2
      · exact mw_X7_difference_e l D cA t1 t2 a u hu gi hi_ to h_gi h_hi_ h_to k1 k2 k3 h h2 h3 hk_gi hk_hi_ hk_to hp1 hp2
