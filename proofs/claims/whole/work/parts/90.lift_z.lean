set_option maxHeartbeats 4000000 in
set_option maxRecDepth 100000 in
theorem mw_X7_smooth_s (l : Launch) (D : va_G) (cA : Nat → ClassId) (t1 t2 : Nat) (a : Nat → Nat) (u : xS) (hu : ∀ j, z_in (u.2.2 j)) (gi : Int) (to : Int) (weight : Int) (h_gi : z_in gi) (h_to : z_in to) (h_weight : z_in weight) (k1 : Nat) (hk_gi : z_gq gi k1) (hk_to : z_gq to k1)  (hp1 : g_ok (u.1 (3 + 4 * k1))) : Met l yX7_smooth wsX7_smooth ({ frames := 4, cells := 0, slots := 0, locals := 93 } : Room) (va_Pc [.ref (a 0), .int (z_i gi), .int (z_i to), .int (z_i weight)] (z_M1 D cA t1 t2 (xW cA a u))) (va_Qi (z_mi (fun (r : Int) (u' : xS) => ∃ (n1 : Nat → Int32), ∃ (n2 : Nat → Int32), ∃ (n3 : Nat → Int32), ∃ (n4 : Nat → Int32), ∃ (n5 : Int), z_in n5 ∧ (r = z_b (decide ((0 ≤ gi ∧ gi < 4) ∧ (0 ≤ to ∧ to < 4) ∧ 1 ≤ weight ∧ weight ≤ 1000)) ∧ ((0 ≤ gi ∧ gi < 4) ∧ (0 ≤ to ∧ to < 4) ∧ 1 ≤ weight ∧ weight ≤ 1000 → (∀ n : Int, 0 ≤ n → n < 1280 → z_g n2 n = f_sm (u.1 (3 + 4 * k1)) weight n) ∧ n3 = (u.1 (4 + 4 * k1)) ∧ n4 = (u.1 (5 + 4 * k1)) ∧ n5 = (u.2.2 (1 + k1))) ∧ (¬ ((0 ≤ gi ∧ gi < 4) ∧ (0 ≤ to ∧ to < 4) ∧ 1 ≤ weight ∧ weight ≤ 1000) → n2 = (u.1 (3 + 4 * k1)) ∧ n3 = (u.1 (4 + 4 * k1)) ∧ n4 = (u.1 (5 + 4 * k1)) ∧ n5 = (u.2.2 (1 + k1)))) ∧ u' = (z_u (z_u (z_u (z_u (u.1) 23 n1) (3 + 4 * k1) n2) (4 + 4 * k1) n3) (5 + 4 * k1) n4, u.2.1, z_u (u.2.2) (1 + k1) n5))) (fun (u' : xS) t => va_P D vwCl (xW cA a u') t.heap) (z_A (xW cA a u))) 0 0 (z_A (xW cA a u)) := by
  rcases z_gq_4 hk_gi with hz | hz | hz | hz
  · subst hz
    have hq_gi : 0 ≤ gi ∧ gi < 4 → gi.toNat = 0 := z_gq_n hk_gi
    have hq_to : 0 ≤ to ∧ to < 4 → to.toNat = 0 := z_gq_n hk_to
    have hh_gi : 0 ≤ gi ∧ gi < 4 → z_gr a gi.toNat = some (a 2) := fun h => by rw [hq_gi h]; rfl
    have hh_to : 0 ≤ to ∧ to < 4 → z_gr a to.toNat = some (a 2) := fun h => by rw [hq_to h]; rfl
    exact z_lm1i (mt_X7_smooth_s l D cA t1 t2 (a 0) (a 1) (z_gr a) (a 18) (u.2.2 0) (a 19) (a 23) (u.1 23) (a 24) gi to weight (a 2) (a 3) (u.1 3) (a 4) (u.1 4) (a 5) (u.1 5) (u.2.2 1) (hu _) h_gi h_to h_weight (hu _) (hh_gi) (hh_to) hp1) [0, 1, 23, 2, 3, 4, 5] [1, 2, 4, 5, 6, 7, 0, 0, 0, 0, 0, 0, 0, 0, 0, 0, 0, 0, 0, 0, 0, 0, 0, 3] rfl rfl rfl (fun _ => rfl) (fun v u1 h => ⟨_, ⟨u1.1, u1.2.1, u1.2.2.1, u1.2.2.2.1, u1.2.2.2.2, h.1, h.2, rfl⟩, rfl⟩)
  · subst hz
    have hq_gi : 0 ≤ gi ∧ gi < 4 → gi.toNat = 1 := z_gq_n hk_gi
    have hq_to : 0 ≤ to ∧ to < 4 → to.toNat = 1 := z_gq_n hk_to
    have hh_gi : 0 ≤ gi ∧ gi < 4 → z_gr a gi.toNat = some (a 6) := fun h => by rw [hq_gi h]; rfl
    have hh_to : 0 ≤ to ∧ to < 4 → z_gr a to.toNat = some (a 6) := fun h => by rw [hq_to h]; rfl
    exact z_lm1i (mt_X7_smooth_s l D cA t1 t2 (a 0) (a 1) (z_gr a) (a 18) (u.2.2 0) (a 19) (a 23) (u.1 23) (a 24) gi to weight (a 6) (a 7) (u.1 7) (a 8) (u.1 8) (a 9) (u.1 9) (u.2.2 2) (hu _) h_gi h_to h_weight (hu _) (hh_gi) (hh_to) hp1) [0, 1, 23, 6, 7, 8, 9] [1, 2, 0, 0, 0, 0, 4, 5, 6, 7, 0, 0, 0, 0, 0, 0, 0, 0, 0, 0, 0, 0, 0, 3] rfl rfl rfl (fun _ => rfl) (fun v u1 h => ⟨_, ⟨u1.1, u1.2.1, u1.2.2.1, u1.2.2.2.1, u1.2.2.2.2, h.1, h.2, rfl⟩, rfl⟩)
  · subst hz
    have hq_gi : 0 ≤ gi ∧ gi < 4 → gi.toNat = 2 := z_gq_n hk_gi
    have hq_to : 0 ≤ to ∧ to < 4 → to.toNat = 2 := z_gq_n hk_to
    have hh_gi : 0 ≤ gi ∧ gi < 4 → z_gr a gi.toNat = some (a 10) := fun h => by rw [hq_gi h]; rfl
    have hh_to : 0 ≤ to ∧ to < 4 → z_gr a to.toNat = some (a 10) := fun h => by rw [hq_to h]; rfl
    exact z_lm1i (mt_X7_smooth_s l D cA t1 t2 (a 0) (a 1) (z_gr a) (a 18) (u.2.2 0) (a 19) (a 23) (u.1 23) (a 24) gi to weight (a 10) (a 11) (u.1 11) (a 12) (u.1 12) (a 13) (u.1 13) (u.2.2 3) (hu _) h_gi h_to h_weight (hu _) (hh_gi) (hh_to) hp1) [0, 1, 23, 10, 11, 12, 13] [1, 2, 0, 0, 0, 0, 0, 0, 0, 0, 4, 5, 6, 7, 0, 0, 0, 0, 0, 0, 0, 0, 0, 3] rfl rfl rfl (fun _ => rfl) (fun v u1 h => ⟨_, ⟨u1.1, u1.2.1, u1.2.2.1, u1.2.2.2.1, u1.2.2.2.2, h.1, h.2, rfl⟩, rfl⟩)
  · subst hz
    have hq_gi : 0 ≤ gi ∧ gi < 4 → gi.toNat = 3 := z_gq_n hk_gi
    have hq_to : 0 ≤ to ∧ to < 4 → to.toNat = 3 := z_gq_n hk_to
    have hh_gi : 0 ≤ gi ∧ gi < 4 → z_gr a gi.toNat = some (a 14) := fun h => by rw [hq_gi h]; rfl
    have hh_to : 0 ≤ to ∧ to < 4 → z_gr a to.toNat = some (a 14) := fun h => by rw [hq_to h]; rfl
    exact z_lm1i (mt_X7_smooth_s l D cA t1 t2 (a 0) (a 1) (z_gr a) (a 18) (u.2.2 0) (a 19) (a 23) (u.1 23) (a 24) gi to weight (a 14) (a 15) (u.1 15) (a 16) (u.1 16) (a 17) (u.1 17) (u.2.2 4) (hu _) h_gi h_to h_weight (hu _) (hh_gi) (hh_to) hp1) [0, 1, 23, 14, 15, 16, 17] [1, 2, 0, 0, 0, 0, 0, 0, 0, 0, 0, 0, 0, 0, 4, 5, 6, 7, 0, 0, 0, 0, 0, 3] rfl rfl rfl (fun _ => rfl) (fun v u1 h => ⟨_, ⟨u1.1, u1.2.1, u1.2.2.1, u1.2.2.2.1, u1.2.2.2.2, h.1, h.2, rfl⟩, rfl⟩)
set_option maxHeartbeats 4000000 in
set_option maxRecDepth 100000 in
theorem mw_X7_smooth_d (l : Launch) (D : va_G) (cA : Nat → ClassId) (t1 t2 : Nat) (a : Nat → Nat) (u : xS) (hu : ∀ j, z_in (u.2.2 j)) (gi : Int) (to : Int) (weight : Int) (h_gi : z_in gi) (h_to : z_in to) (h_weight : z_in weight) (k1 : Nat)  (k2 : Nat) (hne_g_h : k1 ≠ k2) (hk_gi : z_gq gi k1) (hk_to : z_gq to k2)  (hp1 : g_ok (u.1 (3 + 4 * k1))) : Met l yX7_smooth wsX7_smooth ({ frames := 4, cells := 0, slots := 0, locals := 93 } : Room) (va_Pc [.ref (a 0), .int (z_i gi), .int (z_i to), .int (z_i weight)] (z_M1 D cA t1 t2 (xW cA a u))) (va_Qi (z_mi (fun (r : Int) (u' : xS) => ∃ (n1 : Nat → Int32), ∃ (n2 : Nat → Int32), ∃ (n3 : Nat → Int32), ∃ (n4 : Nat → Int32), ∃ (n5 : Int), z_in n5 ∧ (r = z_b (decide ((0 ≤ gi ∧ gi < 4) ∧ (0 ≤ to ∧ to < 4) ∧ 1 ≤ weight ∧ weight ≤ 1000)) ∧ ((0 ≤ gi ∧ gi < 4) ∧ (0 ≤ to ∧ to < 4) ∧ 1 ≤ weight ∧ weight ≤ 1000 → (∀ n : Int, 0 ≤ n → n < 1280 → z_g n2 n = f_sm (u.1 (3 + 4 * k1)) weight n) ∧ n3 = (u.1 (4 + 4 * k1)) ∧ n4 = (u.1 (5 + 4 * k1)) ∧ n5 = (u.2.2 (1 + k1))) ∧ (¬ ((0 ≤ gi ∧ gi < 4) ∧ (0 ≤ to ∧ to < 4) ∧ 1 ≤ weight ∧ weight ≤ 1000) → n2 = (u.1 (3 + 4 * k2)) ∧ n3 = (u.1 (4 + 4 * k2)) ∧ n4 = (u.1 (5 + 4 * k2)) ∧ n5 = (u.2.2 (1 + k2)))) ∧ u' = (z_u (z_u (z_u (z_u (u.1) 23 n1) (3 + 4 * k2) n2) (4 + 4 * k2) n3) (5 + 4 * k2) n4, u.2.1, z_u (u.2.2) (1 + k2) n5))) (fun (u' : xS) t => va_P D vwCl (xW cA a u') t.heap) (z_A (xW cA a u))) 0 0 (z_A (xW cA a u)) := by
  rcases z_gq_4 hk_gi with hz | hz | hz | hz
  · subst hz
    have hq_gi : 0 ≤ gi ∧ gi < 4 → gi.toNat = 0 := z_gq_n hk_gi
    rcases z_gq_4 hk_to with hz | hz | hz | hz
    · subst hz
      have hq_to : 0 ≤ to ∧ to < 4 → to.toNat = 0 := z_gq_n hk_to
      exact absurd rfl hne_g_h
    · subst hz
      have hq_to : 0 ≤ to ∧ to < 4 → to.toNat = 1 := z_gq_n hk_to
      have hh_gi : 0 ≤ gi ∧ gi < 4 → z_gr a gi.toNat = some (a 2) := fun h => by rw [hq_gi h]; rfl
      have hh_to : 0 ≤ to ∧ to < 4 → z_gr a to.toNat = some (a 6) := fun h => by rw [hq_to h]; rfl
      exact z_lm1i (mt_X7_smooth_d l D cA t1 t2 (a 0) (a 1) (z_gr a) (a 18) (u.2.2 0) (a 19) (a 23) (u.1 23) (a 24) gi to weight (a 2) (a 3) (u.1 3) (a 4) (u.1 4) (a 5) (u.1 5) (u.2.2 1) (a 6) (a 7) (u.1 7) (a 8) (u.1 8) (a 9) (u.1 9) (u.2.2 2) (hu _) h_gi h_to h_weight (hu _) (hu _) (hh_gi) (hh_to) hp1) [0, 1, 23, 2, 3, 4, 5, 6, 7, 8, 9] [1, 2, 4, 5, 6, 7, 8, 9, 10, 11, 0, 0, 0, 0, 0, 0, 0, 0, 0, 0, 0, 0, 0, 3] rfl rfl rfl (fun _ => rfl) (fun v u1 h => ⟨_, ⟨u1.1, u1.2.1, u1.2.2.1, u1.2.2.2.1, u1.2.2.2.2, h.1, h.2, rfl⟩, rfl⟩)
    · subst hz
      have hq_to : 0 ≤ to ∧ to < 4 → to.toNat = 2 := z_gq_n hk_to
      have hh_gi : 0 ≤ gi ∧ gi < 4 → z_gr a gi.toNat = some (a 2) := fun h => by rw [hq_gi h]; rfl
      have hh_to : 0 ≤ to ∧ to < 4 → z_gr a to.toNat = some (a 10) := fun h => by rw [hq_to h]; rfl
      exact z_lm1i (mt_X7_smooth_d l D cA t1 t2 (a 0) (a 1) (z_gr a) (a 18) (u.2.2 0) (a 19) (a 23) (u.1 23) (a 24) gi to weight (a 2) (a 3) (u.1 3) (a 4) (u.1 4) (a 5) (u.1 5) (u.2.2 1) (a 10) (a 11) (u.1 11) (a 12) (u.1 12) (a 13) (u.1 13) (u.2.2 3) (hu _) h_gi h_to h_weight (hu _) (hu _) (hh_gi) (hh_to) hp1) [0, 1, 23, 2, 3, 4, 5, 10, 11, 12, 13] [1, 2, 4, 5, 6, 7, 0, 0, 0, 0, 8, 9, 10, 11, 0, 0, 0, 0, 0, 0, 0, 0, 0, 3] rfl rfl rfl (fun _ => rfl) (fun v u1 h => ⟨_, ⟨u1.1, u1.2.1, u1.2.2.1, u1.2.2.2.1, u1.2.2.2.2, h.1, h.2, rfl⟩, rfl⟩)
    · subst hz
      have hq_to : 0 ≤ to ∧ to < 4 → to.toNat = 3 := z_gq_n hk_to
      have hh_gi : 0 ≤ gi ∧ gi < 4 → z_gr a gi.toNat = some (a 2) := fun h => by rw [hq_gi h]; rfl
      have hh_to : 0 ≤ to ∧ to < 4 → z_gr a to.toNat = some (a 14) := fun h => by rw [hq_to h]; rfl
      exact z_lm1i (mt_X7_smooth_d l D cA t1 t2 (a 0) (a 1) (z_gr a) (a 18) (u.2.2 0) (a 19) (a 23) (u.1 23) (a 24) gi to weight (a 2) (a 3) (u.1 3) (a 4) (u.1 4) (a 5) (u.1 5) (u.2.2 1) (a 14) (a 15) (u.1 15) (a 16) (u.1 16) (a 17) (u.1 17) (u.2.2 4) (hu _) h_gi h_to h_weight (hu _) (hu _) (hh_gi) (hh_to) hp1) [0, 1, 23, 2, 3, 4, 5, 14, 15, 16, 17] [1, 2, 4, 5, 6, 7, 0, 0, 0, 0, 0, 0, 0, 0, 8, 9, 10, 11, 0, 0, 0, 0, 0, 3] rfl rfl rfl (fun _ => rfl) (fun v u1 h => ⟨_, ⟨u1.1, u1.2.1, u1.2.2.1, u1.2.2.2.1, u1.2.2.2.2, h.1, h.2, rfl⟩, rfl⟩)
  · subst hz
    have hq_gi : 0 ≤ gi ∧ gi < 4 → gi.toNat = 1 := z_gq_n hk_gi
    rcases z_gq_4 hk_to with hz | hz | hz | hz
    · subst hz
      have hq_to : 0 ≤ to ∧ to < 4 → to.toNat = 0 := z_gq_n hk_to
      have hh_gi : 0 ≤ gi ∧ gi < 4 → z_gr a gi.toNat = some (a 6) := fun h => by rw [hq_gi h]; rfl
      have hh_to : 0 ≤ to ∧ to < 4 → z_gr a to.toNat = some (a 2) := fun h => by rw [hq_to h]; rfl
      exact z_lm1i (mt_X7_smooth_d l D cA t1 t2 (a 0) (a 1) (z_gr a) (a 18) (u.2.2 0) (a 19) (a 23) (u.1 23) (a 24) gi to weight (a 6) (a 7) (u.1 7) (a 8) (u.1 8) (a 9) (u.1 9) (u.2.2 2) (a 2) (a 3) (u.1 3) (a 4) (u.1 4) (a 5) (u.1 5) (u.2.2 1) (hu _) h_gi h_to h_weight (hu _) (hu _) (hh_gi) (hh_to) hp1) [0, 1, 23, 6, 7, 8, 9, 2, 3, 4, 5] [1, 2, 8, 9, 10, 11, 4, 5, 6, 7, 0, 0, 0, 0, 0, 0, 0, 0, 0, 0, 0, 0, 0, 3] rfl rfl rfl (fun _ => rfl) (fun v u1 h => ⟨_, ⟨u1.1, u1.2.1, u1.2.2.1, u1.2.2.2.1, u1.2.2.2.2, h.1, h.2, rfl⟩, rfl⟩)
    · subst hz
      have hq_to : 0 ≤ to ∧ to < 4 → to.toNat = 1 := z_gq_n hk_to
      exact absurd rfl hne_g_h
    · subst hz
      have hq_to : 0 ≤ to ∧ to < 4 → to.toNat = 2 := z_gq_n hk_to
      have hh_gi : 0 ≤ gi ∧ gi < 4 → z_gr a gi.toNat = some (a 6) := fun h => by rw [hq_gi h]; rfl
      have hh_to : 0 ≤ to ∧ to < 4 → z_gr a to.toNat = some (a 10) := fun h => by rw [hq_to h]; rfl
      exact z_lm1i (mt_X7_smooth_d l D cA t1 t2 (a 0) (a 1) (z_gr a) (a 18) (u.2.2 0) (a 19) (a 23) (u.1 23) (a 24) gi to weight (a 6) (a 7) (u.1 7) (a 8) (u.1 8) (a 9) (u.1 9) (u.2.2 2) (a 10) (a 11) (u.1 11) (a 12) (u.1 12) (a 13) (u.1 13) (u.2.2 3) (hu _) h_gi h_to h_weight (hu _) (hu _) (hh_gi) (hh_to) hp1) [0, 1, 23, 6, 7, 8, 9, 10, 11, 12, 13] [1, 2, 0, 0, 0, 0, 4, 5, 6, 7, 8, 9, 10, 11, 0, 0, 0, 0, 0, 0, 0, 0, 0, 3] rfl rfl rfl (fun _ => rfl) (fun v u1 h => ⟨_, ⟨u1.1, u1.2.1, u1.2.2.1, u1.2.2.2.1, u1.2.2.2.2, h.1, h.2, rfl⟩, rfl⟩)
    · subst hz
      have hq_to : 0 ≤ to ∧ to < 4 → to.toNat = 3 := z_gq_n hk_to
      have hh_gi : 0 ≤ gi ∧ gi < 4 → z_gr a gi.toNat = some (a 6) := fun h => by rw [hq_gi h]; rfl
      have hh_to : 0 ≤ to ∧ to < 4 → z_gr a to.toNat = some (a 14) := fun h => by rw [hq_to h]; rfl
      exact z_lm1i (mt_X7_smooth_d l D cA t1 t2 (a 0) (a 1) (z_gr a) (a 18) (u.2.2 0) (a 19) (a 23) (u.1 23) (a 24) gi to weight (a 6) (a 7) (u.1 7) (a 8) (u.1 8) (a 9) (u.1 9) (u.2.2 2) (a 14) (a 15) (u.1 15) (a 16) (u.1 16) (a 17) (u.1 17) (u.2.2 4) (hu _) h_gi h_to h_weight (hu _) (hu _) (hh_gi) (hh_to) hp1) [0, 1, 23, 6, 7, 8, 9, 14, 15, 16, 17] [1, 2, 0, 0, 0, 0, 4, 5, 6, 7, 0, 0, 0, 0, 8, 9, 10, 11, 0, 0, 0, 0, 0, 3] rfl rfl rfl (fun _ => rfl) (fun v u1 h => ⟨_, ⟨u1.1, u1.2.1, u1.2.2.1, u1.2.2.2.1, u1.2.2.2.2, h.1, h.2, rfl⟩, rfl⟩)
  · subst hz
    have hq_gi : 0 ≤ gi ∧ gi < 4 → gi.toNat = 2 := z_gq_n hk_gi
    rcases z_gq_4 hk_to with hz | hz | hz | hz
    · subst hz
      have hq_to : 0 ≤ to ∧ to < 4 → to.toNat = 0 := z_gq_n hk_to
      have hh_gi : 0 ≤ gi ∧ gi < 4 → z_gr a gi.toNat = some (a 10) := fun h => by rw [hq_gi h]; rfl
      have hh_to : 0 ≤ to ∧ to < 4 → z_gr a to.toNat = some (a 2) := fun h => by rw [hq_to h]; rfl
      exact z_lm1i (mt_X7_smooth_d l D cA t1 t2 (a 0) (a 1) (z_gr a) (a 18) (u.2.2 0) (a 19) (a 23) (u.1 23) (a 24) gi to weight (a 10) (a 11) (u.1 11) (a 12) (u.1 12) (a 13) (u.1 13) (u.2.2 3) (a 2) (a 3) (u.1 3) (a 4) (u.1 4) (a 5) (u.1 5) (u.2.2 1) (hu _) h_gi h_to h_weight (hu _) (hu _) (hh_gi) (hh_to) hp1) [0, 1, 23, 10, 11, 12, 13, 2, 3, 4, 5] [1, 2, 8, 9, 10, 11, 0, 0, 0, 0, 4, 5, 6, 7, 0, 0, 0, 0, 0, 0, 0, 0, 0, 3] rfl rfl rfl (fun _ => rfl) (fun v u1 h => ⟨_, ⟨u1.1, u1.2.1, u1.2.2.1, u1.2.2.2.1, u1.2.2.2.2, h.1, h.2, rfl⟩, rfl⟩)
    · subst hz
      have hq_to : 0 ≤ to ∧ to < 4 → to.toNat = 1 := z_gq_n hk_to
      have hh_gi : 0 ≤ gi ∧ gi < 4 → z_gr a gi.toNat = some (a 10) := fun h => by rw [hq_gi h]; rfl
      have hh_to : 0 ≤ to ∧ to < 4 → z_gr a to.toNat = some (a 6) := fun h => by rw [hq_to h]; rfl
      exact z_lm1i (mt_X7_smooth_d l D cA t1 t2 (a 0) (a 1) (z_gr a) (a 18) (u.2.2 0) (a 19) (a 23) (u.1 23) (a 24) gi to weight (a 10) (a 11) (u.1 11) (a 12) (u.1 12) (a 13) (u.1 13) (u.2.2 3) (a 6) (a 7) (u.1 7) (a 8) (u.1 8) (a 9) (u.1 9) (u.2.2 2) (hu _) h_gi h_to h_weight (hu _) (hu _) (hh_gi) (hh_to) hp1) [0, 1, 23, 10, 11, 12, 13, 6, 7, 8, 9] [1, 2, 0, 0, 0, 0, 8, 9, 10, 11, 4, 5, 6, 7, 0, 0, 0, 0, 0, 0, 0, 0, 0, 3] rfl rfl rfl (fun _ => rfl) (fun v u1 h => ⟨_, ⟨u1.1, u1.2.1, u1.2.2.1, u1.2.2.2.1, u1.2.2.2.2, h.1, h.2, rfl⟩, rfl⟩)
    · subst hz
      have hq_to : 0 ≤ to ∧ to < 4 → to.toNat = 2 := z_gq_n hk_to
      exact absurd rfl hne_g_h
    · subst hz
      have hq_to : 0 ≤ to ∧ to < 4 → to.toNat = 3 := z_gq_n hk_to
      have hh_gi : 0 ≤ gi ∧ gi < 4 → z_gr a gi.toNat = some (a 10) := fun h => by rw [hq_gi h]; rfl
      have hh_to : 0 ≤ to ∧ to < 4 → z_gr a to.toNat = some (a 14) := fun h => by rw [hq_to h]; rfl
      exact z_lm1i (mt_X7_smooth_d l D cA t1 t2 (a 0) (a 1) (z_gr a) (a 18) (u.2.2 0) (a 19) (a 23) (u.1 23) (a 24) gi to weight (a 10) (a 11) (u.1 11) (a 12) (u.1 12) (a 13) (u.1 13) (u.2.2 3) (a 14) (a 15) (u.1 15) (a 16) (u.1 16) (a 17) (u.1 17) (u.2.2 4) (hu _) h_gi h_to h_weight (hu _) (hu _) (hh_gi) (hh_to) hp1) [0, 1, 23, 10, 11, 12, 13, 14, 15, 16, 17] [1, 2, 0, 0, 0, 0, 0, 0, 0, 0, 4, 5, 6, 7, 8, 9, 10, 11, 0, 0, 0, 0, 0, 3] rfl rfl rfl (fun _ => rfl) (fun v u1 h => ⟨_, ⟨u1.1, u1.2.1, u1.2.2.1, u1.2.2.2.1, u1.2.2.2.2, h.1, h.2, rfl⟩, rfl⟩)
  · subst hz
    have hq_gi : 0 ≤ gi ∧ gi < 4 → gi.toNat = 3 := z_gq_n hk_gi
    rcases z_gq_4 hk_to with hz | hz | hz | hz
    · subst hz
      have hq_to : 0 ≤ to ∧ to < 4 → to.toNat = 0 := z_gq_n hk_to
      have hh_gi : 0 ≤ gi ∧ gi < 4 → z_gr a gi.toNat = some (a 14) := fun h => by rw [hq_gi h]; rfl
      have hh_to : 0 ≤ to ∧ to < 4 → z_gr a to.toNat = some (a 2) := fun h => by rw [hq_to h]; rfl
      exact z_lm1i (mt_X7_smooth_d l D cA t1 t2 (a 0) (a 1) (z_gr a) (a 18) (u.2.2 0) (a 19) (a 23) (u.1 23) (a 24) gi to weight (a 14) (a 15) (u.1 15) (a 16) (u.1 16) (a 17) (u.1 17) (u.2.2 4) (a 2) (a 3) (u.1 3) (a 4) (u.1 4) (a 5) (u.1 5) (u.2.2 1) (hu _) h_gi h_to h_weight (hu _) (hu _) (hh_gi) (hh_to) hp1) [0, 1, 23, 14, 15, 16, 17, 2, 3, 4, 5] [1, 2, 8, 9, 10, 11, 0, 0, 0, 0, 0, 0, 0, 0, 4, 5, 6, 7, 0, 0, 0, 0, 0, 3] rfl rfl rfl (fun _ => rfl) (fun v u1 h => ⟨_, ⟨u1.1, u1.2.1, u1.2.2.1, u1.2.2.2.1, u1.2.2.2.2, h.1, h.2, rfl⟩, rfl⟩)
    · subst hz
      have hq_to : 0 ≤ to ∧ to < 4 → to.toNat = 1 := z_gq_n hk_to
      have hh_gi : 0 ≤ gi ∧ gi < 4 → z_gr a gi.toNat = some (a 14) := fun h => by rw [hq_gi h]; rfl
      have hh_to : 0 ≤ to ∧ to < 4 → z_gr a to.toNat = some (a 6) := fun h => by rw [hq_to h]; rfl
      exact z_lm1i (mt_X7_smooth_d l D cA t1 t2 (a 0) (a 1) (z_gr a) (a 18) (u.2.2 0) (a 19) (a 23) (u.1 23) (a 24) gi to weight (a 14) (a 15) (u.1 15) (a 16) (u.1 16) (a 17) (u.1 17) (u.2.2 4) (a 6) (a 7) (u.1 7) (a 8) (u.1 8) (a 9) (u.1 9) (u.2.2 2) (hu _) h_gi h_to h_weight (hu _) (hu _) (hh_gi) (hh_to) hp1) [0, 1, 23, 14, 15, 16, 17, 6, 7, 8, 9] [1, 2, 0, 0, 0, 0, 8, 9, 10, 11, 0, 0, 0, 0, 4, 5, 6, 7, 0, 0, 0, 0, 0, 3] rfl rfl rfl (fun _ => rfl) (fun v u1 h => ⟨_, ⟨u1.1, u1.2.1, u1.2.2.1, u1.2.2.2.1, u1.2.2.2.2, h.1, h.2, rfl⟩, rfl⟩)
    · subst hz
      have hq_to : 0 ≤ to ∧ to < 4 → to.toNat = 2 := z_gq_n hk_to
      have hh_gi : 0 ≤ gi ∧ gi < 4 → z_gr a gi.toNat = some (a 14) := fun h => by rw [hq_gi h]; rfl
      have hh_to : 0 ≤ to ∧ to < 4 → z_gr a to.toNat = some (a 10) := fun h => by rw [hq_to h]; rfl
      exact z_lm1i (mt_X7_smooth_d l D cA t1 t2 (a 0) (a 1) (z_gr a) (a 18) (u.2.2 0) (a 19) (a 23) (u.1 23) (a 24) gi to weight (a 14) (a 15) (u.1 15) (a 16) (u.1 16) (a 17) (u.1 17) (u.2.2 4) (a 10) (a 11) (u.1 11) (a 12) (u.1 12) (a 13) (u.1 13) (u.2.2 3) (hu _) h_gi h_to h_weight (hu _) (hu _) (hh_gi) (hh_to) hp1) [0, 1, 23, 14, 15, 16, 17, 10, 11, 12, 13] [1, 2, 0, 0, 0, 0, 0, 0, 0, 0, 8, 9, 10, 11, 4, 5, 6, 7, 0, 0, 0, 0, 0, 3] rfl rfl rfl (fun _ => rfl) (fun v u1 h => ⟨_, ⟨u1.1, u1.2.1, u1.2.2.1, u1.2.2.2.1, u1.2.2.2.2, h.1, h.2, rfl⟩, rfl⟩)
    · subst hz
      have hq_to : 0 ≤ to ∧ to < 4 → to.toNat = 3 := z_gq_n hk_to
      exact absurd rfl hne_g_h
set_option maxHeartbeats 4000000 in
set_option maxRecDepth 100000 in
theorem mw_X7_difference_a (l : Launch) (D : va_G) (cA : Nat → ClassId) (t1 t2 : Nat) (a : Nat → Nat) (u : xS) (hu : ∀ j, z_in (u.2.2 j)) (gi : Int) (hi_ : Int) (to : Int) (h_gi : z_in gi) (h_hi_ : z_in hi_) (h_to : z_in to) (k1 : Nat) (hk_gi : z_gq gi k1) (hk_hi_ : z_gq hi_ k1) (hk_to : z_gq to k1)  (hp1 : g_ok (u.1 (3 + 4 * k1))) : Met l yX7_difference wsX7_difference ({ frames := 2, cells := 0, slots := 0, locals := 39 } : Room) (va_Pc [.ref (a 0), .int (z_i gi), .int (z_i hi_), .int (z_i to)] (z_M1 D cA t1 t2 (xW cA a u))) (va_Qi (z_mi (fun (r : Int) (u' : xS) => ∃ (n1 : Nat → Int32), ∃ (n2 : Nat → Int32), ∃ (n3 : Nat → Int32), ∃ (n4 : Int), z_in n4 ∧ (r = (if (0 ≤ gi ∧ gi < 4) ∧ (0 ≤ hi_ ∧ hi_ < 4) ∧ (0 ≤ to ∧ to < 4) then f_bc (u.1 (3 + 4 * k1)) (u.1 (3 + 4 * k1)) 1280 else -1) ∧ ((0 ≤ gi ∧ gi < 4) ∧ (0 ≤ hi_ ∧ hi_ < 4) ∧ (0 ≤ to ∧ to < 4) → (∀ n : Int, 0 ≤ n → n < 1280 → z_g n1 n = f_df (u.1 (3 + 4 * k1)) (u.1 (3 + 4 * k1)) n) ∧ n2 = (u.1 (4 + 4 * k1)) ∧ n3 = (u.1 (5 + 4 * k1)) ∧ n4 = (u.2.2 (1 + k1))) ∧ (¬ ((0 ≤ gi ∧ gi < 4) ∧ (0 ≤ hi_ ∧ hi_ < 4) ∧ (0 ≤ to ∧ to < 4)) → n1 = (u.1 (3 + 4 * k1)) ∧ n2 = (u.1 (4 + 4 * k1)) ∧ n3 = (u.1 (5 + 4 * k1)) ∧ n4 = (u.2.2 (1 + k1)))) ∧ u' = (z_u (z_u (z_u (u.1) (3 + 4 * k1) n1) (4 + 4 * k1) n2) (5 + 4 * k1) n3, u.2.1, z_u (u.2.2) (1 + k1) n4))) (fun (u' : xS) t => va_P D vwCl (xW cA a u') t.heap) (z_A (xW cA a u))) 0 0 (z_A (xW cA a u)) := by
  rcases z_gq_4 hk_gi with hz | hz | hz | hz
  · subst hz
    have hq_gi : 0 ≤ gi ∧ gi < 4 → gi.toNat = 0 := z_gq_n hk_gi
    have hq_hi_ : 0 ≤ hi_ ∧ hi_ < 4 → hi_.toNat = 0 := z_gq_n hk_hi_
    have hq_to : 0 ≤ to ∧ to < 4 → to.toNat = 0 := z_gq_n hk_to
    have hh_gi : 0 ≤ gi ∧ gi < 4 → z_gr a gi.toNat = some (a 2) := fun h => by rw [hq_gi h]; rfl
    have hh_hi_ : 0 ≤ hi_ ∧ hi_ < 4 → z_gr a hi_.toNat = some (a 2) := fun h => by rw [hq_hi_ h]; rfl
    have hh_to : 0 ≤ to ∧ to < 4 → z_gr a to.toNat = some (a 2) := fun h => by rw [hq_to h]; rfl
    exact z_lm0i (mt_X7_difference_a l D cA (a 0) (a 1) (z_gr a) (a 18) (u.2.2 0) (a 19) (a 23) (a 24) gi hi_ to (a 2) (a 3) (u.1 3) (a 4) (u.1 4) (a 5) (u.1 5) (u.2.2 1) (hu _) h_gi h_hi_ h_to (hu _) (hh_gi) (hh_hi_) (hh_to) hp1) [0, 1, 2, 3, 4, 5] [1, 2, 3, 4, 5, 6] rfl rfl rfl (fun _ => rfl) (fun v u1 h => ⟨_, ⟨u1.1, u1.2.1, u1.2.2.1, u1.2.2.2, h.1, h.2, rfl⟩, rfl⟩)
  · subst hz
    have hq_gi : 0 ≤ gi ∧ gi < 4 → gi.toNat = 1 := z_gq_n hk_gi
    have hq_hi_ : 0 ≤ hi_ ∧ hi_ < 4 → hi_.toNat = 1 := z_gq_n hk_hi_
    have hq_to : 0 ≤ to ∧ to < 4 → to.toNat = 1 := z_gq_n hk_to
    have hh_gi : 0 ≤ gi ∧ gi < 4 → z_gr a gi.toNat = some (a 6) := fun h => by rw [hq_gi h]; rfl
    have hh_hi_ : 0 ≤ hi_ ∧ hi_ < 4 → z_gr a hi_.toNat = some (a 6) := fun h => by rw [hq_hi_ h]; rfl
    have hh_to : 0 ≤ to ∧ to < 4 → z_gr a to.toNat = some (a 6) := fun h => by rw [hq_to h]; rfl
    exact z_lm0i (mt_X7_difference_a l D cA (a 0) (a 1) (z_gr a) (a 18) (u.2.2 0) (a 19) (a 23) (a 24) gi hi_ to (a 6) (a 7) (u.1 7) (a 8) (u.1 8) (a 9) (u.1 9) (u.2.2 2) (hu _) h_gi h_hi_ h_to (hu _) (hh_gi) (hh_hi_) (hh_to) hp1) [0, 1, 6, 7, 8, 9] [1, 2, 0, 0, 0, 0, 3, 4, 5, 6] rfl rfl rfl (fun _ => rfl) (fun v u1 h => ⟨_, ⟨u1.1, u1.2.1, u1.2.2.1, u1.2.2.2, h.1, h.2, rfl⟩, rfl⟩)
  · subst hz
    have hq_gi : 0 ≤ gi ∧ gi < 4 → gi.toNat = 2 := z_gq_n hk_gi
    have hq_hi_ : 0 ≤ hi_ ∧ hi_ < 4 → hi_.toNat = 2 := z_gq_n hk_hi_
    have hq_to : 0 ≤ to ∧ to < 4 → to.toNat = 2 := z_gq_n hk_to
    have hh_gi : 0 ≤ gi ∧ gi < 4 → z_gr a gi.toNat = some (a 10) := fun h => by rw [hq_gi h]; rfl
    have hh_hi_ : 0 ≤ hi_ ∧ hi_ < 4 → z_gr a hi_.toNat = some (a 10) := fun h => by rw [hq_hi_ h]; rfl
    have hh_to : 0 ≤ to ∧ to < 4 → z_gr a to.toNat = some (a 10) := fun h => by rw [hq_to h]; rfl
    exact z_lm0i (mt_X7_difference_a l D cA (a 0) (a 1) (z_gr a) (a 18) (u.2.2 0) (a 19) (a 23) (a 24) gi hi_ to (a 10) (a 11) (u.1 11) (a 12) (u.1 12) (a 13) (u.1 13) (u.2.2 3) (hu _) h_gi h_hi_ h_to (hu _) (hh_gi) (hh_hi_) (hh_to) hp1) [0, 1, 10, 11, 12, 13] [1, 2, 0, 0, 0, 0, 0, 0, 0, 0, 3, 4, 5, 6] rfl rfl rfl (fun _ => rfl) (fun v u1 h => ⟨_, ⟨u1.1, u1.2.1, u1.2.2.1, u1.2.2.2, h.1, h.2, rfl⟩, rfl⟩)
  · subst hz
    have hq_gi : 0 ≤ gi ∧ gi < 4 → gi.toNat = 3 := z_gq_n hk_gi
    have hq_hi_ : 0 ≤ hi_ ∧ hi_ < 4 → hi_.toNat = 3 := z_gq_n hk_hi_
    have hq_to : 0 ≤ to ∧ to < 4 → to.toNat = 3 := z_gq_n hk_to
    have hh_gi : 0 ≤ gi ∧ gi < 4 → z_gr a gi.toNat = some (a 14) := fun h => by rw [hq_gi h]; rfl
    have hh_hi_ : 0 ≤ hi_ ∧ hi_ < 4 → z_gr a hi_.toNat = some (a 14) := fun h => by rw [hq_hi_ h]; rfl
    have hh_to : 0 ≤ to ∧ to < 4 → z_gr a to.toNat = some (a 14) := fun h => by rw [hq_to h]; rfl
    exact z_lm0i (mt_X7_difference_a l D cA (a 0) (a 1) (z_gr a) (a 18) (u.2.2 0) (a 19) (a 23) (a 24) gi hi_ to (a 14) (a 15) (u.1 15) (a 16) (u.1 16) (a 17) (u.1 17) (u.2.2 4) (hu _) h_gi h_hi_ h_to (hu _) (hh_gi) (hh_hi_) (hh_to) hp1) [0, 1, 14, 15, 16, 17] [1, 2, 0, 0, 0, 0, 0, 0, 0, 0, 0, 0, 0, 0, 3, 4, 5, 6] rfl rfl rfl (fun _ => rfl) (fun v u1 h => ⟨_, ⟨u1.1, u1.2.1, u1.2.2.1, u1.2.2.2, h.1, h.2, rfl⟩, rfl⟩)
set_option maxHeartbeats 4000000 in
set_option maxRecDepth 100000 in
theorem mw_X7_difference_b (l : Launch) (D : va_G) (cA : Nat → ClassId) (t1 t2 : Nat) (a : Nat → Nat) (u : xS) (hu : ∀ j, z_in (u.2.2 j)) (gi : Int) (hi_ : Int) (to : Int) (h_gi : z_in gi) (h_hi_ : z_in hi_) (h_to : z_in to) (k1 : Nat)  (k2 : Nat) (hne_g_o : k1 ≠ k2) (hk_gi : z_gq gi k1) (hk_hi_ : z_gq hi_ k1) (hk_to : z_gq to k2)  (hp1 : g_ok (u.1 (3 + 4 * k1))) : Met l yX7_difference wsX7_difference ({ frames := 2, cells := 0, slots := 0, locals := 39 } : Room) (va_Pc [.ref (a 0), .int (z_i gi), .int (z_i hi_), .int (z_i to)] (z_M1 D cA t1 t2 (xW cA a u))) (va_Qi (z_mi (fun (r : Int) (u' : xS) => ∃ (n1 : Nat → Int32), ∃ (n2 : Nat → Int32), ∃ (n3 : Nat → Int32), ∃ (n4 : Int), z_in n4 ∧ (r = (if (0 ≤ gi ∧ gi < 4) ∧ (0 ≤ hi_ ∧ hi_ < 4) ∧ (0 ≤ to ∧ to < 4) then f_bc (u.1 (3 + 4 * k1)) (u.1 (3 + 4 * k1)) 1280 else -1) ∧ ((0 ≤ gi ∧ gi < 4) ∧ (0 ≤ hi_ ∧ hi_ < 4) ∧ (0 ≤ to ∧ to < 4) → (∀ n : Int, 0 ≤ n → n < 1280 → z_g n1 n = f_df (u.1 (3 + 4 * k1)) (u.1 (3 + 4 * k1)) n) ∧ n2 = (u.1 (4 + 4 * k1)) ∧ n3 = (u.1 (5 + 4 * k1)) ∧ n4 = (u.2.2 (1 + k1))) ∧ (¬ ((0 ≤ gi ∧ gi < 4) ∧ (0 ≤ hi_ ∧ hi_ < 4) ∧ (0 ≤ to ∧ to < 4)) → n1 = (u.1 (3 + 4 * k2)) ∧ n2 = (u.1 (4 + 4 * k2)) ∧ n3 = (u.1 (5 + 4 * k2)) ∧ n4 = (u.2.2 (1 + k2)))) ∧ u' = (z_u (z_u (z_u (u.1) (3 + 4 * k2) n1) (4 + 4 * k2) n2) (5 + 4 * k2) n3, u.2.1, z_u (u.2.2) (1 + k2) n4))) (fun (u' : xS) t => va_P D vwCl (xW cA a u') t.heap) (z_A (xW cA a u))) 0 0 (z_A (xW cA a u)) := by
  rcases z_gq_4 hk_gi with hz | hz | hz | hz
  · subst hz
    have hq_gi : 0 ≤ gi ∧ gi < 4 → gi.toNat = 0 := z_gq_n hk_gi
    have hq_hi_ : 0 ≤ hi_ ∧ hi_ < 4 → hi_.toNat = 0 := z_gq_n hk_hi_
    rcases z_gq_4 hk_to with hz | hz | hz | hz
    · subst hz
      have hq_to : 0 ≤ to ∧ to < 4 → to.toNat = 0 := z_gq_n hk_to
      exact absurd rfl hne_g_o
    · subst hz
      have hq_to : 0 ≤ to ∧ to < 4 → to.toNat = 1 := z_gq_n hk_to
      have hh_gi : 0 ≤ gi ∧ gi < 4 → z_gr a gi.toNat = some (a 2) := fun h => by rw [hq_gi h]; rfl
      have hh_hi_ : 0 ≤ hi_ ∧ hi_ < 4 → z_gr a hi_.toNat = some (a 2) := fun h => by rw [hq_hi_ h]; rfl
      have hh_to : 0 ≤ to ∧ to < 4 → z_gr a to.toNat = some (a 6) := fun h => by rw [hq_to h]; rfl
      exact z_lm0i (mt_X7_difference_b l D cA (a 0) (a 1) (z_gr a) (a 18) (u.2.2 0) (a 19) (a 23) (a 24) gi hi_ to (a 2) (a 3) (u.1 3) (a 4) (u.1 4) (a 5) (u.1 5) (u.2.2 1) (a 6) (a 7) (u.1 7) (a 8) (u.1 8) (a 9) (u.1 9) (u.2.2 2) (hu _) h_gi h_hi_ h_to (hu _) (hu _) (hh_gi) (hh_hi_) (hh_to) hp1) [0, 1, 2, 3, 4, 5, 6, 7, 8, 9] [1, 2, 3, 4, 5, 6, 7, 8, 9, 10] rfl rfl rfl (fun _ => rfl) (fun v u1 h => ⟨_, ⟨u1.1, u1.2.1, u1.2.2.1, u1.2.2.2, h.1, h.2, rfl⟩, rfl⟩)
    · subst hz
      have hq_to : 0 ≤ to ∧ to < 4 → to.toNat = 2 := z_gq_n hk_to
      have hh_gi : 0 ≤ gi ∧ gi < 4 → z_gr a gi.toNat = some (a 2) := fun h => by rw [hq_gi h]; rfl
      have hh_hi_ : 0 ≤ hi_ ∧ hi_ < 4 → z_gr a hi_.toNat = some (a 2) := fun h => by rw [hq_hi_ h]; rfl
      have hh_to : 0 ≤ to ∧ to < 4 → z_gr a to.toNat = some (a 10) := fun h => by rw [hq_to h]; rfl
      exact z_lm0i (mt_X7_difference_b l D cA (a 0) (a 1) (z_gr a) (a 18) (u.2.2 0) (a 19) (a 23) (a 24) gi hi_ to (a 2) (a 3) (u.1 3) (a 4) (u.1 4) (a 5) (u.1 5) (u.2.2 1) (a 10) (a 11) (u.1 11) (a 12) (u.1 12) (a 13) (u.1 13) (u.2.2 3) (hu _) h_gi h_hi_ h_to (hu _) (hu _) (hh_gi) (hh_hi_) (hh_to) hp1) [0, 1, 2, 3, 4, 5, 10, 11, 12, 13] [1, 2, 3, 4, 5, 6, 0, 0, 0, 0, 7, 8, 9, 10] rfl rfl rfl (fun _ => rfl) (fun v u1 h => ⟨_, ⟨u1.1, u1.2.1, u1.2.2.1, u1.2.2.2, h.1, h.2, rfl⟩, rfl⟩)
    · subst hz
      have hq_to : 0 ≤ to ∧ to < 4 → to.toNat = 3 := z_gq_n hk_to
      have hh_gi : 0 ≤ gi ∧ gi < 4 → z_gr a gi.toNat = some (a 2) := fun h => by rw [hq_gi h]; rfl
      have hh_hi_ : 0 ≤ hi_ ∧ hi_ < 4 → z_gr a hi_.toNat = some (a 2) := fun h => by rw [hq_hi_ h]; rfl
      have hh_to : 0 ≤ to ∧ to < 4 → z_gr a to.toNat = some (a 14) := fun h => by rw [hq_to h]; rfl
      exact z_lm0i (mt_X7_difference_b l D cA (a 0) (a 1) (z_gr a) (a 18) (u.2.2 0) (a 19) (a 23) (a 24) gi hi_ to (a 2) (a 3) (u.1 3) (a 4) (u.1 4) (a 5) (u.1 5) (u.2.2 1) (a 14) (a 15) (u.1 15) (a 16) (u.1 16) (a 17) (u.1 17) (u.2.2 4) (hu _) h_gi h_hi_ h_to (hu _) (hu _) (hh_gi) (hh_hi_) (hh_to) hp1) [0, 1, 2, 3, 4, 5, 14, 15, 16, 17] [1, 2, 3, 4, 5, 6, 0, 0, 0, 0, 0, 0, 0, 0, 7, 8, 9, 10] rfl rfl rfl (fun _ => rfl) (fun v u1 h => ⟨_, ⟨u1.1, u1.2.1, u1.2.2.1, u1.2.2.2, h.1, h.2, rfl⟩, rfl⟩)
  · subst hz
    have hq_gi : 0 ≤ gi ∧ gi < 4 → gi.toNat = 1 := z_gq_n hk_gi
    have hq_hi_ : 0 ≤ hi_ ∧ hi_ < 4 → hi_.toNat = 1 := z_gq_n hk_hi_
    rcases z_gq_4 hk_to with hz | hz | hz | hz
    · subst hz
      have hq_to : 0 ≤ to ∧ to < 4 → to.toNat = 0 := z_gq_n hk_to
      have hh_gi : 0 ≤ gi ∧ gi < 4 → z_gr a gi.toNat = some (a 6) := fun h => by rw [hq_gi h]; rfl
      have hh_hi_ : 0 ≤ hi_ ∧ hi_ < 4 → z_gr a hi_.toNat = some (a 6) := fun h => by rw [hq_hi_ h]; rfl
      have hh_to : 0 ≤ to ∧ to < 4 → z_gr a to.toNat = some (a 2) := fun h => by rw [hq_to h]; rfl
      exact z_lm0i (mt_X7_difference_b l D cA (a 0) (a 1) (z_gr a) (a 18) (u.2.2 0) (a 19) (a 23) (a 24) gi hi_ to (a 6) (a 7) (u.1 7) (a 8) (u.1 8) (a 9) (u.1 9) (u.2.2 2) (a 2) (a 3) (u.1 3) (a 4) (u.1 4) (a 5) (u.1 5) (u.2.2 1) (hu _) h_gi h_hi_ h_to (hu _) (hu _) (hh_gi) (hh_hi_) (hh_to) hp1) [0, 1, 6, 7, 8, 9, 2, 3, 4, 5] [1, 2, 7, 8, 9, 10, 3, 4, 5, 6] rfl rfl rfl (fun _ => rfl) (fun v u1 h => ⟨_, ⟨u1.1, u1.2.1, u1.2.2.1, u1.2.2.2, h.1, h.2, rfl⟩, rfl⟩)
    · subst hz
      have hq_to : 0 ≤ to ∧ to < 4 → to.toNat = 1 := z_gq_n hk_to
      exact absurd rfl hne_g_o
    · subst hz
      have hq_to : 0 ≤ to ∧ to < 4 → to.toNat = 2 := z_gq_n hk_to
      have hh_gi : 0 ≤ gi ∧ gi < 4 → z_gr a gi.toNat = some (a 6) := fun h => by rw [hq_gi h]; rfl
      have hh_hi_ : 0 ≤ hi_ ∧ hi_ < 4 → z_gr a hi_.toNat = some (a 6) := fun h => by rw [hq_hi_ h]; rfl
      have hh_to : 0 ≤ to ∧ to < 4 → z_gr a to.toNat = some (a 10) := fun h => by rw [hq_to h]; rfl
      exact z_lm0i (mt_X7_difference_b l D cA (a 0) (a 1) (z_gr a) (a 18) (u.2.2 0) (a 19) (a 23) (a 24) gi hi_ to (a 6) (a 7) (u.1 7) (a 8) (u.1 8) (a 9) (u.1 9) (u.2.2 2) (a 10) (a 11) (u.1 11) (a 12) (u.1 12) (a 13) (u.1 13) (u.2.2 3) (hu _) h_gi h_hi_ h_to (hu _) (hu _) (hh_gi) (hh_hi_) (hh_to) hp1) [0, 1, 6, 7, 8, 9, 10, 11, 12, 13] [1, 2, 0, 0, 0, 0, 3, 4, 5, 6, 7, 8, 9, 10] rfl rfl rfl (fun _ => rfl) (fun v u1 h => ⟨_, ⟨u1.1, u1.2.1, u1.2.2.1, u1.2.2.2, h.1, h.2, rfl⟩, rfl⟩)
    · subst hz
      have hq_to : 0 ≤ to ∧ to < 4 → to.toNat = 3 := z_gq_n hk_to
      have hh_gi : 0 ≤ gi ∧ gi < 4 → z_gr a gi.toNat = some (a 6) := fun h => by rw [hq_gi h]; rfl
      have hh_hi_ : 0 ≤ hi_ ∧ hi_ < 4 → z_gr a hi_.toNat = some (a 6) := fun h => by rw [hq_hi_ h]; rfl
      have hh_to : 0 ≤ to ∧ to < 4 → z_gr a to.toNat = some (a 14) := fun h => by rw [hq_to h]; rfl
      exact z_lm0i (mt_X7_difference_b l D cA (a 0) (a 1) (z_gr a) (a 18) (u.2.2 0) (a 19) (a 23) (a 24) gi hi_ to (a 6) (a 7) (u.1 7) (a 8) (u.1 8) (a 9) (u.1 9) (u.2.2 2) (a 14) (a 15) (u.1 15) (a 16) (u.1 16) (a 17) (u.1 17) (u.2.2 4) (hu _) h_gi h_hi_ h_to (hu _) (hu _) (hh_gi) (hh_hi_) (hh_to) hp1) [0, 1, 6, 7, 8, 9, 14, 15, 16, 17] [1, 2, 0, 0, 0, 0, 3, 4, 5, 6, 0, 0, 0, 0, 7, 8, 9, 10] rfl rfl rfl (fun _ => rfl) (fun v u1 h => ⟨_, ⟨u1.1, u1.2.1, u1.2.2.1, u1.2.2.2, h.1, h.2, rfl⟩, rfl⟩)
  · subst hz
    have hq_gi : 0 ≤ gi ∧ gi < 4 → gi.toNat = 2 := z_gq_n hk_gi
    have hq_hi_ : 0 ≤ hi_ ∧ hi_ < 4 → hi_.toNat = 2 := z_gq_n hk_hi_
    rcases z_gq_4 hk_to with hz | hz | hz | hz
    · subst hz
      have hq_to : 0 ≤ to ∧ to < 4 → to.toNat = 0 := z_gq_n hk_to
      have hh_gi : 0 ≤ gi ∧ gi < 4 → z_gr a gi.toNat = some (a 10) := fun h => by rw [hq_gi h]; rfl
      have hh_hi_ : 0 ≤ hi_ ∧ hi_ < 4 → z_gr a hi_.toNat = some (a 10) := fun h => by rw [hq_hi_ h]; rfl
      have hh_to : 0 ≤ to ∧ to < 4 → z_gr a to.toNat = some (a 2) := fun h => by rw [hq_to h]; rfl
      exact z_lm0i (mt_X7_difference_b l D cA (a 0) (a 1) (z_gr a) (a 18) (u.2.2 0) (a 19) (a 23) (a 24) gi hi_ to (a 10) (a 11) (u.1 11) (a 12) (u.1 12) (a 13) (u.1 13) (u.2.2 3) (a 2) (a 3) (u.1 3) (a 4) (u.1 4) (a 5) (u.1 5) (u.2.2 1) (hu _) h_gi h_hi_ h_to (hu _) (hu _) (hh_gi) (hh_hi_) (hh_to) hp1) [0, 1, 10, 11, 12, 13, 2, 3, 4, 5] [1, 2, 7, 8, 9, 10, 0, 0, 0, 0, 3, 4, 5, 6] rfl rfl rfl (fun _ => rfl) (fun v u1 h => ⟨_, ⟨u1.1, u1.2.1, u1.2.2.1, u1.2.2.2, h.1, h.2, rfl⟩, rfl⟩)
    · subst hz
      have hq_to : 0 ≤ to ∧ to < 4 → to.toNat = 1 := z_gq_n hk_to
      have hh_gi : 0 ≤ gi ∧ gi < 4 → z_gr a gi.toNat = some (a 10) := fun h => by rw [hq_gi h]; rfl
      have hh_hi_ : 0 ≤ hi_ ∧ hi_ < 4 → z_gr a hi_.toNat = some (a 10) := fun h => by rw [hq_hi_ h]; rfl
      have hh_to : 0 ≤ to ∧ to < 4 → z_gr a to.toNat = some (a 6) := fun h => by rw [hq_to h]; rfl
      exact z_lm0i (mt_X7_difference_b l D cA (a 0) (a 1) (z_gr a) (a 18) (u.2.2 0) (a 19) (a 23) (a 24) gi hi_ to (a 10) (a 11) (u.1 11) (a 12) (u.1 12) (a 13) (u.1 13) (u.2.2 3) (a 6) (a 7) (u.1 7) (a 8) (u.1 8) (a 9) (u.1 9) (u.2.2 2) (hu _) h_gi h_hi_ h_to (hu _) (hu _) (hh_gi) (hh_hi_) (hh_to) hp1) [0, 1, 10, 11, 12, 13, 6, 7, 8, 9] [1, 2, 0, 0, 0, 0, 7, 8, 9, 10, 3, 4, 5, 6] rfl rfl rfl (fun _ => rfl) (fun v u1 h => ⟨_, ⟨u1.1, u1.2.1, u1.2.2.1, u1.2.2.2, h.1, h.2, rfl⟩, rfl⟩)
    · subst hz
      have hq_to : 0 ≤ to ∧ to < 4 → to.toNat = 2 := z_gq_n hk_to
      exact absurd rfl hne_g_o
    · subst hz
      have hq_to : 0 ≤ to ∧ to < 4 → to.toNat = 3 := z_gq_n hk_to
      have hh_gi : 0 ≤ gi ∧ gi < 4 → z_gr a gi.toNat = some (a 10) := fun h => by rw [hq_gi h]; rfl
      have hh_hi_ : 0 ≤ hi_ ∧ hi_ < 4 → z_gr a hi_.toNat = some (a 10) := fun h => by rw [hq_hi_ h]; rfl
      have hh_to : 0 ≤ to ∧ to < 4 → z_gr a to.toNat = some (a 14) := fun h => by rw [hq_to h]; rfl
      exact z_lm0i (mt_X7_difference_b l D cA (a 0) (a 1) (z_gr a) (a 18) (u.2.2 0) (a 19) (a 23) (a 24) gi hi_ to (a 10) (a 11) (u.1 11) (a 12) (u.1 12) (a 13) (u.1 13) (u.2.2 3) (a 14) (a 15) (u.1 15) (a 16) (u.1 16) (a 17) (u.1 17) (u.2.2 4) (hu _) h_gi h_hi_ h_to (hu _) (hu _) (hh_gi) (hh_hi_) (hh_to) hp1) [0, 1, 10, 11, 12, 13, 14, 15, 16, 17] [1, 2, 0, 0, 0, 0, 0, 0, 0, 0, 3, 4, 5, 6, 7, 8, 9, 10] rfl rfl rfl (fun _ => rfl) (fun v u1 h => ⟨_, ⟨u1.1, u1.2.1, u1.2.2.1, u1.2.2.2, h.1, h.2, rfl⟩, rfl⟩)
  · subst hz
    have hq_gi : 0 ≤ gi ∧ gi < 4 → gi.toNat = 3 := z_gq_n hk_gi
    have hq_hi_ : 0 ≤ hi_ ∧ hi_ < 4 → hi_.toNat = 3 := z_gq_n hk_hi_
    rcases z_gq_4 hk_to with hz | hz | hz | hz
    · subst hz
      have hq_to : 0 ≤ to ∧ to < 4 → to.toNat = 0 := z_gq_n hk_to
      have hh_gi : 0 ≤ gi ∧ gi < 4 → z_gr a gi.toNat = some (a 14) := fun h => by rw [hq_gi h]; rfl
      have hh_hi_ : 0 ≤ hi_ ∧ hi_ < 4 → z_gr a hi_.toNat = some (a 14) := fun h => by rw [hq_hi_ h]; rfl
      have hh_to : 0 ≤ to ∧ to < 4 → z_gr a to.toNat = some (a 2) := fun h => by rw [hq_to h]; rfl
      exact z_lm0i (mt_X7_difference_b l D cA (a 0) (a 1) (z_gr a) (a 18) (u.2.2 0) (a 19) (a 23) (a 24) gi hi_ to (a 14) (a 15) (u.1 15) (a 16) (u.1 16) (a 17) (u.1 17) (u.2.2 4) (a 2) (a 3) (u.1 3) (a 4) (u.1 4) (a 5) (u.1 5) (u.2.2 1) (hu _) h_gi h_hi_ h_to (hu _) (hu _) (hh_gi) (hh_hi_) (hh_to) hp1) [0, 1, 14, 15, 16, 17, 2, 3, 4, 5] [1, 2, 7, 8, 9, 10, 0, 0, 0, 0, 0, 0, 0, 0, 3, 4, 5, 6] rfl rfl rfl (fun _ => rfl) (fun v u1 h => ⟨_, ⟨u1.1, u1.2.1, u1.2.2.1, u1.2.2.2, h.1, h.2, rfl⟩, rfl⟩)
    · subst hz
      have hq_to : 0 ≤ to ∧ to < 4 → to.toNat = 1 := z_gq_n hk_to
      have hh_gi : 0 ≤ gi ∧ gi < 4 → z_gr a gi.toNat = some (a 14) := fun h => by rw [hq_gi h]; rfl
      have hh_hi_ : 0 ≤ hi_ ∧ hi_ < 4 → z_gr a hi_.toNat = some (a 14) := fun h => by rw [hq_hi_ h]; rfl
      have hh_to : 0 ≤ to ∧ to < 4 → z_gr a to.toNat = some (a 6) := fun h => by rw [hq_to h]; rfl
      exact z_lm0i (mt_X7_difference_b l D cA (a 0) (a 1) (z_gr a) (a 18) (u.2.2 0) (a 19) (a 23) (a 24) gi hi_ to (a 14) (a 15) (u.1 15) (a 16) (u.1 16) (a 17) (u.1 17) (u.2.2 4) (a 6) (a 7) (u.1 7) (a 8) (u.1 8) (a 9) (u.1 9) (u.2.2 2) (hu _) h_gi h_hi_ h_to (hu _) (hu _) (hh_gi) (hh_hi_) (hh_to) hp1) [0, 1, 14, 15, 16, 17, 6, 7, 8, 9] [1, 2, 0, 0, 0, 0, 7, 8, 9, 10, 0, 0, 0, 0, 3, 4, 5, 6] rfl rfl rfl (fun _ => rfl) (fun v u1 h => ⟨_, ⟨u1.1, u1.2.1, u1.2.2.1, u1.2.2.2, h.1, h.2, rfl⟩, rfl⟩)
    · subst hz
      have hq_to : 0 ≤ to ∧ to < 4 → to.toNat = 2 := z_gq_n hk_to
      have hh_gi : 0 ≤ gi ∧ gi < 4 → z_gr a gi.toNat = some (a 14) := fun h => by rw [hq_gi h]; rfl
      have hh_hi_ : 0 ≤ hi_ ∧ hi_ < 4 → z_gr a hi_.toNat = some (a 14) := fun h => by rw [hq_hi_ h]; rfl
      have hh_to : 0 ≤ to ∧ to < 4 → z_gr a to.toNat = some (a 10) := fun h => by rw [hq_to h]; rfl
      exact z_lm0i (mt_X7_difference_b l D cA (a 0) (a 1) (z_gr a) (a 18) (u.2.2 0) (a 19) (a 23) (a 24) gi hi_ to (a 14) (a 15) (u.1 15) (a 16) (u.1 16) (a 17) (u.1 17) (u.2.2 4) (a 10) (a 11) (u.1 11) (a 12) (u.1 12) (a 13) (u.1 13) (u.2.2 3) (hu _) h_gi h_hi_ h_to (hu _) (hu _) (hh_gi) (hh_hi_) (hh_to) hp1) [0, 1, 14, 15, 16, 17, 10, 11, 12, 13] [1, 2, 0, 0, 0, 0, 0, 0, 0, 0, 7, 8, 9, 10, 3, 4, 5, 6] rfl rfl rfl (fun _ => rfl) (fun v u1 h => ⟨_, ⟨u1.1, u1.2.1, u1.2.2.1, u1.2.2.2, h.1, h.2, rfl⟩, rfl⟩)
    · subst hz
      have hq_to : 0 ≤ to ∧ to < 4 → to.toNat = 3 := z_gq_n hk_to
      exact absurd rfl hne_g_o
set_option maxHeartbeats 4000000 in
set_option maxRecDepth 100000 in
theorem mw_X7_difference_c (l : Launch) (D : va_G) (cA : Nat → ClassId) (t1 t2 : Nat) (a : Nat → Nat) (u : xS) (hu : ∀ j, z_in (u.2.2 j)) (gi : Int) (hi_ : Int) (to : Int) (h_gi : z_in gi) (h_hi_ : z_in hi_) (h_to : z_in to) (k1 : Nat)  (k2 : Nat) (hne_g_h : k1 ≠ k2) (hk_gi : z_gq gi k1) (hk_hi_ : z_gq hi_ k2) (hk_to : z_gq to k1)  (hp1 : g_ok (u.1 (3 + 4 * k1))) (hp2 : g_ok (u.1 (3 + 4 * k2))) : Met l yX7_difference wsX7_difference ({ frames := 2, cells := 0, slots := 0, locals := 39 } : Room) (va_Pc [.ref (a 0), .int (z_i gi), .int (z_i hi_), .int (z_i to)] (z_M1 D cA t1 t2 (xW cA a u))) (va_Qi (z_mi (fun (r : Int) (u' : xS) => ∃ (n1 : Nat → Int32), ∃ (n2 : Nat → Int32), ∃ (n3 : Nat → Int32), ∃ (n4 : Int), z_in n4 ∧ (r = (if (0 ≤ gi ∧ gi < 4) ∧ (0 ≤ hi_ ∧ hi_ < 4) ∧ (0 ≤ to ∧ to < 4) then f_bc (u.1 (3 + 4 * k1)) (u.1 (3 + 4 * k2)) 1280 else -1) ∧ ((0 ≤ gi ∧ gi < 4) ∧ (0 ≤ hi_ ∧ hi_ < 4) ∧ (0 ≤ to ∧ to < 4) → (∀ n : Int, 0 ≤ n → n < 1280 → z_g n1 n = f_df (u.1 (3 + 4 * k1)) (u.1 (3 + 4 * k2)) n) ∧ n2 = (u.1 (4 + 4 * k1)) ∧ n3 = (u.1 (5 + 4 * k1)) ∧ n4 = (u.2.2 (1 + k1))) ∧ (¬ ((0 ≤ gi ∧ gi < 4) ∧ (0 ≤ hi_ ∧ hi_ < 4) ∧ (0 ≤ to ∧ to < 4)) → n1 = (u.1 (3 + 4 * k1)) ∧ n2 = (u.1 (4 + 4 * k1)) ∧ n3 = (u.1 (5 + 4 * k1)) ∧ n4 = (u.2.2 (1 + k1)))) ∧ u' = (z_u (z_u (z_u (u.1) (3 + 4 * k1) n1) (4 + 4 * k1) n2) (5 + 4 * k1) n3, u.2.1, z_u (u.2.2) (1 + k1) n4))) (fun (u' : xS) t => va_P D vwCl (xW cA a u') t.heap) (z_A (xW cA a u))) 0 0 (z_A (xW cA a u)) := by
  rcases z_gq_4 hk_gi with hz | hz | hz | hz
  · subst hz
    have hq_gi : 0 ≤ gi ∧ gi < 4 → gi.toNat = 0 := z_gq_n hk_gi
    have hq_to : 0 ≤ to ∧ to < 4 → to.toNat = 0 := z_gq_n hk_to
    rcases z_gq_4 hk_hi_ with hz | hz | hz | hz
    · subst hz
      have hq_hi_ : 0 ≤ hi_ ∧ hi_ < 4 → hi_.toNat = 0 := z_gq_n hk_hi_
      exact absurd rfl hne_g_h
    · subst hz
      have hq_hi_ : 0 ≤ hi_ ∧ hi_ < 4 → hi_.toNat = 1 := z_gq_n hk_hi_
      have hh_gi : 0 ≤ gi ∧ gi < 4 → z_gr a gi.toNat = some (a 2) := fun h => by rw [hq_gi h]; rfl
      have hh_hi_ : 0 ≤ hi_ ∧ hi_ < 4 → z_gr a hi_.toNat = some (a 6) := fun h => by rw [hq_hi_ h]; rfl
      have hh_to : 0 ≤ to ∧ to < 4 → z_gr a to.toNat = some (a 2) := fun h => by rw [hq_to h]; rfl
      exact z_lm0i (mt_X7_difference_c l D cA (a 0) (a 1) (z_gr a) (a 18) (u.2.2 0) (a 19) (a 23) (a 24) gi hi_ to (a 2) (a 3) (u.1 3) (a 4) (u.1 4) (a 5) (u.1 5) (u.2.2 1) (a 6) (a 7) (u.1 7) (a 8) (u.1 8) (a 9) (u.1 9) (u.2.2 2) (hu _) h_gi h_hi_ h_to (hu _) (hu _) (hh_gi) (hh_hi_) (hh_to) hp1 hp2) [0, 1, 2, 3, 4, 5, 6, 7, 8, 9] [1, 2, 3, 4, 5, 6, 7, 8, 9, 10] rfl rfl rfl (fun _ => rfl) (fun v u1 h => ⟨_, ⟨u1.1, u1.2.1, u1.2.2.1, u1.2.2.2, h.1, h.2, rfl⟩, rfl⟩)
    · subst hz
      have hq_hi_ : 0 ≤ hi_ ∧ hi_ < 4 → hi_.toNat = 2 := z_gq_n hk_hi_
      have hh_gi : 0 ≤ gi ∧ gi < 4 → z_gr a gi.toNat = some (a 2) := fun h => by rw [hq_gi h]; rfl
      have hh_hi_ : 0 ≤ hi_ ∧ hi_ < 4 → z_gr a hi_.toNat = some (a 10) := fun h => by rw [hq_hi_ h]; rfl
      have hh_to : 0 ≤ to ∧ to < 4 → z_gr a to.toNat = some (a 2) := fun h => by rw [hq_to h]; rfl
      exact z_lm0i (mt_X7_difference_c l D cA (a 0) (a 1) (z_gr a) (a 18) (u.2.2 0) (a 19) (a 23) (a 24) gi hi_ to (a 2) (a 3) (u.1 3) (a 4) (u.1 4) (a 5) (u.1 5) (u.2.2 1) (a 10) (a 11) (u.1 11) (a 12) (u.1 12) (a 13) (u.1 13) (u.2.2 3) (hu _) h_gi h_hi_ h_to (hu _) (hu _) (hh_gi) (hh_hi_) (hh_to) hp1 hp2) [0, 1, 2, 3, 4, 5, 10, 11, 12, 13] [1, 2, 3, 4, 5, 6, 0, 0, 0, 0, 7, 8, 9, 10] rfl rfl rfl (fun _ => rfl) (fun v u1 h => ⟨_, ⟨u1.1, u1.2.1, u1.2.2.1, u1.2.2.2, h.1, h.2, rfl⟩, rfl⟩)
    · subst hz
      have hq_hi_ : 0 ≤ hi_ ∧ hi_ < 4 → hi_.toNat = 3 := z_gq_n hk_hi_
      have hh_gi : 0 ≤ gi ∧ gi < 4 → z_gr a gi.toNat = some (a 2) := fun h => by rw [hq_gi h]; rfl
      have hh_hi_ : 0 ≤ hi_ ∧ hi_ < 4 → z_gr a hi_.toNat = some (a 14) := fun h => by rw [hq_hi_ h]; rfl
      have hh_to : 0 ≤ to ∧ to < 4 → z_gr a to.toNat = some (a 2) := fun h => by rw [hq_to h]; rfl
      exact z_lm0i (mt_X7_difference_c l D cA (a 0) (a 1) (z_gr a) (a 18) (u.2.2 0) (a 19) (a 23) (a 24) gi hi_ to (a 2) (a 3) (u.1 3) (a 4) (u.1 4) (a 5) (u.1 5) (u.2.2 1) (a 14) (a 15) (u.1 15) (a 16) (u.1 16) (a 17) (u.1 17) (u.2.2 4) (hu _) h_gi h_hi_ h_to (hu _) (hu _) (hh_gi) (hh_hi_) (hh_to) hp1 hp2) [0, 1, 2, 3, 4, 5, 14, 15, 16, 17] [1, 2, 3, 4, 5, 6, 0, 0, 0, 0, 0, 0, 0, 0, 7, 8, 9, 10] rfl rfl rfl (fun _ => rfl) (fun v u1 h => ⟨_, ⟨u1.1, u1.2.1, u1.2.2.1, u1.2.2.2, h.1, h.2, rfl⟩, rfl⟩)
  · subst hz
    have hq_gi : 0 ≤ gi ∧ gi < 4 → gi.toNat = 1 := z_gq_n hk_gi
    have hq_to : 0 ≤ to ∧ to < 4 → to.toNat = 1 := z_gq_n hk_to
    rcases z_gq_4 hk_hi_ with hz | hz | hz | hz
    · subst hz
      have hq_hi_ : 0 ≤ hi_ ∧ hi_ < 4 → hi_.toNat = 0 := z_gq_n hk_hi_
      have hh_gi : 0 ≤ gi ∧ gi < 4 → z_gr a gi.toNat = some (a 6) := fun h => by rw [hq_gi h]; rfl
      have hh_hi_ : 0 ≤ hi_ ∧ hi_ < 4 → z_gr a hi_.toNat = some (a 2) := fun h => by rw [hq_hi_ h]; rfl
      have hh_to : 0 ≤ to ∧ to < 4 → z_gr a to.toNat = some (a 6) := fun h => by rw [hq_to h]; rfl
      exact z_lm0i (mt_X7_difference_c l D cA (a 0) (a 1) (z_gr a) (a 18) (u.2.2 0) (a 19) (a 23) (a 24) gi hi_ to (a 6) (a 7) (u.1 7) (a 8) (u.1 8) (a 9) (u.1 9) (u.2.2 2) (a 2) (a 3) (u.1 3) (a 4) (u.1 4) (a 5) (u.1 5) (u.2.2 1) (hu _) h_gi h_hi_ h_to (hu _) (hu _) (hh_gi) (hh_hi_) (hh_to) hp1 hp2) [0, 1, 6, 7, 8, 9, 2, 3, 4, 5] [1, 2, 7, 8, 9, 10, 3, 4, 5, 6] rfl rfl rfl (fun _ => rfl) (fun v u1 h => ⟨_, ⟨u1.1, u1.2.1, u1.2.2.1, u1.2.2.2, h.1, h.2, rfl⟩, rfl⟩)
    · subst hz
      have hq_hi_ : 0 ≤ hi_ ∧ hi_ < 4 → hi_.toNat = 1 := z_gq_n hk_hi_
      exact absurd rfl hne_g_h
    · subst hz
      have hq_hi_ : 0 ≤ hi_ ∧ hi_ < 4 → hi_.toNat = 2 := z_gq_n hk_hi_
      have hh_gi : 0 ≤ gi ∧ gi < 4 → z_gr a gi.toNat = some (a 6) := fun h => by rw [hq_gi h]; rfl
      have hh_hi_ : 0 ≤ hi_ ∧ hi_ < 4 → z_gr a hi_.toNat = some (a 10) := fun h => by rw [hq_hi_ h]; rfl
      have hh_to : 0 ≤ to ∧ to < 4 → z_gr a to.toNat = some (a 6) := fun h => by rw [hq_to h]; rfl
      exact z_lm0i (mt_X7_difference_c l D cA (a 0) (a 1) (z_gr a) (a 18) (u.2.2 0) (a 19) (a 23) (a 24) gi hi_ to (a 6) (a 7) (u.1 7) (a 8) (u.1 8) (a 9) (u.1 9) (u.2.2 2) (a 10) (a 11) (u.1 11) (a 12) (u.1 12) (a 13) (u.1 13) (u.2.2 3) (hu _) h_gi h_hi_ h_to (hu _) (hu _) (hh_gi) (hh_hi_) (hh_to) hp1 hp2) [0, 1, 6, 7, 8, 9, 10, 11, 12, 13] [1, 2, 0, 0, 0, 0, 3, 4, 5, 6, 7, 8, 9, 10] rfl rfl rfl (fun _ => rfl) (fun v u1 h => ⟨_, ⟨u1.1, u1.2.1, u1.2.2.1, u1.2.2.2, h.1, h.2, rfl⟩, rfl⟩)
    · subst hz
      have hq_hi_ : 0 ≤ hi_ ∧ hi_ < 4 → hi_.toNat = 3 := z_gq_n hk_hi_
      have hh_gi : 0 ≤ gi ∧ gi < 4 → z_gr a gi.toNat = some (a 6) := fun h => by rw [hq_gi h]; rfl
      have hh_hi_ : 0 ≤ hi_ ∧ hi_ < 4 → z_gr a hi_.toNat = some (a 14) := fun h => by rw [hq_hi_ h]; rfl
      have hh_to : 0 ≤ to ∧ to < 4 → z_gr a to.toNat = some (a 6) := fun h => by rw [hq_to h]; rfl
      exact z_lm0i (mt_X7_difference_c l D cA (a 0) (a 1) (z_gr a) (a 18) (u.2.2 0) (a 19) (a 23) (a 24) gi hi_ to (a 6) (a 7) (u.1 7) (a 8) (u.1 8) (a 9) (u.1 9) (u.2.2 2) (a 14) (a 15) (u.1 15) (a 16) (u.1 16) (a 17) (u.1 17) (u.2.2 4) (hu _) h_gi h_hi_ h_to (hu _) (hu _) (hh_gi) (hh_hi_) (hh_to) hp1 hp2) [0, 1, 6, 7, 8, 9, 14, 15, 16, 17] [1, 2, 0, 0, 0, 0, 3, 4, 5, 6, 0, 0, 0, 0, 7, 8, 9, 10] rfl rfl rfl (fun _ => rfl) (fun v u1 h => ⟨_, ⟨u1.1, u1.2.1, u1.2.2.1, u1.2.2.2, h.1, h.2, rfl⟩, rfl⟩)
  · subst hz
    have hq_gi : 0 ≤ gi ∧ gi < 4 → gi.toNat = 2 := z_gq_n hk_gi
    have hq_to : 0 ≤ to ∧ to < 4 → to.toNat = 2 := z_gq_n hk_to
    rcases z_gq_4 hk_hi_ with hz | hz | hz | hz
    · subst hz
      have hq_hi_ : 0 ≤ hi_ ∧ hi_ < 4 → hi_.toNat = 0 := z_gq_n hk_hi_
      have hh_gi : 0 ≤ gi ∧ gi < 4 → z_gr a gi.toNat = some (a 10) := fun h => by rw [hq_gi h]; rfl
      have hh_hi_ : 0 ≤ hi_ ∧ hi_ < 4 → z_gr a hi_.toNat = some (a 2) := fun h => by rw [hq_hi_ h]; rfl
      have hh_to : 0 ≤ to ∧ to < 4 → z_gr a to.toNat = some (a 10) := fun h => by rw [hq_to h]; rfl
      exact z_lm0i (mt_X7_difference_c l D cA (a 0) (a 1) (z_gr a) (a 18) (u.2.2 0) (a 19) (a 23) (a 24) gi hi_ to (a 10) (a 11) (u.1 11) (a 12) (u.1 12) (a 13) (u.1 13) (u.2.2 3) (a 2) (a 3) (u.1 3) (a 4) (u.1 4) (a 5) (u.1 5) (u.2.2 1) (hu _) h_gi h_hi_ h_to (hu _) (hu _) (hh_gi) (hh_hi_) (hh_to) hp1 hp2) [0, 1, 10, 11, 12, 13, 2, 3, 4, 5] [1, 2, 7, 8, 9, 10, 0, 0, 0, 0, 3, 4, 5, 6] rfl rfl rfl (fun _ => rfl) (fun v u1 h => ⟨_, ⟨u1.1, u1.2.1, u1.2.2.1, u1.2.2.2, h.1, h.2, rfl⟩, rfl⟩)
    · subst hz
      have hq_hi_ : 0 ≤ hi_ ∧ hi_ < 4 → hi_.toNat = 1 := z_gq_n hk_hi_
      have hh_gi : 0 ≤ gi ∧ gi < 4 → z_gr a gi.toNat = some (a 10) := fun h => by rw [hq_gi h]; rfl
      have hh_hi_ : 0 ≤ hi_ ∧ hi_ < 4 → z_gr a hi_.toNat = some (a 6) := fun h => by rw [hq_hi_ h]; rfl
      have hh_to : 0 ≤ to ∧ to < 4 → z_gr a to.toNat = some (a 10) := fun h => by rw [hq_to h]; rfl
      exact z_lm0i (mt_X7_difference_c l D cA (a 0) (a 1) (z_gr a) (a 18) (u.2.2 0) (a 19) (a 23) (a 24) gi hi_ to (a 10) (a 11) (u.1 11) (a 12) (u.1 12) (a 13) (u.1 13) (u.2.2 3) (a 6) (a 7) (u.1 7) (a 8) (u.1 8) (a 9) (u.1 9) (u.2.2 2) (hu _) h_gi h_hi_ h_to (hu _) (hu _) (hh_gi) (hh_hi_) (hh_to) hp1 hp2) [0, 1, 10, 11, 12, 13, 6, 7, 8, 9] [1, 2, 0, 0, 0, 0, 7, 8, 9, 10, 3, 4, 5, 6] rfl rfl rfl (fun _ => rfl) (fun v u1 h => ⟨_, ⟨u1.1, u1.2.1, u1.2.2.1, u1.2.2.2, h.1, h.2, rfl⟩, rfl⟩)
    · subst hz
      have hq_hi_ : 0 ≤ hi_ ∧ hi_ < 4 → hi_.toNat = 2 := z_gq_n hk_hi_
      exact absurd rfl hne_g_h
    · subst hz
      have hq_hi_ : 0 ≤ hi_ ∧ hi_ < 4 → hi_.toNat = 3 := z_gq_n hk_hi_
      have hh_gi : 0 ≤ gi ∧ gi < 4 → z_gr a gi.toNat = some (a 10) := fun h => by rw [hq_gi h]; rfl
      have hh_hi_ : 0 ≤ hi_ ∧ hi_ < 4 → z_gr a hi_.toNat = some (a 14) := fun h => by rw [hq_hi_ h]; rfl
      have hh_to : 0 ≤ to ∧ to < 4 → z_gr a to.toNat = some (a 10) := fun h => by rw [hq_to h]; rfl
      exact z_lm0i (mt_X7_difference_c l D cA (a 0) (a 1) (z_gr a) (a 18) (u.2.2 0) (a 19) (a 23) (a 24) gi hi_ to (a 10) (a 11) (u.1 11) (a 12) (u.1 12) (a 13) (u.1 13) (u.2.2 3) (a 14) (a 15) (u.1 15) (a 16) (u.1 16) (a 17) (u.1 17) (u.2.2 4) (hu _) h_gi h_hi_ h_to (hu _) (hu _) (hh_gi) (hh_hi_) (hh_to) hp1 hp2) [0, 1, 10, 11, 12, 13, 14, 15, 16, 17] [1, 2, 0, 0, 0, 0, 0, 0, 0, 0, 3, 4, 5, 6, 7, 8, 9, 10] rfl rfl rfl (fun _ => rfl) (fun v u1 h => ⟨_, ⟨u1.1, u1.2.1, u1.2.2.1, u1.2.2.2, h.1, h.2, rfl⟩, rfl⟩)
  · subst hz
    have hq_gi : 0 ≤ gi ∧ gi < 4 → gi.toNat = 3 := z_gq_n hk_gi
    have hq_to : 0 ≤ to ∧ to < 4 → to.toNat = 3 := z_gq_n hk_to
    rcases z_gq_4 hk_hi_ with hz | hz | hz | hz
    · subst hz
      have hq_hi_ : 0 ≤ hi_ ∧ hi_ < 4 → hi_.toNat = 0 := z_gq_n hk_hi_
      have hh_gi : 0 ≤ gi ∧ gi < 4 → z_gr a gi.toNat = some (a 14) := fun h => by rw [hq_gi h]; rfl
      have hh_hi_ : 0 ≤ hi_ ∧ hi_ < 4 → z_gr a hi_.toNat = some (a 2) := fun h => by rw [hq_hi_ h]; rfl
      have hh_to : 0 ≤ to ∧ to < 4 → z_gr a to.toNat = some (a 14) := fun h => by rw [hq_to h]; rfl
      exact z_lm0i (mt_X7_difference_c l D cA (a 0) (a 1) (z_gr a) (a 18) (u.2.2 0) (a 19) (a 23) (a 24) gi hi_ to (a 14) (a 15) (u.1 15) (a 16) (u.1 16) (a 17) (u.1 17) (u.2.2 4) (a 2) (a 3) (u.1 3) (a 4) (u.1 4) (a 5) (u.1 5) (u.2.2 1) (hu _) h_gi h_hi_ h_to (hu _) (hu _) (hh_gi) (hh_hi_) (hh_to) hp1 hp2) [0, 1, 14, 15, 16, 17, 2, 3, 4, 5] [1, 2, 7, 8, 9, 10, 0, 0, 0, 0, 0, 0, 0, 0, 3, 4, 5, 6] rfl rfl rfl (fun _ => rfl) (fun v u1 h => ⟨_, ⟨u1.1, u1.2.1, u1.2.2.1, u1.2.2.2, h.1, h.2, rfl⟩, rfl⟩)
    · subst hz
      have hq_hi_ : 0 ≤ hi_ ∧ hi_ < 4 → hi_.toNat = 1 := z_gq_n hk_hi_
      have hh_gi : 0 ≤ gi ∧ gi < 4 → z_gr a gi.toNat = some (a 14) := fun h => by rw [hq_gi h]; rfl
      have hh_hi_ : 0 ≤ hi_ ∧ hi_ < 4 → z_gr a hi_.toNat = some (a 6) := fun h => by rw [hq_hi_ h]; rfl
      have hh_to : 0 ≤ to ∧ to < 4 → z_gr a to.toNat = some (a 14) := fun h => by rw [hq_to h]; rfl
      exact z_lm0i (mt_X7_difference_c l D cA (a 0) (a 1) (z_gr a) (a 18) (u.2.2 0) (a 19) (a 23) (a 24) gi hi_ to (a 14) (a 15) (u.1 15) (a 16) (u.1 16) (a 17) (u.1 17) (u.2.2 4) (a 6) (a 7) (u.1 7) (a 8) (u.1 8) (a 9) (u.1 9) (u.2.2 2) (hu _) h_gi h_hi_ h_to (hu _) (hu _) (hh_gi) (hh_hi_) (hh_to) hp1 hp2) [0, 1, 14, 15, 16, 17, 6, 7, 8, 9] [1, 2, 0, 0, 0, 0, 7, 8, 9, 10, 0, 0, 0, 0, 3, 4, 5, 6] rfl rfl rfl (fun _ => rfl) (fun v u1 h => ⟨_, ⟨u1.1, u1.2.1, u1.2.2.1, u1.2.2.2, h.1, h.2, rfl⟩, rfl⟩)
    · subst hz
      have hq_hi_ : 0 ≤ hi_ ∧ hi_ < 4 → hi_.toNat = 2 := z_gq_n hk_hi_
      have hh_gi : 0 ≤ gi ∧ gi < 4 → z_gr a gi.toNat = some (a 14) := fun h => by rw [hq_gi h]; rfl
      have hh_hi_ : 0 ≤ hi_ ∧ hi_ < 4 → z_gr a hi_.toNat = some (a 10) := fun h => by rw [hq_hi_ h]; rfl
      have hh_to : 0 ≤ to ∧ to < 4 → z_gr a to.toNat = some (a 14) := fun h => by rw [hq_to h]; rfl
      exact z_lm0i (mt_X7_difference_c l D cA (a 0) (a 1) (z_gr a) (a 18) (u.2.2 0) (a 19) (a 23) (a 24) gi hi_ to (a 14) (a 15) (u.1 15) (a 16) (u.1 16) (a 17) (u.1 17) (u.2.2 4) (a 10) (a 11) (u.1 11) (a 12) (u.1 12) (a 13) (u.1 13) (u.2.2 3) (hu _) h_gi h_hi_ h_to (hu _) (hu _) (hh_gi) (hh_hi_) (hh_to) hp1 hp2) [0, 1, 14, 15, 16, 17, 10, 11, 12, 13] [1, 2, 0, 0, 0, 0, 0, 0, 0, 0, 7, 8, 9, 10, 3, 4, 5, 6] rfl rfl rfl (fun _ => rfl) (fun v u1 h => ⟨_, ⟨u1.1, u1.2.1, u1.2.2.1, u1.2.2.2, h.1, h.2, rfl⟩, rfl⟩)
    · subst hz
      have hq_hi_ : 0 ≤ hi_ ∧ hi_ < 4 → hi_.toNat = 3 := z_gq_n hk_hi_
      exact absurd rfl hne_g_h
set_option maxHeartbeats 4000000 in
set_option maxRecDepth 100000 in
theorem mw_X7_difference_d (l : Launch) (D : va_G) (cA : Nat → ClassId) (t1 t2 : Nat) (a : Nat → Nat) (u : xS) (hu : ∀ j, z_in (u.2.2 j)) (gi : Int) (hi_ : Int) (to : Int) (h_gi : z_in gi) (h_hi_ : z_in hi_) (h_to : z_in to) (k1 : Nat)  (k2 : Nat) (hne_g_h : k1 ≠ k2) (hk_gi : z_gq gi k1) (hk_hi_ : z_gq hi_ k2) (hk_to : z_gq to k2)  (hp1 : g_ok (u.1 (3 + 4 * k1))) (hp2 : g_ok (u.1 (3 + 4 * k2))) : Met l yX7_difference wsX7_difference ({ frames := 2, cells := 0, slots := 0, locals := 39 } : Room) (va_Pc [.ref (a 0), .int (z_i gi), .int (z_i hi_), .int (z_i to)] (z_M1 D cA t1 t2 (xW cA a u))) (va_Qi (z_mi (fun (r : Int) (u' : xS) => ∃ (n1 : Nat → Int32), ∃ (n2 : Nat → Int32), ∃ (n3 : Nat → Int32), ∃ (n4 : Int), z_in n4 ∧ (r = (if (0 ≤ gi ∧ gi < 4) ∧ (0 ≤ hi_ ∧ hi_ < 4) ∧ (0 ≤ to ∧ to < 4) then f_bc (u.1 (3 + 4 * k1)) (u.1 (3 + 4 * k2)) 1280 else -1) ∧ ((0 ≤ gi ∧ gi < 4) ∧ (0 ≤ hi_ ∧ hi_ < 4) ∧ (0 ≤ to ∧ to < 4) → (∀ n : Int, 0 ≤ n → n < 1280 → z_g n1 n = f_df (u.1 (3 + 4 * k1)) (u.1 (3 + 4 * k2)) n) ∧ n2 = (u.1 (4 + 4 * k1)) ∧ n3 = (u.1 (5 + 4 * k1)) ∧ n4 = (u.2.2 (1 + k1))) ∧ (¬ ((0 ≤ gi ∧ gi < 4) ∧ (0 ≤ hi_ ∧ hi_ < 4) ∧ (0 ≤ to ∧ to < 4)) → n1 = (u.1 (3 + 4 * k2)) ∧ n2 = (u.1 (4 + 4 * k2)) ∧ n3 = (u.1 (5 + 4 * k2)) ∧ n4 = (u.2.2 (1 + k2)))) ∧ u' = (z_u (z_u (z_u (u.1) (3 + 4 * k2) n1) (4 + 4 * k2) n2) (5 + 4 * k2) n3, u.2.1, z_u (u.2.2) (1 + k2) n4))) (fun (u' : xS) t => va_P D vwCl (xW cA a u') t.heap) (z_A (xW cA a u))) 0 0 (z_A (xW cA a u)) := by
  rcases z_gq_4 hk_gi with hz | hz | hz | hz
  · subst hz
    have hq_gi : 0 ≤ gi ∧ gi < 4 → gi.toNat = 0 := z_gq_n hk_gi
    rcases z_gq_4 hk_hi_ with hz | hz | hz | hz
    · subst hz
      have hq_hi_ : 0 ≤ hi_ ∧ hi_ < 4 → hi_.toNat = 0 := z_gq_n hk_hi_
      have hq_to : 0 ≤ to ∧ to < 4 → to.toNat = 0 := z_gq_n hk_to
      exact absurd rfl hne_g_h
    · subst hz
      have hq_hi_ : 0 ≤ hi_ ∧ hi_ < 4 → hi_.toNat = 1 := z_gq_n hk_hi_
      have hq_to : 0 ≤ to ∧ to < 4 → to.toNat = 1 := z_gq_n hk_to
      have hh_gi : 0 ≤ gi ∧ gi < 4 → z_gr a gi.toNat = some (a 2) := fun h => by rw [hq_gi h]; rfl
      have hh_hi_ : 0 ≤ hi_ ∧ hi_ < 4 → z_gr a hi_.toNat = some (a 6) := fun h => by rw [hq_hi_ h]; rfl
      have hh_to : 0 ≤ to ∧ to < 4 → z_gr a to.toNat = some (a 6) := fun h => by rw [hq_to h]; rfl
      exact z_lm0i (mt_X7_difference_d l D cA (a 0) (a 1) (z_gr a) (a 18) (u.2.2 0) (a 19) (a 23) (a 24) gi hi_ to (a 2) (a 3) (u.1 3) (a 4) (u.1 4) (a 5) (u.1 5) (u.2.2 1) (a 6) (a 7) (u.1 7) (a 8) (u.1 8) (a 9) (u.1 9) (u.2.2 2) (hu _) h_gi h_hi_ h_to (hu _) (hu _) (hh_gi) (hh_hi_) (hh_to) hp1 hp2) [0, 1, 2, 3, 4, 5, 6, 7, 8, 9] [1, 2, 3, 4, 5, 6, 7, 8, 9, 10] rfl rfl rfl (fun _ => rfl) (fun v u1 h => ⟨_, ⟨u1.1, u1.2.1, u1.2.2.1, u1.2.2.2, h.1, h.2, rfl⟩, rfl⟩)
    · subst hz
      have hq_hi_ : 0 ≤ hi_ ∧ hi_ < 4 → hi_.toNat = 2 := z_gq_n hk_hi_
      have hq_to : 0 ≤ to ∧ to < 4 → to.toNat = 2 := z_gq_n hk_to
      have hh_gi : 0 ≤ gi ∧ gi < 4 → z_gr a gi.toNat = some (a 2) := fun h => by rw [hq_gi h]; rfl
      have hh_hi_ : 0 ≤ hi_ ∧ hi_ < 4 → z_gr a hi_.toNat = some (a 10) := fun h => by rw [hq_hi_ h]; rfl
      have hh_to : 0 ≤ to ∧ to < 4 → z_gr a to.toNat = some (a 10) := fun h => by rw [hq_to h]; rfl
      exact z_lm0i (mt_X7_difference_d l D cA (a 0) (a 1) (z_gr a) (a 18) (u.2.2 0) (a 19) (a 23) (a 24) gi hi_ to (a 2) (a 3) (u.1 3) (a 4) (u.1 4) (a 5) (u.1 5) (u.2.2 1) (a 10) (a 11) (u.1 11) (a 12) (u.1 12) (a 13) (u.1 13) (u.2.2 3) (hu _) h_gi h_hi_ h_to (hu _) (hu _) (hh_gi) (hh_hi_) (hh_to) hp1 hp2) [0, 1, 2, 3, 4, 5, 10, 11, 12, 13] [1, 2, 3, 4, 5, 6, 0, 0, 0, 0, 7, 8, 9, 10] rfl rfl rfl (fun _ => rfl) (fun v u1 h => ⟨_, ⟨u1.1, u1.2.1, u1.2.2.1, u1.2.2.2, h.1, h.2, rfl⟩, rfl⟩)
    · subst hz
      have hq_hi_ : 0 ≤ hi_ ∧ hi_ < 4 → hi_.toNat = 3 := z_gq_n hk_hi_
      have hq_to : 0 ≤ to ∧ to < 4 → to.toNat = 3 := z_gq_n hk_to
      have hh_gi : 0 ≤ gi ∧ gi < 4 → z_gr a gi.toNat = some (a 2) := fun h => by rw [hq_gi h]; rfl
      have hh_hi_ : 0 ≤ hi_ ∧ hi_ < 4 → z_gr a hi_.toNat = some (a 14) := fun h => by rw [hq_hi_ h]; rfl
      have hh_to : 0 ≤ to ∧ to < 4 → z_gr a to.toNat = some (a 14) := fun h => by rw [hq_to h]; rfl
      exact z_lm0i (mt_X7_difference_d l D cA (a 0) (a 1) (z_gr a) (a 18) (u.2.2 0) (a 19) (a 23) (a 24) gi hi_ to (a 2) (a 3) (u.1 3) (a 4) (u.1 4) (a 5) (u.1 5) (u.2.2 1) (a 14) (a 15) (u.1 15) (a 16) (u.1 16) (a 17) (u.1 17) (u.2.2 4) (hu _) h_gi h_hi_ h_to (hu _) (hu _) (hh_gi) (hh_hi_) (hh_to) hp1 hp2) [0, 1, 2, 3, 4, 5, 14, 15, 16, 17] [1, 2, 3, 4, 5, 6, 0, 0, 0, 0, 0, 0, 0, 0, 7, 8, 9, 10] rfl rfl rfl (fun _ => rfl) (fun v u1 h => ⟨_, ⟨u1.1, u1.2.1, u1.2.2.1, u1.2.2.2, h.1, h.2, rfl⟩, rfl⟩)
  · subst hz
    have hq_gi : 0 ≤ gi ∧ gi < 4 → gi.toNat = 1 := z_gq_n hk_gi
    rcases z_gq_4 hk_hi_ with hz | hz | hz | hz
    · subst hz
      have hq_hi_ : 0 ≤ hi_ ∧ hi_ < 4 → hi_.toNat = 0 := z_gq_n hk_hi_
      have hq_to : 0 ≤ to ∧ to < 4 → to.toNat = 0 := z_gq_n hk_to
      have hh_gi : 0 ≤ gi ∧ gi < 4 → z_gr a gi.toNat = some (a 6) := fun h => by rw [hq_gi h]; rfl
      have hh_hi_ : 0 ≤ hi_ ∧ hi_ < 4 → z_gr a hi_.toNat = some (a 2) := fun h => by rw [hq_hi_ h]; rfl
      have hh_to : 0 ≤ to ∧ to < 4 → z_gr a to.toNat = some (a 2) := fun h => by rw [hq_to h]; rfl
      exact z_lm0i (mt_X7_difference_d l D cA (a 0) (a 1) (z_gr a) (a 18) (u.2.2 0) (a 19) (a 23) (a 24) gi hi_ to (a 6) (a 7) (u.1 7) (a 8) (u.1 8) (a 9) (u.1 9) (u.2.2 2) (a 2) (a 3) (u.1 3) (a 4) (u.1 4) (a 5) (u.1 5) (u.2.2 1) (hu _) h_gi h_hi_ h_to (hu _) (hu _) (hh_gi) (hh_hi_) (hh_to) hp1 hp2) [0, 1, 6, 7, 8, 9, 2, 3, 4, 5] [1, 2, 7, 8, 9, 10, 3, 4, 5, 6] rfl rfl rfl (fun _ => rfl) (fun v u1 h => ⟨_, ⟨u1.1, u1.2.1, u1.2.2.1, u1.2.2.2, h.1, h.2, rfl⟩, rfl⟩)
    · subst hz
      have hq_hi_ : 0 ≤ hi_ ∧ hi_ < 4 → hi_.toNat = 1 := z_gq_n hk_hi_
      have hq_to : 0 ≤ to ∧ to < 4 → to.toNat = 1 := z_gq_n hk_to
      exact absurd rfl hne_g_h
    · subst hz
      have hq_hi_ : 0 ≤ hi_ ∧ hi_ < 4 → hi_.toNat = 2 := z_gq_n hk_hi_
      have hq_to : 0 ≤ to ∧ to < 4 → to.toNat = 2 := z_gq_n hk_to
      have hh_gi : 0 ≤ gi ∧ gi < 4 → z_gr a gi.toNat = some (a 6) := fun h => by rw [hq_gi h]; rfl
      have hh_hi_ : 0 ≤ hi_ ∧ hi_ < 4 → z_gr a hi_.toNat = some (a 10) := fun h => by rw [hq_hi_ h]; rfl
      have hh_to : 0 ≤ to ∧ to < 4 → z_gr a to.toNat = some (a 10) := fun h => by rw [hq_to h]; rfl
      exact z_lm0i (mt_X7_difference_d l D cA (a 0) (a 1) (z_gr a) (a 18) (u.2.2 0) (a 19) (a 23) (a 24) gi hi_ to (a 6) (a 7) (u.1 7) (a 8) (u.1 8) (a 9) (u.1 9) (u.2.2 2) (a 10) (a 11) (u.1 11) (a 12) (u.1 12) (a 13) (u.1 13) (u.2.2 3) (hu _) h_gi h_hi_ h_to (hu _) (hu _) (hh_gi) (hh_hi_) (hh_to) hp1 hp2) [0, 1, 6, 7, 8, 9, 10, 11, 12, 13] [1, 2, 0, 0, 0, 0, 3, 4, 5, 6, 7, 8, 9, 10] rfl rfl rfl (fun _ => rfl) (fun v u1 h => ⟨_, ⟨u1.1, u1.2.1, u1.2.2.1, u1.2.2.2, h.1, h.2, rfl⟩, rfl⟩)
    · subst hz
      have hq_hi_ : 0 ≤ hi_ ∧ hi_ < 4 → hi_.toNat = 3 := z_gq_n hk_hi_
      have hq_to : 0 ≤ to ∧ to < 4 → to.toNat = 3 := z_gq_n hk_to
      have hh_gi : 0 ≤ gi ∧ gi < 4 → z_gr a gi.toNat = some (a 6) := fun h => by rw [hq_gi h]; rfl
      have hh_hi_ : 0 ≤ hi_ ∧ hi_ < 4 → z_gr a hi_.toNat = some (a 14) := fun h => by rw [hq_hi_ h]; rfl
      have hh_to : 0 ≤ to ∧ to < 4 → z_gr a to.toNat = some (a 14) := fun h => by rw [hq_to h]; rfl
      exact z_lm0i (mt_X7_difference_d l D cA (a 0) (a 1) (z_gr a) (a 18) (u.2.2 0) (a 19) (a 23) (a 24) gi hi_ to (a 6) (a 7) (u.1 7) (a 8) (u.1 8) (a 9) (u.1 9) (u.2.2 2) (a 14) (a 15) (u.1 15) (a 16) (u.1 16) (a 17) (u.1 17) (u.2.2 4) (hu _) h_gi h_hi_ h_to (hu _) (hu _) (hh_gi) (hh_hi_) (hh_to) hp1 hp2) [0, 1, 6, 7, 8, 9, 14, 15, 16, 17] [1, 2, 0, 0, 0, 0, 3, 4, 5, 6, 0, 0, 0, 0, 7, 8, 9, 10] rfl rfl rfl (fun _ => rfl) (fun v u1 h => ⟨_, ⟨u1.1, u1.2.1, u1.2.2.1, u1.2.2.2, h.1, h.2, rfl⟩, rfl⟩)
  · subst hz
    have hq_gi : 0 ≤ gi ∧ gi < 4 → gi.toNat = 2 := z_gq_n hk_gi
    rcases z_gq_4 hk_hi_ with hz | hz | hz | hz
    · subst hz
      have hq_hi_ : 0 ≤ hi_ ∧ hi_ < 4 → hi_.toNat = 0 := z_gq_n hk_hi_
      have hq_to : 0 ≤ to ∧ to < 4 → to.toNat = 0 := z_gq_n hk_to
      have hh_gi : 0 ≤ gi ∧ gi < 4 → z_gr a gi.toNat = some (a 10) := fun h => by rw [hq_gi h]; rfl
      have hh_hi_ : 0 ≤ hi_ ∧ hi_ < 4 → z_gr a hi_.toNat = some (a 2) := fun h => by rw [hq_hi_ h]; rfl
      have hh_to : 0 ≤ to ∧ to < 4 → z_gr a to.toNat = some (a 2) := fun h => by rw [hq_to h]; rfl
      exact z_lm0i (mt_X7_difference_d l D cA (a 0) (a 1) (z_gr a) (a 18) (u.2.2 0) (a 19) (a 23) (a 24) gi hi_ to (a 10) (a 11) (u.1 11) (a 12) (u.1 12) (a 13) (u.1 13) (u.2.2 3) (a 2) (a 3) (u.1 3) (a 4) (u.1 4) (a 5) (u.1 5) (u.2.2 1) (hu _) h_gi h_hi_ h_to (hu _) (hu _) (hh_gi) (hh_hi_) (hh_to) hp1 hp2) [0, 1, 10, 11, 12, 13, 2, 3, 4, 5] [1, 2, 7, 8, 9, 10, 0, 0, 0, 0, 3, 4, 5, 6] rfl rfl rfl (fun _ => rfl) (fun v u1 h => ⟨_, ⟨u1.1, u1.2.1, u1.2.2.1, u1.2.2.2, h.1, h.2, rfl⟩, rfl⟩)
    · subst hz
      have hq_hi_ : 0 ≤ hi_ ∧ hi_ < 4 → hi_.toNat = 1 := z_gq_n hk_hi_
      have hq_to : 0 ≤ to ∧ to < 4 → to.toNat = 1 := z_gq_n hk_to
      have hh_gi : 0 ≤ gi ∧ gi < 4 → z_gr a gi.toNat = some (a 10) := fun h => by rw [hq_gi h]; rfl
      have hh_hi_ : 0 ≤ hi_ ∧ hi_ < 4 → z_gr a hi_.toNat = some (a 6) := fun h => by rw [hq_hi_ h]; rfl
      have hh_to : 0 ≤ to ∧ to < 4 → z_gr a to.toNat = some (a 6) := fun h => by rw [hq_to h]; rfl
      exact z_lm0i (mt_X7_difference_d l D cA (a 0) (a 1) (z_gr a) (a 18) (u.2.2 0) (a 19) (a 23) (a 24) gi hi_ to (a 10) (a 11) (u.1 11) (a 12) (u.1 12) (a 13) (u.1 13) (u.2.2 3) (a 6) (a 7) (u.1 7) (a 8) (u.1 8) (a 9) (u.1 9) (u.2.2 2) (hu _) h_gi h_hi_ h_to (hu _) (hu _) (hh_gi) (hh_hi_) (hh_to) hp1 hp2) [0, 1, 10, 11, 12, 13, 6, 7, 8, 9] [1, 2, 0, 0, 0, 0, 7, 8, 9, 10, 3, 4, 5, 6] rfl rfl rfl (fun _ => rfl) (fun v u1 h => ⟨_, ⟨u1.1, u1.2.1, u1.2.2.1, u1.2.2.2, h.1, h.2, rfl⟩, rfl⟩)
    · subst hz
      have hq_hi_ : 0 ≤ hi_ ∧ hi_ < 4 → hi_.toNat = 2 := z_gq_n hk_hi_
      have hq_to : 0 ≤ to ∧ to < 4 → to.toNat = 2 := z_gq_n hk_to
      exact absurd rfl hne_g_h
    · subst hz
      have hq_hi_ : 0 ≤ hi_ ∧ hi_ < 4 → hi_.toNat = 3 := z_gq_n hk_hi_
      have hq_to : 0 ≤ to ∧ to < 4 → to.toNat = 3 := z_gq_n hk_to
      have hh_gi : 0 ≤ gi ∧ gi < 4 → z_gr a gi.toNat = some (a 10) := fun h => by rw [hq_gi h]; rfl
      have hh_hi_ : 0 ≤ hi_ ∧ hi_ < 4 → z_gr a hi_.toNat = some (a 14) := fun h => by rw [hq_hi_ h]; rfl
      have hh_to : 0 ≤ to ∧ to < 4 → z_gr a to.toNat = some (a 14) := fun h => by rw [hq_to h]; rfl
      exact z_lm0i (mt_X7_difference_d l D cA (a 0) (a 1) (z_gr a) (a 18) (u.2.2 0) (a 19) (a 23) (a 24) gi hi_ to (a 10) (a 11) (u.1 11) (a 12) (u.1 12) (a 13) (u.1 13) (u.2.2 3) (a 14) (a 15) (u.1 15) (a 16) (u.1 16) (a 17) (u.1 17) (u.2.2 4) (hu _) h_gi h_hi_ h_to (hu _) (hu _) (hh_gi) (hh_hi_) (hh_to) hp1 hp2) [0, 1, 10, 11, 12, 13, 14, 15, 16, 17] [1, 2, 0, 0, 0, 0, 0, 0, 0, 0, 3, 4, 5, 6, 7, 8, 9, 10] rfl rfl rfl (fun _ => rfl) (fun v u1 h => ⟨_, ⟨u1.1, u1.2.1, u1.2.2.1, u1.2.2.2, h.1, h.2, rfl⟩, rfl⟩)
  · subst hz
    have hq_gi : 0 ≤ gi ∧ gi < 4 → gi.toNat = 3 := z_gq_n hk_gi
    rcases z_gq_4 hk_hi_ with hz | hz | hz | hz
    · subst hz
      have hq_hi_ : 0 ≤ hi_ ∧ hi_ < 4 → hi_.toNat = 0 := z_gq_n hk_hi_
      have hq_to : 0 ≤ to ∧ to < 4 → to.toNat = 0 := z_gq_n hk_to
      have hh_gi : 0 ≤ gi ∧ gi < 4 → z_gr a gi.toNat = some (a 14) := fun h => by rw [hq_gi h]; rfl
      have hh_hi_ : 0 ≤ hi_ ∧ hi_ < 4 → z_gr a hi_.toNat = some (a 2) := fun h => by rw [hq_hi_ h]; rfl
      have hh_to : 0 ≤ to ∧ to < 4 → z_gr a to.toNat = some (a 2) := fun h => by rw [hq_to h]; rfl
      exact z_lm0i (mt_X7_difference_d l D cA (a 0) (a 1) (z_gr a) (a 18) (u.2.2 0) (a 19) (a 23) (a 24) gi hi_ to (a 14) (a 15) (u.1 15) (a 16) (u.1 16) (a 17) (u.1 17) (u.2.2 4) (a 2) (a 3) (u.1 3) (a 4) (u.1 4) (a 5) (u.1 5) (u.2.2 1) (hu _) h_gi h_hi_ h_to (hu _) (hu _) (hh_gi) (hh_hi_) (hh_to) hp1 hp2) [0, 1, 14, 15, 16, 17, 2, 3, 4, 5] [1, 2, 7, 8, 9, 10, 0, 0, 0, 0, 0, 0, 0, 0, 3, 4, 5, 6] rfl rfl rfl (fun _ => rfl) (fun v u1 h => ⟨_, ⟨u1.1, u1.2.1, u1.2.2.1, u1.2.2.2, h.1, h.2, rfl⟩, rfl⟩)
    · subst hz
      have hq_hi_ : 0 ≤ hi_ ∧ hi_ < 4 → hi_.toNat = 1 := z_gq_n hk_hi_
      have hq_to : 0 ≤ to ∧ to < 4 → to.toNat = 1 := z_gq_n hk_to
      have hh_gi : 0 ≤ gi ∧ gi < 4 → z_gr a gi.toNat = some (a 14) := fun h => by rw [hq_gi h]; rfl
      have hh_hi_ : 0 ≤ hi_ ∧ hi_ < 4 → z_gr a hi_.toNat = some (a 6) := fun h => by rw [hq_hi_ h]; rfl
      have hh_to : 0 ≤ to ∧ to < 4 → z_gr a to.toNat = some (a 6) := fun h => by rw [hq_to h]; rfl
      exact z_lm0i (mt_X7_difference_d l D cA (a 0) (a 1) (z_gr a) (a 18) (u.2.2 0) (a 19) (a 23) (a 24) gi hi_ to (a 14) (a 15) (u.1 15) (a 16) (u.1 16) (a 17) (u.1 17) (u.2.2 4) (a 6) (a 7) (u.1 7) (a 8) (u.1 8) (a 9) (u.1 9) (u.2.2 2) (hu _) h_gi h_hi_ h_to (hu _) (hu _) (hh_gi) (hh_hi_) (hh_to) hp1 hp2) [0, 1, 14, 15, 16, 17, 6, 7, 8, 9] [1, 2, 0, 0, 0, 0, 7, 8, 9, 10, 0, 0, 0, 0, 3, 4, 5, 6] rfl rfl rfl (fun _ => rfl) (fun v u1 h => ⟨_, ⟨u1.1, u1.2.1, u1.2.2.1, u1.2.2.2, h.1, h.2, rfl⟩, rfl⟩)
    · subst hz
      have hq_hi_ : 0 ≤ hi_ ∧ hi_ < 4 → hi_.toNat = 2 := z_gq_n hk_hi_
      have hq_to : 0 ≤ to ∧ to < 4 → to.toNat = 2 := z_gq_n hk_to
      have hh_gi : 0 ≤ gi ∧ gi < 4 → z_gr a gi.toNat = some (a 14) := fun h => by rw [hq_gi h]; rfl
      have hh_hi_ : 0 ≤ hi_ ∧ hi_ < 4 → z_gr a hi_.toNat = some (a 10) := fun h => by rw [hq_hi_ h]; rfl
      have hh_to : 0 ≤ to ∧ to < 4 → z_gr a to.toNat = some (a 10) := fun h => by rw [hq_to h]; rfl
      exact z_lm0i (mt_X7_difference_d l D cA (a 0) (a 1) (z_gr a) (a 18) (u.2.2 0) (a 19) (a 23) (a 24) gi hi_ to (a 14) (a 15) (u.1 15) (a 16) (u.1 16) (a 17) (u.1 17) (u.2.2 4) (a 10) (a 11) (u.1 11) (a 12) (u.1 12) (a 13) (u.1 13) (u.2.2 3) (hu _) h_gi h_hi_ h_to (hu _) (hu _) (hh_gi) (hh_hi_) (hh_to) hp1 hp2) [0, 1, 14, 15, 16, 17, 10, 11, 12, 13] [1, 2, 0, 0, 0, 0, 0, 0, 0, 0, 7, 8, 9, 10, 3, 4, 5, 6] rfl rfl rfl (fun _ => rfl) (fun v u1 h => ⟨_, ⟨u1.1, u1.2.1, u1.2.2.1, u1.2.2.2, h.1, h.2, rfl⟩, rfl⟩)
    · subst hz
      have hq_hi_ : 0 ≤ hi_ ∧ hi_ < 4 → hi_.toNat = 3 := z_gq_n hk_hi_
      have hq_to : 0 ≤ to ∧ to < 4 → to.toNat = 3 := z_gq_n hk_to
      exact absurd rfl hne_g_h
set_option maxHeartbeats 4000000 in
set_option maxRecDepth 100000 in
theorem mw_X7_difference_e (l : Launch) (D : va_G) (cA : Nat → ClassId) (t1 t2 : Nat) (a : Nat → Nat) (u : xS) (hu : ∀ j, z_in (u.2.2 j)) (gi : Int) (hi_ : Int) (to : Int) (h_gi : z_in gi) (h_hi_ : z_in hi_) (h_to : z_in to) (k1 : Nat)  (k2 : Nat)  (k3 : Nat) (hne_g_h : k1 ≠ k2)  (hne_g_o : k1 ≠ k3)  (hne_h_o : k2 ≠ k3) (hk_gi : z_gq gi k1) (hk_hi_ : z_gq hi_ k2) (hk_to : z_gq to k3)  (hp1 : g_ok (u.1 (3 + 4 * k1))) (hp2 : g_ok (u.1 (3 + 4 * k2))) : Met l yX7_difference wsX7_difference ({ frames := 2, cells := 0, slots := 0, locals := 39 } : Room) (va_Pc [.ref (a 0), .int (z_i gi), .int (z_i hi_), .int (z_i to)] (z_M1 D cA t1 t2 (xW cA a u))) (va_Qi (z_mi (fun (r : Int) (u' : xS) => ∃ (n1 : Nat → Int32), ∃ (n2 : Nat → Int32), ∃ (n3 : Nat → Int32), ∃ (n4 : Int), z_in n4 ∧ (r = (if (0 ≤ gi ∧ gi < 4) ∧ (0 ≤ hi_ ∧ hi_ < 4) ∧ (0 ≤ to ∧ to < 4) then f_bc (u.1 (3 + 4 * k1)) (u.1 (3 + 4 * k2)) 1280 else -1) ∧ ((0 ≤ gi ∧ gi < 4) ∧ (0 ≤ hi_ ∧ hi_ < 4) ∧ (0 ≤ to ∧ to < 4) → (∀ n : Int, 0 ≤ n → n < 1280 → z_g n1 n = f_df (u.1 (3 + 4 * k1)) (u.1 (3 + 4 * k2)) n) ∧ n2 = (u.1 (4 + 4 * k1)) ∧ n3 = (u.1 (5 + 4 * k1)) ∧ n4 = (u.2.2 (1 + k1))) ∧ (¬ ((0 ≤ gi ∧ gi < 4) ∧ (0 ≤ hi_ ∧ hi_ < 4) ∧ (0 ≤ to ∧ to < 4)) → n1 = (u.1 (3 + 4 * k3)) ∧ n2 = (u.1 (4 + 4 * k3)) ∧ n3 = (u.1 (5 + 4 * k3)) ∧ n4 = (u.2.2 (1 + k3)))) ∧ u' = (z_u (z_u (z_u (u.1) (3 + 4 * k3) n1) (4 + 4 * k3) n2) (5 + 4 * k3) n3, u.2.1, z_u (u.2.2) (1 + k3) n4))) (fun (u' : xS) t => va_P D vwCl (xW cA a u') t.heap) (z_A (xW cA a u))) 0 0 (z_A (xW cA a u)) := by
  rcases z_gq_4 hk_gi with hz | hz | hz | hz
  · subst hz
    have hq_gi : 0 ≤ gi ∧ gi < 4 → gi.toNat = 0 := z_gq_n hk_gi
    rcases z_gq_4 hk_hi_ with hz | hz | hz | hz
    · subst hz
      have hq_hi_ : 0 ≤ hi_ ∧ hi_ < 4 → hi_.toNat = 0 := z_gq_n hk_hi_
      exact absurd rfl hne_g_h
    · subst hz
      have hq_hi_ : 0 ≤ hi_ ∧ hi_ < 4 → hi_.toNat = 1 := z_gq_n hk_hi_
      rcases z_gq_4 hk_to with hz | hz | hz | hz
      · subst hz
        have hq_to : 0 ≤ to ∧ to < 4 → to.toNat = 0 := z_gq_n hk_to
        exact absurd rfl hne_g_o
      · subst hz
        have hq_to : 0 ≤ to ∧ to < 4 → to.toNat = 1 := z_gq_n hk_to
        exact absurd rfl hne_h_o
      · subst hz
        have hq_to : 0 ≤ to ∧ to < 4 → to.toNat = 2 := z_gq_n hk_to
        have hh_gi : 0 ≤ gi ∧ gi < 4 → z_gr a gi.toNat = some (a 2) := fun h => by rw [hq_gi h]; rfl
        have hh_hi_ : 0 ≤ hi_ ∧ hi_ < 4 → z_gr a hi_.toNat = some (a 6) := fun h => by rw [hq_hi_ h]; rfl
        have hh_to : 0 ≤ to ∧ to < 4 → z_gr a to.toNat = some (a 10) := fun h => by rw [hq_to h]; rfl
        exact z_lm0i (mt_X7_difference_e l D cA (a 0) (a 1) (z_gr a) (a 18) (u.2.2 0) (a 19) (a 23) (a 24) gi hi_ to (a 2) (a 3) (u.1 3) (a 4) (u.1 4) (a 5) (u.1 5) (u.2.2 1) (a 6) (a 7) (u.1 7) (a 8) (u.1 8) (a 9) (u.1 9) (u.2.2 2) (a 10) (a 11) (u.1 11) (a 12) (u.1 12) (a 13) (u.1 13) (u.2.2 3) (hu _) h_gi h_hi_ h_to (hu _) (hu _) (hu _) (hh_gi) (hh_hi_) (hh_to) hp1 hp2) [0, 1, 2, 3, 4, 5, 6, 7, 8, 9, 10, 11, 12, 13] [1, 2, 3, 4, 5, 6, 7, 8, 9, 10, 11, 12, 13, 14] rfl rfl rfl (fun _ => rfl) (fun v u1 h => ⟨_, ⟨u1.1, u1.2.1, u1.2.2.1, u1.2.2.2, h.1, h.2, rfl⟩, rfl⟩)
      · subst hz
        have hq_to : 0 ≤ to ∧ to < 4 → to.toNat = 3 := z_gq_n hk_to
        have hh_gi : 0 ≤ gi ∧ gi < 4 → z_gr a gi.toNat = some (a 2) := fun h => by rw [hq_gi h]; rfl
        have hh_hi_ : 0 ≤ hi_ ∧ hi_ < 4 → z_gr a hi_.toNat = some (a 6) := fun h => by rw [hq_hi_ h]; rfl
        have hh_to : 0 ≤ to ∧ to < 4 → z_gr a to.toNat = some (a 14) := fun h => by rw [hq_to h]; rfl
        exact z_lm0i (mt_X7_difference_e l D cA (a 0) (a 1) (z_gr a) (a 18) (u.2.2 0) (a 19) (a 23) (a 24) gi hi_ to (a 2) (a 3) (u.1 3) (a 4) (u.1 4) (a 5) (u.1 5) (u.2.2 1) (a 6) (a 7) (u.1 7) (a 8) (u.1 8) (a 9) (u.1 9) (u.2.2 2) (a 14) (a 15) (u.1 15) (a 16) (u.1 16) (a 17) (u.1 17) (u.2.2 4) (hu _) h_gi h_hi_ h_to (hu _) (hu _) (hu _) (hh_gi) (hh_hi_) (hh_to) hp1 hp2) [0, 1, 2, 3, 4, 5, 6, 7, 8, 9, 14, 15, 16, 17] [1, 2, 3, 4, 5, 6, 7, 8, 9, 10, 0, 0, 0, 0, 11, 12, 13, 14] rfl rfl rfl (fun _ => rfl) (fun v u1 h => ⟨_, ⟨u1.1, u1.2.1, u1.2.2.1, u1.2.2.2, h.1, h.2, rfl⟩, rfl⟩)
    · subst hz
      have hq_hi_ : 0 ≤ hi_ ∧ hi_ < 4 → hi_.toNat = 2 := z_gq_n hk_hi_
      rcases z_gq_4 hk_to with hz | hz | hz | hz
      · subst hz
        have hq_to : 0 ≤ to ∧ to < 4 → to.toNat = 0 := z_gq_n hk_to
        exact absurd rfl hne_g_o
      · subst hz
        have hq_to : 0 ≤ to ∧ to < 4 → to.toNat = 1 := z_gq_n hk_to
        have hh_gi : 0 ≤ gi ∧ gi < 4 → z_gr a gi.toNat = some (a 2) := fun h => by rw [hq_gi h]; rfl
        have hh_hi_ : 0 ≤ hi_ ∧ hi_ < 4 → z_gr a hi_.toNat = some (a 10) := fun h => by rw [hq_hi_ h]; rfl
        have hh_to : 0 ≤ to ∧ to < 4 → z_gr a to.toNat = some (a 6) := fun h => by rw [hq_to h]; rfl
        exact z_lm0i (mt_X7_difference_e l D cA (a 0) (a 1) (z_gr a) (a 18) (u.2.2 0) (a 19) (a 23) (a 24) gi hi_ to (a 2) (a 3) (u.1 3) (a 4) (u.1 4) (a 5) (u.1 5) (u.2.2 1) (a 10) (a 11) (u.1 11) (a 12) (u.1 12) (a 13) (u.1 13) (u.2.2 3) (a 6) (a 7) (u.1 7) (a 8) (u.1 8) (a 9) (u.1 9) (u.2.2 2) (hu _) h_gi h_hi_ h_to (hu _) (hu _) (hu _) (hh_gi) (hh_hi_) (hh_to) hp1 hp2) [0, 1, 2, 3, 4, 5, 10, 11, 12, 13, 6, 7, 8, 9] [1, 2, 3, 4, 5, 6, 11, 12, 13, 14, 7, 8, 9, 10] rfl rfl rfl (fun _ => rfl) (fun v u1 h => ⟨_, ⟨u1.1, u1.2.1, u1.2.2.1, u1.2.2.2, h.1, h.2, rfl⟩, rfl⟩)
      · subst hz
        have hq_to : 0 ≤ to ∧ to < 4 → to.toNat = 2 := z_gq_n hk_to
        exact absurd rfl hne_h_o
      · subst hz
        have hq_to : 0 ≤ to ∧ to < 4 → to.toNat = 3 := z_gq_n hk_to
        have hh_gi : 0 ≤ gi ∧ gi < 4 → z_gr a gi.toNat = some (a 2) := fun h => by rw [hq_gi h]; rfl
        have hh_hi_ : 0 ≤ hi_ ∧ hi_ < 4 → z_gr a hi_.toNat = some (a 10) := fun h => by rw [hq_hi_ h]; rfl
        have hh_to : 0 ≤ to ∧ to < 4 → z_gr a to.toNat = some (a 14) := fun h => by rw [hq_to h]; rfl
        exact z_lm0i (mt_X7_difference_e l D cA (a 0) (a 1) (z_gr a) (a 18) (u.2.2 0) (a 19) (a 23) (a 24) gi hi_ to (a 2) (a 3) (u.1 3) (a 4) (u.1 4) (a 5) (u.1 5) (u.2.2 1) (a 10) (a 11) (u.1 11) (a 12) (u.1 12) (a 13) (u.1 13) (u.2.2 3) (a 14) (a 15) (u.1 15) (a 16) (u.1 16) (a 17) (u.1 17) (u.2.2 4) (hu _) h_gi h_hi_ h_to (hu _) (hu _) (hu _) (hh_gi) (hh_hi_) (hh_to) hp1 hp2) [0, 1, 2, 3, 4, 5, 10, 11, 12, 13, 14, 15, 16, 17] [1, 2, 3, 4, 5, 6, 0, 0, 0, 0, 7, 8, 9, 10, 11, 12, 13, 14] rfl rfl rfl (fun _ => rfl) (fun v u1 h => ⟨_, ⟨u1.1, u1.2.1, u1.2.2.1, u1.2.2.2, h.1, h.2, rfl⟩, rfl⟩)
    · subst hz
      have hq_hi_ : 0 ≤ hi_ ∧ hi_ < 4 → hi_.toNat = 3 := z_gq_n hk_hi_
      rcases z_gq_4 hk_to with hz | hz | hz | hz
      · subst hz
        have hq_to : 0 ≤ to ∧ to < 4 → to.toNat = 0 := z_gq_n hk_to
        exact absurd rfl hne_g_o
      · subst hz
        have hq_to : 0 ≤ to ∧ to < 4 → to.toNat = 1 := z_gq_n hk_to
        have hh_gi : 0 ≤ gi ∧ gi < 4 → z_gr a gi.toNat = some (a 2) := fun h => by rw [hq_gi h]; rfl
        have hh_hi_ : 0 ≤ hi_ ∧ hi_ < 4 → z_gr a hi_.toNat = some (a 14) := fun h => by rw [hq_hi_ h]; rfl
        have hh_to : 0 ≤ to ∧ to < 4 → z_gr a to.toNat = some (a 6) := fun h => by rw [hq_to h]; rfl
        exact z_lm0i (mt_X7_difference_e l D cA (a 0) (a 1) (z_gr a) (a 18) (u.2.2 0) (a 19) (a 23) (a 24) gi hi_ to (a 2) (a 3) (u.1 3) (a 4) (u.1 4) (a 5) (u.1 5) (u.2.2 1) (a 14) (a 15) (u.1 15) (a 16) (u.1 16) (a 17) (u.1 17) (u.2.2 4) (a 6) (a 7) (u.1 7) (a 8) (u.1 8) (a 9) (u.1 9) (u.2.2 2) (hu _) h_gi h_hi_ h_to (hu _) (hu _) (hu _) (hh_gi) (hh_hi_) (hh_to) hp1 hp2) [0, 1, 2, 3, 4, 5, 14, 15, 16, 17, 6, 7, 8, 9] [1, 2, 3, 4, 5, 6, 11, 12, 13, 14, 0, 0, 0, 0, 7, 8, 9, 10] rfl rfl rfl (fun _ => rfl) (fun v u1 h => ⟨_, ⟨u1.1, u1.2.1, u1.2.2.1, u1.2.2.2, h.1, h.2, rfl⟩, rfl⟩)
      · subst hz
        have hq_to : 0 ≤ to ∧ to < 4 → to.toNat = 2 := z_gq_n hk_to
        have hh_gi : 0 ≤ gi ∧ gi < 4 → z_gr a gi.toNat = some (a 2) := fun h => by rw [hq_gi h]; rfl
        have hh_hi_ : 0 ≤ hi_ ∧ hi_ < 4 → z_gr a hi_.toNat = some (a 14) := fun h => by rw [hq_hi_ h]; rfl
        have hh_to : 0 ≤ to ∧ to < 4 → z_gr a to.toNat = some (a 10) := fun h => by rw [hq_to h]; rfl
        exact z_lm0i (mt_X7_difference_e l D cA (a 0) (a 1) (z_gr a) (a 18) (u.2.2 0) (a 19) (a 23) (a 24) gi hi_ to (a 2) (a 3) (u.1 3) (a 4) (u.1 4) (a 5) (u.1 5) (u.2.2 1) (a 14) (a 15) (u.1 15) (a 16) (u.1 16) (a 17) (u.1 17) (u.2.2 4) (a 10) (a 11) (u.1 11) (a 12) (u.1 12) (a 13) (u.1 13) (u.2.2 3) (hu _) h_gi h_hi_ h_to (hu _) (hu _) (hu _) (hh_gi) (hh_hi_) (hh_to) hp1 hp2) [0, 1, 2, 3, 4, 5, 14, 15, 16, 17, 10, 11, 12, 13] [1, 2, 3, 4, 5, 6, 0, 0, 0, 0, 11, 12, 13, 14, 7, 8, 9, 10] rfl rfl rfl (fun _ => rfl) (fun v u1 h => ⟨_, ⟨u1.1, u1.2.1, u1.2.2.1, u1.2.2.2, h.1, h.2, rfl⟩, rfl⟩)
      · subst hz
        have hq_to : 0 ≤ to ∧ to < 4 → to.toNat = 3 := z_gq_n hk_to
        exact absurd rfl hne_h_o
  · subst hz
    have hq_gi : 0 ≤ gi ∧ gi < 4 → gi.toNat = 1 := z_gq_n hk_gi
    rcases z_gq_4 hk_hi_ with hz | hz | hz | hz
    · subst hz
      have hq_hi_ : 0 ≤ hi_ ∧ hi_ < 4 → hi_.toNat = 0 := z_gq_n hk_hi_
      rcases z_gq_4 hk_to with hz | hz | hz | hz
      · subst hz
        have hq_to : 0 ≤ to ∧ to < 4 → to.toNat = 0 := z_gq_n hk_to
        exact absurd rfl hne_h_o
      · subst hz
        have hq_to : 0 ≤ to ∧ to < 4 → to.toNat = 1 := z_gq_n hk_to
        exact absurd rfl hne_g_o
      · subst hz
        have hq_to : 0 ≤ to ∧ to < 4 → to.toNat = 2 := z_gq_n hk_to
        have hh_gi : 0 ≤ gi ∧ gi < 4 → z_gr a gi.toNat = some (a 6) := fun h => by rw [hq_gi h]; rfl
        have hh_hi_ : 0 ≤ hi_ ∧ hi_ < 4 → z_gr a hi_.toNat = some (a 2) := fun h => by rw [hq_hi_ h]; rfl
        have hh_to : 0 ≤ to ∧ to < 4 → z_gr a to.toNat = some (a 10) := fun h => by rw [hq_to h]; rfl
        exact z_lm0i (mt_X7_difference_e l D cA (a 0) (a 1) (z_gr a) (a 18) (u.2.2 0) (a 19) (a 23) (a 24) gi hi_ to (a 6) (a 7) (u.1 7) (a 8) (u.1 8) (a 9) (u.1 9) (u.2.2 2) (a 2) (a 3) (u.1 3) (a 4) (u.1 4) (a 5) (u.1 5) (u.2.2 1) (a 10) (a 11) (u.1 11) (a 12) (u.1 12) (a 13) (u.1 13) (u.2.2 3) (hu _) h_gi h_hi_ h_to (hu _) (hu _) (hu _) (hh_gi) (hh_hi_) (hh_to) hp1 hp2) [0, 1, 6, 7, 8, 9, 2, 3, 4, 5, 10, 11, 12, 13] [1, 2, 7, 8, 9, 10, 3, 4, 5, 6, 11, 12, 13, 14] rfl rfl rfl (fun _ => rfl) (fun v u1 h => ⟨_, ⟨u1.1, u1.2.1, u1.2.2.1, u1.2.2.2, h.1, h.2, rfl⟩, rfl⟩)
      · subst hz
        have hq_to : 0 ≤ to ∧ to < 4 → to.toNat = 3 := z_gq_n hk_to
        have hh_gi : 0 ≤ gi ∧ gi < 4 → z_gr a gi.toNat = some (a 6) := fun h => by rw [hq_gi h]; rfl
        have hh_hi_ : 0 ≤ hi_ ∧ hi_ < 4 → z_gr a hi_.toNat = some (a 2) := fun h => by rw [hq_hi_ h]; rfl
        have hh_to : 0 ≤ to ∧ to < 4 → z_gr a to.toNat = some (a 14) := fun h => by rw [hq_to h]; rfl
        exact z_lm0i (mt_X7_difference_e l D cA (a 0) (a 1) (z_gr a) (a 18) (u.2.2 0) (a 19) (a 23) (a 24) gi hi_ to (a 6) (a 7) (u.1 7) (a 8) (u.1 8) (a 9) (u.1 9) (u.2.2 2) (a 2) (a 3) (u.1 3) (a 4) (u.1 4) (a 5) (u.1 5) (u.2.2 1) (a 14) (a 15) (u.1 15) (a 16) (u.1 16) (a 17) (u.1 17) (u.2.2 4) (hu _) h_gi h_hi_ h_to (hu _) (hu _) (hu _) (hh_gi) (hh_hi_) (hh_to) hp1 hp2) [0, 1, 6, 7, 8, 9, 2, 3, 4, 5, 14, 15, 16, 17] [1, 2, 7, 8, 9, 10, 3, 4, 5, 6, 0, 0, 0, 0, 11, 12, 13, 14] rfl rfl rfl (fun _ => rfl) (fun v u1 h => ⟨_, ⟨u1.1, u1.2.1, u1.2.2.1, u1.2.2.2, h.1, h.2, rfl⟩, rfl⟩)
    · subst hz
      have hq_hi_ : 0 ≤ hi_ ∧ hi_ < 4 → hi_.toNat = 1 := z_gq_n hk_hi_
      exact absurd rfl hne_g_h
    · subst hz
      have hq_hi_ : 0 ≤ hi_ ∧ hi_ < 4 → hi_.toNat = 2 := z_gq_n hk_hi_
      rcases z_gq_4 hk_to with hz | hz | hz | hz
      · subst hz
        have hq_to : 0 ≤ to ∧ to < 4 → to.toNat = 0 := z_gq_n hk_to
        have hh_gi : 0 ≤ gi ∧ gi < 4 → z_gr a gi.toNat = some (a 6) := fun h => by rw [hq_gi h]; rfl
        have hh_hi_ : 0 ≤ hi_ ∧ hi_ < 4 → z_gr a hi_.toNat = some (a 10) := fun h => by rw [hq_hi_ h]; rfl
        have hh_to : 0 ≤ to ∧ to < 4 → z_gr a to.toNat = some (a 2) := fun h => by rw [hq_to h]; rfl
        exact z_lm0i (mt_X7_difference_e l D cA (a 0) (a 1) (z_gr a) (a 18) (u.2.2 0) (a 19) (a 23) (a 24) gi hi_ to (a 6) (a 7) (u.1 7) (a 8) (u.1 8) (a 9) (u.1 9) (u.2.2 2) (a 10) (a 11) (u.1 11) (a 12) (u.1 12) (a 13) (u.1 13) (u.2.2 3) (a 2) (a 3) (u.1 3) (a 4) (u.1 4) (a 5) (u.1 5) (u.2.2 1) (hu _) h_gi h_hi_ h_to (hu _) (hu _) (hu _) (hh_gi) (hh_hi_) (hh_to) hp1 hp2) [0, 1, 6, 7, 8, 9, 10, 11, 12, 13, 2, 3, 4, 5] [1, 2, 11, 12, 13, 14, 3, 4, 5, 6, 7, 8, 9, 10] rfl rfl rfl (fun _ => rfl) (fun v u1 h => ⟨_, ⟨u1.1, u1.2.1, u1.2.2.1, u1.2.2.2, h.1, h.2, rfl⟩, rfl⟩)
      · subst hz
        have hq_to : 0 ≤ to ∧ to < 4 → to.toNat = 1 := z_gq_n hk_to
        exact absurd rfl hne_g_o
      · subst hz
        have hq_to : 0 ≤ to ∧ to < 4 → to.toNat = 2 := z_gq_n hk_to
        exact absurd rfl hne_h_o
      · subst hz
        have hq_to : 0 ≤ to ∧ to < 4 → to.toNat = 3 := z_gq_n hk_to
        have hh_gi : 0 ≤ gi ∧ gi < 4 → z_gr a gi.toNat = some (a 6) := fun h => by rw [hq_gi h]; rfl
        have hh_hi_ : 0 ≤ hi_ ∧ hi_ < 4 → z_gr a hi_.toNat = some (a 10) := fun h => by rw [hq_hi_ h]; rfl
        have hh_to : 0 ≤ to ∧ to < 4 → z_gr a to.toNat = some (a 14) := fun h => by rw [hq_to h]; rfl
        exact z_lm0i (mt_X7_difference_e l D cA (a 0) (a 1) (z_gr a) (a 18) (u.2.2 0) (a 19) (a 23) (a 24) gi hi_ to (a 6) (a 7) (u.1 7) (a 8) (u.1 8) (a 9) (u.1 9) (u.2.2 2) (a 10) (a 11) (u.1 11) (a 12) (u.1 12) (a 13) (u.1 13) (u.2.2 3) (a 14) (a 15) (u.1 15) (a 16) (u.1 16) (a 17) (u.1 17) (u.2.2 4) (hu _) h_gi h_hi_ h_to (hu _) (hu _) (hu _) (hh_gi) (hh_hi_) (hh_to) hp1 hp2) [0, 1, 6, 7, 8, 9, 10, 11, 12, 13, 14, 15, 16, 17] [1, 2, 0, 0, 0, 0, 3, 4, 5, 6, 7, 8, 9, 10, 11, 12, 13, 14] rfl rfl rfl (fun _ => rfl) (fun v u1 h => ⟨_, ⟨u1.1, u1.2.1, u1.2.2.1, u1.2.2.2, h.1, h.2, rfl⟩, rfl⟩)
    · subst hz
      have hq_hi_ : 0 ≤ hi_ ∧ hi_ < 4 → hi_.toNat = 3 := z_gq_n hk_hi_
      rcases z_gq_4 hk_to with hz | hz | hz | hz
      · subst hz
        have hq_to : 0 ≤ to ∧ to < 4 → to.toNat = 0 := z_gq_n hk_to
        have hh_gi : 0 ≤ gi ∧ gi < 4 → z_gr a gi.toNat = some (a 6) := fun h => by rw [hq_gi h]; rfl
        have hh_hi_ : 0 ≤ hi_ ∧ hi_ < 4 → z_gr a hi_.toNat = some (a 14) := fun h => by rw [hq_hi_ h]; rfl
        have hh_to : 0 ≤ to ∧ to < 4 → z_gr a to.toNat = some (a 2) := fun h => by rw [hq_to h]; rfl
        exact z_lm0i (mt_X7_difference_e l D cA (a 0) (a 1) (z_gr a) (a 18) (u.2.2 0) (a 19) (a 23) (a 24) gi hi_ to (a 6) (a 7) (u.1 7) (a 8) (u.1 8) (a 9) (u.1 9) (u.2.2 2) (a 14) (a 15) (u.1 15) (a 16) (u.1 16) (a 17) (u.1 17) (u.2.2 4) (a 2) (a 3) (u.1 3) (a 4) (u.1 4) (a 5) (u.1 5) (u.2.2 1) (hu _) h_gi h_hi_ h_to (hu _) (hu _) (hu _) (hh_gi) (hh_hi_) (hh_to) hp1 hp2) [0, 1, 6, 7, 8, 9, 14, 15, 16, 17, 2, 3, 4, 5] [1, 2, 11, 12, 13, 14, 3, 4, 5, 6, 0, 0, 0, 0, 7, 8, 9, 10] rfl rfl rfl (fun _ => rfl) (fun v u1 h => ⟨_, ⟨u1.1, u1.2.1, u1.2.2.1, u1.2.2.2, h.1, h.2, rfl⟩, rfl⟩)
      · subst hz
        have hq_to : 0 ≤ to ∧ to < 4 → to.toNat = 1 := z_gq_n hk_to
        exact absurd rfl hne_g_o
      · subst hz
        have hq_to : 0 ≤ to ∧ to < 4 → to.toNat = 2 := z_gq_n hk_to
        have hh_gi : 0 ≤ gi ∧ gi < 4 → z_gr a gi.toNat = some (a 6) := fun h => by rw [hq_gi h]; rfl
        have hh_hi_ : 0 ≤ hi_ ∧ hi_ < 4 → z_gr a hi_.toNat = some (a 14) := fun h => by rw [hq_hi_ h]; rfl
        have hh_to : 0 ≤ to ∧ to < 4 → z_gr a to.toNat = some (a 10) := fun h => by rw [hq_to h]; rfl
        exact z_lm0i (mt_X7_difference_e l D cA (a 0) (a 1) (z_gr a) (a 18) (u.2.2 0) (a 19) (a 23) (a 24) gi hi_ to (a 6) (a 7) (u.1 7) (a 8) (u.1 8) (a 9) (u.1 9) (u.2.2 2) (a 14) (a 15) (u.1 15) (a 16) (u.1 16) (a 17) (u.1 17) (u.2.2 4) (a 10) (a 11) (u.1 11) (a 12) (u.1 12) (a 13) (u.1 13) (u.2.2 3) (hu _) h_gi h_hi_ h_to (hu _) (hu _) (hu _) (hh_gi) (hh_hi_) (hh_to) hp1 hp2) [0, 1, 6, 7, 8, 9, 14, 15, 16, 17, 10, 11, 12, 13] [1, 2, 0, 0, 0, 0, 3, 4, 5, 6, 11, 12, 13, 14, 7, 8, 9, 10] rfl rfl rfl (fun _ => rfl) (fun v u1 h => ⟨_, ⟨u1.1, u1.2.1, u1.2.2.1, u1.2.2.2, h.1, h.2, rfl⟩, rfl⟩)
      · subst hz
        have hq_to : 0 ≤ to ∧ to < 4 → to.toNat = 3 := z_gq_n hk_to
        exact absurd rfl hne_h_o
  · subst hz
    have hq_gi : 0 ≤ gi ∧ gi < 4 → gi.toNat = 2 := z_gq_n hk_gi
    rcases z_gq_4 hk_hi_ with hz | hz | hz | hz
    · subst hz
      have hq_hi_ : 0 ≤ hi_ ∧ hi_ < 4 → hi_.toNat = 0 := z_gq_n hk_hi_
      rcases z_gq_4 hk_to with hz | hz | hz | hz
      · subst hz
        have hq_to : 0 ≤ to ∧ to < 4 → to.toNat = 0 := z_gq_n hk_to
        exact absurd rfl hne_h_o
      · subst hz
        have hq_to : 0 ≤ to ∧ to < 4 → to.toNat = 1 := z_gq_n hk_to
        have hh_gi : 0 ≤ gi ∧ gi < 4 → z_gr a gi.toNat = some (a 10) := fun h => by rw [hq_gi h]; rfl
        have hh_hi_ : 0 ≤ hi_ ∧ hi_ < 4 → z_gr a hi_.toNat = some (a 2) := fun h => by rw [hq_hi_ h]; rfl
        have hh_to : 0 ≤ to ∧ to < 4 → z_gr a to.toNat = some (a 6) := fun h => by rw [hq_to h]; rfl
        exact z_lm0i (mt_X7_difference_e l D cA (a 0) (a 1) (z_gr a) (a 18) (u.2.2 0) (a 19) (a 23) (a 24) gi hi_ to (a 10) (a 11) (u.1 11) (a 12) (u.1 12) (a 13) (u.1 13) (u.2.2 3) (a 2) (a 3) (u.1 3) (a 4) (u.1 4) (a 5) (u.1 5) (u.2.2 1) (a 6) (a 7) (u.1 7) (a 8) (u.1 8) (a 9) (u.1 9) (u.2.2 2) (hu _) h_gi h_hi_ h_to (hu _) (hu _) (hu _) (hh_gi) (hh_hi_) (hh_to) hp1 hp2) [0, 1, 10, 11, 12, 13, 2, 3, 4, 5, 6, 7, 8, 9] [1, 2, 7, 8, 9, 10, 11, 12, 13, 14, 3, 4, 5, 6] rfl rfl rfl (fun _ => rfl) (fun v u1 h => ⟨_, ⟨u1.1, u1.2.1, u1.2.2.1, u1.2.2.2, h.1, h.2, rfl⟩, rfl⟩)
      · subst hz
        have hq_to : 0 ≤ to ∧ to < 4 → to.toNat = 2 := z_gq_n hk_to
        exact absurd rfl hne_g_o
      · subst hz
        have hq_to : 0 ≤ to ∧ to < 4 → to.toNat = 3 := z_gq_n hk_to
        have hh_gi : 0 ≤ gi ∧ gi < 4 → z_gr a gi.toNat = some (a 10) := fun h => by rw [hq_gi h]; rfl
        have hh_hi_ : 0 ≤ hi_ ∧ hi_ < 4 → z_gr a hi_.toNat = some (a 2) := fun h => by rw [hq_hi_ h]; rfl
        have hh_to : 0 ≤ to ∧ to < 4 → z_gr a to.toNat = some (a 14) := fun h => by rw [hq_to h]; rfl
        exact z_lm0i (mt_X7_difference_e l D cA (a 0) (a 1) (z_gr a) (a 18) (u.2.2 0) (a 19) (a 23) (a 24) gi hi_ to (a 10) (a 11) (u.1 11) (a 12) (u.1 12) (a 13) (u.1 13) (u.2.2 3) (a 2) (a 3) (u.1 3) (a 4) (u.1 4) (a 5) (u.1 5) (u.2.2 1) (a 14) (a 15) (u.1 15) (a 16) (u.1 16) (a 17) (u.1 17) (u.2.2 4) (hu _) h_gi h_hi_ h_to (hu _) (hu _) (hu _) (hh_gi) (hh_hi_) (hh_to) hp1 hp2) [0, 1, 10, 11, 12, 13, 2, 3, 4, 5, 14, 15, 16, 17] [1, 2, 7, 8, 9, 10, 0, 0, 0, 0, 3, 4, 5, 6, 11, 12, 13, 14] rfl rfl rfl (fun _ => rfl) (fun v u1 h => ⟨_, ⟨u1.1, u1.2.1, u1.2.2.1, u1.2.2.2, h.1, h.2, rfl⟩, rfl⟩)
    · subst hz
      have hq_hi_ : 0 ≤ hi_ ∧ hi_ < 4 → hi_.toNat = 1 := z_gq_n hk_hi_
      rcases z_gq_4 hk_to with hz | hz | hz | hz
      · subst hz
        have hq_to : 0 ≤ to ∧ to < 4 → to.toNat = 0 := z_gq_n hk_to
        have hh_gi : 0 ≤ gi ∧ gi < 4 → z_gr a gi.toNat = some (a 10) := fun h => by rw [hq_gi h]; rfl
        have hh_hi_ : 0 ≤ hi_ ∧ hi_ < 4 → z_gr a hi_.toNat = some (a 6) := fun h => by rw [hq_hi_ h]; rfl
        have hh_to : 0 ≤ to ∧ to < 4 → z_gr a to.toNat = some (a 2) := fun h => by rw [hq_to h]; rfl
        exact z_lm0i (mt_X7_difference_e l D cA (a 0) (a 1) (z_gr a) (a 18) (u.2.2 0) (a 19) (a 23) (a 24) gi hi_ to (a 10) (a 11) (u.1 11) (a 12) (u.1 12) (a 13) (u.1 13) (u.2.2 3) (a 6) (a 7) (u.1 7) (a 8) (u.1 8) (a 9) (u.1 9) (u.2.2 2) (a 2) (a 3) (u.1 3) (a 4) (u.1 4) (a 5) (u.1 5) (u.2.2 1) (hu _) h_gi h_hi_ h_to (hu _) (hu _) (hu _) (hh_gi) (hh_hi_) (hh_to) hp1 hp2) [0, 1, 10, 11, 12, 13, 6, 7, 8, 9, 2, 3, 4, 5] [1, 2, 11, 12, 13, 14, 7, 8, 9, 10, 3, 4, 5, 6] rfl rfl rfl (fun _ => rfl) (fun v u1 h => ⟨_, ⟨u1.1, u1.2.1, u1.2.2.1, u1.2.2.2, h.1, h.2, rfl⟩, rfl⟩)
      · subst hz
        have hq_to : 0 ≤ to ∧ to < 4 → to.toNat = 1 := z_gq_n hk_to
        exact absurd rfl hne_h_o
      · subst hz
        have hq_to : 0 ≤ to ∧ to < 4 → to.toNat = 2 := z_gq_n hk_to
        exact absurd rfl hne_g_o
      · subst hz
        have hq_to : 0 ≤ to ∧ to < 4 → to.toNat = 3 := z_gq_n hk_to
        have hh_gi : 0 ≤ gi ∧ gi < 4 → z_gr a gi.toNat = some (a 10) := fun h => by rw [hq_gi h]; rfl
        have hh_hi_ : 0 ≤ hi_ ∧ hi_ < 4 → z_gr a hi_.toNat = some (a 6) := fun h => by rw [hq_hi_ h]; rfl
        have hh_to : 0 ≤ to ∧ to < 4 → z_gr a to.toNat = some (a 14) := fun h => by rw [hq_to h]; rfl
        exact z_lm0i (mt_X7_difference_e l D cA (a 0) (a 1) (z_gr a) (a 18) (u.2.2 0) (a 19) (a 23) (a 24) gi hi_ to (a 10) (a 11) (u.1 11) (a 12) (u.1 12) (a 13) (u.1 13) (u.2.2 3) (a 6) (a 7) (u.1 7) (a 8) (u.1 8) (a 9) (u.1 9) (u.2.2 2) (a 14) (a 15) (u.1 15) (a 16) (u.1 16) (a 17) (u.1 17) (u.2.2 4) (hu _) h_gi h_hi_ h_to (hu _) (hu _) (hu _) (hh_gi) (hh_hi_) (hh_to) hp1 hp2) [0, 1, 10, 11, 12, 13, 6, 7, 8, 9, 14, 15, 16, 17] [1, 2, 0, 0, 0, 0, 7, 8, 9, 10, 3, 4, 5, 6, 11, 12, 13, 14] rfl rfl rfl (fun _ => rfl) (fun v u1 h => ⟨_, ⟨u1.1, u1.2.1, u1.2.2.1, u1.2.2.2, h.1, h.2, rfl⟩, rfl⟩)
    · subst hz
      have hq_hi_ : 0 ≤ hi_ ∧ hi_ < 4 → hi_.toNat = 2 := z_gq_n hk_hi_
      exact absurd rfl hne_g_h
    · subst hz
      have hq_hi_ : 0 ≤ hi_ ∧ hi_ < 4 → hi_.toNat = 3 := z_gq_n hk_hi_
      rcases z_gq_4 hk_to with hz | hz | hz | hz
      · subst hz
        have hq_to : 0 ≤ to ∧ to < 4 → to.toNat = 0 := z_gq_n hk_to
        have hh_gi : 0 ≤ gi ∧ gi < 4 → z_gr a gi.toNat = some (a 10) := fun h => by rw [hq_gi h]; rfl
        have hh_hi_ : 0 ≤ hi_ ∧ hi_ < 4 → z_gr a hi_.toNat = some (a 14) := fun h => by rw [hq_hi_ h]; rfl
        have hh_to : 0 ≤ to ∧ to < 4 → z_gr a to.toNat = some (a 2) := fun h => by rw [hq_to h]; rfl
        exact z_lm0i (mt_X7_difference_e l D cA (a 0) (a 1) (z_gr a) (a 18) (u.2.2 0) (a 19) (a 23) (a 24) gi hi_ to (a 10) (a 11) (u.1 11) (a 12) (u.1 12) (a 13) (u.1 13) (u.2.2 3) (a 14) (a 15) (u.1 15) (a 16) (u.1 16) (a 17) (u.1 17) (u.2.2 4) (a 2) (a 3) (u.1 3) (a 4) (u.1 4) (a 5) (u.1 5) (u.2.2 1) (hu _) h_gi h_hi_ h_to (hu _) (hu _) (hu _) (hh_gi) (hh_hi_) (hh_to) hp1 hp2) [0, 1, 10, 11, 12, 13, 14, 15, 16, 17, 2, 3, 4, 5] [1, 2, 11, 12, 13, 14, 0, 0, 0, 0, 3, 4, 5, 6, 7, 8, 9, 10] rfl rfl rfl (fun _ => rfl) (fun v u1 h => ⟨_, ⟨u1.1, u1.2.1, u1.2.2.1, u1.2.2.2, h.1, h.2, rfl⟩, rfl⟩)
      · subst hz
        have hq_to : 0 ≤ to ∧ to < 4 → to.toNat = 1 := z_gq_n hk_to
        have hh_gi : 0 ≤ gi ∧ gi < 4 → z_gr a gi.toNat = some (a 10) := fun h => by rw [hq_gi h]; rfl
        have hh_hi_ : 0 ≤ hi_ ∧ hi_ < 4 → z_gr a hi_.toNat = some (a 14) := fun h => by rw [hq_hi_ h]; rfl
        have hh_to : 0 ≤ to ∧ to < 4 → z_gr a to.toNat = some (a 6) := fun h => by rw [hq_to h]; rfl
        exact z_lm0i (mt_X7_difference_e l D cA (a 0) (a 1) (z_gr a) (a 18) (u.2.2 0) (a 19) (a 23) (a 24) gi hi_ to (a 10) (a 11) (u.1 11) (a 12) (u.1 12) (a 13) (u.1 13) (u.2.2 3) (a 14) (a 15) (u.1 15) (a 16) (u.1 16) (a 17) (u.1 17) (u.2.2 4) (a 6) (a 7) (u.1 7) (a 8) (u.1 8) (a 9) (u.1 9) (u.2.2 2) (hu _) h_gi h_hi_ h_to (hu _) (hu _) (hu _) (hh_gi) (hh_hi_) (hh_to) hp1 hp2) [0, 1, 10, 11, 12, 13, 14, 15, 16, 17, 6, 7, 8, 9] [1, 2, 0, 0, 0, 0, 11, 12, 13, 14, 3, 4, 5, 6, 7, 8, 9, 10] rfl rfl rfl (fun _ => rfl) (fun v u1 h => ⟨_, ⟨u1.1, u1.2.1, u1.2.2.1, u1.2.2.2, h.1, h.2, rfl⟩, rfl⟩)
      · subst hz
        have hq_to : 0 ≤ to ∧ to < 4 → to.toNat = 2 := z_gq_n hk_to
        exact absurd rfl hne_g_o
      · subst hz
        have hq_to : 0 ≤ to ∧ to < 4 → to.toNat = 3 := z_gq_n hk_to
        exact absurd rfl hne_h_o
  · subst hz
    have hq_gi : 0 ≤ gi ∧ gi < 4 → gi.toNat = 3 := z_gq_n hk_gi
    rcases z_gq_4 hk_hi_ with hz | hz | hz | hz
    · subst hz
      have hq_hi_ : 0 ≤ hi_ ∧ hi_ < 4 → hi_.toNat = 0 := z_gq_n hk_hi_
      rcases z_gq_4 hk_to with hz | hz | hz | hz
      · subst hz
        have hq_to : 0 ≤ to ∧ to < 4 → to.toNat = 0 := z_gq_n hk_to
        exact absurd rfl hne_h_o
      · subst hz
        have hq_to : 0 ≤ to ∧ to < 4 → to.toNat = 1 := z_gq_n hk_to
        have hh_gi : 0 ≤ gi ∧ gi < 4 → z_gr a gi.toNat = some (a 14) := fun h => by rw [hq_gi h]; rfl
        have hh_hi_ : 0 ≤ hi_ ∧ hi_ < 4 → z_gr a hi_.toNat = some (a 2) := fun h => by rw [hq_hi_ h]; rfl
        have hh_to : 0 ≤ to ∧ to < 4 → z_gr a to.toNat = some (a 6) := fun h => by rw [hq_to h]; rfl
        exact z_lm0i (mt_X7_difference_e l D cA (a 0) (a 1) (z_gr a) (a 18) (u.2.2 0) (a 19) (a 23) (a 24) gi hi_ to (a 14) (a 15) (u.1 15) (a 16) (u.1 16) (a 17) (u.1 17) (u.2.2 4) (a 2) (a 3) (u.1 3) (a 4) (u.1 4) (a 5) (u.1 5) (u.2.2 1) (a 6) (a 7) (u.1 7) (a 8) (u.1 8) (a 9) (u.1 9) (u.2.2 2) (hu _) h_gi h_hi_ h_to (hu _) (hu _) (hu _) (hh_gi) (hh_hi_) (hh_to) hp1 hp2) [0, 1, 14, 15, 16, 17, 2, 3, 4, 5, 6, 7, 8, 9] [1, 2, 7, 8, 9, 10, 11, 12, 13, 14, 0, 0, 0, 0, 3, 4, 5, 6] rfl rfl rfl (fun _ => rfl) (fun v u1 h => ⟨_, ⟨u1.1, u1.2.1, u1.2.2.1, u1.2.2.2, h.1, h.2, rfl⟩, rfl⟩)
      · subst hz
        have hq_to : 0 ≤ to ∧ to < 4 → to.toNat = 2 := z_gq_n hk_to
        have hh_gi : 0 ≤ gi ∧ gi < 4 → z_gr a gi.toNat = some (a 14) := fun h => by rw [hq_gi h]; rfl
        have hh_hi_ : 0 ≤ hi_ ∧ hi_ < 4 → z_gr a hi_.toNat = some (a 2) := fun h => by rw [hq_hi_ h]; rfl
        have hh_to : 0 ≤ to ∧ to < 4 → z_gr a to.toNat = some (a 10) := fun h => by rw [hq_to h]; rfl
        exact z_lm0i (mt_X7_difference_e l D cA (a 0) (a 1) (z_gr a) (a 18) (u.2.2 0) (a 19) (a 23) (a 24) gi hi_ to (a 14) (a 15) (u.1 15) (a 16) (u.1 16) (a 17) (u.1 17) (u.2.2 4) (a 2) (a 3) (u.1 3) (a 4) (u.1 4) (a 5) (u.1 5) (u.2.2 1) (a 10) (a 11) (u.1 11) (a 12) (u.1 12) (a 13) (u.1 13) (u.2.2 3) (hu _) h_gi h_hi_ h_to (hu _) (hu _) (hu _) (hh_gi) (hh_hi_) (hh_to) hp1 hp2) [0, 1, 14, 15, 16, 17, 2, 3, 4, 5, 10, 11, 12, 13] [1, 2, 7, 8, 9, 10, 0, 0, 0, 0, 11, 12, 13, 14, 3, 4, 5, 6] rfl rfl rfl (fun _ => rfl) (fun v u1 h => ⟨_, ⟨u1.1, u1.2.1, u1.2.2.1, u1.2.2.2, h.1, h.2, rfl⟩, rfl⟩)
      · subst hz
        have hq_to : 0 ≤ to ∧ to < 4 → to.toNat = 3 := z_gq_n hk_to
        exact absurd rfl hne_g_o
    · subst hz
      have hq_hi_ : 0 ≤ hi_ ∧ hi_ < 4 → hi_.toNat = 1 := z_gq_n hk_hi_
      rcases z_gq_4 hk_to with hz | hz | hz | hz
      · subst hz
        have hq_to : 0 ≤ to ∧ to < 4 → to.toNat = 0 := z_gq_n hk_to
        have hh_gi : 0 ≤ gi ∧ gi < 4 → z_gr a gi.toNat = some (a 14) := fun h => by rw [hq_gi h]; rfl
        have hh_hi_ : 0 ≤ hi_ ∧ hi_ < 4 → z_gr a hi_.toNat = some (a 6) := fun h => by rw [hq_hi_ h]; rfl
        have hh_to : 0 ≤ to ∧ to < 4 → z_gr a to.toNat = some (a 2) := fun h => by rw [hq_to h]; rfl
        exact z_lm0i (mt_X7_difference_e l D cA (a 0) (a 1) (z_gr a) (a 18) (u.2.2 0) (a 19) (a 23) (a 24) gi hi_ to (a 14) (a 15) (u.1 15) (a 16) (u.1 16) (a 17) (u.1 17) (u.2.2 4) (a 6) (a 7) (u.1 7) (a 8) (u.1 8) (a 9) (u.1 9) (u.2.2 2) (a 2) (a 3) (u.1 3) (a 4) (u.1 4) (a 5) (u.1 5) (u.2.2 1) (hu _) h_gi h_hi_ h_to (hu _) (hu _) (hu _) (hh_gi) (hh_hi_) (hh_to) hp1 hp2) [0, 1, 14, 15, 16, 17, 6, 7, 8, 9, 2, 3, 4, 5] [1, 2, 11, 12, 13, 14, 7, 8, 9, 10, 0, 0, 0, 0, 3, 4, 5, 6] rfl rfl rfl (fun _ => rfl) (fun v u1 h => ⟨_, ⟨u1.1, u1.2.1, u1.2.2.1, u1.2.2.2, h.1, h.2, rfl⟩, rfl⟩)
      · subst hz
        have hq_to : 0 ≤ to ∧ to < 4 → to.toNat = 1 := z_gq_n hk_to
        exact absurd rfl hne_h_o
      · subst hz
        have hq_to : 0 ≤ to ∧ to < 4 → to.toNat = 2 := z_gq_n hk_to
        have hh_gi : 0 ≤ gi ∧ gi < 4 → z_gr a gi.toNat = some (a 14) := fun h => by rw [hq_gi h]; rfl
        have hh_hi_ : 0 ≤ hi_ ∧ hi_ < 4 → z_gr a hi_.toNat = some (a 6) := fun h => by rw [hq_hi_ h]; rfl
        have hh_to : 0 ≤ to ∧ to < 4 → z_gr a to.toNat = some (a 10) := fun h => by rw [hq_to h]; rfl
        exact z_lm0i (mt_X7_difference_e l D cA (a 0) (a 1) (z_gr a) (a 18) (u.2.2 0) (a 19) (a 23) (a 24) gi hi_ to (a 14) (a 15) (u.1 15) (a 16) (u.1 16) (a 17) (u.1 17) (u.2.2 4) (a 6) (a 7) (u.1 7) (a 8) (u.1 8) (a 9) (u.1 9) (u.2.2 2) (a 10) (a 11) (u.1 11) (a 12) (u.1 12) (a 13) (u.1 13) (u.2.2 3) (hu _) h_gi h_hi_ h_to (hu _) (hu _) (hu _) (hh_gi) (hh_hi_) (hh_to) hp1 hp2) [0, 1, 14, 15, 16, 17, 6, 7, 8, 9, 10, 11, 12, 13] [1, 2, 0, 0, 0, 0, 7, 8, 9, 10, 11, 12, 13, 14, 3, 4, 5, 6] rfl rfl rfl (fun _ => rfl) (fun v u1 h => ⟨_, ⟨u1.1, u1.2.1, u1.2.2.1, u1.2.2.2, h.1, h.2, rfl⟩, rfl⟩)
      · subst hz
        have hq_to : 0 ≤ to ∧ to < 4 → to.toNat = 3 := z_gq_n hk_to
        exact absurd rfl hne_g_o
    · subst hz
      have hq_hi_ : 0 ≤ hi_ ∧ hi_ < 4 → hi_.toNat = 2 := z_gq_n hk_hi_
      rcases z_gq_4 hk_to with hz | hz | hz | hz
      · subst hz
        have hq_to : 0 ≤ to ∧ to < 4 → to.toNat = 0 := z_gq_n hk_to
        have hh_gi : 0 ≤ gi ∧ gi < 4 → z_gr a gi.toNat = some (a 14) := fun h => by rw [hq_gi h]; rfl
        have hh_hi_ : 0 ≤ hi_ ∧ hi_ < 4 → z_gr a hi_.toNat = some (a 10) := fun h => by rw [hq_hi_ h]; rfl
        have hh_to : 0 ≤ to ∧ to < 4 → z_gr a to.toNat = some (a 2) := fun h => by rw [hq_to h]; rfl
        exact z_lm0i (mt_X7_difference_e l D cA (a 0) (a 1) (z_gr a) (a 18) (u.2.2 0) (a 19) (a 23) (a 24) gi hi_ to (a 14) (a 15) (u.1 15) (a 16) (u.1 16) (a 17) (u.1 17) (u.2.2 4) (a 10) (a 11) (u.1 11) (a 12) (u.1 12) (a 13) (u.1 13) (u.2.2 3) (a 2) (a 3) (u.1 3) (a 4) (u.1 4) (a 5) (u.1 5) (u.2.2 1) (hu _) h_gi h_hi_ h_to (hu _) (hu _) (hu _) (hh_gi) (hh_hi_) (hh_to) hp1 hp2) [0, 1, 14, 15, 16, 17, 10, 11, 12, 13, 2, 3, 4, 5] [1, 2, 11, 12, 13, 14, 0, 0, 0, 0, 7, 8, 9, 10, 3, 4, 5, 6] rfl rfl rfl (fun _ => rfl) (fun v u1 h => ⟨_, ⟨u1.1, u1.2.1, u1.2.2.1, u1.2.2.2, h.1, h.2, rfl⟩, rfl⟩)
      · subst hz
        have hq_to : 0 ≤ to ∧ to < 4 → to.toNat = 1 := z_gq_n hk_to
        have hh_gi : 0 ≤ gi ∧ gi < 4 → z_gr a gi.toNat = some (a 14) := fun h => by rw [hq_gi h]; rfl
        have hh_hi_ : 0 ≤ hi_ ∧ hi_ < 4 → z_gr a hi_.toNat = some (a 10) := fun h => by rw [hq_hi_ h]; rfl
        have hh_to : 0 ≤ to ∧ to < 4 → z_gr a to.toNat = some (a 6) := fun h => by rw [hq_to h]; rfl
        exact z_lm0i (mt_X7_difference_e l D cA (a 0) (a 1) (z_gr a) (a 18) (u.2.2 0) (a 19) (a 23) (a 24) gi hi_ to (a 14) (a 15) (u.1 15) (a 16) (u.1 16) (a 17) (u.1 17) (u.2.2 4) (a 10) (a 11) (u.1 11) (a 12) (u.1 12) (a 13) (u.1 13) (u.2.2 3) (a 6) (a 7) (u.1 7) (a 8) (u.1 8) (a 9) (u.1 9) (u.2.2 2) (hu _) h_gi h_hi_ h_to (hu _) (hu _) (hu _) (hh_gi) (hh_hi_) (hh_to) hp1 hp2) [0, 1, 14, 15, 16, 17, 10, 11, 12, 13, 6, 7, 8, 9] [1, 2, 0, 0, 0, 0, 11, 12, 13, 14, 7, 8, 9, 10, 3, 4, 5, 6] rfl rfl rfl (fun _ => rfl) (fun v u1 h => ⟨_, ⟨u1.1, u1.2.1, u1.2.2.1, u1.2.2.2, h.1, h.2, rfl⟩, rfl⟩)
      · subst hz
        have hq_to : 0 ≤ to ∧ to < 4 → to.toNat = 2 := z_gq_n hk_to
        exact absurd rfl hne_h_o
      · subst hz
        have hq_to : 0 ≤ to ∧ to < 4 → to.toNat = 3 := z_gq_n hk_to
        exact absurd rfl hne_g_o
    · subst hz
      have hq_hi_ : 0 ≤ hi_ ∧ hi_ < 4 → hi_.toNat = 3 := z_gq_n hk_hi_
      exact absurd rfl hne_g_h
