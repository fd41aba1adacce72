/-! contracts over some cells are contracts over a world that has these cells -/
theorem z_conseq {l : Launch} {y : MethodName} {ws : List Cond} {rm : Room} {Pc Pc' : Array Value → State → Prop} {Qc Qc' : Array Value → State → Outcome → State → Prop} {mc ms : Nat} {free free' : Addr → Prop} (M : Met l y ws rm Pc Qc mc ms free) (hP : ∀ a s, Pc' a s → Pc a s) (hQ : ∀ a s o t, Pc' a s → Qc a s o t → Qc' a s o t) (hf : ∀ q, free q → free' q) : Met l y ws rm Pc' Qc' mc ms free' := by
  intro p e h1 h2 h3 s m args below hfr happ hp hk
  obtain ⟨n, o, a, b, c, q, L, fe, fl⟩ := M p e h1 h2 h3 s m args below hfr happ (hP _ _ hp) hk
  exact ⟨n, o, a, b, c, hQ _ _ _ _ hp q, L, fe, fun q hq => hf _ (fl q hq)⟩
theorem z_fm {α β : Type} {f : α → Option β} : ∀ {is : List α} {wc : List β}, is.map f = wc.map some → is.filterMap f = wc := by
  intro is
  induction is with
  | nil =>
    intro wc h
    cases wc with
    | nil => rfl
    | cons a b => simp at h
  | cons i is ih =>
    intro wc h
    cases wc with
    | nil => simp at h
    | cons a b =>
      rw [List.map_cons, List.map_cons, List.cons.injEq] at h
      rw [List.filterMap_cons_some h.1, ih h.2]
section
variable {l : Launch} {y : MethodName} {ws : List Cond} {rm : Room} {av : List Value} {D : va_G} {cA : Nat → ClassId} {t1 t2 : Nat} {wc W : va_W} {S S' : Type} {w1 : S → va_W} {W' : S' → va_W}
theorem z_pick (is : List Nat) (hC : is.map (fun i => W[i]?) = wc.map some) (hn : va_nd is = true) {U : State} (h : z_M1 D cA t1 t2 W U) : z_M1 D cA t1 t2 wc U := by
  obtain ⟨⟨hK, hP, hD⟩, hST⟩ := h
  refine ⟨⟨hK, hP.sub is (z_fm hC), hD.sub is hn hC⟩, hST.narrow (fun q hq => ?_)⟩
  obtain ⟨k, e, hk⟩ := hq
  have h1 : (wc.map some)[k]? = some (some (q, e)) := by rw [List.getElem?_map, hk]; rfl
  rw [← hC, List.getElem?_map] at h1
  obtain ⟨i, hi, h2⟩ := Option.map_eq_some_iff.mp h1
  exact ⟨i, e, h2⟩
theorem z_pickA (is : List Nat) (hC : is.map (fun i => W[i]?) = wc.map some) (q : Nat) (hq : z_A wc q) : z_A W q := by
  obtain ⟨k, e, hk⟩ := hq
  have h1 : (wc.map some)[k]? = some (some (q, e)) := by rw [List.getElem?_map, hk]; rfl
  rw [← hC, List.getElem?_map] at h1
  obtain ⟨i, hi, h2⟩ := Option.map_eq_some_iff.mp h1
  exact ⟨i, e, h2⟩
theorem z_wF {A B : Nat → Prop} {s t : State} (h : va_F A s t) (hAB : ∀ q, A q → B q) : va_F B s t := ⟨h.1, fun q a b => h.2 q a (fun c => b (hAB q c))⟩
/-- the world behind a call -/
theorem z_behind (is sel : List Nat) (hC : is.map (fun i => W[i]?) = wc.map some) (hs : is.all (fun k => (sel[k]?.getD 0 != 0) && decide (sel[k]?.getD 0 ≤ is.length)) = true) {w2 : va_W} (ha : wc.map Prod.fst = w2.map Prod.fst) {s t : State} (h : z_M1 D cA t1 t2 W s) (hF : va_F (z_A wc) s t) (hB : va_P D vwCl w2 t.heap) : va_P D vwCl (z_mix w2 sel W) t.heap := z_join2 h.1.2.1 h.1.2.2 is sel hC ha hs hF.2 hB
theorem z_lm1i {P : Int → S → Prop} {P' : Int → S' → Prop} (M : Met l y ws rm (va_Pc av (z_M1 D cA t1 t2 wc)) (va_Qi (z_mi P) (fun u t => va_P D vwCl (w1 u) t.heap) (z_A wc)) 0 0 (z_A wc)) (is sel : List Nat) (hC : is.map (fun i => W[i]?) = wc.map some) (hn : va_nd is = true) (hs : is.all (fun k => (sel[k]?.getD 0 != 0) && decide (sel[k]?.getD 0 ≤ is.length)) = true) (ha : ∀ u, wc.map Prod.fst = (w1 u).map Prod.fst) (hw : ∀ v u, P v u → ∃ u', P' v u' ∧ W' u' = z_mix (w1 u) sel W) :
    Met l y ws rm (va_Pc av (z_M1 D cA t1 t2 W)) (va_Qi (z_mi P') (fun u t => va_P D vwCl (W' u) t.heap) (z_A W)) 0 0 (z_A W) := by
  refine z_conseq M (fun a s h => ⟨h.1, z_pick is hC hn h.2⟩) (fun a s o t h q => ?_) (fun q h => z_pickA is hC q h)
  obtain ⟨⟨r, u, ho, ⟨v, hr, hz, hp⟩, hB⟩, hF⟩ := q
  obtain ⟨u', p', e'⟩ := hw v u hp
  exact ⟨⟨r, u', ho, ⟨v, hr, hz, p'⟩, (show va_P D vwCl (W' u') t.heap by rw [e']; exact z_behind is sel hC hs (ha u) h.2 hF hB)⟩, z_wF hF (fun q h => z_pickA is hC q h)⟩
theorem z_lm0i {P : Int → S → Prop} {P' : Int → S' → Prop} (M : Met l y ws rm (va_Pc av (z_M0 D cA wc)) (va_Qi (z_mi P) (fun u t => va_P D vwCl (w1 u) t.heap) (z_A wc)) 0 0 (z_A wc)) (is sel : List Nat) (hC : is.map (fun i => W[i]?) = wc.map some) (hn : va_nd is = true) (hs : is.all (fun k => (sel[k]?.getD 0 != 0) && decide (sel[k]?.getD 0 ≤ is.length)) = true) (ha : ∀ u, wc.map Prod.fst = (w1 u).map Prod.fst) (hw : ∀ v u, P v u → ∃ u', P' v u' ∧ W' u' = z_mix (w1 u) sel W) :
    Met l y ws rm (va_Pc av (z_M1 D cA t1 t2 W)) (va_Qi (z_mi P') (fun u t => va_P D vwCl (W' u) t.heap) (z_A W)) 0 0 (z_A W) :=
  z_lm1i (z_conseq M (fun a s h => ⟨h.1, h.2.1⟩) (fun a s o t h q => q) (fun q h => h)) is sel hC hn hs ha hw
theorem z_lm1l {P : Int → S → Prop} {P' : Int → S' → Prop} (M : Met l y ws rm (va_Pc av (z_M1 D cA t1 t2 wc)) (va_Ql (z_ml P) (fun u t => va_P D vwCl (w1 u) t.heap) (z_A wc)) 0 0 (z_A wc)) (is sel : List Nat) (hC : is.map (fun i => W[i]?) = wc.map some) (hn : va_nd is = true) (hs : is.all (fun k => (sel[k]?.getD 0 != 0) && decide (sel[k]?.getD 0 ≤ is.length)) = true) (ha : ∀ u, wc.map Prod.fst = (w1 u).map Prod.fst) (hw : ∀ v u, P v u → ∃ u', P' v u' ∧ W' u' = z_mix (w1 u) sel W) :
    Met l y ws rm (va_Pc av (z_M1 D cA t1 t2 W)) (va_Ql (z_ml P') (fun u t => va_P D vwCl (W' u) t.heap) (z_A W)) 0 0 (z_A W) := by
  refine z_conseq M (fun a s h => ⟨h.1, z_pick is hC hn h.2⟩) (fun a s o t h q => ?_) (fun q h => z_pickA is hC q h)
  obtain ⟨⟨r, u, ho, ⟨v, hr, hz, hp⟩, hB⟩, hF⟩ := q
  obtain ⟨u', p', e'⟩ := hw v u hp
  exact ⟨⟨r, u', ho, ⟨v, hr, hz, p'⟩, (show va_P D vwCl (W' u') t.heap by rw [e']; exact z_behind is sel hC hs (ha u) h.2 hF hB)⟩, z_wF hF (fun q h => z_pickA is hC q h)⟩
theorem z_lm1v {P : S → Prop} {P' : S' → Prop} (M : Met l y ws rm (va_Pc av (z_M1 D cA t1 t2 wc)) (va_Qv P (fun u t => va_P D vwCl (w1 u) t.heap) (z_A wc)) 0 0 (z_A wc)) (is sel : List Nat) (hC : is.map (fun i => W[i]?) = wc.map some) (hn : va_nd is = true) (hs : is.all (fun k => (sel[k]?.getD 0 != 0) && decide (sel[k]?.getD 0 ≤ is.length)) = true) (ha : ∀ u, wc.map Prod.fst = (w1 u).map Prod.fst) (hw : ∀ u, P u → ∃ u', P' u' ∧ W' u' = z_mix (w1 u) sel W) :
    Met l y ws rm (va_Pc av (z_M1 D cA t1 t2 W)) (va_Qv P' (fun u t => va_P D vwCl (W' u) t.heap) (z_A W)) 0 0 (z_A W) := by
  refine z_conseq M (fun a s h => ⟨h.1, z_pick is hC hn h.2⟩) (fun a s o t h q => ?_) (fun q h => z_pickA is hC q h)
  obtain ⟨⟨u, ho, hp, hB⟩, hF⟩ := q
  obtain ⟨u', p', e'⟩ := hw u hp
  exact ⟨⟨u', ho, p', (show va_P D vwCl (W' u') t.heap by rw [e']; exact z_behind is sel hC hs (ha u) h.2 hF hB)⟩, z_wF hF (fun q h => z_pickA is hC q h)⟩
theorem z_lm0v {P : S → Prop} {P' : S' → Prop} (M : Met l y ws rm (va_Pc av (z_M0 D cA wc)) (va_Qv P (fun u t => va_P D vwCl (w1 u) t.heap) (z_A wc)) 0 0 (z_A wc)) (is sel : List Nat) (hC : is.map (fun i => W[i]?) = wc.map some) (hn : va_nd is = true) (hs : is.all (fun k => (sel[k]?.getD 0 != 0) && decide (sel[k]?.getD 0 ≤ is.length)) = true) (ha : ∀ u, wc.map Prod.fst = (w1 u).map Prod.fst) (hw : ∀ u, P u → ∃ u', P' u' ∧ W' u' = z_mix (w1 u) sel W) :
    Met l y ws rm (va_Pc av (z_M1 D cA t1 t2 W)) (va_Qv P' (fun u t => va_P D vwCl (W' u) t.heap) (z_A W)) 0 0 (z_A W) :=
  z_lm1v (z_conseq M (fun a s h => ⟨h.1, h.2.1⟩) (fun a s o t h q => q) (fun q h => h)) is sel hC hn hs ha hw
/-- what changes nothing -/
theorem z_lb1i {P : Int → Prop} {P' : Int → S' → Prop} (M : Met l y ws rm (va_Pc av (z_B1 D cA t1 t2 wc)) (va_Qi (z_ri P) (fun _ _ => True) (fun _ => False)) 0 0 (fun _ => False)) (is : List Nat) (hC : is.map (fun i => W[i]?) = wc.map some) (hw : ∀ v, P v → ∃ u', P' v u' ∧ W' u' = W) :
    Met l y ws rm (va_Pc av (z_M1 D cA t1 t2 W)) (va_Qi (z_mi P') (fun u t => va_P D vwCl (W' u) t.heap) (z_A W)) 0 0 (z_A W) := by
  refine z_conseq M (fun a s h => ⟨h.1, ⟨h.2.1.1, h.2.1.2.1.sub is (z_fm hC)⟩, h.2.2.narrow (fun q hq => hq.elim)⟩) (fun a s o t h q => ?_) (fun q h => h.elim)
  obtain ⟨⟨r, u, ho, ⟨v, hr, hz, hp⟩, -⟩, hF⟩ := q
  obtain ⟨u', p', e'⟩ := hw v hp
  exact ⟨⟨r, u', ho, ⟨v, hr, hz, p'⟩, (show va_P D vwCl (W' u') t.heap by rw [e']; exact z_P_all h.2.1.2.1 hF.2)⟩, z_wF hF (fun q h => h.elim)⟩
theorem z_lb0i {P : Int → Prop} {P' : Int → S' → Prop} (M : Met l y ws rm (va_Pc av (z_B0 D cA wc)) (va_Qi (z_ri P) (fun _ _ => True) (fun _ => False)) 0 0 (fun _ => False)) (is : List Nat) (hC : is.map (fun i => W[i]?) = wc.map some) (hw : ∀ v, P v → ∃ u', P' v u' ∧ W' u' = W) :
    Met l y ws rm (va_Pc av (z_M1 D cA t1 t2 W)) (va_Qi (z_mi P') (fun u t => va_P D vwCl (W' u) t.heap) (z_A W)) 0 0 (z_A W) :=
  z_lb1i (z_conseq M (fun a s h => ⟨h.1, h.2.1⟩) (fun a s o t h q => q) (fun q h => h)) is hC hw
theorem z_lb1l {P : Int → Prop} {P' : Int → S' → Prop} (M : Met l y ws rm (va_Pc av (z_B1 D cA t1 t2 wc)) (va_Ql (z_rl P) (fun _ _ => True) (fun _ => False)) 0 0 (fun _ => False)) (is : List Nat) (hC : is.map (fun i => W[i]?) = wc.map some) (hw : ∀ v, P v → ∃ u', P' v u' ∧ W' u' = W) :
    Met l y ws rm (va_Pc av (z_M1 D cA t1 t2 W)) (va_Ql (z_ml P') (fun u t => va_P D vwCl (W' u) t.heap) (z_A W)) 0 0 (z_A W) := by
  refine z_conseq M (fun a s h => ⟨h.1, ⟨h.2.1.1, h.2.1.2.1.sub is (z_fm hC)⟩, h.2.2.narrow (fun q hq => hq.elim)⟩) (fun a s o t h q => ?_) (fun q h => h.elim)
  obtain ⟨⟨r, u, ho, ⟨v, hr, hz, hp⟩, -⟩, hF⟩ := q
  obtain ⟨u', p', e'⟩ := hw v hp
  exact ⟨⟨r, u', ho, ⟨v, hr, hz, p'⟩, (show va_P D vwCl (W' u') t.heap by rw [e']; exact z_P_all h.2.1.2.1 hF.2)⟩, z_wF hF (fun q h => h.elim)⟩
theorem z_lb0l {P : Int → Prop} {P' : Int → S' → Prop} (M : Met l y ws rm (va_Pc av (z_B0 D cA wc)) (va_Ql (z_rl P) (fun _ _ => True) (fun _ => False)) 0 0 (fun _ => False)) (is : List Nat) (hC : is.map (fun i => W[i]?) = wc.map some) (hw : ∀ v, P v → ∃ u', P' v u' ∧ W' u' = W) :
    Met l y ws rm (va_Pc av (z_M1 D cA t1 t2 W)) (va_Ql (z_ml P') (fun u t => va_P D vwCl (W' u) t.heap) (z_A W)) 0 0 (z_A W) :=
  z_lb1l (z_conseq M (fun a s h => ⟨h.1, h.2.1⟩) (fun a s o t h q => q) (fun q h => h)) is hC hw
end
