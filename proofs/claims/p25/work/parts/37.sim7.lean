-- change
theorem sim_change {x y : Nat → Nat → Nat} {k f t : Nat} (hc : CW x) (hm : MW y) (hr : REL x y) (hk : k < y 7 9) (hft : y 8 (y 14 k) ≤ f ∧ f ≤ t ∧ t ≤ 3600) : CW (mkC (mkC (es (es x (RB k) 2 f) (RB k) 3 t) (x (RB k) 0) (x (RB k) 2) (x (RB k) 3 + 1)) (x (RB k) 0) f (t + 1)) ∧ MW (chM y k f t) ∧ REL (mkC (mkC (es (es x (RB k) 2 f) (RB k) 3 t) (x (RB k) 0) (x (RB k) 2) (x (RB k) 3 + 1)) (x (RB k) 0) f (t + 1)) (chM y k f t) := by
  obtain ⟨r1, r2, r3, r4, r5, r6⟩ := hr
  obtain ⟨⟨k1, k2, k3, k4, k5, k6⟩, k7⟩ := r4 k hk
  have hn8 := hm.1.1
  have hst := (r2 _ k7).1.1.1
  have yc : ∀ c, c ≠ 15 → c ≠ 16 → chM y k f t c = y c := fun c h h2 => by
    unfold chM
    rw [es_off _ _ _ h2, es_off _ _ _ h]
  have y15 : ∀ q, chM y k f t 15 q = if q = k then f else y 15 q := fun q => by
    unfold chM
    rw [es_ne _ _ (by omega), es_at]
    by_cases z : q = k
    · rw [if_pos ⟨rfl, z⟩, if_pos z]
    · rw [if_neg (fun w => z w.2), if_neg z]
  have y16 : ∀ q, chM y k f t 16 q = if q = k then t else y 16 q := fun q => by
    unfold chM
    rw [es_at]
    by_cases z : q = k
    · rw [if_pos ⟨rfl, z⟩, if_pos z]
    · rw [if_neg (fun w => z w.2), if_neg z, es_ne _ _ (by omega)]
  have xc : ∀ c, c < 200 → es (es x (RB k) 2 f) (RB k) 3 t c = x c := fun c h => by rw [es_off _ _ _ (by unfold RB; omega), es_off _ _ _ (by unfold RB; omega)]
  have xP : ∀ p j, p < 8 → j < 9 → es (es x (RB k) 2 f) (RB k) 3 t (PB p + j) = x (PB p + j) := fun p j a b => xc _ (by unfold PB; omega)
  have xR : ∀ q, q ≠ k → es (es x (RB k) 2 f) (RB k) 3 t (RB q) = x (RB q) := fun q h => by rw [es_off _ _ _ (by unfold RB; omega), es_off _ _ _ (by unfold RB; omega)]
  have xk : ∀ i, i ≠ 2 → i ≠ 3 → es (es x (RB k) 2 f) (RB k) 3 t (RB k) i = x (RB k) i := fun i a b => by rw [es_ne _ _ (by omega), es_ne _ _ (by omega)]
  have xk2 : es (es x (RB k) 2 f) (RB k) 3 t (RB k) 2 = f := by rw [es_ne _ _ (by omega), es_same]
  have xk3 : es (es x (RB k) 2 f) (RB k) 3 t (RB k) 3 = t := es_same _ _ _ _
  have hrw := RW_ft (k := k) hc.rw' (show f ≤ 3600 by omega) hft.2.2
  generalize hX : es (es x (RB k) 2 f) (RB k) 3 t = X at *
  generalize hY : chM y k f t = Y at *
  have hc1 : CW X := by
    obtain ⟨a1, a2, a3, a4, a5, a6, a7, a8, a9, a10⟩ := hc
    unfold CW
    rw [xc 0 (by decide), xc 1 (by decide), xc 2 (by decide)]
    refine ⟨a1, a2, a3, a4, a5, a6, a7, hrw, fun q hq => ?_, fun p hp => ⟨?_, ?_⟩⟩
    · have h9 := a9 q hq
      by_cases z : q = k
      · subst z
        rw [xk 0 (by decide) (by decide), xk2, xk3, show X (PB (x (RB q) 0)) = x (PB (x (RB q) 0)) from xP _ 0 (by omega) (by decide)]
        rw [k1] at h9 ⊢
        exact ⟨h9.1, by omega, hft.2.1⟩
      · rw [xR q z, show X (PB (x (RB q) 0)) = x (PB (x (RB q) 0)) from xP _ 0 (by omega) (by decide)]
        exact h9
    · exact (a10 p hp).1.fr (fun j hj => xP p j (by omega) hj) (by rw [xc 0 (by decide)]; exact Nat.le_refl _) (by rw [xc 0 (by decide)]; exact Nat.le_refl _) (by rw [xc 0 (by decide)]; exact Nat.le_refl _)
    · rw [xP p 3 (by omega) (by decide)]
      exact (a10 p hp).2
  have hm1 : MW Y := by
    obtain ⟨m0, mr, ms, my, mp⟩ := hm
    unfold MW MWr MWs MWy MWp at *
    rw [yc 7 (by decide) (by decide), yc 8 (by decide) (by decide), yc 9 (by decide) (by decide), yc 10 (by decide) (by decide), yc 11 (by decide) (by decide), yc 12 (by decide) (by decide), yc 13 (by decide) (by decide), yc 14 (by decide) (by decide), yc 17 (by decide) (by decide), yc 18 (by decide) (by decide), yc 19 (by decide) (by decide), yc 20 (by decide) (by decide), yc 21 (by decide) (by decide), yc 22 (by decide) (by decide), yc 23 (by decide) (by decide), yc 24 (by decide) (by decide)]
    refine ⟨m0, fun q hq => ?_, ms, my, mp⟩
    obtain ⟨b1, b2, b3, b4, b5⟩ := mr q hq
    rw [y15, y16]
    by_cases z : q = k
    · rw [if_pos z, if_pos z]; exact ⟨b1, by omega, by omega, b4, b5⟩
    · rw [if_neg z, if_neg z]; exact ⟨b1, b2, b3, b4, b5⟩
  have hR : RELS X Y (y 14 k) (fun d => (y 15 k ≤ d ∧ d < y 16 k + 1) ∨ (f ≤ d ∧ d < t + 1)) := by
    have lvn : ∀ p d, (p ≠ y 14 k ∨ ¬ ((y 15 k ≤ d ∧ d < y 16 k + 1) ∨ (f ≤ d ∧ d < t + 1))) → lvM Y p d = lvM y p d := fun p d a => by
      have e2 : lvfM Y p d = lvfM y p d := by
        funext i
        unfold lvfM
        rw [yc 14 (by decide) (by decide), yc 17 (by decide) (by decide), yc 18 (by decide) (by decide), y15, y16]
        by_cases z : i = k
        · subst z
          rw [if_pos rfl, if_pos rfl, if_neg (fun w => by omega), if_neg (fun w => by omega)]
        · rw [if_neg z, if_neg z]
      unfold lvM illM
      rw [e2, yc 7 (by decide) (by decide), yc 19 (by decide) (by decide), yc 20 (by decide) (by decide), yc 21 (by decide) (by decide)]
    unfold RELS
    rw [yc 7 (by decide) (by decide), yc 8 (by decide) (by decide), yc 11 (by decide) (by decide), yc 14 (by decide) (by decide), yc 19 (by decide) (by decide), yc 22 (by decide) (by decide), yc 23 (by decide) (by decide)]
    refine ⟨?_, fun p hp => ⟨?_, (r2 p hp).2⟩, r3, fun q hq => ⟨?_, (r4 q hq).2⟩, r5, r6⟩
    · unfold NR at *
      rw [xc 0 (by decide), yc 7 (by decide) (by decide)]
      exact r1
    · obtain ⟨a1, a2, a4, a5, a6, a7⟩ := (r2 p hp).1
      have hp8 : p < 8 := by omega
      have q0 : ∀ i, X (PB p) i = x (PB p) i := fun i => congrFun (xP p 0 hp8 (by decide)) i
      refine ⟨?_, fun z => a2.pc (xP p 8 hp8 (by decide)) (fun d => lvn p d (Or.inl z)), fun z d hd hS => ?_, ?_, ?_, ?_, ?_⟩
      · unfold RP at *
        rw [show X (PB p) = x (PB p) from xP p 0 hp8 (by decide), xP p 1 hp8 (by decide), xP p 2 hp8 (by decide), yc 8 (by decide) (by decide), yc 9 (by decide) (by decide), yc 10 (by decide) (by decide), yc 11 (by decide) (by decide), yc 12 (by decide) (by decide), yc 13 (by decide) (by decide)]
        exact a1
      · rw [xP p 8 hp8 (by decide), lvn p d (Or.inr hS)]
        exact a2 d hd
      · exact a4.pc (q0 13) (xP p 6 hp8 (by decide)) (xP p 7 hp8 (by decide)) (by rw [yc 8 (by decide) (by decide)]) (by rw [yc 7 (by decide) (by decide)]) (yc 22 (by decide) (by decide)) (yc 23 (by decide) (by decide)) (yc 24 (by decide) (by decide))
      · exact a5.pc (q0 7) (xP p 3 hp8 (by decide)) (by rw [yc 7 (by decide) (by decide)]) (yc 14 (by decide) (by decide))
      · exact a6.pc (q0 10) (xP p 4 hp8 (by decide)) (xP p 5 hp8 (by decide)) (by rw [yc 7 (by decide) (by decide)]) (yc 19 (by decide) (by decide)) (yc 20 (by decide) (by decide)) (yc 21 (by decide) (by decide))
      · unfold RD at *
        rw [yc 11 (by decide) (by decide), yc 12 (by decide) (by decide)]
        exact a7
    · obtain ⟨a1, a2, a3, a4, a5, a6⟩ := (r4 q hq).1
      unfold QR
      rw [yc 14 (by decide) (by decide), yc 17 (by decide) (by decide), yc 18 (by decide) (by decide), y15, y16]
      by_cases z : q = k
      · subst z
        rw [xk 0 (by decide) (by decide), xk 1 (by decide) (by decide), xk2, xk3, xk 4 (by decide) (by decide), if_pos rfl, if_pos rfl]
        exact ⟨a1, a2, rfl, rfl, a5, hft.2.1⟩
      · rw [xR q z, if_neg z, if_neg z]
        exact ⟨a1, a2, a3, a4, a5, a6⟩
  rw [k1, k3, k4]
  have h7 : y 14 k < Y 7 2 := by rw [yc 7 (by decide) (by decide)]; exact k7
  obtain ⟨f1, f2⟩ := mark (f := y 15 k) (t' := y 16 k + 1) hc1 hR h7
  obtain ⟨g1, g2⟩ := mark (f := f) (t' := t + 1) f1 f2 h7
  exact ⟨g1, hm1, g2.done (fun d _ w => w.1.1.elim (fun a => w.1.2 a) (fun a => w.2 a))⟩
-- sick
theorem mk_es (X : Nat → Nat → Nat) {p f t c i v : Nat} (hp : p < 8) (hc : c < 32) : es (mkC X p f t) c i v = mkC (es X c i v) p f t := by
  have e9 : ∀ d, lvC (es X c i v) p d = lvC X p d := fun d => lvC_eq (fun k hk => es_off _ _ _ (by unfold PB; omega)) (fun q => es_off _ _ _ (by unfold RB; omega)) d
  funext c' j
  unfold mkC
  rw [e9]
  by_cases h : c' = PB p + 8 ∧ f ≤ j ∧ j < t
  · rw [if_pos h, es_ne _ _ (by unfold PB at h; omega), if_pos h]
  · rw [if_neg h]
    unfold es
    show (if c' = c ∧ j = i then v else (if c' = PB p + 8 ∧ f ≤ j ∧ j < t then lvC X p j else X c' j)) = _
    rw [if_neg h]
theorem sim_sick {x y : Nat → Nat → Nat} {k f t : Nat} (hc : CW x) (hm : MW y) (hr : REL x y) (hk : k < y 7 2) (hft : f ≤ t ∧ t ≤ 3600) (hn : y 7 15 < 30) : CW (es (esC x k f t) 0 4 (x 0 4 + 1)) ∧ MW (skM y k f t) ∧ REL (es (esC x k f t) 0 4 (x 0 4 + 1)) (skM y k f t) := by
  obtain ⟨r1, r2, r3, r4, r5, r6⟩ := hr
  obtain ⟨s1, s2, s3, s4, s5⟩ := id r1
  have hn8 := hm.1.1
  have hk8 : k < 8 := by omega
  have hkp := hc.p (p := k) (by omega)
  have hown := hc.own (p := k) (by omega)
  have yc : ∀ c, c ≠ 19 → c ≠ 20 → c ≠ 21 → c ≠ 7 → skM y k f t c = y c := fun c a b d e => by
    unfold skM
    rw [es_off _ _ _ (by omega), es_off _ _ _ (by omega), es_off _ _ _ (by omega), es_off _ _ _ (by omega)]
  have y7 : ∀ i, i ≠ 15 → skM y k f t 7 i = y 7 i := fun i a => by
    unfold skM
    rw [es_ne _ _ (by omega), es_ne _ _ (by omega), es_ne _ _ (by omega), es_ne _ _ (by omega)]
  have y715 : skM y k f t 7 15 = y 7 15 + 1 := es_same _ _ _ _
  have y19 : ∀ i, skM y k f t 19 i = if i = y 7 15 then k else y 19 i := fun i => by
    unfold skM
    rw [es_ne _ _ (by omega), es_ne _ _ (by omega), es_ne _ _ (by omega), es_at]
    by_cases z : i = y 7 15
    · rw [if_pos ⟨rfl, z⟩, if_pos z]
    · rw [if_neg (fun q => z q.2), if_neg z]
  have y20 : ∀ i, skM y k f t 20 i = if i = y 7 15 then f else y 20 i := fun i => by
    unfold skM
    rw [es_ne _ _ (by omega), es_ne _ _ (by omega), es_at, es_ne _ _ (by omega)]
    by_cases z : i = y 7 15
    · rw [if_pos ⟨rfl, z⟩, if_pos z]
    · rw [if_neg (fun q => z q.2), if_neg z]
  have y21 : ∀ i, skM y k f t 21 i = if i = y 7 15 then t else y 21 i := fun i => by
    unfold skM
    rw [es_ne _ _ (by omega), es_at, es_ne _ _ (by omega), es_ne _ _ (by omega)]
    by_cases z : i = y 7 15
    · rw [if_pos ⟨rfl, z⟩, if_pos z]
    · rw [if_neg (fun q => z q.2), if_neg z]
  have hEq : es (esC x k f t) 0 4 (x 0 4 + 1) = mkC (es (esC0 x k f t) 0 4 (x 0 4 + 1)) k f (t + 1) := mk_es _ hk8 (by decide)
  rw [hEq]
  have xlo : ∀ c, c < 32 → c ≠ 0 → es (esC0 x k f t) 0 4 (x 0 4 + 1) c = x c := fun c a b => by
    unfold esC0
    rw [es_off _ _ _ b, es_off _ _ _ (by unfold PB; omega), es_off _ _ _ (by unfold PB; omega), es_off _ _ _ (by unfold PB; omega)]
  have x0 : ∀ i, i ≠ 4 → es (esC0 x k f t) 0 4 (x 0 4 + 1) 0 i = x 0 i := fun i a => by
    unfold esC0
    rw [es_ne _ _ (by omega), es_ne _ _ (by unfold PB; omega), es_ne _ _ (by unfold PB; omega), es_ne _ _ (by unfold PB; omega)]
  have x04 : es (esC0 x k f t) 0 4 (x 0 4 + 1) 0 4 = x 0 4 + 1 := es_same _ _ _ _
  have xR : ∀ q, es (esC0 x k f t) 0 4 (x 0 4 + 1) (RB q) = x (RB q) := fun q => by
    unfold esC0
    rw [es_off _ _ _ (by unfold RB; omega), es_off _ _ _ (by unfold RB PB; omega), es_off _ _ _ (by unfold RB PB; omega), es_off _ _ _ (by unfold RB PB; omega)]
  have xP : ∀ p j, j < 9 → (p ≠ k ∨ (j ≠ 0 ∧ j ≠ 4 ∧ j ≠ 5)) → es (esC0 x k f t) 0 4 (x 0 4 + 1) (PB p + j) = x (PB p + j) := fun p j hj a => by
    unfold esC0
    rw [es_off _ _ _ (by unfold PB; omega), es_off _ _ _ (by unfold PB; omega), es_off _ _ _ (by unfold PB; omega), es_off _ _ _ (by unfold PB; omega)]
  have xk0 : ∀ i, i ≠ 10 → es (esC0 x k f t) 0 4 (x 0 4 + 1) (PB k) i = x (PB k) i := fun i a => by
    unfold esC0
    rw [es_ne _ _ (by unfold PB; omega), es_ne _ _ (by omega), es_ne _ _ (by omega), es_ne _ _ (by omega)]
  have xk10 : es (esC0 x k f t) 0 4 (x 0 4 + 1) (PB k) 10 = x (PB k) 10 + 1 := by
    unfold esC0
    rw [es_ne _ _ (by unfold PB; omega), es_same]
  have xk4 : ∀ i, es (esC0 x k f t) 0 4 (x 0 4 + 1) (PB k + 4) i = if i = x (PB k) 10 then f else x (PB k + 4) i := fun i => by
    unfold esC0
    rw [es_ne _ _ (by unfold PB; omega), es_ne _ _ (by omega), es_ne _ _ (by omega), es_at]
    by_cases z : i = x (PB k) 10
    · rw [if_pos ⟨rfl, z⟩, if_pos z]
    · rw [if_neg (fun q => z q.2), if_neg z]
  have xk5 : ∀ i, es (esC0 x k f t) 0 4 (x 0 4 + 1) (PB k + 5) i = if i = x (PB k) 10 then t else x (PB k + 5) i := fun i => by
    unfold esC0
    rw [es_ne _ _ (by unfold PB; omega), es_ne _ _ (by omega), es_at]
    by_cases z : i = x (PB k) 10
    · rw [if_pos ⟨rfl, z⟩, if_pos z]
    · rw [if_neg (fun q => z q.2), if_neg z, es_ne _ _ (by omega)]
  generalize hX : es (esC0 x k f t) 0 4 (x 0 4 + 1) = X at *
  generalize hY : skM y k f t = Y at *
  have hc1 : CW X := by
    obtain ⟨a1, a2, a3, a4, a5, a6, a7, a8, a9, a10⟩ := id hc
    unfold CW
    rw [x0 1 (by decide), x0 3 (by decide), x04, x0 5 (by decide), x0 6 (by decide), xlo 1 (by decide) (by decide), xlo 2 (by decide) (by decide)]
    refine ⟨a1, a2, by omega, a4, a5, a6, a7, a8.eq xR, fun q hq => ?_, fun p hp => ⟨?_, ?_⟩⟩
    · rw [xR]
      have e0 : X (PB (x (RB q) 0)) 0 = x (PB (x (RB q) 0)) 0 := by
        by_cases z : x (RB q) 0 = k
        · rw [z]; exact xk0 0 (by decide)
        · exact congrFun (xP _ 0 (by decide) (Or.inl z)) 0
      rw [e0]
      exact a9 q hq
    · by_cases z : p = k
      · subst z
        obtain ⟨b1, b2, b3, b4, b5, b6, b7, b8, b9⟩ := hkp
        unfold CWp P0 PCh PSp PPy PLv PRq at *
        rw [xk0 0 (by decide), xk0 1 (by decide), xk0 2 (by decide), xk0 5 (by decide), xk0 7 (by decide), xk10, xk0 13 (by decide), x0 3 (by decide), x04, x0 5 (by decide), xP p 1 (by decide) (by omega), xP p 2 (by decide) (by omega), xP p 3 (by decide) (by omega), xP p 6 (by decide) (by omega), xP p 7 (by decide) (by omega), xP p 8 (by decide) (by omega)]
        refine ⟨b1, b2, ⟨by omega, fun i hi => ?_⟩, b4, b5, b6, b7, by omega, b9⟩
        rw [xk4, xk5]
        by_cases z : i = x (PB p) 10
        · rw [if_pos z, if_pos z]; omega
        · rw [if_neg z, if_neg z]; exact b3.2 i (by omega)
      · exact (a10 p hp).1.fr (fun j hj => xP p j hj (Or.inl z)) (by rw [x0 3 (by decide)]; exact Nat.le_refl _) (by rw [x04]; omega) (by rw [x0 5 (by decide)]; exact Nat.le_refl _)
    · rw [xP p 3 (by decide) (by omega)]
      exact (a10 p hp).2
  have yq : ∀ c, c = 8 ∨ c = 9 ∨ c = 10 ∨ c = 11 ∨ c = 12 ∨ c = 13 ∨ c = 14 ∨ c = 15 ∨ c = 16 ∨ c = 17 ∨ c = 18 ∨ c = 22 ∨ c = 23 ∨ c = 24 → Y c = y c := fun c h => yc c (by omega) (by omega) (by omega) (by omega)
  have hm1 : MW Y := by
    obtain ⟨⟨m1, m2, m3, m4, m5⟩, mr, ms, my, mp⟩ := hm
    unfold MW MWr MWs MWy MWp at *
    rw [y7 2 (by decide), y7 9 (by decide), y715, y7 19 (by decide), y7 1 (by decide), yq 8 (by decide), yq 9 (by decide), yq 10 (by decide), yq 11 (by decide), yq 12 (by decide), yq 13 (by decide), yq 14 (by decide), yq 15 (by decide), yq 16 (by decide), yq 17 (by decide), yq 18 (by decide), yq 22 (by decide), yq 23 (by decide), yq 24 (by decide)]
    refine ⟨⟨m1, m2, by omega, m4, m5⟩, mr, fun i hi => ?_, my, mp⟩
    rw [y19, y20, y21]
    by_cases z : i = y 7 15
    · rw [if_pos z, if_pos z, if_pos z]; omega
    · rw [if_neg z, if_neg z, if_neg z]; exact ms i (by omega)
  have hR : RELS X Y k (fun d => f ≤ d ∧ d < t + 1) := by
    have lvn : ∀ p d, (p ≠ k ∨ ¬ (f ≤ d ∧ d < t + 1)) → lvM Y p d = lvM y p d := fun p d a => by
      have e1 : illM Y p d = illM y p d := by
        unfold illM
        rw [y715, Bool.eq_iff_iff]
        constructor
        · intro h
          obtain ⟨i, i1, i2⟩ := anyN_ex h
          have i3 := of_decide_eq_true i2
          rw [y19, y20, y21] at i3
          by_cases z : i = y 7 15
          · rw [if_pos z, if_pos z, if_pos z] at i3
            omega
          · rw [if_neg z, if_neg z, if_neg z] at i3
            exact anyN_hit (show i < y 7 15 by omega) (decide_eq_true i3)
        · intro h
          obtain ⟨i, i1, i2⟩ := anyN_ex h
          refine anyN_hit (i := i) (by omega) ?_
          rw [y19, y20, y21, if_neg (by omega), if_neg (by omega), if_neg (by omega)]
          exact i2
      unfold lvM lvfM
      rw [e1, y7 9 (by decide), yq 14 (by decide), yq 15 (by decide), yq 16 (by decide), yq 17 (by decide), yq 18 (by decide)]
    unfold RELS
    rw [y7 2 (by decide), y7 9 (by decide), y715, y7 19 (by decide), y7 1 (by decide), yq 8 (by decide), yq 11 (by decide), yq 14 (by decide), yq 22 (by decide), yq 23 (by decide)]
    refine ⟨?_, fun p hp => ⟨?_, (r2 p hp).2⟩, r3, fun q hq => ⟨?_, (r4 q hq).2⟩, r5, fun i hi => ?_⟩
    · unfold NR
      rw [x0 1 (by decide), x0 3 (by decide), x04, x0 5 (by decide), x0 6 (by decide), y7 2 (by decide), y7 9 (by decide), y715, y7 19 (by decide), y7 1 (by decide)]
      exact ⟨s1, s2, by omega, s4, s5⟩
    · obtain ⟨a1, a2, a4, a5, a6, a7⟩ := (r2 p hp).1
      have hb := (hm1.2.2.2.2 p (by rw [y7 2 (by decide)]; exact hp)).2.2.2.1
      rw [yq 11 (by decide)] at hb
      have xp0 : ∀ i, i ≠ 10 → X (PB p) i = x (PB p) i := fun i a => by
        by_cases z : p = k
        · subst z; exact xk0 i a
        · exact congrFun (xP p 0 (by decide) (Or.inl z)) i
      refine ⟨a1.pc (xp0 0 (by decide)) (xp0 1 (by decide)) (xp0 2 (by decide)) (xp0 5 (by decide)) (xP p 1 (by decide) (by omega)) (xP p 2 (by decide) (by omega)) (by rw [yq 8 (by decide)]) (by rw [yq 9 (by decide)]) (by rw [yq 10 (by decide)]) (by rw [yq 11 (by decide)]) (fun i _ => by rw [yq 12 (by decide)]) (fun i _ => by rw [yq 13 (by decide)]) hb, fun z => a2.pc (xP p 8 (by decide) (by omega)) (fun d => lvn p d (Or.inl z)), fun z d hd hS => ?_, a4.pc (xp0 13 (by decide)) (xP p 6 (by decide) (by omega)) (xP p 7 (by decide) (by omega)) (by rw [yq 8 (by decide)]) (y7 19 (by decide)) (yq 22 (by decide)) (yq 23 (by decide)) (yq 24 (by decide)), a5.pc (xp0 7 (by decide)) (xP p 3 (by decide) (by omega)) (y7 9 (by decide)) (yq 14 (by decide)), ?_, a7.pc (by rw [yq 11 (by decide)]) (fun i _ => by rw [yq 12 (by decide)]) hb⟩
      · rw [xP p 8 (by decide) (by omega), lvn p d (Or.inr hS)]
        exact a2 d hd
      · unfold RSp
        rw [y715]
        by_cases z : p = k
        · subst z
          rw [xk10]
          refine ⟨fun i hi => ?_, fun i hi hpi => ?_⟩
          · rw [xk4, xk5]
            by_cases w : i = x (PB p) 10
            · rw [if_pos w, if_pos w]
              refine ⟨y 7 15, by omega, ?_⟩
              rw [y19, y20, y21, if_pos rfl, if_pos rfl, if_pos rfl]
              exact ⟨rfl, rfl, rfl⟩
            · rw [if_neg w, if_neg w]
              obtain ⟨j, j1, j2⟩ := a6.1 i (by omega)
              refine ⟨j, by omega, ?_⟩
              rw [y19, y20, y21, if_neg (by omega), if_neg (by omega), if_neg (by omega)]
              exact j2
          · rw [y19] at hpi
            rw [y20, y21]
            by_cases w : i = y 7 15
            · rw [if_pos w, if_pos w]
              refine ⟨x (PB p) 10, by omega, ?_⟩
              rw [xk4, xk5, if_pos rfl, if_pos rfl]
              exact ⟨rfl, rfl⟩
            · rw [if_neg w] at hpi
              rw [if_neg w, if_neg w]
              obtain ⟨j, j1, j2⟩ := a6.2 i (by omega) hpi
              refine ⟨j, by omega, ?_⟩
              rw [xk4, xk5, if_neg (by omega), if_neg (by omega)]
              exact j2
        · rw [show X (PB p) = x (PB p) from xP p 0 (by decide) (Or.inl z), xP p 4 (by decide) (Or.inl z), xP p 5 (by decide) (Or.inl z)]
          refine ⟨fun i hi => ?_, fun i hi hpi => ?_⟩
          · obtain ⟨j, j1, j2⟩ := a6.1 i hi
            refine ⟨j, by omega, ?_⟩
            rw [y19, y20, y21, if_neg (by omega), if_neg (by omega), if_neg (by omega)]
            exact j2
          · rw [y19] at hpi
            have w : i ≠ y 7 15 := fun w => by rw [if_pos w] at hpi; exact z hpi.symm
            rw [if_neg w] at hpi
            rw [y20, y21, if_neg w, if_neg w]
            exact a6.2 i (by omega) hpi
    · obtain ⟨a1, a2, a3, a4, a5, a6⟩ := (r4 q hq).1
      unfold QR
      rw [xR, yq 14 (by decide), yq 15 (by decide), yq 16 (by decide), yq 17 (by decide), yq 18 (by decide)]
      exact ⟨a1, a2, a3, a4, a5, a6⟩
    · rw [y19]
      by_cases z : i = y 7 15
      · rw [if_pos z]; exact hk
      · rw [if_neg z]; exact r6 i (by omega)
  obtain ⟨f1, f2⟩ := mark (f := f) (t' := t + 1) hc1 hR (by rw [y7 2 (by decide)]; exact hk)
  exact ⟨f1, hm1, f2.done (fun d _ w => w.2 w.1)⟩
