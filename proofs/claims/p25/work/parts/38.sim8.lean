-- request
theorem mxN_congr {f g : Nat → Nat} : ∀ n, (∀ i, i < n → f i = g i) → mxN f n = mxN g n
  | 0, _ => rfl
  | n + 1, h => by
    show max (mxN f n) (f n) = max (mxN g n) (g n)
    rw [mxN_congr n (fun i hi => h i (by omega)), h n (by omega)]
theorem sim_request {x y : Nat → Nat → Nat} {k f t h : Nat} (hc : CW x) (hm : MW y) (hr : REL x y) (hk : k < y 7 2) (hft : y 8 k ≤ f ∧ f ≤ t ∧ t ≤ 3600) (hh : h ≤ 1) (hn : y 7 9 < 40) : CW (reqC x k f t h) ∧ MW (rqM y k f t h) ∧ REL (reqC x k f t h) (rqM y k f t h) := by
  obtain ⟨r1, r2, r3, r4, r5, r6⟩ := hr
  obtain ⟨s1, s2, s3, s4, s5⟩ := id r1
  have hn8 := hm.1.1
  have hk8 : k < 8 := by omega
  have hk1 : k < x 0 1 := by omega
  have hkp := hc.p (p := k) hk1
  have hown := hc.own (p := k) hk1
  have hst := (r2 k hk).1.1.1
  have yc : ∀ c, c ≠ 14 → c ≠ 15 → c ≠ 16 → c ≠ 17 → c ≠ 18 → c ≠ 7 → rqM y k f t h c = y c := fun c a b d e g i => by
    unfold rqM
    rw [es_off _ _ _ (by omega), es_off _ _ _ (by omega), es_off _ _ _ (by omega), es_off _ _ _ (by omega), es_off _ _ _ (by omega), es_off _ _ _ (by omega)]
  have yq : ∀ c, c = 8 ∨ c = 9 ∨ c = 10 ∨ c = 11 ∨ c = 12 ∨ c = 13 ∨ c = 19 ∨ c = 20 ∨ c = 21 ∨ c = 22 ∨ c = 23 ∨ c = 24 → rqM y k f t h c = y c := fun c h => yc c (by omega) (by omega) (by omega) (by omega) (by omega) (by omega)
  have y7 : ∀ i, i ≠ 9 → rqM y k f t h 7 i = y 7 i := fun i a => by
    unfold rqM
    rw [es_ne _ _ (by omega), es_ne _ _ (by omega), es_ne _ _ (by omega), es_ne _ _ (by omega), es_ne _ _ (by omega), es_ne _ _ (by omega)]
  have y79 : rqM y k f t h 7 9 = y 7 9 + 1 := es_same _ _ _ _
  have y14 : ∀ i, rqM y k f t h 14 i = if i = y 7 9 then k else y 14 i := fun i => by
    unfold rqM
    rw [es_ne _ _ (by omega), es_ne _ _ (by omega), es_ne _ _ (by omega), es_ne _ _ (by omega), es_ne _ _ (by omega), es_at]
    by_cases z : i = y 7 9
    · rw [if_pos ⟨rfl, z⟩, if_pos z]
    · rw [if_neg (fun q => z q.2), if_neg z]
  have y15 : ∀ i, rqM y k f t h 15 i = if i = y 7 9 then f else y 15 i := fun i => by
    unfold rqM
    rw [es_ne _ _ (by omega), es_ne _ _ (by omega), es_ne _ _ (by omega), es_ne _ _ (by omega), es_at, es_ne _ _ (by omega)]
    by_cases z : i = y 7 9
    · rw [if_pos ⟨rfl, z⟩, if_pos z]
    · rw [if_neg (fun q => z q.2), if_neg z]
  have y16 : ∀ i, rqM y k f t h 16 i = if i = y 7 9 then t else y 16 i := fun i => by
    unfold rqM
    rw [es_ne _ _ (by omega), es_ne _ _ (by omega), es_ne _ _ (by omega), es_at, es_ne _ _ (by omega), es_ne _ _ (by omega)]
    by_cases z : i = y 7 9
    · rw [if_pos ⟨rfl, z⟩, if_pos z]
    · rw [if_neg (fun q => z q.2), if_neg z]
  have y17 : ∀ i, rqM y k f t h 17 i = if i = y 7 9 then h else y 17 i := fun i => by
    unfold rqM
    rw [es_ne _ _ (by omega), es_ne _ _ (by omega), es_at, es_ne _ _ (by omega), es_ne _ _ (by omega), es_ne _ _ (by omega)]
    by_cases z : i = y 7 9
    · rw [if_pos ⟨rfl, z⟩, if_pos z]
    · rw [if_neg (fun q => z q.2), if_neg z]
  have y18 : ∀ i, rqM y k f t h 18 i = if i = y 7 9 then 0 else y 18 i := fun i => by
    unfold rqM
    rw [es_ne _ _ (by omega), es_at, es_ne _ _ (by omega), es_ne _ _ (by omega), es_ne _ _ (by omega), es_ne _ _ (by omega)]
    by_cases z : i = y 7 9
    · rw [if_pos ⟨rfl, z⟩, if_pos z]
    · rw [if_neg (fun q => z q.2), if_neg z]
  have hEq : reqC x k f t h = mkC (es (es (erC0 (anR x k f t h) k (x 0 3)) 2 (x 0 3) (x 0 3 + 1)) 0 3 (x 0 3 + 1)) k f (t + 1) := by
    unfold reqC erC
    rw [mk_es _ hk8 (by decide), mk_es _ hk8 (by decide), anR_at, anR_at]
    rfl
  rw [hEq]
  have aP : ∀ p j, p < 8 → j < 9 → anR x k f t h (PB p + j) = x (PB p + j) := fun p j a b => anR_off x k f t h (by unfold PB RB; omega)
  have aP0 : anR x k f t h (PB k) = x (PB k) := aP k 0 hk8 (by decide)
  have xlo : ∀ c, c < 32 → c ≠ 0 → c ≠ 2 → es (es (erC0 (anR x k f t h) k (x 0 3)) 2 (x 0 3) (x 0 3 + 1)) 0 3 (x 0 3 + 1) c = x c := fun c a b d => by
    unfold erC0
    rw [es_off _ _ _ b, es_off _ _ _ d, es_off _ _ _ (by unfold PB; omega), es_off _ _ _ (by unfold PB; omega), anR_off x k f t h (by unfold RB; omega)]
  have x0 : ∀ i, i ≠ 3 → es (es (erC0 (anR x k f t h) k (x 0 3)) 2 (x 0 3) (x 0 3 + 1)) 0 3 (x 0 3 + 1) 0 i = x 0 i := fun i a => by
    unfold erC0
    rw [es_ne _ _ (by omega), es_ne _ _ (by omega), es_ne _ _ (by unfold PB; omega), es_ne _ _ (by unfold PB; omega), anR_off x k f t h (by unfold RB; omega)]
  have x03 : es (es (erC0 (anR x k f t h) k (x 0 3)) 2 (x 0 3) (x 0 3 + 1)) 0 3 (x 0 3 + 1) 0 3 = x 0 3 + 1 := es_same _ _ _ _
  have x2 : ∀ i, es (es (erC0 (anR x k f t h) k (x 0 3)) 2 (x 0 3) (x 0 3 + 1)) 0 3 (x 0 3 + 1) 2 i = if i = x 0 3 then x 0 3 + 1 else x 2 i := fun i => by
    unfold erC0
    rw [es_ne _ _ (by omega), es_at]
    by_cases z : i = x 0 3
    · rw [if_pos ⟨rfl, z⟩, if_pos z]
    · rw [if_neg (fun q => z q.2), if_neg z, es_ne _ _ (by unfold PB; omega), es_ne _ _ (by unfold PB; omega), anR_off x k f t h (by unfold RB; omega)]
  have xR : ∀ q, q ≠ x 0 3 → es (es (erC0 (anR x k f t h) k (x 0 3)) 2 (x 0 3) (x 0 3 + 1)) 0 3 (x 0 3 + 1) (RB q) = x (RB q) := fun q a => by
    unfold erC0
    rw [es_off _ _ _ (by unfold RB; omega), es_off _ _ _ (by unfold RB; omega), es_off _ _ _ (by unfold RB PB; omega), es_off _ _ _ (by unfold RB PB; omega), anR_off x k f t h (by unfold RB; omega)]
  have xn : ∀ i, es (es (erC0 (anR x k f t h) k (x 0 3)) 2 (x 0 3) (x 0 3 + 1)) 0 3 (x 0 3 + 1) (RB (x 0 3)) i = (if i = 0 then k else if i = 1 then (if h = 0 then 2 else 1) else if i = 2 then f else if i = 3 then t else 0) := fun i => by
    unfold erC0
    rw [es_ne _ _ (by unfold RB; omega), es_ne _ _ (by unfold RB; omega), es_ne _ _ (by unfold RB PB; omega), es_ne _ _ (by unfold RB PB; omega), anR_at]
  have xP : ∀ p j, p < 8 → j < 9 → (p ≠ k ∨ (j ≠ 0 ∧ j ≠ 3)) → es (es (erC0 (anR x k f t h) k (x 0 3)) 2 (x 0 3) (x 0 3 + 1)) 0 3 (x 0 3 + 1) (PB p + j) = x (PB p + j) := fun p j hp hj a => by
    unfold erC0
    rw [es_off _ _ _ (by unfold PB; omega), es_off _ _ _ (by unfold PB; omega), es_off _ _ _ (by unfold PB; omega), es_off _ _ _ (by unfold PB; omega), aP p j hp hj]
  have xk0 : ∀ i, i ≠ 7 → es (es (erC0 (anR x k f t h) k (x 0 3)) 2 (x 0 3) (x 0 3 + 1)) 0 3 (x 0 3 + 1) (PB k) i = x (PB k) i := fun i a => by
    unfold erC0
    rw [es_ne _ _ (by unfold PB; omega), es_ne _ _ (by unfold PB; omega), es_ne _ _ (by omega), es_ne _ _ (by omega), aP0]
  have xk7 : es (es (erC0 (anR x k f t h) k (x 0 3)) 2 (x 0 3) (x 0 3 + 1)) 0 3 (x 0 3 + 1) (PB k) 7 = x (PB k) 7 + 1 := by
    unfold erC0
    rw [es_ne _ _ (by unfold PB; omega), es_ne _ _ (by unfold PB; omega), es_same, aP0]
  have xk3 : ∀ i, es (es (erC0 (anR x k f t h) k (x 0 3)) 2 (x 0 3) (x 0 3 + 1)) 0 3 (x 0 3 + 1) (PB k + 3) i = if i = x (PB k) 7 then x 0 3 + 1 else x (PB k + 3) i := fun i => by
    unfold erC0
    rw [es_ne _ _ (by unfold PB; omega), es_ne _ _ (by unfold PB; omega), es_ne _ _ (by omega), es_at, aP0]
    by_cases z : i = x (PB k) 7
    · rw [if_pos ⟨rfl, z⟩, if_pos z]
    · rw [if_neg (fun q => z q.2), if_neg z, aP k 3 hk8 (by decide)]
  generalize hX : es (es (erC0 (anR x k f t h) k (x 0 3)) 2 (x 0 3) (x 0 3 + 1)) 0 3 (x 0 3 + 1) = X at *
  generalize hY : rqM y k f t h = Y at *
  have hc1 : CW X := by
    obtain ⟨a1, a2, a3, a4, a5, a6, a7, a8, a9, a10⟩ := id hc
    unfold CW
    rw [x0 1 (by decide), x03, x0 4 (by decide), x0 5 (by decide), x0 6 (by decide), xlo 1 (by decide) (by decide) (by decide)]
    refine ⟨a1, by omega, a3, a4, a5, a6, fun i => ?_, fun q hq => ?_, fun q hq => ?_, fun p hp => ⟨?_, ?_⟩⟩
    · rw [x2]
      by_cases z : i = x 0 3
      · rw [if_pos z, if_pos (by omega), z]
      · rw [if_neg z, a7 i]
        by_cases w : i < x 0 3
        · rw [if_pos w, if_pos (by omega)]
        · rw [if_neg w, if_neg (by omega)]
    · by_cases z : q = x 0 3
      · subst z
        rw [xn, xn, xn, xn]
        refine ⟨?_, ?_, ?_, ?_⟩
        · show (if h = 0 then 2 else 1) ≤ 2
          split <;> omega
        · show f ≤ 3600
          omega
        · show t ≤ 3600
          omega
        · exact Nat.zero_le 1
      · rw [xR q z]
        exact a8 q (by omega)
    · have e0 : ∀ p, p < 8 → X (PB p) 0 = x (PB p) 0 := fun p hp8 => by
        by_cases z : p = k
        · rw [z]; exact xk0 0 (by decide)
        · exact congrFun (xP p 0 hp8 (by decide) (Or.inl z)) 0
      by_cases z : q = x 0 3
      · subst z
        rw [xn, xn, xn]
        show k < x 0 1 ∧ X (PB k) 0 ≤ f ∧ f ≤ t
        rw [e0 k hk8]
        exact ⟨hk1, by omega, hft.2.1⟩
      · rw [xR q z, e0 _ (by have := (a9 q (by omega)).1; omega)]
        exact a9 q (by omega)
    · by_cases z : p = k
      · subst z
        obtain ⟨b1, b2, b3, b4, b5, b6, b7, b8, b9⟩ := hkp
        unfold CWp P0 PCh PSp PPy PLv PRq at *
        rw [xk0 0 (by decide), xk0 1 (by decide), xk0 2 (by decide), xk0 5 (by decide), xk7, xk0 10 (by decide), xk0 13 (by decide), x03, x0 4 (by decide), x0 5 (by decide), xP p 1 hk8 (by decide) (by omega), xP p 2 hk8 (by decide) (by omega), xP p 4 hk8 (by decide) (by omega), xP p 5 hk8 (by decide) (by omega), xP p 6 hk8 (by decide) (by omega), xP p 7 hk8 (by decide) (by omega), xP p 8 hk8 (by decide) (by omega)]
        refine ⟨b1, b2, b3, b4, b5, ⟨by omega, fun i hi => ?_⟩, by omega, b8, b9⟩
        rw [xk3]
        by_cases z : i = x (PB p) 7
        · rw [if_pos z]; omega
        · rw [if_neg z]
          have := b6.2 i (by omega)
          omega
      · exact (a10 p hp).1.fr (fun j hj => xP p j (by omega) hj (Or.inl z)) (by rw [x03]; omega) (by rw [x0 4 (by decide)]; exact Nat.le_refl _) (by rw [x0 5 (by decide)]; exact Nat.le_refl _)
    · by_cases z : p = k
      · subst z
        intro i
        rw [xk3]
        split
        · omega
        · have := hown i
          omega
      · intro i
        rw [xP p 3 (by omega) (by decide) (Or.inl z)]
        have := (a10 p hp).2 i
        omega
  have hm1 : MW Y := by
    obtain ⟨⟨m1, m2, m3, m4, m5⟩, mr, ms, my, mp⟩ := hm
    unfold MW MWr MWs MWy MWp at *
    rw [y7 2 (by decide), y79, y7 15 (by decide), y7 19 (by decide), y7 1 (by decide), yq 8 (by decide), yq 9 (by decide), yq 10 (by decide), yq 11 (by decide), yq 12 (by decide), yq 13 (by decide), yq 19 (by decide), yq 20 (by decide), yq 21 (by decide), yq 22 (by decide), yq 23 (by decide), yq 24 (by decide)]
    refine ⟨⟨m1, by omega, m3, m4, m5⟩, fun i hi => ?_, ms, my, mp⟩
    rw [y14, y15, y16, y17, y18]
    by_cases z : i = y 7 9
    · rw [if_pos z, if_pos z, if_pos z, if_pos z, if_pos z]; omega
    · rw [if_neg z, if_neg z, if_neg z, if_neg z, if_neg z]; exact mr i (by omega)
  have hR : RELS X Y k (fun d => f ≤ d ∧ d < t + 1) := by
    have lvn : ∀ p d, (p ≠ k ∨ ¬ (f ≤ d ∧ d < t + 1)) → lvM Y p d = lvM y p d := fun p d a => by
      have e2 : mxN (lvfM Y p d) (y 7 9 + 1) = mxN (lvfM y p d) (y 7 9) := by
        show max (mxN (lvfM Y p d) (y 7 9)) (lvfM Y p d (y 7 9)) = _
        have e3 : lvfM Y p d (y 7 9) = 0 := by
          unfold lvfM
          rw [y14, y15, y16, y17, y18, if_pos rfl, if_pos rfl, if_pos rfl, if_pos rfl, if_pos rfl, if_neg (fun w => by omega)]
        have e4 : mxN (lvfM Y p d) (y 7 9) = mxN (lvfM y p d) (y 7 9) := mxN_congr _ (fun i hi => by
          have w9 : i ≠ y 7 9 := by omega
          unfold lvfM
          rw [y14, y15, y16, y17, y18, if_neg w9, if_neg w9, if_neg w9, if_neg w9, if_neg w9])
        rw [e3, e4]
        exact Nat.max_eq_left (Nat.zero_le _)
      unfold lvM illM
      rw [y79, e2, y7 15 (by decide), yq 19 (by decide), yq 20 (by decide), yq 21 (by decide)]
    unfold RELS
    rw [y7 2 (by decide), y79, y7 15 (by decide), y7 19 (by decide), y7 1 (by decide), yq 8 (by decide), yq 11 (by decide), yq 19 (by decide), yq 22 (by decide), yq 23 (by decide)]
    refine ⟨?_, fun p hp => ⟨?_, (r2 p hp).2⟩, r3, fun q hq => ?_, r5, r6⟩
    · unfold NR
      rw [x0 1 (by decide), x03, x0 4 (by decide), x0 5 (by decide), x0 6 (by decide), y7 2 (by decide), y79, y7 15 (by decide), y7 19 (by decide), y7 1 (by decide)]
      exact ⟨s1, by omega, s3, s4, s5⟩
    · obtain ⟨a1, a2, a4, a5, a6, a7⟩ := (r2 p hp).1
      have hp8 : p < 8 := by omega
      have hb := (hm.2.2.2.2 p hp).2.2.2.1
      have xp0 : ∀ i, i ≠ 7 → X (PB p) i = x (PB p) i := fun i a => by
        by_cases z : p = k
        · subst z; exact xk0 i a
        · exact congrFun (xP p 0 hp8 (by decide) (Or.inl z)) i
      refine ⟨a1.pc (xp0 0 (by decide)) (xp0 1 (by decide)) (xp0 2 (by decide)) (xp0 5 (by decide)) (xP p 1 hp8 (by decide) (by omega)) (xP p 2 hp8 (by decide) (by omega)) (by rw [yq 8 (by decide)]) (by rw [yq 9 (by decide)]) (by rw [yq 10 (by decide)]) (by rw [yq 11 (by decide)]) (fun i _ => by rw [yq 12 (by decide)]) (fun i _ => by rw [yq 13 (by decide)]) hb, fun z => a2.pc (xP p 8 hp8 (by decide) (by omega)) (fun d => lvn p d (Or.inl z)), fun z d hd hS => ?_, a4.pc (xp0 13 (by decide)) (xP p 6 hp8 (by decide) (by omega)) (xP p 7 hp8 (by decide) (by omega)) (by rw [yq 8 (by decide)]) (y7 19 (by decide)) (yq 22 (by decide)) (yq 23 (by decide)) (yq 24 (by decide)), ?_, a6.pc (xp0 10 (by decide)) (xP p 4 hp8 (by decide) (by omega)) (xP p 5 hp8 (by decide) (by omega)) (y7 15 (by decide)) (yq 19 (by decide)) (yq 20 (by decide)) (yq 21 (by decide)), a7.pc (by rw [yq 11 (by decide)]) (fun i _ => by rw [yq 12 (by decide)]) hb⟩
      · rw [xP p 8 hp8 (by decide) (by omega), lvn p d (Or.inr hS)]
        exact a2 d hd
      · unfold RO
        rw [y79]
        by_cases z : p = k
        · subst z
          rw [xk7]
          refine ⟨fun i hi => ?_, fun q hq hpq => ?_⟩
          · rw [xk3]
            by_cases w : i = x (PB p) 7
            · rw [if_pos w, Nat.add_sub_cancel, y14, if_pos s2]
              exact ⟨by omega, by omega, rfl⟩
            · rw [if_neg w, y14]
              have b := a5.1 i (by omega)
              rw [if_neg (by omega)]
              exact ⟨b.1, by omega, b.2.2⟩
          · by_cases w : q = y 7 9
            · refine ⟨x (PB p) 7, by omega, ?_⟩
              rw [xk3, if_pos rfl]; omega
            · rw [y14, if_neg w] at hpq
              obtain ⟨i, i1, i2⟩ := a5.2 q (by omega) hpq
              refine ⟨i, by omega, ?_⟩
              rw [xk3, if_neg (by omega)]
              exact i2
        · rw [show X (PB p) = x (PB p) from xP p 0 hp8 (by decide) (Or.inl z), xP p 3 hp8 (by decide) (Or.inl z)]
          refine ⟨fun i hi => ?_, fun q hq hpq => ?_⟩
          · have b := a5.1 i hi
            rw [y14, if_neg (by omega)]
            exact ⟨b.1, by omega, b.2.2⟩
          · rw [y14] at hpq
            have w : q ≠ y 7 9 := fun w => by rw [if_pos w] at hpq; exact z hpq.symm
            rw [if_neg w] at hpq
            exact a5.2 q (by omega) hpq
    · unfold QR
      rw [y14, y15, y16, y17, y18]
      by_cases z : q = y 7 9
      · rw [if_pos z, if_pos z, if_pos z, if_pos z, if_pos z, z, ← s2, xn, xn, xn, xn, xn]
        exact ⟨⟨rfl, rfl, rfl, rfl, rfl, hft.2.1⟩, hk⟩
      · obtain ⟨⟨a1, a2, a3, a4, a5, a6⟩, a7⟩ := r4 q (by omega)
        rw [if_neg z, if_neg z, if_neg z, if_neg z, if_neg z, xR q (by omega)]
        exact ⟨⟨a1, a2, a3, a4, a5, a6⟩, a7⟩
  obtain ⟨f1, f2⟩ := mark (f := f) (t' := t + 1) hc1 hR (by rw [y7 2 (by decide)]; exact hk)
  exact ⟨f1, hm1, f2.done (fun d _ w => w.2 w.1)⟩
