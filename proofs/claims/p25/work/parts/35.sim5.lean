/-! ===== the calls keep both sides together ===== -/
theorem RP.pc {x y x' y' : Nat → Nat → Nat} {p : Nat} (h : RP x y p) (e0 : x' (PB p) 0 = x (PB p) 0) (e1 : x' (PB p) 1 = x (PB p) 1) (e2 : x' (PB p) 2 = x (PB p) 2) (e5 : x' (PB p) 5 = x (PB p) 5) (f1 : x' (PB p + 1) = x (PB p + 1)) (f2 : x' (PB p + 2) = x (PB p + 2)) (g8 : y' 8 p = y 8 p) (g9 : y' 9 p = y 9 p) (g10 : y' 10 p = y 10 p) (g11 : y' 11 p = y 11 p) (g12 : ∀ i, i < 10 → y' 12 (10 * p + i) = y 12 (10 * p + i)) (g13 : ∀ i, i < 10 → y' 13 (10 * p + i) = y 13 (10 * p + i)) (hb : y 11 p ≤ 10) : RP x' y' p := by
  obtain ⟨a0, a1, a2, a3, a4⟩ := h
  refine ⟨by rw [e0, g8]; exact a0, by rw [e1, g9]; exact a1, by rw [e2, g10]; exact a2, by rw [e5, g11]; exact a3, fun i hi => ?_⟩
  rw [g11] at hi
  rw [f1, f2, g12 i (by omega), g13 i (by omega)]
  exact a4 i hi
theorem RO.pc {x y x' y' : Nat → Nat → Nat} {p : Nat} (h : RO x y p) (e7 : x' (PB p) 7 = x (PB p) 7) (f3 : x' (PB p + 3) = x (PB p + 3)) (g9 : y' 7 9 = y 7 9) (g14 : y' 14 = y 14) : RO x' y' p := by
  unfold RO at *
  rw [e7, f3, g9, g14]
  exact h
theorem RSp.pc {x y x' y' : Nat → Nat → Nat} {p : Nat} (h : RSp x y p) (e10 : x' (PB p) 10 = x (PB p) 10) (f4 : x' (PB p + 4) = x (PB p + 4)) (f5 : x' (PB p + 5) = x (PB p + 5)) (g15 : y' 7 15 = y 7 15) (g19 : y' 19 = y 19) (g20 : y' 20 = y 20) (g21 : y' 21 = y 21) : RSp x' y' p := by
  unfold RSp at *
  rw [e10, f4, f5, g15, g19, g20, g21]
  exact h
theorem RY.pc {x y x' y' : Nat → Nat → Nat} {p : Nat} (h : RY x y p) (e13 : x' (PB p) 13 = x (PB p) 13) (f6 : x' (PB p + 6) = x (PB p + 6)) (f7 : x' (PB p + 7) = x (PB p + 7)) (g8 : y' 8 p = y 8 p) (g19 : y' 7 19 = y 7 19) (g22 : y' 22 = y 22) (g23 : y' 23 = y 23) (g24 : y' 24 = y 24) : RY x' y' p := by
  have e1 := pcN_off g22 p
  unfold RY at *
  rw [e13, f6, f7, g8, g19, g22, g23, g24, e1]
  refine ⟨h.1, fun k a b => ?_, h.2.2⟩
  rw [e1]
  exact h.2.1 k a b
theorem RD.pc {y y' : Nat → Nat → Nat} {p : Nat} (h : RD y p) (g11 : y' 11 p = y 11 p) (g12 : ∀ i, i < 10 → y' 12 (10 * p + i) = y 12 (10 * p + i)) (hb : y 11 p ≤ 10) : RD y' p := fun i j hi hj hij => by
  rw [g11] at hi hj
  rw [g12 i (by omega), g12 j (by omega)] at hij
  exact h i j hi hj hij
theorem RV.pc {x y x' y' : Nat → Nat → Nat} {p : Nat} (h : RV x y p) (f8 : x' (PB p + 8) = x (PB p + 8)) (hl : ∀ d, lvM y' p d = lvM y p d) : RV x' y' p := fun d hd => by
  rw [f8, hl]
  exact h d hd
/-- counts may grow, what stands is the same -/
theorem CW.fr0 {x x' : Nat → Nat → Nat} (h : CW x) (h1 : x' 1 = x 1) (h2 : x' 2 = x 2) (hx : ∀ c, 32 ≤ c → x' c = x c) (h01 : x' 0 1 = x 0 1) (h03 : x' 0 3 = x 0 3) (h04 : x 0 4 ≤ x' 0 4 ∧ x' 0 4 ≤ 30) (h05 : x 0 5 ≤ x' 0 5 ∧ x' 0 5 ≤ 20) (h06 : x' 0 6 ≤ 3600) : CW x' := by
  obtain ⟨a1, a2, a3, a4, a5, a6, a7, a8, a9, a10⟩ := h
  have hP : ∀ p k, x' (PB p + k) = x (PB p + k) := fun p k => hx _ (by unfold PB; omega)
  have hP0 : ∀ p, x' (PB p) = x (PB p) := fun p => hP p 0
  have hR : ∀ q, x' (RB q) = x (RB q) := fun q => hx _ (by unfold RB; omega)
  unfold CW
  rw [h01, h03, h1, h2]
  refine ⟨a1, a2, h04.2, h05.2, h06, a6, a7, a8.eq hR, fun q hq => ?_, fun p hp => ⟨?_, ?_⟩⟩
  · rw [hR, hP0]
    exact a9 q hq
  · exact (a10 p hp).1.fr (fun k _ => hP p k) (by rw [h03]; exact Nat.le_refl _) h04.1 h05.1
  · rw [hP]
    exact (a10 p hp).2
/-- a person's rows changed, the others' not -/
theorem CW.fr1 {x x' : Nat → Nat → Nat} {p : Nat} (h : CW x) (h0 : x' 0 = x 0) (h1 : x' 1 = x 1) (h2 : x' 2 = x 2) (hR : ∀ q, x' (RB q) = x (RB q)) (hP : ∀ p' k, k < 9 → p' < x 0 1 → p' ≠ p → x' (PB p' + k) = x (PB p' + k)) (hf : x' (PB p) 0 = x (PB p) 0) (hp : CWp x' p) (ho : ∀ i, x' (PB p + 3) i ≤ x 0 3) : CW x' := by
  obtain ⟨a1, a2, a3, a4, a5, a6, a7, a8, a9, a10⟩ := h
  unfold CW
  rw [h0, h1, h2]
  refine ⟨a1, a2, a3, a4, a5, a6, a7, a8.eq hR, fun q hq => ?_, fun p' hp' => ?_⟩
  · rw [hR]
    by_cases z : x (RB q) 0 = p
    · have := a9 q hq
      rw [z] at this ⊢
      rw [hf]
      exact this
    · rw [show x' (PB (x (RB q) 0)) = x (PB (x (RB q) 0)) from hP _ 0 (by decide) (a9 q hq).1 z]
      exact a9 q hq
  · by_cases z : p' = p
    · subst z
      exact ⟨hp, ho⟩
    · exact ⟨(a10 p' hp').1.fr (fun k hk => hP p' k hk hp' z) (by rw [h0]; exact Nat.le_refl _) (by rw [h0]; exact Nat.le_refl _) (by rw [h0]; exact Nat.le_refl _), by rw [hP p' 3 (by decide) hp' z]; exact (a10 p' hp').2⟩
-- pass
theorem sim_pass {x y : Nat → Nat → Nat} {d : Nat} (hc : CW x) (hm : MW y) (hr : REL x y) (hd : x 0 6 + d ≤ 3600) : CW (es x 0 6 (x 0 6 + d)) ∧ MW (es y 7 1 (y 7 1 + d)) ∧ REL (es x 0 6 (x 0 6 + d)) (es y 7 1 (y 7 1 + d)) := by
  obtain ⟨r1, r2, r3, r4, r5, r6⟩ := hr
  have ht : x 0 6 = y 7 1 := r1.2.2.2.2
  have hy : YF y (es y 7 1 (y 7 1 + d)) := ⟨fun c a b => es_off _ _ _ (by omega), es_ne _ _ (by omega), es_ne _ _ (by omega), es_ne _ _ (by omega), es_ne _ _ (by omega)⟩
  have h71 : es y 7 1 (y 7 1 + d) 7 1 = y 7 1 + d := es_same _ _ _ _
  refine ⟨?_, ?_, ?_⟩
  · have n4 := hc.ns
    have n5 := hc.ny
    refine hc.fr0 (es_off _ _ _ (by omega)) (es_off _ _ _ (by omega)) (fun c h => es_off _ _ _ (by omega)) (es_ne _ _ (by omega)) (es_ne _ _ (by omega)) ?_ ?_ ?_
    · rw [es_ne _ _ (by omega)]; exact ⟨Nat.le_refl _, n4⟩
    · rw [es_ne _ _ (by omega)]; exact ⟨Nat.le_refl _, n5⟩
    · rw [es_same]; exact hd
  · obtain ⟨⟨m1, m2, m3, m4, m5⟩, mr, ms, my, mp⟩ := hm
    unfold MW MWr MWs MWy MWp at *
    rw [hy.2.1, hy.2.2.1, hy.2.2.2.1, hy.2.2.2.2, h71, hy.1 8 (by decide) (by decide), hy.1 9 (by decide) (by decide), hy.1 10 (by decide) (by decide), hy.1 11 (by decide) (by decide), hy.1 12 (by decide) (by decide), hy.1 13 (by decide) (by decide), hy.1 14 (by decide) (by decide), hy.1 15 (by decide) (by decide), hy.1 16 (by decide) (by decide), hy.1 17 (by decide) (by decide), hy.1 18 (by decide) (by decide), hy.1 19 (by decide) (by decide), hy.1 20 (by decide) (by decide), hy.1 21 (by decide) (by decide), hy.1 22 (by decide) (by decide), hy.1 23 (by decide) (by decide), hy.1 24 (by decide) (by decide)]
    exact ⟨⟨m1, m2, m3, m4, by omega⟩, mr, ms, my, mp⟩
  · unfold REL
    rw [hy.2.1, hy.2.2.1, hy.2.2.2.1, hy.2.2.2.2, h71, hy.1 8 (by decide) (by decide), hy.1 11 (by decide) (by decide), hy.1 14 (by decide) (by decide), hy.1 19 (by decide) (by decide), hy.1 22 (by decide) (by decide), hy.1 23 (by decide) (by decide)]
    refine ⟨?_, fun p hp => ⟨(r2 p hp).1.fr (fun k _ => es_off _ _ _ (by unfold PB; omega)) hy, by have := (r2 p hp).2; omega⟩, r3, fun q hq => ⟨(r4 q hq).1.fr (es_off _ _ _ (by unfold RB; omega)) hy, (r4 q hq).2⟩, fun k hk => ⟨(r5 k hk).1, by have := (r5 k hk).2; omega⟩, r6⟩
    unfold NR at *
    rw [hy.2.1, hy.2.2.1, hy.2.2.2.1, hy.2.2.2.2, h71, es_same, es_ne _ _ (by omega), es_ne _ _ (by omega), es_ne _ _ (by omega), es_ne _ _ (by omega)]
    exact ⟨r1.1, r1.2.1, r1.2.2.1, r1.2.2.2.1, by omega⟩
-- payOut
theorem pcN_eq {y y' : Nat → Nat → Nat} {p : Nat} : ∀ n, (∀ i, i < n → y' 22 i = y 22 i) → pcN y' p n = pcN y p n
  | 0, _ => rfl
  | n + 1, h => by
    show pcN y' p n + _ = pcN y p n + _
    rw [pcN_eq n (fun i hi => h i (by omega)), h n (by omega)]
theorem sim_pay {x y : Nat → Nat → Nat} {k h : Nat} (hc : CW x) (hm : MW y) (hr : REL x y) (hk : k < y 7 2) (hh : h ≤ 20000) (hn : y 7 19 < 20) : CW (es (epC x k (x 0 6) h) 0 5 (x 0 5 + 1)) ∧ MW (pyM y k h) ∧ REL (es (epC x k (x 0 6) h) 0 5 (x 0 5 + 1)) (pyM y k h) := by
  obtain ⟨r1, r2, r3, r4, r5, r6⟩ := hr
  obtain ⟨s1, s2, s3, s4, s5⟩ := id r1
  have hk8 : k < 8 := by have := hm.1.1; omega
  obtain ⟨⟨p1, p2, p3, p4, p5, p6⟩, p7⟩ := r2 k hk
  have hkp := hc.p (p := k) (by omega)
  have y22 : ∀ i, pyM y k h 22 i = if i = y 7 19 then k else y 22 i := fun i => by
    unfold pyM
    rw [es_ne _ _ (by omega), es_ne _ _ (by omega), es_ne _ _ (by omega), es_at]
    by_cases z : i = y 7 19
    · rw [if_pos ⟨rfl, z⟩, if_pos z]
    · rw [if_neg (fun q => z q.2), if_neg z]
  have y23 : ∀ i, pyM y k h 23 i = if i = y 7 19 then y 7 1 else y 23 i := fun i => by
    unfold pyM
    rw [es_ne _ _ (by omega), es_ne _ _ (by omega), es_at, es_ne _ _ (by omega)]
    by_cases z : i = y 7 19
    · rw [if_pos ⟨rfl, z⟩, if_pos z]
    · rw [if_neg (fun q => z q.2), if_neg z]
  have y24 : ∀ i, pyM y k h 24 i = if i = y 7 19 then h else y 24 i := fun i => by
    unfold pyM
    rw [es_ne _ _ (by omega), es_at, es_ne _ _ (by omega), es_ne _ _ (by omega)]
    by_cases z : i = y 7 19
    · rw [if_pos ⟨rfl, z⟩, if_pos z]
    · rw [if_neg (fun q => z q.2), if_neg z]
  have yc : ∀ c, c ≠ 22 → c ≠ 23 → c ≠ 24 → c ≠ 7 → pyM y k h c = y c := fun c a b d e => by
    unfold pyM
    rw [es_off _ _ _ (by omega), es_off _ _ _ (by omega), es_off _ _ _ (by omega), es_off _ _ _ (by omega)]
  have y7 : ∀ i, i ≠ 19 → pyM y k h 7 i = y 7 i := fun i a => by
    unfold pyM
    rw [es_ne _ _ (by omega), es_ne _ _ (by omega), es_ne _ _ (by omega), es_ne _ _ (by omega)]
  have y719 : pyM y k h 7 19 = y 7 19 + 1 := es_same _ _ _ _
  have lvy : ∀ p d, lvM (pyM y k h) p d = lvM y p d := fun p d => by
    unfold lvM illM lvfM
    rw [y7 9 (by decide), y7 15 (by decide), yc 14 (by decide) (by decide) (by decide) (by decide), yc 15 (by decide) (by decide) (by decide) (by decide), yc 16 (by decide) (by decide) (by decide) (by decide), yc 17 (by decide) (by decide) (by decide) (by decide), yc 18 (by decide) (by decide) (by decide) (by decide), yc 19 (by decide) (by decide) (by decide) (by decide), yc 20 (by decide) (by decide) (by decide) (by decide), yc 21 (by decide) (by decide) (by decide) (by decide)]
  have xlo : ∀ c, c < 32 → c ≠ 0 → es (epC x k (x 0 6) h) 0 5 (x 0 5 + 1) c = x c := fun c a b => by rw [es_off _ _ _ b, epC_lo x k _ _ a]
  have x0 : ∀ i, i ≠ 5 → es (epC x k (x 0 6) h) 0 5 (x 0 5 + 1) 0 i = x 0 i := fun i a => by rw [es_ne _ _ (by omega), epC_lo x k _ _ (by decide)]
  have x05 : es (epC x k (x 0 6) h) 0 5 (x 0 5 + 1) 0 5 = x 0 5 + 1 := es_same _ _ _ _
  have xR : ∀ q, es (epC x k (x 0 6) h) 0 5 (x 0 5 + 1) (RB q) = x (RB q) := fun q => by
    unfold epC
    rw [es_off _ _ _ (by unfold RB; omega), es_off _ _ _ (by unfold RB PB; omega), es_off _ _ _ (by unfold RB PB; omega), es_off _ _ _ (by unfold RB PB; omega)]
  have xP : ∀ p j, j < 9 → (p ≠ k ∨ (j ≠ 0 ∧ j ≠ 6 ∧ j ≠ 7)) → es (epC x k (x 0 6) h) 0 5 (x 0 5 + 1) (PB p + j) = x (PB p + j) := fun p j hj a => by
    unfold epC
    rw [es_off _ _ _ (by unfold PB; omega), es_off _ _ _ (by unfold PB; omega), es_off _ _ _ (by unfold PB; omega), es_off _ _ _ (by unfold PB; omega)]
  have xk0 : ∀ i, i ≠ 13 → es (epC x k (x 0 6) h) 0 5 (x 0 5 + 1) (PB k) i = x (PB k) i := fun i a => by
    unfold epC
    rw [es_ne _ _ (by unfold PB; omega), es_ne _ _ (by omega), es_ne _ _ (by omega), es_ne _ _ (by omega)]
  have xk13 : es (epC x k (x 0 6) h) 0 5 (x 0 5 + 1) (PB k) 13 = x (PB k) 13 + 1 := by
    unfold epC
    rw [es_ne _ _ (by unfold PB; omega), es_same]
  have xk6 : ∀ i, es (epC x k (x 0 6) h) 0 5 (x 0 5 + 1) (PB k + 6) i = if i = x (PB k) 13 then x 0 6 else x (PB k + 6) i := fun i => by
    unfold epC
    rw [es_ne _ _ (by unfold PB; omega), es_ne _ _ (by omega), es_ne _ _ (by omega), es_at]
    by_cases z : i = x (PB k) 13
    · rw [if_pos ⟨rfl, z⟩, if_pos z]
    · rw [if_neg (fun q => z q.2), if_neg z]
  have xk7 : ∀ i, es (epC x k (x 0 6) h) 0 5 (x 0 5 + 1) (PB k + 7) i = if i = x (PB k) 13 then h else x (PB k + 7) i := fun i => by
    unfold epC
    rw [es_ne _ _ (by unfold PB; omega), es_ne _ _ (by omega), es_at]
    by_cases z : i = x (PB k) 13
    · rw [if_pos ⟨rfl, z⟩, if_pos z]
    · rw [if_neg (fun q => z q.2), if_neg z, es_ne _ _ (by omega)]
  have htd := hc.td
  generalize hX : es (epC x k (x 0 6) h) 0 5 (x 0 5 + 1) = X at *
  generalize hY : pyM y k h = Y at *
  obtain ⟨⟨m1, m2, m3, m4, m5⟩, mr, ms, my, mp⟩ := hm
  refine ⟨?_, ?_, ?_⟩
  · obtain ⟨a1, a2, a3, a4, a5, a6, a7, a8, a9, a10⟩ := id hc
    unfold CW
    rw [x0 1 (by decide), x0 3 (by decide), x0 4 (by decide), x05, x0 6 (by decide), xlo 1 (by decide) (by decide), xlo 2 (by decide) (by decide)]
    refine ⟨a1, a2, a3, by omega, a5, a6, a7, a8.eq xR, fun q hq => ?_, fun p hp => ⟨?_, ?_⟩⟩
    · rw [xR]
      have e0 : X (PB (x (RB q) 0)) 0 = x (PB (x (RB q) 0)) 0 := by
        by_cases z : x (RB q) 0 = k
        · rw [z]; exact xk0 0 (by decide)
        · exact congrFun (xP _ 0 (by decide) (Or.inl z)) 0
      rw [e0]
      exact a9 q hq
    · by_cases z : p = k
      · subst z
        obtain ⟨b1, b2, b3, b4, b5, b6, b7, b8, b9⟩ := hkp
        unfold CWp P0 PCh PSp PPy PLv PRq at *
        rw [xk0 0 (by decide), xk0 1 (by decide), xk0 2 (by decide), xk0 5 (by decide), xk0 7 (by decide), xk0 10 (by decide), xk13, x0 3 (by decide), x0 4 (by decide), x05, xP p 1 (by decide) (by omega), xP p 2 (by decide) (by omega), xP p 3 (by decide) (by omega), xP p 4 (by decide) (by omega), xP p 5 (by decide) (by omega), xP p 8 (by decide) (by omega)]
        refine ⟨b1, b2, b3, ⟨by omega, fun i hi => ?_⟩, b5, b6, b7, b8, by omega⟩
        rw [xk6, xk7]
        by_cases z : i = x (PB p) 13
        · rw [if_pos z, if_pos z]; exact ⟨a5, hh⟩
        · rw [if_neg z, if_neg z]; exact b4.2 i (by omega)
      · exact (a10 p hp).1.fr (fun j hj => xP p j hj (Or.inl z)) (by rw [x0 3 (by decide)]; exact Nat.le_refl _) (by rw [x0 4 (by decide)]; exact Nat.le_refl _) (by rw [x05]; omega)
    · rw [xP p 3 (by decide) (by omega)]
      exact (a10 p hp).2
  · unfold MW MWr MWs MWy MWp at *
    rw [y7 2 (by decide), y7 9 (by decide), y7 15 (by decide), y719, y7 1 (by decide), yc 8 (by decide) (by decide) (by decide) (by decide), yc 9 (by decide) (by decide) (by decide) (by decide), yc 10 (by decide) (by decide) (by decide) (by decide), yc 11 (by decide) (by decide) (by decide) (by decide), yc 12 (by decide) (by decide) (by decide) (by decide), yc 13 (by decide) (by decide) (by decide) (by decide), yc 14 (by decide) (by decide) (by decide) (by decide), yc 15 (by decide) (by decide) (by decide) (by decide), yc 16 (by decide) (by decide) (by decide) (by decide), yc 17 (by decide) (by decide) (by decide) (by decide), yc 18 (by decide) (by decide) (by decide) (by decide), yc 19 (by decide) (by decide) (by decide) (by decide), yc 20 (by decide) (by decide) (by decide) (by decide), yc 21 (by decide) (by decide) (by decide) (by decide)]
    refine ⟨⟨m1, m2, m3, by omega, m5⟩, mr, ms, fun i hi => ?_, mp⟩
    rw [y22, y23, y24]
    by_cases z : i = y 7 19
    · rw [if_pos z, if_pos z, if_pos z]; exact ⟨hk8, m5, hh⟩
    · rw [if_neg z, if_neg z, if_neg z]; exact my i (by omega)
  · have epc : ∀ p n, n ≤ y 7 19 → pcN Y p n = pcN y p n := fun p n hn => pcN_eq n (fun i hi => by rw [y22, if_neg (by omega)])
    unfold REL
    rw [y7 2 (by decide), y7 9 (by decide), y7 15 (by decide), y719, y7 1 (by decide), yc 8 (by decide) (by decide) (by decide) (by decide), yc 11 (by decide) (by decide) (by decide) (by decide), yc 14 (by decide) (by decide) (by decide) (by decide), yc 19 (by decide) (by decide) (by decide) (by decide)]
    refine ⟨?_, fun p hp => ⟨?_, (r2 p hp).2⟩, r3, fun q hq => ⟨?_, (r4 q hq).2⟩, fun i hi => ?_, r6⟩
    · unfold NR
      rw [x0 1 (by decide), x0 3 (by decide), x0 4 (by decide), x05, x0 6 (by decide), y7 2 (by decide), y7 9 (by decide), y7 15 (by decide), y719, y7 1 (by decide)]
      exact ⟨s1, s2, s3, by omega, s5⟩
    · obtain ⟨⟨q1, q2, q3, q4, q5, q6⟩, q7⟩ := r2 p hp
      have hb := (mp p hp).2.2.2.1
      have xp0 : ∀ i, i ≠ 13 → X (PB p) i = x (PB p) i := fun i a => by
        by_cases z : p = k
        · subst z; exact xk0 i a
        · exact congrFun (xP p 0 (by decide) (Or.inl z)) i
      refine ⟨q1.pc (xp0 0 (by decide)) (xp0 1 (by decide)) (xp0 2 (by decide)) (xp0 5 (by decide)) (xP p 1 (by decide) (by omega)) (xP p 2 (by decide) (by omega)) (by rw [yc 8 (by decide) (by decide) (by decide) (by decide)]) (by rw [yc 9 (by decide) (by decide) (by decide) (by decide)]) (by rw [yc 10 (by decide) (by decide) (by decide) (by decide)]) (by rw [yc 11 (by decide) (by decide) (by decide) (by decide)]) (fun i _ => by rw [yc 12 (by decide) (by decide) (by decide) (by decide)]) (fun i _ => by rw [yc 13 (by decide) (by decide) (by decide) (by decide)]) hb, q2.pc (xP p 8 (by decide) (by omega)) (lvy p), ?_, q4.pc (xp0 7 (by decide)) (xP p 3 (by decide) (by omega)) (y7 9 (by decide)) (yc 14 (by decide) (by decide) (by decide) (by decide)), q5.pc (xp0 10 (by decide)) (xP p 4 (by decide) (by omega)) (xP p 5 (by decide) (by omega)) (y7 15 (by decide)) (yc 19 (by decide) (by decide) (by decide) (by decide)) (yc 20 (by decide) (by decide) (by decide) (by decide)) (yc 21 (by decide) (by decide) (by decide) (by decide)), q6.pc (by rw [yc 11 (by decide) (by decide) (by decide) (by decide)]) (fun i _ => by rw [yc 12 (by decide) (by decide) (by decide) (by decide)]) hb⟩
      have hs : ∀ i j, i ≤ j → j < y 7 19 + 1 → Y 23 i ≤ Y 23 j := fun i j hij hj => by
        rw [y23, y23]
        by_cases z : i = y 7 19
        · rw [if_pos z, if_pos (by omega)]; exact Nat.le_refl _
        · rw [if_neg z]
          by_cases w : j = y 7 19
          · rw [if_pos w]; exact (r5 i (by omega)).2
          · rw [if_neg w]; exact q3.2.2 i j hij (by omega)
      have epl : pcN Y p (y 7 19 + 1) = pcN y p (y 7 19) + (if k = p then 1 else 0) := by
        show pcN Y p (y 7 19) + (if Y 22 (y 7 19) = p then 1 else 0) = _
        rw [epc p _ (Nat.le_refl _), y22, if_pos rfl]
      unfold RY
      rw [y719, yc 8 (by decide) (by decide) (by decide) (by decide), epl]
      by_cases z : p = k
      · subst z
        rw [xk13, if_pos rfl]
        refine ⟨by rw [q3.1], fun i hi hpi => ?_, hs⟩
        rw [epc p i (by omega), y23, y24, xk6, xk7]
        by_cases w : i = y 7 19
        · subst w
          rw [if_pos q3.1.symm, if_pos rfl, if_pos q3.1.symm, if_pos rfl]
          exact ⟨s5, rfl, q7⟩
        · rw [y22, if_neg w] at hpi
          have hlt := pcN_lt (y := y) (p := p) (k := i) (k' := y 7 19) (by omega) hpi
          rw [if_neg (by rw [q3.1]; omega), if_neg w, if_neg (by rw [q3.1]; omega), if_neg w]
          exact q3.2.1 i (by omega) hpi
      · rw [show X (PB p) 13 = x (PB p) 13 from congrFun (xP p 0 (by decide) (Or.inl z)) 13, if_neg (fun w => z w.symm), xP p 6 (by decide) (Or.inl z), xP p 7 (by decide) (Or.inl z)]
        refine ⟨q3.1, fun i hi hpi => ?_, hs⟩
        rw [y22] at hpi
        have w : i ≠ y 7 19 := fun w => by rw [if_pos w] at hpi; exact z hpi.symm
        rw [if_neg w] at hpi
        rw [epc p i (by omega), y23, y24, if_neg w, if_neg w]
        exact q3.2.1 i (by omega) hpi
    · obtain ⟨a1, a2, a3, a4, a5, a6⟩ := (r4 q hq).1
      unfold QR
      rw [xR, yc 14 (by decide) (by decide) (by decide) (by decide), yc 15 (by decide) (by decide) (by decide) (by decide), yc 16 (by decide) (by decide) (by decide) (by decide), yc 17 (by decide) (by decide) (by decide) (by decide), yc 18 (by decide) (by decide) (by decide) (by decide)]
      exact ⟨a1, a2, a3, a4, a5, a6⟩
    · rw [y22, y23]
      by_cases z : i = y 7 19
      · rw [if_pos z, if_pos z]; exact ⟨hk, Nat.le_refl _⟩
      · rw [if_neg z, if_neg z]; exact r5 i (by omega)
