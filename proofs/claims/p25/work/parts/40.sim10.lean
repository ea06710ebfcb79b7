-- addPerson
theorem mxN_0 {f : Nat → Nat} : ∀ n, (∀ i, i < n → f i = 0) → mxN f n = 0
  | 0, _ => rfl
  | n + 1, h => by
    show max (mxN f n) (f n) = 0
    rw [mxN_0 n (fun i hi => h i (by omega)), h n (by omega)]
    rfl
theorem pcN_0 {y : Nat → Nat → Nat} {p : Nat} : ∀ n, (∀ i, i < n → y 22 i ≠ p) → pcN y p n = 0
  | 0, _ => rfl
  | n + 1, h => by
    show pcN y p n + _ = 0
    rw [pcN_0 n (fun i hi => h i (by omega)), if_neg (h n (by omega))]
theorem sim_add {x y : Nat → Nat → Nat} {a h : Nat} (hc : CW x) (hm : MW y) (hr : REL x y) (hn : y 7 2 < 8) (ha : 20 ≤ a ∧ a ≤ 80) (hh : 1 ≤ h ∧ h ≤ 10) : CW (addC x a h) ∧ MW (addM y a h) ∧ REL (addC x a h) (addM y a h) := by
  obtain ⟨r1, r2, r3, r4, r5, r6⟩ := hr
  obtain ⟨s1, s2, s3, s4, s5⟩ := id r1
  have y11n : y 11 (y 7 2) = 0 := r3 _ (Nat.le_refl _) hn
  have yc : ∀ c, c ≠ 7 → c ≠ 8 → c ≠ 9 → c ≠ 10 → addM y a h c = y c := fun c b d e g => by
    unfold addM
    rw [es_off _ _ _ (by omega), es_off _ _ _ (by omega), es_off _ _ _ (by omega), es_off _ _ _ (by omega)]
  have yq : ∀ c, 11 ≤ c → addM y a h c = y c := fun c b => yc c (by omega) (by omega) (by omega) (by omega)
  have y7 : ∀ i, i ≠ 2 → addM y a h 7 i = y 7 i := fun i b => by
    unfold addM
    rw [es_ne _ _ (by omega), es_ne _ _ (by omega), es_ne _ _ (by omega), es_ne _ _ (by omega)]
  have y72 : addM y a h 7 2 = y 7 2 + 1 := es_same _ _ _ _
  have y8 : ∀ i, addM y a h 8 i = if i = y 7 2 then y 7 1 else y 8 i := fun i => by
    unfold addM
    rw [es_ne _ _ (by omega), es_ne _ _ (by omega), es_ne _ _ (by omega), es_at]
    by_cases z : i = y 7 2
    · rw [if_pos ⟨rfl, z⟩, if_pos z]
    · rw [if_neg (fun q => z q.2), if_neg z]
  have y9 : ∀ i, addM y a h 9 i = if i = y 7 2 then a else y 9 i := fun i => by
    unfold addM
    rw [es_ne _ _ (by omega), es_ne _ _ (by omega), es_at, es_ne _ _ (by omega)]
    by_cases z : i = y 7 2
    · rw [if_pos ⟨rfl, z⟩, if_pos z]
    · rw [if_neg (fun q => z q.2), if_neg z]
  have y10 : ∀ i, addM y a h 10 i = if i = y 7 2 then h else y 10 i := fun i => by
    unfold addM
    rw [es_ne _ _ (by omega), es_at, es_ne _ _ (by omega), es_ne _ _ (by omega)]
    by_cases z : i = y 7 2
    · rw [if_pos ⟨rfl, z⟩, if_pos z]
    · rw [if_neg (fun q => z q.2), if_neg z]
  have xlo : ∀ c, c < 32 → c ≠ 0 → c ≠ 1 → addC x a h c = x c := fun c b d e => by
    unfold addC
    rw [es_off _ _ _ d, es_off _ _ _ e, anP_off x a h (by unfold PB; omega)]
  have x0 : ∀ i, i ≠ 1 → addC x a h 0 i = x 0 i := fun i b => by
    unfold addC
    rw [es_ne _ _ (by omega), es_ne _ _ (by omega), anP_off x a h (by unfold PB; omega)]
  have x01 : addC x a h 0 1 = x 0 1 + 1 := es_same _ _ _ _
  have x1 : ∀ i, addC x a h 1 i = if i = x 0 1 then x 0 1 + 1 else x 1 i := fun i => by
    unfold addC
    rw [es_ne _ _ (by omega), es_at]
    by_cases z : i = x 0 1
    · rw [if_pos ⟨rfl, z⟩, if_pos z]
    · rw [if_neg (fun q => z q.2), if_neg z, anP_off x a h (by unfold PB; omega)]
  have xR : ∀ q, addC x a h (RB q) = x (RB q) := fun q => by
    unfold addC
    rw [es_off _ _ _ (by unfold RB; omega), es_off _ _ _ (by unfold RB; omega), anP_off x a h (by unfold PB RB; omega)]
  have xP : ∀ p j, j < 9 → p < x 0 1 → addC x a h (PB p + j) = x (PB p + j) := fun p j hj hp => by
    unfold addC
    rw [es_off _ _ _ (by unfold PB; omega), es_off _ _ _ (by unfold PB; omega), anP_off x a h (by unfold PB; omega)]
  have xn : ∀ j i, j < 9 → addC x a h (PB (x 0 1) + j) i = pnE (x 0 6) a h j i := fun j i hj => by
    unfold addC
    rw [es_ne _ _ (by unfold PB; omega), es_ne _ _ (by unfold PB; omega)]
    unfold anP
    rw [if_pos ⟨by omega, by omega⟩, Nat.add_sub_cancel_left]
  have xn0 : ∀ i, addC x a h (PB (x 0 1)) i = pnE (x 0 6) a h 0 i := fun i => xn 0 i (by decide)
  have pz : ∀ j i, j ≠ 0 → pnE (x 0 6) a h j i = 0 := fun j i hj => if_neg hj
  have p00 : pnE (x 0 6) a h 0 0 = x 0 6 := rfl
  have p01 : pnE (x 0 6) a h 0 1 = a := rfl
  have p02 : pnE (x 0 6) a h 0 2 = h := rfl
  have p05 : pnE (x 0 6) a h 0 5 = 0 := rfl
  have p07 : pnE (x 0 6) a h 0 7 = 0 := rfl
  have p010 : pnE (x 0 6) a h 0 10 = 0 := rfl
  have p013 : pnE (x 0 6) a h 0 13 = 0 := rfl
  generalize hX : addC x a h = X at *
  generalize hY : addM y a h = Y at *
  refine ⟨?_, ?_, ?_⟩
  · obtain ⟨a1, a2, a3, a4, a5, a6, a7, a8, a9, a10⟩ := id hc
    unfold CW
    rw [x01, x0 3 (by decide), x0 4 (by decide), x0 5 (by decide), x0 6 (by decide), xlo 2 (by decide) (by decide) (by decide)]
    refine ⟨by omega, a2, a3, a4, a5, fun i => ?_, a7, a8.eq xR, fun q hq => ?_, fun p hp => ?_⟩
    · rw [x1]
      by_cases z : i = x 0 1
      · rw [if_pos z, if_pos (by omega), z]
      · rw [if_neg z, a6 i]
        by_cases w : i < x 0 1
        · rw [if_pos w, if_pos (by omega)]
        · rw [if_neg w, if_neg (by omega)]
    · rw [xR]
      have b := a9 q hq
      rw [show X (PB (x (RB q) 0)) = x (PB (x (RB q) 0)) from xP _ 0 (by decide) b.1]
      exact ⟨by omega, b.2⟩
    · by_cases z : p = x 0 1
      · subst z
        refine ⟨?_, fun i => by rw [xn 3 i (by decide), pz 3 i (by decide)]; exact Nat.zero_le _⟩
        unfold CWp P0 PCh PSp PPy PLv PRq
        rw [xn0, xn0, xn0, xn0, xn0, xn0, xn0, p00, p01, p02, p05, p07, p010, p013]
        refine ⟨⟨by omega, ha, hh⟩, ⟨by omega, fun i hi => by omega⟩, ⟨by omega, fun i hi => by omega⟩, ⟨by omega, fun i hi => by omega⟩, fun i hi => ?_, ⟨by omega, fun i hi => by omega⟩, by omega, by omega, by omega⟩
        rw [xn 8 i (by decide), pz 8 i (by decide)]
        omega
      · refine ⟨(a10 p (by omega)).1.fr (fun j hj => xP p j hj (by omega)) (by rw [x0 3 (by decide)]; exact Nat.le_refl _) (by rw [x0 4 (by decide)]; exact Nat.le_refl _) (by rw [x0 5 (by decide)]; exact Nat.le_refl _), ?_⟩
        rw [xP p 3 (by decide) (by omega)]
        exact (a10 p (by omega)).2
  · obtain ⟨⟨m1, m2, m3, m4, m5⟩, mr, ms, my, mp⟩ := hm
    unfold MW MWr MWs MWy MWp at *
    rw [y72, y7 9 (by decide), y7 15 (by decide), y7 19 (by decide), y7 1 (by decide), yq 11 (by decide), yq 12 (by decide), yq 13 (by decide), yq 14 (by decide), yq 15 (by decide), yq 16 (by decide), yq 17 (by decide), yq 18 (by decide), yq 19 (by decide), yq 20 (by decide), yq 21 (by decide), yq 22 (by decide), yq 23 (by decide), yq 24 (by decide)]
    refine ⟨⟨by omega, m2, m3, m4, m5⟩, fun q hq => ⟨by have := (mr q hq).1; omega, (mr q hq).2⟩, ms, my, fun p hp => ?_⟩
    rw [y8, y9, y10]
    by_cases z : p = y 7 2
    · rw [if_pos z, if_pos z, if_pos z, z, y11n]
      exact ⟨m5, ha, hh, by omega, fun i hi => by omega⟩
    · rw [if_neg z, if_neg z, if_neg z]
      exact mp p (by omega)
  · have lvy : ∀ p d, lvM Y p d = lvM y p d := fun p d => by
      unfold lvM illM lvfM
      rw [y7 9 (by decide), y7 15 (by decide), yq 14 (by decide), yq 15 (by decide), yq 16 (by decide), yq 17 (by decide), yq 18 (by decide), yq 19 (by decide), yq 20 (by decide), yq 21 (by decide)]
    unfold REL
    rw [y72, y7 9 (by decide), y7 15 (by decide), y7 19 (by decide), y7 1 (by decide), yq 11 (by decide), yq 14 (by decide), yq 19 (by decide), yq 22 (by decide), yq 23 (by decide)]
    refine ⟨?_, fun p hp => ?_, fun p hp hp8 => r3 p (by omega) hp8, fun q hq => ⟨?_, by have := (r4 q hq).2; omega⟩, fun k hk => ⟨by have := (r5 k hk).1; omega, (r5 k hk).2⟩, fun k hk => by have := r6 k hk; omega⟩
    · unfold NR
      rw [x01, x0 3 (by decide), x0 4 (by decide), x0 5 (by decide), x0 6 (by decide), y72, y7 9 (by decide), y7 15 (by decide), y7 19 (by decide), y7 1 (by decide)]
      exact ⟨by omega, s2, s3, s4, s5⟩
    · rw [y8]
      by_cases z : p = y 7 2
      · rw [if_pos z]
        refine ⟨?_, Nat.le_refl _⟩
        have hp1 : p = x 0 1 := by omega
        subst hp1
        refine ⟨?_, fun d hd => ?_, ?_, ?_, ?_, ?_⟩
        · unfold RP
          rw [xn0, xn0, xn0, xn0, p00, p01, p02, p05, y8, y9, y10, if_pos z, if_pos z, if_pos z, yq 11 (by decide), z, y11n]
          exact ⟨s5, rfl, rfl, rfl, fun i hi => by omega⟩
        · rw [xn 8 d (by decide), pz 8 d (by decide), lvy, z]
          unfold lvM
          rw [mxN_0 (f := lvfM y (y 7 2) d) (y 7 9) (fun i hi => if_neg (fun w => by have := (r4 i hi).2; omega))]
          split <;> rfl
        · unfold RY
          have e1 := pcN_off (yq 22 (by decide)) (x 0 1)
          rw [xn0, p013, y7 19 (by decide), e1, yq 22 (by decide), yq 23 (by decide), pcN_0 (y 7 19) (fun i hi => by have := (r5 i hi).1; omega)]
          refine ⟨rfl, fun k hk hpk => by have := (r5 k hk).1; omega, ?_⟩
          by_cases w : 0 < y 7 2
          · exact (r2 0 w).1.2.2.1.2.2
          · exact fun i j hij hj => by have := (r5 j hj).1; omega
        · unfold RO
          rw [xn0, p07, y7 9 (by decide), yq 14 (by decide)]
          exact ⟨fun i hi => by omega, fun q hq hpq => by have := (r4 q hq).2; omega⟩
        · unfold RSp
          rw [xn0, p010, y7 15 (by decide), yq 19 (by decide)]
          exact ⟨fun i hi => by omega, fun k hk hpk => by have := r6 k hk; omega⟩
        · unfold RD
          rw [yq 11 (by decide), z, y11n]
          exact fun i j hi => by omega
      · rw [if_neg z]
        obtain ⟨⟨q1, q2, q3, q4, q5, q6⟩, q7⟩ := r2 p (by omega)
        have hb := (hm.2.2.2.2 p (by omega)).2.2.2.1
        have hp1 : p < x 0 1 := by omega
        have q0 : ∀ i, X (PB p) i = x (PB p) i := fun i => congrFun (xP p 0 (by decide) hp1) i
        refine ⟨⟨q1.pc (q0 0) (q0 1) (q0 2) (q0 5) (xP p 1 (by decide) hp1) (xP p 2 (by decide) hp1) (by rw [y8, if_neg z]) (by rw [y9, if_neg z]) (by rw [y10, if_neg z]) (by rw [yq 11 (by decide)]) (fun i _ => by rw [yq 12 (by decide)]) (fun i _ => by rw [yq 13 (by decide)]) hb, q2.pc (xP p 8 (by decide) hp1) (lvy p), q3.pc (q0 13) (xP p 6 (by decide) hp1) (xP p 7 (by decide) hp1) (by rw [y8, if_neg z]) (y7 19 (by decide)) (yq 22 (by decide)) (yq 23 (by decide)) (yq 24 (by decide)), q4.pc (q0 7) (xP p 3 (by decide) hp1) (y7 9 (by decide)) (yq 14 (by decide)), q5.pc (q0 10) (xP p 4 (by decide) hp1) (xP p 5 (by decide) hp1) (y7 15 (by decide)) (yq 19 (by decide)) (yq 20 (by decide)) (yq 21 (by decide)), q6.pc (by rw [yq 11 (by decide)]) (fun i _ => by rw [yq 12 (by decide)]) hb⟩, q7⟩
    · obtain ⟨a1, a2, a3, a4, a5, a6⟩ := (r4 q hq).1
      unfold QR
      rw [xR, yq 14 (by decide), yq 15 (by decide), yq 16 (by decide), yq 17 (by decide), yq 18 (by decide)]
      exact ⟨a1, a2, a3, a4, a5, a6⟩
-- working days
theorem wkN_is (f : Nat) : ∀ n, wkN f n + (f / 7 * 5 + min (f % 7) 5) = (f + n) / 7 * 5 + min ((f + n) % 7) 5
  | 0 => by show 0 + _ = _; rw [Nat.zero_add]; rfl
  | n + 1 => by
    have h := wkN_is f n
    show wkN f n + (if (f + n) % 7 < 5 then 1 else 0) + _ = _
    split <;> omega
