-- setHours
theorem laN_is (cd : Nat → Nat) (d z : Nat) : ∀ n, (laN cd d z n < n ∧ cd (laN cd d z n) = d) ∨ ((∀ i, i < n → cd i ≠ d) ∧ laN cd d z n = z)
  | 0 => Or.inr ⟨fun i hi => absurd hi (Nat.not_lt_zero i), rfl⟩
  | n + 1 => by
    unfold laN
    by_cases h : cd n = d
    · rw [if_pos h]
      exact Or.inl ⟨by omega, h⟩
    · rw [if_neg h]
      rcases laN_is cd d z n with ⟨a, b⟩ | ⟨a, b⟩
      · exact Or.inl ⟨by omega, b⟩
      · refine Or.inr ⟨fun i hi => ?_, b⟩
        by_cases w : i = n
        · rw [w]; exact h
        · exact a i (by omega)
theorem fi_eq {cd cd' : Nat → Nat} {d n : Nat} (he : ∀ i, i < n → cd' i = cd i) (hd : ∀ i j, i < n → j < n → cd i = cd j → i = j) : fiN cd' d n = laN cd d n n := by
  have h1 := fiN_le cd' d n
  rcases laN_is cd d n n with ⟨a, b⟩ | ⟨a, b⟩
  · have h2 : fiN cd' d n < n := by
      rcases Nat.lt_or_ge (fiN cd' d n) n with z | z
      · exact z
      · have := fiN_no cd' d n (laN cd d n n) (by omega)
        rw [he _ a] at this
        exact absurd b this
    have h3 := fiN_yes cd' d n h2
    rw [he _ h2] at h3
    exact hd _ _ h2 a (h3.trans b.symm)
  · rw [b]
    rcases Nat.lt_or_ge (fiN cd' d n) n with z | z
    · have h3 := fiN_yes cd' d n z
      rw [he _ z] at h3
      exact absurd h3 (a _ z)
    · omega
theorem hours_fi {x y : Nat → Nat → Nat} {k : Nat} (hp : RP x y k) (hd : RD y k) (d : Nat) : fiN (x (PB k + 1)) d (x (PB k) 5) = laM y k d (y 11 k) := by
  rw [hp.2.2.2.1]
  exact fi_eq (cd := fun i => y 12 (10 * k + i)) (fun i hi => (hp.2.2.2.2 i hi).1) hd
theorem sim_hours {x y : Nat → Nat → Nat} {k d h : Nat} (hc : CW x) (hm : MW y) (hr : REL x y) (hk : k < y 7 2) (hd : d ≤ 3600) (hh : 1 ≤ h ∧ h ≤ 10) (hfit : fiN (x (PB k + 1)) d (x (PB k) 5) < 10) : CW (ehC x k d h) ∧ MW (shM y k d h) ∧ REL (ehC x k d h) (shM y k d h) := by
  obtain ⟨r1, r2, r3, r4, r5, r6⟩ := hr
  obtain ⟨s1, s2, s3, s4, s5⟩ := id r1
  have hn8 := hm.1.1
  have hk8 : k < 8 := by omega
  have hkp := hc.p (p := k) (by omega)
  have hown := hc.own (p := k) (by omega)
  obtain ⟨⟨p1, p2, p3, p4, p5, p6⟩, p7⟩ := r2 k hk
  have hmk := hm.2.2.2.2 k hk
  have hfi := hours_fi p1 p6 d
  have hcnt := p1.2.2.2.1
  have hla := laM_le y k d (y 11 k) (Nat.le_refl _)
  have hspec := laN_is (fun i => y 12 (10 * k + i)) d (y 11 k) (y 11 k)
  have hsp : (laM y k d (y 11 k) < y 11 k ∧ y 12 (10 * k + laM y k d (y 11 k)) = d) ∨ ((∀ i, i < y 11 k → y 12 (10 * k + i) ≠ d) ∧ laM y k d (y 11 k) = y 11 k) := hspec
  unfold ehC shM
  rw [hfi] at hfit ⊢
  rw [hcnt]
  generalize hA : laM y k d (y 11 k) = a at *
  have hmax : max (y 11 k) (a + 1) = y 11 k + (if a = y 11 k then 1 else 0) := by split <;> omega
  rw [hmax]
  generalize hN : y 11 k + (if a = y 11 k then 1 else 0) = N at *
  have hN3 : (N = y 11 k + 1 ∧ a = y 11 k) ∨ (N = y 11 k ∧ a < y 11 k) := by
    by_cases z : a = y 11 k
    · rw [if_pos z] at hN
      exact Or.inl ⟨hN.symm, z⟩
    · rw [if_neg z] at hN
      exact Or.inr ⟨by omega, by omega⟩
  have hN2 : N ≤ 10 ∧ a < N ∧ ∀ i, i < N → i = a ∨ i < y 11 k := by
    have := hmk.2.2.2.1
    exact ⟨by omega, by omega, fun i hi => by omega⟩
  have yc : ∀ c, c ≠ 11 → c ≠ 12 → c ≠ 13 → es (es (es y 11 k N) 12 (10 * k + a) d) 13 (10 * k + a) h c = y c := fun c u v w => by rw [es_off _ _ _ w, es_off _ _ _ v, es_off _ _ _ u]
  have y11 : ∀ p, es (es (es y 11 k N) 12 (10 * k + a) d) 13 (10 * k + a) h 11 p = if p = k then N else y 11 p := fun p => by
    rw [es_ne _ _ (by omega), es_ne _ _ (by omega), es_at]
    by_cases z : p = k
    · rw [if_pos ⟨rfl, z⟩, if_pos z]
    · rw [if_neg (fun q => z q.2), if_neg z]
  have y12 : ∀ j, es (es (es y 11 k N) 12 (10 * k + a) d) 13 (10 * k + a) h 12 j = if j = 10 * k + a then d else y 12 j := fun j => by
    rw [es_ne _ _ (by omega), es_at]
    by_cases z : j = 10 * k + a
    · rw [if_pos ⟨rfl, z⟩, if_pos z]
    · rw [if_neg (fun q => z q.2), if_neg z, es_ne _ _ (by omega)]
  have y13 : ∀ j, es (es (es y 11 k N) 12 (10 * k + a) d) 13 (10 * k + a) h 13 j = if j = 10 * k + a then h else y 13 j := fun j => by
    rw [es_at]
    by_cases z : j = 10 * k + a
    · rw [if_pos ⟨rfl, z⟩, if_pos z]
    · rw [if_neg (fun q => z q.2), if_neg z, es_ne _ _ (by omega), es_ne _ _ (by omega)]
  have xc : ∀ c, c < 32 ∨ 200 ≤ c → es (es (es x (PB k + 1) a d) (PB k + 2) a h) (PB k) 5 N c = x c := fun c u => by rw [es_off _ _ _ (by unfold PB; omega), es_off _ _ _ (by unfold PB; omega), es_off _ _ _ (by unfold PB; omega)]
  have xR : ∀ q, es (es (es x (PB k + 1) a d) (PB k + 2) a h) (PB k) 5 N (RB q) = x (RB q) := fun q => xc _ (Or.inr (by unfold RB; omega))
  have xP : ∀ p j, j < 9 → (p ≠ k ∨ (j ≠ 0 ∧ j ≠ 1 ∧ j ≠ 2)) → es (es (es x (PB k + 1) a d) (PB k + 2) a h) (PB k) 5 N (PB p + j) = x (PB p + j) := fun p j hj u => by rw [es_off _ _ _ (by unfold PB; omega), es_off _ _ _ (by unfold PB; omega), es_off _ _ _ (by unfold PB; omega)]
  have xk0 : ∀ i, i ≠ 5 → es (es (es x (PB k + 1) a d) (PB k + 2) a h) (PB k) 5 N (PB k) i = x (PB k) i := fun i u => by rw [es_ne _ _ (by omega), es_ne _ _ (by omega), es_ne _ _ (by omega)]
  have xk5 : es (es (es x (PB k + 1) a d) (PB k + 2) a h) (PB k) 5 N (PB k) 5 = N := es_same _ _ _ _
  have xk1 : ∀ i, es (es (es x (PB k + 1) a d) (PB k + 2) a h) (PB k) 5 N (PB k + 1) i = if i = a then d else x (PB k + 1) i := fun i => by
    rw [es_ne _ _ (by omega), es_ne _ _ (by omega), es_at]
    by_cases z : i = a
    · rw [if_pos ⟨rfl, z⟩, if_pos z]
    · rw [if_neg (fun q => z q.2), if_neg z]
  have xk2 : ∀ i, es (es (es x (PB k + 1) a d) (PB k + 2) a h) (PB k) 5 N (PB k + 2) i = if i = a then h else x (PB k + 2) i := fun i => by
    rw [es_ne _ _ (by omega), es_at]
    by_cases z : i = a
    · rw [if_pos ⟨rfl, z⟩, if_pos z]
    · rw [if_neg (fun q => z q.2), if_neg z, es_ne _ _ (by omega)]
  generalize hX : es (es (es x (PB k + 1) a d) (PB k + 2) a h) (PB k) 5 N = X at *
  generalize hY : es (es (es y 11 k N) 12 (10 * k + a) d) 13 (10 * k + a) h = Y at *
  refine ⟨?_, ?_, ?_⟩
  · refine hc.fr1 (p := k) (xc 0 (by omega)) (xc 1 (by omega)) (xc 2 (by omega)) xR (fun p' j hj _ hn => xP p' j hj (Or.inl hn)) (xk0 0 (by decide)) ?_ (fun i => by rw [xP k 3 (by decide) (by omega)]; exact hown i)
    obtain ⟨b1, b2, b3, b4, b5, b6, b7, b8, b9⟩ := hkp
    unfold CWp P0 PCh PSp PPy PLv PRq at *
    rw [xk0 0 (by decide), xk0 1 (by decide), xk0 2 (by decide), xk5, xk0 7 (by decide), xk0 10 (by decide), xk0 13 (by decide), xc 0 (by omega), xP k 3 (by decide) (by omega), xP k 4 (by decide) (by omega), xP k 5 (by decide) (by omega), xP k 6 (by decide) (by omega), xP k 7 (by decide) (by omega), xP k 8 (by decide) (by omega)]
    refine ⟨b1, ⟨hN2.1, fun i hi => ?_⟩, b3, b4, b5, b6, b7, b8, b9⟩
    rw [xk1, xk2]
    by_cases z : i = a
    · rw [if_pos z, if_pos z]; exact ⟨hd, hh⟩
    · rw [if_neg z, if_neg z]
      exact b2.2 i (by have := hN2.2.2 i hi; omega)
  · obtain ⟨m0, mr, ms, my, mp⟩ := hm
    unfold MW MWr MWs MWy MWp at *
    rw [yc 7 (by decide) (by decide) (by decide), yc 8 (by decide) (by decide) (by decide), yc 9 (by decide) (by decide) (by decide), yc 10 (by decide) (by decide) (by decide), yc 14 (by decide) (by decide) (by decide), yc 15 (by decide) (by decide) (by decide), yc 16 (by decide) (by decide) (by decide), yc 17 (by decide) (by decide) (by decide), yc 18 (by decide) (by decide) (by decide), yc 19 (by decide) (by decide) (by decide), yc 20 (by decide) (by decide) (by decide), yc 21 (by decide) (by decide) (by decide), yc 22 (by decide) (by decide) (by decide), yc 23 (by decide) (by decide) (by decide), yc 24 (by decide) (by decide) (by decide)]
    refine ⟨m0, mr, ms, my, fun p hp => ?_⟩
    obtain ⟨b1, b2, b3, b4, b5⟩ := mp p hp
    rw [y11]
    by_cases z : p = k
    · subst z
      rw [if_pos rfl]
      refine ⟨b1, b2, b3, hN2.1, fun i hi => ?_⟩
      rw [y12, y13]
      by_cases w : i = a
      · rw [if_pos (by omega), if_pos (by omega)]; exact ⟨hd, hh⟩
      · rw [if_neg (by omega), if_neg (by omega)]
        exact b5 i (by have := hN2.2.2 i hi; omega)
    · rw [if_neg z]
      refine ⟨b1, b2, b3, b4, fun i hi => ?_⟩
      rw [y12, y13, if_neg (by omega), if_neg (by omega)]
      exact b5 i hi
  · have lvy : ∀ p e9, lvM Y p e9 = lvM y p e9 := fun p e9 => by
      unfold lvM illM lvfM
      rw [yc 7 (by decide) (by decide) (by decide), yc 14 (by decide) (by decide) (by decide), yc 15 (by decide) (by decide) (by decide), yc 16 (by decide) (by decide) (by decide), yc 17 (by decide) (by decide) (by decide), yc 18 (by decide) (by decide) (by decide), yc 19 (by decide) (by decide) (by decide), yc 20 (by decide) (by decide) (by decide), yc 21 (by decide) (by decide) (by decide)]
    unfold REL
    rw [yc 7 (by decide) (by decide) (by decide), yc 8 (by decide) (by decide) (by decide), yc 14 (by decide) (by decide) (by decide), yc 19 (by decide) (by decide) (by decide), yc 22 (by decide) (by decide) (by decide), yc 23 (by decide) (by decide) (by decide)]
    refine ⟨?_, fun p hp => ⟨?_, (r2 p hp).2⟩, fun p hp hp8 => ?_, fun q hq => ⟨?_, (r4 q hq).2⟩, r5, r6⟩
    · unfold NR at *
      rw [xc 0 (by omega), yc 7 (by decide) (by decide) (by decide)]
      exact r1
    · obtain ⟨q1, q2, q3, q4, q5, q6⟩ := (r2 p hp).1
      have hb := (hm.2.2.2.2 p hp).2.2.2.1
      have xp0 : ∀ i, i ≠ 5 → X (PB p) i = x (PB p) i := fun i u => by
        by_cases z : p = k
        · subst z; exact xk0 i u
        · exact congrFun (xP p 0 (by decide) (Or.inl z)) i
      refine ⟨?_, q2.pc (xP p 8 (by decide) (by omega)) (lvy p), q3.pc (xp0 13 (by decide)) (xP p 6 (by decide) (by omega)) (xP p 7 (by decide) (by omega)) (by rw [yc 8 (by decide) (by decide) (by decide)]) (by rw [yc 7 (by decide) (by decide) (by decide)]) (yc 22 (by decide) (by decide) (by decide)) (yc 23 (by decide) (by decide) (by decide)) (yc 24 (by decide) (by decide) (by decide)), q4.pc (xp0 7 (by decide)) (xP p 3 (by decide) (by omega)) (by rw [yc 7 (by decide) (by decide) (by decide)]) (yc 14 (by decide) (by decide) (by decide)), q5.pc (xp0 10 (by decide)) (xP p 4 (by decide) (by omega)) (xP p 5 (by decide) (by omega)) (by rw [yc 7 (by decide) (by decide) (by decide)]) (yc 19 (by decide) (by decide) (by decide)) (yc 20 (by decide) (by decide) (by decide)) (yc 21 (by decide) (by decide) (by decide)), ?_⟩
      · by_cases z : p = k
        · subst z
          unfold RP
          rw [xk0 0 (by decide), xk0 1 (by decide), xk0 2 (by decide), xk5, yc 8 (by decide) (by decide) (by decide), yc 9 (by decide) (by decide) (by decide), yc 10 (by decide) (by decide) (by decide), y11, if_pos rfl]
          refine ⟨q1.1, q1.2.1, q1.2.2.1, rfl, fun i hi => ?_⟩
          rw [xk1, xk2, y12, y13]
          by_cases w : i = a
          · rw [if_pos w, if_pos w, if_pos (by omega), if_pos (by omega)]; exact ⟨rfl, rfl⟩
          · rw [if_neg w, if_neg w, if_neg (by omega), if_neg (by omega)]
            exact q1.2.2.2.2 i (by have := hN2.2.2 i hi; omega)
        · exact q1.pc (xp0 0 (by decide)) (xp0 1 (by decide)) (xp0 2 (by decide)) (congrFun (xP p 0 (by decide) (Or.inl z)) 5) (xP p 1 (by decide) (Or.inl z)) (xP p 2 (by decide) (Or.inl z)) (by rw [yc 8 (by decide) (by decide) (by decide)]) (by rw [yc 9 (by decide) (by decide) (by decide)]) (by rw [yc 10 (by decide) (by decide) (by decide)]) (by rw [y11, if_neg z]) (fun i hi => by rw [y12, if_neg (by omega)]) (fun i hi => by rw [y13, if_neg (by omega)]) hb
      · by_cases z : p = k
        · subst z
          intro i j hi hj hij
          rw [y11, if_pos rfl] at hi hj
          rw [y12, y12] at hij
          have vi := hN2.2.2 i hi
          have vj := hN2.2.2 j hj
          by_cases wi : i = a
          · by_cases wj : j = a
            · omega
            · rw [if_pos (by omega), if_neg (by omega)] at hij
              rcases hsp with ⟨u1, u2⟩ | ⟨u1, u2⟩
              · exact q6 i j (by omega) (by omega) (by rw [wi, u2]; exact hij)
              · exact absurd hij.symm (u1 j (by omega))
          · by_cases wj : j = a
            · rw [if_neg (by omega), if_pos (by omega)] at hij
              rcases hsp with ⟨u1, u2⟩ | ⟨u1, u2⟩
              · exact q6 i j (by omega) (by omega) (by rw [wj, u2]; exact hij)
              · exact absurd hij (u1 i (by omega))
            · rw [if_neg (by omega), if_neg (by omega)] at hij
              exact q6 i j (by omega) (by omega) hij
        · exact q6.pc (by rw [y11, if_neg z]) (fun i hi => by rw [y12, if_neg (by omega)]) hb
    · rw [y11, if_neg (by omega)]
      exact r3 p hp hp8
    · obtain ⟨a1, a2, a3, a4, a5, a6⟩ := (r4 q hq).1
      unfold QR
      rw [xR, yc 14 (by decide) (by decide) (by decide), yc 15 (by decide) (by decide) (by decide), yc 16 (by decide) (by decide) (by decide), yc 17 (by decide) (by decide) (by decide), yc 18 (by decide) (by decide) (by decide)]
      exact ⟨a1, a2, a3, a4, a5, a6⟩
