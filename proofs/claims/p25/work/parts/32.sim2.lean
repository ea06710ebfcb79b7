theorem smN_upd {f f' : Nat → Nat} {k v : Nat} (h : ∀ i, f' i = if i = k then f k + v else f i) : ∀ n, smN f' 0 n = smN f 0 n + (if k < n then v else 0)
  | 0 => by rw [if_neg (by omega)]; rfl
  | n + 1 => by
    rw [smN_0s, smN_0s, smN_upd h n, h n]
    by_cases h1 : n = k
    · subst h1
      rw [if_pos rfl, if_neg (by omega), if_pos (by omega)]; omega
    · rw [if_neg h1]
      by_cases h2 : k < n
      · rw [if_pos h2, if_pos (by omega)]; omega
      · rw [if_neg h2, if_neg (by omega)]; omega
theorem LQ_add {x y x' y' : Nat → Nat → Nat} {v z0 : Nat} (h : LQ x y) (ho : x 3 3 ≤ x 3 2) (h2 : x' 3 2 = x 3 2 + 1) (h3 : x' 3 3 = x 3 3) (h4 : ∀ i, x' 4 i = if i = x 3 2 then v else x 4 i) (h5 : ∀ i, x' 5 i = if i = x 3 2 then 360 * z0 + 450 else x 5 i) (h25 : ∀ i, y' 25 i = if i = z0 then y 25 z0 + v else y 25 i) (hz : ∀ j, j < x 3 2 - x 3 3 → x 5 (x 3 3 + j) ≤ 360 * z0 + 450) : LQ x' y' := fun Y hY => by
  obtain ⟨m, m1, m2, m3⟩ := h Y hY
  have h4n : x' 4 (x 3 3 + (x 3 2 - x 3 3)) = v := by rw [h4, if_pos (by omega)]
  have e4 : ∀ n, n ≤ x 3 2 - x 3 3 → smN (x' 4) (x 3 3) n = smN (x 4) (x 3 3) n := fun n hn => smN_eq n (fun i hi => by rw [h4, if_neg (by omega)])
  have e5 : ∀ j, j < x 3 2 - x 3 3 → x' 5 (x 3 3 + j) = x 5 (x 3 3 + j) := fun j hj => by rw [h5, if_neg (by omega)]
  have e5n : x' 5 (x 3 3 + (x 3 2 - x 3 3)) = 360 * z0 + 450 := by rw [h5, if_pos (by omega)]
  rw [h2, h3, smN_upd h25 Y]
  by_cases hc : z0 < Y
  · have hm : m = x 3 2 - x 3 3 := by
      rcases Nat.lt_or_ge m (x 3 2 - x 3 3) with q | q
      · have q1 := hz m q
        have := (m2 m q).mp (by omega)
        omega
      · omega
    refine ⟨x 3 2 - x 3 3 + 1, by omega, fun j hj => ?_, ?_⟩
    · by_cases q : j < x 3 2 - x 3 3
      · rw [e5 j q]
        have := hz j q
        omega
      · rw [show j = x 3 2 - x 3 3 by omega, e5n]
        omega
    · show _ = smN (x' 4) (x 3 3) (x 3 2 - x 3 3) + x' 4 (x 3 3 + (x 3 2 - x 3 3))
      rw [e4 _ (Nat.le_refl _), h4n, if_pos hc, m3, hm]
  · refine ⟨m, by omega, fun j hj => ?_, ?_⟩
    · by_cases q : j < x 3 2 - x 3 3
      · rw [e5 j q]
        exact m2 j q
      · rw [show j = x 3 2 - x 3 3 by omega, e5n]
        omega
    · rw [e4 m m1, if_neg hc, Nat.add_zero, m3]
theorem hN_congr {cd ch cd' ch' : Nat → Nat} {h0 d : Nat} : ∀ n, (∀ i, i < n → cd' i = cd i ∧ ch' i = ch i) → hN cd' ch' h0 d n = hN cd ch h0 d n
  | 0, _ => rfl
  | n + 1, h => by
    have h1 := hN_congr (h0 := h0) (d := d) n (fun i hi => h i (by omega))
    have h2 := h n (by omega)
    unfold hN
    rw [h1, h2.1, h2.2]
/-- a person's rights and hours, on both sides -/
def RP (x y : Nat → Nat → Nat) (p : Nat) : Prop := x (PB p) 0 = y 8 p ∧ x (PB p) 1 = y 9 p ∧ x (PB p) 2 = y 10 p ∧ x (PB p) 5 = y 11 p ∧ ∀ i, i < y 11 p → x (PB p + 1) i = y 12 (10 * p + i) ∧ x (PB p + 2) i = y 13 (10 * p + i)
theorem RP.hr {x y : Nat → Nat → Nat} {p : Nat} (h : RP x y p) (d : Nat) : hrC x p d = hrM y p d := by
  unfold hrC hrM
  rw [h.2.2.1, h.2.2.2.1, hN_congr (cd := fun i => y 12 (10 * p + i)) (ch := fun i => y 13 (10 * p + i)) _ h.2.2.2.2]
theorem RP.pts {x y : Nat → Nat → Nat} {p : Nat} (h : RP x y p) (d : Nat) : ptsC x p d = ptsM y p d := by
  unfold ptsC ptsM
  rw [h.hr, h.1, h.2.1, Nat.mul_comm 2 ((d - y 8 p) / 360 / 3)]
theorem LR_mth {x y : Nat → Nat → Nat} {p d : Nat} (h : LR x y d d) (hw : LW x) (hc : x 3 2 ≤ (d - 1) / 30) (hp : RP x y p) (hd : d ≤ 3600) : LR (mthC x p d) (mthM y p d) d d ∧ mthC x p d 3 2 ≤ d / 30 := by
  obtain ⟨hq, ⟨s1, s2, s3, s4, s5, s6⟩, hx⟩ := h
  have hpt := hp.pts d
  unfold mthC mthM earnsAt
  rw [hp.1]
  by_cases hz : d % 30 = 0 ∧ y 8 p + 30 ≤ d
  · rw [if_pos (decide_eq_true hz), if_pos hz]
    unfold earnC earnM
    rw [if_pos (by omega), hpt, s1]
    have q1 : ∀ (e : Nat → Nat → Nat) (a b c f : Nat) (g : Nat), es (es (es (es (es e 3 5 a) 3 6 b) 4 (e 3 2) c) 5 (e 3 2) f) 3 2 g 3 2 = g := fun e a b c f g => es_same _ _ _ _
    have hn : expC d = 360 * ((d - 1) / 360) + 450 := by unfold expC; omega
    refine ⟨⟨LQ_add (v := ptsM y p d - min (ptsM y p d) (y 7 24)) (z0 := (d - 1) / 360) hq hw.1 (es_same _ _ _ _) ?_ (fun i => ?_) (fun i => ?_) (fun i => ?_) (fun j hj => ?_), ⟨?_, ?_, ?_, ?_, ?_, ?_⟩, fun j hj => ?_⟩, ?_⟩
    · simp [es]
    · rw [es_at, if_neg (by omega), es_at, if_neg (by omega), es_at]
      by_cases z : i = x 3 2
      · rw [if_pos ⟨rfl, z⟩, if_pos z]
      · rw [if_neg (fun q => z q.2), if_neg z]
        rw [es_ne _ _ (by omega), es_ne _ _ (by omega)]
    · rw [es_at, if_neg (by omega), es_at]
      by_cases z : i = x 3 2
      · rw [if_pos ⟨rfl, z⟩, if_pos z]; exact hn
      · rw [if_neg (fun q => z q.2), if_neg z, es_ne _ _ (by omega), es_ne _ _ (by omega), es_ne _ _ (by omega)]
    · rw [es_at, if_neg (by omega), es_at]
      by_cases z : i = (d - 1) / 360
      · rw [if_pos ⟨rfl, z⟩, if_pos z, Nat.min_comm (y 7 24)]
      · rw [if_neg (fun q => z q.2), if_neg z, es_ne _ _ (by omega)]
    · obtain ⟨⟨z, z1, z2⟩, z3⟩ := hx j hj
      omega
    · simp [es]; omega
    · simp [es]; omega
    · simp [es]; omega
    · simp [es]; omega
    · simp [es]; omega
    · simp [es]; omega
    · have h3 : es (es (es (es (es x 3 5 (y 7 24 - min (ptsM y p d) (y 7 24))) 3 6 (x 3 6 + ptsM y p d)) 4 (x 3 2) (ptsM y p d - min (ptsM y p d) (y 7 24))) 5 (x 3 2) (expC d)) 3 2 (x 3 2 + 1) 3 3 = x 3 3 := by simp [es]
      rw [es_same, h3] at hj
      rw [h3]
      have hlo := hw.1
      rw [es_at, if_neg (by omega), es_at]
      by_cases z : x 3 3 + j = x 3 2
      · rw [if_pos ⟨rfl, z⟩, hn]
        exact ⟨⟨_, Nat.le_refl _, rfl⟩, by omega⟩
      · rw [if_neg (fun q => z q.2), es_ne _ _ (by omega), es_ne _ _ (by omega), es_ne _ _ (by omega)]
        exact hx j (by omega)
    · rw [es_same]
      omega
  · rw [if_neg (by rw [decide_eq_false hz]; exact Bool.false_ne_true), if_neg hz]
    exact ⟨⟨hq, ⟨s1, s2, s3, s4, s5, s6⟩, hx⟩, by omega⟩
-- a day's expiry
theorem expn_is (d : Nat) : ∀ (n : Nat) (x : Nat → Nat → Nat), n ≤ x 3 2 - x 3 3 → ∃ m, m ≤ n ∧ (∀ j, j < m → x 5 (x 3 3 + j) ≤ d) ∧ (m < n → d < x 5 (x 3 3 + m)) ∧ expnC d n x 3 3 = x 3 3 + m ∧ expnC d n x 3 8 = x 3 8 + smN (x 4) (x 3 3) m ∧ (∀ i, i ≠ 3 → i ≠ 8 → expnC d n x 3 i = x 3 i) ∧ ∀ c, c ≠ 3 → expnC d n x c = x c
  | 0, x, _ => ⟨0, Nat.le_refl _, fun j hj => absurd hj (Nat.not_lt_zero j), fun z => absurd z (Nat.lt_irrefl 0), rfl, rfl, fun _ _ _ => rfl, fun _ _ => rfl⟩
  | n + 1, x, hn => by
    unfold expnC
    by_cases hc : x 5 (x 3 3) ≤ d
    · rw [if_pos hc]
      have q5 : exsC x 5 = x 5 := by unfold exsC; rw [es_off _ _ _ (by omega), es_off _ _ _ (by omega)]
      have q4 : exsC x 4 = x 4 := by unfold exsC; rw [es_off _ _ _ (by omega), es_off _ _ _ (by omega)]
      have q8 : exsC x 3 8 = x 3 8 + x 4 (x 3 3) := by simp [exsC, es]
      obtain ⟨m, m1, m2, m3, m4, m5, m6, m7⟩ := expn_is d n (exsC x) (by rw [exs_2, exs_3]; omega)
      rw [exs_3, q5] at m2 m3
      rw [exs_3] at m4
      rw [exs_3, q4, q8] at m5
      refine ⟨m + 1, by omega, fun j hj => ?_, fun z => ?_, by rw [m4]; omega, ?_, fun i i1 i2 => ?_, fun c c1 => ?_⟩
      · rcases j with _ | j
        · exact hc
        · have := m2 j (by omega)
          rw [show x 3 3 + (j + 1) = x 3 3 + 1 + j by omega]; exact this
      · have := m3 (by omega)
        rw [show x 3 3 + (m + 1) = x 3 3 + 1 + m by omega]; exact this
      · rw [m5, Nat.add_comm m 1, smN_add]
        show _ = x 3 8 + (0 + x 4 (x 3 3 + 0) + smN (x 4) (x 3 3 + 1) m)
        have z : x 4 (x 3 3 + 0) = x 4 (x 3 3) := rfl
        omega
      · rw [m6 i i1 i2]
        unfold exsC
        rw [es_ne _ _ (by omega), es_ne _ _ (by omega)]
      · rw [m7 c c1]
        unfold exsC
        rw [es_off _ _ _ (by omega), es_off _ _ _ (by omega)]
    · rw [if_neg hc]
      exact ⟨0, Nat.zero_le _, fun j hj => absurd hj (Nat.not_lt_zero j), fun _ => by rw [Nat.add_zero]; omega, rfl, rfl, fun _ _ _ => rfl, fun _ _ => rfl⟩
theorem smN_zero {f f' : Nat → Nat} {k : Nat} (h : ∀ i, f' i = if i = k then 0 else f i) : ∀ n, smN f' 0 n = smN f 0 n - (if k < n then f k else 0)
  | 0 => by rw [if_neg (by omega)]; rfl
  | n + 1 => by
    rw [smN_0s, smN_0s, smN_zero h n, h n]
    by_cases h1 : n = k
    · subst h1
      rw [if_pos rfl, if_neg (by omega), if_pos (by omega)]; omega
    · rw [if_neg h1]
      by_cases h2 : k < n
      · have h3 : f k ≤ smN f 0 n := by
          have h4 := smN_mono f 0 (n := k + 1) (m := n) (by omega)
          rw [smN_0s] at h4
          omega
        rw [if_pos h2, if_pos (by omega)]; omega
      · rw [if_neg h2, if_neg (by omega)]; omega
theorem LR_exp {x y : Nat → Nat → Nat} {d : Nat} (h : LR x y d d) (ho : x 3 3 ≤ x 3 2) (hd : d ≤ 3600) : LR (expireC x d) (expM y d) d (d + 1) := by
  obtain ⟨hq, ⟨s1, s2, s3, s4, s5, s6⟩, hx⟩ := h
  obtain ⟨m, m1, m2, m3, m4, m5, m6, m7⟩ := expn_is d (x 3 2 - x 3 3) x (Nat.le_refl _)
  have hE : expireC x d = expnC d (x 3 2 - x 3 3) x := rfl
  rw [← hE] at m4 m5 m6 m7
  -- what has expired is just what stands before place m
  have hm : ∀ j, j < x 3 2 - x 3 3 → (x 5 (x 3 3 + j) ≤ d ↔ j < m) := fun j hj => by
    refine ⟨fun z => ?_, fun z => m2 j z⟩
    rcases Nat.lt_or_ge j m with q | q
    · exact q
    · exfalso
      have q1 := m3 (by omega)
      obtain ⟨⟨a, a1, a2⟩, a3⟩ := hx j hj
      obtain ⟨⟨b, b1, b2⟩, b3⟩ := hx m (by omega)
      obtain ⟨k, k1, k2, k3⟩ := hq (a + 1) (by omega)
      have k4 := (k2 j hj).mp (by omega)
      have k5 := (k2 m (by omega)).mpr (by omega)
      omega
  have e2 := m6 2 (by decide) (by decide)
  have e4 := m7 4 (by decide)
  have e5 := m7 5 (by decide)
  have hLX : LX (expireC x d) d (d + 1) := fun j hj => by
    rw [e2, m4] at hj
    rw [e5, m4, Nat.add_assoc]
    obtain ⟨a1, a2⟩ := hx (m + j) (by omega)
    have a3 := hm (m + j) (by omega)
    exact ⟨a1, by omega⟩
  by_cases hc : d % 360 = 90 ∧ 360 < d
  · have hM : expM y d = es (es y 7 27 (y 7 27 + y 25 (d / 360 - 1))) 25 (d / 360 - 1) 0 := if_pos hc
    obtain ⟨k0, k1, k2, k3⟩ := hq (d / 360 - 1) (by omega)
    obtain ⟨l0, l1, l2, l3⟩ := hq (d / 360 - 1 + 1) (by omega)
    have hk0 : k0 = 0 := by
      rcases Nat.eq_zero_or_pos k0 with z | z
      · exact z
      · have z1 := (k2 0 (by omega)).mpr z
        have z2 := (hx 0 (by omega)).2
        omega
    have hl0 : l0 = m := by
      rcases Nat.lt_trichotomy l0 m with z | z | z
      · have z1 := m2 l0 z
        have z2 := (l2 l0 (by omega)).mp (by omega)
        omega
      · exact z
      · have z1 := (l2 m (by omega)).mpr z
        obtain ⟨⟨a, a1, a2⟩, a3⟩ := hx m (by omega)
        have z2 := (hm m (by omega)).mp (by omega)
        omega
    rw [hk0] at k3
    rw [hl0, smN_0s] at l3
    have k3' : smN (y 25) 0 (d / 360 - 1) = 0 := k3
    have hp : y 25 (d / 360 - 1) = smN (x 4) (x 3 3) m := by omega
    have r25 : ∀ i, expM y d 25 i = if i = d / 360 - 1 then 0 else y 25 i := fun i => by
      rw [hM, es_at]
      by_cases z : i = d / 360 - 1
      · rw [if_pos ⟨rfl, z⟩, if_pos z]
      · rw [if_neg (fun q => z q.2), if_neg z, es_ne _ _ (by omega)]
    refine ⟨fun Y hY => ?_, ⟨?_, ?_, ?_, ?_, ?_, ?_⟩, hLX⟩
    · rw [e2, m4, e4, e5, smN_zero r25 Y]
      obtain ⟨w0, w1, w2, w3⟩ := hq Y hY
      by_cases hY0 : Y ≤ d / 360 - 1
      · have := smN_mono (y 25) 0 hY0
        refine ⟨0, Nat.zero_le _, fun j hj => ?_, ?_⟩
        · rw [Nat.add_assoc]
          have := (hx (m + j) (by omega)).2
          omega
        · rw [if_neg (by omega)]
          show _ = 0
          omega
      · have hmw : m ≤ w0 := by
          rcases Nat.lt_or_ge w0 m with z | z
          · have z1 := m2 w0 z
            have z2 := (w2 w0 (by omega)).mp (by omega)
            omega
          · exact z
        refine ⟨w0 - m, by omega, fun j hj => ?_, ?_⟩
        · rw [Nat.add_assoc, w2 (m + j) (by omega)]
          omega
        · rw [if_pos (by omega), hp, w3]
          have z := smN_add (x 4) (x 3 3) m (w0 - m)
          rw [show m + (w0 - m) = w0 by omega] at z
          omega
    · rw [m6 5 (by decide) (by decide), hM, es_ne _ _ (by omega), es_ne _ _ (by omega)]; exact s1
    · rw [m6 6 (by decide) (by decide), hM, es_ne _ _ (by omega), es_ne _ _ (by omega)]; exact s2
    · rw [m6 7 (by decide) (by decide), hM, es_ne _ _ (by omega), es_ne _ _ (by omega)]; exact s3
    · rw [m5, hM, es_ne _ _ (by omega), es_same, hp, s4]
    · rw [m6 9 (by decide) (by decide), hM, es_ne _ _ (by omega), es_ne _ _ (by omega)]; exact s5
    · rw [m6 10 (by decide) (by decide), hM, es_ne _ _ (by omega), es_ne _ _ (by omega)]; exact s6
  · have hM : expM y d = y := if_neg hc
    have hm0 : m = 0 := by
      rcases Nat.eq_zero_or_pos m with z | z
      · exact z
      · obtain ⟨⟨a, a1, a2⟩, a3⟩ := hx 0 (by omega)
        have a4 := m2 0 z
        omega
    rw [hm0] at m4 m5
    rw [hM]
    exact ⟨hq.eq e2 m4 e4 e5 rfl, ⟨by rw [m6 5 (by decide) (by decide)]; exact s1, by rw [m6 6 (by decide) (by decide)]; exact s2, by rw [m6 7 (by decide) (by decide)]; exact s3, by rw [m5]; exact s4, by rw [m6 9 (by decide) (by decide)]; exact s5, by rw [m6 10 (by decide) (by decide)]; exact s6⟩, hLX⟩
