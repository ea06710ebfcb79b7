/-- how many of the first payouts are a person's -/
def pcN (y : Nat → Nat → Nat) (p : Nat) : Nat → Nat
  | 0 => 0
  | n + 1 => pcN y p n + (if y 22 n = p then 1 else 0)
theorem pcN_mono (y : Nat → Nat → Nat) (p : Nat) {a : Nat} : ∀ {b : Nat}, a ≤ b → pcN y p a ≤ pcN y p b
  | 0, h => by rw [show a = 0 by omega]; exact Nat.le_refl _
  | b + 1, h => by
    by_cases z : a = b + 1
    · rw [z]; exact Nat.le_refl _
    · have := pcN_mono y p (a := a) (b := b) (by omega)
      show _ ≤ pcN y p b + _
      omega
theorem pcN_lt {y : Nat → Nat → Nat} {p k k' : Nat} (h : k < k') (hk : y 22 k = p) : pcN y p k < pcN y p k' := by
  have h1 := pcN_mono y p (a := k + 1) (b := k') (by omega)
  have h2 : pcN y p (k + 1) = pcN y p k + (if y 22 k = p then 1 else 0) := rfl
  rw [if_pos hk] at h2
  omega
theorem pcN_inj {y : Nat → Nat → Nat} {p k k' : Nat} (hk : y 22 k = p) (hk' : y 22 k' = p) (h : pcN y p k = pcN y p k') : k = k' := by
  rcases Nat.lt_trichotomy k k' with z | z | z
  · have := pcN_lt z hk; omega
  · exact z
  · have := pcN_lt z hk'; omega
theorem pcN_on {y : Nat → Nat → Nat} {p j : Nat} : ∀ {n : Nat}, j < pcN y p n → ∃ k, k < n ∧ y 22 k = p ∧ pcN y p k = j
  | 0, h => absurd h (Nat.not_lt_zero j)
  | n + 1, h => by
    have h2 : pcN y p (n + 1) = pcN y p n + (if y 22 n = p then 1 else 0) := rfl
    by_cases z : j < pcN y p n
    · obtain ⟨k, k1, k2, k3⟩ := pcN_on z
      exact ⟨k, by omega, k2, k3⟩
    · by_cases q : y 22 n = p
      · rw [if_pos q] at h2
        exact ⟨n, by omega, q, by omega⟩
      · rw [if_neg q] at h2
        omega
/-- a person's payouts, on both sides -/
def RY (x y : Nat → Nat → Nat) (p : Nat) : Prop := x (PB p) 13 = pcN y p (y 7 19) ∧ (∀ k, k < y 7 19 → y 22 k = p → x (PB p + 6) (pcN y p k) = y 23 k ∧ x (PB p + 7) (pcN y p k) = y 24 k ∧ y 8 p ≤ y 23 k) ∧ ∀ k k', k ≤ k' → k' < y 7 19 → y 23 k ≤ y 23 k'
/-- the payouts gone through are those of the days before -/
def NX (x y : Nat → Nat → Nat) (p d : Nat) : Prop := ∀ k, k < y 7 19 → y 22 k = p → (pcN y p k < x 3 4 ↔ y 23 k < d)
theorem pcN_off {y y' : Nat → Nat → Nat} (h : y' 22 = y 22) (p : Nat) : ∀ n, pcN y' p n = pcN y p n
  | 0 => rfl
  | n + 1 => by
    show pcN y' p n + _ = pcN y p n + _
    rw [pcN_off h p n, h]
theorem pays_2 (x : Nat → Nat → Nat) (p : Nat) : paysC x p 3 2 = x 3 2 := by
  unfold paysC
  rw [es_ne _ _ (by omega), es_ne _ _ (by omega), drw_3]
theorem payn_2 (p d : Nat) : ∀ (n : Nat) (x : Nat → Nat → Nat), paynC p d n x 3 2 = x 3 2
  | 0, x => rfl
  | n + 1, x => by
    unfold paynC
    split
    · rw [payn_2 p d n, pays_2]
    · rfl
theorem tak_2 (x : Nat → Nat → Nat) (pts : Nat) : takC x pts 3 2 = x 3 2 := by
  unfold takC
  split
  · rw [es_ne _ _ (by omega)]
  · rw [es_ne _ _ (by omega), es_ne _ _ (by omega), drw_3]
theorem take_2 (x : Nat → Nat → Nat) (k : Nat) : takeC x k 3 2 = x 3 2 := by
  unfold takeC
  by_cases z : k = 0
  · rw [if_pos z]
  · rw [if_neg z]; exact tak_2 x _
theorem mth_4 (x : Nat → Nat → Nat) (p d : Nat) : mthC x p d 3 4 = x 3 4 := by
  unfold mthC
  split
  · exact earn_4 x _ _
  · rfl
theorem LR_pay {x y : Nat → Nat → Nat} {p d : Nat} (h : LR x y d (d + 1)) (hy : RY x y p) (hn : NX x y p d) (hd : d ≤ 3600) : LR (payC x p d) (payM y p d (y 7 19)) d (d + 1) ∧ NX (payC x p d) y p (d + 1) := by
  obtain ⟨y1, y2, y3⟩ := hy
  have main : ∀ k, k ≤ y 7 19 → ∃ X, paynC p d (X (PB p) 13 - X 3 4) X = payC x p d ∧ LR X (payM y p d k) d (d + 1) ∧ Off x X ∧ ∀ k', k' < y 7 19 → y 22 k' = p → (pcN y p k' < X 3 4 ↔ (y 23 k' < d ∨ (y 23 k' = d ∧ k' < k))) := by
    intro k
    induction k with
    | zero => exact fun _ => ⟨x, rfl, h, Off.rf x, fun k' a b => by have := hn k' a b; omega⟩
    | succ k ih =>
      intro hk
      obtain ⟨X, X1, X2, X3, X4⟩ := ih (by omega)
      have hO := OffM_pay y p d k
      by_cases hc : y 22 k = p ∧ y 23 k = d
      · have hJ : X 3 4 = pcN y p k := by
          have a1 := X4 k (by omega) hc.1
          rcases Nat.lt_trichotomy (X 3 4) (pcN y p k) with z | z | z
          · obtain ⟨k', b1, b2, b3⟩ := pcN_on z
            have b4 := X4 k' (by omega) b2
            have b5 := y3 k' k (by omega) (by omega)
            omega
          · exact z
          · omega
        have hcnt : X (PB p) 13 = pcN y p (y 7 19) := by rw [X3.P0]; exact y1
        have hlt := pcN_lt (y := y) (p := p) (k := k) (k' := y 7 19) (by omega) hc.1
        obtain ⟨v1, v2, v3⟩ := y2 k (by omega) hc.1
        have hday : X (PB p + 6) (X 3 4) = d := by rw [X3.P, hJ, v1]; exact hc.2
        have hpts : X (PB p + 7) (X 3 4) = y 24 k := by rw [X3.P, hJ, v2]
        refine ⟨paysC X p, (paynC_s (by omega) (by omega)).trans X1, ?_, X3.tr (Off_pays X p), fun k' a b => ?_⟩
        · rw [show payM y p d (k + 1) = _ from pays_1 hO hc.1 hc.2]
          unfold paysC
          rw [hpts]
          exact LR_pays X2 hd
        · rw [pays_4, hJ]
          have b4 := X4 k' a b
          rw [hJ] at b4
          by_cases z : k' = k
          · subst z; omega
          · have z2 : pcN y p k' ≠ pcN y p k := fun q => z (pcN_inj b hc.1 q)
            omega
      · refine ⟨X, X1, ?_, X3, fun k' a b => ?_⟩
        · rw [show payM y p d (k + 1) = payM y p d k from pays_0 hO hc]
          exact X2
        · have b4 := X4 k' a b
          by_cases z : k' = k
          · subst z
            have : ¬ y 23 k' = d := fun q => hc ⟨b, q⟩
            omega
          · omega
  obtain ⟨X, X1, X2, X3, X4⟩ := main (y 7 19) (Nat.le_refl _)
  have hcnt : X (PB p) 13 = pcN y p (y 7 19) := by rw [X3.P0]; exact y1
  have hend : paynC p d (X (PB p) 13 - X 3 4) X = X := paynC_x (by
    rcases Nat.lt_or_ge (X 3 4) (X (PB p) 13) with z | z
    · refine Or.inr ?_
      rw [hcnt] at z
      obtain ⟨k', b1, b2, b3⟩ := pcN_on z
      have b4 := X4 k' b1 b2
      have b5 := (y2 k' b1 b2).1
      rw [X3.P, ← b3, b5]
      omega
    · exact Or.inl z)
  rw [hend] at X1
  rw [← X1]
  exact ⟨X2, fun k' a b => by have := X4 k' a b; omega⟩
theorem lvM_off {y y' : Nat → Nat → Nat} (h : OffM y y') (p d : Nat) : lvM y' p d = lvM y p d := by
  have e1 : illM y' p d = illM y p d := by
    unfold illM
    rw [h.1 19 (by decide) (by decide), h.1 20 (by decide) (by decide), h.1 21 (by decide) (by decide), h.2 15 (by decide)]
  have e2 : lvfM y' p d = lvfM y p d := by
    funext i
    unfold lvfM
    rw [h.1 14 (by decide) (by decide), h.1 15 (by decide) (by decide), h.1 16 (by decide) (by decide), h.1 17 (by decide) (by decide), h.1 18 (by decide) (by decide)]
  unfold lvM
  rw [e1, e2, h.2 9 (by decide)]
def RV (x y : Nat → Nat → Nat) (p : Nat) : Prop := ∀ d, d ≤ 3600 → x (PB p + 8) d = lvM y p d
/-- all of a person that going through the days reads -/
def RG (x y : Nat → Nat → Nat) (p : Nat) : Prop := RP x y p ∧ RV x y p ∧ RY x y p
theorem RG.off {x y x' y' : Nat → Nat → Nat} {p : Nat} (h : RG x y p) (hx : Off x x') (hy : OffM y y') : RG x' y' p := by
  obtain ⟨h1, h2, h3⟩ := h
  refine ⟨?_, fun d hd => ?_, ?_⟩
  · unfold RP at *
    rw [hx.P0, hx.P p 1, hx.P p 2, hy.1 8 (by decide) (by decide), hy.1 9 (by decide) (by decide), hy.1 10 (by decide) (by decide), hy.1 11 (by decide) (by decide), hy.1 12 (by decide) (by decide), hy.1 13 (by decide) (by decide)]
    exact h1
  · rw [hx.P, lvM_off hy]
    exact h2 d hd
  · have e1 := pcN_off (hy.1 22 (by decide) (by decide)) p
    unfold RY at *
    rw [hx.P0, hx.P p 6, hx.P p 7, hy.2 19 (by decide), hy.1 8 (by decide) (by decide), hy.1 22 (by decide) (by decide), hy.1 23 (by decide) (by decide), hy.1 24 (by decide) (by decide), e1]
    refine ⟨h3.1, fun k a b => ?_, h3.2.2⟩
    rw [e1]
    exact h3.2.1 k a b
/-- before a day -/
def LD (x y : Nat → Nat → Nat) (p d : Nat) : Prop := LR x y d d ∧ x 3 2 ≤ (d - 1) / 30 ∧ NX x y p d
theorem NX.off {x y x' y' : Nat → Nat → Nat} {p d : Nat} (h : NX x y p d) (h4 : x' 3 4 = x 3 4) (hy : OffM y y') : NX x' y' p d := fun k a b => by
  rw [hy.2 19 (by decide)] at a
  rw [hy.1 22 (by decide) (by decide)] at b
  rw [pcN_off (hy.1 22 (by decide) (by decide)) p, h4, hy.1 23 (by decide) (by decide)]
  exact h k a b
theorem LD_day {x y : Nat → Nat → Nat} {p d : Nat} (h : LD x y p d) (hg : GW x p) (hr : RG x y p) (hd : d ≤ 3600) : LD (dayC x p d) (dayM y p d) p (d + 1) := by
  obtain ⟨h1, h2, h3⟩ := h
  obtain ⟨a1, a2⟩ := LR_mth h1 hg.1 h2 hr.1 hd
  have g1 := GW_mth hg (dy := d) hd
  have b1 := LR_exp a1 g1.1.1 hd
  have g2 := GW_expire g1 d
  have o2 : Off x (expireC (mthC x p d) d) := (Off_mth x p d).tr (Off_expn d _ _)
  have q2 : OffM y (expM (mthM y p d) d) := (OffM_mth y p d).tr (OffM_exp _ d)
  have hk : expireC (mthC x p d) d (PB p + 8) d = lvM (expM (mthM y p d) d) p d := by
    rw [o2.P, lvM_off q2]
    exact hr.2.1 d hd
  have c1 := LR_take (k := lvM (expM (mthM y p d) d) p d) b1 hd (lvM_le _ _ _) g2.1.2.2.1
  have o3 := o2.tr (Off_take (expireC (mthC x p d) d) (lvM (expM (mthM y p d) d) p d))
  have q3 := q2.tr (OffM_leaves (expM (mthM y p d) d) (240 * lvM (expM (mthM y p d) d) p d))
  have n3 : NX (takeC (expireC (mthC x p d) d) (lvM (expM (mthM y p d) d) p d)) (leavesM (expM (mthM y p d) d) (240 * lvM (expM (mthM y p d) d) p d)) p d := h3.off (by
    rw [take_4]
    unfold expireC
    rw [expn_4, mth_4]) q3
  obtain ⟨d1, d2⟩ := LR_pay c1 (hr.off o3 q3).2.2 n3 hd
  unfold dayC dayM
  rw [hk]
  rw [q3.2 19 (by decide)] at d1
  refine ⟨⟨d1.1, d1.2.1, d1.2.2.le (by omega)⟩, ?_, d2.off rfl (OffM_pay _ p d _)⟩
  obtain ⟨m, m1, m2, m3, m4, m5, m6, m7⟩ := expn_is d (mthC x p d 3 2 - mthC x p d 3 3) (mthC x p d) (Nat.le_refl _)
  unfold payC
  rw [payn_2, take_2]
  unfold expireC
  rw [m6 2 (by decide) (by decide)]
  omega
theorem LD_clr {x y : Nat → Nat → Nat} {p : Nat} (hr : RG x y p) : LD (clrC x) (clrM y) p (y 8 p) := by
  have e2 : clrC x 3 2 = 0 := by simp [clrC, es]
  have e3 : clrC x 3 3 = 0 := by simp [clrC, es]
  have e4 : clrC x 3 4 = 0 := by simp [clrC, es]
  have e25 : ∀ i, i < 11 → clrM y 25 i = 0 := fun i hi => by
    unfold clrM
    rw [es_ne _ _ (by omega), es_ne _ _ (by omega), es_ne _ _ (by omega), es_ne _ _ (by omega), es_ne _ _ (by omega), es_ne _ _ (by omega), if_pos ⟨rfl, hi⟩]
  refine ⟨⟨fun Y hY => ⟨0, Nat.zero_le _, fun j hj => ?_, ?_⟩, ⟨?_, ?_, ?_, ?_, ?_, ?_⟩, fun j hj => ?_⟩, by omega, fun k a b => ?_⟩
  · rw [e2, e3] at hj; omega
  · have := smN_le0 (f := clrM y 25) (b := 0) Y (fun i hi => by rw [e25 i (by omega)]; exact Nat.le_refl _)
    show _ = 0
    omega
  · simp [clrC, clrM, es]
  · simp [clrC, clrM, es]
  · simp [clrC, clrM, es]
  · simp [clrC, clrM, es]
  · simp [clrC, clrM, es]
  · simp [clrC, clrM, es]
  · rw [e2, e3] at hj; omega
  · have hO := OffM_clr y
    rw [hO.2 19 (by decide)] at a
    rw [hO.1 22 (by decide) (by decide)] at b
    rw [e4, hO.1 23 (by decide) (by decide)]
    have := (hr.2.2.2.1 k a b).2.2
    omega
theorem LD_go {x y : Nat → Nat → Nat} {p : Nat} (h0 : P0 x p) (hc : PCh x p) (hy : PPy x p) (hl : PLv x p) (hr : RG x y p) : ∀ n, y 8 p + n ≤ 3601 → LD (goC x p n) (goM y p n) p (y 8 p + n)
  | 0, _ => LD_clr hr
  | n + 1, h => by
    have e0 := hr.1.1
    have h1 := LD_go h0 hc hy hl hr n (by omega)
    have h2 := LD_day h1 (GW_go h0 hc hy hl n (by rw [e0]; omega)) (hr.off (Off_go x p n) (OffM_go y p n)) (by omega)
    show LD (dayC (goC x p n) p (x (PB p) 0 + n)) (dayM (goM y p n) p (y 8 p + n)) p (y 8 p + n + 1)
    rw [e0]
    exact h2
-- what the questions answer
theorem fxN_is (f g : Nat → Nat) : ∀ n a, ((∀ j, j < n → f (a + j) = 0) ∧ fxN f g a n = -1) ∨ ∃ j, j < n ∧ (∀ i, i < j → f (a + i) = 0) ∧ 0 < f (a + j) ∧ fxN f g a n = nI (g (a + j))
  | 0, a => Or.inl ⟨fun j hj => absurd hj (Nat.not_lt_zero j), rfl⟩
  | n + 1, a => by
    by_cases z : 0 < f a
    · exact Or.inr ⟨0, by omega, fun i hi => absurd hi (Nat.not_lt_zero i), z, if_pos z⟩
    · have e9 : fxN f g a (n + 1) = fxN f g (a + 1) n := if_neg z
      rw [e9]
      rcases fxN_is f g n (a + 1) with ⟨h1, h2⟩ | ⟨j, h1, h2, h3, h4⟩
      · refine Or.inl ⟨fun j hj => ?_, h2⟩
        rcases j with _ | j
        · show f a = 0; omega
        · rw [show a + (j + 1) = a + 1 + j by omega]; exact h1 j (by omega)
      · refine Or.inr ⟨j + 1, by omega, fun i hi => ?_, ?_, ?_⟩
        · rcases i with _ | i
          · show f a = 0; omega
          · rw [show a + (i + 1) = a + 1 + i by omega]; exact h2 i (by omega)
        · rw [show a + (j + 1) = a + 1 + j by omega]; exact h3
        · rw [show a + (j + 1) = a + 1 + j by omega]; exact h4
theorem fxR_none {y : Nat → Nat → Nat} (h : ∀ i, i < 11 → y 25 i = 0) : ∀ n, n ≤ 11 → fxR y n = -1
  | 0, _ => rfl
  | n + 1, hn => by
    have h1 : fxR y (n + 1) = fxR y n := if_neg (by rw [h (10 - n) (by omega)]; omega)
    rw [h1]
    exact fxR_none h n (by omega)
theorem fxR_some {y : Nat → Nat → Nat} {z : Nat} (hz : z ≤ 10) (h : ∀ i, i < z → y 25 i = 0) (h2 : 0 < y 25 z) : ∀ k, 11 - z + k ≤ 11 → fxR y (11 - z + k) = nI (360 * z + 450)
  | 0, _ => by
    rw [show 11 - z + 0 = (10 - z) + 1 by omega]
    have h3 : 10 - (10 - z) = z := by omega
    unfold fxR
    rw [h3, if_pos h2]
  | k + 1, hk => by
    have h1 : fxR y (11 - z + k + 1) = fxR y (11 - z + k) := if_neg (by rw [h (10 - (11 - z + k)) (by omega)]; omega)
    show fxR y (11 - z + k + 1) = _
    rw [h1]
    exact fxR_some hz h h2 k (by omega)
theorem LQ_fx {x y : Nat → Nat → Nat} {d0 d : Nat} (h : LQ x y) (hx : LX x d0 d) (hd : d0 ≤ 3601) : fxC x = fxR y 11 := by
  unfold fxC
  rcases fxN_is (x 4) (x 5) (x 3 2 - x 3 3) (x 3 3) with ⟨h1, h2⟩ | ⟨j, h1, h2, h3, h4⟩
  · rw [h2]
    have ht := LQ_tot h hx hd
    have h0 : totC x ≤ 0 := by
      unfold totC
      have := smN_le (f := x 4) (a := x 3 3) (b := 0) (n := x 3 2 - x 3 3) (fun i hi => by rw [h1 i hi]; exact Nat.le_refl _)
      omega
    refine (fxR_none (fun i hi => ?_) 11 (Nat.le_refl _)).symm
    have h5 := smN_mono (y 25) 0 (n := i + 1) (m := 11) (by omega)
    rw [smN_0s] at h5
    unfold totM at ht
    omega
  · obtain ⟨⟨z, z1, z2⟩, z3⟩ := hx j h1
    obtain ⟨m0, a1, a2, a3⟩ := h z (by omega)
    obtain ⟨m1, b1, b2, b3⟩ := h (z + 1) (by omega)
    have c1 : m0 ≤ j := by
      rcases Nat.lt_or_ge j m0 with q | q
      · have := (a2 j h1).mpr q; omega
      · exact q
    have c2 : j < m1 := (b2 j h1).mp (by omega)
    have c3 : smN (x 4) (x 3 3) m0 ≤ 0 := by
      have := smN_le (f := x 4) (a := x 3 3) (b := 0) (n := m0) (fun i hi => by rw [h2 i (by omega)]; exact Nat.le_refl _)
      omega
    have c4 := smN_mono (x 4) (x 3 3) (n := j + 1) (m := m1) (by omega)
    have c5 : smN (x 4) (x 3 3) (j + 1) = smN (x 4) (x 3 3) j + x 4 (x 3 3 + j) := rfl
    rw [smN_0s] at b3
    rw [h4, z2]
    have r := fxR_some (y := y) (z := z) (by omega) (fun i hi => by
      have h5 := smN_mono (y 25) 0 (n := i + 1) (m := z) (by omega)
      rw [smN_0s] at h5
      omega) (by omega) z (by omega)
    rw [show 11 - z + z = 11 by omega] at r
    exact r.symm
