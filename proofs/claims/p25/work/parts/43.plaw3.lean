theorem smN_cut (f : Nat → Nat) (q : Nat → Prop) [DecidablePred q] : ∀ n, smN (fun j => if q j then f j else 0) 0 n ≤ smN f 0 n ∧ smN (fun j => if q j then 0 else f j) 0 n = smN f 0 n - smN (fun j => if q j then f j else 0) 0 n
  | 0 => ⟨Nat.le_refl _, rfl⟩
  | n + 1 => by
    obtain ⟨h1, h2⟩ := smN_cut f q n
    rw [smN_0s, smN_0s, smN_0s, h2]
    by_cases h : q n
    · rw [if_pos h, if_pos h]; omega
    · rw [if_neg h, if_neg h]; omega
theorem exn_11 (x : Nat → Nat → Nat) (d : Nat) {n : Nat} (hn : n ≤ 64) : smN (exLn x d 64 11) 0 n = smN (x 11) 0 n - smN (fun j => if 0 < j ∧ exM j = d then x 11 j else 0) 0 n := by
  rw [← (smN_cut (x 11) (fun j => 0 < j ∧ exM j = d) n).2]
  refine smN_congr (fun i hi => ?_)
  rw [Nat.zero_add]
  unfold exLn
  by_cases h : 0 < i ∧ exM i = d
  · rw [if_pos ⟨rfl, by omega, h⟩, if_pos h]
  · rw [if_neg (fun z => h z.2.2), if_neg (fun z => absurd z.1 (by decide)), if_neg h]
theorem exM_is {m d : Nat} (h : 0 < m ∧ exM m = d) : d % 360 = 90 ∧ 360 < d ∧ d % 30 = 0 := by
  have h2 := h.2
  unfold exM at h2
  omega
theorem exn_no {x : Nat → Nat → Nat} {d : Nat} (h : ¬ (d % 360 = 90 ∧ 360 < d)) : ∀ m, exLn x d m = x := fun m => by
  have hs : smN (fun j => if 0 < j ∧ exM j = d then x 11 j else 0) 0 m = 0 := by
    have z := smN_le0 (f := fun j => if 0 < j ∧ exM j = d then x 11 j else 0) (b := 0) m (fun j _ => by
      show (if 0 < j ∧ exM j = d then x 11 j else 0) ≤ 0
      rw [if_neg (fun z => h ⟨(exM_is z).1, (exM_is z).2.1⟩)]
      exact Nat.le_refl _)
    omega
  funext c i
  unfold exLn
  rw [if_neg (fun z => h ⟨(exM_is z.2.2).1, (exM_is z.2.2).2.1⟩), hs]
  by_cases z : c = 12 ∧ i = 3
  · rw [if_pos z, z.1, z.2]; rfl
  · rw [if_neg z]
theorem LL_exp {x z : Nat → Nat → Nat} {d : Nat} (h : LL x z (d + 1)) (hd : d < 1900) : LL (expL x d) (expM z d) (d + 1) := by
  by_cases hc : d % 360 = 90 ∧ 360 < d
  · obtain ⟨h1, ⟨s0, s1, s2, s3, s4, s5⟩, h3⟩ := h
    have hM : expM z d = es (es z 7 27 (z 7 27 + z 25 (d / 360 - 1))) 25 (d / 360 - 1) 0 := if_pos hc
    have hL : expL x d = exLn x d 64 := if_pos (by omega)
    have r25 : ∀ i, expM z d 25 i = if i = d / 360 - 1 then 0 else z 25 i := fun i => by
      rw [hM, es_at]
      by_cases q : i = d / 360 - 1
      · rw [if_pos ⟨rfl, q⟩, if_pos q]
      · rw [if_neg (fun w => q w.2), if_neg q, es_ne _ _ (by omega)]
    have hq : ∀ j, (0 < j ∧ exM j = d) ↔ 12 * (d / 360 - 1) + 1 ≤ j ∧ j < 12 * (d / 360 - 1) + 13 := fun j => by
      unfold exM
      omega
    have hb := smN_band (x 11) (fun j => 0 < j ∧ exM j = d) hq (by omega)
    have p0 := h1 (d / 360 - 1) (by omega)
    have p1 := h1 (d / 360 - 1 + 1) (by omega)
    rw [smN_0s] at p1
    have hx12 : ∀ i, i ≠ 3 → expL x d 12 i = x 12 i := fun i hi => by
      rw [hL]
      unfold exLn
      rw [if_neg (fun w => absurd w.1 (by decide)), if_neg (fun w => hi w.2)]
    refine ⟨fun Y hY => ?_, ⟨?_, ?_, ?_, ?_, ?_, ?_⟩, fun m a b => ?_⟩
    · rw [smN_zero r25 Y, hL, exn_11 x d (by omega), hb, h1 Y hY]
      by_cases q : d / 360 - 1 < Y
      · rw [if_pos q, show min (min (12 * Y + 1) 64) (12 * (d / 360 - 1) + 13) = min (12 * (d / 360 - 1 + 1) + 1) 64 by omega, show min (min (12 * Y + 1) 64) (12 * (d / 360 - 1) + 1) = min (12 * (d / 360 - 1) + 1) 64 by omega]
        omega
      · rw [if_neg q, show min (min (12 * Y + 1) 64) (12 * (d / 360 - 1) + 13) = min (12 * Y + 1) 64 by omega, show min (min (12 * Y + 1) 64) (12 * (d / 360 - 1) + 1) = min (12 * Y + 1) 64 by omega]
        omega
    · rw [hx12 0 (by decide), hM, es_ne _ _ (by omega), es_ne _ _ (by omega)]; exact s0
    · rw [hx12 1 (by decide), hM, es_ne _ _ (by omega), es_ne _ _ (by omega)]; exact s1
    · rw [hx12 2 (by decide), hM, es_ne _ _ (by omega), es_ne _ _ (by omega)]; exact s2
    · rw [hM, es_ne _ _ (by omega), es_same, hL]
      show (if _ then _ else _) = _
      rw [if_neg (fun w => absurd w.1 (by decide)), if_pos ⟨rfl, rfl⟩, hb, show min 64 (12 * (d / 360 - 1) + 13) = min (12 * (d / 360 - 1 + 1) + 1) 64 by omega, show min 64 (12 * (d / 360 - 1) + 1) = min (12 * (d / 360 - 1) + 1) 64 by omega]
      omega
    · rw [hx12 4 (by decide), hM, es_ne _ _ (by omega), es_ne _ _ (by omega)]; exact s4
    · rw [hx12 5 (by decide), hM, es_ne _ _ (by omega), es_ne _ _ (by omega)]; exact s5
    · rw [hL]
      unfold exLn
      by_cases q : 11 = 11 ∧ m < 64 ∧ 0 < m ∧ exM m = d
      · rw [if_pos q]
      · rw [if_neg q, if_neg (fun w => absurd w.1 (by decide))]
        exact h3 m a b
  · have hM : expM z d = z := if_neg hc
    have hL : expL x d = x := by
      unfold expL
      split
      · exact exn_no hc 64
      · rfl
    rw [hM, hL]
    exact h
theorem LL_day {x y z : Nat → Nat → Nat} {p d : Nat} (hz : OffM y z) (h : LL x z d) (hd : d < 1900) : LL (dayL y x p d) (dayM z p d) (d + 1) := by
  have a1 := LL_mth (p := p) hz h hd
  have a2 := LL_exp a1 hd
  have o2 : OffM y (expM (mthM z p d) d) := (hz.tr (OffM_mth z p d)).tr (OffM_exp _ d)
  have e1 : lvM (expM (mthM z p d) d) p d = lvM y p d := lvM_off o2 p d
  have a3 := LL_tak a2 (240 * lvM y p d)
  have o3 := o2.tr (OffM_leaves (expM (mthM z p d) d) (240 * lvM y p d))
  have a4 := LL_pay (p := p) (d := d) o3 a3 (y 7 19)
  have e2 : z 7 19 = y 7 19 := hz.2 19 (by decide)
  unfold dayL dayM
  rw [e1, e2]
  exact a4
theorem LL_clr (y x : Nat → Nat → Nat) (d : Nat) : LL (clrLn x 64 6) (clrM y) d := by
  have e11 : ∀ m, m < 64 → clrLn x 64 6 11 m = 0 := fun m hm => if_pos (Or.inl ⟨rfl, hm⟩)
  have e12 : ∀ m, m < 6 → clrLn x 64 6 12 m = 0 := fun m hm => if_pos (Or.inr ⟨rfl, hm⟩)
  have e25 : ∀ i, i < 11 → clrM y 25 i = 0 := fun i hi => by
    unfold clrM
    rw [es_ne _ _ (by omega), es_ne _ _ (by omega), es_ne _ _ (by omega), es_ne _ _ (by omega), es_ne _ _ (by omega), es_ne _ _ (by omega), if_pos ⟨rfl, hi⟩]
  refine ⟨fun Y hY => ?_, ⟨?_, ?_, ?_, ?_, ?_, ?_⟩, fun m a _ => e11 m a⟩
  · have a1 := smN_le0 (f := clrM y 25) (b := 0) Y (fun i hi => by rw [e25 i (by omega)]; exact Nat.le_refl _)
    have a2 := smN_le0 (f := clrLn x 64 6 11) (b := 0) (min (12 * Y + 1) 64) (fun i hi => by rw [e11 i (by omega)]; exact Nat.le_refl _)
    omega
  · rw [e12 0 (by decide)]; simp [clrM, es]
  · rw [e12 1 (by decide)]; simp [clrM, es]
  · rw [e12 2 (by decide)]; simp [clrM, es]
  · rw [e12 3 (by decide)]; simp [clrM, es]
  · rw [e12 4 (by decide)]; simp [clrM, es]
  · rw [e12 5 (by decide)]; simp [clrM, es]
theorem LL_go (y x : Nat → Nat → Nat) (p : Nat) : ∀ n, y 8 p + n ≤ 1900 → LL (goL y x p n) (goM y p n) (y 8 p + n)
  | 0, _ => LL_clr y x _
  | n + 1, h => by
    have h1 := LL_go y x p n (by omega)
    have h2 := LL_day (p := p) (OffM_go y p n) h1 (by omega)
    exact h2
-- what the law's numbers are bounded by
theorem LL.le {x z : Nat → Nat → Nat} {d p B : Nat} (h : LL x z d) (hg : GM z p B) : ∀ m, m < 64 → x 11 m ≤ B * 11 := fun m hm => by
  have h1 := h.tot
  have h2 := totM_le hg
  have h3 := smN_mono (x 11) 0 (n := m + 1) (m := 64) (by omega)
  rw [smN_0s] at h3
  unfold totL at h1
  omega
-- the sums and the lots balance
def BAL (z : Nat → Nat → Nat) : Prop := z 7 25 + z 7 24 = totM z + z 7 26 + z 7 27 + z 7 28
theorem tot_drw (z : Nat → Nat → Nat) (pts : Nat) : totM (drwM z pts) = totM z - pts := by
  unfold totM
  exact smN_drw (f := z 25) (pts := pts) 11 (fun i hi => by
    rw [Nat.zero_add]
    exact if_pos ⟨rfl, by omega⟩)
theorem tot_es (z : Nat → Nat → Nat) (k v : Nat) : totM (es z 7 k v) = totM z := by
  unfold totM
  rw [es_off _ _ _ (by omega)]
theorem BAL_mth {z : Nat → Nat → Nat} {p d : Nat} (h : BAL z) (hd : d < 3601) : BAL (mthM z p d) := by
  unfold mthM
  split
  · unfold earnM
    unfold BAL at *
    generalize ptsM z p d = P
    have e1 : totM (es (es (es z 7 24 (z 7 24 - min (z 7 24) P)) 25 ((d - 1) / 360) (z 25 ((d - 1) / 360) + (P - min (z 7 24) P))) 7 25 (z 7 25 + P)) = totM z + (P - min (z 7 24) P) := by
      rw [tot_es]
      unfold totM
      rw [smN_upd (f := z 25) (k := (d - 1) / 360) (v := P - min (z 7 24) P) (fun i => by
        rw [es_at]
        by_cases q : i = (d - 1) / 360
        · rw [if_pos ⟨rfl, q⟩, if_pos q]
        · rw [if_neg (fun w => q w.2), if_neg q, es_ne _ _ (by omega)]), if_pos (by omega)]
    rw [e1]
    simp [es]
    omega
  · exact h
theorem BAL_exp {z : Nat → Nat → Nat} {d : Nat} (h : BAL z) (hd : d < 3601) : BAL (expM z d) := by
  unfold expM
  split
  · rename_i hc
    unfold BAL at *
    have e1 : totM (es (es z 7 27 (z 7 27 + z 25 (d / 360 - 1))) 25 (d / 360 - 1) 0) = totM z - z 25 (d / 360 - 1) := by
      unfold totM
      rw [smN_zero (f := z 25) (k := d / 360 - 1) (fun i => by
        rw [es_at]
        by_cases q : i = d / 360 - 1
        · rw [if_pos ⟨rfl, q⟩, if_pos q]
        · rw [if_neg (fun w => q w.2), if_neg q, es_ne _ _ (by omega)]), if_pos (by omega)]
    have e2 : z 25 (d / 360 - 1) ≤ totM z := by
      unfold totM
      have h3 := smN_mono (z 25) 0 (n := d / 360 - 1 + 1) (m := 11) (by omega)
      rw [smN_0s] at h3
      omega
    rw [e1]
    simp [es]
    omega
  · exact h
theorem BAL_leaves {z : Nat → Nat → Nat} (h : BAL z) (pts : Nat) : BAL (leavesM z pts) := by
  unfold leavesM
  split
  · unfold BAL at *
    rw [tot_es]
    simp [es]
    omega
  · unfold BAL at *
    rw [tot_es, tot_es, tot_drw, es_ne _ _ (by omega), es_ne _ _ (by omega), es_ne _ _ (by omega), es_same, es_same, es_ne _ _ (by omega), es_ne _ _ (by omega), es_ne _ _ (by omega), es_ne _ _ (by omega), drwM_7, drwM_7, drwM_7]
    omega
theorem BAL_pays {z : Nat → Nat → Nat} (h : BAL z) (p d k : Nat) : BAL (paysM z p d k) := by
  unfold paysM
  split
  · unfold BAL at *
    rw [tot_es, tot_drw, es_ne _ _ (by omega), es_ne _ _ (by omega), es_ne _ _ (by omega), es_ne _ _ (by omega), es_same, drwM_7, drwM_7, drwM_7, drwM_7]
    omega
  · exact h
theorem BAL_pay {z : Nat → Nat → Nat} (h : BAL z) (p d : Nat) : ∀ n, BAL (payM z p d n)
  | 0 => h
  | n + 1 => BAL_pays (BAL_pay h p d n) p d n
theorem BAL_clr (y : Nat → Nat → Nat) : BAL (clrM y) := by
  have e25 : ∀ i, i < 11 → clrM y 25 i = 0 := fun i hi => by
    unfold clrM
    rw [es_ne _ _ (by omega), es_ne _ _ (by omega), es_ne _ _ (by omega), es_ne _ _ (by omega), es_ne _ _ (by omega), es_ne _ _ (by omega), if_pos ⟨rfl, hi⟩]
  have a1 := smN_le0 (f := clrM y 25) (b := 0) 11 (fun i hi => by rw [e25 i hi]; exact Nat.le_refl _)
  have a2 : totM (clrM y) = 0 := by unfold totM; omega
  unfold BAL
  rw [a2]
  simp [clrM, es]
theorem BAL_go (y : Nat → Nat → Nat) (p : Nat) : ∀ n, y 8 p + n ≤ 3601 → BAL (goM y p n)
  | 0, _ => BAL_clr y
  | n + 1, h => by
    have h1 := BAL_go y p n (by omega)
    show BAL (dayM (goM y p n) p (y 8 p + n))
    unfold dayM
    exact BAL_pay (BAL_leaves (BAL_exp (BAL_mth h1 (by omega)) (by omega)) _) p _ _
-- the next expiry
def fxT (x : Nat → Nat → Nat) : Nat → Int32
  | 0 => -1
  | n + 1 => if 0 < x 11 (63 - n) then nI (exM (63 - n)) else fxT x n
theorem fxT_none {x : Nat → Nat → Nat} (h : ∀ i, i < 64 → x 11 i = 0) : ∀ n, n ≤ 63 → fxT x n = -1
  | 0, _ => rfl
  | n + 1, hn => by
    have h1 : fxT x (n + 1) = fxT x n := if_neg (by rw [h (63 - n) (by omega)]; omega)
    rw [h1]
    exact fxT_none h n (by omega)
theorem fxT_some {x : Nat → Nat → Nat} {m : Nat} (hm : 1 ≤ m ∧ m ≤ 63) (h : ∀ i, i < m → x 11 i = 0) (h2 : 0 < x 11 m) : ∀ k, 64 - m + k ≤ 63 → fxT x (64 - m + k) = nI (exM m)
  | 0, _ => by
    rw [show 64 - m + 0 = (63 - m) + 1 by omega]
    have h3 : 63 - (63 - m) = m := by omega
    unfold fxT
    rw [h3, if_pos h2]
  | k + 1, hk => by
    have h1 : fxT x (64 - m + k + 1) = fxT x (64 - m + k) := if_neg (by rw [h (63 - (64 - m + k)) (by omega)]; omega)
    show fxT x (64 - m + k + 1) = _
    rw [h1]
    exact fxT_some hm h h2 k (by omega)
theorem first_of {f : Nat → Nat} : ∀ n, (∀ i, i < n → f i = 0) ∨ ∃ m, m < n ∧ (∀ i, i < m → f i = 0) ∧ 0 < f m
  | 0 => Or.inl (fun i hi => absurd hi (Nat.not_lt_zero i))
  | n + 1 => by
    rcases first_of (f := f) n with h | ⟨m, a, b, c⟩
    · by_cases z : f n = 0
      · refine Or.inl (fun i hi => ?_)
        by_cases w : i = n
        · rw [w]; exact z
        · exact h i (by omega)
      · exact Or.inr ⟨n, Nat.lt_succ_self n, h, by omega⟩
    · exact Or.inr ⟨m, by omega, b, c⟩
theorem LL_fx {x z : Nat → Nat → Nat} {d : Nat} (h : LL x z d) : fxT x 63 = fxR z 11 := by
  have z1 := h.1
  have l0 : x 11 0 = 0 := by
    have a := z1 0 (by decide)
    have b : smN (z 25) 0 0 = 0 := rfl
    rw [b, show min (12 * 0 + 1) 64 = 0 + 1 by decide, smN_0s] at a
    omega
  rcases first_of (f := x 11) 64 with h0 | ⟨m, a, b, c⟩
  · rw [fxT_none h0 63 (by omega)]
    refine (fxR_none (fun i hi => ?_) 11 (Nat.le_refl _)).symm
    have t := h.tot
    have t0 : totL x ≤ 0 := by
      unfold totL
      have := smN_le0 (f := x 11) (b := 0) 64 (fun i hi => by rw [h0 i hi]; exact Nat.le_refl _)
      omega
    have h5 := smN_mono (z 25) 0 (n := i + 1) (m := 11) (by omega)
    rw [smN_0s] at h5
    unfold totM at t
    omega
  · have hm : 1 ≤ m := by
      rcases Nat.eq_zero_or_pos m with q | q
      · rw [q, l0] at c; omega
      · exact q
    have e1 := fxT_some (x := x) ⟨hm, by omega⟩ b c (m - 1) (by omega)
    rw [show 64 - m + (m - 1) = 63 by omega] at e1
    rw [e1]
    have p0 := z1 ((30 * m - 1) / 360) (by omega)
    have p1 := z1 ((30 * m - 1) / 360 + 1) (by omega)
    rw [smN_0s] at p1
    have q0 := smN_le0 (f := x 11) (b := 0) (min (12 * ((30 * m - 1) / 360) + 1) 64) (fun i hi => by rw [b i (by omega)]; exact Nat.le_refl _)
    have q1 := smN_mono (x 11) 0 (n := m + 1) (m := min (12 * ((30 * m - 1) / 360 + 1) + 1) 64) (by omega)
    rw [smN_0s] at q1
    have r := fxR_some (y := z) (z := (30 * m - 1) / 360) (by omega) (fun i hi => by
      have h5 := smN_mono (z 25) 0 (n := i + 1) (m := (30 * m - 1) / 360) (by omega)
      rw [smN_0s] at h5
      omega) (by omega) ((30 * m - 1) / 360) (by omega)
    rw [show 11 - (30 * m - 1) / 360 + (30 * m - 1) / 360 = 11 by omega] at r
    rw [r]
    unfold exM
    rw [Nat.mul_comm]
theorem nI_bal {e t x p s b : Nat} (h : e + b = s + t + x + p) : nI e - nI t - nI x - nI p = nI s - nI b := by
  have h1 : nI e + nI b = nI s + nI t + nI x + nI p := by rw [nI_add, nI_add, nI_add, nI_add, h]
  have h2 : nI e = nI s + nI t + nI x + nI p - nI b := by rw [← h1, Int32.add_sub_cancel]
  rw [h2]
  apply Int32.toBitVec_inj.mp
  simp only [Int32.toBitVec_sub, Int32.toBitVec_add]
  generalize (nI s).toBitVec = S
  generalize (nI t).toBitVec = T
  generalize (nI x).toBitVec = X
  generalize (nI p).toBitVec = P
  generalize (nI b).toBitVec = B
  simp only [BitVec.sub_eq_add_neg]
  have e1 : S + T + X + P + -B + -T + -X + -P = S + -B + (T + -T) + (X + -X) + (P + -P) := by ac_rfl
  rw [e1, BitVec.add_right_neg, BitVec.add_right_neg, BitVec.add_right_neg, BitVec.add_zero, BitVec.add_zero, BitVec.add_zero]
