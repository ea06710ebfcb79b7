/-! ===== the law's going through the days, in numbers ===== -/
def clrLn (x : Nat → Nat → Nat) (a b : Nat) : Nat → Nat → Nat := fun c i => if (c = 11 ∧ i < a) ∨ (c = 12 ∧ i < b) then 0 else x c i
def mthL (y x : Nat → Nat → Nat) (p d : Nat) : Nat → Nat → Nat := if d % 30 = 0 ∧ y 8 p + 30 ≤ d then es (es (es x 12 0 (x 12 0 - min (x 12 0) (ptsM y p d))) 11 (d / 30) (ptsM y p d - min (x 12 0) (ptsM y p d))) 12 1 (x 12 1 + ptsM y p d) else x
def exLn (x : Nat → Nat → Nat) (d m : Nat) : Nat → Nat → Nat := fun c i => if c = 11 ∧ i < m ∧ 0 < i ∧ exM i = d then 0 else if c = 12 ∧ i = 3 then x 12 3 + smN (fun j => if 0 < j ∧ exM j = d then x 11 j else 0) 0 m else x c i
def expL (x : Nat → Nat → Nat) (d : Nat) : Nat → Nat → Nat := if d % 30 = 0 then exLn x d 64 else x
def takL (x : Nat → Nat → Nat) (pts : Nat) : Nat → Nat → Nat := if totL x < pts ∧ 2400 < x 12 0 + (pts - totL x) then es x 12 5 (x 12 5 + 1) else es (es (drwL x pts) 12 0 (x 12 0 + (pts - min pts (totL x)))) 12 2 (x 12 2 + pts)
def paysL (y x : Nat → Nat → Nat) (p d k : Nat) : Nat → Nat → Nat := if y 22 k = p ∧ y 23 k = d then es (drwL x (y 24 k)) 12 4 (x 12 4 + min (y 24 k) (totL x)) else x
def payL (y x : Nat → Nat → Nat) (p d : Nat) : Nat → Nat → Nat → Nat
  | 0 => x
  | n + 1 => paysL y (payL y x p d n) p d n
def dayL (y x : Nat → Nat → Nat) (p d : Nat) : Nat → Nat → Nat := payL y (takL (expL (mthL y x p d) d) (240 * lvM y p d)) p d (y 7 19)
def goL (y x : Nat → Nat → Nat) (p : Nat) : Nat → Nat → Nat → Nat
  | 0 => clrLn x 64 6
  | n + 1 => dayL y (goL y x p n) p (y 8 p + n)
theorem OffL_clr (x : Nat → Nat → Nat) (a b : Nat) : OffL x (clrLn x a b) := fun c h1 h2 => by
  funext i
  exact if_neg (by omega)
theorem OffL_mth (y x : Nat → Nat → Nat) (p d : Nat) : OffL x (mthL y x p d) := by
  unfold mthL
  split
  · exact (((OffL.rf x).es (by omega)).es (by omega)).es (by omega)
  · exact OffL.rf x
theorem OffL_exn (x : Nat → Nat → Nat) (d m : Nat) : OffL x (exLn x d m) := fun c h1 h2 => by
  funext i
  unfold exLn
  rw [if_neg (fun z => h1 z.1), if_neg (fun z => h2 z.1)]
theorem OffL_exp (x : Nat → Nat → Nat) (d : Nat) : OffL x (expL x d) := by
  unfold expL
  split
  · exact OffL_exn x d 64
  · exact OffL.rf x
theorem OffL_tak (x : Nat → Nat → Nat) (pts : Nat) : OffL x (takL x pts) := by
  unfold takL
  split
  · exact (OffL.rf x).es (by omega)
  · exact (((OffL.rf x).drw pts).es (by omega)).es (by omega)
theorem OffL_pays (y x : Nat → Nat → Nat) (p d k : Nat) : OffL x (paysL y x p d k) := by
  unfold paysL
  split
  · exact ((OffL.rf x).drw _).es (by omega)
  · exact OffL.rf x
theorem OffL_pay (y x : Nat → Nat → Nat) (p d : Nat) : ∀ n, OffL x (payL y x p d n)
  | 0 => OffL.rf x
  | n + 1 => (OffL_pay y x p d n).tr (OffL_pays y _ p d n)
theorem OffL_day (y x : Nat → Nat → Nat) (p d : Nat) : OffL x (dayL y x p d) := (((OffL_mth y x p d).tr (OffL_exp _ d)).tr (OffL_tak _ _)).tr (OffL_pay y _ p d _)
theorem OffL_go (y x : Nat → Nat → Nat) (p : Nat) : ∀ n, OffL x (goL y x p n)
  | 0 => OffL_clr x 64 6
  | n + 1 => (OffL_go y x p n).tr (OffL_day y _ p _)
-- the law's lots by month, the reference's by year
def LL (x z : Nat → Nat → Nat) (d : Nat) : Prop := (∀ Y, Y ≤ 11 → smN (z 25) 0 Y = smN (x 11) 0 (min (12 * Y + 1) 64)) ∧ (x 12 0 = z 7 24 ∧ x 12 1 = z 7 25 ∧ x 12 2 = z 7 26 ∧ x 12 3 = z 7 27 ∧ x 12 4 = z 7 28 ∧ x 12 5 = z 7 29) ∧ ∀ m, m < 64 → d ≤ 30 * m → x 11 m = 0
theorem LL.tot {x z : Nat → Nat → Nat} {d : Nat} (h : LL x z d) : totL x = totM z := (h.1 11 (Nat.le_refl _)).symm
theorem LL_draw {x z : Nat → Nat → Nat} (h : ∀ Y, Y ≤ 11 → smN (z 25) 0 Y = smN (x 11) 0 (min (12 * Y + 1) 64)) (pts : Nat) : ∀ Y, Y ≤ 11 → smN (drwM z pts 25) 0 Y = smN (drwL x pts 11) 0 (min (12 * Y + 1) 64) := fun Y hY => by
  rw [smN_drw (f := z 25) (pts := pts) Y (fun i hi => by
      rw [Nat.zero_add]
      exact if_pos ⟨rfl, by omega⟩), smN_drw (f := x 11) (pts := pts) (min (12 * Y + 1) 64) (fun i hi => by
      rw [Nat.zero_add]
      exact if_pos ⟨rfl, by omega⟩), h Y hY]
theorem drwL_le (x : Nat → Nat → Nat) (pts m : Nat) : drwL x pts 11 m ≤ x 11 m := by
  unfold drwL
  split <;> omega
theorem drwL_12 (x : Nat → Nat → Nat) (pts i : Nat) : drwL x pts 12 i = x 12 i := drwL_off x pts (by decide) i
theorem drwL_zero (x : Nat → Nat → Nat) : drwL x 0 = x := by
  funext c i
  unfold drwL
  split
  · rename_i h
    rw [h.1]; omega
  · rfl
theorem takL_0 (x : Nat → Nat → Nat) : takL x 0 = x := by
  unfold takL
  rw [if_neg (by omega), drwL_zero, Nat.zero_min, Nat.sub_zero, es_id, es_id]
theorem LL.es12 {x z : Nat → Nat → Nat} {d k v k' v' : Nat} (h1 : ∀ Y, Y ≤ 11 → smN (z 25) 0 Y = smN (x 11) 0 (min (12 * Y + 1) 64)) (h3 : ∀ m, m < 64 → d ≤ 30 * m → x 11 m = 0) (h2 : es x 12 k v 12 0 = es z 7 k' v' 7 24 ∧ es x 12 k v 12 1 = es z 7 k' v' 7 25 ∧ es x 12 k v 12 2 = es z 7 k' v' 7 26 ∧ es x 12 k v 12 3 = es z 7 k' v' 7 27 ∧ es x 12 k v 12 4 = es z 7 k' v' 7 28 ∧ es x 12 k v 12 5 = es z 7 k' v' 7 29) : LL (es x 12 k v) (es z 7 k' v') d := by
  have e1 : es x 12 k v 11 = x 11 := es_off _ _ _ (by omega)
  have e2 : es z 7 k' v' 25 = z 25 := es_off _ _ _ (by omega)
  exact ⟨fun Y hY => by rw [e1, e2]; exact h1 Y hY, h2, fun m a b => by rw [e1]; exact h3 m a b⟩
theorem LL_tak {x z : Nat → Nat → Nat} {d : Nat} (h : LL x z d) (pts : Nat) : LL (takL x pts) (leavesM z pts) d := by
  have ht := h.tot
  obtain ⟨h1, ⟨s0, s1, s2, s3, s4, s5⟩, h3⟩ := h
  unfold takL leavesM
  rw [ht, s0]
  by_cases hc : totM z < pts ∧ 2400 < z 7 24 + (pts - totM z)
  · rw [if_pos hc, if_pos ⟨hc.1, by omega⟩]
    refine LL.es12 h1 h3 ⟨?_, ?_, ?_, ?_, ?_, ?_⟩ <;> simp [es] <;> omega
  · rw [if_neg hc, if_neg (fun q => hc ⟨q.1, by omega⟩)]
    have q1 := LL_draw h1 pts
    have e11 : es (es (drwL x pts) 12 0 (z 7 24 + (pts - min pts (totM z)))) 12 2 (x 12 2 + pts) 11 = drwL x pts 11 := by rw [es_off _ _ _ (by omega), es_off _ _ _ (by omega)]
    have e25 : es (es (drwM z pts) 7 24 (z 7 24 + (pts - min pts (totM z)))) 7 26 (z 7 26 + pts) 25 = drwM z pts 25 := by rw [es_off _ _ _ (by omega), es_off _ _ _ (by omega)]
    refine ⟨fun Y hY => by rw [e11, e25]; exact q1 Y hY, ⟨?_, ?_, ?_, ?_, ?_, ?_⟩, fun m a b => ?_⟩
    · rw [es_ne _ _ (by omega), es_same, es_ne _ _ (by omega), es_same]
    · rw [es_ne _ _ (by omega), es_ne _ _ (by omega), es_ne _ _ (by omega), es_ne _ _ (by omega), drwL_12, drwM_7]; exact s1
    · rw [es_same, es_same]; omega
    · rw [es_ne _ _ (by omega), es_ne _ _ (by omega), es_ne _ _ (by omega), es_ne _ _ (by omega), drwL_12, drwM_7]; exact s3
    · rw [es_ne _ _ (by omega), es_ne _ _ (by omega), es_ne _ _ (by omega), es_ne _ _ (by omega), drwL_12, drwM_7]; exact s4
    · rw [es_ne _ _ (by omega), es_ne _ _ (by omega), es_ne _ _ (by omega), es_ne _ _ (by omega), drwL_12, drwM_7]; exact s5
    · rw [e11]
      have := drwL_le x pts m
      have := h3 m a b
      omega
theorem LL_pays {x z : Nat → Nat → Nat} {d : Nat} (h : LL x z d) (pts : Nat) : LL (es (drwL x pts) 12 4 (x 12 4 + min pts (totL x))) (es (drwM z pts) 7 28 (z 7 28 + min pts (totM z))) d := by
  have ht := h.tot
  obtain ⟨h1, ⟨s0, s1, s2, s3, s4, s5⟩, h3⟩ := h
  rw [ht]
  refine LL.es12 (LL_draw h1 pts) (fun m a b => ?_) ⟨?_, ?_, ?_, ?_, ?_, ?_⟩
  · have := drwL_le x pts m
    have := h3 m a b
    omega
  · rw [es_ne _ _ (by omega), es_ne _ _ (by omega), drwL_12, drwM_7]; exact s0
  · rw [es_ne _ _ (by omega), es_ne _ _ (by omega), drwL_12, drwM_7]; exact s1
  · rw [es_ne _ _ (by omega), es_ne _ _ (by omega), drwL_12, drwM_7]; exact s2
  · rw [es_ne _ _ (by omega), es_ne _ _ (by omega), drwL_12, drwM_7]; exact s3
  · rw [es_same, es_same]; omega
  · rw [es_ne _ _ (by omega), es_ne _ _ (by omega), drwL_12, drwM_7]; exact s5
theorem LL_pay {x y z : Nat → Nat → Nat} {p d d' : Nat} (hz : OffM y z) (h : LL x z d') : ∀ n, LL (payL y x p d n) (payM z p d n) d'
  | 0 => h
  | n + 1 => by
    have ih := LL_pay (p := p) (d := d) hz h n
    show LL (paysL y (payL y x p d n) p d n) (paysM (payM z p d n) p d n) d'
    have hO := hz.tr (OffM_pay z p d n)
    by_cases hc : y 22 n = p ∧ y 23 n = d
    · rw [pays_1 hO hc.1 hc.2]
      unfold paysL
      rw [if_pos hc]
      exact LL_pays ih _
    · rw [pays_0 hO hc]
      unfold paysL
      rw [if_neg hc]
      exact ih
theorem ptsM_off {y z : Nat → Nat → Nat} (h : OffM y z) (p d : Nat) : ptsM z p d = ptsM y p d := by
  unfold ptsM hrM
  rw [h.1 8 (by decide) (by decide), h.1 9 (by decide) (by decide), h.1 10 (by decide) (by decide), h.1 11 (by decide) (by decide), h.1 12 (by decide) (by decide), h.1 13 (by decide) (by decide)]
theorem LL_mth {x y z : Nat → Nat → Nat} {p d : Nat} (hz : OffM y z) (h : LL x z d) (hd : d < 1900) : LL (mthL y x p d) (mthM z p d) (d + 1) := by
  obtain ⟨h1, ⟨s0, s1, s2, s3, s4, s5⟩, h3⟩ := h
  unfold mthL mthM
  rw [hz.1 8 (by decide) (by decide)]
  by_cases hc : d % 30 = 0 ∧ y 8 p + 30 ≤ d
  · rw [if_pos hc, if_pos hc]
    unfold earnM
    rw [ptsM_off hz, s0]
    have hm0 := h3 (d / 30) (by omega) (by omega)
    generalize ptsM y p d = P
    have r11 : ∀ i, es (es (es x 12 0 (z 7 24 - min (z 7 24) P)) 11 (d / 30) (P - min (z 7 24) P)) 12 1 (x 12 1 + P) 11 i = if i = d / 30 then x 11 (d / 30) + (P - min (z 7 24) P) else x 11 i := fun i => by
      rw [es_ne _ _ (by omega), es_at]
      by_cases q : i = d / 30
      · rw [if_pos ⟨rfl, q⟩, if_pos q]; omega
      · rw [if_neg (fun w => q w.2), if_neg q, es_ne _ _ (by omega)]
    have r25 : ∀ i, es (es (es z 7 24 (z 7 24 - min (z 7 24) P)) 25 ((d - 1) / 360) (z 25 ((d - 1) / 360) + (P - min (z 7 24) P))) 7 25 (z 7 25 + P) 25 i = if i = (d - 1) / 360 then z 25 ((d - 1) / 360) + (P - min (z 7 24) P) else z 25 i := fun i => by
      rw [es_ne _ _ (by omega), es_at]
      by_cases q : i = (d - 1) / 360
      · rw [if_pos ⟨rfl, q⟩, if_pos q]
      · rw [if_neg (fun w => q w.2), if_neg q, es_ne _ _ (by omega)]
    refine ⟨fun Y hY => ?_, ⟨?_, ?_, ?_, ?_, ?_, ?_⟩, fun m a b => ?_⟩
    · rw [smN_upd r11, smN_upd r25, h1 Y hY]
      by_cases q : (d - 1) / 360 < Y
      · rw [if_pos q, if_pos (by omega)]
      · rw [if_neg q, if_neg (by omega)]
    · simp [es]
    · simp [es]; omega
    · simp [es]; omega
    · simp [es]; omega
    · simp [es]; omega
    · simp [es]; omega
    · rw [r11, if_neg (by omega)]
      exact h3 m a (by omega)
  · rw [if_neg hc, if_neg hc]
    exact ⟨h1, ⟨s0, s1, s2, s3, s4, s5⟩, fun m a b => h3 m a (by omega)⟩
/-- a sum of which only a stretch counts -/
theorem smN_band (f : Nat → Nat) (q : Nat → Prop) [DecidablePred q] {a b : Nat} (hq : ∀ i, q i ↔ a ≤ i ∧ i < b) (hab : a ≤ b) : ∀ n, smN (fun j => if q j then f j else 0) 0 n = smN f 0 (min n b) - smN f 0 (min n a)
  | 0 => by rw [show min 0 b = 0 by omega, show min 0 a = 0 by omega]; rfl
  | n + 1 => by
    rw [smN_0s, smN_band f q hq hab n]
    by_cases h : q n
    · have z := (hq n).mp h
      rw [if_pos h, show min n b = n by omega, show min (n + 1) b = n + 1 by omega, show min n a = a by omega, show min (n + 1) a = a by omega, smN_0s]
      have := smN_mono f 0 (n := a) (m := n) z.1
      omega
    · have z : ¬ (a ≤ n ∧ n < b) := fun w => h ((hq n).mpr w)
      rw [if_neg h]
      by_cases w : n < a
      · rw [show min n b = n by omega, show min (n + 1) b = n + 1 by omega, show min n a = n by omega, show min (n + 1) a = n + 1 by omega]; omega
      · rw [show min (n + 1) b = min n b by omega, show min (n + 1) a = min n a by omega]; omega
