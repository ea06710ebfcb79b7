/-! ===== the two ledgers, side by side: x holds the class's numbers, y the reference's ===== -/
def LQ (x y : Nat → Nat → Nat) : Prop := ∀ Y, Y ≤ 11 → ∃ m, m ≤ x 3 2 - x 3 3 ∧ (∀ j, j < x 3 2 - x 3 3 → (x 5 (x 3 3 + j) < 360 * Y + 450 ↔ j < m)) ∧ smN (y 25) 0 Y = smN (x 4) (x 3 3) m
def LSm (x y : Nat → Nat → Nat) : Prop := x 3 5 = y 7 24 ∧ x 3 6 = y 7 25 ∧ x 3 7 = y 7 26 ∧ x 3 8 = y 7 27 ∧ x 3 9 = y 7 28 ∧ x 3 10 = y 7 29
/-- lots that live: expiries of the years so far, none before d -/
def LX (x : Nat → Nat → Nat) (d0 d : Nat) : Prop := ∀ j, j < x 3 2 - x 3 3 → (∃ z, z ≤ (d0 - 1) / 360 ∧ x 5 (x 3 3 + j) = 360 * z + 450) ∧ d ≤ x 5 (x 3 3 + j)
theorem smN_drw {f f' : Nat → Nat} {a pts : Nat} : ∀ n, (∀ i, i < n → f' (a + i) = f (a + i) - (pts - smN f a i)) → smN f' a n = smN f a n - pts
  | 0, _ => (Nat.zero_sub pts).symm
  | n + 1, h => by
    have h1 := smN_drw n (fun i hi => h i (by omega))
    have h2 := h n (by omega)
    show smN f' a n + f' (a + n) = smN f a n + f (a + n) - pts
    rw [h1, h2]
    omega
theorem smN_eq {f f' : Nat → Nat} {a : Nat} : ∀ n, (∀ i, i < n → f' (a + i) = f (a + i)) → smN f' a n = smN f a n
  | 0, _ => rfl
  | n + 1, h => by
    show smN f' a n + f' (a + n) = smN f a n + f (a + n)
    rw [smN_eq n (fun i hi => h i (by omega)), h n (by omega)]
theorem smN_add (f : Nat → Nat) (a n : Nat) : ∀ k, smN f a (n + k) = smN f a n + smN f (a + n) k
  | 0 => rfl
  | k + 1 => by
    show smN f a (n + k) + f (a + (n + k)) = smN f a n + (smN f (a + n) k + f (a + n + k))
    rw [smN_add f a n k, Nat.add_assoc a n k]
    omega
theorem LQ_draw {x y : Nat → Nat → Nat} (h : LQ x y) (pts : Nat) : LQ (drwC x pts) (drwM y pts) := fun Y hY => by
  obtain ⟨m, h1, h2, h3⟩ := h Y hY
  refine ⟨m, ?_, ?_, ?_⟩
  · rw [drwC_off x pts (by decide), drwC_off x pts (by decide)]; exact h1
  · intro j hj
    rw [drwC_off x pts (by decide), drwC_off x pts (by decide)] at hj
    rw [drwC_off x pts (c := 5) (by decide), drwC_off x pts (c := 3) (by decide)]
    exact h2 j hj
  · rw [drwC_off x pts (c := 3) (by decide)]
    rw [smN_drw (f := y 25) (pts := pts) Y (fun i hi => by
      rw [Nat.zero_add]
      exact if_pos ⟨rfl, by omega⟩), smN_drw (f := x 4) (pts := pts) m (fun i hi => by
      show (if _ then _ else _) = _
      rw [if_pos ⟨rfl, by omega, by omega⟩, Nat.add_sub_cancel_left]), h3]
theorem LQ_tot {x y : Nat → Nat → Nat} {d0 d : Nat} (h : LQ x y) (hx : LX x d0 d) (hd : d0 ≤ 3601) : totC x = totM y := by
  obtain ⟨m, h1, h2, h3⟩ := h 11 (Nat.le_refl _)
  have hm : m = x 3 2 - x 3 3 := by
    rcases Nat.lt_or_ge m (x 3 2 - x 3 3) with z | z
    · obtain ⟨⟨q, q1, q2⟩, q3⟩ := hx m z
      have := (h2 m z).mp (by omega)
      omega
    · omega
  unfold totC totM
  rw [h3, hm]
/-- what no draw or count changes keeps the pools and lots -/
theorem LQ.eq {x y x' y' : Nat → Nat → Nat} (h : LQ x y) (h2 : x' 3 2 = x 3 2) (h3 : x' 3 3 = x 3 3) (h4 : x' 4 = x 4) (h5 : x' 5 = x 5) (h25 : y' 25 = y 25) : LQ x' y' := by
  unfold LQ at *
  rw [h2, h3, h4, h5, h25]
  exact h
theorem LX.eq {x x' : Nat → Nat → Nat} {d0 d : Nat} (h : LX x d0 d) (h2 : x' 3 2 = x 3 2) (h3 : x' 3 3 = x 3 3) (h5 : x' 5 = x 5) : LX x' d0 d := by
  unfold LX at *
  rw [h2, h3, h5]
  exact h
theorem LX.le {x : Nat → Nat → Nat} {d0 d0' d : Nat} (h : LX x d0 d) (hd : d0 ≤ d0') : LX x d0' d := fun j hj => by
  obtain ⟨⟨z, z1, z2⟩, z3⟩ := h j hj
  exact ⟨⟨z, by omega, z2⟩, z3⟩
-- a draw
theorem drw_3 (x : Nat → Nat → Nat) (pts i : Nat) : drwC x pts 3 i = x 3 i := drwC_off x pts (by decide) i
theorem drw_5 (x : Nat → Nat → Nat) (pts : Nat) : drwC x pts 5 = x 5 := by
  funext i
  exact drwC_off x pts (by decide) i
theorem drwM_7 (y : Nat → Nat → Nat) (pts i : Nat) : drwM y pts 7 i = y 7 i := drwM_off y pts (by decide) i
theorem LX_draw {x : Nat → Nat → Nat} {d0 d : Nat} (h : LX x d0 d) (pts : Nat) : LX (drwC x pts) d0 d := h.eq (drw_3 x pts 2) (drw_3 x pts 3) (drw_5 x pts)
/-- the ledgers agree -/
def LR (x y : Nat → Nat → Nat) (d0 d : Nat) : Prop := LQ x y ∧ LSm x y ∧ LX x d0 d
theorem LR_es {x y : Nat → Nat → Nat} {d0 d k v k' v' : Nat} (hq : LQ x y) (hx : LX x d0 d) (hk : k ≠ 2 ∧ k ≠ 3) (hs : LSm (es x 3 k v) (es y 7 k' v')) : LR (es x 3 k v) (es y 7 k' v') d0 d :=
  ⟨hq.eq (es_ne _ _ (by omega)) (es_ne _ _ (by omega)) (es_off _ _ _ (by omega)) (es_off _ _ _ (by omega)) (es_off _ _ _ (by omega)), hs, hx.eq (es_ne _ _ (by omega)) (es_ne _ _ (by omega)) (es_off _ _ _ (by omega))⟩
-- a day's leave
theorem drw_zero (y : Nat → Nat → Nat) : drwM y 0 = y := by
  funext c i
  unfold drwM
  split
  · rename_i h
    rw [h.1]; omega
  · rfl
theorem es_self (e : Nat → Nat → Nat) (c k : Nat) : es e c k (e c k) = e := es_id e c k
theorem leaves_0 (y : Nat → Nat → Nat) : leavesM y 0 = y := by
  unfold leavesM
  rw [if_neg (by omega), drw_zero, Nat.zero_min, Nat.sub_zero, es_id, es_id]
theorem LR_take {x y : Nat → Nat → Nat} {d0 d k : Nat} (h : LR x y d0 d) (hd : d0 ≤ 3600) (hk : k ≤ 2) (hb : x 3 5 ≤ 2400) : LR (takeC x k) (leavesM y (240 * k)) d0 d := by
  obtain ⟨hq, ⟨s1, s2, s3, s4, s5, s6⟩, hx⟩ := h
  have ht := LQ_tot hq hx (Nat.le_succ_of_le hd)
  by_cases hk0 : k = 0
  · subst hk0
    rw [Nat.mul_zero, leaves_0]
    unfold takeC
    rw [if_pos rfl]
    exact ⟨hq, ⟨s1, s2, s3, s4, s5, s6⟩, hx⟩
  · have hp : (if k = 2 then 480 else 240) = 240 * k := by split <;> omega
    unfold takeC
    rw [if_neg hk0, hp]
    unfold takC leavesM
    rw [ht]
    by_cases hc : 2400 < x 3 5 + (240 * k - totM y)
    · rw [if_pos hc, if_pos ⟨by omega, by omega⟩]
      refine LR_es hq hx (by omega) ⟨?_, ?_, ?_, ?_, ?_, ?_⟩ <;> simp [es] <;> omega
    · rw [if_neg hc, if_neg (by omega)]
      have hq2 := LQ_draw hq (240 * k)
      have hx2 := LX_draw hx (240 * k)
      refine ⟨hq2.eq ?_ ?_ ?_ ?_ ?_, ⟨?_, ?_, ?_, ?_, ?_, ?_⟩, hx2.eq ?_ ?_ ?_⟩
      · rw [es_ne _ _ (by omega), es_ne _ _ (by omega)]
      · rw [es_ne _ _ (by omega), es_ne _ _ (by omega)]
      · rw [es_off _ _ _ (by omega), es_off _ _ _ (by omega)]
      · rw [es_off _ _ _ (by omega), es_off _ _ _ (by omega)]
      · rw [es_off _ _ _ (by omega), es_off _ _ _ (by omega)]
      · rw [es_ne _ _ (by omega), es_same, es_ne _ _ (by omega), es_same]; omega
      · rw [es_ne _ _ (by omega), es_ne _ _ (by omega), es_ne _ _ (by omega), es_ne _ _ (by omega), drw_3, drwM_7]; exact s2
      · rw [es_same, es_same]; omega
      · rw [es_ne _ _ (by omega), es_ne _ _ (by omega), es_ne _ _ (by omega), es_ne _ _ (by omega), drw_3, drwM_7]; exact s4
      · rw [es_ne _ _ (by omega), es_ne _ _ (by omega), es_ne _ _ (by omega), es_ne _ _ (by omega), drw_3, drwM_7]; exact s5
      · rw [es_ne _ _ (by omega), es_ne _ _ (by omega), es_ne _ _ (by omega), es_ne _ _ (by omega), drw_3, drwM_7]; exact s6
      · rw [es_ne _ _ (by omega), es_ne _ _ (by omega)]
      · rw [es_ne _ _ (by omega), es_ne _ _ (by omega)]
      · rw [es_off _ _ _ (by omega), es_off _ _ _ (by omega)]
-- a payout
theorem LR_pays {x y : Nat → Nat → Nat} {d0 d pts nx : Nat} (h : LR x y d0 d) (hd : d0 ≤ 3600) : LR (es (es (drwC x pts) 3 9 (x 3 9 + min pts (totC x))) 3 4 nx) (es (drwM y pts) 7 28 (y 7 28 + min pts (totM y))) d0 d := by
  obtain ⟨hq, ⟨s1, s2, s3, s4, s5, s6⟩, hx⟩ := h
  have ht := LQ_tot hq hx (Nat.le_succ_of_le hd)
  have hq2 := LQ_draw hq pts
  have hx2 := LX_draw hx pts
  refine ⟨hq2.eq ?_ ?_ ?_ ?_ ?_, ⟨?_, ?_, ?_, ?_, ?_, ?_⟩, hx2.eq ?_ ?_ ?_⟩
  · rw [es_ne _ _ (by omega), es_ne _ _ (by omega)]
  · rw [es_ne _ _ (by omega), es_ne _ _ (by omega)]
  · rw [es_off _ _ _ (by omega), es_off _ _ _ (by omega)]
  · rw [es_off _ _ _ (by omega), es_off _ _ _ (by omega)]
  · rw [es_off _ _ _ (by omega)]
  · rw [es_ne _ _ (by omega), es_ne _ _ (by omega), es_ne _ _ (by omega), drw_3, drwM_7]; exact s1
  · rw [es_ne _ _ (by omega), es_ne _ _ (by omega), es_ne _ _ (by omega), drw_3, drwM_7]; exact s2
  · rw [es_ne _ _ (by omega), es_ne _ _ (by omega), es_ne _ _ (by omega), drw_3, drwM_7]; exact s3
  · rw [es_ne _ _ (by omega), es_ne _ _ (by omega), es_ne _ _ (by omega), drw_3, drwM_7]; exact s4
  · rw [es_ne _ _ (by omega), es_same, es_same, ht, s5]
  · rw [es_ne _ _ (by omega), es_ne _ _ (by omega), es_ne _ _ (by omega), drw_3, drwM_7]; exact s6
  · rw [es_ne _ _ (by omega), es_ne _ _ (by omega)]
  · rw [es_ne _ _ (by omega), es_ne _ _ (by omega)]
  · rw [es_off _ _ _ (by omega), es_off _ _ _ (by omega)]
