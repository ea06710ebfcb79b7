/-! ===== what holds between the law's turns ===== -/
def LB (e : Nat → Nat → Nat) : Prop := e 6 0 ≤ 1700 ∧ e 6 1 ≤ 2 ∧ e 6 2 ≤ 12 ∧ e 6 3 ≤ 8 ∧ e 6 4 ≤ 10
def IV (e : Nat → Nat → Nat) : Prop := CW e ∧ MW (VV e) ∧ REL e (VV e) ∧ LB e
theorem IV.of {x y e : Nat → Nat → Nat} (hc : CW x) (hm : MW y) (hr : REL x y) (hx : XF x e) (hy : YF y (VV e)) (h1 : VV e 7 1 = y 7 1) (hl : LB e) : IV e := ⟨hc.fr hx, hm.fr hy h1, hr.fr hx hy h1, hl⟩
theorem LB.fr {e e' : Nat → Nat → Nat} (h : LB e) (h6 : e' 6 = e 6) : LB e' := by
  unfold LB at *
  rw [h6]
  exact h
theorem REL.x {x x' y : Nat → Nat → Nat} (h : REL x y) (hx : XF x x') : REL x' y := h.fr hx (YF.rf y) rfl
theorem IV.fr {e e' : Nat → Nat → Nat} (h : IV e) (hx : XF e e') (hv : ∀ c, 6 ≤ c → c ≤ 10 → e' c = e c) : IV e' := by
  have e9 := VV_eq hv
  obtain ⟨h1, h2, h3, h4⟩ := h
  refine ⟨h1.fr hx, by rw [e9]; exact h2, by rw [e9]; exact h3.fr hx (YF.rf _) rfl, h4.fr (hv 6 (by decide) (by decide))⟩
/-- the heap while the questions are asked: only the class's ledger is another -/
def CH (e X z : Nat → Nat → Nat) : Prop := XF e z ∧ (∀ c, 6 ≤ c → c ≤ 10 → z c = e c) ∧ z 11 = X 11 ∧ z 12 = X 12
theorem CH_X {e X : Nat → Nat → Nat} (h : OffL e X) : CH e X X := ⟨fun c hc => h c (by omega) (by omega), fun c a b => h c (by omega) (by omega), rfl, rfl⟩
theorem CH_go {e X z : Nat → Nat → Nat} (h : CH e X z) (p n : Nat) : CH e X (goC z p n) := by
  have o := Off_go z p n
  exact ⟨h.1.tr (XF_off o), fun c a b => (o c (by omega) (by omega) (by omega)).trans (h.2.1 c a b), (o 11 (by decide) (by decide) (by decide)).trans h.2.2.1, (o 12 (by decide) (by decide) (by decide)).trans h.2.2.2⟩
theorem CH.iv {e X z : Nat → Nat → Nat} (h : CH e X z) (hI : IV e) : IV z := hI.fr h.1 h.2.1
theorem CH.vv {e X z : Nat → Nat → Nat} (h : CH e X z) : VV z = VV e := VV_eq h.2.1
theorem CH.e0 {e X z : Nat → Nat → Nat} (h : CH e X z) : z 0 = e 0 := h.1 0 (Or.inl (by decide))
theorem CH.at12 {e X z : Nat → Nat → Nat} (h : CH e X z) (k : Nat) : z 12 k = X 12 k := congrFun h.2.2.2 k
theorem CH.p8 {e X z : Nat → Nat → Nat} (h : CH e X z) {p : Nat} (hp : p < 2) : z 7 (4 * p) = VV e 8 p := (congrFun (h.2.1 7 (by decide) (by decide)) (4 * p)).trans (show VV e 8 p = e 7 (4 * p) from if_pos hp).symm
section
variable {e : Nat → Nat → Nat}
theorem IV.n1 (h : IV e) : e 0 1 = e 6 1 := h.2.2.1.1.1
theorem IV.n3 (h : IV e) : e 0 3 = e 6 2 := h.2.2.1.1.2.1
theorem IV.n4 (h : IV e) : e 0 4 = e 6 3 := h.2.2.1.1.2.2.1
theorem IV.n5 (h : IV e) : e 0 5 = e 6 4 := h.2.2.1.1.2.2.2.1
theorem IV.n6 (h : IV e) : e 0 6 = e 6 0 := h.2.2.1.1.2.2.2.2
theorem IV.mp (h : IV e) {p : Nat} (hp : p < e 6 1) : MWp (VV e) p := h.2.1.2.2.2.2 p hp
theorem IV.pr (h : IV e) {p : Nat} (hp : p < e 6 1) : PR e (VV e) p := (h.2.2.1.2.1 p hp).1
theorem IV.p8 (h : IV e) {p : Nat} (hp : p < e 6 1) : VV e 8 p ≤ 1700 := Nat.le_trans (h.2.2.1.2.1 p hp).2 h.2.2.2.1
theorem IV.rd (h : IV e) {p : Nat} (hp : p < e 6 1) : RD (VV e) p := (h.pr hp).2.2.2.2.2
theorem IV.pb (h : IV e) {p : Nat} (hp : p < e 6 1) : e (PB p) 0 = VV e 8 p := (h.pr hp).1.1
theorem IV.lv (h : IV e) {p : Nat} (hp : p < e 6 1) {d : Nat} (hd : d ≤ 3600) : e (PB p + 8) d = lvM (VV e) p d := (h.pr hp).2.1 d hd
theorem IV.hr (h : IV e) {p : Nat} (hp : p < e 6 1) (d : Nat) : hrC e p d = hrM (VV e) p d := (h.pr hp).1.hr d
theorem IV.two (h : IV e) {p : Nat} (hp : p < e 6 1) : p < 2 := Nat.lt_of_lt_of_le hp h.2.2.2.2.1
theorem IV.b3 (h : IV e) : VV e 7 9 ≤ 12 ∧ VV e 7 15 ≤ 8 ∧ VV e 7 19 ≤ 10 := ⟨h.2.2.2.2.2.1, h.2.2.2.2.2.2.1, h.2.2.2.2.2.2.2⟩
end
def AKP (X w : Nat → Nat → Nat) : Prop := totC w = totL X ∧ w 3 5 = X 12 0 ∧ w 3 6 = X 12 1 ∧ w 3 7 = X 12 2 ∧ w 3 8 = X 12 3 ∧ w 3 9 = X 12 4 ∧ w 3 10 = X 12 5 ∧ fxC w = fxT X 63 ∧ nI (w 3 6) - nI (w 3 7) - nI (w 3 8) - nI (w 3 9) = nI (totL X) - nI (X 12 0)
/-- what the class answers is what the law has found -/
theorem AK {e X z : Nat → Nat → Nat} {p d : Nat} (hI : IV e) (hp : p < e 6 1) (hd : d < 1890) (hX : X = goL (VV e) e p (d + 1 - VV e 8 p)) (hx : XF e z) : AKP X (goC z p (d + 1 - z (PB p) 0)) := by
  have hrel := hI.2.2.1.x hx
  have hpr := (hrel.2.1 p hp).1
  have h8 := hI.p8 hp
  have hcp := (hI.1.fr hx).p (p := p) (by rw [hx 0 (Or.inl (by decide)), hI.n1]; exact hp)
  have hb : z (PB p) 0 = VV e 8 p := hpr.1.1
  have hn : VV e 8 p + (d + 1 - VV e 8 p) ≤ 1900 := by omega
  have hL := LL_go (VV e) e p (d + 1 - VV e 8 p) hn
  have hB := BAL_go (VV e) p (d + 1 - VV e 8 p) (by omega)
  obtain ⟨⟨q1, ⟨s1, s2, s3, s4, s5, s6⟩, q3⟩, -, -⟩ := LD_go hcp.a0 hcp.ch hcp.py hcp.lv ⟨hpr.1, hpr.2.1, hpr.2.2.1⟩ (d + 1 - VV e 8 p) (by omega)
  have t1 := LQ_tot q1 q3 (by omega)
  have t2 := LQ_fx q1 q3 (by omega)
  have t3 := hL.tot
  have t4 := LL_fx hL
  obtain ⟨-, ⟨l0, l1, l2, l3, l4, l5⟩, -⟩ := hL
  rw [← hX] at t3 t4 l0 l1 l2 l3 l4 l5
  unfold AKP
  rw [hb]
  refine ⟨by rw [t1, t3], by rw [s1, l0], by rw [s2, l1], by rw [s3, l2], by rw [s4, l3], by rw [s5, l4], by rw [s6, l5], by rw [t2, t4], ?_⟩
  rw [s2, s3, s4, s5, t3, l0]
  exact nI_bal hB
theorem fxT_1 {x : Nat → Nat → Nat} {k : Nat} (h : 1 ≤ k ∧ k ≤ 63) (h0 : 0 < x 11 k) : nI (exM k) = fxT x (63 - (k - 1)) := by
  rw [show 63 - (k - 1) = (63 - k) + 1 by omega]
  show _ = if _ then _ else _
  rw [show 63 - (63 - k) = k by omega, if_pos h0]
theorem fxT_0 {x : Nat → Nat → Nat} {k : Nat} (h : 1 ≤ k ∧ k ≤ 63) (h0 : x 11 k = 0) : fxT x (63 - k) = fxT x (63 - (k - 1)) := by
  rw [show 63 - (k - 1) = (63 - k) + 1 by omega]
  show _ = if _ then _ else _
  rw [show 63 - (63 - k) = k by omega, if_neg (by omega)]
-- what the law writes into its rows is what the reference writes
theorem VV_es8 (e : Nat → Nat → Nat) {j : Nat} (hj : j < 5) (n v : Nat) : VV (es e 8 (5 * n + j) v) = es (VV e) (14 + j) n v := by
  funext c i
  rw [es_at]
  by_cases h : c = 14 + j ∧ i = n
  · obtain ⟨rfl, rfl⟩ := h
    rw [if_pos ⟨rfl, rfl⟩]
    rcases (show j = 0 ∨ j = 1 ∨ j = 2 ∨ j = 3 ∨ j = 4 by omega) with rfl | rfl | rfl | rfl | rfl <;> exact es_same _ _ _ _
  · rw [if_neg h]
    by_cases hc : 14 ≤ c ∧ c ≤ 18
    · rcases (show c = 14 ∨ c = 15 ∨ c = 16 ∨ c = 17 ∨ c = 18 by omega) with rfl | rfl | rfl | rfl | rfl <;> exact es_ne _ _ (by omega)
    · unfold VV
      rw [es_off _ _ _ (show (6 : Nat) ≠ 8 by decide), es_off _ _ _ (show (7 : Nat) ≠ 8 by decide), es_off _ _ _ (show (9 : Nat) ≠ 8 by decide), es_off _ _ _ (show (10 : Nat) ≠ 8 by decide)]
      split <;> first | rfl | (exfalso; omega)
theorem VV_es9 (e : Nat → Nat → Nat) {j : Nat} (hj : j < 3) (n v : Nat) : VV (es e 9 (3 * n + j) v) = es (VV e) (19 + j) n v := by
  funext c i
  rw [es_at]
  by_cases h : c = 19 + j ∧ i = n
  · obtain ⟨rfl, rfl⟩ := h
    rw [if_pos ⟨rfl, rfl⟩]
    rcases (show j = 0 ∨ j = 1 ∨ j = 2 by omega) with rfl | rfl | rfl <;> exact es_same _ _ _ _
  · rw [if_neg h]
    by_cases hc : 19 ≤ c ∧ c ≤ 21
    · rcases (show c = 19 ∨ c = 20 ∨ c = 21 by omega) with rfl | rfl | rfl <;> exact es_ne _ _ (by omega)
    · unfold VV
      rw [es_off _ _ _ (show (6 : Nat) ≠ 9 by decide), es_off _ _ _ (show (7 : Nat) ≠ 9 by decide), es_off _ _ _ (show (8 : Nat) ≠ 9 by decide), es_off _ _ _ (show (10 : Nat) ≠ 9 by decide)]
      split <;> first | rfl | (exfalso; omega)
theorem VV_es10 (e : Nat → Nat → Nat) {j : Nat} (hj : j < 3) (n v : Nat) : VV (es e 10 (3 * n + j) v) = es (VV e) (22 + j) n v := by
  funext c i
  rw [es_at]
  by_cases h : c = 22 + j ∧ i = n
  · obtain ⟨rfl, rfl⟩ := h
    rw [if_pos ⟨rfl, rfl⟩]
    rcases (show j = 0 ∨ j = 1 ∨ j = 2 by omega) with rfl | rfl | rfl <;> exact es_same _ _ _ _
  · rw [if_neg h]
    by_cases hc : 22 ≤ c ∧ c ≤ 24
    · rcases (show c = 22 ∨ c = 23 ∨ c = 24 by omega) with rfl | rfl | rfl <;> exact es_ne _ _ (by omega)
    · unfold VV
      rw [es_off _ _ _ (show (6 : Nat) ≠ 10 by decide), es_off _ _ _ (show (7 : Nat) ≠ 10 by decide), es_off _ _ _ (show (8 : Nat) ≠ 10 by decide), es_off _ _ _ (show (9 : Nat) ≠ 10 by decide)]
      split <;> first | rfl | (exfalso; omega)
/-- which number of the reference's a number of q is -/
def q7 (j : Nat) : Nat := if j = 0 then 1 else if j = 1 then 2 else if j = 2 then 9 else if j = 3 then 15 else 19
theorem VV_es6 (e : Nat → Nat → Nat) {j : Nat} (hj : j < 5) (v : Nat) : VV (es e 6 j v) = es (VV e) 7 (q7 j) v := by
  funext c i
  rw [es_at]
  by_cases hc : c = 7
  · subst hc
    show (if i = 1 then es e 6 j v 6 0 else if i = 2 then es e 6 j v 6 1 else if i = 9 then es e 6 j v 6 2 else if i = 15 then es e 6 j v 6 3 else if i = 19 then es e 6 j v 6 4 else 0) = if 7 = 7 ∧ i = q7 j then v else (if i = 1 then e 6 0 else if i = 2 then e 6 1 else if i = 9 then e 6 2 else if i = 15 then e 6 3 else if i = 19 then e 6 4 else 0)
    rcases (show j = 0 ∨ j = 1 ∨ j = 2 ∨ j = 3 ∨ j = 4 by omega) with rfl | rfl | rfl | rfl | rfl <;> simp [es, q7] <;> (by_cases a1 : i = 1 <;> by_cases a2 : i = 2 <;> by_cases a3 : i = 9 <;> by_cases a4 : i = 15 <;> by_cases a5 : i = 19 <;> simp [a1, a2, a3, a4, a5] <;> omega)
  · rw [if_neg (fun z => hc z.1)]
    unfold VV
    rw [es_off _ _ _ (show (7 : Nat) ≠ 6 by decide), es_off _ _ _ (show (8 : Nat) ≠ 6 by decide), es_off _ _ _ (show (9 : Nat) ≠ 6 by decide), es_off _ _ _ (show (10 : Nat) ≠ 6 by decide)]
    split <;> first | rfl | (exfalso; omega)
theorem VV_es7 (e : Nat → Nat → Nat) {j p : Nat} (hj : j < 4) (hp : p < 2) (v : Nat) : VV (es e 7 (4 * p + j) v) = es (VV e) (8 + j) p v := by
  funext c i
  rw [es_at]
  by_cases h : c = 8 + j ∧ i = p
  · obtain ⟨rfl, rfl⟩ := h
    rw [if_pos ⟨rfl, rfl⟩]
    rcases (show j = 0 ∨ j = 1 ∨ j = 2 ∨ j = 3 by omega) with rfl | rfl | rfl | rfl <;> exact (if_pos hp).trans (es_same _ _ _ _)
  · rw [if_neg h]
    by_cases hc : 8 ≤ c ∧ c ≤ 11
    · by_cases hi : i < 2
      · rcases (show c = 8 ∨ c = 9 ∨ c = 10 ∨ c = 11 by omega) with rfl | rfl | rfl | rfl <;> exact (if_pos hi).trans ((es_ne _ _ (by omega)).trans (if_pos hi).symm)
      · rcases (show c = 8 ∨ c = 9 ∨ c = 10 ∨ c = 11 by omega) with rfl | rfl | rfl | rfl <;> exact (if_neg hi).trans (if_neg hi).symm
    · by_cases hd : c = 12 ∨ c = 13
      · rcases hd with rfl | rfl <;> exact es_ne _ _ (by omega)
      · unfold VV
        rw [es_off _ _ _ (show (6 : Nat) ≠ 7 by decide), es_off _ _ _ (show (8 : Nat) ≠ 7 by decide), es_off _ _ _ (show (9 : Nat) ≠ 7 by decide), es_off _ _ _ (show (10 : Nat) ≠ 7 by decide)]
        split <;> first | rfl | (exfalso; omega)
theorem VV_es12 (e : Nat → Nat → Nat) {j : Nat} (hj : j < 2) (n v : Nat) : VV (es e 7 (12 + 2 * n + j) v) = es (VV e) (12 + j) n v := by
  funext c i
  rw [es_at]
  by_cases h : c = 12 + j ∧ i = n
  · obtain ⟨rfl, rfl⟩ := h
    rw [if_pos ⟨rfl, rfl⟩]
    rcases (show j = 0 ∨ j = 1 by omega) with rfl | rfl <;> exact es_same _ _ _ _
  · rw [if_neg h]
    by_cases hc : 8 ≤ c ∧ c ≤ 11
    · by_cases hi : i < 2
      · rcases (show c = 8 ∨ c = 9 ∨ c = 10 ∨ c = 11 by omega) with rfl | rfl | rfl | rfl <;> exact (if_pos hi).trans ((es_ne _ _ (by omega)).trans (if_pos hi).symm)
      · rcases (show c = 8 ∨ c = 9 ∨ c = 10 ∨ c = 11 by omega) with rfl | rfl | rfl | rfl <;> exact (if_neg hi).trans (if_neg hi).symm
    · by_cases hd : c = 12 ∨ c = 13
      · rcases hd with rfl | rfl <;> exact es_ne _ _ (by omega)
      · unfold VV
        rw [es_off _ _ _ (show (6 : Nat) ≠ 7 by decide), es_off _ _ _ (show (8 : Nat) ≠ 7 by decide), es_off _ _ _ (show (9 : Nat) ≠ 7 by decide), es_off _ _ _ (show (10 : Nat) ≠ 7 by decide)]
        split <;> first | rfl | (exfalso; omega)
theorem es_comm (e : Nat → Nat → Nat) {c k v c' k' v' : Nat} (h : ¬ (c = c' ∧ k = k')) : es (es e c k v) c' k' v' = es (es e c' k' v') c k v := by
  funext a i
  rw [es_at, es_at, es_at, es_at]
  by_cases h1 : a = c' ∧ i = k'
  · rw [if_pos h1, if_neg (fun z => h ⟨z.1.symm.trans h1.1, z.2.symm.trans h1.2⟩), if_pos h1]
  · rw [if_neg h1, if_neg h1]
