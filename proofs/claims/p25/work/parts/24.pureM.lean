/-! ===== the reference's numbers ===== -/
theorem nI_wrap {a b : Nat} (h : b ≤ 4294967296) : nI a - nI b = nI ((a + (4294967296 - b)) % 4294967296) := by
  apply Int32.toBitVec_inj.mp
  apply BitVec.eq_of_toNat_eq
  unfold nI
  rw [Int32.toBitVec_sub, BitVec.toNat_sub]
  simp only [Int32.toBitVec_ofNat', BitVec.toNat_ofNat]
  omega
def MWp (e : Nat → Nat → Nat) (p : Nat) : Prop := e 8 p ≤ 3600 ∧ (20 ≤ e 9 p ∧ e 9 p ≤ 80) ∧ (1 ≤ e 10 p ∧ e 10 p ≤ 10) ∧ e 11 p ≤ 10 ∧ ∀ i, i < e 11 p → e 12 (10 * p + i) ≤ 3600 ∧ 1 ≤ e 13 (10 * p + i) ∧ e 13 (10 * p + i) ≤ 10
def MWr (e : Nat → Nat → Nat) (k : Nat) : Prop := e 14 k < e 7 2 ∧ e 15 k ≤ 3600 ∧ e 16 k ≤ 3600 ∧ e 17 k ≤ 1 ∧ e 18 k ≤ 1
def MWs (e : Nat → Nat → Nat) (k : Nat) : Prop := e 19 k < 8 ∧ e 20 k ≤ 3600 ∧ e 21 k ≤ 3600
def MWy (e : Nat → Nat → Nat) (k : Nat) : Prop := e 22 k < 8 ∧ e 23 k ≤ 3600 ∧ e 24 k ≤ 20000
def MW (e : Nat → Nat → Nat) : Prop := (e 7 2 ≤ 8 ∧ e 7 9 ≤ 40 ∧ e 7 15 ≤ 30 ∧ e 7 19 ≤ 20 ∧ e 7 1 ≤ 3600) ∧ (∀ k, k < e 7 9 → MWr e k) ∧ (∀ k, k < e 7 15 → MWs e k) ∧ (∀ k, k < e 7 19 → MWy e k) ∧ ∀ p, p < e 7 2 → MWp e p
def hMn (e : Nat → Nat → Nat) (p dy i : Nat) : Nat × Nat := hN (fun i => e 12 (10 * p + i)) (fun i => e 13 (10 * p + i)) (e 10 p) dy i
theorem hM_1 {e : Nat → Nat → Nat} {p dy i : Nat} (h : e 12 (10 * p + i) ≤ dy) (h2 : (hMn e p dy i).1 ≤ e 12 (10 * p + i)) : hMn e p dy (i + 1) = (e 12 (10 * p + i) + 1, e 13 (10 * p + i)) := if_pos ⟨h, h2⟩
theorem hM_2 {e : Nat → Nat → Nat} {p dy i : Nat} (h : ¬ (e 12 (10 * p + i) ≤ dy ∧ (hMn e p dy i).1 ≤ e 12 (10 * p + i))) : hMn e p dy (i + 1) = hMn e p dy i := if_neg h
theorem hM_le (e : Nat → Nat → Nat) (p dy i : Nat) : (hMn e p dy i).1 ≤ dy + 1 := hN_le
theorem hrM_in {e : Nat → Nat → Nat} {p : Nat} (h : MWp e p) (dy : Nat) : 1 ≤ hrM e p dy ∧ hrM e p dy ≤ 10 := hN_in h.2.2.1 (fun i hi => (h.2.2.2.2 i hi).2)
theorem ptsM_le {e : Nat → Nat → Nat} {p : Nat} (h : MWp e p) (dy : Nat) : ptsM e p dy ≤ 1800 := by
  have h1 := hrM_in h (dy - 1)
  have h2 : e 9 p + min (2 * ((dy - e 8 p) / 360 / 3)) 10 ≤ 90 := by have := h.2.1.2; omega
  unfold ptsM
  calc 2 * (e 9 p + min (2 * ((dy - e 8 p) / 360 / 3)) 10) * hrM e p (dy - 1) ≤ (2 * 90) * 10 := Nat.mul_le_mul (Nat.mul_le_mul (Nat.le_refl 2) h2) h1.2
    _ = 1800 := by decide
theorem lvM_le (e : Nat → Nat → Nat) (p dy : Nat) : lvM e p dy ≤ 2 := by
  unfold lvM
  split
  · refine mxN_le (fun i hi => ?_)
    unfold lvfM
    split
    · split <;> decide
    · exact Nat.zero_le _
  · exact Nat.zero_le _
theorem dec_t {P : Prop} [Decidable P] (h : P) : nI 1 = nI (decide P).toNat := bt_1 (decide_eq_true h)
theorem dec_f {P : Prop} [Decidable P] (h : ¬ P) : nI 0 = nI (decide P).toNat := bt_0 (decide_eq_false h)
theorem anyS_1 {q : Nat → Bool} {b : Bool} {i : Nat} (h : b = anyN q i) (hb : b = true) : true = anyN q (i + 1) := by
  show true = (anyN q i || q i)
  rw [← h, hb]; rfl
theorem anyS_2 {q : Nat → Bool} {i : Nat} (h : q i = true) : true = anyN q (i + 1) := by
  show true = (anyN q i || q i)
  rw [h, Bool.or_true]
theorem anyS_0 {q : Nat → Bool} {b : Bool} {i : Nat} (h : b = anyN q i) (hb : b = false) (hq : q i = false) : false = anyN q (i + 1) := by
  show false = (anyN q i || q i)
  rw [← h, hb, hq]; rfl
theorem lvfM_1 {e : Nat → Nat → Nat} {p dy i : Nat} (h : e 14 i = p ∧ e 18 i = 0 ∧ e 15 i ≤ dy ∧ dy ≤ e 16 i) (hz : e 17 i = 0) : lvfM e p dy i = 2 := by
  unfold lvfM
  rw [if_pos h, if_pos hz]
theorem lvfM_2 {e : Nat → Nat → Nat} {p dy i : Nat} (h : e 14 i = p ∧ e 18 i = 0 ∧ e 15 i ≤ dy ∧ dy ≤ e 16 i) (hz : ¬ e 17 i = 0) : lvfM e p dy i = 1 := by
  unfold lvfM
  rw [if_pos h, if_neg hz]
theorem lvfM_0 {e : Nat → Nat → Nat} {p dy i : Nat} (h : ¬ (e 14 i = p ∧ e 18 i = 0 ∧ e 15 i ≤ dy ∧ dy ≤ e 16 i)) : lvfM e p dy i = 0 := if_neg h
theorem smN_0s (f : Nat → Nat) (n : Nat) : smN f 0 (n + 1) = smN f 0 n + f n := by
  show smN f 0 n + f (0 + n) = _
  rw [Nat.zero_add]
def drwMn (e : Nat → Nat → Nat) (pts t : Nat) : Nat → Nat → Nat := fun c i => if c = 25 ∧ i < t then e 25 i - (pts - smN (e 25) 0 i) else e c i
theorem drwMn_off (e : Nat → Nat → Nat) (pts t : Nat) {c : Nat} (h : c ≠ 25) (i : Nat) : drwMn e pts t c i = e c i := if_neg (fun z => h z.1)
theorem drwM_off (e : Nat → Nat → Nat) (pts : Nat) {c : Nat} (h : c ≠ 25) (i : Nat) : drwM e pts c i = e c i := if_neg (fun z => h z.1)
theorem drwMn_at (e : Nat → Nat → Nat) (pts i : Nat) : drwMn e pts i 25 i = e 25 i := if_neg (by omega)
theorem drwMn_0 (e : Nat → Nat → Nat) (pts : Nat) : drwMn e pts 0 = e := by
  funext c i
  exact if_neg (by omega)
theorem drwMn_s (e : Nat → Nat → Nat) {pts i left v : Nat} (hl : left = pts - smN (e 25) 0 i) (hv : v = e 25 i - left) : es (drwMn e pts i) 25 i v = drwMn e pts (i + 1) := by
  funext c j
  unfold es drwMn
  by_cases h1 : c = 25 ∧ j = i
  · rw [if_pos h1, if_pos (by omega), h1.2, hv, hl]
  · rw [if_neg h1]
    by_cases h2 : c = 25 ∧ j < i
    · rw [if_pos h2, if_pos (by omega)]
    · rw [if_neg h2, if_neg (by omega)]
theorem smN_le0 {f : Nat → Nat} {b : Nat} : ∀ n, (∀ y, y < n → f y ≤ b) → smN f 0 n ≤ b * n
  | 0, _ => Nat.le_refl _
  | n + 1, h => by
    rw [smN_0s, Nat.mul_succ]
    exact Nat.add_le_add (smN_le0 n (fun y hy => h y (by omega))) (h n (by omega))
/-- only the pools and what is counted are others -/
def OffM (e e' : Nat → Nat → Nat) : Prop := (∀ c, c ≠ 7 → c ≠ 25 → e' c = e c) ∧ ∀ i, i < 24 → e' 7 i = e 7 i
theorem OffM.rf (e : Nat → Nat → Nat) : OffM e e := ⟨fun _ _ _ => rfl, fun _ _ => rfl⟩
theorem OffM.tr {e e1 e2 : Nat → Nat → Nat} (h : OffM e e1) (h2 : OffM e1 e2) : OffM e e2 := ⟨fun c a b => (h2.1 c a b).trans (h.1 c a b), fun i hi => (h2.2 i hi).trans (h.2 i hi)⟩
theorem OffM.e25 {e e1 : Nat → Nat → Nat} (h : OffM e e1) (k v : Nat) : OffM e (es e1 25 k v) := ⟨fun c a b => (es_off e1 k v (by omega)).trans (h.1 c a b), fun i hi => (es_ne e1 v (by omega)).trans (h.2 i hi)⟩
theorem OffM.e7 {e e1 : Nat → Nat → Nat} (h : OffM e e1) {k v : Nat} (hk : 24 ≤ k) : OffM e (es e1 7 k v) := ⟨fun c a b => (es_off e1 k v (by omega)).trans (h.1 c a b), fun i hi => (es_ne e1 v (by omega)).trans (h.2 i hi)⟩
theorem OffM.drw {e e1 : Nat → Nat → Nat} (h : OffM e e1) (pts : Nat) : OffM e (drwM e1 pts) := ⟨fun c a b => by rw [← h.1 c a b]; funext i; exact if_neg (fun z => b z.1), fun i hi => (drwM_off e1 pts (by decide) i).trans (h.2 i hi)⟩
theorem OffM_earn (e : Nat → Nat → Nat) (p dy : Nat) : OffM e (earnM e p dy) := (((OffM.rf e).e7 (by decide)).e25 _ _).e7 (by decide)
theorem OffM_mth (e : Nat → Nat → Nat) (p dy : Nat) : OffM e (mthM e p dy) := by
  unfold mthM
  split
  · exact OffM_earn e p dy
  · exact OffM.rf e
theorem OffM_exp (e : Nat → Nat → Nat) (dy : Nat) : OffM e (expM e dy) := by
  unfold expM
  split
  · exact ((OffM.rf e).e7 (by decide)).e25 _ _
  · exact OffM.rf e
theorem OffM_leaves (e : Nat → Nat → Nat) (pts : Nat) : OffM e (leavesM e pts) := by
  unfold leavesM
  split
  · exact (OffM.rf e).e7 (by decide)
  · exact (((OffM.rf e).drw pts).e7 (by decide)).e7 (by decide)
theorem OffM_pays (e : Nat → Nat → Nat) (p dy k : Nat) : OffM e (paysM e p dy k) := by
  unfold paysM
  split
  · exact ((OffM.rf e).drw _).e7 (by decide)
  · exact OffM.rf e
theorem OffM_pay (e : Nat → Nat → Nat) (p dy : Nat) : ∀ n, OffM e (payM e p dy n)
  | 0 => OffM.rf e
  | n + 1 => (OffM_pay e p dy n).tr (OffM_pays _ p dy n)
theorem OffM_clr (e : Nat → Nat → Nat) : OffM e (clrM e) := by
  have h0 : OffM e (fun c i => if c = 25 ∧ i < 11 then 0 else e c i) := ⟨fun c a b => by funext i; exact if_neg (fun z => b z.1), fun i hi => if_neg (fun z => absurd z.1 (by decide))⟩
  exact (((((h0.e7 (by decide)).e7 (by decide)).e7 (by decide)).e7 (by decide)).e7 (by decide)).e7 (by decide)
theorem OffM_day (e : Nat → Nat → Nat) (p dy : Nat) : OffM e (dayM e p dy) := (((OffM_mth e p dy).tr (OffM_exp _ dy)).tr (OffM_leaves _ _)).tr (OffM_pay _ p dy _)
theorem OffM_go (e : Nat → Nat → Nat) (p : Nat) : ∀ n, OffM e (goM e p n)
  | 0 => OffM_clr e
  | n + 1 => (OffM_go e p n).tr (OffM_day _ p _)
theorem MW.off {e e' : Nat → Nat → Nat} (h : MW e) (ho : OffM e e') : MW e' := by
  unfold MW MWr MWs MWy MWp at *
  rw [ho.2 2 (by decide), ho.2 9 (by decide), ho.2 15 (by decide), ho.2 19 (by decide), ho.2 1 (by decide), ho.1 8 (by decide) (by decide), ho.1 9 (by decide) (by decide), ho.1 10 (by decide) (by decide), ho.1 11 (by decide) (by decide), ho.1 12 (by decide) (by decide), ho.1 13 (by decide) (by decide), ho.1 14 (by decide) (by decide), ho.1 15 (by decide) (by decide), ho.1 16 (by decide) (by decide), ho.1 17 (by decide) (by decide), ho.1 18 (by decide) (by decide), ho.1 19 (by decide) (by decide), ho.1 20 (by decide) (by decide), ho.1 21 (by decide) (by decide), ho.1 22 (by decide) (by decide), ho.1 23 (by decide) (by decide), ho.1 24 (by decide) (by decide)]
  exact h
theorem MWp.off {e e' : Nat → Nat → Nat} {p : Nat} (h : MWp e p) (ho : OffM e e') : MWp e' p := by
  unfold MWp at *
  rw [ho.1 8 (by decide) (by decide), ho.1 9 (by decide) (by decide), ho.1 10 (by decide) (by decide), ho.1 11 (by decide) (by decide), ho.1 12 (by decide) (by decide), ho.1 13 (by decide) (by decide)]
  exact h
/-- what a day of the reference asks for: B bounds each pool -/
def GM (e : Nat → Nat → Nat) (p B : Nat) : Prop := MW e ∧ MWp e p ∧ e 7 24 ≤ 2400 ∧ ∀ y, y < 11 → e 25 y ≤ B
theorem GM.le {e : Nat → Nat → Nat} {p B B' : Nat} (h : GM e p B) (hb : B ≤ B') : GM e p B' := ⟨h.1, h.2.1, h.2.2.1, fun y hy => Nat.le_trans (h.2.2.2 y hy) hb⟩
theorem GM_mth {e : Nat → Nat → Nat} {p B : Nat} (h : GM e p B) (dy : Nat) : GM (mthM e p dy) p (B + 1800) := by
  refine ⟨h.1.off (OffM_mth e p dy), h.2.1.off (OffM_mth e p dy), ?_, ?_⟩
  · unfold mthM
    split
    · unfold earnM
      rw [es_ne _ _ (by omega), es_ne _ _ (by omega), es_same]
      have := h.2.2.1
      omega
    · exact h.2.2.1
  · intro y hy
    have h1 := h.2.2.2 y hy
    have h2 := ptsM_le h.2.1 dy
    unfold mthM
    split
    · unfold earnM
      rw [es_ne _ _ (by omega), es_at]
      split
      · rename_i z
        rw [z.2] at h1
        omega
      · rw [es_ne _ _ (by omega)]; omega
    · omega
theorem GM_exp {e : Nat → Nat → Nat} {p B : Nat} (h : GM e p B) (dy : Nat) : GM (expM e dy) p B := by
  refine ⟨h.1.off (OffM_exp e dy), h.2.1.off (OffM_exp e dy), ?_, ?_⟩
  · unfold expM
    split
    · rw [es_ne _ _ (by omega), es_ne _ _ (by omega)]; exact h.2.2.1
    · exact h.2.2.1
  · intro y hy
    have h1 := h.2.2.2 y hy
    unfold expM
    split
    · rw [es_at]
      split
      · omega
      · rw [es_ne _ _ (by omega)]; exact h1
    · exact h1
theorem drwM_le (e : Nat → Nat → Nat) (pts y : Nat) : drwM e pts 25 y ≤ e 25 y := by
  unfold drwM
  split <;> omega
theorem GM_leaves {e : Nat → Nat → Nat} {p B : Nat} (h : GM e p B) (pts : Nat) : GM (leavesM e pts) p B := by
  refine ⟨h.1.off (OffM_leaves e pts), h.2.1.off (OffM_leaves e pts), ?_, ?_⟩
  · have := h.2.2.1
    unfold leavesM
    split
    · rw [es_ne _ _ (by omega)]; exact h.2.2.1
    · rw [es_ne _ _ (by omega), es_same]; omega
  · intro y hy
    have h1 := h.2.2.2 y hy
    unfold leavesM
    split
    · rw [es_ne _ _ (by omega)]; exact h1
    · rw [es_ne _ _ (by omega), es_ne _ _ (by omega)]
      exact Nat.le_trans (drwM_le e pts y) h1
theorem GM_pays {e : Nat → Nat → Nat} {p B : Nat} (h : GM e p B) (dy k : Nat) : GM (paysM e p dy k) p B := by
  refine ⟨h.1.off (OffM_pays e p dy k), h.2.1.off (OffM_pays e p dy k), ?_, ?_⟩
  · unfold paysM
    split
    · rw [es_ne _ _ (by omega), drwM_off _ _ (by decide)]; exact h.2.2.1
    · exact h.2.2.1
  · intro y hy
    have h1 := h.2.2.2 y hy
    unfold paysM
    split
    · rw [es_ne _ _ (by omega)]
      exact Nat.le_trans (drwM_le e _ y) h1
    · exact h1
theorem GM_pay {e : Nat → Nat → Nat} {p B : Nat} (h : GM e p B) (dy : Nat) : ∀ n, GM (payM e p dy n) p B
  | 0 => h
  | n + 1 => GM_pays (GM_pay h dy n) dy n
theorem GM_day {e : Nat → Nat → Nat} {p B : Nat} (h : GM e p B) (dy : Nat) : GM (dayM e p dy) p (B + 1800) := GM_pay (GM_leaves (GM_exp (GM_mth h dy) dy) _) dy _
theorem GM_clr {e : Nat → Nat → Nat} {p : Nat} (h : MW e) (hp : MWp e p) : GM (clrM e) p 0 := by
  refine ⟨h.off (OffM_clr e), hp.off (OffM_clr e), ?_, ?_⟩
  · unfold clrM
    rw [es_ne _ _ (by omega), es_ne _ _ (by omega), es_ne _ _ (by omega), es_ne _ _ (by omega), es_ne _ _ (by omega), es_same]
    omega
  · intro y hy
    unfold clrM
    rw [es_ne _ _ (by omega), es_ne _ _ (by omega), es_ne _ _ (by omega), es_ne _ _ (by omega), es_ne _ _ (by omega), es_ne _ _ (by omega), if_pos ⟨rfl, hy⟩]
    omega
theorem GM_go {e : Nat → Nat → Nat} {p : Nat} (h : MW e) (hp : MWp e p) : ∀ n, GM (goM e p n) p (1800 * n)
  | 0 => GM_clr h hp
  | n + 1 => GM_day (GM_go h hp n) _
theorem totM_le {e : Nat → Nat → Nat} {p B : Nat} (h : GM e p B) : totM e ≤ B * 11 := smN_le0 11 h.2.2.2
