/-! ===== the whole of both sides: x holds the class's numbers, y the reference's ===== -/
def RO (x y : Nat → Nat → Nat) (p : Nat) : Prop := (∀ i, i < x (PB p) 7 → 1 ≤ x (PB p + 3) i ∧ x (PB p + 3) i ≤ y 7 9 ∧ y 14 (x (PB p + 3) i - 1) = p) ∧ ∀ q, q < y 7 9 → y 14 q = p → ∃ i, i < x (PB p) 7 ∧ x (PB p + 3) i = q + 1
def RSp (x y : Nat → Nat → Nat) (p : Nat) : Prop := (∀ i, i < x (PB p) 10 → ∃ k, k < y 7 15 ∧ y 19 k = p ∧ x (PB p + 4) i = y 20 k ∧ x (PB p + 5) i = y 21 k) ∧ ∀ k, k < y 7 15 → y 19 k = p → ∃ i, i < x (PB p) 10 ∧ x (PB p + 4) i = y 20 k ∧ x (PB p + 5) i = y 21 k
def RD (y : Nat → Nat → Nat) (p : Nat) : Prop := ∀ i j, i < y 11 p → j < y 11 p → y 12 (10 * p + i) = y 12 (10 * p + j) → i = j
def PR (x y : Nat → Nat → Nat) (p : Nat) : Prop := RP x y p ∧ RV x y p ∧ RY x y p ∧ RO x y p ∧ RSp x y p ∧ RD y p
def QR (x y : Nat → Nat → Nat) (q : Nat) : Prop := x (RB q) 0 = y 14 q ∧ x (RB q) 1 = (if y 17 q = 0 then 2 else 1) ∧ x (RB q) 2 = y 15 q ∧ x (RB q) 3 = y 16 q ∧ x (RB q) 4 = y 18 q ∧ y 15 q ≤ y 16 q
def NR (x y : Nat → Nat → Nat) : Prop := x 0 1 = y 7 2 ∧ x 0 3 = y 7 9 ∧ x 0 4 = y 7 15 ∧ x 0 5 = y 7 19 ∧ x 0 6 = y 7 1
def REL (x y : Nat → Nat → Nat) : Prop := NR x y ∧ (∀ p, p < y 7 2 → PR x y p ∧ y 8 p ≤ y 7 1) ∧ (∀ p, y 7 2 ≤ p → p < 8 → y 11 p = 0) ∧ (∀ q, q < y 7 9 → QR x y q ∧ y 14 q < y 7 2) ∧ (∀ k, k < y 7 19 → y 22 k < y 7 2 ∧ y 23 k ≤ y 7 1) ∧ ∀ k, k < y 7 15 → y 19 k < y 7 2
-- frames
def XF (x x' : Nat → Nat → Nat) : Prop := ∀ c, c < 3 ∨ 32 ≤ c → x' c = x c
def YF (y y' : Nat → Nat → Nat) : Prop := (∀ c, 8 ≤ c → c < 25 → y' c = y c) ∧ y' 7 2 = y 7 2 ∧ y' 7 9 = y 7 9 ∧ y' 7 15 = y 7 15 ∧ y' 7 19 = y 7 19
theorem XF.rf (x : Nat → Nat → Nat) : XF x x := fun _ _ => rfl
theorem YF.rf (y : Nat → Nat → Nat) : YF y y := ⟨fun _ _ _ => rfl, rfl, rfl, rfl, rfl⟩
theorem XF.tr {x x1 x2 : Nat → Nat → Nat} (h : XF x x1) (h2 : XF x1 x2) : XF x x2 := fun c hc => (h2 c hc).trans (h c hc)
theorem YF.tr {y y1 y2 : Nat → Nat → Nat} (h : YF y y1) (h2 : YF y1 y2) : YF y y2 := ⟨fun c a b => (h2.1 c a b).trans (h.1 c a b), h2.2.1.trans h.2.1, h2.2.2.1.trans h.2.2.1, h2.2.2.2.1.trans h.2.2.2.1, h2.2.2.2.2.trans h.2.2.2.2⟩
theorem YF_offM {y y' : Nat → Nat → Nat} (h : OffM y y') : YF y y' := ⟨fun c a b => h.1 c (by omega) (by omega), h.2 2 (by decide), h.2 9 (by decide), h.2 15 (by decide), h.2 19 (by decide)⟩
theorem XF_offM {y y' : Nat → Nat → Nat} (h : OffM y y') : XF y y' := fun c hc => h.1 c (by omega) (by omega)
theorem XF_off {x x' : Nat → Nat → Nat} (h : Off x x') : XF x x' := fun c hc => h c (by omega) (by omega) (by omega)
/-- the reference's codes are the same -/
theorem YF_all {y y' : Nat → Nat → Nat} (h : ∀ c, 7 ≤ c → c < 26 → y' c = y c) : YF y y' := ⟨fun c a b => h c (by omega) (by omega), by rw [h 7 (by decide) (by decide)], by rw [h 7 (by decide) (by decide)], by rw [h 7 (by decide) (by decide)], by rw [h 7 (by decide) (by decide)]⟩
theorem YF_thr (y : Nat → Nat → Nat) (v : Nat) : YF y (es y 7 0 v) := ⟨fun c a b => es_off y 0 v (by omega), es_ne y v (by omega), es_ne y v (by omega), es_ne y v (by omega), es_ne y v (by omega)⟩
theorem XF_thr (y : Nat → Nat → Nat) (v : Nat) : XF y (es y 7 0 v) := fun c hc => es_off y 0 v (by omega)
theorem XF.P {x x' : Nat → Nat → Nat} (h : XF x x') (p k : Nat) : x' (PB p + k) = x (PB p + k) := h _ (Or.inr (by unfold PB; omega))
theorem XF.P0 {x x' : Nat → Nat → Nat} (h : XF x x') (p : Nat) : x' (PB p) = x (PB p) := h.P p 0
theorem XF.R {x x' : Nat → Nat → Nat} (h : XF x x') (q : Nat) : x' (RB q) = x (RB q) := h _ (Or.inr (by unfold RB; omega))
theorem lvM_fr {y y' : Nat → Nat → Nat} (h : YF y y') (p d : Nat) : lvM y' p d = lvM y p d := by
  have e1 : illM y' p d = illM y p d := by
    unfold illM
    rw [h.1 19 (by decide) (by decide), h.1 20 (by decide) (by decide), h.1 21 (by decide) (by decide), h.2.2.2.1]
  have e2 : lvfM y' p d = lvfM y p d := by
    funext i
    unfold lvfM
    rw [h.1 14 (by decide) (by decide), h.1 15 (by decide) (by decide), h.1 16 (by decide) (by decide), h.1 17 (by decide) (by decide), h.1 18 (by decide) (by decide)]
  unfold lvM
  rw [e1, e2, h.2.2.1]
theorem PR.fr {x y x' y' : Nat → Nat → Nat} {p : Nat} (h : PR x y p) (hx : ∀ k, k < 9 → x' (PB p + k) = x (PB p + k)) (hy : YF y y') : PR x' y' p := by
  have e0 : x' (PB p) = x (PB p) := hx 0 (by decide)
  have e1 := pcN_off (hy.1 22 (by decide) (by decide)) p
  obtain ⟨h1, h2, h3, h4, h5, h6⟩ := h
  refine ⟨?_, fun d hd => ?_, ?_, ?_, ?_, ?_⟩
  · unfold RP at *
    rw [e0, hx 1 (by decide), hx 2 (by decide), hy.1 8 (by decide) (by decide), hy.1 9 (by decide) (by decide), hy.1 10 (by decide) (by decide), hy.1 11 (by decide) (by decide), hy.1 12 (by decide) (by decide), hy.1 13 (by decide) (by decide)]
    exact h1
  · rw [hx 8 (by decide), lvM_fr hy]
    exact h2 d hd
  · unfold RY at *
    rw [e0, hx 6 (by decide), hx 7 (by decide), hy.2.2.2.2, hy.1 8 (by decide) (by decide), hy.1 22 (by decide) (by decide), hy.1 23 (by decide) (by decide), hy.1 24 (by decide) (by decide), e1]
    refine ⟨h3.1, fun k a b => ?_, h3.2.2⟩
    rw [e1]
    exact h3.2.1 k a b
  · unfold RO at *
    rw [e0, hx 3 (by decide), hy.2.2.1, hy.1 14 (by decide) (by decide)]
    exact h4
  · unfold RSp at *
    rw [e0, hx 4 (by decide), hx 5 (by decide), hy.2.2.2.1, hy.1 19 (by decide) (by decide), hy.1 20 (by decide) (by decide), hy.1 21 (by decide) (by decide)]
    exact h5
  · unfold RD at *
    rw [hy.1 11 (by decide) (by decide), hy.1 12 (by decide) (by decide)]
    exact h6
theorem QR.fr {x y x' y' : Nat → Nat → Nat} {q : Nat} (h : QR x y q) (hx : x' (RB q) = x (RB q)) (hy : YF y y') : QR x' y' q := by
  unfold QR at *
  rw [hx, hy.1 14 (by decide) (by decide), hy.1 15 (by decide) (by decide), hy.1 16 (by decide) (by decide), hy.1 17 (by decide) (by decide), hy.1 18 (by decide) (by decide)]
  exact h
theorem REL.fr {x y x' y' : Nat → Nat → Nat} (h : REL x y) (hx : XF x x') (hy : YF y y') (h1 : y' 7 1 = y 7 1) : REL x' y' := by
  obtain ⟨r1, r2, r3, r4, r5, r6⟩ := h
  unfold REL
  rw [hy.2.1, hy.2.2.1, hy.2.2.2.1, hy.2.2.2.2, h1, hy.1 8 (by decide) (by decide), hy.1 11 (by decide) (by decide), hy.1 14 (by decide) (by decide), hy.1 19 (by decide) (by decide), hy.1 22 (by decide) (by decide), hy.1 23 (by decide) (by decide)]
  refine ⟨?_, fun p hp => ⟨(r2 p hp).1.fr (fun k _ => hx.P p k) hy, (r2 p hp).2⟩, r3, fun q hq => ⟨(r4 q hq).1.fr (hx.R q) hy, (r4 q hq).2⟩, r5, r6⟩
  unfold NR at *
  rw [hx 0 (by decide), hy.2.1, hy.2.2.1, hy.2.2.2.1, hy.2.2.2.2, h1]
  exact r1
theorem CWp.fr {x x' : Nat → Nat → Nat} {p : Nat} (h : CWp x p) (hx : ∀ k, k < 9 → x' (PB p + k) = x (PB p + k)) (h3 : x 0 3 ≤ x' 0 3) (h4 : x 0 4 ≤ x' 0 4) (h5 : x 0 5 ≤ x' 0 5) : CWp x' p := by
  have e0 : x' (PB p) = x (PB p) := hx 0 (by decide)
  obtain ⟨a1, a2, a3, a4, a5, a6, a7, a8, a9⟩ := h
  unfold CWp P0 PCh PSp PPy PLv PRq at *
  rw [e0, hx 1 (by decide), hx 2 (by decide), hx 3 (by decide), hx 4 (by decide), hx 5 (by decide), hx 6 (by decide), hx 7 (by decide), hx 8 (by decide)]
  exact ⟨a1, a2, a3, a4, a5, ⟨a6.1, fun i hi => ⟨(a6.2 i hi).1, Nat.le_trans (a6.2 i hi).2 h3⟩⟩, by omega, by omega, by omega⟩
theorem CW.fr {x x' : Nat → Nat → Nat} (h : CW x) (hx : XF x x') : CW x' := by
  obtain ⟨a1, a2, a3, a4, a5, a6, a7, a8, a9, a10⟩ := h
  unfold CW
  rw [hx 0 (by decide), hx 1 (by decide), hx 2 (by decide)]
  refine ⟨a1, a2, a3, a4, a5, a6, a7, a8.eq (fun q => hx.R q), fun q hq => ?_, fun p hp => ⟨?_, ?_⟩⟩
  · rw [hx.R, hx.P0]
    exact a9 q hq
  · exact (a10 p hp).1.fr (fun k _ => hx.P p k) (by rw [hx 0 (by decide)]; exact Nat.le_refl _) (by rw [hx 0 (by decide)]; exact Nat.le_refl _) (by rw [hx 0 (by decide)]; exact Nat.le_refl _)
  · rw [hx.P]
    exact (a10 p hp).2
theorem MW.fr {y y' : Nat → Nat → Nat} (h : MW y) (hy : YF y y') (h1 : y' 7 1 = y 7 1) : MW y' := by
  unfold MW MWr MWs MWy MWp at *
  rw [hy.2.1, hy.2.2.1, hy.2.2.2.1, hy.2.2.2.2, h1, hy.1 8 (by decide) (by decide), hy.1 9 (by decide) (by decide), hy.1 10 (by decide) (by decide), hy.1 11 (by decide) (by decide), hy.1 12 (by decide) (by decide), hy.1 13 (by decide) (by decide), hy.1 14 (by decide) (by decide), hy.1 15 (by decide) (by decide), hy.1 16 (by decide) (by decide), hy.1 17 (by decide) (by decide), hy.1 18 (by decide) (by decide), hy.1 19 (by decide) (by decide), hy.1 20 (by decide) (by decide), hy.1 21 (by decide) (by decide), hy.1 22 (by decide) (by decide), hy.1 23 (by decide) (by decide), hy.1 24 (by decide) (by decide)]
  exact h
/-- what holds between calls -/
def INV (e : Nat → Nat → Nat) : Prop := CW e ∧ MW e ∧ REL e e
theorem INV.fr {e e' : Nat → Nat → Nat} (h : INV e) (hx : XF e e') (hy : YF e e') (h1 : e' 7 1 = e 7 1) : INV e' := ⟨h.1.fr hx, h.2.1.fr hy h1, h.2.2.fr hx hy h1⟩
/-- a call of each side: the class's goes first -/
theorem INV.of {e e1 e2 : Nat → Nat → Nat} (hc : CW e1) (hm : MW e2) (hr : REL e1 e2) (hx : XF e1 e2) : INV e2 := ⟨hc.fr hx, hm, hr.fr hx (YF.rf e2) rfl⟩
-- leave on a day, from the requests and spells
theorem mxN_ge {f : Nat → Nat} {i : Nat} : ∀ {n : Nat}, i < n → f i ≤ mxN f n
  | 0, h => absurd h (Nat.not_lt_zero i)
  | n + 1, h => by
    show f i ≤ max (mxN f n) (f n)
    by_cases z : i = n
    · subst z; omega
    · have := mxN_ge (f := f) (i := i) (n := n) (by omega)
      omega
theorem anyN_ex {q : Nat → Bool} : ∀ {n : Nat}, anyN q n = true → ∃ i, i < n ∧ q i = true
  | 0, h => by cases h
  | n + 1, h => by
    have h2 : (anyN q n || q n) = true := h
    rcases Bool.or_eq_true_iff.mp h2 with z | z
    · obtain ⟨i, a, b⟩ := anyN_ex z
      exact ⟨i, by omega, b⟩
    · exact ⟨n, by omega, z⟩
theorem sck_eq {x y : Nat → Nat → Nat} {p : Nat} (h : RSp x y p) (d : Nat) : sckC x p d = illM y p d := by
  rw [Bool.eq_iff_iff]
  constructor
  · intro z
    obtain ⟨i, a, b⟩ := anyN_ex z
    obtain ⟨k, k1, k2, k3, k4⟩ := h.1 i a
    have b2 := of_decide_eq_true b
    exact anyN_hit k1 (decide_eq_true ⟨k2, by omega, by omega⟩)
  · intro z
    obtain ⟨k, a, b⟩ := anyN_ex z
    have b2 := of_decide_eq_true b
    obtain ⟨i, i1, i2, i3⟩ := h.2 k a b2.1
    exact anyN_hit i1 (decide_eq_true ⟨by omega, by omega⟩)
theorem lv_eq {x y : Nat → Nat → Nat} {p : Nat} (ho : RO x y p) (hs : RSp x y p) (hq : ∀ q, q < y 7 9 → QR x y q) (d : Nat) : lvC x p d = lvM y p d := by
  have hf : ∀ q, q < y 7 9 → y 14 q = p → (if hldC x q d = true then x (RB q) 1 else 0) = lvfM y p d q := fun q a b => by
    obtain ⟨q1, q2, q3, q4, q5, q6⟩ := hq q a
    unfold lvfM hldC
    rw [q2, q3, q4, q5]
    by_cases z : y 18 q = 0 ∧ y 15 q ≤ d ∧ d ≤ y 16 q
    · rw [if_pos (decide_eq_true z), if_pos (show y 14 q = p ∧ y 18 q = 0 ∧ y 15 q ≤ d ∧ d ≤ y 16 q from ⟨b, z⟩)]
    · rw [if_neg (by rw [decide_eq_false z]; exact Bool.false_ne_true), if_neg (fun w => z w.2)]
  have hm : mxN (lvfC x p d) (x (PB p) 7) = mxN (lvfM y p d) (y 7 9) := by
    refine Nat.le_antisymm (mxN_le (fun i hi => ?_)) (mxN_le (fun q hqn => ?_))
    · obtain ⟨a, b, c⟩ := ho.1 i hi
      have e9 := hf (x (PB p + 3) i - 1) (by omega) c
      show (if hldC x (x (PB p + 3) i - 1) d = true then x (RB (x (PB p + 3) i - 1)) 1 else 0) ≤ _
      rw [e9]
      exact mxN_ge (by omega)
    · by_cases z : y 14 q = p
      · obtain ⟨i, a, b⟩ := ho.2 q hqn z
        have e9 := hf q hqn z
        have e8 : lvfC x p d i = (if hldC x q d = true then x (RB q) 1 else 0) := by
          unfold lvfC
          rw [b, Nat.add_sub_cancel]
        rw [← e9, ← e8]
        exact mxN_ge a
      · have e9 : lvfM y p d q = 0 := if_neg (fun w => z w.1)
        rw [e9]
        exact Nat.zero_le _
  unfold lvC lvM
  rw [hm, sck_eq hs d]
  by_cases z : d % 7 < 5 ∧ illM y p d = false
  · rw [if_pos z, if_neg (fun w => w.elim (fun a => by omega) (fun a => by rw [z.2] at a; cases a))]
  · rw [if_neg z, if_pos]
    by_cases a : 5 ≤ d % 7
    · exact Or.inl a
    · refine Or.inr ?_
      cases hb : illM y p d
      · exact absurd ⟨by omega, hb⟩ z
      · rfl
