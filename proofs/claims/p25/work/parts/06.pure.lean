/-! ===== what the methods do, in numbers: the class's (.. C) and the reference's (.. M) ===== -/
def anyN (q : Nat → Bool) : Nat → Bool
  | 0 => false
  | n + 1 => anyN q n || q n
def mxN (f : Nat → Nat) : Nat → Nat
  | 0 => 0
  | n + 1 => max (mxN f n) (f n)
def smN (f : Nat → Nat) (a : Nat) : Nat → Nat
  | 0 => 0
  | n + 1 => smN f a n + f (a + n)
/-- the latest change up to a day, its day + 1 (0: none), and the hours then -/
def hN (cd ch : Nat → Nat) (h0 day : Nat) : Nat → Nat × Nat
  | 0 => (0, h0)
  | n + 1 => if cd n ≤ day ∧ (hN cd ch h0 day n).1 ≤ cd n then (cd n + 1, ch n) else hN cd ch h0 day n
/-- the first place of a day, or n -/
def fiN (cd : Nat → Nat) (day : Nat) : Nat → Nat
  | 0 => 0
  | n + 1 => if fiN cd day n < n then fiN cd day n else if cd n = day then n else n + 1
-- the class
def hldC (e : Nat → Nat → Nat) (r day : Nat) : Bool := decide (e (RB r) 4 = 0 ∧ e (RB r) 2 ≤ day ∧ day ≤ e (RB r) 3)
def sckC (e : Nat → Nat → Nat) (p day : Nat) : Bool := anyN (fun i => decide (e (PB p + 4) i ≤ day ∧ day ≤ e (PB p + 5) i)) (e (PB p) 10)
def lvfC (e : Nat → Nat → Nat) (p day : Nat) : Nat → Nat := fun i => if hldC e (e (PB p + 3) i - 1) day = true then e (RB (e (PB p + 3) i - 1)) 1 else 0
def lvC (e : Nat → Nat → Nat) (p day : Nat) : Nat := if 5 ≤ day % 7 ∨ sckC e p day = true then 0 else mxN (lvfC e p day) (e (PB p) 7)
def mkC (e : Nat → Nat → Nat) (p f t : Nat) : Nat → Nat → Nat := fun c i => if c = PB p + 8 ∧ f ≤ i ∧ i < t then lvC e p i else e c i
def hrC (e : Nat → Nat → Nat) (p day : Nat) : Nat := (hN (e (PB p + 1)) (e (PB p + 2)) (e (PB p) 2) day (e (PB p) 5)).2
def clrC (e : Nat → Nat → Nat) : Nat → Nat → Nat := es (es (es (es (es (es (es (es (es e 3 2 0) 3 3 0) 3 4 0) 3 5 0) 3 6 0) 3 7 0) 3 8 0) 3 9 0) 3 10 0
def earnsAt (fd day : Nat) : Bool := decide (day % 30 = 0 ∧ fd + 30 ≤ day)
def ptsC (e : Nat → Nat → Nat) (p day : Nat) : Nat := 2 * (e (PB p) 1 + min ((day - e (PB p) 0) / 360 / 3 * 2) 10) * hrC e p (day - 1)
def expC (day : Nat) : Nat := ((day - 1) / 360 + 1) * 360 + 90
def earnC (e : Nat → Nat → Nat) (pts ex : Nat) : Nat → Nat → Nat :=
  if e 3 2 < 120 then es (es (es (es (es e 3 5 (e 3 5 - min pts (e 3 5))) 3 6 (e 3 6 + pts)) 4 (e 3 2) (pts - min pts (e 3 5))) 5 (e 3 2) ex) 3 2 (e 3 2 + 1)
  else es (es e 3 5 (e 3 5 - min pts (e 3 5))) 3 6 (e 3 6 + pts)
def exsC (e : Nat → Nat → Nat) : Nat → Nat → Nat := es (es e 3 8 (e 3 8 + e 4 (e 3 3))) 3 3 (e 3 3 + 1)
def expnC (day : Nat) : Nat → (Nat → Nat → Nat) → Nat → Nat → Nat
  | 0, e => e
  | n + 1, e => if e 5 (e 3 3) ≤ day then expnC day n (exsC e) else e
def expireC (e : Nat → Nat → Nat) (day : Nat) : Nat → Nat → Nat := expnC day (e 3 2 - e 3 3) e
def totC (e : Nat → Nat → Nat) : Nat := smN (e 4) (e 3 3) (e 3 2 - e 3 3)
def drwC (e : Nat → Nat → Nat) (pts : Nat) : Nat → Nat → Nat := fun c i => if c = 4 ∧ e 3 3 ≤ i ∧ i < e 3 2 then e 4 i - (pts - smN (e 4) (e 3 3) (i - e 3 3)) else e c i
def takC (e : Nat → Nat → Nat) (pts : Nat) : Nat → Nat → Nat :=
  if 2400 < e 3 5 + (pts - totC e) then es e 3 10 (e 3 10 + 1) else es (es (drwC e pts) 3 5 (e 3 5 + (pts - totC e))) 3 7 (e 3 7 + pts)
def takeC (e : Nat → Nat → Nat) (kind : Nat) : Nat → Nat → Nat := if kind = 0 then e else takC e (if kind = 2 then 480 else 240)
def paysC (e : Nat → Nat → Nat) (p : Nat) : Nat → Nat → Nat := es (es (drwC e (e (PB p + 7) (e 3 4))) 3 9 (e 3 9 + min (e (PB p + 7) (e 3 4)) (totC e))) 3 4 (e 3 4 + 1)
def paynC (p day : Nat) : Nat → (Nat → Nat → Nat) → Nat → Nat → Nat
  | 0, e => e
  | n + 1, e => if e (PB p + 6) (e 3 4) ≤ day then paynC p day n (paysC e p) else e
def payC (e : Nat → Nat → Nat) (p day : Nat) : Nat → Nat → Nat := paynC p day (e (PB p) 13 - e 3 4) e
def mthC (e : Nat → Nat → Nat) (p day : Nat) : Nat → Nat → Nat := if earnsAt (e (PB p) 0) day = true then earnC e (ptsC e p day) (expC day) else e
def dayC (e : Nat → Nat → Nat) (p day : Nat) : Nat → Nat → Nat := payC (takeC (expireC (mthC e p day) day) (expireC (mthC e p day) day (PB p + 8) day)) p day
def goC (e : Nat → Nat → Nat) (p : Nat) : Nat → Nat → Nat → Nat
  | 0 => clrC e
  | n + 1 => dayC (goC e p n) p (e (PB p) 0 + n)
-- the reference
def hrM (e : Nat → Nat → Nat) (p day : Nat) : Nat := (hN (fun i => e 12 (10 * p + i)) (fun i => e 13 (10 * p + i)) (e 10 p) day (e 11 p)).2
def illM (e : Nat → Nat → Nat) (p day : Nat) : Bool := anyN (fun k => decide (e 19 k = p ∧ e 20 k ≤ day ∧ day ≤ e 21 k)) (e 7 15)
def lvfM (e : Nat → Nat → Nat) (p day : Nat) : Nat → Nat := fun k => if e 14 k = p ∧ e 18 k = 0 ∧ e 15 k ≤ day ∧ day ≤ e 16 k then (if e 17 k = 0 then 2 else 1) else 0
def lvM (e : Nat → Nat → Nat) (p day : Nat) : Nat := if day % 7 < 5 ∧ illM e p day = false then mxN (lvfM e p day) (e 7 9) else 0
def totM (e : Nat → Nat → Nat) : Nat := smN (e 25) 0 11
def drwM (e : Nat → Nat → Nat) (pts : Nat) : Nat → Nat → Nat := fun c i => if c = 25 ∧ i < 11 then e 25 i - (pts - smN (e 25) 0 i) else e c i
def ptsM (e : Nat → Nat → Nat) (p day : Nat) : Nat := 2 * (e 9 p + min (2 * ((day - e 8 p) / 360 / 3)) 10) * hrM e p (day - 1)
def earnM (e : Nat → Nat → Nat) (p day : Nat) : Nat → Nat → Nat := es (es (es e 7 24 (e 7 24 - min (e 7 24) (ptsM e p day))) 25 ((day - 1) / 360) (e 25 ((day - 1) / 360) + (ptsM e p day - min (e 7 24) (ptsM e p day)))) 7 25 (e 7 25 + ptsM e p day)
def leavesM (e : Nat → Nat → Nat) (pts : Nat) : Nat → Nat → Nat :=
  if totM e < pts ∧ 2400 < e 7 24 + pts - totM e then es e 7 29 (e 7 29 + 1) else es (es (drwM e pts) 7 24 (e 7 24 + (pts - min pts (totM e)))) 7 26 (e 7 26 + pts)
def mthM (e : Nat → Nat → Nat) (p day : Nat) : Nat → Nat → Nat := if day % 30 = 0 ∧ e 8 p + 30 ≤ day then earnM e p day else e
def expM (e : Nat → Nat → Nat) (day : Nat) : Nat → Nat → Nat := if day % 360 = 90 ∧ 360 < day then es (es e 7 27 (e 7 27 + e 25 (day / 360 - 1))) 25 (day / 360 - 1) 0 else e
def paysM (e : Nat → Nat → Nat) (p day k : Nat) : Nat → Nat → Nat := if e 22 k = p ∧ e 23 k = day then es (drwM e (e 24 k)) 7 28 (e 7 28 + min (e 24 k) (totM e)) else e
def payM (e : Nat → Nat → Nat) (p day : Nat) : Nat → Nat → Nat → Nat
  | 0 => e
  | n + 1 => paysM (payM e p day n) p day n
def dayM (e : Nat → Nat → Nat) (p day : Nat) : Nat → Nat → Nat := payM (leavesM (expM (mthM e p day) day) (240 * lvM (expM (mthM e p day) day) p day)) p day (e 7 19)
def clrM (e : Nat → Nat → Nat) : Nat → Nat → Nat := es (es (es (es (es (es (fun c i => if c = 25 ∧ i < 11 then 0 else e c i) 7 24 0) 7 25 0) 7 26 0) 7 27 0) 7 28 0) 7 29 0
def goM (e : Nat → Nat → Nat) (p : Nat) : Nat → Nat → Nat → Nat
  | 0 => clrM e
  | n + 1 => dayM (goM e p n) p (e 8 p + n)
-- bounds of the class's numbers
def P0 (e : Nat → Nat → Nat) (p : Nat) : Prop := e (PB p) 0 ≤ 3600 ∧ (20 ≤ e (PB p) 1 ∧ e (PB p) 1 ≤ 80) ∧ 1 ≤ e (PB p) 2 ∧ e (PB p) 2 ≤ 10
def PCh (e : Nat → Nat → Nat) (p : Nat) : Prop := e (PB p) 5 ≤ 10 ∧ ∀ i, i < e (PB p) 5 → e (PB p + 1) i ≤ 3600 ∧ 1 ≤ e (PB p + 2) i ∧ e (PB p + 2) i ≤ 10
def PSp (e : Nat → Nat → Nat) (p : Nat) : Prop := e (PB p) 10 ≤ 30 ∧ ∀ i, i < e (PB p) 10 → e (PB p + 4) i ≤ 3600 ∧ e (PB p + 5) i ≤ 3600
def PPy (e : Nat → Nat → Nat) (p : Nat) : Prop := e (PB p) 13 ≤ 20 ∧ ∀ i, i < e (PB p) 13 → e (PB p + 6) i ≤ 3600 ∧ e (PB p + 7) i ≤ 20000
def PLv (e : Nat → Nat → Nat) (p : Nat) : Prop := ∀ i, i ≤ 3600 → e (PB p + 8) i ≤ 2
def PRq (e : Nat → Nat → Nat) (p nr : Nat) : Prop := e (PB p) 7 ≤ 40 ∧ ∀ i, i < e (PB p) 7 → 1 ≤ e (PB p + 3) i ∧ e (PB p + 3) i ≤ nr
def RW (e : Nat → Nat → Nat) (nr : Nat) : Prop := ∀ q, q < nr → e (RB q) 1 ≤ 2 ∧ e (RB q) 2 ≤ 3600 ∧ e (RB q) 3 ≤ 3600 ∧ e (RB q) 4 ≤ 1
theorem anyN_hit {q : Nat → Bool} {i : Nat} : ∀ {n : Nat}, i < n → q i = true → anyN q n = true
  | 0, h, _ => absurd h (Nat.not_lt_zero i)
  | n + 1, h, hq => by
    unfold anyN
    rcases Nat.lt_or_ge i n with z | z
    · rw [anyN_hit z hq]; rfl
    · rw [show i = n by omega] at hq
      rw [hq]; exact Bool.or_true _
theorem anyN_no {q : Nat → Bool} {i : Nat} (h : anyN q i = false) (hq : q i = false) : anyN q (i + 1) = false := by
  unfold anyN
  rw [h, hq]; rfl
theorem bt_1 {b : Bool} (h : b = true) : nI 1 = nI b.toNat := by rw [h]; rfl
theorem bt_0 {b : Bool} (h : b = false) : nI 0 = nI b.toNat := by rw [h]; rfl
theorem bt_z (b : Bool) : nI b.toNat = 0 ∨ nI b.toNat = 1 := by cases b; exact Or.inl rfl; exact Or.inr rfl
theorem bt_lt (b : Bool) : b.toNat < 2147483648 := by cases b <;> decide
theorem bt_t {b : Bool} (h : ¬ b.toNat = 0) : b = true := by cases b; exact absurd rfl h; rfl
theorem bt_f {b : Bool} (h : b.toNat = 0) : b = false := by cases b; rfl; cases h
theorem hN_1 (cd ch : Nat → Nat) (h0 day n : Nat) (h : cd n ≤ day) (h2 : (hN cd ch h0 day n).1 ≤ cd n) : hN cd ch h0 day (n + 1) = (cd n + 1, ch n) := if_pos ⟨h, h2⟩
theorem hN_2 (cd ch : Nat → Nat) (h0 day n : Nat) (h : ¬ (cd n ≤ day ∧ (hN cd ch h0 day n).1 ≤ cd n)) : hN cd ch h0 day (n + 1) = hN cd ch h0 day n := if_neg h
theorem hN_le {cd ch : Nat → Nat} {h0 day : Nat} : ∀ {n : Nat}, (hN cd ch h0 day n).1 ≤ day + 1
  | 0 => Nat.zero_le _
  | n + 1 => by
    by_cases h : cd n ≤ day ∧ (hN cd ch h0 day n).1 ≤ cd n
    · rw [hN_1 _ _ _ _ _ h.1 h.2]; show cd n + 1 ≤ day + 1; omega
    · rw [hN_2 _ _ _ _ _ h]; exact hN_le
theorem hN_in {cd ch : Nat → Nat} {h0 day : Nat} (hh : 1 ≤ h0 ∧ h0 ≤ 10) : ∀ {n : Nat}, (∀ i, i < n → 1 ≤ ch i ∧ ch i ≤ 10) → 1 ≤ (hN cd ch h0 day n).2 ∧ (hN cd ch h0 day n).2 ≤ 10
  | 0, _ => hh
  | n + 1, hc => by
    by_cases h : cd n ≤ day ∧ (hN cd ch h0 day n).1 ≤ cd n
    · rw [hN_1 _ _ _ _ _ h.1 h.2]; exact hc n (Nat.lt_succ_self n)
    · rw [hN_2 _ _ _ _ _ h]; exact hN_in hh (fun i hi => hc i (Nat.lt_succ_of_lt hi))
/-- the day before the latest change's: an int that may be -1 -/
theorem nx_m1 (L : Nat) : nI (L + 1) - 1 = nI L := nI_pred L
theorem fiN_le (cd : Nat → Nat) (day : Nat) : ∀ n, fiN cd day n ≤ n
  | 0 => Nat.le_refl 0
  | n + 1 => by
    unfold fiN
    have := fiN_le cd day n
    split
    · omega
    · split <;> omega
theorem fiN_no (cd : Nat → Nat) (day : Nat) : ∀ n k, k < fiN cd day n → cd k ≠ day
  | 0, k, h => absurd h (Nat.not_lt_zero k)
  | n + 1, k, h => by
    unfold fiN at h
    have h1 := fiN_le cd day n
    split at h
    · exact fiN_no cd day n k h
    · split at h
      · exact fiN_no cd day n k (by omega)
      · rename_i h2 h3
        rcases Nat.lt_or_ge k n with z | z
        · exact fiN_no cd day n k (by omega)
        · rw [show k = n by omega]; exact h3
theorem fiN_yes (cd : Nat → Nat) (day : Nat) : ∀ n, fiN cd day n < n → cd (fiN cd day n) = day
  | 0, h => absurd h (Nat.not_lt_zero _)
  | n + 1, h => by
    unfold fiN at h ⊢
    have h1 := fiN_le cd day n
    by_cases h2 : fiN cd day n < n
    · rw [if_pos h2]; exact fiN_yes cd day n h2
    · rw [if_neg h2] at h ⊢
      by_cases h3 : cd n = day
      · rw [if_pos h3]; exact h3
      · rw [if_neg h3] at h; omega
/-- found by looking from the first on -/
theorem fiN_at {cd : Nat → Nat} {day i : Nat} : ∀ {n : Nat}, i < n → (∀ k, k < i → cd k ≠ day) → cd i = day → fiN cd day n = i
  | n, hi, hno, hy => by
    rcases Nat.lt_or_ge (fiN cd day n) i with z | z
    · exact absurd (fiN_yes cd day n (by omega)) (hno _ z)
    · rcases Nat.lt_or_ge i (fiN cd day n) with z2 | z2
      · exact absurd hy (fiN_no cd day n i z2)
      · omega
theorem fiN_none {cd : Nat → Nat} {day n : Nat} (hno : ∀ k, k < n → cd k ≠ day) : fiN cd day n = n := by
  have h := fiN_le cd day n
  rcases Nat.lt_or_ge (fiN cd day n) n with z | z
  · exact absurd (fiN_yes cd day n z) (hno _ z)
  · omega
theorem mxN_le {f : Nat → Nat} {b : Nat} : ∀ {n : Nat}, (∀ i, i < n → f i ≤ b) → mxN f n ≤ b
  | 0, _ => Nat.zero_le _
  | n + 1, h => by
    unfold mxN
    have h1 := mxN_le (f := f) (b := b) (n := n) (fun i hi => h i (Nat.lt_succ_of_lt hi))
    have h2 := h n (Nat.lt_succ_self n)
    omega
