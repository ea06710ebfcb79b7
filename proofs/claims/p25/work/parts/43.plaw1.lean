/-! ===== what the law's own methods do, in numbers ===== -/
def exM (m : Nat) : Nat := (30 * m - 1) / 360 * 360 + 450
def totL (x : Nat → Nat → Nat) : Nat := smN (x 11) 0 64
def drwL (x : Nat → Nat → Nat) (pts : Nat) : Nat → Nat → Nat := fun c i => if c = 11 ∧ i < 64 then x 11 i - (pts - smN (x 11) 0 i) else x c i
def drwLn (x : Nat → Nat → Nat) (pts t : Nat) : Nat → Nat → Nat := fun c i => if c = 11 ∧ i < t then x 11 i - (pts - smN (x 11) 0 i) else x c i
theorem drwLn_off (x : Nat → Nat → Nat) (pts t : Nat) {c : Nat} (h : c ≠ 11) (i : Nat) : drwLn x pts t c i = x c i := if_neg (fun z => h z.1)
theorem drwL_off (x : Nat → Nat → Nat) (pts : Nat) {c : Nat} (h : c ≠ 11) (i : Nat) : drwL x pts c i = x c i := if_neg (fun z => h z.1)
theorem drwLn_at (x : Nat → Nat → Nat) (pts i : Nat) : drwLn x pts i 11 i = x 11 i := if_neg (by omega)
theorem drwLn_0 (x : Nat → Nat → Nat) (pts : Nat) : drwLn x pts 0 = x := by
  funext c i
  exact if_neg (by omega)
theorem drwLn_s (x : Nat → Nat → Nat) {pts i left v : Nat} (hl : left = pts - smN (x 11) 0 i) (hv : v = x 11 i - left) : es (drwLn x pts i) 11 i v = drwLn x pts (i + 1) := by
  funext c j
  unfold es drwLn
  by_cases h1 : c = 11 ∧ j = i
  · rw [if_pos h1, if_pos (by omega), h1.2, hv, hl]
  · rw [if_neg h1]
    by_cases h2 : c = 11 ∧ j < i
    · rw [if_pos h2, if_pos (by omega)]
    · rw [if_neg h2, if_neg (by omega)]
theorem drwLn_x (x : Nat → Nat → Nat) {pts i : Nat} (h : pts ≤ smN (x 11) 0 i) (hi : i ≤ 64) : drwLn x pts i = drwL x pts := by
  funext c j
  unfold drwLn drwL
  by_cases h1 : c = 11 ∧ j < i
  · rw [if_pos h1, if_pos (by omega)]
  · rw [if_neg h1]
    by_cases h2 : c = 11 ∧ j < 64
    · have h3 := smN_mono (x 11) 0 (n := i) (m := j) (by omega)
      rw [if_pos h2, show pts - smN (x 11) 0 j = 0 by omega, h2.1]; rfl
    · rw [if_neg h2]
theorem drwL_fin (x : Nat → Nat → Nat) {pts i left : Nat} (hl : left = pts - smN (x 11) 0 i) (hi : i ≤ 64) (h : i = 64 ∨ left = 0) : drwLn x pts i = drwL x pts ∧ pts - left = min pts (totL x) := by
  have h3 := smN_mono (x 11) 0 (n := i) (m := 64) hi
  unfold totL
  rcases h with h | h
  · subst h
    exact ⟨rfl, by omega⟩
  · exact ⟨drwLn_x x (by omega) hi, by omega⟩
theorem OffL.drw {e e1 : Nat → Nat → Nat} (h : OffL e e1) (pts : Nat) : OffL e (drwL e1 pts) := fun c a b => by
  rw [← h c a b]
  funext i
  exact if_neg (fun z => a z.1)
theorem nI_dec1 {m : Nat} (h : 1 ≤ m) : nI m + Int32.ofInt (-1) = nI (m - 1) := by
  rw [nI_dec, show m + 4294967295 = (m - 1) + 4294967296 by omega, Nat.add_mod_right, nI_mod]
theorem low_and (v : Int32) : ∃ k, k < 2147483648 ∧ v &&& (2147483647 : Int32) = nI k := by
  obtain ⟨a, _, rfl⟩ := nI_all v
  refine ⟨a &&& 2147483647, Nat.lt_of_le_of_lt Nat.and_le_right (by decide), ?_⟩
  apply Int32.toBitVec_inj.mp
  rw [Int32.toBitVec_and]
  show BitVec.ofNat 32 a &&& BitVec.ofNat 32 2147483647 = BitVec.ofNat 32 (a &&& 2147483647)
  exact (BitVec.ofNat_and ..).symm
-- hours
def hQ (cd ch : Nat → Nat) (h0 day : Nat) : Nat → Nat × Nat
  | 0 => (0, h0)
  | n + 1 => if cd n ≤ day ∧ (hQ cd ch h0 day n).1 ≤ cd n + 1 then (cd n + 1, ch n) else hQ cd ch h0 day n
theorem hQ_1 {cd ch : Nat → Nat} {h0 day n : Nat} (h : cd n ≤ day) (h2 : (hQ cd ch h0 day n).1 ≤ cd n + 1) : hQ cd ch h0 day (n + 1) = (cd n + 1, ch n) := if_pos ⟨h, h2⟩
theorem hQ_2 {cd ch : Nat → Nat} {h0 day n : Nat} (h : ¬ (cd n ≤ day ∧ (hQ cd ch h0 day n).1 ≤ cd n + 1)) : hQ cd ch h0 day (n + 1) = hQ cd ch h0 day n := if_neg h
theorem hQ_le {cd ch : Nat → Nat} {h0 day : Nat} : ∀ {n : Nat}, (hQ cd ch h0 day n).1 ≤ day + 1
  | 0 => Nat.zero_le _
  | n + 1 => by
    by_cases h : cd n ≤ day ∧ (hQ cd ch h0 day n).1 ≤ cd n + 1
    · rw [hQ_1 h.1 h.2]; show cd n + 1 ≤ day + 1; omega
    · rw [hQ_2 h]; exact hQ_le
theorem hN_from {cd ch : Nat → Nat} {h0 day : Nat} : ∀ {n : Nat}, (hN cd ch h0 day n).1 = 0 ∨ ∃ i, i < n ∧ (hN cd ch h0 day n).1 = cd i + 1
  | 0 => Or.inl rfl
  | n + 1 => by
    by_cases h : cd n ≤ day ∧ (hN cd ch h0 day n).1 ≤ cd n
    · rw [hN_1 _ _ _ _ _ h.1 h.2]; exact Or.inr ⟨n, Nat.lt_succ_self n, rfl⟩
    · rw [hN_2 _ _ _ _ _ h]
      rcases hN_from (cd := cd) (ch := ch) (h0 := h0) (day := day) (n := n) with z | ⟨i, a, b⟩
      · exact Or.inl z
      · exact Or.inr ⟨i, by omega, b⟩
theorem hQ_eq {cd ch : Nat → Nat} {h0 day : Nat} : ∀ n, (∀ i j, i < n → j < n → cd i = cd j → i = j) → hQ cd ch h0 day n = hN cd ch h0 day n
  | 0, _ => rfl
  | n + 1, hd => by
    have h1 := hQ_eq (ch := ch) (h0 := h0) (day := day) n (fun i j a b => hd i j (by omega) (by omega))
    unfold hQ hN
    rw [h1]
    have h2 : (hN cd ch h0 day n).1 ≠ cd n + 1 := fun z => by
      rcases hN_from (cd := cd) (ch := ch) (h0 := h0) (day := day) (n := n) with q | ⟨i, a, b⟩
      · omega
      · have := hd i n (by omega) (by omega) (by omega)
        omega
    by_cases h : cd n ≤ day ∧ (hN cd ch h0 day n).1 ≤ cd n
    · rw [if_pos h, if_pos ⟨h.1, by omega⟩]
    · rw [if_neg h, if_neg (fun z => h ⟨z.1, by omega⟩)]
theorem lt_m1 {d L : Nat} (hd : d < 1073741824) (hL : L < 1073741824) : nI d < nI L - 1 ↔ d + 1 < L := by
  rw [Int32.lt_iff_toInt_lt, show (1 : Int32) = nI 1 from rfl, pk_sub_toInt hL (by decide), nI_toInt (by omega)]
  omega
/-- the law's search of the hours is the reference's, where no two changes are of one day -/
theorem hrL_eq {y : Nat → Nat → Nat} {p : Nat} (h : RD y p) (d : Nat) : (hQ (fun i => y 12 (10 * p + i)) (fun i => y 13 (10 * p + i)) (y 10 p) d (y 11 p)).2 = hrM y p d := by
  unfold hrM
  rw [hQ_eq (y 11 p) (fun i j a b => h i j a b)]
-- a person's leave
theorem anyN_s (q : Nat → Bool) (n : Nat) : anyN q (n + 1) = (anyN q n || q n) := rfl
theorem mx_2 {y : Nat → Nat → Nat} {p d : Nat} : ∀ n, mxN (lvfM y p d) n = (if anyN (fun k => decide ((y 14 k = p ∧ y 18 k = 0 ∧ y 15 k ≤ d ∧ d ≤ y 16 k) ∧ y 17 k = 0)) n = true then 2 else if anyN (fun k => decide ((y 14 k = p ∧ y 18 k = 0 ∧ y 15 k ≤ d ∧ d ≤ y 16 k) ∧ ¬ y 17 k = 0)) n = true then 1 else 0)
  | 0 => rfl
  | n + 1 => by
    rw [mxN_s, mx_2 n, anyN_s, anyN_s]
    by_cases h : y 14 n = p ∧ y 18 n = 0 ∧ y 15 n ≤ d ∧ d ≤ y 16 n
    · by_cases z : y 17 n = 0
      · rw [lvfM_1 h z]
        generalize anyN (fun k => decide ((y 14 k = p ∧ y 18 k = 0 ∧ y 15 k ≤ d ∧ d ≤ y 16 k) ∧ y 17 k = 0)) n = A
        generalize anyN (fun k => decide ((y 14 k = p ∧ y 18 k = 0 ∧ y 15 k ≤ d ∧ d ≤ y 16 k) ∧ ¬ y 17 k = 0)) n = B
        cases A <;> cases B <;> simp [h, z]
      · rw [lvfM_2 h z]
        generalize anyN (fun k => decide ((y 14 k = p ∧ y 18 k = 0 ∧ y 15 k ≤ d ∧ d ≤ y 16 k) ∧ y 17 k = 0)) n = A
        generalize anyN (fun k => decide ((y 14 k = p ∧ y 18 k = 0 ∧ y 15 k ≤ d ∧ d ≤ y 16 k) ∧ ¬ y 17 k = 0)) n = B
        cases A <;> cases B <;> simp [h, z]
    · rw [lvfM_0 h]
      generalize anyN (fun k => decide ((y 14 k = p ∧ y 18 k = 0 ∧ y 15 k ≤ d ∧ d ≤ y 16 k) ∧ y 17 k = 0)) n = A
      generalize anyN (fun k => decide ((y 14 k = p ∧ y 18 k = 0 ∧ y 15 k ≤ d ∧ d ≤ y 16 k) ∧ ¬ y 17 k = 0)) n = B
      cases A <;> cases B <;> simp [h]
