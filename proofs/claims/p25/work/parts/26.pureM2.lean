/-! ===== what the reference's calls do, in numbers ===== -/
theorem nI_mod (a : Nat) : nI (a % 4294967296) = nI a := by
  apply Int32.toBitVec_inj.mp
  apply BitVec.eq_of_toNat_eq
  unfold nI
  simp only [Int32.toBitVec_ofNat', BitVec.toNat_ofNat]
  omega
theorem nI_dec (a : Nat) : nI a + Int32.ofInt (-1) = nI ((a + 4294967295) % 4294967296) := by
  rw [nI_mod, ← nI_add]
  rfl
theorem es_id (e : Nat → Nat → Nat) (c k : Nat) : es e c k (e c k + 0) = e := by
  funext c' k'
  unfold es
  split
  · rename_i h
    rw [h.1, h.2, Nat.add_zero]
  · rfl
theorem pays_1 {E e : Nat → Nat → Nat} {p dy i : Nat} (hO : OffM e E) (h : e 22 i = p) (h2 : e 23 i = dy) : paysM E p dy i = es (drwM E (e 24 i)) 7 28 (E 7 28 + min (e 24 i) (totM E)) := by
  unfold paysM
  rw [hO.1 22 (by decide) (by decide), hO.1 23 (by decide) (by decide), hO.1 24 (by decide) (by decide), if_pos ⟨h, h2⟩]
theorem pays_0 {E e : Nat → Nat → Nat} {p dy i : Nat} (hO : OffM e E) (h : ¬ (e 22 i = p ∧ e 23 i = dy)) : paysM E p dy i = E := by
  unfold paysM
  rw [hO.1 22 (by decide) (by decide), hO.1 23 (by decide) (by decide), if_neg h]
def clrMn (e : Nat → Nat → Nat) (t : Nat) : Nat → Nat → Nat := fun c i => if c = 25 ∧ i < t then 0 else e c i
theorem clrMn_0 (e : Nat → Nat → Nat) : clrMn e 0 = e := by
  funext c i
  exact if_neg (by omega)
theorem clrMn_s (e : Nat → Nat → Nat) (i : Nat) : es (clrMn e i) 25 i 0 = clrMn e (i + 1) := by
  funext c j
  unfold es clrMn
  by_cases h1 : c = 25 ∧ j = i
  · rw [if_pos h1, if_pos (by omega)]
  · rw [if_neg h1]
    by_cases h2 : c = 25 ∧ j < i
    · rw [if_pos h2, if_pos (by omega)]
    · rw [if_neg h2, if_neg (by omega)]
theorem clrMn_off (e : Nat → Nat → Nat) (t : Nat) {c : Nat} (h : c ≠ 25) (i : Nat) : clrMn e t c i = e c i := if_neg (fun z => h z.1)
theorem clrMn_end (e : Nat → Nat → Nat) : es (es (es (es (es (es (clrMn e 11) 7 24 0) 7 25 0) 7 26 0) 7 27 0) 7 28 0) 7 29 0 = clrM e := rfl
/-- the same but for what the last call threw -/
theorem MW.thr {e : Nat → Nat → Nat} (h : MW e) (v : Nat) : MW (es e 7 0 v) := by
  have h7 : ∀ i, i ≠ 0 → es e 7 0 v 7 i = e 7 i := fun i hi => es_ne e v (by omega)
  have hc : ∀ c, c ≠ 7 → es e 7 0 v c = e c := fun c hc => es_off e 0 v hc
  unfold MW MWr MWs MWy MWp at *
  rw [h7 2 (by decide), h7 9 (by decide), h7 15 (by decide), h7 19 (by decide), h7 1 (by decide), hc 8 (by decide), hc 9 (by decide), hc 10 (by decide), hc 11 (by decide), hc 12 (by decide), hc 13 (by decide), hc 14 (by decide), hc 15 (by decide), hc 16 (by decide), hc 17 (by decide), hc 18 (by decide), hc 19 (by decide), hc 20 (by decide), hc 21 (by decide), hc 22 (by decide), hc 23 (by decide), hc 24 (by decide)]
  exact h
/-- the last place of a day, or what there was -/
def laN (cd : Nat → Nat) (d z : Nat) : Nat → Nat
  | 0 => z
  | n + 1 => if cd n = d then n else laN cd d z n
def laM (e : Nat → Nat → Nat) (k d : Nat) : Nat → Nat := laN (fun i => e 12 (10 * k + i)) d (e 11 k)
theorem laM_1 {e : Nat → Nat → Nat} {k d i : Nat} (h : e 12 (10 * k + i) = d) : laM e k d (i + 1) = i := if_pos h
theorem laM_0 {e : Nat → Nat → Nat} {k d i : Nat} (h : ¬ e 12 (10 * k + i) = d) : laM e k d (i + 1) = laM e k d i := if_neg h
theorem laN_le (cd : Nat → Nat) (d z : Nat) : ∀ n, n ≤ z → laN cd d z n ≤ z
  | 0, _ => Nat.le_refl _
  | n + 1, h => by
    unfold laN
    split
    · omega
    · exact laN_le cd d z n (by omega)
theorem laM_le (e : Nat → Nat → Nat) (k d : Nat) : ∀ n, n ≤ e 11 k → laM e k d n ≤ e 11 k := laN_le _ d _
def addM (e : Nat → Nat → Nat) (k h : Nat) : Nat → Nat → Nat := es (es (es (es e 8 (e 7 2) (e 7 1)) 9 (e 7 2) k) 10 (e 7 2) h) 7 2 (e 7 2 + 1)
def shM (e : Nat → Nat → Nat) (k d h : Nat) : Nat → Nat → Nat := es (es (es e 11 k (e 11 k + (if laM e k d (e 11 k) = e 11 k then 1 else 0))) 12 (10 * k + laM e k d (e 11 k)) d) 13 (10 * k + laM e k d (e 11 k)) h
def rqM (e : Nat → Nat → Nat) (k f t h : Nat) : Nat → Nat → Nat := es (es (es (es (es (es e 14 (e 7 9) k) 15 (e 7 9) f) 16 (e 7 9) t) 17 (e 7 9) h) 18 (e 7 9) 0) 7 9 (e 7 9 + 1)
def chM (e : Nat → Nat → Nat) (k f t : Nat) : Nat → Nat → Nat := es (es e 15 k f) 16 k t
def skM (e : Nat → Nat → Nat) (k f t : Nat) : Nat → Nat → Nat := es (es (es (es e 19 (e 7 15) k) 20 (e 7 15) f) 21 (e 7 15) t) 7 15 (e 7 15 + 1)
def pyM (e : Nat → Nat → Nat) (k h : Nat) : Nat → Nat → Nat := es (es (es (es e 22 (e 7 19) k) 23 (e 7 19) (e 7 1)) 24 (e 7 19) h) 7 19 (e 7 19 + 1)
def gnM (e : Nat → Nat → Nat) (k d : Nat) : Nat → Nat → Nat := if k < e 7 2 ∧ d ≤ 3600 then goM (es e 7 0 0) k (d + 1 - e 8 k) else es e 7 0 (if k < e 7 2 then 2 else 1)
def wkN (f : Nat) : Nat → Nat
  | 0 => 0
  | n + 1 => wkN f n + (if (f + n) % 7 < 5 then 1 else 0)
/-- the first pool with points, from the last one on -/
def fxR (e : Nat → Nat → Nat) : Nat → Int32
  | 0 => -1
  | n + 1 => if 0 < e 25 (10 - n) then nI (360 * (10 - n) + 450) else fxR e n
