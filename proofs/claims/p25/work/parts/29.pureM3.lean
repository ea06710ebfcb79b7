theorem gn_1 {e : Nat → Nat → Nat} {k d : Nat} (h : k < e 7 2 ∧ d ≤ 3600) : gnM e k d = goM (es e 7 0 0) k (d + 1 - e 8 k) := if_pos h
theorem gn_0 {e : Nat → Nat → Nat} {k d : Nat} (h : ¬ (k < e 7 2 ∧ d ≤ 3600)) : gnM e k d = es e 7 0 (if k < e 7 2 then 2 else 1) := if_neg h
theorem th_0 {e : Nat → Nat → Nat} {k d : Nat} (h : ¬ (k < e 7 2 ∧ d ≤ 3600)) : (if k < e 7 2 then (if d ≤ 3600 then 0 else 2) else 1) = (if k < e 7 2 then 2 else 1) := by
  by_cases z : k < e 7 2
  · rw [if_pos z, if_pos z, if_neg (fun y => h ⟨z, y⟩)]
  · rw [if_neg z, if_neg z]
theorem fxR_1 {e : Nat → Nat → Nat} {n j : Nat} (hj : j + n = 11) (h : 0 < e 25 (j - 1)) : nI (360 * (j - 1) + 450) = fxR e (n + 1) := by
  rw [show j - 1 = 10 - n by omega] at h ⊢
  exact (if_pos h).symm
theorem fxR_0 {e : Nat → Nat → Nat} {n j : Nat} (hj : j + n = 11) (h : e 25 (j - 1) = 0) : fxR e n = fxR e (n + 1) := by
  rw [show j - 1 = 10 - n by omega] at h
  exact (if_neg (by omega)).symm
