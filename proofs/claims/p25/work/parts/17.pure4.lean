/-! ===== what the entries do, in numbers ===== -/
theorem mkC_lo (e : Nat → Nat → Nat) (p f t : Nat) {c : Nat} (h : c < 32) : mkC e p f t c = e c := by
  funext i
  unfold mkC
  rw [if_neg (by unfold PB; omega)]
theorem mkC_Q (e : Nat → Nat → Nat) (p f t : Nat) {q k : Nat} (hk : k < 16) (h : q ≠ p) : mkC e p f t (PB q + k) = e (PB q + k) := by
  funext i
  unfold mkC
  rw [if_neg (by unfold PB; omega)]
theorem esC_lo (e : Nat → Nat → Nat) (p f t : Nat) {c : Nat} (h : c < 32) : esC e p f t c = e c := by
  unfold esC esC0
  rw [mkC_lo _ _ _ _ h, es_off _ _ _ (by unfold PB; omega), es_off _ _ _ (by unfold PB; omega), es_off _ _ _ (by unfold PB; omega)]
theorem erC_lo (e : Nat → Nat → Nat) (p q : Nat) {c : Nat} (h : c < 32) : erC e p q c = e c := by
  unfold erC erC0
  rw [mkC_lo _ _ _ _ h, es_off _ _ _ (by unfold PB; omega), es_off _ _ _ (by unfold PB; omega)]
theorem epC_lo (e : Nat → Nat → Nat) (p d pts : Nat) {c : Nat} (h : c < 32) : epC e p d pts c = e c := by
  unfold epC
  rw [es_off _ _ _ (by unfold PB; omega), es_off _ _ _ (by unfold PB; omega), es_off _ _ _ (by unfold PB; omega)]
theorem ehC_lo (e : Nat → Nat → Nat) (p d hh : Nat) {c : Nat} (h : c < 32) : ehC e p d hh c = e c := by
  unfold ehC
  rw [es_off _ _ _ (by unfold PB; omega), es_off _ _ _ (by unfold PB; omega), es_off _ _ _ (by unfold PB; omega)]
theorem esR_P {e : Nat → Nat → Nat} {p : Nat} (hp : p < 8) (k i v : Nat) : EqP e (es e (RB k) i v) p := fun j hj => es_off e i v (by unfold RB PB; omega)
theorem EqP.tr {e e1 e2 : Nat → Nat → Nat} {p : Nat} (h : EqP e e1 p) (h2 : EqP e1 e2 p) : EqP e e2 p := fun k hk => (h2 k hk).trans (h k hk)
theorem RB_inj {a b : Nat} : RB a = RB b ↔ a = b := by unfold RB; omega
theorem RW_ft {e : Nat → Nat → Nat} {nr k f t : Nat} (h : RW e nr) (hf : f ≤ 3600) (ht : t ≤ 3600) : RW (es (es e (RB k) 2 f) (RB k) 3 t) nr := fun q hq => by
  have h1 := h q hq
  rw [es_ne _ _ (by omega), es_ne _ _ (by omega)]
  refine ⟨h1.1, ?_, ?_, ?_⟩
  · rw [es_ne _ _ (by omega), es_at]
    split <;> omega
  · rw [es_at, es_ne _ _ (by omega)]
    split <;> omega
  · rw [es_ne _ _ (by omega), es_ne _ _ (by omega)]
    exact h1.2.2.2
theorem RW_cn {e : Nat → Nat → Nat} {nr k : Nat} (h : RW e nr) : RW (es e (RB k) 4 1) nr := fun q hq => by
  have h1 := h q hq
  rw [es_ne _ _ (by omega), es_ne _ _ (by omega), es_ne _ _ (by omega), es_at]
  refine ⟨h1.1, h1.2.1, h1.2.2.1, ?_⟩
  split <;> omega
