/-! ===== marking leave anew ===== -/
def RVS (x y : Nat → Nat → Nat) (p : Nat) (S : Nat → Prop) : Prop := ∀ d, d ≤ 3600 → ¬ S d → x (PB p + 8) d = lvM y p d
/-- both sides together, but for the leave of one person on some days -/
def RELS (x y : Nat → Nat → Nat) (k : Nat) (S : Nat → Prop) : Prop := NR x y ∧ (∀ p, p < y 7 2 → (RP x y p ∧ (p ≠ k → RV x y p) ∧ (p = k → RVS x y p S) ∧ RY x y p ∧ RO x y p ∧ RSp x y p ∧ RD y p) ∧ y 8 p ≤ y 7 1) ∧ (∀ p, y 7 2 ≤ p → p < 8 → y 11 p = 0) ∧ (∀ q, q < y 7 9 → QR x y q ∧ y 14 q < y 7 2) ∧ (∀ k, k < y 7 19 → y 22 k < y 7 2 ∧ y 23 k ≤ y 7 1) ∧ ∀ k, k < y 7 15 → y 19 k < y 7 2
theorem RELS.done {x y : Nat → Nat → Nat} {k : Nat} {S : Nat → Prop} (h : RELS x y k S) (hS : ∀ d, d ≤ 3600 → ¬ S d) : REL x y := by
  obtain ⟨r1, r2, r3, r4, r5, r6⟩ := h
  refine ⟨r1, fun p hp => ⟨?_, (r2 p hp).2⟩, r3, r4, r5, r6⟩
  obtain ⟨⟨a1, a2, a3, a4, a5, a6, a7⟩, a8⟩ := r2 p hp
  refine ⟨a1, ?_, a4, a5, a6, a7⟩
  by_cases z : p = k
  · exact fun d hd => a3 z d hd (hS d hd)
  · exact a2 z
theorem mark {x y : Nat → Nat → Nat} {k f t' : Nat} {S : Nat → Prop} (hc : CW x) (h : RELS x y k S) (hk : k < y 7 2) : CW (mkC x k f t') ∧ RELS (mkC x k f t') y k (fun d => S d ∧ ¬ (f ≤ d ∧ d < t')) := by
  obtain ⟨r1, r2, r3, r4, r5, r6⟩ := h
  have hk1 : k < x 0 1 := by have := r1.1; omega
  have hk8 : k < 8 := by have := hc.np; omega
  have e0 : mkC x k f t' 0 = x 0 := mkC_lo x k f t' (by decide)
  have eP : ∀ p j, j < 9 → (p ≠ k ∨ j ≠ 8) → mkC x k f t' (PB p + j) = x (PB p + j) := fun p j hj a => by
    funext i
    unfold mkC
    rw [if_neg (by unfold PB; omega)]
  have eP0 : ∀ p, mkC x k f t' (PB p) = x (PB p) := fun p => eP p 0 (by decide) (by omega)
  have eR : ∀ q, mkC x k f t' (RB q) = x (RB q) := mkC_R x hk8 f t'
  have e8 : ∀ d, mkC x k f t' (PB k + 8) d = if f ≤ d ∧ d < t' then lvC x k d else x (PB k + 8) d := fun d => by
    unfold mkC
    by_cases z : f ≤ d ∧ d < t'
    · rw [if_pos ⟨rfl, z⟩, if_pos z]
    · rw [if_neg (fun w => z w.2), if_neg z]
  refine ⟨?_, ?_, fun p hp => ⟨?_, (r2 p hp).2⟩, r3, fun q hq => ⟨?_, (r4 q hq).2⟩, r5, r6⟩
  · have hp := hc.p hk1
    refine hc.fr1 (p := k) e0 (mkC_lo x k f t' (by decide)) (mkC_lo x k f t' (by decide)) eR (fun p' j hj _ hn => eP p' j hj (Or.inl hn)) (by rw [eP0]) ?_ (fun i => by rw [eP k 3 (by decide) (by omega)]; exact hc.own hk1 i)
    obtain ⟨b1, b2, b3, b4, b5, b6, b7, b8, b9⟩ := id hp
    unfold CWp P0 PCh PSp PPy PLv PRq at *
    rw [eP0, e0, eP k 1 (by decide) (by omega), eP k 2 (by decide) (by omega), eP k 3 (by decide) (by omega), eP k 4 (by decide) (by omega), eP k 5 (by decide) (by omega), eP k 6 (by decide) (by omega), eP k 7 (by decide) (by omega)]
    refine ⟨b1, b2, b3, b4, fun i hi => ?_, b6, b7, b8, b9⟩
    rw [e8]
    split
    · exact lvC_le (nr := x 0 3) b6 hc.rw'
    · exact b5 i hi
  · unfold NR at *
    rw [e0]
    exact r1
  · obtain ⟨a1, a2, a3, a4, a5, a6, a7⟩ := (r2 p hp).1
    have q0 : ∀ i, mkC x k f t' (PB p) i = x (PB p) i := fun i => by rw [eP0]
    refine ⟨?_, fun z => ?_, fun z => ?_, ?_, ?_, ?_, a7⟩
    · unfold RP at *
      rw [eP0, eP p 1 (by decide) (by omega), eP p 2 (by decide) (by omega)]
      exact a1
    · exact (a2 z).pc (eP p 8 (by decide) (Or.inl z)) (fun _ => rfl)
    · subst z
      intro d hd hS
      rw [e8]
      by_cases w : f ≤ d ∧ d < t'
      · rw [if_pos w]
        exact lv_eq a5 a6 (fun q hq => (r4 q hq).1) d
      · rw [if_neg w]
        exact a3 rfl d hd (fun s => hS ⟨s, w⟩)
    · exact a4.pc (q0 13) (eP p 6 (by decide) (by omega)) (eP p 7 (by decide) (by omega)) rfl rfl rfl rfl rfl
    · exact a5.pc (q0 7) (eP p 3 (by decide) (by omega)) rfl rfl
    · exact a6.pc (q0 10) (eP p 4 (by decide) (by omega)) (eP p 5 (by decide) (by omega)) rfl rfl rfl rfl
  · exact (r4 q hq).1.fr (eR q) (YF.rf y)
-- cancel
theorem sim_cancel {x y : Nat → Nat → Nat} {k : Nat} (hc : CW x) (hm : MW y) (hr : REL x y) (hk : k < y 7 9) : CW (mkC (es x (RB k) 4 1) (x (RB k) 0) (x (RB k) 2) (x (RB k) 3 + 1)) ∧ MW (es y 18 k 1) ∧ REL (mkC (es x (RB k) 4 1) (x (RB k) 0) (x (RB k) 2) (x (RB k) 3 + 1)) (es y 18 k 1) := by
  obtain ⟨r1, r2, r3, r4, r5, r6⟩ := hr
  obtain ⟨⟨k1, k2, k3, k4, k5, k6⟩, k7⟩ := r4 k hk
  have yc : ∀ c, c ≠ 18 → es y 18 k 1 c = y c := fun c h => es_off y k 1 h
  have y18 : ∀ q, q ≠ k → es y 18 k 1 18 q = y 18 q := fun q h => es_ne y 1 (by omega)
  have xc : ∀ c, c < 200 → es x (RB k) 4 1 c = x c := fun c h => es_off x 4 1 (by unfold RB; omega)
  have xP : ∀ p j, p < 8 → j < 9 → es x (RB k) 4 1 (PB p + j) = x (PB p + j) := fun p j a b => xc _ (by unfold PB; omega)
  have xR : ∀ q, q ≠ k → es x (RB k) 4 1 (RB q) = x (RB q) := fun q h => es_off x 4 1 (by unfold RB; omega)
  have hc1 : CW (es x (RB k) 4 1) := by
    obtain ⟨a1, a2, a3, a4, a5, a6, a7, a8, a9, a10⟩ := hc
    unfold CW
    rw [xc 0 (by decide), xc 1 (by decide), xc 2 (by decide)]
    refine ⟨a1, a2, a3, a4, a5, a6, a7, RW_cn a8, fun q hq => ?_, fun p hp => ⟨?_, ?_⟩⟩
    · have h9 := a9 q hq
      rw [es_ne x 1 (c' := RB q) (k' := 0) (by omega), es_ne x 1 (c' := RB q) (k' := 2) (by omega), es_ne x 1 (c' := RB q) (k' := 3) (by omega), show es x (RB k) 4 1 (PB (x (RB q) 0)) = x (PB (x (RB q) 0)) from xP _ 0 (by omega) (by decide)]
      exact h9
    · exact (a10 p hp).1.fr (fun j hj => xP p j (by omega) hj) (by rw [xc 0 (by decide)]; exact Nat.le_refl _) (by rw [xc 0 (by decide)]; exact Nat.le_refl _) (by rw [xc 0 (by decide)]; exact Nat.le_refl _)
    · rw [xP p 3 (by omega) (by decide)]
      exact (a10 p hp).2
  have hm1 : MW (es y 18 k 1) := by
    obtain ⟨m0, mr, ms, my, mp⟩ := hm
    unfold MW MWr MWs MWy MWp at *
    rw [yc 7 (by decide), yc 8 (by decide), yc 9 (by decide), yc 10 (by decide), yc 11 (by decide), yc 12 (by decide), yc 13 (by decide), yc 14 (by decide), yc 15 (by decide), yc 16 (by decide), yc 17 (by decide), yc 19 (by decide), yc 20 (by decide), yc 21 (by decide), yc 22 (by decide), yc 23 (by decide), yc 24 (by decide)]
    refine ⟨m0, fun q hq => ?_, ms, my, mp⟩
    obtain ⟨b1, b2, b3, b4, b5⟩ := mr q hq
    refine ⟨b1, b2, b3, b4, ?_⟩
    rw [es_at]
    split <;> omega
  have hn8 := hm.1.1
  have hR : RELS (es x (RB k) 4 1) (es y 18 k 1) (y 14 k) (fun d => y 15 k ≤ d ∧ d < y 16 k + 1) := by
    have lvn : ∀ p d, (p ≠ y 14 k ∨ ¬ (y 15 k ≤ d ∧ d < y 16 k + 1)) → lvM (es y 18 k 1) p d = lvM y p d := fun p d a => by
      have e2 : lvfM (es y 18 k 1) p d = lvfM y p d := by
        funext i
        unfold lvfM
        rw [yc 14 (by decide), yc 15 (by decide), yc 16 (by decide), yc 17 (by decide)]
        by_cases z : i = k
        · subst z
          rw [if_neg (fun w => by omega), if_neg (fun w => by omega)]
        · rw [y18 i z]
      unfold lvM illM
      rw [e2, yc 7 (by decide), yc 19 (by decide), yc 20 (by decide), yc 21 (by decide)]
    unfold RELS
    rw [yc 7 (by decide), yc 8 (by decide), yc 11 (by decide), yc 14 (by decide), yc 19 (by decide), yc 22 (by decide), yc 23 (by decide)]
    refine ⟨?_, fun p hp => ⟨?_, (r2 p hp).2⟩, r3, fun q hq => ⟨?_, (r4 q hq).2⟩, r5, r6⟩
    · unfold NR at *
      rw [xc 0 (by decide), yc 7 (by decide)]
      exact r1
    · obtain ⟨a1, a2, a4, a5, a6, a7⟩ := (r2 p hp).1
      have hp8 : p < 8 := by omega
      have q0 : ∀ i, es x (RB k) 4 1 (PB p) i = x (PB p) i := fun i => congrFun (xP p 0 hp8 (by decide)) i
      refine ⟨?_, fun z => a2.pc (xP p 8 hp8 (by decide)) (fun d => lvn p d (Or.inl z)), fun z d hd hS => ?_, ?_, ?_, ?_, ?_⟩
      · unfold RP at *
        rw [show es x (RB k) 4 1 (PB p) = x (PB p) from xP p 0 hp8 (by decide), xP p 1 hp8 (by decide), xP p 2 hp8 (by decide), yc 8 (by decide), yc 9 (by decide), yc 10 (by decide), yc 11 (by decide), yc 12 (by decide), yc 13 (by decide)]
        exact a1
      · rw [xP p 8 hp8 (by decide), lvn p d (Or.inr hS)]
        exact a2 d hd
      · exact a4.pc (q0 13) (xP p 6 hp8 (by decide)) (xP p 7 hp8 (by decide)) (by rw [yc 8 (by decide)]) (by rw [yc 7 (by decide)]) (yc 22 (by decide)) (yc 23 (by decide)) (yc 24 (by decide))
      · exact a5.pc (q0 7) (xP p 3 hp8 (by decide)) (by rw [yc 7 (by decide)]) (yc 14 (by decide))
      · exact a6.pc (q0 10) (xP p 4 hp8 (by decide)) (xP p 5 hp8 (by decide)) (by rw [yc 7 (by decide)]) (yc 19 (by decide)) (yc 20 (by decide)) (yc 21 (by decide))
      · unfold RD at *
        rw [yc 11 (by decide), yc 12 (by decide)]
        exact a7
    · obtain ⟨a1, a2, a3, a4, a5, a6⟩ := (r4 q hq).1
      unfold QR
      rw [yc 14 (by decide), yc 15 (by decide), yc 16 (by decide), yc 17 (by decide)]
      by_cases z : q = k
      · subst z
        rw [es_ne x 1 (k' := 0) (by omega), es_ne x 1 (k' := 1) (by omega), es_ne x 1 (k' := 2) (by omega), es_ne x 1 (k' := 3) (by omega), es_same, es_same]
        exact ⟨a1, a2, a3, a4, rfl, a6⟩
      · rw [xR q z, y18 q z]
        exact ⟨a1, a2, a3, a4, a5, a6⟩
  rw [k1, k3, k4]
  obtain ⟨f1, f2⟩ := mark (f := y 15 k) (t' := y 16 k + 1) hc1 hR (by rw [yc 7 (by decide)]; exact k7)
  exact ⟨f1, hm1, f2.done (fun d _ w => w.2 w.1)⟩
