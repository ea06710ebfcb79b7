/-! ===== a call of both sides, in numbers: MP_ what the reference answers (as its contracts say), T_ what the class answers, stp_ they agree ===== -/
def MP_addPerson (cy : Nat → ClassId) (C : List Nat) (ad : Nat → Nat) (e : Nat → Nat → Nat) (k h : Nat) (r : Int32) (u : WT) : Prop := ((((20 ≤ k ∧ k ≤ 80) ∧ (1 ≤ h ∧ h ≤ 10)) ∧ ¬ (es e 7 0 0) 7 2 = 8) ∧ r = nI ((es e 7 0 0) 7 2) ∧ u = (C, ad, G cy ad (addM (es e 7 0 0) k h))) ∨ (¬ ((20 ≤ k ∧ k ≤ 80) ∧ (1 ≤ h ∧ h ≤ 10)) ∧ u = (C, ad, G cy ad (es (es e 7 0 0) 7 0 1))) ∨ ((((20 ≤ k ∧ k ≤ 80) ∧ (1 ≤ h ∧ h ≤ 10)) ∧ (es e 7 0 0) 7 2 = 8) ∧ u = (C, ad, G cy ad (es (es e 7 0 0) 7 0 2)))
def MP_setHours (cy : Nat → ClassId) (C : List Nat) (ad : Nat → Nat) (e : Nat → Nat → Nat) (k d h : Nat) (r : Int32) (u : WT) : Prop := ((k < (es e 7 0 0) 7 2 ∧ (((es e 7 0 0) 8 k ≤ d ∧ d ≤ 3600) ∧ (1 ≤ h ∧ h ≤ 10)) ∧ ¬ (laM (es e 7 0 0) k d ((es e 7 0 0) 11 k) = (es e 7 0 0) 11 k ∧ (es e 7 0 0) 11 k = 10)) ∧ r = nI (hrM (es e 7 0 0) k d) ∧ u = (C, ad, G cy ad (shM (es e 7 0 0) k d h))) ∨ (¬ k < (es e 7 0 0) 7 2 ∧ u = (C, ad, G cy ad (es (es e 7 0 0) 7 0 1))) ∨ ((k < (es e 7 0 0) 7 2 ∧ ¬ (((es e 7 0 0) 8 k ≤ d ∧ d ≤ 3600) ∧ (1 ≤ h ∧ h ≤ 10))) ∧ u = (C, ad, G cy ad (es (es e 7 0 0) 7 0 2))) ∨ ((k < (es e 7 0 0) 7 2 ∧ (((es e 7 0 0) 8 k ≤ d ∧ d ≤ 3600) ∧ (1 ≤ h ∧ h ≤ 10)) ∧ ¬ ¬ (laM (es e 7 0 0) k d ((es e 7 0 0) 11 k) = (es e 7 0 0) 11 k ∧ (es e 7 0 0) 11 k = 10)) ∧ u = (C, ad, G cy ad (es (es e 7 0 0) 7 0 3)))
def MP_request (cy : Nat → ClassId) (C : List Nat) (ad : Nat → Nat) (e : Nat → Nat → Nat) (k f t h : Nat) (r : Int32) (u : WT) : Prop := ((k < (es e 7 0 0) 7 2 ∧ ((es e 7 0 0) 8 k ≤ f ∧ f ≤ t ∧ t ≤ 3600) ∧ ¬ (es e 7 0 0) 7 9 = 40) ∧ r = nI ((es e 7 0 0) 7 9) ∧ u = (C, ad, G cy ad (rqM (es e 7 0 0) k f t h))) ∨ (¬ k < (es e 7 0 0) 7 2 ∧ u = (C, ad, G cy ad (es (es e 7 0 0) 7 0 1))) ∨ ((k < (es e 7 0 0) 7 2 ∧ ¬ ((es e 7 0 0) 8 k ≤ f ∧ f ≤ t ∧ t ≤ 3600)) ∧ u = (C, ad, G cy ad (es (es e 7 0 0) 7 0 2))) ∨ ((k < (es e 7 0 0) 7 2 ∧ ((es e 7 0 0) 8 k ≤ f ∧ f ≤ t ∧ t ≤ 3600) ∧ (es e 7 0 0) 7 9 = 40) ∧ u = (C, ad, G cy ad (es (es e 7 0 0) 7 0 3)))
def MP_sick (cy : Nat → ClassId) (C : List Nat) (ad : Nat → Nat) (e : Nat → Nat → Nat) (k f t : Nat) (r : Int32) (u : WT) : Prop := ((k < (es e 7 0 0) 7 2 ∧ ((es e 7 0 0) 8 k ≤ f ∧ f ≤ t ∧ t ≤ 3600) ∧ ¬ (es e 7 0 0) 7 15 = 30) ∧ r = nI ((es e 7 0 0) 7 15 + 1) ∧ u = (C, ad, G cy ad (skM (es e 7 0 0) k f t))) ∨ (¬ k < (es e 7 0 0) 7 2 ∧ u = (C, ad, G cy ad (es (es e 7 0 0) 7 0 1))) ∨ ((k < (es e 7 0 0) 7 2 ∧ ¬ ((es e 7 0 0) 8 k ≤ f ∧ f ≤ t ∧ t ≤ 3600)) ∧ u = (C, ad, G cy ad (es (es e 7 0 0) 7 0 2))) ∨ ((k < (es e 7 0 0) 7 2 ∧ ((es e 7 0 0) 8 k ≤ f ∧ f ≤ t ∧ t ≤ 3600) ∧ (es e 7 0 0) 7 15 = 30) ∧ u = (C, ad, G cy ad (es (es e 7 0 0) 7 0 3)))
def MP_change (cy : Nat → ClassId) (C : List Nat) (ad : Nat → Nat) (e : Nat → Nat → Nat) (k f t : Nat) (r : Int32) (u : WT) : Prop := ((k < (es e 7 0 0) 7 9 ∧ ((es e 7 0 0) 8 ((es e 7 0 0) 14 k) ≤ f ∧ f ≤ t ∧ t ≤ 3600) ∧ (es e 7 0 0) 18 k = 0) ∧ r = nI ((es e 7 0 0) 16 k - (es e 7 0 0) 15 k + 1) ∧ u = (C, ad, G cy ad (chM (es e 7 0 0) k f t))) ∨ (¬ k < (es e 7 0 0) 7 9 ∧ u = (C, ad, G cy ad (es (es e 7 0 0) 7 0 1))) ∨ ((k < (es e 7 0 0) 7 9 ∧ ¬ ((es e 7 0 0) 8 ((es e 7 0 0) 14 k) ≤ f ∧ f ≤ t ∧ t ≤ 3600)) ∧ u = (C, ad, G cy ad (es (es e 7 0 0) 7 0 2))) ∨ ((k < (es e 7 0 0) 7 9 ∧ ((es e 7 0 0) 8 ((es e 7 0 0) 14 k) ≤ f ∧ f ≤ t ∧ t ≤ 3600) ∧ ¬ (es e 7 0 0) 18 k = 0) ∧ u = (C, ad, G cy ad (es (es e 7 0 0) 7 0 3)))
def MP_cancel (cy : Nat → ClassId) (C : List Nat) (ad : Nat → Nat) (e : Nat → Nat → Nat) (k : Nat) (u : WT) : Prop := ((k < e 7 9 ∧ e 18 k = 0) ∧ u = (C, ad, G cy ad (es (es e 7 0 0) 18 k 1))) ∨ (¬ k < e 7 9 ∧ u = (C, ad, G cy ad (es e 7 0 1))) ∨ ((k < e 7 9 ∧ ¬ e 18 k = 0) ∧ u = (C, ad, G cy ad (es e 7 0 2)))
def MP_payOut (cy : Nat → ClassId) (C : List Nat) (ad : Nat → Nat) (e : Nat → Nat → Nat) (k h : Nat) (r : Int32) (u : WT) : Prop := ((k < (es e 7 0 0) 7 2 ∧ (1 ≤ h ∧ h ≤ 20000) ∧ ¬ (es e 7 0 0) 7 19 = 20 ∧ h ≤ totM (goM (es e 7 0 0) k ((es e 7 0 0) 7 1 + 1 - (es e 7 0 0) 8 k))) ∧ r = nI ((es e 7 0 0) 7 19) ∧ u = (C, ad, G cy ad (pyM (goM (es e 7 0 0) k ((es e 7 0 0) 7 1 + 1 - (es e 7 0 0) 8 k)) k h))) ∨ (¬ k < (es e 7 0 0) 7 2 ∧ u = (C, ad, G cy ad (es (es e 7 0 0) 7 0 1))) ∨ ((k < (es e 7 0 0) 7 2 ∧ ¬ (1 ≤ h ∧ h ≤ 20000)) ∧ u = (C, ad, G cy ad (es (es e 7 0 0) 7 0 2))) ∨ ((k < (es e 7 0 0) 7 2 ∧ (1 ≤ h ∧ h ≤ 20000) ∧ ((es e 7 0 0) 7 19 = 20 ∨ totM (goM (es e 7 0 0) k ((es e 7 0 0) 7 1 + 1 - (es e 7 0 0) 8 k)) < h)) ∧ u = (C, ad, G cy ad (es (goM (es e 7 0 0) k ((es e 7 0 0) 7 1 + 1 - (es e 7 0 0) 8 k)) 7 0 3)))
def MP_pass (cy : Nat → ClassId) (C : List Nat) (ad : Nat → Nat) (e : Nat → Nat → Nat) (d : Nat) (r : Int32) (u : WT) : Prop := (((1 ≤ d ∧ d ≤ 400) ∧ (es e 7 0 0) 7 1 + d ≤ 3600) ∧ r = nI ((es e 7 0 0) 7 1 + d) ∧ u = (C, ad, G cy ad (es (es e 7 0 0) 7 1 ((es e 7 0 0) 7 1 + d)))) ∨ (¬ (1 ≤ d ∧ d ≤ 400) ∧ u = (C, ad, G cy ad (es (es e 7 0 0) 7 0 1))) ∨ (((1 ≤ d ∧ d ≤ 400) ∧ ¬ (es e 7 0 0) 7 1 + d ≤ 3600) ∧ u = (C, ad, G cy ad (es (es e 7 0 0) 7 0 2)))
def MP_today (cy : Nat → ClassId) (C : List Nat) (ad : Nat → Nat) (e : Nat → Nat → Nat)  (r : Int32) (u : WT) : Prop := r = nI ((es e 7 0 0) 7 1) ∧ u = (C, ad, G cy ad (es e 7 0 0))
def MP_people (cy : Nat → ClassId) (C : List Nat) (ad : Nat → Nat) (e : Nat → Nat → Nat)  (r : Int32) (u : WT) : Prop := r = nI ((es e 7 0 0) 7 2) ∧ u = (C, ad, G cy ad (es e 7 0 0))
def MP_workingDays (cy : Nat → ClassId) (C : List Nat) (ad : Nat → Nat) (e : Nat → Nat → Nat) (f t : Nat) (r : Int32) (u : WT) : Prop := ((f ≤ 3600 ∧ f ≤ t ∧ t ≤ 3600) ∧ r = nI (wkN f (t + 1 - f)) ∧ u = (C, ad, G cy ad (es e 7 0 0))) ∨ (¬ (f ≤ 3600 ∧ f ≤ t ∧ t ≤ 3600) ∧ u = (C, ad, G cy ad (es (es e 7 0 0) 7 0 1)))
def MP_hours (cy : Nat → ClassId) (C : List Nat) (ad : Nat → Nat) (e : Nat → Nat → Nat) (k d : Nat) (r : Int32) (u : WT) : Prop := ((k < (es e 7 0 0) 7 2 ∧ ((es e 7 0 0) 8 k ≤ d ∧ d ≤ 3600)) ∧ r = nI (hrM (es e 7 0 0) k d) ∧ u = (C, ad, G cy ad (es e 7 0 0))) ∨ (¬ k < (es e 7 0 0) 7 2 ∧ u = (C, ad, G cy ad (es (es e 7 0 0) 7 0 1))) ∨ ((k < (es e 7 0 0) 7 2 ∧ ¬ ((es e 7 0 0) 8 k ≤ d ∧ d ≤ 3600)) ∧ u = (C, ad, G cy ad (es (es e 7 0 0) 7 0 2)))
def MP_onLeave (cy : Nat → ClassId) (C : List Nat) (ad : Nat → Nat) (e : Nat → Nat → Nat) (k d : Nat) (r : Int32) (u : WT) : Prop := ((k < e 7 2 ∧ d ≤ 3600) ∧ r = nI (lvM (es e 7 0 0) k d) ∧ u = (C, ad, G cy ad (es e 7 0 0))) ∨ (¬ (k < e 7 2 ∧ d ≤ 3600) ∧ u = (C, ad, G cy ad (es e 7 0 (if k < e 7 2 then 2 else 1))))
def MP_balance (cy : Nat → ClassId) (C : List Nat) (ad : Nat → Nat) (e : Nat → Nat → Nat) (k d : Nat) (r : Int32) (u : WT) : Prop := (k < e 7 2 ∧ d ≤ 3600 → r = nI (totM (goM (es e 7 0 0) k (d + 1 - e 8 k))) - nI ((goM (es e 7 0 0) k (d + 1 - e 8 k)) 7 24)) ∧ u = (C, ad, G cy ad (gnM e k d))
def MP_balanceBySums (cy : Nat → ClassId) (C : List Nat) (ad : Nat → Nat) (e : Nat → Nat → Nat) (k d : Nat) (r : Int32) (u : WT) : Prop := (k < e 7 2 ∧ d ≤ 3600 → r = nI ((goM (es e 7 0 0) k (d + 1 - e 8 k)) 7 25) - nI ((goM (es e 7 0 0) k (d + 1 - e 8 k)) 7 26) - nI ((goM (es e 7 0 0) k (d + 1 - e 8 k)) 7 27) - nI ((goM (es e 7 0 0) k (d + 1 - e 8 k)) 7 28)) ∧ u = (C, ad, G cy ad (gnM e k d))
def MP_earned (cy : Nat → ClassId) (C : List Nat) (ad : Nat → Nat) (e : Nat → Nat → Nat) (k d : Nat) (r : Int32) (u : WT) : Prop := (k < e 7 2 ∧ d ≤ 3600 → r = nI ((goM (es e 7 0 0) k (d + 1 - e 8 k)) 7 25)) ∧ u = (C, ad, G cy ad (gnM e k d))
def MP_taken (cy : Nat → ClassId) (C : List Nat) (ad : Nat → Nat) (e : Nat → Nat → Nat) (k d : Nat) (r : Int32) (u : WT) : Prop := (k < e 7 2 ∧ d ≤ 3600 → r = nI ((goM (es e 7 0 0) k (d + 1 - e 8 k)) 7 26)) ∧ u = (C, ad, G cy ad (gnM e k d))
def MP_expired (cy : Nat → ClassId) (C : List Nat) (ad : Nat → Nat) (e : Nat → Nat → Nat) (k d : Nat) (r : Int32) (u : WT) : Prop := (k < e 7 2 ∧ d ≤ 3600 → r = nI ((goM (es e 7 0 0) k (d + 1 - e 8 k)) 7 27)) ∧ u = (C, ad, G cy ad (gnM e k d))
def MP_paid (cy : Nat → ClassId) (C : List Nat) (ad : Nat → Nat) (e : Nat → Nat → Nat) (k d : Nat) (r : Int32) (u : WT) : Prop := (k < e 7 2 ∧ d ≤ 3600 → r = nI ((goM (es e 7 0 0) k (d + 1 - e 8 k)) 7 28)) ∧ u = (C, ad, G cy ad (gnM e k d))
def MP_borrowed (cy : Nat → ClassId) (C : List Nat) (ad : Nat → Nat) (e : Nat → Nat → Nat) (k d : Nat) (r : Int32) (u : WT) : Prop := (k < e 7 2 ∧ d ≤ 3600 → r = nI ((goM (es e 7 0 0) k (d + 1 - e 8 k)) 7 24)) ∧ u = (C, ad, G cy ad (gnM e k d))
def MP_unpaid (cy : Nat → ClassId) (C : List Nat) (ad : Nat → Nat) (e : Nat → Nat → Nat) (k d : Nat) (r : Int32) (u : WT) : Prop := (k < e 7 2 ∧ d ≤ 3600 → r = nI ((goM (es e 7 0 0) k (d + 1 - e 8 k)) 7 29)) ∧ u = (C, ad, G cy ad (gnM e k d))
def MP_nextExpiry (cy : Nat → ClassId) (C : List Nat) (ad : Nat → Nat) (e : Nat → Nat → Nat) (k d : Nat) (r : Int32) (u : WT) : Prop := (k < e 7 2 ∧ d ≤ 3600 → r = fxR (goM (es e 7 0 0) k (d + 1 - e 8 k)) 11) ∧ u = (C, ad, G cy ad (gnM e k d))
def LF (e e1 : Nat → Nat → Nat) : Prop := ∀ c, 7 ≤ c → c < 26 → e1 c = e c
def MF (y y2 : Nat → Nat → Nat) : Prop := ∀ c, c < 7 ∨ 26 ≤ c → y2 c = y c
def STP (e' : Nat → Nat → Nat) (j : Nat) (v : Int32) (cy : Nat → ClassId) (ad : Nat → Nat) (C : List Nat) (b : Int32) (u : WT) : Prop := ∃ e2 : Nat → Nat → Nat, u = (C, ad, G cy ad e2) ∧ INV e2 ∧ CC (e2 0 1) (e2 0 3) C ∧ e2 7 0 = j ∧ (j = 0 → b = v) ∧ e2 6 = e' 6
section
variable {e e' e1 : Nat → Nat → Nat} {C C1 : List Nat} {j : Nat} {v : Int32}
theorem sp_yf (hL : LF e e1) (h6 : ∀ c, c ≠ 6 → e' c = e1 c) : YF e e' ∧ e' 7 1 = e 7 1 := ⟨YF_all (fun c a b => (h6 c (by omega)).trans (hL c a b)), by rw [h6 7 (by decide), hL 7 (by decide) (by decide)]⟩
theorem sp_y (hL : LF e e1) (h6 : ∀ c, c ≠ 6 → e' c = e1 c) : YF e (es e' 7 0 0) ∧ (es e' 7 0 0) 7 1 = e 7 1 := ⟨(sp_yf hL h6).1.tr (YF_thr e' 0), (es_ne e' 0 (by omega)).trans (sp_yf hL h6).2⟩
theorem sp_mw (hI : INV e) (hL : LF e e1) (h6 : ∀ c, c ≠ 6 → e' c = e1 c) : MW e' := hI.2.1.fr (sp_yf hL h6).1 (sp_yf hL h6).2
theorem sp_m (hI : INV e) (hL : LF e e1) (h6 : ∀ c, c ≠ 6 → e' c = e1 c) : MW (es e' 7 0 0) := hI.2.1.fr (sp_y hL h6).1 (sp_y hL h6).2
theorem sp_r (hI : INV e) (hL : LF e e1) (h6 : ∀ c, c ≠ 6 → e' c = e1 c) : REL e (es e' 7 0 0) := hI.2.2.fr (XF.rf e) (sp_y hL h6).1 (sp_y hL h6).2
theorem LF.rf (e : Nat → Nat → Nat) : LF e e := fun _ _ _ => rfl
theorem sp_end {e2 : Nat → Nat → Nat} {cy : Nat → ClassId} {ad : Nat → Nat} {b : Int32} (hI : INV e) (hC : CC (e 0 1) (e 0 3) C) (hx : XF e e2) (hy : YF e e2) (h1 : e2 7 1 = e 7 1) (h0 : e2 7 0 = j) (hb : j = 0 → b = v) (h6 : e2 6 = e' 6) : STP e' j v cy ad C b (C, ad, G cy ad e2) := ⟨e2, rfl, hI.fr hx hy h1, by rw [hx 0 (Or.inl (by decide))]; exact hC, h0, hb, h6⟩
theorem sp_fail {cy : Nat → ClassId} {ad : Nat → Nat} {b : Int32} (hI : INV e) (hC : CC (e 0 1) (e 0 3) C) (h6 : ∀ c, c ≠ 6 → e' c = e c) (hj : j ≠ 0) : STP e' j v cy ad C b (C, ad, G cy ad (es (es e' 7 0 0) 7 0 j)) := by
  refine sp_end hI hC (fun c hc => ?_) ((sp_y (LF.rf e) h6).1.tr (YF_thr _ j)) ((es_ne _ _ (by omega)).trans (sp_y (LF.rf e) h6).2) (es_same _ _ _ _) (fun z => absurd z hj) ((es_off _ _ _ (by decide)).trans (es_off _ _ _ (by decide)))
  rw [es_off _ _ _ (by omega), es_off _ _ _ (by omega)]
  exact h6 c (by omega)
theorem sp_fail1 {cy : Nat → ClassId} {ad : Nat → Nat} {b : Int32} (hI : INV e) (hC : CC (e 0 1) (e 0 3) C) (h6 : ∀ c, c ≠ 6 → e' c = e c) (hj : j ≠ 0) : STP e' j v cy ad C b (C, ad, G cy ad (es e' 7 0 j)) := by
  refine sp_end hI hC (fun c hc => ?_) ((sp_yf (LF.rf e) h6).1.tr (YF_thr _ j)) ((es_ne _ _ (by omega)).trans (sp_yf (LF.rf e) h6).2) (es_same _ _ _ _) (fun z => absurd z hj) (es_off _ _ _ (by decide))
  rw [es_off _ _ _ (by omega)]
  exact h6 c (by omega)
theorem sp_ok {y2 : Nat → Nat → Nat} {cy : Nat → ClassId} {ad : Nat → Nat} {b : Int32} (h6 : ∀ c, c ≠ 6 → e' c = e1 c) (hs : CW e1 ∧ MW y2 ∧ REL e1 y2) (hM : MF (es e' 7 0 0) y2) (hC1 : CC (e1 0 1) (e1 0 3) C1) (h0 : y2 7 0 = (es e' 7 0 0) 7 0) (hb : b = v) : STP e' 0 v cy ad C1 b (C1, ad, G cy ad y2) := by
  have hx : XF e1 y2 := fun c hc => (hM c (by omega)).trans ((es_off e' 0 0 (by omega)).trans (h6 c (by omega)))
  exact ⟨y2, rfl, INV.of (e := e1) hs.1 hs.2.1 hs.2.2 hx, by rw [hx 0 (Or.inl (by decide))]; exact hC1, h0.trans (es_same _ _ _ _), fun _ => hb, (hM 6 (by omega)).trans (es_off _ _ _ (by decide))⟩
theorem MF_go (y : Nat → Nat → Nat) (p n : Nat) : MF y (goM y p n) := fun c hc => (OffM_go y p n).1 c (by omega) (by omega)
theorem LF_go (e : Nat → Nat → Nat) (p n : Nat) : LF e (goC e p n) := fun c a b => Off_go e p n c (by omega) (by omega) (by omega)
theorem LF.es {e e1 : Nat → Nat → Nat} (h : LF e e1) {c k v : Nat} (hc : c < 7 ∨ 26 ≤ c) : LF e (es e1 c k v) := fun c' a b => (es_off e1 k v (by omega)).trans (h c' a b)
theorem LF.mk {e e1 : Nat → Nat → Nat} (h : LF e e1) (p f t : Nat) : LF e (mkC e1 p f t) := fun c a b => (mkC_lo e1 p f t (by omega)).trans (h c a b)
theorem MF.rf (y : Nat → Nat → Nat) : MF y y := fun _ _ => rfl
theorem MF.es {y y1 : Nat → Nat → Nat} (h : MF y y1) {c k v : Nat} (hc : 7 ≤ c ∧ c < 26) : MF y (es y1 c k v) := fun c' a => (es_off y1 k v (by omega)).trans (h c' a)
theorem MF.tr {y y1 y2 : Nat → Nat → Nat} (h : MF y y1) (h2 : MF y1 y2) : MF y y2 := fun c hc => (h2 c hc).trans (h c hc)
-- the codes that stand
theorem CC_c9 {np nr : Nat} {C : List Nat} (h : CC np nr C) : CC (np + 1) nr (c9 np C) := fun c => by
  unfold c9
  simp only [List.mem_append, List.mem_singleton, h c]
  unfold PB
  omega
theorem CC.rq1 {np nr : Nat} {C : List Nat} (h : CC np nr C) : CC np (nr + 1) (C ++ [RB nr]) := fun c => by
  simp only [List.mem_append, List.mem_singleton, h c]
  unfold RB
  omega
-- addPerson
def T_addPerson (e : Nat → Nat → Nat) (C : List Nat) (k h j : Nat) (v : Int32) (e1 : Nat → Nat → Nat) (C1 : List Nat) : Prop := (j = 0 ∧ ((20 ≤ k ∧ k ≤ 80) ∧ (1 ≤ h ∧ h ≤ 10) ∧ e 0 1 < 8) ∧ v = nI (e 0 1) ∧ e1 = addC e k h ∧ C1 = c9 (e 0 1) C) ∨ (j = 1 ∧ ¬ ((20 ≤ k ∧ k ≤ 80) ∧ (1 ≤ h ∧ h ≤ 10)) ∧ e = e1 ∧ C = C1) ∨ (j = 2 ∧ (((20 ≤ k ∧ k ≤ 80) ∧ (1 ≤ h ∧ h ≤ 10)) ∧ ¬ e 0 1 < 8) ∧ e = e1 ∧ C = C1)
theorem addC_LF (e : Nat → Nat → Nat) (a h : Nat) : LF e (addC e a h) := ((show LF e (anP e a h) from fun c x y => anP_off e a h (by unfold PB; omega)).es (by decide)).es (by decide)
theorem stp_addPerson {k h : Nat} (hI : INV e) (hC : CC (e 0 1) (e 0 3) C) (hT : T_addPerson e C k h j v e1 C1) (h6 : ∀ c, c ≠ 6 → e' c = e1 c) : (∀ c, c < 26 → c ∈ C1) ∧ MW e' ∧ ∀ (cy : Nat → ClassId) (ad : Nat → Nat) (b : Int32) (u : WT), MP_addPerson cy C1 ad e' k h b u → STP e' j v cy ad C1 b u := by
  have hn : e 0 1 = e 7 2 := hI.2.2.1.1
  rcases hT with ⟨rfl, c1, rfl, rfl, rfl⟩ | ⟨rfl, c1, rfl, rfl⟩ | ⟨rfl, c1, rfl, rfl⟩
  · have hL := addC_LF e k h
    have he : (es e' 7 0 0) 7 2 = e 0 1 := by rw [(sp_y hL h6).1.2.1, hn]
    have hC1 : CC (addC e k h 0 1) (addC e k h 0 3) (c9 (e 0 1) C) := by
      have e3 : addC e k h 0 3 = e 0 3 := by
        unfold addC
        rw [es_ne _ _ (by omega), es_off _ _ _ (by decide), anP_off e k h (by unfold PB; omega)]
      rw [show addC e k h 0 1 = e 0 1 + 1 from es_same _ _ _ _, e3]
      exact CC_c9 hC
    refine ⟨hC1.B, sp_mw hI hL h6, fun cy ad b u hm => ?_⟩
    rcases hm with ⟨_, rfl, rfl⟩ | ⟨z, _⟩ | ⟨z, _⟩
    · exact sp_ok h6 (sim_add hI.1 (sp_m hI hL h6) (sp_r hI hL h6) (by omega) c1.1 c1.2.1) (((((MF.rf _).es (by decide)).es (by decide)).es (by decide)).es (by decide)) hC1 (by unfold addM; rw [es_ne _ _ (by omega), es_off _ _ _ (by decide), es_off _ _ _ (by decide), es_off _ _ _ (by decide)]) (by rw [he])
    · exact absurd ⟨c1.1, c1.2.1⟩ z
    · exact absurd z.2 (by omega)
  · refine ⟨hC.B, sp_mw hI (LF.rf e) h6, fun cy ad b u hm => ?_⟩
    rcases hm with ⟨z, _, _⟩ | ⟨_, rfl⟩ | ⟨z, _⟩
    · exact absurd z.1 c1
    · exact sp_fail hI hC h6 (by decide)
    · exact absurd z.1 c1
  · have he : (es e' 7 0 0) 7 2 = e 0 1 := by rw [(sp_y (LF.rf e) h6).1.2.1, hn]
    have h8 := hI.1.np
    refine ⟨hC.B, sp_mw hI (LF.rf e) h6, fun cy ad b u hm => ?_⟩
    rcases hm with ⟨z, _, _⟩ | ⟨z, _⟩ | ⟨_, rfl⟩
    · exact absurd z.2 (by rw [he]; omega)
    · exact absurd c1.1 z
    · exact sp_fail hI hC h6 (by decide)
-- setHours
def T_setHours (e : Nat → Nat → Nat) (C : List Nat) (k d h j : Nat) (v : Int32) (e1 : Nat → Nat → Nat) (C1 : List Nat) : Prop := (j = 0 ∧ ((k < e 0 1 ∧ e (PB k) 0 ≤ d ∧ d ≤ 3600) ∧ (1 ≤ h ∧ h ≤ 10) ∧ fiN (e (PB k + 1)) d (e (PB k) 5) < 10) ∧ v = nI (hrC e k d) ∧ e1 = ehC e k d h ∧ C = C1) ∨ (j = 1 ∧ ¬ k < e 0 1 ∧ e = e1 ∧ C = C1) ∨ (j = 2 ∧ (k < e 0 1 ∧ ¬ ((e (PB k) 0 ≤ d ∧ d ≤ 3600) ∧ (1 ≤ h ∧ h ≤ 10))) ∧ e = e1 ∧ C = C1) ∨ (j = 3 ∧ (((k < e 0 1 ∧ e (PB k) 0 ≤ d ∧ d ≤ 3600) ∧ 1 ≤ h ∧ h ≤ 10) ∧ ¬ fiN (e (PB k + 1)) d (e (PB k) 5) < 10) ∧ e = e1 ∧ C = C1)
theorem stp_setHours {k d h : Nat} (hI : INV e) (hC : CC (e 0 1) (e 0 3) C) (hT : T_setHours e C k d h j v e1 C1) (h6 : ∀ c, c ≠ 6 → e' c = e1 c) : (∀ c, c < 26 → c ∈ C1) ∧ MW e' ∧ ∀ (cy : Nat → ClassId) (ad : Nat → Nat) (b : Int32) (u : WT), MP_setHours cy C1 ad e' k d h b u → STP e' j v cy ad C1 b u := by
  have hn : e 0 1 = e 7 2 := hI.2.2.1.1
  have key : LF e e1 → (es e' 7 0 0) 7 2 = e 0 1 ∧ (k < e 0 1 → (es e' 7 0 0) 8 k = e (PB k) 0 ∧ hrC e k d = hrM (es e' 7 0 0) k d ∧ fiN (e (PB k + 1)) d (e (PB k) 5) = laM (es e' 7 0 0) k d ((es e' 7 0 0) 11 k) ∧ (es e' 7 0 0) 11 k = e (PB k) 5 ∧ e (PB k) 5 ≤ 10) := fun hL => by
    have hr := sp_r hI hL h6
    have he : (es e' 7 0 0) 7 2 = e 0 1 := by rw [(sp_y hL h6).1.2.1, hn]
    refine ⟨he, fun hk => ?_⟩
    obtain ⟨p1, p2, p3, p4, p5, p6⟩ := (hr.2.1 k (by omega)).1
    exact ⟨p1.1.symm, p1.hr d, hours_fi p1 p6 d, p1.2.2.2.1.symm, (hI.1.p hk).ch.1⟩
  rcases hT with ⟨rfl, c1, rfl, rfl, rfl⟩ | ⟨rfl, c1, rfl, rfl⟩ | ⟨rfl, c1, rfl, rfl⟩ | ⟨rfl, c1, rfl, rfl⟩
  · have hL : LF e (ehC e k d h) := (((LF.rf e).es (by unfold PB; omega)).es (by unfold PB; omega)).es (by unfold PB; omega)
    obtain ⟨he, hk9⟩ := key hL
    obtain ⟨q1, q2, q3, q4, q5⟩ := hk9 c1.1.1
    have hC1 : CC (ehC e k d h 0 1) (ehC e k d h 0 3) C := by
      have e3 : ehC e k d h 0 = e 0 := by
        unfold ehC
        rw [es_off _ _ _ (by unfold PB; omega), es_off _ _ _ (by unfold PB; omega), es_off _ _ _ (by unfold PB; omega)]
      rw [e3]
      exact hC
    refine ⟨hC.B, sp_mw hI hL h6, fun cy ad b u hm => ?_⟩
    rcases hm with ⟨_, rfl, rfl⟩ | ⟨z, _⟩ | ⟨z, _⟩ | ⟨z, _⟩
    · exact sp_ok h6 (sim_hours hI.1 (sp_m hI hL h6) (sp_r hI hL h6) (by omega) c1.1.2.2 c1.2.1 c1.2.2) ((((MF.rf _).es (by decide)).es (by decide)).es (by decide)) hC1 (by unfold shM; rw [es_off _ _ _ (by decide), es_off _ _ _ (by decide), es_off _ _ _ (by decide)]) (by rw [q2])
    · exact absurd c1.1.1 (by omega)
    · exact absurd z.2 (by rw [q1]; exact fun w => w ⟨c1.1.2, c1.2.1⟩)
    · exact absurd z.2.2 (by rw [← q3, q4]; omega)
  · obtain ⟨he, hk9⟩ := key (LF.rf e)
    refine ⟨hC.B, sp_mw hI (LF.rf e) h6, fun cy ad b u hm => ?_⟩
    rcases hm with ⟨z, _, _⟩ | ⟨_, rfl⟩ | ⟨z, _⟩ | ⟨z, _⟩
    · exact absurd z.1 (by omega)
    · exact sp_fail hI hC h6 (by decide)
    · exact absurd z.1 (by omega)
    · exact absurd z.1 (by omega)
  · obtain ⟨he, hk9⟩ := key (LF.rf e)
    obtain ⟨q1, q2, q3, q4, q5⟩ := hk9 c1.1
    refine ⟨hC.B, sp_mw hI (LF.rf e) h6, fun cy ad b u hm => ?_⟩
    rcases hm with ⟨z, _, _⟩ | ⟨z, _⟩ | ⟨_, rfl⟩ | ⟨z, _⟩
    · exact absurd z.2.1 (by rw [q1]; exact c1.2)
    · exact absurd c1.1 (by omega)
    · exact sp_fail hI hC h6 (by decide)
    · exact absurd z.2.1 (by rw [q1]; exact c1.2)
  · obtain ⟨he, hk9⟩ := key (LF.rf e)
    obtain ⟨q1, q2, q3, q4, q5⟩ := hk9 c1.1.1.1
    have q6 := fiN_le (e (PB k + 1)) d (e (PB k) 5)
    refine ⟨hC.B, sp_mw hI (LF.rf e) h6, fun cy ad b u hm => ?_⟩
    rcases hm with ⟨z, _, _⟩ | ⟨z, _⟩ | ⟨z, _⟩ | ⟨_, rfl⟩
    · exact absurd z.2.2 (by rw [← q3, q4]; omega)
    · exact absurd c1.1.1.1 (by omega)
    · exact absurd z.2 (by rw [q1]; exact fun w => w ⟨c1.1.1.2, c1.1.2⟩)
    · exact sp_fail hI hC h6 (by decide)
-- request
def T_request (e : Nat → Nat → Nat) (C : List Nat) (k f t h j : Nat) (v : Int32) (e1 : Nat → Nat → Nat) (C1 : List Nat) : Prop := (j = 0 ∧ ((k < e 0 1 ∧ e (PB k) 0 ≤ f ∧ f ≤ t ∧ t ≤ 3600) ∧ e 0 3 < 40) ∧ v = nI (e 0 3) ∧ e1 = reqC e k f t h ∧ C1 = C ++ [RB (e 0 3)]) ∨ (j = 1 ∧ ¬ k < e 0 1 ∧ e = e1 ∧ C = C1) ∨ (j = 2 ∧ (k < e 0 1 ∧ ¬ (e (PB k) 0 ≤ f ∧ f ≤ t ∧ t ≤ 3600)) ∧ e = e1 ∧ C = C1) ∨ (j = 3 ∧ ((k < e 0 1 ∧ e (PB k) 0 ≤ f ∧ f ≤ t ∧ t ≤ 3600) ∧ ¬ e 0 3 < 40) ∧ e = e1 ∧ C = C1)
theorem reqC_LF (e : Nat → Nat → Nat) (k f t h : Nat) : LF e (reqC e k f t h) := (((((show LF e (anR e k f t h) from fun c x y => anR_off e k f t h (by unfold RB; omega)).es (by unfold PB; omega)).es (by unfold PB; omega)).mk _ _ _).es (by decide)).es (by decide)
theorem stp_request {k f t h : Nat} (hh : h ≤ 1) (hI : INV e) (hC : CC (e 0 1) (e 0 3) C) (hT : T_request e C k f t h j v e1 C1) (h6 : ∀ c, c ≠ 6 → e' c = e1 c) : (∀ c, c < 26 → c ∈ C1) ∧ MW e' ∧ ∀ (cy : Nat → ClassId) (ad : Nat → Nat) (b : Int32) (u : WT), MP_request cy C1 ad e' k f t h b u → STP e' j v cy ad C1 b u := by
  have hn : e 0 1 = e 7 2 := hI.2.2.1.1
  have hn3 : e 0 3 = e 7 9 := hI.2.2.1.2.1
  have h40 := hI.1.nr
  have key : LF e e1 → (es e' 7 0 0) 7 2 = e 0 1 ∧ (es e' 7 0 0) 7 9 = e 0 3 ∧ (k < e 0 1 → (es e' 7 0 0) 8 k = e (PB k) 0) := fun hL => by
    have hr := sp_r hI hL h6
    have he : (es e' 7 0 0) 7 2 = e 0 1 := by rw [(sp_y hL h6).1.2.1, hn]
    refine ⟨he, by rw [(sp_y hL h6).1.2.2.1, hn3], fun hk => ?_⟩
    exact (hr.2.1 k (by omega)).1.1.1.symm
  rcases hT with ⟨rfl, c1, rfl, rfl, rfl⟩ | ⟨rfl, c1, rfl, rfl⟩ | ⟨rfl, c1, rfl, rfl⟩ | ⟨rfl, c1, rfl, rfl⟩
  · have hL := reqC_LF e k f t h
    obtain ⟨he, he3, hk9⟩ := key hL
    have q1 := hk9 c1.1.1
    have hC1 : CC (reqC e k f t h 0 1) (reqC e k f t h 0 3) (C ++ [RB (e 0 3)]) := by
      have e3 : reqC e k f t h 0 1 = e 0 1 := by
        unfold reqC erC erC0
        rw [es_ne _ _ (by omega), es_off _ _ _ (by decide), mkC_lo _ _ _ _ (by decide), es_off _ _ _ (by unfold PB; omega), es_off _ _ _ (by unfold PB; omega), anR_off _ _ _ _ _ (by unfold RB; omega)]
      rw [e3, show reqC e k f t h 0 3 = e 0 3 + 1 from es_same _ _ _ _]
      exact hC.rq1
    refine ⟨hC1.B, sp_mw hI hL h6, fun cy ad b u hm => ?_⟩
    rcases hm with ⟨_, rfl, rfl⟩ | ⟨z, _⟩ | ⟨z, _⟩ | ⟨z, _⟩
    · exact sp_ok h6 (sim_request hI.1 (sp_m hI hL h6) (sp_r hI hL h6) (by omega) (by rw [q1]; exact c1.1.2) hh (by omega)) (((((((MF.rf _).es (by decide)).es (by decide)).es (by decide)).es (by decide)).es (by decide)).es (by decide)) hC1 (by unfold rqM; rw [es_ne _ _ (by omega), es_off _ _ _ (by decide), es_off _ _ _ (by decide), es_off _ _ _ (by decide), es_off _ _ _ (by decide), es_off _ _ _ (by decide)]) (by rw [he3])
    · exact absurd c1.1.1 (by omega)
    · exact absurd c1.1.2 (by rw [← q1]; exact z.2)
    · exact absurd z.2.2 (by omega)
  · obtain ⟨he, he3, hk9⟩ := key (LF.rf e)
    refine ⟨hC.B, sp_mw hI (LF.rf e) h6, fun cy ad b u hm => ?_⟩
    rcases hm with ⟨z, _, _⟩ | ⟨_, rfl⟩ | ⟨z, _⟩ | ⟨z, _⟩
    · exact absurd z.1 (by omega)
    · exact sp_fail hI hC h6 (by decide)
    · exact absurd z.1 (by omega)
    · exact absurd z.1 (by omega)
  · obtain ⟨he, he3, hk9⟩ := key (LF.rf e)
    have q1 := hk9 c1.1
    refine ⟨hC.B, sp_mw hI (LF.rf e) h6, fun cy ad b u hm => ?_⟩
    rcases hm with ⟨z, _, _⟩ | ⟨z, _⟩ | ⟨_, rfl⟩ | ⟨z, _⟩
    · exact absurd z.2.1 (by rw [q1]; exact c1.2)
    · exact absurd c1.1 (by omega)
    · exact sp_fail hI hC h6 (by decide)
    · exact absurd z.2.1 (by rw [q1]; exact c1.2)
  · obtain ⟨he, he3, hk9⟩ := key (LF.rf e)
    have q1 := hk9 c1.1.1
    refine ⟨hC.B, sp_mw hI (LF.rf e) h6, fun cy ad b u hm => ?_⟩
    rcases hm with ⟨z, _, _⟩ | ⟨z, _⟩ | ⟨z, _⟩ | ⟨_, rfl⟩
    · exact absurd z.2.2 (by omega)
    · exact absurd c1.1.1 (by omega)
    · exact absurd c1.1.2 (by rw [← q1]; exact z.2)
    · exact sp_fail hI hC h6 (by decide)
-- change
def T_change (e : Nat → Nat → Nat) (C : List Nat) (k f t j : Nat) (v : Int32) (e1 : Nat → Nat → Nat) (C1 : List Nat) : Prop := (j = 0 ∧ ((k < e 0 3 ∧ e (PB (e (RB k) 0)) 0 ≤ f ∧ f ≤ t ∧ t ≤ 3600) ∧ e (RB k) 4 = 0) ∧ v = nI (e (RB k) 3 - e (RB k) 2 + 1) ∧ e1 = mkC (mkC (es (es e (RB k) 2 f) (RB k) 3 t) (e (RB k) 0) (e (RB k) 2) (e (RB k) 3 + 1)) (e (RB k) 0) f (t + 1) ∧ C = C1) ∨ (j = 1 ∧ ¬ k < e 0 3 ∧ e = e1 ∧ C = C1) ∨ (j = 2 ∧ (k < e 0 3 ∧ ¬ (e (PB (e (RB k) 0)) 0 ≤ f ∧ f ≤ t ∧ t ≤ 3600)) ∧ e = e1 ∧ C = C1) ∨ (j = 3 ∧ ((k < e 0 3 ∧ e (PB (e (RB k) 0)) 0 ≤ f ∧ f ≤ t ∧ t ≤ 3600) ∧ ¬ e (RB k) 4 = 0) ∧ e = e1 ∧ C = C1)
theorem stp_change {k f t : Nat} (hI : INV e) (hC : CC (e 0 1) (e 0 3) C) (hT : T_change e C k f t j v e1 C1) (h6 : ∀ c, c ≠ 6 → e' c = e1 c) : (∀ c, c < 26 → c ∈ C1) ∧ (MW e' ∧ ∀ q, q < e' 7 9 → e' 15 q ≤ e' 16 q) ∧ ∀ (cy : Nat → ClassId) (ad : Nat → Nat) (b : Int32) (u : WT), MP_change cy C1 ad e' k f t b u → STP e' j v cy ad C1 b u := by
  have hn3 : e 0 3 = e 7 9 := hI.2.2.1.2.1
  have hft : LF e e1 → ∀ q, q < e' 7 9 → e' 15 q ≤ e' 16 q := fun hL q hq => by
    have hy := (sp_yf hL h6).1
    rw [hy.2.2.1] at hq
    rw [hy.1 15 (by decide) (by decide), hy.1 16 (by decide) (by decide)]
    exact (hI.2.2.2.2.2.1 q hq).1.2.2.2.2.2
  have key : LF e e1 → (es e' 7 0 0) 7 9 = e 0 3 ∧ (k < e 0 3 → (es e' 7 0 0) 8 ((es e' 7 0 0) 14 k) = e (PB (e (RB k) 0)) 0 ∧ (es e' 7 0 0) 15 k = e (RB k) 2 ∧ (es e' 7 0 0) 16 k = e (RB k) 3 ∧ (es e' 7 0 0) 18 k = e (RB k) 4) := fun hL => by
    have hr := sp_r hI hL h6
    have he : (es e' 7 0 0) 7 9 = e 0 3 := by rw [(sp_y hL h6).1.2.2.1, hn3]
    refine ⟨he, fun hk => ?_⟩
    obtain ⟨⟨q1, q2, q3, q4, q5, q6⟩, q7⟩ := hr.2.2.2.1 k (by omega)
    exact ⟨by rw [q1]; exact (hr.2.1 _ q7).1.1.1.symm, q3.symm, q4.symm, q5.symm⟩
  rcases hT with ⟨rfl, c1, rfl, rfl, rfl⟩ | ⟨rfl, c1, rfl, rfl⟩ | ⟨rfl, c1, rfl, rfl⟩ | ⟨rfl, c1, rfl, rfl⟩
  · have hL : LF e (mkC (mkC (es (es e (RB k) 2 f) (RB k) 3 t) (e (RB k) 0) (e (RB k) 2) (e (RB k) 3 + 1)) (e (RB k) 0) f (t + 1)) := ((((LF.rf e).es (by unfold RB; omega)).es (by unfold RB; omega)).mk _ _ _).mk _ _ _
    obtain ⟨he3, hk9⟩ := key hL
    obtain ⟨q1, q2, q3, q4⟩ := hk9 c1.1.1
    have hC1 : CC (mkC (mkC (es (es e (RB k) 2 f) (RB k) 3 t) (e (RB k) 0) (e (RB k) 2) (e (RB k) 3 + 1)) (e (RB k) 0) f (t + 1) 0 1) (mkC (mkC (es (es e (RB k) 2 f) (RB k) 3 t) (e (RB k) 0) (e (RB k) 2) (e (RB k) 3 + 1)) (e (RB k) 0) f (t + 1) 0 3) C := by
      rw [mkC_lo _ _ _ _ (by decide), mkC_lo _ _ _ _ (by decide), es_off _ _ _ (by unfold RB; omega), es_off _ _ _ (by unfold RB; omega)]
      exact hC
    refine ⟨hC.B, ⟨sp_mw hI hL h6, hft hL⟩, fun cy ad b u hm => ?_⟩
    rcases hm with ⟨_, rfl, rfl⟩ | ⟨z, _⟩ | ⟨z, _⟩ | ⟨z, _⟩
    · exact sp_ok h6 (sim_change hI.1 (sp_m hI hL h6) (sp_r hI hL h6) (by omega) (by rw [q1]; exact c1.1.2)) (((MF.rf _).es (by decide)).es (by decide)) hC1 (by unfold chM; rw [es_off _ _ _ (by decide), es_off _ _ _ (by decide)]) (by rw [q2, q3])
    · exact absurd c1.1.1 (by omega)
    · exact absurd c1.1.2 (by rw [← q1]; exact z.2)
    · exact absurd c1.2 (by rw [← q4]; exact z.2.2)
  · obtain ⟨he3, hk9⟩ := key (LF.rf e)
    refine ⟨hC.B, ⟨sp_mw hI (LF.rf e) h6, hft (LF.rf e)⟩, fun cy ad b u hm => ?_⟩
    rcases hm with ⟨z, _, _⟩ | ⟨_, rfl⟩ | ⟨z, _⟩ | ⟨z, _⟩
    · exact absurd z.1 (by omega)
    · exact sp_fail hI hC h6 (by decide)
    · exact absurd z.1 (by omega)
    · exact absurd z.1 (by omega)
  · obtain ⟨he3, hk9⟩ := key (LF.rf e)
    obtain ⟨q1, q2, q3, q4⟩ := hk9 c1.1
    refine ⟨hC.B, ⟨sp_mw hI (LF.rf e) h6, hft (LF.rf e)⟩, fun cy ad b u hm => ?_⟩
    rcases hm with ⟨z, _, _⟩ | ⟨z, _⟩ | ⟨_, rfl⟩ | ⟨z, _⟩
    · exact absurd z.2.1 (by rw [q1]; exact c1.2)
    · exact absurd c1.1 (by omega)
    · exact sp_fail hI hC h6 (by decide)
    · exact absurd z.2.1 (by rw [q1]; exact c1.2)
  · obtain ⟨he3, hk9⟩ := key (LF.rf e)
    obtain ⟨q1, q2, q3, q4⟩ := hk9 c1.1.1
    refine ⟨hC.B, ⟨sp_mw hI (LF.rf e) h6, hft (LF.rf e)⟩, fun cy ad b u hm => ?_⟩
    rcases hm with ⟨z, _, _⟩ | ⟨z, _⟩ | ⟨z, _⟩ | ⟨_, rfl⟩
    · exact absurd z.2.2 (by rw [q4]; exact c1.2)
    · exact absurd c1.1.1 (by omega)
    · exact absurd c1.1.2 (by rw [← q1]; exact z.2)
    · exact sp_fail hI hC h6 (by decide)
-- cancel
def T_cancel (e : Nat → Nat → Nat) (C : List Nat) (k j : Nat) (e1 : Nat → Nat → Nat) (C1 : List Nat) : Prop := (j = 0 ∧ (k < e 0 3 ∧ e (RB k) 4 = 0) ∧ e1 = mkC (es e (RB k) 4 1) (e (RB k) 0) (e (RB k) 2) (e (RB k) 3 + 1) ∧ C = C1) ∨ (j = 1 ∧ ¬ k < e 0 3 ∧ e = e1 ∧ C = C1) ∨ (j = 2 ∧ (k < e 0 3 ∧ ¬ e (RB k) 4 = 0) ∧ e = e1 ∧ C = C1)
theorem stp_cancel {k : Nat} (hI : INV e) (hC : CC (e 0 1) (e 0 3) C) (hT : T_cancel e C k j e1 C1) : (∀ c, c < 26 → c ∈ C1) ∧ MW e1 ∧ ∀ (cy : Nat → ClassId) (ad : Nat → Nat) (u : WT), MP_cancel cy C1 ad e1 k u → STP e1 j 0 cy ad C1 0 u := by
  have hn3 : e 0 3 = e 7 9 := hI.2.2.1.2.1
  have h6 : ∀ c, c ≠ 6 → e1 c = e1 c := fun _ _ => rfl
  have key : LF e e1 → e1 7 9 = e 0 3 ∧ (k < e 0 3 → e1 18 k = e (RB k) 4) := fun hL => by
    have hy := (sp_yf hL h6).1
    refine ⟨by rw [hy.2.2.1, hn3], fun hk => ?_⟩
    rw [hy.1 18 (by decide) (by decide)]
    exact (hI.2.2.2.2.2.1 k (by omega)).1.2.2.2.2.1.symm
  rcases hT with ⟨rfl, c1, rfl, rfl⟩ | ⟨rfl, c1, rfl, rfl⟩ | ⟨rfl, c1, rfl, rfl⟩
  · have hL : LF e (mkC (es e (RB k) 4 1) (e (RB k) 0) (e (RB k) 2) (e (RB k) 3 + 1)) := ((LF.rf e).es (by unfold RB; omega)).mk _ _ _
    obtain ⟨he3, hk9⟩ := key hL
    have q4 := hk9 c1.1
    have hC1 : CC (mkC (es e (RB k) 4 1) (e (RB k) 0) (e (RB k) 2) (e (RB k) 3 + 1) 0 1) (mkC (es e (RB k) 4 1) (e (RB k) 0) (e (RB k) 2) (e (RB k) 3 + 1) 0 3) C := by
      rw [mkC_lo _ _ _ _ (by decide), es_off _ _ _ (by unfold RB; omega)]
      exact hC
    have he9 := (sp_y hL h6).1.2.2.1
    refine ⟨hC.B, sp_mw hI hL h6, fun cy ad u hm => ?_⟩
    rcases hm with ⟨_, rfl⟩ | ⟨z, _⟩ | ⟨z, _⟩
    · exact sp_ok h6 (sim_cancel hI.1 (sp_m hI hL h6) (sp_r hI hL h6) (by omega)) ((MF.rf _).es (by decide)) hC1 (congrFun (es_off _ k 1 (show (7 : Nat) ≠ 18 by decide)) 0) rfl
    · exact absurd c1.1 (by omega)
    · exact absurd c1.2 (by rw [← q4]; exact z.2)
  · obtain ⟨he3, hk9⟩ := key (LF.rf e)
    refine ⟨hC.B, sp_mw hI (LF.rf e) h6, fun cy ad u hm => ?_⟩
    rcases hm with ⟨z, _⟩ | ⟨_, rfl⟩ | ⟨z, _⟩
    · exact absurd z.1 (by omega)
    · exact sp_fail1 hI hC h6 (by decide)
    · exact absurd z.1 (by omega)
  · obtain ⟨he3, hk9⟩ := key (LF.rf e)
    have q4 := hk9 c1.1
    refine ⟨hC.B, sp_mw hI (LF.rf e) h6, fun cy ad u hm => ?_⟩
    rcases hm with ⟨z, _⟩ | ⟨z, _⟩ | ⟨_, rfl⟩
    · exact absurd z.2 (by rw [q4]; exact c1.2)
    · exact absurd c1.1 (by omega)
    · exact sp_fail1 hI hC h6 (by decide)
-- sick
def T_sick (e : Nat → Nat → Nat) (C : List Nat) (k f t j : Nat) (v : Int32) (e1 : Nat → Nat → Nat) (C1 : List Nat) : Prop := (j = 0 ∧ ((k < e 0 1 ∧ e (PB k) 0 ≤ f ∧ f ≤ t ∧ t ≤ 3600) ∧ e 0 4 < 30) ∧ v = nI (e 0 4 + 1) ∧ e1 = es (esC e k f t) 0 4 (e 0 4 + 1) ∧ C = C1) ∨ (j = 1 ∧ ¬ k < e 0 1 ∧ e = e1 ∧ C = C1) ∨ (j = 2 ∧ (k < e 0 1 ∧ ¬ (e (PB k) 0 ≤ f ∧ f ≤ t ∧ t ≤ 3600)) ∧ e = e1 ∧ C = C1) ∨ (j = 3 ∧ ((k < e 0 1 ∧ e (PB k) 0 ≤ f ∧ f ≤ t ∧ t ≤ 3600) ∧ ¬ e 0 4 < 30) ∧ e = e1 ∧ C = C1)
theorem stp_sick {k f t : Nat} (hI : INV e) (hC : CC (e 0 1) (e 0 3) C) (hT : T_sick e C k f t j v e1 C1) (h6 : ∀ c, c ≠ 6 → e' c = e1 c) : (∀ c, c < 26 → c ∈ C1) ∧ MW e' ∧ ∀ (cy : Nat → ClassId) (ad : Nat → Nat) (b : Int32) (u : WT), MP_sick cy C1 ad e' k f t b u → STP e' j v cy ad C1 b u := by
  have hn : e 0 1 = e 7 2 := hI.2.2.1.1
  have hn3 : e 0 4 = e 7 15 := hI.2.2.1.2.2.1
  have h40 := hI.1.ns
  have key : LF e e1 → (es e' 7 0 0) 7 2 = e 0 1 ∧ (es e' 7 0 0) 7 15 = e 0 4 ∧ (k < e 0 1 → (es e' 7 0 0) 8 k = e (PB k) 0) := fun hL => by
    have hr := sp_r hI hL h6
    have he : (es e' 7 0 0) 7 2 = e 0 1 := by rw [(sp_y hL h6).1.2.1, hn]
    refine ⟨he, by rw [(sp_y hL h6).1.2.2.2.1, hn3], fun hk => ?_⟩
    exact (hr.2.1 k (by omega)).1.1.1.symm
  rcases hT with ⟨rfl, c1, rfl, rfl, rfl⟩ | ⟨rfl, c1, rfl, rfl⟩ | ⟨rfl, c1, rfl, rfl⟩ | ⟨rfl, c1, rfl, rfl⟩
  · have hL : LF e (es (esC e k f t) 0 4 (e 0 4 + 1)) := ((((((LF.rf e).es (by unfold PB; omega)).es (by unfold PB; omega)).es (by unfold PB; omega)).mk _ _ _).es (by decide))
    obtain ⟨he, he3, hk9⟩ := key hL
    have q1 := hk9 c1.1.1
    have hC1 : CC (es (esC e k f t) 0 4 (e 0 4 + 1) 0 1) (es (esC e k f t) 0 4 (e 0 4 + 1) 0 3) C := by
      have e3 : esC e k f t 0 = e 0 := by
        unfold esC esC0
        rw [mkC_lo _ _ _ _ (by decide), es_off _ _ _ (by unfold PB; omega), es_off _ _ _ (by unfold PB; omega), es_off _ _ _ (by unfold PB; omega)]
      rw [es_ne _ _ (by omega), es_ne _ _ (by omega), e3]
      exact hC
    refine ⟨hC.B, sp_mw hI hL h6, fun cy ad b u hm => ?_⟩
    rcases hm with ⟨_, rfl, rfl⟩ | ⟨z, _⟩ | ⟨z, _⟩ | ⟨z, _⟩
    · exact sp_ok h6 (sim_sick hI.1 (sp_m hI hL h6) (sp_r hI hL h6) (by omega) c1.1.2.2 (by omega)) (((((MF.rf _).es (by decide)).es (by decide)).es (by decide)).es (by decide)) hC1 (by unfold skM; rw [es_ne _ _ (by omega), es_off _ _ _ (by decide), es_off _ _ _ (by decide), es_off _ _ _ (by decide)]) (by rw [he3])
    · exact absurd c1.1.1 (by omega)
    · exact absurd c1.1.2 (by rw [← q1]; exact z.2)
    · exact absurd z.2.2 (by omega)
  · obtain ⟨he, he3, hk9⟩ := key (LF.rf e)
    refine ⟨hC.B, sp_mw hI (LF.rf e) h6, fun cy ad b u hm => ?_⟩
    rcases hm with ⟨z, _, _⟩ | ⟨_, rfl⟩ | ⟨z, _⟩ | ⟨z, _⟩
    · exact absurd z.1 (by omega)
    · exact sp_fail hI hC h6 (by decide)
    · exact absurd z.1 (by omega)
    · exact absurd z.1 (by omega)
  · obtain ⟨he, he3, hk9⟩ := key (LF.rf e)
    have q1 := hk9 c1.1
    refine ⟨hC.B, sp_mw hI (LF.rf e) h6, fun cy ad b u hm => ?_⟩
    rcases hm with ⟨z, _, _⟩ | ⟨z, _⟩ | ⟨_, rfl⟩ | ⟨z, _⟩
    · exact absurd z.2.1 (by rw [q1]; exact c1.2)
    · exact absurd c1.1 (by omega)
    · exact sp_fail hI hC h6 (by decide)
    · exact absurd z.2.1 (by rw [q1]; exact c1.2)
  · obtain ⟨he, he3, hk9⟩ := key (LF.rf e)
    have q1 := hk9 c1.1.1
    refine ⟨hC.B, sp_mw hI (LF.rf e) h6, fun cy ad b u hm => ?_⟩
    rcases hm with ⟨z, _, _⟩ | ⟨z, _⟩ | ⟨z, _⟩ | ⟨_, rfl⟩
    · exact absurd z.2.2 (by omega)
    · exact absurd c1.1.1 (by omega)
    · exact absurd c1.1.2 (by rw [← q1]; exact z.2)
    · exact sp_fail hI hC h6 (by decide)
-- the days gone through
theorem sp_go (hI : INV e) (hL : LF e e1) (h6 : ∀ c, c ≠ 6 → e' c = e1 c) {k : Nat} (hk : k < e 0 1) : (es e' 7 0 0) 8 k = e (PB k) 0 ∧ e (PB k) 0 ≤ 3600 ∧ ∀ n, e (PB k) 0 + n ≤ 3601 → LD (goC e k n) (goM (es e' 7 0 0) k n) k (e (PB k) 0 + n) := by
  have hr := sp_r hI hL h6
  have hn : e 0 1 = e 7 2 := hI.2.2.1.1
  have he : (es e' 7 0 0) 7 2 = e 0 1 := by rw [(sp_y hL h6).1.2.1, hn]
  obtain ⟨p1, p2, p3, p4, p5, p6⟩ := (hr.2.1 k (by omega)).1
  have hp := hI.1.p hk
  have h8 : (es e' 7 0 0) 8 k = e (PB k) 0 := p1.1.symm
  refine ⟨h8, hp.a0.1, fun n hn9 => ?_⟩
  have h9 := LD_go hp.a0 hp.ch hp.py hp.lv ⟨p1, p2, p3⟩ n (by rw [h8]; exact hn9)
  rw [h8] at h9
  exact h9
-- payOut
def T_payOut (e : Nat → Nat → Nat) (C : List Nat) (k h j : Nat) (v : Int32) (e1 : Nat → Nat → Nat) (C1 : List Nat) : Prop := (j = 0 ∧ ((k < e 0 1 ∧ 1 ≤ h ∧ h ≤ 20000) ∧ e 0 5 < 20 ∧ h ≤ totC (goC e k (e 0 6 + 1 - e (PB k) 0))) ∧ v = nI (e 0 5) ∧ e1 = es (epC (goC e k (e 0 6 + 1 - e (PB k) 0)) k (e 0 6) h) 0 5 (e 0 5 + 1) ∧ C = C1) ∨ (j = 1 ∧ ¬ k < e 0 1 ∧ e = e1 ∧ C = C1) ∨ (j = 2 ∧ (k < e 0 1 ∧ ¬ (1 ≤ h ∧ h ≤ 20000)) ∧ e = e1 ∧ C = C1) ∨ (j = 3 ∧ ((k < e 0 1 ∧ 1 ≤ h ∧ h ≤ 20000) ∧ ¬ e 0 5 < 20) ∧ e = e1 ∧ C = C1) ∨ (j = 3 ∧ (((k < e 0 1 ∧ 1 ≤ h ∧ h ≤ 20000) ∧ e 0 5 < 20) ∧ totC (goC e k (e 0 6 + 1 - e (PB k) 0)) < h) ∧ e1 = goC e k (e 0 6 + 1 - e (PB k) 0) ∧ C = C1)
theorem sp_fail3 {cy : Nat → ClassId} {ad : Nat → Nat} {b : Int32} {k n : Nat} (hI : INV e) (hC : CC (e 0 1) (e 0 3) C) (hL : LF e e1) (hX : XF e e1) (h6 : ∀ c, c ≠ 6 → e' c = e1 c) : STP e' 3 v cy ad C b (C, ad, G cy ad (es (goM (es e' 7 0 0) k n) 7 0 3)) := by
  have ho := OffM_go (es e' 7 0 0) k n
  refine sp_end hI hC (fun c hc => ?_) ((sp_y hL h6).1.tr ((YF_offM ho).tr (YF_thr _ 3))) ((es_ne _ _ (by omega)).trans ((ho.2 1 (by decide)).trans (sp_y hL h6).2)) (es_same _ _ _ _) (fun z => absurd z (by decide)) ((es_off _ _ _ (by decide)).trans ((ho.1 6 (by decide) (by decide)).trans (es_off _ _ _ (by decide))))
  rw [es_off _ _ _ (by omega), ho.1 c (by omega) (by omega), es_off _ _ _ (by omega), h6 c (by omega)]
  exact hX c hc
theorem stp_payOut {k h : Nat} (hI : INV e) (hC : CC (e 0 1) (e 0 3) C) (hT : T_payOut e C k h j v e1 C1) (h6 : ∀ c, c ≠ 6 → e' c = e1 c) : (∀ c, c < 26 → c ∈ C1) ∧ MW e' ∧ ∀ (cy : Nat → ClassId) (ad : Nat → Nat) (b : Int32) (u : WT), MP_payOut cy C1 ad e' k h b u → STP e' j v cy ad C1 b u := by
  have hn : e 0 1 = e 7 2 := hI.2.2.1.1
  have hn5 : e 0 5 = e 7 19 := hI.2.2.1.2.2.2.1
  have hn6 : e 0 6 = e 7 1 := hI.2.2.1.2.2.2.2
  have h20 := hI.1.ny
  have htd := hI.1.td
  have key : LF e e1 → (es e' 7 0 0) 7 2 = e 0 1 ∧ (es e' 7 0 0) 7 19 = e 0 5 ∧ (es e' 7 0 0) 7 1 = e 0 6 ∧ (k < e 0 1 → (es e' 7 0 0) 8 k = e (PB k) 0 ∧ totC (goC e k (e 0 6 + 1 - e (PB k) 0)) = totM (goM (es e' 7 0 0) k (e 0 6 + 1 - e (PB k) 0))) := fun hL => by
    refine ⟨by rw [(sp_y hL h6).1.2.1, hn], by rw [(sp_y hL h6).1.2.2.2.2, hn5], by rw [(sp_y hL h6).2, hn6], fun hk => ?_⟩
    obtain ⟨q1, q2, q3⟩ := sp_go hI hL h6 hk
    have q4 := (q3 (e 0 6 + 1 - e (PB k) 0) (by omega)).1
    exact ⟨q1, LQ_tot q4.1 q4.2.2 (by omega)⟩
  rcases hT with ⟨rfl, c1, rfl, rfl, rfl⟩ | ⟨rfl, c1, rfl, rfl⟩ | ⟨rfl, c1, rfl, rfl⟩ | ⟨rfl, c1, rfl, rfl⟩ | ⟨rfl, c1, rfl, rfl⟩
  · have hLg := LF_go e k (e 0 6 + 1 - e (PB k) 0)
    have hXg : XF e (goC e k (e 0 6 + 1 - e (PB k) 0)) := XF_off (Off_go e k _)
    have hL : LF e (es (epC (goC e k (e 0 6 + 1 - e (PB k) 0)) k (e 0 6) h) 0 5 (e 0 5 + 1)) := ((((hLg.es (by unfold PB; omega)).es (by unfold PB; omega)).es (by unfold PB; omega)).es (by decide))
    obtain ⟨he, he5, he6, hk9⟩ := key hL
    obtain ⟨q1, q2⟩ := hk9 c1.1.1
    have g0 : goC e k (e 0 6 + 1 - e (PB k) 0) 0 = e 0 := hXg 0 (by decide)
    have hC1 : CC (es (epC (goC e k (e 0 6 + 1 - e (PB k) 0)) k (e 0 6) h) 0 5 (e 0 5 + 1) 0 1) (es (epC (goC e k (e 0 6 + 1 - e (PB k) 0)) k (e 0 6) h) 0 5 (e 0 5 + 1) 0 3) C := by
      have e3 : epC (goC e k (e 0 6 + 1 - e (PB k) 0)) k (e 0 6) h 0 = e 0 := by
        unfold epC
        rw [es_off _ _ _ (by unfold PB; omega), es_off _ _ _ (by unfold PB; omega), es_off _ _ _ (by unfold PB; omega), g0]
      rw [es_ne _ _ (by omega), es_ne _ _ (by omega), e3]
      exact hC
    refine ⟨hC.B, sp_mw hI hL h6, fun cy ad b u hm => ?_⟩
    rcases hm with ⟨_, rfl, rfl⟩ | ⟨z, _⟩ | ⟨z, _⟩ | ⟨z, _⟩
    · rw [he6, q1]
      have ho := OffM_go (es e' 7 0 0) k (e 0 6 + 1 - e (PB k) 0)
      have hs := sim_pay (h := h) (hI.1.fr hXg) ((sp_m hI hL h6).off ho) (((sp_r hI hL h6).fr hXg (YF_offM ho) (ho.2 1 (by decide)))) (k := k) (by rw [ho.2 2 (by decide)]; omega) c1.1.2.2 (by rw [ho.2 19 (by decide)]; omega)
      rw [g0] at hs
      exact sp_ok h6 hs ((MF_go _ _ _).tr (((((MF.rf _).es (by decide)).es (by decide)).es (by decide)).es (by decide))) hC1 (by unfold pyM; rw [es_ne _ _ (by omega), es_off _ _ _ (by decide), es_off _ _ _ (by decide), es_off _ _ _ (by decide), ho.2 0 (by decide)]) (by rw [he5])
    · exact absurd c1.1.1 (by omega)
    · exact absurd c1.1.2 z.2
    · rcases z.2.2 with z9 | z9
      · exact absurd z9 (by omega)
      · rw [he6, q1, ← q2] at z9
        exact absurd z9 (by omega)
  · obtain ⟨he, he5, he6, hk9⟩ := key (LF.rf e)
    refine ⟨hC.B, sp_mw hI (LF.rf e) h6, fun cy ad b u hm => ?_⟩
    rcases hm with ⟨z, _, _⟩ | ⟨_, rfl⟩ | ⟨z, _⟩ | ⟨z, _⟩
    · exact absurd z.1 (by omega)
    · exact sp_fail hI hC h6 (by decide)
    · exact absurd z.1 (by omega)
    · exact absurd z.1 (by omega)
  · obtain ⟨he, he5, he6, hk9⟩ := key (LF.rf e)
    refine ⟨hC.B, sp_mw hI (LF.rf e) h6, fun cy ad b u hm => ?_⟩
    rcases hm with ⟨z, _, _⟩ | ⟨z, _⟩ | ⟨_, rfl⟩ | ⟨z, _⟩
    · exact absurd z.2.1 c1.2
    · exact absurd c1.1 (by omega)
    · exact sp_fail hI hC h6 (by decide)
    · exact absurd z.2.1 c1.2
  · obtain ⟨he, he5, he6, hk9⟩ := key (LF.rf e)
    refine ⟨hC.B, sp_mw hI (LF.rf e) h6, fun cy ad b u hm => ?_⟩
    rcases hm with ⟨z, _, _⟩ | ⟨z, _⟩ | ⟨z, _⟩ | ⟨_, rfl⟩
    · exact absurd z.2.2.1 (by omega)
    · exact absurd c1.1.1 (by omega)
    · exact absurd c1.1.2 z.2
    · exact sp_fail3 hI hC (LF.rf e) (XF.rf e) h6
  · have hLg := LF_go e k (e 0 6 + 1 - e (PB k) 0)
    have hXg : XF e (goC e k (e 0 6 + 1 - e (PB k) 0)) := XF_off (Off_go e k _)
    obtain ⟨he, he5, he6, hk9⟩ := key hLg
    obtain ⟨q1, q2⟩ := hk9 c1.1.1.1
    refine ⟨hC.B, sp_mw hI hLg h6, fun cy ad b u hm => ?_⟩
    rcases hm with ⟨z, _, _⟩ | ⟨z, _⟩ | ⟨z, _⟩ | ⟨_, rfl⟩
    · have z9 := z.2.2.2
      rw [he6, q1, ← q2] at z9
      exact absurd z9 (by omega)
    · exact absurd c1.1.1.1 (by omega)
    · exact absurd c1.1.1.2 z.2
    · exact sp_fail3 hI hC hLg hXg h6
-- pass
def T_pass (e : Nat → Nat → Nat) (C : List Nat) (d j : Nat) (v : Int32) (e1 : Nat → Nat → Nat) (C1 : List Nat) : Prop := (j = 0 ∧ ((1 ≤ d ∧ d ≤ 400) ∧ e 0 6 + d ≤ 3600) ∧ v = nI (e 0 6 + d) ∧ e1 = es e 0 6 (e 0 6 + d) ∧ C = C1) ∨ (j = 1 ∧ ¬ (1 ≤ d ∧ d ≤ 400) ∧ e = e1 ∧ C = C1) ∨ (j = 2 ∧ ((1 ≤ d ∧ d ≤ 400) ∧ ¬ e 0 6 + d ≤ 3600) ∧ e = e1 ∧ C = C1)
theorem stp_pass {d : Nat} (hI : INV e) (hC : CC (e 0 1) (e 0 3) C) (hT : T_pass e C d j v e1 C1) (h6 : ∀ c, c ≠ 6 → e' c = e1 c) : (∀ c, c < 26 → c ∈ C1) ∧ MW e' ∧ ∀ (cy : Nat → ClassId) (ad : Nat → Nat) (b : Int32) (u : WT), MP_pass cy C1 ad e' d b u → STP e' j v cy ad C1 b u := by
  have hn6 : e 0 6 = e 7 1 := hI.2.2.1.2.2.2.2
  have key : LF e e1 → (es e' 7 0 0) 7 1 = e 0 6 := fun hL => by rw [(sp_y hL h6).2, hn6]
  rcases hT with ⟨rfl, c1, rfl, rfl, rfl⟩ | ⟨rfl, c1, rfl, rfl⟩ | ⟨rfl, c1, rfl, rfl⟩
  · have hL : LF e (es e 0 6 (e 0 6 + d)) := (LF.rf e).es (by decide)
    have he6 := key hL
    have hC1 : CC (es e 0 6 (e 0 6 + d) 0 1) (es e 0 6 (e 0 6 + d) 0 3) C := by
      rw [es_ne _ _ (by omega), es_ne _ _ (by omega)]
      exact hC
    refine ⟨hC.B, sp_mw hI hL h6, fun cy ad b u hm => ?_⟩
    rcases hm with ⟨_, rfl, rfl⟩ | ⟨z, _⟩ | ⟨z, _⟩
    · exact sp_ok h6 (sim_pass hI.1 (sp_m hI hL h6) (sp_r hI hL h6) c1.2) ((MF.rf _).es (by decide)) hC1 (es_ne _ _ (by omega)) (by rw [he6])
    · exact absurd c1.1 z
    · exact absurd z.2 (by rw [he6]; omega)
  · refine ⟨hC.B, sp_mw hI (LF.rf e) h6, fun cy ad b u hm => ?_⟩
    rcases hm with ⟨z, _, _⟩ | ⟨_, rfl⟩ | ⟨z, _⟩
    · exact absurd z.1 c1
    · exact sp_fail hI hC h6 (by decide)
    · exact absurd z.1 c1
  · have he6 := key (LF.rf e)
    refine ⟨hC.B, sp_mw hI (LF.rf e) h6, fun cy ad b u hm => ?_⟩
    rcases hm with ⟨z, _, _⟩ | ⟨z, _⟩ | ⟨_, rfl⟩
    · exact absurd z.2 (by rw [he6]; exact c1.2)
    · exact absurd c1.1 z
    · exact sp_fail hI hC h6 (by decide)
-- workingDays
def T_workingDays (e : Nat → Nat → Nat) (C : List Nat) (f t j : Nat) (v : Int32) (e1 : Nat → Nat → Nat) (C1 : List Nat) : Prop := (j = 0 ∧ (0 ≤ f ∧ f ≤ t ∧ t ≤ 3600) ∧ v = nI ((t + 1) / 7 * 5 + min ((t + 1) % 7) 5 - (f / 7 * 5 + min (f % 7) 5)) ∧ e = e1 ∧ C = C1) ∨ (j = 1 ∧ ¬ (0 ≤ f ∧ f ≤ t ∧ t ≤ 3600) ∧ e = e1 ∧ C = C1)
theorem sp_same {cy : Nat → ClassId} {ad : Nat → Nat} {b : Int32} (hI : INV e) (hC : CC (e 0 1) (e 0 3) C) (h6 : ∀ c, c ≠ 6 → e' c = e c) (hb : b = v) : STP e' 0 v cy ad C b (C, ad, G cy ad (es e' 7 0 0)) := by
  refine sp_end hI hC (fun c hc => ?_) (sp_y (LF.rf e) h6).1 (sp_y (LF.rf e) h6).2 (es_same _ _ _ _) (fun _ => hb) (es_off _ _ _ (by decide))
  rw [es_off _ _ _ (by omega)]
  exact h6 c (by omega)
theorem stp_workingDays {f t : Nat} (hI : INV e) (hC : CC (e 0 1) (e 0 3) C) (hT : T_workingDays e C f t j v e1 C1) (h6 : ∀ c, c ≠ 6 → e' c = e1 c) : (∀ c, c < 26 → c ∈ C1) ∧ MW e' ∧ ∀ (cy : Nat → ClassId) (ad : Nat → Nat) (b : Int32) (u : WT), MP_workingDays cy C1 ad e' f t b u → STP e' j v cy ad C1 b u := by
  rcases hT with ⟨rfl, c1, rfl, rfl, rfl⟩ | ⟨rfl, c1, rfl, rfl⟩
  · refine ⟨hC.B, sp_mw hI (LF.rf e) h6, fun cy ad b u hm => ?_⟩
    rcases hm with ⟨z, rfl, rfl⟩ | ⟨z, _⟩
    · refine sp_same hI hC h6 (congrArg nI ?_)
      have h9 := wkN_is f (t + 1 - f)
      rw [show f + (t + 1 - f) = t + 1 by omega] at h9
      omega
    · exact absurd ⟨by omega, c1.2⟩ z
  · refine ⟨hC.B, sp_mw hI (LF.rf e) h6, fun cy ad b u hm => ?_⟩
    rcases hm with ⟨z, _, _⟩ | ⟨_, rfl⟩
    · exact absurd ⟨by omega, z.2⟩ c1
    · exact sp_fail hI hC h6 (by decide)
-- questions about a person
def TQ (e : Nat → Nat → Nat) (C : List Nat) (k : Nat) (P : Prop) (V : Int32) (E1 : Nat → Nat → Nat) (j : Nat) (v : Int32) (e1 : Nat → Nat → Nat) (C1 : List Nat) : Prop := (j = 0 ∧ (k < e 0 1 ∧ P) ∧ v = V ∧ e1 = E1 ∧ C = C1) ∨ (j = 1 ∧ ¬ k < e 0 1 ∧ e = e1 ∧ C = C1) ∨ (j = 2 ∧ (k < e 0 1 ∧ ¬ P) ∧ e = e1 ∧ C = C1)
theorem stp_hours {k d : Nat} (hI : INV e) (hC : CC (e 0 1) (e 0 3) C) (hT : TQ e C k (e (PB k) 0 ≤ d ∧ d ≤ 3600) (nI (hrC e k d)) e j v e1 C1) (h6 : ∀ c, c ≠ 6 → e' c = e1 c) : (∀ c, c < 26 → c ∈ C1) ∧ MW e' ∧ ∀ (cy : Nat → ClassId) (ad : Nat → Nat) (b : Int32) (u : WT), MP_hours cy C1 ad e' k d b u → STP e' j v cy ad C1 b u := by
  have hn : e 0 1 = e 7 2 := hI.2.2.1.1
  have key : (∀ c, c ≠ 6 → e' c = e c) → (es e' 7 0 0) 7 2 = e 0 1 ∧ (k < e 0 1 → (es e' 7 0 0) 8 k = e (PB k) 0 ∧ hrC e k d = hrM (es e' 7 0 0) k d) := fun h6 => by
    have hr := sp_r hI (LF.rf e) h6
    have he : (es e' 7 0 0) 7 2 = e 0 1 := by rw [(sp_y (LF.rf e) h6).1.2.1, hn]
    refine ⟨he, fun hk => ?_⟩
    obtain ⟨p1, p2, p3, p4, p5, p6⟩ := (hr.2.1 k (by omega)).1
    exact ⟨p1.1.symm, p1.hr d⟩
  rcases hT with ⟨rfl, c1, rfl, h1, rfl⟩ | ⟨rfl, c1, rfl, rfl⟩ | ⟨rfl, c1, rfl, rfl⟩
  · rw [h1] at h6
    obtain ⟨he, hk9⟩ := key h6
    obtain ⟨q1, q2⟩ := hk9 c1.1
    refine ⟨hC.B, sp_mw hI (LF.rf e) h6, fun cy ad b u hm => ?_⟩
    rcases hm with ⟨_, rfl, rfl⟩ | ⟨z, _⟩ | ⟨z, _⟩
    · exact sp_same hI hC h6 (by rw [q2])
    · exact absurd c1.1 (by omega)
    · exact absurd z.2 (by rw [q1]; exact fun w => w c1.2)
  · obtain ⟨he, hk9⟩ := key h6
    refine ⟨hC.B, sp_mw hI (LF.rf e) h6, fun cy ad b u hm => ?_⟩
    rcases hm with ⟨z, _, _⟩ | ⟨_, rfl⟩ | ⟨z, _⟩
    · exact absurd z.1 (by omega)
    · exact sp_fail hI hC h6 (by decide)
    · exact absurd z.1 (by omega)
  · obtain ⟨he, hk9⟩ := key h6
    obtain ⟨q1, q2⟩ := hk9 c1.1
    refine ⟨hC.B, sp_mw hI (LF.rf e) h6, fun cy ad b u hm => ?_⟩
    rcases hm with ⟨z, _, _⟩ | ⟨z, _⟩ | ⟨_, rfl⟩
    · exact absurd z.2 (by rw [q1]; exact c1.2)
    · exact absurd c1.1 (by omega)
    · exact sp_fail hI hC h6 (by decide)
theorem stp_onLeave {k d : Nat} (hI : INV e) (hC : CC (e 0 1) (e 0 3) C) (hT : TQ e C k (d ≤ 3600) (nI (e (PB k + 8) d)) e j v e1 C1) (h6 : ∀ c, c ≠ 6 → e' c = e1 c) : (∀ c, c < 26 → c ∈ C1) ∧ MW e' ∧ ∀ (cy : Nat → ClassId) (ad : Nat → Nat) (b : Int32) (u : WT), MP_onLeave cy C1 ad e' k d b u → STP e' j v cy ad C1 b u := by
  have hn : e 0 1 = e 7 2 := hI.2.2.1.1
  have key : (∀ c, c ≠ 6 → e' c = e c) → e' 7 2 = e 0 1 ∧ (k < e 0 1 → d ≤ 3600 → e (PB k + 8) d = lvM (es e' 7 0 0) k d) := fun h6 => by
    have hr := sp_r hI (LF.rf e) h6
    have he : e' 7 2 = e 0 1 := by rw [(sp_yf (LF.rf e) h6).1.2.1, hn]
    have he2 : (es e' 7 0 0) 7 2 = e 0 1 := by rw [(sp_y (LF.rf e) h6).1.2.1, hn]
    refine ⟨he, fun hk hd => ?_⟩
    obtain ⟨p1, p2, p3, p4, p5, p6⟩ := (hr.2.1 k (by omega)).1
    exact p2 d hd
  rcases hT with ⟨rfl, c1, rfl, h1, rfl⟩ | ⟨rfl, c1, rfl, rfl⟩ | ⟨rfl, c1, rfl, rfl⟩
  · rw [h1] at h6
    obtain ⟨he, hk9⟩ := key h6
    refine ⟨hC.B, sp_mw hI (LF.rf e) h6, fun cy ad b u hm => ?_⟩
    rcases hm with ⟨_, rfl, rfl⟩ | ⟨z, _⟩
    · exact sp_same hI hC h6 (by rw [hk9 c1.1 c1.2])
    · exact absurd ⟨by omega, c1.2⟩ z
  · obtain ⟨he, hk9⟩ := key h6
    refine ⟨hC.B, sp_mw hI (LF.rf e) h6, fun cy ad b u hm => ?_⟩
    rcases hm with ⟨z, _, _⟩ | ⟨_, rfl⟩
    · exact absurd z.1 (by omega)
    · rw [if_neg (show ¬ k < e' 7 2 by omega)]
      exact sp_fail1 hI hC h6 (by decide)
  · obtain ⟨he, hk9⟩ := key h6
    refine ⟨hC.B, sp_mw hI (LF.rf e) h6, fun cy ad b u hm => ?_⟩
    rcases hm with ⟨z, _, _⟩ | ⟨_, rfl⟩
    · exact absurd z.2 c1.2
    · rw [if_pos (show k < e' 7 2 by omega)]
      exact sp_fail1 hI hC h6 (by decide)
/-- a question behind the days gone through -/
theorem stp_q {k d : Nat} {Vf Ff : (Nat → Nat → Nat) → Int32} (hVF : ∀ (x y : Nat → Nat → Nat) (p D : Nat), D ≤ 3601 → LD x y p D → Ff y = Vf x) (hI : INV e) (hC : CC (e 0 1) (e 0 3) C) (hT : TQ e C k (d ≤ 3600) (Vf (goC e k (d + 1 - e (PB k) 0))) (goC e k (d + 1 - e (PB k) 0)) j v e1 C1) (h6 : ∀ c, c ≠ 6 → e' c = e1 c) : (∀ c, c < 26 → c ∈ C1) ∧ MW e' ∧ ∀ (cy : Nat → ClassId) (ad : Nat → Nat) (b : Int32) (u : WT), ((k < e' 7 2 ∧ d ≤ 3600 → b = Ff (goM (es e' 7 0 0) k (d + 1 - e' 8 k))) ∧ u = (C1, ad, G cy ad (gnM e' k d))) → STP e' j v cy ad C1 b u := by
  have hn : e 0 1 = e 7 2 := hI.2.2.1.1
  rcases hT with ⟨rfl, c1, rfl, rfl, rfl⟩ | ⟨rfl, c1, rfl, rfl⟩ | ⟨rfl, c1, rfl, rfl⟩
  · have hL := LF_go e k (d + 1 - e (PB k) 0)
    have hX : XF e (goC e k (d + 1 - e (PB k) 0)) := XF_off (Off_go e k _)
    have he : e' 7 2 = e 0 1 := by rw [(sp_yf hL h6).1.2.1, hn]
    obtain ⟨q1, q2, q3⟩ := sp_go hI hL h6 c1.1
    have q5 : e' 8 k = e (PB k) 0 := by rw [← q1, es_off _ _ _ (by decide)]
    refine ⟨hC.B, sp_mw hI hL h6, fun cy ad b u hm => ?_⟩
    obtain ⟨hb, rfl⟩ := hm
    have hb := hb ⟨by omega, c1.2⟩
    rw [gn_1 (show k < e' 7 2 ∧ d ≤ 3600 from ⟨by omega, c1.2⟩), q5]
    rw [q5] at hb
    have ho := OffM_go (es e' 7 0 0) k (d + 1 - e (PB k) 0)
    have h9 : Ff (goM (es e' 7 0 0) k (d + 1 - e (PB k) 0)) = Vf (goC e k (d + 1 - e (PB k) 0)) := by
      by_cases hz : e (PB k) 0 ≤ d
      · exact hVF _ _ _ _ (by omega) (q3 (d + 1 - e (PB k) 0) (by omega))
      · rw [show d + 1 - e (PB k) 0 = 0 by omega]
        exact hVF _ _ _ _ (by omega) (q3 0 (by omega))
    refine sp_end hI hC (fun c hc => ?_) ((sp_y hL h6).1.tr (YF_offM ho)) ((ho.2 1 (by decide)).trans (sp_y hL h6).2) ((ho.2 0 (by decide)).trans (es_same _ _ _ _)) (fun _ => hb.trans h9) ((ho.1 6 (by decide) (by decide)).trans (es_off _ _ _ (by decide)))
    rw [ho.1 c (by omega) (by omega), es_off _ _ _ (by omega), h6 c (by omega)]
    exact hX c hc
  · have he : e' 7 2 = e 0 1 := by rw [(sp_yf (LF.rf e) h6).1.2.1, hn]
    refine ⟨hC.B, sp_mw hI (LF.rf e) h6, fun cy ad b u hm => ?_⟩
    obtain ⟨hb, rfl⟩ := hm
    rw [gn_0 (show ¬ (k < e' 7 2 ∧ d ≤ 3600) from fun z => absurd z.1 (by omega)), if_neg (show ¬ k < e' 7 2 by omega)]
    exact sp_fail1 hI hC h6 (by decide)
  · have he : e' 7 2 = e 0 1 := by rw [(sp_yf (LF.rf e) h6).1.2.1, hn]
    refine ⟨hC.B, sp_mw hI (LF.rf e) h6, fun cy ad b u hm => ?_⟩
    obtain ⟨hb, rfl⟩ := hm
    rw [gn_0 (show ¬ (k < e' 7 2 ∧ d ≤ 3600) from fun z => c1.2 z.2), if_pos (show k < e' 7 2 by omega)]
    exact sp_fail1 hI hC h6 (by decide)
theorem stp_balance {k d : Nat} (hI : INV e) (hC : CC (e 0 1) (e 0 3) C) (hT : TQ e C k (d ≤ 3600) (nI (totC (goC e k (d + 1 - e (PB k) 0))) - nI ((goC e k (d + 1 - e (PB k) 0)) 3 5)) (goC e k (d + 1 - e (PB k) 0)) j v e1 C1) (h6 : ∀ c, c ≠ 6 → e' c = e1 c) : (∀ c, c < 26 → c ∈ C1) ∧ MW e' ∧ ∀ (cy : Nat → ClassId) (ad : Nat → Nat) (b : Int32) (u : WT), MP_balance cy C1 ad e' k d b u → STP e' j v cy ad C1 b u :=
  stp_q (Vf := fun x => nI (totC x) - nI (x 3 5)) (Ff := fun y => nI (totM y) - nI (y 7 24)) (fun x y p D hD h => by
    show nI (totM y) - nI (y 7 24) = nI (totC x) - nI (x 3 5)
    rw [LQ_tot h.1.1 h.1.2.2 hD, h.1.2.1.1]) hI hC hT h6
theorem stp_balanceBySums {k d : Nat} (hI : INV e) (hC : CC (e 0 1) (e 0 3) C) (hT : TQ e C k (d ≤ 3600) (nI ((goC e k (d + 1 - e (PB k) 0)) 3 6) - nI ((goC e k (d + 1 - e (PB k) 0)) 3 7) - nI ((goC e k (d + 1 - e (PB k) 0)) 3 8) - nI ((goC e k (d + 1 - e (PB k) 0)) 3 9)) (goC e k (d + 1 - e (PB k) 0)) j v e1 C1) (h6 : ∀ c, c ≠ 6 → e' c = e1 c) : (∀ c, c < 26 → c ∈ C1) ∧ MW e' ∧ ∀ (cy : Nat → ClassId) (ad : Nat → Nat) (b : Int32) (u : WT), MP_balanceBySums cy C1 ad e' k d b u → STP e' j v cy ad C1 b u :=
  stp_q (Vf := fun x => nI (x 3 6) - nI (x 3 7) - nI (x 3 8) - nI (x 3 9)) (Ff := fun y => nI (y 7 25) - nI (y 7 26) - nI (y 7 27) - nI (y 7 28)) (fun x y p D hD h => by
    show nI (y 7 25) - nI (y 7 26) - nI (y 7 27) - nI (y 7 28) = nI (x 3 6) - nI (x 3 7) - nI (x 3 8) - nI (x 3 9)
    rw [h.1.2.1.2.1, h.1.2.1.2.2.1, h.1.2.1.2.2.2.1, h.1.2.1.2.2.2.2.1]) hI hC hT h6
theorem stp_earned {k d : Nat} (hI : INV e) (hC : CC (e 0 1) (e 0 3) C) (hT : TQ e C k (d ≤ 3600) (nI ((goC e k (d + 1 - e (PB k) 0)) 3 6)) (goC e k (d + 1 - e (PB k) 0)) j v e1 C1) (h6 : ∀ c, c ≠ 6 → e' c = e1 c) : (∀ c, c < 26 → c ∈ C1) ∧ MW e' ∧ ∀ (cy : Nat → ClassId) (ad : Nat → Nat) (b : Int32) (u : WT), MP_earned cy C1 ad e' k d b u → STP e' j v cy ad C1 b u :=
  stp_q (Vf := fun x => nI (x 3 6)) (Ff := fun y => nI (y 7 25)) (fun x y p D hD h => by
    show nI (y 7 25) = nI (x 3 6)
    rw [h.1.2.1.2.1]) hI hC hT h6
theorem stp_taken {k d : Nat} (hI : INV e) (hC : CC (e 0 1) (e 0 3) C) (hT : TQ e C k (d ≤ 3600) (nI ((goC e k (d + 1 - e (PB k) 0)) 3 7)) (goC e k (d + 1 - e (PB k) 0)) j v e1 C1) (h6 : ∀ c, c ≠ 6 → e' c = e1 c) : (∀ c, c < 26 → c ∈ C1) ∧ MW e' ∧ ∀ (cy : Nat → ClassId) (ad : Nat → Nat) (b : Int32) (u : WT), MP_taken cy C1 ad e' k d b u → STP e' j v cy ad C1 b u :=
  stp_q (Vf := fun x => nI (x 3 7)) (Ff := fun y => nI (y 7 26)) (fun x y p D hD h => by
    show nI (y 7 26) = nI (x 3 7)
    rw [h.1.2.1.2.2.1]) hI hC hT h6
theorem stp_expired {k d : Nat} (hI : INV e) (hC : CC (e 0 1) (e 0 3) C) (hT : TQ e C k (d ≤ 3600) (nI ((goC e k (d + 1 - e (PB k) 0)) 3 8)) (goC e k (d + 1 - e (PB k) 0)) j v e1 C1) (h6 : ∀ c, c ≠ 6 → e' c = e1 c) : (∀ c, c < 26 → c ∈ C1) ∧ MW e' ∧ ∀ (cy : Nat → ClassId) (ad : Nat → Nat) (b : Int32) (u : WT), MP_expired cy C1 ad e' k d b u → STP e' j v cy ad C1 b u :=
  stp_q (Vf := fun x => nI (x 3 8)) (Ff := fun y => nI (y 7 27)) (fun x y p D hD h => by
    show nI (y 7 27) = nI (x 3 8)
    rw [h.1.2.1.2.2.2.1]) hI hC hT h6
theorem stp_paid {k d : Nat} (hI : INV e) (hC : CC (e 0 1) (e 0 3) C) (hT : TQ e C k (d ≤ 3600) (nI ((goC e k (d + 1 - e (PB k) 0)) 3 9)) (goC e k (d + 1 - e (PB k) 0)) j v e1 C1) (h6 : ∀ c, c ≠ 6 → e' c = e1 c) : (∀ c, c < 26 → c ∈ C1) ∧ MW e' ∧ ∀ (cy : Nat → ClassId) (ad : Nat → Nat) (b : Int32) (u : WT), MP_paid cy C1 ad e' k d b u → STP e' j v cy ad C1 b u :=
  stp_q (Vf := fun x => nI (x 3 9)) (Ff := fun y => nI (y 7 28)) (fun x y p D hD h => by
    show nI (y 7 28) = nI (x 3 9)
    rw [h.1.2.1.2.2.2.2.1]) hI hC hT h6
theorem stp_borrowed {k d : Nat} (hI : INV e) (hC : CC (e 0 1) (e 0 3) C) (hT : TQ e C k (d ≤ 3600) (nI ((goC e k (d + 1 - e (PB k) 0)) 3 5)) (goC e k (d + 1 - e (PB k) 0)) j v e1 C1) (h6 : ∀ c, c ≠ 6 → e' c = e1 c) : (∀ c, c < 26 → c ∈ C1) ∧ MW e' ∧ ∀ (cy : Nat → ClassId) (ad : Nat → Nat) (b : Int32) (u : WT), MP_borrowed cy C1 ad e' k d b u → STP e' j v cy ad C1 b u :=
  stp_q (Vf := fun x => nI (x 3 5)) (Ff := fun y => nI (y 7 24)) (fun x y p D hD h => by
    show nI (y 7 24) = nI (x 3 5)
    rw [h.1.2.1.1]) hI hC hT h6
theorem stp_unpaid {k d : Nat} (hI : INV e) (hC : CC (e 0 1) (e 0 3) C) (hT : TQ e C k (d ≤ 3600) (nI ((goC e k (d + 1 - e (PB k) 0)) 3 10)) (goC e k (d + 1 - e (PB k) 0)) j v e1 C1) (h6 : ∀ c, c ≠ 6 → e' c = e1 c) : (∀ c, c < 26 → c ∈ C1) ∧ MW e' ∧ ∀ (cy : Nat → ClassId) (ad : Nat → Nat) (b : Int32) (u : WT), MP_unpaid cy C1 ad e' k d b u → STP e' j v cy ad C1 b u :=
  stp_q (Vf := fun x => nI (x 3 10)) (Ff := fun y => nI (y 7 29)) (fun x y p D hD h => by
    show nI (y 7 29) = nI (x 3 10)
    rw [h.1.2.1.2.2.2.2.2]) hI hC hT h6
theorem stp_nextExpiry {k d : Nat} (hI : INV e) (hC : CC (e 0 1) (e 0 3) C) (hT : TQ e C k (d ≤ 3600) (fxC (goC e k (d + 1 - e (PB k) 0))) (goC e k (d + 1 - e (PB k) 0)) j v e1 C1) (h6 : ∀ c, c ≠ 6 → e' c = e1 c) : (∀ c, c < 26 → c ∈ C1) ∧ MW e' ∧ ∀ (cy : Nat → ClassId) (ad : Nat → Nat) (b : Int32) (u : WT), MP_nextExpiry cy C1 ad e' k d b u → STP e' j v cy ad C1 b u :=
  stp_q (Vf := fun x => fxC x) (Ff := fun y => fxR y 11) (fun x y p D hD h => (LQ_fx h.1.1 h.1.2.2 hD).symm) hI hC hT h6
end
