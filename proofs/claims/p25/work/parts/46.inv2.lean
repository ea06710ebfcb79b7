/-! ===== each call of the law keeps what holds ===== -/
/-- class and rows behind a call: x holds both -/
theorem IV.st {e1 x y : Nat → Nat → Nat} (h : CW x ∧ MW y ∧ REL x y) (hy : y = VV e1) (hx : ∀ c, 6 ≤ c → c ≤ 10 → x c = e1 c) (hl : LB e1) : IV x := by
  have e9 : VV x = y := (VV_eq hx).trans hy.symm
  exact ⟨h.1, by rw [e9]; exact h.2.1, by rw [e9]; exact h.2.2, hl.fr (hx 6 (by decide) (by decide))⟩
/-- the law's rows alone are others -/
def OffR (e e' : Nat → Nat → Nat) : Prop := ∀ c, c < 6 ∨ 11 ≤ c → e' c = e c
theorem OffR.rf (e : Nat → Nat → Nat) : OffR e e := fun _ _ => rfl
theorem OffR.es {e e1 : Nat → Nat → Nat} (h : OffR e e1) {c k v : Nat} (hc : 6 ≤ c ∧ c ≤ 10) : OffR e (es e1 c k v) := fun c' a => (es_off e1 k v (by omega)).trans (h c' a)
theorem OffR.xf {e e' : Nat → Nat → Nat} (h : OffR e e') : XF e e' := fun c hc => h c (by omega)
theorem mkC_mid (e : Nat → Nat → Nat) (p f t : Nat) : ∀ c, 6 ≤ c → c ≤ 10 → mkC e p f t c = e c := fun c _ b => mkC_lo e p f t (by omega)
theorem esR_mid (e : Nat → Nat → Nat) (q i v : Nat) : ∀ c, 6 ≤ c → c ≤ 10 → es e (RB q) i v c = e c := fun c _ b => es_off _ _ _ (by unfold RB; omega)
-- request
def rqL (e : Nat → Nat → Nat) (n k f t h : Nat) : Nat → Nat → Nat := es (es (es (es (es (es e 8 (5 * n) k) 8 (5 * n + 1) f) 8 (5 * n + 2) t) 8 (5 * n + 3) h) 8 (5 * n + 4) 0) 6 2 (n + 1)
theorem OffR_rq (e : Nat → Nat → Nat) (n k f t h : Nat) : OffR e (rqL e n k f t h) := ((((((OffR.rf e).es (by omega)).es (by omega)).es (by omega)).es (by omega)).es (by omega)).es (by omega)
theorem VV_rq (e : Nat → Nat → Nat) (k f t h : Nat) : VV (rqL e (VV e 7 9) k f t h) = rqM (VV e) k f t h := by
  unfold rqL rqM
  rw [VV_es6 _ (j := 2) (by decide), VV_es8 _ (j := 4) (by decide), VV_es8 _ (j := 3) (by decide), VV_es8 _ (j := 2) (by decide), VV_es8 _ (j := 1) (by decide), show (5 * VV e 7 9) = 5 * VV e 7 9 + 0 from rfl, VV_es8 _ (j := 0) (by decide)]
  rfl
theorem reqC_mid (e : Nat → Nat → Nat) (k f t h : Nat) : ∀ c, 6 ≤ c → c ≤ 10 → reqC e k f t h c = e c := fun c a b => by
  unfold reqC
  rw [es_off _ _ _ (by omega), es_off _ _ _ (by omega), erC_lo _ _ _ (by omega), anR_off _ _ _ _ _ (by unfold RB; omega)]
theorem reqC_0 (e : Nat → Nat → Nat) (k f t h : Nat) : reqC e k f t h 0 1 = e 0 1 ∧ reqC e k f t h 0 3 = e 0 3 + 1 := by
  unfold reqC
  refine ⟨?_, es_same _ _ _ _⟩
  rw [es_ne _ _ (by omega), es_ne _ _ (by omega), erC_lo _ _ _ (by omega), anR_off _ _ _ _ _ (by unfold RB; omega)]
theorem IV_rq {e : Nat → Nat → Nat} {k f t h : Nat} (hI : IV e) (hk : k < e 6 1) (hft : VV e 8 k ≤ f ∧ f ≤ t ∧ t ≤ 3600) (hh : h ≤ 1) (hn : VV e 7 9 < 12) : IV (reqC (rqL e (VV e 7 9) k f t h) k f t h) := by
  have o := OffR_rq e (VV e 7 9) k f t h
  have hs := sim_request (hI.1.fr o.xf) hI.2.1 (hI.2.2.1.x o.xf) (k := k) (f := f) (t := t) (h := h) hk hft hh (Nat.lt_trans hn (by decide))
  refine IV.st hs (VV_rq e k f t h).symm (reqC_mid _ k f t h) ?_
  obtain ⟨l0, l1, l2, l3, l4⟩ := hI.2.2.2
  unfold LB rqL
  simp [es]
  exact ⟨l0, l1, by have : VV e 7 9 = e 6 2 := rfl; omega, l3, l4⟩
-- change
def chL (e : Nat → Nat → Nat) (k f t : Nat) : Nat → Nat → Nat := es (es e 8 (5 * k + 1) f) 8 (5 * k + 2) t
theorem OffR_ch (e : Nat → Nat → Nat) (k f t : Nat) : OffR e (chL e k f t) := ((OffR.rf e).es (by omega)).es (by omega)
theorem VV_ch (e : Nat → Nat → Nat) (k f t : Nat) : VV (chL e k f t) = chM (VV e) k f t := by
  unfold chL chM
  rw [VV_es8 _ (j := 2) (by decide), VV_es8 _ (j := 1) (by decide)]
def chC (e : Nat → Nat → Nat) (k f t : Nat) : Nat → Nat → Nat := mkC (mkC (es (es e (RB k) 2 f) (RB k) 3 t) (e (RB k) 0) (e (RB k) 2) (e (RB k) 3 + 1)) (e (RB k) 0) f (t + 1)
theorem chC_mid (e : Nat → Nat → Nat) (k f t : Nat) : ∀ c, 6 ≤ c → c ≤ 10 → chC e k f t c = e c := fun c a b => by
  unfold chC
  rw [mkC_mid _ _ _ _ c a b, mkC_mid _ _ _ _ c a b, esR_mid _ _ _ _ c a b, esR_mid _ _ _ _ c a b]
theorem chC_0 (e : Nat → Nat → Nat) (k f t : Nat) : chC e k f t 0 = e 0 := by
  unfold chC
  rw [mkC_lo _ _ _ _ (by decide), mkC_lo _ _ _ _ (by decide), es_off _ _ _ (by unfold RB; omega), es_off _ _ _ (by unfold RB; omega)]
theorem IV_ch {e : Nat → Nat → Nat} {k f t : Nat} (hI : IV e) (hk : k < VV e 7 9) (hft : VV e 8 (VV e 14 k) ≤ f ∧ f ≤ t ∧ t ≤ 3600) : IV (chC (chL e k f t) k f t) := by
  have o := OffR_ch e k f t
  have hs := sim_change (hI.1.fr o.xf) hI.2.1 (hI.2.2.1.x o.xf) (k := k) (f := f) (t := t) hk hft
  exact IV.st hs (VV_ch e k f t).symm (chC_mid _ k f t) (hI.2.2.2.fr (by unfold chL; rw [es_off _ _ _ (by decide), es_off _ _ _ (by decide)]))
-- cancel
def cnL (e : Nat → Nat → Nat) (k : Nat) : Nat → Nat → Nat := es e 8 (5 * k + 4) 1
theorem OffR_cn (e : Nat → Nat → Nat) (k : Nat) : OffR e (cnL e k) := (OffR.rf e).es (by omega)
def cnC (e : Nat → Nat → Nat) (k : Nat) : Nat → Nat → Nat := mkC (es e (RB k) 4 1) (e (RB k) 0) (e (RB k) 2) (e (RB k) 3 + 1)
theorem cnC_mid (e : Nat → Nat → Nat) (k : Nat) : ∀ c, 6 ≤ c → c ≤ 10 → cnC e k c = e c := fun c a b => by
  unfold cnC
  rw [mkC_mid _ _ _ _ c a b, esR_mid _ _ _ _ c a b]
theorem cnC_0 (e : Nat → Nat → Nat) (k : Nat) : cnC e k 0 = e 0 := by
  unfold cnC
  rw [mkC_lo _ _ _ _ (by decide), es_off _ _ _ (by unfold RB; omega)]
theorem IV_cn {e : Nat → Nat → Nat} {k : Nat} (hI : IV e) (hk : k < VV e 7 9) : IV (cnC (cnL e k) k) := by
  have o := OffR_cn e k
  have hs := sim_cancel (hI.1.fr o.xf) hI.2.1 (hI.2.2.1.x o.xf) (k := k) hk
  exact IV.st hs (show es (VV e) 18 k 1 = VV (cnL e k) from (VV_es8 e (j := 4) (by decide) k 1).symm) (cnC_mid _ k) (hI.2.2.2.fr (by unfold cnL; rw [es_off _ _ _ (by decide)]))
/-- a request cancelled before: the law writes what stands -/
theorem cnL_same {e : Nat → Nat → Nat} {k : Nat} (h : VV e 18 k = 1) : cnL e k = e := by
  funext c i
  unfold cnL
  rw [es_at]
  by_cases z : c = 8 ∧ i = 5 * k + 4
  · rw [if_pos z, z.1, z.2]
    exact h.symm
  · rw [if_neg z]
-- sick
def skL (e : Nat → Nat → Nat) (n k f t : Nat) : Nat → Nat → Nat := es (es (es (es e 9 (3 * n) k) 9 (3 * n + 1) f) 9 (3 * n + 2) t) 6 3 (n + 1)
theorem OffR_sk (e : Nat → Nat → Nat) (n k f t : Nat) : OffR e (skL e n k f t) := ((((OffR.rf e).es (by omega)).es (by omega)).es (by omega)).es (by omega)
theorem VV_sk (e : Nat → Nat → Nat) (k f t : Nat) : VV (skL e (VV e 7 15) k f t) = skM (VV e) k f t := by
  unfold skL skM
  rw [VV_es6 _ (j := 3) (by decide), VV_es9 _ (j := 2) (by decide), VV_es9 _ (j := 1) (by decide), show (3 * VV e 7 15) = 3 * VV e 7 15 + 0 from rfl, VV_es9 _ (j := 0) (by decide)]
  rfl
def skC (e : Nat → Nat → Nat) (k f t : Nat) : Nat → Nat → Nat := es (esC e k f t) 0 4 (e 0 4 + 1)
theorem skC_mid (e : Nat → Nat → Nat) (k f t : Nat) : ∀ c, 6 ≤ c → c ≤ 10 → skC e k f t c = e c := fun c a b => by
  unfold skC
  rw [es_off _ _ _ (by omega), esC_lo _ _ _ _ (by omega)]
theorem skC_0 (e : Nat → Nat → Nat) (k f t : Nat) : skC e k f t 0 1 = e 0 1 ∧ skC e k f t 0 3 = e 0 3 := by
  unfold skC
  rw [es_ne _ _ (by omega), es_ne _ _ (by omega), esC_lo _ _ _ _ (by decide)]
  exact ⟨rfl, rfl⟩
theorem IV_sk {e : Nat → Nat → Nat} {k f t : Nat} (hI : IV e) (hk : k < e 6 1) (hft : f ≤ t ∧ t ≤ 3600) (hn : VV e 7 15 < 8) : IV (skC (skL e (VV e 7 15) k f t) k f t) := by
  have o := OffR_sk e (VV e 7 15) k f t
  have hs := sim_sick (hI.1.fr o.xf) hI.2.1 (hI.2.2.1.x o.xf) (k := k) (f := f) (t := t) hk hft (Nat.lt_trans hn (by decide))
  refine IV.st hs (VV_sk e k f t).symm (skC_mid _ k f t) ?_
  obtain ⟨l0, l1, l2, l3, l4⟩ := hI.2.2.2
  unfold LB skL
  simp [es]
  exact ⟨l0, l1, l2, by have : VV e 7 15 = e 6 3 := rfl; omega, l4⟩
-- payOut: the law has gone through the days first
def pyL (e : Nat → Nat → Nat) (n k h : Nat) : Nat → Nat → Nat := es (es (es (es e 10 (3 * n) k) 10 (3 * n + 1) (e 6 0)) 10 (3 * n + 2) h) 6 4 (n + 1)
theorem OffR_py (e : Nat → Nat → Nat) (n k h : Nat) : OffR e (pyL e n k h) := ((((OffR.rf e).es (by omega)).es (by omega)).es (by omega)).es (by omega)
theorem VV_py (e : Nat → Nat → Nat) (k h : Nat) : VV (pyL e (VV e 7 19) k h) = pyM (VV e) k h := by
  unfold pyL pyM
  rw [VV_es6 _ (j := 4) (by decide), VV_es10 _ (j := 2) (by decide), VV_es10 _ (j := 1) (by decide), show (3 * VV e 7 19) = 3 * VV e 7 19 + 0 from rfl, VV_es10 _ (j := 0) (by decide)]
  rfl
def pyC (e : Nat → Nat → Nat) (k h : Nat) : Nat → Nat → Nat := es (epC e k (e 0 6) h) 0 5 (e 0 5 + 1)
theorem pyC_mid (e : Nat → Nat → Nat) (k h : Nat) : ∀ c, 6 ≤ c → c ≤ 10 → pyC e k h c = e c := fun c a b => by
  unfold pyC
  rw [es_off _ _ _ (by omega), epC_lo _ _ _ _ (by omega)]
theorem pyC_0 (e : Nat → Nat → Nat) (k h : Nat) : pyC e k h 0 1 = e 0 1 ∧ pyC e k h 0 3 = e 0 3 := by
  unfold pyC
  rw [es_ne _ _ (by omega), es_ne _ _ (by omega), epC_lo _ _ _ _ (by decide)]
  exact ⟨rfl, rfl⟩
/-- z: the law's rows written, and the class's ledger gone through -/
theorem IV_py {e z : Nat → Nat → Nat} {k h : Nat} (hI : IV e) (hk : k < e 6 1) (hh : h ≤ 20000) (hn : VV e 7 19 < 10) (hx : XF e z) (hv : ∀ c, 6 ≤ c → c ≤ 10 → z c = pyL e (VV e 7 19) k h c) : IV (pyC z k h) := by
  have hs := sim_pay (hI.1.fr hx) hI.2.1 (hI.2.2.1.x hx) (k := k) (h := h) hk hh (Nat.lt_trans hn (by decide))
  refine IV.st hs (VV_py e k h).symm (fun c a b => (pyC_mid z k h c a b).trans (hv c a b)) ?_
  obtain ⟨l0, l1, l2, l3, l4⟩ := hI.2.2.2
  unfold LB pyL
  simp [es]
  exact ⟨l0, l1, l2, l3, by have : VV e 7 19 = e 6 4 := rfl; omega⟩
-- setHours
def hsL (e : Nat → Nat → Nat) (p at9 d h n : Nat) : Nat → Nat → Nat := es (es (es e 7 (12 + 20 * p + 2 * at9) d) 7 (12 + 20 * p + 2 * at9 + 1) h) 7 (4 * p + 3) n
theorem OffR_hs (e : Nat → Nat → Nat) (p at9 d h n : Nat) : OffR e (hsL e p at9 d h n) := (((OffR.rf e).es (by omega)).es (by omega)).es (by omega)
theorem VV_hs (e : Nat → Nat → Nat) {p : Nat} (hp : p < 2) (d h : Nat) : VV (hsL e p (laM (VV e) p d (VV e 11 p)) d h (VV e 11 p + (if laM (VV e) p d (VV e 11 p) = VV e 11 p then 1 else 0))) = shM (VV e) p d h := by
  unfold hsL shM
  generalize laM (VV e) p d (VV e 11 p) = a
  rw [VV_es7 _ (j := 3) (by decide) hp, show 12 + 20 * p + 2 * a + 1 = 12 + 2 * (10 * p + a) + 1 by omega, VV_es12 _ (j := 1) (by decide), show 12 + 20 * p + 2 * a = 12 + 2 * (10 * p + a) + 0 by omega, VV_es12 _ (j := 0) (by decide), es_comm (es (VV e) (12 + 0) (10 * p + a) d) (by omega), es_comm (VV e) (by omega)]
theorem ehC_mid (e : Nat → Nat → Nat) (p d h : Nat) : ∀ c, 6 ≤ c → c ≤ 10 → ehC e p d h c = e c := fun c a b => ehC_lo e p d h (by omega)
theorem IV_hs {e : Nat → Nat → Nat} {p d h : Nat} (hI : IV e) (hp : p < e 6 1) (hd : d ≤ 3600) (hh : 1 ≤ h ∧ h ≤ 10) (hfit : laM (VV e) p d (VV e 11 p) < 10) : IV (ehC (hsL e p (laM (VV e) p d (VV e 11 p)) d h (VV e 11 p + (if laM (VV e) p d (VV e 11 p) = VV e 11 p then 1 else 0))) p d h) := by
  have o := OffR_hs e p (laM (VV e) p d (VV e 11 p)) d h (VV e 11 p + (if laM (VV e) p d (VV e 11 p) = VV e 11 p then 1 else 0))
  have hr := hI.2.2.1.x o.xf
  have hfi := hours_fi (hr.2.1 p hp).1.1 (hI.rd hp) d
  have hs := sim_hours (hI.1.fr o.xf) hI.2.1 hr (k := p) (d := d) (h := h) hp hd hh (by rw [hfi]; exact hfit)
  refine IV.st hs (VV_hs e (hI.two hp) d h).symm (ehC_mid _ p d h) (hI.2.2.2.fr ?_)
  unfold hsL
  rw [es_off _ _ _ (by decide), es_off _ _ _ (by decide), es_off _ _ _ (by decide)]
-- addPerson
def adL (e : Nat → Nat → Nat) (n a h : Nat) : Nat → Nat → Nat := es (es (es (es e 7 (4 * n) (e 6 0)) 7 (4 * n + 1) a) 7 (4 * n + 2) h) 6 1 (n + 1)
theorem OffR_ad (e : Nat → Nat → Nat) (n a h : Nat) : OffR e (adL e n a h) := ((((OffR.rf e).es (by omega)).es (by omega)).es (by omega)).es (by omega)
theorem VV_ad (e : Nat → Nat → Nat) (hn : VV e 7 2 < 2) (a h : Nat) : VV (adL e (VV e 7 2) a h) = addM (VV e) a h := by
  unfold adL addM
  rw [VV_es6 _ (j := 1) (by decide), VV_es7 _ (j := 2) (by decide) hn, VV_es7 _ (j := 1) (by decide) hn, show (4 * VV e 7 2) = 4 * VV e 7 2 + 0 from rfl, VV_es7 _ (j := 0) (by decide) hn]
  rfl
theorem addC_mid (e : Nat → Nat → Nat) (a h : Nat) : ∀ c, 6 ≤ c → c ≤ 10 → addC e a h c = e c := fun c p q => by
  unfold addC
  rw [es_off _ _ _ (by omega), es_off _ _ _ (by omega), anP_off _ _ _ (by unfold PB; omega)]
theorem addC_0 (e : Nat → Nat → Nat) (a h : Nat) : addC e a h 0 1 = e 0 1 + 1 ∧ addC e a h 0 3 = e 0 3 := by
  unfold addC
  refine ⟨es_same _ _ _ _, ?_⟩
  rw [es_ne _ _ (by omega), es_ne _ _ (by omega), anP_off _ _ _ (by unfold PB; omega)]
theorem IV_ad {e : Nat → Nat → Nat} {a h : Nat} (hI : IV e) (hn : VV e 7 2 < 2) (ha : 20 ≤ a ∧ a ≤ 80) (hh : 1 ≤ h ∧ h ≤ 10) : IV (addC (adL e (VV e 7 2) a h) a h) := by
  have o := OffR_ad e (VV e 7 2) a h
  have hs := sim_add (hI.1.fr o.xf) hI.2.1 (hI.2.2.1.x o.xf) (a := a) (h := h) (Nat.lt_trans hn (by decide)) ha hh
  refine IV.st hs (VV_ad e hn a h).symm (addC_mid _ a h) ?_
  obtain ⟨l0, l1, l2, l3, l4⟩ := hI.2.2.2
  unfold LB adL
  simp [es]
  exact ⟨l0, by have : VV e 7 2 = e 6 1 := rfl; omega, l2, l3, l4⟩
-- pass
theorem IV_ps {e : Nat → Nat → Nat} {d : Nat} (hI : IV e) (hd : e 6 0 + d ≤ 1700) : IV (es (es e 6 0 (e 6 0 + d)) 0 6 (e 0 6 + d)) := by
  have o : OffR e (es e 6 0 (e 6 0 + d)) := (OffR.rf e).es (by omega)
  have h6 : es e 6 0 (e 6 0 + d) 0 6 = e 0 6 := congrFun (o 0 (Or.inl (by decide))) 6
  have n6 := hI.n6
  have hs := sim_pass (hI.1.fr o.xf) hI.2.1 (hI.2.2.1.x o.xf) (d := d) (by rw [h6]; omega)
  rw [h6] at hs
  refine IV.st hs (show es (VV e) 7 1 (VV e 7 1 + d) = VV (es e 6 0 (e 6 0 + d)) from (VV_es6 e (j := 0) (by decide) _).symm) (fun c a b => es_off _ _ _ (by omega)) ?_
  obtain ⟨l0, l1, l2, l3, l4⟩ := hI.2.2.2
  unfold LB
  simp [es]
  exact ⟨hd, l1, l2, l3, l4⟩
/-- how a part of a turn leaves the heap -/
def ST (cy : Nat → ClassId) (C : List Nat) (ad : Nat → Nat) (e : Nat → Nat → Nat) (u : WT) : Prop := ∃ C' ad' e', (∀ c, c ∈ C → ad' c = ad c) ∧ u = (C', ad', G cy ad' e') ∧ IV e' ∧ CC (e' 0 1) (e' 0 3) C' ∧ e' 6 1 = e 6 1
theorem ST_in {cy : Nat → ClassId} {C : List Nat} {ad : Nat → Nat} {e e' : Nat → Nat → Nat} (hI : IV e') (hC : CC (e' 0 1) (e' 0 3) C) (h6 : e' 6 1 = e 6 1) : ST cy C ad e (C, ad, G cy ad e') := ⟨C, ad, e', fun _ _ => rfl, rfl, hI, hC, h6⟩
theorem IV.qr {e : Nat → Nat → Nat} (h : IV e) {k : Nat} (hk : k < VV e 7 9) : QR e (VV e) k ∧ VV e 14 k < e 6 1 := h.2.2.1.2.2.2.1 k hk
theorem IV.mr {e : Nat → Nat → Nat} (h : IV e) {k : Nat} (hk : k < VV e 7 9) : MWr (VV e) k := h.2.1.2.1 k hk
theorem OffR.cc {e e1 : Nat → Nat → Nat} {C : List Nat} (o : OffR e e1) (h : CC (e 0 1) (e 0 3) C) : CC (e1 0 1) (e1 0 3) C := by
  rw [o 0 (Or.inl (by decide))]
  exact h
theorem OffR.P {e e1 : Nat → Nat → Nat} (o : OffR e e1) (p k : Nat) : e1 (PB p + k) = e (PB p + k) := o _ (Or.inr (by unfold PB; omega))
theorem OffR.P0 {e e1 : Nat → Nat → Nat} (o : OffR e e1) (p : Nat) : e1 (PB p) = e (PB p) := o.P p 0
theorem OffR.R {e e1 : Nat → Nat → Nat} (o : OffR e e1) (q : Nat) : e1 (RB q) = e (RB q) := o _ (Or.inr (by unfold RB; omega))
theorem OffR.z {e e1 : Nat → Nat → Nat} (o : OffR e e1) : e1 0 = e 0 := o 0 (Or.inl (by decide))
/-- what setHours finds out of the place is what the law finds -/
theorem IV.fi {e e1 : Nat → Nat → Nat} (hI : IV e) (hx : XF e e1) {p : Nat} (hp : p < e 6 1) (d : Nat) : fiN (e1 (PB p + 1)) d (e1 (PB p) 5) = laM (VV e) p d (VV e 11 p) := hours_fi ((hI.2.2.1.x hx).2.1 p hp).1.1 (hI.rd hp) d
theorem IV.hx {e e1 : Nat → Nat → Nat} (hI : IV e) (hx : XF e e1) {p : Nat} (hp : p < e 6 1) (d : Nat) : hrC e1 p d = hrM (VV e) p d := ((hI.2.2.1.x hx).2.1 p hp).1.1.hr d
theorem IV.qx {e e1 : Nat → Nat → Nat} (hI : IV e) (hx : XF e e1) {k : Nat} (hk : k < VV e 7 9) : QR e1 (VV e) k := ((hI.2.2.1.x hx).2.2.2.1 k hk).1
theorem pyL_congr {e x : Nat → Nat → Nat} (hx : ∀ c, 6 ≤ c → c ≤ 10 → x c = e c) (n k h : Nat) : ∀ c, 6 ≤ c → c ≤ 10 → pyL x n k h c = pyL e n k h c := fun c a b => by
  funext i
  unfold pyL
  rw [hx 6 (by decide) (by decide)]
  simp only [es_at, hx c a b]
theorem pyC_go (e : Nat → Nat → Nat) (k n h : Nat) : es (epC (goC e k n) k (e 0 6) h) 0 5 (e 0 5 + 1) = pyC (goC e k n) k h := by
  unfold pyC
  rw [Off_go e k n 0 (by decide) (by decide) (by decide)]
