/-! ===== facts about the class's ledger ===== -/
theorem sub_lt {a b c : Nat} (ha : a < 1073741824) (hb : b < 1073741824) (hc : c < 1073741824) : nI a - nI b < nI c ↔ a < b + c := by
  rw [Int32.lt_iff_toInt_lt, pk_sub_toInt ha hb, nI_toInt (by omega)]
  omega
theorem max_sub {a b : Nat} (ha : a < 1073741824) (hb : b < 1073741824) : (if nI a - nI b < nI 0 then nI 0 else nI a - nI b) = nI (a - b) := by
  by_cases h : a < b
  · rw [if_pos ((sub_lt ha hb (by decide)).mpr (by omega)), show a - b = 0 by omega]
  · rw [if_neg (fun z => h (by have z2 := (sub_lt ha hb (by decide)).mp z; omega)), pk_sub (by omega)]
section MAX0
variable {p : Program} {l : Launch} {e : Env} {R : Room} {s : State} {m : MethodId} {args : Array Value} {below : List Frame} {meth : Method} {c : Code} {H : Heap} {locs : List Loc} {cells slots : Nat} {Q : State → Prop}
variable {cc : ByteArray} {pc : Nat} {ls : Array Slot} {rest : List Value} {D : va_G} {cy : Nat → ClassId} {A : Nat → Prop} {Ts : List Cond} {own : String} {nL : Nat}
theorem mi_max0 (M : MC p s m args meth c cc Ts own nL D cy A) (hls : ls.size = nL) {index : Nat} (hlink : Cond.methodLink own index Lib.Math.max.name ∈ Ts) (hst : Cond.static Lib.Math.max.name ∈ Ts) (hini : Cond.initialized "java/lang/Math" ∈ Ts) (hcode : Cond.code Lib.Math.max.name Lib.Math.max.code 2 (some .int) ∈ Ts) (hf : 1 ≤ R.frames) (hlo : (rest.map fun v => v.category).sum + 13 ≤ R.locals) (hc : cells ≤ R.cells) (hs : slots ≤ R.slots) {a b : Nat} (ha : a < 1073741824) (hb : b < 1073741824) (hdg : decode cc pc = .ok (.invokestatic index, 3))
    (k : W p l e R s m args below meth c H locs cells slots Q (F0 m (pc + 3) ls (.int (nI (a - b)) :: rest))) : W p l e R s m args below meth c H locs cells slots Q (F0 m pc ls (.int (nI 0) :: .int (nI a - nI b) :: rest)) := by
  refine va_mmax M.1.1 M.1.2.1 (M.1.2.2.1.trans hls.symm) M.1.2.2.2.1 (M.1.2.2.2.2 _ hlink) (M.1.2.2.2.2 _ hst) (M.1.2.2.2.2 _ hini) (M.1.2.2.2.2 _ hcode) hf hlo hc hs hdg ?_
  rw [max_sub ha hb]
  exact k
end MAX0
theorem smN_s (f : Nat → Nat) {a i : Nat} (h : a ≤ i) : smN f a (i + 1 - a) = smN f a (i - a) + f i := by
  rw [show i + 1 - a = (i - a) + 1 by omega]
  show smN f a (i - a) + f (a + (i - a)) = _
  rw [show a + (i - a) = i by omega]
theorem smN_le {f : Nat → Nat} {a b : Nat} : ∀ {n : Nat}, (∀ i, i < n → f (a + i) ≤ b) → smN f a n ≤ n * b
  | 0, _ => Nat.zero_le _
  | n + 1, h => by
    have h1 := smN_le (f := f) (a := a) (b := b) (n := n) (fun i hi => h i (Nat.lt_succ_of_lt hi))
    have h2 := h n (Nat.lt_succ_self n)
    show smN f a n + f (a + n) ≤ (n + 1) * b
    rw [Nat.succ_mul]
    omega
theorem smN_mono (f : Nat → Nat) (a : Nat) : ∀ {n m : Nat}, n ≤ m → smN f a n ≤ smN f a m
  | n, 0, h => by rw [show n = 0 by omega]; exact Nat.le_refl _
  | n, m + 1, h => by
    rcases Nat.lt_or_ge n (m + 1) with z | z
    · exact Nat.le_trans (smN_mono f a (n := n) (m := m) (by omega)) (Nat.le_add_right _ _)
    · rw [show n = m + 1 by omega]; exact Nat.le_refl _
theorem smN_congr {f g : Nat → Nat} {a : Nat} : ∀ {n : Nat}, (∀ i, i < n → f (a + i) = g (a + i)) → smN f a n = smN g a n
  | 0, _ => rfl
  | n + 1, h => by
    show smN f a n + f (a + n) = smN g a n + g (a + n)
    rw [smN_congr (fun i hi => h i (Nat.lt_succ_of_lt hi)), h n (Nat.lt_succ_self n)]
def LW (e : Nat → Nat → Nat) : Prop := e 3 3 ≤ e 3 2 ∧ e 3 2 ≤ 120 ∧ e 3 5 ≤ 2400 ∧ ∀ i, i < e 3 2 → e 4 i ≤ 1800 ∧ e 5 i ≤ 10000
theorem totC_le {e : Nat → Nat → Nat} (h : LW e) : totC e ≤ 216000 := by
  have h1 := smN_le (f := e 4) (a := e 3 3) (b := 1800) (n := e 3 2 - e 3 3) (fun i hi => (h.2.2.2 _ (by omega)).1)
  have h2 := h.2.1
  unfold totC
  omega
theorem LW_clr (e : Nat → Nat → Nat) : LW (clrC e) := by
  have h1 : clrC e 3 2 = 0 := by simp [clrC, es]
  have h2 : clrC e 3 3 = 0 := by simp [clrC, es]
  have h3 : clrC e 3 5 = 0 := by simp [clrC, es]
  unfold LW
  rw [h1, h2, h3]
  exact ⟨by omega, by omega, by omega, fun i hi => absurd hi (Nat.not_lt_zero i)⟩
theorem LW_earn {e : Nat → Nat → Nat} {pts ex : Nat} (h : LW e) (hp : pts ≤ 1800) (hx : ex ≤ 10000) : LW (earnC e pts ex) := by
  obtain ⟨h1, h2, h3, h4⟩ := h
  unfold earnC
  split
  · rename_i hlt
    refine ⟨by simp [es]; omega, by simp [es]; omega, by simp [es]; omega, fun i hi => ?_⟩
    have hi2 : i < e 3 2 + 1 := by simpa [es] using hi
    by_cases hq : i = e 3 2
    · simp [es, hq]; omega
    · have := h4 i (by omega)
      simp [es, hq]; omega
  · refine ⟨by simp [es]; omega, by simp [es]; omega, by simp [es]; omega, fun i hi => ?_⟩
    have hi2 : i < e 3 2 := by simpa [es] using hi
    have := h4 i hi2
    simp [es]; omega
theorem exs_2 (e : Nat → Nat → Nat) : exsC e 3 2 = e 3 2 := by simp [exsC, es]
theorem exs_3 (e : Nat → Nat → Nat) : exsC e 3 3 = e 3 3 + 1 := by simp [exsC, es]
theorem LW_exs {e : Nat → Nat → Nat} (h : LW e) (hl : e 3 3 < e 3 2) : LW (exsC e) := by
  obtain ⟨h1, h2, h3, h4⟩ := h
  unfold LW
  rw [exs_2, exs_3]
  refine ⟨by omega, h2, by simp [exsC, es]; omega, fun i hi => ?_⟩
  have := h4 i hi
  simp [exsC, es]; omega
theorem expnC_s {e : Nat → Nat → Nat} {dy : Nat} (hl : e 3 3 < e 3 2) (hd : e 5 (e 3 3) ≤ dy) : expnC dy (exsC e 3 2 - exsC e 3 3) (exsC e) = expnC dy (e 3 2 - e 3 3) e := by
  rw [exs_2, exs_3, show e 3 2 - e 3 3 = (e 3 2 - (e 3 3 + 1)) + 1 by omega]
  exact (if_pos hd).symm
theorem expnC_x {e : Nat → Nat → Nat} {dy : Nat} (h : e 3 2 ≤ e 3 3 ∨ dy < e 5 (e 3 3)) : expnC dy (e 3 2 - e 3 3) e = e := by
  rcases h with h | h
  · rw [show e 3 2 - e 3 3 = 0 by omega]; rfl
  · cases hn : e 3 2 - e 3 3 with
    | zero => rfl
    | succ n => exact if_neg (by omega)
/-- nothing but the ledger is another -/
def Off (e e' : Nat → Nat → Nat) : Prop := ∀ c, c ≠ 3 → c ≠ 4 → c ≠ 5 → e' c = e c
theorem Off.rf (e : Nat → Nat → Nat) : Off e e := fun _ _ _ _ => rfl
theorem Off.tr {e e1 e2 : Nat → Nat → Nat} (h : Off e e1) (h2 : Off e1 e2) : Off e e2 := fun c a b d => (h2 c a b d).trans (h c a b d)
theorem Off.es {e e1 : Nat → Nat → Nat} (h : Off e e1) {c k v : Nat} (hc : c = 3 ∨ c = 4 ∨ c = 5) : Off e (es e1 c k v) := fun c' a b d => (es_off e1 k v (by omega)).trans (h c' a b d)
theorem Off_clr (e : Nat → Nat → Nat) : Off e (clrC e) := by
  unfold clrC
  exact ((((((((((Off.rf e).es (by omega)).es (by omega)).es (by omega)).es (by omega)).es (by omega)).es (by omega)).es (by omega)).es (by omega)).es (by omega))
theorem Off_earn (e : Nat → Nat → Nat) (pts ex : Nat) : Off e (earnC e pts ex) := by
  unfold earnC
  split
  · exact (((((Off.rf e).es (by omega)).es (by omega)).es (by omega)).es (by omega)).es (by omega)
  · exact ((Off.rf e).es (by omega)).es (by omega)
theorem Off_exs (e : Nat → Nat → Nat) : Off e (exsC e) := ((Off.rf e).es (by omega)).es (by omega)
theorem Off_expn (dy : Nat) : ∀ (n : Nat) (e : Nat → Nat → Nat), Off e (expnC dy n e)
  | 0, e => Off.rf e
  | n + 1, e => by
    unfold expnC
    split
    · exact (Off_exs e).tr (Off_expn dy n (exsC e))
    · exact Off.rf e
theorem Off_drw (e : Nat → Nat → Nat) (pts : Nat) : Off e (drwC e pts) := fun c a b d => by
  funext i
  exact if_neg (fun z => b z.1)
theorem Off_tak (e : Nat → Nat → Nat) (pts : Nat) : Off e (takC e pts) := by
  unfold takC
  split
  · exact (Off.rf e).es (by omega)
  · exact ((Off_drw e pts).es (by omega)).es (by omega)
theorem Off_take (e : Nat → Nat → Nat) (k : Nat) : Off e (takeC e k) := by
  unfold takeC
  split
  · exact Off.rf e
  · exact Off_tak e _
theorem Off_pays (e : Nat → Nat → Nat) (p : Nat) : Off e (paysC e p) := ((Off_drw e _).es (by omega)).es (by omega)
theorem Off_payn (p dy : Nat) : ∀ (n : Nat) (e : Nat → Nat → Nat), Off e (paynC p dy n e)
  | 0, e => Off.rf e
  | n + 1, e => by
    unfold paynC
    split
    · exact (Off_pays e p).tr (Off_payn p dy n (paysC e p))
    · exact Off.rf e
theorem Off_mth (e : Nat → Nat → Nat) (p dy : Nat) : Off e (mthC e p dy) := by
  unfold mthC
  split
  · exact Off_earn e _ _
  · exact Off.rf e
theorem Off_day (e : Nat → Nat → Nat) (p dy : Nat) : Off e (dayC e p dy) := ((Off_mth e p dy).tr (Off_expn dy _ _)).tr ((Off_take _ _).tr (Off_payn p dy _ _))
theorem Off_go (e : Nat → Nat → Nat) (p : Nat) : ∀ n, Off e (goC e p n)
  | 0 => Off_clr e
  | n + 1 => (Off_go e p n).tr (Off_day _ p _)
theorem Off.P {e e' : Nat → Nat → Nat} (h : Off e e') (p k : Nat) : e' (PB p + k) = e (PB p + k) := h _ (by unfold PB; omega) (by unfold PB; omega) (by unfold PB; omega)
theorem Off.P0 {e e' : Nat → Nat → Nat} (h : Off e e') (p : Nat) : e' (PB p) = e (PB p) := h.P p 0
theorem Off.R {e e' : Nat → Nat → Nat} (h : Off e e') (q : Nat) : e' (RB q) = e (RB q) := h _ (by unfold RB; omega) (by unfold RB; omega) (by unfold RB; omega)
-- draws
def drwN (e : Nat → Nat → Nat) (pts t : Nat) : Nat → Nat → Nat := fun c i => if c = 4 ∧ e 3 3 ≤ i ∧ i < t then e 4 i - (pts - smN (e 4) (e 3 3) (i - e 3 3)) else e c i
theorem drwN_off (e : Nat → Nat → Nat) (pts t : Nat) {c : Nat} (h : c ≠ 4) (i : Nat) : drwN e pts t c i = e c i := if_neg (fun z => h z.1)
theorem drwC_off (e : Nat → Nat → Nat) (pts : Nat) {c : Nat} (h : c ≠ 4) (i : Nat) : drwC e pts c i = e c i := if_neg (fun z => h z.1)
theorem drwN_at (e : Nat → Nat → Nat) (pts i : Nat) : drwN e pts i 4 i = e 4 i := if_neg (by omega)
theorem drwN_0 (e : Nat → Nat → Nat) (pts : Nat) : drwN e pts (e 3 3) = e := by
  funext c i
  exact if_neg (by omega)
theorem drwN_s (e : Nat → Nat → Nat) {pts i ms : Nat} (h0 : e 3 3 ≤ i) (hm : ms = pts - smN (e 4) (e 3 3) (i - e 3 3)) : es (drwN e pts i) 4 i (e 4 i - min ms (e 4 i)) = drwN e pts (i + 1) := by
  funext c j
  unfold es drwN
  by_cases h1 : c = 4 ∧ j = i
  · rw [if_pos h1, if_pos (by omega), h1.2, ← hm]; omega
  · rw [if_neg h1]
    by_cases h2 : c = 4 ∧ e 3 3 ≤ j ∧ j < i
    · rw [if_pos h2, if_pos (by omega)]
    · rw [if_neg h2, if_neg (by omega)]
theorem drwN_x (e : Nat → Nat → Nat) {pts i : Nat} (h : pts ≤ smN (e 4) (e 3 3) (i - e 3 3)) (hi : i ≤ e 3 2) : drwN e pts i = drwC e pts := by
  funext c j
  unfold drwN drwC
  by_cases h1 : c = 4 ∧ e 3 3 ≤ j ∧ j < i
  · rw [if_pos h1, if_pos (by omega)]
  · rw [if_neg h1]
    by_cases h2 : c = 4 ∧ e 3 3 ≤ j ∧ j < e 3 2
    · have h3 := smN_mono (e 4) (e 3 3) (n := i - e 3 3) (m := j - e 3 3) (by omega)
      rw [if_pos h2, show pts - smN (e 4) (e 3 3) (j - e 3 3) = 0 by omega, h2.1]; rfl
    · rw [if_neg h2]
theorem drw_fin (e : Nat → Nat → Nat) {pts i ms : Nat} (hm : ms = pts - smN (e 4) (e 3 3) (i - e 3 3)) (hi : i ≤ e 3 2) (h : i = e 3 2 ∨ ms = 0) : drwN e pts i = drwC e pts ∧ pts - ms = min pts (totC e) := by
  have h3 := smN_mono (e 4) (e 3 3) (n := i - e 3 3) (m := e 3 2 - e 3 3) (by omega)
  unfold totC
  rcases h with h | h
  · subst h
    exact ⟨rfl, by omega⟩
  · exact ⟨drwN_x e (by omega) hi, by omega⟩
theorem LW_drw {e : Nat → Nat → Nat} (h : LW e) (pts : Nat) : LW (drwC e pts) := by
  obtain ⟨h1, h2, h3, h4⟩ := h
  unfold LW
  rw [drwC_off e pts (by decide), drwC_off e pts (by decide), drwC_off e pts (by decide)]
  refine ⟨h1, h2, h3, fun i hi => ?_⟩
  rw [drwC_off e pts (c := 5) (by decide)]
  have := h4 i hi
  refine ⟨?_, this.2⟩
  unfold drwC
  split <;> omega
theorem LW.es3 {e : Nat → Nat → Nat} (h : LW e) {k : Nat} (v : Nat) (hk : k ≠ 2 ∧ k ≠ 3 ∧ k ≠ 5) : LW (es e 3 k v) := by
  obtain ⟨h1, h2, h3, h4⟩ := h
  unfold LW
  rw [es_ne e v (by omega), es_ne e v (by omega), es_ne e v (by omega)]
  exact ⟨h1, h2, h3, fun i hi => by rw [es_ne e v (by omega), es_ne e v (by omega)]; exact h4 i hi⟩
theorem LW.es5 {e : Nat → Nat → Nat} (h : LW e) {v : Nat} (hv : v ≤ 2400) : LW (es e 3 5 v) := by
  obtain ⟨h1, h2, h3, h4⟩ := h
  unfold LW
  rw [es_ne e v (k' := 3) (by omega), es_ne e v (k' := 2) (by omega), es_same]
  exact ⟨h1, h2, hv, fun i hi => by rw [es_ne e v (by omega), es_ne e v (by omega)]; exact h4 i hi⟩
theorem LW_tak {e : Nat → Nat → Nat} (h : LW e) (pts : Nat) : LW (takC e pts) := by
  unfold takC
  split
  · exact h.es3 _ (by omega)
  · exact ((LW_drw h pts).es5 (by omega)).es3 _ (by omega)
theorem LW_take {e : Nat → Nat → Nat} (h : LW e) (k : Nat) : LW (takeC e k) := by
  unfold takeC
  split
  · exact h
  · exact LW_tak h _
theorem LW_pays {e : Nat → Nat → Nat} (h : LW e) (p : Nat) : LW (paysC e p) := ((LW_drw h _).es3 _ (by omega)).es3 _ (by omega)
theorem LW_expn (dy : Nat) : ∀ (n : Nat) (e : Nat → Nat → Nat), LW e → n ≤ e 3 2 - e 3 3 → LW (expnC dy n e)
  | 0, e, h, _ => h
  | n + 1, e, h, hn => by
    unfold expnC
    split
    · exact LW_expn dy n (exsC e) (LW_exs h (by omega)) (by rw [exs_2, exs_3]; omega)
    · exact h
theorem LW_expire {e : Nat → Nat → Nat} (h : LW e) (dy : Nat) : LW (expireC e dy) := LW_expn dy _ e h (Nat.le_refl _)
theorem LW_payn (p dy : Nat) : ∀ (n : Nat) (e : Nat → Nat → Nat), LW e → LW (paynC p dy n e)
  | 0, e, h => h
  | n + 1, e, h => by
    unfold paynC
    split
    · exact LW_payn p dy n (paysC e p) (LW_pays h p)
    · exact h
theorem pays_4 (e : Nat → Nat → Nat) (p : Nat) : paysC e p 3 4 = e 3 4 + 1 := es_same _ _ _ _
theorem paynC_s {e : Nat → Nat → Nat} {p dy : Nat} (hl : e 3 4 < e (PB p) 13) (hd : e (PB p + 6) (e 3 4) ≤ dy) : paynC p dy (paysC e p (PB p) 13 - paysC e p 3 4) (paysC e p) = paynC p dy (e (PB p) 13 - e 3 4) e := by
  rw [(Off_pays e p).P0, pays_4, show e (PB p) 13 - e 3 4 = (e (PB p) 13 - (e 3 4 + 1)) + 1 by omega]
  exact (if_pos hd).symm
theorem paynC_x {e : Nat → Nat → Nat} {p dy : Nat} (h : e (PB p) 13 ≤ e 3 4 ∨ dy < e (PB p + 6) (e 3 4)) : paynC p dy (e (PB p) 13 - e 3 4) e = e := by
  rcases h with h | h
  · rw [show e (PB p) 13 - e 3 4 = 0 by omega]; rfl
  · cases hn : e (PB p) 13 - e 3 4 with
    | zero => rfl
    | succ n => exact if_neg (by omega)
/-- the first expiry of a lot with points -/
def fxN (f g : Nat → Nat) : Nat → Nat → Int32
  | _, 0 => -1
  | a, n + 1 => if 0 < f a then nI (g a) else fxN f g (a + 1) n
def fxC (e : Nat → Nat → Nat) : Int32 := fxN (e 4) (e 5) (e 3 3) (e 3 2 - e 3 3)
theorem fxN_hit {f g : Nat → Nat} {a b : Nat} (h : a < b) (h0 : 0 < f a) : fxN f g a (b - a) = nI (g a) := by
  rw [show b - a = (b - (a + 1)) + 1 by omega]; exact if_pos h0
theorem fxN_next {f g : Nat → Nat} {a b : Nat} (h : a < b) (h0 : f a = 0) : fxN f g (a + 1) (b - (a + 1)) = fxN f g a (b - a) := by
  rw [show b - a = (b - (a + 1)) + 1 by omega]; exact (if_neg (by omega)).symm
theorem fxN_end {f g : Nat → Nat} {a b : Nat} (h : b ≤ a) : fxN f g a (b - a) = -1 := by
  rw [show b - a = 0 by omega]; rfl
theorem P0.eq {e e' : Nat → Nat → Nat} {p : Nat} (h : e' (PB p) = e (PB p)) (h0 : P0 e p) : P0 e' p := by
  unfold P0 at *
  rw [h]; exact h0
theorem PCh.eq {e e' : Nat → Nat → Nat} {p : Nat} (h : ∀ k, e' (PB p + k) = e (PB p + k)) (h0 : PCh e p) : PCh e' p := by
  unfold PCh at *
  have h1 := h 0
  rw [Nat.add_zero] at h1
  rw [h1, h 1, h 2]; exact h0
theorem PPy.eq {e e' : Nat → Nat → Nat} {p : Nat} (h : ∀ k, e' (PB p + k) = e (PB p + k)) (h0 : PPy e p) : PPy e' p := by
  unfold PPy at *
  have h1 := h 0
  rw [Nat.add_zero] at h1
  rw [h1, h 6, h 7]; exact h0
theorem PLv.eq {e e' : Nat → Nat → Nat} {p : Nat} (h : ∀ k, e' (PB p + k) = e (PB p + k)) (h0 : PLv e p) : PLv e' p := by
  unfold PLv at *
  rw [h 8]; exact h0
/-- all that going through a day asks for -/
def GW (e : Nat → Nat → Nat) (p : Nat) : Prop := LW e ∧ e 3 4 ≤ 20 ∧ P0 e p ∧ PCh e p ∧ PPy e p ∧ PLv e p
theorem GW.off {e e' : Nat → Nat → Nat} {p : Nat} (h : GW e p) (ho : Off e e') (hl : LW e') (hn : e' 3 4 ≤ 20) : GW e' p := ⟨hl, hn, h.2.2.1.eq (ho.P0 p), h.2.2.2.1.eq (ho.P p), h.2.2.2.2.1.eq (ho.P p), h.2.2.2.2.2.eq (ho.P p)⟩
theorem ptsC_le {e : Nat → Nat → Nat} {p : Nat} (h : GW e p) (dy : Nat) : ptsC e p dy ≤ 1800 := by
  obtain ⟨-, -, h0, hc, -, -⟩ := h
  have h1 := hrC_in h0 hc (dy - 1)
  have h2 : e (PB p) 1 + min ((dy - e (PB p) 0) / 360 / 3 * 2) 10 ≤ 90 := by have := h0.2.1.2; omega
  unfold ptsC
  calc 2 * (e (PB p) 1 + min ((dy - e (PB p) 0) / 360 / 3 * 2) 10) * hrC e p (dy - 1) ≤ (2 * 90) * 10 := Nat.mul_le_mul (Nat.mul_le_mul (Nat.le_refl 2) h2) h1.2
    _ = 1800 := by decide
theorem earn_4 (e : Nat → Nat → Nat) (pts ex : Nat) : earnC e pts ex 3 4 = e 3 4 := by
  unfold earnC
  split <;> simp [es]
theorem expn_4 (dy : Nat) : ∀ (n : Nat) (e : Nat → Nat → Nat), expnC dy n e 3 4 = e 3 4
  | 0, e => rfl
  | n + 1, e => by
    unfold expnC
    split
    · rw [expn_4 dy n (exsC e)]; simp [exsC, es]
    · rfl
theorem tak_4 (e : Nat → Nat → Nat) (pts : Nat) : takC e pts 3 4 = e 3 4 := by
  unfold takC
  split
  · simp [es]
  · rw [es_ne _ _ (by omega), es_ne _ _ (by omega), drwC_off _ _ (by decide)]
theorem take_4 (e : Nat → Nat → Nat) (k : Nat) : takeC e k 3 4 = e 3 4 := by
  unfold takeC
  split
  · rfl
  · exact tak_4 e _
theorem GW_clr {e : Nat → Nat → Nat} {p : Nat} (h0 : P0 e p) (hc : PCh e p) (hy : PPy e p) (hl : PLv e p) : GW (clrC e) p := ⟨LW_clr e, by simp [clrC, es], h0.eq ((Off_clr e).P0 p), hc.eq ((Off_clr e).P p), hy.eq ((Off_clr e).P p), hl.eq ((Off_clr e).P p)⟩
theorem GW_mth {e : Nat → Nat → Nat} {p : Nat} (h : GW e p) {dy : Nat} (hd : dy ≤ 3600) : GW (mthC e p dy) p := by
  unfold mthC
  split
  · exact h.off (Off_earn e _ _) (LW_earn h.1 (ptsC_le h dy) (by unfold expC; omega)) (by rw [earn_4]; exact h.2.1)
  · exact h
theorem GW_expire {e : Nat → Nat → Nat} {p : Nat} (h : GW e p) (dy : Nat) : GW (expireC e dy) p := h.off (Off_expn dy _ _) (LW_expire h.1 dy) (by unfold expireC; rw [expn_4]; exact h.2.1)
theorem GW_take {e : Nat → Nat → Nat} {p : Nat} (h : GW e p) (k : Nat) : GW (takeC e k) p := h.off (Off_take e k) (LW_take h.1 k) (by rw [take_4]; exact h.2.1)
theorem payn_4 (p dy : Nat) : ∀ (n : Nat) (e : Nat → Nat → Nat), paynC p dy n e 3 4 ≤ e 3 4 + n
  | 0, e => Nat.le_refl _
  | n + 1, e => by
    unfold paynC
    split
    · have := payn_4 p dy n (paysC e p)
      rw [pays_4] at this
      omega
    · omega
theorem GW_pay {e : Nat → Nat → Nat} {p : Nat} (h : GW e p) (dy : Nat) : GW (payC e p dy) p := h.off (Off_payn p dy _ _) (LW_payn p dy _ e h.1) (by
  have h1 := payn_4 p dy (e (PB p) 13 - e 3 4) e
  have h2 := h.2.2.2.2.1.1
  have h3 := h.2.1
  unfold payC
  omega)
theorem GW_day {e : Nat → Nat → Nat} {p : Nat} (h : GW e p) {dy : Nat} (hd : dy ≤ 3600) : GW (dayC e p dy) p := GW_pay (GW_take (GW_expire (GW_mth h hd) dy) _) dy
theorem goC_P0 (e : Nat → Nat → Nat) (p n : Nat) : goC e p n (PB p) = e (PB p) := (Off_go e p n).P0 p
theorem GW_go {e : Nat → Nat → Nat} {p : Nat} (h0 : P0 e p) (hc : PCh e p) (hy : PPy e p) (hl : PLv e p) : ∀ n, e (PB p) 0 + n ≤ 3601 → GW (goC e p n) p
  | 0, _ => GW_clr h0 hc hy hl
  | n + 1, h => GW_day (GW_go h0 hc hy hl n (by omega)) (by omega)
