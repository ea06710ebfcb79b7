/-! ===== facts about the class's numbers ===== -/
theorem rfR_some {ad : Nat → Nat} {v : Nat → Nat} {j : Nat} (h : 1 ≤ v j) : rfR ad v j = some (ad (RB (v j - 1))) := by
  unfold rfR RB
  rw [if_neg (by omega), show 200 + (v j - 1) = 199 + v j by omega]
theorem rfR_none {ad : Nat → Nat} {v : Nat → Nat} {j : Nat} (h : v j = 0) : rfR ad v j = none := if_pos h
theorem rfP_some {ad : Nat → Nat} {v : Nat → Nat} {j : Nat} (h : 1 ≤ v j) : rfP ad v j = some (ad (PB (v j - 1))) := by
  unfold rfP PB
  rw [if_neg (by omega), show 32 + 16 * (v j - 1) = 16 + 16 * v j by omega]
theorem rfP_none {ad : Nat → Nat} {v : Nat → Nat} {j : Nat} (h : v j = 0) : rfP ad v j = none := if_pos h
theorem rfR_pt (ad : Nat → Nat) {z q : Nat} (h : z = q + 1) : some (ad (RB q)) = if z = 0 then none else some (ad (199 + z)) := by
  subst h
  unfold RB
  rw [if_neg (by omega), show 199 + (q + 1) = 200 + q by omega]
theorem rfP_pt (ad : Nat → Nat) {z q : Nat} (h : z = q + 1) : some (ad (PB q)) = if z = 0 then none else some (ad (16 + 16 * z)) := by
  subst h
  unfold PB
  rw [if_neg (by omega), show 16 + 16 * (q + 1) = 32 + 16 * q by omega]
theorem up_rfR (ad : Nat → Nat) (v : Nat → Nat) (i q : Nat) : va_up (rfR ad v) i (some (ad (RB q))) = rfR ad (fun j => if j = i then q + 1 else v j) := by
  funext j
  by_cases h : j = i
  · exact (if_pos h).trans (rfR_pt ad (if_pos h))
  · exact (if_neg h).trans (congrArg (fun z => if z = 0 then none else some (ad (199 + z))) (if_neg h).symm)
theorem up_rfP (ad : Nat → Nat) (v : Nat → Nat) (i q : Nat) : va_up (rfP ad v) i (some (ad (PB q))) = rfP ad (fun j => if j = i then q + 1 else v j) := by
  funext j
  by_cases h : j = i
  · exact (if_pos h).trans (rfP_pt ad (if_pos h))
  · exact (if_neg h).trans (congrArg (fun z => if z = 0 then none else some (ad (16 + 16 * z))) (if_neg h).symm)
section EXQ
variable {p : Program} {l : Launch} {e : Env} {R : Room} {s : State} {m : MethodId} {args : Array Value} {below : List Frame} {meth : Method} {c : Code} {H : Heap} {locs : List Loc} {cells slots : Nat} {Q : State → Prop}
variable {cc : ByteArray} {pc : Nat} {ls : Array Slot} {rest : List Value} {D : va_G} {cy : Nat → ClassId} {A : Nat → Prop} {Ts : List Cond} {own : String} {nL : Nat} {C : List Nat} {ad : Nat → Nat} {f : Nat → Nat → Nat}
theorem ex_astR (M : MC p s m args meth c cc Ts own nL D cy A) (w : MO D A s.heap (C, ad, G cy ad f) H locs) {x n : Nat} (hx : x ∈ C) (he : ∀ v, sh cy ad x v = sQ (cy 3) n (rfR ad v)) {q : Nat} (hy : RB q ∈ C) {i : Nat} (hi : i < n) (hn : n < 2147483648) (hdg : decode cc pc = .ok (.aastore, 1))
    (kk : ∀ (H1 : Heap) (locs1 : List Loc), MO D A s.heap (C, ad, G cy ad (es f x i (q + 1))) H1 locs1 → W p l e R s m args below meth c H1 locs1 cells slots Q (F0 m (pc + 1) ls rest)) : W p l e R s m args below meth c H locs cells slots Q (F0 m pc ls (.ref (ad (RB q)) :: .int (nI i) :: .ref (ad x) :: rest)) := by
  refine mx_astR M w hx (g := G cy ad f) (he (f x)) hy (sh_RB cy ad q (f (RB q))) (vp_in_nI hi hn) hdg (fun H1 locs1 w1 => kk H1 locs1 ?_)
  rw [nI_clamp (Nat.lt_trans hi hn), up_rfR] at w1
  have w2 : MO D A s.heap (C, ad, mu (G cy ad f) x (sQ (cy 3) n (rfR ad (fun j => if j = i then q + 1 else f x j)))) H1 locs1 := w1
  rw [G_es (k := i) (v := q + 1) (he _)] at w2
  exact w2
theorem ex_astP (M : MC p s m args meth c cc Ts own nL D cy A) (w : MO D A s.heap (C, ad, G cy ad f) H locs) {x n : Nat} (hx : x ∈ C) (he : ∀ v, sh cy ad x v = sQ (cy 2) n (rfP ad v)) {q : Nat} (hq : q < 8) (hy : PB q ∈ C) {i : Nat} (hi : i < n) (hn : n < 2147483648) (hdg : decode cc pc = .ok (.aastore, 1))
    (kk : ∀ (H1 : Heap) (locs1 : List Loc), MO D A s.heap (C, ad, G cy ad (es f x i (q + 1))) H1 locs1 → W p l e R s m args below meth c H1 locs1 cells slots Q (F0 m (pc + 1) ls rest)) : W p l e R s m args below meth c H locs cells slots Q (F0 m pc ls (.ref (ad (PB q)) :: .int (nI i) :: .ref (ad x) :: rest)) := by
  refine mx_astP M w hx (g := G cy ad f) (he (f x)) hy (sh_P0 cy ad (f (PB q)) hq) (vp_in_nI hi hn) hdg (fun H1 locs1 w1 => kk H1 locs1 ?_)
  rw [nI_clamp (Nat.lt_trans hi hn), up_rfP] at w1
  have w2 : MO D A s.heap (C, ad, mu (G cy ad f) x (sQ (cy 2) n (rfP ad (fun j => if j = i then q + 1 else f x j)))) H1 locs1 := w1
  rw [G_es (k := i) (v := q + 1) (he _)] at w2
  exact w2
end EXQ
theorem le_m1 {d L : Nat} (hd : d < 1073741824) (hL : L < 1073741824) : nI d ≤ nI L - 1 ↔ d < L := by
  rw [Int32.le_iff_toInt_le, show (1 : Int32) = nI 1 from rfl, pk_sub_toInt hL (by decide), nI_toInt (by omega)]
  omega
theorem PB_ne {p k q j : Nat} (hk : k < 16) (hj : j < 16) (h : ¬ (p = q ∧ k = j)) : PB p + k ≠ PB q + j := by unfold PB; omega
theorem hrC_in {e : Nat → Nat → Nat} {p : Nat} (h0 : P0 e p) (hc : PCh e p) (dy : Nat) : 1 ≤ hrC e p dy ∧ hrC e p dy ≤ 10 := hN_in h0.2.2 (fun i hi => (hc.2 i hi).2)
/-- the same person's numbers, leave kinds apart -/
def EqP (e e' : Nat → Nat → Nat) (p : Nat) : Prop := ∀ k, k < 8 → e' (PB p + k) = e (PB p + k)
def EqR (e e' : Nat → Nat → Nat) : Prop := ∀ q, e' (RB q) = e (RB q)
theorem EqP.at0 {e e' : Nat → Nat → Nat} {p : Nat} (h : EqP e e' p) : e' (PB p) = e (PB p) := h 0 (by decide)
theorem PSp.eq {e e' : Nat → Nat → Nat} {p : Nat} (h : EqP e e' p) (hs : PSp e p) : PSp e' p := by
  unfold PSp at *
  rw [h.at0, h 4 (by decide), h 5 (by decide)]
  exact hs
theorem PRq.eq {e e' : Nat → Nat → Nat} {p nr : Nat} (h : EqP e e' p) (hs : PRq e p nr) : PRq e' p nr := by
  unfold PRq at *
  rw [h.at0, h 3 (by decide)]
  exact hs
theorem RW.eq {e e' : Nat → Nat → Nat} {nr : Nat} (h : EqR e e') (hs : RW e nr) : RW e' nr := by
  unfold RW at *
  intro q hq
  rw [h q]
  exact hs q hq
theorem lvC_eq {e e' : Nat → Nat → Nat} {p : Nat} (h : EqP e e' p) (hr : EqR e e') (dy : Nat) : lvC e' p dy = lvC e p dy := by
  have e1 : sckC e' p dy = sckC e p dy := by
    unfold sckC
    rw [h.at0, h 4 (by decide), h 5 (by decide)]
  have e2 : lvfC e' p dy = lvfC e p dy := by
    funext i
    unfold lvfC hldC
    rw [h 3 (by decide), hr]
  unfold lvC
  rw [e1, e2, h.at0]
theorem mkC_P (e : Nat → Nat → Nat) (p f t : Nat) : EqP e (mkC e p f t) p := fun k hk => by
  funext i
  unfold mkC
  rw [if_neg (by omega)]
theorem mkC_R (e : Nat → Nat → Nat) {p : Nat} (hp : p < 8) (f t : Nat) : EqR e (mkC e p f t) := fun q => by
  funext i
  unfold mkC
  rw [if_neg (by unfold RB PB; omega)]
theorem mkC_0 (e : Nat → Nat → Nat) (p f : Nat) : mkC e p f f = e := by
  funext c i
  unfold mkC
  rw [if_neg (by omega)]
theorem mkC_s (e : Nat → Nat → Nat) (p : Nat) {f i : Nat} (h : f ≤ i) : es (mkC e p f i) (PB p + 8) i (lvC e p i) = mkC e p f (i + 1) := by
  funext c j
  unfold es mkC
  by_cases h1 : c = PB p + 8 ∧ j = i
  · rw [if_pos h1, if_pos (by omega), h1.2]
  · rw [if_neg h1]
    by_cases h2 : c = PB p + 8 ∧ f ≤ j ∧ j < i
    · rw [if_pos h2, if_pos (by omega)]
    · rw [if_neg h2, if_neg (by omega)]
theorem lvfC_1 {e : Nat → Nat → Nat} {p dy i : Nat} (h : hldC e (e (PB p + 3) i - 1) dy = true) : lvfC e p dy i = e (RB (e (PB p + 3) i - 1)) 1 := if_pos h
theorem lvfC_0 {e : Nat → Nat → Nat} {p dy i : Nat} (h : hldC e (e (PB p + 3) i - 1) dy = false) : lvfC e p dy i = 0 := if_neg (by rw [h]; exact Bool.false_ne_true)
theorem mxN_s (f : Nat → Nat) (i : Nat) : mxN f (i + 1) = max (mxN f i) (f i) := rfl
theorem lvC_le {e : Nat → Nat → Nat} {p dy nr : Nat} (h : PRq e p nr) (hw : RW e nr) : lvC e p dy ≤ 2 := by
  unfold lvC
  split
  · exact Nat.zero_le _
  · refine mxN_le (fun i hi => ?_)
    unfold lvfC
    split
    · have h1 := h.2 i hi
      exact (hw _ (by omega)).1
    · exact Nat.zero_le _
def ehC (e : Nat → Nat → Nat) (p dy hh : Nat) : Nat → Nat → Nat := es (es (es e (PB p + 1) (fiN (e (PB p + 1)) dy (e (PB p) 5)) dy) (PB p + 2) (fiN (e (PB p + 1)) dy (e (PB p) 5)) hh) (PB p) 5 (max (e (PB p) 5) (fiN (e (PB p + 1)) dy (e (PB p) 5) + 1))
def erC0 (e : Nat → Nat → Nat) (p q : Nat) : Nat → Nat → Nat := es (es e (PB p + 3) (e (PB p) 7) (q + 1)) (PB p) 7 (e (PB p) 7 + 1)
def erC (e : Nat → Nat → Nat) (p q : Nat) : Nat → Nat → Nat := mkC (erC0 e p q) p (e (RB q) 2) (e (RB q) 3 + 1)
def esC0 (e : Nat → Nat → Nat) (p f t : Nat) : Nat → Nat → Nat := es (es (es e (PB p + 4) (e (PB p) 10) f) (PB p + 5) (e (PB p) 10) t) (PB p) 10 (e (PB p) 10 + 1)
def esC (e : Nat → Nat → Nat) (p f t : Nat) : Nat → Nat → Nat := mkC (esC0 e p f t) p f (t + 1)
def epC (e : Nat → Nat → Nat) (p d pts : Nat) : Nat → Nat → Nat := es (es (es e (PB p + 6) (e (PB p) 13) d) (PB p + 7) (e (PB p) 13) pts) (PB p) 13 (e (PB p) 13 + 1)
theorem es_at (e : Nat → Nat → Nat) (c k v c' k' : Nat) : es e c k v c' k' = if c' = c ∧ k' = k then v else e c' k' := rfl
theorem RB_PB {q p k : Nat} (hp : p < 8) (hk : k < 16) : RB q ≠ PB p + k := by unfold RB PB; omega
theorem RB_PB0 {q p : Nat} (hp : p < 8) : RB q ≠ PB p := by unfold RB PB; omega
theorem erC0_R (e : Nat → Nat → Nat) {p : Nat} (hp : p < 8) (q : Nat) : EqR e (erC0 e p q) := fun r => by
  unfold erC0
  rw [es_off _ _ _ (RB_PB0 hp), es_off _ _ _ (RB_PB hp (by decide))]
theorem esC0_R (e : Nat → Nat → Nat) {p : Nat} (hp : p < 8) (f t : Nat) : EqR e (esC0 e p f t) := fun r => by
  unfold esC0
  rw [es_off _ _ _ (RB_PB0 hp), es_off _ _ _ (RB_PB hp (by decide)), es_off _ _ _ (RB_PB hp (by decide))]
theorem erC0_Sp {e : Nat → Nat → Nat} {p : Nat} (q : Nat) (h : PSp e p) : PSp (erC0 e p q) p := by
  unfold PSp at *
  have e1 : ∀ k i, k = 4 ∨ k = 5 ∨ (k = 0 ∧ i = 10) → erC0 e p q (PB p + k) i = e (PB p + k) i := fun k i hk => by
    unfold erC0
    rw [es_at, if_neg (by omega), es_at, if_neg (by omega)]
  have e2 := e1 0 10 (by omega)
  rw [Nat.add_zero] at e2
  refine ⟨by rw [e2]; exact h.1, fun i hi => ?_⟩
  rw [e2] at hi
  rw [e1 4 i (by omega), e1 5 i (by omega)]
  exact h.2 i hi
theorem erC0_Rq {e : Nat → Nat → Nat} {p nr q : Nat} (h : PRq e p nr) (hq : q < nr) (hn : e (PB p) 7 < 40) : PRq (erC0 e p q) p nr := by
  unfold PRq at *
  have e1 : erC0 e p q (PB p) 7 = e (PB p) 7 + 1 := by
    unfold erC0
    rw [es_at, if_pos ⟨rfl, rfl⟩]
  have e2 : ∀ i, erC0 e p q (PB p + 3) i = if i = e (PB p) 7 then q + 1 else e (PB p + 3) i := fun i => by
    unfold erC0
    rw [es_at, if_neg (by omega), es_at]
    by_cases hi : i = e (PB p) 7
    · rw [if_pos ⟨rfl, hi⟩, if_pos hi]
    · rw [if_neg (by omega), if_neg hi]
  refine ⟨by rw [e1]; omega, fun i hi => ?_⟩
  rw [e1] at hi
  rw [e2]
  split
  · omega
  · exact h.2 i (by omega)
theorem esC0_Rq {e : Nat → Nat → Nat} {p nr : Nat} (f t : Nat) (h : PRq e p nr) : PRq (esC0 e p f t) p nr := by
  unfold PRq at *
  have e1 : ∀ k i, k = 3 ∨ (k = 0 ∧ i = 7) → esC0 e p f t (PB p + k) i = e (PB p + k) i := fun k i hk => by
    unfold esC0
    rw [es_at, if_neg (by omega), es_at, if_neg (by omega), es_at, if_neg (by omega)]
  have e2 := e1 0 7 (by omega)
  rw [Nat.add_zero] at e2
  refine ⟨by rw [e2]; exact h.1, fun i hi => ?_⟩
  rw [e2] at hi
  rw [e1 3 i (by omega)]
  exact h.2 i hi
theorem esC0_Sp {e : Nat → Nat → Nat} {p f t : Nat} (h : PSp e p) (hn : e (PB p) 10 < 30) (hf : f ≤ 3600) (ht : t ≤ 3600) : PSp (esC0 e p f t) p := by
  unfold PSp at *
  have e1 : esC0 e p f t (PB p) 10 = e (PB p) 10 + 1 := by
    unfold esC0
    rw [es_at, if_pos ⟨rfl, rfl⟩]
  have e4 : ∀ i, esC0 e p f t (PB p + 4) i = if i = e (PB p) 10 then f else e (PB p + 4) i := fun i => by
    unfold esC0
    rw [es_at, if_neg (by omega), es_at, if_neg (by omega), es_at]
    by_cases hi : i = e (PB p) 10
    · rw [if_pos ⟨rfl, hi⟩, if_pos hi]
    · rw [if_neg (by omega), if_neg hi]
  have e5 : ∀ i, esC0 e p f t (PB p + 5) i = if i = e (PB p) 10 then t else e (PB p + 5) i := fun i => by
    unfold esC0
    rw [es_at, if_neg (by omega), es_at]
    by_cases hi : i = e (PB p) 10
    · rw [if_pos ⟨rfl, hi⟩, if_pos hi]
    · rw [if_neg (by omega), if_neg hi, es_at, if_neg (by omega)]
  refine ⟨by rw [e1]; omega, fun i hi => ?_⟩
  rw [e1] at hi
  rw [e4, e5]
  by_cases hi2 : i = e (PB p) 10
  · rw [if_pos hi2, if_pos hi2]; exact ⟨hf, ht⟩
  · rw [if_neg hi2, if_neg hi2]
    exact h.2 i (by omega)
