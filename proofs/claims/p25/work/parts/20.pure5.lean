/-! ===== new objects in the whole heap ===== -/
theorem rfP_ad {ad ad' : Nat → Nat} {v : Nat → Nat} (h : ∀ j, v j ≠ 0 → ad' (16 + 16 * v j) = ad (16 + 16 * v j)) : rfP ad v = rfP ad' v := by
  funext j
  unfold rfP
  by_cases z : v j = 0
  · rw [if_pos z, if_pos z]
  · rw [if_neg z, if_neg z, h j z]
theorem rfR_ad {ad ad' : Nat → Nat} {v : Nat → Nat} (h : ∀ j, v j ≠ 0 → ad' (199 + v j) = ad (199 + v j)) : rfR ad v = rfR ad' v := by
  funext j
  unfold rfR
  by_cases z : v j = 0
  · rw [if_pos z, if_pos z]
  · rw [if_neg z, if_neg z, h j z]
/-- what stands is the same when the addresses of what stands are -/
theorem G_old {cy : Nat → ClassId} {ad ad' : Nat → Nat} {e : Nat → Nat → Nat} {C : List Nat} (hCC : CC (e 0 1) (e 0 3) C) (hW : CW e) (had : ∀ c, c ∈ C → ad' c = ad c) : ∀ c, c ∈ C → G cy ad e c = G cy ad' e c := by
  intro c hc
  have hB := fun k hk => had k (hCC.B k hk)
  have n8 := hW.np
  unfold G
  rcases (hCC c).mp hc with h | h | h
  · have q : c = 0 ∨ c = 1 ∨ c = 2 ∨ c = 3 ∨ c = 4 ∨ c = 5 ∨ c = 6 ∨ c = 7 ∨ c = 8 ∨ c = 9 ∨ c = 10 ∨ c = 11 ∨ c = 12 := by omega
    rcases q with rfl | rfl | rfl | rfl | rfl | rfl | rfl | rfl | rfl | rfl | rfl | rfl | rfl
    · rw [sh_0, sh_0, hB 1 (by decide), hB 2 (by decide), hB 3 (by decide)]
    · rw [sh_1, sh_1, rfP_ad (fun j hj => had _ (by
        have z := hW.pa j
        split at z
        · rw [z, show 16 + 16 * (j + 1) = PB j + 0 by unfold PB; omega]; exact hCC.P (by omega) 0 (by decide)
        · exact absurd z hj))]
    · rw [sh_2, sh_2, rfR_ad (fun j hj => had _ (by
        have z := hW.ra j
        split at z
        · rw [z, show 199 + (j + 1) = RB j by unfold RB; omega]; exact hCC.R _ (by omega)
        · exact absurd z hj))]
    · rw [sh_3, sh_3, hB 4 (by decide), hB 5 (by decide)]
    · rfl
    · rfl
    · rfl
    · rfl
    · rfl
    · rfl
    · rfl
    · rfl
    · rfl
  · obtain ⟨p, k, hp, hk, rfl⟩ : ∃ p k, p < e 0 1 ∧ k < 9 ∧ c = PB p + k := ⟨(c - 32) / 16, c % 16, by omega, by omega, by unfold PB; omega⟩
    have hP := fun j hj => had _ (hCC.P hp j hj)
    have hp8 : p < 8 := by omega
    clear hc h
    revert k
    refine k9 ?_ ?_ ?_ ?_ ?_ ?_ ?_ ?_ ?_
    · show sh cy ad (PB p) _ = sh cy ad' (PB p) _
      rw [sh_P0 cy ad _ hp8, sh_P0 cy ad' _ hp8, hP 1 (by decide), hP 2 (by decide), hP 3 (by decide), hP 4 (by decide), hP 5 (by decide), hP 6 (by decide), hP 7 (by decide), hP 8 (by decide)]
    · rw [sh_P1 cy ad _ hp8, sh_P1 cy ad' _ hp8]
    · rw [sh_P2 cy ad _ hp8, sh_P2 cy ad' _ hp8]
    · rw [sh_P3 cy ad _ hp8, sh_P3 cy ad' _ hp8, rfR_ad (fun j hj => had _ (by
        have z := hW.own hp j
        rw [show 199 + e (PB p + 3) j = RB (e (PB p + 3) j - 1) by unfold RB; omega]
        exact hCC.R _ (by omega)))]
    · rw [sh_P4 cy ad _ hp8, sh_P4 cy ad' _ hp8]
    · rw [sh_P5 cy ad _ hp8, sh_P5 cy ad' _ hp8]
    · rw [sh_P6 cy ad _ hp8, sh_P6 cy ad' _ hp8]
    · rw [sh_P7 cy ad _ hp8, sh_P7 cy ad' _ hp8]
    · rw [sh_P8 cy ad _ hp8, sh_P8 cy ad' _ hp8]
  · obtain ⟨q, hq, rfl⟩ : ∃ q, q < e 0 3 ∧ c = RB q := ⟨c - 200, by omega, by unfold RB; omega⟩
    rw [sh_RB, sh_RB]
    have z := hCC.P (hW.rq q hq).1 0 (by decide)
    rw [Nat.add_zero] at z
    rw [had _ z]
/-- a new person's numbers, entered nowhere -/
def anP (e : Nat → Nat → Nat) (a h : Nat) : Nat → Nat → Nat := fun c i => if PB (e 0 1) ≤ c ∧ c < PB (e 0 1) + 9 then pnE (e 0 6) a h (c - PB (e 0 1)) i else e c i
def addC (e : Nat → Nat → Nat) (a h : Nat) : Nat → Nat → Nat := es (es (anP e a h) 1 (e 0 1) (e 0 1 + 1)) 0 1 (e 0 1 + 1)
def anR (e : Nat → Nat → Nat) (p f t h : Nat) : Nat → Nat → Nat := fun c i => if c = RB (e 0 3) then (if i = 0 then p else if i = 1 then (if h = 0 then 2 else 1) else if i = 2 then f else if i = 3 then t else 0) else e c i
def reqC (e : Nat → Nat → Nat) (p f t h : Nat) : Nat → Nat → Nat := es (es (erC (anR e p f t h) p (e 0 3)) 2 (e 0 3) (e 0 3 + 1)) 0 3 (e 0 3 + 1)
theorem anP_off (e : Nat → Nat → Nat) (a h : Nat) {c : Nat} (hc : ¬ (PB (e 0 1) ≤ c ∧ c < PB (e 0 1) + 9)) : anP e a h c = e c := by
  funext i
  exact if_neg hc
theorem anR_off (e : Nat → Nat → Nat) (p f t h : Nat) {c : Nat} (hc : c ≠ RB (e 0 3)) : anR e p f t h c = e c := by
  funext i
  exact if_neg hc
theorem CC.newP {np nr : Nat} {C : List Nat} (h : CC np nr C) (hn : np < 8) : ∀ k, k < 9 → PB np + k ∉ C := fun k hk z => by
  have z2 := (h _).mp z
  unfold PB at z2
  omega
theorem CC.newR {np nr : Nat} {C : List Nat} (h : CC np nr C) (hn : np ≤ 8) : RB nr ∉ C := fun z => by
  have z2 := (h _).mp z
  unfold RB at z2
  omega
def c9 (np : Nat) (C : List Nat) : List Nat := ((((((((C ++ [PB np]) ++ [PB np + 1]) ++ [PB np + 2]) ++ [PB np + 3]) ++ [PB np + 4]) ++ [PB np + 5]) ++ [PB np + 6]) ++ [PB np + 7]) ++ [PB np + 8]
theorem c9_in {np c : Nat} {C : List Nat} : c ∈ c9 np C ↔ c ∈ C ∨ (PB np ≤ c ∧ c < PB np + 9) := by
  unfold c9
  simp only [List.mem_append, List.mem_singleton]
  by_cases q : c ∈ C
  · simp only [q, true_or]
  · simp only [q, false_or]
    omega
theorem CC.addP {np nr : Nat} {C : List Nat} (h : CC np nr C) : CC (np + 1) nr (c9 np C) := fun c => by
  rw [c9_in, h c]
  unfold PB
  omega
theorem CC.addR {np nr : Nat} {C : List Nat} (h : CC np nr C) : CC np (nr + 1) (C ++ [RB nr]) := fun c => by
  rw [List.mem_append, List.mem_singleton, h c]
  unfold RB
  omega
theorem G_addP {cy : Nat → ClassId} {ad ad' : Nat → Nat} {e : Nat → Nat → Nat} {C : List Nat} {a h : Nat} {g' : Nat → va_E} (hCC : CC (e 0 1) (e 0 3) C) (hW : CW e) (hn : e 0 1 < 8) (had : ∀ c, c ∈ C → ad' c = ad c) (hg : ∀ c, c ∈ C → g' c = G cy ad e c) (hk : ∀ k, k < 9 → g' (PB (e 0 1) + k) = sh cy ad' (PB (e 0 1) + k) (pnE (e 0 6) a h k)) : ∀ c ∈ c9 (e 0 1) C, ad' c = ad' c ∧ g' c = G cy ad' (anP e a h) c := fun c hc => by
  refine ⟨rfl, ?_⟩
  by_cases z : PB (e 0 1) ≤ c ∧ c < PB (e 0 1) + 9
  · obtain ⟨k, hk9, rfl⟩ : ∃ k, k < 9 ∧ c = PB (e 0 1) + k := ⟨c - PB (e 0 1), by omega, by omega⟩
    rw [hk k hk9]
    unfold G
    congr 1
    funext i
    unfold anP
    rw [if_pos z, Nat.add_sub_cancel_left]
  · have z1 : c ∈ C := (c9_in.mp hc).elim id (fun y => absurd y z)
    rw [hg c z1, G_old hCC hW had c z1]
    unfold G
    rw [anP_off e a h z]
theorem G_addR {cy : Nat → ClassId} {ad ad' : Nat → Nat} {e : Nat → Nat → Nat} {C : List Nat} {p f t h : Nat} {g' : Nat → va_E} (hCC : CC (e 0 1) (e 0 3) C) (hW : CW e) (had : ∀ c, c ∈ C → ad' c = ad c) (hg : ∀ c, c ∈ C → g' c = G cy ad e c) (hk : g' (RB (e 0 3)) = .inr (2, [.ref (ad' (PB p)), .int (nI (if h = 0 then 2 else 1)), .int (nI f), .int (nI t), .int (nI 0)])) : ∀ c ∈ C ++ [RB (e 0 3)], ad' c = ad' c ∧ g' c = G cy ad' (anR e p f t h) c := fun c hc => by
  refine ⟨rfl, ?_⟩
  by_cases z : c = RB (e 0 3)
  · subst z
    rw [hk]
    unfold G
    rw [sh_RB]
    have q : ∀ i, anR e p f t h (RB (e 0 3)) i = (if i = 0 then p else if i = 1 then (if h = 0 then 2 else 1) else if i = 2 then f else if i = 3 then t else 0) := fun i => if_pos rfl
    rw [q 0, q 1, q 2, q 3, q 4]
    rfl
  · rcases List.mem_append.mp hc with z1 | z1
    · rw [hg c z1, G_old hCC hW had c z1]
      unfold G
      rw [anR_off e p f t h z]
    · exact absurd (List.mem_singleton.mp z1) z
