/-! ===== MY KIT: ints of any sign, as numbers below 2^32 ===== -/
theorem nI_toIW (a : Nat) (h : a < 4294967296) : (nI a).toInt = if a < 2147483648 then (a : Int) else (a : Int) - 4294967296 := by
  unfold nI
  rw [Int32.toInt_ofNat']
  split <;> simp [Int.bmod_def] <;> omega
theorem nI_ltW {a b : Nat} (ha : a < 4294967296) (hb : b < 2147483648) : nI a < nI b ↔ a < b ∨ 2147483648 ≤ a := by
  rw [Int32.lt_iff_toInt_lt, nI_toIW a ha, nI_toIW b (by omega), if_pos hb]
  split <;> omega
theorem nI_leW {a b : Nat} (ha : a < 4294967296) (hb : b < 2147483648) : nI a ≤ nI b ↔ a ≤ b ∨ 2147483648 ≤ a := by
  rw [Int32.le_iff_toInt_le, nI_toIW a ha, nI_toIW b (by omega), if_pos hb]
  split <;> omega
theorem nI_ltV {a b : Nat} (ha : a < 4294967296) (hb : b < 2147483648) : nI b < nI a ↔ b < a ∧ a < 2147483648 := by
  rw [Int32.lt_iff_toInt_lt, nI_toIW a ha, nI_toIW b (by omega), if_pos hb]
  split <;> omega
theorem nI_leV {a b : Nat} (ha : a < 4294967296) (hb : b < 2147483648) : nI b ≤ nI a ↔ b ≤ a ∧ a < 2147483648 := by
  rw [Int32.le_iff_toInt_le, nI_toIW a ha, nI_toIW b (by omega), if_pos hb]
  split <;> omega
theorem nI_eqW {a b : Nat} (ha : a < 4294967296) (hb : b < 4294967296) : nI a = nI b ↔ a = b := by
  rw [← Int32.toInt_inj, nI_toIW a ha, nI_toIW b hb]
  split <;> split <;> omega
/-- every int is one -/
theorem nI_all (x : Int32) : ∃ k, k < 4294967296 ∧ x = nI k := by
  refine ⟨(if 0 ≤ x.toInt then x.toInt.toNat else (x.toInt + 4294967296).toNat), ?_, ?_⟩
  · have h1 := x.toInt_lt
    have h2 := x.le_toInt
    split <;> omega
  · have h1 := x.toInt_lt
    have h2 := x.le_toInt
    rw [← Int32.toInt_inj, nI_toIW _ (by split <;> omega)]
    split <;> split <;> omega
section MWR
variable {p : Program} {l : Launch} {e : Env} {R : Room} {s : State} {m : MethodId} {args : Array Value} {below : List Frame} {meth : Method} {c : Code} {H : Heap} {locs : List Loc} {cells slots : Nat} {Q : State → Prop}
variable {cc : ByteArray} {pc : Nat} {ls : Array Slot} {rest : List Value}
theorem mw_lt (hx : p.tables.exec = Jvm.exec) (hb9 : c.code = cc) {a b : Nat} (ha : a < 4294967296) (hb : b < 2147483648) {off : Int} (tgt : Nat) (hdg : decode cc pc = .ok (.if_icmp .lt off, 3)) (ht : (pc : Int) + off = (tgt : Int)) (kt : a < b ∨ 2147483648 ≤ a → W p l e R s m args below meth c H locs cells slots Q (F0 m tgt ls rest)) (kf : b ≤ a ∧ a < 2147483648 → W p l e R s m args below meth c H locs cells slots Q (F0 m (pc + 3) ls rest)) : W p l e R s m args below meth c H locs cells slots Q (F0 m pc ls (.int (nI b) :: .int (nI a) :: rest)) := lv_icmp_lt hx hb9 hdg ht (fun h => kt ((nI_ltW ha hb).mp h)) (fun h => kf (by have z := (not_congr (nI_ltW ha hb)).mp h; omega))
theorem mw_ge (hx : p.tables.exec = Jvm.exec) (hb9 : c.code = cc) {a b : Nat} (ha : a < 4294967296) (hb : b < 2147483648) {off : Int} (tgt : Nat) (hdg : decode cc pc = .ok (.if_icmp .ge off, 3)) (ht : (pc : Int) + off = (tgt : Int)) (kt : b ≤ a ∧ a < 2147483648 → W p l e R s m args below meth c H locs cells slots Q (F0 m tgt ls rest)) (kf : a < b ∨ 2147483648 ≤ a → W p l e R s m args below meth c H locs cells slots Q (F0 m (pc + 3) ls rest)) : W p l e R s m args below meth c H locs cells slots Q (F0 m pc ls (.int (nI b) :: .int (nI a) :: rest)) := lv_icmp_ge hx hb9 hdg ht (fun h => kt ((nI_leV ha hb).mp h)) (fun h => kf (by have z := (not_congr (nI_leV ha hb)).mp h; omega))
theorem mw_gt (hx : p.tables.exec = Jvm.exec) (hb9 : c.code = cc) {a b : Nat} (ha : a < 4294967296) (hb : b < 2147483648) {off : Int} (tgt : Nat) (hdg : decode cc pc = .ok (.if_icmp .gt off, 3)) (ht : (pc : Int) + off = (tgt : Int)) (kt : b < a ∧ a < 2147483648 → W p l e R s m args below meth c H locs cells slots Q (F0 m tgt ls rest)) (kf : a ≤ b ∨ 2147483648 ≤ a → W p l e R s m args below meth c H locs cells slots Q (F0 m (pc + 3) ls rest)) : W p l e R s m args below meth c H locs cells slots Q (F0 m pc ls (.int (nI b) :: .int (nI a) :: rest)) := lv_icmp_gt hx hb9 hdg ht (fun h => kt ((nI_ltV ha hb).mp h)) (fun h => kf (by have z := (not_congr (nI_ltV ha hb)).mp h; omega))
theorem mw_le (hx : p.tables.exec = Jvm.exec) (hb9 : c.code = cc) {a b : Nat} (ha : a < 4294967296) (hb : b < 2147483648) {off : Int} (tgt : Nat) (hdg : decode cc pc = .ok (.if_icmp .le off, 3)) (ht : (pc : Int) + off = (tgt : Int)) (kt : a ≤ b ∨ 2147483648 ≤ a → W p l e R s m args below meth c H locs cells slots Q (F0 m tgt ls rest)) (kf : b < a ∧ a < 2147483648 → W p l e R s m args below meth c H locs cells slots Q (F0 m (pc + 3) ls rest)) : W p l e R s m args below meth c H locs cells slots Q (F0 m pc ls (.int (nI b) :: .int (nI a) :: rest)) := lv_icmp_le hx hb9 hdg ht (fun h => kt ((nI_leW ha hb).mp h)) (fun h => kf (by have z := (not_congr (nI_leW ha hb)).mp h; omega))
theorem mw_gt2 (hx : p.tables.exec = Jvm.exec) (hb9 : c.code = cc) {a b : Nat} (ha : a < 2147483648) (hb : b < 4294967296) {off : Int} (tgt : Nat) (hdg : decode cc pc = .ok (.if_icmp .gt off, 3)) (ht : (pc : Int) + off = (tgt : Int)) (kt : b < a ∨ 2147483648 ≤ b → W p l e R s m args below meth c H locs cells slots Q (F0 m tgt ls rest)) (kf : a ≤ b ∧ b < 2147483648 → W p l e R s m args below meth c H locs cells slots Q (F0 m (pc + 3) ls rest)) : W p l e R s m args below meth c H locs cells slots Q (F0 m pc ls (.int (nI b) :: .int (nI a) :: rest)) := lv_icmp_gt hx hb9 hdg ht (fun h => kt ((nI_ltW hb ha).mp h)) (fun h => kf (by have z := (not_congr (nI_ltW hb ha)).mp h; omega))
theorem mw_eq (hx : p.tables.exec = Jvm.exec) (hb9 : c.code = cc) {a b : Nat} (ha : a < 4294967296) (hb : b < 4294967296) {off : Int} (tgt : Nat) (hdg : decode cc pc = .ok (.if_icmp .eq off, 3)) (ht : (pc : Int) + off = (tgt : Int)) (kt : a = b → W p l e R s m args below meth c H locs cells slots Q (F0 m tgt ls rest)) (kf : ¬ a = b → W p l e R s m args below meth c H locs cells slots Q (F0 m (pc + 3) ls rest)) : W p l e R s m args below meth c H locs cells slots Q (F0 m pc ls (.int (nI b) :: .int (nI a) :: rest)) := lv_icmp_eq hx hb9 hdg ht (fun h => kt ((nI_eqW ha hb).mp h)) (fun h => kf (fun z => h ((nI_eqW ha hb).mpr z)))
theorem mw_ne (hx : p.tables.exec = Jvm.exec) (hb9 : c.code = cc) {a b : Nat} (ha : a < 4294967296) (hb : b < 4294967296) {off : Int} (tgt : Nat) (hdg : decode cc pc = .ok (.if_icmp .ne off, 3)) (ht : (pc : Int) + off = (tgt : Int)) (kt : ¬ a = b → W p l e R s m args below meth c H locs cells slots Q (F0 m tgt ls rest)) (kf : a = b → W p l e R s m args below meth c H locs cells slots Q (F0 m (pc + 3) ls rest)) : W p l e R s m args below meth c H locs cells slots Q (F0 m pc ls (.int (nI b) :: .int (nI a) :: rest)) := lv_icmp_ne hx hb9 hdg ht (fun h => kt (fun z => h ((nI_eqW ha hb).mpr z))) (fun h => kf ((nI_eqW ha hb).mp h))
theorem mw_if_lt (hx : p.tables.exec = Jvm.exec) (hb9 : c.code = cc) {a : Nat} (ha : a < 4294967296) {off : Int} (tgt : Nat) (hdg : decode cc pc = .ok (.ifCond .lt off, 3)) (ht : (pc : Int) + off = (tgt : Int)) (kt : 2147483648 ≤ a → W p l e R s m args below meth c H locs cells slots Q (F0 m tgt ls rest)) (kf : a < 2147483648 → W p l e R s m args below meth c H locs cells slots Q (F0 m (pc + 3) ls rest)) : W p l e R s m args below meth c H locs cells slots Q (F0 m pc ls (.int (nI a) :: rest)) := lv_if_lt hx hb9 hdg ht (fun h => kt (by have z := (nI_ltW ha (b := 0) (by omega)).mp h; omega)) (fun h => kf (by have z := (not_congr (nI_ltW ha (b := 0) (by omega))).mp h; omega))
theorem mw_if_eq (hx : p.tables.exec = Jvm.exec) (hb9 : c.code = cc) {a : Nat} (ha : a < 4294967296) {off : Int} (tgt : Nat) (hdg : decode cc pc = .ok (.ifCond .eq off, 3)) (ht : (pc : Int) + off = (tgt : Int)) (kt : a = 0 → W p l e R s m args below meth c H locs cells slots Q (F0 m tgt ls rest)) (kf : ¬ a = 0 → W p l e R s m args below meth c H locs cells slots Q (F0 m (pc + 3) ls rest)) : W p l e R s m args below meth c H locs cells slots Q (F0 m pc ls (.int (nI a) :: rest)) := lv_if_eq hx hb9 hdg ht (fun h => kt ((nI_eqW ha (b := 0) (by omega)).mp h)) (fun h => kf (fun z => h ((nI_eqW ha (b := 0) (by omega)).mpr z)))
theorem mw_if_ne (hx : p.tables.exec = Jvm.exec) (hb9 : c.code = cc) {a : Nat} (ha : a < 4294967296) {off : Int} (tgt : Nat) (hdg : decode cc pc = .ok (.ifCond .ne off, 3)) (ht : (pc : Int) + off = (tgt : Int)) (kt : ¬ a = 0 → W p l e R s m args below meth c H locs cells slots Q (F0 m tgt ls rest)) (kf : a = 0 → W p l e R s m args below meth c H locs cells slots Q (F0 m (pc + 3) ls rest)) : W p l e R s m args below meth c H locs cells slots Q (F0 m pc ls (.int (nI a) :: rest)) := lv_if_ne hx hb9 hdg ht (fun h => kt (fun z => h ((nI_eqW ha (b := 0) (by omega)).mpr z))) (fun h => kf ((nI_eqW ha (b := 0) (by omega)).mp h))
end MWR
/-- the codes that stand -/
def CC (np nr : Nat) (C : List Nat) : Prop := ∀ c, c ∈ C ↔ c < 13 ∨ (32 ≤ c ∧ c < 32 + 16 * np ∧ c % 16 < 9) ∨ (200 ≤ c ∧ c < 200 + nr)
theorem CC.B {np nr : Nat} {C : List Nat} (h : CC np nr C) : ∀ k, k < 13 → k ∈ C := fun k hk => (h k).mpr (Or.inl hk)
theorem CC.P {np nr : Nat} {C : List Nat} (h : CC np nr C) {p : Nat} (hp : p < np) : ∀ k, k < 9 → PB p + k ∈ C := fun k hk => (h _).mpr (Or.inr (Or.inl (by unfold PB; omega)))
theorem CC.R {np nr : Nat} {C : List Nat} (h : CC np nr C) : ∀ q, q < nr → RB q ∈ C := fun q hq => (h _).mpr (Or.inr (Or.inr (by unfold RB; omega)))
/-- what stands of the class's numbers between calls -/
def CWp (e : Nat → Nat → Nat) (p : Nat) : Prop := P0 e p ∧ PCh e p ∧ PSp e p ∧ PPy e p ∧ PLv e p ∧ PRq e p (e 0 3) ∧ e (PB p) 7 ≤ e 0 3 ∧ e (PB p) 10 ≤ e 0 4 ∧ e (PB p) 13 ≤ e 0 5
def CW (e : Nat → Nat → Nat) : Prop := e 0 1 ≤ 8 ∧ e 0 3 ≤ 40 ∧ e 0 4 ≤ 30 ∧ e 0 5 ≤ 20 ∧ e 0 6 ≤ 3600 ∧ (∀ i, e 1 i = if i < e 0 1 then i + 1 else 0) ∧ (∀ i, e 2 i = if i < e 0 3 then i + 1 else 0) ∧ RW e (e 0 3) ∧ (∀ q, q < e 0 3 → e (RB q) 0 < e 0 1 ∧ e (PB (e (RB q) 0)) 0 ≤ e (RB q) 2 ∧ e (RB q) 2 ≤ e (RB q) 3) ∧ ∀ p, p < e 0 1 → CWp e p ∧ ∀ i, e (PB p + 3) i ≤ e 0 3
section
variable {e : Nat → Nat → Nat}
theorem CW.np (h : CW e) : e 0 1 ≤ 8 := h.1
theorem CW.nr (h : CW e) : e 0 3 ≤ 40 := h.2.1
theorem CW.ns (h : CW e) : e 0 4 ≤ 30 := h.2.2.1
theorem CW.ny (h : CW e) : e 0 5 ≤ 20 := h.2.2.2.1
theorem CW.td (h : CW e) : e 0 6 ≤ 3600 := h.2.2.2.2.1
theorem CW.ps (h : CW e) : ∀ i, i < 8 → e 1 i = if i < e 0 1 then i + 1 else 0 := fun i _ => h.2.2.2.2.2.1 i
theorem CW.pa (h : CW e) : ∀ i, e 1 i = if i < e 0 1 then i + 1 else 0 := h.2.2.2.2.2.1
theorem CW.rs (h : CW e) : ∀ i, i < 40 → e 2 i = if i < e 0 3 then i + 1 else 0 := fun i _ => h.2.2.2.2.2.2.1 i
theorem CW.ra (h : CW e) : ∀ i, e 2 i = if i < e 0 3 then i + 1 else 0 := h.2.2.2.2.2.2.1
theorem CW.rw' (h : CW e) : RW e (e 0 3) := h.2.2.2.2.2.2.2.1
theorem CW.rq (h : CW e) : ∀ q, q < e 0 3 → e (RB q) 0 < e 0 1 ∧ e (PB (e (RB q) 0)) 0 ≤ e (RB q) 2 ∧ e (RB q) 2 ≤ e (RB q) 3 := h.2.2.2.2.2.2.2.2.1
theorem CW.p (h : CW e) {p : Nat} (hp : p < e 0 1) : CWp e p := (h.2.2.2.2.2.2.2.2.2 p hp).1
theorem CW.own (h : CW e) {p : Nat} (hp : p < e 0 1) : ∀ i, e (PB p + 3) i ≤ e 0 3 := (h.2.2.2.2.2.2.2.2.2 p hp).2
theorem CWp.a0 {p : Nat} (h : CWp e p) : P0 e p := h.1
theorem CWp.ch {p : Nat} (h : CWp e p) : PCh e p := h.2.1
theorem CWp.sp {p : Nat} (h : CWp e p) : PSp e p := h.2.2.1
theorem CWp.py {p : Nat} (h : CWp e p) : PPy e p := h.2.2.2.1
theorem CWp.lv {p : Nat} (h : CWp e p) : PLv e p := h.2.2.2.2.1
theorem CWp.rq {p : Nat} (h : CWp e p) : PRq e p (e 0 3) := h.2.2.2.2.2.1
end
