/-! ===== MY KIT: the shape of the whole heap, and rows over numbers ===== -/
def es (e : Nat → Nat → Nat) (c k v : Nat) : Nat → Nat → Nat := fun c' k' => if c' = c ∧ k' = k then v else e c' k'
theorem es_same (e : Nat → Nat → Nat) (c k v : Nat) : es e c k v c k = v := if_pos ⟨rfl, rfl⟩
theorem es_ne (e : Nat → Nat → Nat) {c k c' k' : Nat} (v : Nat) (h : ¬ (c' = c ∧ k' = k)) : es e c k v c' k' = e c' k' := if_neg h
theorem es_row (e : Nat → Nat → Nat) (c k v : Nat) : es e c k v c = fun i => if i = k then v else e c i := by
  funext i
  unfold es
  by_cases h : i = k
  · rw [if_pos ⟨rfl, h⟩, if_pos h]
  · rw [if_neg (fun z => h z.2), if_neg h]
theorem es_off (e : Nat → Nat → Nat) {c c' : Nat} (k v : Nat) (h : c' ≠ c) : es e c k v c' = e c' := by
  funext i
  exact if_neg (fun z => h z.1)
def PB (p : Nat) : Nat := 32 + 16 * p
def RB (r : Nat) : Nat := 200 + r
def sI (cy : Nat → ClassId) (n : Nat) (v : Nat → Nat) : va_E := .inl (cy 0, n, .inl (fun j => nI (v j)))
def sQ (c : ClassId) (n : Nat) (f : Nat → Option Nat) : va_E := .inl (c, n, .inr (.inr (.inr (.inr f))))
def rfP (ad : Nat → Nat) (v : Nat → Nat) : Nat → Option Nat := fun j => if v j = 0 then none else some (ad (16 + 16 * v j))
def rfR (ad : Nat → Nat) (v : Nat → Nat) : Nat → Option Nat := fun j => if v j = 0 then none else some (ad (199 + v j))

def shB (cy : Nat → ClassId) (ad : Nat → Nat) (c : Nat) (v : Nat → Nat) : va_E := match c with
  | 0 => .inr (3, [.ref (ad 1), .int (nI (v 1)), .ref (ad 2), .int (nI (v 3)), .int (nI (v 4)), .int (nI (v 5)), .int (nI (v 6)), .ref (ad 3)])
  | 1 => sQ (cy 2) 8 (rfP ad v)
  | 2 => sQ (cy 3) 40 (rfR ad v)
  | 3 => .inr (0, [.ref (ad 4), .ref (ad 5), .int (nI (v 2)), .int (nI (v 3)), .int (nI (v 4)), .int (nI (v 5)), .int (nI (v 6)), .int (nI (v 7)), .int (nI (v 8)), .int (nI (v 9)), .int (nI (v 10))])
  | 4 => sI cy 120 v
  | 5 => sI cy 120 v
  | 6 => sI cy 5 v
  | 7 => sI cy 64 v
  | 8 => sI cy 60 v
  | 9 => sI cy 24 v
  | 10 => sI cy 30 v
  | 11 => sI cy 64 v
  | 12 => sI cy 6 v
  | _ => sI cy 0 v
def shP (cy : Nat → ClassId) (ad : Nat → Nat) (b k : Nat) (v : Nat → Nat) : va_E := match k with
  | 0 => .inr (1, [.int (nI (v 0)), .int (nI (v 1)), .int (nI (v 2)), .ref (ad (b + 1)), .ref (ad (b + 2)), .int (nI (v 5)), .ref (ad (b + 3)), .int (nI (v 7)), .ref (ad (b + 4)), .ref (ad (b + 5)), .int (nI (v 10)), .ref (ad (b + 6)), .ref (ad (b + 7)), .int (nI (v 13)), .ref (ad (b + 8))])
  | 1 => sI cy 10 v
  | 2 => sI cy 10 v
  | 3 => sQ (cy 3) 40 (rfR ad v)
  | 4 => sI cy 30 v
  | 5 => sI cy 30 v
  | 6 => sI cy 20 v
  | 7 => sI cy 20 v
  | 8 => sI cy 3601 v
  | _ => sI cy 0 v
def shR (ad : Nat → Nat) (v : Nat → Nat) : va_E := .inr (2, [.ref (ad (PB (v 0))), .int (nI (v 1)), .int (nI (v 2)), .int (nI (v 3)), .int (nI (v 4))])
def sh (cy : Nat → ClassId) (ad : Nat → Nat) (c : Nat) (v : Nat → Nat) : va_E := if c < 32 then shB cy ad c v else if c < 200 then shP cy ad (c - c % 16) (c % 16) v else shR ad v
theorem sh_B (cy : Nat → ClassId) (ad : Nat → Nat) {c : Nat} (v : Nat → Nat) (h : c < 32) : sh cy ad c v = shB cy ad c v := if_pos h
theorem sh_P (cy : Nat → ClassId) (ad : Nat → Nat) {p k : Nat} (v : Nat → Nat) (hp : p < 8) (hk : k < 16) : sh cy ad (PB p + k) v = shP cy ad (PB p) k v := by
  unfold sh PB
  rw [if_neg (by omega), if_pos (by omega), show (32 + 16 * p + k) % 16 = k by omega, show 32 + 16 * p + k - k = 32 + 16 * p by omega]
theorem sh_R (cy : Nat → ClassId) (ad : Nat → Nat) (r : Nat) (v : Nat → Nat) : sh cy ad (RB r) v = shR ad v := by
  unfold sh RB
  rw [if_neg (by omega), if_neg (by omega)]
theorem sh_0 (cy : Nat → ClassId) (ad : Nat → Nat) (v : Nat → Nat) : sh cy ad 0 v = .inr (3, [.ref (ad 1), .int (nI (v 1)), .ref (ad 2), .int (nI (v 3)), .int (nI (v 4)), .int (nI (v 5)), .int (nI (v 6)), .ref (ad 3)]) := rfl
theorem sh_1 (cy : Nat → ClassId) (ad : Nat → Nat) (v : Nat → Nat) : sh cy ad 1 v = sQ (cy 2) 8 (rfP ad v) := rfl
theorem sh_2 (cy : Nat → ClassId) (ad : Nat → Nat) (v : Nat → Nat) : sh cy ad 2 v = sQ (cy 3) 40 (rfR ad v) := rfl
theorem sh_3 (cy : Nat → ClassId) (ad : Nat → Nat) (v : Nat → Nat) : sh cy ad 3 v = .inr (0, [.ref (ad 4), .ref (ad 5), .int (nI (v 2)), .int (nI (v 3)), .int (nI (v 4)), .int (nI (v 5)), .int (nI (v 6)), .int (nI (v 7)), .int (nI (v 8)), .int (nI (v 9)), .int (nI (v 10))]) := rfl
theorem sh_4 (cy : Nat → ClassId) (ad : Nat → Nat) (v : Nat → Nat) : sh cy ad 4 v = sI cy 120 v := rfl
theorem sh_5 (cy : Nat → ClassId) (ad : Nat → Nat) (v : Nat → Nat) : sh cy ad 5 v = sI cy 120 v := rfl
theorem sh_6 (cy : Nat → ClassId) (ad : Nat → Nat) (v : Nat → Nat) : sh cy ad 6 v = sI cy 5 v := rfl
theorem sh_7 (cy : Nat → ClassId) (ad : Nat → Nat) (v : Nat → Nat) : sh cy ad 7 v = sI cy 64 v := rfl
theorem sh_8 (cy : Nat → ClassId) (ad : Nat → Nat) (v : Nat → Nat) : sh cy ad 8 v = sI cy 60 v := rfl
theorem sh_9 (cy : Nat → ClassId) (ad : Nat → Nat) (v : Nat → Nat) : sh cy ad 9 v = sI cy 24 v := rfl
theorem sh_10 (cy : Nat → ClassId) (ad : Nat → Nat) (v : Nat → Nat) : sh cy ad 10 v = sI cy 30 v := rfl
theorem sh_11 (cy : Nat → ClassId) (ad : Nat → Nat) (v : Nat → Nat) : sh cy ad 11 v = sI cy 64 v := rfl
theorem sh_12 (cy : Nat → ClassId) (ad : Nat → Nat) (v : Nat → Nat) : sh cy ad 12 v = sI cy 6 v := rfl
theorem sh_P0 (cy : Nat → ClassId) (ad : Nat → Nat) {p : Nat} (v : Nat → Nat) (hp : p < 8) : sh cy ad (PB p) v = .inr (1, [.int (nI (v 0)), .int (nI (v 1)), .int (nI (v 2)), .ref (ad (PB p + 1)), .ref (ad (PB p + 2)), .int (nI (v 5)), .ref (ad (PB p + 3)), .int (nI (v 7)), .ref (ad (PB p + 4)), .ref (ad (PB p + 5)), .int (nI (v 10)), .ref (ad (PB p + 6)), .ref (ad (PB p + 7)), .int (nI (v 13)), .ref (ad (PB p + 8))]) := sh_P cy ad (k := 0) v hp (by omega)
theorem sh_P1 (cy : Nat → ClassId) (ad : Nat → Nat) {p : Nat} (v : Nat → Nat) (hp : p < 8) : sh cy ad (PB p + 1) v = sI cy 10 v := sh_P cy ad (k := 1) v hp (by omega)
theorem sh_P2 (cy : Nat → ClassId) (ad : Nat → Nat) {p : Nat} (v : Nat → Nat) (hp : p < 8) : sh cy ad (PB p + 2) v = sI cy 10 v := sh_P cy ad (k := 2) v hp (by omega)
theorem sh_P3 (cy : Nat → ClassId) (ad : Nat → Nat) {p : Nat} (v : Nat → Nat) (hp : p < 8) : sh cy ad (PB p + 3) v = sQ (cy 3) 40 (rfR ad v) := sh_P cy ad (k := 3) v hp (by omega)
theorem sh_P4 (cy : Nat → ClassId) (ad : Nat → Nat) {p : Nat} (v : Nat → Nat) (hp : p < 8) : sh cy ad (PB p + 4) v = sI cy 30 v := sh_P cy ad (k := 4) v hp (by omega)
theorem sh_P5 (cy : Nat → ClassId) (ad : Nat → Nat) {p : Nat} (v : Nat → Nat) (hp : p < 8) : sh cy ad (PB p + 5) v = sI cy 30 v := sh_P cy ad (k := 5) v hp (by omega)
theorem sh_P6 (cy : Nat → ClassId) (ad : Nat → Nat) {p : Nat} (v : Nat → Nat) (hp : p < 8) : sh cy ad (PB p + 6) v = sI cy 20 v := sh_P cy ad (k := 6) v hp (by omega)
theorem sh_P7 (cy : Nat → ClassId) (ad : Nat → Nat) {p : Nat} (v : Nat → Nat) (hp : p < 8) : sh cy ad (PB p + 7) v = sI cy 20 v := sh_P cy ad (k := 7) v hp (by omega)
theorem sh_P8 (cy : Nat → ClassId) (ad : Nat → Nat) {p : Nat} (v : Nat → Nat) (hp : p < 8) : sh cy ad (PB p + 8) v = sI cy 3601 v := sh_P cy ad (k := 8) v hp (by omega)
theorem sh_RB (cy : Nat → ClassId) (ad : Nat → Nat) (r : Nat) (v : Nat → Nat) : sh cy ad (RB r) v = .inr (2, [.ref (ad (PB (v 0))), .int (nI (v 1)), .int (nI (v 2)), .int (nI (v 3)), .int (nI (v 4))]) := sh_R cy ad r v
def G (cy : Nat → ClassId) (ad : Nat → Nat) (e : Nat → Nat → Nat) : Nat → va_E := fun c => sh cy ad c (e c)
theorem G_mu {cy : Nat → ClassId} {ad : Nat → Nat} {e e' : Nat → Nat → Nat} {x : Nat} {E : va_E} (h1 : sh cy ad x (e' x) = E) (h2 : ∀ c, c ≠ x → e' c = e c) : mu (G cy ad e) x E = G cy ad e' := by
  funext c
  by_cases h : c = x
  · subst h
    rw [mu_same]
    exact h1.symm
  · rw [mu_ne _ _ h]
    unfold G
    rw [h2 c h]
theorem G_es {cy : Nat → ClassId} {ad : Nat → Nat} {e : Nat → Nat → Nat} {x k v : Nat} {E : va_E} (h : sh cy ad x (fun i => if i = k then v else e x i) = E) : mu (G cy ad e) x E = G cy ad (es e x k v) := G_mu (by rw [es_row]; exact h) (fun c hc => es_off e k v hc)
theorem up_nI (v : Nat → Nat) (i x : Nat) : upd (fun j => nI (v j)) i (nI x) = fun j => nI (if j = i then x else v j) := by
  funext j
  unfold upd
  by_cases h : j = i
  · rw [if_pos h, if_pos h]
  · rw [if_neg h, if_neg h]
theorem nI_inc (i k : Nat) : nI i + Int32.ofInt k = nI (i + k) := by
  rw [← nI_add]; rfl
theorem mb0 : Bundle.fit eIA = true := by decide +kernel
section MIR
variable {p : Program} {l : Launch} {e : Env} {R : Room} {s : State} {m : MethodId} {args : Array Value} {below : List Frame} {meth : Method} {c : Code} {H : Heap} {locs : List Loc} {cells slots : Nat} {Q : State → Prop}
variable {cc : ByteArray} {pc : Nat} {ls : Array Slot} {rest : List Value} {D : va_G} {cy : Nat → ClassId} {A : Nat → Prop} {Ts : List Cond} {own : String} {nL : Nat} {C : List Nat} {ad : Nat → Nat} {f : Nat → Nat → Nat}
theorem mi_add (hx : p.tables.exec = Jvm.exec) (hb : c.code = cc) {a b : Nat} (hdg : decode cc pc = .ok (.iadd, 1)) (k : W p l e R s m args below meth c H locs cells slots Q (F0 m (pc + 1) ls (.int (nI (a + b)) :: rest))) : W p l e R s m args below meth c H locs cells slots Q (F0 m pc ls (.int (nI b) :: .int (nI a) :: rest)) := lv_iadd hx hb hdg (by rw [nI_add]; exact k)
theorem mi_sub (hx : p.tables.exec = Jvm.exec) (hb : c.code = cc) {a b : Nat} (h : b ≤ a) (hdg : decode cc pc = .ok (.isub, 1)) (k : W p l e R s m args below meth c H locs cells slots Q (F0 m (pc + 1) ls (.int (nI (a - b)) :: rest))) : W p l e R s m args below meth c H locs cells slots Q (F0 m pc ls (.int (nI b) :: .int (nI a) :: rest)) := lv_isub hx hb hdg (by rw [pk_sub h]; exact k)
theorem mi_mul (hx : p.tables.exec = Jvm.exec) (hb : c.code = cc) {a b : Nat} (hdg : decode cc pc = .ok (.imul, 1)) (k : W p l e R s m args below meth c H locs cells slots Q (F0 m (pc + 1) ls (.int (nI (a * b)) :: rest))) : W p l e R s m args below meth c H locs cells slots Q (F0 m pc ls (.int (nI b) :: .int (nI a) :: rest)) := lv_imul hx hb hdg (by rw [pk_mul]; exact k)
theorem mi_div (hx : p.tables.exec = Jvm.exec) (hb : c.code = cc) {a b : Nat} (ha : a < 2147483648) (h0 : 0 < b) (hb2 : b < 2147483648) (hdg : decode cc pc = .ok (.idiv, 1)) (k : W p l e R s m args below meth c H locs cells slots Q (F0 m (pc + 1) ls (.int (nI (a / b)) :: rest))) : W p l e R s m args below meth c H locs cells slots Q (F0 m pc ls (.int (nI b) :: .int (nI a) :: rest)) := lv_idiv hx hb hdg (nI_ne0 h0 hb2) (by rw [pk_div ha h0 hb2]; exact k)
theorem mi_rem (hx : p.tables.exec = Jvm.exec) (hb : c.code = cc) {a b : Nat} (ha : a < 2147483648) (h0 : 0 < b) (hb2 : b < 2147483648) (hdg : decode cc pc = .ok (.irem, 1)) (k : W p l e R s m args below meth c H locs cells slots Q (F0 m (pc + 1) ls (.int (nI (a % b)) :: rest))) : W p l e R s m args below meth c H locs cells slots Q (F0 m pc ls (.int (nI b) :: .int (nI a) :: rest)) := lv_irem hx hb hdg (nI_ne0 h0 hb2) (by rw [pk_rem ha h0 hb2]; exact k)
theorem mi_min (M : MC p s m args meth c cc Ts own nL D cy A) (hls : ls.size = nL) {index : Nat} (hlink : Cond.methodLink own index Lib.Math.min.name ∈ Ts) (hst : Cond.static Lib.Math.min.name ∈ Ts) (hini : Cond.initialized "java/lang/Math" ∈ Ts) (hcode : Cond.code Lib.Math.min.name Lib.Math.min.code 2 (some .int) ∈ Ts) (hf : 1 ≤ R.frames) (hlo : (rest.map fun v => v.category).sum + 13 ≤ R.locals) (hc : cells ≤ R.cells) (hs : slots ≤ R.slots) {a b : Nat} (ha : a < 2147483648) (hb : b < 2147483648) (hdg : decode cc pc = .ok (.invokestatic index, 3))
    (k : W p l e R s m args below meth c H locs cells slots Q (F0 m (pc + 3) ls (.int (nI (min a b)) :: rest))) : W p l e R s m args below meth c H locs cells slots Q (F0 m pc ls (.int (nI b) :: .int (nI a) :: rest)) := by
  refine va_mmin M.1.1 M.1.2.1 (M.1.2.2.1.trans hls.symm) M.1.2.2.2.1 (M.1.2.2.2.2 _ hlink) (M.1.2.2.2.2 _ hst) (M.1.2.2.2.2 _ hini) (M.1.2.2.2.2 _ hcode) hf hlo hc hs hdg ?_
  have e9 : (if nI b < nI a then nI b else nI a) = nI (min a b) := by
    by_cases h : b < a
    · rw [if_pos ((nI_ltI hb ha).mpr h), Nat.min_eq_right (Nat.le_of_lt h)]
    · rw [if_neg (fun z => h ((nI_ltI hb ha).mp z)), Nat.min_eq_left (Nat.not_lt.mp h)]
  rw [e9]
  exact k
theorem mi_max (M : MC p s m args meth c cc Ts own nL D cy A) (hls : ls.size = nL) {index : Nat} (hlink : Cond.methodLink own index Lib.Math.max.name ∈ Ts) (hst : Cond.static Lib.Math.max.name ∈ Ts) (hini : Cond.initialized "java/lang/Math" ∈ Ts) (hcode : Cond.code Lib.Math.max.name Lib.Math.max.code 2 (some .int) ∈ Ts) (hf : 1 ≤ R.frames) (hlo : (rest.map fun v => v.category).sum + 13 ≤ R.locals) (hc : cells ≤ R.cells) (hs : slots ≤ R.slots) {a b : Nat} (ha : a < 2147483648) (hb : b < 2147483648) (hdg : decode cc pc = .ok (.invokestatic index, 3))
    (k : W p l e R s m args below meth c H locs cells slots Q (F0 m (pc + 3) ls (.int (nI (max a b)) :: rest))) : W p l e R s m args below meth c H locs cells slots Q (F0 m pc ls (.int (nI b) :: .int (nI a) :: rest)) := by
  refine va_mmax M.1.1 M.1.2.1 (M.1.2.2.1.trans hls.symm) M.1.2.2.2.1 (M.1.2.2.2.2 _ hlink) (M.1.2.2.2.2 _ hst) (M.1.2.2.2.2 _ hini) (M.1.2.2.2.2 _ hcode) hf hlo hc hs hdg ?_
  have e9 : (if nI a < nI b then nI b else nI a) = nI (max a b) := by
    by_cases h : a < b
    · rw [if_pos ((nI_ltI ha hb).mpr h), Nat.max_eq_right (Nat.le_of_lt h)]
    · rw [if_neg (fun z => h ((nI_ltI ha hb).mp z)), Nat.max_eq_left (Nat.not_lt.mp h)]
  rw [e9]
  exact k
theorem mi_eq (hx : p.tables.exec = Jvm.exec) (hb9 : c.code = cc) {a b : Nat} (ha : a < 2147483648) (hb : b < 2147483648) {off : Int} (tgt : Nat) (hdg : decode cc pc = .ok (.if_icmp .eq off, 3)) (ht : (pc : Int) + off = (tgt : Int)) (kt : a = b → W p l e R s m args below meth c H locs cells slots Q (F0 m tgt ls rest)) (kf : ¬ a = b → W p l e R s m args below meth c H locs cells slots Q (F0 m (pc + 3) ls rest)) : W p l e R s m args below meth c H locs cells slots Q (F0 m pc ls (.int (nI b) :: .int (nI a) :: rest)) := lv_icmp_eq hx hb9 hdg ht (fun h => kt ((nI_eq ha hb).mp h)) (fun h => kf (fun z => h ((nI_eq ha hb).mpr z)))
theorem mi_ne (hx : p.tables.exec = Jvm.exec) (hb9 : c.code = cc) {a b : Nat} (ha : a < 2147483648) (hb : b < 2147483648) {off : Int} (tgt : Nat) (hdg : decode cc pc = .ok (.if_icmp .ne off, 3)) (ht : (pc : Int) + off = (tgt : Int)) (kt : ¬ a = b → W p l e R s m args below meth c H locs cells slots Q (F0 m tgt ls rest)) (kf : a = b → W p l e R s m args below meth c H locs cells slots Q (F0 m (pc + 3) ls rest)) : W p l e R s m args below meth c H locs cells slots Q (F0 m pc ls (.int (nI b) :: .int (nI a) :: rest)) := lv_icmp_ne hx hb9 hdg ht (fun h => kt (fun z => h ((nI_eq ha hb).mpr z))) (fun h => kf ((nI_eq ha hb).mp h))
theorem mi_lt (hx : p.tables.exec = Jvm.exec) (hb9 : c.code = cc) {a b : Nat} (ha : a < 2147483648) (hb : b < 2147483648) {off : Int} (tgt : Nat) (hdg : decode cc pc = .ok (.if_icmp .lt off, 3)) (ht : (pc : Int) + off = (tgt : Int)) (kt : a < b → W p l e R s m args below meth c H locs cells slots Q (F0 m tgt ls rest)) (kf : b ≤ a → W p l e R s m args below meth c H locs cells slots Q (F0 m (pc + 3) ls rest)) : W p l e R s m args below meth c H locs cells slots Q (F0 m pc ls (.int (nI b) :: .int (nI a) :: rest)) := lv_icmp_lt hx hb9 hdg ht (fun h => kt ((nI_ltI ha hb).mp h)) (fun h => kf (Nat.not_lt.mp (fun z => h ((nI_ltI ha hb).mpr z))))
theorem mi_ge (hx : p.tables.exec = Jvm.exec) (hb9 : c.code = cc) {a b : Nat} (ha : a < 2147483648) (hb : b < 2147483648) {off : Int} (tgt : Nat) (hdg : decode cc pc = .ok (.if_icmp .ge off, 3)) (ht : (pc : Int) + off = (tgt : Int)) (kt : b ≤ a → W p l e R s m args below meth c H locs cells slots Q (F0 m tgt ls rest)) (kf : a < b → W p l e R s m args below meth c H locs cells slots Q (F0 m (pc + 3) ls rest)) : W p l e R s m args below meth c H locs cells slots Q (F0 m pc ls (.int (nI b) :: .int (nI a) :: rest)) := lv_icmp_ge hx hb9 hdg ht (fun h => kt ((nI_leI hb ha).mp h)) (fun h => kf (Nat.not_le.mp (fun z => h ((nI_leI hb ha).mpr z))))
theorem mi_gt (hx : p.tables.exec = Jvm.exec) (hb9 : c.code = cc) {a b : Nat} (ha : a < 2147483648) (hb : b < 2147483648) {off : Int} (tgt : Nat) (hdg : decode cc pc = .ok (.if_icmp .gt off, 3)) (ht : (pc : Int) + off = (tgt : Int)) (kt : b < a → W p l e R s m args below meth c H locs cells slots Q (F0 m tgt ls rest)) (kf : a ≤ b → W p l e R s m args below meth c H locs cells slots Q (F0 m (pc + 3) ls rest)) : W p l e R s m args below meth c H locs cells slots Q (F0 m pc ls (.int (nI b) :: .int (nI a) :: rest)) := lv_icmp_gt hx hb9 hdg ht (fun h => kt ((nI_ltI hb ha).mp h)) (fun h => kf (Nat.not_lt.mp (fun z => h ((nI_ltI hb ha).mpr z))))
theorem mi_le (hx : p.tables.exec = Jvm.exec) (hb9 : c.code = cc) {a b : Nat} (ha : a < 2147483648) (hb : b < 2147483648) {off : Int} (tgt : Nat) (hdg : decode cc pc = .ok (.if_icmp .le off, 3)) (ht : (pc : Int) + off = (tgt : Int)) (kt : a ≤ b → W p l e R s m args below meth c H locs cells slots Q (F0 m tgt ls rest)) (kf : b < a → W p l e R s m args below meth c H locs cells slots Q (F0 m (pc + 3) ls rest)) : W p l e R s m args below meth c H locs cells slots Q (F0 m pc ls (.int (nI b) :: .int (nI a) :: rest)) := lv_icmp_le hx hb9 hdg ht (fun h => kt ((nI_leI ha hb).mp h)) (fun h => kf (Nat.not_le.mp (fun z => h ((nI_leI ha hb).mpr z))))
theorem mi_if_eq (hx : p.tables.exec = Jvm.exec) (hb9 : c.code = cc) {a : Nat} (ha : a < 2147483648) {off : Int} (tgt : Nat) (hdg : decode cc pc = .ok (.ifCond .eq off, 3)) (ht : (pc : Int) + off = (tgt : Int)) (kt : a = 0 → W p l e R s m args below meth c H locs cells slots Q (F0 m tgt ls rest)) (kf : ¬ a = 0 → W p l e R s m args below meth c H locs cells slots Q (F0 m (pc + 3) ls rest)) : W p l e R s m args below meth c H locs cells slots Q (F0 m pc ls (.int (nI a) :: rest)) := lv_if_eq hx hb9 hdg ht (fun h => kt ((nI_eq ha (b := 0) (by omega)).mp h)) (fun h => kf (fun z => h ((nI_eq ha (b := 0) (by omega)).mpr z)))
theorem mi_if_ne (hx : p.tables.exec = Jvm.exec) (hb9 : c.code = cc) {a : Nat} (ha : a < 2147483648) {off : Int} (tgt : Nat) (hdg : decode cc pc = .ok (.ifCond .ne off, 3)) (ht : (pc : Int) + off = (tgt : Int)) (kt : ¬ a = 0 → W p l e R s m args below meth c H locs cells slots Q (F0 m tgt ls rest)) (kf : a = 0 → W p l e R s m args below meth c H locs cells slots Q (F0 m (pc + 3) ls rest)) : W p l e R s m args below meth c H locs cells slots Q (F0 m pc ls (.int (nI a) :: rest)) := lv_if_ne hx hb9 hdg ht (fun h => kt (fun z => h ((nI_eq ha (b := 0) (by omega)).mpr z))) (fun h => kf ((nI_eq ha (b := 0) (by omega)).mp h))
theorem mi_if_lt (hx : p.tables.exec = Jvm.exec) (hb9 : c.code = cc) {a : Nat} (ha : a < 2147483648) {off : Int} (tgt : Nat) (hdg : decode cc pc = .ok (.ifCond .lt off, 3)) (ht : (pc : Int) + off = (tgt : Int)) (kt : False → W p l e R s m args below meth c H locs cells slots Q (F0 m tgt ls rest)) (kf : True → W p l e R s m args below meth c H locs cells slots Q (F0 m (pc + 3) ls rest)) : W p l e R s m args below meth c H locs cells slots Q (F0 m pc ls (.int (nI a) :: rest)) := lv_if_lt hx hb9 hdg ht (fun h => absurd h (nI_pos ha)) (fun _ => kf trivial)
theorem mi_if_ge (hx : p.tables.exec = Jvm.exec) (hb9 : c.code = cc) {a : Nat} (ha : a < 2147483648) {off : Int} (tgt : Nat) (hdg : decode cc pc = .ok (.ifCond .ge off, 3)) (ht : (pc : Int) + off = (tgt : Int)) (kt : True → W p l e R s m args below meth c H locs cells slots Q (F0 m tgt ls rest)) (kf : False → W p l e R s m args below meth c H locs cells slots Q (F0 m (pc + 3) ls rest)) : W p l e R s m args below meth c H locs cells slots Q (F0 m pc ls (.int (nI a) :: rest)) := lv_if_ge hx hb9 hdg ht (fun _ => kt trivial) (fun h => absurd (nI_pos' ha) h)
theorem mi_if_gt (hx : p.tables.exec = Jvm.exec) (hb9 : c.code = cc) {a : Nat} (ha : a < 2147483648) {off : Int} (tgt : Nat) (hdg : decode cc pc = .ok (.ifCond .gt off, 3)) (ht : (pc : Int) + off = (tgt : Int)) (kt : 0 < a → W p l e R s m args below meth c H locs cells slots Q (F0 m tgt ls rest)) (kf : a = 0 → W p l e R s m args below meth c H locs cells slots Q (F0 m (pc + 3) ls rest)) : W p l e R s m args below meth c H locs cells slots Q (F0 m pc ls (.int (nI a) :: rest)) := lv_if_gt hx hb9 hdg ht (fun h => kt ((nI_ltI (a := 0) (by omega) ha).mp h)) (fun h => kf (by rcases Nat.eq_zero_or_pos a with z | z <;> first | exact z | exact absurd ((nI_ltI (a := 0) (by omega) ha).mpr z) h))
theorem mi_if_le (hx : p.tables.exec = Jvm.exec) (hb9 : c.code = cc) {a : Nat} (ha : a < 2147483648) {off : Int} (tgt : Nat) (hdg : decode cc pc = .ok (.ifCond .le off, 3)) (ht : (pc : Int) + off = (tgt : Int)) (kt : a = 0 → W p l e R s m args below meth c H locs cells slots Q (F0 m tgt ls rest)) (kf : 0 < a → W p l e R s m args below meth c H locs cells slots Q (F0 m (pc + 3) ls rest)) : W p l e R s m args below meth c H locs cells slots Q (F0 m pc ls (.int (nI a) :: rest)) := lv_if_le hx hb9 hdg ht (fun h => kt (Nat.le_zero.mp ((nI_leI ha (b := 0) (by omega)).mp h))) (fun h => kf (by rcases Nat.eq_zero_or_pos a with z | z <;> first | exact z | exact absurd ((nI_leI ha (b := 0) (by omega)).mpr (by omega)) h))
-- rows over the numbers of the heap
theorem ex_get (M : MC p s m args meth c cc Ts own nL D cy A) (w : MO D A s.heap (C, ad, G cy ad f) H locs) {x : Nat} (hx : x ∈ C) {ci : Nat} {fs : List Value} (he : sh cy ad x (f x) = .inr (ci, fs)) {CN : String} {T : u_T} {N : Nat} (hc : vwCl[ci]? = some (CN, T, N)) (hin : ∀ w ∈ u_ws CN T N, w ∈ Ts) {index : Nat} (k : Nat) (hk : k < N) (hl : Cond.fieldLink own index (T k).1 (T k).2.1 (T k).2.2.1 ∈ Ts) {v : Value} (hv : fs[k]? = some v) (hdg : decode cc pc = .ok (.getfield index, 3))
    (kk : W p l e R s m args below meth c H locs cells slots Q (F0 m (pc + 3) ls (v :: rest))) : W p l e R s m args below meth c H locs cells slots Q (F0 m pc ls (.ref (ad x) :: rest)) := mx_get M w hx (g := G cy ad f) he hc hin k hk hl hv hdg kk
theorem ex_put (M : MC p s m args meth c cc Ts own nL D cy A) (w : MO D A s.heap (C, ad, G cy ad f) H locs) {x : Nat} (hx : x ∈ C) {ci : Nat} {fs : List Value} (he : sh cy ad x (f x) = .inr (ci, fs)) {CN : String} {T : u_T} {N : Nat} (hc : vwCl[ci]? = some (CN, T, N)) (hin : ∀ w ∈ u_ws CN T N, w ∈ Ts) (ty0 : Nat → FieldType) (hty : ∀ k, k < N → parseFieldDescriptor (T k).2.2.1 = some (ty0 k)) (hnm : ∀ a, a < N → ∀ b, b < N → a ≠ b → (T a).2.1 ≠ (T b).2.1) {index : Nat} (k : Nat) (hk : k < N) (hl : Cond.fieldLink own index (T k).1 (T k).2.1 (T k).2.2.1 ∈ Ts) (hfin : (T k).2.2.2 = false) {v : Nat} (hn : narrow (ty0 k) (.int (nI v)) = .int (nI v)) (hfit : fits (ty0 k) (.int (nI v)) = true) (hlen : k < fs.length) (hE : sh cy ad x (fun i => if i = k then v else f x i) = .inr (ci, fs.set k (.int (nI v)))) (hdg : decode cc pc = .ok (.putfield index, 3))
    (kk : ∀ (H1 : Heap) (locs1 : List Loc), MO D A s.heap (C, ad, G cy ad (es f x k v)) H1 locs1 → W p l e R s m args below meth c H1 locs1 cells slots Q (F0 m (pc + 3) ls rest)) : W p l e R s m args below meth c H locs cells slots Q (F0 m pc ls (.int (nI v) :: .ref (ad x) :: rest)) :=
  mx_put M w hx (g := G cy ad f) he hc hin ty0 hty hnm k hk hl hfin hn hfit hlen hdg (fun H1 locs1 w1 => kk H1 locs1 (by rw [G_es hE] at w1; exact w1))
theorem ex_iald (M : MC p s m args meth c cc Ts own nL D cy A) (w : MO D A s.heap (C, ad, G cy ad f) H locs) {x n : Nat} (hx : x ∈ C) (he : ∀ v, sh cy ad x v = sI cy n v) {i v : Nat} (hi : i < n) (hn : n < 2147483648) (hv : f x i = v) (hdg : decode cc pc = .ok (.iaload, 1))
    (kk : W p l e R s m args below meth c H locs cells slots Q (F0 m (pc + 1) ls (.int (nI v) :: rest))) : W p l e R s m args below meth c H locs cells slots Q (F0 m pc ls (.int (nI i) :: .ref (ad x) :: rest)) :=
  mx_iald M w hx (g := G cy ad f) (he (f x)) (vp_in_nI hi hn) hdg (by rw [nI_clamp (Nat.lt_trans hi hn), hv]; exact kk)
theorem ex_iast (M : MC p s m args meth c cc Ts own nL D cy A) (w : MO D A s.heap (C, ad, G cy ad f) H locs) {x n : Nat} (hx : x ∈ C) (he : ∀ v, sh cy ad x v = sI cy n v) {i v : Nat} (hi : i < n) (hn : n < 2147483648) (hdg : decode cc pc = .ok (.iastore, 1))
    (kk : ∀ (H1 : Heap) (locs1 : List Loc), MO D A s.heap (C, ad, G cy ad (es f x i v)) H1 locs1 → W p l e R s m args below meth c H1 locs1 cells slots Q (F0 m (pc + 1) ls rest)) : W p l e R s m args below meth c H locs cells slots Q (F0 m pc ls (.int (nI v) :: .int (nI i) :: .ref (ad x) :: rest)) := by
  refine mx_iast M w hx (g := G cy ad f) (he (f x)) (vp_in_nI hi hn) hdg (fun H1 locs1 w1 => kk H1 locs1 ?_)
  rw [nI_clamp (Nat.lt_trans hi hn), up_nI] at w1
  have w2 : MO D A s.heap (C, ad, mu (G cy ad f) x (sI cy n (fun j => if j = i then v else f x j))) H1 locs1 := w1
  rw [G_es (k := i) (v := v) (he _)] at w2
  exact w2
end MIR
