/-! ===== MY KIT: worlds by codes: a list of codes, an address for each, what each holds ===== -/
def mu {α : Type} (g : Nat → α) (x : Nat) (E : α) : Nat → α := fun y => if y = x then E else g y
theorem mu_same {α : Type} (g : Nat → α) (x : Nat) (E : α) : mu g x E x = E := if_pos rfl
theorem mu_ne {α : Type} (g : Nat → α) {x y : Nat} (E : α) (h : y ≠ x) : mu g x E y = g y := if_neg h
abbrev WT : Type := List Nat × (Nat → Nat) × (Nat → va_E)
def mp (C : List Nat) (ad : Nat → Nat) (g : Nat → va_E) : va_W := C.map (fun c => (ad c, g c))
theorem mp_get {C : List Nat} {ad : Nat → Nat} {g : Nat → va_E} {k c : Nat} (h : C[k]? = some c) : (mp C ad g)[k]? = some (ad c, g c) := by
  rw [mp, List.getElem?_map, h]; rfl
theorem mp_at {C : List Nat} {x : Nat} (ad : Nat → Nat) (g : Nat → va_E) (h : x ∈ C) : ∃ k : Nat, C[k]? = some x ∧ (mp C ad g)[k]? = some (ad x, g x) := by
  obtain ⟨k, hk⟩ := List.getElem?_of_mem h
  exact ⟨k, hk, mp_get hk⟩
theorem mp_of {C : List Nat} {ad : Nat → Nat} {g : Nat → va_E} {k : Nat} {q : Nat × va_E} (h : (mp C ad g)[k]? = some q) : ∃ c, C[k]? = some c ∧ q = (ad c, g c) := by
  rw [mp, List.getElem?_map] at h
  cases hc : C[k]? with
  | none => rw [hc] at h; cases h
  | some c => rw [hc] at h; exact ⟨c, rfl, (Option.some.inj h).symm⟩
theorem mp_congr {C : List Nat} {ad ad' : Nat → Nat} {g g' : Nat → va_E} (h : ∀ c ∈ C, ad c = ad' c ∧ g c = g' c) : mp C ad g = mp C ad' g' := List.map_congr_left (fun c hc => by rw [(h c hc).1, (h c hc).2])
theorem mp_set {A : Nat → Prop} {C : List Nat} {ad : Nat → Nat} {g : Nat → va_E} {k x : Nat} (hD : va_D A (mp C ad g)) (hk : C[k]? = some x) (E : va_E) : (mp C ad g).set k (ad x, E) = mp C ad (mu g x E) := by
  apply List.ext_getElem?
  intro i
  by_cases hi : i = k
  · subst hi
    have hl : i < (mp C ad g).length := (List.getElem?_eq_some_iff.mp (mp_get hk)).1
    rw [List.getElem?_set_self hl, mp_get hk, mu_same]
  · rw [List.getElem?_set_ne (Ne.symm hi)]
    cases hc : C[i]? with
    | none => rw [mp, mp, List.getElem?_map, List.getElem?_map, hc]; rfl
    | some c =>
      rw [mp_get hc, mp_get hc, mu_ne]
      intro z
      subst z
      exact hi (hD.1 i k _ _ (mp_get hc) (mp_get hk) rfl)
theorem mp_push {C : List Nat} {ad : Nat → Nat} {g : Nat → va_E} {x : Nat} (q : Nat) (E : va_E) (hx : x ∉ C) : mp C ad g ++ [(q, E)] = mp (C ++ [x]) (mu ad x q) (mu g x E) := by
  rw [mp, mp, List.map_append]
  congr 1
  · refine List.map_congr_left (fun c hc => ?_)
    have hne : c ≠ x := fun z => hx (by rw [← z]; exact hc)
    rw [mu_ne _ _ hne, mu_ne _ _ hne]
  · show _ = [(mu ad x q x, mu g x E x)]
    rw [mu_same, mu_same]
def ctys (cy : Nat → ClassId) : List (ClassId × FieldType) := [(cy 0, .int), (cy 1, .int), (cy 2, .object RX1), (cy 3, .object RX2)]
def KK (D : va_G) (cy : Nat → ClassId) (U : State) : Prop := va_K D vwCl (ctys cy) U
def MO (D : va_G) (A : Nat → Prop) (H0 : Heap) (u : WT) (H : Heap) (locs : List Loc) : Prop := va_P D vwCl (mp u.1 u.2.1 u.2.2) H ∧ va_D A (mp u.1 u.2.1 u.2.2) ∧ va_S A H0 H locs
def WB (D : va_G) (cy : Nat → ClassId) (A : Nat → Prop) (u : WT) (t : State) : Prop := va_P D vwCl (mp u.1 u.2.1 u.2.2) t.heap ∧ KK D cy t ∧ va_D A (mp u.1 u.2.1 u.2.2)
/-- words of nest mates and of arrays of objects -/
def NW (U : State) : Prop := va_Nw (.methodLinkNest RX1 79 yX3_isWorkingDay RX3) U ∧ va_Nw (.methodLinkNest RX3 23 yX0_init RX3) U ∧ va_AO RX1 U ∧ va_AO RX2 U
theorem NW_warm {s U : State} (hW : s.WarmedH U.vm) (h : NW s) : NW U := ⟨va_Nw.warmM hW h.1, va_Nw.warmM hW h.2.1, va_AO.moved hW.alike h.2.2.1, va_AO.moved hW.alike h.2.2.2⟩
theorem NW_same {u U : State} (hv : u.vm = U.vm) (h : NW u) : NW U := ⟨va_Nw.same rfl hv h.1, va_Nw.same rfl hv h.2.1, va_AO.moved (by rw [hv]; exact Vm.Alike.refl U.vm) h.2.2.1, va_AO.moved (by rw [hv]; exact Vm.Alike.refl U.vm) h.2.2.2⟩
/-- a method's start: its arguments, its world -/
def PreM (D : va_G) (cy : Nat → ClassId) (u : WT) (sz : Nat) (as : List Value) : Array Value → State → Prop := va_Pc as (fun U => (U.heap.size = sz ∧ WB D cy (fun _ => True) u U) ∧ NW U)
abbrev AW (u : WT) (sz : Nat) : Nat → Prop := va_A (mp u.1 u.2.1 u.2.2) sz
def MC (p : Program) (s : State) (m : MethodId) (args : Array Value) (meth : Method) (c : Code) (cc : ByteArray) (Ts : List Cond) (own : String) (nL : Nat) (D : va_G) (cy : Nat → ClassId) (A : Nat → Prop) : Prop :=
  CallFix p m c cc nL s args Ts own ∧ KK D cy s ∧ (∀ q : Nat, s.heap.size ≤ q → A q) ∧ meth.locks = false ∧ NW s
section MXR
variable {p : Program} {l : Launch} {e : Env} {R : Room} {s : State} {m : MethodId} {args : Array Value} {below : List Frame} {meth : Method} {c : Code} {H : Heap} {locs : List Loc} {cells slots : Nat} {Q : State → Prop}
variable {cc : ByteArray} {pc : Nat} {ls : Array Slot} {rest : List Value} {D : va_G} {cy : Nat → ClassId} {A : Nat → Prop} {Ts : List Cond} {own : String} {nL : Nat} {C : List Nat} {ad : Nat → Nat} {g : Nat → va_E}
theorem KK_ty (M : MC p s m args meth c cc Ts own nL D cy A) : va_K D vwCl (ctys cy) s := M.2.1
theorem mx_get (M : MC p s m args meth c cc Ts own nL D cy A) (w : MO D A s.heap (C, ad, g) H locs) {x : Nat} (hx : x ∈ C) {ci : Nat} {fs : List Value} (he : g x = .inr (ci, fs)) {CN : String} {T : u_T} {N : Nat} (hc : vwCl[ci]? = some (CN, T, N)) (hin : ∀ w ∈ u_ws CN T N, w ∈ Ts) {index : Nat} (k : Nat) (hk : k < N) (hl : Cond.fieldLink own index (T k).1 (T k).2.1 (T k).2.2.1 ∈ Ts) {v : Value} (hv : fs[k]? = some v) (hdg : decode cc pc = .ok (.getfield index, 3))
    (kk : W p l e R s m args below meth c H locs cells slots Q (F0 m (pc + 3) ls (v :: rest))) : W p l e R s m args below meth c H locs cells slots Q (F0 m pc ls (.ref (ad x) :: rest)) := by
  obtain ⟨k9, h1, h2⟩ := mp_at ad g hx
  exact va_get M.1.1 M.1.2.1 M.1.2.2.2.2 hin M.1.2.2.2.1 M.2.1 w.1 k9 (h2.trans (by rw [he])) hc k hk (M.1.2.2.2.2 _ hl) (fun _ h => h) hv hdg kk
theorem mx_put (M : MC p s m args meth c cc Ts own nL D cy A) (w : MO D A s.heap (C, ad, g) H locs) {x : Nat} (hx : x ∈ C) {ci : Nat} {fs : List Value} (he : g x = .inr (ci, fs)) {CN : String} {T : u_T} {N : Nat} (hc : vwCl[ci]? = some (CN, T, N)) (hin : ∀ w ∈ u_ws CN T N, w ∈ Ts) (ty0 : Nat → FieldType) (hty : ∀ k, k < N → parseFieldDescriptor (T k).2.2.1 = some (ty0 k)) (hnm : ∀ a, a < N → ∀ b, b < N → a ≠ b → (T a).2.1 ≠ (T b).2.1) {index : Nat} (k : Nat) (hk : k < N) (hl : Cond.fieldLink own index (T k).1 (T k).2.1 (T k).2.2.1 ∈ Ts) (hfin : (T k).2.2.2 = false) {v : Value} (hn : narrow (ty0 k) v = v) (hfit : fits (ty0 k) v = true) (hlen : k < fs.length) (hdg : decode cc pc = .ok (.putfield index, 3))
    (kk : ∀ (H1 : Heap) (locs1 : List Loc), MO D A s.heap (C, ad, mu g x (.inr (ci, fs.set k v))) H1 locs1 → W p l e R s m args below meth c H1 locs1 cells slots Q (F0 m (pc + 3) ls rest)) : W p l e R s m args below meth c H locs cells slots Q (F0 m pc ls (v :: .ref (ad x) :: rest)) := by
  obtain ⟨k9, h1, h2⟩ := mp_at ad g hx
  refine va_put M.1.1 M.1.2.1 M.1.2.2.2.2 hin ty0 hty hnm M.1.2.2.2.1 M.2.1 w.1 w.2.1 w.2.2 k9 (h2.trans (by rw [he])) hc k hk (M.1.2.2.2.2 _ hl) (fun _ h => h) hfin (hty k hk) hn hfit hlen hdg (fun H1 locs1 hP hD hS => ?_)
  have e9 := mp_set w.2.1 h1 (.inr (ci, fs.set k v))
  exact kk H1 locs1 ⟨by rw [← e9]; exact hP, by rw [← e9]; exact hD, hS⟩
theorem mx_putF (M : MC p s m args meth c cc Ts own nL D cy A) (w : MO D A s.heap (C, ad, g) H locs) {x : Nat} (hx : x ∈ C) {ci : Nat} {fs : List Value} (he : g x = .inr (ci, fs)) {CN : String} {T : u_T} {N : Nat} (hc : vwCl[ci]? = some (CN, T, N)) (hin : ∀ w ∈ u_ws CN T N, w ∈ Ts) (ty0 : Nat → FieldType) (hty : ∀ k, k < N → parseFieldDescriptor (T k).2.2.1 = some (ty0 k)) (hnm : ∀ a, a < N → ∀ b, b < N → a ≠ b → (T a).2.1 ≠ (T b).2.1) {index : Nat} (k : Nat) (hk : k < N) (hl : Cond.fieldLink own index (T k).1 (T k).2.1 (T k).2.2.1 ∈ Ts) (hfin : (T k).2.2.2 = true) (hmi : meth.name = "<init>") (hdecl : (T k).1 = own) {v : Value} (hn : narrow (ty0 k) v = v) (hfit : fits (ty0 k) v = true) (hlen : k < fs.length) (hdg : decode cc pc = .ok (.putfield index, 3))
    (kk : ∀ (H1 : Heap) (locs1 : List Loc), MO D A s.heap (C, ad, mu g x (.inr (ci, fs.set k v))) H1 locs1 → W p l e R s m args below meth c H1 locs1 cells slots Q (F0 m (pc + 3) ls rest)) : W p l e R s m args below meth c H locs cells slots Q (F0 m pc ls (v :: .ref (ad x) :: rest)) := by
  obtain ⟨k9, h1, h2⟩ := mp_at ad g hx
  refine va_putF M.1.1 M.1.2.1 M.1.2.2.2.2 hin ty0 hty hnm M.1.2.2.2.1 M.2.1 w.1 w.2.1 w.2.2 k9 (h2.trans (by rw [he])) hc k hk (M.1.2.2.2.2 _ hl) (fun _ h => h) hfin hmi hdecl (hty k hk) hn hfit hlen hdg (fun H1 locs1 hP hD hS => ?_)
  have e9 := mp_set w.2.1 h1 (.inr (ci, fs.set k v))
  exact kk H1 locs1 ⟨by rw [← e9]; exact hP, by rw [← e9]; exact hD, hS⟩
theorem mx_iald (M : MC p s m args meth c cc Ts own nL D cy A) (w : MO D A s.heap (C, ad, g) H locs) {x : Nat} (hx : x ∈ C) {n : Nat} {f : Nat → Int32} (he : g x = .inl (cy 0, n, .inl f)) {i : Int32} (hin : vp_in i n) (hdg : decode cc pc = .ok (.iaload, 1))
    (kk : W p l e R s m args below meth c H locs cells slots Q (F0 m (pc + 1) ls (.int (f i.toNatClampNeg) :: rest))) : W p l e R s m args below meth c H locs cells slots Q (F0 m pc ls (.int i :: .ref (ad x) :: rest)) := by
  obtain ⟨k9, h1, h2⟩ := mp_at ad g hx
  exact va_iald M.1.1 M.1.2.1 M.2.1 w.1 k9 0 (h2.trans (by rw [he])) rfl hin hdg kk
theorem mx_aldP (M : MC p s m args meth c cc Ts own nL D cy A) (w : MO D A s.heap (C, ad, g) H locs) {x : Nat} (hx : x ∈ C) {n : Nat} {f : Nat → Option Nat} (he : g x = .inl (cy 2, n, .inr (.inr (.inr (.inr f))))) {i : Int32} (hin : vp_in i n) (hdg : decode cc pc = .ok (.aaload, 1))
    (kk : W p l e R s m args below meth c H locs cells slots Q (F0 m (pc + 1) ls (va_rf (f i.toNatClampNeg) :: rest))) : W p l e R s m args below meth c H locs cells slots Q (F0 m pc ls (.int i :: .ref (ad x) :: rest)) := by
  obtain ⟨k9, h1, h2⟩ := mp_at ad g hx
  exact va_aldq M.1.1 M.1.2.1 M.2.1 w.1 k9 2 (h2.trans (by rw [he])) rfl hin hdg kk
theorem mx_aldR (M : MC p s m args meth c cc Ts own nL D cy A) (w : MO D A s.heap (C, ad, g) H locs) {x : Nat} (hx : x ∈ C) {n : Nat} {f : Nat → Option Nat} (he : g x = .inl (cy 3, n, .inr (.inr (.inr (.inr f))))) {i : Int32} (hin : vp_in i n) (hdg : decode cc pc = .ok (.aaload, 1))
    (kk : W p l e R s m args below meth c H locs cells slots Q (F0 m (pc + 1) ls (va_rf (f i.toNatClampNeg) :: rest))) : W p l e R s m args below meth c H locs cells slots Q (F0 m pc ls (.int i :: .ref (ad x) :: rest)) := by
  obtain ⟨k9, h1, h2⟩ := mp_at ad g hx
  exact va_aldq M.1.1 M.1.2.1 M.2.1 w.1 k9 3 (h2.trans (by rw [he])) rfl hin hdg kk
theorem mx_iast (M : MC p s m args meth c cc Ts own nL D cy A) (w : MO D A s.heap (C, ad, g) H locs) {x : Nat} (hx : x ∈ C) {n : Nat} {f : Nat → Int32} (he : g x = .inl (cy 0, n, .inl f)) {i v : Int32} (hin : vp_in i n) (hdg : decode cc pc = .ok (.iastore, 1))
    (kk : ∀ (H1 : Heap) (locs1 : List Loc), MO D A s.heap (C, ad, mu g x (.inl (cy 0, n, .inl (upd f i.toNatClampNeg v)))) H1 locs1 → W p l e R s m args below meth c H1 locs1 cells slots Q (F0 m (pc + 1) ls rest)) : W p l e R s m args below meth c H locs cells slots Q (F0 m pc ls (.int v :: .int i :: .ref (ad x) :: rest)) := by
  obtain ⟨k9, h1, h2⟩ := mp_at ad g hx
  refine va_iast M.1.1 M.1.2.1 M.2.1 w.1 w.2.1 w.2.2 k9 0 (h2.trans (by rw [he])) rfl hin hdg (fun H1 locs1 hP hD hS => ?_)
  have e9 := mp_set w.2.1 h1 (.inl (cy 0, n, .inl (upd f i.toNatClampNeg v)))
  exact kk H1 locs1 ⟨by rw [← e9]; exact hP, by rw [← e9]; exact hD, hS⟩
theorem mx_astP (M : MC p s m args meth c cc Ts own nL D cy A) (w : MO D A s.heap (C, ad, g) H locs) {x : Nat} (hx : x ∈ C) {n : Nat} {f : Nat → Option Nat} (he : g x = .inl (cy 2, n, .inr (.inr (.inr (.inr f))))) {y : Nat} (hy : y ∈ C) {vs : List Value} (hv : g y = .inr (1, vs)) {i : Int32} (hin : vp_in i n) (hdg : decode cc pc = .ok (.aastore, 1))
    (kk : ∀ (H1 : Heap) (locs1 : List Loc), MO D A s.heap (C, ad, mu g x (.inl (cy 2, n, .inr (.inr (.inr (.inr (va_up f i.toNatClampNeg (some (ad y)))))))) ) H1 locs1 → W p l e R s m args below meth c H1 locs1 cells slots Q (F0 m (pc + 1) ls rest)) : W p l e R s m args below meth c H locs cells slots Q (F0 m pc ls (.ref (ad y) :: .int i :: .ref (ad x) :: rest)) := by
  obtain ⟨k9, h1, h2⟩ := mp_at ad g hx
  obtain ⟨k8, h3, h4⟩ := mp_at ad g hy
  refine va_astq M.1.1 M.1.2.1 M.2.1 w.1 w.2.1 w.2.2 k9 2 k8 1 (r := (RX1, TX1, 15)) (h2.trans (by rw [he])) rfl (h4.trans (by rw [hv])) rfl hin hdg (fun H1 locs1 hP hD hS => ?_)
  have e9 := mp_set w.2.1 h1 (.inl (cy 2, n, .inr (.inr (.inr (.inr (va_up f i.toNatClampNeg (some (ad y))))))))
  exact kk H1 locs1 ⟨by rw [← e9]; exact hP, by rw [← e9]; exact hD, hS⟩
theorem mx_astR (M : MC p s m args meth c cc Ts own nL D cy A) (w : MO D A s.heap (C, ad, g) H locs) {x : Nat} (hx : x ∈ C) {n : Nat} {f : Nat → Option Nat} (he : g x = .inl (cy 3, n, .inr (.inr (.inr (.inr f))))) {y : Nat} (hy : y ∈ C) {vs : List Value} (hv : g y = .inr (2, vs)) {i : Int32} (hin : vp_in i n) (hdg : decode cc pc = .ok (.aastore, 1))
    (kk : ∀ (H1 : Heap) (locs1 : List Loc), MO D A s.heap (C, ad, mu g x (.inl (cy 3, n, .inr (.inr (.inr (.inr (va_up f i.toNatClampNeg (some (ad y)))))))) ) H1 locs1 → W p l e R s m args below meth c H1 locs1 cells slots Q (F0 m (pc + 1) ls rest)) : W p l e R s m args below meth c H locs cells slots Q (F0 m pc ls (.ref (ad y) :: .int i :: .ref (ad x) :: rest)) := by
  obtain ⟨k9, h1, h2⟩ := mp_at ad g hx
  obtain ⟨k8, h3, h4⟩ := mp_at ad g hy
  refine va_astq M.1.1 M.1.2.1 M.2.1 w.1 w.2.1 w.2.2 k9 3 k8 2 (r := (RX2, TX2, 5)) (h2.trans (by rw [he])) rfl (h4.trans (by rw [hv])) rfl hin hdg (fun H1 locs1 hP hD hS => ?_)
  have e9 := mp_set w.2.1 h1 (.inl (cy 3, n, .inr (.inr (.inr (.inr (va_up f i.toNatClampNeg (some (ad y))))))))
  exact kk H1 locs1 ⟨by rw [← e9]; exact hP, by rw [← e9]; exact hD, hS⟩
theorem mx_alen (M : MC p s m args meth c cc Ts own nL D cy A) (w : MO D A s.heap (C, ad, g) H locs) {x : Nat} (hx : x ∈ C) (j : Nat) {y : vp_A} (he : g x = .inl (cy j, y)) {ty : FieldType} (ht : (ctys cy)[j]? = some (cy j, ty)) {n : Nat} (hn : y.1 = n) (hdg : decode cc pc = .ok (.arraylength, 1))
    (kk : W p l e R s m args below meth c H locs cells slots Q (F0 m (pc + 1) ls (.int (nI n) :: rest))) : W p l e R s m args below meth c H locs cells slots Q (F0 m pc ls (.ref (ad x) :: rest)) := by
  obtain ⟨k9, h1, h2⟩ := mp_at ad g hx
  exact va_alen M.1.1 M.1.2.1 M.2.1 w.1 k9 j (x := y) (h2.trans (by rw [he])) ht (v := nI n) (by rw [hn]; rfl) hdg kk
/-- a new object, at a new code -/
theorem mx_new (M : MC p s m args meth c cc Ts own nL D cy A) (w : MO D A s.heap (C, ad, g) H locs) (x : Nat) (hx : x ∉ C) {ci : Nat} {CN : String} {T : u_T} {N : Nat} (hc : vwCl[ci]? = some (CN, T, N)) (hin : ∀ w ∈ u_ws CN T N, w ∈ Ts) (ty0 : Nat → FieldType) (hty : ∀ k, k < N → parseFieldDescriptor (T k).2.2.1 = some (ty0 k)) {index : Nat} (hcl : Cond.classLink own index CN ∈ Ts) (hinst : Cond.instantiable CN N ∈ Ts) (hini : Cond.initialized CN ∈ Ts) {fs : List Value} (hfs : ∀ j, j < N → defaultValue (ty0 j) = vp_V fs j) (hcells : cells + 1 ≤ R.cells) (hslots : slots + N ≤ R.slots) (hdg : decode cc pc = .ok (.new index, 3))
    (kk : ∀ (ad' : Nat → Nat) (H1 : Heap), (∀ y, y ≠ x → ad' y = ad y) → MO D A s.heap (C ++ [x], ad', mu g x (.inr (ci, fs))) H1 locs → W p l e R s m args below meth c H1 locs (cells + 1) (slots + N) Q (F0 m (pc + 3) ls (.ref (ad' x) :: rest))) : W p l e R s m args below meth c H locs cells slots Q (F0 m pc ls rest) := by
  refine va_new M.1.1 M.1.2.1 M.1.2.2.2.2 hin ty0 hty M.1.2.2.2.1 (M.1.2.2.2.2 _ hcl) (M.1.2.2.2.2 _ hinst) (M.1.2.2.2.2 _ hini) M.2.1 w.1 w.2.1 w.2.2 M.2.2.1 hc hfs hcells hslots hdg (fun q H1 hP hD hS => ?_)
  have e9 := mp_push (ad := ad) (g := g) q (.inr (ci, fs)) hx
  have k9 := kk (mu ad x q) H1 (fun y hy => mu_ne _ _ hy) ⟨by rw [← e9]; exact hP, by rw [← e9]; exact hD, hS⟩
  rw [mu_same] at k9
  exact k9
theorem fc_same {s : State} {nm : String} {a b : ClassId} (h1 : s.vm.findClass nm = some a) (h2 : s.vm.findClass nm = some b) : a = b := Option.some.inj (h1.symm.trans h2)
/-- a new array of ints -/
theorem mx_newI (M : MC p s m args meth c cc Ts own nL D cy A) (w : MO D A s.heap (C, ad, g) H locs) (x : Nat) (hx : x ∉ C) (harr : Cond.arrayClass .int ∈ Ts) {n : Nat} (hn : n < 2 ^ 20) (hcells : cells + 1 ≤ R.cells) (hslots : slots + n ≤ R.slots) (hdg : decode cc pc = .ok (.newarray .int, 2))
    (kk : ∀ (ad' : Nat → Nat) (H1 : Heap), (∀ y, y ≠ x → ad' y = ad y) → MO D A s.heap (C ++ [x], ad', mu g x (.inl (cy 0, n, .inl (fun _ => nI 0)))) H1 locs → W p l e R s m args below meth c H1 locs (cells + 1) (slots + n) Q (F0 m (pc + 2) ls (.ref (ad' x) :: rest))) : W p l e R s m args below meth c H locs cells slots Q (F0 m pc ls (.int (nI n) :: rest)) := by
  refine va_newa (atype := .int) (ty := .int) (N' := n) (a0 := (n, .inl (fun _ => 0))) M.1.1 M.1.2.1 (M.1.2.2.2.2 _ harr) rfl M.2.1 w.1 w.2.1 w.2.2 M.2.2.1 (fun cA => rfl) (nI_pos (by omega)) (nI_clamp (by omega)) (by show n * 4 ≤ _; omega) hcells hslots hdg (fun q cA H1 hK hP hD hS => ?_)
  have hcA : cA = cy 0 := fc_same (s := s) (hK.2 4 (cA, .int) rfl).2 (M.2.1.2 0 (cy 0, .int) rfl).2
  subst hcA
  have e9 := mp_push (ad := ad) (g := g) q (.inl (cy 0, n, .inl (fun _ => nI 0))) hx
  have k9 := kk (mu ad x q) H1 (fun y hy => mu_ne _ _ hy) ⟨by rw [← e9]; exact hP, by rw [← e9]; exact hD, hS⟩
  rw [mu_same] at k9
  exact k9
theorem mx_newq (M : MC p s m args meth c cc Ts own nL D cy A) (w : MO D A s.heap (C, ad, g) H locs) (x : Nat) (hx : x ∉ C) (j : Nat) {CN : String} (hj : (ctys cy)[j]? = some (cy j, .object CN)) {index : Nat} (hcl : Cond.classLink own index CN ∈ Ts) (hover : va_AO CN s) {n : Nat} (hn : n < 2 ^ 20) (hcells : cells + 1 ≤ R.cells) (hslots : slots + n ≤ R.slots) (hdg : decode cc pc = .ok (.anewarray index, 3))
    (kk : ∀ (ad' : Nat → Nat) (H1 : Heap), (∀ y, y ≠ x → ad' y = ad y) → MO D A s.heap (C ++ [x], ad', mu g x (.inl (cy j, n, .inr (.inr (.inr (.inr (fun _ => none))))))) H1 locs → W p l e R s m args below meth c H1 locs (cells + 1) (slots + n) Q (F0 m (pc + 3) ls (.ref (ad' x) :: rest))) : W p l e R s m args below meth c H locs cells slots Q (F0 m pc ls (.int (nI n) :: rest)) := by
  refine va_newq (N' := n) M.1.1 M.1.2.1 M.1.2.2.2.1 (M.1.2.2.2.2 _ hcl) hover M.2.1 w.1 w.2.1 w.2.2 M.2.2.1 (nI_pos (by omega)) (nI_clamp (by omega)) (by omega) hcells hslots hdg (fun q cA H1 hK hP hD hS => ?_)
  obtain ⟨_, _, _, _, _, hf1⟩ := (hK.2 4 (cA, .object CN) rfl).2
  obtain ⟨_, _, _, _, _, hf2⟩ := (M.2.1.2 j (cy j, .object CN) hj).2
  have hcA : cA = cy j := fc_same hf1 hf2
  subst hcA
  have e9 := mp_push (ad := ad) (g := g) q (.inl (cy j, n, .inr (.inr (.inr (.inr (fun _ => none)))))) hx
  have k9 := kk (mu ad x q) H1 (fun y hy => mu_ne _ _ hy) ⟨by rw [← e9]; exact hP, by rw [← e9]; exact hD, hS⟩
  rw [mu_same] at k9
  exact k9
end MXR
