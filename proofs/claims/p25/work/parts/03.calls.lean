/-! ===== MY KIT: starts, ends, calls ===== -/
theorem pm_blind {D : va_G} {cy : Nat → ClassId} {u : WT} {sz : Nat} {as : List Value} : FrameBlind (PreM D cy u sz as) := fun a U g mk q => by
  obtain ⟨q0, ⟨q1, qP, qK, qD⟩, qN⟩ := q
  exact ⟨q0, ⟨q1, qP, va_K.moved (u := U) (U := U.calling g mk a) (Vm.Alike.refl U.vm) qK, qD⟩, NW_same (u := U) (U := U.calling g mk a) rfl qN⟩
/-- what a throw needs of the start: two statics of Throwable, the texts, the words of the tables -/
def THstr : List (Nat × String) := [(30, "right is out of range"), (45, "there are 8 people"), (73, "10 changes for other days are entered"), (81, "there are 40 requests"), (102, "the request is cancelled"), (114, "there are 30 spells"), (119, "points are out of range"), (124, "there are 20 payouts"), (134, "the lots have less than that"), (139, "days are out of range"), (141, "today would be later than 3600"), (176, "no such person"), (179, "no such request"), (181, "day is out of range"), (183, "first or last is out of range"), (185, "hours are out of range")]
def eIA : String := "java/lang/IllegalArgumentException"
def eIS : String := "java/lang/IllegalStateException"
def eIO : String := "java/lang/IndexOutOfBoundsException"
def eUP : List String := ["java/lang/RuntimeException", "java/lang/Exception"]
def THw : List Cond := [.castable eIA eIA, .castable eIS eIS, .castable eIO eIO, .declares (Bundle.initS "java/lang/RuntimeException"), .declares (Bundle.initS "java/lang/Exception"), .declares (Bundle.initS Bundle.tN)]
def TH (A : Nat → Prop) (U : State) (H : Heap) : Prop := vx_Zq Bundle.tN "UNASSIGNED_STACK" Bundle.steD A U H ∧ vx_Zq Bundle.tN "SUPPRESSED_SENTINEL" Bundle.listD A U H ∧ (∀ q ∈ THstr, ∃ sa, vk_R RX3 q.1 q.2 sa U) ∧ ∀ w ∈ THw, va_Nw w U
theorem TH_w_moved {w : Cond} (hw : w ∈ THw) {u U : State} (hvm : u.vm.Alike U.vm) (h : va_Nw w u) : va_Nw w U := by
  simp only [THw, List.mem_cons, List.not_mem_nil, or_false] at hw
  rcases hw with rfl | rfl | rfl | rfl | rfl | rfl
  · exact va_tabs rfl (rfl : (u.setVm U.vm).vm = U.vm) (by rw [Cond.castable_setVm hvm]; exact h)
  · exact va_tabs rfl (rfl : (u.setVm U.vm).vm = U.vm) (by rw [Cond.castable_setVm hvm]; exact h)
  · exact va_tabs rfl (rfl : (u.setVm U.vm).vm = U.vm) (by rw [Cond.castable_setVm hvm]; exact h)
  · exact va_tabs rfl (rfl : (u.setVm U.vm).vm = U.vm) (by rw [Cond.declares_setVm hvm]; exact h)
  · exact va_tabs rfl (rfl : (u.setVm U.vm).vm = U.vm) (by rw [Cond.declares_setVm hvm]; exact h)
  · exact va_tabs rfl (rfl : (u.setVm U.vm).vm = U.vm) (by rw [Cond.declares_setVm hvm]; exact h)
theorem TH_warm {A B : Nat → Prop} {s U : State} {H0 H : Heap} (hW : s.WarmedH U.vm) (hk : ∀ a : Nat, a < H0.size → ¬ A a → H[a]? = H0[a]?) (hAB : ∀ q, B q → A q) (h : TH A s H0) : TH B U H := by
  obtain ⟨h1, h2, h3, h4⟩ := h
  refine ⟨((h1.kept hk).narrow hAB).moved hW.alike, ((h2.kept hk).narrow hAB).moved hW.alike, fun q hq => ?_, fun w hw => TH_w_moved hw hW.alike (h4 w hw)⟩
  obtain ⟨sa, h5⟩ := h3 q hq
  exact ⟨sa, vk_R.warm hW h5⟩
theorem TH_same {A : Nat → Prop} {u U : State} {H : Heap} (hv : u.vm = U.vm) (h : TH A u H) : TH A U H := by
  obtain ⟨h1, h2, h3, h4⟩ := h
  have hal : u.vm.Alike U.vm := by rw [hv]; exact Vm.Alike.refl U.vm
  refine ⟨h1.moved hal, h2.moved hal, fun q hq => ?_, fun w hw => TH_w_moved hw hal (h4 w hw)⟩
  obtain ⟨sa, h5⟩ := h3 q hq
  exact ⟨sa, vk_R.same hv.symm h5⟩
/-- a start of a method that may throw -/
def PreX (D : va_G) (cy : Nat → ClassId) (u : WT) (sz : Nat) (as : List Value) : Array Value → State → Prop := va_Pc as (fun U => ((U.heap.size = sz ∧ WB D cy (fun _ => True) u U) ∧ NW U) ∧ TH (AW u sz) U U.heap)
theorem px_blind {D : va_G} {cy : Nat → ClassId} {u : WT} {sz : Nat} {as : List Value} : FrameBlind (PreX D cy u sz as) := fun a U g mk q => by
  obtain ⟨q0, ⟨⟨q1, qP, qK, qD⟩, qN⟩, qT⟩ := q
  exact ⟨q0, ⟨⟨q1, qP, va_K.moved (u := U) (U := U.calling g mk a) (Vm.Alike.refl U.vm) qK, qD⟩, NW_same (u := U) (U := U.calling g mk a) rfl qN⟩, TH_same (u := U) (U := U.calling g mk a) rfl qT⟩
def XB (D : va_G) (cy : Nat → ClassId) (A : Nat → Prop) : String → String × WT → State → Prop := fun E u t => u.1 = E ∧ WB D cy A u.2 t
section MXS
variable {l : Launch} {y : MethodName} {ws ws' : List Cond} {rm : Room} {Qc : Array Value → State → Outcome → State → Prop} {XC : String → State → State → Prop} {mc ms : Nat} {cc : ByteArray} {maxL : Nat} {ret : Option FieldType} {D : va_G} {cy : Nat → ClassId} {u : WT} {sz : Nat} {as : List Value}
theorem mx_start (hy : plainName y.cls = true) (hw : ws = Cond.code y cc maxL ret :: ws') (has : (lg_sl as).length ≤ maxL)
    (body : ∀ (p : Program) (e : Env) (s : State) (m : MethodId) (args : Array Value) (below : List Frame) (meth : Method) (c : Code), s.heap.size = sz → meth.sig.returnType = ret → meth.name = y.name → MC p s m args meth c cc ws y.cls maxL D cy (AW u sz) → MO D (AW u sz) s.heap u s.heap [] → ∀ ls : Array Slot, lv_has ls maxL (lv_args 0 as) → W p l e rm s m args below meth c s.heap [] 0 0 (MQ below Qc args s mc ms (AW u sz)) (F0 m 0 ls [])) : Met l y ws rm (PreM D cy u sz as) Qc mc ms (AW u sz) := by
  refine Met.ofW (cc := cc) (maxL := maxL) (ret := ret) hy hw ?_
  intro p e s m args below meth c s₁ B hml hv
  obtain ⟨rfl, ⟨hsz, hP, hK, hD0⟩, hN⟩ := hv
  rw [lg_entry_eq]
  exact body p e s m _ below meth c hsz B.returns (name_of_methodNamed B.named B.method).1 ⟨⟨B.exec, B.bytes, hml, findClass_of_methodNamed B.named, atoms_spec (ws := ws) B.pre⟩, hK, fun q h => Or.inr (hsz ▸ h), B.notSynchronized, hN⟩ ⟨hP, hD0.self, va_S.rf⟩ _ (lv_entry as has)
theorem mxx_start (hy : plainName y.cls = true) (hw : ws = Cond.code y cc maxL ret :: ws') (has : (lg_sl as).length ≤ maxL)
    (body : ∀ (p : Program) (e : Env) (s : State) (m : MethodId) (args : Array Value) (below : List Frame) (meth : Method) (c : Code), s.heap.size = sz → meth.sig.returnType = ret → meth.name = y.name → MC p s m args meth c cc ws y.cls maxL D cy (AW u sz) → MO D (AW u sz) s.heap u s.heap [] → TH (AW u sz) s s.heap → (∀ x ∈ c.exceptionTable.toList, False) → ∀ ls : Array Slot, lv_has ls maxL (lv_args 0 as) → W p l e rm s m args below meth c s.heap [] 0 0 (vx_MQ below Qc XC args s mc ms (AW u sz)) (F0 m 0 ls [])) : vx_Met l y ws rm (PreX D cy u sz as) Qc XC mc ms (AW u sz) := by
  refine vx_ofW (cc := cc) (maxL := maxL) (ret := ret) hy hw ?_
  intro p e s m args below meth c s₁ B hml ht hv
  obtain ⟨rfl, ⟨⟨hsz, hP, hK, hD0⟩, hN⟩, hT⟩ := hv
  rw [lg_entry_eq]
  exact body p e s m _ below meth c hsz B.returns (name_of_methodNamed B.named B.method).1 ⟨⟨B.exec, B.bytes, hml, findClass_of_methodNamed B.named, atoms_spec (ws := ws) B.pre⟩, hK, fun q h => Or.inr (hsz ▸ h), B.notSynchronized, hN⟩ ⟨hP, hD0.self, va_S.rf⟩ hT ht _ (lv_entry as has)
end MXS
section MXC
variable {p : Program} {l : Launch} {e : Env} {R : Room} {s : State} {m : MethodId} {args : Array Value} {below : List Frame} {meth : Method} {c : Code} {H : Heap} {locs : List Loc} {cells slots : Nat} {Q : State → Prop}
variable {cc : ByteArray} {pc : Nat} {ls : Array Slot} {rest st0 : List Value} {D : va_G} {cy : Nat → ClassId} {A : Nat → Prop} {Ts : List Cond} {own : String} {nL : Nat} {u : WT}
variable {y : MethodName} {bytes : ByteArray} {maxL mc ms n index : Nat} {ret : Option FieldType} {ws : List Cond} {rm : Room} {CN : String} {b : Addr} {As : List Value} {XC : String → State → State → Prop}
theorem mo_free (M : MC p s m args meth c cc Ts own nL D cy A) (w : MO D A s.heap u H locs) : ∀ q, AW u H.size q → A q := fun q h => h.elim (fun ⟨k, e9, h9⟩ => w.2.1.2 k (q, e9) h9) (fun h9 => M.2.2.1 q (Nat.le_trans w.2.2.1 h9))
theorem pm_of (M : MC p s m args meth c cc Ts own nL D cy A) (w : MO D A s.heap u H locs) (as : List Value) : ∀ U : State, U.heap = H → s.WarmedH U.vm → PreM D cy u H.size as as.toArray U := fun U hU hW => ⟨rfl, ⟨by rw [hU], by rw [hU]; exact w.1, va_K.moved hW.alike M.2.1, w.2.1.weaken (fun _ _ _ _ => trivial)⟩, NW_warm hW M.2.2.2.2⟩
theorem px_of (M : MC p s m args meth c cc Ts own nL D cy A) (w : MO D A s.heap u H locs) (T : TH A s s.heap) (as : List Value) : ∀ U : State, U.heap = H → s.WarmedH U.vm → PreX D cy u H.size as as.toArray U := fun U hU hW => ⟨rfl, ⟨⟨by rw [hU], by rw [hU]; exact w.1, va_K.moved hW.alike M.2.1, w.2.1.weaken (fun _ _ _ _ => trivial)⟩, NW_warm hW M.2.2.2.2⟩, by rw [hU]; exact TH_warm hW w.2.2.2.1 (mo_free M w) T⟩
theorem mo_call {u1 : WT} {t : State} {H1 : Heap} {locs1 : List Loc} (M : MC p s m args meth c cc Ts own nL D cy A) (w : MO D A s.heap u H locs) (ht : t.heap = H1) (hB : WB D cy (AW u H.size) u1 t) (hS : va_S A s.heap H1 locs1) : MO D A s.heap u1 H1 locs1 := ⟨by rw [← ht]; exact hB.1, hB.2.2.weaken (fun _ _ _ h => mo_free M w _ h), hS⟩
/-- the receiver of a call -/
theorem mo_rec {C : List Nat} {ad : Nat → Nat} {g : Nat → va_E} (M : MC p s m args meth c cc Ts own nL D cy A) (w : MO D A s.heap (C, ad, g) H locs) {x : Nat} (hx : x ∈ C) {ci : Nat} {fs : List Value} (he : g x = .inr (ci, fs)) {T : u_T} {N : Nat} (hc : vwCl[ci]? = some (CN, T, N)) : ∃ cell : Cell, H[ad x]? = some cell ∧ cell.vm.isStatics = false ∧ s.vm.findClass CN = some cell.cls := by
  obtain ⟨k9, h1, h2⟩ := mp_at ad g hx
  exact va_recv M.2.1 w.1 hc (h2.trans (by rw [he]))
-- calls of methods that return
theorem mx_Vi {post : Int32 → WT → Prop} (M : MC p s m args meth c cc Ts own nL D cy A) (w : MO D A s.heap u H locs) (hM : Met l y ws rm (PreM D cy u H.size (.ref b :: As)) (va_Qi post (WB D cy (AW u H.size)) (AW u H.size)) mc ms (AW u H.size)) (cw : CallW R s args own CN index y bytes maxL ret ws rm mc ms n) (hrec : ∃ cell : Cell, H[b]? = some cell ∧ cell.vm.isStatics = false ∧ s.vm.findClass CN = some cell.cls) (hn : As.length = n) (hls : ls.size = nL) (hst : st0 = As.reverse ++ .ref b :: rest) (hrm : (rest.map fun v => v.category).sum ≤ 8) (hdg : decode cc pc = .ok (.invokevirtual index, 3)) (hf : cells + mc ≤ R.cells ∧ slots + ms ≤ R.slots)
    (kk : ∀ (r : Int32) (u1 : WT) (H1 : Heap) (locs1 : List Loc), post r u1 → MO D A s.heap u1 H1 locs1 → W p l e R s m args below meth c H1 locs1 (cells + mc) (slots + ms) Q (F0 m (pc + 3) ls (.int r :: rest))) : W p l e R s m args below meth c H locs cells slots Q (F0 m pc ls st0) :=
  va_calli (va_runV (As := As) (rest := rest) M.1 hM cw ⟨pm_blind, hrec, pm_of M w _⟩ rfl hn hls hst (lv_room hrm) hdg hf) w.2.2 (fun q _ h => mo_free M w q h) (mo_free M w) (fun r u1 t H1 locs1 ht hvm hp hB hz hk hS => kk r u1 H1 locs1 hp (mo_call M w ht hB hS))
theorem mx_Vv {post : WT → Prop} (M : MC p s m args meth c cc Ts own nL D cy A) (w : MO D A s.heap u H locs) (hM : Met l y ws rm (PreM D cy u H.size (.ref b :: As)) (va_Qv post (WB D cy (AW u H.size)) (AW u H.size)) mc ms (AW u H.size)) (cw : CallW R s args own CN index y bytes maxL ret ws rm mc ms n) (hrec : ∃ cell : Cell, H[b]? = some cell ∧ cell.vm.isStatics = false ∧ s.vm.findClass CN = some cell.cls) (hn : As.length = n) (hls : ls.size = nL) (hst : st0 = As.reverse ++ .ref b :: rest) (hrm : (rest.map fun v => v.category).sum ≤ 8) (hdg : decode cc pc = .ok (.invokevirtual index, 3)) (hf : cells + mc ≤ R.cells ∧ slots + ms ≤ R.slots)
    (kk : ∀ (u1 : WT) (H1 : Heap) (locs1 : List Loc), post u1 → MO D A s.heap u1 H1 locs1 → W p l e R s m args below meth c H1 locs1 (cells + mc) (slots + ms) Q (F0 m (pc + 3) ls rest)) : W p l e R s m args below meth c H locs cells slots Q (F0 m pc ls st0) :=
  va_callv (va_runV (As := As) (rest := rest) M.1 hM cw ⟨pm_blind, hrec, pm_of M w _⟩ rfl hn hls hst (lv_room hrm) hdg hf) w.2.2 (fun q _ h => mo_free M w q h) (mo_free M w) (fun u1 t H1 locs1 ht hvm hp hB hz hk hS => kk u1 H1 locs1 hp (mo_call M w ht hB hS))
theorem mx_Si {post : Int32 → WT → Prop} (M : MC p s m args meth c cc Ts own nL D cy A) (w : MO D A s.heap u H locs) (hM : Met l y ws rm (PreM D cy u H.size As) (va_Qi post (WB D cy (AW u H.size)) (AW u H.size)) mc ms (AW u H.size)) (cw : CallB R s args own index y bytes maxL ret ws rm mc ms n ∧ (Cond.static y).before args s = true) (hn : As.length = n) (hls : ls.size = nL) (hst : st0 = As.reverse ++ rest) (hrm : (rest.map fun v => v.category).sum ≤ 8) (hdg : decode cc pc = .ok (.invokestatic index, 3)) (hf : cells + mc ≤ R.cells ∧ slots + ms ≤ R.slots)
    (kk : ∀ (r : Int32) (u1 : WT) (H1 : Heap) (locs1 : List Loc), post r u1 → MO D A s.heap u1 H1 locs1 → W p l e R s m args below meth c H1 locs1 (cells + mc) (slots + ms) Q (F0 m (pc + 3) ls (.int r :: rest))) : W p l e R s m args below meth c H locs cells slots Q (F0 m pc ls st0) :=
  va_calli (va_runS (As := As) (rest := rest) M.1 hM cw ⟨pm_blind, pm_of M w _⟩ rfl hn hls hst (lv_room hrm) hdg hf) w.2.2 (fun q _ h => mo_free M w q h) (mo_free M w) (fun r u1 t H1 locs1 ht hvm hp hB hz hk hS => kk r u1 H1 locs1 hp (mo_call M w ht hB hS))
theorem mx_Iv {post : WT → Prop} (M : MC p s m args meth c cc Ts own nL D cy A) (w : MO D A s.heap u H locs) (hM : Met l y ws rm (PreM D cy u H.size (.ref b :: As)) (va_Qv post (WB D cy (AW u H.size)) (AW u H.size)) mc ms (AW u H.size)) (cw : CallB R s args own index y bytes maxL none ws rm mc ms n ∧ y.name = "<init>" ∧ (Cond.instanceMethod y).before args s = true) (hn : As.length = n) (hls : ls.size = nL) (hst : st0 = As.reverse ++ .ref b :: rest) (hrm : (rest.map fun v => v.category).sum ≤ 8) (hdg : decode cc pc = .ok (.invokespecial index, 3)) (hf : cells + mc ≤ R.cells ∧ slots + ms ≤ R.slots)
    (kk : ∀ (u1 : WT) (H1 : Heap) (locs1 : List Loc), post u1 → MO D A s.heap u1 H1 locs1 → W p l e R s m args below meth c H1 locs1 (cells + mc) (slots + ms) Q (F0 m (pc + 3) ls rest)) : W p l e R s m args below meth c H locs cells slots Q (F0 m pc ls st0) :=
  va_callv (va_runI (As := As) (rest := rest) M.1 hM cw ⟨pm_blind, pm_of M w _⟩ rfl hn hls hst (lv_room hrm) hdg hf) w.2.2 (fun q _ h => mo_free M w q h) (mo_free M w) (fun u1 t H1 locs1 ht hvm hp hB hz hk hS => kk u1 H1 locs1 hp (mo_call M w ht hB hS))
theorem mx_INv {host : String} {post : WT → Prop} (M : MC p s m args meth c cc Ts own nL D cy A) (w : MO D A s.heap u H locs) (hM : Met l y ws rm (PreM D cy u H.size (.ref b :: As)) (va_Qv post (WB D cy (AW u H.size)) (AW u H.size)) mc ms (AW u H.size)) (cw : va_CN R s args own index y host bytes maxL none ws rm mc ms n ∧ y.name = "<init>" ∧ (Cond.instanceMethod y).before args s = true) (hn : As.length = n) (hls : ls.size = nL) (hst : st0 = As.reverse ++ .ref b :: rest) (hrm : (rest.map fun v => v.category).sum ≤ 8) (hdg : decode cc pc = .ok (.invokespecial index, 3)) (hf : cells + mc ≤ R.cells ∧ slots + ms ≤ R.slots)
    (kk : ∀ (u1 : WT) (H1 : Heap) (locs1 : List Loc), post u1 → MO D A s.heap u1 H1 locs1 → W p l e R s m args below meth c H1 locs1 (cells + mc) (slots + ms) Q (F0 m (pc + 3) ls rest)) : W p l e R s m args below meth c H locs cells slots Q (F0 m pc ls st0) :=
  va_callv (va_runIN (As := As) (rest := rest) M.1 hM cw ⟨pm_blind, pm_of M w _⟩ rfl hn hls hst (lv_room hrm) hdg hf) w.2.2 (fun q _ h => mo_free M w q h) (mo_free M w) (fun u1 t H1 locs1 ht hvm hp hB hz hk hS => kk u1 H1 locs1 hp (mo_call M w ht hB hS))
theorem mx_SNi {host : String} {post : Int32 → WT → Prop} (M : MC p s m args meth c cc Ts own nL D cy A) (w : MO D A s.heap u H locs) (hM : Met l y ws rm (PreM D cy u H.size As) (va_Qi post (WB D cy (AW u H.size)) (AW u H.size)) mc ms (AW u H.size)) (cw : va_CN R s args own index y host bytes maxL ret ws rm mc ms n ∧ (Cond.static y).before args s = true ∧ True) (hn : As.length = n) (hls : ls.size = nL) (hst : st0 = As.reverse ++ rest) (hrm : (rest.map fun v => v.category).sum ≤ 8) (hdg : decode cc pc = .ok (.invokestatic index, 3)) (hf : cells + mc ≤ R.cells ∧ slots + ms ≤ R.slots)
    (kk : ∀ (r : Int32) (u1 : WT) (H1 : Heap) (locs1 : List Loc), post r u1 → MO D A s.heap u1 H1 locs1 → W p l e R s m args below meth c H1 locs1 (cells + mc) (slots + ms) Q (F0 m (pc + 3) ls (.int r :: rest))) : W p l e R s m args below meth c H locs cells slots Q (F0 m pc ls st0) :=
  va_calli (va_runSN (As := As) (rest := rest) M.1 hM cw ⟨pm_blind, pm_of M w _⟩ rfl hn hls hst (lv_room hrm) hdg hf) w.2.2 (fun q _ h => mo_free M w q h) (mo_free M w) (fun r u1 t H1 locs1 ht hvm hp hB hz hk hS => kk r u1 H1 locs1 hp (mo_call M w ht hB hS))
-- ends of methods that return
theorem mx_iret {post : Int32 → WT → Prop} (M : MC p s m args meth c cc Ts own nL D cy A) (w : MO D A s.heap u H locs) (hr : meth.sig.returnType = some .int) {v : Int32} (hp : post v u) (hc : cells ≤ mc) (hs : slots ≤ ms) (hdg : decode cc pc = .ok (.ireturn, 1)) : W p l e R s m args below meth c H locs cells slots (MQ below (va_Qi post (WB D cy A) A) args s mc ms A) (F0 m pc ls [.int v]) := by
  refine W.widen hc hs ?_
  exact W.iret M.1.1 M.1.2.1 hr (fun t ht hW => ⟨⟨v, u, rfl, hp, by rw [ht]; exact w.1, va_K.moved hW.alike M.2.1, w.2.1⟩, w.2.2.F ht⟩) w.2.2.2.2 hdg M.2.2.2.1
theorem mx_zret {post : Int32 → WT → Prop} (M : MC p s m args meth c cc Ts own nL D cy A) (w : MO D A s.heap u H locs) (hr : meth.sig.returnType = some .boolean) {v : Int32} (hv : v = 0 ∨ v = 1) (hp : post v u) (hc : cells ≤ mc) (hs : slots ≤ ms) (hdg : decode cc pc = .ok (.ireturn, 1)) : W p l e R s m args below meth c H locs cells slots (MQ below (va_Qi post (WB D cy A) A) args s mc ms A) (F0 m pc ls [.int v]) := by
  refine W.widen hc hs ?_
  exact W.zret M.1.1 M.1.2.1 hr (by rcases hv with rfl | rfl <;> rfl) (fun t ht hW => ⟨⟨v, u, rfl, hp, by rw [ht]; exact w.1, va_K.moved hW.alike M.2.1, w.2.1⟩, w.2.2.F ht⟩) w.2.2.2.2 hdg M.2.2.2.1
theorem mx_vret {post : WT → Prop} (M : MC p s m args meth c cc Ts own nL D cy A) (w : MO D A s.heap u H locs) (hr : meth.sig.returnType = none) (hp : post u) (hc : cells ≤ mc) (hs : slots ≤ ms) (hdg : decode cc pc = .ok (.return_, 1)) : W p l e R s m args below meth c H locs cells slots (MQ below (va_Qv post (WB D cy A) A) args s mc ms A) (F0 m pc ls []) := by
  refine W.widen hc hs ?_
  exact W.vret M.1.1 M.1.2.1 hr (fun t ht hW => ⟨⟨u, rfl, hp, by rw [ht]; exact w.1, va_K.moved hW.alike M.2.1, w.2.1⟩, w.2.2.F ht⟩) w.2.2.2.2 hdg M.2.2.2.1
theorem mx_aret {rt : FieldType} {post : WT → Prop} {AD : Nat → WT → Prop} (M : MC p s m args meth c cc Ts own nL D cy A) (w : MO D A s.heap u H locs) (hr : meth.sig.returnType = some rt) (hrt : (∃ n, rt = .object n) ∨ ∃ t, rt = .array t) {a : Nat} (hp : post u) (ha : AD a u) (hc : cells ≤ mc) (hs : slots ≤ ms) (hdg : decode cc pc = .ok (.areturn, 1)) : W p l e R s m args below meth c H locs cells slots (MQ below (va_Qr post (fun u a t => AD a u ∧ WB D cy A u t) A) args s mc ms A) (F0 m pc ls [.ref a]) := by
  refine W.widen hc hs ?_
  exact W.aret M.1.1 M.1.2.1 hr hrt (Or.inr ⟨a, rfl⟩) (fun t ht hW => ⟨⟨u, a, rfl, hp, ha, by rw [ht]; exact w.1, va_K.moved hW.alike M.2.1, w.2.1⟩, w.2.2.F ht⟩) w.2.2.2.2 hdg M.2.2.2.1
-- throws
theorem TH_hat {L : List Cond} (M : MC p s m args meth c cc Ts own nL D cy A) (T : TH A s s.heap) (h1 : ∀ w ∈ L.filter goodWord, w ∈ Ts) (h2 : ∀ w ∈ L.filter (fun w => !goodWord w), w ∈ THw) : ∀ w ∈ L, w.before args s = true :=
  vx_hat (B := THw) (fun w hw => M.1.2.2.2.2 w (h1 w hw)) h2 (fun w hw => va_Nw.use (by
    simp only [THw, List.mem_cons, List.not_mem_nil, or_false] at hw
    rcases hw with rfl | rfl | rfl | rfl | rfl | rfl <;> rfl) (T.2.2.2 w hw))
theorem mx_throw {Qc : Array Value → State → Outcome → State → Prop} {px : String × WT → Prop} (M : MC p s m args meth c cc Ts own nL D cy A) (w : MO D A s.heap u H locs) (T : TH A s s.heap) (hl : l.stackTraces = false) (hx : ∀ x ∈ c.exceptionTable.toList, False) {cls text : String} {ik is ic : Nat} (hcls : Bundle.fit cls = true) (hk : Cond.classLink own ik cls ∈ Ts) (hini : Cond.initialized cls ∈ Ts) (hstr : (is, text) ∈ THstr) (hown : own = RX3) (h1 : ∀ w ∈ (vx_atS own ic cls eUP).filter goodWord, w ∈ Ts) (h2 : ∀ w ∈ (vx_atS own ic cls eUP).filter (fun w => !goodWord w), w ∈ THw) (hgood : ∀ w ∈ Cond.classLink own ik cls :: Cond.initialized cls :: vx_atS own ic cls eUP, vx_ot w = true) (hls : ls.size = nL)
    (d0 : decode cc pc = .ok (.new ik, 3)) (d3 : decode cc (pc + 3) = .ok (.dup, 1)) (d4 : decode cc (pc + 4) = .ok (.ldc is, 2)) (d6 : decode cc (pc + 6) = .ok (.invokespecial ic, 3)) (d9 : decode cc (pc + 9) = .ok (.athrow, 1))
    (hRf : 5 < R.frames) (hRl : (rest.map fun v => v.category).sum + 82 ≤ R.locals) (hRc : cells + 1 ≤ R.cells) (hRs : slots + 6 ≤ R.slots) (hp : px (cls, u)) (hc : cells + 1 ≤ mc) (hs : slots + 6 ≤ ms) :
    W p l e R s m args below meth c H locs cells slots (vx_MQ below Qc (vx_X px (XB D cy A) A) args s mc ms A) (F0 m pc ls rest) := by
  subst hown
  obtain ⟨sa, hsa⟩ := T.2.2.1 _ hstr
  exact vx_throwS M.1.1 M.1.2.1 hl (names := eUP) M.1.2.2.2.1 hcls (by decide +kernel) (M.1.2.2.2.2 _ hk) (M.1.2.2.2.2 _ hini) hsa (TH_hat M T h1 h2) hgood T.1 T.2.1 w.2.2 (hls.trans M.1.2.2.1.symm) d0 d3 d4 d6 d9 (fun x h => (hx x h).elim) hRf hRl hRc hRs M.2.2.2.1
    (fun t hvm hz hq => ⟨(cls, u), hp, ⟨rfl, w.1.kept (fun k q hk => hq q.1 (w.1 k q hk).lt), va_K.moved hvm M.2.1, w.2.1⟩, Nat.le_trans w.2.2.1 hz, fun q h1 h2 => (hq q (Nat.lt_of_lt_of_le h1 w.2.2.1)).trans (w.2.2.2.1 q h1 h2)⟩) w.2.2.2.2 hc hs
/-- a throw of a callee goes on -/
theorem mx_out {Qc : Array Value → State → Outcome → State → Prop} {px : String × WT → Prop} {mc0 ms0 : Nat} (M : MC p s m args meth c cc Ts own nL D cy A) (w : MO D A s.heap u H locs) (hx : ∀ x ∈ c.exceptionTable.toList, False) {E : String} {ce : Cell} {q9 : Addr} (hcell : H[q9]? = some ce) (hv : ce.vm = .none) (hcl : s.vm.findClass E = some ce.cls) (hp : px (E, u)) (hc : cells ≤ mc0) (hs : slots ≤ ms0) : vx_W p l e R s m args below meth c H locs cells slots (vx_MQ below Qc (vx_X px (XB D cy A) A) args s mc0 ms0 A) (F0 m pc ls rest) q9 :=
  vx_out (fun x h => (hx x h).elim) M.2.2.2.1 hcell hv hcl (fun t ht hvm => ⟨(E, u), hp, ⟨rfl, by rw [ht]; exact w.1, va_K.moved hvm M.2.1, w.2.1⟩, w.2.2.F ht⟩) w.2.2.2.2 hc hs
-- calls of methods that may throw, from a method that doesn't catch
theorem mxx_Vi {post : Int32 → WT → Prop} {py px : String × WT → Prop} {Qc : Array Value → State → Outcome → State → Prop} {mc0 ms0 : Nat} (M : MC p s m args meth c cc Ts own nL D cy A) (w : MO D A s.heap u H locs) (T : TH A s s.heap) (hx : ∀ x ∈ c.exceptionTable.toList, False) (hM : vx_Met l y ws rm (PreX D cy u H.size (.ref b :: As)) (va_Qi post (WB D cy (AW u H.size)) (AW u H.size)) (vx_X py (XB D cy (AW u H.size)) (AW u H.size)) mc ms (AW u H.size)) (cw : CallW R s args own CN index y bytes maxL ret ws rm mc ms n) (hrec : ∃ cell : Cell, H[b]? = some cell ∧ cell.vm.isStatics = false ∧ s.vm.findClass CN = some cell.cls) (hn : As.length = n) (hls : ls.size = nL) (hst : st0 = As.reverse ++ .ref b :: rest) (hrm : (rest.map fun v => v.category).sum ≤ 8) (hdg : decode cc pc = .ok (.invokevirtual index, 3)) (hf : cells + mc ≤ R.cells ∧ slots + ms ≤ R.slots) (hf0 : cells + mc ≤ mc0 ∧ slots + ms ≤ ms0)
    (kx : ∀ (E : String) (u1 : WT), py (E, u1) → px (E, u1))
    (kk : ∀ (r : Int32) (u1 : WT) (H1 : Heap) (locs1 : List Loc), post r u1 → MO D A s.heap u1 H1 locs1 → W p l e R s m args below meth c H1 locs1 (cells + mc) (slots + ms) (vx_MQ below Qc (vx_X px (XB D cy A) A) args s mc0 ms0 A) (F0 m (pc + 3) ls (.int r :: rest))) : W p l e R s m args below meth c H locs cells slots (vx_MQ below Qc (vx_X px (XB D cy A) A) args s mc0 ms0 A) (F0 m pc ls st0) :=
  vx_calli (vx_runV (As := As) (rest := rest) M.1 hM cw ⟨px_blind, hrec, px_of M w T _⟩ rfl hn hls hst (lv_room hrm) hdg hf) w.2.2 (fun q _ h => mo_free M w q h) (mo_free M w) (fun q _ h => mo_free M w q h)
    (fun E ce q9 u1 t H1 locs1 ht hvm hp hB hz hk hS hce hcv hcl => by
      obtain ⟨E1, u2⟩ := u1
      obtain ⟨rfl, hB⟩ := hB
      exact mx_out M (mo_call M w ht hB hS) hx hce hcv hcl (kx _ _ hp) hf0.1 hf0.2)
    (fun r u1 t H1 locs1 ht hvm hp hB hz hk hS => kk r u1 H1 locs1 hp (mo_call M w ht hB hS))
theorem mxx_Sv {post : WT → Prop} {py px : String × WT → Prop} {Qc : Array Value → State → Outcome → State → Prop} {mc0 ms0 : Nat} (M : MC p s m args meth c cc Ts own nL D cy A) (w : MO D A s.heap u H locs) (T : TH A s s.heap) (hx : ∀ x ∈ c.exceptionTable.toList, False) (hM : vx_Met l y ws rm (PreX D cy u H.size As) (va_Qv post (WB D cy (AW u H.size)) (AW u H.size)) (vx_X py (XB D cy (AW u H.size)) (AW u H.size)) mc ms (AW u H.size)) (cw : CallB R s args own index y bytes maxL ret ws rm mc ms n ∧ (Cond.static y).before args s = true) (hn : As.length = n) (hls : ls.size = nL) (hst : st0 = As.reverse ++ rest) (hrm : (rest.map fun v => v.category).sum ≤ 8) (hdg : decode cc pc = .ok (.invokestatic index, 3)) (hf : cells + mc ≤ R.cells ∧ slots + ms ≤ R.slots) (hf0 : cells + mc ≤ mc0 ∧ slots + ms ≤ ms0)
    (kx : ∀ (E : String) (u1 : WT), py (E, u1) → px (E, u1))
    (kk : ∀ (u1 : WT) (H1 : Heap) (locs1 : List Loc), post u1 → MO D A s.heap u1 H1 locs1 → W p l e R s m args below meth c H1 locs1 (cells + mc) (slots + ms) (vx_MQ below Qc (vx_X px (XB D cy A) A) args s mc0 ms0 A) (F0 m (pc + 3) ls rest)) : W p l e R s m args below meth c H locs cells slots (vx_MQ below Qc (vx_X px (XB D cy A) A) args s mc0 ms0 A) (F0 m pc ls st0) :=
  vx_callv (vx_runS (As := As) (rest := rest) M.1 hM cw ⟨px_blind, px_of M w T _⟩ rfl hn hls hst (lv_room hrm) hdg hf) w.2.2 (fun q _ h => mo_free M w q h) (mo_free M w) (fun q _ h => mo_free M w q h)
    (fun E ce q9 u1 t H1 locs1 ht hvm hp hB hz hk hS hce hcv hcl => by
      obtain ⟨E1, u2⟩ := u1
      obtain ⟨rfl, hB⟩ := hB
      exact mx_out M (mo_call M w ht hB hS) hx hce hcv hcl (kx _ _ hp) hf0.1 hf0.2)
    (fun u1 t H1 locs1 ht hvm hp hB hz hk hS => kk u1 H1 locs1 hp (mo_call M w ht hB hS))
theorem vx_callr9 {S SX : Type} {A0 A1 : Nat → Prop} {H0 : Heap} {free : Addr → Prop} {a : Array Value} {post : S → Prop} {px : SX → Prop} {B : S → Nat → State → Prop} {BX : String → SX → State → Prop} {AX : Nat → Prop} (hr : vx_Run p l e R s m args below meth c H locs cells slots mc ms (F0 m pc ls st0) rest (va_Qr post B A1 a) (vx_X px BX AX) free) (hS : va_S A0 H0 H locs) (hA : ∀ q, q < H.size → A1 q → A0 q) (hf : ∀ q, free q → A0 q) (hAX : ∀ q, q < H.size → AX q → A0 q)
    (kx : ∀ (E : String) (ce : Cell) (q9 : Addr) (u : SX) (t : State) (H1 : Heap) (locs1 : List Loc), t.heap = H1 → s.vm.Alike t.vm → px u → BX E u t → H.size ≤ H1.size → (∀ q : Nat, q < H.size → ¬ AX q → H1[q]? = H[q]?) → va_S A0 H0 H1 locs1 → H1[q9]? = some ce → ce.vm = .none → s.vm.findClass E = some ce.cls → vx_W p l e R s m args below meth c H1 locs1 (cells + mc) (slots + ms) Q (F0 m pc ls rest) q9)
    (kk : ∀ (u : S) (ra : Nat) (t : State) (H1 : Heap) (locs1 : List Loc), t.heap = H1 → s.vm.Alike t.vm → post u → B u ra t → H.size ≤ H1.size → (∀ q : Nat, q < H.size → ¬ A1 q → H1[q]? = H[q]?) → va_S A0 H0 H1 locs1 → W p l e R s m args below meth c H1 locs1 (cells + mc) (slots + ms) Q (F0 m (pc + 3) ls (.ref ra :: rest))) : W p l e R s m args below meth c H locs cells slots Q (F0 m pc ls st0) := by
  intro T hT X
  rcases hr T hT X with ⟨v, st₀, t, T', L, h0, X', hL, e1, e2, ⟨⟨u, ra, hv, hp, hb⟩, hF⟩, st⟩ | ⟨q, st₀, t, T', L, E, ce, h0, X', hL, e1, e2, ⟨u, hp, hb, hF⟩, hce, hcv, hcl, st⟩
  · cases hv
    obtain ⟨k1, k2, k3⟩ := vx_keep h0 e1 hS hA hf hL hF
    obtain ⟨t2, a1, b1⟩ := kk u ra t T'.heap (locs ++ L) e1.symm (by rw [← e2]; exact X'.warmed.alike) hp hb k1 k2 k3 T' rfl X'
    exact ⟨t2, st t2 a1, b1⟩
  · obtain ⟨k1, k2, k3⟩ := vx_keep h0 e1 hS hAX hf hL hF
    obtain ⟨t2, a1, b1⟩ := kx E ce q u t T'.heap (locs ++ L) e1.symm (by rw [← e2]; exact X'.warmed.alike) hp hb k1 k2 k3 (by rw [e1]; exact hce) hcv hcl T' rfl X'
    exact ⟨t2, st.trans a1, b1⟩
theorem mxx_Vr {post : WT → Prop} {AD : Nat → WT → Prop} {py px : String × WT → Prop} {Qc : Array Value → State → Outcome → State → Prop} {mc0 ms0 : Nat} (M : MC p s m args meth c cc Ts own nL D cy A) (w : MO D A s.heap u H locs) (T : TH A s s.heap) (hx : ∀ x ∈ c.exceptionTable.toList, False) (hM : vx_Met l y ws rm (PreX D cy u H.size (.ref b :: As)) (va_Qr post (fun u9 a9 t9 => AD a9 u9 ∧ WB D cy (AW u H.size) u9 t9) (AW u H.size)) (vx_X py (XB D cy (AW u H.size)) (AW u H.size)) mc ms (AW u H.size)) (cw : CallW R s args own CN index y bytes maxL ret ws rm mc ms n) (hrec : ∃ cell : Cell, H[b]? = some cell ∧ cell.vm.isStatics = false ∧ s.vm.findClass CN = some cell.cls) (hn : As.length = n) (hls : ls.size = nL) (hst : st0 = As.reverse ++ .ref b :: rest) (hrm : (rest.map fun v => v.category).sum ≤ 8) (hdg : decode cc pc = .ok (.invokevirtual index, 3)) (hf : cells + mc ≤ R.cells ∧ slots + ms ≤ R.slots) (hf0 : cells + mc ≤ mc0 ∧ slots + ms ≤ ms0)
    (kx : ∀ (E : String) (u1 : WT), py (E, u1) → px (E, u1))
    (kk : ∀ (ra : Nat) (u1 : WT) (H1 : Heap) (locs1 : List Loc), post u1 → AD ra u1 → MO D A s.heap u1 H1 locs1 → W p l e R s m args below meth c H1 locs1 (cells + mc) (slots + ms) (vx_MQ below Qc (vx_X px (XB D cy A) A) args s mc0 ms0 A) (F0 m (pc + 3) ls (.ref ra :: rest))) : W p l e R s m args below meth c H locs cells slots (vx_MQ below Qc (vx_X px (XB D cy A) A) args s mc0 ms0 A) (F0 m pc ls st0) :=
  vx_callr9 (vx_runV (As := As) (rest := rest) M.1 hM cw ⟨px_blind, hrec, px_of M w T _⟩ rfl hn hls hst (lv_room hrm) hdg hf) w.2.2 (fun q _ h => mo_free M w q h) (mo_free M w) (fun q _ h => mo_free M w q h)
    (fun E ce q9 u1 t H1 locs1 ht hvm hp hB hz hk hS hce hcv hcl => by
      obtain ⟨E1, u2⟩ := u1
      obtain ⟨rfl, hB⟩ := hB
      exact mx_out M (mo_call M w ht hB hS) hx hce hcv hcl (kx _ _ hp) hf0.1 hf0.2)
    (fun u1 ra t H1 locs1 ht hvm hp hB hz hk hS => kk ra u1 H1 locs1 hp hB.1 (mo_call M w ht hB.2 hS))
end MXC
