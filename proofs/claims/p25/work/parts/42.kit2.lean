/-! ===== the law: starts of its methods, calls between them, calls that are caught ===== -/
def NC (U : State) : Prop := va_Nc eIA eIO U ∧ va_Nc eIS eIO U ∧ va_Nc eIS eIA U
theorem NC_moved {u U : State} (hvm : u.vm.Alike U.vm) (h : NC u) : NC U := ⟨h.1.moved hvm, h.2.1.moved hvm, h.2.2.moved hvm⟩
/-- a start of a wrapper -/
def PreW (D : va_G) (cy : Nat → ClassId) (u : WT) (sz : Nat) (as : List Value) : Array Value → State → Prop := va_Pc as (fun U => (((U.heap.size = sz ∧ WB D cy (fun _ => True) u U) ∧ NW U) ∧ TH (AW u sz) U U.heap) ∧ NC U)
theorem pw_blind {D : va_G} {cy : Nat → ClassId} {u : WT} {sz : Nat} {as : List Value} : FrameBlind (PreW D cy u sz as) := fun a U g mk q => by
  obtain ⟨q0, ⟨⟨⟨q1, qP, qK, qD⟩, qN⟩, qT⟩, qC⟩ := q
  exact ⟨q0, ⟨⟨⟨q1, qP, va_K.moved (u := U) (U := U.calling g mk a) (Vm.Alike.refl U.vm) qK, qD⟩, NW_same (u := U) (U := U.calling g mk a) rfl qN⟩, TH_same (u := U) (U := U.calling g mk a) rfl qT⟩, NC_moved (u := U) (U := U.calling g mk a) (Vm.Alike.refl U.vm) qC⟩
section LWS
variable {l : Launch} {y : MethodName} {ws ws' : List Cond} {rm : Room} {Qc : Array Value → State → Outcome → State → Prop} {mc ms : Nat} {cc : ByteArray} {maxL : Nat} {ret : Option FieldType} {hh : List (Nat × Nat × Nat × Nat)} {D : va_G} {cy : Nat → ClassId} {u : WT} {sz : Nat} {as : List Value}
theorem mxw_start (hy : plainName y.cls = true) (hw : ws = Cond.codeWith y cc maxL ret hh :: ws') (has : (lg_sl as).length ≤ maxL)
    (body : ∀ (p : Program) (e : Env) (s : State) (m : MethodId) (args : Array Value) (below : List Frame) (meth : Method) (c : Code), s.heap.size = sz → meth.sig.returnType = ret → MC p s m args meth c cc ws y.cls maxL D cy (AW u sz) → MO D (AW u sz) s.heap u s.heap [] → TH (AW u sz) s s.heap → NC s → c.exceptionTable.toList = tableOf hh → ∀ ls : Array Slot, lv_has ls maxL (lv_args 0 as) → W p l e rm s m args below meth c s.heap [] 0 0 (MQ below Qc args s mc ms (AW u sz)) (F0 m 0 ls [])) : Met l y ws rm (PreW D cy u sz as) Qc mc ms (AW u sz) := by
  refine va_MetW (cc := cc) (maxL := maxL) (ret := ret) (hh := hh) hy hw ?_
  intro p e s m args below meth c s₁ B hml hv
  obtain ⟨rfl, ⟨⟨⟨hsz, hP, hK, hD0⟩, hN⟩, hT⟩, hC⟩ := hv
  rw [lg_entry_eq]
  have hts := atoms_spec (ws := ws) B.pre
  exact body p e s m _ below meth c hsz B.returns ⟨⟨B.exec, B.bytes, hml, findClass_of_methodNamed B.named, hts⟩, hK, fun q h => Or.inr (hsz ▸ h), B.notSynchronized, hN⟩ ⟨hP, hD0.self, va_S.rf⟩ hT hC (vx_table (x := y) B (hts _ (by rw [hw]; exact List.mem_cons_self))) _ (lv_entry as has)
end LWS
section LWC
variable {p : Program} {l : Launch} {e : Env} {R : Room} {s : State} {m : MethodId} {args : Array Value} {below : List Frame} {meth : Method} {c : Code} {H : Heap} {locs : List Loc} {cells slots : Nat} {Q : State → Prop}
variable {cc : ByteArray} {pc : Nat} {ls : Array Slot} {rest st0 : List Value} {D : va_G} {cy : Nat → ClassId} {A : Nat → Prop} {Ts : List Cond} {own : String} {nL : Nat} {u : WT}
variable {y : MethodName} {bytes : ByteArray} {maxL mc ms n index : Nat} {ret : Option FieldType} {ws : List Cond} {rm : Room} {CN : String} {b : Addr} {As : List Value} {hh : List (Nat × Nat × Nat × Nat)}
-- calls of methods that may throw, from one that catches
theorem mxc_Vi {post : Int32 → WT → Prop} {py : String × WT → Prop} (M : MC p s m args meth c cc Ts own nL D cy A) (w : MO D A s.heap u H locs) (T : TH A s s.heap) (hM : vx_Met l y ws rm (PreX D cy u H.size (.ref b :: As)) (va_Qi post (WB D cy (AW u H.size)) (AW u H.size)) (vx_X py (XB D cy (AW u H.size)) (AW u H.size)) mc ms (AW u H.size)) (cw : CallW R s args own CN index y bytes maxL ret ws rm mc ms n) (hrec : ∃ cell : Cell, H[b]? = some cell ∧ cell.vm.isStatics = false ∧ s.vm.findClass CN = some cell.cls) (hn : As.length = n) (hls : ls.size = nL) (hst : st0 = As.reverse ++ .ref b :: rest) (hrm : (rest.map fun v => v.category).sum ≤ 8) (hdg : decode cc pc = .ok (.invokevirtual index, 3)) (hf : cells + mc ≤ R.cells ∧ slots + ms ≤ R.slots)
    (kx : ∀ (E : String) (ce : Cell) (q9 : Addr) (u1 : WT) (H1 : Heap) (locs1 : List Loc), H1[q9]? = some ce → ce.vm = .none → s.vm.findClass E = some ce.cls → py (E, u1) → MO D A s.heap u1 H1 locs1 → vx_W p l e R s m args below meth c H1 locs1 (cells + mc) (slots + ms) Q (F0 m pc ls rest) q9)
    (kk : ∀ (r : Int32) (u1 : WT) (H1 : Heap) (locs1 : List Loc), post r u1 → MO D A s.heap u1 H1 locs1 → W p l e R s m args below meth c H1 locs1 (cells + mc) (slots + ms) Q (F0 m (pc + 3) ls (.int r :: rest))) : W p l e R s m args below meth c H locs cells slots Q (F0 m pc ls st0) :=
  vx_calli (vx_runV (As := As) (rest := rest) M.1 hM cw ⟨px_blind, hrec, px_of M w T _⟩ rfl hn hls hst (lv_room hrm) hdg hf) w.2.2 (fun q _ h => mo_free M w q h) (mo_free M w) (fun q _ h => mo_free M w q h)
    (fun E ce q9 u1 t H1 locs1 ht hvm hp hB hz hk hS hce hcv hcl => by
      obtain ⟨E1, u2⟩ := u1
      obtain ⟨rfl, hB⟩ := hB
      exact kx _ ce q9 u2 H1 locs1 hce hcv hcl hp (mo_call M w ht hB hS))
    (fun r u1 t H1 locs1 ht hvm hp hB hz hk hS => kk r u1 H1 locs1 hp (mo_call M w ht hB hS))
theorem mxc_Vv {post : WT → Prop} {py : String × WT → Prop} (M : MC p s m args meth c cc Ts own nL D cy A) (w : MO D A s.heap u H locs) (T : TH A s s.heap) (hM : vx_Met l y ws rm (PreX D cy u H.size (.ref b :: As)) (va_Qv post (WB D cy (AW u H.size)) (AW u H.size)) (vx_X py (XB D cy (AW u H.size)) (AW u H.size)) mc ms (AW u H.size)) (cw : CallW R s args own CN index y bytes maxL ret ws rm mc ms n) (hrec : ∃ cell : Cell, H[b]? = some cell ∧ cell.vm.isStatics = false ∧ s.vm.findClass CN = some cell.cls) (hn : As.length = n) (hls : ls.size = nL) (hst : st0 = As.reverse ++ .ref b :: rest) (hrm : (rest.map fun v => v.category).sum ≤ 8) (hdg : decode cc pc = .ok (.invokevirtual index, 3)) (hf : cells + mc ≤ R.cells ∧ slots + ms ≤ R.slots)
    (kx : ∀ (E : String) (ce : Cell) (q9 : Addr) (u1 : WT) (H1 : Heap) (locs1 : List Loc), H1[q9]? = some ce → ce.vm = .none → s.vm.findClass E = some ce.cls → py (E, u1) → MO D A s.heap u1 H1 locs1 → vx_W p l e R s m args below meth c H1 locs1 (cells + mc) (slots + ms) Q (F0 m pc ls rest) q9)
    (kk : ∀ (u1 : WT) (H1 : Heap) (locs1 : List Loc), post u1 → MO D A s.heap u1 H1 locs1 → W p l e R s m args below meth c H1 locs1 (cells + mc) (slots + ms) Q (F0 m (pc + 3) ls rest)) : W p l e R s m args below meth c H locs cells slots Q (F0 m pc ls st0) :=
  vx_callv (vx_runV (As := As) (rest := rest) M.1 hM cw ⟨px_blind, hrec, px_of M w T _⟩ rfl hn hls hst (lv_room hrm) hdg hf) w.2.2 (fun q _ h => mo_free M w q h) (mo_free M w) (fun q _ h => mo_free M w q h)
    (fun E ce q9 u1 t H1 locs1 ht hvm hp hB hz hk hS hce hcv hcl => by
      obtain ⟨E1, u2⟩ := u1
      obtain ⟨rfl, hB⟩ := hB
      exact kx _ ce q9 u2 H1 locs1 hce hcv hcl hp (mo_call M w ht hB hS))
    (fun u1 t H1 locs1 ht hvm hp hB hz hk hS => kk u1 H1 locs1 hp (mo_call M w ht hB hS))
theorem mxc_catch {E : String} {ce : Cell} {q9 : Addr} (M : MC p s m args meth c cc Ts own nL D cy A) (T : TH A s s.heap) (tgt : Nat) (pre : List ExceptionTableEntry) (x : ExceptionTableEntry) (suf : List ExceptionTableEntry) (hsplit : c.exceptionTable.toList = pre ++ x :: suf) (ht : x.handlerPc = tgt) (hpass : ∀ z ∈ pre, z.catchType ≠ 0 ∧ ∃ nm : String, Cond.classLink own z.catchType nm ∈ Ts ∧ va_Nc E nm s) (hx : covers x pc = true) (h0 : x.catchType ≠ 0) (hlink : Cond.classLink own x.catchType E ∈ Ts) (hE : Cond.castable E E ∈ THw) (hcell : H[q9]? = some ce) (hv : ce.vm = .none) (hcl : s.vm.findClass E = some ce.cls)
    (kk : W p l e R s m args below meth c H locs cells slots Q (F0 m tgt ls [.ref q9])) : vx_W p l e R s m args below meth c H locs cells slots Q (F0 m pc ls rest) q9 := by
  subst ht
  exact vx_catch M.1.2.2.2.1 pre x suf hsplit (fun z hz => Or.inr ⟨(hpass z hz).1, by obtain ⟨_, nm, h1, h2⟩ := hpass z hz; exact ⟨nm, M.1.2.2.2.2 _ h1, h2⟩⟩) hx h0 (M.1.2.2.2.2 _ hlink) (va_Nw.use rfl (T.2.2.2 _ hE)) hcell hv hcl kk
theorem pw_of (M : MC p s m args meth c cc Ts own nL D cy A) (w : MO D A s.heap u H locs) (T : TH A s s.heap) (hN : NC s) (as : List Value) : ∀ U : State, U.heap = H → s.WarmedH U.vm → PreW D cy u H.size as as.toArray U := fun U hU hW => ⟨rfl, ⟨⟨⟨by rw [hU], by rw [hU]; exact w.1, va_K.moved hW.alike M.2.1, w.2.1.weaken (fun _ _ _ _ => trivial)⟩, NW_warm hW M.2.2.2.2⟩, by rw [hU]; exact TH_warm hW w.2.2.2.1 (mo_free M w) T⟩, NC_moved hW.alike hN⟩
theorem mxw_SW {post : Int32 → WT → Prop} (M : MC p s m args meth c cc Ts own nL D cy A) (w : MO D A s.heap u H locs) (T : TH A s s.heap) (hN : NC s) (hM : Met l y ws rm (PreW D cy u H.size As) (va_Qi post (WB D cy (AW u H.size)) (AW u H.size)) mc ms (AW u H.size)) (cw : vx_CSW R s args own index y bytes maxL ret hh ws rm mc ms n) (hn : As.length = n) (hls : ls.size = nL) (hst : st0 = As.reverse ++ rest) (hrm : (rest.map fun v => v.category).sum ≤ 8) (hdg : decode cc pc = .ok (.invokestatic index, 3)) (hf : cells + mc ≤ R.cells ∧ slots + ms ≤ R.slots)
    (kk : ∀ (r : Int32) (u1 : WT) (H1 : Heap) (locs1 : List Loc), post r u1 → MO D A s.heap u1 H1 locs1 → W p l e R s m args below meth c H1 locs1 (cells + mc) (slots + ms) Q (F0 m (pc + 3) ls (.int r :: rest))) : W p l e R s m args below meth c H locs cells slots Q (F0 m pc ls st0) :=
  va_calli (vx_runSW (As := As) (rest := rest) M.1 hM cw ⟨pw_blind, pw_of M w T hN _⟩ rfl hn hls hst (lv_room hrm) hdg hf) w.2.2 (fun q _ h => mo_free M w q h) (mo_free M w) (fun r u1 t H1 locs1 ht hvm hp hB hz hk hS => kk r u1 H1 locs1 hp (mo_call M w ht hB hS))
theorem mxp_Si {post : Int32 → WT → Prop} (M : MC p s m args meth c cc Ts own nL D cy A) (w : MO D A s.heap u H locs) (T : TH A s s.heap) (hN : NC s) (hM : Met l y ws rm (PreW D cy u H.size As) (va_Qi post (WB D cy (AW u H.size)) (AW u H.size)) mc ms (AW u H.size)) (cw : CallB R s args own index y bytes maxL ret ws rm mc ms n ∧ (Cond.static y).before args s = true) (hn : As.length = n) (hls : ls.size = nL) (hst : st0 = As.reverse ++ rest) (hrm : (rest.map fun v => v.category).sum ≤ 8) (hdg : decode cc pc = .ok (.invokestatic index, 3)) (hf : cells + mc ≤ R.cells ∧ slots + ms ≤ R.slots)
    (kk : ∀ (r : Int32) (u1 : WT) (H1 : Heap) (locs1 : List Loc), post r u1 → MO D A s.heap u1 H1 locs1 → W p l e R s m args below meth c H1 locs1 (cells + mc) (slots + ms) Q (F0 m (pc + 3) ls (.int r :: rest))) : W p l e R s m args below meth c H locs cells slots Q (F0 m pc ls st0) :=
  va_calli (va_runS (As := As) (rest := rest) M.1 hM cw ⟨pw_blind, pw_of M w T hN _⟩ rfl hn hls hst (lv_room hrm) hdg hf) w.2.2 (fun q _ h => mo_free M w q h) (mo_free M w) (fun r u1 t H1 locs1 ht hvm hp hB hz hk hS => kk r u1 H1 locs1 hp (mo_call M w ht hB hS))
theorem mx_Sv {post : WT → Prop} (M : MC p s m args meth c cc Ts own nL D cy A) (w : MO D A s.heap u H locs) (hM : Met l y ws rm (PreM D cy u H.size As) (va_Qv post (WB D cy (AW u H.size)) (AW u H.size)) mc ms (AW u H.size)) (cw : CallB R s args own index y bytes maxL ret ws rm mc ms n ∧ (Cond.static y).before args s = true) (hn : As.length = n) (hls : ls.size = nL) (hst : st0 = As.reverse ++ rest) (hrm : (rest.map fun v => v.category).sum ≤ 8) (hdg : decode cc pc = .ok (.invokestatic index, 3)) (hf : cells + mc ≤ R.cells ∧ slots + ms ≤ R.slots)
    (kk : ∀ (u1 : WT) (H1 : Heap) (locs1 : List Loc), post u1 → MO D A s.heap u1 H1 locs1 → W p l e R s m args below meth c H1 locs1 (cells + mc) (slots + ms) Q (F0 m (pc + 3) ls rest)) : W p l e R s m args below meth c H locs cells slots Q (F0 m pc ls st0) :=
  va_callv (va_runS (As := As) (rest := rest) M.1 hM cw ⟨pm_blind, pm_of M w _⟩ rfl hn hls hst (lv_room hrm) hdg hf) w.2.2 (fun q _ h => mo_free M w q h) (mo_free M w) (fun u1 t H1 locs1 ht hvm hp hB hz hk hS => kk u1 H1 locs1 hp (mo_call M w ht hB hS))
-- the script, for cell
def PrC9 (D : va_G) (cy : Nat → ClassId) (u : WT) (sz b L : Nat) (xs : Nat → Int32) (as : List Value) : Array Value → State → Prop := va_Pc as (fun U => (((U.heap.size = sz ∧ WB D cy (fun _ => True) u U) ∧ NW U) ∧ va_X b L xs U U.heap) ∧ b < sz ∧ ¬ AW u sz b)
theorem va_X_moved {b L : Nat} {xs : Nat → Int32} {U U' : State} {H0 : Heap} (hvm : U.vm.Alike U'.vm) (h : va_X b L xs U H0) : va_X b L xs U' H0 := by
  obtain ⟨scr, h1, h2, h3, h4, h5⟩ := h
  exact ⟨scr, h1, State.isArrayOf_alike hvm h2, h3, h4, h5⟩
theorem va_X_heap {b L : Nat} {xs : Nat → Int32} {U : State} {H0 H1 : Heap} (hh : H1[b]? = H0[b]?) (h : va_X b L xs U H0) : va_X b L xs U H1 := by
  obtain ⟨scr, h1, h2, h3, h4, h5⟩ := h
  exact ⟨scr, hh.trans h1, h2, h3, h4, h5⟩
theorem ps_blind {D : va_G} {cy : Nat → ClassId} {u : WT} {sz b L : Nat} {xs : Nat → Int32} {as : List Value} : FrameBlind (PrC9 D cy u sz b L xs as) := fun a U g mk q => by
  obtain ⟨q0, ⟨⟨⟨q1, qP, qK, qD⟩, qN⟩, qX⟩, qb⟩ := q
  exact ⟨q0, ⟨⟨⟨q1, qP, va_K.moved (u := U) (U := U.calling g mk a) (Vm.Alike.refl U.vm) qK, qD⟩, NW_same (u := U) (U := U.calling g mk a) rfl qN⟩, va_X_moved (U := U) (U' := U.calling g mk a) (Vm.Alike.refl U.vm) qX⟩, qb⟩
theorem ps_of {b L : Nat} {xs : Nat → Int32} (M : MC p s m args meth c cc Ts own nL D cy A) (w : MO D A s.heap u H locs) (hX : va_X b L xs s s.heap) (hbl : b < s.heap.size) (hbA : ¬ A b) (as : List Value) : ∀ U : State, U.heap = H → s.WarmedH U.vm → PrC9 D cy u H.size b L xs as as.toArray U := fun U hU hW => ⟨rfl, ⟨⟨⟨by rw [hU], by rw [hU]; exact w.1, va_K.moved hW.alike M.2.1, w.2.1.weaken (fun _ _ _ _ => trivial)⟩, NW_warm hW M.2.2.2.2⟩, by rw [hU]; exact va_X_moved hW.alike (va_X_heap (w.2.2.2.1 b hbl hbA) hX)⟩, Nat.lt_of_lt_of_le hbl w.2.2.1, fun z => hbA (mo_free M w b z)⟩
theorem mxs_Si {b L : Nat} {xs : Nat → Int32} {post : Int32 → WT → Prop} (M : MC p s m args meth c cc Ts own nL D cy A) (w : MO D A s.heap u H locs) (hX : va_X b L xs s s.heap) (hbl : b < s.heap.size) (hbA : ¬ A b) (hM : Met l y ws rm (PrC9 D cy u H.size b L xs As) (va_Qi post (WB D cy (AW u H.size)) (AW u H.size)) mc ms (AW u H.size)) (cw : CallB R s args own index y bytes maxL ret ws rm mc ms n ∧ (Cond.static y).before args s = true) (hn : As.length = n) (hls : ls.size = nL) (hst : st0 = As.reverse ++ rest) (hrm : (rest.map fun v => v.category).sum ≤ 8) (hdg : decode cc pc = .ok (.invokestatic index, 3)) (hf : cells + mc ≤ R.cells ∧ slots + ms ≤ R.slots)
    (kk : ∀ (r : Int32) (u1 : WT) (H1 : Heap) (locs1 : List Loc), post r u1 → MO D A s.heap u1 H1 locs1 → W p l e R s m args below meth c H1 locs1 (cells + mc) (slots + ms) Q (F0 m (pc + 3) ls (.int r :: rest))) : W p l e R s m args below meth c H locs cells slots Q (F0 m pc ls st0) :=
  va_calli (va_runS (As := As) (rest := rest) M.1 hM cw ⟨ps_blind, ps_of M w hX hbl hbA _⟩ rfl hn hls hst (lv_room hrm) hdg hf) w.2.2 (fun q _ h => mo_free M w q h) (mo_free M w) (fun r u1 t H1 locs1 ht hvm hp hB hz hk hS => kk r u1 H1 locs1 hp (mo_call M w ht hB hS))
end LWC
section LWS2
variable {l : Launch} {y : MethodName} {ws ws' : List Cond} {rm : Room} {Qc : Array Value → State → Outcome → State → Prop} {mc ms : Nat} {cc : ByteArray} {maxL : Nat} {ret : Option FieldType} {D : va_G} {cy : Nat → ClassId} {u : WT} {sz : Nat} {as : List Value}
theorem mxp_start (hy : plainName y.cls = true) (hw : ws = Cond.code y cc maxL ret :: ws') (has : (lg_sl as).length ≤ maxL)
    (body : ∀ (p : Program) (e : Env) (s : State) (m : MethodId) (args : Array Value) (below : List Frame) (meth : Method) (c : Code), s.heap.size = sz → meth.sig.returnType = ret → meth.name = y.name → MC p s m args meth c cc ws y.cls maxL D cy (AW u sz) → MO D (AW u sz) s.heap u s.heap [] → TH (AW u sz) s s.heap → NC s → ∀ ls : Array Slot, lv_has ls maxL (lv_args 0 as) → W p l e rm s m args below meth c s.heap [] 0 0 (MQ below Qc args s mc ms (AW u sz)) (F0 m 0 ls [])) : Met l y ws rm (PreW D cy u sz as) Qc mc ms (AW u sz) := by
  refine Met.ofW (cc := cc) (maxL := maxL) (ret := ret) hy hw ?_
  intro p e s m args below meth c s₁ B hml hv
  obtain ⟨rfl, ⟨⟨⟨hsz, hP, hK, hD0⟩, hN⟩, hT⟩, hC⟩ := hv
  rw [lg_entry_eq]
  exact body p e s m _ below meth c hsz B.returns (name_of_methodNamed B.named B.method).1 ⟨⟨B.exec, B.bytes, hml, findClass_of_methodNamed B.named, atoms_spec (ws := ws) B.pre⟩, hK, fun q h => Or.inr (hsz ▸ h), B.notSynchronized, hN⟩ ⟨hP, hD0.self, va_S.rf⟩ hT hC _ (lv_entry as has)
theorem mxs_start {b L : Nat} {xs : Nat → Int32} (hy : plainName y.cls = true) (hw : ws = Cond.code y cc maxL ret :: ws') (has : (lg_sl as).length ≤ maxL)
    (body : ∀ (p : Program) (e : Env) (s : State) (m : MethodId) (args : Array Value) (below : List Frame) (meth : Method) (c : Code), s.heap.size = sz → meth.sig.returnType = ret → MC p s m args meth c cc ws y.cls maxL D cy (AW u sz) → MO D (AW u sz) s.heap u s.heap [] → va_X b L xs s s.heap → b < s.heap.size → ¬ AW u sz b → ∀ ls : Array Slot, lv_has ls maxL (lv_args 0 as) → W p l e rm s m args below meth c s.heap [] 0 0 (MQ below Qc args s mc ms (AW u sz)) (F0 m 0 ls [])) : Met l y ws rm (PrC9 D cy u sz b L xs as) Qc mc ms (AW u sz) := by
  refine Met.ofW (cc := cc) (maxL := maxL) (ret := ret) hy hw ?_
  intro p e s m args below meth c s₁ B hml hv
  obtain ⟨rfl, ⟨⟨⟨hsz, hP, hK, hD0⟩, hN⟩, hX⟩, hbl, hbA⟩ := hv
  rw [lg_entry_eq]
  exact body p e s m _ below meth c hsz B.returns ⟨⟨B.exec, B.bytes, hml, findClass_of_methodNamed B.named, atoms_spec (ws := ws) B.pre⟩, hK, fun q h => Or.inr (hsz ▸ h), B.notSynchronized, hN⟩ ⟨hP, hD0.self, va_S.rf⟩ hX (by omega) hbA _ (lv_entry as has)
end LWS2
/-- the law's rows, read as the reference's numbers -/
def VV (e : Nat → Nat → Nat) : Nat → Nat → Nat := fun c i => match c with
  | 7 => if i = 1 then e 6 0 else if i = 2 then e 6 1 else if i = 9 then e 6 2 else if i = 15 then e 6 3 else if i = 19 then e 6 4 else 0
  | 8 => if i < 2 then e 7 (4 * i) else 0
  | 9 => if i < 2 then e 7 (4 * i + 1) else 0
  | 10 => if i < 2 then e 7 (4 * i + 2) else 0
  | 11 => if i < 2 then e 7 (4 * i + 3) else 0
  | 12 => e 7 (12 + 2 * i)
  | 13 => e 7 (12 + 2 * i + 1)
  | 14 => e 8 (5 * i)
  | 15 => e 8 (5 * i + 1)
  | 16 => e 8 (5 * i + 2)
  | 17 => e 8 (5 * i + 3)
  | 18 => e 8 (5 * i + 4)
  | 19 => e 9 (3 * i)
  | 20 => e 9 (3 * i + 1)
  | 21 => e 9 (3 * i + 2)
  | 22 => e 10 (3 * i)
  | 23 => e 10 (3 * i + 1)
  | 24 => e 10 (3 * i + 2)
  | _ => 0
/-- nothing but the law's lots and sums is another -/
def OffL (e e' : Nat → Nat → Nat) : Prop := ∀ c, c ≠ 11 → c ≠ 12 → e' c = e c
theorem OffL.rf (e : Nat → Nat → Nat) : OffL e e := fun _ _ _ => rfl
theorem OffL.tr {e e1 e2 : Nat → Nat → Nat} (h : OffL e e1) (h2 : OffL e1 e2) : OffL e e2 := fun c a b => (h2 c a b).trans (h c a b)
theorem OffL.es {e e1 : Nat → Nat → Nat} (h : OffL e e1) {c k v : Nat} (hc : c = 11 ∨ c = 12) : OffL e (es e1 c k v) := fun c' a b => (es_off e1 k v (by omega)).trans (h c' a b)
theorem VV_eq {e e' : Nat → Nat → Nat} (h : ∀ c, 6 ≤ c → c ≤ 10 → e' c = e c) : VV e' = VV e := by
  funext c i
  unfold VV
  rw [h 6 (by decide) (by decide), h 7 (by decide) (by decide), h 8 (by decide) (by decide), h 9 (by decide) (by decide), h 10 (by decide) (by decide)]
theorem VV_off {e e' : Nat → Nat → Nat} (h : OffL e e') : VV e' = VV e := VV_eq (fun c a b => h c (by omega) (by omega))
