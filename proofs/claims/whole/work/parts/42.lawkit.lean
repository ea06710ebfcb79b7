/-! ===== the law's wrappers: starts, calls that are caught, the long that they write; the law's own rows ===== -/
def lK (v : Int32) : Nat := v.toInt64.toUInt64.toNat
theorem lN_lK (v : Int32) : lN (lK v) = v.toInt64 := by
  unfold lN lK
  show Int64.ofUInt64 (UInt64.ofNat v.toInt64.toUInt64.toNat) = v.toInt64
  rw [UInt64.ofNat_toNat]
def NC (U : State) : Prop := va_Nc eIA eIO U ∧ va_Nc eIS eIO U ∧ va_Nc eIS eIA U
theorem NC_moved {u U : State} (hvm : u.vm.Alike U.vm) (h : NC u) : NC U := ⟨h.1.moved hvm, h.2.1.moved hvm, h.2.2.moved hvm⟩
/-- a start of a wrapper -/
def PreW (D : va_G) (cy : Nat → ClassId) (u : WT) (sz : Nat) (as : List Value) : Array Value → State → Prop := va_Pc as (fun U => (((U.heap.size = sz ∧ WB D cy (fun _ => True) u U) ∧ NW U) ∧ TH (AW u sz) U U.heap) ∧ NC U)
theorem pw_blind {D : va_G} {cy : Nat → ClassId} {u : WT} {sz : Nat} {as : List Value} : FrameBlind (PreW D cy u sz as) := fun a U g mk q => by
  obtain ⟨q0, ⟨⟨⟨q1, qP, qK, qD⟩, qN⟩, qT⟩, qC⟩ := q
  exact ⟨q0, ⟨⟨⟨q1, qP, va_K.moved (u := U) (U := U.calling g mk a) (Vm.Alike.refl U.vm) qK, qD⟩, NW_same (u := U) (U := U.calling g mk a) rfl qN⟩, TH_same (u := U) (U := U.calling g mk a) rfl qT⟩, NC_moved (u := U) (U := U.calling g mk a) (Vm.Alike.refl U.vm) qC⟩
section LWS
variable {l : Launch} {y : MethodName} {ws ws' : List Cond} {rm : Room} {Qc : Array Value → State → Outcome → State → Prop} {mc ms : Nat} {cc : ByteArray} {maxL : Nat} {ret : Option FieldType} {hh : List (Nat × Nat × Nat × Nat)} {D : va_G} {cy : Nat → ClassId} {u : WT} {sz : Nat} {as : List Value}
theorem mxw_start (hy : plainName y.cls = true) (hw : ws = Cond.codeWith y cc maxL ret hh :: ws') (has : (lg_sl as).length ≤ maxL)
    (body : ∀ (p : Program) (e : Env) (s : State) (m : MethodId) (args : Array Value) (below : List Frame) (meth : Method) (c : Code), s.heap.size = sz → meth.sig.returnType = ret → MC p s m args meth c cc ws y.cls maxL D cy (AW u sz) → MO D (AW u sz) s.heap u s.heap [] → TH (AW u sz) s s.heap → NC s → c.exceptionTable.toList = tableOf hh → ∀ ls : Array Slot, lv_has ls maxL (lv_args 0 as) → W p l e rm s m args below meth c s.heap [] 0 0 (MQ below Qc args s mc ms (AW u sz)) (F0 m 0 ls [])) : Met l y ws rm (PreW D cy u sz as) Qc mc ms (AW u sz) := by
  refine va_MetW (cc := cc) (maxL := maxL) (ret := ret) (hh := hh) hy hw ?_
  intro p e s m args below meth c s₁ B hml hv
  obtain ⟨rfl, ⟨⟨⟨hsz, hP, hK, hD0⟩, hN⟩, hT⟩, hC⟩ := hv
  rw [lg_entry_eq]
  have hts := atoms_spec (ws := ws) B.pre
  exact body p e s m _ below meth c hsz B.returns ⟨⟨B.exec, B.bytes, hml, findClass_of_methodNamed B.named, hts⟩, hK, fun q h => Or.inr (hsz ▸ h), B.notSynchronized, hN⟩ ⟨hP, hD0.self, va_S.rf⟩ hT hC (vx_table (x := y) B (hts _ (by rw [hw]; exact List.mem_cons_self))) _ (lv_entry as has)
end LWS
section LWC
variable {p : Program} {l : Launch} {e : Env} {R : Room} {s : State} {m : MethodId} {args : Array Value} {below : List Frame} {meth : Method} {c : Code} {H : Heap} {locs : List Loc} {cells slots : Nat} {Q : State → Prop}
variable {cc : ByteArray} {pc : Nat} {ls : Array Slot} {rest st0 : List Value} {D : va_G} {cy : Nat → ClassId} {A : Nat → Prop} {Ts : List Cond} {own : String} {nL : Nat} {u : WT}
variable {y : MethodName} {bytes : ByteArray} {maxL mc ms n index : Nat} {ret : Option FieldType} {ws : List Cond} {rm : Room} {CN : String} {b : Addr} {As : List Value} {hh : List (Nat × Nat × Nat × Nat)}
-- calls of methods that may throw, from one that catches
theorem mxc_Vi {post : Int32 → WT → Prop} {py : String × WT → Prop} (M : MC p s m args meth c cc Ts own nL D cy A) (w : MO D A s.heap u H locs) (T : TH A s s.heap) (hM : vx_Met l y ws rm (PreX D cy u H.size (.ref b :: As)) (va_Qi post (WB D cy (AW u H.size)) (AW u H.size)) (vx_X py (XB D cy (AW u H.size)) (AW u H.size)) mc ms (AW u H.size)) (cw : CallW R s args own CN index y bytes maxL ret ws rm mc ms n) (hrec : ∃ cell : Cell, H[b]? = some cell ∧ cell.vm.isStatics = false ∧ s.vm.findClass CN = some cell.cls) (hn : As.length = n) (hls : ls.size = nL) (hst : st0 = As.reverse ++ .ref b :: rest) (hrm : (rest.map fun v => v.category).sum ≤ 8) (hdg : decode cc pc = .ok (.invokevirtual index, 3)) (hf : cells + mc ≤ R.cells ∧ slots + ms ≤ R.slots)
    (kx : ∀ (E : String) (ce : Cell) (q9 : Addr) (u1 : WT) (H1 : Heap) (locs1 : List Loc), H1[q9]? = some ce → ce.vm = .none → s.vm.findClass E = some ce.cls → py (E, u1) → MO D A s.heap u1 H1 locs1 → vx_W p l e R s m args below meth c H1 locs1 (cells + mc) (slots + ms) Q (F0 m pc ls rest) q9)
    (kk : ∀ (r : Int32) (u1 : WT) (H1 : Heap) (locs1 : List Loc), post r u1 → MO D A s.heap u1 H1 locs1 → W p l e R s m args below meth c H1 locs1 (cells + mc) (slots + ms) Q (F0 m (pc + 3) ls (.int r :: rest))) : W p l e R s m args below meth c H locs cells slots Q (F0 m pc ls st0) :=
  vx_calli (vx_runV (As := As) (rest := rest) M.1 hM cw ⟨px_blind, hrec, px_of M w T _⟩ rfl hn hls hst (lv_room hrm) hdg hf) w.2.2 (fun q _ h => mo_free M w q h) (mo_free M w) (fun q _ h => mo_free M w q h)
    (fun E ce q9 u1 t H1 locs1 ht hvm hp hB hz hk hS hce hcv hcl => by
      obtain ⟨E1, u2⟩ := u1
      obtain ⟨rfl, hB⟩ := hB
      exact kx _ ce q9 u2 H1 locs1 hce hcv hcl hp (mo_call M w ht hB hS))
    (fun r u1 t H1 locs1 ht hvm hp hB hz hk hS => kk r u1 H1 locs1 hp (mo_call M w ht hB hS))
theorem mxc_Vv {post : WT → Prop} {py : String × WT → Prop} (M : MC p s m args meth c cc Ts own nL D cy A) (w : MO D A s.heap u H locs) (T : TH A s s.heap) (hM : vx_Met l y ws rm (PreX D cy u H.size (.ref b :: As)) (va_Qv post (WB D cy (AW u H.size)) (AW u H.size)) (vx_X py (XB D cy (AW u H.size)) (AW u H.size)) mc ms (AW u H.size)) (cw : CallW R s args own CN index y bytes maxL ret ws rm mc ms n) (hrec : ∃ cell : Cell, H[b]? = some cell ∧ cell.vm.isStatics = false ∧ s.vm.findClass CN = some cell.cls) (hn : As.length = n) (hls : ls.size = nL) (hst : st0 = As.reverse ++ .ref b :: rest) (hrm : (rest.map fun v => v.category).sum ≤ 8) (hdg : decode cc pc = .ok (.invokevirtual index, 3)) (hf : cells + mc ≤ R.cells ∧ slots + ms ≤ R.slots)
    (kx : ∀ (E : String) (ce : Cell) (q9 : Addr) (u1 : WT) (H1 : Heap) (locs1 : List Loc), H1[q9]? = some ce → ce.vm = .none → s.vm.findClass E = some ce.cls → py (E, u1) → MO D A s.heap u1 H1 locs1 → vx_W p l e R s m args below meth c H1 locs1 (cells + mc) (slots + ms) Q (F0 m pc ls rest) q9)
    (kk : ∀ (u1 : WT) (H1 : Heap) (locs1 : List Loc), post u1 → MO D A s.heap u1 H1 locs1 → W p l e R s m args below meth c H1 locs1 (cells + mc) (slots + ms) Q (F0 m (pc + 3) ls rest)) : W p l e R s m args below meth c H locs cells slots Q (F0 m pc ls st0) :=
  vx_callv (vx_runV (As := As) (rest := rest) M.1 hM cw ⟨px_blind, hrec, px_of M w T _⟩ rfl hn hls hst (lv_room hrm) hdg hf) w.2.2 (fun q _ h => mo_free M w q h) (mo_free M w) (fun q _ h => mo_free M w q h)
    (fun E ce q9 u1 t H1 locs1 ht hvm hp hB hz hk hS hce hcv hcl => by
      obtain ⟨E1, u2⟩ := u1
      obtain ⟨rfl, hB⟩ := hB
      exact kx _ ce q9 u2 H1 locs1 hce hcv hcl hp (mo_call M w ht hB hS))
    (fun u1 t H1 locs1 ht hvm hp hB hz hk hS => kk u1 H1 locs1 hp (mo_call M w ht hB hS))
theorem mxc_catch {E : String} {ce : Cell} {q9 : Addr} (M : MC p s m args meth c cc Ts own nL D cy A) (T : TH A s s.heap) (tgt : Nat) (pre : List ExceptionTableEntry) (x : ExceptionTableEntry) (suf : List ExceptionTableEntry) (hsplit : c.exceptionTable.toList = pre ++ x :: suf) (ht : x.handlerPc = tgt) (hpass : ∀ z ∈ pre, z.catchType ≠ 0 ∧ ∃ nm : String, Cond.classLink own z.catchType nm ∈ Ts ∧ va_Nc E nm s) (hx : covers x pc = true) (h0 : x.catchType ≠ 0) (hlink : Cond.classLink own x.catchType E ∈ Ts) (hE : Cond.castable E E ∈ THw) (hcell : H[q9]? = some ce) (hv : ce.vm = .none) (hcl : s.vm.findClass E = some ce.cls)
    (kk : W p l e R s m args below meth c H locs cells slots Q (F0 m tgt ls [.ref q9])) : vx_W p l e R s m args below meth c H locs cells slots Q (F0 m pc ls rest) q9 := by
  subst ht
  exact vx_catch M.1.2.2.2.1 pre x suf hsplit (fun z hz => Or.inr ⟨(hpass z hz).1, by obtain ⟨_, nm, h1, h2⟩ := hpass z hz; exact ⟨nm, M.1.2.2.2.2 _ h1, h2⟩⟩) hx h0 (M.1.2.2.2.2 _ hlink) (va_Nw.use rfl (T.2.2.2 _ hE)) hcell hv hcl kk
theorem pw_of (M : MC p s m args meth c cc Ts own nL D cy A) (w : MO D A s.heap u H locs) (T : TH A s s.heap) (hN : NC s) (as : List Value) : ∀ U : State, U.heap = H → s.WarmedH U.vm → PreW D cy u H.size as as.toArray U := fun U hU hW => ⟨rfl, ⟨⟨⟨by rw [hU], by rw [hU]; exact w.1, va_K.moved hW.alike M.2.1, w.2.1.weaken (fun _ _ _ _ => trivial)⟩, NW_warm hW M.2.2.2.2⟩, by rw [hU]; exact TH_warm hW w.2.2.2.1 (mo_free M w) T⟩, NC_moved hW.alike hN⟩
theorem mxw_SW {post : Int32 → WT → Prop} (M : MC p s m args meth c cc Ts own nL D cy A) (w : MO D A s.heap u H locs) (T : TH A s s.heap) (hN : NC s) (hM : Met l y ws rm (PreW D cy u H.size As) (va_Qi post (WB D cy (AW u H.size)) (AW u H.size)) mc ms (AW u H.size)) (cw : vx_CSW R s args own index y bytes maxL ret hh ws rm mc ms n) (hn : As.length = n) (hls : ls.size = nL) (hst : st0 = As.reverse ++ rest) (hrm : (rest.map fun v => v.category).sum ≤ 8) (hdg : decode cc pc = .ok (.invokestatic index, 3)) (hf : cells + mc ≤ R.cells ∧ slots + ms ≤ R.slots)
    (kk : ∀ (r : Int32) (u1 : WT) (H1 : Heap) (locs1 : List Loc), post r u1 → MO D A s.heap u1 H1 locs1 → W p l e R s m args below meth c H1 locs1 (cells + mc) (slots + ms) Q (F0 m (pc + 3) ls (.int r :: rest))) : W p l e R s m args below meth c H locs cells slots Q (F0 m pc ls st0) :=
  va_calli (vx_runSW (As := As) (rest := rest) M.1 hM cw ⟨pw_blind, pw_of M w T hN _⟩ rfl hn hls hst (lv_room hrm) hdg hf) w.2.2 (fun q _ h => mo_free M w q h) (mo_free M w) (fun r u1 t H1 locs1 ht hvm hp hB hz hk hS => kk r u1 H1 locs1 hp (mo_call M w ht hB hS))
-- the row of one long
variable {C : List Nat} {ad : Nat → Nat} {f : Nat → Nat → Nat}
theorem ex_last (M : MC p s m args meth c cc Ts own nL D cy A) (w : MO D A s.heap (C, ad, G cy ad f) H locs) (hx : 6 ∈ C) {v : Int32} (hdg : decode cc pc = .ok (.lastore, 1))
    (kk : ∀ (H1 : Heap) (locs1 : List Loc), MO D A s.heap (C, ad, G cy ad (es f 6 0 (lK v))) H1 locs1 → W p l e R s m args below meth c H1 locs1 cells slots Q (F0 m (pc + 1) ls rest)) : W p l e R s m args below meth c H locs cells slots Q (F0 m pc ls (.long v.toInt64 :: .int (nI 0) :: .ref (ad 6) :: rest)) := by
  refine mx_last M w hx (g := G cy ad f) (sh_6 cy ad (f 6)) (vp_in_nI (show 0 < 1 by decide) (by decide)) hdg (fun H1 locs1 w1 => kk H1 locs1 ?_)
  rw [nI_clamp (show 0 < 2147483648 by decide)] at w1
  have e1 : vp_updL (fun j => lN (f 6 j)) 0 v.toInt64 = fun j => lN (if j = 0 then lK v else f 6 j) := by
    funext j
    unfold vp_updL
    by_cases h : j = 0
    · rw [if_pos h, if_pos h, lN_lK]
    · rw [if_neg h, if_neg h]
  rw [e1] at w1
  have w2 : MO D A s.heap (C, ad, mu (G cy ad f) 6 (.inl (cy 4, 1, .inr (.inl (fun j => lN (if j = 0 then lK v else f 6 j)))))) H1 locs1 := w1
  rw [G_es (k := 0) (v := lK v) (sh_6 cy ad _)] at w2
  exact w2
theorem ex_lald (M : MC p s m args meth c cc Ts own nL D cy A) (w : MO D A s.heap (C, ad, G cy ad f) H locs) (hx : 6 ∈ C) (hdg : decode cc pc = .ok (.laload, 1))
    (kk : W p l e R s m args below meth c H locs cells slots Q (F0 m (pc + 1) ls (.long (lN (f 6 0)) :: rest))) : W p l e R s m args below meth c H locs cells slots Q (F0 m pc ls (.int (nI 0) :: .ref (ad 6) :: rest)) :=
  mx_lald M w hx (g := G cy ad f) (sh_6 cy ad (f 6)) (vp_in_nI (show 0 < 1 by decide) (by decide)) hdg (by rw [nI_clamp (show 0 < 2147483648 by decide)]; exact kk)
end LWC
/-- what a wrapper answers -/
def LWP (cy : Nat → ClassId) (C : List Nat) (ad : Nat → Nat) (T : Nat → Int32 → (Nat → Nat → Nat) → List Nat → Prop) (r : Int32) (u : WT) : Prop := ∃ (j : Nat) (v : Int32) (e1 : Nat → Nat → Nat) (C1 : List Nat) (ad1 : Nat → Nat), r = nI j ∧ j < 4 ∧ (∀ c, c ∈ C → ad1 c = ad c) ∧ u = (C1, ad1, G cy ad1 (if j = 0 then es e1 6 0 (lK v) else e1)) ∧ T j v e1 C1
section
variable {cy : Nat → ClassId} {C C1 : List Nat} {ad ad1 : Nat → Nat} {T : Nat → Int32 → (Nat → Nat → Nat) → List Nat → Prop} {e1 : Nat → Nat → Nat} {v : Int32} {j : Nat}
theorem LWP_ok (had : ∀ c, c ∈ C → ad1 c = ad c) (hT : T 0 v e1 C1) : LWP cy C ad T (nI 0) (C1, ad1, G cy ad1 (es e1 6 0 (lK v))) := ⟨0, v, e1, C1, ad1, rfl, by decide, had, by rw [if_pos rfl], hT⟩
theorem LWP_no (hj : j < 4) (hj0 : j ≠ 0) (hT : T j 0 e1 C) : LWP cy C ad T (nI j) (C, ad, G cy ad e1) := ⟨j, 0, e1, C, ad, rfl, hj, fun _ _ => rfl, by rw [if_neg hj0], hT⟩
theorem lw_h6 (e1 : Nat → Nat → Nat) (v : Int32) (j : Nat) : ∀ c, c ≠ 6 → (if j = 0 then es e1 6 0 (lK v) else e1) c = e1 c := fun c hc => by
  by_cases h : j = 0
  · rw [if_pos h]
    exact es_off e1 0 _ hc
  · rw [if_neg h]
theorem lw_h60 (e1 : Nat → Nat → Nat) (v : Int32) (j : Nat) : j = 0 → (if j = 0 then es e1 6 0 (lK v) else e1) 6 0 = lK v := fun h => by
  rw [if_pos h]
  exact es_same _ _ _ _
end
abbrev lvL (b : Nat) (ad : Nat → Nat) (i : Nat) : List (Nat × Value) := [(0, .ref b), (1, .ref (ad 0)), (2, .ref (ad 7)), (3, .ref (ad 6)), (4, .int (nI i))]
theorem lvL_eq {C : List Nat} {ad ad1 : Nat → Nat} (had : ∀ c, c ∈ C → ad1 c = ad c) (hB : ∀ k, k < 26 → k ∈ C) (b i : Nat) : lvL b ad i = lvL b ad1 i := by
  unfold lvL
  rw [had 0 (hB 0 (by decide)), had 7 (hB 7 (by decide)), had 6 (hB 6 (by decide))]
section LAW
variable {p : Program} {l : Launch} {e9 : Env} {R : Room} {s : State} {m : MethodId} {args : Array Value} {below : List Frame} {meth : Method} {c : Code} {H : Heap} {locs : List Loc} {cells slots : Nat} {Q : State → Prop}
variable {cc : ByteArray} {ls : Array Slot} {rest : List Value} {D : va_G} {cy : Nat → ClassId} {A : Nat → Prop} {Ts : List Cond} {own : String} {nL : Nat} {C : List Nat} {ad : Nat → Nat} {e : Nat → Nat → Nat} {b L i : Nat} {xs : Nat → Int32}
/-- an int of the script onto the stack -/
theorem la_arg (M : MC p s m args meth c cc Ts own nL D cy A) (w : MO D A s.heap (C, ad, G cy ad e) H locs) (hX : va_X b L xs s s.heap) (hbl : b < s.heap.size) (hbA : ¬ A b) (hL : L ≤ 2560) {lv : List (Nat × Value)} (hl : lv_has ls nL lv) (k0 k4 : Nat) (h0 : lv[k0]? = some (0, Value.ref b)) (h4 : lv[k4]? = some (4, Value.int (nI i))) {k a : Nat} {n : Int} (hk : Int32.ofInt n = nI k) (hi : i + k < L) (ha : xs (i + k) = nI a) (P : Nat)
    (d0 : decode cc P = .ok (.aload_n 0, 1)) (d1 : decode cc (P + 1) = .ok (.iload 4, 2)) (d3 : decode cc (P + 3) = .ok (.iconst n, 1)) (d4 : decode cc (P + 4) = .ok (.iadd, 1)) (d5 : decode cc (P + 5) = .ok (.iaload, 1))
    (kk : W p l e9 R s m args below meth c H locs cells slots Q (F0 m (P + 6) ls (.int (nI a) :: rest))) : W p l e9 R s m args below meth c H locs cells slots Q (F0 m P ls rest) := by
  have hx := M.1.1
  have hb := M.1.2.1
  refine lv_aload_n hx hb d0 rfl (lv_at hl k0 h0) ?_
  refine lv_iload hx hb d1 (lv_at hl k4 h4) ?_
  refine lv_iconst (v := nI k) hx hb d3 hk ?_
  refine mi_add hx hb d4 ?_
  refine va_sld hx hb hX hbl hbA w.2.2 (vp_in_nI hi (by omega)) d5 ?_
  rw [nI_clamp (show i + k < 2147483648 by omega), ha]
  exact kk
/-- a boolean made of an int -/
theorem la_bool (hx : p.tables.exec = Jvm.exec) (hb : c.code = cc) {a : Nat} (ha : a < 4294967296) (P : Nat) (d0 : decode cc P = .ok (.ifCond .eq 7, 3)) (d3 : decode cc (P + 3) = .ok (.iconst 1, 1)) (d4 : decode cc (P + 4) = .ok (.goto 4, 3)) (d7 : decode cc (P + 7) = .ok (.iconst 0, 1))
    (kk : W p l e9 R s m args below meth c H locs cells slots Q (F0 m (P + 8) ls (.int (nI (if a = 0 then 0 else 1)) :: rest))) : W p l e9 R s m args below meth c H locs cells slots Q (F0 m P ls (.int (nI a) :: rest)) := by
  refine mw_if_eq hx hb ha (P + 7) d0 (by omega) (fun h => ?_) (fun h => ?_)
  · rw [if_pos h] at kk
    exact lv_iconst (v := nI 0) hx hb d7 (by decide) kk
  · rw [if_neg h] at kk
    refine lv_iconst (v := nI 1) hx hb d3 (by decide) ?_
    exact lv_goto (tgt := P + 8) hx hb d4 (by omega) kk
/-- the end of a call that hands back an int -/
theorem la_tail (M : MC p s m args meth c cc Ts own nL D cy A) (w : MO D A s.heap (C, ad, G cy ad e) H locs) (hB : ∀ k, k < 26 → k ∈ C) {j : Nat} (hj : j < 4) {v r : Int32} (h70 : e 7 0 = j) (hv : j = 0 → r = v) (h60 : j = 0 → e 6 0 = lK v) {lv : List (Nat × Value)} (hl : lv_has ls nL lv) (k2 k3 k5 k6 : Nat) (g2 : lv[k2]? = some (2, Value.ref (ad 7))) (g3 : lv[k3]? = some (3, Value.ref (ad 6))) (g5 : lv[k5]? = some (5, Value.int (nI j))) (g6 : lv[k6]? = some (6, Value.int r)) {index : Nat}
    (cw : CallW R s args own RX4 index yX4_thrown cX4_thrown 1 (some .int) wsX4_thrown ({ frames := 0, cells := 0, slots := 0, locals := 0 } : Room) 0 0 0) (hf : cells ≤ R.cells ∧ slots ≤ R.slots) (P tgt : Nat) {o : Int}
    (d0 : decode cc P = .ok (.aload_n 2, 1)) (d1 : decode cc (P + 1) = .ok (.invokevirtual index, 3)) (d4 : decode cc (P + 4) = .ok (.iload 5, 2)) (d6 : decode cc (P + 6) = .ok (.if_icmp .eq 5, 3)) (d11 : decode cc (P + 11) = .ok (.iload 5, 2)) (d13 : decode cc (P + 13) = .ok (.ifCond .ne 15, 3)) (d16 : decode cc (P + 16) = .ok (.aload_n 3, 1)) (d17 : decode cc (P + 17) = .ok (.iconst 0, 1)) (d18 : decode cc (P + 18) = .ok (.laload, 1)) (d19 : decode cc (P + 19) = .ok (.iload 6, 2)) (d21 : decode cc (P + 21) = .ok (.i2l, 1)) (d22 : decode cc (P + 22) = .ok (.lcmp, 1)) (d23 : decode cc (P + 23) = .ok (.ifCond .eq 5, 3)) (d28 : decode cc (P + 28) = .ok (.goto o, 3)) (ho : ((P + 28 : Nat) : Int) + o = (tgt : Int))
    (kk : ∀ (H1 : Heap) (locs1 : List Loc), MO D A s.heap (C, ad, G cy ad e) H1 locs1 → W p l e9 R s m args below meth c H1 locs1 cells slots Q (F0 m tgt ls [])) : W p l e9 R s m args below meth c H locs cells slots Q (F0 m P ls []) := by
  have hx := M.1.1
  have hb := M.1.2.1
  refine lv_aload_n hx hb d0 rfl (lv_at hl k2 g2) ?_
  refine mx_Vi M w (kX4_thrown l D cy C ad e H.size hB) cw (mo_rec M w (hB 7 (by decide)) (g := G cy ad e) (sh_7 cy ad (e 7)) rfl) rfl hl.1 rfl (Nat.le_of_ble_eq_true rfl) d1 hf (fun r1 u1 H1 locs1 hp w => ?_)
  obtain ⟨rfl, rfl⟩ := hp
  rw [h70]
  refine lv_iload hx hb d4 (lv_at hl k5 g5) ?_
  refine lv_icmp_eq (tgt := P + 11) hx hb d6 (by omega) (fun _ => ?_) (fun h => absurd rfl h)
  refine lv_iload hx hb d11 (lv_at hl k5 g5) ?_
  have hend : W p l e9 R s m args below meth c H1 locs1 (cells + 0) (slots + 0) Q (F0 m (P + 28) ls []) := lv_goto hx hb d28 ho (kk H1 locs1 w)
  refine mi_if_ne hx hb (by omega) (P + 28) d13 (by omega) (fun _ => hend) (fun hj0 => ?_)
  refine lv_aload_n hx hb d16 rfl (lv_at hl k3 g3) ?_
  refine lv_iconst (v := nI 0) hx hb d17 (by decide) ?_
  refine ex_lald M w (hB 6 (by decide)) d18 ?_
  refine lv_iload hx hb d19 (lv_at hl k6 g6) ?_
  refine lv_i2l hx hb d21 rfl ?_
  refine W.lcmp hx hb d22 ?_
  refine lv_if_eq (tgt := P + 28) hx hb d23 (by omega) (fun _ => hend) (fun h => absurd ((lg_cmp_eq _ _).mpr ?_) h)
  rw [h60 hj0, lN_lK, hv hj0]
/-- the end of a call that hands back nothing -/
theorem la_tailv (M : MC p s m args meth c cc Ts own nL D cy A) (w : MO D A s.heap (C, ad, G cy ad e) H locs) (hB : ∀ k, k < 26 → k ∈ C) {j : Nat} (h70 : e 7 0 = j) {lv : List (Nat × Value)} (hl : lv_has ls nL lv) (k2 k5 : Nat) (g2 : lv[k2]? = some (2, Value.ref (ad 7))) (g5 : lv[k5]? = some (5, Value.int (nI j))) {index : Nat}
    (cw : CallW R s args own RX4 index yX4_thrown cX4_thrown 1 (some .int) wsX4_thrown ({ frames := 0, cells := 0, slots := 0, locals := 0 } : Room) 0 0 0) (hf : cells ≤ R.cells ∧ slots ≤ R.slots) (P tgt : Nat) {o : Int}
    (d0 : decode cc P = .ok (.aload_n 2, 1)) (d1 : decode cc (P + 1) = .ok (.invokevirtual index, 3)) (d4 : decode cc (P + 4) = .ok (.iload 5, 2)) (d6 : decode cc (P + 6) = .ok (.if_icmp .eq 5, 3)) (d11 : decode cc (P + 11) = .ok (.goto o, 3)) (ho : ((P + 11 : Nat) : Int) + o = (tgt : Int))
    (kk : ∀ (H1 : Heap) (locs1 : List Loc), MO D A s.heap (C, ad, G cy ad e) H1 locs1 → W p l e9 R s m args below meth c H1 locs1 cells slots Q (F0 m tgt ls [])) : W p l e9 R s m args below meth c H locs cells slots Q (F0 m P ls []) := by
  have hx := M.1.1
  have hb := M.1.2.1
  refine lv_aload_n hx hb d0 rfl (lv_at hl k2 g2) ?_
  refine mx_Vi M w (kX4_thrown l D cy C ad e H.size hB) cw (mo_rec M w (hB 7 (by decide)) (g := G cy ad e) (sh_7 cy ad (e 7)) rfl) rfl hl.1 rfl (Nat.le_of_ble_eq_true rfl) d1 hf (fun r1 u1 H1 locs1 hp w => ?_)
  obtain ⟨rfl, rfl⟩ := hp
  rw [h70]
  refine lv_iload hx hb d4 (lv_at hl k5 g5) ?_
  refine lv_icmp_eq (tgt := P + 11) hx hb d6 (by omega) (fun _ => ?_) (fun h => absurd rfl h)
  exact lv_goto hx hb d11 ho (kk H1 locs1 w)
end LAW
