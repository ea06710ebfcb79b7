section
/-! ===== BEGIN words of one list among another's, by their places ===== -/
theorem goodIn_r {big : List Cond} (ws : List Cond) (ps : List Nat) (hp : ws = ps.filterMap (fun i => big[i]?)) (h : ws.all goodWord = true) : GoodIn big ws := by
  intro w hw
  have h1 := List.all_eq_true.mp h w hw
  rw [hp] at hw
  obtain ⟨i, -, hi⟩ := List.mem_filterMap.mp hw
  have hm : w ∈ big := by first | exact List.mem_of_getElem? hi | exact List.getElem?_mem hi
  exact ⟨hm, good_of_word h1⟩
theorem goodIn_app {big a b : List Cond} (ha : GoodIn big a) (hb : GoodIn big b) : GoodIn big (a ++ b) := fun w h => (List.mem_append.mp h).elim (ha w) (hb w)
theorem goodIn_ca {big a b : List Cond} {c : Cond} (ha : GoodIn big (c :: a)) (hb : GoodIn big b) : GoodIn big (c :: (a ++ b)) := fun w h => (List.mem_cons.mp h).elim (fun e => ha w (List.mem_cons.mpr (Or.inl e))) (fun h => (List.mem_append.mp h).elim (fun h => ha w (List.mem_cons.mpr (Or.inr h))) (hb w))
theorem goodIn_sub {big ws : List Cond} (hm : ∀ w ∈ ws, w ∈ big) (h : ws.all goodWord = true) : GoodIn big ws := fun w hw => ⟨hm w hw, good_of_word (List.all_eq_true.mp h w hw)⟩
/-! ===== END ===== -/

/-! ===== BEGIN exceptions that leave a method, and their catching by the caller (launches without stack traces) ===== -/
section VXA
/-! The laws vx_back, vx_callV, vx_callS, vx_callSW, vx_throw0, vx_throwS follow proofs of the library, with one case more: JvmDerived/Free/Laws.lean (Back.of_free), Shelf42/LK1.lean (callV, callS), Shelf/KitTraced.lean (throwNew0V, throwNewS). -/
/-- where a method has thrown q: the class by its name, the cell, what was written, the world -/
def vx_T (XC : String → State → State → Prop) (st : State) (q : Addr) (t : State) (mc ms : Nat) (free : Addr → Prop) : Prop :=
  ∃ (E : String) (ce : Cell) (L : List Loc), XC E st t ∧ t.heap[q]? = some ce ∧ ce.vm = .none ∧ st.vm.findClass E = some ce.cls ∧ st.WarmedH t.vm ∧ st.sameButNew ({ t with vm := st.vm } : State) L mc ms ∧ ∀ z ∈ L, free z.base
def vx_Q (Qc : Array Value → State → Outcome → State → Prop) (XC : String → State → State → Prop) (mc ms : Nat) (free : Addr → Prop) : Array Value → State → Outcome → State → Prop := fun a st o t =>
  (Qc a st o t ∧ ∃ L, FrameEnd st o t L mc ms ∧ ∀ q ∈ L, free q.base) ∨ ∃ q, o = .threw q ∧ vx_T XC st q t mc ms free
/-- a callee that returns or throws -/
def vx_Met (l : Launch) (y : MethodName) (ws : List Cond) (rm : Room) (Pc : Array Value → State → Prop) (Qc : Array Value → State → Outcome → State → Prop) (XC : String → State → State → Prop) (mc ms : Nat) (free : Addr → Prop) : Prop :=
  MetFree l y (headSpec ws rm) Pc (fun _ _ _ _ _ => True) (vx_Q Qc XC mc ms free)
def vx_Post (XC : String → State → State → Prop) (mc ms : Nat) (free : Addr → Prop) : Pt → Array Value → Addr → Pt → Prop := fun A a q B =>
  ∃ (g : JFrame) (mk : MethodId) (t : State) (L : List Loc) (E : String) (ce : Cell), B.U.heap = t.heap ∧ B.U.vm = t.vm ∧ XC E (A.U.calling g mk a) t ∧ t.heap[q]? = some ce ∧ ce.vm = .none ∧ A.U.vm.findClass E = some ce.cls ∧ B.locs = A.locs ++ L ∧ (∀ z ∈ L, free z.base) ∧ B.cells = A.cells + mc ∧ B.slots = A.slots + ms
def vx_Back (l : Launch) (R : Room) (p : Program) (e : Env) (below : List Frame) (s : State) (sargs : Array Value) (y : MethodName) (len W9 : Nat)
    (Pre : Pt → Array Value → Prop) (Post : Pt → Array Value → Option Value → Pt → Prop) (PostX : Pt → Array Value → Addr → Pt → Prop) : Prop :=
  ∀ (m : MethodId) (meth : Method) (c : Code) (A : Pt) (g : JFrame) (ig : Instr) (mk : MethodId) (a : Array Value),
    Stand p l e R s m sargs below meth c A.U A.locs A.cells A.slots → g.method = m → g.locals.size = c.maxLocals → decode c.code g.pc = .ok (ig, len) →
    2 * g.monitorRoom + (g.stack.map fun v => v.category).sum ≤ W9 → A.U.methodNamed? y = some mk → Pre A a →
    (∃ (v : Option Value) (B : Pt), Stand p l e R s m sargs below meth c B.U B.locs B.cells B.slots ∧ Post A a v B ∧
      Steps p.tables e below (doInvoke e (A.U.setTop g) [] mk a).1 (B.U.setTop { g with pc := g.pc + len, stack := v.toList ++ g.stack })) ∨
    (∃ (q : Addr) (B : Pt), Stand p l e R s m sargs below meth c B.U B.locs B.cells B.slots ∧ PostX A a q B ∧
      Steps p.tables e below (doInvoke e (A.U.setTop g) [] mk a).1 ((B.U.setTop g).pushFrame (.throwing q)))
section Payer
variable {l : Launch} {R : Room} {p : Program} {e : Env} {below : List Frame} {s : State} {sargs : Array Value} {y : MethodName} {len W9 : Nat}
theorem vx_back {ws : List Cond} {rm : Room} {Pc : Array Value → State → Prop} {Qc : Array Value → State → Outcome → State → Prop} {XC : String → State → State → Prop} {mc ms : Nat} {free : Addr → Prop} {bytes : ByteArray} {maxL : Nat} {ret : Option FieldType}
    (hM : vx_Met l y ws rm Pc Qc XC mc ms free) (hblind : FrameBlind Pc) (hrc : rm.cells = mc) (hrs : rm.slots = ms)
    (hframes : rm.frames + 1 ≤ R.frames) (hlocals : W9 + (maxL + 11) + rm.locals ≤ R.locals)
    (hws : ∀ w ∈ ws, ∀ a' U, s.WarmedH U.vm → w.before a' U = true) (hcode : Cond.code y bytes maxL ret ∈ ws) (hinit : ∀ a' U, s.WarmedH U.vm → (Cond.initialized y.cls).before a' U = true) :
    vx_Back l R p e below s sargs y len W9 (PreOf R mc ms Pc) (PostOf Qc mc ms free) (vx_Post XC mc ms free) := by
  intro m meth c A g ig mk a X hg hsize hdg hW hn hp
  have h1 : (headSpec ws rm).pre.before a A.U = true := atoms_intro fun w hw => hws w hw _ _ X.warmed
  have h2 : (Cond.code y bytes maxL ret).before a A.U = true := hws _ hcode _ _ X.warmed
  have h3 : (Cond.initialized y.cls).before a A.U = true := hinit _ _ X.warmed
  have h4 : A.cells + (headSpec ws rm).room.cells ≤ R.cells := by rw [show (headSpec ws rm).room.cells = mc from hrc]; exact hp.1
  have h5 : A.slots + (headSpec ws rm).room.slots ≤ R.slots := by rw [show (headSpec ws rm).room.slots = ms from hrs]; exact hp.2.1
  have hPc : Pc a (A.U.calling g mk a) := hblind _ _ _ _ hp.2.2
  obtain ⟨U, Ls, c0, s0⟩ := A
  dsimp only [Pt.U, Pt.locs, Pt.cells, Pt.slots] at h1 h2 h3 h4 h5 X hn hPc ⊢
  obtain ⟨methY, cY, hmY, hcY, -, hlY, -, -, -, -⟩ := Cond.code_spec hn h2
  obtain ⟨kY, hkY, -⟩ := className_of_methodNamed hn
  have hinitY : kY.init = .initialized := Cond.initialized_spec (findClass_of_methodNamed hn) hkY h3
  have h : At U g.method c below := by rw [hg]; exact X.here
  have hlocals9 : W9 + (maxL + 11) + (headSpec ws rm).room.locals ≤ R.locals := hlocals
  have happ : (headSpec ws rm).appliesLoose y e.platform (U.calling g mk a) = true :=
    Spec.appliesLoose_calling (g := g) h hdg hn hkY hinitY
      (X.room_calling (g := g) (R' := (headSpec ws rm).room) hsize hmY hcY hframes (by rw [hlY]; omega) h4 h5) h1
  obtain ⟨mid, hmid⟩ := h.above
  have hfr : (U.setTop g).frames = (.java g :: mid) ++ below := by rw [State.frames_setTop' g h.top, hmid]; rfl
  obtain ⟨o, s₂, hsteps, -, hend, hq⟩ := Steps.callFree hM p X.admits X.cas X.clock (acts := []) hfr happ hPc trivial
  have hq' : vx_Q Qc XC mc ms free a (U.calling g mk a) o s₂ := hq
  rw [State.frames_setTop' g h.top] at hend
  obtain ⟨g₀, hg0⟩ := Option.isSome_iff_exists.mp h.top
  obtain ⟨r, hr⟩ := State.topJava?_eq_some.mp hg0
  have hr' : (({ U with heap := s₂.heap, slotsUsed := s₂.slotsUsed } : State).setVm s₂.vm).frames = .java g₀ :: r := hr
  rcases hq' with ⟨hqc, L, hfe, hL⟩ | ⟨q, rfl, E, ce, L, hx, hce, hcv, hcl, hW₂, hsm, hL⟩
  · obtain ⟨⟨v, rfl⟩, hW₂, e2, q2, q3, q4, q5, q6⟩ := id hfe
    have e3 : s₂ = ({ (U.calling g mk a).setFrames s₂.frames with heap := s₂.heap, slotsUsed := s₂.slotsUsed } : State).setVm s₂.vm := by
      have : s₂ = ({ s₂ with vm := (U.calling g mk a).vm } : State).setVm s₂.vm := rfl
      rw [e2] at this
      exact this
    obtain ⟨c₂, i₂, len₂, hc₂, hd₂, hf₂⟩ := hend
    have hW' : U.WarmedH s₂.vm := hW₂
    have hcc : c₂ = c := by
      have h1 : s₂.code? g.method = U.code? g.method := by
        rw [State.code?_eq, State.code?_eq, hW'.alike.method?]
      exact Option.some.inj (hc₂.symm.trans (h1.trans h.code))
    subst hcc
    have hlen : len₂ = len := by rw [hdg] at hd₂; cases hd₂; rfl
    subst hlen
    have hs₂ : s₂ = (({ U with heap := s₂.heap, slotsUsed := s₂.slotsUsed } : State).setVm s₂.vm).setTop { g with pc := g.pc + len₂, stack := v.toList ++ g.stack } := by
      refine e3.trans ?_
      rw [hf₂, State.calling_eq h.top, State.setFrames_setFrames, State.setTop_of_frames _ hr', hr]
      rfl
    have hsame : U.sameButNew ({ U with heap := s₂.heap, slotsUsed := s₂.slotsUsed } : State) L mc ms := by
      refine ⟨?_, q2, q3, q4, q5, q6⟩
      obtain ⟨t, ht, -⟩ := State.frames_cons hr
      show ({ U with heap := s₂.heap, slotsUsed := s₂.slotsUsed } : State) = { U.setFrames U.frames with heap := s₂.heap, slotsUsed := s₂.slotsUsed }
      rw [State.setFrames_self ht]
    subst hg
    refine Or.inl ⟨v, ⟨(({ U with heap := s₂.heap, slotsUsed := s₂.slotsUsed } : State).setVm s₂.vm), Ls ++ L, c0 + mc, s0 + ms⟩,
      ⟨X.admits, X.cas, X.clock, X.frames, X.room, X.hears, X.method, X.code, (X.here.setHeapUsed s₂.heap s₂.slotsUsed).setVm hW'.alike, X.tail, State.WarmedH.trans X.warmed hW', X.limits, X.bytes, X.same.trans (hsame.setVm s.vm)⟩,
      ⟨g, mk, s₂, L, rfl, rfl, hqc, rfl, hL, rfl, rfl⟩, ?_⟩
    show Steps p.tables e below _ ((({ U with heap := s₂.heap, slotsUsed := s₂.slotsUsed } : State).setVm s₂.vm).setTop { g with pc := g.pc + len₂, stack := v.toList ++ g.stack })
    rw [← hs₂]
    exact hsteps
  · obtain ⟨e2, q2, q3, q4, q5, q6⟩ := id hsm
    have e3 : s₂ = ({ (U.calling g mk a).setFrames s₂.frames with heap := s₂.heap, slotsUsed := s₂.slotsUsed } : State).setVm s₂.vm := by
      have : s₂ = ({ s₂ with vm := (U.calling g mk a).vm } : State).setVm s₂.vm := rfl
      rw [e2] at this
      exact this
    have hf₂ : s₂.frames = .throwing q :: .java g :: U.frames.tail := hend
    have hW' : U.WarmedH s₂.vm := hW₂
    have hs₂ : s₂ = ((({ U with heap := s₂.heap, slotsUsed := s₂.slotsUsed } : State).setVm s₂.vm).setTop g).pushFrame (.throwing q) := by
      refine e3.trans ?_
      rw [hf₂, State.calling_eq h.top, State.setFrames_setFrames, State.pushFrame, State.frames_setTop _ hr', State.setTop_of_frames _ hr', State.setFrames_setFrames, hr]
      rfl
    have hsame : U.sameButNew ({ U with heap := s₂.heap, slotsUsed := s₂.slotsUsed } : State) L mc ms := by
      refine ⟨?_, q2, q3, q4, q5, q6⟩
      obtain ⟨t, ht, -⟩ := State.frames_cons hr
      show ({ U with heap := s₂.heap, slotsUsed := s₂.slotsUsed } : State) = { U.setFrames U.frames with heap := s₂.heap, slotsUsed := s₂.slotsUsed }
      rw [State.setFrames_self ht]
    subst hg
    refine Or.inr ⟨q, ⟨(({ U with heap := s₂.heap, slotsUsed := s₂.slotsUsed } : State).setVm s₂.vm), Ls ++ L, c0 + mc, s0 + ms⟩,
      ⟨X.admits, X.cas, X.clock, X.frames, X.room, X.hears, X.method, X.code, (X.here.setHeapUsed s₂.heap s₂.slotsUsed).setVm hW'.alike, X.tail, State.WarmedH.trans X.warmed hW', X.limits, X.bytes, X.same.trans (hsame.setVm s.vm)⟩,
      ⟨g, mk, s₂, L, E, ce, rfl, rfl, hx, hce, hcv, hcl, rfl, hL, rfl, rfl⟩, ?_⟩
    show Steps p.tables e below _ (((({ U with heap := s₂.heap, slotsUsed := s₂.slotsUsed } : State).setVm s₂.vm).setTop g).pushFrame (.throwing q))
    rw [← hs₂]
    exact hsteps
end Payer
section Calls
variable {p : Program} {l : Launch} {e : Env} {R : Room} {s : State} {m : MethodId} {args : Array Value} {below : List Frame} {meth : Method} {c : Code} {T : State} {locs : List Loc} {cells slots : Nat}
theorem vx_callV (X : Stand p l e R s m args below meth c T locs cells slots) (hexec : p.tables.exec = Jvm.exec) {own C : String} {index : Nat} {y : MethodName} {bytes : ByteArray} {maxL : Nat} {ret : Option FieldType}
    (hown : s.vm.findClass own = some m.cls) (hlink : (Cond.methodLink own index y).before args s = true) (hinst : (Cond.instanceMethod y).before args s = true) (hsel : (Cond.selects C y y).before args s = true)
    (hcode : (Cond.code y bytes maxL ret).before args s = true) (hy : y.cls ≠ "java/lang/invoke/MethodHandle" ∧ y.cls ≠ "java/lang/invoke/VarHandle")
    {W9 : Nat} {Pre : Pt → Array Value → Prop} {Post : Pt → Array Value → Option Value → Pt → Prop} {PostX : Pt → Array Value → Addr → Pt → Prop} (hK : vx_Back l R p e below s args y 3 W9 Pre Post PostX)
    {b : Addr} {cellB : Cell} (hcell : T.heap[b]? = some cellB) (hobj : cellB.vm.isStatics = false) (hcls : s.vm.findClass C = some cellB.cls)
    {g : JFrame} (hg : g.method = m) (hsize : g.locals.size = c.maxLocals) {argsL rest : List Value} (hlen : ∀ sig, parseMethodDescriptor y.desc = some sig → argsL.length = sig.parameters.length)
    (hstack : g.stack = argsL.reverse ++ .ref b :: rest) (hW : 2 * g.monitorRoom + (rest.map fun v => v.category).sum ≤ W9) (hdg : decode c.code g.pc = .ok (.invokevirtual index, 3))
    (hpre : ∀ vm₁, s.WarmedH vm₁ → Pre ⟨T.setVm vm₁, locs, cells, slots⟩ (Value.ref b :: argsL).toArray) :
    (∃ (v : Option Value) (vm₁ : Vm) (B : Pt), s.WarmedH vm₁ ∧ Stand p l e R s m args below meth c B.U B.locs B.cells B.slots ∧ Post ⟨T.setVm vm₁, locs, cells, slots⟩ (Value.ref b :: argsL).toArray v B ∧
      ∀ target, Steps p.tables e below (B.U.setTop { g with pc := g.pc + 3, stack := v.toList ++ rest }) target → Steps p.tables e below (T.setTop g) target) ∨
    (∃ (q : Addr) (vm₁ : Vm) (B : Pt), s.WarmedH vm₁ ∧ Stand p l e R s m args below meth c B.U B.locs B.cells B.slots ∧ PostX ⟨T.setVm vm₁, locs, cells, slots⟩ (Value.ref b :: argsL).toArray q B ∧
      Steps p.tables e below (T.setTop g) ((B.U.setTop { g with stack := rest }).pushFrame (.throwing q))) := by
  obtain ⟨mk, methM, hnamed, hmethM, hstM, habM⟩ := Cond.instanceMethod_spec hinst
  obtain ⟨methM', cM, hmethM', -, -, -, -, -, -, hsigM⟩ := Cond.code_spec hnamed hcode
  cases hmethM.symm.trans hmethM'
  obtain ⟨c2, r2, m2, q1, q2, q3, q4, kP, hkP, hkPi⟩ := Cond.selects_spec hsel
  cases hcls.symm.trans q1
  cases (State.methodFound?_of_named hnamed hy).symm.trans q2
  cases hnamed.symm.trans q3
  have hselP : selectMethod e.platform s.vm cellB.cls mk = .method mk := by rw [Launch.admits_selectMethod X.admits]; exact q4
  obtain ⟨vm₁, X₁, hstep₁⟩ := X.invokevirtual hexec hown hlink hnamed hmethM hstM hkP hkPi hy (a := b) (cell := cellB) hcell
    (fun z h => by rw [h] at hobj; cases hobj) hselP hmethM habM hkP hkPi (g := g) hg (argsL := argsL) (rest := rest) (hlen _ hsigM) hstack hdg
  rcases hK m meth c ⟨T.setVm vm₁, locs, cells, slots⟩ { g with stack := rest } (.invokevirtual index) mk (Value.ref b :: argsL).toArray X₁ hg hsize hdg hW (X₁.named hnamed) (hpre vm₁ X₁.warmed) with ⟨v, B, X', hpost, hsteps⟩ | ⟨q, B, X', hpost, hsteps⟩
  · exact Or.inl ⟨v, vm₁, B, X₁.warmed, X', hpost, fun target h => hstep₁ _ fun acts => by rw [doInvoke_state]; exact hsteps.trans h⟩
  · exact Or.inr ⟨q, vm₁, B, X₁.warmed, X', hpost, hstep₁ _ fun acts => by rw [doInvoke_state]; exact hsteps⟩
theorem vx_callS (X : Stand p l e R s m args below meth c T locs cells slots) (hexec : p.tables.exec = Jvm.exec) {own : String} {index : Nat} {y : MethodName} {bytes : ByteArray} {maxL : Nat} {ret : Option FieldType}
    (hown : s.vm.findClass own = some m.cls) (hlink : (Cond.methodLink own index y).before args s = true) (hstat : (Cond.static y).before args s = true) (hinit : (Cond.initialized y.cls).before args s = true)
    (hcode : (Cond.code y bytes maxL ret).before args s = true) (hy : y.cls ≠ "java/lang/invoke/MethodHandle" ∧ y.cls ≠ "java/lang/invoke/VarHandle")
    {W9 : Nat} {Pre : Pt → Array Value → Prop} {Post : Pt → Array Value → Option Value → Pt → Prop} {PostX : Pt → Array Value → Addr → Pt → Prop} (hK : vx_Back l R p e below s args y 3 W9 Pre Post PostX)
    {g : JFrame} (hg : g.method = m) (hsize : g.locals.size = c.maxLocals) {argsL rest : List Value} (hlen : ∀ sig, parseMethodDescriptor y.desc = some sig → argsL.length = sig.parameters.length)
    (hstack : g.stack = argsL.reverse ++ rest) (hW : 2 * g.monitorRoom + (rest.map fun v => v.category).sum ≤ W9) (hdg : decode c.code g.pc = .ok (.invokestatic index, 3))
    (hpre : ∀ vm₁, s.WarmedH vm₁ → Pre ⟨T.setVm vm₁, locs, cells, slots⟩ argsL.toArray) :
    (∃ (v : Option Value) (vm₁ : Vm) (B : Pt), s.WarmedH vm₁ ∧ Stand p l e R s m args below meth c B.U B.locs B.cells B.slots ∧ Post ⟨T.setVm vm₁, locs, cells, slots⟩ argsL.toArray v B ∧
      ∀ target, Steps p.tables e below (B.U.setTop { g with pc := g.pc + 3, stack := v.toList ++ rest }) target → Steps p.tables e below (T.setTop g) target) ∨
    (∃ (q : Addr) (vm₁ : Vm) (B : Pt), s.WarmedH vm₁ ∧ Stand p l e R s m args below meth c B.U B.locs B.cells B.slots ∧ PostX ⟨T.setVm vm₁, locs, cells, slots⟩ argsL.toArray q B ∧
      Steps p.tables e below (T.setTop g) ((B.U.setTop { g with stack := rest }).pushFrame (.throwing q))) := by
  obtain ⟨mk, hnamed⟩ := Cond.code_named hcode
  obtain ⟨methM, cM, hmethM, -, -, -, -, -, -, hsigM⟩ := Cond.code_spec hnamed hcode
  have hstatic : methM.isStatic = true := Cond.static_spec hnamed hmethM hstat
  obtain ⟨kP, hkP, -⟩ := className_of_methodNamed hnamed
  have hinitP : kP.init = .initialized := Cond.initialized_spec (findClass_of_methodNamed hnamed) hkP hinit
  obtain ⟨vm₁, X₁, hstep₁⟩ := X.invokestatic hexec hown hlink hnamed hmethM hstatic hkP hinitP hy (g := g) hg (argsL := argsL) (rest := rest) (hlen _ hsigM) hstack hdg
  rcases hK m meth c ⟨T.setVm vm₁, locs, cells, slots⟩ { g with stack := rest } (.invokestatic index) mk argsL.toArray X₁ hg hsize hdg hW (X₁.named hnamed) (hpre vm₁ X₁.warmed) with ⟨v, B, X', hpost, hsteps⟩ | ⟨q, B, X', hpost, hsteps⟩
  · exact Or.inl ⟨v, vm₁, B, X₁.warmed, X', hpost, fun target h => hstep₁ _ fun acts => by rw [doInvoke_state]; exact hsteps.trans h⟩
  · exact Or.inr ⟨q, vm₁, B, X₁.warmed, X', hpost, hstep₁ _ fun acts => by rw [doInvoke_state]; exact hsteps⟩
end Calls
theorem vx_cls {s : State} {T : State} {vm₁ : Vm} {E : String} {k : ClassId} (hW : s.WarmedH vm₁) (h : (T.setVm vm₁).vm.findClass E = some k) : s.vm.findClass E = some k := by
  have h1 : vm₁.findClass E = some k := h
  rw [hW.alike.findClass] at h1
  exact h1
/-- the method's frame g, with q thrown over it -/
def vx_W (p : Program) (l : Launch) (e : Env) (R : Room) (s : State) (m : MethodId) (args : Array Value) (below : List Frame) (meth : Method) (c : Code) (H : Heap) (locs : List Loc) (cells slots : Nat) (Q : State → Prop) (g : JFrame) (q : Addr) : Prop :=
  ∀ T : State, T.heap = H → Stand p l e R s m args below meth c T locs cells slots → ∃ t, Steps p.tables e below ((T.setTop g).pushFrame (.throwing q)) t ∧ Q t
def vx_Run (p : Program) (l : Launch) (e : Env) (R : Room) (s : State) (m : MethodId) (args : Array Value) (below : List Frame) (meth : Method) (c : Code) (H : Heap) (locs : List Loc) (cells slots mc ms : Nat) (g : JFrame) (rest : List Value) (Qa : State → Outcome → State → Prop) (XC : String → State → State → Prop) (free : Addr → Prop) : Prop :=
  ∀ T : State, T.heap = H → Stand p l e R s m args below meth c T locs cells slots →
    (∃ (v : Option Value) (st₀ t T' : State) (L : List Loc), st₀.heap = H ∧ Stand p l e R s m args below meth c T' (locs ++ L) (cells + mc) (slots + ms) ∧ (∀ q ∈ L, free q.base) ∧ T'.heap = t.heap ∧ T'.vm = t.vm ∧ Qa st₀ (.returned v) t ∧
      Goes p e below T g T' { g with pc := g.pc + 3, stack := v.toList ++ rest }) ∨
    (∃ (q : Addr) (st₀ t T' : State) (L : List Loc) (E : String) (ce : Cell), st₀.heap = H ∧ Stand p l e R s m args below meth c T' (locs ++ L) (cells + mc) (slots + ms) ∧ (∀ z ∈ L, free z.base) ∧ T'.heap = t.heap ∧ T'.vm = t.vm ∧ XC E st₀ t ∧ t.heap[q]? = some ce ∧ ce.vm = .none ∧ s.vm.findClass E = some ce.cls ∧
      Steps p.tables e below (T.setTop g) ((T'.setTop { g with stack := rest }).pushFrame (.throwing q)))
def vx_X {S : Type} (px : S → Prop) (B : String → S → State → Prop) (A : Nat → Prop) : String → State → State → Prop := fun E st t => ∃ u : S, px u ∧ B E u t ∧ va_F A st t
section Runs
variable {p : Program} {l : Launch} {e : Env} {R : Room} {s : State} {m : MethodId} {args : Array Value} {below : List Frame} {meth : Method} {c : Code} {H : Heap} {locs : List Loc} {cells slots : Nat}
variable {y : MethodName} {bytes cc : ByteArray} {maxL nL mc ms n index : Nat} {ret : Option FieldType} {ws : List Cond} {rm : Room} {Pc : Array Value → State → Prop} {Qc : Array Value → State → Outcome → State → Prop} {XC : String → State → State → Prop} {free : Addr → Prop} {Ts : List Cond} {own C : String} {b : Addr} {As rest : List Value} {g : JFrame}
theorem vx_callBack (cb : CallB R s args own index y bytes maxL ret ws rm mc ms n) (hM : vx_Met l y ws rm Pc Qc XC mc ms free) (hbl : FrameBlind Pc) : vx_Back l R p e below s args y 3 8 (PreOf R mc ms Pc) (PostOf Qc mc ms free) (vx_Post XC mc ms free) := by
  obtain ⟨hrc, hrs, hfr, hlo, hws, hcw, -, hini, -⟩ := cb
  exact vx_back (bytes := bytes) (maxL := maxL) (ret := ret) hM hbl hrc hrs hfr hlo hws hcw (fun a' U hW => word_at hW (Or.inl (by first | rfl | simp [Cond.onTables, Cond.keeps, Cond.steady])) hini)
theorem vx_runV (S : CallFix p m c cc nL s args Ts own) (hM : vx_Met l y ws rm Pc Qc XC mc ms free) (cw : CallW R s args own C index y bytes maxL ret ws rm mc ms n) (hp : PreV s H C b Pc As)
    (hg : g.method = m) (hn : As.length = n) (hsize : g.locals.size = nL) (hstack : g.stack = As.reverse ++ .ref b :: rest) (hW : 2 * g.monitorRoom + (rest.map fun v => v.category).sum ≤ 8) (hdg : decode cc g.pc = .ok (.invokevirtual index, 3)) (hf : cells + mc ≤ R.cells ∧ slots + ms ≤ R.slots) :
    vx_Run p l e R s m args below meth c H locs cells slots mc ms g rest (Qc (Value.ref b :: As).toArray) XC free := by
  have hK : vx_Back l R p e below s args y 3 8 (PreOf R mc ms Pc) (PostOf Qc mc ms free) (vx_Post XC mc ms free) := vx_callBack cw.1 hM hp.1
  obtain ⟨⟨-, -, -, -, -, -, hcode, -, hy, hlen, hl⟩, hin, hse⟩ := cw
  obtain ⟨hx, hb, hml, ho, -⟩ := S
  obtain ⟨-, ⟨cellB, hcB, hoB, hclB⟩, hPc⟩ := hp
  intro T hT X
  rcases vx_callV X hx (C := C) (bytes := bytes) (maxL := maxL) (ret := ret) ho hl hin hse hcode hy hK (by rw [hT]; exact hcB) hoB hclB hg (hsize.trans hml.symm) (argsL := As) (rest := rest) (fun sig h => hn.trans (hlen sig h)) hstack hW (by rw [hb]; exact hdg)
    (fun vm₁ hW₁ => ⟨hf.1, hf.2, hPc (T.setVm vm₁) hT hW₁⟩) with ⟨v, vm₁, ⟨U', l2, c2, s2⟩, hW₁, X', ⟨g', mk, t, L, e1, e2, hq, h1, hL, h2, h3⟩, st⟩ | ⟨q, vm₁, ⟨U', l2, c2, s2⟩, hW₁, X', ⟨g', mk, t, L, E, ce, e1, e2, hq, hce, hcv, hcl, h1, hL, h2, h3⟩, st⟩
  · dsimp only [Pt.U, Pt.locs, Pt.cells, Pt.slots] at X' e1 e2 h1 h2 h3 st
    subst h1; subst h2; subst h3
    exact Or.inl ⟨v, (T.setVm vm₁).calling g' mk (Value.ref b :: As).toArray, t, U', L, hT, X', hL, e1, e2, hq, st⟩
  · dsimp only [Pt.U, Pt.locs, Pt.cells, Pt.slots] at X' e1 e2 h1 h2 h3 st hcl
    subst h1; subst h2; subst h3
    exact Or.inr ⟨q, (T.setVm vm₁).calling g' mk (Value.ref b :: As).toArray, t, U', L, E, ce, hT, X', hL, e1, e2, hq, hce, hcv, vx_cls hW₁ hcl, st⟩
theorem vx_runS (S : CallFix p m c cc nL s args Ts own) (hM : vx_Met l y ws rm Pc Qc XC mc ms free) (cw : CallB R s args own index y bytes maxL ret ws rm mc ms n ∧ (Cond.static y).before args s = true) (hp : PreS s H Pc As)
    (hg : g.method = m) (hn : As.length = n) (hsize : g.locals.size = nL) (hstack : g.stack = As.reverse ++ rest) (hW : 2 * g.monitorRoom + (rest.map fun v => v.category).sum ≤ 8) (hdg : decode cc g.pc = .ok (.invokestatic index, 3)) (hf : cells + mc ≤ R.cells ∧ slots + ms ≤ R.slots) :
    vx_Run p l e R s m args below meth c H locs cells slots mc ms g rest (Qc As.toArray) XC free := by
  have hK : vx_Back l R p e below s args y 3 8 (PreOf R mc ms Pc) (PostOf Qc mc ms free) (vx_Post XC mc ms free) := vx_callBack cw.1 hM hp.1
  obtain ⟨⟨-, -, -, -, -, -, hcode, hini, hy, hlen, hl⟩, hstt⟩ := cw
  obtain ⟨hx, hb, hml, ho, -⟩ := S
  intro T hT X
  rcases vx_callS X hx (bytes := bytes) (maxL := maxL) (ret := ret) ho hl hstt hini hcode hy hK hg (hsize.trans hml.symm) (argsL := As) (rest := rest) (fun sig h => hn.trans (hlen sig h)) hstack hW (by rw [hb]; exact hdg)
    (fun vm₁ hW₁ => ⟨hf.1, hf.2, hp.2 (T.setVm vm₁) hT hW₁⟩) with ⟨v, vm₁, ⟨U', l2, c2, s2⟩, hW₁, X', ⟨g', mk, t, L, e1, e2, hq, h1, hL, h2, h3⟩, st⟩ | ⟨q, vm₁, ⟨U', l2, c2, s2⟩, hW₁, X', ⟨g', mk, t, L, E, ce, e1, e2, hq, hce, hcv, hcl, h1, hL, h2, h3⟩, st⟩
  · dsimp only [Pt.U, Pt.locs, Pt.cells, Pt.slots] at X' e1 e2 h1 h2 h3 st
    subst h1; subst h2; subst h3
    exact Or.inl ⟨v, (T.setVm vm₁).calling g' mk As.toArray, t, U', L, hT, X', hL, e1, e2, hq, st⟩
  · dsimp only [Pt.U, Pt.locs, Pt.cells, Pt.slots] at X' e1 e2 h1 h2 h3 st hcl
    subst h1; subst h2; subst h3
    exact Or.inr ⟨q, (T.setVm vm₁).calling g' mk As.toArray, t, U', L, E, ce, hT, X', hL, e1, e2, hq, hce, hcv, vx_cls hW₁ hcl, st⟩
end Runs
section Rows
variable {p : Program} {l : Launch} {e : Env} {R : Room} {s : State} {m : MethodId} {args : Array Value} {below : List Frame} {meth : Method} {c : Code} {H : Heap} {locs : List Loc} {cells slots : Nat} {Q : State → Prop}
variable {mc ms : Nat} {free : Addr → Prop} {A0 A1 : Nat → Prop} {H0 : Heap} {a : Array Value} {pc : Nat} {ls : Array Slot} {st0 rest : List Value}
theorem vx_keep {st₀ t T' : State} {L : List Loc} (h0 : st₀.heap = H) (e1 : T'.heap = t.heap) (hS : va_S A0 H0 H locs) (hA : ∀ q, q < H.size → A1 q → A0 q) (hf : ∀ q, free q → A0 q) (hL : ∀ q ∈ L, free q.base) (hF : va_F A1 st₀ t) :
    H.size ≤ T'.heap.size ∧ (∀ q : Nat, q < H.size → ¬ A1 q → T'.heap[q]? = H[q]?) ∧ va_S A0 H0 T'.heap (locs ++ L) := by
  obtain ⟨hz, hk⟩ := hF
  rw [h0] at hz hk
  exact ⟨by rw [e1]; exact hz, fun q h1 h2 => by rw [e1]; exact hk q h1 h2,
    ⟨Nat.le_trans hS.1 (by rw [e1]; exact hz), fun q h1 h2 => by rw [e1, hk q (Nat.lt_of_lt_of_le h1 hS.1) (fun z => h2 (hA q (Nat.lt_of_lt_of_le h1 hS.1) z))]; exact hS.2.1 q h1 h2, fun q hq => by
      rcases List.mem_append.mp hq with h | h
      · exact hS.2.2 q h
      · exact hf _ (hL q h)⟩⟩
theorem vx_calli {S SX : Type} {post : Int32 → S → Prop} {px : SX → Prop} {B : S → State → Prop} {BX : String → SX → State → Prop} {AX : Nat → Prop} (hr : vx_Run p l e R s m args below meth c H locs cells slots mc ms (F0 m pc ls st0) rest (va_Qi post B A1 a) (vx_X px BX AX) free) (hS : va_S A0 H0 H locs) (hA : ∀ q, q < H.size → A1 q → A0 q) (hf : ∀ q, free q → A0 q) (hAX : ∀ q, q < H.size → AX q → A0 q)
    (kx : ∀ (E : String) (ce : Cell) (q9 : Addr) (u : SX) (t : State) (H1 : Heap) (locs1 : List Loc), t.heap = H1 → s.vm.Alike t.vm → px u → BX E u t → H.size ≤ H1.size → (∀ q : Nat, q < H.size → ¬ AX q → H1[q]? = H[q]?) → va_S A0 H0 H1 locs1 → H1[q9]? = some ce → ce.vm = .none → s.vm.findClass E = some ce.cls → vx_W p l e R s m args below meth c H1 locs1 (cells + mc) (slots + ms) Q (F0 m pc ls rest) q9)
    (kk : ∀ (r : Int32) (u : S) (t : State) (H1 : Heap) (locs1 : List Loc), t.heap = H1 → s.vm.Alike t.vm → post r u → B u t → H.size ≤ H1.size → (∀ q : Nat, q < H.size → ¬ A1 q → H1[q]? = H[q]?) → va_S A0 H0 H1 locs1 → W p l e R s m args below meth c H1 locs1 (cells + mc) (slots + ms) Q (F0 m (pc + 3) ls (.int r :: rest))) : W p l e R s m args below meth c H locs cells slots Q (F0 m pc ls st0) := by
  intro T hT X
  rcases hr T hT X with ⟨v, st₀, t, T', L, h0, X', hL, e1, e2, ⟨⟨r, u, hv, hp, hb⟩, hF⟩, st⟩ | ⟨q, st₀, t, T', L, E, ce, h0, X', hL, e1, e2, ⟨u, hp, hb, hF⟩, hce, hcv, hcl, st⟩
  · cases hv
    obtain ⟨k1, k2, k3⟩ := vx_keep h0 e1 hS hA hf hL hF
    obtain ⟨t2, a1, b1⟩ := kk r u t T'.heap (locs ++ L) e1.symm (by rw [← e2]; exact X'.warmed.alike) hp hb k1 k2 k3 T' rfl X'
    exact ⟨t2, st t2 a1, b1⟩
  · obtain ⟨k1, k2, k3⟩ := vx_keep h0 e1 hS hAX hf hL hF
    obtain ⟨t2, a1, b1⟩ := kx E ce q u t T'.heap (locs ++ L) e1.symm (by rw [← e2]; exact X'.warmed.alike) hp hb k1 k2 k3 (by rw [e1]; exact hce) hcv hcl T' rfl X'
    exact ⟨t2, st.trans a1, b1⟩
theorem vx_calll {S SX : Type} {post : Int64 → S → Prop} {px : SX → Prop} {B : S → State → Prop} {BX : String → SX → State → Prop} {AX : Nat → Prop} (hr : vx_Run p l e R s m args below meth c H locs cells slots mc ms (F0 m pc ls st0) rest (va_Ql post B A1 a) (vx_X px BX AX) free) (hS : va_S A0 H0 H locs) (hA : ∀ q, q < H.size → A1 q → A0 q) (hf : ∀ q, free q → A0 q) (hAX : ∀ q, q < H.size → AX q → A0 q)
    (kx : ∀ (E : String) (ce : Cell) (q9 : Addr) (u : SX) (t : State) (H1 : Heap) (locs1 : List Loc), t.heap = H1 → s.vm.Alike t.vm → px u → BX E u t → H.size ≤ H1.size → (∀ q : Nat, q < H.size → ¬ AX q → H1[q]? = H[q]?) → va_S A0 H0 H1 locs1 → H1[q9]? = some ce → ce.vm = .none → s.vm.findClass E = some ce.cls → vx_W p l e R s m args below meth c H1 locs1 (cells + mc) (slots + ms) Q (F0 m pc ls rest) q9)
    (kk : ∀ (r : Int64) (u : S) (t : State) (H1 : Heap) (locs1 : List Loc), t.heap = H1 → s.vm.Alike t.vm → post r u → B u t → H.size ≤ H1.size → (∀ q : Nat, q < H.size → ¬ A1 q → H1[q]? = H[q]?) → va_S A0 H0 H1 locs1 → W p l e R s m args below meth c H1 locs1 (cells + mc) (slots + ms) Q (F0 m (pc + 3) ls (.long r :: rest))) : W p l e R s m args below meth c H locs cells slots Q (F0 m pc ls st0) := by
  intro T hT X
  rcases hr T hT X with ⟨v, st₀, t, T', L, h0, X', hL, e1, e2, ⟨⟨r, u, hv, hp, hb⟩, hF⟩, st⟩ | ⟨q, st₀, t, T', L, E, ce, h0, X', hL, e1, e2, ⟨u, hp, hb, hF⟩, hce, hcv, hcl, st⟩
  · cases hv
    obtain ⟨k1, k2, k3⟩ := vx_keep h0 e1 hS hA hf hL hF
    obtain ⟨t2, a1, b1⟩ := kk r u t T'.heap (locs ++ L) e1.symm (by rw [← e2]; exact X'.warmed.alike) hp hb k1 k2 k3 T' rfl X'
    exact ⟨t2, st t2 a1, b1⟩
  · obtain ⟨k1, k2, k3⟩ := vx_keep h0 e1 hS hAX hf hL hF
    obtain ⟨t2, a1, b1⟩ := kx E ce q u t T'.heap (locs ++ L) e1.symm (by rw [← e2]; exact X'.warmed.alike) hp hb k1 k2 k3 (by rw [e1]; exact hce) hcv hcl T' rfl X'
    exact ⟨t2, st.trans a1, b1⟩
theorem vx_callf {S SX : Type} {post : UInt32 → S → Prop} {px : SX → Prop} {B : S → State → Prop} {BX : String → SX → State → Prop} {AX : Nat → Prop} (hr : vx_Run p l e R s m args below meth c H locs cells slots mc ms (F0 m pc ls st0) rest (va_Qf post B A1 a) (vx_X px BX AX) free) (hS : va_S A0 H0 H locs) (hA : ∀ q, q < H.size → A1 q → A0 q) (hf : ∀ q, free q → A0 q) (hAX : ∀ q, q < H.size → AX q → A0 q)
    (kx : ∀ (E : String) (ce : Cell) (q9 : Addr) (u : SX) (t : State) (H1 : Heap) (locs1 : List Loc), t.heap = H1 → s.vm.Alike t.vm → px u → BX E u t → H.size ≤ H1.size → (∀ q : Nat, q < H.size → ¬ AX q → H1[q]? = H[q]?) → va_S A0 H0 H1 locs1 → H1[q9]? = some ce → ce.vm = .none → s.vm.findClass E = some ce.cls → vx_W p l e R s m args below meth c H1 locs1 (cells + mc) (slots + ms) Q (F0 m pc ls rest) q9)
    (kk : ∀ (r : UInt32) (u : S) (t : State) (H1 : Heap) (locs1 : List Loc), t.heap = H1 → s.vm.Alike t.vm → post r u → B u t → H.size ≤ H1.size → (∀ q : Nat, q < H.size → ¬ A1 q → H1[q]? = H[q]?) → va_S A0 H0 H1 locs1 → W p l e R s m args below meth c H1 locs1 (cells + mc) (slots + ms) Q (F0 m (pc + 3) ls (.float r :: rest))) : W p l e R s m args below meth c H locs cells slots Q (F0 m pc ls st0) := by
  intro T hT X
  rcases hr T hT X with ⟨v, st₀, t, T', L, h0, X', hL, e1, e2, ⟨⟨r, u, hv, hp, hb⟩, hF⟩, st⟩ | ⟨q, st₀, t, T', L, E, ce, h0, X', hL, e1, e2, ⟨u, hp, hb, hF⟩, hce, hcv, hcl, st⟩
  · cases hv
    obtain ⟨k1, k2, k3⟩ := vx_keep h0 e1 hS hA hf hL hF
    obtain ⟨t2, a1, b1⟩ := kk r u t T'.heap (locs ++ L) e1.symm (by rw [← e2]; exact X'.warmed.alike) hp hb k1 k2 k3 T' rfl X'
    exact ⟨t2, st t2 a1, b1⟩
  · obtain ⟨k1, k2, k3⟩ := vx_keep h0 e1 hS hAX hf hL hF
    obtain ⟨t2, a1, b1⟩ := kx E ce q u t T'.heap (locs ++ L) e1.symm (by rw [← e2]; exact X'.warmed.alike) hp hb k1 k2 k3 (by rw [e1]; exact hce) hcv hcl T' rfl X'
    exact ⟨t2, st.trans a1, b1⟩
theorem vx_calld {S SX : Type} {post : UInt64 → S → Prop} {px : SX → Prop} {B : S → State → Prop} {BX : String → SX → State → Prop} {AX : Nat → Prop} (hr : vx_Run p l e R s m args below meth c H locs cells slots mc ms (F0 m pc ls st0) rest (va_Qd post B A1 a) (vx_X px BX AX) free) (hS : va_S A0 H0 H locs) (hA : ∀ q, q < H.size → A1 q → A0 q) (hf : ∀ q, free q → A0 q) (hAX : ∀ q, q < H.size → AX q → A0 q)
    (kx : ∀ (E : String) (ce : Cell) (q9 : Addr) (u : SX) (t : State) (H1 : Heap) (locs1 : List Loc), t.heap = H1 → s.vm.Alike t.vm → px u → BX E u t → H.size ≤ H1.size → (∀ q : Nat, q < H.size → ¬ AX q → H1[q]? = H[q]?) → va_S A0 H0 H1 locs1 → H1[q9]? = some ce → ce.vm = .none → s.vm.findClass E = some ce.cls → vx_W p l e R s m args below meth c H1 locs1 (cells + mc) (slots + ms) Q (F0 m pc ls rest) q9)
    (kk : ∀ (r : UInt64) (u : S) (t : State) (H1 : Heap) (locs1 : List Loc), t.heap = H1 → s.vm.Alike t.vm → post r u → B u t → H.size ≤ H1.size → (∀ q : Nat, q < H.size → ¬ A1 q → H1[q]? = H[q]?) → va_S A0 H0 H1 locs1 → W p l e R s m args below meth c H1 locs1 (cells + mc) (slots + ms) Q (F0 m (pc + 3) ls (.double r :: rest))) : W p l e R s m args below meth c H locs cells slots Q (F0 m pc ls st0) := by
  intro T hT X
  rcases hr T hT X with ⟨v, st₀, t, T', L, h0, X', hL, e1, e2, ⟨⟨r, u, hv, hp, hb⟩, hF⟩, st⟩ | ⟨q, st₀, t, T', L, E, ce, h0, X', hL, e1, e2, ⟨u, hp, hb, hF⟩, hce, hcv, hcl, st⟩
  · cases hv
    obtain ⟨k1, k2, k3⟩ := vx_keep h0 e1 hS hA hf hL hF
    obtain ⟨t2, a1, b1⟩ := kk r u t T'.heap (locs ++ L) e1.symm (by rw [← e2]; exact X'.warmed.alike) hp hb k1 k2 k3 T' rfl X'
    exact ⟨t2, st t2 a1, b1⟩
  · obtain ⟨k1, k2, k3⟩ := vx_keep h0 e1 hS hAX hf hL hF
    obtain ⟨t2, a1, b1⟩ := kx E ce q u t T'.heap (locs ++ L) e1.symm (by rw [← e2]; exact X'.warmed.alike) hp hb k1 k2 k3 (by rw [e1]; exact hce) hcv hcl T' rfl X'
    exact ⟨t2, st.trans a1, b1⟩
theorem vx_callv {S SX : Type} {post : S → Prop} {px : SX → Prop} {B : S → State → Prop} {BX : String → SX → State → Prop} {AX : Nat → Prop} (hr : vx_Run p l e R s m args below meth c H locs cells slots mc ms (F0 m pc ls st0) rest (va_Qv post B A1 a) (vx_X px BX AX) free) (hS : va_S A0 H0 H locs) (hA : ∀ q, q < H.size → A1 q → A0 q) (hf : ∀ q, free q → A0 q) (hAX : ∀ q, q < H.size → AX q → A0 q)
    (kx : ∀ (E : String) (ce : Cell) (q9 : Addr) (u : SX) (t : State) (H1 : Heap) (locs1 : List Loc), t.heap = H1 → s.vm.Alike t.vm → px u → BX E u t → H.size ≤ H1.size → (∀ q : Nat, q < H.size → ¬ AX q → H1[q]? = H[q]?) → va_S A0 H0 H1 locs1 → H1[q9]? = some ce → ce.vm = .none → s.vm.findClass E = some ce.cls → vx_W p l e R s m args below meth c H1 locs1 (cells + mc) (slots + ms) Q (F0 m pc ls rest) q9)
    (kk : ∀ (u : S) (t : State) (H1 : Heap) (locs1 : List Loc), t.heap = H1 → s.vm.Alike t.vm → post u → B u t → H.size ≤ H1.size → (∀ q : Nat, q < H.size → ¬ A1 q → H1[q]? = H[q]?) → va_S A0 H0 H1 locs1 → W p l e R s m args below meth c H1 locs1 (cells + mc) (slots + ms) Q (F0 m (pc + 3) ls (rest))) : W p l e R s m args below meth c H locs cells slots Q (F0 m pc ls st0) := by
  intro T hT X
  rcases hr T hT X with ⟨v, st₀, t, T', L, h0, X', hL, e1, e2, ⟨⟨u, hv, hp, hb⟩, hF⟩, st⟩ | ⟨q, st₀, t, T', L, E, ce, h0, X', hL, e1, e2, ⟨u, hp, hb, hF⟩, hce, hcv, hcl, st⟩
  · cases hv
    obtain ⟨k1, k2, k3⟩ := vx_keep h0 e1 hS hA hf hL hF
    obtain ⟨t2, a1, b1⟩ := kk u t T'.heap (locs ++ L) e1.symm (by rw [← e2]; exact X'.warmed.alike) hp hb k1 k2 k3 T' rfl X'
    exact ⟨t2, st t2 a1, b1⟩
  · obtain ⟨k1, k2, k3⟩ := vx_keep h0 e1 hS hAX hf hL hF
    obtain ⟨t2, a1, b1⟩ := kx E ce q u t T'.heap (locs ++ L) e1.symm (by rw [← e2]; exact X'.warmed.alike) hp hb k1 k2 k3 (by rw [e1]; exact hce) hcv hcl T' rfl X'
    exact ⟨t2, st.trans a1, b1⟩
/-- caught by the row x of this method's table; the rows ahead don't take it -/
theorem vx_catch {own name : String} {E : String} {ce : Cell} {q : Addr} (hown : s.vm.findClass own = some m.cls) (pre : List ExceptionTableEntry) (x : ExceptionTableEntry) (suf : List ExceptionTableEntry) (hsplit : c.exceptionTable.toList = pre ++ x :: suf)
    (hpass : ∀ z ∈ pre, covers z pc = false ∨ (z.catchType ≠ 0 ∧ ∃ nm : String, (Cond.classLink own z.catchType nm).before args s = true ∧ va_Nc E nm s)) (hx : covers x pc = true) (h0 : x.catchType ≠ 0)
    (hlink : (Cond.classLink own x.catchType name).before args s = true) (hcast : (Cond.castable E name).before args s = true) (hcell : H[q]? = some ce) (hv : ce.vm = .none) (hcl : s.vm.findClass E = some ce.cls)
    (kk : W p l e R s m args below meth c H locs cells slots Q (F0 m x.handlerPc ls [.ref q])) : vx_W p l e R s m args below meth c H locs cells slots Q (F0 m pc ls rest) q := by
  intro T hT X
  have hpl : e.platform.magicAccessors = ({} : Platform).magicAccessors := by rw [X.admits.platform]
  obtain ⟨c3, c4, hc3, hc4, hasg⟩ := Cond.castable_spec hcast
  cases Option.some.inj (hc3.symm.trans hcl)
  obtain ⟨c5, hc5, hcl5⟩ := Cond.classLink_spec hown hlink e.platform hpl
  cases Option.some.inj (hc4.symm.trans hc5)
  obtain ⟨vm', X', st⟩ := X.thenCaughtThrough q (g := F0 m pc ls rest) rfl (Steps.refl _) (by rw [hT]; exact hcell) (by rw [hv]; rfl) (by obtain ⟨k9, h9, -⟩ := Vm.findClass_spec hcl; exact ⟨k9, h9⟩) pre x suf hsplit
    (fun z hz => by
      rcases hpass z hz with h | ⟨hz0, nm, hl1, hn1⟩
      · exact Or.inl h
      · obtain ⟨c6, hc6, hcl6⟩ := Cond.classLink_spec hown hl1 e.platform hpl
        obtain ⟨a8, b8, h1, h2, h3⟩ := hn1
        cases Option.some.inj (h1.symm.trans hcl)
        cases Option.some.inj (h2.symm.trans hc6)
        exact Or.inr ⟨hz0, _, hcl6, h3⟩) hx (Or.inr ⟨h0, c4, hcl5, hasg⟩)
  obtain ⟨t, a1, b1⟩ := kk (T.setVm vm') hT X'
  exact ⟨t, st.trans a1, b1⟩
end Rows
section Ends
variable {p : Program} {l : Launch} {e : Env} {R : Room} {s : State} {m : MethodId} {args : Array Value} {below : List Frame} {meth : Method} {c : Code} {H : Heap} {locs : List Loc} {cells slots : Nat} {Q : State → Prop}
variable {mc ms : Nat} {free : Addr → Prop} {A0 A1 : Nat → Prop} {H0 : Heap} {a : Array Value} {ls : Array Slot} {st0 rest : List Value}
variable {Qc : Array Value → State → Outcome → State → Prop} {XC : String → State → State → Prop}
/-- what a body that may throw owes at its end -/
def vx_MQ (below : List Frame) (Qc : Array Value → State → Outcome → State → Prop) (XC : String → State → State → Prop) (a : Array Value) (s : State) (mc ms : Nat) (free : Addr → Prop) : State → Prop := fun t =>
  ∃ o, t.status = .running ∧ Ended t below o ∧ vx_Q Qc XC mc ms free a s o t
theorem vx_ret {g : JFrame} {mc ms : Nat} (k : W p l e R s m args below meth c H locs cells slots (MQ below Qc args s mc ms free) g) : W p l e R s m args below meth c H locs cells slots (vx_MQ below Qc XC args s mc ms free) g := by
  intro T hT X
  obtain ⟨t, a1, o, b1, b2, b3, b4⟩ := k T hT X
  exact ⟨t, a1, o, b1, b2, Or.inl ⟨b3, b4⟩⟩
/-- not caught here: it goes on to the caller -/
theorem vx_widen {g : JFrame} {q : Addr} {k n : Nat} (h1 : cells ≤ k) (h2 : slots ≤ n) (kk : vx_W p l e R s m args below meth c H locs k n Q g q) : vx_W p l e R s m args below meth c H locs cells slots Q g q := fun T hT X => kk T hT (stand_widen X h1 h2)
theorem vx_out {pc : Nat} {E : String} {ce : Cell} {q : Addr} {mc ms : Nat} (hout : ∀ x ∈ c.exceptionTable.toList, covers x pc = false) (hlocks : meth.locks = false) (hcell : H[q]? = some ce) (hv : ce.vm = .none) (hcl : s.vm.findClass E = some ce.cls)
    (hx : ∀ t : State, t.heap = H → s.vm.Alike t.vm → XC E s t) (hf : ∀ z ∈ locs, free z.base) (hc : cells ≤ mc) (hs : slots ≤ ms) :
    vx_W p l e R s m args below meth c H locs cells slots (vx_MQ below Qc XC args s mc ms free) (F0 m pc ls rest) q := by
  intro T hT X
  obtain ⟨st1, hrun, hend, hW, hsm⟩ := X.leaveThrown q (g := F0 m pc ls rest) rfl rfl rfl hout hlocks
  have hcell9 : (T.setFrames (.throwing q :: below)).heap[q]? = some ce := by
    show T.heap[q]? = some ce
    rw [hT]; exact hcell
  exact ⟨_, st1, .threw q, hrun, hend, Or.inr ⟨q, rfl, E, ce, locs, hx _ hT hW.alike, hcell9, hv, hcl, hW, hsm.mono hc hs, hf⟩⟩
theorem vx_frame {U : State} {k n : Nat} (h : s.sameButNew ({ U with vm := s.vm } : State) locs k n) : s.heap.size ≤ U.heap.size ∧ ∀ q : Nat, q < s.heap.size → (∀ z ∈ locs, z.base ≠ q) → U.heap[q]? = s.heap[q]? := by
  obtain ⟨-, h2, -, -, -, h6⟩ := h
  refine ⟨h2, fun q hq hz => ?_⟩
  obtain ⟨c9, e1, e2, e3, e4⟩ := h6 q _ (Array.getElem?_eq_getElem hq)
  have hs : c9.slots = (s.heap[q]).slots := Array.ext_getElem? fun i => e4 i fun hm => hz _ hm rfl
  have h9 : c9 = s.heap[q] := by
    rw [hs] at e2
    exact e2
  have e5 : U.heap[q]? = some c9 := e1
  rw [e5, h9, Array.getElem?_eq_getElem hq]
/-- the words of a throw but the four that speak of the heap -/
def vx_no (w : Cond) : Bool := decide (w ≠ .isRef (.static Bundle.tN "UNASSIGNED_STACK" Bundle.steD)) && decide (w ≠ .isRef (.static Bundle.tN "SUPPRESSED_SENTINEL" Bundle.listD)) && decide (w ≠ .laysStatic Bundle.tN "UNASSIGNED_STACK" Bundle.steD) && decide (w ≠ .laysStatic Bundle.tN "SUPPRESSED_SENTINEL" Bundle.listD)
def vx_at0 (own : String) (ic : Nat) (X : String) (names : List String) : List Cond := (Bundle.ownAtoms0 own ic X names).filter vx_no
def vx_atS (own : String) (ic : Nat) (X : String) (names : List String) : List Cond := (Bundle.ownAtoms own ic X names).filter vx_no
/-- a word that the tables alone decide, or a good one -/
def vx_ot (w : Cond) : Bool := w.onTables || goodWord w
theorem vx_ot_at {args a' : Array Value} {s U : State} {w : Cond} (hW : s.WarmedH U.vm) (hvm : s.vm = U.vm) (hg : vx_ot w = true) (h : w.before args s = true) : w.before a' U = true := by
  simp only [vx_ot, Bool.or_eq_true] at hg
  rcases hg with hg | hg
  · exact va_tabs hg hvm h
  · exact word_at hW (good_of_word hg) h
/-- a list's words: the good ones out of the method's own list, the others by premises of their own -/
theorem vx_hat {args : Array Value} {s : State} {L B : List Cond} (h1 : ∀ w ∈ L.filter goodWord, w.before args s = true) (h2 : ∀ w ∈ L.filter (fun w => !goodWord w), w ∈ B) (h3 : ∀ w ∈ B, w.before args s = true) : ∀ w ∈ L, w.before args s = true := by
  intro w hw
  by_cases g : goodWord w = true
  · exact h1 w (List.mem_filter.mpr ⟨hw, g⟩)
  · refine h3 w (h2 w (List.mem_filter.mpr ⟨hw, ?_⟩))
    show (!goodWord w) = true
    cases hgw : goodWord w
    · rfl
    · exact absurd hgw g
theorem vx_c {args : Array Value} {s : State} {w : Cond} {B : List Cond} (h : w.before args s = true) (t : ∀ w ∈ B, w.before args s = true) : ∀ w' ∈ w :: B, w'.before args s = true := fun w' h' => (List.mem_cons.mp h').elim (fun e => by rw [e]; exact h) (t w')
theorem vx_n {args : Array Value} {s : State} : ∀ w ∈ ([] : List Cond), w.before args s = true := fun _ h => nomatch h
theorem vx_own {args : Array Value} {s : State} {L : List Cond} (h1 : ∀ w ∈ L.filter vx_no, w.before args s = true)
    (hU : (Cond.isRef (.static Bundle.tN "UNASSIGNED_STACK" Bundle.steD)).before args s = true) (hN : (Cond.isRef (.static Bundle.tN "SUPPRESSED_SENTINEL" Bundle.listD)).before args s = true)
    (lU : (Cond.laysStatic Bundle.tN "UNASSIGNED_STACK" Bundle.steD).before args s = true) (lN : (Cond.laysStatic Bundle.tN "SUPPRESSED_SENTINEL" Bundle.listD).before args s = true) : ∀ w ∈ L, w.before args s = true := by
  intro w hw
  by_cases e1 : w = .isRef (.static Bundle.tN "UNASSIGNED_STACK" Bundle.steD)
  · rw [e1]; exact hU
  · by_cases e2 : w = .isRef (.static Bundle.tN "SUPPRESSED_SENTINEL" Bundle.listD)
    · rw [e2]; exact hN
    · by_cases e3 : w = .laysStatic Bundle.tN "UNASSIGNED_STACK" Bundle.steD
      · rw [e3]; exact lU
      · by_cases e4 : w = .laysStatic Bundle.tN "SUPPRESSED_SENTINEL" Bundle.listD
        · rw [e4]; exact lN
        · exact h1 w (List.mem_filter.mpr ⟨hw, by unfold vx_no; rw [decide_eq_true e1, decide_eq_true e2, decide_eq_true e3, decide_eq_true e4]; rfl⟩)
/-- where a static field lies, its class's statics cell in H -/
def vx_L (C n d : String) (A : Nat → Prop) (U : State) (H : Heap) : Prop := ∃ (c : ClassId) (k : Class) (i : Nat) (f : Field) (a : Nat) (cell : Cell), U.vm.findClass C = some c ∧ U.fieldFound? C n d = some (c, k, i, f) ∧ f.isStatic = true ∧ k.statics = some a ∧ H[a]? = some cell ∧ cell.vm.isStatics = true ∧ cell.cls = c ∧ f.slot < cell.slots.size ∧ k.staticTypes[f.slot]? = some f.type ∧ ¬ A a
theorem vx_L.moved {C n d : String} {A : Nat → Prop} {u U : State} {H : Heap} (hvm : u.vm.Alike U.vm) (h : vx_L C n d A u H) : vx_L C n d A U H := by
  obtain ⟨c, k, i, f, a, cell, h1, h2, h3, h4, h5, h6, h7, h8, h9, h10⟩ := h
  obtain ⟨k', hi', he⟩ := State.fieldFound?_setVm hvm h2
  exact ⟨c, k', i, f, a, cell, by rw [hvm.findClass]; exact h1, hi', h3, by rw [he]; exact h4, h5, h6, h7, h8, by rw [he]; exact h9, h10⟩
theorem vx_L.kept {C n d : String} {A : Nat → Prop} {U : State} {H H1 : Heap} (h : vx_L C n d A U H) (hq : ∀ a : Nat, a < H.size → ¬ A a → H1[a]? = H[a]?) : vx_L C n d A U H1 := by
  obtain ⟨c, k, i, f, a, cell, h1, h2, h3, h4, h5, h6, h7, h8, h9, h10⟩ := h
  exact ⟨c, k, i, f, a, cell, h1, h2, h3, h4, by rw [hq a (Array.getElem?_eq_some_iff.mp h5).1 h10]; exact h5, h6, h7, h8, h9, h10⟩
theorem vx_L.narrow {C n d : String} {A B : Nat → Prop} {U : State} {H : Heap} (h : vx_L C n d A U H) (hAB : ∀ q, B q → A q) : vx_L C n d B U H := by
  obtain ⟨c, k, i, f, a, cell, h1, h2, h3, h4, h5, h6, h7, h8, h9, h10⟩ := h
  exact ⟨c, k, i, f, a, cell, h1, h2, h3, h4, h5, h6, h7, h8, h9, fun z => h10 (hAB _ z)⟩
theorem vx_L.word {C n d : String} {A : Nat → Prop} {s : State} {args : Array Value} (h : vx_L C n d A s s.heap) : (Cond.laysStatic C n d).before args s = true := by
  obtain ⟨c, k, i, f, a, cell, h1, h2, h3, h4, h5, h6, h7, h8, h9, -⟩ := h
  show (Cond.laysStatic C n d).holds args s none s [] = true
  exact Cond.laysStatic_of h1 h2 h3 h4 h5 h6 h7 h8 h9
/-- .. and what it holds: null or some reference -/
def vx_Zq (C n d : String) (A : Nat → Prop) (U : State) (H : Heap) : Prop := va_Zq C n d A U H ∧ vx_L C n d A U H
theorem vx_Zq.moved {C n d : String} {A : Nat → Prop} {u U : State} {H : Heap} (hvm : u.vm.Alike U.vm) (h : vx_Zq C n d A u H) : vx_Zq C n d A U H := ⟨va_Zq.moved hvm h.1, vx_L.moved hvm h.2⟩
theorem vx_Zq.kept {C n d : String} {A : Nat → Prop} {U : State} {H H1 : Heap} (h : vx_Zq C n d A U H) (hq : ∀ a : Nat, a < H.size → ¬ A a → H1[a]? = H[a]?) : vx_Zq C n d A U H1 := ⟨va_Zq.kept h.1 hq, vx_L.kept h.2 hq⟩
theorem vx_Zq.narrow {C n d : String} {A B : Nat → Prop} {U : State} {H : Heap} (h : vx_Zq C n d A U H) (hAB : ∀ q, B q → A q) : vx_Zq C n d B U H := ⟨va_Zq.narrow h.1 hAB, vx_L.narrow h.2 hAB⟩
theorem vx_Zqof {args : Array Value} {s : State} {C n d : String} {A : Nat → Prop} (hl : (Cond.laysStatic C n d).before args s = true) (hini : (Cond.initialized C).before args s = true) (h : (Cond.isRef (.static C n d)).before args s = true) (hA : ∀ a : Nat, a < s.heap.size → ¬ A a) : vx_Zq C n d A s s.heap := by
  refine ⟨va_Zqof hl hini h hA, ?_⟩
  obtain ⟨c, k, i, f, a, cell, h1, h2, h3, h4, h5, h6, h7, h8, h9⟩ := Cond.laysStatic_spec hl
  exact ⟨c, k, i, f, a, cell, h1, h2, h3, h4, h5, h6, h7, h8, h9, hA a (Array.getElem?_eq_some_iff.mp h5).1⟩
theorem vx_isRef {C n d : String} {v : Value} {A : Nat → Prop} {s : State} {args : Array Value} (h : va_Z C n d v A s s.heap) (hv : v.isRef = true) : (Cond.isRef (.static C n d)).before args s = true := by
  obtain ⟨cf, kf, fi, f, a, cell, h1, h2, h3, h4, h5, h6, h7, -⟩ := h
  have he : (Term.static C n d).eval args s none [] s = some v := by
    simp [Term.eval, State.fieldNamed?, h1, h2, h4, h5, h6, h7]
  simp only [Cond.before, Cond.holds, Cond.value, he]
  cases v <;> simp_all [Value.isRef]
theorem vx_isRefq {C n d : String} {A : Nat → Prop} {s : State} {args : Array Value} (h : va_Zq C n d A s s.heap) : (Cond.isRef (.static C n d)).before args s = true := by
  rcases h with h | ⟨t, h⟩
  · exact vx_isRef h rfl
  · exact vx_isRef h rfl
/-- the same frame, seen from here: as if the method were called anew in this heap -/
theorem vx_rebase {T : State} (X : Stand p l e R s m args below meth c T locs cells slots) {R' : Room} (hf : R'.frames ≤ R.frames) (hl : R'.locals ≤ R.locals) (hc : cells + R'.cells ≤ R.cells) (hs : slots + R'.slots ≤ R.slots) :
    Stand p l e R' ((T.setVm s.vm).setFrames (.invoking m args :: below)) m args below meth c T [] 0 0 := by
  have htop : (T.setVm s.vm).topJava?.isSome := X.here.top
  have hF : ((T.setVm s.vm).setFrames (.invoking m args :: below)).frames = .invoking m args :: below := State.frames_setFrames _ (State.cur_lt_of_top htop)
  obtain ⟨g₀, hg0⟩ := Option.isSome_iff_exists.mp htop
  obtain ⟨r, hr⟩ := State.topJava?_eq_some.mp hg0
  have hl9 : e.platform.stackLimits (T.setVm s.vm).me = e.platform.stackLimits s.me := X.limits
  have hb9 : (T.setVm s.vm).me.stackBytes = s.me.stackBytes := X.bytes
  refine ⟨X.admits, X.cas, X.clock, hF, ?_, X.hears, X.method, X.code, X.here, X.tail, X.warmed, ?_, ?_, ?_⟩
  · have h := X.room
    have hU : ((T.setVm s.vm).setFrames (.invoking m args :: below)).localsInUse = s.localsInUse := by
      rw [State.localsInUse_invoking hF (meth := meth) (c := c) X.method X.code, State.localsInUse_invoking X.frames X.method X.code]
    simp only [State.hasRoom, Bool.and_eq_true, decide_eq_true_eq] at h ⊢
    obtain ⟨⟨⟨⟨h1, h2, h3, h4, h5, h6⟩, h7⟩, h8⟩, h9⟩ := h
    rw [X.frames, List.length_cons] at h2 h3
    have q1 := X.heapSize
    have q2 := X.used
    simp only [hF, hU, List.length_cons, State.stackLimits_setFrames, State.stackBytes_setFrames, hl9, hb9]
    refine ⟨⟨⟨⟨by omega, by omega, by omega, by omega, by omega, h6⟩, ?_⟩, ?_⟩, X.book⟩
    · show T.heap.size + R'.cells ≤ e.platform.maxCells
      omega
    · show T.slotsUsed + R'.slots ≤ e.platform.maxSlots
      omega
  · rw [State.stackLimits_setFrames]; rfl
  · rw [State.stackBytes_setFrames]; rfl
  · refine ⟨?_, Nat.le_refl _, Nat.le_refl _, ?_, ?_, fun a c9 h9 => ⟨c9, h9, rfl, rfl, fun _ _ => rfl⟩⟩
    · obtain ⟨t, ht, -⟩ := State.frames_cons hr
      show T.setVm s.vm = { ((T.setVm s.vm).setFrames (.invoking m args :: below)).setFrames (T.setVm s.vm).frames with heap := T.heap, slotsUsed := T.slotsUsed }
      rw [State.setFrames_setFrames, State.setFrames_self ht]
      rfl
    · show T.slotsUsed = T.slotsUsed + ((T.heap.toList.drop T.heap.size).map (·.slots.size)).sum
      rw [List.drop_eq_nil_of_le (Nat.le_of_eq Array.length_toList)]
      rfl
    · show ((T.heap.toList.drop T.heap.size).map (·.slots.size)).sum ≤ 0
      rw [List.drop_eq_nil_of_le (Nat.le_of_eq Array.length_toList)]
      exact Nat.le_refl _
/-- 'throw new E()': new; dup; invokespecial; athrow -/
theorem vx_throw0 {cc : ByteArray} {pc : Nat} (hexec : p.tables.exec = Jvm.exec) (hb : c.code = cc) (hl : l.stackTraces = false) {own cls : String} {names : List String} {ik ic mc ms : Nat} {A : Nat → Prop}
    (hown : s.vm.findClass own = some m.cls) (hcls : Bundle.fit cls = true) (hnames : ∀ n ∈ names, Bundle.fit n = true)
    (hk : (Cond.classLink own ik cls).before args s = true) (hini : (Cond.initialized cls).before args s = true) (hat : ∀ w ∈ vx_at0 own ic cls names, w.before args s = true)
    (hgood : ∀ w ∈ Cond.classLink own ik cls :: Cond.initialized cls :: vx_at0 own ic cls names, vx_ot w = true)
    (hU : vx_Zq Bundle.tN "UNASSIGNED_STACK" Bundle.steD A s s.heap) (hN : vx_Zq Bundle.tN "SUPPRESSED_SENTINEL" Bundle.listD A s s.heap) (hS : va_S A s.heap H locs) (hsize : ls.size = c.maxLocals)
    (d0 : decode cc pc = .ok (.new ik, 3)) (d3 : decode cc (pc + 3) = .ok (.dup, 1)) (d4 : decode cc (pc + 4) = .ok (.invokespecial ic, 3)) (d7 : decode cc (pc + 7) = .ok (.athrow, 1))
    (hout : ∀ x ∈ c.exceptionTable.toList, covers x (pc + 7) = false)
    (hRframes : names.length + 3 < R.frames) (hRlocals : (rest.map fun v => v.category).sum + (13 * (names.length + 1) + 42) ≤ R.locals) (hRcells : cells + 1 ≤ R.cells) (hRslots : slots + 6 ≤ R.slots) (hlocks : meth.locks = false)
    (hx : ∀ t : State, s.vm.Alike t.vm → H.size ≤ t.heap.size → (∀ q : Nat, q < H.size → t.heap[q]? = H[q]?) → XC cls s t)
    (hf : ∀ z ∈ locs, free z.base) (hc : cells + 1 ≤ mc) (hs : slots + 6 ≤ ms) :
    W p l e R s m args below meth c H locs cells slots (vx_MQ below Qc XC args s mc ms free) (F0 m pc ls rest) := by
  intro T hT X
  have htr : e.platform.stackTraces = false := (show e.platform.stackTraces = l.stackTraces by rw [X.admits.platform]).trans hl
  have Y := vx_rebase X (R' := { frames := R.frames, locals := R.locals, cells := 1, slots := 6 }) (Nat.le_refl _) (Nat.le_refl _) hRcells hRslots
  obtain ⟨s', hA⟩ : ∃ z, z = (T.setVm s.vm).setFrames (.invoking m args :: below) := ⟨_, rfl⟩
  rw [← hA] at Y
  have hvm : s'.vm = s.vm := by rw [hA]; rfl
  have hhp : s'.heap = H := by rw [hA]; exact hT
  have hW0 : s.WarmedH s'.vm := by rw [hvm]; exact State.WarmedH.refl s
  have hat' : ∀ w ∈ vx_at0 own ic cls names, w.before args s' = true := fun w hw => vx_ot_at hW0 hvm.symm (hgood w (List.mem_cons_of_mem _ (List.mem_cons_of_mem _ hw))) (hat w hw)
  have hk' : (Cond.classLink own ik cls).before args s' = true := vx_ot_at hW0 hvm.symm (hgood _ List.mem_cons_self) hk
  have hini' : (Cond.initialized cls).before args s' = true := vx_ot_at hW0 hvm.symm (hgood _ (List.mem_cons_of_mem _ List.mem_cons_self)) hini
  have hU' : vx_Zq Bundle.tN "UNASSIGNED_STACK" Bundle.steD A s' s'.heap := by rw [hhp]; exact vx_Zq.moved hW0.alike (hU.kept hS.2.1)
  have hN' : vx_Zq Bundle.tN "SUPPRESSED_SENTINEL" Bundle.listD A s' s'.heap := by rw [hhp]; exact vx_Zq.moved hW0.alike (hN.kept hS.2.1)
  have h : ∀ w ∈ Bundle.ownAtoms0 own ic cls names, w.before args s' = true := vx_own hat' (vx_isRefq hU'.1) (vx_isRefq hN'.1) hU'.2.word hN'.2.word
  have hown' : s'.vm.findClass own = some m.cls := by rw [hvm]; exact hown
  have hins : (Cond.instantiable cls 6).before args s' = true := h _ (by simp [Bundle.ownAtoms0])
  obtain ⟨vm₁, cX, kX, hfX, hkX, -, -, X₁, st1⟩ := Y.newCold hexec (own := own) (C := cls) (index := ik) (n := 6) hown' hk' hins hini'
    (g := F0 m pc ls rest) rfl (by rw [hb]; exact d0) (Nat.le_refl _) (Nat.le_refl _)
  generalize hT1 : (T.setVm vm₁).pushCell { cls := cX, slots := kX.instanceTypes.map defaultValue, vm := .none } = T1 at X₁ st1
  have hcat : (Value.ref T.heap.size).category = 1 := rfl
  have hcellA : T1.heap[T.heap.size]? = some (freshCell cX kX) := by rw [← hT1]; exact State.heap_pushCell_size _ _
  have d3' : decode c.code (pc + 3) = .ok (.dup, 1) := by rw [hb]; exact d3
  obtain ⟨U, hsteps, hrun, hend, hW, hsame, ce, hce, hO⟩ := X₁.ctorThrow0 hexec htr (own := own) (cls := cls) (names := names) (ic := ic) hown' hcls hnames h (fun x hx => nomatch hx) hfX hkX hcellA (by rw [hhp, hT]; exact Nat.le_refl _)
    (g := { method := m, pc := pc + 4, locals := ls, stack := .ref T.heap.size :: .ref T.heap.size :: rest, locked := none }) rfl hsize rfl rfl (rest := rest) rfl
    (by rw [hb]; exact d4) (by rw [hb]; exact d7) hout hRframes (by simp only [List.map_cons, List.sum_cons, hcat]; omega) hlocks
  obtain ⟨f1, f2⟩ := vx_frame hsame
  rw [hhp] at f1 f2
  have hWs : s.WarmedH U.vm := State.WarmedH.trans hW0 hW
  have hcl : s.vm.findClass cls = some ce.cls := by
    have h9 := hO.cls
    rw [hvm] at h9
    exact h9
  have hall : s.sameButNew ({ U with vm := s.vm } : State) locs mc ms := by
    subst hA
    obtain ⟨e1, e2⟩ := hsame
    rw [State.setFrames_setFrames] at e1
    have h2 : (T.setVm s.vm).sameButNew ({ U with vm := s.vm } : State) [] (0 + 1) (0 + 6) := ⟨e1, e2⟩
    have h3 := X.same.trans h2
    rw [List.append_nil] at h3
    exact h3.mono hc hs
  refine ⟨U, ?_, .threw T.heap.size, hrun, hend, Or.inr ⟨T.heap.size, rfl, cls, ce, locs, hx U hWs.alike f1 (fun q hq => f2 q hq (fun z hz => nomatch hz)), hce, hO.vm, hcl, hWs, hall, hf⟩⟩
  refine st1 _ ?_
  show Steps p.tables e below (T1.setTop { method := m, pc := pc + 3, locals := ls, stack := .ref T.heap.size :: rest, locked := none }) _
  jvm_step X₁.here [X₁.here.top, hexec, d3', Value.category]
  exact hsteps
/-- 'throw new E("text")': new; dup; ldc; invokespecial; athrow -/
theorem vx_throwS {cc : ByteArray} {pc : Nat} (hexec : p.tables.exec = Jvm.exec) (hb : c.code = cc) (hl : l.stackTraces = false) {own cls text : String} {names : List String} {ik is ic mc ms sa : Nat} {A : Nat → Prop}
    (hown : s.vm.findClass own = some m.cls) (hcls : Bundle.fit cls = true) (hnames : ∀ n ∈ names, Bundle.fit n = true)
    (hk : (Cond.classLink own ik cls).before args s = true) (hini : (Cond.initialized cls).before args s = true) (hstr : vk_R own is text sa s) (hat : ∀ w ∈ vx_atS own ic cls names, w.before args s = true)
    (hgood : ∀ w ∈ Cond.classLink own ik cls :: Cond.initialized cls :: vx_atS own ic cls names, vx_ot w = true)
    (hU : vx_Zq Bundle.tN "UNASSIGNED_STACK" Bundle.steD A s s.heap) (hN : vx_Zq Bundle.tN "SUPPRESSED_SENTINEL" Bundle.listD A s s.heap) (hS : va_S A s.heap H locs) (hsize : ls.size = c.maxLocals)
    (d0 : decode cc pc = .ok (.new ik, 3)) (d3 : decode cc (pc + 3) = .ok (.dup, 1)) (d4 : decode cc (pc + 4) = .ok (.ldc is, 2)) (d6 : decode cc (pc + 6) = .ok (.invokespecial ic, 3)) (d9 : decode cc (pc + 9) = .ok (.athrow, 1))
    (hout : ∀ x ∈ c.exceptionTable.toList, covers x (pc + 9) = false)
    (hRframes : names.length + 3 < R.frames) (hRlocals : (rest.map fun v => v.category).sum + (13 * (names.length + 1) + 43) ≤ R.locals) (hRcells : cells + 1 ≤ R.cells) (hRslots : slots + 6 ≤ R.slots) (hlocks : meth.locks = false)
    (hx : ∀ t : State, s.vm.Alike t.vm → H.size ≤ t.heap.size → (∀ q : Nat, q < H.size → t.heap[q]? = H[q]?) → XC cls s t)
    (hf : ∀ z ∈ locs, free z.base) (hc : cells + 1 ≤ mc) (hs : slots + 6 ≤ ms) :
    W p l e R s m args below meth c H locs cells slots (vx_MQ below Qc XC args s mc ms free) (F0 m pc ls rest) := by
  intro T hT X
  have htr : e.platform.stackTraces = false := (show e.platform.stackTraces = l.stackTraces by rw [X.admits.platform]).trans hl
  have Y := vx_rebase X (R' := { frames := R.frames, locals := R.locals, cells := 1, slots := 6 }) (Nat.le_refl _) (Nat.le_refl _) hRcells hRslots
  obtain ⟨s', hA⟩ : ∃ z, z = (T.setVm s.vm).setFrames (.invoking m args :: below) := ⟨_, rfl⟩
  rw [← hA] at Y
  have hvm : s'.vm = s.vm := by rw [hA]; rfl
  have hhp : s'.heap = H := by rw [hA]; exact hT
  have hW0 : s.WarmedH s'.vm := by rw [hvm]; exact State.WarmedH.refl s
  have hat' : ∀ w ∈ vx_atS own ic cls names, w.before args s' = true := fun w hw => vx_ot_at hW0 hvm.symm (hgood w (List.mem_cons_of_mem _ (List.mem_cons_of_mem _ hw))) (hat w hw)
  have hk' : (Cond.classLink own ik cls).before args s' = true := vx_ot_at hW0 hvm.symm (hgood _ List.mem_cons_self) hk
  have hini' : (Cond.initialized cls).before args s' = true := vx_ot_at hW0 hvm.symm (hgood _ (List.mem_cons_of_mem _ List.mem_cons_self)) hini
  have hU' : vx_Zq Bundle.tN "UNASSIGNED_STACK" Bundle.steD A s' s'.heap := by rw [hhp]; exact vx_Zq.moved hW0.alike (hU.kept hS.2.1)
  have hN' : vx_Zq Bundle.tN "SUPPRESSED_SENTINEL" Bundle.listD A s' s'.heap := by rw [hhp]; exact vx_Zq.moved hW0.alike (hN.kept hS.2.1)
  have h : ∀ w ∈ Bundle.ownAtoms own ic cls names, w.before args s' = true := vx_own hat' (vx_isRefq hU'.1) (vx_isRefq hN'.1) hU'.2.word hN'.2.word
  have hown' : s'.vm.findClass own = some m.cls := by rw [hvm]; exact hown
  have hins : (Cond.instantiable cls 6).before args s' = true := h _ (by simp [Bundle.ownAtoms])
  obtain ⟨vm₁, cX, kX, hfX, hkX, -, -, X₁, st1⟩ := Y.newCold hexec (own := own) (C := cls) (index := ik) (n := 6) hown' hk' hins hini'
    (g := F0 m pc ls rest) rfl (by rw [hb]; exact d0) (Nat.le_refl _) (Nat.le_refl _)
  generalize hT1 : (T.setVm vm₁).pushCell { cls := cX, slots := kX.instanceTypes.map defaultValue, vm := .none } = T1 at X₁ st1
  have hcat : (Value.ref T.heap.size).category = 1 := rfl
  have hcellA : T1.heap[T.heap.size]? = some (freshCell cX kX) := by rw [← hT1]; exact State.heap_pushCell_size _ _
  have d3' : decode c.code (pc + 3) = .ok (.dup, 1) := by rw [hb]; exact d3
  have d4' : decode c.code (pc + 4) = .ok (.ldc is, 2) := by rw [hb]; exact d4
  have hstr' : vk_R own is text sa s' := vk_R.warm hW0 hstr
  obtain ⟨U, hsteps, hrun, hend, hW, hsame, ce, hce, hO⟩ := X₁.ctorThrowS hexec htr (own := own) (cls := cls) (names := names) (ic := ic) hown' hcls hnames h (fun x hx => nomatch hx) hfX hkX hcellA (by rw [hhp, hT]; exact Nat.le_refl _) (msg := .ref sa) rfl
    (g := { method := m, pc := pc + 6, locals := ls, stack := .ref sa :: .ref T.heap.size :: .ref T.heap.size :: rest, locked := none }) rfl hsize rfl rfl (rest := rest) rfl
    (by rw [hb]; exact d6) (by rw [hb]; exact d9) hout hRframes (by simp only [List.map_cons, List.sum_cons, hcat]; omega) hlocks
  obtain ⟨f1, f2⟩ := vx_frame hsame
  rw [hhp] at f1 f2
  have hWs : s.WarmedH U.vm := State.WarmedH.trans hW0 hW
  have hcl : s.vm.findClass cls = some ce.cls := by
    have h9 := hO.cls
    rw [hvm] at h9
    exact h9
  have hall : s.sameButNew ({ U with vm := s.vm } : State) locs mc ms := by
    subst hA
    obtain ⟨e1, e2⟩ := hsame
    rw [State.setFrames_setFrames] at e1
    have h2 : (T.setVm s.vm).sameButNew ({ U with vm := s.vm } : State) [] (0 + 1) (0 + 6) := ⟨e1, e2⟩
    have h3 := X.same.trans h2
    rw [List.append_nil] at h3
    exact h3.mono hc hs
  refine ⟨U, ?_, .threw T.heap.size, hrun, hend, Or.inr ⟨T.heap.size, rfl, cls, ce, locs, hx U hWs.alike f1 (fun q hq => f2 q hq (fun z hz => nomatch hz)), hce, hO.vm, hcl, hWs, hall, hf⟩⟩
  refine st1 _ ?_
  show Steps p.tables e below (T1.setTop { method := m, pc := pc + 3, locals := ls, stack := .ref T.heap.size :: rest, locked := none }) _
  jvm_step X₁.here [X₁.here.top, hexec, d3', Value.category]
  exact X₁.ldcString hexec (own := own) (text := text) (index := is) (a := sa) hown' hstr'.1 hstr'.2
    (g := { method := m, pc := pc + 4, locals := ls, stack := .ref T.heap.size :: .ref T.heap.size :: rest, locked := none }) rfl d4' _ hsteps
/-- 'throw new E("text")', the text by a wide index -/
theorem vx_throwSW {cc : ByteArray} {pc : Nat} (hexec : p.tables.exec = Jvm.exec) (hb : c.code = cc) (hl : l.stackTraces = false) {own cls text : String} {names : List String} {ik is ic mc ms sa : Nat} {A : Nat → Prop}
    (hown : s.vm.findClass own = some m.cls) (hcls : Bundle.fit cls = true) (hnames : ∀ n ∈ names, Bundle.fit n = true)
    (hk : (Cond.classLink own ik cls).before args s = true) (hini : (Cond.initialized cls).before args s = true) (hstr : vk_R own is text sa s) (hat : ∀ w ∈ vx_atS own ic cls names, w.before args s = true)
    (hgood : ∀ w ∈ Cond.classLink own ik cls :: Cond.initialized cls :: vx_atS own ic cls names, vx_ot w = true)
    (hU : vx_Zq Bundle.tN "UNASSIGNED_STACK" Bundle.steD A s s.heap) (hN : vx_Zq Bundle.tN "SUPPRESSED_SENTINEL" Bundle.listD A s s.heap) (hS : va_S A s.heap H locs) (hsize : ls.size = c.maxLocals)
    (d0 : decode cc pc = .ok (.new ik, 3)) (d3 : decode cc (pc + 3) = .ok (.dup, 1)) (d4 : decode cc (pc + 4) = .ok (.ldc_w is, 3)) (d7 : decode cc (pc + 7) = .ok (.invokespecial ic, 3)) (d10 : decode cc (pc + 10) = .ok (.athrow, 1))
    (hout : ∀ x ∈ c.exceptionTable.toList, covers x (pc + 10) = false)
    (hRframes : names.length + 3 < R.frames) (hRlocals : (rest.map fun v => v.category).sum + (13 * (names.length + 1) + 43) ≤ R.locals) (hRcells : cells + 1 ≤ R.cells) (hRslots : slots + 6 ≤ R.slots) (hlocks : meth.locks = false)
    (hx : ∀ t : State, s.vm.Alike t.vm → H.size ≤ t.heap.size → (∀ q : Nat, q < H.size → t.heap[q]? = H[q]?) → XC cls s t)
    (hf : ∀ z ∈ locs, free z.base) (hc : cells + 1 ≤ mc) (hs : slots + 6 ≤ ms) :
    W p l e R s m args below meth c H locs cells slots (vx_MQ below Qc XC args s mc ms free) (F0 m pc ls rest) := by
  intro T hT X
  have htr : e.platform.stackTraces = false := (show e.platform.stackTraces = l.stackTraces by rw [X.admits.platform]).trans hl
  have Y := vx_rebase X (R' := { frames := R.frames, locals := R.locals, cells := 1, slots := 6 }) (Nat.le_refl _) (Nat.le_refl _) hRcells hRslots
  obtain ⟨s', hA⟩ : ∃ z, z = (T.setVm s.vm).setFrames (.invoking m args :: below) := ⟨_, rfl⟩
  rw [← hA] at Y
  have hvm : s'.vm = s.vm := by rw [hA]; rfl
  have hhp : s'.heap = H := by rw [hA]; exact hT
  have hW0 : s.WarmedH s'.vm := by rw [hvm]; exact State.WarmedH.refl s
  have hat' : ∀ w ∈ vx_atS own ic cls names, w.before args s' = true := fun w hw => vx_ot_at hW0 hvm.symm (hgood w (List.mem_cons_of_mem _ (List.mem_cons_of_mem _ hw))) (hat w hw)
  have hk' : (Cond.classLink own ik cls).before args s' = true := vx_ot_at hW0 hvm.symm (hgood _ List.mem_cons_self) hk
  have hini' : (Cond.initialized cls).before args s' = true := vx_ot_at hW0 hvm.symm (hgood _ (List.mem_cons_of_mem _ List.mem_cons_self)) hini
  have hU' : vx_Zq Bundle.tN "UNASSIGNED_STACK" Bundle.steD A s' s'.heap := by rw [hhp]; exact vx_Zq.moved hW0.alike (hU.kept hS.2.1)
  have hN' : vx_Zq Bundle.tN "SUPPRESSED_SENTINEL" Bundle.listD A s' s'.heap := by rw [hhp]; exact vx_Zq.moved hW0.alike (hN.kept hS.2.1)
  have h : ∀ w ∈ Bundle.ownAtoms own ic cls names, w.before args s' = true := vx_own hat' (vx_isRefq hU'.1) (vx_isRefq hN'.1) hU'.2.word hN'.2.word
  have hown' : s'.vm.findClass own = some m.cls := by rw [hvm]; exact hown
  have hins : (Cond.instantiable cls 6).before args s' = true := h _ (by simp [Bundle.ownAtoms])
  obtain ⟨vm₁, cX, kX, hfX, hkX, -, -, X₁, st1⟩ := Y.newCold hexec (own := own) (C := cls) (index := ik) (n := 6) hown' hk' hins hini'
    (g := F0 m pc ls rest) rfl (by rw [hb]; exact d0) (Nat.le_refl _) (Nat.le_refl _)
  generalize hT1 : (T.setVm vm₁).pushCell { cls := cX, slots := kX.instanceTypes.map defaultValue, vm := .none } = T1 at X₁ st1
  have hcat : (Value.ref T.heap.size).category = 1 := rfl
  have hcellA : T1.heap[T.heap.size]? = some (freshCell cX kX) := by rw [← hT1]; exact State.heap_pushCell_size _ _
  have d3' : decode c.code (pc + 3) = .ok (.dup, 1) := by rw [hb]; exact d3
  have d4' : decode c.code (pc + 4) = .ok (.ldc_w is, 3) := by rw [hb]; exact d4
  have hstr' : vk_R own is text sa s' := vk_R.warm hW0 hstr
  obtain ⟨U, hsteps, hrun, hend, hW, hsame, ce, hce, hO⟩ := X₁.ctorThrowS hexec htr (own := own) (cls := cls) (names := names) (ic := ic) hown' hcls hnames h (fun x hx => nomatch hx) hfX hkX hcellA (by rw [hhp, hT]; exact Nat.le_refl _) (msg := .ref sa) rfl
    (g := { method := m, pc := pc + 7, locals := ls, stack := .ref sa :: .ref T.heap.size :: .ref T.heap.size :: rest, locked := none }) rfl hsize rfl rfl (rest := rest) rfl
    (by rw [hb]; exact d7) (by rw [hb]; exact d10) hout hRframes (by simp only [List.map_cons, List.sum_cons, hcat]; omega) hlocks
  obtain ⟨f1, f2⟩ := vx_frame hsame
  rw [hhp] at f1 f2
  have hWs : s.WarmedH U.vm := State.WarmedH.trans hW0 hW
  have hcl : s.vm.findClass cls = some ce.cls := by
    have h9 := hO.cls
    rw [hvm] at h9
    exact h9
  have hall : s.sameButNew ({ U with vm := s.vm } : State) locs mc ms := by
    subst hA
    obtain ⟨e1, e2⟩ := hsame
    rw [State.setFrames_setFrames] at e1
    have h2 : (T.setVm s.vm).sameButNew ({ U with vm := s.vm } : State) [] (0 + 1) (0 + 6) := ⟨e1, e2⟩
    have h3 := X.same.trans h2
    rw [List.append_nil] at h3
    exact h3.mono hc hs
  refine ⟨U, ?_, .threw T.heap.size, hrun, hend, Or.inr ⟨T.heap.size, rfl, cls, ce, locs, hx U hWs.alike f1 (fun q hq => f2 q hq (fun z hz => nomatch hz)), hce, hO.vm, hcl, hWs, hall, hf⟩⟩
  refine st1 _ ?_
  show Steps p.tables e below (T1.setTop { method := m, pc := pc + 3, locals := ls, stack := .ref T.heap.size :: rest, locked := none }) _
  jvm_step X₁.here [X₁.here.top, hexec, d3', Value.category]
  exact X₁.ldcStringW hexec (own := own) (text := text) (index := is) (a := sa) hown' hstr'.1 hstr'.2
    (g := { method := m, pc := pc + 4, locals := ls, stack := .ref T.heap.size :: .ref T.heap.size :: rest, locked := none }) rfl d4' _ hsteps
end Ends
section Bodies
variable {l : Launch}
theorem vx_ofW {y : MethodName} {ws ws' : List Cond} {rm : Room} {Pc : Array Value → State → Prop} {Qc : Array Value → State → Outcome → State → Prop} {XC : String → State → State → Prop} {mc ms : Nat} {free : Addr → Prop} {cc : ByteArray} {maxL : Nat} {ret : Option FieldType}
    (hy : plainName y.cls = true) (hw : ws = Cond.code y cc maxL ret :: ws')
    (body : ∀ p e s m args below meth c s₁, BodyLoose p l y (headSpec ws rm) cc maxL ret e s m args below meth c s₁ → c.maxLocals = maxL → (∀ x ∈ c.exceptionTable.toList, False) → Pc args s →
      W p l e (headSpec ws rm).room s m args below meth c s.heap [] 0 0 (vx_MQ below Qc XC args s mc ms free) (entryFrame m args maxL)) : vx_Met l y ws rm Pc Qc XC mc ms free := by
  refine MetFree.of_bodyS (code := cc) (maxLocals := maxL) (ret := ret) hy ?_ ?_
  · intro args s m h hn
    obtain ⟨meth, c, h1, h2, h3, h4, h5, h6, -, -⟩ := Cond.code_spec hn (atoms_spec (ws := ws) h _ (by rw [hw]; exact List.mem_cons_self))
    exact ⟨meth, c, h1, h2, h3, h4, h5, h6⟩
  · intro p e s m args below meth c s₁ B hml hP _
    have hh0 : s₁.heap = s.heap := by rw [B.state]; rfl
    have ht : ∀ x ∈ c.exceptionTable.toList, False := by
      obtain ⟨meth9, c9, h1, h2, -, -, -, -, h7, -⟩ := Cond.code_spec B.named (atoms_spec (ws := ws) B.pre _ (by rw [hw]; exact List.mem_cons_self))
      cases Option.some.inj (h1.symm.trans B.method)
      cases Option.some.inj (h2.symm.trans (Stand.of_body B).code)
      intro x hx
      rw [Array.isEmpty_iff.mp h7] at hx
      cases hx
    obtain ⟨t, a1, o, b1, b2, b3⟩ := body p e s m args below meth c s₁ B hml ht hP s₁ hh0 (Stand.of_body B)
    exact ⟨t, o, a1, b1, b2, b3⟩
/-- the table of a body with handlers -/
theorem vx_table {p : Program} {x y : MethodName} {S : Spec} {cc bytes : ByteArray} {maxL maxL' : Nat} {ret ret' : Option FieldType} {e : Env} {s s₁ : State} {m : MethodId} {args : Array Value} {below : List Frame} {meth : Method} {c : Code} {hh : List (Nat × Nat × Nat × Nat)}
    (B : BodyLoose p l y S cc maxL ret e s m args below meth c s₁) (h : (Cond.codeWith y bytes maxL' ret' hh).before args s = true) : c.exceptionTable.toList = tableOf hh := by
  obtain ⟨m9, meth9, c9, hn9, h1, h2, -, -, h6, -⟩ := Cond.codeWith_spec h
  cases Option.some.inj (hn9.symm.trans B.named)
  cases Option.some.inj (h1.symm.trans B.method)
  cases Option.some.inj (h2.symm.trans (Stand.of_body B).code)
  rw [← h6, table_eq]
end Bodies
end VXA
/-! ===== END ===== -/
/-! ===== BEGIN a static call of a method with an exception table ===== -/
section VXS
variable {p : Program} {l : Launch} {e : Env} {R : Room} {s : State} {m : MethodId} {args : Array Value} {below : List Frame} {meth : Method} {c : Code} {T : State} {H : Heap} {locs : List Loc} {cells slots : Nat}
abbrev vx_CSW (R : Room) (s : State) (args : Array Value) (own : String) (index : Nat) (y : MethodName) (bytes : ByteArray) (maxL : Nat) (ret : Option FieldType) (hh : List (Nat × Nat × Nat × Nat)) (ws : List Cond) (rm : Room) (mc ms n : Nat) : Prop :=
  (rm.cells = mc ∧ rm.slots = ms ∧ rm.frames + 1 ≤ R.frames ∧ 8 + (maxL + 11) + rm.locals ≤ R.locals ∧ (∀ w ∈ ws, ∀ (a' : Array Value) (U : State), s.WarmedH U.vm → w.before a' U = true) ∧ Cond.codeWith y bytes maxL ret hh ∈ ws) ∧
  (Cond.codeWith y bytes maxL ret hh).before args s = true ∧ (Cond.initialized y.cls).before args s = true ∧ (y.cls ≠ "java/lang/invoke/MethodHandle" ∧ y.cls ≠ "java/lang/invoke/VarHandle") ∧
  (∀ sig, parseMethodDescriptor y.desc = some sig → n = sig.parameters.length) ∧ (Cond.methodLink own index y).before args s = true ∧ (Cond.static y).before args s = true
theorem vx_cwSW {own : String} {index maxL mc ms : Nat} {y : MethodName} {bytes : ByteArray} {ret : Option FieldType} {hh : List (Nat × Nat × Nat × Nat)} {Ts ws ws' : List Cond} {rm : Room} (n : Nat) (ht : ∀ w ∈ Ts, w.before args s = true) (hT : GoodIn Ts (va_wsS own index y ws)) (hw : ws = Cond.codeWith y bytes maxL ret hh :: ws') (hrc : rm.cells = mc) (hrs : rm.slots = ms)
    (hd : y.cls ≠ "java/lang/invoke/MethodHandle" ∧ y.cls ≠ "java/lang/invoke/VarHandle" ∧ (parseMethodDescriptor y.desc).map (fun d => d.parameters.length) = some n) (hR : rm.frames + 1 ≤ R.frames ∧ 8 + (maxL + 11) + rm.locals ≤ R.locals) :
    vx_CSW R s args own index y bytes maxL ret hh ws rm mc ms n := by
  have ok : ∀ w ∈ va_wsS own index y ws, w.before args s = true := fun w h => ht w (hT w h).1
  have hG : GoodIn Ts ws := fun w h => hT w (by unfold va_wsS; exact List.mem_append_right _ h)
  have hc : Cond.codeWith y bytes maxL ret hh ∈ ws := by rw [hw]; exact List.mem_cons_self
  refine ⟨⟨hrc, hrs, hR.1, hR.2, pay_in ht hG, hc⟩, ht _ (hG _ hc).1, ok _ (by simp [va_wsS]), ⟨hd.1, hd.2.1⟩, fun sig h => ?_, ok _ (by simp [va_wsS]), ok _ (by simp [va_wsS])⟩
  have h2 := hd.2.2
  rw [h] at h2
  exact (Option.some.inj h2).symm
theorem vx_callSW (X : Stand p l e R s m args below meth c T locs cells slots) (hexec : p.tables.exec = Jvm.exec) {own : String} {index : Nat} {y : MethodName} {bytes : ByteArray} {maxL : Nat} {ret : Option FieldType} {hh : List (Nat × Nat × Nat × Nat)}
    (hown : s.vm.findClass own = some m.cls) (hlink : (Cond.methodLink own index y).before args s = true) (hstat : (Cond.static y).before args s = true) (hinit : (Cond.initialized y.cls).before args s = true)
    (hcode : (Cond.codeWith y bytes maxL ret hh).before args s = true) (hy : y.cls ≠ "java/lang/invoke/MethodHandle" ∧ y.cls ≠ "java/lang/invoke/VarHandle")
    {W9 : Nat} {Pre : Pt → Array Value → Prop} {Post : Pt → Array Value → Option Value → Pt → Prop} (hK : Back l R p e below s args y 3 W9 Pre Post)
    {g : JFrame} (hg : g.method = m) (hsize : g.locals.size = c.maxLocals) {argsL rest : List Value} (hlen : ∀ sig, parseMethodDescriptor y.desc = some sig → argsL.length = sig.parameters.length)
    (hstack : g.stack = argsL.reverse ++ rest) (hW : 2 * g.monitorRoom + (rest.map fun v => v.category).sum ≤ W9) (hdg : decode c.code g.pc = .ok (.invokestatic index, 3))
    (hpre : ∀ vm₁, s.WarmedH vm₁ → Pre ⟨T.setVm vm₁, locs, cells, slots⟩ argsL.toArray) :
    ∃ (v : Option Value) (vm₁ : Vm) (B : Pt), s.WarmedH vm₁ ∧ Stand p l e R s m args below meth c B.U B.locs B.cells B.slots ∧ Post ⟨T.setVm vm₁, locs, cells, slots⟩ argsL.toArray v B ∧
      ∀ target, Steps p.tables e below (B.U.setTop { g with pc := g.pc + 3, stack := v.toList ++ rest }) target → Steps p.tables e below (T.setTop g) target := by
  obtain ⟨mk, methM, cM, hnamed, hmethM, -, -, -, -, -, -, hsigM⟩ := Cond.codeWith_spec hcode
  have hstatic : methM.isStatic = true := Cond.static_spec hnamed hmethM hstat
  obtain ⟨kP, hkP, -⟩ := className_of_methodNamed hnamed
  have hinitP : kP.init = .initialized := Cond.initialized_spec (findClass_of_methodNamed hnamed) hkP hinit
  obtain ⟨vm₁, X₁, hstep₁⟩ := X.invokestatic hexec hown hlink hnamed hmethM hstatic hkP hinitP hy (g := g) hg (argsL := argsL) (rest := rest) (hlen _ hsigM) hstack hdg
  obtain ⟨v, B, X', hpost, hsteps⟩ := hK m meth c ⟨T.setVm vm₁, locs, cells, slots⟩ { g with stack := rest } (.invokestatic index) mk argsL.toArray X₁ hg hsize hdg hW (X₁.named hnamed) (hpre vm₁ X₁.warmed)
  exact ⟨v, vm₁, B, X₁.warmed, X', hpost, fun target h => hstep₁ _ fun acts => by rw [doInvoke_state]; exact hsteps.trans h⟩
theorem vx_runSW {y : MethodName} {bytes cc : ByteArray} {maxL nL mc ms n index : Nat} {ret : Option FieldType} {hh : List (Nat × Nat × Nat × Nat)} {ws : List Cond} {rm : Room} {Pc : Array Value → State → Prop} {Qc : Array Value → State → Outcome → State → Prop} {free : Addr → Prop} {Ts : List Cond} {own : String} {As rest : List Value} {g : JFrame}
    (S : CallFix p m c cc nL s args Ts own) (hM : Met l y ws rm Pc Qc mc ms free) (cw : vx_CSW R s args own index y bytes maxL ret hh ws rm mc ms n) (hp : PreS s H Pc As)
    (hg : g.method = m) (hn : As.length = n) (hsize : g.locals.size = nL) (hstack : g.stack = As.reverse ++ rest) (hW : 2 * g.monitorRoom + (rest.map fun v => v.category).sum ≤ 8) (hdg : decode cc g.pc = .ok (.invokestatic index, 3)) (hf : cells + mc ≤ R.cells ∧ slots + ms ≤ R.slots) :
    va_Run p l e R s m args below meth c H locs cells slots mc ms g rest (Qc As.toArray) (free) := by
  obtain ⟨⟨hrc, hrs, hfr, hlo, hws, hcw⟩, hcode, hini, hy, hlen, hl, hstt⟩ := cw
  have hK : Back l R p e below s args y 3 8 (PreOf R mc ms Pc) (PostOf Qc mc ms free) := va_backW (hh := hh) (bytes := bytes) (maxL := maxL) (ret := ret) hM hp.1 hrc hrs hfr hlo hws hcw (fun a' U hW => word_at hW (Or.inl (by first | rfl | simp [Cond.onTables, Cond.keeps, Cond.steady])) hini)
  obtain ⟨hx, hb, hml, ho, -⟩ := S
  intro T hT X
  obtain ⟨v, vm₁, ⟨U', l2, c2, s2⟩, hW₁, X', ⟨g', mk, t, L, e1, e2, hq, h1, hL, h2, h3⟩, st⟩ := vx_callSW X hx (hh := hh) (bytes := bytes) (maxL := maxL) (ret := ret) ho hl hstt hini hcode hy hK hg (hsize.trans hml.symm) (argsL := As) (rest := rest) (fun sig h => hn.trans (hlen sig h)) hstack hW (by rw [hb]; exact hdg)
    (fun vm₁ hW₁ => ⟨hf.1, hf.2, hp.2 (T.setVm vm₁) hT hW₁⟩)
  dsimp only [Pt.U, Pt.locs, Pt.cells, Pt.slots] at X' e1 e2 h1 h2 h3 st
  subst h1; subst h2; subst h3
  exact ⟨v, (T.setVm vm₁).calling g' mk As.toArray, t, U', L, hT, X', hL, e1, e2, hq, st⟩
/-- not caught here, past rows that name other classes: it goes on to the caller -/
theorem vx_outP {p : Program} {l : Launch} {e : Env} {R : Room} {s : State} {m : MethodId} {args : Array Value} {below : List Frame} {meth : Method} {c : Code} {H : Heap} {locs : List Loc} {cells slots : Nat} {free : Addr → Prop} {ls : Array Slot} {rest : List Value} {Qc : Array Value → State → Outcome → State → Prop} {XC : String → State → State → Prop}
    {pc : Nat} {own E : String} {ce : Cell} {q : Addr} {mc ms : Nat} (hown : s.vm.findClass own = some m.cls) (hlocks : meth.locks = false)
    (hpass : ∀ z ∈ c.exceptionTable.toList, covers z pc = false ∨ (z.catchType ≠ 0 ∧ ∃ nm : String, (Cond.classLink own z.catchType nm).before args s = true ∧ va_Nc E nm s)) (hcell : H[q]? = some ce) (hv : ce.vm = .none) (hcl : s.vm.findClass E = some ce.cls)
    (hx : ∀ t : State, t.heap = H → s.vm.Alike t.vm → XC E s t) (hf : ∀ z ∈ locs, free z.base) (hc : cells ≤ mc) (hs : slots ≤ ms) :
    vx_W p l e R s m args below meth c H locs cells slots (vx_MQ below Qc XC args s mc ms free) (F0 m pc ls rest) q := by
  intro T hT X
  have hpl : e.platform.magicAccessors = ({} : Platform).magicAccessors := by rw [X.admits.platform]
  obtain ⟨vm', hW', X', st⟩ := X.outThrough hlocks q (g := F0 m pc ls rest) rfl rfl rfl (cell := ce) (by rw [hT]; exact hcell) (by rw [hv]; rfl)
    (by obtain ⟨k9, h9, -⟩ := Vm.findClass_spec hcl; exact ⟨k9, h9⟩) (fun z hz => by
      rcases hpass z hz with h | ⟨hz0, nm, hl1, hn1⟩
      · exact Or.inl h
      · obtain ⟨c6, hc6, hcl6⟩ := Cond.classLink_spec hown hl1 e.platform hpl
        obtain ⟨a8, b8, h1, h2, h3⟩ := hn1
        cases Option.some.inj (h1.symm.trans hcl)
        cases Option.some.inj (h2.symm.trans hc6)
        exact Or.inr ⟨hz0, _, hcl6, h3⟩)
  obtain ⟨g₀, hfr⟩ := X'.frames_eq
  have hcell9 : ((T.setVm vm').setFrames (.throwing q :: below)).heap[q]? = some ce := by
    show T.heap[q]? = some ce
    rw [hT]; exact hcell
  have hend : Ended ((T.setVm vm').setFrames (.throwing q :: below)) below (.threw q) := State.frames_setFrames _ (State.cur_lt_of_frames hfr)
  refine ⟨(T.setVm vm').setFrames (.throwing q :: below), ?_, .threw q, X'.here.running, hend, Or.inr ⟨q, rfl, E, ce, locs, hx _ hT (X'.ends _).1.alike, hcell9, hv, hcl, (X'.ends _).1, (X'.ends _).2.mono hc hs, hf⟩⟩
  rw [X.pushThrowing_eq]
  exact st
/-- a thing of a world lies in the heap -/
theorem vx_lt {D : va_G} {cl : List vw_C} {ws : va_W} {H1 : Heap} (h : va_P D cl ws H1) {k : Nat} {q : Nat × va_E} (hk : ws[k]? = some q) : q.1 < H1.size := (h k q hk).lt
end VXS
/-! ===== END ===== -/
/-! ===== BEGIN methods with a table of their own: called by a name, returning or throwing ===== -/
section VXH
/-! vx_backW, vx_callVX, vx_callSX, vx_callVW, vx_runVW, vx_runVX, vx_runSX, vx_ofWH follow the same proofs as their sisters above (Free/Laws.lean, Shelf42/LK1.lean); vx_outP calls Shelf42/NT130.lean (outThrough). -/
section
variable {l : Launch} {R : Room} {p : Program} {e : Env} {below : List Frame} {s : State} {sargs : Array Value} {y : MethodName} {len W9 : Nat}
theorem vx_backW {ws : List Cond} {rm : Room} {Pc : Array Value → State → Prop} {Qc : Array Value → State → Outcome → State → Prop} {XC : String → State → State → Prop} {mc ms : Nat} {free : Addr → Prop} {bytes : ByteArray} {maxL : Nat} {ret : Option FieldType} {hh : List (Nat × Nat × Nat × Nat)}
    (hM : vx_Met l y ws rm Pc Qc XC mc ms free) (hblind : FrameBlind Pc) (hrc : rm.cells = mc) (hrs : rm.slots = ms)
    (hframes : rm.frames + 1 ≤ R.frames) (hlocals : W9 + (maxL + 11) + rm.locals ≤ R.locals)
    (hws : ∀ w ∈ ws, ∀ a' U, s.WarmedH U.vm → w.before a' U = true) (hcode : Cond.codeWith y bytes maxL ret hh ∈ ws) (hinit : ∀ a' U, s.WarmedH U.vm → (Cond.initialized y.cls).before a' U = true) :
    vx_Back l R p e below s sargs y len W9 (PreOf R mc ms Pc) (PostOf Qc mc ms free) (vx_Post XC mc ms free) := by
  intro m meth c A g ig mk a X hg hsize hdg hW hn hp
  have h1 : (headSpec ws rm).pre.before a A.U = true := atoms_intro fun w hw => hws w hw _ _ X.warmed
  have h2 : (Cond.codeWith y bytes maxL ret hh).before a A.U = true := hws _ hcode _ _ X.warmed
  have h3 : (Cond.initialized y.cls).before a A.U = true := hinit _ _ X.warmed
  have h4 : A.cells + (headSpec ws rm).room.cells ≤ R.cells := by rw [show (headSpec ws rm).room.cells = mc from hrc]; exact hp.1
  have h5 : A.slots + (headSpec ws rm).room.slots ≤ R.slots := by rw [show (headSpec ws rm).room.slots = ms from hrs]; exact hp.2.1
  have hPc : Pc a (A.U.calling g mk a) := hblind _ _ _ _ hp.2.2
  obtain ⟨U, Ls, c0, s0⟩ := A
  dsimp only [Pt.U, Pt.locs, Pt.cells, Pt.slots] at h1 h2 h3 h4 h5 X hn hPc ⊢
  obtain ⟨m9, methY, cY, hn9, hmY, hcY, -, hlY, -⟩ := Cond.codeWith_spec h2
  cases Option.some.inj (hn9.symm.trans hn)
  obtain ⟨kY, hkY, -⟩ := className_of_methodNamed hn
  have hinitY : kY.init = .initialized := Cond.initialized_spec (findClass_of_methodNamed hn) hkY h3
  have h : At U g.method c below := by rw [hg]; exact X.here
  have hlocals9 : W9 + (maxL + 11) + (headSpec ws rm).room.locals ≤ R.locals := hlocals
  have happ : (headSpec ws rm).appliesLoose y e.platform (U.calling g mk a) = true :=
    Spec.appliesLoose_calling (g := g) h hdg hn hkY hinitY
      (X.room_calling (g := g) (R' := (headSpec ws rm).room) hsize hmY hcY hframes (by rw [hlY]; omega) h4 h5) h1
  obtain ⟨mid, hmid⟩ := h.above
  have hfr : (U.setTop g).frames = (.java g :: mid) ++ below := by rw [State.frames_setTop' g h.top, hmid]; rfl
  obtain ⟨o, s₂, hsteps, -, hend, hq⟩ := Steps.callFree hM p X.admits X.cas X.clock (acts := []) hfr happ hPc trivial
  have hq' : vx_Q Qc XC mc ms free a (U.calling g mk a) o s₂ := hq
  rw [State.frames_setTop' g h.top] at hend
  obtain ⟨g₀, hg0⟩ := Option.isSome_iff_exists.mp h.top
  obtain ⟨r, hr⟩ := State.topJava?_eq_some.mp hg0
  have hr' : (({ U with heap := s₂.heap, slotsUsed := s₂.slotsUsed } : State).setVm s₂.vm).frames = .java g₀ :: r := hr
  rcases hq' with ⟨hqc, L, hfe, hL⟩ | ⟨q, rfl, E, ce, L, hx, hce, hcv, hcl, hW₂, hsm, hL⟩
  · obtain ⟨⟨v, rfl⟩, hW₂, e2, q2, q3, q4, q5, q6⟩ := id hfe
    have e3 : s₂ = ({ (U.calling g mk a).setFrames s₂.frames with heap := s₂.heap, slotsUsed := s₂.slotsUsed } : State).setVm s₂.vm := by
      have : s₂ = ({ s₂ with vm := (U.calling g mk a).vm } : State).setVm s₂.vm := rfl
      rw [e2] at this
      exact this
    obtain ⟨c₂, i₂, len₂, hc₂, hd₂, hf₂⟩ := hend
    have hW' : U.WarmedH s₂.vm := hW₂
    have hcc : c₂ = c := by
      have h1 : s₂.code? g.method = U.code? g.method := by
        rw [State.code?_eq, State.code?_eq, hW'.alike.method?]
      exact Option.some.inj (hc₂.symm.trans (h1.trans h.code))
    subst hcc
    have hlen : len₂ = len := by rw [hdg] at hd₂; cases hd₂; rfl
    subst hlen
    have hs₂ : s₂ = (({ U with heap := s₂.heap, slotsUsed := s₂.slotsUsed } : State).setVm s₂.vm).setTop { g with pc := g.pc + len₂, stack := v.toList ++ g.stack } := by
      refine e3.trans ?_
      rw [hf₂, State.calling_eq h.top, State.setFrames_setFrames, State.setTop_of_frames _ hr', hr]
      rfl
    have hsame : U.sameButNew ({ U with heap := s₂.heap, slotsUsed := s₂.slotsUsed } : State) L mc ms := by
      refine ⟨?_, q2, q3, q4, q5, q6⟩
      obtain ⟨t, ht, -⟩ := State.frames_cons hr
      show ({ U with heap := s₂.heap, slotsUsed := s₂.slotsUsed } : State) = { U.setFrames U.frames with heap := s₂.heap, slotsUsed := s₂.slotsUsed }
      rw [State.setFrames_self ht]
    subst hg
    refine Or.inl ⟨v, ⟨(({ U with heap := s₂.heap, slotsUsed := s₂.slotsUsed } : State).setVm s₂.vm), Ls ++ L, c0 + mc, s0 + ms⟩,
      ⟨X.admits, X.cas, X.clock, X.frames, X.room, X.hears, X.method, X.code, (X.here.setHeapUsed s₂.heap s₂.slotsUsed).setVm hW'.alike, X.tail, State.WarmedH.trans X.warmed hW', X.limits, X.bytes, X.same.trans (hsame.setVm s.vm)⟩,
      ⟨g, mk, s₂, L, rfl, rfl, hqc, rfl, hL, rfl, rfl⟩, ?_⟩
    show Steps p.tables e below _ ((({ U with heap := s₂.heap, slotsUsed := s₂.slotsUsed } : State).setVm s₂.vm).setTop { g with pc := g.pc + len₂, stack := v.toList ++ g.stack })
    rw [← hs₂]
    exact hsteps
  · obtain ⟨e2, q2, q3, q4, q5, q6⟩ := id hsm
    have e3 : s₂ = ({ (U.calling g mk a).setFrames s₂.frames with heap := s₂.heap, slotsUsed := s₂.slotsUsed } : State).setVm s₂.vm := by
      have : s₂ = ({ s₂ with vm := (U.calling g mk a).vm } : State).setVm s₂.vm := rfl
      rw [e2] at this
      exact this
    have hf₂ : s₂.frames = .throwing q :: .java g :: U.frames.tail := hend
    have hW' : U.WarmedH s₂.vm := hW₂
    have hs₂ : s₂ = ((({ U with heap := s₂.heap, slotsUsed := s₂.slotsUsed } : State).setVm s₂.vm).setTop g).pushFrame (.throwing q) := by
      refine e3.trans ?_
      rw [hf₂, State.calling_eq h.top, State.setFrames_setFrames, State.pushFrame, State.frames_setTop _ hr', State.setTop_of_frames _ hr', State.setFrames_setFrames, hr]
      rfl
    have hsame : U.sameButNew ({ U with heap := s₂.heap, slotsUsed := s₂.slotsUsed } : State) L mc ms := by
      refine ⟨?_, q2, q3, q4, q5, q6⟩
      obtain ⟨t, ht, -⟩ := State.frames_cons hr
      show ({ U with heap := s₂.heap, slotsUsed := s₂.slotsUsed } : State) = { U.setFrames U.frames with heap := s₂.heap, slotsUsed := s₂.slotsUsed }
      rw [State.setFrames_self ht]
    subst hg
    refine Or.inr ⟨q, ⟨(({ U with heap := s₂.heap, slotsUsed := s₂.slotsUsed } : State).setVm s₂.vm), Ls ++ L, c0 + mc, s0 + ms⟩,
      ⟨X.admits, X.cas, X.clock, X.frames, X.room, X.hears, X.method, X.code, (X.here.setHeapUsed s₂.heap s₂.slotsUsed).setVm hW'.alike, X.tail, State.WarmedH.trans X.warmed hW', X.limits, X.bytes, X.same.trans (hsame.setVm s.vm)⟩,
      ⟨g, mk, s₂, L, E, ce, rfl, rfl, hx, hce, hcv, hcl, rfl, hL, rfl, rfl⟩, ?_⟩
    show Steps p.tables e below _ (((({ U with heap := s₂.heap, slotsUsed := s₂.slotsUsed } : State).setVm s₂.vm).setTop g).pushFrame (.throwing q))
    rw [← hs₂]
    exact hsteps
end
variable {p : Program} {l : Launch} {e : Env} {R : Room} {s : State} {m : MethodId} {args : Array Value} {below : List Frame} {meth : Method} {c : Code} {T : State} {H : Heap} {locs : List Loc} {cells slots : Nat}
theorem vx_callVX (X : Stand p l e R s m args below meth c T locs cells slots) (hexec : p.tables.exec = Jvm.exec) {own C : String} {index : Nat} {y : MethodName} {bytes : ByteArray} {maxL : Nat} {ret : Option FieldType} {hh : List (Nat × Nat × Nat × Nat)}
    (hown : s.vm.findClass own = some m.cls) (hlink : (Cond.methodLink own index y).before args s = true) (hinst : (Cond.instanceMethod y).before args s = true) (hsel : (Cond.selects C y y).before args s = true)
    (hcode : (Cond.codeWith y bytes maxL ret hh).before args s = true) (hy : y.cls ≠ "java/lang/invoke/MethodHandle" ∧ y.cls ≠ "java/lang/invoke/VarHandle")
    {W9 : Nat} {Pre : Pt → Array Value → Prop} {Post : Pt → Array Value → Option Value → Pt → Prop} {PostX : Pt → Array Value → Addr → Pt → Prop} (hK : vx_Back l R p e below s args y 3 W9 Pre Post PostX)
    {b : Addr} {cellB : Cell} (hcell : T.heap[b]? = some cellB) (hobj : cellB.vm.isStatics = false) (hcls : s.vm.findClass C = some cellB.cls)
    {g : JFrame} (hg : g.method = m) (hsize : g.locals.size = c.maxLocals) {argsL rest : List Value} (hlen : ∀ sig, parseMethodDescriptor y.desc = some sig → argsL.length = sig.parameters.length)
    (hstack : g.stack = argsL.reverse ++ .ref b :: rest) (hW : 2 * g.monitorRoom + (rest.map fun v => v.category).sum ≤ W9) (hdg : decode c.code g.pc = .ok (.invokevirtual index, 3))
    (hpre : ∀ vm₁, s.WarmedH vm₁ → Pre ⟨T.setVm vm₁, locs, cells, slots⟩ (Value.ref b :: argsL).toArray) :
    (∃ (v : Option Value) (vm₁ : Vm) (B : Pt), s.WarmedH vm₁ ∧ Stand p l e R s m args below meth c B.U B.locs B.cells B.slots ∧ Post ⟨T.setVm vm₁, locs, cells, slots⟩ (Value.ref b :: argsL).toArray v B ∧
      ∀ target, Steps p.tables e below (B.U.setTop { g with pc := g.pc + 3, stack := v.toList ++ rest }) target → Steps p.tables e below (T.setTop g) target) ∨
    (∃ (q : Addr) (vm₁ : Vm) (B : Pt), s.WarmedH vm₁ ∧ Stand p l e R s m args below meth c B.U B.locs B.cells B.slots ∧ PostX ⟨T.setVm vm₁, locs, cells, slots⟩ (Value.ref b :: argsL).toArray q B ∧
      Steps p.tables e below (T.setTop g) ((B.U.setTop { g with stack := rest }).pushFrame (.throwing q))) := by
  obtain ⟨mk, methM, hnamed, hmethM, hstM, habM⟩ := Cond.instanceMethod_spec hinst
  obtain ⟨m8, methM', cM, hn8, hmethM', -, -, -, -, -, -, hsigM⟩ := Cond.codeWith_spec hcode
  cases Option.some.inj (hn8.symm.trans hnamed)
  cases hmethM.symm.trans hmethM'
  obtain ⟨c2, r2, m2, q1, q2, q3, q4, kP, hkP, hkPi⟩ := Cond.selects_spec hsel
  cases hcls.symm.trans q1
  cases (State.methodFound?_of_named hnamed hy).symm.trans q2
  cases hnamed.symm.trans q3
  have hselP : selectMethod e.platform s.vm cellB.cls mk = .method mk := by rw [Launch.admits_selectMethod X.admits]; exact q4
  obtain ⟨vm₁, X₁, hstep₁⟩ := X.invokevirtual hexec hown hlink hnamed hmethM hstM hkP hkPi hy (a := b) (cell := cellB) hcell
    (fun z h => by rw [h] at hobj; cases hobj) hselP hmethM habM hkP hkPi (g := g) hg (argsL := argsL) (rest := rest) (hlen _ hsigM) hstack hdg
  rcases hK m meth c ⟨T.setVm vm₁, locs, cells, slots⟩ { g with stack := rest } (.invokevirtual index) mk (Value.ref b :: argsL).toArray X₁ hg hsize hdg hW (X₁.named hnamed) (hpre vm₁ X₁.warmed) with ⟨v, B, X', hpost, hsteps⟩ | ⟨q, B, X', hpost, hsteps⟩
  · exact Or.inl ⟨v, vm₁, B, X₁.warmed, X', hpost, fun target h => hstep₁ _ fun acts => by rw [doInvoke_state]; exact hsteps.trans h⟩
  · exact Or.inr ⟨q, vm₁, B, X₁.warmed, X', hpost, hstep₁ _ fun acts => by rw [doInvoke_state]; exact hsteps⟩
theorem vx_callSX (X : Stand p l e R s m args below meth c T locs cells slots) (hexec : p.tables.exec = Jvm.exec) {own : String} {index : Nat} {y : MethodName} {bytes : ByteArray} {maxL : Nat} {ret : Option FieldType} {hh : List (Nat × Nat × Nat × Nat)}
    (hown : s.vm.findClass own = some m.cls) (hlink : (Cond.methodLink own index y).before args s = true) (hstat : (Cond.static y).before args s = true) (hinit : (Cond.initialized y.cls).before args s = true)
    (hcode : (Cond.codeWith y bytes maxL ret hh).before args s = true) (hy : y.cls ≠ "java/lang/invoke/MethodHandle" ∧ y.cls ≠ "java/lang/invoke/VarHandle")
    {W9 : Nat} {Pre : Pt → Array Value → Prop} {Post : Pt → Array Value → Option Value → Pt → Prop} {PostX : Pt → Array Value → Addr → Pt → Prop} (hK : vx_Back l R p e below s args y 3 W9 Pre Post PostX)
    {g : JFrame} (hg : g.method = m) (hsize : g.locals.size = c.maxLocals) {argsL rest : List Value} (hlen : ∀ sig, parseMethodDescriptor y.desc = some sig → argsL.length = sig.parameters.length)
    (hstack : g.stack = argsL.reverse ++ rest) (hW : 2 * g.monitorRoom + (rest.map fun v => v.category).sum ≤ W9) (hdg : decode c.code g.pc = .ok (.invokestatic index, 3))
    (hpre : ∀ vm₁, s.WarmedH vm₁ → Pre ⟨T.setVm vm₁, locs, cells, slots⟩ argsL.toArray) :
    (∃ (v : Option Value) (vm₁ : Vm) (B : Pt), s.WarmedH vm₁ ∧ Stand p l e R s m args below meth c B.U B.locs B.cells B.slots ∧ Post ⟨T.setVm vm₁, locs, cells, slots⟩ argsL.toArray v B ∧
      ∀ target, Steps p.tables e below (B.U.setTop { g with pc := g.pc + 3, stack := v.toList ++ rest }) target → Steps p.tables e below (T.setTop g) target) ∨
    (∃ (q : Addr) (vm₁ : Vm) (B : Pt), s.WarmedH vm₁ ∧ Stand p l e R s m args below meth c B.U B.locs B.cells B.slots ∧ PostX ⟨T.setVm vm₁, locs, cells, slots⟩ argsL.toArray q B ∧
      Steps p.tables e below (T.setTop g) ((B.U.setTop { g with stack := rest }).pushFrame (.throwing q))) := by
  obtain ⟨mk, methM, cM, hnamed, hmethM, -, -, -, -, -, -, hsigM⟩ := Cond.codeWith_spec hcode
  have hstatic : methM.isStatic = true := Cond.static_spec hnamed hmethM hstat
  obtain ⟨kP, hkP, -⟩ := className_of_methodNamed hnamed
  have hinitP : kP.init = .initialized := Cond.initialized_spec (findClass_of_methodNamed hnamed) hkP hinit
  obtain ⟨vm₁, X₁, hstep₁⟩ := X.invokestatic hexec hown hlink hnamed hmethM hstatic hkP hinitP hy (g := g) hg (argsL := argsL) (rest := rest) (hlen _ hsigM) hstack hdg
  rcases hK m meth c ⟨T.setVm vm₁, locs, cells, slots⟩ { g with stack := rest } (.invokestatic index) mk argsL.toArray X₁ hg hsize hdg hW (X₁.named hnamed) (hpre vm₁ X₁.warmed) with ⟨v, B, X', hpost, hsteps⟩ | ⟨q, B, X', hpost, hsteps⟩
  · exact Or.inl ⟨v, vm₁, B, X₁.warmed, X', hpost, fun target h => hstep₁ _ fun acts => by rw [doInvoke_state]; exact hsteps.trans h⟩
  · exact Or.inr ⟨q, vm₁, B, X₁.warmed, X', hpost, hstep₁ _ fun acts => by rw [doInvoke_state]; exact hsteps⟩
theorem vx_callVW (X : Stand p l e R s m args below meth c T locs cells slots) (hexec : p.tables.exec = Jvm.exec) {own C : String} {index : Nat} {y : MethodName} {bytes : ByteArray} {maxL : Nat} {ret : Option FieldType} {hh : List (Nat × Nat × Nat × Nat)}
    (hown : s.vm.findClass own = some m.cls) (hlink : (Cond.methodLink own index y).before args s = true) (hinst : (Cond.instanceMethod y).before args s = true) (hsel : (Cond.selects C y y).before args s = true)
    (hcode : (Cond.codeWith y bytes maxL ret hh).before args s = true) (hy : y.cls ≠ "java/lang/invoke/MethodHandle" ∧ y.cls ≠ "java/lang/invoke/VarHandle")
    {W9 : Nat} {Pre : Pt → Array Value → Prop} {Post : Pt → Array Value → Option Value → Pt → Prop} (hK : Back l R p e below s args y 3 W9 Pre Post)
    {b : Addr} {cellB : Cell} (hcell : T.heap[b]? = some cellB) (hobj : cellB.vm.isStatics = false) (hcls : s.vm.findClass C = some cellB.cls)
    {g : JFrame} (hg : g.method = m) (hsize : g.locals.size = c.maxLocals) {argsL rest : List Value} (hlen : ∀ sig, parseMethodDescriptor y.desc = some sig → argsL.length = sig.parameters.length)
    (hstack : g.stack = argsL.reverse ++ .ref b :: rest) (hW : 2 * g.monitorRoom + (rest.map fun v => v.category).sum ≤ W9) (hdg : decode c.code g.pc = .ok (.invokevirtual index, 3))
    (hpre : ∀ vm₁, s.WarmedH vm₁ → Pre ⟨T.setVm vm₁, locs, cells, slots⟩ (Value.ref b :: argsL).toArray) :
    ∃ (v : Option Value) (vm₁ : Vm) (B : Pt), s.WarmedH vm₁ ∧ Stand p l e R s m args below meth c B.U B.locs B.cells B.slots ∧ Post ⟨T.setVm vm₁, locs, cells, slots⟩ (Value.ref b :: argsL).toArray v B ∧
      ∀ target, Steps p.tables e below (B.U.setTop { g with pc := g.pc + 3, stack := v.toList ++ rest }) target → Steps p.tables e below (T.setTop g) target := by
  obtain ⟨mk, methM, hnamed, hmethM, hstM, habM⟩ := Cond.instanceMethod_spec hinst
  obtain ⟨m8, methM', cM, hn8, hmethM', -, -, -, -, -, -, hsigM⟩ := Cond.codeWith_spec hcode
  cases Option.some.inj (hn8.symm.trans hnamed)
  cases hmethM.symm.trans hmethM'
  obtain ⟨c2, r2, m2, q1, q2, q3, q4, kP, hkP, hkPi⟩ := Cond.selects_spec hsel
  cases hcls.symm.trans q1
  cases (State.methodFound?_of_named hnamed hy).symm.trans q2
  cases hnamed.symm.trans q3
  have hselP : selectMethod e.platform s.vm cellB.cls mk = .method mk := by rw [Launch.admits_selectMethod X.admits]; exact q4
  obtain ⟨vm₁, X₁, hstep₁⟩ := X.invokevirtual hexec hown hlink hnamed hmethM hstM hkP hkPi hy (a := b) (cell := cellB) hcell
    (fun z h => by rw [h] at hobj; cases hobj) hselP hmethM habM hkP hkPi (g := g) hg (argsL := argsL) (rest := rest) (hlen _ hsigM) hstack hdg
  obtain ⟨v, B, X', hpost, hsteps⟩ := hK m meth c ⟨T.setVm vm₁, locs, cells, slots⟩ { g with stack := rest } (.invokevirtual index) mk (Value.ref b :: argsL).toArray X₁ hg hsize hdg hW (X₁.named hnamed) (hpre vm₁ X₁.warmed)
  exact ⟨v, vm₁, B, X₁.warmed, X', hpost, fun target h => hstep₁ _ fun acts => by rw [doInvoke_state]; exact hsteps.trans h⟩
abbrev vx_CVW (R : Room) (s : State) (args : Array Value) (own C : String) (index : Nat) (y : MethodName) (bytes : ByteArray) (maxL : Nat) (ret : Option FieldType) (hh : List (Nat × Nat × Nat × Nat)) (ws : List Cond) (rm : Room) (mc ms n : Nat) : Prop :=
  (rm.cells = mc ∧ rm.slots = ms ∧ rm.frames + 1 ≤ R.frames ∧ 8 + (maxL + 11) + rm.locals ≤ R.locals ∧ (∀ w ∈ ws, ∀ (a' : Array Value) (U : State), s.WarmedH U.vm → w.before a' U = true) ∧ Cond.codeWith y bytes maxL ret hh ∈ ws) ∧
  (Cond.codeWith y bytes maxL ret hh).before args s = true ∧ (Cond.initialized y.cls).before args s = true ∧ (y.cls ≠ "java/lang/invoke/MethodHandle" ∧ y.cls ≠ "java/lang/invoke/VarHandle") ∧
  (∀ sig, parseMethodDescriptor y.desc = some sig → n = sig.parameters.length) ∧ (Cond.methodLink own index y).before args s = true ∧ (Cond.instanceMethod y).before args s = true ∧ (Cond.selects C y y).before args s = true
theorem vx_cwVW {own C : String} {index maxL mc ms : Nat} {y : MethodName} {bytes : ByteArray} {ret : Option FieldType} {hh : List (Nat × Nat × Nat × Nat)} {Ts ws ws' : List Cond} {rm : Room} (n : Nat) (ht : ∀ w ∈ Ts, w.before args s = true) (hT : GoodIn Ts (wsV own index C y ws)) (hw : ws = Cond.codeWith y bytes maxL ret hh :: ws') (hrc : rm.cells = mc) (hrs : rm.slots = ms)
    (hd : y.cls = C ∧ y.cls ≠ "java/lang/invoke/MethodHandle" ∧ y.cls ≠ "java/lang/invoke/VarHandle" ∧ (parseMethodDescriptor y.desc).map (fun d => d.parameters.length) = some n) (hR : rm.frames + 1 ≤ R.frames ∧ 8 + (maxL + 11) + rm.locals ≤ R.locals) :
    vx_CVW R s args own C index y bytes maxL ret hh ws rm mc ms n := by
  obtain ⟨hC, hd⟩ := hd
  subst hC
  have ok : ∀ w ∈ wsV own index y.cls y ws, w.before args s = true := fun w h => ht w (hT w h).1
  have hG : GoodIn Ts ws := fun w h => hT w (by unfold wsV; exact List.mem_append_right _ h)
  have hc : Cond.codeWith y bytes maxL ret hh ∈ ws := by rw [hw]; exact List.mem_cons_self
  refine ⟨⟨hrc, hrs, hR.1, hR.2, pay_in ht hG, hc⟩, ht _ (hG _ hc).1, ok _ (by simp [wsV]), ⟨hd.1, hd.2.1⟩, fun sig h => ?_, ok _ (by simp [wsV]), ok _ (by simp [wsV]), ok _ (by simp [wsV])⟩
  have h2 := hd.2.2
  rw [h] at h2
  exact (Option.some.inj h2).symm
theorem vx_runVW {y : MethodName} {bytes cc : ByteArray} {maxL nL mc ms n index : Nat} {ret : Option FieldType} {hh : List (Nat × Nat × Nat × Nat)} {ws : List Cond} {rm : Room} {Pc : Array Value → State → Prop} {Qc : Array Value → State → Outcome → State → Prop} {free : Addr → Prop} {Ts : List Cond} {own C : String} {b : Addr} {As rest : List Value} {g : JFrame}
    (S : CallFix p m c cc nL s args Ts own) (hM : Met l y ws rm Pc Qc mc ms free) (cw : vx_CVW R s args own C index y bytes maxL ret hh ws rm mc ms n) (hp : PreV s H C b Pc As)
    (hg : g.method = m) (hn : As.length = n) (hsize : g.locals.size = nL) (hstack : g.stack = As.reverse ++ .ref b :: rest) (hW : 2 * g.monitorRoom + (rest.map fun v => v.category).sum ≤ 8) (hdg : decode cc g.pc = .ok (.invokevirtual index, 3)) (hf : cells + mc ≤ R.cells ∧ slots + ms ≤ R.slots) :
    va_Run p l e R s m args below meth c H locs cells slots mc ms g rest (Qc (Value.ref b :: As).toArray) free := by
  obtain ⟨⟨hrc, hrs, hfr, hlo, hws, hcw⟩, hcode, hini, hy, hlen, hl, hin, hse⟩ := cw
  have hK : Back l R p e below s args y 3 8 (PreOf R mc ms Pc) (PostOf Qc mc ms free) := va_backW (hh := hh) (bytes := bytes) (maxL := maxL) (ret := ret) hM hp.1 hrc hrs hfr hlo hws hcw (fun a' U hW => word_at hW (Or.inl (by first | rfl | simp [Cond.onTables, Cond.keeps, Cond.steady])) hini)
  obtain ⟨hx, hb, hml, ho, -⟩ := S
  obtain ⟨-, ⟨cellB, hcB, hoB, hclB⟩, hPc⟩ := hp
  intro T hT X
  obtain ⟨v, vm₁, ⟨U', l2, c2, s2⟩, hW₁, X', ⟨g', mk, t, L, e1, e2, hq, h1, hL, h2, h3⟩, st⟩ := vx_callVW X hx (C := C) (hh := hh) (bytes := bytes) (maxL := maxL) (ret := ret) ho hl hin hse hcode hy hK (by rw [hT]; exact hcB) hoB hclB hg (hsize.trans hml.symm) (argsL := As) (rest := rest) (fun sig h => hn.trans (hlen sig h)) hstack hW (by rw [hb]; exact hdg)
    (fun vm₁ hW₁ => ⟨hf.1, hf.2, hPc (T.setVm vm₁) hT hW₁⟩)
  dsimp only [Pt.U, Pt.locs, Pt.cells, Pt.slots] at X' e1 e2 h1 h2 h3 st
  subst h1; subst h2; subst h3
  exact ⟨v, (T.setVm vm₁).calling g' mk (Value.ref b :: As).toArray, t, U', L, hT, X', hL, e1, e2, hq, st⟩
section
variable {y : MethodName} {bytes cc : ByteArray} {maxL nL mc ms n index : Nat} {ret : Option FieldType} {ws : List Cond} {rm : Room} {Pc : Array Value → State → Prop} {Qc : Array Value → State → Outcome → State → Prop} {XC : String → State → State → Prop} {free : Addr → Prop} {Ts : List Cond} {own C : String} {b : Addr} {As rest : List Value} {g : JFrame}
theorem vx_runVX {hh : List (Nat × Nat × Nat × Nat)} (S : CallFix p m c cc nL s args Ts own) (hM : vx_Met l y ws rm Pc Qc XC mc ms free) (cw : vx_CVW R s args own C index y bytes maxL ret hh ws rm mc ms n) (hp : PreV s H C b Pc As)
    (hg : g.method = m) (hn : As.length = n) (hsize : g.locals.size = nL) (hstack : g.stack = As.reverse ++ .ref b :: rest) (hW : 2 * g.monitorRoom + (rest.map fun v => v.category).sum ≤ 8) (hdg : decode cc g.pc = .ok (.invokevirtual index, 3)) (hf : cells + mc ≤ R.cells ∧ slots + ms ≤ R.slots) :
    vx_Run p l e R s m args below meth c H locs cells slots mc ms g rest (Qc (Value.ref b :: As).toArray) XC free := by
  obtain ⟨⟨hrc, hrs, hfr, hlo, hws, hcw⟩, hcode, hini, hy, hlen, hl, hin, hse⟩ := cw
  have hK : vx_Back l R p e below s args y 3 8 (PreOf R mc ms Pc) (PostOf Qc mc ms free) (vx_Post XC mc ms free) := vx_backW (hh := hh) (bytes := bytes) (maxL := maxL) (ret := ret) hM hp.1 hrc hrs hfr hlo hws hcw (fun a' U hW => word_at hW (Or.inl (by first | rfl | simp [Cond.onTables, Cond.keeps, Cond.steady])) hini)
  obtain ⟨hx, hb, hml, ho, -⟩ := S
  obtain ⟨-, ⟨cellB, hcB, hoB, hclB⟩, hPc⟩ := hp
  intro T hT X
  rcases vx_callVX X hx (C := C) (hh := hh) (bytes := bytes) (maxL := maxL) (ret := ret) ho hl hin hse hcode hy hK (by rw [hT]; exact hcB) hoB hclB hg (hsize.trans hml.symm) (argsL := As) (rest := rest) (fun sig h => hn.trans (hlen sig h)) hstack hW (by rw [hb]; exact hdg)
    (fun vm₁ hW₁ => ⟨hf.1, hf.2, hPc (T.setVm vm₁) hT hW₁⟩) with ⟨v, vm₁, ⟨U', l2, c2, s2⟩, hW₁, X', ⟨g', mk, t, L, e1, e2, hq, h1, hL, h2, h3⟩, st⟩ | ⟨q, vm₁, ⟨U', l2, c2, s2⟩, hW₁, X', ⟨g', mk, t, L, E, ce, e1, e2, hq, hce, hcv, hcl, h1, hL, h2, h3⟩, st⟩
  · dsimp only [Pt.U, Pt.locs, Pt.cells, Pt.slots] at X' e1 e2 h1 h2 h3 st
    subst h1; subst h2; subst h3
    exact Or.inl ⟨v, (T.setVm vm₁).calling g' mk (Value.ref b :: As).toArray, t, U', L, hT, X', hL, e1, e2, hq, st⟩
  · dsimp only [Pt.U, Pt.locs, Pt.cells, Pt.slots] at X' e1 e2 h1 h2 h3 st hcl
    subst h1; subst h2; subst h3
    exact Or.inr ⟨q, (T.setVm vm₁).calling g' mk (Value.ref b :: As).toArray, t, U', L, E, ce, hT, X', hL, e1, e2, hq, hce, hcv, vx_cls hW₁ hcl, st⟩
theorem vx_runSX {hh : List (Nat × Nat × Nat × Nat)} (S : CallFix p m c cc nL s args Ts own) (hM : vx_Met l y ws rm Pc Qc XC mc ms free) (cw : vx_CSW R s args own index y bytes maxL ret hh ws rm mc ms n) (hp : PreS s H Pc As)
    (hg : g.method = m) (hn : As.length = n) (hsize : g.locals.size = nL) (hstack : g.stack = As.reverse ++ rest) (hW : 2 * g.monitorRoom + (rest.map fun v => v.category).sum ≤ 8) (hdg : decode cc g.pc = .ok (.invokestatic index, 3)) (hf : cells + mc ≤ R.cells ∧ slots + ms ≤ R.slots) :
    vx_Run p l e R s m args below meth c H locs cells slots mc ms g rest (Qc As.toArray) XC free := by
  obtain ⟨⟨hrc, hrs, hfr, hlo, hws, hcw⟩, hcode, hini, hy, hlen, hl, hstt⟩ := cw
  have hK : vx_Back l R p e below s args y 3 8 (PreOf R mc ms Pc) (PostOf Qc mc ms free) (vx_Post XC mc ms free) := vx_backW (hh := hh) (bytes := bytes) (maxL := maxL) (ret := ret) hM hp.1 hrc hrs hfr hlo hws hcw (fun a' U hW => word_at hW (Or.inl (by first | rfl | simp [Cond.onTables, Cond.keeps, Cond.steady])) hini)
  obtain ⟨hx, hb, hml, ho, -⟩ := S
  intro T hT X
  rcases vx_callSX X hx (hh := hh) (bytes := bytes) (maxL := maxL) (ret := ret) ho hl hstt hini hcode hy hK hg (hsize.trans hml.symm) (argsL := As) (rest := rest) (fun sig h => hn.trans (hlen sig h)) hstack hW (by rw [hb]; exact hdg)
    (fun vm₁ hW₁ => ⟨hf.1, hf.2, hp.2 (T.setVm vm₁) hT hW₁⟩) with ⟨v, vm₁, ⟨U', l2, c2, s2⟩, hW₁, X', ⟨g', mk, t, L, e1, e2, hq, h1, hL, h2, h3⟩, st⟩ | ⟨q, vm₁, ⟨U', l2, c2, s2⟩, hW₁, X', ⟨g', mk, t, L, E, ce, e1, e2, hq, hce, hcv, hcl, h1, hL, h2, h3⟩, st⟩
  · dsimp only [Pt.U, Pt.locs, Pt.cells, Pt.slots] at X' e1 e2 h1 h2 h3 st
    subst h1; subst h2; subst h3
    exact Or.inl ⟨v, (T.setVm vm₁).calling g' mk As.toArray, t, U', L, hT, X', hL, e1, e2, hq, st⟩
  · dsimp only [Pt.U, Pt.locs, Pt.cells, Pt.slots] at X' e1 e2 h1 h2 h3 st hcl
    subst h1; subst h2; subst h3
    exact Or.inr ⟨q, (T.setVm vm₁).calling g' mk As.toArray, t, U', L, E, ce, hT, X', hL, e1, e2, hq, hce, hcv, vx_cls hW₁ hcl, st⟩
end
end VXH
theorem vx_ofWH {l : Launch} {y : MethodName} {ws ws' : List Cond} {rm : Room} {Pc : Array Value → State → Prop} {Qc : Array Value → State → Outcome → State → Prop} {XC : String → State → State → Prop} {mc ms : Nat} {free : Addr → Prop} {cc : ByteArray} {maxL : Nat} {ret : Option FieldType} {hh : List (Nat × Nat × Nat × Nat)}
    (hy : plainName y.cls = true) (hw : ws = Cond.codeWith y cc maxL ret hh :: ws')
    (body : ∀ p e s m args below meth c s₁, BodyLoose p l y (headSpec ws rm) cc maxL ret e s m args below meth c s₁ → c.maxLocals = maxL → Pc args s →
      W p l e (headSpec ws rm).room s m args below meth c s.heap [] 0 0 (vx_MQ below Qc XC args s mc ms free) (entryFrame m args maxL)) : vx_Met l y ws rm Pc Qc XC mc ms free := by
  refine MetFree.of_bodyS (code := cc) (maxLocals := maxL) (ret := ret) hy ?_ ?_
  · intro args s m h hn
    obtain ⟨m9, meth, c, hn9, h1, h2, h3, h4, -, h5, h6, -⟩ := Cond.codeWith_spec (atoms_spec (ws := ws) h _ (by rw [hw]; exact List.mem_cons_self))
    cases hn.symm.trans hn9
    exact ⟨meth, c, h1, h2, h3, h4, h5, h6⟩
  · intro p e s m args below meth c s₁ B hml hP _
    have hh0 : s₁.heap = s.heap := by rw [B.state]; rfl
    obtain ⟨t, a1, o, b1, b2, b3⟩ := body p e s m args below meth c s₁ B hml hP s₁ hh0 (Stand.of_body B)
    exact ⟨t, o, a1, b1, b2, b3⟩
/-! ===== END ===== -/

/-! ===== BEGIN printed: names, fields, word lists, decode rows ===== -/
def RX0 : String := "Leavebank$Ledger"
def TX0 : u_T := fun k => match k with
  | 0 => ("Leavebank$Ledger", "lotPoints", "[I", true)
  | 1 => ("Leavebank$Ledger", "lotExpiries", "[I", true)
  | 2 => ("Leavebank$Ledger", "lotCount", "I", false)
  | 3 => ("Leavebank$Ledger", "oldestLot", "I", false)
  | 4 => ("Leavebank$Ledger", "nextPayout", "I", false)
  | 5 => ("Leavebank$Ledger", "debt", "I", false)
  | 6 => ("Leavebank$Ledger", "sumEarned", "I", false)
  | 7 => ("Leavebank$Ledger", "sumTaken", "I", false)
  | 8 => ("Leavebank$Ledger", "sumExpired", "I", false)
  | 9 => ("Leavebank$Ledger", "sumPaid", "I", false)
  | _ => ("Leavebank$Ledger", "unpaidDays", "I", false)
def tyX0 : Nat → FieldType := fun k => match k with
  | 0 => .array .int
  | 1 => .array .int
  | 2 => .int
  | 3 => .int
  | 4 => .int
  | 5 => .int
  | 6 => .int
  | 7 => .int
  | 8 => .int
  | 9 => .int
  | _ => .int
abbrev wsX00 : List Cond := u_ws RX0 TX0 11
theorem nmX0 : ∀ a, a < 11 → ∀ b, b < 11 → a ≠ b → (TX0 a).2.1 ≠ (TX0 b).2.1 := by decide +kernel
theorem tyX0_ok : ∀ k, k < 11 → parseFieldDescriptor (TX0 k).2.2.1 = some (tyX0 k) := by decide +kernel
abbrev cX0_init : ByteArray := prog_2_method_1_code
def yX0_init : MethodName := ⟨RX0, "<init>", "()V"⟩
abbrev cX0_goThrough : ByteArray := prog_2_method_2_code
def yX0_goThrough : MethodName := ⟨RX0, "goThrough", "(LLeavebank$Person;I)V"⟩
abbrev cX0_pointsInLots : ByteArray := prog_2_method_3_code
def yX0_pointsInLots : MethodName := ⟨RX0, "pointsInLots", "()I"⟩
abbrev cX0_firstExpiry : ByteArray := prog_2_method_4_code
def yX0_firstExpiry : MethodName := ⟨RX0, "firstExpiry", "()I"⟩
abbrev cX0_clear : ByteArray := prog_2_method_5_code
def yX0_clear : MethodName := ⟨RX0, "clear", "()V"⟩
abbrev cX0_isDayOfEarning : ByteArray := prog_2_method_6_code
def yX0_isDayOfEarning : MethodName := ⟨RX0, "isDayOfEarning", "(LLeavebank$Person;I)Z"⟩
abbrev cX0_pointsOfMonth : ByteArray := prog_2_method_7_code
def yX0_pointsOfMonth : MethodName := ⟨RX0, "pointsOfMonth", "(LLeavebank$Person;I)I"⟩
abbrev cX0_expiryOf : ByteArray := prog_2_method_8_code
def yX0_expiryOf : MethodName := ⟨RX0, "expiryOf", "(I)I"⟩
abbrev cX0_earn : ByteArray := prog_2_method_9_code
def yX0_earn : MethodName := ⟨RX0, "earn", "(II)V"⟩
abbrev cX0_expireOn : ByteArray := prog_2_method_10_code
def yX0_expireOn : MethodName := ⟨RX0, "expireOn", "(I)V"⟩
abbrev cX0_take : ByteArray := prog_2_method_11_code
def yX0_take : MethodName := ⟨RX0, "take", "(I)V"⟩
abbrev cX0_payOn : ByteArray := prog_2_method_12_code
def yX0_payOn : MethodName := ⟨RX0, "payOn", "(LLeavebank$Person;I)V"⟩
abbrev cX0_drawFromLots : ByteArray := prog_2_method_13_code
def yX0_drawFromLots : MethodName := ⟨RX0, "drawFromLots", "(I)I"⟩
def RX1 : String := "Leavebank$Person"
def TX1 : u_T := fun k => match k with
  | 0 => ("Leavebank$Person", "firstDay", "I", true)
  | 1 => ("Leavebank$Person", "right", "I", true)
  | 2 => ("Leavebank$Person", "firstHours", "I", true)
  | 3 => ("Leavebank$Person", "changeDays", "[I", true)
  | 4 => ("Leavebank$Person", "changeHours", "[I", true)
  | 5 => ("Leavebank$Person", "changeCount", "I", false)
  | 6 => ("Leavebank$Person", "ownRequests", "[LLeavebank$Request;", true)
  | 7 => ("Leavebank$Person", "ownRequestCount", "I", false)
  | 8 => ("Leavebank$Person", "spellFirsts", "[I", true)
  | 9 => ("Leavebank$Person", "spellLasts", "[I", true)
  | 10 => ("Leavebank$Person", "ownSpellCount", "I", false)
  | 11 => ("Leavebank$Person", "payoutDays", "[I", true)
  | 12 => ("Leavebank$Person", "payoutPoints", "[I", true)
  | 13 => ("Leavebank$Person", "ownPayoutCount", "I", false)
  | _ => ("Leavebank$Person", "leaveKinds", "[I", true)
def tyX1 : Nat → FieldType := fun k => match k with
  | 0 => .int
  | 1 => .int
  | 2 => .int
  | 3 => .array .int
  | 4 => .array .int
  | 5 => .int
  | 6 => .array (.object "Leavebank$Request")
  | 7 => .int
  | 8 => .array .int
  | 9 => .array .int
  | 10 => .int
  | 11 => .array .int
  | 12 => .array .int
  | 13 => .int
  | _ => .array .int
abbrev wsX10 : List Cond := u_ws RX1 TX1 15
theorem nmX1 : ∀ a, a < 15 → ∀ b, b < 15 → a ≠ b → (TX1 a).2.1 ≠ (TX1 b).2.1 := by decide +kernel
theorem tyX1_ok : ∀ k, k < 15 → parseFieldDescriptor (TX1 k).2.2.1 = some (tyX1 k) := by decide +kernel
abbrev cX1_init : ByteArray := prog_3_method_1_code
def yX1_init : MethodName := ⟨RX1, "<init>", "(III)V"⟩
abbrev cX1_hoursOn : ByteArray := prog_3_method_2_code
def yX1_hoursOn : MethodName := ⟨RX1, "hoursOn", "(I)I"⟩
abbrev cX1_enterHours : ByteArray := prog_3_method_3_code
def yX1_enterHours : MethodName := ⟨RX1, "enterHours", "(II)Z"⟩
abbrev cX1_enterRequest : ByteArray := prog_3_method_4_code
def yX1_enterRequest : MethodName := ⟨RX1, "enterRequest", "(LLeavebank$Request;)V"⟩
abbrev cX1_enterSpell : ByteArray := prog_3_method_5_code
def yX1_enterSpell : MethodName := ⟨RX1, "enterSpell", "(II)V"⟩
abbrev cX1_enterPayout : ByteArray := prog_3_method_6_code
def yX1_enterPayout : MethodName := ⟨RX1, "enterPayout", "(II)V"⟩
abbrev cX1_leaveOn : ByteArray := prog_3_method_7_code
def yX1_leaveOn : MethodName := ⟨RX1, "leaveOn", "(I)I"⟩
abbrev cX1_markLeave : ByteArray := prog_3_method_8_code
def yX1_markLeave : MethodName := ⟨RX1, "markLeave", "(II)V"⟩
abbrev cX1_findLeave : ByteArray := prog_3_method_9_code
def yX1_findLeave : MethodName := ⟨RX1, "findLeave", "(I)I"⟩
abbrev cX1_isSickOn : ByteArray := prog_3_method_10_code
def yX1_isSickOn : MethodName := ⟨RX1, "isSickOn", "(I)Z"⟩
def RX2 : String := "Leavebank$Request"
def TX2 : u_T := fun k => match k with
  | 0 => ("Leavebank$Request", "owner", "LLeavebank$Person;", true)
  | 1 => ("Leavebank$Request", "kind", "I", true)
  | 2 => ("Leavebank$Request", "firstDay", "I", false)
  | 3 => ("Leavebank$Request", "lastDay", "I", false)
  | _ => ("Leavebank$Request", "isCancelled", "Z", false)
def tyX2 : Nat → FieldType := fun k => match k with
  | 0 => .object "Leavebank$Person"
  | 1 => .int
  | 2 => .int
  | 3 => .int
  | _ => .boolean
abbrev wsX20 : List Cond := u_ws RX2 TX2 5
theorem nmX2 : ∀ a, a < 5 → ∀ b, b < 5 → a ≠ b → (TX2 a).2.1 ≠ (TX2 b).2.1 := by decide +kernel
theorem tyX2_ok : ∀ k, k < 5 → parseFieldDescriptor (TX2 k).2.2.1 = some (tyX2 k) := by decide +kernel
abbrev cX2_init : ByteArray := prog_4_method_1_code
def yX2_init : MethodName := ⟨RX2, "<init>", "(LLeavebank$Person;IIZ)V"⟩
abbrev cX2_holdsOn : ByteArray := prog_4_method_2_code
def yX2_holdsOn : MethodName := ⟨RX2, "holdsOn", "(I)Z"⟩
def RX3 : String := "Leavebank"
def TX3 : u_T := fun k => match k with
  | 0 => ("Leavebank", "persons", "[LLeavebank$Person;", true)
  | 1 => ("Leavebank", "personCount", "I", false)
  | 2 => ("Leavebank", "requests", "[LLeavebank$Request;", true)
  | 3 => ("Leavebank", "requestCount", "I", false)
  | 4 => ("Leavebank", "spellCount", "I", false)
  | 5 => ("Leavebank", "payoutCount", "I", false)
  | 6 => ("Leavebank", "currentDay", "I", false)
  | _ => ("Leavebank", "ledger", "LLeavebank$Ledger;", true)
def tyX3 : Nat → FieldType := fun k => match k with
  | 0 => .array (.object "Leavebank$Person")
  | 1 => .int
  | 2 => .array (.object "Leavebank$Request")
  | 3 => .int
  | 4 => .int
  | 5 => .int
  | 6 => .int
  | _ => .object "Leavebank$Ledger"
abbrev wsX30 : List Cond := u_ws RX3 TX3 8
theorem nmX3 : ∀ a, a < 8 → ∀ b, b < 8 → a ≠ b → (TX3 a).2.1 ≠ (TX3 b).2.1 := by decide +kernel
theorem tyX3_ok : ∀ k, k < 8 → parseFieldDescriptor (TX3 k).2.2.1 = some (tyX3 k) := by decide +kernel
abbrev cX3_init : ByteArray := prog_1_method_1_code
def yX3_init : MethodName := ⟨RX3, "<init>", "()V"⟩
abbrev cX3_addPerson : ByteArray := prog_1_method_2_code
def yX3_addPerson : MethodName := ⟨RX3, "addPerson", "(II)I"⟩
abbrev cX3_setHours : ByteArray := prog_1_method_3_code
def yX3_setHours : MethodName := ⟨RX3, "setHours", "(III)I"⟩
abbrev cX3_request : ByteArray := prog_1_method_4_code
def yX3_request : MethodName := ⟨RX3, "request", "(IIIZ)I"⟩
abbrev cX3_change : ByteArray := prog_1_method_5_code
def yX3_change : MethodName := ⟨RX3, "change", "(III)I"⟩
abbrev cX3_cancel : ByteArray := prog_1_method_6_code
def yX3_cancel : MethodName := ⟨RX3, "cancel", "(I)V"⟩
abbrev cX3_sick : ByteArray := prog_1_method_7_code
def yX3_sick : MethodName := ⟨RX3, "sick", "(III)I"⟩
abbrev cX3_payOut : ByteArray := prog_1_method_8_code
def yX3_payOut : MethodName := ⟨RX3, "payOut", "(II)I"⟩
abbrev cX3_pass : ByteArray := prog_1_method_9_code
def yX3_pass : MethodName := ⟨RX3, "pass", "(I)I"⟩
abbrev cX3_today : ByteArray := prog_1_method_10_code
def yX3_today : MethodName := ⟨RX3, "today", "()I"⟩
abbrev cX3_people : ByteArray := prog_1_method_11_code
def yX3_people : MethodName := ⟨RX3, "people", "()I"⟩
abbrev cX3_workingDays : ByteArray := prog_1_method_12_code
def yX3_workingDays : MethodName := ⟨RX3, "workingDays", "(II)I"⟩
abbrev cX3_hours : ByteArray := prog_1_method_13_code
def yX3_hours : MethodName := ⟨RX3, "hours", "(II)I"⟩
abbrev cX3_onLeave : ByteArray := prog_1_method_14_code
def yX3_onLeave : MethodName := ⟨RX3, "onLeave", "(II)I"⟩
abbrev cX3_balance : ByteArray := prog_1_method_15_code
def yX3_balance : MethodName := ⟨RX3, "balance", "(II)I"⟩
abbrev cX3_balanceBySums : ByteArray := prog_1_method_16_code
def yX3_balanceBySums : MethodName := ⟨RX3, "balanceBySums", "(II)I"⟩
abbrev cX3_earned : ByteArray := prog_1_method_17_code
def yX3_earned : MethodName := ⟨RX3, "earned", "(II)I"⟩
abbrev cX3_taken : ByteArray := prog_1_method_18_code
def yX3_taken : MethodName := ⟨RX3, "taken", "(II)I"⟩
abbrev cX3_expired : ByteArray := prog_1_method_19_code
def yX3_expired : MethodName := ⟨RX3, "expired", "(II)I"⟩
abbrev cX3_paid : ByteArray := prog_1_method_20_code
def yX3_paid : MethodName := ⟨RX3, "paid", "(II)I"⟩
abbrev cX3_borrowed : ByteArray := prog_1_method_21_code
def yX3_borrowed : MethodName := ⟨RX3, "borrowed", "(II)I"⟩
abbrev cX3_unpaid : ByteArray := prog_1_method_22_code
def yX3_unpaid : MethodName := ⟨RX3, "unpaid", "(II)I"⟩
abbrev cX3_nextExpiry : ByteArray := prog_1_method_23_code
def yX3_nextExpiry : MethodName := ⟨RX3, "nextExpiry", "(II)I"⟩
abbrev cX3_personAt : ByteArray := prog_1_method_24_code
def yX3_personAt : MethodName := ⟨RX3, "personAt", "(I)LLeavebank$Person;"⟩
abbrev cX3_requestAt : ByteArray := prog_1_method_25_code
def yX3_requestAt : MethodName := ⟨RX3, "requestAt", "(I)LLeavebank$Request;"⟩
abbrev cX3_ledgerBehind : ByteArray := prog_1_method_26_code
def yX3_ledgerBehind : MethodName := ⟨RX3, "ledgerBehind", "(II)LLeavebank$Ledger;"⟩
abbrev cX3_checkDay : ByteArray := prog_1_method_27_code
def yX3_checkDay : MethodName := ⟨RX3, "checkDay", "(II)V"⟩
abbrev cX3_checkDays : ByteArray := prog_1_method_28_code
def yX3_checkDays : MethodName := ⟨RX3, "checkDays", "(III)V"⟩
abbrev cX3_checkHours : ByteArray := prog_1_method_29_code
def yX3_checkHours : MethodName := ⟨RX3, "checkHours", "(I)V"⟩
abbrev cX3_isWorkingDay : ByteArray := prog_1_method_30_code
def yX3_isWorkingDay : MethodName := ⟨RX3, "isWorkingDay", "(I)Z"⟩
abbrev cX3_workingDaysAheadOf : ByteArray := prog_1_method_31_code
def yX3_workingDaysAheadOf : MethodName := ⟨RX3, "workingDaysAheadOf", "(I)I"⟩
def RX4 : String := "LeavebankModel"
def TX4 : u_T := fun k => match k with
  | 0 => ("LeavebankModel", "thrown", "I", false)
  | 1 => ("LeavebankModel", "today", "I", false)
  | 2 => ("LeavebankModel", "people", "I", false)
  | 3 => ("LeavebankModel", "start", "[I", true)
  | 4 => ("LeavebankModel", "right", "[I", true)
  | 5 => ("LeavebankModel", "hours", "[I", true)
  | 6 => ("LeavebankModel", "changes", "[I", true)
  | 7 => ("LeavebankModel", "changeDay", "[I", true)
  | 8 => ("LeavebankModel", "changeHours", "[I", true)
  | 9 => ("LeavebankModel", "requests", "I", false)
  | 10 => ("LeavebankModel", "who", "[I", true)
  | 11 => ("LeavebankModel", "from", "[I", true)
  | 12 => ("LeavebankModel", "to", "[I", true)
  | 13 => ("LeavebankModel", "half", "[Z", true)
  | 14 => ("LeavebankModel", "gone", "[Z", true)
  | 15 => ("LeavebankModel", "spells", "I", false)
  | 16 => ("LeavebankModel", "ill", "[I", true)
  | 17 => ("LeavebankModel", "illFrom", "[I", true)
  | 18 => ("LeavebankModel", "illTo", "[I", true)
  | 19 => ("LeavebankModel", "payouts", "I", false)
  | 20 => ("LeavebankModel", "payee", "[I", true)
  | 21 => ("LeavebankModel", "payDay", "[I", true)
  | 22 => ("LeavebankModel", "payPoints", "[I", true)
  | 23 => ("LeavebankModel", "pool", "[I", true)
  | 24 => ("LeavebankModel", "owed", "I", false)
  | 25 => ("LeavebankModel", "earnedSum", "I", false)
  | 26 => ("LeavebankModel", "takenSum", "I", false)
  | 27 => ("LeavebankModel", "expiredSum", "I", false)
  | 28 => ("LeavebankModel", "paidSum", "I", false)
  | _ => ("LeavebankModel", "unpaidDays", "I", false)
def tyX4 : Nat → FieldType := fun k => match k with
  | 0 => .int
  | 1 => .int
  | 2 => .int
  | 3 => .array .int
  | 4 => .array .int
  | 5 => .array .int
  | 6 => .array .int
  | 7 => .array .int
  | 8 => .array .int
  | 9 => .int
  | 10 => .array .int
  | 11 => .array .int
  | 12 => .array .int
  | 13 => .array .boolean
  | 14 => .array .boolean
  | 15 => .int
  | 16 => .array .int
  | 17 => .array .int
  | 18 => .array .int
  | 19 => .int
  | 20 => .array .int
  | 21 => .array .int
  | 22 => .array .int
  | 23 => .array .int
  | 24 => .int
  | 25 => .int
  | 26 => .int
  | 27 => .int
  | 28 => .int
  | _ => .int
abbrev wsX40 : List Cond := u_ws RX4 TX4 30
theorem nmX4 : ∀ a, a < 30 → ∀ b, b < 30 → a ≠ b → (TX4 a).2.1 ≠ (TX4 b).2.1 := by decide +kernel
theorem tyX4_ok : ∀ k, k < 30 → parseFieldDescriptor (TX4 k).2.2.1 = some (tyX4 k) := by decide +kernel
abbrev cX4_init : ByteArray := prog_6_method_1_code
def yX4_init : MethodName := ⟨RX4, "<init>", "()V"⟩
abbrev cX4_thrown : ByteArray := prog_6_method_2_code
def yX4_thrown : MethodName := ⟨RX4, "thrown", "()I"⟩
abbrev cX4_fails : ByteArray := prog_6_method_3_code
def yX4_fails : MethodName := ⟨RX4, "fails", "(I)I"⟩
abbrev cX4_in : ByteArray := prog_6_method_4_code
def yX4_in : MethodName := ⟨RX4, "in", "(III)Z"⟩
abbrev cX4_isPerson : ByteArray := prog_6_method_5_code
def yX4_isPerson : MethodName := ⟨RX4, "isPerson", "(I)Z"⟩
abbrev cX4_areDays : ByteArray := prog_6_method_6_code
def yX4_areDays : MethodName := ⟨RX4, "areDays", "(III)Z"⟩
abbrev cX4_isWorking : ByteArray := prog_6_method_7_code
def yX4_isWorking : MethodName := ⟨RX4, "isWorking", "(I)Z"⟩
abbrev cX4_hoursOn : ByteArray := prog_6_method_8_code
def yX4_hoursOn : MethodName := ⟨RX4, "hoursOn", "(II)I"⟩
abbrev cX4_isIll : ByteArray := prog_6_method_9_code
def yX4_isIll : MethodName := ⟨RX4, "isIll", "(II)Z"⟩
abbrev cX4_leaveOn : ByteArray := prog_6_method_10_code
def yX4_leaveOn : MethodName := ⟨RX4, "leaveOn", "(II)I"⟩
abbrev cX4_inPools : ByteArray := prog_6_method_11_code
def yX4_inPools : MethodName := ⟨RX4, "inPools", "()I"⟩
abbrev cX4_draws : ByteArray := prog_6_method_12_code
def yX4_draws : MethodName := ⟨RX4, "draws", "(I)I"⟩
abbrev cX4_earns : ByteArray := prog_6_method_13_code
def yX4_earns : MethodName := ⟨RX4, "earns", "(II)V"⟩
abbrev cX4_leaves : ByteArray := prog_6_method_14_code
def yX4_leaves : MethodName := ⟨RX4, "leaves", "(II)V"⟩
abbrev cX4_dayOf : ByteArray := prog_6_method_15_code
def yX4_dayOf : MethodName := ⟨RX4, "dayOf", "(II)V"⟩
abbrev cX4_goes : ByteArray := prog_6_method_16_code
def yX4_goes : MethodName := ⟨RX4, "goes", "(II)V"⟩
abbrev cX4_addPerson : ByteArray := prog_6_method_17_code
def yX4_addPerson : MethodName := ⟨RX4, "addPerson", "(II)I"⟩
abbrev cX4_setHours : ByteArray := prog_6_method_18_code
def yX4_setHours : MethodName := ⟨RX4, "setHours", "(III)I"⟩
abbrev cX4_request : ByteArray := prog_6_method_19_code
def yX4_request : MethodName := ⟨RX4, "request", "(IIIZ)I"⟩
abbrev cX4_change : ByteArray := prog_6_method_20_code
def yX4_change : MethodName := ⟨RX4, "change", "(III)I"⟩
abbrev cX4_cancel : ByteArray := prog_6_method_21_code
def yX4_cancel : MethodName := ⟨RX4, "cancel", "(I)V"⟩
abbrev cX4_sick : ByteArray := prog_6_method_22_code
def yX4_sick : MethodName := ⟨RX4, "sick", "(III)I"⟩
abbrev cX4_payOut : ByteArray := prog_6_method_23_code
def yX4_payOut : MethodName := ⟨RX4, "payOut", "(II)I"⟩
abbrev cX4_pass : ByteArray := prog_6_method_24_code
def yX4_pass : MethodName := ⟨RX4, "pass", "(I)I"⟩
abbrev cX4_today : ByteArray := prog_6_method_25_code
def yX4_today : MethodName := ⟨RX4, "today", "()I"⟩
abbrev cX4_people : ByteArray := prog_6_method_26_code
def yX4_people : MethodName := ⟨RX4, "people", "()I"⟩
abbrev cX4_workingDays : ByteArray := prog_6_method_27_code
def yX4_workingDays : MethodName := ⟨RX4, "workingDays", "(II)I"⟩
abbrev cX4_hours : ByteArray := prog_6_method_28_code
def yX4_hours : MethodName := ⟨RX4, "hours", "(II)I"⟩
abbrev cX4_isAsked : ByteArray := prog_6_method_29_code
def yX4_isAsked : MethodName := ⟨RX4, "isAsked", "(II)Z"⟩
abbrev cX4_onLeave : ByteArray := prog_6_method_30_code
def yX4_onLeave : MethodName := ⟨RX4, "onLeave", "(II)I"⟩
abbrev cX4_isGone : ByteArray := prog_6_method_31_code
def yX4_isGone : MethodName := ⟨RX4, "isGone", "(II)Z"⟩
abbrev cX4_balance : ByteArray := prog_6_method_32_code
def yX4_balance : MethodName := ⟨RX4, "balance", "(II)I"⟩
abbrev cX4_balanceBySums : ByteArray := prog_6_method_33_code
def yX4_balanceBySums : MethodName := ⟨RX4, "balanceBySums", "(II)I"⟩
abbrev cX4_earned : ByteArray := prog_6_method_34_code
def yX4_earned : MethodName := ⟨RX4, "earned", "(II)I"⟩
abbrev cX4_taken : ByteArray := prog_6_method_35_code
def yX4_taken : MethodName := ⟨RX4, "taken", "(II)I"⟩
abbrev cX4_expired : ByteArray := prog_6_method_36_code
def yX4_expired : MethodName := ⟨RX4, "expired", "(II)I"⟩
abbrev cX4_paid : ByteArray := prog_6_method_37_code
def yX4_paid : MethodName := ⟨RX4, "paid", "(II)I"⟩
abbrev cX4_borrowed : ByteArray := prog_6_method_38_code
def yX4_borrowed : MethodName := ⟨RX4, "borrowed", "(II)I"⟩
abbrev cX4_unpaid : ByteArray := prog_6_method_39_code
def yX4_unpaid : MethodName := ⟨RX4, "unpaid", "(II)I"⟩
abbrev cX4_nextExpiry : ByteArray := prog_6_method_40_code
def yX4_nextExpiry : MethodName := ⟨RX4, "nextExpiry", "(II)I"⟩
def RJ9 : String := "java/lang/Math"
def TJ9 : u_T := fun k => match k with
  | _ => ("", "", "", false)
def tyJ9 : Nat → FieldType := fun k => match k with
  | _ => .int
abbrev wsJ90 : List Cond := u_ws RJ9 TJ9 0
theorem nmJ9 : ∀ a, a < 0 → ∀ b, b < 0 → a ≠ b → (TJ9 a).2.1 ≠ (TJ9 b).2.1 := by decide +kernel
theorem tyJ9_ok : ∀ k, k < 0 → parseFieldDescriptor (TJ9 k).2.2.1 = some (tyJ9 k) := by decide +kernel
abbrev cJ9_max_7cf53 : ByteArray := prog_11_method_65_code
def yJ9_max_7cf53 : MethodName := ⟨RJ9, "max", "(II)I"⟩
abbrev cJ9_min_7cf53 : ByteArray := prog_11_method_69_code
def yJ9_min_7cf53 : MethodName := ⟨RJ9, "min", "(II)I"⟩
def RJ0 : String := "java/lang/String"
def TJ0 : u_T := fun k => match k with
  | _ => ("", "", "", false)
def tyJ0 : Nat → FieldType := fun k => match k with
  | _ => .int
abbrev wsJ00 : List Cond := u_ws RJ0 TJ0 0
theorem nmJ0 : ∀ a, a < 0 → ∀ b, b < 0 → a ≠ b → (TJ0 a).2.1 ≠ (TJ0 b).2.1 := by decide +kernel
theorem tyJ0_ok : ∀ k, k < 0 → parseFieldDescriptor (TJ0 k).2.2.1 = some (tyJ0 k) := by decide +kernel
def RL : String := "LeavebankLaw"
abbrev cL_addPerson : ByteArray := method_3_code
def yL_addPerson : MethodName := ⟨RL, "addPerson", "(LLeavebank;II[J)I"⟩
abbrev cL_setHours : ByteArray := method_4_code
def yL_setHours : MethodName := ⟨RL, "setHours", "(LLeavebank;III[J)I"⟩
abbrev cL_request : ByteArray := method_5_code
def yL_request : MethodName := ⟨RL, "request", "(LLeavebank;IIIZ[J)I"⟩
abbrev cL_change : ByteArray := method_6_code
def yL_change : MethodName := ⟨RL, "change", "(LLeavebank;III[J)I"⟩
abbrev cL_cancel : ByteArray := method_7_code
def yL_cancel : MethodName := ⟨RL, "cancel", "(LLeavebank;I)I"⟩
abbrev cL_sick : ByteArray := method_8_code
def yL_sick : MethodName := ⟨RL, "sick", "(LLeavebank;III[J)I"⟩
abbrev cL_payOut : ByteArray := method_9_code
def yL_payOut : MethodName := ⟨RL, "payOut", "(LLeavebank;II[J)I"⟩
abbrev cL_pass : ByteArray := method_10_code
def yL_pass : MethodName := ⟨RL, "pass", "(LLeavebank;I[J)I"⟩
abbrev cL_workingDays : ByteArray := method_11_code
def yL_workingDays : MethodName := ⟨RL, "workingDays", "(LLeavebank;II[J)I"⟩
abbrev cL_hours : ByteArray := method_12_code
def yL_hours : MethodName := ⟨RL, "hours", "(LLeavebank;II[J)I"⟩
abbrev cL_onLeave : ByteArray := method_13_code
def yL_onLeave : MethodName := ⟨RL, "onLeave", "(LLeavebank;II[J)I"⟩
abbrev cL_balance : ByteArray := method_14_code
def yL_balance : MethodName := ⟨RL, "balance", "(LLeavebank;II[J)I"⟩
abbrev cL_balanceBySums : ByteArray := method_15_code
def yL_balanceBySums : MethodName := ⟨RL, "balanceBySums", "(LLeavebank;II[J)I"⟩
abbrev cL_earned : ByteArray := method_16_code
def yL_earned : MethodName := ⟨RL, "earned", "(LLeavebank;II[J)I"⟩
abbrev cL_taken : ByteArray := method_17_code
def yL_taken : MethodName := ⟨RL, "taken", "(LLeavebank;II[J)I"⟩
abbrev cL_expired : ByteArray := method_18_code
def yL_expired : MethodName := ⟨RL, "expired", "(LLeavebank;II[J)I"⟩
abbrev cL_paid : ByteArray := method_19_code
def yL_paid : MethodName := ⟨RL, "paid", "(LLeavebank;II[J)I"⟩
abbrev cL_borrowed : ByteArray := method_20_code
def yL_borrowed : MethodName := ⟨RL, "borrowed", "(LLeavebank;II[J)I"⟩
abbrev cL_unpaid : ByteArray := method_21_code
def yL_unpaid : MethodName := ⟨RL, "unpaid", "(LLeavebank;II[J)I"⟩
abbrev cL_nextExpiry : ByteArray := method_22_code
def yL_nextExpiry : MethodName := ⟨RL, "nextExpiry", "(LLeavebank;II[J)I"⟩
abbrev cL_law : ByteArray := code
def yL_law : MethodName := ⟨RL, "law", "([I)Z"⟩
def wsX0_init : List Cond := .code yX0_init cX0_init 1 none :: ([.methodLink RX0 3 objectInit, .instanceMethod objectInit, .code objectInit ⟨#[0xb1]⟩ 1 none, .arrayClass .int, .fieldLink RX0 9 "Leavebank$Ledger" "lotPoints" "[I", .fieldLink RX0 15 "Leavebank$Ledger" "lotExpiries" "[I"] ++ wsX00)
def wsX0_clear : List Cond := .code yX0_clear cX0_clear 1 none :: ([.fieldLink RX0 60 "Leavebank$Ledger" "lotCount" "I", .fieldLink RX0 57 "Leavebank$Ledger" "oldestLot" "I", .fieldLink RX0 63 "Leavebank$Ledger" "nextPayout" "I", .fieldLink RX0 66 "Leavebank$Ledger" "debt" "I", .fieldLink RX0 69 "Leavebank$Ledger" "sumEarned" "I", .fieldLink RX0 72 "Leavebank$Ledger" "sumTaken" "I", .fieldLink RX0 75 "Leavebank$Ledger" "sumExpired" "I", .fieldLink RX0 78 "Leavebank$Ledger" "sumPaid" "I", .fieldLink RX0 81 "Leavebank$Ledger" "unpaidDays" "I"] ++ wsX00)
def wsX0_isDayOfEarning : List Cond := .code yX0_isDayOfEarning cX0_isDayOfEarning 2 (some .boolean) :: ([.fieldLink RX0 21 "Leavebank$Person" "firstDay" "I"] ++ wsX10)
def wsX1_hoursOn : List Cond := .code yX1_hoursOn cX1_hoursOn 5 (some .int) :: ([.fieldLink RX1 46 "Leavebank$Person" "firstHours" "I", .fieldLink RX1 49 "Leavebank$Person" "changeCount" "I", .fieldLink RX1 9 "Leavebank$Person" "changeDays" "[I", .fieldLink RX1 15 "Leavebank$Person" "changeHours" "[I"] ++ wsX10)
def wsX0_pointsOfMonth : List Cond := .code yX0_pointsOfMonth cX0_pointsOfMonth 4 (some .int) :: ([.fieldLink RX0 21 "Leavebank$Person" "firstDay" "I", .methodLink RX0 84 Lib.Math.min.name, .static Lib.Math.min.name, .initialized "java/lang/Math", .code Lib.Math.min.name Lib.Math.min.code 2 (some .int), .fieldLink RX0 90 "Leavebank$Person" "right" "I", .methodLink RX0 93 yX1_hoursOn, .instanceMethod yX1_hoursOn, .selects RX1 yX1_hoursOn yX1_hoursOn, .initialized RX1, .code yX1_hoursOn cX1_hoursOn 5 (some .int), .fieldLink RX1 46 "Leavebank$Person" "firstHours" "I", .fieldLink RX1 49 "Leavebank$Person" "changeCount" "I", .fieldLink RX1 9 "Leavebank$Person" "changeDays" "[I", .fieldLink RX1 15 "Leavebank$Person" "changeHours" "[I"] ++ wsX10)
def wsX0_expiryOf : List Cond := .code yX0_expiryOf cX0_expiryOf 2 (some .int) :: ([])
def wsX0_earn : List Cond := .code yX0_earn cX0_earn 4 none :: ([.fieldLink RX0 66 "Leavebank$Ledger" "debt" "I", .methodLink RX0 84 Lib.Math.min.name, .static Lib.Math.min.name, .initialized "java/lang/Math", .code Lib.Math.min.name Lib.Math.min.code 2 (some .int), .fieldLink RX0 69 "Leavebank$Ledger" "sumEarned" "I", .fieldLink RX0 60 "Leavebank$Ledger" "lotCount" "I", .fieldLink RX0 9 "Leavebank$Ledger" "lotPoints" "[I", .fieldLink RX0 15 "Leavebank$Ledger" "lotExpiries" "[I"] ++ wsX00)
def wsX0_expireOn : List Cond := .code yX0_expireOn cX0_expireOn 2 none :: ([.fieldLink RX0 57 "Leavebank$Ledger" "oldestLot" "I", .fieldLink RX0 60 "Leavebank$Ledger" "lotCount" "I", .fieldLink RX0 15 "Leavebank$Ledger" "lotExpiries" "[I", .fieldLink RX0 75 "Leavebank$Ledger" "sumExpired" "I", .fieldLink RX0 9 "Leavebank$Ledger" "lotPoints" "[I"] ++ wsX00)
def wsX1_leaveOn : List Cond := .code yX1_leaveOn cX1_leaveOn 2 (some .int) :: ([.fieldLink RX1 36 "Leavebank$Person" "leaveKinds" "[I"] ++ wsX10)
def wsX0_pointsInLots : List Cond := .code yX0_pointsInLots cX0_pointsInLots 3 (some .int) :: ([.fieldLink RX0 57 "Leavebank$Ledger" "oldestLot" "I", .fieldLink RX0 60 "Leavebank$Ledger" "lotCount" "I", .fieldLink RX0 9 "Leavebank$Ledger" "lotPoints" "[I"] ++ wsX00)
def wsX0_drawFromLots : List Cond := .code yX0_drawFromLots cX0_drawFromLots 5 (some .int) :: ([.fieldLink RX0 57 "Leavebank$Ledger" "oldestLot" "I", .fieldLink RX0 60 "Leavebank$Ledger" "lotCount" "I", .fieldLink RX0 9 "Leavebank$Ledger" "lotPoints" "[I", .methodLink RX0 84 Lib.Math.min.name, .static Lib.Math.min.name, .initialized "java/lang/Math", .code Lib.Math.min.name Lib.Math.min.code 2 (some .int)] ++ wsX00)
def wsX0_take : List Cond := .code yX0_take cX0_take 4 none :: ([.methodLink RX0 100 Lib.Math.max.name, .static Lib.Math.max.name, .initialized "java/lang/Math", .code Lib.Math.max.name Lib.Math.max.code 2 (some .int), .fieldLink RX0 66 "Leavebank$Ledger" "debt" "I", .fieldLink RX0 81 "Leavebank$Ledger" "unpaidDays" "I", .fieldLink RX0 72 "Leavebank$Ledger" "sumTaken" "I", .methodLink RX0 96 yX0_pointsInLots, .instanceMethod yX0_pointsInLots, .selects RX0 yX0_pointsInLots yX0_pointsInLots, .initialized RX0, .code yX0_pointsInLots cX0_pointsInLots 3 (some .int), .fieldLink RX0 57 "Leavebank$Ledger" "oldestLot" "I", .fieldLink RX0 60 "Leavebank$Ledger" "lotCount" "I", .fieldLink RX0 9 "Leavebank$Ledger" "lotPoints" "[I", .methodLink RX0 103 yX0_drawFromLots, .instanceMethod yX0_drawFromLots, .selects RX0 yX0_drawFromLots yX0_drawFromLots, .code yX0_drawFromLots cX0_drawFromLots 5 (some .int), .methodLink RX0 84 Lib.Math.min.name, .static Lib.Math.min.name, .code Lib.Math.min.name Lib.Math.min.code 2 (some .int)] ++ wsX00)
def wsX0_payOn : List Cond := .code yX0_payOn cX0_payOn 3 none :: ([.fieldLink RX0 63 "Leavebank$Ledger" "nextPayout" "I", .fieldLink RX0 106 "Leavebank$Person" "ownPayoutCount" "I", .fieldLink RX0 109 "Leavebank$Person" "payoutDays" "[I", .fieldLink RX0 78 "Leavebank$Ledger" "sumPaid" "I", .fieldLink RX0 112 "Leavebank$Person" "payoutPoints" "[I", .methodLink RX0 103 yX0_drawFromLots, .instanceMethod yX0_drawFromLots, .selects RX0 yX0_drawFromLots yX0_drawFromLots, .initialized RX0, .code yX0_drawFromLots cX0_drawFromLots 5 (some .int), .fieldLink RX0 57 "Leavebank$Ledger" "oldestLot" "I", .fieldLink RX0 60 "Leavebank$Ledger" "lotCount" "I", .fieldLink RX0 9 "Leavebank$Ledger" "lotPoints" "[I", .methodLink RX0 84 Lib.Math.min.name, .static Lib.Math.min.name, .initialized "java/lang/Math", .code Lib.Math.min.name Lib.Math.min.code 2 (some .int)] ++ wsX00 ++ wsX10)
def wsX0_goThrough_r1 : List Cond := [Cond.fieldLink RX0 21 "Leavebank$Person" "firstDay" "I", Cond.methodLink RX0 18 yX0_clear, Cond.instanceMethod yX0_clear, Cond.selects RX0 yX0_clear yX0_clear, Cond.initialized RX0, Cond.code yX0_clear cX0_clear 1 none, Cond.fieldLink RX0 60 "Leavebank$Ledger" "lotCount" "I", Cond.fieldLink RX0 57 "Leavebank$Ledger" "oldestLot" "I", Cond.fieldLink RX0 63 "Leavebank$Ledger" "nextPayout" "I", Cond.fieldLink RX0 66 "Leavebank$Ledger" "debt" "I", Cond.fieldLink RX0 69 "Leavebank$Ledger" "sumEarned" "I", Cond.fieldLink RX0 72 "Leavebank$Ledger" "sumTaken" "I", Cond.fieldLink RX0 75 "Leavebank$Ledger" "sumExpired" "I", Cond.fieldLink RX0 78 "Leavebank$Ledger" "sumPaid" "I", Cond.fieldLink RX0 81 "Leavebank$Ledger" "unpaidDays" "I", Cond.methodLink RX0 27 yX0_isDayOfEarning, Cond.static yX0_isDayOfEarning, Cond.code yX0_isDayOfEarning cX0_isDayOfEarning 2 (some .boolean), Cond.methodLink RX0 31 yX0_pointsOfMonth, Cond.static yX0_pointsOfMonth, Cond.code yX0_pointsOfMonth cX0_pointsOfMonth 4 (some .int), Cond.methodLink RX0 84 Lib.Math.min.name, Cond.static Lib.Math.min.name, Cond.initialized "java/lang/Math"]
def wsX0_goThrough_r2 : List Cond := [Cond.code Lib.Math.min.name Lib.Math.min.code 2 (some .int), Cond.fieldLink RX0 90 "Leavebank$Person" "right" "I", Cond.methodLink RX0 93 yX1_hoursOn, Cond.instanceMethod yX1_hoursOn, Cond.selects RX1 yX1_hoursOn yX1_hoursOn, Cond.initialized RX1, Cond.code yX1_hoursOn cX1_hoursOn 5 (some .int), Cond.fieldLink RX1 46 "Leavebank$Person" "firstHours" "I", Cond.fieldLink RX1 49 "Leavebank$Person" "changeCount" "I", Cond.fieldLink RX1 9 "Leavebank$Person" "changeDays" "[I", Cond.fieldLink RX1 15 "Leavebank$Person" "changeHours" "[I", Cond.methodLink RX0 35 yX0_expiryOf, Cond.static yX0_expiryOf, Cond.code yX0_expiryOf cX0_expiryOf 2 (some .int), Cond.methodLink RX0 39 yX0_earn, Cond.instanceMethod yX0_earn, Cond.selects RX0 yX0_earn yX0_earn, Cond.code yX0_earn cX0_earn 4 none, Cond.fieldLink RX0 9 "Leavebank$Ledger" "lotPoints" "[I", Cond.fieldLink RX0 15 "Leavebank$Ledger" "lotExpiries" "[I", Cond.methodLink RX0 43 yX0_expireOn, Cond.instanceMethod yX0_expireOn, Cond.selects RX0 yX0_expireOn yX0_expireOn, Cond.code yX0_expireOn cX0_expireOn 2 none]
def wsX0_goThrough_r3 : List Cond := [Cond.methodLink RX0 47 yX1_leaveOn, Cond.instanceMethod yX1_leaveOn, Cond.selects RX1 yX1_leaveOn yX1_leaveOn, Cond.code yX1_leaveOn cX1_leaveOn 2 (some .int), Cond.fieldLink RX1 36 "Leavebank$Person" "leaveKinds" "[I", Cond.methodLink RX0 50 yX0_take, Cond.instanceMethod yX0_take, Cond.selects RX0 yX0_take yX0_take, Cond.code yX0_take cX0_take 4 none, Cond.methodLink RX0 100 Lib.Math.max.name, Cond.static Lib.Math.max.name, Cond.code Lib.Math.max.name Lib.Math.max.code 2 (some .int), Cond.methodLink RX0 96 yX0_pointsInLots, Cond.instanceMethod yX0_pointsInLots, Cond.selects RX0 yX0_pointsInLots yX0_pointsInLots, Cond.code yX0_pointsInLots cX0_pointsInLots 3 (some .int), Cond.methodLink RX0 103 yX0_drawFromLots, Cond.instanceMethod yX0_drawFromLots, Cond.selects RX0 yX0_drawFromLots yX0_drawFromLots, Cond.code yX0_drawFromLots cX0_drawFromLots 5 (some .int), Cond.methodLink RX0 53 yX0_payOn, Cond.instanceMethod yX0_payOn, Cond.selects RX0 yX0_payOn yX0_payOn, Cond.code yX0_payOn cX0_payOn 3 none]
def wsX0_goThrough_r4 : List Cond := [Cond.fieldLink RX0 106 "Leavebank$Person" "ownPayoutCount" "I", Cond.fieldLink RX0 109 "Leavebank$Person" "payoutDays" "[I", Cond.fieldLink RX0 112 "Leavebank$Person" "payoutPoints" "[I"]
def wsX0_goThrough : List Cond := .code yX0_goThrough cX0_goThrough 4 none :: ((wsX0_goThrough_r1 ++ (wsX0_goThrough_r2 ++ (wsX0_goThrough_r3 ++ wsX0_goThrough_r4))) ++ wsX10 ++ wsX00)
def wsX0_firstExpiry : List Cond := .code yX0_firstExpiry cX0_firstExpiry 2 (some .int) :: ([.fieldLink RX0 57 "Leavebank$Ledger" "oldestLot" "I", .fieldLink RX0 60 "Leavebank$Ledger" "lotCount" "I", .fieldLink RX0 9 "Leavebank$Ledger" "lotPoints" "[I", .fieldLink RX0 15 "Leavebank$Ledger" "lotExpiries" "[I"] ++ wsX00)
def wsX1_init : List Cond := .code yX1_init cX1_init 4 none :: ([.methodLink RX1 3 objectInit, .instanceMethod objectInit, .code objectInit ⟨#[0xb1]⟩ 1 none, .arrayClass .int, .fieldLink RX1 9 "Leavebank$Person" "changeDays" "[I", .fieldLink RX1 15 "Leavebank$Person" "changeHours" "[I", .classLink RX1 18 RX2, .fieldLink RX1 20 "Leavebank$Person" "ownRequests" "[LLeavebank$Request;", .fieldLink RX1 24 "Leavebank$Person" "spellFirsts" "[I", .fieldLink RX1 27 "Leavebank$Person" "spellLasts" "[I", .fieldLink RX1 30 "Leavebank$Person" "payoutDays" "[I", .fieldLink RX1 33 "Leavebank$Person" "payoutPoints" "[I", .fieldLink RX1 36 "Leavebank$Person" "leaveKinds" "[I", .fieldLink RX1 39 "Leavebank$Person" "firstDay" "I", .fieldLink RX1 43 "Leavebank$Person" "right" "I", .fieldLink RX1 46 "Leavebank$Person" "firstHours" "I"] ++ wsX10)
def wsX1_enterHours : List Cond := .code yX1_enterHours cX1_enterHours 4 (some .boolean) :: ([.fieldLink RX1 49 "Leavebank$Person" "changeCount" "I", .fieldLink RX1 9 "Leavebank$Person" "changeDays" "[I", .fieldLink RX1 15 "Leavebank$Person" "changeHours" "[I", .methodLink RX1 52 Lib.Math.max.name, .static Lib.Math.max.name, .initialized "java/lang/Math", .code Lib.Math.max.name Lib.Math.max.code 2 (some .int)] ++ wsX10)
def wsX3_isWorkingDay : List Cond := .code yX3_isWorkingDay cX3_isWorkingDay 1 (some .boolean) :: ([])
def wsX1_isSickOn : List Cond := .code yX1_isSickOn cX1_isSickOn 3 (some .boolean) :: ([.fieldLink RX1 69 "Leavebank$Person" "ownSpellCount" "I", .fieldLink RX1 24 "Leavebank$Person" "spellFirsts" "[I", .fieldLink RX1 27 "Leavebank$Person" "spellLasts" "[I"] ++ wsX10)
def wsX2_holdsOn : List Cond := .code yX2_holdsOn cX2_holdsOn 2 (some .boolean) :: ([.fieldLink RX2 25 "Leavebank$Request" "isCancelled" "Z", .fieldLink RX2 19 "Leavebank$Request" "firstDay" "I", .fieldLink RX2 22 "Leavebank$Request" "lastDay" "I"] ++ wsX20)
def wsX1_findLeave_r1 : List Cond := [Cond.fieldLink RX1 58 "Leavebank$Person" "ownRequestCount" "I", Cond.fieldLink RX1 20 "Leavebank$Person" "ownRequests" "[LLeavebank$Request;", Cond.fieldLink RX1 89 "Leavebank$Request" "kind" "I", Cond.methodLink RX1 52 Lib.Math.max.name, Cond.static Lib.Math.max.name, Cond.initialized "java/lang/Math", Cond.code Lib.Math.max.name Lib.Math.max.code 2 (some .int), Cond.static yX3_isWorkingDay, Cond.initialized RX3, Cond.code yX3_isWorkingDay cX3_isWorkingDay 1 (some .boolean), Cond.methodLink RX1 83 yX1_isSickOn, Cond.instanceMethod yX1_isSickOn, Cond.selects RX1 yX1_isSickOn yX1_isSickOn, Cond.initialized RX1, Cond.code yX1_isSickOn cX1_isSickOn 3 (some .boolean), Cond.fieldLink RX1 69 "Leavebank$Person" "ownSpellCount" "I", Cond.fieldLink RX1 24 "Leavebank$Person" "spellFirsts" "[I", Cond.fieldLink RX1 27 "Leavebank$Person" "spellLasts" "[I", Cond.methodLink RX1 86 yX2_holdsOn, Cond.instanceMethod yX2_holdsOn, Cond.selects RX2 yX2_holdsOn yX2_holdsOn, Cond.initialized RX2, Cond.code yX2_holdsOn cX2_holdsOn 2 (some .boolean), Cond.fieldLink RX2 25 "Leavebank$Request" "isCancelled" "Z"]
def wsX1_findLeave_r2 : List Cond := [Cond.fieldLink RX2 19 "Leavebank$Request" "firstDay" "I", Cond.fieldLink RX2 22 "Leavebank$Request" "lastDay" "I"]
def wsX1_findLeave : List Cond := .code yX1_findLeave cX1_findLeave 5 (some .int) :: ((wsX1_findLeave_r1 ++ wsX1_findLeave_r2) ++ wsX10 ++ wsX20)
def wsX1_markLeave_r1 : List Cond := [Cond.methodLink RX1 52 Lib.Math.max.name, Cond.static Lib.Math.max.name, Cond.initialized "java/lang/Math", Cond.code Lib.Math.max.name Lib.Math.max.code 2 (some .int), Cond.fieldLink RX1 36 "Leavebank$Person" "leaveKinds" "[I", Cond.methodLink RX1 75 yX1_findLeave, Cond.instanceMethod yX1_findLeave, Cond.selects RX1 yX1_findLeave yX1_findLeave, Cond.initialized RX1, Cond.code yX1_findLeave cX1_findLeave 5 (some .int), Cond.fieldLink RX1 58 "Leavebank$Person" "ownRequestCount" "I", Cond.fieldLink RX1 20 "Leavebank$Person" "ownRequests" "[LLeavebank$Request;", Cond.fieldLink RX1 89 "Leavebank$Request" "kind" "I", Cond.static yX3_isWorkingDay, Cond.initialized RX3, Cond.code yX3_isWorkingDay cX3_isWorkingDay 1 (some .boolean), Cond.methodLink RX1 83 yX1_isSickOn, Cond.instanceMethod yX1_isSickOn, Cond.selects RX1 yX1_isSickOn yX1_isSickOn, Cond.code yX1_isSickOn cX1_isSickOn 3 (some .boolean), Cond.fieldLink RX1 69 "Leavebank$Person" "ownSpellCount" "I", Cond.fieldLink RX1 24 "Leavebank$Person" "spellFirsts" "[I", Cond.fieldLink RX1 27 "Leavebank$Person" "spellLasts" "[I", Cond.methodLink RX1 86 yX2_holdsOn]
def wsX1_markLeave_r2 : List Cond := [Cond.instanceMethod yX2_holdsOn, Cond.selects RX2 yX2_holdsOn yX2_holdsOn, Cond.initialized RX2, Cond.code yX2_holdsOn cX2_holdsOn 2 (some .boolean), Cond.fieldLink RX2 25 "Leavebank$Request" "isCancelled" "Z", Cond.fieldLink RX2 19 "Leavebank$Request" "firstDay" "I", Cond.fieldLink RX2 22 "Leavebank$Request" "lastDay" "I"]
def wsX1_markLeave : List Cond := .code yX1_markLeave cX1_markLeave 4 none :: ((wsX1_markLeave_r1 ++ wsX1_markLeave_r2) ++ wsX10 ++ wsX20)
def wsX1_enterRequest_r1 : List Cond := [Cond.fieldLink RX1 58 "Leavebank$Person" "ownRequestCount" "I", Cond.fieldLink RX1 20 "Leavebank$Person" "ownRequests" "[LLeavebank$Request;", Cond.fieldLink RX1 61 "Leavebank$Request" "firstDay" "I", Cond.fieldLink RX1 62 "Leavebank$Request" "lastDay" "I", Cond.methodLink RX1 65 yX1_markLeave, Cond.instanceMethod yX1_markLeave, Cond.selects RX1 yX1_markLeave yX1_markLeave, Cond.initialized RX1, Cond.code yX1_markLeave cX1_markLeave 4 none, Cond.methodLink RX1 52 Lib.Math.max.name, Cond.static Lib.Math.max.name, Cond.initialized "java/lang/Math", Cond.code Lib.Math.max.name Lib.Math.max.code 2 (some .int), Cond.fieldLink RX1 36 "Leavebank$Person" "leaveKinds" "[I", Cond.methodLink RX1 75 yX1_findLeave, Cond.instanceMethod yX1_findLeave, Cond.selects RX1 yX1_findLeave yX1_findLeave, Cond.code yX1_findLeave cX1_findLeave 5 (some .int), Cond.fieldLink RX1 89 "Leavebank$Request" "kind" "I", Cond.static yX3_isWorkingDay, Cond.initialized RX3, Cond.code yX3_isWorkingDay cX3_isWorkingDay 1 (some .boolean), Cond.methodLink RX1 83 yX1_isSickOn, Cond.instanceMethod yX1_isSickOn]
def wsX1_enterRequest_r2 : List Cond := [Cond.selects RX1 yX1_isSickOn yX1_isSickOn, Cond.code yX1_isSickOn cX1_isSickOn 3 (some .boolean), Cond.fieldLink RX1 69 "Leavebank$Person" "ownSpellCount" "I", Cond.fieldLink RX1 24 "Leavebank$Person" "spellFirsts" "[I", Cond.fieldLink RX1 27 "Leavebank$Person" "spellLasts" "[I", Cond.methodLink RX1 86 yX2_holdsOn, Cond.instanceMethod yX2_holdsOn, Cond.selects RX2 yX2_holdsOn yX2_holdsOn, Cond.initialized RX2, Cond.code yX2_holdsOn cX2_holdsOn 2 (some .boolean), Cond.fieldLink RX2 25 "Leavebank$Request" "isCancelled" "Z", Cond.fieldLink RX2 19 "Leavebank$Request" "firstDay" "I", Cond.fieldLink RX2 22 "Leavebank$Request" "lastDay" "I"]
def wsX1_enterRequest : List Cond := .code yX1_enterRequest cX1_enterRequest 2 none :: ((wsX1_enterRequest_r1 ++ wsX1_enterRequest_r2) ++ wsX10 ++ wsX20)
def wsX1_enterSpell_r1 : List Cond := [Cond.fieldLink RX1 69 "Leavebank$Person" "ownSpellCount" "I", Cond.fieldLink RX1 24 "Leavebank$Person" "spellFirsts" "[I", Cond.fieldLink RX1 27 "Leavebank$Person" "spellLasts" "[I", Cond.methodLink RX1 65 yX1_markLeave, Cond.instanceMethod yX1_markLeave, Cond.selects RX1 yX1_markLeave yX1_markLeave, Cond.initialized RX1, Cond.code yX1_markLeave cX1_markLeave 4 none, Cond.methodLink RX1 52 Lib.Math.max.name, Cond.static Lib.Math.max.name, Cond.initialized "java/lang/Math", Cond.code Lib.Math.max.name Lib.Math.max.code 2 (some .int), Cond.fieldLink RX1 36 "Leavebank$Person" "leaveKinds" "[I", Cond.methodLink RX1 75 yX1_findLeave, Cond.instanceMethod yX1_findLeave, Cond.selects RX1 yX1_findLeave yX1_findLeave, Cond.code yX1_findLeave cX1_findLeave 5 (some .int), Cond.fieldLink RX1 58 "Leavebank$Person" "ownRequestCount" "I", Cond.fieldLink RX1 20 "Leavebank$Person" "ownRequests" "[LLeavebank$Request;", Cond.fieldLink RX1 89 "Leavebank$Request" "kind" "I", Cond.static yX3_isWorkingDay, Cond.initialized RX3, Cond.code yX3_isWorkingDay cX3_isWorkingDay 1 (some .boolean), Cond.methodLink RX1 83 yX1_isSickOn]
def wsX1_enterSpell_r2 : List Cond := [Cond.instanceMethod yX1_isSickOn, Cond.selects RX1 yX1_isSickOn yX1_isSickOn, Cond.code yX1_isSickOn cX1_isSickOn 3 (some .boolean), Cond.methodLink RX1 86 yX2_holdsOn, Cond.instanceMethod yX2_holdsOn, Cond.selects RX2 yX2_holdsOn yX2_holdsOn, Cond.initialized RX2, Cond.code yX2_holdsOn cX2_holdsOn 2 (some .boolean), Cond.fieldLink RX2 25 "Leavebank$Request" "isCancelled" "Z", Cond.fieldLink RX2 19 "Leavebank$Request" "firstDay" "I", Cond.fieldLink RX2 22 "Leavebank$Request" "lastDay" "I"]
def wsX1_enterSpell : List Cond := .code yX1_enterSpell cX1_enterSpell 3 none :: ((wsX1_enterSpell_r1 ++ wsX1_enterSpell_r2) ++ wsX10 ++ wsX20)
def wsX1_enterPayout : List Cond := .code yX1_enterPayout cX1_enterPayout 3 none :: ([.fieldLink RX1 72 "Leavebank$Person" "ownPayoutCount" "I", .fieldLink RX1 30 "Leavebank$Person" "payoutDays" "[I", .fieldLink RX1 33 "Leavebank$Person" "payoutPoints" "[I"] ++ wsX10)
def wsX2_init : List Cond := .code yX2_init cX2_init 5 none :: ([.methodLink RX2 3 objectInit, .instanceMethod objectInit, .code objectInit ⟨#[0xb1]⟩ 1 none, .fieldLink RX2 9 "Leavebank$Request" "owner" "LLeavebank$Person;", .fieldLink RX2 15 "Leavebank$Request" "kind" "I", .fieldLink RX2 19 "Leavebank$Request" "firstDay" "I", .fieldLink RX2 22 "Leavebank$Request" "lastDay" "I"] ++ wsX20)
def wsX3_init : List Cond := .code yX3_init cX3_init 1 none :: ([.methodLink RX3 3 objectInit, .instanceMethod objectInit, .code objectInit ⟨#[0xb1]⟩ 1 none, .classLink RX3 9 RX1, .fieldLink RX3 11 "Leavebank" "persons" "[LLeavebank$Person;", .classLink RX3 15 RX2, .fieldLink RX3 17 "Leavebank" "requests" "[LLeavebank$Request;", .classLink RX3 21 RX0, .instantiable RX0 11, .initialized RX0, .fieldLink RX3 24 "Leavebank" "ledger" "LLeavebank$Ledger;", .instanceMethod yX0_init, .code yX0_init cX0_init 1 none, .methodLink RX0 3 objectInit, .arrayClass .int, .fieldLink RX0 9 "Leavebank$Ledger" "lotPoints" "[I", .fieldLink RX0 15 "Leavebank$Ledger" "lotExpiries" "[I"] ++ wsX30 ++ wsX00)
def wsX3_checkHours : List Cond := .code yX3_checkHours cX3_checkHours 1 none :: ([.classLink RX3 28 "java/lang/IllegalArgumentException", .initialized "java/lang/IllegalArgumentException"] ++ (vx_atS RX3 32 "java/lang/IllegalArgumentException" ["java/lang/RuntimeException", "java/lang/Exception"]).filter goodWord)
def wsX3_addPerson_r1 : List Cond := [Cond.classLink RX3 28 "java/lang/IllegalArgumentException", Cond.initialized "java/lang/IllegalArgumentException", Cond.classLink RX3 43 "java/lang/IllegalStateException", Cond.initialized "java/lang/IllegalStateException", Cond.fieldLink RX3 39 "Leavebank" "personCount" "I", Cond.fieldLink RX3 11 "Leavebank" "persons" "[LLeavebank$Person;", Cond.classLink RX3 9 RX1, Cond.instantiable RX1 15, Cond.initialized RX1, Cond.fieldLink RX3 48 "Leavebank" "currentDay" "I", Cond.methodLink RX3 35 yX3_checkHours, Cond.static yX3_checkHours, Cond.initialized RX3, Cond.code yX3_checkHours cX3_checkHours 1 none, Cond.methodLink RX3 51 yX1_init, Cond.instanceMethod yX1_init, Cond.code yX1_init cX1_init 4 none, Cond.methodLink RX1 3 objectInit, Cond.instanceMethod objectInit, Cond.code objectInit ⟨#[0xb1]⟩ 1 none, Cond.arrayClass .int, Cond.fieldLink RX1 9 "Leavebank$Person" "changeDays" "[I", Cond.fieldLink RX1 15 "Leavebank$Person" "changeHours" "[I", Cond.classLink RX1 18 RX2]
def wsX3_addPerson_r2 : List Cond := [Cond.fieldLink RX1 20 "Leavebank$Person" "ownRequests" "[LLeavebank$Request;", Cond.fieldLink RX1 24 "Leavebank$Person" "spellFirsts" "[I", Cond.fieldLink RX1 27 "Leavebank$Person" "spellLasts" "[I", Cond.fieldLink RX1 30 "Leavebank$Person" "payoutDays" "[I", Cond.fieldLink RX1 33 "Leavebank$Person" "payoutPoints" "[I", Cond.fieldLink RX1 36 "Leavebank$Person" "leaveKinds" "[I", Cond.fieldLink RX1 39 "Leavebank$Person" "firstDay" "I", Cond.fieldLink RX1 43 "Leavebank$Person" "right" "I", Cond.fieldLink RX1 46 "Leavebank$Person" "firstHours" "I"]
def wsX3_addPerson : List Cond := .code yX3_addPerson cX3_addPerson 4 (some .int) :: ((wsX3_addPerson_r1 ++ wsX3_addPerson_r2) ++ wsX30 ++ wsX10 ++ (vx_atS RX3 32 "java/lang/IllegalArgumentException" ["java/lang/RuntimeException", "java/lang/Exception"]).filter goodWord ++ (vx_atS RX3 47 "java/lang/IllegalStateException" ["java/lang/RuntimeException", "java/lang/Exception"]).filter goodWord)
def wsX3_personAt : List Cond := .code yX3_personAt cX3_personAt 3 (some (.object "Leavebank$Person")) :: ([.classLink RX3 174 "java/lang/IndexOutOfBoundsException", .initialized "java/lang/IndexOutOfBoundsException", .fieldLink RX3 11 "Leavebank" "persons" "[LLeavebank$Person;"] ++ wsX30 ++ (vx_atS RX3 178 "java/lang/IndexOutOfBoundsException" ["java/lang/RuntimeException", "java/lang/Exception"]).filter goodWord)
def wsX3_checkDay : List Cond := .code yX3_checkDay cX3_checkDay 2 none :: ([.classLink RX3 28 "java/lang/IllegalArgumentException", .initialized "java/lang/IllegalArgumentException"] ++ (vx_atS RX3 32 "java/lang/IllegalArgumentException" ["java/lang/RuntimeException", "java/lang/Exception"]).filter goodWord)
def wsX3_setHours_r1 : List Cond := [Cond.classLink RX3 43 "java/lang/IllegalStateException", Cond.initialized "java/lang/IllegalStateException", Cond.fieldLink RX3 58 "Leavebank$Person" "firstDay" "I", Cond.methodLink RX3 54 yX3_personAt, Cond.instanceMethod yX3_personAt, Cond.selects RX3 yX3_personAt yX3_personAt, Cond.initialized RX3, Cond.code yX3_personAt cX3_personAt 3 (some (.object "Leavebank$Person")), Cond.classLink RX3 174 "java/lang/IndexOutOfBoundsException", Cond.initialized "java/lang/IndexOutOfBoundsException", Cond.fieldLink RX3 11 "Leavebank" "persons" "[LLeavebank$Person;", Cond.methodLink RX3 61 yX3_checkDay, Cond.static yX3_checkDay, Cond.code yX3_checkDay cX3_checkDay 2 none, Cond.classLink RX3 28 "java/lang/IllegalArgumentException", Cond.initialized "java/lang/IllegalArgumentException", Cond.methodLink RX3 35 yX3_checkHours, Cond.static yX3_checkHours, Cond.code yX3_checkHours cX3_checkHours 1 none, Cond.methodLink RX3 65 yX1_hoursOn, Cond.instanceMethod yX1_hoursOn, Cond.selects RX1 yX1_hoursOn yX1_hoursOn, Cond.initialized RX1, Cond.code yX1_hoursOn cX1_hoursOn 5 (some .int)]
def wsX3_setHours_r2 : List Cond := [Cond.fieldLink RX1 46 "Leavebank$Person" "firstHours" "I", Cond.fieldLink RX1 49 "Leavebank$Person" "changeCount" "I", Cond.fieldLink RX1 9 "Leavebank$Person" "changeDays" "[I", Cond.fieldLink RX1 15 "Leavebank$Person" "changeHours" "[I", Cond.methodLink RX3 69 yX1_enterHours, Cond.instanceMethod yX1_enterHours, Cond.selects RX1 yX1_enterHours yX1_enterHours, Cond.code yX1_enterHours cX1_enterHours 4 (some .boolean), Cond.methodLink RX1 52 Lib.Math.max.name, Cond.static Lib.Math.max.name, Cond.initialized "java/lang/Math", Cond.code Lib.Math.max.name Lib.Math.max.code 2 (some .int)]
def wsX3_setHours : List Cond := .code yX3_setHours cX3_setHours 6 (some .int) :: ((wsX3_setHours_r1 ++ wsX3_setHours_r2) ++ wsX10 ++ wsX30 ++ (vx_atS RX3 47 "java/lang/IllegalStateException" ["java/lang/RuntimeException", "java/lang/Exception"]).filter goodWord ++ (vx_atS RX3 178 "java/lang/IndexOutOfBoundsException" ["java/lang/RuntimeException", "java/lang/Exception"]).filter goodWord ++ (vx_atS RX3 32 "java/lang/IllegalArgumentException" ["java/lang/RuntimeException", "java/lang/Exception"]).filter goodWord)
def wsX3_checkDays : List Cond := .code yX3_checkDays cX3_checkDays 3 none :: ([.classLink RX3 28 "java/lang/IllegalArgumentException", .initialized "java/lang/IllegalArgumentException"] ++ (vx_atS RX3 32 "java/lang/IllegalArgumentException" ["java/lang/RuntimeException", "java/lang/Exception"]).filter goodWord)
def wsX3_request_r1 : List Cond := [Cond.classLink RX3 43 "java/lang/IllegalStateException", Cond.initialized "java/lang/IllegalStateException", Cond.fieldLink RX3 58 "Leavebank$Person" "firstDay" "I", Cond.fieldLink RX3 78 "Leavebank" "requestCount" "I", Cond.fieldLink RX3 17 "Leavebank" "requests" "[LLeavebank$Request;", Cond.classLink RX3 15 RX2, Cond.instantiable RX2 5, Cond.initialized RX2, Cond.methodLink RX3 54 yX3_personAt, Cond.instanceMethod yX3_personAt, Cond.selects RX3 yX3_personAt yX3_personAt, Cond.initialized RX3, Cond.code yX3_personAt cX3_personAt 3 (some (.object "Leavebank$Person")), Cond.classLink RX3 174 "java/lang/IndexOutOfBoundsException", Cond.initialized "java/lang/IndexOutOfBoundsException", Cond.fieldLink RX3 11 "Leavebank" "persons" "[LLeavebank$Person;", Cond.methodLink RX3 75 yX3_checkDays, Cond.static yX3_checkDays, Cond.code yX3_checkDays cX3_checkDays 3 none, Cond.classLink RX3 28 "java/lang/IllegalArgumentException", Cond.initialized "java/lang/IllegalArgumentException", Cond.methodLink RX3 83 yX2_init, Cond.instanceMethod yX2_init, Cond.code yX2_init cX2_init 5 none]
def wsX3_request_r2 : List Cond := [Cond.methodLink RX2 3 objectInit, Cond.instanceMethod objectInit, Cond.code objectInit ⟨#[0xb1]⟩ 1 none, Cond.fieldLink RX2 9 "Leavebank$Request" "owner" "LLeavebank$Person;", Cond.fieldLink RX2 15 "Leavebank$Request" "kind" "I", Cond.fieldLink RX2 19 "Leavebank$Request" "firstDay" "I", Cond.fieldLink RX2 22 "Leavebank$Request" "lastDay" "I", Cond.methodLink RX3 86 yX1_enterRequest, Cond.instanceMethod yX1_enterRequest, Cond.selects RX1 yX1_enterRequest yX1_enterRequest, Cond.initialized RX1, Cond.code yX1_enterRequest cX1_enterRequest 2 none, Cond.fieldLink RX1 58 "Leavebank$Person" "ownRequestCount" "I", Cond.fieldLink RX1 20 "Leavebank$Person" "ownRequests" "[LLeavebank$Request;", Cond.fieldLink RX1 61 "Leavebank$Request" "firstDay" "I", Cond.fieldLink RX1 62 "Leavebank$Request" "lastDay" "I", Cond.methodLink RX1 65 yX1_markLeave, Cond.instanceMethod yX1_markLeave, Cond.selects RX1 yX1_markLeave yX1_markLeave, Cond.code yX1_markLeave cX1_markLeave 4 none, Cond.methodLink RX1 52 Lib.Math.max.name, Cond.static Lib.Math.max.name, Cond.initialized "java/lang/Math", Cond.code Lib.Math.max.name Lib.Math.max.code 2 (some .int)]
def wsX3_request_r3 : List Cond := [Cond.fieldLink RX1 36 "Leavebank$Person" "leaveKinds" "[I", Cond.methodLink RX1 75 yX1_findLeave, Cond.instanceMethod yX1_findLeave, Cond.selects RX1 yX1_findLeave yX1_findLeave, Cond.code yX1_findLeave cX1_findLeave 5 (some .int), Cond.fieldLink RX1 89 "Leavebank$Request" "kind" "I", Cond.static yX3_isWorkingDay, Cond.code yX3_isWorkingDay cX3_isWorkingDay 1 (some .boolean), Cond.methodLink RX1 83 yX1_isSickOn, Cond.instanceMethod yX1_isSickOn, Cond.selects RX1 yX1_isSickOn yX1_isSickOn, Cond.code yX1_isSickOn cX1_isSickOn 3 (some .boolean), Cond.fieldLink RX1 69 "Leavebank$Person" "ownSpellCount" "I", Cond.fieldLink RX1 24 "Leavebank$Person" "spellFirsts" "[I", Cond.fieldLink RX1 27 "Leavebank$Person" "spellLasts" "[I", Cond.methodLink RX1 86 yX2_holdsOn, Cond.instanceMethod yX2_holdsOn, Cond.selects RX2 yX2_holdsOn yX2_holdsOn, Cond.code yX2_holdsOn cX2_holdsOn 2 (some .boolean), Cond.fieldLink RX2 25 "Leavebank$Request" "isCancelled" "Z"]
def wsX3_request : List Cond := .code yX3_request cX3_request 8 (some .int) :: ((wsX3_request_r1 ++ (wsX3_request_r2 ++ wsX3_request_r3)) ++ wsX10 ++ wsX30 ++ wsX20 ++ (vx_atS RX3 47 "java/lang/IllegalStateException" ["java/lang/RuntimeException", "java/lang/Exception"]).filter goodWord ++ (vx_atS RX3 178 "java/lang/IndexOutOfBoundsException" ["java/lang/RuntimeException", "java/lang/Exception"]).filter goodWord ++ (vx_atS RX3 32 "java/lang/IllegalArgumentException" ["java/lang/RuntimeException", "java/lang/Exception"]).filter goodWord)
def wsX3_requestAt : List Cond := .code yX3_requestAt cX3_requestAt 3 (some (.object "Leavebank$Request")) :: ([.classLink RX3 174 "java/lang/IndexOutOfBoundsException", .initialized "java/lang/IndexOutOfBoundsException", .fieldLink RX3 17 "Leavebank" "requests" "[LLeavebank$Request;"] ++ wsX30 ++ (vx_atS RX3 178 "java/lang/IndexOutOfBoundsException" ["java/lang/RuntimeException", "java/lang/Exception"]).filter goodWord)
def wsX3_change_r1 : List Cond := [Cond.classLink RX3 43 "java/lang/IllegalStateException", Cond.initialized "java/lang/IllegalStateException", Cond.fieldLink RX3 94 "Leavebank$Request" "owner" "LLeavebank$Person;", Cond.fieldLink RX3 58 "Leavebank$Person" "firstDay" "I", Cond.fieldLink RX3 98 "Leavebank$Request" "isCancelled" "Z", Cond.fieldLink RX3 104 "Leavebank$Request" "firstDay" "I", Cond.fieldLink RX3 105 "Leavebank$Request" "lastDay" "I", Cond.methodLink RX3 90 yX3_requestAt, Cond.instanceMethod yX3_requestAt, Cond.selects RX3 yX3_requestAt yX3_requestAt, Cond.initialized RX3, Cond.code yX3_requestAt cX3_requestAt 3 (some (.object "Leavebank$Request")), Cond.classLink RX3 174 "java/lang/IndexOutOfBoundsException", Cond.initialized "java/lang/IndexOutOfBoundsException", Cond.fieldLink RX3 17 "Leavebank" "requests" "[LLeavebank$Request;", Cond.methodLink RX3 75 yX3_checkDays, Cond.static yX3_checkDays, Cond.code yX3_checkDays cX3_checkDays 3 none, Cond.classLink RX3 28 "java/lang/IllegalArgumentException", Cond.initialized "java/lang/IllegalArgumentException", Cond.methodLink RX3 108 yX1_markLeave, Cond.instanceMethod yX1_markLeave, Cond.selects RX1 yX1_markLeave yX1_markLeave, Cond.initialized RX1]
def wsX3_change_r2 : List Cond := [Cond.code yX1_markLeave cX1_markLeave 4 none, Cond.methodLink RX1 52 Lib.Math.max.name, Cond.static Lib.Math.max.name, Cond.initialized "java/lang/Math", Cond.code Lib.Math.max.name Lib.Math.max.code 2 (some .int), Cond.fieldLink RX1 36 "Leavebank$Person" "leaveKinds" "[I", Cond.methodLink RX1 75 yX1_findLeave, Cond.instanceMethod yX1_findLeave, Cond.selects RX1 yX1_findLeave yX1_findLeave, Cond.code yX1_findLeave cX1_findLeave 5 (some .int), Cond.fieldLink RX1 58 "Leavebank$Person" "ownRequestCount" "I", Cond.fieldLink RX1 20 "Leavebank$Person" "ownRequests" "[LLeavebank$Request;", Cond.fieldLink RX1 89 "Leavebank$Request" "kind" "I", Cond.static yX3_isWorkingDay, Cond.code yX3_isWorkingDay cX3_isWorkingDay 1 (some .boolean), Cond.methodLink RX1 83 yX1_isSickOn, Cond.instanceMethod yX1_isSickOn, Cond.selects RX1 yX1_isSickOn yX1_isSickOn, Cond.code yX1_isSickOn cX1_isSickOn 3 (some .boolean), Cond.fieldLink RX1 69 "Leavebank$Person" "ownSpellCount" "I", Cond.fieldLink RX1 24 "Leavebank$Person" "spellFirsts" "[I", Cond.fieldLink RX1 27 "Leavebank$Person" "spellLasts" "[I", Cond.methodLink RX1 86 yX2_holdsOn, Cond.instanceMethod yX2_holdsOn]
def wsX3_change_r3 : List Cond := [Cond.selects RX2 yX2_holdsOn yX2_holdsOn, Cond.initialized RX2, Cond.code yX2_holdsOn cX2_holdsOn 2 (some .boolean), Cond.fieldLink RX2 25 "Leavebank$Request" "isCancelled" "Z", Cond.fieldLink RX2 19 "Leavebank$Request" "firstDay" "I", Cond.fieldLink RX2 22 "Leavebank$Request" "lastDay" "I"]
def wsX3_change : List Cond := .code yX3_change cX3_change 7 (some .int) :: ((wsX3_change_r1 ++ (wsX3_change_r2 ++ wsX3_change_r3)) ++ wsX20 ++ wsX10 ++ wsX30 ++ (vx_atS RX3 47 "java/lang/IllegalStateException" ["java/lang/RuntimeException", "java/lang/Exception"]).filter goodWord ++ (vx_atS RX3 178 "java/lang/IndexOutOfBoundsException" ["java/lang/RuntimeException", "java/lang/Exception"]).filter goodWord ++ (vx_atS RX3 32 "java/lang/IllegalArgumentException" ["java/lang/RuntimeException", "java/lang/Exception"]).filter goodWord)
def wsX3_cancel_r1 : List Cond := [Cond.classLink RX3 43 "java/lang/IllegalStateException", Cond.initialized "java/lang/IllegalStateException", Cond.fieldLink RX3 98 "Leavebank$Request" "isCancelled" "Z", Cond.fieldLink RX3 94 "Leavebank$Request" "owner" "LLeavebank$Person;", Cond.fieldLink RX3 104 "Leavebank$Request" "firstDay" "I", Cond.fieldLink RX3 105 "Leavebank$Request" "lastDay" "I", Cond.methodLink RX3 90 yX3_requestAt, Cond.instanceMethod yX3_requestAt, Cond.selects RX3 yX3_requestAt yX3_requestAt, Cond.initialized RX3, Cond.code yX3_requestAt cX3_requestAt 3 (some (.object "Leavebank$Request")), Cond.classLink RX3 174 "java/lang/IndexOutOfBoundsException", Cond.initialized "java/lang/IndexOutOfBoundsException", Cond.fieldLink RX3 17 "Leavebank" "requests" "[LLeavebank$Request;", Cond.methodLink RX3 108 yX1_markLeave, Cond.instanceMethod yX1_markLeave, Cond.selects RX1 yX1_markLeave yX1_markLeave, Cond.initialized RX1, Cond.code yX1_markLeave cX1_markLeave 4 none, Cond.methodLink RX1 52 Lib.Math.max.name, Cond.static Lib.Math.max.name, Cond.initialized "java/lang/Math", Cond.code Lib.Math.max.name Lib.Math.max.code 2 (some .int), Cond.fieldLink RX1 36 "Leavebank$Person" "leaveKinds" "[I"]
def wsX3_cancel_r2 : List Cond := [Cond.methodLink RX1 75 yX1_findLeave, Cond.instanceMethod yX1_findLeave, Cond.selects RX1 yX1_findLeave yX1_findLeave, Cond.code yX1_findLeave cX1_findLeave 5 (some .int), Cond.fieldLink RX1 58 "Leavebank$Person" "ownRequestCount" "I", Cond.fieldLink RX1 20 "Leavebank$Person" "ownRequests" "[LLeavebank$Request;", Cond.fieldLink RX1 89 "Leavebank$Request" "kind" "I", Cond.static yX3_isWorkingDay, Cond.code yX3_isWorkingDay cX3_isWorkingDay 1 (some .boolean), Cond.methodLink RX1 83 yX1_isSickOn, Cond.instanceMethod yX1_isSickOn, Cond.selects RX1 yX1_isSickOn yX1_isSickOn, Cond.code yX1_isSickOn cX1_isSickOn 3 (some .boolean), Cond.fieldLink RX1 69 "Leavebank$Person" "ownSpellCount" "I", Cond.fieldLink RX1 24 "Leavebank$Person" "spellFirsts" "[I", Cond.fieldLink RX1 27 "Leavebank$Person" "spellLasts" "[I", Cond.methodLink RX1 86 yX2_holdsOn, Cond.instanceMethod yX2_holdsOn, Cond.selects RX2 yX2_holdsOn yX2_holdsOn, Cond.initialized RX2, Cond.code yX2_holdsOn cX2_holdsOn 2 (some .boolean), Cond.fieldLink RX2 25 "Leavebank$Request" "isCancelled" "Z", Cond.fieldLink RX2 19 "Leavebank$Request" "firstDay" "I", Cond.fieldLink RX2 22 "Leavebank$Request" "lastDay" "I"]
def wsX3_cancel : List Cond := .code yX3_cancel cX3_cancel 3 none :: ((wsX3_cancel_r1 ++ wsX3_cancel_r2) ++ wsX20 ++ wsX30 ++ wsX10 ++ (vx_atS RX3 47 "java/lang/IllegalStateException" ["java/lang/RuntimeException", "java/lang/Exception"]).filter goodWord ++ (vx_atS RX3 178 "java/lang/IndexOutOfBoundsException" ["java/lang/RuntimeException", "java/lang/Exception"]).filter goodWord)
def wsX3_sick_r1 : List Cond := [Cond.classLink RX3 43 "java/lang/IllegalStateException", Cond.initialized "java/lang/IllegalStateException", Cond.fieldLink RX3 58 "Leavebank$Person" "firstDay" "I", Cond.fieldLink RX3 111 "Leavebank" "spellCount" "I", Cond.methodLink RX3 54 yX3_personAt, Cond.instanceMethod yX3_personAt, Cond.selects RX3 yX3_personAt yX3_personAt, Cond.initialized RX3, Cond.code yX3_personAt cX3_personAt 3 (some (.object "Leavebank$Person")), Cond.classLink RX3 174 "java/lang/IndexOutOfBoundsException", Cond.initialized "java/lang/IndexOutOfBoundsException", Cond.fieldLink RX3 11 "Leavebank" "persons" "[LLeavebank$Person;", Cond.methodLink RX3 75 yX3_checkDays, Cond.static yX3_checkDays, Cond.code yX3_checkDays cX3_checkDays 3 none, Cond.classLink RX3 28 "java/lang/IllegalArgumentException", Cond.initialized "java/lang/IllegalArgumentException", Cond.methodLink RX3 116 yX1_enterSpell, Cond.instanceMethod yX1_enterSpell, Cond.selects RX1 yX1_enterSpell yX1_enterSpell, Cond.initialized RX1, Cond.code yX1_enterSpell cX1_enterSpell 3 none, Cond.fieldLink RX1 69 "Leavebank$Person" "ownSpellCount" "I", Cond.fieldLink RX1 24 "Leavebank$Person" "spellFirsts" "[I"]
def wsX3_sick_r2 : List Cond := [Cond.fieldLink RX1 27 "Leavebank$Person" "spellLasts" "[I", Cond.methodLink RX1 65 yX1_markLeave, Cond.instanceMethod yX1_markLeave, Cond.selects RX1 yX1_markLeave yX1_markLeave, Cond.code yX1_markLeave cX1_markLeave 4 none, Cond.methodLink RX1 52 Lib.Math.max.name, Cond.static Lib.Math.max.name, Cond.initialized "java/lang/Math", Cond.code Lib.Math.max.name Lib.Math.max.code 2 (some .int), Cond.fieldLink RX1 36 "Leavebank$Person" "leaveKinds" "[I", Cond.methodLink RX1 75 yX1_findLeave, Cond.instanceMethod yX1_findLeave, Cond.selects RX1 yX1_findLeave yX1_findLeave, Cond.code yX1_findLeave cX1_findLeave 5 (some .int), Cond.fieldLink RX1 58 "Leavebank$Person" "ownRequestCount" "I", Cond.fieldLink RX1 20 "Leavebank$Person" "ownRequests" "[LLeavebank$Request;", Cond.fieldLink RX1 89 "Leavebank$Request" "kind" "I", Cond.static yX3_isWorkingDay, Cond.code yX3_isWorkingDay cX3_isWorkingDay 1 (some .boolean), Cond.methodLink RX1 83 yX1_isSickOn, Cond.instanceMethod yX1_isSickOn, Cond.selects RX1 yX1_isSickOn yX1_isSickOn, Cond.code yX1_isSickOn cX1_isSickOn 3 (some .boolean), Cond.methodLink RX1 86 yX2_holdsOn]
def wsX3_sick_r3 : List Cond := [Cond.instanceMethod yX2_holdsOn, Cond.selects RX2 yX2_holdsOn yX2_holdsOn, Cond.initialized RX2, Cond.code yX2_holdsOn cX2_holdsOn 2 (some .boolean), Cond.fieldLink RX2 25 "Leavebank$Request" "isCancelled" "Z", Cond.fieldLink RX2 19 "Leavebank$Request" "firstDay" "I", Cond.fieldLink RX2 22 "Leavebank$Request" "lastDay" "I"]
def wsX3_sick : List Cond := .code yX3_sick cX3_sick 5 (some .int) :: ((wsX3_sick_r1 ++ (wsX3_sick_r2 ++ wsX3_sick_r3)) ++ wsX10 ++ wsX30 ++ wsX20 ++ (vx_atS RX3 47 "java/lang/IllegalStateException" ["java/lang/RuntimeException", "java/lang/Exception"]).filter goodWord ++ (vx_atS RX3 178 "java/lang/IndexOutOfBoundsException" ["java/lang/RuntimeException", "java/lang/Exception"]).filter goodWord ++ (vx_atS RX3 32 "java/lang/IllegalArgumentException" ["java/lang/RuntimeException", "java/lang/Exception"]).filter goodWord)
def wsX3_payOut_r1 : List Cond := [Cond.classLink RX3 28 "java/lang/IllegalArgumentException", Cond.initialized "java/lang/IllegalArgumentException", Cond.classLink RX3 43 "java/lang/IllegalStateException", Cond.initialized "java/lang/IllegalStateException", Cond.fieldLink RX3 121 "Leavebank" "payoutCount" "I", Cond.fieldLink RX3 24 "Leavebank" "ledger" "LLeavebank$Ledger;", Cond.fieldLink RX3 48 "Leavebank" "currentDay" "I", Cond.methodLink RX3 54 yX3_personAt, Cond.instanceMethod yX3_personAt, Cond.selects RX3 yX3_personAt yX3_personAt, Cond.initialized RX3, Cond.code yX3_personAt cX3_personAt 3 (some (.object "Leavebank$Person")), Cond.classLink RX3 174 "java/lang/IndexOutOfBoundsException", Cond.initialized "java/lang/IndexOutOfBoundsException", Cond.fieldLink RX3 11 "Leavebank" "persons" "[LLeavebank$Person;", Cond.methodLink RX3 126 yX0_goThrough, Cond.instanceMethod yX0_goThrough, Cond.selects RX0 yX0_goThrough yX0_goThrough, Cond.initialized RX0, Cond.code yX0_goThrough cX0_goThrough 4 none, Cond.fieldLink RX0 21 "Leavebank$Person" "firstDay" "I", Cond.methodLink RX0 18 yX0_clear, Cond.instanceMethod yX0_clear, Cond.selects RX0 yX0_clear yX0_clear]
def wsX3_payOut_r2 : List Cond := [Cond.code yX0_clear cX0_clear 1 none, Cond.fieldLink RX0 60 "Leavebank$Ledger" "lotCount" "I", Cond.fieldLink RX0 57 "Leavebank$Ledger" "oldestLot" "I", Cond.fieldLink RX0 63 "Leavebank$Ledger" "nextPayout" "I", Cond.fieldLink RX0 66 "Leavebank$Ledger" "debt" "I", Cond.fieldLink RX0 69 "Leavebank$Ledger" "sumEarned" "I", Cond.fieldLink RX0 72 "Leavebank$Ledger" "sumTaken" "I", Cond.fieldLink RX0 75 "Leavebank$Ledger" "sumExpired" "I", Cond.fieldLink RX0 78 "Leavebank$Ledger" "sumPaid" "I", Cond.fieldLink RX0 81 "Leavebank$Ledger" "unpaidDays" "I", Cond.methodLink RX0 27 yX0_isDayOfEarning, Cond.static yX0_isDayOfEarning, Cond.code yX0_isDayOfEarning cX0_isDayOfEarning 2 (some .boolean), Cond.methodLink RX0 31 yX0_pointsOfMonth, Cond.static yX0_pointsOfMonth, Cond.code yX0_pointsOfMonth cX0_pointsOfMonth 4 (some .int), Cond.methodLink RX0 84 Lib.Math.min.name, Cond.static Lib.Math.min.name, Cond.initialized "java/lang/Math", Cond.code Lib.Math.min.name Lib.Math.min.code 2 (some .int), Cond.fieldLink RX0 90 "Leavebank$Person" "right" "I", Cond.methodLink RX0 93 yX1_hoursOn, Cond.instanceMethod yX1_hoursOn, Cond.selects RX1 yX1_hoursOn yX1_hoursOn]
def wsX3_payOut_r3 : List Cond := [Cond.initialized RX1, Cond.code yX1_hoursOn cX1_hoursOn 5 (some .int), Cond.fieldLink RX1 46 "Leavebank$Person" "firstHours" "I", Cond.fieldLink RX1 49 "Leavebank$Person" "changeCount" "I", Cond.fieldLink RX1 9 "Leavebank$Person" "changeDays" "[I", Cond.fieldLink RX1 15 "Leavebank$Person" "changeHours" "[I", Cond.methodLink RX0 35 yX0_expiryOf, Cond.static yX0_expiryOf, Cond.code yX0_expiryOf cX0_expiryOf 2 (some .int), Cond.methodLink RX0 39 yX0_earn, Cond.instanceMethod yX0_earn, Cond.selects RX0 yX0_earn yX0_earn, Cond.code yX0_earn cX0_earn 4 none, Cond.fieldLink RX0 9 "Leavebank$Ledger" "lotPoints" "[I", Cond.fieldLink RX0 15 "Leavebank$Ledger" "lotExpiries" "[I", Cond.methodLink RX0 43 yX0_expireOn, Cond.instanceMethod yX0_expireOn, Cond.selects RX0 yX0_expireOn yX0_expireOn, Cond.code yX0_expireOn cX0_expireOn 2 none, Cond.methodLink RX0 47 yX1_leaveOn, Cond.instanceMethod yX1_leaveOn, Cond.selects RX1 yX1_leaveOn yX1_leaveOn, Cond.code yX1_leaveOn cX1_leaveOn 2 (some .int), Cond.fieldLink RX1 36 "Leavebank$Person" "leaveKinds" "[I"]
def wsX3_payOut_r4 : List Cond := [Cond.methodLink RX0 50 yX0_take, Cond.instanceMethod yX0_take, Cond.selects RX0 yX0_take yX0_take, Cond.code yX0_take cX0_take 4 none, Cond.methodLink RX0 100 Lib.Math.max.name, Cond.static Lib.Math.max.name, Cond.code Lib.Math.max.name Lib.Math.max.code 2 (some .int), Cond.methodLink RX0 96 yX0_pointsInLots, Cond.instanceMethod yX0_pointsInLots, Cond.selects RX0 yX0_pointsInLots yX0_pointsInLots, Cond.code yX0_pointsInLots cX0_pointsInLots 3 (some .int), Cond.methodLink RX0 103 yX0_drawFromLots, Cond.instanceMethod yX0_drawFromLots, Cond.selects RX0 yX0_drawFromLots yX0_drawFromLots, Cond.code yX0_drawFromLots cX0_drawFromLots 5 (some .int), Cond.methodLink RX0 53 yX0_payOn, Cond.instanceMethod yX0_payOn, Cond.selects RX0 yX0_payOn yX0_payOn, Cond.code yX0_payOn cX0_payOn 3 none, Cond.fieldLink RX0 106 "Leavebank$Person" "ownPayoutCount" "I", Cond.fieldLink RX0 109 "Leavebank$Person" "payoutDays" "[I", Cond.fieldLink RX0 112 "Leavebank$Person" "payoutPoints" "[I", Cond.methodLink RX3 130 yX0_pointsInLots, Cond.methodLink RX3 136 yX1_enterPayout]
def wsX3_payOut_r5 : List Cond := [Cond.instanceMethod yX1_enterPayout, Cond.selects RX1 yX1_enterPayout yX1_enterPayout, Cond.code yX1_enterPayout cX1_enterPayout 3 none, Cond.fieldLink RX1 72 "Leavebank$Person" "ownPayoutCount" "I", Cond.fieldLink RX1 30 "Leavebank$Person" "payoutDays" "[I", Cond.fieldLink RX1 33 "Leavebank$Person" "payoutPoints" "[I"]
def wsX3_payOut : List Cond := .code yX3_payOut cX3_payOut 5 (some .int) :: ((wsX3_payOut_r1 ++ (wsX3_payOut_r2 ++ (wsX3_payOut_r3 ++ (wsX3_payOut_r4 ++ wsX3_payOut_r5)))) ++ wsX30 ++ wsX10 ++ wsX00 ++ (vx_atS RX3 32 "java/lang/IllegalArgumentException" ["java/lang/RuntimeException", "java/lang/Exception"]).filter goodWord ++ (vx_atS RX3 47 "java/lang/IllegalStateException" ["java/lang/RuntimeException", "java/lang/Exception"]).filter goodWord ++ (vx_atS RX3 178 "java/lang/IndexOutOfBoundsException" ["java/lang/RuntimeException", "java/lang/Exception"]).filter goodWord)
def wsX3_pass : List Cond := .code yX3_pass cX3_pass 2 (some .int) :: ([.classLink RX3 28 "java/lang/IllegalArgumentException", .initialized "java/lang/IllegalArgumentException", .classLink RX3 43 "java/lang/IllegalStateException", .initialized "java/lang/IllegalStateException", .fieldLink RX3 48 "Leavebank" "currentDay" "I"] ++ wsX30 ++ (vx_atS RX3 32 "java/lang/IllegalArgumentException" ["java/lang/RuntimeException", "java/lang/Exception"]).filter goodWord ++ (vx_atS RX3 47 "java/lang/IllegalStateException" ["java/lang/RuntimeException", "java/lang/Exception"]).filter goodWord)
def wsX3_today : List Cond := .code yX3_today cX3_today 1 (some .int) :: ([.fieldLink RX3 48 "Leavebank" "currentDay" "I"] ++ wsX30)
def wsX3_people : List Cond := .code yX3_people cX3_people 1 (some .int) :: ([.fieldLink RX3 39 "Leavebank" "personCount" "I"] ++ wsX30)
def wsX3_workingDaysAheadOf : List Cond := .code yX3_workingDaysAheadOf cX3_workingDaysAheadOf 2 (some .int) :: ([.methodLink RX3 187 Lib.Math.min.name, .static Lib.Math.min.name, .initialized "java/lang/Math", .code Lib.Math.min.name Lib.Math.min.code 2 (some .int)])
def wsX3_workingDays : List Cond := .code yX3_workingDays cX3_workingDays 3 (some .int) :: ([.methodLink RX3 75 yX3_checkDays, .static yX3_checkDays, .initialized RX3, .code yX3_checkDays cX3_checkDays 3 none, .classLink RX3 28 "java/lang/IllegalArgumentException", .initialized "java/lang/IllegalArgumentException", .methodLink RX3 143 yX3_workingDaysAheadOf, .static yX3_workingDaysAheadOf, .code yX3_workingDaysAheadOf cX3_workingDaysAheadOf 2 (some .int), .methodLink RX3 187 Lib.Math.min.name, .static Lib.Math.min.name, .initialized "java/lang/Math", .code Lib.Math.min.name Lib.Math.min.code 2 (some .int)] ++ (vx_atS RX3 32 "java/lang/IllegalArgumentException" ["java/lang/RuntimeException", "java/lang/Exception"]).filter goodWord)
def wsX3_hours : List Cond := .code yX3_hours cX3_hours 4 (some .int) :: ([.fieldLink RX3 58 "Leavebank$Person" "firstDay" "I", .methodLink RX3 54 yX3_personAt, .instanceMethod yX3_personAt, .selects RX3 yX3_personAt yX3_personAt, .initialized RX3, .code yX3_personAt cX3_personAt 3 (some (.object "Leavebank$Person")), .classLink RX3 174 "java/lang/IndexOutOfBoundsException", .initialized "java/lang/IndexOutOfBoundsException", .fieldLink RX3 11 "Leavebank" "persons" "[LLeavebank$Person;", .methodLink RX3 61 yX3_checkDay, .static yX3_checkDay, .code yX3_checkDay cX3_checkDay 2 none, .classLink RX3 28 "java/lang/IllegalArgumentException", .initialized "java/lang/IllegalArgumentException", .methodLink RX3 65 yX1_hoursOn, .instanceMethod yX1_hoursOn, .selects RX1 yX1_hoursOn yX1_hoursOn, .initialized RX1, .code yX1_hoursOn cX1_hoursOn 5 (some .int), .fieldLink RX1 46 "Leavebank$Person" "firstHours" "I", .fieldLink RX1 49 "Leavebank$Person" "changeCount" "I", .fieldLink RX1 9 "Leavebank$Person" "changeDays" "[I", .fieldLink RX1 15 "Leavebank$Person" "changeHours" "[I"] ++ wsX10 ++ wsX30 ++ (vx_atS RX3 178 "java/lang/IndexOutOfBoundsException" ["java/lang/RuntimeException", "java/lang/Exception"]).filter goodWord ++ (vx_atS RX3 32 "java/lang/IllegalArgumentException" ["java/lang/RuntimeException", "java/lang/Exception"]).filter goodWord)
def wsX3_onLeave : List Cond := .code yX3_onLeave cX3_onLeave 4 (some .int) :: ([.methodLink RX3 54 yX3_personAt, .instanceMethod yX3_personAt, .selects RX3 yX3_personAt yX3_personAt, .initialized RX3, .code yX3_personAt cX3_personAt 3 (some (.object "Leavebank$Person")), .classLink RX3 174 "java/lang/IndexOutOfBoundsException", .initialized "java/lang/IndexOutOfBoundsException", .fieldLink RX3 11 "Leavebank" "persons" "[LLeavebank$Person;", .methodLink RX3 61 yX3_checkDay, .static yX3_checkDay, .code yX3_checkDay cX3_checkDay 2 none, .classLink RX3 28 "java/lang/IllegalArgumentException", .initialized "java/lang/IllegalArgumentException", .methodLink RX3 146 yX1_leaveOn, .instanceMethod yX1_leaveOn, .selects RX1 yX1_leaveOn yX1_leaveOn, .initialized RX1, .code yX1_leaveOn cX1_leaveOn 2 (some .int), .fieldLink RX1 36 "Leavebank$Person" "leaveKinds" "[I"] ++ wsX30 ++ wsX10 ++ (vx_atS RX3 178 "java/lang/IndexOutOfBoundsException" ["java/lang/RuntimeException", "java/lang/Exception"]).filter goodWord ++ (vx_atS RX3 32 "java/lang/IllegalArgumentException" ["java/lang/RuntimeException", "java/lang/Exception"]).filter goodWord)
def wsX3_ledgerBehind_r1 : List Cond := [Cond.fieldLink RX3 24 "Leavebank" "ledger" "LLeavebank$Ledger;", Cond.methodLink RX3 54 yX3_personAt, Cond.instanceMethod yX3_personAt, Cond.selects RX3 yX3_personAt yX3_personAt, Cond.initialized RX3, Cond.code yX3_personAt cX3_personAt 3 (some (.object "Leavebank$Person")), Cond.classLink RX3 174 "java/lang/IndexOutOfBoundsException", Cond.initialized "java/lang/IndexOutOfBoundsException", Cond.fieldLink RX3 11 "Leavebank" "persons" "[LLeavebank$Person;", Cond.methodLink RX3 61 yX3_checkDay, Cond.static yX3_checkDay, Cond.code yX3_checkDay cX3_checkDay 2 none, Cond.classLink RX3 28 "java/lang/IllegalArgumentException", Cond.initialized "java/lang/IllegalArgumentException", Cond.methodLink RX3 126 yX0_goThrough, Cond.instanceMethod yX0_goThrough, Cond.selects RX0 yX0_goThrough yX0_goThrough, Cond.initialized RX0, Cond.code yX0_goThrough cX0_goThrough 4 none, Cond.fieldLink RX0 21 "Leavebank$Person" "firstDay" "I", Cond.methodLink RX0 18 yX0_clear, Cond.instanceMethod yX0_clear, Cond.selects RX0 yX0_clear yX0_clear, Cond.code yX0_clear cX0_clear 1 none]
def wsX3_ledgerBehind_r2 : List Cond := [Cond.fieldLink RX0 60 "Leavebank$Ledger" "lotCount" "I", Cond.fieldLink RX0 57 "Leavebank$Ledger" "oldestLot" "I", Cond.fieldLink RX0 63 "Leavebank$Ledger" "nextPayout" "I", Cond.fieldLink RX0 66 "Leavebank$Ledger" "debt" "I", Cond.fieldLink RX0 69 "Leavebank$Ledger" "sumEarned" "I", Cond.fieldLink RX0 72 "Leavebank$Ledger" "sumTaken" "I", Cond.fieldLink RX0 75 "Leavebank$Ledger" "sumExpired" "I", Cond.fieldLink RX0 78 "Leavebank$Ledger" "sumPaid" "I", Cond.fieldLink RX0 81 "Leavebank$Ledger" "unpaidDays" "I", Cond.methodLink RX0 27 yX0_isDayOfEarning, Cond.static yX0_isDayOfEarning, Cond.code yX0_isDayOfEarning cX0_isDayOfEarning 2 (some .boolean), Cond.methodLink RX0 31 yX0_pointsOfMonth, Cond.static yX0_pointsOfMonth, Cond.code yX0_pointsOfMonth cX0_pointsOfMonth 4 (some .int), Cond.methodLink RX0 84 Lib.Math.min.name, Cond.static Lib.Math.min.name, Cond.initialized "java/lang/Math", Cond.code Lib.Math.min.name Lib.Math.min.code 2 (some .int), Cond.fieldLink RX0 90 "Leavebank$Person" "right" "I", Cond.methodLink RX0 93 yX1_hoursOn, Cond.instanceMethod yX1_hoursOn, Cond.selects RX1 yX1_hoursOn yX1_hoursOn, Cond.initialized RX1]
def wsX3_ledgerBehind_r3 : List Cond := [Cond.code yX1_hoursOn cX1_hoursOn 5 (some .int), Cond.fieldLink RX1 46 "Leavebank$Person" "firstHours" "I", Cond.fieldLink RX1 49 "Leavebank$Person" "changeCount" "I", Cond.fieldLink RX1 9 "Leavebank$Person" "changeDays" "[I", Cond.fieldLink RX1 15 "Leavebank$Person" "changeHours" "[I", Cond.methodLink RX0 35 yX0_expiryOf, Cond.static yX0_expiryOf, Cond.code yX0_expiryOf cX0_expiryOf 2 (some .int), Cond.methodLink RX0 39 yX0_earn, Cond.instanceMethod yX0_earn, Cond.selects RX0 yX0_earn yX0_earn, Cond.code yX0_earn cX0_earn 4 none, Cond.fieldLink RX0 9 "Leavebank$Ledger" "lotPoints" "[I", Cond.fieldLink RX0 15 "Leavebank$Ledger" "lotExpiries" "[I", Cond.methodLink RX0 43 yX0_expireOn, Cond.instanceMethod yX0_expireOn, Cond.selects RX0 yX0_expireOn yX0_expireOn, Cond.code yX0_expireOn cX0_expireOn 2 none, Cond.methodLink RX0 47 yX1_leaveOn, Cond.instanceMethod yX1_leaveOn, Cond.selects RX1 yX1_leaveOn yX1_leaveOn, Cond.code yX1_leaveOn cX1_leaveOn 2 (some .int), Cond.fieldLink RX1 36 "Leavebank$Person" "leaveKinds" "[I", Cond.methodLink RX0 50 yX0_take]
def wsX3_ledgerBehind_r4 : List Cond := [Cond.instanceMethod yX0_take, Cond.selects RX0 yX0_take yX0_take, Cond.code yX0_take cX0_take 4 none, Cond.methodLink RX0 100 Lib.Math.max.name, Cond.static Lib.Math.max.name, Cond.code Lib.Math.max.name Lib.Math.max.code 2 (some .int), Cond.methodLink RX0 96 yX0_pointsInLots, Cond.instanceMethod yX0_pointsInLots, Cond.selects RX0 yX0_pointsInLots yX0_pointsInLots, Cond.code yX0_pointsInLots cX0_pointsInLots 3 (some .int), Cond.methodLink RX0 103 yX0_drawFromLots, Cond.instanceMethod yX0_drawFromLots, Cond.selects RX0 yX0_drawFromLots yX0_drawFromLots, Cond.code yX0_drawFromLots cX0_drawFromLots 5 (some .int), Cond.methodLink RX0 53 yX0_payOn, Cond.instanceMethod yX0_payOn, Cond.selects RX0 yX0_payOn yX0_payOn, Cond.code yX0_payOn cX0_payOn 3 none, Cond.fieldLink RX0 106 "Leavebank$Person" "ownPayoutCount" "I", Cond.fieldLink RX0 109 "Leavebank$Person" "payoutDays" "[I", Cond.fieldLink RX0 112 "Leavebank$Person" "payoutPoints" "[I"]
def wsX3_ledgerBehind : List Cond := .code yX3_ledgerBehind cX3_ledgerBehind 4 (some (.object "Leavebank$Ledger")) :: ((wsX3_ledgerBehind_r1 ++ (wsX3_ledgerBehind_r2 ++ (wsX3_ledgerBehind_r3 ++ wsX3_ledgerBehind_r4))) ++ wsX30 ++ wsX10 ++ wsX00 ++ (vx_atS RX3 178 "java/lang/IndexOutOfBoundsException" ["java/lang/RuntimeException", "java/lang/Exception"]).filter goodWord ++ (vx_atS RX3 32 "java/lang/IllegalArgumentException" ["java/lang/RuntimeException", "java/lang/Exception"]).filter goodWord)
def wsX3_balance_r1 : List Cond := [Cond.fieldLink RX3 153 "Leavebank$Ledger" "debt" "I", Cond.methodLink RX3 149 yX3_ledgerBehind, Cond.instanceMethod yX3_ledgerBehind, Cond.selects RX3 yX3_ledgerBehind yX3_ledgerBehind, Cond.initialized RX3, Cond.code yX3_ledgerBehind cX3_ledgerBehind 4 (some (.object "Leavebank$Ledger")), Cond.fieldLink RX3 24 "Leavebank" "ledger" "LLeavebank$Ledger;", Cond.methodLink RX3 54 yX3_personAt, Cond.instanceMethod yX3_personAt, Cond.selects RX3 yX3_personAt yX3_personAt, Cond.code yX3_personAt cX3_personAt 3 (some (.object "Leavebank$Person")), Cond.classLink RX3 174 "java/lang/IndexOutOfBoundsException", Cond.initialized "java/lang/IndexOutOfBoundsException", Cond.fieldLink RX3 11 "Leavebank" "persons" "[LLeavebank$Person;", Cond.methodLink RX3 61 yX3_checkDay, Cond.static yX3_checkDay, Cond.code yX3_checkDay cX3_checkDay 2 none, Cond.classLink RX3 28 "java/lang/IllegalArgumentException", Cond.initialized "java/lang/IllegalArgumentException", Cond.methodLink RX3 126 yX0_goThrough, Cond.instanceMethod yX0_goThrough, Cond.selects RX0 yX0_goThrough yX0_goThrough, Cond.initialized RX0, Cond.code yX0_goThrough cX0_goThrough 4 none]
def wsX3_balance_r2 : List Cond := [Cond.fieldLink RX0 21 "Leavebank$Person" "firstDay" "I", Cond.methodLink RX0 18 yX0_clear, Cond.instanceMethod yX0_clear, Cond.selects RX0 yX0_clear yX0_clear, Cond.code yX0_clear cX0_clear 1 none, Cond.fieldLink RX0 60 "Leavebank$Ledger" "lotCount" "I", Cond.fieldLink RX0 57 "Leavebank$Ledger" "oldestLot" "I", Cond.fieldLink RX0 63 "Leavebank$Ledger" "nextPayout" "I", Cond.fieldLink RX0 66 "Leavebank$Ledger" "debt" "I", Cond.fieldLink RX0 69 "Leavebank$Ledger" "sumEarned" "I", Cond.fieldLink RX0 72 "Leavebank$Ledger" "sumTaken" "I", Cond.fieldLink RX0 75 "Leavebank$Ledger" "sumExpired" "I", Cond.fieldLink RX0 78 "Leavebank$Ledger" "sumPaid" "I", Cond.fieldLink RX0 81 "Leavebank$Ledger" "unpaidDays" "I", Cond.methodLink RX0 27 yX0_isDayOfEarning, Cond.static yX0_isDayOfEarning, Cond.code yX0_isDayOfEarning cX0_isDayOfEarning 2 (some .boolean), Cond.methodLink RX0 31 yX0_pointsOfMonth, Cond.static yX0_pointsOfMonth, Cond.code yX0_pointsOfMonth cX0_pointsOfMonth 4 (some .int), Cond.methodLink RX0 84 Lib.Math.min.name, Cond.static Lib.Math.min.name, Cond.initialized "java/lang/Math", Cond.code Lib.Math.min.name Lib.Math.min.code 2 (some .int)]
def wsX3_balance_r3 : List Cond := [Cond.fieldLink RX0 90 "Leavebank$Person" "right" "I", Cond.methodLink RX0 93 yX1_hoursOn, Cond.instanceMethod yX1_hoursOn, Cond.selects RX1 yX1_hoursOn yX1_hoursOn, Cond.initialized RX1, Cond.code yX1_hoursOn cX1_hoursOn 5 (some .int), Cond.fieldLink RX1 46 "Leavebank$Person" "firstHours" "I", Cond.fieldLink RX1 49 "Leavebank$Person" "changeCount" "I", Cond.fieldLink RX1 9 "Leavebank$Person" "changeDays" "[I", Cond.fieldLink RX1 15 "Leavebank$Person" "changeHours" "[I", Cond.methodLink RX0 35 yX0_expiryOf, Cond.static yX0_expiryOf, Cond.code yX0_expiryOf cX0_expiryOf 2 (some .int), Cond.methodLink RX0 39 yX0_earn, Cond.instanceMethod yX0_earn, Cond.selects RX0 yX0_earn yX0_earn, Cond.code yX0_earn cX0_earn 4 none, Cond.fieldLink RX0 9 "Leavebank$Ledger" "lotPoints" "[I", Cond.fieldLink RX0 15 "Leavebank$Ledger" "lotExpiries" "[I", Cond.methodLink RX0 43 yX0_expireOn, Cond.instanceMethod yX0_expireOn, Cond.selects RX0 yX0_expireOn yX0_expireOn, Cond.code yX0_expireOn cX0_expireOn 2 none, Cond.methodLink RX0 47 yX1_leaveOn]
def wsX3_balance_r4 : List Cond := [Cond.instanceMethod yX1_leaveOn, Cond.selects RX1 yX1_leaveOn yX1_leaveOn, Cond.code yX1_leaveOn cX1_leaveOn 2 (some .int), Cond.fieldLink RX1 36 "Leavebank$Person" "leaveKinds" "[I", Cond.methodLink RX0 50 yX0_take, Cond.instanceMethod yX0_take, Cond.selects RX0 yX0_take yX0_take, Cond.code yX0_take cX0_take 4 none, Cond.methodLink RX0 100 Lib.Math.max.name, Cond.static Lib.Math.max.name, Cond.code Lib.Math.max.name Lib.Math.max.code 2 (some .int), Cond.methodLink RX0 96 yX0_pointsInLots, Cond.instanceMethod yX0_pointsInLots, Cond.selects RX0 yX0_pointsInLots yX0_pointsInLots, Cond.code yX0_pointsInLots cX0_pointsInLots 3 (some .int), Cond.methodLink RX0 103 yX0_drawFromLots, Cond.instanceMethod yX0_drawFromLots, Cond.selects RX0 yX0_drawFromLots yX0_drawFromLots, Cond.code yX0_drawFromLots cX0_drawFromLots 5 (some .int), Cond.methodLink RX0 53 yX0_payOn, Cond.instanceMethod yX0_payOn, Cond.selects RX0 yX0_payOn yX0_payOn, Cond.code yX0_payOn cX0_payOn 3 none, Cond.fieldLink RX0 106 "Leavebank$Person" "ownPayoutCount" "I"]
def wsX3_balance_r5 : List Cond := [Cond.fieldLink RX0 109 "Leavebank$Person" "payoutDays" "[I", Cond.fieldLink RX0 112 "Leavebank$Person" "payoutPoints" "[I", Cond.methodLink RX3 130 yX0_pointsInLots]
def wsX3_balance : List Cond := .code yX3_balance cX3_balance 4 (some .int) :: ((wsX3_balance_r1 ++ (wsX3_balance_r2 ++ (wsX3_balance_r3 ++ (wsX3_balance_r4 ++ wsX3_balance_r5)))) ++ wsX00 ++ wsX30 ++ wsX10 ++ (vx_atS RX3 178 "java/lang/IndexOutOfBoundsException" ["java/lang/RuntimeException", "java/lang/Exception"]).filter goodWord ++ (vx_atS RX3 32 "java/lang/IllegalArgumentException" ["java/lang/RuntimeException", "java/lang/Exception"]).filter goodWord)
def wsX3_balanceBySums_r1 : List Cond := [Cond.fieldLink RX3 156 "Leavebank$Ledger" "sumEarned" "I", Cond.fieldLink RX3 159 "Leavebank$Ledger" "sumTaken" "I", Cond.fieldLink RX3 162 "Leavebank$Ledger" "sumExpired" "I", Cond.fieldLink RX3 165 "Leavebank$Ledger" "sumPaid" "I", Cond.methodLink RX3 149 yX3_ledgerBehind, Cond.instanceMethod yX3_ledgerBehind, Cond.selects RX3 yX3_ledgerBehind yX3_ledgerBehind, Cond.initialized RX3, Cond.code yX3_ledgerBehind cX3_ledgerBehind 4 (some (.object "Leavebank$Ledger")), Cond.fieldLink RX3 24 "Leavebank" "ledger" "LLeavebank$Ledger;", Cond.methodLink RX3 54 yX3_personAt, Cond.instanceMethod yX3_personAt, Cond.selects RX3 yX3_personAt yX3_personAt, Cond.code yX3_personAt cX3_personAt 3 (some (.object "Leavebank$Person")), Cond.classLink RX3 174 "java/lang/IndexOutOfBoundsException", Cond.initialized "java/lang/IndexOutOfBoundsException", Cond.fieldLink RX3 11 "Leavebank" "persons" "[LLeavebank$Person;", Cond.methodLink RX3 61 yX3_checkDay, Cond.static yX3_checkDay, Cond.code yX3_checkDay cX3_checkDay 2 none, Cond.classLink RX3 28 "java/lang/IllegalArgumentException", Cond.initialized "java/lang/IllegalArgumentException", Cond.methodLink RX3 126 yX0_goThrough, Cond.instanceMethod yX0_goThrough]
def wsX3_balanceBySums_r2 : List Cond := [Cond.selects RX0 yX0_goThrough yX0_goThrough, Cond.initialized RX0, Cond.code yX0_goThrough cX0_goThrough 4 none, Cond.fieldLink RX0 21 "Leavebank$Person" "firstDay" "I", Cond.methodLink RX0 18 yX0_clear, Cond.instanceMethod yX0_clear, Cond.selects RX0 yX0_clear yX0_clear, Cond.code yX0_clear cX0_clear 1 none, Cond.fieldLink RX0 60 "Leavebank$Ledger" "lotCount" "I", Cond.fieldLink RX0 57 "Leavebank$Ledger" "oldestLot" "I", Cond.fieldLink RX0 63 "Leavebank$Ledger" "nextPayout" "I", Cond.fieldLink RX0 66 "Leavebank$Ledger" "debt" "I", Cond.fieldLink RX0 69 "Leavebank$Ledger" "sumEarned" "I", Cond.fieldLink RX0 72 "Leavebank$Ledger" "sumTaken" "I", Cond.fieldLink RX0 75 "Leavebank$Ledger" "sumExpired" "I", Cond.fieldLink RX0 78 "Leavebank$Ledger" "sumPaid" "I", Cond.fieldLink RX0 81 "Leavebank$Ledger" "unpaidDays" "I", Cond.methodLink RX0 27 yX0_isDayOfEarning, Cond.static yX0_isDayOfEarning, Cond.code yX0_isDayOfEarning cX0_isDayOfEarning 2 (some .boolean), Cond.methodLink RX0 31 yX0_pointsOfMonth, Cond.static yX0_pointsOfMonth, Cond.code yX0_pointsOfMonth cX0_pointsOfMonth 4 (some .int), Cond.methodLink RX0 84 Lib.Math.min.name]
def wsX3_balanceBySums_r3 : List Cond := [Cond.static Lib.Math.min.name, Cond.initialized "java/lang/Math", Cond.code Lib.Math.min.name Lib.Math.min.code 2 (some .int), Cond.fieldLink RX0 90 "Leavebank$Person" "right" "I", Cond.methodLink RX0 93 yX1_hoursOn, Cond.instanceMethod yX1_hoursOn, Cond.selects RX1 yX1_hoursOn yX1_hoursOn, Cond.initialized RX1, Cond.code yX1_hoursOn cX1_hoursOn 5 (some .int), Cond.fieldLink RX1 46 "Leavebank$Person" "firstHours" "I", Cond.fieldLink RX1 49 "Leavebank$Person" "changeCount" "I", Cond.fieldLink RX1 9 "Leavebank$Person" "changeDays" "[I", Cond.fieldLink RX1 15 "Leavebank$Person" "changeHours" "[I", Cond.methodLink RX0 35 yX0_expiryOf, Cond.static yX0_expiryOf, Cond.code yX0_expiryOf cX0_expiryOf 2 (some .int), Cond.methodLink RX0 39 yX0_earn, Cond.instanceMethod yX0_earn, Cond.selects RX0 yX0_earn yX0_earn, Cond.code yX0_earn cX0_earn 4 none, Cond.fieldLink RX0 9 "Leavebank$Ledger" "lotPoints" "[I", Cond.fieldLink RX0 15 "Leavebank$Ledger" "lotExpiries" "[I", Cond.methodLink RX0 43 yX0_expireOn, Cond.instanceMethod yX0_expireOn]
def wsX3_balanceBySums_r4 : List Cond := [Cond.selects RX0 yX0_expireOn yX0_expireOn, Cond.code yX0_expireOn cX0_expireOn 2 none, Cond.methodLink RX0 47 yX1_leaveOn, Cond.instanceMethod yX1_leaveOn, Cond.selects RX1 yX1_leaveOn yX1_leaveOn, Cond.code yX1_leaveOn cX1_leaveOn 2 (some .int), Cond.fieldLink RX1 36 "Leavebank$Person" "leaveKinds" "[I", Cond.methodLink RX0 50 yX0_take, Cond.instanceMethod yX0_take, Cond.selects RX0 yX0_take yX0_take, Cond.code yX0_take cX0_take 4 none, Cond.methodLink RX0 100 Lib.Math.max.name, Cond.static Lib.Math.max.name, Cond.code Lib.Math.max.name Lib.Math.max.code 2 (some .int), Cond.methodLink RX0 96 yX0_pointsInLots, Cond.instanceMethod yX0_pointsInLots, Cond.selects RX0 yX0_pointsInLots yX0_pointsInLots, Cond.code yX0_pointsInLots cX0_pointsInLots 3 (some .int), Cond.methodLink RX0 103 yX0_drawFromLots, Cond.instanceMethod yX0_drawFromLots, Cond.selects RX0 yX0_drawFromLots yX0_drawFromLots, Cond.code yX0_drawFromLots cX0_drawFromLots 5 (some .int), Cond.methodLink RX0 53 yX0_payOn, Cond.instanceMethod yX0_payOn]
def wsX3_balanceBySums_r5 : List Cond := [Cond.selects RX0 yX0_payOn yX0_payOn, Cond.code yX0_payOn cX0_payOn 3 none, Cond.fieldLink RX0 106 "Leavebank$Person" "ownPayoutCount" "I", Cond.fieldLink RX0 109 "Leavebank$Person" "payoutDays" "[I", Cond.fieldLink RX0 112 "Leavebank$Person" "payoutPoints" "[I"]
def wsX3_balanceBySums : List Cond := .code yX3_balanceBySums cX3_balanceBySums 4 (some .int) :: ((wsX3_balanceBySums_r1 ++ (wsX3_balanceBySums_r2 ++ (wsX3_balanceBySums_r3 ++ (wsX3_balanceBySums_r4 ++ wsX3_balanceBySums_r5)))) ++ wsX00 ++ wsX30 ++ wsX10 ++ (vx_atS RX3 178 "java/lang/IndexOutOfBoundsException" ["java/lang/RuntimeException", "java/lang/Exception"]).filter goodWord ++ (vx_atS RX3 32 "java/lang/IllegalArgumentException" ["java/lang/RuntimeException", "java/lang/Exception"]).filter goodWord)
def wsX3_earned_r1 : List Cond := [Cond.fieldLink RX3 156 "Leavebank$Ledger" "sumEarned" "I", Cond.methodLink RX3 149 yX3_ledgerBehind, Cond.instanceMethod yX3_ledgerBehind, Cond.selects RX3 yX3_ledgerBehind yX3_ledgerBehind, Cond.initialized RX3, Cond.code yX3_ledgerBehind cX3_ledgerBehind 4 (some (.object "Leavebank$Ledger")), Cond.fieldLink RX3 24 "Leavebank" "ledger" "LLeavebank$Ledger;", Cond.methodLink RX3 54 yX3_personAt, Cond.instanceMethod yX3_personAt, Cond.selects RX3 yX3_personAt yX3_personAt, Cond.code yX3_personAt cX3_personAt 3 (some (.object "Leavebank$Person")), Cond.classLink RX3 174 "java/lang/IndexOutOfBoundsException", Cond.initialized "java/lang/IndexOutOfBoundsException", Cond.fieldLink RX3 11 "Leavebank" "persons" "[LLeavebank$Person;", Cond.methodLink RX3 61 yX3_checkDay, Cond.static yX3_checkDay, Cond.code yX3_checkDay cX3_checkDay 2 none, Cond.classLink RX3 28 "java/lang/IllegalArgumentException", Cond.initialized "java/lang/IllegalArgumentException", Cond.methodLink RX3 126 yX0_goThrough, Cond.instanceMethod yX0_goThrough, Cond.selects RX0 yX0_goThrough yX0_goThrough, Cond.initialized RX0, Cond.code yX0_goThrough cX0_goThrough 4 none]
def wsX3_earned_r2 : List Cond := [Cond.fieldLink RX0 21 "Leavebank$Person" "firstDay" "I", Cond.methodLink RX0 18 yX0_clear, Cond.instanceMethod yX0_clear, Cond.selects RX0 yX0_clear yX0_clear, Cond.code yX0_clear cX0_clear 1 none, Cond.fieldLink RX0 60 "Leavebank$Ledger" "lotCount" "I", Cond.fieldLink RX0 57 "Leavebank$Ledger" "oldestLot" "I", Cond.fieldLink RX0 63 "Leavebank$Ledger" "nextPayout" "I", Cond.fieldLink RX0 66 "Leavebank$Ledger" "debt" "I", Cond.fieldLink RX0 69 "Leavebank$Ledger" "sumEarned" "I", Cond.fieldLink RX0 72 "Leavebank$Ledger" "sumTaken" "I", Cond.fieldLink RX0 75 "Leavebank$Ledger" "sumExpired" "I", Cond.fieldLink RX0 78 "Leavebank$Ledger" "sumPaid" "I", Cond.fieldLink RX0 81 "Leavebank$Ledger" "unpaidDays" "I", Cond.methodLink RX0 27 yX0_isDayOfEarning, Cond.static yX0_isDayOfEarning, Cond.code yX0_isDayOfEarning cX0_isDayOfEarning 2 (some .boolean), Cond.methodLink RX0 31 yX0_pointsOfMonth, Cond.static yX0_pointsOfMonth, Cond.code yX0_pointsOfMonth cX0_pointsOfMonth 4 (some .int), Cond.methodLink RX0 84 Lib.Math.min.name, Cond.static Lib.Math.min.name, Cond.initialized "java/lang/Math", Cond.code Lib.Math.min.name Lib.Math.min.code 2 (some .int)]
def wsX3_earned_r3 : List Cond := [Cond.fieldLink RX0 90 "Leavebank$Person" "right" "I", Cond.methodLink RX0 93 yX1_hoursOn, Cond.instanceMethod yX1_hoursOn, Cond.selects RX1 yX1_hoursOn yX1_hoursOn, Cond.initialized RX1, Cond.code yX1_hoursOn cX1_hoursOn 5 (some .int), Cond.fieldLink RX1 46 "Leavebank$Person" "firstHours" "I", Cond.fieldLink RX1 49 "Leavebank$Person" "changeCount" "I", Cond.fieldLink RX1 9 "Leavebank$Person" "changeDays" "[I", Cond.fieldLink RX1 15 "Leavebank$Person" "changeHours" "[I", Cond.methodLink RX0 35 yX0_expiryOf, Cond.static yX0_expiryOf, Cond.code yX0_expiryOf cX0_expiryOf 2 (some .int), Cond.methodLink RX0 39 yX0_earn, Cond.instanceMethod yX0_earn, Cond.selects RX0 yX0_earn yX0_earn, Cond.code yX0_earn cX0_earn 4 none, Cond.fieldLink RX0 9 "Leavebank$Ledger" "lotPoints" "[I", Cond.fieldLink RX0 15 "Leavebank$Ledger" "lotExpiries" "[I", Cond.methodLink RX0 43 yX0_expireOn, Cond.instanceMethod yX0_expireOn, Cond.selects RX0 yX0_expireOn yX0_expireOn, Cond.code yX0_expireOn cX0_expireOn 2 none, Cond.methodLink RX0 47 yX1_leaveOn]
def wsX3_earned_r4 : List Cond := [Cond.instanceMethod yX1_leaveOn, Cond.selects RX1 yX1_leaveOn yX1_leaveOn, Cond.code yX1_leaveOn cX1_leaveOn 2 (some .int), Cond.fieldLink RX1 36 "Leavebank$Person" "leaveKinds" "[I", Cond.methodLink RX0 50 yX0_take, Cond.instanceMethod yX0_take, Cond.selects RX0 yX0_take yX0_take, Cond.code yX0_take cX0_take 4 none, Cond.methodLink RX0 100 Lib.Math.max.name, Cond.static Lib.Math.max.name, Cond.code Lib.Math.max.name Lib.Math.max.code 2 (some .int), Cond.methodLink RX0 96 yX0_pointsInLots, Cond.instanceMethod yX0_pointsInLots, Cond.selects RX0 yX0_pointsInLots yX0_pointsInLots, Cond.code yX0_pointsInLots cX0_pointsInLots 3 (some .int), Cond.methodLink RX0 103 yX0_drawFromLots, Cond.instanceMethod yX0_drawFromLots, Cond.selects RX0 yX0_drawFromLots yX0_drawFromLots, Cond.code yX0_drawFromLots cX0_drawFromLots 5 (some .int), Cond.methodLink RX0 53 yX0_payOn, Cond.instanceMethod yX0_payOn, Cond.selects RX0 yX0_payOn yX0_payOn, Cond.code yX0_payOn cX0_payOn 3 none, Cond.fieldLink RX0 106 "Leavebank$Person" "ownPayoutCount" "I"]
def wsX3_earned_r5 : List Cond := [Cond.fieldLink RX0 109 "Leavebank$Person" "payoutDays" "[I", Cond.fieldLink RX0 112 "Leavebank$Person" "payoutPoints" "[I"]
def wsX3_earned : List Cond := .code yX3_earned cX3_earned 3 (some .int) :: ((wsX3_earned_r1 ++ (wsX3_earned_r2 ++ (wsX3_earned_r3 ++ (wsX3_earned_r4 ++ wsX3_earned_r5)))) ++ wsX00 ++ wsX30 ++ wsX10 ++ (vx_atS RX3 178 "java/lang/IndexOutOfBoundsException" ["java/lang/RuntimeException", "java/lang/Exception"]).filter goodWord ++ (vx_atS RX3 32 "java/lang/IllegalArgumentException" ["java/lang/RuntimeException", "java/lang/Exception"]).filter goodWord)
def wsX3_taken_r1 : List Cond := [Cond.fieldLink RX3 159 "Leavebank$Ledger" "sumTaken" "I", Cond.methodLink RX3 149 yX3_ledgerBehind, Cond.instanceMethod yX3_ledgerBehind, Cond.selects RX3 yX3_ledgerBehind yX3_ledgerBehind, Cond.initialized RX3, Cond.code yX3_ledgerBehind cX3_ledgerBehind 4 (some (.object "Leavebank$Ledger")), Cond.fieldLink RX3 24 "Leavebank" "ledger" "LLeavebank$Ledger;", Cond.methodLink RX3 54 yX3_personAt, Cond.instanceMethod yX3_personAt, Cond.selects RX3 yX3_personAt yX3_personAt, Cond.code yX3_personAt cX3_personAt 3 (some (.object "Leavebank$Person")), Cond.classLink RX3 174 "java/lang/IndexOutOfBoundsException", Cond.initialized "java/lang/IndexOutOfBoundsException", Cond.fieldLink RX3 11 "Leavebank" "persons" "[LLeavebank$Person;", Cond.methodLink RX3 61 yX3_checkDay, Cond.static yX3_checkDay, Cond.code yX3_checkDay cX3_checkDay 2 none, Cond.classLink RX3 28 "java/lang/IllegalArgumentException", Cond.initialized "java/lang/IllegalArgumentException", Cond.methodLink RX3 126 yX0_goThrough, Cond.instanceMethod yX0_goThrough, Cond.selects RX0 yX0_goThrough yX0_goThrough, Cond.initialized RX0, Cond.code yX0_goThrough cX0_goThrough 4 none]
def wsX3_taken_r2 : List Cond := [Cond.fieldLink RX0 21 "Leavebank$Person" "firstDay" "I", Cond.methodLink RX0 18 yX0_clear, Cond.instanceMethod yX0_clear, Cond.selects RX0 yX0_clear yX0_clear, Cond.code yX0_clear cX0_clear 1 none, Cond.fieldLink RX0 60 "Leavebank$Ledger" "lotCount" "I", Cond.fieldLink RX0 57 "Leavebank$Ledger" "oldestLot" "I", Cond.fieldLink RX0 63 "Leavebank$Ledger" "nextPayout" "I", Cond.fieldLink RX0 66 "Leavebank$Ledger" "debt" "I", Cond.fieldLink RX0 69 "Leavebank$Ledger" "sumEarned" "I", Cond.fieldLink RX0 72 "Leavebank$Ledger" "sumTaken" "I", Cond.fieldLink RX0 75 "Leavebank$Ledger" "sumExpired" "I", Cond.fieldLink RX0 78 "Leavebank$Ledger" "sumPaid" "I", Cond.fieldLink RX0 81 "Leavebank$Ledger" "unpaidDays" "I", Cond.methodLink RX0 27 yX0_isDayOfEarning, Cond.static yX0_isDayOfEarning, Cond.code yX0_isDayOfEarning cX0_isDayOfEarning 2 (some .boolean), Cond.methodLink RX0 31 yX0_pointsOfMonth, Cond.static yX0_pointsOfMonth, Cond.code yX0_pointsOfMonth cX0_pointsOfMonth 4 (some .int), Cond.methodLink RX0 84 Lib.Math.min.name, Cond.static Lib.Math.min.name, Cond.initialized "java/lang/Math", Cond.code Lib.Math.min.name Lib.Math.min.code 2 (some .int)]
def wsX3_taken_r3 : List Cond := [Cond.fieldLink RX0 90 "Leavebank$Person" "right" "I", Cond.methodLink RX0 93 yX1_hoursOn, Cond.instanceMethod yX1_hoursOn, Cond.selects RX1 yX1_hoursOn yX1_hoursOn, Cond.initialized RX1, Cond.code yX1_hoursOn cX1_hoursOn 5 (some .int), Cond.fieldLink RX1 46 "Leavebank$Person" "firstHours" "I", Cond.fieldLink RX1 49 "Leavebank$Person" "changeCount" "I", Cond.fieldLink RX1 9 "Leavebank$Person" "changeDays" "[I", Cond.fieldLink RX1 15 "Leavebank$Person" "changeHours" "[I", Cond.methodLink RX0 35 yX0_expiryOf, Cond.static yX0_expiryOf, Cond.code yX0_expiryOf cX0_expiryOf 2 (some .int), Cond.methodLink RX0 39 yX0_earn, Cond.instanceMethod yX0_earn, Cond.selects RX0 yX0_earn yX0_earn, Cond.code yX0_earn cX0_earn 4 none, Cond.fieldLink RX0 9 "Leavebank$Ledger" "lotPoints" "[I", Cond.fieldLink RX0 15 "Leavebank$Ledger" "lotExpiries" "[I", Cond.methodLink RX0 43 yX0_expireOn, Cond.instanceMethod yX0_expireOn, Cond.selects RX0 yX0_expireOn yX0_expireOn, Cond.code yX0_expireOn cX0_expireOn 2 none, Cond.methodLink RX0 47 yX1_leaveOn]
def wsX3_taken_r4 : List Cond := [Cond.instanceMethod yX1_leaveOn, Cond.selects RX1 yX1_leaveOn yX1_leaveOn, Cond.code yX1_leaveOn cX1_leaveOn 2 (some .int), Cond.fieldLink RX1 36 "Leavebank$Person" "leaveKinds" "[I", Cond.methodLink RX0 50 yX0_take, Cond.instanceMethod yX0_take, Cond.selects RX0 yX0_take yX0_take, Cond.code yX0_take cX0_take 4 none, Cond.methodLink RX0 100 Lib.Math.max.name, Cond.static Lib.Math.max.name, Cond.code Lib.Math.max.name Lib.Math.max.code 2 (some .int), Cond.methodLink RX0 96 yX0_pointsInLots, Cond.instanceMethod yX0_pointsInLots, Cond.selects RX0 yX0_pointsInLots yX0_pointsInLots, Cond.code yX0_pointsInLots cX0_pointsInLots 3 (some .int), Cond.methodLink RX0 103 yX0_drawFromLots, Cond.instanceMethod yX0_drawFromLots, Cond.selects RX0 yX0_drawFromLots yX0_drawFromLots, Cond.code yX0_drawFromLots cX0_drawFromLots 5 (some .int), Cond.methodLink RX0 53 yX0_payOn, Cond.instanceMethod yX0_payOn, Cond.selects RX0 yX0_payOn yX0_payOn, Cond.code yX0_payOn cX0_payOn 3 none, Cond.fieldLink RX0 106 "Leavebank$Person" "ownPayoutCount" "I"]
def wsX3_taken_r5 : List Cond := [Cond.fieldLink RX0 109 "Leavebank$Person" "payoutDays" "[I", Cond.fieldLink RX0 112 "Leavebank$Person" "payoutPoints" "[I"]
def wsX3_taken : List Cond := .code yX3_taken cX3_taken 3 (some .int) :: ((wsX3_taken_r1 ++ (wsX3_taken_r2 ++ (wsX3_taken_r3 ++ (wsX3_taken_r4 ++ wsX3_taken_r5)))) ++ wsX00 ++ wsX30 ++ wsX10 ++ (vx_atS RX3 178 "java/lang/IndexOutOfBoundsException" ["java/lang/RuntimeException", "java/lang/Exception"]).filter goodWord ++ (vx_atS RX3 32 "java/lang/IllegalArgumentException" ["java/lang/RuntimeException", "java/lang/Exception"]).filter goodWord)
def wsX3_expired_r1 : List Cond := [Cond.fieldLink RX3 162 "Leavebank$Ledger" "sumExpired" "I", Cond.methodLink RX3 149 yX3_ledgerBehind, Cond.instanceMethod yX3_ledgerBehind, Cond.selects RX3 yX3_ledgerBehind yX3_ledgerBehind, Cond.initialized RX3, Cond.code yX3_ledgerBehind cX3_ledgerBehind 4 (some (.object "Leavebank$Ledger")), Cond.fieldLink RX3 24 "Leavebank" "ledger" "LLeavebank$Ledger;", Cond.methodLink RX3 54 yX3_personAt, Cond.instanceMethod yX3_personAt, Cond.selects RX3 yX3_personAt yX3_personAt, Cond.code yX3_personAt cX3_personAt 3 (some (.object "Leavebank$Person")), Cond.classLink RX3 174 "java/lang/IndexOutOfBoundsException", Cond.initialized "java/lang/IndexOutOfBoundsException", Cond.fieldLink RX3 11 "Leavebank" "persons" "[LLeavebank$Person;", Cond.methodLink RX3 61 yX3_checkDay, Cond.static yX3_checkDay, Cond.code yX3_checkDay cX3_checkDay 2 none, Cond.classLink RX3 28 "java/lang/IllegalArgumentException", Cond.initialized "java/lang/IllegalArgumentException", Cond.methodLink RX3 126 yX0_goThrough, Cond.instanceMethod yX0_goThrough, Cond.selects RX0 yX0_goThrough yX0_goThrough, Cond.initialized RX0, Cond.code yX0_goThrough cX0_goThrough 4 none]
def wsX3_expired_r2 : List Cond := [Cond.fieldLink RX0 21 "Leavebank$Person" "firstDay" "I", Cond.methodLink RX0 18 yX0_clear, Cond.instanceMethod yX0_clear, Cond.selects RX0 yX0_clear yX0_clear, Cond.code yX0_clear cX0_clear 1 none, Cond.fieldLink RX0 60 "Leavebank$Ledger" "lotCount" "I", Cond.fieldLink RX0 57 "Leavebank$Ledger" "oldestLot" "I", Cond.fieldLink RX0 63 "Leavebank$Ledger" "nextPayout" "I", Cond.fieldLink RX0 66 "Leavebank$Ledger" "debt" "I", Cond.fieldLink RX0 69 "Leavebank$Ledger" "sumEarned" "I", Cond.fieldLink RX0 72 "Leavebank$Ledger" "sumTaken" "I", Cond.fieldLink RX0 75 "Leavebank$Ledger" "sumExpired" "I", Cond.fieldLink RX0 78 "Leavebank$Ledger" "sumPaid" "I", Cond.fieldLink RX0 81 "Leavebank$Ledger" "unpaidDays" "I", Cond.methodLink RX0 27 yX0_isDayOfEarning, Cond.static yX0_isDayOfEarning, Cond.code yX0_isDayOfEarning cX0_isDayOfEarning 2 (some .boolean), Cond.methodLink RX0 31 yX0_pointsOfMonth, Cond.static yX0_pointsOfMonth, Cond.code yX0_pointsOfMonth cX0_pointsOfMonth 4 (some .int), Cond.methodLink RX0 84 Lib.Math.min.name, Cond.static Lib.Math.min.name, Cond.initialized "java/lang/Math", Cond.code Lib.Math.min.name Lib.Math.min.code 2 (some .int)]
def wsX3_expired_r3 : List Cond := [Cond.fieldLink RX0 90 "Leavebank$Person" "right" "I", Cond.methodLink RX0 93 yX1_hoursOn, Cond.instanceMethod yX1_hoursOn, Cond.selects RX1 yX1_hoursOn yX1_hoursOn, Cond.initialized RX1, Cond.code yX1_hoursOn cX1_hoursOn 5 (some .int), Cond.fieldLink RX1 46 "Leavebank$Person" "firstHours" "I", Cond.fieldLink RX1 49 "Leavebank$Person" "changeCount" "I", Cond.fieldLink RX1 9 "Leavebank$Person" "changeDays" "[I", Cond.fieldLink RX1 15 "Leavebank$Person" "changeHours" "[I", Cond.methodLink RX0 35 yX0_expiryOf, Cond.static yX0_expiryOf, Cond.code yX0_expiryOf cX0_expiryOf 2 (some .int), Cond.methodLink RX0 39 yX0_earn, Cond.instanceMethod yX0_earn, Cond.selects RX0 yX0_earn yX0_earn, Cond.code yX0_earn cX0_earn 4 none, Cond.fieldLink RX0 9 "Leavebank$Ledger" "lotPoints" "[I", Cond.fieldLink RX0 15 "Leavebank$Ledger" "lotExpiries" "[I", Cond.methodLink RX0 43 yX0_expireOn, Cond.instanceMethod yX0_expireOn, Cond.selects RX0 yX0_expireOn yX0_expireOn, Cond.code yX0_expireOn cX0_expireOn 2 none, Cond.methodLink RX0 47 yX1_leaveOn]
def wsX3_expired_r4 : List Cond := [Cond.instanceMethod yX1_leaveOn, Cond.selects RX1 yX1_leaveOn yX1_leaveOn, Cond.code yX1_leaveOn cX1_leaveOn 2 (some .int), Cond.fieldLink RX1 36 "Leavebank$Person" "leaveKinds" "[I", Cond.methodLink RX0 50 yX0_take, Cond.instanceMethod yX0_take, Cond.selects RX0 yX0_take yX0_take, Cond.code yX0_take cX0_take 4 none, Cond.methodLink RX0 100 Lib.Math.max.name, Cond.static Lib.Math.max.name, Cond.code Lib.Math.max.name Lib.Math.max.code 2 (some .int), Cond.methodLink RX0 96 yX0_pointsInLots, Cond.instanceMethod yX0_pointsInLots, Cond.selects RX0 yX0_pointsInLots yX0_pointsInLots, Cond.code yX0_pointsInLots cX0_pointsInLots 3 (some .int), Cond.methodLink RX0 103 yX0_drawFromLots, Cond.instanceMethod yX0_drawFromLots, Cond.selects RX0 yX0_drawFromLots yX0_drawFromLots, Cond.code yX0_drawFromLots cX0_drawFromLots 5 (some .int), Cond.methodLink RX0 53 yX0_payOn, Cond.instanceMethod yX0_payOn, Cond.selects RX0 yX0_payOn yX0_payOn, Cond.code yX0_payOn cX0_payOn 3 none, Cond.fieldLink RX0 106 "Leavebank$Person" "ownPayoutCount" "I"]
def wsX3_expired_r5 : List Cond := [Cond.fieldLink RX0 109 "Leavebank$Person" "payoutDays" "[I", Cond.fieldLink RX0 112 "Leavebank$Person" "payoutPoints" "[I"]
def wsX3_expired : List Cond := .code yX3_expired cX3_expired 3 (some .int) :: ((wsX3_expired_r1 ++ (wsX3_expired_r2 ++ (wsX3_expired_r3 ++ (wsX3_expired_r4 ++ wsX3_expired_r5)))) ++ wsX00 ++ wsX30 ++ wsX10 ++ (vx_atS RX3 178 "java/lang/IndexOutOfBoundsException" ["java/lang/RuntimeException", "java/lang/Exception"]).filter goodWord ++ (vx_atS RX3 32 "java/lang/IllegalArgumentException" ["java/lang/RuntimeException", "java/lang/Exception"]).filter goodWord)
def wsX3_paid_r1 : List Cond := [Cond.fieldLink RX3 165 "Leavebank$Ledger" "sumPaid" "I", Cond.methodLink RX3 149 yX3_ledgerBehind, Cond.instanceMethod yX3_ledgerBehind, Cond.selects RX3 yX3_ledgerBehind yX3_ledgerBehind, Cond.initialized RX3, Cond.code yX3_ledgerBehind cX3_ledgerBehind 4 (some (.object "Leavebank$Ledger")), Cond.fieldLink RX3 24 "Leavebank" "ledger" "LLeavebank$Ledger;", Cond.methodLink RX3 54 yX3_personAt, Cond.instanceMethod yX3_personAt, Cond.selects RX3 yX3_personAt yX3_personAt, Cond.code yX3_personAt cX3_personAt 3 (some (.object "Leavebank$Person")), Cond.classLink RX3 174 "java/lang/IndexOutOfBoundsException", Cond.initialized "java/lang/IndexOutOfBoundsException", Cond.fieldLink RX3 11 "Leavebank" "persons" "[LLeavebank$Person;", Cond.methodLink RX3 61 yX3_checkDay, Cond.static yX3_checkDay, Cond.code yX3_checkDay cX3_checkDay 2 none, Cond.classLink RX3 28 "java/lang/IllegalArgumentException", Cond.initialized "java/lang/IllegalArgumentException", Cond.methodLink RX3 126 yX0_goThrough, Cond.instanceMethod yX0_goThrough, Cond.selects RX0 yX0_goThrough yX0_goThrough, Cond.initialized RX0, Cond.code yX0_goThrough cX0_goThrough 4 none]
def wsX3_paid_r2 : List Cond := [Cond.fieldLink RX0 21 "Leavebank$Person" "firstDay" "I", Cond.methodLink RX0 18 yX0_clear, Cond.instanceMethod yX0_clear, Cond.selects RX0 yX0_clear yX0_clear, Cond.code yX0_clear cX0_clear 1 none, Cond.fieldLink RX0 60 "Leavebank$Ledger" "lotCount" "I", Cond.fieldLink RX0 57 "Leavebank$Ledger" "oldestLot" "I", Cond.fieldLink RX0 63 "Leavebank$Ledger" "nextPayout" "I", Cond.fieldLink RX0 66 "Leavebank$Ledger" "debt" "I", Cond.fieldLink RX0 69 "Leavebank$Ledger" "sumEarned" "I", Cond.fieldLink RX0 72 "Leavebank$Ledger" "sumTaken" "I", Cond.fieldLink RX0 75 "Leavebank$Ledger" "sumExpired" "I", Cond.fieldLink RX0 78 "Leavebank$Ledger" "sumPaid" "I", Cond.fieldLink RX0 81 "Leavebank$Ledger" "unpaidDays" "I", Cond.methodLink RX0 27 yX0_isDayOfEarning, Cond.static yX0_isDayOfEarning, Cond.code yX0_isDayOfEarning cX0_isDayOfEarning 2 (some .boolean), Cond.methodLink RX0 31 yX0_pointsOfMonth, Cond.static yX0_pointsOfMonth, Cond.code yX0_pointsOfMonth cX0_pointsOfMonth 4 (some .int), Cond.methodLink RX0 84 Lib.Math.min.name, Cond.static Lib.Math.min.name, Cond.initialized "java/lang/Math", Cond.code Lib.Math.min.name Lib.Math.min.code 2 (some .int)]
def wsX3_paid_r3 : List Cond := [Cond.fieldLink RX0 90 "Leavebank$Person" "right" "I", Cond.methodLink RX0 93 yX1_hoursOn, Cond.instanceMethod yX1_hoursOn, Cond.selects RX1 yX1_hoursOn yX1_hoursOn, Cond.initialized RX1, Cond.code yX1_hoursOn cX1_hoursOn 5 (some .int), Cond.fieldLink RX1 46 "Leavebank$Person" "firstHours" "I", Cond.fieldLink RX1 49 "Leavebank$Person" "changeCount" "I", Cond.fieldLink RX1 9 "Leavebank$Person" "changeDays" "[I", Cond.fieldLink RX1 15 "Leavebank$Person" "changeHours" "[I", Cond.methodLink RX0 35 yX0_expiryOf, Cond.static yX0_expiryOf, Cond.code yX0_expiryOf cX0_expiryOf 2 (some .int), Cond.methodLink RX0 39 yX0_earn, Cond.instanceMethod yX0_earn, Cond.selects RX0 yX0_earn yX0_earn, Cond.code yX0_earn cX0_earn 4 none, Cond.fieldLink RX0 9 "Leavebank$Ledger" "lotPoints" "[I", Cond.fieldLink RX0 15 "Leavebank$Ledger" "lotExpiries" "[I", Cond.methodLink RX0 43 yX0_expireOn, Cond.instanceMethod yX0_expireOn, Cond.selects RX0 yX0_expireOn yX0_expireOn, Cond.code yX0_expireOn cX0_expireOn 2 none, Cond.methodLink RX0 47 yX1_leaveOn]
def wsX3_paid_r4 : List Cond := [Cond.instanceMethod yX1_leaveOn, Cond.selects RX1 yX1_leaveOn yX1_leaveOn, Cond.code yX1_leaveOn cX1_leaveOn 2 (some .int), Cond.fieldLink RX1 36 "Leavebank$Person" "leaveKinds" "[I", Cond.methodLink RX0 50 yX0_take, Cond.instanceMethod yX0_take, Cond.selects RX0 yX0_take yX0_take, Cond.code yX0_take cX0_take 4 none, Cond.methodLink RX0 100 Lib.Math.max.name, Cond.static Lib.Math.max.name, Cond.code Lib.Math.max.name Lib.Math.max.code 2 (some .int), Cond.methodLink RX0 96 yX0_pointsInLots, Cond.instanceMethod yX0_pointsInLots, Cond.selects RX0 yX0_pointsInLots yX0_pointsInLots, Cond.code yX0_pointsInLots cX0_pointsInLots 3 (some .int), Cond.methodLink RX0 103 yX0_drawFromLots, Cond.instanceMethod yX0_drawFromLots, Cond.selects RX0 yX0_drawFromLots yX0_drawFromLots, Cond.code yX0_drawFromLots cX0_drawFromLots 5 (some .int), Cond.methodLink RX0 53 yX0_payOn, Cond.instanceMethod yX0_payOn, Cond.selects RX0 yX0_payOn yX0_payOn, Cond.code yX0_payOn cX0_payOn 3 none, Cond.fieldLink RX0 106 "Leavebank$Person" "ownPayoutCount" "I"]
def wsX3_paid_r5 : List Cond := [Cond.fieldLink RX0 109 "Leavebank$Person" "payoutDays" "[I", Cond.fieldLink RX0 112 "Leavebank$Person" "payoutPoints" "[I"]
def wsX3_paid : List Cond := .code yX3_paid cX3_paid 3 (some .int) :: ((wsX3_paid_r1 ++ (wsX3_paid_r2 ++ (wsX3_paid_r3 ++ (wsX3_paid_r4 ++ wsX3_paid_r5)))) ++ wsX00 ++ wsX30 ++ wsX10 ++ (vx_atS RX3 178 "java/lang/IndexOutOfBoundsException" ["java/lang/RuntimeException", "java/lang/Exception"]).filter goodWord ++ (vx_atS RX3 32 "java/lang/IllegalArgumentException" ["java/lang/RuntimeException", "java/lang/Exception"]).filter goodWord)
def wsX3_borrowed_r1 : List Cond := [Cond.fieldLink RX3 153 "Leavebank$Ledger" "debt" "I", Cond.methodLink RX3 149 yX3_ledgerBehind, Cond.instanceMethod yX3_ledgerBehind, Cond.selects RX3 yX3_ledgerBehind yX3_ledgerBehind, Cond.initialized RX3, Cond.code yX3_ledgerBehind cX3_ledgerBehind 4 (some (.object "Leavebank$Ledger")), Cond.fieldLink RX3 24 "Leavebank" "ledger" "LLeavebank$Ledger;", Cond.methodLink RX3 54 yX3_personAt, Cond.instanceMethod yX3_personAt, Cond.selects RX3 yX3_personAt yX3_personAt, Cond.code yX3_personAt cX3_personAt 3 (some (.object "Leavebank$Person")), Cond.classLink RX3 174 "java/lang/IndexOutOfBoundsException", Cond.initialized "java/lang/IndexOutOfBoundsException", Cond.fieldLink RX3 11 "Leavebank" "persons" "[LLeavebank$Person;", Cond.methodLink RX3 61 yX3_checkDay, Cond.static yX3_checkDay, Cond.code yX3_checkDay cX3_checkDay 2 none, Cond.classLink RX3 28 "java/lang/IllegalArgumentException", Cond.initialized "java/lang/IllegalArgumentException", Cond.methodLink RX3 126 yX0_goThrough, Cond.instanceMethod yX0_goThrough, Cond.selects RX0 yX0_goThrough yX0_goThrough, Cond.initialized RX0, Cond.code yX0_goThrough cX0_goThrough 4 none]
def wsX3_borrowed_r2 : List Cond := [Cond.fieldLink RX0 21 "Leavebank$Person" "firstDay" "I", Cond.methodLink RX0 18 yX0_clear, Cond.instanceMethod yX0_clear, Cond.selects RX0 yX0_clear yX0_clear, Cond.code yX0_clear cX0_clear 1 none, Cond.fieldLink RX0 60 "Leavebank$Ledger" "lotCount" "I", Cond.fieldLink RX0 57 "Leavebank$Ledger" "oldestLot" "I", Cond.fieldLink RX0 63 "Leavebank$Ledger" "nextPayout" "I", Cond.fieldLink RX0 66 "Leavebank$Ledger" "debt" "I", Cond.fieldLink RX0 69 "Leavebank$Ledger" "sumEarned" "I", Cond.fieldLink RX0 72 "Leavebank$Ledger" "sumTaken" "I", Cond.fieldLink RX0 75 "Leavebank$Ledger" "sumExpired" "I", Cond.fieldLink RX0 78 "Leavebank$Ledger" "sumPaid" "I", Cond.fieldLink RX0 81 "Leavebank$Ledger" "unpaidDays" "I", Cond.methodLink RX0 27 yX0_isDayOfEarning, Cond.static yX0_isDayOfEarning, Cond.code yX0_isDayOfEarning cX0_isDayOfEarning 2 (some .boolean), Cond.methodLink RX0 31 yX0_pointsOfMonth, Cond.static yX0_pointsOfMonth, Cond.code yX0_pointsOfMonth cX0_pointsOfMonth 4 (some .int), Cond.methodLink RX0 84 Lib.Math.min.name, Cond.static Lib.Math.min.name, Cond.initialized "java/lang/Math", Cond.code Lib.Math.min.name Lib.Math.min.code 2 (some .int)]
def wsX3_borrowed_r3 : List Cond := [Cond.fieldLink RX0 90 "Leavebank$Person" "right" "I", Cond.methodLink RX0 93 yX1_hoursOn, Cond.instanceMethod yX1_hoursOn, Cond.selects RX1 yX1_hoursOn yX1_hoursOn, Cond.initialized RX1, Cond.code yX1_hoursOn cX1_hoursOn 5 (some .int), Cond.fieldLink RX1 46 "Leavebank$Person" "firstHours" "I", Cond.fieldLink RX1 49 "Leavebank$Person" "changeCount" "I", Cond.fieldLink RX1 9 "Leavebank$Person" "changeDays" "[I", Cond.fieldLink RX1 15 "Leavebank$Person" "changeHours" "[I", Cond.methodLink RX0 35 yX0_expiryOf, Cond.static yX0_expiryOf, Cond.code yX0_expiryOf cX0_expiryOf 2 (some .int), Cond.methodLink RX0 39 yX0_earn, Cond.instanceMethod yX0_earn, Cond.selects RX0 yX0_earn yX0_earn, Cond.code yX0_earn cX0_earn 4 none, Cond.fieldLink RX0 9 "Leavebank$Ledger" "lotPoints" "[I", Cond.fieldLink RX0 15 "Leavebank$Ledger" "lotExpiries" "[I", Cond.methodLink RX0 43 yX0_expireOn, Cond.instanceMethod yX0_expireOn, Cond.selects RX0 yX0_expireOn yX0_expireOn, Cond.code yX0_expireOn cX0_expireOn 2 none, Cond.methodLink RX0 47 yX1_leaveOn]
def wsX3_borrowed_r4 : List Cond := [Cond.instanceMethod yX1_leaveOn, Cond.selects RX1 yX1_leaveOn yX1_leaveOn, Cond.code yX1_leaveOn cX1_leaveOn 2 (some .int), Cond.fieldLink RX1 36 "Leavebank$Person" "leaveKinds" "[I", Cond.methodLink RX0 50 yX0_take, Cond.instanceMethod yX0_take, Cond.selects RX0 yX0_take yX0_take, Cond.code yX0_take cX0_take 4 none, Cond.methodLink RX0 100 Lib.Math.max.name, Cond.static Lib.Math.max.name, Cond.code Lib.Math.max.name Lib.Math.max.code 2 (some .int), Cond.methodLink RX0 96 yX0_pointsInLots, Cond.instanceMethod yX0_pointsInLots, Cond.selects RX0 yX0_pointsInLots yX0_pointsInLots, Cond.code yX0_pointsInLots cX0_pointsInLots 3 (some .int), Cond.methodLink RX0 103 yX0_drawFromLots, Cond.instanceMethod yX0_drawFromLots, Cond.selects RX0 yX0_drawFromLots yX0_drawFromLots, Cond.code yX0_drawFromLots cX0_drawFromLots 5 (some .int), Cond.methodLink RX0 53 yX0_payOn, Cond.instanceMethod yX0_payOn, Cond.selects RX0 yX0_payOn yX0_payOn, Cond.code yX0_payOn cX0_payOn 3 none, Cond.fieldLink RX0 106 "Leavebank$Person" "ownPayoutCount" "I"]
def wsX3_borrowed_r5 : List Cond := [Cond.fieldLink RX0 109 "Leavebank$Person" "payoutDays" "[I", Cond.fieldLink RX0 112 "Leavebank$Person" "payoutPoints" "[I"]
def wsX3_borrowed : List Cond := .code yX3_borrowed cX3_borrowed 3 (some .int) :: ((wsX3_borrowed_r1 ++ (wsX3_borrowed_r2 ++ (wsX3_borrowed_r3 ++ (wsX3_borrowed_r4 ++ wsX3_borrowed_r5)))) ++ wsX00 ++ wsX30 ++ wsX10 ++ (vx_atS RX3 178 "java/lang/IndexOutOfBoundsException" ["java/lang/RuntimeException", "java/lang/Exception"]).filter goodWord ++ (vx_atS RX3 32 "java/lang/IllegalArgumentException" ["java/lang/RuntimeException", "java/lang/Exception"]).filter goodWord)
def wsX3_unpaid_r1 : List Cond := [Cond.fieldLink RX3 168 "Leavebank$Ledger" "unpaidDays" "I", Cond.methodLink RX3 149 yX3_ledgerBehind, Cond.instanceMethod yX3_ledgerBehind, Cond.selects RX3 yX3_ledgerBehind yX3_ledgerBehind, Cond.initialized RX3, Cond.code yX3_ledgerBehind cX3_ledgerBehind 4 (some (.object "Leavebank$Ledger")), Cond.fieldLink RX3 24 "Leavebank" "ledger" "LLeavebank$Ledger;", Cond.methodLink RX3 54 yX3_personAt, Cond.instanceMethod yX3_personAt, Cond.selects RX3 yX3_personAt yX3_personAt, Cond.code yX3_personAt cX3_personAt 3 (some (.object "Leavebank$Person")), Cond.classLink RX3 174 "java/lang/IndexOutOfBoundsException", Cond.initialized "java/lang/IndexOutOfBoundsException", Cond.fieldLink RX3 11 "Leavebank" "persons" "[LLeavebank$Person;", Cond.methodLink RX3 61 yX3_checkDay, Cond.static yX3_checkDay, Cond.code yX3_checkDay cX3_checkDay 2 none, Cond.classLink RX3 28 "java/lang/IllegalArgumentException", Cond.initialized "java/lang/IllegalArgumentException", Cond.methodLink RX3 126 yX0_goThrough, Cond.instanceMethod yX0_goThrough, Cond.selects RX0 yX0_goThrough yX0_goThrough, Cond.initialized RX0, Cond.code yX0_goThrough cX0_goThrough 4 none]
def wsX3_unpaid_r2 : List Cond := [Cond.fieldLink RX0 21 "Leavebank$Person" "firstDay" "I", Cond.methodLink RX0 18 yX0_clear, Cond.instanceMethod yX0_clear, Cond.selects RX0 yX0_clear yX0_clear, Cond.code yX0_clear cX0_clear 1 none, Cond.fieldLink RX0 60 "Leavebank$Ledger" "lotCount" "I", Cond.fieldLink RX0 57 "Leavebank$Ledger" "oldestLot" "I", Cond.fieldLink RX0 63 "Leavebank$Ledger" "nextPayout" "I", Cond.fieldLink RX0 66 "Leavebank$Ledger" "debt" "I", Cond.fieldLink RX0 69 "Leavebank$Ledger" "sumEarned" "I", Cond.fieldLink RX0 72 "Leavebank$Ledger" "sumTaken" "I", Cond.fieldLink RX0 75 "Leavebank$Ledger" "sumExpired" "I", Cond.fieldLink RX0 78 "Leavebank$Ledger" "sumPaid" "I", Cond.fieldLink RX0 81 "Leavebank$Ledger" "unpaidDays" "I", Cond.methodLink RX0 27 yX0_isDayOfEarning, Cond.static yX0_isDayOfEarning, Cond.code yX0_isDayOfEarning cX0_isDayOfEarning 2 (some .boolean), Cond.methodLink RX0 31 yX0_pointsOfMonth, Cond.static yX0_pointsOfMonth, Cond.code yX0_pointsOfMonth cX0_pointsOfMonth 4 (some .int), Cond.methodLink RX0 84 Lib.Math.min.name, Cond.static Lib.Math.min.name, Cond.initialized "java/lang/Math", Cond.code Lib.Math.min.name Lib.Math.min.code 2 (some .int)]
def wsX3_unpaid_r3 : List Cond := [Cond.fieldLink RX0 90 "Leavebank$Person" "right" "I", Cond.methodLink RX0 93 yX1_hoursOn, Cond.instanceMethod yX1_hoursOn, Cond.selects RX1 yX1_hoursOn yX1_hoursOn, Cond.initialized RX1, Cond.code yX1_hoursOn cX1_hoursOn 5 (some .int), Cond.fieldLink RX1 46 "Leavebank$Person" "firstHours" "I", Cond.fieldLink RX1 49 "Leavebank$Person" "changeCount" "I", Cond.fieldLink RX1 9 "Leavebank$Person" "changeDays" "[I", Cond.fieldLink RX1 15 "Leavebank$Person" "changeHours" "[I", Cond.methodLink RX0 35 yX0_expiryOf, Cond.static yX0_expiryOf, Cond.code yX0_expiryOf cX0_expiryOf 2 (some .int), Cond.methodLink RX0 39 yX0_earn, Cond.instanceMethod yX0_earn, Cond.selects RX0 yX0_earn yX0_earn, Cond.code yX0_earn cX0_earn 4 none, Cond.fieldLink RX0 9 "Leavebank$Ledger" "lotPoints" "[I", Cond.fieldLink RX0 15 "Leavebank$Ledger" "lotExpiries" "[I", Cond.methodLink RX0 43 yX0_expireOn, Cond.instanceMethod yX0_expireOn, Cond.selects RX0 yX0_expireOn yX0_expireOn, Cond.code yX0_expireOn cX0_expireOn 2 none, Cond.methodLink RX0 47 yX1_leaveOn]
def wsX3_unpaid_r4 : List Cond := [Cond.instanceMethod yX1_leaveOn, Cond.selects RX1 yX1_leaveOn yX1_leaveOn, Cond.code yX1_leaveOn cX1_leaveOn 2 (some .int), Cond.fieldLink RX1 36 "Leavebank$Person" "leaveKinds" "[I", Cond.methodLink RX0 50 yX0_take, Cond.instanceMethod yX0_take, Cond.selects RX0 yX0_take yX0_take, Cond.code yX0_take cX0_take 4 none, Cond.methodLink RX0 100 Lib.Math.max.name, Cond.static Lib.Math.max.name, Cond.code Lib.Math.max.name Lib.Math.max.code 2 (some .int), Cond.methodLink RX0 96 yX0_pointsInLots, Cond.instanceMethod yX0_pointsInLots, Cond.selects RX0 yX0_pointsInLots yX0_pointsInLots, Cond.code yX0_pointsInLots cX0_pointsInLots 3 (some .int), Cond.methodLink RX0 103 yX0_drawFromLots, Cond.instanceMethod yX0_drawFromLots, Cond.selects RX0 yX0_drawFromLots yX0_drawFromLots, Cond.code yX0_drawFromLots cX0_drawFromLots 5 (some .int), Cond.methodLink RX0 53 yX0_payOn, Cond.instanceMethod yX0_payOn, Cond.selects RX0 yX0_payOn yX0_payOn, Cond.code yX0_payOn cX0_payOn 3 none, Cond.fieldLink RX0 106 "Leavebank$Person" "ownPayoutCount" "I"]
def wsX3_unpaid_r5 : List Cond := [Cond.fieldLink RX0 109 "Leavebank$Person" "payoutDays" "[I", Cond.fieldLink RX0 112 "Leavebank$Person" "payoutPoints" "[I"]
def wsX3_unpaid : List Cond := .code yX3_unpaid cX3_unpaid 3 (some .int) :: ((wsX3_unpaid_r1 ++ (wsX3_unpaid_r2 ++ (wsX3_unpaid_r3 ++ (wsX3_unpaid_r4 ++ wsX3_unpaid_r5)))) ++ wsX00 ++ wsX30 ++ wsX10 ++ (vx_atS RX3 178 "java/lang/IndexOutOfBoundsException" ["java/lang/RuntimeException", "java/lang/Exception"]).filter goodWord ++ (vx_atS RX3 32 "java/lang/IllegalArgumentException" ["java/lang/RuntimeException", "java/lang/Exception"]).filter goodWord)
def wsX3_nextExpiry_r1 : List Cond := [Cond.methodLink RX3 149 yX3_ledgerBehind, Cond.instanceMethod yX3_ledgerBehind, Cond.selects RX3 yX3_ledgerBehind yX3_ledgerBehind, Cond.initialized RX3, Cond.code yX3_ledgerBehind cX3_ledgerBehind 4 (some (.object "Leavebank$Ledger")), Cond.fieldLink RX3 24 "Leavebank" "ledger" "LLeavebank$Ledger;", Cond.methodLink RX3 54 yX3_personAt, Cond.instanceMethod yX3_personAt, Cond.selects RX3 yX3_personAt yX3_personAt, Cond.code yX3_personAt cX3_personAt 3 (some (.object "Leavebank$Person")), Cond.classLink RX3 174 "java/lang/IndexOutOfBoundsException", Cond.initialized "java/lang/IndexOutOfBoundsException", Cond.fieldLink RX3 11 "Leavebank" "persons" "[LLeavebank$Person;", Cond.methodLink RX3 61 yX3_checkDay, Cond.static yX3_checkDay, Cond.code yX3_checkDay cX3_checkDay 2 none, Cond.classLink RX3 28 "java/lang/IllegalArgumentException", Cond.initialized "java/lang/IllegalArgumentException", Cond.methodLink RX3 126 yX0_goThrough, Cond.instanceMethod yX0_goThrough, Cond.selects RX0 yX0_goThrough yX0_goThrough, Cond.initialized RX0, Cond.code yX0_goThrough cX0_goThrough 4 none, Cond.fieldLink RX0 21 "Leavebank$Person" "firstDay" "I"]
def wsX3_nextExpiry_r2 : List Cond := [Cond.methodLink RX0 18 yX0_clear, Cond.instanceMethod yX0_clear, Cond.selects RX0 yX0_clear yX0_clear, Cond.code yX0_clear cX0_clear 1 none, Cond.fieldLink RX0 60 "Leavebank$Ledger" "lotCount" "I", Cond.fieldLink RX0 57 "Leavebank$Ledger" "oldestLot" "I", Cond.fieldLink RX0 63 "Leavebank$Ledger" "nextPayout" "I", Cond.fieldLink RX0 66 "Leavebank$Ledger" "debt" "I", Cond.fieldLink RX0 69 "Leavebank$Ledger" "sumEarned" "I", Cond.fieldLink RX0 72 "Leavebank$Ledger" "sumTaken" "I", Cond.fieldLink RX0 75 "Leavebank$Ledger" "sumExpired" "I", Cond.fieldLink RX0 78 "Leavebank$Ledger" "sumPaid" "I", Cond.fieldLink RX0 81 "Leavebank$Ledger" "unpaidDays" "I", Cond.methodLink RX0 27 yX0_isDayOfEarning, Cond.static yX0_isDayOfEarning, Cond.code yX0_isDayOfEarning cX0_isDayOfEarning 2 (some .boolean), Cond.methodLink RX0 31 yX0_pointsOfMonth, Cond.static yX0_pointsOfMonth, Cond.code yX0_pointsOfMonth cX0_pointsOfMonth 4 (some .int), Cond.methodLink RX0 84 Lib.Math.min.name, Cond.static Lib.Math.min.name, Cond.initialized "java/lang/Math", Cond.code Lib.Math.min.name Lib.Math.min.code 2 (some .int), Cond.fieldLink RX0 90 "Leavebank$Person" "right" "I"]
def wsX3_nextExpiry_r3 : List Cond := [Cond.methodLink RX0 93 yX1_hoursOn, Cond.instanceMethod yX1_hoursOn, Cond.selects RX1 yX1_hoursOn yX1_hoursOn, Cond.initialized RX1, Cond.code yX1_hoursOn cX1_hoursOn 5 (some .int), Cond.fieldLink RX1 46 "Leavebank$Person" "firstHours" "I", Cond.fieldLink RX1 49 "Leavebank$Person" "changeCount" "I", Cond.fieldLink RX1 9 "Leavebank$Person" "changeDays" "[I", Cond.fieldLink RX1 15 "Leavebank$Person" "changeHours" "[I", Cond.methodLink RX0 35 yX0_expiryOf, Cond.static yX0_expiryOf, Cond.code yX0_expiryOf cX0_expiryOf 2 (some .int), Cond.methodLink RX0 39 yX0_earn, Cond.instanceMethod yX0_earn, Cond.selects RX0 yX0_earn yX0_earn, Cond.code yX0_earn cX0_earn 4 none, Cond.fieldLink RX0 9 "Leavebank$Ledger" "lotPoints" "[I", Cond.fieldLink RX0 15 "Leavebank$Ledger" "lotExpiries" "[I", Cond.methodLink RX0 43 yX0_expireOn, Cond.instanceMethod yX0_expireOn, Cond.selects RX0 yX0_expireOn yX0_expireOn, Cond.code yX0_expireOn cX0_expireOn 2 none, Cond.methodLink RX0 47 yX1_leaveOn, Cond.instanceMethod yX1_leaveOn]
def wsX3_nextExpiry_r4 : List Cond := [Cond.selects RX1 yX1_leaveOn yX1_leaveOn, Cond.code yX1_leaveOn cX1_leaveOn 2 (some .int), Cond.fieldLink RX1 36 "Leavebank$Person" "leaveKinds" "[I", Cond.methodLink RX0 50 yX0_take, Cond.instanceMethod yX0_take, Cond.selects RX0 yX0_take yX0_take, Cond.code yX0_take cX0_take 4 none, Cond.methodLink RX0 100 Lib.Math.max.name, Cond.static Lib.Math.max.name, Cond.code Lib.Math.max.name Lib.Math.max.code 2 (some .int), Cond.methodLink RX0 96 yX0_pointsInLots, Cond.instanceMethod yX0_pointsInLots, Cond.selects RX0 yX0_pointsInLots yX0_pointsInLots, Cond.code yX0_pointsInLots cX0_pointsInLots 3 (some .int), Cond.methodLink RX0 103 yX0_drawFromLots, Cond.instanceMethod yX0_drawFromLots, Cond.selects RX0 yX0_drawFromLots yX0_drawFromLots, Cond.code yX0_drawFromLots cX0_drawFromLots 5 (some .int), Cond.methodLink RX0 53 yX0_payOn, Cond.instanceMethod yX0_payOn, Cond.selects RX0 yX0_payOn yX0_payOn, Cond.code yX0_payOn cX0_payOn 3 none, Cond.fieldLink RX0 106 "Leavebank$Person" "ownPayoutCount" "I", Cond.fieldLink RX0 109 "Leavebank$Person" "payoutDays" "[I"]
def wsX3_nextExpiry_r5 : List Cond := [Cond.fieldLink RX0 112 "Leavebank$Person" "payoutPoints" "[I", Cond.methodLink RX3 171 yX0_firstExpiry, Cond.instanceMethod yX0_firstExpiry, Cond.selects RX0 yX0_firstExpiry yX0_firstExpiry, Cond.code yX0_firstExpiry cX0_firstExpiry 2 (some .int)]
def wsX3_nextExpiry : List Cond := .code yX3_nextExpiry cX3_nextExpiry 3 (some .int) :: ((wsX3_nextExpiry_r1 ++ (wsX3_nextExpiry_r2 ++ (wsX3_nextExpiry_r3 ++ (wsX3_nextExpiry_r4 ++ wsX3_nextExpiry_r5)))) ++ wsX30 ++ wsX10 ++ wsX00 ++ (vx_atS RX3 178 "java/lang/IndexOutOfBoundsException" ["java/lang/RuntimeException", "java/lang/Exception"]).filter goodWord ++ (vx_atS RX3 32 "java/lang/IllegalArgumentException" ["java/lang/RuntimeException", "java/lang/Exception"]).filter goodWord)
def wsX4_init : List Cond := .code yX4_init cX4_init 1 none :: ([.methodLink RX4 1 objectInit, .instanceMethod objectInit, .code objectInit ⟨#[0xb1]⟩ 1 none, .arrayClass .int, .fieldLink RX4 7 "LeavebankModel" "start" "[I", .fieldLink RX4 13 "LeavebankModel" "right" "[I", .fieldLink RX4 16 "LeavebankModel" "hours" "[I", .fieldLink RX4 19 "LeavebankModel" "changes" "[I", .fieldLink RX4 22 "LeavebankModel" "changeDay" "[I", .fieldLink RX4 25 "LeavebankModel" "changeHours" "[I", .fieldLink RX4 28 "LeavebankModel" "who" "[I", .fieldLink RX4 31 "LeavebankModel" "from" "[I", .fieldLink RX4 34 "LeavebankModel" "to" "[I", .arrayClass .boolean, .fieldLink RX4 37 "LeavebankModel" "half" "[Z", .fieldLink RX4 41 "LeavebankModel" "gone" "[Z", .fieldLink RX4 44 "LeavebankModel" "ill" "[I", .fieldLink RX4 47 "LeavebankModel" "illFrom" "[I", .fieldLink RX4 50 "LeavebankModel" "illTo" "[I", .fieldLink RX4 53 "LeavebankModel" "payee" "[I", .fieldLink RX4 56 "LeavebankModel" "payDay" "[I", .fieldLink RX4 59 "LeavebankModel" "payPoints" "[I", .fieldLink RX4 62 "LeavebankModel" "pool" "[I"] ++ wsX40)
def wsX4_thrown : List Cond := .code yX4_thrown cX4_thrown 1 (some .int) :: ([.fieldLink RX4 65 "LeavebankModel" "thrown" "I"] ++ wsX40)
def wsX4_fails : List Cond := .code yX4_fails cX4_fails 2 (some .int) :: ([.fieldLink RX4 65 "LeavebankModel" "thrown" "I"] ++ wsX40)
def wsX4_in : List Cond := .code yX4_in cX4_in 3 (some .boolean) :: ([])
def wsX4_isPerson : List Cond := .code yX4_isPerson cX4_isPerson 2 (some .boolean) :: ([.fieldLink RX4 69 "LeavebankModel" "people" "I", .methodLink RX4 72 yX4_in, .static yX4_in, .initialized RX4, .code yX4_in cX4_in 3 (some .boolean)] ++ wsX40)
def wsX4_areDays : List Cond := .code yX4_areDays cX4_areDays 4 (some .boolean) :: ([.fieldLink RX4 7 "LeavebankModel" "start" "[I", .methodLink RX4 72 yX4_in, .static yX4_in, .initialized RX4, .code yX4_in cX4_in 3 (some .boolean)] ++ wsX40)
def wsX4_isWorking : List Cond := .code yX4_isWorking cX4_isWorking 1 (some .boolean) :: ([])
def wsX4_hoursOn : List Cond := .code yX4_hoursOn cX4_hoursOn 7 (some .int) :: ([.fieldLink RX4 16 "LeavebankModel" "hours" "[I", .fieldLink RX4 19 "LeavebankModel" "changes" "[I", .fieldLink RX4 22 "LeavebankModel" "changeDay" "[I", .fieldLink RX4 25 "LeavebankModel" "changeHours" "[I"] ++ wsX40)
def wsX4_isIll : List Cond := .code yX4_isIll cX4_isIll 5 (some .boolean) :: ([.fieldLink RX4 76 "LeavebankModel" "spells" "I", .fieldLink RX4 44 "LeavebankModel" "ill" "[I", .fieldLink RX4 47 "LeavebankModel" "illFrom" "[I", .fieldLink RX4 50 "LeavebankModel" "illTo" "[I", .methodLink RX4 72 yX4_in, .static yX4_in, .initialized RX4, .code yX4_in cX4_in 3 (some .boolean)] ++ wsX40)
def wsX4_leaveOn : List Cond := .code yX4_leaveOn cX4_leaveOn 7 (some .int) :: ([.fieldLink RX4 79 "LeavebankModel" "requests" "I", .fieldLink RX4 28 "LeavebankModel" "who" "[I", .fieldLink RX4 41 "LeavebankModel" "gone" "[Z", .fieldLink RX4 31 "LeavebankModel" "from" "[I", .fieldLink RX4 34 "LeavebankModel" "to" "[I", .fieldLink RX4 37 "LeavebankModel" "half" "[Z", .methodLink RX4 72 yX4_in, .static yX4_in, .initialized RX4, .code yX4_in cX4_in 3 (some .boolean), .methodLink RX4 82 yX4_isWorking, .static yX4_isWorking, .code yX4_isWorking cX4_isWorking 1 (some .boolean), .methodLink RX4 86 yX4_isIll, .instanceMethod yX4_isIll, .selects RX4 yX4_isIll yX4_isIll, .code yX4_isIll cX4_isIll 5 (some .boolean), .fieldLink RX4 76 "LeavebankModel" "spells" "I", .fieldLink RX4 44 "LeavebankModel" "ill" "[I", .fieldLink RX4 47 "LeavebankModel" "illFrom" "[I", .fieldLink RX4 50 "LeavebankModel" "illTo" "[I"] ++ wsX40)
def wsX4_inPools : List Cond := .code yX4_inPools cX4_inPools 3 (some .int) :: ([.fieldLink RX4 62 "LeavebankModel" "pool" "[I"] ++ wsX40)
def wsX4_draws : List Cond := .code yX4_draws cX4_draws 5 (some .int) :: ([.fieldLink RX4 62 "LeavebankModel" "pool" "[I"] ++ wsX40)
def wsX4_earns : List Cond := .code yX4_earns cX4_earns 7 none :: ([.fieldLink RX4 7 "LeavebankModel" "start" "[I", .fieldLink RX4 13 "LeavebankModel" "right" "[I", .fieldLink RX4 94 "LeavebankModel" "owed" "I", .fieldLink RX4 62 "LeavebankModel" "pool" "[I", .fieldLink RX4 97 "LeavebankModel" "earnedSum" "I", .methodLink RX4 90 yX4_hoursOn, .instanceMethod yX4_hoursOn, .selects RX4 yX4_hoursOn yX4_hoursOn, .initialized RX4, .code yX4_hoursOn cX4_hoursOn 7 (some .int), .fieldLink RX4 16 "LeavebankModel" "hours" "[I", .fieldLink RX4 19 "LeavebankModel" "changes" "[I", .fieldLink RX4 22 "LeavebankModel" "changeDay" "[I", .fieldLink RX4 25 "LeavebankModel" "changeHours" "[I"] ++ wsX40)
def wsX4_leaves_r1 : List Cond := [Cond.fieldLink RX4 94 "LeavebankModel" "owed" "I", Cond.fieldLink RX4 107 "LeavebankModel" "unpaidDays" "I", Cond.fieldLink RX4 114 "LeavebankModel" "takenSum" "I", Cond.methodLink RX4 100 yX4_leaveOn, Cond.instanceMethod yX4_leaveOn, Cond.selects RX4 yX4_leaveOn yX4_leaveOn, Cond.initialized RX4, Cond.code yX4_leaveOn cX4_leaveOn 7 (some .int), Cond.fieldLink RX4 79 "LeavebankModel" "requests" "I", Cond.fieldLink RX4 28 "LeavebankModel" "who" "[I", Cond.fieldLink RX4 41 "LeavebankModel" "gone" "[Z", Cond.fieldLink RX4 31 "LeavebankModel" "from" "[I", Cond.fieldLink RX4 34 "LeavebankModel" "to" "[I", Cond.fieldLink RX4 37 "LeavebankModel" "half" "[Z", Cond.methodLink RX4 72 yX4_in, Cond.static yX4_in, Cond.code yX4_in cX4_in 3 (some .boolean), Cond.methodLink RX4 82 yX4_isWorking, Cond.static yX4_isWorking, Cond.code yX4_isWorking cX4_isWorking 1 (some .boolean), Cond.methodLink RX4 86 yX4_isIll, Cond.instanceMethod yX4_isIll, Cond.selects RX4 yX4_isIll yX4_isIll, Cond.code yX4_isIll cX4_isIll 5 (some .boolean)]
def wsX4_leaves_r2 : List Cond := [Cond.fieldLink RX4 76 "LeavebankModel" "spells" "I", Cond.fieldLink RX4 44 "LeavebankModel" "ill" "[I", Cond.fieldLink RX4 47 "LeavebankModel" "illFrom" "[I", Cond.fieldLink RX4 50 "LeavebankModel" "illTo" "[I", Cond.methodLink RX4 103 yX4_inPools, Cond.instanceMethod yX4_inPools, Cond.selects RX4 yX4_inPools yX4_inPools, Cond.code yX4_inPools cX4_inPools 3 (some .int), Cond.fieldLink RX4 62 "LeavebankModel" "pool" "[I", Cond.methodLink RX4 110 yX4_draws, Cond.instanceMethod yX4_draws, Cond.selects RX4 yX4_draws yX4_draws, Cond.code yX4_draws cX4_draws 5 (some .int)]
def wsX4_leaves : List Cond := .code yX4_leaves cX4_leaves 5 none :: ((wsX4_leaves_r1 ++ wsX4_leaves_r2) ++ wsX40)
def wsX4_dayOf_r1 : List Cond := [Cond.fieldLink RX4 7 "LeavebankModel" "start" "[I", Cond.fieldLink RX4 121 "LeavebankModel" "expiredSum" "I", Cond.fieldLink RX4 62 "LeavebankModel" "pool" "[I", Cond.fieldLink RX4 127 "LeavebankModel" "payouts" "I", Cond.fieldLink RX4 130 "LeavebankModel" "paidSum" "I", Cond.fieldLink RX4 53 "LeavebankModel" "payee" "[I", Cond.fieldLink RX4 56 "LeavebankModel" "payDay" "[I", Cond.fieldLink RX4 59 "LeavebankModel" "payPoints" "[I", Cond.methodLink RX4 117 yX4_earns, Cond.instanceMethod yX4_earns, Cond.selects RX4 yX4_earns yX4_earns, Cond.initialized RX4, Cond.code yX4_earns cX4_earns 7 none, Cond.fieldLink RX4 13 "LeavebankModel" "right" "[I", Cond.fieldLink RX4 94 "LeavebankModel" "owed" "I", Cond.fieldLink RX4 97 "LeavebankModel" "earnedSum" "I", Cond.methodLink RX4 90 yX4_hoursOn, Cond.instanceMethod yX4_hoursOn, Cond.selects RX4 yX4_hoursOn yX4_hoursOn, Cond.code yX4_hoursOn cX4_hoursOn 7 (some .int), Cond.fieldLink RX4 16 "LeavebankModel" "hours" "[I", Cond.fieldLink RX4 19 "LeavebankModel" "changes" "[I", Cond.fieldLink RX4 22 "LeavebankModel" "changeDay" "[I", Cond.fieldLink RX4 25 "LeavebankModel" "changeHours" "[I"]
def wsX4_dayOf_r2 : List Cond := [Cond.methodLink RX4 124 yX4_leaves, Cond.instanceMethod yX4_leaves, Cond.selects RX4 yX4_leaves yX4_leaves, Cond.code yX4_leaves cX4_leaves 5 none, Cond.fieldLink RX4 107 "LeavebankModel" "unpaidDays" "I", Cond.fieldLink RX4 114 "LeavebankModel" "takenSum" "I", Cond.methodLink RX4 100 yX4_leaveOn, Cond.instanceMethod yX4_leaveOn, Cond.selects RX4 yX4_leaveOn yX4_leaveOn, Cond.code yX4_leaveOn cX4_leaveOn 7 (some .int), Cond.fieldLink RX4 79 "LeavebankModel" "requests" "I", Cond.fieldLink RX4 28 "LeavebankModel" "who" "[I", Cond.fieldLink RX4 41 "LeavebankModel" "gone" "[Z", Cond.fieldLink RX4 31 "LeavebankModel" "from" "[I", Cond.fieldLink RX4 34 "LeavebankModel" "to" "[I", Cond.fieldLink RX4 37 "LeavebankModel" "half" "[Z", Cond.methodLink RX4 72 yX4_in, Cond.static yX4_in, Cond.code yX4_in cX4_in 3 (some .boolean), Cond.methodLink RX4 82 yX4_isWorking, Cond.static yX4_isWorking, Cond.code yX4_isWorking cX4_isWorking 1 (some .boolean), Cond.methodLink RX4 86 yX4_isIll, Cond.instanceMethod yX4_isIll]
def wsX4_dayOf_r3 : List Cond := [Cond.selects RX4 yX4_isIll yX4_isIll, Cond.code yX4_isIll cX4_isIll 5 (some .boolean), Cond.fieldLink RX4 76 "LeavebankModel" "spells" "I", Cond.fieldLink RX4 44 "LeavebankModel" "ill" "[I", Cond.fieldLink RX4 47 "LeavebankModel" "illFrom" "[I", Cond.fieldLink RX4 50 "LeavebankModel" "illTo" "[I", Cond.methodLink RX4 103 yX4_inPools, Cond.instanceMethod yX4_inPools, Cond.selects RX4 yX4_inPools yX4_inPools, Cond.code yX4_inPools cX4_inPools 3 (some .int), Cond.methodLink RX4 110 yX4_draws, Cond.instanceMethod yX4_draws, Cond.selects RX4 yX4_draws yX4_draws, Cond.code yX4_draws cX4_draws 5 (some .int)]
def wsX4_dayOf : List Cond := .code yX4_dayOf cX4_dayOf 4 none :: ((wsX4_dayOf_r1 ++ (wsX4_dayOf_r2 ++ wsX4_dayOf_r3)) ++ wsX40)
def wsX4_goes_r1 : List Cond := [Cond.fieldLink RX4 62 "LeavebankModel" "pool" "[I", Cond.fieldLink RX4 94 "LeavebankModel" "owed" "I", Cond.fieldLink RX4 97 "LeavebankModel" "earnedSum" "I", Cond.fieldLink RX4 114 "LeavebankModel" "takenSum" "I", Cond.fieldLink RX4 121 "LeavebankModel" "expiredSum" "I", Cond.fieldLink RX4 130 "LeavebankModel" "paidSum" "I", Cond.fieldLink RX4 107 "LeavebankModel" "unpaidDays" "I", Cond.fieldLink RX4 7 "LeavebankModel" "start" "[I", Cond.methodLink RX4 133 yX4_dayOf, Cond.instanceMethod yX4_dayOf, Cond.selects RX4 yX4_dayOf yX4_dayOf, Cond.initialized RX4, Cond.code yX4_dayOf cX4_dayOf 4 none, Cond.fieldLink RX4 127 "LeavebankModel" "payouts" "I", Cond.fieldLink RX4 53 "LeavebankModel" "payee" "[I", Cond.fieldLink RX4 56 "LeavebankModel" "payDay" "[I", Cond.fieldLink RX4 59 "LeavebankModel" "payPoints" "[I", Cond.methodLink RX4 117 yX4_earns, Cond.instanceMethod yX4_earns, Cond.selects RX4 yX4_earns yX4_earns, Cond.code yX4_earns cX4_earns 7 none, Cond.fieldLink RX4 13 "LeavebankModel" "right" "[I", Cond.methodLink RX4 90 yX4_hoursOn, Cond.instanceMethod yX4_hoursOn]
def wsX4_goes_r2 : List Cond := [Cond.selects RX4 yX4_hoursOn yX4_hoursOn, Cond.code yX4_hoursOn cX4_hoursOn 7 (some .int), Cond.fieldLink RX4 16 "LeavebankModel" "hours" "[I", Cond.fieldLink RX4 19 "LeavebankModel" "changes" "[I", Cond.fieldLink RX4 22 "LeavebankModel" "changeDay" "[I", Cond.fieldLink RX4 25 "LeavebankModel" "changeHours" "[I", Cond.methodLink RX4 124 yX4_leaves, Cond.instanceMethod yX4_leaves, Cond.selects RX4 yX4_leaves yX4_leaves, Cond.code yX4_leaves cX4_leaves 5 none, Cond.methodLink RX4 100 yX4_leaveOn, Cond.instanceMethod yX4_leaveOn, Cond.selects RX4 yX4_leaveOn yX4_leaveOn, Cond.code yX4_leaveOn cX4_leaveOn 7 (some .int), Cond.fieldLink RX4 79 "LeavebankModel" "requests" "I", Cond.fieldLink RX4 28 "LeavebankModel" "who" "[I", Cond.fieldLink RX4 41 "LeavebankModel" "gone" "[Z", Cond.fieldLink RX4 31 "LeavebankModel" "from" "[I", Cond.fieldLink RX4 34 "LeavebankModel" "to" "[I", Cond.fieldLink RX4 37 "LeavebankModel" "half" "[Z", Cond.methodLink RX4 72 yX4_in, Cond.static yX4_in, Cond.code yX4_in cX4_in 3 (some .boolean), Cond.methodLink RX4 82 yX4_isWorking]
def wsX4_goes_r3 : List Cond := [Cond.static yX4_isWorking, Cond.code yX4_isWorking cX4_isWorking 1 (some .boolean), Cond.methodLink RX4 86 yX4_isIll, Cond.instanceMethod yX4_isIll, Cond.selects RX4 yX4_isIll yX4_isIll, Cond.code yX4_isIll cX4_isIll 5 (some .boolean), Cond.fieldLink RX4 76 "LeavebankModel" "spells" "I", Cond.fieldLink RX4 44 "LeavebankModel" "ill" "[I", Cond.fieldLink RX4 47 "LeavebankModel" "illFrom" "[I", Cond.fieldLink RX4 50 "LeavebankModel" "illTo" "[I", Cond.methodLink RX4 103 yX4_inPools, Cond.instanceMethod yX4_inPools, Cond.selects RX4 yX4_inPools yX4_inPools, Cond.code yX4_inPools cX4_inPools 3 (some .int), Cond.methodLink RX4 110 yX4_draws, Cond.instanceMethod yX4_draws, Cond.selects RX4 yX4_draws yX4_draws, Cond.code yX4_draws cX4_draws 5 (some .int)]
def wsX4_goes : List Cond := .code yX4_goes cX4_goes 4 none :: ((wsX4_goes_r1 ++ (wsX4_goes_r2 ++ wsX4_goes_r3)) ++ wsX40)
def wsX4_addPerson : List Cond := .code yX4_addPerson cX4_addPerson 3 (some .int) :: ([.fieldLink RX4 65 "LeavebankModel" "thrown" "I", .fieldLink RX4 69 "LeavebankModel" "people" "I", .fieldLink RX4 7 "LeavebankModel" "start" "[I", .fieldLink RX4 139 "LeavebankModel" "today" "I", .fieldLink RX4 13 "LeavebankModel" "right" "[I", .fieldLink RX4 16 "LeavebankModel" "hours" "[I", .methodLink RX4 72 yX4_in, .static yX4_in, .initialized RX4, .code yX4_in cX4_in 3 (some .boolean), .methodLink RX4 136 yX4_fails, .instanceMethod yX4_fails, .selects RX4 yX4_fails yX4_fails, .code yX4_fails cX4_fails 2 (some .int)] ++ wsX40)
def wsX4_setHours : List Cond := .code yX4_setHours cX4_setHours 7 (some .int) :: ([.fieldLink RX4 65 "LeavebankModel" "thrown" "I", .fieldLink RX4 7 "LeavebankModel" "start" "[I", .fieldLink RX4 19 "LeavebankModel" "changes" "[I", .fieldLink RX4 22 "LeavebankModel" "changeDay" "[I", .fieldLink RX4 25 "LeavebankModel" "changeHours" "[I", .methodLink RX4 142 yX4_isPerson, .instanceMethod yX4_isPerson, .selects RX4 yX4_isPerson yX4_isPerson, .initialized RX4, .code yX4_isPerson cX4_isPerson 2 (some .boolean), .fieldLink RX4 69 "LeavebankModel" "people" "I", .methodLink RX4 72 yX4_in, .static yX4_in, .code yX4_in cX4_in 3 (some .boolean), .methodLink RX4 136 yX4_fails, .instanceMethod yX4_fails, .selects RX4 yX4_fails yX4_fails, .code yX4_fails cX4_fails 2 (some .int), .methodLink RX4 90 yX4_hoursOn, .instanceMethod yX4_hoursOn, .selects RX4 yX4_hoursOn yX4_hoursOn, .code yX4_hoursOn cX4_hoursOn 7 (some .int), .fieldLink RX4 16 "LeavebankModel" "hours" "[I"] ++ wsX40)
def wsX4_request_r1 : List Cond := [Cond.fieldLink RX4 65 "LeavebankModel" "thrown" "I", Cond.fieldLink RX4 79 "LeavebankModel" "requests" "I", Cond.fieldLink RX4 28 "LeavebankModel" "who" "[I", Cond.fieldLink RX4 31 "LeavebankModel" "from" "[I", Cond.fieldLink RX4 34 "LeavebankModel" "to" "[I", Cond.fieldLink RX4 37 "LeavebankModel" "half" "[Z", Cond.fieldLink RX4 41 "LeavebankModel" "gone" "[Z", Cond.methodLink RX4 142 yX4_isPerson, Cond.instanceMethod yX4_isPerson, Cond.selects RX4 yX4_isPerson yX4_isPerson, Cond.initialized RX4, Cond.code yX4_isPerson cX4_isPerson 2 (some .boolean), Cond.fieldLink RX4 69 "LeavebankModel" "people" "I", Cond.methodLink RX4 72 yX4_in, Cond.static yX4_in, Cond.code yX4_in cX4_in 3 (some .boolean), Cond.methodLink RX4 136 yX4_fails, Cond.instanceMethod yX4_fails, Cond.selects RX4 yX4_fails yX4_fails, Cond.code yX4_fails cX4_fails 2 (some .int), Cond.methodLink RX4 145 yX4_areDays, Cond.instanceMethod yX4_areDays, Cond.selects RX4 yX4_areDays yX4_areDays, Cond.code yX4_areDays cX4_areDays 4 (some .boolean)]
def wsX4_request_r2 : List Cond := [Cond.fieldLink RX4 7 "LeavebankModel" "start" "[I"]
def wsX4_request : List Cond := .code yX4_request cX4_request 5 (some .int) :: ((wsX4_request_r1 ++ wsX4_request_r2) ++ wsX40)
def wsX4_change : List Cond := .code yX4_change cX4_change 5 (some .int) :: ([.fieldLink RX4 65 "LeavebankModel" "thrown" "I", .fieldLink RX4 79 "LeavebankModel" "requests" "I", .fieldLink RX4 28 "LeavebankModel" "who" "[I", .fieldLink RX4 41 "LeavebankModel" "gone" "[Z", .fieldLink RX4 34 "LeavebankModel" "to" "[I", .fieldLink RX4 31 "LeavebankModel" "from" "[I", .methodLink RX4 72 yX4_in, .static yX4_in, .initialized RX4, .code yX4_in cX4_in 3 (some .boolean), .methodLink RX4 136 yX4_fails, .instanceMethod yX4_fails, .selects RX4 yX4_fails yX4_fails, .code yX4_fails cX4_fails 2 (some .int), .methodLink RX4 145 yX4_areDays, .instanceMethod yX4_areDays, .selects RX4 yX4_areDays yX4_areDays, .code yX4_areDays cX4_areDays 4 (some .boolean), .fieldLink RX4 7 "LeavebankModel" "start" "[I"] ++ wsX40)
def wsX4_cancel : List Cond := .code yX4_cancel cX4_cancel 2 none :: ([.fieldLink RX4 79 "LeavebankModel" "requests" "I", .fieldLink RX4 41 "LeavebankModel" "gone" "[Z", .fieldLink RX4 65 "LeavebankModel" "thrown" "I", .methodLink RX4 72 yX4_in, .static yX4_in, .initialized RX4, .code yX4_in cX4_in 3 (some .boolean)] ++ wsX40)
def wsX4_sick : List Cond := .code yX4_sick cX4_sick 4 (some .int) :: ([.fieldLink RX4 65 "LeavebankModel" "thrown" "I", .fieldLink RX4 76 "LeavebankModel" "spells" "I", .fieldLink RX4 44 "LeavebankModel" "ill" "[I", .fieldLink RX4 47 "LeavebankModel" "illFrom" "[I", .fieldLink RX4 50 "LeavebankModel" "illTo" "[I", .methodLink RX4 142 yX4_isPerson, .instanceMethod yX4_isPerson, .selects RX4 yX4_isPerson yX4_isPerson, .initialized RX4, .code yX4_isPerson cX4_isPerson 2 (some .boolean), .fieldLink RX4 69 "LeavebankModel" "people" "I", .methodLink RX4 72 yX4_in, .static yX4_in, .code yX4_in cX4_in 3 (some .boolean), .methodLink RX4 136 yX4_fails, .instanceMethod yX4_fails, .selects RX4 yX4_fails yX4_fails, .code yX4_fails cX4_fails 2 (some .int), .methodLink RX4 145 yX4_areDays, .instanceMethod yX4_areDays, .selects RX4 yX4_areDays yX4_areDays, .code yX4_areDays cX4_areDays 4 (some .boolean), .fieldLink RX4 7 "LeavebankModel" "start" "[I"] ++ wsX40)
def wsX4_payOut_r1 : List Cond := [Cond.fieldLink RX4 65 "LeavebankModel" "thrown" "I", Cond.fieldLink RX4 139 "LeavebankModel" "today" "I", Cond.fieldLink RX4 127 "LeavebankModel" "payouts" "I", Cond.fieldLink RX4 53 "LeavebankModel" "payee" "[I", Cond.fieldLink RX4 56 "LeavebankModel" "payDay" "[I", Cond.fieldLink RX4 59 "LeavebankModel" "payPoints" "[I", Cond.methodLink RX4 142 yX4_isPerson, Cond.instanceMethod yX4_isPerson, Cond.selects RX4 yX4_isPerson yX4_isPerson, Cond.initialized RX4, Cond.code yX4_isPerson cX4_isPerson 2 (some .boolean), Cond.fieldLink RX4 69 "LeavebankModel" "people" "I", Cond.methodLink RX4 72 yX4_in, Cond.static yX4_in, Cond.code yX4_in cX4_in 3 (some .boolean), Cond.methodLink RX4 136 yX4_fails, Cond.instanceMethod yX4_fails, Cond.selects RX4 yX4_fails yX4_fails, Cond.code yX4_fails cX4_fails 2 (some .int), Cond.methodLink RX4 148 yX4_goes, Cond.instanceMethod yX4_goes, Cond.selects RX4 yX4_goes yX4_goes, Cond.code yX4_goes cX4_goes 4 none, Cond.fieldLink RX4 62 "LeavebankModel" "pool" "[I"]
def wsX4_payOut_r2 : List Cond := [Cond.fieldLink RX4 94 "LeavebankModel" "owed" "I", Cond.fieldLink RX4 97 "LeavebankModel" "earnedSum" "I", Cond.fieldLink RX4 114 "LeavebankModel" "takenSum" "I", Cond.fieldLink RX4 121 "LeavebankModel" "expiredSum" "I", Cond.fieldLink RX4 130 "LeavebankModel" "paidSum" "I", Cond.fieldLink RX4 107 "LeavebankModel" "unpaidDays" "I", Cond.fieldLink RX4 7 "LeavebankModel" "start" "[I", Cond.methodLink RX4 133 yX4_dayOf, Cond.instanceMethod yX4_dayOf, Cond.selects RX4 yX4_dayOf yX4_dayOf, Cond.code yX4_dayOf cX4_dayOf 4 none, Cond.methodLink RX4 117 yX4_earns, Cond.instanceMethod yX4_earns, Cond.selects RX4 yX4_earns yX4_earns, Cond.code yX4_earns cX4_earns 7 none, Cond.fieldLink RX4 13 "LeavebankModel" "right" "[I", Cond.methodLink RX4 90 yX4_hoursOn, Cond.instanceMethod yX4_hoursOn, Cond.selects RX4 yX4_hoursOn yX4_hoursOn, Cond.code yX4_hoursOn cX4_hoursOn 7 (some .int), Cond.fieldLink RX4 16 "LeavebankModel" "hours" "[I", Cond.fieldLink RX4 19 "LeavebankModel" "changes" "[I", Cond.fieldLink RX4 22 "LeavebankModel" "changeDay" "[I", Cond.fieldLink RX4 25 "LeavebankModel" "changeHours" "[I"]
def wsX4_payOut_r3 : List Cond := [Cond.methodLink RX4 124 yX4_leaves, Cond.instanceMethod yX4_leaves, Cond.selects RX4 yX4_leaves yX4_leaves, Cond.code yX4_leaves cX4_leaves 5 none, Cond.methodLink RX4 100 yX4_leaveOn, Cond.instanceMethod yX4_leaveOn, Cond.selects RX4 yX4_leaveOn yX4_leaveOn, Cond.code yX4_leaveOn cX4_leaveOn 7 (some .int), Cond.fieldLink RX4 79 "LeavebankModel" "requests" "I", Cond.fieldLink RX4 28 "LeavebankModel" "who" "[I", Cond.fieldLink RX4 41 "LeavebankModel" "gone" "[Z", Cond.fieldLink RX4 31 "LeavebankModel" "from" "[I", Cond.fieldLink RX4 34 "LeavebankModel" "to" "[I", Cond.fieldLink RX4 37 "LeavebankModel" "half" "[Z", Cond.methodLink RX4 82 yX4_isWorking, Cond.static yX4_isWorking, Cond.code yX4_isWorking cX4_isWorking 1 (some .boolean), Cond.methodLink RX4 86 yX4_isIll, Cond.instanceMethod yX4_isIll, Cond.selects RX4 yX4_isIll yX4_isIll, Cond.code yX4_isIll cX4_isIll 5 (some .boolean), Cond.fieldLink RX4 76 "LeavebankModel" "spells" "I", Cond.fieldLink RX4 44 "LeavebankModel" "ill" "[I", Cond.fieldLink RX4 47 "LeavebankModel" "illFrom" "[I"]
def wsX4_payOut_r4 : List Cond := [Cond.fieldLink RX4 50 "LeavebankModel" "illTo" "[I", Cond.methodLink RX4 103 yX4_inPools, Cond.instanceMethod yX4_inPools, Cond.selects RX4 yX4_inPools yX4_inPools, Cond.code yX4_inPools cX4_inPools 3 (some .int), Cond.methodLink RX4 110 yX4_draws, Cond.instanceMethod yX4_draws, Cond.selects RX4 yX4_draws yX4_draws, Cond.code yX4_draws cX4_draws 5 (some .int)]
def wsX4_payOut : List Cond := .code yX4_payOut cX4_payOut 3 (some .int) :: ((wsX4_payOut_r1 ++ (wsX4_payOut_r2 ++ (wsX4_payOut_r3 ++ wsX4_payOut_r4))) ++ wsX40)
def wsX4_pass : List Cond := .code yX4_pass cX4_pass 2 (some .int) :: ([.fieldLink RX4 65 "LeavebankModel" "thrown" "I", .fieldLink RX4 139 "LeavebankModel" "today" "I", .methodLink RX4 72 yX4_in, .static yX4_in, .initialized RX4, .code yX4_in cX4_in 3 (some .boolean), .methodLink RX4 136 yX4_fails, .instanceMethod yX4_fails, .selects RX4 yX4_fails yX4_fails, .code yX4_fails cX4_fails 2 (some .int)] ++ wsX40)
def wsX4_today : List Cond := .code yX4_today cX4_today 1 (some .int) :: ([.fieldLink RX4 65 "LeavebankModel" "thrown" "I", .fieldLink RX4 139 "LeavebankModel" "today" "I"] ++ wsX40)
def wsX4_people : List Cond := .code yX4_people cX4_people 1 (some .int) :: ([.fieldLink RX4 65 "LeavebankModel" "thrown" "I", .fieldLink RX4 69 "LeavebankModel" "people" "I"] ++ wsX40)
def wsX4_workingDays : List Cond := .code yX4_workingDays cX4_workingDays 5 (some .int) :: ([.fieldLink RX4 65 "LeavebankModel" "thrown" "I", .methodLink RX4 72 yX4_in, .static yX4_in, .initialized RX4, .code yX4_in cX4_in 3 (some .boolean), .methodLink RX4 136 yX4_fails, .instanceMethod yX4_fails, .selects RX4 yX4_fails yX4_fails, .code yX4_fails cX4_fails 2 (some .int), .methodLink RX4 82 yX4_isWorking, .static yX4_isWorking, .code yX4_isWorking cX4_isWorking 1 (some .boolean)] ++ wsX40)
def wsX4_hours : List Cond := .code yX4_hours cX4_hours 3 (some .int) :: ([.fieldLink RX4 65 "LeavebankModel" "thrown" "I", .fieldLink RX4 7 "LeavebankModel" "start" "[I", .methodLink RX4 142 yX4_isPerson, .instanceMethod yX4_isPerson, .selects RX4 yX4_isPerson yX4_isPerson, .initialized RX4, .code yX4_isPerson cX4_isPerson 2 (some .boolean), .fieldLink RX4 69 "LeavebankModel" "people" "I", .methodLink RX4 72 yX4_in, .static yX4_in, .code yX4_in cX4_in 3 (some .boolean), .methodLink RX4 136 yX4_fails, .instanceMethod yX4_fails, .selects RX4 yX4_fails yX4_fails, .code yX4_fails cX4_fails 2 (some .int), .methodLink RX4 90 yX4_hoursOn, .instanceMethod yX4_hoursOn, .selects RX4 yX4_hoursOn yX4_hoursOn, .code yX4_hoursOn cX4_hoursOn 7 (some .int), .fieldLink RX4 16 "LeavebankModel" "hours" "[I", .fieldLink RX4 19 "LeavebankModel" "changes" "[I", .fieldLink RX4 22 "LeavebankModel" "changeDay" "[I", .fieldLink RX4 25 "LeavebankModel" "changeHours" "[I"] ++ wsX40)
def wsX4_isAsked : List Cond := .code yX4_isAsked cX4_isAsked 3 (some .boolean) :: ([.fieldLink RX4 65 "LeavebankModel" "thrown" "I", .methodLink RX4 142 yX4_isPerson, .instanceMethod yX4_isPerson, .selects RX4 yX4_isPerson yX4_isPerson, .initialized RX4, .code yX4_isPerson cX4_isPerson 2 (some .boolean), .fieldLink RX4 69 "LeavebankModel" "people" "I", .methodLink RX4 72 yX4_in, .static yX4_in, .code yX4_in cX4_in 3 (some .boolean)] ++ wsX40)
def wsX4_onLeave_r1 : List Cond := [Cond.methodLink RX4 151 yX4_isAsked, Cond.instanceMethod yX4_isAsked, Cond.selects RX4 yX4_isAsked yX4_isAsked, Cond.initialized RX4, Cond.code yX4_isAsked cX4_isAsked 3 (some .boolean), Cond.fieldLink RX4 65 "LeavebankModel" "thrown" "I", Cond.methodLink RX4 142 yX4_isPerson, Cond.instanceMethod yX4_isPerson, Cond.selects RX4 yX4_isPerson yX4_isPerson, Cond.code yX4_isPerson cX4_isPerson 2 (some .boolean), Cond.fieldLink RX4 69 "LeavebankModel" "people" "I", Cond.methodLink RX4 72 yX4_in, Cond.static yX4_in, Cond.code yX4_in cX4_in 3 (some .boolean), Cond.methodLink RX4 100 yX4_leaveOn, Cond.instanceMethod yX4_leaveOn, Cond.selects RX4 yX4_leaveOn yX4_leaveOn, Cond.code yX4_leaveOn cX4_leaveOn 7 (some .int), Cond.fieldLink RX4 79 "LeavebankModel" "requests" "I", Cond.fieldLink RX4 28 "LeavebankModel" "who" "[I", Cond.fieldLink RX4 41 "LeavebankModel" "gone" "[Z", Cond.fieldLink RX4 31 "LeavebankModel" "from" "[I", Cond.fieldLink RX4 34 "LeavebankModel" "to" "[I", Cond.fieldLink RX4 37 "LeavebankModel" "half" "[Z"]
def wsX4_onLeave_r2 : List Cond := [Cond.methodLink RX4 82 yX4_isWorking, Cond.static yX4_isWorking, Cond.code yX4_isWorking cX4_isWorking 1 (some .boolean), Cond.methodLink RX4 86 yX4_isIll, Cond.instanceMethod yX4_isIll, Cond.selects RX4 yX4_isIll yX4_isIll, Cond.code yX4_isIll cX4_isIll 5 (some .boolean), Cond.fieldLink RX4 76 "LeavebankModel" "spells" "I", Cond.fieldLink RX4 44 "LeavebankModel" "ill" "[I", Cond.fieldLink RX4 47 "LeavebankModel" "illFrom" "[I", Cond.fieldLink RX4 50 "LeavebankModel" "illTo" "[I"]
def wsX4_onLeave : List Cond := .code yX4_onLeave cX4_onLeave 3 (some .int) :: ((wsX4_onLeave_r1 ++ wsX4_onLeave_r2) ++ wsX40)
def wsX4_isGone_r1 : List Cond := [Cond.fieldLink RX4 65 "LeavebankModel" "thrown" "I", Cond.methodLink RX4 151 yX4_isAsked, Cond.instanceMethod yX4_isAsked, Cond.selects RX4 yX4_isAsked yX4_isAsked, Cond.initialized RX4, Cond.code yX4_isAsked cX4_isAsked 3 (some .boolean), Cond.methodLink RX4 142 yX4_isPerson, Cond.instanceMethod yX4_isPerson, Cond.selects RX4 yX4_isPerson yX4_isPerson, Cond.code yX4_isPerson cX4_isPerson 2 (some .boolean), Cond.fieldLink RX4 69 "LeavebankModel" "people" "I", Cond.methodLink RX4 72 yX4_in, Cond.static yX4_in, Cond.code yX4_in cX4_in 3 (some .boolean), Cond.methodLink RX4 148 yX4_goes, Cond.instanceMethod yX4_goes, Cond.selects RX4 yX4_goes yX4_goes, Cond.code yX4_goes cX4_goes 4 none, Cond.fieldLink RX4 62 "LeavebankModel" "pool" "[I", Cond.fieldLink RX4 94 "LeavebankModel" "owed" "I", Cond.fieldLink RX4 97 "LeavebankModel" "earnedSum" "I", Cond.fieldLink RX4 114 "LeavebankModel" "takenSum" "I", Cond.fieldLink RX4 121 "LeavebankModel" "expiredSum" "I", Cond.fieldLink RX4 130 "LeavebankModel" "paidSum" "I"]
def wsX4_isGone_r2 : List Cond := [Cond.fieldLink RX4 107 "LeavebankModel" "unpaidDays" "I", Cond.fieldLink RX4 7 "LeavebankModel" "start" "[I", Cond.methodLink RX4 133 yX4_dayOf, Cond.instanceMethod yX4_dayOf, Cond.selects RX4 yX4_dayOf yX4_dayOf, Cond.code yX4_dayOf cX4_dayOf 4 none, Cond.fieldLink RX4 127 "LeavebankModel" "payouts" "I", Cond.fieldLink RX4 53 "LeavebankModel" "payee" "[I", Cond.fieldLink RX4 56 "LeavebankModel" "payDay" "[I", Cond.fieldLink RX4 59 "LeavebankModel" "payPoints" "[I", Cond.methodLink RX4 117 yX4_earns, Cond.instanceMethod yX4_earns, Cond.selects RX4 yX4_earns yX4_earns, Cond.code yX4_earns cX4_earns 7 none, Cond.fieldLink RX4 13 "LeavebankModel" "right" "[I", Cond.methodLink RX4 90 yX4_hoursOn, Cond.instanceMethod yX4_hoursOn, Cond.selects RX4 yX4_hoursOn yX4_hoursOn, Cond.code yX4_hoursOn cX4_hoursOn 7 (some .int), Cond.fieldLink RX4 16 "LeavebankModel" "hours" "[I", Cond.fieldLink RX4 19 "LeavebankModel" "changes" "[I", Cond.fieldLink RX4 22 "LeavebankModel" "changeDay" "[I", Cond.fieldLink RX4 25 "LeavebankModel" "changeHours" "[I", Cond.methodLink RX4 124 yX4_leaves]
def wsX4_isGone_r3 : List Cond := [Cond.instanceMethod yX4_leaves, Cond.selects RX4 yX4_leaves yX4_leaves, Cond.code yX4_leaves cX4_leaves 5 none, Cond.methodLink RX4 100 yX4_leaveOn, Cond.instanceMethod yX4_leaveOn, Cond.selects RX4 yX4_leaveOn yX4_leaveOn, Cond.code yX4_leaveOn cX4_leaveOn 7 (some .int), Cond.fieldLink RX4 79 "LeavebankModel" "requests" "I", Cond.fieldLink RX4 28 "LeavebankModel" "who" "[I", Cond.fieldLink RX4 41 "LeavebankModel" "gone" "[Z", Cond.fieldLink RX4 31 "LeavebankModel" "from" "[I", Cond.fieldLink RX4 34 "LeavebankModel" "to" "[I", Cond.fieldLink RX4 37 "LeavebankModel" "half" "[Z", Cond.methodLink RX4 82 yX4_isWorking, Cond.static yX4_isWorking, Cond.code yX4_isWorking cX4_isWorking 1 (some .boolean), Cond.methodLink RX4 86 yX4_isIll, Cond.instanceMethod yX4_isIll, Cond.selects RX4 yX4_isIll yX4_isIll, Cond.code yX4_isIll cX4_isIll 5 (some .boolean), Cond.fieldLink RX4 76 "LeavebankModel" "spells" "I", Cond.fieldLink RX4 44 "LeavebankModel" "ill" "[I", Cond.fieldLink RX4 47 "LeavebankModel" "illFrom" "[I", Cond.fieldLink RX4 50 "LeavebankModel" "illTo" "[I"]
def wsX4_isGone_r4 : List Cond := [Cond.methodLink RX4 103 yX4_inPools, Cond.instanceMethod yX4_inPools, Cond.selects RX4 yX4_inPools yX4_inPools, Cond.code yX4_inPools cX4_inPools 3 (some .int), Cond.methodLink RX4 110 yX4_draws, Cond.instanceMethod yX4_draws, Cond.selects RX4 yX4_draws yX4_draws, Cond.code yX4_draws cX4_draws 5 (some .int)]
def wsX4_isGone : List Cond := .code yX4_isGone cX4_isGone 3 (some .boolean) :: ((wsX4_isGone_r1 ++ (wsX4_isGone_r2 ++ (wsX4_isGone_r3 ++ wsX4_isGone_r4))) ++ wsX40)
def wsX4_balance_r1 : List Cond := [Cond.fieldLink RX4 94 "LeavebankModel" "owed" "I", Cond.methodLink RX4 154 yX4_isGone, Cond.instanceMethod yX4_isGone, Cond.selects RX4 yX4_isGone yX4_isGone, Cond.initialized RX4, Cond.code yX4_isGone cX4_isGone 3 (some .boolean), Cond.fieldLink RX4 65 "LeavebankModel" "thrown" "I", Cond.methodLink RX4 151 yX4_isAsked, Cond.instanceMethod yX4_isAsked, Cond.selects RX4 yX4_isAsked yX4_isAsked, Cond.code yX4_isAsked cX4_isAsked 3 (some .boolean), Cond.methodLink RX4 142 yX4_isPerson, Cond.instanceMethod yX4_isPerson, Cond.selects RX4 yX4_isPerson yX4_isPerson, Cond.code yX4_isPerson cX4_isPerson 2 (some .boolean), Cond.fieldLink RX4 69 "LeavebankModel" "people" "I", Cond.methodLink RX4 72 yX4_in, Cond.static yX4_in, Cond.code yX4_in cX4_in 3 (some .boolean), Cond.methodLink RX4 148 yX4_goes, Cond.instanceMethod yX4_goes, Cond.selects RX4 yX4_goes yX4_goes, Cond.code yX4_goes cX4_goes 4 none, Cond.fieldLink RX4 62 "LeavebankModel" "pool" "[I"]
def wsX4_balance_r2 : List Cond := [Cond.fieldLink RX4 97 "LeavebankModel" "earnedSum" "I", Cond.fieldLink RX4 114 "LeavebankModel" "takenSum" "I", Cond.fieldLink RX4 121 "LeavebankModel" "expiredSum" "I", Cond.fieldLink RX4 130 "LeavebankModel" "paidSum" "I", Cond.fieldLink RX4 107 "LeavebankModel" "unpaidDays" "I", Cond.fieldLink RX4 7 "LeavebankModel" "start" "[I", Cond.methodLink RX4 133 yX4_dayOf, Cond.instanceMethod yX4_dayOf, Cond.selects RX4 yX4_dayOf yX4_dayOf, Cond.code yX4_dayOf cX4_dayOf 4 none, Cond.fieldLink RX4 127 "LeavebankModel" "payouts" "I", Cond.fieldLink RX4 53 "LeavebankModel" "payee" "[I", Cond.fieldLink RX4 56 "LeavebankModel" "payDay" "[I", Cond.fieldLink RX4 59 "LeavebankModel" "payPoints" "[I", Cond.methodLink RX4 117 yX4_earns, Cond.instanceMethod yX4_earns, Cond.selects RX4 yX4_earns yX4_earns, Cond.code yX4_earns cX4_earns 7 none, Cond.fieldLink RX4 13 "LeavebankModel" "right" "[I", Cond.methodLink RX4 90 yX4_hoursOn, Cond.instanceMethod yX4_hoursOn, Cond.selects RX4 yX4_hoursOn yX4_hoursOn, Cond.code yX4_hoursOn cX4_hoursOn 7 (some .int), Cond.fieldLink RX4 16 "LeavebankModel" "hours" "[I"]
def wsX4_balance_r3 : List Cond := [Cond.fieldLink RX4 19 "LeavebankModel" "changes" "[I", Cond.fieldLink RX4 22 "LeavebankModel" "changeDay" "[I", Cond.fieldLink RX4 25 "LeavebankModel" "changeHours" "[I", Cond.methodLink RX4 124 yX4_leaves, Cond.instanceMethod yX4_leaves, Cond.selects RX4 yX4_leaves yX4_leaves, Cond.code yX4_leaves cX4_leaves 5 none, Cond.methodLink RX4 100 yX4_leaveOn, Cond.instanceMethod yX4_leaveOn, Cond.selects RX4 yX4_leaveOn yX4_leaveOn, Cond.code yX4_leaveOn cX4_leaveOn 7 (some .int), Cond.fieldLink RX4 79 "LeavebankModel" "requests" "I", Cond.fieldLink RX4 28 "LeavebankModel" "who" "[I", Cond.fieldLink RX4 41 "LeavebankModel" "gone" "[Z", Cond.fieldLink RX4 31 "LeavebankModel" "from" "[I", Cond.fieldLink RX4 34 "LeavebankModel" "to" "[I", Cond.fieldLink RX4 37 "LeavebankModel" "half" "[Z", Cond.methodLink RX4 82 yX4_isWorking, Cond.static yX4_isWorking, Cond.code yX4_isWorking cX4_isWorking 1 (some .boolean), Cond.methodLink RX4 86 yX4_isIll, Cond.instanceMethod yX4_isIll, Cond.selects RX4 yX4_isIll yX4_isIll, Cond.code yX4_isIll cX4_isIll 5 (some .boolean)]
def wsX4_balance_r4 : List Cond := [Cond.fieldLink RX4 76 "LeavebankModel" "spells" "I", Cond.fieldLink RX4 44 "LeavebankModel" "ill" "[I", Cond.fieldLink RX4 47 "LeavebankModel" "illFrom" "[I", Cond.fieldLink RX4 50 "LeavebankModel" "illTo" "[I", Cond.methodLink RX4 103 yX4_inPools, Cond.instanceMethod yX4_inPools, Cond.selects RX4 yX4_inPools yX4_inPools, Cond.code yX4_inPools cX4_inPools 3 (some .int), Cond.methodLink RX4 110 yX4_draws, Cond.instanceMethod yX4_draws, Cond.selects RX4 yX4_draws yX4_draws, Cond.code yX4_draws cX4_draws 5 (some .int)]
def wsX4_balance : List Cond := .code yX4_balance cX4_balance 3 (some .int) :: ((wsX4_balance_r1 ++ (wsX4_balance_r2 ++ (wsX4_balance_r3 ++ wsX4_balance_r4))) ++ wsX40)
def wsX4_balanceBySums_r1 : List Cond := [Cond.fieldLink RX4 97 "LeavebankModel" "earnedSum" "I", Cond.fieldLink RX4 114 "LeavebankModel" "takenSum" "I", Cond.fieldLink RX4 121 "LeavebankModel" "expiredSum" "I", Cond.fieldLink RX4 130 "LeavebankModel" "paidSum" "I", Cond.methodLink RX4 154 yX4_isGone, Cond.instanceMethod yX4_isGone, Cond.selects RX4 yX4_isGone yX4_isGone, Cond.initialized RX4, Cond.code yX4_isGone cX4_isGone 3 (some .boolean), Cond.fieldLink RX4 65 "LeavebankModel" "thrown" "I", Cond.methodLink RX4 151 yX4_isAsked, Cond.instanceMethod yX4_isAsked, Cond.selects RX4 yX4_isAsked yX4_isAsked, Cond.code yX4_isAsked cX4_isAsked 3 (some .boolean), Cond.methodLink RX4 142 yX4_isPerson, Cond.instanceMethod yX4_isPerson, Cond.selects RX4 yX4_isPerson yX4_isPerson, Cond.code yX4_isPerson cX4_isPerson 2 (some .boolean), Cond.fieldLink RX4 69 "LeavebankModel" "people" "I", Cond.methodLink RX4 72 yX4_in, Cond.static yX4_in, Cond.code yX4_in cX4_in 3 (some .boolean), Cond.methodLink RX4 148 yX4_goes, Cond.instanceMethod yX4_goes]
def wsX4_balanceBySums_r2 : List Cond := [Cond.selects RX4 yX4_goes yX4_goes, Cond.code yX4_goes cX4_goes 4 none, Cond.fieldLink RX4 62 "LeavebankModel" "pool" "[I", Cond.fieldLink RX4 94 "LeavebankModel" "owed" "I", Cond.fieldLink RX4 107 "LeavebankModel" "unpaidDays" "I", Cond.fieldLink RX4 7 "LeavebankModel" "start" "[I", Cond.methodLink RX4 133 yX4_dayOf, Cond.instanceMethod yX4_dayOf, Cond.selects RX4 yX4_dayOf yX4_dayOf, Cond.code yX4_dayOf cX4_dayOf 4 none, Cond.fieldLink RX4 127 "LeavebankModel" "payouts" "I", Cond.fieldLink RX4 53 "LeavebankModel" "payee" "[I", Cond.fieldLink RX4 56 "LeavebankModel" "payDay" "[I", Cond.fieldLink RX4 59 "LeavebankModel" "payPoints" "[I", Cond.methodLink RX4 117 yX4_earns, Cond.instanceMethod yX4_earns, Cond.selects RX4 yX4_earns yX4_earns, Cond.code yX4_earns cX4_earns 7 none, Cond.fieldLink RX4 13 "LeavebankModel" "right" "[I", Cond.methodLink RX4 90 yX4_hoursOn, Cond.instanceMethod yX4_hoursOn, Cond.selects RX4 yX4_hoursOn yX4_hoursOn, Cond.code yX4_hoursOn cX4_hoursOn 7 (some .int), Cond.fieldLink RX4 16 "LeavebankModel" "hours" "[I"]
def wsX4_balanceBySums_r3 : List Cond := [Cond.fieldLink RX4 19 "LeavebankModel" "changes" "[I", Cond.fieldLink RX4 22 "LeavebankModel" "changeDay" "[I", Cond.fieldLink RX4 25 "LeavebankModel" "changeHours" "[I", Cond.methodLink RX4 124 yX4_leaves, Cond.instanceMethod yX4_leaves, Cond.selects RX4 yX4_leaves yX4_leaves, Cond.code yX4_leaves cX4_leaves 5 none, Cond.methodLink RX4 100 yX4_leaveOn, Cond.instanceMethod yX4_leaveOn, Cond.selects RX4 yX4_leaveOn yX4_leaveOn, Cond.code yX4_leaveOn cX4_leaveOn 7 (some .int), Cond.fieldLink RX4 79 "LeavebankModel" "requests" "I", Cond.fieldLink RX4 28 "LeavebankModel" "who" "[I", Cond.fieldLink RX4 41 "LeavebankModel" "gone" "[Z", Cond.fieldLink RX4 31 "LeavebankModel" "from" "[I", Cond.fieldLink RX4 34 "LeavebankModel" "to" "[I", Cond.fieldLink RX4 37 "LeavebankModel" "half" "[Z", Cond.methodLink RX4 82 yX4_isWorking, Cond.static yX4_isWorking, Cond.code yX4_isWorking cX4_isWorking 1 (some .boolean), Cond.methodLink RX4 86 yX4_isIll, Cond.instanceMethod yX4_isIll, Cond.selects RX4 yX4_isIll yX4_isIll, Cond.code yX4_isIll cX4_isIll 5 (some .boolean)]
def wsX4_balanceBySums_r4 : List Cond := [Cond.fieldLink RX4 76 "LeavebankModel" "spells" "I", Cond.fieldLink RX4 44 "LeavebankModel" "ill" "[I", Cond.fieldLink RX4 47 "LeavebankModel" "illFrom" "[I", Cond.fieldLink RX4 50 "LeavebankModel" "illTo" "[I", Cond.methodLink RX4 103 yX4_inPools, Cond.instanceMethod yX4_inPools, Cond.selects RX4 yX4_inPools yX4_inPools, Cond.code yX4_inPools cX4_inPools 3 (some .int), Cond.methodLink RX4 110 yX4_draws, Cond.instanceMethod yX4_draws, Cond.selects RX4 yX4_draws yX4_draws, Cond.code yX4_draws cX4_draws 5 (some .int)]
def wsX4_balanceBySums : List Cond := .code yX4_balanceBySums cX4_balanceBySums 3 (some .int) :: ((wsX4_balanceBySums_r1 ++ (wsX4_balanceBySums_r2 ++ (wsX4_balanceBySums_r3 ++ wsX4_balanceBySums_r4))) ++ wsX40)
def wsX4_earned_r1 : List Cond := [Cond.fieldLink RX4 97 "LeavebankModel" "earnedSum" "I", Cond.methodLink RX4 154 yX4_isGone, Cond.instanceMethod yX4_isGone, Cond.selects RX4 yX4_isGone yX4_isGone, Cond.initialized RX4, Cond.code yX4_isGone cX4_isGone 3 (some .boolean), Cond.fieldLink RX4 65 "LeavebankModel" "thrown" "I", Cond.methodLink RX4 151 yX4_isAsked, Cond.instanceMethod yX4_isAsked, Cond.selects RX4 yX4_isAsked yX4_isAsked, Cond.code yX4_isAsked cX4_isAsked 3 (some .boolean), Cond.methodLink RX4 142 yX4_isPerson, Cond.instanceMethod yX4_isPerson, Cond.selects RX4 yX4_isPerson yX4_isPerson, Cond.code yX4_isPerson cX4_isPerson 2 (some .boolean), Cond.fieldLink RX4 69 "LeavebankModel" "people" "I", Cond.methodLink RX4 72 yX4_in, Cond.static yX4_in, Cond.code yX4_in cX4_in 3 (some .boolean), Cond.methodLink RX4 148 yX4_goes, Cond.instanceMethod yX4_goes, Cond.selects RX4 yX4_goes yX4_goes, Cond.code yX4_goes cX4_goes 4 none, Cond.fieldLink RX4 62 "LeavebankModel" "pool" "[I"]
def wsX4_earned_r2 : List Cond := [Cond.fieldLink RX4 94 "LeavebankModel" "owed" "I", Cond.fieldLink RX4 114 "LeavebankModel" "takenSum" "I", Cond.fieldLink RX4 121 "LeavebankModel" "expiredSum" "I", Cond.fieldLink RX4 130 "LeavebankModel" "paidSum" "I", Cond.fieldLink RX4 107 "LeavebankModel" "unpaidDays" "I", Cond.fieldLink RX4 7 "LeavebankModel" "start" "[I", Cond.methodLink RX4 133 yX4_dayOf, Cond.instanceMethod yX4_dayOf, Cond.selects RX4 yX4_dayOf yX4_dayOf, Cond.code yX4_dayOf cX4_dayOf 4 none, Cond.fieldLink RX4 127 "LeavebankModel" "payouts" "I", Cond.fieldLink RX4 53 "LeavebankModel" "payee" "[I", Cond.fieldLink RX4 56 "LeavebankModel" "payDay" "[I", Cond.fieldLink RX4 59 "LeavebankModel" "payPoints" "[I", Cond.methodLink RX4 117 yX4_earns, Cond.instanceMethod yX4_earns, Cond.selects RX4 yX4_earns yX4_earns, Cond.code yX4_earns cX4_earns 7 none, Cond.fieldLink RX4 13 "LeavebankModel" "right" "[I", Cond.methodLink RX4 90 yX4_hoursOn, Cond.instanceMethod yX4_hoursOn, Cond.selects RX4 yX4_hoursOn yX4_hoursOn, Cond.code yX4_hoursOn cX4_hoursOn 7 (some .int), Cond.fieldLink RX4 16 "LeavebankModel" "hours" "[I"]
def wsX4_earned_r3 : List Cond := [Cond.fieldLink RX4 19 "LeavebankModel" "changes" "[I", Cond.fieldLink RX4 22 "LeavebankModel" "changeDay" "[I", Cond.fieldLink RX4 25 "LeavebankModel" "changeHours" "[I", Cond.methodLink RX4 124 yX4_leaves, Cond.instanceMethod yX4_leaves, Cond.selects RX4 yX4_leaves yX4_leaves, Cond.code yX4_leaves cX4_leaves 5 none, Cond.methodLink RX4 100 yX4_leaveOn, Cond.instanceMethod yX4_leaveOn, Cond.selects RX4 yX4_leaveOn yX4_leaveOn, Cond.code yX4_leaveOn cX4_leaveOn 7 (some .int), Cond.fieldLink RX4 79 "LeavebankModel" "requests" "I", Cond.fieldLink RX4 28 "LeavebankModel" "who" "[I", Cond.fieldLink RX4 41 "LeavebankModel" "gone" "[Z", Cond.fieldLink RX4 31 "LeavebankModel" "from" "[I", Cond.fieldLink RX4 34 "LeavebankModel" "to" "[I", Cond.fieldLink RX4 37 "LeavebankModel" "half" "[Z", Cond.methodLink RX4 82 yX4_isWorking, Cond.static yX4_isWorking, Cond.code yX4_isWorking cX4_isWorking 1 (some .boolean), Cond.methodLink RX4 86 yX4_isIll, Cond.instanceMethod yX4_isIll, Cond.selects RX4 yX4_isIll yX4_isIll, Cond.code yX4_isIll cX4_isIll 5 (some .boolean)]
def wsX4_earned_r4 : List Cond := [Cond.fieldLink RX4 76 "LeavebankModel" "spells" "I", Cond.fieldLink RX4 44 "LeavebankModel" "ill" "[I", Cond.fieldLink RX4 47 "LeavebankModel" "illFrom" "[I", Cond.fieldLink RX4 50 "LeavebankModel" "illTo" "[I", Cond.methodLink RX4 103 yX4_inPools, Cond.instanceMethod yX4_inPools, Cond.selects RX4 yX4_inPools yX4_inPools, Cond.code yX4_inPools cX4_inPools 3 (some .int), Cond.methodLink RX4 110 yX4_draws, Cond.instanceMethod yX4_draws, Cond.selects RX4 yX4_draws yX4_draws, Cond.code yX4_draws cX4_draws 5 (some .int)]
def wsX4_earned : List Cond := .code yX4_earned cX4_earned 3 (some .int) :: ((wsX4_earned_r1 ++ (wsX4_earned_r2 ++ (wsX4_earned_r3 ++ wsX4_earned_r4))) ++ wsX40)
def wsX4_taken_r1 : List Cond := [Cond.fieldLink RX4 114 "LeavebankModel" "takenSum" "I", Cond.methodLink RX4 154 yX4_isGone, Cond.instanceMethod yX4_isGone, Cond.selects RX4 yX4_isGone yX4_isGone, Cond.initialized RX4, Cond.code yX4_isGone cX4_isGone 3 (some .boolean), Cond.fieldLink RX4 65 "LeavebankModel" "thrown" "I", Cond.methodLink RX4 151 yX4_isAsked, Cond.instanceMethod yX4_isAsked, Cond.selects RX4 yX4_isAsked yX4_isAsked, Cond.code yX4_isAsked cX4_isAsked 3 (some .boolean), Cond.methodLink RX4 142 yX4_isPerson, Cond.instanceMethod yX4_isPerson, Cond.selects RX4 yX4_isPerson yX4_isPerson, Cond.code yX4_isPerson cX4_isPerson 2 (some .boolean), Cond.fieldLink RX4 69 "LeavebankModel" "people" "I", Cond.methodLink RX4 72 yX4_in, Cond.static yX4_in, Cond.code yX4_in cX4_in 3 (some .boolean), Cond.methodLink RX4 148 yX4_goes, Cond.instanceMethod yX4_goes, Cond.selects RX4 yX4_goes yX4_goes, Cond.code yX4_goes cX4_goes 4 none, Cond.fieldLink RX4 62 "LeavebankModel" "pool" "[I"]
def wsX4_taken_r2 : List Cond := [Cond.fieldLink RX4 94 "LeavebankModel" "owed" "I", Cond.fieldLink RX4 97 "LeavebankModel" "earnedSum" "I", Cond.fieldLink RX4 121 "LeavebankModel" "expiredSum" "I", Cond.fieldLink RX4 130 "LeavebankModel" "paidSum" "I", Cond.fieldLink RX4 107 "LeavebankModel" "unpaidDays" "I", Cond.fieldLink RX4 7 "LeavebankModel" "start" "[I", Cond.methodLink RX4 133 yX4_dayOf, Cond.instanceMethod yX4_dayOf, Cond.selects RX4 yX4_dayOf yX4_dayOf, Cond.code yX4_dayOf cX4_dayOf 4 none, Cond.fieldLink RX4 127 "LeavebankModel" "payouts" "I", Cond.fieldLink RX4 53 "LeavebankModel" "payee" "[I", Cond.fieldLink RX4 56 "LeavebankModel" "payDay" "[I", Cond.fieldLink RX4 59 "LeavebankModel" "payPoints" "[I", Cond.methodLink RX4 117 yX4_earns, Cond.instanceMethod yX4_earns, Cond.selects RX4 yX4_earns yX4_earns, Cond.code yX4_earns cX4_earns 7 none, Cond.fieldLink RX4 13 "LeavebankModel" "right" "[I", Cond.methodLink RX4 90 yX4_hoursOn, Cond.instanceMethod yX4_hoursOn, Cond.selects RX4 yX4_hoursOn yX4_hoursOn, Cond.code yX4_hoursOn cX4_hoursOn 7 (some .int), Cond.fieldLink RX4 16 "LeavebankModel" "hours" "[I"]
def wsX4_taken_r3 : List Cond := [Cond.fieldLink RX4 19 "LeavebankModel" "changes" "[I", Cond.fieldLink RX4 22 "LeavebankModel" "changeDay" "[I", Cond.fieldLink RX4 25 "LeavebankModel" "changeHours" "[I", Cond.methodLink RX4 124 yX4_leaves, Cond.instanceMethod yX4_leaves, Cond.selects RX4 yX4_leaves yX4_leaves, Cond.code yX4_leaves cX4_leaves 5 none, Cond.methodLink RX4 100 yX4_leaveOn, Cond.instanceMethod yX4_leaveOn, Cond.selects RX4 yX4_leaveOn yX4_leaveOn, Cond.code yX4_leaveOn cX4_leaveOn 7 (some .int), Cond.fieldLink RX4 79 "LeavebankModel" "requests" "I", Cond.fieldLink RX4 28 "LeavebankModel" "who" "[I", Cond.fieldLink RX4 41 "LeavebankModel" "gone" "[Z", Cond.fieldLink RX4 31 "LeavebankModel" "from" "[I", Cond.fieldLink RX4 34 "LeavebankModel" "to" "[I", Cond.fieldLink RX4 37 "LeavebankModel" "half" "[Z", Cond.methodLink RX4 82 yX4_isWorking, Cond.static yX4_isWorking, Cond.code yX4_isWorking cX4_isWorking 1 (some .boolean), Cond.methodLink RX4 86 yX4_isIll, Cond.instanceMethod yX4_isIll, Cond.selects RX4 yX4_isIll yX4_isIll, Cond.code yX4_isIll cX4_isIll 5 (some .boolean)]
def wsX4_taken_r4 : List Cond := [Cond.fieldLink RX4 76 "LeavebankModel" "spells" "I", Cond.fieldLink RX4 44 "LeavebankModel" "ill" "[I", Cond.fieldLink RX4 47 "LeavebankModel" "illFrom" "[I", Cond.fieldLink RX4 50 "LeavebankModel" "illTo" "[I", Cond.methodLink RX4 103 yX4_inPools, Cond.instanceMethod yX4_inPools, Cond.selects RX4 yX4_inPools yX4_inPools, Cond.code yX4_inPools cX4_inPools 3 (some .int), Cond.methodLink RX4 110 yX4_draws, Cond.instanceMethod yX4_draws, Cond.selects RX4 yX4_draws yX4_draws, Cond.code yX4_draws cX4_draws 5 (some .int)]
def wsX4_taken : List Cond := .code yX4_taken cX4_taken 3 (some .int) :: ((wsX4_taken_r1 ++ (wsX4_taken_r2 ++ (wsX4_taken_r3 ++ wsX4_taken_r4))) ++ wsX40)
def wsX4_expired_r1 : List Cond := [Cond.fieldLink RX4 121 "LeavebankModel" "expiredSum" "I", Cond.methodLink RX4 154 yX4_isGone, Cond.instanceMethod yX4_isGone, Cond.selects RX4 yX4_isGone yX4_isGone, Cond.initialized RX4, Cond.code yX4_isGone cX4_isGone 3 (some .boolean), Cond.fieldLink RX4 65 "LeavebankModel" "thrown" "I", Cond.methodLink RX4 151 yX4_isAsked, Cond.instanceMethod yX4_isAsked, Cond.selects RX4 yX4_isAsked yX4_isAsked, Cond.code yX4_isAsked cX4_isAsked 3 (some .boolean), Cond.methodLink RX4 142 yX4_isPerson, Cond.instanceMethod yX4_isPerson, Cond.selects RX4 yX4_isPerson yX4_isPerson, Cond.code yX4_isPerson cX4_isPerson 2 (some .boolean), Cond.fieldLink RX4 69 "LeavebankModel" "people" "I", Cond.methodLink RX4 72 yX4_in, Cond.static yX4_in, Cond.code yX4_in cX4_in 3 (some .boolean), Cond.methodLink RX4 148 yX4_goes, Cond.instanceMethod yX4_goes, Cond.selects RX4 yX4_goes yX4_goes, Cond.code yX4_goes cX4_goes 4 none, Cond.fieldLink RX4 62 "LeavebankModel" "pool" "[I"]
def wsX4_expired_r2 : List Cond := [Cond.fieldLink RX4 94 "LeavebankModel" "owed" "I", Cond.fieldLink RX4 97 "LeavebankModel" "earnedSum" "I", Cond.fieldLink RX4 114 "LeavebankModel" "takenSum" "I", Cond.fieldLink RX4 130 "LeavebankModel" "paidSum" "I", Cond.fieldLink RX4 107 "LeavebankModel" "unpaidDays" "I", Cond.fieldLink RX4 7 "LeavebankModel" "start" "[I", Cond.methodLink RX4 133 yX4_dayOf, Cond.instanceMethod yX4_dayOf, Cond.selects RX4 yX4_dayOf yX4_dayOf, Cond.code yX4_dayOf cX4_dayOf 4 none, Cond.fieldLink RX4 127 "LeavebankModel" "payouts" "I", Cond.fieldLink RX4 53 "LeavebankModel" "payee" "[I", Cond.fieldLink RX4 56 "LeavebankModel" "payDay" "[I", Cond.fieldLink RX4 59 "LeavebankModel" "payPoints" "[I", Cond.methodLink RX4 117 yX4_earns, Cond.instanceMethod yX4_earns, Cond.selects RX4 yX4_earns yX4_earns, Cond.code yX4_earns cX4_earns 7 none, Cond.fieldLink RX4 13 "LeavebankModel" "right" "[I", Cond.methodLink RX4 90 yX4_hoursOn, Cond.instanceMethod yX4_hoursOn, Cond.selects RX4 yX4_hoursOn yX4_hoursOn, Cond.code yX4_hoursOn cX4_hoursOn 7 (some .int), Cond.fieldLink RX4 16 "LeavebankModel" "hours" "[I"]
def wsX4_expired_r3 : List Cond := [Cond.fieldLink RX4 19 "LeavebankModel" "changes" "[I", Cond.fieldLink RX4 22 "LeavebankModel" "changeDay" "[I", Cond.fieldLink RX4 25 "LeavebankModel" "changeHours" "[I", Cond.methodLink RX4 124 yX4_leaves, Cond.instanceMethod yX4_leaves, Cond.selects RX4 yX4_leaves yX4_leaves, Cond.code yX4_leaves cX4_leaves 5 none, Cond.methodLink RX4 100 yX4_leaveOn, Cond.instanceMethod yX4_leaveOn, Cond.selects RX4 yX4_leaveOn yX4_leaveOn, Cond.code yX4_leaveOn cX4_leaveOn 7 (some .int), Cond.fieldLink RX4 79 "LeavebankModel" "requests" "I", Cond.fieldLink RX4 28 "LeavebankModel" "who" "[I", Cond.fieldLink RX4 41 "LeavebankModel" "gone" "[Z", Cond.fieldLink RX4 31 "LeavebankModel" "from" "[I", Cond.fieldLink RX4 34 "LeavebankModel" "to" "[I", Cond.fieldLink RX4 37 "LeavebankModel" "half" "[Z", Cond.methodLink RX4 82 yX4_isWorking, Cond.static yX4_isWorking, Cond.code yX4_isWorking cX4_isWorking 1 (some .boolean), Cond.methodLink RX4 86 yX4_isIll, Cond.instanceMethod yX4_isIll, Cond.selects RX4 yX4_isIll yX4_isIll, Cond.code yX4_isIll cX4_isIll 5 (some .boolean)]
def wsX4_expired_r4 : List Cond := [Cond.fieldLink RX4 76 "LeavebankModel" "spells" "I", Cond.fieldLink RX4 44 "LeavebankModel" "ill" "[I", Cond.fieldLink RX4 47 "LeavebankModel" "illFrom" "[I", Cond.fieldLink RX4 50 "LeavebankModel" "illTo" "[I", Cond.methodLink RX4 103 yX4_inPools, Cond.instanceMethod yX4_inPools, Cond.selects RX4 yX4_inPools yX4_inPools, Cond.code yX4_inPools cX4_inPools 3 (some .int), Cond.methodLink RX4 110 yX4_draws, Cond.instanceMethod yX4_draws, Cond.selects RX4 yX4_draws yX4_draws, Cond.code yX4_draws cX4_draws 5 (some .int)]
def wsX4_expired : List Cond := .code yX4_expired cX4_expired 3 (some .int) :: ((wsX4_expired_r1 ++ (wsX4_expired_r2 ++ (wsX4_expired_r3 ++ wsX4_expired_r4))) ++ wsX40)
def wsX4_paid_r1 : List Cond := [Cond.fieldLink RX4 130 "LeavebankModel" "paidSum" "I", Cond.methodLink RX4 154 yX4_isGone, Cond.instanceMethod yX4_isGone, Cond.selects RX4 yX4_isGone yX4_isGone, Cond.initialized RX4, Cond.code yX4_isGone cX4_isGone 3 (some .boolean), Cond.fieldLink RX4 65 "LeavebankModel" "thrown" "I", Cond.methodLink RX4 151 yX4_isAsked, Cond.instanceMethod yX4_isAsked, Cond.selects RX4 yX4_isAsked yX4_isAsked, Cond.code yX4_isAsked cX4_isAsked 3 (some .boolean), Cond.methodLink RX4 142 yX4_isPerson, Cond.instanceMethod yX4_isPerson, Cond.selects RX4 yX4_isPerson yX4_isPerson, Cond.code yX4_isPerson cX4_isPerson 2 (some .boolean), Cond.fieldLink RX4 69 "LeavebankModel" "people" "I", Cond.methodLink RX4 72 yX4_in, Cond.static yX4_in, Cond.code yX4_in cX4_in 3 (some .boolean), Cond.methodLink RX4 148 yX4_goes, Cond.instanceMethod yX4_goes, Cond.selects RX4 yX4_goes yX4_goes, Cond.code yX4_goes cX4_goes 4 none, Cond.fieldLink RX4 62 "LeavebankModel" "pool" "[I"]
def wsX4_paid_r2 : List Cond := [Cond.fieldLink RX4 94 "LeavebankModel" "owed" "I", Cond.fieldLink RX4 97 "LeavebankModel" "earnedSum" "I", Cond.fieldLink RX4 114 "LeavebankModel" "takenSum" "I", Cond.fieldLink RX4 121 "LeavebankModel" "expiredSum" "I", Cond.fieldLink RX4 107 "LeavebankModel" "unpaidDays" "I", Cond.fieldLink RX4 7 "LeavebankModel" "start" "[I", Cond.methodLink RX4 133 yX4_dayOf, Cond.instanceMethod yX4_dayOf, Cond.selects RX4 yX4_dayOf yX4_dayOf, Cond.code yX4_dayOf cX4_dayOf 4 none, Cond.fieldLink RX4 127 "LeavebankModel" "payouts" "I", Cond.fieldLink RX4 53 "LeavebankModel" "payee" "[I", Cond.fieldLink RX4 56 "LeavebankModel" "payDay" "[I", Cond.fieldLink RX4 59 "LeavebankModel" "payPoints" "[I", Cond.methodLink RX4 117 yX4_earns, Cond.instanceMethod yX4_earns, Cond.selects RX4 yX4_earns yX4_earns, Cond.code yX4_earns cX4_earns 7 none, Cond.fieldLink RX4 13 "LeavebankModel" "right" "[I", Cond.methodLink RX4 90 yX4_hoursOn, Cond.instanceMethod yX4_hoursOn, Cond.selects RX4 yX4_hoursOn yX4_hoursOn, Cond.code yX4_hoursOn cX4_hoursOn 7 (some .int), Cond.fieldLink RX4 16 "LeavebankModel" "hours" "[I"]
def wsX4_paid_r3 : List Cond := [Cond.fieldLink RX4 19 "LeavebankModel" "changes" "[I", Cond.fieldLink RX4 22 "LeavebankModel" "changeDay" "[I", Cond.fieldLink RX4 25 "LeavebankModel" "changeHours" "[I", Cond.methodLink RX4 124 yX4_leaves, Cond.instanceMethod yX4_leaves, Cond.selects RX4 yX4_leaves yX4_leaves, Cond.code yX4_leaves cX4_leaves 5 none, Cond.methodLink RX4 100 yX4_leaveOn, Cond.instanceMethod yX4_leaveOn, Cond.selects RX4 yX4_leaveOn yX4_leaveOn, Cond.code yX4_leaveOn cX4_leaveOn 7 (some .int), Cond.fieldLink RX4 79 "LeavebankModel" "requests" "I", Cond.fieldLink RX4 28 "LeavebankModel" "who" "[I", Cond.fieldLink RX4 41 "LeavebankModel" "gone" "[Z", Cond.fieldLink RX4 31 "LeavebankModel" "from" "[I", Cond.fieldLink RX4 34 "LeavebankModel" "to" "[I", Cond.fieldLink RX4 37 "LeavebankModel" "half" "[Z", Cond.methodLink RX4 82 yX4_isWorking, Cond.static yX4_isWorking, Cond.code yX4_isWorking cX4_isWorking 1 (some .boolean), Cond.methodLink RX4 86 yX4_isIll, Cond.instanceMethod yX4_isIll, Cond.selects RX4 yX4_isIll yX4_isIll, Cond.code yX4_isIll cX4_isIll 5 (some .boolean)]
def wsX4_paid_r4 : List Cond := [Cond.fieldLink RX4 76 "LeavebankModel" "spells" "I", Cond.fieldLink RX4 44 "LeavebankModel" "ill" "[I", Cond.fieldLink RX4 47 "LeavebankModel" "illFrom" "[I", Cond.fieldLink RX4 50 "LeavebankModel" "illTo" "[I", Cond.methodLink RX4 103 yX4_inPools, Cond.instanceMethod yX4_inPools, Cond.selects RX4 yX4_inPools yX4_inPools, Cond.code yX4_inPools cX4_inPools 3 (some .int), Cond.methodLink RX4 110 yX4_draws, Cond.instanceMethod yX4_draws, Cond.selects RX4 yX4_draws yX4_draws, Cond.code yX4_draws cX4_draws 5 (some .int)]
def wsX4_paid : List Cond := .code yX4_paid cX4_paid 3 (some .int) :: ((wsX4_paid_r1 ++ (wsX4_paid_r2 ++ (wsX4_paid_r3 ++ wsX4_paid_r4))) ++ wsX40)
def wsX4_borrowed_r1 : List Cond := [Cond.fieldLink RX4 94 "LeavebankModel" "owed" "I", Cond.methodLink RX4 154 yX4_isGone, Cond.instanceMethod yX4_isGone, Cond.selects RX4 yX4_isGone yX4_isGone, Cond.initialized RX4, Cond.code yX4_isGone cX4_isGone 3 (some .boolean), Cond.fieldLink RX4 65 "LeavebankModel" "thrown" "I", Cond.methodLink RX4 151 yX4_isAsked, Cond.instanceMethod yX4_isAsked, Cond.selects RX4 yX4_isAsked yX4_isAsked, Cond.code yX4_isAsked cX4_isAsked 3 (some .boolean), Cond.methodLink RX4 142 yX4_isPerson, Cond.instanceMethod yX4_isPerson, Cond.selects RX4 yX4_isPerson yX4_isPerson, Cond.code yX4_isPerson cX4_isPerson 2 (some .boolean), Cond.fieldLink RX4 69 "LeavebankModel" "people" "I", Cond.methodLink RX4 72 yX4_in, Cond.static yX4_in, Cond.code yX4_in cX4_in 3 (some .boolean), Cond.methodLink RX4 148 yX4_goes, Cond.instanceMethod yX4_goes, Cond.selects RX4 yX4_goes yX4_goes, Cond.code yX4_goes cX4_goes 4 none, Cond.fieldLink RX4 62 "LeavebankModel" "pool" "[I"]
def wsX4_borrowed_r2 : List Cond := [Cond.fieldLink RX4 97 "LeavebankModel" "earnedSum" "I", Cond.fieldLink RX4 114 "LeavebankModel" "takenSum" "I", Cond.fieldLink RX4 121 "LeavebankModel" "expiredSum" "I", Cond.fieldLink RX4 130 "LeavebankModel" "paidSum" "I", Cond.fieldLink RX4 107 "LeavebankModel" "unpaidDays" "I", Cond.fieldLink RX4 7 "LeavebankModel" "start" "[I", Cond.methodLink RX4 133 yX4_dayOf, Cond.instanceMethod yX4_dayOf, Cond.selects RX4 yX4_dayOf yX4_dayOf, Cond.code yX4_dayOf cX4_dayOf 4 none, Cond.fieldLink RX4 127 "LeavebankModel" "payouts" "I", Cond.fieldLink RX4 53 "LeavebankModel" "payee" "[I", Cond.fieldLink RX4 56 "LeavebankModel" "payDay" "[I", Cond.fieldLink RX4 59 "LeavebankModel" "payPoints" "[I", Cond.methodLink RX4 117 yX4_earns, Cond.instanceMethod yX4_earns, Cond.selects RX4 yX4_earns yX4_earns, Cond.code yX4_earns cX4_earns 7 none, Cond.fieldLink RX4 13 "LeavebankModel" "right" "[I", Cond.methodLink RX4 90 yX4_hoursOn, Cond.instanceMethod yX4_hoursOn, Cond.selects RX4 yX4_hoursOn yX4_hoursOn, Cond.code yX4_hoursOn cX4_hoursOn 7 (some .int), Cond.fieldLink RX4 16 "LeavebankModel" "hours" "[I"]
def wsX4_borrowed_r3 : List Cond := [Cond.fieldLink RX4 19 "LeavebankModel" "changes" "[I", Cond.fieldLink RX4 22 "LeavebankModel" "changeDay" "[I", Cond.fieldLink RX4 25 "LeavebankModel" "changeHours" "[I", Cond.methodLink RX4 124 yX4_leaves, Cond.instanceMethod yX4_leaves, Cond.selects RX4 yX4_leaves yX4_leaves, Cond.code yX4_leaves cX4_leaves 5 none, Cond.methodLink RX4 100 yX4_leaveOn, Cond.instanceMethod yX4_leaveOn, Cond.selects RX4 yX4_leaveOn yX4_leaveOn, Cond.code yX4_leaveOn cX4_leaveOn 7 (some .int), Cond.fieldLink RX4 79 "LeavebankModel" "requests" "I", Cond.fieldLink RX4 28 "LeavebankModel" "who" "[I", Cond.fieldLink RX4 41 "LeavebankModel" "gone" "[Z", Cond.fieldLink RX4 31 "LeavebankModel" "from" "[I", Cond.fieldLink RX4 34 "LeavebankModel" "to" "[I", Cond.fieldLink RX4 37 "LeavebankModel" "half" "[Z", Cond.methodLink RX4 82 yX4_isWorking, Cond.static yX4_isWorking, Cond.code yX4_isWorking cX4_isWorking 1 (some .boolean), Cond.methodLink RX4 86 yX4_isIll, Cond.instanceMethod yX4_isIll, Cond.selects RX4 yX4_isIll yX4_isIll, Cond.code yX4_isIll cX4_isIll 5 (some .boolean)]
def wsX4_borrowed_r4 : List Cond := [Cond.fieldLink RX4 76 "LeavebankModel" "spells" "I", Cond.fieldLink RX4 44 "LeavebankModel" "ill" "[I", Cond.fieldLink RX4 47 "LeavebankModel" "illFrom" "[I", Cond.fieldLink RX4 50 "LeavebankModel" "illTo" "[I", Cond.methodLink RX4 103 yX4_inPools, Cond.instanceMethod yX4_inPools, Cond.selects RX4 yX4_inPools yX4_inPools, Cond.code yX4_inPools cX4_inPools 3 (some .int), Cond.methodLink RX4 110 yX4_draws, Cond.instanceMethod yX4_draws, Cond.selects RX4 yX4_draws yX4_draws, Cond.code yX4_draws cX4_draws 5 (some .int)]
def wsX4_borrowed : List Cond := .code yX4_borrowed cX4_borrowed 3 (some .int) :: ((wsX4_borrowed_r1 ++ (wsX4_borrowed_r2 ++ (wsX4_borrowed_r3 ++ wsX4_borrowed_r4))) ++ wsX40)
def wsX4_unpaid_r1 : List Cond := [Cond.fieldLink RX4 107 "LeavebankModel" "unpaidDays" "I", Cond.methodLink RX4 154 yX4_isGone, Cond.instanceMethod yX4_isGone, Cond.selects RX4 yX4_isGone yX4_isGone, Cond.initialized RX4, Cond.code yX4_isGone cX4_isGone 3 (some .boolean), Cond.fieldLink RX4 65 "LeavebankModel" "thrown" "I", Cond.methodLink RX4 151 yX4_isAsked, Cond.instanceMethod yX4_isAsked, Cond.selects RX4 yX4_isAsked yX4_isAsked, Cond.code yX4_isAsked cX4_isAsked 3 (some .boolean), Cond.methodLink RX4 142 yX4_isPerson, Cond.instanceMethod yX4_isPerson, Cond.selects RX4 yX4_isPerson yX4_isPerson, Cond.code yX4_isPerson cX4_isPerson 2 (some .boolean), Cond.fieldLink RX4 69 "LeavebankModel" "people" "I", Cond.methodLink RX4 72 yX4_in, Cond.static yX4_in, Cond.code yX4_in cX4_in 3 (some .boolean), Cond.methodLink RX4 148 yX4_goes, Cond.instanceMethod yX4_goes, Cond.selects RX4 yX4_goes yX4_goes, Cond.code yX4_goes cX4_goes 4 none, Cond.fieldLink RX4 62 "LeavebankModel" "pool" "[I"]
def wsX4_unpaid_r2 : List Cond := [Cond.fieldLink RX4 94 "LeavebankModel" "owed" "I", Cond.fieldLink RX4 97 "LeavebankModel" "earnedSum" "I", Cond.fieldLink RX4 114 "LeavebankModel" "takenSum" "I", Cond.fieldLink RX4 121 "LeavebankModel" "expiredSum" "I", Cond.fieldLink RX4 130 "LeavebankModel" "paidSum" "I", Cond.fieldLink RX4 7 "LeavebankModel" "start" "[I", Cond.methodLink RX4 133 yX4_dayOf, Cond.instanceMethod yX4_dayOf, Cond.selects RX4 yX4_dayOf yX4_dayOf, Cond.code yX4_dayOf cX4_dayOf 4 none, Cond.fieldLink RX4 127 "LeavebankModel" "payouts" "I", Cond.fieldLink RX4 53 "LeavebankModel" "payee" "[I", Cond.fieldLink RX4 56 "LeavebankModel" "payDay" "[I", Cond.fieldLink RX4 59 "LeavebankModel" "payPoints" "[I", Cond.methodLink RX4 117 yX4_earns, Cond.instanceMethod yX4_earns, Cond.selects RX4 yX4_earns yX4_earns, Cond.code yX4_earns cX4_earns 7 none, Cond.fieldLink RX4 13 "LeavebankModel" "right" "[I", Cond.methodLink RX4 90 yX4_hoursOn, Cond.instanceMethod yX4_hoursOn, Cond.selects RX4 yX4_hoursOn yX4_hoursOn, Cond.code yX4_hoursOn cX4_hoursOn 7 (some .int), Cond.fieldLink RX4 16 "LeavebankModel" "hours" "[I"]
def wsX4_unpaid_r3 : List Cond := [Cond.fieldLink RX4 19 "LeavebankModel" "changes" "[I", Cond.fieldLink RX4 22 "LeavebankModel" "changeDay" "[I", Cond.fieldLink RX4 25 "LeavebankModel" "changeHours" "[I", Cond.methodLink RX4 124 yX4_leaves, Cond.instanceMethod yX4_leaves, Cond.selects RX4 yX4_leaves yX4_leaves, Cond.code yX4_leaves cX4_leaves 5 none, Cond.methodLink RX4 100 yX4_leaveOn, Cond.instanceMethod yX4_leaveOn, Cond.selects RX4 yX4_leaveOn yX4_leaveOn, Cond.code yX4_leaveOn cX4_leaveOn 7 (some .int), Cond.fieldLink RX4 79 "LeavebankModel" "requests" "I", Cond.fieldLink RX4 28 "LeavebankModel" "who" "[I", Cond.fieldLink RX4 41 "LeavebankModel" "gone" "[Z", Cond.fieldLink RX4 31 "LeavebankModel" "from" "[I", Cond.fieldLink RX4 34 "LeavebankModel" "to" "[I", Cond.fieldLink RX4 37 "LeavebankModel" "half" "[Z", Cond.methodLink RX4 82 yX4_isWorking, Cond.static yX4_isWorking, Cond.code yX4_isWorking cX4_isWorking 1 (some .boolean), Cond.methodLink RX4 86 yX4_isIll, Cond.instanceMethod yX4_isIll, Cond.selects RX4 yX4_isIll yX4_isIll, Cond.code yX4_isIll cX4_isIll 5 (some .boolean)]
def wsX4_unpaid_r4 : List Cond := [Cond.fieldLink RX4 76 "LeavebankModel" "spells" "I", Cond.fieldLink RX4 44 "LeavebankModel" "ill" "[I", Cond.fieldLink RX4 47 "LeavebankModel" "illFrom" "[I", Cond.fieldLink RX4 50 "LeavebankModel" "illTo" "[I", Cond.methodLink RX4 103 yX4_inPools, Cond.instanceMethod yX4_inPools, Cond.selects RX4 yX4_inPools yX4_inPools, Cond.code yX4_inPools cX4_inPools 3 (some .int), Cond.methodLink RX4 110 yX4_draws, Cond.instanceMethod yX4_draws, Cond.selects RX4 yX4_draws yX4_draws, Cond.code yX4_draws cX4_draws 5 (some .int)]
def wsX4_unpaid : List Cond := .code yX4_unpaid cX4_unpaid 3 (some .int) :: ((wsX4_unpaid_r1 ++ (wsX4_unpaid_r2 ++ (wsX4_unpaid_r3 ++ wsX4_unpaid_r4))) ++ wsX40)
def wsX4_nextExpiry_r1 : List Cond := [Cond.fieldLink RX4 62 "LeavebankModel" "pool" "[I", Cond.methodLink RX4 154 yX4_isGone, Cond.instanceMethod yX4_isGone, Cond.selects RX4 yX4_isGone yX4_isGone, Cond.initialized RX4, Cond.code yX4_isGone cX4_isGone 3 (some .boolean), Cond.fieldLink RX4 65 "LeavebankModel" "thrown" "I", Cond.methodLink RX4 151 yX4_isAsked, Cond.instanceMethod yX4_isAsked, Cond.selects RX4 yX4_isAsked yX4_isAsked, Cond.code yX4_isAsked cX4_isAsked 3 (some .boolean), Cond.methodLink RX4 142 yX4_isPerson, Cond.instanceMethod yX4_isPerson, Cond.selects RX4 yX4_isPerson yX4_isPerson, Cond.code yX4_isPerson cX4_isPerson 2 (some .boolean), Cond.fieldLink RX4 69 "LeavebankModel" "people" "I", Cond.methodLink RX4 72 yX4_in, Cond.static yX4_in, Cond.code yX4_in cX4_in 3 (some .boolean), Cond.methodLink RX4 148 yX4_goes, Cond.instanceMethod yX4_goes, Cond.selects RX4 yX4_goes yX4_goes, Cond.code yX4_goes cX4_goes 4 none, Cond.fieldLink RX4 94 "LeavebankModel" "owed" "I"]
def wsX4_nextExpiry_r2 : List Cond := [Cond.fieldLink RX4 97 "LeavebankModel" "earnedSum" "I", Cond.fieldLink RX4 114 "LeavebankModel" "takenSum" "I", Cond.fieldLink RX4 121 "LeavebankModel" "expiredSum" "I", Cond.fieldLink RX4 130 "LeavebankModel" "paidSum" "I", Cond.fieldLink RX4 107 "LeavebankModel" "unpaidDays" "I", Cond.fieldLink RX4 7 "LeavebankModel" "start" "[I", Cond.methodLink RX4 133 yX4_dayOf, Cond.instanceMethod yX4_dayOf, Cond.selects RX4 yX4_dayOf yX4_dayOf, Cond.code yX4_dayOf cX4_dayOf 4 none, Cond.fieldLink RX4 127 "LeavebankModel" "payouts" "I", Cond.fieldLink RX4 53 "LeavebankModel" "payee" "[I", Cond.fieldLink RX4 56 "LeavebankModel" "payDay" "[I", Cond.fieldLink RX4 59 "LeavebankModel" "payPoints" "[I", Cond.methodLink RX4 117 yX4_earns, Cond.instanceMethod yX4_earns, Cond.selects RX4 yX4_earns yX4_earns, Cond.code yX4_earns cX4_earns 7 none, Cond.fieldLink RX4 13 "LeavebankModel" "right" "[I", Cond.methodLink RX4 90 yX4_hoursOn, Cond.instanceMethod yX4_hoursOn, Cond.selects RX4 yX4_hoursOn yX4_hoursOn, Cond.code yX4_hoursOn cX4_hoursOn 7 (some .int), Cond.fieldLink RX4 16 "LeavebankModel" "hours" "[I"]
def wsX4_nextExpiry_r3 : List Cond := [Cond.fieldLink RX4 19 "LeavebankModel" "changes" "[I", Cond.fieldLink RX4 22 "LeavebankModel" "changeDay" "[I", Cond.fieldLink RX4 25 "LeavebankModel" "changeHours" "[I", Cond.methodLink RX4 124 yX4_leaves, Cond.instanceMethod yX4_leaves, Cond.selects RX4 yX4_leaves yX4_leaves, Cond.code yX4_leaves cX4_leaves 5 none, Cond.methodLink RX4 100 yX4_leaveOn, Cond.instanceMethod yX4_leaveOn, Cond.selects RX4 yX4_leaveOn yX4_leaveOn, Cond.code yX4_leaveOn cX4_leaveOn 7 (some .int), Cond.fieldLink RX4 79 "LeavebankModel" "requests" "I", Cond.fieldLink RX4 28 "LeavebankModel" "who" "[I", Cond.fieldLink RX4 41 "LeavebankModel" "gone" "[Z", Cond.fieldLink RX4 31 "LeavebankModel" "from" "[I", Cond.fieldLink RX4 34 "LeavebankModel" "to" "[I", Cond.fieldLink RX4 37 "LeavebankModel" "half" "[Z", Cond.methodLink RX4 82 yX4_isWorking, Cond.static yX4_isWorking, Cond.code yX4_isWorking cX4_isWorking 1 (some .boolean), Cond.methodLink RX4 86 yX4_isIll, Cond.instanceMethod yX4_isIll, Cond.selects RX4 yX4_isIll yX4_isIll, Cond.code yX4_isIll cX4_isIll 5 (some .boolean)]
def wsX4_nextExpiry_r4 : List Cond := [Cond.fieldLink RX4 76 "LeavebankModel" "spells" "I", Cond.fieldLink RX4 44 "LeavebankModel" "ill" "[I", Cond.fieldLink RX4 47 "LeavebankModel" "illFrom" "[I", Cond.fieldLink RX4 50 "LeavebankModel" "illTo" "[I", Cond.methodLink RX4 103 yX4_inPools, Cond.instanceMethod yX4_inPools, Cond.selects RX4 yX4_inPools yX4_inPools, Cond.code yX4_inPools cX4_inPools 3 (some .int), Cond.methodLink RX4 110 yX4_draws, Cond.instanceMethod yX4_draws, Cond.selects RX4 yX4_draws yX4_draws, Cond.code yX4_draws cX4_draws 5 (some .int)]
def wsX4_nextExpiry : List Cond := .code yX4_nextExpiry cX4_nextExpiry 5 (some .int) :: ((wsX4_nextExpiry_r1 ++ (wsX4_nextExpiry_r2 ++ (wsX4_nextExpiry_r3 ++ wsX4_nextExpiry_r4))) ++ wsX40)
def wsJ9_max_7cf53 : List Cond := .code yJ9_max_7cf53 cJ9_max_7cf53 2 (some .int) :: ([])
def wsJ9_min_7cf53 : List Cond := .code yJ9_min_7cf53 cJ9_min_7cf53 2 (some .int) :: ([])
def wsL_addPerson_r1 : List Cond := [Cond.classLink RL 13 "java/lang/IllegalArgumentException", Cond.classLink RL 15 "java/lang/IllegalStateException", Cond.methodLink RL 7 yX3_addPerson, Cond.instanceMethod yX3_addPerson, Cond.selects RX3 yX3_addPerson yX3_addPerson, Cond.initialized RX3, Cond.code yX3_addPerson cX3_addPerson 4 (some .int), Cond.classLink RX3 28 "java/lang/IllegalArgumentException", Cond.initialized "java/lang/IllegalArgumentException", Cond.classLink RX3 43 "java/lang/IllegalStateException", Cond.initialized "java/lang/IllegalStateException", Cond.fieldLink RX3 39 "Leavebank" "personCount" "I", Cond.fieldLink RX3 11 "Leavebank" "persons" "[LLeavebank$Person;", Cond.classLink RX3 9 RX1, Cond.instantiable RX1 15, Cond.initialized RX1, Cond.fieldLink RX3 48 "Leavebank" "currentDay" "I", Cond.methodLink RX3 35 yX3_checkHours, Cond.static yX3_checkHours, Cond.code yX3_checkHours cX3_checkHours 1 none, Cond.methodLink RX3 51 yX1_init, Cond.instanceMethod yX1_init, Cond.code yX1_init cX1_init 4 none, Cond.methodLink RX1 3 objectInit]
def wsL_addPerson_r2 : List Cond := [Cond.instanceMethod objectInit, Cond.code objectInit ⟨#[0xb1]⟩ 1 none, Cond.arrayClass .int, Cond.fieldLink RX1 9 "Leavebank$Person" "changeDays" "[I", Cond.fieldLink RX1 15 "Leavebank$Person" "changeHours" "[I", Cond.classLink RX1 18 RX2, Cond.fieldLink RX1 20 "Leavebank$Person" "ownRequests" "[LLeavebank$Request;", Cond.fieldLink RX1 24 "Leavebank$Person" "spellFirsts" "[I", Cond.fieldLink RX1 27 "Leavebank$Person" "spellLasts" "[I", Cond.fieldLink RX1 30 "Leavebank$Person" "payoutDays" "[I", Cond.fieldLink RX1 33 "Leavebank$Person" "payoutPoints" "[I", Cond.fieldLink RX1 36 "Leavebank$Person" "leaveKinds" "[I", Cond.fieldLink RX1 39 "Leavebank$Person" "firstDay" "I", Cond.fieldLink RX1 43 "Leavebank$Person" "right" "I", Cond.fieldLink RX1 46 "Leavebank$Person" "firstHours" "I"]
def wsL_addPerson : List Cond := .codeWith yL_addPerson cL_addPerson 5 (some .int) [(0, 10, 13, 13), (0, 10, 17, 15)] :: ((wsL_addPerson_r1 ++ wsL_addPerson_r2) ++ wsX30 ++ wsX10 ++ (vx_atS RX3 32 "java/lang/IllegalArgumentException" ["java/lang/RuntimeException", "java/lang/Exception"]).filter goodWord ++ (vx_atS RX3 47 "java/lang/IllegalStateException" ["java/lang/RuntimeException", "java/lang/Exception"]).filter goodWord)
def wsL_setHours_r1 : List Cond := [Cond.classLink RL 21 "java/lang/IndexOutOfBoundsException", Cond.classLink RL 13 "java/lang/IllegalArgumentException", Cond.classLink RL 15 "java/lang/IllegalStateException", Cond.methodLink RL 17 yX3_setHours, Cond.instanceMethod yX3_setHours, Cond.selects RX3 yX3_setHours yX3_setHours, Cond.initialized RX3, Cond.code yX3_setHours cX3_setHours 6 (some .int), Cond.classLink RX3 43 "java/lang/IllegalStateException", Cond.initialized "java/lang/IllegalStateException", Cond.fieldLink RX3 58 "Leavebank$Person" "firstDay" "I", Cond.methodLink RX3 54 yX3_personAt, Cond.instanceMethod yX3_personAt, Cond.selects RX3 yX3_personAt yX3_personAt, Cond.code yX3_personAt cX3_personAt 3 (some (.object "Leavebank$Person")), Cond.classLink RX3 174 "java/lang/IndexOutOfBoundsException", Cond.initialized "java/lang/IndexOutOfBoundsException", Cond.fieldLink RX3 11 "Leavebank" "persons" "[LLeavebank$Person;", Cond.methodLink RX3 61 yX3_checkDay, Cond.static yX3_checkDay, Cond.code yX3_checkDay cX3_checkDay 2 none, Cond.classLink RX3 28 "java/lang/IllegalArgumentException", Cond.initialized "java/lang/IllegalArgumentException", Cond.methodLink RX3 35 yX3_checkHours]
def wsL_setHours_r2 : List Cond := [Cond.static yX3_checkHours, Cond.code yX3_checkHours cX3_checkHours 1 none, Cond.methodLink RX3 65 yX1_hoursOn, Cond.instanceMethod yX1_hoursOn, Cond.selects RX1 yX1_hoursOn yX1_hoursOn, Cond.initialized RX1, Cond.code yX1_hoursOn cX1_hoursOn 5 (some .int), Cond.fieldLink RX1 46 "Leavebank$Person" "firstHours" "I", Cond.fieldLink RX1 49 "Leavebank$Person" "changeCount" "I", Cond.fieldLink RX1 9 "Leavebank$Person" "changeDays" "[I", Cond.fieldLink RX1 15 "Leavebank$Person" "changeHours" "[I", Cond.methodLink RX3 69 yX1_enterHours, Cond.instanceMethod yX1_enterHours, Cond.selects RX1 yX1_enterHours yX1_enterHours, Cond.code yX1_enterHours cX1_enterHours 4 (some .boolean), Cond.methodLink RX1 52 Lib.Math.max.name, Cond.static Lib.Math.max.name, Cond.initialized "java/lang/Math", Cond.code Lib.Math.max.name Lib.Math.max.code 2 (some .int)]
def wsL_setHours : List Cond := .codeWith yL_setHours cL_setHours 6 (some .int) [(0, 12, 15, 21), (0, 12, 19, 13), (0, 12, 23, 15)] :: ((wsL_setHours_r1 ++ wsL_setHours_r2) ++ wsX10 ++ wsX30 ++ (vx_atS RX3 47 "java/lang/IllegalStateException" ["java/lang/RuntimeException", "java/lang/Exception"]).filter goodWord ++ (vx_atS RX3 178 "java/lang/IndexOutOfBoundsException" ["java/lang/RuntimeException", "java/lang/Exception"]).filter goodWord ++ (vx_atS RX3 32 "java/lang/IllegalArgumentException" ["java/lang/RuntimeException", "java/lang/Exception"]).filter goodWord)
def wsL_request_r1 : List Cond := [Cond.classLink RL 21 "java/lang/IndexOutOfBoundsException", Cond.classLink RL 13 "java/lang/IllegalArgumentException", Cond.classLink RL 15 "java/lang/IllegalStateException", Cond.methodLink RL 23 yX3_request, Cond.instanceMethod yX3_request, Cond.selects RX3 yX3_request yX3_request, Cond.initialized RX3, Cond.code yX3_request cX3_request 8 (some .int), Cond.classLink RX3 43 "java/lang/IllegalStateException", Cond.initialized "java/lang/IllegalStateException", Cond.fieldLink RX3 58 "Leavebank$Person" "firstDay" "I", Cond.fieldLink RX3 78 "Leavebank" "requestCount" "I", Cond.fieldLink RX3 17 "Leavebank" "requests" "[LLeavebank$Request;", Cond.classLink RX3 15 RX2, Cond.instantiable RX2 5, Cond.initialized RX2, Cond.methodLink RX3 54 yX3_personAt, Cond.instanceMethod yX3_personAt, Cond.selects RX3 yX3_personAt yX3_personAt, Cond.code yX3_personAt cX3_personAt 3 (some (.object "Leavebank$Person")), Cond.classLink RX3 174 "java/lang/IndexOutOfBoundsException", Cond.initialized "java/lang/IndexOutOfBoundsException", Cond.fieldLink RX3 11 "Leavebank" "persons" "[LLeavebank$Person;", Cond.methodLink RX3 75 yX3_checkDays]
def wsL_request_r2 : List Cond := [Cond.static yX3_checkDays, Cond.code yX3_checkDays cX3_checkDays 3 none, Cond.classLink RX3 28 "java/lang/IllegalArgumentException", Cond.initialized "java/lang/IllegalArgumentException", Cond.methodLink RX3 83 yX2_init, Cond.instanceMethod yX2_init, Cond.code yX2_init cX2_init 5 none, Cond.methodLink RX2 3 objectInit, Cond.instanceMethod objectInit, Cond.code objectInit ⟨#[0xb1]⟩ 1 none, Cond.fieldLink RX2 9 "Leavebank$Request" "owner" "LLeavebank$Person;", Cond.fieldLink RX2 15 "Leavebank$Request" "kind" "I", Cond.fieldLink RX2 19 "Leavebank$Request" "firstDay" "I", Cond.fieldLink RX2 22 "Leavebank$Request" "lastDay" "I", Cond.methodLink RX3 86 yX1_enterRequest, Cond.instanceMethod yX1_enterRequest, Cond.selects RX1 yX1_enterRequest yX1_enterRequest, Cond.initialized RX1, Cond.code yX1_enterRequest cX1_enterRequest 2 none, Cond.fieldLink RX1 58 "Leavebank$Person" "ownRequestCount" "I", Cond.fieldLink RX1 20 "Leavebank$Person" "ownRequests" "[LLeavebank$Request;", Cond.fieldLink RX1 61 "Leavebank$Request" "firstDay" "I", Cond.fieldLink RX1 62 "Leavebank$Request" "lastDay" "I", Cond.methodLink RX1 65 yX1_markLeave]
def wsL_request_r3 : List Cond := [Cond.instanceMethod yX1_markLeave, Cond.selects RX1 yX1_markLeave yX1_markLeave, Cond.code yX1_markLeave cX1_markLeave 4 none, Cond.methodLink RX1 52 Lib.Math.max.name, Cond.static Lib.Math.max.name, Cond.initialized "java/lang/Math", Cond.code Lib.Math.max.name Lib.Math.max.code 2 (some .int), Cond.fieldLink RX1 36 "Leavebank$Person" "leaveKinds" "[I", Cond.methodLink RX1 75 yX1_findLeave, Cond.instanceMethod yX1_findLeave, Cond.selects RX1 yX1_findLeave yX1_findLeave, Cond.code yX1_findLeave cX1_findLeave 5 (some .int), Cond.fieldLink RX1 89 "Leavebank$Request" "kind" "I", Cond.static yX3_isWorkingDay, Cond.code yX3_isWorkingDay cX3_isWorkingDay 1 (some .boolean), Cond.methodLink RX1 83 yX1_isSickOn, Cond.instanceMethod yX1_isSickOn, Cond.selects RX1 yX1_isSickOn yX1_isSickOn, Cond.code yX1_isSickOn cX1_isSickOn 3 (some .boolean), Cond.fieldLink RX1 69 "Leavebank$Person" "ownSpellCount" "I", Cond.fieldLink RX1 24 "Leavebank$Person" "spellFirsts" "[I", Cond.fieldLink RX1 27 "Leavebank$Person" "spellLasts" "[I", Cond.methodLink RX1 86 yX2_holdsOn, Cond.instanceMethod yX2_holdsOn]
def wsL_request_r4 : List Cond := [Cond.selects RX2 yX2_holdsOn yX2_holdsOn, Cond.code yX2_holdsOn cX2_holdsOn 2 (some .boolean), Cond.fieldLink RX2 25 "Leavebank$Request" "isCancelled" "Z"]
def wsL_request : List Cond := .codeWith yL_request cL_request 7 (some .int) [(0, 14, 17, 21), (0, 14, 21, 13), (0, 14, 25, 15)] :: ((wsL_request_r1 ++ (wsL_request_r2 ++ (wsL_request_r3 ++ wsL_request_r4))) ++ wsX10 ++ wsX30 ++ wsX20 ++ (vx_atS RX3 47 "java/lang/IllegalStateException" ["java/lang/RuntimeException", "java/lang/Exception"]).filter goodWord ++ (vx_atS RX3 178 "java/lang/IndexOutOfBoundsException" ["java/lang/RuntimeException", "java/lang/Exception"]).filter goodWord ++ (vx_atS RX3 32 "java/lang/IllegalArgumentException" ["java/lang/RuntimeException", "java/lang/Exception"]).filter goodWord)
def wsL_change_r1 : List Cond := [Cond.classLink RL 21 "java/lang/IndexOutOfBoundsException", Cond.classLink RL 13 "java/lang/IllegalArgumentException", Cond.classLink RL 15 "java/lang/IllegalStateException", Cond.methodLink RL 27 yX3_change, Cond.instanceMethod yX3_change, Cond.selects RX3 yX3_change yX3_change, Cond.initialized RX3, Cond.code yX3_change cX3_change 7 (some .int), Cond.classLink RX3 43 "java/lang/IllegalStateException", Cond.initialized "java/lang/IllegalStateException", Cond.fieldLink RX3 94 "Leavebank$Request" "owner" "LLeavebank$Person;", Cond.fieldLink RX3 58 "Leavebank$Person" "firstDay" "I", Cond.fieldLink RX3 98 "Leavebank$Request" "isCancelled" "Z", Cond.fieldLink RX3 104 "Leavebank$Request" "firstDay" "I", Cond.fieldLink RX3 105 "Leavebank$Request" "lastDay" "I", Cond.methodLink RX3 90 yX3_requestAt, Cond.instanceMethod yX3_requestAt, Cond.selects RX3 yX3_requestAt yX3_requestAt, Cond.code yX3_requestAt cX3_requestAt 3 (some (.object "Leavebank$Request")), Cond.classLink RX3 174 "java/lang/IndexOutOfBoundsException", Cond.initialized "java/lang/IndexOutOfBoundsException", Cond.fieldLink RX3 17 "Leavebank" "requests" "[LLeavebank$Request;", Cond.methodLink RX3 75 yX3_checkDays, Cond.static yX3_checkDays]
def wsL_change_r2 : List Cond := [Cond.code yX3_checkDays cX3_checkDays 3 none, Cond.classLink RX3 28 "java/lang/IllegalArgumentException", Cond.initialized "java/lang/IllegalArgumentException", Cond.methodLink RX3 108 yX1_markLeave, Cond.instanceMethod yX1_markLeave, Cond.selects RX1 yX1_markLeave yX1_markLeave, Cond.initialized RX1, Cond.code yX1_markLeave cX1_markLeave 4 none, Cond.methodLink RX1 52 Lib.Math.max.name, Cond.static Lib.Math.max.name, Cond.initialized "java/lang/Math", Cond.code Lib.Math.max.name Lib.Math.max.code 2 (some .int), Cond.fieldLink RX1 36 "Leavebank$Person" "leaveKinds" "[I", Cond.methodLink RX1 75 yX1_findLeave, Cond.instanceMethod yX1_findLeave, Cond.selects RX1 yX1_findLeave yX1_findLeave, Cond.code yX1_findLeave cX1_findLeave 5 (some .int), Cond.fieldLink RX1 58 "Leavebank$Person" "ownRequestCount" "I", Cond.fieldLink RX1 20 "Leavebank$Person" "ownRequests" "[LLeavebank$Request;", Cond.fieldLink RX1 89 "Leavebank$Request" "kind" "I", Cond.static yX3_isWorkingDay, Cond.code yX3_isWorkingDay cX3_isWorkingDay 1 (some .boolean), Cond.methodLink RX1 83 yX1_isSickOn, Cond.instanceMethod yX1_isSickOn]
def wsL_change_r3 : List Cond := [Cond.selects RX1 yX1_isSickOn yX1_isSickOn, Cond.code yX1_isSickOn cX1_isSickOn 3 (some .boolean), Cond.fieldLink RX1 69 "Leavebank$Person" "ownSpellCount" "I", Cond.fieldLink RX1 24 "Leavebank$Person" "spellFirsts" "[I", Cond.fieldLink RX1 27 "Leavebank$Person" "spellLasts" "[I", Cond.methodLink RX1 86 yX2_holdsOn, Cond.instanceMethod yX2_holdsOn, Cond.selects RX2 yX2_holdsOn yX2_holdsOn, Cond.initialized RX2, Cond.code yX2_holdsOn cX2_holdsOn 2 (some .boolean), Cond.fieldLink RX2 25 "Leavebank$Request" "isCancelled" "Z", Cond.fieldLink RX2 19 "Leavebank$Request" "firstDay" "I", Cond.fieldLink RX2 22 "Leavebank$Request" "lastDay" "I"]
def wsL_change : List Cond := .codeWith yL_change cL_change 6 (some .int) [(0, 12, 15, 21), (0, 12, 19, 13), (0, 12, 23, 15)] :: ((wsL_change_r1 ++ (wsL_change_r2 ++ wsL_change_r3)) ++ wsX20 ++ wsX10 ++ wsX30 ++ (vx_atS RX3 47 "java/lang/IllegalStateException" ["java/lang/RuntimeException", "java/lang/Exception"]).filter goodWord ++ (vx_atS RX3 178 "java/lang/IndexOutOfBoundsException" ["java/lang/RuntimeException", "java/lang/Exception"]).filter goodWord ++ (vx_atS RX3 32 "java/lang/IllegalArgumentException" ["java/lang/RuntimeException", "java/lang/Exception"]).filter goodWord)
def wsL_cancel_r1 : List Cond := [Cond.classLink RL 21 "java/lang/IndexOutOfBoundsException", Cond.classLink RL 15 "java/lang/IllegalStateException", Cond.methodLink RL 30 yX3_cancel, Cond.instanceMethod yX3_cancel, Cond.selects RX3 yX3_cancel yX3_cancel, Cond.initialized RX3, Cond.code yX3_cancel cX3_cancel 3 none, Cond.classLink RX3 43 "java/lang/IllegalStateException", Cond.initialized "java/lang/IllegalStateException", Cond.fieldLink RX3 98 "Leavebank$Request" "isCancelled" "Z", Cond.fieldLink RX3 94 "Leavebank$Request" "owner" "LLeavebank$Person;", Cond.fieldLink RX3 104 "Leavebank$Request" "firstDay" "I", Cond.fieldLink RX3 105 "Leavebank$Request" "lastDay" "I", Cond.methodLink RX3 90 yX3_requestAt, Cond.instanceMethod yX3_requestAt, Cond.selects RX3 yX3_requestAt yX3_requestAt, Cond.code yX3_requestAt cX3_requestAt 3 (some (.object "Leavebank$Request")), Cond.classLink RX3 174 "java/lang/IndexOutOfBoundsException", Cond.initialized "java/lang/IndexOutOfBoundsException", Cond.fieldLink RX3 17 "Leavebank" "requests" "[LLeavebank$Request;", Cond.methodLink RX3 108 yX1_markLeave, Cond.instanceMethod yX1_markLeave, Cond.selects RX1 yX1_markLeave yX1_markLeave, Cond.initialized RX1]
def wsL_cancel_r2 : List Cond := [Cond.code yX1_markLeave cX1_markLeave 4 none, Cond.methodLink RX1 52 Lib.Math.max.name, Cond.static Lib.Math.max.name, Cond.initialized "java/lang/Math", Cond.code Lib.Math.max.name Lib.Math.max.code 2 (some .int), Cond.fieldLink RX1 36 "Leavebank$Person" "leaveKinds" "[I", Cond.methodLink RX1 75 yX1_findLeave, Cond.instanceMethod yX1_findLeave, Cond.selects RX1 yX1_findLeave yX1_findLeave, Cond.code yX1_findLeave cX1_findLeave 5 (some .int), Cond.fieldLink RX1 58 "Leavebank$Person" "ownRequestCount" "I", Cond.fieldLink RX1 20 "Leavebank$Person" "ownRequests" "[LLeavebank$Request;", Cond.fieldLink RX1 89 "Leavebank$Request" "kind" "I", Cond.static yX3_isWorkingDay, Cond.code yX3_isWorkingDay cX3_isWorkingDay 1 (some .boolean), Cond.methodLink RX1 83 yX1_isSickOn, Cond.instanceMethod yX1_isSickOn, Cond.selects RX1 yX1_isSickOn yX1_isSickOn, Cond.code yX1_isSickOn cX1_isSickOn 3 (some .boolean), Cond.fieldLink RX1 69 "Leavebank$Person" "ownSpellCount" "I", Cond.fieldLink RX1 24 "Leavebank$Person" "spellFirsts" "[I", Cond.fieldLink RX1 27 "Leavebank$Person" "spellLasts" "[I", Cond.methodLink RX1 86 yX2_holdsOn, Cond.instanceMethod yX2_holdsOn]
def wsL_cancel_r3 : List Cond := [Cond.selects RX2 yX2_holdsOn yX2_holdsOn, Cond.initialized RX2, Cond.code yX2_holdsOn cX2_holdsOn 2 (some .boolean), Cond.fieldLink RX2 25 "Leavebank$Request" "isCancelled" "Z", Cond.fieldLink RX2 19 "Leavebank$Request" "firstDay" "I", Cond.fieldLink RX2 22 "Leavebank$Request" "lastDay" "I"]
def wsL_cancel : List Cond := .codeWith yL_cancel cL_cancel 3 (some .int) [(0, 5, 8, 21), (0, 5, 11, 15)] :: ((wsL_cancel_r1 ++ (wsL_cancel_r2 ++ wsL_cancel_r3)) ++ wsX20 ++ wsX30 ++ wsX10 ++ (vx_atS RX3 47 "java/lang/IllegalStateException" ["java/lang/RuntimeException", "java/lang/Exception"]).filter goodWord ++ (vx_atS RX3 178 "java/lang/IndexOutOfBoundsException" ["java/lang/RuntimeException", "java/lang/Exception"]).filter goodWord)
def wsL_sick_r1 : List Cond := [Cond.classLink RL 21 "java/lang/IndexOutOfBoundsException", Cond.classLink RL 13 "java/lang/IllegalArgumentException", Cond.classLink RL 15 "java/lang/IllegalStateException", Cond.methodLink RL 34 yX3_sick, Cond.instanceMethod yX3_sick, Cond.selects RX3 yX3_sick yX3_sick, Cond.initialized RX3, Cond.code yX3_sick cX3_sick 5 (some .int), Cond.classLink RX3 43 "java/lang/IllegalStateException", Cond.initialized "java/lang/IllegalStateException", Cond.fieldLink RX3 58 "Leavebank$Person" "firstDay" "I", Cond.fieldLink RX3 111 "Leavebank" "spellCount" "I", Cond.methodLink RX3 54 yX3_personAt, Cond.instanceMethod yX3_personAt, Cond.selects RX3 yX3_personAt yX3_personAt, Cond.code yX3_personAt cX3_personAt 3 (some (.object "Leavebank$Person")), Cond.classLink RX3 174 "java/lang/IndexOutOfBoundsException", Cond.initialized "java/lang/IndexOutOfBoundsException", Cond.fieldLink RX3 11 "Leavebank" "persons" "[LLeavebank$Person;", Cond.methodLink RX3 75 yX3_checkDays, Cond.static yX3_checkDays, Cond.code yX3_checkDays cX3_checkDays 3 none, Cond.classLink RX3 28 "java/lang/IllegalArgumentException", Cond.initialized "java/lang/IllegalArgumentException"]
def wsL_sick_r2 : List Cond := [Cond.methodLink RX3 116 yX1_enterSpell, Cond.instanceMethod yX1_enterSpell, Cond.selects RX1 yX1_enterSpell yX1_enterSpell, Cond.initialized RX1, Cond.code yX1_enterSpell cX1_enterSpell 3 none, Cond.fieldLink RX1 69 "Leavebank$Person" "ownSpellCount" "I", Cond.fieldLink RX1 24 "Leavebank$Person" "spellFirsts" "[I", Cond.fieldLink RX1 27 "Leavebank$Person" "spellLasts" "[I", Cond.methodLink RX1 65 yX1_markLeave, Cond.instanceMethod yX1_markLeave, Cond.selects RX1 yX1_markLeave yX1_markLeave, Cond.code yX1_markLeave cX1_markLeave 4 none, Cond.methodLink RX1 52 Lib.Math.max.name, Cond.static Lib.Math.max.name, Cond.initialized "java/lang/Math", Cond.code Lib.Math.max.name Lib.Math.max.code 2 (some .int), Cond.fieldLink RX1 36 "Leavebank$Person" "leaveKinds" "[I", Cond.methodLink RX1 75 yX1_findLeave, Cond.instanceMethod yX1_findLeave, Cond.selects RX1 yX1_findLeave yX1_findLeave, Cond.code yX1_findLeave cX1_findLeave 5 (some .int), Cond.fieldLink RX1 58 "Leavebank$Person" "ownRequestCount" "I", Cond.fieldLink RX1 20 "Leavebank$Person" "ownRequests" "[LLeavebank$Request;", Cond.fieldLink RX1 89 "Leavebank$Request" "kind" "I"]
def wsL_sick_r3 : List Cond := [Cond.static yX3_isWorkingDay, Cond.code yX3_isWorkingDay cX3_isWorkingDay 1 (some .boolean), Cond.methodLink RX1 83 yX1_isSickOn, Cond.instanceMethod yX1_isSickOn, Cond.selects RX1 yX1_isSickOn yX1_isSickOn, Cond.code yX1_isSickOn cX1_isSickOn 3 (some .boolean), Cond.methodLink RX1 86 yX2_holdsOn, Cond.instanceMethod yX2_holdsOn, Cond.selects RX2 yX2_holdsOn yX2_holdsOn, Cond.initialized RX2, Cond.code yX2_holdsOn cX2_holdsOn 2 (some .boolean), Cond.fieldLink RX2 25 "Leavebank$Request" "isCancelled" "Z", Cond.fieldLink RX2 19 "Leavebank$Request" "firstDay" "I", Cond.fieldLink RX2 22 "Leavebank$Request" "lastDay" "I"]
def wsL_sick : List Cond := .codeWith yL_sick cL_sick 6 (some .int) [(0, 12, 15, 21), (0, 12, 19, 13), (0, 12, 23, 15)] :: ((wsL_sick_r1 ++ (wsL_sick_r2 ++ wsL_sick_r3)) ++ wsX10 ++ wsX30 ++ wsX20 ++ (vx_atS RX3 47 "java/lang/IllegalStateException" ["java/lang/RuntimeException", "java/lang/Exception"]).filter goodWord ++ (vx_atS RX3 178 "java/lang/IndexOutOfBoundsException" ["java/lang/RuntimeException", "java/lang/Exception"]).filter goodWord ++ (vx_atS RX3 32 "java/lang/IllegalArgumentException" ["java/lang/RuntimeException", "java/lang/Exception"]).filter goodWord)
def wsL_payOut_r1 : List Cond := [Cond.classLink RL 21 "java/lang/IndexOutOfBoundsException", Cond.classLink RL 13 "java/lang/IllegalArgumentException", Cond.classLink RL 15 "java/lang/IllegalStateException", Cond.methodLink RL 37 yX3_payOut, Cond.instanceMethod yX3_payOut, Cond.selects RX3 yX3_payOut yX3_payOut, Cond.initialized RX3, Cond.code yX3_payOut cX3_payOut 5 (some .int), Cond.classLink RX3 28 "java/lang/IllegalArgumentException", Cond.initialized "java/lang/IllegalArgumentException", Cond.classLink RX3 43 "java/lang/IllegalStateException", Cond.initialized "java/lang/IllegalStateException", Cond.fieldLink RX3 121 "Leavebank" "payoutCount" "I", Cond.fieldLink RX3 24 "Leavebank" "ledger" "LLeavebank$Ledger;", Cond.fieldLink RX3 48 "Leavebank" "currentDay" "I", Cond.methodLink RX3 54 yX3_personAt, Cond.instanceMethod yX3_personAt, Cond.selects RX3 yX3_personAt yX3_personAt, Cond.code yX3_personAt cX3_personAt 3 (some (.object "Leavebank$Person")), Cond.classLink RX3 174 "java/lang/IndexOutOfBoundsException", Cond.initialized "java/lang/IndexOutOfBoundsException", Cond.fieldLink RX3 11 "Leavebank" "persons" "[LLeavebank$Person;", Cond.methodLink RX3 126 yX0_goThrough, Cond.instanceMethod yX0_goThrough]
def wsL_payOut_r2 : List Cond := [Cond.selects RX0 yX0_goThrough yX0_goThrough, Cond.initialized RX0, Cond.code yX0_goThrough cX0_goThrough 4 none, Cond.fieldLink RX0 21 "Leavebank$Person" "firstDay" "I", Cond.methodLink RX0 18 yX0_clear, Cond.instanceMethod yX0_clear, Cond.selects RX0 yX0_clear yX0_clear, Cond.code yX0_clear cX0_clear 1 none, Cond.fieldLink RX0 60 "Leavebank$Ledger" "lotCount" "I", Cond.fieldLink RX0 57 "Leavebank$Ledger" "oldestLot" "I", Cond.fieldLink RX0 63 "Leavebank$Ledger" "nextPayout" "I", Cond.fieldLink RX0 66 "Leavebank$Ledger" "debt" "I", Cond.fieldLink RX0 69 "Leavebank$Ledger" "sumEarned" "I", Cond.fieldLink RX0 72 "Leavebank$Ledger" "sumTaken" "I", Cond.fieldLink RX0 75 "Leavebank$Ledger" "sumExpired" "I", Cond.fieldLink RX0 78 "Leavebank$Ledger" "sumPaid" "I", Cond.fieldLink RX0 81 "Leavebank$Ledger" "unpaidDays" "I", Cond.methodLink RX0 27 yX0_isDayOfEarning, Cond.static yX0_isDayOfEarning, Cond.code yX0_isDayOfEarning cX0_isDayOfEarning 2 (some .boolean), Cond.methodLink RX0 31 yX0_pointsOfMonth, Cond.static yX0_pointsOfMonth, Cond.code yX0_pointsOfMonth cX0_pointsOfMonth 4 (some .int), Cond.methodLink RX0 84 Lib.Math.min.name]
def wsL_payOut_r3 : List Cond := [Cond.static Lib.Math.min.name, Cond.initialized "java/lang/Math", Cond.code Lib.Math.min.name Lib.Math.min.code 2 (some .int), Cond.fieldLink RX0 90 "Leavebank$Person" "right" "I", Cond.methodLink RX0 93 yX1_hoursOn, Cond.instanceMethod yX1_hoursOn, Cond.selects RX1 yX1_hoursOn yX1_hoursOn, Cond.initialized RX1, Cond.code yX1_hoursOn cX1_hoursOn 5 (some .int), Cond.fieldLink RX1 46 "Leavebank$Person" "firstHours" "I", Cond.fieldLink RX1 49 "Leavebank$Person" "changeCount" "I", Cond.fieldLink RX1 9 "Leavebank$Person" "changeDays" "[I", Cond.fieldLink RX1 15 "Leavebank$Person" "changeHours" "[I", Cond.methodLink RX0 35 yX0_expiryOf, Cond.static yX0_expiryOf, Cond.code yX0_expiryOf cX0_expiryOf 2 (some .int), Cond.methodLink RX0 39 yX0_earn, Cond.instanceMethod yX0_earn, Cond.selects RX0 yX0_earn yX0_earn, Cond.code yX0_earn cX0_earn 4 none, Cond.fieldLink RX0 9 "Leavebank$Ledger" "lotPoints" "[I", Cond.fieldLink RX0 15 "Leavebank$Ledger" "lotExpiries" "[I", Cond.methodLink RX0 43 yX0_expireOn, Cond.instanceMethod yX0_expireOn]
def wsL_payOut_r4 : List Cond := [Cond.selects RX0 yX0_expireOn yX0_expireOn, Cond.code yX0_expireOn cX0_expireOn 2 none, Cond.methodLink RX0 47 yX1_leaveOn, Cond.instanceMethod yX1_leaveOn, Cond.selects RX1 yX1_leaveOn yX1_leaveOn, Cond.code yX1_leaveOn cX1_leaveOn 2 (some .int), Cond.fieldLink RX1 36 "Leavebank$Person" "leaveKinds" "[I", Cond.methodLink RX0 50 yX0_take, Cond.instanceMethod yX0_take, Cond.selects RX0 yX0_take yX0_take, Cond.code yX0_take cX0_take 4 none, Cond.methodLink RX0 100 Lib.Math.max.name, Cond.static Lib.Math.max.name, Cond.code Lib.Math.max.name Lib.Math.max.code 2 (some .int), Cond.methodLink RX0 96 yX0_pointsInLots, Cond.instanceMethod yX0_pointsInLots, Cond.selects RX0 yX0_pointsInLots yX0_pointsInLots, Cond.code yX0_pointsInLots cX0_pointsInLots 3 (some .int), Cond.methodLink RX0 103 yX0_drawFromLots, Cond.instanceMethod yX0_drawFromLots, Cond.selects RX0 yX0_drawFromLots yX0_drawFromLots, Cond.code yX0_drawFromLots cX0_drawFromLots 5 (some .int), Cond.methodLink RX0 53 yX0_payOn, Cond.instanceMethod yX0_payOn]
def wsL_payOut_r5 : List Cond := [Cond.selects RX0 yX0_payOn yX0_payOn, Cond.code yX0_payOn cX0_payOn 3 none, Cond.fieldLink RX0 106 "Leavebank$Person" "ownPayoutCount" "I", Cond.fieldLink RX0 109 "Leavebank$Person" "payoutDays" "[I", Cond.fieldLink RX0 112 "Leavebank$Person" "payoutPoints" "[I", Cond.methodLink RX3 130 yX0_pointsInLots, Cond.methodLink RX3 136 yX1_enterPayout, Cond.instanceMethod yX1_enterPayout, Cond.selects RX1 yX1_enterPayout yX1_enterPayout, Cond.code yX1_enterPayout cX1_enterPayout 3 none, Cond.fieldLink RX1 72 "Leavebank$Person" "ownPayoutCount" "I", Cond.fieldLink RX1 30 "Leavebank$Person" "payoutDays" "[I", Cond.fieldLink RX1 33 "Leavebank$Person" "payoutPoints" "[I"]
def wsL_payOut : List Cond := .codeWith yL_payOut cL_payOut 5 (some .int) [(0, 10, 13, 21), (0, 10, 17, 13), (0, 10, 21, 15)] :: ((wsL_payOut_r1 ++ (wsL_payOut_r2 ++ (wsL_payOut_r3 ++ (wsL_payOut_r4 ++ wsL_payOut_r5)))) ++ wsX30 ++ wsX10 ++ wsX00 ++ (vx_atS RX3 32 "java/lang/IllegalArgumentException" ["java/lang/RuntimeException", "java/lang/Exception"]).filter goodWord ++ (vx_atS RX3 47 "java/lang/IllegalStateException" ["java/lang/RuntimeException", "java/lang/Exception"]).filter goodWord ++ (vx_atS RX3 178 "java/lang/IndexOutOfBoundsException" ["java/lang/RuntimeException", "java/lang/Exception"]).filter goodWord)
def wsL_pass : List Cond := .codeWith yL_pass cL_pass 4 (some .int) [(0, 9, 12, 13), (0, 9, 15, 15)] :: ([.classLink RL 13 "java/lang/IllegalArgumentException", .classLink RL 15 "java/lang/IllegalStateException", .methodLink RL 40 yX3_pass, .instanceMethod yX3_pass, .selects RX3 yX3_pass yX3_pass, .initialized RX3, .code yX3_pass cX3_pass 2 (some .int), .classLink RX3 28 "java/lang/IllegalArgumentException", .initialized "java/lang/IllegalArgumentException", .classLink RX3 43 "java/lang/IllegalStateException", .initialized "java/lang/IllegalStateException", .fieldLink RX3 48 "Leavebank" "currentDay" "I"] ++ wsX30 ++ (vx_atS RX3 32 "java/lang/IllegalArgumentException" ["java/lang/RuntimeException", "java/lang/Exception"]).filter goodWord ++ (vx_atS RX3 47 "java/lang/IllegalStateException" ["java/lang/RuntimeException", "java/lang/Exception"]).filter goodWord)
def wsL_workingDays : List Cond := .codeWith yL_workingDays cL_workingDays 5 (some .int) [(0, 10, 13, 13)] :: ([.classLink RL 13 "java/lang/IllegalArgumentException", .methodLink RL 44 yX3_workingDays, .instanceMethod yX3_workingDays, .selects RX3 yX3_workingDays yX3_workingDays, .initialized RX3, .code yX3_workingDays cX3_workingDays 3 (some .int), .methodLink RX3 75 yX3_checkDays, .static yX3_checkDays, .code yX3_checkDays cX3_checkDays 3 none, .classLink RX3 28 "java/lang/IllegalArgumentException", .initialized "java/lang/IllegalArgumentException", .methodLink RX3 143 yX3_workingDaysAheadOf, .static yX3_workingDaysAheadOf, .code yX3_workingDaysAheadOf cX3_workingDaysAheadOf 2 (some .int), .methodLink RX3 187 Lib.Math.min.name, .static Lib.Math.min.name, .initialized "java/lang/Math", .code Lib.Math.min.name Lib.Math.min.code 2 (some .int)] ++ (vx_atS RX3 32 "java/lang/IllegalArgumentException" ["java/lang/RuntimeException", "java/lang/Exception"]).filter goodWord)
def wsL_hours_r1 : List Cond := [Cond.classLink RL 21 "java/lang/IndexOutOfBoundsException", Cond.classLink RL 13 "java/lang/IllegalArgumentException", Cond.methodLink RL 47 yX3_hours, Cond.instanceMethod yX3_hours, Cond.selects RX3 yX3_hours yX3_hours, Cond.initialized RX3, Cond.code yX3_hours cX3_hours 4 (some .int), Cond.fieldLink RX3 58 "Leavebank$Person" "firstDay" "I", Cond.methodLink RX3 54 yX3_personAt, Cond.instanceMethod yX3_personAt, Cond.selects RX3 yX3_personAt yX3_personAt, Cond.code yX3_personAt cX3_personAt 3 (some (.object "Leavebank$Person")), Cond.classLink RX3 174 "java/lang/IndexOutOfBoundsException", Cond.initialized "java/lang/IndexOutOfBoundsException", Cond.fieldLink RX3 11 "Leavebank" "persons" "[LLeavebank$Person;", Cond.methodLink RX3 61 yX3_checkDay, Cond.static yX3_checkDay, Cond.code yX3_checkDay cX3_checkDay 2 none, Cond.classLink RX3 28 "java/lang/IllegalArgumentException", Cond.initialized "java/lang/IllegalArgumentException", Cond.methodLink RX3 65 yX1_hoursOn, Cond.instanceMethod yX1_hoursOn, Cond.selects RX1 yX1_hoursOn yX1_hoursOn, Cond.initialized RX1]
def wsL_hours_r2 : List Cond := [Cond.code yX1_hoursOn cX1_hoursOn 5 (some .int), Cond.fieldLink RX1 46 "Leavebank$Person" "firstHours" "I", Cond.fieldLink RX1 49 "Leavebank$Person" "changeCount" "I", Cond.fieldLink RX1 9 "Leavebank$Person" "changeDays" "[I", Cond.fieldLink RX1 15 "Leavebank$Person" "changeHours" "[I"]
def wsL_hours : List Cond := .codeWith yL_hours cL_hours 5 (some .int) [(0, 10, 13, 21), (0, 10, 17, 13)] :: ((wsL_hours_r1 ++ wsL_hours_r2) ++ wsX10 ++ wsX30 ++ (vx_atS RX3 178 "java/lang/IndexOutOfBoundsException" ["java/lang/RuntimeException", "java/lang/Exception"]).filter goodWord ++ (vx_atS RX3 32 "java/lang/IllegalArgumentException" ["java/lang/RuntimeException", "java/lang/Exception"]).filter goodWord)
def wsL_onLeave_r1 : List Cond := [Cond.classLink RL 21 "java/lang/IndexOutOfBoundsException", Cond.classLink RL 13 "java/lang/IllegalArgumentException", Cond.methodLink RL 50 yX3_onLeave, Cond.instanceMethod yX3_onLeave, Cond.selects RX3 yX3_onLeave yX3_onLeave, Cond.initialized RX3, Cond.code yX3_onLeave cX3_onLeave 4 (some .int), Cond.methodLink RX3 54 yX3_personAt, Cond.instanceMethod yX3_personAt, Cond.selects RX3 yX3_personAt yX3_personAt, Cond.code yX3_personAt cX3_personAt 3 (some (.object "Leavebank$Person")), Cond.classLink RX3 174 "java/lang/IndexOutOfBoundsException", Cond.initialized "java/lang/IndexOutOfBoundsException", Cond.fieldLink RX3 11 "Leavebank" "persons" "[LLeavebank$Person;", Cond.methodLink RX3 61 yX3_checkDay, Cond.static yX3_checkDay, Cond.code yX3_checkDay cX3_checkDay 2 none, Cond.classLink RX3 28 "java/lang/IllegalArgumentException", Cond.initialized "java/lang/IllegalArgumentException", Cond.methodLink RX3 146 yX1_leaveOn, Cond.instanceMethod yX1_leaveOn, Cond.selects RX1 yX1_leaveOn yX1_leaveOn, Cond.initialized RX1, Cond.code yX1_leaveOn cX1_leaveOn 2 (some .int)]
def wsL_onLeave_r2 : List Cond := [Cond.fieldLink RX1 36 "Leavebank$Person" "leaveKinds" "[I"]
def wsL_onLeave : List Cond := .codeWith yL_onLeave cL_onLeave 5 (some .int) [(0, 10, 13, 21), (0, 10, 17, 13)] :: ((wsL_onLeave_r1 ++ wsL_onLeave_r2) ++ wsX30 ++ wsX10 ++ (vx_atS RX3 178 "java/lang/IndexOutOfBoundsException" ["java/lang/RuntimeException", "java/lang/Exception"]).filter goodWord ++ (vx_atS RX3 32 "java/lang/IllegalArgumentException" ["java/lang/RuntimeException", "java/lang/Exception"]).filter goodWord)
def wsL_balance_r1 : List Cond := [Cond.classLink RL 21 "java/lang/IndexOutOfBoundsException", Cond.classLink RL 13 "java/lang/IllegalArgumentException", Cond.methodLink RL 53 yX3_balance, Cond.instanceMethod yX3_balance, Cond.selects RX3 yX3_balance yX3_balance, Cond.initialized RX3, Cond.code yX3_balance cX3_balance 4 (some .int), Cond.fieldLink RX3 153 "Leavebank$Ledger" "debt" "I", Cond.methodLink RX3 149 yX3_ledgerBehind, Cond.instanceMethod yX3_ledgerBehind, Cond.selects RX3 yX3_ledgerBehind yX3_ledgerBehind, Cond.code yX3_ledgerBehind cX3_ledgerBehind 4 (some (.object "Leavebank$Ledger")), Cond.fieldLink RX3 24 "Leavebank" "ledger" "LLeavebank$Ledger;", Cond.methodLink RX3 54 yX3_personAt, Cond.instanceMethod yX3_personAt, Cond.selects RX3 yX3_personAt yX3_personAt, Cond.code yX3_personAt cX3_personAt 3 (some (.object "Leavebank$Person")), Cond.classLink RX3 174 "java/lang/IndexOutOfBoundsException", Cond.initialized "java/lang/IndexOutOfBoundsException", Cond.fieldLink RX3 11 "Leavebank" "persons" "[LLeavebank$Person;", Cond.methodLink RX3 61 yX3_checkDay, Cond.static yX3_checkDay, Cond.code yX3_checkDay cX3_checkDay 2 none, Cond.classLink RX3 28 "java/lang/IllegalArgumentException"]
def wsL_balance_r2 : List Cond := [Cond.initialized "java/lang/IllegalArgumentException", Cond.methodLink RX3 126 yX0_goThrough, Cond.instanceMethod yX0_goThrough, Cond.selects RX0 yX0_goThrough yX0_goThrough, Cond.initialized RX0, Cond.code yX0_goThrough cX0_goThrough 4 none, Cond.fieldLink RX0 21 "Leavebank$Person" "firstDay" "I", Cond.methodLink RX0 18 yX0_clear, Cond.instanceMethod yX0_clear, Cond.selects RX0 yX0_clear yX0_clear, Cond.code yX0_clear cX0_clear 1 none, Cond.fieldLink RX0 60 "Leavebank$Ledger" "lotCount" "I", Cond.fieldLink RX0 57 "Leavebank$Ledger" "oldestLot" "I", Cond.fieldLink RX0 63 "Leavebank$Ledger" "nextPayout" "I", Cond.fieldLink RX0 66 "Leavebank$Ledger" "debt" "I", Cond.fieldLink RX0 69 "Leavebank$Ledger" "sumEarned" "I", Cond.fieldLink RX0 72 "Leavebank$Ledger" "sumTaken" "I", Cond.fieldLink RX0 75 "Leavebank$Ledger" "sumExpired" "I", Cond.fieldLink RX0 78 "Leavebank$Ledger" "sumPaid" "I", Cond.fieldLink RX0 81 "Leavebank$Ledger" "unpaidDays" "I", Cond.methodLink RX0 27 yX0_isDayOfEarning, Cond.static yX0_isDayOfEarning, Cond.code yX0_isDayOfEarning cX0_isDayOfEarning 2 (some .boolean), Cond.methodLink RX0 31 yX0_pointsOfMonth]
def wsL_balance_r3 : List Cond := [Cond.static yX0_pointsOfMonth, Cond.code yX0_pointsOfMonth cX0_pointsOfMonth 4 (some .int), Cond.methodLink RX0 84 Lib.Math.min.name, Cond.static Lib.Math.min.name, Cond.initialized "java/lang/Math", Cond.code Lib.Math.min.name Lib.Math.min.code 2 (some .int), Cond.fieldLink RX0 90 "Leavebank$Person" "right" "I", Cond.methodLink RX0 93 yX1_hoursOn, Cond.instanceMethod yX1_hoursOn, Cond.selects RX1 yX1_hoursOn yX1_hoursOn, Cond.initialized RX1, Cond.code yX1_hoursOn cX1_hoursOn 5 (some .int), Cond.fieldLink RX1 46 "Leavebank$Person" "firstHours" "I", Cond.fieldLink RX1 49 "Leavebank$Person" "changeCount" "I", Cond.fieldLink RX1 9 "Leavebank$Person" "changeDays" "[I", Cond.fieldLink RX1 15 "Leavebank$Person" "changeHours" "[I", Cond.methodLink RX0 35 yX0_expiryOf, Cond.static yX0_expiryOf, Cond.code yX0_expiryOf cX0_expiryOf 2 (some .int), Cond.methodLink RX0 39 yX0_earn, Cond.instanceMethod yX0_earn, Cond.selects RX0 yX0_earn yX0_earn, Cond.code yX0_earn cX0_earn 4 none, Cond.fieldLink RX0 9 "Leavebank$Ledger" "lotPoints" "[I"]
def wsL_balance_r4 : List Cond := [Cond.fieldLink RX0 15 "Leavebank$Ledger" "lotExpiries" "[I", Cond.methodLink RX0 43 yX0_expireOn, Cond.instanceMethod yX0_expireOn, Cond.selects RX0 yX0_expireOn yX0_expireOn, Cond.code yX0_expireOn cX0_expireOn 2 none, Cond.methodLink RX0 47 yX1_leaveOn, Cond.instanceMethod yX1_leaveOn, Cond.selects RX1 yX1_leaveOn yX1_leaveOn, Cond.code yX1_leaveOn cX1_leaveOn 2 (some .int), Cond.fieldLink RX1 36 "Leavebank$Person" "leaveKinds" "[I", Cond.methodLink RX0 50 yX0_take, Cond.instanceMethod yX0_take, Cond.selects RX0 yX0_take yX0_take, Cond.code yX0_take cX0_take 4 none, Cond.methodLink RX0 100 Lib.Math.max.name, Cond.static Lib.Math.max.name, Cond.code Lib.Math.max.name Lib.Math.max.code 2 (some .int), Cond.methodLink RX0 96 yX0_pointsInLots, Cond.instanceMethod yX0_pointsInLots, Cond.selects RX0 yX0_pointsInLots yX0_pointsInLots, Cond.code yX0_pointsInLots cX0_pointsInLots 3 (some .int), Cond.methodLink RX0 103 yX0_drawFromLots, Cond.instanceMethod yX0_drawFromLots, Cond.selects RX0 yX0_drawFromLots yX0_drawFromLots]
def wsL_balance_r5 : List Cond := [Cond.code yX0_drawFromLots cX0_drawFromLots 5 (some .int), Cond.methodLink RX0 53 yX0_payOn, Cond.instanceMethod yX0_payOn, Cond.selects RX0 yX0_payOn yX0_payOn, Cond.code yX0_payOn cX0_payOn 3 none, Cond.fieldLink RX0 106 "Leavebank$Person" "ownPayoutCount" "I", Cond.fieldLink RX0 109 "Leavebank$Person" "payoutDays" "[I", Cond.fieldLink RX0 112 "Leavebank$Person" "payoutPoints" "[I", Cond.methodLink RX3 130 yX0_pointsInLots]
def wsL_balance : List Cond := .codeWith yL_balance cL_balance 5 (some .int) [(0, 10, 13, 21), (0, 10, 17, 13)] :: ((wsL_balance_r1 ++ (wsL_balance_r2 ++ (wsL_balance_r3 ++ (wsL_balance_r4 ++ wsL_balance_r5)))) ++ wsX00 ++ wsX30 ++ wsX10 ++ (vx_atS RX3 178 "java/lang/IndexOutOfBoundsException" ["java/lang/RuntimeException", "java/lang/Exception"]).filter goodWord ++ (vx_atS RX3 32 "java/lang/IllegalArgumentException" ["java/lang/RuntimeException", "java/lang/Exception"]).filter goodWord)
def wsL_balanceBySums_r1 : List Cond := [Cond.classLink RL 21 "java/lang/IndexOutOfBoundsException", Cond.classLink RL 13 "java/lang/IllegalArgumentException", Cond.methodLink RL 56 yX3_balanceBySums, Cond.instanceMethod yX3_balanceBySums, Cond.selects RX3 yX3_balanceBySums yX3_balanceBySums, Cond.initialized RX3, Cond.code yX3_balanceBySums cX3_balanceBySums 4 (some .int), Cond.fieldLink RX3 156 "Leavebank$Ledger" "sumEarned" "I", Cond.fieldLink RX3 159 "Leavebank$Ledger" "sumTaken" "I", Cond.fieldLink RX3 162 "Leavebank$Ledger" "sumExpired" "I", Cond.fieldLink RX3 165 "Leavebank$Ledger" "sumPaid" "I", Cond.methodLink RX3 149 yX3_ledgerBehind, Cond.instanceMethod yX3_ledgerBehind, Cond.selects RX3 yX3_ledgerBehind yX3_ledgerBehind, Cond.code yX3_ledgerBehind cX3_ledgerBehind 4 (some (.object "Leavebank$Ledger")), Cond.fieldLink RX3 24 "Leavebank" "ledger" "LLeavebank$Ledger;", Cond.methodLink RX3 54 yX3_personAt, Cond.instanceMethod yX3_personAt, Cond.selects RX3 yX3_personAt yX3_personAt, Cond.code yX3_personAt cX3_personAt 3 (some (.object "Leavebank$Person")), Cond.classLink RX3 174 "java/lang/IndexOutOfBoundsException", Cond.initialized "java/lang/IndexOutOfBoundsException", Cond.fieldLink RX3 11 "Leavebank" "persons" "[LLeavebank$Person;", Cond.methodLink RX3 61 yX3_checkDay]
def wsL_balanceBySums_r2 : List Cond := [Cond.static yX3_checkDay, Cond.code yX3_checkDay cX3_checkDay 2 none, Cond.classLink RX3 28 "java/lang/IllegalArgumentException", Cond.initialized "java/lang/IllegalArgumentException", Cond.methodLink RX3 126 yX0_goThrough, Cond.instanceMethod yX0_goThrough, Cond.selects RX0 yX0_goThrough yX0_goThrough, Cond.initialized RX0, Cond.code yX0_goThrough cX0_goThrough 4 none, Cond.fieldLink RX0 21 "Leavebank$Person" "firstDay" "I", Cond.methodLink RX0 18 yX0_clear, Cond.instanceMethod yX0_clear, Cond.selects RX0 yX0_clear yX0_clear, Cond.code yX0_clear cX0_clear 1 none, Cond.fieldLink RX0 60 "Leavebank$Ledger" "lotCount" "I", Cond.fieldLink RX0 57 "Leavebank$Ledger" "oldestLot" "I", Cond.fieldLink RX0 63 "Leavebank$Ledger" "nextPayout" "I", Cond.fieldLink RX0 66 "Leavebank$Ledger" "debt" "I", Cond.fieldLink RX0 69 "Leavebank$Ledger" "sumEarned" "I", Cond.fieldLink RX0 72 "Leavebank$Ledger" "sumTaken" "I", Cond.fieldLink RX0 75 "Leavebank$Ledger" "sumExpired" "I", Cond.fieldLink RX0 78 "Leavebank$Ledger" "sumPaid" "I", Cond.fieldLink RX0 81 "Leavebank$Ledger" "unpaidDays" "I", Cond.methodLink RX0 27 yX0_isDayOfEarning]
def wsL_balanceBySums_r3 : List Cond := [Cond.static yX0_isDayOfEarning, Cond.code yX0_isDayOfEarning cX0_isDayOfEarning 2 (some .boolean), Cond.methodLink RX0 31 yX0_pointsOfMonth, Cond.static yX0_pointsOfMonth, Cond.code yX0_pointsOfMonth cX0_pointsOfMonth 4 (some .int), Cond.methodLink RX0 84 Lib.Math.min.name, Cond.static Lib.Math.min.name, Cond.initialized "java/lang/Math", Cond.code Lib.Math.min.name Lib.Math.min.code 2 (some .int), Cond.fieldLink RX0 90 "Leavebank$Person" "right" "I", Cond.methodLink RX0 93 yX1_hoursOn, Cond.instanceMethod yX1_hoursOn, Cond.selects RX1 yX1_hoursOn yX1_hoursOn, Cond.initialized RX1, Cond.code yX1_hoursOn cX1_hoursOn 5 (some .int), Cond.fieldLink RX1 46 "Leavebank$Person" "firstHours" "I", Cond.fieldLink RX1 49 "Leavebank$Person" "changeCount" "I", Cond.fieldLink RX1 9 "Leavebank$Person" "changeDays" "[I", Cond.fieldLink RX1 15 "Leavebank$Person" "changeHours" "[I", Cond.methodLink RX0 35 yX0_expiryOf, Cond.static yX0_expiryOf, Cond.code yX0_expiryOf cX0_expiryOf 2 (some .int), Cond.methodLink RX0 39 yX0_earn, Cond.instanceMethod yX0_earn]
def wsL_balanceBySums_r4 : List Cond := [Cond.selects RX0 yX0_earn yX0_earn, Cond.code yX0_earn cX0_earn 4 none, Cond.fieldLink RX0 9 "Leavebank$Ledger" "lotPoints" "[I", Cond.fieldLink RX0 15 "Leavebank$Ledger" "lotExpiries" "[I", Cond.methodLink RX0 43 yX0_expireOn, Cond.instanceMethod yX0_expireOn, Cond.selects RX0 yX0_expireOn yX0_expireOn, Cond.code yX0_expireOn cX0_expireOn 2 none, Cond.methodLink RX0 47 yX1_leaveOn, Cond.instanceMethod yX1_leaveOn, Cond.selects RX1 yX1_leaveOn yX1_leaveOn, Cond.code yX1_leaveOn cX1_leaveOn 2 (some .int), Cond.fieldLink RX1 36 "Leavebank$Person" "leaveKinds" "[I", Cond.methodLink RX0 50 yX0_take, Cond.instanceMethod yX0_take, Cond.selects RX0 yX0_take yX0_take, Cond.code yX0_take cX0_take 4 none, Cond.methodLink RX0 100 Lib.Math.max.name, Cond.static Lib.Math.max.name, Cond.code Lib.Math.max.name Lib.Math.max.code 2 (some .int), Cond.methodLink RX0 96 yX0_pointsInLots, Cond.instanceMethod yX0_pointsInLots, Cond.selects RX0 yX0_pointsInLots yX0_pointsInLots, Cond.code yX0_pointsInLots cX0_pointsInLots 3 (some .int)]
def wsL_balanceBySums_r5 : List Cond := [Cond.methodLink RX0 103 yX0_drawFromLots, Cond.instanceMethod yX0_drawFromLots, Cond.selects RX0 yX0_drawFromLots yX0_drawFromLots, Cond.code yX0_drawFromLots cX0_drawFromLots 5 (some .int), Cond.methodLink RX0 53 yX0_payOn, Cond.instanceMethod yX0_payOn, Cond.selects RX0 yX0_payOn yX0_payOn, Cond.code yX0_payOn cX0_payOn 3 none, Cond.fieldLink RX0 106 "Leavebank$Person" "ownPayoutCount" "I", Cond.fieldLink RX0 109 "Leavebank$Person" "payoutDays" "[I", Cond.fieldLink RX0 112 "Leavebank$Person" "payoutPoints" "[I"]
def wsL_balanceBySums : List Cond := .codeWith yL_balanceBySums cL_balanceBySums 5 (some .int) [(0, 10, 13, 21), (0, 10, 17, 13)] :: ((wsL_balanceBySums_r1 ++ (wsL_balanceBySums_r2 ++ (wsL_balanceBySums_r3 ++ (wsL_balanceBySums_r4 ++ wsL_balanceBySums_r5)))) ++ wsX00 ++ wsX30 ++ wsX10 ++ (vx_atS RX3 178 "java/lang/IndexOutOfBoundsException" ["java/lang/RuntimeException", "java/lang/Exception"]).filter goodWord ++ (vx_atS RX3 32 "java/lang/IllegalArgumentException" ["java/lang/RuntimeException", "java/lang/Exception"]).filter goodWord)
def wsL_earned_r1 : List Cond := [Cond.classLink RL 21 "java/lang/IndexOutOfBoundsException", Cond.classLink RL 13 "java/lang/IllegalArgumentException", Cond.methodLink RL 59 yX3_earned, Cond.instanceMethod yX3_earned, Cond.selects RX3 yX3_earned yX3_earned, Cond.initialized RX3, Cond.code yX3_earned cX3_earned 3 (some .int), Cond.fieldLink RX3 156 "Leavebank$Ledger" "sumEarned" "I", Cond.methodLink RX3 149 yX3_ledgerBehind, Cond.instanceMethod yX3_ledgerBehind, Cond.selects RX3 yX3_ledgerBehind yX3_ledgerBehind, Cond.code yX3_ledgerBehind cX3_ledgerBehind 4 (some (.object "Leavebank$Ledger")), Cond.fieldLink RX3 24 "Leavebank" "ledger" "LLeavebank$Ledger;", Cond.methodLink RX3 54 yX3_personAt, Cond.instanceMethod yX3_personAt, Cond.selects RX3 yX3_personAt yX3_personAt, Cond.code yX3_personAt cX3_personAt 3 (some (.object "Leavebank$Person")), Cond.classLink RX3 174 "java/lang/IndexOutOfBoundsException", Cond.initialized "java/lang/IndexOutOfBoundsException", Cond.fieldLink RX3 11 "Leavebank" "persons" "[LLeavebank$Person;", Cond.methodLink RX3 61 yX3_checkDay, Cond.static yX3_checkDay, Cond.code yX3_checkDay cX3_checkDay 2 none, Cond.classLink RX3 28 "java/lang/IllegalArgumentException"]
def wsL_earned_r2 : List Cond := [Cond.initialized "java/lang/IllegalArgumentException", Cond.methodLink RX3 126 yX0_goThrough, Cond.instanceMethod yX0_goThrough, Cond.selects RX0 yX0_goThrough yX0_goThrough, Cond.initialized RX0, Cond.code yX0_goThrough cX0_goThrough 4 none, Cond.fieldLink RX0 21 "Leavebank$Person" "firstDay" "I", Cond.methodLink RX0 18 yX0_clear, Cond.instanceMethod yX0_clear, Cond.selects RX0 yX0_clear yX0_clear, Cond.code yX0_clear cX0_clear 1 none, Cond.fieldLink RX0 60 "Leavebank$Ledger" "lotCount" "I", Cond.fieldLink RX0 57 "Leavebank$Ledger" "oldestLot" "I", Cond.fieldLink RX0 63 "Leavebank$Ledger" "nextPayout" "I", Cond.fieldLink RX0 66 "Leavebank$Ledger" "debt" "I", Cond.fieldLink RX0 69 "Leavebank$Ledger" "sumEarned" "I", Cond.fieldLink RX0 72 "Leavebank$Ledger" "sumTaken" "I", Cond.fieldLink RX0 75 "Leavebank$Ledger" "sumExpired" "I", Cond.fieldLink RX0 78 "Leavebank$Ledger" "sumPaid" "I", Cond.fieldLink RX0 81 "Leavebank$Ledger" "unpaidDays" "I", Cond.methodLink RX0 27 yX0_isDayOfEarning, Cond.static yX0_isDayOfEarning, Cond.code yX0_isDayOfEarning cX0_isDayOfEarning 2 (some .boolean), Cond.methodLink RX0 31 yX0_pointsOfMonth]
def wsL_earned_r3 : List Cond := [Cond.static yX0_pointsOfMonth, Cond.code yX0_pointsOfMonth cX0_pointsOfMonth 4 (some .int), Cond.methodLink RX0 84 Lib.Math.min.name, Cond.static Lib.Math.min.name, Cond.initialized "java/lang/Math", Cond.code Lib.Math.min.name Lib.Math.min.code 2 (some .int), Cond.fieldLink RX0 90 "Leavebank$Person" "right" "I", Cond.methodLink RX0 93 yX1_hoursOn, Cond.instanceMethod yX1_hoursOn, Cond.selects RX1 yX1_hoursOn yX1_hoursOn, Cond.initialized RX1, Cond.code yX1_hoursOn cX1_hoursOn 5 (some .int), Cond.fieldLink RX1 46 "Leavebank$Person" "firstHours" "I", Cond.fieldLink RX1 49 "Leavebank$Person" "changeCount" "I", Cond.fieldLink RX1 9 "Leavebank$Person" "changeDays" "[I", Cond.fieldLink RX1 15 "Leavebank$Person" "changeHours" "[I", Cond.methodLink RX0 35 yX0_expiryOf, Cond.static yX0_expiryOf, Cond.code yX0_expiryOf cX0_expiryOf 2 (some .int), Cond.methodLink RX0 39 yX0_earn, Cond.instanceMethod yX0_earn, Cond.selects RX0 yX0_earn yX0_earn, Cond.code yX0_earn cX0_earn 4 none, Cond.fieldLink RX0 9 "Leavebank$Ledger" "lotPoints" "[I"]
def wsL_earned_r4 : List Cond := [Cond.fieldLink RX0 15 "Leavebank$Ledger" "lotExpiries" "[I", Cond.methodLink RX0 43 yX0_expireOn, Cond.instanceMethod yX0_expireOn, Cond.selects RX0 yX0_expireOn yX0_expireOn, Cond.code yX0_expireOn cX0_expireOn 2 none, Cond.methodLink RX0 47 yX1_leaveOn, Cond.instanceMethod yX1_leaveOn, Cond.selects RX1 yX1_leaveOn yX1_leaveOn, Cond.code yX1_leaveOn cX1_leaveOn 2 (some .int), Cond.fieldLink RX1 36 "Leavebank$Person" "leaveKinds" "[I", Cond.methodLink RX0 50 yX0_take, Cond.instanceMethod yX0_take, Cond.selects RX0 yX0_take yX0_take, Cond.code yX0_take cX0_take 4 none, Cond.methodLink RX0 100 Lib.Math.max.name, Cond.static Lib.Math.max.name, Cond.code Lib.Math.max.name Lib.Math.max.code 2 (some .int), Cond.methodLink RX0 96 yX0_pointsInLots, Cond.instanceMethod yX0_pointsInLots, Cond.selects RX0 yX0_pointsInLots yX0_pointsInLots, Cond.code yX0_pointsInLots cX0_pointsInLots 3 (some .int), Cond.methodLink RX0 103 yX0_drawFromLots, Cond.instanceMethod yX0_drawFromLots, Cond.selects RX0 yX0_drawFromLots yX0_drawFromLots]
def wsL_earned_r5 : List Cond := [Cond.code yX0_drawFromLots cX0_drawFromLots 5 (some .int), Cond.methodLink RX0 53 yX0_payOn, Cond.instanceMethod yX0_payOn, Cond.selects RX0 yX0_payOn yX0_payOn, Cond.code yX0_payOn cX0_payOn 3 none, Cond.fieldLink RX0 106 "Leavebank$Person" "ownPayoutCount" "I", Cond.fieldLink RX0 109 "Leavebank$Person" "payoutDays" "[I", Cond.fieldLink RX0 112 "Leavebank$Person" "payoutPoints" "[I"]
def wsL_earned : List Cond := .codeWith yL_earned cL_earned 5 (some .int) [(0, 10, 13, 21), (0, 10, 17, 13)] :: ((wsL_earned_r1 ++ (wsL_earned_r2 ++ (wsL_earned_r3 ++ (wsL_earned_r4 ++ wsL_earned_r5)))) ++ wsX00 ++ wsX30 ++ wsX10 ++ (vx_atS RX3 178 "java/lang/IndexOutOfBoundsException" ["java/lang/RuntimeException", "java/lang/Exception"]).filter goodWord ++ (vx_atS RX3 32 "java/lang/IllegalArgumentException" ["java/lang/RuntimeException", "java/lang/Exception"]).filter goodWord)
def wsL_taken_r1 : List Cond := [Cond.classLink RL 21 "java/lang/IndexOutOfBoundsException", Cond.classLink RL 13 "java/lang/IllegalArgumentException", Cond.methodLink RL 62 yX3_taken, Cond.instanceMethod yX3_taken, Cond.selects RX3 yX3_taken yX3_taken, Cond.initialized RX3, Cond.code yX3_taken cX3_taken 3 (some .int), Cond.fieldLink RX3 159 "Leavebank$Ledger" "sumTaken" "I", Cond.methodLink RX3 149 yX3_ledgerBehind, Cond.instanceMethod yX3_ledgerBehind, Cond.selects RX3 yX3_ledgerBehind yX3_ledgerBehind, Cond.code yX3_ledgerBehind cX3_ledgerBehind 4 (some (.object "Leavebank$Ledger")), Cond.fieldLink RX3 24 "Leavebank" "ledger" "LLeavebank$Ledger;", Cond.methodLink RX3 54 yX3_personAt, Cond.instanceMethod yX3_personAt, Cond.selects RX3 yX3_personAt yX3_personAt, Cond.code yX3_personAt cX3_personAt 3 (some (.object "Leavebank$Person")), Cond.classLink RX3 174 "java/lang/IndexOutOfBoundsException", Cond.initialized "java/lang/IndexOutOfBoundsException", Cond.fieldLink RX3 11 "Leavebank" "persons" "[LLeavebank$Person;", Cond.methodLink RX3 61 yX3_checkDay, Cond.static yX3_checkDay, Cond.code yX3_checkDay cX3_checkDay 2 none, Cond.classLink RX3 28 "java/lang/IllegalArgumentException"]
def wsL_taken_r2 : List Cond := [Cond.initialized "java/lang/IllegalArgumentException", Cond.methodLink RX3 126 yX0_goThrough, Cond.instanceMethod yX0_goThrough, Cond.selects RX0 yX0_goThrough yX0_goThrough, Cond.initialized RX0, Cond.code yX0_goThrough cX0_goThrough 4 none, Cond.fieldLink RX0 21 "Leavebank$Person" "firstDay" "I", Cond.methodLink RX0 18 yX0_clear, Cond.instanceMethod yX0_clear, Cond.selects RX0 yX0_clear yX0_clear, Cond.code yX0_clear cX0_clear 1 none, Cond.fieldLink RX0 60 "Leavebank$Ledger" "lotCount" "I", Cond.fieldLink RX0 57 "Leavebank$Ledger" "oldestLot" "I", Cond.fieldLink RX0 63 "Leavebank$Ledger" "nextPayout" "I", Cond.fieldLink RX0 66 "Leavebank$Ledger" "debt" "I", Cond.fieldLink RX0 69 "Leavebank$Ledger" "sumEarned" "I", Cond.fieldLink RX0 72 "Leavebank$Ledger" "sumTaken" "I", Cond.fieldLink RX0 75 "Leavebank$Ledger" "sumExpired" "I", Cond.fieldLink RX0 78 "Leavebank$Ledger" "sumPaid" "I", Cond.fieldLink RX0 81 "Leavebank$Ledger" "unpaidDays" "I", Cond.methodLink RX0 27 yX0_isDayOfEarning, Cond.static yX0_isDayOfEarning, Cond.code yX0_isDayOfEarning cX0_isDayOfEarning 2 (some .boolean), Cond.methodLink RX0 31 yX0_pointsOfMonth]
def wsL_taken_r3 : List Cond := [Cond.static yX0_pointsOfMonth, Cond.code yX0_pointsOfMonth cX0_pointsOfMonth 4 (some .int), Cond.methodLink RX0 84 Lib.Math.min.name, Cond.static Lib.Math.min.name, Cond.initialized "java/lang/Math", Cond.code Lib.Math.min.name Lib.Math.min.code 2 (some .int), Cond.fieldLink RX0 90 "Leavebank$Person" "right" "I", Cond.methodLink RX0 93 yX1_hoursOn, Cond.instanceMethod yX1_hoursOn, Cond.selects RX1 yX1_hoursOn yX1_hoursOn, Cond.initialized RX1, Cond.code yX1_hoursOn cX1_hoursOn 5 (some .int), Cond.fieldLink RX1 46 "Leavebank$Person" "firstHours" "I", Cond.fieldLink RX1 49 "Leavebank$Person" "changeCount" "I", Cond.fieldLink RX1 9 "Leavebank$Person" "changeDays" "[I", Cond.fieldLink RX1 15 "Leavebank$Person" "changeHours" "[I", Cond.methodLink RX0 35 yX0_expiryOf, Cond.static yX0_expiryOf, Cond.code yX0_expiryOf cX0_expiryOf 2 (some .int), Cond.methodLink RX0 39 yX0_earn, Cond.instanceMethod yX0_earn, Cond.selects RX0 yX0_earn yX0_earn, Cond.code yX0_earn cX0_earn 4 none, Cond.fieldLink RX0 9 "Leavebank$Ledger" "lotPoints" "[I"]
def wsL_taken_r4 : List Cond := [Cond.fieldLink RX0 15 "Leavebank$Ledger" "lotExpiries" "[I", Cond.methodLink RX0 43 yX0_expireOn, Cond.instanceMethod yX0_expireOn, Cond.selects RX0 yX0_expireOn yX0_expireOn, Cond.code yX0_expireOn cX0_expireOn 2 none, Cond.methodLink RX0 47 yX1_leaveOn, Cond.instanceMethod yX1_leaveOn, Cond.selects RX1 yX1_leaveOn yX1_leaveOn, Cond.code yX1_leaveOn cX1_leaveOn 2 (some .int), Cond.fieldLink RX1 36 "Leavebank$Person" "leaveKinds" "[I", Cond.methodLink RX0 50 yX0_take, Cond.instanceMethod yX0_take, Cond.selects RX0 yX0_take yX0_take, Cond.code yX0_take cX0_take 4 none, Cond.methodLink RX0 100 Lib.Math.max.name, Cond.static Lib.Math.max.name, Cond.code Lib.Math.max.name Lib.Math.max.code 2 (some .int), Cond.methodLink RX0 96 yX0_pointsInLots, Cond.instanceMethod yX0_pointsInLots, Cond.selects RX0 yX0_pointsInLots yX0_pointsInLots, Cond.code yX0_pointsInLots cX0_pointsInLots 3 (some .int), Cond.methodLink RX0 103 yX0_drawFromLots, Cond.instanceMethod yX0_drawFromLots, Cond.selects RX0 yX0_drawFromLots yX0_drawFromLots]
def wsL_taken_r5 : List Cond := [Cond.code yX0_drawFromLots cX0_drawFromLots 5 (some .int), Cond.methodLink RX0 53 yX0_payOn, Cond.instanceMethod yX0_payOn, Cond.selects RX0 yX0_payOn yX0_payOn, Cond.code yX0_payOn cX0_payOn 3 none, Cond.fieldLink RX0 106 "Leavebank$Person" "ownPayoutCount" "I", Cond.fieldLink RX0 109 "Leavebank$Person" "payoutDays" "[I", Cond.fieldLink RX0 112 "Leavebank$Person" "payoutPoints" "[I"]
def wsL_taken : List Cond := .codeWith yL_taken cL_taken 5 (some .int) [(0, 10, 13, 21), (0, 10, 17, 13)] :: ((wsL_taken_r1 ++ (wsL_taken_r2 ++ (wsL_taken_r3 ++ (wsL_taken_r4 ++ wsL_taken_r5)))) ++ wsX00 ++ wsX30 ++ wsX10 ++ (vx_atS RX3 178 "java/lang/IndexOutOfBoundsException" ["java/lang/RuntimeException", "java/lang/Exception"]).filter goodWord ++ (vx_atS RX3 32 "java/lang/IllegalArgumentException" ["java/lang/RuntimeException", "java/lang/Exception"]).filter goodWord)
def wsL_expired_r1 : List Cond := [Cond.classLink RL 21 "java/lang/IndexOutOfBoundsException", Cond.classLink RL 13 "java/lang/IllegalArgumentException", Cond.methodLink RL 65 yX3_expired, Cond.instanceMethod yX3_expired, Cond.selects RX3 yX3_expired yX3_expired, Cond.initialized RX3, Cond.code yX3_expired cX3_expired 3 (some .int), Cond.fieldLink RX3 162 "Leavebank$Ledger" "sumExpired" "I", Cond.methodLink RX3 149 yX3_ledgerBehind, Cond.instanceMethod yX3_ledgerBehind, Cond.selects RX3 yX3_ledgerBehind yX3_ledgerBehind, Cond.code yX3_ledgerBehind cX3_ledgerBehind 4 (some (.object "Leavebank$Ledger")), Cond.fieldLink RX3 24 "Leavebank" "ledger" "LLeavebank$Ledger;", Cond.methodLink RX3 54 yX3_personAt, Cond.instanceMethod yX3_personAt, Cond.selects RX3 yX3_personAt yX3_personAt, Cond.code yX3_personAt cX3_personAt 3 (some (.object "Leavebank$Person")), Cond.classLink RX3 174 "java/lang/IndexOutOfBoundsException", Cond.initialized "java/lang/IndexOutOfBoundsException", Cond.fieldLink RX3 11 "Leavebank" "persons" "[LLeavebank$Person;", Cond.methodLink RX3 61 yX3_checkDay, Cond.static yX3_checkDay, Cond.code yX3_checkDay cX3_checkDay 2 none, Cond.classLink RX3 28 "java/lang/IllegalArgumentException"]
def wsL_expired_r2 : List Cond := [Cond.initialized "java/lang/IllegalArgumentException", Cond.methodLink RX3 126 yX0_goThrough, Cond.instanceMethod yX0_goThrough, Cond.selects RX0 yX0_goThrough yX0_goThrough, Cond.initialized RX0, Cond.code yX0_goThrough cX0_goThrough 4 none, Cond.fieldLink RX0 21 "Leavebank$Person" "firstDay" "I", Cond.methodLink RX0 18 yX0_clear, Cond.instanceMethod yX0_clear, Cond.selects RX0 yX0_clear yX0_clear, Cond.code yX0_clear cX0_clear 1 none, Cond.fieldLink RX0 60 "Leavebank$Ledger" "lotCount" "I", Cond.fieldLink RX0 57 "Leavebank$Ledger" "oldestLot" "I", Cond.fieldLink RX0 63 "Leavebank$Ledger" "nextPayout" "I", Cond.fieldLink RX0 66 "Leavebank$Ledger" "debt" "I", Cond.fieldLink RX0 69 "Leavebank$Ledger" "sumEarned" "I", Cond.fieldLink RX0 72 "Leavebank$Ledger" "sumTaken" "I", Cond.fieldLink RX0 75 "Leavebank$Ledger" "sumExpired" "I", Cond.fieldLink RX0 78 "Leavebank$Ledger" "sumPaid" "I", Cond.fieldLink RX0 81 "Leavebank$Ledger" "unpaidDays" "I", Cond.methodLink RX0 27 yX0_isDayOfEarning, Cond.static yX0_isDayOfEarning, Cond.code yX0_isDayOfEarning cX0_isDayOfEarning 2 (some .boolean), Cond.methodLink RX0 31 yX0_pointsOfMonth]
def wsL_expired_r3 : List Cond := [Cond.static yX0_pointsOfMonth, Cond.code yX0_pointsOfMonth cX0_pointsOfMonth 4 (some .int), Cond.methodLink RX0 84 Lib.Math.min.name, Cond.static Lib.Math.min.name, Cond.initialized "java/lang/Math", Cond.code Lib.Math.min.name Lib.Math.min.code 2 (some .int), Cond.fieldLink RX0 90 "Leavebank$Person" "right" "I", Cond.methodLink RX0 93 yX1_hoursOn, Cond.instanceMethod yX1_hoursOn, Cond.selects RX1 yX1_hoursOn yX1_hoursOn, Cond.initialized RX1, Cond.code yX1_hoursOn cX1_hoursOn 5 (some .int), Cond.fieldLink RX1 46 "Leavebank$Person" "firstHours" "I", Cond.fieldLink RX1 49 "Leavebank$Person" "changeCount" "I", Cond.fieldLink RX1 9 "Leavebank$Person" "changeDays" "[I", Cond.fieldLink RX1 15 "Leavebank$Person" "changeHours" "[I", Cond.methodLink RX0 35 yX0_expiryOf, Cond.static yX0_expiryOf, Cond.code yX0_expiryOf cX0_expiryOf 2 (some .int), Cond.methodLink RX0 39 yX0_earn, Cond.instanceMethod yX0_earn, Cond.selects RX0 yX0_earn yX0_earn, Cond.code yX0_earn cX0_earn 4 none, Cond.fieldLink RX0 9 "Leavebank$Ledger" "lotPoints" "[I"]
def wsL_expired_r4 : List Cond := [Cond.fieldLink RX0 15 "Leavebank$Ledger" "lotExpiries" "[I", Cond.methodLink RX0 43 yX0_expireOn, Cond.instanceMethod yX0_expireOn, Cond.selects RX0 yX0_expireOn yX0_expireOn, Cond.code yX0_expireOn cX0_expireOn 2 none, Cond.methodLink RX0 47 yX1_leaveOn, Cond.instanceMethod yX1_leaveOn, Cond.selects RX1 yX1_leaveOn yX1_leaveOn, Cond.code yX1_leaveOn cX1_leaveOn 2 (some .int), Cond.fieldLink RX1 36 "Leavebank$Person" "leaveKinds" "[I", Cond.methodLink RX0 50 yX0_take, Cond.instanceMethod yX0_take, Cond.selects RX0 yX0_take yX0_take, Cond.code yX0_take cX0_take 4 none, Cond.methodLink RX0 100 Lib.Math.max.name, Cond.static Lib.Math.max.name, Cond.code Lib.Math.max.name Lib.Math.max.code 2 (some .int), Cond.methodLink RX0 96 yX0_pointsInLots, Cond.instanceMethod yX0_pointsInLots, Cond.selects RX0 yX0_pointsInLots yX0_pointsInLots, Cond.code yX0_pointsInLots cX0_pointsInLots 3 (some .int), Cond.methodLink RX0 103 yX0_drawFromLots, Cond.instanceMethod yX0_drawFromLots, Cond.selects RX0 yX0_drawFromLots yX0_drawFromLots]
def wsL_expired_r5 : List Cond := [Cond.code yX0_drawFromLots cX0_drawFromLots 5 (some .int), Cond.methodLink RX0 53 yX0_payOn, Cond.instanceMethod yX0_payOn, Cond.selects RX0 yX0_payOn yX0_payOn, Cond.code yX0_payOn cX0_payOn 3 none, Cond.fieldLink RX0 106 "Leavebank$Person" "ownPayoutCount" "I", Cond.fieldLink RX0 109 "Leavebank$Person" "payoutDays" "[I", Cond.fieldLink RX0 112 "Leavebank$Person" "payoutPoints" "[I"]
def wsL_expired : List Cond := .codeWith yL_expired cL_expired 5 (some .int) [(0, 10, 13, 21), (0, 10, 17, 13)] :: ((wsL_expired_r1 ++ (wsL_expired_r2 ++ (wsL_expired_r3 ++ (wsL_expired_r4 ++ wsL_expired_r5)))) ++ wsX00 ++ wsX30 ++ wsX10 ++ (vx_atS RX3 178 "java/lang/IndexOutOfBoundsException" ["java/lang/RuntimeException", "java/lang/Exception"]).filter goodWord ++ (vx_atS RX3 32 "java/lang/IllegalArgumentException" ["java/lang/RuntimeException", "java/lang/Exception"]).filter goodWord)
def wsL_paid_r1 : List Cond := [Cond.classLink RL 21 "java/lang/IndexOutOfBoundsException", Cond.classLink RL 13 "java/lang/IllegalArgumentException", Cond.methodLink RL 68 yX3_paid, Cond.instanceMethod yX3_paid, Cond.selects RX3 yX3_paid yX3_paid, Cond.initialized RX3, Cond.code yX3_paid cX3_paid 3 (some .int), Cond.fieldLink RX3 165 "Leavebank$Ledger" "sumPaid" "I", Cond.methodLink RX3 149 yX3_ledgerBehind, Cond.instanceMethod yX3_ledgerBehind, Cond.selects RX3 yX3_ledgerBehind yX3_ledgerBehind, Cond.code yX3_ledgerBehind cX3_ledgerBehind 4 (some (.object "Leavebank$Ledger")), Cond.fieldLink RX3 24 "Leavebank" "ledger" "LLeavebank$Ledger;", Cond.methodLink RX3 54 yX3_personAt, Cond.instanceMethod yX3_personAt, Cond.selects RX3 yX3_personAt yX3_personAt, Cond.code yX3_personAt cX3_personAt 3 (some (.object "Leavebank$Person")), Cond.classLink RX3 174 "java/lang/IndexOutOfBoundsException", Cond.initialized "java/lang/IndexOutOfBoundsException", Cond.fieldLink RX3 11 "Leavebank" "persons" "[LLeavebank$Person;", Cond.methodLink RX3 61 yX3_checkDay, Cond.static yX3_checkDay, Cond.code yX3_checkDay cX3_checkDay 2 none, Cond.classLink RX3 28 "java/lang/IllegalArgumentException"]
def wsL_paid_r2 : List Cond := [Cond.initialized "java/lang/IllegalArgumentException", Cond.methodLink RX3 126 yX0_goThrough, Cond.instanceMethod yX0_goThrough, Cond.selects RX0 yX0_goThrough yX0_goThrough, Cond.initialized RX0, Cond.code yX0_goThrough cX0_goThrough 4 none, Cond.fieldLink RX0 21 "Leavebank$Person" "firstDay" "I", Cond.methodLink RX0 18 yX0_clear, Cond.instanceMethod yX0_clear, Cond.selects RX0 yX0_clear yX0_clear, Cond.code yX0_clear cX0_clear 1 none, Cond.fieldLink RX0 60 "Leavebank$Ledger" "lotCount" "I", Cond.fieldLink RX0 57 "Leavebank$Ledger" "oldestLot" "I", Cond.fieldLink RX0 63 "Leavebank$Ledger" "nextPayout" "I", Cond.fieldLink RX0 66 "Leavebank$Ledger" "debt" "I", Cond.fieldLink RX0 69 "Leavebank$Ledger" "sumEarned" "I", Cond.fieldLink RX0 72 "Leavebank$Ledger" "sumTaken" "I", Cond.fieldLink RX0 75 "Leavebank$Ledger" "sumExpired" "I", Cond.fieldLink RX0 78 "Leavebank$Ledger" "sumPaid" "I", Cond.fieldLink RX0 81 "Leavebank$Ledger" "unpaidDays" "I", Cond.methodLink RX0 27 yX0_isDayOfEarning, Cond.static yX0_isDayOfEarning, Cond.code yX0_isDayOfEarning cX0_isDayOfEarning 2 (some .boolean), Cond.methodLink RX0 31 yX0_pointsOfMonth]
def wsL_paid_r3 : List Cond := [Cond.static yX0_pointsOfMonth, Cond.code yX0_pointsOfMonth cX0_pointsOfMonth 4 (some .int), Cond.methodLink RX0 84 Lib.Math.min.name, Cond.static Lib.Math.min.name, Cond.initialized "java/lang/Math", Cond.code Lib.Math.min.name Lib.Math.min.code 2 (some .int), Cond.fieldLink RX0 90 "Leavebank$Person" "right" "I", Cond.methodLink RX0 93 yX1_hoursOn, Cond.instanceMethod yX1_hoursOn, Cond.selects RX1 yX1_hoursOn yX1_hoursOn, Cond.initialized RX1, Cond.code yX1_hoursOn cX1_hoursOn 5 (some .int), Cond.fieldLink RX1 46 "Leavebank$Person" "firstHours" "I", Cond.fieldLink RX1 49 "Leavebank$Person" "changeCount" "I", Cond.fieldLink RX1 9 "Leavebank$Person" "changeDays" "[I", Cond.fieldLink RX1 15 "Leavebank$Person" "changeHours" "[I", Cond.methodLink RX0 35 yX0_expiryOf, Cond.static yX0_expiryOf, Cond.code yX0_expiryOf cX0_expiryOf 2 (some .int), Cond.methodLink RX0 39 yX0_earn, Cond.instanceMethod yX0_earn, Cond.selects RX0 yX0_earn yX0_earn, Cond.code yX0_earn cX0_earn 4 none, Cond.fieldLink RX0 9 "Leavebank$Ledger" "lotPoints" "[I"]
def wsL_paid_r4 : List Cond := [Cond.fieldLink RX0 15 "Leavebank$Ledger" "lotExpiries" "[I", Cond.methodLink RX0 43 yX0_expireOn, Cond.instanceMethod yX0_expireOn, Cond.selects RX0 yX0_expireOn yX0_expireOn, Cond.code yX0_expireOn cX0_expireOn 2 none, Cond.methodLink RX0 47 yX1_leaveOn, Cond.instanceMethod yX1_leaveOn, Cond.selects RX1 yX1_leaveOn yX1_leaveOn, Cond.code yX1_leaveOn cX1_leaveOn 2 (some .int), Cond.fieldLink RX1 36 "Leavebank$Person" "leaveKinds" "[I", Cond.methodLink RX0 50 yX0_take, Cond.instanceMethod yX0_take, Cond.selects RX0 yX0_take yX0_take, Cond.code yX0_take cX0_take 4 none, Cond.methodLink RX0 100 Lib.Math.max.name, Cond.static Lib.Math.max.name, Cond.code Lib.Math.max.name Lib.Math.max.code 2 (some .int), Cond.methodLink RX0 96 yX0_pointsInLots, Cond.instanceMethod yX0_pointsInLots, Cond.selects RX0 yX0_pointsInLots yX0_pointsInLots, Cond.code yX0_pointsInLots cX0_pointsInLots 3 (some .int), Cond.methodLink RX0 103 yX0_drawFromLots, Cond.instanceMethod yX0_drawFromLots, Cond.selects RX0 yX0_drawFromLots yX0_drawFromLots]
def wsL_paid_r5 : List Cond := [Cond.code yX0_drawFromLots cX0_drawFromLots 5 (some .int), Cond.methodLink RX0 53 yX0_payOn, Cond.instanceMethod yX0_payOn, Cond.selects RX0 yX0_payOn yX0_payOn, Cond.code yX0_payOn cX0_payOn 3 none, Cond.fieldLink RX0 106 "Leavebank$Person" "ownPayoutCount" "I", Cond.fieldLink RX0 109 "Leavebank$Person" "payoutDays" "[I", Cond.fieldLink RX0 112 "Leavebank$Person" "payoutPoints" "[I"]
def wsL_paid : List Cond := .codeWith yL_paid cL_paid 5 (some .int) [(0, 10, 13, 21), (0, 10, 17, 13)] :: ((wsL_paid_r1 ++ (wsL_paid_r2 ++ (wsL_paid_r3 ++ (wsL_paid_r4 ++ wsL_paid_r5)))) ++ wsX00 ++ wsX30 ++ wsX10 ++ (vx_atS RX3 178 "java/lang/IndexOutOfBoundsException" ["java/lang/RuntimeException", "java/lang/Exception"]).filter goodWord ++ (vx_atS RX3 32 "java/lang/IllegalArgumentException" ["java/lang/RuntimeException", "java/lang/Exception"]).filter goodWord)
def wsL_borrowed_r1 : List Cond := [Cond.classLink RL 21 "java/lang/IndexOutOfBoundsException", Cond.classLink RL 13 "java/lang/IllegalArgumentException", Cond.methodLink RL 71 yX3_borrowed, Cond.instanceMethod yX3_borrowed, Cond.selects RX3 yX3_borrowed yX3_borrowed, Cond.initialized RX3, Cond.code yX3_borrowed cX3_borrowed 3 (some .int), Cond.fieldLink RX3 153 "Leavebank$Ledger" "debt" "I", Cond.methodLink RX3 149 yX3_ledgerBehind, Cond.instanceMethod yX3_ledgerBehind, Cond.selects RX3 yX3_ledgerBehind yX3_ledgerBehind, Cond.code yX3_ledgerBehind cX3_ledgerBehind 4 (some (.object "Leavebank$Ledger")), Cond.fieldLink RX3 24 "Leavebank" "ledger" "LLeavebank$Ledger;", Cond.methodLink RX3 54 yX3_personAt, Cond.instanceMethod yX3_personAt, Cond.selects RX3 yX3_personAt yX3_personAt, Cond.code yX3_personAt cX3_personAt 3 (some (.object "Leavebank$Person")), Cond.classLink RX3 174 "java/lang/IndexOutOfBoundsException", Cond.initialized "java/lang/IndexOutOfBoundsException", Cond.fieldLink RX3 11 "Leavebank" "persons" "[LLeavebank$Person;", Cond.methodLink RX3 61 yX3_checkDay, Cond.static yX3_checkDay, Cond.code yX3_checkDay cX3_checkDay 2 none, Cond.classLink RX3 28 "java/lang/IllegalArgumentException"]
def wsL_borrowed_r2 : List Cond := [Cond.initialized "java/lang/IllegalArgumentException", Cond.methodLink RX3 126 yX0_goThrough, Cond.instanceMethod yX0_goThrough, Cond.selects RX0 yX0_goThrough yX0_goThrough, Cond.initialized RX0, Cond.code yX0_goThrough cX0_goThrough 4 none, Cond.fieldLink RX0 21 "Leavebank$Person" "firstDay" "I", Cond.methodLink RX0 18 yX0_clear, Cond.instanceMethod yX0_clear, Cond.selects RX0 yX0_clear yX0_clear, Cond.code yX0_clear cX0_clear 1 none, Cond.fieldLink RX0 60 "Leavebank$Ledger" "lotCount" "I", Cond.fieldLink RX0 57 "Leavebank$Ledger" "oldestLot" "I", Cond.fieldLink RX0 63 "Leavebank$Ledger" "nextPayout" "I", Cond.fieldLink RX0 66 "Leavebank$Ledger" "debt" "I", Cond.fieldLink RX0 69 "Leavebank$Ledger" "sumEarned" "I", Cond.fieldLink RX0 72 "Leavebank$Ledger" "sumTaken" "I", Cond.fieldLink RX0 75 "Leavebank$Ledger" "sumExpired" "I", Cond.fieldLink RX0 78 "Leavebank$Ledger" "sumPaid" "I", Cond.fieldLink RX0 81 "Leavebank$Ledger" "unpaidDays" "I", Cond.methodLink RX0 27 yX0_isDayOfEarning, Cond.static yX0_isDayOfEarning, Cond.code yX0_isDayOfEarning cX0_isDayOfEarning 2 (some .boolean), Cond.methodLink RX0 31 yX0_pointsOfMonth]
def wsL_borrowed_r3 : List Cond := [Cond.static yX0_pointsOfMonth, Cond.code yX0_pointsOfMonth cX0_pointsOfMonth 4 (some .int), Cond.methodLink RX0 84 Lib.Math.min.name, Cond.static Lib.Math.min.name, Cond.initialized "java/lang/Math", Cond.code Lib.Math.min.name Lib.Math.min.code 2 (some .int), Cond.fieldLink RX0 90 "Leavebank$Person" "right" "I", Cond.methodLink RX0 93 yX1_hoursOn, Cond.instanceMethod yX1_hoursOn, Cond.selects RX1 yX1_hoursOn yX1_hoursOn, Cond.initialized RX1, Cond.code yX1_hoursOn cX1_hoursOn 5 (some .int), Cond.fieldLink RX1 46 "Leavebank$Person" "firstHours" "I", Cond.fieldLink RX1 49 "Leavebank$Person" "changeCount" "I", Cond.fieldLink RX1 9 "Leavebank$Person" "changeDays" "[I", Cond.fieldLink RX1 15 "Leavebank$Person" "changeHours" "[I", Cond.methodLink RX0 35 yX0_expiryOf, Cond.static yX0_expiryOf, Cond.code yX0_expiryOf cX0_expiryOf 2 (some .int), Cond.methodLink RX0 39 yX0_earn, Cond.instanceMethod yX0_earn, Cond.selects RX0 yX0_earn yX0_earn, Cond.code yX0_earn cX0_earn 4 none, Cond.fieldLink RX0 9 "Leavebank$Ledger" "lotPoints" "[I"]
def wsL_borrowed_r4 : List Cond := [Cond.fieldLink RX0 15 "Leavebank$Ledger" "lotExpiries" "[I", Cond.methodLink RX0 43 yX0_expireOn, Cond.instanceMethod yX0_expireOn, Cond.selects RX0 yX0_expireOn yX0_expireOn, Cond.code yX0_expireOn cX0_expireOn 2 none, Cond.methodLink RX0 47 yX1_leaveOn, Cond.instanceMethod yX1_leaveOn, Cond.selects RX1 yX1_leaveOn yX1_leaveOn, Cond.code yX1_leaveOn cX1_leaveOn 2 (some .int), Cond.fieldLink RX1 36 "Leavebank$Person" "leaveKinds" "[I", Cond.methodLink RX0 50 yX0_take, Cond.instanceMethod yX0_take, Cond.selects RX0 yX0_take yX0_take, Cond.code yX0_take cX0_take 4 none, Cond.methodLink RX0 100 Lib.Math.max.name, Cond.static Lib.Math.max.name, Cond.code Lib.Math.max.name Lib.Math.max.code 2 (some .int), Cond.methodLink RX0 96 yX0_pointsInLots, Cond.instanceMethod yX0_pointsInLots, Cond.selects RX0 yX0_pointsInLots yX0_pointsInLots, Cond.code yX0_pointsInLots cX0_pointsInLots 3 (some .int), Cond.methodLink RX0 103 yX0_drawFromLots, Cond.instanceMethod yX0_drawFromLots, Cond.selects RX0 yX0_drawFromLots yX0_drawFromLots]
def wsL_borrowed_r5 : List Cond := [Cond.code yX0_drawFromLots cX0_drawFromLots 5 (some .int), Cond.methodLink RX0 53 yX0_payOn, Cond.instanceMethod yX0_payOn, Cond.selects RX0 yX0_payOn yX0_payOn, Cond.code yX0_payOn cX0_payOn 3 none, Cond.fieldLink RX0 106 "Leavebank$Person" "ownPayoutCount" "I", Cond.fieldLink RX0 109 "Leavebank$Person" "payoutDays" "[I", Cond.fieldLink RX0 112 "Leavebank$Person" "payoutPoints" "[I"]
def wsL_borrowed : List Cond := .codeWith yL_borrowed cL_borrowed 5 (some .int) [(0, 10, 13, 21), (0, 10, 17, 13)] :: ((wsL_borrowed_r1 ++ (wsL_borrowed_r2 ++ (wsL_borrowed_r3 ++ (wsL_borrowed_r4 ++ wsL_borrowed_r5)))) ++ wsX00 ++ wsX30 ++ wsX10 ++ (vx_atS RX3 178 "java/lang/IndexOutOfBoundsException" ["java/lang/RuntimeException", "java/lang/Exception"]).filter goodWord ++ (vx_atS RX3 32 "java/lang/IllegalArgumentException" ["java/lang/RuntimeException", "java/lang/Exception"]).filter goodWord)
def wsL_unpaid_r1 : List Cond := [Cond.classLink RL 21 "java/lang/IndexOutOfBoundsException", Cond.classLink RL 13 "java/lang/IllegalArgumentException", Cond.methodLink RL 74 yX3_unpaid, Cond.instanceMethod yX3_unpaid, Cond.selects RX3 yX3_unpaid yX3_unpaid, Cond.initialized RX3, Cond.code yX3_unpaid cX3_unpaid 3 (some .int), Cond.fieldLink RX3 168 "Leavebank$Ledger" "unpaidDays" "I", Cond.methodLink RX3 149 yX3_ledgerBehind, Cond.instanceMethod yX3_ledgerBehind, Cond.selects RX3 yX3_ledgerBehind yX3_ledgerBehind, Cond.code yX3_ledgerBehind cX3_ledgerBehind 4 (some (.object "Leavebank$Ledger")), Cond.fieldLink RX3 24 "Leavebank" "ledger" "LLeavebank$Ledger;", Cond.methodLink RX3 54 yX3_personAt, Cond.instanceMethod yX3_personAt, Cond.selects RX3 yX3_personAt yX3_personAt, Cond.code yX3_personAt cX3_personAt 3 (some (.object "Leavebank$Person")), Cond.classLink RX3 174 "java/lang/IndexOutOfBoundsException", Cond.initialized "java/lang/IndexOutOfBoundsException", Cond.fieldLink RX3 11 "Leavebank" "persons" "[LLeavebank$Person;", Cond.methodLink RX3 61 yX3_checkDay, Cond.static yX3_checkDay, Cond.code yX3_checkDay cX3_checkDay 2 none, Cond.classLink RX3 28 "java/lang/IllegalArgumentException"]
def wsL_unpaid_r2 : List Cond := [Cond.initialized "java/lang/IllegalArgumentException", Cond.methodLink RX3 126 yX0_goThrough, Cond.instanceMethod yX0_goThrough, Cond.selects RX0 yX0_goThrough yX0_goThrough, Cond.initialized RX0, Cond.code yX0_goThrough cX0_goThrough 4 none, Cond.fieldLink RX0 21 "Leavebank$Person" "firstDay" "I", Cond.methodLink RX0 18 yX0_clear, Cond.instanceMethod yX0_clear, Cond.selects RX0 yX0_clear yX0_clear, Cond.code yX0_clear cX0_clear 1 none, Cond.fieldLink RX0 60 "Leavebank$Ledger" "lotCount" "I", Cond.fieldLink RX0 57 "Leavebank$Ledger" "oldestLot" "I", Cond.fieldLink RX0 63 "Leavebank$Ledger" "nextPayout" "I", Cond.fieldLink RX0 66 "Leavebank$Ledger" "debt" "I", Cond.fieldLink RX0 69 "Leavebank$Ledger" "sumEarned" "I", Cond.fieldLink RX0 72 "Leavebank$Ledger" "sumTaken" "I", Cond.fieldLink RX0 75 "Leavebank$Ledger" "sumExpired" "I", Cond.fieldLink RX0 78 "Leavebank$Ledger" "sumPaid" "I", Cond.fieldLink RX0 81 "Leavebank$Ledger" "unpaidDays" "I", Cond.methodLink RX0 27 yX0_isDayOfEarning, Cond.static yX0_isDayOfEarning, Cond.code yX0_isDayOfEarning cX0_isDayOfEarning 2 (some .boolean), Cond.methodLink RX0 31 yX0_pointsOfMonth]
def wsL_unpaid_r3 : List Cond := [Cond.static yX0_pointsOfMonth, Cond.code yX0_pointsOfMonth cX0_pointsOfMonth 4 (some .int), Cond.methodLink RX0 84 Lib.Math.min.name, Cond.static Lib.Math.min.name, Cond.initialized "java/lang/Math", Cond.code Lib.Math.min.name Lib.Math.min.code 2 (some .int), Cond.fieldLink RX0 90 "Leavebank$Person" "right" "I", Cond.methodLink RX0 93 yX1_hoursOn, Cond.instanceMethod yX1_hoursOn, Cond.selects RX1 yX1_hoursOn yX1_hoursOn, Cond.initialized RX1, Cond.code yX1_hoursOn cX1_hoursOn 5 (some .int), Cond.fieldLink RX1 46 "Leavebank$Person" "firstHours" "I", Cond.fieldLink RX1 49 "Leavebank$Person" "changeCount" "I", Cond.fieldLink RX1 9 "Leavebank$Person" "changeDays" "[I", Cond.fieldLink RX1 15 "Leavebank$Person" "changeHours" "[I", Cond.methodLink RX0 35 yX0_expiryOf, Cond.static yX0_expiryOf, Cond.code yX0_expiryOf cX0_expiryOf 2 (some .int), Cond.methodLink RX0 39 yX0_earn, Cond.instanceMethod yX0_earn, Cond.selects RX0 yX0_earn yX0_earn, Cond.code yX0_earn cX0_earn 4 none, Cond.fieldLink RX0 9 "Leavebank$Ledger" "lotPoints" "[I"]
def wsL_unpaid_r4 : List Cond := [Cond.fieldLink RX0 15 "Leavebank$Ledger" "lotExpiries" "[I", Cond.methodLink RX0 43 yX0_expireOn, Cond.instanceMethod yX0_expireOn, Cond.selects RX0 yX0_expireOn yX0_expireOn, Cond.code yX0_expireOn cX0_expireOn 2 none, Cond.methodLink RX0 47 yX1_leaveOn, Cond.instanceMethod yX1_leaveOn, Cond.selects RX1 yX1_leaveOn yX1_leaveOn, Cond.code yX1_leaveOn cX1_leaveOn 2 (some .int), Cond.fieldLink RX1 36 "Leavebank$Person" "leaveKinds" "[I", Cond.methodLink RX0 50 yX0_take, Cond.instanceMethod yX0_take, Cond.selects RX0 yX0_take yX0_take, Cond.code yX0_take cX0_take 4 none, Cond.methodLink RX0 100 Lib.Math.max.name, Cond.static Lib.Math.max.name, Cond.code Lib.Math.max.name Lib.Math.max.code 2 (some .int), Cond.methodLink RX0 96 yX0_pointsInLots, Cond.instanceMethod yX0_pointsInLots, Cond.selects RX0 yX0_pointsInLots yX0_pointsInLots, Cond.code yX0_pointsInLots cX0_pointsInLots 3 (some .int), Cond.methodLink RX0 103 yX0_drawFromLots, Cond.instanceMethod yX0_drawFromLots, Cond.selects RX0 yX0_drawFromLots yX0_drawFromLots]
def wsL_unpaid_r5 : List Cond := [Cond.code yX0_drawFromLots cX0_drawFromLots 5 (some .int), Cond.methodLink RX0 53 yX0_payOn, Cond.instanceMethod yX0_payOn, Cond.selects RX0 yX0_payOn yX0_payOn, Cond.code yX0_payOn cX0_payOn 3 none, Cond.fieldLink RX0 106 "Leavebank$Person" "ownPayoutCount" "I", Cond.fieldLink RX0 109 "Leavebank$Person" "payoutDays" "[I", Cond.fieldLink RX0 112 "Leavebank$Person" "payoutPoints" "[I"]
def wsL_unpaid : List Cond := .codeWith yL_unpaid cL_unpaid 5 (some .int) [(0, 10, 13, 21), (0, 10, 17, 13)] :: ((wsL_unpaid_r1 ++ (wsL_unpaid_r2 ++ (wsL_unpaid_r3 ++ (wsL_unpaid_r4 ++ wsL_unpaid_r5)))) ++ wsX00 ++ wsX30 ++ wsX10 ++ (vx_atS RX3 178 "java/lang/IndexOutOfBoundsException" ["java/lang/RuntimeException", "java/lang/Exception"]).filter goodWord ++ (vx_atS RX3 32 "java/lang/IllegalArgumentException" ["java/lang/RuntimeException", "java/lang/Exception"]).filter goodWord)
def wsL_nextExpiry_r1 : List Cond := [Cond.classLink RL 21 "java/lang/IndexOutOfBoundsException", Cond.classLink RL 13 "java/lang/IllegalArgumentException", Cond.methodLink RL 77 yX3_nextExpiry, Cond.instanceMethod yX3_nextExpiry, Cond.selects RX3 yX3_nextExpiry yX3_nextExpiry, Cond.initialized RX3, Cond.code yX3_nextExpiry cX3_nextExpiry 3 (some .int), Cond.methodLink RX3 149 yX3_ledgerBehind, Cond.instanceMethod yX3_ledgerBehind, Cond.selects RX3 yX3_ledgerBehind yX3_ledgerBehind, Cond.code yX3_ledgerBehind cX3_ledgerBehind 4 (some (.object "Leavebank$Ledger")), Cond.fieldLink RX3 24 "Leavebank" "ledger" "LLeavebank$Ledger;", Cond.methodLink RX3 54 yX3_personAt, Cond.instanceMethod yX3_personAt, Cond.selects RX3 yX3_personAt yX3_personAt, Cond.code yX3_personAt cX3_personAt 3 (some (.object "Leavebank$Person")), Cond.classLink RX3 174 "java/lang/IndexOutOfBoundsException", Cond.initialized "java/lang/IndexOutOfBoundsException", Cond.fieldLink RX3 11 "Leavebank" "persons" "[LLeavebank$Person;", Cond.methodLink RX3 61 yX3_checkDay, Cond.static yX3_checkDay, Cond.code yX3_checkDay cX3_checkDay 2 none, Cond.classLink RX3 28 "java/lang/IllegalArgumentException", Cond.initialized "java/lang/IllegalArgumentException"]
def wsL_nextExpiry_r2 : List Cond := [Cond.methodLink RX3 126 yX0_goThrough, Cond.instanceMethod yX0_goThrough, Cond.selects RX0 yX0_goThrough yX0_goThrough, Cond.initialized RX0, Cond.code yX0_goThrough cX0_goThrough 4 none, Cond.fieldLink RX0 21 "Leavebank$Person" "firstDay" "I", Cond.methodLink RX0 18 yX0_clear, Cond.instanceMethod yX0_clear, Cond.selects RX0 yX0_clear yX0_clear, Cond.code yX0_clear cX0_clear 1 none, Cond.fieldLink RX0 60 "Leavebank$Ledger" "lotCount" "I", Cond.fieldLink RX0 57 "Leavebank$Ledger" "oldestLot" "I", Cond.fieldLink RX0 63 "Leavebank$Ledger" "nextPayout" "I", Cond.fieldLink RX0 66 "Leavebank$Ledger" "debt" "I", Cond.fieldLink RX0 69 "Leavebank$Ledger" "sumEarned" "I", Cond.fieldLink RX0 72 "Leavebank$Ledger" "sumTaken" "I", Cond.fieldLink RX0 75 "Leavebank$Ledger" "sumExpired" "I", Cond.fieldLink RX0 78 "Leavebank$Ledger" "sumPaid" "I", Cond.fieldLink RX0 81 "Leavebank$Ledger" "unpaidDays" "I", Cond.methodLink RX0 27 yX0_isDayOfEarning, Cond.static yX0_isDayOfEarning, Cond.code yX0_isDayOfEarning cX0_isDayOfEarning 2 (some .boolean), Cond.methodLink RX0 31 yX0_pointsOfMonth, Cond.static yX0_pointsOfMonth]
def wsL_nextExpiry_r3 : List Cond := [Cond.code yX0_pointsOfMonth cX0_pointsOfMonth 4 (some .int), Cond.methodLink RX0 84 Lib.Math.min.name, Cond.static Lib.Math.min.name, Cond.initialized "java/lang/Math", Cond.code Lib.Math.min.name Lib.Math.min.code 2 (some .int), Cond.fieldLink RX0 90 "Leavebank$Person" "right" "I", Cond.methodLink RX0 93 yX1_hoursOn, Cond.instanceMethod yX1_hoursOn, Cond.selects RX1 yX1_hoursOn yX1_hoursOn, Cond.initialized RX1, Cond.code yX1_hoursOn cX1_hoursOn 5 (some .int), Cond.fieldLink RX1 46 "Leavebank$Person" "firstHours" "I", Cond.fieldLink RX1 49 "Leavebank$Person" "changeCount" "I", Cond.fieldLink RX1 9 "Leavebank$Person" "changeDays" "[I", Cond.fieldLink RX1 15 "Leavebank$Person" "changeHours" "[I", Cond.methodLink RX0 35 yX0_expiryOf, Cond.static yX0_expiryOf, Cond.code yX0_expiryOf cX0_expiryOf 2 (some .int), Cond.methodLink RX0 39 yX0_earn, Cond.instanceMethod yX0_earn, Cond.selects RX0 yX0_earn yX0_earn, Cond.code yX0_earn cX0_earn 4 none, Cond.fieldLink RX0 9 "Leavebank$Ledger" "lotPoints" "[I", Cond.fieldLink RX0 15 "Leavebank$Ledger" "lotExpiries" "[I"]
def wsL_nextExpiry_r4 : List Cond := [Cond.methodLink RX0 43 yX0_expireOn, Cond.instanceMethod yX0_expireOn, Cond.selects RX0 yX0_expireOn yX0_expireOn, Cond.code yX0_expireOn cX0_expireOn 2 none, Cond.methodLink RX0 47 yX1_leaveOn, Cond.instanceMethod yX1_leaveOn, Cond.selects RX1 yX1_leaveOn yX1_leaveOn, Cond.code yX1_leaveOn cX1_leaveOn 2 (some .int), Cond.fieldLink RX1 36 "Leavebank$Person" "leaveKinds" "[I", Cond.methodLink RX0 50 yX0_take, Cond.instanceMethod yX0_take, Cond.selects RX0 yX0_take yX0_take, Cond.code yX0_take cX0_take 4 none, Cond.methodLink RX0 100 Lib.Math.max.name, Cond.static Lib.Math.max.name, Cond.code Lib.Math.max.name Lib.Math.max.code 2 (some .int), Cond.methodLink RX0 96 yX0_pointsInLots, Cond.instanceMethod yX0_pointsInLots, Cond.selects RX0 yX0_pointsInLots yX0_pointsInLots, Cond.code yX0_pointsInLots cX0_pointsInLots 3 (some .int), Cond.methodLink RX0 103 yX0_drawFromLots, Cond.instanceMethod yX0_drawFromLots, Cond.selects RX0 yX0_drawFromLots yX0_drawFromLots, Cond.code yX0_drawFromLots cX0_drawFromLots 5 (some .int)]
def wsL_nextExpiry_r5 : List Cond := [Cond.methodLink RX0 53 yX0_payOn, Cond.instanceMethod yX0_payOn, Cond.selects RX0 yX0_payOn yX0_payOn, Cond.code yX0_payOn cX0_payOn 3 none, Cond.fieldLink RX0 106 "Leavebank$Person" "ownPayoutCount" "I", Cond.fieldLink RX0 109 "Leavebank$Person" "payoutDays" "[I", Cond.fieldLink RX0 112 "Leavebank$Person" "payoutPoints" "[I", Cond.methodLink RX3 171 yX0_firstExpiry, Cond.instanceMethod yX0_firstExpiry, Cond.selects RX0 yX0_firstExpiry yX0_firstExpiry, Cond.code yX0_firstExpiry cX0_firstExpiry 2 (some .int)]
def wsL_nextExpiry : List Cond := .codeWith yL_nextExpiry cL_nextExpiry 5 (some .int) [(0, 10, 13, 21), (0, 10, 17, 13)] :: ((wsL_nextExpiry_r1 ++ (wsL_nextExpiry_r2 ++ (wsL_nextExpiry_r3 ++ (wsL_nextExpiry_r4 ++ wsL_nextExpiry_r5)))) ++ wsX30 ++ wsX10 ++ wsX00 ++ (vx_atS RX3 178 "java/lang/IndexOutOfBoundsException" ["java/lang/RuntimeException", "java/lang/Exception"]).filter goodWord ++ (vx_atS RX3 32 "java/lang/IllegalArgumentException" ["java/lang/RuntimeException", "java/lang/Exception"]).filter goodWord)
def wsL_law0_r1 : List Cond := [Cond.classLink RL 8 RX3, Cond.instantiable RX3 8, Cond.initialized RX3, Cond.classLink RL 81 RX4, Cond.instantiable RX4 30, Cond.initialized RX4, Cond.arrayClass .long, Cond.methodLink RL 80 yX3_init, Cond.instanceMethod yX3_init, Cond.code yX3_init cX3_init 1 none, Cond.methodLink RX3 3 objectInit, Cond.instanceMethod objectInit, Cond.code objectInit ⟨#[0xb1]⟩ 1 none, Cond.classLink RX3 9 RX1, Cond.fieldLink RX3 11 "Leavebank" "persons" "[LLeavebank$Person;", Cond.classLink RX3 15 RX2, Cond.fieldLink RX3 17 "Leavebank" "requests" "[LLeavebank$Request;", Cond.classLink RX3 21 RX0, Cond.instantiable RX0 11, Cond.initialized RX0, Cond.fieldLink RX3 24 "Leavebank" "ledger" "LLeavebank$Ledger;", Cond.instanceMethod yX0_init, Cond.code yX0_init cX0_init 1 none, Cond.methodLink RX0 3 objectInit]
def wsL_law0_r2 : List Cond := [Cond.arrayClass .int, Cond.fieldLink RX0 9 "Leavebank$Ledger" "lotPoints" "[I", Cond.fieldLink RX0 15 "Leavebank$Ledger" "lotExpiries" "[I", Cond.methodLink RL 83 yX4_init, Cond.instanceMethod yX4_init, Cond.code yX4_init cX4_init 1 none, Cond.methodLink RX4 1 objectInit, Cond.fieldLink RX4 7 "LeavebankModel" "start" "[I", Cond.fieldLink RX4 13 "LeavebankModel" "right" "[I", Cond.fieldLink RX4 16 "LeavebankModel" "hours" "[I", Cond.fieldLink RX4 19 "LeavebankModel" "changes" "[I", Cond.fieldLink RX4 22 "LeavebankModel" "changeDay" "[I", Cond.fieldLink RX4 25 "LeavebankModel" "changeHours" "[I", Cond.fieldLink RX4 28 "LeavebankModel" "who" "[I", Cond.fieldLink RX4 31 "LeavebankModel" "from" "[I", Cond.fieldLink RX4 34 "LeavebankModel" "to" "[I", Cond.arrayClass .boolean, Cond.fieldLink RX4 37 "LeavebankModel" "half" "[Z", Cond.fieldLink RX4 41 "LeavebankModel" "gone" "[Z", Cond.fieldLink RX4 44 "LeavebankModel" "ill" "[I", Cond.fieldLink RX4 47 "LeavebankModel" "illFrom" "[I", Cond.fieldLink RX4 50 "LeavebankModel" "illTo" "[I", Cond.fieldLink RX4 53 "LeavebankModel" "payee" "[I", Cond.fieldLink RX4 56 "LeavebankModel" "payDay" "[I"]
def wsL_law0_r3 : List Cond := [Cond.fieldLink RX4 59 "LeavebankModel" "payPoints" "[I", Cond.fieldLink RX4 62 "LeavebankModel" "pool" "[I", Cond.methodLink RL 84 yL_addPerson, Cond.static yL_addPerson, Cond.initialized RL, Cond.codeWith yL_addPerson cL_addPerson 5 (some .int) [(0, 10, 13, 13), (0, 10, 17, 15)], Cond.classLink RL 13 "java/lang/IllegalArgumentException", Cond.classLink RL 15 "java/lang/IllegalStateException", Cond.methodLink RL 7 yX3_addPerson, Cond.instanceMethod yX3_addPerson, Cond.selects RX3 yX3_addPerson yX3_addPerson, Cond.code yX3_addPerson cX3_addPerson 4 (some .int), Cond.classLink RX3 28 "java/lang/IllegalArgumentException", Cond.initialized "java/lang/IllegalArgumentException", Cond.classLink RX3 43 "java/lang/IllegalStateException", Cond.initialized "java/lang/IllegalStateException", Cond.fieldLink RX3 39 "Leavebank" "personCount" "I", Cond.instantiable RX1 15, Cond.initialized RX1, Cond.fieldLink RX3 48 "Leavebank" "currentDay" "I", Cond.methodLink RX3 35 yX3_checkHours, Cond.static yX3_checkHours, Cond.code yX3_checkHours cX3_checkHours 1 none, Cond.methodLink RX3 51 yX1_init]
def wsL_law0_r4 : List Cond := [Cond.instanceMethod yX1_init, Cond.code yX1_init cX1_init 4 none, Cond.methodLink RX1 3 objectInit, Cond.fieldLink RX1 9 "Leavebank$Person" "changeDays" "[I", Cond.fieldLink RX1 15 "Leavebank$Person" "changeHours" "[I", Cond.classLink RX1 18 RX2, Cond.fieldLink RX1 20 "Leavebank$Person" "ownRequests" "[LLeavebank$Request;", Cond.fieldLink RX1 24 "Leavebank$Person" "spellFirsts" "[I", Cond.fieldLink RX1 27 "Leavebank$Person" "spellLasts" "[I", Cond.fieldLink RX1 30 "Leavebank$Person" "payoutDays" "[I", Cond.fieldLink RX1 33 "Leavebank$Person" "payoutPoints" "[I", Cond.fieldLink RX1 36 "Leavebank$Person" "leaveKinds" "[I", Cond.fieldLink RX1 39 "Leavebank$Person" "firstDay" "I", Cond.fieldLink RX1 43 "Leavebank$Person" "right" "I", Cond.fieldLink RX1 46 "Leavebank$Person" "firstHours" "I", Cond.methodLink RL 89 yX4_addPerson, Cond.instanceMethod yX4_addPerson, Cond.selects RX4 yX4_addPerson yX4_addPerson, Cond.code yX4_addPerson cX4_addPerson 3 (some .int), Cond.fieldLink RX4 65 "LeavebankModel" "thrown" "I", Cond.fieldLink RX4 69 "LeavebankModel" "people" "I", Cond.fieldLink RX4 139 "LeavebankModel" "today" "I", Cond.methodLink RX4 72 yX4_in, Cond.static yX4_in]
def wsL_law0_r5 : List Cond := [Cond.code yX4_in cX4_in 3 (some .boolean), Cond.methodLink RX4 136 yX4_fails, Cond.instanceMethod yX4_fails, Cond.selects RX4 yX4_fails yX4_fails, Cond.code yX4_fails cX4_fails 2 (some .int), Cond.methodLink RL 90 yX4_thrown, Cond.instanceMethod yX4_thrown, Cond.selects RX4 yX4_thrown yX4_thrown, Cond.code yX4_thrown cX4_thrown 1 (some .int), Cond.methodLink RL 94 yL_setHours, Cond.static yL_setHours, Cond.codeWith yL_setHours cL_setHours 6 (some .int) [(0, 12, 15, 21), (0, 12, 19, 13), (0, 12, 23, 15)], Cond.classLink RL 21 "java/lang/IndexOutOfBoundsException", Cond.methodLink RL 17 yX3_setHours, Cond.instanceMethod yX3_setHours, Cond.selects RX3 yX3_setHours yX3_setHours, Cond.code yX3_setHours cX3_setHours 6 (some .int), Cond.fieldLink RX3 58 "Leavebank$Person" "firstDay" "I", Cond.methodLink RX3 54 yX3_personAt, Cond.instanceMethod yX3_personAt, Cond.selects RX3 yX3_personAt yX3_personAt, Cond.code yX3_personAt cX3_personAt 3 (some (.object "Leavebank$Person")), Cond.classLink RX3 174 "java/lang/IndexOutOfBoundsException", Cond.initialized "java/lang/IndexOutOfBoundsException"]
def wsL_law0_r6 : List Cond := [Cond.methodLink RX3 61 yX3_checkDay, Cond.static yX3_checkDay, Cond.code yX3_checkDay cX3_checkDay 2 none, Cond.methodLink RX3 65 yX1_hoursOn, Cond.instanceMethod yX1_hoursOn, Cond.selects RX1 yX1_hoursOn yX1_hoursOn, Cond.code yX1_hoursOn cX1_hoursOn 5 (some .int), Cond.fieldLink RX1 49 "Leavebank$Person" "changeCount" "I", Cond.methodLink RX3 69 yX1_enterHours, Cond.instanceMethod yX1_enterHours, Cond.selects RX1 yX1_enterHours yX1_enterHours, Cond.code yX1_enterHours cX1_enterHours 4 (some .boolean), Cond.methodLink RX1 52 Lib.Math.max.name, Cond.static Lib.Math.max.name, Cond.initialized "java/lang/Math", Cond.code Lib.Math.max.name Lib.Math.max.code 2 (some .int), Cond.methodLink RL 97 yX4_setHours, Cond.instanceMethod yX4_setHours, Cond.selects RX4 yX4_setHours yX4_setHours, Cond.code yX4_setHours cX4_setHours 7 (some .int), Cond.methodLink RX4 142 yX4_isPerson, Cond.instanceMethod yX4_isPerson, Cond.selects RX4 yX4_isPerson yX4_isPerson, Cond.code yX4_isPerson cX4_isPerson 2 (some .boolean)]
def wsL_law0_r7 : List Cond := [Cond.methodLink RX4 90 yX4_hoursOn, Cond.instanceMethod yX4_hoursOn, Cond.selects RX4 yX4_hoursOn yX4_hoursOn, Cond.code yX4_hoursOn cX4_hoursOn 7 (some .int), Cond.methodLink RL 98 yL_request, Cond.static yL_request, Cond.codeWith yL_request cL_request 7 (some .int) [(0, 14, 17, 21), (0, 14, 21, 13), (0, 14, 25, 15)], Cond.methodLink RL 23 yX3_request, Cond.instanceMethod yX3_request, Cond.selects RX3 yX3_request yX3_request, Cond.code yX3_request cX3_request 8 (some .int), Cond.fieldLink RX3 78 "Leavebank" "requestCount" "I", Cond.instantiable RX2 5, Cond.initialized RX2, Cond.methodLink RX3 75 yX3_checkDays, Cond.static yX3_checkDays, Cond.code yX3_checkDays cX3_checkDays 3 none, Cond.methodLink RX3 83 yX2_init, Cond.instanceMethod yX2_init, Cond.code yX2_init cX2_init 5 none, Cond.methodLink RX2 3 objectInit, Cond.fieldLink RX2 9 "Leavebank$Request" "owner" "LLeavebank$Person;", Cond.fieldLink RX2 15 "Leavebank$Request" "kind" "I", Cond.fieldLink RX2 19 "Leavebank$Request" "firstDay" "I"]
def wsL_law0_r8 : List Cond := [Cond.fieldLink RX2 22 "Leavebank$Request" "lastDay" "I", Cond.methodLink RX3 86 yX1_enterRequest, Cond.instanceMethod yX1_enterRequest, Cond.selects RX1 yX1_enterRequest yX1_enterRequest, Cond.code yX1_enterRequest cX1_enterRequest 2 none, Cond.fieldLink RX1 58 "Leavebank$Person" "ownRequestCount" "I", Cond.fieldLink RX1 61 "Leavebank$Request" "firstDay" "I", Cond.fieldLink RX1 62 "Leavebank$Request" "lastDay" "I", Cond.methodLink RX1 65 yX1_markLeave, Cond.instanceMethod yX1_markLeave, Cond.selects RX1 yX1_markLeave yX1_markLeave, Cond.code yX1_markLeave cX1_markLeave 4 none, Cond.methodLink RX1 75 yX1_findLeave, Cond.instanceMethod yX1_findLeave, Cond.selects RX1 yX1_findLeave yX1_findLeave, Cond.code yX1_findLeave cX1_findLeave 5 (some .int), Cond.fieldLink RX1 89 "Leavebank$Request" "kind" "I", Cond.static yX3_isWorkingDay, Cond.code yX3_isWorkingDay cX3_isWorkingDay 1 (some .boolean), Cond.methodLink RX1 83 yX1_isSickOn, Cond.instanceMethod yX1_isSickOn, Cond.selects RX1 yX1_isSickOn yX1_isSickOn, Cond.code yX1_isSickOn cX1_isSickOn 3 (some .boolean), Cond.fieldLink RX1 69 "Leavebank$Person" "ownSpellCount" "I"]
def wsL_law0_r9 : List Cond := [Cond.methodLink RX1 86 yX2_holdsOn, Cond.instanceMethod yX2_holdsOn, Cond.selects RX2 yX2_holdsOn yX2_holdsOn, Cond.code yX2_holdsOn cX2_holdsOn 2 (some .boolean), Cond.fieldLink RX2 25 "Leavebank$Request" "isCancelled" "Z", Cond.methodLink RL 101 yX4_request, Cond.instanceMethod yX4_request, Cond.selects RX4 yX4_request yX4_request, Cond.code yX4_request cX4_request 5 (some .int), Cond.fieldLink RX4 79 "LeavebankModel" "requests" "I", Cond.methodLink RX4 145 yX4_areDays, Cond.instanceMethod yX4_areDays, Cond.selects RX4 yX4_areDays yX4_areDays, Cond.code yX4_areDays cX4_areDays 4 (some .boolean), Cond.methodLink RL 102 yL_change, Cond.static yL_change, Cond.codeWith yL_change cL_change 6 (some .int) [(0, 12, 15, 21), (0, 12, 19, 13), (0, 12, 23, 15)], Cond.methodLink RL 27 yX3_change, Cond.instanceMethod yX3_change, Cond.selects RX3 yX3_change yX3_change, Cond.code yX3_change cX3_change 7 (some .int), Cond.fieldLink RX3 94 "Leavebank$Request" "owner" "LLeavebank$Person;", Cond.fieldLink RX3 98 "Leavebank$Request" "isCancelled" "Z", Cond.fieldLink RX3 104 "Leavebank$Request" "firstDay" "I"]
def wsL_law0_r10 : List Cond := [Cond.fieldLink RX3 105 "Leavebank$Request" "lastDay" "I", Cond.methodLink RX3 90 yX3_requestAt, Cond.instanceMethod yX3_requestAt, Cond.selects RX3 yX3_requestAt yX3_requestAt, Cond.code yX3_requestAt cX3_requestAt 3 (some (.object "Leavebank$Request")), Cond.methodLink RX3 108 yX1_markLeave, Cond.methodLink RL 104 yX4_change, Cond.instanceMethod yX4_change, Cond.selects RX4 yX4_change yX4_change, Cond.code yX4_change cX4_change 5 (some .int), Cond.methodLink RL 105 yL_cancel, Cond.static yL_cancel, Cond.codeWith yL_cancel cL_cancel 3 (some .int) [(0, 5, 8, 21), (0, 5, 11, 15)], Cond.methodLink RL 30 yX3_cancel, Cond.instanceMethod yX3_cancel, Cond.selects RX3 yX3_cancel yX3_cancel, Cond.code yX3_cancel cX3_cancel 3 none, Cond.methodLink RL 108 yX4_cancel, Cond.instanceMethod yX4_cancel, Cond.selects RX4 yX4_cancel yX4_cancel, Cond.code yX4_cancel cX4_cancel 2 none, Cond.methodLink RL 109 yL_sick, Cond.static yL_sick, Cond.codeWith yL_sick cL_sick 6 (some .int) [(0, 12, 15, 21), (0, 12, 19, 13), (0, 12, 23, 15)]]
def wsL_law0_r11 : List Cond := [Cond.methodLink RL 34 yX3_sick, Cond.instanceMethod yX3_sick, Cond.selects RX3 yX3_sick yX3_sick, Cond.code yX3_sick cX3_sick 5 (some .int), Cond.fieldLink RX3 111 "Leavebank" "spellCount" "I", Cond.methodLink RX3 116 yX1_enterSpell, Cond.instanceMethod yX1_enterSpell, Cond.selects RX1 yX1_enterSpell yX1_enterSpell, Cond.code yX1_enterSpell cX1_enterSpell 3 none, Cond.methodLink RL 111 yX4_sick, Cond.instanceMethod yX4_sick, Cond.selects RX4 yX4_sick yX4_sick, Cond.code yX4_sick cX4_sick 4 (some .int), Cond.fieldLink RX4 76 "LeavebankModel" "spells" "I", Cond.methodLink RL 112 yL_payOut, Cond.static yL_payOut, Cond.codeWith yL_payOut cL_payOut 5 (some .int) [(0, 10, 13, 21), (0, 10, 17, 13), (0, 10, 21, 15)], Cond.methodLink RL 37 yX3_payOut, Cond.instanceMethod yX3_payOut, Cond.selects RX3 yX3_payOut yX3_payOut, Cond.code yX3_payOut cX3_payOut 5 (some .int), Cond.fieldLink RX3 121 "Leavebank" "payoutCount" "I", Cond.methodLink RX3 126 yX0_goThrough, Cond.instanceMethod yX0_goThrough]
def wsL_law0_r12 : List Cond := [Cond.selects RX0 yX0_goThrough yX0_goThrough, Cond.code yX0_goThrough cX0_goThrough 4 none, Cond.fieldLink RX0 21 "Leavebank$Person" "firstDay" "I", Cond.methodLink RX0 18 yX0_clear, Cond.instanceMethod yX0_clear, Cond.selects RX0 yX0_clear yX0_clear, Cond.code yX0_clear cX0_clear 1 none, Cond.fieldLink RX0 60 "Leavebank$Ledger" "lotCount" "I", Cond.fieldLink RX0 57 "Leavebank$Ledger" "oldestLot" "I", Cond.fieldLink RX0 63 "Leavebank$Ledger" "nextPayout" "I", Cond.fieldLink RX0 66 "Leavebank$Ledger" "debt" "I", Cond.fieldLink RX0 69 "Leavebank$Ledger" "sumEarned" "I", Cond.fieldLink RX0 72 "Leavebank$Ledger" "sumTaken" "I", Cond.fieldLink RX0 75 "Leavebank$Ledger" "sumExpired" "I", Cond.fieldLink RX0 78 "Leavebank$Ledger" "sumPaid" "I", Cond.fieldLink RX0 81 "Leavebank$Ledger" "unpaidDays" "I", Cond.methodLink RX0 27 yX0_isDayOfEarning, Cond.static yX0_isDayOfEarning, Cond.code yX0_isDayOfEarning cX0_isDayOfEarning 2 (some .boolean), Cond.methodLink RX0 31 yX0_pointsOfMonth, Cond.static yX0_pointsOfMonth, Cond.code yX0_pointsOfMonth cX0_pointsOfMonth 4 (some .int), Cond.methodLink RX0 84 Lib.Math.min.name, Cond.static Lib.Math.min.name]
def wsL_law0_r13 : List Cond := [Cond.code Lib.Math.min.name Lib.Math.min.code 2 (some .int), Cond.fieldLink RX0 90 "Leavebank$Person" "right" "I", Cond.methodLink RX0 93 yX1_hoursOn, Cond.methodLink RX0 35 yX0_expiryOf, Cond.static yX0_expiryOf, Cond.code yX0_expiryOf cX0_expiryOf 2 (some .int), Cond.methodLink RX0 39 yX0_earn, Cond.instanceMethod yX0_earn, Cond.selects RX0 yX0_earn yX0_earn, Cond.code yX0_earn cX0_earn 4 none, Cond.methodLink RX0 43 yX0_expireOn, Cond.instanceMethod yX0_expireOn, Cond.selects RX0 yX0_expireOn yX0_expireOn, Cond.code yX0_expireOn cX0_expireOn 2 none, Cond.methodLink RX0 47 yX1_leaveOn, Cond.instanceMethod yX1_leaveOn, Cond.selects RX1 yX1_leaveOn yX1_leaveOn, Cond.code yX1_leaveOn cX1_leaveOn 2 (some .int), Cond.methodLink RX0 50 yX0_take, Cond.instanceMethod yX0_take, Cond.selects RX0 yX0_take yX0_take, Cond.code yX0_take cX0_take 4 none, Cond.methodLink RX0 100 Lib.Math.max.name, Cond.methodLink RX0 96 yX0_pointsInLots]
def wsL_law0_r14 : List Cond := [Cond.instanceMethod yX0_pointsInLots, Cond.selects RX0 yX0_pointsInLots yX0_pointsInLots, Cond.code yX0_pointsInLots cX0_pointsInLots 3 (some .int), Cond.methodLink RX0 103 yX0_drawFromLots, Cond.instanceMethod yX0_drawFromLots, Cond.selects RX0 yX0_drawFromLots yX0_drawFromLots, Cond.code yX0_drawFromLots cX0_drawFromLots 5 (some .int), Cond.methodLink RX0 53 yX0_payOn, Cond.instanceMethod yX0_payOn, Cond.selects RX0 yX0_payOn yX0_payOn, Cond.code yX0_payOn cX0_payOn 3 none, Cond.fieldLink RX0 106 "Leavebank$Person" "ownPayoutCount" "I", Cond.fieldLink RX0 109 "Leavebank$Person" "payoutDays" "[I", Cond.fieldLink RX0 112 "Leavebank$Person" "payoutPoints" "[I", Cond.methodLink RX3 130 yX0_pointsInLots, Cond.methodLink RX3 136 yX1_enterPayout, Cond.instanceMethod yX1_enterPayout, Cond.selects RX1 yX1_enterPayout yX1_enterPayout, Cond.code yX1_enterPayout cX1_enterPayout 3 none, Cond.fieldLink RX1 72 "Leavebank$Person" "ownPayoutCount" "I", Cond.methodLink RL 114 yX4_payOut, Cond.instanceMethod yX4_payOut, Cond.selects RX4 yX4_payOut yX4_payOut, Cond.code yX4_payOut cX4_payOut 3 (some .int)]
def wsL_law0_r15 : List Cond := [Cond.fieldLink RX4 127 "LeavebankModel" "payouts" "I", Cond.methodLink RX4 148 yX4_goes, Cond.instanceMethod yX4_goes, Cond.selects RX4 yX4_goes yX4_goes, Cond.code yX4_goes cX4_goes 4 none, Cond.fieldLink RX4 94 "LeavebankModel" "owed" "I", Cond.fieldLink RX4 97 "LeavebankModel" "earnedSum" "I", Cond.fieldLink RX4 114 "LeavebankModel" "takenSum" "I", Cond.fieldLink RX4 121 "LeavebankModel" "expiredSum" "I", Cond.fieldLink RX4 130 "LeavebankModel" "paidSum" "I", Cond.fieldLink RX4 107 "LeavebankModel" "unpaidDays" "I", Cond.methodLink RX4 133 yX4_dayOf, Cond.instanceMethod yX4_dayOf, Cond.selects RX4 yX4_dayOf yX4_dayOf, Cond.code yX4_dayOf cX4_dayOf 4 none, Cond.methodLink RX4 117 yX4_earns, Cond.instanceMethod yX4_earns, Cond.selects RX4 yX4_earns yX4_earns, Cond.code yX4_earns cX4_earns 7 none, Cond.methodLink RX4 124 yX4_leaves, Cond.instanceMethod yX4_leaves, Cond.selects RX4 yX4_leaves yX4_leaves, Cond.code yX4_leaves cX4_leaves 5 none, Cond.methodLink RX4 100 yX4_leaveOn]
def wsL_law0_r16 : List Cond := [Cond.instanceMethod yX4_leaveOn, Cond.selects RX4 yX4_leaveOn yX4_leaveOn, Cond.code yX4_leaveOn cX4_leaveOn 7 (some .int), Cond.methodLink RX4 82 yX4_isWorking, Cond.static yX4_isWorking, Cond.code yX4_isWorking cX4_isWorking 1 (some .boolean), Cond.methodLink RX4 86 yX4_isIll, Cond.instanceMethod yX4_isIll, Cond.selects RX4 yX4_isIll yX4_isIll, Cond.code yX4_isIll cX4_isIll 5 (some .boolean), Cond.methodLink RX4 103 yX4_inPools, Cond.instanceMethod yX4_inPools, Cond.selects RX4 yX4_inPools yX4_inPools, Cond.code yX4_inPools cX4_inPools 3 (some .int), Cond.methodLink RX4 110 yX4_draws, Cond.instanceMethod yX4_draws, Cond.selects RX4 yX4_draws yX4_draws, Cond.code yX4_draws cX4_draws 5 (some .int), Cond.methodLink RL 115 yL_pass, Cond.static yL_pass, Cond.codeWith yL_pass cL_pass 4 (some .int) [(0, 9, 12, 13), (0, 9, 15, 15)], Cond.methodLink RL 40 yX3_pass, Cond.instanceMethod yX3_pass, Cond.selects RX3 yX3_pass yX3_pass]
def wsL_law0_r17 : List Cond := [Cond.code yX3_pass cX3_pass 2 (some .int), Cond.methodLink RL 118 yX4_pass, Cond.instanceMethod yX4_pass, Cond.selects RX4 yX4_pass yX4_pass, Cond.code yX4_pass cX4_pass 2 (some .int), Cond.methodLink RL 119 yX3_today, Cond.instanceMethod yX3_today, Cond.selects RX3 yX3_today yX3_today, Cond.code yX3_today cX3_today 1 (some .int), Cond.methodLink RL 122 yX4_today, Cond.instanceMethod yX4_today, Cond.selects RX4 yX4_today yX4_today, Cond.code yX4_today cX4_today 1 (some .int), Cond.methodLink RL 123 yX3_people, Cond.instanceMethod yX3_people, Cond.selects RX3 yX3_people yX3_people, Cond.code yX3_people cX3_people 1 (some .int), Cond.methodLink RL 126 yX4_people, Cond.instanceMethod yX4_people, Cond.selects RX4 yX4_people yX4_people, Cond.code yX4_people cX4_people 1 (some .int), Cond.methodLink RL 127 yL_workingDays, Cond.static yL_workingDays, Cond.codeWith yL_workingDays cL_workingDays 5 (some .int) [(0, 10, 13, 13)]]
def wsL_law0_r18 : List Cond := [Cond.methodLink RL 44 yX3_workingDays, Cond.instanceMethod yX3_workingDays, Cond.selects RX3 yX3_workingDays yX3_workingDays, Cond.code yX3_workingDays cX3_workingDays 3 (some .int), Cond.methodLink RX3 143 yX3_workingDaysAheadOf, Cond.static yX3_workingDaysAheadOf, Cond.code yX3_workingDaysAheadOf cX3_workingDaysAheadOf 2 (some .int), Cond.methodLink RX3 187 Lib.Math.min.name, Cond.methodLink RL 129 yX4_workingDays, Cond.instanceMethod yX4_workingDays, Cond.selects RX4 yX4_workingDays yX4_workingDays, Cond.code yX4_workingDays cX4_workingDays 5 (some .int), Cond.methodLink RL 130 yL_hours, Cond.static yL_hours, Cond.codeWith yL_hours cL_hours 5 (some .int) [(0, 10, 13, 21), (0, 10, 17, 13)], Cond.methodLink RL 47 yX3_hours, Cond.instanceMethod yX3_hours, Cond.selects RX3 yX3_hours yX3_hours, Cond.code yX3_hours cX3_hours 4 (some .int), Cond.methodLink RL 132 yX4_hours, Cond.instanceMethod yX4_hours, Cond.selects RX4 yX4_hours yX4_hours, Cond.code yX4_hours cX4_hours 3 (some .int), Cond.methodLink RL 133 yL_onLeave]
def wsL_law0_r19 : List Cond := [Cond.static yL_onLeave, Cond.codeWith yL_onLeave cL_onLeave 5 (some .int) [(0, 10, 13, 21), (0, 10, 17, 13)], Cond.methodLink RL 50 yX3_onLeave, Cond.instanceMethod yX3_onLeave, Cond.selects RX3 yX3_onLeave yX3_onLeave, Cond.code yX3_onLeave cX3_onLeave 4 (some .int), Cond.methodLink RX3 146 yX1_leaveOn, Cond.methodLink RL 135 yX4_onLeave, Cond.instanceMethod yX4_onLeave, Cond.selects RX4 yX4_onLeave yX4_onLeave, Cond.code yX4_onLeave cX4_onLeave 3 (some .int), Cond.methodLink RX4 151 yX4_isAsked, Cond.instanceMethod yX4_isAsked, Cond.selects RX4 yX4_isAsked yX4_isAsked, Cond.code yX4_isAsked cX4_isAsked 3 (some .boolean), Cond.methodLink RL 136 yL_balance, Cond.static yL_balance, Cond.codeWith yL_balance cL_balance 5 (some .int) [(0, 10, 13, 21), (0, 10, 17, 13)], Cond.methodLink RL 53 yX3_balance, Cond.instanceMethod yX3_balance, Cond.selects RX3 yX3_balance yX3_balance, Cond.code yX3_balance cX3_balance 4 (some .int), Cond.fieldLink RX3 153 "Leavebank$Ledger" "debt" "I", Cond.methodLink RX3 149 yX3_ledgerBehind]
def wsL_law0_r20 : List Cond := [Cond.instanceMethod yX3_ledgerBehind, Cond.selects RX3 yX3_ledgerBehind yX3_ledgerBehind, Cond.code yX3_ledgerBehind cX3_ledgerBehind 4 (some (.object "Leavebank$Ledger")), Cond.methodLink RL 138 yX4_balance, Cond.instanceMethod yX4_balance, Cond.selects RX4 yX4_balance yX4_balance, Cond.code yX4_balance cX4_balance 3 (some .int), Cond.methodLink RX4 154 yX4_isGone, Cond.instanceMethod yX4_isGone, Cond.selects RX4 yX4_isGone yX4_isGone, Cond.code yX4_isGone cX4_isGone 3 (some .boolean), Cond.methodLink RL 139 yL_balanceBySums, Cond.static yL_balanceBySums, Cond.codeWith yL_balanceBySums cL_balanceBySums 5 (some .int) [(0, 10, 13, 21), (0, 10, 17, 13)], Cond.methodLink RL 56 yX3_balanceBySums, Cond.instanceMethod yX3_balanceBySums, Cond.selects RX3 yX3_balanceBySums yX3_balanceBySums, Cond.code yX3_balanceBySums cX3_balanceBySums 4 (some .int), Cond.fieldLink RX3 156 "Leavebank$Ledger" "sumEarned" "I", Cond.fieldLink RX3 159 "Leavebank$Ledger" "sumTaken" "I", Cond.fieldLink RX3 162 "Leavebank$Ledger" "sumExpired" "I", Cond.fieldLink RX3 165 "Leavebank$Ledger" "sumPaid" "I", Cond.methodLink RL 141 yX4_balanceBySums, Cond.instanceMethod yX4_balanceBySums]
def wsL_law0_r21 : List Cond := [Cond.selects RX4 yX4_balanceBySums yX4_balanceBySums, Cond.code yX4_balanceBySums cX4_balanceBySums 3 (some .int), Cond.methodLink RL 142 yL_earned, Cond.static yL_earned, Cond.codeWith yL_earned cL_earned 5 (some .int) [(0, 10, 13, 21), (0, 10, 17, 13)], Cond.methodLink RL 59 yX3_earned, Cond.instanceMethod yX3_earned, Cond.selects RX3 yX3_earned yX3_earned, Cond.code yX3_earned cX3_earned 3 (some .int), Cond.methodLink RL 144 yX4_earned, Cond.instanceMethod yX4_earned, Cond.selects RX4 yX4_earned yX4_earned, Cond.code yX4_earned cX4_earned 3 (some .int), Cond.methodLink RL 145 yL_taken, Cond.static yL_taken, Cond.codeWith yL_taken cL_taken 5 (some .int) [(0, 10, 13, 21), (0, 10, 17, 13)], Cond.methodLink RL 62 yX3_taken, Cond.instanceMethod yX3_taken, Cond.selects RX3 yX3_taken yX3_taken, Cond.code yX3_taken cX3_taken 3 (some .int), Cond.methodLink RL 147 yX4_taken, Cond.instanceMethod yX4_taken, Cond.selects RX4 yX4_taken yX4_taken, Cond.code yX4_taken cX4_taken 3 (some .int)]
def wsL_law0_r22 : List Cond := [Cond.methodLink RL 148 yL_expired, Cond.static yL_expired, Cond.codeWith yL_expired cL_expired 5 (some .int) [(0, 10, 13, 21), (0, 10, 17, 13)], Cond.methodLink RL 65 yX3_expired, Cond.instanceMethod yX3_expired, Cond.selects RX3 yX3_expired yX3_expired, Cond.code yX3_expired cX3_expired 3 (some .int), Cond.methodLink RL 150 yX4_expired, Cond.instanceMethod yX4_expired, Cond.selects RX4 yX4_expired yX4_expired, Cond.code yX4_expired cX4_expired 3 (some .int), Cond.methodLink RL 151 yL_paid, Cond.static yL_paid, Cond.codeWith yL_paid cL_paid 5 (some .int) [(0, 10, 13, 21), (0, 10, 17, 13)], Cond.methodLink RL 68 yX3_paid, Cond.instanceMethod yX3_paid, Cond.selects RX3 yX3_paid yX3_paid, Cond.code yX3_paid cX3_paid 3 (some .int), Cond.methodLink RL 153 yX4_paid, Cond.instanceMethod yX4_paid, Cond.selects RX4 yX4_paid yX4_paid, Cond.code yX4_paid cX4_paid 3 (some .int), Cond.methodLink RL 154 yL_borrowed, Cond.static yL_borrowed]
def wsL_law0_r23 : List Cond := [Cond.codeWith yL_borrowed cL_borrowed 5 (some .int) [(0, 10, 13, 21), (0, 10, 17, 13)], Cond.methodLink RL 71 yX3_borrowed, Cond.instanceMethod yX3_borrowed, Cond.selects RX3 yX3_borrowed yX3_borrowed, Cond.code yX3_borrowed cX3_borrowed 3 (some .int), Cond.methodLink RL 156 yX4_borrowed, Cond.instanceMethod yX4_borrowed, Cond.selects RX4 yX4_borrowed yX4_borrowed, Cond.code yX4_borrowed cX4_borrowed 3 (some .int), Cond.methodLink RL 157 yL_unpaid, Cond.static yL_unpaid, Cond.codeWith yL_unpaid cL_unpaid 5 (some .int) [(0, 10, 13, 21), (0, 10, 17, 13)], Cond.methodLink RL 74 yX3_unpaid, Cond.instanceMethod yX3_unpaid, Cond.selects RX3 yX3_unpaid yX3_unpaid, Cond.code yX3_unpaid cX3_unpaid 3 (some .int), Cond.fieldLink RX3 168 "Leavebank$Ledger" "unpaidDays" "I", Cond.methodLink RL 159 yX4_unpaid, Cond.instanceMethod yX4_unpaid, Cond.selects RX4 yX4_unpaid yX4_unpaid, Cond.code yX4_unpaid cX4_unpaid 3 (some .int), Cond.methodLink RL 160 yL_nextExpiry, Cond.static yL_nextExpiry, Cond.codeWith yL_nextExpiry cL_nextExpiry 5 (some .int) [(0, 10, 13, 21), (0, 10, 17, 13)]]
def wsL_law0_r24 : List Cond := [Cond.methodLink RL 77 yX3_nextExpiry, Cond.instanceMethod yX3_nextExpiry, Cond.selects RX3 yX3_nextExpiry yX3_nextExpiry, Cond.code yX3_nextExpiry cX3_nextExpiry 3 (some .int), Cond.methodLink RX3 171 yX0_firstExpiry, Cond.instanceMethod yX0_firstExpiry, Cond.selects RX0 yX0_firstExpiry yX0_firstExpiry, Cond.code yX0_firstExpiry cX0_firstExpiry 2 (some .int), Cond.methodLink RL 162 yX4_nextExpiry, Cond.instanceMethod yX4_nextExpiry, Cond.selects RX4 yX4_nextExpiry yX4_nextExpiry, Cond.code yX4_nextExpiry cX4_nextExpiry 5 (some .int)]
def wsL_law0 : List Cond := (wsL_law0_r1 ++ (wsL_law0_r2 ++ (wsL_law0_r3 ++ (wsL_law0_r4 ++ (wsL_law0_r5 ++ (wsL_law0_r6 ++ (wsL_law0_r7 ++ (wsL_law0_r8 ++ (wsL_law0_r9 ++ (wsL_law0_r10 ++ (wsL_law0_r11 ++ (wsL_law0_r12 ++ (wsL_law0_r13 ++ (wsL_law0_r14 ++ (wsL_law0_r15 ++ (wsL_law0_r16 ++ (wsL_law0_r17 ++ (wsL_law0_r18 ++ (wsL_law0_r19 ++ (wsL_law0_r20 ++ (wsL_law0_r21 ++ (wsL_law0_r22 ++ (wsL_law0_r23 ++ wsL_law0_r24))))))))))))))))))))))) ++ wsX30 ++ wsX40 ++ wsX00 ++ wsX10 ++ wsX20 ++ ([] : List Cond)
def wsL_law : List Cond := wsL_law0 ++ (vx_atS RX3 32 "java/lang/IllegalArgumentException" ["java/lang/RuntimeException", "java/lang/Exception"]).filter goodWord ++ (vx_atS RX3 47 "java/lang/IllegalStateException" ["java/lang/RuntimeException", "java/lang/Exception"]).filter goodWord ++ (vx_atS RX3 178 "java/lang/IndexOutOfBoundsException" ["java/lang/RuntimeException", "java/lang/Exception"]).filter goodWord
abbrev vwCl : List vw_C := [(RX0, TX0, 11), (RX1, TX1, 15), (RX2, TX2, 5), (RX3, TX3, 8), (RX4, TX4, 30)]
end
section
/-! ===== MY KIT: worlds by codes: a list of codes, an address for each, what each holds ===== -/
def mu {α : Type} (g : Nat → α) (x : Nat) (E : α) : Nat → α := fun y => if y = x then E else g y
theorem mu_same {α : Type} (g : Nat → α) (x : Nat) (E : α) : mu g x E x = E := if_pos rfl
theorem mu_ne {α : Type} (g : Nat → α) {x y : Nat} (E : α) (h : y ≠ x) : mu g x E y = g y := if_neg h
abbrev WT : Type := List Nat × (Nat → Nat) × (Nat → va_E)
def mp (C : List Nat) (ad : Nat → Nat) (g : Nat → va_E) : va_W := C.map (fun c => (ad c, g c))
theorem mp_get {C : List Nat} {ad : Nat → Nat} {g : Nat → va_E} {k c : Nat} (h : C[k]? = some c) : (mp C ad g)[k]? = some (ad c, g c) := by
  rw [mp, List.getElem?_map, h]; rfl
theorem mp_at {C : List Nat} {x : Nat} (ad : Nat → Nat) (g : Nat → va_E) (h : x ∈ C) : ∃ k : Nat, C[k]? = some x ∧ (mp C ad g)[k]? = some (ad x, g x) := by
  obtain ⟨k, hk⟩ := List.getElem?_of_mem h
  exact ⟨k, hk, mp_get hk⟩
theorem mp_of {C : List Nat} {ad : Nat → Nat} {g : Nat → va_E} {k : Nat} {q : Nat × va_E} (h : (mp C ad g)[k]? = some q) : ∃ c, C[k]? = some c ∧ q = (ad c, g c) := by
  rw [mp, List.getElem?_map] at h
  cases hc : C[k]? with
  | none => rw [hc] at h; cases h
  | some c => rw [hc] at h; exact ⟨c, rfl, (Option.some.inj h).symm⟩
theorem mp_congr {C : List Nat} {ad ad' : Nat → Nat} {g g' : Nat → va_E} (h : ∀ c ∈ C, ad c = ad' c ∧ g c = g' c) : mp C ad g = mp C ad' g' := List.map_congr_left (fun c hc => by rw [(h c hc).1, (h c hc).2])
theorem mp_set {A : Nat → Prop} {C : List Nat} {ad : Nat → Nat} {g : Nat → va_E} {k x : Nat} (hD : va_D A (mp C ad g)) (hk : C[k]? = some x) (E : va_E) : (mp C ad g).set k (ad x, E) = mp C ad (mu g x E) := by
  apply List.ext_getElem?
  intro i
  by_cases hi : i = k
  · subst hi
    have hl : i < (mp C ad g).length := (List.getElem?_eq_some_iff.mp (mp_get hk)).1
    rw [List.getElem?_set_self hl, mp_get hk, mu_same]
  · rw [List.getElem?_set_ne (Ne.symm hi)]
    cases hc : C[i]? with
    | none => rw [mp, mp, List.getElem?_map, List.getElem?_map, hc]; rfl
    | some c =>
      rw [mp_get hc, mp_get hc, mu_ne]
      intro z
      subst z
      exact hi (hD.1 i k _ _ (mp_get hc) (mp_get hk) rfl)
theorem mp_push {C : List Nat} {ad : Nat → Nat} {g : Nat → va_E} {x : Nat} (q : Nat) (E : va_E) (hx : x ∉ C) : mp C ad g ++ [(q, E)] = mp (C ++ [x]) (mu ad x q) (mu g x E) := by
  rw [mp, mp, List.map_append]
  congr 1
  · refine List.map_congr_left (fun c hc => ?_)
    have hne : c ≠ x := fun z => hx (by rw [← z]; exact hc)
    rw [mu_ne _ _ hne, mu_ne _ _ hne]
  · show _ = [(mu ad x q x, mu g x E x)]
    rw [mu_same, mu_same]
def ctys (cy : Nat → ClassId) : List (ClassId × FieldType) := [(cy 0, .int), (cy 1, .boolean), (cy 2, .object RX1), (cy 3, .object RX2), (cy 4, .long)]
def KK (D : va_G) (cy : Nat → ClassId) (U : State) : Prop := va_K D vwCl (ctys cy) U
def MO (D : va_G) (A : Nat → Prop) (H0 : Heap) (u : WT) (H : Heap) (locs : List Loc) : Prop := va_P D vwCl (mp u.1 u.2.1 u.2.2) H ∧ va_D A (mp u.1 u.2.1 u.2.2) ∧ va_S A H0 H locs
def WB (D : va_G) (cy : Nat → ClassId) (A : Nat → Prop) (u : WT) (t : State) : Prop := va_P D vwCl (mp u.1 u.2.1 u.2.2) t.heap ∧ KK D cy t ∧ va_D A (mp u.1 u.2.1 u.2.2)
/-- words of nest mates and of arrays of objects -/
def NW (U : State) : Prop := va_Nw (.methodLinkNest RX1 79 yX3_isWorkingDay RX3) U ∧ va_Nw (.methodLinkNest RX3 23 yX0_init RX3) U ∧ va_AO RX1 U ∧ va_AO RX2 U
theorem NW_warm {s U : State} (hW : s.WarmedH U.vm) (h : NW s) : NW U := ⟨va_Nw.warmM hW h.1, va_Nw.warmM hW h.2.1, va_AO.moved hW.alike h.2.2.1, va_AO.moved hW.alike h.2.2.2⟩
theorem NW_same {u U : State} (hv : u.vm = U.vm) (h : NW u) : NW U := ⟨va_Nw.same rfl hv h.1, va_Nw.same rfl hv h.2.1, va_AO.moved (by rw [hv]; exact Vm.Alike.refl U.vm) h.2.2.1, va_AO.moved (by rw [hv]; exact Vm.Alike.refl U.vm) h.2.2.2⟩
/-- a method's start: its arguments, its world -/
def PreM (D : va_G) (cy : Nat → ClassId) (u : WT) (sz : Nat) (as : List Value) : Array Value → State → Prop := va_Pc as (fun U => (U.heap.size = sz ∧ WB D cy (fun _ => True) u U) ∧ NW U)
abbrev AW (u : WT) (sz : Nat) : Nat → Prop := va_A (mp u.1 u.2.1 u.2.2) sz
def MC (p : Program) (s : State) (m : MethodId) (args : Array Value) (meth : Method) (c : Code) (cc : ByteArray) (Ts : List Cond) (own : String) (nL : Nat) (D : va_G) (cy : Nat → ClassId) (A : Nat → Prop) : Prop :=
  CallFix p m c cc nL s args Ts own ∧ KK D cy s ∧ (∀ q : Nat, s.heap.size ≤ q → A q) ∧ meth.locks = false ∧ NW s
section MXR
variable {p : Program} {l : Launch} {e : Env} {R : Room} {s : State} {m : MethodId} {args : Array Value} {below : List Frame} {meth : Method} {c : Code} {H : Heap} {locs : List Loc} {cells slots : Nat} {Q : State → Prop}
variable {cc : ByteArray} {pc : Nat} {ls : Array Slot} {rest : List Value} {D : va_G} {cy : Nat → ClassId} {A : Nat → Prop} {Ts : List Cond} {own : String} {nL : Nat} {C : List Nat} {ad : Nat → Nat} {g : Nat → va_E}
theorem KK_ty (M : MC p s m args meth c cc Ts own nL D cy A) : va_K D vwCl (ctys cy) s := M.2.1
theorem mx_get (M : MC p s m args meth c cc Ts own nL D cy A) (w : MO D A s.heap (C, ad, g) H locs) {x : Nat} (hx : x ∈ C) {ci : Nat} {fs : List Value} (he : g x = .inr (ci, fs)) {CN : String} {T : u_T} {N : Nat} (hc : vwCl[ci]? = some (CN, T, N)) (hin : ∀ w ∈ u_ws CN T N, w ∈ Ts) {index : Nat} (k : Nat) (hk : k < N) (hl : Cond.fieldLink own index (T k).1 (T k).2.1 (T k).2.2.1 ∈ Ts) {v : Value} (hv : fs[k]? = some v) (hdg : decode cc pc = .ok (.getfield index, 3))
    (kk : W p l e R s m args below meth c H locs cells slots Q (F0 m (pc + 3) ls (v :: rest))) : W p l e R s m args below meth c H locs cells slots Q (F0 m pc ls (.ref (ad x) :: rest)) := by
  obtain ⟨k9, h1, h2⟩ := mp_at ad g hx
  exact va_get M.1.1 M.1.2.1 M.1.2.2.2.2 hin M.1.2.2.2.1 M.2.1 w.1 k9 (h2.trans (by rw [he])) hc k hk (M.1.2.2.2.2 _ hl) (fun _ h => h) hv hdg kk
theorem mx_put (M : MC p s m args meth c cc Ts own nL D cy A) (w : MO D A s.heap (C, ad, g) H locs) {x : Nat} (hx : x ∈ C) {ci : Nat} {fs : List Value} (he : g x = .inr (ci, fs)) {CN : String} {T : u_T} {N : Nat} (hc : vwCl[ci]? = some (CN, T, N)) (hin : ∀ w ∈ u_ws CN T N, w ∈ Ts) (ty0 : Nat → FieldType) (hty : ∀ k, k < N → parseFieldDescriptor (T k).2.2.1 = some (ty0 k)) (hnm : ∀ a, a < N → ∀ b, b < N → a ≠ b → (T a).2.1 ≠ (T b).2.1) {index : Nat} (k : Nat) (hk : k < N) (hl : Cond.fieldLink own index (T k).1 (T k).2.1 (T k).2.2.1 ∈ Ts) (hfin : (T k).2.2.2 = false) {v : Value} (hn : narrow (ty0 k) v = v) (hfit : fits (ty0 k) v = true) (hlen : k < fs.length) (hdg : decode cc pc = .ok (.putfield index, 3))
    (kk : ∀ (H1 : Heap) (locs1 : List Loc), MO D A s.heap (C, ad, mu g x (.inr (ci, fs.set k v))) H1 locs1 → W p l e R s m args below meth c H1 locs1 cells slots Q (F0 m (pc + 3) ls rest)) : W p l e R s m args below meth c H locs cells slots Q (F0 m pc ls (v :: .ref (ad x) :: rest)) := by
  obtain ⟨k9, h1, h2⟩ := mp_at ad g hx
  refine va_put M.1.1 M.1.2.1 M.1.2.2.2.2 hin ty0 hty hnm M.1.2.2.2.1 M.2.1 w.1 w.2.1 w.2.2 k9 (h2.trans (by rw [he])) hc k hk (M.1.2.2.2.2 _ hl) (fun _ h => h) hfin (hty k hk) hn hfit hlen hdg (fun H1 locs1 hP hD hS => ?_)
  have e9 := mp_set w.2.1 h1 (.inr (ci, fs.set k v))
  exact kk H1 locs1 ⟨by rw [← e9]; exact hP, by rw [← e9]; exact hD, hS⟩
theorem mx_putF (M : MC p s m args meth c cc Ts own nL D cy A) (w : MO D A s.heap (C, ad, g) H locs) {x : Nat} (hx : x ∈ C) {ci : Nat} {fs : List Value} (he : g x = .inr (ci, fs)) {CN : String} {T : u_T} {N : Nat} (hc : vwCl[ci]? = some (CN, T, N)) (hin : ∀ w ∈ u_ws CN T N, w ∈ Ts) (ty0 : Nat → FieldType) (hty : ∀ k, k < N → parseFieldDescriptor (T k).2.2.1 = some (ty0 k)) (hnm : ∀ a, a < N → ∀ b, b < N → a ≠ b → (T a).2.1 ≠ (T b).2.1) {index : Nat} (k : Nat) (hk : k < N) (hl : Cond.fieldLink own index (T k).1 (T k).2.1 (T k).2.2.1 ∈ Ts) (hfin : (T k).2.2.2 = true) (hmi : meth.name = "<init>") (hdecl : (T k).1 = own) {v : Value} (hn : narrow (ty0 k) v = v) (hfit : fits (ty0 k) v = true) (hlen : k < fs.length) (hdg : decode cc pc = .ok (.putfield index, 3))
    (kk : ∀ (H1 : Heap) (locs1 : List Loc), MO D A s.heap (C, ad, mu g x (.inr (ci, fs.set k v))) H1 locs1 → W p l e R s m args below meth c H1 locs1 cells slots Q (F0 m (pc + 3) ls rest)) : W p l e R s m args below meth c H locs cells slots Q (F0 m pc ls (v :: .ref (ad x) :: rest)) := by
  obtain ⟨k9, h1, h2⟩ := mp_at ad g hx
  refine va_putF M.1.1 M.1.2.1 M.1.2.2.2.2 hin ty0 hty hnm M.1.2.2.2.1 M.2.1 w.1 w.2.1 w.2.2 k9 (h2.trans (by rw [he])) hc k hk (M.1.2.2.2.2 _ hl) (fun _ h => h) hfin hmi hdecl (hty k hk) hn hfit hlen hdg (fun H1 locs1 hP hD hS => ?_)
  have e9 := mp_set w.2.1 h1 (.inr (ci, fs.set k v))
  exact kk H1 locs1 ⟨by rw [← e9]; exact hP, by rw [← e9]; exact hD, hS⟩
theorem mx_iald (M : MC p s m args meth c cc Ts own nL D cy A) (w : MO D A s.heap (C, ad, g) H locs) {x : Nat} (hx : x ∈ C) {n : Nat} {f : Nat → Int32} (he : g x = .inl (cy 0, n, .inl f)) {i : Int32} (hin : vp_in i n) (hdg : decode cc pc = .ok (.iaload, 1))
    (kk : W p l e R s m args below meth c H locs cells slots Q (F0 m (pc + 1) ls (.int (f i.toNatClampNeg) :: rest))) : W p l e R s m args below meth c H locs cells slots Q (F0 m pc ls (.int i :: .ref (ad x) :: rest)) := by
  obtain ⟨k9, h1, h2⟩ := mp_at ad g hx
  exact va_iald M.1.1 M.1.2.1 M.2.1 w.1 k9 0 (h2.trans (by rw [he])) rfl hin hdg kk
theorem mx_zald (M : MC p s m args meth c cc Ts own nL D cy A) (w : MO D A s.heap (C, ad, g) H locs) {x : Nat} (hx : x ∈ C) {n : Nat} {f : Nat → Int32} (he : g x = .inl (cy 1, n, .inl f)) {i : Int32} (hin : vp_in i n) (hdg : decode cc pc = .ok (.baload, 1))
    (kk : W p l e R s m args below meth c H locs cells slots Q (F0 m (pc + 1) ls (.int (f i.toNatClampNeg) :: rest))) : W p l e R s m args below meth c H locs cells slots Q (F0 m pc ls (.int i :: .ref (ad x) :: rest)) := by
  obtain ⟨k9, h1, h2⟩ := mp_at ad g hx
  exact va_zald M.1.1 M.1.2.1 M.2.1 w.1 k9 1 (h2.trans (by rw [he])) rfl hin hdg kk
theorem mx_lald (M : MC p s m args meth c cc Ts own nL D cy A) (w : MO D A s.heap (C, ad, g) H locs) {x : Nat} (hx : x ∈ C) {n : Nat} {f : Nat → Int64} (he : g x = .inl (cy 4, n, .inr (.inl f))) {i : Int32} (hin : vp_in i n) (hdg : decode cc pc = .ok (.laload, 1))
    (kk : W p l e R s m args below meth c H locs cells slots Q (F0 m (pc + 1) ls (.long (f i.toNatClampNeg) :: rest))) : W p l e R s m args below meth c H locs cells slots Q (F0 m pc ls (.int i :: .ref (ad x) :: rest)) := by
  obtain ⟨k9, h1, h2⟩ := mp_at ad g hx
  exact va_lald M.1.1 M.1.2.1 M.2.1 w.1 k9 4 (h2.trans (by rw [he])) rfl hin hdg kk
theorem mx_aldP (M : MC p s m args meth c cc Ts own nL D cy A) (w : MO D A s.heap (C, ad, g) H locs) {x : Nat} (hx : x ∈ C) {n : Nat} {f : Nat → Option Nat} (he : g x = .inl (cy 2, n, .inr (.inr (.inr (.inr f))))) {i : Int32} (hin : vp_in i n) (hdg : decode cc pc = .ok (.aaload, 1))
    (kk : W p l e R s m args below meth c H locs cells slots Q (F0 m (pc + 1) ls (va_rf (f i.toNatClampNeg) :: rest))) : W p l e R s m args below meth c H locs cells slots Q (F0 m pc ls (.int i :: .ref (ad x) :: rest)) := by
  obtain ⟨k9, h1, h2⟩ := mp_at ad g hx
  exact va_aldq M.1.1 M.1.2.1 M.2.1 w.1 k9 2 (h2.trans (by rw [he])) rfl hin hdg kk
theorem mx_aldR (M : MC p s m args meth c cc Ts own nL D cy A) (w : MO D A s.heap (C, ad, g) H locs) {x : Nat} (hx : x ∈ C) {n : Nat} {f : Nat → Option Nat} (he : g x = .inl (cy 3, n, .inr (.inr (.inr (.inr f))))) {i : Int32} (hin : vp_in i n) (hdg : decode cc pc = .ok (.aaload, 1))
    (kk : W p l e R s m args below meth c H locs cells slots Q (F0 m (pc + 1) ls (va_rf (f i.toNatClampNeg) :: rest))) : W p l e R s m args below meth c H locs cells slots Q (F0 m pc ls (.int i :: .ref (ad x) :: rest)) := by
  obtain ⟨k9, h1, h2⟩ := mp_at ad g hx
  exact va_aldq M.1.1 M.1.2.1 M.2.1 w.1 k9 3 (h2.trans (by rw [he])) rfl hin hdg kk
theorem mx_iast (M : MC p s m args meth c cc Ts own nL D cy A) (w : MO D A s.heap (C, ad, g) H locs) {x : Nat} (hx : x ∈ C) {n : Nat} {f : Nat → Int32} (he : g x = .inl (cy 0, n, .inl f)) {i v : Int32} (hin : vp_in i n) (hdg : decode cc pc = .ok (.iastore, 1))
    (kk : ∀ (H1 : Heap) (locs1 : List Loc), MO D A s.heap (C, ad, mu g x (.inl (cy 0, n, .inl (upd f i.toNatClampNeg v)))) H1 locs1 → W p l e R s m args below meth c H1 locs1 cells slots Q (F0 m (pc + 1) ls rest)) : W p l e R s m args below meth c H locs cells slots Q (F0 m pc ls (.int v :: .int i :: .ref (ad x) :: rest)) := by
  obtain ⟨k9, h1, h2⟩ := mp_at ad g hx
  refine va_iast M.1.1 M.1.2.1 M.2.1 w.1 w.2.1 w.2.2 k9 0 (h2.trans (by rw [he])) rfl hin hdg (fun H1 locs1 hP hD hS => ?_)
  have e9 := mp_set w.2.1 h1 (.inl (cy 0, n, .inl (upd f i.toNatClampNeg v)))
  exact kk H1 locs1 ⟨by rw [← e9]; exact hP, by rw [← e9]; exact hD, hS⟩
theorem mx_zast (M : MC p s m args meth c cc Ts own nL D cy A) (w : MO D A s.heap (C, ad, g) H locs) {x : Nat} (hx : x ∈ C) {n : Nat} {f : Nat → Int32} (he : g x = .inl (cy 1, n, .inl f)) {i v : Int32} (hin : vp_in i n) (hdg : decode cc pc = .ok (.bastore, 1))
    (kk : ∀ (H1 : Heap) (locs1 : List Loc), MO D A s.heap (C, ad, mu g x (.inl (cy 1, n, .inl (upd f i.toNatClampNeg (vp_nar .boolean v))))) H1 locs1 → W p l e R s m args below meth c H1 locs1 cells slots Q (F0 m (pc + 1) ls rest)) : W p l e R s m args below meth c H locs cells slots Q (F0 m pc ls (.int v :: .int i :: .ref (ad x) :: rest)) := by
  obtain ⟨k9, h1, h2⟩ := mp_at ad g hx
  refine va_zast M.1.1 M.1.2.1 M.2.1 w.1 w.2.1 w.2.2 k9 1 (h2.trans (by rw [he])) rfl hin hdg (fun H1 locs1 hP hD hS => ?_)
  have e9 := mp_set w.2.1 h1 (.inl (cy 1, n, .inl (upd f i.toNatClampNeg (vp_nar .boolean v))))
  exact kk H1 locs1 ⟨by rw [← e9]; exact hP, by rw [← e9]; exact hD, hS⟩
theorem mx_last (M : MC p s m args meth c cc Ts own nL D cy A) (w : MO D A s.heap (C, ad, g) H locs) {x : Nat} (hx : x ∈ C) {n : Nat} {f : Nat → Int64} (he : g x = .inl (cy 4, n, .inr (.inl f))) {i : Int32} {v : Int64} (hin : vp_in i n) (hdg : decode cc pc = .ok (.lastore, 1))
    (kk : ∀ (H1 : Heap) (locs1 : List Loc), MO D A s.heap (C, ad, mu g x (.inl (cy 4, n, .inr (.inl (vp_updL f i.toNatClampNeg v))))) H1 locs1 → W p l e R s m args below meth c H1 locs1 cells slots Q (F0 m (pc + 1) ls rest)) : W p l e R s m args below meth c H locs cells slots Q (F0 m pc ls (.long v :: .int i :: .ref (ad x) :: rest)) := by
  obtain ⟨k9, h1, h2⟩ := mp_at ad g hx
  refine va_last M.1.1 M.1.2.1 M.2.1 w.1 w.2.1 w.2.2 k9 4 (h2.trans (by rw [he])) rfl hin hdg (fun H1 locs1 hP hD hS => ?_)
  have e9 := mp_set w.2.1 h1 (.inl (cy 4, n, .inr (.inl (vp_updL f i.toNatClampNeg v))))
  exact kk H1 locs1 ⟨by rw [← e9]; exact hP, by rw [← e9]; exact hD, hS⟩
theorem mx_astP (M : MC p s m args meth c cc Ts own nL D cy A) (w : MO D A s.heap (C, ad, g) H locs) {x : Nat} (hx : x ∈ C) {n : Nat} {f : Nat → Option Nat} (he : g x = .inl (cy 2, n, .inr (.inr (.inr (.inr f))))) {y : Nat} (hy : y ∈ C) {vs : List Value} (hv : g y = .inr (1, vs)) {i : Int32} (hin : vp_in i n) (hdg : decode cc pc = .ok (.aastore, 1))
    (kk : ∀ (H1 : Heap) (locs1 : List Loc), MO D A s.heap (C, ad, mu g x (.inl (cy 2, n, .inr (.inr (.inr (.inr (va_up f i.toNatClampNeg (some (ad y)))))))) ) H1 locs1 → W p l e R s m args below meth c H1 locs1 cells slots Q (F0 m (pc + 1) ls rest)) : W p l e R s m args below meth c H locs cells slots Q (F0 m pc ls (.ref (ad y) :: .int i :: .ref (ad x) :: rest)) := by
  obtain ⟨k9, h1, h2⟩ := mp_at ad g hx
  obtain ⟨k8, h3, h4⟩ := mp_at ad g hy
  refine va_astq M.1.1 M.1.2.1 M.2.1 w.1 w.2.1 w.2.2 k9 2 k8 1 (r := (RX1, TX1, 15)) (h2.trans (by rw [he])) rfl (h4.trans (by rw [hv])) rfl hin hdg (fun H1 locs1 hP hD hS => ?_)
  have e9 := mp_set w.2.1 h1 (.inl (cy 2, n, .inr (.inr (.inr (.inr (va_up f i.toNatClampNeg (some (ad y))))))))
  exact kk H1 locs1 ⟨by rw [← e9]; exact hP, by rw [← e9]; exact hD, hS⟩
theorem mx_astR (M : MC p s m args meth c cc Ts own nL D cy A) (w : MO D A s.heap (C, ad, g) H locs) {x : Nat} (hx : x ∈ C) {n : Nat} {f : Nat → Option Nat} (he : g x = .inl (cy 3, n, .inr (.inr (.inr (.inr f))))) {y : Nat} (hy : y ∈ C) {vs : List Value} (hv : g y = .inr (2, vs)) {i : Int32} (hin : vp_in i n) (hdg : decode cc pc = .ok (.aastore, 1))
    (kk : ∀ (H1 : Heap) (locs1 : List Loc), MO D A s.heap (C, ad, mu g x (.inl (cy 3, n, .inr (.inr (.inr (.inr (va_up f i.toNatClampNeg (some (ad y)))))))) ) H1 locs1 → W p l e R s m args below meth c H1 locs1 cells slots Q (F0 m (pc + 1) ls rest)) : W p l e R s m args below meth c H locs cells slots Q (F0 m pc ls (.ref (ad y) :: .int i :: .ref (ad x) :: rest)) := by
  obtain ⟨k9, h1, h2⟩ := mp_at ad g hx
  obtain ⟨k8, h3, h4⟩ := mp_at ad g hy
  refine va_astq M.1.1 M.1.2.1 M.2.1 w.1 w.2.1 w.2.2 k9 3 k8 2 (r := (RX2, TX2, 5)) (h2.trans (by rw [he])) rfl (h4.trans (by rw [hv])) rfl hin hdg (fun H1 locs1 hP hD hS => ?_)
  have e9 := mp_set w.2.1 h1 (.inl (cy 3, n, .inr (.inr (.inr (.inr (va_up f i.toNatClampNeg (some (ad y))))))))
  exact kk H1 locs1 ⟨by rw [← e9]; exact hP, by rw [← e9]; exact hD, hS⟩
theorem mx_alen (M : MC p s m args meth c cc Ts own nL D cy A) (w : MO D A s.heap (C, ad, g) H locs) {x : Nat} (hx : x ∈ C) (j : Nat) {y : vp_A} (he : g x = .inl (cy j, y)) {ty : FieldType} (ht : (ctys cy)[j]? = some (cy j, ty)) {n : Nat} (hn : y.1 = n) (hdg : decode cc pc = .ok (.arraylength, 1))
    (kk : W p l e R s m args below meth c H locs cells slots Q (F0 m (pc + 1) ls (.int (nI n) :: rest))) : W p l e R s m args below meth c H locs cells slots Q (F0 m pc ls (.ref (ad x) :: rest)) := by
  obtain ⟨k9, h1, h2⟩ := mp_at ad g hx
  exact va_alen M.1.1 M.1.2.1 M.2.1 w.1 k9 j (x := y) (h2.trans (by rw [he])) ht (v := nI n) (by rw [hn]; rfl) hdg kk
/-- a new object, at a new code -/
theorem mx_new (M : MC p s m args meth c cc Ts own nL D cy A) (w : MO D A s.heap (C, ad, g) H locs) (x : Nat) (hx : x ∉ C) {ci : Nat} {CN : String} {T : u_T} {N : Nat} (hc : vwCl[ci]? = some (CN, T, N)) (hin : ∀ w ∈ u_ws CN T N, w ∈ Ts) (ty0 : Nat → FieldType) (hty : ∀ k, k < N → parseFieldDescriptor (T k).2.2.1 = some (ty0 k)) {index : Nat} (hcl : Cond.classLink own index CN ∈ Ts) (hinst : Cond.instantiable CN N ∈ Ts) (hini : Cond.initialized CN ∈ Ts) {fs : List Value} (hfs : ∀ j, j < N → defaultValue (ty0 j) = vp_V fs j) (hcells : cells + 1 ≤ R.cells) (hslots : slots + N ≤ R.slots) (hdg : decode cc pc = .ok (.new index, 3))
    (kk : ∀ (ad' : Nat → Nat) (H1 : Heap), (∀ y, y ≠ x → ad' y = ad y) → MO D A s.heap (C ++ [x], ad', mu g x (.inr (ci, fs))) H1 locs → W p l e R s m args below meth c H1 locs (cells + 1) (slots + N) Q (F0 m (pc + 3) ls (.ref (ad' x) :: rest))) : W p l e R s m args below meth c H locs cells slots Q (F0 m pc ls rest) := by
  refine va_new M.1.1 M.1.2.1 M.1.2.2.2.2 hin ty0 hty M.1.2.2.2.1 (M.1.2.2.2.2 _ hcl) (M.1.2.2.2.2 _ hinst) (M.1.2.2.2.2 _ hini) M.2.1 w.1 w.2.1 w.2.2 M.2.2.1 hc hfs hcells hslots hdg (fun q H1 hP hD hS => ?_)
  have e9 := mp_push (ad := ad) (g := g) q (.inr (ci, fs)) hx
  have k9 := kk (mu ad x q) H1 (fun y hy => mu_ne _ _ hy) ⟨by rw [← e9]; exact hP, by rw [← e9]; exact hD, hS⟩
  rw [mu_same] at k9
  exact k9
theorem fc_same {s : State} {nm : String} {a b : ClassId} (h1 : s.vm.findClass nm = some a) (h2 : s.vm.findClass nm = some b) : a = b := Option.some.inj (h1.symm.trans h2)
/-- a new array of ints -/
theorem mx_newI (M : MC p s m args meth c cc Ts own nL D cy A) (w : MO D A s.heap (C, ad, g) H locs) (x : Nat) (hx : x ∉ C) (harr : Cond.arrayClass .int ∈ Ts) {n : Nat} (hn : n < 2 ^ 20) (hcells : cells + 1 ≤ R.cells) (hslots : slots + n ≤ R.slots) (hdg : decode cc pc = .ok (.newarray .int, 2))
    (kk : ∀ (ad' : Nat → Nat) (H1 : Heap), (∀ y, y ≠ x → ad' y = ad y) → MO D A s.heap (C ++ [x], ad', mu g x (.inl (cy 0, n, .inl (fun _ => nI 0)))) H1 locs → W p l e R s m args below meth c H1 locs (cells + 1) (slots + n) Q (F0 m (pc + 2) ls (.ref (ad' x) :: rest))) : W p l e R s m args below meth c H locs cells slots Q (F0 m pc ls (.int (nI n) :: rest)) := by
  refine va_newa (atype := .int) (ty := .int) (N' := n) (a0 := (n, .inl (fun _ => 0))) M.1.1 M.1.2.1 (M.1.2.2.2.2 _ harr) rfl M.2.1 w.1 w.2.1 w.2.2 M.2.2.1 (fun cA => rfl) (nI_pos (by omega)) (nI_clamp (by omega)) (by show n * 4 ≤ _; omega) hcells hslots hdg (fun q cA H1 hK hP hD hS => ?_)
  have hcA : cA = cy 0 := fc_same (s := s) (hK.2 5 (cA, .int) rfl).2 (M.2.1.2 0 (cy 0, .int) rfl).2
  subst hcA
  have e9 := mp_push (ad := ad) (g := g) q (.inl (cy 0, n, .inl (fun _ => nI 0))) hx
  have k9 := kk (mu ad x q) H1 (fun y hy => mu_ne _ _ hy) ⟨by rw [← e9]; exact hP, by rw [← e9]; exact hD, hS⟩
  rw [mu_same] at k9
  exact k9
theorem mx_newZ (M : MC p s m args meth c cc Ts own nL D cy A) (w : MO D A s.heap (C, ad, g) H locs) (x : Nat) (hx : x ∉ C) (harr : Cond.arrayClass .boolean ∈ Ts) {n : Nat} (hn : n < 2 ^ 20) (hcells : cells + 1 ≤ R.cells) (hslots : slots + n ≤ R.slots) (hdg : decode cc pc = .ok (.newarray .boolean, 2))
    (kk : ∀ (ad' : Nat → Nat) (H1 : Heap), (∀ y, y ≠ x → ad' y = ad y) → MO D A s.heap (C ++ [x], ad', mu g x (.inl (cy 1, n, .inl (fun _ => nI 0)))) H1 locs → W p l e R s m args below meth c H1 locs (cells + 1) (slots + n) Q (F0 m (pc + 2) ls (.ref (ad' x) :: rest))) : W p l e R s m args below meth c H locs cells slots Q (F0 m pc ls (.int (nI n) :: rest)) := by
  refine va_newa (atype := .boolean) (ty := .boolean) (N' := n) (a0 := (n, .inl (fun _ => 0))) M.1.1 M.1.2.1 (M.1.2.2.2.2 _ harr) rfl M.2.1 w.1 w.2.1 w.2.2 M.2.2.1 (fun cA => rfl) (nI_pos (by omega)) (nI_clamp (by omega)) (by show n * 1 ≤ _; omega) hcells hslots hdg (fun q cA H1 hK hP hD hS => ?_)
  have hcA : cA = cy 1 := fc_same (s := s) (hK.2 5 (cA, .boolean) rfl).2 (M.2.1.2 1 (cy 1, .boolean) rfl).2
  subst hcA
  have e9 := mp_push (ad := ad) (g := g) q (.inl (cy 1, n, .inl (fun _ => nI 0))) hx
  have k9 := kk (mu ad x q) H1 (fun y hy => mu_ne _ _ hy) ⟨by rw [← e9]; exact hP, by rw [← e9]; exact hD, hS⟩
  rw [mu_same] at k9
  exact k9
theorem mx_newL (M : MC p s m args meth c cc Ts own nL D cy A) (w : MO D A s.heap (C, ad, g) H locs) (x : Nat) (hx : x ∉ C) (harr : Cond.arrayClass .long ∈ Ts) {n : Nat} (hn : n < 2 ^ 20) (hcells : cells + 1 ≤ R.cells) (hslots : slots + n ≤ R.slots) (hdg : decode cc pc = .ok (.newarray .long, 2))
    (kk : ∀ (ad' : Nat → Nat) (H1 : Heap), (∀ y, y ≠ x → ad' y = ad y) → MO D A s.heap (C ++ [x], ad', mu g x (.inl (cy 4, n, .inr (.inl (fun _ => 0))))) H1 locs → W p l e R s m args below meth c H1 locs (cells + 1) (slots + n) Q (F0 m (pc + 2) ls (.ref (ad' x) :: rest))) : W p l e R s m args below meth c H locs cells slots Q (F0 m pc ls (.int (nI n) :: rest)) := by
  refine va_newa (atype := .long) (ty := .long) (N' := n) (a0 := (n, .inr (.inl (fun _ => 0)))) M.1.1 M.1.2.1 (M.1.2.2.2.2 _ harr) rfl M.2.1 w.1 w.2.1 w.2.2 M.2.2.1 (fun cA => rfl) (nI_pos (by omega)) (nI_clamp (by omega)) (by show n * 8 ≤ _; omega) hcells hslots hdg (fun q cA H1 hK hP hD hS => ?_)
  have hcA : cA = cy 4 := fc_same (s := s) (hK.2 5 (cA, .long) rfl).2 (M.2.1.2 4 (cy 4, .long) rfl).2
  subst hcA
  have e9 := mp_push (ad := ad) (g := g) q (.inl (cy 4, n, .inr (.inl (fun _ => 0)))) hx
  have k9 := kk (mu ad x q) H1 (fun y hy => mu_ne _ _ hy) ⟨by rw [← e9]; exact hP, by rw [← e9]; exact hD, hS⟩
  rw [mu_same] at k9
  exact k9
theorem mx_newq (M : MC p s m args meth c cc Ts own nL D cy A) (w : MO D A s.heap (C, ad, g) H locs) (x : Nat) (hx : x ∉ C) (j : Nat) {CN : String} (hj : (ctys cy)[j]? = some (cy j, .object CN)) {index : Nat} (hcl : Cond.classLink own index CN ∈ Ts) (hover : va_AO CN s) {n : Nat} (hn : n < 2 ^ 20) (hcells : cells + 1 ≤ R.cells) (hslots : slots + n ≤ R.slots) (hdg : decode cc pc = .ok (.anewarray index, 3))
    (kk : ∀ (ad' : Nat → Nat) (H1 : Heap), (∀ y, y ≠ x → ad' y = ad y) → MO D A s.heap (C ++ [x], ad', mu g x (.inl (cy j, n, .inr (.inr (.inr (.inr (fun _ => none))))))) H1 locs → W p l e R s m args below meth c H1 locs (cells + 1) (slots + n) Q (F0 m (pc + 3) ls (.ref (ad' x) :: rest))) : W p l e R s m args below meth c H locs cells slots Q (F0 m pc ls (.int (nI n) :: rest)) := by
  refine va_newq (N' := n) M.1.1 M.1.2.1 M.1.2.2.2.1 (M.1.2.2.2.2 _ hcl) hover M.2.1 w.1 w.2.1 w.2.2 M.2.2.1 (nI_pos (by omega)) (nI_clamp (by omega)) (by omega) hcells hslots hdg (fun q cA H1 hK hP hD hS => ?_)
  obtain ⟨_, _, _, _, _, hf1⟩ := (hK.2 5 (cA, .object CN) rfl).2
  obtain ⟨_, _, _, _, _, hf2⟩ := (M.2.1.2 j (cy j, .object CN) hj).2
  have hcA : cA = cy j := fc_same hf1 hf2
  subst hcA
  have e9 := mp_push (ad := ad) (g := g) q (.inl (cy j, n, .inr (.inr (.inr (.inr (fun _ => none)))))) hx
  have k9 := kk (mu ad x q) H1 (fun y hy => mu_ne _ _ hy) ⟨by rw [← e9]; exact hP, by rw [← e9]; exact hD, hS⟩
  rw [mu_same] at k9
  exact k9
end MXR
end
section
/-! ===== MY KIT: starts, ends, calls ===== -/
theorem pm_blind {D : va_G} {cy : Nat → ClassId} {u : WT} {sz : Nat} {as : List Value} : FrameBlind (PreM D cy u sz as) := fun a U g mk q => by
  obtain ⟨q0, ⟨q1, qP, qK, qD⟩, qN⟩ := q
  exact ⟨q0, ⟨q1, qP, va_K.moved (u := U) (U := U.calling g mk a) (Vm.Alike.refl U.vm) qK, qD⟩, NW_same (u := U) (U := U.calling g mk a) rfl qN⟩
/-- what a throw needs of the start: two statics of Throwable, the texts, the words of the tables -/
def THstr : List (Nat × String) := [(30, "right is out of range"), (45, "there are 8 people"), (73, "10 changes for other days are entered"), (81, "there are 40 requests"), (102, "the request is cancelled"), (114, "there are 30 spells"), (119, "points are out of range"), (124, "there are 20 payouts"), (134, "the lots have less than that"), (139, "days are out of range"), (141, "today would be later than 3600"), (176, "no such person"), (179, "no such request"), (181, "day is out of range"), (183, "first or last is out of range"), (185, "hours are out of range")]
def eIA : String := "java/lang/IllegalArgumentException"
def eIS : String := "java/lang/IllegalStateException"
def eIO : String := "java/lang/IndexOutOfBoundsException"
def eUP : List String := ["java/lang/RuntimeException", "java/lang/Exception"]
def THw : List Cond := [.castable eIA eIA, .castable eIS eIS, .castable eIO eIO, .declares (Bundle.initS "java/lang/RuntimeException"), .declares (Bundle.initS "java/lang/Exception"), .declares (Bundle.initS Bundle.tN)]
def TH (A : Nat → Prop) (U : State) (H : Heap) : Prop := vx_Zq Bundle.tN "UNASSIGNED_STACK" Bundle.steD A U H ∧ vx_Zq Bundle.tN "SUPPRESSED_SENTINEL" Bundle.listD A U H ∧ (∀ q ∈ THstr, ∃ sa, vk_R RX3 q.1 q.2 sa U) ∧ ∀ w ∈ THw, va_Nw w U
theorem TH_w_moved {w : Cond} (hw : w ∈ THw) {u U : State} (hvm : u.vm.Alike U.vm) (h : va_Nw w u) : va_Nw w U := by
  simp only [THw, List.mem_cons, List.not_mem_nil, or_false] at hw
  rcases hw with rfl | rfl | rfl | rfl | rfl | rfl
  · exact va_tabs rfl (rfl : (u.setVm U.vm).vm = U.vm) (by rw [Cond.castable_setVm hvm]; exact h)
  · exact va_tabs rfl (rfl : (u.setVm U.vm).vm = U.vm) (by rw [Cond.castable_setVm hvm]; exact h)
  · exact va_tabs rfl (rfl : (u.setVm U.vm).vm = U.vm) (by rw [Cond.castable_setVm hvm]; exact h)
  · exact va_tabs rfl (rfl : (u.setVm U.vm).vm = U.vm) (by rw [Cond.declares_setVm hvm]; exact h)
  · exact va_tabs rfl (rfl : (u.setVm U.vm).vm = U.vm) (by rw [Cond.declares_setVm hvm]; exact h)
  · exact va_tabs rfl (rfl : (u.setVm U.vm).vm = U.vm) (by rw [Cond.declares_setVm hvm]; exact h)
theorem TH_warm {A B : Nat → Prop} {s U : State} {H0 H : Heap} (hW : s.WarmedH U.vm) (hk : ∀ a : Nat, a < H0.size → ¬ A a → H[a]? = H0[a]?) (hAB : ∀ q, B q → A q) (h : TH A s H0) : TH B U H := by
  obtain ⟨h1, h2, h3, h4⟩ := h
  refine ⟨((h1.kept hk).narrow hAB).moved hW.alike, ((h2.kept hk).narrow hAB).moved hW.alike, fun q hq => ?_, fun w hw => TH_w_moved hw hW.alike (h4 w hw)⟩
  obtain ⟨sa, h5⟩ := h3 q hq
  exact ⟨sa, vk_R.warm hW h5⟩
theorem TH_same {A : Nat → Prop} {u U : State} {H : Heap} (hv : u.vm = U.vm) (h : TH A u H) : TH A U H := by
  obtain ⟨h1, h2, h3, h4⟩ := h
  have hal : u.vm.Alike U.vm := by rw [hv]; exact Vm.Alike.refl U.vm
  refine ⟨h1.moved hal, h2.moved hal, fun q hq => ?_, fun w hw => TH_w_moved hw hal (h4 w hw)⟩
  obtain ⟨sa, h5⟩ := h3 q hq
  exact ⟨sa, vk_R.same hv.symm h5⟩
/-- a start of a method that may throw -/
def PreX (D : va_G) (cy : Nat → ClassId) (u : WT) (sz : Nat) (as : List Value) : Array Value → State → Prop := va_Pc as (fun U => ((U.heap.size = sz ∧ WB D cy (fun _ => True) u U) ∧ NW U) ∧ TH (AW u sz) U U.heap)
theorem px_blind {D : va_G} {cy : Nat → ClassId} {u : WT} {sz : Nat} {as : List Value} : FrameBlind (PreX D cy u sz as) := fun a U g mk q => by
  obtain ⟨q0, ⟨⟨q1, qP, qK, qD⟩, qN⟩, qT⟩ := q
  exact ⟨q0, ⟨⟨q1, qP, va_K.moved (u := U) (U := U.calling g mk a) (Vm.Alike.refl U.vm) qK, qD⟩, NW_same (u := U) (U := U.calling g mk a) rfl qN⟩, TH_same (u := U) (U := U.calling g mk a) rfl qT⟩
def XB (D : va_G) (cy : Nat → ClassId) (A : Nat → Prop) : String → String × WT → State → Prop := fun E u t => u.1 = E ∧ WB D cy A u.2 t
section MXS
variable {l : Launch} {y : MethodName} {ws ws' : List Cond} {rm : Room} {Qc : Array Value → State → Outcome → State → Prop} {XC : String → State → State → Prop} {mc ms : Nat} {cc : ByteArray} {maxL : Nat} {ret : Option FieldType} {D : va_G} {cy : Nat → ClassId} {u : WT} {sz : Nat} {as : List Value}
theorem mx_start (hy : plainName y.cls = true) (hw : ws = Cond.code y cc maxL ret :: ws') (has : (lg_sl as).length ≤ maxL)
    (body : ∀ (p : Program) (e : Env) (s : State) (m : MethodId) (args : Array Value) (below : List Frame) (meth : Method) (c : Code), s.heap.size = sz → meth.sig.returnType = ret → meth.name = y.name → MC p s m args meth c cc ws y.cls maxL D cy (AW u sz) → MO D (AW u sz) s.heap u s.heap [] → ∀ ls : Array Slot, lv_has ls maxL (lv_args 0 as) → W p l e rm s m args below meth c s.heap [] 0 0 (MQ below Qc args s mc ms (AW u sz)) (F0 m 0 ls [])) : Met l y ws rm (PreM D cy u sz as) Qc mc ms (AW u sz) := by
  refine Met.ofW (cc := cc) (maxL := maxL) (ret := ret) hy hw ?_
  intro p e s m args below meth c s₁ B hml hv
  obtain ⟨rfl, ⟨hsz, hP, hK, hD0⟩, hN⟩ := hv
  rw [lg_entry_eq]
  exact body p e s m _ below meth c hsz B.returns (name_of_methodNamed B.named B.method).1 ⟨⟨B.exec, B.bytes, hml, findClass_of_methodNamed B.named, atoms_spec (ws := ws) B.pre⟩, hK, fun q h => Or.inr (hsz ▸ h), B.notSynchronized, hN⟩ ⟨hP, hD0.self, va_S.rf⟩ _ (lv_entry as has)
theorem mxx_start (hy : plainName y.cls = true) (hw : ws = Cond.code y cc maxL ret :: ws') (has : (lg_sl as).length ≤ maxL)
    (body : ∀ (p : Program) (e : Env) (s : State) (m : MethodId) (args : Array Value) (below : List Frame) (meth : Method) (c : Code), s.heap.size = sz → meth.sig.returnType = ret → meth.name = y.name → MC p s m args meth c cc ws y.cls maxL D cy (AW u sz) → MO D (AW u sz) s.heap u s.heap [] → TH (AW u sz) s s.heap → (∀ x ∈ c.exceptionTable.toList, False) → ∀ ls : Array Slot, lv_has ls maxL (lv_args 0 as) → W p l e rm s m args below meth c s.heap [] 0 0 (vx_MQ below Qc XC args s mc ms (AW u sz)) (F0 m 0 ls [])) : vx_Met l y ws rm (PreX D cy u sz as) Qc XC mc ms (AW u sz) := by
  refine vx_ofW (cc := cc) (maxL := maxL) (ret := ret) hy hw ?_
  intro p e s m args below meth c s₁ B hml ht hv
  obtain ⟨rfl, ⟨⟨hsz, hP, hK, hD0⟩, hN⟩, hT⟩ := hv
  rw [lg_entry_eq]
  exact body p e s m _ below meth c hsz B.returns (name_of_methodNamed B.named B.method).1 ⟨⟨B.exec, B.bytes, hml, findClass_of_methodNamed B.named, atoms_spec (ws := ws) B.pre⟩, hK, fun q h => Or.inr (hsz ▸ h), B.notSynchronized, hN⟩ ⟨hP, hD0.self, va_S.rf⟩ hT ht _ (lv_entry as has)
end MXS
section MXC
variable {p : Program} {l : Launch} {e : Env} {R : Room} {s : State} {m : MethodId} {args : Array Value} {below : List Frame} {meth : Method} {c : Code} {H : Heap} {locs : List Loc} {cells slots : Nat} {Q : State → Prop}
variable {cc : ByteArray} {pc : Nat} {ls : Array Slot} {rest st0 : List Value} {D : va_G} {cy : Nat → ClassId} {A : Nat → Prop} {Ts : List Cond} {own : String} {nL : Nat} {u : WT}
variable {y : MethodName} {bytes : ByteArray} {maxL mc ms n index : Nat} {ret : Option FieldType} {ws : List Cond} {rm : Room} {CN : String} {b : Addr} {As : List Value} {XC : String → State → State → Prop}
theorem mo_free (M : MC p s m args meth c cc Ts own nL D cy A) (w : MO D A s.heap u H locs) : ∀ q, AW u H.size q → A q := fun q h => h.elim (fun ⟨k, e9, h9⟩ => w.2.1.2 k (q, e9) h9) (fun h9 => M.2.2.1 q (Nat.le_trans w.2.2.1 h9))
theorem pm_of (M : MC p s m args meth c cc Ts own nL D cy A) (w : MO D A s.heap u H locs) (as : List Value) : ∀ U : State, U.heap = H → s.WarmedH U.vm → PreM D cy u H.size as as.toArray U := fun U hU hW => ⟨rfl, ⟨by rw [hU], by rw [hU]; exact w.1, va_K.moved hW.alike M.2.1, w.2.1.weaken (fun _ _ _ _ => trivial)⟩, NW_warm hW M.2.2.2.2⟩
theorem px_of (M : MC p s m args meth c cc Ts own nL D cy A) (w : MO D A s.heap u H locs) (T : TH A s s.heap) (as : List Value) : ∀ U : State, U.heap = H → s.WarmedH U.vm → PreX D cy u H.size as as.toArray U := fun U hU hW => ⟨rfl, ⟨⟨by rw [hU], by rw [hU]; exact w.1, va_K.moved hW.alike M.2.1, w.2.1.weaken (fun _ _ _ _ => trivial)⟩, NW_warm hW M.2.2.2.2⟩, by rw [hU]; exact TH_warm hW w.2.2.2.1 (mo_free M w) T⟩
theorem mo_call {u1 : WT} {t : State} {H1 : Heap} {locs1 : List Loc} (M : MC p s m args meth c cc Ts own nL D cy A) (w : MO D A s.heap u H locs) (ht : t.heap = H1) (hB : WB D cy (AW u H.size) u1 t) (hS : va_S A s.heap H1 locs1) : MO D A s.heap u1 H1 locs1 := ⟨by rw [← ht]; exact hB.1, hB.2.2.weaken (fun _ _ _ h => mo_free M w _ h), hS⟩
/-- the receiver of a call -/
theorem mo_rec {C : List Nat} {ad : Nat → Nat} {g : Nat → va_E} (M : MC p s m args meth c cc Ts own nL D cy A) (w : MO D A s.heap (C, ad, g) H locs) {x : Nat} (hx : x ∈ C) {ci : Nat} {fs : List Value} (he : g x = .inr (ci, fs)) {T : u_T} {N : Nat} (hc : vwCl[ci]? = some (CN, T, N)) : ∃ cell : Cell, H[ad x]? = some cell ∧ cell.vm.isStatics = false ∧ s.vm.findClass CN = some cell.cls := by
  obtain ⟨k9, h1, h2⟩ := mp_at ad g hx
  exact va_recv M.2.1 w.1 hc (h2.trans (by rw [he]))
-- calls of methods that return
theorem mx_Vi {post : Int32 → WT → Prop} (M : MC p s m args meth c cc Ts own nL D cy A) (w : MO D A s.heap u H locs) (hM : Met l y ws rm (PreM D cy u H.size (.ref b :: As)) (va_Qi post (WB D cy (AW u H.size)) (AW u H.size)) mc ms (AW u H.size)) (cw : CallW R s args own CN index y bytes maxL ret ws rm mc ms n) (hrec : ∃ cell : Cell, H[b]? = some cell ∧ cell.vm.isStatics = false ∧ s.vm.findClass CN = some cell.cls) (hn : As.length = n) (hls : ls.size = nL) (hst : st0 = As.reverse ++ .ref b :: rest) (hrm : (rest.map fun v => v.category).sum ≤ 8) (hdg : decode cc pc = .ok (.invokevirtual index, 3)) (hf : cells + mc ≤ R.cells ∧ slots + ms ≤ R.slots)
    (kk : ∀ (r : Int32) (u1 : WT) (H1 : Heap) (locs1 : List Loc), post r u1 → MO D A s.heap u1 H1 locs1 → W p l e R s m args below meth c H1 locs1 (cells + mc) (slots + ms) Q (F0 m (pc + 3) ls (.int r :: rest))) : W p l e R s m args below meth c H locs cells slots Q (F0 m pc ls st0) :=
  va_calli (va_runV (As := As) (rest := rest) M.1 hM cw ⟨pm_blind, hrec, pm_of M w _⟩ rfl hn hls hst (lv_room hrm) hdg hf) w.2.2 (fun q _ h => mo_free M w q h) (mo_free M w) (fun r u1 t H1 locs1 ht hvm hp hB hz hk hS => kk r u1 H1 locs1 hp (mo_call M w ht hB hS))
theorem mx_Vv {post : WT → Prop} (M : MC p s m args meth c cc Ts own nL D cy A) (w : MO D A s.heap u H locs) (hM : Met l y ws rm (PreM D cy u H.size (.ref b :: As)) (va_Qv post (WB D cy (AW u H.size)) (AW u H.size)) mc ms (AW u H.size)) (cw : CallW R s args own CN index y bytes maxL ret ws rm mc ms n) (hrec : ∃ cell : Cell, H[b]? = some cell ∧ cell.vm.isStatics = false ∧ s.vm.findClass CN = some cell.cls) (hn : As.length = n) (hls : ls.size = nL) (hst : st0 = As.reverse ++ .ref b :: rest) (hrm : (rest.map fun v => v.category).sum ≤ 8) (hdg : decode cc pc = .ok (.invokevirtual index, 3)) (hf : cells + mc ≤ R.cells ∧ slots + ms ≤ R.slots)
    (kk : ∀ (u1 : WT) (H1 : Heap) (locs1 : List Loc), post u1 → MO D A s.heap u1 H1 locs1 → W p l e R s m args below meth c H1 locs1 (cells + mc) (slots + ms) Q (F0 m (pc + 3) ls rest)) : W p l e R s m args below meth c H locs cells slots Q (F0 m pc ls st0) :=
  va_callv (va_runV (As := As) (rest := rest) M.1 hM cw ⟨pm_blind, hrec, pm_of M w _⟩ rfl hn hls hst (lv_room hrm) hdg hf) w.2.2 (fun q _ h => mo_free M w q h) (mo_free M w) (fun u1 t H1 locs1 ht hvm hp hB hz hk hS => kk u1 H1 locs1 hp (mo_call M w ht hB hS))
theorem mx_Si {post : Int32 → WT → Prop} (M : MC p s m args meth c cc Ts own nL D cy A) (w : MO D A s.heap u H locs) (hM : Met l y ws rm (PreM D cy u H.size As) (va_Qi post (WB D cy (AW u H.size)) (AW u H.size)) mc ms (AW u H.size)) (cw : CallB R s args own index y bytes maxL ret ws rm mc ms n ∧ (Cond.static y).before args s = true) (hn : As.length = n) (hls : ls.size = nL) (hst : st0 = As.reverse ++ rest) (hrm : (rest.map fun v => v.category).sum ≤ 8) (hdg : decode cc pc = .ok (.invokestatic index, 3)) (hf : cells + mc ≤ R.cells ∧ slots + ms ≤ R.slots)
    (kk : ∀ (r : Int32) (u1 : WT) (H1 : Heap) (locs1 : List Loc), post r u1 → MO D A s.heap u1 H1 locs1 → W p l e R s m args below meth c H1 locs1 (cells + mc) (slots + ms) Q (F0 m (pc + 3) ls (.int r :: rest))) : W p l e R s m args below meth c H locs cells slots Q (F0 m pc ls st0) :=
  va_calli (va_runS (As := As) (rest := rest) M.1 hM cw ⟨pm_blind, pm_of M w _⟩ rfl hn hls hst (lv_room hrm) hdg hf) w.2.2 (fun q _ h => mo_free M w q h) (mo_free M w) (fun r u1 t H1 locs1 ht hvm hp hB hz hk hS => kk r u1 H1 locs1 hp (mo_call M w ht hB hS))
theorem mx_Iv {post : WT → Prop} (M : MC p s m args meth c cc Ts own nL D cy A) (w : MO D A s.heap u H locs) (hM : Met l y ws rm (PreM D cy u H.size (.ref b :: As)) (va_Qv post (WB D cy (AW u H.size)) (AW u H.size)) mc ms (AW u H.size)) (cw : CallB R s args own index y bytes maxL none ws rm mc ms n ∧ y.name = "<init>" ∧ (Cond.instanceMethod y).before args s = true) (hn : As.length = n) (hls : ls.size = nL) (hst : st0 = As.reverse ++ .ref b :: rest) (hrm : (rest.map fun v => v.category).sum ≤ 8) (hdg : decode cc pc = .ok (.invokespecial index, 3)) (hf : cells + mc ≤ R.cells ∧ slots + ms ≤ R.slots)
    (kk : ∀ (u1 : WT) (H1 : Heap) (locs1 : List Loc), post u1 → MO D A s.heap u1 H1 locs1 → W p l e R s m args below meth c H1 locs1 (cells + mc) (slots + ms) Q (F0 m (pc + 3) ls rest)) : W p l e R s m args below meth c H locs cells slots Q (F0 m pc ls st0) :=
  va_callv (va_runI (As := As) (rest := rest) M.1 hM cw ⟨pm_blind, pm_of M w _⟩ rfl hn hls hst (lv_room hrm) hdg hf) w.2.2 (fun q _ h => mo_free M w q h) (mo_free M w) (fun u1 t H1 locs1 ht hvm hp hB hz hk hS => kk u1 H1 locs1 hp (mo_call M w ht hB hS))
theorem mx_INv {host : String} {post : WT → Prop} (M : MC p s m args meth c cc Ts own nL D cy A) (w : MO D A s.heap u H locs) (hM : Met l y ws rm (PreM D cy u H.size (.ref b :: As)) (va_Qv post (WB D cy (AW u H.size)) (AW u H.size)) mc ms (AW u H.size)) (cw : va_CN R s args own index y host bytes maxL none ws rm mc ms n ∧ y.name = "<init>" ∧ (Cond.instanceMethod y).before args s = true) (hn : As.length = n) (hls : ls.size = nL) (hst : st0 = As.reverse ++ .ref b :: rest) (hrm : (rest.map fun v => v.category).sum ≤ 8) (hdg : decode cc pc = .ok (.invokespecial index, 3)) (hf : cells + mc ≤ R.cells ∧ slots + ms ≤ R.slots)
    (kk : ∀ (u1 : WT) (H1 : Heap) (locs1 : List Loc), post u1 → MO D A s.heap u1 H1 locs1 → W p l e R s m args below meth c H1 locs1 (cells + mc) (slots + ms) Q (F0 m (pc + 3) ls rest)) : W p l e R s m args below meth c H locs cells slots Q (F0 m pc ls st0) :=
  va_callv (va_runIN (As := As) (rest := rest) M.1 hM cw ⟨pm_blind, pm_of M w _⟩ rfl hn hls hst (lv_room hrm) hdg hf) w.2.2 (fun q _ h => mo_free M w q h) (mo_free M w) (fun u1 t H1 locs1 ht hvm hp hB hz hk hS => kk u1 H1 locs1 hp (mo_call M w ht hB hS))
theorem mx_SNi {host : String} {post : Int32 → WT → Prop} (M : MC p s m args meth c cc Ts own nL D cy A) (w : MO D A s.heap u H locs) (hM : Met l y ws rm (PreM D cy u H.size As) (va_Qi post (WB D cy (AW u H.size)) (AW u H.size)) mc ms (AW u H.size)) (cw : va_CN R s args own index y host bytes maxL ret ws rm mc ms n ∧ (Cond.static y).before args s = true ∧ True) (hn : As.length = n) (hls : ls.size = nL) (hst : st0 = As.reverse ++ rest) (hrm : (rest.map fun v => v.category).sum ≤ 8) (hdg : decode cc pc = .ok (.invokestatic index, 3)) (hf : cells + mc ≤ R.cells ∧ slots + ms ≤ R.slots)
    (kk : ∀ (r : Int32) (u1 : WT) (H1 : Heap) (locs1 : List Loc), post r u1 → MO D A s.heap u1 H1 locs1 → W p l e R s m args below meth c H1 locs1 (cells + mc) (slots + ms) Q (F0 m (pc + 3) ls (.int r :: rest))) : W p l e R s m args below meth c H locs cells slots Q (F0 m pc ls st0) :=
  va_calli (va_runSN (As := As) (rest := rest) M.1 hM cw ⟨pm_blind, pm_of M w _⟩ rfl hn hls hst (lv_room hrm) hdg hf) w.2.2 (fun q _ h => mo_free M w q h) (mo_free M w) (fun r u1 t H1 locs1 ht hvm hp hB hz hk hS => kk r u1 H1 locs1 hp (mo_call M w ht hB hS))
-- ends of methods that return
theorem mx_iret {post : Int32 → WT → Prop} (M : MC p s m args meth c cc Ts own nL D cy A) (w : MO D A s.heap u H locs) (hr : meth.sig.returnType = some .int) {v : Int32} (hp : post v u) (hc : cells ≤ mc) (hs : slots ≤ ms) (hdg : decode cc pc = .ok (.ireturn, 1)) : W p l e R s m args below meth c H locs cells slots (MQ below (va_Qi post (WB D cy A) A) args s mc ms A) (F0 m pc ls [.int v]) := by
  refine W.widen hc hs ?_
  exact W.iret M.1.1 M.1.2.1 hr (fun t ht hW => ⟨⟨v, u, rfl, hp, by rw [ht]; exact w.1, va_K.moved hW.alike M.2.1, w.2.1⟩, w.2.2.F ht⟩) w.2.2.2.2 hdg M.2.2.2.1
theorem mx_zret {post : Int32 → WT → Prop} (M : MC p s m args meth c cc Ts own nL D cy A) (w : MO D A s.heap u H locs) (hr : meth.sig.returnType = some .boolean) {v : Int32} (hv : v = 0 ∨ v = 1) (hp : post v u) (hc : cells ≤ mc) (hs : slots ≤ ms) (hdg : decode cc pc = .ok (.ireturn, 1)) : W p l e R s m args below meth c H locs cells slots (MQ below (va_Qi post (WB D cy A) A) args s mc ms A) (F0 m pc ls [.int v]) := by
  refine W.widen hc hs ?_
  exact W.zret M.1.1 M.1.2.1 hr (by rcases hv with rfl | rfl <;> rfl) (fun t ht hW => ⟨⟨v, u, rfl, hp, by rw [ht]; exact w.1, va_K.moved hW.alike M.2.1, w.2.1⟩, w.2.2.F ht⟩) w.2.2.2.2 hdg M.2.2.2.1
theorem mx_vret {post : WT → Prop} (M : MC p s m args meth c cc Ts own nL D cy A) (w : MO D A s.heap u H locs) (hr : meth.sig.returnType = none) (hp : post u) (hc : cells ≤ mc) (hs : slots ≤ ms) (hdg : decode cc pc = .ok (.return_, 1)) : W p l e R s m args below meth c H locs cells slots (MQ below (va_Qv post (WB D cy A) A) args s mc ms A) (F0 m pc ls []) := by
  refine W.widen hc hs ?_
  exact W.vret M.1.1 M.1.2.1 hr (fun t ht hW => ⟨⟨u, rfl, hp, by rw [ht]; exact w.1, va_K.moved hW.alike M.2.1, w.2.1⟩, w.2.2.F ht⟩) w.2.2.2.2 hdg M.2.2.2.1
theorem mx_aret {rt : FieldType} {post : WT → Prop} {AD : Nat → WT → Prop} (M : MC p s m args meth c cc Ts own nL D cy A) (w : MO D A s.heap u H locs) (hr : meth.sig.returnType = some rt) (hrt : (∃ n, rt = .object n) ∨ ∃ t, rt = .array t) {a : Nat} (hp : post u) (ha : AD a u) (hc : cells ≤ mc) (hs : slots ≤ ms) (hdg : decode cc pc = .ok (.areturn, 1)) : W p l e R s m args below meth c H locs cells slots (MQ below (va_Qr post (fun u a t => AD a u ∧ WB D cy A u t) A) args s mc ms A) (F0 m pc ls [.ref a]) := by
  refine W.widen hc hs ?_
  exact W.aret M.1.1 M.1.2.1 hr hrt (Or.inr ⟨a, rfl⟩) (fun t ht hW => ⟨⟨u, a, rfl, hp, ha, by rw [ht]; exact w.1, va_K.moved hW.alike M.2.1, w.2.1⟩, w.2.2.F ht⟩) w.2.2.2.2 hdg M.2.2.2.1
-- throws
theorem TH_hat {L : List Cond} (M : MC p s m args meth c cc Ts own nL D cy A) (T : TH A s s.heap) (h1 : ∀ w ∈ L.filter goodWord, w ∈ Ts) (h2 : ∀ w ∈ L.filter (fun w => !goodWord w), w ∈ THw) : ∀ w ∈ L, w.before args s = true :=
  vx_hat (B := THw) (fun w hw => M.1.2.2.2.2 w (h1 w hw)) h2 (fun w hw => va_Nw.use (by
    simp only [THw, List.mem_cons, List.not_mem_nil, or_false] at hw
    rcases hw with rfl | rfl | rfl | rfl | rfl | rfl <;> rfl) (T.2.2.2 w hw))
theorem mx_throw {Qc : Array Value → State → Outcome → State → Prop} {px : String × WT → Prop} (M : MC p s m args meth c cc Ts own nL D cy A) (w : MO D A s.heap u H locs) (T : TH A s s.heap) (hl : l.stackTraces = false) (hx : ∀ x ∈ c.exceptionTable.toList, False) {cls text : String} {ik is ic : Nat} (hcls : Bundle.fit cls = true) (hk : Cond.classLink own ik cls ∈ Ts) (hini : Cond.initialized cls ∈ Ts) (hstr : (is, text) ∈ THstr) (hown : own = RX3) (h1 : ∀ w ∈ (vx_atS own ic cls eUP).filter goodWord, w ∈ Ts) (h2 : ∀ w ∈ (vx_atS own ic cls eUP).filter (fun w => !goodWord w), w ∈ THw) (hgood : ∀ w ∈ Cond.classLink own ik cls :: Cond.initialized cls :: vx_atS own ic cls eUP, vx_ot w = true) (hls : ls.size = nL)
    (d0 : decode cc pc = .ok (.new ik, 3)) (d3 : decode cc (pc + 3) = .ok (.dup, 1)) (d4 : decode cc (pc + 4) = .ok (.ldc is, 2)) (d6 : decode cc (pc + 6) = .ok (.invokespecial ic, 3)) (d9 : decode cc (pc + 9) = .ok (.athrow, 1))
    (hRf : 5 < R.frames) (hRl : (rest.map fun v => v.category).sum + 82 ≤ R.locals) (hRc : cells + 1 ≤ R.cells) (hRs : slots + 6 ≤ R.slots) (hp : px (cls, u)) (hc : cells + 1 ≤ mc) (hs : slots + 6 ≤ ms) :
    W p l e R s m args below meth c H locs cells slots (vx_MQ below Qc (vx_X px (XB D cy A) A) args s mc ms A) (F0 m pc ls rest) := by
  subst hown
  obtain ⟨sa, hsa⟩ := T.2.2.1 _ hstr
  exact vx_throwS M.1.1 M.1.2.1 hl (names := eUP) M.1.2.2.2.1 hcls (by decide +kernel) (M.1.2.2.2.2 _ hk) (M.1.2.2.2.2 _ hini) hsa (TH_hat M T h1 h2) hgood T.1 T.2.1 w.2.2 (hls.trans M.1.2.2.1.symm) d0 d3 d4 d6 d9 (fun x h => (hx x h).elim) hRf hRl hRc hRs M.2.2.2.1
    (fun t hvm hz hq => ⟨(cls, u), hp, ⟨rfl, w.1.kept (fun k q hk => hq q.1 (w.1 k q hk).lt), va_K.moved hvm M.2.1, w.2.1⟩, Nat.le_trans w.2.2.1 hz, fun q h1 h2 => (hq q (Nat.lt_of_lt_of_le h1 w.2.2.1)).trans (w.2.2.2.1 q h1 h2)⟩) w.2.2.2.2 hc hs
/-- a throw of a callee goes on -/
theorem mx_out {Qc : Array Value → State → Outcome → State → Prop} {px : String × WT → Prop} {mc0 ms0 : Nat} (M : MC p s m args meth c cc Ts own nL D cy A) (w : MO D A s.heap u H locs) (hx : ∀ x ∈ c.exceptionTable.toList, False) {E : String} {ce : Cell} {q9 : Addr} (hcell : H[q9]? = some ce) (hv : ce.vm = .none) (hcl : s.vm.findClass E = some ce.cls) (hp : px (E, u)) (hc : cells ≤ mc0) (hs : slots ≤ ms0) : vx_W p l e R s m args below meth c H locs cells slots (vx_MQ below Qc (vx_X px (XB D cy A) A) args s mc0 ms0 A) (F0 m pc ls rest) q9 :=
  vx_out (fun x h => (hx x h).elim) M.2.2.2.1 hcell hv hcl (fun t ht hvm => ⟨(E, u), hp, ⟨rfl, by rw [ht]; exact w.1, va_K.moved hvm M.2.1, w.2.1⟩, w.2.2.F ht⟩) w.2.2.2.2 hc hs
-- calls of methods that may throw, from a method that doesn't catch
theorem mxx_Vi {post : Int32 → WT → Prop} {py px : String × WT → Prop} {Qc : Array Value → State → Outcome → State → Prop} {mc0 ms0 : Nat} (M : MC p s m args meth c cc Ts own nL D cy A) (w : MO D A s.heap u H locs) (T : TH A s s.heap) (hx : ∀ x ∈ c.exceptionTable.toList, False) (hM : vx_Met l y ws rm (PreX D cy u H.size (.ref b :: As)) (va_Qi post (WB D cy (AW u H.size)) (AW u H.size)) (vx_X py (XB D cy (AW u H.size)) (AW u H.size)) mc ms (AW u H.size)) (cw : CallW R s args own CN index y bytes maxL ret ws rm mc ms n) (hrec : ∃ cell : Cell, H[b]? = some cell ∧ cell.vm.isStatics = false ∧ s.vm.findClass CN = some cell.cls) (hn : As.length = n) (hls : ls.size = nL) (hst : st0 = As.reverse ++ .ref b :: rest) (hrm : (rest.map fun v => v.category).sum ≤ 8) (hdg : decode cc pc = .ok (.invokevirtual index, 3)) (hf : cells + mc ≤ R.cells ∧ slots + ms ≤ R.slots) (hf0 : cells + mc ≤ mc0 ∧ slots + ms ≤ ms0)
    (kx : ∀ (E : String) (u1 : WT), py (E, u1) → px (E, u1))
    (kk : ∀ (r : Int32) (u1 : WT) (H1 : Heap) (locs1 : List Loc), post r u1 → MO D A s.heap u1 H1 locs1 → W p l e R s m args below meth c H1 locs1 (cells + mc) (slots + ms) (vx_MQ below Qc (vx_X px (XB D cy A) A) args s mc0 ms0 A) (F0 m (pc + 3) ls (.int r :: rest))) : W p l e R s m args below meth c H locs cells slots (vx_MQ below Qc (vx_X px (XB D cy A) A) args s mc0 ms0 A) (F0 m pc ls st0) :=
  vx_calli (vx_runV (As := As) (rest := rest) M.1 hM cw ⟨px_blind, hrec, px_of M w T _⟩ rfl hn hls hst (lv_room hrm) hdg hf) w.2.2 (fun q _ h => mo_free M w q h) (mo_free M w) (fun q _ h => mo_free M w q h)
    (fun E ce q9 u1 t H1 locs1 ht hvm hp hB hz hk hS hce hcv hcl => by
      obtain ⟨E1, u2⟩ := u1
      obtain ⟨rfl, hB⟩ := hB
      exact mx_out M (mo_call M w ht hB hS) hx hce hcv hcl (kx _ _ hp) hf0.1 hf0.2)
    (fun r u1 t H1 locs1 ht hvm hp hB hz hk hS => kk r u1 H1 locs1 hp (mo_call M w ht hB hS))
theorem mxx_Sv {post : WT → Prop} {py px : String × WT → Prop} {Qc : Array Value → State → Outcome → State → Prop} {mc0 ms0 : Nat} (M : MC p s m args meth c cc Ts own nL D cy A) (w : MO D A s.heap u H locs) (T : TH A s s.heap) (hx : ∀ x ∈ c.exceptionTable.toList, False) (hM : vx_Met l y ws rm (PreX D cy u H.size As) (va_Qv post (WB D cy (AW u H.size)) (AW u H.size)) (vx_X py (XB D cy (AW u H.size)) (AW u H.size)) mc ms (AW u H.size)) (cw : CallB R s args own index y bytes maxL ret ws rm mc ms n ∧ (Cond.static y).before args s = true) (hn : As.length = n) (hls : ls.size = nL) (hst : st0 = As.reverse ++ rest) (hrm : (rest.map fun v => v.category).sum ≤ 8) (hdg : decode cc pc = .ok (.invokestatic index, 3)) (hf : cells + mc ≤ R.cells ∧ slots + ms ≤ R.slots) (hf0 : cells + mc ≤ mc0 ∧ slots + ms ≤ ms0)
    (kx : ∀ (E : String) (u1 : WT), py (E, u1) → px (E, u1))
    (kk : ∀ (u1 : WT) (H1 : Heap) (locs1 : List Loc), post u1 → MO D A s.heap u1 H1 locs1 → W p l e R s m args below meth c H1 locs1 (cells + mc) (slots + ms) (vx_MQ below Qc (vx_X px (XB D cy A) A) args s mc0 ms0 A) (F0 m (pc + 3) ls rest)) : W p l e R s m args below meth c H locs cells slots (vx_MQ below Qc (vx_X px (XB D cy A) A) args s mc0 ms0 A) (F0 m pc ls st0) :=
  vx_callv (vx_runS (As := As) (rest := rest) M.1 hM cw ⟨px_blind, px_of M w T _⟩ rfl hn hls hst (lv_room hrm) hdg hf) w.2.2 (fun q _ h => mo_free M w q h) (mo_free M w) (fun q _ h => mo_free M w q h)
    (fun E ce q9 u1 t H1 locs1 ht hvm hp hB hz hk hS hce hcv hcl => by
      obtain ⟨E1, u2⟩ := u1
      obtain ⟨rfl, hB⟩ := hB
      exact mx_out M (mo_call M w ht hB hS) hx hce hcv hcl (kx _ _ hp) hf0.1 hf0.2)
    (fun u1 t H1 locs1 ht hvm hp hB hz hk hS => kk u1 H1 locs1 hp (mo_call M w ht hB hS))
theorem vx_callr9 {S SX : Type} {A0 A1 : Nat → Prop} {H0 : Heap} {free : Addr → Prop} {a : Array Value} {post : S → Prop} {px : SX → Prop} {B : S → Nat → State → Prop} {BX : String → SX → State → Prop} {AX : Nat → Prop} (hr : vx_Run p l e R s m args below meth c H locs cells slots mc ms (F0 m pc ls st0) rest (va_Qr post B A1 a) (vx_X px BX AX) free) (hS : va_S A0 H0 H locs) (hA : ∀ q, q < H.size → A1 q → A0 q) (hf : ∀ q, free q → A0 q) (hAX : ∀ q, q < H.size → AX q → A0 q)
    (kx : ∀ (E : String) (ce : Cell) (q9 : Addr) (u : SX) (t : State) (H1 : Heap) (locs1 : List Loc), t.heap = H1 → s.vm.Alike t.vm → px u → BX E u t → H.size ≤ H1.size → (∀ q : Nat, q < H.size → ¬ AX q → H1[q]? = H[q]?) → va_S A0 H0 H1 locs1 → H1[q9]? = some ce → ce.vm = .none → s.vm.findClass E = some ce.cls → vx_W p l e R s m args below meth c H1 locs1 (cells + mc) (slots + ms) Q (F0 m pc ls rest) q9)
    (kk : ∀ (u : S) (ra : Nat) (t : State) (H1 : Heap) (locs1 : List Loc), t.heap = H1 → s.vm.Alike t.vm → post u → B u ra t → H.size ≤ H1.size → (∀ q : Nat, q < H.size → ¬ A1 q → H1[q]? = H[q]?) → va_S A0 H0 H1 locs1 → W p l e R s m args below meth c H1 locs1 (cells + mc) (slots + ms) Q (F0 m (pc + 3) ls (.ref ra :: rest))) : W p l e R s m args below meth c H locs cells slots Q (F0 m pc ls st0) := by
  intro T hT X
  rcases hr T hT X with ⟨v, st₀, t, T', L, h0, X', hL, e1, e2, ⟨⟨u, ra, hv, hp, hb⟩, hF⟩, st⟩ | ⟨q, st₀, t, T', L, E, ce, h0, X', hL, e1, e2, ⟨u, hp, hb, hF⟩, hce, hcv, hcl, st⟩
  · cases hv
    obtain ⟨k1, k2, k3⟩ := vx_keep h0 e1 hS hA hf hL hF
    obtain ⟨t2, a1, b1⟩ := kk u ra t T'.heap (locs ++ L) e1.symm (by rw [← e2]; exact X'.warmed.alike) hp hb k1 k2 k3 T' rfl X'
    exact ⟨t2, st t2 a1, b1⟩
  · obtain ⟨k1, k2, k3⟩ := vx_keep h0 e1 hS hAX hf hL hF
    obtain ⟨t2, a1, b1⟩ := kx E ce q u t T'.heap (locs ++ L) e1.symm (by rw [← e2]; exact X'.warmed.alike) hp hb k1 k2 k3 (by rw [e1]; exact hce) hcv hcl T' rfl X'
    exact ⟨t2, st.trans a1, b1⟩
theorem mxx_Vr {post : WT → Prop} {AD : Nat → WT → Prop} {py px : String × WT → Prop} {Qc : Array Value → State → Outcome → State → Prop} {mc0 ms0 : Nat} (M : MC p s m args meth c cc Ts own nL D cy A) (w : MO D A s.heap u H locs) (T : TH A s s.heap) (hx : ∀ x ∈ c.exceptionTable.toList, False) (hM : vx_Met l y ws rm (PreX D cy u H.size (.ref b :: As)) (va_Qr post (fun u9 a9 t9 => AD a9 u9 ∧ WB D cy (AW u H.size) u9 t9) (AW u H.size)) (vx_X py (XB D cy (AW u H.size)) (AW u H.size)) mc ms (AW u H.size)) (cw : CallW R s args own CN index y bytes maxL ret ws rm mc ms n) (hrec : ∃ cell : Cell, H[b]? = some cell ∧ cell.vm.isStatics = false ∧ s.vm.findClass CN = some cell.cls) (hn : As.length = n) (hls : ls.size = nL) (hst : st0 = As.reverse ++ .ref b :: rest) (hrm : (rest.map fun v => v.category).sum ≤ 8) (hdg : decode cc pc = .ok (.invokevirtual index, 3)) (hf : cells + mc ≤ R.cells ∧ slots + ms ≤ R.slots) (hf0 : cells + mc ≤ mc0 ∧ slots + ms ≤ ms0)
    (kx : ∀ (E : String) (u1 : WT), py (E, u1) → px (E, u1))
    (kk : ∀ (ra : Nat) (u1 : WT) (H1 : Heap) (locs1 : List Loc), post u1 → AD ra u1 → MO D A s.heap u1 H1 locs1 → W p l e R s m args below meth c H1 locs1 (cells + mc) (slots + ms) (vx_MQ below Qc (vx_X px (XB D cy A) A) args s mc0 ms0 A) (F0 m (pc + 3) ls (.ref ra :: rest))) : W p l e R s m args below meth c H locs cells slots (vx_MQ below Qc (vx_X px (XB D cy A) A) args s mc0 ms0 A) (F0 m pc ls st0) :=
  vx_callr9 (vx_runV (As := As) (rest := rest) M.1 hM cw ⟨px_blind, hrec, px_of M w T _⟩ rfl hn hls hst (lv_room hrm) hdg hf) w.2.2 (fun q _ h => mo_free M w q h) (mo_free M w) (fun q _ h => mo_free M w q h)
    (fun E ce q9 u1 t H1 locs1 ht hvm hp hB hz hk hS hce hcv hcl => by
      obtain ⟨E1, u2⟩ := u1
      obtain ⟨rfl, hB⟩ := hB
      exact mx_out M (mo_call M w ht hB hS) hx hce hcv hcl (kx _ _ hp) hf0.1 hf0.2)
    (fun u1 ra t H1 locs1 ht hvm hp hB hz hk hS => kk ra u1 H1 locs1 hp hB.1 (mo_call M w ht hB.2 hS))
end MXC
end
section
/-! ===== MY KIT: the shape of the whole heap, and rows over numbers ===== -/
def es (e : Nat → Nat → Nat) (c k v : Nat) : Nat → Nat → Nat := fun c' k' => if c' = c ∧ k' = k then v else e c' k'
theorem es_same (e : Nat → Nat → Nat) (c k v : Nat) : es e c k v c k = v := if_pos ⟨rfl, rfl⟩
theorem es_ne (e : Nat → Nat → Nat) {c k c' k' : Nat} (v : Nat) (h : ¬ (c' = c ∧ k' = k)) : es e c k v c' k' = e c' k' := if_neg h
theorem es_row (e : Nat → Nat → Nat) (c k v : Nat) : es e c k v c = fun i => if i = k then v else e c i := by
  funext i
  unfold es
  by_cases h : i = k
  · rw [if_pos ⟨rfl, h⟩, if_pos h]
  · rw [if_neg (fun z => h z.2), if_neg h]
theorem es_off (e : Nat → Nat → Nat) {c c' : Nat} (k v : Nat) (h : c' ≠ c) : es e c k v c' = e c' := by
  funext i
  exact if_neg (fun z => h z.1)
def PB (p : Nat) : Nat := 32 + 16 * p
def RB (r : Nat) : Nat := 200 + r
def sI (cy : Nat → ClassId) (n : Nat) (v : Nat → Nat) : va_E := .inl (cy 0, n, .inl (fun j => nI (v j)))
def sZ (cy : Nat → ClassId) (n : Nat) (v : Nat → Nat) : va_E := .inl (cy 1, n, .inl (fun j => nI (v j)))
def sQ (c : ClassId) (n : Nat) (f : Nat → Option Nat) : va_E := .inl (c, n, .inr (.inr (.inr (.inr f))))
def rfP (ad : Nat → Nat) (v : Nat → Nat) : Nat → Option Nat := fun j => if v j = 0 then none else some (ad (16 + 16 * v j))
def rfR (ad : Nat → Nat) (v : Nat → Nat) : Nat → Option Nat := fun j => if v j = 0 then none else some (ad (199 + v j))

def shB (cy : Nat → ClassId) (ad : Nat → Nat) (c : Nat) (v : Nat → Nat) : va_E := match c with
  | 0 => .inr (3, [.ref (ad 1), .int (nI (v 1)), .ref (ad 2), .int (nI (v 3)), .int (nI (v 4)), .int (nI (v 5)), .int (nI (v 6)), .ref (ad 3)])
  | 1 => sQ (cy 2) 8 (rfP ad v)
  | 2 => sQ (cy 3) 40 (rfR ad v)
  | 3 => .inr (0, [.ref (ad 4), .ref (ad 5), .int (nI (v 2)), .int (nI (v 3)), .int (nI (v 4)), .int (nI (v 5)), .int (nI (v 6)), .int (nI (v 7)), .int (nI (v 8)), .int (nI (v 9)), .int (nI (v 10))])
  | 4 => sI cy 120 v
  | 5 => sI cy 120 v
  | 6 => .inl (cy 4, 1, .inr (.inl (fun j => lN (v j))))
  | 7 => .inr (4, [.int (nI (v 0)), .int (nI (v 1)), .int (nI (v 2)), .ref (ad 8), .ref (ad 9), .ref (ad 10), .ref (ad 11), .ref (ad 12), .ref (ad 13), .int (nI (v 9)), .ref (ad 14), .ref (ad 15), .ref (ad 16), .ref (ad 17), .ref (ad 18), .int (nI (v 15)), .ref (ad 19), .ref (ad 20), .ref (ad 21), .int (nI (v 19)), .ref (ad 22), .ref (ad 23), .ref (ad 24), .ref (ad 25), .int (nI (v 24)), .int (nI (v 25)), .int (nI (v 26)), .int (nI (v 27)), .int (nI (v 28)), .int (nI (v 29))])
  | 8 => sI cy 8 v
  | 9 => sI cy 8 v
  | 10 => sI cy 8 v
  | 11 => sI cy 8 v
  | 12 => sI cy 80 v
  | 13 => sI cy 80 v
  | 14 => sI cy 40 v
  | 15 => sI cy 40 v
  | 16 => sI cy 40 v
  | 17 => sZ cy 40 v
  | 18 => sZ cy 40 v
  | 19 => sI cy 30 v
  | 20 => sI cy 30 v
  | 21 => sI cy 30 v
  | 22 => sI cy 20 v
  | 23 => sI cy 20 v
  | 24 => sI cy 20 v
  | 25 => sI cy 11 v
  | _ => sI cy 0 v
def shP (cy : Nat → ClassId) (ad : Nat → Nat) (b k : Nat) (v : Nat → Nat) : va_E := match k with
  | 0 => .inr (1, [.int (nI (v 0)), .int (nI (v 1)), .int (nI (v 2)), .ref (ad (b + 1)), .ref (ad (b + 2)), .int (nI (v 5)), .ref (ad (b + 3)), .int (nI (v 7)), .ref (ad (b + 4)), .ref (ad (b + 5)), .int (nI (v 10)), .ref (ad (b + 6)), .ref (ad (b + 7)), .int (nI (v 13)), .ref (ad (b + 8))])
  | 1 => sI cy 10 v
  | 2 => sI cy 10 v
  | 3 => sQ (cy 3) 40 (rfR ad v)
  | 4 => sI cy 30 v
  | 5 => sI cy 30 v
  | 6 => sI cy 20 v
  | 7 => sI cy 20 v
  | 8 => sI cy 3601 v
  | _ => sI cy 0 v
def shR (ad : Nat → Nat) (v : Nat → Nat) : va_E := .inr (2, [.ref (ad (PB (v 0))), .int (nI (v 1)), .int (nI (v 2)), .int (nI (v 3)), .int (nI (v 4))])
def sh (cy : Nat → ClassId) (ad : Nat → Nat) (c : Nat) (v : Nat → Nat) : va_E := if c < 32 then shB cy ad c v else if c < 200 then shP cy ad (c - c % 16) (c % 16) v else shR ad v
theorem sh_B (cy : Nat → ClassId) (ad : Nat → Nat) {c : Nat} (v : Nat → Nat) (h : c < 32) : sh cy ad c v = shB cy ad c v := if_pos h
theorem sh_P (cy : Nat → ClassId) (ad : Nat → Nat) {p k : Nat} (v : Nat → Nat) (hp : p < 8) (hk : k < 16) : sh cy ad (PB p + k) v = shP cy ad (PB p) k v := by
  unfold sh PB
  rw [if_neg (by omega), if_pos (by omega), show (32 + 16 * p + k) % 16 = k by omega, show 32 + 16 * p + k - k = 32 + 16 * p by omega]
theorem sh_R (cy : Nat → ClassId) (ad : Nat → Nat) (r : Nat) (v : Nat → Nat) : sh cy ad (RB r) v = shR ad v := by
  unfold sh RB
  rw [if_neg (by omega), if_neg (by omega)]
theorem sh_0 (cy : Nat → ClassId) (ad : Nat → Nat) (v : Nat → Nat) : sh cy ad 0 v = .inr (3, [.ref (ad 1), .int (nI (v 1)), .ref (ad 2), .int (nI (v 3)), .int (nI (v 4)), .int (nI (v 5)), .int (nI (v 6)), .ref (ad 3)]) := rfl
theorem sh_1 (cy : Nat → ClassId) (ad : Nat → Nat) (v : Nat → Nat) : sh cy ad 1 v = sQ (cy 2) 8 (rfP ad v) := rfl
theorem sh_2 (cy : Nat → ClassId) (ad : Nat → Nat) (v : Nat → Nat) : sh cy ad 2 v = sQ (cy 3) 40 (rfR ad v) := rfl
theorem sh_3 (cy : Nat → ClassId) (ad : Nat → Nat) (v : Nat → Nat) : sh cy ad 3 v = .inr (0, [.ref (ad 4), .ref (ad 5), .int (nI (v 2)), .int (nI (v 3)), .int (nI (v 4)), .int (nI (v 5)), .int (nI (v 6)), .int (nI (v 7)), .int (nI (v 8)), .int (nI (v 9)), .int (nI (v 10))]) := rfl
theorem sh_4 (cy : Nat → ClassId) (ad : Nat → Nat) (v : Nat → Nat) : sh cy ad 4 v = sI cy 120 v := rfl
theorem sh_5 (cy : Nat → ClassId) (ad : Nat → Nat) (v : Nat → Nat) : sh cy ad 5 v = sI cy 120 v := rfl
theorem sh_6 (cy : Nat → ClassId) (ad : Nat → Nat) (v : Nat → Nat) : sh cy ad 6 v = .inl (cy 4, 1, .inr (.inl (fun j => lN (v j)))) := rfl
theorem sh_7 (cy : Nat → ClassId) (ad : Nat → Nat) (v : Nat → Nat) : sh cy ad 7 v = .inr (4, [.int (nI (v 0)), .int (nI (v 1)), .int (nI (v 2)), .ref (ad 8), .ref (ad 9), .ref (ad 10), .ref (ad 11), .ref (ad 12), .ref (ad 13), .int (nI (v 9)), .ref (ad 14), .ref (ad 15), .ref (ad 16), .ref (ad 17), .ref (ad 18), .int (nI (v 15)), .ref (ad 19), .ref (ad 20), .ref (ad 21), .int (nI (v 19)), .ref (ad 22), .ref (ad 23), .ref (ad 24), .ref (ad 25), .int (nI (v 24)), .int (nI (v 25)), .int (nI (v 26)), .int (nI (v 27)), .int (nI (v 28)), .int (nI (v 29))]) := rfl
theorem sh_8 (cy : Nat → ClassId) (ad : Nat → Nat) (v : Nat → Nat) : sh cy ad 8 v = sI cy 8 v := rfl
theorem sh_9 (cy : Nat → ClassId) (ad : Nat → Nat) (v : Nat → Nat) : sh cy ad 9 v = sI cy 8 v := rfl
theorem sh_10 (cy : Nat → ClassId) (ad : Nat → Nat) (v : Nat → Nat) : sh cy ad 10 v = sI cy 8 v := rfl
theorem sh_11 (cy : Nat → ClassId) (ad : Nat → Nat) (v : Nat → Nat) : sh cy ad 11 v = sI cy 8 v := rfl
theorem sh_12 (cy : Nat → ClassId) (ad : Nat → Nat) (v : Nat → Nat) : sh cy ad 12 v = sI cy 80 v := rfl
theorem sh_13 (cy : Nat → ClassId) (ad : Nat → Nat) (v : Nat → Nat) : sh cy ad 13 v = sI cy 80 v := rfl
theorem sh_14 (cy : Nat → ClassId) (ad : Nat → Nat) (v : Nat → Nat) : sh cy ad 14 v = sI cy 40 v := rfl
theorem sh_15 (cy : Nat → ClassId) (ad : Nat → Nat) (v : Nat → Nat) : sh cy ad 15 v = sI cy 40 v := rfl
theorem sh_16 (cy : Nat → ClassId) (ad : Nat → Nat) (v : Nat → Nat) : sh cy ad 16 v = sI cy 40 v := rfl
theorem sh_17 (cy : Nat → ClassId) (ad : Nat → Nat) (v : Nat → Nat) : sh cy ad 17 v = sZ cy 40 v := rfl
theorem sh_18 (cy : Nat → ClassId) (ad : Nat → Nat) (v : Nat → Nat) : sh cy ad 18 v = sZ cy 40 v := rfl
theorem sh_19 (cy : Nat → ClassId) (ad : Nat → Nat) (v : Nat → Nat) : sh cy ad 19 v = sI cy 30 v := rfl
theorem sh_20 (cy : Nat → ClassId) (ad : Nat → Nat) (v : Nat → Nat) : sh cy ad 20 v = sI cy 30 v := rfl
theorem sh_21 (cy : Nat → ClassId) (ad : Nat → Nat) (v : Nat → Nat) : sh cy ad 21 v = sI cy 30 v := rfl
theorem sh_22 (cy : Nat → ClassId) (ad : Nat → Nat) (v : Nat → Nat) : sh cy ad 22 v = sI cy 20 v := rfl
theorem sh_23 (cy : Nat → ClassId) (ad : Nat → Nat) (v : Nat → Nat) : sh cy ad 23 v = sI cy 20 v := rfl
theorem sh_24 (cy : Nat → ClassId) (ad : Nat → Nat) (v : Nat → Nat) : sh cy ad 24 v = sI cy 20 v := rfl
theorem sh_25 (cy : Nat → ClassId) (ad : Nat → Nat) (v : Nat → Nat) : sh cy ad 25 v = sI cy 11 v := rfl
theorem sh_P0 (cy : Nat → ClassId) (ad : Nat → Nat) {p : Nat} (v : Nat → Nat) (hp : p < 8) : sh cy ad (PB p) v = .inr (1, [.int (nI (v 0)), .int (nI (v 1)), .int (nI (v 2)), .ref (ad (PB p + 1)), .ref (ad (PB p + 2)), .int (nI (v 5)), .ref (ad (PB p + 3)), .int (nI (v 7)), .ref (ad (PB p + 4)), .ref (ad (PB p + 5)), .int (nI (v 10)), .ref (ad (PB p + 6)), .ref (ad (PB p + 7)), .int (nI (v 13)), .ref (ad (PB p + 8))]) := sh_P cy ad (k := 0) v hp (by omega)
theorem sh_P1 (cy : Nat → ClassId) (ad : Nat → Nat) {p : Nat} (v : Nat → Nat) (hp : p < 8) : sh cy ad (PB p + 1) v = sI cy 10 v := sh_P cy ad (k := 1) v hp (by omega)
theorem sh_P2 (cy : Nat → ClassId) (ad : Nat → Nat) {p : Nat} (v : Nat → Nat) (hp : p < 8) : sh cy ad (PB p + 2) v = sI cy 10 v := sh_P cy ad (k := 2) v hp (by omega)
theorem sh_P3 (cy : Nat → ClassId) (ad : Nat → Nat) {p : Nat} (v : Nat → Nat) (hp : p < 8) : sh cy ad (PB p + 3) v = sQ (cy 3) 40 (rfR ad v) := sh_P cy ad (k := 3) v hp (by omega)
theorem sh_P4 (cy : Nat → ClassId) (ad : Nat → Nat) {p : Nat} (v : Nat → Nat) (hp : p < 8) : sh cy ad (PB p + 4) v = sI cy 30 v := sh_P cy ad (k := 4) v hp (by omega)
theorem sh_P5 (cy : Nat → ClassId) (ad : Nat → Nat) {p : Nat} (v : Nat → Nat) (hp : p < 8) : sh cy ad (PB p + 5) v = sI cy 30 v := sh_P cy ad (k := 5) v hp (by omega)
theorem sh_P6 (cy : Nat → ClassId) (ad : Nat → Nat) {p : Nat} (v : Nat → Nat) (hp : p < 8) : sh cy ad (PB p + 6) v = sI cy 20 v := sh_P cy ad (k := 6) v hp (by omega)
theorem sh_P7 (cy : Nat → ClassId) (ad : Nat → Nat) {p : Nat} (v : Nat → Nat) (hp : p < 8) : sh cy ad (PB p + 7) v = sI cy 20 v := sh_P cy ad (k := 7) v hp (by omega)
theorem sh_P8 (cy : Nat → ClassId) (ad : Nat → Nat) {p : Nat} (v : Nat → Nat) (hp : p < 8) : sh cy ad (PB p + 8) v = sI cy 3601 v := sh_P cy ad (k := 8) v hp (by omega)
theorem sh_RB (cy : Nat → ClassId) (ad : Nat → Nat) (r : Nat) (v : Nat → Nat) : sh cy ad (RB r) v = .inr (2, [.ref (ad (PB (v 0))), .int (nI (v 1)), .int (nI (v 2)), .int (nI (v 3)), .int (nI (v 4))]) := sh_R cy ad r v
def G (cy : Nat → ClassId) (ad : Nat → Nat) (e : Nat → Nat → Nat) : Nat → va_E := fun c => sh cy ad c (e c)
theorem G_mu {cy : Nat → ClassId} {ad : Nat → Nat} {e e' : Nat → Nat → Nat} {x : Nat} {E : va_E} (h1 : sh cy ad x (e' x) = E) (h2 : ∀ c, c ≠ x → e' c = e c) : mu (G cy ad e) x E = G cy ad e' := by
  funext c
  by_cases h : c = x
  · subst h
    rw [mu_same]
    exact h1.symm
  · rw [mu_ne _ _ h]
    unfold G
    rw [h2 c h]
theorem G_es {cy : Nat → ClassId} {ad : Nat → Nat} {e : Nat → Nat → Nat} {x k v : Nat} {E : va_E} (h : sh cy ad x (fun i => if i = k then v else e x i) = E) : mu (G cy ad e) x E = G cy ad (es e x k v) := G_mu (by rw [es_row]; exact h) (fun c hc => es_off e k v hc)
theorem up_nI (v : Nat → Nat) (i x : Nat) : upd (fun j => nI (v j)) i (nI x) = fun j => nI (if j = i then x else v j) := by
  funext j
  unfold upd
  by_cases h : j = i
  · rw [if_pos h, if_pos h]
  · rw [if_neg h, if_neg h]
theorem nI_inc (i k : Nat) : nI i + Int32.ofInt k = nI (i + k) := by
  rw [← nI_add]; rfl
theorem mb0 : Bundle.fit eIA = true := by decide +kernel
section MIR
variable {p : Program} {l : Launch} {e : Env} {R : Room} {s : State} {m : MethodId} {args : Array Value} {below : List Frame} {meth : Method} {c : Code} {H : Heap} {locs : List Loc} {cells slots : Nat} {Q : State → Prop}
variable {cc : ByteArray} {pc : Nat} {ls : Array Slot} {rest : List Value} {D : va_G} {cy : Nat → ClassId} {A : Nat → Prop} {Ts : List Cond} {own : String} {nL : Nat} {C : List Nat} {ad : Nat → Nat} {f : Nat → Nat → Nat}
theorem mi_add (hx : p.tables.exec = Jvm.exec) (hb : c.code = cc) {a b : Nat} (hdg : decode cc pc = .ok (.iadd, 1)) (k : W p l e R s m args below meth c H locs cells slots Q (F0 m (pc + 1) ls (.int (nI (a + b)) :: rest))) : W p l e R s m args below meth c H locs cells slots Q (F0 m pc ls (.int (nI b) :: .int (nI a) :: rest)) := lv_iadd hx hb hdg (by rw [nI_add]; exact k)
theorem mi_sub (hx : p.tables.exec = Jvm.exec) (hb : c.code = cc) {a b : Nat} (h : b ≤ a) (hdg : decode cc pc = .ok (.isub, 1)) (k : W p l e R s m args below meth c H locs cells slots Q (F0 m (pc + 1) ls (.int (nI (a - b)) :: rest))) : W p l e R s m args below meth c H locs cells slots Q (F0 m pc ls (.int (nI b) :: .int (nI a) :: rest)) := lv_isub hx hb hdg (by rw [pk_sub h]; exact k)
theorem mi_mul (hx : p.tables.exec = Jvm.exec) (hb : c.code = cc) {a b : Nat} (hdg : decode cc pc = .ok (.imul, 1)) (k : W p l e R s m args below meth c H locs cells slots Q (F0 m (pc + 1) ls (.int (nI (a * b)) :: rest))) : W p l e R s m args below meth c H locs cells slots Q (F0 m pc ls (.int (nI b) :: .int (nI a) :: rest)) := lv_imul hx hb hdg (by rw [pk_mul]; exact k)
theorem mi_div (hx : p.tables.exec = Jvm.exec) (hb : c.code = cc) {a b : Nat} (ha : a < 2147483648) (h0 : 0 < b) (hb2 : b < 2147483648) (hdg : decode cc pc = .ok (.idiv, 1)) (k : W p l e R s m args below meth c H locs cells slots Q (F0 m (pc + 1) ls (.int (nI (a / b)) :: rest))) : W p l e R s m args below meth c H locs cells slots Q (F0 m pc ls (.int (nI b) :: .int (nI a) :: rest)) := lv_idiv hx hb hdg (nI_ne0 h0 hb2) (by rw [pk_div ha h0 hb2]; exact k)
theorem mi_rem (hx : p.tables.exec = Jvm.exec) (hb : c.code = cc) {a b : Nat} (ha : a < 2147483648) (h0 : 0 < b) (hb2 : b < 2147483648) (hdg : decode cc pc = .ok (.irem, 1)) (k : W p l e R s m args below meth c H locs cells slots Q (F0 m (pc + 1) ls (.int (nI (a % b)) :: rest))) : W p l e R s m args below meth c H locs cells slots Q (F0 m pc ls (.int (nI b) :: .int (nI a) :: rest)) := lv_irem hx hb hdg (nI_ne0 h0 hb2) (by rw [pk_rem ha h0 hb2]; exact k)
theorem mi_min (M : MC p s m args meth c cc Ts own nL D cy A) (hls : ls.size = nL) {index : Nat} (hlink : Cond.methodLink own index Lib.Math.min.name ∈ Ts) (hst : Cond.static Lib.Math.min.name ∈ Ts) (hini : Cond.initialized "java/lang/Math" ∈ Ts) (hcode : Cond.code Lib.Math.min.name Lib.Math.min.code 2 (some .int) ∈ Ts) (hf : 1 ≤ R.frames) (hlo : (rest.map fun v => v.category).sum + 13 ≤ R.locals) (hc : cells ≤ R.cells) (hs : slots ≤ R.slots) {a b : Nat} (ha : a < 2147483648) (hb : b < 2147483648) (hdg : decode cc pc = .ok (.invokestatic index, 3))
    (k : W p l e R s m args below meth c H locs cells slots Q (F0 m (pc + 3) ls (.int (nI (min a b)) :: rest))) : W p l e R s m args below meth c H locs cells slots Q (F0 m pc ls (.int (nI b) :: .int (nI a) :: rest)) := by
  refine va_mmin M.1.1 M.1.2.1 (M.1.2.2.1.trans hls.symm) M.1.2.2.2.1 (M.1.2.2.2.2 _ hlink) (M.1.2.2.2.2 _ hst) (M.1.2.2.2.2 _ hini) (M.1.2.2.2.2 _ hcode) hf hlo hc hs hdg ?_
  have e9 : (if nI b < nI a then nI b else nI a) = nI (min a b) := by
    by_cases h : b < a
    · rw [if_pos ((nI_ltI hb ha).mpr h), Nat.min_eq_right (Nat.le_of_lt h)]
    · rw [if_neg (fun z => h ((nI_ltI hb ha).mp z)), Nat.min_eq_left (Nat.not_lt.mp h)]
  rw [e9]
  exact k
theorem mi_max (M : MC p s m args meth c cc Ts own nL D cy A) (hls : ls.size = nL) {index : Nat} (hlink : Cond.methodLink own index Lib.Math.max.name ∈ Ts) (hst : Cond.static Lib.Math.max.name ∈ Ts) (hini : Cond.initialized "java/lang/Math" ∈ Ts) (hcode : Cond.code Lib.Math.max.name Lib.Math.max.code 2 (some .int) ∈ Ts) (hf : 1 ≤ R.frames) (hlo : (rest.map fun v => v.category).sum + 13 ≤ R.locals) (hc : cells ≤ R.cells) (hs : slots ≤ R.slots) {a b : Nat} (ha : a < 2147483648) (hb : b < 2147483648) (hdg : decode cc pc = .ok (.invokestatic index, 3))
    (k : W p l e R s m args below meth c H locs cells slots Q (F0 m (pc + 3) ls (.int (nI (max a b)) :: rest))) : W p l e R s m args below meth c H locs cells slots Q (F0 m pc ls (.int (nI b) :: .int (nI a) :: rest)) := by
  refine va_mmax M.1.1 M.1.2.1 (M.1.2.2.1.trans hls.symm) M.1.2.2.2.1 (M.1.2.2.2.2 _ hlink) (M.1.2.2.2.2 _ hst) (M.1.2.2.2.2 _ hini) (M.1.2.2.2.2 _ hcode) hf hlo hc hs hdg ?_
  have e9 : (if nI a < nI b then nI b else nI a) = nI (max a b) := by
    by_cases h : a < b
    · rw [if_pos ((nI_ltI ha hb).mpr h), Nat.max_eq_right (Nat.le_of_lt h)]
    · rw [if_neg (fun z => h ((nI_ltI ha hb).mp z)), Nat.max_eq_left (Nat.not_lt.mp h)]
  rw [e9]
  exact k
theorem mi_eq (hx : p.tables.exec = Jvm.exec) (hb9 : c.code = cc) {a b : Nat} (ha : a < 2147483648) (hb : b < 2147483648) {off : Int} (tgt : Nat) (hdg : decode cc pc = .ok (.if_icmp .eq off, 3)) (ht : (pc : Int) + off = (tgt : Int)) (kt : a = b → W p l e R s m args below meth c H locs cells slots Q (F0 m tgt ls rest)) (kf : ¬ a = b → W p l e R s m args below meth c H locs cells slots Q (F0 m (pc + 3) ls rest)) : W p l e R s m args below meth c H locs cells slots Q (F0 m pc ls (.int (nI b) :: .int (nI a) :: rest)) := lv_icmp_eq hx hb9 hdg ht (fun h => kt ((nI_eq ha hb).mp h)) (fun h => kf (fun z => h ((nI_eq ha hb).mpr z)))
theorem mi_ne (hx : p.tables.exec = Jvm.exec) (hb9 : c.code = cc) {a b : Nat} (ha : a < 2147483648) (hb : b < 2147483648) {off : Int} (tgt : Nat) (hdg : decode cc pc = .ok (.if_icmp .ne off, 3)) (ht : (pc : Int) + off = (tgt : Int)) (kt : ¬ a = b → W p l e R s m args below meth c H locs cells slots Q (F0 m tgt ls rest)) (kf : a = b → W p l e R s m args below meth c H locs cells slots Q (F0 m (pc + 3) ls rest)) : W p l e R s m args below meth c H locs cells slots Q (F0 m pc ls (.int (nI b) :: .int (nI a) :: rest)) := lv_icmp_ne hx hb9 hdg ht (fun h => kt (fun z => h ((nI_eq ha hb).mpr z))) (fun h => kf ((nI_eq ha hb).mp h))
theorem mi_lt (hx : p.tables.exec = Jvm.exec) (hb9 : c.code = cc) {a b : Nat} (ha : a < 2147483648) (hb : b < 2147483648) {off : Int} (tgt : Nat) (hdg : decode cc pc = .ok (.if_icmp .lt off, 3)) (ht : (pc : Int) + off = (tgt : Int)) (kt : a < b → W p l e R s m args below meth c H locs cells slots Q (F0 m tgt ls rest)) (kf : b ≤ a → W p l e R s m args below meth c H locs cells slots Q (F0 m (pc + 3) ls rest)) : W p l e R s m args below meth c H locs cells slots Q (F0 m pc ls (.int (nI b) :: .int (nI a) :: rest)) := lv_icmp_lt hx hb9 hdg ht (fun h => kt ((nI_ltI ha hb).mp h)) (fun h => kf (Nat.not_lt.mp (fun z => h ((nI_ltI ha hb).mpr z))))
theorem mi_ge (hx : p.tables.exec = Jvm.exec) (hb9 : c.code = cc) {a b : Nat} (ha : a < 2147483648) (hb : b < 2147483648) {off : Int} (tgt : Nat) (hdg : decode cc pc = .ok (.if_icmp .ge off, 3)) (ht : (pc : Int) + off = (tgt : Int)) (kt : b ≤ a → W p l e R s m args below meth c H locs cells slots Q (F0 m tgt ls rest)) (kf : a < b → W p l e R s m args below meth c H locs cells slots Q (F0 m (pc + 3) ls rest)) : W p l e R s m args below meth c H locs cells slots Q (F0 m pc ls (.int (nI b) :: .int (nI a) :: rest)) := lv_icmp_ge hx hb9 hdg ht (fun h => kt ((nI_leI hb ha).mp h)) (fun h => kf (Nat.not_le.mp (fun z => h ((nI_leI hb ha).mpr z))))
theorem mi_gt (hx : p.tables.exec = Jvm.exec) (hb9 : c.code = cc) {a b : Nat} (ha : a < 2147483648) (hb : b < 2147483648) {off : Int} (tgt : Nat) (hdg : decode cc pc = .ok (.if_icmp .gt off, 3)) (ht : (pc : Int) + off = (tgt : Int)) (kt : b < a → W p l e R s m args below meth c H locs cells slots Q (F0 m tgt ls rest)) (kf : a ≤ b → W p l e R s m args below meth c H locs cells slots Q (F0 m (pc + 3) ls rest)) : W p l e R s m args below meth c H locs cells slots Q (F0 m pc ls (.int (nI b) :: .int (nI a) :: rest)) := lv_icmp_gt hx hb9 hdg ht (fun h => kt ((nI_ltI hb ha).mp h)) (fun h => kf (Nat.not_lt.mp (fun z => h ((nI_ltI hb ha).mpr z))))
theorem mi_le (hx : p.tables.exec = Jvm.exec) (hb9 : c.code = cc) {a b : Nat} (ha : a < 2147483648) (hb : b < 2147483648) {off : Int} (tgt : Nat) (hdg : decode cc pc = .ok (.if_icmp .le off, 3)) (ht : (pc : Int) + off = (tgt : Int)) (kt : a ≤ b → W p l e R s m args below meth c H locs cells slots Q (F0 m tgt ls rest)) (kf : b < a → W p l e R s m args below meth c H locs cells slots Q (F0 m (pc + 3) ls rest)) : W p l e R s m args below meth c H locs cells slots Q (F0 m pc ls (.int (nI b) :: .int (nI a) :: rest)) := lv_icmp_le hx hb9 hdg ht (fun h => kt ((nI_leI ha hb).mp h)) (fun h => kf (Nat.not_le.mp (fun z => h ((nI_leI ha hb).mpr z))))
theorem mi_if_eq (hx : p.tables.exec = Jvm.exec) (hb9 : c.code = cc) {a : Nat} (ha : a < 2147483648) {off : Int} (tgt : Nat) (hdg : decode cc pc = .ok (.ifCond .eq off, 3)) (ht : (pc : Int) + off = (tgt : Int)) (kt : a = 0 → W p l e R s m args below meth c H locs cells slots Q (F0 m tgt ls rest)) (kf : ¬ a = 0 → W p l e R s m args below meth c H locs cells slots Q (F0 m (pc + 3) ls rest)) : W p l e R s m args below meth c H locs cells slots Q (F0 m pc ls (.int (nI a) :: rest)) := lv_if_eq hx hb9 hdg ht (fun h => kt ((nI_eq ha (b := 0) (by omega)).mp h)) (fun h => kf (fun z => h ((nI_eq ha (b := 0) (by omega)).mpr z)))
theorem mi_if_ne (hx : p.tables.exec = Jvm.exec) (hb9 : c.code = cc) {a : Nat} (ha : a < 2147483648) {off : Int} (tgt : Nat) (hdg : decode cc pc = .ok (.ifCond .ne off, 3)) (ht : (pc : Int) + off = (tgt : Int)) (kt : ¬ a = 0 → W p l e R s m args below meth c H locs cells slots Q (F0 m tgt ls rest)) (kf : a = 0 → W p l e R s m args below meth c H locs cells slots Q (F0 m (pc + 3) ls rest)) : W p l e R s m args below meth c H locs cells slots Q (F0 m pc ls (.int (nI a) :: rest)) := lv_if_ne hx hb9 hdg ht (fun h => kt (fun z => h ((nI_eq ha (b := 0) (by omega)).mpr z))) (fun h => kf ((nI_eq ha (b := 0) (by omega)).mp h))
theorem mi_if_lt (hx : p.tables.exec = Jvm.exec) (hb9 : c.code = cc) {a : Nat} (ha : a < 2147483648) {off : Int} (tgt : Nat) (hdg : decode cc pc = .ok (.ifCond .lt off, 3)) (ht : (pc : Int) + off = (tgt : Int)) (kt : False → W p l e R s m args below meth c H locs cells slots Q (F0 m tgt ls rest)) (kf : True → W p l e R s m args below meth c H locs cells slots Q (F0 m (pc + 3) ls rest)) : W p l e R s m args below meth c H locs cells slots Q (F0 m pc ls (.int (nI a) :: rest)) := lv_if_lt hx hb9 hdg ht (fun h => absurd h (nI_pos ha)) (fun _ => kf trivial)
theorem mi_if_ge (hx : p.tables.exec = Jvm.exec) (hb9 : c.code = cc) {a : Nat} (ha : a < 2147483648) {off : Int} (tgt : Nat) (hdg : decode cc pc = .ok (.ifCond .ge off, 3)) (ht : (pc : Int) + off = (tgt : Int)) (kt : True → W p l e R s m args below meth c H locs cells slots Q (F0 m tgt ls rest)) (kf : False → W p l e R s m args below meth c H locs cells slots Q (F0 m (pc + 3) ls rest)) : W p l e R s m args below meth c H locs cells slots Q (F0 m pc ls (.int (nI a) :: rest)) := lv_if_ge hx hb9 hdg ht (fun _ => kt trivial) (fun h => absurd (nI_pos' ha) h)
theorem mi_if_gt (hx : p.tables.exec = Jvm.exec) (hb9 : c.code = cc) {a : Nat} (ha : a < 2147483648) {off : Int} (tgt : Nat) (hdg : decode cc pc = .ok (.ifCond .gt off, 3)) (ht : (pc : Int) + off = (tgt : Int)) (kt : 0 < a → W p l e R s m args below meth c H locs cells slots Q (F0 m tgt ls rest)) (kf : a = 0 → W p l e R s m args below meth c H locs cells slots Q (F0 m (pc + 3) ls rest)) : W p l e R s m args below meth c H locs cells slots Q (F0 m pc ls (.int (nI a) :: rest)) := lv_if_gt hx hb9 hdg ht (fun h => kt ((nI_ltI (a := 0) (by omega) ha).mp h)) (fun h => kf (by rcases Nat.eq_zero_or_pos a with z | z <;> first | exact z | exact absurd ((nI_ltI (a := 0) (by omega) ha).mpr z) h))
theorem mi_if_le (hx : p.tables.exec = Jvm.exec) (hb9 : c.code = cc) {a : Nat} (ha : a < 2147483648) {off : Int} (tgt : Nat) (hdg : decode cc pc = .ok (.ifCond .le off, 3)) (ht : (pc : Int) + off = (tgt : Int)) (kt : a = 0 → W p l e R s m args below meth c H locs cells slots Q (F0 m tgt ls rest)) (kf : 0 < a → W p l e R s m args below meth c H locs cells slots Q (F0 m (pc + 3) ls rest)) : W p l e R s m args below meth c H locs cells slots Q (F0 m pc ls (.int (nI a) :: rest)) := lv_if_le hx hb9 hdg ht (fun h => kt (Nat.le_zero.mp ((nI_leI ha (b := 0) (by omega)).mp h))) (fun h => kf (by rcases Nat.eq_zero_or_pos a with z | z <;> first | exact z | exact absurd ((nI_leI ha (b := 0) (by omega)).mpr (by omega)) h))
-- rows over the numbers of the heap
theorem ex_get (M : MC p s m args meth c cc Ts own nL D cy A) (w : MO D A s.heap (C, ad, G cy ad f) H locs) {x : Nat} (hx : x ∈ C) {ci : Nat} {fs : List Value} (he : sh cy ad x (f x) = .inr (ci, fs)) {CN : String} {T : u_T} {N : Nat} (hc : vwCl[ci]? = some (CN, T, N)) (hin : ∀ w ∈ u_ws CN T N, w ∈ Ts) {index : Nat} (k : Nat) (hk : k < N) (hl : Cond.fieldLink own index (T k).1 (T k).2.1 (T k).2.2.1 ∈ Ts) {v : Value} (hv : fs[k]? = some v) (hdg : decode cc pc = .ok (.getfield index, 3))
    (kk : W p l e R s m args below meth c H locs cells slots Q (F0 m (pc + 3) ls (v :: rest))) : W p l e R s m args below meth c H locs cells slots Q (F0 m pc ls (.ref (ad x) :: rest)) := mx_get M w hx (g := G cy ad f) he hc hin k hk hl hv hdg kk
theorem ex_put (M : MC p s m args meth c cc Ts own nL D cy A) (w : MO D A s.heap (C, ad, G cy ad f) H locs) {x : Nat} (hx : x ∈ C) {ci : Nat} {fs : List Value} (he : sh cy ad x (f x) = .inr (ci, fs)) {CN : String} {T : u_T} {N : Nat} (hc : vwCl[ci]? = some (CN, T, N)) (hin : ∀ w ∈ u_ws CN T N, w ∈ Ts) (ty0 : Nat → FieldType) (hty : ∀ k, k < N → parseFieldDescriptor (T k).2.2.1 = some (ty0 k)) (hnm : ∀ a, a < N → ∀ b, b < N → a ≠ b → (T a).2.1 ≠ (T b).2.1) {index : Nat} (k : Nat) (hk : k < N) (hl : Cond.fieldLink own index (T k).1 (T k).2.1 (T k).2.2.1 ∈ Ts) (hfin : (T k).2.2.2 = false) {v : Nat} (hn : narrow (ty0 k) (.int (nI v)) = .int (nI v)) (hfit : fits (ty0 k) (.int (nI v)) = true) (hlen : k < fs.length) (hE : sh cy ad x (fun i => if i = k then v else f x i) = .inr (ci, fs.set k (.int (nI v)))) (hdg : decode cc pc = .ok (.putfield index, 3))
    (kk : ∀ (H1 : Heap) (locs1 : List Loc), MO D A s.heap (C, ad, G cy ad (es f x k v)) H1 locs1 → W p l e R s m args below meth c H1 locs1 cells slots Q (F0 m (pc + 3) ls rest)) : W p l e R s m args below meth c H locs cells slots Q (F0 m pc ls (.int (nI v) :: .ref (ad x) :: rest)) :=
  mx_put M w hx (g := G cy ad f) he hc hin ty0 hty hnm k hk hl hfin hn hfit hlen hdg (fun H1 locs1 w1 => kk H1 locs1 (by rw [G_es hE] at w1; exact w1))
theorem ex_iald (M : MC p s m args meth c cc Ts own nL D cy A) (w : MO D A s.heap (C, ad, G cy ad f) H locs) {x n : Nat} (hx : x ∈ C) (he : ∀ v, sh cy ad x v = sI cy n v) {i v : Nat} (hi : i < n) (hn : n < 2147483648) (hv : f x i = v) (hdg : decode cc pc = .ok (.iaload, 1))
    (kk : W p l e R s m args below meth c H locs cells slots Q (F0 m (pc + 1) ls (.int (nI v) :: rest))) : W p l e R s m args below meth c H locs cells slots Q (F0 m pc ls (.int (nI i) :: .ref (ad x) :: rest)) :=
  mx_iald M w hx (g := G cy ad f) (he (f x)) (vp_in_nI hi hn) hdg (by rw [nI_clamp (Nat.lt_trans hi hn), hv]; exact kk)
theorem ex_zald (M : MC p s m args meth c cc Ts own nL D cy A) (w : MO D A s.heap (C, ad, G cy ad f) H locs) {x n : Nat} (hx : x ∈ C) (he : ∀ v, sh cy ad x v = sZ cy n v) {i v : Nat} (hi : i < n) (hn : n < 2147483648) (hv : f x i = v) (hdg : decode cc pc = .ok (.baload, 1))
    (kk : W p l e R s m args below meth c H locs cells slots Q (F0 m (pc + 1) ls (.int (nI v) :: rest))) : W p l e R s m args below meth c H locs cells slots Q (F0 m pc ls (.int (nI i) :: .ref (ad x) :: rest)) :=
  mx_zald M w hx (g := G cy ad f) (he (f x)) (vp_in_nI hi hn) hdg (by rw [nI_clamp (Nat.lt_trans hi hn), hv]; exact kk)
theorem ex_iast (M : MC p s m args meth c cc Ts own nL D cy A) (w : MO D A s.heap (C, ad, G cy ad f) H locs) {x n : Nat} (hx : x ∈ C) (he : ∀ v, sh cy ad x v = sI cy n v) {i v : Nat} (hi : i < n) (hn : n < 2147483648) (hdg : decode cc pc = .ok (.iastore, 1))
    (kk : ∀ (H1 : Heap) (locs1 : List Loc), MO D A s.heap (C, ad, G cy ad (es f x i v)) H1 locs1 → W p l e R s m args below meth c H1 locs1 cells slots Q (F0 m (pc + 1) ls rest)) : W p l e R s m args below meth c H locs cells slots Q (F0 m pc ls (.int (nI v) :: .int (nI i) :: .ref (ad x) :: rest)) := by
  refine mx_iast M w hx (g := G cy ad f) (he (f x)) (vp_in_nI hi hn) hdg (fun H1 locs1 w1 => kk H1 locs1 ?_)
  rw [nI_clamp (Nat.lt_trans hi hn), up_nI] at w1
  have w2 : MO D A s.heap (C, ad, mu (G cy ad f) x (sI cy n (fun j => if j = i then v else f x j))) H1 locs1 := w1
  rw [G_es (k := i) (v := v) (he _)] at w2
  exact w2
theorem ex_zast (M : MC p s m args meth c cc Ts own nL D cy A) (w : MO D A s.heap (C, ad, G cy ad f) H locs) {x n : Nat} (hx : x ∈ C) (he : ∀ v, sh cy ad x v = sZ cy n v) {i v : Nat} (hv : v < 2) (hi : i < n) (hn : n < 2147483648) (hdg : decode cc pc = .ok (.bastore, 1))
    (kk : ∀ (H1 : Heap) (locs1 : List Loc), MO D A s.heap (C, ad, G cy ad (es f x i v)) H1 locs1 → W p l e R s m args below meth c H1 locs1 cells slots Q (F0 m (pc + 1) ls rest)) : W p l e R s m args below meth c H locs cells slots Q (F0 m pc ls (.int (nI v) :: .int (nI i) :: .ref (ad x) :: rest)) := by
  refine mx_zast M w hx (g := G cy ad f) (he (f x)) (vp_in_nI hi hn) hdg (fun H1 locs1 w1 => kk H1 locs1 ?_)
  have e9 : vp_nar .boolean (nI v) = nI v := by
    rcases (show v = 0 ∨ v = 1 by omega) with rfl | rfl <;> rfl
  rw [nI_clamp (Nat.lt_trans hi hn), e9, up_nI] at w1
  have w2 : MO D A s.heap (C, ad, mu (G cy ad f) x (sZ cy n (fun j => if j = i then v else f x j))) H1 locs1 := w1
  rw [G_es (k := i) (v := v) (he _)] at w2
  exact w2
end MIR
end
section
theorem dX0_init_0 : decode cX0_init 0 = .ok (.aload_n 0, 1) := by decide +kernel
theorem dX0_init_1 : decode cX0_init 1 = .ok (.invokespecial 3, 3) := by decide +kernel
theorem dX0_init_4 : decode cX0_init 4 = .ok (.aload_n 0, 1) := by decide +kernel
theorem dX0_init_5 : decode cX0_init 5 = .ok (.bipush 120, 2) := by decide +kernel
theorem dX0_init_7 : decode cX0_init 7 = .ok (.newarray .int, 2) := by decide +kernel
theorem dX0_init_9 : decode cX0_init 9 = .ok (.putfield 9, 3) := by decide +kernel
theorem dX0_init_12 : decode cX0_init 12 = .ok (.aload_n 0, 1) := by decide +kernel
theorem dX0_init_13 : decode cX0_init 13 = .ok (.bipush 120, 2) := by decide +kernel
theorem dX0_init_15 : decode cX0_init 15 = .ok (.newarray .int, 2) := by decide +kernel
theorem dX0_init_17 : decode cX0_init 17 = .ok (.putfield 15, 3) := by decide +kernel
theorem dX0_init_20 : decode cX0_init 20 = .ok (.return_, 1) := by decide +kernel
set_option maxRecDepth 20000 in
theorem ggX0_goThrough_X0_clear : GoodIn wsX0_goThrough wsX0_clear := goodIn_r _ [6, 7, 8, 9, 10, 11, 12, 13, 14, 15, 91, 92, 93, 94, 95, 96, 97, 98, 99, 100, 101] (by decide +kernel) (by decide +kernel)
set_option maxRecDepth 20000 in
theorem gX0_goThrough_X0_clear : GoodIn wsX0_goThrough (wsV RX0 18 RX0 yX0_clear wsX0_clear) := goodIn_app (goodIn_of _ (by decide +kernel)) ggX0_goThrough_X0_clear
set_option maxRecDepth 20000 in
theorem ggX0_goThrough_X0_isDayOfEarning : GoodIn wsX0_goThrough wsX0_isDayOfEarning := goodIn_r _ [18, 1, 76, 77, 78, 79, 80, 81, 82, 83, 84, 85, 86, 87, 88, 89, 90] (by decide +kernel) (by decide +kernel)
set_option maxRecDepth 20000 in
theorem gX0_goThrough_X0_isDayOfEarning : GoodIn wsX0_goThrough (va_wsS RX0 27 yX0_isDayOfEarning wsX0_isDayOfEarning) := goodIn_app (goodIn_of _ (by decide +kernel)) ggX0_goThrough_X0_isDayOfEarning
set_option maxRecDepth 20000 in
theorem ggX0_goThrough_X0_pointsOfMonth : GoodIn wsX0_goThrough wsX0_pointsOfMonth := goodIn_r _ [21, 1, 22, 23, 24, 25, 26, 27, 28, 29, 30, 31, 32, 33, 34, 35, 76, 77, 78, 79, 80, 81, 82, 83, 84, 85, 86, 87, 88, 89, 90] (by decide +kernel) (by decide +kernel)
set_option maxRecDepth 20000 in
theorem gX0_goThrough_X0_pointsOfMonth : GoodIn wsX0_goThrough (va_wsS RX0 31 yX0_pointsOfMonth wsX0_pointsOfMonth) := goodIn_app (goodIn_of _ (by decide +kernel)) ggX0_goThrough_X0_pointsOfMonth
set_option maxRecDepth 20000 in
theorem ggX0_goThrough_X0_expiryOf : GoodIn wsX0_goThrough wsX0_expiryOf := goodIn_r _ [38] (by decide +kernel) (by decide +kernel)
set_option maxRecDepth 20000 in
theorem gX0_goThrough_X0_expiryOf : GoodIn wsX0_goThrough (va_wsS RX0 35 yX0_expiryOf wsX0_expiryOf) := goodIn_app (goodIn_of _ (by decide +kernel)) ggX0_goThrough_X0_expiryOf
set_option maxRecDepth 20000 in
theorem ggX0_goThrough_X0_earn : GoodIn wsX0_goThrough wsX0_earn := goodIn_r _ [42, 10, 22, 23, 24, 25, 11, 7, 43, 44, 91, 92, 93, 94, 95, 96, 97, 98, 99, 100, 101] (by decide +kernel) (by decide +kernel)
set_option maxRecDepth 20000 in
theorem gX0_goThrough_X0_earn : GoodIn wsX0_goThrough (wsV RX0 39 RX0 yX0_earn wsX0_earn) := goodIn_app (goodIn_of _ (by decide +kernel)) ggX0_goThrough_X0_earn
set_option maxRecDepth 20000 in
theorem ggX0_goThrough_X0_expireOn : GoodIn wsX0_goThrough wsX0_expireOn := goodIn_r _ [48, 8, 7, 44, 13, 43, 91, 92, 93, 94, 95, 96, 97, 98, 99, 100, 101] (by decide +kernel) (by decide +kernel)
set_option maxRecDepth 20000 in
theorem gX0_goThrough_X0_expireOn : GoodIn wsX0_goThrough (wsV RX0 43 RX0 yX0_expireOn wsX0_expireOn) := goodIn_app (goodIn_of _ (by decide +kernel)) ggX0_goThrough_X0_expireOn
set_option maxRecDepth 20000 in
theorem ggX0_goThrough_X1_leaveOn : GoodIn wsX0_goThrough wsX1_leaveOn := goodIn_r _ [52, 53, 76, 77, 78, 79, 80, 81, 82, 83, 84, 85, 86, 87, 88, 89, 90] (by decide +kernel) (by decide +kernel)
set_option maxRecDepth 20000 in
theorem gX0_goThrough_X1_leaveOn : GoodIn wsX0_goThrough (wsV RX0 47 RX1 yX1_leaveOn wsX1_leaveOn) := goodIn_app (goodIn_of _ (by decide +kernel)) ggX0_goThrough_X1_leaveOn
set_option maxRecDepth 20000 in
theorem ggX0_goThrough_X0_take : GoodIn wsX0_goThrough wsX0_take := goodIn_r _ [57, 58, 59, 24, 60, 10, 15, 12, 61, 62, 63, 5, 64, 8, 7, 43, 65, 66, 67, 68, 22, 23, 25, 91, 92, 93, 94, 95, 96, 97, 98, 99, 100, 101] (by decide +kernel) (by decide +kernel)
set_option maxRecDepth 20000 in
theorem gX0_goThrough_X0_take : GoodIn wsX0_goThrough (wsV RX0 50 RX0 yX0_take wsX0_take) := goodIn_app (goodIn_of _ (by decide +kernel)) ggX0_goThrough_X0_take
set_option maxRecDepth 20000 in
theorem ggX0_goThrough_X0_payOn : GoodIn wsX0_goThrough wsX0_payOn := goodIn_r _ [72, 9, 73, 74, 14, 75, 65, 66, 67, 5, 68, 8, 7, 43, 22, 23, 24, 25, 91, 92, 93, 94, 95, 96, 97, 98, 99, 100, 101, 76, 77, 78, 79, 80, 81, 82, 83, 84, 85, 86, 87, 88, 89, 90] (by decide +kernel) (by decide +kernel)
set_option maxRecDepth 20000 in
theorem gX0_goThrough_X0_payOn : GoodIn wsX0_goThrough (wsV RX0 53 RX0 yX0_payOn wsX0_payOn) := goodIn_app (goodIn_of _ (by decide +kernel)) ggX0_goThrough_X0_payOn
theorem dX0_goThrough_0 : decode cX0_goThrough 0 = .ok (.aload_n 0, 1) := by decide +kernel
theorem dX0_goThrough_1 : decode cX0_goThrough 1 = .ok (.invokevirtual 18, 3) := by decide +kernel
theorem dX0_goThrough_4 : decode cX0_goThrough 4 = .ok (.aload_n 1, 1) := by decide +kernel
theorem dX0_goThrough_5 : decode cX0_goThrough 5 = .ok (.getfield 21, 3) := by decide +kernel
theorem dX0_goThrough_8 : decode cX0_goThrough 8 = .ok (.istore_n 3, 1) := by decide +kernel
theorem dX0_goThrough_9 : decode cX0_goThrough 9 = .ok (.iload_n 3, 1) := by decide +kernel
theorem dX0_goThrough_10 : decode cX0_goThrough 10 = .ok (.iload_n 2, 1) := by decide +kernel
theorem dX0_goThrough_11 : decode cX0_goThrough 11 = .ok (.if_icmp .gt 50, 3) := by decide +kernel
theorem dX0_goThrough_14 : decode cX0_goThrough 14 = .ok (.aload_n 1, 1) := by decide +kernel
theorem dX0_goThrough_15 : decode cX0_goThrough 15 = .ok (.iload_n 3, 1) := by decide +kernel
theorem dX0_goThrough_16 : decode cX0_goThrough 16 = .ok (.invokestatic 27, 3) := by decide +kernel
theorem dX0_goThrough_19 : decode cX0_goThrough 19 = .ok (.ifCond .eq 16, 3) := by decide +kernel
theorem dX0_goThrough_22 : decode cX0_goThrough 22 = .ok (.aload_n 0, 1) := by decide +kernel
theorem dX0_goThrough_23 : decode cX0_goThrough 23 = .ok (.aload_n 1, 1) := by decide +kernel
theorem dX0_goThrough_24 : decode cX0_goThrough 24 = .ok (.iload_n 3, 1) := by decide +kernel
theorem dX0_goThrough_25 : decode cX0_goThrough 25 = .ok (.invokestatic 31, 3) := by decide +kernel
theorem dX0_goThrough_28 : decode cX0_goThrough 28 = .ok (.iload_n 3, 1) := by decide +kernel
theorem dX0_goThrough_29 : decode cX0_goThrough 29 = .ok (.invokestatic 35, 3) := by decide +kernel
theorem dX0_goThrough_32 : decode cX0_goThrough 32 = .ok (.invokevirtual 39, 3) := by decide +kernel
theorem dX0_goThrough_35 : decode cX0_goThrough 35 = .ok (.aload_n 0, 1) := by decide +kernel
theorem dX0_goThrough_36 : decode cX0_goThrough 36 = .ok (.iload_n 3, 1) := by decide +kernel
theorem dX0_goThrough_37 : decode cX0_goThrough 37 = .ok (.invokevirtual 43, 3) := by decide +kernel
theorem dX0_goThrough_40 : decode cX0_goThrough 40 = .ok (.aload_n 0, 1) := by decide +kernel
theorem dX0_goThrough_41 : decode cX0_goThrough 41 = .ok (.aload_n 1, 1) := by decide +kernel
theorem dX0_goThrough_42 : decode cX0_goThrough 42 = .ok (.iload_n 3, 1) := by decide +kernel
theorem dX0_goThrough_43 : decode cX0_goThrough 43 = .ok (.invokevirtual 47, 3) := by decide +kernel
theorem dX0_goThrough_46 : decode cX0_goThrough 46 = .ok (.invokevirtual 50, 3) := by decide +kernel
theorem dX0_goThrough_49 : decode cX0_goThrough 49 = .ok (.aload_n 0, 1) := by decide +kernel
theorem dX0_goThrough_50 : decode cX0_goThrough 50 = .ok (.aload_n 1, 1) := by decide +kernel
theorem dX0_goThrough_51 : decode cX0_goThrough 51 = .ok (.iload_n 3, 1) := by decide +kernel
theorem dX0_goThrough_52 : decode cX0_goThrough 52 = .ok (.invokevirtual 53, 3) := by decide +kernel
theorem dX0_goThrough_55 : decode cX0_goThrough 55 = .ok (.iinc 3 1, 3) := by decide +kernel
theorem dX0_goThrough_58 : decode cX0_goThrough 58 = .ok (.goto (-49), 3) := by decide +kernel
theorem dX0_goThrough_61 : decode cX0_goThrough 61 = .ok (.return_, 1) := by decide +kernel
theorem dX0_pointsInLots_0 : decode cX0_pointsInLots 0 = .ok (.iconst 0, 1) := by decide +kernel
theorem dX0_pointsInLots_1 : decode cX0_pointsInLots 1 = .ok (.istore_n 1, 1) := by decide +kernel
theorem dX0_pointsInLots_2 : decode cX0_pointsInLots 2 = .ok (.aload_n 0, 1) := by decide +kernel
theorem dX0_pointsInLots_3 : decode cX0_pointsInLots 3 = .ok (.getfield 57, 3) := by decide +kernel
theorem dX0_pointsInLots_6 : decode cX0_pointsInLots 6 = .ok (.istore_n 2, 1) := by decide +kernel
theorem dX0_pointsInLots_7 : decode cX0_pointsInLots 7 = .ok (.iload_n 2, 1) := by decide +kernel
theorem dX0_pointsInLots_8 : decode cX0_pointsInLots 8 = .ok (.aload_n 0, 1) := by decide +kernel
theorem dX0_pointsInLots_9 : decode cX0_pointsInLots 9 = .ok (.getfield 60, 3) := by decide +kernel
theorem dX0_pointsInLots_12 : decode cX0_pointsInLots 12 = .ok (.if_icmp .ge 18, 3) := by decide +kernel
theorem dX0_pointsInLots_15 : decode cX0_pointsInLots 15 = .ok (.iload_n 1, 1) := by decide +kernel
theorem dX0_pointsInLots_16 : decode cX0_pointsInLots 16 = .ok (.aload_n 0, 1) := by decide +kernel
theorem dX0_pointsInLots_17 : decode cX0_pointsInLots 17 = .ok (.getfield 9, 3) := by decide +kernel
theorem dX0_pointsInLots_20 : decode cX0_pointsInLots 20 = .ok (.iload_n 2, 1) := by decide +kernel
theorem dX0_pointsInLots_21 : decode cX0_pointsInLots 21 = .ok (.iaload, 1) := by decide +kernel
theorem dX0_pointsInLots_22 : decode cX0_pointsInLots 22 = .ok (.iadd, 1) := by decide +kernel
theorem dX0_pointsInLots_23 : decode cX0_pointsInLots 23 = .ok (.istore_n 1, 1) := by decide +kernel
theorem dX0_pointsInLots_24 : decode cX0_pointsInLots 24 = .ok (.iinc 2 1, 3) := by decide +kernel
theorem dX0_pointsInLots_27 : decode cX0_pointsInLots 27 = .ok (.goto (-20), 3) := by decide +kernel
theorem dX0_pointsInLots_30 : decode cX0_pointsInLots 30 = .ok (.iload_n 1, 1) := by decide +kernel
theorem dX0_pointsInLots_31 : decode cX0_pointsInLots 31 = .ok (.ireturn, 1) := by decide +kernel
theorem dX0_firstExpiry_0 : decode cX0_firstExpiry 0 = .ok (.aload_n 0, 1) := by decide +kernel
theorem dX0_firstExpiry_1 : decode cX0_firstExpiry 1 = .ok (.getfield 57, 3) := by decide +kernel
theorem dX0_firstExpiry_4 : decode cX0_firstExpiry 4 = .ok (.istore_n 1, 1) := by decide +kernel
theorem dX0_firstExpiry_5 : decode cX0_firstExpiry 5 = .ok (.iload_n 1, 1) := by decide +kernel
theorem dX0_firstExpiry_6 : decode cX0_firstExpiry 6 = .ok (.aload_n 0, 1) := by decide +kernel
theorem dX0_firstExpiry_7 : decode cX0_firstExpiry 7 = .ok (.getfield 60, 3) := by decide +kernel
theorem dX0_firstExpiry_10 : decode cX0_firstExpiry 10 = .ok (.if_icmp .ge 25, 3) := by decide +kernel
theorem dX0_firstExpiry_13 : decode cX0_firstExpiry 13 = .ok (.aload_n 0, 1) := by decide +kernel
theorem dX0_firstExpiry_14 : decode cX0_firstExpiry 14 = .ok (.getfield 9, 3) := by decide +kernel
theorem dX0_firstExpiry_17 : decode cX0_firstExpiry 17 = .ok (.iload_n 1, 1) := by decide +kernel
theorem dX0_firstExpiry_18 : decode cX0_firstExpiry 18 = .ok (.iaload, 1) := by decide +kernel
theorem dX0_firstExpiry_19 : decode cX0_firstExpiry 19 = .ok (.ifCond .le 10, 3) := by decide +kernel
theorem dX0_firstExpiry_22 : decode cX0_firstExpiry 22 = .ok (.aload_n 0, 1) := by decide +kernel
theorem dX0_firstExpiry_23 : decode cX0_firstExpiry 23 = .ok (.getfield 15, 3) := by decide +kernel
theorem dX0_firstExpiry_26 : decode cX0_firstExpiry 26 = .ok (.iload_n 1, 1) := by decide +kernel
theorem dX0_firstExpiry_27 : decode cX0_firstExpiry 27 = .ok (.iaload, 1) := by decide +kernel
theorem dX0_firstExpiry_28 : decode cX0_firstExpiry 28 = .ok (.ireturn, 1) := by decide +kernel
theorem dX0_firstExpiry_29 : decode cX0_firstExpiry 29 = .ok (.iinc 1 1, 3) := by decide +kernel
theorem dX0_firstExpiry_32 : decode cX0_firstExpiry 32 = .ok (.goto (-27), 3) := by decide +kernel
theorem dX0_firstExpiry_35 : decode cX0_firstExpiry 35 = .ok (.iconst (-1), 1) := by decide +kernel
theorem dX0_firstExpiry_36 : decode cX0_firstExpiry 36 = .ok (.ireturn, 1) := by decide +kernel
theorem dX0_clear_0 : decode cX0_clear 0 = .ok (.aload_n 0, 1) := by decide +kernel
theorem dX0_clear_1 : decode cX0_clear 1 = .ok (.iconst 0, 1) := by decide +kernel
theorem dX0_clear_2 : decode cX0_clear 2 = .ok (.putfield 60, 3) := by decide +kernel
theorem dX0_clear_5 : decode cX0_clear 5 = .ok (.aload_n 0, 1) := by decide +kernel
theorem dX0_clear_6 : decode cX0_clear 6 = .ok (.iconst 0, 1) := by decide +kernel
theorem dX0_clear_7 : decode cX0_clear 7 = .ok (.putfield 57, 3) := by decide +kernel
theorem dX0_clear_10 : decode cX0_clear 10 = .ok (.aload_n 0, 1) := by decide +kernel
theorem dX0_clear_11 : decode cX0_clear 11 = .ok (.iconst 0, 1) := by decide +kernel
theorem dX0_clear_12 : decode cX0_clear 12 = .ok (.putfield 63, 3) := by decide +kernel
theorem dX0_clear_15 : decode cX0_clear 15 = .ok (.aload_n 0, 1) := by decide +kernel
theorem dX0_clear_16 : decode cX0_clear 16 = .ok (.iconst 0, 1) := by decide +kernel
theorem dX0_clear_17 : decode cX0_clear 17 = .ok (.putfield 66, 3) := by decide +kernel
theorem dX0_clear_20 : decode cX0_clear 20 = .ok (.aload_n 0, 1) := by decide +kernel
theorem dX0_clear_21 : decode cX0_clear 21 = .ok (.iconst 0, 1) := by decide +kernel
theorem dX0_clear_22 : decode cX0_clear 22 = .ok (.putfield 69, 3) := by decide +kernel
theorem dX0_clear_25 : decode cX0_clear 25 = .ok (.aload_n 0, 1) := by decide +kernel
theorem dX0_clear_26 : decode cX0_clear 26 = .ok (.iconst 0, 1) := by decide +kernel
theorem dX0_clear_27 : decode cX0_clear 27 = .ok (.putfield 72, 3) := by decide +kernel
theorem dX0_clear_30 : decode cX0_clear 30 = .ok (.aload_n 0, 1) := by decide +kernel
theorem dX0_clear_31 : decode cX0_clear 31 = .ok (.iconst 0, 1) := by decide +kernel
theorem dX0_clear_32 : decode cX0_clear 32 = .ok (.putfield 75, 3) := by decide +kernel
theorem dX0_clear_35 : decode cX0_clear 35 = .ok (.aload_n 0, 1) := by decide +kernel
theorem dX0_clear_36 : decode cX0_clear 36 = .ok (.iconst 0, 1) := by decide +kernel
theorem dX0_clear_37 : decode cX0_clear 37 = .ok (.putfield 78, 3) := by decide +kernel
theorem dX0_clear_40 : decode cX0_clear 40 = .ok (.aload_n 0, 1) := by decide +kernel
theorem dX0_clear_41 : decode cX0_clear 41 = .ok (.iconst 0, 1) := by decide +kernel
theorem dX0_clear_42 : decode cX0_clear 42 = .ok (.putfield 81, 3) := by decide +kernel
theorem dX0_clear_45 : decode cX0_clear 45 = .ok (.return_, 1) := by decide +kernel
theorem dX0_isDayOfEarning_0 : decode cX0_isDayOfEarning 0 = .ok (.iload_n 1, 1) := by decide +kernel
theorem dX0_isDayOfEarning_1 : decode cX0_isDayOfEarning 1 = .ok (.bipush 30, 2) := by decide +kernel
theorem dX0_isDayOfEarning_3 : decode cX0_isDayOfEarning 3 = .ok (.irem, 1) := by decide +kernel
theorem dX0_isDayOfEarning_4 : decode cX0_isDayOfEarning 4 = .ok (.ifCond .ne 18, 3) := by decide +kernel
theorem dX0_isDayOfEarning_7 : decode cX0_isDayOfEarning 7 = .ok (.iload_n 1, 1) := by decide +kernel
theorem dX0_isDayOfEarning_8 : decode cX0_isDayOfEarning 8 = .ok (.bipush 30, 2) := by decide +kernel
theorem dX0_isDayOfEarning_10 : decode cX0_isDayOfEarning 10 = .ok (.isub, 1) := by decide +kernel
theorem dX0_isDayOfEarning_11 : decode cX0_isDayOfEarning 11 = .ok (.aload_n 0, 1) := by decide +kernel
theorem dX0_isDayOfEarning_12 : decode cX0_isDayOfEarning 12 = .ok (.getfield 21, 3) := by decide +kernel
theorem dX0_isDayOfEarning_15 : decode cX0_isDayOfEarning 15 = .ok (.if_icmp .lt 7, 3) := by decide +kernel
theorem dX0_isDayOfEarning_18 : decode cX0_isDayOfEarning 18 = .ok (.iconst 1, 1) := by decide +kernel
theorem dX0_isDayOfEarning_19 : decode cX0_isDayOfEarning 19 = .ok (.goto 4, 3) := by decide +kernel
theorem dX0_isDayOfEarning_22 : decode cX0_isDayOfEarning 22 = .ok (.iconst 0, 1) := by decide +kernel
theorem dX0_isDayOfEarning_23 : decode cX0_isDayOfEarning 23 = .ok (.ireturn, 1) := by decide +kernel
set_option maxRecDepth 20000 in
theorem ggX0_pointsOfMonth_X1_hoursOn : GoodIn wsX0_pointsOfMonth wsX1_hoursOn := goodIn_r _ [11, 12, 13, 14, 15, 16, 17, 18, 19, 20, 21, 22, 23, 24, 25, 26, 27, 28, 29, 30] (by decide +kernel) (by decide +kernel)
set_option maxRecDepth 20000 in
theorem gX0_pointsOfMonth_X1_hoursOn : GoodIn wsX0_pointsOfMonth (wsV RX0 93 RX1 yX1_hoursOn wsX1_hoursOn) := goodIn_app (goodIn_of _ (by decide +kernel)) ggX0_pointsOfMonth_X1_hoursOn
theorem dX0_pointsOfMonth_0 : decode cX0_pointsOfMonth 0 = .ok (.iload_n 1, 1) := by decide +kernel
theorem dX0_pointsOfMonth_1 : decode cX0_pointsOfMonth 1 = .ok (.aload_n 0, 1) := by decide +kernel
theorem dX0_pointsOfMonth_2 : decode cX0_pointsOfMonth 2 = .ok (.getfield 21, 3) := by decide +kernel
theorem dX0_pointsOfMonth_5 : decode cX0_pointsOfMonth 5 = .ok (.isub, 1) := by decide +kernel
theorem dX0_pointsOfMonth_6 : decode cX0_pointsOfMonth 6 = .ok (.sipush 360, 3) := by decide +kernel
theorem dX0_pointsOfMonth_9 : decode cX0_pointsOfMonth 9 = .ok (.idiv, 1) := by decide +kernel
theorem dX0_pointsOfMonth_10 : decode cX0_pointsOfMonth 10 = .ok (.istore_n 2, 1) := by decide +kernel
theorem dX0_pointsOfMonth_11 : decode cX0_pointsOfMonth 11 = .ok (.iload_n 2, 1) := by decide +kernel
theorem dX0_pointsOfMonth_12 : decode cX0_pointsOfMonth 12 = .ok (.iconst 3, 1) := by decide +kernel
theorem dX0_pointsOfMonth_13 : decode cX0_pointsOfMonth 13 = .ok (.idiv, 1) := by decide +kernel
theorem dX0_pointsOfMonth_14 : decode cX0_pointsOfMonth 14 = .ok (.iconst 2, 1) := by decide +kernel
theorem dX0_pointsOfMonth_15 : decode cX0_pointsOfMonth 15 = .ok (.imul, 1) := by decide +kernel
theorem dX0_pointsOfMonth_16 : decode cX0_pointsOfMonth 16 = .ok (.bipush 10, 2) := by decide +kernel
theorem dX0_pointsOfMonth_18 : decode cX0_pointsOfMonth 18 = .ok (.invokestatic 84, 3) := by decide +kernel
theorem dX0_pointsOfMonth_21 : decode cX0_pointsOfMonth 21 = .ok (.istore_n 3, 1) := by decide +kernel
theorem dX0_pointsOfMonth_22 : decode cX0_pointsOfMonth 22 = .ok (.iconst 2, 1) := by decide +kernel
theorem dX0_pointsOfMonth_23 : decode cX0_pointsOfMonth 23 = .ok (.aload_n 0, 1) := by decide +kernel
theorem dX0_pointsOfMonth_24 : decode cX0_pointsOfMonth 24 = .ok (.getfield 90, 3) := by decide +kernel
theorem dX0_pointsOfMonth_27 : decode cX0_pointsOfMonth 27 = .ok (.iload_n 3, 1) := by decide +kernel
theorem dX0_pointsOfMonth_28 : decode cX0_pointsOfMonth 28 = .ok (.iadd, 1) := by decide +kernel
theorem dX0_pointsOfMonth_29 : decode cX0_pointsOfMonth 29 = .ok (.imul, 1) := by decide +kernel
theorem dX0_pointsOfMonth_30 : decode cX0_pointsOfMonth 30 = .ok (.aload_n 0, 1) := by decide +kernel
theorem dX0_pointsOfMonth_31 : decode cX0_pointsOfMonth 31 = .ok (.iload_n 1, 1) := by decide +kernel
theorem dX0_pointsOfMonth_32 : decode cX0_pointsOfMonth 32 = .ok (.iconst 1, 1) := by decide +kernel
theorem dX0_pointsOfMonth_33 : decode cX0_pointsOfMonth 33 = .ok (.isub, 1) := by decide +kernel
theorem dX0_pointsOfMonth_34 : decode cX0_pointsOfMonth 34 = .ok (.invokevirtual 93, 3) := by decide +kernel
theorem dX0_pointsOfMonth_37 : decode cX0_pointsOfMonth 37 = .ok (.imul, 1) := by decide +kernel
theorem dX0_pointsOfMonth_38 : decode cX0_pointsOfMonth 38 = .ok (.ireturn, 1) := by decide +kernel
theorem dX0_expiryOf_0 : decode cX0_expiryOf 0 = .ok (.iload_n 0, 1) := by decide +kernel
theorem dX0_expiryOf_1 : decode cX0_expiryOf 1 = .ok (.iconst 1, 1) := by decide +kernel
theorem dX0_expiryOf_2 : decode cX0_expiryOf 2 = .ok (.isub, 1) := by decide +kernel
theorem dX0_expiryOf_3 : decode cX0_expiryOf 3 = .ok (.sipush 360, 3) := by decide +kernel
theorem dX0_expiryOf_6 : decode cX0_expiryOf 6 = .ok (.idiv, 1) := by decide +kernel
theorem dX0_expiryOf_7 : decode cX0_expiryOf 7 = .ok (.istore_n 1, 1) := by decide +kernel
theorem dX0_expiryOf_8 : decode cX0_expiryOf 8 = .ok (.iload_n 1, 1) := by decide +kernel
theorem dX0_expiryOf_9 : decode cX0_expiryOf 9 = .ok (.iconst 1, 1) := by decide +kernel
theorem dX0_expiryOf_10 : decode cX0_expiryOf 10 = .ok (.iadd, 1) := by decide +kernel
theorem dX0_expiryOf_11 : decode cX0_expiryOf 11 = .ok (.sipush 360, 3) := by decide +kernel
theorem dX0_expiryOf_14 : decode cX0_expiryOf 14 = .ok (.imul, 1) := by decide +kernel
theorem dX0_expiryOf_15 : decode cX0_expiryOf 15 = .ok (.bipush 90, 2) := by decide +kernel
theorem dX0_expiryOf_17 : decode cX0_expiryOf 17 = .ok (.iadd, 1) := by decide +kernel
theorem dX0_expiryOf_18 : decode cX0_expiryOf 18 = .ok (.ireturn, 1) := by decide +kernel
theorem dX0_earn_0 : decode cX0_earn 0 = .ok (.iload_n 1, 1) := by decide +kernel
theorem dX0_earn_1 : decode cX0_earn 1 = .ok (.aload_n 0, 1) := by decide +kernel
theorem dX0_earn_2 : decode cX0_earn 2 = .ok (.getfield 66, 3) := by decide +kernel
theorem dX0_earn_5 : decode cX0_earn 5 = .ok (.invokestatic 84, 3) := by decide +kernel
theorem dX0_earn_8 : decode cX0_earn 8 = .ok (.istore_n 3, 1) := by decide +kernel
theorem dX0_earn_9 : decode cX0_earn 9 = .ok (.aload_n 0, 1) := by decide +kernel
theorem dX0_earn_10 : decode cX0_earn 10 = .ok (.dup, 1) := by decide +kernel
theorem dX0_earn_11 : decode cX0_earn 11 = .ok (.getfield 66, 3) := by decide +kernel
theorem dX0_earn_14 : decode cX0_earn 14 = .ok (.iload_n 3, 1) := by decide +kernel
theorem dX0_earn_15 : decode cX0_earn 15 = .ok (.isub, 1) := by decide +kernel
theorem dX0_earn_16 : decode cX0_earn 16 = .ok (.putfield 66, 3) := by decide +kernel
theorem dX0_earn_19 : decode cX0_earn 19 = .ok (.aload_n 0, 1) := by decide +kernel
theorem dX0_earn_20 : decode cX0_earn 20 = .ok (.dup, 1) := by decide +kernel
theorem dX0_earn_21 : decode cX0_earn 21 = .ok (.getfield 69, 3) := by decide +kernel
theorem dX0_earn_24 : decode cX0_earn 24 = .ok (.iload_n 1, 1) := by decide +kernel
theorem dX0_earn_25 : decode cX0_earn 25 = .ok (.iadd, 1) := by decide +kernel
theorem dX0_earn_26 : decode cX0_earn 26 = .ok (.putfield 69, 3) := by decide +kernel
theorem dX0_earn_29 : decode cX0_earn 29 = .ok (.aload_n 0, 1) := by decide +kernel
theorem dX0_earn_30 : decode cX0_earn 30 = .ok (.getfield 60, 3) := by decide +kernel
theorem dX0_earn_33 : decode cX0_earn 33 = .ok (.aload_n 0, 1) := by decide +kernel
theorem dX0_earn_34 : decode cX0_earn 34 = .ok (.getfield 9, 3) := by decide +kernel
theorem dX0_earn_37 : decode cX0_earn 37 = .ok (.arraylength, 1) := by decide +kernel
theorem dX0_earn_38 : decode cX0_earn 38 = .ok (.if_icmp .ge 35, 3) := by decide +kernel
theorem dX0_earn_41 : decode cX0_earn 41 = .ok (.aload_n 0, 1) := by decide +kernel
theorem dX0_earn_42 : decode cX0_earn 42 = .ok (.getfield 9, 3) := by decide +kernel
theorem dX0_earn_45 : decode cX0_earn 45 = .ok (.aload_n 0, 1) := by decide +kernel
theorem dX0_earn_46 : decode cX0_earn 46 = .ok (.getfield 60, 3) := by decide +kernel
theorem dX0_earn_49 : decode cX0_earn 49 = .ok (.iload_n 1, 1) := by decide +kernel
theorem dX0_earn_50 : decode cX0_earn 50 = .ok (.iload_n 3, 1) := by decide +kernel
theorem dX0_earn_51 : decode cX0_earn 51 = .ok (.isub, 1) := by decide +kernel
theorem dX0_earn_52 : decode cX0_earn 52 = .ok (.iastore, 1) := by decide +kernel
theorem dX0_earn_53 : decode cX0_earn 53 = .ok (.aload_n 0, 1) := by decide +kernel
theorem dX0_earn_54 : decode cX0_earn 54 = .ok (.getfield 15, 3) := by decide +kernel
theorem dX0_earn_57 : decode cX0_earn 57 = .ok (.aload_n 0, 1) := by decide +kernel
theorem dX0_earn_58 : decode cX0_earn 58 = .ok (.getfield 60, 3) := by decide +kernel
theorem dX0_earn_61 : decode cX0_earn 61 = .ok (.iload_n 2, 1) := by decide +kernel
theorem dX0_earn_62 : decode cX0_earn 62 = .ok (.iastore, 1) := by decide +kernel
theorem dX0_earn_63 : decode cX0_earn 63 = .ok (.aload_n 0, 1) := by decide +kernel
theorem dX0_earn_64 : decode cX0_earn 64 = .ok (.dup, 1) := by decide +kernel
theorem dX0_earn_65 : decode cX0_earn 65 = .ok (.getfield 60, 3) := by decide +kernel
theorem dX0_earn_68 : decode cX0_earn 68 = .ok (.iconst 1, 1) := by decide +kernel
theorem dX0_earn_69 : decode cX0_earn 69 = .ok (.iadd, 1) := by decide +kernel
theorem dX0_earn_70 : decode cX0_earn 70 = .ok (.putfield 60, 3) := by decide +kernel
theorem dX0_earn_73 : decode cX0_earn 73 = .ok (.return_, 1) := by decide +kernel
theorem dX0_expireOn_0 : decode cX0_expireOn 0 = .ok (.aload_n 0, 1) := by decide +kernel
theorem dX0_expireOn_1 : decode cX0_expireOn 1 = .ok (.getfield 57, 3) := by decide +kernel
theorem dX0_expireOn_4 : decode cX0_expireOn 4 = .ok (.aload_n 0, 1) := by decide +kernel
theorem dX0_expireOn_5 : decode cX0_expireOn 5 = .ok (.getfield 60, 3) := by decide +kernel
theorem dX0_expireOn_8 : decode cX0_expireOn 8 = .ok (.if_icmp .ge 47, 3) := by decide +kernel
theorem dX0_expireOn_11 : decode cX0_expireOn 11 = .ok (.aload_n 0, 1) := by decide +kernel
theorem dX0_expireOn_12 : decode cX0_expireOn 12 = .ok (.getfield 15, 3) := by decide +kernel
theorem dX0_expireOn_15 : decode cX0_expireOn 15 = .ok (.aload_n 0, 1) := by decide +kernel
theorem dX0_expireOn_16 : decode cX0_expireOn 16 = .ok (.getfield 57, 3) := by decide +kernel
theorem dX0_expireOn_19 : decode cX0_expireOn 19 = .ok (.iaload, 1) := by decide +kernel
theorem dX0_expireOn_20 : decode cX0_expireOn 20 = .ok (.iload_n 1, 1) := by decide +kernel
theorem dX0_expireOn_21 : decode cX0_expireOn 21 = .ok (.if_icmp .gt 34, 3) := by decide +kernel
theorem dX0_expireOn_24 : decode cX0_expireOn 24 = .ok (.aload_n 0, 1) := by decide +kernel
theorem dX0_expireOn_25 : decode cX0_expireOn 25 = .ok (.dup, 1) := by decide +kernel
theorem dX0_expireOn_26 : decode cX0_expireOn 26 = .ok (.getfield 75, 3) := by decide +kernel
theorem dX0_expireOn_29 : decode cX0_expireOn 29 = .ok (.aload_n 0, 1) := by decide +kernel
theorem dX0_expireOn_30 : decode cX0_expireOn 30 = .ok (.getfield 9, 3) := by decide +kernel
theorem dX0_expireOn_33 : decode cX0_expireOn 33 = .ok (.aload_n 0, 1) := by decide +kernel
theorem dX0_expireOn_34 : decode cX0_expireOn 34 = .ok (.getfield 57, 3) := by decide +kernel
theorem dX0_expireOn_37 : decode cX0_expireOn 37 = .ok (.iaload, 1) := by decide +kernel
theorem dX0_expireOn_38 : decode cX0_expireOn 38 = .ok (.iadd, 1) := by decide +kernel
theorem dX0_expireOn_39 : decode cX0_expireOn 39 = .ok (.putfield 75, 3) := by decide +kernel
theorem dX0_expireOn_42 : decode cX0_expireOn 42 = .ok (.aload_n 0, 1) := by decide +kernel
theorem dX0_expireOn_43 : decode cX0_expireOn 43 = .ok (.dup, 1) := by decide +kernel
theorem dX0_expireOn_44 : decode cX0_expireOn 44 = .ok (.getfield 57, 3) := by decide +kernel
theorem dX0_expireOn_47 : decode cX0_expireOn 47 = .ok (.iconst 1, 1) := by decide +kernel
theorem dX0_expireOn_48 : decode cX0_expireOn 48 = .ok (.iadd, 1) := by decide +kernel
theorem dX0_expireOn_49 : decode cX0_expireOn 49 = .ok (.putfield 57, 3) := by decide +kernel
theorem dX0_expireOn_52 : decode cX0_expireOn 52 = .ok (.goto (-52), 3) := by decide +kernel
theorem dX0_expireOn_55 : decode cX0_expireOn 55 = .ok (.return_, 1) := by decide +kernel
set_option maxRecDepth 20000 in
theorem ggX0_take_X0_pointsInLots : GoodIn wsX0_take wsX0_pointsInLots := goodIn_r _ [12, 13, 14, 15, 23, 24, 25, 26, 27, 28, 29, 30, 31, 32, 33] (by decide +kernel) (by decide +kernel)
set_option maxRecDepth 20000 in
theorem gX0_take_X0_pointsInLots : GoodIn wsX0_take (wsV RX0 96 RX0 yX0_pointsInLots wsX0_pointsInLots) := goodIn_app (goodIn_of _ (by decide +kernel)) ggX0_take_X0_pointsInLots
set_option maxRecDepth 20000 in
theorem ggX0_take_X0_drawFromLots : GoodIn wsX0_take wsX0_drawFromLots := goodIn_r _ [19, 13, 14, 15, 20, 21, 3, 22, 23, 24, 25, 26, 27, 28, 29, 30, 31, 32, 33] (by decide +kernel) (by decide +kernel)
set_option maxRecDepth 20000 in
theorem gX0_take_X0_drawFromLots : GoodIn wsX0_take (wsV RX0 103 RX0 yX0_drawFromLots wsX0_drawFromLots) := goodIn_app (goodIn_of _ (by decide +kernel)) ggX0_take_X0_drawFromLots
theorem dX0_take_0 : decode cX0_take 0 = .ok (.iload_n 1, 1) := by decide +kernel
theorem dX0_take_1 : decode cX0_take 1 = .ok (.ifCond .ne 4, 3) := by decide +kernel
theorem dX0_take_4 : decode cX0_take 4 = .ok (.return_, 1) := by decide +kernel
theorem dX0_take_5 : decode cX0_take 5 = .ok (.iload_n 1, 1) := by decide +kernel
theorem dX0_take_6 : decode cX0_take 6 = .ok (.iconst 2, 1) := by decide +kernel
theorem dX0_take_7 : decode cX0_take 7 = .ok (.if_icmp .ne 9, 3) := by decide +kernel
theorem dX0_take_10 : decode cX0_take 10 = .ok (.sipush 480, 3) := by decide +kernel
theorem dX0_take_13 : decode cX0_take 13 = .ok (.goto 6, 3) := by decide +kernel
theorem dX0_take_16 : decode cX0_take 16 = .ok (.sipush 240, 3) := by decide +kernel
theorem dX0_take_19 : decode cX0_take 19 = .ok (.istore_n 2, 1) := by decide +kernel
theorem dX0_take_20 : decode cX0_take 20 = .ok (.iload_n 2, 1) := by decide +kernel
theorem dX0_take_21 : decode cX0_take 21 = .ok (.aload_n 0, 1) := by decide +kernel
theorem dX0_take_22 : decode cX0_take 22 = .ok (.invokevirtual 96, 3) := by decide +kernel
theorem dX0_take_25 : decode cX0_take 25 = .ok (.isub, 1) := by decide +kernel
theorem dX0_take_26 : decode cX0_take 26 = .ok (.iconst 0, 1) := by decide +kernel
theorem dX0_take_27 : decode cX0_take 27 = .ok (.invokestatic 100, 3) := by decide +kernel
theorem dX0_take_30 : decode cX0_take 30 = .ok (.istore_n 3, 1) := by decide +kernel
theorem dX0_take_31 : decode cX0_take 31 = .ok (.aload_n 0, 1) := by decide +kernel
theorem dX0_take_32 : decode cX0_take 32 = .ok (.getfield 66, 3) := by decide +kernel
theorem dX0_take_35 : decode cX0_take 35 = .ok (.iload_n 3, 1) := by decide +kernel
theorem dX0_take_36 : decode cX0_take 36 = .ok (.iadd, 1) := by decide +kernel
theorem dX0_take_37 : decode cX0_take 37 = .ok (.sipush 2400, 3) := by decide +kernel
theorem dX0_take_40 : decode cX0_take 40 = .ok (.if_icmp .le 14, 3) := by decide +kernel
theorem dX0_take_43 : decode cX0_take 43 = .ok (.aload_n 0, 1) := by decide +kernel
theorem dX0_take_44 : decode cX0_take 44 = .ok (.dup, 1) := by decide +kernel
theorem dX0_take_45 : decode cX0_take 45 = .ok (.getfield 81, 3) := by decide +kernel
theorem dX0_take_48 : decode cX0_take 48 = .ok (.iconst 1, 1) := by decide +kernel
theorem dX0_take_49 : decode cX0_take 49 = .ok (.iadd, 1) := by decide +kernel
theorem dX0_take_50 : decode cX0_take 50 = .ok (.putfield 81, 3) := by decide +kernel
theorem dX0_take_53 : decode cX0_take 53 = .ok (.return_, 1) := by decide +kernel
theorem dX0_take_54 : decode cX0_take 54 = .ok (.aload_n 0, 1) := by decide +kernel
theorem dX0_take_55 : decode cX0_take 55 = .ok (.iload_n 2, 1) := by decide +kernel
theorem dX0_take_56 : decode cX0_take 56 = .ok (.invokevirtual 103, 3) := by decide +kernel
theorem dX0_take_59 : decode cX0_take 59 = .ok (.pop, 1) := by decide +kernel
theorem dX0_take_60 : decode cX0_take 60 = .ok (.aload_n 0, 1) := by decide +kernel
theorem dX0_take_61 : decode cX0_take 61 = .ok (.dup, 1) := by decide +kernel
theorem dX0_take_62 : decode cX0_take 62 = .ok (.getfield 66, 3) := by decide +kernel
theorem dX0_take_65 : decode cX0_take 65 = .ok (.iload_n 3, 1) := by decide +kernel
theorem dX0_take_66 : decode cX0_take 66 = .ok (.iadd, 1) := by decide +kernel
theorem dX0_take_67 : decode cX0_take 67 = .ok (.putfield 66, 3) := by decide +kernel
theorem dX0_take_70 : decode cX0_take 70 = .ok (.aload_n 0, 1) := by decide +kernel
theorem dX0_take_71 : decode cX0_take 71 = .ok (.dup, 1) := by decide +kernel
theorem dX0_take_72 : decode cX0_take 72 = .ok (.getfield 72, 3) := by decide +kernel
theorem dX0_take_75 : decode cX0_take 75 = .ok (.iload_n 2, 1) := by decide +kernel
theorem dX0_take_76 : decode cX0_take 76 = .ok (.iadd, 1) := by decide +kernel
theorem dX0_take_77 : decode cX0_take 77 = .ok (.putfield 72, 3) := by decide +kernel
theorem dX0_take_80 : decode cX0_take 80 = .ok (.return_, 1) := by decide +kernel
set_option maxRecDepth 20000 in
theorem ggX0_payOn_X0_drawFromLots : GoodIn wsX0_payOn wsX0_drawFromLots := goodIn_r _ [10, 11, 12, 13, 14, 15, 16, 17, 18, 19, 20, 21, 22, 23, 24, 25, 26, 27, 28] (by decide +kernel) (by decide +kernel)
set_option maxRecDepth 20000 in
theorem gX0_payOn_X0_drawFromLots : GoodIn wsX0_payOn (wsV RX0 103 RX0 yX0_drawFromLots wsX0_drawFromLots) := goodIn_app (goodIn_of _ (by decide +kernel)) ggX0_payOn_X0_drawFromLots
theorem dX0_payOn_0 : decode cX0_payOn 0 = .ok (.aload_n 0, 1) := by decide +kernel
theorem dX0_payOn_1 : decode cX0_payOn 1 = .ok (.getfield 63, 3) := by decide +kernel
theorem dX0_payOn_4 : decode cX0_payOn 4 = .ok (.aload_n 1, 1) := by decide +kernel
theorem dX0_payOn_5 : decode cX0_payOn 5 = .ok (.getfield 106, 3) := by decide +kernel
theorem dX0_payOn_8 : decode cX0_payOn 8 = .ok (.if_icmp .ge 51, 3) := by decide +kernel
theorem dX0_payOn_11 : decode cX0_payOn 11 = .ok (.aload_n 1, 1) := by decide +kernel
theorem dX0_payOn_12 : decode cX0_payOn 12 = .ok (.getfield 109, 3) := by decide +kernel
theorem dX0_payOn_15 : decode cX0_payOn 15 = .ok (.aload_n 0, 1) := by decide +kernel
theorem dX0_payOn_16 : decode cX0_payOn 16 = .ok (.getfield 63, 3) := by decide +kernel
theorem dX0_payOn_19 : decode cX0_payOn 19 = .ok (.iaload, 1) := by decide +kernel
theorem dX0_payOn_20 : decode cX0_payOn 20 = .ok (.iload_n 2, 1) := by decide +kernel
theorem dX0_payOn_21 : decode cX0_payOn 21 = .ok (.if_icmp .gt 38, 3) := by decide +kernel
theorem dX0_payOn_24 : decode cX0_payOn 24 = .ok (.aload_n 0, 1) := by decide +kernel
theorem dX0_payOn_25 : decode cX0_payOn 25 = .ok (.dup, 1) := by decide +kernel
theorem dX0_payOn_26 : decode cX0_payOn 26 = .ok (.getfield 78, 3) := by decide +kernel
theorem dX0_payOn_29 : decode cX0_payOn 29 = .ok (.aload_n 0, 1) := by decide +kernel
theorem dX0_payOn_30 : decode cX0_payOn 30 = .ok (.aload_n 1, 1) := by decide +kernel
theorem dX0_payOn_31 : decode cX0_payOn 31 = .ok (.getfield 112, 3) := by decide +kernel
theorem dX0_payOn_34 : decode cX0_payOn 34 = .ok (.aload_n 0, 1) := by decide +kernel
theorem dX0_payOn_35 : decode cX0_payOn 35 = .ok (.getfield 63, 3) := by decide +kernel
theorem dX0_payOn_38 : decode cX0_payOn 38 = .ok (.iaload, 1) := by decide +kernel
theorem dX0_payOn_39 : decode cX0_payOn 39 = .ok (.invokevirtual 103, 3) := by decide +kernel
theorem dX0_payOn_42 : decode cX0_payOn 42 = .ok (.iadd, 1) := by decide +kernel
theorem dX0_payOn_43 : decode cX0_payOn 43 = .ok (.putfield 78, 3) := by decide +kernel
theorem dX0_payOn_46 : decode cX0_payOn 46 = .ok (.aload_n 0, 1) := by decide +kernel
theorem dX0_payOn_47 : decode cX0_payOn 47 = .ok (.dup, 1) := by decide +kernel
theorem dX0_payOn_48 : decode cX0_payOn 48 = .ok (.getfield 63, 3) := by decide +kernel
theorem dX0_payOn_51 : decode cX0_payOn 51 = .ok (.iconst 1, 1) := by decide +kernel
theorem dX0_payOn_52 : decode cX0_payOn 52 = .ok (.iadd, 1) := by decide +kernel
theorem dX0_payOn_53 : decode cX0_payOn 53 = .ok (.putfield 63, 3) := by decide +kernel
theorem dX0_payOn_56 : decode cX0_payOn 56 = .ok (.goto (-56), 3) := by decide +kernel
theorem dX0_payOn_59 : decode cX0_payOn 59 = .ok (.return_, 1) := by decide +kernel
theorem dX0_drawFromLots_0 : decode cX0_drawFromLots 0 = .ok (.iload_n 1, 1) := by decide +kernel
theorem dX0_drawFromLots_1 : decode cX0_drawFromLots 1 = .ok (.istore_n 2, 1) := by decide +kernel
theorem dX0_drawFromLots_2 : decode cX0_drawFromLots 2 = .ok (.aload_n 0, 1) := by decide +kernel
theorem dX0_drawFromLots_3 : decode cX0_drawFromLots 3 = .ok (.getfield 57, 3) := by decide +kernel
theorem dX0_drawFromLots_6 : decode cX0_drawFromLots 6 = .ok (.istore_n 3, 1) := by decide +kernel
theorem dX0_drawFromLots_7 : decode cX0_drawFromLots 7 = .ok (.iload_n 3, 1) := by decide +kernel
theorem dX0_drawFromLots_8 : decode cX0_drawFromLots 8 = .ok (.aload_n 0, 1) := by decide +kernel
theorem dX0_drawFromLots_9 : decode cX0_drawFromLots 9 = .ok (.getfield 60, 3) := by decide +kernel
theorem dX0_drawFromLots_12 : decode cX0_drawFromLots 12 = .ok (.if_icmp .ge 41, 3) := by decide +kernel
theorem dX0_drawFromLots_15 : decode cX0_drawFromLots 15 = .ok (.iload_n 2, 1) := by decide +kernel
theorem dX0_drawFromLots_16 : decode cX0_drawFromLots 16 = .ok (.ifCond .le 37, 3) := by decide +kernel
theorem dX0_drawFromLots_19 : decode cX0_drawFromLots 19 = .ok (.iload_n 2, 1) := by decide +kernel
theorem dX0_drawFromLots_20 : decode cX0_drawFromLots 20 = .ok (.aload_n 0, 1) := by decide +kernel
theorem dX0_drawFromLots_21 : decode cX0_drawFromLots 21 = .ok (.getfield 9, 3) := by decide +kernel
theorem dX0_drawFromLots_24 : decode cX0_drawFromLots 24 = .ok (.iload_n 3, 1) := by decide +kernel
theorem dX0_drawFromLots_25 : decode cX0_drawFromLots 25 = .ok (.iaload, 1) := by decide +kernel
theorem dX0_drawFromLots_26 : decode cX0_drawFromLots 26 = .ok (.invokestatic 84, 3) := by decide +kernel
theorem dX0_drawFromLots_29 : decode cX0_drawFromLots 29 = .ok (.istore 4, 2) := by decide +kernel
theorem dX0_drawFromLots_31 : decode cX0_drawFromLots 31 = .ok (.aload_n 0, 1) := by decide +kernel
theorem dX0_drawFromLots_32 : decode cX0_drawFromLots 32 = .ok (.getfield 9, 3) := by decide +kernel
theorem dX0_drawFromLots_35 : decode cX0_drawFromLots 35 = .ok (.iload_n 3, 1) := by decide +kernel
theorem dX0_drawFromLots_36 : decode cX0_drawFromLots 36 = .ok (.dup2, 1) := by decide +kernel
theorem dX0_drawFromLots_37 : decode cX0_drawFromLots 37 = .ok (.iaload, 1) := by decide +kernel
theorem dX0_drawFromLots_38 : decode cX0_drawFromLots 38 = .ok (.iload 4, 2) := by decide +kernel
theorem dX0_drawFromLots_40 : decode cX0_drawFromLots 40 = .ok (.isub, 1) := by decide +kernel
theorem dX0_drawFromLots_41 : decode cX0_drawFromLots 41 = .ok (.iastore, 1) := by decide +kernel
theorem dX0_drawFromLots_42 : decode cX0_drawFromLots 42 = .ok (.iload_n 2, 1) := by decide +kernel
theorem dX0_drawFromLots_43 : decode cX0_drawFromLots 43 = .ok (.iload 4, 2) := by decide +kernel
theorem dX0_drawFromLots_45 : decode cX0_drawFromLots 45 = .ok (.isub, 1) := by decide +kernel
theorem dX0_drawFromLots_46 : decode cX0_drawFromLots 46 = .ok (.istore_n 2, 1) := by decide +kernel
theorem dX0_drawFromLots_47 : decode cX0_drawFromLots 47 = .ok (.iinc 3 1, 3) := by decide +kernel
theorem dX0_drawFromLots_50 : decode cX0_drawFromLots 50 = .ok (.goto (-43), 3) := by decide +kernel
theorem dX0_drawFromLots_53 : decode cX0_drawFromLots 53 = .ok (.iload_n 1, 1) := by decide +kernel
theorem dX0_drawFromLots_54 : decode cX0_drawFromLots 54 = .ok (.iload_n 2, 1) := by decide +kernel
theorem dX0_drawFromLots_55 : decode cX0_drawFromLots 55 = .ok (.isub, 1) := by decide +kernel
theorem dX0_drawFromLots_56 : decode cX0_drawFromLots 56 = .ok (.ireturn, 1) := by decide +kernel
theorem dX1_init_0 : decode cX1_init 0 = .ok (.aload_n 0, 1) := by decide +kernel
theorem dX1_init_1 : decode cX1_init 1 = .ok (.invokespecial 3, 3) := by decide +kernel
theorem dX1_init_4 : decode cX1_init 4 = .ok (.aload_n 0, 1) := by decide +kernel
theorem dX1_init_5 : decode cX1_init 5 = .ok (.bipush 10, 2) := by decide +kernel
theorem dX1_init_7 : decode cX1_init 7 = .ok (.newarray .int, 2) := by decide +kernel
theorem dX1_init_9 : decode cX1_init 9 = .ok (.putfield 9, 3) := by decide +kernel
theorem dX1_init_12 : decode cX1_init 12 = .ok (.aload_n 0, 1) := by decide +kernel
theorem dX1_init_13 : decode cX1_init 13 = .ok (.bipush 10, 2) := by decide +kernel
theorem dX1_init_15 : decode cX1_init 15 = .ok (.newarray .int, 2) := by decide +kernel
theorem dX1_init_17 : decode cX1_init 17 = .ok (.putfield 15, 3) := by decide +kernel
theorem dX1_init_20 : decode cX1_init 20 = .ok (.aload_n 0, 1) := by decide +kernel
theorem dX1_init_21 : decode cX1_init 21 = .ok (.bipush 40, 2) := by decide +kernel
theorem dX1_init_23 : decode cX1_init 23 = .ok (.anewarray 18, 3) := by decide +kernel
theorem dX1_init_26 : decode cX1_init 26 = .ok (.putfield 20, 3) := by decide +kernel
theorem dX1_init_29 : decode cX1_init 29 = .ok (.aload_n 0, 1) := by decide +kernel
theorem dX1_init_30 : decode cX1_init 30 = .ok (.bipush 30, 2) := by decide +kernel
theorem dX1_init_32 : decode cX1_init 32 = .ok (.newarray .int, 2) := by decide +kernel
theorem dX1_init_34 : decode cX1_init 34 = .ok (.putfield 24, 3) := by decide +kernel
theorem dX1_init_37 : decode cX1_init 37 = .ok (.aload_n 0, 1) := by decide +kernel
theorem dX1_init_38 : decode cX1_init 38 = .ok (.bipush 30, 2) := by decide +kernel
theorem dX1_init_40 : decode cX1_init 40 = .ok (.newarray .int, 2) := by decide +kernel
theorem dX1_init_42 : decode cX1_init 42 = .ok (.putfield 27, 3) := by decide +kernel
theorem dX1_init_45 : decode cX1_init 45 = .ok (.aload_n 0, 1) := by decide +kernel
theorem dX1_init_46 : decode cX1_init 46 = .ok (.bipush 20, 2) := by decide +kernel
theorem dX1_init_48 : decode cX1_init 48 = .ok (.newarray .int, 2) := by decide +kernel
theorem dX1_init_50 : decode cX1_init 50 = .ok (.putfield 30, 3) := by decide +kernel
theorem dX1_init_53 : decode cX1_init 53 = .ok (.aload_n 0, 1) := by decide +kernel
theorem dX1_init_54 : decode cX1_init 54 = .ok (.bipush 20, 2) := by decide +kernel
theorem dX1_init_56 : decode cX1_init 56 = .ok (.newarray .int, 2) := by decide +kernel
theorem dX1_init_58 : decode cX1_init 58 = .ok (.putfield 33, 3) := by decide +kernel
theorem dX1_init_61 : decode cX1_init 61 = .ok (.aload_n 0, 1) := by decide +kernel
theorem dX1_init_62 : decode cX1_init 62 = .ok (.sipush 3601, 3) := by decide +kernel
theorem dX1_init_65 : decode cX1_init 65 = .ok (.newarray .int, 2) := by decide +kernel
theorem dX1_init_67 : decode cX1_init 67 = .ok (.putfield 36, 3) := by decide +kernel
theorem dX1_init_70 : decode cX1_init 70 = .ok (.aload_n 0, 1) := by decide +kernel
theorem dX1_init_71 : decode cX1_init 71 = .ok (.iload_n 1, 1) := by decide +kernel
theorem dX1_init_72 : decode cX1_init 72 = .ok (.putfield 39, 3) := by decide +kernel
theorem dX1_init_75 : decode cX1_init 75 = .ok (.aload_n 0, 1) := by decide +kernel
theorem dX1_init_76 : decode cX1_init 76 = .ok (.iload_n 2, 1) := by decide +kernel
theorem dX1_init_77 : decode cX1_init 77 = .ok (.putfield 43, 3) := by decide +kernel
theorem dX1_init_80 : decode cX1_init 80 = .ok (.aload_n 0, 1) := by decide +kernel
theorem dX1_init_81 : decode cX1_init 81 = .ok (.iload_n 3, 1) := by decide +kernel
theorem dX1_init_82 : decode cX1_init 82 = .ok (.putfield 46, 3) := by decide +kernel
theorem dX1_init_85 : decode cX1_init 85 = .ok (.return_, 1) := by decide +kernel
theorem dX1_hoursOn_0 : decode cX1_hoursOn 0 = .ok (.iconst (-1), 1) := by decide +kernel
theorem dX1_hoursOn_1 : decode cX1_hoursOn 1 = .ok (.istore_n 2, 1) := by decide +kernel
theorem dX1_hoursOn_2 : decode cX1_hoursOn 2 = .ok (.aload_n 0, 1) := by decide +kernel
theorem dX1_hoursOn_3 : decode cX1_hoursOn 3 = .ok (.getfield 46, 3) := by decide +kernel
theorem dX1_hoursOn_6 : decode cX1_hoursOn 6 = .ok (.istore_n 3, 1) := by decide +kernel
theorem dX1_hoursOn_7 : decode cX1_hoursOn 7 = .ok (.iconst 0, 1) := by decide +kernel
theorem dX1_hoursOn_8 : decode cX1_hoursOn 8 = .ok (.istore 4, 2) := by decide +kernel
theorem dX1_hoursOn_10 : decode cX1_hoursOn 10 = .ok (.iload 4, 2) := by decide +kernel
theorem dX1_hoursOn_12 : decode cX1_hoursOn 12 = .ok (.aload_n 0, 1) := by decide +kernel
theorem dX1_hoursOn_13 : decode cX1_hoursOn 13 = .ok (.getfield 49, 3) := by decide +kernel
theorem dX1_hoursOn_16 : decode cX1_hoursOn 16 = .ok (.if_icmp .ge 47, 3) := by decide +kernel
theorem dX1_hoursOn_19 : decode cX1_hoursOn 19 = .ok (.aload_n 0, 1) := by decide +kernel
theorem dX1_hoursOn_20 : decode cX1_hoursOn 20 = .ok (.getfield 9, 3) := by decide +kernel
theorem dX1_hoursOn_23 : decode cX1_hoursOn 23 = .ok (.iload 4, 2) := by decide +kernel
theorem dX1_hoursOn_25 : decode cX1_hoursOn 25 = .ok (.iaload, 1) := by decide +kernel
theorem dX1_hoursOn_26 : decode cX1_hoursOn 26 = .ok (.iload_n 1, 1) := by decide +kernel
theorem dX1_hoursOn_27 : decode cX1_hoursOn 27 = .ok (.if_icmp .gt 30, 3) := by decide +kernel
theorem dX1_hoursOn_30 : decode cX1_hoursOn 30 = .ok (.aload_n 0, 1) := by decide +kernel
theorem dX1_hoursOn_31 : decode cX1_hoursOn 31 = .ok (.getfield 9, 3) := by decide +kernel
theorem dX1_hoursOn_34 : decode cX1_hoursOn 34 = .ok (.iload 4, 2) := by decide +kernel
theorem dX1_hoursOn_36 : decode cX1_hoursOn 36 = .ok (.iaload, 1) := by decide +kernel
theorem dX1_hoursOn_37 : decode cX1_hoursOn 37 = .ok (.iload_n 2, 1) := by decide +kernel
theorem dX1_hoursOn_38 : decode cX1_hoursOn 38 = .ok (.if_icmp .le 19, 3) := by decide +kernel
theorem dX1_hoursOn_41 : decode cX1_hoursOn 41 = .ok (.aload_n 0, 1) := by decide +kernel
theorem dX1_hoursOn_42 : decode cX1_hoursOn 42 = .ok (.getfield 9, 3) := by decide +kernel
theorem dX1_hoursOn_45 : decode cX1_hoursOn 45 = .ok (.iload 4, 2) := by decide +kernel
theorem dX1_hoursOn_47 : decode cX1_hoursOn 47 = .ok (.iaload, 1) := by decide +kernel
theorem dX1_hoursOn_48 : decode cX1_hoursOn 48 = .ok (.istore_n 2, 1) := by decide +kernel
theorem dX1_hoursOn_49 : decode cX1_hoursOn 49 = .ok (.aload_n 0, 1) := by decide +kernel
theorem dX1_hoursOn_50 : decode cX1_hoursOn 50 = .ok (.getfield 15, 3) := by decide +kernel
theorem dX1_hoursOn_53 : decode cX1_hoursOn 53 = .ok (.iload 4, 2) := by decide +kernel
theorem dX1_hoursOn_55 : decode cX1_hoursOn 55 = .ok (.iaload, 1) := by decide +kernel
theorem dX1_hoursOn_56 : decode cX1_hoursOn 56 = .ok (.istore_n 3, 1) := by decide +kernel
theorem dX1_hoursOn_57 : decode cX1_hoursOn 57 = .ok (.iinc 4 1, 3) := by decide +kernel
theorem dX1_hoursOn_60 : decode cX1_hoursOn 60 = .ok (.goto (-50), 3) := by decide +kernel
theorem dX1_hoursOn_63 : decode cX1_hoursOn 63 = .ok (.iload_n 3, 1) := by decide +kernel
theorem dX1_hoursOn_64 : decode cX1_hoursOn 64 = .ok (.ireturn, 1) := by decide +kernel
theorem dX1_enterHours_0 : decode cX1_enterHours 0 = .ok (.iconst 0, 1) := by decide +kernel
theorem dX1_enterHours_1 : decode cX1_enterHours 1 = .ok (.istore_n 3, 1) := by decide +kernel
theorem dX1_enterHours_2 : decode cX1_enterHours 2 = .ok (.iload_n 3, 1) := by decide +kernel
theorem dX1_enterHours_3 : decode cX1_enterHours 3 = .ok (.aload_n 0, 1) := by decide +kernel
theorem dX1_enterHours_4 : decode cX1_enterHours 4 = .ok (.getfield 49, 3) := by decide +kernel
theorem dX1_enterHours_7 : decode cX1_enterHours 7 = .ok (.if_icmp .ge 19, 3) := by decide +kernel
theorem dX1_enterHours_10 : decode cX1_enterHours 10 = .ok (.aload_n 0, 1) := by decide +kernel
theorem dX1_enterHours_11 : decode cX1_enterHours 11 = .ok (.getfield 9, 3) := by decide +kernel
theorem dX1_enterHours_14 : decode cX1_enterHours 14 = .ok (.iload_n 3, 1) := by decide +kernel
theorem dX1_enterHours_15 : decode cX1_enterHours 15 = .ok (.iaload, 1) := by decide +kernel
theorem dX1_enterHours_16 : decode cX1_enterHours 16 = .ok (.iload_n 1, 1) := by decide +kernel
theorem dX1_enterHours_17 : decode cX1_enterHours 17 = .ok (.if_icmp .eq 9, 3) := by decide +kernel
theorem dX1_enterHours_20 : decode cX1_enterHours 20 = .ok (.iinc 3 1, 3) := by decide +kernel
theorem dX1_enterHours_23 : decode cX1_enterHours 23 = .ok (.goto (-21), 3) := by decide +kernel
theorem dX1_enterHours_26 : decode cX1_enterHours 26 = .ok (.iload_n 3, 1) := by decide +kernel
theorem dX1_enterHours_27 : decode cX1_enterHours 27 = .ok (.aload_n 0, 1) := by decide +kernel
theorem dX1_enterHours_28 : decode cX1_enterHours 28 = .ok (.getfield 9, 3) := by decide +kernel
theorem dX1_enterHours_31 : decode cX1_enterHours 31 = .ok (.arraylength, 1) := by decide +kernel
theorem dX1_enterHours_32 : decode cX1_enterHours 32 = .ok (.if_icmp .lt 5, 3) := by decide +kernel
theorem dX1_enterHours_35 : decode cX1_enterHours 35 = .ok (.iconst 0, 1) := by decide +kernel
theorem dX1_enterHours_36 : decode cX1_enterHours 36 = .ok (.ireturn, 1) := by decide +kernel
theorem dX1_enterHours_37 : decode cX1_enterHours 37 = .ok (.aload_n 0, 1) := by decide +kernel
theorem dX1_enterHours_38 : decode cX1_enterHours 38 = .ok (.getfield 9, 3) := by decide +kernel
theorem dX1_enterHours_41 : decode cX1_enterHours 41 = .ok (.iload_n 3, 1) := by decide +kernel
theorem dX1_enterHours_42 : decode cX1_enterHours 42 = .ok (.iload_n 1, 1) := by decide +kernel
theorem dX1_enterHours_43 : decode cX1_enterHours 43 = .ok (.iastore, 1) := by decide +kernel
theorem dX1_enterHours_44 : decode cX1_enterHours 44 = .ok (.aload_n 0, 1) := by decide +kernel
theorem dX1_enterHours_45 : decode cX1_enterHours 45 = .ok (.getfield 15, 3) := by decide +kernel
theorem dX1_enterHours_48 : decode cX1_enterHours 48 = .ok (.iload_n 3, 1) := by decide +kernel
theorem dX1_enterHours_49 : decode cX1_enterHours 49 = .ok (.iload_n 2, 1) := by decide +kernel
theorem dX1_enterHours_50 : decode cX1_enterHours 50 = .ok (.iastore, 1) := by decide +kernel
theorem dX1_enterHours_51 : decode cX1_enterHours 51 = .ok (.aload_n 0, 1) := by decide +kernel
theorem dX1_enterHours_52 : decode cX1_enterHours 52 = .ok (.aload_n 0, 1) := by decide +kernel
theorem dX1_enterHours_53 : decode cX1_enterHours 53 = .ok (.getfield 49, 3) := by decide +kernel
theorem dX1_enterHours_56 : decode cX1_enterHours 56 = .ok (.iload_n 3, 1) := by decide +kernel
theorem dX1_enterHours_57 : decode cX1_enterHours 57 = .ok (.iconst 1, 1) := by decide +kernel
theorem dX1_enterHours_58 : decode cX1_enterHours 58 = .ok (.iadd, 1) := by decide +kernel
theorem dX1_enterHours_59 : decode cX1_enterHours 59 = .ok (.invokestatic 52, 3) := by decide +kernel
theorem dX1_enterHours_62 : decode cX1_enterHours 62 = .ok (.putfield 49, 3) := by decide +kernel
theorem dX1_enterHours_65 : decode cX1_enterHours 65 = .ok (.iconst 1, 1) := by decide +kernel
theorem dX1_enterHours_66 : decode cX1_enterHours 66 = .ok (.ireturn, 1) := by decide +kernel
set_option maxRecDepth 20000 in
theorem ggX1_enterRequest_X1_markLeave : GoodIn wsX1_enterRequest wsX1_markLeave := goodIn_r _ [9, 10, 11, 12, 13, 14, 15, 16, 17, 8, 18, 1, 2, 19, 20, 21, 22, 23, 24, 25, 26, 27, 28, 29, 30, 31, 32, 33, 34, 35, 36, 37, 38, 39, 40, 41, 42, 43, 44, 45, 46, 47, 48, 49, 50, 51, 52, 53, 54, 55, 56, 57] (by decide +kernel) (by decide +kernel)
set_option maxRecDepth 20000 in
theorem gX1_enterRequest_X1_markLeave : GoodIn wsX1_enterRequest (wsV RX1 65 RX1 yX1_markLeave wsX1_markLeave) := goodIn_app (goodIn_of _ (by decide +kernel)) ggX1_enterRequest_X1_markLeave
theorem dX1_enterRequest_0 : decode cX1_enterRequest 0 = .ok (.aload_n 0, 1) := by decide +kernel
theorem dX1_enterRequest_1 : decode cX1_enterRequest 1 = .ok (.getfield 58, 3) := by decide +kernel
theorem dX1_enterRequest_4 : decode cX1_enterRequest 4 = .ok (.aload_n 0, 1) := by decide +kernel
theorem dX1_enterRequest_5 : decode cX1_enterRequest 5 = .ok (.getfield 20, 3) := by decide +kernel
theorem dX1_enterRequest_8 : decode cX1_enterRequest 8 = .ok (.arraylength, 1) := by decide +kernel
theorem dX1_enterRequest_9 : decode cX1_enterRequest 9 = .ok (.if_icmp .ge 35, 3) := by decide +kernel
theorem dX1_enterRequest_12 : decode cX1_enterRequest 12 = .ok (.aload_n 0, 1) := by decide +kernel
theorem dX1_enterRequest_13 : decode cX1_enterRequest 13 = .ok (.getfield 20, 3) := by decide +kernel
theorem dX1_enterRequest_16 : decode cX1_enterRequest 16 = .ok (.aload_n 0, 1) := by decide +kernel
theorem dX1_enterRequest_17 : decode cX1_enterRequest 17 = .ok (.getfield 58, 3) := by decide +kernel
theorem dX1_enterRequest_20 : decode cX1_enterRequest 20 = .ok (.aload_n 1, 1) := by decide +kernel
theorem dX1_enterRequest_21 : decode cX1_enterRequest 21 = .ok (.aastore, 1) := by decide +kernel
theorem dX1_enterRequest_22 : decode cX1_enterRequest 22 = .ok (.aload_n 0, 1) := by decide +kernel
theorem dX1_enterRequest_23 : decode cX1_enterRequest 23 = .ok (.dup, 1) := by decide +kernel
theorem dX1_enterRequest_24 : decode cX1_enterRequest 24 = .ok (.getfield 58, 3) := by decide +kernel
theorem dX1_enterRequest_27 : decode cX1_enterRequest 27 = .ok (.iconst 1, 1) := by decide +kernel
theorem dX1_enterRequest_28 : decode cX1_enterRequest 28 = .ok (.iadd, 1) := by decide +kernel
theorem dX1_enterRequest_29 : decode cX1_enterRequest 29 = .ok (.putfield 58, 3) := by decide +kernel
theorem dX1_enterRequest_32 : decode cX1_enterRequest 32 = .ok (.aload_n 0, 1) := by decide +kernel
theorem dX1_enterRequest_33 : decode cX1_enterRequest 33 = .ok (.aload_n 1, 1) := by decide +kernel
theorem dX1_enterRequest_34 : decode cX1_enterRequest 34 = .ok (.getfield 61, 3) := by decide +kernel
theorem dX1_enterRequest_37 : decode cX1_enterRequest 37 = .ok (.aload_n 1, 1) := by decide +kernel
theorem dX1_enterRequest_38 : decode cX1_enterRequest 38 = .ok (.getfield 62, 3) := by decide +kernel
theorem dX1_enterRequest_41 : decode cX1_enterRequest 41 = .ok (.invokevirtual 65, 3) := by decide +kernel
theorem dX1_enterRequest_44 : decode cX1_enterRequest 44 = .ok (.return_, 1) := by decide +kernel
set_option maxRecDepth 20000 in
theorem ggX1_enterSpell_X1_markLeave : GoodIn wsX1_enterSpell wsX1_markLeave := goodIn_r _ [8, 9, 10, 11, 12, 13, 14, 15, 16, 7, 17, 18, 19, 20, 21, 22, 23, 24, 25, 26, 27, 1, 2, 3, 28, 29, 30, 31, 32, 33, 34, 35, 36, 37, 38, 39, 40, 41, 42, 43, 44, 45, 46, 47, 48, 49, 50, 51, 52, 53, 54, 55] (by decide +kernel) (by decide +kernel)
set_option maxRecDepth 20000 in
theorem gX1_enterSpell_X1_markLeave : GoodIn wsX1_enterSpell (wsV RX1 65 RX1 yX1_markLeave wsX1_markLeave) := goodIn_app (goodIn_of _ (by decide +kernel)) ggX1_enterSpell_X1_markLeave
theorem dX1_enterSpell_0 : decode cX1_enterSpell 0 = .ok (.aload_n 0, 1) := by decide +kernel
theorem dX1_enterSpell_1 : decode cX1_enterSpell 1 = .ok (.getfield 69, 3) := by decide +kernel
theorem dX1_enterSpell_4 : decode cX1_enterSpell 4 = .ok (.aload_n 0, 1) := by decide +kernel
theorem dX1_enterSpell_5 : decode cX1_enterSpell 5 = .ok (.getfield 24, 3) := by decide +kernel
theorem dX1_enterSpell_8 : decode cX1_enterSpell 8 = .ok (.arraylength, 1) := by decide +kernel
theorem dX1_enterSpell_9 : decode cX1_enterSpell 9 = .ok (.if_icmp .ge 39, 3) := by decide +kernel
theorem dX1_enterSpell_12 : decode cX1_enterSpell 12 = .ok (.aload_n 0, 1) := by decide +kernel
theorem dX1_enterSpell_13 : decode cX1_enterSpell 13 = .ok (.getfield 24, 3) := by decide +kernel
theorem dX1_enterSpell_16 : decode cX1_enterSpell 16 = .ok (.aload_n 0, 1) := by decide +kernel
theorem dX1_enterSpell_17 : decode cX1_enterSpell 17 = .ok (.getfield 69, 3) := by decide +kernel
theorem dX1_enterSpell_20 : decode cX1_enterSpell 20 = .ok (.iload_n 1, 1) := by decide +kernel
theorem dX1_enterSpell_21 : decode cX1_enterSpell 21 = .ok (.iastore, 1) := by decide +kernel
theorem dX1_enterSpell_22 : decode cX1_enterSpell 22 = .ok (.aload_n 0, 1) := by decide +kernel
theorem dX1_enterSpell_23 : decode cX1_enterSpell 23 = .ok (.getfield 27, 3) := by decide +kernel
theorem dX1_enterSpell_26 : decode cX1_enterSpell 26 = .ok (.aload_n 0, 1) := by decide +kernel
theorem dX1_enterSpell_27 : decode cX1_enterSpell 27 = .ok (.getfield 69, 3) := by decide +kernel
theorem dX1_enterSpell_30 : decode cX1_enterSpell 30 = .ok (.iload_n 2, 1) := by decide +kernel
theorem dX1_enterSpell_31 : decode cX1_enterSpell 31 = .ok (.iastore, 1) := by decide +kernel
theorem dX1_enterSpell_32 : decode cX1_enterSpell 32 = .ok (.aload_n 0, 1) := by decide +kernel
theorem dX1_enterSpell_33 : decode cX1_enterSpell 33 = .ok (.dup, 1) := by decide +kernel
theorem dX1_enterSpell_34 : decode cX1_enterSpell 34 = .ok (.getfield 69, 3) := by decide +kernel
theorem dX1_enterSpell_37 : decode cX1_enterSpell 37 = .ok (.iconst 1, 1) := by decide +kernel
theorem dX1_enterSpell_38 : decode cX1_enterSpell 38 = .ok (.iadd, 1) := by decide +kernel
theorem dX1_enterSpell_39 : decode cX1_enterSpell 39 = .ok (.putfield 69, 3) := by decide +kernel
theorem dX1_enterSpell_42 : decode cX1_enterSpell 42 = .ok (.aload_n 0, 1) := by decide +kernel
theorem dX1_enterSpell_43 : decode cX1_enterSpell 43 = .ok (.iload_n 1, 1) := by decide +kernel
theorem dX1_enterSpell_44 : decode cX1_enterSpell 44 = .ok (.iload_n 2, 1) := by decide +kernel
theorem dX1_enterSpell_45 : decode cX1_enterSpell 45 = .ok (.invokevirtual 65, 3) := by decide +kernel
theorem dX1_enterSpell_48 : decode cX1_enterSpell 48 = .ok (.return_, 1) := by decide +kernel
theorem dX1_enterPayout_0 : decode cX1_enterPayout 0 = .ok (.aload_n 0, 1) := by decide +kernel
theorem dX1_enterPayout_1 : decode cX1_enterPayout 1 = .ok (.getfield 72, 3) := by decide +kernel
theorem dX1_enterPayout_4 : decode cX1_enterPayout 4 = .ok (.aload_n 0, 1) := by decide +kernel
theorem dX1_enterPayout_5 : decode cX1_enterPayout 5 = .ok (.getfield 30, 3) := by decide +kernel
theorem dX1_enterPayout_8 : decode cX1_enterPayout 8 = .ok (.arraylength, 1) := by decide +kernel
theorem dX1_enterPayout_9 : decode cX1_enterPayout 9 = .ok (.if_icmp .ge 33, 3) := by decide +kernel
theorem dX1_enterPayout_12 : decode cX1_enterPayout 12 = .ok (.aload_n 0, 1) := by decide +kernel
theorem dX1_enterPayout_13 : decode cX1_enterPayout 13 = .ok (.getfield 30, 3) := by decide +kernel
theorem dX1_enterPayout_16 : decode cX1_enterPayout 16 = .ok (.aload_n 0, 1) := by decide +kernel
theorem dX1_enterPayout_17 : decode cX1_enterPayout 17 = .ok (.getfield 72, 3) := by decide +kernel
theorem dX1_enterPayout_20 : decode cX1_enterPayout 20 = .ok (.iload_n 1, 1) := by decide +kernel
theorem dX1_enterPayout_21 : decode cX1_enterPayout 21 = .ok (.iastore, 1) := by decide +kernel
theorem dX1_enterPayout_22 : decode cX1_enterPayout 22 = .ok (.aload_n 0, 1) := by decide +kernel
theorem dX1_enterPayout_23 : decode cX1_enterPayout 23 = .ok (.getfield 33, 3) := by decide +kernel
theorem dX1_enterPayout_26 : decode cX1_enterPayout 26 = .ok (.aload_n 0, 1) := by decide +kernel
theorem dX1_enterPayout_27 : decode cX1_enterPayout 27 = .ok (.getfield 72, 3) := by decide +kernel
theorem dX1_enterPayout_30 : decode cX1_enterPayout 30 = .ok (.iload_n 2, 1) := by decide +kernel
theorem dX1_enterPayout_31 : decode cX1_enterPayout 31 = .ok (.iastore, 1) := by decide +kernel
theorem dX1_enterPayout_32 : decode cX1_enterPayout 32 = .ok (.aload_n 0, 1) := by decide +kernel
theorem dX1_enterPayout_33 : decode cX1_enterPayout 33 = .ok (.dup, 1) := by decide +kernel
theorem dX1_enterPayout_34 : decode cX1_enterPayout 34 = .ok (.getfield 72, 3) := by decide +kernel
theorem dX1_enterPayout_37 : decode cX1_enterPayout 37 = .ok (.iconst 1, 1) := by decide +kernel
theorem dX1_enterPayout_38 : decode cX1_enterPayout 38 = .ok (.iadd, 1) := by decide +kernel
theorem dX1_enterPayout_39 : decode cX1_enterPayout 39 = .ok (.putfield 72, 3) := by decide +kernel
theorem dX1_enterPayout_42 : decode cX1_enterPayout 42 = .ok (.return_, 1) := by decide +kernel
theorem dX1_leaveOn_0 : decode cX1_leaveOn 0 = .ok (.iload_n 1, 1) := by decide +kernel
theorem dX1_leaveOn_1 : decode cX1_leaveOn 1 = .ok (.ifCond .lt 21, 3) := by decide +kernel
theorem dX1_leaveOn_4 : decode cX1_leaveOn 4 = .ok (.iload_n 1, 1) := by decide +kernel
theorem dX1_leaveOn_5 : decode cX1_leaveOn 5 = .ok (.aload_n 0, 1) := by decide +kernel
theorem dX1_leaveOn_6 : decode cX1_leaveOn 6 = .ok (.getfield 36, 3) := by decide +kernel
theorem dX1_leaveOn_9 : decode cX1_leaveOn 9 = .ok (.arraylength, 1) := by decide +kernel
theorem dX1_leaveOn_10 : decode cX1_leaveOn 10 = .ok (.if_icmp .ge 12, 3) := by decide +kernel
theorem dX1_leaveOn_13 : decode cX1_leaveOn 13 = .ok (.aload_n 0, 1) := by decide +kernel
theorem dX1_leaveOn_14 : decode cX1_leaveOn 14 = .ok (.getfield 36, 3) := by decide +kernel
theorem dX1_leaveOn_17 : decode cX1_leaveOn 17 = .ok (.iload_n 1, 1) := by decide +kernel
theorem dX1_leaveOn_18 : decode cX1_leaveOn 18 = .ok (.iaload, 1) := by decide +kernel
theorem dX1_leaveOn_19 : decode cX1_leaveOn 19 = .ok (.goto 4, 3) := by decide +kernel
theorem dX1_leaveOn_22 : decode cX1_leaveOn 22 = .ok (.iconst 0, 1) := by decide +kernel
theorem dX1_leaveOn_23 : decode cX1_leaveOn 23 = .ok (.ireturn, 1) := by decide +kernel
set_option maxRecDepth 20000 in
theorem ggX1_markLeave_X1_findLeave : GoodIn wsX1_markLeave wsX1_findLeave := goodIn_r _ [10, 11, 12, 13, 1, 2, 3, 4, 14, 15, 16, 17, 18, 19, 9, 20, 21, 22, 23, 24, 25, 26, 27, 28, 29, 30, 31, 32, 33, 34, 35, 36, 37, 38, 39, 40, 41, 42, 43, 44, 45, 46, 47, 48, 49, 50, 51] (by decide +kernel) (by decide +kernel)
set_option maxRecDepth 20000 in
theorem gX1_markLeave_X1_findLeave : GoodIn wsX1_markLeave (wsV RX1 75 RX1 yX1_findLeave wsX1_findLeave) := goodIn_app (goodIn_of _ (by decide +kernel)) ggX1_markLeave_X1_findLeave
theorem dX1_markLeave_0 : decode cX1_markLeave 0 = .ok (.iload_n 1, 1) := by decide +kernel
theorem dX1_markLeave_1 : decode cX1_markLeave 1 = .ok (.iconst 0, 1) := by decide +kernel
theorem dX1_markLeave_2 : decode cX1_markLeave 2 = .ok (.invokestatic 52, 3) := by decide +kernel
theorem dX1_markLeave_5 : decode cX1_markLeave 5 = .ok (.istore_n 3, 1) := by decide +kernel
theorem dX1_markLeave_6 : decode cX1_markLeave 6 = .ok (.iload_n 3, 1) := by decide +kernel
theorem dX1_markLeave_7 : decode cX1_markLeave 7 = .ok (.iload_n 2, 1) := by decide +kernel
theorem dX1_markLeave_8 : decode cX1_markLeave 8 = .ok (.if_icmp .gt 29, 3) := by decide +kernel
theorem dX1_markLeave_11 : decode cX1_markLeave 11 = .ok (.iload_n 3, 1) := by decide +kernel
theorem dX1_markLeave_12 : decode cX1_markLeave 12 = .ok (.aload_n 0, 1) := by decide +kernel
theorem dX1_markLeave_13 : decode cX1_markLeave 13 = .ok (.getfield 36, 3) := by decide +kernel
theorem dX1_markLeave_16 : decode cX1_markLeave 16 = .ok (.arraylength, 1) := by decide +kernel
theorem dX1_markLeave_17 : decode cX1_markLeave 17 = .ok (.if_icmp .ge 20, 3) := by decide +kernel
theorem dX1_markLeave_20 : decode cX1_markLeave 20 = .ok (.aload_n 0, 1) := by decide +kernel
theorem dX1_markLeave_21 : decode cX1_markLeave 21 = .ok (.getfield 36, 3) := by decide +kernel
theorem dX1_markLeave_24 : decode cX1_markLeave 24 = .ok (.iload_n 3, 1) := by decide +kernel
theorem dX1_markLeave_25 : decode cX1_markLeave 25 = .ok (.aload_n 0, 1) := by decide +kernel
theorem dX1_markLeave_26 : decode cX1_markLeave 26 = .ok (.iload_n 3, 1) := by decide +kernel
theorem dX1_markLeave_27 : decode cX1_markLeave 27 = .ok (.invokevirtual 75, 3) := by decide +kernel
theorem dX1_markLeave_30 : decode cX1_markLeave 30 = .ok (.iastore, 1) := by decide +kernel
theorem dX1_markLeave_31 : decode cX1_markLeave 31 = .ok (.iinc 3 1, 3) := by decide +kernel
theorem dX1_markLeave_34 : decode cX1_markLeave 34 = .ok (.goto (-28), 3) := by decide +kernel
theorem dX1_markLeave_37 : decode cX1_markLeave 37 = .ok (.return_, 1) := by decide +kernel
set_option maxRecDepth 20000 in
theorem ggX1_findLeave_X3_isWorkingDay : GoodIn wsX1_findLeave wsX3_isWorkingDay := goodIn_r _ [10] (by decide +kernel) (by decide +kernel)
set_option maxRecDepth 20000 in
theorem gX1_findLeave_X3_isWorkingDay_n79 : GoodIn wsX1_findLeave (wsX3_isWorkingDay) := ggX1_findLeave_X3_isWorkingDay
set_option maxRecDepth 20000 in
theorem ggX1_findLeave_X1_isSickOn : GoodIn wsX1_findLeave wsX1_isSickOn := goodIn_r _ [15, 16, 17, 18, 27, 28, 29, 30, 31, 32, 33, 34, 35, 36, 37, 38, 39, 40, 41] (by decide +kernel) (by decide +kernel)
set_option maxRecDepth 20000 in
theorem gX1_findLeave_X1_isSickOn : GoodIn wsX1_findLeave (wsV RX1 83 RX1 yX1_isSickOn wsX1_isSickOn) := goodIn_app (goodIn_of _ (by decide +kernel)) ggX1_findLeave_X1_isSickOn
set_option maxRecDepth 20000 in
theorem ggX1_findLeave_X2_holdsOn : GoodIn wsX1_findLeave wsX2_holdsOn := goodIn_r _ [23, 24, 25, 26, 42, 43, 44, 45, 46] (by decide +kernel) (by decide +kernel)
set_option maxRecDepth 20000 in
theorem gX1_findLeave_X2_holdsOn : GoodIn wsX1_findLeave (wsV RX1 86 RX2 yX2_holdsOn wsX2_holdsOn) := goodIn_app (goodIn_of _ (by decide +kernel)) ggX1_findLeave_X2_holdsOn
theorem dX1_findLeave_0 : decode cX1_findLeave 0 = .ok (.iload_n 1, 1) := by decide +kernel
theorem dX1_findLeave_1 : decode cX1_findLeave 1 = .ok (.invokestatic 79, 3) := by decide +kernel
theorem dX1_findLeave_4 : decode cX1_findLeave 4 = .ok (.ifCond .eq 11, 3) := by decide +kernel
theorem dX1_findLeave_7 : decode cX1_findLeave 7 = .ok (.aload_n 0, 1) := by decide +kernel
theorem dX1_findLeave_8 : decode cX1_findLeave 8 = .ok (.iload_n 1, 1) := by decide +kernel
theorem dX1_findLeave_9 : decode cX1_findLeave 9 = .ok (.invokevirtual 83, 3) := by decide +kernel
theorem dX1_findLeave_12 : decode cX1_findLeave 12 = .ok (.ifCond .eq 5, 3) := by decide +kernel
theorem dX1_findLeave_15 : decode cX1_findLeave 15 = .ok (.iconst 0, 1) := by decide +kernel
theorem dX1_findLeave_16 : decode cX1_findLeave 16 = .ok (.ireturn, 1) := by decide +kernel
theorem dX1_findLeave_17 : decode cX1_findLeave 17 = .ok (.iconst 0, 1) := by decide +kernel
theorem dX1_findLeave_18 : decode cX1_findLeave 18 = .ok (.istore_n 2, 1) := by decide +kernel
theorem dX1_findLeave_19 : decode cX1_findLeave 19 = .ok (.iconst 0, 1) := by decide +kernel
theorem dX1_findLeave_20 : decode cX1_findLeave 20 = .ok (.istore_n 3, 1) := by decide +kernel
theorem dX1_findLeave_21 : decode cX1_findLeave 21 = .ok (.iload_n 3, 1) := by decide +kernel
theorem dX1_findLeave_22 : decode cX1_findLeave 22 = .ok (.aload_n 0, 1) := by decide +kernel
theorem dX1_findLeave_23 : decode cX1_findLeave 23 = .ok (.getfield 58, 3) := by decide +kernel
theorem dX1_findLeave_26 : decode cX1_findLeave 26 = .ok (.if_icmp .ge 41, 3) := by decide +kernel
theorem dX1_findLeave_29 : decode cX1_findLeave 29 = .ok (.aload_n 0, 1) := by decide +kernel
theorem dX1_findLeave_30 : decode cX1_findLeave 30 = .ok (.getfield 20, 3) := by decide +kernel
theorem dX1_findLeave_33 : decode cX1_findLeave 33 = .ok (.iload_n 3, 1) := by decide +kernel
theorem dX1_findLeave_34 : decode cX1_findLeave 34 = .ok (.aaload, 1) := by decide +kernel
theorem dX1_findLeave_35 : decode cX1_findLeave 35 = .ok (.astore 4, 2) := by decide +kernel
theorem dX1_findLeave_37 : decode cX1_findLeave 37 = .ok (.aload 4, 2) := by decide +kernel
theorem dX1_findLeave_39 : decode cX1_findLeave 39 = .ok (.ifnull 22, 3) := by decide +kernel
theorem dX1_findLeave_42 : decode cX1_findLeave 42 = .ok (.aload 4, 2) := by decide +kernel
theorem dX1_findLeave_44 : decode cX1_findLeave 44 = .ok (.iload_n 1, 1) := by decide +kernel
theorem dX1_findLeave_45 : decode cX1_findLeave 45 = .ok (.invokevirtual 86, 3) := by decide +kernel
theorem dX1_findLeave_48 : decode cX1_findLeave 48 = .ok (.ifCond .eq 13, 3) := by decide +kernel
theorem dX1_findLeave_51 : decode cX1_findLeave 51 = .ok (.iload_n 2, 1) := by decide +kernel
theorem dX1_findLeave_52 : decode cX1_findLeave 52 = .ok (.aload 4, 2) := by decide +kernel
theorem dX1_findLeave_54 : decode cX1_findLeave 54 = .ok (.getfield 89, 3) := by decide +kernel
theorem dX1_findLeave_57 : decode cX1_findLeave 57 = .ok (.invokestatic 52, 3) := by decide +kernel
theorem dX1_findLeave_60 : decode cX1_findLeave 60 = .ok (.istore_n 2, 1) := by decide +kernel
theorem dX1_findLeave_61 : decode cX1_findLeave 61 = .ok (.iinc 3 1, 3) := by decide +kernel
theorem dX1_findLeave_64 : decode cX1_findLeave 64 = .ok (.goto (-43), 3) := by decide +kernel
theorem dX1_findLeave_67 : decode cX1_findLeave 67 = .ok (.iload_n 2, 1) := by decide +kernel
theorem dX1_findLeave_68 : decode cX1_findLeave 68 = .ok (.ireturn, 1) := by decide +kernel
theorem dX1_isSickOn_0 : decode cX1_isSickOn 0 = .ok (.iconst 0, 1) := by decide +kernel
theorem dX1_isSickOn_1 : decode cX1_isSickOn 1 = .ok (.istore_n 2, 1) := by decide +kernel
theorem dX1_isSickOn_2 : decode cX1_isSickOn 2 = .ok (.iload_n 2, 1) := by decide +kernel
theorem dX1_isSickOn_3 : decode cX1_isSickOn 3 = .ok (.aload_n 0, 1) := by decide +kernel
theorem dX1_isSickOn_4 : decode cX1_isSickOn 4 = .ok (.getfield 69, 3) := by decide +kernel
theorem dX1_isSickOn_7 : decode cX1_isSickOn 7 = .ok (.if_icmp .ge 31, 3) := by decide +kernel
theorem dX1_isSickOn_10 : decode cX1_isSickOn 10 = .ok (.aload_n 0, 1) := by decide +kernel
theorem dX1_isSickOn_11 : decode cX1_isSickOn 11 = .ok (.getfield 24, 3) := by decide +kernel
theorem dX1_isSickOn_14 : decode cX1_isSickOn 14 = .ok (.iload_n 2, 1) := by decide +kernel
theorem dX1_isSickOn_15 : decode cX1_isSickOn 15 = .ok (.iaload, 1) := by decide +kernel
theorem dX1_isSickOn_16 : decode cX1_isSickOn 16 = .ok (.iload_n 1, 1) := by decide +kernel
theorem dX1_isSickOn_17 : decode cX1_isSickOn 17 = .ok (.if_icmp .gt 15, 3) := by decide +kernel
theorem dX1_isSickOn_20 : decode cX1_isSickOn 20 = .ok (.iload_n 1, 1) := by decide +kernel
theorem dX1_isSickOn_21 : decode cX1_isSickOn 21 = .ok (.aload_n 0, 1) := by decide +kernel
theorem dX1_isSickOn_22 : decode cX1_isSickOn 22 = .ok (.getfield 27, 3) := by decide +kernel
theorem dX1_isSickOn_25 : decode cX1_isSickOn 25 = .ok (.iload_n 2, 1) := by decide +kernel
theorem dX1_isSickOn_26 : decode cX1_isSickOn 26 = .ok (.iaload, 1) := by decide +kernel
theorem dX1_isSickOn_27 : decode cX1_isSickOn 27 = .ok (.if_icmp .gt 5, 3) := by decide +kernel
theorem dX1_isSickOn_30 : decode cX1_isSickOn 30 = .ok (.iconst 1, 1) := by decide +kernel
theorem dX1_isSickOn_31 : decode cX1_isSickOn 31 = .ok (.ireturn, 1) := by decide +kernel
theorem dX1_isSickOn_32 : decode cX1_isSickOn 32 = .ok (.iinc 2 1, 3) := by decide +kernel
theorem dX1_isSickOn_35 : decode cX1_isSickOn 35 = .ok (.goto (-33), 3) := by decide +kernel
theorem dX1_isSickOn_38 : decode cX1_isSickOn 38 = .ok (.iconst 0, 1) := by decide +kernel
theorem dX1_isSickOn_39 : decode cX1_isSickOn 39 = .ok (.ireturn, 1) := by decide +kernel
theorem dX2_init_0 : decode cX2_init 0 = .ok (.aload_n 0, 1) := by decide +kernel
theorem dX2_init_1 : decode cX2_init 1 = .ok (.invokespecial 3, 3) := by decide +kernel
theorem dX2_init_4 : decode cX2_init 4 = .ok (.aload_n 0, 1) := by decide +kernel
theorem dX2_init_5 : decode cX2_init 5 = .ok (.aload_n 1, 1) := by decide +kernel
theorem dX2_init_6 : decode cX2_init 6 = .ok (.putfield 9, 3) := by decide +kernel
theorem dX2_init_9 : decode cX2_init 9 = .ok (.aload_n 0, 1) := by decide +kernel
theorem dX2_init_10 : decode cX2_init 10 = .ok (.iload 4, 2) := by decide +kernel
theorem dX2_init_12 : decode cX2_init 12 = .ok (.ifCond .eq 7, 3) := by decide +kernel
theorem dX2_init_15 : decode cX2_init 15 = .ok (.iconst 1, 1) := by decide +kernel
theorem dX2_init_16 : decode cX2_init 16 = .ok (.goto 4, 3) := by decide +kernel
theorem dX2_init_19 : decode cX2_init 19 = .ok (.iconst 2, 1) := by decide +kernel
theorem dX2_init_20 : decode cX2_init 20 = .ok (.putfield 15, 3) := by decide +kernel
theorem dX2_init_23 : decode cX2_init 23 = .ok (.aload_n 0, 1) := by decide +kernel
theorem dX2_init_24 : decode cX2_init 24 = .ok (.iload_n 2, 1) := by decide +kernel
theorem dX2_init_25 : decode cX2_init 25 = .ok (.putfield 19, 3) := by decide +kernel
theorem dX2_init_28 : decode cX2_init 28 = .ok (.aload_n 0, 1) := by decide +kernel
theorem dX2_init_29 : decode cX2_init 29 = .ok (.iload_n 3, 1) := by decide +kernel
theorem dX2_init_30 : decode cX2_init 30 = .ok (.putfield 22, 3) := by decide +kernel
theorem dX2_init_33 : decode cX2_init 33 = .ok (.return_, 1) := by decide +kernel
theorem dX2_holdsOn_0 : decode cX2_holdsOn 0 = .ok (.aload_n 0, 1) := by decide +kernel
theorem dX2_holdsOn_1 : decode cX2_holdsOn 1 = .ok (.getfield 25, 3) := by decide +kernel
theorem dX2_holdsOn_4 : decode cX2_holdsOn 4 = .ok (.ifCond .ne 23, 3) := by decide +kernel
theorem dX2_holdsOn_7 : decode cX2_holdsOn 7 = .ok (.aload_n 0, 1) := by decide +kernel
theorem dX2_holdsOn_8 : decode cX2_holdsOn 8 = .ok (.getfield 19, 3) := by decide +kernel
theorem dX2_holdsOn_11 : decode cX2_holdsOn 11 = .ok (.iload_n 1, 1) := by decide +kernel
theorem dX2_holdsOn_12 : decode cX2_holdsOn 12 = .ok (.if_icmp .gt 15, 3) := by decide +kernel
theorem dX2_holdsOn_15 : decode cX2_holdsOn 15 = .ok (.iload_n 1, 1) := by decide +kernel
theorem dX2_holdsOn_16 : decode cX2_holdsOn 16 = .ok (.aload_n 0, 1) := by decide +kernel
theorem dX2_holdsOn_17 : decode cX2_holdsOn 17 = .ok (.getfield 22, 3) := by decide +kernel
theorem dX2_holdsOn_20 : decode cX2_holdsOn 20 = .ok (.if_icmp .gt 7, 3) := by decide +kernel
theorem dX2_holdsOn_23 : decode cX2_holdsOn 23 = .ok (.iconst 1, 1) := by decide +kernel
theorem dX2_holdsOn_24 : decode cX2_holdsOn 24 = .ok (.goto 4, 3) := by decide +kernel
theorem dX2_holdsOn_27 : decode cX2_holdsOn 27 = .ok (.iconst 0, 1) := by decide +kernel
theorem dX2_holdsOn_28 : decode cX2_holdsOn 28 = .ok (.ireturn, 1) := by decide +kernel
set_option maxRecDepth 20000 in
theorem ggX3_init_X0_init : GoodIn wsX3_init wsX0_init := goodIn_r _ [13, 14, 2, 3, 15, 16, 17, 26, 27, 28, 29, 30, 31, 32, 33, 34, 35, 36] (by decide +kernel) (by decide +kernel)
set_option maxRecDepth 20000 in
theorem gX3_init_X0_init_n23 : GoodIn wsX3_init (wsX0_init) := ggX3_init_X0_init
end
section
/-! ===== what the methods do, in numbers: the class's (.. C) and the reference's (.. M) ===== -/
def anyN (q : Nat → Bool) : Nat → Bool
  | 0 => false
  | n + 1 => anyN q n || q n
def mxN (f : Nat → Nat) : Nat → Nat
  | 0 => 0
  | n + 1 => max (mxN f n) (f n)
def smN (f : Nat → Nat) (a : Nat) : Nat → Nat
  | 0 => 0
  | n + 1 => smN f a n + f (a + n)
/-- the latest change up to a day, its day + 1 (0: none), and the hours then -/
def hN (cd ch : Nat → Nat) (h0 day : Nat) : Nat → Nat × Nat
  | 0 => (0, h0)
  | n + 1 => if cd n ≤ day ∧ (hN cd ch h0 day n).1 ≤ cd n then (cd n + 1, ch n) else hN cd ch h0 day n
/-- the first place of a day, or n -/
def fiN (cd : Nat → Nat) (day : Nat) : Nat → Nat
  | 0 => 0
  | n + 1 => if fiN cd day n < n then fiN cd day n else if cd n = day then n else n + 1
-- the class
def hldC (e : Nat → Nat → Nat) (r day : Nat) : Bool := decide (e (RB r) 4 = 0 ∧ e (RB r) 2 ≤ day ∧ day ≤ e (RB r) 3)
def sckC (e : Nat → Nat → Nat) (p day : Nat) : Bool := anyN (fun i => decide (e (PB p + 4) i ≤ day ∧ day ≤ e (PB p + 5) i)) (e (PB p) 10)
def lvfC (e : Nat → Nat → Nat) (p day : Nat) : Nat → Nat := fun i => if hldC e (e (PB p + 3) i - 1) day = true then e (RB (e (PB p + 3) i - 1)) 1 else 0
def lvC (e : Nat → Nat → Nat) (p day : Nat) : Nat := if 5 ≤ day % 7 ∨ sckC e p day = true then 0 else mxN (lvfC e p day) (e (PB p) 7)
def mkC (e : Nat → Nat → Nat) (p f t : Nat) : Nat → Nat → Nat := fun c i => if c = PB p + 8 ∧ f ≤ i ∧ i < t then lvC e p i else e c i
def hrC (e : Nat → Nat → Nat) (p day : Nat) : Nat := (hN (e (PB p + 1)) (e (PB p + 2)) (e (PB p) 2) day (e (PB p) 5)).2
def clrC (e : Nat → Nat → Nat) : Nat → Nat → Nat := es (es (es (es (es (es (es (es (es e 3 2 0) 3 3 0) 3 4 0) 3 5 0) 3 6 0) 3 7 0) 3 8 0) 3 9 0) 3 10 0
def earnsAt (fd day : Nat) : Bool := decide (day % 30 = 0 ∧ fd + 30 ≤ day)
def ptsC (e : Nat → Nat → Nat) (p day : Nat) : Nat := 2 * (e (PB p) 1 + min ((day - e (PB p) 0) / 360 / 3 * 2) 10) * hrC e p (day - 1)
def expC (day : Nat) : Nat := ((day - 1) / 360 + 1) * 360 + 90
def earnC (e : Nat → Nat → Nat) (pts ex : Nat) : Nat → Nat → Nat :=
  if e 3 2 < 120 then es (es (es (es (es e 3 5 (e 3 5 - min pts (e 3 5))) 3 6 (e 3 6 + pts)) 4 (e 3 2) (pts - min pts (e 3 5))) 5 (e 3 2) ex) 3 2 (e 3 2 + 1)
  else es (es e 3 5 (e 3 5 - min pts (e 3 5))) 3 6 (e 3 6 + pts)
def exsC (e : Nat → Nat → Nat) : Nat → Nat → Nat := es (es e 3 8 (e 3 8 + e 4 (e 3 3))) 3 3 (e 3 3 + 1)
def expnC (day : Nat) : Nat → (Nat → Nat → Nat) → Nat → Nat → Nat
  | 0, e => e
  | n + 1, e => if e 5 (e 3 3) ≤ day then expnC day n (exsC e) else e
def expireC (e : Nat → Nat → Nat) (day : Nat) : Nat → Nat → Nat := expnC day (e 3 2 - e 3 3) e
def totC (e : Nat → Nat → Nat) : Nat := smN (e 4) (e 3 3) (e 3 2 - e 3 3)
def drwC (e : Nat → Nat → Nat) (pts : Nat) : Nat → Nat → Nat := fun c i => if c = 4 ∧ e 3 3 ≤ i ∧ i < e 3 2 then e 4 i - (pts - smN (e 4) (e 3 3) (i - e 3 3)) else e c i
def takC (e : Nat → Nat → Nat) (pts : Nat) : Nat → Nat → Nat :=
  if 2400 < e 3 5 + (pts - totC e) then es e 3 10 (e 3 10 + 1) else es (es (drwC e pts) 3 5 (e 3 5 + (pts - totC e))) 3 7 (e 3 7 + pts)
def takeC (e : Nat → Nat → Nat) (kind : Nat) : Nat → Nat → Nat := if kind = 0 then e else takC e (if kind = 2 then 480 else 240)
def paysC (e : Nat → Nat → Nat) (p : Nat) : Nat → Nat → Nat := es (es (drwC e (e (PB p + 7) (e 3 4))) 3 9 (e 3 9 + min (e (PB p + 7) (e 3 4)) (totC e))) 3 4 (e 3 4 + 1)
def paynC (p day : Nat) : Nat → (Nat → Nat → Nat) → Nat → Nat → Nat
  | 0, e => e
  | n + 1, e => if e (PB p + 6) (e 3 4) ≤ day then paynC p day n (paysC e p) else e
def payC (e : Nat → Nat → Nat) (p day : Nat) : Nat → Nat → Nat := paynC p day (e (PB p) 13 - e 3 4) e
def mthC (e : Nat → Nat → Nat) (p day : Nat) : Nat → Nat → Nat := if earnsAt (e (PB p) 0) day = true then earnC e (ptsC e p day) (expC day) else e
def dayC (e : Nat → Nat → Nat) (p day : Nat) : Nat → Nat → Nat := payC (takeC (expireC (mthC e p day) day) (expireC (mthC e p day) day (PB p + 8) day)) p day
def goC (e : Nat → Nat → Nat) (p : Nat) : Nat → Nat → Nat → Nat
  | 0 => clrC e
  | n + 1 => dayC (goC e p n) p (e (PB p) 0 + n)
-- the reference
def hrM (e : Nat → Nat → Nat) (p day : Nat) : Nat := (hN (fun i => e 12 (10 * p + i)) (fun i => e 13 (10 * p + i)) (e 10 p) day (e 11 p)).2
def illM (e : Nat → Nat → Nat) (p day : Nat) : Bool := anyN (fun k => decide (e 19 k = p ∧ e 20 k ≤ day ∧ day ≤ e 21 k)) (e 7 15)
def lvfM (e : Nat → Nat → Nat) (p day : Nat) : Nat → Nat := fun k => if e 14 k = p ∧ e 18 k = 0 ∧ e 15 k ≤ day ∧ day ≤ e 16 k then (if e 17 k = 0 then 2 else 1) else 0
def lvM (e : Nat → Nat → Nat) (p day : Nat) : Nat := if day % 7 < 5 ∧ illM e p day = false then mxN (lvfM e p day) (e 7 9) else 0
def totM (e : Nat → Nat → Nat) : Nat := smN (e 25) 0 11
def drwM (e : Nat → Nat → Nat) (pts : Nat) : Nat → Nat → Nat := fun c i => if c = 25 ∧ i < 11 then e 25 i - (pts - smN (e 25) 0 i) else e c i
def ptsM (e : Nat → Nat → Nat) (p day : Nat) : Nat := 2 * (e 9 p + min (2 * ((day - e 8 p) / 360 / 3)) 10) * hrM e p (day - 1)
def earnM (e : Nat → Nat → Nat) (p day : Nat) : Nat → Nat → Nat := es (es (es e 7 24 (e 7 24 - min (e 7 24) (ptsM e p day))) 25 ((day - 1) / 360) (e 25 ((day - 1) / 360) + (ptsM e p day - min (e 7 24) (ptsM e p day)))) 7 25 (e 7 25 + ptsM e p day)
def leavesM (e : Nat → Nat → Nat) (pts : Nat) : Nat → Nat → Nat :=
  if totM e < pts ∧ 2400 < e 7 24 + pts - totM e then es e 7 29 (e 7 29 + 1) else es (es (drwM e pts) 7 24 (e 7 24 + (pts - min pts (totM e)))) 7 26 (e 7 26 + pts)
def mthM (e : Nat → Nat → Nat) (p day : Nat) : Nat → Nat → Nat := if day % 30 = 0 ∧ e 8 p + 30 ≤ day then earnM e p day else e
def expM (e : Nat → Nat → Nat) (day : Nat) : Nat → Nat → Nat := if day % 360 = 90 ∧ 360 < day then es (es e 7 27 (e 7 27 + e 25 (day / 360 - 1))) 25 (day / 360 - 1) 0 else e
def paysM (e : Nat → Nat → Nat) (p day k : Nat) : Nat → Nat → Nat := if e 22 k = p ∧ e 23 k = day then es (drwM e (e 24 k)) 7 28 (e 7 28 + min (e 24 k) (totM e)) else e
def payM (e : Nat → Nat → Nat) (p day : Nat) : Nat → Nat → Nat → Nat
  | 0 => e
  | n + 1 => paysM (payM e p day n) p day n
def dayM (e : Nat → Nat → Nat) (p day : Nat) : Nat → Nat → Nat := payM (leavesM (expM (mthM e p day) day) (240 * lvM (expM (mthM e p day) day) p day)) p day (e 7 19)
def clrM (e : Nat → Nat → Nat) : Nat → Nat → Nat := es (es (es (es (es (es (fun c i => if c = 25 ∧ i < 11 then 0 else e c i) 7 24 0) 7 25 0) 7 26 0) 7 27 0) 7 28 0) 7 29 0
def goM (e : Nat → Nat → Nat) (p : Nat) : Nat → Nat → Nat → Nat
  | 0 => clrM e
  | n + 1 => dayM (goM e p n) p (e 8 p + n)
-- bounds of the class's numbers
def P0 (e : Nat → Nat → Nat) (p : Nat) : Prop := e (PB p) 0 ≤ 3600 ∧ (20 ≤ e (PB p) 1 ∧ e (PB p) 1 ≤ 80) ∧ 1 ≤ e (PB p) 2 ∧ e (PB p) 2 ≤ 10
def PCh (e : Nat → Nat → Nat) (p : Nat) : Prop := e (PB p) 5 ≤ 10 ∧ ∀ i, i < e (PB p) 5 → e (PB p + 1) i ≤ 3600 ∧ 1 ≤ e (PB p + 2) i ∧ e (PB p + 2) i ≤ 10
def PSp (e : Nat → Nat → Nat) (p : Nat) : Prop := e (PB p) 10 ≤ 30 ∧ ∀ i, i < e (PB p) 10 → e (PB p + 4) i ≤ 3600 ∧ e (PB p + 5) i ≤ 3600
def PPy (e : Nat → Nat → Nat) (p : Nat) : Prop := e (PB p) 13 ≤ 20 ∧ ∀ i, i < e (PB p) 13 → e (PB p + 6) i ≤ 3600 ∧ e (PB p + 7) i ≤ 20000
def PLv (e : Nat → Nat → Nat) (p : Nat) : Prop := ∀ i, i ≤ 3600 → e (PB p + 8) i ≤ 2
def PRq (e : Nat → Nat → Nat) (p nr : Nat) : Prop := e (PB p) 7 ≤ 40 ∧ ∀ i, i < e (PB p) 7 → 1 ≤ e (PB p + 3) i ∧ e (PB p + 3) i ≤ nr
def RW (e : Nat → Nat → Nat) (nr : Nat) : Prop := ∀ q, q < nr → e (RB q) 1 ≤ 2 ∧ e (RB q) 2 ≤ 3600 ∧ e (RB q) 3 ≤ 3600 ∧ e (RB q) 4 ≤ 1
theorem anyN_hit {q : Nat → Bool} {i : Nat} : ∀ {n : Nat}, i < n → q i = true → anyN q n = true
  | 0, h, _ => absurd h (Nat.not_lt_zero i)
  | n + 1, h, hq => by
    unfold anyN
    rcases Nat.lt_or_ge i n with z | z
    · rw [anyN_hit z hq]; rfl
    · rw [show i = n by omega] at hq
      rw [hq]; exact Bool.or_true _
theorem anyN_no {q : Nat → Bool} {i : Nat} (h : anyN q i = false) (hq : q i = false) : anyN q (i + 1) = false := by
  unfold anyN
  rw [h, hq]; rfl
theorem bt_1 {b : Bool} (h : b = true) : nI 1 = nI b.toNat := by rw [h]; rfl
theorem bt_0 {b : Bool} (h : b = false) : nI 0 = nI b.toNat := by rw [h]; rfl
theorem bt_z (b : Bool) : nI b.toNat = 0 ∨ nI b.toNat = 1 := by cases b; exact Or.inl rfl; exact Or.inr rfl
theorem bt_lt (b : Bool) : b.toNat < 2147483648 := by cases b <;> decide
theorem bt_t {b : Bool} (h : ¬ b.toNat = 0) : b = true := by cases b; exact absurd rfl h; rfl
theorem bt_f {b : Bool} (h : b.toNat = 0) : b = false := by cases b; rfl; cases h
theorem hN_1 (cd ch : Nat → Nat) (h0 day n : Nat) (h : cd n ≤ day) (h2 : (hN cd ch h0 day n).1 ≤ cd n) : hN cd ch h0 day (n + 1) = (cd n + 1, ch n) := if_pos ⟨h, h2⟩
theorem hN_2 (cd ch : Nat → Nat) (h0 day n : Nat) (h : ¬ (cd n ≤ day ∧ (hN cd ch h0 day n).1 ≤ cd n)) : hN cd ch h0 day (n + 1) = hN cd ch h0 day n := if_neg h
theorem hN_le {cd ch : Nat → Nat} {h0 day : Nat} : ∀ {n : Nat}, (hN cd ch h0 day n).1 ≤ day + 1
  | 0 => Nat.zero_le _
  | n + 1 => by
    by_cases h : cd n ≤ day ∧ (hN cd ch h0 day n).1 ≤ cd n
    · rw [hN_1 _ _ _ _ _ h.1 h.2]; show cd n + 1 ≤ day + 1; omega
    · rw [hN_2 _ _ _ _ _ h]; exact hN_le
theorem hN_in {cd ch : Nat → Nat} {h0 day : Nat} (hh : 1 ≤ h0 ∧ h0 ≤ 10) : ∀ {n : Nat}, (∀ i, i < n → 1 ≤ ch i ∧ ch i ≤ 10) → 1 ≤ (hN cd ch h0 day n).2 ∧ (hN cd ch h0 day n).2 ≤ 10
  | 0, _ => hh
  | n + 1, hc => by
    by_cases h : cd n ≤ day ∧ (hN cd ch h0 day n).1 ≤ cd n
    · rw [hN_1 _ _ _ _ _ h.1 h.2]; exact hc n (Nat.lt_succ_self n)
    · rw [hN_2 _ _ _ _ _ h]; exact hN_in hh (fun i hi => hc i (Nat.lt_succ_of_lt hi))
/-- the day before the latest change's: an int that may be -1 -/
theorem nx_m1 (L : Nat) : nI (L + 1) - 1 = nI L := nI_pred L
theorem fiN_le (cd : Nat → Nat) (day : Nat) : ∀ n, fiN cd day n ≤ n
  | 0 => Nat.le_refl 0
  | n + 1 => by
    unfold fiN
    have := fiN_le cd day n
    split
    · omega
    · split <;> omega
theorem fiN_no (cd : Nat → Nat) (day : Nat) : ∀ n k, k < fiN cd day n → cd k ≠ day
  | 0, k, h => absurd h (Nat.not_lt_zero k)
  | n + 1, k, h => by
    unfold fiN at h
    have h1 := fiN_le cd day n
    split at h
    · exact fiN_no cd day n k h
    · split at h
      · exact fiN_no cd day n k (by omega)
      · rename_i h2 h3
        rcases Nat.lt_or_ge k n with z | z
        · exact fiN_no cd day n k (by omega)
        · rw [show k = n by omega]; exact h3
theorem fiN_yes (cd : Nat → Nat) (day : Nat) : ∀ n, fiN cd day n < n → cd (fiN cd day n) = day
  | 0, h => absurd h (Nat.not_lt_zero _)
  | n + 1, h => by
    unfold fiN at h ⊢
    have h1 := fiN_le cd day n
    by_cases h2 : fiN cd day n < n
    · rw [if_pos h2]; exact fiN_yes cd day n h2
    · rw [if_neg h2] at h ⊢
      by_cases h3 : cd n = day
      · rw [if_pos h3]; exact h3
      · rw [if_neg h3] at h; omega
/-- found by looking from the first on -/
theorem fiN_at {cd : Nat → Nat} {day i : Nat} : ∀ {n : Nat}, i < n → (∀ k, k < i → cd k ≠ day) → cd i = day → fiN cd day n = i
  | n, hi, hno, hy => by
    rcases Nat.lt_or_ge (fiN cd day n) i with z | z
    · exact absurd (fiN_yes cd day n (by omega)) (hno _ z)
    · rcases Nat.lt_or_ge i (fiN cd day n) with z2 | z2
      · exact absurd hy (fiN_no cd day n i z2)
      · omega
theorem fiN_none {cd : Nat → Nat} {day n : Nat} (hno : ∀ k, k < n → cd k ≠ day) : fiN cd day n = n := by
  have h := fiN_le cd day n
  rcases Nat.lt_or_ge (fiN cd day n) n with z | z
  · exact absurd (fiN_yes cd day n z) (hno _ z)
  · omega
theorem mxN_le {f : Nat → Nat} {b : Nat} : ∀ {n : Nat}, (∀ i, i < n → f i ≤ b) → mxN f n ≤ b
  | 0, _ => Nat.zero_le _
  | n + 1, h => by
    unfold mxN
    have h1 := mxN_le (f := f) (b := b) (n := n) (fun i hi => h i (Nat.lt_succ_of_lt hi))
    have h2 := h n (Nat.lt_succ_self n)
    omega
end
section
theorem dX3_init_0 : decode cX3_init 0 = .ok (.aload_n 0, 1) := by decide +kernel
theorem dX3_init_1 : decode cX3_init 1 = .ok (.invokespecial 3, 3) := by decide +kernel
theorem dX3_init_4 : decode cX3_init 4 = .ok (.aload_n 0, 1) := by decide +kernel
theorem dX3_init_5 : decode cX3_init 5 = .ok (.bipush 8, 2) := by decide +kernel
theorem dX3_init_7 : decode cX3_init 7 = .ok (.anewarray 9, 3) := by decide +kernel
theorem dX3_init_10 : decode cX3_init 10 = .ok (.putfield 11, 3) := by decide +kernel
theorem dX3_init_13 : decode cX3_init 13 = .ok (.aload_n 0, 1) := by decide +kernel
theorem dX3_init_14 : decode cX3_init 14 = .ok (.bipush 40, 2) := by decide +kernel
theorem dX3_init_16 : decode cX3_init 16 = .ok (.anewarray 15, 3) := by decide +kernel
theorem dX3_init_19 : decode cX3_init 19 = .ok (.putfield 17, 3) := by decide +kernel
theorem dX3_init_22 : decode cX3_init 22 = .ok (.aload_n 0, 1) := by decide +kernel
theorem dX3_init_23 : decode cX3_init 23 = .ok (.new 21, 3) := by decide +kernel
theorem dX3_init_26 : decode cX3_init 26 = .ok (.dup, 1) := by decide +kernel
theorem dX3_init_27 : decode cX3_init 27 = .ok (.invokespecial 23, 3) := by decide +kernel
theorem dX3_init_30 : decode cX3_init 30 = .ok (.putfield 24, 3) := by decide +kernel
theorem dX3_init_33 : decode cX3_init 33 = .ok (.return_, 1) := by decide +kernel
set_option maxRecDepth 20000 in
theorem ggX3_addPerson_X3_checkHours : GoodIn wsX3_addPerson wsX3_checkHours := goodIn_ca (goodIn_r _ [14, 1, 2] (by decide +kernel) (by decide +kernel)) (goodIn_sub (fun _ h => List.mem_cons_of_mem _ (List.mem_append_left _ (List.mem_append_right _ h))) (by decide +kernel))
set_option maxRecDepth 20000 in
theorem gX3_addPerson_X3_checkHours : GoodIn wsX3_addPerson (va_wsS RX3 35 yX3_checkHours wsX3_checkHours) := goodIn_app (goodIn_of _ (by decide +kernel)) ggX3_addPerson_X3_checkHours
set_option maxRecDepth 20000 in
theorem ggX3_addPerson_X1_init : GoodIn wsX3_addPerson wsX1_init := goodIn_r _ [17, 18, 19, 20, 21, 22, 23, 24, 25, 26, 27, 28, 29, 30, 31, 32, 33, 42, 43, 44, 45, 46, 47, 48, 49, 50, 51, 52, 53, 54, 55, 56] (by decide +kernel) (by decide +kernel)
set_option maxRecDepth 20000 in
theorem gX3_addPerson_X1_init : GoodIn wsX3_addPerson (wsX1_init) := ggX3_addPerson_X1_init
theorem dX3_addPerson_0 : decode cX3_addPerson 0 = .ok (.iload_n 1, 1) := by decide +kernel
theorem dX3_addPerson_1 : decode cX3_addPerson 1 = .ok (.bipush 20, 2) := by decide +kernel
theorem dX3_addPerson_3 : decode cX3_addPerson 3 = .ok (.if_icmp .lt 9, 3) := by decide +kernel
theorem dX3_addPerson_6 : decode cX3_addPerson 6 = .ok (.iload_n 1, 1) := by decide +kernel
theorem dX3_addPerson_7 : decode cX3_addPerson 7 = .ok (.bipush 80, 2) := by decide +kernel
theorem dX3_addPerson_9 : decode cX3_addPerson 9 = .ok (.if_icmp .le 13, 3) := by decide +kernel
theorem dX3_addPerson_12 : decode cX3_addPerson 12 = .ok (.new 28, 3) := by decide +kernel
theorem dX3_addPerson_15 : decode cX3_addPerson 15 = .ok (.dup, 1) := by decide +kernel
theorem dX3_addPerson_16 : decode cX3_addPerson 16 = .ok (.ldc 30, 2) := by decide +kernel
theorem dX3_addPerson_18 : decode cX3_addPerson 18 = .ok (.invokespecial 32, 3) := by decide +kernel
theorem dX3_addPerson_21 : decode cX3_addPerson 21 = .ok (.athrow, 1) := by decide +kernel
theorem dX3_addPerson_22 : decode cX3_addPerson 22 = .ok (.iload_n 2, 1) := by decide +kernel
theorem dX3_addPerson_23 : decode cX3_addPerson 23 = .ok (.invokestatic 35, 3) := by decide +kernel
theorem dX3_addPerson_26 : decode cX3_addPerson 26 = .ok (.aload_n 0, 1) := by decide +kernel
theorem dX3_addPerson_27 : decode cX3_addPerson 27 = .ok (.getfield 39, 3) := by decide +kernel
theorem dX3_addPerson_30 : decode cX3_addPerson 30 = .ok (.aload_n 0, 1) := by decide +kernel
theorem dX3_addPerson_31 : decode cX3_addPerson 31 = .ok (.getfield 11, 3) := by decide +kernel
theorem dX3_addPerson_34 : decode cX3_addPerson 34 = .ok (.arraylength, 1) := by decide +kernel
theorem dX3_addPerson_35 : decode cX3_addPerson 35 = .ok (.if_icmp .lt 13, 3) := by decide +kernel
theorem dX3_addPerson_38 : decode cX3_addPerson 38 = .ok (.new 43, 3) := by decide +kernel
theorem dX3_addPerson_41 : decode cX3_addPerson 41 = .ok (.dup, 1) := by decide +kernel
theorem dX3_addPerson_42 : decode cX3_addPerson 42 = .ok (.ldc 45, 2) := by decide +kernel
theorem dX3_addPerson_44 : decode cX3_addPerson 44 = .ok (.invokespecial 47, 3) := by decide +kernel
theorem dX3_addPerson_47 : decode cX3_addPerson 47 = .ok (.athrow, 1) := by decide +kernel
theorem dX3_addPerson_48 : decode cX3_addPerson 48 = .ok (.aload_n 0, 1) := by decide +kernel
theorem dX3_addPerson_49 : decode cX3_addPerson 49 = .ok (.getfield 39, 3) := by decide +kernel
theorem dX3_addPerson_52 : decode cX3_addPerson 52 = .ok (.istore_n 3, 1) := by decide +kernel
theorem dX3_addPerson_53 : decode cX3_addPerson 53 = .ok (.aload_n 0, 1) := by decide +kernel
theorem dX3_addPerson_54 : decode cX3_addPerson 54 = .ok (.getfield 11, 3) := by decide +kernel
theorem dX3_addPerson_57 : decode cX3_addPerson 57 = .ok (.iload_n 3, 1) := by decide +kernel
theorem dX3_addPerson_58 : decode cX3_addPerson 58 = .ok (.new 9, 3) := by decide +kernel
theorem dX3_addPerson_61 : decode cX3_addPerson 61 = .ok (.dup, 1) := by decide +kernel
theorem dX3_addPerson_62 : decode cX3_addPerson 62 = .ok (.aload_n 0, 1) := by decide +kernel
theorem dX3_addPerson_63 : decode cX3_addPerson 63 = .ok (.getfield 48, 3) := by decide +kernel
theorem dX3_addPerson_66 : decode cX3_addPerson 66 = .ok (.iload_n 1, 1) := by decide +kernel
theorem dX3_addPerson_67 : decode cX3_addPerson 67 = .ok (.iload_n 2, 1) := by decide +kernel
theorem dX3_addPerson_68 : decode cX3_addPerson 68 = .ok (.invokespecial 51, 3) := by decide +kernel
theorem dX3_addPerson_71 : decode cX3_addPerson 71 = .ok (.aastore, 1) := by decide +kernel
theorem dX3_addPerson_72 : decode cX3_addPerson 72 = .ok (.aload_n 0, 1) := by decide +kernel
theorem dX3_addPerson_73 : decode cX3_addPerson 73 = .ok (.iload_n 3, 1) := by decide +kernel
theorem dX3_addPerson_74 : decode cX3_addPerson 74 = .ok (.iconst 1, 1) := by decide +kernel
theorem dX3_addPerson_75 : decode cX3_addPerson 75 = .ok (.iadd, 1) := by decide +kernel
theorem dX3_addPerson_76 : decode cX3_addPerson 76 = .ok (.putfield 39, 3) := by decide +kernel
theorem dX3_addPerson_79 : decode cX3_addPerson 79 = .ok (.iload_n 3, 1) := by decide +kernel
theorem dX3_addPerson_80 : decode cX3_addPerson 80 = .ok (.ireturn, 1) := by decide +kernel
set_option maxRecDepth 20000 in
theorem ggX3_setHours_X3_personAt : GoodIn wsX3_setHours wsX3_personAt := goodIn_ca (goodIn_r _ [8, 9, 10, 11, 52, 53, 54, 55, 56, 57, 58, 59] (by decide +kernel) (by decide +kernel)) (goodIn_sub (fun _ h => List.mem_cons_of_mem _ (List.mem_append_left _ (List.mem_append_right _ h))) (by decide +kernel))
set_option maxRecDepth 20000 in
theorem gX3_setHours_X3_personAt : GoodIn wsX3_setHours (wsV RX3 54 RX3 yX3_personAt wsX3_personAt) := goodIn_app (goodIn_of _ (by decide +kernel)) ggX3_setHours_X3_personAt
set_option maxRecDepth 20000 in
theorem ggX3_setHours_X3_checkDay : GoodIn wsX3_setHours wsX3_checkDay := goodIn_ca (goodIn_r _ [14, 15, 16] (by decide +kernel) (by decide +kernel)) (goodIn_sub (fun _ h => List.mem_cons_of_mem _ (List.mem_append_right _ h)) (by decide +kernel))
set_option maxRecDepth 20000 in
theorem gX3_setHours_X3_checkDay : GoodIn wsX3_setHours (va_wsS RX3 61 yX3_checkDay wsX3_checkDay) := goodIn_app (goodIn_of _ (by decide +kernel)) ggX3_setHours_X3_checkDay
set_option maxRecDepth 20000 in
theorem ggX3_setHours_X3_checkHours : GoodIn wsX3_setHours wsX3_checkHours := goodIn_ca (goodIn_r _ [19, 15, 16] (by decide +kernel) (by decide +kernel)) (goodIn_sub (fun _ h => List.mem_cons_of_mem _ (List.mem_append_right _ h)) (by decide +kernel))
set_option maxRecDepth 20000 in
theorem gX3_setHours_X3_checkHours : GoodIn wsX3_setHours (va_wsS RX3 35 yX3_checkHours wsX3_checkHours) := goodIn_app (goodIn_of _ (by decide +kernel)) ggX3_setHours_X3_checkHours
set_option maxRecDepth 20000 in
theorem ggX3_setHours_X1_hoursOn : GoodIn wsX3_setHours wsX1_hoursOn := goodIn_r _ [24, 25, 26, 27, 28, 37, 38, 39, 40, 41, 42, 43, 44, 45, 46, 47, 48, 49, 50, 51] (by decide +kernel) (by decide +kernel)
set_option maxRecDepth 20000 in
theorem gX3_setHours_X1_hoursOn : GoodIn wsX3_setHours (wsV RX3 65 RX1 yX1_hoursOn wsX1_hoursOn) := goodIn_app (goodIn_of _ (by decide +kernel)) ggX3_setHours_X1_hoursOn
set_option maxRecDepth 20000 in
theorem ggX3_setHours_X1_enterHours : GoodIn wsX3_setHours wsX1_enterHours := goodIn_r _ [32, 26, 27, 28, 33, 34, 35, 36, 37, 38, 39, 40, 41, 42, 43, 44, 45, 46, 47, 48, 49, 50, 51] (by decide +kernel) (by decide +kernel)
set_option maxRecDepth 20000 in
theorem gX3_setHours_X1_enterHours : GoodIn wsX3_setHours (wsV RX3 69 RX1 yX1_enterHours wsX1_enterHours) := goodIn_app (goodIn_of _ (by decide +kernel)) ggX3_setHours_X1_enterHours
theorem dX3_setHours_0 : decode cX3_setHours 0 = .ok (.aload_n 0, 1) := by decide +kernel
theorem dX3_setHours_1 : decode cX3_setHours 1 = .ok (.iload_n 1, 1) := by decide +kernel
theorem dX3_setHours_2 : decode cX3_setHours 2 = .ok (.invokevirtual 54, 3) := by decide +kernel
theorem dX3_setHours_5 : decode cX3_setHours 5 = .ok (.astore 4, 2) := by decide +kernel
theorem dX3_setHours_7 : decode cX3_setHours 7 = .ok (.aload 4, 2) := by decide +kernel
theorem dX3_setHours_9 : decode cX3_setHours 9 = .ok (.getfield 58, 3) := by decide +kernel
theorem dX3_setHours_12 : decode cX3_setHours 12 = .ok (.iload_n 2, 1) := by decide +kernel
theorem dX3_setHours_13 : decode cX3_setHours 13 = .ok (.invokestatic 61, 3) := by decide +kernel
theorem dX3_setHours_16 : decode cX3_setHours 16 = .ok (.iload_n 3, 1) := by decide +kernel
theorem dX3_setHours_17 : decode cX3_setHours 17 = .ok (.invokestatic 35, 3) := by decide +kernel
theorem dX3_setHours_20 : decode cX3_setHours 20 = .ok (.aload 4, 2) := by decide +kernel
theorem dX3_setHours_22 : decode cX3_setHours 22 = .ok (.iload_n 2, 1) := by decide +kernel
theorem dX3_setHours_23 : decode cX3_setHours 23 = .ok (.invokevirtual 65, 3) := by decide +kernel
theorem dX3_setHours_26 : decode cX3_setHours 26 = .ok (.istore 5, 2) := by decide +kernel
theorem dX3_setHours_28 : decode cX3_setHours 28 = .ok (.aload 4, 2) := by decide +kernel
theorem dX3_setHours_30 : decode cX3_setHours 30 = .ok (.iload_n 2, 1) := by decide +kernel
theorem dX3_setHours_31 : decode cX3_setHours 31 = .ok (.iload_n 3, 1) := by decide +kernel
theorem dX3_setHours_32 : decode cX3_setHours 32 = .ok (.invokevirtual 69, 3) := by decide +kernel
theorem dX3_setHours_35 : decode cX3_setHours 35 = .ok (.ifCond .ne 13, 3) := by decide +kernel
theorem dX3_setHours_38 : decode cX3_setHours 38 = .ok (.new 43, 3) := by decide +kernel
theorem dX3_setHours_41 : decode cX3_setHours 41 = .ok (.dup, 1) := by decide +kernel
theorem dX3_setHours_42 : decode cX3_setHours 42 = .ok (.ldc 73, 2) := by decide +kernel
theorem dX3_setHours_44 : decode cX3_setHours 44 = .ok (.invokespecial 47, 3) := by decide +kernel
theorem dX3_setHours_47 : decode cX3_setHours 47 = .ok (.athrow, 1) := by decide +kernel
theorem dX3_setHours_48 : decode cX3_setHours 48 = .ok (.iload 5, 2) := by decide +kernel
theorem dX3_setHours_50 : decode cX3_setHours 50 = .ok (.ireturn, 1) := by decide +kernel
set_option maxRecDepth 20000 in
theorem ggX3_request_X3_personAt : GoodIn wsX3_request wsX3_personAt := goodIn_ca (goodIn_r _ [13, 14, 15, 16, 84, 85, 86, 87, 88, 89, 90, 91] (by decide +kernel) (by decide +kernel)) (goodIn_sub (fun _ h => List.mem_cons_of_mem _ (List.mem_append_left _ (List.mem_append_right _ h))) (by decide +kernel))
set_option maxRecDepth 20000 in
theorem gX3_request_X3_personAt : GoodIn wsX3_request (wsV RX3 54 RX3 yX3_personAt wsX3_personAt) := goodIn_app (goodIn_of _ (by decide +kernel)) ggX3_request_X3_personAt
set_option maxRecDepth 20000 in
theorem ggX3_request_X3_checkDays : GoodIn wsX3_request wsX3_checkDays := goodIn_ca (goodIn_r _ [19, 20, 21] (by decide +kernel) (by decide +kernel)) (goodIn_sub (fun _ h => List.mem_cons_of_mem _ (List.mem_append_right _ h)) (by decide +kernel))
set_option maxRecDepth 20000 in
theorem gX3_request_X3_checkDays : GoodIn wsX3_request (va_wsS RX3 75 yX3_checkDays wsX3_checkDays) := goodIn_app (goodIn_of _ (by decide +kernel)) ggX3_request_X3_checkDays
set_option maxRecDepth 20000 in
theorem ggX3_request_X2_init : GoodIn wsX3_request wsX2_init := goodIn_r _ [24, 25, 26, 27, 28, 29, 30, 31, 92, 93, 94, 95, 96] (by decide +kernel) (by decide +kernel)
set_option maxRecDepth 20000 in
theorem gX3_request_X2_init : GoodIn wsX3_request (wsX2_init) := ggX3_request_X2_init
set_option maxRecDepth 20000 in
theorem ggX3_request_X1_enterRequest : GoodIn wsX3_request wsX1_enterRequest := goodIn_r _ [36, 37, 38, 39, 40, 41, 42, 43, 35, 44, 45, 46, 47, 48, 49, 50, 51, 52, 53, 54, 55, 12, 56, 57, 58, 59, 60, 61, 62, 63, 64, 65, 66, 8, 67, 68, 30, 31, 69, 70, 71, 72, 73, 74, 75, 76, 77, 78, 79, 80, 81, 82, 83, 92, 93, 94, 95, 96] (by decide +kernel) (by decide +kernel)
set_option maxRecDepth 20000 in
theorem gX3_request_X1_enterRequest : GoodIn wsX3_request (wsV RX3 86 RX1 yX1_enterRequest wsX1_enterRequest) := goodIn_app (goodIn_of _ (by decide +kernel)) ggX3_request_X1_enterRequest
theorem dX3_request_0 : decode cX3_request 0 = .ok (.aload_n 0, 1) := by decide +kernel
theorem dX3_request_1 : decode cX3_request 1 = .ok (.iload_n 1, 1) := by decide +kernel
theorem dX3_request_2 : decode cX3_request 2 = .ok (.invokevirtual 54, 3) := by decide +kernel
theorem dX3_request_5 : decode cX3_request 5 = .ok (.astore 5, 2) := by decide +kernel
theorem dX3_request_7 : decode cX3_request 7 = .ok (.aload 5, 2) := by decide +kernel
theorem dX3_request_9 : decode cX3_request 9 = .ok (.getfield 58, 3) := by decide +kernel
theorem dX3_request_12 : decode cX3_request 12 = .ok (.iload_n 2, 1) := by decide +kernel
theorem dX3_request_13 : decode cX3_request 13 = .ok (.iload_n 3, 1) := by decide +kernel
theorem dX3_request_14 : decode cX3_request 14 = .ok (.invokestatic 75, 3) := by decide +kernel
theorem dX3_request_17 : decode cX3_request 17 = .ok (.aload_n 0, 1) := by decide +kernel
theorem dX3_request_18 : decode cX3_request 18 = .ok (.getfield 78, 3) := by decide +kernel
theorem dX3_request_21 : decode cX3_request 21 = .ok (.aload_n 0, 1) := by decide +kernel
theorem dX3_request_22 : decode cX3_request 22 = .ok (.getfield 17, 3) := by decide +kernel
theorem dX3_request_25 : decode cX3_request 25 = .ok (.arraylength, 1) := by decide +kernel
theorem dX3_request_26 : decode cX3_request 26 = .ok (.if_icmp .lt 13, 3) := by decide +kernel
theorem dX3_request_29 : decode cX3_request 29 = .ok (.new 43, 3) := by decide +kernel
theorem dX3_request_32 : decode cX3_request 32 = .ok (.dup, 1) := by decide +kernel
theorem dX3_request_33 : decode cX3_request 33 = .ok (.ldc 81, 2) := by decide +kernel
theorem dX3_request_35 : decode cX3_request 35 = .ok (.invokespecial 47, 3) := by decide +kernel
theorem dX3_request_38 : decode cX3_request 38 = .ok (.athrow, 1) := by decide +kernel
theorem dX3_request_39 : decode cX3_request 39 = .ok (.new 15, 3) := by decide +kernel
theorem dX3_request_42 : decode cX3_request 42 = .ok (.dup, 1) := by decide +kernel
theorem dX3_request_43 : decode cX3_request 43 = .ok (.aload 5, 2) := by decide +kernel
theorem dX3_request_45 : decode cX3_request 45 = .ok (.iload_n 2, 1) := by decide +kernel
theorem dX3_request_46 : decode cX3_request 46 = .ok (.iload_n 3, 1) := by decide +kernel
theorem dX3_request_47 : decode cX3_request 47 = .ok (.iload 4, 2) := by decide +kernel
theorem dX3_request_49 : decode cX3_request 49 = .ok (.invokespecial 83, 3) := by decide +kernel
theorem dX3_request_52 : decode cX3_request 52 = .ok (.astore 6, 2) := by decide +kernel
theorem dX3_request_54 : decode cX3_request 54 = .ok (.aload 5, 2) := by decide +kernel
theorem dX3_request_56 : decode cX3_request 56 = .ok (.aload 6, 2) := by decide +kernel
theorem dX3_request_58 : decode cX3_request 58 = .ok (.invokevirtual 86, 3) := by decide +kernel
theorem dX3_request_61 : decode cX3_request 61 = .ok (.aload_n 0, 1) := by decide +kernel
theorem dX3_request_62 : decode cX3_request 62 = .ok (.getfield 78, 3) := by decide +kernel
theorem dX3_request_65 : decode cX3_request 65 = .ok (.istore 7, 2) := by decide +kernel
theorem dX3_request_67 : decode cX3_request 67 = .ok (.aload_n 0, 1) := by decide +kernel
theorem dX3_request_68 : decode cX3_request 68 = .ok (.getfield 17, 3) := by decide +kernel
theorem dX3_request_71 : decode cX3_request 71 = .ok (.iload 7, 2) := by decide +kernel
theorem dX3_request_73 : decode cX3_request 73 = .ok (.aload 6, 2) := by decide +kernel
theorem dX3_request_75 : decode cX3_request 75 = .ok (.aastore, 1) := by decide +kernel
theorem dX3_request_76 : decode cX3_request 76 = .ok (.aload_n 0, 1) := by decide +kernel
theorem dX3_request_77 : decode cX3_request 77 = .ok (.iload 7, 2) := by decide +kernel
theorem dX3_request_79 : decode cX3_request 79 = .ok (.iconst 1, 1) := by decide +kernel
theorem dX3_request_80 : decode cX3_request 80 = .ok (.iadd, 1) := by decide +kernel
theorem dX3_request_81 : decode cX3_request 81 = .ok (.putfield 78, 3) := by decide +kernel
theorem dX3_request_84 : decode cX3_request 84 = .ok (.iload 7, 2) := by decide +kernel
theorem dX3_request_86 : decode cX3_request 86 = .ok (.ireturn, 1) := by decide +kernel
set_option maxRecDepth 20000 in
theorem ggX3_change_X3_requestAt : GoodIn wsX3_change wsX3_requestAt := goodIn_ca (goodIn_r _ [12, 13, 14, 15, 75, 76, 77, 78, 79, 80, 81, 82] (by decide +kernel) (by decide +kernel)) (goodIn_sub (fun _ h => List.mem_cons_of_mem _ (List.mem_append_left _ (List.mem_append_right _ h))) (by decide +kernel))
set_option maxRecDepth 20000 in
theorem gX3_change_X3_requestAt : GoodIn wsX3_change (wsV RX3 90 RX3 yX3_requestAt wsX3_requestAt) := goodIn_app (goodIn_of _ (by decide +kernel)) ggX3_change_X3_requestAt
set_option maxRecDepth 20000 in
theorem ggX3_change_X3_checkDays : GoodIn wsX3_change wsX3_checkDays := goodIn_ca (goodIn_r _ [18, 19, 20] (by decide +kernel) (by decide +kernel)) (goodIn_sub (fun _ h => List.mem_cons_of_mem _ (List.mem_append_right _ h)) (by decide +kernel))
set_option maxRecDepth 20000 in
theorem gX3_change_X3_checkDays : GoodIn wsX3_change (va_wsS RX3 75 yX3_checkDays wsX3_checkDays) := goodIn_app (goodIn_of _ (by decide +kernel)) ggX3_change_X3_checkDays
set_option maxRecDepth 20000 in
theorem ggX3_change_X1_markLeave : GoodIn wsX3_change wsX1_markLeave := goodIn_r _ [25, 26, 27, 28, 29, 30, 31, 32, 33, 24, 34, 35, 36, 37, 38, 11, 39, 40, 41, 42, 43, 44, 45, 46, 47, 48, 49, 50, 51, 52, 53, 54, 60, 61, 62, 63, 64, 65, 66, 67, 68, 69, 70, 71, 72, 73, 74, 55, 56, 57, 58, 59] (by decide +kernel) (by decide +kernel)
set_option maxRecDepth 20000 in
theorem gX3_change_X1_markLeave : GoodIn wsX3_change (wsV RX3 108 RX1 yX1_markLeave wsX1_markLeave) := goodIn_app (goodIn_of _ (by decide +kernel)) ggX3_change_X1_markLeave
theorem dX3_change_0 : decode cX3_change 0 = .ok (.aload_n 0, 1) := by decide +kernel
theorem dX3_change_1 : decode cX3_change 1 = .ok (.iload_n 1, 1) := by decide +kernel
theorem dX3_change_2 : decode cX3_change 2 = .ok (.invokevirtual 90, 3) := by decide +kernel
theorem dX3_change_5 : decode cX3_change 5 = .ok (.astore 4, 2) := by decide +kernel
theorem dX3_change_7 : decode cX3_change 7 = .ok (.aload 4, 2) := by decide +kernel
theorem dX3_change_9 : decode cX3_change 9 = .ok (.getfield 94, 3) := by decide +kernel
theorem dX3_change_12 : decode cX3_change 12 = .ok (.getfield 58, 3) := by decide +kernel
theorem dX3_change_15 : decode cX3_change 15 = .ok (.iload_n 2, 1) := by decide +kernel
theorem dX3_change_16 : decode cX3_change 16 = .ok (.iload_n 3, 1) := by decide +kernel
theorem dX3_change_17 : decode cX3_change 17 = .ok (.invokestatic 75, 3) := by decide +kernel
theorem dX3_change_20 : decode cX3_change 20 = .ok (.aload 4, 2) := by decide +kernel
theorem dX3_change_22 : decode cX3_change 22 = .ok (.getfield 98, 3) := by decide +kernel
theorem dX3_change_25 : decode cX3_change 25 = .ok (.ifCond .eq 13, 3) := by decide +kernel
theorem dX3_change_28 : decode cX3_change 28 = .ok (.new 43, 3) := by decide +kernel
theorem dX3_change_31 : decode cX3_change 31 = .ok (.dup, 1) := by decide +kernel
theorem dX3_change_32 : decode cX3_change 32 = .ok (.ldc 102, 2) := by decide +kernel
theorem dX3_change_34 : decode cX3_change 34 = .ok (.invokespecial 47, 3) := by decide +kernel
theorem dX3_change_37 : decode cX3_change 37 = .ok (.athrow, 1) := by decide +kernel
theorem dX3_change_38 : decode cX3_change 38 = .ok (.aload 4, 2) := by decide +kernel
theorem dX3_change_40 : decode cX3_change 40 = .ok (.getfield 104, 3) := by decide +kernel
theorem dX3_change_43 : decode cX3_change 43 = .ok (.istore 5, 2) := by decide +kernel
theorem dX3_change_45 : decode cX3_change 45 = .ok (.aload 4, 2) := by decide +kernel
theorem dX3_change_47 : decode cX3_change 47 = .ok (.getfield 105, 3) := by decide +kernel
theorem dX3_change_50 : decode cX3_change 50 = .ok (.istore 6, 2) := by decide +kernel
theorem dX3_change_52 : decode cX3_change 52 = .ok (.aload 4, 2) := by decide +kernel
theorem dX3_change_54 : decode cX3_change 54 = .ok (.iload_n 2, 1) := by decide +kernel
theorem dX3_change_55 : decode cX3_change 55 = .ok (.putfield 104, 3) := by decide +kernel
theorem dX3_change_58 : decode cX3_change 58 = .ok (.aload 4, 2) := by decide +kernel
theorem dX3_change_60 : decode cX3_change 60 = .ok (.iload_n 3, 1) := by decide +kernel
theorem dX3_change_61 : decode cX3_change 61 = .ok (.putfield 105, 3) := by decide +kernel
theorem dX3_change_64 : decode cX3_change 64 = .ok (.aload 4, 2) := by decide +kernel
theorem dX3_change_66 : decode cX3_change 66 = .ok (.getfield 94, 3) := by decide +kernel
theorem dX3_change_69 : decode cX3_change 69 = .ok (.iload 5, 2) := by decide +kernel
theorem dX3_change_71 : decode cX3_change 71 = .ok (.iload 6, 2) := by decide +kernel
theorem dX3_change_73 : decode cX3_change 73 = .ok (.invokevirtual 108, 3) := by decide +kernel
theorem dX3_change_76 : decode cX3_change 76 = .ok (.aload 4, 2) := by decide +kernel
theorem dX3_change_78 : decode cX3_change 78 = .ok (.getfield 94, 3) := by decide +kernel
theorem dX3_change_81 : decode cX3_change 81 = .ok (.iload_n 2, 1) := by decide +kernel
theorem dX3_change_82 : decode cX3_change 82 = .ok (.iload_n 3, 1) := by decide +kernel
theorem dX3_change_83 : decode cX3_change 83 = .ok (.invokevirtual 108, 3) := by decide +kernel
theorem dX3_change_86 : decode cX3_change 86 = .ok (.iload 6, 2) := by decide +kernel
theorem dX3_change_88 : decode cX3_change 88 = .ok (.iload 5, 2) := by decide +kernel
theorem dX3_change_90 : decode cX3_change 90 = .ok (.isub, 1) := by decide +kernel
theorem dX3_change_91 : decode cX3_change 91 = .ok (.iconst 1, 1) := by decide +kernel
theorem dX3_change_92 : decode cX3_change 92 = .ok (.iadd, 1) := by decide +kernel
theorem dX3_change_93 : decode cX3_change 93 = .ok (.ireturn, 1) := by decide +kernel
set_option maxRecDepth 20000 in
theorem ggX3_cancel_X3_requestAt : GoodIn wsX3_cancel wsX3_requestAt := goodIn_ca (goodIn_r _ [11, 12, 13, 14, 54, 55, 56, 57, 58, 59, 60, 61] (by decide +kernel) (by decide +kernel)) (goodIn_sub (fun _ h => List.mem_cons_of_mem _ (List.mem_append_right _ h)) (by decide +kernel))
set_option maxRecDepth 20000 in
theorem gX3_cancel_X3_requestAt : GoodIn wsX3_cancel (wsV RX3 90 RX3 yX3_requestAt wsX3_requestAt) := goodIn_app (goodIn_of _ (by decide +kernel)) ggX3_cancel_X3_requestAt
set_option maxRecDepth 20000 in
theorem ggX3_cancel_X1_markLeave : GoodIn wsX3_cancel wsX1_markLeave := goodIn_r _ [19, 20, 21, 22, 23, 24, 25, 26, 27, 18, 28, 29, 30, 31, 32, 10, 33, 34, 35, 36, 37, 38, 39, 40, 41, 42, 43, 44, 45, 46, 47, 48, 62, 63, 64, 65, 66, 67, 68, 69, 70, 71, 72, 73, 74, 75, 76, 49, 50, 51, 52, 53] (by decide +kernel) (by decide +kernel)
set_option maxRecDepth 20000 in
theorem gX3_cancel_X1_markLeave : GoodIn wsX3_cancel (wsV RX3 108 RX1 yX1_markLeave wsX1_markLeave) := goodIn_app (goodIn_of _ (by decide +kernel)) ggX3_cancel_X1_markLeave
theorem dX3_cancel_0 : decode cX3_cancel 0 = .ok (.aload_n 0, 1) := by decide +kernel
theorem dX3_cancel_1 : decode cX3_cancel 1 = .ok (.iload_n 1, 1) := by decide +kernel
theorem dX3_cancel_2 : decode cX3_cancel 2 = .ok (.invokevirtual 90, 3) := by decide +kernel
theorem dX3_cancel_5 : decode cX3_cancel 5 = .ok (.astore_n 2, 1) := by decide +kernel
theorem dX3_cancel_6 : decode cX3_cancel 6 = .ok (.aload_n 2, 1) := by decide +kernel
theorem dX3_cancel_7 : decode cX3_cancel 7 = .ok (.getfield 98, 3) := by decide +kernel
theorem dX3_cancel_10 : decode cX3_cancel 10 = .ok (.ifCond .eq 13, 3) := by decide +kernel
theorem dX3_cancel_13 : decode cX3_cancel 13 = .ok (.new 43, 3) := by decide +kernel
theorem dX3_cancel_16 : decode cX3_cancel 16 = .ok (.dup, 1) := by decide +kernel
theorem dX3_cancel_17 : decode cX3_cancel 17 = .ok (.ldc 102, 2) := by decide +kernel
theorem dX3_cancel_19 : decode cX3_cancel 19 = .ok (.invokespecial 47, 3) := by decide +kernel
theorem dX3_cancel_22 : decode cX3_cancel 22 = .ok (.athrow, 1) := by decide +kernel
theorem dX3_cancel_23 : decode cX3_cancel 23 = .ok (.aload_n 2, 1) := by decide +kernel
theorem dX3_cancel_24 : decode cX3_cancel 24 = .ok (.iconst 1, 1) := by decide +kernel
theorem dX3_cancel_25 : decode cX3_cancel 25 = .ok (.putfield 98, 3) := by decide +kernel
theorem dX3_cancel_28 : decode cX3_cancel 28 = .ok (.aload_n 2, 1) := by decide +kernel
theorem dX3_cancel_29 : decode cX3_cancel 29 = .ok (.getfield 94, 3) := by decide +kernel
theorem dX3_cancel_32 : decode cX3_cancel 32 = .ok (.aload_n 2, 1) := by decide +kernel
theorem dX3_cancel_33 : decode cX3_cancel 33 = .ok (.getfield 104, 3) := by decide +kernel
theorem dX3_cancel_36 : decode cX3_cancel 36 = .ok (.aload_n 2, 1) := by decide +kernel
theorem dX3_cancel_37 : decode cX3_cancel 37 = .ok (.getfield 105, 3) := by decide +kernel
theorem dX3_cancel_40 : decode cX3_cancel 40 = .ok (.invokevirtual 108, 3) := by decide +kernel
theorem dX3_cancel_43 : decode cX3_cancel 43 = .ok (.return_, 1) := by decide +kernel
set_option maxRecDepth 20000 in
theorem ggX3_sick_X3_personAt : GoodIn wsX3_sick wsX3_personAt := goodIn_ca (goodIn_r _ [9, 10, 11, 12, 71, 72, 73, 74, 75, 76, 77, 78] (by decide +kernel) (by decide +kernel)) (goodIn_sub (fun _ h => List.mem_cons_of_mem _ (List.mem_append_left _ (List.mem_append_right _ h))) (by decide +kernel))
set_option maxRecDepth 20000 in
theorem gX3_sick_X3_personAt : GoodIn wsX3_sick (wsV RX3 54 RX3 yX3_personAt wsX3_personAt) := goodIn_app (goodIn_of _ (by decide +kernel)) ggX3_sick_X3_personAt
set_option maxRecDepth 20000 in
theorem ggX3_sick_X3_checkDays : GoodIn wsX3_sick wsX3_checkDays := goodIn_ca (goodIn_r _ [15, 16, 17] (by decide +kernel) (by decide +kernel)) (goodIn_sub (fun _ h => List.mem_cons_of_mem _ (List.mem_append_right _ h)) (by decide +kernel))
set_option maxRecDepth 20000 in
theorem gX3_sick_X3_checkDays : GoodIn wsX3_sick (va_wsS RX3 75 yX3_checkDays wsX3_checkDays) := goodIn_app (goodIn_of _ (by decide +kernel)) ggX3_sick_X3_checkDays
set_option maxRecDepth 20000 in
theorem ggX3_sick_X1_enterSpell : GoodIn wsX3_sick wsX1_enterSpell := goodIn_r _ [22, 23, 24, 25, 26, 27, 28, 21, 29, 30, 31, 32, 33, 34, 35, 36, 37, 38, 39, 40, 41, 42, 8, 43, 44, 45, 46, 47, 48, 49, 50, 51, 52, 53, 54, 55, 56, 57, 58, 59, 60, 61, 62, 63, 64, 65, 66, 67, 68, 69, 70, 79, 80, 81, 82, 83] (by decide +kernel) (by decide +kernel)
set_option maxRecDepth 20000 in
theorem gX3_sick_X1_enterSpell : GoodIn wsX3_sick (wsV RX3 116 RX1 yX1_enterSpell wsX1_enterSpell) := goodIn_app (goodIn_of _ (by decide +kernel)) ggX3_sick_X1_enterSpell
theorem dX3_sick_0 : decode cX3_sick 0 = .ok (.aload_n 0, 1) := by decide +kernel
theorem dX3_sick_1 : decode cX3_sick 1 = .ok (.iload_n 1, 1) := by decide +kernel
theorem dX3_sick_2 : decode cX3_sick 2 = .ok (.invokevirtual 54, 3) := by decide +kernel
theorem dX3_sick_5 : decode cX3_sick 5 = .ok (.astore 4, 2) := by decide +kernel
theorem dX3_sick_7 : decode cX3_sick 7 = .ok (.aload 4, 2) := by decide +kernel
theorem dX3_sick_9 : decode cX3_sick 9 = .ok (.getfield 58, 3) := by decide +kernel
theorem dX3_sick_12 : decode cX3_sick 12 = .ok (.iload_n 2, 1) := by decide +kernel
theorem dX3_sick_13 : decode cX3_sick 13 = .ok (.iload_n 3, 1) := by decide +kernel
theorem dX3_sick_14 : decode cX3_sick 14 = .ok (.invokestatic 75, 3) := by decide +kernel
theorem dX3_sick_17 : decode cX3_sick 17 = .ok (.aload_n 0, 1) := by decide +kernel
theorem dX3_sick_18 : decode cX3_sick 18 = .ok (.getfield 111, 3) := by decide +kernel
theorem dX3_sick_21 : decode cX3_sick 21 = .ok (.bipush 30, 2) := by decide +kernel
theorem dX3_sick_23 : decode cX3_sick 23 = .ok (.if_icmp .lt 13, 3) := by decide +kernel
theorem dX3_sick_26 : decode cX3_sick 26 = .ok (.new 43, 3) := by decide +kernel
theorem dX3_sick_29 : decode cX3_sick 29 = .ok (.dup, 1) := by decide +kernel
theorem dX3_sick_30 : decode cX3_sick 30 = .ok (.ldc 114, 2) := by decide +kernel
theorem dX3_sick_32 : decode cX3_sick 32 = .ok (.invokespecial 47, 3) := by decide +kernel
theorem dX3_sick_35 : decode cX3_sick 35 = .ok (.athrow, 1) := by decide +kernel
theorem dX3_sick_36 : decode cX3_sick 36 = .ok (.aload 4, 2) := by decide +kernel
theorem dX3_sick_38 : decode cX3_sick 38 = .ok (.iload_n 2, 1) := by decide +kernel
theorem dX3_sick_39 : decode cX3_sick 39 = .ok (.iload_n 3, 1) := by decide +kernel
theorem dX3_sick_40 : decode cX3_sick 40 = .ok (.invokevirtual 116, 3) := by decide +kernel
theorem dX3_sick_43 : decode cX3_sick 43 = .ok (.aload_n 0, 1) := by decide +kernel
theorem dX3_sick_44 : decode cX3_sick 44 = .ok (.dup, 1) := by decide +kernel
theorem dX3_sick_45 : decode cX3_sick 45 = .ok (.getfield 111, 3) := by decide +kernel
theorem dX3_sick_48 : decode cX3_sick 48 = .ok (.iconst 1, 1) := by decide +kernel
theorem dX3_sick_49 : decode cX3_sick 49 = .ok (.iadd, 1) := by decide +kernel
theorem dX3_sick_50 : decode cX3_sick 50 = .ok (.putfield 111, 3) := by decide +kernel
theorem dX3_sick_53 : decode cX3_sick 53 = .ok (.aload_n 0, 1) := by decide +kernel
theorem dX3_sick_54 : decode cX3_sick 54 = .ok (.getfield 111, 3) := by decide +kernel
theorem dX3_sick_57 : decode cX3_sick 57 = .ok (.ireturn, 1) := by decide +kernel
set_option maxRecDepth 20000 in
theorem ggX3_payOut_X3_personAt : GoodIn wsX3_payOut wsX3_personAt := goodIn_ca (goodIn_r _ [12, 13, 14, 15, 103, 104, 105, 106, 107, 108, 109, 110] (by decide +kernel) (by decide +kernel)) (goodIn_sub (fun _ h => List.mem_cons_of_mem _ (List.mem_append_right _ h)) (by decide +kernel))
set_option maxRecDepth 20000 in
theorem gX3_payOut_X3_personAt : GoodIn wsX3_payOut (wsV RX3 54 RX3 yX3_personAt wsX3_personAt) := goodIn_app (goodIn_of _ (by decide +kernel)) ggX3_payOut_X3_personAt
set_option maxRecDepth 20000 in
theorem ggX3_payOut_X0_goThrough : GoodIn wsX3_payOut wsX0_goThrough := goodIn_r _ [20, 21, 22, 23, 24, 19, 25, 26, 27, 28, 29, 30, 31, 32, 33, 34, 35, 36, 37, 38, 39, 40, 41, 42, 43, 44, 45, 46, 47, 48, 49, 50, 51, 52, 53, 54, 55, 56, 57, 58, 59, 60, 61, 62, 63, 64, 65, 66, 67, 68, 69, 70, 71, 72, 73, 74, 75, 76, 77, 78, 79, 80, 81, 82, 83, 84, 85, 86, 87, 88, 89, 90, 91, 92, 93, 94, 111, 112, 113, 114, 115, 116, 117, 118, 119, 120, 121, 122, 123, 124, 125, 126, 127, 128, 129, 130, 131, 132, 133, 134, 135, 136] (by decide +kernel) (by decide +kernel)
set_option maxRecDepth 20000 in
theorem gX3_payOut_X0_goThrough : GoodIn wsX3_payOut (wsV RX3 126 RX0 yX0_goThrough wsX0_goThrough) := goodIn_app (goodIn_of _ (by decide +kernel)) ggX3_payOut_X0_goThrough
set_option maxRecDepth 20000 in
theorem ggX3_payOut_X0_pointsInLots : GoodIn wsX3_payOut wsX0_pointsInLots := goodIn_r _ [83, 27, 26, 62, 126, 127, 128, 129, 130, 131, 132, 133, 134, 135, 136] (by decide +kernel) (by decide +kernel)
set_option maxRecDepth 20000 in
theorem gX3_payOut_X0_pointsInLots : GoodIn wsX3_payOut (wsV RX3 130 RX0 yX0_pointsInLots wsX0_pointsInLots) := goodIn_app (goodIn_of _ (by decide +kernel)) ggX3_payOut_X0_pointsInLots
set_option maxRecDepth 20000 in
theorem ggX3_payOut_X1_enterPayout : GoodIn wsX3_payOut wsX1_enterPayout := goodIn_r _ [99, 100, 101, 102, 111, 112, 113, 114, 115, 116, 117, 118, 119, 120, 121, 122, 123, 124, 125] (by decide +kernel) (by decide +kernel)
set_option maxRecDepth 20000 in
theorem gX3_payOut_X1_enterPayout : GoodIn wsX3_payOut (wsV RX3 136 RX1 yX1_enterPayout wsX1_enterPayout) := goodIn_app (goodIn_of _ (by decide +kernel)) ggX3_payOut_X1_enterPayout
theorem dX3_payOut_0 : decode cX3_payOut 0 = .ok (.aload_n 0, 1) := by decide +kernel
theorem dX3_payOut_1 : decode cX3_payOut 1 = .ok (.iload_n 1, 1) := by decide +kernel
theorem dX3_payOut_2 : decode cX3_payOut 2 = .ok (.invokevirtual 54, 3) := by decide +kernel
theorem dX3_payOut_5 : decode cX3_payOut 5 = .ok (.astore_n 3, 1) := by decide +kernel
theorem dX3_payOut_6 : decode cX3_payOut 6 = .ok (.iload_n 2, 1) := by decide +kernel
theorem dX3_payOut_7 : decode cX3_payOut 7 = .ok (.iconst 1, 1) := by decide +kernel
theorem dX3_payOut_8 : decode cX3_payOut 8 = .ok (.if_icmp .lt 10, 3) := by decide +kernel
theorem dX3_payOut_11 : decode cX3_payOut 11 = .ok (.iload_n 2, 1) := by decide +kernel
theorem dX3_payOut_12 : decode cX3_payOut 12 = .ok (.sipush 20000, 3) := by decide +kernel
theorem dX3_payOut_15 : decode cX3_payOut 15 = .ok (.if_icmp .le 13, 3) := by decide +kernel
theorem dX3_payOut_18 : decode cX3_payOut 18 = .ok (.new 28, 3) := by decide +kernel
theorem dX3_payOut_21 : decode cX3_payOut 21 = .ok (.dup, 1) := by decide +kernel
theorem dX3_payOut_22 : decode cX3_payOut 22 = .ok (.ldc 119, 2) := by decide +kernel
theorem dX3_payOut_24 : decode cX3_payOut 24 = .ok (.invokespecial 32, 3) := by decide +kernel
theorem dX3_payOut_27 : decode cX3_payOut 27 = .ok (.athrow, 1) := by decide +kernel
theorem dX3_payOut_28 : decode cX3_payOut 28 = .ok (.aload_n 0, 1) := by decide +kernel
theorem dX3_payOut_29 : decode cX3_payOut 29 = .ok (.getfield 121, 3) := by decide +kernel
theorem dX3_payOut_32 : decode cX3_payOut 32 = .ok (.bipush 20, 2) := by decide +kernel
theorem dX3_payOut_34 : decode cX3_payOut 34 = .ok (.if_icmp .lt 13, 3) := by decide +kernel
theorem dX3_payOut_37 : decode cX3_payOut 37 = .ok (.new 43, 3) := by decide +kernel
theorem dX3_payOut_40 : decode cX3_payOut 40 = .ok (.dup, 1) := by decide +kernel
theorem dX3_payOut_41 : decode cX3_payOut 41 = .ok (.ldc 124, 2) := by decide +kernel
theorem dX3_payOut_43 : decode cX3_payOut 43 = .ok (.invokespecial 47, 3) := by decide +kernel
theorem dX3_payOut_46 : decode cX3_payOut 46 = .ok (.athrow, 1) := by decide +kernel
theorem dX3_payOut_47 : decode cX3_payOut 47 = .ok (.aload_n 0, 1) := by decide +kernel
theorem dX3_payOut_48 : decode cX3_payOut 48 = .ok (.getfield 24, 3) := by decide +kernel
theorem dX3_payOut_51 : decode cX3_payOut 51 = .ok (.aload_n 3, 1) := by decide +kernel
theorem dX3_payOut_52 : decode cX3_payOut 52 = .ok (.aload_n 0, 1) := by decide +kernel
theorem dX3_payOut_53 : decode cX3_payOut 53 = .ok (.getfield 48, 3) := by decide +kernel
theorem dX3_payOut_56 : decode cX3_payOut 56 = .ok (.invokevirtual 126, 3) := by decide +kernel
theorem dX3_payOut_59 : decode cX3_payOut 59 = .ok (.aload_n 0, 1) := by decide +kernel
theorem dX3_payOut_60 : decode cX3_payOut 60 = .ok (.getfield 24, 3) := by decide +kernel
theorem dX3_payOut_63 : decode cX3_payOut 63 = .ok (.invokevirtual 130, 3) := by decide +kernel
theorem dX3_payOut_66 : decode cX3_payOut 66 = .ok (.iload_n 2, 1) := by decide +kernel
theorem dX3_payOut_67 : decode cX3_payOut 67 = .ok (.if_icmp .ge 13, 3) := by decide +kernel
theorem dX3_payOut_70 : decode cX3_payOut 70 = .ok (.new 43, 3) := by decide +kernel
theorem dX3_payOut_73 : decode cX3_payOut 73 = .ok (.dup, 1) := by decide +kernel
theorem dX3_payOut_74 : decode cX3_payOut 74 = .ok (.ldc 134, 2) := by decide +kernel
theorem dX3_payOut_76 : decode cX3_payOut 76 = .ok (.invokespecial 47, 3) := by decide +kernel
theorem dX3_payOut_79 : decode cX3_payOut 79 = .ok (.athrow, 1) := by decide +kernel
theorem dX3_payOut_80 : decode cX3_payOut 80 = .ok (.aload_n 3, 1) := by decide +kernel
theorem dX3_payOut_81 : decode cX3_payOut 81 = .ok (.aload_n 0, 1) := by decide +kernel
theorem dX3_payOut_82 : decode cX3_payOut 82 = .ok (.getfield 48, 3) := by decide +kernel
theorem dX3_payOut_85 : decode cX3_payOut 85 = .ok (.iload_n 2, 1) := by decide +kernel
theorem dX3_payOut_86 : decode cX3_payOut 86 = .ok (.invokevirtual 136, 3) := by decide +kernel
theorem dX3_payOut_89 : decode cX3_payOut 89 = .ok (.aload_n 0, 1) := by decide +kernel
theorem dX3_payOut_90 : decode cX3_payOut 90 = .ok (.getfield 121, 3) := by decide +kernel
theorem dX3_payOut_93 : decode cX3_payOut 93 = .ok (.istore 4, 2) := by decide +kernel
theorem dX3_payOut_95 : decode cX3_payOut 95 = .ok (.aload_n 0, 1) := by decide +kernel
theorem dX3_payOut_96 : decode cX3_payOut 96 = .ok (.iload 4, 2) := by decide +kernel
theorem dX3_payOut_98 : decode cX3_payOut 98 = .ok (.iconst 1, 1) := by decide +kernel
theorem dX3_payOut_99 : decode cX3_payOut 99 = .ok (.iadd, 1) := by decide +kernel
theorem dX3_payOut_100 : decode cX3_payOut 100 = .ok (.putfield 121, 3) := by decide +kernel
theorem dX3_payOut_103 : decode cX3_payOut 103 = .ok (.iload 4, 2) := by decide +kernel
theorem dX3_payOut_105 : decode cX3_payOut 105 = .ok (.ireturn, 1) := by decide +kernel
theorem dX3_pass_0 : decode cX3_pass 0 = .ok (.iload_n 1, 1) := by decide +kernel
theorem dX3_pass_1 : decode cX3_pass 1 = .ok (.iconst 1, 1) := by decide +kernel
theorem dX3_pass_2 : decode cX3_pass 2 = .ok (.if_icmp .lt 10, 3) := by decide +kernel
theorem dX3_pass_5 : decode cX3_pass 5 = .ok (.iload_n 1, 1) := by decide +kernel
theorem dX3_pass_6 : decode cX3_pass 6 = .ok (.sipush 400, 3) := by decide +kernel
theorem dX3_pass_9 : decode cX3_pass 9 = .ok (.if_icmp .le 13, 3) := by decide +kernel
theorem dX3_pass_12 : decode cX3_pass 12 = .ok (.new 28, 3) := by decide +kernel
theorem dX3_pass_15 : decode cX3_pass 15 = .ok (.dup, 1) := by decide +kernel
theorem dX3_pass_16 : decode cX3_pass 16 = .ok (.ldc 139, 2) := by decide +kernel
theorem dX3_pass_18 : decode cX3_pass 18 = .ok (.invokespecial 32, 3) := by decide +kernel
theorem dX3_pass_21 : decode cX3_pass 21 = .ok (.athrow, 1) := by decide +kernel
theorem dX3_pass_22 : decode cX3_pass 22 = .ok (.aload_n 0, 1) := by decide +kernel
theorem dX3_pass_23 : decode cX3_pass 23 = .ok (.getfield 48, 3) := by decide +kernel
theorem dX3_pass_26 : decode cX3_pass 26 = .ok (.iload_n 1, 1) := by decide +kernel
theorem dX3_pass_27 : decode cX3_pass 27 = .ok (.iadd, 1) := by decide +kernel
theorem dX3_pass_28 : decode cX3_pass 28 = .ok (.sipush 3600, 3) := by decide +kernel
theorem dX3_pass_31 : decode cX3_pass 31 = .ok (.if_icmp .le 13, 3) := by decide +kernel
theorem dX3_pass_34 : decode cX3_pass 34 = .ok (.new 43, 3) := by decide +kernel
theorem dX3_pass_37 : decode cX3_pass 37 = .ok (.dup, 1) := by decide +kernel
theorem dX3_pass_38 : decode cX3_pass 38 = .ok (.ldc 141, 2) := by decide +kernel
theorem dX3_pass_40 : decode cX3_pass 40 = .ok (.invokespecial 47, 3) := by decide +kernel
theorem dX3_pass_43 : decode cX3_pass 43 = .ok (.athrow, 1) := by decide +kernel
theorem dX3_pass_44 : decode cX3_pass 44 = .ok (.aload_n 0, 1) := by decide +kernel
theorem dX3_pass_45 : decode cX3_pass 45 = .ok (.dup, 1) := by decide +kernel
theorem dX3_pass_46 : decode cX3_pass 46 = .ok (.getfield 48, 3) := by decide +kernel
theorem dX3_pass_49 : decode cX3_pass 49 = .ok (.iload_n 1, 1) := by decide +kernel
theorem dX3_pass_50 : decode cX3_pass 50 = .ok (.iadd, 1) := by decide +kernel
theorem dX3_pass_51 : decode cX3_pass 51 = .ok (.putfield 48, 3) := by decide +kernel
theorem dX3_pass_54 : decode cX3_pass 54 = .ok (.aload_n 0, 1) := by decide +kernel
theorem dX3_pass_55 : decode cX3_pass 55 = .ok (.getfield 48, 3) := by decide +kernel
theorem dX3_pass_58 : decode cX3_pass 58 = .ok (.ireturn, 1) := by decide +kernel
theorem dX3_today_0 : decode cX3_today 0 = .ok (.aload_n 0, 1) := by decide +kernel
theorem dX3_today_1 : decode cX3_today 1 = .ok (.getfield 48, 3) := by decide +kernel
theorem dX3_today_4 : decode cX3_today 4 = .ok (.ireturn, 1) := by decide +kernel
theorem dX3_people_0 : decode cX3_people 0 = .ok (.aload_n 0, 1) := by decide +kernel
theorem dX3_people_1 : decode cX3_people 1 = .ok (.getfield 39, 3) := by decide +kernel
theorem dX3_people_4 : decode cX3_people 4 = .ok (.ireturn, 1) := by decide +kernel
set_option maxRecDepth 20000 in
theorem ggX3_workingDays_X3_checkDays : GoodIn wsX3_workingDays wsX3_checkDays := goodIn_ca (goodIn_r _ [4, 5, 6] (by decide +kernel) (by decide +kernel)) (goodIn_sub (fun _ h => List.mem_cons_of_mem _ (List.mem_append_right _ h)) (by decide +kernel))
set_option maxRecDepth 20000 in
theorem gX3_workingDays_X3_checkDays : GoodIn wsX3_workingDays (va_wsS RX3 75 yX3_checkDays wsX3_checkDays) := goodIn_app (goodIn_of _ (by decide +kernel)) ggX3_workingDays_X3_checkDays
set_option maxRecDepth 20000 in
theorem ggX3_workingDays_X3_workingDaysAheadOf : GoodIn wsX3_workingDays wsX3_workingDaysAheadOf := goodIn_r _ [9, 10, 11, 12, 13] (by decide +kernel) (by decide +kernel)
set_option maxRecDepth 20000 in
theorem gX3_workingDays_X3_workingDaysAheadOf : GoodIn wsX3_workingDays (va_wsS RX3 143 yX3_workingDaysAheadOf wsX3_workingDaysAheadOf) := goodIn_app (goodIn_of _ (by decide +kernel)) ggX3_workingDays_X3_workingDaysAheadOf
theorem dX3_workingDays_0 : decode cX3_workingDays 0 = .ok (.iconst 0, 1) := by decide +kernel
theorem dX3_workingDays_1 : decode cX3_workingDays 1 = .ok (.iload_n 1, 1) := by decide +kernel
theorem dX3_workingDays_2 : decode cX3_workingDays 2 = .ok (.iload_n 2, 1) := by decide +kernel
theorem dX3_workingDays_3 : decode cX3_workingDays 3 = .ok (.invokestatic 75, 3) := by decide +kernel
theorem dX3_workingDays_6 : decode cX3_workingDays 6 = .ok (.iload_n 2, 1) := by decide +kernel
theorem dX3_workingDays_7 : decode cX3_workingDays 7 = .ok (.iconst 1, 1) := by decide +kernel
theorem dX3_workingDays_8 : decode cX3_workingDays 8 = .ok (.iadd, 1) := by decide +kernel
theorem dX3_workingDays_9 : decode cX3_workingDays 9 = .ok (.invokestatic 143, 3) := by decide +kernel
theorem dX3_workingDays_12 : decode cX3_workingDays 12 = .ok (.iload_n 1, 1) := by decide +kernel
theorem dX3_workingDays_13 : decode cX3_workingDays 13 = .ok (.invokestatic 143, 3) := by decide +kernel
theorem dX3_workingDays_16 : decode cX3_workingDays 16 = .ok (.isub, 1) := by decide +kernel
theorem dX3_workingDays_17 : decode cX3_workingDays 17 = .ok (.ireturn, 1) := by decide +kernel
set_option maxRecDepth 20000 in
theorem ggX3_hours_X3_personAt : GoodIn wsX3_hours wsX3_personAt := goodIn_ca (goodIn_r _ [6, 7, 8, 9, 39, 40, 41, 42, 43, 44, 45, 46] (by decide +kernel) (by decide +kernel)) (goodIn_sub (fun _ h => List.mem_cons_of_mem _ (List.mem_append_left _ (List.mem_append_right _ h))) (by decide +kernel))
set_option maxRecDepth 20000 in
theorem gX3_hours_X3_personAt : GoodIn wsX3_hours (wsV RX3 54 RX3 yX3_personAt wsX3_personAt) := goodIn_app (goodIn_of _ (by decide +kernel)) ggX3_hours_X3_personAt
set_option maxRecDepth 20000 in
theorem ggX3_hours_X3_checkDay : GoodIn wsX3_hours wsX3_checkDay := goodIn_ca (goodIn_r _ [12, 13, 14] (by decide +kernel) (by decide +kernel)) (goodIn_sub (fun _ h => List.mem_cons_of_mem _ (List.mem_append_right _ h)) (by decide +kernel))
set_option maxRecDepth 20000 in
theorem gX3_hours_X3_checkDay : GoodIn wsX3_hours (va_wsS RX3 61 yX3_checkDay wsX3_checkDay) := goodIn_app (goodIn_of _ (by decide +kernel)) ggX3_hours_X3_checkDay
set_option maxRecDepth 20000 in
theorem ggX3_hours_X1_hoursOn : GoodIn wsX3_hours wsX1_hoursOn := goodIn_r _ [19, 20, 21, 22, 23, 24, 25, 26, 27, 28, 29, 30, 31, 32, 33, 34, 35, 36, 37, 38] (by decide +kernel) (by decide +kernel)
set_option maxRecDepth 20000 in
theorem gX3_hours_X1_hoursOn : GoodIn wsX3_hours (wsV RX3 65 RX1 yX1_hoursOn wsX1_hoursOn) := goodIn_app (goodIn_of _ (by decide +kernel)) ggX3_hours_X1_hoursOn
theorem dX3_hours_0 : decode cX3_hours 0 = .ok (.aload_n 0, 1) := by decide +kernel
theorem dX3_hours_1 : decode cX3_hours 1 = .ok (.iload_n 1, 1) := by decide +kernel
theorem dX3_hours_2 : decode cX3_hours 2 = .ok (.invokevirtual 54, 3) := by decide +kernel
theorem dX3_hours_5 : decode cX3_hours 5 = .ok (.astore_n 3, 1) := by decide +kernel
theorem dX3_hours_6 : decode cX3_hours 6 = .ok (.aload_n 3, 1) := by decide +kernel
theorem dX3_hours_7 : decode cX3_hours 7 = .ok (.getfield 58, 3) := by decide +kernel
theorem dX3_hours_10 : decode cX3_hours 10 = .ok (.iload_n 2, 1) := by decide +kernel
theorem dX3_hours_11 : decode cX3_hours 11 = .ok (.invokestatic 61, 3) := by decide +kernel
theorem dX3_hours_14 : decode cX3_hours 14 = .ok (.aload_n 3, 1) := by decide +kernel
theorem dX3_hours_15 : decode cX3_hours 15 = .ok (.iload_n 2, 1) := by decide +kernel
theorem dX3_hours_16 : decode cX3_hours 16 = .ok (.invokevirtual 65, 3) := by decide +kernel
theorem dX3_hours_19 : decode cX3_hours 19 = .ok (.ireturn, 1) := by decide +kernel
set_option maxRecDepth 20000 in
theorem ggX3_onLeave_X3_personAt : GoodIn wsX3_onLeave wsX3_personAt := goodIn_ca (goodIn_r _ [5, 6, 7, 8, 20, 21, 22, 23, 24, 25, 26, 27] (by decide +kernel) (by decide +kernel)) (goodIn_sub (fun _ h => List.mem_cons_of_mem _ (List.mem_append_left _ (List.mem_append_right _ h))) (by decide +kernel))
set_option maxRecDepth 20000 in
theorem gX3_onLeave_X3_personAt : GoodIn wsX3_onLeave (wsV RX3 54 RX3 yX3_personAt wsX3_personAt) := goodIn_app (goodIn_of _ (by decide +kernel)) ggX3_onLeave_X3_personAt
set_option maxRecDepth 20000 in
theorem ggX3_onLeave_X3_checkDay : GoodIn wsX3_onLeave wsX3_checkDay := goodIn_ca (goodIn_r _ [11, 12, 13] (by decide +kernel) (by decide +kernel)) (goodIn_sub (fun _ h => List.mem_cons_of_mem _ (List.mem_append_right _ h)) (by decide +kernel))
set_option maxRecDepth 20000 in
theorem gX3_onLeave_X3_checkDay : GoodIn wsX3_onLeave (va_wsS RX3 61 yX3_checkDay wsX3_checkDay) := goodIn_app (goodIn_of _ (by decide +kernel)) ggX3_onLeave_X3_checkDay
set_option maxRecDepth 20000 in
theorem ggX3_onLeave_X1_leaveOn : GoodIn wsX3_onLeave wsX1_leaveOn := goodIn_r _ [18, 19, 28, 29, 30, 31, 32, 33, 34, 35, 36, 37, 38, 39, 40, 41, 42] (by decide +kernel) (by decide +kernel)
set_option maxRecDepth 20000 in
theorem gX3_onLeave_X1_leaveOn : GoodIn wsX3_onLeave (wsV RX3 146 RX1 yX1_leaveOn wsX1_leaveOn) := goodIn_app (goodIn_of _ (by decide +kernel)) ggX3_onLeave_X1_leaveOn
theorem dX3_onLeave_0 : decode cX3_onLeave 0 = .ok (.aload_n 0, 1) := by decide +kernel
theorem dX3_onLeave_1 : decode cX3_onLeave 1 = .ok (.iload_n 1, 1) := by decide +kernel
theorem dX3_onLeave_2 : decode cX3_onLeave 2 = .ok (.invokevirtual 54, 3) := by decide +kernel
theorem dX3_onLeave_5 : decode cX3_onLeave 5 = .ok (.astore_n 3, 1) := by decide +kernel
theorem dX3_onLeave_6 : decode cX3_onLeave 6 = .ok (.iconst 0, 1) := by decide +kernel
theorem dX3_onLeave_7 : decode cX3_onLeave 7 = .ok (.iload_n 2, 1) := by decide +kernel
theorem dX3_onLeave_8 : decode cX3_onLeave 8 = .ok (.invokestatic 61, 3) := by decide +kernel
theorem dX3_onLeave_11 : decode cX3_onLeave 11 = .ok (.aload_n 3, 1) := by decide +kernel
theorem dX3_onLeave_12 : decode cX3_onLeave 12 = .ok (.iload_n 2, 1) := by decide +kernel
theorem dX3_onLeave_13 : decode cX3_onLeave 13 = .ok (.invokevirtual 146, 3) := by decide +kernel
theorem dX3_onLeave_16 : decode cX3_onLeave 16 = .ok (.ireturn, 1) := by decide +kernel
set_option maxRecDepth 20000 in
theorem ggX3_balance_X3_ledgerBehind : GoodIn wsX3_balance wsX3_ledgerBehind := goodIn_ca (goodIn_ca (goodIn_r _ [6, 7, 8, 9, 10, 5, 11, 12, 13, 14, 15, 16, 17, 18, 19, 20, 21, 22, 23, 24, 25, 26, 27, 28, 29, 30, 31, 32, 33, 34, 35, 36, 37, 38, 39, 40, 41, 42, 43, 44, 45, 46, 47, 48, 49, 50, 51, 52, 53, 54, 55, 56, 57, 58, 59, 60, 61, 62, 63, 64, 65, 66, 67, 68, 69, 70, 71, 72, 73, 74, 75, 76, 77, 78, 79, 80, 81, 82, 83, 84, 85, 86, 87, 88, 89, 90, 91, 92, 93, 94, 95, 96, 97, 98, 111, 112, 113, 114, 115, 116, 117, 118, 119, 120, 121, 122, 123, 124, 125, 126, 127, 128, 129, 130, 131, 132, 133, 100, 101, 102, 103, 104, 105, 106, 107, 108, 109, 110] (by decide +kernel) (by decide +kernel)) (goodIn_sub (fun _ h => List.mem_cons_of_mem _ (List.mem_append_left _ (List.mem_append_right _ h))) (by decide +kernel))) (goodIn_sub (fun _ h => List.mem_cons_of_mem _ (List.mem_append_right _ h)) (by decide +kernel))
set_option maxRecDepth 20000 in
theorem gX3_balance_X3_ledgerBehind : GoodIn wsX3_balance (wsV RX3 149 RX3 yX3_ledgerBehind wsX3_ledgerBehind) := goodIn_app (goodIn_of _ (by decide +kernel)) ggX3_balance_X3_ledgerBehind
set_option maxRecDepth 20000 in
theorem ggX3_balance_X0_pointsInLots : GoodIn wsX3_balance wsX0_pointsInLots := goodIn_r _ [87, 31, 30, 66, 100, 101, 102, 103, 104, 105, 106, 107, 108, 109, 110] (by decide +kernel) (by decide +kernel)
set_option maxRecDepth 20000 in
theorem gX3_balance_X0_pointsInLots : GoodIn wsX3_balance (wsV RX3 130 RX0 yX0_pointsInLots wsX0_pointsInLots) := goodIn_app (goodIn_of _ (by decide +kernel)) ggX3_balance_X0_pointsInLots
theorem dX3_balance_0 : decode cX3_balance 0 = .ok (.aload_n 0, 1) := by decide +kernel
theorem dX3_balance_1 : decode cX3_balance 1 = .ok (.iload_n 1, 1) := by decide +kernel
theorem dX3_balance_2 : decode cX3_balance 2 = .ok (.iload_n 2, 1) := by decide +kernel
theorem dX3_balance_3 : decode cX3_balance 3 = .ok (.invokevirtual 149, 3) := by decide +kernel
theorem dX3_balance_6 : decode cX3_balance 6 = .ok (.astore_n 3, 1) := by decide +kernel
theorem dX3_balance_7 : decode cX3_balance 7 = .ok (.aload_n 3, 1) := by decide +kernel
theorem dX3_balance_8 : decode cX3_balance 8 = .ok (.invokevirtual 130, 3) := by decide +kernel
theorem dX3_balance_11 : decode cX3_balance 11 = .ok (.aload_n 3, 1) := by decide +kernel
theorem dX3_balance_12 : decode cX3_balance 12 = .ok (.getfield 153, 3) := by decide +kernel
theorem dX3_balance_15 : decode cX3_balance 15 = .ok (.isub, 1) := by decide +kernel
theorem dX3_balance_16 : decode cX3_balance 16 = .ok (.ireturn, 1) := by decide +kernel
set_option maxRecDepth 20000 in
theorem ggX3_balanceBySums_X3_ledgerBehind : GoodIn wsX3_balanceBySums wsX3_ledgerBehind := goodIn_ca (goodIn_ca (goodIn_r _ [9, 10, 11, 12, 13, 8, 14, 15, 16, 17, 18, 19, 20, 21, 22, 23, 24, 25, 26, 27, 28, 29, 30, 31, 32, 33, 34, 35, 36, 37, 38, 39, 40, 41, 42, 43, 44, 45, 46, 47, 48, 49, 50, 51, 52, 53, 54, 55, 56, 57, 58, 59, 60, 61, 62, 63, 64, 65, 66, 67, 68, 69, 70, 71, 72, 73, 74, 75, 76, 77, 78, 79, 80, 81, 82, 83, 84, 85, 86, 87, 88, 89, 90, 91, 92, 93, 94, 95, 96, 97, 98, 99, 100, 101, 113, 114, 115, 116, 117, 118, 119, 120, 121, 122, 123, 124, 125, 126, 127, 128, 129, 130, 131, 132, 133, 134, 135, 102, 103, 104, 105, 106, 107, 108, 109, 110, 111, 112] (by decide +kernel) (by decide +kernel)) (goodIn_sub (fun _ h => List.mem_cons_of_mem _ (List.mem_append_left _ (List.mem_append_right _ h))) (by decide +kernel))) (goodIn_sub (fun _ h => List.mem_cons_of_mem _ (List.mem_append_right _ h)) (by decide +kernel))
set_option maxRecDepth 20000 in
theorem gX3_balanceBySums_X3_ledgerBehind : GoodIn wsX3_balanceBySums (wsV RX3 149 RX3 yX3_ledgerBehind wsX3_ledgerBehind) := goodIn_app (goodIn_of _ (by decide +kernel)) ggX3_balanceBySums_X3_ledgerBehind
theorem dX3_balanceBySums_0 : decode cX3_balanceBySums 0 = .ok (.aload_n 0, 1) := by decide +kernel
theorem dX3_balanceBySums_1 : decode cX3_balanceBySums 1 = .ok (.iload_n 1, 1) := by decide +kernel
theorem dX3_balanceBySums_2 : decode cX3_balanceBySums 2 = .ok (.iload_n 2, 1) := by decide +kernel
theorem dX3_balanceBySums_3 : decode cX3_balanceBySums 3 = .ok (.invokevirtual 149, 3) := by decide +kernel
theorem dX3_balanceBySums_6 : decode cX3_balanceBySums 6 = .ok (.astore_n 3, 1) := by decide +kernel
theorem dX3_balanceBySums_7 : decode cX3_balanceBySums 7 = .ok (.aload_n 3, 1) := by decide +kernel
theorem dX3_balanceBySums_8 : decode cX3_balanceBySums 8 = .ok (.getfield 156, 3) := by decide +kernel
theorem dX3_balanceBySums_11 : decode cX3_balanceBySums 11 = .ok (.aload_n 3, 1) := by decide +kernel
theorem dX3_balanceBySums_12 : decode cX3_balanceBySums 12 = .ok (.getfield 159, 3) := by decide +kernel
theorem dX3_balanceBySums_15 : decode cX3_balanceBySums 15 = .ok (.isub, 1) := by decide +kernel
theorem dX3_balanceBySums_16 : decode cX3_balanceBySums 16 = .ok (.aload_n 3, 1) := by decide +kernel
theorem dX3_balanceBySums_17 : decode cX3_balanceBySums 17 = .ok (.getfield 162, 3) := by decide +kernel
theorem dX3_balanceBySums_20 : decode cX3_balanceBySums 20 = .ok (.isub, 1) := by decide +kernel
theorem dX3_balanceBySums_21 : decode cX3_balanceBySums 21 = .ok (.aload_n 3, 1) := by decide +kernel
theorem dX3_balanceBySums_22 : decode cX3_balanceBySums 22 = .ok (.getfield 165, 3) := by decide +kernel
theorem dX3_balanceBySums_25 : decode cX3_balanceBySums 25 = .ok (.isub, 1) := by decide +kernel
theorem dX3_balanceBySums_26 : decode cX3_balanceBySums 26 = .ok (.ireturn, 1) := by decide +kernel
set_option maxRecDepth 20000 in
theorem ggX3_earned_X3_ledgerBehind : GoodIn wsX3_earned wsX3_ledgerBehind := goodIn_ca (goodIn_ca (goodIn_r _ [6, 7, 8, 9, 10, 5, 11, 12, 13, 14, 15, 16, 17, 18, 19, 20, 21, 22, 23, 24, 25, 26, 27, 28, 29, 30, 31, 32, 33, 34, 35, 36, 37, 38, 39, 40, 41, 42, 43, 44, 45, 46, 47, 48, 49, 50, 51, 52, 53, 54, 55, 56, 57, 58, 59, 60, 61, 62, 63, 64, 65, 66, 67, 68, 69, 70, 71, 72, 73, 74, 75, 76, 77, 78, 79, 80, 81, 82, 83, 84, 85, 86, 87, 88, 89, 90, 91, 92, 93, 94, 95, 96, 97, 98, 110, 111, 112, 113, 114, 115, 116, 117, 118, 119, 120, 121, 122, 123, 124, 125, 126, 127, 128, 129, 130, 131, 132, 99, 100, 101, 102, 103, 104, 105, 106, 107, 108, 109] (by decide +kernel) (by decide +kernel)) (goodIn_sub (fun _ h => List.mem_cons_of_mem _ (List.mem_append_left _ (List.mem_append_right _ h))) (by decide +kernel))) (goodIn_sub (fun _ h => List.mem_cons_of_mem _ (List.mem_append_right _ h)) (by decide +kernel))
set_option maxRecDepth 20000 in
theorem gX3_earned_X3_ledgerBehind : GoodIn wsX3_earned (wsV RX3 149 RX3 yX3_ledgerBehind wsX3_ledgerBehind) := goodIn_app (goodIn_of _ (by decide +kernel)) ggX3_earned_X3_ledgerBehind
theorem dX3_earned_0 : decode cX3_earned 0 = .ok (.aload_n 0, 1) := by decide +kernel
theorem dX3_earned_1 : decode cX3_earned 1 = .ok (.iload_n 1, 1) := by decide +kernel
theorem dX3_earned_2 : decode cX3_earned 2 = .ok (.iload_n 2, 1) := by decide +kernel
theorem dX3_earned_3 : decode cX3_earned 3 = .ok (.invokevirtual 149, 3) := by decide +kernel
theorem dX3_earned_6 : decode cX3_earned 6 = .ok (.getfield 156, 3) := by decide +kernel
theorem dX3_earned_9 : decode cX3_earned 9 = .ok (.ireturn, 1) := by decide +kernel
set_option maxRecDepth 20000 in
theorem ggX3_taken_X3_ledgerBehind : GoodIn wsX3_taken wsX3_ledgerBehind := goodIn_ca (goodIn_ca (goodIn_r _ [6, 7, 8, 9, 10, 5, 11, 12, 13, 14, 15, 16, 17, 18, 19, 20, 21, 22, 23, 24, 25, 26, 27, 28, 29, 30, 31, 32, 33, 34, 35, 36, 37, 38, 39, 40, 41, 42, 43, 44, 45, 46, 47, 48, 49, 50, 51, 52, 53, 54, 55, 56, 57, 58, 59, 60, 61, 62, 63, 64, 65, 66, 67, 68, 69, 70, 71, 72, 73, 74, 75, 76, 77, 78, 79, 80, 81, 82, 83, 84, 85, 86, 87, 88, 89, 90, 91, 92, 93, 94, 95, 96, 97, 98, 110, 111, 112, 113, 114, 115, 116, 117, 118, 119, 120, 121, 122, 123, 124, 125, 126, 127, 128, 129, 130, 131, 132, 99, 100, 101, 102, 103, 104, 105, 106, 107, 108, 109] (by decide +kernel) (by decide +kernel)) (goodIn_sub (fun _ h => List.mem_cons_of_mem _ (List.mem_append_left _ (List.mem_append_right _ h))) (by decide +kernel))) (goodIn_sub (fun _ h => List.mem_cons_of_mem _ (List.mem_append_right _ h)) (by decide +kernel))
set_option maxRecDepth 20000 in
theorem gX3_taken_X3_ledgerBehind : GoodIn wsX3_taken (wsV RX3 149 RX3 yX3_ledgerBehind wsX3_ledgerBehind) := goodIn_app (goodIn_of _ (by decide +kernel)) ggX3_taken_X3_ledgerBehind
theorem dX3_taken_0 : decode cX3_taken 0 = .ok (.aload_n 0, 1) := by decide +kernel
theorem dX3_taken_1 : decode cX3_taken 1 = .ok (.iload_n 1, 1) := by decide +kernel
theorem dX3_taken_2 : decode cX3_taken 2 = .ok (.iload_n 2, 1) := by decide +kernel
theorem dX3_taken_3 : decode cX3_taken 3 = .ok (.invokevirtual 149, 3) := by decide +kernel
theorem dX3_taken_6 : decode cX3_taken 6 = .ok (.getfield 159, 3) := by decide +kernel
theorem dX3_taken_9 : decode cX3_taken 9 = .ok (.ireturn, 1) := by decide +kernel
set_option maxRecDepth 20000 in
theorem ggX3_expired_X3_ledgerBehind : GoodIn wsX3_expired wsX3_ledgerBehind := goodIn_ca (goodIn_ca (goodIn_r _ [6, 7, 8, 9, 10, 5, 11, 12, 13, 14, 15, 16, 17, 18, 19, 20, 21, 22, 23, 24, 25, 26, 27, 28, 29, 30, 31, 32, 33, 34, 35, 36, 37, 38, 39, 40, 41, 42, 43, 44, 45, 46, 47, 48, 49, 50, 51, 52, 53, 54, 55, 56, 57, 58, 59, 60, 61, 62, 63, 64, 65, 66, 67, 68, 69, 70, 71, 72, 73, 74, 75, 76, 77, 78, 79, 80, 81, 82, 83, 84, 85, 86, 87, 88, 89, 90, 91, 92, 93, 94, 95, 96, 97, 98, 110, 111, 112, 113, 114, 115, 116, 117, 118, 119, 120, 121, 122, 123, 124, 125, 126, 127, 128, 129, 130, 131, 132, 99, 100, 101, 102, 103, 104, 105, 106, 107, 108, 109] (by decide +kernel) (by decide +kernel)) (goodIn_sub (fun _ h => List.mem_cons_of_mem _ (List.mem_append_left _ (List.mem_append_right _ h))) (by decide +kernel))) (goodIn_sub (fun _ h => List.mem_cons_of_mem _ (List.mem_append_right _ h)) (by decide +kernel))
set_option maxRecDepth 20000 in
theorem gX3_expired_X3_ledgerBehind : GoodIn wsX3_expired (wsV RX3 149 RX3 yX3_ledgerBehind wsX3_ledgerBehind) := goodIn_app (goodIn_of _ (by decide +kernel)) ggX3_expired_X3_ledgerBehind
theorem dX3_expired_0 : decode cX3_expired 0 = .ok (.aload_n 0, 1) := by decide +kernel
theorem dX3_expired_1 : decode cX3_expired 1 = .ok (.iload_n 1, 1) := by decide +kernel
theorem dX3_expired_2 : decode cX3_expired 2 = .ok (.iload_n 2, 1) := by decide +kernel
theorem dX3_expired_3 : decode cX3_expired 3 = .ok (.invokevirtual 149, 3) := by decide +kernel
theorem dX3_expired_6 : decode cX3_expired 6 = .ok (.getfield 162, 3) := by decide +kernel
theorem dX3_expired_9 : decode cX3_expired 9 = .ok (.ireturn, 1) := by decide +kernel
set_option maxRecDepth 20000 in
theorem ggX3_paid_X3_ledgerBehind : GoodIn wsX3_paid wsX3_ledgerBehind := goodIn_ca (goodIn_ca (goodIn_r _ [6, 7, 8, 9, 10, 5, 11, 12, 13, 14, 15, 16, 17, 18, 19, 20, 21, 22, 23, 24, 25, 26, 27, 28, 29, 30, 31, 32, 33, 34, 35, 36, 37, 38, 39, 40, 41, 42, 43, 44, 45, 46, 47, 48, 49, 50, 51, 52, 53, 54, 55, 56, 57, 58, 59, 60, 61, 62, 63, 64, 65, 66, 67, 68, 69, 70, 71, 72, 73, 74, 75, 76, 77, 78, 79, 80, 81, 82, 83, 84, 85, 86, 87, 88, 89, 90, 91, 92, 93, 94, 95, 96, 97, 98, 110, 111, 112, 113, 114, 115, 116, 117, 118, 119, 120, 121, 122, 123, 124, 125, 126, 127, 128, 129, 130, 131, 132, 99, 100, 101, 102, 103, 104, 105, 106, 107, 108, 109] (by decide +kernel) (by decide +kernel)) (goodIn_sub (fun _ h => List.mem_cons_of_mem _ (List.mem_append_left _ (List.mem_append_right _ h))) (by decide +kernel))) (goodIn_sub (fun _ h => List.mem_cons_of_mem _ (List.mem_append_right _ h)) (by decide +kernel))
set_option maxRecDepth 20000 in
theorem gX3_paid_X3_ledgerBehind : GoodIn wsX3_paid (wsV RX3 149 RX3 yX3_ledgerBehind wsX3_ledgerBehind) := goodIn_app (goodIn_of _ (by decide +kernel)) ggX3_paid_X3_ledgerBehind
theorem dX3_paid_0 : decode cX3_paid 0 = .ok (.aload_n 0, 1) := by decide +kernel
theorem dX3_paid_1 : decode cX3_paid 1 = .ok (.iload_n 1, 1) := by decide +kernel
theorem dX3_paid_2 : decode cX3_paid 2 = .ok (.iload_n 2, 1) := by decide +kernel
theorem dX3_paid_3 : decode cX3_paid 3 = .ok (.invokevirtual 149, 3) := by decide +kernel
theorem dX3_paid_6 : decode cX3_paid 6 = .ok (.getfield 165, 3) := by decide +kernel
theorem dX3_paid_9 : decode cX3_paid 9 = .ok (.ireturn, 1) := by decide +kernel
set_option maxRecDepth 20000 in
theorem ggX3_borrowed_X3_ledgerBehind : GoodIn wsX3_borrowed wsX3_ledgerBehind := goodIn_ca (goodIn_ca (goodIn_r _ [6, 7, 8, 9, 10, 5, 11, 12, 13, 14, 15, 16, 17, 18, 19, 20, 21, 22, 23, 24, 25, 26, 27, 28, 29, 30, 31, 32, 33, 34, 35, 36, 37, 38, 39, 40, 41, 42, 43, 44, 45, 46, 47, 48, 49, 50, 51, 52, 53, 54, 55, 56, 57, 58, 59, 60, 61, 62, 63, 64, 65, 66, 67, 68, 69, 70, 71, 72, 73, 74, 75, 76, 77, 78, 79, 80, 81, 82, 83, 84, 85, 86, 87, 88, 89, 90, 91, 92, 93, 94, 95, 96, 97, 98, 110, 111, 112, 113, 114, 115, 116, 117, 118, 119, 120, 121, 122, 123, 124, 125, 126, 127, 128, 129, 130, 131, 132, 99, 100, 101, 102, 103, 104, 105, 106, 107, 108, 109] (by decide +kernel) (by decide +kernel)) (goodIn_sub (fun _ h => List.mem_cons_of_mem _ (List.mem_append_left _ (List.mem_append_right _ h))) (by decide +kernel))) (goodIn_sub (fun _ h => List.mem_cons_of_mem _ (List.mem_append_right _ h)) (by decide +kernel))
set_option maxRecDepth 20000 in
theorem gX3_borrowed_X3_ledgerBehind : GoodIn wsX3_borrowed (wsV RX3 149 RX3 yX3_ledgerBehind wsX3_ledgerBehind) := goodIn_app (goodIn_of _ (by decide +kernel)) ggX3_borrowed_X3_ledgerBehind
theorem dX3_borrowed_0 : decode cX3_borrowed 0 = .ok (.aload_n 0, 1) := by decide +kernel
theorem dX3_borrowed_1 : decode cX3_borrowed 1 = .ok (.iload_n 1, 1) := by decide +kernel
theorem dX3_borrowed_2 : decode cX3_borrowed 2 = .ok (.iload_n 2, 1) := by decide +kernel
theorem dX3_borrowed_3 : decode cX3_borrowed 3 = .ok (.invokevirtual 149, 3) := by decide +kernel
theorem dX3_borrowed_6 : decode cX3_borrowed 6 = .ok (.getfield 153, 3) := by decide +kernel
theorem dX3_borrowed_9 : decode cX3_borrowed 9 = .ok (.ireturn, 1) := by decide +kernel
set_option maxRecDepth 20000 in
theorem ggX3_unpaid_X3_ledgerBehind : GoodIn wsX3_unpaid wsX3_ledgerBehind := goodIn_ca (goodIn_ca (goodIn_r _ [6, 7, 8, 9, 10, 5, 11, 12, 13, 14, 15, 16, 17, 18, 19, 20, 21, 22, 23, 24, 25, 26, 27, 28, 29, 30, 31, 32, 33, 34, 35, 36, 37, 38, 39, 40, 41, 42, 43, 44, 45, 46, 47, 48, 49, 50, 51, 52, 53, 54, 55, 56, 57, 58, 59, 60, 61, 62, 63, 64, 65, 66, 67, 68, 69, 70, 71, 72, 73, 74, 75, 76, 77, 78, 79, 80, 81, 82, 83, 84, 85, 86, 87, 88, 89, 90, 91, 92, 93, 94, 95, 96, 97, 98, 110, 111, 112, 113, 114, 115, 116, 117, 118, 119, 120, 121, 122, 123, 124, 125, 126, 127, 128, 129, 130, 131, 132, 99, 100, 101, 102, 103, 104, 105, 106, 107, 108, 109] (by decide +kernel) (by decide +kernel)) (goodIn_sub (fun _ h => List.mem_cons_of_mem _ (List.mem_append_left _ (List.mem_append_right _ h))) (by decide +kernel))) (goodIn_sub (fun _ h => List.mem_cons_of_mem _ (List.mem_append_right _ h)) (by decide +kernel))
set_option maxRecDepth 20000 in
theorem gX3_unpaid_X3_ledgerBehind : GoodIn wsX3_unpaid (wsV RX3 149 RX3 yX3_ledgerBehind wsX3_ledgerBehind) := goodIn_app (goodIn_of _ (by decide +kernel)) ggX3_unpaid_X3_ledgerBehind
theorem dX3_unpaid_0 : decode cX3_unpaid 0 = .ok (.aload_n 0, 1) := by decide +kernel
theorem dX3_unpaid_1 : decode cX3_unpaid 1 = .ok (.iload_n 1, 1) := by decide +kernel
theorem dX3_unpaid_2 : decode cX3_unpaid 2 = .ok (.iload_n 2, 1) := by decide +kernel
theorem dX3_unpaid_3 : decode cX3_unpaid 3 = .ok (.invokevirtual 149, 3) := by decide +kernel
theorem dX3_unpaid_6 : decode cX3_unpaid 6 = .ok (.getfield 168, 3) := by decide +kernel
theorem dX3_unpaid_9 : decode cX3_unpaid 9 = .ok (.ireturn, 1) := by decide +kernel
set_option maxRecDepth 20000 in
theorem ggX3_nextExpiry_X3_ledgerBehind : GoodIn wsX3_nextExpiry wsX3_ledgerBehind := goodIn_ca (goodIn_ca (goodIn_r _ [5, 6, 7, 8, 9, 4, 10, 11, 12, 13, 14, 15, 16, 17, 18, 19, 20, 21, 22, 23, 24, 25, 26, 27, 28, 29, 30, 31, 32, 33, 34, 35, 36, 37, 38, 39, 40, 41, 42, 43, 44, 45, 46, 47, 48, 49, 50, 51, 52, 53, 54, 55, 56, 57, 58, 59, 60, 61, 62, 63, 64, 65, 66, 67, 68, 69, 70, 71, 72, 73, 74, 75, 76, 77, 78, 79, 80, 81, 82, 83, 84, 85, 86, 87, 88, 89, 90, 91, 92, 93, 94, 95, 96, 97, 102, 103, 104, 105, 106, 107, 108, 109, 110, 111, 112, 113, 114, 115, 116, 117, 118, 119, 120, 121, 122, 123, 124, 125, 126, 127, 128, 129, 130, 131, 132, 133, 134, 135] (by decide +kernel) (by decide +kernel)) (goodIn_sub (fun _ h => List.mem_cons_of_mem _ (List.mem_append_left _ (List.mem_append_right _ h))) (by decide +kernel))) (goodIn_sub (fun _ h => List.mem_cons_of_mem _ (List.mem_append_right _ h)) (by decide +kernel))
set_option maxRecDepth 20000 in
theorem gX3_nextExpiry_X3_ledgerBehind : GoodIn wsX3_nextExpiry (wsV RX3 149 RX3 yX3_ledgerBehind wsX3_ledgerBehind) := goodIn_app (goodIn_of _ (by decide +kernel)) ggX3_nextExpiry_X3_ledgerBehind
set_option maxRecDepth 20000 in
theorem ggX3_nextExpiry_X0_firstExpiry : GoodIn wsX3_nextExpiry wsX0_firstExpiry := goodIn_r _ [101, 30, 29, 65, 66, 125, 126, 127, 128, 129, 130, 131, 132, 133, 134, 135] (by decide +kernel) (by decide +kernel)
set_option maxRecDepth 20000 in
theorem gX3_nextExpiry_X0_firstExpiry : GoodIn wsX3_nextExpiry (wsV RX3 171 RX0 yX0_firstExpiry wsX0_firstExpiry) := goodIn_app (goodIn_of _ (by decide +kernel)) ggX3_nextExpiry_X0_firstExpiry
theorem dX3_nextExpiry_0 : decode cX3_nextExpiry 0 = .ok (.aload_n 0, 1) := by decide +kernel
theorem dX3_nextExpiry_1 : decode cX3_nextExpiry 1 = .ok (.iload_n 1, 1) := by decide +kernel
theorem dX3_nextExpiry_2 : decode cX3_nextExpiry 2 = .ok (.iload_n 2, 1) := by decide +kernel
theorem dX3_nextExpiry_3 : decode cX3_nextExpiry 3 = .ok (.invokevirtual 149, 3) := by decide +kernel
theorem dX3_nextExpiry_6 : decode cX3_nextExpiry 6 = .ok (.invokevirtual 171, 3) := by decide +kernel
theorem dX3_nextExpiry_9 : decode cX3_nextExpiry 9 = .ok (.ireturn, 1) := by decide +kernel
theorem dX3_personAt_0 : decode cX3_personAt 0 = .ok (.iload_n 1, 1) := by decide +kernel
theorem dX3_personAt_1 : decode cX3_personAt 1 = .ok (.ifCond .lt 12, 3) := by decide +kernel
theorem dX3_personAt_4 : decode cX3_personAt 4 = .ok (.iload_n 1, 1) := by decide +kernel
theorem dX3_personAt_5 : decode cX3_personAt 5 = .ok (.aload_n 0, 1) := by decide +kernel
theorem dX3_personAt_6 : decode cX3_personAt 6 = .ok (.getfield 11, 3) := by decide +kernel
theorem dX3_personAt_9 : decode cX3_personAt 9 = .ok (.arraylength, 1) := by decide +kernel
theorem dX3_personAt_10 : decode cX3_personAt 10 = .ok (.if_icmp .lt 13, 3) := by decide +kernel
theorem dX3_personAt_13 : decode cX3_personAt 13 = .ok (.new 174, 3) := by decide +kernel
theorem dX3_personAt_16 : decode cX3_personAt 16 = .ok (.dup, 1) := by decide +kernel
theorem dX3_personAt_17 : decode cX3_personAt 17 = .ok (.ldc 176, 2) := by decide +kernel
theorem dX3_personAt_19 : decode cX3_personAt 19 = .ok (.invokespecial 178, 3) := by decide +kernel
theorem dX3_personAt_22 : decode cX3_personAt 22 = .ok (.athrow, 1) := by decide +kernel
theorem dX3_personAt_23 : decode cX3_personAt 23 = .ok (.aload_n 0, 1) := by decide +kernel
theorem dX3_personAt_24 : decode cX3_personAt 24 = .ok (.getfield 11, 3) := by decide +kernel
theorem dX3_personAt_27 : decode cX3_personAt 27 = .ok (.iload_n 1, 1) := by decide +kernel
theorem dX3_personAt_28 : decode cX3_personAt 28 = .ok (.aaload, 1) := by decide +kernel
theorem dX3_personAt_29 : decode cX3_personAt 29 = .ok (.astore_n 2, 1) := by decide +kernel
theorem dX3_personAt_30 : decode cX3_personAt 30 = .ok (.aload_n 2, 1) := by decide +kernel
theorem dX3_personAt_31 : decode cX3_personAt 31 = .ok (.ifnonnull 13, 3) := by decide +kernel
theorem dX3_personAt_34 : decode cX3_personAt 34 = .ok (.new 174, 3) := by decide +kernel
theorem dX3_personAt_37 : decode cX3_personAt 37 = .ok (.dup, 1) := by decide +kernel
theorem dX3_personAt_38 : decode cX3_personAt 38 = .ok (.ldc 176, 2) := by decide +kernel
theorem dX3_personAt_40 : decode cX3_personAt 40 = .ok (.invokespecial 178, 3) := by decide +kernel
theorem dX3_personAt_43 : decode cX3_personAt 43 = .ok (.athrow, 1) := by decide +kernel
theorem dX3_personAt_44 : decode cX3_personAt 44 = .ok (.aload_n 2, 1) := by decide +kernel
theorem dX3_personAt_45 : decode cX3_personAt 45 = .ok (.areturn, 1) := by decide +kernel
theorem dX3_requestAt_0 : decode cX3_requestAt 0 = .ok (.iload_n 1, 1) := by decide +kernel
theorem dX3_requestAt_1 : decode cX3_requestAt 1 = .ok (.ifCond .lt 12, 3) := by decide +kernel
theorem dX3_requestAt_4 : decode cX3_requestAt 4 = .ok (.iload_n 1, 1) := by decide +kernel
theorem dX3_requestAt_5 : decode cX3_requestAt 5 = .ok (.aload_n 0, 1) := by decide +kernel
theorem dX3_requestAt_6 : decode cX3_requestAt 6 = .ok (.getfield 17, 3) := by decide +kernel
theorem dX3_requestAt_9 : decode cX3_requestAt 9 = .ok (.arraylength, 1) := by decide +kernel
theorem dX3_requestAt_10 : decode cX3_requestAt 10 = .ok (.if_icmp .lt 13, 3) := by decide +kernel
theorem dX3_requestAt_13 : decode cX3_requestAt 13 = .ok (.new 174, 3) := by decide +kernel
theorem dX3_requestAt_16 : decode cX3_requestAt 16 = .ok (.dup, 1) := by decide +kernel
theorem dX3_requestAt_17 : decode cX3_requestAt 17 = .ok (.ldc 179, 2) := by decide +kernel
theorem dX3_requestAt_19 : decode cX3_requestAt 19 = .ok (.invokespecial 178, 3) := by decide +kernel
theorem dX3_requestAt_22 : decode cX3_requestAt 22 = .ok (.athrow, 1) := by decide +kernel
theorem dX3_requestAt_23 : decode cX3_requestAt 23 = .ok (.aload_n 0, 1) := by decide +kernel
theorem dX3_requestAt_24 : decode cX3_requestAt 24 = .ok (.getfield 17, 3) := by decide +kernel
theorem dX3_requestAt_27 : decode cX3_requestAt 27 = .ok (.iload_n 1, 1) := by decide +kernel
theorem dX3_requestAt_28 : decode cX3_requestAt 28 = .ok (.aaload, 1) := by decide +kernel
theorem dX3_requestAt_29 : decode cX3_requestAt 29 = .ok (.astore_n 2, 1) := by decide +kernel
theorem dX3_requestAt_30 : decode cX3_requestAt 30 = .ok (.aload_n 2, 1) := by decide +kernel
theorem dX3_requestAt_31 : decode cX3_requestAt 31 = .ok (.ifnonnull 13, 3) := by decide +kernel
theorem dX3_requestAt_34 : decode cX3_requestAt 34 = .ok (.new 174, 3) := by decide +kernel
theorem dX3_requestAt_37 : decode cX3_requestAt 37 = .ok (.dup, 1) := by decide +kernel
theorem dX3_requestAt_38 : decode cX3_requestAt 38 = .ok (.ldc 179, 2) := by decide +kernel
theorem dX3_requestAt_40 : decode cX3_requestAt 40 = .ok (.invokespecial 178, 3) := by decide +kernel
theorem dX3_requestAt_43 : decode cX3_requestAt 43 = .ok (.athrow, 1) := by decide +kernel
theorem dX3_requestAt_44 : decode cX3_requestAt 44 = .ok (.aload_n 2, 1) := by decide +kernel
theorem dX3_requestAt_45 : decode cX3_requestAt 45 = .ok (.areturn, 1) := by decide +kernel
set_option maxRecDepth 20000 in
theorem ggX3_ledgerBehind_X3_personAt : GoodIn wsX3_ledgerBehind wsX3_personAt := goodIn_ca (goodIn_r _ [6, 7, 8, 9, 94, 95, 96, 97, 98, 99, 100, 101] (by decide +kernel) (by decide +kernel)) (goodIn_sub (fun _ h => List.mem_cons_of_mem _ (List.mem_append_left _ (List.mem_append_right _ h))) (by decide +kernel))
set_option maxRecDepth 20000 in
theorem gX3_ledgerBehind_X3_personAt : GoodIn wsX3_ledgerBehind (wsV RX3 54 RX3 yX3_personAt wsX3_personAt) := goodIn_app (goodIn_of _ (by decide +kernel)) ggX3_ledgerBehind_X3_personAt
set_option maxRecDepth 20000 in
theorem ggX3_ledgerBehind_X3_checkDay : GoodIn wsX3_ledgerBehind wsX3_checkDay := goodIn_ca (goodIn_r _ [12, 13, 14] (by decide +kernel) (by decide +kernel)) (goodIn_sub (fun _ h => List.mem_cons_of_mem _ (List.mem_append_right _ h)) (by decide +kernel))
set_option maxRecDepth 20000 in
theorem gX3_ledgerBehind_X3_checkDay : GoodIn wsX3_ledgerBehind (va_wsS RX3 61 yX3_checkDay wsX3_checkDay) := goodIn_app (goodIn_of _ (by decide +kernel)) ggX3_ledgerBehind_X3_checkDay
set_option maxRecDepth 20000 in
theorem ggX3_ledgerBehind_X0_goThrough : GoodIn wsX3_ledgerBehind wsX0_goThrough := goodIn_r _ [19, 20, 21, 22, 23, 18, 24, 25, 26, 27, 28, 29, 30, 31, 32, 33, 34, 35, 36, 37, 38, 39, 40, 41, 42, 43, 44, 45, 46, 47, 48, 49, 50, 51, 52, 53, 54, 55, 56, 57, 58, 59, 60, 61, 62, 63, 64, 65, 66, 67, 68, 69, 70, 71, 72, 73, 74, 75, 76, 77, 78, 79, 80, 81, 82, 83, 84, 85, 86, 87, 88, 89, 90, 91, 92, 93, 102, 103, 104, 105, 106, 107, 108, 109, 110, 111, 112, 113, 114, 115, 116, 117, 118, 119, 120, 121, 122, 123, 124, 125, 126, 127] (by decide +kernel) (by decide +kernel)
set_option maxRecDepth 20000 in
theorem gX3_ledgerBehind_X0_goThrough : GoodIn wsX3_ledgerBehind (wsV RX3 126 RX0 yX0_goThrough wsX0_goThrough) := goodIn_app (goodIn_of _ (by decide +kernel)) ggX3_ledgerBehind_X0_goThrough
theorem dX3_ledgerBehind_0 : decode cX3_ledgerBehind 0 = .ok (.aload_n 0, 1) := by decide +kernel
theorem dX3_ledgerBehind_1 : decode cX3_ledgerBehind 1 = .ok (.iload_n 1, 1) := by decide +kernel
theorem dX3_ledgerBehind_2 : decode cX3_ledgerBehind 2 = .ok (.invokevirtual 54, 3) := by decide +kernel
theorem dX3_ledgerBehind_5 : decode cX3_ledgerBehind 5 = .ok (.astore_n 3, 1) := by decide +kernel
theorem dX3_ledgerBehind_6 : decode cX3_ledgerBehind 6 = .ok (.iconst 0, 1) := by decide +kernel
theorem dX3_ledgerBehind_7 : decode cX3_ledgerBehind 7 = .ok (.iload_n 2, 1) := by decide +kernel
theorem dX3_ledgerBehind_8 : decode cX3_ledgerBehind 8 = .ok (.invokestatic 61, 3) := by decide +kernel
theorem dX3_ledgerBehind_11 : decode cX3_ledgerBehind 11 = .ok (.aload_n 0, 1) := by decide +kernel
theorem dX3_ledgerBehind_12 : decode cX3_ledgerBehind 12 = .ok (.getfield 24, 3) := by decide +kernel
theorem dX3_ledgerBehind_15 : decode cX3_ledgerBehind 15 = .ok (.aload_n 3, 1) := by decide +kernel
theorem dX3_ledgerBehind_16 : decode cX3_ledgerBehind 16 = .ok (.iload_n 2, 1) := by decide +kernel
theorem dX3_ledgerBehind_17 : decode cX3_ledgerBehind 17 = .ok (.invokevirtual 126, 3) := by decide +kernel
theorem dX3_ledgerBehind_20 : decode cX3_ledgerBehind 20 = .ok (.aload_n 0, 1) := by decide +kernel
theorem dX3_ledgerBehind_21 : decode cX3_ledgerBehind 21 = .ok (.getfield 24, 3) := by decide +kernel
theorem dX3_ledgerBehind_24 : decode cX3_ledgerBehind 24 = .ok (.areturn, 1) := by decide +kernel
theorem dX3_checkDay_0 : decode cX3_checkDay 0 = .ok (.iload_n 1, 1) := by decide +kernel
theorem dX3_checkDay_1 : decode cX3_checkDay 1 = .ok (.iload_n 0, 1) := by decide +kernel
theorem dX3_checkDay_2 : decode cX3_checkDay 2 = .ok (.if_icmp .lt 10, 3) := by decide +kernel
theorem dX3_checkDay_5 : decode cX3_checkDay 5 = .ok (.iload_n 1, 1) := by decide +kernel
theorem dX3_checkDay_6 : decode cX3_checkDay 6 = .ok (.sipush 3600, 3) := by decide +kernel
theorem dX3_checkDay_9 : decode cX3_checkDay 9 = .ok (.if_icmp .le 13, 3) := by decide +kernel
theorem dX3_checkDay_12 : decode cX3_checkDay 12 = .ok (.new 28, 3) := by decide +kernel
theorem dX3_checkDay_15 : decode cX3_checkDay 15 = .ok (.dup, 1) := by decide +kernel
theorem dX3_checkDay_16 : decode cX3_checkDay 16 = .ok (.ldc 181, 2) := by decide +kernel
theorem dX3_checkDay_18 : decode cX3_checkDay 18 = .ok (.invokespecial 32, 3) := by decide +kernel
theorem dX3_checkDay_21 : decode cX3_checkDay 21 = .ok (.athrow, 1) := by decide +kernel
theorem dX3_checkDay_22 : decode cX3_checkDay 22 = .ok (.return_, 1) := by decide +kernel
theorem dX3_checkDays_0 : decode cX3_checkDays 0 = .ok (.iload_n 1, 1) := by decide +kernel
theorem dX3_checkDays_1 : decode cX3_checkDays 1 = .ok (.iload_n 0, 1) := by decide +kernel
theorem dX3_checkDays_2 : decode cX3_checkDays 2 = .ok (.if_icmp .lt 15, 3) := by decide +kernel
theorem dX3_checkDays_5 : decode cX3_checkDays 5 = .ok (.iload_n 2, 1) := by decide +kernel
theorem dX3_checkDays_6 : decode cX3_checkDays 6 = .ok (.iload_n 1, 1) := by decide +kernel
theorem dX3_checkDays_7 : decode cX3_checkDays 7 = .ok (.if_icmp .lt 10, 3) := by decide +kernel
theorem dX3_checkDays_10 : decode cX3_checkDays 10 = .ok (.iload_n 2, 1) := by decide +kernel
theorem dX3_checkDays_11 : decode cX3_checkDays 11 = .ok (.sipush 3600, 3) := by decide +kernel
theorem dX3_checkDays_14 : decode cX3_checkDays 14 = .ok (.if_icmp .le 13, 3) := by decide +kernel
theorem dX3_checkDays_17 : decode cX3_checkDays 17 = .ok (.new 28, 3) := by decide +kernel
theorem dX3_checkDays_20 : decode cX3_checkDays 20 = .ok (.dup, 1) := by decide +kernel
theorem dX3_checkDays_21 : decode cX3_checkDays 21 = .ok (.ldc 183, 2) := by decide +kernel
theorem dX3_checkDays_23 : decode cX3_checkDays 23 = .ok (.invokespecial 32, 3) := by decide +kernel
theorem dX3_checkDays_26 : decode cX3_checkDays 26 = .ok (.athrow, 1) := by decide +kernel
theorem dX3_checkDays_27 : decode cX3_checkDays 27 = .ok (.return_, 1) := by decide +kernel
theorem dX3_checkHours_0 : decode cX3_checkHours 0 = .ok (.iload_n 0, 1) := by decide +kernel
theorem dX3_checkHours_1 : decode cX3_checkHours 1 = .ok (.iconst 1, 1) := by decide +kernel
theorem dX3_checkHours_2 : decode cX3_checkHours 2 = .ok (.if_icmp .lt 9, 3) := by decide +kernel
theorem dX3_checkHours_5 : decode cX3_checkHours 5 = .ok (.iload_n 0, 1) := by decide +kernel
theorem dX3_checkHours_6 : decode cX3_checkHours 6 = .ok (.bipush 10, 2) := by decide +kernel
theorem dX3_checkHours_8 : decode cX3_checkHours 8 = .ok (.if_icmp .le 13, 3) := by decide +kernel
theorem dX3_checkHours_11 : decode cX3_checkHours 11 = .ok (.new 28, 3) := by decide +kernel
theorem dX3_checkHours_14 : decode cX3_checkHours 14 = .ok (.dup, 1) := by decide +kernel
theorem dX3_checkHours_15 : decode cX3_checkHours 15 = .ok (.ldc 185, 2) := by decide +kernel
theorem dX3_checkHours_17 : decode cX3_checkHours 17 = .ok (.invokespecial 32, 3) := by decide +kernel
theorem dX3_checkHours_20 : decode cX3_checkHours 20 = .ok (.athrow, 1) := by decide +kernel
theorem dX3_checkHours_21 : decode cX3_checkHours 21 = .ok (.return_, 1) := by decide +kernel
theorem dX3_isWorkingDay_0 : decode cX3_isWorkingDay 0 = .ok (.iload_n 0, 1) := by decide +kernel
theorem dX3_isWorkingDay_1 : decode cX3_isWorkingDay 1 = .ok (.bipush 7, 2) := by decide +kernel
theorem dX3_isWorkingDay_3 : decode cX3_isWorkingDay 3 = .ok (.irem, 1) := by decide +kernel
theorem dX3_isWorkingDay_4 : decode cX3_isWorkingDay 4 = .ok (.iconst 5, 1) := by decide +kernel
theorem dX3_isWorkingDay_5 : decode cX3_isWorkingDay 5 = .ok (.if_icmp .ge 7, 3) := by decide +kernel
theorem dX3_isWorkingDay_8 : decode cX3_isWorkingDay 8 = .ok (.iconst 1, 1) := by decide +kernel
theorem dX3_isWorkingDay_9 : decode cX3_isWorkingDay 9 = .ok (.goto 4, 3) := by decide +kernel
theorem dX3_isWorkingDay_12 : decode cX3_isWorkingDay 12 = .ok (.iconst 0, 1) := by decide +kernel
theorem dX3_isWorkingDay_13 : decode cX3_isWorkingDay 13 = .ok (.ireturn, 1) := by decide +kernel
theorem dX3_workingDaysAheadOf_0 : decode cX3_workingDaysAheadOf 0 = .ok (.iload_n 0, 1) := by decide +kernel
theorem dX3_workingDaysAheadOf_1 : decode cX3_workingDaysAheadOf 1 = .ok (.bipush 7, 2) := by decide +kernel
theorem dX3_workingDaysAheadOf_3 : decode cX3_workingDaysAheadOf 3 = .ok (.idiv, 1) := by decide +kernel
theorem dX3_workingDaysAheadOf_4 : decode cX3_workingDaysAheadOf 4 = .ok (.iconst 5, 1) := by decide +kernel
theorem dX3_workingDaysAheadOf_5 : decode cX3_workingDaysAheadOf 5 = .ok (.imul, 1) := by decide +kernel
theorem dX3_workingDaysAheadOf_6 : decode cX3_workingDaysAheadOf 6 = .ok (.istore_n 1, 1) := by decide +kernel
theorem dX3_workingDaysAheadOf_7 : decode cX3_workingDaysAheadOf 7 = .ok (.iload_n 1, 1) := by decide +kernel
theorem dX3_workingDaysAheadOf_8 : decode cX3_workingDaysAheadOf 8 = .ok (.iload_n 0, 1) := by decide +kernel
theorem dX3_workingDaysAheadOf_9 : decode cX3_workingDaysAheadOf 9 = .ok (.bipush 7, 2) := by decide +kernel
theorem dX3_workingDaysAheadOf_11 : decode cX3_workingDaysAheadOf 11 = .ok (.irem, 1) := by decide +kernel
theorem dX3_workingDaysAheadOf_12 : decode cX3_workingDaysAheadOf 12 = .ok (.iconst 5, 1) := by decide +kernel
theorem dX3_workingDaysAheadOf_13 : decode cX3_workingDaysAheadOf 13 = .ok (.invokestatic 187, 3) := by decide +kernel
theorem dX3_workingDaysAheadOf_16 : decode cX3_workingDaysAheadOf 16 = .ok (.iadd, 1) := by decide +kernel
theorem dX3_workingDaysAheadOf_17 : decode cX3_workingDaysAheadOf 17 = .ok (.ireturn, 1) := by decide +kernel
end
section
/-! ===== facts about the class's numbers ===== -/
theorem rfR_some {ad : Nat → Nat} {v : Nat → Nat} {j : Nat} (h : 1 ≤ v j) : rfR ad v j = some (ad (RB (v j - 1))) := by
  unfold rfR RB
  rw [if_neg (by omega), show 200 + (v j - 1) = 199 + v j by omega]
theorem rfR_none {ad : Nat → Nat} {v : Nat → Nat} {j : Nat} (h : v j = 0) : rfR ad v j = none := if_pos h
theorem rfP_some {ad : Nat → Nat} {v : Nat → Nat} {j : Nat} (h : 1 ≤ v j) : rfP ad v j = some (ad (PB (v j - 1))) := by
  unfold rfP PB
  rw [if_neg (by omega), show 32 + 16 * (v j - 1) = 16 + 16 * v j by omega]
theorem rfP_none {ad : Nat → Nat} {v : Nat → Nat} {j : Nat} (h : v j = 0) : rfP ad v j = none := if_pos h
theorem rfR_pt (ad : Nat → Nat) {z q : Nat} (h : z = q + 1) : some (ad (RB q)) = if z = 0 then none else some (ad (199 + z)) := by
  subst h
  unfold RB
  rw [if_neg (by omega), show 199 + (q + 1) = 200 + q by omega]
theorem rfP_pt (ad : Nat → Nat) {z q : Nat} (h : z = q + 1) : some (ad (PB q)) = if z = 0 then none else some (ad (16 + 16 * z)) := by
  subst h
  unfold PB
  rw [if_neg (by omega), show 16 + 16 * (q + 1) = 32 + 16 * q by omega]
theorem up_rfR (ad : Nat → Nat) (v : Nat → Nat) (i q : Nat) : va_up (rfR ad v) i (some (ad (RB q))) = rfR ad (fun j => if j = i then q + 1 else v j) := by
  funext j
  by_cases h : j = i
  · exact (if_pos h).trans (rfR_pt ad (if_pos h))
  · exact (if_neg h).trans (congrArg (fun z => if z = 0 then none else some (ad (199 + z))) (if_neg h).symm)
theorem up_rfP (ad : Nat → Nat) (v : Nat → Nat) (i q : Nat) : va_up (rfP ad v) i (some (ad (PB q))) = rfP ad (fun j => if j = i then q + 1 else v j) := by
  funext j
  by_cases h : j = i
  · exact (if_pos h).trans (rfP_pt ad (if_pos h))
  · exact (if_neg h).trans (congrArg (fun z => if z = 0 then none else some (ad (16 + 16 * z))) (if_neg h).symm)
section EXQ
variable {p : Program} {l : Launch} {e : Env} {R : Room} {s : State} {m : MethodId} {args : Array Value} {below : List Frame} {meth : Method} {c : Code} {H : Heap} {locs : List Loc} {cells slots : Nat} {Q : State → Prop}
variable {cc : ByteArray} {pc : Nat} {ls : Array Slot} {rest : List Value} {D : va_G} {cy : Nat → ClassId} {A : Nat → Prop} {Ts : List Cond} {own : String} {nL : Nat} {C : List Nat} {ad : Nat → Nat} {f : Nat → Nat → Nat}
theorem ex_astR (M : MC p s m args meth c cc Ts own nL D cy A) (w : MO D A s.heap (C, ad, G cy ad f) H locs) {x n : Nat} (hx : x ∈ C) (he : ∀ v, sh cy ad x v = sQ (cy 3) n (rfR ad v)) {q : Nat} (hy : RB q ∈ C) {i : Nat} (hi : i < n) (hn : n < 2147483648) (hdg : decode cc pc = .ok (.aastore, 1))
    (kk : ∀ (H1 : Heap) (locs1 : List Loc), MO D A s.heap (C, ad, G cy ad (es f x i (q + 1))) H1 locs1 → W p l e R s m args below meth c H1 locs1 cells slots Q (F0 m (pc + 1) ls rest)) : W p l e R s m args below meth c H locs cells slots Q (F0 m pc ls (.ref (ad (RB q)) :: .int (nI i) :: .ref (ad x) :: rest)) := by
  refine mx_astR M w hx (g := G cy ad f) (he (f x)) hy (sh_RB cy ad q (f (RB q))) (vp_in_nI hi hn) hdg (fun H1 locs1 w1 => kk H1 locs1 ?_)
  rw [nI_clamp (Nat.lt_trans hi hn), up_rfR] at w1
  have w2 : MO D A s.heap (C, ad, mu (G cy ad f) x (sQ (cy 3) n (rfR ad (fun j => if j = i then q + 1 else f x j)))) H1 locs1 := w1
  rw [G_es (k := i) (v := q + 1) (he _)] at w2
  exact w2
theorem ex_astP (M : MC p s m args meth c cc Ts own nL D cy A) (w : MO D A s.heap (C, ad, G cy ad f) H locs) {x n : Nat} (hx : x ∈ C) (he : ∀ v, sh cy ad x v = sQ (cy 2) n (rfP ad v)) {q : Nat} (hq : q < 8) (hy : PB q ∈ C) {i : Nat} (hi : i < n) (hn : n < 2147483648) (hdg : decode cc pc = .ok (.aastore, 1))
    (kk : ∀ (H1 : Heap) (locs1 : List Loc), MO D A s.heap (C, ad, G cy ad (es f x i (q + 1))) H1 locs1 → W p l e R s m args below meth c H1 locs1 cells slots Q (F0 m (pc + 1) ls rest)) : W p l e R s m args below meth c H locs cells slots Q (F0 m pc ls (.ref (ad (PB q)) :: .int (nI i) :: .ref (ad x) :: rest)) := by
  refine mx_astP M w hx (g := G cy ad f) (he (f x)) hy (sh_P0 cy ad (f (PB q)) hq) (vp_in_nI hi hn) hdg (fun H1 locs1 w1 => kk H1 locs1 ?_)
  rw [nI_clamp (Nat.lt_trans hi hn), up_rfP] at w1
  have w2 : MO D A s.heap (C, ad, mu (G cy ad f) x (sQ (cy 2) n (rfP ad (fun j => if j = i then q + 1 else f x j)))) H1 locs1 := w1
  rw [G_es (k := i) (v := q + 1) (he _)] at w2
  exact w2
end EXQ
theorem le_m1 {d L : Nat} (hd : d < 1073741824) (hL : L < 1073741824) : nI d ≤ nI L - 1 ↔ d < L := by
  rw [Int32.le_iff_toInt_le, show (1 : Int32) = nI 1 from rfl, pk_sub_toInt hL (by decide), nI_toInt (by omega)]
  omega
theorem PB_ne {p k q j : Nat} (hk : k < 16) (hj : j < 16) (h : ¬ (p = q ∧ k = j)) : PB p + k ≠ PB q + j := by unfold PB; omega
theorem hrC_in {e : Nat → Nat → Nat} {p : Nat} (h0 : P0 e p) (hc : PCh e p) (dy : Nat) : 1 ≤ hrC e p dy ∧ hrC e p dy ≤ 10 := hN_in h0.2.2 (fun i hi => (hc.2 i hi).2)
/-- the same person's numbers, leave kinds apart -/
def EqP (e e' : Nat → Nat → Nat) (p : Nat) : Prop := ∀ k, k < 8 → e' (PB p + k) = e (PB p + k)
def EqR (e e' : Nat → Nat → Nat) : Prop := ∀ q, e' (RB q) = e (RB q)
theorem EqP.at0 {e e' : Nat → Nat → Nat} {p : Nat} (h : EqP e e' p) : e' (PB p) = e (PB p) := h 0 (by decide)
theorem PSp.eq {e e' : Nat → Nat → Nat} {p : Nat} (h : EqP e e' p) (hs : PSp e p) : PSp e' p := by
  unfold PSp at *
  rw [h.at0, h 4 (by decide), h 5 (by decide)]
  exact hs
theorem PRq.eq {e e' : Nat → Nat → Nat} {p nr : Nat} (h : EqP e e' p) (hs : PRq e p nr) : PRq e' p nr := by
  unfold PRq at *
  rw [h.at0, h 3 (by decide)]
  exact hs
theorem RW.eq {e e' : Nat → Nat → Nat} {nr : Nat} (h : EqR e e') (hs : RW e nr) : RW e' nr := by
  unfold RW at *
  intro q hq
  rw [h q]
  exact hs q hq
theorem lvC_eq {e e' : Nat → Nat → Nat} {p : Nat} (h : EqP e e' p) (hr : EqR e e') (dy : Nat) : lvC e' p dy = lvC e p dy := by
  have e1 : sckC e' p dy = sckC e p dy := by
    unfold sckC
    rw [h.at0, h 4 (by decide), h 5 (by decide)]
  have e2 : lvfC e' p dy = lvfC e p dy := by
    funext i
    unfold lvfC hldC
    rw [h 3 (by decide), hr]
  unfold lvC
  rw [e1, e2, h.at0]
theorem mkC_P (e : Nat → Nat → Nat) (p f t : Nat) : EqP e (mkC e p f t) p := fun k hk => by
  funext i
  unfold mkC
  rw [if_neg (by omega)]
theorem mkC_R (e : Nat → Nat → Nat) {p : Nat} (hp : p < 8) (f t : Nat) : EqR e (mkC e p f t) := fun q => by
  funext i
  unfold mkC
  rw [if_neg (by unfold RB PB; omega)]
theorem mkC_0 (e : Nat → Nat → Nat) (p f : Nat) : mkC e p f f = e := by
  funext c i
  unfold mkC
  rw [if_neg (by omega)]
theorem mkC_s (e : Nat → Nat → Nat) (p : Nat) {f i : Nat} (h : f ≤ i) : es (mkC e p f i) (PB p + 8) i (lvC e p i) = mkC e p f (i + 1) := by
  funext c j
  unfold es mkC
  by_cases h1 : c = PB p + 8 ∧ j = i
  · rw [if_pos h1, if_pos (by omega), h1.2]
  · rw [if_neg h1]
    by_cases h2 : c = PB p + 8 ∧ f ≤ j ∧ j < i
    · rw [if_pos h2, if_pos (by omega)]
    · rw [if_neg h2, if_neg (by omega)]
theorem lvfC_1 {e : Nat → Nat → Nat} {p dy i : Nat} (h : hldC e (e (PB p + 3) i - 1) dy = true) : lvfC e p dy i = e (RB (e (PB p + 3) i - 1)) 1 := if_pos h
theorem lvfC_0 {e : Nat → Nat → Nat} {p dy i : Nat} (h : hldC e (e (PB p + 3) i - 1) dy = false) : lvfC e p dy i = 0 := if_neg (by rw [h]; exact Bool.false_ne_true)
theorem mxN_s (f : Nat → Nat) (i : Nat) : mxN f (i + 1) = max (mxN f i) (f i) := rfl
theorem lvC_le {e : Nat → Nat → Nat} {p dy nr : Nat} (h : PRq e p nr) (hw : RW e nr) : lvC e p dy ≤ 2 := by
  unfold lvC
  split
  · exact Nat.zero_le _
  · refine mxN_le (fun i hi => ?_)
    unfold lvfC
    split
    · have h1 := h.2 i hi
      exact (hw _ (by omega)).1
    · exact Nat.zero_le _
def ehC (e : Nat → Nat → Nat) (p dy hh : Nat) : Nat → Nat → Nat := es (es (es e (PB p + 1) (fiN (e (PB p + 1)) dy (e (PB p) 5)) dy) (PB p + 2) (fiN (e (PB p + 1)) dy (e (PB p) 5)) hh) (PB p) 5 (max (e (PB p) 5) (fiN (e (PB p + 1)) dy (e (PB p) 5) + 1))
def erC0 (e : Nat → Nat → Nat) (p q : Nat) : Nat → Nat → Nat := es (es e (PB p + 3) (e (PB p) 7) (q + 1)) (PB p) 7 (e (PB p) 7 + 1)
def erC (e : Nat → Nat → Nat) (p q : Nat) : Nat → Nat → Nat := mkC (erC0 e p q) p (e (RB q) 2) (e (RB q) 3 + 1)
def esC0 (e : Nat → Nat → Nat) (p f t : Nat) : Nat → Nat → Nat := es (es (es e (PB p + 4) (e (PB p) 10) f) (PB p + 5) (e (PB p) 10) t) (PB p) 10 (e (PB p) 10 + 1)
def esC (e : Nat → Nat → Nat) (p f t : Nat) : Nat → Nat → Nat := mkC (esC0 e p f t) p f (t + 1)
def epC (e : Nat → Nat → Nat) (p d pts : Nat) : Nat → Nat → Nat := es (es (es e (PB p + 6) (e (PB p) 13) d) (PB p + 7) (e (PB p) 13) pts) (PB p) 13 (e (PB p) 13 + 1)
theorem es_at (e : Nat → Nat → Nat) (c k v c' k' : Nat) : es e c k v c' k' = if c' = c ∧ k' = k then v else e c' k' := rfl
theorem RB_PB {q p k : Nat} (hp : p < 8) (hk : k < 16) : RB q ≠ PB p + k := by unfold RB PB; omega
theorem RB_PB0 {q p : Nat} (hp : p < 8) : RB q ≠ PB p := by unfold RB PB; omega
theorem erC0_R (e : Nat → Nat → Nat) {p : Nat} (hp : p < 8) (q : Nat) : EqR e (erC0 e p q) := fun r => by
  unfold erC0
  rw [es_off _ _ _ (RB_PB0 hp), es_off _ _ _ (RB_PB hp (by decide))]
theorem esC0_R (e : Nat → Nat → Nat) {p : Nat} (hp : p < 8) (f t : Nat) : EqR e (esC0 e p f t) := fun r => by
  unfold esC0
  rw [es_off _ _ _ (RB_PB0 hp), es_off _ _ _ (RB_PB hp (by decide)), es_off _ _ _ (RB_PB hp (by decide))]
theorem erC0_Sp {e : Nat → Nat → Nat} {p : Nat} (q : Nat) (h : PSp e p) : PSp (erC0 e p q) p := by
  unfold PSp at *
  have e1 : ∀ k i, k = 4 ∨ k = 5 ∨ (k = 0 ∧ i = 10) → erC0 e p q (PB p + k) i = e (PB p + k) i := fun k i hk => by
    unfold erC0
    rw [es_at, if_neg (by omega), es_at, if_neg (by omega)]
  have e2 := e1 0 10 (by omega)
  rw [Nat.add_zero] at e2
  refine ⟨by rw [e2]; exact h.1, fun i hi => ?_⟩
  rw [e2] at hi
  rw [e1 4 i (by omega), e1 5 i (by omega)]
  exact h.2 i hi
theorem erC0_Rq {e : Nat → Nat → Nat} {p nr q : Nat} (h : PRq e p nr) (hq : q < nr) (hn : e (PB p) 7 < 40) : PRq (erC0 e p q) p nr := by
  unfold PRq at *
  have e1 : erC0 e p q (PB p) 7 = e (PB p) 7 + 1 := by
    unfold erC0
    rw [es_at, if_pos ⟨rfl, rfl⟩]
  have e2 : ∀ i, erC0 e p q (PB p + 3) i = if i = e (PB p) 7 then q + 1 else e (PB p + 3) i := fun i => by
    unfold erC0
    rw [es_at, if_neg (by omega), es_at]
    by_cases hi : i = e (PB p) 7
    · rw [if_pos ⟨rfl, hi⟩, if_pos hi]
    · rw [if_neg (by omega), if_neg hi]
  refine ⟨by rw [e1]; omega, fun i hi => ?_⟩
  rw [e1] at hi
  rw [e2]
  split
  · omega
  · exact h.2 i (by omega)
theorem esC0_Rq {e : Nat → Nat → Nat} {p nr : Nat} (f t : Nat) (h : PRq e p nr) : PRq (esC0 e p f t) p nr := by
  unfold PRq at *
  have e1 : ∀ k i, k = 3 ∨ (k = 0 ∧ i = 7) → esC0 e p f t (PB p + k) i = e (PB p + k) i := fun k i hk => by
    unfold esC0
    rw [es_at, if_neg (by omega), es_at, if_neg (by omega), es_at, if_neg (by omega)]
  have e2 := e1 0 7 (by omega)
  rw [Nat.add_zero] at e2
  refine ⟨by rw [e2]; exact h.1, fun i hi => ?_⟩
  rw [e2] at hi
  rw [e1 3 i (by omega)]
  exact h.2 i hi
theorem esC0_Sp {e : Nat → Nat → Nat} {p f t : Nat} (h : PSp e p) (hn : e (PB p) 10 < 30) (hf : f ≤ 3600) (ht : t ≤ 3600) : PSp (esC0 e p f t) p := by
  unfold PSp at *
  have e1 : esC0 e p f t (PB p) 10 = e (PB p) 10 + 1 := by
    unfold esC0
    rw [es_at, if_pos ⟨rfl, rfl⟩]
  have e4 : ∀ i, esC0 e p f t (PB p + 4) i = if i = e (PB p) 10 then f else e (PB p + 4) i := fun i => by
    unfold esC0
    rw [es_at, if_neg (by omega), es_at, if_neg (by omega), es_at]
    by_cases hi : i = e (PB p) 10
    · rw [if_pos ⟨rfl, hi⟩, if_pos hi]
    · rw [if_neg (by omega), if_neg hi]
  have e5 : ∀ i, esC0 e p f t (PB p + 5) i = if i = e (PB p) 10 then t else e (PB p + 5) i := fun i => by
    unfold esC0
    rw [es_at, if_neg (by omega), es_at]
    by_cases hi : i = e (PB p) 10
    · rw [if_pos ⟨rfl, hi⟩, if_pos hi]
    · rw [if_neg (by omega), if_neg hi, es_at, if_neg (by omega)]
  refine ⟨by rw [e1]; omega, fun i hi => ?_⟩
  rw [e1] at hi
  rw [e4, e5]
  by_cases hi2 : i = e (PB p) 10
  · rw [if_pos hi2, if_pos hi2]; exact ⟨hf, ht⟩
  · rw [if_neg hi2, if_neg hi2]
    exact h.2 i (by omega)
end
section
set_option maxHeartbeats 4000000 in
set_option maxRecDepth 100000 in
/-- Leavebank.isWorkingDay(day) -/
theorem kX3_isWorkingDay (l : Launch) (D : va_G) (cy : Nat → ClassId) (C : List Nat) (ad : Nat → Nat) (e : Nat → Nat → Nat) (sz : Nat) (dy : Nat) (hd : dy < 2147483648) : Met l yX3_isWorkingDay wsX3_isWorkingDay ({ frames := 0, cells := 0, slots := 0, locals := 0 } : Room) (PreM D cy (C, ad, G cy ad e) sz [.int (nI dy)]) (va_Qi (fun (r : Int32) (u : WT) => r = nI (decide (dy % 7 < 5)).toNat ∧ u = (C, ad, G cy ad e)) (WB D cy (AW (C, ad, G cy ad e) sz)) (AW (C, ad, G cy ad e) sz)) 0 0 (AW (C, ad, G cy ad e) sz) := by
  refine mx_start (cc := cX3_isWorkingDay) (maxL := 1) (ret := (some .boolean)) (by decide) rfl (Nat.le_of_ble_eq_true rfl) ?_
  intro p9 e9 s m args below meth c hsz hr hnm M w ls hl
  have hx := M.1.1
  have hb := M.1.2.1
  have hl : lv_has ls 1 [(0, .int (nI dy))] := hl
  refine lv_iload_n hx hb dX3_isWorkingDay_0 rfl (lv_at hl 0 rfl) ?_
  refine lv_bipush (v := nI 7) hx hb dX3_isWorkingDay_1 (by decide) ?_
  refine mi_rem hx hb (by omega) (by decide) (by decide) dX3_isWorkingDay_3 ?_
  refine lv_iconst (v := nI 5) hx hb dX3_isWorkingDay_4 (by decide) ?_
  refine mi_ge hx hb (by omega) (by decide) 12 dX3_isWorkingDay_5 (by decide) (fun h5 => ?_) (fun h5 => ?_)
  · refine lv_iconst (v := nI 0) hx hb dX3_isWorkingDay_12 (by decide) ?_
    exact mx_zret M w hr (v := (nI 0)) (by first | exact Or.inl rfl | exact Or.inr rfl) ⟨bt_0 (decide_eq_false (by omega)), rfl⟩ (by decide) (by decide) dX3_isWorkingDay_13
  · refine lv_iconst (v := nI 1) hx hb dX3_isWorkingDay_8 (by decide) ?_
    refine lv_goto (tgt := 13) hx hb dX3_isWorkingDay_9 (by decide) ?_
    exact mx_zret M w hr (v := (nI 1)) (by first | exact Or.inl rfl | exact Or.inr rfl) ⟨bt_1 (decide_eq_true (by omega)), rfl⟩ (by decide) (by decide) dX3_isWorkingDay_13

set_option maxHeartbeats 4000000 in
set_option maxRecDepth 100000 in
/-- Request.holdsOn(day) -/
theorem kX2_holdsOn (l : Launch) (D : va_G) (cy : Nat → ClassId) (C : List Nat) (ad : Nat → Nat) (e : Nat → Nat → Nat) (sz : Nat) (q dy : Nat) (hR : RB q ∈ C) (hb2 : e (RB q) 2 ≤ 3600 ∧ e (RB q) 3 ≤ 3600 ∧ e (RB q) 4 ≤ 1 ∧ dy ≤ 3600) : Met l yX2_holdsOn wsX2_holdsOn ({ frames := 0, cells := 0, slots := 0, locals := 0 } : Room) (PreM D cy (C, ad, G cy ad e) sz [.ref (ad (RB q)), .int (nI dy)]) (va_Qi (fun (r : Int32) (u : WT) => r = nI (hldC e q dy).toNat ∧ u = (C, ad, G cy ad e)) (WB D cy (AW (C, ad, G cy ad e) sz)) (AW (C, ad, G cy ad e) sz)) 0 0 (AW (C, ad, G cy ad e) sz) := by
  refine mx_start (cc := cX2_holdsOn) (maxL := 2) (ret := (some .boolean)) (by decide) rfl (Nat.le_of_ble_eq_true rfl) ?_
  intro p9 e9 s m args below meth c hsz hr hnm M w ls hl
  have hx := M.1.1
  have hb := M.1.2.1
  have inX2 : ∀ w ∈ wsX20, w ∈ wsX2_holdsOn := by decide +kernel
  have f19 : Cond.fieldLink RX2 19 RX2 "firstDay" "I" ∈ wsX2_holdsOn := by decide +kernel
  have f22 : Cond.fieldLink RX2 22 RX2 "lastDay" "I" ∈ wsX2_holdsOn := by decide +kernel
  have f25 : Cond.fieldLink RX2 25 RX2 "isCancelled" "Z" ∈ wsX2_holdsOn := by decide +kernel
  have hl : lv_has ls 2 [(0, .ref (ad (RB q))), (1, .int (nI dy))] := hl
  refine lv_aload_n hx hb dX2_holdsOn_0 rfl (lv_at hl 0 rfl) ?_
  refine ex_get M w (hR) (sh_RB cy ad q (e (RB q))) rfl inX2 4 (by decide) f25 rfl dX2_holdsOn_1 ?_
  refine mi_if_ne hx hb (by omega) 27 dX2_holdsOn_4 (by decide) (fun h4 => ?_) (fun h4 => ?_)
  · refine lv_iconst (v := nI 0) hx hb dX2_holdsOn_27 (by decide) ?_
    exact mx_zret M w hr (v := (nI 0)) (by first | exact Or.inl rfl | exact Or.inr rfl) ⟨bt_0 (by unfold hldC; exact decide_eq_false (by omega)), rfl⟩ (by decide) (by decide) dX2_holdsOn_28
  · refine lv_aload_n hx hb dX2_holdsOn_7 rfl (lv_at hl 0 rfl) ?_
    refine ex_get M w (hR) (sh_RB cy ad q (e (RB q))) rfl inX2 2 (by decide) f19 rfl dX2_holdsOn_8 ?_
    refine lv_iload_n hx hb dX2_holdsOn_11 rfl (lv_at hl 1 rfl) ?_
    refine mi_gt hx hb (by omega) (by omega) 27 dX2_holdsOn_12 (by decide) (fun h12 => ?_) (fun h12 => ?_)
    · refine lv_iconst (v := nI 0) hx hb dX2_holdsOn_27 (by decide) ?_
      exact mx_zret M w hr (v := (nI 0)) (by first | exact Or.inl rfl | exact Or.inr rfl) ⟨bt_0 (by unfold hldC; exact decide_eq_false (by omega)), rfl⟩ (by decide) (by decide) dX2_holdsOn_28
    · refine lv_iload_n hx hb dX2_holdsOn_15 rfl (lv_at hl 1 rfl) ?_
      refine lv_aload_n hx hb dX2_holdsOn_16 rfl (lv_at hl 0 rfl) ?_
      refine ex_get M w (hR) (sh_RB cy ad q (e (RB q))) rfl inX2 3 (by decide) f22 rfl dX2_holdsOn_17 ?_
      refine mi_gt hx hb (by omega) (by omega) 27 dX2_holdsOn_20 (by decide) (fun h20 => ?_) (fun h20 => ?_)
      · refine lv_iconst (v := nI 0) hx hb dX2_holdsOn_27 (by decide) ?_
        exact mx_zret M w hr (v := (nI 0)) (by first | exact Or.inl rfl | exact Or.inr rfl) ⟨bt_0 (by unfold hldC; exact decide_eq_false (by omega)), rfl⟩ (by decide) (by decide) dX2_holdsOn_28
      · refine lv_iconst (v := nI 1) hx hb dX2_holdsOn_23 (by decide) ?_
        refine lv_goto (tgt := 28) hx hb dX2_holdsOn_24 (by decide) ?_
        exact mx_zret M w hr (v := (nI 1)) (by first | exact Or.inl rfl | exact Or.inr rfl) ⟨bt_1 (by unfold hldC; exact decide_eq_true (by omega)), rfl⟩ (by decide) (by decide) dX2_holdsOn_28

set_option maxHeartbeats 4000000 in
set_option maxRecDepth 100000 in
/-- Person.isSickOn(day) -/
theorem kX1_isSickOn (l : Launch) (D : va_G) (cy : Nat → ClassId) (C : List Nat) (ad : Nat → Nat) (e : Nat → Nat → Nat) (sz : Nat) (p dy : Nat) (hp : p < 8) (hC : ∀ k, k < 9 → PB p + k ∈ C) (hSp : PSp e p) (hd : dy ≤ 3600) : Met l yX1_isSickOn wsX1_isSickOn ({ frames := 0, cells := 0, slots := 0, locals := 0 } : Room) (PreM D cy (C, ad, G cy ad e) sz [.ref (ad (PB p)), .int (nI dy)]) (va_Qi (fun (r : Int32) (u : WT) => r = nI (sckC e p dy).toNat ∧ u = (C, ad, G cy ad e)) (WB D cy (AW (C, ad, G cy ad e) sz)) (AW (C, ad, G cy ad e) sz)) 0 0 (AW (C, ad, G cy ad e) sz) := by
  refine mx_start (cc := cX1_isSickOn) (maxL := 3) (ret := (some .boolean)) (by decide) rfl (Nat.le_of_ble_eq_true rfl) ?_
  intro p9 e9 s m args below meth c hsz hr hnm M w ls hl
  have hx := M.1.1
  have hb := M.1.2.1
  have inX1 : ∀ w ∈ wsX10, w ∈ wsX1_isSickOn := by decide +kernel
  have f24 : Cond.fieldLink RX1 24 RX1 "spellFirsts" "[I" ∈ wsX1_isSickOn := by decide +kernel
  have f27 : Cond.fieldLink RX1 27 RX1 "spellLasts" "[I" ∈ wsX1_isSickOn := by decide +kernel
  have f69 : Cond.fieldLink RX1 69 RX1 "ownSpellCount" "I" ∈ wsX1_isSickOn := by decide +kernel
  obtain ⟨hs1, hs2⟩ := hSp
  have cut2 : ∀ (n9 : Nat) (i : Nat) (hi : i ≤ e (PB p) 10) (hq : anyN (fun i => decide (e (PB p + 4) i ≤ dy ∧ dy ≤ e (PB p + 5) i)) i = false) (_hm : e (PB p) 10 - i < n9) (H : Heap) (locs : List Loc), MO D (AW (C, ad, G cy ad e) sz) s.heap (C, ad, G cy ad e) H locs → ∀ (ls : Array Slot), lv_has ls 3 [(0, .ref (ad (PB p))), (1, .int (nI dy)), (2, .int (nI i))] → W p9 l e9 ({ frames := 0, cells := 0, slots := 0, locals := 0 } : Room) s m args below meth c H locs 0 0 (MQ below (va_Qi (fun (r : Int32) (u : WT) => r = nI (sckC e p dy).toNat ∧ u = (C, ad, G cy ad e)) (WB D cy (AW (C, ad, G cy ad e) sz)) (AW (C, ad, G cy ad e) sz)) args s 0 0 (AW (C, ad, G cy ad e) sz)) (F0 m 2 ls []) := by
    intro n9
    induction n9 with
    | zero => intro i hi hq _hm; exact absurd _hm (Nat.not_lt_zero _)
    | succ n9 ih =>
      intro i hi hq _hm H locs w ls hl
      refine lv_iload_n hx hb dX1_isSickOn_2 rfl (lv_at hl 2 rfl) ?_
      refine lv_aload_n hx hb dX1_isSickOn_3 rfl (lv_at hl 0 rfl) ?_
      refine ex_get M w (show (PB p) ∈ C from hC 0 (by decide)) (sh_P0 cy ad (e (PB p)) hp) rfl inX1 10 (by decide) f69 rfl dX1_isSickOn_4 ?_
      refine mi_ge hx hb (by omega) (by omega) 38 dX1_isSickOn_7 (by decide) (fun h7 => ?_) (fun h7 => ?_)
      · refine lv_iconst (v := nI 0) hx hb dX1_isSickOn_38 (by decide) ?_
        exact mx_zret M w hr (v := (nI 0)) (by first | exact Or.inl rfl | exact Or.inr rfl) ⟨bt_0 (by unfold sckC; rw [show e (PB p) 10 = i by omega]; exact hq), rfl⟩ (by decide) (by decide) dX1_isSickOn_39
      · have q1 := hs2 i h7
        refine lv_aload_n hx hb dX1_isSickOn_10 rfl (lv_at hl 0 rfl) ?_
        refine ex_get M w (show (PB p) ∈ C from hC 0 (by decide)) (sh_P0 cy ad (e (PB p)) hp) rfl inX1 8 (by decide) f24 rfl dX1_isSickOn_11 ?_
        refine lv_iload_n hx hb dX1_isSickOn_14 rfl (lv_at hl 2 rfl) ?_
        refine ex_iald M w (hC 4 (by decide)) (fun v => sh_P4 cy ad v hp) (by omega) (by decide) rfl dX1_isSickOn_15 ?_
        refine lv_iload_n hx hb dX1_isSickOn_16 rfl (lv_at hl 1 rfl) ?_
        refine mi_gt hx hb (by omega) (by omega) 32 dX1_isSickOn_17 (by decide) (fun h17 => ?_) (fun h17 => ?_)
        · refine lv_iinc (v := nI (i + 1)) (lv' := [(2, .int (nI (i + 1))), (0, .ref (ad (PB p))), (1, .int (nI dy))]) hx hb dX1_isSickOn_32 hl (k := 2) rfl (nI_inc _ 1) (by decide) rfl (fun ls hl => ?_)
          refine lv_goto (tgt := 2) hx hb dX1_isSickOn_35 (by decide) ?_
          exact ih (i + 1) (by omega) (anyN_no hq (decide_eq_false (by omega)))  (by omega) _ _ w ls (lv_sub hl [1, 2, 0] rfl)
        · refine lv_iload_n hx hb dX1_isSickOn_20 rfl (lv_at hl 1 rfl) ?_
          refine lv_aload_n hx hb dX1_isSickOn_21 rfl (lv_at hl 0 rfl) ?_
          refine ex_get M w (show (PB p) ∈ C from hC 0 (by decide)) (sh_P0 cy ad (e (PB p)) hp) rfl inX1 9 (by decide) f27 rfl dX1_isSickOn_22 ?_
          refine lv_iload_n hx hb dX1_isSickOn_25 rfl (lv_at hl 2 rfl) ?_
          refine ex_iald M w (hC 5 (by decide)) (fun v => sh_P5 cy ad v hp) (by omega) (by decide) rfl dX1_isSickOn_26 ?_
          refine mi_gt hx hb (by omega) (by omega) 32 dX1_isSickOn_27 (by decide) (fun h27 => ?_) (fun h27 => ?_)
          · refine lv_iinc (v := nI (i + 1)) (lv' := [(2, .int (nI (i + 1))), (0, .ref (ad (PB p))), (1, .int (nI dy))]) hx hb dX1_isSickOn_32 hl (k := 2) rfl (nI_inc _ 1) (by decide) rfl (fun ls hl => ?_)
            refine lv_goto (tgt := 2) hx hb dX1_isSickOn_35 (by decide) ?_
            exact ih (i + 1) (by omega) (anyN_no hq (decide_eq_false (by omega)))  (by omega) _ _ w ls (lv_sub hl [1, 2, 0] rfl)
          · refine lv_iconst (v := nI 1) hx hb dX1_isSickOn_30 (by decide) ?_
            exact mx_zret M w hr (v := (nI 1)) (by first | exact Or.inl rfl | exact Or.inr rfl) ⟨bt_1 (anyN_hit h7 (decide_eq_true ⟨by omega, by omega⟩)), rfl⟩ (by decide) (by decide) dX1_isSickOn_31
  have hl : lv_has ls 3 [(0, .ref (ad (PB p))), (1, .int (nI dy))] := hl
  refine lv_iconst (v := nI 0) hx hb dX1_isSickOn_0 (by decide) ?_
  refine lv_istore_n (lv' := [(2, .int (nI 0)), (0, .ref (ad (PB p))), (1, .int (nI dy))]) hx hb dX1_isSickOn_1 rfl hl (by decide) rfl (fun ls hl => ?_)
  exact cut2 (e (PB p) 10 - 0 + 1) 0 (Nat.zero_le _) rfl  (by omega) _ _ w ls (lv_sub hl [1, 2, 0] rfl)
end
section
set_option maxHeartbeats 4000000 in
set_option maxRecDepth 100000 in
/-- Person.hoursOn(day) -/
theorem kX1_hoursOn (l : Launch) (D : va_G) (cy : Nat → ClassId) (C : List Nat) (ad : Nat → Nat) (e : Nat → Nat → Nat) (sz : Nat) (p dy : Nat) (hp : p < 8) (hC : ∀ k, k < 9 → PB p + k ∈ C) (hCh : PCh e p) (hd : dy ≤ 3600) : Met l yX1_hoursOn wsX1_hoursOn ({ frames := 0, cells := 0, slots := 0, locals := 0 } : Room) (PreM D cy (C, ad, G cy ad e) sz [.ref (ad (PB p)), .int (nI dy)]) (va_Qi (fun (r : Int32) (u : WT) => r = nI (hrC e p dy) ∧ u = (C, ad, G cy ad e)) (WB D cy (AW (C, ad, G cy ad e) sz)) (AW (C, ad, G cy ad e) sz)) 0 0 (AW (C, ad, G cy ad e) sz) := by
  refine mx_start (cc := cX1_hoursOn) (maxL := 5) (ret := (some .int)) (by decide) rfl (Nat.le_of_ble_eq_true rfl) ?_
  intro p9 e9 s m args below meth c hsz hr hnm M w ls hl
  have hx := M.1.1
  have hb := M.1.2.1
  have inX1 : ∀ w ∈ wsX10, w ∈ wsX1_hoursOn := by decide +kernel
  have f9 : Cond.fieldLink RX1 9 RX1 "changeDays" "[I" ∈ wsX1_hoursOn := by decide +kernel
  have f15 : Cond.fieldLink RX1 15 RX1 "changeHours" "[I" ∈ wsX1_hoursOn := by decide +kernel
  have f46 : Cond.fieldLink RX1 46 RX1 "firstHours" "I" ∈ wsX1_hoursOn := by decide +kernel
  have f49 : Cond.fieldLink RX1 49 RX1 "changeCount" "I" ∈ wsX1_hoursOn := by decide +kernel
  obtain ⟨hs1, hs2⟩ := hCh
  have cut10 : ∀ (n9 : Nat) (i : Nat) (la : Int32) (hh : Nat) (hi : i ≤ e (PB p) 5) (hla : la = nI (hN (e (PB p + 1)) (e (PB p + 2)) (e (PB p) 2) dy i).1 - 1) (hhh : hh = (hN (e (PB p + 1)) (e (PB p + 2)) (e (PB p) 2) dy i).2) (_hm : e (PB p) 5 - i < n9) (H : Heap) (locs : List Loc), MO D (AW (C, ad, G cy ad e) sz) s.heap (C, ad, G cy ad e) H locs → ∀ (ls : Array Slot), lv_has ls 5 [(0, .ref (ad (PB p))), (1, .int (nI dy)), (2, .int la), (3, .int (nI hh)), (4, .int (nI i))] → W p9 l e9 ({ frames := 0, cells := 0, slots := 0, locals := 0 } : Room) s m args below meth c H locs 0 0 (MQ below (va_Qi (fun (r : Int32) (u : WT) => r = nI (hrC e p dy) ∧ u = (C, ad, G cy ad e)) (WB D cy (AW (C, ad, G cy ad e) sz)) (AW (C, ad, G cy ad e) sz)) args s 0 0 (AW (C, ad, G cy ad e) sz)) (F0 m 10 ls []) := by
    intro n9
    induction n9 with
    | zero => intro i la hh hi hla hhh _hm; exact absurd _hm (Nat.not_lt_zero _)
    | succ n9 ih =>
      intro i la hh hi hla hhh _hm H locs w ls hl
      refine lv_iload hx hb dX1_hoursOn_10 (lv_at hl 4 rfl) ?_
      refine lv_aload_n hx hb dX1_hoursOn_12 rfl (lv_at hl 0 rfl) ?_
      refine ex_get M w (show (PB p) ∈ C from hC 0 (by decide)) (sh_P0 cy ad (e (PB p)) hp) rfl inX1 5 (by decide) f49 rfl dX1_hoursOn_13 ?_
      refine mi_ge hx hb (by omega) (by omega) 63 dX1_hoursOn_16 (by decide) (fun h16 => ?_) (fun h16 => ?_)
      · refine lv_iload_n hx hb dX1_hoursOn_63 rfl (lv_at hl 3 rfl) ?_
        exact mx_iret M w hr (v := (nI hh)) ⟨by rw [hhh]; unfold hrC; rw [show e (PB p) 5 = i by omega], rfl⟩ (by decide) (by decide) dX1_hoursOn_64
      · have q1 := hs2 i h16
        have q2 := hN_le (cd := e (PB p + 1)) (ch := e (PB p + 2)) (h0 := e (PB p) 2) (day := dy) (n := i)
        refine lv_aload_n hx hb dX1_hoursOn_19 rfl (lv_at hl 0 rfl) ?_
        refine ex_get M w (show (PB p) ∈ C from hC 0 (by decide)) (sh_P0 cy ad (e (PB p)) hp) rfl inX1 3 (by decide) f9 rfl dX1_hoursOn_20 ?_
        refine lv_iload hx hb dX1_hoursOn_23 (lv_at hl 4 rfl) ?_
        refine ex_iald M w (hC 1 (by decide)) (fun v => sh_P1 cy ad v hp) (by omega) (by decide) rfl dX1_hoursOn_25 ?_
        refine lv_iload_n hx hb dX1_hoursOn_26 rfl (lv_at hl 1 rfl) ?_
        refine mi_gt hx hb (by omega) (by omega) 57 dX1_hoursOn_27 (by decide) (fun h27 => ?_) (fun h27 => ?_)
        · have e9 := hN_2 (e (PB p + 1)) (e (PB p + 2)) (e (PB p) 2) dy i (fun z => by omega)
          refine lv_iinc (v := nI (i + 1)) (lv' := [(4, .int (nI (i + 1))), (0, .ref (ad (PB p))), (1, .int (nI dy)), (2, .int la), (3, .int (nI hh))]) hx hb dX1_hoursOn_57 hl (k := 4) rfl (nI_inc _ 1) (by decide) rfl (fun ls hl => ?_)
          refine lv_goto (tgt := 10) hx hb dX1_hoursOn_60 (by decide) ?_
          exact ih (i + 1) la hh (by omega) (by rw [e9]; exact hla) (by rw [e9]; exact hhh)  (by omega) _ _ w ls (lv_sub hl [1, 2, 3, 4, 0] rfl)
        · refine lv_aload_n hx hb dX1_hoursOn_30 rfl (lv_at hl 0 rfl) ?_
          refine ex_get M w (show (PB p) ∈ C from hC 0 (by decide)) (sh_P0 cy ad (e (PB p)) hp) rfl inX1 3 (by decide) f9 rfl dX1_hoursOn_31 ?_
          refine lv_iload hx hb dX1_hoursOn_34 (lv_at hl 4 rfl) ?_
          refine ex_iald M w (hC 1 (by decide)) (fun v => sh_P1 cy ad v hp) (by omega) (by decide) rfl dX1_hoursOn_36 ?_
          refine lv_iload_n hx hb dX1_hoursOn_37 rfl (lv_at hl 2 rfl) ?_
          refine lv_icmp_le (tgt := 57) hx hb dX1_hoursOn_38 (by decide) (fun h38 => ?_) (fun h38 => ?_)
          · have e9 := hN_2 (e (PB p + 1)) (e (PB p + 2)) (e (PB p) 2) dy i (fun z => by rw [hla] at h38; have z2 := (le_m1 (by omega) (by omega)).mp h38; omega)
            refine lv_iinc (v := nI (i + 1)) (lv' := [(4, .int (nI (i + 1))), (0, .ref (ad (PB p))), (1, .int (nI dy)), (2, .int la), (3, .int (nI hh))]) hx hb dX1_hoursOn_57 hl (k := 4) rfl (nI_inc _ 1) (by decide) rfl (fun ls hl => ?_)
            refine lv_goto (tgt := 10) hx hb dX1_hoursOn_60 (by decide) ?_
            exact ih (i + 1) la hh (by omega) (by rw [e9]; exact hla) (by rw [e9]; exact hhh)  (by omega) _ _ w ls (lv_sub hl [1, 2, 3, 4, 0] rfl)
          · refine lv_aload_n hx hb dX1_hoursOn_41 rfl (lv_at hl 0 rfl) ?_
            refine ex_get M w (show (PB p) ∈ C from hC 0 (by decide)) (sh_P0 cy ad (e (PB p)) hp) rfl inX1 3 (by decide) f9 rfl dX1_hoursOn_42 ?_
            refine lv_iload hx hb dX1_hoursOn_45 (lv_at hl 4 rfl) ?_
            refine ex_iald M w (hC 1 (by decide)) (fun v => sh_P1 cy ad v hp) (by omega) (by decide) rfl dX1_hoursOn_47 ?_
            refine lv_istore_n (lv' := [(2, .int (nI (e (PB p + 1) i))), (0, .ref (ad (PB p))), (1, .int (nI dy)), (3, .int (nI hh)), (4, .int (nI i))]) hx hb dX1_hoursOn_48 rfl hl (by decide) rfl (fun ls hl => ?_)
            refine lv_aload_n hx hb dX1_hoursOn_49 rfl (lv_at hl 1 rfl) ?_
            refine ex_get M w (show (PB p) ∈ C from hC 0 (by decide)) (sh_P0 cy ad (e (PB p)) hp) rfl inX1 4 (by decide) f15 rfl dX1_hoursOn_50 ?_
            refine lv_iload hx hb dX1_hoursOn_53 (lv_at hl 4 rfl) ?_
            refine ex_iald M w (hC 2 (by decide)) (fun v => sh_P2 cy ad v hp) (by omega) (by decide) rfl dX1_hoursOn_55 ?_
            refine lv_istore_n (lv' := [(3, .int (nI (e (PB p + 2) i))), (2, .int (nI (e (PB p + 1) i))), (0, .ref (ad (PB p))), (1, .int (nI dy)), (4, .int (nI i))]) hx hb dX1_hoursOn_56 rfl hl (by decide) rfl (fun ls hl => ?_)
            have e9 := hN_1 (e (PB p + 1)) (e (PB p + 2)) (e (PB p) 2) dy i (by omega) (by rw [hla] at h38; rcases Nat.lt_or_ge (e (PB p + 1) i) (hN (e (PB p + 1)) (e (PB p + 2)) (e (PB p) 2) dy i).1 with z | z <;> first | exact z | exact absurd ((le_m1 (by omega) (by omega)).mpr z) h38)
            refine lv_iinc (v := nI (i + 1)) (lv' := [(4, .int (nI (i + 1))), (3, .int (nI (e (PB p + 2) i))), (2, .int (nI (e (PB p + 1) i))), (0, .ref (ad (PB p))), (1, .int (nI dy))]) hx hb dX1_hoursOn_57 hl (k := 4) rfl (nI_inc _ 1) (by decide) rfl (fun ls hl => ?_)
            refine lv_goto (tgt := 10) hx hb dX1_hoursOn_60 (by decide) ?_
            exact ih (i + 1) _ _ (by omega) (by rw [e9]; exact (nI_pred _).symm) (by rw [e9])  (by omega) _ _ w ls (lv_sub hl [3, 4, 2, 1, 0] rfl)
  have hl : lv_has ls 5 [(0, .ref (ad (PB p))), (1, .int (nI dy))] := hl
  refine lv_iconst (v := (-1)) hx hb dX1_hoursOn_0 (by decide) ?_
  refine lv_istore_n (lv' := [(2, .int (-1)), (0, .ref (ad (PB p))), (1, .int (nI dy))]) hx hb dX1_hoursOn_1 rfl hl (by decide) rfl (fun ls hl => ?_)
  refine lv_aload_n hx hb dX1_hoursOn_2 rfl (lv_at hl 1 rfl) ?_
  refine ex_get M w (show (PB p) ∈ C from hC 0 (by decide)) (sh_P0 cy ad (e (PB p)) hp) rfl inX1 2 (by decide) f46 rfl dX1_hoursOn_3 ?_
  refine lv_istore_n (lv' := [(3, .int (nI (e (PB p) 2))), (2, .int (-1)), (0, .ref (ad (PB p))), (1, .int (nI dy))]) hx hb dX1_hoursOn_6 rfl hl (by decide) rfl (fun ls hl => ?_)
  refine lv_iconst (v := nI 0) hx hb dX1_hoursOn_7 (by decide) ?_
  refine lv_istore (lv' := [(4, .int (nI 0)), (3, .int (nI (e (PB p) 2))), (2, .int (-1)), (0, .ref (ad (PB p))), (1, .int (nI dy))]) hx hb dX1_hoursOn_8 hl (by decide) rfl (fun ls hl => ?_)
  exact cut10 (e (PB p) 5 - 0 + 1) 0 _ _ (Nat.zero_le _) rfl rfl  (by omega) _ _ w ls (lv_sub hl [3, 4, 2, 1, 0] rfl)

set_option maxHeartbeats 4000000 in
set_option maxRecDepth 100000 in
/-- Person.leaveOn(day) -/
theorem kX1_leaveOn (l : Launch) (D : va_G) (cy : Nat → ClassId) (C : List Nat) (ad : Nat → Nat) (e : Nat → Nat → Nat) (sz : Nat) (p dy : Nat) (hp : p < 8) (hC : ∀ k, k < 9 → PB p + k ∈ C) (hd : dy ≤ 3600) : Met l yX1_leaveOn wsX1_leaveOn ({ frames := 0, cells := 0, slots := 0, locals := 0 } : Room) (PreM D cy (C, ad, G cy ad e) sz [.ref (ad (PB p)), .int (nI dy)]) (va_Qi (fun (r : Int32) (u : WT) => r = nI (e (PB p + 8) dy) ∧ u = (C, ad, G cy ad e)) (WB D cy (AW (C, ad, G cy ad e) sz)) (AW (C, ad, G cy ad e) sz)) 0 0 (AW (C, ad, G cy ad e) sz) := by
  refine mx_start (cc := cX1_leaveOn) (maxL := 2) (ret := (some .int)) (by decide) rfl (Nat.le_of_ble_eq_true rfl) ?_
  intro p9 e9 s m args below meth c hsz hr hnm M w ls hl
  have hx := M.1.1
  have hb := M.1.2.1
  have inX1 : ∀ w ∈ wsX10, w ∈ wsX1_leaveOn := by decide +kernel
  have f36 : Cond.fieldLink RX1 36 RX1 "leaveKinds" "[I" ∈ wsX1_leaveOn := by decide +kernel
  have hl : lv_has ls 2 [(0, .ref (ad (PB p))), (1, .int (nI dy))] := hl
  refine lv_iload_n hx hb dX1_leaveOn_0 rfl (lv_at hl 1 rfl) ?_
  refine mi_if_lt hx hb (by omega) 22 dX1_leaveOn_1 (by decide) (fun h => h.elim) (fun _ => ?_)
  refine lv_iload_n hx hb dX1_leaveOn_4 rfl (lv_at hl 1 rfl) ?_
  refine lv_aload_n hx hb dX1_leaveOn_5 rfl (lv_at hl 0 rfl) ?_
  refine ex_get M w (show (PB p) ∈ C from hC 0 (by decide)) (sh_P0 cy ad (e (PB p)) hp) rfl inX1 14 (by decide) f36 rfl dX1_leaveOn_6 ?_
  refine mx_alen M w (hC 8 (by decide)) 0 (g := G cy ad e) (sh_P8 cy ad _ hp) rfl (n := 3601) rfl dX1_leaveOn_9 ?_
  refine mi_ge hx hb (by omega) (by decide) 22 dX1_leaveOn_10 (by decide) (fun h10 => absurd h10 (by first | decide | omega)) (fun h10 => ?_)
  refine lv_aload_n hx hb dX1_leaveOn_13 rfl (lv_at hl 0 rfl) ?_
  refine ex_get M w (show (PB p) ∈ C from hC 0 (by decide)) (sh_P0 cy ad (e (PB p)) hp) rfl inX1 14 (by decide) f36 rfl dX1_leaveOn_14 ?_
  refine lv_iload_n hx hb dX1_leaveOn_17 rfl (lv_at hl 1 rfl) ?_
  refine ex_iald M w (hC 8 (by decide)) (fun v => sh_P8 cy ad v hp) (by omega) (by decide) rfl dX1_leaveOn_18 ?_
  refine lv_goto (tgt := 23) hx hb dX1_leaveOn_19 (by decide) ?_
  exact mx_iret M w hr (v := (nI (e (PB p + 8) dy))) ⟨rfl, rfl⟩ (by decide) (by decide) dX1_leaveOn_23

set_option maxHeartbeats 4000000 in
set_option maxRecDepth 100000 in
/-- Person.findLeave(day) -/
theorem kX1_findLeave (l : Launch) (D : va_G) (cy : Nat → ClassId) (C : List Nat) (ad : Nat → Nat) (e : Nat → Nat → Nat) (sz : Nat) (p dy nr : Nat) (hp : p < 8) (hC : ∀ k, k < 9 → PB p + k ∈ C) (hSp : PSp e p) (hRq : PRq e p nr) (hRC : ∀ q, q < nr → RB q ∈ C) (hRW : RW e nr) (hd : dy ≤ 3600) : Met l yX1_findLeave wsX1_findLeave ({ frames := 1, cells := 0, slots := 0, locals := 22 } : Room) (PreM D cy (C, ad, G cy ad e) sz [.ref (ad (PB p)), .int (nI dy)]) (va_Qi (fun (r : Int32) (u : WT) => r = nI (lvC e p dy) ∧ u = (C, ad, G cy ad e)) (WB D cy (AW (C, ad, G cy ad e) sz)) (AW (C, ad, G cy ad e) sz)) 0 0 (AW (C, ad, G cy ad e) sz) := by
  refine mx_start (cc := cX1_findLeave) (maxL := 5) (ret := (some .int)) (by decide) rfl (Nat.le_of_ble_eq_true rfl) ?_
  intro p9 e9 s m args below meth c hsz hr hnm M w ls hl
  have hx := M.1.1
  have hb := M.1.2.1
  have inX1 : ∀ w ∈ wsX10, w ∈ wsX1_findLeave := by decide +kernel
  have inX2 : ∀ w ∈ wsX20, w ∈ wsX1_findLeave := by decide +kernel
  have f20 : Cond.fieldLink RX1 20 RX1 "ownRequests" "[LLeavebank$Request;" ∈ wsX1_findLeave := by decide +kernel
  have f58 : Cond.fieldLink RX1 58 RX1 "ownRequestCount" "I" ∈ wsX1_findLeave := by decide +kernel
  have f89 : Cond.fieldLink RX1 89 RX2 "kind" "I" ∈ wsX1_findLeave := by decide +kernel
  have k52 : Cond.methodLink RX1 52 Lib.Math.max.name ∈ wsX1_findLeave := by decide +kernel
  have k52a : Cond.static Lib.Math.max.name ∈ wsX1_findLeave := by decide +kernel
  have k52b : Cond.initialized "java/lang/Math" ∈ wsX1_findLeave := by decide +kernel
  have k52c : Cond.code Lib.Math.max.name Lib.Math.max.code 2 (some .int) ∈ wsX1_findLeave := by decide +kernel
  obtain ⟨hr1, hr2⟩ := id hRq
  have cut21 : ∀ (n9 : Nat) (i k : Nat) (hi : i ≤ e (PB p) 7) (hk : k = mxN (lvfC e p dy) i) (hk2 : k ≤ 2) (hwd : dy % 7 < 5) (hsk : sckC e p dy = false) (_hm : e (PB p) 7 - i < n9) (H : Heap) (locs : List Loc), MO D (AW (C, ad, G cy ad e) sz) s.heap (C, ad, G cy ad e) H locs → ∀ (ls : Array Slot), lv_has ls 5 [(0, .ref (ad (PB p))), (1, .int (nI dy)), (2, .int (nI k)), (3, .int (nI i))] → W p9 l e9 ({ frames := 1, cells := 0, slots := 0, locals := 22 } : Room) s m args below meth c H locs 0 0 (MQ below (va_Qi (fun (r : Int32) (u : WT) => r = nI (lvC e p dy) ∧ u = (C, ad, G cy ad e)) (WB D cy (AW (C, ad, G cy ad e) sz)) (AW (C, ad, G cy ad e) sz)) args s 0 0 (AW (C, ad, G cy ad e) sz)) (F0 m 21 ls []) := by
    intro n9
    induction n9 with
    | zero => intro i k hi hk hk2 hwd hsk _hm; exact absurd _hm (Nat.not_lt_zero _)
    | succ n9 ih =>
      intro i k hi hk hk2 hwd hsk _hm H locs w ls hl
      refine lv_iload_n hx hb dX1_findLeave_21 rfl (lv_at hl 3 rfl) ?_
      refine lv_aload_n hx hb dX1_findLeave_22 rfl (lv_at hl 0 rfl) ?_
      refine ex_get M w (show (PB p) ∈ C from hC 0 (by decide)) (sh_P0 cy ad (e (PB p)) hp) rfl inX1 7 (by decide) f58 rfl dX1_findLeave_23 ?_
      refine mi_ge hx hb (by omega) (by omega) 67 dX1_findLeave_26 (by decide) (fun h26 => ?_) (fun h26 => ?_)
      · refine lv_iload_n hx hb dX1_findLeave_67 rfl (lv_at hl 2 rfl) ?_
        exact mx_iret M w hr (v := (nI k)) ⟨congrArg nI (show k = lvC e p dy by unfold lvC; rw [if_neg (fun z => z.elim (fun a => by omega) (fun a => by rw [hsk] at a; cases a)), show e (PB p) 7 = i by omega]; exact hk), rfl⟩ (by decide) (by decide) dX1_findLeave_68
      · have q1 := hr2 i h26
        have q2 := hRW (e (PB p + 3) i - 1) (by omega)
        refine lv_aload_n hx hb dX1_findLeave_29 rfl (lv_at hl 0 rfl) ?_
        refine ex_get M w (show (PB p) ∈ C from hC 0 (by decide)) (sh_P0 cy ad (e (PB p)) hp) rfl inX1 6 (by decide) f20 rfl dX1_findLeave_30 ?_
        refine lv_iload_n hx hb dX1_findLeave_33 rfl (lv_at hl 3 rfl) ?_
        refine mx_aldR M w (hC 3 (by decide)) (g := G cy ad e) (sh_P3 cy ad _ hp) (vp_in_nI (by omega) (by decide)) dX1_findLeave_34 ?_
        refine W.eq (congrArg (fun z => F0 m 35 ls (va_rf z :: [])) ((congrArg _ (nI_clamp (by omega))).trans (rfR_some (v := e (PB p + 3)) (j := i) (by omega)))) ?_
        refine lv_astore (lv' := [(4, .ref (ad (RB (e (PB p + 3) i - 1)))), (0, .ref (ad (PB p))), (1, .int (nI dy)), (2, .int (nI k)), (3, .int (nI i))]) hx hb dX1_findLeave_35 hl (by decide) rfl (fun ls hl => ?_)
        refine lv_aload hx hb dX1_findLeave_37 (lv_at hl 0 rfl) ?_
        refine lv_ifnull hx hb dX1_findLeave_39 ?_
        refine lv_aload hx hb dX1_findLeave_42 (lv_at hl 0 rfl) ?_
        refine lv_iload_n hx hb dX1_findLeave_44 rfl (lv_at hl 2 rfl) ?_
        refine mx_Vi M w (kX2_holdsOn l D cy C ad e H.size (e (PB p + 3) i - 1) dy (hRC (e (PB p + 3) i - 1) (by omega)) ⟨q2.2.1, q2.2.2.1, q2.2.2.2, hd⟩) (cwV 1 M.1.2.2.2.2 gX1_findLeave_X2_holdsOn rfl rfl rfl (by decide +kernel) ⟨Nat.le_of_ble_eq_true rfl, Nat.le_of_ble_eq_true rfl⟩) (mo_rec M w (hRC (e (PB p + 3) i - 1) (by omega)) (g := G cy ad e) (sh_RB cy ad (e (PB p + 3) i - 1) (e (RB (e (PB p + 3) i - 1)))) rfl) rfl hl.1 rfl (Nat.le_of_ble_eq_true rfl) dX1_findLeave_45 ⟨by decide, by decide⟩ (fun r45 u1 H locs hp1 w => ?_)
        obtain ⟨rfl, rfl⟩ := hp1
        refine mi_if_eq hx hb (bt_lt _) 61 dX1_findLeave_48 (by decide) (fun h48 => ?_) (fun h48 => ?_)
        · refine lv_iinc (v := nI (i + 1)) (lv' := [(3, .int (nI (i + 1))), (4, .ref (ad (RB (e (PB p + 3) i - 1)))), (0, .ref (ad (PB p))), (1, .int (nI dy)), (2, .int (nI k))]) hx hb dX1_findLeave_61 hl (k := 4) rfl (nI_inc _ 1) (by decide) rfl (fun ls hl => ?_)
          refine lv_goto (tgt := 21) hx hb dX1_findLeave_64 (by decide) ?_
          exact ih (i + 1) k (by omega) (by rw [mxN_s, ← hk, lvfC_0 (bt_f h48)]; exact (Nat.max_eq_left (Nat.zero_le _)).symm) (by omega) hwd hsk  (by omega) _ _ w ls (lv_sub hl [2, 3, 4, 0] rfl)
        · refine lv_iload_n hx hb dX1_findLeave_51 rfl (lv_at hl 3 rfl) ?_
          refine lv_aload hx hb dX1_findLeave_52 (lv_at hl 0 rfl) ?_
          refine ex_get M w (hRC (e (PB p + 3) i - 1) (by omega)) (sh_RB cy ad (e (PB p + 3) i - 1) (e (RB (e (PB p + 3) i - 1)))) rfl inX2 1 (by decide) f89 rfl dX1_findLeave_54 ?_
          refine mi_max M hl.1 k52 k52a k52b k52c (by decide) (Nat.le_of_ble_eq_true rfl) (by decide) (by decide) (by omega) (by omega) dX1_findLeave_57 ?_
          refine lv_istore_n (lv' := [(2, .int (nI (max k (e (RB (e (PB p + 3) i - 1)) 1)))), (4, .ref (ad (RB (e (PB p + 3) i - 1)))), (0, .ref (ad (PB p))), (1, .int (nI dy)), (3, .int (nI i))]) hx hb dX1_findLeave_60 rfl hl (by decide) rfl (fun ls hl => ?_)
          refine lv_iinc (v := nI (i + 1)) (lv' := [(3, .int (nI (i + 1))), (2, .int (nI (max k (e (RB (e (PB p + 3) i - 1)) 1)))), (4, .ref (ad (RB (e (PB p + 3) i - 1)))), (0, .ref (ad (PB p))), (1, .int (nI dy))]) hx hb dX1_findLeave_61 hl (k := 4) rfl (nI_inc _ 1) (by decide) rfl (fun ls hl => ?_)
          refine lv_goto (tgt := 21) hx hb dX1_findLeave_64 (by decide) ?_
          exact ih (i + 1) (max k (e (RB (e (PB p + 3) i - 1)) 1)) (by omega) (by rw [mxN_s, ← hk, lvfC_1 (bt_t h48)]) (by omega) hwd hsk  (by omega) _ _ w ls (lv_sub hl [3, 4, 1, 0] rfl)
  have hl : lv_has ls 5 [(0, .ref (ad (PB p))), (1, .int (nI dy))] := hl
  refine lv_iload_n hx hb dX1_findLeave_0 rfl (lv_at hl 1 rfl) ?_
  refine mx_SNi M w (kX3_isWorkingDay l D cy C ad e s.heap.size dy (by omega)) ⟨va_cnB 1 M.1.2.2.2.2 gX1_findLeave_X3_isWorkingDay_n79 rfl rfl rfl M.2.2.2.2.1 (M.1.2.2.2.2 _ (by decide +kernel)) (by decide +kernel) ⟨Nat.le_of_ble_eq_true rfl, Nat.le_of_ble_eq_true rfl⟩, M.1.2.2.2.2 _ (by decide +kernel), trivial⟩ rfl hl.1 rfl (Nat.le_of_ble_eq_true rfl) dX1_findLeave_1 ⟨by decide, by decide⟩ (fun r1 u1 H locs hp1 w => ?_)
  obtain ⟨rfl, rfl⟩ := hp1
  refine mi_if_eq hx hb (bt_lt _) 15 dX1_findLeave_4 (by decide) (fun h4 => ?_) (fun h4 => ?_)
  · refine lv_iconst (v := nI 0) hx hb dX1_findLeave_15 (by decide) ?_
    exact mx_iret M w hr (v := (nI 0)) ⟨congrArg nI (show 0 = lvC e p dy by unfold lvC; rw [if_pos (Or.inl (by have z := of_decide_eq_false (bt_f h4); omega))]), rfl⟩ (by decide) (by decide) dX1_findLeave_16
  · refine lv_aload_n hx hb dX1_findLeave_7 rfl (lv_at hl 0 rfl) ?_
    refine lv_iload_n hx hb dX1_findLeave_8 rfl (lv_at hl 1 rfl) ?_
    refine mx_Vi M w (kX1_isSickOn l D cy C ad e H.size p dy hp hC hSp hd) (cwV 1 M.1.2.2.2.2 gX1_findLeave_X1_isSickOn rfl rfl rfl (by decide +kernel) ⟨Nat.le_of_ble_eq_true rfl, Nat.le_of_ble_eq_true rfl⟩) (mo_rec M w (show (PB p) ∈ C from hC 0 (by decide)) (g := G cy ad e) (sh_P0 cy ad (e (PB p)) hp) rfl) rfl hl.1 rfl (Nat.le_of_ble_eq_true rfl) dX1_findLeave_9 ⟨by decide, by decide⟩ (fun r9 u1 H locs hp1 w => ?_)
    obtain ⟨rfl, rfl⟩ := hp1
    refine mi_if_eq hx hb (bt_lt _) 17 dX1_findLeave_12 (by decide) (fun h12 => ?_) (fun h12 => ?_)
    · refine lv_iconst (v := nI 0) hx hb dX1_findLeave_17 (by decide) ?_
      refine lv_istore_n (lv' := [(2, .int (nI 0)), (0, .ref (ad (PB p))), (1, .int (nI dy))]) hx hb dX1_findLeave_18 rfl hl (by decide) rfl (fun ls hl => ?_)
      refine lv_iconst (v := nI 0) hx hb dX1_findLeave_19 (by decide) ?_
      refine lv_istore_n (lv' := [(3, .int (nI 0)), (2, .int (nI 0)), (0, .ref (ad (PB p))), (1, .int (nI dy))]) hx hb dX1_findLeave_20 rfl hl (by decide) rfl (fun ls hl => ?_)
      exact cut21 (e (PB p) 7 - 0 + 1) 0 0 (Nat.zero_le _) rfl (by decide) (of_decide_eq_true (bt_t h4)) (bt_f h12)  (by omega) _ _ w ls (lv_sub hl [2, 3, 1, 0] rfl)
    · refine lv_iconst (v := nI 0) hx hb dX1_findLeave_15 (by decide) ?_
      exact mx_iret M w hr (v := (nI 0)) ⟨congrArg nI (show 0 = lvC e p dy by unfold lvC; rw [if_pos (Or.inr (bt_t h12))]), rfl⟩ (by decide) (by decide) dX1_findLeave_16

set_option maxHeartbeats 4000000 in
set_option maxRecDepth 100000 in
/-- Person.markLeave(first, last) -/
theorem kX1_markLeave (l : Launch) (D : va_G) (cy : Nat → ClassId) (C : List Nat) (ad : Nat → Nat) (e : Nat → Nat → Nat) (sz : Nat) (p f0 t0 nr : Nat) (hp : p < 8) (hC : ∀ k, k < 9 → PB p + k ∈ C) (hSp : PSp e p) (hRq : PRq e p nr) (hRC : ∀ q, q < nr → RB q ∈ C) (hRW : RW e nr) (hft : f0 ≤ t0) (ht : t0 ≤ 3600) : Met l yX1_markLeave wsX1_markLeave ({ frames := 2, cells := 0, slots := 0, locals := 46 } : Room) (PreM D cy (C, ad, G cy ad e) sz [.ref (ad (PB p)), .int (nI f0), .int (nI t0)]) (va_Qv (fun (u : WT) => u = (C, ad, G cy ad (mkC e p f0 (t0 + 1)))) (WB D cy (AW (C, ad, G cy ad e) sz)) (AW (C, ad, G cy ad e) sz)) 0 0 (AW (C, ad, G cy ad e) sz) := by
  refine mx_start (cc := cX1_markLeave) (maxL := 4) (ret := none) (by decide) rfl (Nat.le_of_ble_eq_true rfl) ?_
  intro p9 e9 s m args below meth c hsz hr hnm M w ls hl
  have hx := M.1.1
  have hb := M.1.2.1
  have inX1 : ∀ w ∈ wsX10, w ∈ wsX1_markLeave := by decide +kernel
  have f36 : Cond.fieldLink RX1 36 RX1 "leaveKinds" "[I" ∈ wsX1_markLeave := by decide +kernel
  have k52 : Cond.methodLink RX1 52 Lib.Math.max.name ∈ wsX1_markLeave := by decide +kernel
  have k52a : Cond.static Lib.Math.max.name ∈ wsX1_markLeave := by decide +kernel
  have k52b : Cond.initialized "java/lang/Math" ∈ wsX1_markLeave := by decide +kernel
  have k52c : Cond.code Lib.Math.max.name Lib.Math.max.code 2 (some .int) ∈ wsX1_markLeave := by decide +kernel
  have cut6 : ∀ (n9 : Nat) (i : Nat) (hi : f0 ≤ i) (hi2 : i ≤ t0 + 1) (_hm : 3602 - i < n9) (H : Heap) (locs : List Loc), MO D (AW (C, ad, G cy ad e) sz) s.heap (C, ad, G cy ad (mkC e p f0 i)) H locs → ∀ (ls : Array Slot), lv_has ls 4 [(0, .ref (ad (PB p))), (1, .int (nI f0)), (2, .int (nI t0)), (3, .int (nI i))] → W p9 l e9 ({ frames := 2, cells := 0, slots := 0, locals := 46 } : Room) s m args below meth c H locs 0 0 (MQ below (va_Qv (fun (u : WT) => u = (C, ad, G cy ad (mkC e p f0 (t0 + 1)))) (WB D cy (AW (C, ad, G cy ad e) sz)) (AW (C, ad, G cy ad e) sz)) args s 0 0 (AW (C, ad, G cy ad e) sz)) (F0 m 6 ls []) := by
    intro n9
    induction n9 with
    | zero => intro i hi hi2 _hm; exact absurd _hm (Nat.not_lt_zero _)
    | succ n9 ih =>
      intro i hi hi2 _hm H locs w ls hl
      refine lv_iload_n hx hb dX1_markLeave_6 rfl (lv_at hl 3 rfl) ?_
      refine lv_iload_n hx hb dX1_markLeave_7 rfl (lv_at hl 2 rfl) ?_
      refine mi_gt hx hb (by omega) (by omega) 37 dX1_markLeave_8 (by decide) (fun h8 => ?_) (fun h8 => ?_)
      · exact mx_vret M w hr (by rw [show i = t0 + 1 by omega]) (by decide) (by decide) dX1_markLeave_37
      · refine lv_iload_n hx hb dX1_markLeave_11 rfl (lv_at hl 3 rfl) ?_
        refine lv_aload_n hx hb dX1_markLeave_12 rfl (lv_at hl 0 rfl) ?_
        refine ex_get M w (show (PB p) ∈ C from hC 0 (by decide)) (sh_P0 cy ad ((mkC e p f0 i) (PB p)) hp) rfl inX1 14 (by decide) f36 rfl dX1_markLeave_13 ?_
        refine mx_alen M w (hC 8 (by decide)) 0 (g := G cy ad (mkC e p f0 i)) (sh_P8 cy ad _ hp) rfl (n := 3601) rfl dX1_markLeave_16 ?_
        refine mi_ge hx hb (by omega) (by decide) 37 dX1_markLeave_17 (by decide) (fun h17 => absurd h17 (by first | decide | omega)) (fun h17 => ?_)
        refine lv_aload_n hx hb dX1_markLeave_20 rfl (lv_at hl 0 rfl) ?_
        refine ex_get M w (show (PB p) ∈ C from hC 0 (by decide)) (sh_P0 cy ad ((mkC e p f0 i) (PB p)) hp) rfl inX1 14 (by decide) f36 rfl dX1_markLeave_21 ?_
        refine lv_iload_n hx hb dX1_markLeave_24 rfl (lv_at hl 3 rfl) ?_
        refine lv_aload_n hx hb dX1_markLeave_25 rfl (lv_at hl 0 rfl) ?_
        refine lv_iload_n hx hb dX1_markLeave_26 rfl (lv_at hl 3 rfl) ?_
        refine mx_Vi M w (kX1_findLeave l D cy C ad (mkC e p f0 i) H.size p i nr hp hC (hSp.eq (mkC_P e p f0 i)) (hRq.eq (mkC_P e p f0 i)) hRC (hRW.eq (mkC_R e hp f0 i)) (by omega)) (cwV 1 M.1.2.2.2.2 gX1_markLeave_X1_findLeave rfl rfl rfl (by decide +kernel) ⟨Nat.le_of_ble_eq_true rfl, Nat.le_of_ble_eq_true rfl⟩) (mo_rec M w (show (PB p) ∈ C from hC 0 (by decide)) (g := G cy ad (mkC e p f0 i)) (sh_P0 cy ad ((mkC e p f0 i) (PB p)) hp) rfl) rfl hl.1 rfl (Nat.le_of_ble_eq_true rfl) dX1_markLeave_27 ⟨by decide, by decide⟩ (fun r27 u1 H locs hp1 w => ?_)
        obtain ⟨rfl, rfl⟩ := hp1
        refine ex_iast M w (hC 8 (by decide)) (fun v => sh_P8 cy ad v hp) (v := (lvC (mkC e p f0 i) p i)) (by omega) (by decide) dX1_markLeave_30 (fun H locs w => ?_)
        refine lv_iinc (v := nI (i + 1)) (lv' := [(3, .int (nI (i + 1))), (0, .ref (ad (PB p))), (1, .int (nI f0)), (2, .int (nI t0))]) hx hb dX1_markLeave_31 hl (k := 3) rfl (nI_inc _ 1) (by decide) rfl (fun ls hl => ?_)
        refine lv_goto (tgt := 6) hx hb dX1_markLeave_34 (by decide) ?_
        exact ih (i + 1) (by omega) (by omega)  (by omega) _ _ (by rw [lvC_eq (mkC_P e p f0 i) (mkC_R e hp f0 i), mkC_s e p hi] at w; exact w) ls (lv_sub hl [1, 2, 3, 0] rfl)
  have hl : lv_has ls 4 [(0, .ref (ad (PB p))), (1, .int (nI f0)), (2, .int (nI t0))] := hl
  refine lv_iload_n hx hb dX1_markLeave_0 rfl (lv_at hl 1 rfl) ?_
  refine lv_iconst (v := nI 0) hx hb dX1_markLeave_1 (by decide) ?_
  refine mi_max M hl.1 k52 k52a k52b k52c (by decide) (Nat.le_of_ble_eq_true rfl) (by decide) (by decide) (by omega) (by decide) dX1_markLeave_2 ?_
  refine W.eq (congrArg (fun z => F0 m 5 ls (.int (nI z) :: [])) (Nat.max_eq_left (Nat.zero_le f0))) ?_
  refine lv_istore_n (lv' := [(3, .int (nI f0)), (0, .ref (ad (PB p))), (1, .int (nI f0)), (2, .int (nI t0))]) hx hb dX1_markLeave_5 rfl hl (by decide) rfl (fun ls hl => ?_)
  exact cut6 (3602 - f0 + 1) f0 (Nat.le_refl _) (by omega)  (by omega) _ _ (by rw [mkC_0]; exact w) ls (lv_sub hl [1, 2, 3, 0] rfl)

set_option maxHeartbeats 4000000 in
set_option maxRecDepth 100000 in
/-- Person.enterHours(day, hours) -/
theorem kX1_enterHours (l : Launch) (D : va_G) (cy : Nat → ClassId) (C : List Nat) (ad : Nat → Nat) (e : Nat → Nat → Nat) (sz : Nat) (p dy hh : Nat) (hp : p < 8) (hC : ∀ k, k < 9 → PB p + k ∈ C) (hCh : PCh e p) (hd : dy ≤ 3600) : Met l yX1_enterHours wsX1_enterHours ({ frames := 1, cells := 0, slots := 0, locals := 14 } : Room) (PreM D cy (C, ad, G cy ad e) sz [.ref (ad (PB p)), .int (nI dy), .int (nI hh)]) (va_Qi (fun (r : Int32) (u : WT) => r = nI (if (fiN (e (PB p + 1)) dy (e (PB p) 5)) < 10 then 1 else 0) ∧ u = (C, ad, G cy ad (if (fiN (e (PB p + 1)) dy (e (PB p) 5)) < 10 then ehC e p dy hh else e))) (WB D cy (AW (C, ad, G cy ad e) sz)) (AW (C, ad, G cy ad e) sz)) 0 0 (AW (C, ad, G cy ad e) sz) := by
  refine mx_start (cc := cX1_enterHours) (maxL := 4) (ret := (some .boolean)) (by decide) rfl (Nat.le_of_ble_eq_true rfl) ?_
  intro p9 e9 s m args below meth c hsz hr hnm M w ls hl
  have hx := M.1.1
  have hb := M.1.2.1
  have inX1 : ∀ w ∈ wsX10, w ∈ wsX1_enterHours := by decide +kernel
  have f9 : Cond.fieldLink RX1 9 RX1 "changeDays" "[I" ∈ wsX1_enterHours := by decide +kernel
  have f15 : Cond.fieldLink RX1 15 RX1 "changeHours" "[I" ∈ wsX1_enterHours := by decide +kernel
  have f49 : Cond.fieldLink RX1 49 RX1 "changeCount" "I" ∈ wsX1_enterHours := by decide +kernel
  have k52 : Cond.methodLink RX1 52 Lib.Math.max.name ∈ wsX1_enterHours := by decide +kernel
  have k52a : Cond.static Lib.Math.max.name ∈ wsX1_enterHours := by decide +kernel
  have k52b : Cond.initialized "java/lang/Math" ∈ wsX1_enterHours := by decide +kernel
  have k52c : Cond.code Lib.Math.max.name Lib.Math.max.code 2 (some .int) ∈ wsX1_enterHours := by decide +kernel
  obtain ⟨hs1, hs2⟩ := hCh
  have cut26 : ∀ (i : Nat) (hi : i ≤ e (PB p) 5) (hf : (fiN (e (PB p + 1)) dy (e (PB p) 5)) = i) (H : Heap) (locs : List Loc), MO D (AW (C, ad, G cy ad e) sz) s.heap (C, ad, G cy ad e) H locs → ∀ (ls : Array Slot), lv_has ls 4 [(0, .ref (ad (PB p))), (1, .int (nI dy)), (2, .int (nI hh)), (3, .int (nI i))] → W p9 l e9 ({ frames := 1, cells := 0, slots := 0, locals := 14 } : Room) s m args below meth c H locs 0 0 (MQ below (va_Qi (fun (r : Int32) (u : WT) => r = nI (if (fiN (e (PB p + 1)) dy (e (PB p) 5)) < 10 then 1 else 0) ∧ u = (C, ad, G cy ad (if (fiN (e (PB p + 1)) dy (e (PB p) 5)) < 10 then ehC e p dy hh else e))) (WB D cy (AW (C, ad, G cy ad e) sz)) (AW (C, ad, G cy ad e) sz)) args s 0 0 (AW (C, ad, G cy ad e) sz)) (F0 m 26 ls []) := by
    intro i hi hf H locs w ls hl
    refine lv_iload_n hx hb dX1_enterHours_26 rfl (lv_at hl 3 rfl) ?_
    refine lv_aload_n hx hb dX1_enterHours_27 rfl (lv_at hl 0 rfl) ?_
    refine ex_get M w (show (PB p) ∈ C from hC 0 (by decide)) (sh_P0 cy ad (e (PB p)) hp) rfl inX1 3 (by decide) f9 rfl dX1_enterHours_28 ?_
    refine mx_alen M w (hC 1 (by decide)) 0 (g := G cy ad e) (sh_P1 cy ad _ hp) rfl (n := 10) rfl dX1_enterHours_31 ?_
    refine mi_lt hx hb (by omega) (by decide) 37 dX1_enterHours_32 (by decide) (fun h32 => ?_) (fun h32 => ?_)
    · refine lv_aload_n hx hb dX1_enterHours_37 rfl (lv_at hl 0 rfl) ?_
      refine ex_get M w (show (PB p) ∈ C from hC 0 (by decide)) (sh_P0 cy ad (e (PB p)) hp) rfl inX1 3 (by decide) f9 rfl dX1_enterHours_38 ?_
      refine lv_iload_n hx hb dX1_enterHours_41 rfl (lv_at hl 3 rfl) ?_
      refine lv_iload_n hx hb dX1_enterHours_42 rfl (lv_at hl 1 rfl) ?_
      refine ex_iast M w (hC 1 (by decide)) (fun v => sh_P1 cy ad v hp) (v := dy) (by omega) (by decide) dX1_enterHours_43 (fun H locs w => ?_)
      refine lv_aload_n hx hb dX1_enterHours_44 rfl (lv_at hl 0 rfl) ?_
      refine ex_get M w (show (PB p) ∈ C from hC 0 (by decide)) (sh_P0 cy ad ((es e (PB p + 1) i dy) (PB p)) hp) rfl inX1 4 (by decide) f15 rfl dX1_enterHours_45 ?_
      refine lv_iload_n hx hb dX1_enterHours_48 rfl (lv_at hl 3 rfl) ?_
      refine lv_iload_n hx hb dX1_enterHours_49 rfl (lv_at hl 2 rfl) ?_
      refine ex_iast M w (hC 2 (by decide)) (fun v => sh_P2 cy ad v hp) (v := hh) (by omega) (by decide) dX1_enterHours_50 (fun H locs w => ?_)
      refine lv_aload_n hx hb dX1_enterHours_51 rfl (lv_at hl 0 rfl) ?_
      refine lv_aload_n hx hb dX1_enterHours_52 rfl (lv_at hl 0 rfl) ?_
      refine ex_get M w (show (PB p) ∈ C from hC 0 (by decide)) (sh_P0 cy ad ((es (es e (PB p + 1) i dy) (PB p + 2) i hh) (PB p)) hp) rfl inX1 5 (by decide) f49 (congrArg (fun z => some (Value.int (nI z))) ((es_ne _ _ (by first | omega | (unfold PB; omega) | (unfold RB; omega) | (unfold PB RB; omega))).trans (es_ne _ _ (by first | omega | (unfold PB; omega) | (unfold RB; omega) | (unfold PB RB; omega))))) dX1_enterHours_53 ?_
      refine lv_iload_n hx hb dX1_enterHours_56 rfl (lv_at hl 3 rfl) ?_
      refine lv_iconst (v := nI 1) hx hb dX1_enterHours_57 (by decide) ?_
      refine mi_add hx hb dX1_enterHours_58 ?_
      refine mi_max M hl.1 k52 k52a k52b k52c (by decide) (Nat.le_of_ble_eq_true rfl) (by decide) (by decide) (by omega) (by omega) dX1_enterHours_59 ?_
      refine ex_put M w (show (PB p) ∈ C from hC 0 (by decide)) (sh_P0 cy ad ((es (es e (PB p + 1) i dy) (PB p + 2) i hh) (PB p)) hp) rfl inX1 tyX1 tyX1_ok nmX1 5 (by decide) f49 rfl (v := (max (e (PB p) 5) (i + 1))) rfl rfl (Nat.le_of_ble_eq_true rfl) (sh_P0 cy ad _ hp) dX1_enterHours_62 (fun H locs w => ?_)
      refine lv_iconst (v := nI 1) hx hb dX1_enterHours_65 (by decide) ?_
      exact mx_zret M w hr (v := (nI 1)) (by first | exact Or.inl rfl | exact Or.inr rfl) ⟨by rw [if_pos (by omega)], by rw [if_pos (by omega)]; unfold ehC; rw [hf]⟩ (by decide) (by decide) dX1_enterHours_66
    · refine lv_iconst (v := nI 0) hx hb dX1_enterHours_35 (by decide) ?_
      exact mx_zret M w hr (v := (nI 0)) (by first | exact Or.inl rfl | exact Or.inr rfl) ⟨by rw [if_neg (by omega)], by rw [if_neg (by omega)]⟩ (by decide) (by decide) dX1_enterHours_36
  have cut2 : ∀ (n9 : Nat) (i : Nat) (hi : i ≤ e (PB p) 5) (hno : ∀ k, k < i → e (PB p + 1) k ≠ dy) (_hm : e (PB p) 5 - i < n9) (H : Heap) (locs : List Loc), MO D (AW (C, ad, G cy ad e) sz) s.heap (C, ad, G cy ad e) H locs → ∀ (ls : Array Slot), lv_has ls 4 [(0, .ref (ad (PB p))), (1, .int (nI dy)), (2, .int (nI hh)), (3, .int (nI i))] → W p9 l e9 ({ frames := 1, cells := 0, slots := 0, locals := 14 } : Room) s m args below meth c H locs 0 0 (MQ below (va_Qi (fun (r : Int32) (u : WT) => r = nI (if (fiN (e (PB p + 1)) dy (e (PB p) 5)) < 10 then 1 else 0) ∧ u = (C, ad, G cy ad (if (fiN (e (PB p + 1)) dy (e (PB p) 5)) < 10 then ehC e p dy hh else e))) (WB D cy (AW (C, ad, G cy ad e) sz)) (AW (C, ad, G cy ad e) sz)) args s 0 0 (AW (C, ad, G cy ad e) sz)) (F0 m 2 ls []) := by
    intro n9
    induction n9 with
    | zero => intro i hi hno _hm; exact absurd _hm (Nat.not_lt_zero _)
    | succ n9 ih =>
      intro i hi hno _hm H locs w ls hl
      refine lv_iload_n hx hb dX1_enterHours_2 rfl (lv_at hl 3 rfl) ?_
      refine lv_aload_n hx hb dX1_enterHours_3 rfl (lv_at hl 0 rfl) ?_
      refine ex_get M w (show (PB p) ∈ C from hC 0 (by decide)) (sh_P0 cy ad (e (PB p)) hp) rfl inX1 5 (by decide) f49 rfl dX1_enterHours_4 ?_
      refine mi_ge hx hb (by omega) (by omega) 26 dX1_enterHours_7 (by decide) (fun h7 => ?_) (fun h7 => ?_)
      · exact cut26 i (by omega) ((fiN_none (fun k hk => hno k (by omega))).trans (by omega))  _ _ w ls (lv_sub hl [0, 1, 2, 3] rfl)
      · have q1 := hs2 i h7
        refine lv_aload_n hx hb dX1_enterHours_10 rfl (lv_at hl 0 rfl) ?_
        refine ex_get M w (show (PB p) ∈ C from hC 0 (by decide)) (sh_P0 cy ad (e (PB p)) hp) rfl inX1 3 (by decide) f9 rfl dX1_enterHours_11 ?_
        refine lv_iload_n hx hb dX1_enterHours_14 rfl (lv_at hl 3 rfl) ?_
        refine ex_iald M w (hC 1 (by decide)) (fun v => sh_P1 cy ad v hp) (by omega) (by decide) rfl dX1_enterHours_15 ?_
        refine lv_iload_n hx hb dX1_enterHours_16 rfl (lv_at hl 1 rfl) ?_
        refine mi_eq hx hb (by omega) (by omega) 26 dX1_enterHours_17 (by decide) (fun h17 => ?_) (fun h17 => ?_)
        · exact cut26 i (by omega) (fiN_at h7 hno h17)  _ _ w ls (lv_sub hl [0, 1, 2, 3] rfl)
        · refine lv_iinc (v := nI (i + 1)) (lv' := [(3, .int (nI (i + 1))), (0, .ref (ad (PB p))), (1, .int (nI dy)), (2, .int (nI hh))]) hx hb dX1_enterHours_20 hl (k := 3) rfl (nI_inc _ 1) (by decide) rfl (fun ls hl => ?_)
          refine lv_goto (tgt := 2) hx hb dX1_enterHours_23 (by decide) ?_
          exact ih (i + 1) (by omega) (fun k hk => by rcases Nat.lt_or_ge k i with z | z; exact hno k z; rw [show k = i by omega]; exact h17)  (by omega) _ _ w ls (lv_sub hl [1, 2, 3, 0] rfl)
  have hl : lv_has ls 4 [(0, .ref (ad (PB p))), (1, .int (nI dy)), (2, .int (nI hh))] := hl
  refine lv_iconst (v := nI 0) hx hb dX1_enterHours_0 (by decide) ?_
  refine lv_istore_n (lv' := [(3, .int (nI 0)), (0, .ref (ad (PB p))), (1, .int (nI dy)), (2, .int (nI hh))]) hx hb dX1_enterHours_1 rfl hl (by decide) rfl (fun ls hl => ?_)
  exact cut2 (e (PB p) 5 - 0 + 1) 0 (Nat.zero_le _) (fun k hk => absurd hk (Nat.not_lt_zero k))  (by omega) _ _ w ls (lv_sub hl [1, 2, 3, 0] rfl)

set_option maxHeartbeats 4000000 in
set_option maxRecDepth 100000 in
/-- Person.enterRequest(entered) -/
theorem kX1_enterRequest (l : Launch) (D : va_G) (cy : Nat → ClassId) (C : List Nat) (ad : Nat → Nat) (e : Nat → Nat → Nat) (sz : Nat) (p q nr : Nat) (hp : p < 8) (hC : ∀ k, k < 9 → PB p + k ∈ C) (hSp : PSp e p) (hRq : PRq e p nr) (hRC : ∀ q, q < nr → RB q ∈ C) (hRW : RW e nr) (hq : q < nr) (hn : e (PB p) 7 < 40) (hft : e (RB q) 2 ≤ e (RB q) 3) : Met l yX1_enterRequest wsX1_enterRequest ({ frames := 3, cells := 0, slots := 0, locals := 69 } : Room) (PreM D cy (C, ad, G cy ad e) sz [.ref (ad (PB p)), .ref (ad (RB q))]) (va_Qv (fun (u : WT) => u = (C, ad, G cy ad (erC e p q))) (WB D cy (AW (C, ad, G cy ad e) sz)) (AW (C, ad, G cy ad e) sz)) 0 0 (AW (C, ad, G cy ad e) sz) := by
  refine mx_start (cc := cX1_enterRequest) (maxL := 2) (ret := none) (by decide) rfl (Nat.le_of_ble_eq_true rfl) ?_
  intro p9 e9 s m args below meth c hsz hr hnm M w ls hl
  have hx := M.1.1
  have hb := M.1.2.1
  have inX1 : ∀ w ∈ wsX10, w ∈ wsX1_enterRequest := by decide +kernel
  have inX2 : ∀ w ∈ wsX20, w ∈ wsX1_enterRequest := by decide +kernel
  have f20 : Cond.fieldLink RX1 20 RX1 "ownRequests" "[LLeavebank$Request;" ∈ wsX1_enterRequest := by decide +kernel
  have f58 : Cond.fieldLink RX1 58 RX1 "ownRequestCount" "I" ∈ wsX1_enterRequest := by decide +kernel
  have f61 : Cond.fieldLink RX1 61 RX2 "firstDay" "I" ∈ wsX1_enterRequest := by decide +kernel
  have f62 : Cond.fieldLink RX1 62 RX2 "lastDay" "I" ∈ wsX1_enterRequest := by decide +kernel
  have hqw := hRW q hq
  have hl : lv_has ls 2 [(0, .ref (ad (PB p))), (1, .ref (ad (RB q)))] := hl
  refine lv_aload_n hx hb dX1_enterRequest_0 rfl (lv_at hl 0 rfl) ?_
  refine ex_get M w (show (PB p) ∈ C from hC 0 (by decide)) (sh_P0 cy ad (e (PB p)) hp) rfl inX1 7 (by decide) f58 rfl dX1_enterRequest_1 ?_
  refine lv_aload_n hx hb dX1_enterRequest_4 rfl (lv_at hl 0 rfl) ?_
  refine ex_get M w (show (PB p) ∈ C from hC 0 (by decide)) (sh_P0 cy ad (e (PB p)) hp) rfl inX1 6 (by decide) f20 rfl dX1_enterRequest_5 ?_
  refine mx_alen M w (hC 3 (by decide)) 3 (g := G cy ad e) (sh_P3 cy ad _ hp) rfl (n := 40) rfl dX1_enterRequest_8 ?_
  refine mi_ge hx hb (by omega) (by decide) 44 dX1_enterRequest_9 (by decide) (fun h9 => absurd h9 (by first | decide | omega)) (fun h9 => ?_)
  refine lv_aload_n hx hb dX1_enterRequest_12 rfl (lv_at hl 0 rfl) ?_
  refine ex_get M w (show (PB p) ∈ C from hC 0 (by decide)) (sh_P0 cy ad (e (PB p)) hp) rfl inX1 6 (by decide) f20 rfl dX1_enterRequest_13 ?_
  refine lv_aload_n hx hb dX1_enterRequest_16 rfl (lv_at hl 0 rfl) ?_
  refine ex_get M w (show (PB p) ∈ C from hC 0 (by decide)) (sh_P0 cy ad (e (PB p)) hp) rfl inX1 7 (by decide) f58 rfl dX1_enterRequest_17 ?_
  refine lv_aload_n hx hb dX1_enterRequest_20 rfl (lv_at hl 1 rfl) ?_
  refine ex_astR M w (hC 3 (by decide)) (fun v => sh_P3 cy ad v hp) (q := q) (hRC q hq) (by omega) (by decide) dX1_enterRequest_21 (fun H locs w => ?_)
  refine lv_aload_n hx hb dX1_enterRequest_22 rfl (lv_at hl 0 rfl) ?_
  refine lv_dup hx hb dX1_enterRequest_23 rfl ?_
  refine ex_get M w (show (PB p) ∈ C from hC 0 (by decide)) (sh_P0 cy ad ((es e (PB p + 3) (e (PB p) 7) (q + 1)) (PB p)) hp) rfl inX1 7 (by decide) f58 (congrArg (fun z => some (Value.int (nI z))) (es_ne _ _ (by first | omega | (unfold PB; omega) | (unfold RB; omega) | (unfold PB RB; omega)))) dX1_enterRequest_24 ?_
  refine lv_iconst (v := nI 1) hx hb dX1_enterRequest_27 (by decide) ?_
  refine mi_add hx hb dX1_enterRequest_28 ?_
  refine ex_put M w (show (PB p) ∈ C from hC 0 (by decide)) (sh_P0 cy ad ((es e (PB p + 3) (e (PB p) 7) (q + 1)) (PB p)) hp) rfl inX1 tyX1 tyX1_ok nmX1 7 (by decide) f58 rfl (v := ((e (PB p) 7) + 1)) rfl rfl (Nat.le_of_ble_eq_true rfl) (sh_P0 cy ad _ hp) dX1_enterRequest_29 (fun H locs w => ?_)
  refine lv_aload_n hx hb dX1_enterRequest_32 rfl (lv_at hl 0 rfl) ?_
  refine lv_aload_n hx hb dX1_enterRequest_33 rfl (lv_at hl 1 rfl) ?_
  refine ex_get M w (hRC q hq) (sh_RB cy ad q ((es (es e (PB p + 3) (e (PB p) 7) (q + 1)) (PB p) 7 ((e (PB p) 7) + 1)) (RB q))) rfl inX2 2 (by decide) f61 (congrArg (fun z => some (Value.int (nI z))) ((es_ne _ _ (by first | omega | (unfold PB; omega) | (unfold RB; omega) | (unfold PB RB; omega))).trans (es_ne _ _ (by first | omega | (unfold PB; omega) | (unfold RB; omega) | (unfold PB RB; omega))))) dX1_enterRequest_34 ?_
  refine lv_aload_n hx hb dX1_enterRequest_37 rfl (lv_at hl 1 rfl) ?_
  refine ex_get M w (hRC q hq) (sh_RB cy ad q ((es (es e (PB p + 3) (e (PB p) 7) (q + 1)) (PB p) 7 ((e (PB p) 7) + 1)) (RB q))) rfl inX2 3 (by decide) f62 (congrArg (fun z => some (Value.int (nI z))) ((es_ne _ _ (by first | omega | (unfold PB; omega) | (unfold RB; omega) | (unfold PB RB; omega))).trans (es_ne _ _ (by first | omega | (unfold PB; omega) | (unfold RB; omega) | (unfold PB RB; omega))))) dX1_enterRequest_38 ?_
  refine mx_Vv M w (kX1_markLeave l D cy C ad (es (es e (PB p + 3) (e (PB p) 7) (q + 1)) (PB p) 7 ((e (PB p) 7) + 1)) H.size p (e (RB q) 2) (e (RB q) 3) nr hp hC (erC0_Sp q hSp) (erC0_Rq hRq hq hn) hRC (hRW.eq (erC0_R e hp q)) hft hqw.2.2.1) (cwV 2 M.1.2.2.2.2 gX1_enterRequest_X1_markLeave rfl rfl rfl (by decide +kernel) ⟨Nat.le_of_ble_eq_true rfl, Nat.le_of_ble_eq_true rfl⟩) (mo_rec M w (show (PB p) ∈ C from hC 0 (by decide)) (g := G cy ad (es (es e (PB p + 3) (e (PB p) 7) (q + 1)) (PB p) 7 ((e (PB p) 7) + 1))) (sh_P0 cy ad ((es (es e (PB p + 3) (e (PB p) 7) (q + 1)) (PB p) 7 ((e (PB p) 7) + 1)) (PB p)) hp) rfl) rfl hl.1 rfl (Nat.le_of_ble_eq_true rfl) dX1_enterRequest_41 ⟨by decide, by decide⟩ (fun u1 H locs hp1 w => ?_)
  obtain rfl := hp1
  exact mx_vret M w hr rfl (by decide) (by decide) dX1_enterRequest_44

set_option maxHeartbeats 4000000 in
set_option maxRecDepth 100000 in
/-- Person.enterSpell(first, last) -/
theorem kX1_enterSpell (l : Launch) (D : va_G) (cy : Nat → ClassId) (C : List Nat) (ad : Nat → Nat) (e : Nat → Nat → Nat) (sz : Nat) (p f0 t0 nr : Nat) (hp : p < 8) (hC : ∀ k, k < 9 → PB p + k ∈ C) (hSp : PSp e p) (hRq : PRq e p nr) (hRC : ∀ q, q < nr → RB q ∈ C) (hRW : RW e nr) (hn : e (PB p) 10 < 30) (hft : f0 ≤ t0) (ht : t0 ≤ 3600) : Met l yX1_enterSpell wsX1_enterSpell ({ frames := 3, cells := 0, slots := 0, locals := 69 } : Room) (PreM D cy (C, ad, G cy ad e) sz [.ref (ad (PB p)), .int (nI f0), .int (nI t0)]) (va_Qv (fun (u : WT) => u = (C, ad, G cy ad (esC e p f0 t0))) (WB D cy (AW (C, ad, G cy ad e) sz)) (AW (C, ad, G cy ad e) sz)) 0 0 (AW (C, ad, G cy ad e) sz) := by
  refine mx_start (cc := cX1_enterSpell) (maxL := 3) (ret := none) (by decide) rfl (Nat.le_of_ble_eq_true rfl) ?_
  intro p9 e9 s m args below meth c hsz hr hnm M w ls hl
  have hx := M.1.1
  have hb := M.1.2.1
  have inX1 : ∀ w ∈ wsX10, w ∈ wsX1_enterSpell := by decide +kernel
  have f24 : Cond.fieldLink RX1 24 RX1 "spellFirsts" "[I" ∈ wsX1_enterSpell := by decide +kernel
  have f27 : Cond.fieldLink RX1 27 RX1 "spellLasts" "[I" ∈ wsX1_enterSpell := by decide +kernel
  have f69 : Cond.fieldLink RX1 69 RX1 "ownSpellCount" "I" ∈ wsX1_enterSpell := by decide +kernel
  have hl : lv_has ls 3 [(0, .ref (ad (PB p))), (1, .int (nI f0)), (2, .int (nI t0))] := hl
  refine lv_aload_n hx hb dX1_enterSpell_0 rfl (lv_at hl 0 rfl) ?_
  refine ex_get M w (show (PB p) ∈ C from hC 0 (by decide)) (sh_P0 cy ad (e (PB p)) hp) rfl inX1 10 (by decide) f69 rfl dX1_enterSpell_1 ?_
  refine lv_aload_n hx hb dX1_enterSpell_4 rfl (lv_at hl 0 rfl) ?_
  refine ex_get M w (show (PB p) ∈ C from hC 0 (by decide)) (sh_P0 cy ad (e (PB p)) hp) rfl inX1 8 (by decide) f24 rfl dX1_enterSpell_5 ?_
  refine mx_alen M w (hC 4 (by decide)) 0 (g := G cy ad e) (sh_P4 cy ad _ hp) rfl (n := 30) rfl dX1_enterSpell_8 ?_
  refine mi_ge hx hb (by omega) (by decide) 48 dX1_enterSpell_9 (by decide) (fun h9 => absurd h9 (by first | decide | omega)) (fun h9 => ?_)
  refine lv_aload_n hx hb dX1_enterSpell_12 rfl (lv_at hl 0 rfl) ?_
  refine ex_get M w (show (PB p) ∈ C from hC 0 (by decide)) (sh_P0 cy ad (e (PB p)) hp) rfl inX1 8 (by decide) f24 rfl dX1_enterSpell_13 ?_
  refine lv_aload_n hx hb dX1_enterSpell_16 rfl (lv_at hl 0 rfl) ?_
  refine ex_get M w (show (PB p) ∈ C from hC 0 (by decide)) (sh_P0 cy ad (e (PB p)) hp) rfl inX1 10 (by decide) f69 rfl dX1_enterSpell_17 ?_
  refine lv_iload_n hx hb dX1_enterSpell_20 rfl (lv_at hl 1 rfl) ?_
  refine ex_iast M w (hC 4 (by decide)) (fun v => sh_P4 cy ad v hp) (v := f0) (by omega) (by decide) dX1_enterSpell_21 (fun H locs w => ?_)
  refine lv_aload_n hx hb dX1_enterSpell_22 rfl (lv_at hl 0 rfl) ?_
  refine ex_get M w (show (PB p) ∈ C from hC 0 (by decide)) (sh_P0 cy ad ((es e (PB p + 4) (e (PB p) 10) f0) (PB p)) hp) rfl inX1 9 (by decide) f27 rfl dX1_enterSpell_23 ?_
  refine lv_aload_n hx hb dX1_enterSpell_26 rfl (lv_at hl 0 rfl) ?_
  refine ex_get M w (show (PB p) ∈ C from hC 0 (by decide)) (sh_P0 cy ad ((es e (PB p + 4) (e (PB p) 10) f0) (PB p)) hp) rfl inX1 10 (by decide) f69 (congrArg (fun z => some (Value.int (nI z))) (es_ne _ _ (by first | omega | (unfold PB; omega) | (unfold RB; omega) | (unfold PB RB; omega)))) dX1_enterSpell_27 ?_
  refine lv_iload_n hx hb dX1_enterSpell_30 rfl (lv_at hl 2 rfl) ?_
  refine ex_iast M w (hC 5 (by decide)) (fun v => sh_P5 cy ad v hp) (v := t0) (by omega) (by decide) dX1_enterSpell_31 (fun H locs w => ?_)
  refine lv_aload_n hx hb dX1_enterSpell_32 rfl (lv_at hl 0 rfl) ?_
  refine lv_dup hx hb dX1_enterSpell_33 rfl ?_
  refine ex_get M w (show (PB p) ∈ C from hC 0 (by decide)) (sh_P0 cy ad ((es (es e (PB p + 4) (e (PB p) 10) f0) (PB p + 5) (e (PB p) 10) t0) (PB p)) hp) rfl inX1 10 (by decide) f69 (congrArg (fun z => some (Value.int (nI z))) ((es_ne _ _ (by first | omega | (unfold PB; omega) | (unfold RB; omega) | (unfold PB RB; omega))).trans (es_ne _ _ (by first | omega | (unfold PB; omega) | (unfold RB; omega) | (unfold PB RB; omega))))) dX1_enterSpell_34 ?_
  refine lv_iconst (v := nI 1) hx hb dX1_enterSpell_37 (by decide) ?_
  refine mi_add hx hb dX1_enterSpell_38 ?_
  refine ex_put M w (show (PB p) ∈ C from hC 0 (by decide)) (sh_P0 cy ad ((es (es e (PB p + 4) (e (PB p) 10) f0) (PB p + 5) (e (PB p) 10) t0) (PB p)) hp) rfl inX1 tyX1 tyX1_ok nmX1 10 (by decide) f69 rfl (v := ((e (PB p) 10) + 1)) rfl rfl (Nat.le_of_ble_eq_true rfl) (sh_P0 cy ad _ hp) dX1_enterSpell_39 (fun H locs w => ?_)
  refine lv_aload_n hx hb dX1_enterSpell_42 rfl (lv_at hl 0 rfl) ?_
  refine lv_iload_n hx hb dX1_enterSpell_43 rfl (lv_at hl 1 rfl) ?_
  refine lv_iload_n hx hb dX1_enterSpell_44 rfl (lv_at hl 2 rfl) ?_
  refine mx_Vv M w (kX1_markLeave l D cy C ad (es (es (es e (PB p + 4) (e (PB p) 10) f0) (PB p + 5) (e (PB p) 10) t0) (PB p) 10 ((e (PB p) 10) + 1)) H.size p f0 t0 nr hp hC (esC0_Sp hSp hn (by omega) ht) (esC0_Rq f0 t0 hRq) hRC (hRW.eq (esC0_R e hp f0 t0)) hft ht) (cwV 2 M.1.2.2.2.2 gX1_enterSpell_X1_markLeave rfl rfl rfl (by decide +kernel) ⟨Nat.le_of_ble_eq_true rfl, Nat.le_of_ble_eq_true rfl⟩) (mo_rec M w (show (PB p) ∈ C from hC 0 (by decide)) (g := G cy ad (es (es (es e (PB p + 4) (e (PB p) 10) f0) (PB p + 5) (e (PB p) 10) t0) (PB p) 10 ((e (PB p) 10) + 1))) (sh_P0 cy ad ((es (es (es e (PB p + 4) (e (PB p) 10) f0) (PB p + 5) (e (PB p) 10) t0) (PB p) 10 ((e (PB p) 10) + 1)) (PB p)) hp) rfl) rfl hl.1 rfl (Nat.le_of_ble_eq_true rfl) dX1_enterSpell_45 ⟨by decide, by decide⟩ (fun u1 H locs hp1 w => ?_)
  obtain rfl := hp1
  exact mx_vret M w hr rfl (by decide) (by decide) dX1_enterSpell_48

set_option maxHeartbeats 4000000 in
set_option maxRecDepth 100000 in
/-- Person.enterPayout(day, points) -/
theorem kX1_enterPayout (l : Launch) (D : va_G) (cy : Nat → ClassId) (C : List Nat) (ad : Nat → Nat) (e : Nat → Nat → Nat) (sz : Nat) (p dy pts : Nat) (hp : p < 8) (hC : ∀ k, k < 9 → PB p + k ∈ C) (hn : e (PB p) 13 < 20) : Met l yX1_enterPayout wsX1_enterPayout ({ frames := 0, cells := 0, slots := 0, locals := 0 } : Room) (PreM D cy (C, ad, G cy ad e) sz [.ref (ad (PB p)), .int (nI dy), .int (nI pts)]) (va_Qv (fun (u : WT) => u = (C, ad, G cy ad (epC e p dy pts))) (WB D cy (AW (C, ad, G cy ad e) sz)) (AW (C, ad, G cy ad e) sz)) 0 0 (AW (C, ad, G cy ad e) sz) := by
  refine mx_start (cc := cX1_enterPayout) (maxL := 3) (ret := none) (by decide) rfl (Nat.le_of_ble_eq_true rfl) ?_
  intro p9 e9 s m args below meth c hsz hr hnm M w ls hl
  have hx := M.1.1
  have hb := M.1.2.1
  have inX1 : ∀ w ∈ wsX10, w ∈ wsX1_enterPayout := by decide +kernel
  have f30 : Cond.fieldLink RX1 30 RX1 "payoutDays" "[I" ∈ wsX1_enterPayout := by decide +kernel
  have f33 : Cond.fieldLink RX1 33 RX1 "payoutPoints" "[I" ∈ wsX1_enterPayout := by decide +kernel
  have f72 : Cond.fieldLink RX1 72 RX1 "ownPayoutCount" "I" ∈ wsX1_enterPayout := by decide +kernel
  have hl : lv_has ls 3 [(0, .ref (ad (PB p))), (1, .int (nI dy)), (2, .int (nI pts))] := hl
  refine lv_aload_n hx hb dX1_enterPayout_0 rfl (lv_at hl 0 rfl) ?_
  refine ex_get M w (show (PB p) ∈ C from hC 0 (by decide)) (sh_P0 cy ad (e (PB p)) hp) rfl inX1 13 (by decide) f72 rfl dX1_enterPayout_1 ?_
  refine lv_aload_n hx hb dX1_enterPayout_4 rfl (lv_at hl 0 rfl) ?_
  refine ex_get M w (show (PB p) ∈ C from hC 0 (by decide)) (sh_P0 cy ad (e (PB p)) hp) rfl inX1 11 (by decide) f30 rfl dX1_enterPayout_5 ?_
  refine mx_alen M w (hC 6 (by decide)) 0 (g := G cy ad e) (sh_P6 cy ad _ hp) rfl (n := 20) rfl dX1_enterPayout_8 ?_
  refine mi_ge hx hb (by omega) (by decide) 42 dX1_enterPayout_9 (by decide) (fun h9 => absurd h9 (by first | decide | omega)) (fun h9 => ?_)
  refine lv_aload_n hx hb dX1_enterPayout_12 rfl (lv_at hl 0 rfl) ?_
  refine ex_get M w (show (PB p) ∈ C from hC 0 (by decide)) (sh_P0 cy ad (e (PB p)) hp) rfl inX1 11 (by decide) f30 rfl dX1_enterPayout_13 ?_
  refine lv_aload_n hx hb dX1_enterPayout_16 rfl (lv_at hl 0 rfl) ?_
  refine ex_get M w (show (PB p) ∈ C from hC 0 (by decide)) (sh_P0 cy ad (e (PB p)) hp) rfl inX1 13 (by decide) f72 rfl dX1_enterPayout_17 ?_
  refine lv_iload_n hx hb dX1_enterPayout_20 rfl (lv_at hl 1 rfl) ?_
  refine ex_iast M w (hC 6 (by decide)) (fun v => sh_P6 cy ad v hp) (v := dy) (by omega) (by decide) dX1_enterPayout_21 (fun H locs w => ?_)
  refine lv_aload_n hx hb dX1_enterPayout_22 rfl (lv_at hl 0 rfl) ?_
  refine ex_get M w (show (PB p) ∈ C from hC 0 (by decide)) (sh_P0 cy ad ((es e (PB p + 6) (e (PB p) 13) dy) (PB p)) hp) rfl inX1 12 (by decide) f33 rfl dX1_enterPayout_23 ?_
  refine lv_aload_n hx hb dX1_enterPayout_26 rfl (lv_at hl 0 rfl) ?_
  refine ex_get M w (show (PB p) ∈ C from hC 0 (by decide)) (sh_P0 cy ad ((es e (PB p + 6) (e (PB p) 13) dy) (PB p)) hp) rfl inX1 13 (by decide) f72 (congrArg (fun z => some (Value.int (nI z))) (es_ne _ _ (by first | omega | (unfold PB; omega) | (unfold RB; omega) | (unfold PB RB; omega)))) dX1_enterPayout_27 ?_
  refine lv_iload_n hx hb dX1_enterPayout_30 rfl (lv_at hl 2 rfl) ?_
  refine ex_iast M w (hC 7 (by decide)) (fun v => sh_P7 cy ad v hp) (v := pts) (by omega) (by decide) dX1_enterPayout_31 (fun H locs w => ?_)
  refine lv_aload_n hx hb dX1_enterPayout_32 rfl (lv_at hl 0 rfl) ?_
  refine lv_dup hx hb dX1_enterPayout_33 rfl ?_
  refine ex_get M w (show (PB p) ∈ C from hC 0 (by decide)) (sh_P0 cy ad ((es (es e (PB p + 6) (e (PB p) 13) dy) (PB p + 7) (e (PB p) 13) pts) (PB p)) hp) rfl inX1 13 (by decide) f72 (congrArg (fun z => some (Value.int (nI z))) ((es_ne _ _ (by first | omega | (unfold PB; omega) | (unfold RB; omega) | (unfold PB RB; omega))).trans (es_ne _ _ (by first | omega | (unfold PB; omega) | (unfold RB; omega) | (unfold PB RB; omega))))) dX1_enterPayout_34 ?_
  refine lv_iconst (v := nI 1) hx hb dX1_enterPayout_37 (by decide) ?_
  refine mi_add hx hb dX1_enterPayout_38 ?_
  refine ex_put M w (show (PB p) ∈ C from hC 0 (by decide)) (sh_P0 cy ad ((es (es e (PB p + 6) (e (PB p) 13) dy) (PB p + 7) (e (PB p) 13) pts) (PB p)) hp) rfl inX1 tyX1 tyX1_ok nmX1 13 (by decide) f72 rfl (v := ((e (PB p) 13) + 1)) rfl rfl (Nat.le_of_ble_eq_true rfl) (sh_P0 cy ad _ hp) dX1_enterPayout_39 (fun H locs w => ?_)
  exact mx_vret M w hr rfl (by decide) (by decide) dX1_enterPayout_42
end
section
/-! ===== facts about the class's ledger ===== -/
theorem sub_lt {a b c : Nat} (ha : a < 1073741824) (hb : b < 1073741824) (hc : c < 1073741824) : nI a - nI b < nI c ↔ a < b + c := by
  rw [Int32.lt_iff_toInt_lt, pk_sub_toInt ha hb, nI_toInt (by omega)]
  omega
theorem max_sub {a b : Nat} (ha : a < 1073741824) (hb : b < 1073741824) : (if nI a - nI b < nI 0 then nI 0 else nI a - nI b) = nI (a - b) := by
  by_cases h : a < b
  · rw [if_pos ((sub_lt ha hb (by decide)).mpr (by omega)), show a - b = 0 by omega]
  · rw [if_neg (fun z => h (by have z2 := (sub_lt ha hb (by decide)).mp z; omega)), pk_sub (by omega)]
section MAX0
variable {p : Program} {l : Launch} {e : Env} {R : Room} {s : State} {m : MethodId} {args : Array Value} {below : List Frame} {meth : Method} {c : Code} {H : Heap} {locs : List Loc} {cells slots : Nat} {Q : State → Prop}
variable {cc : ByteArray} {pc : Nat} {ls : Array Slot} {rest : List Value} {D : va_G} {cy : Nat → ClassId} {A : Nat → Prop} {Ts : List Cond} {own : String} {nL : Nat}
theorem mi_max0 (M : MC p s m args meth c cc Ts own nL D cy A) (hls : ls.size = nL) {index : Nat} (hlink : Cond.methodLink own index Lib.Math.max.name ∈ Ts) (hst : Cond.static Lib.Math.max.name ∈ Ts) (hini : Cond.initialized "java/lang/Math" ∈ Ts) (hcode : Cond.code Lib.Math.max.name Lib.Math.max.code 2 (some .int) ∈ Ts) (hf : 1 ≤ R.frames) (hlo : (rest.map fun v => v.category).sum + 13 ≤ R.locals) (hc : cells ≤ R.cells) (hs : slots ≤ R.slots) {a b : Nat} (ha : a < 1073741824) (hb : b < 1073741824) (hdg : decode cc pc = .ok (.invokestatic index, 3))
    (k : W p l e R s m args below meth c H locs cells slots Q (F0 m (pc + 3) ls (.int (nI (a - b)) :: rest))) : W p l e R s m args below meth c H locs cells slots Q (F0 m pc ls (.int (nI 0) :: .int (nI a - nI b) :: rest)) := by
  refine va_mmax M.1.1 M.1.2.1 (M.1.2.2.1.trans hls.symm) M.1.2.2.2.1 (M.1.2.2.2.2 _ hlink) (M.1.2.2.2.2 _ hst) (M.1.2.2.2.2 _ hini) (M.1.2.2.2.2 _ hcode) hf hlo hc hs hdg ?_
  rw [max_sub ha hb]
  exact k
end MAX0
theorem smN_s (f : Nat → Nat) {a i : Nat} (h : a ≤ i) : smN f a (i + 1 - a) = smN f a (i - a) + f i := by
  rw [show i + 1 - a = (i - a) + 1 by omega]
  show smN f a (i - a) + f (a + (i - a)) = _
  rw [show a + (i - a) = i by omega]
theorem smN_le {f : Nat → Nat} {a b : Nat} : ∀ {n : Nat}, (∀ i, i < n → f (a + i) ≤ b) → smN f a n ≤ n * b
  | 0, _ => Nat.zero_le _
  | n + 1, h => by
    have h1 := smN_le (f := f) (a := a) (b := b) (n := n) (fun i hi => h i (Nat.lt_succ_of_lt hi))
    have h2 := h n (Nat.lt_succ_self n)
    show smN f a n + f (a + n) ≤ (n + 1) * b
    rw [Nat.succ_mul]
    omega
theorem smN_mono (f : Nat → Nat) (a : Nat) : ∀ {n m : Nat}, n ≤ m → smN f a n ≤ smN f a m
  | n, 0, h => by rw [show n = 0 by omega]; exact Nat.le_refl _
  | n, m + 1, h => by
    rcases Nat.lt_or_ge n (m + 1) with z | z
    · exact Nat.le_trans (smN_mono f a (n := n) (m := m) (by omega)) (Nat.le_add_right _ _)
    · rw [show n = m + 1 by omega]; exact Nat.le_refl _
theorem smN_congr {f g : Nat → Nat} {a : Nat} : ∀ {n : Nat}, (∀ i, i < n → f (a + i) = g (a + i)) → smN f a n = smN g a n
  | 0, _ => rfl
  | n + 1, h => by
    show smN f a n + f (a + n) = smN g a n + g (a + n)
    rw [smN_congr (fun i hi => h i (Nat.lt_succ_of_lt hi)), h n (Nat.lt_succ_self n)]
def LW (e : Nat → Nat → Nat) : Prop := e 3 3 ≤ e 3 2 ∧ e 3 2 ≤ 120 ∧ e 3 5 ≤ 2400 ∧ ∀ i, i < e 3 2 → e 4 i ≤ 1800 ∧ e 5 i ≤ 10000
theorem totC_le {e : Nat → Nat → Nat} (h : LW e) : totC e ≤ 216000 := by
  have h1 := smN_le (f := e 4) (a := e 3 3) (b := 1800) (n := e 3 2 - e 3 3) (fun i hi => (h.2.2.2 _ (by omega)).1)
  have h2 := h.2.1
  unfold totC
  omega
theorem LW_clr (e : Nat → Nat → Nat) : LW (clrC e) := by
  have h1 : clrC e 3 2 = 0 := by simp [clrC, es]
  have h2 : clrC e 3 3 = 0 := by simp [clrC, es]
  have h3 : clrC e 3 5 = 0 := by simp [clrC, es]
  unfold LW
  rw [h1, h2, h3]
  exact ⟨by omega, by omega, by omega, fun i hi => absurd hi (Nat.not_lt_zero i)⟩
theorem LW_earn {e : Nat → Nat → Nat} {pts ex : Nat} (h : LW e) (hp : pts ≤ 1800) (hx : ex ≤ 10000) : LW (earnC e pts ex) := by
  obtain ⟨h1, h2, h3, h4⟩ := h
  unfold earnC
  split
  · rename_i hlt
    refine ⟨by simp [es]; omega, by simp [es]; omega, by simp [es]; omega, fun i hi => ?_⟩
    have hi2 : i < e 3 2 + 1 := by simpa [es] using hi
    by_cases hq : i = e 3 2
    · simp [es, hq]; omega
    · have := h4 i (by omega)
      simp [es, hq]; omega
  · refine ⟨by simp [es]; omega, by simp [es]; omega, by simp [es]; omega, fun i hi => ?_⟩
    have hi2 : i < e 3 2 := by simpa [es] using hi
    have := h4 i hi2
    simp [es]; omega
theorem exs_2 (e : Nat → Nat → Nat) : exsC e 3 2 = e 3 2 := by simp [exsC, es]
theorem exs_3 (e : Nat → Nat → Nat) : exsC e 3 3 = e 3 3 + 1 := by simp [exsC, es]
theorem LW_exs {e : Nat → Nat → Nat} (h : LW e) (hl : e 3 3 < e 3 2) : LW (exsC e) := by
  obtain ⟨h1, h2, h3, h4⟩ := h
  unfold LW
  rw [exs_2, exs_3]
  refine ⟨by omega, h2, by simp [exsC, es]; omega, fun i hi => ?_⟩
  have := h4 i hi
  simp [exsC, es]; omega
theorem expnC_s {e : Nat → Nat → Nat} {dy : Nat} (hl : e 3 3 < e 3 2) (hd : e 5 (e 3 3) ≤ dy) : expnC dy (exsC e 3 2 - exsC e 3 3) (exsC e) = expnC dy (e 3 2 - e 3 3) e := by
  rw [exs_2, exs_3, show e 3 2 - e 3 3 = (e 3 2 - (e 3 3 + 1)) + 1 by omega]
  exact (if_pos hd).symm
theorem expnC_x {e : Nat → Nat → Nat} {dy : Nat} (h : e 3 2 ≤ e 3 3 ∨ dy < e 5 (e 3 3)) : expnC dy (e 3 2 - e 3 3) e = e := by
  rcases h with h | h
  · rw [show e 3 2 - e 3 3 = 0 by omega]; rfl
  · cases hn : e 3 2 - e 3 3 with
    | zero => rfl
    | succ n => exact if_neg (by omega)
/-- nothing but the ledger is another -/
def Off (e e' : Nat → Nat → Nat) : Prop := ∀ c, c ≠ 3 → c ≠ 4 → c ≠ 5 → e' c = e c
theorem Off.rf (e : Nat → Nat → Nat) : Off e e := fun _ _ _ _ => rfl
theorem Off.tr {e e1 e2 : Nat → Nat → Nat} (h : Off e e1) (h2 : Off e1 e2) : Off e e2 := fun c a b d => (h2 c a b d).trans (h c a b d)
theorem Off.es {e e1 : Nat → Nat → Nat} (h : Off e e1) {c k v : Nat} (hc : c = 3 ∨ c = 4 ∨ c = 5) : Off e (es e1 c k v) := fun c' a b d => (es_off e1 k v (by omega)).trans (h c' a b d)
theorem Off_clr (e : Nat → Nat → Nat) : Off e (clrC e) := by
  unfold clrC
  exact ((((((((((Off.rf e).es (by omega)).es (by omega)).es (by omega)).es (by omega)).es (by omega)).es (by omega)).es (by omega)).es (by omega)).es (by omega))
theorem Off_earn (e : Nat → Nat → Nat) (pts ex : Nat) : Off e (earnC e pts ex) := by
  unfold earnC
  split
  · exact (((((Off.rf e).es (by omega)).es (by omega)).es (by omega)).es (by omega)).es (by omega)
  · exact ((Off.rf e).es (by omega)).es (by omega)
theorem Off_exs (e : Nat → Nat → Nat) : Off e (exsC e) := ((Off.rf e).es (by omega)).es (by omega)
theorem Off_expn (dy : Nat) : ∀ (n : Nat) (e : Nat → Nat → Nat), Off e (expnC dy n e)
  | 0, e => Off.rf e
  | n + 1, e => by
    unfold expnC
    split
    · exact (Off_exs e).tr (Off_expn dy n (exsC e))
    · exact Off.rf e
theorem Off_drw (e : Nat → Nat → Nat) (pts : Nat) : Off e (drwC e pts) := fun c a b d => by
  funext i
  exact if_neg (fun z => b z.1)
theorem Off_tak (e : Nat → Nat → Nat) (pts : Nat) : Off e (takC e pts) := by
  unfold takC
  split
  · exact (Off.rf e).es (by omega)
  · exact ((Off_drw e pts).es (by omega)).es (by omega)
theorem Off_take (e : Nat → Nat → Nat) (k : Nat) : Off e (takeC e k) := by
  unfold takeC
  split
  · exact Off.rf e
  · exact Off_tak e _
theorem Off_pays (e : Nat → Nat → Nat) (p : Nat) : Off e (paysC e p) := ((Off_drw e _).es (by omega)).es (by omega)
theorem Off_payn (p dy : Nat) : ∀ (n : Nat) (e : Nat → Nat → Nat), Off e (paynC p dy n e)
  | 0, e => Off.rf e
  | n + 1, e => by
    unfold paynC
    split
    · exact (Off_pays e p).tr (Off_payn p dy n (paysC e p))
    · exact Off.rf e
theorem Off_mth (e : Nat → Nat → Nat) (p dy : Nat) : Off e (mthC e p dy) := by
  unfold mthC
  split
  · exact Off_earn e _ _
  · exact Off.rf e
theorem Off_day (e : Nat → Nat → Nat) (p dy : Nat) : Off e (dayC e p dy) := ((Off_mth e p dy).tr (Off_expn dy _ _)).tr ((Off_take _ _).tr (Off_payn p dy _ _))
theorem Off_go (e : Nat → Nat → Nat) (p : Nat) : ∀ n, Off e (goC e p n)
  | 0 => Off_clr e
  | n + 1 => (Off_go e p n).tr (Off_day _ p _)
theorem Off.P {e e' : Nat → Nat → Nat} (h : Off e e') (p k : Nat) : e' (PB p + k) = e (PB p + k) := h _ (by unfold PB; omega) (by unfold PB; omega) (by unfold PB; omega)
theorem Off.P0 {e e' : Nat → Nat → Nat} (h : Off e e') (p : Nat) : e' (PB p) = e (PB p) := h.P p 0
theorem Off.R {e e' : Nat → Nat → Nat} (h : Off e e') (q : Nat) : e' (RB q) = e (RB q) := h _ (by unfold RB; omega) (by unfold RB; omega) (by unfold RB; omega)
-- draws
def drwN (e : Nat → Nat → Nat) (pts t : Nat) : Nat → Nat → Nat := fun c i => if c = 4 ∧ e 3 3 ≤ i ∧ i < t then e 4 i - (pts - smN (e 4) (e 3 3) (i - e 3 3)) else e c i
theorem drwN_off (e : Nat → Nat → Nat) (pts t : Nat) {c : Nat} (h : c ≠ 4) (i : Nat) : drwN e pts t c i = e c i := if_neg (fun z => h z.1)
theorem drwC_off (e : Nat → Nat → Nat) (pts : Nat) {c : Nat} (h : c ≠ 4) (i : Nat) : drwC e pts c i = e c i := if_neg (fun z => h z.1)
theorem drwN_at (e : Nat → Nat → Nat) (pts i : Nat) : drwN e pts i 4 i = e 4 i := if_neg (by omega)
theorem drwN_0 (e : Nat → Nat → Nat) (pts : Nat) : drwN e pts (e 3 3) = e := by
  funext c i
  exact if_neg (by omega)
theorem drwN_s (e : Nat → Nat → Nat) {pts i ms : Nat} (h0 : e 3 3 ≤ i) (hm : ms = pts - smN (e 4) (e 3 3) (i - e 3 3)) : es (drwN e pts i) 4 i (e 4 i - min ms (e 4 i)) = drwN e pts (i + 1) := by
  funext c j
  unfold es drwN
  by_cases h1 : c = 4 ∧ j = i
  · rw [if_pos h1, if_pos (by omega), h1.2, ← hm]; omega
  · rw [if_neg h1]
    by_cases h2 : c = 4 ∧ e 3 3 ≤ j ∧ j < i
    · rw [if_pos h2, if_pos (by omega)]
    · rw [if_neg h2, if_neg (by omega)]
theorem drwN_x (e : Nat → Nat → Nat) {pts i : Nat} (h : pts ≤ smN (e 4) (e 3 3) (i - e 3 3)) (hi : i ≤ e 3 2) : drwN e pts i = drwC e pts := by
  funext c j
  unfold drwN drwC
  by_cases h1 : c = 4 ∧ e 3 3 ≤ j ∧ j < i
  · rw [if_pos h1, if_pos (by omega)]
  · rw [if_neg h1]
    by_cases h2 : c = 4 ∧ e 3 3 ≤ j ∧ j < e 3 2
    · have h3 := smN_mono (e 4) (e 3 3) (n := i - e 3 3) (m := j - e 3 3) (by omega)
      rw [if_pos h2, show pts - smN (e 4) (e 3 3) (j - e 3 3) = 0 by omega, h2.1]; rfl
    · rw [if_neg h2]
theorem drw_fin (e : Nat → Nat → Nat) {pts i ms : Nat} (hm : ms = pts - smN (e 4) (e 3 3) (i - e 3 3)) (hi : i ≤ e 3 2) (h : i = e 3 2 ∨ ms = 0) : drwN e pts i = drwC e pts ∧ pts - ms = min pts (totC e) := by
  have h3 := smN_mono (e 4) (e 3 3) (n := i - e 3 3) (m := e 3 2 - e 3 3) (by omega)
  unfold totC
  rcases h with h | h
  · subst h
    exact ⟨rfl, by omega⟩
  · exact ⟨drwN_x e (by omega) hi, by omega⟩
theorem LW_drw {e : Nat → Nat → Nat} (h : LW e) (pts : Nat) : LW (drwC e pts) := by
  obtain ⟨h1, h2, h3, h4⟩ := h
  unfold LW
  rw [drwC_off e pts (by decide), drwC_off e pts (by decide), drwC_off e pts (by decide)]
  refine ⟨h1, h2, h3, fun i hi => ?_⟩
  rw [drwC_off e pts (c := 5) (by decide)]
  have := h4 i hi
  refine ⟨?_, this.2⟩
  unfold drwC
  split <;> omega
theorem LW.es3 {e : Nat → Nat → Nat} (h : LW e) {k : Nat} (v : Nat) (hk : k ≠ 2 ∧ k ≠ 3 ∧ k ≠ 5) : LW (es e 3 k v) := by
  obtain ⟨h1, h2, h3, h4⟩ := h
  unfold LW
  rw [es_ne e v (by omega), es_ne e v (by omega), es_ne e v (by omega)]
  exact ⟨h1, h2, h3, fun i hi => by rw [es_ne e v (by omega), es_ne e v (by omega)]; exact h4 i hi⟩
theorem LW.es5 {e : Nat → Nat → Nat} (h : LW e) {v : Nat} (hv : v ≤ 2400) : LW (es e 3 5 v) := by
  obtain ⟨h1, h2, h3, h4⟩ := h
  unfold LW
  rw [es_ne e v (k' := 3) (by omega), es_ne e v (k' := 2) (by omega), es_same]
  exact ⟨h1, h2, hv, fun i hi => by rw [es_ne e v (by omega), es_ne e v (by omega)]; exact h4 i hi⟩
theorem LW_tak {e : Nat → Nat → Nat} (h : LW e) (pts : Nat) : LW (takC e pts) := by
  unfold takC
  split
  · exact h.es3 _ (by omega)
  · exact ((LW_drw h pts).es5 (by omega)).es3 _ (by omega)
theorem LW_take {e : Nat → Nat → Nat} (h : LW e) (k : Nat) : LW (takeC e k) := by
  unfold takeC
  split
  · exact h
  · exact LW_tak h _
theorem LW_pays {e : Nat → Nat → Nat} (h : LW e) (p : Nat) : LW (paysC e p) := ((LW_drw h _).es3 _ (by omega)).es3 _ (by omega)
theorem LW_expn (dy : Nat) : ∀ (n : Nat) (e : Nat → Nat → Nat), LW e → n ≤ e 3 2 - e 3 3 → LW (expnC dy n e)
  | 0, e, h, _ => h
  | n + 1, e, h, hn => by
    unfold expnC
    split
    · exact LW_expn dy n (exsC e) (LW_exs h (by omega)) (by rw [exs_2, exs_3]; omega)
    · exact h
theorem LW_expire {e : Nat → Nat → Nat} (h : LW e) (dy : Nat) : LW (expireC e dy) := LW_expn dy _ e h (Nat.le_refl _)
theorem LW_payn (p dy : Nat) : ∀ (n : Nat) (e : Nat → Nat → Nat), LW e → LW (paynC p dy n e)
  | 0, e, h => h
  | n + 1, e, h => by
    unfold paynC
    split
    · exact LW_payn p dy n (paysC e p) (LW_pays h p)
    · exact h
theorem pays_4 (e : Nat → Nat → Nat) (p : Nat) : paysC e p 3 4 = e 3 4 + 1 := es_same _ _ _ _
theorem paynC_s {e : Nat → Nat → Nat} {p dy : Nat} (hl : e 3 4 < e (PB p) 13) (hd : e (PB p + 6) (e 3 4) ≤ dy) : paynC p dy (paysC e p (PB p) 13 - paysC e p 3 4) (paysC e p) = paynC p dy (e (PB p) 13 - e 3 4) e := by
  rw [(Off_pays e p).P0, pays_4, show e (PB p) 13 - e 3 4 = (e (PB p) 13 - (e 3 4 + 1)) + 1 by omega]
  exact (if_pos hd).symm
theorem paynC_x {e : Nat → Nat → Nat} {p dy : Nat} (h : e (PB p) 13 ≤ e 3 4 ∨ dy < e (PB p + 6) (e 3 4)) : paynC p dy (e (PB p) 13 - e 3 4) e = e := by
  rcases h with h | h
  · rw [show e (PB p) 13 - e 3 4 = 0 by omega]; rfl
  · cases hn : e (PB p) 13 - e 3 4 with
    | zero => rfl
    | succ n => exact if_neg (by omega)
/-- the first expiry of a lot with points -/
def fxN (f g : Nat → Nat) : Nat → Nat → Int32
  | _, 0 => -1
  | a, n + 1 => if 0 < f a then nI (g a) else fxN f g (a + 1) n
def fxC (e : Nat → Nat → Nat) : Int32 := fxN (e 4) (e 5) (e 3 3) (e 3 2 - e 3 3)
theorem fxN_hit {f g : Nat → Nat} {a b : Nat} (h : a < b) (h0 : 0 < f a) : fxN f g a (b - a) = nI (g a) := by
  rw [show b - a = (b - (a + 1)) + 1 by omega]; exact if_pos h0
theorem fxN_next {f g : Nat → Nat} {a b : Nat} (h : a < b) (h0 : f a = 0) : fxN f g (a + 1) (b - (a + 1)) = fxN f g a (b - a) := by
  rw [show b - a = (b - (a + 1)) + 1 by omega]; exact (if_neg (by omega)).symm
theorem fxN_end {f g : Nat → Nat} {a b : Nat} (h : b ≤ a) : fxN f g a (b - a) = -1 := by
  rw [show b - a = 0 by omega]; rfl
theorem P0.eq {e e' : Nat → Nat → Nat} {p : Nat} (h : e' (PB p) = e (PB p)) (h0 : P0 e p) : P0 e' p := by
  unfold P0 at *
  rw [h]; exact h0
theorem PCh.eq {e e' : Nat → Nat → Nat} {p : Nat} (h : ∀ k, e' (PB p + k) = e (PB p + k)) (h0 : PCh e p) : PCh e' p := by
  unfold PCh at *
  have h1 := h 0
  rw [Nat.add_zero] at h1
  rw [h1, h 1, h 2]; exact h0
theorem PPy.eq {e e' : Nat → Nat → Nat} {p : Nat} (h : ∀ k, e' (PB p + k) = e (PB p + k)) (h0 : PPy e p) : PPy e' p := by
  unfold PPy at *
  have h1 := h 0
  rw [Nat.add_zero] at h1
  rw [h1, h 6, h 7]; exact h0
theorem PLv.eq {e e' : Nat → Nat → Nat} {p : Nat} (h : ∀ k, e' (PB p + k) = e (PB p + k)) (h0 : PLv e p) : PLv e' p := by
  unfold PLv at *
  rw [h 8]; exact h0
/-- all that going through a day asks for -/
def GW (e : Nat → Nat → Nat) (p : Nat) : Prop := LW e ∧ e 3 4 ≤ 20 ∧ P0 e p ∧ PCh e p ∧ PPy e p ∧ PLv e p
theorem GW.off {e e' : Nat → Nat → Nat} {p : Nat} (h : GW e p) (ho : Off e e') (hl : LW e') (hn : e' 3 4 ≤ 20) : GW e' p := ⟨hl, hn, h.2.2.1.eq (ho.P0 p), h.2.2.2.1.eq (ho.P p), h.2.2.2.2.1.eq (ho.P p), h.2.2.2.2.2.eq (ho.P p)⟩
theorem ptsC_le {e : Nat → Nat → Nat} {p : Nat} (h : GW e p) (dy : Nat) : ptsC e p dy ≤ 1800 := by
  obtain ⟨-, -, h0, hc, -, -⟩ := h
  have h1 := hrC_in h0 hc (dy - 1)
  have h2 : e (PB p) 1 + min ((dy - e (PB p) 0) / 360 / 3 * 2) 10 ≤ 90 := by have := h0.2.1.2; omega
  unfold ptsC
  calc 2 * (e (PB p) 1 + min ((dy - e (PB p) 0) / 360 / 3 * 2) 10) * hrC e p (dy - 1) ≤ (2 * 90) * 10 := Nat.mul_le_mul (Nat.mul_le_mul (Nat.le_refl 2) h2) h1.2
    _ = 1800 := by decide
theorem earn_4 (e : Nat → Nat → Nat) (pts ex : Nat) : earnC e pts ex 3 4 = e 3 4 := by
  unfold earnC
  split <;> simp [es]
theorem expn_4 (dy : Nat) : ∀ (n : Nat) (e : Nat → Nat → Nat), expnC dy n e 3 4 = e 3 4
  | 0, e => rfl
  | n + 1, e => by
    unfold expnC
    split
    · rw [expn_4 dy n (exsC e)]; simp [exsC, es]
    · rfl
theorem tak_4 (e : Nat → Nat → Nat) (pts : Nat) : takC e pts 3 4 = e 3 4 := by
  unfold takC
  split
  · simp [es]
  · rw [es_ne _ _ (by omega), es_ne _ _ (by omega), drwC_off _ _ (by decide)]
theorem take_4 (e : Nat → Nat → Nat) (k : Nat) : takeC e k 3 4 = e 3 4 := by
  unfold takeC
  split
  · rfl
  · exact tak_4 e _
theorem GW_clr {e : Nat → Nat → Nat} {p : Nat} (h0 : P0 e p) (hc : PCh e p) (hy : PPy e p) (hl : PLv e p) : GW (clrC e) p := ⟨LW_clr e, by simp [clrC, es], h0.eq ((Off_clr e).P0 p), hc.eq ((Off_clr e).P p), hy.eq ((Off_clr e).P p), hl.eq ((Off_clr e).P p)⟩
theorem GW_mth {e : Nat → Nat → Nat} {p : Nat} (h : GW e p) {dy : Nat} (hd : dy ≤ 3600) : GW (mthC e p dy) p := by
  unfold mthC
  split
  · exact h.off (Off_earn e _ _) (LW_earn h.1 (ptsC_le h dy) (by unfold expC; omega)) (by rw [earn_4]; exact h.2.1)
  · exact h
theorem GW_expire {e : Nat → Nat → Nat} {p : Nat} (h : GW e p) (dy : Nat) : GW (expireC e dy) p := h.off (Off_expn dy _ _) (LW_expire h.1 dy) (by unfold expireC; rw [expn_4]; exact h.2.1)
theorem GW_take {e : Nat → Nat → Nat} {p : Nat} (h : GW e p) (k : Nat) : GW (takeC e k) p := h.off (Off_take e k) (LW_take h.1 k) (by rw [take_4]; exact h.2.1)
theorem payn_4 (p dy : Nat) : ∀ (n : Nat) (e : Nat → Nat → Nat), paynC p dy n e 3 4 ≤ e 3 4 + n
  | 0, e => Nat.le_refl _
  | n + 1, e => by
    unfold paynC
    split
    · have := payn_4 p dy n (paysC e p)
      rw [pays_4] at this
      omega
    · omega
theorem GW_pay {e : Nat → Nat → Nat} {p : Nat} (h : GW e p) (dy : Nat) : GW (payC e p dy) p := h.off (Off_payn p dy _ _) (LW_payn p dy _ e h.1) (by
  have h1 := payn_4 p dy (e (PB p) 13 - e 3 4) e
  have h2 := h.2.2.2.2.1.1
  have h3 := h.2.1
  unfold payC
  omega)
theorem GW_day {e : Nat → Nat → Nat} {p : Nat} (h : GW e p) {dy : Nat} (hd : dy ≤ 3600) : GW (dayC e p dy) p := GW_pay (GW_take (GW_expire (GW_mth h hd) dy) _) dy
theorem goC_P0 (e : Nat → Nat → Nat) (p n : Nat) : goC e p n (PB p) = e (PB p) := (Off_go e p n).P0 p
theorem GW_go {e : Nat → Nat → Nat} {p : Nat} (h0 : P0 e p) (hc : PCh e p) (hy : PPy e p) (hl : PLv e p) : ∀ n, e (PB p) 0 + n ≤ 3601 → GW (goC e p n) p
  | 0, _ => GW_clr h0 hc hy hl
  | n + 1, h => GW_day (GW_go h0 hc hy hl n (by omega)) (by omega)
end
section
set_option maxHeartbeats 4000000 in
set_option maxRecDepth 100000 in
/-- Ledger.clear() -/
theorem kX0_clear (l : Launch) (D : va_G) (cy : Nat → ClassId) (C : List Nat) (ad : Nat → Nat) (e : Nat → Nat → Nat) (sz : Nat)  (hB : ∀ k, k < 26 → k ∈ C) : Met l yX0_clear wsX0_clear ({ frames := 0, cells := 0, slots := 0, locals := 0 } : Room) (PreM D cy (C, ad, G cy ad e) sz [.ref (ad 3)]) (va_Qv (fun (u : WT) => u = (C, ad, G cy ad (clrC e))) (WB D cy (AW (C, ad, G cy ad e) sz)) (AW (C, ad, G cy ad e) sz)) 0 0 (AW (C, ad, G cy ad e) sz) := by
  refine mx_start (cc := cX0_clear) (maxL := 1) (ret := none) (by decide) rfl (Nat.le_of_ble_eq_true rfl) ?_
  intro p9 e9 s m args below meth c hsz hr hnm M w ls hl
  have hx := M.1.1
  have hb := M.1.2.1
  have inX0 : ∀ w ∈ wsX00, w ∈ wsX0_clear := by decide +kernel
  have f57 : Cond.fieldLink RX0 57 RX0 "oldestLot" "I" ∈ wsX0_clear := by decide +kernel
  have f60 : Cond.fieldLink RX0 60 RX0 "lotCount" "I" ∈ wsX0_clear := by decide +kernel
  have f63 : Cond.fieldLink RX0 63 RX0 "nextPayout" "I" ∈ wsX0_clear := by decide +kernel
  have f66 : Cond.fieldLink RX0 66 RX0 "debt" "I" ∈ wsX0_clear := by decide +kernel
  have f69 : Cond.fieldLink RX0 69 RX0 "sumEarned" "I" ∈ wsX0_clear := by decide +kernel
  have f72 : Cond.fieldLink RX0 72 RX0 "sumTaken" "I" ∈ wsX0_clear := by decide +kernel
  have f75 : Cond.fieldLink RX0 75 RX0 "sumExpired" "I" ∈ wsX0_clear := by decide +kernel
  have f78 : Cond.fieldLink RX0 78 RX0 "sumPaid" "I" ∈ wsX0_clear := by decide +kernel
  have f81 : Cond.fieldLink RX0 81 RX0 "unpaidDays" "I" ∈ wsX0_clear := by decide +kernel
  have hl : lv_has ls 1 [(0, .ref (ad 3))] := hl
  refine lv_aload_n hx hb dX0_clear_0 rfl (lv_at hl 0 rfl) ?_
  refine lv_iconst (v := nI 0) hx hb dX0_clear_1 (by decide) ?_
  refine ex_put M w (hB 3 (by decide)) (sh_3 cy ad (e 3)) rfl inX0 tyX0 tyX0_ok nmX0 2 (by decide) f60 rfl (v := 0) rfl rfl (Nat.le_of_ble_eq_true rfl) (sh_3 cy ad _) dX0_clear_2 (fun H locs w => ?_)
  refine lv_aload_n hx hb dX0_clear_5 rfl (lv_at hl 0 rfl) ?_
  refine lv_iconst (v := nI 0) hx hb dX0_clear_6 (by decide) ?_
  refine ex_put M w (hB 3 (by decide)) (sh_3 cy ad ((es e 3 2 0) 3)) rfl inX0 tyX0 tyX0_ok nmX0 3 (by decide) f57 rfl (v := 0) rfl rfl (Nat.le_of_ble_eq_true rfl) (sh_3 cy ad _) dX0_clear_7 (fun H locs w => ?_)
  refine lv_aload_n hx hb dX0_clear_10 rfl (lv_at hl 0 rfl) ?_
  refine lv_iconst (v := nI 0) hx hb dX0_clear_11 (by decide) ?_
  refine ex_put M w (hB 3 (by decide)) (sh_3 cy ad ((es (es e 3 2 0) 3 3 0) 3)) rfl inX0 tyX0 tyX0_ok nmX0 4 (by decide) f63 rfl (v := 0) rfl rfl (Nat.le_of_ble_eq_true rfl) (sh_3 cy ad _) dX0_clear_12 (fun H locs w => ?_)
  refine lv_aload_n hx hb dX0_clear_15 rfl (lv_at hl 0 rfl) ?_
  refine lv_iconst (v := nI 0) hx hb dX0_clear_16 (by decide) ?_
  refine ex_put M w (hB 3 (by decide)) (sh_3 cy ad ((es (es (es e 3 2 0) 3 3 0) 3 4 0) 3)) rfl inX0 tyX0 tyX0_ok nmX0 5 (by decide) f66 rfl (v := 0) rfl rfl (Nat.le_of_ble_eq_true rfl) (sh_3 cy ad _) dX0_clear_17 (fun H locs w => ?_)
  refine lv_aload_n hx hb dX0_clear_20 rfl (lv_at hl 0 rfl) ?_
  refine lv_iconst (v := nI 0) hx hb dX0_clear_21 (by decide) ?_
  refine ex_put M w (hB 3 (by decide)) (sh_3 cy ad ((es (es (es (es e 3 2 0) 3 3 0) 3 4 0) 3 5 0) 3)) rfl inX0 tyX0 tyX0_ok nmX0 6 (by decide) f69 rfl (v := 0) rfl rfl (Nat.le_of_ble_eq_true rfl) (sh_3 cy ad _) dX0_clear_22 (fun H locs w => ?_)
  refine lv_aload_n hx hb dX0_clear_25 rfl (lv_at hl 0 rfl) ?_
  refine lv_iconst (v := nI 0) hx hb dX0_clear_26 (by decide) ?_
  refine ex_put M w (hB 3 (by decide)) (sh_3 cy ad ((es (es (es (es (es e 3 2 0) 3 3 0) 3 4 0) 3 5 0) 3 6 0) 3)) rfl inX0 tyX0 tyX0_ok nmX0 7 (by decide) f72 rfl (v := 0) rfl rfl (Nat.le_of_ble_eq_true rfl) (sh_3 cy ad _) dX0_clear_27 (fun H locs w => ?_)
  refine lv_aload_n hx hb dX0_clear_30 rfl (lv_at hl 0 rfl) ?_
  refine lv_iconst (v := nI 0) hx hb dX0_clear_31 (by decide) ?_
  refine ex_put M w (hB 3 (by decide)) (sh_3 cy ad ((es (es (es (es (es (es e 3 2 0) 3 3 0) 3 4 0) 3 5 0) 3 6 0) 3 7 0) 3)) rfl inX0 tyX0 tyX0_ok nmX0 8 (by decide) f75 rfl (v := 0) rfl rfl (Nat.le_of_ble_eq_true rfl) (sh_3 cy ad _) dX0_clear_32 (fun H locs w => ?_)
  refine lv_aload_n hx hb dX0_clear_35 rfl (lv_at hl 0 rfl) ?_
  refine lv_iconst (v := nI 0) hx hb dX0_clear_36 (by decide) ?_
  refine ex_put M w (hB 3 (by decide)) (sh_3 cy ad ((es (es (es (es (es (es (es e 3 2 0) 3 3 0) 3 4 0) 3 5 0) 3 6 0) 3 7 0) 3 8 0) 3)) rfl inX0 tyX0 tyX0_ok nmX0 9 (by decide) f78 rfl (v := 0) rfl rfl (Nat.le_of_ble_eq_true rfl) (sh_3 cy ad _) dX0_clear_37 (fun H locs w => ?_)
  refine lv_aload_n hx hb dX0_clear_40 rfl (lv_at hl 0 rfl) ?_
  refine lv_iconst (v := nI 0) hx hb dX0_clear_41 (by decide) ?_
  refine ex_put M w (hB 3 (by decide)) (sh_3 cy ad ((es (es (es (es (es (es (es (es e 3 2 0) 3 3 0) 3 4 0) 3 5 0) 3 6 0) 3 7 0) 3 8 0) 3 9 0) 3)) rfl inX0 tyX0 tyX0_ok nmX0 10 (by decide) f81 rfl (v := 0) rfl rfl (Nat.le_of_ble_eq_true rfl) (sh_3 cy ad _) dX0_clear_42 (fun H locs w => ?_)
  exact mx_vret M w hr rfl (by decide) (by decide) dX0_clear_45

set_option maxHeartbeats 4000000 in
set_option maxRecDepth 100000 in
/-- Ledger.isDayOfEarning(person, day) -/
theorem kX0_isDayOfEarning (l : Launch) (D : va_G) (cy : Nat → ClassId) (C : List Nat) (ad : Nat → Nat) (e : Nat → Nat → Nat) (sz : Nat) (p dy : Nat) (hp : p < 8) (hC : ∀ k, k < 9 → PB p + k ∈ C) (hf : e (PB p) 0 ≤ 3600) (hd : dy ≤ 3600) : Met l yX0_isDayOfEarning wsX0_isDayOfEarning ({ frames := 0, cells := 0, slots := 0, locals := 0 } : Room) (PreM D cy (C, ad, G cy ad e) sz [.ref (ad (PB p)), .int (nI dy)]) (va_Qi (fun (r : Int32) (u : WT) => r = nI (earnsAt (e (PB p) 0) dy).toNat ∧ u = (C, ad, G cy ad e)) (WB D cy (AW (C, ad, G cy ad e) sz)) (AW (C, ad, G cy ad e) sz)) 0 0 (AW (C, ad, G cy ad e) sz) := by
  refine mx_start (cc := cX0_isDayOfEarning) (maxL := 2) (ret := (some .boolean)) (by decide) rfl (Nat.le_of_ble_eq_true rfl) ?_
  intro p9 e9 s m args below meth c hsz hr hnm M w ls hl
  have hx := M.1.1
  have hb := M.1.2.1
  have inX1 : ∀ w ∈ wsX10, w ∈ wsX0_isDayOfEarning := by decide +kernel
  have f21 : Cond.fieldLink RX0 21 RX1 "firstDay" "I" ∈ wsX0_isDayOfEarning := by decide +kernel
  have hl : lv_has ls 2 [(0, .ref (ad (PB p))), (1, .int (nI dy))] := hl
  refine lv_iload_n hx hb dX0_isDayOfEarning_0 rfl (lv_at hl 1 rfl) ?_
  refine lv_bipush (v := nI 30) hx hb dX0_isDayOfEarning_1 (by decide) ?_
  refine mi_rem hx hb (by omega) (by decide) (by decide) dX0_isDayOfEarning_3 ?_
  refine mi_if_ne hx hb (by omega) 22 dX0_isDayOfEarning_4 (by decide) (fun h4 => ?_) (fun h4 => ?_)
  · refine lv_iconst (v := nI 0) hx hb dX0_isDayOfEarning_22 (by decide) ?_
    exact mx_zret M w hr (v := (nI 0)) (by first | exact Or.inl rfl | exact Or.inr rfl) ⟨bt_0 (by unfold earnsAt; exact decide_eq_false (by omega)), rfl⟩ (by decide) (by decide) dX0_isDayOfEarning_23
  · refine lv_iload_n hx hb dX0_isDayOfEarning_7 rfl (lv_at hl 1 rfl) ?_
    refine lv_bipush (v := nI 30) hx hb dX0_isDayOfEarning_8 (by decide) ?_
    refine lv_isub hx hb dX0_isDayOfEarning_10 ?_
    refine lv_aload_n hx hb dX0_isDayOfEarning_11 rfl (lv_at hl 0 rfl) ?_
    refine ex_get M w (show (PB p) ∈ C from hC 0 (by decide)) (sh_P0 cy ad (e (PB p)) hp) rfl inX1 0 (by decide) f21 rfl dX0_isDayOfEarning_12 ?_
    refine lv_icmp_lt (tgt := 22) hx hb dX0_isDayOfEarning_15 (by decide) (fun h15 => ?_) (fun h15 => ?_)
    · refine lv_iconst (v := nI 0) hx hb dX0_isDayOfEarning_22 (by decide) ?_
      exact mx_zret M w hr (v := (nI 0)) (by first | exact Or.inl rfl | exact Or.inr rfl) ⟨bt_0 (by unfold earnsAt; exact decide_eq_false (by have z := (sub_lt (by omega) (by decide) (by omega)).mp h15; omega)), rfl⟩ (by decide) (by decide) dX0_isDayOfEarning_23
    · refine lv_iconst (v := nI 1) hx hb dX0_isDayOfEarning_18 (by decide) ?_
      refine lv_goto (tgt := 23) hx hb dX0_isDayOfEarning_19 (by decide) ?_
      exact mx_zret M w hr (v := (nI 1)) (by first | exact Or.inl rfl | exact Or.inr rfl) ⟨bt_1 (by unfold earnsAt; exact decide_eq_true (by have z := Nat.not_lt.mp (fun z => h15 ((sub_lt (by omega) (by decide) (by omega)).mpr z)); omega)), rfl⟩ (by decide) (by decide) dX0_isDayOfEarning_23

set_option maxHeartbeats 4000000 in
set_option maxRecDepth 100000 in
/-- Ledger.pointsOfMonth(person, day) -/
theorem kX0_pointsOfMonth (l : Launch) (D : va_G) (cy : Nat → ClassId) (C : List Nat) (ad : Nat → Nat) (e : Nat → Nat → Nat) (sz : Nat) (p dy : Nat) (hp : p < 8) (hC : ∀ k, k < 9 → PB p + k ∈ C) (hP0 : P0 e p) (hCh : PCh e p) (hd : dy ≤ 3600) (hfd : e (PB p) 0 + 1 ≤ dy) : Met l yX0_pointsOfMonth wsX0_pointsOfMonth ({ frames := 1, cells := 0, slots := 0, locals := 24 } : Room) (PreM D cy (C, ad, G cy ad e) sz [.ref (ad (PB p)), .int (nI dy)]) (va_Qi (fun (r : Int32) (u : WT) => r = nI (ptsC e p dy) ∧ u = (C, ad, G cy ad e)) (WB D cy (AW (C, ad, G cy ad e) sz)) (AW (C, ad, G cy ad e) sz)) 0 0 (AW (C, ad, G cy ad e) sz) := by
  refine mx_start (cc := cX0_pointsOfMonth) (maxL := 4) (ret := (some .int)) (by decide) rfl (Nat.le_of_ble_eq_true rfl) ?_
  intro p9 e9 s m args below meth c hsz hr hnm M w ls hl
  have hx := M.1.1
  have hb := M.1.2.1
  have inX1 : ∀ w ∈ wsX10, w ∈ wsX0_pointsOfMonth := by decide +kernel
  have f21 : Cond.fieldLink RX0 21 RX1 "firstDay" "I" ∈ wsX0_pointsOfMonth := by decide +kernel
  have f90 : Cond.fieldLink RX0 90 RX1 "right" "I" ∈ wsX0_pointsOfMonth := by decide +kernel
  have k84 : Cond.methodLink RX0 84 Lib.Math.min.name ∈ wsX0_pointsOfMonth := by decide +kernel
  have k84a : Cond.static Lib.Math.min.name ∈ wsX0_pointsOfMonth := by decide +kernel
  have k84b : Cond.initialized "java/lang/Math" ∈ wsX0_pointsOfMonth := by decide +kernel
  have k84c : Cond.code Lib.Math.min.name Lib.Math.min.code 2 (some .int) ∈ wsX0_pointsOfMonth := by decide +kernel
  have hl : lv_has ls 4 [(0, .ref (ad (PB p))), (1, .int (nI dy))] := hl
  refine lv_iload_n hx hb dX0_pointsOfMonth_0 rfl (lv_at hl 1 rfl) ?_
  refine lv_aload_n hx hb dX0_pointsOfMonth_1 rfl (lv_at hl 0 rfl) ?_
  refine ex_get M w (show (PB p) ∈ C from hC 0 (by decide)) (sh_P0 cy ad (e (PB p)) hp) rfl inX1 0 (by decide) f21 rfl dX0_pointsOfMonth_2 ?_
  refine mi_sub hx hb (by omega) dX0_pointsOfMonth_5 ?_
  refine lv_sipush (v := nI 360) hx hb dX0_pointsOfMonth_6 (by decide) ?_
  refine mi_div hx hb (by omega) (by decide) (by decide) dX0_pointsOfMonth_9 ?_
  refine lv_istore_n (lv' := [(2, .int (nI ((dy - (e (PB p) 0)) / 360))), (0, .ref (ad (PB p))), (1, .int (nI dy))]) hx hb dX0_pointsOfMonth_10 rfl hl (by decide) rfl (fun ls hl => ?_)
  refine lv_iload_n hx hb dX0_pointsOfMonth_11 rfl (lv_at hl 0 rfl) ?_
  refine lv_iconst (v := nI 3) hx hb dX0_pointsOfMonth_12 (by decide) ?_
  refine mi_div hx hb (by omega) (by decide) (by decide) dX0_pointsOfMonth_13 ?_
  refine lv_iconst (v := nI 2) hx hb dX0_pointsOfMonth_14 (by decide) ?_
  refine mi_mul hx hb dX0_pointsOfMonth_15 ?_
  refine lv_bipush (v := nI 10) hx hb dX0_pointsOfMonth_16 (by decide) ?_
  refine mi_min M hl.1 k84 k84a k84b k84c (by decide) (Nat.le_of_ble_eq_true rfl) (by decide) (by decide) (by omega) (by decide) dX0_pointsOfMonth_18 ?_
  refine lv_istore_n (lv' := [(3, .int (nI (min ((((dy - (e (PB p) 0)) / 360) / 3) * 2) 10))), (2, .int (nI ((dy - (e (PB p) 0)) / 360))), (0, .ref (ad (PB p))), (1, .int (nI dy))]) hx hb dX0_pointsOfMonth_21 rfl hl (by decide) rfl (fun ls hl => ?_)
  refine lv_iconst (v := nI 2) hx hb dX0_pointsOfMonth_22 (by decide) ?_
  refine lv_aload_n hx hb dX0_pointsOfMonth_23 rfl (lv_at hl 2 rfl) ?_
  refine ex_get M w (show (PB p) ∈ C from hC 0 (by decide)) (sh_P0 cy ad (e (PB p)) hp) rfl inX1 1 (by decide) f90 rfl dX0_pointsOfMonth_24 ?_
  refine lv_iload_n hx hb dX0_pointsOfMonth_27 rfl (lv_at hl 0 rfl) ?_
  refine mi_add hx hb dX0_pointsOfMonth_28 ?_
  refine mi_mul hx hb dX0_pointsOfMonth_29 ?_
  refine lv_aload_n hx hb dX0_pointsOfMonth_30 rfl (lv_at hl 2 rfl) ?_
  refine lv_iload_n hx hb dX0_pointsOfMonth_31 rfl (lv_at hl 3 rfl) ?_
  refine lv_iconst (v := nI 1) hx hb dX0_pointsOfMonth_32 (by decide) ?_
  refine mi_sub hx hb (by omega) dX0_pointsOfMonth_33 ?_
  refine mx_Vi M w (kX1_hoursOn l D cy C ad e s.heap.size p (dy - 1) hp hC hCh (by omega)) (cwV 1 M.1.2.2.2.2 gX0_pointsOfMonth_X1_hoursOn rfl rfl rfl (by decide +kernel) ⟨Nat.le_of_ble_eq_true rfl, Nat.le_of_ble_eq_true rfl⟩) (mo_rec M w (show (PB p) ∈ C from hC 0 (by decide)) (g := G cy ad e) (sh_P0 cy ad (e (PB p)) hp) rfl) rfl hl.1 rfl (Nat.le_of_ble_eq_true rfl) dX0_pointsOfMonth_34 ⟨by decide, by decide⟩ (fun r34 u1 H locs hp1 w => ?_)
  obtain ⟨rfl, rfl⟩ := hp1
  refine mi_mul hx hb dX0_pointsOfMonth_37 ?_
  exact mx_iret M w hr (v := (nI ((2 * ((e (PB p) 1) + (min ((((dy - (e (PB p) 0)) / 360) / 3) * 2) 10))) * (hrC e p (dy - 1))))) ⟨rfl, rfl⟩ (by decide) (by decide) dX0_pointsOfMonth_38

set_option maxHeartbeats 4000000 in
set_option maxRecDepth 100000 in
/-- Ledger.expiryOf(day) -/
theorem kX0_expiryOf (l : Launch) (D : va_G) (cy : Nat → ClassId) (C : List Nat) (ad : Nat → Nat) (e : Nat → Nat → Nat) (sz : Nat) (dy : Nat) (hd : dy ≤ 3600) (hd1 : 1 ≤ dy) : Met l yX0_expiryOf wsX0_expiryOf ({ frames := 0, cells := 0, slots := 0, locals := 0 } : Room) (PreM D cy (C, ad, G cy ad e) sz [.int (nI dy)]) (va_Qi (fun (r : Int32) (u : WT) => r = nI (expC dy) ∧ u = (C, ad, G cy ad e)) (WB D cy (AW (C, ad, G cy ad e) sz)) (AW (C, ad, G cy ad e) sz)) 0 0 (AW (C, ad, G cy ad e) sz) := by
  refine mx_start (cc := cX0_expiryOf) (maxL := 2) (ret := (some .int)) (by decide) rfl (Nat.le_of_ble_eq_true rfl) ?_
  intro p9 e9 s m args below meth c hsz hr hnm M w ls hl
  have hx := M.1.1
  have hb := M.1.2.1
  have hl : lv_has ls 2 [(0, .int (nI dy))] := hl
  refine lv_iload_n hx hb dX0_expiryOf_0 rfl (lv_at hl 0 rfl) ?_
  refine lv_iconst (v := nI 1) hx hb dX0_expiryOf_1 (by decide) ?_
  refine mi_sub hx hb (by omega) dX0_expiryOf_2 ?_
  refine lv_sipush (v := nI 360) hx hb dX0_expiryOf_3 (by decide) ?_
  refine mi_div hx hb (by omega) (by decide) (by decide) dX0_expiryOf_6 ?_
  refine lv_istore_n (lv' := [(1, .int (nI ((dy - 1) / 360))), (0, .int (nI dy))]) hx hb dX0_expiryOf_7 rfl hl (by decide) rfl (fun ls hl => ?_)
  refine lv_iload_n hx hb dX0_expiryOf_8 rfl (lv_at hl 0 rfl) ?_
  refine lv_iconst (v := nI 1) hx hb dX0_expiryOf_9 (by decide) ?_
  refine mi_add hx hb dX0_expiryOf_10 ?_
  refine lv_sipush (v := nI 360) hx hb dX0_expiryOf_11 (by decide) ?_
  refine mi_mul hx hb dX0_expiryOf_14 ?_
  refine lv_bipush (v := nI 90) hx hb dX0_expiryOf_15 (by decide) ?_
  refine mi_add hx hb dX0_expiryOf_17 ?_
  exact mx_iret M w hr (v := (nI (((((dy - 1) / 360) + 1) * 360) + 90))) ⟨rfl, rfl⟩ (by decide) (by decide) dX0_expiryOf_18

set_option maxHeartbeats 4000000 in
set_option maxRecDepth 100000 in
/-- Ledger.earn(points, expiry) -/
theorem kX0_earn (l : Launch) (D : va_G) (cy : Nat → ClassId) (C : List Nat) (ad : Nat → Nat) (e : Nat → Nat → Nat) (sz : Nat) (pts ex : Nat) (hB : ∀ k, k < 26 → k ∈ C) (hLW : LW e) (hp2 : pts ≤ 1800) (hx2 : ex ≤ 10000) : Met l yX0_earn wsX0_earn ({ frames := 1, cells := 0, slots := 0, locals := 13 } : Room) (PreM D cy (C, ad, G cy ad e) sz [.ref (ad 3), .int (nI pts), .int (nI ex)]) (va_Qv (fun (u : WT) => u = (C, ad, G cy ad (earnC e pts ex))) (WB D cy (AW (C, ad, G cy ad e) sz)) (AW (C, ad, G cy ad e) sz)) 0 0 (AW (C, ad, G cy ad e) sz) := by
  refine mx_start (cc := cX0_earn) (maxL := 4) (ret := none) (by decide) rfl (Nat.le_of_ble_eq_true rfl) ?_
  intro p9 e9 s m args below meth c hsz hr hnm M w ls hl
  have hx := M.1.1
  have hb := M.1.2.1
  have inX0 : ∀ w ∈ wsX00, w ∈ wsX0_earn := by decide +kernel
  have f9 : Cond.fieldLink RX0 9 RX0 "lotPoints" "[I" ∈ wsX0_earn := by decide +kernel
  have f15 : Cond.fieldLink RX0 15 RX0 "lotExpiries" "[I" ∈ wsX0_earn := by decide +kernel
  have f60 : Cond.fieldLink RX0 60 RX0 "lotCount" "I" ∈ wsX0_earn := by decide +kernel
  have f66 : Cond.fieldLink RX0 66 RX0 "debt" "I" ∈ wsX0_earn := by decide +kernel
  have f69 : Cond.fieldLink RX0 69 RX0 "sumEarned" "I" ∈ wsX0_earn := by decide +kernel
  have k84 : Cond.methodLink RX0 84 Lib.Math.min.name ∈ wsX0_earn := by decide +kernel
  have k84a : Cond.static Lib.Math.min.name ∈ wsX0_earn := by decide +kernel
  have k84b : Cond.initialized "java/lang/Math" ∈ wsX0_earn := by decide +kernel
  have k84c : Cond.code Lib.Math.min.name Lib.Math.min.code 2 (some .int) ∈ wsX0_earn := by decide +kernel
  obtain ⟨g1, g2, g3, g4⟩ := id hLW
  have hl : lv_has ls 4 [(0, .ref (ad 3)), (1, .int (nI pts)), (2, .int (nI ex))] := hl
  refine lv_iload_n hx hb dX0_earn_0 rfl (lv_at hl 1 rfl) ?_
  refine lv_aload_n hx hb dX0_earn_1 rfl (lv_at hl 0 rfl) ?_
  refine ex_get M w (hB 3 (by decide)) (sh_3 cy ad (e 3)) rfl inX0 5 (by decide) f66 rfl dX0_earn_2 ?_
  refine mi_min M hl.1 k84 k84a k84b k84c (by decide) (Nat.le_of_ble_eq_true rfl) (by decide) (by decide) (by omega) (by omega) dX0_earn_5 ?_
  refine lv_istore_n (lv' := [(3, .int (nI (min pts (e 3 5)))), (0, .ref (ad 3)), (1, .int (nI pts)), (2, .int (nI ex))]) hx hb dX0_earn_8 rfl hl (by decide) rfl (fun ls hl => ?_)
  refine lv_aload_n hx hb dX0_earn_9 rfl (lv_at hl 1 rfl) ?_
  refine lv_dup hx hb dX0_earn_10 rfl ?_
  refine ex_get M w (hB 3 (by decide)) (sh_3 cy ad (e 3)) rfl inX0 5 (by decide) f66 rfl dX0_earn_11 ?_
  refine lv_iload_n hx hb dX0_earn_14 rfl (lv_at hl 0 rfl) ?_
  refine mi_sub hx hb (by omega) dX0_earn_15 ?_
  refine ex_put M w (hB 3 (by decide)) (sh_3 cy ad (e 3)) rfl inX0 tyX0 tyX0_ok nmX0 5 (by decide) f66 rfl (v := ((e 3 5) - (min pts (e 3 5)))) rfl rfl (Nat.le_of_ble_eq_true rfl) (sh_3 cy ad _) dX0_earn_16 (fun H locs w => ?_)
  refine lv_aload_n hx hb dX0_earn_19 rfl (lv_at hl 1 rfl) ?_
  refine lv_dup hx hb dX0_earn_20 rfl ?_
  refine ex_get M w (hB 3 (by decide)) (sh_3 cy ad ((es e 3 5 ((e 3 5) - (min pts (e 3 5)))) 3)) rfl inX0 6 (by decide) f69 (congrArg (fun z => some (Value.int (nI z))) (es_ne _ _ (by first | omega | (unfold PB; omega) | (unfold RB; omega) | (unfold PB RB; omega)))) dX0_earn_21 ?_
  refine lv_iload_n hx hb dX0_earn_24 rfl (lv_at hl 2 rfl) ?_
  refine mi_add hx hb dX0_earn_25 ?_
  refine ex_put M w (hB 3 (by decide)) (sh_3 cy ad ((es e 3 5 ((e 3 5) - (min pts (e 3 5)))) 3)) rfl inX0 tyX0 tyX0_ok nmX0 6 (by decide) f69 rfl (v := ((e 3 6) + pts)) rfl rfl (Nat.le_of_ble_eq_true rfl) (sh_3 cy ad _) dX0_earn_26 (fun H locs w => ?_)
  refine lv_aload_n hx hb dX0_earn_29 rfl (lv_at hl 1 rfl) ?_
  refine ex_get M w (hB 3 (by decide)) (sh_3 cy ad ((es (es e 3 5 ((e 3 5) - (min pts (e 3 5)))) 3 6 ((e 3 6) + pts)) 3)) rfl inX0 2 (by decide) f60 (congrArg (fun z => some (Value.int (nI z))) ((es_ne _ _ (by first | omega | (unfold PB; omega) | (unfold RB; omega) | (unfold PB RB; omega))).trans (es_ne _ _ (by first | omega | (unfold PB; omega) | (unfold RB; omega) | (unfold PB RB; omega))))) dX0_earn_30 ?_
  refine lv_aload_n hx hb dX0_earn_33 rfl (lv_at hl 1 rfl) ?_
  refine ex_get M w (hB 3 (by decide)) (sh_3 cy ad ((es (es e 3 5 ((e 3 5) - (min pts (e 3 5)))) 3 6 ((e 3 6) + pts)) 3)) rfl inX0 0 (by decide) f9 rfl dX0_earn_34 ?_
  refine mx_alen M w (hB 4 (by decide)) 0 (g := G cy ad (es (es e 3 5 ((e 3 5) - (min pts (e 3 5)))) 3 6 ((e 3 6) + pts))) (sh_4 cy ad _) rfl (n := 120) rfl dX0_earn_37 ?_
  refine mi_ge hx hb (by omega) (by decide) 73 dX0_earn_38 (by decide) (fun h38 => ?_) (fun h38 => ?_)
  · exact mx_vret M w hr (by unfold earnC; rw [if_neg (by omega)]) (by decide) (by decide) dX0_earn_73
  · refine lv_aload_n hx hb dX0_earn_41 rfl (lv_at hl 1 rfl) ?_
    refine ex_get M w (hB 3 (by decide)) (sh_3 cy ad ((es (es e 3 5 ((e 3 5) - (min pts (e 3 5)))) 3 6 ((e 3 6) + pts)) 3)) rfl inX0 0 (by decide) f9 rfl dX0_earn_42 ?_
    refine lv_aload_n hx hb dX0_earn_45 rfl (lv_at hl 1 rfl) ?_
    refine ex_get M w (hB 3 (by decide)) (sh_3 cy ad ((es (es e 3 5 ((e 3 5) - (min pts (e 3 5)))) 3 6 ((e 3 6) + pts)) 3)) rfl inX0 2 (by decide) f60 (congrArg (fun z => some (Value.int (nI z))) ((es_ne _ _ (by first | omega | (unfold PB; omega) | (unfold RB; omega) | (unfold PB RB; omega))).trans (es_ne _ _ (by first | omega | (unfold PB; omega) | (unfold RB; omega) | (unfold PB RB; omega))))) dX0_earn_46 ?_
    refine lv_iload_n hx hb dX0_earn_49 rfl (lv_at hl 2 rfl) ?_
    refine lv_iload_n hx hb dX0_earn_50 rfl (lv_at hl 0 rfl) ?_
    refine mi_sub hx hb (by omega) dX0_earn_51 ?_
    refine ex_iast M w (hB 4 (by decide)) (sh_4 cy ad) (v := (pts - (min pts (e 3 5)))) (by omega) (by decide) dX0_earn_52 (fun H locs w => ?_)
    refine lv_aload_n hx hb dX0_earn_53 rfl (lv_at hl 1 rfl) ?_
    refine ex_get M w (hB 3 (by decide)) (sh_3 cy ad ((es (es (es e 3 5 ((e 3 5) - (min pts (e 3 5)))) 3 6 ((e 3 6) + pts)) 4 (e 3 2) (pts - (min pts (e 3 5)))) 3)) rfl inX0 1 (by decide) f15 rfl dX0_earn_54 ?_
    refine lv_aload_n hx hb dX0_earn_57 rfl (lv_at hl 1 rfl) ?_
    refine ex_get M w (hB 3 (by decide)) (sh_3 cy ad ((es (es (es e 3 5 ((e 3 5) - (min pts (e 3 5)))) 3 6 ((e 3 6) + pts)) 4 (e 3 2) (pts - (min pts (e 3 5)))) 3)) rfl inX0 2 (by decide) f60 (congrArg (fun z => some (Value.int (nI z))) ((es_ne _ _ (by first | omega | (unfold PB; omega) | (unfold RB; omega) | (unfold PB RB; omega))).trans ((es_ne _ _ (by first | omega | (unfold PB; omega) | (unfold RB; omega) | (unfold PB RB; omega))).trans (es_ne _ _ (by first | omega | (unfold PB; omega) | (unfold RB; omega) | (unfold PB RB; omega)))))) dX0_earn_58 ?_
    refine lv_iload_n hx hb dX0_earn_61 rfl (lv_at hl 3 rfl) ?_
    refine ex_iast M w (hB 5 (by decide)) (sh_5 cy ad) (v := ex) (by omega) (by decide) dX0_earn_62 (fun H locs w => ?_)
    refine lv_aload_n hx hb dX0_earn_63 rfl (lv_at hl 1 rfl) ?_
    refine lv_dup hx hb dX0_earn_64 rfl ?_
    refine ex_get M w (hB 3 (by decide)) (sh_3 cy ad ((es (es (es (es e 3 5 ((e 3 5) - (min pts (e 3 5)))) 3 6 ((e 3 6) + pts)) 4 (e 3 2) (pts - (min pts (e 3 5)))) 5 (e 3 2) ex) 3)) rfl inX0 2 (by decide) f60 (congrArg (fun z => some (Value.int (nI z))) ((es_ne _ _ (by first | omega | (unfold PB; omega) | (unfold RB; omega) | (unfold PB RB; omega))).trans ((es_ne _ _ (by first | omega | (unfold PB; omega) | (unfold RB; omega) | (unfold PB RB; omega))).trans ((es_ne _ _ (by first | omega | (unfold PB; omega) | (unfold RB; omega) | (unfold PB RB; omega))).trans (es_ne _ _ (by first | omega | (unfold PB; omega) | (unfold RB; omega) | (unfold PB RB; omega))))))) dX0_earn_65 ?_
    refine lv_iconst (v := nI 1) hx hb dX0_earn_68 (by decide) ?_
    refine mi_add hx hb dX0_earn_69 ?_
    refine ex_put M w (hB 3 (by decide)) (sh_3 cy ad ((es (es (es (es e 3 5 ((e 3 5) - (min pts (e 3 5)))) 3 6 ((e 3 6) + pts)) 4 (e 3 2) (pts - (min pts (e 3 5)))) 5 (e 3 2) ex) 3)) rfl inX0 tyX0 tyX0_ok nmX0 2 (by decide) f60 rfl (v := ((e 3 2) + 1)) rfl rfl (Nat.le_of_ble_eq_true rfl) (sh_3 cy ad _) dX0_earn_70 (fun H locs w => ?_)
    exact mx_vret M w hr (by unfold earnC; rw [if_pos (by omega)]) (by decide) (by decide) dX0_earn_73

set_option maxHeartbeats 4000000 in
set_option maxRecDepth 100000 in
/-- Ledger.expireOn(day) -/
theorem kX0_expireOn (l : Launch) (D : va_G) (cy : Nat → ClassId) (C : List Nat) (ad : Nat → Nat) (e : Nat → Nat → Nat) (sz : Nat) (dy : Nat) (hB : ∀ k, k < 26 → k ∈ C) (hLW : LW e) (hd : dy ≤ 3600) : Met l yX0_expireOn wsX0_expireOn ({ frames := 0, cells := 0, slots := 0, locals := 0 } : Room) (PreM D cy (C, ad, G cy ad e) sz [.ref (ad 3), .int (nI dy)]) (va_Qv (fun (u : WT) => u = (C, ad, G cy ad (expireC e dy))) (WB D cy (AW (C, ad, G cy ad e) sz)) (AW (C, ad, G cy ad e) sz)) 0 0 (AW (C, ad, G cy ad e) sz) := by
  refine mx_start (cc := cX0_expireOn) (maxL := 2) (ret := none) (by decide) rfl (Nat.le_of_ble_eq_true rfl) ?_
  intro p9 e9 s m args below meth c hsz hr hnm M w ls hl
  have hx := M.1.1
  have hb := M.1.2.1
  have inX0 : ∀ w ∈ wsX00, w ∈ wsX0_expireOn := by decide +kernel
  have f9 : Cond.fieldLink RX0 9 RX0 "lotPoints" "[I" ∈ wsX0_expireOn := by decide +kernel
  have f15 : Cond.fieldLink RX0 15 RX0 "lotExpiries" "[I" ∈ wsX0_expireOn := by decide +kernel
  have f57 : Cond.fieldLink RX0 57 RX0 "oldestLot" "I" ∈ wsX0_expireOn := by decide +kernel
  have f60 : Cond.fieldLink RX0 60 RX0 "lotCount" "I" ∈ wsX0_expireOn := by decide +kernel
  have f75 : Cond.fieldLink RX0 75 RX0 "sumExpired" "I" ∈ wsX0_expireOn := by decide +kernel
  have cut0 : ∀ (n9 : Nat) (E1 : Nat → Nat → Nat) (hE : expnC dy (E1 3 2 - E1 3 3) E1 = expireC e dy) (hL1 : LW E1) (_hm : E1 3 2 - E1 3 3 < n9) (H : Heap) (locs : List Loc), MO D (AW (C, ad, G cy ad e) sz) s.heap (C, ad, G cy ad E1) H locs → ∀ (ls : Array Slot), lv_has ls 2 [(0, .ref (ad 3)), (1, .int (nI dy))] → W p9 l e9 ({ frames := 0, cells := 0, slots := 0, locals := 0 } : Room) s m args below meth c H locs 0 0 (MQ below (va_Qv (fun (u : WT) => u = (C, ad, G cy ad (expireC e dy))) (WB D cy (AW (C, ad, G cy ad e) sz)) (AW (C, ad, G cy ad e) sz)) args s 0 0 (AW (C, ad, G cy ad e) sz)) (F0 m 0 ls []) := by
    intro n9
    induction n9 with
    | zero => intro E1 hE hL1 _hm; exact absurd _hm (Nat.not_lt_zero _)
    | succ n9 ih =>
      intro E1 hE hL1 _hm H locs w ls hl
      refine lv_aload_n hx hb dX0_expireOn_0 rfl (lv_at hl 0 rfl) ?_
      obtain ⟨g1, g2, g3, g4⟩ := id hL1
      refine ex_get M w (hB 3 (by decide)) (sh_3 cy ad (E1 3)) rfl inX0 3 (by decide) f57 rfl dX0_expireOn_1 ?_
      refine lv_aload_n hx hb dX0_expireOn_4 rfl (lv_at hl 0 rfl) ?_
      refine ex_get M w (hB 3 (by decide)) (sh_3 cy ad (E1 3)) rfl inX0 2 (by decide) f60 rfl dX0_expireOn_5 ?_
      refine mi_ge hx hb (by omega) (by omega) 55 dX0_expireOn_8 (by decide) (fun h8 => ?_) (fun h8 => ?_)
      · exact mx_vret M w hr (by rw [← hE, expnC_x (Or.inl h8)]) (by decide) (by decide) dX0_expireOn_55
      · have q1 := g4 _ h8
        refine lv_aload_n hx hb dX0_expireOn_11 rfl (lv_at hl 0 rfl) ?_
        refine ex_get M w (hB 3 (by decide)) (sh_3 cy ad (E1 3)) rfl inX0 1 (by decide) f15 rfl dX0_expireOn_12 ?_
        refine lv_aload_n hx hb dX0_expireOn_15 rfl (lv_at hl 0 rfl) ?_
        refine ex_get M w (hB 3 (by decide)) (sh_3 cy ad (E1 3)) rfl inX0 3 (by decide) f57 rfl dX0_expireOn_16 ?_
        refine ex_iald M w (hB 5 (by decide)) (sh_5 cy ad) (by omega) (by decide) rfl dX0_expireOn_19 ?_
        refine lv_iload_n hx hb dX0_expireOn_20 rfl (lv_at hl 1 rfl) ?_
        refine mi_gt hx hb (by omega) (by omega) 55 dX0_expireOn_21 (by decide) (fun h21 => ?_) (fun h21 => ?_)
        · exact mx_vret M w hr (by rw [← hE, expnC_x (Or.inr h21)]) (by decide) (by decide) dX0_expireOn_55
        · refine lv_aload_n hx hb dX0_expireOn_24 rfl (lv_at hl 0 rfl) ?_
          refine lv_dup hx hb dX0_expireOn_25 rfl ?_
          refine ex_get M w (hB 3 (by decide)) (sh_3 cy ad (E1 3)) rfl inX0 8 (by decide) f75 rfl dX0_expireOn_26 ?_
          refine lv_aload_n hx hb dX0_expireOn_29 rfl (lv_at hl 0 rfl) ?_
          refine ex_get M w (hB 3 (by decide)) (sh_3 cy ad (E1 3)) rfl inX0 0 (by decide) f9 rfl dX0_expireOn_30 ?_
          refine lv_aload_n hx hb dX0_expireOn_33 rfl (lv_at hl 0 rfl) ?_
          refine ex_get M w (hB 3 (by decide)) (sh_3 cy ad (E1 3)) rfl inX0 3 (by decide) f57 rfl dX0_expireOn_34 ?_
          refine ex_iald M w (hB 4 (by decide)) (sh_4 cy ad) (by omega) (by decide) rfl dX0_expireOn_37 ?_
          refine mi_add hx hb dX0_expireOn_38 ?_
          refine ex_put M w (hB 3 (by decide)) (sh_3 cy ad (E1 3)) rfl inX0 tyX0 tyX0_ok nmX0 8 (by decide) f75 rfl (v := ((E1 3 8) + (E1 4 (E1 3 3)))) rfl rfl (Nat.le_of_ble_eq_true rfl) (sh_3 cy ad _) dX0_expireOn_39 (fun H locs w => ?_)
          refine lv_aload_n hx hb dX0_expireOn_42 rfl (lv_at hl 0 rfl) ?_
          refine lv_dup hx hb dX0_expireOn_43 rfl ?_
          refine ex_get M w (hB 3 (by decide)) (sh_3 cy ad ((es E1 3 8 ((E1 3 8) + (E1 4 (E1 3 3)))) 3)) rfl inX0 3 (by decide) f57 (congrArg (fun z => some (Value.int (nI z))) (es_ne _ _ (by first | omega | (unfold PB; omega) | (unfold RB; omega) | (unfold PB RB; omega)))) dX0_expireOn_44 ?_
          refine lv_iconst (v := nI 1) hx hb dX0_expireOn_47 (by decide) ?_
          refine mi_add hx hb dX0_expireOn_48 ?_
          refine ex_put M w (hB 3 (by decide)) (sh_3 cy ad ((es E1 3 8 ((E1 3 8) + (E1 4 (E1 3 3)))) 3)) rfl inX0 tyX0 tyX0_ok nmX0 3 (by decide) f57 rfl (v := ((E1 3 3) + 1)) rfl rfl (Nat.le_of_ble_eq_true rfl) (sh_3 cy ad _) dX0_expireOn_49 (fun H locs w => ?_)
          refine lv_goto (tgt := 0) hx hb dX0_expireOn_52 (by decide) ?_
          exact ih (exsC E1) ((expnC_s h8 h21).trans hE) (LW_exs hL1 h8)  (by first | omega | (rw [exs_2, exs_3]; omega)) _ _ w ls (lv_sub hl [0, 1] rfl)
  have hl : lv_has ls 2 [(0, .ref (ad 3)), (1, .int (nI dy))] := hl
  exact cut0 (e 3 2 - e 3 3 + 1) e rfl hLW  (by first | omega | (rw [exs_2, exs_3]; omega)) _ _ w ls (lv_sub hl [0, 1] rfl)

set_option maxHeartbeats 4000000 in
set_option maxRecDepth 100000 in
/-- Ledger.pointsInLots() -/
theorem kX0_pointsInLots (l : Launch) (D : va_G) (cy : Nat → ClassId) (C : List Nat) (ad : Nat → Nat) (e : Nat → Nat → Nat) (sz : Nat)  (hB : ∀ k, k < 26 → k ∈ C) (hLW : LW e) : Met l yX0_pointsInLots wsX0_pointsInLots ({ frames := 0, cells := 0, slots := 0, locals := 0 } : Room) (PreM D cy (C, ad, G cy ad e) sz [.ref (ad 3)]) (va_Qi (fun (r : Int32) (u : WT) => r = nI (totC e) ∧ u = (C, ad, G cy ad e)) (WB D cy (AW (C, ad, G cy ad e) sz)) (AW (C, ad, G cy ad e) sz)) 0 0 (AW (C, ad, G cy ad e) sz) := by
  refine mx_start (cc := cX0_pointsInLots) (maxL := 3) (ret := (some .int)) (by decide) rfl (Nat.le_of_ble_eq_true rfl) ?_
  intro p9 e9 s m args below meth c hsz hr hnm M w ls hl
  have hx := M.1.1
  have hb := M.1.2.1
  have inX0 : ∀ w ∈ wsX00, w ∈ wsX0_pointsInLots := by decide +kernel
  have f9 : Cond.fieldLink RX0 9 RX0 "lotPoints" "[I" ∈ wsX0_pointsInLots := by decide +kernel
  have f57 : Cond.fieldLink RX0 57 RX0 "oldestLot" "I" ∈ wsX0_pointsInLots := by decide +kernel
  have f60 : Cond.fieldLink RX0 60 RX0 "lotCount" "I" ∈ wsX0_pointsInLots := by decide +kernel
  obtain ⟨g1, g2, g3, g4⟩ := id hLW
  have cut7 : ∀ (n9 : Nat) (i t : Nat) (hi0 : e 3 3 ≤ i) (hi : i ≤ e 3 2) (ht : t = smN (e 4) (e 3 3) (i - e 3 3)) (_hm : e 3 2 - i < n9) (H : Heap) (locs : List Loc), MO D (AW (C, ad, G cy ad e) sz) s.heap (C, ad, G cy ad e) H locs → ∀ (ls : Array Slot), lv_has ls 3 [(0, .ref (ad 3)), (1, .int (nI t)), (2, .int (nI i))] → W p9 l e9 ({ frames := 0, cells := 0, slots := 0, locals := 0 } : Room) s m args below meth c H locs 0 0 (MQ below (va_Qi (fun (r : Int32) (u : WT) => r = nI (totC e) ∧ u = (C, ad, G cy ad e)) (WB D cy (AW (C, ad, G cy ad e) sz)) (AW (C, ad, G cy ad e) sz)) args s 0 0 (AW (C, ad, G cy ad e) sz)) (F0 m 7 ls []) := by
    intro n9
    induction n9 with
    | zero => intro i t hi0 hi ht _hm; exact absurd _hm (Nat.not_lt_zero _)
    | succ n9 ih =>
      intro i t hi0 hi ht _hm H locs w ls hl
      refine lv_iload_n hx hb dX0_pointsInLots_7 rfl (lv_at hl 2 rfl) ?_
      refine lv_aload_n hx hb dX0_pointsInLots_8 rfl (lv_at hl 0 rfl) ?_
      refine ex_get M w (hB 3 (by decide)) (sh_3 cy ad (e 3)) rfl inX0 2 (by decide) f60 rfl dX0_pointsInLots_9 ?_
      refine mi_ge hx hb (by omega) (by omega) 30 dX0_pointsInLots_12 (by decide) (fun h12 => ?_) (fun h12 => ?_)
      · refine lv_iload_n hx hb dX0_pointsInLots_30 rfl (lv_at hl 1 rfl) ?_
        exact mx_iret M w hr (v := (nI t)) ⟨by rw [ht]; unfold totC; rw [show i = e 3 2 by omega], rfl⟩ (by decide) (by decide) dX0_pointsInLots_31
      · refine lv_iload_n hx hb dX0_pointsInLots_15 rfl (lv_at hl 1 rfl) ?_
        refine lv_aload_n hx hb dX0_pointsInLots_16 rfl (lv_at hl 0 rfl) ?_
        refine ex_get M w (hB 3 (by decide)) (sh_3 cy ad (e 3)) rfl inX0 0 (by decide) f9 rfl dX0_pointsInLots_17 ?_
        refine lv_iload_n hx hb dX0_pointsInLots_20 rfl (lv_at hl 2 rfl) ?_
        refine ex_iald M w (hB 4 (by decide)) (sh_4 cy ad) (by omega) (by decide) rfl dX0_pointsInLots_21 ?_
        refine mi_add hx hb dX0_pointsInLots_22 ?_
        refine lv_istore_n (lv' := [(1, .int (nI (t + (e 4 i)))), (0, .ref (ad 3)), (2, .int (nI i))]) hx hb dX0_pointsInLots_23 rfl hl (by decide) rfl (fun ls hl => ?_)
        refine lv_iinc (v := nI (i + 1)) (lv' := [(2, .int (nI (i + 1))), (1, .int (nI (t + (e 4 i)))), (0, .ref (ad 3))]) hx hb dX0_pointsInLots_24 hl (k := 2) rfl (nI_inc _ 1) (by decide) rfl (fun ls hl => ?_)
        refine lv_goto (tgt := 7) hx hb dX0_pointsInLots_27 (by decide) ?_
        exact ih (i + 1) _ (by omega) (by omega) (by rw [ht, smN_s (e 4) hi0])  (by omega) _ _ w ls (lv_sub hl [2, 1, 0] rfl)
  have hl : lv_has ls 3 [(0, .ref (ad 3))] := hl
  refine lv_iconst (v := nI 0) hx hb dX0_pointsInLots_0 (by decide) ?_
  refine lv_istore_n (lv' := [(1, .int (nI 0)), (0, .ref (ad 3))]) hx hb dX0_pointsInLots_1 rfl hl (by decide) rfl (fun ls hl => ?_)
  refine lv_aload_n hx hb dX0_pointsInLots_2 rfl (lv_at hl 1 rfl) ?_
  refine ex_get M w (hB 3 (by decide)) (sh_3 cy ad (e 3)) rfl inX0 3 (by decide) f57 rfl dX0_pointsInLots_3 ?_
  refine lv_istore_n (lv' := [(2, .int (nI (e 3 3))), (1, .int (nI 0)), (0, .ref (ad 3))]) hx hb dX0_pointsInLots_6 rfl hl (by decide) rfl (fun ls hl => ?_)
  exact cut7 (e 3 2 - e 3 3 + 1) (e 3 3) 0 (Nat.le_refl _) g1 (by rw [Nat.sub_self]; rfl)  (by omega) _ _ w ls (lv_sub hl [2, 1, 0] rfl)

set_option maxHeartbeats 4000000 in
set_option maxRecDepth 100000 in
/-- Ledger.firstExpiry() -/
theorem kX0_firstExpiry (l : Launch) (D : va_G) (cy : Nat → ClassId) (C : List Nat) (ad : Nat → Nat) (e : Nat → Nat → Nat) (sz : Nat)  (hB : ∀ k, k < 26 → k ∈ C) (hLW : LW e) : Met l yX0_firstExpiry wsX0_firstExpiry ({ frames := 0, cells := 0, slots := 0, locals := 0 } : Room) (PreM D cy (C, ad, G cy ad e) sz [.ref (ad 3)]) (va_Qi (fun (r : Int32) (u : WT) => r = fxC e ∧ u = (C, ad, G cy ad e)) (WB D cy (AW (C, ad, G cy ad e) sz)) (AW (C, ad, G cy ad e) sz)) 0 0 (AW (C, ad, G cy ad e) sz) := by
  refine mx_start (cc := cX0_firstExpiry) (maxL := 2) (ret := (some .int)) (by decide) rfl (Nat.le_of_ble_eq_true rfl) ?_
  intro p9 e9 s m args below meth c hsz hr hnm M w ls hl
  have hx := M.1.1
  have hb := M.1.2.1
  have inX0 : ∀ w ∈ wsX00, w ∈ wsX0_firstExpiry := by decide +kernel
  have f9 : Cond.fieldLink RX0 9 RX0 "lotPoints" "[I" ∈ wsX0_firstExpiry := by decide +kernel
  have f15 : Cond.fieldLink RX0 15 RX0 "lotExpiries" "[I" ∈ wsX0_firstExpiry := by decide +kernel
  have f57 : Cond.fieldLink RX0 57 RX0 "oldestLot" "I" ∈ wsX0_firstExpiry := by decide +kernel
  have f60 : Cond.fieldLink RX0 60 RX0 "lotCount" "I" ∈ wsX0_firstExpiry := by decide +kernel
  obtain ⟨g1, g2, g3, g4⟩ := id hLW
  have cut5 : ∀ (n9 : Nat) (i : Nat) (hi : i ≤ e 3 2) (hf : fxN (e 4) (e 5) i (e 3 2 - i) = fxC e) (_hm : e 3 2 - i < n9) (H : Heap) (locs : List Loc), MO D (AW (C, ad, G cy ad e) sz) s.heap (C, ad, G cy ad e) H locs → ∀ (ls : Array Slot), lv_has ls 2 [(0, .ref (ad 3)), (1, .int (nI i))] → W p9 l e9 ({ frames := 0, cells := 0, slots := 0, locals := 0 } : Room) s m args below meth c H locs 0 0 (MQ below (va_Qi (fun (r : Int32) (u : WT) => r = fxC e ∧ u = (C, ad, G cy ad e)) (WB D cy (AW (C, ad, G cy ad e) sz)) (AW (C, ad, G cy ad e) sz)) args s 0 0 (AW (C, ad, G cy ad e) sz)) (F0 m 5 ls []) := by
    intro n9
    induction n9 with
    | zero => intro i hi hf _hm; exact absurd _hm (Nat.not_lt_zero _)
    | succ n9 ih =>
      intro i hi hf _hm H locs w ls hl
      refine lv_iload_n hx hb dX0_firstExpiry_5 rfl (lv_at hl 1 rfl) ?_
      refine lv_aload_n hx hb dX0_firstExpiry_6 rfl (lv_at hl 0 rfl) ?_
      refine ex_get M w (hB 3 (by decide)) (sh_3 cy ad (e 3)) rfl inX0 2 (by decide) f60 rfl dX0_firstExpiry_7 ?_
      refine mi_ge hx hb (by omega) (by omega) 35 dX0_firstExpiry_10 (by decide) (fun h10 => ?_) (fun h10 => ?_)
      · refine lv_iconst (v := (-1)) hx hb dX0_firstExpiry_35 (by decide) ?_
        exact mx_iret M w hr (v := (-1)) ⟨(fxN_end h10).symm.trans hf, rfl⟩ (by decide) (by decide) dX0_firstExpiry_36
      · have q1 := g4 i h10
        refine lv_aload_n hx hb dX0_firstExpiry_13 rfl (lv_at hl 0 rfl) ?_
        refine ex_get M w (hB 3 (by decide)) (sh_3 cy ad (e 3)) rfl inX0 0 (by decide) f9 rfl dX0_firstExpiry_14 ?_
        refine lv_iload_n hx hb dX0_firstExpiry_17 rfl (lv_at hl 1 rfl) ?_
        refine ex_iald M w (hB 4 (by decide)) (sh_4 cy ad) (by omega) (by decide) rfl dX0_firstExpiry_18 ?_
        refine mi_if_le hx hb (by omega) 29 dX0_firstExpiry_19 (by decide) (fun h19 => ?_) (fun h19 => ?_)
        · refine lv_iinc (v := nI (i + 1)) (lv' := [(1, .int (nI (i + 1))), (0, .ref (ad 3))]) hx hb dX0_firstExpiry_29 hl (k := 1) rfl (nI_inc _ 1) (by decide) rfl (fun ls hl => ?_)
          refine lv_goto (tgt := 5) hx hb dX0_firstExpiry_32 (by decide) ?_
          exact ih (i + 1) (by omega) ((fxN_next h10 (by omega)).trans hf)  (by omega) _ _ w ls (lv_sub hl [1, 0] rfl)
        · refine lv_aload_n hx hb dX0_firstExpiry_22 rfl (lv_at hl 0 rfl) ?_
          refine ex_get M w (hB 3 (by decide)) (sh_3 cy ad (e 3)) rfl inX0 1 (by decide) f15 rfl dX0_firstExpiry_23 ?_
          refine lv_iload_n hx hb dX0_firstExpiry_26 rfl (lv_at hl 1 rfl) ?_
          refine ex_iald M w (hB 5 (by decide)) (sh_5 cy ad) (by omega) (by decide) rfl dX0_firstExpiry_27 ?_
          exact mx_iret M w hr (v := (nI (e 5 i))) ⟨(fxN_hit h10 (by omega)).symm.trans hf, rfl⟩ (by decide) (by decide) dX0_firstExpiry_28
  have hl : lv_has ls 2 [(0, .ref (ad 3))] := hl
  refine lv_aload_n hx hb dX0_firstExpiry_0 rfl (lv_at hl 0 rfl) ?_
  refine ex_get M w (hB 3 (by decide)) (sh_3 cy ad (e 3)) rfl inX0 3 (by decide) f57 rfl dX0_firstExpiry_1 ?_
  refine lv_istore_n (lv' := [(1, .int (nI (e 3 3))), (0, .ref (ad 3))]) hx hb dX0_firstExpiry_4 rfl hl (by decide) rfl (fun ls hl => ?_)
  exact cut5 (e 3 2 - e 3 3 + 1) (e 3 3) g1 rfl  (by omega) _ _ w ls (lv_sub hl [1, 0] rfl)

set_option maxHeartbeats 4000000 in
set_option maxRecDepth 100000 in
/-- Ledger.drawFromLots(points) -/
theorem kX0_drawFromLots (l : Launch) (D : va_G) (cy : Nat → ClassId) (C : List Nat) (ad : Nat → Nat) (e : Nat → Nat → Nat) (sz : Nat) (pts : Nat) (hB : ∀ k, k < 26 → k ∈ C) (hLW : LW e) (hp2 : pts ≤ 20000) : Met l yX0_drawFromLots wsX0_drawFromLots ({ frames := 1, cells := 0, slots := 0, locals := 13 } : Room) (PreM D cy (C, ad, G cy ad e) sz [.ref (ad 3), .int (nI pts)]) (va_Qi (fun (r : Int32) (u : WT) => r = nI (min pts (totC e)) ∧ u = (C, ad, G cy ad (drwC e pts))) (WB D cy (AW (C, ad, G cy ad e) sz)) (AW (C, ad, G cy ad e) sz)) 0 0 (AW (C, ad, G cy ad e) sz) := by
  refine mx_start (cc := cX0_drawFromLots) (maxL := 5) (ret := (some .int)) (by decide) rfl (Nat.le_of_ble_eq_true rfl) ?_
  intro p9 e9 s m args below meth c hsz hr hnm M w ls hl
  have hx := M.1.1
  have hb := M.1.2.1
  have inX0 : ∀ w ∈ wsX00, w ∈ wsX0_drawFromLots := by decide +kernel
  have f9 : Cond.fieldLink RX0 9 RX0 "lotPoints" "[I" ∈ wsX0_drawFromLots := by decide +kernel
  have f57 : Cond.fieldLink RX0 57 RX0 "oldestLot" "I" ∈ wsX0_drawFromLots := by decide +kernel
  have f60 : Cond.fieldLink RX0 60 RX0 "lotCount" "I" ∈ wsX0_drawFromLots := by decide +kernel
  have k84 : Cond.methodLink RX0 84 Lib.Math.min.name ∈ wsX0_drawFromLots := by decide +kernel
  have k84a : Cond.static Lib.Math.min.name ∈ wsX0_drawFromLots := by decide +kernel
  have k84b : Cond.initialized "java/lang/Math" ∈ wsX0_drawFromLots := by decide +kernel
  have k84c : Cond.code Lib.Math.min.name Lib.Math.min.code 2 (some .int) ∈ wsX0_drawFromLots := by decide +kernel
  obtain ⟨g1, g2, g3, g4⟩ := id hLW
  have cut7 : ∀ (n9 : Nat) (i ms : Nat) (hi0 : e 3 3 ≤ i) (hi : i ≤ e 3 2) (hm : ms = pts - smN (e 4) (e 3 3) (i - e 3 3)) (_hm : e 3 2 - i < n9) (H : Heap) (locs : List Loc), MO D (AW (C, ad, G cy ad e) sz) s.heap (C, ad, G cy ad (drwN e pts i)) H locs → ∀ (ls : Array Slot), lv_has ls 5 [(0, .ref (ad 3)), (1, .int (nI pts)), (2, .int (nI ms)), (3, .int (nI i))] → W p9 l e9 ({ frames := 1, cells := 0, slots := 0, locals := 13 } : Room) s m args below meth c H locs 0 0 (MQ below (va_Qi (fun (r : Int32) (u : WT) => r = nI (min pts (totC e)) ∧ u = (C, ad, G cy ad (drwC e pts))) (WB D cy (AW (C, ad, G cy ad e) sz)) (AW (C, ad, G cy ad e) sz)) args s 0 0 (AW (C, ad, G cy ad e) sz)) (F0 m 7 ls []) := by
    intro n9
    induction n9 with
    | zero => intro i ms hi0 hi hm _hm; exact absurd _hm (Nat.not_lt_zero _)
    | succ n9 ih =>
      intro i ms hi0 hi hm _hm H locs w ls hl
      refine lv_iload_n hx hb dX0_drawFromLots_7 rfl (lv_at hl 3 rfl) ?_
      refine lv_aload_n hx hb dX0_drawFromLots_8 rfl (lv_at hl 0 rfl) ?_
      refine ex_get M w (hB 3 (by decide)) (sh_3 cy ad ((drwN e pts i) 3)) rfl inX0 2 (by decide) f60 (congrArg (fun z => some (Value.int (nI z))) (drwN_off e pts i (by decide) _)) dX0_drawFromLots_9 ?_
      refine mi_ge hx hb (by omega) (by omega) 53 dX0_drawFromLots_12 (by decide) (fun h12 => ?_) (fun h12 => ?_)
      · refine lv_iload_n hx hb dX0_drawFromLots_53 rfl (lv_at hl 1 rfl) ?_
        refine lv_iload_n hx hb dX0_drawFromLots_54 rfl (lv_at hl 2 rfl) ?_
        refine mi_sub hx hb (by omega) dX0_drawFromLots_55 ?_
        exact mx_iret M w hr (v := (nI (pts - ms))) (by have z := drw_fin e hm hi (Or.inl (by omega)); exact ⟨congrArg nI z.2, by rw [z.1]⟩) (by decide) (by decide) dX0_drawFromLots_56
      · have q1 := g4 i h12
        refine lv_iload_n hx hb dX0_drawFromLots_15 rfl (lv_at hl 2 rfl) ?_
        refine mi_if_le hx hb (by omega) 53 dX0_drawFromLots_16 (by decide) (fun h16 => ?_) (fun h16 => ?_)
        · refine lv_iload_n hx hb dX0_drawFromLots_53 rfl (lv_at hl 1 rfl) ?_
          refine lv_iload_n hx hb dX0_drawFromLots_54 rfl (lv_at hl 2 rfl) ?_
          refine mi_sub hx hb (by omega) dX0_drawFromLots_55 ?_
          exact mx_iret M w hr (v := (nI (pts - ms))) (by have z := drw_fin e hm hi (Or.inr h16); exact ⟨congrArg nI z.2, by rw [z.1]⟩) (by decide) (by decide) dX0_drawFromLots_56
        · refine lv_iload_n hx hb dX0_drawFromLots_19 rfl (lv_at hl 2 rfl) ?_
          refine lv_aload_n hx hb dX0_drawFromLots_20 rfl (lv_at hl 0 rfl) ?_
          refine ex_get M w (hB 3 (by decide)) (sh_3 cy ad ((drwN e pts i) 3)) rfl inX0 0 (by decide) f9 rfl dX0_drawFromLots_21 ?_
          refine lv_iload_n hx hb dX0_drawFromLots_24 rfl (lv_at hl 3 rfl) ?_
          refine ex_iald M w (hB 4 (by decide)) (sh_4 cy ad) (by omega) (by decide) (drwN_at e pts i) dX0_drawFromLots_25 ?_
          refine mi_min M hl.1 k84 k84a k84b k84c (by decide) (Nat.le_of_ble_eq_true rfl) (by decide) (by decide) (by omega) (by omega) dX0_drawFromLots_26 ?_
          refine lv_istore (lv' := [(4, .int (nI (min ms (e 4 i)))), (0, .ref (ad 3)), (1, .int (nI pts)), (2, .int (nI ms)), (3, .int (nI i))]) hx hb dX0_drawFromLots_29 hl (by decide) rfl (fun ls hl => ?_)
          refine lv_aload_n hx hb dX0_drawFromLots_31 rfl (lv_at hl 1 rfl) ?_
          refine ex_get M w (hB 3 (by decide)) (sh_3 cy ad ((drwN e pts i) 3)) rfl inX0 0 (by decide) f9 rfl dX0_drawFromLots_32 ?_
          refine lv_iload_n hx hb dX0_drawFromLots_35 rfl (lv_at hl 4 rfl) ?_
          refine lv_dup2_11 hx hb dX0_drawFromLots_36 rfl rfl ?_
          refine ex_iald M w (hB 4 (by decide)) (sh_4 cy ad) (by omega) (by decide) (drwN_at e pts i) dX0_drawFromLots_37 ?_
          refine lv_iload hx hb dX0_drawFromLots_38 (lv_at hl 0 rfl) ?_
          refine mi_sub hx hb (by omega) dX0_drawFromLots_40 ?_
          refine ex_iast M w (hB 4 (by decide)) (sh_4 cy ad) (v := ((e 4 i) - (min ms (e 4 i)))) (by omega) (by decide) dX0_drawFromLots_41 (fun H locs w => ?_)
          refine lv_iload_n hx hb dX0_drawFromLots_42 rfl (lv_at hl 3 rfl) ?_
          refine lv_iload hx hb dX0_drawFromLots_43 (lv_at hl 0 rfl) ?_
          refine mi_sub hx hb (by omega) dX0_drawFromLots_45 ?_
          refine lv_istore_n (lv' := [(2, .int (nI (ms - (min ms (e 4 i))))), (4, .int (nI (min ms (e 4 i)))), (0, .ref (ad 3)), (1, .int (nI pts)), (3, .int (nI i))]) hx hb dX0_drawFromLots_46 rfl hl (by decide) rfl (fun ls hl => ?_)
          refine lv_iinc (v := nI (i + 1)) (lv' := [(3, .int (nI (i + 1))), (2, .int (nI (ms - (min ms (e 4 i))))), (4, .int (nI (min ms (e 4 i)))), (0, .ref (ad 3)), (1, .int (nI pts))]) hx hb dX0_drawFromLots_47 hl (k := 4) rfl (nI_inc _ 1) (by decide) rfl (fun ls hl => ?_)
          refine lv_goto (tgt := 7) hx hb dX0_drawFromLots_50 (by decide) ?_
          exact ih (i + 1) _ (by omega) (by omega) (by rw [smN_s (e 4) hi0]; omega)  (by omega) _ _ (by rw [drwN_s e hi0 hm] at w; exact w) ls (lv_sub hl [3, 4, 1, 0] rfl)
  have hl : lv_has ls 5 [(0, .ref (ad 3)), (1, .int (nI pts))] := hl
  refine lv_iload_n hx hb dX0_drawFromLots_0 rfl (lv_at hl 1 rfl) ?_
  refine lv_istore_n (lv' := [(2, .int (nI pts)), (0, .ref (ad 3)), (1, .int (nI pts))]) hx hb dX0_drawFromLots_1 rfl hl (by decide) rfl (fun ls hl => ?_)
  refine lv_aload_n hx hb dX0_drawFromLots_2 rfl (lv_at hl 1 rfl) ?_
  refine ex_get M w (hB 3 (by decide)) (sh_3 cy ad (e 3)) rfl inX0 3 (by decide) f57 rfl dX0_drawFromLots_3 ?_
  refine lv_istore_n (lv' := [(3, .int (nI (e 3 3))), (2, .int (nI pts)), (0, .ref (ad 3)), (1, .int (nI pts))]) hx hb dX0_drawFromLots_6 rfl hl (by decide) rfl (fun ls hl => ?_)
  exact cut7 (e 3 2 - e 3 3 + 1) (e 3 3) pts (Nat.le_refl _) g1 (by rw [Nat.sub_self]; exact (Nat.sub_zero _).symm)  (by omega) _ _ (by rw [drwN_0]; exact w) ls (lv_sub hl [2, 3, 1, 0] rfl)

set_option maxHeartbeats 4000000 in
set_option maxRecDepth 100000 in
/-- Ledger.take(kind) -/
theorem kX0_take (l : Launch) (D : va_G) (cy : Nat → ClassId) (C : List Nat) (ad : Nat → Nat) (e : Nat → Nat → Nat) (sz : Nat) (kd : Nat) (hB : ∀ k, k < 26 → k ∈ C) (hLW : LW e) (hk : kd ≤ 2) : Met l yX0_take wsX0_take ({ frames := 2, cells := 0, slots := 0, locals := 37 } : Room) (PreM D cy (C, ad, G cy ad e) sz [.ref (ad 3), .int (nI kd)]) (va_Qv (fun (u : WT) => u = (C, ad, G cy ad (takeC e kd))) (WB D cy (AW (C, ad, G cy ad e) sz)) (AW (C, ad, G cy ad e) sz)) 0 0 (AW (C, ad, G cy ad e) sz) := by
  refine mx_start (cc := cX0_take) (maxL := 4) (ret := none) (by decide) rfl (Nat.le_of_ble_eq_true rfl) ?_
  intro p9 e9 s m args below meth c hsz hr hnm M w ls hl
  have hx := M.1.1
  have hb := M.1.2.1
  have inX0 : ∀ w ∈ wsX00, w ∈ wsX0_take := by decide +kernel
  have f66 : Cond.fieldLink RX0 66 RX0 "debt" "I" ∈ wsX0_take := by decide +kernel
  have f72 : Cond.fieldLink RX0 72 RX0 "sumTaken" "I" ∈ wsX0_take := by decide +kernel
  have f81 : Cond.fieldLink RX0 81 RX0 "unpaidDays" "I" ∈ wsX0_take := by decide +kernel
  have k100 : Cond.methodLink RX0 100 Lib.Math.max.name ∈ wsX0_take := by decide +kernel
  have k100a : Cond.static Lib.Math.max.name ∈ wsX0_take := by decide +kernel
  have k100b : Cond.initialized "java/lang/Math" ∈ wsX0_take := by decide +kernel
  have k100c : Cond.code Lib.Math.max.name Lib.Math.max.code 2 (some .int) ∈ wsX0_take := by decide +kernel
  obtain ⟨g1, g2, g3, g4⟩ := id hLW
  have g5 := totC_le hLW
  have cut19 : ∀ (pts : Nat) (hk0 : ¬ kd = 0) (hp2 : pts = if kd = 2 then 480 else 240) (hp3 : pts ≤ 480) (H : Heap) (locs : List Loc), MO D (AW (C, ad, G cy ad e) sz) s.heap (C, ad, G cy ad e) H locs → ∀ (ls : Array Slot), lv_has ls 4 [(0, .ref (ad 3)), (1, .int (nI kd))] → W p9 l e9 ({ frames := 2, cells := 0, slots := 0, locals := 37 } : Room) s m args below meth c H locs 0 0 (MQ below (va_Qv (fun (u : WT) => u = (C, ad, G cy ad (takeC e kd))) (WB D cy (AW (C, ad, G cy ad e) sz)) (AW (C, ad, G cy ad e) sz)) args s 0 0 (AW (C, ad, G cy ad e) sz)) (F0 m 19 ls [.int (nI pts)]) := by
    intro pts hk0 hp2 hp3 H locs w ls hl
    refine lv_istore_n (lv' := [(2, .int (nI pts)), (0, .ref (ad 3)), (1, .int (nI kd))]) hx hb dX0_take_19 rfl hl (by decide) rfl (fun ls hl => ?_)
    refine lv_iload_n hx hb dX0_take_20 rfl (lv_at hl 0 rfl) ?_
    refine lv_aload_n hx hb dX0_take_21 rfl (lv_at hl 1 rfl) ?_
    refine mx_Vi M w (kX0_pointsInLots l D cy C ad e H.size hB hLW) (cwV 0 M.1.2.2.2.2 gX0_take_X0_pointsInLots rfl rfl rfl (by decide +kernel) ⟨Nat.le_of_ble_eq_true rfl, Nat.le_of_ble_eq_true rfl⟩) (mo_rec M w (hB 3 (by decide)) (g := G cy ad e) (sh_3 cy ad (e 3)) rfl) rfl hl.1 rfl (Nat.le_of_ble_eq_true rfl) dX0_take_22 ⟨by decide, by decide⟩ (fun r22 u1 H locs hp1 w => ?_)
    obtain ⟨rfl, rfl⟩ := hp1
    refine lv_isub hx hb dX0_take_25 ?_
    refine lv_iconst (v := nI 0) hx hb dX0_take_26 (by decide) ?_
    refine mi_max0 M hl.1 k100 k100a k100b k100c (by decide) (Nat.le_of_ble_eq_true rfl) (by decide) (by decide) (a := pts) (b := (totC e)) (by omega) (by omega) dX0_take_27 ?_
    refine lv_istore_n (lv' := [(3, .int (nI (pts - (totC e)))), (2, .int (nI pts)), (0, .ref (ad 3)), (1, .int (nI kd))]) hx hb dX0_take_30 rfl hl (by decide) rfl (fun ls hl => ?_)
    refine lv_aload_n hx hb dX0_take_31 rfl (lv_at hl 2 rfl) ?_
    refine ex_get M w (hB 3 (by decide)) (sh_3 cy ad (e 3)) rfl inX0 5 (by decide) f66 rfl dX0_take_32 ?_
    refine lv_iload_n hx hb dX0_take_35 rfl (lv_at hl 0 rfl) ?_
    refine mi_add hx hb dX0_take_36 ?_
    refine lv_sipush (v := nI 2400) hx hb dX0_take_37 (by decide) ?_
    refine mi_le hx hb (by omega) (by decide) 54 dX0_take_40 (by decide) (fun h40 => ?_) (fun h40 => ?_)
    · refine lv_aload_n hx hb dX0_take_54 rfl (lv_at hl 2 rfl) ?_
      refine lv_iload_n hx hb dX0_take_55 rfl (lv_at hl 1 rfl) ?_
      refine mx_Vi M w (kX0_drawFromLots l D cy C ad e H.size pts hB hLW (by omega)) (cwV 1 M.1.2.2.2.2 gX0_take_X0_drawFromLots rfl rfl rfl (by decide +kernel) ⟨Nat.le_of_ble_eq_true rfl, Nat.le_of_ble_eq_true rfl⟩) (mo_rec M w (hB 3 (by decide)) (g := G cy ad e) (sh_3 cy ad (e 3)) rfl) rfl hl.1 rfl (Nat.le_of_ble_eq_true rfl) dX0_take_56 ⟨by decide, by decide⟩ (fun r56 u1 H locs hp1 w => ?_)
      obtain ⟨rfl, rfl⟩ := hp1
      refine lv_pop hx hb dX0_take_59 rfl ?_
      refine lv_aload_n hx hb dX0_take_60 rfl (lv_at hl 2 rfl) ?_
      refine lv_dup hx hb dX0_take_61 rfl ?_
      refine ex_get M w (hB 3 (by decide)) (sh_3 cy ad ((drwC e pts) 3)) rfl inX0 5 (by decide) f66 (congrArg (fun z => some (Value.int (nI z))) (drwC_off e pts (by first | decide | (unfold PB; omega)) _)) dX0_take_62 ?_
      refine lv_iload_n hx hb dX0_take_65 rfl (lv_at hl 0 rfl) ?_
      refine mi_add hx hb dX0_take_66 ?_
      refine ex_put M w (hB 3 (by decide)) (sh_3 cy ad ((drwC e pts) 3)) rfl inX0 tyX0 tyX0_ok nmX0 5 (by decide) f66 rfl (v := ((e 3 5) + (pts - (totC e)))) rfl rfl (Nat.le_of_ble_eq_true rfl) (sh_3 cy ad _) dX0_take_67 (fun H locs w => ?_)
      refine lv_aload_n hx hb dX0_take_70 rfl (lv_at hl 2 rfl) ?_
      refine lv_dup hx hb dX0_take_71 rfl ?_
      refine ex_get M w (hB 3 (by decide)) (sh_3 cy ad ((es (drwC e pts) 3 5 ((e 3 5) + (pts - (totC e)))) 3)) rfl inX0 7 (by decide) f72 (congrArg (fun z => some (Value.int (nI z))) ((es_ne _ _ (by first | omega | (unfold PB; omega) | (unfold RB; omega) | (unfold PB RB; omega))).trans (drwC_off e pts (by first | decide | (unfold PB; omega)) _))) dX0_take_72 ?_
      refine lv_iload_n hx hb dX0_take_75 rfl (lv_at hl 1 rfl) ?_
      refine mi_add hx hb dX0_take_76 ?_
      refine ex_put M w (hB 3 (by decide)) (sh_3 cy ad ((es (drwC e pts) 3 5 ((e 3 5) + (pts - (totC e)))) 3)) rfl inX0 tyX0 tyX0_ok nmX0 7 (by decide) f72 rfl (v := ((e 3 7) + pts)) rfl rfl (Nat.le_of_ble_eq_true rfl) (sh_3 cy ad _) dX0_take_77 (fun H locs w => ?_)
      exact mx_vret M w hr (by unfold takeC; rw [if_neg hk0, ← hp2]; unfold takC; rw [if_neg (by omega)]) (by decide) (by decide) dX0_take_80
    · refine lv_aload_n hx hb dX0_take_43 rfl (lv_at hl 2 rfl) ?_
      refine lv_dup hx hb dX0_take_44 rfl ?_
      refine ex_get M w (hB 3 (by decide)) (sh_3 cy ad (e 3)) rfl inX0 10 (by decide) f81 rfl dX0_take_45 ?_
      refine lv_iconst (v := nI 1) hx hb dX0_take_48 (by decide) ?_
      refine mi_add hx hb dX0_take_49 ?_
      refine ex_put M w (hB 3 (by decide)) (sh_3 cy ad (e 3)) rfl inX0 tyX0 tyX0_ok nmX0 10 (by decide) f81 rfl (v := ((e 3 10) + 1)) rfl rfl (Nat.le_of_ble_eq_true rfl) (sh_3 cy ad _) dX0_take_50 (fun H locs w => ?_)
      exact mx_vret M w hr (by unfold takeC; rw [if_neg hk0, ← hp2]; unfold takC; rw [if_pos (by omega)]) (by decide) (by decide) dX0_take_53
  have hl : lv_has ls 4 [(0, .ref (ad 3)), (1, .int (nI kd))] := hl
  refine lv_iload_n hx hb dX0_take_0 rfl (lv_at hl 1 rfl) ?_
  refine mi_if_ne hx hb (by omega) 5 dX0_take_1 (by decide) (fun h1 => ?_) (fun h1 => ?_)
  · refine lv_iload_n hx hb dX0_take_5 rfl (lv_at hl 1 rfl) ?_
    refine lv_iconst (v := nI 2) hx hb dX0_take_6 (by decide) ?_
    refine mi_ne hx hb (by omega) (by decide) 16 dX0_take_7 (by decide) (fun h7 => ?_) (fun h7 => ?_)
    · refine lv_sipush (v := nI 240) hx hb dX0_take_16 (by decide) ?_
      exact cut19 240 h1 (if_neg h7).symm (by decide)  _ _ w ls (lv_sub hl [0, 1] rfl)
    · refine lv_sipush (v := nI 480) hx hb dX0_take_10 (by decide) ?_
      refine lv_goto (tgt := 19) hx hb dX0_take_13 (by decide) ?_
      exact cut19 480 h1 (if_pos h7).symm (by decide)  _ _ w ls (lv_sub hl [0, 1] rfl)
  · exact mx_vret M w hr (by unfold takeC; rw [if_pos h1]) (by decide) (by decide) dX0_take_4

set_option maxHeartbeats 4000000 in
set_option maxRecDepth 100000 in
/-- Ledger.payOn(person, day) -/
theorem kX0_payOn (l : Launch) (D : va_G) (cy : Nat → ClassId) (C : List Nat) (ad : Nat → Nat) (e : Nat → Nat → Nat) (sz : Nat) (p dy : Nat) (hp : p < 8) (hC : ∀ k, k < 9 → PB p + k ∈ C) (hB : ∀ k, k < 26 → k ∈ C) (hLW : LW e) (hnx : e 3 4 ≤ 20) (hPy : PPy e p) (hd : dy ≤ 3600) : Met l yX0_payOn wsX0_payOn ({ frames := 2, cells := 0, slots := 0, locals := 37 } : Room) (PreM D cy (C, ad, G cy ad e) sz [.ref (ad 3), .ref (ad (PB p)), .int (nI dy)]) (va_Qv (fun (u : WT) => u = (C, ad, G cy ad (payC e p dy))) (WB D cy (AW (C, ad, G cy ad e) sz)) (AW (C, ad, G cy ad e) sz)) 0 0 (AW (C, ad, G cy ad e) sz) := by
  refine mx_start (cc := cX0_payOn) (maxL := 3) (ret := none) (by decide) rfl (Nat.le_of_ble_eq_true rfl) ?_
  intro p9 e9 s m args below meth c hsz hr hnm M w ls hl
  have hx := M.1.1
  have hb := M.1.2.1
  have inX0 : ∀ w ∈ wsX00, w ∈ wsX0_payOn := by decide +kernel
  have inX1 : ∀ w ∈ wsX10, w ∈ wsX0_payOn := by decide +kernel
  have f63 : Cond.fieldLink RX0 63 RX0 "nextPayout" "I" ∈ wsX0_payOn := by decide +kernel
  have f78 : Cond.fieldLink RX0 78 RX0 "sumPaid" "I" ∈ wsX0_payOn := by decide +kernel
  have f106 : Cond.fieldLink RX0 106 RX1 "ownPayoutCount" "I" ∈ wsX0_payOn := by decide +kernel
  have f109 : Cond.fieldLink RX0 109 RX1 "payoutDays" "[I" ∈ wsX0_payOn := by decide +kernel
  have f112 : Cond.fieldLink RX0 112 RX1 "payoutPoints" "[I" ∈ wsX0_payOn := by decide +kernel
  have cut0 : ∀ (n9 : Nat) (E1 : Nat → Nat → Nat) (hE : paynC p dy (E1 (PB p) 13 - E1 3 4) E1 = payC e p dy) (hL1 : LW E1) (hn1 : E1 3 4 ≤ 20) (hP1 : PPy E1 p) (_hm : E1 (PB p) 13 - E1 3 4 < n9) (H : Heap) (locs : List Loc), MO D (AW (C, ad, G cy ad e) sz) s.heap (C, ad, G cy ad E1) H locs → ∀ (ls : Array Slot), lv_has ls 3 [(0, .ref (ad 3)), (1, .ref (ad (PB p))), (2, .int (nI dy))] → W p9 l e9 ({ frames := 2, cells := 0, slots := 0, locals := 37 } : Room) s m args below meth c H locs 0 0 (MQ below (va_Qv (fun (u : WT) => u = (C, ad, G cy ad (payC e p dy))) (WB D cy (AW (C, ad, G cy ad e) sz)) (AW (C, ad, G cy ad e) sz)) args s 0 0 (AW (C, ad, G cy ad e) sz)) (F0 m 0 ls []) := by
    intro n9
    induction n9 with
    | zero => intro E1 hE hL1 hn1 hP1 _hm; exact absurd _hm (Nat.not_lt_zero _)
    | succ n9 ih =>
      intro E1 hE hL1 hn1 hP1 _hm H locs w ls hl
      refine lv_aload_n hx hb dX0_payOn_0 rfl (lv_at hl 0 rfl) ?_
      obtain ⟨g1, g2⟩ := id hP1
      refine ex_get M w (hB 3 (by decide)) (sh_3 cy ad (E1 3)) rfl inX0 4 (by decide) f63 rfl dX0_payOn_1 ?_
      refine lv_aload_n hx hb dX0_payOn_4 rfl (lv_at hl 1 rfl) ?_
      refine ex_get M w (show (PB p) ∈ C from hC 0 (by decide)) (sh_P0 cy ad (E1 (PB p)) hp) rfl inX1 13 (by decide) f106 rfl dX0_payOn_5 ?_
      refine mi_ge hx hb (by omega) (by omega) 59 dX0_payOn_8 (by decide) (fun h8 => ?_) (fun h8 => ?_)
      · exact mx_vret M w hr (by rw [← hE, paynC_x (Or.inl h8)]) (by decide) (by decide) dX0_payOn_59
      · have q1 := g2 _ h8
        refine lv_aload_n hx hb dX0_payOn_11 rfl (lv_at hl 1 rfl) ?_
        refine ex_get M w (show (PB p) ∈ C from hC 0 (by decide)) (sh_P0 cy ad (E1 (PB p)) hp) rfl inX1 11 (by decide) f109 rfl dX0_payOn_12 ?_
        refine lv_aload_n hx hb dX0_payOn_15 rfl (lv_at hl 0 rfl) ?_
        refine ex_get M w (hB 3 (by decide)) (sh_3 cy ad (E1 3)) rfl inX0 4 (by decide) f63 rfl dX0_payOn_16 ?_
        refine ex_iald M w (hC 6 (by decide)) (fun v => sh_P6 cy ad v hp) (by omega) (by decide) rfl dX0_payOn_19 ?_
        refine lv_iload_n hx hb dX0_payOn_20 rfl (lv_at hl 2 rfl) ?_
        refine mi_gt hx hb (by omega) (by omega) 59 dX0_payOn_21 (by decide) (fun h21 => ?_) (fun h21 => ?_)
        · exact mx_vret M w hr (by rw [← hE, paynC_x (Or.inr h21)]) (by decide) (by decide) dX0_payOn_59
        · refine lv_aload_n hx hb dX0_payOn_24 rfl (lv_at hl 0 rfl) ?_
          refine lv_dup hx hb dX0_payOn_25 rfl ?_
          refine ex_get M w (hB 3 (by decide)) (sh_3 cy ad (E1 3)) rfl inX0 9 (by decide) f78 rfl dX0_payOn_26 ?_
          refine lv_aload_n hx hb dX0_payOn_29 rfl (lv_at hl 0 rfl) ?_
          refine lv_aload_n hx hb dX0_payOn_30 rfl (lv_at hl 1 rfl) ?_
          refine ex_get M w (show (PB p) ∈ C from hC 0 (by decide)) (sh_P0 cy ad (E1 (PB p)) hp) rfl inX1 12 (by decide) f112 rfl dX0_payOn_31 ?_
          refine lv_aload_n hx hb dX0_payOn_34 rfl (lv_at hl 0 rfl) ?_
          refine ex_get M w (hB 3 (by decide)) (sh_3 cy ad (E1 3)) rfl inX0 4 (by decide) f63 rfl dX0_payOn_35 ?_
          refine ex_iald M w (hC 7 (by decide)) (fun v => sh_P7 cy ad v hp) (by omega) (by decide) rfl dX0_payOn_38 ?_
          refine mx_Vi M w (kX0_drawFromLots l D cy C ad E1 H.size (E1 (PB p + 7) (E1 3 4)) hB hL1 (by omega)) (cwV 1 M.1.2.2.2.2 gX0_payOn_X0_drawFromLots rfl rfl rfl (by decide +kernel) ⟨Nat.le_of_ble_eq_true rfl, Nat.le_of_ble_eq_true rfl⟩) (mo_rec M w (hB 3 (by decide)) (g := G cy ad E1) (sh_3 cy ad (E1 3)) rfl) rfl hl.1 rfl (Nat.le_of_ble_eq_true rfl) dX0_payOn_39 ⟨by decide, by decide⟩ (fun r39 u1 H locs hp1 w => ?_)
          obtain ⟨rfl, rfl⟩ := hp1
          refine mi_add hx hb dX0_payOn_42 ?_
          refine ex_put M w (hB 3 (by decide)) (sh_3 cy ad ((drwC E1 (E1 (PB p + 7) (E1 3 4))) 3)) rfl inX0 tyX0 tyX0_ok nmX0 9 (by decide) f78 rfl (v := ((E1 3 9) + (min (E1 (PB p + 7) (E1 3 4)) (totC E1)))) rfl rfl (Nat.le_of_ble_eq_true rfl) (sh_3 cy ad _) dX0_payOn_43 (fun H locs w => ?_)
          refine lv_aload_n hx hb dX0_payOn_46 rfl (lv_at hl 0 rfl) ?_
          refine lv_dup hx hb dX0_payOn_47 rfl ?_
          refine ex_get M w (hB 3 (by decide)) (sh_3 cy ad ((es (drwC E1 (E1 (PB p + 7) (E1 3 4))) 3 9 ((E1 3 9) + (min (E1 (PB p + 7) (E1 3 4)) (totC E1)))) 3)) rfl inX0 4 (by decide) f63 (congrArg (fun z => some (Value.int (nI z))) ((es_ne _ _ (by first | omega | (unfold PB; omega) | (unfold RB; omega) | (unfold PB RB; omega))).trans (drwC_off E1 (E1 (PB p + 7) (E1 3 4)) (by first | decide | (unfold PB; omega)) _))) dX0_payOn_48 ?_
          refine lv_iconst (v := nI 1) hx hb dX0_payOn_51 (by decide) ?_
          refine mi_add hx hb dX0_payOn_52 ?_
          refine ex_put M w (hB 3 (by decide)) (sh_3 cy ad ((es (drwC E1 (E1 (PB p + 7) (E1 3 4))) 3 9 ((E1 3 9) + (min (E1 (PB p + 7) (E1 3 4)) (totC E1)))) 3)) rfl inX0 tyX0 tyX0_ok nmX0 4 (by decide) f63 rfl (v := ((E1 3 4) + 1)) rfl rfl (Nat.le_of_ble_eq_true rfl) (sh_3 cy ad _) dX0_payOn_53 (fun H locs w => ?_)
          refine lv_goto (tgt := 0) hx hb dX0_payOn_56 (by decide) ?_
          exact ih (paysC E1 p) ((paynC_s h8 h21).trans hE) (LW_pays hL1 p) (by rw [pays_4]; omega) (hP1.eq ((Off_pays E1 p).P p))  (by first | omega | (rw [(Off_pays E1 p).P0, pays_4]; omega)) _ _ w ls (lv_sub hl [0, 1, 2] rfl)
  have hl : lv_has ls 3 [(0, .ref (ad 3)), (1, .ref (ad (PB p))), (2, .int (nI dy))] := hl
  exact cut0 (e (PB p) 13 - e 3 4 + 1) e rfl hLW hnx hPy  (by first | omega | (rw [(Off_pays E1 p).P0, pays_4]; omega)) _ _ w ls (lv_sub hl [0, 1, 2] rfl)

set_option maxHeartbeats 4000000 in
set_option maxRecDepth 100000 in
/-- Ledger.goThrough(person, last) -/
theorem kX0_goThrough (l : Launch) (D : va_G) (cy : Nat → ClassId) (C : List Nat) (ad : Nat → Nat) (e : Nat → Nat → Nat) (sz : Nat) (p t0 : Nat) (hp : p < 8) (hC : ∀ k, k < 9 → PB p + k ∈ C) (hB : ∀ k, k < 26 → k ∈ C) (hP0 : P0 e p) (hCh : PCh e p) (hPy : PPy e p) (hLv : PLv e p) (ht : t0 ≤ 3600) : Met l yX0_goThrough wsX0_goThrough ({ frames := 3, cells := 0, slots := 0, locals := 60 } : Room) (PreM D cy (C, ad, G cy ad e) sz [.ref (ad 3), .ref (ad (PB p)), .int (nI t0)]) (va_Qv (fun (u : WT) => u = (C, ad, G cy ad (goC e p (t0 + 1 - e (PB p) 0)))) (WB D cy (AW (C, ad, G cy ad e) sz)) (AW (C, ad, G cy ad e) sz)) 0 0 (AW (C, ad, G cy ad e) sz) := by
  refine mx_start (cc := cX0_goThrough) (maxL := 4) (ret := none) (by decide) rfl (Nat.le_of_ble_eq_true rfl) ?_
  intro p9 e9 s m args below meth c hsz hr hnm M w ls hl
  have hx := M.1.1
  have hb := M.1.2.1
  have inX1 : ∀ w ∈ wsX10, w ∈ wsX0_goThrough := by decide +kernel
  have f21 : Cond.fieldLink RX0 21 RX1 "firstDay" "I" ∈ wsX0_goThrough := by decide +kernel
  have g0 := hP0.1
  have cut9 : ∀ (n9 : Nat) (k dy : Nat) (E1 : Nat → Nat → Nat) (hE : E1 = goC e p k) (hdy : dy = e (PB p) 0 + k) (hk : dy ≤ t0 + 1 ∨ k = 0) (hg : GW E1 p) (_hm : 3602 - dy < n9) (H : Heap) (locs : List Loc), MO D (AW (C, ad, G cy ad e) sz) s.heap (C, ad, G cy ad E1) H locs → ∀ (ls : Array Slot), lv_has ls 4 [(0, .ref (ad 3)), (1, .ref (ad (PB p))), (2, .int (nI t0)), (3, .int (nI dy))] → W p9 l e9 ({ frames := 3, cells := 0, slots := 0, locals := 60 } : Room) s m args below meth c H locs 0 0 (MQ below (va_Qv (fun (u : WT) => u = (C, ad, G cy ad (goC e p (t0 + 1 - e (PB p) 0)))) (WB D cy (AW (C, ad, G cy ad e) sz)) (AW (C, ad, G cy ad e) sz)) args s 0 0 (AW (C, ad, G cy ad e) sz)) (F0 m 9 ls []) := by
    intro n9
    induction n9 with
    | zero => intro k dy E1 hE hdy hk hg _hm; exact absurd _hm (Nat.not_lt_zero _)
    | succ n9 ih =>
      intro k dy E1 hE hdy hk hg _hm H locs w ls hl
      refine lv_iload_n hx hb dX0_goThrough_9 rfl (lv_at hl 3 rfl) ?_
      refine lv_iload_n hx hb dX0_goThrough_10 rfl (lv_at hl 2 rfl) ?_
      refine mi_gt hx hb (by omega) (by omega) 61 dX0_goThrough_11 (by decide) (fun h11 => ?_) (fun h11 => ?_)
      · exact mx_vret M w hr (by rw [hE, show k = t0 + 1 - e (PB p) 0 by omega]) (by decide) (by decide) dX0_goThrough_61
      · refine lv_aload_n hx hb dX0_goThrough_14 rfl (lv_at hl 1 rfl) ?_
        refine lv_iload_n hx hb dX0_goThrough_15 rfl (lv_at hl 3 rfl) ?_
        refine mx_Si M w (kX0_isDayOfEarning l D cy C ad E1 H.size p dy hp hC hg.2.2.1.1 (by omega)) (va_cwS 2 M.1.2.2.2.2 gX0_goThrough_X0_isDayOfEarning rfl rfl rfl (by decide +kernel) ⟨Nat.le_of_ble_eq_true rfl, Nat.le_of_ble_eq_true rfl⟩) rfl hl.1 rfl (Nat.le_of_ble_eq_true rfl) dX0_goThrough_16 ⟨by decide, by decide⟩ (fun r16 u1 H locs hp1 w => ?_)
        obtain ⟨rfl, rfl⟩ := hp1
        refine mi_if_eq hx hb (bt_lt _) 35 dX0_goThrough_19 (by decide) (fun h19 => ?_) (fun h19 => ?_)
        · have q3 : mthC E1 p dy = E1 := by unfold mthC; rw [if_neg (by rw [bt_f h19]; exact Bool.false_ne_true)]
          rw [← q3] at w
          have g1 := GW_mth hg (dy := dy) (by omega)
          have g2 := GW_expire g1 dy
          have g3 := GW_take g2 (expireC (mthC E1 p dy) dy (PB p + 8) dy)
          refine lv_aload_n hx hb dX0_goThrough_35 rfl (lv_at hl 0 rfl) ?_
          refine lv_iload_n hx hb dX0_goThrough_36 rfl (lv_at hl 3 rfl) ?_
          refine mx_Vv M w (kX0_expireOn l D cy C ad (mthC E1 p dy) H.size dy hB g1.1 (by omega)) (cwV 1 M.1.2.2.2.2 gX0_goThrough_X0_expireOn rfl rfl rfl (by decide +kernel) ⟨Nat.le_of_ble_eq_true rfl, Nat.le_of_ble_eq_true rfl⟩) (mo_rec M w (hB 3 (by decide)) (g := G cy ad (mthC E1 p dy)) (sh_3 cy ad ((mthC E1 p dy) 3)) rfl) rfl hl.1 rfl (Nat.le_of_ble_eq_true rfl) dX0_goThrough_37 ⟨by decide, by decide⟩ (fun u1 H locs hp1 w => ?_)
          obtain rfl := hp1
          refine lv_aload_n hx hb dX0_goThrough_40 rfl (lv_at hl 0 rfl) ?_
          refine lv_aload_n hx hb dX0_goThrough_41 rfl (lv_at hl 1 rfl) ?_
          refine lv_iload_n hx hb dX0_goThrough_42 rfl (lv_at hl 3 rfl) ?_
          refine mx_Vi M w (kX1_leaveOn l D cy C ad (expireC (mthC E1 p dy) dy) H.size p dy hp hC (by omega)) (cwV 1 M.1.2.2.2.2 gX0_goThrough_X1_leaveOn rfl rfl rfl (by decide +kernel) ⟨Nat.le_of_ble_eq_true rfl, Nat.le_of_ble_eq_true rfl⟩) (mo_rec M w (show (PB p) ∈ C from hC 0 (by decide)) (g := G cy ad (expireC (mthC E1 p dy) dy)) (sh_P0 cy ad ((expireC (mthC E1 p dy) dy) (PB p)) hp) rfl) rfl hl.1 rfl (Nat.le_of_ble_eq_true rfl) dX0_goThrough_43 ⟨by decide, by decide⟩ (fun r43 u1 H locs hp1 w => ?_)
          obtain ⟨rfl, rfl⟩ := hp1
          refine mx_Vv M w (kX0_take l D cy C ad (expireC (mthC E1 p dy) dy) H.size ((expireC (mthC E1 p dy) dy) (PB p + 8) dy) hB g2.1 (g2.2.2.2.2.2 dy (by omega))) (cwV 1 M.1.2.2.2.2 gX0_goThrough_X0_take rfl rfl rfl (by decide +kernel) ⟨Nat.le_of_ble_eq_true rfl, Nat.le_of_ble_eq_true rfl⟩) (mo_rec M w (hB 3 (by decide)) (g := G cy ad (expireC (mthC E1 p dy) dy)) (sh_3 cy ad ((expireC (mthC E1 p dy) dy) 3)) rfl) rfl hl.1 rfl (Nat.le_of_ble_eq_true rfl) dX0_goThrough_46 ⟨by decide, by decide⟩ (fun u1 H locs hp1 w => ?_)
          obtain rfl := hp1
          refine lv_aload_n hx hb dX0_goThrough_49 rfl (lv_at hl 0 rfl) ?_
          refine lv_aload_n hx hb dX0_goThrough_50 rfl (lv_at hl 1 rfl) ?_
          refine lv_iload_n hx hb dX0_goThrough_51 rfl (lv_at hl 3 rfl) ?_
          refine mx_Vv M w (kX0_payOn l D cy C ad (takeC (expireC (mthC E1 p dy) dy) ((expireC (mthC E1 p dy) dy) (PB p + 8) dy)) H.size p dy hp hC hB g3.1 g3.2.1 g3.2.2.2.2.1 (by omega)) (cwV 2 M.1.2.2.2.2 gX0_goThrough_X0_payOn rfl rfl rfl (by decide +kernel) ⟨Nat.le_of_ble_eq_true rfl, Nat.le_of_ble_eq_true rfl⟩) (mo_rec M w (hB 3 (by decide)) (g := G cy ad (takeC (expireC (mthC E1 p dy) dy) ((expireC (mthC E1 p dy) dy) (PB p + 8) dy))) (sh_3 cy ad ((takeC (expireC (mthC E1 p dy) dy) ((expireC (mthC E1 p dy) dy) (PB p + 8) dy)) 3)) rfl) rfl hl.1 rfl (Nat.le_of_ble_eq_true rfl) dX0_goThrough_52 ⟨by decide, by decide⟩ (fun u1 H locs hp1 w => ?_)
          obtain rfl := hp1
          refine lv_iinc (v := nI (dy + 1)) (lv' := [(3, .int (nI (dy + 1))), (0, .ref (ad 3)), (1, .ref (ad (PB p))), (2, .int (nI t0))]) hx hb dX0_goThrough_55 hl (k := 3) rfl (nI_inc _ 1) (by decide) rfl (fun ls hl => ?_)
          refine lv_goto (tgt := 9) hx hb dX0_goThrough_58 (by decide) ?_
          exact ih (k + 1) (dy + 1) (dayC E1 p dy) (by rw [hE, hdy]; rfl) (by omega) (Or.inl (by omega)) (GW_day hg (by omega))  (by omega) _ _ w ls (lv_sub hl [1, 2, 3, 0] rfl)
        · have q1 := of_decide_eq_true (bt_t h19)
          refine lv_aload_n hx hb dX0_goThrough_22 rfl (lv_at hl 0 rfl) ?_
          refine lv_aload_n hx hb dX0_goThrough_23 rfl (lv_at hl 1 rfl) ?_
          refine lv_iload_n hx hb dX0_goThrough_24 rfl (lv_at hl 3 rfl) ?_
          refine mx_Si M w (kX0_pointsOfMonth l D cy C ad E1 H.size p dy hp hC hg.2.2.1 hg.2.2.2.1 (by omega) (by omega)) (va_cwS 2 M.1.2.2.2.2 gX0_goThrough_X0_pointsOfMonth rfl rfl rfl (by decide +kernel) ⟨Nat.le_of_ble_eq_true rfl, Nat.le_of_ble_eq_true rfl⟩) rfl hl.1 rfl (Nat.le_of_ble_eq_true rfl) dX0_goThrough_25 ⟨by decide, by decide⟩ (fun r25 u1 H locs hp1 w => ?_)
          obtain ⟨rfl, rfl⟩ := hp1
          refine lv_iload_n hx hb dX0_goThrough_28 rfl (lv_at hl 3 rfl) ?_
          refine mx_Si M w (kX0_expiryOf l D cy C ad E1 H.size dy (by omega) (by omega)) (va_cwS 1 M.1.2.2.2.2 gX0_goThrough_X0_expiryOf rfl rfl rfl (by decide +kernel) ⟨Nat.le_of_ble_eq_true rfl, Nat.le_of_ble_eq_true rfl⟩) rfl hl.1 rfl (Nat.le_of_ble_eq_true rfl) dX0_goThrough_29 ⟨by decide, by decide⟩ (fun r29 u1 H locs hp1 w => ?_)
          obtain ⟨rfl, rfl⟩ := hp1
          refine mx_Vv M w (kX0_earn l D cy C ad E1 H.size (ptsC E1 p dy) (expC dy) hB hg.1 (ptsC_le hg dy) (by unfold expC; omega)) (cwV 2 M.1.2.2.2.2 gX0_goThrough_X0_earn rfl rfl rfl (by decide +kernel) ⟨Nat.le_of_ble_eq_true rfl, Nat.le_of_ble_eq_true rfl⟩) (mo_rec M w (hB 3 (by decide)) (g := G cy ad E1) (sh_3 cy ad (E1 3)) rfl) rfl hl.1 rfl (Nat.le_of_ble_eq_true rfl) dX0_goThrough_32 ⟨by decide, by decide⟩ (fun u1 H locs hp1 w => ?_)
          obtain rfl := hp1
          have q3 : mthC E1 p dy = earnC E1 (ptsC E1 p dy) (expC dy) := by unfold mthC; rw [if_pos (bt_t h19)]
          rw [← q3] at w
          have g1 := GW_mth hg (dy := dy) (by omega)
          have g2 := GW_expire g1 dy
          have g3 := GW_take g2 (expireC (mthC E1 p dy) dy (PB p + 8) dy)
          refine lv_aload_n hx hb dX0_goThrough_35 rfl (lv_at hl 0 rfl) ?_
          refine lv_iload_n hx hb dX0_goThrough_36 rfl (lv_at hl 3 rfl) ?_
          refine mx_Vv M w (kX0_expireOn l D cy C ad (mthC E1 p dy) H.size dy hB g1.1 (by omega)) (cwV 1 M.1.2.2.2.2 gX0_goThrough_X0_expireOn rfl rfl rfl (by decide +kernel) ⟨Nat.le_of_ble_eq_true rfl, Nat.le_of_ble_eq_true rfl⟩) (mo_rec M w (hB 3 (by decide)) (g := G cy ad (mthC E1 p dy)) (sh_3 cy ad ((mthC E1 p dy) 3)) rfl) rfl hl.1 rfl (Nat.le_of_ble_eq_true rfl) dX0_goThrough_37 ⟨by decide, by decide⟩ (fun u1 H locs hp1 w => ?_)
          obtain rfl := hp1
          refine lv_aload_n hx hb dX0_goThrough_40 rfl (lv_at hl 0 rfl) ?_
          refine lv_aload_n hx hb dX0_goThrough_41 rfl (lv_at hl 1 rfl) ?_
          refine lv_iload_n hx hb dX0_goThrough_42 rfl (lv_at hl 3 rfl) ?_
          refine mx_Vi M w (kX1_leaveOn l D cy C ad (expireC (mthC E1 p dy) dy) H.size p dy hp hC (by omega)) (cwV 1 M.1.2.2.2.2 gX0_goThrough_X1_leaveOn rfl rfl rfl (by decide +kernel) ⟨Nat.le_of_ble_eq_true rfl, Nat.le_of_ble_eq_true rfl⟩) (mo_rec M w (show (PB p) ∈ C from hC 0 (by decide)) (g := G cy ad (expireC (mthC E1 p dy) dy)) (sh_P0 cy ad ((expireC (mthC E1 p dy) dy) (PB p)) hp) rfl) rfl hl.1 rfl (Nat.le_of_ble_eq_true rfl) dX0_goThrough_43 ⟨by decide, by decide⟩ (fun r43 u1 H locs hp1 w => ?_)
          obtain ⟨rfl, rfl⟩ := hp1
          refine mx_Vv M w (kX0_take l D cy C ad (expireC (mthC E1 p dy) dy) H.size ((expireC (mthC E1 p dy) dy) (PB p + 8) dy) hB g2.1 (g2.2.2.2.2.2 dy (by omega))) (cwV 1 M.1.2.2.2.2 gX0_goThrough_X0_take rfl rfl rfl (by decide +kernel) ⟨Nat.le_of_ble_eq_true rfl, Nat.le_of_ble_eq_true rfl⟩) (mo_rec M w (hB 3 (by decide)) (g := G cy ad (expireC (mthC E1 p dy) dy)) (sh_3 cy ad ((expireC (mthC E1 p dy) dy) 3)) rfl) rfl hl.1 rfl (Nat.le_of_ble_eq_true rfl) dX0_goThrough_46 ⟨by decide, by decide⟩ (fun u1 H locs hp1 w => ?_)
          obtain rfl := hp1
          refine lv_aload_n hx hb dX0_goThrough_49 rfl (lv_at hl 0 rfl) ?_
          refine lv_aload_n hx hb dX0_goThrough_50 rfl (lv_at hl 1 rfl) ?_
          refine lv_iload_n hx hb dX0_goThrough_51 rfl (lv_at hl 3 rfl) ?_
          refine mx_Vv M w (kX0_payOn l D cy C ad (takeC (expireC (mthC E1 p dy) dy) ((expireC (mthC E1 p dy) dy) (PB p + 8) dy)) H.size p dy hp hC hB g3.1 g3.2.1 g3.2.2.2.2.1 (by omega)) (cwV 2 M.1.2.2.2.2 gX0_goThrough_X0_payOn rfl rfl rfl (by decide +kernel) ⟨Nat.le_of_ble_eq_true rfl, Nat.le_of_ble_eq_true rfl⟩) (mo_rec M w (hB 3 (by decide)) (g := G cy ad (takeC (expireC (mthC E1 p dy) dy) ((expireC (mthC E1 p dy) dy) (PB p + 8) dy))) (sh_3 cy ad ((takeC (expireC (mthC E1 p dy) dy) ((expireC (mthC E1 p dy) dy) (PB p + 8) dy)) 3)) rfl) rfl hl.1 rfl (Nat.le_of_ble_eq_true rfl) dX0_goThrough_52 ⟨by decide, by decide⟩ (fun u1 H locs hp1 w => ?_)
          obtain rfl := hp1
          refine lv_iinc (v := nI (dy + 1)) (lv' := [(3, .int (nI (dy + 1))), (0, .ref (ad 3)), (1, .ref (ad (PB p))), (2, .int (nI t0))]) hx hb dX0_goThrough_55 hl (k := 3) rfl (nI_inc _ 1) (by decide) rfl (fun ls hl => ?_)
          refine lv_goto (tgt := 9) hx hb dX0_goThrough_58 (by decide) ?_
          exact ih (k + 1) (dy + 1) (dayC E1 p dy) (by rw [hE, hdy]; rfl) (by omega) (Or.inl (by omega)) (GW_day hg (by omega))  (by omega) _ _ w ls (lv_sub hl [1, 2, 3, 0] rfl)
  have hl : lv_has ls 4 [(0, .ref (ad 3)), (1, .ref (ad (PB p))), (2, .int (nI t0))] := hl
  refine lv_aload_n hx hb dX0_goThrough_0 rfl (lv_at hl 0 rfl) ?_
  refine mx_Vv M w (kX0_clear l D cy C ad e s.heap.size hB) (cwV 0 M.1.2.2.2.2 gX0_goThrough_X0_clear rfl rfl rfl (by decide +kernel) ⟨Nat.le_of_ble_eq_true rfl, Nat.le_of_ble_eq_true rfl⟩) (mo_rec M w (hB 3 (by decide)) (g := G cy ad e) (sh_3 cy ad (e 3)) rfl) rfl hl.1 rfl (Nat.le_of_ble_eq_true rfl) dX0_goThrough_1 ⟨by decide, by decide⟩ (fun u1 H locs hp1 w => ?_)
  obtain rfl := hp1
  refine lv_aload_n hx hb dX0_goThrough_4 rfl (lv_at hl 1 rfl) ?_
  refine ex_get M w (show (PB p) ∈ C from hC 0 (by decide)) (sh_P0 cy ad ((clrC e) (PB p)) hp) rfl inX1 0 (by decide) f21 rfl dX0_goThrough_5 ?_
  refine W.eq (congrArg (fun z => F0 m 8 ls (.int (nI z) :: [])) (congrFun ((Off_clr e).P0 p) 0)) ?_
  refine lv_istore_n (lv' := [(3, .int (nI (e (PB p) 0))), (0, .ref (ad 3)), (1, .ref (ad (PB p))), (2, .int (nI t0))]) hx hb dX0_goThrough_8 rfl hl (by decide) rfl (fun ls hl => ?_)
  exact cut9 (3602 - e (PB p) 0 + 1) 0 (e (PB p) 0) (clrC e) rfl rfl (Or.inr rfl) (GW_clr hP0 hCh hPy hLv)  (by omega) _ _ w ls (lv_sub hl [1, 2, 3, 0] rfl)
end
section
/-! ===== MY KIT: ints of any sign, as numbers below 2^32 ===== -/
theorem nI_toIW (a : Nat) (h : a < 4294967296) : (nI a).toInt = if a < 2147483648 then (a : Int) else (a : Int) - 4294967296 := by
  unfold nI
  rw [Int32.toInt_ofNat']
  split <;> simp [Int.bmod_def] <;> omega
theorem nI_ltW {a b : Nat} (ha : a < 4294967296) (hb : b < 2147483648) : nI a < nI b ↔ a < b ∨ 2147483648 ≤ a := by
  rw [Int32.lt_iff_toInt_lt, nI_toIW a ha, nI_toIW b (by omega), if_pos hb]
  split <;> omega
theorem nI_leW {a b : Nat} (ha : a < 4294967296) (hb : b < 2147483648) : nI a ≤ nI b ↔ a ≤ b ∨ 2147483648 ≤ a := by
  rw [Int32.le_iff_toInt_le, nI_toIW a ha, nI_toIW b (by omega), if_pos hb]
  split <;> omega
theorem nI_ltV {a b : Nat} (ha : a < 4294967296) (hb : b < 2147483648) : nI b < nI a ↔ b < a ∧ a < 2147483648 := by
  rw [Int32.lt_iff_toInt_lt, nI_toIW a ha, nI_toIW b (by omega), if_pos hb]
  split <;> omega
theorem nI_leV {a b : Nat} (ha : a < 4294967296) (hb : b < 2147483648) : nI b ≤ nI a ↔ b ≤ a ∧ a < 2147483648 := by
  rw [Int32.le_iff_toInt_le, nI_toIW a ha, nI_toIW b (by omega), if_pos hb]
  split <;> omega
theorem nI_eqW {a b : Nat} (ha : a < 4294967296) (hb : b < 4294967296) : nI a = nI b ↔ a = b := by
  rw [← Int32.toInt_inj, nI_toIW a ha, nI_toIW b hb]
  split <;> split <;> omega
/-- every int is one -/
theorem nI_all (x : Int32) : ∃ k, k < 4294967296 ∧ x = nI k := by
  refine ⟨(if 0 ≤ x.toInt then x.toInt.toNat else (x.toInt + 4294967296).toNat), ?_, ?_⟩
  · have h1 := x.toInt_lt
    have h2 := x.le_toInt
    split <;> omega
  · have h1 := x.toInt_lt
    have h2 := x.le_toInt
    rw [← Int32.toInt_inj, nI_toIW _ (by split <;> omega)]
    split <;> split <;> omega
section MWR
variable {p : Program} {l : Launch} {e : Env} {R : Room} {s : State} {m : MethodId} {args : Array Value} {below : List Frame} {meth : Method} {c : Code} {H : Heap} {locs : List Loc} {cells slots : Nat} {Q : State → Prop}
variable {cc : ByteArray} {pc : Nat} {ls : Array Slot} {rest : List Value}
theorem mw_lt (hx : p.tables.exec = Jvm.exec) (hb9 : c.code = cc) {a b : Nat} (ha : a < 4294967296) (hb : b < 2147483648) {off : Int} (tgt : Nat) (hdg : decode cc pc = .ok (.if_icmp .lt off, 3)) (ht : (pc : Int) + off = (tgt : Int)) (kt : a < b ∨ 2147483648 ≤ a → W p l e R s m args below meth c H locs cells slots Q (F0 m tgt ls rest)) (kf : b ≤ a ∧ a < 2147483648 → W p l e R s m args below meth c H locs cells slots Q (F0 m (pc + 3) ls rest)) : W p l e R s m args below meth c H locs cells slots Q (F0 m pc ls (.int (nI b) :: .int (nI a) :: rest)) := lv_icmp_lt hx hb9 hdg ht (fun h => kt ((nI_ltW ha hb).mp h)) (fun h => kf (by have z := (not_congr (nI_ltW ha hb)).mp h; omega))
theorem mw_ge (hx : p.tables.exec = Jvm.exec) (hb9 : c.code = cc) {a b : Nat} (ha : a < 4294967296) (hb : b < 2147483648) {off : Int} (tgt : Nat) (hdg : decode cc pc = .ok (.if_icmp .ge off, 3)) (ht : (pc : Int) + off = (tgt : Int)) (kt : b ≤ a ∧ a < 2147483648 → W p l e R s m args below meth c H locs cells slots Q (F0 m tgt ls rest)) (kf : a < b ∨ 2147483648 ≤ a → W p l e R s m args below meth c H locs cells slots Q (F0 m (pc + 3) ls rest)) : W p l e R s m args below meth c H locs cells slots Q (F0 m pc ls (.int (nI b) :: .int (nI a) :: rest)) := lv_icmp_ge hx hb9 hdg ht (fun h => kt ((nI_leV ha hb).mp h)) (fun h => kf (by have z := (not_congr (nI_leV ha hb)).mp h; omega))
theorem mw_gt (hx : p.tables.exec = Jvm.exec) (hb9 : c.code = cc) {a b : Nat} (ha : a < 4294967296) (hb : b < 2147483648) {off : Int} (tgt : Nat) (hdg : decode cc pc = .ok (.if_icmp .gt off, 3)) (ht : (pc : Int) + off = (tgt : Int)) (kt : b < a ∧ a < 2147483648 → W p l e R s m args below meth c H locs cells slots Q (F0 m tgt ls rest)) (kf : a ≤ b ∨ 2147483648 ≤ a → W p l e R s m args below meth c H locs cells slots Q (F0 m (pc + 3) ls rest)) : W p l e R s m args below meth c H locs cells slots Q (F0 m pc ls (.int (nI b) :: .int (nI a) :: rest)) := lv_icmp_gt hx hb9 hdg ht (fun h => kt ((nI_ltV ha hb).mp h)) (fun h => kf (by have z := (not_congr (nI_ltV ha hb)).mp h; omega))
theorem mw_le (hx : p.tables.exec = Jvm.exec) (hb9 : c.code = cc) {a b : Nat} (ha : a < 4294967296) (hb : b < 2147483648) {off : Int} (tgt : Nat) (hdg : decode cc pc = .ok (.if_icmp .le off, 3)) (ht : (pc : Int) + off = (tgt : Int)) (kt : a ≤ b ∨ 2147483648 ≤ a → W p l e R s m args below meth c H locs cells slots Q (F0 m tgt ls rest)) (kf : b < a ∧ a < 2147483648 → W p l e R s m args below meth c H locs cells slots Q (F0 m (pc + 3) ls rest)) : W p l e R s m args below meth c H locs cells slots Q (F0 m pc ls (.int (nI b) :: .int (nI a) :: rest)) := lv_icmp_le hx hb9 hdg ht (fun h => kt ((nI_leW ha hb).mp h)) (fun h => kf (by have z := (not_congr (nI_leW ha hb)).mp h; omega))
theorem mw_gt2 (hx : p.tables.exec = Jvm.exec) (hb9 : c.code = cc) {a b : Nat} (ha : a < 2147483648) (hb : b < 4294967296) {off : Int} (tgt : Nat) (hdg : decode cc pc = .ok (.if_icmp .gt off, 3)) (ht : (pc : Int) + off = (tgt : Int)) (kt : b < a ∨ 2147483648 ≤ b → W p l e R s m args below meth c H locs cells slots Q (F0 m tgt ls rest)) (kf : a ≤ b ∧ b < 2147483648 → W p l e R s m args below meth c H locs cells slots Q (F0 m (pc + 3) ls rest)) : W p l e R s m args below meth c H locs cells slots Q (F0 m pc ls (.int (nI b) :: .int (nI a) :: rest)) := lv_icmp_gt hx hb9 hdg ht (fun h => kt ((nI_ltW hb ha).mp h)) (fun h => kf (by have z := (not_congr (nI_ltW hb ha)).mp h; omega))
theorem mw_eq (hx : p.tables.exec = Jvm.exec) (hb9 : c.code = cc) {a b : Nat} (ha : a < 4294967296) (hb : b < 4294967296) {off : Int} (tgt : Nat) (hdg : decode cc pc = .ok (.if_icmp .eq off, 3)) (ht : (pc : Int) + off = (tgt : Int)) (kt : a = b → W p l e R s m args below meth c H locs cells slots Q (F0 m tgt ls rest)) (kf : ¬ a = b → W p l e R s m args below meth c H locs cells slots Q (F0 m (pc + 3) ls rest)) : W p l e R s m args below meth c H locs cells slots Q (F0 m pc ls (.int (nI b) :: .int (nI a) :: rest)) := lv_icmp_eq hx hb9 hdg ht (fun h => kt ((nI_eqW ha hb).mp h)) (fun h => kf (fun z => h ((nI_eqW ha hb).mpr z)))
theorem mw_ne (hx : p.tables.exec = Jvm.exec) (hb9 : c.code = cc) {a b : Nat} (ha : a < 4294967296) (hb : b < 4294967296) {off : Int} (tgt : Nat) (hdg : decode cc pc = .ok (.if_icmp .ne off, 3)) (ht : (pc : Int) + off = (tgt : Int)) (kt : ¬ a = b → W p l e R s m args below meth c H locs cells slots Q (F0 m tgt ls rest)) (kf : a = b → W p l e R s m args below meth c H locs cells slots Q (F0 m (pc + 3) ls rest)) : W p l e R s m args below meth c H locs cells slots Q (F0 m pc ls (.int (nI b) :: .int (nI a) :: rest)) := lv_icmp_ne hx hb9 hdg ht (fun h => kt (fun z => h ((nI_eqW ha hb).mpr z))) (fun h => kf ((nI_eqW ha hb).mp h))
theorem mw_if_lt (hx : p.tables.exec = Jvm.exec) (hb9 : c.code = cc) {a : Nat} (ha : a < 4294967296) {off : Int} (tgt : Nat) (hdg : decode cc pc = .ok (.ifCond .lt off, 3)) (ht : (pc : Int) + off = (tgt : Int)) (kt : 2147483648 ≤ a → W p l e R s m args below meth c H locs cells slots Q (F0 m tgt ls rest)) (kf : a < 2147483648 → W p l e R s m args below meth c H locs cells slots Q (F0 m (pc + 3) ls rest)) : W p l e R s m args below meth c H locs cells slots Q (F0 m pc ls (.int (nI a) :: rest)) := lv_if_lt hx hb9 hdg ht (fun h => kt (by have z := (nI_ltW ha (b := 0) (by omega)).mp h; omega)) (fun h => kf (by have z := (not_congr (nI_ltW ha (b := 0) (by omega))).mp h; omega))
theorem mw_if_eq (hx : p.tables.exec = Jvm.exec) (hb9 : c.code = cc) {a : Nat} (ha : a < 4294967296) {off : Int} (tgt : Nat) (hdg : decode cc pc = .ok (.ifCond .eq off, 3)) (ht : (pc : Int) + off = (tgt : Int)) (kt : a = 0 → W p l e R s m args below meth c H locs cells slots Q (F0 m tgt ls rest)) (kf : ¬ a = 0 → W p l e R s m args below meth c H locs cells slots Q (F0 m (pc + 3) ls rest)) : W p l e R s m args below meth c H locs cells slots Q (F0 m pc ls (.int (nI a) :: rest)) := lv_if_eq hx hb9 hdg ht (fun h => kt ((nI_eqW ha (b := 0) (by omega)).mp h)) (fun h => kf (fun z => h ((nI_eqW ha (b := 0) (by omega)).mpr z)))
theorem mw_if_ne (hx : p.tables.exec = Jvm.exec) (hb9 : c.code = cc) {a : Nat} (ha : a < 4294967296) {off : Int} (tgt : Nat) (hdg : decode cc pc = .ok (.ifCond .ne off, 3)) (ht : (pc : Int) + off = (tgt : Int)) (kt : ¬ a = 0 → W p l e R s m args below meth c H locs cells slots Q (F0 m tgt ls rest)) (kf : a = 0 → W p l e R s m args below meth c H locs cells slots Q (F0 m (pc + 3) ls rest)) : W p l e R s m args below meth c H locs cells slots Q (F0 m pc ls (.int (nI a) :: rest)) := lv_if_ne hx hb9 hdg ht (fun h => kt (fun z => h ((nI_eqW ha (b := 0) (by omega)).mpr z))) (fun h => kf ((nI_eqW ha (b := 0) (by omega)).mp h))
end MWR
/-- the codes that stand -/
def CC (np nr : Nat) (C : List Nat) : Prop := ∀ c, c ∈ C ↔ c < 26 ∨ (32 ≤ c ∧ c < 32 + 16 * np ∧ c % 16 < 9) ∨ (200 ≤ c ∧ c < 200 + nr)
theorem CC.B {np nr : Nat} {C : List Nat} (h : CC np nr C) : ∀ k, k < 26 → k ∈ C := fun k hk => (h k).mpr (Or.inl hk)
theorem CC.P {np nr : Nat} {C : List Nat} (h : CC np nr C) {p : Nat} (hp : p < np) : ∀ k, k < 9 → PB p + k ∈ C := fun k hk => (h _).mpr (Or.inr (Or.inl (by unfold PB; omega)))
theorem CC.R {np nr : Nat} {C : List Nat} (h : CC np nr C) : ∀ q, q < nr → RB q ∈ C := fun q hq => (h _).mpr (Or.inr (Or.inr (by unfold RB; omega)))
/-- what stands of the class's numbers between calls -/
def CWp (e : Nat → Nat → Nat) (p : Nat) : Prop := P0 e p ∧ PCh e p ∧ PSp e p ∧ PPy e p ∧ PLv e p ∧ PRq e p (e 0 3) ∧ e (PB p) 7 ≤ e 0 3 ∧ e (PB p) 10 ≤ e 0 4 ∧ e (PB p) 13 ≤ e 0 5
def CW (e : Nat → Nat → Nat) : Prop := e 0 1 ≤ 8 ∧ e 0 3 ≤ 40 ∧ e 0 4 ≤ 30 ∧ e 0 5 ≤ 20 ∧ e 0 6 ≤ 3600 ∧ (∀ i, i < 8 → e 1 i = if i < e 0 1 then i + 1 else 0) ∧ (∀ i, i < 40 → e 2 i = if i < e 0 3 then i + 1 else 0) ∧ RW e (e 0 3) ∧ (∀ q, q < e 0 3 → e (RB q) 0 < e 0 1 ∧ e (PB (e (RB q) 0)) 0 ≤ e (RB q) 2 ∧ e (RB q) 2 ≤ e (RB q) 3) ∧ ∀ p, p < e 0 1 → CWp e p
section
variable {e : Nat → Nat → Nat}
theorem CW.np (h : CW e) : e 0 1 ≤ 8 := h.1
theorem CW.nr (h : CW e) : e 0 3 ≤ 40 := h.2.1
theorem CW.ns (h : CW e) : e 0 4 ≤ 30 := h.2.2.1
theorem CW.ny (h : CW e) : e 0 5 ≤ 20 := h.2.2.2.1
theorem CW.td (h : CW e) : e 0 6 ≤ 3600 := h.2.2.2.2.1
theorem CW.ps (h : CW e) : ∀ i, i < 8 → e 1 i = if i < e 0 1 then i + 1 else 0 := h.2.2.2.2.2.1
theorem CW.rs (h : CW e) : ∀ i, i < 40 → e 2 i = if i < e 0 3 then i + 1 else 0 := h.2.2.2.2.2.2.1
theorem CW.rw' (h : CW e) : RW e (e 0 3) := h.2.2.2.2.2.2.2.1
theorem CW.rq (h : CW e) : ∀ q, q < e 0 3 → e (RB q) 0 < e 0 1 ∧ e (PB (e (RB q) 0)) 0 ≤ e (RB q) 2 ∧ e (RB q) 2 ≤ e (RB q) 3 := h.2.2.2.2.2.2.2.2.1
theorem CW.p (h : CW e) {p : Nat} (hp : p < e 0 1) : CWp e p := h.2.2.2.2.2.2.2.2.2 p hp
theorem CWp.a0 {p : Nat} (h : CWp e p) : P0 e p := h.1
theorem CWp.ch {p : Nat} (h : CWp e p) : PCh e p := h.2.1
theorem CWp.sp {p : Nat} (h : CWp e p) : PSp e p := h.2.2.1
theorem CWp.py {p : Nat} (h : CWp e p) : PPy e p := h.2.2.2.1
theorem CWp.lv {p : Nat} (h : CWp e p) : PLv e p := h.2.2.2.2.1
theorem CWp.rq {p : Nat} (h : CWp e p) : PRq e p (e 0 3) := h.2.2.2.2.2.1
end
end
section
set_option maxHeartbeats 4000000 in
set_option maxRecDepth 100000 in
/-- Leavebank.checkDay(earliest, day) -/
theorem kX3_checkDay (l : Launch) (hfl : l.stackTraces = false) (D : va_G) (cy : Nat → ClassId) (C : List Nat) (ad : Nat → Nat) (e : Nat → Nat → Nat) (sz : Nat) (a d : Nat) (ha : a ≤ 3600) (hd : d < 4294967296) : vx_Met l yX3_checkDay wsX3_checkDay ({ frames := 6, cells := 1, slots := 6, locals := 82 } : Room) (PreX D cy (C, ad, G cy ad e) sz [.int (nI a), .int (nI d)]) (va_Qv (fun (u : WT) => (a ≤ d ∧ d ≤ 3600) ∧ u = (C, ad, G cy ad e)) (WB D cy (AW (C, ad, G cy ad e) sz)) (AW (C, ad, G cy ad e) sz)) (vx_X (fun (z : String × WT) => ¬ (a ≤ d ∧ d ≤ 3600) ∧ z = (eIA, (C, ad, G cy ad e))) (XB D cy (AW (C, ad, G cy ad e) sz)) (AW (C, ad, G cy ad e) sz)) 1 6 (AW (C, ad, G cy ad e) sz) := by
  refine mxx_start (cc := cX3_checkDay) (maxL := 2) (ret := none) (by decide) rfl (Nat.le_of_ble_eq_true rfl) ?_
  intro p9 e9 s m args below meth c hsz hr hnm M w Th hxt ls hl
  have hx := M.1.1
  have hb := M.1.2.1
  have hl : lv_has ls 2 [(0, .int (nI a)), (1, .int (nI d))] := hl
  refine lv_iload_n hx hb dX3_checkDay_0 rfl (lv_at hl 1 rfl) ?_
  refine lv_iload_n hx hb dX3_checkDay_1 rfl (lv_at hl 0 rfl) ?_
  refine mw_lt hx hb hd (by omega) 12 dX3_checkDay_2 (by decide) (fun h2 => ?_) (fun h2 => ?_)
  · exact mx_throw M w Th hfl hxt (cls := eIA) (text := "day is out of range") (is := 181) (by decide +kernel) (show Cond.classLink RX3 28 eIA ∈ wsX3_checkDay by decide +kernel) (show Cond.initialized eIA ∈ wsX3_checkDay by decide +kernel) (by decide +kernel) rfl (show ∀ w ∈ (vx_atS RX3 32 eIA eUP).filter goodWord, w ∈ wsX3_checkDay by decide +kernel) (by decide +kernel) (by decide +kernel) hl.1 dX3_checkDay_12 dX3_checkDay_15 dX3_checkDay_16 dX3_checkDay_18 dX3_checkDay_21 (by decide) (Nat.le_of_ble_eq_true rfl) (by decide) (by decide) ⟨by omega, rfl⟩ (by decide) (by decide)
  · refine lv_iload_n hx hb dX3_checkDay_5 rfl (lv_at hl 1 rfl) ?_
    refine lv_sipush (v := nI 3600) hx hb dX3_checkDay_6 (by decide) ?_
    refine mw_le hx hb hd (by decide) 22 dX3_checkDay_9 (by decide) (fun h9 => ?_) (fun h9 => ?_)
    · refine vx_ret ?_
      exact mx_vret M w hr ⟨by omega, rfl⟩ (by decide) (by decide) dX3_checkDay_22
    · exact mx_throw M w Th hfl hxt (cls := eIA) (text := "day is out of range") (is := 181) (by decide +kernel) (show Cond.classLink RX3 28 eIA ∈ wsX3_checkDay by decide +kernel) (show Cond.initialized eIA ∈ wsX3_checkDay by decide +kernel) (by decide +kernel) rfl (show ∀ w ∈ (vx_atS RX3 32 eIA eUP).filter goodWord, w ∈ wsX3_checkDay by decide +kernel) (by decide +kernel) (by decide +kernel) hl.1 dX3_checkDay_12 dX3_checkDay_15 dX3_checkDay_16 dX3_checkDay_18 dX3_checkDay_21 (by decide) (Nat.le_of_ble_eq_true rfl) (by decide) (by decide) ⟨by omega, rfl⟩ (by decide) (by decide)

set_option maxHeartbeats 4000000 in
set_option maxRecDepth 100000 in
/-- Leavebank.checkDays(earliest, first, last) -/
theorem kX3_checkDays (l : Launch) (hfl : l.stackTraces = false) (D : va_G) (cy : Nat → ClassId) (C : List Nat) (ad : Nat → Nat) (e : Nat → Nat → Nat) (sz : Nat) (a f t : Nat) (ha : a ≤ 3600) (hf : f < 4294967296) (ht : t < 4294967296) : vx_Met l yX3_checkDays wsX3_checkDays ({ frames := 6, cells := 1, slots := 6, locals := 82 } : Room) (PreX D cy (C, ad, G cy ad e) sz [.int (nI a), .int (nI f), .int (nI t)]) (va_Qv (fun (u : WT) => (a ≤ f ∧ f ≤ t ∧ t ≤ 3600) ∧ u = (C, ad, G cy ad e)) (WB D cy (AW (C, ad, G cy ad e) sz)) (AW (C, ad, G cy ad e) sz)) (vx_X (fun (z : String × WT) => ¬ (a ≤ f ∧ f ≤ t ∧ t ≤ 3600) ∧ z = (eIA, (C, ad, G cy ad e))) (XB D cy (AW (C, ad, G cy ad e) sz)) (AW (C, ad, G cy ad e) sz)) 1 6 (AW (C, ad, G cy ad e) sz) := by
  refine mxx_start (cc := cX3_checkDays) (maxL := 3) (ret := none) (by decide) rfl (Nat.le_of_ble_eq_true rfl) ?_
  intro p9 e9 s m args below meth c hsz hr hnm M w Th hxt ls hl
  have hx := M.1.1
  have hb := M.1.2.1
  have hl : lv_has ls 3 [(0, .int (nI a)), (1, .int (nI f)), (2, .int (nI t))] := hl
  refine lv_iload_n hx hb dX3_checkDays_0 rfl (lv_at hl 1 rfl) ?_
  refine lv_iload_n hx hb dX3_checkDays_1 rfl (lv_at hl 0 rfl) ?_
  refine mw_lt hx hb hf (by omega) 17 dX3_checkDays_2 (by decide) (fun h2 => ?_) (fun h2 => ?_)
  · exact mx_throw M w Th hfl hxt (cls := eIA) (text := "first or last is out of range") (is := 183) (by decide +kernel) (show Cond.classLink RX3 28 eIA ∈ wsX3_checkDays by decide +kernel) (show Cond.initialized eIA ∈ wsX3_checkDays by decide +kernel) (by decide +kernel) rfl (show ∀ w ∈ (vx_atS RX3 32 eIA eUP).filter goodWord, w ∈ wsX3_checkDays by decide +kernel) (by decide +kernel) (by decide +kernel) hl.1 dX3_checkDays_17 dX3_checkDays_20 dX3_checkDays_21 dX3_checkDays_23 dX3_checkDays_26 (by decide) (Nat.le_of_ble_eq_true rfl) (by decide) (by decide) ⟨by omega, rfl⟩ (by decide) (by decide)
  · refine lv_iload_n hx hb dX3_checkDays_5 rfl (lv_at hl 2 rfl) ?_
    refine lv_iload_n hx hb dX3_checkDays_6 rfl (lv_at hl 1 rfl) ?_
    refine mw_lt hx hb ht (by omega) 17 dX3_checkDays_7 (by decide) (fun h7 => ?_) (fun h7 => ?_)
    · exact mx_throw M w Th hfl hxt (cls := eIA) (text := "first or last is out of range") (is := 183) (by decide +kernel) (show Cond.classLink RX3 28 eIA ∈ wsX3_checkDays by decide +kernel) (show Cond.initialized eIA ∈ wsX3_checkDays by decide +kernel) (by decide +kernel) rfl (show ∀ w ∈ (vx_atS RX3 32 eIA eUP).filter goodWord, w ∈ wsX3_checkDays by decide +kernel) (by decide +kernel) (by decide +kernel) hl.1 dX3_checkDays_17 dX3_checkDays_20 dX3_checkDays_21 dX3_checkDays_23 dX3_checkDays_26 (by decide) (Nat.le_of_ble_eq_true rfl) (by decide) (by decide) ⟨by omega, rfl⟩ (by decide) (by decide)
    · refine lv_iload_n hx hb dX3_checkDays_10 rfl (lv_at hl 2 rfl) ?_
      refine lv_sipush (v := nI 3600) hx hb dX3_checkDays_11 (by decide) ?_
      refine mw_le hx hb ht (by decide) 27 dX3_checkDays_14 (by decide) (fun h14 => ?_) (fun h14 => ?_)
      · refine vx_ret ?_
        exact mx_vret M w hr ⟨by omega, rfl⟩ (by decide) (by decide) dX3_checkDays_27
      · exact mx_throw M w Th hfl hxt (cls := eIA) (text := "first or last is out of range") (is := 183) (by decide +kernel) (show Cond.classLink RX3 28 eIA ∈ wsX3_checkDays by decide +kernel) (show Cond.initialized eIA ∈ wsX3_checkDays by decide +kernel) (by decide +kernel) rfl (show ∀ w ∈ (vx_atS RX3 32 eIA eUP).filter goodWord, w ∈ wsX3_checkDays by decide +kernel) (by decide +kernel) (by decide +kernel) hl.1 dX3_checkDays_17 dX3_checkDays_20 dX3_checkDays_21 dX3_checkDays_23 dX3_checkDays_26 (by decide) (Nat.le_of_ble_eq_true rfl) (by decide) (by decide) ⟨by omega, rfl⟩ (by decide) (by decide)

set_option maxHeartbeats 4000000 in
set_option maxRecDepth 100000 in
/-- Leavebank.checkHours(hours) -/
theorem kX3_checkHours (l : Launch) (hfl : l.stackTraces = false) (D : va_G) (cy : Nat → ClassId) (C : List Nat) (ad : Nat → Nat) (e : Nat → Nat → Nat) (sz : Nat) (h : Nat) (hh : h < 4294967296) : vx_Met l yX3_checkHours wsX3_checkHours ({ frames := 6, cells := 1, slots := 6, locals := 82 } : Room) (PreX D cy (C, ad, G cy ad e) sz [.int (nI h)]) (va_Qv (fun (u : WT) => (1 ≤ h ∧ h ≤ 10) ∧ u = (C, ad, G cy ad e)) (WB D cy (AW (C, ad, G cy ad e) sz)) (AW (C, ad, G cy ad e) sz)) (vx_X (fun (z : String × WT) => ¬ (1 ≤ h ∧ h ≤ 10) ∧ z = (eIA, (C, ad, G cy ad e))) (XB D cy (AW (C, ad, G cy ad e) sz)) (AW (C, ad, G cy ad e) sz)) 1 6 (AW (C, ad, G cy ad e) sz) := by
  refine mxx_start (cc := cX3_checkHours) (maxL := 1) (ret := none) (by decide) rfl (Nat.le_of_ble_eq_true rfl) ?_
  intro p9 e9 s m args below meth c hsz hr hnm M w Th hxt ls hl
  have hx := M.1.1
  have hb := M.1.2.1
  have hl : lv_has ls 1 [(0, .int (nI h))] := hl
  refine lv_iload_n hx hb dX3_checkHours_0 rfl (lv_at hl 0 rfl) ?_
  refine lv_iconst (v := nI 1) hx hb dX3_checkHours_1 (by decide) ?_
  refine mw_lt hx hb hh (by decide) 11 dX3_checkHours_2 (by decide) (fun h2 => ?_) (fun h2 => ?_)
  · exact mx_throw M w Th hfl hxt (cls := eIA) (text := "hours are out of range") (is := 185) (by decide +kernel) (show Cond.classLink RX3 28 eIA ∈ wsX3_checkHours by decide +kernel) (show Cond.initialized eIA ∈ wsX3_checkHours by decide +kernel) (by decide +kernel) rfl (show ∀ w ∈ (vx_atS RX3 32 eIA eUP).filter goodWord, w ∈ wsX3_checkHours by decide +kernel) (by decide +kernel) (by decide +kernel) hl.1 dX3_checkHours_11 dX3_checkHours_14 dX3_checkHours_15 dX3_checkHours_17 dX3_checkHours_20 (by decide) (Nat.le_of_ble_eq_true rfl) (by decide) (by decide) ⟨by omega, rfl⟩ (by decide) (by decide)
  · refine lv_iload_n hx hb dX3_checkHours_5 rfl (lv_at hl 0 rfl) ?_
    refine lv_bipush (v := nI 10) hx hb dX3_checkHours_6 (by decide) ?_
    refine mw_le hx hb hh (by decide) 21 dX3_checkHours_8 (by decide) (fun h8 => ?_) (fun h8 => ?_)
    · refine vx_ret ?_
      exact mx_vret M w hr ⟨by omega, rfl⟩ (by decide) (by decide) dX3_checkHours_21
    · exact mx_throw M w Th hfl hxt (cls := eIA) (text := "hours are out of range") (is := 185) (by decide +kernel) (show Cond.classLink RX3 28 eIA ∈ wsX3_checkHours by decide +kernel) (show Cond.initialized eIA ∈ wsX3_checkHours by decide +kernel) (by decide +kernel) rfl (show ∀ w ∈ (vx_atS RX3 32 eIA eUP).filter goodWord, w ∈ wsX3_checkHours by decide +kernel) (by decide +kernel) (by decide +kernel) hl.1 dX3_checkHours_11 dX3_checkHours_14 dX3_checkHours_15 dX3_checkHours_17 dX3_checkHours_20 (by decide) (Nat.le_of_ble_eq_true rfl) (by decide) (by decide) ⟨by omega, rfl⟩ (by decide) (by decide)

set_option maxHeartbeats 4000000 in
set_option maxRecDepth 100000 in
/-- Leavebank.personAt(number) -/
theorem kX3_personAt (l : Launch) (hfl : l.stackTraces = false) (D : va_G) (cy : Nat → ClassId) (C : List Nat) (ad : Nat → Nat) (e : Nat → Nat → Nat) (sz : Nat) (k : Nat) (hB : ∀ k, k < 26 → k ∈ C) (hW : CW e) (hk : k < 4294967296) : vx_Met l yX3_personAt wsX3_personAt ({ frames := 6, cells := 1, slots := 6, locals := 82 } : Room) (PreX D cy (C, ad, G cy ad e) sz [.ref (ad 0), .int (nI k)]) (va_Qr (fun (u : WT) => k < e 0 1 ∧ u = (C, ad, G cy ad e)) (fun (u : WT) (a : Nat) (t : State) => (a = ad (PB k)) ∧ WB D cy (AW (C, ad, G cy ad e) sz) u t) (AW (C, ad, G cy ad e) sz)) (vx_X (fun (z : String × WT) => ¬ (k < e 0 1) ∧ z = (eIO, (C, ad, G cy ad e))) (XB D cy (AW (C, ad, G cy ad e) sz)) (AW (C, ad, G cy ad e) sz)) 1 6 (AW (C, ad, G cy ad e) sz) := by
  refine mxx_start (cc := cX3_personAt) (maxL := 3) (ret := (some (.object "Leavebank$Person"))) (by decide) rfl (Nat.le_of_ble_eq_true rfl) ?_
  intro p9 e9 s m args below meth c hsz hr hnm M w Th hxt ls hl
  have hx := M.1.1
  have hb := M.1.2.1
  have inX3 : ∀ w ∈ wsX30, w ∈ wsX3_personAt := by decide +kernel
  have f11 : Cond.fieldLink RX3 11 RX3 "persons" "[LLeavebank$Person;" ∈ wsX3_personAt := by decide +kernel
  have hl : lv_has ls 3 [(0, .ref (ad 0)), (1, .int (nI k))] := hl
  refine lv_iload_n hx hb dX3_personAt_0 rfl (lv_at hl 1 rfl) ?_
  refine mw_if_lt hx hb hk 13 dX3_personAt_1 (by decide) (fun h1 => ?_) (fun h1 => ?_)
  · exact mx_throw M w Th hfl hxt (cls := eIO) (text := "no such person") (is := 176) (by decide +kernel) (show Cond.classLink RX3 174 eIO ∈ wsX3_personAt by decide +kernel) (show Cond.initialized eIO ∈ wsX3_personAt by decide +kernel) (by decide +kernel) rfl (show ∀ w ∈ (vx_atS RX3 178 eIO eUP).filter goodWord, w ∈ wsX3_personAt by decide +kernel) (by decide +kernel) (by decide +kernel) hl.1 dX3_personAt_13 dX3_personAt_16 dX3_personAt_17 dX3_personAt_19 dX3_personAt_22 (by decide) (Nat.le_of_ble_eq_true rfl) (by decide) (by decide) ⟨fun z => by have z1 := hW.np; omega, rfl⟩ (by decide) (by decide)
  · refine lv_iload_n hx hb dX3_personAt_4 rfl (lv_at hl 1 rfl) ?_
    refine lv_aload_n hx hb dX3_personAt_5 rfl (lv_at hl 0 rfl) ?_
    refine ex_get M w (hB 0 (by decide)) (sh_0 cy ad (e 0)) rfl inX3 0 (by decide) f11 rfl dX3_personAt_6 ?_
    refine mx_alen M w (hB 1 (by decide)) 2 (g := G cy ad e) (sh_1 cy ad _) rfl (n := 8) rfl dX3_personAt_9 ?_
    refine mw_lt hx hb hk (by decide) 23 dX3_personAt_10 (by decide) (fun h10 => ?_) (fun h10 => ?_)
    · refine lv_aload_n hx hb dX3_personAt_23 rfl (lv_at hl 0 rfl) ?_
      refine ex_get M w (hB 0 (by decide)) (sh_0 cy ad (e 0)) rfl inX3 0 (by decide) f11 rfl dX3_personAt_24 ?_
      refine lv_iload_n hx hb dX3_personAt_27 rfl (lv_at hl 1 rfl) ?_
      have q1 := hW.ps k (by omega)
      refine mx_aldP M w (hB 1 (by decide)) (g := G cy ad e) (sh_1 cy ad _) (vp_in_nI (by omega) (by decide)) dX3_personAt_28 ?_
      rw [nI_clamp (show k < 2147483648 by omega)]
      by_cases q0 : k < e 0 1
      · rw [if_pos q0] at q1
        refine W.eq (congrArg (fun z => F0 m 29 ls (va_rf z :: [])) (rfP_some (v := e 1) (j := k) (by omega))) ?_
        rw [show e 1 k - 1 = k by omega]
        refine lv_astore_n (lv' := [(2, .ref (ad (PB k))), (0, .ref (ad 0)), (1, .int (nI k))]) hx hb dX3_personAt_29 rfl hl (by decide) rfl (fun ls hl => ?_)
        refine lv_aload_n hx hb dX3_personAt_30 rfl (lv_at hl 0 rfl) ?_
        refine lv_ifnonnull (tgt := 44) hx hb dX3_personAt_31 (by decide) ?_
        refine lv_aload_n hx hb dX3_personAt_44 rfl (lv_at hl 0 rfl) ?_
        refine vx_ret ?_
        exact mx_aret M w hr (Or.inl ⟨_, rfl⟩) (a := (ad (PB k))) ⟨q0, rfl⟩ rfl (by decide) (by decide) dX3_personAt_45
      · rw [if_neg q0] at q1
        refine W.eq (congrArg (fun z => F0 m 29 ls (va_rf z :: [])) (rfP_none (v := e 1) (j := k) q1)) ?_
        refine lv_astore_nN (lv' := [(2, .null), (0, .ref (ad 0)), (1, .int (nI k))]) hx hb dX3_personAt_29 rfl hl (by decide) rfl (fun ls hl => ?_)
        refine lv_aload_nN hx hb dX3_personAt_30 rfl (lv_at hl 0 rfl) ?_
        refine lv_ifnonnullN hx hb dX3_personAt_31 ?_
        exact mx_throw M w Th hfl hxt (cls := eIO) (text := "no such person") (is := 176) (by decide +kernel) (show Cond.classLink RX3 174 eIO ∈ wsX3_personAt by decide +kernel) (show Cond.initialized eIO ∈ wsX3_personAt by decide +kernel) (by decide +kernel) rfl (show ∀ w ∈ (vx_atS RX3 178 eIO eUP).filter goodWord, w ∈ wsX3_personAt by decide +kernel) (by decide +kernel) (by decide +kernel) hl.1 dX3_personAt_34 dX3_personAt_37 dX3_personAt_38 dX3_personAt_40 dX3_personAt_43 (by decide) (Nat.le_of_ble_eq_true rfl) (by decide) (by decide) ⟨q0, rfl⟩ (by decide) (by decide)
    · exact mx_throw M w Th hfl hxt (cls := eIO) (text := "no such person") (is := 176) (by decide +kernel) (show Cond.classLink RX3 174 eIO ∈ wsX3_personAt by decide +kernel) (show Cond.initialized eIO ∈ wsX3_personAt by decide +kernel) (by decide +kernel) rfl (show ∀ w ∈ (vx_atS RX3 178 eIO eUP).filter goodWord, w ∈ wsX3_personAt by decide +kernel) (by decide +kernel) (by decide +kernel) hl.1 dX3_personAt_13 dX3_personAt_16 dX3_personAt_17 dX3_personAt_19 dX3_personAt_22 (by decide) (Nat.le_of_ble_eq_true rfl) (by decide) (by decide) ⟨fun z => by have z1 := hW.np; omega, rfl⟩ (by decide) (by decide)

set_option maxHeartbeats 4000000 in
set_option maxRecDepth 100000 in
/-- Leavebank.requestAt(number) -/
theorem kX3_requestAt (l : Launch) (hfl : l.stackTraces = false) (D : va_G) (cy : Nat → ClassId) (C : List Nat) (ad : Nat → Nat) (e : Nat → Nat → Nat) (sz : Nat) (k : Nat) (hB : ∀ k, k < 26 → k ∈ C) (hW : CW e) (hk : k < 4294967296) : vx_Met l yX3_requestAt wsX3_requestAt ({ frames := 6, cells := 1, slots := 6, locals := 82 } : Room) (PreX D cy (C, ad, G cy ad e) sz [.ref (ad 0), .int (nI k)]) (va_Qr (fun (u : WT) => k < e 0 3 ∧ u = (C, ad, G cy ad e)) (fun (u : WT) (a : Nat) (t : State) => (a = ad (RB k)) ∧ WB D cy (AW (C, ad, G cy ad e) sz) u t) (AW (C, ad, G cy ad e) sz)) (vx_X (fun (z : String × WT) => ¬ (k < e 0 3) ∧ z = (eIO, (C, ad, G cy ad e))) (XB D cy (AW (C, ad, G cy ad e) sz)) (AW (C, ad, G cy ad e) sz)) 1 6 (AW (C, ad, G cy ad e) sz) := by
  refine mxx_start (cc := cX3_requestAt) (maxL := 3) (ret := (some (.object "Leavebank$Request"))) (by decide) rfl (Nat.le_of_ble_eq_true rfl) ?_
  intro p9 e9 s m args below meth c hsz hr hnm M w Th hxt ls hl
  have hx := M.1.1
  have hb := M.1.2.1
  have inX3 : ∀ w ∈ wsX30, w ∈ wsX3_requestAt := by decide +kernel
  have f17 : Cond.fieldLink RX3 17 RX3 "requests" "[LLeavebank$Request;" ∈ wsX3_requestAt := by decide +kernel
  have hl : lv_has ls 3 [(0, .ref (ad 0)), (1, .int (nI k))] := hl
  refine lv_iload_n hx hb dX3_requestAt_0 rfl (lv_at hl 1 rfl) ?_
  refine mw_if_lt hx hb hk 13 dX3_requestAt_1 (by decide) (fun h1 => ?_) (fun h1 => ?_)
  · exact mx_throw M w Th hfl hxt (cls := eIO) (text := "no such request") (is := 179) (by decide +kernel) (show Cond.classLink RX3 174 eIO ∈ wsX3_requestAt by decide +kernel) (show Cond.initialized eIO ∈ wsX3_requestAt by decide +kernel) (by decide +kernel) rfl (show ∀ w ∈ (vx_atS RX3 178 eIO eUP).filter goodWord, w ∈ wsX3_requestAt by decide +kernel) (by decide +kernel) (by decide +kernel) hl.1 dX3_requestAt_13 dX3_requestAt_16 dX3_requestAt_17 dX3_requestAt_19 dX3_requestAt_22 (by decide) (Nat.le_of_ble_eq_true rfl) (by decide) (by decide) ⟨fun z => by have z1 := hW.nr; omega, rfl⟩ (by decide) (by decide)
  · refine lv_iload_n hx hb dX3_requestAt_4 rfl (lv_at hl 1 rfl) ?_
    refine lv_aload_n hx hb dX3_requestAt_5 rfl (lv_at hl 0 rfl) ?_
    refine ex_get M w (hB 0 (by decide)) (sh_0 cy ad (e 0)) rfl inX3 2 (by decide) f17 rfl dX3_requestAt_6 ?_
    refine mx_alen M w (hB 2 (by decide)) 3 (g := G cy ad e) (sh_2 cy ad _) rfl (n := 40) rfl dX3_requestAt_9 ?_
    refine mw_lt hx hb hk (by decide) 23 dX3_requestAt_10 (by decide) (fun h10 => ?_) (fun h10 => ?_)
    · refine lv_aload_n hx hb dX3_requestAt_23 rfl (lv_at hl 0 rfl) ?_
      refine ex_get M w (hB 0 (by decide)) (sh_0 cy ad (e 0)) rfl inX3 2 (by decide) f17 rfl dX3_requestAt_24 ?_
      refine lv_iload_n hx hb dX3_requestAt_27 rfl (lv_at hl 1 rfl) ?_
      have q1 := hW.rs k (by omega)
      refine mx_aldR M w (hB 2 (by decide)) (g := G cy ad e) (sh_2 cy ad _) (vp_in_nI (by omega) (by decide)) dX3_requestAt_28 ?_
      rw [nI_clamp (show k < 2147483648 by omega)]
      by_cases q0 : k < e 0 3
      · rw [if_pos q0] at q1
        refine W.eq (congrArg (fun z => F0 m 29 ls (va_rf z :: [])) (rfR_some (v := e 2) (j := k) (by omega))) ?_
        rw [show e 2 k - 1 = k by omega]
        refine lv_astore_n (lv' := [(2, .ref (ad (RB k))), (0, .ref (ad 0)), (1, .int (nI k))]) hx hb dX3_requestAt_29 rfl hl (by decide) rfl (fun ls hl => ?_)
        refine lv_aload_n hx hb dX3_requestAt_30 rfl (lv_at hl 0 rfl) ?_
        refine lv_ifnonnull (tgt := 44) hx hb dX3_requestAt_31 (by decide) ?_
        refine lv_aload_n hx hb dX3_requestAt_44 rfl (lv_at hl 0 rfl) ?_
        refine vx_ret ?_
        exact mx_aret M w hr (Or.inl ⟨_, rfl⟩) (a := (ad (RB k))) ⟨q0, rfl⟩ rfl (by decide) (by decide) dX3_requestAt_45
      · rw [if_neg q0] at q1
        refine W.eq (congrArg (fun z => F0 m 29 ls (va_rf z :: [])) (rfR_none (v := e 2) (j := k) q1)) ?_
        refine lv_astore_nN (lv' := [(2, .null), (0, .ref (ad 0)), (1, .int (nI k))]) hx hb dX3_requestAt_29 rfl hl (by decide) rfl (fun ls hl => ?_)
        refine lv_aload_nN hx hb dX3_requestAt_30 rfl (lv_at hl 0 rfl) ?_
        refine lv_ifnonnullN hx hb dX3_requestAt_31 ?_
        exact mx_throw M w Th hfl hxt (cls := eIO) (text := "no such request") (is := 179) (by decide +kernel) (show Cond.classLink RX3 174 eIO ∈ wsX3_requestAt by decide +kernel) (show Cond.initialized eIO ∈ wsX3_requestAt by decide +kernel) (by decide +kernel) rfl (show ∀ w ∈ (vx_atS RX3 178 eIO eUP).filter goodWord, w ∈ wsX3_requestAt by decide +kernel) (by decide +kernel) (by decide +kernel) hl.1 dX3_requestAt_34 dX3_requestAt_37 dX3_requestAt_38 dX3_requestAt_40 dX3_requestAt_43 (by decide) (Nat.le_of_ble_eq_true rfl) (by decide) (by decide) ⟨q0, rfl⟩ (by decide) (by decide)
    · exact mx_throw M w Th hfl hxt (cls := eIO) (text := "no such request") (is := 179) (by decide +kernel) (show Cond.classLink RX3 174 eIO ∈ wsX3_requestAt by decide +kernel) (show Cond.initialized eIO ∈ wsX3_requestAt by decide +kernel) (by decide +kernel) rfl (show ∀ w ∈ (vx_atS RX3 178 eIO eUP).filter goodWord, w ∈ wsX3_requestAt by decide +kernel) (by decide +kernel) (by decide +kernel) hl.1 dX3_requestAt_13 dX3_requestAt_16 dX3_requestAt_17 dX3_requestAt_19 dX3_requestAt_22 (by decide) (Nat.le_of_ble_eq_true rfl) (by decide) (by decide) ⟨fun z => by have z1 := hW.nr; omega, rfl⟩ (by decide) (by decide)
end
section
set_option maxHeartbeats 4000000 in
set_option maxRecDepth 100000 in
/-- Leavebank.ledgerBehind(number, day) -/
theorem kX3_ledgerBehind (l : Launch) (hfl : l.stackTraces = false) (D : va_G) (cy : Nat → ClassId) (C : List Nat) (ad : Nat → Nat) (e : Nat → Nat → Nat) (sz : Nat) (k d : Nat) (hCC : CC (e 0 1) (e 0 3) C) (hW : CW e) (hk : k < 4294967296) (hd : d < 4294967296) : vx_Met l yX3_ledgerBehind wsX3_ledgerBehind ({ frames := 7, cells := 2, slots := 12, locals := 104 } : Room) (PreX D cy (C, ad, G cy ad e) sz [.ref (ad 0), .int (nI k), .int (nI d)]) (va_Qr (fun (u : WT) => (k < e 0 1 ∧ d ≤ 3600) ∧ u = (C, ad, G cy ad (goC e k (d + 1 - e (PB k) 0)))) (fun (u : WT) (a : Nat) (t : State) => (a = ad 3) ∧ WB D cy (AW (C, ad, G cy ad e) sz) u t) (AW (C, ad, G cy ad e) sz)) (vx_X (fun (z : String × WT) => (¬ k < e 0 1 ∧ z = (eIO, (C, ad, G cy ad e))) ∨ (k < e 0 1 ∧ ¬ (0 ≤ d ∧ d ≤ 3600) ∧ z = (eIA, (C, ad, G cy ad e)))) (XB D cy (AW (C, ad, G cy ad e) sz)) (AW (C, ad, G cy ad e) sz)) 2 12 (AW (C, ad, G cy ad e) sz) := by
  refine mxx_start (cc := cX3_ledgerBehind) (maxL := 4) (ret := (some (.object "Leavebank$Ledger"))) (by decide) rfl (Nat.le_of_ble_eq_true rfl) ?_
  intro p9 e9 s m args below meth c hsz hr hnm M w Th hxt ls hl
  have hx := M.1.1
  have hb := M.1.2.1
  have inX3 : ∀ w ∈ wsX30, w ∈ wsX3_ledgerBehind := by decide +kernel
  have f24 : Cond.fieldLink RX3 24 RX3 "ledger" "LLeavebank$Ledger;" ∈ wsX3_ledgerBehind := by decide +kernel
  have hB := hCC.B
  have hl : lv_has ls 4 [(0, .ref (ad 0)), (1, .int (nI k)), (2, .int (nI d))] := hl
  refine lv_aload_n hx hb dX3_ledgerBehind_0 rfl (lv_at hl 0 rfl) ?_
  refine lv_iload_n hx hb dX3_ledgerBehind_1 rfl (lv_at hl 1 rfl) ?_
  refine mxx_Vr M w Th hxt (kX3_personAt l hfl D cy C ad e s.heap.size k hB hW hk) (cwV 1 M.1.2.2.2.2 gX3_ledgerBehind_X3_personAt rfl rfl rfl (by decide +kernel) ⟨Nat.le_of_ble_eq_true rfl, Nat.le_of_ble_eq_true rfl⟩) (mo_rec M w (hB 0 (by decide)) (g := G cy ad e) (sh_0 cy ad (e 0)) rfl) rfl hl.1 rfl (Nat.le_of_ble_eq_true rfl) dX3_ledgerBehind_2 ⟨by decide, by decide⟩ ⟨by decide, by decide⟩ (fun E u1 h => Or.inl h) (fun r2 u1 H locs hp1 ha1 w => ?_)
  obtain ⟨q2, rfl⟩ := hp1
  subst ha1
  have hp : k < 8 := by have z := hW.np; omega
  have hC := hCC.P q2
  have hpp := hW.p q2
  refine lv_astore_n (lv' := [(3, .ref (ad (PB k))), (0, .ref (ad 0)), (1, .int (nI k)), (2, .int (nI d))]) hx hb dX3_ledgerBehind_5 rfl hl (by decide) rfl (fun ls hl => ?_)
  refine lv_iconst (v := nI 0) hx hb dX3_ledgerBehind_6 (by decide) ?_
  refine lv_iload_n hx hb dX3_ledgerBehind_7 rfl (lv_at hl 3 rfl) ?_
  refine mxx_Sv M w Th hxt (kX3_checkDay l hfl D cy C ad e H.size 0 d (by omega) hd) (va_cwS 2 M.1.2.2.2.2 gX3_ledgerBehind_X3_checkDay rfl rfl rfl (by decide +kernel) ⟨Nat.le_of_ble_eq_true rfl, Nat.le_of_ble_eq_true rfl⟩) rfl hl.1 rfl (Nat.le_of_ble_eq_true rfl) dX3_ledgerBehind_8 ⟨by decide, by decide⟩ ⟨by decide, by decide⟩ (fun E u1 h => Or.inr ⟨q2, h⟩) (fun u1 H locs hp1 w => ?_)
  obtain ⟨c8, rfl⟩ := hp1
  refine lv_aload_n hx hb dX3_ledgerBehind_11 rfl (lv_at hl 1 rfl) ?_
  refine ex_get M w (hB 0 (by decide)) (sh_0 cy ad (e 0)) rfl inX3 7 (by decide) f24 rfl dX3_ledgerBehind_12 ?_
  refine lv_aload_n hx hb dX3_ledgerBehind_15 rfl (lv_at hl 0 rfl) ?_
  refine lv_iload_n hx hb dX3_ledgerBehind_16 rfl (lv_at hl 3 rfl) ?_
  refine mx_Vv M w (kX0_goThrough l D cy C ad e H.size k d hp hC hB hpp.a0 hpp.ch hpp.py hpp.lv c8.2) (cwV 2 M.1.2.2.2.2 gX3_ledgerBehind_X0_goThrough rfl rfl rfl (by decide +kernel) ⟨Nat.le_of_ble_eq_true rfl, Nat.le_of_ble_eq_true rfl⟩) (mo_rec M w (hB 3 (by decide)) (g := G cy ad e) (sh_3 cy ad (e 3)) rfl) rfl hl.1 rfl (Nat.le_of_ble_eq_true rfl) dX3_ledgerBehind_17 ⟨by decide, by decide⟩ (fun u1 H locs hp1 w => ?_)
  obtain rfl := hp1
  refine lv_aload_n hx hb dX3_ledgerBehind_20 rfl (lv_at hl 1 rfl) ?_
  refine ex_get M w (hB 0 (by decide)) (sh_0 cy ad ((goC e k (d + 1 - e (PB k) 0)) 0)) rfl inX3 7 (by decide) f24 rfl dX3_ledgerBehind_21 ?_
  refine vx_ret ?_
  exact mx_aret M w hr (Or.inl ⟨_, rfl⟩) (a := (ad 3)) ⟨⟨q2, c8.2⟩, rfl⟩ rfl (by decide) (by decide) dX3_ledgerBehind_24

set_option maxHeartbeats 4000000 in
set_option maxRecDepth 100000 in
/-- Leavebank.balance(person, day) -/
theorem kX3_balance (l : Launch) (hfl : l.stackTraces = false) (D : va_G) (cy : Nat → ClassId) (C : List Nat) (ad : Nat → Nat) (e : Nat → Nat → Nat) (sz : Nat) (k d : Nat) (hCC : CC (e 0 1) (e 0 3) C) (hW : CW e) (hk : k < 4294967296) (hd : d < 4294967296) : vx_Met l yX3_balance wsX3_balance ({ frames := 8, cells := 2, slots := 12, locals := 127 } : Room) (PreX D cy (C, ad, G cy ad e) sz [.ref (ad 0), .int (nI k), .int (nI d)]) (va_Qi (fun (r : Int32) (u : WT) => (k < e 0 1 ∧ d ≤ 3600) ∧ r = nI (totC (goC e k (d + 1 - e (PB k) 0))) - nI ((goC e k (d + 1 - e (PB k) 0)) 3 5) ∧ u = (C, ad, G cy ad (goC e k (d + 1 - e (PB k) 0)))) (WB D cy (AW (C, ad, G cy ad e) sz)) (AW (C, ad, G cy ad e) sz)) (vx_X (fun (z : String × WT) => (¬ k < e 0 1 ∧ z = (eIO, (C, ad, G cy ad e))) ∨ (k < e 0 1 ∧ ¬ (0 ≤ d ∧ d ≤ 3600) ∧ z = (eIA, (C, ad, G cy ad e)))) (XB D cy (AW (C, ad, G cy ad e) sz)) (AW (C, ad, G cy ad e) sz)) 2 12 (AW (C, ad, G cy ad e) sz) := by
  refine mxx_start (cc := cX3_balance) (maxL := 4) (ret := (some .int)) (by decide) rfl (Nat.le_of_ble_eq_true rfl) ?_
  intro p9 e9 s m args below meth c hsz hr hnm M w Th hxt ls hl
  have hx := M.1.1
  have hb := M.1.2.1
  have inX0 : ∀ w ∈ wsX00, w ∈ wsX3_balance := by decide +kernel
  have f153 : Cond.fieldLink RX3 153 RX0 "debt" "I" ∈ wsX3_balance := by decide +kernel
  have hB := hCC.B
  have hl : lv_has ls 4 [(0, .ref (ad 0)), (1, .int (nI k)), (2, .int (nI d))] := hl
  refine lv_aload_n hx hb dX3_balance_0 rfl (lv_at hl 0 rfl) ?_
  refine lv_iload_n hx hb dX3_balance_1 rfl (lv_at hl 1 rfl) ?_
  refine lv_iload_n hx hb dX3_balance_2 rfl (lv_at hl 2 rfl) ?_
  refine mxx_Vr M w Th hxt (kX3_ledgerBehind l hfl D cy C ad e s.heap.size k d hCC hW hk hd) (cwV 2 M.1.2.2.2.2 gX3_balance_X3_ledgerBehind rfl rfl rfl (by decide +kernel) ⟨Nat.le_of_ble_eq_true rfl, Nat.le_of_ble_eq_true rfl⟩) (mo_rec M w (hB 0 (by decide)) (g := G cy ad e) (sh_0 cy ad (e 0)) rfl) rfl hl.1 rfl (Nat.le_of_ble_eq_true rfl) dX3_balance_3 ⟨by decide, by decide⟩ ⟨by decide, by decide⟩ (fun E u1 h => h) (fun r3 u1 H locs hp1 ha1 w => ?_)
  obtain ⟨⟨q3, q4⟩, rfl⟩ := hp1
  subst ha1
  have hpp := hW.p q3
  have hgw := GW_go hpp.a0 hpp.ch hpp.py hpp.lv (d + 1 - e (PB k) 0) (by have z := hpp.a0.1; omega)
  refine lv_astore_n (lv' := [(3, .ref (ad 3)), (0, .ref (ad 0)), (1, .int (nI k)), (2, .int (nI d))]) hx hb dX3_balance_6 rfl hl (by decide) rfl (fun ls hl => ?_)
  refine lv_aload_n hx hb dX3_balance_7 rfl (lv_at hl 0 rfl) ?_
  refine mx_Vi M w (kX0_pointsInLots l D cy C ad (goC e k (d + 1 - e (PB k) 0)) H.size hB hgw.1) (cwV 0 M.1.2.2.2.2 gX3_balance_X0_pointsInLots rfl rfl rfl (by decide +kernel) ⟨Nat.le_of_ble_eq_true rfl, Nat.le_of_ble_eq_true rfl⟩) (mo_rec M w (hB 3 (by decide)) (g := G cy ad (goC e k (d + 1 - e (PB k) 0))) (sh_3 cy ad ((goC e k (d + 1 - e (PB k) 0)) 3)) rfl) rfl hl.1 rfl (Nat.le_of_ble_eq_true rfl) dX3_balance_8 ⟨by decide, by decide⟩ (fun r8 u1 H locs hp1 w => ?_)
  obtain ⟨rfl, rfl⟩ := hp1
  refine lv_aload_n hx hb dX3_balance_11 rfl (lv_at hl 0 rfl) ?_
  refine ex_get M w (hB 3 (by decide)) (sh_3 cy ad ((goC e k (d + 1 - e (PB k) 0)) 3)) rfl inX0 5 (by decide) f153 rfl dX3_balance_12 ?_
  refine lv_isub hx hb dX3_balance_15 ?_
  refine vx_ret ?_
  exact mx_iret M w hr (v := ((nI (totC (goC e k (d + 1 - e (PB k) 0)))) - (nI ((goC e k (d + 1 - e (PB k) 0)) 3 5)))) ⟨⟨q3, q4⟩, rfl, rfl⟩ (by decide) (by decide) dX3_balance_16

set_option maxHeartbeats 4000000 in
set_option maxRecDepth 100000 in
/-- Leavebank.balanceBySums(person, day) -/
theorem kX3_balanceBySums (l : Launch) (hfl : l.stackTraces = false) (D : va_G) (cy : Nat → ClassId) (C : List Nat) (ad : Nat → Nat) (e : Nat → Nat → Nat) (sz : Nat) (k d : Nat) (hCC : CC (e 0 1) (e 0 3) C) (hW : CW e) (hk : k < 4294967296) (hd : d < 4294967296) : vx_Met l yX3_balanceBySums wsX3_balanceBySums ({ frames := 8, cells := 2, slots := 12, locals := 127 } : Room) (PreX D cy (C, ad, G cy ad e) sz [.ref (ad 0), .int (nI k), .int (nI d)]) (va_Qi (fun (r : Int32) (u : WT) => (k < e 0 1 ∧ d ≤ 3600) ∧ r = nI ((goC e k (d + 1 - e (PB k) 0)) 3 6) - nI ((goC e k (d + 1 - e (PB k) 0)) 3 7) - nI ((goC e k (d + 1 - e (PB k) 0)) 3 8) - nI ((goC e k (d + 1 - e (PB k) 0)) 3 9) ∧ u = (C, ad, G cy ad (goC e k (d + 1 - e (PB k) 0)))) (WB D cy (AW (C, ad, G cy ad e) sz)) (AW (C, ad, G cy ad e) sz)) (vx_X (fun (z : String × WT) => (¬ k < e 0 1 ∧ z = (eIO, (C, ad, G cy ad e))) ∨ (k < e 0 1 ∧ ¬ (0 ≤ d ∧ d ≤ 3600) ∧ z = (eIA, (C, ad, G cy ad e)))) (XB D cy (AW (C, ad, G cy ad e) sz)) (AW (C, ad, G cy ad e) sz)) 2 12 (AW (C, ad, G cy ad e) sz) := by
  refine mxx_start (cc := cX3_balanceBySums) (maxL := 4) (ret := (some .int)) (by decide) rfl (Nat.le_of_ble_eq_true rfl) ?_
  intro p9 e9 s m args below meth c hsz hr hnm M w Th hxt ls hl
  have hx := M.1.1
  have hb := M.1.2.1
  have inX0 : ∀ w ∈ wsX00, w ∈ wsX3_balanceBySums := by decide +kernel
  have f156 : Cond.fieldLink RX3 156 RX0 "sumEarned" "I" ∈ wsX3_balanceBySums := by decide +kernel
  have f159 : Cond.fieldLink RX3 159 RX0 "sumTaken" "I" ∈ wsX3_balanceBySums := by decide +kernel
  have f162 : Cond.fieldLink RX3 162 RX0 "sumExpired" "I" ∈ wsX3_balanceBySums := by decide +kernel
  have f165 : Cond.fieldLink RX3 165 RX0 "sumPaid" "I" ∈ wsX3_balanceBySums := by decide +kernel
  have hB := hCC.B
  have hl : lv_has ls 4 [(0, .ref (ad 0)), (1, .int (nI k)), (2, .int (nI d))] := hl
  refine lv_aload_n hx hb dX3_balanceBySums_0 rfl (lv_at hl 0 rfl) ?_
  refine lv_iload_n hx hb dX3_balanceBySums_1 rfl (lv_at hl 1 rfl) ?_
  refine lv_iload_n hx hb dX3_balanceBySums_2 rfl (lv_at hl 2 rfl) ?_
  refine mxx_Vr M w Th hxt (kX3_ledgerBehind l hfl D cy C ad e s.heap.size k d hCC hW hk hd) (cwV 2 M.1.2.2.2.2 gX3_balanceBySums_X3_ledgerBehind rfl rfl rfl (by decide +kernel) ⟨Nat.le_of_ble_eq_true rfl, Nat.le_of_ble_eq_true rfl⟩) (mo_rec M w (hB 0 (by decide)) (g := G cy ad e) (sh_0 cy ad (e 0)) rfl) rfl hl.1 rfl (Nat.le_of_ble_eq_true rfl) dX3_balanceBySums_3 ⟨by decide, by decide⟩ ⟨by decide, by decide⟩ (fun E u1 h => h) (fun r3 u1 H locs hp1 ha1 w => ?_)
  obtain ⟨⟨q3, q4⟩, rfl⟩ := hp1
  subst ha1
  have hpp := hW.p q3
  have hgw := GW_go hpp.a0 hpp.ch hpp.py hpp.lv (d + 1 - e (PB k) 0) (by have z := hpp.a0.1; omega)
  refine lv_astore_n (lv' := [(3, .ref (ad 3)), (0, .ref (ad 0)), (1, .int (nI k)), (2, .int (nI d))]) hx hb dX3_balanceBySums_6 rfl hl (by decide) rfl (fun ls hl => ?_)
  refine lv_aload_n hx hb dX3_balanceBySums_7 rfl (lv_at hl 0 rfl) ?_
  refine ex_get M w (hB 3 (by decide)) (sh_3 cy ad ((goC e k (d + 1 - e (PB k) 0)) 3)) rfl inX0 6 (by decide) f156 rfl dX3_balanceBySums_8 ?_
  refine lv_aload_n hx hb dX3_balanceBySums_11 rfl (lv_at hl 0 rfl) ?_
  refine ex_get M w (hB 3 (by decide)) (sh_3 cy ad ((goC e k (d + 1 - e (PB k) 0)) 3)) rfl inX0 7 (by decide) f159 rfl dX3_balanceBySums_12 ?_
  refine lv_isub hx hb dX3_balanceBySums_15 ?_
  refine lv_aload_n hx hb dX3_balanceBySums_16 rfl (lv_at hl 0 rfl) ?_
  refine ex_get M w (hB 3 (by decide)) (sh_3 cy ad ((goC e k (d + 1 - e (PB k) 0)) 3)) rfl inX0 8 (by decide) f162 rfl dX3_balanceBySums_17 ?_
  refine lv_isub hx hb dX3_balanceBySums_20 ?_
  refine lv_aload_n hx hb dX3_balanceBySums_21 rfl (lv_at hl 0 rfl) ?_
  refine ex_get M w (hB 3 (by decide)) (sh_3 cy ad ((goC e k (d + 1 - e (PB k) 0)) 3)) rfl inX0 9 (by decide) f165 rfl dX3_balanceBySums_22 ?_
  refine lv_isub hx hb dX3_balanceBySums_25 ?_
  refine vx_ret ?_
  exact mx_iret M w hr (v := ((((nI ((goC e k (d + 1 - e (PB k) 0)) 3 6)) - (nI ((goC e k (d + 1 - e (PB k) 0)) 3 7))) - (nI ((goC e k (d + 1 - e (PB k) 0)) 3 8))) - (nI ((goC e k (d + 1 - e (PB k) 0)) 3 9)))) ⟨⟨q3, q4⟩, rfl, rfl⟩ (by decide) (by decide) dX3_balanceBySums_26

set_option maxHeartbeats 4000000 in
set_option maxRecDepth 100000 in
/-- Leavebank.earned(person, day) -/
theorem kX3_earned (l : Launch) (hfl : l.stackTraces = false) (D : va_G) (cy : Nat → ClassId) (C : List Nat) (ad : Nat → Nat) (e : Nat → Nat → Nat) (sz : Nat) (k d : Nat) (hCC : CC (e 0 1) (e 0 3) C) (hW : CW e) (hk : k < 4294967296) (hd : d < 4294967296) : vx_Met l yX3_earned wsX3_earned ({ frames := 8, cells := 2, slots := 12, locals := 127 } : Room) (PreX D cy (C, ad, G cy ad e) sz [.ref (ad 0), .int (nI k), .int (nI d)]) (va_Qi (fun (r : Int32) (u : WT) => (k < e 0 1 ∧ d ≤ 3600) ∧ r = nI ((goC e k (d + 1 - e (PB k) 0)) 3 6) ∧ u = (C, ad, G cy ad (goC e k (d + 1 - e (PB k) 0)))) (WB D cy (AW (C, ad, G cy ad e) sz)) (AW (C, ad, G cy ad e) sz)) (vx_X (fun (z : String × WT) => (¬ k < e 0 1 ∧ z = (eIO, (C, ad, G cy ad e))) ∨ (k < e 0 1 ∧ ¬ (0 ≤ d ∧ d ≤ 3600) ∧ z = (eIA, (C, ad, G cy ad e)))) (XB D cy (AW (C, ad, G cy ad e) sz)) (AW (C, ad, G cy ad e) sz)) 2 12 (AW (C, ad, G cy ad e) sz) := by
  refine mxx_start (cc := cX3_earned) (maxL := 3) (ret := (some .int)) (by decide) rfl (Nat.le_of_ble_eq_true rfl) ?_
  intro p9 e9 s m args below meth c hsz hr hnm M w Th hxt ls hl
  have hx := M.1.1
  have hb := M.1.2.1
  have inX0 : ∀ w ∈ wsX00, w ∈ wsX3_earned := by decide +kernel
  have f156 : Cond.fieldLink RX3 156 RX0 "sumEarned" "I" ∈ wsX3_earned := by decide +kernel
  have hB := hCC.B
  have hl : lv_has ls 3 [(0, .ref (ad 0)), (1, .int (nI k)), (2, .int (nI d))] := hl
  refine lv_aload_n hx hb dX3_earned_0 rfl (lv_at hl 0 rfl) ?_
  refine lv_iload_n hx hb dX3_earned_1 rfl (lv_at hl 1 rfl) ?_
  refine lv_iload_n hx hb dX3_earned_2 rfl (lv_at hl 2 rfl) ?_
  refine mxx_Vr M w Th hxt (kX3_ledgerBehind l hfl D cy C ad e s.heap.size k d hCC hW hk hd) (cwV 2 M.1.2.2.2.2 gX3_earned_X3_ledgerBehind rfl rfl rfl (by decide +kernel) ⟨Nat.le_of_ble_eq_true rfl, Nat.le_of_ble_eq_true rfl⟩) (mo_rec M w (hB 0 (by decide)) (g := G cy ad e) (sh_0 cy ad (e 0)) rfl) rfl hl.1 rfl (Nat.le_of_ble_eq_true rfl) dX3_earned_3 ⟨by decide, by decide⟩ ⟨by decide, by decide⟩ (fun E u1 h => h) (fun r3 u1 H locs hp1 ha1 w => ?_)
  obtain ⟨⟨q3, q4⟩, rfl⟩ := hp1
  subst ha1
  have hpp := hW.p q3
  have hgw := GW_go hpp.a0 hpp.ch hpp.py hpp.lv (d + 1 - e (PB k) 0) (by have z := hpp.a0.1; omega)
  refine ex_get M w (hB 3 (by decide)) (sh_3 cy ad ((goC e k (d + 1 - e (PB k) 0)) 3)) rfl inX0 6 (by decide) f156 rfl dX3_earned_6 ?_
  refine vx_ret ?_
  exact mx_iret M w hr (v := (nI ((goC e k (d + 1 - e (PB k) 0)) 3 6))) ⟨⟨q3, q4⟩, rfl, rfl⟩ (by decide) (by decide) dX3_earned_9

set_option maxHeartbeats 4000000 in
set_option maxRecDepth 100000 in
/-- Leavebank.taken(person, day) -/
theorem kX3_taken (l : Launch) (hfl : l.stackTraces = false) (D : va_G) (cy : Nat → ClassId) (C : List Nat) (ad : Nat → Nat) (e : Nat → Nat → Nat) (sz : Nat) (k d : Nat) (hCC : CC (e 0 1) (e 0 3) C) (hW : CW e) (hk : k < 4294967296) (hd : d < 4294967296) : vx_Met l yX3_taken wsX3_taken ({ frames := 8, cells := 2, slots := 12, locals := 127 } : Room) (PreX D cy (C, ad, G cy ad e) sz [.ref (ad 0), .int (nI k), .int (nI d)]) (va_Qi (fun (r : Int32) (u : WT) => (k < e 0 1 ∧ d ≤ 3600) ∧ r = nI ((goC e k (d + 1 - e (PB k) 0)) 3 7) ∧ u = (C, ad, G cy ad (goC e k (d + 1 - e (PB k) 0)))) (WB D cy (AW (C, ad, G cy ad e) sz)) (AW (C, ad, G cy ad e) sz)) (vx_X (fun (z : String × WT) => (¬ k < e 0 1 ∧ z = (eIO, (C, ad, G cy ad e))) ∨ (k < e 0 1 ∧ ¬ (0 ≤ d ∧ d ≤ 3600) ∧ z = (eIA, (C, ad, G cy ad e)))) (XB D cy (AW (C, ad, G cy ad e) sz)) (AW (C, ad, G cy ad e) sz)) 2 12 (AW (C, ad, G cy ad e) sz) := by
  refine mxx_start (cc := cX3_taken) (maxL := 3) (ret := (some .int)) (by decide) rfl (Nat.le_of_ble_eq_true rfl) ?_
  intro p9 e9 s m args below meth c hsz hr hnm M w Th hxt ls hl
  have hx := M.1.1
  have hb := M.1.2.1
  have inX0 : ∀ w ∈ wsX00, w ∈ wsX3_taken := by decide +kernel
  have f159 : Cond.fieldLink RX3 159 RX0 "sumTaken" "I" ∈ wsX3_taken := by decide +kernel
  have hB := hCC.B
  have hl : lv_has ls 3 [(0, .ref (ad 0)), (1, .int (nI k)), (2, .int (nI d))] := hl
  refine lv_aload_n hx hb dX3_taken_0 rfl (lv_at hl 0 rfl) ?_
  refine lv_iload_n hx hb dX3_taken_1 rfl (lv_at hl 1 rfl) ?_
  refine lv_iload_n hx hb dX3_taken_2 rfl (lv_at hl 2 rfl) ?_
  refine mxx_Vr M w Th hxt (kX3_ledgerBehind l hfl D cy C ad e s.heap.size k d hCC hW hk hd) (cwV 2 M.1.2.2.2.2 gX3_taken_X3_ledgerBehind rfl rfl rfl (by decide +kernel) ⟨Nat.le_of_ble_eq_true rfl, Nat.le_of_ble_eq_true rfl⟩) (mo_rec M w (hB 0 (by decide)) (g := G cy ad e) (sh_0 cy ad (e 0)) rfl) rfl hl.1 rfl (Nat.le_of_ble_eq_true rfl) dX3_taken_3 ⟨by decide, by decide⟩ ⟨by decide, by decide⟩ (fun E u1 h => h) (fun r3 u1 H locs hp1 ha1 w => ?_)
  obtain ⟨⟨q3, q4⟩, rfl⟩ := hp1
  subst ha1
  have hpp := hW.p q3
  have hgw := GW_go hpp.a0 hpp.ch hpp.py hpp.lv (d + 1 - e (PB k) 0) (by have z := hpp.a0.1; omega)
  refine ex_get M w (hB 3 (by decide)) (sh_3 cy ad ((goC e k (d + 1 - e (PB k) 0)) 3)) rfl inX0 7 (by decide) f159 rfl dX3_taken_6 ?_
  refine vx_ret ?_
  exact mx_iret M w hr (v := (nI ((goC e k (d + 1 - e (PB k) 0)) 3 7))) ⟨⟨q3, q4⟩, rfl, rfl⟩ (by decide) (by decide) dX3_taken_9

set_option maxHeartbeats 4000000 in
set_option maxRecDepth 100000 in
/-- Leavebank.expired(person, day) -/
theorem kX3_expired (l : Launch) (hfl : l.stackTraces = false) (D : va_G) (cy : Nat → ClassId) (C : List Nat) (ad : Nat → Nat) (e : Nat → Nat → Nat) (sz : Nat) (k d : Nat) (hCC : CC (e 0 1) (e 0 3) C) (hW : CW e) (hk : k < 4294967296) (hd : d < 4294967296) : vx_Met l yX3_expired wsX3_expired ({ frames := 8, cells := 2, slots := 12, locals := 127 } : Room) (PreX D cy (C, ad, G cy ad e) sz [.ref (ad 0), .int (nI k), .int (nI d)]) (va_Qi (fun (r : Int32) (u : WT) => (k < e 0 1 ∧ d ≤ 3600) ∧ r = nI ((goC e k (d + 1 - e (PB k) 0)) 3 8) ∧ u = (C, ad, G cy ad (goC e k (d + 1 - e (PB k) 0)))) (WB D cy (AW (C, ad, G cy ad e) sz)) (AW (C, ad, G cy ad e) sz)) (vx_X (fun (z : String × WT) => (¬ k < e 0 1 ∧ z = (eIO, (C, ad, G cy ad e))) ∨ (k < e 0 1 ∧ ¬ (0 ≤ d ∧ d ≤ 3600) ∧ z = (eIA, (C, ad, G cy ad e)))) (XB D cy (AW (C, ad, G cy ad e) sz)) (AW (C, ad, G cy ad e) sz)) 2 12 (AW (C, ad, G cy ad e) sz) := by
  refine mxx_start (cc := cX3_expired) (maxL := 3) (ret := (some .int)) (by decide) rfl (Nat.le_of_ble_eq_true rfl) ?_
  intro p9 e9 s m args below meth c hsz hr hnm M w Th hxt ls hl
  have hx := M.1.1
  have hb := M.1.2.1
  have inX0 : ∀ w ∈ wsX00, w ∈ wsX3_expired := by decide +kernel
  have f162 : Cond.fieldLink RX3 162 RX0 "sumExpired" "I" ∈ wsX3_expired := by decide +kernel
  have hB := hCC.B
  have hl : lv_has ls 3 [(0, .ref (ad 0)), (1, .int (nI k)), (2, .int (nI d))] := hl
  refine lv_aload_n hx hb dX3_expired_0 rfl (lv_at hl 0 rfl) ?_
  refine lv_iload_n hx hb dX3_expired_1 rfl (lv_at hl 1 rfl) ?_
  refine lv_iload_n hx hb dX3_expired_2 rfl (lv_at hl 2 rfl) ?_
  refine mxx_Vr M w Th hxt (kX3_ledgerBehind l hfl D cy C ad e s.heap.size k d hCC hW hk hd) (cwV 2 M.1.2.2.2.2 gX3_expired_X3_ledgerBehind rfl rfl rfl (by decide +kernel) ⟨Nat.le_of_ble_eq_true rfl, Nat.le_of_ble_eq_true rfl⟩) (mo_rec M w (hB 0 (by decide)) (g := G cy ad e) (sh_0 cy ad (e 0)) rfl) rfl hl.1 rfl (Nat.le_of_ble_eq_true rfl) dX3_expired_3 ⟨by decide, by decide⟩ ⟨by decide, by decide⟩ (fun E u1 h => h) (fun r3 u1 H locs hp1 ha1 w => ?_)
  obtain ⟨⟨q3, q4⟩, rfl⟩ := hp1
  subst ha1
  have hpp := hW.p q3
  have hgw := GW_go hpp.a0 hpp.ch hpp.py hpp.lv (d + 1 - e (PB k) 0) (by have z := hpp.a0.1; omega)
  refine ex_get M w (hB 3 (by decide)) (sh_3 cy ad ((goC e k (d + 1 - e (PB k) 0)) 3)) rfl inX0 8 (by decide) f162 rfl dX3_expired_6 ?_
  refine vx_ret ?_
  exact mx_iret M w hr (v := (nI ((goC e k (d + 1 - e (PB k) 0)) 3 8))) ⟨⟨q3, q4⟩, rfl, rfl⟩ (by decide) (by decide) dX3_expired_9

set_option maxHeartbeats 4000000 in
set_option maxRecDepth 100000 in
/-- Leavebank.paid(person, day) -/
theorem kX3_paid (l : Launch) (hfl : l.stackTraces = false) (D : va_G) (cy : Nat → ClassId) (C : List Nat) (ad : Nat → Nat) (e : Nat → Nat → Nat) (sz : Nat) (k d : Nat) (hCC : CC (e 0 1) (e 0 3) C) (hW : CW e) (hk : k < 4294967296) (hd : d < 4294967296) : vx_Met l yX3_paid wsX3_paid ({ frames := 8, cells := 2, slots := 12, locals := 127 } : Room) (PreX D cy (C, ad, G cy ad e) sz [.ref (ad 0), .int (nI k), .int (nI d)]) (va_Qi (fun (r : Int32) (u : WT) => (k < e 0 1 ∧ d ≤ 3600) ∧ r = nI ((goC e k (d + 1 - e (PB k) 0)) 3 9) ∧ u = (C, ad, G cy ad (goC e k (d + 1 - e (PB k) 0)))) (WB D cy (AW (C, ad, G cy ad e) sz)) (AW (C, ad, G cy ad e) sz)) (vx_X (fun (z : String × WT) => (¬ k < e 0 1 ∧ z = (eIO, (C, ad, G cy ad e))) ∨ (k < e 0 1 ∧ ¬ (0 ≤ d ∧ d ≤ 3600) ∧ z = (eIA, (C, ad, G cy ad e)))) (XB D cy (AW (C, ad, G cy ad e) sz)) (AW (C, ad, G cy ad e) sz)) 2 12 (AW (C, ad, G cy ad e) sz) := by
  refine mxx_start (cc := cX3_paid) (maxL := 3) (ret := (some .int)) (by decide) rfl (Nat.le_of_ble_eq_true rfl) ?_
  intro p9 e9 s m args below meth c hsz hr hnm M w Th hxt ls hl
  have hx := M.1.1
  have hb := M.1.2.1
  have inX0 : ∀ w ∈ wsX00, w ∈ wsX3_paid := by decide +kernel
  have f165 : Cond.fieldLink RX3 165 RX0 "sumPaid" "I" ∈ wsX3_paid := by decide +kernel
  have hB := hCC.B
  have hl : lv_has ls 3 [(0, .ref (ad 0)), (1, .int (nI k)), (2, .int (nI d))] := hl
  refine lv_aload_n hx hb dX3_paid_0 rfl (lv_at hl 0 rfl) ?_
  refine lv_iload_n hx hb dX3_paid_1 rfl (lv_at hl 1 rfl) ?_
  refine lv_iload_n hx hb dX3_paid_2 rfl (lv_at hl 2 rfl) ?_
  refine mxx_Vr M w Th hxt (kX3_ledgerBehind l hfl D cy C ad e s.heap.size k d hCC hW hk hd) (cwV 2 M.1.2.2.2.2 gX3_paid_X3_ledgerBehind rfl rfl rfl (by decide +kernel) ⟨Nat.le_of_ble_eq_true rfl, Nat.le_of_ble_eq_true rfl⟩) (mo_rec M w (hB 0 (by decide)) (g := G cy ad e) (sh_0 cy ad (e 0)) rfl) rfl hl.1 rfl (Nat.le_of_ble_eq_true rfl) dX3_paid_3 ⟨by decide, by decide⟩ ⟨by decide, by decide⟩ (fun E u1 h => h) (fun r3 u1 H locs hp1 ha1 w => ?_)
  obtain ⟨⟨q3, q4⟩, rfl⟩ := hp1
  subst ha1
  have hpp := hW.p q3
  have hgw := GW_go hpp.a0 hpp.ch hpp.py hpp.lv (d + 1 - e (PB k) 0) (by have z := hpp.a0.1; omega)
  refine ex_get M w (hB 3 (by decide)) (sh_3 cy ad ((goC e k (d + 1 - e (PB k) 0)) 3)) rfl inX0 9 (by decide) f165 rfl dX3_paid_6 ?_
  refine vx_ret ?_
  exact mx_iret M w hr (v := (nI ((goC e k (d + 1 - e (PB k) 0)) 3 9))) ⟨⟨q3, q4⟩, rfl, rfl⟩ (by decide) (by decide) dX3_paid_9

set_option maxHeartbeats 4000000 in
set_option maxRecDepth 100000 in
/-- Leavebank.borrowed(person, day) -/
theorem kX3_borrowed (l : Launch) (hfl : l.stackTraces = false) (D : va_G) (cy : Nat → ClassId) (C : List Nat) (ad : Nat → Nat) (e : Nat → Nat → Nat) (sz : Nat) (k d : Nat) (hCC : CC (e 0 1) (e 0 3) C) (hW : CW e) (hk : k < 4294967296) (hd : d < 4294967296) : vx_Met l yX3_borrowed wsX3_borrowed ({ frames := 8, cells := 2, slots := 12, locals := 127 } : Room) (PreX D cy (C, ad, G cy ad e) sz [.ref (ad 0), .int (nI k), .int (nI d)]) (va_Qi (fun (r : Int32) (u : WT) => (k < e 0 1 ∧ d ≤ 3600) ∧ r = nI ((goC e k (d + 1 - e (PB k) 0)) 3 5) ∧ u = (C, ad, G cy ad (goC e k (d + 1 - e (PB k) 0)))) (WB D cy (AW (C, ad, G cy ad e) sz)) (AW (C, ad, G cy ad e) sz)) (vx_X (fun (z : String × WT) => (¬ k < e 0 1 ∧ z = (eIO, (C, ad, G cy ad e))) ∨ (k < e 0 1 ∧ ¬ (0 ≤ d ∧ d ≤ 3600) ∧ z = (eIA, (C, ad, G cy ad e)))) (XB D cy (AW (C, ad, G cy ad e) sz)) (AW (C, ad, G cy ad e) sz)) 2 12 (AW (C, ad, G cy ad e) sz) := by
  refine mxx_start (cc := cX3_borrowed) (maxL := 3) (ret := (some .int)) (by decide) rfl (Nat.le_of_ble_eq_true rfl) ?_
  intro p9 e9 s m args below meth c hsz hr hnm M w Th hxt ls hl
  have hx := M.1.1
  have hb := M.1.2.1
  have inX0 : ∀ w ∈ wsX00, w ∈ wsX3_borrowed := by decide +kernel
  have f153 : Cond.fieldLink RX3 153 RX0 "debt" "I" ∈ wsX3_borrowed := by decide +kernel
  have hB := hCC.B
  have hl : lv_has ls 3 [(0, .ref (ad 0)), (1, .int (nI k)), (2, .int (nI d))] := hl
  refine lv_aload_n hx hb dX3_borrowed_0 rfl (lv_at hl 0 rfl) ?_
  refine lv_iload_n hx hb dX3_borrowed_1 rfl (lv_at hl 1 rfl) ?_
  refine lv_iload_n hx hb dX3_borrowed_2 rfl (lv_at hl 2 rfl) ?_
  refine mxx_Vr M w Th hxt (kX3_ledgerBehind l hfl D cy C ad e s.heap.size k d hCC hW hk hd) (cwV 2 M.1.2.2.2.2 gX3_borrowed_X3_ledgerBehind rfl rfl rfl (by decide +kernel) ⟨Nat.le_of_ble_eq_true rfl, Nat.le_of_ble_eq_true rfl⟩) (mo_rec M w (hB 0 (by decide)) (g := G cy ad e) (sh_0 cy ad (e 0)) rfl) rfl hl.1 rfl (Nat.le_of_ble_eq_true rfl) dX3_borrowed_3 ⟨by decide, by decide⟩ ⟨by decide, by decide⟩ (fun E u1 h => h) (fun r3 u1 H locs hp1 ha1 w => ?_)
  obtain ⟨⟨q3, q4⟩, rfl⟩ := hp1
  subst ha1
  have hpp := hW.p q3
  have hgw := GW_go hpp.a0 hpp.ch hpp.py hpp.lv (d + 1 - e (PB k) 0) (by have z := hpp.a0.1; omega)
  refine ex_get M w (hB 3 (by decide)) (sh_3 cy ad ((goC e k (d + 1 - e (PB k) 0)) 3)) rfl inX0 5 (by decide) f153 rfl dX3_borrowed_6 ?_
  refine vx_ret ?_
  exact mx_iret M w hr (v := (nI ((goC e k (d + 1 - e (PB k) 0)) 3 5))) ⟨⟨q3, q4⟩, rfl, rfl⟩ (by decide) (by decide) dX3_borrowed_9

set_option maxHeartbeats 4000000 in
set_option maxRecDepth 100000 in
/-- Leavebank.unpaid(person, day) -/
theorem kX3_unpaid (l : Launch) (hfl : l.stackTraces = false) (D : va_G) (cy : Nat → ClassId) (C : List Nat) (ad : Nat → Nat) (e : Nat → Nat → Nat) (sz : Nat) (k d : Nat) (hCC : CC (e 0 1) (e 0 3) C) (hW : CW e) (hk : k < 4294967296) (hd : d < 4294967296) : vx_Met l yX3_unpaid wsX3_unpaid ({ frames := 8, cells := 2, slots := 12, locals := 127 } : Room) (PreX D cy (C, ad, G cy ad e) sz [.ref (ad 0), .int (nI k), .int (nI d)]) (va_Qi (fun (r : Int32) (u : WT) => (k < e 0 1 ∧ d ≤ 3600) ∧ r = nI ((goC e k (d + 1 - e (PB k) 0)) 3 10) ∧ u = (C, ad, G cy ad (goC e k (d + 1 - e (PB k) 0)))) (WB D cy (AW (C, ad, G cy ad e) sz)) (AW (C, ad, G cy ad e) sz)) (vx_X (fun (z : String × WT) => (¬ k < e 0 1 ∧ z = (eIO, (C, ad, G cy ad e))) ∨ (k < e 0 1 ∧ ¬ (0 ≤ d ∧ d ≤ 3600) ∧ z = (eIA, (C, ad, G cy ad e)))) (XB D cy (AW (C, ad, G cy ad e) sz)) (AW (C, ad, G cy ad e) sz)) 2 12 (AW (C, ad, G cy ad e) sz) := by
  refine mxx_start (cc := cX3_unpaid) (maxL := 3) (ret := (some .int)) (by decide) rfl (Nat.le_of_ble_eq_true rfl) ?_
  intro p9 e9 s m args below meth c hsz hr hnm M w Th hxt ls hl
  have hx := M.1.1
  have hb := M.1.2.1
  have inX0 : ∀ w ∈ wsX00, w ∈ wsX3_unpaid := by decide +kernel
  have f168 : Cond.fieldLink RX3 168 RX0 "unpaidDays" "I" ∈ wsX3_unpaid := by decide +kernel
  have hB := hCC.B
  have hl : lv_has ls 3 [(0, .ref (ad 0)), (1, .int (nI k)), (2, .int (nI d))] := hl
  refine lv_aload_n hx hb dX3_unpaid_0 rfl (lv_at hl 0 rfl) ?_
  refine lv_iload_n hx hb dX3_unpaid_1 rfl (lv_at hl 1 rfl) ?_
  refine lv_iload_n hx hb dX3_unpaid_2 rfl (lv_at hl 2 rfl) ?_
  refine mxx_Vr M w Th hxt (kX3_ledgerBehind l hfl D cy C ad e s.heap.size k d hCC hW hk hd) (cwV 2 M.1.2.2.2.2 gX3_unpaid_X3_ledgerBehind rfl rfl rfl (by decide +kernel) ⟨Nat.le_of_ble_eq_true rfl, Nat.le_of_ble_eq_true rfl⟩) (mo_rec M w (hB 0 (by decide)) (g := G cy ad e) (sh_0 cy ad (e 0)) rfl) rfl hl.1 rfl (Nat.le_of_ble_eq_true rfl) dX3_unpaid_3 ⟨by decide, by decide⟩ ⟨by decide, by decide⟩ (fun E u1 h => h) (fun r3 u1 H locs hp1 ha1 w => ?_)
  obtain ⟨⟨q3, q4⟩, rfl⟩ := hp1
  subst ha1
  have hpp := hW.p q3
  have hgw := GW_go hpp.a0 hpp.ch hpp.py hpp.lv (d + 1 - e (PB k) 0) (by have z := hpp.a0.1; omega)
  refine ex_get M w (hB 3 (by decide)) (sh_3 cy ad ((goC e k (d + 1 - e (PB k) 0)) 3)) rfl inX0 10 (by decide) f168 rfl dX3_unpaid_6 ?_
  refine vx_ret ?_
  exact mx_iret M w hr (v := (nI ((goC e k (d + 1 - e (PB k) 0)) 3 10))) ⟨⟨q3, q4⟩, rfl, rfl⟩ (by decide) (by decide) dX3_unpaid_9

set_option maxHeartbeats 4000000 in
set_option maxRecDepth 100000 in
/-- Leavebank.nextExpiry(person, day) -/
theorem kX3_nextExpiry (l : Launch) (hfl : l.stackTraces = false) (D : va_G) (cy : Nat → ClassId) (C : List Nat) (ad : Nat → Nat) (e : Nat → Nat → Nat) (sz : Nat) (k d : Nat) (hCC : CC (e 0 1) (e 0 3) C) (hW : CW e) (hk : k < 4294967296) (hd : d < 4294967296) : vx_Met l yX3_nextExpiry wsX3_nextExpiry ({ frames := 8, cells := 2, slots := 12, locals := 127 } : Room) (PreX D cy (C, ad, G cy ad e) sz [.ref (ad 0), .int (nI k), .int (nI d)]) (va_Qi (fun (r : Int32) (u : WT) => (k < e 0 1 ∧ d ≤ 3600) ∧ r = fxC (goC e k (d + 1 - e (PB k) 0)) ∧ u = (C, ad, G cy ad (goC e k (d + 1 - e (PB k) 0)))) (WB D cy (AW (C, ad, G cy ad e) sz)) (AW (C, ad, G cy ad e) sz)) (vx_X (fun (z : String × WT) => (¬ k < e 0 1 ∧ z = (eIO, (C, ad, G cy ad e))) ∨ (k < e 0 1 ∧ ¬ (0 ≤ d ∧ d ≤ 3600) ∧ z = (eIA, (C, ad, G cy ad e)))) (XB D cy (AW (C, ad, G cy ad e) sz)) (AW (C, ad, G cy ad e) sz)) 2 12 (AW (C, ad, G cy ad e) sz) := by
  refine mxx_start (cc := cX3_nextExpiry) (maxL := 3) (ret := (some .int)) (by decide) rfl (Nat.le_of_ble_eq_true rfl) ?_
  intro p9 e9 s m args below meth c hsz hr hnm M w Th hxt ls hl
  have hx := M.1.1
  have hb := M.1.2.1
  have hB := hCC.B
  have hl : lv_has ls 3 [(0, .ref (ad 0)), (1, .int (nI k)), (2, .int (nI d))] := hl
  refine lv_aload_n hx hb dX3_nextExpiry_0 rfl (lv_at hl 0 rfl) ?_
  refine lv_iload_n hx hb dX3_nextExpiry_1 rfl (lv_at hl 1 rfl) ?_
  refine lv_iload_n hx hb dX3_nextExpiry_2 rfl (lv_at hl 2 rfl) ?_
  refine mxx_Vr M w Th hxt (kX3_ledgerBehind l hfl D cy C ad e s.heap.size k d hCC hW hk hd) (cwV 2 M.1.2.2.2.2 gX3_nextExpiry_X3_ledgerBehind rfl rfl rfl (by decide +kernel) ⟨Nat.le_of_ble_eq_true rfl, Nat.le_of_ble_eq_true rfl⟩) (mo_rec M w (hB 0 (by decide)) (g := G cy ad e) (sh_0 cy ad (e 0)) rfl) rfl hl.1 rfl (Nat.le_of_ble_eq_true rfl) dX3_nextExpiry_3 ⟨by decide, by decide⟩ ⟨by decide, by decide⟩ (fun E u1 h => h) (fun r3 u1 H locs hp1 ha1 w => ?_)
  obtain ⟨⟨q3, q4⟩, rfl⟩ := hp1
  subst ha1
  have hpp := hW.p q3
  have hgw := GW_go hpp.a0 hpp.ch hpp.py hpp.lv (d + 1 - e (PB k) 0) (by have z := hpp.a0.1; omega)
  refine mx_Vi M w (kX0_firstExpiry l D cy C ad (goC e k (d + 1 - e (PB k) 0)) H.size hB hgw.1) (cwV 0 M.1.2.2.2.2 gX3_nextExpiry_X0_firstExpiry rfl rfl rfl (by decide +kernel) ⟨Nat.le_of_ble_eq_true rfl, Nat.le_of_ble_eq_true rfl⟩) (mo_rec M w (hB 3 (by decide)) (g := G cy ad (goC e k (d + 1 - e (PB k) 0))) (sh_3 cy ad ((goC e k (d + 1 - e (PB k) 0)) 3)) rfl) rfl hl.1 rfl (Nat.le_of_ble_eq_true rfl) dX3_nextExpiry_6 ⟨by decide, by decide⟩ (fun r6 u1 H locs hp1 w => ?_)
  obtain ⟨rfl, rfl⟩ := hp1
  refine vx_ret ?_
  exact mx_iret M w hr (v := (fxC (goC e k (d + 1 - e (PB k) 0)))) ⟨⟨q3, q4⟩, rfl, rfl⟩ (by decide) (by decide) dX3_nextExpiry_9

set_option maxHeartbeats 4000000 in
set_option maxRecDepth 100000 in
/-- Leavebank.hours(person, day) -/
theorem kX3_hours (l : Launch) (hfl : l.stackTraces = false) (D : va_G) (cy : Nat → ClassId) (C : List Nat) (ad : Nat → Nat) (e : Nat → Nat → Nat) (sz : Nat) (k d : Nat) (hCC : CC (e 0 1) (e 0 3) C) (hW : CW e) (hk : k < 4294967296) (hd : d < 4294967296) : vx_Met l yX3_hours wsX3_hours ({ frames := 7, cells := 2, slots := 12, locals := 104 } : Room) (PreX D cy (C, ad, G cy ad e) sz [.ref (ad 0), .int (nI k), .int (nI d)]) (va_Qi (fun (r : Int32) (u : WT) => (k < e 0 1 ∧ e (PB k) 0 ≤ d ∧ d ≤ 3600) ∧ r = nI (hrC e k d) ∧ u = (C, ad, G cy ad e)) (WB D cy (AW (C, ad, G cy ad e) sz)) (AW (C, ad, G cy ad e) sz)) (vx_X (fun (z : String × WT) => (¬ k < e 0 1 ∧ z = (eIO, (C, ad, G cy ad e))) ∨ (k < e 0 1 ∧ ¬ (e (PB k) 0 ≤ d ∧ d ≤ 3600) ∧ z = (eIA, (C, ad, G cy ad e)))) (XB D cy (AW (C, ad, G cy ad e) sz)) (AW (C, ad, G cy ad e) sz)) 2 12 (AW (C, ad, G cy ad e) sz) := by
  refine mxx_start (cc := cX3_hours) (maxL := 4) (ret := (some .int)) (by decide) rfl (Nat.le_of_ble_eq_true rfl) ?_
  intro p9 e9 s m args below meth c hsz hr hnm M w Th hxt ls hl
  have hx := M.1.1
  have hb := M.1.2.1
  have inX1 : ∀ w ∈ wsX10, w ∈ wsX3_hours := by decide +kernel
  have f58 : Cond.fieldLink RX3 58 RX1 "firstDay" "I" ∈ wsX3_hours := by decide +kernel
  have hB := hCC.B
  have hl : lv_has ls 4 [(0, .ref (ad 0)), (1, .int (nI k)), (2, .int (nI d))] := hl
  refine lv_aload_n hx hb dX3_hours_0 rfl (lv_at hl 0 rfl) ?_
  refine lv_iload_n hx hb dX3_hours_1 rfl (lv_at hl 1 rfl) ?_
  refine mxx_Vr M w Th hxt (kX3_personAt l hfl D cy C ad e s.heap.size k hB hW hk) (cwV 1 M.1.2.2.2.2 gX3_hours_X3_personAt rfl rfl rfl (by decide +kernel) ⟨Nat.le_of_ble_eq_true rfl, Nat.le_of_ble_eq_true rfl⟩) (mo_rec M w (hB 0 (by decide)) (g := G cy ad e) (sh_0 cy ad (e 0)) rfl) rfl hl.1 rfl (Nat.le_of_ble_eq_true rfl) dX3_hours_2 ⟨by decide, by decide⟩ ⟨by decide, by decide⟩ (fun E u1 h => Or.inl h) (fun r2 u1 H locs hp1 ha1 w => ?_)
  obtain ⟨q2, rfl⟩ := hp1
  subst ha1
  have hp : k < 8 := by have z := hW.np; omega
  have hC := hCC.P q2
  have hpp := hW.p q2
  refine lv_astore_n (lv' := [(3, .ref (ad (PB k))), (0, .ref (ad 0)), (1, .int (nI k)), (2, .int (nI d))]) hx hb dX3_hours_5 rfl hl (by decide) rfl (fun ls hl => ?_)
  refine lv_aload_n hx hb dX3_hours_6 rfl (lv_at hl 0 rfl) ?_
  refine ex_get M w (show (PB k) ∈ C from hC 0 (by decide)) (sh_P0 cy ad (e (PB k)) hp) rfl inX1 0 (by decide) f58 rfl dX3_hours_7 ?_
  refine lv_iload_n hx hb dX3_hours_10 rfl (lv_at hl 3 rfl) ?_
  refine mxx_Sv M w Th hxt (kX3_checkDay l hfl D cy C ad e H.size (e (PB k) 0) d hpp.a0.1 hd) (va_cwS 2 M.1.2.2.2.2 gX3_hours_X3_checkDay rfl rfl rfl (by decide +kernel) ⟨Nat.le_of_ble_eq_true rfl, Nat.le_of_ble_eq_true rfl⟩) rfl hl.1 rfl (Nat.le_of_ble_eq_true rfl) dX3_hours_11 ⟨by decide, by decide⟩ ⟨by decide, by decide⟩ (fun E u1 h => Or.inr ⟨q2, h⟩) (fun u1 H locs hp1 w => ?_)
  obtain ⟨c11, rfl⟩ := hp1
  refine lv_aload_n hx hb dX3_hours_14 rfl (lv_at hl 0 rfl) ?_
  refine lv_iload_n hx hb dX3_hours_15 rfl (lv_at hl 3 rfl) ?_
  refine mx_Vi M w (kX1_hoursOn l D cy C ad e H.size k d hp hC hpp.ch c11.2) (cwV 1 M.1.2.2.2.2 gX3_hours_X1_hoursOn rfl rfl rfl (by decide +kernel) ⟨Nat.le_of_ble_eq_true rfl, Nat.le_of_ble_eq_true rfl⟩) (mo_rec M w (show (PB k) ∈ C from hC 0 (by decide)) (g := G cy ad e) (sh_P0 cy ad (e (PB k)) hp) rfl) rfl hl.1 rfl (Nat.le_of_ble_eq_true rfl) dX3_hours_16 ⟨by decide, by decide⟩ (fun r16 u1 H locs hp1 w => ?_)
  obtain ⟨rfl, rfl⟩ := hp1
  refine vx_ret ?_
  exact mx_iret M w hr (v := (nI (hrC e k d))) ⟨⟨q2, c11⟩, rfl, rfl⟩ (by decide) (by decide) dX3_hours_19

set_option maxHeartbeats 4000000 in
set_option maxRecDepth 100000 in
/-- Leavebank.onLeave(person, day) -/
theorem kX3_onLeave (l : Launch) (hfl : l.stackTraces = false) (D : va_G) (cy : Nat → ClassId) (C : List Nat) (ad : Nat → Nat) (e : Nat → Nat → Nat) (sz : Nat) (k d : Nat) (hCC : CC (e 0 1) (e 0 3) C) (hW : CW e) (hk : k < 4294967296) (hd : d < 4294967296) : vx_Met l yX3_onLeave wsX3_onLeave ({ frames := 7, cells := 2, slots := 12, locals := 104 } : Room) (PreX D cy (C, ad, G cy ad e) sz [.ref (ad 0), .int (nI k), .int (nI d)]) (va_Qi (fun (r : Int32) (u : WT) => (k < e 0 1 ∧ d ≤ 3600) ∧ r = nI (e (PB k + 8) d) ∧ u = (C, ad, G cy ad e)) (WB D cy (AW (C, ad, G cy ad e) sz)) (AW (C, ad, G cy ad e) sz)) (vx_X (fun (z : String × WT) => (¬ k < e 0 1 ∧ z = (eIO, (C, ad, G cy ad e))) ∨ (k < e 0 1 ∧ ¬ (0 ≤ d ∧ d ≤ 3600) ∧ z = (eIA, (C, ad, G cy ad e)))) (XB D cy (AW (C, ad, G cy ad e) sz)) (AW (C, ad, G cy ad e) sz)) 2 12 (AW (C, ad, G cy ad e) sz) := by
  refine mxx_start (cc := cX3_onLeave) (maxL := 4) (ret := (some .int)) (by decide) rfl (Nat.le_of_ble_eq_true rfl) ?_
  intro p9 e9 s m args below meth c hsz hr hnm M w Th hxt ls hl
  have hx := M.1.1
  have hb := M.1.2.1
  have hB := hCC.B
  have hl : lv_has ls 4 [(0, .ref (ad 0)), (1, .int (nI k)), (2, .int (nI d))] := hl
  refine lv_aload_n hx hb dX3_onLeave_0 rfl (lv_at hl 0 rfl) ?_
  refine lv_iload_n hx hb dX3_onLeave_1 rfl (lv_at hl 1 rfl) ?_
  refine mxx_Vr M w Th hxt (kX3_personAt l hfl D cy C ad e s.heap.size k hB hW hk) (cwV 1 M.1.2.2.2.2 gX3_onLeave_X3_personAt rfl rfl rfl (by decide +kernel) ⟨Nat.le_of_ble_eq_true rfl, Nat.le_of_ble_eq_true rfl⟩) (mo_rec M w (hB 0 (by decide)) (g := G cy ad e) (sh_0 cy ad (e 0)) rfl) rfl hl.1 rfl (Nat.le_of_ble_eq_true rfl) dX3_onLeave_2 ⟨by decide, by decide⟩ ⟨by decide, by decide⟩ (fun E u1 h => Or.inl h) (fun r2 u1 H locs hp1 ha1 w => ?_)
  obtain ⟨q2, rfl⟩ := hp1
  subst ha1
  have hp : k < 8 := by have z := hW.np; omega
  have hC := hCC.P q2
  have hpp := hW.p q2
  refine lv_astore_n (lv' := [(3, .ref (ad (PB k))), (0, .ref (ad 0)), (1, .int (nI k)), (2, .int (nI d))]) hx hb dX3_onLeave_5 rfl hl (by decide) rfl (fun ls hl => ?_)
  refine lv_iconst (v := nI 0) hx hb dX3_onLeave_6 (by decide) ?_
  refine lv_iload_n hx hb dX3_onLeave_7 rfl (lv_at hl 3 rfl) ?_
  refine mxx_Sv M w Th hxt (kX3_checkDay l hfl D cy C ad e H.size 0 d (by omega) hd) (va_cwS 2 M.1.2.2.2.2 gX3_onLeave_X3_checkDay rfl rfl rfl (by decide +kernel) ⟨Nat.le_of_ble_eq_true rfl, Nat.le_of_ble_eq_true rfl⟩) rfl hl.1 rfl (Nat.le_of_ble_eq_true rfl) dX3_onLeave_8 ⟨by decide, by decide⟩ ⟨by decide, by decide⟩ (fun E u1 h => Or.inr ⟨q2, h⟩) (fun u1 H locs hp1 w => ?_)
  obtain ⟨c8, rfl⟩ := hp1
  refine lv_aload_n hx hb dX3_onLeave_11 rfl (lv_at hl 0 rfl) ?_
  refine lv_iload_n hx hb dX3_onLeave_12 rfl (lv_at hl 3 rfl) ?_
  refine mx_Vi M w (kX1_leaveOn l D cy C ad e H.size k d hp hC c8.2) (cwV 1 M.1.2.2.2.2 gX3_onLeave_X1_leaveOn rfl rfl rfl (by decide +kernel) ⟨Nat.le_of_ble_eq_true rfl, Nat.le_of_ble_eq_true rfl⟩) (mo_rec M w (show (PB k) ∈ C from hC 0 (by decide)) (g := G cy ad e) (sh_P0 cy ad (e (PB k)) hp) rfl) rfl hl.1 rfl (Nat.le_of_ble_eq_true rfl) dX3_onLeave_13 ⟨by decide, by decide⟩ (fun r13 u1 H locs hp1 w => ?_)
  obtain ⟨rfl, rfl⟩ := hp1
  refine vx_ret ?_
  exact mx_iret M w hr (v := (nI (e (PB k + 8) d))) ⟨⟨q2, c8.2⟩, rfl, rfl⟩ (by decide) (by decide) dX3_onLeave_16

set_option maxHeartbeats 4000000 in
set_option maxRecDepth 100000 in
/-- Leavebank.today() -/
theorem kX3_today (l : Launch) (D : va_G) (cy : Nat → ClassId) (C : List Nat) (ad : Nat → Nat) (e : Nat → Nat → Nat) (sz : Nat)  (hB : ∀ k, k < 26 → k ∈ C) : Met l yX3_today wsX3_today ({ frames := 0, cells := 0, slots := 0, locals := 0 } : Room) (PreM D cy (C, ad, G cy ad e) sz [.ref (ad 0)]) (va_Qi (fun (r : Int32) (u : WT) => r = nI (e 0 6) ∧ u = (C, ad, G cy ad e)) (WB D cy (AW (C, ad, G cy ad e) sz)) (AW (C, ad, G cy ad e) sz)) 0 0 (AW (C, ad, G cy ad e) sz) := by
  refine mx_start (cc := cX3_today) (maxL := 1) (ret := (some .int)) (by decide) rfl (Nat.le_of_ble_eq_true rfl) ?_
  intro p9 e9 s m args below meth c hsz hr hnm M w ls hl
  have hx := M.1.1
  have hb := M.1.2.1
  have inX3 : ∀ w ∈ wsX30, w ∈ wsX3_today := by decide +kernel
  have f48 : Cond.fieldLink RX3 48 RX3 "currentDay" "I" ∈ wsX3_today := by decide +kernel
  have hl : lv_has ls 1 [(0, .ref (ad 0))] := hl
  refine lv_aload_n hx hb dX3_today_0 rfl (lv_at hl 0 rfl) ?_
  refine ex_get M w (hB 0 (by decide)) (sh_0 cy ad (e 0)) rfl inX3 6 (by decide) f48 rfl dX3_today_1 ?_
  exact mx_iret M w hr (v := (nI (e 0 6))) ⟨rfl, rfl⟩ (by decide) (by decide) dX3_today_4

set_option maxHeartbeats 4000000 in
set_option maxRecDepth 100000 in
/-- Leavebank.people() -/
theorem kX3_people (l : Launch) (D : va_G) (cy : Nat → ClassId) (C : List Nat) (ad : Nat → Nat) (e : Nat → Nat → Nat) (sz : Nat)  (hB : ∀ k, k < 26 → k ∈ C) : Met l yX3_people wsX3_people ({ frames := 0, cells := 0, slots := 0, locals := 0 } : Room) (PreM D cy (C, ad, G cy ad e) sz [.ref (ad 0)]) (va_Qi (fun (r : Int32) (u : WT) => r = nI (e 0 1) ∧ u = (C, ad, G cy ad e)) (WB D cy (AW (C, ad, G cy ad e) sz)) (AW (C, ad, G cy ad e) sz)) 0 0 (AW (C, ad, G cy ad e) sz) := by
  refine mx_start (cc := cX3_people) (maxL := 1) (ret := (some .int)) (by decide) rfl (Nat.le_of_ble_eq_true rfl) ?_
  intro p9 e9 s m args below meth c hsz hr hnm M w ls hl
  have hx := M.1.1
  have hb := M.1.2.1
  have inX3 : ∀ w ∈ wsX30, w ∈ wsX3_people := by decide +kernel
  have f39 : Cond.fieldLink RX3 39 RX3 "personCount" "I" ∈ wsX3_people := by decide +kernel
  have hl : lv_has ls 1 [(0, .ref (ad 0))] := hl
  refine lv_aload_n hx hb dX3_people_0 rfl (lv_at hl 0 rfl) ?_
  refine ex_get M w (hB 0 (by decide)) (sh_0 cy ad (e 0)) rfl inX3 1 (by decide) f39 rfl dX3_people_1 ?_
  exact mx_iret M w hr (v := (nI (e 0 1))) ⟨rfl, rfl⟩ (by decide) (by decide) dX3_people_4

set_option maxHeartbeats 4000000 in
set_option maxRecDepth 100000 in
/-- Leavebank.workingDaysAheadOf(day) -/
theorem kX3_workingDaysAheadOf (l : Launch) (D : va_G) (cy : Nat → ClassId) (C : List Nat) (ad : Nat → Nat) (e : Nat → Nat → Nat) (sz : Nat) (x : Nat) (hx9 : x ≤ 3601) : Met l yX3_workingDaysAheadOf wsX3_workingDaysAheadOf ({ frames := 1, cells := 0, slots := 0, locals := 14 } : Room) (PreM D cy (C, ad, G cy ad e) sz [.int (nI x)]) (va_Qi (fun (r : Int32) (u : WT) => r = nI (x / 7 * 5 + min (x % 7) 5) ∧ u = (C, ad, G cy ad e)) (WB D cy (AW (C, ad, G cy ad e) sz)) (AW (C, ad, G cy ad e) sz)) 0 0 (AW (C, ad, G cy ad e) sz) := by
  refine mx_start (cc := cX3_workingDaysAheadOf) (maxL := 2) (ret := (some .int)) (by decide) rfl (Nat.le_of_ble_eq_true rfl) ?_
  intro p9 e9 s m args below meth c hsz hr hnm M w ls hl
  have hx := M.1.1
  have hb := M.1.2.1
  have k187 : Cond.methodLink RX3 187 Lib.Math.min.name ∈ wsX3_workingDaysAheadOf := by decide +kernel
  have k187a : Cond.static Lib.Math.min.name ∈ wsX3_workingDaysAheadOf := by decide +kernel
  have k187b : Cond.initialized "java/lang/Math" ∈ wsX3_workingDaysAheadOf := by decide +kernel
  have k187c : Cond.code Lib.Math.min.name Lib.Math.min.code 2 (some .int) ∈ wsX3_workingDaysAheadOf := by decide +kernel
  have hl : lv_has ls 2 [(0, .int (nI x))] := hl
  refine lv_iload_n hx hb dX3_workingDaysAheadOf_0 rfl (lv_at hl 0 rfl) ?_
  refine lv_bipush (v := nI 7) hx hb dX3_workingDaysAheadOf_1 (by decide) ?_
  refine mi_div hx hb (by omega) (by decide) (by decide) dX3_workingDaysAheadOf_3 ?_
  refine lv_iconst (v := nI 5) hx hb dX3_workingDaysAheadOf_4 (by decide) ?_
  refine mi_mul hx hb dX3_workingDaysAheadOf_5 ?_
  refine lv_istore_n (lv' := [(1, .int (nI ((x / 7) * 5))), (0, .int (nI x))]) hx hb dX3_workingDaysAheadOf_6 rfl hl (by decide) rfl (fun ls hl => ?_)
  refine lv_iload_n hx hb dX3_workingDaysAheadOf_7 rfl (lv_at hl 0 rfl) ?_
  refine lv_iload_n hx hb dX3_workingDaysAheadOf_8 rfl (lv_at hl 1 rfl) ?_
  refine lv_bipush (v := nI 7) hx hb dX3_workingDaysAheadOf_9 (by decide) ?_
  refine mi_rem hx hb (by omega) (by decide) (by decide) dX3_workingDaysAheadOf_11 ?_
  refine lv_iconst (v := nI 5) hx hb dX3_workingDaysAheadOf_12 (by decide) ?_
  refine mi_min M hl.1 k187 k187a k187b k187c (by decide) (Nat.le_of_ble_eq_true rfl) (by decide) (by decide) (by omega) (by decide) dX3_workingDaysAheadOf_13 ?_
  refine mi_add hx hb dX3_workingDaysAheadOf_16 ?_
  exact mx_iret M w hr (v := (nI (((x / 7) * 5) + (min (x % 7) 5)))) ⟨rfl, rfl⟩ (by decide) (by decide) dX3_workingDaysAheadOf_17

set_option maxHeartbeats 4000000 in
set_option maxRecDepth 100000 in
/-- Leavebank.workingDays(first, last) -/
theorem kX3_workingDays (l : Launch) (hfl : l.stackTraces = false) (D : va_G) (cy : Nat → ClassId) (C : List Nat) (ad : Nat → Nat) (e : Nat → Nat → Nat) (sz : Nat) (f t : Nat) (hf : f < 4294967296) (ht : t < 4294967296) : vx_Met l yX3_workingDays wsX3_workingDays ({ frames := 7, cells := 1, slots := 6, locals := 104 } : Room) (PreX D cy (C, ad, G cy ad e) sz [.ref (ad 0), .int (nI f), .int (nI t)]) (va_Qi (fun (r : Int32) (u : WT) => (0 ≤ f ∧ f ≤ t ∧ t ≤ 3600) ∧ r = nI ((t + 1) / 7 * 5 + min ((t + 1) % 7) 5 - (f / 7 * 5 + min (f % 7) 5)) ∧ u = (C, ad, G cy ad e)) (WB D cy (AW (C, ad, G cy ad e) sz)) (AW (C, ad, G cy ad e) sz)) (vx_X (fun (z : String × WT) => ¬ (0 ≤ f ∧ f ≤ t ∧ t ≤ 3600) ∧ z = (eIA, (C, ad, G cy ad e))) (XB D cy (AW (C, ad, G cy ad e) sz)) (AW (C, ad, G cy ad e) sz)) 1 6 (AW (C, ad, G cy ad e) sz) := by
  refine mxx_start (cc := cX3_workingDays) (maxL := 3) (ret := (some .int)) (by decide) rfl (Nat.le_of_ble_eq_true rfl) ?_
  intro p9 e9 s m args below meth c hsz hr hnm M w Th hxt ls hl
  have hx := M.1.1
  have hb := M.1.2.1
  have hl : lv_has ls 3 [(0, .ref (ad 0)), (1, .int (nI f)), (2, .int (nI t))] := hl
  refine lv_iconst (v := nI 0) hx hb dX3_workingDays_0 (by decide) ?_
  refine lv_iload_n hx hb dX3_workingDays_1 rfl (lv_at hl 1 rfl) ?_
  refine lv_iload_n hx hb dX3_workingDays_2 rfl (lv_at hl 2 rfl) ?_
  refine mxx_Sv M w Th hxt (kX3_checkDays l hfl D cy C ad e s.heap.size 0 f t (by omega) hf ht) (va_cwS 3 M.1.2.2.2.2 gX3_workingDays_X3_checkDays rfl rfl rfl (by decide +kernel) ⟨Nat.le_of_ble_eq_true rfl, Nat.le_of_ble_eq_true rfl⟩) rfl hl.1 rfl (Nat.le_of_ble_eq_true rfl) dX3_workingDays_3 ⟨by decide, by decide⟩ ⟨by decide, by decide⟩ (fun E u1 h => h) (fun u1 H locs hp1 w => ?_)
  obtain ⟨c3, rfl⟩ := hp1
  refine lv_iload_n hx hb dX3_workingDays_6 rfl (lv_at hl 2 rfl) ?_
  refine lv_iconst (v := nI 1) hx hb dX3_workingDays_7 (by decide) ?_
  refine mi_add hx hb dX3_workingDays_8 ?_
  refine mx_Si M w (kX3_workingDaysAheadOf l D cy C ad e H.size (t + 1) (by omega)) (va_cwS 1 M.1.2.2.2.2 gX3_workingDays_X3_workingDaysAheadOf rfl rfl rfl (by decide +kernel) ⟨Nat.le_of_ble_eq_true rfl, Nat.le_of_ble_eq_true rfl⟩) rfl hl.1 rfl (Nat.le_of_ble_eq_true rfl) dX3_workingDays_9 ⟨by decide, by decide⟩ (fun r9 u1 H locs hp1 w => ?_)
  obtain ⟨rfl, rfl⟩ := hp1
  refine lv_iload_n hx hb dX3_workingDays_12 rfl (lv_at hl 1 rfl) ?_
  refine mx_Si M w (kX3_workingDaysAheadOf l D cy C ad e H.size f (by omega)) (va_cwS 1 M.1.2.2.2.2 gX3_workingDays_X3_workingDaysAheadOf rfl rfl rfl (by decide +kernel) ⟨Nat.le_of_ble_eq_true rfl, Nat.le_of_ble_eq_true rfl⟩) rfl hl.1 rfl (Nat.le_of_ble_eq_true rfl) dX3_workingDays_13 ⟨by decide, by decide⟩ (fun r13 u1 H locs hp1 w => ?_)
  obtain ⟨rfl, rfl⟩ := hp1
  refine mi_sub hx hb (by omega) dX3_workingDays_16 ?_
  refine vx_ret ?_
  exact mx_iret M w hr (v := (nI (((t + 1) / 7 * 5 + min ((t + 1) % 7) 5) - (f / 7 * 5 + min (f % 7) 5)))) ⟨c3, rfl, rfl⟩ (by decide) (by decide) dX3_workingDays_17

set_option maxHeartbeats 4000000 in
set_option maxRecDepth 100000 in
/-- Leavebank.pass(days) -/
theorem kX3_pass (l : Launch) (hfl : l.stackTraces = false) (D : va_G) (cy : Nat → ClassId) (C : List Nat) (ad : Nat → Nat) (e : Nat → Nat → Nat) (sz : Nat) (d : Nat) (hB : ∀ k, k < 26 → k ∈ C) (hW : CW e) (hd : d < 4294967296) : vx_Met l yX3_pass wsX3_pass ({ frames := 6, cells := 1, slots := 6, locals := 82 } : Room) (PreX D cy (C, ad, G cy ad e) sz [.ref (ad 0), .int (nI d)]) (va_Qi (fun (r : Int32) (u : WT) => ((1 ≤ d ∧ d ≤ 400) ∧ e 0 6 + d ≤ 3600) ∧ r = nI (e 0 6 + d) ∧ u = (C, ad, G cy ad (es e 0 6 (e 0 6 + d)))) (WB D cy (AW (C, ad, G cy ad e) sz)) (AW (C, ad, G cy ad e) sz)) (vx_X (fun (z : String × WT) => (¬ (1 ≤ d ∧ d ≤ 400) ∧ z = (eIA, (C, ad, G cy ad e))) ∨ ((1 ≤ d ∧ d ≤ 400) ∧ ¬ (e 0 6 + d ≤ 3600) ∧ z = (eIS, (C, ad, G cy ad e)))) (XB D cy (AW (C, ad, G cy ad e) sz)) (AW (C, ad, G cy ad e) sz)) 1 6 (AW (C, ad, G cy ad e) sz) := by
  refine mxx_start (cc := cX3_pass) (maxL := 2) (ret := (some .int)) (by decide) rfl (Nat.le_of_ble_eq_true rfl) ?_
  intro p9 e9 s m args below meth c hsz hr hnm M w Th hxt ls hl
  have hx := M.1.1
  have hb := M.1.2.1
  have inX3 : ∀ w ∈ wsX30, w ∈ wsX3_pass := by decide +kernel
  have f48 : Cond.fieldLink RX3 48 RX3 "currentDay" "I" ∈ wsX3_pass := by decide +kernel
  have hl : lv_has ls 2 [(0, .ref (ad 0)), (1, .int (nI d))] := hl
  refine lv_iload_n hx hb dX3_pass_0 rfl (lv_at hl 1 rfl) ?_
  refine lv_iconst (v := nI 1) hx hb dX3_pass_1 (by decide) ?_
  refine mw_lt hx hb hd (by decide) 12 dX3_pass_2 (by decide) (fun h2 => ?_) (fun h2 => ?_)
  · exact mx_throw M w Th hfl hxt (cls := eIA) (text := "days are out of range") (is := 139) (by decide +kernel) (show Cond.classLink RX3 28 eIA ∈ wsX3_pass by decide +kernel) (show Cond.initialized eIA ∈ wsX3_pass by decide +kernel) (by decide +kernel) rfl (show ∀ w ∈ (vx_atS RX3 32 eIA eUP).filter goodWord, w ∈ wsX3_pass by decide +kernel) (by decide +kernel) (by decide +kernel) hl.1 dX3_pass_12 dX3_pass_15 dX3_pass_16 dX3_pass_18 dX3_pass_21 (by decide) (Nat.le_of_ble_eq_true rfl) (by decide) (by decide) (Or.inl ⟨by omega, rfl⟩) (by decide) (by decide)
  · refine lv_iload_n hx hb dX3_pass_5 rfl (lv_at hl 1 rfl) ?_
    refine lv_sipush (v := nI 400) hx hb dX3_pass_6 (by decide) ?_
    refine mw_le hx hb hd (by decide) 22 dX3_pass_9 (by decide) (fun h9 => ?_) (fun h9 => ?_)
    · have q1 := hW.td
      refine lv_aload_n hx hb dX3_pass_22 rfl (lv_at hl 0 rfl) ?_
      refine ex_get M w (hB 0 (by decide)) (sh_0 cy ad (e 0)) rfl inX3 6 (by decide) f48 rfl dX3_pass_23 ?_
      refine lv_iload_n hx hb dX3_pass_26 rfl (lv_at hl 1 rfl) ?_
      refine mi_add hx hb dX3_pass_27 ?_
      refine lv_sipush (v := nI 3600) hx hb dX3_pass_28 (by decide) ?_
      refine mi_le hx hb (by omega) (by decide) 44 dX3_pass_31 (by decide) (fun h31 => ?_) (fun h31 => ?_)
      · refine lv_aload_n hx hb dX3_pass_44 rfl (lv_at hl 0 rfl) ?_
        refine lv_dup hx hb dX3_pass_45 rfl ?_
        refine ex_get M w (hB 0 (by decide)) (sh_0 cy ad (e 0)) rfl inX3 6 (by decide) f48 rfl dX3_pass_46 ?_
        refine lv_iload_n hx hb dX3_pass_49 rfl (lv_at hl 1 rfl) ?_
        refine mi_add hx hb dX3_pass_50 ?_
        refine ex_put M w (hB 0 (by decide)) (sh_0 cy ad (e 0)) rfl inX3 tyX3 tyX3_ok nmX3 6 (by decide) f48 rfl (v := ((e 0 6) + d)) rfl rfl (Nat.le_of_ble_eq_true rfl) (sh_0 cy ad _) dX3_pass_51 (fun H locs w => ?_)
        refine lv_aload_n hx hb dX3_pass_54 rfl (lv_at hl 0 rfl) ?_
        refine ex_get M w (hB 0 (by decide)) (sh_0 cy ad ((es e 0 6 ((e 0 6) + d)) 0)) rfl inX3 6 (by decide) f48 (congrArg (fun z => some (Value.int (nI z))) (es_same _ _ _ _)) dX3_pass_55 ?_
        refine vx_ret ?_
        exact mx_iret M w hr (v := (nI ((e 0 6) + d))) ⟨⟨by omega, by omega⟩, rfl, rfl⟩ (by decide) (by decide) dX3_pass_58
      · exact mx_throw M w Th hfl hxt (cls := eIS) (text := "today would be later than 3600") (is := 141) (by decide +kernel) (show Cond.classLink RX3 43 eIS ∈ wsX3_pass by decide +kernel) (show Cond.initialized eIS ∈ wsX3_pass by decide +kernel) (by decide +kernel) rfl (show ∀ w ∈ (vx_atS RX3 47 eIS eUP).filter goodWord, w ∈ wsX3_pass by decide +kernel) (by decide +kernel) (by decide +kernel) hl.1 dX3_pass_34 dX3_pass_37 dX3_pass_38 dX3_pass_40 dX3_pass_43 (by decide) (Nat.le_of_ble_eq_true rfl) (by decide) (by decide) (Or.inr ⟨by omega, by omega, rfl⟩) (by decide) (by decide)
    · exact mx_throw M w Th hfl hxt (cls := eIA) (text := "days are out of range") (is := 139) (by decide +kernel) (show Cond.classLink RX3 28 eIA ∈ wsX3_pass by decide +kernel) (show Cond.initialized eIA ∈ wsX3_pass by decide +kernel) (by decide +kernel) rfl (show ∀ w ∈ (vx_atS RX3 32 eIA eUP).filter goodWord, w ∈ wsX3_pass by decide +kernel) (by decide +kernel) (by decide +kernel) hl.1 dX3_pass_12 dX3_pass_15 dX3_pass_16 dX3_pass_18 dX3_pass_21 (by decide) (Nat.le_of_ble_eq_true rfl) (by decide) (by decide) (Or.inl ⟨by omega, rfl⟩) (by decide) (by decide)
end
section
/-! ===== what the entries do, in numbers ===== -/
theorem mkC_lo (e : Nat → Nat → Nat) (p f t : Nat) {c : Nat} (h : c < 32) : mkC e p f t c = e c := by
  funext i
  unfold mkC
  rw [if_neg (by unfold PB; omega)]
theorem mkC_Q (e : Nat → Nat → Nat) (p f t : Nat) {q k : Nat} (hk : k < 16) (h : q ≠ p) : mkC e p f t (PB q + k) = e (PB q + k) := by
  funext i
  unfold mkC
  rw [if_neg (by unfold PB; omega)]
theorem esC_lo (e : Nat → Nat → Nat) (p f t : Nat) {c : Nat} (h : c < 32) : esC e p f t c = e c := by
  unfold esC esC0
  rw [mkC_lo _ _ _ _ h, es_off _ _ _ (by unfold PB; omega), es_off _ _ _ (by unfold PB; omega), es_off _ _ _ (by unfold PB; omega)]
theorem erC_lo (e : Nat → Nat → Nat) (p q : Nat) {c : Nat} (h : c < 32) : erC e p q c = e c := by
  unfold erC erC0
  rw [mkC_lo _ _ _ _ h, es_off _ _ _ (by unfold PB; omega), es_off _ _ _ (by unfold PB; omega)]
theorem epC_lo (e : Nat → Nat → Nat) (p d pts : Nat) {c : Nat} (h : c < 32) : epC e p d pts c = e c := by
  unfold epC
  rw [es_off _ _ _ (by unfold PB; omega), es_off _ _ _ (by unfold PB; omega), es_off _ _ _ (by unfold PB; omega)]
theorem ehC_lo (e : Nat → Nat → Nat) (p d hh : Nat) {c : Nat} (h : c < 32) : ehC e p d hh c = e c := by
  unfold ehC
  rw [es_off _ _ _ (by unfold PB; omega), es_off _ _ _ (by unfold PB; omega), es_off _ _ _ (by unfold PB; omega)]
theorem esR_P {e : Nat → Nat → Nat} {p : Nat} (hp : p < 8) (k i v : Nat) : EqP e (es e (RB k) i v) p := fun j hj => es_off e i v (by unfold RB PB; omega)
theorem EqP.tr {e e1 e2 : Nat → Nat → Nat} {p : Nat} (h : EqP e e1 p) (h2 : EqP e1 e2 p) : EqP e e2 p := fun k hk => (h2 k hk).trans (h k hk)
theorem RB_inj {a b : Nat} : RB a = RB b ↔ a = b := by unfold RB; omega
theorem RW_ft {e : Nat → Nat → Nat} {nr k f t : Nat} (h : RW e nr) (hf : f ≤ 3600) (ht : t ≤ 3600) : RW (es (es e (RB k) 2 f) (RB k) 3 t) nr := fun q hq => by
  have h1 := h q hq
  rw [es_ne _ _ (by omega), es_ne _ _ (by omega)]
  refine ⟨h1.1, ?_, ?_, ?_⟩
  · rw [es_ne _ _ (by omega), es_at]
    split <;> omega
  · rw [es_at, es_ne _ _ (by omega)]
    split <;> omega
  · rw [es_ne _ _ (by omega), es_ne _ _ (by omega)]
    exact h1.2.2.2
theorem RW_cn {e : Nat → Nat → Nat} {nr k : Nat} (h : RW e nr) : RW (es e (RB k) 4 1) nr := fun q hq => by
  have h1 := h q hq
  rw [es_ne _ _ (by omega), es_ne _ _ (by omega), es_ne _ _ (by omega), es_at]
  refine ⟨h1.1, h1.2.1, h1.2.2.1, ?_⟩
  split <;> omega
end
section
set_option maxHeartbeats 4000000 in
set_option maxRecDepth 100000 in
/-- Leavebank.setHours(person, day, hours) -/
theorem kX3_setHours (l : Launch) (hfl : l.stackTraces = false) (D : va_G) (cy : Nat → ClassId) (C : List Nat) (ad : Nat → Nat) (e : Nat → Nat → Nat) (sz : Nat) (k d h : Nat) (hCC : CC (e 0 1) (e 0 3) C) (hW : CW e) (hk : k < 4294967296) (hd : d < 4294967296) (hh : h < 4294967296) : vx_Met l yX3_setHours wsX3_setHours ({ frames := 7, cells := 4, slots := 24, locals := 104 } : Room) (PreX D cy (C, ad, G cy ad e) sz [.ref (ad 0), .int (nI k), .int (nI d), .int (nI h)]) (va_Qi (fun (r : Int32) (u : WT) => ((k < e 0 1 ∧ e (PB k) 0 ≤ d ∧ d ≤ 3600) ∧ (1 ≤ h ∧ h ≤ 10) ∧ fiN (e (PB k + 1)) d (e (PB k) 5) < 10) ∧ r = nI (hrC e k d) ∧ u = (C, ad, G cy ad (ehC e k d h))) (WB D cy (AW (C, ad, G cy ad e) sz)) (AW (C, ad, G cy ad e) sz)) (vx_X (fun (z : String × WT) => (¬ k < e 0 1 ∧ z = (eIO, (C, ad, G cy ad e))) ∨ (k < e 0 1 ∧ ¬ (e (PB k) 0 ≤ d ∧ d ≤ 3600) ∧ z = (eIA, (C, ad, G cy ad e))) ∨ ((k < e 0 1 ∧ e (PB k) 0 ≤ d ∧ d ≤ 3600) ∧ ¬ (1 ≤ h ∧ h ≤ 10) ∧ z = (eIA, (C, ad, G cy ad e))) ∨ (((k < e 0 1 ∧ e (PB k) 0 ≤ d ∧ d ≤ 3600) ∧ 1 ≤ h ∧ h ≤ 10) ∧ ¬ fiN (e (PB k + 1)) d (e (PB k) 5) < 10 ∧ z = (eIS, (C, ad, G cy ad e)))) (XB D cy (AW (C, ad, G cy ad e) sz)) (AW (C, ad, G cy ad e) sz)) 4 24 (AW (C, ad, G cy ad e) sz) := by
  refine mxx_start (cc := cX3_setHours) (maxL := 6) (ret := (some .int)) (by decide) rfl (Nat.le_of_ble_eq_true rfl) ?_
  intro p9 e9 s m args below meth c hsz hr hnm M w Th hxt ls hl
  have hx := M.1.1
  have hb := M.1.2.1
  have inX1 : ∀ w ∈ wsX10, w ∈ wsX3_setHours := by decide +kernel
  have f58 : Cond.fieldLink RX3 58 RX1 "firstDay" "I" ∈ wsX3_setHours := by decide +kernel
  have hB := hCC.B
  have hl : lv_has ls 6 [(0, .ref (ad 0)), (1, .int (nI k)), (2, .int (nI d)), (3, .int (nI h))] := hl
  refine lv_aload_n hx hb dX3_setHours_0 rfl (lv_at hl 0 rfl) ?_
  refine lv_iload_n hx hb dX3_setHours_1 rfl (lv_at hl 1 rfl) ?_
  refine mxx_Vr M w Th hxt (kX3_personAt l hfl D cy C ad e s.heap.size k hB hW hk) (cwV 1 M.1.2.2.2.2 gX3_setHours_X3_personAt rfl rfl rfl (by decide +kernel) ⟨Nat.le_of_ble_eq_true rfl, Nat.le_of_ble_eq_true rfl⟩) (mo_rec M w (hB 0 (by decide)) (g := G cy ad e) (sh_0 cy ad (e 0)) rfl) rfl hl.1 rfl (Nat.le_of_ble_eq_true rfl) dX3_setHours_2 ⟨by decide, by decide⟩ ⟨by decide, by decide⟩ (fun E u1 h => Or.inl h) (fun r2 u1 H locs hp1 ha1 w => ?_)
  obtain ⟨q2, rfl⟩ := hp1
  subst ha1
  have hp : k < 8 := by have z := hW.np; omega
  have hC := hCC.P q2
  have hpp := hW.p q2
  refine lv_astore (lv' := [(4, .ref (ad (PB k))), (0, .ref (ad 0)), (1, .int (nI k)), (2, .int (nI d)), (3, .int (nI h))]) hx hb dX3_setHours_5 hl (by decide) rfl (fun ls hl => ?_)
  refine lv_aload hx hb dX3_setHours_7 (lv_at hl 0 rfl) ?_
  refine ex_get M w (show (PB k) ∈ C from hC 0 (by decide)) (sh_P0 cy ad (e (PB k)) hp) rfl inX1 0 (by decide) f58 rfl dX3_setHours_9 ?_
  refine lv_iload_n hx hb dX3_setHours_12 rfl (lv_at hl 3 rfl) ?_
  refine mxx_Sv M w Th hxt (kX3_checkDay l hfl D cy C ad e H.size (e (PB k) 0) d hpp.a0.1 hd) (va_cwS 2 M.1.2.2.2.2 gX3_setHours_X3_checkDay rfl rfl rfl (by decide +kernel) ⟨Nat.le_of_ble_eq_true rfl, Nat.le_of_ble_eq_true rfl⟩) rfl hl.1 rfl (Nat.le_of_ble_eq_true rfl) dX3_setHours_13 ⟨by decide, by decide⟩ ⟨by decide, by decide⟩ (fun E u1 h => Or.inr (Or.inl ⟨q2, h⟩)) (fun u1 H locs hp1 w => ?_)
  obtain ⟨c13, rfl⟩ := hp1
  refine lv_iload_n hx hb dX3_setHours_16 rfl (lv_at hl 4 rfl) ?_
  refine mxx_Sv M w Th hxt (kX3_checkHours l hfl D cy C ad e H.size h hh) (va_cwS 1 M.1.2.2.2.2 gX3_setHours_X3_checkHours rfl rfl rfl (by decide +kernel) ⟨Nat.le_of_ble_eq_true rfl, Nat.le_of_ble_eq_true rfl⟩) rfl hl.1 rfl (Nat.le_of_ble_eq_true rfl) dX3_setHours_17 ⟨by decide, by decide⟩ ⟨by decide, by decide⟩ (fun E u1 h => Or.inr (Or.inr (Or.inl ⟨⟨q2, c13⟩, h⟩))) (fun u1 H locs hp1 w => ?_)
  obtain ⟨c17, rfl⟩ := hp1
  refine lv_aload hx hb dX3_setHours_20 (lv_at hl 0 rfl) ?_
  refine lv_iload_n hx hb dX3_setHours_22 rfl (lv_at hl 3 rfl) ?_
  refine mx_Vi M w (kX1_hoursOn l D cy C ad e H.size k d hp hC hpp.ch c13.2) (cwV 1 M.1.2.2.2.2 gX3_setHours_X1_hoursOn rfl rfl rfl (by decide +kernel) ⟨Nat.le_of_ble_eq_true rfl, Nat.le_of_ble_eq_true rfl⟩) (mo_rec M w (show (PB k) ∈ C from hC 0 (by decide)) (g := G cy ad e) (sh_P0 cy ad (e (PB k)) hp) rfl) rfl hl.1 rfl (Nat.le_of_ble_eq_true rfl) dX3_setHours_23 ⟨by decide, by decide⟩ (fun r23 u1 H locs hp1 w => ?_)
  obtain ⟨rfl, rfl⟩ := hp1
  refine lv_istore (lv' := [(5, .int (nI (hrC e k d))), (4, .ref (ad (PB k))), (0, .ref (ad 0)), (1, .int (nI k)), (2, .int (nI d)), (3, .int (nI h))]) hx hb dX3_setHours_26 hl (by decide) rfl (fun ls hl => ?_)
  refine lv_aload hx hb dX3_setHours_28 (lv_at hl 1 rfl) ?_
  refine lv_iload_n hx hb dX3_setHours_30 rfl (lv_at hl 4 rfl) ?_
  refine lv_iload_n hx hb dX3_setHours_31 rfl (lv_at hl 5 rfl) ?_
  refine mx_Vi M w (kX1_enterHours l D cy C ad e H.size k d h hp hC hpp.ch (by omega)) (cwV 2 M.1.2.2.2.2 gX3_setHours_X1_enterHours rfl rfl rfl (by decide +kernel) ⟨Nat.le_of_ble_eq_true rfl, Nat.le_of_ble_eq_true rfl⟩) (mo_rec M w (show (PB k) ∈ C from hC 0 (by decide)) (g := G cy ad e) (sh_P0 cy ad (e (PB k)) hp) rfl) rfl hl.1 rfl (Nat.le_of_ble_eq_true rfl) dX3_setHours_32 ⟨by decide, by decide⟩ (fun r32 u1 H locs hp1 w => ?_)
  obtain ⟨rfl, rfl⟩ := hp1
  refine mi_if_ne hx hb (by split <;> decide) 48 dX3_setHours_35 (by decide) (fun h35 => ?_) (fun h35 => ?_)
  · have q5 : fiN (e (PB k + 1)) d (e (PB k) 5) < 10 := Decidable.byContradiction (fun z => h35 (if_neg z))
    rw [if_pos q5] at w
    refine lv_iload hx hb dX3_setHours_48 (lv_at hl 0 rfl) ?_
    refine vx_ret ?_
    exact mx_iret M w hr (v := (nI (hrC e k d))) ⟨⟨⟨q2, c13⟩, c17, q5⟩, rfl, rfl⟩ (by decide) (by decide) dX3_setHours_50
  · have q5 : ¬ fiN (e (PB k + 1)) d (e (PB k) 5) < 10 := fun z => absurd ((if_pos z).symm.trans h35) (by decide)
    rw [if_neg q5] at w
    exact mx_throw M w Th hfl hxt (cls := eIS) (text := "10 changes for other days are entered") (is := 73) (by decide +kernel) (show Cond.classLink RX3 43 eIS ∈ wsX3_setHours by decide +kernel) (show Cond.initialized eIS ∈ wsX3_setHours by decide +kernel) (by decide +kernel) rfl (show ∀ w ∈ (vx_atS RX3 47 eIS eUP).filter goodWord, w ∈ wsX3_setHours by decide +kernel) (by decide +kernel) (by decide +kernel) hl.1 dX3_setHours_38 dX3_setHours_41 dX3_setHours_42 dX3_setHours_44 dX3_setHours_47 (by decide) (Nat.le_of_ble_eq_true rfl) (by decide) (by decide) (Or.inr (Or.inr (Or.inr ⟨⟨⟨q2, c13⟩, c17⟩, q5, rfl⟩))) (by decide) (by decide)

set_option maxHeartbeats 4000000 in
set_option maxRecDepth 100000 in
/-- Leavebank.sick(person, first, last) -/
theorem kX3_sick (l : Launch) (hfl : l.stackTraces = false) (D : va_G) (cy : Nat → ClassId) (C : List Nat) (ad : Nat → Nat) (e : Nat → Nat → Nat) (sz : Nat) (k f t : Nat) (hCC : CC (e 0 1) (e 0 3) C) (hW : CW e) (hk : k < 4294967296) (hf : f < 4294967296) (ht : t < 4294967296) : vx_Met l yX3_sick wsX3_sick ({ frames := 7, cells := 3, slots := 18, locals := 104 } : Room) (PreX D cy (C, ad, G cy ad e) sz [.ref (ad 0), .int (nI k), .int (nI f), .int (nI t)]) (va_Qi (fun (r : Int32) (u : WT) => ((k < e 0 1 ∧ e (PB k) 0 ≤ f ∧ f ≤ t ∧ t ≤ 3600) ∧ e 0 4 < 30) ∧ r = nI (e 0 4 + 1) ∧ u = (C, ad, G cy ad (es (esC e k f t) 0 4 (e 0 4 + 1)))) (WB D cy (AW (C, ad, G cy ad e) sz)) (AW (C, ad, G cy ad e) sz)) (vx_X (fun (z : String × WT) => (¬ k < e 0 1 ∧ z = (eIO, (C, ad, G cy ad e))) ∨ (k < e 0 1 ∧ ¬ (e (PB k) 0 ≤ f ∧ f ≤ t ∧ t ≤ 3600) ∧ z = (eIA, (C, ad, G cy ad e))) ∨ ((k < e 0 1 ∧ e (PB k) 0 ≤ f ∧ f ≤ t ∧ t ≤ 3600) ∧ ¬ e 0 4 < 30 ∧ z = (eIS, (C, ad, G cy ad e)))) (XB D cy (AW (C, ad, G cy ad e) sz)) (AW (C, ad, G cy ad e) sz)) 3 18 (AW (C, ad, G cy ad e) sz) := by
  refine mxx_start (cc := cX3_sick) (maxL := 5) (ret := (some .int)) (by decide) rfl (Nat.le_of_ble_eq_true rfl) ?_
  intro p9 e9 s m args below meth c hsz hr hnm M w Th hxt ls hl
  have hx := M.1.1
  have hb := M.1.2.1
  have inX1 : ∀ w ∈ wsX10, w ∈ wsX3_sick := by decide +kernel
  have inX3 : ∀ w ∈ wsX30, w ∈ wsX3_sick := by decide +kernel
  have f58 : Cond.fieldLink RX3 58 RX1 "firstDay" "I" ∈ wsX3_sick := by decide +kernel
  have f111 : Cond.fieldLink RX3 111 RX3 "spellCount" "I" ∈ wsX3_sick := by decide +kernel
  have hB := hCC.B
  have hRC := hCC.R
  have hl : lv_has ls 5 [(0, .ref (ad 0)), (1, .int (nI k)), (2, .int (nI f)), (3, .int (nI t))] := hl
  refine lv_aload_n hx hb dX3_sick_0 rfl (lv_at hl 0 rfl) ?_
  refine lv_iload_n hx hb dX3_sick_1 rfl (lv_at hl 1 rfl) ?_
  refine mxx_Vr M w Th hxt (kX3_personAt l hfl D cy C ad e s.heap.size k hB hW hk) (cwV 1 M.1.2.2.2.2 gX3_sick_X3_personAt rfl rfl rfl (by decide +kernel) ⟨Nat.le_of_ble_eq_true rfl, Nat.le_of_ble_eq_true rfl⟩) (mo_rec M w (hB 0 (by decide)) (g := G cy ad e) (sh_0 cy ad (e 0)) rfl) rfl hl.1 rfl (Nat.le_of_ble_eq_true rfl) dX3_sick_2 ⟨by decide, by decide⟩ ⟨by decide, by decide⟩ (fun E u1 h => Or.inl h) (fun r2 u1 H locs hp1 ha1 w => ?_)
  obtain ⟨q2, rfl⟩ := hp1
  subst ha1
  have hp : k < 8 := by have z := hW.np; omega
  have hC := hCC.P q2
  have hpp := hW.p q2
  refine lv_astore (lv' := [(4, .ref (ad (PB k))), (0, .ref (ad 0)), (1, .int (nI k)), (2, .int (nI f)), (3, .int (nI t))]) hx hb dX3_sick_5 hl (by decide) rfl (fun ls hl => ?_)
  refine lv_aload hx hb dX3_sick_7 (lv_at hl 0 rfl) ?_
  refine ex_get M w (show (PB k) ∈ C from hC 0 (by decide)) (sh_P0 cy ad (e (PB k)) hp) rfl inX1 0 (by decide) f58 rfl dX3_sick_9 ?_
  refine lv_iload_n hx hb dX3_sick_12 rfl (lv_at hl 3 rfl) ?_
  refine lv_iload_n hx hb dX3_sick_13 rfl (lv_at hl 4 rfl) ?_
  refine mxx_Sv M w Th hxt (kX3_checkDays l hfl D cy C ad e H.size (e (PB k) 0) f t hpp.a0.1 hf ht) (va_cwS 3 M.1.2.2.2.2 gX3_sick_X3_checkDays rfl rfl rfl (by decide +kernel) ⟨Nat.le_of_ble_eq_true rfl, Nat.le_of_ble_eq_true rfl⟩) rfl hl.1 rfl (Nat.le_of_ble_eq_true rfl) dX3_sick_14 ⟨by decide, by decide⟩ ⟨by decide, by decide⟩ (fun E u1 h => Or.inr (Or.inl ⟨q2, h⟩)) (fun u1 H locs hp1 w => ?_)
  obtain ⟨c14, rfl⟩ := hp1
  have q6 := hW.ns
  refine lv_aload_n hx hb dX3_sick_17 rfl (lv_at hl 1 rfl) ?_
  refine ex_get M w (hB 0 (by decide)) (sh_0 cy ad (e 0)) rfl inX3 4 (by decide) f111 rfl dX3_sick_18 ?_
  refine lv_bipush (v := nI 30) hx hb dX3_sick_21 (by decide) ?_
  refine mi_lt hx hb (by omega) (by decide) 36 dX3_sick_23 (by decide) (fun h23 => ?_) (fun h23 => ?_)
  · refine lv_aload hx hb dX3_sick_36 (lv_at hl 0 rfl) ?_
    refine lv_iload_n hx hb dX3_sick_38 rfl (lv_at hl 3 rfl) ?_
    refine lv_iload_n hx hb dX3_sick_39 rfl (lv_at hl 4 rfl) ?_
    refine mx_Vv M w (kX1_enterSpell l D cy C ad e H.size k f t _ hp hC hpp.sp hpp.rq hRC hW.rw' (by have z := hpp.2.2.2.2.2.2.2.1; omega) c14.2.1 c14.2.2) (cwV 2 M.1.2.2.2.2 gX3_sick_X1_enterSpell rfl rfl rfl (by decide +kernel) ⟨Nat.le_of_ble_eq_true rfl, Nat.le_of_ble_eq_true rfl⟩) (mo_rec M w (show (PB k) ∈ C from hC 0 (by decide)) (g := G cy ad e) (sh_P0 cy ad (e (PB k)) hp) rfl) rfl hl.1 rfl (Nat.le_of_ble_eq_true rfl) dX3_sick_40 ⟨by decide, by decide⟩ (fun u1 H locs hp1 w => ?_)
    obtain rfl := hp1
    refine lv_aload_n hx hb dX3_sick_43 rfl (lv_at hl 1 rfl) ?_
    refine lv_dup hx hb dX3_sick_44 rfl ?_
    refine ex_get M w (hB 0 (by decide)) (sh_0 cy ad ((esC e k f t) 0)) rfl inX3 4 (by decide) f111 (congrArg (fun z => some (Value.int (nI z))) (congrFun (esC_lo e k f t (by decide)) 4)) dX3_sick_45 ?_
    refine lv_iconst (v := nI 1) hx hb dX3_sick_48 (by decide) ?_
    refine mi_add hx hb dX3_sick_49 ?_
    refine ex_put M w (hB 0 (by decide)) (sh_0 cy ad ((esC e k f t) 0)) rfl inX3 tyX3 tyX3_ok nmX3 4 (by decide) f111 rfl (v := ((e 0 4) + 1)) rfl rfl (Nat.le_of_ble_eq_true rfl) (sh_0 cy ad _) dX3_sick_50 (fun H locs w => ?_)
    refine lv_aload_n hx hb dX3_sick_53 rfl (lv_at hl 1 rfl) ?_
    refine ex_get M w (hB 0 (by decide)) (sh_0 cy ad ((es (esC e k f t) 0 4 ((e 0 4) + 1)) 0)) rfl inX3 4 (by decide) f111 (congrArg (fun z => some (Value.int (nI z))) (es_same _ _ _ _)) dX3_sick_54 ?_
    refine vx_ret ?_
    exact mx_iret M w hr (v := (nI ((e 0 4) + 1))) ⟨⟨⟨q2, c14⟩, h23⟩, rfl, rfl⟩ (by decide) (by decide) dX3_sick_57
  · exact mx_throw M w Th hfl hxt (cls := eIS) (text := "there are 30 spells") (is := 114) (by decide +kernel) (show Cond.classLink RX3 43 eIS ∈ wsX3_sick by decide +kernel) (show Cond.initialized eIS ∈ wsX3_sick by decide +kernel) (by decide +kernel) rfl (show ∀ w ∈ (vx_atS RX3 47 eIS eUP).filter goodWord, w ∈ wsX3_sick by decide +kernel) (by decide +kernel) (by decide +kernel) hl.1 dX3_sick_26 dX3_sick_29 dX3_sick_30 dX3_sick_32 dX3_sick_35 (by decide) (Nat.le_of_ble_eq_true rfl) (by decide) (by decide) (Or.inr (Or.inr ⟨⟨q2, c14⟩, by omega, rfl⟩)) (by decide) (by decide)

set_option maxHeartbeats 4000000 in
set_option maxRecDepth 100000 in
/-- Leavebank.payOut(person, points) -/
theorem kX3_payOut (l : Launch) (hfl : l.stackTraces = false) (D : va_G) (cy : Nat → ClassId) (C : List Nat) (ad : Nat → Nat) (e : Nat → Nat → Nat) (sz : Nat) (k h : Nat) (hCC : CC (e 0 1) (e 0 3) C) (hW : CW e) (hk : k < 4294967296) (hh : h < 4294967296) : vx_Met l yX3_payOut wsX3_payOut ({ frames := 7, cells := 4, slots := 24, locals := 104 } : Room) (PreX D cy (C, ad, G cy ad e) sz [.ref (ad 0), .int (nI k), .int (nI h)]) (va_Qi (fun (r : Int32) (u : WT) => ((k < e 0 1 ∧ 1 ≤ h ∧ h ≤ 20000) ∧ e 0 5 < 20 ∧ h ≤ totC (goC e k (e 0 6 + 1 - e (PB k) 0))) ∧ r = nI (e 0 5) ∧ u = (C, ad, G cy ad (es (epC (goC e k (e 0 6 + 1 - e (PB k) 0)) k (e 0 6) h) 0 5 (e 0 5 + 1)))) (WB D cy (AW (C, ad, G cy ad e) sz)) (AW (C, ad, G cy ad e) sz)) (vx_X (fun (z : String × WT) => (¬ k < e 0 1 ∧ z = (eIO, (C, ad, G cy ad e))) ∨ (k < e 0 1 ∧ ¬ (1 ≤ h ∧ h ≤ 20000) ∧ z = (eIA, (C, ad, G cy ad e))) ∨ ((k < e 0 1 ∧ 1 ≤ h ∧ h ≤ 20000) ∧ ¬ e 0 5 < 20 ∧ z = (eIS, (C, ad, G cy ad e))) ∨ (((k < e 0 1 ∧ 1 ≤ h ∧ h ≤ 20000) ∧ e 0 5 < 20) ∧ totC (goC e k (e 0 6 + 1 - e (PB k) 0)) < h ∧ z = (eIS, C, ad, G cy ad (goC e k (e 0 6 + 1 - e (PB k) 0))))) (XB D cy (AW (C, ad, G cy ad e) sz)) (AW (C, ad, G cy ad e) sz)) 4 24 (AW (C, ad, G cy ad e) sz) := by
  refine mxx_start (cc := cX3_payOut) (maxL := 5) (ret := (some .int)) (by decide) rfl (Nat.le_of_ble_eq_true rfl) ?_
  intro p9 e9 s m args below meth c hsz hr hnm M w Th hxt ls hl
  have hx := M.1.1
  have hb := M.1.2.1
  have inX3 : ∀ w ∈ wsX30, w ∈ wsX3_payOut := by decide +kernel
  have f24 : Cond.fieldLink RX3 24 RX3 "ledger" "LLeavebank$Ledger;" ∈ wsX3_payOut := by decide +kernel
  have f48 : Cond.fieldLink RX3 48 RX3 "currentDay" "I" ∈ wsX3_payOut := by decide +kernel
  have f121 : Cond.fieldLink RX3 121 RX3 "payoutCount" "I" ∈ wsX3_payOut := by decide +kernel
  have hB := hCC.B
  have hl : lv_has ls 5 [(0, .ref (ad 0)), (1, .int (nI k)), (2, .int (nI h))] := hl
  refine lv_aload_n hx hb dX3_payOut_0 rfl (lv_at hl 0 rfl) ?_
  refine lv_iload_n hx hb dX3_payOut_1 rfl (lv_at hl 1 rfl) ?_
  refine mxx_Vr M w Th hxt (kX3_personAt l hfl D cy C ad e s.heap.size k hB hW hk) (cwV 1 M.1.2.2.2.2 gX3_payOut_X3_personAt rfl rfl rfl (by decide +kernel) ⟨Nat.le_of_ble_eq_true rfl, Nat.le_of_ble_eq_true rfl⟩) (mo_rec M w (hB 0 (by decide)) (g := G cy ad e) (sh_0 cy ad (e 0)) rfl) rfl hl.1 rfl (Nat.le_of_ble_eq_true rfl) dX3_payOut_2 ⟨by decide, by decide⟩ ⟨by decide, by decide⟩ (fun E u1 h => Or.inl h) (fun r2 u1 H locs hp1 ha1 w => ?_)
  obtain ⟨q2, rfl⟩ := hp1
  subst ha1
  have hp : k < 8 := by have z := hW.np; omega
  have hC := hCC.P q2
  have hpp := hW.p q2
  have hgw := GW_go hpp.a0 hpp.ch hpp.py hpp.lv (e 0 6 + 1 - e (PB k) 0) (by have z := hpp.a0.1; have z2 := hW.td; omega)
  refine lv_astore_n (lv' := [(3, .ref (ad (PB k))), (0, .ref (ad 0)), (1, .int (nI k)), (2, .int (nI h))]) hx hb dX3_payOut_5 rfl hl (by decide) rfl (fun ls hl => ?_)
  refine lv_iload_n hx hb dX3_payOut_6 rfl (lv_at hl 3 rfl) ?_
  refine lv_iconst (v := nI 1) hx hb dX3_payOut_7 (by decide) ?_
  refine mw_lt hx hb hh (by decide) 18 dX3_payOut_8 (by decide) (fun h8 => ?_) (fun h8 => ?_)
  · exact mx_throw M w Th hfl hxt (cls := eIA) (text := "points are out of range") (is := 119) (by decide +kernel) (show Cond.classLink RX3 28 eIA ∈ wsX3_payOut by decide +kernel) (show Cond.initialized eIA ∈ wsX3_payOut by decide +kernel) (by decide +kernel) rfl (show ∀ w ∈ (vx_atS RX3 32 eIA eUP).filter goodWord, w ∈ wsX3_payOut by decide +kernel) (by decide +kernel) (by decide +kernel) hl.1 dX3_payOut_18 dX3_payOut_21 dX3_payOut_22 dX3_payOut_24 dX3_payOut_27 (by decide) (Nat.le_of_ble_eq_true rfl) (by decide) (by decide) (Or.inr (Or.inl ⟨q2, by omega, rfl⟩)) (by decide) (by decide)
  · refine lv_iload_n hx hb dX3_payOut_11 rfl (lv_at hl 3 rfl) ?_
    refine lv_sipush (v := nI 20000) hx hb dX3_payOut_12 (by decide) ?_
    refine mw_le hx hb hh (by decide) 28 dX3_payOut_15 (by decide) (fun h15 => ?_) (fun h15 => ?_)
    · have q6 := hW.ny
      refine lv_aload_n hx hb dX3_payOut_28 rfl (lv_at hl 1 rfl) ?_
      refine ex_get M w (hB 0 (by decide)) (sh_0 cy ad (e 0)) rfl inX3 5 (by decide) f121 rfl dX3_payOut_29 ?_
      refine lv_bipush (v := nI 20) hx hb dX3_payOut_32 (by decide) ?_
      refine mi_lt hx hb (by omega) (by decide) 47 dX3_payOut_34 (by decide) (fun h34 => ?_) (fun h34 => ?_)
      · refine lv_aload_n hx hb dX3_payOut_47 rfl (lv_at hl 1 rfl) ?_
        refine ex_get M w (hB 0 (by decide)) (sh_0 cy ad (e 0)) rfl inX3 7 (by decide) f24 rfl dX3_payOut_48 ?_
        refine lv_aload_n hx hb dX3_payOut_51 rfl (lv_at hl 0 rfl) ?_
        refine lv_aload_n hx hb dX3_payOut_52 rfl (lv_at hl 1 rfl) ?_
        refine ex_get M w (hB 0 (by decide)) (sh_0 cy ad (e 0)) rfl inX3 6 (by decide) f48 rfl dX3_payOut_53 ?_
        refine mx_Vv M w (kX0_goThrough l D cy C ad e H.size k (e 0 6) hp hC hB hpp.a0 hpp.ch hpp.py hpp.lv hW.td) (cwV 2 M.1.2.2.2.2 gX3_payOut_X0_goThrough rfl rfl rfl (by decide +kernel) ⟨Nat.le_of_ble_eq_true rfl, Nat.le_of_ble_eq_true rfl⟩) (mo_rec M w (hB 3 (by decide)) (g := G cy ad e) (sh_3 cy ad (e 3)) rfl) rfl hl.1 rfl (Nat.le_of_ble_eq_true rfl) dX3_payOut_56 ⟨by decide, by decide⟩ (fun u1 H locs hp1 w => ?_)
        obtain rfl := hp1
        refine lv_aload_n hx hb dX3_payOut_59 rfl (lv_at hl 1 rfl) ?_
        refine ex_get M w (hB 0 (by decide)) (sh_0 cy ad ((goC e k (e 0 6 + 1 - e (PB k) 0)) 0)) rfl inX3 7 (by decide) f24 rfl dX3_payOut_60 ?_
        refine mx_Vi M w (kX0_pointsInLots l D cy C ad (goC e k (e 0 6 + 1 - e (PB k) 0)) H.size hB hgw.1) (cwV 0 M.1.2.2.2.2 gX3_payOut_X0_pointsInLots rfl rfl rfl (by decide +kernel) ⟨Nat.le_of_ble_eq_true rfl, Nat.le_of_ble_eq_true rfl⟩) (mo_rec M w (hB 3 (by decide)) (g := G cy ad (goC e k (e 0 6 + 1 - e (PB k) 0))) (sh_3 cy ad ((goC e k (e 0 6 + 1 - e (PB k) 0)) 3)) rfl) rfl hl.1 rfl (Nat.le_of_ble_eq_true rfl) dX3_payOut_63 ⟨by decide, by decide⟩ (fun r63 u1 H locs hp1 w => ?_)
        obtain ⟨rfl, rfl⟩ := hp1
        have q7 := totC_le hgw.1
        refine lv_iload_n hx hb dX3_payOut_66 rfl (lv_at hl 3 rfl) ?_
        refine mi_ge hx hb (by omega) (by omega) 80 dX3_payOut_67 (by decide) (fun h67 => ?_) (fun h67 => ?_)
        · refine lv_aload_n hx hb dX3_payOut_80 rfl (lv_at hl 0 rfl) ?_
          refine lv_aload_n hx hb dX3_payOut_81 rfl (lv_at hl 1 rfl) ?_
          refine ex_get M w (hB 0 (by decide)) (sh_0 cy ad ((goC e k (e 0 6 + 1 - e (PB k) 0)) 0)) rfl inX3 6 (by decide) f48 (congrArg (fun z => some (Value.int (nI z))) (congrFun (Off_go e k (e 0 6 + 1 - e (PB k) 0) 0 (by decide) (by decide) (by decide)) 6)) dX3_payOut_82 ?_
          refine lv_iload_n hx hb dX3_payOut_85 rfl (lv_at hl 3 rfl) ?_
          refine mx_Vv M w (kX1_enterPayout l D cy C ad (goC e k (e 0 6 + 1 - e (PB k) 0)) H.size k (e 0 6) h hp hC (by rw [goC_P0]; have z := hpp.2.2.2.2.2.2.2.2; omega)) (cwV 2 M.1.2.2.2.2 gX3_payOut_X1_enterPayout rfl rfl rfl (by decide +kernel) ⟨Nat.le_of_ble_eq_true rfl, Nat.le_of_ble_eq_true rfl⟩) (mo_rec M w (show (PB k) ∈ C from hC 0 (by decide)) (g := G cy ad (goC e k (e 0 6 + 1 - e (PB k) 0))) (sh_P0 cy ad ((goC e k (e 0 6 + 1 - e (PB k) 0)) (PB k)) hp) rfl) rfl hl.1 rfl (Nat.le_of_ble_eq_true rfl) dX3_payOut_86 ⟨by decide, by decide⟩ (fun u1 H locs hp1 w => ?_)
          obtain rfl := hp1
          refine lv_aload_n hx hb dX3_payOut_89 rfl (lv_at hl 1 rfl) ?_
          refine ex_get M w (hB 0 (by decide)) (sh_0 cy ad ((epC (goC e k (e 0 6 + 1 - e (PB k) 0)) k (e 0 6) h) 0)) rfl inX3 5 (by decide) f121 (congrArg (fun z => some (Value.int (nI z))) (congrFun ((epC_lo _ k _ _ (by decide)).trans (Off_go e k (e 0 6 + 1 - e (PB k) 0) 0 (by decide) (by decide) (by decide))) 5)) dX3_payOut_90 ?_
          refine lv_istore (lv' := [(4, .int (nI (e 0 5))), (3, .ref (ad (PB k))), (0, .ref (ad 0)), (1, .int (nI k)), (2, .int (nI h))]) hx hb dX3_payOut_93 hl (by decide) rfl (fun ls hl => ?_)
          refine lv_aload_n hx hb dX3_payOut_95 rfl (lv_at hl 2 rfl) ?_
          refine lv_iload hx hb dX3_payOut_96 (lv_at hl 0 rfl) ?_
          refine lv_iconst (v := nI 1) hx hb dX3_payOut_98 (by decide) ?_
          refine mi_add hx hb dX3_payOut_99 ?_
          refine ex_put M w (hB 0 (by decide)) (sh_0 cy ad ((epC (goC e k (e 0 6 + 1 - e (PB k) 0)) k (e 0 6) h) 0)) rfl inX3 tyX3 tyX3_ok nmX3 5 (by decide) f121 rfl (v := ((e 0 5) + 1)) rfl rfl (Nat.le_of_ble_eq_true rfl) (sh_0 cy ad _) dX3_payOut_100 (fun H locs w => ?_)
          refine lv_iload hx hb dX3_payOut_103 (lv_at hl 0 rfl) ?_
          refine vx_ret ?_
          exact mx_iret M w hr (v := (nI (e 0 5))) ⟨⟨⟨q2, by omega⟩, by omega, by omega⟩, rfl, rfl⟩ (by decide) (by decide) dX3_payOut_105
        · exact mx_throw M w Th hfl hxt (cls := eIS) (text := "the lots have less than that") (is := 134) (by decide +kernel) (show Cond.classLink RX3 43 eIS ∈ wsX3_payOut by decide +kernel) (show Cond.initialized eIS ∈ wsX3_payOut by decide +kernel) (by decide +kernel) rfl (show ∀ w ∈ (vx_atS RX3 47 eIS eUP).filter goodWord, w ∈ wsX3_payOut by decide +kernel) (by decide +kernel) (by decide +kernel) hl.1 dX3_payOut_70 dX3_payOut_73 dX3_payOut_74 dX3_payOut_76 dX3_payOut_79 (by decide) (Nat.le_of_ble_eq_true rfl) (by decide) (by decide) (Or.inr (Or.inr (Or.inr ⟨⟨⟨q2, by omega⟩, by omega⟩, by omega, rfl⟩))) (by decide) (by decide)
      · exact mx_throw M w Th hfl hxt (cls := eIS) (text := "there are 20 payouts") (is := 124) (by decide +kernel) (show Cond.classLink RX3 43 eIS ∈ wsX3_payOut by decide +kernel) (show Cond.initialized eIS ∈ wsX3_payOut by decide +kernel) (by decide +kernel) rfl (show ∀ w ∈ (vx_atS RX3 47 eIS eUP).filter goodWord, w ∈ wsX3_payOut by decide +kernel) (by decide +kernel) (by decide +kernel) hl.1 dX3_payOut_37 dX3_payOut_40 dX3_payOut_41 dX3_payOut_43 dX3_payOut_46 (by decide) (Nat.le_of_ble_eq_true rfl) (by decide) (by decide) (Or.inr (Or.inr (Or.inl ⟨⟨q2, by omega⟩, by omega, rfl⟩))) (by decide) (by decide)
    · exact mx_throw M w Th hfl hxt (cls := eIA) (text := "points are out of range") (is := 119) (by decide +kernel) (show Cond.classLink RX3 28 eIA ∈ wsX3_payOut by decide +kernel) (show Cond.initialized eIA ∈ wsX3_payOut by decide +kernel) (by decide +kernel) rfl (show ∀ w ∈ (vx_atS RX3 32 eIA eUP).filter goodWord, w ∈ wsX3_payOut by decide +kernel) (by decide +kernel) (by decide +kernel) hl.1 dX3_payOut_18 dX3_payOut_21 dX3_payOut_22 dX3_payOut_24 dX3_payOut_27 (by decide) (Nat.le_of_ble_eq_true rfl) (by decide) (by decide) (Or.inr (Or.inl ⟨q2, by omega, rfl⟩)) (by decide) (by decide)

set_option maxHeartbeats 4000000 in
set_option maxRecDepth 100000 in
/-- Leavebank.change(request, first, last) -/
theorem kX3_change (l : Launch) (hfl : l.stackTraces = false) (D : va_G) (cy : Nat → ClassId) (C : List Nat) (ad : Nat → Nat) (e : Nat → Nat → Nat) (sz : Nat) (k f t : Nat) (hCC : CC (e 0 1) (e 0 3) C) (hW : CW e) (hk : k < 4294967296) (hf : f < 4294967296) (ht : t < 4294967296) : vx_Met l yX3_change wsX3_change ({ frames := 7, cells := 3, slots := 18, locals := 104 } : Room) (PreX D cy (C, ad, G cy ad e) sz [.ref (ad 0), .int (nI k), .int (nI f), .int (nI t)]) (va_Qi (fun (r : Int32) (u : WT) => ((k < e 0 3 ∧ e (PB (e (RB k) 0)) 0 ≤ f ∧ f ≤ t ∧ t ≤ 3600) ∧ e (RB k) 4 = 0) ∧ r = nI (e (RB k) 3 - e (RB k) 2 + 1) ∧ u = (C, ad, G cy ad (mkC (mkC (es (es e (RB k) 2 f) (RB k) 3 t) (e (RB k) 0) (e (RB k) 2) (e (RB k) 3 + 1)) (e (RB k) 0) f (t + 1)))) (WB D cy (AW (C, ad, G cy ad e) sz)) (AW (C, ad, G cy ad e) sz)) (vx_X (fun (z : String × WT) => (¬ k < e 0 3 ∧ z = (eIO, (C, ad, G cy ad e))) ∨ (k < e 0 3 ∧ ¬ (e (PB (e (RB k) 0)) 0 ≤ f ∧ f ≤ t ∧ t ≤ 3600) ∧ z = (eIA, (C, ad, G cy ad e))) ∨ ((k < e 0 3 ∧ e (PB (e (RB k) 0)) 0 ≤ f ∧ f ≤ t ∧ t ≤ 3600) ∧ ¬ e (RB k) 4 = 0 ∧ z = (eIS, (C, ad, G cy ad e)))) (XB D cy (AW (C, ad, G cy ad e) sz)) (AW (C, ad, G cy ad e) sz)) 3 18 (AW (C, ad, G cy ad e) sz) := by
  refine mxx_start (cc := cX3_change) (maxL := 7) (ret := (some .int)) (by decide) rfl (Nat.le_of_ble_eq_true rfl) ?_
  intro p9 e9 s m args below meth c hsz hr hnm M w Th hxt ls hl
  have hx := M.1.1
  have hb := M.1.2.1
  have inX1 : ∀ w ∈ wsX10, w ∈ wsX3_change := by decide +kernel
  have inX2 : ∀ w ∈ wsX20, w ∈ wsX3_change := by decide +kernel
  have f58 : Cond.fieldLink RX3 58 RX1 "firstDay" "I" ∈ wsX3_change := by decide +kernel
  have f94 : Cond.fieldLink RX3 94 RX2 "owner" "LLeavebank$Person;" ∈ wsX3_change := by decide +kernel
  have f98 : Cond.fieldLink RX3 98 RX2 "isCancelled" "Z" ∈ wsX3_change := by decide +kernel
  have f104 : Cond.fieldLink RX3 104 RX2 "firstDay" "I" ∈ wsX3_change := by decide +kernel
  have f105 : Cond.fieldLink RX3 105 RX2 "lastDay" "I" ∈ wsX3_change := by decide +kernel
  have hB := hCC.B
  have hRC := hCC.R
  have hl : lv_has ls 7 [(0, .ref (ad 0)), (1, .int (nI k)), (2, .int (nI f)), (3, .int (nI t))] := hl
  refine lv_aload_n hx hb dX3_change_0 rfl (lv_at hl 0 rfl) ?_
  refine lv_iload_n hx hb dX3_change_1 rfl (lv_at hl 1 rfl) ?_
  refine mxx_Vr M w Th hxt (kX3_requestAt l hfl D cy C ad e s.heap.size k hB hW hk) (cwV 1 M.1.2.2.2.2 gX3_change_X3_requestAt rfl rfl rfl (by decide +kernel) ⟨Nat.le_of_ble_eq_true rfl, Nat.le_of_ble_eq_true rfl⟩) (mo_rec M w (hB 0 (by decide)) (g := G cy ad e) (sh_0 cy ad (e 0)) rfl) rfl hl.1 rfl (Nat.le_of_ble_eq_true rfl) dX3_change_2 ⟨by decide, by decide⟩ ⟨by decide, by decide⟩ (fun E u1 h => Or.inl h) (fun r2 u1 H locs hp1 ha1 w => ?_)
  obtain ⟨q2, rfl⟩ := hp1
  subst ha1
  have q8 := hW.rq k q2
  have q9 := hW.rw' k q2
  have hp : e (RB k) 0 < 8 := by have z := hW.np; omega
  have hC := hCC.P q8.1
  have hpp := hW.p q8.1
  have hR : RB k ∈ C := hRC k q2
  refine lv_astore (lv' := [(4, .ref (ad (RB k))), (0, .ref (ad 0)), (1, .int (nI k)), (2, .int (nI f)), (3, .int (nI t))]) hx hb dX3_change_5 hl (by decide) rfl (fun ls hl => ?_)
  refine lv_aload hx hb dX3_change_7 (lv_at hl 0 rfl) ?_
  refine ex_get M w (hR) (sh_RB cy ad k (e (RB k))) rfl inX2 0 (by decide) f94 rfl dX3_change_9 ?_
  refine ex_get M w (show (PB (e (RB k) 0)) ∈ C from hC 0 (by decide)) (sh_P0 cy ad (e (PB (e (RB k) 0))) hp) rfl inX1 0 (by decide) f58 rfl dX3_change_12 ?_
  refine lv_iload_n hx hb dX3_change_15 rfl (lv_at hl 3 rfl) ?_
  refine lv_iload_n hx hb dX3_change_16 rfl (lv_at hl 4 rfl) ?_
  refine mxx_Sv M w Th hxt (kX3_checkDays l hfl D cy C ad e H.size (e (PB (e (RB k) 0)) 0) f t hpp.a0.1 hf ht) (va_cwS 3 M.1.2.2.2.2 gX3_change_X3_checkDays rfl rfl rfl (by decide +kernel) ⟨Nat.le_of_ble_eq_true rfl, Nat.le_of_ble_eq_true rfl⟩) rfl hl.1 rfl (Nat.le_of_ble_eq_true rfl) dX3_change_17 ⟨by decide, by decide⟩ ⟨by decide, by decide⟩ (fun E u1 h => Or.inr (Or.inl ⟨q2, h⟩)) (fun u1 H locs hp1 w => ?_)
  obtain ⟨c17, rfl⟩ := hp1
  refine lv_aload hx hb dX3_change_20 (lv_at hl 0 rfl) ?_
  refine ex_get M w (hR) (sh_RB cy ad k (e (RB k))) rfl inX2 4 (by decide) f98 rfl dX3_change_22 ?_
  refine mi_if_eq hx hb (by omega) 38 dX3_change_25 (by decide) (fun h25 => ?_) (fun h25 => ?_)
  · refine lv_aload hx hb dX3_change_38 (lv_at hl 0 rfl) ?_
    refine ex_get M w (hR) (sh_RB cy ad k (e (RB k))) rfl inX2 2 (by decide) f104 rfl dX3_change_40 ?_
    refine lv_istore (lv' := [(5, .int (nI (e (RB k) 2))), (4, .ref (ad (RB k))), (0, .ref (ad 0)), (1, .int (nI k)), (2, .int (nI f)), (3, .int (nI t))]) hx hb dX3_change_43 hl (by decide) rfl (fun ls hl => ?_)
    refine lv_aload hx hb dX3_change_45 (lv_at hl 1 rfl) ?_
    refine ex_get M w (hR) (sh_RB cy ad k (e (RB k))) rfl inX2 3 (by decide) f105 rfl dX3_change_47 ?_
    refine lv_istore (lv' := [(6, .int (nI (e (RB k) 3))), (5, .int (nI (e (RB k) 2))), (4, .ref (ad (RB k))), (0, .ref (ad 0)), (1, .int (nI k)), (2, .int (nI f)), (3, .int (nI t))]) hx hb dX3_change_50 hl (by decide) rfl (fun ls hl => ?_)
    refine lv_aload hx hb dX3_change_52 (lv_at hl 2 rfl) ?_
    refine lv_iload_n hx hb dX3_change_54 rfl (lv_at hl 5 rfl) ?_
    refine ex_put M w (hR) (sh_RB cy ad k (e (RB k))) rfl inX2 tyX2 tyX2_ok nmX2 2 (by decide) f104 rfl (v := f) rfl rfl (Nat.le_of_ble_eq_true rfl) (sh_RB cy ad k _) dX3_change_55 (fun H locs w => ?_)
    refine lv_aload hx hb dX3_change_58 (lv_at hl 2 rfl) ?_
    refine lv_iload_n hx hb dX3_change_60 rfl (lv_at hl 6 rfl) ?_
    refine ex_put M w (hR) (sh_RB cy ad k ((es e (RB k) 2 f) (RB k))) rfl inX2 tyX2 tyX2_ok nmX2 3 (by decide) f105 rfl (v := t) rfl rfl (Nat.le_of_ble_eq_true rfl) (sh_RB cy ad k _) dX3_change_61 (fun H locs w => ?_)
    refine lv_aload hx hb dX3_change_64 (lv_at hl 2 rfl) ?_
    refine ex_get M w (hR) (sh_RB cy ad k ((es (es e (RB k) 2 f) (RB k) 3 t) (RB k))) rfl inX2 0 (by decide) f94 (congrArg (fun z => some (Value.ref (ad (PB z)))) ((es_ne _ _ (by first | omega | (unfold PB; omega) | (unfold RB; omega) | (unfold PB RB; omega))).trans (es_ne _ _ (by first | omega | (unfold PB; omega) | (unfold RB; omega) | (unfold PB RB; omega))))) dX3_change_66 ?_
    refine lv_iload hx hb dX3_change_69 (lv_at hl 1 rfl) ?_
    refine lv_iload hx hb dX3_change_71 (lv_at hl 0 rfl) ?_
    refine mx_Vv M w (kX1_markLeave l D cy C ad (es (es e (RB k) 2 f) (RB k) 3 t) H.size (e (RB k) 0) (e (RB k) 2) (e (RB k) 3) _ hp hC (hpp.sp.eq ((esR_P hp k 2 f).tr (esR_P hp k 3 t))) (hpp.rq.eq ((esR_P hp k 2 f).tr (esR_P hp k 3 t))) hRC (RW_ft hW.rw' (by omega) (by omega)) q8.2.2 q9.2.2.1) (cwV 2 M.1.2.2.2.2 gX3_change_X1_markLeave rfl rfl rfl (by decide +kernel) ⟨Nat.le_of_ble_eq_true rfl, Nat.le_of_ble_eq_true rfl⟩) (mo_rec M w (show (PB (e (RB k) 0)) ∈ C from hC 0 (by decide)) (g := G cy ad (es (es e (RB k) 2 f) (RB k) 3 t)) (sh_P0 cy ad ((es (es e (RB k) 2 f) (RB k) 3 t) (PB (e (RB k) 0))) hp) rfl) rfl hl.1 rfl (Nat.le_of_ble_eq_true rfl) dX3_change_73 ⟨by decide, by decide⟩ (fun u1 H locs hp1 w => ?_)
    obtain rfl := hp1
    refine lv_aload hx hb dX3_change_76 (lv_at hl 2 rfl) ?_
    refine ex_get M w (hR) (sh_RB cy ad k ((mkC (es (es e (RB k) 2 f) (RB k) 3 t) (e (RB k) 0) (e (RB k) 2) ((e (RB k) 3) + 1)) (RB k))) rfl inX2 0 (by decide) f94 (congrArg (fun z => some (Value.ref (ad (PB z)))) ((congrFun (mkC_R _ hp _ _ k) 0).trans ((es_ne _ _ (by omega)).trans (es_ne _ _ (by omega))))) dX3_change_78 ?_
    refine lv_iload_n hx hb dX3_change_81 rfl (lv_at hl 5 rfl) ?_
    refine lv_iload_n hx hb dX3_change_82 rfl (lv_at hl 6 rfl) ?_
    refine mx_Vv M w (kX1_markLeave l D cy C ad (mkC (es (es e (RB k) 2 f) (RB k) 3 t) (e (RB k) 0) (e (RB k) 2) ((e (RB k) 3) + 1)) H.size (e (RB k) 0) f t _ hp hC ((hpp.sp.eq ((esR_P hp k 2 f).tr (esR_P hp k 3 t))).eq (mkC_P _ _ _ _)) ((hpp.rq.eq ((esR_P hp k 2 f).tr (esR_P hp k 3 t))).eq (mkC_P _ _ _ _)) hRC ((RW_ft hW.rw' (by omega) (by omega)).eq (mkC_R _ hp _ _)) c17.2.1 c17.2.2) (cwV 2 M.1.2.2.2.2 gX3_change_X1_markLeave rfl rfl rfl (by decide +kernel) ⟨Nat.le_of_ble_eq_true rfl, Nat.le_of_ble_eq_true rfl⟩) (mo_rec M w (show (PB (e (RB k) 0)) ∈ C from hC 0 (by decide)) (g := G cy ad (mkC (es (es e (RB k) 2 f) (RB k) 3 t) (e (RB k) 0) (e (RB k) 2) ((e (RB k) 3) + 1))) (sh_P0 cy ad ((mkC (es (es e (RB k) 2 f) (RB k) 3 t) (e (RB k) 0) (e (RB k) 2) ((e (RB k) 3) + 1)) (PB (e (RB k) 0))) hp) rfl) rfl hl.1 rfl (Nat.le_of_ble_eq_true rfl) dX3_change_83 ⟨by decide, by decide⟩ (fun u1 H locs hp1 w => ?_)
    obtain rfl := hp1
    refine lv_iload hx hb dX3_change_86 (lv_at hl 0 rfl) ?_
    refine lv_iload hx hb dX3_change_88 (lv_at hl 1 rfl) ?_
    refine mi_sub hx hb (by omega) dX3_change_90 ?_
    refine lv_iconst (v := nI 1) hx hb dX3_change_91 (by decide) ?_
    refine mi_add hx hb dX3_change_92 ?_
    refine vx_ret ?_
    exact mx_iret M w hr (v := (nI (((e (RB k) 3) - (e (RB k) 2)) + 1))) ⟨⟨⟨q2, c17⟩, h25⟩, rfl, rfl⟩ (by decide) (by decide) dX3_change_93
  · exact mx_throw M w Th hfl hxt (cls := eIS) (text := "the request is cancelled") (is := 102) (by decide +kernel) (show Cond.classLink RX3 43 eIS ∈ wsX3_change by decide +kernel) (show Cond.initialized eIS ∈ wsX3_change by decide +kernel) (by decide +kernel) rfl (show ∀ w ∈ (vx_atS RX3 47 eIS eUP).filter goodWord, w ∈ wsX3_change by decide +kernel) (by decide +kernel) (by decide +kernel) hl.1 dX3_change_28 dX3_change_31 dX3_change_32 dX3_change_34 dX3_change_37 (by decide) (Nat.le_of_ble_eq_true rfl) (by decide) (by decide) (Or.inr (Or.inr ⟨⟨q2, c17⟩, h25, rfl⟩)) (by decide) (by decide)

set_option maxHeartbeats 4000000 in
set_option maxRecDepth 100000 in
/-- Leavebank.cancel(request) -/
theorem kX3_cancel (l : Launch) (hfl : l.stackTraces = false) (D : va_G) (cy : Nat → ClassId) (C : List Nat) (ad : Nat → Nat) (e : Nat → Nat → Nat) (sz : Nat) (k : Nat) (hCC : CC (e 0 1) (e 0 3) C) (hW : CW e) (hk : k < 4294967296) : vx_Met l yX3_cancel wsX3_cancel ({ frames := 7, cells := 2, slots := 12, locals := 104 } : Room) (PreX D cy (C, ad, G cy ad e) sz [.ref (ad 0), .int (nI k)]) (va_Qv (fun (u : WT) => (k < e 0 3 ∧ e (RB k) 4 = 0) ∧ u = (C, ad, G cy ad (mkC (es e (RB k) 4 1) (e (RB k) 0) (e (RB k) 2) (e (RB k) 3 + 1)))) (WB D cy (AW (C, ad, G cy ad e) sz)) (AW (C, ad, G cy ad e) sz)) (vx_X (fun (z : String × WT) => (¬ k < e 0 3 ∧ z = (eIO, (C, ad, G cy ad e))) ∨ (k < e 0 3 ∧ ¬ e (RB k) 4 = 0 ∧ z = (eIS, (C, ad, G cy ad e)))) (XB D cy (AW (C, ad, G cy ad e) sz)) (AW (C, ad, G cy ad e) sz)) 2 12 (AW (C, ad, G cy ad e) sz) := by
  refine mxx_start (cc := cX3_cancel) (maxL := 3) (ret := none) (by decide) rfl (Nat.le_of_ble_eq_true rfl) ?_
  intro p9 e9 s m args below meth c hsz hr hnm M w Th hxt ls hl
  have hx := M.1.1
  have hb := M.1.2.1
  have inX2 : ∀ w ∈ wsX20, w ∈ wsX3_cancel := by decide +kernel
  have f94 : Cond.fieldLink RX3 94 RX2 "owner" "LLeavebank$Person;" ∈ wsX3_cancel := by decide +kernel
  have f98 : Cond.fieldLink RX3 98 RX2 "isCancelled" "Z" ∈ wsX3_cancel := by decide +kernel
  have f104 : Cond.fieldLink RX3 104 RX2 "firstDay" "I" ∈ wsX3_cancel := by decide +kernel
  have f105 : Cond.fieldLink RX3 105 RX2 "lastDay" "I" ∈ wsX3_cancel := by decide +kernel
  have hB := hCC.B
  have hRC := hCC.R
  have hl : lv_has ls 3 [(0, .ref (ad 0)), (1, .int (nI k))] := hl
  refine lv_aload_n hx hb dX3_cancel_0 rfl (lv_at hl 0 rfl) ?_
  refine lv_iload_n hx hb dX3_cancel_1 rfl (lv_at hl 1 rfl) ?_
  refine mxx_Vr M w Th hxt (kX3_requestAt l hfl D cy C ad e s.heap.size k hB hW hk) (cwV 1 M.1.2.2.2.2 gX3_cancel_X3_requestAt rfl rfl rfl (by decide +kernel) ⟨Nat.le_of_ble_eq_true rfl, Nat.le_of_ble_eq_true rfl⟩) (mo_rec M w (hB 0 (by decide)) (g := G cy ad e) (sh_0 cy ad (e 0)) rfl) rfl hl.1 rfl (Nat.le_of_ble_eq_true rfl) dX3_cancel_2 ⟨by decide, by decide⟩ ⟨by decide, by decide⟩ (fun E u1 h => Or.inl h) (fun r2 u1 H locs hp1 ha1 w => ?_)
  obtain ⟨q2, rfl⟩ := hp1
  subst ha1
  have q8 := hW.rq k q2
  have q9 := hW.rw' k q2
  have hp : e (RB k) 0 < 8 := by have z := hW.np; omega
  have hC := hCC.P q8.1
  have hpp := hW.p q8.1
  have hR : RB k ∈ C := hRC k q2
  refine lv_astore_n (lv' := [(2, .ref (ad (RB k))), (0, .ref (ad 0)), (1, .int (nI k))]) hx hb dX3_cancel_5 rfl hl (by decide) rfl (fun ls hl => ?_)
  refine lv_aload_n hx hb dX3_cancel_6 rfl (lv_at hl 0 rfl) ?_
  refine ex_get M w (hR) (sh_RB cy ad k (e (RB k))) rfl inX2 4 (by decide) f98 rfl dX3_cancel_7 ?_
  refine mi_if_eq hx hb (by omega) 23 dX3_cancel_10 (by decide) (fun h10 => ?_) (fun h10 => ?_)
  · refine lv_aload_n hx hb dX3_cancel_23 rfl (lv_at hl 0 rfl) ?_
    refine lv_iconst (v := nI 1) hx hb dX3_cancel_24 (by decide) ?_
    refine ex_put M w (hR) (sh_RB cy ad k (e (RB k))) rfl inX2 tyX2 tyX2_ok nmX2 4 (by decide) f98 rfl (v := 1) rfl rfl (Nat.le_of_ble_eq_true rfl) (sh_RB cy ad k _) dX3_cancel_25 (fun H locs w => ?_)
    refine lv_aload_n hx hb dX3_cancel_28 rfl (lv_at hl 0 rfl) ?_
    refine ex_get M w (hR) (sh_RB cy ad k ((es e (RB k) 4 1) (RB k))) rfl inX2 0 (by decide) f94 (congrArg (fun z => some (Value.ref (ad (PB z)))) (es_ne _ _ (by first | omega | (unfold PB; omega) | (unfold RB; omega) | (unfold PB RB; omega)))) dX3_cancel_29 ?_
    refine lv_aload_n hx hb dX3_cancel_32 rfl (lv_at hl 0 rfl) ?_
    refine ex_get M w (hR) (sh_RB cy ad k ((es e (RB k) 4 1) (RB k))) rfl inX2 2 (by decide) f104 (congrArg (fun z => some (Value.int (nI z))) (es_ne _ _ (by first | omega | (unfold PB; omega) | (unfold RB; omega) | (unfold PB RB; omega)))) dX3_cancel_33 ?_
    refine lv_aload_n hx hb dX3_cancel_36 rfl (lv_at hl 0 rfl) ?_
    refine ex_get M w (hR) (sh_RB cy ad k ((es e (RB k) 4 1) (RB k))) rfl inX2 3 (by decide) f105 (congrArg (fun z => some (Value.int (nI z))) (es_ne _ _ (by first | omega | (unfold PB; omega) | (unfold RB; omega) | (unfold PB RB; omega)))) dX3_cancel_37 ?_
    refine mx_Vv M w (kX1_markLeave l D cy C ad (es e (RB k) 4 1) H.size (e (RB k) 0) (e (RB k) 2) (e (RB k) 3) _ hp hC (hpp.sp.eq (esR_P hp k 4 1)) (hpp.rq.eq (esR_P hp k 4 1)) hRC (RW_cn hW.rw') q8.2.2 q9.2.2.1) (cwV 2 M.1.2.2.2.2 gX3_cancel_X1_markLeave rfl rfl rfl (by decide +kernel) ⟨Nat.le_of_ble_eq_true rfl, Nat.le_of_ble_eq_true rfl⟩) (mo_rec M w (show (PB (e (RB k) 0)) ∈ C from hC 0 (by decide)) (g := G cy ad (es e (RB k) 4 1)) (sh_P0 cy ad ((es e (RB k) 4 1) (PB (e (RB k) 0))) hp) rfl) rfl hl.1 rfl (Nat.le_of_ble_eq_true rfl) dX3_cancel_40 ⟨by decide, by decide⟩ (fun u1 H locs hp1 w => ?_)
    obtain rfl := hp1
    refine vx_ret ?_
    exact mx_vret M w hr ⟨⟨q2, h10⟩, rfl⟩ (by decide) (by decide) dX3_cancel_43
  · exact mx_throw M w Th hfl hxt (cls := eIS) (text := "the request is cancelled") (is := 102) (by decide +kernel) (show Cond.classLink RX3 43 eIS ∈ wsX3_cancel by decide +kernel) (show Cond.initialized eIS ∈ wsX3_cancel by decide +kernel) (by decide +kernel) rfl (show ∀ w ∈ (vx_atS RX3 47 eIS eUP).filter goodWord, w ∈ wsX3_cancel by decide +kernel) (by decide +kernel) (by decide +kernel) hl.1 dX3_cancel_13 dX3_cancel_16 dX3_cancel_17 dX3_cancel_19 dX3_cancel_22 (by decide) (Nat.le_of_ble_eq_true rfl) (by decide) (by decide) (Or.inr ⟨q2, h10, rfl⟩) (by decide) (by decide)
end
section
/-! ===== constructors ===== -/
theorem in_app {x y : Nat} {C : List Nat} (h : x ∈ C) : x ∈ C ++ [y] := List.mem_append.mpr (Or.inl h)
theorem in_self {y : Nat} {C : List Nat} : y ∈ C ++ [y] := List.mem_append.mpr (Or.inr (List.mem_singleton.mpr rfl))
theorem nin_app {x y : Nat} {C : List Nat} (h : x ∉ C) (hn : x ≠ y) : x ∉ C ++ [y] := fun z => (List.mem_append.mp z).elim h (fun q => hn (List.mem_singleton.mp q))
section MXQ
variable {p : Program} {l : Launch} {e : Env} {R : Room} {s : State} {m : MethodId} {args : Array Value} {below : List Frame} {meth : Method} {c : Code} {H : Heap} {locs : List Loc} {cells slots : Nat} {Q : State → Prop}
variable {cc : ByteArray} {pc : Nat} {ls : Array Slot} {rest : List Value} {D : va_G} {cy : Nat → ClassId} {A : Nat → Prop} {Ts : List Cond} {own : String} {nL : Nat} {C : List Nat} {ad : Nat → Nat} {g : Nat → va_E}
theorem mx_putq (M : MC p s m args meth c cc Ts own nL D cy A) (w : MO D A s.heap (C, ad, g) H locs) {x q : Nat} (hq : q = ad x) (hx : x ∈ C) {ci : Nat} {fs : List Value} (he : g x = .inr (ci, fs)) {CN : String} {T : u_T} {N : Nat} (hc : vwCl[ci]? = some (CN, T, N)) (hin : ∀ w ∈ u_ws CN T N, w ∈ Ts) (ty0 : Nat → FieldType) (hty : ∀ k, k < N → parseFieldDescriptor (T k).2.2.1 = some (ty0 k)) (hnm : ∀ a, a < N → ∀ b, b < N → a ≠ b → (T a).2.1 ≠ (T b).2.1) {index : Nat} (k : Nat) (hk : k < N) (hl : Cond.fieldLink own index (T k).1 (T k).2.1 (T k).2.2.1 ∈ Ts) (hfin : (T k).2.2.2 = false) {v : Value} (hn : narrow (ty0 k) v = v) (hfit : fits (ty0 k) v = true) (hlen : k < fs.length) (hdg : decode cc pc = .ok (.putfield index, 3))
    (kk : ∀ (H1 : Heap) (locs1 : List Loc), MO D A s.heap (C, ad, mu g x (.inr (ci, fs.set k v))) H1 locs1 → W p l e R s m args below meth c H1 locs1 cells slots Q (F0 m (pc + 3) ls rest)) : W p l e R s m args below meth c H locs cells slots Q (F0 m pc ls (v :: .ref q :: rest)) := by
  subst hq
  exact mx_put M w hx he hc hin ty0 hty hnm k hk hl hfin hn hfit hlen hdg kk
theorem mx_putFq (M : MC p s m args meth c cc Ts own nL D cy A) (w : MO D A s.heap (C, ad, g) H locs) {x q : Nat} (hq : q = ad x) (hx : x ∈ C) {ci : Nat} {fs : List Value} (he : g x = .inr (ci, fs)) {CN : String} {T : u_T} {N : Nat} (hc : vwCl[ci]? = some (CN, T, N)) (hin : ∀ w ∈ u_ws CN T N, w ∈ Ts) (ty0 : Nat → FieldType) (hty : ∀ k, k < N → parseFieldDescriptor (T k).2.2.1 = some (ty0 k)) (hnm : ∀ a, a < N → ∀ b, b < N → a ≠ b → (T a).2.1 ≠ (T b).2.1) {index : Nat} (k : Nat) (hk : k < N) (hl : Cond.fieldLink own index (T k).1 (T k).2.1 (T k).2.2.1 ∈ Ts) (hfin : (T k).2.2.2 = true) (hmi : meth.name = "<init>") (hdecl : (T k).1 = own) {v : Value} (hn : narrow (ty0 k) v = v) (hfit : fits (ty0 k) v = true) (hlen : k < fs.length) (hdg : decode cc pc = .ok (.putfield index, 3))
    (kk : ∀ (H1 : Heap) (locs1 : List Loc), MO D A s.heap (C, ad, mu g x (.inr (ci, fs.set k v))) H1 locs1 → W p l e R s m args below meth c H1 locs1 cells slots Q (F0 m (pc + 3) ls rest)) : W p l e R s m args below meth c H locs cells slots Q (F0 m pc ls (v :: .ref q :: rest)) := by
  subst hq
  exact mx_putF M w hx he hc hin ty0 hty hnm k hk hl hfin hmi hdecl hn hfit hlen hdg kk
theorem MO_same (w : MO D A s.heap (C, ad, g) H locs) {ad' : Nat → Nat} {g' : Nat → va_E} (h : ∀ c ∈ C, ad c = ad' c ∧ g c = g' c) : MO D A s.heap (C, ad', g') H locs := by
  have e9 := mp_congr h
  unfold MO at *
  simp only at w ⊢
  rw [← e9]
  exact w
end MXQ

set_option maxHeartbeats 4000000 in
set_option maxRecDepth 100000 in
theorem kX2_init (l : Launch) (D : va_G) (cy : Nat → ClassId) (C : List Nat) (ad : Nat → Nat) (g : Nat → va_E) (sz : Nat) (q y f t h : Nat) (hR : RB q ∈ C) (hh : h ≤ 1) (he : g (RB q) = .inr (2, [.null, .int (nI 0), .int (nI 0), .int (nI 0), .int (nI 0)])) : Met l yX2_init wsX2_init ({ frames := 1, cells := 0, slots := 0, locals := 12 } : Room) (PreM D cy (C, ad, g) sz [.ref (ad (RB q)), .ref (ad y), .int (nI f), .int (nI t), .int (nI h)]) (va_Qv (fun (u : WT) => ∃ g', (∀ c, c ≠ RB q → g' c = g c) ∧ g' (RB q) = .inr (2, [.ref (ad y), .int (nI (if h = 0 then 2 else 1)), .int (nI f), .int (nI t), .int (nI 0)]) ∧ u = (C, ad, g')) (WB D cy (AW (C, ad, g) sz)) (AW (C, ad, g) sz)) 0 0 (AW (C, ad, g) sz) := by
  refine mx_start (cc := cX2_init) (maxL := 5) (ret := none) (by decide) rfl (Nat.le_of_ble_eq_true rfl) ?_
  intro p9 e9 s m args below meth c hsz hr hnm M w ls hl
  have hx := M.1.1
  have hb := M.1.2.1
  have inX2 : ∀ w ∈ wsX20, w ∈ wsX2_init := by decide +kernel
  have f9 : Cond.fieldLink RX2 9 RX2 "owner" "LLeavebank$Person;" ∈ wsX2_init := by decide +kernel
  have f15 : Cond.fieldLink RX2 15 RX2 "kind" "I" ∈ wsX2_init := by decide +kernel
  have f19 : Cond.fieldLink RX2 19 RX2 "firstDay" "I" ∈ wsX2_init := by decide +kernel
  have f22 : Cond.fieldLink RX2 22 RX2 "lastDay" "I" ∈ wsX2_init := by decide +kernel
  have hl : lv_has ls 5 [(0, .ref (ad (RB q))), (1, .ref (ad y)), (2, .int (nI f)), (3, .int (nI t)), (4, .int (nI h))] := hl
  obtain ⟨q1, hq1⟩ : ∃ z, z = ad (RB q) := ⟨_, rfl⟩
  rw [← hq1] at hl
  obtain ⟨q2, hq2⟩ : ∃ z, z = ad y := ⟨_, rfl⟩
  rw [← hq2] at hl
  refine lv_aload_n hx hb dX2_init_0 rfl (lv_at hl 0 rfl) ?_
  refine W.objInit hx hb M.1.2.2.2.1 (M.1.2.2.2.2 _ (show Cond.methodLink RX2 3 objectInit ∈ wsX2_init by decide +kernel)) (M.1.2.2.2.2 _ (show Cond.instanceMethod objectInit ∈ wsX2_init by decide +kernel)) (M.1.2.2.2.2 _ (show Cond.code objectInit ⟨#[0xb1]⟩ 1 none ∈ wsX2_init by decide +kernel)) rfl (hl.1.trans M.1.2.2.1.symm) rfl dX2_init_1 (by decide) (Nat.le_of_ble_eq_true rfl) ?_
  refine W.eq (g2 := F0 m 4 ls []) rfl ?_
  refine lv_aload_n hx hb dX2_init_4 rfl (lv_at hl 0 rfl) ?_
  refine lv_aload_n hx hb dX2_init_5 rfl (lv_at hl 1 rfl) ?_
  refine mx_putFq M w hq1 (hR) ((he)) rfl inX2 tyX2 tyX2_ok nmX2 0 (by decide) f9 rfl hnm rfl (v := .ref q2) rfl rfl (Nat.le_of_ble_eq_true rfl) dX2_init_6 (fun H locs w => ?_)
  replace w : MO D (AW (C, ad, g) sz) s.heap (C, ad, (mu g (RB q) (.inr (2, [.ref q2, .int (nI 0), .int (nI 0), .int (nI 0), .int (nI 0)])))) H _ := w
  refine lv_aload_n hx hb dX2_init_9 rfl (lv_at hl 0 rfl) ?_
  refine lv_iload hx hb dX2_init_10 (lv_at hl 4 rfl) ?_
  refine mi_if_eq hx hb (by omega) 19 dX2_init_12 (by decide) (fun h12 => ?_) (fun h12 => ?_)
  · refine lv_iconst (v := nI 2) hx hb dX2_init_19 (by decide) ?_
    refine mx_putFq M w hq1 (hR) ((mu_same _ _ _)) rfl inX2 tyX2 tyX2_ok nmX2 1 (by decide) f15 rfl hnm rfl (v := .int (nI 2)) rfl rfl (Nat.le_of_ble_eq_true rfl) dX2_init_20 (fun H locs w => ?_)
    replace w : MO D (AW (C, ad, g) sz) s.heap (C, ad, (mu (mu g (RB q) (.inr (2, [.ref q2, .int (nI 0), .int (nI 0), .int (nI 0), .int (nI 0)]))) (RB q) (.inr (2, [.ref q2, .int (nI 2), .int (nI 0), .int (nI 0), .int (nI 0)])))) H _ := w
    refine lv_aload_n hx hb dX2_init_23 rfl (lv_at hl 0 rfl) ?_
    refine lv_iload_n hx hb dX2_init_24 rfl (lv_at hl 2 rfl) ?_
    refine mx_putq M w hq1 (hR) ((mu_same _ _ _)) rfl inX2 tyX2 tyX2_ok nmX2 2 (by decide) f19 rfl (v := .int (nI f)) rfl rfl (Nat.le_of_ble_eq_true rfl) dX2_init_25 (fun H locs w => ?_)
    replace w : MO D (AW (C, ad, g) sz) s.heap (C, ad, (mu (mu (mu g (RB q) (.inr (2, [.ref q2, .int (nI 0), .int (nI 0), .int (nI 0), .int (nI 0)]))) (RB q) (.inr (2, [.ref q2, .int (nI 2), .int (nI 0), .int (nI 0), .int (nI 0)]))) (RB q) (.inr (2, [.ref q2, .int (nI 2), .int (nI f), .int (nI 0), .int (nI 0)])))) H _ := w
    refine lv_aload_n hx hb dX2_init_28 rfl (lv_at hl 0 rfl) ?_
    refine lv_iload_n hx hb dX2_init_29 rfl (lv_at hl 3 rfl) ?_
    refine mx_putq M w hq1 (hR) ((mu_same _ _ _)) rfl inX2 tyX2 tyX2_ok nmX2 3 (by decide) f22 rfl (v := .int (nI t)) rfl rfl (Nat.le_of_ble_eq_true rfl) dX2_init_30 (fun H locs w => ?_)
    replace w : MO D (AW (C, ad, g) sz) s.heap (C, ad, (mu (mu (mu (mu g (RB q) (.inr (2, [.ref q2, .int (nI 0), .int (nI 0), .int (nI 0), .int (nI 0)]))) (RB q) (.inr (2, [.ref q2, .int (nI 2), .int (nI 0), .int (nI 0), .int (nI 0)]))) (RB q) (.inr (2, [.ref q2, .int (nI 2), .int (nI f), .int (nI 0), .int (nI 0)]))) (RB q) (.inr (2, [.ref q2, .int (nI 2), .int (nI f), .int (nI t), .int (nI 0)])))) H _ := w
    exact mx_vret M w hr ⟨_, fun c hc => (mu_ne _ _ hc).trans ((mu_ne _ _ hc).trans ((mu_ne _ _ hc).trans ((mu_ne _ _ hc)))), ((mu_same _ _ _)).trans (by rw [hq2, if_pos h12]), rfl⟩ (by decide) (by decide) dX2_init_33
  · refine lv_iconst (v := nI 1) hx hb dX2_init_15 (by decide) ?_
    refine lv_goto (tgt := 20) hx hb dX2_init_16 (by decide) ?_
    refine mx_putFq M w hq1 (hR) ((mu_same _ _ _)) rfl inX2 tyX2 tyX2_ok nmX2 1 (by decide) f15 rfl hnm rfl (v := .int (nI 1)) rfl rfl (Nat.le_of_ble_eq_true rfl) dX2_init_20 (fun H locs w => ?_)
    replace w : MO D (AW (C, ad, g) sz) s.heap (C, ad, (mu (mu g (RB q) (.inr (2, [.ref q2, .int (nI 0), .int (nI 0), .int (nI 0), .int (nI 0)]))) (RB q) (.inr (2, [.ref q2, .int (nI 1), .int (nI 0), .int (nI 0), .int (nI 0)])))) H _ := w
    refine lv_aload_n hx hb dX2_init_23 rfl (lv_at hl 0 rfl) ?_
    refine lv_iload_n hx hb dX2_init_24 rfl (lv_at hl 2 rfl) ?_
    refine mx_putq M w hq1 (hR) ((mu_same _ _ _)) rfl inX2 tyX2 tyX2_ok nmX2 2 (by decide) f19 rfl (v := .int (nI f)) rfl rfl (Nat.le_of_ble_eq_true rfl) dX2_init_25 (fun H locs w => ?_)
    replace w : MO D (AW (C, ad, g) sz) s.heap (C, ad, (mu (mu (mu g (RB q) (.inr (2, [.ref q2, .int (nI 0), .int (nI 0), .int (nI 0), .int (nI 0)]))) (RB q) (.inr (2, [.ref q2, .int (nI 1), .int (nI 0), .int (nI 0), .int (nI 0)]))) (RB q) (.inr (2, [.ref q2, .int (nI 1), .int (nI f), .int (nI 0), .int (nI 0)])))) H _ := w
    refine lv_aload_n hx hb dX2_init_28 rfl (lv_at hl 0 rfl) ?_
    refine lv_iload_n hx hb dX2_init_29 rfl (lv_at hl 3 rfl) ?_
    refine mx_putq M w hq1 (hR) ((mu_same _ _ _)) rfl inX2 tyX2 tyX2_ok nmX2 3 (by decide) f22 rfl (v := .int (nI t)) rfl rfl (Nat.le_of_ble_eq_true rfl) dX2_init_30 (fun H locs w => ?_)
    replace w : MO D (AW (C, ad, g) sz) s.heap (C, ad, (mu (mu (mu (mu g (RB q) (.inr (2, [.ref q2, .int (nI 0), .int (nI 0), .int (nI 0), .int (nI 0)]))) (RB q) (.inr (2, [.ref q2, .int (nI 1), .int (nI 0), .int (nI 0), .int (nI 0)]))) (RB q) (.inr (2, [.ref q2, .int (nI 1), .int (nI f), .int (nI 0), .int (nI 0)]))) (RB q) (.inr (2, [.ref q2, .int (nI 1), .int (nI f), .int (nI t), .int (nI 0)])))) H _ := w
    exact mx_vret M w hr ⟨_, fun c hc => (mu_ne _ _ hc).trans ((mu_ne _ _ hc).trans ((mu_ne _ _ hc).trans ((mu_ne _ _ hc)))), ((mu_same _ _ _)).trans (by rw [hq2, if_neg h12]), rfl⟩ (by decide) (by decide) dX2_init_33

/-- a new person's numbers -/
def pnE (a b h k i : Nat) : Nat := if k = 0 then (if i = 0 then a else if i = 1 then b else if i = 2 then h else 0) else 0
theorem k9 {P : Nat → Prop} (h0 : P 0) (h1 : P 1) (h2 : P 2) (h3 : P 3) (h4 : P 4) (h5 : P 5) (h6 : P 6) (h7 : P 7) (h8 : P 8) : ∀ k, k < 9 → P k := fun k hk => by
  rcases k with _ | _ | _ | _ | _ | _ | _ | _ | _ | k
  · exact h0
  · exact h1
  · exact h2
  · exact h3
  · exact h4
  · exact h5
  · exact h6
  · exact h7
  · exact h8
  · omega

set_option maxHeartbeats 4000000 in
set_option maxRecDepth 100000 in
theorem kX1_init (l : Launch) (D : va_G) (cy : Nat → ClassId) (C : List Nat) (ad : Nat → Nat) (g : Nat → va_E) (sz : Nat) (p a b h : Nat) (hp : p < 8) (hP : PB p ∈ C) (hfr : ∀ k, k < 9 → k ≠ 0 → PB p + k ∉ C) (he : g (PB p) = .inr (1, [.int (nI 0), .int (nI 0), .int (nI 0), .null, .null, .int (nI 0), .null, .int (nI 0), .null, .null, .int (nI 0), .null, .null, .int (nI 0), .null])) : Met l yX1_init wsX1_init ({ frames := 1, cells := 8, slots := 3781, locals := 12 } : Room) (PreM D cy (C, ad, g) sz [.ref (ad (PB p)), .int (nI a), .int (nI b), .int (nI h)]) (va_Qv (fun (u : WT) => ∃ ad' g', (∀ c, (∀ k, k < 9 → k ≠ 0 → c ≠ PB p + k) → ad' c = ad c) ∧ (∀ c, (∀ k, k < 9 → c ≠ PB p + k) → g' c = g c) ∧ (∀ k, k < 9 → g' (PB p + k) = sh cy ad' (PB p + k) (pnE a b h k)) ∧ u = (((((((((C ++ [(PB p + 1)]) ++ [(PB p + 2)]) ++ [(PB p + 3)]) ++ [(PB p + 4)]) ++ [(PB p + 5)]) ++ [(PB p + 6)]) ++ [(PB p + 7)]) ++ [(PB p + 8)]), ad', g')) (WB D cy (AW (C, ad, g) sz)) (AW (C, ad, g) sz)) 8 3781 (AW (C, ad, g) sz) := by
  refine mx_start (cc := cX1_init) (maxL := 4) (ret := none) (by decide) rfl (Nat.le_of_ble_eq_true rfl) ?_
  intro p9 e9 s m args below meth c hsz hr hnm M w ls hl
  have hx := M.1.1
  have hb := M.1.2.1
  have inX1 : ∀ w ∈ wsX10, w ∈ wsX1_init := by decide +kernel
  have f9 : Cond.fieldLink RX1 9 RX1 "changeDays" "[I" ∈ wsX1_init := by decide +kernel
  have f15 : Cond.fieldLink RX1 15 RX1 "changeHours" "[I" ∈ wsX1_init := by decide +kernel
  have f20 : Cond.fieldLink RX1 20 RX1 "ownRequests" "[LLeavebank$Request;" ∈ wsX1_init := by decide +kernel
  have f24 : Cond.fieldLink RX1 24 RX1 "spellFirsts" "[I" ∈ wsX1_init := by decide +kernel
  have f27 : Cond.fieldLink RX1 27 RX1 "spellLasts" "[I" ∈ wsX1_init := by decide +kernel
  have f30 : Cond.fieldLink RX1 30 RX1 "payoutDays" "[I" ∈ wsX1_init := by decide +kernel
  have f33 : Cond.fieldLink RX1 33 RX1 "payoutPoints" "[I" ∈ wsX1_init := by decide +kernel
  have f36 : Cond.fieldLink RX1 36 RX1 "leaveKinds" "[I" ∈ wsX1_init := by decide +kernel
  have f39 : Cond.fieldLink RX1 39 RX1 "firstDay" "I" ∈ wsX1_init := by decide +kernel
  have f43 : Cond.fieldLink RX1 43 RX1 "right" "I" ∈ wsX1_init := by decide +kernel
  have f46 : Cond.fieldLink RX1 46 RX1 "firstHours" "I" ∈ wsX1_init := by decide +kernel
  have hl : lv_has ls 4 [(0, .ref (ad (PB p))), (1, .int (nI a)), (2, .int (nI b)), (3, .int (nI h))] := hl
  obtain ⟨q0, hq0⟩ : ∃ z, z = ad (PB p) := ⟨_, rfl⟩
  rw [← hq0] at hl
  refine lv_aload_n hx hb dX1_init_0 rfl (lv_at hl 0 rfl) ?_
  refine W.objInit hx hb M.1.2.2.2.1 (M.1.2.2.2.2 _ (show Cond.methodLink RX1 3 objectInit ∈ wsX1_init by decide +kernel)) (M.1.2.2.2.2 _ (show Cond.instanceMethod objectInit ∈ wsX1_init by decide +kernel)) (M.1.2.2.2.2 _ (show Cond.code objectInit ⟨#[0xb1]⟩ 1 none ∈ wsX1_init by decide +kernel)) rfl (hl.1.trans M.1.2.2.1.symm) rfl dX1_init_1 (by decide) (Nat.le_of_ble_eq_true rfl) ?_
  refine W.eq (g2 := F0 m 4 ls []) rfl ?_
  refine lv_aload_n hx hb dX1_init_4 rfl (lv_at hl 0 rfl) ?_
  refine lv_bipush (v := nI 10) hx hb dX1_init_5 (by decide) ?_
  refine mx_newI M w (PB p + 1) (hfr 1 (by decide) (by decide)) (by decide +kernel) (n := 10) (by decide) (Nat.le_of_ble_eq_true rfl) (Nat.le_of_ble_eq_true rfl) dX1_init_7 (fun ad1 H had1 w => ?_)
  replace hq0 := hq0.trans (had1 _ (by first | omega | (unfold PB; omega) | (unfold RB; omega) | (unfold PB RB; omega))).symm
  obtain ⟨q1, hq1⟩ : ∃ z, z = ad1 (PB p + 1) := ⟨_, rfl⟩
  rw [← hq1]
  replace w : MO D (AW (C, ad, g) sz) s.heap ((C ++ [(PB p + 1)]), ad1, (mu g (PB p + 1) (.inl (cy 0, 10, .inl (fun _ => nI 0))))) H _ := w
  refine mx_putFq M w hq0 (in_app (hP)) (((mu_ne _ _ (by first | omega | (unfold PB; omega) | (unfold RB; omega) | (unfold PB RB; omega))).trans (he))) rfl inX1 tyX1 tyX1_ok nmX1 3 (by decide) f9 rfl hnm rfl (v := .ref q1) rfl rfl (Nat.le_of_ble_eq_true rfl) dX1_init_9 (fun H locs w => ?_)
  replace w : MO D (AW (C, ad, g) sz) s.heap ((C ++ [(PB p + 1)]), ad1, (mu (mu g (PB p + 1) (.inl (cy 0, 10, .inl (fun _ => nI 0)))) (PB p) (.inr (1, [.int (nI 0), .int (nI 0), .int (nI 0), .ref q1, .null, .int (nI 0), .null, .int (nI 0), .null, .null, .int (nI 0), .null, .null, .int (nI 0), .null])))) H _ := w
  refine lv_aload_n hx hb dX1_init_12 rfl (lv_at hl 0 rfl) ?_
  refine lv_bipush (v := nI 10) hx hb dX1_init_13 (by decide) ?_
  refine mx_newI M w (PB p + 2) (nin_app (hfr 2 (by decide) (by decide)) (by first | omega | (unfold PB; omega) | (unfold RB; omega) | (unfold PB RB; omega))) (by decide +kernel) (n := 10) (by decide) (Nat.le_of_ble_eq_true rfl) (Nat.le_of_ble_eq_true rfl) dX1_init_15 (fun ad2 H had2 w => ?_)
  replace hq0 := hq0.trans (had2 _ (by first | omega | (unfold PB; omega) | (unfold RB; omega) | (unfold PB RB; omega))).symm
  replace hq1 := hq1.trans (had2 _ (by first | omega | (unfold PB; omega) | (unfold RB; omega) | (unfold PB RB; omega))).symm
  obtain ⟨q2, hq2⟩ : ∃ z, z = ad2 (PB p + 2) := ⟨_, rfl⟩
  rw [← hq2]
  replace w : MO D (AW (C, ad, g) sz) s.heap (((C ++ [(PB p + 1)]) ++ [(PB p + 2)]), ad2, (mu (mu (mu g (PB p + 1) (.inl (cy 0, 10, .inl (fun _ => nI 0)))) (PB p) (.inr (1, [.int (nI 0), .int (nI 0), .int (nI 0), .ref q1, .null, .int (nI 0), .null, .int (nI 0), .null, .null, .int (nI 0), .null, .null, .int (nI 0), .null]))) (PB p + 2) (.inl (cy 0, 10, .inl (fun _ => nI 0))))) H _ := w
  refine mx_putFq M w hq0 (in_app (in_app (hP))) (((mu_ne _ _ (by first | omega | (unfold PB; omega) | (unfold RB; omega) | (unfold PB RB; omega))).trans (mu_same _ _ _))) rfl inX1 tyX1 tyX1_ok nmX1 4 (by decide) f15 rfl hnm rfl (v := .ref q2) rfl rfl (Nat.le_of_ble_eq_true rfl) dX1_init_17 (fun H locs w => ?_)
  replace w : MO D (AW (C, ad, g) sz) s.heap (((C ++ [(PB p + 1)]) ++ [(PB p + 2)]), ad2, (mu (mu (mu (mu g (PB p + 1) (.inl (cy 0, 10, .inl (fun _ => nI 0)))) (PB p) (.inr (1, [.int (nI 0), .int (nI 0), .int (nI 0), .ref q1, .null, .int (nI 0), .null, .int (nI 0), .null, .null, .int (nI 0), .null, .null, .int (nI 0), .null]))) (PB p + 2) (.inl (cy 0, 10, .inl (fun _ => nI 0)))) (PB p) (.inr (1, [.int (nI 0), .int (nI 0), .int (nI 0), .ref q1, .ref q2, .int (nI 0), .null, .int (nI 0), .null, .null, .int (nI 0), .null, .null, .int (nI 0), .null])))) H _ := w
  refine lv_aload_n hx hb dX1_init_20 rfl (lv_at hl 0 rfl) ?_
  refine lv_bipush (v := nI 40) hx hb dX1_init_21 (by decide) ?_
  refine mx_newq M w (PB p + 3) (nin_app (nin_app (hfr 3 (by decide) (by decide)) (by first | omega | (unfold PB; omega) | (unfold RB; omega) | (unfold PB RB; omega))) (by first | omega | (unfold PB; omega) | (unfold RB; omega) | (unfold PB RB; omega))) 3 rfl (show Cond.classLink RX1 18 RX2 ∈ wsX1_init by decide +kernel) M.2.2.2.2.2.2.2 (n := 40) (by decide) (Nat.le_of_ble_eq_true rfl) (Nat.le_of_ble_eq_true rfl) dX1_init_23 (fun ad3 H had3 w => ?_)
  replace hq0 := hq0.trans (had3 _ (by first | omega | (unfold PB; omega) | (unfold RB; omega) | (unfold PB RB; omega))).symm
  replace hq1 := hq1.trans (had3 _ (by first | omega | (unfold PB; omega) | (unfold RB; omega) | (unfold PB RB; omega))).symm
  replace hq2 := hq2.trans (had3 _ (by first | omega | (unfold PB; omega) | (unfold RB; omega) | (unfold PB RB; omega))).symm
  obtain ⟨q3, hq3⟩ : ∃ z, z = ad3 (PB p + 3) := ⟨_, rfl⟩
  rw [← hq3]
  replace w : MO D (AW (C, ad, g) sz) s.heap ((((C ++ [(PB p + 1)]) ++ [(PB p + 2)]) ++ [(PB p + 3)]), ad3, (mu (mu (mu (mu (mu g (PB p + 1) (.inl (cy 0, 10, .inl (fun _ => nI 0)))) (PB p) (.inr (1, [.int (nI 0), .int (nI 0), .int (nI 0), .ref q1, .null, .int (nI 0), .null, .int (nI 0), .null, .null, .int (nI 0), .null, .null, .int (nI 0), .null]))) (PB p + 2) (.inl (cy 0, 10, .inl (fun _ => nI 0)))) (PB p) (.inr (1, [.int (nI 0), .int (nI 0), .int (nI 0), .ref q1, .ref q2, .int (nI 0), .null, .int (nI 0), .null, .null, .int (nI 0), .null, .null, .int (nI 0), .null]))) (PB p + 3) (.inl (cy 3, 40, .inr (.inr (.inr (.inr (fun _ => none)))))))) H _ := w
  refine mx_putFq M w hq0 (in_app (in_app (in_app (hP)))) (((mu_ne _ _ (by first | omega | (unfold PB; omega) | (unfold RB; omega) | (unfold PB RB; omega))).trans (mu_same _ _ _))) rfl inX1 tyX1 tyX1_ok nmX1 6 (by decide) f20 rfl hnm rfl (v := .ref q3) rfl rfl (Nat.le_of_ble_eq_true rfl) dX1_init_26 (fun H locs w => ?_)
  replace w : MO D (AW (C, ad, g) sz) s.heap ((((C ++ [(PB p + 1)]) ++ [(PB p + 2)]) ++ [(PB p + 3)]), ad3, (mu (mu (mu (mu (mu (mu g (PB p + 1) (.inl (cy 0, 10, .inl (fun _ => nI 0)))) (PB p) (.inr (1, [.int (nI 0), .int (nI 0), .int (nI 0), .ref q1, .null, .int (nI 0), .null, .int (nI 0), .null, .null, .int (nI 0), .null, .null, .int (nI 0), .null]))) (PB p + 2) (.inl (cy 0, 10, .inl (fun _ => nI 0)))) (PB p) (.inr (1, [.int (nI 0), .int (nI 0), .int (nI 0), .ref q1, .ref q2, .int (nI 0), .null, .int (nI 0), .null, .null, .int (nI 0), .null, .null, .int (nI 0), .null]))) (PB p + 3) (.inl (cy 3, 40, .inr (.inr (.inr (.inr (fun _ => none))))))) (PB p) (.inr (1, [.int (nI 0), .int (nI 0), .int (nI 0), .ref q1, .ref q2, .int (nI 0), .ref q3, .int (nI 0), .null, .null, .int (nI 0), .null, .null, .int (nI 0), .null])))) H _ := w
  refine lv_aload_n hx hb dX1_init_29 rfl (lv_at hl 0 rfl) ?_
  refine lv_bipush (v := nI 30) hx hb dX1_init_30 (by decide) ?_
  refine mx_newI M w (PB p + 4) (nin_app (nin_app (nin_app (hfr 4 (by decide) (by decide)) (by first | omega | (unfold PB; omega) | (unfold RB; omega) | (unfold PB RB; omega))) (by first | omega | (unfold PB; omega) | (unfold RB; omega) | (unfold PB RB; omega))) (by first | omega | (unfold PB; omega) | (unfold RB; omega) | (unfold PB RB; omega))) (by decide +kernel) (n := 30) (by decide) (Nat.le_of_ble_eq_true rfl) (Nat.le_of_ble_eq_true rfl) dX1_init_32 (fun ad4 H had4 w => ?_)
  replace hq0 := hq0.trans (had4 _ (by first | omega | (unfold PB; omega) | (unfold RB; omega) | (unfold PB RB; omega))).symm
  replace hq1 := hq1.trans (had4 _ (by first | omega | (unfold PB; omega) | (unfold RB; omega) | (unfold PB RB; omega))).symm
  replace hq2 := hq2.trans (had4 _ (by first | omega | (unfold PB; omega) | (unfold RB; omega) | (unfold PB RB; omega))).symm
  replace hq3 := hq3.trans (had4 _ (by first | omega | (unfold PB; omega) | (unfold RB; omega) | (unfold PB RB; omega))).symm
  obtain ⟨q4, hq4⟩ : ∃ z, z = ad4 (PB p + 4) := ⟨_, rfl⟩
  rw [← hq4]
  replace w : MO D (AW (C, ad, g) sz) s.heap (((((C ++ [(PB p + 1)]) ++ [(PB p + 2)]) ++ [(PB p + 3)]) ++ [(PB p + 4)]), ad4, (mu (mu (mu (mu (mu (mu (mu g (PB p + 1) (.inl (cy 0, 10, .inl (fun _ => nI 0)))) (PB p) (.inr (1, [.int (nI 0), .int (nI 0), .int (nI 0), .ref q1, .null, .int (nI 0), .null, .int (nI 0), .null, .null, .int (nI 0), .null, .null, .int (nI 0), .null]))) (PB p + 2) (.inl (cy 0, 10, .inl (fun _ => nI 0)))) (PB p) (.inr (1, [.int (nI 0), .int (nI 0), .int (nI 0), .ref q1, .ref q2, .int (nI 0), .null, .int (nI 0), .null, .null, .int (nI 0), .null, .null, .int (nI 0), .null]))) (PB p + 3) (.inl (cy 3, 40, .inr (.inr (.inr (.inr (fun _ => none))))))) (PB p) (.inr (1, [.int (nI 0), .int (nI 0), .int (nI 0), .ref q1, .ref q2, .int (nI 0), .ref q3, .int (nI 0), .null, .null, .int (nI 0), .null, .null, .int (nI 0), .null]))) (PB p + 4) (.inl (cy 0, 30, .inl (fun _ => nI 0))))) H _ := w
  refine mx_putFq M w hq0 (in_app (in_app (in_app (in_app (hP))))) (((mu_ne _ _ (by first | omega | (unfold PB; omega) | (unfold RB; omega) | (unfold PB RB; omega))).trans (mu_same _ _ _))) rfl inX1 tyX1 tyX1_ok nmX1 8 (by decide) f24 rfl hnm rfl (v := .ref q4) rfl rfl (Nat.le_of_ble_eq_true rfl) dX1_init_34 (fun H locs w => ?_)
  replace w : MO D (AW (C, ad, g) sz) s.heap (((((C ++ [(PB p + 1)]) ++ [(PB p + 2)]) ++ [(PB p + 3)]) ++ [(PB p + 4)]), ad4, (mu (mu (mu (mu (mu (mu (mu (mu g (PB p + 1) (.inl (cy 0, 10, .inl (fun _ => nI 0)))) (PB p) (.inr (1, [.int (nI 0), .int (nI 0), .int (nI 0), .ref q1, .null, .int (nI 0), .null, .int (nI 0), .null, .null, .int (nI 0), .null, .null, .int (nI 0), .null]))) (PB p + 2) (.inl (cy 0, 10, .inl (fun _ => nI 0)))) (PB p) (.inr (1, [.int (nI 0), .int (nI 0), .int (nI 0), .ref q1, .ref q2, .int (nI 0), .null, .int (nI 0), .null, .null, .int (nI 0), .null, .null, .int (nI 0), .null]))) (PB p + 3) (.inl (cy 3, 40, .inr (.inr (.inr (.inr (fun _ => none))))))) (PB p) (.inr (1, [.int (nI 0), .int (nI 0), .int (nI 0), .ref q1, .ref q2, .int (nI 0), .ref q3, .int (nI 0), .null, .null, .int (nI 0), .null, .null, .int (nI 0), .null]))) (PB p + 4) (.inl (cy 0, 30, .inl (fun _ => nI 0)))) (PB p) (.inr (1, [.int (nI 0), .int (nI 0), .int (nI 0), .ref q1, .ref q2, .int (nI 0), .ref q3, .int (nI 0), .ref q4, .null, .int (nI 0), .null, .null, .int (nI 0), .null])))) H _ := w
  refine lv_aload_n hx hb dX1_init_37 rfl (lv_at hl 0 rfl) ?_
  refine lv_bipush (v := nI 30) hx hb dX1_init_38 (by decide) ?_
  refine mx_newI M w (PB p + 5) (nin_app (nin_app (nin_app (nin_app (hfr 5 (by decide) (by decide)) (by first | omega | (unfold PB; omega) | (unfold RB; omega) | (unfold PB RB; omega))) (by first | omega | (unfold PB; omega) | (unfold RB; omega) | (unfold PB RB; omega))) (by first | omega | (unfold PB; omega) | (unfold RB; omega) | (unfold PB RB; omega))) (by first | omega | (unfold PB; omega) | (unfold RB; omega) | (unfold PB RB; omega))) (by decide +kernel) (n := 30) (by decide) (Nat.le_of_ble_eq_true rfl) (Nat.le_of_ble_eq_true rfl) dX1_init_40 (fun ad5 H had5 w => ?_)
  replace hq0 := hq0.trans (had5 _ (by first | omega | (unfold PB; omega) | (unfold RB; omega) | (unfold PB RB; omega))).symm
  replace hq1 := hq1.trans (had5 _ (by first | omega | (unfold PB; omega) | (unfold RB; omega) | (unfold PB RB; omega))).symm
  replace hq2 := hq2.trans (had5 _ (by first | omega | (unfold PB; omega) | (unfold RB; omega) | (unfold PB RB; omega))).symm
  replace hq3 := hq3.trans (had5 _ (by first | omega | (unfold PB; omega) | (unfold RB; omega) | (unfold PB RB; omega))).symm
  replace hq4 := hq4.trans (had5 _ (by first | omega | (unfold PB; omega) | (unfold RB; omega) | (unfold PB RB; omega))).symm
  obtain ⟨q5, hq5⟩ : ∃ z, z = ad5 (PB p + 5) := ⟨_, rfl⟩
  rw [← hq5]
  replace w : MO D (AW (C, ad, g) sz) s.heap ((((((C ++ [(PB p + 1)]) ++ [(PB p + 2)]) ++ [(PB p + 3)]) ++ [(PB p + 4)]) ++ [(PB p + 5)]), ad5, (mu (mu (mu (mu (mu (mu (mu (mu (mu g (PB p + 1) (.inl (cy 0, 10, .inl (fun _ => nI 0)))) (PB p) (.inr (1, [.int (nI 0), .int (nI 0), .int (nI 0), .ref q1, .null, .int (nI 0), .null, .int (nI 0), .null, .null, .int (nI 0), .null, .null, .int (nI 0), .null]))) (PB p + 2) (.inl (cy 0, 10, .inl (fun _ => nI 0)))) (PB p) (.inr (1, [.int (nI 0), .int (nI 0), .int (nI 0), .ref q1, .ref q2, .int (nI 0), .null, .int (nI 0), .null, .null, .int (nI 0), .null, .null, .int (nI 0), .null]))) (PB p + 3) (.inl (cy 3, 40, .inr (.inr (.inr (.inr (fun _ => none))))))) (PB p) (.inr (1, [.int (nI 0), .int (nI 0), .int (nI 0), .ref q1, .ref q2, .int (nI 0), .ref q3, .int (nI 0), .null, .null, .int (nI 0), .null, .null, .int (nI 0), .null]))) (PB p + 4) (.inl (cy 0, 30, .inl (fun _ => nI 0)))) (PB p) (.inr (1, [.int (nI 0), .int (nI 0), .int (nI 0), .ref q1, .ref q2, .int (nI 0), .ref q3, .int (nI 0), .ref q4, .null, .int (nI 0), .null, .null, .int (nI 0), .null]))) (PB p + 5) (.inl (cy 0, 30, .inl (fun _ => nI 0))))) H _ := w
  refine mx_putFq M w hq0 (in_app (in_app (in_app (in_app (in_app (hP)))))) (((mu_ne _ _ (by first | omega | (unfold PB; omega) | (unfold RB; omega) | (unfold PB RB; omega))).trans (mu_same _ _ _))) rfl inX1 tyX1 tyX1_ok nmX1 9 (by decide) f27 rfl hnm rfl (v := .ref q5) rfl rfl (Nat.le_of_ble_eq_true rfl) dX1_init_42 (fun H locs w => ?_)
  replace w : MO D (AW (C, ad, g) sz) s.heap ((((((C ++ [(PB p + 1)]) ++ [(PB p + 2)]) ++ [(PB p + 3)]) ++ [(PB p + 4)]) ++ [(PB p + 5)]), ad5, (mu (mu (mu (mu (mu (mu (mu (mu (mu (mu g (PB p + 1) (.inl (cy 0, 10, .inl (fun _ => nI 0)))) (PB p) (.inr (1, [.int (nI 0), .int (nI 0), .int (nI 0), .ref q1, .null, .int (nI 0), .null, .int (nI 0), .null, .null, .int (nI 0), .null, .null, .int (nI 0), .null]))) (PB p + 2) (.inl (cy 0, 10, .inl (fun _ => nI 0)))) (PB p) (.inr (1, [.int (nI 0), .int (nI 0), .int (nI 0), .ref q1, .ref q2, .int (nI 0), .null, .int (nI 0), .null, .null, .int (nI 0), .null, .null, .int (nI 0), .null]))) (PB p + 3) (.inl (cy 3, 40, .inr (.inr (.inr (.inr (fun _ => none))))))) (PB p) (.inr (1, [.int (nI 0), .int (nI 0), .int (nI 0), .ref q1, .ref q2, .int (nI 0), .ref q3, .int (nI 0), .null, .null, .int (nI 0), .null, .null, .int (nI 0), .null]))) (PB p + 4) (.inl (cy 0, 30, .inl (fun _ => nI 0)))) (PB p) (.inr (1, [.int (nI 0), .int (nI 0), .int (nI 0), .ref q1, .ref q2, .int (nI 0), .ref q3, .int (nI 0), .ref q4, .null, .int (nI 0), .null, .null, .int (nI 0), .null]))) (PB p + 5) (.inl (cy 0, 30, .inl (fun _ => nI 0)))) (PB p) (.inr (1, [.int (nI 0), .int (nI 0), .int (nI 0), .ref q1, .ref q2, .int (nI 0), .ref q3, .int (nI 0), .ref q4, .ref q5, .int (nI 0), .null, .null, .int (nI 0), .null])))) H _ := w
  refine lv_aload_n hx hb dX1_init_45 rfl (lv_at hl 0 rfl) ?_
  refine lv_bipush (v := nI 20) hx hb dX1_init_46 (by decide) ?_
  refine mx_newI M w (PB p + 6) (nin_app (nin_app (nin_app (nin_app (nin_app (hfr 6 (by decide) (by decide)) (by first | omega | (unfold PB; omega) | (unfold RB; omega) | (unfold PB RB; omega))) (by first | omega | (unfold PB; omega) | (unfold RB; omega) | (unfold PB RB; omega))) (by first | omega | (unfold PB; omega) | (unfold RB; omega) | (unfold PB RB; omega))) (by first | omega | (unfold PB; omega) | (unfold RB; omega) | (unfold PB RB; omega))) (by first | omega | (unfold PB; omega) | (unfold RB; omega) | (unfold PB RB; omega))) (by decide +kernel) (n := 20) (by decide) (Nat.le_of_ble_eq_true rfl) (Nat.le_of_ble_eq_true rfl) dX1_init_48 (fun ad6 H had6 w => ?_)
  replace hq0 := hq0.trans (had6 _ (by first | omega | (unfold PB; omega) | (unfold RB; omega) | (unfold PB RB; omega))).symm
  replace hq1 := hq1.trans (had6 _ (by first | omega | (unfold PB; omega) | (unfold RB; omega) | (unfold PB RB; omega))).symm
  replace hq2 := hq2.trans (had6 _ (by first | omega | (unfold PB; omega) | (unfold RB; omega) | (unfold PB RB; omega))).symm
  replace hq3 := hq3.trans (had6 _ (by first | omega | (unfold PB; omega) | (unfold RB; omega) | (unfold PB RB; omega))).symm
  replace hq4 := hq4.trans (had6 _ (by first | omega | (unfold PB; omega) | (unfold RB; omega) | (unfold PB RB; omega))).symm
  replace hq5 := hq5.trans (had6 _ (by first | omega | (unfold PB; omega) | (unfold RB; omega) | (unfold PB RB; omega))).symm
  obtain ⟨q6, hq6⟩ : ∃ z, z = ad6 (PB p + 6) := ⟨_, rfl⟩
  rw [← hq6]
  replace w : MO D (AW (C, ad, g) sz) s.heap (((((((C ++ [(PB p + 1)]) ++ [(PB p + 2)]) ++ [(PB p + 3)]) ++ [(PB p + 4)]) ++ [(PB p + 5)]) ++ [(PB p + 6)]), ad6, (mu (mu (mu (mu (mu (mu (mu (mu (mu (mu (mu g (PB p + 1) (.inl (cy 0, 10, .inl (fun _ => nI 0)))) (PB p) (.inr (1, [.int (nI 0), .int (nI 0), .int (nI 0), .ref q1, .null, .int (nI 0), .null, .int (nI 0), .null, .null, .int (nI 0), .null, .null, .int (nI 0), .null]))) (PB p + 2) (.inl (cy 0, 10, .inl (fun _ => nI 0)))) (PB p) (.inr (1, [.int (nI 0), .int (nI 0), .int (nI 0), .ref q1, .ref q2, .int (nI 0), .null, .int (nI 0), .null, .null, .int (nI 0), .null, .null, .int (nI 0), .null]))) (PB p + 3) (.inl (cy 3, 40, .inr (.inr (.inr (.inr (fun _ => none))))))) (PB p) (.inr (1, [.int (nI 0), .int (nI 0), .int (nI 0), .ref q1, .ref q2, .int (nI 0), .ref q3, .int (nI 0), .null, .null, .int (nI 0), .null, .null, .int (nI 0), .null]))) (PB p + 4) (.inl (cy 0, 30, .inl (fun _ => nI 0)))) (PB p) (.inr (1, [.int (nI 0), .int (nI 0), .int (nI 0), .ref q1, .ref q2, .int (nI 0), .ref q3, .int (nI 0), .ref q4, .null, .int (nI 0), .null, .null, .int (nI 0), .null]))) (PB p + 5) (.inl (cy 0, 30, .inl (fun _ => nI 0)))) (PB p) (.inr (1, [.int (nI 0), .int (nI 0), .int (nI 0), .ref q1, .ref q2, .int (nI 0), .ref q3, .int (nI 0), .ref q4, .ref q5, .int (nI 0), .null, .null, .int (nI 0), .null]))) (PB p + 6) (.inl (cy 0, 20, .inl (fun _ => nI 0))))) H _ := w
  refine mx_putFq M w hq0 (in_app (in_app (in_app (in_app (in_app (in_app (hP))))))) (((mu_ne _ _ (by first | omega | (unfold PB; omega) | (unfold RB; omega) | (unfold PB RB; omega))).trans (mu_same _ _ _))) rfl inX1 tyX1 tyX1_ok nmX1 11 (by decide) f30 rfl hnm rfl (v := .ref q6) rfl rfl (Nat.le_of_ble_eq_true rfl) dX1_init_50 (fun H locs w => ?_)
  replace w : MO D (AW (C, ad, g) sz) s.heap (((((((C ++ [(PB p + 1)]) ++ [(PB p + 2)]) ++ [(PB p + 3)]) ++ [(PB p + 4)]) ++ [(PB p + 5)]) ++ [(PB p + 6)]), ad6, (mu (mu (mu (mu (mu (mu (mu (mu (mu (mu (mu (mu g (PB p + 1) (.inl (cy 0, 10, .inl (fun _ => nI 0)))) (PB p) (.inr (1, [.int (nI 0), .int (nI 0), .int (nI 0), .ref q1, .null, .int (nI 0), .null, .int (nI 0), .null, .null, .int (nI 0), .null, .null, .int (nI 0), .null]))) (PB p + 2) (.inl (cy 0, 10, .inl (fun _ => nI 0)))) (PB p) (.inr (1, [.int (nI 0), .int (nI 0), .int (nI 0), .ref q1, .ref q2, .int (nI 0), .null, .int (nI 0), .null, .null, .int (nI 0), .null, .null, .int (nI 0), .null]))) (PB p + 3) (.inl (cy 3, 40, .inr (.inr (.inr (.inr (fun _ => none))))))) (PB p) (.inr (1, [.int (nI 0), .int (nI 0), .int (nI 0), .ref q1, .ref q2, .int (nI 0), .ref q3, .int (nI 0), .null, .null, .int (nI 0), .null, .null, .int (nI 0), .null]))) (PB p + 4) (.inl (cy 0, 30, .inl (fun _ => nI 0)))) (PB p) (.inr (1, [.int (nI 0), .int (nI 0), .int (nI 0), .ref q1, .ref q2, .int (nI 0), .ref q3, .int (nI 0), .ref q4, .null, .int (nI 0), .null, .null, .int (nI 0), .null]))) (PB p + 5) (.inl (cy 0, 30, .inl (fun _ => nI 0)))) (PB p) (.inr (1, [.int (nI 0), .int (nI 0), .int (nI 0), .ref q1, .ref q2, .int (nI 0), .ref q3, .int (nI 0), .ref q4, .ref q5, .int (nI 0), .null, .null, .int (nI 0), .null]))) (PB p + 6) (.inl (cy 0, 20, .inl (fun _ => nI 0)))) (PB p) (.inr (1, [.int (nI 0), .int (nI 0), .int (nI 0), .ref q1, .ref q2, .int (nI 0), .ref q3, .int (nI 0), .ref q4, .ref q5, .int (nI 0), .ref q6, .null, .int (nI 0), .null])))) H _ := w
  refine lv_aload_n hx hb dX1_init_53 rfl (lv_at hl 0 rfl) ?_
  refine lv_bipush (v := nI 20) hx hb dX1_init_54 (by decide) ?_
  refine mx_newI M w (PB p + 7) (nin_app (nin_app (nin_app (nin_app (nin_app (nin_app (hfr 7 (by decide) (by decide)) (by first | omega | (unfold PB; omega) | (unfold RB; omega) | (unfold PB RB; omega))) (by first | omega | (unfold PB; omega) | (unfold RB; omega) | (unfold PB RB; omega))) (by first | omega | (unfold PB; omega) | (unfold RB; omega) | (unfold PB RB; omega))) (by first | omega | (unfold PB; omega) | (unfold RB; omega) | (unfold PB RB; omega))) (by first | omega | (unfold PB; omega) | (unfold RB; omega) | (unfold PB RB; omega))) (by first | omega | (unfold PB; omega) | (unfold RB; omega) | (unfold PB RB; omega))) (by decide +kernel) (n := 20) (by decide) (Nat.le_of_ble_eq_true rfl) (Nat.le_of_ble_eq_true rfl) dX1_init_56 (fun ad7 H had7 w => ?_)
  replace hq0 := hq0.trans (had7 _ (by first | omega | (unfold PB; omega) | (unfold RB; omega) | (unfold PB RB; omega))).symm
  replace hq1 := hq1.trans (had7 _ (by first | omega | (unfold PB; omega) | (unfold RB; omega) | (unfold PB RB; omega))).symm
  replace hq2 := hq2.trans (had7 _ (by first | omega | (unfold PB; omega) | (unfold RB; omega) | (unfold PB RB; omega))).symm
  replace hq3 := hq3.trans (had7 _ (by first | omega | (unfold PB; omega) | (unfold RB; omega) | (unfold PB RB; omega))).symm
  replace hq4 := hq4.trans (had7 _ (by first | omega | (unfold PB; omega) | (unfold RB; omega) | (unfold PB RB; omega))).symm
  replace hq5 := hq5.trans (had7 _ (by first | omega | (unfold PB; omega) | (unfold RB; omega) | (unfold PB RB; omega))).symm
  replace hq6 := hq6.trans (had7 _ (by first | omega | (unfold PB; omega) | (unfold RB; omega) | (unfold PB RB; omega))).symm
  obtain ⟨q7, hq7⟩ : ∃ z, z = ad7 (PB p + 7) := ⟨_, rfl⟩
  rw [← hq7]
  replace w : MO D (AW (C, ad, g) sz) s.heap ((((((((C ++ [(PB p + 1)]) ++ [(PB p + 2)]) ++ [(PB p + 3)]) ++ [(PB p + 4)]) ++ [(PB p + 5)]) ++ [(PB p + 6)]) ++ [(PB p + 7)]), ad7, (mu (mu (mu (mu (mu (mu (mu (mu (mu (mu (mu (mu (mu g (PB p + 1) (.inl (cy 0, 10, .inl (fun _ => nI 0)))) (PB p) (.inr (1, [.int (nI 0), .int (nI 0), .int (nI 0), .ref q1, .null, .int (nI 0), .null, .int (nI 0), .null, .null, .int (nI 0), .null, .null, .int (nI 0), .null]))) (PB p + 2) (.inl (cy 0, 10, .inl (fun _ => nI 0)))) (PB p) (.inr (1, [.int (nI 0), .int (nI 0), .int (nI 0), .ref q1, .ref q2, .int (nI 0), .null, .int (nI 0), .null, .null, .int (nI 0), .null, .null, .int (nI 0), .null]))) (PB p + 3) (.inl (cy 3, 40, .inr (.inr (.inr (.inr (fun _ => none))))))) (PB p) (.inr (1, [.int (nI 0), .int (nI 0), .int (nI 0), .ref q1, .ref q2, .int (nI 0), .ref q3, .int (nI 0), .null, .null, .int (nI 0), .null, .null, .int (nI 0), .null]))) (PB p + 4) (.inl (cy 0, 30, .inl (fun _ => nI 0)))) (PB p) (.inr (1, [.int (nI 0), .int (nI 0), .int (nI 0), .ref q1, .ref q2, .int (nI 0), .ref q3, .int (nI 0), .ref q4, .null, .int (nI 0), .null, .null, .int (nI 0), .null]))) (PB p + 5) (.inl (cy 0, 30, .inl (fun _ => nI 0)))) (PB p) (.inr (1, [.int (nI 0), .int (nI 0), .int (nI 0), .ref q1, .ref q2, .int (nI 0), .ref q3, .int (nI 0), .ref q4, .ref q5, .int (nI 0), .null, .null, .int (nI 0), .null]))) (PB p + 6) (.inl (cy 0, 20, .inl (fun _ => nI 0)))) (PB p) (.inr (1, [.int (nI 0), .int (nI 0), .int (nI 0), .ref q1, .ref q2, .int (nI 0), .ref q3, .int (nI 0), .ref q4, .ref q5, .int (nI 0), .ref q6, .null, .int (nI 0), .null]))) (PB p + 7) (.inl (cy 0, 20, .inl (fun _ => nI 0))))) H _ := w
  refine mx_putFq M w hq0 (in_app (in_app (in_app (in_app (in_app (in_app (in_app (hP)))))))) (((mu_ne _ _ (by first | omega | (unfold PB; omega) | (unfold RB; omega) | (unfold PB RB; omega))).trans (mu_same _ _ _))) rfl inX1 tyX1 tyX1_ok nmX1 12 (by decide) f33 rfl hnm rfl (v := .ref q7) rfl rfl (Nat.le_of_ble_eq_true rfl) dX1_init_58 (fun H locs w => ?_)
  replace w : MO D (AW (C, ad, g) sz) s.heap ((((((((C ++ [(PB p + 1)]) ++ [(PB p + 2)]) ++ [(PB p + 3)]) ++ [(PB p + 4)]) ++ [(PB p + 5)]) ++ [(PB p + 6)]) ++ [(PB p + 7)]), ad7, (mu (mu (mu (mu (mu (mu (mu (mu (mu (mu (mu (mu (mu (mu g (PB p + 1) (.inl (cy 0, 10, .inl (fun _ => nI 0)))) (PB p) (.inr (1, [.int (nI 0), .int (nI 0), .int (nI 0), .ref q1, .null, .int (nI 0), .null, .int (nI 0), .null, .null, .int (nI 0), .null, .null, .int (nI 0), .null]))) (PB p + 2) (.inl (cy 0, 10, .inl (fun _ => nI 0)))) (PB p) (.inr (1, [.int (nI 0), .int (nI 0), .int (nI 0), .ref q1, .ref q2, .int (nI 0), .null, .int (nI 0), .null, .null, .int (nI 0), .null, .null, .int (nI 0), .null]))) (PB p + 3) (.inl (cy 3, 40, .inr (.inr (.inr (.inr (fun _ => none))))))) (PB p) (.inr (1, [.int (nI 0), .int (nI 0), .int (nI 0), .ref q1, .ref q2, .int (nI 0), .ref q3, .int (nI 0), .null, .null, .int (nI 0), .null, .null, .int (nI 0), .null]))) (PB p + 4) (.inl (cy 0, 30, .inl (fun _ => nI 0)))) (PB p) (.inr (1, [.int (nI 0), .int (nI 0), .int (nI 0), .ref q1, .ref q2, .int (nI 0), .ref q3, .int (nI 0), .ref q4, .null, .int (nI 0), .null, .null, .int (nI 0), .null]))) (PB p + 5) (.inl (cy 0, 30, .inl (fun _ => nI 0)))) (PB p) (.inr (1, [.int (nI 0), .int (nI 0), .int (nI 0), .ref q1, .ref q2, .int (nI 0), .ref q3, .int (nI 0), .ref q4, .ref q5, .int (nI 0), .null, .null, .int (nI 0), .null]))) (PB p + 6) (.inl (cy 0, 20, .inl (fun _ => nI 0)))) (PB p) (.inr (1, [.int (nI 0), .int (nI 0), .int (nI 0), .ref q1, .ref q2, .int (nI 0), .ref q3, .int (nI 0), .ref q4, .ref q5, .int (nI 0), .ref q6, .null, .int (nI 0), .null]))) (PB p + 7) (.inl (cy 0, 20, .inl (fun _ => nI 0)))) (PB p) (.inr (1, [.int (nI 0), .int (nI 0), .int (nI 0), .ref q1, .ref q2, .int (nI 0), .ref q3, .int (nI 0), .ref q4, .ref q5, .int (nI 0), .ref q6, .ref q7, .int (nI 0), .null])))) H _ := w
  refine lv_aload_n hx hb dX1_init_61 rfl (lv_at hl 0 rfl) ?_
  refine lv_sipush (v := nI 3601) hx hb dX1_init_62 (by decide) ?_
  refine mx_newI M w (PB p + 8) (nin_app (nin_app (nin_app (nin_app (nin_app (nin_app (nin_app (hfr 8 (by decide) (by decide)) (by first | omega | (unfold PB; omega) | (unfold RB; omega) | (unfold PB RB; omega))) (by first | omega | (unfold PB; omega) | (unfold RB; omega) | (unfold PB RB; omega))) (by first | omega | (unfold PB; omega) | (unfold RB; omega) | (unfold PB RB; omega))) (by first | omega | (unfold PB; omega) | (unfold RB; omega) | (unfold PB RB; omega))) (by first | omega | (unfold PB; omega) | (unfold RB; omega) | (unfold PB RB; omega))) (by first | omega | (unfold PB; omega) | (unfold RB; omega) | (unfold PB RB; omega))) (by first | omega | (unfold PB; omega) | (unfold RB; omega) | (unfold PB RB; omega))) (by decide +kernel) (n := 3601) (by decide) (Nat.le_of_ble_eq_true rfl) (Nat.le_of_ble_eq_true rfl) dX1_init_65 (fun ad8 H had8 w => ?_)
  replace hq0 := hq0.trans (had8 _ (by first | omega | (unfold PB; omega) | (unfold RB; omega) | (unfold PB RB; omega))).symm
  replace hq1 := hq1.trans (had8 _ (by first | omega | (unfold PB; omega) | (unfold RB; omega) | (unfold PB RB; omega))).symm
  replace hq2 := hq2.trans (had8 _ (by first | omega | (unfold PB; omega) | (unfold RB; omega) | (unfold PB RB; omega))).symm
  replace hq3 := hq3.trans (had8 _ (by first | omega | (unfold PB; omega) | (unfold RB; omega) | (unfold PB RB; omega))).symm
  replace hq4 := hq4.trans (had8 _ (by first | omega | (unfold PB; omega) | (unfold RB; omega) | (unfold PB RB; omega))).symm
  replace hq5 := hq5.trans (had8 _ (by first | omega | (unfold PB; omega) | (unfold RB; omega) | (unfold PB RB; omega))).symm
  replace hq6 := hq6.trans (had8 _ (by first | omega | (unfold PB; omega) | (unfold RB; omega) | (unfold PB RB; omega))).symm
  replace hq7 := hq7.trans (had8 _ (by first | omega | (unfold PB; omega) | (unfold RB; omega) | (unfold PB RB; omega))).symm
  obtain ⟨q8, hq8⟩ : ∃ z, z = ad8 (PB p + 8) := ⟨_, rfl⟩
  rw [← hq8]
  replace w : MO D (AW (C, ad, g) sz) s.heap (((((((((C ++ [(PB p + 1)]) ++ [(PB p + 2)]) ++ [(PB p + 3)]) ++ [(PB p + 4)]) ++ [(PB p + 5)]) ++ [(PB p + 6)]) ++ [(PB p + 7)]) ++ [(PB p + 8)]), ad8, (mu (mu (mu (mu (mu (mu (mu (mu (mu (mu (mu (mu (mu (mu (mu g (PB p + 1) (.inl (cy 0, 10, .inl (fun _ => nI 0)))) (PB p) (.inr (1, [.int (nI 0), .int (nI 0), .int (nI 0), .ref q1, .null, .int (nI 0), .null, .int (nI 0), .null, .null, .int (nI 0), .null, .null, .int (nI 0), .null]))) (PB p + 2) (.inl (cy 0, 10, .inl (fun _ => nI 0)))) (PB p) (.inr (1, [.int (nI 0), .int (nI 0), .int (nI 0), .ref q1, .ref q2, .int (nI 0), .null, .int (nI 0), .null, .null, .int (nI 0), .null, .null, .int (nI 0), .null]))) (PB p + 3) (.inl (cy 3, 40, .inr (.inr (.inr (.inr (fun _ => none))))))) (PB p) (.inr (1, [.int (nI 0), .int (nI 0), .int (nI 0), .ref q1, .ref q2, .int (nI 0), .ref q3, .int (nI 0), .null, .null, .int (nI 0), .null, .null, .int (nI 0), .null]))) (PB p + 4) (.inl (cy 0, 30, .inl (fun _ => nI 0)))) (PB p) (.inr (1, [.int (nI 0), .int (nI 0), .int (nI 0), .ref q1, .ref q2, .int (nI 0), .ref q3, .int (nI 0), .ref q4, .null, .int (nI 0), .null, .null, .int (nI 0), .null]))) (PB p + 5) (.inl (cy 0, 30, .inl (fun _ => nI 0)))) (PB p) (.inr (1, [.int (nI 0), .int (nI 0), .int (nI 0), .ref q1, .ref q2, .int (nI 0), .ref q3, .int (nI 0), .ref q4, .ref q5, .int (nI 0), .null, .null, .int (nI 0), .null]))) (PB p + 6) (.inl (cy 0, 20, .inl (fun _ => nI 0)))) (PB p) (.inr (1, [.int (nI 0), .int (nI 0), .int (nI 0), .ref q1, .ref q2, .int (nI 0), .ref q3, .int (nI 0), .ref q4, .ref q5, .int (nI 0), .ref q6, .null, .int (nI 0), .null]))) (PB p + 7) (.inl (cy 0, 20, .inl (fun _ => nI 0)))) (PB p) (.inr (1, [.int (nI 0), .int (nI 0), .int (nI 0), .ref q1, .ref q2, .int (nI 0), .ref q3, .int (nI 0), .ref q4, .ref q5, .int (nI 0), .ref q6, .ref q7, .int (nI 0), .null]))) (PB p + 8) (.inl (cy 0, 3601, .inl (fun _ => nI 0))))) H _ := w
  refine mx_putFq M w hq0 (in_app (in_app (in_app (in_app (in_app (in_app (in_app (in_app (hP))))))))) (((mu_ne _ _ (by first | omega | (unfold PB; omega) | (unfold RB; omega) | (unfold PB RB; omega))).trans (mu_same _ _ _))) rfl inX1 tyX1 tyX1_ok nmX1 14 (by decide) f36 rfl hnm rfl (v := .ref q8) rfl rfl (Nat.le_of_ble_eq_true rfl) dX1_init_67 (fun H locs w => ?_)
  replace w : MO D (AW (C, ad, g) sz) s.heap (((((((((C ++ [(PB p + 1)]) ++ [(PB p + 2)]) ++ [(PB p + 3)]) ++ [(PB p + 4)]) ++ [(PB p + 5)]) ++ [(PB p + 6)]) ++ [(PB p + 7)]) ++ [(PB p + 8)]), ad8, (mu (mu (mu (mu (mu (mu (mu (mu (mu (mu (mu (mu (mu (mu (mu (mu g (PB p + 1) (.inl (cy 0, 10, .inl (fun _ => nI 0)))) (PB p) (.inr (1, [.int (nI 0), .int (nI 0), .int (nI 0), .ref q1, .null, .int (nI 0), .null, .int (nI 0), .null, .null, .int (nI 0), .null, .null, .int (nI 0), .null]))) (PB p + 2) (.inl (cy 0, 10, .inl (fun _ => nI 0)))) (PB p) (.inr (1, [.int (nI 0), .int (nI 0), .int (nI 0), .ref q1, .ref q2, .int (nI 0), .null, .int (nI 0), .null, .null, .int (nI 0), .null, .null, .int (nI 0), .null]))) (PB p + 3) (.inl (cy 3, 40, .inr (.inr (.inr (.inr (fun _ => none))))))) (PB p) (.inr (1, [.int (nI 0), .int (nI 0), .int (nI 0), .ref q1, .ref q2, .int (nI 0), .ref q3, .int (nI 0), .null, .null, .int (nI 0), .null, .null, .int (nI 0), .null]))) (PB p + 4) (.inl (cy 0, 30, .inl (fun _ => nI 0)))) (PB p) (.inr (1, [.int (nI 0), .int (nI 0), .int (nI 0), .ref q1, .ref q2, .int (nI 0), .ref q3, .int (nI 0), .ref q4, .null, .int (nI 0), .null, .null, .int (nI 0), .null]))) (PB p + 5) (.inl (cy 0, 30, .inl (fun _ => nI 0)))) (PB p) (.inr (1, [.int (nI 0), .int (nI 0), .int (nI 0), .ref q1, .ref q2, .int (nI 0), .ref q3, .int (nI 0), .ref q4, .ref q5, .int (nI 0), .null, .null, .int (nI 0), .null]))) (PB p + 6) (.inl (cy 0, 20, .inl (fun _ => nI 0)))) (PB p) (.inr (1, [.int (nI 0), .int (nI 0), .int (nI 0), .ref q1, .ref q2, .int (nI 0), .ref q3, .int (nI 0), .ref q4, .ref q5, .int (nI 0), .ref q6, .null, .int (nI 0), .null]))) (PB p + 7) (.inl (cy 0, 20, .inl (fun _ => nI 0)))) (PB p) (.inr (1, [.int (nI 0), .int (nI 0), .int (nI 0), .ref q1, .ref q2, .int (nI 0), .ref q3, .int (nI 0), .ref q4, .ref q5, .int (nI 0), .ref q6, .ref q7, .int (nI 0), .null]))) (PB p + 8) (.inl (cy 0, 3601, .inl (fun _ => nI 0)))) (PB p) (.inr (1, [.int (nI 0), .int (nI 0), .int (nI 0), .ref q1, .ref q2, .int (nI 0), .ref q3, .int (nI 0), .ref q4, .ref q5, .int (nI 0), .ref q6, .ref q7, .int (nI 0), .ref q8])))) H _ := w
  refine lv_aload_n hx hb dX1_init_70 rfl (lv_at hl 0 rfl) ?_
  refine lv_iload_n hx hb dX1_init_71 rfl (lv_at hl 1 rfl) ?_
  refine mx_putFq M w hq0 (in_app (in_app (in_app (in_app (in_app (in_app (in_app (in_app (hP))))))))) ((mu_same _ _ _)) rfl inX1 tyX1 tyX1_ok nmX1 0 (by decide) f39 rfl hnm rfl (v := .int (nI a)) rfl rfl (Nat.le_of_ble_eq_true rfl) dX1_init_72 (fun H locs w => ?_)
  replace w : MO D (AW (C, ad, g) sz) s.heap (((((((((C ++ [(PB p + 1)]) ++ [(PB p + 2)]) ++ [(PB p + 3)]) ++ [(PB p + 4)]) ++ [(PB p + 5)]) ++ [(PB p + 6)]) ++ [(PB p + 7)]) ++ [(PB p + 8)]), ad8, (mu (mu (mu (mu (mu (mu (mu (mu (mu (mu (mu (mu (mu (mu (mu (mu (mu g (PB p + 1) (.inl (cy 0, 10, .inl (fun _ => nI 0)))) (PB p) (.inr (1, [.int (nI 0), .int (nI 0), .int (nI 0), .ref q1, .null, .int (nI 0), .null, .int (nI 0), .null, .null, .int (nI 0), .null, .null, .int (nI 0), .null]))) (PB p + 2) (.inl (cy 0, 10, .inl (fun _ => nI 0)))) (PB p) (.inr (1, [.int (nI 0), .int (nI 0), .int (nI 0), .ref q1, .ref q2, .int (nI 0), .null, .int (nI 0), .null, .null, .int (nI 0), .null, .null, .int (nI 0), .null]))) (PB p + 3) (.inl (cy 3, 40, .inr (.inr (.inr (.inr (fun _ => none))))))) (PB p) (.inr (1, [.int (nI 0), .int (nI 0), .int (nI 0), .ref q1, .ref q2, .int (nI 0), .ref q3, .int (nI 0), .null, .null, .int (nI 0), .null, .null, .int (nI 0), .null]))) (PB p + 4) (.inl (cy 0, 30, .inl (fun _ => nI 0)))) (PB p) (.inr (1, [.int (nI 0), .int (nI 0), .int (nI 0), .ref q1, .ref q2, .int (nI 0), .ref q3, .int (nI 0), .ref q4, .null, .int (nI 0), .null, .null, .int (nI 0), .null]))) (PB p + 5) (.inl (cy 0, 30, .inl (fun _ => nI 0)))) (PB p) (.inr (1, [.int (nI 0), .int (nI 0), .int (nI 0), .ref q1, .ref q2, .int (nI 0), .ref q3, .int (nI 0), .ref q4, .ref q5, .int (nI 0), .null, .null, .int (nI 0), .null]))) (PB p + 6) (.inl (cy 0, 20, .inl (fun _ => nI 0)))) (PB p) (.inr (1, [.int (nI 0), .int (nI 0), .int (nI 0), .ref q1, .ref q2, .int (nI 0), .ref q3, .int (nI 0), .ref q4, .ref q5, .int (nI 0), .ref q6, .null, .int (nI 0), .null]))) (PB p + 7) (.inl (cy 0, 20, .inl (fun _ => nI 0)))) (PB p) (.inr (1, [.int (nI 0), .int (nI 0), .int (nI 0), .ref q1, .ref q2, .int (nI 0), .ref q3, .int (nI 0), .ref q4, .ref q5, .int (nI 0), .ref q6, .ref q7, .int (nI 0), .null]))) (PB p + 8) (.inl (cy 0, 3601, .inl (fun _ => nI 0)))) (PB p) (.inr (1, [.int (nI 0), .int (nI 0), .int (nI 0), .ref q1, .ref q2, .int (nI 0), .ref q3, .int (nI 0), .ref q4, .ref q5, .int (nI 0), .ref q6, .ref q7, .int (nI 0), .ref q8]))) (PB p) (.inr (1, [.int (nI a), .int (nI 0), .int (nI 0), .ref q1, .ref q2, .int (nI 0), .ref q3, .int (nI 0), .ref q4, .ref q5, .int (nI 0), .ref q6, .ref q7, .int (nI 0), .ref q8])))) H _ := w
  refine lv_aload_n hx hb dX1_init_75 rfl (lv_at hl 0 rfl) ?_
  refine lv_iload_n hx hb dX1_init_76 rfl (lv_at hl 2 rfl) ?_
  refine mx_putFq M w hq0 (in_app (in_app (in_app (in_app (in_app (in_app (in_app (in_app (hP))))))))) ((mu_same _ _ _)) rfl inX1 tyX1 tyX1_ok nmX1 1 (by decide) f43 rfl hnm rfl (v := .int (nI b)) rfl rfl (Nat.le_of_ble_eq_true rfl) dX1_init_77 (fun H locs w => ?_)
  replace w : MO D (AW (C, ad, g) sz) s.heap (((((((((C ++ [(PB p + 1)]) ++ [(PB p + 2)]) ++ [(PB p + 3)]) ++ [(PB p + 4)]) ++ [(PB p + 5)]) ++ [(PB p + 6)]) ++ [(PB p + 7)]) ++ [(PB p + 8)]), ad8, (mu (mu (mu (mu (mu (mu (mu (mu (mu (mu (mu (mu (mu (mu (mu (mu (mu (mu g (PB p + 1) (.inl (cy 0, 10, .inl (fun _ => nI 0)))) (PB p) (.inr (1, [.int (nI 0), .int (nI 0), .int (nI 0), .ref q1, .null, .int (nI 0), .null, .int (nI 0), .null, .null, .int (nI 0), .null, .null, .int (nI 0), .null]))) (PB p + 2) (.inl (cy 0, 10, .inl (fun _ => nI 0)))) (PB p) (.inr (1, [.int (nI 0), .int (nI 0), .int (nI 0), .ref q1, .ref q2, .int (nI 0), .null, .int (nI 0), .null, .null, .int (nI 0), .null, .null, .int (nI 0), .null]))) (PB p + 3) (.inl (cy 3, 40, .inr (.inr (.inr (.inr (fun _ => none))))))) (PB p) (.inr (1, [.int (nI 0), .int (nI 0), .int (nI 0), .ref q1, .ref q2, .int (nI 0), .ref q3, .int (nI 0), .null, .null, .int (nI 0), .null, .null, .int (nI 0), .null]))) (PB p + 4) (.inl (cy 0, 30, .inl (fun _ => nI 0)))) (PB p) (.inr (1, [.int (nI 0), .int (nI 0), .int (nI 0), .ref q1, .ref q2, .int (nI 0), .ref q3, .int (nI 0), .ref q4, .null, .int (nI 0), .null, .null, .int (nI 0), .null]))) (PB p + 5) (.inl (cy 0, 30, .inl (fun _ => nI 0)))) (PB p) (.inr (1, [.int (nI 0), .int (nI 0), .int (nI 0), .ref q1, .ref q2, .int (nI 0), .ref q3, .int (nI 0), .ref q4, .ref q5, .int (nI 0), .null, .null, .int (nI 0), .null]))) (PB p + 6) (.inl (cy 0, 20, .inl (fun _ => nI 0)))) (PB p) (.inr (1, [.int (nI 0), .int (nI 0), .int (nI 0), .ref q1, .ref q2, .int (nI 0), .ref q3, .int (nI 0), .ref q4, .ref q5, .int (nI 0), .ref q6, .null, .int (nI 0), .null]))) (PB p + 7) (.inl (cy 0, 20, .inl (fun _ => nI 0)))) (PB p) (.inr (1, [.int (nI 0), .int (nI 0), .int (nI 0), .ref q1, .ref q2, .int (nI 0), .ref q3, .int (nI 0), .ref q4, .ref q5, .int (nI 0), .ref q6, .ref q7, .int (nI 0), .null]))) (PB p + 8) (.inl (cy 0, 3601, .inl (fun _ => nI 0)))) (PB p) (.inr (1, [.int (nI 0), .int (nI 0), .int (nI 0), .ref q1, .ref q2, .int (nI 0), .ref q3, .int (nI 0), .ref q4, .ref q5, .int (nI 0), .ref q6, .ref q7, .int (nI 0), .ref q8]))) (PB p) (.inr (1, [.int (nI a), .int (nI 0), .int (nI 0), .ref q1, .ref q2, .int (nI 0), .ref q3, .int (nI 0), .ref q4, .ref q5, .int (nI 0), .ref q6, .ref q7, .int (nI 0), .ref q8]))) (PB p) (.inr (1, [.int (nI a), .int (nI b), .int (nI 0), .ref q1, .ref q2, .int (nI 0), .ref q3, .int (nI 0), .ref q4, .ref q5, .int (nI 0), .ref q6, .ref q7, .int (nI 0), .ref q8])))) H _ := w
  refine lv_aload_n hx hb dX1_init_80 rfl (lv_at hl 0 rfl) ?_
  refine lv_iload_n hx hb dX1_init_81 rfl (lv_at hl 3 rfl) ?_
  refine mx_putFq M w hq0 (in_app (in_app (in_app (in_app (in_app (in_app (in_app (in_app (hP))))))))) ((mu_same _ _ _)) rfl inX1 tyX1 tyX1_ok nmX1 2 (by decide) f46 rfl hnm rfl (v := .int (nI h)) rfl rfl (Nat.le_of_ble_eq_true rfl) dX1_init_82 (fun H locs w => ?_)
  replace w : MO D (AW (C, ad, g) sz) s.heap (((((((((C ++ [(PB p + 1)]) ++ [(PB p + 2)]) ++ [(PB p + 3)]) ++ [(PB p + 4)]) ++ [(PB p + 5)]) ++ [(PB p + 6)]) ++ [(PB p + 7)]) ++ [(PB p + 8)]), ad8, (mu (mu (mu (mu (mu (mu (mu (mu (mu (mu (mu (mu (mu (mu (mu (mu (mu (mu (mu g (PB p + 1) (.inl (cy 0, 10, .inl (fun _ => nI 0)))) (PB p) (.inr (1, [.int (nI 0), .int (nI 0), .int (nI 0), .ref q1, .null, .int (nI 0), .null, .int (nI 0), .null, .null, .int (nI 0), .null, .null, .int (nI 0), .null]))) (PB p + 2) (.inl (cy 0, 10, .inl (fun _ => nI 0)))) (PB p) (.inr (1, [.int (nI 0), .int (nI 0), .int (nI 0), .ref q1, .ref q2, .int (nI 0), .null, .int (nI 0), .null, .null, .int (nI 0), .null, .null, .int (nI 0), .null]))) (PB p + 3) (.inl (cy 3, 40, .inr (.inr (.inr (.inr (fun _ => none))))))) (PB p) (.inr (1, [.int (nI 0), .int (nI 0), .int (nI 0), .ref q1, .ref q2, .int (nI 0), .ref q3, .int (nI 0), .null, .null, .int (nI 0), .null, .null, .int (nI 0), .null]))) (PB p + 4) (.inl (cy 0, 30, .inl (fun _ => nI 0)))) (PB p) (.inr (1, [.int (nI 0), .int (nI 0), .int (nI 0), .ref q1, .ref q2, .int (nI 0), .ref q3, .int (nI 0), .ref q4, .null, .int (nI 0), .null, .null, .int (nI 0), .null]))) (PB p + 5) (.inl (cy 0, 30, .inl (fun _ => nI 0)))) (PB p) (.inr (1, [.int (nI 0), .int (nI 0), .int (nI 0), .ref q1, .ref q2, .int (nI 0), .ref q3, .int (nI 0), .ref q4, .ref q5, .int (nI 0), .null, .null, .int (nI 0), .null]))) (PB p + 6) (.inl (cy 0, 20, .inl (fun _ => nI 0)))) (PB p) (.inr (1, [.int (nI 0), .int (nI 0), .int (nI 0), .ref q1, .ref q2, .int (nI 0), .ref q3, .int (nI 0), .ref q4, .ref q5, .int (nI 0), .ref q6, .null, .int (nI 0), .null]))) (PB p + 7) (.inl (cy 0, 20, .inl (fun _ => nI 0)))) (PB p) (.inr (1, [.int (nI 0), .int (nI 0), .int (nI 0), .ref q1, .ref q2, .int (nI 0), .ref q3, .int (nI 0), .ref q4, .ref q5, .int (nI 0), .ref q6, .ref q7, .int (nI 0), .null]))) (PB p + 8) (.inl (cy 0, 3601, .inl (fun _ => nI 0)))) (PB p) (.inr (1, [.int (nI 0), .int (nI 0), .int (nI 0), .ref q1, .ref q2, .int (nI 0), .ref q3, .int (nI 0), .ref q4, .ref q5, .int (nI 0), .ref q6, .ref q7, .int (nI 0), .ref q8]))) (PB p) (.inr (1, [.int (nI a), .int (nI 0), .int (nI 0), .ref q1, .ref q2, .int (nI 0), .ref q3, .int (nI 0), .ref q4, .ref q5, .int (nI 0), .ref q6, .ref q7, .int (nI 0), .ref q8]))) (PB p) (.inr (1, [.int (nI a), .int (nI b), .int (nI 0), .ref q1, .ref q2, .int (nI 0), .ref q3, .int (nI 0), .ref q4, .ref q5, .int (nI 0), .ref q6, .ref q7, .int (nI 0), .ref q8]))) (PB p) (.inr (1, [.int (nI a), .int (nI b), .int (nI h), .ref q1, .ref q2, .int (nI 0), .ref q3, .int (nI 0), .ref q4, .ref q5, .int (nI 0), .ref q6, .ref q7, .int (nI 0), .ref q8])))) H _ := w
  exact mx_vret M w hr ⟨ad8, _, fun c hc => (had8 c (hc 8 (by decide) (by decide))).trans ((had7 c (hc 7 (by decide) (by decide))).trans ((had6 c (hc 6 (by decide) (by decide))).trans ((had5 c (hc 5 (by decide) (by decide))).trans ((had4 c (hc 4 (by decide) (by decide))).trans ((had3 c (hc 3 (by decide) (by decide))).trans ((had2 c (hc 2 (by decide) (by decide))).trans ((had1 c (hc 1 (by decide) (by decide)))))))))), fun c hc => (mu_ne _ _ (hc 0 (by decide))).trans ((mu_ne _ _ (hc 0 (by decide))).trans ((mu_ne _ _ (hc 0 (by decide))).trans ((mu_ne _ _ (hc 0 (by decide))).trans ((mu_ne _ _ (hc 8 (by decide))).trans ((mu_ne _ _ (hc 0 (by decide))).trans ((mu_ne _ _ (hc 7 (by decide))).trans ((mu_ne _ _ (hc 0 (by decide))).trans ((mu_ne _ _ (hc 6 (by decide))).trans ((mu_ne _ _ (hc 0 (by decide))).trans ((mu_ne _ _ (hc 5 (by decide))).trans ((mu_ne _ _ (hc 0 (by decide))).trans ((mu_ne _ _ (hc 4 (by decide))).trans ((mu_ne _ _ (hc 0 (by decide))).trans ((mu_ne _ _ (hc 3 (by decide))).trans ((mu_ne _ _ (hc 0 (by decide))).trans ((mu_ne _ _ (hc 2 (by decide))).trans ((mu_ne _ _ (hc 0 (by decide))).trans ((mu_ne _ _ (hc 1 (by decide))))))))))))))))))))), k9 (((mu_same _ _ _)).trans (by rw [hq1, hq2, hq3, hq4, hq5, hq6, hq7, hq8]; exact (sh_P0 cy ad8 (pnE a b h 0) hp).symm)) ((((mu_ne _ _ (by first | omega | (unfold PB; omega) | (unfold RB; omega) | (unfold PB RB; omega))).trans ((mu_ne _ _ (by first | omega | (unfold PB; omega) | (unfold RB; omega) | (unfold PB RB; omega))).trans ((mu_ne _ _ (by first | omega | (unfold PB; omega) | (unfold RB; omega) | (unfold PB RB; omega))).trans ((mu_ne _ _ (by first | omega | (unfold PB; omega) | (unfold RB; omega) | (unfold PB RB; omega))).trans ((mu_ne _ _ (by first | omega | (unfold PB; omega) | (unfold RB; omega) | (unfold PB RB; omega))).trans ((mu_ne _ _ (by first | omega | (unfold PB; omega) | (unfold RB; omega) | (unfold PB RB; omega))).trans ((mu_ne _ _ (by first | omega | (unfold PB; omega) | (unfold RB; omega) | (unfold PB RB; omega))).trans ((mu_ne _ _ (by first | omega | (unfold PB; omega) | (unfold RB; omega) | (unfold PB RB; omega))).trans ((mu_ne _ _ (by first | omega | (unfold PB; omega) | (unfold RB; omega) | (unfold PB RB; omega))).trans ((mu_ne _ _ (by first | omega | (unfold PB; omega) | (unfold RB; omega) | (unfold PB RB; omega))).trans ((mu_ne _ _ (by first | omega | (unfold PB; omega) | (unfold RB; omega) | (unfold PB RB; omega))).trans ((mu_ne _ _ (by first | omega | (unfold PB; omega) | (unfold RB; omega) | (unfold PB RB; omega))).trans ((mu_ne _ _ (by first | omega | (unfold PB; omega) | (unfold RB; omega) | (unfold PB RB; omega))).trans ((mu_ne _ _ (by first | omega | (unfold PB; omega) | (unfold RB; omega) | (unfold PB RB; omega))).trans ((mu_ne _ _ (by first | omega | (unfold PB; omega) | (unfold RB; omega) | (unfold PB RB; omega))).trans ((mu_ne _ _ (by first | omega | (unfold PB; omega) | (unfold RB; omega) | (unfold PB RB; omega))).trans ((mu_ne _ _ (by first | omega | (unfold PB; omega) | (unfold RB; omega) | (unfold PB RB; omega))).trans ((mu_ne _ _ (by first | omega | (unfold PB; omega) | (unfold RB; omega) | (unfold PB RB; omega))).trans (mu_same _ _ _)))))))))))))))))))).trans (by rw [sh_P1 cy _ _ hp]; rfl)) ((((mu_ne _ _ (by first | omega | (unfold PB; omega) | (unfold RB; omega) | (unfold PB RB; omega))).trans ((mu_ne _ _ (by first | omega | (unfold PB; omega) | (unfold RB; omega) | (unfold PB RB; omega))).trans ((mu_ne _ _ (by first | omega | (unfold PB; omega) | (unfold RB; omega) | (unfold PB RB; omega))).trans ((mu_ne _ _ (by first | omega | (unfold PB; omega) | (unfold RB; omega) | (unfold PB RB; omega))).trans ((mu_ne _ _ (by first | omega | (unfold PB; omega) | (unfold RB; omega) | (unfold PB RB; omega))).trans ((mu_ne _ _ (by first | omega | (unfold PB; omega) | (unfold RB; omega) | (unfold PB RB; omega))).trans ((mu_ne _ _ (by first | omega | (unfold PB; omega) | (unfold RB; omega) | (unfold PB RB; omega))).trans ((mu_ne _ _ (by first | omega | (unfold PB; omega) | (unfold RB; omega) | (unfold PB RB; omega))).trans ((mu_ne _ _ (by first | omega | (unfold PB; omega) | (unfold RB; omega) | (unfold PB RB; omega))).trans ((mu_ne _ _ (by first | omega | (unfold PB; omega) | (unfold RB; omega) | (unfold PB RB; omega))).trans ((mu_ne _ _ (by first | omega | (unfold PB; omega) | (unfold RB; omega) | (unfold PB RB; omega))).trans ((mu_ne _ _ (by first | omega | (unfold PB; omega) | (unfold RB; omega) | (unfold PB RB; omega))).trans ((mu_ne _ _ (by first | omega | (unfold PB; omega) | (unfold RB; omega) | (unfold PB RB; omega))).trans ((mu_ne _ _ (by first | omega | (unfold PB; omega) | (unfold RB; omega) | (unfold PB RB; omega))).trans ((mu_ne _ _ (by first | omega | (unfold PB; omega) | (unfold RB; omega) | (unfold PB RB; omega))).trans ((mu_ne _ _ (by first | omega | (unfold PB; omega) | (unfold RB; omega) | (unfold PB RB; omega))).trans (mu_same _ _ _)))))))))))))))))).trans (by rw [sh_P2 cy _ _ hp]; rfl)) ((((mu_ne _ _ (by first | omega | (unfold PB; omega) | (unfold RB; omega) | (unfold PB RB; omega))).trans ((mu_ne _ _ (by first | omega | (unfold PB; omega) | (unfold RB; omega) | (unfold PB RB; omega))).trans ((mu_ne _ _ (by first | omega | (unfold PB; omega) | (unfold RB; omega) | (unfold PB RB; omega))).trans ((mu_ne _ _ (by first | omega | (unfold PB; omega) | (unfold RB; omega) | (unfold PB RB; omega))).trans ((mu_ne _ _ (by first | omega | (unfold PB; omega) | (unfold RB; omega) | (unfold PB RB; omega))).trans ((mu_ne _ _ (by first | omega | (unfold PB; omega) | (unfold RB; omega) | (unfold PB RB; omega))).trans ((mu_ne _ _ (by first | omega | (unfold PB; omega) | (unfold RB; omega) | (unfold PB RB; omega))).trans ((mu_ne _ _ (by first | omega | (unfold PB; omega) | (unfold RB; omega) | (unfold PB RB; omega))).trans ((mu_ne _ _ (by first | omega | (unfold PB; omega) | (unfold RB; omega) | (unfold PB RB; omega))).trans ((mu_ne _ _ (by first | omega | (unfold PB; omega) | (unfold RB; omega) | (unfold PB RB; omega))).trans ((mu_ne _ _ (by first | omega | (unfold PB; omega) | (unfold RB; omega) | (unfold PB RB; omega))).trans ((mu_ne _ _ (by first | omega | (unfold PB; omega) | (unfold RB; omega) | (unfold PB RB; omega))).trans ((mu_ne _ _ (by first | omega | (unfold PB; omega) | (unfold RB; omega) | (unfold PB RB; omega))).trans ((mu_ne _ _ (by first | omega | (unfold PB; omega) | (unfold RB; omega) | (unfold PB RB; omega))).trans (mu_same _ _ _)))))))))))))))).trans (by rw [sh_P3 cy _ _ hp]; rfl)) ((((mu_ne _ _ (by first | omega | (unfold PB; omega) | (unfold RB; omega) | (unfold PB RB; omega))).trans ((mu_ne _ _ (by first | omega | (unfold PB; omega) | (unfold RB; omega) | (unfold PB RB; omega))).trans ((mu_ne _ _ (by first | omega | (unfold PB; omega) | (unfold RB; omega) | (unfold PB RB; omega))).trans ((mu_ne _ _ (by first | omega | (unfold PB; omega) | (unfold RB; omega) | (unfold PB RB; omega))).trans ((mu_ne _ _ (by first | omega | (unfold PB; omega) | (unfold RB; omega) | (unfold PB RB; omega))).trans ((mu_ne _ _ (by first | omega | (unfold PB; omega) | (unfold RB; omega) | (unfold PB RB; omega))).trans ((mu_ne _ _ (by first | omega | (unfold PB; omega) | (unfold RB; omega) | (unfold PB RB; omega))).trans ((mu_ne _ _ (by first | omega | (unfold PB; omega) | (unfold RB; omega) | (unfold PB RB; omega))).trans ((mu_ne _ _ (by first | omega | (unfold PB; omega) | (unfold RB; omega) | (unfold PB RB; omega))).trans ((mu_ne _ _ (by first | omega | (unfold PB; omega) | (unfold RB; omega) | (unfold PB RB; omega))).trans ((mu_ne _ _ (by first | omega | (unfold PB; omega) | (unfold RB; omega) | (unfold PB RB; omega))).trans ((mu_ne _ _ (by first | omega | (unfold PB; omega) | (unfold RB; omega) | (unfold PB RB; omega))).trans (mu_same _ _ _)))))))))))))).trans (by rw [sh_P4 cy _ _ hp]; rfl)) ((((mu_ne _ _ (by first | omega | (unfold PB; omega) | (unfold RB; omega) | (unfold PB RB; omega))).trans ((mu_ne _ _ (by first | omega | (unfold PB; omega) | (unfold RB; omega) | (unfold PB RB; omega))).trans ((mu_ne _ _ (by first | omega | (unfold PB; omega) | (unfold RB; omega) | (unfold PB RB; omega))).trans ((mu_ne _ _ (by first | omega | (unfold PB; omega) | (unfold RB; omega) | (unfold PB RB; omega))).trans ((mu_ne _ _ (by first | omega | (unfold PB; omega) | (unfold RB; omega) | (unfold PB RB; omega))).trans ((mu_ne _ _ (by first | omega | (unfold PB; omega) | (unfold RB; omega) | (unfold PB RB; omega))).trans ((mu_ne _ _ (by first | omega | (unfold PB; omega) | (unfold RB; omega) | (unfold PB RB; omega))).trans ((mu_ne _ _ (by first | omega | (unfold PB; omega) | (unfold RB; omega) | (unfold PB RB; omega))).trans ((mu_ne _ _ (by first | omega | (unfold PB; omega) | (unfold RB; omega) | (unfold PB RB; omega))).trans ((mu_ne _ _ (by first | omega | (unfold PB; omega) | (unfold RB; omega) | (unfold PB RB; omega))).trans (mu_same _ _ _)))))))))))).trans (by rw [sh_P5 cy _ _ hp]; rfl)) ((((mu_ne _ _ (by first | omega | (unfold PB; omega) | (unfold RB; omega) | (unfold PB RB; omega))).trans ((mu_ne _ _ (by first | omega | (unfold PB; omega) | (unfold RB; omega) | (unfold PB RB; omega))).trans ((mu_ne _ _ (by first | omega | (unfold PB; omega) | (unfold RB; omega) | (unfold PB RB; omega))).trans ((mu_ne _ _ (by first | omega | (unfold PB; omega) | (unfold RB; omega) | (unfold PB RB; omega))).trans ((mu_ne _ _ (by first | omega | (unfold PB; omega) | (unfold RB; omega) | (unfold PB RB; omega))).trans ((mu_ne _ _ (by first | omega | (unfold PB; omega) | (unfold RB; omega) | (unfold PB RB; omega))).trans ((mu_ne _ _ (by first | omega | (unfold PB; omega) | (unfold RB; omega) | (unfold PB RB; omega))).trans ((mu_ne _ _ (by first | omega | (unfold PB; omega) | (unfold RB; omega) | (unfold PB RB; omega))).trans (mu_same _ _ _)))))))))).trans (by rw [sh_P6 cy _ _ hp]; rfl)) ((((mu_ne _ _ (by first | omega | (unfold PB; omega) | (unfold RB; omega) | (unfold PB RB; omega))).trans ((mu_ne _ _ (by first | omega | (unfold PB; omega) | (unfold RB; omega) | (unfold PB RB; omega))).trans ((mu_ne _ _ (by first | omega | (unfold PB; omega) | (unfold RB; omega) | (unfold PB RB; omega))).trans ((mu_ne _ _ (by first | omega | (unfold PB; omega) | (unfold RB; omega) | (unfold PB RB; omega))).trans ((mu_ne _ _ (by first | omega | (unfold PB; omega) | (unfold RB; omega) | (unfold PB RB; omega))).trans ((mu_ne _ _ (by first | omega | (unfold PB; omega) | (unfold RB; omega) | (unfold PB RB; omega))).trans (mu_same _ _ _)))))))).trans (by rw [sh_P7 cy _ _ hp]; rfl)) ((((mu_ne _ _ (by first | omega | (unfold PB; omega) | (unfold RB; omega) | (unfold PB RB; omega))).trans ((mu_ne _ _ (by first | omega | (unfold PB; omega) | (unfold RB; omega) | (unfold PB RB; omega))).trans ((mu_ne _ _ (by first | omega | (unfold PB; omega) | (unfold RB; omega) | (unfold PB RB; omega))).trans ((mu_ne _ _ (by first | omega | (unfold PB; omega) | (unfold RB; omega) | (unfold PB RB; omega))).trans (mu_same _ _ _)))))).trans (by rw [sh_P8 cy _ _ hp]; rfl)), rfl⟩ (by decide) (by decide) dX1_init_85
end
