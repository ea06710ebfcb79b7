/-! THE CLAIM OUT OF ONE WALK OF THE LAW'S BODY. Your part is whole_start (and what it stands on); all else here is the same for every law, but numbers. -/
def R_law : String := "LeavebankLaw"
def lw_P (b : Addr) (xs : List Int32) (args : Array Value) (s : State) : Prop := args = #[.ref b] ∧ s.IntsAt b xs ∧ xs.length ≤ 260 ∧ (Jvm.Cond.and given_1 narrow_1).before args s = true
def lw_Q (_ : Array Value) (s : State) (o : Outcome) (t : State) : Prop := o = .returned (some (.int 1)) ∧ Framed s o t [] 600104 7301314
def lw_Z (below : List Frame) (a : Array Value) (s : State) : State → Prop := fun t => ∃ o, t.status = .running ∧ Ended t below o ∧ lw_Q a s o t
/-- the law's own end, with 1 on the stack, nothing written that was there before, its room as the claim has it -/
theorem lw_ret {p : Program} {l : Launch} {e : Env} {s : State} {m : MethodId} {below : List Frame} {meth : Method} {c : Code} {b : Nat} (hx : p.tables.exec = Jvm.exec) (hb : c.code = code) (hr : meth.sig.returnType = ret) (hlocks : meth.locks = false) {pc : Nat} {H : Heap} {ls : Array Slot} (hdg : decode code pc = .ok (.ireturn, 1)) : W p l e room_1 s m #[Value.ref b] below meth c H [] 600104 7301314 (lw_Z below #[Value.ref b] s) (F0 m pc ls [.int 1]) := by
  intro T hT X
  obtain ⟨fs, hret, hrun, hended, hW, hframe⟩ := X.leave (v := some (.int 1)) (hlocks := hlocks) (fun h => by rw [hr] at h; cases h)
  have hmeth' : T.vm.method? m = some meth := X.method'
  refine ⟨T.setFrames fs, ?_, .returned (some (.int 1)), hrun, hended, rfl, ⟨_, rfl⟩, hW, hframe⟩
  jvm_step X.here [X.here.top, hx, hb, hdg, hmeth', hr, ret, narrow_b1]
  (try refine ⟨rfl, ?_⟩); (try refine ⟨rfl, ?_⟩)
  first | (intro acts; rw [hret _ acts rfl rfl rfl]) | rw [hret _ _ rfl rfl rfl]
  exact Steps.refl _
/-- what holds at the law's entry: the machine, the code, the tables' words (any of lw_tbl by 'hts w (by decide +kernel)'), the script of L ints xs at the cell b, what the Statement gives of the start (any of its parts by flat_of_before) -/
def lw_At (p : Program) (s : State) (m : MethodId) (meth : Method) (c : Code) (b L : Nat) (xs : Nat → Int32) : Prop :=
  p.tables.exec = Jvm.exec ∧ c.code = code ∧ meth.sig.returnType = ret ∧ c.maxLocals = 17 ∧ s.vm.findClass R_law = some m.cls ∧ (∀ w ∈ lw_tbl, w.before #[Value.ref b] s = true) ∧ va_X b L xs s s.heap ∧ b < s.heap.size ∧ meth.locks = false ∧ (Jvm.Cond.and given_1 narrow_1).before #[Value.ref b] s = true
/-! ===== what holds at the law's entry ===== -/
theorem la_prim {args : Array Value} {s : State} {ty : FieldType} (h : (Cond.arrayClass ty).before args s = true) : ∃ cA : ClassId, ArrOfT s cA ty ∧ s.vm.findClass ("[" ++ ty.toString) = some cA := by
  obtain ⟨cA, kA, comp, h1, h2, h3⟩ := Cond.arrayClass_spec h
  exact ⟨cA, fun n z => ⟨fun k h => (by cases h), kA, h2, comp, h3⟩, h1⟩
theorem la_obj {args : Array Value} {s : State} {CN : String} (h : (Cond.arrayOver (.object CN)).before args s = true) : ∃ cA : ClassId, ArrOfT s cA (.object CN) ∧ va_RA s cA (.object CN) := by
  obtain ⟨comp, cA, kA, h1, h2, h3, h4, h5⟩ := Cond.arrayOver_spec h
  exact ⟨cA, fun n z => ⟨fun k h => (by cases h), kA, h3, comp, h4⟩, kA, comp, h3, h4, h1, h5⟩
theorem la_K {args : Array Value} {s : State} (hts : ∀ w ∈ lw_tbl, w.before args s = true) : ∃ (D : va_G) (cy : Nat → ClassId), KK D cy s := by
  obtain ⟨c0, i0, k0⟩ := u_known (C := RX0) (T := TX0) (N := 11) (n := 11) hts inX0 (hts (.instantiable RX0 11) (List.mem_of_getElem? (i := 37) (by decide +kernel)))
  obtain ⟨c1, i1, k1⟩ := u_known (C := RX1) (T := TX1) (N := 15) (n := 15) hts inX1 (hts (.instantiable RX1 15) (List.mem_of_getElem? (i := 200) (by decide +kernel)))
  obtain ⟨c2, i2, k2⟩ := u_known (C := RX2) (T := TX2) (N := 5) (n := 5) hts inX2 (hts (.instantiable RX2 5) (List.mem_of_getElem? (i := 326) (by decide +kernel)))
  obtain ⟨c3, i3, k3⟩ := u_known (C := RX3) (T := TX3) (N := 8) (n := 8) hts inX3 (hts (.instantiable RX3 8) (List.mem_of_getElem? (i := 25) (by decide +kernel)))
  obtain ⟨a0, p0, q0⟩ := la_prim (ty := .int) (hts (.arrayClass .int) (List.mem_of_getElem? (i := 82) (by decide +kernel)))
  obtain ⟨a2, p2, q2⟩ := la_obj (CN := RX1) (hts (.arrayOver (.object RX1)) (List.mem_of_getElem? (i := 33) (by decide +kernel)))
  obtain ⟨a3, p3, q3⟩ := la_obj (CN := RX2) (hts (.arrayOver (.object RX2)) (List.mem_of_getElem? (i := 35) (by decide +kernel)))
  refine ⟨(fun k => match k with | 0 => c0 | 1 => c1 | 2 => c2 | _ => c3, fun k => match k with | 0 => i0 | 1 => i1 | 2 => i2 | _ => i3), (fun k => match k with | 0 => a0 | 1 => a0 | 2 => a2 | _ => a3), ?_, ?_⟩
  · intro k q hq
    match k, hq with
    | 0, hq => cases hq; exact k0
    | 1, hq => cases hq; exact k1
    | 2, hq => cases hq; exact k2
    | 3, hq => cases hq; exact k3
    | k + 4, hq => simp [vwCl] at hq
  · intro k q hq
    match k, hq with
    | 0, hq => cases hq; exact ⟨p0, q0⟩
    | 1, hq => cases hq; exact ⟨p0, q0⟩
    | 2, hq => cases hq; exact ⟨p2, q2⟩
    | 3, hq => cases hq; exact ⟨p3, q3⟩
    | k + 4, hq => simp [ctys] at hq
theorem la_NW {args : Array Value} {s : State} (hts : ∀ w ∈ lw_tbl, w.before args s = true) : NW s := ⟨va_Nw.of rfl (hts (.methodLinkNest RX1 79 yX3_isWorkingDay RX3) (List.mem_of_getElem? (i := 369) (by decide +kernel))), va_Nw.of rfl (hts (.methodLinkNest RX3 23 yX0_init RX3) (List.mem_of_getElem? (i := 38) (by decide +kernel))), va_AO.of (hts (.arrayOver (.object RX1)) (List.mem_of_getElem? (i := 33) (by decide +kernel))), va_AO.of (hts (.arrayOver (.object RX2)) (List.mem_of_getElem? (i := 35) (by decide +kernel)))⟩
theorem la_str {args : Array Value} {s : State} (hts : ∀ w ∈ lw_tbl, w.before args s = true) {cur : ClassId} (hf : s.vm.findClass RX3 = some cur) {k : Nat} {t : String} (h : Cond.stringRef RX3 k t ∈ lw_tbl) : ∃ sa, vk_R RX3 k t sa s := by
  have h1 := hts _ h
  obtain ⟨k9, cf, i9, sa, -, -, -, -, -, hev⟩ := Cond.stringRef_spec hf h1
  exact ⟨sa, vk_R.of h1 hev⟩
theorem la_TH {args : Array Value} {s : State} {D : va_G} {cy : Nat → ClassId} (hK : KK D cy s) (hts : ∀ w ∈ lw_tbl, w.before args s = true) (hgv : (Jvm.Cond.and given_1 narrow_1).before args s = true) {A : Nat → Prop} (hA : ∀ a : Nat, a < s.heap.size → ¬ A a) : TH A s s.heap := by
  have hs := flat_of_before _ hgv
  have hf : s.vm.findClass RX3 = some (D.1 3) := (hK.1 3 (RX3, TX3, 8) rfl).2.1
  refine ⟨vx_Zqof (hts (.laysStatic Bundle.tN "UNASSIGNED_STACK" Bundle.steD) (List.mem_of_getElem? (i := 139) (by decide +kernel))) (hts (.initialized Bundle.tN) (List.mem_of_getElem? (i := 15) (by decide +kernel))) (hs (.isRef (.static Bundle.tN "UNASSIGNED_STACK" Bundle.steD)) (by decide +kernel)) hA, vx_Zqof (hts (.laysStatic Bundle.tN "SUPPRESSED_SENTINEL" Bundle.listD) (List.mem_of_getElem? (i := 141) (by decide +kernel))) (hts (.initialized Bundle.tN) (List.mem_of_getElem? (i := 15) (by decide +kernel))) (hs (.isRef (.static Bundle.tN "SUPPRESSED_SENTINEL" Bundle.listD)) (by decide +kernel)) hA, fun q hq => ?_, fun w hw => ?_⟩
  · simp only [THstr, List.mem_cons, List.not_mem_nil, or_false] at hq
    rcases hq with rfl | rfl | rfl | rfl | rfl | rfl | rfl | rfl | rfl | rfl | rfl | rfl | rfl | rfl | rfl | rfl
    · exact la_str hts hf (List.mem_of_getElem? (i := 153) (by decide +kernel))
    · exact la_str hts hf (List.mem_of_getElem? (i := 193) (by decide +kernel))
    · exact la_str hts hf (List.mem_of_getElem? (i := 476) (by decide +kernel))
    · exact la_str hts hf (List.mem_of_getElem? (i := 325) (by decide +kernel))
    · exact la_str hts hf (List.mem_of_getElem? (i := 389) (by decide +kernel))
    · exact la_str hts hf (List.mem_of_getElem? (i := 395) (by decide +kernel))
    · exact la_str hts hf (List.mem_of_getElem? (i := 404) (by decide +kernel))
    · exact la_str hts hf (List.mem_of_getElem? (i := 405) (by decide +kernel))
    · exact la_str hts hf (List.mem_of_getElem? (i := 458) (by decide +kernel))
    · exact la_str hts hf (List.mem_of_getElem? (i := 262) (by decide +kernel))
    · exact la_str hts hf (List.mem_of_getElem? (i := 263) (by decide +kernel))
    · exact la_str hts hf (List.mem_of_getElem? (i := 318) (by decide +kernel))
    · exact la_str hts hf (List.mem_of_getElem? (i := 388) (by decide +kernel))
    · exact la_str hts hf (List.mem_of_getElem? (i := 470) (by decide +kernel))
    · exact la_str hts hf (List.mem_of_getElem? (i := 279) (by decide +kernel))
    · exact la_str hts hf (List.mem_of_getElem? (i := 183) (by decide +kernel))
  · simp only [THw, List.mem_cons, List.not_mem_nil, or_false] at hw
    rcases hw with rfl | rfl | rfl | rfl | rfl | rfl
    · exact va_Nw.of rfl (hts _ (List.mem_of_getElem? (i := 114) (by decide +kernel)))
    · exact va_Nw.of rfl (hts _ (List.mem_of_getElem? (i := 186) (by decide +kernel)))
    · exact va_Nw.of rfl (hts _ (List.mem_of_getElem? (i := 311) (by decide +kernel)))
    · exact va_Nw.of rfl (hts _ (List.mem_of_getElem? (i := 116) (by decide +kernel)))
    · exact va_Nw.of rfl (hts _ (List.mem_of_getElem? (i := 118) (by decide +kernel)))
    · exact va_Nw.of rfl (hts _ (List.mem_of_getElem? (i := 120) (by decide +kernel)))
theorem la_NC {args : Array Value} {s : State} (hgv : (Jvm.Cond.and given_1 narrow_1).before args s = true) : NC s := by
  have hs := flat_of_before _ hgv
  exact ⟨va_Nc.of (hs (.not (.castable eIA eIO)) (by decide +kernel)), va_Nc.of (hs (.not (.castable eIS eIO)) (by decide +kernel)), va_Nc.of (hs (.not (.castable eIS eIA)) (by decide +kernel))⟩
theorem VV_z : VV (fun _ _ => 0) = fun _ _ => 0 := by
  funext c i
  unfold VV
  split <;> simp
theorem IV_0 : IV (fun _ _ => 0) := by
  have hz : ∀ k : Nat, ¬ k < 0 := Nat.not_lt_zero
  unfold IV
  rw [VV_z]
  refine ⟨⟨by decide, by decide, by decide, by decide, by decide, fun i => (if_neg (hz i)).symm, fun i => (if_neg (hz i)).symm, fun q h => absurd h (hz q), fun q h => absurd h (hz q), fun q h => absurd h (hz q)⟩, ⟨⟨by decide, by decide, by decide, by decide, by decide⟩, fun q h => absurd h (hz q), fun q h => absurd h (hz q), fun q h => absurd h (hz q), fun q h => absurd h (hz q)⟩, ⟨⟨rfl, rfl, rfl, rfl, rfl⟩, fun q h => absurd h (hz q), fun _ _ _ => rfl, fun q h => absurd h (hz q), fun q h => absurd h (hz q), fun q h => absurd h (hz q)⟩, by decide, by decide, by decide, by decide, by decide⟩
