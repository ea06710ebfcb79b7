/-! THE CLAIM OUT OF ONE WALK OF THE LAW'S BODY. Your part is whole_start (and what it stands on); all else here is the same for every law, but numbers. -/
def R_law : String := "LeavebankLaw"
def lw_P (b : Addr) (xs : List Int32) (args : Array Value) (s : State) : Prop := args = #[.ref b] ∧ s.IntsAt b xs ∧ xs.length ≤ 2560 ∧ (Jvm.Cond.and given_1 narrow_1).before args s = true
def lw_Q (_ : Array Value) (s : State) (o : Outcome) (t : State) : Prop := o = .returned (some (.int 1)) ∧ Framed s o t [] 601024 7293034
def lw_Z (below : List Frame) (a : Array Value) (s : State) : State → Prop := fun t => ∃ o, t.status = .running ∧ Ended t below o ∧ lw_Q a s o t
/-- the law's own end, with 1 on the stack, nothing written that was there before, its room as the claim has it -/
theorem lw_ret {p : Program} {l : Launch} {e : Env} {s : State} {m : MethodId} {below : List Frame} {meth : Method} {c : Code} {b : Nat} (hx : p.tables.exec = Jvm.exec) (hb : c.code = code) (hr : meth.sig.returnType = ret) (hlocks : meth.locks = false) {pc : Nat} {H : Heap} {ls : Array Slot} (hdg : decode code pc = .ok (.ireturn, 1)) : W p l e room_1 s m #[Value.ref b] below meth c H [] 601024 7293034 (lw_Z below #[Value.ref b] s) (F0 m pc ls [.int 1]) := by
  intro T hT X
  obtain ⟨fs, hret, hrun, hended, hW, hframe⟩ := X.leave (v := some (.int 1)) (hlocks := hlocks) (fun h => by rw [hr] at h; cases h)
  have hmeth' : T.vm.method? m = some meth := X.method'
  refine ⟨T.setFrames fs, ?_, .returned (some (.int 1)), hrun, hended, rfl, ⟨_, rfl⟩, hW, hframe⟩
  jvm_step X.here [X.here.top, hx, hb, hdg, hmeth', hr, ret, narrow_b1]
  (try refine ⟨rfl, ?_⟩); (try refine ⟨rfl, ?_⟩)
  first | (intro acts; rw [hret _ acts rfl rfl rfl]) | rw [hret _ _ rfl rfl rfl]
  exact Steps.refl _
/-- what holds at the law's entry: the machine, the code, the tables' words (any of lw_tbl by 'hts w (by decide +kernel)'), the script of L ints xs at the cell b, what the Statement gives of the start (any of its parts by flat_of_before) -/
def lw_At (p : Program) (s : State) (m : MethodId) (meth : Method) (c : Code) (b L : Nat) (xs : Nat → Int32) : Prop :=
  p.tables.exec = Jvm.exec ∧ c.code = code ∧ meth.sig.returnType = ret ∧ c.maxLocals = 7 ∧ s.vm.findClass R_law = some m.cls ∧ (∀ w ∈ lw_tbl, w.before #[Value.ref b] s = true) ∧ va_X b L xs s s.heap ∧ b < s.heap.size ∧ meth.locks = false ∧ (Jvm.Cond.and given_1 narrow_1).before #[Value.ref b] s = true

/-! ===== what holds at the law's entry ===== -/
theorem la_prim {args : Array Value} {s : State} {ty : FieldType} (h : (Cond.arrayClass ty).before args s = true) : ∃ cA : ClassId, ArrOfT s cA ty ∧ s.vm.findClass ("[" ++ ty.toString) = some cA := by
  obtain ⟨cA, kA, comp, h1, h2, h3⟩ := Cond.arrayClass_spec h
  exact ⟨cA, fun n z => ⟨fun k h => (by cases h), kA, h2, comp, h3⟩, h1⟩
theorem la_obj {args : Array Value} {s : State} {CN : String} (h : (Cond.arrayOver (.object CN)).before args s = true) : ∃ cA : ClassId, ArrOfT s cA (.object CN) ∧ va_RA s cA (.object CN) := by
  obtain ⟨comp, cA, kA, h1, h2, h3, h4, h5⟩ := Cond.arrayOver_spec h
  exact ⟨cA, fun n z => ⟨fun k h => (by cases h), kA, h3, comp, h4⟩, kA, comp, h3, h4, h1, h5⟩
theorem la_K {args : Array Value} {s : State} (hts : ∀ w ∈ lw_tbl, w.before args s = true) : ∃ (D : va_G) (cy : Nat → ClassId), KK D cy s := by
  obtain ⟨c0, i0, k0⟩ := u_known (C := RX0) (T := TX0) (N := 11) (n := 11) hts inX0 (hts (.instantiable RX0 11) (List.mem_of_getElem? (i := 52) (by decide +kernel)))
  obtain ⟨c1, i1, k1⟩ := u_known (C := RX1) (T := TX1) (N := 15) (n := 15) hts inX1 (hts (.instantiable RX1 15) (List.mem_of_getElem? (i := 228) (by decide +kernel)))
  obtain ⟨c2, i2, k2⟩ := u_known (C := RX2) (T := TX2) (N := 5) (n := 5) hts inX2 (hts (.instantiable RX2 5) (List.mem_of_getElem? (i := 342) (by decide +kernel)))
  obtain ⟨c3, i3, k3⟩ := u_known (C := RX3) (T := TX3) (N := 8) (n := 8) hts inX3 (hts (.instantiable RX3 8) (List.mem_of_getElem? (i := 40) (by decide +kernel)))
  obtain ⟨c4, i4, k4⟩ := u_known (C := RX4) (T := TX4) (N := 30) (n := 30) hts inX4 (hts (.instantiable RX4 30) (List.mem_of_getElem? (i := 598) (by decide +kernel)))
  obtain ⟨a0, p0, q0⟩ := la_prim (ty := .int) (hts (.arrayClass .int) (List.mem_of_getElem? (i := 97) (by decide +kernel)))
  obtain ⟨a1, p1, q1⟩ := la_prim (ty := .boolean) (hts (.arrayClass .boolean) (List.mem_of_getElem? (i := 694) (by decide +kernel)))
  obtain ⟨a4, p4, q4⟩ := la_prim (ty := .long) (hts (.arrayClass .long) (List.mem_of_getElem? (i := 849) (by decide +kernel)))
  obtain ⟨a2, p2, q2⟩ := la_obj (CN := RX1) (hts (.arrayOver (.object RX1)) (List.mem_of_getElem? (i := 48) (by decide +kernel)))
  obtain ⟨a3, p3, q3⟩ := la_obj (CN := RX2) (hts (.arrayOver (.object RX2)) (List.mem_of_getElem? (i := 50) (by decide +kernel)))
  refine ⟨(fun k => match k with | 0 => c0 | 1 => c1 | 2 => c2 | 3 => c3 | _ => c4, fun k => match k with | 0 => i0 | 1 => i1 | 2 => i2 | 3 => i3 | _ => i4), (fun k => match k with | 0 => a0 | 1 => a1 | 2 => a2 | 3 => a3 | _ => a4), ?_, ?_⟩
  · intro k q hq
    match k, hq with
    | 0, hq => cases hq; exact k0
    | 1, hq => cases hq; exact k1
    | 2, hq => cases hq; exact k2
    | 3, hq => cases hq; exact k3
    | 4, hq => cases hq; exact k4
    | k + 5, hq => simp [vwCl] at hq
  · intro k q hq
    match k, hq with
    | 0, hq => cases hq; exact ⟨p0, q0⟩
    | 1, hq => cases hq; exact ⟨p1, q1⟩
    | 2, hq => cases hq; exact ⟨p2, q2⟩
    | 3, hq => cases hq; exact ⟨p3, q3⟩
    | 4, hq => cases hq; exact ⟨p4, q4⟩
    | k + 5, hq => simp [ctys] at hq
theorem la_NW {args : Array Value} {s : State} (hts : ∀ w ∈ lw_tbl, w.before args s = true) : NW s := ⟨va_Nw.of rfl (hts (.methodLinkNest RX1 79 yX3_isWorkingDay RX3) (List.mem_of_getElem? (i := 382) (by decide +kernel))), va_Nw.of rfl (hts (.methodLinkNest RX3 23 yX0_init RX3) (List.mem_of_getElem? (i := 53) (by decide +kernel))), va_AO.of (hts (.arrayOver (.object RX1)) (List.mem_of_getElem? (i := 48) (by decide +kernel))), va_AO.of (hts (.arrayOver (.object RX2)) (List.mem_of_getElem? (i := 50) (by decide +kernel)))⟩
theorem la_str {args : Array Value} {s : State} (hts : ∀ w ∈ lw_tbl, w.before args s = true) {cur : ClassId} (hf : s.vm.findClass RX3 = some cur) {k : Nat} {t : String} (h : Cond.stringRef RX3 k t ∈ lw_tbl) : ∃ sa, vk_R RX3 k t sa s := by
  have h1 := hts _ h
  obtain ⟨k9, cf, i9, sa, -, -, -, -, -, hev⟩ := Cond.stringRef_spec hf h1
  exact ⟨sa, vk_R.of h1 hev⟩
theorem la_TH {args : Array Value} {s : State} {D : va_G} {cy : Nat → ClassId} (hK : KK D cy s) (hts : ∀ w ∈ lw_tbl, w.before args s = true) (hgv : (Jvm.Cond.and given_1 narrow_1).before args s = true) {A : Nat → Prop} (hA : ∀ a : Nat, a < s.heap.size → ¬ A a) : TH A s s.heap := by
  have hs := flat_of_before _ hgv
  have hf : s.vm.findClass RX3 = some (D.1 3) := (hK.1 3 (RX3, TX3, 8) rfl).2.1
  refine ⟨vx_Zqof (hts (.laysStatic Bundle.tN "UNASSIGNED_STACK" Bundle.steD) (List.mem_of_getElem? (i := 167) (by decide +kernel))) (hts (.initialized Bundle.tN) (List.mem_of_getElem? (i := 30) (by decide +kernel))) (hs (.isRef (.static Bundle.tN "UNASSIGNED_STACK" Bundle.steD)) (by decide +kernel)) hA, vx_Zqof (hts (.laysStatic Bundle.tN "SUPPRESSED_SENTINEL" Bundle.listD) (List.mem_of_getElem? (i := 169) (by decide +kernel))) (hts (.initialized Bundle.tN) (List.mem_of_getElem? (i := 30) (by decide +kernel))) (hs (.isRef (.static Bundle.tN "SUPPRESSED_SENTINEL" Bundle.listD)) (by decide +kernel)) hA, fun q hq => ?_, fun w hw => ?_⟩
  · simp only [THstr, List.mem_cons, List.not_mem_nil, or_false] at hq
    rcases hq with rfl | rfl | rfl | rfl | rfl | rfl | rfl | rfl | rfl | rfl | rfl | rfl | rfl | rfl | rfl | rfl
    · exact la_str hts hf (List.mem_of_getElem? (i := 181) (by decide +kernel))
    · exact la_str hts hf (List.mem_of_getElem? (i := 221) (by decide +kernel))
    · exact la_str hts hf (List.mem_of_getElem? (i := 329) (by decide +kernel))
    · exact la_str hts hf (List.mem_of_getElem? (i := 341) (by decide +kernel))
    · exact la_str hts hf (List.mem_of_getElem? (i := 405) (by decide +kernel))
    · exact la_str hts hf (List.mem_of_getElem? (i := 421) (by decide +kernel))
    · exact la_str hts hf (List.mem_of_getElem? (i := 433) (by decide +kernel))
    · exact la_str hts hf (List.mem_of_getElem? (i := 434) (by decide +kernel))
    · exact la_str hts hf (List.mem_of_getElem? (i := 486) (by decide +kernel))
    · exact la_str hts hf (List.mem_of_getElem? (i := 498) (by decide +kernel))
    · exact la_str hts hf (List.mem_of_getElem? (i := 499) (by decide +kernel))
    · exact la_str hts hf (List.mem_of_getElem? (i := 307) (by decide +kernel))
    · exact la_str hts hf (List.mem_of_getElem? (i := 404) (by decide +kernel))
    · exact la_str hts hf (List.mem_of_getElem? (i := 317) (by decide +kernel))
    · exact la_str hts hf (List.mem_of_getElem? (i := 340) (by decide +kernel))
    · exact la_str hts hf (List.mem_of_getElem? (i := 211) (by decide +kernel))
  · simp only [THw, List.mem_cons, List.not_mem_nil, or_false] at hw
    rcases hw with rfl | rfl | rfl | rfl | rfl | rfl
    · exact va_Nw.of rfl (hts _ (List.mem_of_getElem? (i := 142) (by decide +kernel)))
    · exact va_Nw.of rfl (hts _ (List.mem_of_getElem? (i := 214) (by decide +kernel)))
    · exact va_Nw.of rfl (hts _ (List.mem_of_getElem? (i := 300) (by decide +kernel)))
    · exact va_Nw.of rfl (hts _ (List.mem_of_getElem? (i := 144) (by decide +kernel)))
    · exact va_Nw.of rfl (hts _ (List.mem_of_getElem? (i := 146) (by decide +kernel)))
    · exact va_Nw.of rfl (hts _ (List.mem_of_getElem? (i := 148) (by decide +kernel)))
theorem la_NC {args : Array Value} {s : State} (hgv : (Jvm.Cond.and given_1 narrow_1).before args s = true) : NC s := by
  have hs := flat_of_before _ hgv
  exact ⟨va_Nc.of (hs (.not (.castable eIA eIO)) (by decide +kernel)), va_Nc.of (hs (.not (.castable eIS eIO)) (by decide +kernel)), va_Nc.of (hs (.not (.castable eIS eIA)) (by decide +kernel))⟩
theorem INV_0 : INV (fun _ _ => 0) := by
  have hz : ∀ k : Nat, ¬ k < 0 := Nat.not_lt_zero
  refine ⟨⟨by decide, by decide, by decide, by decide, by decide, fun i => (if_neg (hz i)).symm, fun i => (if_neg (hz i)).symm, fun q h => absurd h (hz q), fun q h => absurd h (hz q), fun q h => absurd h (hz q)⟩, ⟨⟨by decide, by decide, by decide, by decide, by decide⟩, fun q h => absurd h (hz q), fun q h => absurd h (hz q), fun q h => absurd h (hz q), fun q h => absurd h (hz q)⟩, ⟨⟨rfl, rfl, rfl, rfl, rfl⟩, fun q h => absurd h (hz q), fun _ _ _ => rfl, fun q h => absurd h (hz q), fun q h => absurd h (hz q), fun q h => absurd h (hz q)⟩⟩
/-! ===== the law's loop ===== -/
theorem la_cmp {L i : Nat} (hL : L ≤ 2560) (hi : i ≤ 2600) : (nI L - nI 5 < nI i) ↔ L < i + 5 := by
  by_cases h : 5 ≤ L
  · rw [pk_sub h, nI_ltI (by omega) (by omega)]
    omega
  · have e1 : nI L - nI 5 = nI (4294967291 + L) := by
      rcases (show L = 0 ∨ L = 1 ∨ L = 2 ∨ L = 3 ∨ L = 4 by omega) with rfl | rfl | rfl | rfl | rfl <;> decide
    rw [e1, nI_ltW (by omega) (by omega)]
    omega
set_option maxHeartbeats 8000000 in
set_option maxRecDepth 100000 in
theorem law_loop {p : Program} {l : Launch} {e9 : Env} {s : State} {m : MethodId} {below : List Frame} {meth : Method} {c : Code} {D : va_G} {cy : Nat → ClassId} {b L : Nat} {xs : Nat → Int32} (hfl : l.stackTraces = false) (hr : meth.sig.returnType = ret) (M : MC p s m #[Value.ref b] meth c code wsL_law RL 7 D cy (fun q : Nat => s.heap.size ≤ q)) (Th : TH (fun q : Nat => s.heap.size ≤ q) s s.heap) (hN : NC s) (hX : va_X b L xs s s.heap) (hbl : b < s.heap.size) (hL : L ≤ 2560) :
    ∀ (n i cells slots : Nat) (C : List Nat) (ad : Nat → Nat) (e : Nat → Nat → Nat) (H : Heap) (locs : List Loc) (ls : Array Slot), i ≤ L → L < i + 5 * n → cells + 11 * n ≤ 601024 → slots + 3850 * n ≤ 7293034 → MO D (fun q : Nat => s.heap.size ≤ q) s.heap (C, ad, G cy ad e) H locs → INV e → CC (e 0 1) (e 0 3) C → lv_has ls 7 (lvL b ad i) → W p l e9 room_1 s m #[Value.ref b] below meth c H locs cells slots (lw_Z below #[Value.ref b] s) (F0 m 23 ls []) := by
  have hx := M.1.1
  have hb := M.1.2.1
  have hbA : ¬ (fun q : Nat => s.heap.size ≤ q) b := Nat.not_le.mpr hbl
  intro n
  induction n with
  | zero =>
    intro i cells slots C ad e H locs ls h1 h2
    exact absurd h2 (by omega)
  | succ n ih =>
    intro i cells slots C ad e H locs ls hi hn hc hs w hI hC hl
    refine lv_iload hx hb dL_law_23 (lv_at hl 4 rfl) ?_
    refine lv_aload_n hx hb dL_law_25 rfl (lv_at hl 0 rfl) ?_
    refine va_slen hx hb hX hbl hbA w.2.2 dL_law_26 ?_
    refine lv_iconst (v := nI 5) hx hb dL_law_27 (by decide) ?_
    refine lv_isub hx hb dL_law_28 ?_
    refine lv_icmp_gt (tgt := 1564) hx hb dL_law_29 (by decide) (fun h => ?_) (fun h => ?_)
    · refine lv_iconst (v := 1) hx hb dL_law_1564 (by decide) ?_
      refine va_forget (fun q hq => w.2.2.2.2 q hq) ?_
      refine W.widen (k := 601024) (n := 7293034) (by omega) (by omega) ?_
      exact lw_ret hx hb hr M.2.2.2.1 dL_law_1565
    · have h' : ¬ (nI L - nI 5 < nI i) := h
      have hi5 : i + 5 ≤ L := by
        have z := (not_congr (la_cmp hL (by omega))).mp h'
        omega
      obtain ⟨a, ha, xa⟩ := nI_all (xs i)
      refine lv_aload_n hx hb dL_law_32 rfl (lv_at hl 0 rfl) ?_
      refine lv_iload hx hb dL_law_33 (lv_at hl 4 rfl) ?_
      refine va_sld hx hb hX hbl hbA w.2.2 (vp_in_nI (show i < L by omega) (by omega)) dL_law_35 ?_
      rw [nI_clamp (show i < 2147483648 by omega), xa]
      refine lv_bipush (v := nI 31) hx hb dL_law_36 (by decide) ?_
      refine lv_iand hx hb dL_law_38 ?_
      rw [pk_andN ha 5 (by decide)]
      have hstep : ∀ (C2 : List Nat) (ad2 : Nat → Nat) (e2 : Nat → Nat → Nat) (H2 : Heap) (locs2 : List Loc) (ls2 : Array Slot), MO D (fun q : Nat => s.heap.size ≤ q) s.heap (C2, ad2, G cy ad2 e2) H2 locs2 → INV e2 → CC (e2 0 1) (e2 0 3) C2 → lv_has ls2 7 (lvL b ad2 i) → W p l e9 room_1 s m #[Value.ref b] below meth c H2 locs2 (cells + 11) (slots + 3850) (lw_Z below #[Value.ref b] s) (F0 m 1558 ls2 []) := by
        intro C2 ad2 e2 H2 locs2 ls2 w2 hI2 hC2 hl2
        refine lv_iinc (v := nI (i + 5)) (lv' := [(4, .int (nI (i + 5))), (0, .ref b), (1, .ref (ad2 0)), (2, .ref (ad2 7)), (3, .ref (ad2 6))]) hx hb dL_law_1558 hl2 (k := 4) rfl (nI_inc i 5) (by decide) rfl (fun ls3 hl3 => ?_)
        refine lv_goto (tgt := 23) hx hb dL_law_1561 (by decide) ?_
        exact ih (i + 5) (cells + 11) (slots + 3850) C2 ad2 e2 H2 locs2 ls3 hi5 (by omega) (by omega) (by omega) w2 hI2 hC2 (lv_sub hl3 [1, 2, 3, 4, 0] rfl)
      have hq32 : a % 2 ^ 5 < 32 := Nat.mod_lt _ (by decide)
      generalize a % 2 ^ 5 = q at hq32 ⊢
      rcases (show q = 0 ∨ q = 1 ∨ q = 2 ∨ q = 3 ∨ q = 4 ∨ q = 5 ∨ q = 6 ∨ q = 7 ∨ q = 8 ∨ q = 9 ∨ q = 10 ∨ q = 11 ∨ q = 12 ∨ q = 13 ∨ q = 14 ∨ q = 15 ∨ q = 16 ∨ q = 17 ∨ q = 18 ∨ q = 19 ∨ q = 20 ∨ q = 21 ∨ 22 ≤ q by omega) with rfl | rfl | rfl | rfl | rfl | rfl | rfl | rfl | rfl | rfl | rfl | rfl | rfl | rfl | rfl | rfl | rfl | rfl | rfl | rfl | rfl | rfl | hq22
      · refine lv_tableIn (off := 101) (tgt := 140) hx hb dL_law_39 (by decide) (by decide) (by decide) (by decide) ?_
        exact law_addPerson hfl M Th hN hX hbl hbA hL hi5 w hI hC hl (by omega) (by omega) hstep
      · refine lv_tableIn (off := 169) (tgt := 208) hx hb dL_law_39 (by decide) (by decide) (by decide) (by decide) ?_
        exact law_setHours hfl M Th hN hX hbl hbA hL hi5 w hI hC hl (by omega) (by omega) hstep
      · refine lv_tableIn (off := 249) (tgt := 288) hx hb dL_law_39 (by decide) (by decide) (by decide) (by decide) ?_
        exact law_request hfl M Th hN hX hbl hbA hL hi5 w hI hC hl (by omega) (by omega) hstep
      · refine lv_tableIn (off := 357) (tgt := 396) hx hb dL_law_39 (by decide) (by decide) (by decide) (by decide) ?_
        exact law_change hfl M Th hN hX hbl hbA hL hi5 w hI hC hl (by omega) (by omega) hstep
      · refine lv_tableIn (off := 437) (tgt := 476) hx hb dL_law_39 (by decide) (by decide) (by decide) (by decide) ?_
        exact law_cancel hfl M Th hN hX hbl hbA hL hi5 w hI hC hl (by omega) (by omega) hstep
      · refine lv_tableIn (off := 473) (tgt := 512) hx hb dL_law_39 (by decide) (by decide) (by decide) (by decide) ?_
        exact law_sick hfl M Th hN hX hbl hbA hL hi5 w hI hC hl (by omega) (by omega) hstep
      · refine lv_tableIn (off := 553) (tgt := 592) hx hb dL_law_39 (by decide) (by decide) (by decide) (by decide) ?_
        exact law_payOut hfl M Th hN hX hbl hbA hL hi5 w hI hC hl (by omega) (by omega) hstep
      · refine lv_tableIn (off := 621) (tgt := 660) hx hb dL_law_39 (by decide) (by decide) (by decide) (by decide) ?_
        exact law_pass hfl M Th hN hX hbl hbA hL hi5 w hI hC hl (by omega) (by omega) hstep
      · refine lv_tableIn (off := 677) (tgt := 716) hx hb dL_law_39 (by decide) (by decide) (by decide) (by decide) ?_
        exact law_today hfl M Th hN hX hbl hbA hL hi5 w hI hC hl (by omega) (by omega) hstep
      · refine lv_tableIn (off := 690) (tgt := 729) hx hb dL_law_39 (by decide) (by decide) (by decide) (by decide) ?_
        exact law_people hfl M Th hN hX hbl hbA hL hi5 w hI hC hl (by omega) (by omega) hstep
      · refine lv_tableIn (off := 703) (tgt := 742) hx hb dL_law_39 (by decide) (by decide) (by decide) (by decide) ?_
        exact law_workingDays hfl M Th hN hX hbl hbA hL hi5 w hI hC hl (by omega) (by omega) hstep
      · refine lv_tableIn (off := 771) (tgt := 810) hx hb dL_law_39 (by decide) (by decide) (by decide) (by decide) ?_
        exact law_hours hfl M Th hN hX hbl hbA hL hi5 w hI hC hl (by omega) (by omega) hstep
      · refine lv_tableIn (off := 839) (tgt := 878) hx hb dL_law_39 (by decide) (by decide) (by decide) (by decide) ?_
        exact law_onLeave hfl M Th hN hX hbl hbA hL hi5 w hI hC hl (by omega) (by omega) hstep
      · refine lv_tableIn (off := 907) (tgt := 946) hx hb dL_law_39 (by decide) (by decide) (by decide) (by decide) ?_
        exact law_balance hfl M Th hN hX hbl hbA hL hi5 w hI hC hl (by omega) (by omega) hstep
      · refine lv_tableIn (off := 975) (tgt := 1014) hx hb dL_law_39 (by decide) (by decide) (by decide) (by decide) ?_
        exact law_balanceBySums hfl M Th hN hX hbl hbA hL hi5 w hI hC hl (by omega) (by omega) hstep
      · refine lv_tableIn (off := 1043) (tgt := 1082) hx hb dL_law_39 (by decide) (by decide) (by decide) (by decide) ?_
        exact law_earned hfl M Th hN hX hbl hbA hL hi5 w hI hC hl (by omega) (by omega) hstep
      · refine lv_tableIn (off := 1111) (tgt := 1150) hx hb dL_law_39 (by decide) (by decide) (by decide) (by decide) ?_
        exact law_taken hfl M Th hN hX hbl hbA hL hi5 w hI hC hl (by omega) (by omega) hstep
      · refine lv_tableIn (off := 1179) (tgt := 1218) hx hb dL_law_39 (by decide) (by decide) (by decide) (by decide) ?_
        exact law_expired hfl M Th hN hX hbl hbA hL hi5 w hI hC hl (by omega) (by omega) hstep
      · refine lv_tableIn (off := 1247) (tgt := 1286) hx hb dL_law_39 (by decide) (by decide) (by decide) (by decide) ?_
        exact law_paid hfl M Th hN hX hbl hbA hL hi5 w hI hC hl (by omega) (by omega) hstep
      · refine lv_tableIn (off := 1315) (tgt := 1354) hx hb dL_law_39 (by decide) (by decide) (by decide) (by decide) ?_
        exact law_borrowed hfl M Th hN hX hbl hbA hL hi5 w hI hC hl (by omega) (by omega) hstep
      · refine lv_tableIn (off := 1383) (tgt := 1422) hx hb dL_law_39 (by decide) (by decide) (by decide) (by decide) ?_
        exact law_unpaid hfl M Th hN hX hbl hbA hL hi5 w hI hC hl (by omega) (by omega) hstep
      · refine lv_tableIn (off := 1451) (tgt := 1490) hx hb dL_law_39 (by decide) (by decide) (by decide) (by decide) ?_
        exact law_nextExpiry hfl M Th hN hX hbl hbA hL hi5 w hI hC hl (by omega) (by omega) hstep
      · refine lv_tableOut (tgt := 1558) hx hb dL_law_39 (Or.inr ?_) (by decide) ?_
        · rw [nI_toIW _ (by omega), if_pos (by omega)]
          omega
        · exact W.widen (k := cells + 11) (n := slots + 3850) (by omega) (by omega) (hstep C ad e H locs ls w hI hC hl)
