set_option maxHeartbeats 8000000 in
set_option maxRecDepth 100000 in
theorem whole_start {p : Program} {e : Env} {s : State} {m : MethodId} {below : List Frame} {meth : Method} {c : Code} (l : Launch) (hflags : l.flags = flags0) {b L : Nat} {xs : Nat → Int32} (hL : L ≤ 2560) (C0 : lw_At p s m meth c b L xs) : W p l e room_1 s m #[Value.ref b] below meth c s.heap [] 0 0 (lw_Z below #[Value.ref b] s) (entryFrame m ([Value.ref b] : List Value).toArray 7) := by
  obtain ⟨hx, hb, hr, hml, hown, hts, hX, hbl, hlocks, hgv⟩ := id C0
  have hfl : l.stackTraces = false := by
    unfold Launch.stackTraces
    rw [hflags]
    decide +kernel
  obtain ⟨D, cy, hK⟩ := la_K hts
  have Th : TH (fun q : Nat => s.heap.size ≤ q) s s.heap := la_TH hK hts hgv (fun a h => Nat.not_le.mpr h)
  have hNC := la_NC hgv
  have M : MC p s m #[Value.ref b] meth c code wsL_law RL 7 D cy (fun q : Nat => s.heap.size ≤ q) := ⟨⟨hx, hb, hml, hown, fun w hw => hts w (wsL_law_in w hw)⟩, hK, fun q h => h, hlocks, la_NW hts⟩
  have w : MO D (fun q : Nat => s.heap.size ≤ q) s.heap (([] : List Nat), (fun _ => 0), G cy (fun _ => 0) (fun _ _ => 0)) s.heap [] := ⟨fun k q h => by simp [mp] at h, ⟨fun i j p q h => by simp [mp] at h, fun k q h => by simp [mp] at h⟩, va_S.rf⟩
  have hl := lv_entry ([.ref b]) (n := 7) (Nat.le_of_ble_eq_true rfl)
  rw [lg_entry_eq]
  generalize (lg_sl ([.ref b]) ++ List.replicate (7 - (lg_sl ([.ref b])).length) Slot.unset).toArray = ls at hl ⊢
  have hl : lv_has ls 7 [(0, .ref b)] := hl
  refine mx_new M w 0 List.not_mem_nil (ci := 3) rfl inlX3 tyX3 tyX3_ok (show Cond.classLink RL 8 RX3 ∈ wsL_law from (List.mem_of_getElem? (i := 0) (by decide +kernel))) (show Cond.instantiable RX3 8 ∈ wsL_law from (List.mem_of_getElem? (i := 1) (by decide +kernel))) (show Cond.initialized RX3 ∈ wsL_law from (List.mem_of_getElem? (i := 2) (by decide +kernel))) (fs := [.null, .int (nI 0), .null, .int (nI 0), .int (nI 0), .int (nI 0), .int (nI 0), .null]) hfsX3 (Nat.le_of_ble_eq_true rfl) (Nat.le_of_ble_eq_true rfl) dL_law_0 (fun ad1 H had1 w => ?_)
  obtain ⟨q0, hq0⟩ : ∃ z, z = ad1 0 := ⟨_, rfl⟩
  rw [← hq0]
  refine lv_dup hx hb dL_law_3 rfl ?_
  refine mx_Iv M w (b := q0) (As := []) (by rw [hq0]; exact kX3_init l D cy _ ad1 _ H.size in_self (fun c h1 h2 h3 => by simp only [List.nil_append, List.mem_singleton]; exact h3) (mu_same _ _ _)) (cwI 0 M.1.2.2.2.2 gL_law_X3_init rfl rfl rfl (M.1.2.2.2.2 _ (show Cond.initialized RX3 ∈ wsL_law from (List.mem_of_getElem? (i := 2) (by decide +kernel)))) (M.1.2.2.2.2 _ (show Cond.methodLink RL 80 yX3_init ∈ wsL_law from (List.mem_of_getElem? (i := 7) (by decide +kernel)))) (M.1.2.2.2.2 _ (show Cond.instanceMethod yX3_init ∈ wsL_law from (List.mem_of_getElem? (i := 8) (by decide +kernel)))) rfl (by decide +kernel) ⟨Nat.le_of_ble_eq_true rfl, Nat.le_of_ble_eq_true rfl⟩) rfl hl.1 rfl (Nat.le_of_ble_eq_true rfl) dL_law_4 ⟨Nat.le_of_ble_eq_true rfl, Nat.le_of_ble_eq_true rfl⟩ (fun u1 H locs hp1 w => ?_)
  obtain ⟨ad2, g2, had2, hg2, hs2, rfl⟩ := hp1
  replace hq0 : q0 = ad2 0 := hq0.trans (had2 0 (by omega)).symm
  refine lv_astore_n (lv' := [(1, .ref q0), (0, .ref b)]) hx hb dL_law_7 rfl hl (by decide) rfl (fun ls hl => ?_)
  refine mx_new M w 7 (by decide) (ci := 4) rfl inlX4 tyX4 tyX4_ok (show Cond.classLink RL 81 RX4 ∈ wsL_law from (List.mem_of_getElem? (i := 3) (by decide +kernel))) (show Cond.instantiable RX4 30 ∈ wsL_law from (List.mem_of_getElem? (i := 4) (by decide +kernel))) (show Cond.initialized RX4 ∈ wsL_law from (List.mem_of_getElem? (i := 5) (by decide +kernel))) (fs := [.int (nI 0), .int (nI 0), .int (nI 0), .null, .null, .null, .null, .null, .null, .int (nI 0), .null, .null, .null, .null, .null, .int (nI 0), .null, .null, .null, .int (nI 0), .null, .null, .null, .null, .int (nI 0), .int (nI 0), .int (nI 0), .int (nI 0), .int (nI 0), .int (nI 0)]) hfsX4 (Nat.le_of_ble_eq_true rfl) (Nat.le_of_ble_eq_true rfl) dL_law_8 (fun ad3 H had3 w => ?_)
  obtain ⟨q7, hq7⟩ : ∃ z, z = ad3 7 := ⟨_, rfl⟩
  rw [← hq7]
  refine lv_dup hx hb dL_law_11 rfl ?_
  refine mx_Iv M w (b := q7) (As := []) (by rw [hq7]; exact kX4_init l D cy _ ad3 _ H.size in_self (fun c h1 h2 h3 => by simp only [List.nil_append, List.mem_append, List.mem_singleton]; omega) (mu_same _ _ _)) (cwI 0 M.1.2.2.2.2 gL_law_X4_init rfl rfl rfl (M.1.2.2.2.2 _ (show Cond.initialized RX4 ∈ wsL_law from (List.mem_of_getElem? (i := 5) (by decide +kernel)))) (M.1.2.2.2.2 _ (show Cond.methodLink RL 83 yX4_init ∈ wsL_law from (List.mem_of_getElem? (i := 27) (by decide +kernel)))) (M.1.2.2.2.2 _ (show Cond.instanceMethod yX4_init ∈ wsL_law from (List.mem_of_getElem? (i := 28) (by decide +kernel)))) rfl (by decide +kernel) ⟨Nat.le_of_ble_eq_true rfl, Nat.le_of_ble_eq_true rfl⟩) rfl hl.1 rfl (Nat.le_of_ble_eq_true rfl) dL_law_12 ⟨Nat.le_of_ble_eq_true rfl, Nat.le_of_ble_eq_true rfl⟩ (fun u1 H locs hp1 w => ?_)
  obtain ⟨ad4, g4, had4, hg4, hs4, rfl⟩ := hp1
  replace hq7 : q7 = ad4 7 := hq7.trans (had4 7 (by omega)).symm
  refine lv_astore_n (lv' := [(2, .ref q7), (1, .ref q0), (0, .ref b)]) hx hb dL_law_15 rfl hl (by decide) rfl (fun ls hl => ?_)
  refine lv_iconst (v := nI 1) hx hb dL_law_16 (by decide) ?_
  refine mx_newL M w 6 (by decide) (show Cond.arrayClass .long ∈ wsL_law from (List.mem_of_getElem? (i := 6) (by decide +kernel))) (n := 1) (by decide) (Nat.le_of_ble_eq_true rfl) (Nat.le_of_ble_eq_true rfl) dL_law_17 (fun ad5 H had5 w => ?_)
  refine lv_astore_n (lv' := [(3, .ref (ad5 6)), (2, .ref q7), (1, .ref q0), (0, .ref b)]) hx hb dL_law_19 rfl hl (by decide) rfl (fun ls hl => ?_)
  refine lv_iconst (v := nI 0) hx hb dL_law_20 (by decide) ?_
  refine lv_istore (lv' := [(4, .int (nI 0)), (3, .ref (ad5 6)), (2, .ref q7), (1, .ref q0), (0, .ref b)]) hx hb dL_law_21 hl (by decide) rfl (fun ls hl => ?_)
  have hlo : ∀ c, c < 6 → ad5 c = ad2 c := fun c hc => (had5 c (by omega)).trans ((had4 c (by omega)).trans (had3 c (by omega)))
  have hhi : ∀ c, 7 ≤ c → c < 26 → ad5 c = ad4 c := fun c h1 h2 => had5 c (by omega)
  rw [show q0 = ad5 0 from hq0.trans (hlo 0 (by decide)).symm, show q7 = ad5 7 from hq7.trans (hhi 7 (by decide) (by decide)).symm] at hl
  have hsl : ∀ c, c < 6 → sh cy ad2 c (fun _ => 0) = sh cy ad5 c (fun _ => 0) := fun c hc => by
    rcases (show c = 0 ∨ c = 1 ∨ c = 2 ∨ c = 3 ∨ c = 4 ∨ c = 5 by omega) with rfl | rfl | rfl | rfl | rfl | rfl
    · rw [sh_0, sh_0, hlo 1 (by decide), hlo 2 (by decide), hlo 3 (by decide)]
    · rfl
    · rfl
    · rw [sh_3, sh_3, hlo 4 (by decide), hlo 5 (by decide)]
    · rfl
    · rfl
  have hsh : ∀ c, 7 ≤ c → c < 26 → sh cy ad4 c (fun _ => 0) = sh cy ad5 c (fun _ => 0) := fun c h1 h2 => by
    by_cases hc7 : c = 7
    · subst hc7
      rw [sh_7, sh_7]
      simp only [hhi, Nat.reduceLeDiff, Nat.reduceLT]
    · rcases (show c = 8 ∨ c = 9 ∨ c = 10 ∨ c = 11 ∨ c = 12 ∨ c = 13 ∨ c = 14 ∨ c = 15 ∨ c = 16 ∨ c = 17 ∨ c = 18 ∨ c = 19 ∨ c = 20 ∨ c = 21 ∨ c = 22 ∨ c = 23 ∨ c = 24 ∨ c = 25 by omega) with rfl | rfl | rfl | rfl | rfl | rfl | rfl | rfl | rfl | rfl | rfl | rfl | rfl | rfl | rfl | rfl | rfl | rfl <;> rfl
  have w9 : MO D (fun q : Nat => s.heap.size ≤ q) s.heap (_, ad5, G cy ad5 (fun _ _ => 0)) H locs := MO_same w (fun c hc => ⟨rfl, by
    simp only [List.nil_append, List.mem_append, List.mem_singleton] at hc
    show mu _ 6 _ c = sh cy ad5 c (fun _ => 0)
    by_cases h6 : c = 6
    · subst h6
      rw [mu_same]
      rfl
    · rw [mu_ne _ _ h6]
      by_cases h7 : 7 ≤ c
      · rw [hs4 c h7 (by omega)]
        exact hsh c h7 (by omega)
      · rw [hg4 c (by omega), mu_ne _ _ (by omega), hs2 c (by omega) (by omega)]
        exact hsl c (by omega)⟩)
  exact law_loop hfl hr M Th hNC hX hbl hL 513 0 _ _ _ ad5 (fun _ _ => 0) H locs ls (by omega) (by omega) (by decide) (by decide) w9 INV_0 (fun c => by simp only [List.nil_append, List.mem_append, List.mem_singleton]; omega) (lv_sub hl [4, 3, 2, 1, 0] rfl)

-- ===== YOUR PART ENDS =====
set_option maxHeartbeats 4000000 in
theorem lw_walk (l : Launch) (hflags : l.flags = flags0) (b : Addr) (xs : List Int32) : MetFree l x (headSpec (Jvm.Cond.code x code maxLocals ret :: tables_1) room_1) (lw_P b xs) (fun _ _ _ _ _ => True) lw_Q := by
  refine MetFree.of_bodyS (code := code) (maxLocals := maxLocals) (ret := ret) (by decide) ?_ ?_
  · intro args s m h hn
    obtain ⟨meth, c, h1, h2, h3, h4, h5, h6, -, -⟩ := Cond.code_spec hn (atoms_spec (ws := Jvm.Cond.code x code maxLocals ret :: tables_1) h _ List.mem_cons_self)
    exact ⟨meth, c, h1, h2, h3, h4, h5, h6⟩
  · intro p e s m args below meth c s₁ B hml0 hP _
    obtain ⟨rfl, hx, hbd, hgv⟩ := hP
    obtain ⟨scr, harrAt, hlist, hof, hsmall⟩ := hx
    obtain ⟨hcb, hkn, -, -⟩ := State.arrayAt?_spec harrAt
    have hown : s.vm.findClass R_law = some m.cls := findClass_of_methodNamed B.named
    have hts0 : ∀ c ∈ (Jvm.Cond.code x code maxLocals ret :: tables_1), c.before #[Value.ref b] s = true := atoms_spec (ws := Jvm.Cond.code x code maxLocals ret :: tables_1) B.pre
    have hts : ∀ w ∈ lw_tbl, w.before #[Value.ref b] s = true := k2_hts_sels lw_privs (fun w hw => hts0 w (List.mem_cons_of_mem _ hw)) lw_privs_ok
    have hml : c.maxLocals = 7 := B.maxLocals_eq (hts0 _ List.mem_cons_self)
    have X₀ : Stand p l e room_1 s m #[Value.ref b] below meth c s₁ [] 0 0 := Stand.of_body B
    have hh0 : s₁.heap = s.heap := by rw [B.state]; rfl
    have hsz : scr.slots.size = xs.length := by rw [← Array.length_toList, hlist, List.length_map]
    have hval : ∀ j : Nat, j < xs.length → scr.slots[j]? = some (.int (xs.getD j 0)) := fun j hj => by
      rw [← Array.getElem?_toList, hlist]
      simp [hj]
    have hbl : b < s.heap.size := (Array.getElem?_eq_some_iff.mp hcb).1
    have hX : va_X b xs.length (fun j => xs.getD j 0) s s.heap := ⟨scr, hcb, hof, hkn, hsz, hval⟩
    have K : W p l e room_1 s m #[Value.ref b] below meth c s₁.heap [] 0 0 (lw_Z below #[Value.ref b] s) (entryFrame m ([Value.ref b] : List Value).toArray 7) := by
      rw [hh0]
      exact whole_start l hflags hbd ⟨B.exec, B.bytes, B.returns, hml, hown, hts, hX, hbl, B.notSynchronized, hgv⟩
    obtain ⟨t, a1, o, b1, b2, b3⟩ := K s₁ rfl X₀
    exact ⟨t, o, a1, b1, b2, b3⟩
theorem lw_pre_spec {args : Array Value} {s : State} (h : (Jvm.Cond.and given_1 narrow_1).before args s = true) (hr : rest_1_c.before args s = true) : ∃ (b : Addr) (xs : List Int32), lw_P b xs args s := by
  have hs := flat_of_before _ h
  have hq := flat_of_before _ hr
  have hc : (Cond.count 1).before args s = true := hs _ (by decide +kernel)
  have harr : (Cond.arrayOf (.arg 0) .int).before args s = true := hs _ (by decide +kernel)
  have hle : (Cond.le (.length (.arg 0)) (.int 2560)).before args s = true := hs _ (by decide +kernel)
  have hlen : (Cond.isInt (.length (.arg 0))).before args s = true := hq _ (by decide +kernel)
  have hall : (Cond.all (.arg 0) (.isInt (.elem (.arg 0) (.index 0)))).before args s = true := hq _ (by decide +kernel)
  obtain ⟨b, xs, hb, hx⟩ := State.ints_of_pre rfl harr hlen hall
  have hsm : xs.length < 2 ^ 31 := hx.choose_spec.2.2.2
  have hev : (Term.length (.arg 0)).eval args s none [] s = some (.int xs.length.toInt32) := hx.length_eval hb
  have hv := Cond.le_ints hev (show (Term.int 2560).eval args s none [] s = some (.int 2560) from rfl)
  have hd : xs.length.toInt32 ≤ 2560 := by
    simpa [Cond.before, Cond.holds, hv] using hle
  have hN : xs.length ≤ 2560 := (Int32.ofNat_le_ofNat hsm (by decide)).mp (show Int32.ofNat xs.length ≤ Int32.ofNat 2560 from hd)
  exact ⟨b, xs, Cond.one_arg hc (show args[0]? = some (.ref b) from hb), hx, hN, h⟩
theorem lw_comes (l : Launch) (hflags : l.flags = flags0) : Comes l x (Jvm.Cond.code x code maxLocals ret :: tables_1) room_1 (fun tb e args s => Calls_1 tb e args s ∧ rest_1 tb e args s ∧ Pre_1 tb e args s)
    (fun _ _ args s o t => lw_Q args s o t) := by
  intro p e ha hc hk s m args below hf hfit hheap happ hpre
  obtain ⟨b, xs, hP⟩ := lw_pre_spec hpre.2.2 hpre.2.1
  obtain ⟨k, o, h1, h2, h3, hQ⟩ := lw_walk l hflags b xs p e ha hc hk s m args below hf ((Spec.applies_iff_loose hf).mp happ).1 hP trivial
  exact ⟨k, o, h1, h2, h3, hQ⟩
theorem lw_frame {s t : State} {o : Outcome} {args : Array Value} (h : Framed s o t [] 601024 7293034) :
    Framed s o t (fieldLocs frame_1_writes args s ++ arrayLocs frame_1_arrays args s ++ staticLocs frame_1_statics s) 601024 7293034 := h
theorem lw_limb (L : Cond) (hL : ∀ (args : Array Value) (s t : State), L.after args s (.returned (some (.int 1))) t = true) :
    ArmFor flags0 classFile x code maxLocals ret World_1 tables_1 room_1 Calls_1 rest_1 Pre_1
      (fun tb e a s o t => postC L tb e a s o t ∧ Framed s o t (fieldLocs frame_1_writes a s ++ arrayLocs frame_1_arrays a s ++ staticLocs frame_1_statics s) 601024 7293034) := by
  intro l hflags _ _ p e ha hc hk s m args below hf hfit hheap happ hpre
  obtain ⟨k, o, h1, h2, h3, rfl, hF⟩ := lw_comes l hflags p e ha hc hk s m args below hf hfit hheap happ hpre
  exact ⟨k, _, h1, h2, h3, hL args s _, lw_frame hF⟩
theorem i_vc : Claimed_1_1 ∧ Claimed_1_2 := ⟨lw_limb limb_1_1 (fun args s t => by simp [limb_1_1, Cond.after, Cond.holds, Cond.value]), lw_limb limb_1_2 (fun args s t => Cond.after_iff.mpr (by
  first | (rw [show limb_1_2 = Cond.eq .result (.int 1) from rfl, Cond.eq_ints (x := 1) (y := 1) rfl rfl]; simp; done) | (simp [limb_1_2, Cond.value, Term.eval]; done)))⟩

