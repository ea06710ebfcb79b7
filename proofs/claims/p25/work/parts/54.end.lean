set_option maxHeartbeats 8000000 in
set_option maxRecDepth 100000 in
theorem whole_start {p : Program} {e : Env} {s : State} {m : MethodId} {below : List Frame} {meth : Method} {c : Code} (l : Launch) (hflags : l.flags = flags0) {b L : Nat} {xs : Nat → Int32} (hL : L ≤ 260) (C0 : lw_At p s m meth c b L xs) : W p l e room_1 s m #[Value.ref b] below meth c s.heap [] 0 0 (lw_Z below #[Value.ref b] s) (entryFrame m ([Value.ref b] : List Value).toArray 17) := by
  obtain ⟨hx, hb, hr, hml, hown, hts, hX, hbl, hlocks, hgv⟩ := id C0
  have hfl : l.stackTraces = false := by
    unfold Launch.stackTraces
    rw [hflags]
    decide +kernel
  obtain ⟨D, cy, hK⟩ := la_K hts
  have Th : TH (fun q : Nat => s.heap.size ≤ q) s s.heap := la_TH hK hts hgv (fun a h => Nat.not_le.mpr h)
  have hNC := la_NC hgv
  have M : MC p s m #[Value.ref b] meth c code wsL_law RL 17 D cy (fun q : Nat => s.heap.size ≤ q) := ⟨⟨hx, hb, hml, hown, fun w hw => hts w (wsL_law_in w hw)⟩, hK, fun q h => h, hlocks, la_NW hts⟩
  have w : MO D (fun q : Nat => s.heap.size ≤ q) s.heap (([] : List Nat), (fun _ => 0), G cy (fun _ => 0) (fun _ _ => 0)) s.heap [] := ⟨fun k q h => by simp [mp] at h, ⟨fun i j p q h => by simp [mp] at h, fun k q h => by simp [mp] at h⟩, va_S.rf⟩
  have hl := lv_entry ([.ref b]) (n := 17) (Nat.le_of_ble_eq_true rfl)
  rw [lg_entry_eq]
  generalize (lg_sl ([.ref b]) ++ List.replicate (17 - (lg_sl ([.ref b])).length) Slot.unset).toArray = ls at hl ⊢
  have hl : lv_has ls 17 [(0, .ref b)] := hl
  refine mx_new M w 0 List.not_mem_nil (ci := 3) rfl inlX3 tyX3 tyX3_ok (show Cond.classLink RL 11 RX3 ∈ wsL_law from (List.mem_of_getElem? (i := 0) (by decide +kernel))) (show Cond.instantiable RX3 8 ∈ wsL_law from (List.mem_of_getElem? (i := 1) (by decide +kernel))) (show Cond.initialized RX3 ∈ wsL_law from (List.mem_of_getElem? (i := 2) (by decide +kernel))) (fs := [.null, .int (nI 0), .null, .int (nI 0), .int (nI 0), .int (nI 0), .int (nI 0), .null]) hfsX3 (Nat.le_of_ble_eq_true rfl) (Nat.le_of_ble_eq_true rfl) dL_law_0 (fun ad1 H had1 w => ?_)
  obtain ⟨q0, hq0⟩ : ∃ z, z = ad1 0 := ⟨_, rfl⟩
  rw [← hq0]
  refine lv_dup hx hb dL_law_3 rfl ?_
  refine mx_Iv M w (b := q0) (As := []) (by rw [hq0]; exact kX3_init l D cy _ ad1 _ H.size in_self (fun c h1 h2 h3 => by simp only [List.nil_append, List.mem_singleton]; exact h3) (mu_same _ _ _)) (cwI 0 M.1.2.2.2.2 gL_law_X3_init rfl rfl rfl (M.1.2.2.2.2 _ (show Cond.initialized RX3 ∈ wsL_law from (List.mem_of_getElem? (i := 2) (by decide +kernel)))) (M.1.2.2.2.2 _ (show Cond.methodLink RL 109 yX3_init ∈ wsL_law from (List.mem_of_getElem? (i := 4) (by decide +kernel)))) (M.1.2.2.2.2 _ (show Cond.instanceMethod yX3_init ∈ wsL_law from (List.mem_of_getElem? (i := 5) (by decide +kernel)))) rfl (by decide +kernel) ⟨Nat.le_of_ble_eq_true rfl, Nat.le_of_ble_eq_true rfl⟩) rfl hl.1 rfl (Nat.le_of_ble_eq_true rfl) dL_law_4 ⟨Nat.le_of_ble_eq_true rfl, Nat.le_of_ble_eq_true rfl⟩ (fun u1 H locs hp1 w => ?_)
  obtain ⟨ad2, g2, had2, hg2, hs2, rfl⟩ := hp1
  replace hq0 : q0 = ad2 0 := hq0.trans (had2 0 (by omega)).symm
  refine lv_astore_n (lv' := [(1, .ref q0), (0, .ref b)]) hx hb dL_law_7 rfl hl (by decide) rfl (fun ls hl => ?_)
  have a2 : ∀ c, c < 6 → ad2 c = ad2 c := fun _ _ => rfl
  refine lv_iconst (v := nI 5) hx hb dL_law_8 (by decide) ?_
  refine mx_newI M w 6 (by decide) (show Cond.arrayClass .int ∈ wsL_law from (List.mem_of_getElem? (i := 3) (by decide +kernel))) (n := 5) (by decide) (Nat.le_of_ble_eq_true rfl) (Nat.le_of_ble_eq_true rfl) dL_law_9 (fun ad3 H had3 w => ?_)
  obtain ⟨q6, hq6⟩ : ∃ z, z = ad3 6 := ⟨_, rfl⟩
  rw [← hq6]
  replace hq0 : q0 = ad3 0 := hq0.trans (had3 0 (by decide)).symm
  refine lv_astore_n (lv' := [(2, .ref q6), (1, .ref q0), (0, .ref b)]) hx hb dL_law_11 rfl hl (by decide) rfl (fun ls hl => ?_)
  refine lv_bipush (v := nI 64) hx hb dL_law_12 (by decide) ?_
  refine mx_newI M w 7 (by decide) (show Cond.arrayClass .int ∈ wsL_law from (List.mem_of_getElem? (i := 3) (by decide +kernel))) (n := 64) (by decide) (Nat.le_of_ble_eq_true rfl) (Nat.le_of_ble_eq_true rfl) dL_law_14 (fun ad4 H had4 w => ?_)
  obtain ⟨q7, hq7⟩ : ∃ z, z = ad4 7 := ⟨_, rfl⟩
  rw [← hq7]
  replace hq0 : q0 = ad4 0 := hq0.trans (had4 0 (by decide)).symm
  replace hq6 : q6 = ad4 6 := hq6.trans (had4 6 (by decide)).symm
  refine lv_astore_n (lv' := [(3, .ref q7), (2, .ref q6), (1, .ref q0), (0, .ref b)]) hx hb dL_law_16 rfl hl (by decide) rfl (fun ls hl => ?_)
  refine lv_bipush (v := nI 60) hx hb dL_law_17 (by decide) ?_
  refine mx_newI M w 8 (by decide) (show Cond.arrayClass .int ∈ wsL_law from (List.mem_of_getElem? (i := 3) (by decide +kernel))) (n := 60) (by decide) (Nat.le_of_ble_eq_true rfl) (Nat.le_of_ble_eq_true rfl) dL_law_19 (fun ad5 H had5 w => ?_)
  obtain ⟨q8, hq8⟩ : ∃ z, z = ad5 8 := ⟨_, rfl⟩
  rw [← hq8]
  replace hq0 : q0 = ad5 0 := hq0.trans (had5 0 (by decide)).symm
  replace hq6 : q6 = ad5 6 := hq6.trans (had5 6 (by decide)).symm
  replace hq7 : q7 = ad5 7 := hq7.trans (had5 7 (by decide)).symm
  refine lv_astore (lv' := [(4, .ref q8), (3, .ref q7), (2, .ref q6), (1, .ref q0), (0, .ref b)]) hx hb dL_law_21 hl (by decide) rfl (fun ls hl => ?_)
  refine lv_bipush (v := nI 24) hx hb dL_law_23 (by decide) ?_
  refine mx_newI M w 9 (by decide) (show Cond.arrayClass .int ∈ wsL_law from (List.mem_of_getElem? (i := 3) (by decide +kernel))) (n := 24) (by decide) (Nat.le_of_ble_eq_true rfl) (Nat.le_of_ble_eq_true rfl) dL_law_25 (fun ad6 H had6 w => ?_)
  obtain ⟨q9, hq9⟩ : ∃ z, z = ad6 9 := ⟨_, rfl⟩
  rw [← hq9]
  replace hq0 : q0 = ad6 0 := hq0.trans (had6 0 (by decide)).symm
  replace hq6 : q6 = ad6 6 := hq6.trans (had6 6 (by decide)).symm
  replace hq7 : q7 = ad6 7 := hq7.trans (had6 7 (by decide)).symm
  replace hq8 : q8 = ad6 8 := hq8.trans (had6 8 (by decide)).symm
  refine lv_astore (lv' := [(5, .ref q9), (4, .ref q8), (3, .ref q7), (2, .ref q6), (1, .ref q0), (0, .ref b)]) hx hb dL_law_27 hl (by decide) rfl (fun ls hl => ?_)
  refine lv_bipush (v := nI 30) hx hb dL_law_29 (by decide) ?_
  refine mx_newI M w 10 (by decide) (show Cond.arrayClass .int ∈ wsL_law from (List.mem_of_getElem? (i := 3) (by decide +kernel))) (n := 30) (by decide) (Nat.le_of_ble_eq_true rfl) (Nat.le_of_ble_eq_true rfl) dL_law_31 (fun ad7 H had7 w => ?_)
  obtain ⟨q10, hq10⟩ : ∃ z, z = ad7 10 := ⟨_, rfl⟩
  rw [← hq10]
  replace hq0 : q0 = ad7 0 := hq0.trans (had7 0 (by decide)).symm
  replace hq6 : q6 = ad7 6 := hq6.trans (had7 6 (by decide)).symm
  replace hq7 : q7 = ad7 7 := hq7.trans (had7 7 (by decide)).symm
  replace hq8 : q8 = ad7 8 := hq8.trans (had7 8 (by decide)).symm
  replace hq9 : q9 = ad7 9 := hq9.trans (had7 9 (by decide)).symm
  refine lv_astore (lv' := [(6, .ref q10), (5, .ref q9), (4, .ref q8), (3, .ref q7), (2, .ref q6), (1, .ref q0), (0, .ref b)]) hx hb dL_law_33 hl (by decide) rfl (fun ls hl => ?_)
  refine lv_bipush (v := nI 64) hx hb dL_law_35 (by decide) ?_
  refine mx_newI M w 11 (by decide) (show Cond.arrayClass .int ∈ wsL_law from (List.mem_of_getElem? (i := 3) (by decide +kernel))) (n := 64) (by decide) (Nat.le_of_ble_eq_true rfl) (Nat.le_of_ble_eq_true rfl) dL_law_37 (fun ad8 H had8 w => ?_)
  obtain ⟨q11, hq11⟩ : ∃ z, z = ad8 11 := ⟨_, rfl⟩
  rw [← hq11]
  replace hq0 : q0 = ad8 0 := hq0.trans (had8 0 (by decide)).symm
  replace hq6 : q6 = ad8 6 := hq6.trans (had8 6 (by decide)).symm
  replace hq7 : q7 = ad8 7 := hq7.trans (had8 7 (by decide)).symm
  replace hq8 : q8 = ad8 8 := hq8.trans (had8 8 (by decide)).symm
  replace hq9 : q9 = ad8 9 := hq9.trans (had8 9 (by decide)).symm
  replace hq10 : q10 = ad8 10 := hq10.trans (had8 10 (by decide)).symm
  refine lv_astore (lv' := [(7, .ref q11), (6, .ref q10), (5, .ref q9), (4, .ref q8), (3, .ref q7), (2, .ref q6), (1, .ref q0), (0, .ref b)]) hx hb dL_law_39 hl (by decide) rfl (fun ls hl => ?_)
  refine lv_bipush (v := nI 6) hx hb dL_law_41 (by decide) ?_
  refine mx_newI M w 12 (by decide) (show Cond.arrayClass .int ∈ wsL_law from (List.mem_of_getElem? (i := 3) (by decide +kernel))) (n := 6) (by decide) (Nat.le_of_ble_eq_true rfl) (Nat.le_of_ble_eq_true rfl) dL_law_43 (fun ad9 H had9 w => ?_)
  obtain ⟨q12, hq12⟩ : ∃ z, z = ad9 12 := ⟨_, rfl⟩
  rw [← hq12]
  replace hq0 : q0 = ad9 0 := hq0.trans (had9 0 (by decide)).symm
  replace hq6 : q6 = ad9 6 := hq6.trans (had9 6 (by decide)).symm
  replace hq7 : q7 = ad9 7 := hq7.trans (had9 7 (by decide)).symm
  replace hq8 : q8 = ad9 8 := hq8.trans (had9 8 (by decide)).symm
  replace hq9 : q9 = ad9 9 := hq9.trans (had9 9 (by decide)).symm
  replace hq10 : q10 = ad9 10 := hq10.trans (had9 10 (by decide)).symm
  replace hq11 : q11 = ad9 11 := hq11.trans (had9 11 (by decide)).symm
  refine lv_astore (lv' := [(8, .ref q12), (7, .ref q11), (6, .ref q10), (5, .ref q9), (4, .ref q8), (3, .ref q7), (2, .ref q6), (1, .ref q0), (0, .ref b)]) hx hb dL_law_45 hl (by decide) rfl (fun ls hl => ?_)
  refine lv_iconst (v := nI 0) hx hb dL_law_47 (by decide) ?_
  refine lv_istore (lv' := [(9, .int (nI 0)), (8, .ref q12), (7, .ref q11), (6, .ref q10), (5, .ref q9), (4, .ref q8), (3, .ref q7), (2, .ref q6), (1, .ref q0), (0, .ref b)]) hx hb dL_law_48 hl (by decide) rfl (fun ls hl => ?_)
  rw [hq0, hq6, hq7, hq8, hq9, hq10, hq11, hq12] at hl
  have hlo : ∀ c, c < 6 → ad9 c = ad2 c := fun c hc => (had9 c (by omega)).trans ((had8 c (by omega)).trans ((had7 c (by omega)).trans ((had6 c (by omega)).trans ((had5 c (by omega)).trans ((had4 c (by omega)).trans ((had3 c (by omega))))))))
  have hsl : ∀ c, c < 6 → sh cy ad2 c (fun _ => 0) = sh cy ad9 c (fun _ => 0) := fun c hc => by
    rcases (show c = 0 ∨ c = 1 ∨ c = 2 ∨ c = 3 ∨ c = 4 ∨ c = 5 by omega) with rfl | rfl | rfl | rfl | rfl | rfl
    · rw [sh_0, sh_0, hlo 1 (by decide), hlo 2 (by decide), hlo 3 (by decide)]
    · rfl
    · rfl
    · rw [sh_3, sh_3, hlo 4 (by decide), hlo 5 (by decide)]
    · rfl
    · rfl
  have w9 : MO D (fun q : Nat => s.heap.size ≤ q) s.heap (_, ad9, G cy ad9 (fun _ _ => 0)) H locs := MO_same w (fun c hc => ⟨rfl, by
    have hc13 : c < 13 := by
      simp only [List.nil_append, List.mem_append, List.mem_singleton] at hc
      omega
    show _ = sh cy ad9 c (fun _ => 0)
    by_cases h6 : c < 6
    · rw [mu_ne _ _ (by omega), mu_ne _ _ (by omega), mu_ne _ _ (by omega), mu_ne _ _ (by omega), mu_ne _ _ (by omega), mu_ne _ _ (by omega), mu_ne _ _ (by omega), hs2 c (by omega) h6]
      exact hsl c h6
    · rcases (show c = 6 ∨ c = 7 ∨ c = 8 ∨ c = 9 ∨ c = 10 ∨ c = 11 ∨ c = 12 by omega) with rfl | rfl | rfl | rfl | rfl | rfl | rfl
      · rw [mu_ne _ _ (by decide), mu_ne _ _ (by decide), mu_ne _ _ (by decide), mu_ne _ _ (by decide), mu_ne _ _ (by decide), mu_ne _ _ (by decide), mu_same]; rfl
      · rw [mu_ne _ _ (by decide), mu_ne _ _ (by decide), mu_ne _ _ (by decide), mu_ne _ _ (by decide), mu_ne _ _ (by decide), mu_same]; rfl
      · rw [mu_ne _ _ (by decide), mu_ne _ _ (by decide), mu_ne _ _ (by decide), mu_ne _ _ (by decide), mu_same]; rfl
      · rw [mu_ne _ _ (by decide), mu_ne _ _ (by decide), mu_ne _ _ (by decide), mu_same]; rfl
      · rw [mu_ne _ _ (by decide), mu_ne _ _ (by decide), mu_same]; rfl
      · rw [mu_ne _ _ (by decide), mu_same]; rfl
      · rw [mu_same]; rfl⟩)
  exact law_turn hfl M Th hNC hX hbl hL (law_loop hfl hr M Th hNC hX hbl hL 69 1 rfl) w9 IV_0 (fun c => by simp only [List.nil_append, List.mem_append, List.mem_singleton]; omega) (Nat.le_of_ble_eq_true rfl) (Nat.le_of_ble_eq_true rfl) (by decide) (lv_sub hl [9, 8, 7, 6, 5, 4, 3, 2, 1, 0] rfl)
-- ===== YOUR PART ENDS =====
set_option maxHeartbeats 4000000 in
theorem lw_walk (l : Launch) (hflags : l.flags = flags0) (b : Addr) (xs : List Int32) : MetFree l x (headSpec (Jvm.Cond.code x code maxLocals ret :: tables_1) room_1) (lw_P b xs) (fun _ _ _ _ _ => True) lw_Q := by
  refine MetFree.of_bodyS (code := code) (maxLocals := maxLocals) (ret := ret) (by decide) ?_ ?_
  · intro args s m h hn
    obtain ⟨meth, c, h1, h2, h3, h4, h5, h6, -, -⟩ := Cond.code_spec hn (atoms_spec (ws := Jvm.Cond.code x code maxLocals ret :: tables_1) h _ List.mem_cons_self)
    exact ⟨meth, c, h1, h2, h3, h4, h5, h6⟩
  · intro p e s m args below meth c s₁ B hml0 hP _
    obtain ⟨rfl, hx, hbd, hgv⟩ := hP
    obtain ⟨scr, harrAt, hlist, hof, hsmall⟩ := hx
    obtain ⟨hcb, hkn, -, -⟩ := State.arrayAt?_spec harrAt
    have hown : s.vm.findClass R_law = some m.cls := findClass_of_methodNamed B.named
    have hts0 : ∀ c ∈ (Jvm.Cond.code x code maxLocals ret :: tables_1), c.before #[Value.ref b] s = true := atoms_spec (ws := Jvm.Cond.code x code maxLocals ret :: tables_1) B.pre
    have hts : ∀ w ∈ lw_tbl, w.before #[Value.ref b] s = true := k2_hts_sels lw_privs (fun w hw => hts0 w (List.mem_cons_of_mem _ hw)) lw_privs_ok
    have hml : c.maxLocals = 17 := B.maxLocals_eq (hts0 _ List.mem_cons_self)
    have X₀ : Stand p l e room_1 s m #[Value.ref b] below meth c s₁ [] 0 0 := Stand.of_body B
    have hh0 : s₁.heap = s.heap := by rw [B.state]; rfl
    have hsz : scr.slots.size = xs.length := by rw [← Array.length_toList, hlist, List.length_map]
    have hval : ∀ j : Nat, j < xs.length → scr.slots[j]? = some (.int (xs.getD j 0)) := fun j hj => by
      rw [← Array.getElem?_toList, hlist]
      simp [hj]
    have hbl : b < s.heap.size := (Array.getElem?_eq_some_iff.mp hcb).1
    have hX : va_X b xs.length (fun j => xs.getD j 0) s s.heap := ⟨scr, hcb, hof, hkn, hsz, hval⟩
    have K : W p l e room_1 s m #[Value.ref b] below meth c s₁.heap [] 0 0 (lw_Z below #[Value.ref b] s) (entryFrame m ([Value.ref b] : List Value).toArray 17) := by
      rw [hh0]
      exact whole_start l hflags hbd ⟨B.exec, B.bytes, B.returns, hml, hown, hts, hX, hbl, B.notSynchronized, hgv⟩
    obtain ⟨t, a1, o, b1, b2, b3⟩ := K s₁ rfl X₀
    exact ⟨t, o, a1, b1, b2, b3⟩
theorem lw_pre_spec {args : Array Value} {s : State} (h : (Jvm.Cond.and given_1 narrow_1).before args s = true) (hr : rest_1_c.before args s = true) : ∃ (b : Addr) (xs : List Int32), lw_P b xs args s := by
  have hs := flat_of_before _ h
  have hq := flat_of_before _ hr
  have hc : (Cond.count 1).before args s = true := hs _ (by decide +kernel)
  have harr : (Cond.arrayOf (.arg 0) .int).before args s = true := hs _ (by decide +kernel)
  have hle : (Cond.le (.length (.arg 0)) (.int 260)).before args s = true := hs _ (by decide +kernel)
  have hlen : (Cond.isInt (.length (.arg 0))).before args s = true := hq _ (by decide +kernel)
  have hall : (Cond.all (.arg 0) (.isInt (.elem (.arg 0) (.index 0)))).before args s = true := hq _ (by decide +kernel)
  obtain ⟨b, xs, hb, hx⟩ := State.ints_of_pre rfl harr hlen hall
  have hsm : xs.length < 2 ^ 31 := hx.choose_spec.2.2.2
  have hev : (Term.length (.arg 0)).eval args s none [] s = some (.int xs.length.toInt32) := hx.length_eval hb
  have hv := Cond.le_ints hev (show (Term.int 260).eval args s none [] s = some (.int 260) from rfl)
  have hd : xs.length.toInt32 ≤ 260 := by
    simpa [Cond.before, Cond.holds, hv] using hle
  have hN : xs.length ≤ 260 := (Int32.ofNat_le_ofNat hsm (by decide)).mp (show Int32.ofNat xs.length ≤ Int32.ofNat 260 from hd)
  exact ⟨b, xs, Cond.one_arg hc (show args[0]? = some (.ref b) from hb), hx, hN, h⟩
theorem lw_comes (l : Launch) (hflags : l.flags = flags0) : Comes l x (Jvm.Cond.code x code maxLocals ret :: tables_1) room_1 (fun tb e args s => Calls_1 tb e args s ∧ rest_1 tb e args s ∧ Pre_1 tb e args s)
    (fun _ _ args s o t => lw_Q args s o t) := by
  intro p e ha hc hk s m args below hf hfit hheap happ hpre
  obtain ⟨b, xs, hP⟩ := lw_pre_spec hpre.2.2 hpre.2.1
  obtain ⟨k, o, h1, h2, h3, hQ⟩ := lw_walk l hflags b xs p e ha hc hk s m args below hf ((Spec.applies_iff_loose hf).mp happ).1 hP trivial
  exact ⟨k, o, h1, h2, h3, hQ⟩
theorem lw_frame {s t : State} {o : Outcome} {args : Array Value} (h : Framed s o t [] 600104 7301314) :
    Framed s o t (fieldLocs frame_1_writes args s ++ arrayLocs frame_1_arrays args s ++ staticLocs frame_1_statics s) 600104 7301314 := h
theorem lw_limb (L : Cond) (hL : ∀ (args : Array Value) (s t : State), L.after args s (.returned (some (.int 1))) t = true) :
    ArmFor flags0 classFile x code maxLocals ret World_1 tables_1 room_1 Calls_1 rest_1 Pre_1
      (fun tb e a s o t => postC L tb e a s o t ∧ Framed s o t (fieldLocs frame_1_writes a s ++ arrayLocs frame_1_arrays a s ++ staticLocs frame_1_statics s) 600104 7301314) := by
  intro l hflags _ _ p e ha hc hk s m args below hf hfit hheap happ hpre
  obtain ⟨k, o, h1, h2, h3, rfl, hF⟩ := lw_comes l hflags p e ha hc hk s m args below hf hfit hheap happ hpre
  exact ⟨k, _, h1, h2, h3, hL args s _, lw_frame hF⟩
theorem i_vc : Claimed_1_1 ∧ Claimed_1_2 := ⟨lw_limb limb_1_1 (fun args s t => by simp [limb_1_1, Cond.after, Cond.holds, Cond.value]), lw_limb limb_1_2 (fun args s t => Cond.after_iff.mpr (by
  first | (rw [show limb_1_2 = Cond.eq .result (.int 1) from rfl, Cond.eq_ints (x := 1) (y := 1) rfl rfl]; simp; done) | (simp [limb_1_2, Cond.value, Term.eval]; done)))⟩
