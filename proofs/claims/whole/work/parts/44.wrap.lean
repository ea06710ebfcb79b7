/-! ===== the law's wrappers ===== -/
def LWPv (cy : Nat → ClassId) (C : List Nat) (ad : Nat → Nat) (T : Nat → (Nat → Nat → Nat) → List Nat → Prop) (r : Int32) (u : WT) : Prop := ∃ (j : Nat) (e1 : Nat → Nat → Nat) (C1 : List Nat), r = nI j ∧ j < 4 ∧ u = (C1, ad, G cy ad e1) ∧ T j e1 C1
set_option maxHeartbeats 4000000 in
set_option maxRecDepth 100000 in
theorem kL_addPerson (l : Launch) (hfl : l.stackTraces = false) (D : va_G) (cy : Nat → ClassId) (C : List Nat) (ad : Nat → Nat) (e : Nat → Nat → Nat) (sz : Nat) (k h : Nat) (hCC : CC (e 0 1) (e 0 3) C) (hW : CW e) (hk : k < 4294967296) (hh : h < 4294967296) : Met l yL_addPerson wsL_addPerson ({ frames := 8, cells := 11, slots := 3850, locals := 125 } : Room) (PreW D cy (C, ad, G cy ad e) sz [.ref (ad 0), .int (nI k), .int (nI h), .ref (ad 6)]) (va_Qi (fun (r : Int32) (u : WT) => LWP cy C ad (T_addPerson e C k h) r u) (WB D cy (AW (C, ad, G cy ad e) sz)) (AW (C, ad, G cy ad e) sz)) 11 3850 (AW (C, ad, G cy ad e) sz) := by
  refine mxw_start (cc := cL_addPerson) (maxL := 5) (ret := (some .int)) (hh := [(0, 10, 13, 13), (0, 10, 17, 15)]) (by decide) rfl (Nat.le_of_ble_eq_true rfl) ?_
  intro p9 e9 s m args below meth c hsz hr M w Th hNC htab ls hl
  have hx := M.1.1
  have hb := M.1.2.1
  have hB := hCC.B
  have hl : lv_has ls 5 [(0, .ref (ad 0)), (1, .int (nI k)), (2, .int (nI h)), (3, .ref (ad 6))] := hl
  refine lv_aload_n hx hb dL_addPerson_0 rfl (lv_at hl 3 rfl) ?_
  refine lv_iconst (v := nI 0) hx hb dL_addPerson_1 (by decide) ?_
  refine lv_aload_n hx hb dL_addPerson_2 rfl (lv_at hl 0 rfl) ?_
  refine lv_iload_n hx hb dL_addPerson_3 rfl (lv_at hl 1 rfl) ?_
  refine lv_iload_n hx hb dL_addPerson_4 rfl (lv_at hl 2 rfl) ?_
  refine mxc_Vi M w Th (kX3_addPerson l hfl D cy C ad e s.heap.size k h hCC hW hk hh) (cwV 2 M.1.2.2.2.2 gL_addPerson_X3_addPerson rfl rfl rfl (by decide +kernel) ⟨Nat.le_of_ble_eq_true rfl, Nat.le_of_ble_eq_true rfl⟩) (mo_rec M w (hB 0 (by decide)) (g := G cy ad e) (sh_0 cy ad (e 0)) rfl) rfl hl.1 rfl (Nat.le_of_ble_eq_true rfl) dL_addPerson_5 ⟨by decide, by decide⟩ (fun E ce q9 u1 H locs hce hcv hcl hp w => ?_) (fun r5 u1 H locs hp1 w => ?_)
  · rcases hp with ⟨c1, h9⟩ | ⟨c1, c2, h9⟩
    · obtain ⟨rfl, rfl⟩ := Prod.mk.inj h9
      refine mxc_catch M Th 13 [] ⟨0, 10, 13, 13⟩ [⟨0, 10, 17, 15⟩] htab rfl (fun _ h => absurd h List.not_mem_nil) (by decide) (by decide) (show Cond.classLink RL 13 eIA ∈ wsL_addPerson by decide +kernel) (by decide +kernel) hce hcv hcl ?_
      refine lv_astore (lv' := _) hx hb dL_addPerson_13 hl (by decide) rfl (fun ls hl => ?_)
      refine lv_iconst (v := nI 1) hx hb dL_addPerson_15 (by decide) ?_
      exact mx_iret M w hr (v := nI 1) (LWP_no (by decide) (by decide) (Or.inr (Or.inl ⟨rfl, c1, rfl, rfl⟩))) (by decide) (by decide) dL_addPerson_16
    · obtain ⟨rfl, rfl⟩ := Prod.mk.inj h9
      refine mxc_catch M Th 17 [⟨0, 10, 13, 13⟩] ⟨0, 10, 17, 15⟩ [] htab rfl (List.forall_mem_cons.mpr ⟨⟨by decide, eIA, show Cond.classLink RL 13 eIA ∈ wsL_addPerson by decide +kernel, hNC.2.2⟩, fun _ h => absurd h List.not_mem_nil⟩) (by decide) (by decide) (show Cond.classLink RL 15 eIS ∈ wsL_addPerson by decide +kernel) (by decide +kernel) hce hcv hcl ?_
      refine lv_astore (lv' := _) hx hb dL_addPerson_17 hl (by decide) rfl (fun ls hl => ?_)
      refine lv_iconst (v := nI 2) hx hb dL_addPerson_19 (by decide) ?_
      exact mx_iret M w hr (v := nI 2) (LWP_no (by decide) (by decide) (Or.inr (Or.inr ⟨rfl, ⟨c1, c2⟩, rfl, rfl⟩))) (by decide) (by decide) dL_addPerson_20
  · obtain ⟨c1, rfl, ad1, had, rfl⟩ := hp1
    refine lv_i2l hx hb dL_addPerson_8 rfl ?_
    rw [← had 6 (hB 6 (by decide))]
    refine ex_last M w ((CC_c9 hCC).B 6 (by decide)) dL_addPerson_9 (fun H locs w => ?_)
    refine lv_goto (tgt := 21) hx hb dL_addPerson_10 (by decide) ?_
    refine lv_iconst (v := nI 0) hx hb dL_addPerson_21 (by decide) ?_
    exact mx_iret M w hr (v := nI 0) (LWP_ok had (Or.inl ⟨rfl, c1, rfl, rfl, rfl⟩)) (by decide) (by decide) dL_addPerson_22
set_option maxHeartbeats 4000000 in
set_option maxRecDepth 100000 in
theorem kL_setHours (l : Launch) (hfl : l.stackTraces = false) (D : va_G) (cy : Nat → ClassId) (C : List Nat) (ad : Nat → Nat) (e : Nat → Nat → Nat) (sz : Nat) (k d h : Nat) (hCC : CC (e 0 1) (e 0 3) C) (hW : CW e) (hk : k < 4294967296) (hd : d < 4294967296) (hh : h < 4294967296) : Met l yL_setHours wsL_setHours ({ frames := 8, cells := 4, slots := 24, locals := 129 } : Room) (PreW D cy (C, ad, G cy ad e) sz [.ref (ad 0), .int (nI k), .int (nI d), .int (nI h), .ref (ad 6)]) (va_Qi (fun (r : Int32) (u : WT) => LWP cy C ad (T_setHours e C k d h) r u) (WB D cy (AW (C, ad, G cy ad e) sz)) (AW (C, ad, G cy ad e) sz)) 4 24 (AW (C, ad, G cy ad e) sz) := by
  refine mxw_start (cc := cL_setHours) (maxL := 6) (ret := (some .int)) (hh := [(0, 12, 15, 21), (0, 12, 19, 13), (0, 12, 23, 15)]) (by decide) rfl (Nat.le_of_ble_eq_true rfl) ?_
  intro p9 e9 s m args below meth c hsz hr M w Th hNC htab ls hl
  have hx := M.1.1
  have hb := M.1.2.1
  have hB := hCC.B
  have hl : lv_has ls 6 [(0, .ref (ad 0)), (1, .int (nI k)), (2, .int (nI d)), (3, .int (nI h)), (4, .ref (ad 6))] := hl
  refine lv_aload hx hb dL_setHours_0 (lv_at hl 4 rfl) ?_
  refine lv_iconst (v := nI 0) hx hb dL_setHours_2 (by decide) ?_
  refine lv_aload_n hx hb dL_setHours_3 rfl (lv_at hl 0 rfl) ?_
  refine lv_iload_n hx hb dL_setHours_4 rfl (lv_at hl 1 rfl) ?_
  refine lv_iload_n hx hb dL_setHours_5 rfl (lv_at hl 2 rfl) ?_
  refine lv_iload_n hx hb dL_setHours_6 rfl (lv_at hl 3 rfl) ?_
  refine mxc_Vi M w Th (kX3_setHours l hfl D cy C ad e s.heap.size k d h hCC hW hk hd hh) (cwV 3 M.1.2.2.2.2 gL_setHours_X3_setHours rfl rfl rfl (by decide +kernel) ⟨Nat.le_of_ble_eq_true rfl, Nat.le_of_ble_eq_true rfl⟩) (mo_rec M w (hB 0 (by decide)) (g := G cy ad e) (sh_0 cy ad (e 0)) rfl) rfl hl.1 rfl (Nat.le_of_ble_eq_true rfl) dL_setHours_7 ⟨by decide, by decide⟩ (fun E ce q9 u1 H locs hce hcv hcl hp w => ?_) (fun r5 u1 H locs hp1 w => ?_)
  · rcases hp with ⟨c1, h9⟩ | ⟨c1, c2, h9⟩ | ⟨c1, c2, h9⟩ | ⟨c1, c2, h9⟩
    · obtain ⟨rfl, rfl⟩ := Prod.mk.inj h9
      refine mxc_catch M Th 15 [] ⟨0, 12, 15, 21⟩ [⟨0, 12, 19, 13⟩, ⟨0, 12, 23, 15⟩] htab rfl (fun _ h => absurd h List.not_mem_nil) (by decide) (by decide) (show Cond.classLink RL 21 eIO ∈ wsL_setHours by decide +kernel) (by decide +kernel) hce hcv hcl ?_
      refine lv_astore (lv' := _) hx hb dL_setHours_15 hl (by decide) rfl (fun ls hl => ?_)
      refine lv_iconst (v := nI 1) hx hb dL_setHours_17 (by decide) ?_
      exact mx_iret M w hr (v := nI 1) (LWP_no (by decide) (by decide) (Or.inr (Or.inl ⟨rfl, c1, rfl, rfl⟩))) (by decide) (by decide) dL_setHours_18
    · obtain ⟨rfl, rfl⟩ := Prod.mk.inj h9
      refine mxc_catch M Th 19 [⟨0, 12, 15, 21⟩] ⟨0, 12, 19, 13⟩ [⟨0, 12, 23, 15⟩] htab rfl (List.forall_mem_cons.mpr ⟨⟨by decide, eIO, show Cond.classLink RL 21 eIO ∈ wsL_setHours by decide +kernel, hNC.1⟩, fun _ h => absurd h List.not_mem_nil⟩) (by decide) (by decide) (show Cond.classLink RL 13 eIA ∈ wsL_setHours by decide +kernel) (by decide +kernel) hce hcv hcl ?_
      refine lv_astore (lv' := _) hx hb dL_setHours_19 hl (by decide) rfl (fun ls hl => ?_)
      refine lv_iconst (v := nI 2) hx hb dL_setHours_21 (by decide) ?_
      exact mx_iret M w hr (v := nI 2) (LWP_no (by decide) (by decide) (Or.inr (Or.inr (Or.inl ⟨rfl, ⟨c1, fun z => c2 z.1⟩, rfl, rfl⟩)))) (by decide) (by decide) dL_setHours_22
    · obtain ⟨rfl, rfl⟩ := Prod.mk.inj h9
      refine mxc_catch M Th 19 [⟨0, 12, 15, 21⟩] ⟨0, 12, 19, 13⟩ [⟨0, 12, 23, 15⟩] htab rfl (List.forall_mem_cons.mpr ⟨⟨by decide, eIO, show Cond.classLink RL 21 eIO ∈ wsL_setHours by decide +kernel, hNC.1⟩, fun _ h => absurd h List.not_mem_nil⟩) (by decide) (by decide) (show Cond.classLink RL 13 eIA ∈ wsL_setHours by decide +kernel) (by decide +kernel) hce hcv hcl ?_
      refine lv_astore (lv' := _) hx hb dL_setHours_19 hl (by decide) rfl (fun ls hl => ?_)
      refine lv_iconst (v := nI 2) hx hb dL_setHours_21 (by decide) ?_
      exact mx_iret M w hr (v := nI 2) (LWP_no (by decide) (by decide) (Or.inr (Or.inr (Or.inl ⟨rfl, ⟨c1.1, fun z => c2 z.2⟩, rfl, rfl⟩)))) (by decide) (by decide) dL_setHours_22
    · obtain ⟨rfl, rfl⟩ := Prod.mk.inj h9
      refine mxc_catch M Th 23 [⟨0, 12, 15, 21⟩, ⟨0, 12, 19, 13⟩] ⟨0, 12, 23, 15⟩ [] htab rfl (List.forall_mem_cons.mpr ⟨⟨by decide, eIO, show Cond.classLink RL 21 eIO ∈ wsL_setHours by decide +kernel, hNC.2.1⟩, List.forall_mem_cons.mpr ⟨⟨by decide, eIA, show Cond.classLink RL 13 eIA ∈ wsL_setHours by decide +kernel, hNC.2.2⟩, fun _ h => absurd h List.not_mem_nil⟩⟩) (by decide) (by decide) (show Cond.classLink RL 15 eIS ∈ wsL_setHours by decide +kernel) (by decide +kernel) hce hcv hcl ?_
      refine lv_astore (lv' := _) hx hb dL_setHours_23 hl (by decide) rfl (fun ls hl => ?_)
      refine lv_iconst (v := nI 3) hx hb dL_setHours_25 (by decide) ?_
      exact mx_iret M w hr (v := nI 3) (LWP_no (by decide) (by decide) (Or.inr (Or.inr (Or.inr ⟨rfl, ⟨c1, c2⟩, rfl, rfl⟩)))) (by decide) (by decide) dL_setHours_26
  · obtain ⟨c1, rfl, rfl⟩ := hp1
    refine lv_i2l hx hb dL_setHours_10 rfl ?_
    refine ex_last M w (hB 6 (by decide)) dL_setHours_11 (fun H locs w => ?_)
    refine lv_goto (tgt := 27) hx hb dL_setHours_12 (by decide) ?_
    refine lv_iconst (v := nI 0) hx hb dL_setHours_27 (by decide) ?_
    exact mx_iret M w hr (v := nI 0) (LWP_ok (fun _ _ => rfl) (Or.inl ⟨rfl, c1, rfl, rfl, rfl⟩)) (by decide) (by decide) dL_setHours_28
set_option maxHeartbeats 4000000 in
set_option maxRecDepth 100000 in
theorem kL_request (l : Launch) (hfl : l.stackTraces = false) (D : va_G) (cy : Nat → ClassId) (C : List Nat) (ad : Nat → Nat) (e : Nat → Nat → Nat) (sz : Nat) (k f t h : Nat) (hCC : CC (e 0 1) (e 0 3) C) (hW : CW e) (hk : k < 4294967296) (hf : f < 4294967296) (ht : t < 4294967296) (hh : h ≤ 1) : Met l yL_request wsL_request ({ frames := 8, cells := 4, slots := 23, locals := 131 } : Room) (PreW D cy (C, ad, G cy ad e) sz [.ref (ad 0), .int (nI k), .int (nI f), .int (nI t), .int (nI h), .ref (ad 6)]) (va_Qi (fun (r : Int32) (u : WT) => LWP cy C ad (T_request e C k f t h) r u) (WB D cy (AW (C, ad, G cy ad e) sz)) (AW (C, ad, G cy ad e) sz)) 4 23 (AW (C, ad, G cy ad e) sz) := by
  refine mxw_start (cc := cL_request) (maxL := 7) (ret := (some .int)) (hh := [(0, 14, 17, 21), (0, 14, 21, 13), (0, 14, 25, 15)]) (by decide) rfl (Nat.le_of_ble_eq_true rfl) ?_
  intro p9 e9 s m args below meth c hsz hr M w Th hNC htab ls hl
  have hx := M.1.1
  have hb := M.1.2.1
  have hB := hCC.B
  have hl : lv_has ls 7 [(0, .ref (ad 0)), (1, .int (nI k)), (2, .int (nI f)), (3, .int (nI t)), (4, .int (nI h)), (5, .ref (ad 6))] := hl
  refine lv_aload hx hb dL_request_0 (lv_at hl 5 rfl) ?_
  refine lv_iconst (v := nI 0) hx hb dL_request_2 (by decide) ?_
  refine lv_aload_n hx hb dL_request_3 rfl (lv_at hl 0 rfl) ?_
  refine lv_iload_n hx hb dL_request_4 rfl (lv_at hl 1 rfl) ?_
  refine lv_iload_n hx hb dL_request_5 rfl (lv_at hl 2 rfl) ?_
  refine lv_iload_n hx hb dL_request_6 rfl (lv_at hl 3 rfl) ?_
  refine lv_iload hx hb dL_request_7 (lv_at hl 4 rfl) ?_
  refine mxc_Vi M w Th (kX3_request l hfl D cy C ad e s.heap.size k f t h hCC hW hk hf ht hh) (cwV 4 M.1.2.2.2.2 gL_request_X3_request rfl rfl rfl (by decide +kernel) ⟨Nat.le_of_ble_eq_true rfl, Nat.le_of_ble_eq_true rfl⟩) (mo_rec M w (hB 0 (by decide)) (g := G cy ad e) (sh_0 cy ad (e 0)) rfl) rfl hl.1 rfl (Nat.le_of_ble_eq_true rfl) dL_request_9 ⟨by decide, by decide⟩ (fun E ce q9 u1 H locs hce hcv hcl hp w => ?_) (fun r5 u1 H locs hp1 w => ?_)
  · rcases hp with ⟨c1, h9⟩ | ⟨c1, c2, h9⟩ | ⟨c1, c2, h9⟩
    · obtain ⟨rfl, rfl⟩ := Prod.mk.inj h9
      refine mxc_catch M Th 17 [] ⟨0, 14, 17, 21⟩ [⟨0, 14, 21, 13⟩, ⟨0, 14, 25, 15⟩] htab rfl (fun _ h => absurd h List.not_mem_nil) (by decide) (by decide) (show Cond.classLink RL 21 eIO ∈ wsL_request by decide +kernel) (by decide +kernel) hce hcv hcl ?_
      refine lv_astore (lv' := _) hx hb dL_request_17 hl (by decide) rfl (fun ls hl => ?_)
      refine lv_iconst (v := nI 1) hx hb dL_request_19 (by decide) ?_
      exact mx_iret M w hr (v := nI 1) (LWP_no (by decide) (by decide) (Or.inr (Or.inl ⟨rfl, c1, rfl, rfl⟩))) (by decide) (by decide) dL_request_20
    · obtain ⟨rfl, rfl⟩ := Prod.mk.inj h9
      refine mxc_catch M Th 21 [⟨0, 14, 17, 21⟩] ⟨0, 14, 21, 13⟩ [⟨0, 14, 25, 15⟩] htab rfl (List.forall_mem_cons.mpr ⟨⟨by decide, eIO, show Cond.classLink RL 21 eIO ∈ wsL_request by decide +kernel, hNC.1⟩, fun _ h => absurd h List.not_mem_nil⟩) (by decide) (by decide) (show Cond.classLink RL 13 eIA ∈ wsL_request by decide +kernel) (by decide +kernel) hce hcv hcl ?_
      refine lv_astore (lv' := _) hx hb dL_request_21 hl (by decide) rfl (fun ls hl => ?_)
      refine lv_iconst (v := nI 2) hx hb dL_request_23 (by decide) ?_
      exact mx_iret M w hr (v := nI 2) (LWP_no (by decide) (by decide) (Or.inr (Or.inr (Or.inl ⟨rfl, ⟨c1, c2⟩, rfl, rfl⟩)))) (by decide) (by decide) dL_request_24
    · obtain ⟨rfl, rfl⟩ := Prod.mk.inj h9
      refine mxc_catch M Th 25 [⟨0, 14, 17, 21⟩, ⟨0, 14, 21, 13⟩] ⟨0, 14, 25, 15⟩ [] htab rfl (List.forall_mem_cons.mpr ⟨⟨by decide, eIO, show Cond.classLink RL 21 eIO ∈ wsL_request by decide +kernel, hNC.2.1⟩, List.forall_mem_cons.mpr ⟨⟨by decide, eIA, show Cond.classLink RL 13 eIA ∈ wsL_request by decide +kernel, hNC.2.2⟩, fun _ h => absurd h List.not_mem_nil⟩⟩) (by decide) (by decide) (show Cond.classLink RL 15 eIS ∈ wsL_request by decide +kernel) (by decide +kernel) hce hcv hcl ?_
      refine lv_astore (lv' := _) hx hb dL_request_25 hl (by decide) rfl (fun ls hl => ?_)
      refine lv_iconst (v := nI 3) hx hb dL_request_27 (by decide) ?_
      exact mx_iret M w hr (v := nI 3) (LWP_no (by decide) (by decide) (Or.inr (Or.inr (Or.inr ⟨rfl, ⟨c1, c2⟩, rfl, rfl⟩)))) (by decide) (by decide) dL_request_28
  · obtain ⟨c1, rfl, ad1, had, rfl⟩ := hp1
    refine lv_i2l hx hb dL_request_12 rfl ?_
    rw [← had 6 (hB 6 (by decide))]
    refine ex_last M w (hCC.rq1.B 6 (by decide)) dL_request_13 (fun H locs w => ?_)
    refine lv_goto (tgt := 29) hx hb dL_request_14 (by decide) ?_
    refine lv_iconst (v := nI 0) hx hb dL_request_29 (by decide) ?_
    exact mx_iret M w hr (v := nI 0) (LWP_ok had (Or.inl ⟨rfl, c1, rfl, rfl, rfl⟩)) (by decide) (by decide) dL_request_30
set_option maxHeartbeats 4000000 in
set_option maxRecDepth 100000 in
theorem kL_change (l : Launch) (hfl : l.stackTraces = false) (D : va_G) (cy : Nat → ClassId) (C : List Nat) (ad : Nat → Nat) (e : Nat → Nat → Nat) (sz : Nat) (k f t : Nat) (hCC : CC (e 0 1) (e 0 3) C) (hW : CW e) (hk : k < 4294967296) (hf : f < 4294967296) (ht : t < 4294967296) : Met l yL_change wsL_change ({ frames := 8, cells := 3, slots := 18, locals := 130 } : Room) (PreW D cy (C, ad, G cy ad e) sz [.ref (ad 0), .int (nI k), .int (nI f), .int (nI t), .ref (ad 6)]) (va_Qi (fun (r : Int32) (u : WT) => LWP cy C ad (T_change e C k f t) r u) (WB D cy (AW (C, ad, G cy ad e) sz)) (AW (C, ad, G cy ad e) sz)) 3 18 (AW (C, ad, G cy ad e) sz) := by
  refine mxw_start (cc := cL_change) (maxL := 6) (ret := (some .int)) (hh := [(0, 12, 15, 21), (0, 12, 19, 13), (0, 12, 23, 15)]) (by decide) rfl (Nat.le_of_ble_eq_true rfl) ?_
  intro p9 e9 s m args below meth c hsz hr M w Th hNC htab ls hl
  have hx := M.1.1
  have hb := M.1.2.1
  have hB := hCC.B
  have hl : lv_has ls 6 [(0, .ref (ad 0)), (1, .int (nI k)), (2, .int (nI f)), (3, .int (nI t)), (4, .ref (ad 6))] := hl
  refine lv_aload hx hb dL_change_0 (lv_at hl 4 rfl) ?_
  refine lv_iconst (v := nI 0) hx hb dL_change_2 (by decide) ?_
  refine lv_aload_n hx hb dL_change_3 rfl (lv_at hl 0 rfl) ?_
  refine lv_iload_n hx hb dL_change_4 rfl (lv_at hl 1 rfl) ?_
  refine lv_iload_n hx hb dL_change_5 rfl (lv_at hl 2 rfl) ?_
  refine lv_iload_n hx hb dL_change_6 rfl (lv_at hl 3 rfl) ?_
  refine mxc_Vi M w Th (kX3_change l hfl D cy C ad e s.heap.size k f t hCC hW hk hf ht) (cwV 3 M.1.2.2.2.2 gL_change_X3_change rfl rfl rfl (by decide +kernel) ⟨Nat.le_of_ble_eq_true rfl, Nat.le_of_ble_eq_true rfl⟩) (mo_rec M w (hB 0 (by decide)) (g := G cy ad e) (sh_0 cy ad (e 0)) rfl) rfl hl.1 rfl (Nat.le_of_ble_eq_true rfl) dL_change_7 ⟨by decide, by decide⟩ (fun E ce q9 u1 H locs hce hcv hcl hp w => ?_) (fun r5 u1 H locs hp1 w => ?_)
  · rcases hp with ⟨c1, h9⟩ | ⟨c1, c2, h9⟩ | ⟨c1, c2, h9⟩
    · obtain ⟨rfl, rfl⟩ := Prod.mk.inj h9
      refine mxc_catch M Th 15 [] ⟨0, 12, 15, 21⟩ [⟨0, 12, 19, 13⟩, ⟨0, 12, 23, 15⟩] htab rfl (fun _ h => absurd h List.not_mem_nil) (by decide) (by decide) (show Cond.classLink RL 21 eIO ∈ wsL_change by decide +kernel) (by decide +kernel) hce hcv hcl ?_
      refine lv_astore (lv' := _) hx hb dL_change_15 hl (by decide) rfl (fun ls hl => ?_)
      refine lv_iconst (v := nI 1) hx hb dL_change_17 (by decide) ?_
      exact mx_iret M w hr (v := nI 1) (LWP_no (by decide) (by decide) (Or.inr (Or.inl ⟨rfl, c1, rfl, rfl⟩))) (by decide) (by decide) dL_change_18
    · obtain ⟨rfl, rfl⟩ := Prod.mk.inj h9
      refine mxc_catch M Th 19 [⟨0, 12, 15, 21⟩] ⟨0, 12, 19, 13⟩ [⟨0, 12, 23, 15⟩] htab rfl (List.forall_mem_cons.mpr ⟨⟨by decide, eIO, show Cond.classLink RL 21 eIO ∈ wsL_change by decide +kernel, hNC.1⟩, fun _ h => absurd h List.not_mem_nil⟩) (by decide) (by decide) (show Cond.classLink RL 13 eIA ∈ wsL_change by decide +kernel) (by decide +kernel) hce hcv hcl ?_
      refine lv_astore (lv' := _) hx hb dL_change_19 hl (by decide) rfl (fun ls hl => ?_)
      refine lv_iconst (v := nI 2) hx hb dL_change_21 (by decide) ?_
      exact mx_iret M w hr (v := nI 2) (LWP_no (by decide) (by decide) (Or.inr (Or.inr (Or.inl ⟨rfl, ⟨c1, c2⟩, rfl, rfl⟩)))) (by decide) (by decide) dL_change_22
    · obtain ⟨rfl, rfl⟩ := Prod.mk.inj h9
      refine mxc_catch M Th 23 [⟨0, 12, 15, 21⟩, ⟨0, 12, 19, 13⟩] ⟨0, 12, 23, 15⟩ [] htab rfl (List.forall_mem_cons.mpr ⟨⟨by decide, eIO, show Cond.classLink RL 21 eIO ∈ wsL_change by decide +kernel, hNC.2.1⟩, List.forall_mem_cons.mpr ⟨⟨by decide, eIA, show Cond.classLink RL 13 eIA ∈ wsL_change by decide +kernel, hNC.2.2⟩, fun _ h => absurd h List.not_mem_nil⟩⟩) (by decide) (by decide) (show Cond.classLink RL 15 eIS ∈ wsL_change by decide +kernel) (by decide +kernel) hce hcv hcl ?_
      refine lv_astore (lv' := _) hx hb dL_change_23 hl (by decide) rfl (fun ls hl => ?_)
      refine lv_iconst (v := nI 3) hx hb dL_change_25 (by decide) ?_
      exact mx_iret M w hr (v := nI 3) (LWP_no (by decide) (by decide) (Or.inr (Or.inr (Or.inr ⟨rfl, ⟨c1, c2⟩, rfl, rfl⟩)))) (by decide) (by decide) dL_change_26
  · obtain ⟨c1, rfl, rfl⟩ := hp1
    refine lv_i2l hx hb dL_change_10 rfl ?_
    refine ex_last M w (hB 6 (by decide)) dL_change_11 (fun H locs w => ?_)
    refine lv_goto (tgt := 27) hx hb dL_change_12 (by decide) ?_
    refine lv_iconst (v := nI 0) hx hb dL_change_27 (by decide) ?_
    exact mx_iret M w hr (v := nI 0) (LWP_ok (fun _ _ => rfl) (Or.inl ⟨rfl, c1, rfl, rfl, rfl⟩)) (by decide) (by decide) dL_change_28
set_option maxHeartbeats 4000000 in
set_option maxRecDepth 100000 in
theorem kL_cancel (l : Launch) (hfl : l.stackTraces = false) (D : va_G) (cy : Nat → ClassId) (C : List Nat) (ad : Nat → Nat) (e : Nat → Nat → Nat) (sz : Nat) (k : Nat) (hCC : CC (e 0 1) (e 0 3) C) (hW : CW e) (hk : k < 4294967296) : Met l yL_cancel wsL_cancel ({ frames := 8, cells := 2, slots := 12, locals := 126 } : Room) (PreW D cy (C, ad, G cy ad e) sz [.ref (ad 0), .int (nI k)]) (va_Qi (fun (r : Int32) (u : WT) => LWPv cy C ad (T_cancel e C k) r u) (WB D cy (AW (C, ad, G cy ad e) sz)) (AW (C, ad, G cy ad e) sz)) 2 12 (AW (C, ad, G cy ad e) sz) := by
  refine mxw_start (cc := cL_cancel) (maxL := 3) (ret := (some .int)) (hh := [(0, 5, 8, 21), (0, 5, 11, 15)]) (by decide) rfl (Nat.le_of_ble_eq_true rfl) ?_
  intro p9 e9 s m args below meth c hsz hr M w Th hNC htab ls hl
  have hx := M.1.1
  have hb := M.1.2.1
  have hB := hCC.B
  have hl : lv_has ls 3 [(0, .ref (ad 0)), (1, .int (nI k))] := hl
  refine lv_aload_n hx hb dL_cancel_0 rfl (lv_at hl 0 rfl) ?_
  refine lv_iload_n hx hb dL_cancel_1 rfl (lv_at hl 1 rfl) ?_
  refine mxc_Vv M w Th (kX3_cancel l hfl D cy C ad e s.heap.size k hCC hW hk) (cwV 1 M.1.2.2.2.2 gL_cancel_X3_cancel rfl rfl rfl (by decide +kernel) ⟨Nat.le_of_ble_eq_true rfl, Nat.le_of_ble_eq_true rfl⟩) (mo_rec M w (hB 0 (by decide)) (g := G cy ad e) (sh_0 cy ad (e 0)) rfl) rfl hl.1 rfl (Nat.le_of_ble_eq_true rfl) dL_cancel_2 ⟨by decide, by decide⟩ (fun E ce q9 u1 H locs hce hcv hcl hp w => ?_) (fun u1 H locs hp1 w => ?_)
  · rcases hp with ⟨c1, h9⟩ | ⟨c1, c2, h9⟩
    · obtain ⟨rfl, rfl⟩ := Prod.mk.inj h9
      refine mxc_catch M Th 8 [] ⟨0, 5, 8, 21⟩ [⟨0, 5, 11, 15⟩] htab rfl (fun _ h => absurd h List.not_mem_nil) (by decide) (by decide) (show Cond.classLink RL 21 eIO ∈ wsL_cancel by decide +kernel) (by decide +kernel) hce hcv hcl ?_
      refine lv_astore_n (lv' := _) hx hb dL_cancel_8 rfl hl (by decide) rfl (fun ls hl => ?_)
      refine lv_iconst (v := nI 1) hx hb dL_cancel_9 (by decide) ?_
      exact mx_iret M w hr (v := nI 1) ⟨1, _, _, rfl, by decide, rfl, (Or.inr (Or.inl ⟨rfl, c1, rfl, rfl⟩))⟩ (by decide) (by decide) dL_cancel_10
    · obtain ⟨rfl, rfl⟩ := Prod.mk.inj h9
      refine mxc_catch M Th 11 [⟨0, 5, 8, 21⟩] ⟨0, 5, 11, 15⟩ [] htab rfl (List.forall_mem_cons.mpr ⟨⟨by decide, eIO, show Cond.classLink RL 21 eIO ∈ wsL_cancel by decide +kernel, hNC.2.1⟩, fun _ h => absurd h List.not_mem_nil⟩) (by decide) (by decide) (show Cond.classLink RL 15 eIS ∈ wsL_cancel by decide +kernel) (by decide +kernel) hce hcv hcl ?_
      refine lv_astore_n (lv' := _) hx hb dL_cancel_11 rfl hl (by decide) rfl (fun ls hl => ?_)
      refine lv_iconst (v := nI 2) hx hb dL_cancel_12 (by decide) ?_
      exact mx_iret M w hr (v := nI 2) ⟨2, _, _, rfl, by decide, rfl, (Or.inr (Or.inr ⟨rfl, ⟨c1, c2⟩, rfl, rfl⟩))⟩ (by decide) (by decide) dL_cancel_13
  · obtain ⟨c1, rfl⟩ := hp1
    refine lv_goto (tgt := 14) hx hb dL_cancel_5 (by decide) ?_
    refine lv_iconst (v := nI 0) hx hb dL_cancel_14 (by decide) ?_
    exact mx_iret M w hr (v := nI 0) ⟨0, _, _, rfl, by decide, rfl, (Or.inl ⟨rfl, c1, rfl, rfl⟩)⟩ (by decide) (by decide) dL_cancel_15
set_option maxHeartbeats 4000000 in
set_option maxRecDepth 100000 in
theorem kL_sick (l : Launch) (hfl : l.stackTraces = false) (D : va_G) (cy : Nat → ClassId) (C : List Nat) (ad : Nat → Nat) (e : Nat → Nat → Nat) (sz : Nat) (k f t : Nat) (hCC : CC (e 0 1) (e 0 3) C) (hW : CW e) (hk : k < 4294967296) (hf : f < 4294967296) (ht : t < 4294967296) : Met l yL_sick wsL_sick ({ frames := 8, cells := 3, slots := 18, locals := 128 } : Room) (PreW D cy (C, ad, G cy ad e) sz [.ref (ad 0), .int (nI k), .int (nI f), .int (nI t), .ref (ad 6)]) (va_Qi (fun (r : Int32) (u : WT) => LWP cy C ad (T_sick e C k f t) r u) (WB D cy (AW (C, ad, G cy ad e) sz)) (AW (C, ad, G cy ad e) sz)) 3 18 (AW (C, ad, G cy ad e) sz) := by
  refine mxw_start (cc := cL_sick) (maxL := 6) (ret := (some .int)) (hh := [(0, 12, 15, 21), (0, 12, 19, 13), (0, 12, 23, 15)]) (by decide) rfl (Nat.le_of_ble_eq_true rfl) ?_
  intro p9 e9 s m args below meth c hsz hr M w Th hNC htab ls hl
  have hx := M.1.1
  have hb := M.1.2.1
  have hB := hCC.B
  have hl : lv_has ls 6 [(0, .ref (ad 0)), (1, .int (nI k)), (2, .int (nI f)), (3, .int (nI t)), (4, .ref (ad 6))] := hl
  refine lv_aload hx hb dL_sick_0 (lv_at hl 4 rfl) ?_
  refine lv_iconst (v := nI 0) hx hb dL_sick_2 (by decide) ?_
  refine lv_aload_n hx hb dL_sick_3 rfl (lv_at hl 0 rfl) ?_
  refine lv_iload_n hx hb dL_sick_4 rfl (lv_at hl 1 rfl) ?_
  refine lv_iload_n hx hb dL_sick_5 rfl (lv_at hl 2 rfl) ?_
  refine lv_iload_n hx hb dL_sick_6 rfl (lv_at hl 3 rfl) ?_
  refine mxc_Vi M w Th (kX3_sick l hfl D cy C ad e s.heap.size k f t hCC hW hk hf ht) (cwV 3 M.1.2.2.2.2 gL_sick_X3_sick rfl rfl rfl (by decide +kernel) ⟨Nat.le_of_ble_eq_true rfl, Nat.le_of_ble_eq_true rfl⟩) (mo_rec M w (hB 0 (by decide)) (g := G cy ad e) (sh_0 cy ad (e 0)) rfl) rfl hl.1 rfl (Nat.le_of_ble_eq_true rfl) dL_sick_7 ⟨by decide, by decide⟩ (fun E ce q9 u1 H locs hce hcv hcl hp w => ?_) (fun r5 u1 H locs hp1 w => ?_)
  · rcases hp with ⟨c1, h9⟩ | ⟨c1, c2, h9⟩ | ⟨c1, c2, h9⟩
    · obtain ⟨rfl, rfl⟩ := Prod.mk.inj h9
      refine mxc_catch M Th 15 [] ⟨0, 12, 15, 21⟩ [⟨0, 12, 19, 13⟩, ⟨0, 12, 23, 15⟩] htab rfl (fun _ h => absurd h List.not_mem_nil) (by decide) (by decide) (show Cond.classLink RL 21 eIO ∈ wsL_sick by decide +kernel) (by decide +kernel) hce hcv hcl ?_
      refine lv_astore (lv' := _) hx hb dL_sick_15 hl (by decide) rfl (fun ls hl => ?_)
      refine lv_iconst (v := nI 1) hx hb dL_sick_17 (by decide) ?_
      exact mx_iret M w hr (v := nI 1) (LWP_no (by decide) (by decide) (Or.inr (Or.inl ⟨rfl, c1, rfl, rfl⟩))) (by decide) (by decide) dL_sick_18
    · obtain ⟨rfl, rfl⟩ := Prod.mk.inj h9
      refine mxc_catch M Th 19 [⟨0, 12, 15, 21⟩] ⟨0, 12, 19, 13⟩ [⟨0, 12, 23, 15⟩] htab rfl (List.forall_mem_cons.mpr ⟨⟨by decide, eIO, show Cond.classLink RL 21 eIO ∈ wsL_sick by decide +kernel, hNC.1⟩, fun _ h => absurd h List.not_mem_nil⟩) (by decide) (by decide) (show Cond.classLink RL 13 eIA ∈ wsL_sick by decide +kernel) (by decide +kernel) hce hcv hcl ?_
      refine lv_astore (lv' := _) hx hb dL_sick_19 hl (by decide) rfl (fun ls hl => ?_)
      refine lv_iconst (v := nI 2) hx hb dL_sick_21 (by decide) ?_
      exact mx_iret M w hr (v := nI 2) (LWP_no (by decide) (by decide) (Or.inr (Or.inr (Or.inl ⟨rfl, ⟨c1, c2⟩, rfl, rfl⟩)))) (by decide) (by decide) dL_sick_22
    · obtain ⟨rfl, rfl⟩ := Prod.mk.inj h9
      refine mxc_catch M Th 23 [⟨0, 12, 15, 21⟩, ⟨0, 12, 19, 13⟩] ⟨0, 12, 23, 15⟩ [] htab rfl (List.forall_mem_cons.mpr ⟨⟨by decide, eIO, show Cond.classLink RL 21 eIO ∈ wsL_sick by decide +kernel, hNC.2.1⟩, List.forall_mem_cons.mpr ⟨⟨by decide, eIA, show Cond.classLink RL 13 eIA ∈ wsL_sick by decide +kernel, hNC.2.2⟩, fun _ h => absurd h List.not_mem_nil⟩⟩) (by decide) (by decide) (show Cond.classLink RL 15 eIS ∈ wsL_sick by decide +kernel) (by decide +kernel) hce hcv hcl ?_
      refine lv_astore (lv' := _) hx hb dL_sick_23 hl (by decide) rfl (fun ls hl => ?_)
      refine lv_iconst (v := nI 3) hx hb dL_sick_25 (by decide) ?_
      exact mx_iret M w hr (v := nI 3) (LWP_no (by decide) (by decide) (Or.inr (Or.inr (Or.inr ⟨rfl, ⟨c1, c2⟩, rfl, rfl⟩)))) (by decide) (by decide) dL_sick_26
  · obtain ⟨c1, rfl, rfl⟩ := hp1
    refine lv_i2l hx hb dL_sick_10 rfl ?_
    refine ex_last M w (hB 6 (by decide)) dL_sick_11 (fun H locs w => ?_)
    refine lv_goto (tgt := 27) hx hb dL_sick_12 (by decide) ?_
    refine lv_iconst (v := nI 0) hx hb dL_sick_27 (by decide) ?_
    exact mx_iret M w hr (v := nI 0) (LWP_ok (fun _ _ => rfl) (Or.inl ⟨rfl, c1, rfl, rfl, rfl⟩)) (by decide) (by decide) dL_sick_28
set_option maxHeartbeats 4000000 in
set_option maxRecDepth 100000 in
theorem kL_payOut (l : Launch) (hfl : l.stackTraces = false) (D : va_G) (cy : Nat → ClassId) (C : List Nat) (ad : Nat → Nat) (e : Nat → Nat → Nat) (sz : Nat) (k h : Nat) (hCC : CC (e 0 1) (e 0 3) C) (hW : CW e) (hk : k < 4294967296) (hh : h < 4294967296) : Met l yL_payOut wsL_payOut ({ frames := 8, cells := 4, slots := 24, locals := 128 } : Room) (PreW D cy (C, ad, G cy ad e) sz [.ref (ad 0), .int (nI k), .int (nI h), .ref (ad 6)]) (va_Qi (fun (r : Int32) (u : WT) => LWP cy C ad (T_payOut e C k h) r u) (WB D cy (AW (C, ad, G cy ad e) sz)) (AW (C, ad, G cy ad e) sz)) 4 24 (AW (C, ad, G cy ad e) sz) := by
  refine mxw_start (cc := cL_payOut) (maxL := 5) (ret := (some .int)) (hh := [(0, 10, 13, 21), (0, 10, 17, 13), (0, 10, 21, 15)]) (by decide) rfl (Nat.le_of_ble_eq_true rfl) ?_
  intro p9 e9 s m args below meth c hsz hr M w Th hNC htab ls hl
  have hx := M.1.1
  have hb := M.1.2.1
  have hB := hCC.B
  have hl : lv_has ls 5 [(0, .ref (ad 0)), (1, .int (nI k)), (2, .int (nI h)), (3, .ref (ad 6))] := hl
  refine lv_aload_n hx hb dL_payOut_0 rfl (lv_at hl 3 rfl) ?_
  refine lv_iconst (v := nI 0) hx hb dL_payOut_1 (by decide) ?_
  refine lv_aload_n hx hb dL_payOut_2 rfl (lv_at hl 0 rfl) ?_
  refine lv_iload_n hx hb dL_payOut_3 rfl (lv_at hl 1 rfl) ?_
  refine lv_iload_n hx hb dL_payOut_4 rfl (lv_at hl 2 rfl) ?_
  refine mxc_Vi M w Th (kX3_payOut l hfl D cy C ad e s.heap.size k h hCC hW hk hh) (cwV 2 M.1.2.2.2.2 gL_payOut_X3_payOut rfl rfl rfl (by decide +kernel) ⟨Nat.le_of_ble_eq_true rfl, Nat.le_of_ble_eq_true rfl⟩) (mo_rec M w (hB 0 (by decide)) (g := G cy ad e) (sh_0 cy ad (e 0)) rfl) rfl hl.1 rfl (Nat.le_of_ble_eq_true rfl) dL_payOut_5 ⟨by decide, by decide⟩ (fun E ce q9 u1 H locs hce hcv hcl hp w => ?_) (fun r5 u1 H locs hp1 w => ?_)
  · rcases hp with ⟨c1, h9⟩ | ⟨c1, c2, h9⟩ | ⟨c1, c2, h9⟩ | ⟨c1, c2, h9⟩
    · obtain ⟨rfl, rfl⟩ := Prod.mk.inj h9
      refine mxc_catch M Th 13 [] ⟨0, 10, 13, 21⟩ [⟨0, 10, 17, 13⟩, ⟨0, 10, 21, 15⟩] htab rfl (fun _ h => absurd h List.not_mem_nil) (by decide) (by decide) (show Cond.classLink RL 21 eIO ∈ wsL_payOut by decide +kernel) (by decide +kernel) hce hcv hcl ?_
      refine lv_astore (lv' := _) hx hb dL_payOut_13 hl (by decide) rfl (fun ls hl => ?_)
      refine lv_iconst (v := nI 1) hx hb dL_payOut_15 (by decide) ?_
      exact mx_iret M w hr (v := nI 1) (LWP_no (by decide) (by decide) (Or.inr (Or.inl ⟨rfl, c1, rfl, rfl⟩))) (by decide) (by decide) dL_payOut_16
    · obtain ⟨rfl, rfl⟩ := Prod.mk.inj h9
      refine mxc_catch M Th 17 [⟨0, 10, 13, 21⟩] ⟨0, 10, 17, 13⟩ [⟨0, 10, 21, 15⟩] htab rfl (List.forall_mem_cons.mpr ⟨⟨by decide, eIO, show Cond.classLink RL 21 eIO ∈ wsL_payOut by decide +kernel, hNC.1⟩, fun _ h => absurd h List.not_mem_nil⟩) (by decide) (by decide) (show Cond.classLink RL 13 eIA ∈ wsL_payOut by decide +kernel) (by decide +kernel) hce hcv hcl ?_
      refine lv_astore (lv' := _) hx hb dL_payOut_17 hl (by decide) rfl (fun ls hl => ?_)
      refine lv_iconst (v := nI 2) hx hb dL_payOut_19 (by decide) ?_
      exact mx_iret M w hr (v := nI 2) (LWP_no (by decide) (by decide) (Or.inr (Or.inr (Or.inl ⟨rfl, ⟨c1, c2⟩, rfl, rfl⟩)))) (by decide) (by decide) dL_payOut_20
    · obtain ⟨rfl, rfl⟩ := Prod.mk.inj h9
      refine mxc_catch M Th 21 [⟨0, 10, 13, 21⟩, ⟨0, 10, 17, 13⟩] ⟨0, 10, 21, 15⟩ [] htab rfl (List.forall_mem_cons.mpr ⟨⟨by decide, eIO, show Cond.classLink RL 21 eIO ∈ wsL_payOut by decide +kernel, hNC.2.1⟩, List.forall_mem_cons.mpr ⟨⟨by decide, eIA, show Cond.classLink RL 13 eIA ∈ wsL_payOut by decide +kernel, hNC.2.2⟩, fun _ h => absurd h List.not_mem_nil⟩⟩) (by decide) (by decide) (show Cond.classLink RL 15 eIS ∈ wsL_payOut by decide +kernel) (by decide +kernel) hce hcv hcl ?_
      refine lv_astore (lv' := _) hx hb dL_payOut_21 hl (by decide) rfl (fun ls hl => ?_)
      refine lv_iconst (v := nI 3) hx hb dL_payOut_23 (by decide) ?_
      exact mx_iret M w hr (v := nI 3) (LWP_no (by decide) (by decide) (Or.inr (Or.inr (Or.inr (Or.inl ⟨rfl, ⟨c1, c2⟩, rfl, rfl⟩))))) (by decide) (by decide) dL_payOut_24
    · obtain ⟨rfl, rfl⟩ := Prod.mk.inj h9
      refine mxc_catch M Th 21 [⟨0, 10, 13, 21⟩, ⟨0, 10, 17, 13⟩] ⟨0, 10, 21, 15⟩ [] htab rfl (List.forall_mem_cons.mpr ⟨⟨by decide, eIO, show Cond.classLink RL 21 eIO ∈ wsL_payOut by decide +kernel, hNC.2.1⟩, List.forall_mem_cons.mpr ⟨⟨by decide, eIA, show Cond.classLink RL 13 eIA ∈ wsL_payOut by decide +kernel, hNC.2.2⟩, fun _ h => absurd h List.not_mem_nil⟩⟩) (by decide) (by decide) (show Cond.classLink RL 15 eIS ∈ wsL_payOut by decide +kernel) (by decide +kernel) hce hcv hcl ?_
      refine lv_astore (lv' := _) hx hb dL_payOut_21 hl (by decide) rfl (fun ls hl => ?_)
      refine lv_iconst (v := nI 3) hx hb dL_payOut_23 (by decide) ?_
      exact mx_iret M w hr (v := nI 3) (LWP_no (by decide) (by decide) (Or.inr (Or.inr (Or.inr (Or.inr ⟨rfl, ⟨c1, c2⟩, rfl, rfl⟩))))) (by decide) (by decide) dL_payOut_24
  · obtain ⟨c1, rfl, rfl⟩ := hp1
    refine lv_i2l hx hb dL_payOut_8 rfl ?_
    refine ex_last M w (hB 6 (by decide)) dL_payOut_9 (fun H locs w => ?_)
    refine lv_goto (tgt := 25) hx hb dL_payOut_10 (by decide) ?_
    refine lv_iconst (v := nI 0) hx hb dL_payOut_25 (by decide) ?_
    exact mx_iret M w hr (v := nI 0) (LWP_ok (fun _ _ => rfl) (Or.inl ⟨rfl, c1, rfl, rfl, rfl⟩)) (by decide) (by decide) dL_payOut_26
set_option maxHeartbeats 4000000 in
set_option maxRecDepth 100000 in
theorem kL_pass (l : Launch) (hfl : l.stackTraces = false) (D : va_G) (cy : Nat → ClassId) (C : List Nat) (ad : Nat → Nat) (e : Nat → Nat → Nat) (sz : Nat) (d : Nat) (hCC : CC (e 0 1) (e 0 3) C) (hW : CW e) (hd : d < 4294967296) : Met l yL_pass wsL_pass ({ frames := 7, cells := 1, slots := 6, locals := 103 } : Room) (PreW D cy (C, ad, G cy ad e) sz [.ref (ad 0), .int (nI d), .ref (ad 6)]) (va_Qi (fun (r : Int32) (u : WT) => LWP cy C ad (T_pass e C d) r u) (WB D cy (AW (C, ad, G cy ad e) sz)) (AW (C, ad, G cy ad e) sz)) 1 6 (AW (C, ad, G cy ad e) sz) := by
  refine mxw_start (cc := cL_pass) (maxL := 4) (ret := (some .int)) (hh := [(0, 9, 12, 13), (0, 9, 15, 15)]) (by decide) rfl (Nat.le_of_ble_eq_true rfl) ?_
  intro p9 e9 s m args below meth c hsz hr M w Th hNC htab ls hl
  have hx := M.1.1
  have hb := M.1.2.1
  have hB := hCC.B
  have hl : lv_has ls 4 [(0, .ref (ad 0)), (1, .int (nI d)), (2, .ref (ad 6))] := hl
  refine lv_aload_n hx hb dL_pass_0 rfl (lv_at hl 2 rfl) ?_
  refine lv_iconst (v := nI 0) hx hb dL_pass_1 (by decide) ?_
  refine lv_aload_n hx hb dL_pass_2 rfl (lv_at hl 0 rfl) ?_
  refine lv_iload_n hx hb dL_pass_3 rfl (lv_at hl 1 rfl) ?_
  refine mxc_Vi M w Th (kX3_pass l hfl D cy C ad e s.heap.size d hCC.B hW hd) (cwV 1 M.1.2.2.2.2 gL_pass_X3_pass rfl rfl rfl (by decide +kernel) ⟨Nat.le_of_ble_eq_true rfl, Nat.le_of_ble_eq_true rfl⟩) (mo_rec M w (hB 0 (by decide)) (g := G cy ad e) (sh_0 cy ad (e 0)) rfl) rfl hl.1 rfl (Nat.le_of_ble_eq_true rfl) dL_pass_4 ⟨by decide, by decide⟩ (fun E ce q9 u1 H locs hce hcv hcl hp w => ?_) (fun r5 u1 H locs hp1 w => ?_)
  · rcases hp with ⟨c1, h9⟩ | ⟨c1, c2, h9⟩
    · obtain ⟨rfl, rfl⟩ := Prod.mk.inj h9
      refine mxc_catch M Th 12 [] ⟨0, 9, 12, 13⟩ [⟨0, 9, 15, 15⟩] htab rfl (fun _ h => absurd h List.not_mem_nil) (by decide) (by decide) (show Cond.classLink RL 13 eIA ∈ wsL_pass by decide +kernel) (by decide +kernel) hce hcv hcl ?_
      refine lv_astore_n (lv' := _) hx hb dL_pass_12 rfl hl (by decide) rfl (fun ls hl => ?_)
      refine lv_iconst (v := nI 1) hx hb dL_pass_13 (by decide) ?_
      exact mx_iret M w hr (v := nI 1) (LWP_no (by decide) (by decide) (Or.inr (Or.inl ⟨rfl, c1, rfl, rfl⟩))) (by decide) (by decide) dL_pass_14
    · obtain ⟨rfl, rfl⟩ := Prod.mk.inj h9
      refine mxc_catch M Th 15 [⟨0, 9, 12, 13⟩] ⟨0, 9, 15, 15⟩ [] htab rfl (List.forall_mem_cons.mpr ⟨⟨by decide, eIA, show Cond.classLink RL 13 eIA ∈ wsL_pass by decide +kernel, hNC.2.2⟩, fun _ h => absurd h List.not_mem_nil⟩) (by decide) (by decide) (show Cond.classLink RL 15 eIS ∈ wsL_pass by decide +kernel) (by decide +kernel) hce hcv hcl ?_
      refine lv_astore_n (lv' := _) hx hb dL_pass_15 rfl hl (by decide) rfl (fun ls hl => ?_)
      refine lv_iconst (v := nI 2) hx hb dL_pass_16 (by decide) ?_
      exact mx_iret M w hr (v := nI 2) (LWP_no (by decide) (by decide) (Or.inr (Or.inr ⟨rfl, ⟨c1, c2⟩, rfl, rfl⟩))) (by decide) (by decide) dL_pass_17
  · obtain ⟨c1, rfl, rfl⟩ := hp1
    refine lv_i2l hx hb dL_pass_7 rfl ?_
    refine ex_last M w (hB 6 (by decide)) dL_pass_8 (fun H locs w => ?_)
    refine lv_goto (tgt := 18) hx hb dL_pass_9 (by decide) ?_
    refine lv_iconst (v := nI 0) hx hb dL_pass_18 (by decide) ?_
    exact mx_iret M w hr (v := nI 0) (LWP_ok (fun _ _ => rfl) (Or.inl ⟨rfl, c1, rfl, rfl, rfl⟩)) (by decide) (by decide) dL_pass_19
set_option maxHeartbeats 4000000 in
set_option maxRecDepth 100000 in
theorem kL_workingDays (l : Launch) (hfl : l.stackTraces = false) (D : va_G) (cy : Nat → ClassId) (C : List Nat) (ad : Nat → Nat) (e : Nat → Nat → Nat) (sz : Nat) (f t : Nat) (hCC : CC (e 0 1) (e 0 3) C) (hW : CW e) (hf : f < 4294967296) (ht : t < 4294967296) : Met l yL_workingDays wsL_workingDays ({ frames := 8, cells := 1, slots := 6, locals := 126 } : Room) (PreW D cy (C, ad, G cy ad e) sz [.ref (ad 0), .int (nI f), .int (nI t), .ref (ad 6)]) (va_Qi (fun (r : Int32) (u : WT) => LWP cy C ad (T_workingDays e C f t) r u) (WB D cy (AW (C, ad, G cy ad e) sz)) (AW (C, ad, G cy ad e) sz)) 1 6 (AW (C, ad, G cy ad e) sz) := by
  refine mxw_start (cc := cL_workingDays) (maxL := 5) (ret := (some .int)) (hh := [(0, 10, 13, 13)]) (by decide) rfl (Nat.le_of_ble_eq_true rfl) ?_
  intro p9 e9 s m args below meth c hsz hr M w Th hNC htab ls hl
  have hx := M.1.1
  have hb := M.1.2.1
  have hB := hCC.B
  have hl : lv_has ls 5 [(0, .ref (ad 0)), (1, .int (nI f)), (2, .int (nI t)), (3, .ref (ad 6))] := hl
  refine lv_aload_n hx hb dL_workingDays_0 rfl (lv_at hl 3 rfl) ?_
  refine lv_iconst (v := nI 0) hx hb dL_workingDays_1 (by decide) ?_
  refine lv_aload_n hx hb dL_workingDays_2 rfl (lv_at hl 0 rfl) ?_
  refine lv_iload_n hx hb dL_workingDays_3 rfl (lv_at hl 1 rfl) ?_
  refine lv_iload_n hx hb dL_workingDays_4 rfl (lv_at hl 2 rfl) ?_
  refine mxc_Vi M w Th (kX3_workingDays l hfl D cy C ad e s.heap.size f t hf ht) (cwV 2 M.1.2.2.2.2 gL_workingDays_X3_workingDays rfl rfl rfl (by decide +kernel) ⟨Nat.le_of_ble_eq_true rfl, Nat.le_of_ble_eq_true rfl⟩) (mo_rec M w (hB 0 (by decide)) (g := G cy ad e) (sh_0 cy ad (e 0)) rfl) rfl hl.1 rfl (Nat.le_of_ble_eq_true rfl) dL_workingDays_5 ⟨by decide, by decide⟩ (fun E ce q9 u1 H locs hce hcv hcl hp w => ?_) (fun r5 u1 H locs hp1 w => ?_)
  · obtain ⟨c1, h9⟩ := hp
    obtain ⟨rfl, rfl⟩ := Prod.mk.inj h9
    refine mxc_catch M Th 13 [] ⟨0, 10, 13, 13⟩ [] htab rfl (fun _ h => absurd h List.not_mem_nil) (by decide) (by decide) (show Cond.classLink RL 13 eIA ∈ wsL_workingDays by decide +kernel) (by decide +kernel) hce hcv hcl ?_
    refine lv_astore (lv' := _) hx hb dL_workingDays_13 hl (by decide) rfl (fun ls hl => ?_)
    refine lv_iconst (v := nI 1) hx hb dL_workingDays_15 (by decide) ?_
    exact mx_iret M w hr (v := nI 1) (LWP_no (by decide) (by decide) (Or.inr ⟨rfl, c1, rfl, rfl⟩)) (by decide) (by decide) dL_workingDays_16
  · obtain ⟨c1, rfl, rfl⟩ := hp1
    refine lv_i2l hx hb dL_workingDays_8 rfl ?_
    refine ex_last M w (hB 6 (by decide)) dL_workingDays_9 (fun H locs w => ?_)
    refine lv_goto (tgt := 17) hx hb dL_workingDays_10 (by decide) ?_
    refine lv_iconst (v := nI 0) hx hb dL_workingDays_17 (by decide) ?_
    exact mx_iret M w hr (v := nI 0) (LWP_ok (fun _ _ => rfl) (Or.inl ⟨rfl, c1, rfl, rfl, rfl⟩)) (by decide) (by decide) dL_workingDays_18
set_option maxHeartbeats 4000000 in
set_option maxRecDepth 100000 in
theorem kL_hours (l : Launch) (hfl : l.stackTraces = false) (D : va_G) (cy : Nat → ClassId) (C : List Nat) (ad : Nat → Nat) (e : Nat → Nat → Nat) (sz : Nat) (k d : Nat) (hCC : CC (e 0 1) (e 0 3) C) (hW : CW e) (hk : k < 4294967296) (hd : d < 4294967296) : Met l yL_hours wsL_hours ({ frames := 8, cells := 2, slots := 12, locals := 127 } : Room) (PreW D cy (C, ad, G cy ad e) sz [.ref (ad 0), .int (nI k), .int (nI d), .ref (ad 6)]) (va_Qi (fun (r : Int32) (u : WT) => LWP cy C ad (TQ e C k (e (PB k) 0 ≤ d ∧ d ≤ 3600) (nI (hrC e k d)) e) r u) (WB D cy (AW (C, ad, G cy ad e) sz)) (AW (C, ad, G cy ad e) sz)) 2 12 (AW (C, ad, G cy ad e) sz) := by
  refine mxw_start (cc := cL_hours) (maxL := 5) (ret := (some .int)) (hh := [(0, 10, 13, 21), (0, 10, 17, 13)]) (by decide) rfl (Nat.le_of_ble_eq_true rfl) ?_
  intro p9 e9 s m args below meth c hsz hr M w Th hNC htab ls hl
  have hx := M.1.1
  have hb := M.1.2.1
  have hB := hCC.B
  have hl : lv_has ls 5 [(0, .ref (ad 0)), (1, .int (nI k)), (2, .int (nI d)), (3, .ref (ad 6))] := hl
  refine lv_aload_n hx hb dL_hours_0 rfl (lv_at hl 3 rfl) ?_
  refine lv_iconst (v := nI 0) hx hb dL_hours_1 (by decide) ?_
  refine lv_aload_n hx hb dL_hours_2 rfl (lv_at hl 0 rfl) ?_
  refine lv_iload_n hx hb dL_hours_3 rfl (lv_at hl 1 rfl) ?_
  refine lv_iload_n hx hb dL_hours_4 rfl (lv_at hl 2 rfl) ?_
  refine mxc_Vi M w Th (kX3_hours l hfl D cy C ad e s.heap.size k d hCC hW hk hd) (cwV 2 M.1.2.2.2.2 gL_hours_X3_hours rfl rfl rfl (by decide +kernel) ⟨Nat.le_of_ble_eq_true rfl, Nat.le_of_ble_eq_true rfl⟩) (mo_rec M w (hB 0 (by decide)) (g := G cy ad e) (sh_0 cy ad (e 0)) rfl) rfl hl.1 rfl (Nat.le_of_ble_eq_true rfl) dL_hours_5 ⟨by decide, by decide⟩ (fun E ce q9 u1 H locs hce hcv hcl hp w => ?_) (fun r5 u1 H locs hp1 w => ?_)
  · rcases hp with ⟨c1, h9⟩ | ⟨c1, c2, h9⟩
    · obtain ⟨rfl, rfl⟩ := Prod.mk.inj h9
      refine mxc_catch M Th 13 [] ⟨0, 10, 13, 21⟩ [⟨0, 10, 17, 13⟩] htab rfl (fun _ h => absurd h List.not_mem_nil) (by decide) (by decide) (show Cond.classLink RL 21 eIO ∈ wsL_hours by decide +kernel) (by decide +kernel) hce hcv hcl ?_
      refine lv_astore (lv' := _) hx hb dL_hours_13 hl (by decide) rfl (fun ls hl => ?_)
      refine lv_iconst (v := nI 1) hx hb dL_hours_15 (by decide) ?_
      exact mx_iret M w hr (v := nI 1) (LWP_no (by decide) (by decide) (Or.inr (Or.inl ⟨rfl, c1, rfl, rfl⟩))) (by decide) (by decide) dL_hours_16
    · obtain ⟨rfl, rfl⟩ := Prod.mk.inj h9
      refine mxc_catch M Th 17 [⟨0, 10, 13, 21⟩] ⟨0, 10, 17, 13⟩ [] htab rfl (List.forall_mem_cons.mpr ⟨⟨by decide, eIO, show Cond.classLink RL 21 eIO ∈ wsL_hours by decide +kernel, hNC.1⟩, fun _ h => absurd h List.not_mem_nil⟩) (by decide) (by decide) (show Cond.classLink RL 13 eIA ∈ wsL_hours by decide +kernel) (by decide +kernel) hce hcv hcl ?_
      refine lv_astore (lv' := _) hx hb dL_hours_17 hl (by decide) rfl (fun ls hl => ?_)
      refine lv_iconst (v := nI 2) hx hb dL_hours_19 (by decide) ?_
      exact mx_iret M w hr (v := nI 2) (LWP_no (by decide) (by decide) (Or.inr (Or.inr ⟨rfl, ⟨c1, c2⟩, rfl, rfl⟩))) (by decide) (by decide) dL_hours_20
  · obtain ⟨c1, rfl, rfl⟩ := hp1
    refine lv_i2l hx hb dL_hours_8 rfl ?_
    refine ex_last M w (hB 6 (by decide)) dL_hours_9 (fun H locs w => ?_)
    refine lv_goto (tgt := 21) hx hb dL_hours_10 (by decide) ?_
    refine lv_iconst (v := nI 0) hx hb dL_hours_21 (by decide) ?_
    exact mx_iret M w hr (v := nI 0) (LWP_ok (fun _ _ => rfl) (Or.inl ⟨rfl, c1, rfl, rfl, rfl⟩)) (by decide) (by decide) dL_hours_22
set_option maxHeartbeats 4000000 in
set_option maxRecDepth 100000 in
theorem kL_onLeave (l : Launch) (hfl : l.stackTraces = false) (D : va_G) (cy : Nat → ClassId) (C : List Nat) (ad : Nat → Nat) (e : Nat → Nat → Nat) (sz : Nat) (k d : Nat) (hCC : CC (e 0 1) (e 0 3) C) (hW : CW e) (hk : k < 4294967296) (hd : d < 4294967296) : Met l yL_onLeave wsL_onLeave ({ frames := 8, cells := 2, slots := 12, locals := 127 } : Room) (PreW D cy (C, ad, G cy ad e) sz [.ref (ad 0), .int (nI k), .int (nI d), .ref (ad 6)]) (va_Qi (fun (r : Int32) (u : WT) => LWP cy C ad (TQ e C k (d ≤ 3600) (nI (e (PB k + 8) d)) e) r u) (WB D cy (AW (C, ad, G cy ad e) sz)) (AW (C, ad, G cy ad e) sz)) 2 12 (AW (C, ad, G cy ad e) sz) := by
  refine mxw_start (cc := cL_onLeave) (maxL := 5) (ret := (some .int)) (hh := [(0, 10, 13, 21), (0, 10, 17, 13)]) (by decide) rfl (Nat.le_of_ble_eq_true rfl) ?_
  intro p9 e9 s m args below meth c hsz hr M w Th hNC htab ls hl
  have hx := M.1.1
  have hb := M.1.2.1
  have hB := hCC.B
  have hl : lv_has ls 5 [(0, .ref (ad 0)), (1, .int (nI k)), (2, .int (nI d)), (3, .ref (ad 6))] := hl
  refine lv_aload_n hx hb dL_onLeave_0 rfl (lv_at hl 3 rfl) ?_
  refine lv_iconst (v := nI 0) hx hb dL_onLeave_1 (by decide) ?_
  refine lv_aload_n hx hb dL_onLeave_2 rfl (lv_at hl 0 rfl) ?_
  refine lv_iload_n hx hb dL_onLeave_3 rfl (lv_at hl 1 rfl) ?_
  refine lv_iload_n hx hb dL_onLeave_4 rfl (lv_at hl 2 rfl) ?_
  refine mxc_Vi M w Th (kX3_onLeave l hfl D cy C ad e s.heap.size k d hCC hW hk hd) (cwV 2 M.1.2.2.2.2 gL_onLeave_X3_onLeave rfl rfl rfl (by decide +kernel) ⟨Nat.le_of_ble_eq_true rfl, Nat.le_of_ble_eq_true rfl⟩) (mo_rec M w (hB 0 (by decide)) (g := G cy ad e) (sh_0 cy ad (e 0)) rfl) rfl hl.1 rfl (Nat.le_of_ble_eq_true rfl) dL_onLeave_5 ⟨by decide, by decide⟩ (fun E ce q9 u1 H locs hce hcv hcl hp w => ?_) (fun r5 u1 H locs hp1 w => ?_)
  · rcases hp with ⟨c1, h9⟩ | ⟨c1, c2, h9⟩
    · obtain ⟨rfl, rfl⟩ := Prod.mk.inj h9
      refine mxc_catch M Th 13 [] ⟨0, 10, 13, 21⟩ [⟨0, 10, 17, 13⟩] htab rfl (fun _ h => absurd h List.not_mem_nil) (by decide) (by decide) (show Cond.classLink RL 21 eIO ∈ wsL_onLeave by decide +kernel) (by decide +kernel) hce hcv hcl ?_
      refine lv_astore (lv' := _) hx hb dL_onLeave_13 hl (by decide) rfl (fun ls hl => ?_)
      refine lv_iconst (v := nI 1) hx hb dL_onLeave_15 (by decide) ?_
      exact mx_iret M w hr (v := nI 1) (LWP_no (by decide) (by decide) (Or.inr (Or.inl ⟨rfl, c1, rfl, rfl⟩))) (by decide) (by decide) dL_onLeave_16
    · obtain ⟨rfl, rfl⟩ := Prod.mk.inj h9
      refine mxc_catch M Th 17 [⟨0, 10, 13, 21⟩] ⟨0, 10, 17, 13⟩ [] htab rfl (List.forall_mem_cons.mpr ⟨⟨by decide, eIO, show Cond.classLink RL 21 eIO ∈ wsL_onLeave by decide +kernel, hNC.1⟩, fun _ h => absurd h List.not_mem_nil⟩) (by decide) (by decide) (show Cond.classLink RL 13 eIA ∈ wsL_onLeave by decide +kernel) (by decide +kernel) hce hcv hcl ?_
      refine lv_astore (lv' := _) hx hb dL_onLeave_17 hl (by decide) rfl (fun ls hl => ?_)
      refine lv_iconst (v := nI 2) hx hb dL_onLeave_19 (by decide) ?_
      exact mx_iret M w hr (v := nI 2) (LWP_no (by decide) (by decide) (Or.inr (Or.inr ⟨rfl, ⟨c1, fun z => c2 ⟨Nat.zero_le _, z⟩⟩, rfl, rfl⟩))) (by decide) (by decide) dL_onLeave_20
  · obtain ⟨c1, rfl, rfl⟩ := hp1
    refine lv_i2l hx hb dL_onLeave_8 rfl ?_
    refine ex_last M w (hB 6 (by decide)) dL_onLeave_9 (fun H locs w => ?_)
    refine lv_goto (tgt := 21) hx hb dL_onLeave_10 (by decide) ?_
    refine lv_iconst (v := nI 0) hx hb dL_onLeave_21 (by decide) ?_
    exact mx_iret M w hr (v := nI 0) (LWP_ok (fun _ _ => rfl) (Or.inl ⟨rfl, c1, rfl, rfl, rfl⟩)) (by decide) (by decide) dL_onLeave_22
set_option maxHeartbeats 4000000 in
set_option maxRecDepth 100000 in
theorem kL_balance (l : Launch) (hfl : l.stackTraces = false) (D : va_G) (cy : Nat → ClassId) (C : List Nat) (ad : Nat → Nat) (e : Nat → Nat → Nat) (sz : Nat) (k d : Nat) (hCC : CC (e 0 1) (e 0 3) C) (hW : CW e) (hk : k < 4294967296) (hd : d < 4294967296) : Met l yL_balance wsL_balance ({ frames := 9, cells := 2, slots := 12, locals := 150 } : Room) (PreW D cy (C, ad, G cy ad e) sz [.ref (ad 0), .int (nI k), .int (nI d), .ref (ad 6)]) (va_Qi (fun (r : Int32) (u : WT) => LWP cy C ad (TQ e C k (d ≤ 3600) (nI (totC (goC e k (d + 1 - e (PB k) 0))) - nI ((goC e k (d + 1 - e (PB k) 0)) 3 5)) (goC e k (d + 1 - e (PB k) 0))) r u) (WB D cy (AW (C, ad, G cy ad e) sz)) (AW (C, ad, G cy ad e) sz)) 2 12 (AW (C, ad, G cy ad e) sz) := by
  refine mxw_start (cc := cL_balance) (maxL := 5) (ret := (some .int)) (hh := [(0, 10, 13, 21), (0, 10, 17, 13)]) (by decide) rfl (Nat.le_of_ble_eq_true rfl) ?_
  intro p9 e9 s m args below meth c hsz hr M w Th hNC htab ls hl
  have hx := M.1.1
  have hb := M.1.2.1
  have hB := hCC.B
  have hl : lv_has ls 5 [(0, .ref (ad 0)), (1, .int (nI k)), (2, .int (nI d)), (3, .ref (ad 6))] := hl
  refine lv_aload_n hx hb dL_balance_0 rfl (lv_at hl 3 rfl) ?_
  refine lv_iconst (v := nI 0) hx hb dL_balance_1 (by decide) ?_
  refine lv_aload_n hx hb dL_balance_2 rfl (lv_at hl 0 rfl) ?_
  refine lv_iload_n hx hb dL_balance_3 rfl (lv_at hl 1 rfl) ?_
  refine lv_iload_n hx hb dL_balance_4 rfl (lv_at hl 2 rfl) ?_
  refine mxc_Vi M w Th (kX3_balance l hfl D cy C ad e s.heap.size k d hCC hW hk hd) (cwV 2 M.1.2.2.2.2 gL_balance_X3_balance rfl rfl rfl (by decide +kernel) ⟨Nat.le_of_ble_eq_true rfl, Nat.le_of_ble_eq_true rfl⟩) (mo_rec M w (hB 0 (by decide)) (g := G cy ad e) (sh_0 cy ad (e 0)) rfl) rfl hl.1 rfl (Nat.le_of_ble_eq_true rfl) dL_balance_5 ⟨by decide, by decide⟩ (fun E ce q9 u1 H locs hce hcv hcl hp w => ?_) (fun r5 u1 H locs hp1 w => ?_)
  · rcases hp with ⟨c1, h9⟩ | ⟨c1, c2, h9⟩
    · obtain ⟨rfl, rfl⟩ := Prod.mk.inj h9
      refine mxc_catch M Th 13 [] ⟨0, 10, 13, 21⟩ [⟨0, 10, 17, 13⟩] htab rfl (fun _ h => absurd h List.not_mem_nil) (by decide) (by decide) (show Cond.classLink RL 21 eIO ∈ wsL_balance by decide +kernel) (by decide +kernel) hce hcv hcl ?_
      refine lv_astore (lv' := _) hx hb dL_balance_13 hl (by decide) rfl (fun ls hl => ?_)
      refine lv_iconst (v := nI 1) hx hb dL_balance_15 (by decide) ?_
      exact mx_iret M w hr (v := nI 1) (LWP_no (by decide) (by decide) (Or.inr (Or.inl ⟨rfl, c1, rfl, rfl⟩))) (by decide) (by decide) dL_balance_16
    · obtain ⟨rfl, rfl⟩ := Prod.mk.inj h9
      refine mxc_catch M Th 17 [⟨0, 10, 13, 21⟩] ⟨0, 10, 17, 13⟩ [] htab rfl (List.forall_mem_cons.mpr ⟨⟨by decide, eIO, show Cond.classLink RL 21 eIO ∈ wsL_balance by decide +kernel, hNC.1⟩, fun _ h => absurd h List.not_mem_nil⟩) (by decide) (by decide) (show Cond.classLink RL 13 eIA ∈ wsL_balance by decide +kernel) (by decide +kernel) hce hcv hcl ?_
      refine lv_astore (lv' := _) hx hb dL_balance_17 hl (by decide) rfl (fun ls hl => ?_)
      refine lv_iconst (v := nI 2) hx hb dL_balance_19 (by decide) ?_
      exact mx_iret M w hr (v := nI 2) (LWP_no (by decide) (by decide) (Or.inr (Or.inr ⟨rfl, ⟨c1, fun z => c2 ⟨Nat.zero_le _, z⟩⟩, rfl, rfl⟩))) (by decide) (by decide) dL_balance_20
  · obtain ⟨c1, rfl, rfl⟩ := hp1
    refine lv_i2l hx hb dL_balance_8 rfl ?_
    refine ex_last M w (hB 6 (by decide)) dL_balance_9 (fun H locs w => ?_)
    refine lv_goto (tgt := 21) hx hb dL_balance_10 (by decide) ?_
    refine lv_iconst (v := nI 0) hx hb dL_balance_21 (by decide) ?_
    exact mx_iret M w hr (v := nI 0) (LWP_ok (fun _ _ => rfl) (Or.inl ⟨rfl, c1, rfl, rfl, rfl⟩)) (by decide) (by decide) dL_balance_22
set_option maxHeartbeats 4000000 in
set_option maxRecDepth 100000 in
theorem kL_balanceBySums (l : Launch) (hfl : l.stackTraces = false) (D : va_G) (cy : Nat → ClassId) (C : List Nat) (ad : Nat → Nat) (e : Nat → Nat → Nat) (sz : Nat) (k d : Nat) (hCC : CC (e 0 1) (e 0 3) C) (hW : CW e) (hk : k < 4294967296) (hd : d < 4294967296) : Met l yL_balanceBySums wsL_balanceBySums ({ frames := 9, cells := 2, slots := 12, locals := 150 } : Room) (PreW D cy (C, ad, G cy ad e) sz [.ref (ad 0), .int (nI k), .int (nI d), .ref (ad 6)]) (va_Qi (fun (r : Int32) (u : WT) => LWP cy C ad (TQ e C k (d ≤ 3600) (nI ((goC e k (d + 1 - e (PB k) 0)) 3 6) - nI ((goC e k (d + 1 - e (PB k) 0)) 3 7) - nI ((goC e k (d + 1 - e (PB k) 0)) 3 8) - nI ((goC e k (d + 1 - e (PB k) 0)) 3 9)) (goC e k (d + 1 - e (PB k) 0))) r u) (WB D cy (AW (C, ad, G cy ad e) sz)) (AW (C, ad, G cy ad e) sz)) 2 12 (AW (C, ad, G cy ad e) sz) := by
  refine mxw_start (cc := cL_balanceBySums) (maxL := 5) (ret := (some .int)) (hh := [(0, 10, 13, 21), (0, 10, 17, 13)]) (by decide) rfl (Nat.le_of_ble_eq_true rfl) ?_
  intro p9 e9 s m args below meth c hsz hr M w Th hNC htab ls hl
  have hx := M.1.1
  have hb := M.1.2.1
  have hB := hCC.B
  have hl : lv_has ls 5 [(0, .ref (ad 0)), (1, .int (nI k)), (2, .int (nI d)), (3, .ref (ad 6))] := hl
  refine lv_aload_n hx hb dL_balanceBySums_0 rfl (lv_at hl 3 rfl) ?_
  refine lv_iconst (v := nI 0) hx hb dL_balanceBySums_1 (by decide) ?_
  refine lv_aload_n hx hb dL_balanceBySums_2 rfl (lv_at hl 0 rfl) ?_
  refine lv_iload_n hx hb dL_balanceBySums_3 rfl (lv_at hl 1 rfl) ?_
  refine lv_iload_n hx hb dL_balanceBySums_4 rfl (lv_at hl 2 rfl) ?_
  refine mxc_Vi M w Th (kX3_balanceBySums l hfl D cy C ad e s.heap.size k d hCC hW hk hd) (cwV 2 M.1.2.2.2.2 gL_balanceBySums_X3_balanceBySums rfl rfl rfl (by decide +kernel) ⟨Nat.le_of_ble_eq_true rfl, Nat.le_of_ble_eq_true rfl⟩) (mo_rec M w (hB 0 (by decide)) (g := G cy ad e) (sh_0 cy ad (e 0)) rfl) rfl hl.1 rfl (Nat.le_of_ble_eq_true rfl) dL_balanceBySums_5 ⟨by decide, by decide⟩ (fun E ce q9 u1 H locs hce hcv hcl hp w => ?_) (fun r5 u1 H locs hp1 w => ?_)
  · rcases hp with ⟨c1, h9⟩ | ⟨c1, c2, h9⟩
    · obtain ⟨rfl, rfl⟩ := Prod.mk.inj h9
      refine mxc_catch M Th 13 [] ⟨0, 10, 13, 21⟩ [⟨0, 10, 17, 13⟩] htab rfl (fun _ h => absurd h List.not_mem_nil) (by decide) (by decide) (show Cond.classLink RL 21 eIO ∈ wsL_balanceBySums by decide +kernel) (by decide +kernel) hce hcv hcl ?_
      refine lv_astore (lv' := _) hx hb dL_balanceBySums_13 hl (by decide) rfl (fun ls hl => ?_)
      refine lv_iconst (v := nI 1) hx hb dL_balanceBySums_15 (by decide) ?_
      exact mx_iret M w hr (v := nI 1) (LWP_no (by decide) (by decide) (Or.inr (Or.inl ⟨rfl, c1, rfl, rfl⟩))) (by decide) (by decide) dL_balanceBySums_16
    · obtain ⟨rfl, rfl⟩ := Prod.mk.inj h9
      refine mxc_catch M Th 17 [⟨0, 10, 13, 21⟩] ⟨0, 10, 17, 13⟩ [] htab rfl (List.forall_mem_cons.mpr ⟨⟨by decide, eIO, show Cond.classLink RL 21 eIO ∈ wsL_balanceBySums by decide +kernel, hNC.1⟩, fun _ h => absurd h List.not_mem_nil⟩) (by decide) (by decide) (show Cond.classLink RL 13 eIA ∈ wsL_balanceBySums by decide +kernel) (by decide +kernel) hce hcv hcl ?_
      refine lv_astore (lv' := _) hx hb dL_balanceBySums_17 hl (by decide) rfl (fun ls hl => ?_)
      refine lv_iconst (v := nI 2) hx hb dL_balanceBySums_19 (by decide) ?_
      exact mx_iret M w hr (v := nI 2) (LWP_no (by decide) (by decide) (Or.inr (Or.inr ⟨rfl, ⟨c1, fun z => c2 ⟨Nat.zero_le _, z⟩⟩, rfl, rfl⟩))) (by decide) (by decide) dL_balanceBySums_20
  · obtain ⟨c1, rfl, rfl⟩ := hp1
    refine lv_i2l hx hb dL_balanceBySums_8 rfl ?_
    refine ex_last M w (hB 6 (by decide)) dL_balanceBySums_9 (fun H locs w => ?_)
    refine lv_goto (tgt := 21) hx hb dL_balanceBySums_10 (by decide) ?_
    refine lv_iconst (v := nI 0) hx hb dL_balanceBySums_21 (by decide) ?_
    exact mx_iret M w hr (v := nI 0) (LWP_ok (fun _ _ => rfl) (Or.inl ⟨rfl, c1, rfl, rfl, rfl⟩)) (by decide) (by decide) dL_balanceBySums_22
set_option maxHeartbeats 4000000 in
set_option maxRecDepth 100000 in
theorem kL_earned (l : Launch) (hfl : l.stackTraces = false) (D : va_G) (cy : Nat → ClassId) (C : List Nat) (ad : Nat → Nat) (e : Nat → Nat → Nat) (sz : Nat) (k d : Nat) (hCC : CC (e 0 1) (e 0 3) C) (hW : CW e) (hk : k < 4294967296) (hd : d < 4294967296) : Met l yL_earned wsL_earned ({ frames := 9, cells := 2, slots := 12, locals := 149 } : Room) (PreW D cy (C, ad, G cy ad e) sz [.ref (ad 0), .int (nI k), .int (nI d), .ref (ad 6)]) (va_Qi (fun (r : Int32) (u : WT) => LWP cy C ad (TQ e C k (d ≤ 3600) (nI ((goC e k (d + 1 - e (PB k) 0)) 3 6)) (goC e k (d + 1 - e (PB k) 0))) r u) (WB D cy (AW (C, ad, G cy ad e) sz)) (AW (C, ad, G cy ad e) sz)) 2 12 (AW (C, ad, G cy ad e) sz) := by
  refine mxw_start (cc := cL_earned) (maxL := 5) (ret := (some .int)) (hh := [(0, 10, 13, 21), (0, 10, 17, 13)]) (by decide) rfl (Nat.le_of_ble_eq_true rfl) ?_
  intro p9 e9 s m args below meth c hsz hr M w Th hNC htab ls hl
  have hx := M.1.1
  have hb := M.1.2.1
  have hB := hCC.B
  have hl : lv_has ls 5 [(0, .ref (ad 0)), (1, .int (nI k)), (2, .int (nI d)), (3, .ref (ad 6))] := hl
  refine lv_aload_n hx hb dL_earned_0 rfl (lv_at hl 3 rfl) ?_
  refine lv_iconst (v := nI 0) hx hb dL_earned_1 (by decide) ?_
  refine lv_aload_n hx hb dL_earned_2 rfl (lv_at hl 0 rfl) ?_
  refine lv_iload_n hx hb dL_earned_3 rfl (lv_at hl 1 rfl) ?_
  refine lv_iload_n hx hb dL_earned_4 rfl (lv_at hl 2 rfl) ?_
  refine mxc_Vi M w Th (kX3_earned l hfl D cy C ad e s.heap.size k d hCC hW hk hd) (cwV 2 M.1.2.2.2.2 gL_earned_X3_earned rfl rfl rfl (by decide +kernel) ⟨Nat.le_of_ble_eq_true rfl, Nat.le_of_ble_eq_true rfl⟩) (mo_rec M w (hB 0 (by decide)) (g := G cy ad e) (sh_0 cy ad (e 0)) rfl) rfl hl.1 rfl (Nat.le_of_ble_eq_true rfl) dL_earned_5 ⟨by decide, by decide⟩ (fun E ce q9 u1 H locs hce hcv hcl hp w => ?_) (fun r5 u1 H locs hp1 w => ?_)
  · rcases hp with ⟨c1, h9⟩ | ⟨c1, c2, h9⟩
    · obtain ⟨rfl, rfl⟩ := Prod.mk.inj h9
      refine mxc_catch M Th 13 [] ⟨0, 10, 13, 21⟩ [⟨0, 10, 17, 13⟩] htab rfl (fun _ h => absurd h List.not_mem_nil) (by decide) (by decide) (show Cond.classLink RL 21 eIO ∈ wsL_earned by decide +kernel) (by decide +kernel) hce hcv hcl ?_
      refine lv_astore (lv' := _) hx hb dL_earned_13 hl (by decide) rfl (fun ls hl => ?_)
      refine lv_iconst (v := nI 1) hx hb dL_earned_15 (by decide) ?_
      exact mx_iret M w hr (v := nI 1) (LWP_no (by decide) (by decide) (Or.inr (Or.inl ⟨rfl, c1, rfl, rfl⟩))) (by decide) (by decide) dL_earned_16
    · obtain ⟨rfl, rfl⟩ := Prod.mk.inj h9
      refine mxc_catch M Th 17 [⟨0, 10, 13, 21⟩] ⟨0, 10, 17, 13⟩ [] htab rfl (List.forall_mem_cons.mpr ⟨⟨by decide, eIO, show Cond.classLink RL 21 eIO ∈ wsL_earned by decide +kernel, hNC.1⟩, fun _ h => absurd h List.not_mem_nil⟩) (by decide) (by decide) (show Cond.classLink RL 13 eIA ∈ wsL_earned by decide +kernel) (by decide +kernel) hce hcv hcl ?_
      refine lv_astore (lv' := _) hx hb dL_earned_17 hl (by decide) rfl (fun ls hl => ?_)
      refine lv_iconst (v := nI 2) hx hb dL_earned_19 (by decide) ?_
      exact mx_iret M w hr (v := nI 2) (LWP_no (by decide) (by decide) (Or.inr (Or.inr ⟨rfl, ⟨c1, fun z => c2 ⟨Nat.zero_le _, z⟩⟩, rfl, rfl⟩))) (by decide) (by decide) dL_earned_20
  · obtain ⟨c1, rfl, rfl⟩ := hp1
    refine lv_i2l hx hb dL_earned_8 rfl ?_
    refine ex_last M w (hB 6 (by decide)) dL_earned_9 (fun H locs w => ?_)
    refine lv_goto (tgt := 21) hx hb dL_earned_10 (by decide) ?_
    refine lv_iconst (v := nI 0) hx hb dL_earned_21 (by decide) ?_
    exact mx_iret M w hr (v := nI 0) (LWP_ok (fun _ _ => rfl) (Or.inl ⟨rfl, c1, rfl, rfl, rfl⟩)) (by decide) (by decide) dL_earned_22
set_option maxHeartbeats 4000000 in
set_option maxRecDepth 100000 in
theorem kL_taken (l : Launch) (hfl : l.stackTraces = false) (D : va_G) (cy : Nat → ClassId) (C : List Nat) (ad : Nat → Nat) (e : Nat → Nat → Nat) (sz : Nat) (k d : Nat) (hCC : CC (e 0 1) (e 0 3) C) (hW : CW e) (hk : k < 4294967296) (hd : d < 4294967296) : Met l yL_taken wsL_taken ({ frames := 9, cells := 2, slots := 12, locals := 149 } : Room) (PreW D cy (C, ad, G cy ad e) sz [.ref (ad 0), .int (nI k), .int (nI d), .ref (ad 6)]) (va_Qi (fun (r : Int32) (u : WT) => LWP cy C ad (TQ e C k (d ≤ 3600) (nI ((goC e k (d + 1 - e (PB k) 0)) 3 7)) (goC e k (d + 1 - e (PB k) 0))) r u) (WB D cy (AW (C, ad, G cy ad e) sz)) (AW (C, ad, G cy ad e) sz)) 2 12 (AW (C, ad, G cy ad e) sz) := by
  refine mxw_start (cc := cL_taken) (maxL := 5) (ret := (some .int)) (hh := [(0, 10, 13, 21), (0, 10, 17, 13)]) (by decide) rfl (Nat.le_of_ble_eq_true rfl) ?_
  intro p9 e9 s m args below meth c hsz hr M w Th hNC htab ls hl
  have hx := M.1.1
  have hb := M.1.2.1
  have hB := hCC.B
  have hl : lv_has ls 5 [(0, .ref (ad 0)), (1, .int (nI k)), (2, .int (nI d)), (3, .ref (ad 6))] := hl
  refine lv_aload_n hx hb dL_taken_0 rfl (lv_at hl 3 rfl) ?_
  refine lv_iconst (v := nI 0) hx hb dL_taken_1 (by decide) ?_
  refine lv_aload_n hx hb dL_taken_2 rfl (lv_at hl 0 rfl) ?_
  refine lv_iload_n hx hb dL_taken_3 rfl (lv_at hl 1 rfl) ?_
  refine lv_iload_n hx hb dL_taken_4 rfl (lv_at hl 2 rfl) ?_
  refine mxc_Vi M w Th (kX3_taken l hfl D cy C ad e s.heap.size k d hCC hW hk hd) (cwV 2 M.1.2.2.2.2 gL_taken_X3_taken rfl rfl rfl (by decide +kernel) ⟨Nat.le_of_ble_eq_true rfl, Nat.le_of_ble_eq_true rfl⟩) (mo_rec M w (hB 0 (by decide)) (g := G cy ad e) (sh_0 cy ad (e 0)) rfl) rfl hl.1 rfl (Nat.le_of_ble_eq_true rfl) dL_taken_5 ⟨by decide, by decide⟩ (fun E ce q9 u1 H locs hce hcv hcl hp w => ?_) (fun r5 u1 H locs hp1 w => ?_)
  · rcases hp with ⟨c1, h9⟩ | ⟨c1, c2, h9⟩
    · obtain ⟨rfl, rfl⟩ := Prod.mk.inj h9
      refine mxc_catch M Th 13 [] ⟨0, 10, 13, 21⟩ [⟨0, 10, 17, 13⟩] htab rfl (fun _ h => absurd h List.not_mem_nil) (by decide) (by decide) (show Cond.classLink RL 21 eIO ∈ wsL_taken by decide +kernel) (by decide +kernel) hce hcv hcl ?_
      refine lv_astore (lv' := _) hx hb dL_taken_13 hl (by decide) rfl (fun ls hl => ?_)
      refine lv_iconst (v := nI 1) hx hb dL_taken_15 (by decide) ?_
      exact mx_iret M w hr (v := nI 1) (LWP_no (by decide) (by decide) (Or.inr (Or.inl ⟨rfl, c1, rfl, rfl⟩))) (by decide) (by decide) dL_taken_16
    · obtain ⟨rfl, rfl⟩ := Prod.mk.inj h9
      refine mxc_catch M Th 17 [⟨0, 10, 13, 21⟩] ⟨0, 10, 17, 13⟩ [] htab rfl (List.forall_mem_cons.mpr ⟨⟨by decide, eIO, show Cond.classLink RL 21 eIO ∈ wsL_taken by decide +kernel, hNC.1⟩, fun _ h => absurd h List.not_mem_nil⟩) (by decide) (by decide) (show Cond.classLink RL 13 eIA ∈ wsL_taken by decide +kernel) (by decide +kernel) hce hcv hcl ?_
      refine lv_astore (lv' := _) hx hb dL_taken_17 hl (by decide) rfl (fun ls hl => ?_)
      refine lv_iconst (v := nI 2) hx hb dL_taken_19 (by decide) ?_
      exact mx_iret M w hr (v := nI 2) (LWP_no (by decide) (by decide) (Or.inr (Or.inr ⟨rfl, ⟨c1, fun z => c2 ⟨Nat.zero_le _, z⟩⟩, rfl, rfl⟩))) (by decide) (by decide) dL_taken_20
  · obtain ⟨c1, rfl, rfl⟩ := hp1
    refine lv_i2l hx hb dL_taken_8 rfl ?_
    refine ex_last M w (hB 6 (by decide)) dL_taken_9 (fun H locs w => ?_)
    refine lv_goto (tgt := 21) hx hb dL_taken_10 (by decide) ?_
    refine lv_iconst (v := nI 0) hx hb dL_taken_21 (by decide) ?_
    exact mx_iret M w hr (v := nI 0) (LWP_ok (fun _ _ => rfl) (Or.inl ⟨rfl, c1, rfl, rfl, rfl⟩)) (by decide) (by decide) dL_taken_22
set_option maxHeartbeats 4000000 in
set_option maxRecDepth 100000 in
theorem kL_expired (l : Launch) (hfl : l.stackTraces = false) (D : va_G) (cy : Nat → ClassId) (C : List Nat) (ad : Nat → Nat) (e : Nat → Nat → Nat) (sz : Nat) (k d : Nat) (hCC : CC (e 0 1) (e 0 3) C) (hW : CW e) (hk : k < 4294967296) (hd : d < 4294967296) : Met l yL_expired wsL_expired ({ frames := 9, cells := 2, slots := 12, locals := 149 } : Room) (PreW D cy (C, ad, G cy ad e) sz [.ref (ad 0), .int (nI k), .int (nI d), .ref (ad 6)]) (va_Qi (fun (r : Int32) (u : WT) => LWP cy C ad (TQ e C k (d ≤ 3600) (nI ((goC e k (d + 1 - e (PB k) 0)) 3 8)) (goC e k (d + 1 - e (PB k) 0))) r u) (WB D cy (AW (C, ad, G cy ad e) sz)) (AW (C, ad, G cy ad e) sz)) 2 12 (AW (C, ad, G cy ad e) sz) := by
  refine mxw_start (cc := cL_expired) (maxL := 5) (ret := (some .int)) (hh := [(0, 10, 13, 21), (0, 10, 17, 13)]) (by decide) rfl (Nat.le_of_ble_eq_true rfl) ?_
  intro p9 e9 s m args below meth c hsz hr M w Th hNC htab ls hl
  have hx := M.1.1
  have hb := M.1.2.1
  have hB := hCC.B
  have hl : lv_has ls 5 [(0, .ref (ad 0)), (1, .int (nI k)), (2, .int (nI d)), (3, .ref (ad 6))] := hl
  refine lv_aload_n hx hb dL_expired_0 rfl (lv_at hl 3 rfl) ?_
  refine lv_iconst (v := nI 0) hx hb dL_expired_1 (by decide) ?_
  refine lv_aload_n hx hb dL_expired_2 rfl (lv_at hl 0 rfl) ?_
  refine lv_iload_n hx hb dL_expired_3 rfl (lv_at hl 1 rfl) ?_
  refine lv_iload_n hx hb dL_expired_4 rfl (lv_at hl 2 rfl) ?_
  refine mxc_Vi M w Th (kX3_expired l hfl D cy C ad e s.heap.size k d hCC hW hk hd) (cwV 2 M.1.2.2.2.2 gL_expired_X3_expired rfl rfl rfl (by decide +kernel) ⟨Nat.le_of_ble_eq_true rfl, Nat.le_of_ble_eq_true rfl⟩) (mo_rec M w (hB 0 (by decide)) (g := G cy ad e) (sh_0 cy ad (e 0)) rfl) rfl hl.1 rfl (Nat.le_of_ble_eq_true rfl) dL_expired_5 ⟨by decide, by decide⟩ (fun E ce q9 u1 H locs hce hcv hcl hp w => ?_) (fun r5 u1 H locs hp1 w => ?_)
  · rcases hp with ⟨c1, h9⟩ | ⟨c1, c2, h9⟩
    · obtain ⟨rfl, rfl⟩ := Prod.mk.inj h9
      refine mxc_catch M Th 13 [] ⟨0, 10, 13, 21⟩ [⟨0, 10, 17, 13⟩] htab rfl (fun _ h => absurd h List.not_mem_nil) (by decide) (by decide) (show Cond.classLink RL 21 eIO ∈ wsL_expired by decide +kernel) (by decide +kernel) hce hcv hcl ?_
      refine lv_astore (lv' := _) hx hb dL_expired_13 hl (by decide) rfl (fun ls hl => ?_)
      refine lv_iconst (v := nI 1) hx hb dL_expired_15 (by decide) ?_
      exact mx_iret M w hr (v := nI 1) (LWP_no (by decide) (by decide) (Or.inr (Or.inl ⟨rfl, c1, rfl, rfl⟩))) (by decide) (by decide) dL_expired_16
    · obtain ⟨rfl, rfl⟩ := Prod.mk.inj h9
      refine mxc_catch M Th 17 [⟨0, 10, 13, 21⟩] ⟨0, 10, 17, 13⟩ [] htab rfl (List.forall_mem_cons.mpr ⟨⟨by decide, eIO, show Cond.classLink RL 21 eIO ∈ wsL_expired by decide +kernel, hNC.1⟩, fun _ h => absurd h List.not_mem_nil⟩) (by decide) (by decide) (show Cond.classLink RL 13 eIA ∈ wsL_expired by decide +kernel) (by decide +kernel) hce hcv hcl ?_
      refine lv_astore (lv' := _) hx hb dL_expired_17 hl (by decide) rfl (fun ls hl => ?_)
      refine lv_iconst (v := nI 2) hx hb dL_expired_19 (by decide) ?_
      exact mx_iret M w hr (v := nI 2) (LWP_no (by decide) (by decide) (Or.inr (Or.inr ⟨rfl, ⟨c1, fun z => c2 ⟨Nat.zero_le _, z⟩⟩, rfl, rfl⟩))) (by decide) (by decide) dL_expired_20
  · obtain ⟨c1, rfl, rfl⟩ := hp1
    refine lv_i2l hx hb dL_expired_8 rfl ?_
    refine ex_last M w (hB 6 (by decide)) dL_expired_9 (fun H locs w => ?_)
    refine lv_goto (tgt := 21) hx hb dL_expired_10 (by decide) ?_
    refine lv_iconst (v := nI 0) hx hb dL_expired_21 (by decide) ?_
    exact mx_iret M w hr (v := nI 0) (LWP_ok (fun _ _ => rfl) (Or.inl ⟨rfl, c1, rfl, rfl, rfl⟩)) (by decide) (by decide) dL_expired_22
set_option maxHeartbeats 4000000 in
set_option maxRecDepth 100000 in
theorem kL_paid (l : Launch) (hfl : l.stackTraces = false) (D : va_G) (cy : Nat → ClassId) (C : List Nat) (ad : Nat → Nat) (e : Nat → Nat → Nat) (sz : Nat) (k d : Nat) (hCC : CC (e 0 1) (e 0 3) C) (hW : CW e) (hk : k < 4294967296) (hd : d < 4294967296) : Met l yL_paid wsL_paid ({ frames := 9, cells := 2, slots := 12, locals := 149 } : Room) (PreW D cy (C, ad, G cy ad e) sz [.ref (ad 0), .int (nI k), .int (nI d), .ref (ad 6)]) (va_Qi (fun (r : Int32) (u : WT) => LWP cy C ad (TQ e C k (d ≤ 3600) (nI ((goC e k (d + 1 - e (PB k) 0)) 3 9)) (goC e k (d + 1 - e (PB k) 0))) r u) (WB D cy (AW (C, ad, G cy ad e) sz)) (AW (C, ad, G cy ad e) sz)) 2 12 (AW (C, ad, G cy ad e) sz) := by
  refine mxw_start (cc := cL_paid) (maxL := 5) (ret := (some .int)) (hh := [(0, 10, 13, 21), (0, 10, 17, 13)]) (by decide) rfl (Nat.le_of_ble_eq_true rfl) ?_
  intro p9 e9 s m args below meth c hsz hr M w Th hNC htab ls hl
  have hx := M.1.1
  have hb := M.1.2.1
  have hB := hCC.B
  have hl : lv_has ls 5 [(0, .ref (ad 0)), (1, .int (nI k)), (2, .int (nI d)), (3, .ref (ad 6))] := hl
  refine lv_aload_n hx hb dL_paid_0 rfl (lv_at hl 3 rfl) ?_
  refine lv_iconst (v := nI 0) hx hb dL_paid_1 (by decide) ?_
  refine lv_aload_n hx hb dL_paid_2 rfl (lv_at hl 0 rfl) ?_
  refine lv_iload_n hx hb dL_paid_3 rfl (lv_at hl 1 rfl) ?_
  refine lv_iload_n hx hb dL_paid_4 rfl (lv_at hl 2 rfl) ?_
  refine mxc_Vi M w Th (kX3_paid l hfl D cy C ad e s.heap.size k d hCC hW hk hd) (cwV 2 M.1.2.2.2.2 gL_paid_X3_paid rfl rfl rfl (by decide +kernel) ⟨Nat.le_of_ble_eq_true rfl, Nat.le_of_ble_eq_true rfl⟩) (mo_rec M w (hB 0 (by decide)) (g := G cy ad e) (sh_0 cy ad (e 0)) rfl) rfl hl.1 rfl (Nat.le_of_ble_eq_true rfl) dL_paid_5 ⟨by decide, by decide⟩ (fun E ce q9 u1 H locs hce hcv hcl hp w => ?_) (fun r5 u1 H locs hp1 w => ?_)
  · rcases hp with ⟨c1, h9⟩ | ⟨c1, c2, h9⟩
    · obtain ⟨rfl, rfl⟩ := Prod.mk.inj h9
      refine mxc_catch M Th 13 [] ⟨0, 10, 13, 21⟩ [⟨0, 10, 17, 13⟩] htab rfl (fun _ h => absurd h List.not_mem_nil) (by decide) (by decide) (show Cond.classLink RL 21 eIO ∈ wsL_paid by decide +kernel) (by decide +kernel) hce hcv hcl ?_
      refine lv_astore (lv' := _) hx hb dL_paid_13 hl (by decide) rfl (fun ls hl => ?_)
      refine lv_iconst (v := nI 1) hx hb dL_paid_15 (by decide) ?_
      exact mx_iret M w hr (v := nI 1) (LWP_no (by decide) (by decide) (Or.inr (Or.inl ⟨rfl, c1, rfl, rfl⟩))) (by decide) (by decide) dL_paid_16
    · obtain ⟨rfl, rfl⟩ := Prod.mk.inj h9
      refine mxc_catch M Th 17 [⟨0, 10, 13, 21⟩] ⟨0, 10, 17, 13⟩ [] htab rfl (List.forall_mem_cons.mpr ⟨⟨by decide, eIO, show Cond.classLink RL 21 eIO ∈ wsL_paid by decide +kernel, hNC.1⟩, fun _ h => absurd h List.not_mem_nil⟩) (by decide) (by decide) (show Cond.classLink RL 13 eIA ∈ wsL_paid by decide +kernel) (by decide +kernel) hce hcv hcl ?_
      refine lv_astore (lv' := _) hx hb dL_paid_17 hl (by decide) rfl (fun ls hl => ?_)
      refine lv_iconst (v := nI 2) hx hb dL_paid_19 (by decide) ?_
      exact mx_iret M w hr (v := nI 2) (LWP_no (by decide) (by decide) (Or.inr (Or.inr ⟨rfl, ⟨c1, fun z => c2 ⟨Nat.zero_le _, z⟩⟩, rfl, rfl⟩))) (by decide) (by decide) dL_paid_20
  · obtain ⟨c1, rfl, rfl⟩ := hp1
    refine lv_i2l hx hb dL_paid_8 rfl ?_
    refine ex_last M w (hB 6 (by decide)) dL_paid_9 (fun H locs w => ?_)
    refine lv_goto (tgt := 21) hx hb dL_paid_10 (by decide) ?_
    refine lv_iconst (v := nI 0) hx hb dL_paid_21 (by decide) ?_
    exact mx_iret M w hr (v := nI 0) (LWP_ok (fun _ _ => rfl) (Or.inl ⟨rfl, c1, rfl, rfl, rfl⟩)) (by decide) (by decide) dL_paid_22
set_option maxHeartbeats 4000000 in
set_option maxRecDepth 100000 in
theorem kL_borrowed (l : Launch) (hfl : l.stackTraces = false) (D : va_G) (cy : Nat → ClassId) (C : List Nat) (ad : Nat → Nat) (e : Nat → Nat → Nat) (sz : Nat) (k d : Nat) (hCC : CC (e 0 1) (e 0 3) C) (hW : CW e) (hk : k < 4294967296) (hd : d < 4294967296) : Met l yL_borrowed wsL_borrowed ({ frames := 9, cells := 2, slots := 12, locals := 149 } : Room) (PreW D cy (C, ad, G cy ad e) sz [.ref (ad 0), .int (nI k), .int (nI d), .ref (ad 6)]) (va_Qi (fun (r : Int32) (u : WT) => LWP cy C ad (TQ e C k (d ≤ 3600) (nI ((goC e k (d + 1 - e (PB k) 0)) 3 5)) (goC e k (d + 1 - e (PB k) 0))) r u) (WB D cy (AW (C, ad, G cy ad e) sz)) (AW (C, ad, G cy ad e) sz)) 2 12 (AW (C, ad, G cy ad e) sz) := by
  refine mxw_start (cc := cL_borrowed) (maxL := 5) (ret := (some .int)) (hh := [(0, 10, 13, 21), (0, 10, 17, 13)]) (by decide) rfl (Nat.le_of_ble_eq_true rfl) ?_
  intro p9 e9 s m args below meth c hsz hr M w Th hNC htab ls hl
  have hx := M.1.1
  have hb := M.1.2.1
  have hB := hCC.B
  have hl : lv_has ls 5 [(0, .ref (ad 0)), (1, .int (nI k)), (2, .int (nI d)), (3, .ref (ad 6))] := hl
  refine lv_aload_n hx hb dL_borrowed_0 rfl (lv_at hl 3 rfl) ?_
  refine lv_iconst (v := nI 0) hx hb dL_borrowed_1 (by decide) ?_
  refine lv_aload_n hx hb dL_borrowed_2 rfl (lv_at hl 0 rfl) ?_
  refine lv_iload_n hx hb dL_borrowed_3 rfl (lv_at hl 1 rfl) ?_
  refine lv_iload_n hx hb dL_borrowed_4 rfl (lv_at hl 2 rfl) ?_
  refine mxc_Vi M w Th (kX3_borrowed l hfl D cy C ad e s.heap.size k d hCC hW hk hd) (cwV 2 M.1.2.2.2.2 gL_borrowed_X3_borrowed rfl rfl rfl (by decide +kernel) ⟨Nat.le_of_ble_eq_true rfl, Nat.le_of_ble_eq_true rfl⟩) (mo_rec M w (hB 0 (by decide)) (g := G cy ad e) (sh_0 cy ad (e 0)) rfl) rfl hl.1 rfl (Nat.le_of_ble_eq_true rfl) dL_borrowed_5 ⟨by decide, by decide⟩ (fun E ce q9 u1 H locs hce hcv hcl hp w => ?_) (fun r5 u1 H locs hp1 w => ?_)
  · rcases hp with ⟨c1, h9⟩ | ⟨c1, c2, h9⟩
    · obtain ⟨rfl, rfl⟩ := Prod.mk.inj h9
      refine mxc_catch M Th 13 [] ⟨0, 10, 13, 21⟩ [⟨0, 10, 17, 13⟩] htab rfl (fun _ h => absurd h List.not_mem_nil) (by decide) (by decide) (show Cond.classLink RL 21 eIO ∈ wsL_borrowed by decide +kernel) (by decide +kernel) hce hcv hcl ?_
      refine lv_astore (lv' := _) hx hb dL_borrowed_13 hl (by decide) rfl (fun ls hl => ?_)
      refine lv_iconst (v := nI 1) hx hb dL_borrowed_15 (by decide) ?_
      exact mx_iret M w hr (v := nI 1) (LWP_no (by decide) (by decide) (Or.inr (Or.inl ⟨rfl, c1, rfl, rfl⟩))) (by decide) (by decide) dL_borrowed_16
    · obtain ⟨rfl, rfl⟩ := Prod.mk.inj h9
      refine mxc_catch M Th 17 [⟨0, 10, 13, 21⟩] ⟨0, 10, 17, 13⟩ [] htab rfl (List.forall_mem_cons.mpr ⟨⟨by decide, eIO, show Cond.classLink RL 21 eIO ∈ wsL_borrowed by decide +kernel, hNC.1⟩, fun _ h => absurd h List.not_mem_nil⟩) (by decide) (by decide) (show Cond.classLink RL 13 eIA ∈ wsL_borrowed by decide +kernel) (by decide +kernel) hce hcv hcl ?_
      refine lv_astore (lv' := _) hx hb dL_borrowed_17 hl (by decide) rfl (fun ls hl => ?_)
      refine lv_iconst (v := nI 2) hx hb dL_borrowed_19 (by decide) ?_
      exact mx_iret M w hr (v := nI 2) (LWP_no (by decide) (by decide) (Or.inr (Or.inr ⟨rfl, ⟨c1, fun z => c2 ⟨Nat.zero_le _, z⟩⟩, rfl, rfl⟩))) (by decide) (by decide) dL_borrowed_20
  · obtain ⟨c1, rfl, rfl⟩ := hp1
    refine lv_i2l hx hb dL_borrowed_8 rfl ?_
    refine ex_last M w (hB 6 (by decide)) dL_borrowed_9 (fun H locs w => ?_)
    refine lv_goto (tgt := 21) hx hb dL_borrowed_10 (by decide) ?_
    refine lv_iconst (v := nI 0) hx hb dL_borrowed_21 (by decide) ?_
    exact mx_iret M w hr (v := nI 0) (LWP_ok (fun _ _ => rfl) (Or.inl ⟨rfl, c1, rfl, rfl, rfl⟩)) (by decide) (by decide) dL_borrowed_22
set_option maxHeartbeats 4000000 in
set_option maxRecDepth 100000 in
theorem kL_unpaid (l : Launch) (hfl : l.stackTraces = false) (D : va_G) (cy : Nat → ClassId) (C : List Nat) (ad : Nat → Nat) (e : Nat → Nat → Nat) (sz : Nat) (k d : Nat) (hCC : CC (e 0 1) (e 0 3) C) (hW : CW e) (hk : k < 4294967296) (hd : d < 4294967296) : Met l yL_unpaid wsL_unpaid ({ frames := 9, cells := 2, slots := 12, locals := 149 } : Room) (PreW D cy (C, ad, G cy ad e) sz [.ref (ad 0), .int (nI k), .int (nI d), .ref (ad 6)]) (va_Qi (fun (r : Int32) (u : WT) => LWP cy C ad (TQ e C k (d ≤ 3600) (nI ((goC e k (d + 1 - e (PB k) 0)) 3 10)) (goC e k (d + 1 - e (PB k) 0))) r u) (WB D cy (AW (C, ad, G cy ad e) sz)) (AW (C, ad, G cy ad e) sz)) 2 12 (AW (C, ad, G cy ad e) sz) := by
  refine mxw_start (cc := cL_unpaid) (maxL := 5) (ret := (some .int)) (hh := [(0, 10, 13, 21), (0, 10, 17, 13)]) (by decide) rfl (Nat.le_of_ble_eq_true rfl) ?_
  intro p9 e9 s m args below meth c hsz hr M w Th hNC htab ls hl
  have hx := M.1.1
  have hb := M.1.2.1
  have hB := hCC.B
  have hl : lv_has ls 5 [(0, .ref (ad 0)), (1, .int (nI k)), (2, .int (nI d)), (3, .ref (ad 6))] := hl
  refine lv_aload_n hx hb dL_unpaid_0 rfl (lv_at hl 3 rfl) ?_
  refine lv_iconst (v := nI 0) hx hb dL_unpaid_1 (by decide) ?_
  refine lv_aload_n hx hb dL_unpaid_2 rfl (lv_at hl 0 rfl) ?_
  refine lv_iload_n hx hb dL_unpaid_3 rfl (lv_at hl 1 rfl) ?_
  refine lv_iload_n hx hb dL_unpaid_4 rfl (lv_at hl 2 rfl) ?_
  refine mxc_Vi M w Th (kX3_unpaid l hfl D cy C ad e s.heap.size k d hCC hW hk hd) (cwV 2 M.1.2.2.2.2 gL_unpaid_X3_unpaid rfl rfl rfl (by decide +kernel) ⟨Nat.le_of_ble_eq_true rfl, Nat.le_of_ble_eq_true rfl⟩) (mo_rec M w (hB 0 (by decide)) (g := G cy ad e) (sh_0 cy ad (e 0)) rfl) rfl hl.1 rfl (Nat.le_of_ble_eq_true rfl) dL_unpaid_5 ⟨by decide, by decide⟩ (fun E ce q9 u1 H locs hce hcv hcl hp w => ?_) (fun r5 u1 H locs hp1 w => ?_)
  · rcases hp with ⟨c1, h9⟩ | ⟨c1, c2, h9⟩
    · obtain ⟨rfl, rfl⟩ := Prod.mk.inj h9
      refine mxc_catch M Th 13 [] ⟨0, 10, 13, 21⟩ [⟨0, 10, 17, 13⟩] htab rfl (fun _ h => absurd h List.not_mem_nil) (by decide) (by decide) (show Cond.classLink RL 21 eIO ∈ wsL_unpaid by decide +kernel) (by decide +kernel) hce hcv hcl ?_
      refine lv_astore (lv' := _) hx hb dL_unpaid_13 hl (by decide) rfl (fun ls hl => ?_)
      refine lv_iconst (v := nI 1) hx hb dL_unpaid_15 (by decide) ?_
      exact mx_iret M w hr (v := nI 1) (LWP_no (by decide) (by decide) (Or.inr (Or.inl ⟨rfl, c1, rfl, rfl⟩))) (by decide) (by decide) dL_unpaid_16
    · obtain ⟨rfl, rfl⟩ := Prod.mk.inj h9
      refine mxc_catch M Th 17 [⟨0, 10, 13, 21⟩] ⟨0, 10, 17, 13⟩ [] htab rfl (List.forall_mem_cons.mpr ⟨⟨by decide, eIO, show Cond.classLink RL 21 eIO ∈ wsL_unpaid by decide +kernel, hNC.1⟩, fun _ h => absurd h List.not_mem_nil⟩) (by decide) (by decide) (show Cond.classLink RL 13 eIA ∈ wsL_unpaid by decide +kernel) (by decide +kernel) hce hcv hcl ?_
      refine lv_astore (lv' := _) hx hb dL_unpaid_17 hl (by decide) rfl (fun ls hl => ?_)
      refine lv_iconst (v := nI 2) hx hb dL_unpaid_19 (by decide) ?_
      exact mx_iret M w hr (v := nI 2) (LWP_no (by decide) (by decide) (Or.inr (Or.inr ⟨rfl, ⟨c1, fun z => c2 ⟨Nat.zero_le _, z⟩⟩, rfl, rfl⟩))) (by decide) (by decide) dL_unpaid_20
  · obtain ⟨c1, rfl, rfl⟩ := hp1
    refine lv_i2l hx hb dL_unpaid_8 rfl ?_
    refine ex_last M w (hB 6 (by decide)) dL_unpaid_9 (fun H locs w => ?_)
    refine lv_goto (tgt := 21) hx hb dL_unpaid_10 (by decide) ?_
    refine lv_iconst (v := nI 0) hx hb dL_unpaid_21 (by decide) ?_
    exact mx_iret M w hr (v := nI 0) (LWP_ok (fun _ _ => rfl) (Or.inl ⟨rfl, c1, rfl, rfl, rfl⟩)) (by decide) (by decide) dL_unpaid_22
set_option maxHeartbeats 4000000 in
set_option maxRecDepth 100000 in
theorem kL_nextExpiry (l : Launch) (hfl : l.stackTraces = false) (D : va_G) (cy : Nat → ClassId) (C : List Nat) (ad : Nat → Nat) (e : Nat → Nat → Nat) (sz : Nat) (k d : Nat) (hCC : CC (e 0 1) (e 0 3) C) (hW : CW e) (hk : k < 4294967296) (hd : d < 4294967296) : Met l yL_nextExpiry wsL_nextExpiry ({ frames := 9, cells := 2, slots := 12, locals := 149 } : Room) (PreW D cy (C, ad, G cy ad e) sz [.ref (ad 0), .int (nI k), .int (nI d), .ref (ad 6)]) (va_Qi (fun (r : Int32) (u : WT) => LWP cy C ad (TQ e C k (d ≤ 3600) (fxC (goC e k (d + 1 - e (PB k) 0))) (goC e k (d + 1 - e (PB k) 0))) r u) (WB D cy (AW (C, ad, G cy ad e) sz)) (AW (C, ad, G cy ad e) sz)) 2 12 (AW (C, ad, G cy ad e) sz) := by
  refine mxw_start (cc := cL_nextExpiry) (maxL := 5) (ret := (some .int)) (hh := [(0, 10, 13, 21), (0, 10, 17, 13)]) (by decide) rfl (Nat.le_of_ble_eq_true rfl) ?_
  intro p9 e9 s m args below meth c hsz hr M w Th hNC htab ls hl
  have hx := M.1.1
  have hb := M.1.2.1
  have hB := hCC.B
  have hl : lv_has ls 5 [(0, .ref (ad 0)), (1, .int (nI k)), (2, .int (nI d)), (3, .ref (ad 6))] := hl
  refine lv_aload_n hx hb dL_nextExpiry_0 rfl (lv_at hl 3 rfl) ?_
  refine lv_iconst (v := nI 0) hx hb dL_nextExpiry_1 (by decide) ?_
  refine lv_aload_n hx hb dL_nextExpiry_2 rfl (lv_at hl 0 rfl) ?_
  refine lv_iload_n hx hb dL_nextExpiry_3 rfl (lv_at hl 1 rfl) ?_
  refine lv_iload_n hx hb dL_nextExpiry_4 rfl (lv_at hl 2 rfl) ?_
  refine mxc_Vi M w Th (kX3_nextExpiry l hfl D cy C ad e s.heap.size k d hCC hW hk hd) (cwV 2 M.1.2.2.2.2 gL_nextExpiry_X3_nextExpiry rfl rfl rfl (by decide +kernel) ⟨Nat.le_of_ble_eq_true rfl, Nat.le_of_ble_eq_true rfl⟩) (mo_rec M w (hB 0 (by decide)) (g := G cy ad e) (sh_0 cy ad (e 0)) rfl) rfl hl.1 rfl (Nat.le_of_ble_eq_true rfl) dL_nextExpiry_5 ⟨by decide, by decide⟩ (fun E ce q9 u1 H locs hce hcv hcl hp w => ?_) (fun r5 u1 H locs hp1 w => ?_)
  · rcases hp with ⟨c1, h9⟩ | ⟨c1, c2, h9⟩
    · obtain ⟨rfl, rfl⟩ := Prod.mk.inj h9
      refine mxc_catch M Th 13 [] ⟨0, 10, 13, 21⟩ [⟨0, 10, 17, 13⟩] htab rfl (fun _ h => absurd h List.not_mem_nil) (by decide) (by decide) (show Cond.classLink RL 21 eIO ∈ wsL_nextExpiry by decide +kernel) (by decide +kernel) hce hcv hcl ?_
      refine lv_astore (lv' := _) hx hb dL_nextExpiry_13 hl (by decide) rfl (fun ls hl => ?_)
      refine lv_iconst (v := nI 1) hx hb dL_nextExpiry_15 (by decide) ?_
      exact mx_iret M w hr (v := nI 1) (LWP_no (by decide) (by decide) (Or.inr (Or.inl ⟨rfl, c1, rfl, rfl⟩))) (by decide) (by decide) dL_nextExpiry_16
    · obtain ⟨rfl, rfl⟩ := Prod.mk.inj h9
      refine mxc_catch M Th 17 [⟨0, 10, 13, 21⟩] ⟨0, 10, 17, 13⟩ [] htab rfl (List.forall_mem_cons.mpr ⟨⟨by decide, eIO, show Cond.classLink RL 21 eIO ∈ wsL_nextExpiry by decide +kernel, hNC.1⟩, fun _ h => absurd h List.not_mem_nil⟩) (by decide) (by decide) (show Cond.classLink RL 13 eIA ∈ wsL_nextExpiry by decide +kernel) (by decide +kernel) hce hcv hcl ?_
      refine lv_astore (lv' := _) hx hb dL_nextExpiry_17 hl (by decide) rfl (fun ls hl => ?_)
      refine lv_iconst (v := nI 2) hx hb dL_nextExpiry_19 (by decide) ?_
      exact mx_iret M w hr (v := nI 2) (LWP_no (by decide) (by decide) (Or.inr (Or.inr ⟨rfl, ⟨c1, fun z => c2 ⟨Nat.zero_le _, z⟩⟩, rfl, rfl⟩))) (by decide) (by decide) dL_nextExpiry_20
  · obtain ⟨c1, rfl, rfl⟩ := hp1
    refine lv_i2l hx hb dL_nextExpiry_8 rfl ?_
    refine ex_last M w (hB 6 (by decide)) dL_nextExpiry_9 (fun H locs w => ?_)
    refine lv_goto (tgt := 21) hx hb dL_nextExpiry_10 (by decide) ?_
    refine lv_iconst (v := nI 0) hx hb dL_nextExpiry_21 (by decide) ?_
    exact mx_iret M w hr (v := nI 0) (LWP_ok (fun _ _ => rfl) (Or.inl ⟨rfl, c1, rfl, rfl, rfl⟩)) (by decide) (by decide) dL_nextExpiry_22
