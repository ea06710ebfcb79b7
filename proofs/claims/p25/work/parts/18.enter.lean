set_option maxHeartbeats 4000000 in
set_option maxRecDepth 100000 in
/-- Leavebank.setHours(person, day, hours) -/
theorem kX3_setHours (l : Launch) (hfl : l.stackTraces = false) (D : va_G) (cy : Nat → ClassId) (C : List Nat) (ad : Nat → Nat) (e : Nat → Nat → Nat) (sz : Nat) (k d h : Nat) (hCC : CC (e 0 1) (e 0 3) C) (hW : CW e) (hk : k < 4294967296) (hd : d < 4294967296) (hh : h < 4294967296) : vx_Met l yX3_setHours wsX3_setHours ({ frames := 7, cells := 4, slots := 24, locals := 104 } : Room) (PreX D cy (C, ad, G cy ad e) sz [.ref (ad 0), .int (nI k), .int (nI d), .int (nI h)]) (va_Qi (fun (r : Int32) (u : WT) => ((k < e 0 1 ∧ e (PB k) 0 ≤ d ∧ d ≤ 3600) ∧ (1 ≤ h ∧ h ≤ 10) ∧ fiN (e (PB k + 1)) d (e (PB k) 5) < 10) ∧ r = nI (hrC e k d) ∧ u = (C, ad, G cy ad (ehC e k d h))) (WB D cy (AW (C, ad, G cy ad e) sz)) (AW (C, ad, G cy ad e) sz)) (vx_X (fun (z : String × WT) => (¬ k < e 0 1 ∧ z = (eIO, (C, ad, G cy ad e))) ∨ (k < e 0 1 ∧ ¬ (e (PB k) 0 ≤ d ∧ d ≤ 3600) ∧ z = (eIA, (C, ad, G cy ad e))) ∨ ((k < e 0 1 ∧ e (PB k) 0 ≤ d ∧ d ≤ 3600) ∧ ¬ (1 ≤ h ∧ h ≤ 10) ∧ z = (eIA, (C, ad, G cy ad e))) ∨ (((k < e 0 1 ∧ e (PB k) 0 ≤ d ∧ d ≤ 3600) ∧ 1 ≤ h ∧ h ≤ 10) ∧ ¬ fiN (e (PB k + 1)) d (e (PB k) 5) < 10 ∧ z = (eIS, (C, ad, G cy ad e)))) (XB D cy (AW (C, ad, G cy ad e) sz)) (AW (C, ad, G cy ad e) sz)) 4 24 (AW (C, ad, G cy ad e) sz) := by
  refine mxx_start (cc := cX3_setHours) (maxL := 6) (ret := (some .int)) (by decide) rfl (Nat.le_of_ble_eq_true rfl) ?_
  intro p9 e9 s m args below meth c hsz hr hnm M w Th hxt ls hl
  have hx := M.1.1
  have hb := M.1.2.1
  have inX1 : ∀ w ∈ wsX10, w ∈ wsX3_setHours := by decide +kernel
  have f58 : Cond.fieldLink RX3 58 RX1 "firstDay" "I" ∈ wsX3_setHours := by decide +kernel
  have hB := hCC.B
  have hl : lv_has ls 6 [(0, .ref (ad 0)), (1, .int (nI k)), (2, .int (nI d)), (3, .int (nI h))] := hl
  refine lv_aload_n hx hb dX3_setHours_0 rfl (lv_at hl 0 rfl) ?_
  refine lv_iload_n hx hb dX3_setHours_1 rfl (lv_at hl 1 rfl) ?_
  refine mxx_Vr M w Th hxt (kX3_personAt l hfl D cy C ad e s.heap.size k hB hW hk) (cwV 1 M.1.2.2.2.2 gX3_setHours_X3_personAt rfl rfl rfl (by decide +kernel) ⟨Nat.le_of_ble_eq_true rfl, Nat.le_of_ble_eq_true rfl⟩) (mo_rec M w (hB 0 (by decide)) (g := G cy ad e) (sh_0 cy ad (e 0)) rfl) rfl hl.1 rfl (Nat.le_of_ble_eq_true rfl) dX3_setHours_2 ⟨by decide, by decide⟩ ⟨by decide, by decide⟩ (fun E u1 h => Or.inl h) (fun r2 u1 H locs hp1 ha1 w => ?_)
  obtain ⟨q2, rfl⟩ := hp1
  subst ha1
  have hp : k < 8 := by have z := hW.np; omega
  have hC := hCC.P q2
  have hpp := hW.p q2
  refine lv_astore (lv' := [(4, .ref (ad (PB k))), (0, .ref (ad 0)), (1, .int (nI k)), (2, .int (nI d)), (3, .int (nI h))]) hx hb dX3_setHours_5 hl (by decide) rfl (fun ls hl => ?_)
  refine lv_aload hx hb dX3_setHours_7 (lv_at hl 0 rfl) ?_
  refine ex_get M w (show (PB k) ∈ C from hC 0 (by decide)) (sh_P0 cy ad (e (PB k)) hp) rfl inX1 0 (by decide) f58 rfl dX3_setHours_9 ?_
  refine lv_iload_n hx hb dX3_setHours_12 rfl (lv_at hl 3 rfl) ?_
  refine mxx_Sv M w Th hxt (kX3_checkDay l hfl D cy C ad e H.size (e (PB k) 0) d hpp.a0.1 hd) (va_cwS 2 M.1.2.2.2.2 gX3_setHours_X3_checkDay rfl rfl rfl (by decide +kernel) ⟨Nat.le_of_ble_eq_true rfl, Nat.le_of_ble_eq_true rfl⟩) rfl hl.1 rfl (Nat.le_of_ble_eq_true rfl) dX3_setHours_13 ⟨by decide, by decide⟩ ⟨by decide, by decide⟩ (fun E u1 h => Or.inr (Or.inl ⟨q2, h⟩)) (fun u1 H locs hp1 w => ?_)
  obtain ⟨c13, rfl⟩ := hp1
  refine lv_iload_n hx hb dX3_setHours_16 rfl (lv_at hl 4 rfl) ?_
  refine mxx_Sv M w Th hxt (kX3_checkHours l hfl D cy C ad e H.size h hh) (va_cwS 1 M.1.2.2.2.2 gX3_setHours_X3_checkHours rfl rfl rfl (by decide +kernel) ⟨Nat.le_of_ble_eq_true rfl, Nat.le_of_ble_eq_true rfl⟩) rfl hl.1 rfl (Nat.le_of_ble_eq_true rfl) dX3_setHours_17 ⟨by decide, by decide⟩ ⟨by decide, by decide⟩ (fun E u1 h => Or.inr (Or.inr (Or.inl ⟨⟨q2, c13⟩, h⟩))) (fun u1 H locs hp1 w => ?_)
  obtain ⟨c17, rfl⟩ := hp1
  refine lv_aload hx hb dX3_setHours_20 (lv_at hl 0 rfl) ?_
  refine lv_iload_n hx hb dX3_setHours_22 rfl (lv_at hl 3 rfl) ?_
  refine mx_Vi M w (kX1_hoursOn l D cy C ad e H.size k d hp hC hpp.ch c13.2) (cwV 1 M.1.2.2.2.2 gX3_setHours_X1_hoursOn rfl rfl rfl (by decide +kernel) ⟨Nat.le_of_ble_eq_true rfl, Nat.le_of_ble_eq_true rfl⟩) (mo_rec M w (show (PB k) ∈ C from hC 0 (by decide)) (g := G cy ad e) (sh_P0 cy ad (e (PB k)) hp) rfl) rfl hl.1 rfl (Nat.le_of_ble_eq_true rfl) dX3_setHours_23 ⟨by decide, by decide⟩ (fun r23 u1 H locs hp1 w => ?_)
  obtain ⟨rfl, rfl⟩ := hp1
  refine lv_istore (lv' := [(5, .int (nI (hrC e k d))), (4, .ref (ad (PB k))), (0, .ref (ad 0)), (1, .int (nI k)), (2, .int (nI d)), (3, .int (nI h))]) hx hb dX3_setHours_26 hl (by decide) rfl (fun ls hl => ?_)
  refine lv_aload hx hb dX3_setHours_28 (lv_at hl 1 rfl) ?_
  refine lv_iload_n hx hb dX3_setHours_30 rfl (lv_at hl 4 rfl) ?_
  refine lv_iload_n hx hb dX3_setHours_31 rfl (lv_at hl 5 rfl) ?_
  refine mx_Vi M w (kX1_enterHours l D cy C ad e H.size k d h hp hC hpp.ch (by omega)) (cwV 2 M.1.2.2.2.2 gX3_setHours_X1_enterHours rfl rfl rfl (by decide +kernel) ⟨Nat.le_of_ble_eq_true rfl, Nat.le_of_ble_eq_true rfl⟩) (mo_rec M w (show (PB k) ∈ C from hC 0 (by decide)) (g := G cy ad e) (sh_P0 cy ad (e (PB k)) hp) rfl) rfl hl.1 rfl (Nat.le_of_ble_eq_true rfl) dX3_setHours_32 ⟨by decide, by decide⟩ (fun r32 u1 H locs hp1 w => ?_)
  obtain ⟨rfl, rfl⟩ := hp1
  refine mi_if_ne hx hb (by split <;> decide) 48 dX3_setHours_35 (by decide) (fun h35 => ?_) (fun h35 => ?_)
  · have q5 : fiN (e (PB k + 1)) d (e (PB k) 5) < 10 := Decidable.byContradiction (fun z => h35 (if_neg z))
    rw [if_pos q5] at w
    refine lv_iload hx hb dX3_setHours_48 (lv_at hl 0 rfl) ?_
    refine vx_ret ?_
    exact mx_iret M w hr (v := (nI (hrC e k d))) ⟨⟨⟨q2, c13⟩, c17, q5⟩, rfl, rfl⟩ (by decide) (by decide) dX3_setHours_50
  · have q5 : ¬ fiN (e (PB k + 1)) d (e (PB k) 5) < 10 := fun z => absurd ((if_pos z).symm.trans h35) (by decide)
    rw [if_neg q5] at w
    exact mx_throw M w Th hfl hxt (cls := eIS) (text := "10 changes for other days are entered") (is := 73) (by decide +kernel) (show Cond.classLink RX3 43 eIS ∈ wsX3_setHours by decide +kernel) (show Cond.initialized eIS ∈ wsX3_setHours by decide +kernel) (by decide +kernel) rfl (show ∀ w ∈ (vx_atS RX3 47 eIS eUP).filter goodWord, w ∈ wsX3_setHours by decide +kernel) (by decide +kernel) (by decide +kernel) hl.1 dX3_setHours_38 dX3_setHours_41 dX3_setHours_42 dX3_setHours_44 dX3_setHours_47 (by decide) (Nat.le_of_ble_eq_true rfl) (by decide) (by decide) (Or.inr (Or.inr (Or.inr ⟨⟨⟨q2, c13⟩, c17⟩, q5, rfl⟩))) (by decide) (by decide)

set_option maxHeartbeats 4000000 in
set_option maxRecDepth 100000 in
/-- Leavebank.sick(person, first, last) -/
theorem kX3_sick (l : Launch) (hfl : l.stackTraces = false) (D : va_G) (cy : Nat → ClassId) (C : List Nat) (ad : Nat → Nat) (e : Nat → Nat → Nat) (sz : Nat) (k f t : Nat) (hCC : CC (e 0 1) (e 0 3) C) (hW : CW e) (hk : k < 4294967296) (hf : f < 4294967296) (ht : t < 4294967296) : vx_Met l yX3_sick wsX3_sick ({ frames := 7, cells := 3, slots := 18, locals := 104 } : Room) (PreX D cy (C, ad, G cy ad e) sz [.ref (ad 0), .int (nI k), .int (nI f), .int (nI t)]) (va_Qi (fun (r : Int32) (u : WT) => ((k < e 0 1 ∧ e (PB k) 0 ≤ f ∧ f ≤ t ∧ t ≤ 3600) ∧ e 0 4 < 30) ∧ r = nI (e 0 4 + 1) ∧ u = (C, ad, G cy ad (es (esC e k f t) 0 4 (e 0 4 + 1)))) (WB D cy (AW (C, ad, G cy ad e) sz)) (AW (C, ad, G cy ad e) sz)) (vx_X (fun (z : String × WT) => (¬ k < e 0 1 ∧ z = (eIO, (C, ad, G cy ad e))) ∨ (k < e 0 1 ∧ ¬ (e (PB k) 0 ≤ f ∧ f ≤ t ∧ t ≤ 3600) ∧ z = (eIA, (C, ad, G cy ad e))) ∨ ((k < e 0 1 ∧ e (PB k) 0 ≤ f ∧ f ≤ t ∧ t ≤ 3600) ∧ ¬ e 0 4 < 30 ∧ z = (eIS, (C, ad, G cy ad e)))) (XB D cy (AW (C, ad, G cy ad e) sz)) (AW (C, ad, G cy ad e) sz)) 3 18 (AW (C, ad, G cy ad e) sz) := by
  refine mxx_start (cc := cX3_sick) (maxL := 5) (ret := (some .int)) (by decide) rfl (Nat.le_of_ble_eq_true rfl) ?_
  intro p9 e9 s m args below meth c hsz hr hnm M w Th hxt ls hl
  have hx := M.1.1
  have hb := M.1.2.1
  have inX1 : ∀ w ∈ wsX10, w ∈ wsX3_sick := by decide +kernel
  have inX3 : ∀ w ∈ wsX30, w ∈ wsX3_sick := by decide +kernel
  have f58 : Cond.fieldLink RX3 58 RX1 "firstDay" "I" ∈ wsX3_sick := by decide +kernel
  have f111 : Cond.fieldLink RX3 111 RX3 "spellCount" "I" ∈ wsX3_sick := by decide +kernel
  have hB := hCC.B
  have hRC := hCC.R
  have hl : lv_has ls 5 [(0, .ref (ad 0)), (1, .int (nI k)), (2, .int (nI f)), (3, .int (nI t))] := hl
  refine lv_aload_n hx hb dX3_sick_0 rfl (lv_at hl 0 rfl) ?_
  refine lv_iload_n hx hb dX3_sick_1 rfl (lv_at hl 1 rfl) ?_
  refine mxx_Vr M w Th hxt (kX3_personAt l hfl D cy C ad e s.heap.size k hB hW hk) (cwV 1 M.1.2.2.2.2 gX3_sick_X3_personAt rfl rfl rfl (by decide +kernel) ⟨Nat.le_of_ble_eq_true rfl, Nat.le_of_ble_eq_true rfl⟩) (mo_rec M w (hB 0 (by decide)) (g := G cy ad e) (sh_0 cy ad (e 0)) rfl) rfl hl.1 rfl (Nat.le_of_ble_eq_true rfl) dX3_sick_2 ⟨by decide, by decide⟩ ⟨by decide, by decide⟩ (fun E u1 h => Or.inl h) (fun r2 u1 H locs hp1 ha1 w => ?_)
  obtain ⟨q2, rfl⟩ := hp1
  subst ha1
  have hp : k < 8 := by have z := hW.np; omega
  have hC := hCC.P q2
  have hpp := hW.p q2
  refine lv_astore (lv' := [(4, .ref (ad (PB k))), (0, .ref (ad 0)), (1, .int (nI k)), (2, .int (nI f)), (3, .int (nI t))]) hx hb dX3_sick_5 hl (by decide) rfl (fun ls hl => ?_)
  refine lv_aload hx hb dX3_sick_7 (lv_at hl 0 rfl) ?_
  refine ex_get M w (show (PB k) ∈ C from hC 0 (by decide)) (sh_P0 cy ad (e (PB k)) hp) rfl inX1 0 (by decide) f58 rfl dX3_sick_9 ?_
  refine lv_iload_n hx hb dX3_sick_12 rfl (lv_at hl 3 rfl) ?_
  refine lv_iload_n hx hb dX3_sick_13 rfl (lv_at hl 4 rfl) ?_
  refine mxx_Sv M w Th hxt (kX3_checkDays l hfl D cy C ad e H.size (e (PB k) 0) f t hpp.a0.1 hf ht) (va_cwS 3 M.1.2.2.2.2 gX3_sick_X3_checkDays rfl rfl rfl (by decide +kernel) ⟨Nat.le_of_ble_eq_true rfl, Nat.le_of_ble_eq_true rfl⟩) rfl hl.1 rfl (Nat.le_of_ble_eq_true rfl) dX3_sick_14 ⟨by decide, by decide⟩ ⟨by decide, by decide⟩ (fun E u1 h => Or.inr (Or.inl ⟨q2, h⟩)) (fun u1 H locs hp1 w => ?_)
  obtain ⟨c14, rfl⟩ := hp1
  have q6 := hW.ns
  refine lv_aload_n hx hb dX3_sick_17 rfl (lv_at hl 1 rfl) ?_
  refine ex_get M w (hB 0 (by decide)) (sh_0 cy ad (e 0)) rfl inX3 4 (by decide) f111 rfl dX3_sick_18 ?_
  refine lv_bipush (v := nI 30) hx hb dX3_sick_21 (by decide) ?_
  refine mi_lt hx hb (by omega) (by decide) 36 dX3_sick_23 (by decide) (fun h23 => ?_) (fun h23 => ?_)
  · refine lv_aload hx hb dX3_sick_36 (lv_at hl 0 rfl) ?_
    refine lv_iload_n hx hb dX3_sick_38 rfl (lv_at hl 3 rfl) ?_
    refine lv_iload_n hx hb dX3_sick_39 rfl (lv_at hl 4 rfl) ?_
    refine mx_Vv M w (kX1_enterSpell l D cy C ad e H.size k f t _ hp hC hpp.sp hpp.rq hRC hW.rw' (by have z := hpp.2.2.2.2.2.2.2.1; omega) c14.2.1 c14.2.2) (cwV 2 M.1.2.2.2.2 gX3_sick_X1_enterSpell rfl rfl rfl (by decide +kernel) ⟨Nat.le_of_ble_eq_true rfl, Nat.le_of_ble_eq_true rfl⟩) (mo_rec M w (show (PB k) ∈ C from hC 0 (by decide)) (g := G cy ad e) (sh_P0 cy ad (e (PB k)) hp) rfl) rfl hl.1 rfl (Nat.le_of_ble_eq_true rfl) dX3_sick_40 ⟨by decide, by decide⟩ (fun u1 H locs hp1 w => ?_)
    obtain rfl := hp1
    refine lv_aload_n hx hb dX3_sick_43 rfl (lv_at hl 1 rfl) ?_
    refine lv_dup hx hb dX3_sick_44 rfl ?_
    refine ex_get M w (hB 0 (by decide)) (sh_0 cy ad ((esC e k f t) 0)) rfl inX3 4 (by decide) f111 (congrArg (fun z => some (Value.int (nI z))) (congrFun (esC_lo e k f t (by decide)) 4)) dX3_sick_45 ?_
    refine lv_iconst (v := nI 1) hx hb dX3_sick_48 (by decide) ?_
    refine mi_add hx hb dX3_sick_49 ?_
    refine ex_put M w (hB 0 (by decide)) (sh_0 cy ad ((esC e k f t) 0)) rfl inX3 tyX3 tyX3_ok nmX3 4 (by decide) f111 rfl (v := ((e 0 4) + 1)) rfl rfl (Nat.le_of_ble_eq_true rfl) (sh_0 cy ad _) dX3_sick_50 (fun H locs w => ?_)
    refine lv_aload_n hx hb dX3_sick_53 rfl (lv_at hl 1 rfl) ?_
    refine ex_get M w (hB 0 (by decide)) (sh_0 cy ad ((es (esC e k f t) 0 4 ((e 0 4) + 1)) 0)) rfl inX3 4 (by decide) f111 (congrArg (fun z => some (Value.int (nI z))) (es_same _ _ _ _)) dX3_sick_54 ?_
    refine vx_ret ?_
    exact mx_iret M w hr (v := (nI ((e 0 4) + 1))) ⟨⟨⟨q2, c14⟩, h23⟩, rfl, rfl⟩ (by decide) (by decide) dX3_sick_57
  · exact mx_throw M w Th hfl hxt (cls := eIS) (text := "there are 30 spells") (is := 114) (by decide +kernel) (show Cond.classLink RX3 43 eIS ∈ wsX3_sick by decide +kernel) (show Cond.initialized eIS ∈ wsX3_sick by decide +kernel) (by decide +kernel) rfl (show ∀ w ∈ (vx_atS RX3 47 eIS eUP).filter goodWord, w ∈ wsX3_sick by decide +kernel) (by decide +kernel) (by decide +kernel) hl.1 dX3_sick_26 dX3_sick_29 dX3_sick_30 dX3_sick_32 dX3_sick_35 (by decide) (Nat.le_of_ble_eq_true rfl) (by decide) (by decide) (Or.inr (Or.inr ⟨⟨q2, c14⟩, by omega, rfl⟩)) (by decide) (by decide)

set_option maxHeartbeats 4000000 in
set_option maxRecDepth 100000 in
/-- Leavebank.payOut(person, points) -/
theorem kX3_payOut (l : Launch) (hfl : l.stackTraces = false) (D : va_G) (cy : Nat → ClassId) (C : List Nat) (ad : Nat → Nat) (e : Nat → Nat → Nat) (sz : Nat) (k h : Nat) (hCC : CC (e 0 1) (e 0 3) C) (hW : CW e) (hk : k < 4294967296) (hh : h < 4294967296) : vx_Met l yX3_payOut wsX3_payOut ({ frames := 7, cells := 4, slots := 24, locals := 104 } : Room) (PreX D cy (C, ad, G cy ad e) sz [.ref (ad 0), .int (nI k), .int (nI h)]) (va_Qi (fun (r : Int32) (u : WT) => ((k < e 0 1 ∧ 1 ≤ h ∧ h ≤ 20000) ∧ e 0 5 < 20 ∧ h ≤ totC (goC e k (e 0 6 + 1 - e (PB k) 0))) ∧ r = nI (e 0 5) ∧ u = (C, ad, G cy ad (es (epC (goC e k (e 0 6 + 1 - e (PB k) 0)) k (e 0 6) h) 0 5 (e 0 5 + 1)))) (WB D cy (AW (C, ad, G cy ad e) sz)) (AW (C, ad, G cy ad e) sz)) (vx_X (fun (z : String × WT) => (¬ k < e 0 1 ∧ z = (eIO, (C, ad, G cy ad e))) ∨ (k < e 0 1 ∧ ¬ (1 ≤ h ∧ h ≤ 20000) ∧ z = (eIA, (C, ad, G cy ad e))) ∨ ((k < e 0 1 ∧ 1 ≤ h ∧ h ≤ 20000) ∧ ¬ e 0 5 < 20 ∧ z = (eIS, (C, ad, G cy ad e))) ∨ (((k < e 0 1 ∧ 1 ≤ h ∧ h ≤ 20000) ∧ e 0 5 < 20) ∧ totC (goC e k (e 0 6 + 1 - e (PB k) 0)) < h ∧ z = (eIS, C, ad, G cy ad (goC e k (e 0 6 + 1 - e (PB k) 0))))) (XB D cy (AW (C, ad, G cy ad e) sz)) (AW (C, ad, G cy ad e) sz)) 4 24 (AW (C, ad, G cy ad e) sz) := by
  refine mxx_start (cc := cX3_payOut) (maxL := 5) (ret := (some .int)) (by decide) rfl (Nat.le_of_ble_eq_true rfl) ?_
  intro p9 e9 s m args below meth c hsz hr hnm M w Th hxt ls hl
  have hx := M.1.1
  have hb := M.1.2.1
  have inX3 : ∀ w ∈ wsX30, w ∈ wsX3_payOut := by decide +kernel
  have f24 : Cond.fieldLink RX3 24 RX3 "ledger" "LLeavebank$Ledger;" ∈ wsX3_payOut := by decide +kernel
  have f48 : Cond.fieldLink RX3 48 RX3 "currentDay" "I" ∈ wsX3_payOut := by decide +kernel
  have f121 : Cond.fieldLink RX3 121 RX3 "payoutCount" "I" ∈ wsX3_payOut := by decide +kernel
  have hB := hCC.B
  have hl : lv_has ls 5 [(0, .ref (ad 0)), (1, .int (nI k)), (2, .int (nI h))] := hl
  refine lv_aload_n hx hb dX3_payOut_0 rfl (lv_at hl 0 rfl) ?_
  refine lv_iload_n hx hb dX3_payOut_1 rfl (lv_at hl 1 rfl) ?_
  refine mxx_Vr M w Th hxt (kX3_personAt l hfl D cy C ad e s.heap.size k hB hW hk) (cwV 1 M.1.2.2.2.2 gX3_payOut_X3_personAt rfl rfl rfl (by decide +kernel) ⟨Nat.le_of_ble_eq_true rfl, Nat.le_of_ble_eq_true rfl⟩) (mo_rec M w (hB 0 (by decide)) (g := G cy ad e) (sh_0 cy ad (e 0)) rfl) rfl hl.1 rfl (Nat.le_of_ble_eq_true rfl) dX3_payOut_2 ⟨by decide, by decide⟩ ⟨by decide, by decide⟩ (fun E u1 h => Or.inl h) (fun r2 u1 H locs hp1 ha1 w => ?_)
  obtain ⟨q2, rfl⟩ := hp1
  subst ha1
  have hp : k < 8 := by have z := hW.np; omega
  have hC := hCC.P q2
  have hpp := hW.p q2
  have hgw := GW_go hpp.a0 hpp.ch hpp.py hpp.lv (e 0 6 + 1 - e (PB k) 0) (by have z := hpp.a0.1; have z2 := hW.td; omega)
  refine lv_astore_n (lv' := [(3, .ref (ad (PB k))), (0, .ref (ad 0)), (1, .int (nI k)), (2, .int (nI h))]) hx hb dX3_payOut_5 rfl hl (by decide) rfl (fun ls hl => ?_)
  refine lv_iload_n hx hb dX3_payOut_6 rfl (lv_at hl 3 rfl) ?_
  refine lv_iconst (v := nI 1) hx hb dX3_payOut_7 (by decide) ?_
  refine mw_lt hx hb hh (by decide) 18 dX3_payOut_8 (by decide) (fun h8 => ?_) (fun h8 => ?_)
  · exact mx_throw M w Th hfl hxt (cls := eIA) (text := "points are out of range") (is := 119) (by decide +kernel) (show Cond.classLink RX3 28 eIA ∈ wsX3_payOut by decide +kernel) (show Cond.initialized eIA ∈ wsX3_payOut by decide +kernel) (by decide +kernel) rfl (show ∀ w ∈ (vx_atS RX3 32 eIA eUP).filter goodWord, w ∈ wsX3_payOut by decide +kernel) (by decide +kernel) (by decide +kernel) hl.1 dX3_payOut_18 dX3_payOut_21 dX3_payOut_22 dX3_payOut_24 dX3_payOut_27 (by decide) (Nat.le_of_ble_eq_true rfl) (by decide) (by decide) (Or.inr (Or.inl ⟨q2, by omega, rfl⟩)) (by decide) (by decide)
  · refine lv_iload_n hx hb dX3_payOut_11 rfl (lv_at hl 3 rfl) ?_
    refine lv_sipush (v := nI 20000) hx hb dX3_payOut_12 (by decide) ?_
    refine mw_le hx hb hh (by decide) 28 dX3_payOut_15 (by decide) (fun h15 => ?_) (fun h15 => ?_)
    · have q6 := hW.ny
      refine lv_aload_n hx hb dX3_payOut_28 rfl (lv_at hl 1 rfl) ?_
      refine ex_get M w (hB 0 (by decide)) (sh_0 cy ad (e 0)) rfl inX3 5 (by decide) f121 rfl dX3_payOut_29 ?_
      refine lv_bipush (v := nI 20) hx hb dX3_payOut_32 (by decide) ?_
      refine mi_lt hx hb (by omega) (by decide) 47 dX3_payOut_34 (by decide) (fun h34 => ?_) (fun h34 => ?_)
      · refine lv_aload_n hx hb dX3_payOut_47 rfl (lv_at hl 1 rfl) ?_
        refine ex_get M w (hB 0 (by decide)) (sh_0 cy ad (e 0)) rfl inX3 7 (by decide) f24 rfl dX3_payOut_48 ?_
        refine lv_aload_n hx hb dX3_payOut_51 rfl (lv_at hl 0 rfl) ?_
        refine lv_aload_n hx hb dX3_payOut_52 rfl (lv_at hl 1 rfl) ?_
        refine ex_get M w (hB 0 (by decide)) (sh_0 cy ad (e 0)) rfl inX3 6 (by decide) f48 rfl dX3_payOut_53 ?_
        refine mx_Vv M w (kX0_goThrough l D cy C ad e H.size k (e 0 6) hp hC hB hpp.a0 hpp.ch hpp.py hpp.lv hW.td) (cwV 2 M.1.2.2.2.2 gX3_payOut_X0_goThrough rfl rfl rfl (by decide +kernel) ⟨Nat.le_of_ble_eq_true rfl, Nat.le_of_ble_eq_true rfl⟩) (mo_rec M w (hB 3 (by decide)) (g := G cy ad e) (sh_3 cy ad (e 3)) rfl) rfl hl.1 rfl (Nat.le_of_ble_eq_true rfl) dX3_payOut_56 ⟨by decide, by decide⟩ (fun u1 H locs hp1 w => ?_)
        obtain rfl := hp1
        refine lv_aload_n hx hb dX3_payOut_59 rfl (lv_at hl 1 rfl) ?_
        refine ex_get M w (hB 0 (by decide)) (sh_0 cy ad ((goC e k (e 0 6 + 1 - e (PB k) 0)) 0)) rfl inX3 7 (by decide) f24 rfl dX3_payOut_60 ?_
        refine mx_Vi M w (kX0_pointsInLots l D cy C ad (goC e k (e 0 6 + 1 - e (PB k) 0)) H.size hB hgw.1) (cwV 0 M.1.2.2.2.2 gX3_payOut_X0_pointsInLots rfl rfl rfl (by decide +kernel) ⟨Nat.le_of_ble_eq_true rfl, Nat.le_of_ble_eq_true rfl⟩) (mo_rec M w (hB 3 (by decide)) (g := G cy ad (goC e k (e 0 6 + 1 - e (PB k) 0))) (sh_3 cy ad ((goC e k (e 0 6 + 1 - e (PB k) 0)) 3)) rfl) rfl hl.1 rfl (Nat.le_of_ble_eq_true rfl) dX3_payOut_63 ⟨by decide, by decide⟩ (fun r63 u1 H locs hp1 w => ?_)
        obtain ⟨rfl, rfl⟩ := hp1
        have q7 := totC_le hgw.1
        refine lv_iload_n hx hb dX3_payOut_66 rfl (lv_at hl 3 rfl) ?_
        refine mi_ge hx hb (by omega) (by omega) 80 dX3_payOut_67 (by decide) (fun h67 => ?_) (fun h67 => ?_)
        · refine lv_aload_n hx hb dX3_payOut_80 rfl (lv_at hl 0 rfl) ?_
          refine lv_aload_n hx hb dX3_payOut_81 rfl (lv_at hl 1 rfl) ?_
          refine ex_get M w (hB 0 (by decide)) (sh_0 cy ad ((goC e k (e 0 6 + 1 - e (PB k) 0)) 0)) rfl inX3 6 (by decide) f48 (congrArg (fun z => some (Value.int (nI z))) (congrFun (Off_go e k (e 0 6 + 1 - e (PB k) 0) 0 (by decide) (by decide) (by decide)) 6)) dX3_payOut_82 ?_
          refine lv_iload_n hx hb dX3_payOut_85 rfl (lv_at hl 3 rfl) ?_
          refine mx_Vv M w (kX1_enterPayout l D cy C ad (goC e k (e 0 6 + 1 - e (PB k) 0)) H.size k (e 0 6) h hp hC (by rw [goC_P0]; have z := hpp.2.2.2.2.2.2.2.2; omega)) (cwV 2 M.1.2.2.2.2 gX3_payOut_X1_enterPayout rfl rfl rfl (by decide +kernel) ⟨Nat.le_of_ble_eq_true rfl, Nat.le_of_ble_eq_true rfl⟩) (mo_rec M w (show (PB k) ∈ C from hC 0 (by decide)) (g := G cy ad (goC e k (e 0 6 + 1 - e (PB k) 0))) (sh_P0 cy ad ((goC e k (e 0 6 + 1 - e (PB k) 0)) (PB k)) hp) rfl) rfl hl.1 rfl (Nat.le_of_ble_eq_true rfl) dX3_payOut_86 ⟨by decide, by decide⟩ (fun u1 H locs hp1 w => ?_)
          obtain rfl := hp1
          refine lv_aload_n hx hb dX3_payOut_89 rfl (lv_at hl 1 rfl) ?_
          refine ex_get M w (hB 0 (by decide)) (sh_0 cy ad ((epC (goC e k (e 0 6 + 1 - e (PB k) 0)) k (e 0 6) h) 0)) rfl inX3 5 (by decide) f121 (congrArg (fun z => some (Value.int (nI z))) (congrFun ((epC_lo _ k _ _ (by decide)).trans (Off_go e k (e 0 6 + 1 - e (PB k) 0) 0 (by decide) (by decide) (by decide))) 5)) dX3_payOut_90 ?_
          refine lv_istore (lv' := [(4, .int (nI (e 0 5))), (3, .ref (ad (PB k))), (0, .ref (ad 0)), (1, .int (nI k)), (2, .int (nI h))]) hx hb dX3_payOut_93 hl (by decide) rfl (fun ls hl => ?_)
          refine lv_aload_n hx hb dX3_payOut_95 rfl (lv_at hl 2 rfl) ?_
          refine lv_iload hx hb dX3_payOut_96 (lv_at hl 0 rfl) ?_
          refine lv_iconst (v := nI 1) hx hb dX3_payOut_98 (by decide) ?_
          refine mi_add hx hb dX3_payOut_99 ?_
          refine ex_put M w (hB 0 (by decide)) (sh_0 cy ad ((epC (goC e k (e 0 6 + 1 - e (PB k) 0)) k (e 0 6) h) 0)) rfl inX3 tyX3 tyX3_ok nmX3 5 (by decide) f121 rfl (v := ((e 0 5) + 1)) rfl rfl (Nat.le_of_ble_eq_true rfl) (sh_0 cy ad _) dX3_payOut_100 (fun H locs w => ?_)
          refine lv_iload hx hb dX3_payOut_103 (lv_at hl 0 rfl) ?_
          refine vx_ret ?_
          exact mx_iret M w hr (v := (nI (e 0 5))) ⟨⟨⟨q2, by omega⟩, by omega, by omega⟩, rfl, rfl⟩ (by decide) (by decide) dX3_payOut_105
        · exact mx_throw M w Th hfl hxt (cls := eIS) (text := "the lots have less than that") (is := 134) (by decide +kernel) (show Cond.classLink RX3 43 eIS ∈ wsX3_payOut by decide +kernel) (show Cond.initialized eIS ∈ wsX3_payOut by decide +kernel) (by decide +kernel) rfl (show ∀ w ∈ (vx_atS RX3 47 eIS eUP).filter goodWord, w ∈ wsX3_payOut by decide +kernel) (by decide +kernel) (by decide +kernel) hl.1 dX3_payOut_70 dX3_payOut_73 dX3_payOut_74 dX3_payOut_76 dX3_payOut_79 (by decide) (Nat.le_of_ble_eq_true rfl) (by decide) (by decide) (Or.inr (Or.inr (Or.inr ⟨⟨⟨q2, by omega⟩, by omega⟩, by omega, rfl⟩))) (by decide) (by decide)
      · exact mx_throw M w Th hfl hxt (cls := eIS) (text := "there are 20 payouts") (is := 124) (by decide +kernel) (show Cond.classLink RX3 43 eIS ∈ wsX3_payOut by decide +kernel) (show Cond.initialized eIS ∈ wsX3_payOut by decide +kernel) (by decide +kernel) rfl (show ∀ w ∈ (vx_atS RX3 47 eIS eUP).filter goodWord, w ∈ wsX3_payOut by decide +kernel) (by decide +kernel) (by decide +kernel) hl.1 dX3_payOut_37 dX3_payOut_40 dX3_payOut_41 dX3_payOut_43 dX3_payOut_46 (by decide) (Nat.le_of_ble_eq_true rfl) (by decide) (by decide) (Or.inr (Or.inr (Or.inl ⟨⟨q2, by omega⟩, by omega, rfl⟩))) (by decide) (by decide)
    · exact mx_throw M w Th hfl hxt (cls := eIA) (text := "points are out of range") (is := 119) (by decide +kernel) (show Cond.classLink RX3 28 eIA ∈ wsX3_payOut by decide +kernel) (show Cond.initialized eIA ∈ wsX3_payOut by decide +kernel) (by decide +kernel) rfl (show ∀ w ∈ (vx_atS RX3 32 eIA eUP).filter goodWord, w ∈ wsX3_payOut by decide +kernel) (by decide +kernel) (by decide +kernel) hl.1 dX3_payOut_18 dX3_payOut_21 dX3_payOut_22 dX3_payOut_24 dX3_payOut_27 (by decide) (Nat.le_of_ble_eq_true rfl) (by decide) (by decide) (Or.inr (Or.inl ⟨q2, by omega, rfl⟩)) (by decide) (by decide)

set_option maxHeartbeats 4000000 in
set_option maxRecDepth 100000 in
/-- Leavebank.change(request, first, last) -/
theorem kX3_change (l : Launch) (hfl : l.stackTraces = false) (D : va_G) (cy : Nat → ClassId) (C : List Nat) (ad : Nat → Nat) (e : Nat → Nat → Nat) (sz : Nat) (k f t : Nat) (hCC : CC (e 0 1) (e 0 3) C) (hW : CW e) (hk : k < 4294967296) (hf : f < 4294967296) (ht : t < 4294967296) : vx_Met l yX3_change wsX3_change ({ frames := 7, cells := 3, slots := 18, locals := 104 } : Room) (PreX D cy (C, ad, G cy ad e) sz [.ref (ad 0), .int (nI k), .int (nI f), .int (nI t)]) (va_Qi (fun (r : Int32) (u : WT) => ((k < e 0 3 ∧ e (PB (e (RB k) 0)) 0 ≤ f ∧ f ≤ t ∧ t ≤ 3600) ∧ e (RB k) 4 = 0) ∧ r = nI (e (RB k) 3 - e (RB k) 2 + 1) ∧ u = (C, ad, G cy ad (mkC (mkC (es (es e (RB k) 2 f) (RB k) 3 t) (e (RB k) 0) (e (RB k) 2) (e (RB k) 3 + 1)) (e (RB k) 0) f (t + 1)))) (WB D cy (AW (C, ad, G cy ad e) sz)) (AW (C, ad, G cy ad e) sz)) (vx_X (fun (z : String × WT) => (¬ k < e 0 3 ∧ z = (eIO, (C, ad, G cy ad e))) ∨ (k < e 0 3 ∧ ¬ (e (PB (e (RB k) 0)) 0 ≤ f ∧ f ≤ t ∧ t ≤ 3600) ∧ z = (eIA, (C, ad, G cy ad e))) ∨ ((k < e 0 3 ∧ e (PB (e (RB k) 0)) 0 ≤ f ∧ f ≤ t ∧ t ≤ 3600) ∧ ¬ e (RB k) 4 = 0 ∧ z = (eIS, (C, ad, G cy ad e)))) (XB D cy (AW (C, ad, G cy ad e) sz)) (AW (C, ad, G cy ad e) sz)) 3 18 (AW (C, ad, G cy ad e) sz) := by
  refine mxx_start (cc := cX3_change) (maxL := 7) (ret := (some .int)) (by decide) rfl (Nat.le_of_ble_eq_true rfl) ?_
  intro p9 e9 s m args below meth c hsz hr hnm M w Th hxt ls hl
  have hx := M.1.1
  have hb := M.1.2.1
  have inX1 : ∀ w ∈ wsX10, w ∈ wsX3_change := by decide +kernel
  have inX2 : ∀ w ∈ wsX20, w ∈ wsX3_change := by decide +kernel
  have f58 : Cond.fieldLink RX3 58 RX1 "firstDay" "I" ∈ wsX3_change := by decide +kernel
  have f94 : Cond.fieldLink RX3 94 RX2 "owner" "LLeavebank$Person;" ∈ wsX3_change := by decide +kernel
  have f98 : Cond.fieldLink RX3 98 RX2 "isCancelled" "Z" ∈ wsX3_change := by decide +kernel
  have f104 : Cond.fieldLink RX3 104 RX2 "firstDay" "I" ∈ wsX3_change := by decide +kernel
  have f105 : Cond.fieldLink RX3 105 RX2 "lastDay" "I" ∈ wsX3_change := by decide +kernel
  have hB := hCC.B
  have hRC := hCC.R
  have hl : lv_has ls 7 [(0, .ref (ad 0)), (1, .int (nI k)), (2, .int (nI f)), (3, .int (nI t))] := hl
  refine lv_aload_n hx hb dX3_change_0 rfl (lv_at hl 0 rfl) ?_
  refine lv_iload_n hx hb dX3_change_1 rfl (lv_at hl 1 rfl) ?_
  refine mxx_Vr M w Th hxt (kX3_requestAt l hfl D cy C ad e s.heap.size k hB hW hk) (cwV 1 M.1.2.2.2.2 gX3_change_X3_requestAt rfl rfl rfl (by decide +kernel) ⟨Nat.le_of_ble_eq_true rfl, Nat.le_of_ble_eq_true rfl⟩) (mo_rec M w (hB 0 (by decide)) (g := G cy ad e) (sh_0 cy ad (e 0)) rfl) rfl hl.1 rfl (Nat.le_of_ble_eq_true rfl) dX3_change_2 ⟨by decide, by decide⟩ ⟨by decide, by decide⟩ (fun E u1 h => Or.inl h) (fun r2 u1 H locs hp1 ha1 w => ?_)
  obtain ⟨q2, rfl⟩ := hp1
  subst ha1
  have q8 := hW.rq k q2
  have q9 := hW.rw' k q2
  have hp : e (RB k) 0 < 8 := by have z := hW.np; omega
  have hC := hCC.P q8.1
  have hpp := hW.p q8.1
  have hR : RB k ∈ C := hRC k q2
  refine lv_astore (lv' := [(4, .ref (ad (RB k))), (0, .ref (ad 0)), (1, .int (nI k)), (2, .int (nI f)), (3, .int (nI t))]) hx hb dX3_change_5 hl (by decide) rfl (fun ls hl => ?_)
  refine lv_aload hx hb dX3_change_7 (lv_at hl 0 rfl) ?_
  refine ex_get M w (hR) (sh_RB cy ad k (e (RB k))) rfl inX2 0 (by decide) f94 rfl dX3_change_9 ?_
  refine ex_get M w (show (PB (e (RB k) 0)) ∈ C from hC 0 (by decide)) (sh_P0 cy ad (e (PB (e (RB k) 0))) hp) rfl inX1 0 (by decide) f58 rfl dX3_change_12 ?_
  refine lv_iload_n hx hb dX3_change_15 rfl (lv_at hl 3 rfl) ?_
  refine lv_iload_n hx hb dX3_change_16 rfl (lv_at hl 4 rfl) ?_
  refine mxx_Sv M w Th hxt (kX3_checkDays l hfl D cy C ad e H.size (e (PB (e (RB k) 0)) 0) f t hpp.a0.1 hf ht) (va_cwS 3 M.1.2.2.2.2 gX3_change_X3_checkDays rfl rfl rfl (by decide +kernel) ⟨Nat.le_of_ble_eq_true rfl, Nat.le_of_ble_eq_true rfl⟩) rfl hl.1 rfl (Nat.le_of_ble_eq_true rfl) dX3_change_17 ⟨by decide, by decide⟩ ⟨by decide, by decide⟩ (fun E u1 h => Or.inr (Or.inl ⟨q2, h⟩)) (fun u1 H locs hp1 w => ?_)
  obtain ⟨c17, rfl⟩ := hp1
  refine lv_aload hx hb dX3_change_20 (lv_at hl 0 rfl) ?_
  refine ex_get M w (hR) (sh_RB cy ad k (e (RB k))) rfl inX2 4 (by decide) f98 rfl dX3_change_22 ?_
  refine mi_if_eq hx hb (by omega) 38 dX3_change_25 (by decide) (fun h25 => ?_) (fun h25 => ?_)
  · refine lv_aload hx hb dX3_change_38 (lv_at hl 0 rfl) ?_
    refine ex_get M w (hR) (sh_RB cy ad k (e (RB k))) rfl inX2 2 (by decide) f104 rfl dX3_change_40 ?_
    refine lv_istore (lv' := [(5, .int (nI (e (RB k) 2))), (4, .ref (ad (RB k))), (0, .ref (ad 0)), (1, .int (nI k)), (2, .int (nI f)), (3, .int (nI t))]) hx hb dX3_change_43 hl (by decide) rfl (fun ls hl => ?_)
    refine lv_aload hx hb dX3_change_45 (lv_at hl 1 rfl) ?_
    refine ex_get M w (hR) (sh_RB cy ad k (e (RB k))) rfl inX2 3 (by decide) f105 rfl dX3_change_47 ?_
    refine lv_istore (lv' := [(6, .int (nI (e (RB k) 3))), (5, .int (nI (e (RB k) 2))), (4, .ref (ad (RB k))), (0, .ref (ad 0)), (1, .int (nI k)), (2, .int (nI f)), (3, .int (nI t))]) hx hb dX3_change_50 hl (by decide) rfl (fun ls hl => ?_)
    refine lv_aload hx hb dX3_change_52 (lv_at hl 2 rfl) ?_
    refine lv_iload_n hx hb dX3_change_54 rfl (lv_at hl 5 rfl) ?_
    refine ex_put M w (hR) (sh_RB cy ad k (e (RB k))) rfl inX2 tyX2 tyX2_ok nmX2 2 (by decide) f104 rfl (v := f) rfl rfl (Nat.le_of_ble_eq_true rfl) (sh_RB cy ad k _) dX3_change_55 (fun H locs w => ?_)
    refine lv_aload hx hb dX3_change_58 (lv_at hl 2 rfl) ?_
    refine lv_iload_n hx hb dX3_change_60 rfl (lv_at hl 6 rfl) ?_
    refine ex_put M w (hR) (sh_RB cy ad k ((es e (RB k) 2 f) (RB k))) rfl inX2 tyX2 tyX2_ok nmX2 3 (by decide) f105 rfl (v := t) rfl rfl (Nat.le_of_ble_eq_true rfl) (sh_RB cy ad k _) dX3_change_61 (fun H locs w => ?_)
    refine lv_aload hx hb dX3_change_64 (lv_at hl 2 rfl) ?_
    refine ex_get M w (hR) (sh_RB cy ad k ((es (es e (RB k) 2 f) (RB k) 3 t) (RB k))) rfl inX2 0 (by decide) f94 (congrArg (fun z => some (Value.ref (ad (PB z)))) ((es_ne _ _ (by first | omega | (unfold PB; omega) | (unfold RB; omega) | (unfold PB RB; omega))).trans (es_ne _ _ (by first | omega | (unfold PB; omega) | (unfold RB; omega) | (unfold PB RB; omega))))) dX3_change_66 ?_
    refine lv_iload hx hb dX3_change_69 (lv_at hl 1 rfl) ?_
    refine lv_iload hx hb dX3_change_71 (lv_at hl 0 rfl) ?_
    refine mx_Vv M w (kX1_markLeave l D cy C ad (es (es e (RB k) 2 f) (RB k) 3 t) H.size (e (RB k) 0) (e (RB k) 2) (e (RB k) 3) _ hp hC (hpp.sp.eq ((esR_P hp k 2 f).tr (esR_P hp k 3 t))) (hpp.rq.eq ((esR_P hp k 2 f).tr (esR_P hp k 3 t))) hRC (RW_ft hW.rw' (by omega) (by omega)) q8.2.2 q9.2.2.1) (cwV 2 M.1.2.2.2.2 gX3_change_X1_markLeave rfl rfl rfl (by decide +kernel) ⟨Nat.le_of_ble_eq_true rfl, Nat.le_of_ble_eq_true rfl⟩) (mo_rec M w (show (PB (e (RB k) 0)) ∈ C from hC 0 (by decide)) (g := G cy ad (es (es e (RB k) 2 f) (RB k) 3 t)) (sh_P0 cy ad ((es (es e (RB k) 2 f) (RB k) 3 t) (PB (e (RB k) 0))) hp) rfl) rfl hl.1 rfl (Nat.le_of_ble_eq_true rfl) dX3_change_73 ⟨by decide, by decide⟩ (fun u1 H locs hp1 w => ?_)
    obtain rfl := hp1
    refine lv_aload hx hb dX3_change_76 (lv_at hl 2 rfl) ?_
    refine ex_get M w (hR) (sh_RB cy ad k ((mkC (es (es e (RB k) 2 f) (RB k) 3 t) (e (RB k) 0) (e (RB k) 2) ((e (RB k) 3) + 1)) (RB k))) rfl inX2 0 (by decide) f94 (congrArg (fun z => some (Value.ref (ad (PB z)))) ((congrFun (mkC_R _ hp _ _ k) 0).trans ((es_ne _ _ (by omega)).trans (es_ne _ _ (by omega))))) dX3_change_78 ?_
    refine lv_iload_n hx hb dX3_change_81 rfl (lv_at hl 5 rfl) ?_
    refine lv_iload_n hx hb dX3_change_82 rfl (lv_at hl 6 rfl) ?_
    refine mx_Vv M w (kX1_markLeave l D cy C ad (mkC (es (es e (RB k) 2 f) (RB k) 3 t) (e (RB k) 0) (e (RB k) 2) ((e (RB k) 3) + 1)) H.size (e (RB k) 0) f t _ hp hC ((hpp.sp.eq ((esR_P hp k 2 f).tr (esR_P hp k 3 t))).eq (mkC_P _ _ _ _)) ((hpp.rq.eq ((esR_P hp k 2 f).tr (esR_P hp k 3 t))).eq (mkC_P _ _ _ _)) hRC ((RW_ft hW.rw' (by omega) (by omega)).eq (mkC_R _ hp _ _)) c17.2.1 c17.2.2) (cwV 2 M.1.2.2.2.2 gX3_change_X1_markLeave rfl rfl rfl (by decide +kernel) ⟨Nat.le_of_ble_eq_true rfl, Nat.le_of_ble_eq_true rfl⟩) (mo_rec M w (show (PB (e (RB k) 0)) ∈ C from hC 0 (by decide)) (g := G cy ad (mkC (es (es e (RB k) 2 f) (RB k) 3 t) (e (RB k) 0) (e (RB k) 2) ((e (RB k) 3) + 1))) (sh_P0 cy ad ((mkC (es (es e (RB k) 2 f) (RB k) 3 t) (e (RB k) 0) (e (RB k) 2) ((e (RB k) 3) + 1)) (PB (e (RB k) 0))) hp) rfl) rfl hl.1 rfl (Nat.le_of_ble_eq_true rfl) dX3_change_83 ⟨by decide, by decide⟩ (fun u1 H locs hp1 w => ?_)
    obtain rfl := hp1
    refine lv_iload hx hb dX3_change_86 (lv_at hl 0 rfl) ?_
    refine lv_iload hx hb dX3_change_88 (lv_at hl 1 rfl) ?_
    refine mi_sub hx hb (by omega) dX3_change_90 ?_
    refine lv_iconst (v := nI 1) hx hb dX3_change_91 (by decide) ?_
    refine mi_add hx hb dX3_change_92 ?_
    refine vx_ret ?_
    exact mx_iret M w hr (v := (nI (((e (RB k) 3) - (e (RB k) 2)) + 1))) ⟨⟨⟨q2, c17⟩, h25⟩, rfl, rfl⟩ (by decide) (by decide) dX3_change_93
  · exact mx_throw M w Th hfl hxt (cls := eIS) (text := "the request is cancelled") (is := 102) (by decide +kernel) (show Cond.classLink RX3 43 eIS ∈ wsX3_change by decide +kernel) (show Cond.initialized eIS ∈ wsX3_change by decide +kernel) (by decide +kernel) rfl (show ∀ w ∈ (vx_atS RX3 47 eIS eUP).filter goodWord, w ∈ wsX3_change by decide +kernel) (by decide +kernel) (by decide +kernel) hl.1 dX3_change_28 dX3_change_31 dX3_change_32 dX3_change_34 dX3_change_37 (by decide) (Nat.le_of_ble_eq_true rfl) (by decide) (by decide) (Or.inr (Or.inr ⟨⟨q2, c17⟩, h25, rfl⟩)) (by decide) (by decide)

set_option maxHeartbeats 4000000 in
set_option maxRecDepth 100000 in
/-- Leavebank.cancel(request) -/
theorem kX3_cancel (l : Launch) (hfl : l.stackTraces = false) (D : va_G) (cy : Nat → ClassId) (C : List Nat) (ad : Nat → Nat) (e : Nat → Nat → Nat) (sz : Nat) (k : Nat) (hCC : CC (e 0 1) (e 0 3) C) (hW : CW e) (hk : k < 4294967296) : vx_Met l yX3_cancel wsX3_cancel ({ frames := 7, cells := 2, slots := 12, locals := 104 } : Room) (PreX D cy (C, ad, G cy ad e) sz [.ref (ad 0), .int (nI k)]) (va_Qv (fun (u : WT) => (k < e 0 3 ∧ e (RB k) 4 = 0) ∧ u = (C, ad, G cy ad (mkC (es e (RB k) 4 1) (e (RB k) 0) (e (RB k) 2) (e (RB k) 3 + 1)))) (WB D cy (AW (C, ad, G cy ad e) sz)) (AW (C, ad, G cy ad e) sz)) (vx_X (fun (z : String × WT) => (¬ k < e 0 3 ∧ z = (eIO, (C, ad, G cy ad e))) ∨ (k < e 0 3 ∧ ¬ e (RB k) 4 = 0 ∧ z = (eIS, (C, ad, G cy ad e)))) (XB D cy (AW (C, ad, G cy ad e) sz)) (AW (C, ad, G cy ad e) sz)) 2 12 (AW (C, ad, G cy ad e) sz) := by
  refine mxx_start (cc := cX3_cancel) (maxL := 3) (ret := none) (by decide) rfl (Nat.le_of_ble_eq_true rfl) ?_
  intro p9 e9 s m args below meth c hsz hr hnm M w Th hxt ls hl
  have hx := M.1.1
  have hb := M.1.2.1
  have inX2 : ∀ w ∈ wsX20, w ∈ wsX3_cancel := by decide +kernel
  have f94 : Cond.fieldLink RX3 94 RX2 "owner" "LLeavebank$Person;" ∈ wsX3_cancel := by decide +kernel
  have f98 : Cond.fieldLink RX3 98 RX2 "isCancelled" "Z" ∈ wsX3_cancel := by decide +kernel
  have f104 : Cond.fieldLink RX3 104 RX2 "firstDay" "I" ∈ wsX3_cancel := by decide +kernel
  have f105 : Cond.fieldLink RX3 105 RX2 "lastDay" "I" ∈ wsX3_cancel := by decide +kernel
  have hB := hCC.B
  have hRC := hCC.R
  have hl : lv_has ls 3 [(0, .ref (ad 0)), (1, .int (nI k))] := hl
  refine lv_aload_n hx hb dX3_cancel_0 rfl (lv_at hl 0 rfl) ?_
  refine lv_iload_n hx hb dX3_cancel_1 rfl (lv_at hl 1 rfl) ?_
  refine mxx_Vr M w Th hxt (kX3_requestAt l hfl D cy C ad e s.heap.size k hB hW hk) (cwV 1 M.1.2.2.2.2 gX3_cancel_X3_requestAt rfl rfl rfl (by decide +kernel) ⟨Nat.le_of_ble_eq_true rfl, Nat.le_of_ble_eq_true rfl⟩) (mo_rec M w (hB 0 (by decide)) (g := G cy ad e) (sh_0 cy ad (e 0)) rfl) rfl hl.1 rfl (Nat.le_of_ble_eq_true rfl) dX3_cancel_2 ⟨by decide, by decide⟩ ⟨by decide, by decide⟩ (fun E u1 h => Or.inl h) (fun r2 u1 H locs hp1 ha1 w => ?_)
  obtain ⟨q2, rfl⟩ := hp1
  subst ha1
  have q8 := hW.rq k q2
  have q9 := hW.rw' k q2
  have hp : e (RB k) 0 < 8 := by have z := hW.np; omega
  have hC := hCC.P q8.1
  have hpp := hW.p q8.1
  have hR : RB k ∈ C := hRC k q2
  refine lv_astore_n (lv' := [(2, .ref (ad (RB k))), (0, .ref (ad 0)), (1, .int (nI k))]) hx hb dX3_cancel_5 rfl hl (by decide) rfl (fun ls hl => ?_)
  refine lv_aload_n hx hb dX3_cancel_6 rfl (lv_at hl 0 rfl) ?_
  refine ex_get M w (hR) (sh_RB cy ad k (e (RB k))) rfl inX2 4 (by decide) f98 rfl dX3_cancel_7 ?_
  refine mi_if_eq hx hb (by omega) 23 dX3_cancel_10 (by decide) (fun h10 => ?_) (fun h10 => ?_)
  · refine lv_aload_n hx hb dX3_cancel_23 rfl (lv_at hl 0 rfl) ?_
    refine lv_iconst (v := nI 1) hx hb dX3_cancel_24 (by decide) ?_
    refine ex_put M w (hR) (sh_RB cy ad k (e (RB k))) rfl inX2 tyX2 tyX2_ok nmX2 4 (by decide) f98 rfl (v := 1) rfl rfl (Nat.le_of_ble_eq_true rfl) (sh_RB cy ad k _) dX3_cancel_25 (fun H locs w => ?_)
    refine lv_aload_n hx hb dX3_cancel_28 rfl (lv_at hl 0 rfl) ?_
    refine ex_get M w (hR) (sh_RB cy ad k ((es e (RB k) 4 1) (RB k))) rfl inX2 0 (by decide) f94 (congrArg (fun z => some (Value.ref (ad (PB z)))) (es_ne _ _ (by first | omega | (unfold PB; omega) | (unfold RB; omega) | (unfold PB RB; omega)))) dX3_cancel_29 ?_
    refine lv_aload_n hx hb dX3_cancel_32 rfl (lv_at hl 0 rfl) ?_
    refine ex_get M w (hR) (sh_RB cy ad k ((es e (RB k) 4 1) (RB k))) rfl inX2 2 (by decide) f104 (congrArg (fun z => some (Value.int (nI z))) (es_ne _ _ (by first | omega | (unfold PB; omega) | (unfold RB; omega) | (unfold PB RB; omega)))) dX3_cancel_33 ?_
    refine lv_aload_n hx hb dX3_cancel_36 rfl (lv_at hl 0 rfl) ?_
    refine ex_get M w (hR) (sh_RB cy ad k ((es e (RB k) 4 1) (RB k))) rfl inX2 3 (by decide) f105 (congrArg (fun z => some (Value.int (nI z))) (es_ne _ _ (by first | omega | (unfold PB; omega) | (unfold RB; omega) | (unfold PB RB; omega)))) dX3_cancel_37 ?_
    refine mx_Vv M w (kX1_markLeave l D cy C ad (es e (RB k) 4 1) H.size (e (RB k) 0) (e (RB k) 2) (e (RB k) 3) _ hp hC (hpp.sp.eq (esR_P hp k 4 1)) (hpp.rq.eq (esR_P hp k 4 1)) hRC (RW_cn hW.rw') q8.2.2 q9.2.2.1) (cwV 2 M.1.2.2.2.2 gX3_cancel_X1_markLeave rfl rfl rfl (by decide +kernel) ⟨Nat.le_of_ble_eq_true rfl, Nat.le_of_ble_eq_true rfl⟩) (mo_rec M w (show (PB (e (RB k) 0)) ∈ C from hC 0 (by decide)) (g := G cy ad (es e (RB k) 4 1)) (sh_P0 cy ad ((es e (RB k) 4 1) (PB (e (RB k) 0))) hp) rfl) rfl hl.1 rfl (Nat.le_of_ble_eq_true rfl) dX3_cancel_40 ⟨by decide, by decide⟩ (fun u1 H locs hp1 w => ?_)
    obtain rfl := hp1
    refine vx_ret ?_
    exact mx_vret M w hr ⟨⟨q2, h10⟩, rfl⟩ (by decide) (by decide) dX3_cancel_43
  · exact mx_throw M w Th hfl hxt (cls := eIS) (text := "the request is cancelled") (is := 102) (by decide +kernel) (show Cond.classLink RX3 43 eIS ∈ wsX3_cancel by decide +kernel) (show Cond.initialized eIS ∈ wsX3_cancel by decide +kernel) (by decide +kernel) rfl (show ∀ w ∈ (vx_atS RX3 47 eIS eUP).filter goodWord, w ∈ wsX3_cancel by decide +kernel) (by decide +kernel) (by decide +kernel) hl.1 dX3_cancel_13 dX3_cancel_16 dX3_cancel_17 dX3_cancel_19 dX3_cancel_22 (by decide) (Nat.le_of_ble_eq_true rfl) (by decide) (by decide) (Or.inr ⟨q2, h10, rfl⟩) (by decide) (by decide)
