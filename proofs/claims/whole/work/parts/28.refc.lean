set_option maxHeartbeats 4000000 in
set_option maxRecDepth 100000 in
/-- LeavebankModel.addPerson -/
theorem kX4_addPerson (l : Launch) (D : va_G) (cy : Nat → ClassId) (C : List Nat) (ad : Nat → Nat) (e : Nat → Nat → Nat) (sz : Nat) (k h : Nat) (hB : ∀ k, k < 26 → k ∈ C) (hM : MW e) (hk : k < 4294967296) (hh : h < 4294967296) : Met l yX4_addPerson wsX4_addPerson ({ frames := 1, cells := 0, slots := 0, locals := 22 } : Room) (PreM D cy (C, ad, G cy ad e) sz [.ref (ad 7), .int (nI k), .int (nI h)]) (va_Qi (fun (r : Int32) (u : WT) => ((((20 ≤ k ∧ k ≤ 80) ∧ (1 ≤ h ∧ h ≤ 10)) ∧ ¬ (es e 7 0 0) 7 2 = 8) ∧ r = nI ((es e 7 0 0) 7 2) ∧ u = (C, ad, G cy ad (addM (es e 7 0 0) k h))) ∨ (¬ ((20 ≤ k ∧ k ≤ 80) ∧ (1 ≤ h ∧ h ≤ 10)) ∧ u = (C, ad, G cy ad (es (es e 7 0 0) 7 0 1))) ∨ ((((20 ≤ k ∧ k ≤ 80) ∧ (1 ≤ h ∧ h ≤ 10)) ∧ (es e 7 0 0) 7 2 = 8) ∧ u = (C, ad, G cy ad (es (es e 7 0 0) 7 0 2)))) (WB D cy (AW (C, ad, G cy ad e) sz)) (AW (C, ad, G cy ad e) sz)) 0 0 (AW (C, ad, G cy ad e) sz) := by
  refine mx_start (cc := cX4_addPerson) (maxL := 3) (ret := (some .int)) (by decide) rfl (Nat.le_of_ble_eq_true rfl) ?_
  intro p9 e9 s m args below meth c hsz hr hnm M w ls hl
  have hx := M.1.1
  have hb := M.1.2.1
  have inX4 : ∀ w ∈ wsX40, w ∈ wsX4_addPerson := by decide +kernel
  have f7 : Cond.fieldLink RX4 7 RX4 "start" "[I" ∈ wsX4_addPerson := by decide +kernel
  have f13 : Cond.fieldLink RX4 13 RX4 "right" "[I" ∈ wsX4_addPerson := by decide +kernel
  have f16 : Cond.fieldLink RX4 16 RX4 "hours" "[I" ∈ wsX4_addPerson := by decide +kernel
  have f65 : Cond.fieldLink RX4 65 RX4 "thrown" "I" ∈ wsX4_addPerson := by decide +kernel
  have f69 : Cond.fieldLink RX4 69 RX4 "people" "I" ∈ wsX4_addPerson := by decide +kernel
  have f139 : Cond.fieldLink RX4 139 RX4 "today" "I" ∈ wsX4_addPerson := by decide +kernel
  obtain ⟨e1, he1⟩ : ∃ z, z = es e 7 0 0 := ⟨_, rfl⟩
  have hM1 : MW e1 := by rw [he1]; exact hM.thr 0
  obtain ⟨⟨m1, m2, m3, m4, m5⟩, mr, ms, my, mp9⟩ := id hM1
  have hl : lv_has ls 3 [(0, .ref (ad 7)), (1, .int (nI k)), (2, .int (nI h))] := hl
  refine lv_aload_n hx hb dX4_addPerson_0 rfl (lv_at hl 0 rfl) ?_
  refine lv_iconst (v := nI 0) hx hb dX4_addPerson_1 (by decide) ?_
  refine ex_put M w (hB 7 (by decide)) (sh_7 cy ad (e 7)) rfl inX4 tyX4 tyX4_ok nmX4 0 (by decide) f65 rfl (v := 0) rfl rfl (Nat.le_of_ble_eq_true rfl) (sh_7 cy ad _) dX4_addPerson_2 (fun H locs w => ?_)
  rw [← he1] at w
  refine lv_iload_n hx hb dX4_addPerson_5 rfl (lv_at hl 1 rfl) ?_
  refine lv_bipush (v := nI 20) hx hb dX4_addPerson_6 (by decide) ?_
  refine lv_bipush (v := nI 80) hx hb dX4_addPerson_8 (by decide) ?_
  refine mx_Si M w (kX4_inS l D cy C ad e1 H.size k 20 80 (by omega) (by omega) (by omega)) (va_cwS 3 M.1.2.2.2.2 gX4_addPerson_X4_in rfl rfl rfl (by decide +kernel) ⟨Nat.le_of_ble_eq_true rfl, Nat.le_of_ble_eq_true rfl⟩) rfl hl.1 rfl (Nat.le_of_ble_eq_true rfl) dX4_addPerson_10 ⟨by decide, by decide⟩ (fun r10 u1 H locs hp1 w => ?_)
  obtain ⟨rfl, rfl⟩ := hp1
  refine mi_if_eq hx hb (bt_lt _) 26 dX4_addPerson_13 (by decide) (fun h13 => ?_) (fun h13 => ?_)
  · refine lv_aload_n hx hb dX4_addPerson_26 rfl (lv_at hl 0 rfl) ?_
    refine lv_iconst (v := nI 1) hx hb dX4_addPerson_27 (by decide) ?_
    refine mx_Vi M w (kX4_fails l D cy C ad e1 H.size 1 hB) (cwV 1 M.1.2.2.2.2 gX4_addPerson_X4_fails rfl rfl rfl (by decide +kernel) ⟨Nat.le_of_ble_eq_true rfl, Nat.le_of_ble_eq_true rfl⟩) (mo_rec M w (hB 7 (by decide)) (g := G cy ad e1) (sh_7 cy ad (e1 7)) rfl) rfl hl.1 rfl (Nat.le_of_ble_eq_true rfl) dX4_addPerson_28 ⟨by decide, by decide⟩ (fun r28 u1 H locs hp1 w => ?_)
    obtain ⟨rfl, rfl⟩ := hp1
    exact mx_iret M w hr (v := (nI 0)) (by subst he1; exact (Or.inr (Or.inl ⟨fun z => (of_decide_eq_false (bt_f h13)) z.1, rfl⟩))) (by decide) (by decide) dX4_addPerson_31
  · refine lv_iload_n hx hb dX4_addPerson_16 rfl (lv_at hl 2 rfl) ?_
    refine lv_iconst (v := nI 1) hx hb dX4_addPerson_17 (by decide) ?_
    refine lv_bipush (v := nI 10) hx hb dX4_addPerson_18 (by decide) ?_
    refine mx_Si M w (kX4_inS l D cy C ad e1 H.size h 1 10 (by omega) (by omega) (by omega)) (va_cwS 3 M.1.2.2.2.2 gX4_addPerson_X4_in rfl rfl rfl (by decide +kernel) ⟨Nat.le_of_ble_eq_true rfl, Nat.le_of_ble_eq_true rfl⟩) rfl hl.1 rfl (Nat.le_of_ble_eq_true rfl) dX4_addPerson_20 ⟨by decide, by decide⟩ (fun r20 u1 H locs hp1 w => ?_)
    obtain ⟨rfl, rfl⟩ := hp1
    refine mi_if_ne hx hb (bt_lt _) 32 dX4_addPerson_23 (by decide) (fun h23 => ?_) (fun h23 => ?_)
    · refine lv_aload_n hx hb dX4_addPerson_32 rfl (lv_at hl 0 rfl) ?_
      refine ex_get M w (hB 7 (by decide)) (sh_7 cy ad (e1 7)) rfl inX4 2 (by decide) f69 rfl dX4_addPerson_33 ?_
      refine lv_bipush (v := nI 8) hx hb dX4_addPerson_36 (by decide) ?_
      refine mi_ne hx hb (by omega) (by decide) 47 dX4_addPerson_38 (by decide) (fun h38 => ?_) (fun h38 => ?_)
      · refine lv_aload_n hx hb dX4_addPerson_47 rfl (lv_at hl 0 rfl) ?_
        refine ex_get M w (hB 7 (by decide)) (sh_7 cy ad (e1 7)) rfl inX4 3 (by decide) f7 rfl dX4_addPerson_48 ?_
        refine lv_aload_n hx hb dX4_addPerson_51 rfl (lv_at hl 0 rfl) ?_
        refine ex_get M w (hB 7 (by decide)) (sh_7 cy ad (e1 7)) rfl inX4 2 (by decide) f69 rfl dX4_addPerson_52 ?_
        refine lv_aload_n hx hb dX4_addPerson_55 rfl (lv_at hl 0 rfl) ?_
        refine ex_get M w (hB 7 (by decide)) (sh_7 cy ad (e1 7)) rfl inX4 1 (by decide) f139 rfl dX4_addPerson_56 ?_
        refine ex_iast M w (hB 8 (by decide)) (sh_8 cy ad) (v := (e1 7 1)) (by omega) (by decide) dX4_addPerson_59 (fun H locs w => ?_)
        refine lv_aload_n hx hb dX4_addPerson_60 rfl (lv_at hl 0 rfl) ?_
        refine ex_get M w (hB 7 (by decide)) (sh_7 cy ad ((es e1 8 (e1 7 2) (e1 7 1)) 7)) rfl inX4 4 (by decide) f13 rfl dX4_addPerson_61 ?_
        refine lv_aload_n hx hb dX4_addPerson_64 rfl (lv_at hl 0 rfl) ?_
        refine ex_get M w (hB 7 (by decide)) (sh_7 cy ad ((es e1 8 (e1 7 2) (e1 7 1)) 7)) rfl inX4 2 (by decide) f69 (congrArg (fun z => some (Value.int (nI z))) (es_ne _ _ (by first | omega | (unfold PB; omega) | (unfold RB; omega) | (unfold PB RB; omega)))) dX4_addPerson_65 ?_
        refine lv_iload_n hx hb dX4_addPerson_68 rfl (lv_at hl 1 rfl) ?_
        refine ex_iast M w (hB 9 (by decide)) (sh_9 cy ad) (v := k) (by omega) (by decide) dX4_addPerson_69 (fun H locs w => ?_)
        refine lv_aload_n hx hb dX4_addPerson_70 rfl (lv_at hl 0 rfl) ?_
        refine ex_get M w (hB 7 (by decide)) (sh_7 cy ad ((es (es e1 8 (e1 7 2) (e1 7 1)) 9 (e1 7 2) k) 7)) rfl inX4 5 (by decide) f16 rfl dX4_addPerson_71 ?_
        refine lv_aload_n hx hb dX4_addPerson_74 rfl (lv_at hl 0 rfl) ?_
        refine ex_get M w (hB 7 (by decide)) (sh_7 cy ad ((es (es e1 8 (e1 7 2) (e1 7 1)) 9 (e1 7 2) k) 7)) rfl inX4 2 (by decide) f69 (congrArg (fun z => some (Value.int (nI z))) ((es_ne _ _ (by first | omega | (unfold PB; omega) | (unfold RB; omega) | (unfold PB RB; omega))).trans (es_ne _ _ (by first | omega | (unfold PB; omega) | (unfold RB; omega) | (unfold PB RB; omega))))) dX4_addPerson_75 ?_
        refine lv_iload_n hx hb dX4_addPerson_78 rfl (lv_at hl 2 rfl) ?_
        refine ex_iast M w (hB 10 (by decide)) (sh_10 cy ad) (v := h) (by omega) (by decide) dX4_addPerson_79 (fun H locs w => ?_)
        refine lv_aload_n hx hb dX4_addPerson_80 rfl (lv_at hl 0 rfl) ?_
        refine lv_dup hx hb dX4_addPerson_81 rfl ?_
        refine ex_get M w (hB 7 (by decide)) (sh_7 cy ad ((es (es (es e1 8 (e1 7 2) (e1 7 1)) 9 (e1 7 2) k) 10 (e1 7 2) h) 7)) rfl inX4 2 (by decide) f69 (congrArg (fun z => some (Value.int (nI z))) ((es_ne _ _ (by first | omega | (unfold PB; omega) | (unfold RB; omega) | (unfold PB RB; omega))).trans ((es_ne _ _ (by first | omega | (unfold PB; omega) | (unfold RB; omega) | (unfold PB RB; omega))).trans (es_ne _ _ (by first | omega | (unfold PB; omega) | (unfold RB; omega) | (unfold PB RB; omega)))))) dX4_addPerson_82 ?_
        refine lv_iconst (v := nI 1) hx hb dX4_addPerson_85 (by decide) ?_
        refine mi_add hx hb dX4_addPerson_86 ?_
        refine ex_put M w (hB 7 (by decide)) (sh_7 cy ad ((es (es (es e1 8 (e1 7 2) (e1 7 1)) 9 (e1 7 2) k) 10 (e1 7 2) h) 7)) rfl inX4 tyX4 tyX4_ok nmX4 2 (by decide) f69 rfl (v := ((e1 7 2) + 1)) rfl rfl (Nat.le_of_ble_eq_true rfl) (sh_7 cy ad _) dX4_addPerson_87 (fun H locs w => ?_)
        refine lv_aload_n hx hb dX4_addPerson_90 rfl (lv_at hl 0 rfl) ?_
        refine ex_get M w (hB 7 (by decide)) (sh_7 cy ad ((es (es (es (es e1 8 (e1 7 2) (e1 7 1)) 9 (e1 7 2) k) 10 (e1 7 2) h) 7 2 ((e1 7 2) + 1)) 7)) rfl inX4 2 (by decide) f69 (congrArg (fun z => some (Value.int (nI z))) (es_same _ _ _ _)) dX4_addPerson_91 ?_
        refine lv_iconst (v := nI 1) hx hb dX4_addPerson_94 (by decide) ?_
        refine mi_sub hx hb (by omega) dX4_addPerson_95 ?_
        exact mx_iret M w hr (v := (nI (((e1 7 2) + 1) - 1))) (by subst he1; exact (Or.inl ⟨⟨⟨(of_decide_eq_true (bt_t h13)), (of_decide_eq_true (bt_t h23))⟩, h38⟩, rfl, rfl⟩)) (by decide) (by decide) dX4_addPerson_96
      · refine lv_aload_n hx hb dX4_addPerson_41 rfl (lv_at hl 0 rfl) ?_
        refine lv_iconst (v := nI 2) hx hb dX4_addPerson_42 (by decide) ?_
        refine mx_Vi M w (kX4_fails l D cy C ad e1 H.size 2 hB) (cwV 1 M.1.2.2.2.2 gX4_addPerson_X4_fails rfl rfl rfl (by decide +kernel) ⟨Nat.le_of_ble_eq_true rfl, Nat.le_of_ble_eq_true rfl⟩) (mo_rec M w (hB 7 (by decide)) (g := G cy ad e1) (sh_7 cy ad (e1 7)) rfl) rfl hl.1 rfl (Nat.le_of_ble_eq_true rfl) dX4_addPerson_43 ⟨by decide, by decide⟩ (fun r43 u1 H locs hp1 w => ?_)
        obtain ⟨rfl, rfl⟩ := hp1
        exact mx_iret M w hr (v := (nI 0)) (by subst he1; exact (Or.inr (Or.inr ⟨⟨⟨(of_decide_eq_true (bt_t h13)), (of_decide_eq_true (bt_t h23))⟩, h38⟩, rfl⟩))) (by decide) (by decide) dX4_addPerson_46
    · refine lv_aload_n hx hb dX4_addPerson_26 rfl (lv_at hl 0 rfl) ?_
      refine lv_iconst (v := nI 1) hx hb dX4_addPerson_27 (by decide) ?_
      refine mx_Vi M w (kX4_fails l D cy C ad e1 H.size 1 hB) (cwV 1 M.1.2.2.2.2 gX4_addPerson_X4_fails rfl rfl rfl (by decide +kernel) ⟨Nat.le_of_ble_eq_true rfl, Nat.le_of_ble_eq_true rfl⟩) (mo_rec M w (hB 7 (by decide)) (g := G cy ad e1) (sh_7 cy ad (e1 7)) rfl) rfl hl.1 rfl (Nat.le_of_ble_eq_true rfl) dX4_addPerson_28 ⟨by decide, by decide⟩ (fun r28 u1 H locs hp1 w => ?_)
      obtain ⟨rfl, rfl⟩ := hp1
      exact mx_iret M w hr (v := (nI 0)) (by subst he1; exact (Or.inr (Or.inl ⟨fun z => (of_decide_eq_false (bt_f h23)) z.2, rfl⟩))) (by decide) (by decide) dX4_addPerson_31

set_option maxHeartbeats 4000000 in
set_option maxRecDepth 100000 in
/-- LeavebankModel.setHours -/
theorem kX4_setHours (l : Launch) (D : va_G) (cy : Nat → ClassId) (C : List Nat) (ad : Nat → Nat) (e : Nat → Nat → Nat) (sz : Nat) (k d h : Nat) (hB : ∀ k, k < 26 → k ∈ C) (hM : MW e) (hk : k < 4294967296) (hd : d < 4294967296) (hh : h < 4294967296) : Met l yX4_setHours wsX4_setHours ({ frames := 2, cells := 0, slots := 0, locals := 43 } : Room) (PreM D cy (C, ad, G cy ad e) sz [.ref (ad 7), .int (nI k), .int (nI d), .int (nI h)]) (va_Qi (fun (r : Int32) (u : WT) => ((k < (es e 7 0 0) 7 2 ∧ (((es e 7 0 0) 8 k ≤ d ∧ d ≤ 3600) ∧ (1 ≤ h ∧ h ≤ 10)) ∧ ¬ (laM (es e 7 0 0) k d ((es e 7 0 0) 11 k) = (es e 7 0 0) 11 k ∧ (es e 7 0 0) 11 k = 10)) ∧ r = nI (hrM (es e 7 0 0) k d) ∧ u = (C, ad, G cy ad (shM (es e 7 0 0) k d h))) ∨ (¬ k < (es e 7 0 0) 7 2 ∧ u = (C, ad, G cy ad (es (es e 7 0 0) 7 0 1))) ∨ ((k < (es e 7 0 0) 7 2 ∧ ¬ (((es e 7 0 0) 8 k ≤ d ∧ d ≤ 3600) ∧ (1 ≤ h ∧ h ≤ 10))) ∧ u = (C, ad, G cy ad (es (es e 7 0 0) 7 0 2))) ∨ ((k < (es e 7 0 0) 7 2 ∧ (((es e 7 0 0) 8 k ≤ d ∧ d ≤ 3600) ∧ (1 ≤ h ∧ h ≤ 10)) ∧ ¬ ¬ (laM (es e 7 0 0) k d ((es e 7 0 0) 11 k) = (es e 7 0 0) 11 k ∧ (es e 7 0 0) 11 k = 10)) ∧ u = (C, ad, G cy ad (es (es e 7 0 0) 7 0 3)))) (WB D cy (AW (C, ad, G cy ad e) sz)) (AW (C, ad, G cy ad e) sz)) 0 0 (AW (C, ad, G cy ad e) sz) := by
  refine mx_start (cc := cX4_setHours) (maxL := 7) (ret := (some .int)) (by decide) rfl (Nat.le_of_ble_eq_true rfl) ?_
  intro p9 e9 s m args below meth c hsz hr hnm M w ls hl
  have hx := M.1.1
  have hb := M.1.2.1
  have inX4 : ∀ w ∈ wsX40, w ∈ wsX4_setHours := by decide +kernel
  have f7 : Cond.fieldLink RX4 7 RX4 "start" "[I" ∈ wsX4_setHours := by decide +kernel
  have f19 : Cond.fieldLink RX4 19 RX4 "changes" "[I" ∈ wsX4_setHours := by decide +kernel
  have f22 : Cond.fieldLink RX4 22 RX4 "changeDay" "[I" ∈ wsX4_setHours := by decide +kernel
  have f25 : Cond.fieldLink RX4 25 RX4 "changeHours" "[I" ∈ wsX4_setHours := by decide +kernel
  have f65 : Cond.fieldLink RX4 65 RX4 "thrown" "I" ∈ wsX4_setHours := by decide +kernel
  obtain ⟨e1, he1⟩ : ∃ z, z = es e 7 0 0 := ⟨_, rfl⟩
  have hM1 : MW e1 := by rw [he1]; exact hM.thr 0
  obtain ⟨⟨m1, m2, m3, m4, m5⟩, mr, ms, my, mp9⟩ := id hM1
  have cut70 : ∀ (n9 : Nat) (i a : Nat) (hi : i ≤ e1 11 k) (ha : a = laM e1 k d i) (q1 : k < e1 7 2) (q2 : e1 8 k ≤ d ∧ d ≤ 3600) (h42 : ¬ (decide (1 ≤ h ∧ h ≤ 10)).toNat = 0) (_hm : e1 11 k - i < n9) (H : Heap) (locs : List Loc), MO D (AW (C, ad, G cy ad e) sz) s.heap (C, ad, G cy ad e1) H locs → ∀ (ls : Array Slot), lv_has ls 7 [(0, .ref (ad 7)), (1, .int (nI k)), (2, .int (nI d)), (3, .int (nI h)), (4, .int (nI (10 * k + a))), (5, .int (nI (10 * k + i)))] → W p9 l e9 ({ frames := 2, cells := 0, slots := 0, locals := 43 } : Room) s m args below meth c H locs 0 0 (MQ below (va_Qi (fun (r : Int32) (u : WT) => ((k < (es e 7 0 0) 7 2 ∧ (((es e 7 0 0) 8 k ≤ d ∧ d ≤ 3600) ∧ (1 ≤ h ∧ h ≤ 10)) ∧ ¬ (laM (es e 7 0 0) k d ((es e 7 0 0) 11 k) = (es e 7 0 0) 11 k ∧ (es e 7 0 0) 11 k = 10)) ∧ r = nI (hrM (es e 7 0 0) k d) ∧ u = (C, ad, G cy ad (shM (es e 7 0 0) k d h))) ∨ (¬ k < (es e 7 0 0) 7 2 ∧ u = (C, ad, G cy ad (es (es e 7 0 0) 7 0 1))) ∨ ((k < (es e 7 0 0) 7 2 ∧ ¬ (((es e 7 0 0) 8 k ≤ d ∧ d ≤ 3600) ∧ (1 ≤ h ∧ h ≤ 10))) ∧ u = (C, ad, G cy ad (es (es e 7 0 0) 7 0 2))) ∨ ((k < (es e 7 0 0) 7 2 ∧ (((es e 7 0 0) 8 k ≤ d ∧ d ≤ 3600) ∧ (1 ≤ h ∧ h ≤ 10)) ∧ ¬ ¬ (laM (es e 7 0 0) k d ((es e 7 0 0) 11 k) = (es e 7 0 0) 11 k ∧ (es e 7 0 0) 11 k = 10)) ∧ u = (C, ad, G cy ad (es (es e 7 0 0) 7 0 3)))) (WB D cy (AW (C, ad, G cy ad e) sz)) (AW (C, ad, G cy ad e) sz)) args s 0 0 (AW (C, ad, G cy ad e) sz)) (F0 m 70 ls []) := by
    intro n9
    induction n9 with
    | zero => intro i a hi ha q1 q2 h42 _hm; exact absurd _hm (Nat.not_lt_zero _)
    | succ n9 ih =>
      intro i a hi ha q1 q2 h42 _hm H locs w ls hl
      have q0 := mp9 k q1
      have q01 := q0.2.2.2.1
      have q03 := q0.2.2.2.2
      refine lv_iload hx hb dX4_setHours_70 (lv_at hl 5 rfl) ?_
      refine lv_bipush (v := nI 10) hx hb dX4_setHours_72 (by decide) ?_
      refine lv_iload_n hx hb dX4_setHours_74 rfl (lv_at hl 1 rfl) ?_
      refine mi_mul hx hb dX4_setHours_75 ?_
      refine lv_aload_n hx hb dX4_setHours_76 rfl (lv_at hl 0 rfl) ?_
      refine ex_get M w (hB 7 (by decide)) (sh_7 cy ad (e1 7)) rfl inX4 6 (by decide) f19 rfl dX4_setHours_77 ?_
      refine lv_iload_n hx hb dX4_setHours_80 rfl (lv_at hl 1 rfl) ?_
      refine ex_iald M w (hB 11 (by decide)) (sh_11 cy ad) (by omega) (by decide) rfl dX4_setHours_81 ?_
      refine mi_add hx hb dX4_setHours_82 ?_
      refine mi_ge hx hb (by omega) (by omega) 112 dX4_setHours_83 (by decide) (fun h83 => ?_) (fun h83 => ?_)
      · have qi : i = e1 11 k := by omega
        rw [qi] at ha
        have qa := laM_le e1 k d (e1 11 k) (Nat.le_refl _)
        rw [← ha] at qa
        refine lv_iload hx hb dX4_setHours_112 (lv_at hl 4 rfl) ?_
        refine lv_bipush (v := nI 10) hx hb dX4_setHours_114 (by decide) ?_
        refine lv_iload_n hx hb dX4_setHours_116 rfl (lv_at hl 1 rfl) ?_
        refine mi_mul hx hb dX4_setHours_117 ?_
        refine lv_aload_n hx hb dX4_setHours_118 rfl (lv_at hl 0 rfl) ?_
        refine ex_get M w (hB 7 (by decide)) (sh_7 cy ad (e1 7)) rfl inX4 6 (by decide) f19 rfl dX4_setHours_119 ?_
        refine lv_iload_n hx hb dX4_setHours_122 rfl (lv_at hl 1 rfl) ?_
        refine ex_iald M w (hB 11 (by decide)) (sh_11 cy ad) (by omega) (by decide) rfl dX4_setHours_123 ?_
        refine mi_add hx hb dX4_setHours_124 ?_
        refine mi_ne hx hb (by omega) (by omega) 132 dX4_setHours_125 (by decide) (fun h125 => ?_) (fun h125 => ?_)
        · refine lv_iconst (v := nI 0) hx hb dX4_setHours_132 (by decide) ?_
          refine lv_istore (lv' := [(5, .int (nI 0)), (0, .ref (ad 7)), (1, .int (nI k)), (2, .int (nI d)), (3, .int (nI h)), (4, .int (nI (10 * k + a)))]) hx hb dX4_setHours_133 hl (by decide) rfl (fun ls hl => ?_)
          refine lv_iload hx hb dX4_setHours_135 (lv_at hl 0 rfl) ?_
          refine mi_if_eq hx hb (by decide) 157 dX4_setHours_137 (by decide) (fun h137 => ?_) (fun h137 => absurd h137 (by first | decide | omega))
          refine lv_aload_n hx hb dX4_setHours_157 rfl (lv_at hl 1 rfl) ?_
          refine lv_iload_n hx hb dX4_setHours_158 rfl (lv_at hl 2 rfl) ?_
          refine lv_iload_n hx hb dX4_setHours_159 rfl (lv_at hl 3 rfl) ?_
          refine mx_Vi M w (kX4_hoursOn l D cy C ad e1 H.size k d hB (by omega) q0 (by omega)) (cwV 2 M.1.2.2.2.2 gX4_setHours_X4_hoursOn rfl rfl rfl (by decide +kernel) ⟨Nat.le_of_ble_eq_true rfl, Nat.le_of_ble_eq_true rfl⟩) (mo_rec M w (hB 7 (by decide)) (g := G cy ad e1) (sh_7 cy ad (e1 7)) rfl) rfl hl.1 rfl (Nat.le_of_ble_eq_true rfl) dX4_setHours_160 ⟨by decide, by decide⟩ (fun r160 u1 H locs hp1 w => ?_)
          obtain ⟨rfl, rfl⟩ := hp1
          refine lv_istore (lv' := [(6, .int (nI (hrM e1 k d))), (5, .int (nI 0)), (0, .ref (ad 7)), (1, .int (nI k)), (2, .int (nI d)), (3, .int (nI h)), (4, .int (nI (10 * k + a)))]) hx hb dX4_setHours_163 hl (by decide) rfl (fun ls hl => ?_)
          refine lv_aload_n hx hb dX4_setHours_165 rfl (lv_at hl 2 rfl) ?_
          refine ex_get M w (hB 7 (by decide)) (sh_7 cy ad (e1 7)) rfl inX4 6 (by decide) f19 rfl dX4_setHours_166 ?_
          refine lv_iload_n hx hb dX4_setHours_169 rfl (lv_at hl 3 rfl) ?_
          refine lv_dup2_11 hx hb dX4_setHours_170 rfl rfl ?_
          refine ex_iald M w (hB 11 (by decide)) (sh_11 cy ad) (by omega) (by decide) rfl dX4_setHours_171 ?_
          refine lv_iload hx hb dX4_setHours_172 (lv_at hl 1 rfl) ?_
          refine mi_if_eq hx hb (by decide) 181 dX4_setHours_174 (by decide) (fun h174 => ?_) (fun h174 => absurd h174 (by first | decide | omega))
          refine lv_iconst (v := nI 0) hx hb dX4_setHours_181 (by decide) ?_
          refine mi_add hx hb dX4_setHours_182 ?_
          refine ex_iast M w (hB 11 (by decide)) (sh_11 cy ad) (v := ((e1 11 k) + 0)) (by omega) (by decide) dX4_setHours_183 (fun H locs w => ?_)
          refine lv_aload_n hx hb dX4_setHours_184 rfl (lv_at hl 2 rfl) ?_
          refine ex_get M w (hB 7 (by decide)) (sh_7 cy ad ((es e1 11 k ((e1 11 k) + 0)) 7)) rfl inX4 7 (by decide) f22 rfl dX4_setHours_185 ?_
          refine lv_iload hx hb dX4_setHours_188 (lv_at hl 6 rfl) ?_
          refine lv_iload_n hx hb dX4_setHours_190 rfl (lv_at hl 4 rfl) ?_
          refine ex_iast M w (hB 12 (by decide)) (sh_12 cy ad) (v := d) (by omega) (by decide) dX4_setHours_191 (fun H locs w => ?_)
          refine lv_aload_n hx hb dX4_setHours_192 rfl (lv_at hl 2 rfl) ?_
          refine ex_get M w (hB 7 (by decide)) (sh_7 cy ad ((es (es e1 11 k ((e1 11 k) + 0)) 12 (10 * k + a) d) 7)) rfl inX4 8 (by decide) f25 rfl dX4_setHours_193 ?_
          refine lv_iload hx hb dX4_setHours_196 (lv_at hl 6 rfl) ?_
          refine lv_iload_n hx hb dX4_setHours_198 rfl (lv_at hl 5 rfl) ?_
          refine ex_iast M w (hB 13 (by decide)) (sh_13 cy ad) (v := h) (by omega) (by decide) dX4_setHours_199 (fun H locs w => ?_)
          refine lv_iload hx hb dX4_setHours_200 (lv_at hl 0 rfl) ?_
          exact mx_iret M w hr (v := (nI (hrM e1 k d))) (by have z : (es (es (es e1 11 k ((e1 11 k) + 0)) 12 (10 * k + a) d) 13 (10 * k + a) h) = shM e1 k d h := (by unfold shM; rw [← ha, if_neg (show ¬ a = e1 11 k by omega)]); have y9 : ¬ (laM e1 k d (e1 11 k) = e1 11 k ∧ e1 11 k = 10) := (fun y => by rw [← ha] at y; omega); rw [z]; subst he1; exact (Or.inl ⟨⟨q1, ⟨q2, (of_decide_eq_true (bt_t h42))⟩, y9⟩, rfl, rfl⟩)) (by decide) (by decide) dX4_setHours_202
        · refine lv_iconst (v := nI 1) hx hb dX4_setHours_128 (by decide) ?_
          refine lv_goto (tgt := 133) hx hb dX4_setHours_129 (by decide) ?_
          refine lv_istore (lv' := [(5, .int (nI 1)), (0, .ref (ad 7)), (1, .int (nI k)), (2, .int (nI d)), (3, .int (nI h)), (4, .int (nI (10 * k + a)))]) hx hb dX4_setHours_133 hl (by decide) rfl (fun ls hl => ?_)
          refine lv_iload hx hb dX4_setHours_135 (lv_at hl 0 rfl) ?_
          refine mi_if_eq hx hb (by decide) 157 dX4_setHours_137 (by decide) (fun h137 => absurd h137 (by first | decide | omega)) (fun h137 => ?_)
          refine lv_aload_n hx hb dX4_setHours_140 rfl (lv_at hl 1 rfl) ?_
          refine ex_get M w (hB 7 (by decide)) (sh_7 cy ad (e1 7)) rfl inX4 6 (by decide) f19 rfl dX4_setHours_141 ?_
          refine lv_iload_n hx hb dX4_setHours_144 rfl (lv_at hl 2 rfl) ?_
          refine ex_iald M w (hB 11 (by decide)) (sh_11 cy ad) (by omega) (by decide) rfl dX4_setHours_145 ?_
          refine lv_bipush (v := nI 10) hx hb dX4_setHours_146 (by decide) ?_
          refine mi_ne hx hb (by omega) (by decide) 157 dX4_setHours_148 (by decide) (fun h148 => ?_) (fun h148 => ?_)
          · refine lv_aload_n hx hb dX4_setHours_157 rfl (lv_at hl 1 rfl) ?_
            refine lv_iload_n hx hb dX4_setHours_158 rfl (lv_at hl 2 rfl) ?_
            refine lv_iload_n hx hb dX4_setHours_159 rfl (lv_at hl 3 rfl) ?_
            refine mx_Vi M w (kX4_hoursOn l D cy C ad e1 H.size k d hB (by omega) q0 (by omega)) (cwV 2 M.1.2.2.2.2 gX4_setHours_X4_hoursOn rfl rfl rfl (by decide +kernel) ⟨Nat.le_of_ble_eq_true rfl, Nat.le_of_ble_eq_true rfl⟩) (mo_rec M w (hB 7 (by decide)) (g := G cy ad e1) (sh_7 cy ad (e1 7)) rfl) rfl hl.1 rfl (Nat.le_of_ble_eq_true rfl) dX4_setHours_160 ⟨by decide, by decide⟩ (fun r160 u1 H locs hp1 w => ?_)
            obtain ⟨rfl, rfl⟩ := hp1
            refine lv_istore (lv' := [(6, .int (nI (hrM e1 k d))), (5, .int (nI 1)), (0, .ref (ad 7)), (1, .int (nI k)), (2, .int (nI d)), (3, .int (nI h)), (4, .int (nI (10 * k + a)))]) hx hb dX4_setHours_163 hl (by decide) rfl (fun ls hl => ?_)
            refine lv_aload_n hx hb dX4_setHours_165 rfl (lv_at hl 2 rfl) ?_
            refine ex_get M w (hB 7 (by decide)) (sh_7 cy ad (e1 7)) rfl inX4 6 (by decide) f19 rfl dX4_setHours_166 ?_
            refine lv_iload_n hx hb dX4_setHours_169 rfl (lv_at hl 3 rfl) ?_
            refine lv_dup2_11 hx hb dX4_setHours_170 rfl rfl ?_
            refine ex_iald M w (hB 11 (by decide)) (sh_11 cy ad) (by omega) (by decide) rfl dX4_setHours_171 ?_
            refine lv_iload hx hb dX4_setHours_172 (lv_at hl 1 rfl) ?_
            refine mi_if_eq hx hb (by decide) 181 dX4_setHours_174 (by decide) (fun h174 => absurd h174 (by first | decide | omega)) (fun h174 => ?_)
            refine lv_iconst (v := nI 1) hx hb dX4_setHours_177 (by decide) ?_
            refine lv_goto (tgt := 182) hx hb dX4_setHours_178 (by decide) ?_
            refine mi_add hx hb dX4_setHours_182 ?_
            refine ex_iast M w (hB 11 (by decide)) (sh_11 cy ad) (v := ((e1 11 k) + 1)) (by omega) (by decide) dX4_setHours_183 (fun H locs w => ?_)
            refine lv_aload_n hx hb dX4_setHours_184 rfl (lv_at hl 2 rfl) ?_
            refine ex_get M w (hB 7 (by decide)) (sh_7 cy ad ((es e1 11 k ((e1 11 k) + 1)) 7)) rfl inX4 7 (by decide) f22 rfl dX4_setHours_185 ?_
            refine lv_iload hx hb dX4_setHours_188 (lv_at hl 6 rfl) ?_
            refine lv_iload_n hx hb dX4_setHours_190 rfl (lv_at hl 4 rfl) ?_
            refine ex_iast M w (hB 12 (by decide)) (sh_12 cy ad) (v := d) (by omega) (by decide) dX4_setHours_191 (fun H locs w => ?_)
            refine lv_aload_n hx hb dX4_setHours_192 rfl (lv_at hl 2 rfl) ?_
            refine ex_get M w (hB 7 (by decide)) (sh_7 cy ad ((es (es e1 11 k ((e1 11 k) + 1)) 12 (10 * k + a) d) 7)) rfl inX4 8 (by decide) f25 rfl dX4_setHours_193 ?_
            refine lv_iload hx hb dX4_setHours_196 (lv_at hl 6 rfl) ?_
            refine lv_iload_n hx hb dX4_setHours_198 rfl (lv_at hl 5 rfl) ?_
            refine ex_iast M w (hB 13 (by decide)) (sh_13 cy ad) (v := h) (by omega) (by decide) dX4_setHours_199 (fun H locs w => ?_)
            refine lv_iload hx hb dX4_setHours_200 (lv_at hl 0 rfl) ?_
            exact mx_iret M w hr (v := (nI (hrM e1 k d))) (by have z : (es (es (es e1 11 k ((e1 11 k) + 1)) 12 (10 * k + a) d) 13 (10 * k + a) h) = shM e1 k d h := (by unfold shM; rw [← ha, if_pos (show a = e1 11 k by omega)]); have y9 : ¬ (laM e1 k d (e1 11 k) = e1 11 k ∧ e1 11 k = 10) := (fun y => by rw [← ha] at y; omega); rw [z]; subst he1; exact (Or.inl ⟨⟨q1, ⟨q2, (of_decide_eq_true (bt_t h42))⟩, y9⟩, rfl, rfl⟩)) (by decide) (by decide) dX4_setHours_202
          · refine lv_aload_n hx hb dX4_setHours_151 rfl (lv_at hl 1 rfl) ?_
            refine lv_iconst (v := nI 3) hx hb dX4_setHours_152 (by decide) ?_
            refine mx_Vi M w (kX4_fails l D cy C ad e1 H.size 3 hB) (cwV 1 M.1.2.2.2.2 gX4_setHours_X4_fails rfl rfl rfl (by decide +kernel) ⟨Nat.le_of_ble_eq_true rfl, Nat.le_of_ble_eq_true rfl⟩) (mo_rec M w (hB 7 (by decide)) (g := G cy ad e1) (sh_7 cy ad (e1 7)) rfl) rfl hl.1 rfl (Nat.le_of_ble_eq_true rfl) dX4_setHours_153 ⟨by decide, by decide⟩ (fun r153 u1 H locs hp1 w => ?_)
            obtain ⟨rfl, rfl⟩ := hp1
            exact mx_iret M w hr (v := (nI 0)) (by have y9 : ¬ ¬ (laM e1 k d (e1 11 k) = e1 11 k ∧ e1 11 k = 10) := (fun y => y ⟨by rw [← ha]; omega, h148⟩); subst he1; exact (Or.inr (Or.inr (Or.inr ⟨⟨q1, ⟨q2, (of_decide_eq_true (bt_t h42))⟩, y9⟩, rfl⟩)))) (by decide) (by decide) dX4_setHours_156
      · have q04 := q03 i (by omega)
        refine lv_aload_n hx hb dX4_setHours_86 rfl (lv_at hl 0 rfl) ?_
        refine ex_get M w (hB 7 (by decide)) (sh_7 cy ad (e1 7)) rfl inX4 7 (by decide) f22 rfl dX4_setHours_87 ?_
        refine lv_iload hx hb dX4_setHours_90 (lv_at hl 5 rfl) ?_
        refine ex_iald M w (hB 12 (by decide)) (sh_12 cy ad) (by omega) (by decide) rfl dX4_setHours_92 ?_
        refine lv_iload_n hx hb dX4_setHours_93 rfl (lv_at hl 2 rfl) ?_
        refine mw_ne hx hb (by omega) hd 102 dX4_setHours_94 (by decide) (fun h94 => ?_) (fun h94 => ?_)
        · refine lv_iload hx hb dX4_setHours_102 (lv_at hl 4 rfl) ?_
          refine lv_istore (lv' := [(4, .int (nI (10 * k + a))), (0, .ref (ad 7)), (1, .int (nI k)), (2, .int (nI d)), (3, .int (nI h)), (5, .int (nI (10 * k + i)))]) hx hb dX4_setHours_104 hl (by decide) rfl (fun ls hl => ?_)
          refine lv_iinc (v := nI (10 * k + i + 1)) (lv' := [(5, .int (nI (10 * k + i + 1))), (4, .int (nI (10 * k + a))), (0, .ref (ad 7)), (1, .int (nI k)), (2, .int (nI d)), (3, .int (nI h))]) hx hb dX4_setHours_106 hl (k := 5) rfl (nI_inc _ 1) (by decide) rfl (fun ls hl => ?_)
          refine lv_goto (tgt := 70) hx hb dX4_setHours_109 (by decide) ?_
          exact ih (i + 1) a (by omega) (by rw [laM_0 h94]; exact ha) q1 q2 h42  (by omega) _ _ w ls (lv_sub hl [2, 3, 4, 5, 1, 0] rfl)
        · refine lv_iload hx hb dX4_setHours_97 (lv_at hl 5 rfl) ?_
          refine lv_goto (tgt := 104) hx hb dX4_setHours_99 (by decide) ?_
          refine lv_istore (lv' := [(4, .int (nI (10 * k + i))), (0, .ref (ad 7)), (1, .int (nI k)), (2, .int (nI d)), (3, .int (nI h)), (5, .int (nI (10 * k + i)))]) hx hb dX4_setHours_104 hl (by decide) rfl (fun ls hl => ?_)
          refine lv_iinc (v := nI (10 * k + i + 1)) (lv' := [(5, .int (nI (10 * k + i + 1))), (4, .int (nI (10 * k + i))), (0, .ref (ad 7)), (1, .int (nI k)), (2, .int (nI d)), (3, .int (nI h))]) hx hb dX4_setHours_106 hl (k := 5) rfl (nI_inc _ 1) (by decide) rfl (fun ls hl => ?_)
          refine lv_goto (tgt := 70) hx hb dX4_setHours_109 (by decide) ?_
          exact ih (i + 1) i (by omega) (laM_1 h94).symm q1 q2 h42  (by omega) _ _ w ls (lv_sub hl [2, 3, 4, 5, 1, 0] rfl)
  have hl : lv_has ls 7 [(0, .ref (ad 7)), (1, .int (nI k)), (2, .int (nI d)), (3, .int (nI h))] := hl
  refine lv_aload_n hx hb dX4_setHours_0 rfl (lv_at hl 0 rfl) ?_
  refine lv_iconst (v := nI 0) hx hb dX4_setHours_1 (by decide) ?_
  refine ex_put M w (hB 7 (by decide)) (sh_7 cy ad (e 7)) rfl inX4 tyX4 tyX4_ok nmX4 0 (by decide) f65 rfl (v := 0) rfl rfl (Nat.le_of_ble_eq_true rfl) (sh_7 cy ad _) dX4_setHours_2 (fun H locs w => ?_)
  rw [← he1] at w
  refine lv_aload_n hx hb dX4_setHours_5 rfl (lv_at hl 0 rfl) ?_
  refine lv_iload_n hx hb dX4_setHours_6 rfl (lv_at hl 1 rfl) ?_
  refine mx_Vi M w (kX4_isPerson l D cy C ad e1 H.size k hB m1 hk) (cwV 1 M.1.2.2.2.2 gX4_setHours_X4_isPerson rfl rfl rfl (by decide +kernel) ⟨Nat.le_of_ble_eq_true rfl, Nat.le_of_ble_eq_true rfl⟩) (mo_rec M w (hB 7 (by decide)) (g := G cy ad e1) (sh_7 cy ad (e1 7)) rfl) rfl hl.1 rfl (Nat.le_of_ble_eq_true rfl) dX4_setHours_7 ⟨by decide, by decide⟩ (fun r7 u1 H locs hp1 w => ?_)
  obtain ⟨rfl, rfl⟩ := hp1
  refine mi_if_ne hx hb (bt_lt _) 19 dX4_setHours_10 (by decide) (fun h10 => ?_) (fun h10 => ?_)
  · have q1 := (of_decide_eq_true (bt_t h10))
    have q0 := mp9 k q1
    have q01 := q0.2.2.2.1
    have q02 := q0.1
    refine lv_iload_n hx hb dX4_setHours_19 rfl (lv_at hl 2 rfl) ?_
    refine lv_aload_n hx hb dX4_setHours_20 rfl (lv_at hl 0 rfl) ?_
    refine ex_get M w (hB 7 (by decide)) (sh_7 cy ad (e1 7)) rfl inX4 3 (by decide) f7 rfl dX4_setHours_21 ?_
    refine lv_iload_n hx hb dX4_setHours_24 rfl (lv_at hl 1 rfl) ?_
    refine ex_iald M w (hB 8 (by decide)) (sh_8 cy ad) (by omega) (by decide) rfl dX4_setHours_25 ?_
    refine lv_sipush (v := nI 3600) hx hb dX4_setHours_26 (by decide) ?_
    refine mx_Si M w (kX4_inS l D cy C ad e1 H.size d (e1 8 k) 3600 (by omega) (by omega) (by omega)) (va_cwS 3 M.1.2.2.2.2 gX4_setHours_X4_in rfl rfl rfl (by decide +kernel) ⟨Nat.le_of_ble_eq_true rfl, Nat.le_of_ble_eq_true rfl⟩) rfl hl.1 rfl (Nat.le_of_ble_eq_true rfl) dX4_setHours_29 ⟨by decide, by decide⟩ (fun r29 u1 H locs hp1 w => ?_)
    obtain ⟨rfl, rfl⟩ := hp1
    refine mi_if_eq hx hb (bt_lt _) 45 dX4_setHours_32 (by decide) (fun h32 => ?_) (fun h32 => ?_)
    · refine lv_aload_n hx hb dX4_setHours_45 rfl (lv_at hl 0 rfl) ?_
      refine lv_iconst (v := nI 2) hx hb dX4_setHours_46 (by decide) ?_
      refine mx_Vi M w (kX4_fails l D cy C ad e1 H.size 2 hB) (cwV 1 M.1.2.2.2.2 gX4_setHours_X4_fails rfl rfl rfl (by decide +kernel) ⟨Nat.le_of_ble_eq_true rfl, Nat.le_of_ble_eq_true rfl⟩) (mo_rec M w (hB 7 (by decide)) (g := G cy ad e1) (sh_7 cy ad (e1 7)) rfl) rfl hl.1 rfl (Nat.le_of_ble_eq_true rfl) dX4_setHours_47 ⟨by decide, by decide⟩ (fun r47 u1 H locs hp1 w => ?_)
      obtain ⟨rfl, rfl⟩ := hp1
      exact mx_iret M w hr (v := (nI 0)) (by subst he1; exact (Or.inr (Or.inr (Or.inl ⟨⟨q1, fun z => (of_decide_eq_false (bt_f h32)) z.1⟩, rfl⟩)))) (by decide) (by decide) dX4_setHours_50
    · have q2 := (of_decide_eq_true (bt_t h32))
      refine lv_iload_n hx hb dX4_setHours_35 rfl (lv_at hl 3 rfl) ?_
      refine lv_iconst (v := nI 1) hx hb dX4_setHours_36 (by decide) ?_
      refine lv_bipush (v := nI 10) hx hb dX4_setHours_37 (by decide) ?_
      refine mx_Si M w (kX4_inS l D cy C ad e1 H.size h 1 10 (by omega) (by omega) (by omega)) (va_cwS 3 M.1.2.2.2.2 gX4_setHours_X4_in rfl rfl rfl (by decide +kernel) ⟨Nat.le_of_ble_eq_true rfl, Nat.le_of_ble_eq_true rfl⟩) rfl hl.1 rfl (Nat.le_of_ble_eq_true rfl) dX4_setHours_39 ⟨by decide, by decide⟩ (fun r39 u1 H locs hp1 w => ?_)
      obtain ⟨rfl, rfl⟩ := hp1
      refine mi_if_ne hx hb (bt_lt _) 51 dX4_setHours_42 (by decide) (fun h42 => ?_) (fun h42 => ?_)
      · refine lv_bipush (v := nI 10) hx hb dX4_setHours_51 (by decide) ?_
        refine lv_iload_n hx hb dX4_setHours_53 rfl (lv_at hl 1 rfl) ?_
        refine mi_mul hx hb dX4_setHours_54 ?_
        refine lv_aload_n hx hb dX4_setHours_55 rfl (lv_at hl 0 rfl) ?_
        refine ex_get M w (hB 7 (by decide)) (sh_7 cy ad (e1 7)) rfl inX4 6 (by decide) f19 rfl dX4_setHours_56 ?_
        refine lv_iload_n hx hb dX4_setHours_59 rfl (lv_at hl 1 rfl) ?_
        refine ex_iald M w (hB 11 (by decide)) (sh_11 cy ad) (by omega) (by decide) rfl dX4_setHours_60 ?_
        refine mi_add hx hb dX4_setHours_61 ?_
        refine lv_istore (lv' := [(4, .int (nI ((10 * k) + (e1 11 k)))), (0, .ref (ad 7)), (1, .int (nI k)), (2, .int (nI d)), (3, .int (nI h))]) hx hb dX4_setHours_62 hl (by decide) rfl (fun ls hl => ?_)
        refine lv_bipush (v := nI 10) hx hb dX4_setHours_64 (by decide) ?_
        refine lv_iload_n hx hb dX4_setHours_66 rfl (lv_at hl 2 rfl) ?_
        refine mi_mul hx hb dX4_setHours_67 ?_
        refine lv_istore (lv' := [(5, .int (nI (10 * k))), (4, .int (nI ((10 * k) + (e1 11 k)))), (0, .ref (ad 7)), (1, .int (nI k)), (2, .int (nI d)), (3, .int (nI h))]) hx hb dX4_setHours_68 hl (by decide) rfl (fun ls hl => ?_)
        exact cut70 (e1 11 k - 0 + 1) 0 (e1 11 k) (Nat.zero_le _) rfl q1 q2 h42  (by omega) _ _ w ls (lv_sub hl [2, 3, 4, 5, 1, 0] rfl)
      · refine lv_aload_n hx hb dX4_setHours_45 rfl (lv_at hl 0 rfl) ?_
        refine lv_iconst (v := nI 2) hx hb dX4_setHours_46 (by decide) ?_
        refine mx_Vi M w (kX4_fails l D cy C ad e1 H.size 2 hB) (cwV 1 M.1.2.2.2.2 gX4_setHours_X4_fails rfl rfl rfl (by decide +kernel) ⟨Nat.le_of_ble_eq_true rfl, Nat.le_of_ble_eq_true rfl⟩) (mo_rec M w (hB 7 (by decide)) (g := G cy ad e1) (sh_7 cy ad (e1 7)) rfl) rfl hl.1 rfl (Nat.le_of_ble_eq_true rfl) dX4_setHours_47 ⟨by decide, by decide⟩ (fun r47 u1 H locs hp1 w => ?_)
        obtain ⟨rfl, rfl⟩ := hp1
        exact mx_iret M w hr (v := (nI 0)) (by subst he1; exact (Or.inr (Or.inr (Or.inl ⟨⟨q1, fun z => (of_decide_eq_false (bt_f h42)) z.2⟩, rfl⟩)))) (by decide) (by decide) dX4_setHours_50
  · refine lv_aload_n hx hb dX4_setHours_13 rfl (lv_at hl 0 rfl) ?_
    refine lv_iconst (v := nI 1) hx hb dX4_setHours_14 (by decide) ?_
    refine mx_Vi M w (kX4_fails l D cy C ad e1 H.size 1 hB) (cwV 1 M.1.2.2.2.2 gX4_setHours_X4_fails rfl rfl rfl (by decide +kernel) ⟨Nat.le_of_ble_eq_true rfl, Nat.le_of_ble_eq_true rfl⟩) (mo_rec M w (hB 7 (by decide)) (g := G cy ad e1) (sh_7 cy ad (e1 7)) rfl) rfl hl.1 rfl (Nat.le_of_ble_eq_true rfl) dX4_setHours_15 ⟨by decide, by decide⟩ (fun r15 u1 H locs hp1 w => ?_)
    obtain ⟨rfl, rfl⟩ := hp1
    exact mx_iret M w hr (v := (nI 0)) (by subst he1; exact (Or.inr (Or.inl ⟨(of_decide_eq_false (bt_f h10)), rfl⟩))) (by decide) (by decide) dX4_setHours_18

set_option maxHeartbeats 4000000 in
set_option maxRecDepth 100000 in
/-- LeavebankModel.request -/
theorem kX4_request (l : Launch) (D : va_G) (cy : Nat → ClassId) (C : List Nat) (ad : Nat → Nat) (e : Nat → Nat → Nat) (sz : Nat) (k f t h : Nat) (hB : ∀ k, k < 26 → k ∈ C) (hM : MW e) (hk : k < 4294967296) (hf : f < 4294967296) (ht : t < 4294967296) (hh : h ≤ 1) : Met l yX4_request wsX4_request ({ frames := 2, cells := 0, slots := 0, locals := 45 } : Room) (PreM D cy (C, ad, G cy ad e) sz [.ref (ad 7), .int (nI k), .int (nI f), .int (nI t), .int (nI h)]) (va_Qi (fun (r : Int32) (u : WT) => ((k < (es e 7 0 0) 7 2 ∧ ((es e 7 0 0) 8 k ≤ f ∧ f ≤ t ∧ t ≤ 3600) ∧ ¬ (es e 7 0 0) 7 9 = 40) ∧ r = nI ((es e 7 0 0) 7 9) ∧ u = (C, ad, G cy ad (rqM (es e 7 0 0) k f t h))) ∨ (¬ k < (es e 7 0 0) 7 2 ∧ u = (C, ad, G cy ad (es (es e 7 0 0) 7 0 1))) ∨ ((k < (es e 7 0 0) 7 2 ∧ ¬ ((es e 7 0 0) 8 k ≤ f ∧ f ≤ t ∧ t ≤ 3600)) ∧ u = (C, ad, G cy ad (es (es e 7 0 0) 7 0 2))) ∨ ((k < (es e 7 0 0) 7 2 ∧ ((es e 7 0 0) 8 k ≤ f ∧ f ≤ t ∧ t ≤ 3600) ∧ (es e 7 0 0) 7 9 = 40) ∧ u = (C, ad, G cy ad (es (es e 7 0 0) 7 0 3)))) (WB D cy (AW (C, ad, G cy ad e) sz)) (AW (C, ad, G cy ad e) sz)) 0 0 (AW (C, ad, G cy ad e) sz) := by
  refine mx_start (cc := cX4_request) (maxL := 5) (ret := (some .int)) (by decide) rfl (Nat.le_of_ble_eq_true rfl) ?_
  intro p9 e9 s m args below meth c hsz hr hnm M w ls hl
  have hx := M.1.1
  have hb := M.1.2.1
  have inX4 : ∀ w ∈ wsX40, w ∈ wsX4_request := by decide +kernel
  have f28 : Cond.fieldLink RX4 28 RX4 "who" "[I" ∈ wsX4_request := by decide +kernel
  have f31 : Cond.fieldLink RX4 31 RX4 "from" "[I" ∈ wsX4_request := by decide +kernel
  have f34 : Cond.fieldLink RX4 34 RX4 "to" "[I" ∈ wsX4_request := by decide +kernel
  have f37 : Cond.fieldLink RX4 37 RX4 "half" "[Z" ∈ wsX4_request := by decide +kernel
  have f41 : Cond.fieldLink RX4 41 RX4 "gone" "[Z" ∈ wsX4_request := by decide +kernel
  have f65 : Cond.fieldLink RX4 65 RX4 "thrown" "I" ∈ wsX4_request := by decide +kernel
  have f79 : Cond.fieldLink RX4 79 RX4 "requests" "I" ∈ wsX4_request := by decide +kernel
  obtain ⟨e1, he1⟩ : ∃ z, z = es e 7 0 0 := ⟨_, rfl⟩
  have hM1 : MW e1 := by rw [he1]; exact hM.thr 0
  obtain ⟨⟨m1, m2, m3, m4, m5⟩, mr, ms, my, mp9⟩ := id hM1
  have hl : lv_has ls 5 [(0, .ref (ad 7)), (1, .int (nI k)), (2, .int (nI f)), (3, .int (nI t)), (4, .int (nI h))] := hl
  refine lv_aload_n hx hb dX4_request_0 rfl (lv_at hl 0 rfl) ?_
  refine lv_iconst (v := nI 0) hx hb dX4_request_1 (by decide) ?_
  refine ex_put M w (hB 7 (by decide)) (sh_7 cy ad (e 7)) rfl inX4 tyX4 tyX4_ok nmX4 0 (by decide) f65 rfl (v := 0) rfl rfl (Nat.le_of_ble_eq_true rfl) (sh_7 cy ad _) dX4_request_2 (fun H locs w => ?_)
  rw [← he1] at w
  refine lv_aload_n hx hb dX4_request_5 rfl (lv_at hl 0 rfl) ?_
  refine lv_iload_n hx hb dX4_request_6 rfl (lv_at hl 1 rfl) ?_
  refine mx_Vi M w (kX4_isPerson l D cy C ad e1 H.size k hB m1 hk) (cwV 1 M.1.2.2.2.2 gX4_request_X4_isPerson rfl rfl rfl (by decide +kernel) ⟨Nat.le_of_ble_eq_true rfl, Nat.le_of_ble_eq_true rfl⟩) (mo_rec M w (hB 7 (by decide)) (g := G cy ad e1) (sh_7 cy ad (e1 7)) rfl) rfl hl.1 rfl (Nat.le_of_ble_eq_true rfl) dX4_request_7 ⟨by decide, by decide⟩ (fun r7 u1 H locs hp1 w => ?_)
  obtain ⟨rfl, rfl⟩ := hp1
  refine mi_if_ne hx hb (bt_lt _) 19 dX4_request_10 (by decide) (fun h10 => ?_) (fun h10 => ?_)
  · have q1 := (of_decide_eq_true (bt_t h10))
    refine lv_aload_n hx hb dX4_request_19 rfl (lv_at hl 0 rfl) ?_
    refine lv_iload_n hx hb dX4_request_20 rfl (lv_at hl 1 rfl) ?_
    refine lv_iload_n hx hb dX4_request_21 rfl (lv_at hl 2 rfl) ?_
    refine lv_iload_n hx hb dX4_request_22 rfl (lv_at hl 3 rfl) ?_
    refine mx_Vi M w (kX4_areDays l D cy C ad e1 H.size k f t hB (by omega) (mp9 k q1).1 hf ht) (cwV 3 M.1.2.2.2.2 gX4_request_X4_areDays rfl rfl rfl (by decide +kernel) ⟨Nat.le_of_ble_eq_true rfl, Nat.le_of_ble_eq_true rfl⟩) (mo_rec M w (hB 7 (by decide)) (g := G cy ad e1) (sh_7 cy ad (e1 7)) rfl) rfl hl.1 rfl (Nat.le_of_ble_eq_true rfl) dX4_request_23 ⟨by decide, by decide⟩ (fun r23 u1 H locs hp1 w => ?_)
    obtain ⟨rfl, rfl⟩ := hp1
    refine mi_if_ne hx hb (bt_lt _) 35 dX4_request_26 (by decide) (fun h26 => ?_) (fun h26 => ?_)
    · have q2 := (of_decide_eq_true (bt_t h26))
      refine lv_aload_n hx hb dX4_request_35 rfl (lv_at hl 0 rfl) ?_
      refine ex_get M w (hB 7 (by decide)) (sh_7 cy ad (e1 7)) rfl inX4 9 (by decide) f79 rfl dX4_request_36 ?_
      refine lv_bipush (v := nI 40) hx hb dX4_request_39 (by decide) ?_
      refine mi_ne hx hb (by omega) (by decide) 50 dX4_request_41 (by decide) (fun h41 => ?_) (fun h41 => ?_)
      · refine lv_aload_n hx hb dX4_request_50 rfl (lv_at hl 0 rfl) ?_
        refine ex_get M w (hB 7 (by decide)) (sh_7 cy ad (e1 7)) rfl inX4 10 (by decide) f28 rfl dX4_request_51 ?_
        refine lv_aload_n hx hb dX4_request_54 rfl (lv_at hl 0 rfl) ?_
        refine ex_get M w (hB 7 (by decide)) (sh_7 cy ad (e1 7)) rfl inX4 9 (by decide) f79 rfl dX4_request_55 ?_
        refine lv_iload_n hx hb dX4_request_58 rfl (lv_at hl 1 rfl) ?_
        refine ex_iast M w (hB 14 (by decide)) (sh_14 cy ad) (v := k) (by omega) (by decide) dX4_request_59 (fun H locs w => ?_)
        refine lv_aload_n hx hb dX4_request_60 rfl (lv_at hl 0 rfl) ?_
        refine ex_get M w (hB 7 (by decide)) (sh_7 cy ad ((es e1 14 (e1 7 9) k) 7)) rfl inX4 11 (by decide) f31 rfl dX4_request_61 ?_
        refine lv_aload_n hx hb dX4_request_64 rfl (lv_at hl 0 rfl) ?_
        refine ex_get M w (hB 7 (by decide)) (sh_7 cy ad ((es e1 14 (e1 7 9) k) 7)) rfl inX4 9 (by decide) f79 (congrArg (fun z => some (Value.int (nI z))) (es_ne _ _ (by first | omega | (unfold PB; omega) | (unfold RB; omega) | (unfold PB RB; omega)))) dX4_request_65 ?_
        refine lv_iload_n hx hb dX4_request_68 rfl (lv_at hl 2 rfl) ?_
        refine ex_iast M w (hB 15 (by decide)) (sh_15 cy ad) (v := f) (by omega) (by decide) dX4_request_69 (fun H locs w => ?_)
        refine lv_aload_n hx hb dX4_request_70 rfl (lv_at hl 0 rfl) ?_
        refine ex_get M w (hB 7 (by decide)) (sh_7 cy ad ((es (es e1 14 (e1 7 9) k) 15 (e1 7 9) f) 7)) rfl inX4 12 (by decide) f34 rfl dX4_request_71 ?_
        refine lv_aload_n hx hb dX4_request_74 rfl (lv_at hl 0 rfl) ?_
        refine ex_get M w (hB 7 (by decide)) (sh_7 cy ad ((es (es e1 14 (e1 7 9) k) 15 (e1 7 9) f) 7)) rfl inX4 9 (by decide) f79 (congrArg (fun z => some (Value.int (nI z))) ((es_ne _ _ (by first | omega | (unfold PB; omega) | (unfold RB; omega) | (unfold PB RB; omega))).trans (es_ne _ _ (by first | omega | (unfold PB; omega) | (unfold RB; omega) | (unfold PB RB; omega))))) dX4_request_75 ?_
        refine lv_iload_n hx hb dX4_request_78 rfl (lv_at hl 3 rfl) ?_
        refine ex_iast M w (hB 16 (by decide)) (sh_16 cy ad) (v := t) (by omega) (by decide) dX4_request_79 (fun H locs w => ?_)
        refine lv_aload_n hx hb dX4_request_80 rfl (lv_at hl 0 rfl) ?_
        refine ex_get M w (hB 7 (by decide)) (sh_7 cy ad ((es (es (es e1 14 (e1 7 9) k) 15 (e1 7 9) f) 16 (e1 7 9) t) 7)) rfl inX4 13 (by decide) f37 rfl dX4_request_81 ?_
        refine lv_aload_n hx hb dX4_request_84 rfl (lv_at hl 0 rfl) ?_
        refine ex_get M w (hB 7 (by decide)) (sh_7 cy ad ((es (es (es e1 14 (e1 7 9) k) 15 (e1 7 9) f) 16 (e1 7 9) t) 7)) rfl inX4 9 (by decide) f79 (congrArg (fun z => some (Value.int (nI z))) ((es_ne _ _ (by first | omega | (unfold PB; omega) | (unfold RB; omega) | (unfold PB RB; omega))).trans ((es_ne _ _ (by first | omega | (unfold PB; omega) | (unfold RB; omega) | (unfold PB RB; omega))).trans (es_ne _ _ (by first | omega | (unfold PB; omega) | (unfold RB; omega) | (unfold PB RB; omega)))))) dX4_request_85 ?_
        refine lv_iload hx hb dX4_request_88 (lv_at hl 4 rfl) ?_
        refine ex_zast M w (hB 17 (by decide)) (sh_17 cy ad) (v := h) (by omega) (by omega) (by decide) dX4_request_90 (fun H locs w => ?_)
        refine lv_aload_n hx hb dX4_request_91 rfl (lv_at hl 0 rfl) ?_
        refine ex_get M w (hB 7 (by decide)) (sh_7 cy ad ((es (es (es (es e1 14 (e1 7 9) k) 15 (e1 7 9) f) 16 (e1 7 9) t) 17 (e1 7 9) h) 7)) rfl inX4 14 (by decide) f41 rfl dX4_request_92 ?_
        refine lv_aload_n hx hb dX4_request_95 rfl (lv_at hl 0 rfl) ?_
        refine ex_get M w (hB 7 (by decide)) (sh_7 cy ad ((es (es (es (es e1 14 (e1 7 9) k) 15 (e1 7 9) f) 16 (e1 7 9) t) 17 (e1 7 9) h) 7)) rfl inX4 9 (by decide) f79 (congrArg (fun z => some (Value.int (nI z))) ((es_ne _ _ (by first | omega | (unfold PB; omega) | (unfold RB; omega) | (unfold PB RB; omega))).trans ((es_ne _ _ (by first | omega | (unfold PB; omega) | (unfold RB; omega) | (unfold PB RB; omega))).trans ((es_ne _ _ (by first | omega | (unfold PB; omega) | (unfold RB; omega) | (unfold PB RB; omega))).trans (es_ne _ _ (by first | omega | (unfold PB; omega) | (unfold RB; omega) | (unfold PB RB; omega))))))) dX4_request_96 ?_
        refine lv_iconst (v := nI 0) hx hb dX4_request_99 (by decide) ?_
        refine ex_zast M w (hB 18 (by decide)) (sh_18 cy ad) (v := 0) (by decide) (by omega) (by decide) dX4_request_100 (fun H locs w => ?_)
        refine lv_aload_n hx hb dX4_request_101 rfl (lv_at hl 0 rfl) ?_
        refine lv_dup hx hb dX4_request_102 rfl ?_
        refine ex_get M w (hB 7 (by decide)) (sh_7 cy ad ((es (es (es (es (es e1 14 (e1 7 9) k) 15 (e1 7 9) f) 16 (e1 7 9) t) 17 (e1 7 9) h) 18 (e1 7 9) 0) 7)) rfl inX4 9 (by decide) f79 (congrArg (fun z => some (Value.int (nI z))) ((es_ne _ _ (by first | omega | (unfold PB; omega) | (unfold RB; omega) | (unfold PB RB; omega))).trans ((es_ne _ _ (by first | omega | (unfold PB; omega) | (unfold RB; omega) | (unfold PB RB; omega))).trans ((es_ne _ _ (by first | omega | (unfold PB; omega) | (unfold RB; omega) | (unfold PB RB; omega))).trans ((es_ne _ _ (by first | omega | (unfold PB; omega) | (unfold RB; omega) | (unfold PB RB; omega))).trans (es_ne _ _ (by first | omega | (unfold PB; omega) | (unfold RB; omega) | (unfold PB RB; omega)))))))) dX4_request_103 ?_
        refine lv_iconst (v := nI 1) hx hb dX4_request_106 (by decide) ?_
        refine mi_add hx hb dX4_request_107 ?_
        refine ex_put M w (hB 7 (by decide)) (sh_7 cy ad ((es (es (es (es (es e1 14 (e1 7 9) k) 15 (e1 7 9) f) 16 (e1 7 9) t) 17 (e1 7 9) h) 18 (e1 7 9) 0) 7)) rfl inX4 tyX4 tyX4_ok nmX4 9 (by decide) f79 rfl (v := ((e1 7 9) + 1)) rfl rfl (Nat.le_of_ble_eq_true rfl) (sh_7 cy ad _) dX4_request_108 (fun H locs w => ?_)
        refine lv_aload_n hx hb dX4_request_111 rfl (lv_at hl 0 rfl) ?_
        refine ex_get M w (hB 7 (by decide)) (sh_7 cy ad ((es (es (es (es (es (es e1 14 (e1 7 9) k) 15 (e1 7 9) f) 16 (e1 7 9) t) 17 (e1 7 9) h) 18 (e1 7 9) 0) 7 9 ((e1 7 9) + 1)) 7)) rfl inX4 9 (by decide) f79 (congrArg (fun z => some (Value.int (nI z))) (es_same _ _ _ _)) dX4_request_112 ?_
        refine lv_iconst (v := nI 1) hx hb dX4_request_115 (by decide) ?_
        refine mi_sub hx hb (by omega) dX4_request_116 ?_
        exact mx_iret M w hr (v := (nI (((e1 7 9) + 1) - 1))) (by subst he1; exact (Or.inl ⟨⟨q1, q2, h41⟩, rfl, rfl⟩)) (by decide) (by decide) dX4_request_117
      · refine lv_aload_n hx hb dX4_request_44 rfl (lv_at hl 0 rfl) ?_
        refine lv_iconst (v := nI 3) hx hb dX4_request_45 (by decide) ?_
        refine mx_Vi M w (kX4_fails l D cy C ad e1 H.size 3 hB) (cwV 1 M.1.2.2.2.2 gX4_request_X4_fails rfl rfl rfl (by decide +kernel) ⟨Nat.le_of_ble_eq_true rfl, Nat.le_of_ble_eq_true rfl⟩) (mo_rec M w (hB 7 (by decide)) (g := G cy ad e1) (sh_7 cy ad (e1 7)) rfl) rfl hl.1 rfl (Nat.le_of_ble_eq_true rfl) dX4_request_46 ⟨by decide, by decide⟩ (fun r46 u1 H locs hp1 w => ?_)
        obtain ⟨rfl, rfl⟩ := hp1
        exact mx_iret M w hr (v := (nI 0)) (by subst he1; exact (Or.inr (Or.inr (Or.inr ⟨⟨q1, q2, h41⟩, rfl⟩)))) (by decide) (by decide) dX4_request_49
    · refine lv_aload_n hx hb dX4_request_29 rfl (lv_at hl 0 rfl) ?_
      refine lv_iconst (v := nI 2) hx hb dX4_request_30 (by decide) ?_
      refine mx_Vi M w (kX4_fails l D cy C ad e1 H.size 2 hB) (cwV 1 M.1.2.2.2.2 gX4_request_X4_fails rfl rfl rfl (by decide +kernel) ⟨Nat.le_of_ble_eq_true rfl, Nat.le_of_ble_eq_true rfl⟩) (mo_rec M w (hB 7 (by decide)) (g := G cy ad e1) (sh_7 cy ad (e1 7)) rfl) rfl hl.1 rfl (Nat.le_of_ble_eq_true rfl) dX4_request_31 ⟨by decide, by decide⟩ (fun r31 u1 H locs hp1 w => ?_)
      obtain ⟨rfl, rfl⟩ := hp1
      exact mx_iret M w hr (v := (nI 0)) (by subst he1; exact (Or.inr (Or.inr (Or.inl ⟨⟨q1, (of_decide_eq_false (bt_f h26))⟩, rfl⟩)))) (by decide) (by decide) dX4_request_34
  · refine lv_aload_n hx hb dX4_request_13 rfl (lv_at hl 0 rfl) ?_
    refine lv_iconst (v := nI 1) hx hb dX4_request_14 (by decide) ?_
    refine mx_Vi M w (kX4_fails l D cy C ad e1 H.size 1 hB) (cwV 1 M.1.2.2.2.2 gX4_request_X4_fails rfl rfl rfl (by decide +kernel) ⟨Nat.le_of_ble_eq_true rfl, Nat.le_of_ble_eq_true rfl⟩) (mo_rec M w (hB 7 (by decide)) (g := G cy ad e1) (sh_7 cy ad (e1 7)) rfl) rfl hl.1 rfl (Nat.le_of_ble_eq_true rfl) dX4_request_15 ⟨by decide, by decide⟩ (fun r15 u1 H locs hp1 w => ?_)
    obtain ⟨rfl, rfl⟩ := hp1
    exact mx_iret M w hr (v := (nI 0)) (by subst he1; exact (Or.inr (Or.inl ⟨(of_decide_eq_false (bt_f h10)), rfl⟩))) (by decide) (by decide) dX4_request_18

set_option maxHeartbeats 4000000 in
set_option maxRecDepth 100000 in
/-- LeavebankModel.sick -/
theorem kX4_sick (l : Launch) (D : va_G) (cy : Nat → ClassId) (C : List Nat) (ad : Nat → Nat) (e : Nat → Nat → Nat) (sz : Nat) (k f t : Nat) (hB : ∀ k, k < 26 → k ∈ C) (hM : MW e) (hk : k < 4294967296) (hf : f < 4294967296) (ht : t < 4294967296) : Met l yX4_sick wsX4_sick ({ frames := 2, cells := 0, slots := 0, locals := 45 } : Room) (PreM D cy (C, ad, G cy ad e) sz [.ref (ad 7), .int (nI k), .int (nI f), .int (nI t)]) (va_Qi (fun (r : Int32) (u : WT) => ((k < (es e 7 0 0) 7 2 ∧ ((es e 7 0 0) 8 k ≤ f ∧ f ≤ t ∧ t ≤ 3600) ∧ ¬ (es e 7 0 0) 7 15 = 30) ∧ r = nI ((es e 7 0 0) 7 15 + 1) ∧ u = (C, ad, G cy ad (skM (es e 7 0 0) k f t))) ∨ (¬ k < (es e 7 0 0) 7 2 ∧ u = (C, ad, G cy ad (es (es e 7 0 0) 7 0 1))) ∨ ((k < (es e 7 0 0) 7 2 ∧ ¬ ((es e 7 0 0) 8 k ≤ f ∧ f ≤ t ∧ t ≤ 3600)) ∧ u = (C, ad, G cy ad (es (es e 7 0 0) 7 0 2))) ∨ ((k < (es e 7 0 0) 7 2 ∧ ((es e 7 0 0) 8 k ≤ f ∧ f ≤ t ∧ t ≤ 3600) ∧ (es e 7 0 0) 7 15 = 30) ∧ u = (C, ad, G cy ad (es (es e 7 0 0) 7 0 3)))) (WB D cy (AW (C, ad, G cy ad e) sz)) (AW (C, ad, G cy ad e) sz)) 0 0 (AW (C, ad, G cy ad e) sz) := by
  refine mx_start (cc := cX4_sick) (maxL := 4) (ret := (some .int)) (by decide) rfl (Nat.le_of_ble_eq_true rfl) ?_
  intro p9 e9 s m args below meth c hsz hr hnm M w ls hl
  have hx := M.1.1
  have hb := M.1.2.1
  have inX4 : ∀ w ∈ wsX40, w ∈ wsX4_sick := by decide +kernel
  have f44 : Cond.fieldLink RX4 44 RX4 "ill" "[I" ∈ wsX4_sick := by decide +kernel
  have f47 : Cond.fieldLink RX4 47 RX4 "illFrom" "[I" ∈ wsX4_sick := by decide +kernel
  have f50 : Cond.fieldLink RX4 50 RX4 "illTo" "[I" ∈ wsX4_sick := by decide +kernel
  have f65 : Cond.fieldLink RX4 65 RX4 "thrown" "I" ∈ wsX4_sick := by decide +kernel
  have f76 : Cond.fieldLink RX4 76 RX4 "spells" "I" ∈ wsX4_sick := by decide +kernel
  obtain ⟨e1, he1⟩ : ∃ z, z = es e 7 0 0 := ⟨_, rfl⟩
  have hM1 : MW e1 := by rw [he1]; exact hM.thr 0
  obtain ⟨⟨m1, m2, m3, m4, m5⟩, mr, ms, my, mp9⟩ := id hM1
  have hl : lv_has ls 4 [(0, .ref (ad 7)), (1, .int (nI k)), (2, .int (nI f)), (3, .int (nI t))] := hl
  refine lv_aload_n hx hb dX4_sick_0 rfl (lv_at hl 0 rfl) ?_
  refine lv_iconst (v := nI 0) hx hb dX4_sick_1 (by decide) ?_
  refine ex_put M w (hB 7 (by decide)) (sh_7 cy ad (e 7)) rfl inX4 tyX4 tyX4_ok nmX4 0 (by decide) f65 rfl (v := 0) rfl rfl (Nat.le_of_ble_eq_true rfl) (sh_7 cy ad _) dX4_sick_2 (fun H locs w => ?_)
  rw [← he1] at w
  refine lv_aload_n hx hb dX4_sick_5 rfl (lv_at hl 0 rfl) ?_
  refine lv_iload_n hx hb dX4_sick_6 rfl (lv_at hl 1 rfl) ?_
  refine mx_Vi M w (kX4_isPerson l D cy C ad e1 H.size k hB m1 hk) (cwV 1 M.1.2.2.2.2 gX4_sick_X4_isPerson rfl rfl rfl (by decide +kernel) ⟨Nat.le_of_ble_eq_true rfl, Nat.le_of_ble_eq_true rfl⟩) (mo_rec M w (hB 7 (by decide)) (g := G cy ad e1) (sh_7 cy ad (e1 7)) rfl) rfl hl.1 rfl (Nat.le_of_ble_eq_true rfl) dX4_sick_7 ⟨by decide, by decide⟩ (fun r7 u1 H locs hp1 w => ?_)
  obtain ⟨rfl, rfl⟩ := hp1
  refine mi_if_ne hx hb (bt_lt _) 19 dX4_sick_10 (by decide) (fun h10 => ?_) (fun h10 => ?_)
  · have q1 := (of_decide_eq_true (bt_t h10))
    refine lv_aload_n hx hb dX4_sick_19 rfl (lv_at hl 0 rfl) ?_
    refine lv_iload_n hx hb dX4_sick_20 rfl (lv_at hl 1 rfl) ?_
    refine lv_iload_n hx hb dX4_sick_21 rfl (lv_at hl 2 rfl) ?_
    refine lv_iload_n hx hb dX4_sick_22 rfl (lv_at hl 3 rfl) ?_
    refine mx_Vi M w (kX4_areDays l D cy C ad e1 H.size k f t hB (by omega) (mp9 k q1).1 hf ht) (cwV 3 M.1.2.2.2.2 gX4_sick_X4_areDays rfl rfl rfl (by decide +kernel) ⟨Nat.le_of_ble_eq_true rfl, Nat.le_of_ble_eq_true rfl⟩) (mo_rec M w (hB 7 (by decide)) (g := G cy ad e1) (sh_7 cy ad (e1 7)) rfl) rfl hl.1 rfl (Nat.le_of_ble_eq_true rfl) dX4_sick_23 ⟨by decide, by decide⟩ (fun r23 u1 H locs hp1 w => ?_)
    obtain ⟨rfl, rfl⟩ := hp1
    refine mi_if_ne hx hb (bt_lt _) 35 dX4_sick_26 (by decide) (fun h26 => ?_) (fun h26 => ?_)
    · have q2 := (of_decide_eq_true (bt_t h26))
      refine lv_aload_n hx hb dX4_sick_35 rfl (lv_at hl 0 rfl) ?_
      refine ex_get M w (hB 7 (by decide)) (sh_7 cy ad (e1 7)) rfl inX4 15 (by decide) f76 rfl dX4_sick_36 ?_
      refine lv_bipush (v := nI 30) hx hb dX4_sick_39 (by decide) ?_
      refine mi_ne hx hb (by omega) (by decide) 50 dX4_sick_41 (by decide) (fun h41 => ?_) (fun h41 => ?_)
      · refine lv_aload_n hx hb dX4_sick_50 rfl (lv_at hl 0 rfl) ?_
        refine ex_get M w (hB 7 (by decide)) (sh_7 cy ad (e1 7)) rfl inX4 16 (by decide) f44 rfl dX4_sick_51 ?_
        refine lv_aload_n hx hb dX4_sick_54 rfl (lv_at hl 0 rfl) ?_
        refine ex_get M w (hB 7 (by decide)) (sh_7 cy ad (e1 7)) rfl inX4 15 (by decide) f76 rfl dX4_sick_55 ?_
        refine lv_iload_n hx hb dX4_sick_58 rfl (lv_at hl 1 rfl) ?_
        refine ex_iast M w (hB 19 (by decide)) (sh_19 cy ad) (v := k) (by omega) (by decide) dX4_sick_59 (fun H locs w => ?_)
        refine lv_aload_n hx hb dX4_sick_60 rfl (lv_at hl 0 rfl) ?_
        refine ex_get M w (hB 7 (by decide)) (sh_7 cy ad ((es e1 19 (e1 7 15) k) 7)) rfl inX4 17 (by decide) f47 rfl dX4_sick_61 ?_
        refine lv_aload_n hx hb dX4_sick_64 rfl (lv_at hl 0 rfl) ?_
        refine ex_get M w (hB 7 (by decide)) (sh_7 cy ad ((es e1 19 (e1 7 15) k) 7)) rfl inX4 15 (by decide) f76 (congrArg (fun z => some (Value.int (nI z))) (es_ne _ _ (by first | omega | (unfold PB; omega) | (unfold RB; omega) | (unfold PB RB; omega)))) dX4_sick_65 ?_
        refine lv_iload_n hx hb dX4_sick_68 rfl (lv_at hl 2 rfl) ?_
        refine ex_iast M w (hB 20 (by decide)) (sh_20 cy ad) (v := f) (by omega) (by decide) dX4_sick_69 (fun H locs w => ?_)
        refine lv_aload_n hx hb dX4_sick_70 rfl (lv_at hl 0 rfl) ?_
        refine ex_get M w (hB 7 (by decide)) (sh_7 cy ad ((es (es e1 19 (e1 7 15) k) 20 (e1 7 15) f) 7)) rfl inX4 18 (by decide) f50 rfl dX4_sick_71 ?_
        refine lv_aload_n hx hb dX4_sick_74 rfl (lv_at hl 0 rfl) ?_
        refine ex_get M w (hB 7 (by decide)) (sh_7 cy ad ((es (es e1 19 (e1 7 15) k) 20 (e1 7 15) f) 7)) rfl inX4 15 (by decide) f76 (congrArg (fun z => some (Value.int (nI z))) ((es_ne _ _ (by first | omega | (unfold PB; omega) | (unfold RB; omega) | (unfold PB RB; omega))).trans (es_ne _ _ (by first | omega | (unfold PB; omega) | (unfold RB; omega) | (unfold PB RB; omega))))) dX4_sick_75 ?_
        refine lv_iload_n hx hb dX4_sick_78 rfl (lv_at hl 3 rfl) ?_
        refine ex_iast M w (hB 21 (by decide)) (sh_21 cy ad) (v := t) (by omega) (by decide) dX4_sick_79 (fun H locs w => ?_)
        refine lv_aload_n hx hb dX4_sick_80 rfl (lv_at hl 0 rfl) ?_
        refine lv_dup hx hb dX4_sick_81 rfl ?_
        refine ex_get M w (hB 7 (by decide)) (sh_7 cy ad ((es (es (es e1 19 (e1 7 15) k) 20 (e1 7 15) f) 21 (e1 7 15) t) 7)) rfl inX4 15 (by decide) f76 (congrArg (fun z => some (Value.int (nI z))) ((es_ne _ _ (by first | omega | (unfold PB; omega) | (unfold RB; omega) | (unfold PB RB; omega))).trans ((es_ne _ _ (by first | omega | (unfold PB; omega) | (unfold RB; omega) | (unfold PB RB; omega))).trans (es_ne _ _ (by first | omega | (unfold PB; omega) | (unfold RB; omega) | (unfold PB RB; omega)))))) dX4_sick_82 ?_
        refine lv_iconst (v := nI 1) hx hb dX4_sick_85 (by decide) ?_
        refine mi_add hx hb dX4_sick_86 ?_
        refine ex_put M w (hB 7 (by decide)) (sh_7 cy ad ((es (es (es e1 19 (e1 7 15) k) 20 (e1 7 15) f) 21 (e1 7 15) t) 7)) rfl inX4 tyX4 tyX4_ok nmX4 15 (by decide) f76 rfl (v := ((e1 7 15) + 1)) rfl rfl (Nat.le_of_ble_eq_true rfl) (sh_7 cy ad _) dX4_sick_87 (fun H locs w => ?_)
        refine lv_aload_n hx hb dX4_sick_90 rfl (lv_at hl 0 rfl) ?_
        refine ex_get M w (hB 7 (by decide)) (sh_7 cy ad ((es (es (es (es e1 19 (e1 7 15) k) 20 (e1 7 15) f) 21 (e1 7 15) t) 7 15 ((e1 7 15) + 1)) 7)) rfl inX4 15 (by decide) f76 (congrArg (fun z => some (Value.int (nI z))) (es_same _ _ _ _)) dX4_sick_91 ?_
        exact mx_iret M w hr (v := (nI ((e1 7 15) + 1))) (by subst he1; exact (Or.inl ⟨⟨q1, q2, h41⟩, rfl, rfl⟩)) (by decide) (by decide) dX4_sick_94
      · refine lv_aload_n hx hb dX4_sick_44 rfl (lv_at hl 0 rfl) ?_
        refine lv_iconst (v := nI 3) hx hb dX4_sick_45 (by decide) ?_
        refine mx_Vi M w (kX4_fails l D cy C ad e1 H.size 3 hB) (cwV 1 M.1.2.2.2.2 gX4_sick_X4_fails rfl rfl rfl (by decide +kernel) ⟨Nat.le_of_ble_eq_true rfl, Nat.le_of_ble_eq_true rfl⟩) (mo_rec M w (hB 7 (by decide)) (g := G cy ad e1) (sh_7 cy ad (e1 7)) rfl) rfl hl.1 rfl (Nat.le_of_ble_eq_true rfl) dX4_sick_46 ⟨by decide, by decide⟩ (fun r46 u1 H locs hp1 w => ?_)
        obtain ⟨rfl, rfl⟩ := hp1
        exact mx_iret M w hr (v := (nI 0)) (by subst he1; exact (Or.inr (Or.inr (Or.inr ⟨⟨q1, q2, h41⟩, rfl⟩)))) (by decide) (by decide) dX4_sick_49
    · refine lv_aload_n hx hb dX4_sick_29 rfl (lv_at hl 0 rfl) ?_
      refine lv_iconst (v := nI 2) hx hb dX4_sick_30 (by decide) ?_
      refine mx_Vi M w (kX4_fails l D cy C ad e1 H.size 2 hB) (cwV 1 M.1.2.2.2.2 gX4_sick_X4_fails rfl rfl rfl (by decide +kernel) ⟨Nat.le_of_ble_eq_true rfl, Nat.le_of_ble_eq_true rfl⟩) (mo_rec M w (hB 7 (by decide)) (g := G cy ad e1) (sh_7 cy ad (e1 7)) rfl) rfl hl.1 rfl (Nat.le_of_ble_eq_true rfl) dX4_sick_31 ⟨by decide, by decide⟩ (fun r31 u1 H locs hp1 w => ?_)
      obtain ⟨rfl, rfl⟩ := hp1
      exact mx_iret M w hr (v := (nI 0)) (by subst he1; exact (Or.inr (Or.inr (Or.inl ⟨⟨q1, (of_decide_eq_false (bt_f h26))⟩, rfl⟩)))) (by decide) (by decide) dX4_sick_34
  · refine lv_aload_n hx hb dX4_sick_13 rfl (lv_at hl 0 rfl) ?_
    refine lv_iconst (v := nI 1) hx hb dX4_sick_14 (by decide) ?_
    refine mx_Vi M w (kX4_fails l D cy C ad e1 H.size 1 hB) (cwV 1 M.1.2.2.2.2 gX4_sick_X4_fails rfl rfl rfl (by decide +kernel) ⟨Nat.le_of_ble_eq_true rfl, Nat.le_of_ble_eq_true rfl⟩) (mo_rec M w (hB 7 (by decide)) (g := G cy ad e1) (sh_7 cy ad (e1 7)) rfl) rfl hl.1 rfl (Nat.le_of_ble_eq_true rfl) dX4_sick_15 ⟨by decide, by decide⟩ (fun r15 u1 H locs hp1 w => ?_)
    obtain ⟨rfl, rfl⟩ := hp1
    exact mx_iret M w hr (v := (nI 0)) (by subst he1; exact (Or.inr (Or.inl ⟨(of_decide_eq_false (bt_f h10)), rfl⟩))) (by decide) (by decide) dX4_sick_18

set_option maxHeartbeats 4000000 in
set_option maxRecDepth 100000 in
/-- LeavebankModel.change -/
theorem kX4_change (l : Launch) (D : va_G) (cy : Nat → ClassId) (C : List Nat) (ad : Nat → Nat) (e : Nat → Nat → Nat) (sz : Nat) (k f t : Nat) (hB : ∀ k, k < 26 → k ∈ C) (hM : MW e) (hft : ∀ q, q < e 7 9 → e 15 q ≤ e 16 q) (hk : k < 4294967296) (hf : f < 4294967296) (ht : t < 4294967296) : Met l yX4_change wsX4_change ({ frames := 2, cells := 0, slots := 0, locals := 45 } : Room) (PreM D cy (C, ad, G cy ad e) sz [.ref (ad 7), .int (nI k), .int (nI f), .int (nI t)]) (va_Qi (fun (r : Int32) (u : WT) => ((k < (es e 7 0 0) 7 9 ∧ ((es e 7 0 0) 8 ((es e 7 0 0) 14 k) ≤ f ∧ f ≤ t ∧ t ≤ 3600) ∧ (es e 7 0 0) 18 k = 0) ∧ r = nI ((es e 7 0 0) 16 k - (es e 7 0 0) 15 k + 1) ∧ u = (C, ad, G cy ad (chM (es e 7 0 0) k f t))) ∨ (¬ k < (es e 7 0 0) 7 9 ∧ u = (C, ad, G cy ad (es (es e 7 0 0) 7 0 1))) ∨ ((k < (es e 7 0 0) 7 9 ∧ ¬ ((es e 7 0 0) 8 ((es e 7 0 0) 14 k) ≤ f ∧ f ≤ t ∧ t ≤ 3600)) ∧ u = (C, ad, G cy ad (es (es e 7 0 0) 7 0 2))) ∨ ((k < (es e 7 0 0) 7 9 ∧ ((es e 7 0 0) 8 ((es e 7 0 0) 14 k) ≤ f ∧ f ≤ t ∧ t ≤ 3600) ∧ ¬ (es e 7 0 0) 18 k = 0) ∧ u = (C, ad, G cy ad (es (es e 7 0 0) 7 0 3)))) (WB D cy (AW (C, ad, G cy ad e) sz)) (AW (C, ad, G cy ad e) sz)) 0 0 (AW (C, ad, G cy ad e) sz) := by
  refine mx_start (cc := cX4_change) (maxL := 5) (ret := (some .int)) (by decide) rfl (Nat.le_of_ble_eq_true rfl) ?_
  intro p9 e9 s m args below meth c hsz hr hnm M w ls hl
  have hx := M.1.1
  have hb := M.1.2.1
  have inX4 : ∀ w ∈ wsX40, w ∈ wsX4_change := by decide +kernel
  have f28 : Cond.fieldLink RX4 28 RX4 "who" "[I" ∈ wsX4_change := by decide +kernel
  have f31 : Cond.fieldLink RX4 31 RX4 "from" "[I" ∈ wsX4_change := by decide +kernel
  have f34 : Cond.fieldLink RX4 34 RX4 "to" "[I" ∈ wsX4_change := by decide +kernel
  have f41 : Cond.fieldLink RX4 41 RX4 "gone" "[Z" ∈ wsX4_change := by decide +kernel
  have f65 : Cond.fieldLink RX4 65 RX4 "thrown" "I" ∈ wsX4_change := by decide +kernel
  have f79 : Cond.fieldLink RX4 79 RX4 "requests" "I" ∈ wsX4_change := by decide +kernel
  obtain ⟨e1, he1⟩ : ∃ z, z = es e 7 0 0 := ⟨_, rfl⟩
  have hM1 : MW e1 := by rw [he1]; exact hM.thr 0
  obtain ⟨⟨m1, m2, m3, m4, m5⟩, mr, ms, my, mp9⟩ := id hM1
  have hft1 : ∀ q, q < e1 7 9 → e1 15 q ≤ e1 16 q := by rw [he1]; exact hft
  have hl : lv_has ls 5 [(0, .ref (ad 7)), (1, .int (nI k)), (2, .int (nI f)), (3, .int (nI t))] := hl
  refine lv_aload_n hx hb dX4_change_0 rfl (lv_at hl 0 rfl) ?_
  refine lv_iconst (v := nI 0) hx hb dX4_change_1 (by decide) ?_
  refine ex_put M w (hB 7 (by decide)) (sh_7 cy ad (e 7)) rfl inX4 tyX4 tyX4_ok nmX4 0 (by decide) f65 rfl (v := 0) rfl rfl (Nat.le_of_ble_eq_true rfl) (sh_7 cy ad _) dX4_change_2 (fun H locs w => ?_)
  rw [← he1] at w
  refine lv_iload_n hx hb dX4_change_5 rfl (lv_at hl 1 rfl) ?_
  refine lv_iconst (v := nI 0) hx hb dX4_change_6 (by decide) ?_
  refine lv_aload_n hx hb dX4_change_7 rfl (lv_at hl 0 rfl) ?_
  refine ex_get M w (hB 7 (by decide)) (sh_7 cy ad (e1 7)) rfl inX4 9 (by decide) f79 rfl dX4_change_8 ?_
  refine lv_iconst (v := nI 1) hx hb dX4_change_11 (by decide) ?_
  refine lv_isub hx hb dX4_change_12 ?_
  refine W.eq (congrArg (fun z => F0 m 13 ls (.int z :: [.int (nI 0), .int (nI k)])) (nI_wrap (a := e1 7 9) (b := 1) (by decide))) ?_
  refine W.eq (g2 := F0 m 13 ls (.int (nI ((e1 7 9 + 4294967295) % 4294967296)) :: [.int (nI 0), .int (nI k)])) rfl ?_
  refine mx_Si M w (kX4_in l D cy C ad e1 H.size k 0 ((e1 7 9 + 4294967295) % 4294967296) (by omega) (by omega) (by omega)) (va_cwS 3 M.1.2.2.2.2 gX4_change_X4_in rfl rfl rfl (by decide +kernel) ⟨Nat.le_of_ble_eq_true rfl, Nat.le_of_ble_eq_true rfl⟩) rfl hl.1 rfl (Nat.le_of_ble_eq_true rfl) dX4_change_13 ⟨by decide, by decide⟩ (fun r13 u1 H locs hp1 w => ?_)
  obtain ⟨rfl, rfl⟩ := hp1
  refine mi_if_ne hx hb (bt_lt _) 25 dX4_change_16 (by decide) (fun h16 => ?_) (fun h16 => ?_)
  · have q0 := (of_decide_eq_true (bt_t h16))
    have q1 : k < e1 7 9 := by omega
    have q4 := mr k q1
    have q5 := hft1 k q1
    obtain ⟨q6, q7, q8, q9, q10⟩ := id q4
    refine lv_aload_n hx hb dX4_change_25 rfl (lv_at hl 0 rfl) ?_
    refine lv_aload_n hx hb dX4_change_26 rfl (lv_at hl 0 rfl) ?_
    refine ex_get M w (hB 7 (by decide)) (sh_7 cy ad (e1 7)) rfl inX4 10 (by decide) f28 rfl dX4_change_27 ?_
    refine lv_iload_n hx hb dX4_change_30 rfl (lv_at hl 1 rfl) ?_
    refine ex_iald M w (hB 14 (by decide)) (sh_14 cy ad) (by omega) (by decide) rfl dX4_change_31 ?_
    refine lv_iload_n hx hb dX4_change_32 rfl (lv_at hl 2 rfl) ?_
    refine lv_iload_n hx hb dX4_change_33 rfl (lv_at hl 3 rfl) ?_
    refine mx_Vi M w (kX4_areDays l D cy C ad e1 H.size (e1 14 k) f t hB (by omega) (mp9 _ q4.1).1 hf ht) (cwV 3 M.1.2.2.2.2 gX4_change_X4_areDays rfl rfl rfl (by decide +kernel) ⟨Nat.le_of_ble_eq_true rfl, Nat.le_of_ble_eq_true rfl⟩) (mo_rec M w (hB 7 (by decide)) (g := G cy ad e1) (sh_7 cy ad (e1 7)) rfl) rfl hl.1 rfl (Nat.le_of_ble_eq_true rfl) dX4_change_34 ⟨by decide, by decide⟩ (fun r34 u1 H locs hp1 w => ?_)
    obtain ⟨rfl, rfl⟩ := hp1
    refine mi_if_ne hx hb (bt_lt _) 46 dX4_change_37 (by decide) (fun h37 => ?_) (fun h37 => ?_)
    · have q2 := (of_decide_eq_true (bt_t h37))
      refine lv_aload_n hx hb dX4_change_46 rfl (lv_at hl 0 rfl) ?_
      refine ex_get M w (hB 7 (by decide)) (sh_7 cy ad (e1 7)) rfl inX4 14 (by decide) f41 rfl dX4_change_47 ?_
      refine lv_iload_n hx hb dX4_change_50 rfl (lv_at hl 1 rfl) ?_
      refine ex_zald M w (hB 18 (by decide)) (sh_18 cy ad) (by omega) (by decide) rfl dX4_change_51 ?_
      refine mi_if_eq hx hb (by omega) 61 dX4_change_52 (by decide) (fun h52 => ?_) (fun h52 => ?_)
      · refine lv_aload_n hx hb dX4_change_61 rfl (lv_at hl 0 rfl) ?_
        refine ex_get M w (hB 7 (by decide)) (sh_7 cy ad (e1 7)) rfl inX4 12 (by decide) f34 rfl dX4_change_62 ?_
        refine lv_iload_n hx hb dX4_change_65 rfl (lv_at hl 1 rfl) ?_
        refine ex_iald M w (hB 16 (by decide)) (sh_16 cy ad) (by omega) (by decide) rfl dX4_change_66 ?_
        refine lv_aload_n hx hb dX4_change_67 rfl (lv_at hl 0 rfl) ?_
        refine ex_get M w (hB 7 (by decide)) (sh_7 cy ad (e1 7)) rfl inX4 11 (by decide) f31 rfl dX4_change_68 ?_
        refine lv_iload_n hx hb dX4_change_71 rfl (lv_at hl 1 rfl) ?_
        refine ex_iald M w (hB 15 (by decide)) (sh_15 cy ad) (by omega) (by decide) rfl dX4_change_72 ?_
        refine mi_sub hx hb (by omega) dX4_change_73 ?_
        refine lv_iconst (v := nI 1) hx hb dX4_change_74 (by decide) ?_
        refine mi_add hx hb dX4_change_75 ?_
        refine lv_istore (lv' := [(4, .int (nI (((e1 16 k) - (e1 15 k)) + 1))), (0, .ref (ad 7)), (1, .int (nI k)), (2, .int (nI f)), (3, .int (nI t))]) hx hb dX4_change_76 hl (by decide) rfl (fun ls hl => ?_)
        refine lv_aload_n hx hb dX4_change_78 rfl (lv_at hl 1 rfl) ?_
        refine ex_get M w (hB 7 (by decide)) (sh_7 cy ad (e1 7)) rfl inX4 11 (by decide) f31 rfl dX4_change_79 ?_
        refine lv_iload_n hx hb dX4_change_82 rfl (lv_at hl 2 rfl) ?_
        refine lv_iload_n hx hb dX4_change_83 rfl (lv_at hl 3 rfl) ?_
        refine ex_iast M w (hB 15 (by decide)) (sh_15 cy ad) (v := f) (by omega) (by decide) dX4_change_84 (fun H locs w => ?_)
        refine lv_aload_n hx hb dX4_change_85 rfl (lv_at hl 1 rfl) ?_
        refine ex_get M w (hB 7 (by decide)) (sh_7 cy ad ((es e1 15 k f) 7)) rfl inX4 12 (by decide) f34 rfl dX4_change_86 ?_
        refine lv_iload_n hx hb dX4_change_89 rfl (lv_at hl 2 rfl) ?_
        refine lv_iload_n hx hb dX4_change_90 rfl (lv_at hl 4 rfl) ?_
        refine ex_iast M w (hB 16 (by decide)) (sh_16 cy ad) (v := t) (by omega) (by decide) dX4_change_91 (fun H locs w => ?_)
        refine lv_iload hx hb dX4_change_92 (lv_at hl 0 rfl) ?_
        exact mx_iret M w hr (v := (nI (((e1 16 k) - (e1 15 k)) + 1))) (by subst he1; exact (Or.inl ⟨⟨q1, q2, h52⟩, rfl, rfl⟩)) (by decide) (by decide) dX4_change_94
      · refine lv_aload_n hx hb dX4_change_55 rfl (lv_at hl 0 rfl) ?_
        refine lv_iconst (v := nI 3) hx hb dX4_change_56 (by decide) ?_
        refine mx_Vi M w (kX4_fails l D cy C ad e1 H.size 3 hB) (cwV 1 M.1.2.2.2.2 gX4_change_X4_fails rfl rfl rfl (by decide +kernel) ⟨Nat.le_of_ble_eq_true rfl, Nat.le_of_ble_eq_true rfl⟩) (mo_rec M w (hB 7 (by decide)) (g := G cy ad e1) (sh_7 cy ad (e1 7)) rfl) rfl hl.1 rfl (Nat.le_of_ble_eq_true rfl) dX4_change_57 ⟨by decide, by decide⟩ (fun r57 u1 H locs hp1 w => ?_)
        obtain ⟨rfl, rfl⟩ := hp1
        exact mx_iret M w hr (v := (nI 0)) (by subst he1; exact (Or.inr (Or.inr (Or.inr ⟨⟨q1, q2, h52⟩, rfl⟩)))) (by decide) (by decide) dX4_change_60
    · refine lv_aload_n hx hb dX4_change_40 rfl (lv_at hl 0 rfl) ?_
      refine lv_iconst (v := nI 2) hx hb dX4_change_41 (by decide) ?_
      refine mx_Vi M w (kX4_fails l D cy C ad e1 H.size 2 hB) (cwV 1 M.1.2.2.2.2 gX4_change_X4_fails rfl rfl rfl (by decide +kernel) ⟨Nat.le_of_ble_eq_true rfl, Nat.le_of_ble_eq_true rfl⟩) (mo_rec M w (hB 7 (by decide)) (g := G cy ad e1) (sh_7 cy ad (e1 7)) rfl) rfl hl.1 rfl (Nat.le_of_ble_eq_true rfl) dX4_change_42 ⟨by decide, by decide⟩ (fun r42 u1 H locs hp1 w => ?_)
      obtain ⟨rfl, rfl⟩ := hp1
      exact mx_iret M w hr (v := (nI 0)) (by subst he1; exact (Or.inr (Or.inr (Or.inl ⟨⟨q1, (of_decide_eq_false (bt_f h37))⟩, rfl⟩)))) (by decide) (by decide) dX4_change_45
  · refine lv_aload_n hx hb dX4_change_19 rfl (lv_at hl 0 rfl) ?_
    refine lv_iconst (v := nI 1) hx hb dX4_change_20 (by decide) ?_
    refine mx_Vi M w (kX4_fails l D cy C ad e1 H.size 1 hB) (cwV 1 M.1.2.2.2.2 gX4_change_X4_fails rfl rfl rfl (by decide +kernel) ⟨Nat.le_of_ble_eq_true rfl, Nat.le_of_ble_eq_true rfl⟩) (mo_rec M w (hB 7 (by decide)) (g := G cy ad e1) (sh_7 cy ad (e1 7)) rfl) rfl hl.1 rfl (Nat.le_of_ble_eq_true rfl) dX4_change_21 ⟨by decide, by decide⟩ (fun r21 u1 H locs hp1 w => ?_)
    obtain ⟨rfl, rfl⟩ := hp1
    exact mx_iret M w hr (v := (nI 0)) (by have y9 : ¬ k < e1 7 9 := (by have z := (of_decide_eq_false (bt_f h16)); omega); subst he1; exact (Or.inr (Or.inl ⟨y9, rfl⟩))) (by decide) (by decide) dX4_change_24

set_option maxHeartbeats 4000000 in
set_option maxRecDepth 100000 in
/-- LeavebankModel.cancel -/
theorem kX4_cancel (l : Launch) (D : va_G) (cy : Nat → ClassId) (C : List Nat) (ad : Nat → Nat) (e : Nat → Nat → Nat) (sz : Nat) (k : Nat) (hB : ∀ k, k < 26 → k ∈ C) (hM : MW e) (hk : k < 4294967296) : Met l yX4_cancel wsX4_cancel ({ frames := 1, cells := 0, slots := 0, locals := 22 } : Room) (PreM D cy (C, ad, G cy ad e) sz [.ref (ad 7), .int (nI k)]) (va_Qv (fun (u : WT) => ((k < e 7 9 ∧ e 18 k = 0) ∧ u = (C, ad, G cy ad (es (es e 7 0 0) 18 k 1))) ∨ (¬ k < e 7 9 ∧ u = (C, ad, G cy ad (es e 7 0 1))) ∨ ((k < e 7 9 ∧ ¬ e 18 k = 0) ∧ u = (C, ad, G cy ad (es e 7 0 2)))) (WB D cy (AW (C, ad, G cy ad e) sz)) (AW (C, ad, G cy ad e) sz)) 0 0 (AW (C, ad, G cy ad e) sz) := by
  refine mx_start (cc := cX4_cancel) (maxL := 2) (ret := none) (by decide) rfl (Nat.le_of_ble_eq_true rfl) ?_
  intro p9 e9 s m args below meth c hsz hr hnm M w ls hl
  have hx := M.1.1
  have hb := M.1.2.1
  have inX4 : ∀ w ∈ wsX40, w ∈ wsX4_cancel := by decide +kernel
  have f41 : Cond.fieldLink RX4 41 RX4 "gone" "[Z" ∈ wsX4_cancel := by decide +kernel
  have f65 : Cond.fieldLink RX4 65 RX4 "thrown" "I" ∈ wsX4_cancel := by decide +kernel
  have f79 : Cond.fieldLink RX4 79 RX4 "requests" "I" ∈ wsX4_cancel := by decide +kernel
  obtain ⟨⟨m1, m2, m3, m4, m5⟩, mr, ms, my, mp9⟩ := id hM
  have hl : lv_has ls 2 [(0, .ref (ad 7)), (1, .int (nI k))] := hl
  refine lv_aload_n hx hb dX4_cancel_0 rfl (lv_at hl 0 rfl) ?_
  refine lv_iload_n hx hb dX4_cancel_1 rfl (lv_at hl 1 rfl) ?_
  refine lv_iconst (v := nI 0) hx hb dX4_cancel_2 (by decide) ?_
  refine lv_aload_n hx hb dX4_cancel_3 rfl (lv_at hl 0 rfl) ?_
  refine ex_get M w (hB 7 (by decide)) (sh_7 cy ad (e 7)) rfl inX4 9 (by decide) f79 rfl dX4_cancel_4 ?_
  refine lv_iconst (v := nI 1) hx hb dX4_cancel_7 (by decide) ?_
  refine lv_isub hx hb dX4_cancel_8 ?_
  refine W.eq (congrArg (fun z => F0 m 9 ls (.int z :: [.int (nI 0), .int (nI k), .ref (ad 7)])) (nI_wrap (a := e 7 9) (b := 1) (by decide))) ?_
  refine W.eq (g2 := F0 m 9 ls (.int (nI ((e 7 9 + 4294967295) % 4294967296)) :: [.int (nI 0), .int (nI k), .ref (ad 7)])) rfl ?_
  refine mx_Si M w (kX4_in l D cy C ad e s.heap.size k 0 ((e 7 9 + 4294967295) % 4294967296) (by omega) (by omega) (by omega)) (va_cwS 3 M.1.2.2.2.2 gX4_cancel_X4_in rfl rfl rfl (by decide +kernel) ⟨Nat.le_of_ble_eq_true rfl, Nat.le_of_ble_eq_true rfl⟩) rfl hl.1 rfl (Nat.le_of_ble_eq_true rfl) dX4_cancel_9 ⟨by decide, by decide⟩ (fun r9 u1 H locs hp1 w => ?_)
  obtain ⟨rfl, rfl⟩ := hp1
  refine mi_if_ne hx hb (bt_lt _) 19 dX4_cancel_12 (by decide) (fun h12 => ?_) (fun h12 => ?_)
  · have q0 := (of_decide_eq_true (bt_t h12))
    have q1 : k < e 7 9 := by omega
    have q4 := mr k q1
    obtain ⟨q6, q7, q8, q9, q10⟩ := id q4
    refine lv_aload_n hx hb dX4_cancel_19 rfl (lv_at hl 0 rfl) ?_
    refine ex_get M w (hB 7 (by decide)) (sh_7 cy ad (e 7)) rfl inX4 14 (by decide) f41 rfl dX4_cancel_20 ?_
    refine lv_iload_n hx hb dX4_cancel_23 rfl (lv_at hl 1 rfl) ?_
    refine ex_zald M w (hB 18 (by decide)) (sh_18 cy ad) (by omega) (by decide) rfl dX4_cancel_24 ?_
    refine mi_if_eq hx hb (by omega) 32 dX4_cancel_25 (by decide) (fun h25 => ?_) (fun h25 => ?_)
    · refine lv_iconst (v := nI 0) hx hb dX4_cancel_32 (by decide) ?_
      refine ex_put M w (hB 7 (by decide)) (sh_7 cy ad (e 7)) rfl inX4 tyX4 tyX4_ok nmX4 0 (by decide) f65 rfl (v := 0) rfl rfl (Nat.le_of_ble_eq_true rfl) (sh_7 cy ad _) dX4_cancel_33 (fun H locs w => ?_)
      refine lv_aload_n hx hb dX4_cancel_36 rfl (lv_at hl 0 rfl) ?_
      refine ex_get M w (hB 7 (by decide)) (sh_7 cy ad ((es e 7 0 0) 7)) rfl inX4 0 (by decide) f65 (congrArg (fun z => some (Value.int (nI z))) (es_same _ _ _ _)) dX4_cancel_37 ?_
      refine mi_if_ne hx hb (by decide) 50 dX4_cancel_40 (by decide) (fun h40 => absurd h40 (by first | decide | omega)) (fun h40 => ?_)
      refine lv_aload_n hx hb dX4_cancel_43 rfl (lv_at hl 0 rfl) ?_
      refine ex_get M w (hB 7 (by decide)) (sh_7 cy ad ((es e 7 0 0) 7)) rfl inX4 14 (by decide) f41 rfl dX4_cancel_44 ?_
      refine lv_iload_n hx hb dX4_cancel_47 rfl (lv_at hl 1 rfl) ?_
      refine lv_iconst (v := nI 1) hx hb dX4_cancel_48 (by decide) ?_
      refine ex_zast M w (hB 18 (by decide)) (sh_18 cy ad) (v := 1) (by decide) (by omega) (by decide) dX4_cancel_49 (fun H locs w => ?_)
      exact mx_vret M w hr (Or.inl ⟨⟨q1, h25⟩, rfl⟩) (by decide) (by decide) dX4_cancel_50
    · refine lv_iconst (v := nI 2) hx hb dX4_cancel_28 (by decide) ?_
      refine lv_goto (tgt := 33) hx hb dX4_cancel_29 (by decide) ?_
      refine ex_put M w (hB 7 (by decide)) (sh_7 cy ad (e 7)) rfl inX4 tyX4 tyX4_ok nmX4 0 (by decide) f65 rfl (v := 2) rfl rfl (Nat.le_of_ble_eq_true rfl) (sh_7 cy ad _) dX4_cancel_33 (fun H locs w => ?_)
      refine lv_aload_n hx hb dX4_cancel_36 rfl (lv_at hl 0 rfl) ?_
      refine ex_get M w (hB 7 (by decide)) (sh_7 cy ad ((es e 7 0 2) 7)) rfl inX4 0 (by decide) f65 (congrArg (fun z => some (Value.int (nI z))) (es_same _ _ _ _)) dX4_cancel_37 ?_
      refine mi_if_ne hx hb (by decide) 50 dX4_cancel_40 (by decide) (fun h40 => ?_) (fun h40 => absurd h40 (by first | decide | omega))
      exact mx_vret M w hr (Or.inr (Or.inr ⟨⟨q1, h25⟩, rfl⟩)) (by decide) (by decide) dX4_cancel_50
  · refine lv_iconst (v := nI 1) hx hb dX4_cancel_15 (by decide) ?_
    refine lv_goto (tgt := 33) hx hb dX4_cancel_16 (by decide) ?_
    refine ex_put M w (hB 7 (by decide)) (sh_7 cy ad (e 7)) rfl inX4 tyX4 tyX4_ok nmX4 0 (by decide) f65 rfl (v := 1) rfl rfl (Nat.le_of_ble_eq_true rfl) (sh_7 cy ad _) dX4_cancel_33 (fun H locs w => ?_)
    refine lv_aload_n hx hb dX4_cancel_36 rfl (lv_at hl 0 rfl) ?_
    refine ex_get M w (hB 7 (by decide)) (sh_7 cy ad ((es e 7 0 1) 7)) rfl inX4 0 (by decide) f65 (congrArg (fun z => some (Value.int (nI z))) (es_same _ _ _ _)) dX4_cancel_37 ?_
    refine mi_if_ne hx hb (by decide) 50 dX4_cancel_40 (by decide) (fun h40 => ?_) (fun h40 => absurd h40 (by first | decide | omega))
    exact mx_vret M w hr (Or.inr (Or.inl ⟨by have z := (of_decide_eq_false (bt_f h12)); omega, rfl⟩)) (by decide) (by decide) dX4_cancel_50

set_option maxHeartbeats 4000000 in
set_option maxRecDepth 100000 in
/-- LeavebankModel.payOut -/
theorem kX4_payOut (l : Launch) (D : va_G) (cy : Nat → ClassId) (C : List Nat) (ad : Nat → Nat) (e : Nat → Nat → Nat) (sz : Nat) (k h : Nat) (hB : ∀ k, k < 26 → k ∈ C) (hM : MW e) (hk : k < 4294967296) (hh : h < 4294967296) : Met l yX4_payOut wsX4_payOut ({ frames := 6, cells := 0, slots := 0, locals := 142 } : Room) (PreM D cy (C, ad, G cy ad e) sz [.ref (ad 7), .int (nI k), .int (nI h)]) (va_Qi (fun (r : Int32) (u : WT) => ((k < (es e 7 0 0) 7 2 ∧ (1 ≤ h ∧ h ≤ 20000) ∧ ¬ (es e 7 0 0) 7 19 = 20 ∧ h ≤ totM (goM (es e 7 0 0) k ((es e 7 0 0) 7 1 + 1 - (es e 7 0 0) 8 k))) ∧ r = nI ((es e 7 0 0) 7 19) ∧ u = (C, ad, G cy ad (pyM (goM (es e 7 0 0) k ((es e 7 0 0) 7 1 + 1 - (es e 7 0 0) 8 k)) k h))) ∨ (¬ k < (es e 7 0 0) 7 2 ∧ u = (C, ad, G cy ad (es (es e 7 0 0) 7 0 1))) ∨ ((k < (es e 7 0 0) 7 2 ∧ ¬ (1 ≤ h ∧ h ≤ 20000)) ∧ u = (C, ad, G cy ad (es (es e 7 0 0) 7 0 2))) ∨ ((k < (es e 7 0 0) 7 2 ∧ (1 ≤ h ∧ h ≤ 20000) ∧ ((es e 7 0 0) 7 19 = 20 ∨ totM (goM (es e 7 0 0) k ((es e 7 0 0) 7 1 + 1 - (es e 7 0 0) 8 k)) < h)) ∧ u = (C, ad, G cy ad (es (goM (es e 7 0 0) k ((es e 7 0 0) 7 1 + 1 - (es e 7 0 0) 8 k)) 7 0 3)))) (WB D cy (AW (C, ad, G cy ad e) sz)) (AW (C, ad, G cy ad e) sz)) 0 0 (AW (C, ad, G cy ad e) sz) := by
  refine mx_start (cc := cX4_payOut) (maxL := 3) (ret := (some .int)) (by decide) rfl (Nat.le_of_ble_eq_true rfl) ?_
  intro p9 e9 s m args below meth c hsz hr hnm M w ls hl
  have hx := M.1.1
  have hb := M.1.2.1
  have inX4 : ∀ w ∈ wsX40, w ∈ wsX4_payOut := by decide +kernel
  have f53 : Cond.fieldLink RX4 53 RX4 "payee" "[I" ∈ wsX4_payOut := by decide +kernel
  have f56 : Cond.fieldLink RX4 56 RX4 "payDay" "[I" ∈ wsX4_payOut := by decide +kernel
  have f59 : Cond.fieldLink RX4 59 RX4 "payPoints" "[I" ∈ wsX4_payOut := by decide +kernel
  have f65 : Cond.fieldLink RX4 65 RX4 "thrown" "I" ∈ wsX4_payOut := by decide +kernel
  have f127 : Cond.fieldLink RX4 127 RX4 "payouts" "I" ∈ wsX4_payOut := by decide +kernel
  have f139 : Cond.fieldLink RX4 139 RX4 "today" "I" ∈ wsX4_payOut := by decide +kernel
  obtain ⟨e1, he1⟩ : ∃ z, z = es e 7 0 0 := ⟨_, rfl⟩
  have hM1 : MW e1 := by rw [he1]; exact hM.thr 0
  obtain ⟨⟨m1, m2, m3, m4, m5⟩, mr, ms, my, mp9⟩ := id hM1
  have hl : lv_has ls 3 [(0, .ref (ad 7)), (1, .int (nI k)), (2, .int (nI h))] := hl
  refine lv_aload_n hx hb dX4_payOut_0 rfl (lv_at hl 0 rfl) ?_
  refine lv_iconst (v := nI 0) hx hb dX4_payOut_1 (by decide) ?_
  refine ex_put M w (hB 7 (by decide)) (sh_7 cy ad (e 7)) rfl inX4 tyX4 tyX4_ok nmX4 0 (by decide) f65 rfl (v := 0) rfl rfl (Nat.le_of_ble_eq_true rfl) (sh_7 cy ad _) dX4_payOut_2 (fun H locs w => ?_)
  rw [← he1] at w
  refine lv_aload_n hx hb dX4_payOut_5 rfl (lv_at hl 0 rfl) ?_
  refine lv_iload_n hx hb dX4_payOut_6 rfl (lv_at hl 1 rfl) ?_
  refine mx_Vi M w (kX4_isPerson l D cy C ad e1 H.size k hB m1 hk) (cwV 1 M.1.2.2.2.2 gX4_payOut_X4_isPerson rfl rfl rfl (by decide +kernel) ⟨Nat.le_of_ble_eq_true rfl, Nat.le_of_ble_eq_true rfl⟩) (mo_rec M w (hB 7 (by decide)) (g := G cy ad e1) (sh_7 cy ad (e1 7)) rfl) rfl hl.1 rfl (Nat.le_of_ble_eq_true rfl) dX4_payOut_7 ⟨by decide, by decide⟩ (fun r7 u1 H locs hp1 w => ?_)
  obtain ⟨rfl, rfl⟩ := hp1
  refine mi_if_ne hx hb (bt_lt _) 19 dX4_payOut_10 (by decide) (fun h10 => ?_) (fun h10 => ?_)
  · have q1 := (of_decide_eq_true (bt_t h10))
    refine lv_iload_n hx hb dX4_payOut_19 rfl (lv_at hl 2 rfl) ?_
    refine lv_iconst (v := nI 1) hx hb dX4_payOut_20 (by decide) ?_
    refine lv_sipush (v := nI 20000) hx hb dX4_payOut_21 (by decide) ?_
    refine mx_Si M w (kX4_inS l D cy C ad e1 H.size h 1 20000 (by omega) (by omega) (by omega)) (va_cwS 3 M.1.2.2.2.2 gX4_payOut_X4_in rfl rfl rfl (by decide +kernel) ⟨Nat.le_of_ble_eq_true rfl, Nat.le_of_ble_eq_true rfl⟩) rfl hl.1 rfl (Nat.le_of_ble_eq_true rfl) dX4_payOut_24 ⟨by decide, by decide⟩ (fun r24 u1 H locs hp1 w => ?_)
    obtain ⟨rfl, rfl⟩ := hp1
    refine mi_if_ne hx hb (bt_lt _) 36 dX4_payOut_27 (by decide) (fun h27 => ?_) (fun h27 => ?_)
    · have q2 := (of_decide_eq_true (bt_t h27))
      have q00 := (mp9 k q1).1
      have hOg := OffM_go e1 k (e1 7 1 + 1 - e1 8 k)
      have hgk := GM_go hM1 (mp9 k q1) (e1 7 1 + 1 - e1 8 k)
      have q3 := totM_le hgk
      refine lv_aload_n hx hb dX4_payOut_36 rfl (lv_at hl 0 rfl) ?_
      refine lv_iload_n hx hb dX4_payOut_37 rfl (lv_at hl 1 rfl) ?_
      refine lv_aload_n hx hb dX4_payOut_38 rfl (lv_at hl 0 rfl) ?_
      refine ex_get M w (hB 7 (by decide)) (sh_7 cy ad (e1 7)) rfl inX4 1 (by decide) f139 rfl dX4_payOut_39 ?_
      refine mx_Vv M w (kX4_goes l D cy C ad e1 H.size k (e1 7 1) hB hM1 (mp9 k q1) (by omega) m5) (cwV 2 M.1.2.2.2.2 gX4_payOut_X4_goes rfl rfl rfl (by decide +kernel) ⟨Nat.le_of_ble_eq_true rfl, Nat.le_of_ble_eq_true rfl⟩) (mo_rec M w (hB 7 (by decide)) (g := G cy ad e1) (sh_7 cy ad (e1 7)) rfl) rfl hl.1 rfl (Nat.le_of_ble_eq_true rfl) dX4_payOut_42 ⟨by decide, by decide⟩ (fun u1 H locs hp1 w => ?_)
      obtain rfl := hp1
      refine lv_aload_n hx hb dX4_payOut_45 rfl (lv_at hl 0 rfl) ?_
      refine ex_get M w (hB 7 (by decide)) (sh_7 cy ad ((goM e1 k ((e1 7 1) + 1 - e1 8 k)) 7)) rfl inX4 19 (by decide) f127 (congrArg (fun z => some (Value.int (nI z))) ((hOg).2 19 (by decide))) dX4_payOut_46 ?_
      refine lv_bipush (v := nI 20) hx hb dX4_payOut_49 (by decide) ?_
      refine mi_eq hx hb (by omega) (by decide) 62 dX4_payOut_51 (by decide) (fun h51 => ?_) (fun h51 => ?_)
      · refine lv_aload_n hx hb dX4_payOut_62 rfl (lv_at hl 0 rfl) ?_
        refine lv_iconst (v := nI 3) hx hb dX4_payOut_63 (by decide) ?_
        refine mx_Vi M w (kX4_fails l D cy C ad (goM e1 k ((e1 7 1) + 1 - e1 8 k)) H.size 3 hB) (cwV 1 M.1.2.2.2.2 gX4_payOut_X4_fails rfl rfl rfl (by decide +kernel) ⟨Nat.le_of_ble_eq_true rfl, Nat.le_of_ble_eq_true rfl⟩) (mo_rec M w (hB 7 (by decide)) (g := G cy ad (goM e1 k ((e1 7 1) + 1 - e1 8 k))) (sh_7 cy ad ((goM e1 k ((e1 7 1) + 1 - e1 8 k)) 7)) rfl) rfl hl.1 rfl (Nat.le_of_ble_eq_true rfl) dX4_payOut_64 ⟨by decide, by decide⟩ (fun r64 u1 H locs hp1 w => ?_)
        obtain ⟨rfl, rfl⟩ := hp1
        exact mx_iret M w hr (v := (nI 0)) (by subst he1; exact (Or.inr (Or.inr (Or.inr ⟨⟨q1, q2, Or.inl h51⟩, rfl⟩)))) (by decide) (by decide) dX4_payOut_67
      · refine lv_aload_n hx hb dX4_payOut_54 rfl (lv_at hl 0 rfl) ?_
        refine mx_Vi M w (kX4_inPools l D cy C ad (goM e1 k ((e1 7 1) + 1 - e1 8 k)) H.size hB) (cwV 0 M.1.2.2.2.2 gX4_payOut_X4_inPools rfl rfl rfl (by decide +kernel) ⟨Nat.le_of_ble_eq_true rfl, Nat.le_of_ble_eq_true rfl⟩) (mo_rec M w (hB 7 (by decide)) (g := G cy ad (goM e1 k ((e1 7 1) + 1 - e1 8 k))) (sh_7 cy ad ((goM e1 k ((e1 7 1) + 1 - e1 8 k)) 7)) rfl) rfl hl.1 rfl (Nat.le_of_ble_eq_true rfl) dX4_payOut_55 ⟨by decide, by decide⟩ (fun r55 u1 H locs hp1 w => ?_)
        obtain ⟨rfl, rfl⟩ := hp1
        refine lv_iload_n hx hb dX4_payOut_58 rfl (lv_at hl 2 rfl) ?_
        refine mi_ge hx hb (by omega) (by omega) 68 dX4_payOut_59 (by decide) (fun h59 => ?_) (fun h59 => ?_)
        · refine lv_aload_n hx hb dX4_payOut_68 rfl (lv_at hl 0 rfl) ?_
          refine ex_get M w (hB 7 (by decide)) (sh_7 cy ad ((goM e1 k ((e1 7 1) + 1 - e1 8 k)) 7)) rfl inX4 20 (by decide) f53 rfl dX4_payOut_69 ?_
          refine lv_aload_n hx hb dX4_payOut_72 rfl (lv_at hl 0 rfl) ?_
          refine ex_get M w (hB 7 (by decide)) (sh_7 cy ad ((goM e1 k ((e1 7 1) + 1 - e1 8 k)) 7)) rfl inX4 19 (by decide) f127 (congrArg (fun z => some (Value.int (nI z))) ((hOg).2 19 (by decide))) dX4_payOut_73 ?_
          refine lv_iload_n hx hb dX4_payOut_76 rfl (lv_at hl 1 rfl) ?_
          refine ex_iast M w (hB 22 (by decide)) (sh_22 cy ad) (v := k) (by omega) (by decide) dX4_payOut_77 (fun H locs w => ?_)
          refine lv_aload_n hx hb dX4_payOut_78 rfl (lv_at hl 0 rfl) ?_
          refine ex_get M w (hB 7 (by decide)) (sh_7 cy ad ((es (goM e1 k ((e1 7 1) + 1 - e1 8 k)) 22 (e1 7 19) k) 7)) rfl inX4 21 (by decide) f56 rfl dX4_payOut_79 ?_
          refine lv_aload_n hx hb dX4_payOut_82 rfl (lv_at hl 0 rfl) ?_
          refine ex_get M w (hB 7 (by decide)) (sh_7 cy ad ((es (goM e1 k ((e1 7 1) + 1 - e1 8 k)) 22 (e1 7 19) k) 7)) rfl inX4 19 (by decide) f127 (congrArg (fun z => some (Value.int (nI z))) ((es_ne _ _ (by first | omega | (unfold PB; omega) | (unfold RB; omega) | (unfold PB RB; omega))).trans ((hOg).2 19 (by decide)))) dX4_payOut_83 ?_
          refine lv_aload_n hx hb dX4_payOut_86 rfl (lv_at hl 0 rfl) ?_
          refine ex_get M w (hB 7 (by decide)) (sh_7 cy ad ((es (goM e1 k ((e1 7 1) + 1 - e1 8 k)) 22 (e1 7 19) k) 7)) rfl inX4 1 (by decide) f139 (congrArg (fun z => some (Value.int (nI z))) ((es_ne _ _ (by first | omega | (unfold PB; omega) | (unfold RB; omega) | (unfold PB RB; omega))).trans ((hOg).2 1 (by decide)))) dX4_payOut_87 ?_
          refine ex_iast M w (hB 23 (by decide)) (sh_23 cy ad) (v := (e1 7 1)) (by omega) (by decide) dX4_payOut_90 (fun H locs w => ?_)
          refine lv_aload_n hx hb dX4_payOut_91 rfl (lv_at hl 0 rfl) ?_
          refine ex_get M w (hB 7 (by decide)) (sh_7 cy ad ((es (es (goM e1 k ((e1 7 1) + 1 - e1 8 k)) 22 (e1 7 19) k) 23 (e1 7 19) (e1 7 1)) 7)) rfl inX4 22 (by decide) f59 rfl dX4_payOut_92 ?_
          refine lv_aload_n hx hb dX4_payOut_95 rfl (lv_at hl 0 rfl) ?_
          refine ex_get M w (hB 7 (by decide)) (sh_7 cy ad ((es (es (goM e1 k ((e1 7 1) + 1 - e1 8 k)) 22 (e1 7 19) k) 23 (e1 7 19) (e1 7 1)) 7)) rfl inX4 19 (by decide) f127 (congrArg (fun z => some (Value.int (nI z))) ((es_ne _ _ (by first | omega | (unfold PB; omega) | (unfold RB; omega) | (unfold PB RB; omega))).trans ((es_ne _ _ (by first | omega | (unfold PB; omega) | (unfold RB; omega) | (unfold PB RB; omega))).trans ((hOg).2 19 (by decide))))) dX4_payOut_96 ?_
          refine lv_iload_n hx hb dX4_payOut_99 rfl (lv_at hl 2 rfl) ?_
          refine ex_iast M w (hB 24 (by decide)) (sh_24 cy ad) (v := h) (by omega) (by decide) dX4_payOut_100 (fun H locs w => ?_)
          refine lv_aload_n hx hb dX4_payOut_101 rfl (lv_at hl 0 rfl) ?_
          refine lv_dup hx hb dX4_payOut_102 rfl ?_
          refine ex_get M w (hB 7 (by decide)) (sh_7 cy ad ((es (es (es (goM e1 k ((e1 7 1) + 1 - e1 8 k)) 22 (e1 7 19) k) 23 (e1 7 19) (e1 7 1)) 24 (e1 7 19) h) 7)) rfl inX4 19 (by decide) f127 (congrArg (fun z => some (Value.int (nI z))) ((es_ne _ _ (by first | omega | (unfold PB; omega) | (unfold RB; omega) | (unfold PB RB; omega))).trans ((es_ne _ _ (by first | omega | (unfold PB; omega) | (unfold RB; omega) | (unfold PB RB; omega))).trans ((es_ne _ _ (by first | omega | (unfold PB; omega) | (unfold RB; omega) | (unfold PB RB; omega))).trans ((hOg).2 19 (by decide)))))) dX4_payOut_103 ?_
          refine lv_iconst (v := nI 1) hx hb dX4_payOut_106 (by decide) ?_
          refine mi_add hx hb dX4_payOut_107 ?_
          refine ex_put M w (hB 7 (by decide)) (sh_7 cy ad ((es (es (es (goM e1 k ((e1 7 1) + 1 - e1 8 k)) 22 (e1 7 19) k) 23 (e1 7 19) (e1 7 1)) 24 (e1 7 19) h) 7)) rfl inX4 tyX4 tyX4_ok nmX4 19 (by decide) f127 rfl (v := ((e1 7 19) + 1)) rfl rfl (Nat.le_of_ble_eq_true rfl) (sh_7 cy ad _) dX4_payOut_108 (fun H locs w => ?_)
          refine lv_aload_n hx hb dX4_payOut_111 rfl (lv_at hl 0 rfl) ?_
          refine ex_get M w (hB 7 (by decide)) (sh_7 cy ad ((es (es (es (es (goM e1 k ((e1 7 1) + 1 - e1 8 k)) 22 (e1 7 19) k) 23 (e1 7 19) (e1 7 1)) 24 (e1 7 19) h) 7 19 ((e1 7 19) + 1)) 7)) rfl inX4 19 (by decide) f127 (congrArg (fun z => some (Value.int (nI z))) (es_same _ _ _ _)) dX4_payOut_112 ?_
          refine lv_iconst (v := nI 1) hx hb dX4_payOut_115 (by decide) ?_
          refine mi_sub hx hb (by omega) dX4_payOut_116 ?_
          exact mx_iret M w hr (v := (nI (((e1 7 19) + 1) - 1))) (by have z : (es (es (es (es (goM e1 k ((e1 7 1) + 1 - e1 8 k)) 22 (e1 7 19) k) 23 (e1 7 19) (e1 7 1)) 24 (e1 7 19) h) 7 19 ((e1 7 19) + 1)) = pyM (goM e1 k (e1 7 1 + 1 - e1 8 k)) k h := (by unfold pyM; rw [hOg.2 19 (by decide), hOg.2 1 (by decide)]); rw [z]; subst he1; exact (Or.inl ⟨⟨q1, q2, h51, h59⟩, rfl, rfl⟩)) (by decide) (by decide) dX4_payOut_117
        · refine lv_aload_n hx hb dX4_payOut_62 rfl (lv_at hl 0 rfl) ?_
          refine lv_iconst (v := nI 3) hx hb dX4_payOut_63 (by decide) ?_
          refine mx_Vi M w (kX4_fails l D cy C ad (goM e1 k ((e1 7 1) + 1 - e1 8 k)) H.size 3 hB) (cwV 1 M.1.2.2.2.2 gX4_payOut_X4_fails rfl rfl rfl (by decide +kernel) ⟨Nat.le_of_ble_eq_true rfl, Nat.le_of_ble_eq_true rfl⟩) (mo_rec M w (hB 7 (by decide)) (g := G cy ad (goM e1 k ((e1 7 1) + 1 - e1 8 k))) (sh_7 cy ad ((goM e1 k ((e1 7 1) + 1 - e1 8 k)) 7)) rfl) rfl hl.1 rfl (Nat.le_of_ble_eq_true rfl) dX4_payOut_64 ⟨by decide, by decide⟩ (fun r64 u1 H locs hp1 w => ?_)
          obtain ⟨rfl, rfl⟩ := hp1
          exact mx_iret M w hr (v := (nI 0)) (by subst he1; exact (Or.inr (Or.inr (Or.inr ⟨⟨q1, q2, Or.inr h59⟩, rfl⟩)))) (by decide) (by decide) dX4_payOut_67
    · refine lv_aload_n hx hb dX4_payOut_30 rfl (lv_at hl 0 rfl) ?_
      refine lv_iconst (v := nI 2) hx hb dX4_payOut_31 (by decide) ?_
      refine mx_Vi M w (kX4_fails l D cy C ad e1 H.size 2 hB) (cwV 1 M.1.2.2.2.2 gX4_payOut_X4_fails rfl rfl rfl (by decide +kernel) ⟨Nat.le_of_ble_eq_true rfl, Nat.le_of_ble_eq_true rfl⟩) (mo_rec M w (hB 7 (by decide)) (g := G cy ad e1) (sh_7 cy ad (e1 7)) rfl) rfl hl.1 rfl (Nat.le_of_ble_eq_true rfl) dX4_payOut_32 ⟨by decide, by decide⟩ (fun r32 u1 H locs hp1 w => ?_)
      obtain ⟨rfl, rfl⟩ := hp1
      exact mx_iret M w hr (v := (nI 0)) (by subst he1; exact (Or.inr (Or.inr (Or.inl ⟨⟨q1, (of_decide_eq_false (bt_f h27))⟩, rfl⟩)))) (by decide) (by decide) dX4_payOut_35
  · refine lv_aload_n hx hb dX4_payOut_13 rfl (lv_at hl 0 rfl) ?_
    refine lv_iconst (v := nI 1) hx hb dX4_payOut_14 (by decide) ?_
    refine mx_Vi M w (kX4_fails l D cy C ad e1 H.size 1 hB) (cwV 1 M.1.2.2.2.2 gX4_payOut_X4_fails rfl rfl rfl (by decide +kernel) ⟨Nat.le_of_ble_eq_true rfl, Nat.le_of_ble_eq_true rfl⟩) (mo_rec M w (hB 7 (by decide)) (g := G cy ad e1) (sh_7 cy ad (e1 7)) rfl) rfl hl.1 rfl (Nat.le_of_ble_eq_true rfl) dX4_payOut_15 ⟨by decide, by decide⟩ (fun r15 u1 H locs hp1 w => ?_)
    obtain ⟨rfl, rfl⟩ := hp1
    exact mx_iret M w hr (v := (nI 0)) (by subst he1; exact (Or.inr (Or.inl ⟨(of_decide_eq_false (bt_f h10)), rfl⟩))) (by decide) (by decide) dX4_payOut_18
