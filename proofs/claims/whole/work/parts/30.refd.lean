set_option maxHeartbeats 4000000 in
set_option maxRecDepth 100000 in
/-- LeavebankModel.pass -/
theorem kX4_pass (l : Launch) (D : va_G) (cy : Nat → ClassId) (C : List Nat) (ad : Nat → Nat) (e : Nat → Nat → Nat) (sz : Nat) (d : Nat) (hB : ∀ k, k < 26 → k ∈ C) (hM : MW e) (hd : d < 4294967296) : Met l yX4_pass wsX4_pass ({ frames := 1, cells := 0, slots := 0, locals := 22 } : Room) (PreM D cy (C, ad, G cy ad e) sz [.ref (ad 7), .int (nI d)]) (va_Qi (fun (r : Int32) (u : WT) => (((1 ≤ d ∧ d ≤ 400) ∧ (es e 7 0 0) 7 1 + d ≤ 3600) ∧ r = nI ((es e 7 0 0) 7 1 + d) ∧ u = (C, ad, G cy ad (es (es e 7 0 0) 7 1 ((es e 7 0 0) 7 1 + d)))) ∨ (¬ (1 ≤ d ∧ d ≤ 400) ∧ u = (C, ad, G cy ad (es (es e 7 0 0) 7 0 1))) ∨ (((1 ≤ d ∧ d ≤ 400) ∧ ¬ (es e 7 0 0) 7 1 + d ≤ 3600) ∧ u = (C, ad, G cy ad (es (es e 7 0 0) 7 0 2)))) (WB D cy (AW (C, ad, G cy ad e) sz)) (AW (C, ad, G cy ad e) sz)) 0 0 (AW (C, ad, G cy ad e) sz) := by
  refine mx_start (cc := cX4_pass) (maxL := 2) (ret := (some .int)) (by decide) rfl (Nat.le_of_ble_eq_true rfl) ?_
  intro p9 e9 s m args below meth c hsz hr hnm M w ls hl
  have hx := M.1.1
  have hb := M.1.2.1
  have inX4 : ∀ w ∈ wsX40, w ∈ wsX4_pass := by decide +kernel
  have f65 : Cond.fieldLink RX4 65 RX4 "thrown" "I" ∈ wsX4_pass := by decide +kernel
  have f139 : Cond.fieldLink RX4 139 RX4 "today" "I" ∈ wsX4_pass := by decide +kernel
  obtain ⟨e1, he1⟩ : ∃ z, z = es e 7 0 0 := ⟨_, rfl⟩
  have hM1 : MW e1 := by rw [he1]; exact hM.thr 0
  obtain ⟨⟨m1, m2, m3, m4, m5⟩, mr, ms, my, mp9⟩ := id hM1
  have hl : lv_has ls 2 [(0, .ref (ad 7)), (1, .int (nI d))] := hl
  refine lv_aload_n hx hb dX4_pass_0 rfl (lv_at hl 0 rfl) ?_
  refine lv_iconst (v := nI 0) hx hb dX4_pass_1 (by decide) ?_
  refine ex_put M w (hB 7 (by decide)) (sh_7 cy ad (e 7)) rfl inX4 tyX4 tyX4_ok nmX4 0 (by decide) f65 rfl (v := 0) rfl rfl (Nat.le_of_ble_eq_true rfl) (sh_7 cy ad _) dX4_pass_2 (fun H locs w => ?_)
  rw [← he1] at w
  refine lv_iload_n hx hb dX4_pass_5 rfl (lv_at hl 1 rfl) ?_
  refine lv_iconst (v := nI 1) hx hb dX4_pass_6 (by decide) ?_
  refine lv_sipush (v := nI 400) hx hb dX4_pass_7 (by decide) ?_
  refine mx_Si M w (kX4_inS l D cy C ad e1 H.size d 1 400 (by omega) (by omega) (by omega)) (va_cwS 3 M.1.2.2.2.2 gX4_pass_X4_in rfl rfl rfl (by decide +kernel) ⟨Nat.le_of_ble_eq_true rfl, Nat.le_of_ble_eq_true rfl⟩) rfl hl.1 rfl (Nat.le_of_ble_eq_true rfl) dX4_pass_10 ⟨by decide, by decide⟩ (fun r10 u1 H locs hp1 w => ?_)
  obtain ⟨rfl, rfl⟩ := hp1
  refine mi_if_ne hx hb (bt_lt _) 22 dX4_pass_13 (by decide) (fun h13 => ?_) (fun h13 => ?_)
  · have q1 := (of_decide_eq_true (bt_t h13))
    refine lv_aload_n hx hb dX4_pass_22 rfl (lv_at hl 0 rfl) ?_
    refine ex_get M w (hB 7 (by decide)) (sh_7 cy ad (e1 7)) rfl inX4 1 (by decide) f139 rfl dX4_pass_23 ?_
    refine lv_iload_n hx hb dX4_pass_26 rfl (lv_at hl 1 rfl) ?_
    refine mi_add hx hb dX4_pass_27 ?_
    refine lv_sipush (v := nI 3600) hx hb dX4_pass_28 (by decide) ?_
    refine mi_le hx hb (by omega) (by decide) 40 dX4_pass_31 (by decide) (fun h31 => ?_) (fun h31 => ?_)
    · refine lv_aload_n hx hb dX4_pass_40 rfl (lv_at hl 0 rfl) ?_
      refine lv_dup hx hb dX4_pass_41 rfl ?_
      refine ex_get M w (hB 7 (by decide)) (sh_7 cy ad (e1 7)) rfl inX4 1 (by decide) f139 rfl dX4_pass_42 ?_
      refine lv_iload_n hx hb dX4_pass_45 rfl (lv_at hl 1 rfl) ?_
      refine mi_add hx hb dX4_pass_46 ?_
      refine ex_put M w (hB 7 (by decide)) (sh_7 cy ad (e1 7)) rfl inX4 tyX4 tyX4_ok nmX4 1 (by decide) f139 rfl (v := ((e1 7 1) + d)) rfl rfl (Nat.le_of_ble_eq_true rfl) (sh_7 cy ad _) dX4_pass_47 (fun H locs w => ?_)
      refine lv_aload_n hx hb dX4_pass_50 rfl (lv_at hl 0 rfl) ?_
      refine ex_get M w (hB 7 (by decide)) (sh_7 cy ad ((es e1 7 1 ((e1 7 1) + d)) 7)) rfl inX4 1 (by decide) f139 (congrArg (fun z => some (Value.int (nI z))) (es_same _ _ _ _)) dX4_pass_51 ?_
      exact mx_iret M w hr (v := (nI ((e1 7 1) + d))) (by subst he1; exact (Or.inl ⟨⟨q1, h31⟩, rfl, rfl⟩)) (by decide) (by decide) dX4_pass_54
    · refine lv_aload_n hx hb dX4_pass_34 rfl (lv_at hl 0 rfl) ?_
      refine lv_iconst (v := nI 2) hx hb dX4_pass_35 (by decide) ?_
      refine mx_Vi M w (kX4_fails l D cy C ad e1 H.size 2 hB) (cwV 1 M.1.2.2.2.2 gX4_pass_X4_fails rfl rfl rfl (by decide +kernel) ⟨Nat.le_of_ble_eq_true rfl, Nat.le_of_ble_eq_true rfl⟩) (mo_rec M w (hB 7 (by decide)) (g := G cy ad e1) (sh_7 cy ad (e1 7)) rfl) rfl hl.1 rfl (Nat.le_of_ble_eq_true rfl) dX4_pass_36 ⟨by decide, by decide⟩ (fun r36 u1 H locs hp1 w => ?_)
      obtain ⟨rfl, rfl⟩ := hp1
      exact mx_iret M w hr (v := (nI 0)) (by have y9 : ¬ e1 7 1 + d ≤ 3600 := (by omega); subst he1; exact (Or.inr (Or.inr ⟨⟨q1, y9⟩, rfl⟩))) (by decide) (by decide) dX4_pass_39
  · refine lv_aload_n hx hb dX4_pass_16 rfl (lv_at hl 0 rfl) ?_
    refine lv_iconst (v := nI 1) hx hb dX4_pass_17 (by decide) ?_
    refine mx_Vi M w (kX4_fails l D cy C ad e1 H.size 1 hB) (cwV 1 M.1.2.2.2.2 gX4_pass_X4_fails rfl rfl rfl (by decide +kernel) ⟨Nat.le_of_ble_eq_true rfl, Nat.le_of_ble_eq_true rfl⟩) (mo_rec M w (hB 7 (by decide)) (g := G cy ad e1) (sh_7 cy ad (e1 7)) rfl) rfl hl.1 rfl (Nat.le_of_ble_eq_true rfl) dX4_pass_18 ⟨by decide, by decide⟩ (fun r18 u1 H locs hp1 w => ?_)
    obtain ⟨rfl, rfl⟩ := hp1
    exact mx_iret M w hr (v := (nI 0)) (by subst he1; exact (Or.inr (Or.inl ⟨(of_decide_eq_false (bt_f h13)), rfl⟩))) (by decide) (by decide) dX4_pass_21

set_option maxHeartbeats 4000000 in
set_option maxRecDepth 100000 in
/-- LeavebankModel.today -/
theorem kX4_today (l : Launch) (D : va_G) (cy : Nat → ClassId) (C : List Nat) (ad : Nat → Nat) (e : Nat → Nat → Nat) (sz : Nat)  (hB : ∀ k, k < 26 → k ∈ C) (hM : MW e) : Met l yX4_today wsX4_today ({ frames := 0, cells := 0, slots := 0, locals := 0 } : Room) (PreM D cy (C, ad, G cy ad e) sz [.ref (ad 7)]) (va_Qi (fun (r : Int32) (u : WT) => r = nI ((es e 7 0 0) 7 1) ∧ u = (C, ad, G cy ad (es e 7 0 0))) (WB D cy (AW (C, ad, G cy ad e) sz)) (AW (C, ad, G cy ad e) sz)) 0 0 (AW (C, ad, G cy ad e) sz) := by
  refine mx_start (cc := cX4_today) (maxL := 1) (ret := (some .int)) (by decide) rfl (Nat.le_of_ble_eq_true rfl) ?_
  intro p9 e9 s m args below meth c hsz hr hnm M w ls hl
  have hx := M.1.1
  have hb := M.1.2.1
  have inX4 : ∀ w ∈ wsX40, w ∈ wsX4_today := by decide +kernel
  have f65 : Cond.fieldLink RX4 65 RX4 "thrown" "I" ∈ wsX4_today := by decide +kernel
  have f139 : Cond.fieldLink RX4 139 RX4 "today" "I" ∈ wsX4_today := by decide +kernel
  obtain ⟨e1, he1⟩ : ∃ z, z = es e 7 0 0 := ⟨_, rfl⟩
  have hM1 : MW e1 := by rw [he1]; exact hM.thr 0
  obtain ⟨⟨m1, m2, m3, m4, m5⟩, mr, ms, my, mp9⟩ := id hM1
  have hl : lv_has ls 1 [(0, .ref (ad 7))] := hl
  refine lv_aload_n hx hb dX4_today_0 rfl (lv_at hl 0 rfl) ?_
  refine lv_iconst (v := nI 0) hx hb dX4_today_1 (by decide) ?_
  refine ex_put M w (hB 7 (by decide)) (sh_7 cy ad (e 7)) rfl inX4 tyX4 tyX4_ok nmX4 0 (by decide) f65 rfl (v := 0) rfl rfl (Nat.le_of_ble_eq_true rfl) (sh_7 cy ad _) dX4_today_2 (fun H locs w => ?_)
  rw [← he1] at w
  refine lv_aload_n hx hb dX4_today_5 rfl (lv_at hl 0 rfl) ?_
  refine ex_get M w (hB 7 (by decide)) (sh_7 cy ad (e1 7)) rfl inX4 1 (by decide) f139 rfl dX4_today_6 ?_
  exact mx_iret M w hr (v := (nI (e1 7 1))) (by subst he1; exact ⟨rfl, rfl⟩) (by decide) (by decide) dX4_today_9

set_option maxHeartbeats 4000000 in
set_option maxRecDepth 100000 in
/-- LeavebankModel.people -/
theorem kX4_people (l : Launch) (D : va_G) (cy : Nat → ClassId) (C : List Nat) (ad : Nat → Nat) (e : Nat → Nat → Nat) (sz : Nat)  (hB : ∀ k, k < 26 → k ∈ C) (hM : MW e) : Met l yX4_people wsX4_people ({ frames := 0, cells := 0, slots := 0, locals := 0 } : Room) (PreM D cy (C, ad, G cy ad e) sz [.ref (ad 7)]) (va_Qi (fun (r : Int32) (u : WT) => r = nI ((es e 7 0 0) 7 2) ∧ u = (C, ad, G cy ad (es e 7 0 0))) (WB D cy (AW (C, ad, G cy ad e) sz)) (AW (C, ad, G cy ad e) sz)) 0 0 (AW (C, ad, G cy ad e) sz) := by
  refine mx_start (cc := cX4_people) (maxL := 1) (ret := (some .int)) (by decide) rfl (Nat.le_of_ble_eq_true rfl) ?_
  intro p9 e9 s m args below meth c hsz hr hnm M w ls hl
  have hx := M.1.1
  have hb := M.1.2.1
  have inX4 : ∀ w ∈ wsX40, w ∈ wsX4_people := by decide +kernel
  have f65 : Cond.fieldLink RX4 65 RX4 "thrown" "I" ∈ wsX4_people := by decide +kernel
  have f69 : Cond.fieldLink RX4 69 RX4 "people" "I" ∈ wsX4_people := by decide +kernel
  obtain ⟨e1, he1⟩ : ∃ z, z = es e 7 0 0 := ⟨_, rfl⟩
  have hM1 : MW e1 := by rw [he1]; exact hM.thr 0
  obtain ⟨⟨m1, m2, m3, m4, m5⟩, mr, ms, my, mp9⟩ := id hM1
  have hl : lv_has ls 1 [(0, .ref (ad 7))] := hl
  refine lv_aload_n hx hb dX4_people_0 rfl (lv_at hl 0 rfl) ?_
  refine lv_iconst (v := nI 0) hx hb dX4_people_1 (by decide) ?_
  refine ex_put M w (hB 7 (by decide)) (sh_7 cy ad (e 7)) rfl inX4 tyX4 tyX4_ok nmX4 0 (by decide) f65 rfl (v := 0) rfl rfl (Nat.le_of_ble_eq_true rfl) (sh_7 cy ad _) dX4_people_2 (fun H locs w => ?_)
  rw [← he1] at w
  refine lv_aload_n hx hb dX4_people_5 rfl (lv_at hl 0 rfl) ?_
  refine ex_get M w (hB 7 (by decide)) (sh_7 cy ad (e1 7)) rfl inX4 2 (by decide) f69 rfl dX4_people_6 ?_
  exact mx_iret M w hr (v := (nI (e1 7 2))) (by subst he1; exact ⟨rfl, rfl⟩) (by decide) (by decide) dX4_people_9

set_option maxHeartbeats 4000000 in
set_option maxRecDepth 100000 in
/-- LeavebankModel.workingDays -/
theorem kX4_workingDays (l : Launch) (D : va_G) (cy : Nat → ClassId) (C : List Nat) (ad : Nat → Nat) (e : Nat → Nat → Nat) (sz : Nat) (f t : Nat) (hB : ∀ k, k < 26 → k ∈ C) (hM : MW e) (hf : f < 4294967296) (ht : t < 4294967296) : Met l yX4_workingDays wsX4_workingDays ({ frames := 1, cells := 0, slots := 0, locals := 22 } : Room) (PreM D cy (C, ad, G cy ad e) sz [.ref (ad 7), .int (nI f), .int (nI t)]) (va_Qi (fun (r : Int32) (u : WT) => ((f ≤ 3600 ∧ f ≤ t ∧ t ≤ 3600) ∧ r = nI (wkN f (t + 1 - f)) ∧ u = (C, ad, G cy ad (es e 7 0 0))) ∨ (¬ (f ≤ 3600 ∧ f ≤ t ∧ t ≤ 3600) ∧ u = (C, ad, G cy ad (es (es e 7 0 0) 7 0 1)))) (WB D cy (AW (C, ad, G cy ad e) sz)) (AW (C, ad, G cy ad e) sz)) 0 0 (AW (C, ad, G cy ad e) sz) := by
  refine mx_start (cc := cX4_workingDays) (maxL := 5) (ret := (some .int)) (by decide) rfl (Nat.le_of_ble_eq_true rfl) ?_
  intro p9 e9 s m args below meth c hsz hr hnm M w ls hl
  have hx := M.1.1
  have hb := M.1.2.1
  have inX4 : ∀ w ∈ wsX40, w ∈ wsX4_workingDays := by decide +kernel
  have f65 : Cond.fieldLink RX4 65 RX4 "thrown" "I" ∈ wsX4_workingDays := by decide +kernel
  obtain ⟨e1, he1⟩ : ∃ z, z = es e 7 0 0 := ⟨_, rfl⟩
  have hM1 : MW e1 := by rw [he1]; exact hM.thr 0
  obtain ⟨⟨m1, m2, m3, m4, m5⟩, mr, ms, my, mp9⟩ := id hM1
  have cut38 : ∀ (n9 : Nat) (j cnt : Nat) (q1 : f ≤ t ∧ t ≤ 3600) (hj : f + j ≤ t + 1) (hc : cnt = wkN f j) (_hm : t + 1 - (f + j) < n9) (H : Heap) (locs : List Loc), MO D (AW (C, ad, G cy ad e) sz) s.heap (C, ad, G cy ad e1) H locs → ∀ (ls : Array Slot), lv_has ls 5 [(0, .ref (ad 7)), (1, .int (nI f)), (2, .int (nI t)), (3, .int (nI cnt)), (4, .int (nI (f + j)))] → W p9 l e9 ({ frames := 1, cells := 0, slots := 0, locals := 22 } : Room) s m args below meth c H locs 0 0 (MQ below (va_Qi (fun (r : Int32) (u : WT) => ((f ≤ 3600 ∧ f ≤ t ∧ t ≤ 3600) ∧ r = nI (wkN f (t + 1 - f)) ∧ u = (C, ad, G cy ad (es e 7 0 0))) ∨ (¬ (f ≤ 3600 ∧ f ≤ t ∧ t ≤ 3600) ∧ u = (C, ad, G cy ad (es (es e 7 0 0) 7 0 1)))) (WB D cy (AW (C, ad, G cy ad e) sz)) (AW (C, ad, G cy ad e) sz)) args s 0 0 (AW (C, ad, G cy ad e) sz)) (F0 m 38 ls []) := by
    intro n9
    induction n9 with
    | zero => intro j cnt q1 hj hc _hm; exact absurd _hm (Nat.not_lt_zero _)
    | succ n9 ih =>
      intro j cnt q1 hj hc _hm H locs w ls hl
      refine lv_iload hx hb dX4_workingDays_38 (lv_at hl 4 rfl) ?_
      refine lv_iload_n hx hb dX4_workingDays_40 rfl (lv_at hl 2 rfl) ?_
      refine mi_gt hx hb (by omega) (by omega) 66 dX4_workingDays_41 (by decide) (fun h41 => ?_) (fun h41 => ?_)
      · refine lv_iload_n hx hb dX4_workingDays_66 rfl (lv_at hl 3 rfl) ?_
        exact mx_iret M w hr (v := (nI cnt)) (by have z : f + j = t + 1 := (by omega); have z2 : t + 1 - f = j := (by omega); rw [hc, ← z2]; subst he1; exact Or.inl ⟨⟨by omega, q1⟩, rfl, rfl⟩) (by decide) (by decide) dX4_workingDays_67
      · refine lv_iload_n hx hb dX4_workingDays_44 rfl (lv_at hl 3 rfl) ?_
        refine lv_iload hx hb dX4_workingDays_45 (lv_at hl 4 rfl) ?_
        refine mx_Si M w (kX4_isWorking l D cy C ad e1 H.size (f + j) (by omega)) (va_cwS 1 M.1.2.2.2.2 gX4_workingDays_X4_isWorking rfl rfl rfl (by decide +kernel) ⟨Nat.le_of_ble_eq_true rfl, Nat.le_of_ble_eq_true rfl⟩) rfl hl.1 rfl (Nat.le_of_ble_eq_true rfl) dX4_workingDays_47 ⟨by decide, by decide⟩ (fun r47 u1 H locs hp1 w => ?_)
        obtain ⟨rfl, rfl⟩ := hp1
        refine mi_if_eq hx hb (bt_lt _) 57 dX4_workingDays_50 (by decide) (fun h50 => ?_) (fun h50 => ?_)
        · refine lv_iconst (v := nI 0) hx hb dX4_workingDays_57 (by decide) ?_
          refine mi_add hx hb dX4_workingDays_58 ?_
          refine lv_istore_n (lv' := [(3, .int (nI (cnt + 0))), (0, .ref (ad 7)), (1, .int (nI f)), (2, .int (nI t)), (4, .int (nI (f + j)))]) hx hb dX4_workingDays_59 rfl hl (by decide) rfl (fun ls hl => ?_)
          refine lv_iinc (v := nI (f + j + 1)) (lv' := [(4, .int (nI (f + j + 1))), (3, .int (nI (cnt + 0))), (0, .ref (ad 7)), (1, .int (nI f)), (2, .int (nI t))]) hx hb dX4_workingDays_60 hl (k := 4) rfl (nI_inc _ 1) (by decide) rfl (fun ls hl => ?_)
          refine lv_goto (tgt := 38) hx hb dX4_workingDays_63 (by decide) ?_
          exact ih (j + 1) _ q1 (by omega) (by show _ = wkN f j + _; rw [if_neg (of_decide_eq_false (bt_f h50)), ← hc])  (by omega) _ _ w ls (lv_sub hl [2, 3, 4, 1, 0] rfl)
        · refine lv_iconst (v := nI 1) hx hb dX4_workingDays_53 (by decide) ?_
          refine lv_goto (tgt := 58) hx hb dX4_workingDays_54 (by decide) ?_
          refine mi_add hx hb dX4_workingDays_58 ?_
          refine lv_istore_n (lv' := [(3, .int (nI (cnt + 1))), (0, .ref (ad 7)), (1, .int (nI f)), (2, .int (nI t)), (4, .int (nI (f + j)))]) hx hb dX4_workingDays_59 rfl hl (by decide) rfl (fun ls hl => ?_)
          refine lv_iinc (v := nI (f + j + 1)) (lv' := [(4, .int (nI (f + j + 1))), (3, .int (nI (cnt + 1))), (0, .ref (ad 7)), (1, .int (nI f)), (2, .int (nI t))]) hx hb dX4_workingDays_60 hl (k := 4) rfl (nI_inc _ 1) (by decide) rfl (fun ls hl => ?_)
          refine lv_goto (tgt := 38) hx hb dX4_workingDays_63 (by decide) ?_
          exact ih (j + 1) _ q1 (by omega) (by show _ = wkN f j + _; rw [if_pos (of_decide_eq_true (bt_t h50)), ← hc])  (by omega) _ _ w ls (lv_sub hl [2, 3, 4, 1, 0] rfl)
  have hl : lv_has ls 5 [(0, .ref (ad 7)), (1, .int (nI f)), (2, .int (nI t))] := hl
  refine lv_aload_n hx hb dX4_workingDays_0 rfl (lv_at hl 0 rfl) ?_
  refine lv_iconst (v := nI 0) hx hb dX4_workingDays_1 (by decide) ?_
  refine ex_put M w (hB 7 (by decide)) (sh_7 cy ad (e 7)) rfl inX4 tyX4 tyX4_ok nmX4 0 (by decide) f65 rfl (v := 0) rfl rfl (Nat.le_of_ble_eq_true rfl) (sh_7 cy ad _) dX4_workingDays_2 (fun H locs w => ?_)
  rw [← he1] at w
  refine lv_iload_n hx hb dX4_workingDays_5 rfl (lv_at hl 1 rfl) ?_
  refine lv_iconst (v := nI 0) hx hb dX4_workingDays_6 (by decide) ?_
  refine lv_sipush (v := nI 3600) hx hb dX4_workingDays_7 (by decide) ?_
  refine mx_Si M w (kX4_inS l D cy C ad e1 H.size f 0 3600 (by omega) (by omega) (by omega)) (va_cwS 3 M.1.2.2.2.2 gX4_workingDays_X4_in rfl rfl rfl (by decide +kernel) ⟨Nat.le_of_ble_eq_true rfl, Nat.le_of_ble_eq_true rfl⟩) rfl hl.1 rfl (Nat.le_of_ble_eq_true rfl) dX4_workingDays_10 ⟨by decide, by decide⟩ (fun r10 u1 H locs hp1 w => ?_)
  obtain ⟨rfl, rfl⟩ := hp1
  refine mi_if_eq hx hb (bt_lt _) 27 dX4_workingDays_13 (by decide) (fun h13 => ?_) (fun h13 => ?_)
  · refine lv_aload_n hx hb dX4_workingDays_27 rfl (lv_at hl 0 rfl) ?_
    refine lv_iconst (v := nI 1) hx hb dX4_workingDays_28 (by decide) ?_
    refine mx_Vi M w (kX4_fails l D cy C ad e1 H.size 1 hB) (cwV 1 M.1.2.2.2.2 gX4_workingDays_X4_fails rfl rfl rfl (by decide +kernel) ⟨Nat.le_of_ble_eq_true rfl, Nat.le_of_ble_eq_true rfl⟩) (mo_rec M w (hB 7 (by decide)) (g := G cy ad e1) (sh_7 cy ad (e1 7)) rfl) rfl hl.1 rfl (Nat.le_of_ble_eq_true rfl) dX4_workingDays_29 ⟨by decide, by decide⟩ (fun r29 u1 H locs hp1 w => ?_)
    obtain ⟨rfl, rfl⟩ := hp1
    exact mx_iret M w hr (v := (nI 0)) (by have y9 : ¬ (f ≤ 3600 ∧ f ≤ t ∧ t ≤ 3600) := (by have z := (of_decide_eq_false (bt_f h13)); omega); subst he1; exact (Or.inr ⟨y9, rfl⟩)) (by decide) (by decide) dX4_workingDays_32
  · have q0 := (of_decide_eq_true (bt_t h13))
    refine lv_iload_n hx hb dX4_workingDays_16 rfl (lv_at hl 2 rfl) ?_
    refine lv_iload_n hx hb dX4_workingDays_17 rfl (lv_at hl 1 rfl) ?_
    refine lv_sipush (v := nI 3600) hx hb dX4_workingDays_18 (by decide) ?_
    refine mx_Si M w (kX4_inS l D cy C ad e1 H.size t f 3600 (by omega) (by omega) (by omega)) (va_cwS 3 M.1.2.2.2.2 gX4_workingDays_X4_in rfl rfl rfl (by decide +kernel) ⟨Nat.le_of_ble_eq_true rfl, Nat.le_of_ble_eq_true rfl⟩) rfl hl.1 rfl (Nat.le_of_ble_eq_true rfl) dX4_workingDays_21 ⟨by decide, by decide⟩ (fun r21 u1 H locs hp1 w => ?_)
    obtain ⟨rfl, rfl⟩ := hp1
    refine mi_if_ne hx hb (bt_lt _) 33 dX4_workingDays_24 (by decide) (fun h24 => ?_) (fun h24 => ?_)
    · have q1 := (of_decide_eq_true (bt_t h24))
      refine lv_iconst (v := nI 0) hx hb dX4_workingDays_33 (by decide) ?_
      refine lv_istore_n (lv' := [(3, .int (nI 0)), (0, .ref (ad 7)), (1, .int (nI f)), (2, .int (nI t))]) hx hb dX4_workingDays_34 rfl hl (by decide) rfl (fun ls hl => ?_)
      refine lv_iload_n hx hb dX4_workingDays_35 rfl (lv_at hl 2 rfl) ?_
      refine lv_istore (lv' := [(4, .int (nI f)), (3, .int (nI 0)), (0, .ref (ad 7)), (1, .int (nI f)), (2, .int (nI t))]) hx hb dX4_workingDays_36 hl (by decide) rfl (fun ls hl => ?_)
      exact cut38 (t + 1 - (f + 0) + 1) 0 0 q1 (by omega) rfl  (by omega) _ _ w ls (lv_sub hl [2, 3, 4, 1, 0] rfl)
    · refine lv_aload_n hx hb dX4_workingDays_27 rfl (lv_at hl 0 rfl) ?_
      refine lv_iconst (v := nI 1) hx hb dX4_workingDays_28 (by decide) ?_
      refine mx_Vi M w (kX4_fails l D cy C ad e1 H.size 1 hB) (cwV 1 M.1.2.2.2.2 gX4_workingDays_X4_fails rfl rfl rfl (by decide +kernel) ⟨Nat.le_of_ble_eq_true rfl, Nat.le_of_ble_eq_true rfl⟩) (mo_rec M w (hB 7 (by decide)) (g := G cy ad e1) (sh_7 cy ad (e1 7)) rfl) rfl hl.1 rfl (Nat.le_of_ble_eq_true rfl) dX4_workingDays_29 ⟨by decide, by decide⟩ (fun r29 u1 H locs hp1 w => ?_)
      obtain ⟨rfl, rfl⟩ := hp1
      exact mx_iret M w hr (v := (nI 0)) (by have y9 : ¬ (f ≤ 3600 ∧ f ≤ t ∧ t ≤ 3600) := (by have z := (of_decide_eq_false (bt_f h24)); omega); subst he1; exact (Or.inr ⟨y9, rfl⟩)) (by decide) (by decide) dX4_workingDays_32

set_option maxHeartbeats 4000000 in
set_option maxRecDepth 100000 in
/-- LeavebankModel.hours -/
theorem kX4_hours (l : Launch) (D : va_G) (cy : Nat → ClassId) (C : List Nat) (ad : Nat → Nat) (e : Nat → Nat → Nat) (sz : Nat) (k d : Nat) (hB : ∀ k, k < 26 → k ∈ C) (hM : MW e) (hk : k < 4294967296) (hd : d < 4294967296) : Met l yX4_hours wsX4_hours ({ frames := 2, cells := 0, slots := 0, locals := 43 } : Room) (PreM D cy (C, ad, G cy ad e) sz [.ref (ad 7), .int (nI k), .int (nI d)]) (va_Qi (fun (r : Int32) (u : WT) => ((k < (es e 7 0 0) 7 2 ∧ ((es e 7 0 0) 8 k ≤ d ∧ d ≤ 3600)) ∧ r = nI (hrM (es e 7 0 0) k d) ∧ u = (C, ad, G cy ad (es e 7 0 0))) ∨ (¬ k < (es e 7 0 0) 7 2 ∧ u = (C, ad, G cy ad (es (es e 7 0 0) 7 0 1))) ∨ ((k < (es e 7 0 0) 7 2 ∧ ¬ ((es e 7 0 0) 8 k ≤ d ∧ d ≤ 3600)) ∧ u = (C, ad, G cy ad (es (es e 7 0 0) 7 0 2)))) (WB D cy (AW (C, ad, G cy ad e) sz)) (AW (C, ad, G cy ad e) sz)) 0 0 (AW (C, ad, G cy ad e) sz) := by
  refine mx_start (cc := cX4_hours) (maxL := 3) (ret := (some .int)) (by decide) rfl (Nat.le_of_ble_eq_true rfl) ?_
  intro p9 e9 s m args below meth c hsz hr hnm M w ls hl
  have hx := M.1.1
  have hb := M.1.2.1
  have inX4 : ∀ w ∈ wsX40, w ∈ wsX4_hours := by decide +kernel
  have f7 : Cond.fieldLink RX4 7 RX4 "start" "[I" ∈ wsX4_hours := by decide +kernel
  have f65 : Cond.fieldLink RX4 65 RX4 "thrown" "I" ∈ wsX4_hours := by decide +kernel
  obtain ⟨e1, he1⟩ : ∃ z, z = es e 7 0 0 := ⟨_, rfl⟩
  have hM1 : MW e1 := by rw [he1]; exact hM.thr 0
  obtain ⟨⟨m1, m2, m3, m4, m5⟩, mr, ms, my, mp9⟩ := id hM1
  have hl : lv_has ls 3 [(0, .ref (ad 7)), (1, .int (nI k)), (2, .int (nI d))] := hl
  refine lv_aload_n hx hb dX4_hours_0 rfl (lv_at hl 0 rfl) ?_
  refine lv_iconst (v := nI 0) hx hb dX4_hours_1 (by decide) ?_
  refine ex_put M w (hB 7 (by decide)) (sh_7 cy ad (e 7)) rfl inX4 tyX4 tyX4_ok nmX4 0 (by decide) f65 rfl (v := 0) rfl rfl (Nat.le_of_ble_eq_true rfl) (sh_7 cy ad _) dX4_hours_2 (fun H locs w => ?_)
  rw [← he1] at w
  refine lv_aload_n hx hb dX4_hours_5 rfl (lv_at hl 0 rfl) ?_
  refine lv_iload_n hx hb dX4_hours_6 rfl (lv_at hl 1 rfl) ?_
  refine mx_Vi M w (kX4_isPerson l D cy C ad e1 H.size k hB m1 hk) (cwV 1 M.1.2.2.2.2 gX4_hours_X4_isPerson rfl rfl rfl (by decide +kernel) ⟨Nat.le_of_ble_eq_true rfl, Nat.le_of_ble_eq_true rfl⟩) (mo_rec M w (hB 7 (by decide)) (g := G cy ad e1) (sh_7 cy ad (e1 7)) rfl) rfl hl.1 rfl (Nat.le_of_ble_eq_true rfl) dX4_hours_7 ⟨by decide, by decide⟩ (fun r7 u1 H locs hp1 w => ?_)
  obtain ⟨rfl, rfl⟩ := hp1
  refine mi_if_ne hx hb (bt_lt _) 19 dX4_hours_10 (by decide) (fun h10 => ?_) (fun h10 => ?_)
  · have q1 := (of_decide_eq_true (bt_t h10))
    have q0 := mp9 k q1
    have q02 := q0.1
    refine lv_iload_n hx hb dX4_hours_19 rfl (lv_at hl 2 rfl) ?_
    refine lv_aload_n hx hb dX4_hours_20 rfl (lv_at hl 0 rfl) ?_
    refine ex_get M w (hB 7 (by decide)) (sh_7 cy ad (e1 7)) rfl inX4 3 (by decide) f7 rfl dX4_hours_21 ?_
    refine lv_iload_n hx hb dX4_hours_24 rfl (lv_at hl 1 rfl) ?_
    refine ex_iald M w (hB 8 (by decide)) (sh_8 cy ad) (by omega) (by decide) rfl dX4_hours_25 ?_
    refine lv_sipush (v := nI 3600) hx hb dX4_hours_26 (by decide) ?_
    refine mx_Si M w (kX4_inS l D cy C ad e1 H.size d (e1 8 k) 3600 (by omega) (by omega) (by omega)) (va_cwS 3 M.1.2.2.2.2 gX4_hours_X4_in rfl rfl rfl (by decide +kernel) ⟨Nat.le_of_ble_eq_true rfl, Nat.le_of_ble_eq_true rfl⟩) rfl hl.1 rfl (Nat.le_of_ble_eq_true rfl) dX4_hours_29 ⟨by decide, by decide⟩ (fun r29 u1 H locs hp1 w => ?_)
    obtain ⟨rfl, rfl⟩ := hp1
    refine mi_if_eq hx hb (bt_lt _) 44 dX4_hours_32 (by decide) (fun h32 => ?_) (fun h32 => ?_)
    · refine lv_aload_n hx hb dX4_hours_44 rfl (lv_at hl 0 rfl) ?_
      refine lv_iconst (v := nI 2) hx hb dX4_hours_45 (by decide) ?_
      refine mx_Vi M w (kX4_fails l D cy C ad e1 H.size 2 hB) (cwV 1 M.1.2.2.2.2 gX4_hours_X4_fails rfl rfl rfl (by decide +kernel) ⟨Nat.le_of_ble_eq_true rfl, Nat.le_of_ble_eq_true rfl⟩) (mo_rec M w (hB 7 (by decide)) (g := G cy ad e1) (sh_7 cy ad (e1 7)) rfl) rfl hl.1 rfl (Nat.le_of_ble_eq_true rfl) dX4_hours_46 ⟨by decide, by decide⟩ (fun r46 u1 H locs hp1 w => ?_)
      obtain ⟨rfl, rfl⟩ := hp1
      exact mx_iret M w hr (v := (nI 0)) (by subst he1; exact (Or.inr (Or.inr ⟨⟨q1, (of_decide_eq_false (bt_f h32))⟩, rfl⟩))) (by decide) (by decide) dX4_hours_49
    · have q2 := (of_decide_eq_true (bt_t h32))
      refine lv_aload_n hx hb dX4_hours_35 rfl (lv_at hl 0 rfl) ?_
      refine lv_iload_n hx hb dX4_hours_36 rfl (lv_at hl 1 rfl) ?_
      refine lv_iload_n hx hb dX4_hours_37 rfl (lv_at hl 2 rfl) ?_
      refine mx_Vi M w (kX4_hoursOn l D cy C ad e1 H.size k d hB (by omega) q0 (by omega)) (cwV 2 M.1.2.2.2.2 gX4_hours_X4_hoursOn rfl rfl rfl (by decide +kernel) ⟨Nat.le_of_ble_eq_true rfl, Nat.le_of_ble_eq_true rfl⟩) (mo_rec M w (hB 7 (by decide)) (g := G cy ad e1) (sh_7 cy ad (e1 7)) rfl) rfl hl.1 rfl (Nat.le_of_ble_eq_true rfl) dX4_hours_38 ⟨by decide, by decide⟩ (fun r38 u1 H locs hp1 w => ?_)
      obtain ⟨rfl, rfl⟩ := hp1
      refine lv_goto (tgt := 49) hx hb dX4_hours_41 (by decide) ?_
      exact mx_iret M w hr (v := (nI (hrM e1 k d))) (by subst he1; exact (Or.inl ⟨⟨q1, q2⟩, rfl, rfl⟩)) (by decide) (by decide) dX4_hours_49
  · refine lv_aload_n hx hb dX4_hours_13 rfl (lv_at hl 0 rfl) ?_
    refine lv_iconst (v := nI 1) hx hb dX4_hours_14 (by decide) ?_
    refine mx_Vi M w (kX4_fails l D cy C ad e1 H.size 1 hB) (cwV 1 M.1.2.2.2.2 gX4_hours_X4_fails rfl rfl rfl (by decide +kernel) ⟨Nat.le_of_ble_eq_true rfl, Nat.le_of_ble_eq_true rfl⟩) (mo_rec M w (hB 7 (by decide)) (g := G cy ad e1) (sh_7 cy ad (e1 7)) rfl) rfl hl.1 rfl (Nat.le_of_ble_eq_true rfl) dX4_hours_15 ⟨by decide, by decide⟩ (fun r15 u1 H locs hp1 w => ?_)
    obtain ⟨rfl, rfl⟩ := hp1
    exact mx_iret M w hr (v := (nI 0)) (by subst he1; exact (Or.inr (Or.inl ⟨(of_decide_eq_false (bt_f h10)), rfl⟩))) (by decide) (by decide) dX4_hours_18

set_option maxHeartbeats 4000000 in
set_option maxRecDepth 100000 in
/-- LeavebankModel.isAsked -/
theorem kX4_isAsked (l : Launch) (D : va_G) (cy : Nat → ClassId) (C : List Nat) (ad : Nat → Nat) (e : Nat → Nat → Nat) (sz : Nat) (k d : Nat) (hB : ∀ k, k < 26 → k ∈ C) (hM : MW e) (hk : k < 4294967296) (hd : d < 4294967296) : Met l yX4_isAsked wsX4_isAsked ({ frames := 2, cells := 0, slots := 0, locals := 43 } : Room) (PreM D cy (C, ad, G cy ad e) sz [.ref (ad 7), .int (nI k), .int (nI d)]) (va_Qi (fun (r : Int32) (u : WT) => r = nI (decide (k < e 7 2 ∧ d ≤ 3600)).toNat ∧ u = (C, ad, G cy ad (es e 7 0 (if k < e 7 2 then (if d ≤ 3600 then 0 else 2) else 1)))) (WB D cy (AW (C, ad, G cy ad e) sz)) (AW (C, ad, G cy ad e) sz)) 0 0 (AW (C, ad, G cy ad e) sz) := by
  refine mx_start (cc := cX4_isAsked) (maxL := 3) (ret := (some .boolean)) (by decide) rfl (Nat.le_of_ble_eq_true rfl) ?_
  intro p9 e9 s m args below meth c hsz hr hnm M w ls hl
  have hx := M.1.1
  have hb := M.1.2.1
  have inX4 : ∀ w ∈ wsX40, w ∈ wsX4_isAsked := by decide +kernel
  have f65 : Cond.fieldLink RX4 65 RX4 "thrown" "I" ∈ wsX4_isAsked := by decide +kernel
  obtain ⟨⟨m1, m2, m3, m4, m5⟩, mr, ms, my, mp9⟩ := id hM
  have hl : lv_has ls 3 [(0, .ref (ad 7)), (1, .int (nI k)), (2, .int (nI d))] := hl
  refine lv_aload_n hx hb dX4_isAsked_0 rfl (lv_at hl 0 rfl) ?_
  refine lv_aload_n hx hb dX4_isAsked_1 rfl (lv_at hl 0 rfl) ?_
  refine lv_iload_n hx hb dX4_isAsked_2 rfl (lv_at hl 1 rfl) ?_
  refine mx_Vi M w (kX4_isPerson l D cy C ad e s.heap.size k hB m1 hk) (cwV 1 M.1.2.2.2.2 gX4_isAsked_X4_isPerson rfl rfl rfl (by decide +kernel) ⟨Nat.le_of_ble_eq_true rfl, Nat.le_of_ble_eq_true rfl⟩) (mo_rec M w (hB 7 (by decide)) (g := G cy ad e) (sh_7 cy ad (e 7)) rfl) rfl hl.1 rfl (Nat.le_of_ble_eq_true rfl) dX4_isAsked_3 ⟨by decide, by decide⟩ (fun r3 u1 H locs hp1 w => ?_)
  obtain ⟨rfl, rfl⟩ := hp1
  refine mi_if_ne hx hb (bt_lt _) 13 dX4_isAsked_6 (by decide) (fun h6 => ?_) (fun h6 => ?_)
  · refine lv_iload_n hx hb dX4_isAsked_13 rfl (lv_at hl 2 rfl) ?_
    refine lv_iconst (v := nI 0) hx hb dX4_isAsked_14 (by decide) ?_
    refine lv_sipush (v := nI 3600) hx hb dX4_isAsked_15 (by decide) ?_
    refine mx_Si M w (kX4_inS l D cy C ad e H.size d 0 3600 (by omega) (by omega) (by omega)) (va_cwS 3 M.1.2.2.2.2 gX4_isAsked_X4_in rfl rfl rfl (by decide +kernel) ⟨Nat.le_of_ble_eq_true rfl, Nat.le_of_ble_eq_true rfl⟩) rfl hl.1 rfl (Nat.le_of_ble_eq_true rfl) dX4_isAsked_18 ⟨by decide, by decide⟩ (fun r18 u1 H locs hp1 w => ?_)
    obtain ⟨rfl, rfl⟩ := hp1
    refine mi_if_eq hx hb (bt_lt _) 28 dX4_isAsked_21 (by decide) (fun h21 => ?_) (fun h21 => ?_)
    · refine lv_iconst (v := nI 2) hx hb dX4_isAsked_28 (by decide) ?_
      refine ex_put M w (hB 7 (by decide)) (sh_7 cy ad (e 7)) rfl inX4 tyX4 tyX4_ok nmX4 0 (by decide) f65 rfl (v := 2) rfl rfl (Nat.le_of_ble_eq_true rfl) (sh_7 cy ad _) dX4_isAsked_29 (fun H locs w => ?_)
      refine lv_aload_n hx hb dX4_isAsked_32 rfl (lv_at hl 0 rfl) ?_
      refine ex_get M w (hB 7 (by decide)) (sh_7 cy ad ((es e 7 0 2) 7)) rfl inX4 0 (by decide) f65 (congrArg (fun z => some (Value.int (nI z))) (es_same _ _ _ _)) dX4_isAsked_33 ?_
      refine mi_if_ne hx hb (by decide) 43 dX4_isAsked_36 (by decide) (fun h36 => ?_) (fun h36 => absurd h36 (by first | decide | omega))
      refine lv_iconst (v := nI 0) hx hb dX4_isAsked_43 (by decide) ?_
      exact mx_zret M w hr (v := (nI 0)) (by first | exact Or.inl rfl | exact Or.inr rfl) ⟨dec_f (fun z => (of_decide_eq_false (bt_f h21)) ⟨Nat.zero_le _, z.2⟩), by rw [if_pos (of_decide_eq_true (bt_t h6)), if_neg (fun z => (of_decide_eq_false (bt_f h21)) ⟨Nat.zero_le _, z⟩)]⟩ (by decide) (by decide) dX4_isAsked_44
    · refine lv_iconst (v := nI 0) hx hb dX4_isAsked_24 (by decide) ?_
      refine lv_goto (tgt := 29) hx hb dX4_isAsked_25 (by decide) ?_
      refine ex_put M w (hB 7 (by decide)) (sh_7 cy ad (e 7)) rfl inX4 tyX4 tyX4_ok nmX4 0 (by decide) f65 rfl (v := 0) rfl rfl (Nat.le_of_ble_eq_true rfl) (sh_7 cy ad _) dX4_isAsked_29 (fun H locs w => ?_)
      refine lv_aload_n hx hb dX4_isAsked_32 rfl (lv_at hl 0 rfl) ?_
      refine ex_get M w (hB 7 (by decide)) (sh_7 cy ad ((es e 7 0 0) 7)) rfl inX4 0 (by decide) f65 (congrArg (fun z => some (Value.int (nI z))) (es_same _ _ _ _)) dX4_isAsked_33 ?_
      refine mi_if_ne hx hb (by decide) 43 dX4_isAsked_36 (by decide) (fun h36 => absurd h36 (by first | decide | omega)) (fun h36 => ?_)
      refine lv_iconst (v := nI 1) hx hb dX4_isAsked_39 (by decide) ?_
      refine lv_goto (tgt := 44) hx hb dX4_isAsked_40 (by decide) ?_
      exact mx_zret M w hr (v := (nI 1)) (by first | exact Or.inl rfl | exact Or.inr rfl) ⟨dec_t ⟨(of_decide_eq_true (bt_t h6)), (of_decide_eq_true (bt_t h21)).2⟩, by rw [if_pos (of_decide_eq_true (bt_t h6)), if_pos (of_decide_eq_true (bt_t h21)).2]⟩ (by decide) (by decide) dX4_isAsked_44
  · refine lv_iconst (v := nI 1) hx hb dX4_isAsked_9 (by decide) ?_
    refine lv_goto (tgt := 29) hx hb dX4_isAsked_10 (by decide) ?_
    refine ex_put M w (hB 7 (by decide)) (sh_7 cy ad (e 7)) rfl inX4 tyX4 tyX4_ok nmX4 0 (by decide) f65 rfl (v := 1) rfl rfl (Nat.le_of_ble_eq_true rfl) (sh_7 cy ad _) dX4_isAsked_29 (fun H locs w => ?_)
    refine lv_aload_n hx hb dX4_isAsked_32 rfl (lv_at hl 0 rfl) ?_
    refine ex_get M w (hB 7 (by decide)) (sh_7 cy ad ((es e 7 0 1) 7)) rfl inX4 0 (by decide) f65 (congrArg (fun z => some (Value.int (nI z))) (es_same _ _ _ _)) dX4_isAsked_33 ?_
    refine mi_if_ne hx hb (by decide) 43 dX4_isAsked_36 (by decide) (fun h36 => ?_) (fun h36 => absurd h36 (by first | decide | omega))
    refine lv_iconst (v := nI 0) hx hb dX4_isAsked_43 (by decide) ?_
    exact mx_zret M w hr (v := (nI 0)) (by first | exact Or.inl rfl | exact Or.inr rfl) ⟨dec_f (fun z => (of_decide_eq_false (bt_f h6)) z.1), by rw [if_neg (of_decide_eq_false (bt_f h6))]⟩ (by decide) (by decide) dX4_isAsked_44

set_option maxHeartbeats 4000000 in
set_option maxRecDepth 100000 in
/-- LeavebankModel.onLeave -/
theorem kX4_onLeave (l : Launch) (D : va_G) (cy : Nat → ClassId) (C : List Nat) (ad : Nat → Nat) (e : Nat → Nat → Nat) (sz : Nat) (k d : Nat) (hB : ∀ k, k < 26 → k ∈ C) (hM : MW e) (hk : k < 4294967296) (hd : d < 4294967296) : Met l yX4_onLeave wsX4_onLeave ({ frames := 3, cells := 0, slots := 0, locals := 72 } : Room) (PreM D cy (C, ad, G cy ad e) sz [.ref (ad 7), .int (nI k), .int (nI d)]) (va_Qi (fun (r : Int32) (u : WT) => ((k < e 7 2 ∧ d ≤ 3600) ∧ r = nI (lvM (es e 7 0 0) k d) ∧ u = (C, ad, G cy ad (es e 7 0 0))) ∨ (¬ (k < e 7 2 ∧ d ≤ 3600) ∧ u = (C, ad, G cy ad (es e 7 0 (if k < e 7 2 then 2 else 1))))) (WB D cy (AW (C, ad, G cy ad e) sz)) (AW (C, ad, G cy ad e) sz)) 0 0 (AW (C, ad, G cy ad e) sz) := by
  refine mx_start (cc := cX4_onLeave) (maxL := 3) (ret := (some .int)) (by decide) rfl (Nat.le_of_ble_eq_true rfl) ?_
  intro p9 e9 s m args below meth c hsz hr hnm M w ls hl
  have hx := M.1.1
  have hb := M.1.2.1
  obtain ⟨e1, he1⟩ : ∃ z, z = es e 7 0 0 := ⟨_, rfl⟩
  have hM1 : MW e1 := by rw [he1]; exact hM.thr 0
  obtain ⟨⟨m1, m2, m3, m4, m5⟩, mr, ms, my, mp9⟩ := id hM1
  have hl : lv_has ls 3 [(0, .ref (ad 7)), (1, .int (nI k)), (2, .int (nI d))] := hl
  refine lv_aload_n hx hb dX4_onLeave_0 rfl (lv_at hl 0 rfl) ?_
  refine lv_iload_n hx hb dX4_onLeave_1 rfl (lv_at hl 1 rfl) ?_
  refine lv_iload_n hx hb dX4_onLeave_2 rfl (lv_at hl 2 rfl) ?_
  refine mx_Vi M w (kX4_isAsked l D cy C ad e s.heap.size k d hB hM hk hd) (cwV 2 M.1.2.2.2.2 gX4_onLeave_X4_isAsked rfl rfl rfl (by decide +kernel) ⟨Nat.le_of_ble_eq_true rfl, Nat.le_of_ble_eq_true rfl⟩) (mo_rec M w (hB 7 (by decide)) (g := G cy ad e) (sh_7 cy ad (e 7)) rfl) rfl hl.1 rfl (Nat.le_of_ble_eq_true rfl) dX4_onLeave_3 ⟨by decide, by decide⟩ (fun r3 u1 H locs hp1 w => ?_)
  obtain ⟨rfl, rfl⟩ := hp1
  refine mi_if_eq hx hb (bt_lt _) 18 dX4_onLeave_6 (by decide) (fun h6 => ?_) (fun h6 => ?_)
  · have q1 := (of_decide_eq_false (bt_f h6))
    refine lv_iconst (v := nI 0) hx hb dX4_onLeave_18 (by decide) ?_
    exact mx_iret M w hr (v := (nI 0)) (by subst he1; exact Or.inr ⟨q1, by rw [th_0 q1]⟩) (by decide) (by decide) dX4_onLeave_19
  · have q1 := (of_decide_eq_true (bt_t h6))
    rw [if_pos q1.1, if_pos q1.2] at w
    rw [← he1] at w
    refine lv_aload_n hx hb dX4_onLeave_9 rfl (lv_at hl 0 rfl) ?_
    refine lv_iload_n hx hb dX4_onLeave_10 rfl (lv_at hl 1 rfl) ?_
    refine lv_iload_n hx hb dX4_onLeave_11 rfl (lv_at hl 2 rfl) ?_
    refine mx_Vi M w (kX4_leaveOn l D cy C ad e1 H.size k d hB hM1 (by have z := hM.1.1; omega) q1.2) (cwV 2 M.1.2.2.2.2 gX4_onLeave_X4_leaveOn rfl rfl rfl (by decide +kernel) ⟨Nat.le_of_ble_eq_true rfl, Nat.le_of_ble_eq_true rfl⟩) (mo_rec M w (hB 7 (by decide)) (g := G cy ad e1) (sh_7 cy ad (e1 7)) rfl) rfl hl.1 rfl (Nat.le_of_ble_eq_true rfl) dX4_onLeave_12 ⟨by decide, by decide⟩ (fun r12 u1 H locs hp1 w => ?_)
    obtain ⟨rfl, rfl⟩ := hp1
    refine lv_goto (tgt := 19) hx hb dX4_onLeave_15 (by decide) ?_
    exact mx_iret M w hr (v := (nI (lvM e1 k d))) (by subst he1; exact Or.inl ⟨q1, rfl, rfl⟩) (by decide) (by decide) dX4_onLeave_19

set_option maxHeartbeats 4000000 in
set_option maxRecDepth 100000 in
/-- LeavebankModel.isGone -/
theorem kX4_isGone (l : Launch) (D : va_G) (cy : Nat → ClassId) (C : List Nat) (ad : Nat → Nat) (e : Nat → Nat → Nat) (sz : Nat) (k d : Nat) (hB : ∀ k, k < 26 → k ∈ C) (hM : MW e) (hk : k < 4294967296) (hd : d < 4294967296) : Met l yX4_isGone wsX4_isGone ({ frames := 6, cells := 0, slots := 0, locals := 142 } : Room) (PreM D cy (C, ad, G cy ad e) sz [.ref (ad 7), .int (nI k), .int (nI d)]) (va_Qi (fun (r : Int32) (u : WT) => r = nI (decide (k < e 7 2 ∧ d ≤ 3600)).toNat ∧ u = (C, ad, G cy ad (gnM e k d))) (WB D cy (AW (C, ad, G cy ad e) sz)) (AW (C, ad, G cy ad e) sz)) 0 0 (AW (C, ad, G cy ad e) sz) := by
  refine mx_start (cc := cX4_isGone) (maxL := 3) (ret := (some .boolean)) (by decide) rfl (Nat.le_of_ble_eq_true rfl) ?_
  intro p9 e9 s m args below meth c hsz hr hnm M w ls hl
  have hx := M.1.1
  have hb := M.1.2.1
  have inX4 : ∀ w ∈ wsX40, w ∈ wsX4_isGone := by decide +kernel
  have f65 : Cond.fieldLink RX4 65 RX4 "thrown" "I" ∈ wsX4_isGone := by decide +kernel
  obtain ⟨e1, he1⟩ : ∃ z, z = es e 7 0 0 := ⟨_, rfl⟩
  have hM1 : MW e1 := by rw [he1]; exact hM.thr 0
  obtain ⟨⟨m1, m2, m3, m4, m5⟩, mr, ms, my, mp9⟩ := id hM1
  have hl : lv_has ls 3 [(0, .ref (ad 7)), (1, .int (nI k)), (2, .int (nI d))] := hl
  refine lv_aload_n hx hb dX4_isGone_0 rfl (lv_at hl 0 rfl) ?_
  refine lv_iload_n hx hb dX4_isGone_1 rfl (lv_at hl 1 rfl) ?_
  refine lv_iload_n hx hb dX4_isGone_2 rfl (lv_at hl 2 rfl) ?_
  refine mx_Vi M w (kX4_isAsked l D cy C ad e s.heap.size k d hB hM hk hd) (cwV 2 M.1.2.2.2.2 gX4_isGone_X4_isAsked rfl rfl rfl (by decide +kernel) ⟨Nat.le_of_ble_eq_true rfl, Nat.le_of_ble_eq_true rfl⟩) (mo_rec M w (hB 7 (by decide)) (g := G cy ad e) (sh_7 cy ad (e 7)) rfl) rfl hl.1 rfl (Nat.le_of_ble_eq_true rfl) dX4_isGone_3 ⟨by decide, by decide⟩ (fun r3 u1 H locs hp1 w => ?_)
  obtain ⟨rfl, rfl⟩ := hp1
  refine mi_if_eq hx hb (bt_lt _) 15 dX4_isGone_6 (by decide) (fun h6 => ?_) (fun h6 => ?_)
  · have q1 := (of_decide_eq_false (bt_f h6))
    rw [th_0 q1] at w
    refine lv_aload_n hx hb dX4_isGone_15 rfl (lv_at hl 0 rfl) ?_
    refine ex_get M w (hB 7 (by decide)) (sh_7 cy ad ((es e 7 0 (if k < e 7 2 then 2 else 1)) 7)) rfl inX4 0 (by decide) f65 (congrArg (fun z => some (Value.int (nI z))) (es_same _ _ _ _)) dX4_isGone_16 ?_
    refine mi_if_ne hx hb (by first | decide | (split <;> decide)) 26 dX4_isGone_19 (by decide) (fun h19 => ?_) (fun h19 => absurd h19 (by first | decide | (split <;> decide)))
    refine lv_iconst (v := nI 0) hx hb dX4_isGone_26 (by decide) ?_
    exact mx_zret M w hr (v := (nI 0)) (by first | exact Or.inl rfl | exact Or.inr rfl) ⟨dec_f q1, by rw [gn_0 q1]⟩ (by decide) (by decide) dX4_isGone_27
  · have q1 := (of_decide_eq_true (bt_t h6))
    rw [if_pos q1.1, if_pos q1.2] at w
    rw [← he1] at w
    refine lv_aload_n hx hb dX4_isGone_9 rfl (lv_at hl 0 rfl) ?_
    refine lv_iload_n hx hb dX4_isGone_10 rfl (lv_at hl 1 rfl) ?_
    refine lv_iload_n hx hb dX4_isGone_11 rfl (lv_at hl 2 rfl) ?_
    refine mx_Vv M w (kX4_goes l D cy C ad e1 H.size k d hB hM1 (mp9 k (by rw [he1]; exact q1.1)) (by have z := hM.1.1; omega) q1.2) (cwV 2 M.1.2.2.2.2 gX4_isGone_X4_goes rfl rfl rfl (by decide +kernel) ⟨Nat.le_of_ble_eq_true rfl, Nat.le_of_ble_eq_true rfl⟩) (mo_rec M w (hB 7 (by decide)) (g := G cy ad e1) (sh_7 cy ad (e1 7)) rfl) rfl hl.1 rfl (Nat.le_of_ble_eq_true rfl) dX4_isGone_12 ⟨by decide, by decide⟩ (fun u1 H locs hp1 w => ?_)
    obtain rfl := hp1
    refine lv_aload_n hx hb dX4_isGone_15 rfl (lv_at hl 0 rfl) ?_
    refine ex_get M w (hB 7 (by decide)) (sh_7 cy ad ((goM e1 k (d + 1 - e1 8 k)) 7)) rfl inX4 0 (by decide) f65 (congrArg (fun z => some (Value.int (nI z))) (((OffM_go e1 k (d + 1 - e1 8 k)).2 0 (by decide)).trans (show e1 7 0 = 0 from by simp only [he1, es_same]))) dX4_isGone_16 ?_
    refine mi_if_ne hx hb (by first | decide | (split <;> decide)) 26 dX4_isGone_19 (by decide) (fun h19 => absurd h19 (by first | decide | (split <;> decide))) (fun h19 => ?_)
    refine lv_iconst (v := nI 1) hx hb dX4_isGone_22 (by decide) ?_
    refine lv_goto (tgt := 27) hx hb dX4_isGone_23 (by decide) ?_
    exact mx_zret M w hr (v := (nI 1)) (by first | exact Or.inl rfl | exact Or.inr rfl) ⟨dec_t q1, by rw [gn_1 q1]; subst he1; rfl⟩ (by decide) (by decide) dX4_isGone_27

set_option maxHeartbeats 4000000 in
set_option maxRecDepth 100000 in
/-- LeavebankModel.balance -/
theorem kX4_balance (l : Launch) (D : va_G) (cy : Nat → ClassId) (C : List Nat) (ad : Nat → Nat) (e : Nat → Nat → Nat) (sz : Nat) (k d : Nat) (hB : ∀ k, k < 26 → k ∈ C) (hM : MW e) (hk : k < 4294967296) (hd : d < 4294967296) : Met l yX4_balance wsX4_balance ({ frames := 7, cells := 0, slots := 0, locals := 164 } : Room) (PreM D cy (C, ad, G cy ad e) sz [.ref (ad 7), .int (nI k), .int (nI d)]) (va_Qi (fun (r : Int32) (u : WT) => (k < e 7 2 ∧ d ≤ 3600 → r = nI (totM (goM (es e 7 0 0) k (d + 1 - e 8 k))) - nI ((goM (es e 7 0 0) k (d + 1 - e 8 k)) 7 24)) ∧ u = (C, ad, G cy ad (gnM e k d))) (WB D cy (AW (C, ad, G cy ad e) sz)) (AW (C, ad, G cy ad e) sz)) 0 0 (AW (C, ad, G cy ad e) sz) := by
  refine mx_start (cc := cX4_balance) (maxL := 3) (ret := (some .int)) (by decide) rfl (Nat.le_of_ble_eq_true rfl) ?_
  intro p9 e9 s m args below meth c hsz hr hnm M w ls hl
  have hx := M.1.1
  have hb := M.1.2.1
  have inX4 : ∀ w ∈ wsX40, w ∈ wsX4_balance := by decide +kernel
  have f94 : Cond.fieldLink RX4 94 RX4 "owed" "I" ∈ wsX4_balance := by decide +kernel
  have hl : lv_has ls 3 [(0, .ref (ad 7)), (1, .int (nI k)), (2, .int (nI d))] := hl
  refine lv_aload_n hx hb dX4_balance_0 rfl (lv_at hl 0 rfl) ?_
  refine lv_iload_n hx hb dX4_balance_1 rfl (lv_at hl 1 rfl) ?_
  refine lv_iload_n hx hb dX4_balance_2 rfl (lv_at hl 2 rfl) ?_
  refine mx_Vi M w (kX4_isGone l D cy C ad e s.heap.size k d hB hM hk hd) (cwV 2 M.1.2.2.2.2 gX4_balance_X4_isGone rfl rfl rfl (by decide +kernel) ⟨Nat.le_of_ble_eq_true rfl, Nat.le_of_ble_eq_true rfl⟩) (mo_rec M w (hB 7 (by decide)) (g := G cy ad e) (sh_7 cy ad (e 7)) rfl) rfl hl.1 rfl (Nat.le_of_ble_eq_true rfl) dX4_balance_3 ⟨by decide, by decide⟩ (fun r3 u1 H locs hp1 w => ?_)
  obtain ⟨rfl, rfl⟩ := hp1
  refine mi_if_eq hx hb (bt_lt _) 21 dX4_balance_6 (by decide) (fun h6 => ?_) (fun h6 => ?_)
  · refine lv_iconst (v := nI 0) hx hb dX4_balance_21 (by decide) ?_
    exact mx_iret M w hr (v := (nI 0)) ⟨fun z => absurd z (of_decide_eq_false (bt_f h6)), rfl⟩ (by decide) (by decide) dX4_balance_22
  · have q1 := (of_decide_eq_true (bt_t h6))
    rw [gn_1 q1] at w
    refine lv_aload_n hx hb dX4_balance_9 rfl (lv_at hl 0 rfl) ?_
    refine mx_Vi M w (kX4_inPools l D cy C ad (goM (es e 7 0 0) k (d + 1 - e 8 k)) H.size hB) (cwV 0 M.1.2.2.2.2 gX4_balance_X4_inPools rfl rfl rfl (by decide +kernel) ⟨Nat.le_of_ble_eq_true rfl, Nat.le_of_ble_eq_true rfl⟩) (mo_rec M w (hB 7 (by decide)) (g := G cy ad (goM (es e 7 0 0) k (d + 1 - e 8 k))) (sh_7 cy ad ((goM (es e 7 0 0) k (d + 1 - e 8 k)) 7)) rfl) rfl hl.1 rfl (Nat.le_of_ble_eq_true rfl) dX4_balance_10 ⟨by decide, by decide⟩ (fun r10 u1 H locs hp1 w => ?_)
    obtain ⟨rfl, rfl⟩ := hp1
    refine lv_aload_n hx hb dX4_balance_13 rfl (lv_at hl 0 rfl) ?_
    refine ex_get M w (hB 7 (by decide)) (sh_7 cy ad ((goM (es e 7 0 0) k (d + 1 - e 8 k)) 7)) rfl inX4 24 (by decide) f94 rfl dX4_balance_14 ?_
    refine lv_isub hx hb dX4_balance_17 ?_
    refine lv_goto (tgt := 22) hx hb dX4_balance_18 (by decide) ?_
    exact mx_iret M w hr (v := ((nI (totM (goM (es e 7 0 0) k (d + 1 - e 8 k)))) - (nI ((goM (es e 7 0 0) k (d + 1 - e 8 k)) 7 24)))) ⟨fun _ => rfl, by rw [gn_1 q1]⟩ (by decide) (by decide) dX4_balance_22

set_option maxHeartbeats 4000000 in
set_option maxRecDepth 100000 in
/-- LeavebankModel.balanceBySums -/
theorem kX4_balanceBySums (l : Launch) (D : va_G) (cy : Nat → ClassId) (C : List Nat) (ad : Nat → Nat) (e : Nat → Nat → Nat) (sz : Nat) (k d : Nat) (hB : ∀ k, k < 26 → k ∈ C) (hM : MW e) (hk : k < 4294967296) (hd : d < 4294967296) : Met l yX4_balanceBySums wsX4_balanceBySums ({ frames := 7, cells := 0, slots := 0, locals := 164 } : Room) (PreM D cy (C, ad, G cy ad e) sz [.ref (ad 7), .int (nI k), .int (nI d)]) (va_Qi (fun (r : Int32) (u : WT) => (k < e 7 2 ∧ d ≤ 3600 → r = nI ((goM (es e 7 0 0) k (d + 1 - e 8 k)) 7 25) - nI ((goM (es e 7 0 0) k (d + 1 - e 8 k)) 7 26) - nI ((goM (es e 7 0 0) k (d + 1 - e 8 k)) 7 27) - nI ((goM (es e 7 0 0) k (d + 1 - e 8 k)) 7 28)) ∧ u = (C, ad, G cy ad (gnM e k d))) (WB D cy (AW (C, ad, G cy ad e) sz)) (AW (C, ad, G cy ad e) sz)) 0 0 (AW (C, ad, G cy ad e) sz) := by
  refine mx_start (cc := cX4_balanceBySums) (maxL := 3) (ret := (some .int)) (by decide) rfl (Nat.le_of_ble_eq_true rfl) ?_
  intro p9 e9 s m args below meth c hsz hr hnm M w ls hl
  have hx := M.1.1
  have hb := M.1.2.1
  have inX4 : ∀ w ∈ wsX40, w ∈ wsX4_balanceBySums := by decide +kernel
  have f97 : Cond.fieldLink RX4 97 RX4 "earnedSum" "I" ∈ wsX4_balanceBySums := by decide +kernel
  have f114 : Cond.fieldLink RX4 114 RX4 "takenSum" "I" ∈ wsX4_balanceBySums := by decide +kernel
  have f121 : Cond.fieldLink RX4 121 RX4 "expiredSum" "I" ∈ wsX4_balanceBySums := by decide +kernel
  have f130 : Cond.fieldLink RX4 130 RX4 "paidSum" "I" ∈ wsX4_balanceBySums := by decide +kernel
  have hl : lv_has ls 3 [(0, .ref (ad 7)), (1, .int (nI k)), (2, .int (nI d))] := hl
  refine lv_aload_n hx hb dX4_balanceBySums_0 rfl (lv_at hl 0 rfl) ?_
  refine lv_iload_n hx hb dX4_balanceBySums_1 rfl (lv_at hl 1 rfl) ?_
  refine lv_iload_n hx hb dX4_balanceBySums_2 rfl (lv_at hl 2 rfl) ?_
  refine mx_Vi M w (kX4_isGone l D cy C ad e s.heap.size k d hB hM hk hd) (cwV 2 M.1.2.2.2.2 gX4_balanceBySums_X4_isGone rfl rfl rfl (by decide +kernel) ⟨Nat.le_of_ble_eq_true rfl, Nat.le_of_ble_eq_true rfl⟩) (mo_rec M w (hB 7 (by decide)) (g := G cy ad e) (sh_7 cy ad (e 7)) rfl) rfl hl.1 rfl (Nat.le_of_ble_eq_true rfl) dX4_balanceBySums_3 ⟨by decide, by decide⟩ (fun r3 u1 H locs hp1 w => ?_)
  obtain ⟨rfl, rfl⟩ := hp1
  refine mi_if_eq hx hb (bt_lt _) 31 dX4_balanceBySums_6 (by decide) (fun h6 => ?_) (fun h6 => ?_)
  · refine lv_iconst (v := nI 0) hx hb dX4_balanceBySums_31 (by decide) ?_
    exact mx_iret M w hr (v := (nI 0)) ⟨fun z => absurd z (of_decide_eq_false (bt_f h6)), rfl⟩ (by decide) (by decide) dX4_balanceBySums_32
  · have q1 := (of_decide_eq_true (bt_t h6))
    rw [gn_1 q1] at w
    refine lv_aload_n hx hb dX4_balanceBySums_9 rfl (lv_at hl 0 rfl) ?_
    refine ex_get M w (hB 7 (by decide)) (sh_7 cy ad ((goM (es e 7 0 0) k (d + 1 - e 8 k)) 7)) rfl inX4 25 (by decide) f97 rfl dX4_balanceBySums_10 ?_
    refine lv_aload_n hx hb dX4_balanceBySums_13 rfl (lv_at hl 0 rfl) ?_
    refine ex_get M w (hB 7 (by decide)) (sh_7 cy ad ((goM (es e 7 0 0) k (d + 1 - e 8 k)) 7)) rfl inX4 26 (by decide) f114 rfl dX4_balanceBySums_14 ?_
    refine lv_isub hx hb dX4_balanceBySums_17 ?_
    refine lv_aload_n hx hb dX4_balanceBySums_18 rfl (lv_at hl 0 rfl) ?_
    refine ex_get M w (hB 7 (by decide)) (sh_7 cy ad ((goM (es e 7 0 0) k (d + 1 - e 8 k)) 7)) rfl inX4 27 (by decide) f121 rfl dX4_balanceBySums_19 ?_
    refine lv_isub hx hb dX4_balanceBySums_22 ?_
    refine lv_aload_n hx hb dX4_balanceBySums_23 rfl (lv_at hl 0 rfl) ?_
    refine ex_get M w (hB 7 (by decide)) (sh_7 cy ad ((goM (es e 7 0 0) k (d + 1 - e 8 k)) 7)) rfl inX4 28 (by decide) f130 rfl dX4_balanceBySums_24 ?_
    refine lv_isub hx hb dX4_balanceBySums_27 ?_
    refine lv_goto (tgt := 32) hx hb dX4_balanceBySums_28 (by decide) ?_
    exact mx_iret M w hr (v := ((((nI ((goM (es e 7 0 0) k (d + 1 - e 8 k)) 7 25)) - (nI ((goM (es e 7 0 0) k (d + 1 - e 8 k)) 7 26))) - (nI ((goM (es e 7 0 0) k (d + 1 - e 8 k)) 7 27))) - (nI ((goM (es e 7 0 0) k (d + 1 - e 8 k)) 7 28)))) ⟨fun _ => rfl, by rw [gn_1 q1]⟩ (by decide) (by decide) dX4_balanceBySums_32

set_option maxHeartbeats 4000000 in
set_option maxRecDepth 100000 in
/-- LeavebankModel.earned -/
theorem kX4_earned (l : Launch) (D : va_G) (cy : Nat → ClassId) (C : List Nat) (ad : Nat → Nat) (e : Nat → Nat → Nat) (sz : Nat) (k d : Nat) (hB : ∀ k, k < 26 → k ∈ C) (hM : MW e) (hk : k < 4294967296) (hd : d < 4294967296) : Met l yX4_earned wsX4_earned ({ frames := 7, cells := 0, slots := 0, locals := 164 } : Room) (PreM D cy (C, ad, G cy ad e) sz [.ref (ad 7), .int (nI k), .int (nI d)]) (va_Qi (fun (r : Int32) (u : WT) => (k < e 7 2 ∧ d ≤ 3600 → r = nI ((goM (es e 7 0 0) k (d + 1 - e 8 k)) 7 25)) ∧ u = (C, ad, G cy ad (gnM e k d))) (WB D cy (AW (C, ad, G cy ad e) sz)) (AW (C, ad, G cy ad e) sz)) 0 0 (AW (C, ad, G cy ad e) sz) := by
  refine mx_start (cc := cX4_earned) (maxL := 3) (ret := (some .int)) (by decide) rfl (Nat.le_of_ble_eq_true rfl) ?_
  intro p9 e9 s m args below meth c hsz hr hnm M w ls hl
  have hx := M.1.1
  have hb := M.1.2.1
  have inX4 : ∀ w ∈ wsX40, w ∈ wsX4_earned := by decide +kernel
  have f97 : Cond.fieldLink RX4 97 RX4 "earnedSum" "I" ∈ wsX4_earned := by decide +kernel
  have hl : lv_has ls 3 [(0, .ref (ad 7)), (1, .int (nI k)), (2, .int (nI d))] := hl
  refine lv_aload_n hx hb dX4_earned_0 rfl (lv_at hl 0 rfl) ?_
  refine lv_iload_n hx hb dX4_earned_1 rfl (lv_at hl 1 rfl) ?_
  refine lv_iload_n hx hb dX4_earned_2 rfl (lv_at hl 2 rfl) ?_
  refine mx_Vi M w (kX4_isGone l D cy C ad e s.heap.size k d hB hM hk hd) (cwV 2 M.1.2.2.2.2 gX4_earned_X4_isGone rfl rfl rfl (by decide +kernel) ⟨Nat.le_of_ble_eq_true rfl, Nat.le_of_ble_eq_true rfl⟩) (mo_rec M w (hB 7 (by decide)) (g := G cy ad e) (sh_7 cy ad (e 7)) rfl) rfl hl.1 rfl (Nat.le_of_ble_eq_true rfl) dX4_earned_3 ⟨by decide, by decide⟩ (fun r3 u1 H locs hp1 w => ?_)
  obtain ⟨rfl, rfl⟩ := hp1
  refine mi_if_eq hx hb (bt_lt _) 16 dX4_earned_6 (by decide) (fun h6 => ?_) (fun h6 => ?_)
  · refine lv_iconst (v := nI 0) hx hb dX4_earned_16 (by decide) ?_
    exact mx_iret M w hr (v := (nI 0)) ⟨fun z => absurd z (of_decide_eq_false (bt_f h6)), rfl⟩ (by decide) (by decide) dX4_earned_17
  · have q1 := (of_decide_eq_true (bt_t h6))
    rw [gn_1 q1] at w
    refine lv_aload_n hx hb dX4_earned_9 rfl (lv_at hl 0 rfl) ?_
    refine ex_get M w (hB 7 (by decide)) (sh_7 cy ad ((goM (es e 7 0 0) k (d + 1 - e 8 k)) 7)) rfl inX4 25 (by decide) f97 rfl dX4_earned_10 ?_
    refine lv_goto (tgt := 17) hx hb dX4_earned_13 (by decide) ?_
    exact mx_iret M w hr (v := (nI ((goM (es e 7 0 0) k (d + 1 - e 8 k)) 7 25))) ⟨fun _ => rfl, by rw [gn_1 q1]⟩ (by decide) (by decide) dX4_earned_17

set_option maxHeartbeats 4000000 in
set_option maxRecDepth 100000 in
/-- LeavebankModel.taken -/
theorem kX4_taken (l : Launch) (D : va_G) (cy : Nat → ClassId) (C : List Nat) (ad : Nat → Nat) (e : Nat → Nat → Nat) (sz : Nat) (k d : Nat) (hB : ∀ k, k < 26 → k ∈ C) (hM : MW e) (hk : k < 4294967296) (hd : d < 4294967296) : Met l yX4_taken wsX4_taken ({ frames := 7, cells := 0, slots := 0, locals := 164 } : Room) (PreM D cy (C, ad, G cy ad e) sz [.ref (ad 7), .int (nI k), .int (nI d)]) (va_Qi (fun (r : Int32) (u : WT) => (k < e 7 2 ∧ d ≤ 3600 → r = nI ((goM (es e 7 0 0) k (d + 1 - e 8 k)) 7 26)) ∧ u = (C, ad, G cy ad (gnM e k d))) (WB D cy (AW (C, ad, G cy ad e) sz)) (AW (C, ad, G cy ad e) sz)) 0 0 (AW (C, ad, G cy ad e) sz) := by
  refine mx_start (cc := cX4_taken) (maxL := 3) (ret := (some .int)) (by decide) rfl (Nat.le_of_ble_eq_true rfl) ?_
  intro p9 e9 s m args below meth c hsz hr hnm M w ls hl
  have hx := M.1.1
  have hb := M.1.2.1
  have inX4 : ∀ w ∈ wsX40, w ∈ wsX4_taken := by decide +kernel
  have f114 : Cond.fieldLink RX4 114 RX4 "takenSum" "I" ∈ wsX4_taken := by decide +kernel
  have hl : lv_has ls 3 [(0, .ref (ad 7)), (1, .int (nI k)), (2, .int (nI d))] := hl
  refine lv_aload_n hx hb dX4_taken_0 rfl (lv_at hl 0 rfl) ?_
  refine lv_iload_n hx hb dX4_taken_1 rfl (lv_at hl 1 rfl) ?_
  refine lv_iload_n hx hb dX4_taken_2 rfl (lv_at hl 2 rfl) ?_
  refine mx_Vi M w (kX4_isGone l D cy C ad e s.heap.size k d hB hM hk hd) (cwV 2 M.1.2.2.2.2 gX4_taken_X4_isGone rfl rfl rfl (by decide +kernel) ⟨Nat.le_of_ble_eq_true rfl, Nat.le_of_ble_eq_true rfl⟩) (mo_rec M w (hB 7 (by decide)) (g := G cy ad e) (sh_7 cy ad (e 7)) rfl) rfl hl.1 rfl (Nat.le_of_ble_eq_true rfl) dX4_taken_3 ⟨by decide, by decide⟩ (fun r3 u1 H locs hp1 w => ?_)
  obtain ⟨rfl, rfl⟩ := hp1
  refine mi_if_eq hx hb (bt_lt _) 16 dX4_taken_6 (by decide) (fun h6 => ?_) (fun h6 => ?_)
  · refine lv_iconst (v := nI 0) hx hb dX4_taken_16 (by decide) ?_
    exact mx_iret M w hr (v := (nI 0)) ⟨fun z => absurd z (of_decide_eq_false (bt_f h6)), rfl⟩ (by decide) (by decide) dX4_taken_17
  · have q1 := (of_decide_eq_true (bt_t h6))
    rw [gn_1 q1] at w
    refine lv_aload_n hx hb dX4_taken_9 rfl (lv_at hl 0 rfl) ?_
    refine ex_get M w (hB 7 (by decide)) (sh_7 cy ad ((goM (es e 7 0 0) k (d + 1 - e 8 k)) 7)) rfl inX4 26 (by decide) f114 rfl dX4_taken_10 ?_
    refine lv_goto (tgt := 17) hx hb dX4_taken_13 (by decide) ?_
    exact mx_iret M w hr (v := (nI ((goM (es e 7 0 0) k (d + 1 - e 8 k)) 7 26))) ⟨fun _ => rfl, by rw [gn_1 q1]⟩ (by decide) (by decide) dX4_taken_17

set_option maxHeartbeats 4000000 in
set_option maxRecDepth 100000 in
/-- LeavebankModel.expired -/
theorem kX4_expired (l : Launch) (D : va_G) (cy : Nat → ClassId) (C : List Nat) (ad : Nat → Nat) (e : Nat → Nat → Nat) (sz : Nat) (k d : Nat) (hB : ∀ k, k < 26 → k ∈ C) (hM : MW e) (hk : k < 4294967296) (hd : d < 4294967296) : Met l yX4_expired wsX4_expired ({ frames := 7, cells := 0, slots := 0, locals := 164 } : Room) (PreM D cy (C, ad, G cy ad e) sz [.ref (ad 7), .int (nI k), .int (nI d)]) (va_Qi (fun (r : Int32) (u : WT) => (k < e 7 2 ∧ d ≤ 3600 → r = nI ((goM (es e 7 0 0) k (d + 1 - e 8 k)) 7 27)) ∧ u = (C, ad, G cy ad (gnM e k d))) (WB D cy (AW (C, ad, G cy ad e) sz)) (AW (C, ad, G cy ad e) sz)) 0 0 (AW (C, ad, G cy ad e) sz) := by
  refine mx_start (cc := cX4_expired) (maxL := 3) (ret := (some .int)) (by decide) rfl (Nat.le_of_ble_eq_true rfl) ?_
  intro p9 e9 s m args below meth c hsz hr hnm M w ls hl
  have hx := M.1.1
  have hb := M.1.2.1
  have inX4 : ∀ w ∈ wsX40, w ∈ wsX4_expired := by decide +kernel
  have f121 : Cond.fieldLink RX4 121 RX4 "expiredSum" "I" ∈ wsX4_expired := by decide +kernel
  have hl : lv_has ls 3 [(0, .ref (ad 7)), (1, .int (nI k)), (2, .int (nI d))] := hl
  refine lv_aload_n hx hb dX4_expired_0 rfl (lv_at hl 0 rfl) ?_
  refine lv_iload_n hx hb dX4_expired_1 rfl (lv_at hl 1 rfl) ?_
  refine lv_iload_n hx hb dX4_expired_2 rfl (lv_at hl 2 rfl) ?_
  refine mx_Vi M w (kX4_isGone l D cy C ad e s.heap.size k d hB hM hk hd) (cwV 2 M.1.2.2.2.2 gX4_expired_X4_isGone rfl rfl rfl (by decide +kernel) ⟨Nat.le_of_ble_eq_true rfl, Nat.le_of_ble_eq_true rfl⟩) (mo_rec M w (hB 7 (by decide)) (g := G cy ad e) (sh_7 cy ad (e 7)) rfl) rfl hl.1 rfl (Nat.le_of_ble_eq_true rfl) dX4_expired_3 ⟨by decide, by decide⟩ (fun r3 u1 H locs hp1 w => ?_)
  obtain ⟨rfl, rfl⟩ := hp1
  refine mi_if_eq hx hb (bt_lt _) 16 dX4_expired_6 (by decide) (fun h6 => ?_) (fun h6 => ?_)
  · refine lv_iconst (v := nI 0) hx hb dX4_expired_16 (by decide) ?_
    exact mx_iret M w hr (v := (nI 0)) ⟨fun z => absurd z (of_decide_eq_false (bt_f h6)), rfl⟩ (by decide) (by decide) dX4_expired_17
  · have q1 := (of_decide_eq_true (bt_t h6))
    rw [gn_1 q1] at w
    refine lv_aload_n hx hb dX4_expired_9 rfl (lv_at hl 0 rfl) ?_
    refine ex_get M w (hB 7 (by decide)) (sh_7 cy ad ((goM (es e 7 0 0) k (d + 1 - e 8 k)) 7)) rfl inX4 27 (by decide) f121 rfl dX4_expired_10 ?_
    refine lv_goto (tgt := 17) hx hb dX4_expired_13 (by decide) ?_
    exact mx_iret M w hr (v := (nI ((goM (es e 7 0 0) k (d + 1 - e 8 k)) 7 27))) ⟨fun _ => rfl, by rw [gn_1 q1]⟩ (by decide) (by decide) dX4_expired_17

set_option maxHeartbeats 4000000 in
set_option maxRecDepth 100000 in
/-- LeavebankModel.paid -/
theorem kX4_paid (l : Launch) (D : va_G) (cy : Nat → ClassId) (C : List Nat) (ad : Nat → Nat) (e : Nat → Nat → Nat) (sz : Nat) (k d : Nat) (hB : ∀ k, k < 26 → k ∈ C) (hM : MW e) (hk : k < 4294967296) (hd : d < 4294967296) : Met l yX4_paid wsX4_paid ({ frames := 7, cells := 0, slots := 0, locals := 164 } : Room) (PreM D cy (C, ad, G cy ad e) sz [.ref (ad 7), .int (nI k), .int (nI d)]) (va_Qi (fun (r : Int32) (u : WT) => (k < e 7 2 ∧ d ≤ 3600 → r = nI ((goM (es e 7 0 0) k (d + 1 - e 8 k)) 7 28)) ∧ u = (C, ad, G cy ad (gnM e k d))) (WB D cy (AW (C, ad, G cy ad e) sz)) (AW (C, ad, G cy ad e) sz)) 0 0 (AW (C, ad, G cy ad e) sz) := by
  refine mx_start (cc := cX4_paid) (maxL := 3) (ret := (some .int)) (by decide) rfl (Nat.le_of_ble_eq_true rfl) ?_
  intro p9 e9 s m args below meth c hsz hr hnm M w ls hl
  have hx := M.1.1
  have hb := M.1.2.1
  have inX4 : ∀ w ∈ wsX40, w ∈ wsX4_paid := by decide +kernel
  have f130 : Cond.fieldLink RX4 130 RX4 "paidSum" "I" ∈ wsX4_paid := by decide +kernel
  have hl : lv_has ls 3 [(0, .ref (ad 7)), (1, .int (nI k)), (2, .int (nI d))] := hl
  refine lv_aload_n hx hb dX4_paid_0 rfl (lv_at hl 0 rfl) ?_
  refine lv_iload_n hx hb dX4_paid_1 rfl (lv_at hl 1 rfl) ?_
  refine lv_iload_n hx hb dX4_paid_2 rfl (lv_at hl 2 rfl) ?_
  refine mx_Vi M w (kX4_isGone l D cy C ad e s.heap.size k d hB hM hk hd) (cwV 2 M.1.2.2.2.2 gX4_paid_X4_isGone rfl rfl rfl (by decide +kernel) ⟨Nat.le_of_ble_eq_true rfl, Nat.le_of_ble_eq_true rfl⟩) (mo_rec M w (hB 7 (by decide)) (g := G cy ad e) (sh_7 cy ad (e 7)) rfl) rfl hl.1 rfl (Nat.le_of_ble_eq_true rfl) dX4_paid_3 ⟨by decide, by decide⟩ (fun r3 u1 H locs hp1 w => ?_)
  obtain ⟨rfl, rfl⟩ := hp1
  refine mi_if_eq hx hb (bt_lt _) 16 dX4_paid_6 (by decide) (fun h6 => ?_) (fun h6 => ?_)
  · refine lv_iconst (v := nI 0) hx hb dX4_paid_16 (by decide) ?_
    exact mx_iret M w hr (v := (nI 0)) ⟨fun z => absurd z (of_decide_eq_false (bt_f h6)), rfl⟩ (by decide) (by decide) dX4_paid_17
  · have q1 := (of_decide_eq_true (bt_t h6))
    rw [gn_1 q1] at w
    refine lv_aload_n hx hb dX4_paid_9 rfl (lv_at hl 0 rfl) ?_
    refine ex_get M w (hB 7 (by decide)) (sh_7 cy ad ((goM (es e 7 0 0) k (d + 1 - e 8 k)) 7)) rfl inX4 28 (by decide) f130 rfl dX4_paid_10 ?_
    refine lv_goto (tgt := 17) hx hb dX4_paid_13 (by decide) ?_
    exact mx_iret M w hr (v := (nI ((goM (es e 7 0 0) k (d + 1 - e 8 k)) 7 28))) ⟨fun _ => rfl, by rw [gn_1 q1]⟩ (by decide) (by decide) dX4_paid_17

set_option maxHeartbeats 4000000 in
set_option maxRecDepth 100000 in
/-- LeavebankModel.borrowed -/
theorem kX4_borrowed (l : Launch) (D : va_G) (cy : Nat → ClassId) (C : List Nat) (ad : Nat → Nat) (e : Nat → Nat → Nat) (sz : Nat) (k d : Nat) (hB : ∀ k, k < 26 → k ∈ C) (hM : MW e) (hk : k < 4294967296) (hd : d < 4294967296) : Met l yX4_borrowed wsX4_borrowed ({ frames := 7, cells := 0, slots := 0, locals := 164 } : Room) (PreM D cy (C, ad, G cy ad e) sz [.ref (ad 7), .int (nI k), .int (nI d)]) (va_Qi (fun (r : Int32) (u : WT) => (k < e 7 2 ∧ d ≤ 3600 → r = nI ((goM (es e 7 0 0) k (d + 1 - e 8 k)) 7 24)) ∧ u = (C, ad, G cy ad (gnM e k d))) (WB D cy (AW (C, ad, G cy ad e) sz)) (AW (C, ad, G cy ad e) sz)) 0 0 (AW (C, ad, G cy ad e) sz) := by
  refine mx_start (cc := cX4_borrowed) (maxL := 3) (ret := (some .int)) (by decide) rfl (Nat.le_of_ble_eq_true rfl) ?_
  intro p9 e9 s m args below meth c hsz hr hnm M w ls hl
  have hx := M.1.1
  have hb := M.1.2.1
  have inX4 : ∀ w ∈ wsX40, w ∈ wsX4_borrowed := by decide +kernel
  have f94 : Cond.fieldLink RX4 94 RX4 "owed" "I" ∈ wsX4_borrowed := by decide +kernel
  have hl : lv_has ls 3 [(0, .ref (ad 7)), (1, .int (nI k)), (2, .int (nI d))] := hl
  refine lv_aload_n hx hb dX4_borrowed_0 rfl (lv_at hl 0 rfl) ?_
  refine lv_iload_n hx hb dX4_borrowed_1 rfl (lv_at hl 1 rfl) ?_
  refine lv_iload_n hx hb dX4_borrowed_2 rfl (lv_at hl 2 rfl) ?_
  refine mx_Vi M w (kX4_isGone l D cy C ad e s.heap.size k d hB hM hk hd) (cwV 2 M.1.2.2.2.2 gX4_borrowed_X4_isGone rfl rfl rfl (by decide +kernel) ⟨Nat.le_of_ble_eq_true rfl, Nat.le_of_ble_eq_true rfl⟩) (mo_rec M w (hB 7 (by decide)) (g := G cy ad e) (sh_7 cy ad (e 7)) rfl) rfl hl.1 rfl (Nat.le_of_ble_eq_true rfl) dX4_borrowed_3 ⟨by decide, by decide⟩ (fun r3 u1 H locs hp1 w => ?_)
  obtain ⟨rfl, rfl⟩ := hp1
  refine mi_if_eq hx hb (bt_lt _) 16 dX4_borrowed_6 (by decide) (fun h6 => ?_) (fun h6 => ?_)
  · refine lv_iconst (v := nI 0) hx hb dX4_borrowed_16 (by decide) ?_
    exact mx_iret M w hr (v := (nI 0)) ⟨fun z => absurd z (of_decide_eq_false (bt_f h6)), rfl⟩ (by decide) (by decide) dX4_borrowed_17
  · have q1 := (of_decide_eq_true (bt_t h6))
    rw [gn_1 q1] at w
    refine lv_aload_n hx hb dX4_borrowed_9 rfl (lv_at hl 0 rfl) ?_
    refine ex_get M w (hB 7 (by decide)) (sh_7 cy ad ((goM (es e 7 0 0) k (d + 1 - e 8 k)) 7)) rfl inX4 24 (by decide) f94 rfl dX4_borrowed_10 ?_
    refine lv_goto (tgt := 17) hx hb dX4_borrowed_13 (by decide) ?_
    exact mx_iret M w hr (v := (nI ((goM (es e 7 0 0) k (d + 1 - e 8 k)) 7 24))) ⟨fun _ => rfl, by rw [gn_1 q1]⟩ (by decide) (by decide) dX4_borrowed_17

set_option maxHeartbeats 4000000 in
set_option maxRecDepth 100000 in
/-- LeavebankModel.unpaid -/
theorem kX4_unpaid (l : Launch) (D : va_G) (cy : Nat → ClassId) (C : List Nat) (ad : Nat → Nat) (e : Nat → Nat → Nat) (sz : Nat) (k d : Nat) (hB : ∀ k, k < 26 → k ∈ C) (hM : MW e) (hk : k < 4294967296) (hd : d < 4294967296) : Met l yX4_unpaid wsX4_unpaid ({ frames := 7, cells := 0, slots := 0, locals := 164 } : Room) (PreM D cy (C, ad, G cy ad e) sz [.ref (ad 7), .int (nI k), .int (nI d)]) (va_Qi (fun (r : Int32) (u : WT) => (k < e 7 2 ∧ d ≤ 3600 → r = nI ((goM (es e 7 0 0) k (d + 1 - e 8 k)) 7 29)) ∧ u = (C, ad, G cy ad (gnM e k d))) (WB D cy (AW (C, ad, G cy ad e) sz)) (AW (C, ad, G cy ad e) sz)) 0 0 (AW (C, ad, G cy ad e) sz) := by
  refine mx_start (cc := cX4_unpaid) (maxL := 3) (ret := (some .int)) (by decide) rfl (Nat.le_of_ble_eq_true rfl) ?_
  intro p9 e9 s m args below meth c hsz hr hnm M w ls hl
  have hx := M.1.1
  have hb := M.1.2.1
  have inX4 : ∀ w ∈ wsX40, w ∈ wsX4_unpaid := by decide +kernel
  have f107 : Cond.fieldLink RX4 107 RX4 "unpaidDays" "I" ∈ wsX4_unpaid := by decide +kernel
  have hl : lv_has ls 3 [(0, .ref (ad 7)), (1, .int (nI k)), (2, .int (nI d))] := hl
  refine lv_aload_n hx hb dX4_unpaid_0 rfl (lv_at hl 0 rfl) ?_
  refine lv_iload_n hx hb dX4_unpaid_1 rfl (lv_at hl 1 rfl) ?_
  refine lv_iload_n hx hb dX4_unpaid_2 rfl (lv_at hl 2 rfl) ?_
  refine mx_Vi M w (kX4_isGone l D cy C ad e s.heap.size k d hB hM hk hd) (cwV 2 M.1.2.2.2.2 gX4_unpaid_X4_isGone rfl rfl rfl (by decide +kernel) ⟨Nat.le_of_ble_eq_true rfl, Nat.le_of_ble_eq_true rfl⟩) (mo_rec M w (hB 7 (by decide)) (g := G cy ad e) (sh_7 cy ad (e 7)) rfl) rfl hl.1 rfl (Nat.le_of_ble_eq_true rfl) dX4_unpaid_3 ⟨by decide, by decide⟩ (fun r3 u1 H locs hp1 w => ?_)
  obtain ⟨rfl, rfl⟩ := hp1
  refine mi_if_eq hx hb (bt_lt _) 16 dX4_unpaid_6 (by decide) (fun h6 => ?_) (fun h6 => ?_)
  · refine lv_iconst (v := nI 0) hx hb dX4_unpaid_16 (by decide) ?_
    exact mx_iret M w hr (v := (nI 0)) ⟨fun z => absurd z (of_decide_eq_false (bt_f h6)), rfl⟩ (by decide) (by decide) dX4_unpaid_17
  · have q1 := (of_decide_eq_true (bt_t h6))
    rw [gn_1 q1] at w
    refine lv_aload_n hx hb dX4_unpaid_9 rfl (lv_at hl 0 rfl) ?_
    refine ex_get M w (hB 7 (by decide)) (sh_7 cy ad ((goM (es e 7 0 0) k (d + 1 - e 8 k)) 7)) rfl inX4 29 (by decide) f107 rfl dX4_unpaid_10 ?_
    refine lv_goto (tgt := 17) hx hb dX4_unpaid_13 (by decide) ?_
    exact mx_iret M w hr (v := (nI ((goM (es e 7 0 0) k (d + 1 - e 8 k)) 7 29))) ⟨fun _ => rfl, by rw [gn_1 q1]⟩ (by decide) (by decide) dX4_unpaid_17

set_option maxHeartbeats 4000000 in
set_option maxRecDepth 100000 in
/-- LeavebankModel.nextExpiry -/
theorem kX4_nextExpiry (l : Launch) (D : va_G) (cy : Nat → ClassId) (C : List Nat) (ad : Nat → Nat) (e : Nat → Nat → Nat) (sz : Nat) (k d : Nat) (hB : ∀ k, k < 26 → k ∈ C) (hM : MW e) (hk : k < 4294967296) (hd : d < 4294967296) : Met l yX4_nextExpiry wsX4_nextExpiry ({ frames := 7, cells := 0, slots := 0, locals := 164 } : Room) (PreM D cy (C, ad, G cy ad e) sz [.ref (ad 7), .int (nI k), .int (nI d)]) (va_Qi (fun (r : Int32) (u : WT) => (k < e 7 2 ∧ d ≤ 3600 → r = fxR (goM (es e 7 0 0) k (d + 1 - e 8 k)) 11) ∧ u = (C, ad, G cy ad (gnM e k d))) (WB D cy (AW (C, ad, G cy ad e) sz)) (AW (C, ad, G cy ad e) sz)) 0 0 (AW (C, ad, G cy ad e) sz) := by
  refine mx_start (cc := cX4_nextExpiry) (maxL := 5) (ret := (some .int)) (by decide) rfl (Nat.le_of_ble_eq_true rfl) ?_
  intro p9 e9 s m args below meth c hsz hr hnm M w ls hl
  have hx := M.1.1
  have hb := M.1.2.1
  have inX4 : ∀ w ∈ wsX40, w ∈ wsX4_nextExpiry := by decide +kernel
  have f62 : Cond.fieldLink RX4 62 RX4 "pool" "[I" ∈ wsX4_nextExpiry := by decide +kernel
  have hMT : MW (es e 7 0 0) := hM.thr 0
  have cut17 : ∀ (n9 : Nat) (j n2 : Nat) (fd : Int32) (hj : j + n2 = 11) (hfd : fd = fxR (goM (es e 7 0 0) k (d + 1 - e 8 k)) n2) (hpl : ∀ y, y < 11 → (goM (es e 7 0 0) k (d + 1 - e 8 k)) 25 y ≤ 8000000) (q1 : k < e 7 2 ∧ d ≤ 3600) (_hm : j < n9) (H : Heap) (locs : List Loc), MO D (AW (C, ad, G cy ad e) sz) s.heap (C, ad, G cy ad (goM (es e 7 0 0) k (d + 1 - e 8 k))) H locs → ∀ (ls : Array Slot), lv_has ls 5 [(0, .ref (ad 7)), (3, .int fd), (4, .int (nI ((j + 4294967295) % 4294967296)))] → W p9 l e9 ({ frames := 7, cells := 0, slots := 0, locals := 164 } : Room) s m args below meth c H locs 0 0 (MQ below (va_Qi (fun (r : Int32) (u : WT) => (k < e 7 2 ∧ d ≤ 3600 → r = fxR (goM (es e 7 0 0) k (d + 1 - e 8 k)) 11) ∧ u = (C, ad, G cy ad (gnM e k d))) (WB D cy (AW (C, ad, G cy ad e) sz)) (AW (C, ad, G cy ad e) sz)) args s 0 0 (AW (C, ad, G cy ad e) sz)) (F0 m 17 ls []) := by
    intro n9
    induction n9 with
    | zero => intro j n2 fd hj hfd hpl q1 _hm; exact absurd _hm (Nat.not_lt_zero _)
    | succ n9 ih =>
      intro j n2 fd hj hfd hpl q1 _hm H locs w ls hl
      refine lv_iload hx hb dX4_nextExpiry_17 (lv_at hl 2 rfl) ?_
      refine mw_if_lt hx hb (by omega) 53 dX4_nextExpiry_19 (by decide) (fun h19 => ?_) (fun h19 => ?_)
      · refine lv_iload_n hx hb dX4_nextExpiry_53 rfl (lv_at hl 1 rfl) ?_
        exact mx_iret M w hr (v := fd) ⟨fun _ => by rw [hfd, show n2 = 11 by omega], by rw [gn_1 q1]⟩ (by decide) (by decide) dX4_nextExpiry_54
      · have hj9 : (j + 4294967295) % 4294967296 = j - 1 := by omega
        rw [hj9] at hl
        have q3 := hpl (j - 1) (by omega)
        refine lv_aload_n hx hb dX4_nextExpiry_22 rfl (lv_at hl 0 rfl) ?_
        refine ex_get M w (hB 7 (by decide)) (sh_7 cy ad ((goM (es e 7 0 0) k (d + 1 - e 8 k)) 7)) rfl inX4 23 (by decide) f62 rfl dX4_nextExpiry_23 ?_
        refine lv_iload hx hb dX4_nextExpiry_26 (lv_at hl 2 rfl) ?_
        refine ex_iald M w (hB 25 (by decide)) (sh_25 cy ad) (by omega) (by decide) rfl dX4_nextExpiry_28 ?_
        refine mi_if_le hx hb (by omega) 45 dX4_nextExpiry_29 (by decide) (fun h29 => ?_) (fun h29 => ?_)
        · refine lv_iload_n hx hb dX4_nextExpiry_45 rfl (lv_at hl 1 rfl) ?_
          refine lv_istore_n (lv' := [(3, .int fd), (0, .ref (ad 7)), (4, .int (nI (j - 1)))]) hx hb dX4_nextExpiry_46 rfl hl (by decide) rfl (fun ls hl => ?_)
          refine lv_iinc (v := nI (((j - 1) + 4294967295) % 4294967296)) (lv' := [(4, .int (nI (((j - 1) + 4294967295) % 4294967296))), (3, .int fd), (0, .ref (ad 7))]) hx hb dX4_nextExpiry_47 hl (k := 2) rfl (nI_dec _) (by decide) rfl (fun ls hl => ?_)
          refine lv_goto (tgt := 17) hx hb dX4_nextExpiry_50 (by decide) ?_
          exact ih (j - 1) (n2 + 1) fd (by omega) (by first | exact hfd.trans (fxR_0 hj h29) | exact fxR_1 hj h29) hpl q1  (by omega) _ _ w ls (lv_sub hl [2, 1, 0] rfl)
        · refine lv_sipush (v := nI 360) hx hb dX4_nextExpiry_32 (by decide) ?_
          refine lv_iload hx hb dX4_nextExpiry_35 (lv_at hl 2 rfl) ?_
          refine mi_mul hx hb dX4_nextExpiry_37 ?_
          refine lv_sipush (v := nI 450) hx hb dX4_nextExpiry_38 (by decide) ?_
          refine mi_add hx hb dX4_nextExpiry_41 ?_
          refine lv_goto (tgt := 46) hx hb dX4_nextExpiry_42 (by decide) ?_
          refine lv_istore_n (lv' := [(3, .int (nI ((360 * (j - 1)) + 450))), (0, .ref (ad 7)), (4, .int (nI (j - 1)))]) hx hb dX4_nextExpiry_46 rfl hl (by decide) rfl (fun ls hl => ?_)
          refine lv_iinc (v := nI (((j - 1) + 4294967295) % 4294967296)) (lv' := [(4, .int (nI (((j - 1) + 4294967295) % 4294967296))), (3, .int (nI ((360 * (j - 1)) + 450))), (0, .ref (ad 7))]) hx hb dX4_nextExpiry_47 hl (k := 2) rfl (nI_dec _) (by decide) rfl (fun ls hl => ?_)
          refine lv_goto (tgt := 17) hx hb dX4_nextExpiry_50 (by decide) ?_
          exact ih (j - 1) (n2 + 1) (nI (360 * (j - 1) + 450)) (by omega) (by first | exact hfd.trans (fxR_0 hj h29) | exact fxR_1 hj h29) hpl q1  (by omega) _ _ w ls (lv_sub hl [2, 1, 0] rfl)
  have hl : lv_has ls 5 [(0, .ref (ad 7)), (1, .int (nI k)), (2, .int (nI d))] := hl
  refine lv_aload_n hx hb dX4_nextExpiry_0 rfl (lv_at hl 0 rfl) ?_
  refine lv_iload_n hx hb dX4_nextExpiry_1 rfl (lv_at hl 1 rfl) ?_
  refine lv_iload_n hx hb dX4_nextExpiry_2 rfl (lv_at hl 2 rfl) ?_
  refine mx_Vi M w (kX4_isGone l D cy C ad e s.heap.size k d hB hM hk hd) (cwV 2 M.1.2.2.2.2 gX4_nextExpiry_X4_isGone rfl rfl rfl (by decide +kernel) ⟨Nat.le_of_ble_eq_true rfl, Nat.le_of_ble_eq_true rfl⟩) (mo_rec M w (hB 7 (by decide)) (g := G cy ad e) (sh_7 cy ad (e 7)) rfl) rfl hl.1 rfl (Nat.le_of_ble_eq_true rfl) dX4_nextExpiry_3 ⟨by decide, by decide⟩ (fun r3 u1 H locs hp1 w => ?_)
  obtain ⟨rfl, rfl⟩ := hp1
  refine mi_if_ne hx hb (bt_lt _) 11 dX4_nextExpiry_6 (by decide) (fun h6 => ?_) (fun h6 => ?_)
  · have q1 := (of_decide_eq_true (bt_t h6))
    rw [gn_1 q1] at w
    have hp9 := hM.2.2.2.2 k q1.1
    have hgk := GM_go hMT (hMT.2.2.2.2 k q1.1) (d + 1 - e 8 k)
    have hpl : ∀ y, y < 11 → (goM (es e 7 0 0) k (d + 1 - e 8 k)) 25 y ≤ 8000000 := fun y hy => by have z := hgk.2.2.2 y hy; omega
    refine lv_iconst (v := (-1)) hx hb dX4_nextExpiry_11 (by decide) ?_
    refine lv_istore_n (lv' := [(3, .int (-1)), (0, .ref (ad 7)), (1, .int (nI k)), (2, .int (nI d))]) hx hb dX4_nextExpiry_12 rfl hl (by decide) rfl (fun ls hl => ?_)
    refine lv_bipush (v := nI 10) hx hb dX4_nextExpiry_13 (by decide) ?_
    refine lv_istore (lv' := [(4, .int (nI 10)), (3, .int (-1)), (0, .ref (ad 7)), (1, .int (nI k)), (2, .int (nI d))]) hx hb dX4_nextExpiry_15 hl (by decide) rfl (fun ls hl => ?_)
    exact cut17 (11 + 1) 11 0 (-1) rfl rfl hpl q1  (by omega) _ _ w ls (lv_sub hl [2, 1, 0] rfl)
  · refine lv_iconst (v := nI 0) hx hb dX4_nextExpiry_9 (by decide) ?_
    exact mx_iret M w hr (v := (nI 0)) ⟨fun z => absurd z (of_decide_eq_false (bt_f h6)), rfl⟩ (by decide) (by decide) dX4_nextExpiry_10
