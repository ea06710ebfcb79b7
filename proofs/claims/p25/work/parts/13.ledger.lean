set_option maxHeartbeats 4000000 in
set_option maxRecDepth 100000 in
/-- Ledger.clear() -/
theorem kX0_clear (l : Launch) (D : va_G) (cy : Nat → ClassId) (C : List Nat) (ad : Nat → Nat) (e : Nat → Nat → Nat) (sz : Nat)  (hB : ∀ k, k < 13 → k ∈ C) : Met l yX0_clear wsX0_clear ({ frames := 0, cells := 0, slots := 0, locals := 0 } : Room) (PreM D cy (C, ad, G cy ad e) sz [.ref (ad 3)]) (va_Qv (fun (u : WT) => u = (C, ad, G cy ad (clrC e))) (WB D cy (AW (C, ad, G cy ad e) sz)) (AW (C, ad, G cy ad e) sz)) 0 0 (AW (C, ad, G cy ad e) sz) := by
  refine mx_start (cc := cX0_clear) (maxL := 1) (ret := none) (by decide) rfl (Nat.le_of_ble_eq_true rfl) ?_
  intro p9 e9 s m args below meth c hsz hr hnm M w ls hl
  have hx := M.1.1
  have hb := M.1.2.1
  have inX0 : ∀ w ∈ wsX00, w ∈ wsX0_clear := by decide +kernel
  have f57 : Cond.fieldLink RX0 57 RX0 "oldestLot" "I" ∈ wsX0_clear := by decide +kernel
  have f60 : Cond.fieldLink RX0 60 RX0 "lotCount" "I" ∈ wsX0_clear := by decide +kernel
  have f63 : Cond.fieldLink RX0 63 RX0 "nextPayout" "I" ∈ wsX0_clear := by decide +kernel
  have f66 : Cond.fieldLink RX0 66 RX0 "debt" "I" ∈ wsX0_clear := by decide +kernel
  have f69 : Cond.fieldLink RX0 69 RX0 "sumEarned" "I" ∈ wsX0_clear := by decide +kernel
  have f72 : Cond.fieldLink RX0 72 RX0 "sumTaken" "I" ∈ wsX0_clear := by decide +kernel
  have f75 : Cond.fieldLink RX0 75 RX0 "sumExpired" "I" ∈ wsX0_clear := by decide +kernel
  have f78 : Cond.fieldLink RX0 78 RX0 "sumPaid" "I" ∈ wsX0_clear := by decide +kernel
  have f81 : Cond.fieldLink RX0 81 RX0 "unpaidDays" "I" ∈ wsX0_clear := by decide +kernel
  have hl : lv_has ls 1 [(0, .ref (ad 3))] := hl
  refine lv_aload_n hx hb dX0_clear_0 rfl (lv_at hl 0 rfl) ?_
  refine lv_iconst (v := nI 0) hx hb dX0_clear_1 (by decide) ?_
  refine ex_put M w (hB 3 (by decide)) (sh_3 cy ad (e 3)) rfl inX0 tyX0 tyX0_ok nmX0 2 (by decide) f60 rfl (v := 0) rfl rfl (Nat.le_of_ble_eq_true rfl) (sh_3 cy ad _) dX0_clear_2 (fun H locs w => ?_)
  refine lv_aload_n hx hb dX0_clear_5 rfl (lv_at hl 0 rfl) ?_
  refine lv_iconst (v := nI 0) hx hb dX0_clear_6 (by decide) ?_
  refine ex_put M w (hB 3 (by decide)) (sh_3 cy ad ((es e 3 2 0) 3)) rfl inX0 tyX0 tyX0_ok nmX0 3 (by decide) f57 rfl (v := 0) rfl rfl (Nat.le_of_ble_eq_true rfl) (sh_3 cy ad _) dX0_clear_7 (fun H locs w => ?_)
  refine lv_aload_n hx hb dX0_clear_10 rfl (lv_at hl 0 rfl) ?_
  refine lv_iconst (v := nI 0) hx hb dX0_clear_11 (by decide) ?_
  refine ex_put M w (hB 3 (by decide)) (sh_3 cy ad ((es (es e 3 2 0) 3 3 0) 3)) rfl inX0 tyX0 tyX0_ok nmX0 4 (by decide) f63 rfl (v := 0) rfl rfl (Nat.le_of_ble_eq_true rfl) (sh_3 cy ad _) dX0_clear_12 (fun H locs w => ?_)
  refine lv_aload_n hx hb dX0_clear_15 rfl (lv_at hl 0 rfl) ?_
  refine lv_iconst (v := nI 0) hx hb dX0_clear_16 (by decide) ?_
  refine ex_put M w (hB 3 (by decide)) (sh_3 cy ad ((es (es (es e 3 2 0) 3 3 0) 3 4 0) 3)) rfl inX0 tyX0 tyX0_ok nmX0 5 (by decide) f66 rfl (v := 0) rfl rfl (Nat.le_of_ble_eq_true rfl) (sh_3 cy ad _) dX0_clear_17 (fun H locs w => ?_)
  refine lv_aload_n hx hb dX0_clear_20 rfl (lv_at hl 0 rfl) ?_
  refine lv_iconst (v := nI 0) hx hb dX0_clear_21 (by decide) ?_
  refine ex_put M w (hB 3 (by decide)) (sh_3 cy ad ((es (es (es (es e 3 2 0) 3 3 0) 3 4 0) 3 5 0) 3)) rfl inX0 tyX0 tyX0_ok nmX0 6 (by decide) f69 rfl (v := 0) rfl rfl (Nat.le_of_ble_eq_true rfl) (sh_3 cy ad _) dX0_clear_22 (fun H locs w => ?_)
  refine lv_aload_n hx hb dX0_clear_25 rfl (lv_at hl 0 rfl) ?_
  refine lv_iconst (v := nI 0) hx hb dX0_clear_26 (by decide) ?_
  refine ex_put M w (hB 3 (by decide)) (sh_3 cy ad ((es (es (es (es (es e 3 2 0) 3 3 0) 3 4 0) 3 5 0) 3 6 0) 3)) rfl inX0 tyX0 tyX0_ok nmX0 7 (by decide) f72 rfl (v := 0) rfl rfl (Nat.le_of_ble_eq_true rfl) (sh_3 cy ad _) dX0_clear_27 (fun H locs w => ?_)
  refine lv_aload_n hx hb dX0_clear_30 rfl (lv_at hl 0 rfl) ?_
  refine lv_iconst (v := nI 0) hx hb dX0_clear_31 (by decide) ?_
  refine ex_put M w (hB 3 (by decide)) (sh_3 cy ad ((es (es (es (es (es (es e 3 2 0) 3 3 0) 3 4 0) 3 5 0) 3 6 0) 3 7 0) 3)) rfl inX0 tyX0 tyX0_ok nmX0 8 (by decide) f75 rfl (v := 0) rfl rfl (Nat.le_of_ble_eq_true rfl) (sh_3 cy ad _) dX0_clear_32 (fun H locs w => ?_)
  refine lv_aload_n hx hb dX0_clear_35 rfl (lv_at hl 0 rfl) ?_
  refine lv_iconst (v := nI 0) hx hb dX0_clear_36 (by decide) ?_
  refine ex_put M w (hB 3 (by decide)) (sh_3 cy ad ((es (es (es (es (es (es (es e 3 2 0) 3 3 0) 3 4 0) 3 5 0) 3 6 0) 3 7 0) 3 8 0) 3)) rfl inX0 tyX0 tyX0_ok nmX0 9 (by decide) f78 rfl (v := 0) rfl rfl (Nat.le_of_ble_eq_true rfl) (sh_3 cy ad _) dX0_clear_37 (fun H locs w => ?_)
  refine lv_aload_n hx hb dX0_clear_40 rfl (lv_at hl 0 rfl) ?_
  refine lv_iconst (v := nI 0) hx hb dX0_clear_41 (by decide) ?_
  refine ex_put M w (hB 3 (by decide)) (sh_3 cy ad ((es (es (es (es (es (es (es (es e 3 2 0) 3 3 0) 3 4 0) 3 5 0) 3 6 0) 3 7 0) 3 8 0) 3 9 0) 3)) rfl inX0 tyX0 tyX0_ok nmX0 10 (by decide) f81 rfl (v := 0) rfl rfl (Nat.le_of_ble_eq_true rfl) (sh_3 cy ad _) dX0_clear_42 (fun H locs w => ?_)
  exact mx_vret M w hr rfl (by decide) (by decide) dX0_clear_45

set_option maxHeartbeats 4000000 in
set_option maxRecDepth 100000 in
/-- Ledger.isDayOfEarning(person, day) -/
theorem kX0_isDayOfEarning (l : Launch) (D : va_G) (cy : Nat → ClassId) (C : List Nat) (ad : Nat → Nat) (e : Nat → Nat → Nat) (sz : Nat) (p dy : Nat) (hp : p < 8) (hC : ∀ k, k < 9 → PB p + k ∈ C) (hf : e (PB p) 0 ≤ 3600) (hd : dy ≤ 3600) : Met l yX0_isDayOfEarning wsX0_isDayOfEarning ({ frames := 0, cells := 0, slots := 0, locals := 0 } : Room) (PreM D cy (C, ad, G cy ad e) sz [.ref (ad (PB p)), .int (nI dy)]) (va_Qi (fun (r : Int32) (u : WT) => r = nI (earnsAt (e (PB p) 0) dy).toNat ∧ u = (C, ad, G cy ad e)) (WB D cy (AW (C, ad, G cy ad e) sz)) (AW (C, ad, G cy ad e) sz)) 0 0 (AW (C, ad, G cy ad e) sz) := by
  refine mx_start (cc := cX0_isDayOfEarning) (maxL := 2) (ret := (some .boolean)) (by decide) rfl (Nat.le_of_ble_eq_true rfl) ?_
  intro p9 e9 s m args below meth c hsz hr hnm M w ls hl
  have hx := M.1.1
  have hb := M.1.2.1
  have inX1 : ∀ w ∈ wsX10, w ∈ wsX0_isDayOfEarning := by decide +kernel
  have f21 : Cond.fieldLink RX0 21 RX1 "firstDay" "I" ∈ wsX0_isDayOfEarning := by decide +kernel
  have hl : lv_has ls 2 [(0, .ref (ad (PB p))), (1, .int (nI dy))] := hl
  refine lv_iload_n hx hb dX0_isDayOfEarning_0 rfl (lv_at hl 1 rfl) ?_
  refine lv_bipush (v := nI 30) hx hb dX0_isDayOfEarning_1 (by decide) ?_
  refine mi_rem hx hb (by omega) (by decide) (by decide) dX0_isDayOfEarning_3 ?_
  refine mi_if_ne hx hb (by omega) 22 dX0_isDayOfEarning_4 (by decide) (fun h4 => ?_) (fun h4 => ?_)
  · refine lv_iconst (v := nI 0) hx hb dX0_isDayOfEarning_22 (by decide) ?_
    exact mx_zret M w hr (v := (nI 0)) (by first | exact Or.inl rfl | exact Or.inr rfl) ⟨bt_0 (by unfold earnsAt; exact decide_eq_false (by omega)), rfl⟩ (by decide) (by decide) dX0_isDayOfEarning_23
  · refine lv_iload_n hx hb dX0_isDayOfEarning_7 rfl (lv_at hl 1 rfl) ?_
    refine lv_bipush (v := nI 30) hx hb dX0_isDayOfEarning_8 (by decide) ?_
    refine lv_isub hx hb dX0_isDayOfEarning_10 ?_
    refine lv_aload_n hx hb dX0_isDayOfEarning_11 rfl (lv_at hl 0 rfl) ?_
    refine ex_get M w (show (PB p) ∈ C from hC 0 (by decide)) (sh_P0 cy ad (e (PB p)) hp) rfl inX1 0 (by decide) f21 rfl dX0_isDayOfEarning_12 ?_
    refine lv_icmp_lt (tgt := 22) hx hb dX0_isDayOfEarning_15 (by decide) (fun h15 => ?_) (fun h15 => ?_)
    · refine lv_iconst (v := nI 0) hx hb dX0_isDayOfEarning_22 (by decide) ?_
      exact mx_zret M w hr (v := (nI 0)) (by first | exact Or.inl rfl | exact Or.inr rfl) ⟨bt_0 (by unfold earnsAt; exact decide_eq_false (by have z := (sub_lt (by omega) (by decide) (by omega)).mp h15; omega)), rfl⟩ (by decide) (by decide) dX0_isDayOfEarning_23
    · refine lv_iconst (v := nI 1) hx hb dX0_isDayOfEarning_18 (by decide) ?_
      refine lv_goto (tgt := 23) hx hb dX0_isDayOfEarning_19 (by decide) ?_
      exact mx_zret M w hr (v := (nI 1)) (by first | exact Or.inl rfl | exact Or.inr rfl) ⟨bt_1 (by unfold earnsAt; exact decide_eq_true (by have z := Nat.not_lt.mp (fun z => h15 ((sub_lt (by omega) (by decide) (by omega)).mpr z)); omega)), rfl⟩ (by decide) (by decide) dX0_isDayOfEarning_23

set_option maxHeartbeats 4000000 in
set_option maxRecDepth 100000 in
/-- Ledger.pointsOfMonth(person, day) -/
theorem kX0_pointsOfMonth (l : Launch) (D : va_G) (cy : Nat → ClassId) (C : List Nat) (ad : Nat → Nat) (e : Nat → Nat → Nat) (sz : Nat) (p dy : Nat) (hp : p < 8) (hC : ∀ k, k < 9 → PB p + k ∈ C) (hP0 : P0 e p) (hCh : PCh e p) (hd : dy ≤ 3600) (hfd : e (PB p) 0 + 1 ≤ dy) : Met l yX0_pointsOfMonth wsX0_pointsOfMonth ({ frames := 1, cells := 0, slots := 0, locals := 24 } : Room) (PreM D cy (C, ad, G cy ad e) sz [.ref (ad (PB p)), .int (nI dy)]) (va_Qi (fun (r : Int32) (u : WT) => r = nI (ptsC e p dy) ∧ u = (C, ad, G cy ad e)) (WB D cy (AW (C, ad, G cy ad e) sz)) (AW (C, ad, G cy ad e) sz)) 0 0 (AW (C, ad, G cy ad e) sz) := by
  refine mx_start (cc := cX0_pointsOfMonth) (maxL := 4) (ret := (some .int)) (by decide) rfl (Nat.le_of_ble_eq_true rfl) ?_
  intro p9 e9 s m args below meth c hsz hr hnm M w ls hl
  have hx := M.1.1
  have hb := M.1.2.1
  have inX1 : ∀ w ∈ wsX10, w ∈ wsX0_pointsOfMonth := by decide +kernel
  have f21 : Cond.fieldLink RX0 21 RX1 "firstDay" "I" ∈ wsX0_pointsOfMonth := by decide +kernel
  have f90 : Cond.fieldLink RX0 90 RX1 "right" "I" ∈ wsX0_pointsOfMonth := by decide +kernel
  have k84 : Cond.methodLink RX0 84 Lib.Math.min.name ∈ wsX0_pointsOfMonth := by decide +kernel
  have k84a : Cond.static Lib.Math.min.name ∈ wsX0_pointsOfMonth := by decide +kernel
  have k84b : Cond.initialized "java/lang/Math" ∈ wsX0_pointsOfMonth := by decide +kernel
  have k84c : Cond.code Lib.Math.min.name Lib.Math.min.code 2 (some .int) ∈ wsX0_pointsOfMonth := by decide +kernel
  have hl : lv_has ls 4 [(0, .ref (ad (PB p))), (1, .int (nI dy))] := hl
  refine lv_iload_n hx hb dX0_pointsOfMonth_0 rfl (lv_at hl 1 rfl) ?_
  refine lv_aload_n hx hb dX0_pointsOfMonth_1 rfl (lv_at hl 0 rfl) ?_
  refine ex_get M w (show (PB p) ∈ C from hC 0 (by decide)) (sh_P0 cy ad (e (PB p)) hp) rfl inX1 0 (by decide) f21 rfl dX0_pointsOfMonth_2 ?_
  refine mi_sub hx hb (by omega) dX0_pointsOfMonth_5 ?_
  refine lv_sipush (v := nI 360) hx hb dX0_pointsOfMonth_6 (by decide) ?_
  refine mi_div hx hb (by omega) (by decide) (by decide) dX0_pointsOfMonth_9 ?_
  refine lv_istore_n (lv' := [(2, .int (nI ((dy - (e (PB p) 0)) / 360))), (0, .ref (ad (PB p))), (1, .int (nI dy))]) hx hb dX0_pointsOfMonth_10 rfl hl (by decide) rfl (fun ls hl => ?_)
  refine lv_iload_n hx hb dX0_pointsOfMonth_11 rfl (lv_at hl 0 rfl) ?_
  refine lv_iconst (v := nI 3) hx hb dX0_pointsOfMonth_12 (by decide) ?_
  refine mi_div hx hb (by omega) (by decide) (by decide) dX0_pointsOfMonth_13 ?_
  refine lv_iconst (v := nI 2) hx hb dX0_pointsOfMonth_14 (by decide) ?_
  refine mi_mul hx hb dX0_pointsOfMonth_15 ?_
  refine lv_bipush (v := nI 10) hx hb dX0_pointsOfMonth_16 (by decide) ?_
  refine mi_min M hl.1 k84 k84a k84b k84c (by decide) (Nat.le_of_ble_eq_true rfl) (by decide) (by decide) (by omega) (by decide) dX0_pointsOfMonth_18 ?_
  refine lv_istore_n (lv' := [(3, .int (nI (min ((((dy - (e (PB p) 0)) / 360) / 3) * 2) 10))), (2, .int (nI ((dy - (e (PB p) 0)) / 360))), (0, .ref (ad (PB p))), (1, .int (nI dy))]) hx hb dX0_pointsOfMonth_21 rfl hl (by decide) rfl (fun ls hl => ?_)
  refine lv_iconst (v := nI 2) hx hb dX0_pointsOfMonth_22 (by decide) ?_
  refine lv_aload_n hx hb dX0_pointsOfMonth_23 rfl (lv_at hl 2 rfl) ?_
  refine ex_get M w (show (PB p) ∈ C from hC 0 (by decide)) (sh_P0 cy ad (e (PB p)) hp) rfl inX1 1 (by decide) f90 rfl dX0_pointsOfMonth_24 ?_
  refine lv_iload_n hx hb dX0_pointsOfMonth_27 rfl (lv_at hl 0 rfl) ?_
  refine mi_add hx hb dX0_pointsOfMonth_28 ?_
  refine mi_mul hx hb dX0_pointsOfMonth_29 ?_
  refine lv_aload_n hx hb dX0_pointsOfMonth_30 rfl (lv_at hl 2 rfl) ?_
  refine lv_iload_n hx hb dX0_pointsOfMonth_31 rfl (lv_at hl 3 rfl) ?_
  refine lv_iconst (v := nI 1) hx hb dX0_pointsOfMonth_32 (by decide) ?_
  refine mi_sub hx hb (by omega) dX0_pointsOfMonth_33 ?_
  refine mx_Vi M w (kX1_hoursOn l D cy C ad e s.heap.size p (dy - 1) hp hC hCh (by omega)) (cwV 1 M.1.2.2.2.2 gX0_pointsOfMonth_X1_hoursOn rfl rfl rfl (by decide +kernel) ⟨Nat.le_of_ble_eq_true rfl, Nat.le_of_ble_eq_true rfl⟩) (mo_rec M w (show (PB p) ∈ C from hC 0 (by decide)) (g := G cy ad e) (sh_P0 cy ad (e (PB p)) hp) rfl) rfl hl.1 rfl (Nat.le_of_ble_eq_true rfl) dX0_pointsOfMonth_34 ⟨by decide, by decide⟩ (fun r34 u1 H locs hp1 w => ?_)
  obtain ⟨rfl, rfl⟩ := hp1
  refine mi_mul hx hb dX0_pointsOfMonth_37 ?_
  exact mx_iret M w hr (v := (nI ((2 * ((e (PB p) 1) + (min ((((dy - (e (PB p) 0)) / 360) / 3) * 2) 10))) * (hrC e p (dy - 1))))) ⟨rfl, rfl⟩ (by decide) (by decide) dX0_pointsOfMonth_38

set_option maxHeartbeats 4000000 in
set_option maxRecDepth 100000 in
/-- Ledger.expiryOf(day) -/
theorem kX0_expiryOf (l : Launch) (D : va_G) (cy : Nat → ClassId) (C : List Nat) (ad : Nat → Nat) (e : Nat → Nat → Nat) (sz : Nat) (dy : Nat) (hd : dy ≤ 3600) (hd1 : 1 ≤ dy) : Met l yX0_expiryOf wsX0_expiryOf ({ frames := 0, cells := 0, slots := 0, locals := 0 } : Room) (PreM D cy (C, ad, G cy ad e) sz [.int (nI dy)]) (va_Qi (fun (r : Int32) (u : WT) => r = nI (expC dy) ∧ u = (C, ad, G cy ad e)) (WB D cy (AW (C, ad, G cy ad e) sz)) (AW (C, ad, G cy ad e) sz)) 0 0 (AW (C, ad, G cy ad e) sz) := by
  refine mx_start (cc := cX0_expiryOf) (maxL := 2) (ret := (some .int)) (by decide) rfl (Nat.le_of_ble_eq_true rfl) ?_
  intro p9 e9 s m args below meth c hsz hr hnm M w ls hl
  have hx := M.1.1
  have hb := M.1.2.1
  have hl : lv_has ls 2 [(0, .int (nI dy))] := hl
  refine lv_iload_n hx hb dX0_expiryOf_0 rfl (lv_at hl 0 rfl) ?_
  refine lv_iconst (v := nI 1) hx hb dX0_expiryOf_1 (by decide) ?_
  refine mi_sub hx hb (by omega) dX0_expiryOf_2 ?_
  refine lv_sipush (v := nI 360) hx hb dX0_expiryOf_3 (by decide) ?_
  refine mi_div hx hb (by omega) (by decide) (by decide) dX0_expiryOf_6 ?_
  refine lv_istore_n (lv' := [(1, .int (nI ((dy - 1) / 360))), (0, .int (nI dy))]) hx hb dX0_expiryOf_7 rfl hl (by decide) rfl (fun ls hl => ?_)
  refine lv_iload_n hx hb dX0_expiryOf_8 rfl (lv_at hl 0 rfl) ?_
  refine lv_iconst (v := nI 1) hx hb dX0_expiryOf_9 (by decide) ?_
  refine mi_add hx hb dX0_expiryOf_10 ?_
  refine lv_sipush (v := nI 360) hx hb dX0_expiryOf_11 (by decide) ?_
  refine mi_mul hx hb dX0_expiryOf_14 ?_
  refine lv_bipush (v := nI 90) hx hb dX0_expiryOf_15 (by decide) ?_
  refine mi_add hx hb dX0_expiryOf_17 ?_
  exact mx_iret M w hr (v := (nI (((((dy - 1) / 360) + 1) * 360) + 90))) ⟨rfl, rfl⟩ (by decide) (by decide) dX0_expiryOf_18

set_option maxHeartbeats 4000000 in
set_option maxRecDepth 100000 in
/-- Ledger.earn(points, expiry) -/
theorem kX0_earn (l : Launch) (D : va_G) (cy : Nat → ClassId) (C : List Nat) (ad : Nat → Nat) (e : Nat → Nat → Nat) (sz : Nat) (pts ex : Nat) (hB : ∀ k, k < 13 → k ∈ C) (hLW : LW e) (hp2 : pts ≤ 1800) (hx2 : ex ≤ 10000) : Met l yX0_earn wsX0_earn ({ frames := 1, cells := 0, slots := 0, locals := 13 } : Room) (PreM D cy (C, ad, G cy ad e) sz [.ref (ad 3), .int (nI pts), .int (nI ex)]) (va_Qv (fun (u : WT) => u = (C, ad, G cy ad (earnC e pts ex))) (WB D cy (AW (C, ad, G cy ad e) sz)) (AW (C, ad, G cy ad e) sz)) 0 0 (AW (C, ad, G cy ad e) sz) := by
  refine mx_start (cc := cX0_earn) (maxL := 4) (ret := none) (by decide) rfl (Nat.le_of_ble_eq_true rfl) ?_
  intro p9 e9 s m args below meth c hsz hr hnm M w ls hl
  have hx := M.1.1
  have hb := M.1.2.1
  have inX0 : ∀ w ∈ wsX00, w ∈ wsX0_earn := by decide +kernel
  have f9 : Cond.fieldLink RX0 9 RX0 "lotPoints" "[I" ∈ wsX0_earn := by decide +kernel
  have f15 : Cond.fieldLink RX0 15 RX0 "lotExpiries" "[I" ∈ wsX0_earn := by decide +kernel
  have f60 : Cond.fieldLink RX0 60 RX0 "lotCount" "I" ∈ wsX0_earn := by decide +kernel
  have f66 : Cond.fieldLink RX0 66 RX0 "debt" "I" ∈ wsX0_earn := by decide +kernel
  have f69 : Cond.fieldLink RX0 69 RX0 "sumEarned" "I" ∈ wsX0_earn := by decide +kernel
  have k84 : Cond.methodLink RX0 84 Lib.Math.min.name ∈ wsX0_earn := by decide +kernel
  have k84a : Cond.static Lib.Math.min.name ∈ wsX0_earn := by decide +kernel
  have k84b : Cond.initialized "java/lang/Math" ∈ wsX0_earn := by decide +kernel
  have k84c : Cond.code Lib.Math.min.name Lib.Math.min.code 2 (some .int) ∈ wsX0_earn := by decide +kernel
  obtain ⟨g1, g2, g3, g4⟩ := id hLW
  have hl : lv_has ls 4 [(0, .ref (ad 3)), (1, .int (nI pts)), (2, .int (nI ex))] := hl
  refine lv_iload_n hx hb dX0_earn_0 rfl (lv_at hl 1 rfl) ?_
  refine lv_aload_n hx hb dX0_earn_1 rfl (lv_at hl 0 rfl) ?_
  refine ex_get M w (hB 3 (by decide)) (sh_3 cy ad (e 3)) rfl inX0 5 (by decide) f66 rfl dX0_earn_2 ?_
  refine mi_min M hl.1 k84 k84a k84b k84c (by decide) (Nat.le_of_ble_eq_true rfl) (by decide) (by decide) (by omega) (by omega) dX0_earn_5 ?_
  refine lv_istore_n (lv' := [(3, .int (nI (min pts (e 3 5)))), (0, .ref (ad 3)), (1, .int (nI pts)), (2, .int (nI ex))]) hx hb dX0_earn_8 rfl hl (by decide) rfl (fun ls hl => ?_)
  refine lv_aload_n hx hb dX0_earn_9 rfl (lv_at hl 1 rfl) ?_
  refine lv_dup hx hb dX0_earn_10 rfl ?_
  refine ex_get M w (hB 3 (by decide)) (sh_3 cy ad (e 3)) rfl inX0 5 (by decide) f66 rfl dX0_earn_11 ?_
  refine lv_iload_n hx hb dX0_earn_14 rfl (lv_at hl 0 rfl) ?_
  refine mi_sub hx hb (by omega) dX0_earn_15 ?_
  refine ex_put M w (hB 3 (by decide)) (sh_3 cy ad (e 3)) rfl inX0 tyX0 tyX0_ok nmX0 5 (by decide) f66 rfl (v := ((e 3 5) - (min pts (e 3 5)))) rfl rfl (Nat.le_of_ble_eq_true rfl) (sh_3 cy ad _) dX0_earn_16 (fun H locs w => ?_)
  refine lv_aload_n hx hb dX0_earn_19 rfl (lv_at hl 1 rfl) ?_
  refine lv_dup hx hb dX0_earn_20 rfl ?_
  refine ex_get M w (hB 3 (by decide)) (sh_3 cy ad ((es e 3 5 ((e 3 5) - (min pts (e 3 5)))) 3)) rfl inX0 6 (by decide) f69 (congrArg (fun z => some (Value.int (nI z))) (es_ne _ _ (by first | omega | (unfold PB; omega) | (unfold RB; omega) | (unfold PB RB; omega)))) dX0_earn_21 ?_
  refine lv_iload_n hx hb dX0_earn_24 rfl (lv_at hl 2 rfl) ?_
  refine mi_add hx hb dX0_earn_25 ?_
  refine ex_put M w (hB 3 (by decide)) (sh_3 cy ad ((es e 3 5 ((e 3 5) - (min pts (e 3 5)))) 3)) rfl inX0 tyX0 tyX0_ok nmX0 6 (by decide) f69 rfl (v := ((e 3 6) + pts)) rfl rfl (Nat.le_of_ble_eq_true rfl) (sh_3 cy ad _) dX0_earn_26 (fun H locs w => ?_)
  refine lv_aload_n hx hb dX0_earn_29 rfl (lv_at hl 1 rfl) ?_
  refine ex_get M w (hB 3 (by decide)) (sh_3 cy ad ((es (es e 3 5 ((e 3 5) - (min pts (e 3 5)))) 3 6 ((e 3 6) + pts)) 3)) rfl inX0 2 (by decide) f60 (congrArg (fun z => some (Value.int (nI z))) ((es_ne _ _ (by first | omega | (unfold PB; omega) | (unfold RB; omega) | (unfold PB RB; omega))).trans (es_ne _ _ (by first | omega | (unfold PB; omega) | (unfold RB; omega) | (unfold PB RB; omega))))) dX0_earn_30 ?_
  refine lv_aload_n hx hb dX0_earn_33 rfl (lv_at hl 1 rfl) ?_
  refine ex_get M w (hB 3 (by decide)) (sh_3 cy ad ((es (es e 3 5 ((e 3 5) - (min pts (e 3 5)))) 3 6 ((e 3 6) + pts)) 3)) rfl inX0 0 (by decide) f9 rfl dX0_earn_34 ?_
  refine mx_alen M w (hB 4 (by decide)) 0 (g := G cy ad (es (es e 3 5 ((e 3 5) - (min pts (e 3 5)))) 3 6 ((e 3 6) + pts))) (sh_4 cy ad _) rfl (n := 120) rfl dX0_earn_37 ?_
  refine mi_ge hx hb (by omega) (by decide) 73 dX0_earn_38 (by decide) (fun h38 => ?_) (fun h38 => ?_)
  · exact mx_vret M w hr (by unfold earnC; rw [if_neg (by omega)]) (by decide) (by decide) dX0_earn_73
  · refine lv_aload_n hx hb dX0_earn_41 rfl (lv_at hl 1 rfl) ?_
    refine ex_get M w (hB 3 (by decide)) (sh_3 cy ad ((es (es e 3 5 ((e 3 5) - (min pts (e 3 5)))) 3 6 ((e 3 6) + pts)) 3)) rfl inX0 0 (by decide) f9 rfl dX0_earn_42 ?_
    refine lv_aload_n hx hb dX0_earn_45 rfl (lv_at hl 1 rfl) ?_
    refine ex_get M w (hB 3 (by decide)) (sh_3 cy ad ((es (es e 3 5 ((e 3 5) - (min pts (e 3 5)))) 3 6 ((e 3 6) + pts)) 3)) rfl inX0 2 (by decide) f60 (congrArg (fun z => some (Value.int (nI z))) ((es_ne _ _ (by first | omega | (unfold PB; omega) | (unfold RB; omega) | (unfold PB RB; omega))).trans (es_ne _ _ (by first | omega | (unfold PB; omega) | (unfold RB; omega) | (unfold PB RB; omega))))) dX0_earn_46 ?_
    refine lv_iload_n hx hb dX0_earn_49 rfl (lv_at hl 2 rfl) ?_
    refine lv_iload_n hx hb dX0_earn_50 rfl (lv_at hl 0 rfl) ?_
    refine mi_sub hx hb (by omega) dX0_earn_51 ?_
    refine ex_iast M w (hB 4 (by decide)) (sh_4 cy ad) (v := (pts - (min pts (e 3 5)))) (by omega) (by decide) dX0_earn_52 (fun H locs w => ?_)
    refine lv_aload_n hx hb dX0_earn_53 rfl (lv_at hl 1 rfl) ?_
    refine ex_get M w (hB 3 (by decide)) (sh_3 cy ad ((es (es (es e 3 5 ((e 3 5) - (min pts (e 3 5)))) 3 6 ((e 3 6) + pts)) 4 (e 3 2) (pts - (min pts (e 3 5)))) 3)) rfl inX0 1 (by decide) f15 rfl dX0_earn_54 ?_
    refine lv_aload_n hx hb dX0_earn_57 rfl (lv_at hl 1 rfl) ?_
    refine ex_get M w (hB 3 (by decide)) (sh_3 cy ad ((es (es (es e 3 5 ((e 3 5) - (min pts (e 3 5)))) 3 6 ((e 3 6) + pts)) 4 (e 3 2) (pts - (min pts (e 3 5)))) 3)) rfl inX0 2 (by decide) f60 (congrArg (fun z => some (Value.int (nI z))) ((es_ne _ _ (by first | omega | (unfold PB; omega) | (unfold RB; omega) | (unfold PB RB; omega))).trans ((es_ne _ _ (by first | omega | (unfold PB; omega) | (unfold RB; omega) | (unfold PB RB; omega))).trans (es_ne _ _ (by first | omega | (unfold PB; omega) | (unfold RB; omega) | (unfold PB RB; omega)))))) dX0_earn_58 ?_
    refine lv_iload_n hx hb dX0_earn_61 rfl (lv_at hl 3 rfl) ?_
    refine ex_iast M w (hB 5 (by decide)) (sh_5 cy ad) (v := ex) (by omega) (by decide) dX0_earn_62 (fun H locs w => ?_)
    refine lv_aload_n hx hb dX0_earn_63 rfl (lv_at hl 1 rfl) ?_
    refine lv_dup hx hb dX0_earn_64 rfl ?_
    refine ex_get M w (hB 3 (by decide)) (sh_3 cy ad ((es (es (es (es e 3 5 ((e 3 5) - (min pts (e 3 5)))) 3 6 ((e 3 6) + pts)) 4 (e 3 2) (pts - (min pts (e 3 5)))) 5 (e 3 2) ex) 3)) rfl inX0 2 (by decide) f60 (congrArg (fun z => some (Value.int (nI z))) ((es_ne _ _ (by first | omega | (unfold PB; omega) | (unfold RB; omega) | (unfold PB RB; omega))).trans ((es_ne _ _ (by first | omega | (unfold PB; omega) | (unfold RB; omega) | (unfold PB RB; omega))).trans ((es_ne _ _ (by first | omega | (unfold PB; omega) | (unfold RB; omega) | (unfold PB RB; omega))).trans (es_ne _ _ (by first | omega | (unfold PB; omega) | (unfold RB; omega) | (unfold PB RB; omega))))))) dX0_earn_65 ?_
    refine lv_iconst (v := nI 1) hx hb dX0_earn_68 (by decide) ?_
    refine mi_add hx hb dX0_earn_69 ?_
    refine ex_put M w (hB 3 (by decide)) (sh_3 cy ad ((es (es (es (es e 3 5 ((e 3 5) - (min pts (e 3 5)))) 3 6 ((e 3 6) + pts)) 4 (e 3 2) (pts - (min pts (e 3 5)))) 5 (e 3 2) ex) 3)) rfl inX0 tyX0 tyX0_ok nmX0 2 (by decide) f60 rfl (v := ((e 3 2) + 1)) rfl rfl (Nat.le_of_ble_eq_true rfl) (sh_3 cy ad _) dX0_earn_70 (fun H locs w => ?_)
    exact mx_vret M w hr (by unfold earnC; rw [if_pos (by omega)]) (by decide) (by decide) dX0_earn_73

set_option maxHeartbeats 4000000 in
set_option maxRecDepth 100000 in
/-- Ledger.expireOn(day) -/
theorem kX0_expireOn (l : Launch) (D : va_G) (cy : Nat → ClassId) (C : List Nat) (ad : Nat → Nat) (e : Nat → Nat → Nat) (sz : Nat) (dy : Nat) (hB : ∀ k, k < 13 → k ∈ C) (hLW : LW e) (hd : dy ≤ 3600) : Met l yX0_expireOn wsX0_expireOn ({ frames := 0, cells := 0, slots := 0, locals := 0 } : Room) (PreM D cy (C, ad, G cy ad e) sz [.ref (ad 3), .int (nI dy)]) (va_Qv (fun (u : WT) => u = (C, ad, G cy ad (expireC e dy))) (WB D cy (AW (C, ad, G cy ad e) sz)) (AW (C, ad, G cy ad e) sz)) 0 0 (AW (C, ad, G cy ad e) sz) := by
  refine mx_start (cc := cX0_expireOn) (maxL := 2) (ret := none) (by decide) rfl (Nat.le_of_ble_eq_true rfl) ?_
  intro p9 e9 s m args below meth c hsz hr hnm M w ls hl
  have hx := M.1.1
  have hb := M.1.2.1
  have inX0 : ∀ w ∈ wsX00, w ∈ wsX0_expireOn := by decide +kernel
  have f9 : Cond.fieldLink RX0 9 RX0 "lotPoints" "[I" ∈ wsX0_expireOn := by decide +kernel
  have f15 : Cond.fieldLink RX0 15 RX0 "lotExpiries" "[I" ∈ wsX0_expireOn := by decide +kernel
  have f57 : Cond.fieldLink RX0 57 RX0 "oldestLot" "I" ∈ wsX0_expireOn := by decide +kernel
  have f60 : Cond.fieldLink RX0 60 RX0 "lotCount" "I" ∈ wsX0_expireOn := by decide +kernel
  have f75 : Cond.fieldLink RX0 75 RX0 "sumExpired" "I" ∈ wsX0_expireOn := by decide +kernel
  have cut0 : ∀ (n9 : Nat) (E1 : Nat → Nat → Nat) (hE : expnC dy (E1 3 2 - E1 3 3) E1 = expireC e dy) (hL1 : LW E1) (_hm : E1 3 2 - E1 3 3 < n9) (H : Heap) (locs : List Loc), MO D (AW (C, ad, G cy ad e) sz) s.heap (C, ad, G cy ad E1) H locs → ∀ (ls : Array Slot), lv_has ls 2 [(0, .ref (ad 3)), (1, .int (nI dy))] → W p9 l e9 ({ frames := 0, cells := 0, slots := 0, locals := 0 } : Room) s m args below meth c H locs 0 0 (MQ below (va_Qv (fun (u : WT) => u = (C, ad, G cy ad (expireC e dy))) (WB D cy (AW (C, ad, G cy ad e) sz)) (AW (C, ad, G cy ad e) sz)) args s 0 0 (AW (C, ad, G cy ad e) sz)) (F0 m 0 ls []) := by
    intro n9
    induction n9 with
    | zero => intro E1 hE hL1 _hm; exact absurd _hm (Nat.not_lt_zero _)
    | succ n9 ih =>
      intro E1 hE hL1 _hm H locs w ls hl
      refine lv_aload_n hx hb dX0_expireOn_0 rfl (lv_at hl 0 rfl) ?_
      obtain ⟨g1, g2, g3, g4⟩ := id hL1
      refine ex_get M w (hB 3 (by decide)) (sh_3 cy ad (E1 3)) rfl inX0 3 (by decide) f57 rfl dX0_expireOn_1 ?_
      refine lv_aload_n hx hb dX0_expireOn_4 rfl (lv_at hl 0 rfl) ?_
      refine ex_get M w (hB 3 (by decide)) (sh_3 cy ad (E1 3)) rfl inX0 2 (by decide) f60 rfl dX0_expireOn_5 ?_
      refine mi_ge hx hb (by omega) (by omega) 55 dX0_expireOn_8 (by decide) (fun h8 => ?_) (fun h8 => ?_)
      · exact mx_vret M w hr (by rw [← hE, expnC_x (Or.inl h8)]) (by decide) (by decide) dX0_expireOn_55
      · have q1 := g4 _ h8
        refine lv_aload_n hx hb dX0_expireOn_11 rfl (lv_at hl 0 rfl) ?_
        refine ex_get M w (hB 3 (by decide)) (sh_3 cy ad (E1 3)) rfl inX0 1 (by decide) f15 rfl dX0_expireOn_12 ?_
        refine lv_aload_n hx hb dX0_expireOn_15 rfl (lv_at hl 0 rfl) ?_
        refine ex_get M w (hB 3 (by decide)) (sh_3 cy ad (E1 3)) rfl inX0 3 (by decide) f57 rfl dX0_expireOn_16 ?_
        refine ex_iald M w (hB 5 (by decide)) (sh_5 cy ad) (by omega) (by decide) rfl dX0_expireOn_19 ?_
        refine lv_iload_n hx hb dX0_expireOn_20 rfl (lv_at hl 1 rfl) ?_
        refine mi_gt hx hb (by omega) (by omega) 55 dX0_expireOn_21 (by decide) (fun h21 => ?_) (fun h21 => ?_)
        · exact mx_vret M w hr (by rw [← hE, expnC_x (Or.inr h21)]) (by decide) (by decide) dX0_expireOn_55
        · refine lv_aload_n hx hb dX0_expireOn_24 rfl (lv_at hl 0 rfl) ?_
          refine lv_dup hx hb dX0_expireOn_25 rfl ?_
          refine ex_get M w (hB 3 (by decide)) (sh_3 cy ad (E1 3)) rfl inX0 8 (by decide) f75 rfl dX0_expireOn_26 ?_
          refine lv_aload_n hx hb dX0_expireOn_29 rfl (lv_at hl 0 rfl) ?_
          refine ex_get M w (hB 3 (by decide)) (sh_3 cy ad (E1 3)) rfl inX0 0 (by decide) f9 rfl dX0_expireOn_30 ?_
          refine lv_aload_n hx hb dX0_expireOn_33 rfl (lv_at hl 0 rfl) ?_
          refine ex_get M w (hB 3 (by decide)) (sh_3 cy ad (E1 3)) rfl inX0 3 (by decide) f57 rfl dX0_expireOn_34 ?_
          refine ex_iald M w (hB 4 (by decide)) (sh_4 cy ad) (by omega) (by decide) rfl dX0_expireOn_37 ?_
          refine mi_add hx hb dX0_expireOn_38 ?_
          refine ex_put M w (hB 3 (by decide)) (sh_3 cy ad (E1 3)) rfl inX0 tyX0 tyX0_ok nmX0 8 (by decide) f75 rfl (v := ((E1 3 8) + (E1 4 (E1 3 3)))) rfl rfl (Nat.le_of_ble_eq_true rfl) (sh_3 cy ad _) dX0_expireOn_39 (fun H locs w => ?_)
          refine lv_aload_n hx hb dX0_expireOn_42 rfl (lv_at hl 0 rfl) ?_
          refine lv_dup hx hb dX0_expireOn_43 rfl ?_
          refine ex_get M w (hB 3 (by decide)) (sh_3 cy ad ((es E1 3 8 ((E1 3 8) + (E1 4 (E1 3 3)))) 3)) rfl inX0 3 (by decide) f57 (congrArg (fun z => some (Value.int (nI z))) (es_ne _ _ (by first | omega | (unfold PB; omega) | (unfold RB; omega) | (unfold PB RB; omega)))) dX0_expireOn_44 ?_
          refine lv_iconst (v := nI 1) hx hb dX0_expireOn_47 (by decide) ?_
          refine mi_add hx hb dX0_expireOn_48 ?_
          refine ex_put M w (hB 3 (by decide)) (sh_3 cy ad ((es E1 3 8 ((E1 3 8) + (E1 4 (E1 3 3)))) 3)) rfl inX0 tyX0 tyX0_ok nmX0 3 (by decide) f57 rfl (v := ((E1 3 3) + 1)) rfl rfl (Nat.le_of_ble_eq_true rfl) (sh_3 cy ad _) dX0_expireOn_49 (fun H locs w => ?_)
          refine lv_goto (tgt := 0) hx hb dX0_expireOn_52 (by decide) ?_
          exact ih (exsC E1) ((expnC_s h8 h21).trans hE) (LW_exs hL1 h8)  (by first | omega | (rw [exs_2, exs_3]; omega)) _ _ w ls (lv_sub hl [0, 1] rfl)
  have hl : lv_has ls 2 [(0, .ref (ad 3)), (1, .int (nI dy))] := hl
  exact cut0 (e 3 2 - e 3 3 + 1) e rfl hLW  (by first | omega | (rw [exs_2, exs_3]; omega)) _ _ w ls (lv_sub hl [0, 1] rfl)

set_option maxHeartbeats 4000000 in
set_option maxRecDepth 100000 in
/-- Ledger.pointsInLots() -/
theorem kX0_pointsInLots (l : Launch) (D : va_G) (cy : Nat → ClassId) (C : List Nat) (ad : Nat → Nat) (e : Nat → Nat → Nat) (sz : Nat)  (hB : ∀ k, k < 13 → k ∈ C) (hLW : LW e) : Met l yX0_pointsInLots wsX0_pointsInLots ({ frames := 0, cells := 0, slots := 0, locals := 0 } : Room) (PreM D cy (C, ad, G cy ad e) sz [.ref (ad 3)]) (va_Qi (fun (r : Int32) (u : WT) => r = nI (totC e) ∧ u = (C, ad, G cy ad e)) (WB D cy (AW (C, ad, G cy ad e) sz)) (AW (C, ad, G cy ad e) sz)) 0 0 (AW (C, ad, G cy ad e) sz) := by
  refine mx_start (cc := cX0_pointsInLots) (maxL := 3) (ret := (some .int)) (by decide) rfl (Nat.le_of_ble_eq_true rfl) ?_
  intro p9 e9 s m args below meth c hsz hr hnm M w ls hl
  have hx := M.1.1
  have hb := M.1.2.1
  have inX0 : ∀ w ∈ wsX00, w ∈ wsX0_pointsInLots := by decide +kernel
  have f9 : Cond.fieldLink RX0 9 RX0 "lotPoints" "[I" ∈ wsX0_pointsInLots := by decide +kernel
  have f57 : Cond.fieldLink RX0 57 RX0 "oldestLot" "I" ∈ wsX0_pointsInLots := by decide +kernel
  have f60 : Cond.fieldLink RX0 60 RX0 "lotCount" "I" ∈ wsX0_pointsInLots := by decide +kernel
  obtain ⟨g1, g2, g3, g4⟩ := id hLW
  have cut7 : ∀ (n9 : Nat) (i t : Nat) (hi0 : e 3 3 ≤ i) (hi : i ≤ e 3 2) (ht : t = smN (e 4) (e 3 3) (i - e 3 3)) (_hm : e 3 2 - i < n9) (H : Heap) (locs : List Loc), MO D (AW (C, ad, G cy ad e) sz) s.heap (C, ad, G cy ad e) H locs → ∀ (ls : Array Slot), lv_has ls 3 [(0, .ref (ad 3)), (1, .int (nI t)), (2, .int (nI i))] → W p9 l e9 ({ frames := 0, cells := 0, slots := 0, locals := 0 } : Room) s m args below meth c H locs 0 0 (MQ below (va_Qi (fun (r : Int32) (u : WT) => r = nI (totC e) ∧ u = (C, ad, G cy ad e)) (WB D cy (AW (C, ad, G cy ad e) sz)) (AW (C, ad, G cy ad e) sz)) args s 0 0 (AW (C, ad, G cy ad e) sz)) (F0 m 7 ls []) := by
    intro n9
    induction n9 with
    | zero => intro i t hi0 hi ht _hm; exact absurd _hm (Nat.not_lt_zero _)
    | succ n9 ih =>
      intro i t hi0 hi ht _hm H locs w ls hl
      refine lv_iload_n hx hb dX0_pointsInLots_7 rfl (lv_at hl 2 rfl) ?_
      refine lv_aload_n hx hb dX0_pointsInLots_8 rfl (lv_at hl 0 rfl) ?_
      refine ex_get M w (hB 3 (by decide)) (sh_3 cy ad (e 3)) rfl inX0 2 (by decide) f60 rfl dX0_pointsInLots_9 ?_
      refine mi_ge hx hb (by omega) (by omega) 30 dX0_pointsInLots_12 (by decide) (fun h12 => ?_) (fun h12 => ?_)
      · refine lv_iload_n hx hb dX0_pointsInLots_30 rfl (lv_at hl 1 rfl) ?_
        exact mx_iret M w hr (v := (nI t)) ⟨by rw [ht]; unfold totC; rw [show i = e 3 2 by omega], rfl⟩ (by decide) (by decide) dX0_pointsInLots_31
      · refine lv_iload_n hx hb dX0_pointsInLots_15 rfl (lv_at hl 1 rfl) ?_
        refine lv_aload_n hx hb dX0_pointsInLots_16 rfl (lv_at hl 0 rfl) ?_
        refine ex_get M w (hB 3 (by decide)) (sh_3 cy ad (e 3)) rfl inX0 0 (by decide) f9 rfl dX0_pointsInLots_17 ?_
        refine lv_iload_n hx hb dX0_pointsInLots_20 rfl (lv_at hl 2 rfl) ?_
        refine ex_iald M w (hB 4 (by decide)) (sh_4 cy ad) (by omega) (by decide) rfl dX0_pointsInLots_21 ?_
        refine mi_add hx hb dX0_pointsInLots_22 ?_
        refine lv_istore_n (lv' := [(1, .int (nI (t + (e 4 i)))), (0, .ref (ad 3)), (2, .int (nI i))]) hx hb dX0_pointsInLots_23 rfl hl (by decide) rfl (fun ls hl => ?_)
        refine lv_iinc (v := nI (i + 1)) (lv' := [(2, .int (nI (i + 1))), (1, .int (nI (t + (e 4 i)))), (0, .ref (ad 3))]) hx hb dX0_pointsInLots_24 hl (k := 2) rfl (nI_inc _ 1) (by decide) rfl (fun ls hl => ?_)
        refine lv_goto (tgt := 7) hx hb dX0_pointsInLots_27 (by decide) ?_
        exact ih (i + 1) _ (by omega) (by omega) (by rw [ht, smN_s (e 4) hi0])  (by omega) _ _ w ls (lv_sub hl [2, 1, 0] rfl)
  have hl : lv_has ls 3 [(0, .ref (ad 3))] := hl
  refine lv_iconst (v := nI 0) hx hb dX0_pointsInLots_0 (by decide) ?_
  refine lv_istore_n (lv' := [(1, .int (nI 0)), (0, .ref (ad 3))]) hx hb dX0_pointsInLots_1 rfl hl (by decide) rfl (fun ls hl => ?_)
  refine lv_aload_n hx hb dX0_pointsInLots_2 rfl (lv_at hl 1 rfl) ?_
  refine ex_get M w (hB 3 (by decide)) (sh_3 cy ad (e 3)) rfl inX0 3 (by decide) f57 rfl dX0_pointsInLots_3 ?_
  refine lv_istore_n (lv' := [(2, .int (nI (e 3 3))), (1, .int (nI 0)), (0, .ref (ad 3))]) hx hb dX0_pointsInLots_6 rfl hl (by decide) rfl (fun ls hl => ?_)
  exact cut7 (e 3 2 - e 3 3 + 1) (e 3 3) 0 (Nat.le_refl _) g1 (by rw [Nat.sub_self]; rfl)  (by omega) _ _ w ls (lv_sub hl [2, 1, 0] rfl)

set_option maxHeartbeats 4000000 in
set_option maxRecDepth 100000 in
/-- Ledger.firstExpiry() -/
theorem kX0_firstExpiry (l : Launch) (D : va_G) (cy : Nat → ClassId) (C : List Nat) (ad : Nat → Nat) (e : Nat → Nat → Nat) (sz : Nat)  (hB : ∀ k, k < 13 → k ∈ C) (hLW : LW e) : Met l yX0_firstExpiry wsX0_firstExpiry ({ frames := 0, cells := 0, slots := 0, locals := 0 } : Room) (PreM D cy (C, ad, G cy ad e) sz [.ref (ad 3)]) (va_Qi (fun (r : Int32) (u : WT) => r = fxC e ∧ u = (C, ad, G cy ad e)) (WB D cy (AW (C, ad, G cy ad e) sz)) (AW (C, ad, G cy ad e) sz)) 0 0 (AW (C, ad, G cy ad e) sz) := by
  refine mx_start (cc := cX0_firstExpiry) (maxL := 2) (ret := (some .int)) (by decide) rfl (Nat.le_of_ble_eq_true rfl) ?_
  intro p9 e9 s m args below meth c hsz hr hnm M w ls hl
  have hx := M.1.1
  have hb := M.1.2.1
  have inX0 : ∀ w ∈ wsX00, w ∈ wsX0_firstExpiry := by decide +kernel
  have f9 : Cond.fieldLink RX0 9 RX0 "lotPoints" "[I" ∈ wsX0_firstExpiry := by decide +kernel
  have f15 : Cond.fieldLink RX0 15 RX0 "lotExpiries" "[I" ∈ wsX0_firstExpiry := by decide +kernel
  have f57 : Cond.fieldLink RX0 57 RX0 "oldestLot" "I" ∈ wsX0_firstExpiry := by decide +kernel
  have f60 : Cond.fieldLink RX0 60 RX0 "lotCount" "I" ∈ wsX0_firstExpiry := by decide +kernel
  obtain ⟨g1, g2, g3, g4⟩ := id hLW
  have cut5 : ∀ (n9 : Nat) (i : Nat) (hi : i ≤ e 3 2) (hf : fxN (e 4) (e 5) i (e 3 2 - i) = fxC e) (_hm : e 3 2 - i < n9) (H : Heap) (locs : List Loc), MO D (AW (C, ad, G cy ad e) sz) s.heap (C, ad, G cy ad e) H locs → ∀ (ls : Array Slot), lv_has ls 2 [(0, .ref (ad 3)), (1, .int (nI i))] → W p9 l e9 ({ frames := 0, cells := 0, slots := 0, locals := 0 } : Room) s m args below meth c H locs 0 0 (MQ below (va_Qi (fun (r : Int32) (u : WT) => r = fxC e ∧ u = (C, ad, G cy ad e)) (WB D cy (AW (C, ad, G cy ad e) sz)) (AW (C, ad, G cy ad e) sz)) args s 0 0 (AW (C, ad, G cy ad e) sz)) (F0 m 5 ls []) := by
    intro n9
    induction n9 with
    | zero => intro i hi hf _hm; exact absurd _hm (Nat.not_lt_zero _)
    | succ n9 ih =>
      intro i hi hf _hm H locs w ls hl
      refine lv_iload_n hx hb dX0_firstExpiry_5 rfl (lv_at hl 1 rfl) ?_
      refine lv_aload_n hx hb dX0_firstExpiry_6 rfl (lv_at hl 0 rfl) ?_
      refine ex_get M w (hB 3 (by decide)) (sh_3 cy ad (e 3)) rfl inX0 2 (by decide) f60 rfl dX0_firstExpiry_7 ?_
      refine mi_ge hx hb (by omega) (by omega) 35 dX0_firstExpiry_10 (by decide) (fun h10 => ?_) (fun h10 => ?_)
      · refine lv_iconst (v := (-1)) hx hb dX0_firstExpiry_35 (by decide) ?_
        exact mx_iret M w hr (v := (-1)) ⟨(fxN_end h10).symm.trans hf, rfl⟩ (by decide) (by decide) dX0_firstExpiry_36
      · have q1 := g4 i h10
        refine lv_aload_n hx hb dX0_firstExpiry_13 rfl (lv_at hl 0 rfl) ?_
        refine ex_get M w (hB 3 (by decide)) (sh_3 cy ad (e 3)) rfl inX0 0 (by decide) f9 rfl dX0_firstExpiry_14 ?_
        refine lv_iload_n hx hb dX0_firstExpiry_17 rfl (lv_at hl 1 rfl) ?_
        refine ex_iald M w (hB 4 (by decide)) (sh_4 cy ad) (by omega) (by decide) rfl dX0_firstExpiry_18 ?_
        refine mi_if_le hx hb (by omega) 29 dX0_firstExpiry_19 (by decide) (fun h19 => ?_) (fun h19 => ?_)
        · refine lv_iinc (v := nI (i + 1)) (lv' := [(1, .int (nI (i + 1))), (0, .ref (ad 3))]) hx hb dX0_firstExpiry_29 hl (k := 1) rfl (nI_inc _ 1) (by decide) rfl (fun ls hl => ?_)
          refine lv_goto (tgt := 5) hx hb dX0_firstExpiry_32 (by decide) ?_
          exact ih (i + 1) (by omega) ((fxN_next h10 (by omega)).trans hf)  (by omega) _ _ w ls (lv_sub hl [1, 0] rfl)
        · refine lv_aload_n hx hb dX0_firstExpiry_22 rfl (lv_at hl 0 rfl) ?_
          refine ex_get M w (hB 3 (by decide)) (sh_3 cy ad (e 3)) rfl inX0 1 (by decide) f15 rfl dX0_firstExpiry_23 ?_
          refine lv_iload_n hx hb dX0_firstExpiry_26 rfl (lv_at hl 1 rfl) ?_
          refine ex_iald M w (hB 5 (by decide)) (sh_5 cy ad) (by omega) (by decide) rfl dX0_firstExpiry_27 ?_
          exact mx_iret M w hr (v := (nI (e 5 i))) ⟨(fxN_hit h10 (by omega)).symm.trans hf, rfl⟩ (by decide) (by decide) dX0_firstExpiry_28
  have hl : lv_has ls 2 [(0, .ref (ad 3))] := hl
  refine lv_aload_n hx hb dX0_firstExpiry_0 rfl (lv_at hl 0 rfl) ?_
  refine ex_get M w (hB 3 (by decide)) (sh_3 cy ad (e 3)) rfl inX0 3 (by decide) f57 rfl dX0_firstExpiry_1 ?_
  refine lv_istore_n (lv' := [(1, .int (nI (e 3 3))), (0, .ref (ad 3))]) hx hb dX0_firstExpiry_4 rfl hl (by decide) rfl (fun ls hl => ?_)
  exact cut5 (e 3 2 - e 3 3 + 1) (e 3 3) g1 rfl  (by omega) _ _ w ls (lv_sub hl [1, 0] rfl)

set_option maxHeartbeats 4000000 in
set_option maxRecDepth 100000 in
/-- Ledger.drawFromLots(points) -/
theorem kX0_drawFromLots (l : Launch) (D : va_G) (cy : Nat → ClassId) (C : List Nat) (ad : Nat → Nat) (e : Nat → Nat → Nat) (sz : Nat) (pts : Nat) (hB : ∀ k, k < 13 → k ∈ C) (hLW : LW e) (hp2 : pts ≤ 20000) : Met l yX0_drawFromLots wsX0_drawFromLots ({ frames := 1, cells := 0, slots := 0, locals := 13 } : Room) (PreM D cy (C, ad, G cy ad e) sz [.ref (ad 3), .int (nI pts)]) (va_Qi (fun (r : Int32) (u : WT) => r = nI (min pts (totC e)) ∧ u = (C, ad, G cy ad (drwC e pts))) (WB D cy (AW (C, ad, G cy ad e) sz)) (AW (C, ad, G cy ad e) sz)) 0 0 (AW (C, ad, G cy ad e) sz) := by
  refine mx_start (cc := cX0_drawFromLots) (maxL := 5) (ret := (some .int)) (by decide) rfl (Nat.le_of_ble_eq_true rfl) ?_
  intro p9 e9 s m args below meth c hsz hr hnm M w ls hl
  have hx := M.1.1
  have hb := M.1.2.1
  have inX0 : ∀ w ∈ wsX00, w ∈ wsX0_drawFromLots := by decide +kernel
  have f9 : Cond.fieldLink RX0 9 RX0 "lotPoints" "[I" ∈ wsX0_drawFromLots := by decide +kernel
  have f57 : Cond.fieldLink RX0 57 RX0 "oldestLot" "I" ∈ wsX0_drawFromLots := by decide +kernel
  have f60 : Cond.fieldLink RX0 60 RX0 "lotCount" "I" ∈ wsX0_drawFromLots := by decide +kernel
  have k84 : Cond.methodLink RX0 84 Lib.Math.min.name ∈ wsX0_drawFromLots := by decide +kernel
  have k84a : Cond.static Lib.Math.min.name ∈ wsX0_drawFromLots := by decide +kernel
  have k84b : Cond.initialized "java/lang/Math" ∈ wsX0_drawFromLots := by decide +kernel
  have k84c : Cond.code Lib.Math.min.name Lib.Math.min.code 2 (some .int) ∈ wsX0_drawFromLots := by decide +kernel
  obtain ⟨g1, g2, g3, g4⟩ := id hLW
  have cut7 : ∀ (n9 : Nat) (i ms : Nat) (hi0 : e 3 3 ≤ i) (hi : i ≤ e 3 2) (hm : ms = pts - smN (e 4) (e 3 3) (i - e 3 3)) (_hm : e 3 2 - i < n9) (H : Heap) (locs : List Loc), MO D (AW (C, ad, G cy ad e) sz) s.heap (C, ad, G cy ad (drwN e pts i)) H locs → ∀ (ls : Array Slot), lv_has ls 5 [(0, .ref (ad 3)), (1, .int (nI pts)), (2, .int (nI ms)), (3, .int (nI i))] → W p9 l e9 ({ frames := 1, cells := 0, slots := 0, locals := 13 } : Room) s m args below meth c H locs 0 0 (MQ below (va_Qi (fun (r : Int32) (u : WT) => r = nI (min pts (totC e)) ∧ u = (C, ad, G cy ad (drwC e pts))) (WB D cy (AW (C, ad, G cy ad e) sz)) (AW (C, ad, G cy ad e) sz)) args s 0 0 (AW (C, ad, G cy ad e) sz)) (F0 m 7 ls []) := by
    intro n9
    induction n9 with
    | zero => intro i ms hi0 hi hm _hm; exact absurd _hm (Nat.not_lt_zero _)
    | succ n9 ih =>
      intro i ms hi0 hi hm _hm H locs w ls hl
      refine lv_iload_n hx hb dX0_drawFromLots_7 rfl (lv_at hl 3 rfl) ?_
      refine lv_aload_n hx hb dX0_drawFromLots_8 rfl (lv_at hl 0 rfl) ?_
      refine ex_get M w (hB 3 (by decide)) (sh_3 cy ad ((drwN e pts i) 3)) rfl inX0 2 (by decide) f60 (congrArg (fun z => some (Value.int (nI z))) (drwN_off e pts i (by decide) _)) dX0_drawFromLots_9 ?_
      refine mi_ge hx hb (by omega) (by omega) 53 dX0_drawFromLots_12 (by decide) (fun h12 => ?_) (fun h12 => ?_)
      · refine lv_iload_n hx hb dX0_drawFromLots_53 rfl (lv_at hl 1 rfl) ?_
        refine lv_iload_n hx hb dX0_drawFromLots_54 rfl (lv_at hl 2 rfl) ?_
        refine mi_sub hx hb (by omega) dX0_drawFromLots_55 ?_
        exact mx_iret M w hr (v := (nI (pts - ms))) (by have z := drw_fin e hm hi (Or.inl (by omega)); exact ⟨congrArg nI z.2, by rw [z.1]⟩) (by decide) (by decide) dX0_drawFromLots_56
      · have q1 := g4 i h12
        refine lv_iload_n hx hb dX0_drawFromLots_15 rfl (lv_at hl 2 rfl) ?_
        refine mi_if_le hx hb (by omega) 53 dX0_drawFromLots_16 (by decide) (fun h16 => ?_) (fun h16 => ?_)
        · refine lv_iload_n hx hb dX0_drawFromLots_53 rfl (lv_at hl 1 rfl) ?_
          refine lv_iload_n hx hb dX0_drawFromLots_54 rfl (lv_at hl 2 rfl) ?_
          refine mi_sub hx hb (by omega) dX0_drawFromLots_55 ?_
          exact mx_iret M w hr (v := (nI (pts - ms))) (by have z := drw_fin e hm hi (Or.inr h16); exact ⟨congrArg nI z.2, by rw [z.1]⟩) (by decide) (by decide) dX0_drawFromLots_56
        · refine lv_iload_n hx hb dX0_drawFromLots_19 rfl (lv_at hl 2 rfl) ?_
          refine lv_aload_n hx hb dX0_drawFromLots_20 rfl (lv_at hl 0 rfl) ?_
          refine ex_get M w (hB 3 (by decide)) (sh_3 cy ad ((drwN e pts i) 3)) rfl inX0 0 (by decide) f9 rfl dX0_drawFromLots_21 ?_
          refine lv_iload_n hx hb dX0_drawFromLots_24 rfl (lv_at hl 3 rfl) ?_
          refine ex_iald M w (hB 4 (by decide)) (sh_4 cy ad) (by omega) (by decide) (drwN_at e pts i) dX0_drawFromLots_25 ?_
          refine mi_min M hl.1 k84 k84a k84b k84c (by decide) (Nat.le_of_ble_eq_true rfl) (by decide) (by decide) (by omega) (by omega) dX0_drawFromLots_26 ?_
          refine lv_istore (lv' := [(4, .int (nI (min ms (e 4 i)))), (0, .ref (ad 3)), (1, .int (nI pts)), (2, .int (nI ms)), (3, .int (nI i))]) hx hb dX0_drawFromLots_29 hl (by decide) rfl (fun ls hl => ?_)
          refine lv_aload_n hx hb dX0_drawFromLots_31 rfl (lv_at hl 1 rfl) ?_
          refine ex_get M w (hB 3 (by decide)) (sh_3 cy ad ((drwN e pts i) 3)) rfl inX0 0 (by decide) f9 rfl dX0_drawFromLots_32 ?_
          refine lv_iload_n hx hb dX0_drawFromLots_35 rfl (lv_at hl 4 rfl) ?_
          refine lv_dup2_11 hx hb dX0_drawFromLots_36 rfl rfl ?_
          refine ex_iald M w (hB 4 (by decide)) (sh_4 cy ad) (by omega) (by decide) (drwN_at e pts i) dX0_drawFromLots_37 ?_
          refine lv_iload hx hb dX0_drawFromLots_38 (lv_at hl 0 rfl) ?_
          refine mi_sub hx hb (by omega) dX0_drawFromLots_40 ?_
          refine ex_iast M w (hB 4 (by decide)) (sh_4 cy ad) (v := ((e 4 i) - (min ms (e 4 i)))) (by omega) (by decide) dX0_drawFromLots_41 (fun H locs w => ?_)
          refine lv_iload_n hx hb dX0_drawFromLots_42 rfl (lv_at hl 3 rfl) ?_
          refine lv_iload hx hb dX0_drawFromLots_43 (lv_at hl 0 rfl) ?_
          refine mi_sub hx hb (by omega) dX0_drawFromLots_45 ?_
          refine lv_istore_n (lv' := [(2, .int (nI (ms - (min ms (e 4 i))))), (4, .int (nI (min ms (e 4 i)))), (0, .ref (ad 3)), (1, .int (nI pts)), (3, .int (nI i))]) hx hb dX0_drawFromLots_46 rfl hl (by decide) rfl (fun ls hl => ?_)
          refine lv_iinc (v := nI (i + 1)) (lv' := [(3, .int (nI (i + 1))), (2, .int (nI (ms - (min ms (e 4 i))))), (4, .int (nI (min ms (e 4 i)))), (0, .ref (ad 3)), (1, .int (nI pts))]) hx hb dX0_drawFromLots_47 hl (k := 4) rfl (nI_inc _ 1) (by decide) rfl (fun ls hl => ?_)
          refine lv_goto (tgt := 7) hx hb dX0_drawFromLots_50 (by decide) ?_
          exact ih (i + 1) _ (by omega) (by omega) (by rw [smN_s (e 4) hi0]; omega)  (by omega) _ _ (by rw [drwN_s e hi0 hm] at w; exact w) ls (lv_sub hl [3, 4, 1, 0] rfl)
  have hl : lv_has ls 5 [(0, .ref (ad 3)), (1, .int (nI pts))] := hl
  refine lv_iload_n hx hb dX0_drawFromLots_0 rfl (lv_at hl 1 rfl) ?_
  refine lv_istore_n (lv' := [(2, .int (nI pts)), (0, .ref (ad 3)), (1, .int (nI pts))]) hx hb dX0_drawFromLots_1 rfl hl (by decide) rfl (fun ls hl => ?_)
  refine lv_aload_n hx hb dX0_drawFromLots_2 rfl (lv_at hl 1 rfl) ?_
  refine ex_get M w (hB 3 (by decide)) (sh_3 cy ad (e 3)) rfl inX0 3 (by decide) f57 rfl dX0_drawFromLots_3 ?_
  refine lv_istore_n (lv' := [(3, .int (nI (e 3 3))), (2, .int (nI pts)), (0, .ref (ad 3)), (1, .int (nI pts))]) hx hb dX0_drawFromLots_6 rfl hl (by decide) rfl (fun ls hl => ?_)
  exact cut7 (e 3 2 - e 3 3 + 1) (e 3 3) pts (Nat.le_refl _) g1 (by rw [Nat.sub_self]; exact (Nat.sub_zero _).symm)  (by omega) _ _ (by rw [drwN_0]; exact w) ls (lv_sub hl [2, 3, 1, 0] rfl)

set_option maxHeartbeats 4000000 in
set_option maxRecDepth 100000 in
/-- Ledger.take(kind) -/
theorem kX0_take (l : Launch) (D : va_G) (cy : Nat → ClassId) (C : List Nat) (ad : Nat → Nat) (e : Nat → Nat → Nat) (sz : Nat) (kd : Nat) (hB : ∀ k, k < 13 → k ∈ C) (hLW : LW e) (hk : kd ≤ 2) : Met l yX0_take wsX0_take ({ frames := 2, cells := 0, slots := 0, locals := 37 } : Room) (PreM D cy (C, ad, G cy ad e) sz [.ref (ad 3), .int (nI kd)]) (va_Qv (fun (u : WT) => u = (C, ad, G cy ad (takeC e kd))) (WB D cy (AW (C, ad, G cy ad e) sz)) (AW (C, ad, G cy ad e) sz)) 0 0 (AW (C, ad, G cy ad e) sz) := by
  refine mx_start (cc := cX0_take) (maxL := 4) (ret := none) (by decide) rfl (Nat.le_of_ble_eq_true rfl) ?_
  intro p9 e9 s m args below meth c hsz hr hnm M w ls hl
  have hx := M.1.1
  have hb := M.1.2.1
  have inX0 : ∀ w ∈ wsX00, w ∈ wsX0_take := by decide +kernel
  have f66 : Cond.fieldLink RX0 66 RX0 "debt" "I" ∈ wsX0_take := by decide +kernel
  have f72 : Cond.fieldLink RX0 72 RX0 "sumTaken" "I" ∈ wsX0_take := by decide +kernel
  have f81 : Cond.fieldLink RX0 81 RX0 "unpaidDays" "I" ∈ wsX0_take := by decide +kernel
  have k100 : Cond.methodLink RX0 100 Lib.Math.max.name ∈ wsX0_take := by decide +kernel
  have k100a : Cond.static Lib.Math.max.name ∈ wsX0_take := by decide +kernel
  have k100b : Cond.initialized "java/lang/Math" ∈ wsX0_take := by decide +kernel
  have k100c : Cond.code Lib.Math.max.name Lib.Math.max.code 2 (some .int) ∈ wsX0_take := by decide +kernel
  obtain ⟨g1, g2, g3, g4⟩ := id hLW
  have g5 := totC_le hLW
  have cut19 : ∀ (pts : Nat) (hk0 : ¬ kd = 0) (hp2 : pts = if kd = 2 then 480 else 240) (hp3 : pts ≤ 480) (H : Heap) (locs : List Loc), MO D (AW (C, ad, G cy ad e) sz) s.heap (C, ad, G cy ad e) H locs → ∀ (ls : Array Slot), lv_has ls 4 [(0, .ref (ad 3)), (1, .int (nI kd))] → W p9 l e9 ({ frames := 2, cells := 0, slots := 0, locals := 37 } : Room) s m args below meth c H locs 0 0 (MQ below (va_Qv (fun (u : WT) => u = (C, ad, G cy ad (takeC e kd))) (WB D cy (AW (C, ad, G cy ad e) sz)) (AW (C, ad, G cy ad e) sz)) args s 0 0 (AW (C, ad, G cy ad e) sz)) (F0 m 19 ls [.int (nI pts)]) := by
    intro pts hk0 hp2 hp3 H locs w ls hl
    refine lv_istore_n (lv' := [(2, .int (nI pts)), (0, .ref (ad 3)), (1, .int (nI kd))]) hx hb dX0_take_19 rfl hl (by decide) rfl (fun ls hl => ?_)
    refine lv_iload_n hx hb dX0_take_20 rfl (lv_at hl 0 rfl) ?_
    refine lv_aload_n hx hb dX0_take_21 rfl (lv_at hl 1 rfl) ?_
    refine mx_Vi M w (kX0_pointsInLots l D cy C ad e H.size hB hLW) (cwV 0 M.1.2.2.2.2 gX0_take_X0_pointsInLots rfl rfl rfl (by decide +kernel) ⟨Nat.le_of_ble_eq_true rfl, Nat.le_of_ble_eq_true rfl⟩) (mo_rec M w (hB 3 (by decide)) (g := G cy ad e) (sh_3 cy ad (e 3)) rfl) rfl hl.1 rfl (Nat.le_of_ble_eq_true rfl) dX0_take_22 ⟨by decide, by decide⟩ (fun r22 u1 H locs hp1 w => ?_)
    obtain ⟨rfl, rfl⟩ := hp1
    refine lv_isub hx hb dX0_take_25 ?_
    refine lv_iconst (v := nI 0) hx hb dX0_take_26 (by decide) ?_
    refine mi_max0 M hl.1 k100 k100a k100b k100c (by decide) (Nat.le_of_ble_eq_true rfl) (by decide) (by decide) (a := pts) (b := (totC e)) (by omega) (by omega) dX0_take_27 ?_
    refine lv_istore_n (lv' := [(3, .int (nI (pts - (totC e)))), (2, .int (nI pts)), (0, .ref (ad 3)), (1, .int (nI kd))]) hx hb dX0_take_30 rfl hl (by decide) rfl (fun ls hl => ?_)
    refine lv_aload_n hx hb dX0_take_31 rfl (lv_at hl 2 rfl) ?_
    refine ex_get M w (hB 3 (by decide)) (sh_3 cy ad (e 3)) rfl inX0 5 (by decide) f66 rfl dX0_take_32 ?_
    refine lv_iload_n hx hb dX0_take_35 rfl (lv_at hl 0 rfl) ?_
    refine mi_add hx hb dX0_take_36 ?_
    refine lv_sipush (v := nI 2400) hx hb dX0_take_37 (by decide) ?_
    refine mi_le hx hb (by omega) (by decide) 54 dX0_take_40 (by decide) (fun h40 => ?_) (fun h40 => ?_)
    · refine lv_aload_n hx hb dX0_take_54 rfl (lv_at hl 2 rfl) ?_
      refine lv_iload_n hx hb dX0_take_55 rfl (lv_at hl 1 rfl) ?_
      refine mx_Vi M w (kX0_drawFromLots l D cy C ad e H.size pts hB hLW (by omega)) (cwV 1 M.1.2.2.2.2 gX0_take_X0_drawFromLots rfl rfl rfl (by decide +kernel) ⟨Nat.le_of_ble_eq_true rfl, Nat.le_of_ble_eq_true rfl⟩) (mo_rec M w (hB 3 (by decide)) (g := G cy ad e) (sh_3 cy ad (e 3)) rfl) rfl hl.1 rfl (Nat.le_of_ble_eq_true rfl) dX0_take_56 ⟨by decide, by decide⟩ (fun r56 u1 H locs hp1 w => ?_)
      obtain ⟨rfl, rfl⟩ := hp1
      refine lv_pop hx hb dX0_take_59 rfl ?_
      refine lv_aload_n hx hb dX0_take_60 rfl (lv_at hl 2 rfl) ?_
      refine lv_dup hx hb dX0_take_61 rfl ?_
      refine ex_get M w (hB 3 (by decide)) (sh_3 cy ad ((drwC e pts) 3)) rfl inX0 5 (by decide) f66 (congrArg (fun z => some (Value.int (nI z))) (drwC_off e pts (by first | decide | (unfold PB; omega)) _)) dX0_take_62 ?_
      refine lv_iload_n hx hb dX0_take_65 rfl (lv_at hl 0 rfl) ?_
      refine mi_add hx hb dX0_take_66 ?_
      refine ex_put M w (hB 3 (by decide)) (sh_3 cy ad ((drwC e pts) 3)) rfl inX0 tyX0 tyX0_ok nmX0 5 (by decide) f66 rfl (v := ((e 3 5) + (pts - (totC e)))) rfl rfl (Nat.le_of_ble_eq_true rfl) (sh_3 cy ad _) dX0_take_67 (fun H locs w => ?_)
      refine lv_aload_n hx hb dX0_take_70 rfl (lv_at hl 2 rfl) ?_
      refine lv_dup hx hb dX0_take_71 rfl ?_
      refine ex_get M w (hB 3 (by decide)) (sh_3 cy ad ((es (drwC e pts) 3 5 ((e 3 5) + (pts - (totC e)))) 3)) rfl inX0 7 (by decide) f72 (congrArg (fun z => some (Value.int (nI z))) ((es_ne _ _ (by first | omega | (unfold PB; omega) | (unfold RB; omega) | (unfold PB RB; omega))).trans (drwC_off e pts (by first | decide | (unfold PB; omega)) _))) dX0_take_72 ?_
      refine lv_iload_n hx hb dX0_take_75 rfl (lv_at hl 1 rfl) ?_
      refine mi_add hx hb dX0_take_76 ?_
      refine ex_put M w (hB 3 (by decide)) (sh_3 cy ad ((es (drwC e pts) 3 5 ((e 3 5) + (pts - (totC e)))) 3)) rfl inX0 tyX0 tyX0_ok nmX0 7 (by decide) f72 rfl (v := ((e 3 7) + pts)) rfl rfl (Nat.le_of_ble_eq_true rfl) (sh_3 cy ad _) dX0_take_77 (fun H locs w => ?_)
      exact mx_vret M w hr (by unfold takeC; rw [if_neg hk0, ← hp2]; unfold takC; rw [if_neg (by omega)]) (by decide) (by decide) dX0_take_80
    · refine lv_aload_n hx hb dX0_take_43 rfl (lv_at hl 2 rfl) ?_
      refine lv_dup hx hb dX0_take_44 rfl ?_
      refine ex_get M w (hB 3 (by decide)) (sh_3 cy ad (e 3)) rfl inX0 10 (by decide) f81 rfl dX0_take_45 ?_
      refine lv_iconst (v := nI 1) hx hb dX0_take_48 (by decide) ?_
      refine mi_add hx hb dX0_take_49 ?_
      refine ex_put M w (hB 3 (by decide)) (sh_3 cy ad (e 3)) rfl inX0 tyX0 tyX0_ok nmX0 10 (by decide) f81 rfl (v := ((e 3 10) + 1)) rfl rfl (Nat.le_of_ble_eq_true rfl) (sh_3 cy ad _) dX0_take_50 (fun H locs w => ?_)
      exact mx_vret M w hr (by unfold takeC; rw [if_neg hk0, ← hp2]; unfold takC; rw [if_pos (by omega)]) (by decide) (by decide) dX0_take_53
  have hl : lv_has ls 4 [(0, .ref (ad 3)), (1, .int (nI kd))] := hl
  refine lv_iload_n hx hb dX0_take_0 rfl (lv_at hl 1 rfl) ?_
  refine mi_if_ne hx hb (by omega) 5 dX0_take_1 (by decide) (fun h1 => ?_) (fun h1 => ?_)
  · refine lv_iload_n hx hb dX0_take_5 rfl (lv_at hl 1 rfl) ?_
    refine lv_iconst (v := nI 2) hx hb dX0_take_6 (by decide) ?_
    refine mi_ne hx hb (by omega) (by decide) 16 dX0_take_7 (by decide) (fun h7 => ?_) (fun h7 => ?_)
    · refine lv_sipush (v := nI 240) hx hb dX0_take_16 (by decide) ?_
      exact cut19 240 h1 (if_neg h7).symm (by decide)  _ _ w ls (lv_sub hl [0, 1] rfl)
    · refine lv_sipush (v := nI 480) hx hb dX0_take_10 (by decide) ?_
      refine lv_goto (tgt := 19) hx hb dX0_take_13 (by decide) ?_
      exact cut19 480 h1 (if_pos h7).symm (by decide)  _ _ w ls (lv_sub hl [0, 1] rfl)
  · exact mx_vret M w hr (by unfold takeC; rw [if_pos h1]) (by decide) (by decide) dX0_take_4

set_option maxHeartbeats 4000000 in
set_option maxRecDepth 100000 in
/-- Ledger.payOn(person, day) -/
theorem kX0_payOn (l : Launch) (D : va_G) (cy : Nat → ClassId) (C : List Nat) (ad : Nat → Nat) (e : Nat → Nat → Nat) (sz : Nat) (p dy : Nat) (hp : p < 8) (hC : ∀ k, k < 9 → PB p + k ∈ C) (hB : ∀ k, k < 13 → k ∈ C) (hLW : LW e) (hnx : e 3 4 ≤ 20) (hPy : PPy e p) (hd : dy ≤ 3600) : Met l yX0_payOn wsX0_payOn ({ frames := 2, cells := 0, slots := 0, locals := 37 } : Room) (PreM D cy (C, ad, G cy ad e) sz [.ref (ad 3), .ref (ad (PB p)), .int (nI dy)]) (va_Qv (fun (u : WT) => u = (C, ad, G cy ad (payC e p dy))) (WB D cy (AW (C, ad, G cy ad e) sz)) (AW (C, ad, G cy ad e) sz)) 0 0 (AW (C, ad, G cy ad e) sz) := by
  refine mx_start (cc := cX0_payOn) (maxL := 3) (ret := none) (by decide) rfl (Nat.le_of_ble_eq_true rfl) ?_
  intro p9 e9 s m args below meth c hsz hr hnm M w ls hl
  have hx := M.1.1
  have hb := M.1.2.1
  have inX0 : ∀ w ∈ wsX00, w ∈ wsX0_payOn := by decide +kernel
  have inX1 : ∀ w ∈ wsX10, w ∈ wsX0_payOn := by decide +kernel
  have f63 : Cond.fieldLink RX0 63 RX0 "nextPayout" "I" ∈ wsX0_payOn := by decide +kernel
  have f78 : Cond.fieldLink RX0 78 RX0 "sumPaid" "I" ∈ wsX0_payOn := by decide +kernel
  have f106 : Cond.fieldLink RX0 106 RX1 "ownPayoutCount" "I" ∈ wsX0_payOn := by decide +kernel
  have f109 : Cond.fieldLink RX0 109 RX1 "payoutDays" "[I" ∈ wsX0_payOn := by decide +kernel
  have f112 : Cond.fieldLink RX0 112 RX1 "payoutPoints" "[I" ∈ wsX0_payOn := by decide +kernel
  have cut0 : ∀ (n9 : Nat) (E1 : Nat → Nat → Nat) (hE : paynC p dy (E1 (PB p) 13 - E1 3 4) E1 = payC e p dy) (hL1 : LW E1) (hn1 : E1 3 4 ≤ 20) (hP1 : PPy E1 p) (_hm : E1 (PB p) 13 - E1 3 4 < n9) (H : Heap) (locs : List Loc), MO D (AW (C, ad, G cy ad e) sz) s.heap (C, ad, G cy ad E1) H locs → ∀ (ls : Array Slot), lv_has ls 3 [(0, .ref (ad 3)), (1, .ref (ad (PB p))), (2, .int (nI dy))] → W p9 l e9 ({ frames := 2, cells := 0, slots := 0, locals := 37 } : Room) s m args below meth c H locs 0 0 (MQ below (va_Qv (fun (u : WT) => u = (C, ad, G cy ad (payC e p dy))) (WB D cy (AW (C, ad, G cy ad e) sz)) (AW (C, ad, G cy ad e) sz)) args s 0 0 (AW (C, ad, G cy ad e) sz)) (F0 m 0 ls []) := by
    intro n9
    induction n9 with
    | zero => intro E1 hE hL1 hn1 hP1 _hm; exact absurd _hm (Nat.not_lt_zero _)
    | succ n9 ih =>
      intro E1 hE hL1 hn1 hP1 _hm H locs w ls hl
      refine lv_aload_n hx hb dX0_payOn_0 rfl (lv_at hl 0 rfl) ?_
      obtain ⟨g1, g2⟩ := id hP1
      refine ex_get M w (hB 3 (by decide)) (sh_3 cy ad (E1 3)) rfl inX0 4 (by decide) f63 rfl dX0_payOn_1 ?_
      refine lv_aload_n hx hb dX0_payOn_4 rfl (lv_at hl 1 rfl) ?_
      refine ex_get M w (show (PB p) ∈ C from hC 0 (by decide)) (sh_P0 cy ad (E1 (PB p)) hp) rfl inX1 13 (by decide) f106 rfl dX0_payOn_5 ?_
      refine mi_ge hx hb (by omega) (by omega) 59 dX0_payOn_8 (by decide) (fun h8 => ?_) (fun h8 => ?_)
      · exact mx_vret M w hr (by rw [← hE, paynC_x (Or.inl h8)]) (by decide) (by decide) dX0_payOn_59
      · have q1 := g2 _ h8
        refine lv_aload_n hx hb dX0_payOn_11 rfl (lv_at hl 1 rfl) ?_
        refine ex_get M w (show (PB p) ∈ C from hC 0 (by decide)) (sh_P0 cy ad (E1 (PB p)) hp) rfl inX1 11 (by decide) f109 rfl dX0_payOn_12 ?_
        refine lv_aload_n hx hb dX0_payOn_15 rfl (lv_at hl 0 rfl) ?_
        refine ex_get M w (hB 3 (by decide)) (sh_3 cy ad (E1 3)) rfl inX0 4 (by decide) f63 rfl dX0_payOn_16 ?_
        refine ex_iald M w (hC 6 (by decide)) (fun v => sh_P6 cy ad v hp) (by omega) (by decide) rfl dX0_payOn_19 ?_
        refine lv_iload_n hx hb dX0_payOn_20 rfl (lv_at hl 2 rfl) ?_
        refine mi_gt hx hb (by omega) (by omega) 59 dX0_payOn_21 (by decide) (fun h21 => ?_) (fun h21 => ?_)
        · exact mx_vret M w hr (by rw [← hE, paynC_x (Or.inr h21)]) (by decide) (by decide) dX0_payOn_59
        · refine lv_aload_n hx hb dX0_payOn_24 rfl (lv_at hl 0 rfl) ?_
          refine lv_dup hx hb dX0_payOn_25 rfl ?_
          refine ex_get M w (hB 3 (by decide)) (sh_3 cy ad (E1 3)) rfl inX0 9 (by decide) f78 rfl dX0_payOn_26 ?_
          refine lv_aload_n hx hb dX0_payOn_29 rfl (lv_at hl 0 rfl) ?_
          refine lv_aload_n hx hb dX0_payOn_30 rfl (lv_at hl 1 rfl) ?_
          refine ex_get M w (show (PB p) ∈ C from hC 0 (by decide)) (sh_P0 cy ad (E1 (PB p)) hp) rfl inX1 12 (by decide) f112 rfl dX0_payOn_31 ?_
          refine lv_aload_n hx hb dX0_payOn_34 rfl (lv_at hl 0 rfl) ?_
          refine ex_get M w (hB 3 (by decide)) (sh_3 cy ad (E1 3)) rfl inX0 4 (by decide) f63 rfl dX0_payOn_35 ?_
          refine ex_iald M w (hC 7 (by decide)) (fun v => sh_P7 cy ad v hp) (by omega) (by decide) rfl dX0_payOn_38 ?_
          refine mx_Vi M w (kX0_drawFromLots l D cy C ad E1 H.size (E1 (PB p + 7) (E1 3 4)) hB hL1 (by omega)) (cwV 1 M.1.2.2.2.2 gX0_payOn_X0_drawFromLots rfl rfl rfl (by decide +kernel) ⟨Nat.le_of_ble_eq_true rfl, Nat.le_of_ble_eq_true rfl⟩) (mo_rec M w (hB 3 (by decide)) (g := G cy ad E1) (sh_3 cy ad (E1 3)) rfl) rfl hl.1 rfl (Nat.le_of_ble_eq_true rfl) dX0_payOn_39 ⟨by decide, by decide⟩ (fun r39 u1 H locs hp1 w => ?_)
          obtain ⟨rfl, rfl⟩ := hp1
          refine mi_add hx hb dX0_payOn_42 ?_
          refine ex_put M w (hB 3 (by decide)) (sh_3 cy ad ((drwC E1 (E1 (PB p + 7) (E1 3 4))) 3)) rfl inX0 tyX0 tyX0_ok nmX0 9 (by decide) f78 rfl (v := ((E1 3 9) + (min (E1 (PB p + 7) (E1 3 4)) (totC E1)))) rfl rfl (Nat.le_of_ble_eq_true rfl) (sh_3 cy ad _) dX0_payOn_43 (fun H locs w => ?_)
          refine lv_aload_n hx hb dX0_payOn_46 rfl (lv_at hl 0 rfl) ?_
          refine lv_dup hx hb dX0_payOn_47 rfl ?_
          refine ex_get M w (hB 3 (by decide)) (sh_3 cy ad ((es (drwC E1 (E1 (PB p + 7) (E1 3 4))) 3 9 ((E1 3 9) + (min (E1 (PB p + 7) (E1 3 4)) (totC E1)))) 3)) rfl inX0 4 (by decide) f63 (congrArg (fun z => some (Value.int (nI z))) ((es_ne _ _ (by first | omega | (unfold PB; omega) | (unfold RB; omega) | (unfold PB RB; omega))).trans (drwC_off E1 (E1 (PB p + 7) (E1 3 4)) (by first | decide | (unfold PB; omega)) _))) dX0_payOn_48 ?_
          refine lv_iconst (v := nI 1) hx hb dX0_payOn_51 (by decide) ?_
          refine mi_add hx hb dX0_payOn_52 ?_
          refine ex_put M w (hB 3 (by decide)) (sh_3 cy ad ((es (drwC E1 (E1 (PB p + 7) (E1 3 4))) 3 9 ((E1 3 9) + (min (E1 (PB p + 7) (E1 3 4)) (totC E1)))) 3)) rfl inX0 tyX0 tyX0_ok nmX0 4 (by decide) f63 rfl (v := ((E1 3 4) + 1)) rfl rfl (Nat.le_of_ble_eq_true rfl) (sh_3 cy ad _) dX0_payOn_53 (fun H locs w => ?_)
          refine lv_goto (tgt := 0) hx hb dX0_payOn_56 (by decide) ?_
          exact ih (paysC E1 p) ((paynC_s h8 h21).trans hE) (LW_pays hL1 p) (by rw [pays_4]; omega) (hP1.eq ((Off_pays E1 p).P p))  (by first | omega | (rw [(Off_pays E1 p).P0, pays_4]; omega)) _ _ w ls (lv_sub hl [0, 1, 2] rfl)
  have hl : lv_has ls 3 [(0, .ref (ad 3)), (1, .ref (ad (PB p))), (2, .int (nI dy))] := hl
  exact cut0 (e (PB p) 13 - e 3 4 + 1) e rfl hLW hnx hPy  (by first | omega | (rw [(Off_pays E1 p).P0, pays_4]; omega)) _ _ w ls (lv_sub hl [0, 1, 2] rfl)

set_option maxHeartbeats 4000000 in
set_option maxRecDepth 100000 in
/-- Ledger.goThrough(person, last) -/
theorem kX0_goThrough (l : Launch) (D : va_G) (cy : Nat → ClassId) (C : List Nat) (ad : Nat → Nat) (e : Nat → Nat → Nat) (sz : Nat) (p t0 : Nat) (hp : p < 8) (hC : ∀ k, k < 9 → PB p + k ∈ C) (hB : ∀ k, k < 13 → k ∈ C) (hP0 : P0 e p) (hCh : PCh e p) (hPy : PPy e p) (hLv : PLv e p) (ht : t0 ≤ 3600) : Met l yX0_goThrough wsX0_goThrough ({ frames := 3, cells := 0, slots := 0, locals := 60 } : Room) (PreM D cy (C, ad, G cy ad e) sz [.ref (ad 3), .ref (ad (PB p)), .int (nI t0)]) (va_Qv (fun (u : WT) => u = (C, ad, G cy ad (goC e p (t0 + 1 - e (PB p) 0)))) (WB D cy (AW (C, ad, G cy ad e) sz)) (AW (C, ad, G cy ad e) sz)) 0 0 (AW (C, ad, G cy ad e) sz) := by
  refine mx_start (cc := cX0_goThrough) (maxL := 4) (ret := none) (by decide) rfl (Nat.le_of_ble_eq_true rfl) ?_
  intro p9 e9 s m args below meth c hsz hr hnm M w ls hl
  have hx := M.1.1
  have hb := M.1.2.1
  have inX1 : ∀ w ∈ wsX10, w ∈ wsX0_goThrough := by decide +kernel
  have f21 : Cond.fieldLink RX0 21 RX1 "firstDay" "I" ∈ wsX0_goThrough := by decide +kernel
  have g0 := hP0.1
  have cut9 : ∀ (n9 : Nat) (k dy : Nat) (E1 : Nat → Nat → Nat) (hE : E1 = goC e p k) (hdy : dy = e (PB p) 0 + k) (hk : dy ≤ t0 + 1 ∨ k = 0) (hg : GW E1 p) (_hm : 3602 - dy < n9) (H : Heap) (locs : List Loc), MO D (AW (C, ad, G cy ad e) sz) s.heap (C, ad, G cy ad E1) H locs → ∀ (ls : Array Slot), lv_has ls 4 [(0, .ref (ad 3)), (1, .ref (ad (PB p))), (2, .int (nI t0)), (3, .int (nI dy))] → W p9 l e9 ({ frames := 3, cells := 0, slots := 0, locals := 60 } : Room) s m args below meth c H locs 0 0 (MQ below (va_Qv (fun (u : WT) => u = (C, ad, G cy ad (goC e p (t0 + 1 - e (PB p) 0)))) (WB D cy (AW (C, ad, G cy ad e) sz)) (AW (C, ad, G cy ad e) sz)) args s 0 0 (AW (C, ad, G cy ad e) sz)) (F0 m 9 ls []) := by
    intro n9
    induction n9 with
    | zero => intro k dy E1 hE hdy hk hg _hm; exact absurd _hm (Nat.not_lt_zero _)
    | succ n9 ih =>
      intro k dy E1 hE hdy hk hg _hm H locs w ls hl
      refine lv_iload_n hx hb dX0_goThrough_9 rfl (lv_at hl 3 rfl) ?_
      refine lv_iload_n hx hb dX0_goThrough_10 rfl (lv_at hl 2 rfl) ?_
      refine mi_gt hx hb (by omega) (by omega) 61 dX0_goThrough_11 (by decide) (fun h11 => ?_) (fun h11 => ?_)
      · exact mx_vret M w hr (by rw [hE, show k = t0 + 1 - e (PB p) 0 by omega]) (by decide) (by decide) dX0_goThrough_61
      · refine lv_aload_n hx hb dX0_goThrough_14 rfl (lv_at hl 1 rfl) ?_
        refine lv_iload_n hx hb dX0_goThrough_15 rfl (lv_at hl 3 rfl) ?_
        refine mx_Si M w (kX0_isDayOfEarning l D cy C ad E1 H.size p dy hp hC hg.2.2.1.1 (by omega)) (va_cwS 2 M.1.2.2.2.2 gX0_goThrough_X0_isDayOfEarning rfl rfl rfl (by decide +kernel) ⟨Nat.le_of_ble_eq_true rfl, Nat.le_of_ble_eq_true rfl⟩) rfl hl.1 rfl (Nat.le_of_ble_eq_true rfl) dX0_goThrough_16 ⟨by decide, by decide⟩ (fun r16 u1 H locs hp1 w => ?_)
        obtain ⟨rfl, rfl⟩ := hp1
        refine mi_if_eq hx hb (bt_lt _) 35 dX0_goThrough_19 (by decide) (fun h19 => ?_) (fun h19 => ?_)
        · have q3 : mthC E1 p dy = E1 := by unfold mthC; rw [if_neg (by rw [bt_f h19]; exact Bool.false_ne_true)]
          rw [← q3] at w
          have g1 := GW_mth hg (dy := dy) (by omega)
          have g2 := GW_expire g1 dy
          have g3 := GW_take g2 (expireC (mthC E1 p dy) dy (PB p + 8) dy)
          refine lv_aload_n hx hb dX0_goThrough_35 rfl (lv_at hl 0 rfl) ?_
          refine lv_iload_n hx hb dX0_goThrough_36 rfl (lv_at hl 3 rfl) ?_
          refine mx_Vv M w (kX0_expireOn l D cy C ad (mthC E1 p dy) H.size dy hB g1.1 (by omega)) (cwV 1 M.1.2.2.2.2 gX0_goThrough_X0_expireOn rfl rfl rfl (by decide +kernel) ⟨Nat.le_of_ble_eq_true rfl, Nat.le_of_ble_eq_true rfl⟩) (mo_rec M w (hB 3 (by decide)) (g := G cy ad (mthC E1 p dy)) (sh_3 cy ad ((mthC E1 p dy) 3)) rfl) rfl hl.1 rfl (Nat.le_of_ble_eq_true rfl) dX0_goThrough_37 ⟨by decide, by decide⟩ (fun u1 H locs hp1 w => ?_)
          obtain rfl := hp1
          refine lv_aload_n hx hb dX0_goThrough_40 rfl (lv_at hl 0 rfl) ?_
          refine lv_aload_n hx hb dX0_goThrough_41 rfl (lv_at hl 1 rfl) ?_
          refine lv_iload_n hx hb dX0_goThrough_42 rfl (lv_at hl 3 rfl) ?_
          refine mx_Vi M w (kX1_leaveOn l D cy C ad (expireC (mthC E1 p dy) dy) H.size p dy hp hC (by omega)) (cwV 1 M.1.2.2.2.2 gX0_goThrough_X1_leaveOn rfl rfl rfl (by decide +kernel) ⟨Nat.le_of_ble_eq_true rfl, Nat.le_of_ble_eq_true rfl⟩) (mo_rec M w (show (PB p) ∈ C from hC 0 (by decide)) (g := G cy ad (expireC (mthC E1 p dy) dy)) (sh_P0 cy ad ((expireC (mthC E1 p dy) dy) (PB p)) hp) rfl) rfl hl.1 rfl (Nat.le_of_ble_eq_true rfl) dX0_goThrough_43 ⟨by decide, by decide⟩ (fun r43 u1 H locs hp1 w => ?_)
          obtain ⟨rfl, rfl⟩ := hp1
          refine mx_Vv M w (kX0_take l D cy C ad (expireC (mthC E1 p dy) dy) H.size ((expireC (mthC E1 p dy) dy) (PB p + 8) dy) hB g2.1 (g2.2.2.2.2.2 dy (by omega))) (cwV 1 M.1.2.2.2.2 gX0_goThrough_X0_take rfl rfl rfl (by decide +kernel) ⟨Nat.le_of_ble_eq_true rfl, Nat.le_of_ble_eq_true rfl⟩) (mo_rec M w (hB 3 (by decide)) (g := G cy ad (expireC (mthC E1 p dy) dy)) (sh_3 cy ad ((expireC (mthC E1 p dy) dy) 3)) rfl) rfl hl.1 rfl (Nat.le_of_ble_eq_true rfl) dX0_goThrough_46 ⟨by decide, by decide⟩ (fun u1 H locs hp1 w => ?_)
          obtain rfl := hp1
          refine lv_aload_n hx hb dX0_goThrough_49 rfl (lv_at hl 0 rfl) ?_
          refine lv_aload_n hx hb dX0_goThrough_50 rfl (lv_at hl 1 rfl) ?_
          refine lv_iload_n hx hb dX0_goThrough_51 rfl (lv_at hl 3 rfl) ?_
          refine mx_Vv M w (kX0_payOn l D cy C ad (takeC (expireC (mthC E1 p dy) dy) ((expireC (mthC E1 p dy) dy) (PB p + 8) dy)) H.size p dy hp hC hB g3.1 g3.2.1 g3.2.2.2.2.1 (by omega)) (cwV 2 M.1.2.2.2.2 gX0_goThrough_X0_payOn rfl rfl rfl (by decide +kernel) ⟨Nat.le_of_ble_eq_true rfl, Nat.le_of_ble_eq_true rfl⟩) (mo_rec M w (hB 3 (by decide)) (g := G cy ad (takeC (expireC (mthC E1 p dy) dy) ((expireC (mthC E1 p dy) dy) (PB p + 8) dy))) (sh_3 cy ad ((takeC (expireC (mthC E1 p dy) dy) ((expireC (mthC E1 p dy) dy) (PB p + 8) dy)) 3)) rfl) rfl hl.1 rfl (Nat.le_of_ble_eq_true rfl) dX0_goThrough_52 ⟨by decide, by decide⟩ (fun u1 H locs hp1 w => ?_)
          obtain rfl := hp1
          refine lv_iinc (v := nI (dy + 1)) (lv' := [(3, .int (nI (dy + 1))), (0, .ref (ad 3)), (1, .ref (ad (PB p))), (2, .int (nI t0))]) hx hb dX0_goThrough_55 hl (k := 3) rfl (nI_inc _ 1) (by decide) rfl (fun ls hl => ?_)
          refine lv_goto (tgt := 9) hx hb dX0_goThrough_58 (by decide) ?_
          exact ih (k + 1) (dy + 1) (dayC E1 p dy) (by rw [hE, hdy]; rfl) (by omega) (Or.inl (by omega)) (GW_day hg (by omega))  (by omega) _ _ w ls (lv_sub hl [1, 2, 3, 0] rfl)
        · have q1 := of_decide_eq_true (bt_t h19)
          refine lv_aload_n hx hb dX0_goThrough_22 rfl (lv_at hl 0 rfl) ?_
          refine lv_aload_n hx hb dX0_goThrough_23 rfl (lv_at hl 1 rfl) ?_
          refine lv_iload_n hx hb dX0_goThrough_24 rfl (lv_at hl 3 rfl) ?_
          refine mx_Si M w (kX0_pointsOfMonth l D cy C ad E1 H.size p dy hp hC hg.2.2.1 hg.2.2.2.1 (by omega) (by omega)) (va_cwS 2 M.1.2.2.2.2 gX0_goThrough_X0_pointsOfMonth rfl rfl rfl (by decide +kernel) ⟨Nat.le_of_ble_eq_true rfl, Nat.le_of_ble_eq_true rfl⟩) rfl hl.1 rfl (Nat.le_of_ble_eq_true rfl) dX0_goThrough_25 ⟨by decide, by decide⟩ (fun r25 u1 H locs hp1 w => ?_)
          obtain ⟨rfl, rfl⟩ := hp1
          refine lv_iload_n hx hb dX0_goThrough_28 rfl (lv_at hl 3 rfl) ?_
          refine mx_Si M w (kX0_expiryOf l D cy C ad E1 H.size dy (by omega) (by omega)) (va_cwS 1 M.1.2.2.2.2 gX0_goThrough_X0_expiryOf rfl rfl rfl (by decide +kernel) ⟨Nat.le_of_ble_eq_true rfl, Nat.le_of_ble_eq_true rfl⟩) rfl hl.1 rfl (Nat.le_of_ble_eq_true rfl) dX0_goThrough_29 ⟨by decide, by decide⟩ (fun r29 u1 H locs hp1 w => ?_)
          obtain ⟨rfl, rfl⟩ := hp1
          refine mx_Vv M w (kX0_earn l D cy C ad E1 H.size (ptsC E1 p dy) (expC dy) hB hg.1 (ptsC_le hg dy) (by unfold expC; omega)) (cwV 2 M.1.2.2.2.2 gX0_goThrough_X0_earn rfl rfl rfl (by decide +kernel) ⟨Nat.le_of_ble_eq_true rfl, Nat.le_of_ble_eq_true rfl⟩) (mo_rec M w (hB 3 (by decide)) (g := G cy ad E1) (sh_3 cy ad (E1 3)) rfl) rfl hl.1 rfl (Nat.le_of_ble_eq_true rfl) dX0_goThrough_32 ⟨by decide, by decide⟩ (fun u1 H locs hp1 w => ?_)
          obtain rfl := hp1
          have q3 : mthC E1 p dy = earnC E1 (ptsC E1 p dy) (expC dy) := by unfold mthC; rw [if_pos (bt_t h19)]
          rw [← q3] at w
          have g1 := GW_mth hg (dy := dy) (by omega)
          have g2 := GW_expire g1 dy
          have g3 := GW_take g2 (expireC (mthC E1 p dy) dy (PB p + 8) dy)
          refine lv_aload_n hx hb dX0_goThrough_35 rfl (lv_at hl 0 rfl) ?_
          refine lv_iload_n hx hb dX0_goThrough_36 rfl (lv_at hl 3 rfl) ?_
          refine mx_Vv M w (kX0_expireOn l D cy C ad (mthC E1 p dy) H.size dy hB g1.1 (by omega)) (cwV 1 M.1.2.2.2.2 gX0_goThrough_X0_expireOn rfl rfl rfl (by decide +kernel) ⟨Nat.le_of_ble_eq_true rfl, Nat.le_of_ble_eq_true rfl⟩) (mo_rec M w (hB 3 (by decide)) (g := G cy ad (mthC E1 p dy)) (sh_3 cy ad ((mthC E1 p dy) 3)) rfl) rfl hl.1 rfl (Nat.le_of_ble_eq_true rfl) dX0_goThrough_37 ⟨by decide, by decide⟩ (fun u1 H locs hp1 w => ?_)
          obtain rfl := hp1
          refine lv_aload_n hx hb dX0_goThrough_40 rfl (lv_at hl 0 rfl) ?_
          refine lv_aload_n hx hb dX0_goThrough_41 rfl (lv_at hl 1 rfl) ?_
          refine lv_iload_n hx hb dX0_goThrough_42 rfl (lv_at hl 3 rfl) ?_
          refine mx_Vi M w (kX1_leaveOn l D cy C ad (expireC (mthC E1 p dy) dy) H.size p dy hp hC (by omega)) (cwV 1 M.1.2.2.2.2 gX0_goThrough_X1_leaveOn rfl rfl rfl (by decide +kernel) ⟨Nat.le_of_ble_eq_true rfl, Nat.le_of_ble_eq_true rfl⟩) (mo_rec M w (show (PB p) ∈ C from hC 0 (by decide)) (g := G cy ad (expireC (mthC E1 p dy) dy)) (sh_P0 cy ad ((expireC (mthC E1 p dy) dy) (PB p)) hp) rfl) rfl hl.1 rfl (Nat.le_of_ble_eq_true rfl) dX0_goThrough_43 ⟨by decide, by decide⟩ (fun r43 u1 H locs hp1 w => ?_)
          obtain ⟨rfl, rfl⟩ := hp1
          refine mx_Vv M w (kX0_take l D cy C ad (expireC (mthC E1 p dy) dy) H.size ((expireC (mthC E1 p dy) dy) (PB p + 8) dy) hB g2.1 (g2.2.2.2.2.2 dy (by omega))) (cwV 1 M.1.2.2.2.2 gX0_goThrough_X0_take rfl rfl rfl (by decide +kernel) ⟨Nat.le_of_ble_eq_true rfl, Nat.le_of_ble_eq_true rfl⟩) (mo_rec M w (hB 3 (by decide)) (g := G cy ad (expireC (mthC E1 p dy) dy)) (sh_3 cy ad ((expireC (mthC E1 p dy) dy) 3)) rfl) rfl hl.1 rfl (Nat.le_of_ble_eq_true rfl) dX0_goThrough_46 ⟨by decide, by decide⟩ (fun u1 H locs hp1 w => ?_)
          obtain rfl := hp1
          refine lv_aload_n hx hb dX0_goThrough_49 rfl (lv_at hl 0 rfl) ?_
          refine lv_aload_n hx hb dX0_goThrough_50 rfl (lv_at hl 1 rfl) ?_
          refine lv_iload_n hx hb dX0_goThrough_51 rfl (lv_at hl 3 rfl) ?_
          refine mx_Vv M w (kX0_payOn l D cy C ad (takeC (expireC (mthC E1 p dy) dy) ((expireC (mthC E1 p dy) dy) (PB p + 8) dy)) H.size p dy hp hC hB g3.1 g3.2.1 g3.2.2.2.2.1 (by omega)) (cwV 2 M.1.2.2.2.2 gX0_goThrough_X0_payOn rfl rfl rfl (by decide +kernel) ⟨Nat.le_of_ble_eq_true rfl, Nat.le_of_ble_eq_true rfl⟩) (mo_rec M w (hB 3 (by decide)) (g := G cy ad (takeC (expireC (mthC E1 p dy) dy) ((expireC (mthC E1 p dy) dy) (PB p + 8) dy))) (sh_3 cy ad ((takeC (expireC (mthC E1 p dy) dy) ((expireC (mthC E1 p dy) dy) (PB p + 8) dy)) 3)) rfl) rfl hl.1 rfl (Nat.le_of_ble_eq_true rfl) dX0_goThrough_52 ⟨by decide, by decide⟩ (fun u1 H locs hp1 w => ?_)
          obtain rfl := hp1
          refine lv_iinc (v := nI (dy + 1)) (lv' := [(3, .int (nI (dy + 1))), (0, .ref (ad 3)), (1, .ref (ad (PB p))), (2, .int (nI t0))]) hx hb dX0_goThrough_55 hl (k := 3) rfl (nI_inc _ 1) (by decide) rfl (fun ls hl => ?_)
          refine lv_goto (tgt := 9) hx hb dX0_goThrough_58 (by decide) ?_
          exact ih (k + 1) (dy + 1) (dayC E1 p dy) (by rw [hE, hdy]; rfl) (by omega) (Or.inl (by omega)) (GW_day hg (by omega))  (by omega) _ _ w ls (lv_sub hl [1, 2, 3, 0] rfl)
  have hl : lv_has ls 4 [(0, .ref (ad 3)), (1, .ref (ad (PB p))), (2, .int (nI t0))] := hl
  refine lv_aload_n hx hb dX0_goThrough_0 rfl (lv_at hl 0 rfl) ?_
  refine mx_Vv M w (kX0_clear l D cy C ad e s.heap.size hB) (cwV 0 M.1.2.2.2.2 gX0_goThrough_X0_clear rfl rfl rfl (by decide +kernel) ⟨Nat.le_of_ble_eq_true rfl, Nat.le_of_ble_eq_true rfl⟩) (mo_rec M w (hB 3 (by decide)) (g := G cy ad e) (sh_3 cy ad (e 3)) rfl) rfl hl.1 rfl (Nat.le_of_ble_eq_true rfl) dX0_goThrough_1 ⟨by decide, by decide⟩ (fun u1 H locs hp1 w => ?_)
  obtain rfl := hp1
  refine lv_aload_n hx hb dX0_goThrough_4 rfl (lv_at hl 1 rfl) ?_
  refine ex_get M w (show (PB p) ∈ C from hC 0 (by decide)) (sh_P0 cy ad ((clrC e) (PB p)) hp) rfl inX1 0 (by decide) f21 rfl dX0_goThrough_5 ?_
  refine W.eq (congrArg (fun z => F0 m 8 ls (.int (nI z) :: [])) (congrFun ((Off_clr e).P0 p) 0)) ?_
  refine lv_istore_n (lv' := [(3, .int (nI (e (PB p) 0))), (0, .ref (ad 3)), (1, .ref (ad (PB p))), (2, .int (nI t0))]) hx hb dX0_goThrough_8 rfl hl (by decide) rfl (fun ls hl => ?_)
  exact cut9 (3602 - e (PB p) 0 + 1) 0 (e (PB p) 0) (clrC e) rfl rfl (Or.inr rfl) (GW_clr hP0 hCh hPy hLv)  (by omega) _ _ w ls (lv_sub hl [1, 2, 3, 0] rfl)
