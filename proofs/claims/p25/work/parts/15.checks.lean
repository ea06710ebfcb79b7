set_option maxHeartbeats 4000000 in
set_option maxRecDepth 100000 in
/-- Leavebank.checkDay(earliest, day) -/
theorem kX3_checkDay (l : Launch) (hfl : l.stackTraces = false) (D : va_G) (cy : Nat → ClassId) (C : List Nat) (ad : Nat → Nat) (e : Nat → Nat → Nat) (sz : Nat) (a d : Nat) (ha : a ≤ 3600) (hd : d < 4294967296) : vx_Met l yX3_checkDay wsX3_checkDay ({ frames := 6, cells := 1, slots := 6, locals := 82 } : Room) (PreX D cy (C, ad, G cy ad e) sz [.int (nI a), .int (nI d)]) (va_Qv (fun (u : WT) => (a ≤ d ∧ d ≤ 3600) ∧ u = (C, ad, G cy ad e)) (WB D cy (AW (C, ad, G cy ad e) sz)) (AW (C, ad, G cy ad e) sz)) (vx_X (fun (z : String × WT) => ¬ (a ≤ d ∧ d ≤ 3600) ∧ z = (eIA, (C, ad, G cy ad e))) (XB D cy (AW (C, ad, G cy ad e) sz)) (AW (C, ad, G cy ad e) sz)) 1 6 (AW (C, ad, G cy ad e) sz) := by
  refine mxx_start (cc := cX3_checkDay) (maxL := 2) (ret := none) (by decide) rfl (Nat.le_of_ble_eq_true rfl) ?_
  intro p9 e9 s m args below meth c hsz hr hnm M w Th hxt ls hl
  have hx := M.1.1
  have hb := M.1.2.1
  have hl : lv_has ls 2 [(0, .int (nI a)), (1, .int (nI d))] := hl
  refine lv_iload_n hx hb dX3_checkDay_0 rfl (lv_at hl 1 rfl) ?_
  refine lv_iload_n hx hb dX3_checkDay_1 rfl (lv_at hl 0 rfl) ?_
  refine mw_lt hx hb hd (by omega) 12 dX3_checkDay_2 (by decide) (fun h2 => ?_) (fun h2 => ?_)
  · exact mx_throw M w Th hfl hxt (cls := eIA) (text := "day is out of range") (is := 181) (by decide +kernel) (show Cond.classLink RX3 28 eIA ∈ wsX3_checkDay by decide +kernel) (show Cond.initialized eIA ∈ wsX3_checkDay by decide +kernel) (by decide +kernel) rfl (show ∀ w ∈ (vx_atS RX3 32 eIA eUP).filter goodWord, w ∈ wsX3_checkDay by decide +kernel) (by decide +kernel) (by decide +kernel) hl.1 dX3_checkDay_12 dX3_checkDay_15 dX3_checkDay_16 dX3_checkDay_18 dX3_checkDay_21 (by decide) (Nat.le_of_ble_eq_true rfl) (by decide) (by decide) ⟨by omega, rfl⟩ (by decide) (by decide)
  · refine lv_iload_n hx hb dX3_checkDay_5 rfl (lv_at hl 1 rfl) ?_
    refine lv_sipush (v := nI 3600) hx hb dX3_checkDay_6 (by decide) ?_
    refine mw_le hx hb hd (by decide) 22 dX3_checkDay_9 (by decide) (fun h9 => ?_) (fun h9 => ?_)
    · refine vx_ret ?_
      exact mx_vret M w hr ⟨by omega, rfl⟩ (by decide) (by decide) dX3_checkDay_22
    · exact mx_throw M w Th hfl hxt (cls := eIA) (text := "day is out of range") (is := 181) (by decide +kernel) (show Cond.classLink RX3 28 eIA ∈ wsX3_checkDay by decide +kernel) (show Cond.initialized eIA ∈ wsX3_checkDay by decide +kernel) (by decide +kernel) rfl (show ∀ w ∈ (vx_atS RX3 32 eIA eUP).filter goodWord, w ∈ wsX3_checkDay by decide +kernel) (by decide +kernel) (by decide +kernel) hl.1 dX3_checkDay_12 dX3_checkDay_15 dX3_checkDay_16 dX3_checkDay_18 dX3_checkDay_21 (by decide) (Nat.le_of_ble_eq_true rfl) (by decide) (by decide) ⟨by omega, rfl⟩ (by decide) (by decide)

set_option maxHeartbeats 4000000 in
set_option maxRecDepth 100000 in
/-- Leavebank.checkDays(earliest, first, last) -/
theorem kX3_checkDays (l : Launch) (hfl : l.stackTraces = false) (D : va_G) (cy : Nat → ClassId) (C : List Nat) (ad : Nat → Nat) (e : Nat → Nat → Nat) (sz : Nat) (a f t : Nat) (ha : a ≤ 3600) (hf : f < 4294967296) (ht : t < 4294967296) : vx_Met l yX3_checkDays wsX3_checkDays ({ frames := 6, cells := 1, slots := 6, locals := 82 } : Room) (PreX D cy (C, ad, G cy ad e) sz [.int (nI a), .int (nI f), .int (nI t)]) (va_Qv (fun (u : WT) => (a ≤ f ∧ f ≤ t ∧ t ≤ 3600) ∧ u = (C, ad, G cy ad e)) (WB D cy (AW (C, ad, G cy ad e) sz)) (AW (C, ad, G cy ad e) sz)) (vx_X (fun (z : String × WT) => ¬ (a ≤ f ∧ f ≤ t ∧ t ≤ 3600) ∧ z = (eIA, (C, ad, G cy ad e))) (XB D cy (AW (C, ad, G cy ad e) sz)) (AW (C, ad, G cy ad e) sz)) 1 6 (AW (C, ad, G cy ad e) sz) := by
  refine mxx_start (cc := cX3_checkDays) (maxL := 3) (ret := none) (by decide) rfl (Nat.le_of_ble_eq_true rfl) ?_
  intro p9 e9 s m args below meth c hsz hr hnm M w Th hxt ls hl
  have hx := M.1.1
  have hb := M.1.2.1
  have hl : lv_has ls 3 [(0, .int (nI a)), (1, .int (nI f)), (2, .int (nI t))] := hl
  refine lv_iload_n hx hb dX3_checkDays_0 rfl (lv_at hl 1 rfl) ?_
  refine lv_iload_n hx hb dX3_checkDays_1 rfl (lv_at hl 0 rfl) ?_
  refine mw_lt hx hb hf (by omega) 17 dX3_checkDays_2 (by decide) (fun h2 => ?_) (fun h2 => ?_)
  · exact mx_throw M w Th hfl hxt (cls := eIA) (text := "first or last is out of range") (is := 183) (by decide +kernel) (show Cond.classLink RX3 28 eIA ∈ wsX3_checkDays by decide +kernel) (show Cond.initialized eIA ∈ wsX3_checkDays by decide +kernel) (by decide +kernel) rfl (show ∀ w ∈ (vx_atS RX3 32 eIA eUP).filter goodWord, w ∈ wsX3_checkDays by decide +kernel) (by decide +kernel) (by decide +kernel) hl.1 dX3_checkDays_17 dX3_checkDays_20 dX3_checkDays_21 dX3_checkDays_23 dX3_checkDays_26 (by decide) (Nat.le_of_ble_eq_true rfl) (by decide) (by decide) ⟨by omega, rfl⟩ (by decide) (by decide)
  · refine lv_iload_n hx hb dX3_checkDays_5 rfl (lv_at hl 2 rfl) ?_
    refine lv_iload_n hx hb dX3_checkDays_6 rfl (lv_at hl 1 rfl) ?_
    refine mw_lt hx hb ht (by omega) 17 dX3_checkDays_7 (by decide) (fun h7 => ?_) (fun h7 => ?_)
    · exact mx_throw M w Th hfl hxt (cls := eIA) (text := "first or last is out of range") (is := 183) (by decide +kernel) (show Cond.classLink RX3 28 eIA ∈ wsX3_checkDays by decide +kernel) (show Cond.initialized eIA ∈ wsX3_checkDays by decide +kernel) (by decide +kernel) rfl (show ∀ w ∈ (vx_atS RX3 32 eIA eUP).filter goodWord, w ∈ wsX3_checkDays by decide +kernel) (by decide +kernel) (by decide +kernel) hl.1 dX3_checkDays_17 dX3_checkDays_20 dX3_checkDays_21 dX3_checkDays_23 dX3_checkDays_26 (by decide) (Nat.le_of_ble_eq_true rfl) (by decide) (by decide) ⟨by omega, rfl⟩ (by decide) (by decide)
    · refine lv_iload_n hx hb dX3_checkDays_10 rfl (lv_at hl 2 rfl) ?_
      refine lv_sipush (v := nI 3600) hx hb dX3_checkDays_11 (by decide) ?_
      refine mw_le hx hb ht (by decide) 27 dX3_checkDays_14 (by decide) (fun h14 => ?_) (fun h14 => ?_)
      · refine vx_ret ?_
        exact mx_vret M w hr ⟨by omega, rfl⟩ (by decide) (by decide) dX3_checkDays_27
      · exact mx_throw M w Th hfl hxt (cls := eIA) (text := "first or last is out of range") (is := 183) (by decide +kernel) (show Cond.classLink RX3 28 eIA ∈ wsX3_checkDays by decide +kernel) (show Cond.initialized eIA ∈ wsX3_checkDays by decide +kernel) (by decide +kernel) rfl (show ∀ w ∈ (vx_atS RX3 32 eIA eUP).filter goodWord, w ∈ wsX3_checkDays by decide +kernel) (by decide +kernel) (by decide +kernel) hl.1 dX3_checkDays_17 dX3_checkDays_20 dX3_checkDays_21 dX3_checkDays_23 dX3_checkDays_26 (by decide) (Nat.le_of_ble_eq_true rfl) (by decide) (by decide) ⟨by omega, rfl⟩ (by decide) (by decide)

set_option maxHeartbeats 4000000 in
set_option maxRecDepth 100000 in
/-- Leavebank.checkHours(hours) -/
theorem kX3_checkHours (l : Launch) (hfl : l.stackTraces = false) (D : va_G) (cy : Nat → ClassId) (C : List Nat) (ad : Nat → Nat) (e : Nat → Nat → Nat) (sz : Nat) (h : Nat) (hh : h < 4294967296) : vx_Met l yX3_checkHours wsX3_checkHours ({ frames := 6, cells := 1, slots := 6, locals := 82 } : Room) (PreX D cy (C, ad, G cy ad e) sz [.int (nI h)]) (va_Qv (fun (u : WT) => (1 ≤ h ∧ h ≤ 10) ∧ u = (C, ad, G cy ad e)) (WB D cy (AW (C, ad, G cy ad e) sz)) (AW (C, ad, G cy ad e) sz)) (vx_X (fun (z : String × WT) => ¬ (1 ≤ h ∧ h ≤ 10) ∧ z = (eIA, (C, ad, G cy ad e))) (XB D cy (AW (C, ad, G cy ad e) sz)) (AW (C, ad, G cy ad e) sz)) 1 6 (AW (C, ad, G cy ad e) sz) := by
  refine mxx_start (cc := cX3_checkHours) (maxL := 1) (ret := none) (by decide) rfl (Nat.le_of_ble_eq_true rfl) ?_
  intro p9 e9 s m args below meth c hsz hr hnm M w Th hxt ls hl
  have hx := M.1.1
  have hb := M.1.2.1
  have hl : lv_has ls 1 [(0, .int (nI h))] := hl
  refine lv_iload_n hx hb dX3_checkHours_0 rfl (lv_at hl 0 rfl) ?_
  refine lv_iconst (v := nI 1) hx hb dX3_checkHours_1 (by decide) ?_
  refine mw_lt hx hb hh (by decide) 11 dX3_checkHours_2 (by decide) (fun h2 => ?_) (fun h2 => ?_)
  · exact mx_throw M w Th hfl hxt (cls := eIA) (text := "hours are out of range") (is := 185) (by decide +kernel) (show Cond.classLink RX3 28 eIA ∈ wsX3_checkHours by decide +kernel) (show Cond.initialized eIA ∈ wsX3_checkHours by decide +kernel) (by decide +kernel) rfl (show ∀ w ∈ (vx_atS RX3 32 eIA eUP).filter goodWord, w ∈ wsX3_checkHours by decide +kernel) (by decide +kernel) (by decide +kernel) hl.1 dX3_checkHours_11 dX3_checkHours_14 dX3_checkHours_15 dX3_checkHours_17 dX3_checkHours_20 (by decide) (Nat.le_of_ble_eq_true rfl) (by decide) (by decide) ⟨by omega, rfl⟩ (by decide) (by decide)
  · refine lv_iload_n hx hb dX3_checkHours_5 rfl (lv_at hl 0 rfl) ?_
    refine lv_bipush (v := nI 10) hx hb dX3_checkHours_6 (by decide) ?_
    refine mw_le hx hb hh (by decide) 21 dX3_checkHours_8 (by decide) (fun h8 => ?_) (fun h8 => ?_)
    · refine vx_ret ?_
      exact mx_vret M w hr ⟨by omega, rfl⟩ (by decide) (by decide) dX3_checkHours_21
    · exact mx_throw M w Th hfl hxt (cls := eIA) (text := "hours are out of range") (is := 185) (by decide +kernel) (show Cond.classLink RX3 28 eIA ∈ wsX3_checkHours by decide +kernel) (show Cond.initialized eIA ∈ wsX3_checkHours by decide +kernel) (by decide +kernel) rfl (show ∀ w ∈ (vx_atS RX3 32 eIA eUP).filter goodWord, w ∈ wsX3_checkHours by decide +kernel) (by decide +kernel) (by decide +kernel) hl.1 dX3_checkHours_11 dX3_checkHours_14 dX3_checkHours_15 dX3_checkHours_17 dX3_checkHours_20 (by decide) (Nat.le_of_ble_eq_true rfl) (by decide) (by decide) ⟨by omega, rfl⟩ (by decide) (by decide)

set_option maxHeartbeats 4000000 in
set_option maxRecDepth 100000 in
/-- Leavebank.personAt(number) -/
theorem kX3_personAt (l : Launch) (hfl : l.stackTraces = false) (D : va_G) (cy : Nat → ClassId) (C : List Nat) (ad : Nat → Nat) (e : Nat → Nat → Nat) (sz : Nat) (k : Nat) (hB : ∀ k, k < 13 → k ∈ C) (hW : CW e) (hk : k < 4294967296) : vx_Met l yX3_personAt wsX3_personAt ({ frames := 6, cells := 1, slots := 6, locals := 82 } : Room) (PreX D cy (C, ad, G cy ad e) sz [.ref (ad 0), .int (nI k)]) (va_Qr (fun (u : WT) => k < e 0 1 ∧ u = (C, ad, G cy ad e)) (fun (u : WT) (a : Nat) (t : State) => (a = ad (PB k)) ∧ WB D cy (AW (C, ad, G cy ad e) sz) u t) (AW (C, ad, G cy ad e) sz)) (vx_X (fun (z : String × WT) => ¬ (k < e 0 1) ∧ z = (eIO, (C, ad, G cy ad e))) (XB D cy (AW (C, ad, G cy ad e) sz)) (AW (C, ad, G cy ad e) sz)) 1 6 (AW (C, ad, G cy ad e) sz) := by
  refine mxx_start (cc := cX3_personAt) (maxL := 3) (ret := (some (.object "Leavebank$Person"))) (by decide) rfl (Nat.le_of_ble_eq_true rfl) ?_
  intro p9 e9 s m args below meth c hsz hr hnm M w Th hxt ls hl
  have hx := M.1.1
  have hb := M.1.2.1
  have inX3 : ∀ w ∈ wsX30, w ∈ wsX3_personAt := by decide +kernel
  have f11 : Cond.fieldLink RX3 11 RX3 "persons" "[LLeavebank$Person;" ∈ wsX3_personAt := by decide +kernel
  have hl : lv_has ls 3 [(0, .ref (ad 0)), (1, .int (nI k))] := hl
  refine lv_iload_n hx hb dX3_personAt_0 rfl (lv_at hl 1 rfl) ?_
  refine mw_if_lt hx hb hk 13 dX3_personAt_1 (by decide) (fun h1 => ?_) (fun h1 => ?_)
  · exact mx_throw M w Th hfl hxt (cls := eIO) (text := "no such person") (is := 176) (by decide +kernel) (show Cond.classLink RX3 174 eIO ∈ wsX3_personAt by decide +kernel) (show Cond.initialized eIO ∈ wsX3_personAt by decide +kernel) (by decide +kernel) rfl (show ∀ w ∈ (vx_atS RX3 178 eIO eUP).filter goodWord, w ∈ wsX3_personAt by decide +kernel) (by decide +kernel) (by decide +kernel) hl.1 dX3_personAt_13 dX3_personAt_16 dX3_personAt_17 dX3_personAt_19 dX3_personAt_22 (by decide) (Nat.le_of_ble_eq_true rfl) (by decide) (by decide) ⟨fun z => by have z1 := hW.np; omega, rfl⟩ (by decide) (by decide)
  · refine lv_iload_n hx hb dX3_personAt_4 rfl (lv_at hl 1 rfl) ?_
    refine lv_aload_n hx hb dX3_personAt_5 rfl (lv_at hl 0 rfl) ?_
    refine ex_get M w (hB 0 (by decide)) (sh_0 cy ad (e 0)) rfl inX3 0 (by decide) f11 rfl dX3_personAt_6 ?_
    refine mx_alen M w (hB 1 (by decide)) 2 (g := G cy ad e) (sh_1 cy ad _) rfl (n := 8) rfl dX3_personAt_9 ?_
    refine mw_lt hx hb hk (by decide) 23 dX3_personAt_10 (by decide) (fun h10 => ?_) (fun h10 => ?_)
    · refine lv_aload_n hx hb dX3_personAt_23 rfl (lv_at hl 0 rfl) ?_
      refine ex_get M w (hB 0 (by decide)) (sh_0 cy ad (e 0)) rfl inX3 0 (by decide) f11 rfl dX3_personAt_24 ?_
      refine lv_iload_n hx hb dX3_personAt_27 rfl (lv_at hl 1 rfl) ?_
      have q1 := hW.ps k (by omega)
      refine mx_aldP M w (hB 1 (by decide)) (g := G cy ad e) (sh_1 cy ad _) (vp_in_nI (by omega) (by decide)) dX3_personAt_28 ?_
      rw [nI_clamp (show k < 2147483648 by omega)]
      by_cases q0 : k < e 0 1
      · rw [if_pos q0] at q1
        refine W.eq (congrArg (fun z => F0 m 29 ls (va_rf z :: [])) (rfP_some (v := e 1) (j := k) (by omega))) ?_
        rw [show e 1 k - 1 = k by omega]
        refine lv_astore_n (lv' := [(2, .ref (ad (PB k))), (0, .ref (ad 0)), (1, .int (nI k))]) hx hb dX3_personAt_29 rfl hl (by decide) rfl (fun ls hl => ?_)
        refine lv_aload_n hx hb dX3_personAt_30 rfl (lv_at hl 0 rfl) ?_
        refine lv_ifnonnull (tgt := 44) hx hb dX3_personAt_31 (by decide) ?_
        refine lv_aload_n hx hb dX3_personAt_44 rfl (lv_at hl 0 rfl) ?_
        refine vx_ret ?_
        exact mx_aret M w hr (Or.inl ⟨_, rfl⟩) (a := (ad (PB k))) ⟨q0, rfl⟩ rfl (by decide) (by decide) dX3_personAt_45
      · rw [if_neg q0] at q1
        refine W.eq (congrArg (fun z => F0 m 29 ls (va_rf z :: [])) (rfP_none (v := e 1) (j := k) q1)) ?_
        refine lv_astore_nN (lv' := [(2, .null), (0, .ref (ad 0)), (1, .int (nI k))]) hx hb dX3_personAt_29 rfl hl (by decide) rfl (fun ls hl => ?_)
        refine lv_aload_nN hx hb dX3_personAt_30 rfl (lv_at hl 0 rfl) ?_
        refine lv_ifnonnullN hx hb dX3_personAt_31 ?_
        exact mx_throw M w Th hfl hxt (cls := eIO) (text := "no such person") (is := 176) (by decide +kernel) (show Cond.classLink RX3 174 eIO ∈ wsX3_personAt by decide +kernel) (show Cond.initialized eIO ∈ wsX3_personAt by decide +kernel) (by decide +kernel) rfl (show ∀ w ∈ (vx_atS RX3 178 eIO eUP).filter goodWord, w ∈ wsX3_personAt by decide +kernel) (by decide +kernel) (by decide +kernel) hl.1 dX3_personAt_34 dX3_personAt_37 dX3_personAt_38 dX3_personAt_40 dX3_personAt_43 (by decide) (Nat.le_of_ble_eq_true rfl) (by decide) (by decide) ⟨q0, rfl⟩ (by decide) (by decide)
    · exact mx_throw M w Th hfl hxt (cls := eIO) (text := "no such person") (is := 176) (by decide +kernel) (show Cond.classLink RX3 174 eIO ∈ wsX3_personAt by decide +kernel) (show Cond.initialized eIO ∈ wsX3_personAt by decide +kernel) (by decide +kernel) rfl (show ∀ w ∈ (vx_atS RX3 178 eIO eUP).filter goodWord, w ∈ wsX3_personAt by decide +kernel) (by decide +kernel) (by decide +kernel) hl.1 dX3_personAt_13 dX3_personAt_16 dX3_personAt_17 dX3_personAt_19 dX3_personAt_22 (by decide) (Nat.le_of_ble_eq_true rfl) (by decide) (by decide) ⟨fun z => by have z1 := hW.np; omega, rfl⟩ (by decide) (by decide)

set_option maxHeartbeats 4000000 in
set_option maxRecDepth 100000 in
/-- Leavebank.requestAt(number) -/
theorem kX3_requestAt (l : Launch) (hfl : l.stackTraces = false) (D : va_G) (cy : Nat → ClassId) (C : List Nat) (ad : Nat → Nat) (e : Nat → Nat → Nat) (sz : Nat) (k : Nat) (hB : ∀ k, k < 13 → k ∈ C) (hW : CW e) (hk : k < 4294967296) : vx_Met l yX3_requestAt wsX3_requestAt ({ frames := 6, cells := 1, slots := 6, locals := 82 } : Room) (PreX D cy (C, ad, G cy ad e) sz [.ref (ad 0), .int (nI k)]) (va_Qr (fun (u : WT) => k < e 0 3 ∧ u = (C, ad, G cy ad e)) (fun (u : WT) (a : Nat) (t : State) => (a = ad (RB k)) ∧ WB D cy (AW (C, ad, G cy ad e) sz) u t) (AW (C, ad, G cy ad e) sz)) (vx_X (fun (z : String × WT) => ¬ (k < e 0 3) ∧ z = (eIO, (C, ad, G cy ad e))) (XB D cy (AW (C, ad, G cy ad e) sz)) (AW (C, ad, G cy ad e) sz)) 1 6 (AW (C, ad, G cy ad e) sz) := by
  refine mxx_start (cc := cX3_requestAt) (maxL := 3) (ret := (some (.object "Leavebank$Request"))) (by decide) rfl (Nat.le_of_ble_eq_true rfl) ?_
  intro p9 e9 s m args below meth c hsz hr hnm M w Th hxt ls hl
  have hx := M.1.1
  have hb := M.1.2.1
  have inX3 : ∀ w ∈ wsX30, w ∈ wsX3_requestAt := by decide +kernel
  have f17 : Cond.fieldLink RX3 17 RX3 "requests" "[LLeavebank$Request;" ∈ wsX3_requestAt := by decide +kernel
  have hl : lv_has ls 3 [(0, .ref (ad 0)), (1, .int (nI k))] := hl
  refine lv_iload_n hx hb dX3_requestAt_0 rfl (lv_at hl 1 rfl) ?_
  refine mw_if_lt hx hb hk 13 dX3_requestAt_1 (by decide) (fun h1 => ?_) (fun h1 => ?_)
  · exact mx_throw M w Th hfl hxt (cls := eIO) (text := "no such request") (is := 179) (by decide +kernel) (show Cond.classLink RX3 174 eIO ∈ wsX3_requestAt by decide +kernel) (show Cond.initialized eIO ∈ wsX3_requestAt by decide +kernel) (by decide +kernel) rfl (show ∀ w ∈ (vx_atS RX3 178 eIO eUP).filter goodWord, w ∈ wsX3_requestAt by decide +kernel) (by decide +kernel) (by decide +kernel) hl.1 dX3_requestAt_13 dX3_requestAt_16 dX3_requestAt_17 dX3_requestAt_19 dX3_requestAt_22 (by decide) (Nat.le_of_ble_eq_true rfl) (by decide) (by decide) ⟨fun z => by have z1 := hW.nr; omega, rfl⟩ (by decide) (by decide)
  · refine lv_iload_n hx hb dX3_requestAt_4 rfl (lv_at hl 1 rfl) ?_
    refine lv_aload_n hx hb dX3_requestAt_5 rfl (lv_at hl 0 rfl) ?_
    refine ex_get M w (hB 0 (by decide)) (sh_0 cy ad (e 0)) rfl inX3 2 (by decide) f17 rfl dX3_requestAt_6 ?_
    refine mx_alen M w (hB 2 (by decide)) 3 (g := G cy ad e) (sh_2 cy ad _) rfl (n := 40) rfl dX3_requestAt_9 ?_
    refine mw_lt hx hb hk (by decide) 23 dX3_requestAt_10 (by decide) (fun h10 => ?_) (fun h10 => ?_)
    · refine lv_aload_n hx hb dX3_requestAt_23 rfl (lv_at hl 0 rfl) ?_
      refine ex_get M w (hB 0 (by decide)) (sh_0 cy ad (e 0)) rfl inX3 2 (by decide) f17 rfl dX3_requestAt_24 ?_
      refine lv_iload_n hx hb dX3_requestAt_27 rfl (lv_at hl 1 rfl) ?_
      have q1 := hW.rs k (by omega)
      refine mx_aldR M w (hB 2 (by decide)) (g := G cy ad e) (sh_2 cy ad _) (vp_in_nI (by omega) (by decide)) dX3_requestAt_28 ?_
      rw [nI_clamp (show k < 2147483648 by omega)]
      by_cases q0 : k < e 0 3
      · rw [if_pos q0] at q1
        refine W.eq (congrArg (fun z => F0 m 29 ls (va_rf z :: [])) (rfR_some (v := e 2) (j := k) (by omega))) ?_
        rw [show e 2 k - 1 = k by omega]
        refine lv_astore_n (lv' := [(2, .ref (ad (RB k))), (0, .ref (ad 0)), (1, .int (nI k))]) hx hb dX3_requestAt_29 rfl hl (by decide) rfl (fun ls hl => ?_)
        refine lv_aload_n hx hb dX3_requestAt_30 rfl (lv_at hl 0 rfl) ?_
        refine lv_ifnonnull (tgt := 44) hx hb dX3_requestAt_31 (by decide) ?_
        refine lv_aload_n hx hb dX3_requestAt_44 rfl (lv_at hl 0 rfl) ?_
        refine vx_ret ?_
        exact mx_aret M w hr (Or.inl ⟨_, rfl⟩) (a := (ad (RB k))) ⟨q0, rfl⟩ rfl (by decide) (by decide) dX3_requestAt_45
      · rw [if_neg q0] at q1
        refine W.eq (congrArg (fun z => F0 m 29 ls (va_rf z :: [])) (rfR_none (v := e 2) (j := k) q1)) ?_
        refine lv_astore_nN (lv' := [(2, .null), (0, .ref (ad 0)), (1, .int (nI k))]) hx hb dX3_requestAt_29 rfl hl (by decide) rfl (fun ls hl => ?_)
        refine lv_aload_nN hx hb dX3_requestAt_30 rfl (lv_at hl 0 rfl) ?_
        refine lv_ifnonnullN hx hb dX3_requestAt_31 ?_
        exact mx_throw M w Th hfl hxt (cls := eIO) (text := "no such request") (is := 179) (by decide +kernel) (show Cond.classLink RX3 174 eIO ∈ wsX3_requestAt by decide +kernel) (show Cond.initialized eIO ∈ wsX3_requestAt by decide +kernel) (by decide +kernel) rfl (show ∀ w ∈ (vx_atS RX3 178 eIO eUP).filter goodWord, w ∈ wsX3_requestAt by decide +kernel) (by decide +kernel) (by decide +kernel) hl.1 dX3_requestAt_34 dX3_requestAt_37 dX3_requestAt_38 dX3_requestAt_40 dX3_requestAt_43 (by decide) (Nat.le_of_ble_eq_true rfl) (by decide) (by decide) ⟨q0, rfl⟩ (by decide) (by decide)
    · exact mx_throw M w Th hfl hxt (cls := eIO) (text := "no such request") (is := 179) (by decide +kernel) (show Cond.classLink RX3 174 eIO ∈ wsX3_requestAt by decide +kernel) (show Cond.initialized eIO ∈ wsX3_requestAt by decide +kernel) (by decide +kernel) rfl (show ∀ w ∈ (vx_atS RX3 178 eIO eUP).filter goodWord, w ∈ wsX3_requestAt by decide +kernel) (by decide +kernel) (by decide +kernel) hl.1 dX3_requestAt_13 dX3_requestAt_16 dX3_requestAt_17 dX3_requestAt_19 dX3_requestAt_22 (by decide) (Nat.le_of_ble_eq_true rfl) (by decide) (by decide) ⟨fun z => by have z1 := hW.nr; omega, rfl⟩ (by decide) (by decide)
