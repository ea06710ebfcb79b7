set_option maxHeartbeats 4000000 in
set_option maxRecDepth 100000 in
/-- Leavebank.ledgerBehind(number, day) -/
theorem kX3_ledgerBehind (l : Launch) (hfl : l.stackTraces = false) (D : va_G) (cy : Nat → ClassId) (C : List Nat) (ad : Nat → Nat) (e : Nat → Nat → Nat) (sz : Nat) (k d : Nat) (hCC : CC (e 0 1) (e 0 3) C) (hW : CW e) (hk : k < 4294967296) (hd : d < 4294967296) : vx_Met l yX3_ledgerBehind wsX3_ledgerBehind ({ frames := 7, cells := 2, slots := 12, locals := 104 } : Room) (PreX D cy (C, ad, G cy ad e) sz [.ref (ad 0), .int (nI k), .int (nI d)]) (va_Qr (fun (u : WT) => (k < e 0 1 ∧ d ≤ 3600) ∧ u = (C, ad, G cy ad (goC e k (d + 1 - e (PB k) 0)))) (fun (u : WT) (a : Nat) (t : State) => (a = ad 3) ∧ WB D cy (AW (C, ad, G cy ad e) sz) u t) (AW (C, ad, G cy ad e) sz)) (vx_X (fun (z : String × WT) => (¬ k < e 0 1 ∧ z = (eIO, (C, ad, G cy ad e))) ∨ (k < e 0 1 ∧ ¬ (0 ≤ d ∧ d ≤ 3600) ∧ z = (eIA, (C, ad, G cy ad e)))) (XB D cy (AW (C, ad, G cy ad e) sz)) (AW (C, ad, G cy ad e) sz)) 2 12 (AW (C, ad, G cy ad e) sz) := by
  refine mxx_start (cc := cX3_ledgerBehind) (maxL := 4) (ret := (some (.object "Leavebank$Ledger"))) (by decide) rfl (Nat.le_of_ble_eq_true rfl) ?_
  intro p9 e9 s m args below meth c hsz hr hnm M w Th hxt ls hl
  have hx := M.1.1
  have hb := M.1.2.1
  have inX3 : ∀ w ∈ wsX30, w ∈ wsX3_ledgerBehind := by decide +kernel
  have f24 : Cond.fieldLink RX3 24 RX3 "ledger" "LLeavebank$Ledger;" ∈ wsX3_ledgerBehind := by decide +kernel
  have hB := hCC.B
  have hl : lv_has ls 4 [(0, .ref (ad 0)), (1, .int (nI k)), (2, .int (nI d))] := hl
  refine lv_aload_n hx hb dX3_ledgerBehind_0 rfl (lv_at hl 0 rfl) ?_
  refine lv_iload_n hx hb dX3_ledgerBehind_1 rfl (lv_at hl 1 rfl) ?_
  refine mxx_Vr M w Th hxt (kX3_personAt l hfl D cy C ad e s.heap.size k hB hW hk) (cwV 1 M.1.2.2.2.2 gX3_ledgerBehind_X3_personAt rfl rfl rfl (by decide +kernel) ⟨Nat.le_of_ble_eq_true rfl, Nat.le_of_ble_eq_true rfl⟩) (mo_rec M w (hB 0 (by decide)) (g := G cy ad e) (sh_0 cy ad (e 0)) rfl) rfl hl.1 rfl (Nat.le_of_ble_eq_true rfl) dX3_ledgerBehind_2 ⟨by decide, by decide⟩ ⟨by decide, by decide⟩ (fun E u1 h => Or.inl h) (fun r2 u1 H locs hp1 ha1 w => ?_)
  obtain ⟨q2, rfl⟩ := hp1
  subst ha1
  have hp : k < 8 := by have z := hW.np; omega
  have hC := hCC.P q2
  have hpp := hW.p q2
  refine lv_astore_n (lv' := [(3, .ref (ad (PB k))), (0, .ref (ad 0)), (1, .int (nI k)), (2, .int (nI d))]) hx hb dX3_ledgerBehind_5 rfl hl (by decide) rfl (fun ls hl => ?_)
  refine lv_iconst (v := nI 0) hx hb dX3_ledgerBehind_6 (by decide) ?_
  refine lv_iload_n hx hb dX3_ledgerBehind_7 rfl (lv_at hl 3 rfl) ?_
  refine mxx_Sv M w Th hxt (kX3_checkDay l hfl D cy C ad e H.size 0 d (by omega) hd) (va_cwS 2 M.1.2.2.2.2 gX3_ledgerBehind_X3_checkDay rfl rfl rfl (by decide +kernel) ⟨Nat.le_of_ble_eq_true rfl, Nat.le_of_ble_eq_true rfl⟩) rfl hl.1 rfl (Nat.le_of_ble_eq_true rfl) dX3_ledgerBehind_8 ⟨by decide, by decide⟩ ⟨by decide, by decide⟩ (fun E u1 h => Or.inr ⟨q2, h⟩) (fun u1 H locs hp1 w => ?_)
  obtain ⟨c8, rfl⟩ := hp1
  refine lv_aload_n hx hb dX3_ledgerBehind_11 rfl (lv_at hl 1 rfl) ?_
  refine ex_get M w (hB 0 (by decide)) (sh_0 cy ad (e 0)) rfl inX3 7 (by decide) f24 rfl dX3_ledgerBehind_12 ?_
  refine lv_aload_n hx hb dX3_ledgerBehind_15 rfl (lv_at hl 0 rfl) ?_
  refine lv_iload_n hx hb dX3_ledgerBehind_16 rfl (lv_at hl 3 rfl) ?_
  refine mx_Vv M w (kX0_goThrough l D cy C ad e H.size k d hp hC hB hpp.a0 hpp.ch hpp.py hpp.lv c8.2) (cwV 2 M.1.2.2.2.2 gX3_ledgerBehind_X0_goThrough rfl rfl rfl (by decide +kernel) ⟨Nat.le_of_ble_eq_true rfl, Nat.le_of_ble_eq_true rfl⟩) (mo_rec M w (hB 3 (by decide)) (g := G cy ad e) (sh_3 cy ad (e 3)) rfl) rfl hl.1 rfl (Nat.le_of_ble_eq_true rfl) dX3_ledgerBehind_17 ⟨by decide, by decide⟩ (fun u1 H locs hp1 w => ?_)
  obtain rfl := hp1
  refine lv_aload_n hx hb dX3_ledgerBehind_20 rfl (lv_at hl 1 rfl) ?_
  refine ex_get M w (hB 0 (by decide)) (sh_0 cy ad ((goC e k (d + 1 - e (PB k) 0)) 0)) rfl inX3 7 (by decide) f24 rfl dX3_ledgerBehind_21 ?_
  refine vx_ret ?_
  exact mx_aret M w hr (Or.inl ⟨_, rfl⟩) (a := (ad 3)) ⟨⟨q2, c8.2⟩, rfl⟩ rfl (by decide) (by decide) dX3_ledgerBehind_24

set_option maxHeartbeats 4000000 in
set_option maxRecDepth 100000 in
/-- Leavebank.balance(person, day) -/
theorem kX3_balance (l : Launch) (hfl : l.stackTraces = false) (D : va_G) (cy : Nat → ClassId) (C : List Nat) (ad : Nat → Nat) (e : Nat → Nat → Nat) (sz : Nat) (k d : Nat) (hCC : CC (e 0 1) (e 0 3) C) (hW : CW e) (hk : k < 4294967296) (hd : d < 4294967296) : vx_Met l yX3_balance wsX3_balance ({ frames := 8, cells := 2, slots := 12, locals := 127 } : Room) (PreX D cy (C, ad, G cy ad e) sz [.ref (ad 0), .int (nI k), .int (nI d)]) (va_Qi (fun (r : Int32) (u : WT) => (k < e 0 1 ∧ d ≤ 3600) ∧ r = nI (totC (goC e k (d + 1 - e (PB k) 0))) - nI ((goC e k (d + 1 - e (PB k) 0)) 3 5) ∧ u = (C, ad, G cy ad (goC e k (d + 1 - e (PB k) 0)))) (WB D cy (AW (C, ad, G cy ad e) sz)) (AW (C, ad, G cy ad e) sz)) (vx_X (fun (z : String × WT) => (¬ k < e 0 1 ∧ z = (eIO, (C, ad, G cy ad e))) ∨ (k < e 0 1 ∧ ¬ (0 ≤ d ∧ d ≤ 3600) ∧ z = (eIA, (C, ad, G cy ad e)))) (XB D cy (AW (C, ad, G cy ad e) sz)) (AW (C, ad, G cy ad e) sz)) 2 12 (AW (C, ad, G cy ad e) sz) := by
  refine mxx_start (cc := cX3_balance) (maxL := 4) (ret := (some .int)) (by decide) rfl (Nat.le_of_ble_eq_true rfl) ?_
  intro p9 e9 s m args below meth c hsz hr hnm M w Th hxt ls hl
  have hx := M.1.1
  have hb := M.1.2.1
  have inX0 : ∀ w ∈ wsX00, w ∈ wsX3_balance := by decide +kernel
  have f153 : Cond.fieldLink RX3 153 RX0 "debt" "I" ∈ wsX3_balance := by decide +kernel
  have hB := hCC.B
  have hl : lv_has ls 4 [(0, .ref (ad 0)), (1, .int (nI k)), (2, .int (nI d))] := hl
  refine lv_aload_n hx hb dX3_balance_0 rfl (lv_at hl 0 rfl) ?_
  refine lv_iload_n hx hb dX3_balance_1 rfl (lv_at hl 1 rfl) ?_
  refine lv_iload_n hx hb dX3_balance_2 rfl (lv_at hl 2 rfl) ?_
  refine mxx_Vr M w Th hxt (kX3_ledgerBehind l hfl D cy C ad e s.heap.size k d hCC hW hk hd) (cwV 2 M.1.2.2.2.2 gX3_balance_X3_ledgerBehind rfl rfl rfl (by decide +kernel) ⟨Nat.le_of_ble_eq_true rfl, Nat.le_of_ble_eq_true rfl⟩) (mo_rec M w (hB 0 (by decide)) (g := G cy ad e) (sh_0 cy ad (e 0)) rfl) rfl hl.1 rfl (Nat.le_of_ble_eq_true rfl) dX3_balance_3 ⟨by decide, by decide⟩ ⟨by decide, by decide⟩ (fun E u1 h => h) (fun r3 u1 H locs hp1 ha1 w => ?_)
  obtain ⟨⟨q3, q4⟩, rfl⟩ := hp1
  subst ha1
  have hpp := hW.p q3
  have hgw := GW_go hpp.a0 hpp.ch hpp.py hpp.lv (d + 1 - e (PB k) 0) (by have z := hpp.a0.1; omega)
  refine lv_astore_n (lv' := [(3, .ref (ad 3)), (0, .ref (ad 0)), (1, .int (nI k)), (2, .int (nI d))]) hx hb dX3_balance_6 rfl hl (by decide) rfl (fun ls hl => ?_)
  refine lv_aload_n hx hb dX3_balance_7 rfl (lv_at hl 0 rfl) ?_
  refine mx_Vi M w (kX0_pointsInLots l D cy C ad (goC e k (d + 1 - e (PB k) 0)) H.size hB hgw.1) (cwV 0 M.1.2.2.2.2 gX3_balance_X0_pointsInLots rfl rfl rfl (by decide +kernel) ⟨Nat.le_of_ble_eq_true rfl, Nat.le_of_ble_eq_true rfl⟩) (mo_rec M w (hB 3 (by decide)) (g := G cy ad (goC e k (d + 1 - e (PB k) 0))) (sh_3 cy ad ((goC e k (d + 1 - e (PB k) 0)) 3)) rfl) rfl hl.1 rfl (Nat.le_of_ble_eq_true rfl) dX3_balance_8 ⟨by decide, by decide⟩ (fun r8 u1 H locs hp1 w => ?_)
  obtain ⟨rfl, rfl⟩ := hp1
  refine lv_aload_n hx hb dX3_balance_11 rfl (lv_at hl 0 rfl) ?_
  refine ex_get M w (hB 3 (by decide)) (sh_3 cy ad ((goC e k (d + 1 - e (PB k) 0)) 3)) rfl inX0 5 (by decide) f153 rfl dX3_balance_12 ?_
  refine lv_isub hx hb dX3_balance_15 ?_
  refine vx_ret ?_
  exact mx_iret M w hr (v := ((nI (totC (goC e k (d + 1 - e (PB k) 0)))) - (nI ((goC e k (d + 1 - e (PB k) 0)) 3 5)))) ⟨⟨q3, q4⟩, rfl, rfl⟩ (by decide) (by decide) dX3_balance_16

set_option maxHeartbeats 4000000 in
set_option maxRecDepth 100000 in
/-- Leavebank.balanceBySums(person, day) -/
theorem kX3_balanceBySums (l : Launch) (hfl : l.stackTraces = false) (D : va_G) (cy : Nat → ClassId) (C : List Nat) (ad : Nat → Nat) (e : Nat → Nat → Nat) (sz : Nat) (k d : Nat) (hCC : CC (e 0 1) (e 0 3) C) (hW : CW e) (hk : k < 4294967296) (hd : d < 4294967296) : vx_Met l yX3_balanceBySums wsX3_balanceBySums ({ frames := 8, cells := 2, slots := 12, locals := 127 } : Room) (PreX D cy (C, ad, G cy ad e) sz [.ref (ad 0), .int (nI k), .int (nI d)]) (va_Qi (fun (r : Int32) (u : WT) => (k < e 0 1 ∧ d ≤ 3600) ∧ r = nI ((goC e k (d + 1 - e (PB k) 0)) 3 6) - nI ((goC e k (d + 1 - e (PB k) 0)) 3 7) - nI ((goC e k (d + 1 - e (PB k) 0)) 3 8) - nI ((goC e k (d + 1 - e (PB k) 0)) 3 9) ∧ u = (C, ad, G cy ad (goC e k (d + 1 - e (PB k) 0)))) (WB D cy (AW (C, ad, G cy ad e) sz)) (AW (C, ad, G cy ad e) sz)) (vx_X (fun (z : String × WT) => (¬ k < e 0 1 ∧ z = (eIO, (C, ad, G cy ad e))) ∨ (k < e 0 1 ∧ ¬ (0 ≤ d ∧ d ≤ 3600) ∧ z = (eIA, (C, ad, G cy ad e)))) (XB D cy (AW (C, ad, G cy ad e) sz)) (AW (C, ad, G cy ad e) sz)) 2 12 (AW (C, ad, G cy ad e) sz) := by
  refine mxx_start (cc := cX3_balanceBySums) (maxL := 4) (ret := (some .int)) (by decide) rfl (Nat.le_of_ble_eq_true rfl) ?_
  intro p9 e9 s m args below meth c hsz hr hnm M w Th hxt ls hl
  have hx := M.1.1
  have hb := M.1.2.1
  have inX0 : ∀ w ∈ wsX00, w ∈ wsX3_balanceBySums := by decide +kernel
  have f156 : Cond.fieldLink RX3 156 RX0 "sumEarned" "I" ∈ wsX3_balanceBySums := by decide +kernel
  have f159 : Cond.fieldLink RX3 159 RX0 "sumTaken" "I" ∈ wsX3_balanceBySums := by decide +kernel
  have f162 : Cond.fieldLink RX3 162 RX0 "sumExpired" "I" ∈ wsX3_balanceBySums := by decide +kernel
  have f165 : Cond.fieldLink RX3 165 RX0 "sumPaid" "I" ∈ wsX3_balanceBySums := by decide +kernel
  have hB := hCC.B
  have hl : lv_has ls 4 [(0, .ref (ad 0)), (1, .int (nI k)), (2, .int (nI d))] := hl
  refine lv_aload_n hx hb dX3_balanceBySums_0 rfl (lv_at hl 0 rfl) ?_
  refine lv_iload_n hx hb dX3_balanceBySums_1 rfl (lv_at hl 1 rfl) ?_
  refine lv_iload_n hx hb dX3_balanceBySums_2 rfl (lv_at hl 2 rfl) ?_
  refine mxx_Vr M w Th hxt (kX3_ledgerBehind l hfl D cy C ad e s.heap.size k d hCC hW hk hd) (cwV 2 M.1.2.2.2.2 gX3_balanceBySums_X3_ledgerBehind rfl rfl rfl (by decide +kernel) ⟨Nat.le_of_ble_eq_true rfl, Nat.le_of_ble_eq_true rfl⟩) (mo_rec M w (hB 0 (by decide)) (g := G cy ad e) (sh_0 cy ad (e 0)) rfl) rfl hl.1 rfl (Nat.le_of_ble_eq_true rfl) dX3_balanceBySums_3 ⟨by decide, by decide⟩ ⟨by decide, by decide⟩ (fun E u1 h => h) (fun r3 u1 H locs hp1 ha1 w => ?_)
  obtain ⟨⟨q3, q4⟩, rfl⟩ := hp1
  subst ha1
  have hpp := hW.p q3
  have hgw := GW_go hpp.a0 hpp.ch hpp.py hpp.lv (d + 1 - e (PB k) 0) (by have z := hpp.a0.1; omega)
  refine lv_astore_n (lv' := [(3, .ref (ad 3)), (0, .ref (ad 0)), (1, .int (nI k)), (2, .int (nI d))]) hx hb dX3_balanceBySums_6 rfl hl (by decide) rfl (fun ls hl => ?_)
  refine lv_aload_n hx hb dX3_balanceBySums_7 rfl (lv_at hl 0 rfl) ?_
  refine ex_get M w (hB 3 (by decide)) (sh_3 cy ad ((goC e k (d + 1 - e (PB k) 0)) 3)) rfl inX0 6 (by decide) f156 rfl dX3_balanceBySums_8 ?_
  refine lv_aload_n hx hb dX3_balanceBySums_11 rfl (lv_at hl 0 rfl) ?_
  refine ex_get M w (hB 3 (by decide)) (sh_3 cy ad ((goC e k (d + 1 - e (PB k) 0)) 3)) rfl inX0 7 (by decide) f159 rfl dX3_balanceBySums_12 ?_
  refine lv_isub hx hb dX3_balanceBySums_15 ?_
  refine lv_aload_n hx hb dX3_balanceBySums_16 rfl (lv_at hl 0 rfl) ?_
  refine ex_get M w (hB 3 (by decide)) (sh_3 cy ad ((goC e k (d + 1 - e (PB k) 0)) 3)) rfl inX0 8 (by decide) f162 rfl dX3_balanceBySums_17 ?_
  refine lv_isub hx hb dX3_balanceBySums_20 ?_
  refine lv_aload_n hx hb dX3_balanceBySums_21 rfl (lv_at hl 0 rfl) ?_
  refine ex_get M w (hB 3 (by decide)) (sh_3 cy ad ((goC e k (d + 1 - e (PB k) 0)) 3)) rfl inX0 9 (by decide) f165 rfl dX3_balanceBySums_22 ?_
  refine lv_isub hx hb dX3_balanceBySums_25 ?_
  refine vx_ret ?_
  exact mx_iret M w hr (v := ((((nI ((goC e k (d + 1 - e (PB k) 0)) 3 6)) - (nI ((goC e k (d + 1 - e (PB k) 0)) 3 7))) - (nI ((goC e k (d + 1 - e (PB k) 0)) 3 8))) - (nI ((goC e k (d + 1 - e (PB k) 0)) 3 9)))) ⟨⟨q3, q4⟩, rfl, rfl⟩ (by decide) (by decide) dX3_balanceBySums_26

set_option maxHeartbeats 4000000 in
set_option maxRecDepth 100000 in
/-- Leavebank.earned(person, day) -/
theorem kX3_earned (l : Launch) (hfl : l.stackTraces = false) (D : va_G) (cy : Nat → ClassId) (C : List Nat) (ad : Nat → Nat) (e : Nat → Nat → Nat) (sz : Nat) (k d : Nat) (hCC : CC (e 0 1) (e 0 3) C) (hW : CW e) (hk : k < 4294967296) (hd : d < 4294967296) : vx_Met l yX3_earned wsX3_earned ({ frames := 8, cells := 2, slots := 12, locals := 127 } : Room) (PreX D cy (C, ad, G cy ad e) sz [.ref (ad 0), .int (nI k), .int (nI d)]) (va_Qi (fun (r : Int32) (u : WT) => (k < e 0 1 ∧ d ≤ 3600) ∧ r = nI ((goC e k (d + 1 - e (PB k) 0)) 3 6) ∧ u = (C, ad, G cy ad (goC e k (d + 1 - e (PB k) 0)))) (WB D cy (AW (C, ad, G cy ad e) sz)) (AW (C, ad, G cy ad e) sz)) (vx_X (fun (z : String × WT) => (¬ k < e 0 1 ∧ z = (eIO, (C, ad, G cy ad e))) ∨ (k < e 0 1 ∧ ¬ (0 ≤ d ∧ d ≤ 3600) ∧ z = (eIA, (C, ad, G cy ad e)))) (XB D cy (AW (C, ad, G cy ad e) sz)) (AW (C, ad, G cy ad e) sz)) 2 12 (AW (C, ad, G cy ad e) sz) := by
  refine mxx_start (cc := cX3_earned) (maxL := 3) (ret := (some .int)) (by decide) rfl (Nat.le_of_ble_eq_true rfl) ?_
  intro p9 e9 s m args below meth c hsz hr hnm M w Th hxt ls hl
  have hx := M.1.1
  have hb := M.1.2.1
  have inX0 : ∀ w ∈ wsX00, w ∈ wsX3_earned := by decide +kernel
  have f156 : Cond.fieldLink RX3 156 RX0 "sumEarned" "I" ∈ wsX3_earned := by decide +kernel
  have hB := hCC.B
  have hl : lv_has ls 3 [(0, .ref (ad 0)), (1, .int (nI k)), (2, .int (nI d))] := hl
  refine lv_aload_n hx hb dX3_earned_0 rfl (lv_at hl 0 rfl) ?_
  refine lv_iload_n hx hb dX3_earned_1 rfl (lv_at hl 1 rfl) ?_
  refine lv_iload_n hx hb dX3_earned_2 rfl (lv_at hl 2 rfl) ?_
  refine mxx_Vr M w Th hxt (kX3_ledgerBehind l hfl D cy C ad e s.heap.size k d hCC hW hk hd) (cwV 2 M.1.2.2.2.2 gX3_earned_X3_ledgerBehind rfl rfl rfl (by decide +kernel) ⟨Nat.le_of_ble_eq_true rfl, Nat.le_of_ble_eq_true rfl⟩) (mo_rec M w (hB 0 (by decide)) (g := G cy ad e) (sh_0 cy ad (e 0)) rfl) rfl hl.1 rfl (Nat.le_of_ble_eq_true rfl) dX3_earned_3 ⟨by decide, by decide⟩ ⟨by decide, by decide⟩ (fun E u1 h => h) (fun r3 u1 H locs hp1 ha1 w => ?_)
  obtain ⟨⟨q3, q4⟩, rfl⟩ := hp1
  subst ha1
  have hpp := hW.p q3
  have hgw := GW_go hpp.a0 hpp.ch hpp.py hpp.lv (d + 1 - e (PB k) 0) (by have z := hpp.a0.1; omega)
  refine ex_get M w (hB 3 (by decide)) (sh_3 cy ad ((goC e k (d + 1 - e (PB k) 0)) 3)) rfl inX0 6 (by decide) f156 rfl dX3_earned_6 ?_
  refine vx_ret ?_
  exact mx_iret M w hr (v := (nI ((goC e k (d + 1 - e (PB k) 0)) 3 6))) ⟨⟨q3, q4⟩, rfl, rfl⟩ (by decide) (by decide) dX3_earned_9

set_option maxHeartbeats 4000000 in
set_option maxRecDepth 100000 in
/-- Leavebank.taken(person, day) -/
theorem kX3_taken (l : Launch) (hfl : l.stackTraces = false) (D : va_G) (cy : Nat → ClassId) (C : List Nat) (ad : Nat → Nat) (e : Nat → Nat → Nat) (sz : Nat) (k d : Nat) (hCC : CC (e 0 1) (e 0 3) C) (hW : CW e) (hk : k < 4294967296) (hd : d < 4294967296) : vx_Met l yX3_taken wsX3_taken ({ frames := 8, cells := 2, slots := 12, locals := 127 } : Room) (PreX D cy (C, ad, G cy ad e) sz [.ref (ad 0), .int (nI k), .int (nI d)]) (va_Qi (fun (r : Int32) (u : WT) => (k < e 0 1 ∧ d ≤ 3600) ∧ r = nI ((goC e k (d + 1 - e (PB k) 0)) 3 7) ∧ u = (C, ad, G cy ad (goC e k (d + 1 - e (PB k) 0)))) (WB D cy (AW (C, ad, G cy ad e) sz)) (AW (C, ad, G cy ad e) sz)) (vx_X (fun (z : String × WT) => (¬ k < e 0 1 ∧ z = (eIO, (C, ad, G cy ad e))) ∨ (k < e 0 1 ∧ ¬ (0 ≤ d ∧ d ≤ 3600) ∧ z = (eIA, (C, ad, G cy ad e)))) (XB D cy (AW (C, ad, G cy ad e) sz)) (AW (C, ad, G cy ad e) sz)) 2 12 (AW (C, ad, G cy ad e) sz) := by
  refine mxx_start (cc := cX3_taken) (maxL := 3) (ret := (some .int)) (by decide) rfl (Nat.le_of_ble_eq_true rfl) ?_
  intro p9 e9 s m args below meth c hsz hr hnm M w Th hxt ls hl
  have hx := M.1.1
  have hb := M.1.2.1
  have inX0 : ∀ w ∈ wsX00, w ∈ wsX3_taken := by decide +kernel
  have f159 : Cond.fieldLink RX3 159 RX0 "sumTaken" "I" ∈ wsX3_taken := by decide +kernel
  have hB := hCC.B
  have hl : lv_has ls 3 [(0, .ref (ad 0)), (1, .int (nI k)), (2, .int (nI d))] := hl
  refine lv_aload_n hx hb dX3_taken_0 rfl (lv_at hl 0 rfl) ?_
  refine lv_iload_n hx hb dX3_taken_1 rfl (lv_at hl 1 rfl) ?_
  refine lv_iload_n hx hb dX3_taken_2 rfl (lv_at hl 2 rfl) ?_
  refine mxx_Vr M w Th hxt (kX3_ledgerBehind l hfl D cy C ad e s.heap.size k d hCC hW hk hd) (cwV 2 M.1.2.2.2.2 gX3_taken_X3_ledgerBehind rfl rfl rfl (by decide +kernel) ⟨Nat.le_of_ble_eq_true rfl, Nat.le_of_ble_eq_true rfl⟩) (mo_rec M w (hB 0 (by decide)) (g := G cy ad e) (sh_0 cy ad (e 0)) rfl) rfl hl.1 rfl (Nat.le_of_ble_eq_true rfl) dX3_taken_3 ⟨by decide, by decide⟩ ⟨by decide, by decide⟩ (fun E u1 h => h) (fun r3 u1 H locs hp1 ha1 w => ?_)
  obtain ⟨⟨q3, q4⟩, rfl⟩ := hp1
  subst ha1
  have hpp := hW.p q3
  have hgw := GW_go hpp.a0 hpp.ch hpp.py hpp.lv (d + 1 - e (PB k) 0) (by have z := hpp.a0.1; omega)
  refine ex_get M w (hB 3 (by decide)) (sh_3 cy ad ((goC e k (d + 1 - e (PB k) 0)) 3)) rfl inX0 7 (by decide) f159 rfl dX3_taken_6 ?_
  refine vx_ret ?_
  exact mx_iret M w hr (v := (nI ((goC e k (d + 1 - e (PB k) 0)) 3 7))) ⟨⟨q3, q4⟩, rfl, rfl⟩ (by decide) (by decide) dX3_taken_9

set_option maxHeartbeats 4000000 in
set_option maxRecDepth 100000 in
/-- Leavebank.expired(person, day) -/
theorem kX3_expired (l : Launch) (hfl : l.stackTraces = false) (D : va_G) (cy : Nat → ClassId) (C : List Nat) (ad : Nat → Nat) (e : Nat → Nat → Nat) (sz : Nat) (k d : Nat) (hCC : CC (e 0 1) (e 0 3) C) (hW : CW e) (hk : k < 4294967296) (hd : d < 4294967296) : vx_Met l yX3_expired wsX3_expired ({ frames := 8, cells := 2, slots := 12, locals := 127 } : Room) (PreX D cy (C, ad, G cy ad e) sz [.ref (ad 0), .int (nI k), .int (nI d)]) (va_Qi (fun (r : Int32) (u : WT) => (k < e 0 1 ∧ d ≤ 3600) ∧ r = nI ((goC e k (d + 1 - e (PB k) 0)) 3 8) ∧ u = (C, ad, G cy ad (goC e k (d + 1 - e (PB k) 0)))) (WB D cy (AW (C, ad, G cy ad e) sz)) (AW (C, ad, G cy ad e) sz)) (vx_X (fun (z : String × WT) => (¬ k < e 0 1 ∧ z = (eIO, (C, ad, G cy ad e))) ∨ (k < e 0 1 ∧ ¬ (0 ≤ d ∧ d ≤ 3600) ∧ z = (eIA, (C, ad, G cy ad e)))) (XB D cy (AW (C, ad, G cy ad e) sz)) (AW (C, ad, G cy ad e) sz)) 2 12 (AW (C, ad, G cy ad e) sz) := by
  refine mxx_start (cc := cX3_expired) (maxL := 3) (ret := (some .int)) (by decide) rfl (Nat.le_of_ble_eq_true rfl) ?_
  intro p9 e9 s m args below meth c hsz hr hnm M w Th hxt ls hl
  have hx := M.1.1
  have hb := M.1.2.1
  have inX0 : ∀ w ∈ wsX00, w ∈ wsX3_expired := by decide +kernel
  have f162 : Cond.fieldLink RX3 162 RX0 "sumExpired" "I" ∈ wsX3_expired := by decide +kernel
  have hB := hCC.B
  have hl : lv_has ls 3 [(0, .ref (ad 0)), (1, .int (nI k)), (2, .int (nI d))] := hl
  refine lv_aload_n hx hb dX3_expired_0 rfl (lv_at hl 0 rfl) ?_
  refine lv_iload_n hx hb dX3_expired_1 rfl (lv_at hl 1 rfl) ?_
  refine lv_iload_n hx hb dX3_expired_2 rfl (lv_at hl 2 rfl) ?_
  refine mxx_Vr M w Th hxt (kX3_ledgerBehind l hfl D cy C ad e s.heap.size k d hCC hW hk hd) (cwV 2 M.1.2.2.2.2 gX3_expired_X3_ledgerBehind rfl rfl rfl (by decide +kernel) ⟨Nat.le_of_ble_eq_true rfl, Nat.le_of_ble_eq_true rfl⟩) (mo_rec M w (hB 0 (by decide)) (g := G cy ad e) (sh_0 cy ad (e 0)) rfl) rfl hl.1 rfl (Nat.le_of_ble_eq_true rfl) dX3_expired_3 ⟨by decide, by decide⟩ ⟨by decide, by decide⟩ (fun E u1 h => h) (fun r3 u1 H locs hp1 ha1 w => ?_)
  obtain ⟨⟨q3, q4⟩, rfl⟩ := hp1
  subst ha1
  have hpp := hW.p q3
  have hgw := GW_go hpp.a0 hpp.ch hpp.py hpp.lv (d + 1 - e (PB k) 0) (by have z := hpp.a0.1; omega)
  refine ex_get M w (hB 3 (by decide)) (sh_3 cy ad ((goC e k (d + 1 - e (PB k) 0)) 3)) rfl inX0 8 (by decide) f162 rfl dX3_expired_6 ?_
  refine vx_ret ?_
  exact mx_iret M w hr (v := (nI ((goC e k (d + 1 - e (PB k) 0)) 3 8))) ⟨⟨q3, q4⟩, rfl, rfl⟩ (by decide) (by decide) dX3_expired_9

set_option maxHeartbeats 4000000 in
set_option maxRecDepth 100000 in
/-- Leavebank.paid(person, day) -/
theorem kX3_paid (l : Launch) (hfl : l.stackTraces = false) (D : va_G) (cy : Nat → ClassId) (C : List Nat) (ad : Nat → Nat) (e : Nat → Nat → Nat) (sz : Nat) (k d : Nat) (hCC : CC (e 0 1) (e 0 3) C) (hW : CW e) (hk : k < 4294967296) (hd : d < 4294967296) : vx_Met l yX3_paid wsX3_paid ({ frames := 8, cells := 2, slots := 12, locals := 127 } : Room) (PreX D cy (C, ad, G cy ad e) sz [.ref (ad 0), .int (nI k), .int (nI d)]) (va_Qi (fun (r : Int32) (u : WT) => (k < e 0 1 ∧ d ≤ 3600) ∧ r = nI ((goC e k (d + 1 - e (PB k) 0)) 3 9) ∧ u = (C, ad, G cy ad (goC e k (d + 1 - e (PB k) 0)))) (WB D cy (AW (C, ad, G cy ad e) sz)) (AW (C, ad, G cy ad e) sz)) (vx_X (fun (z : String × WT) => (¬ k < e 0 1 ∧ z = (eIO, (C, ad, G cy ad e))) ∨ (k < e 0 1 ∧ ¬ (0 ≤ d ∧ d ≤ 3600) ∧ z = (eIA, (C, ad, G cy ad e)))) (XB D cy (AW (C, ad, G cy ad e) sz)) (AW (C, ad, G cy ad e) sz)) 2 12 (AW (C, ad, G cy ad e) sz) := by
  refine mxx_start (cc := cX3_paid) (maxL := 3) (ret := (some .int)) (by decide) rfl (Nat.le_of_ble_eq_true rfl) ?_
  intro p9 e9 s m args below meth c hsz hr hnm M w Th hxt ls hl
  have hx := M.1.1
  have hb := M.1.2.1
  have inX0 : ∀ w ∈ wsX00, w ∈ wsX3_paid := by decide +kernel
  have f165 : Cond.fieldLink RX3 165 RX0 "sumPaid" "I" ∈ wsX3_paid := by decide +kernel
  have hB := hCC.B
  have hl : lv_has ls 3 [(0, .ref (ad 0)), (1, .int (nI k)), (2, .int (nI d))] := hl
  refine lv_aload_n hx hb dX3_paid_0 rfl (lv_at hl 0 rfl) ?_
  refine lv_iload_n hx hb dX3_paid_1 rfl (lv_at hl 1 rfl) ?_
  refine lv_iload_n hx hb dX3_paid_2 rfl (lv_at hl 2 rfl) ?_
  refine mxx_Vr M w Th hxt (kX3_ledgerBehind l hfl D cy C ad e s.heap.size k d hCC hW hk hd) (cwV 2 M.1.2.2.2.2 gX3_paid_X3_ledgerBehind rfl rfl rfl (by decide +kernel) ⟨Nat.le_of_ble_eq_true rfl, Nat.le_of_ble_eq_true rfl⟩) (mo_rec M w (hB 0 (by decide)) (g := G cy ad e) (sh_0 cy ad (e 0)) rfl) rfl hl.1 rfl (Nat.le_of_ble_eq_true rfl) dX3_paid_3 ⟨by decide, by decide⟩ ⟨by decide, by decide⟩ (fun E u1 h => h) (fun r3 u1 H locs hp1 ha1 w => ?_)
  obtain ⟨⟨q3, q4⟩, rfl⟩ := hp1
  subst ha1
  have hpp := hW.p q3
  have hgw := GW_go hpp.a0 hpp.ch hpp.py hpp.lv (d + 1 - e (PB k) 0) (by have z := hpp.a0.1; omega)
  refine ex_get M w (hB 3 (by decide)) (sh_3 cy ad ((goC e k (d + 1 - e (PB k) 0)) 3)) rfl inX0 9 (by decide) f165 rfl dX3_paid_6 ?_
  refine vx_ret ?_
  exact mx_iret M w hr (v := (nI ((goC e k (d + 1 - e (PB k) 0)) 3 9))) ⟨⟨q3, q4⟩, rfl, rfl⟩ (by decide) (by decide) dX3_paid_9

set_option maxHeartbeats 4000000 in
set_option maxRecDepth 100000 in
/-- Leavebank.borrowed(person, day) -/
theorem kX3_borrowed (l : Launch) (hfl : l.stackTraces = false) (D : va_G) (cy : Nat → ClassId) (C : List Nat) (ad : Nat → Nat) (e : Nat → Nat → Nat) (sz : Nat) (k d : Nat) (hCC : CC (e 0 1) (e 0 3) C) (hW : CW e) (hk : k < 4294967296) (hd : d < 4294967296) : vx_Met l yX3_borrowed wsX3_borrowed ({ frames := 8, cells := 2, slots := 12, locals := 127 } : Room) (PreX D cy (C, ad, G cy ad e) sz [.ref (ad 0), .int (nI k), .int (nI d)]) (va_Qi (fun (r : Int32) (u : WT) => (k < e 0 1 ∧ d ≤ 3600) ∧ r = nI ((goC e k (d + 1 - e (PB k) 0)) 3 5) ∧ u = (C, ad, G cy ad (goC e k (d + 1 - e (PB k) 0)))) (WB D cy (AW (C, ad, G cy ad e) sz)) (AW (C, ad, G cy ad e) sz)) (vx_X (fun (z : String × WT) => (¬ k < e 0 1 ∧ z = (eIO, (C, ad, G cy ad e))) ∨ (k < e 0 1 ∧ ¬ (0 ≤ d ∧ d ≤ 3600) ∧ z = (eIA, (C, ad, G cy ad e)))) (XB D cy (AW (C, ad, G cy ad e) sz)) (AW (C, ad, G cy ad e) sz)) 2 12 (AW (C, ad, G cy ad e) sz) := by
  refine mxx_start (cc := cX3_borrowed) (maxL := 3) (ret := (some .int)) (by decide) rfl (Nat.le_of_ble_eq_true rfl) ?_
  intro p9 e9 s m args below meth c hsz hr hnm M w Th hxt ls hl
  have hx := M.1.1
  have hb := M.1.2.1
  have inX0 : ∀ w ∈ wsX00, w ∈ wsX3_borrowed := by decide +kernel
  have f153 : Cond.fieldLink RX3 153 RX0 "debt" "I" ∈ wsX3_borrowed := by decide +kernel
  have hB := hCC.B
  have hl : lv_has ls 3 [(0, .ref (ad 0)), (1, .int (nI k)), (2, .int (nI d))] := hl
  refine lv_aload_n hx hb dX3_borrowed_0 rfl (lv_at hl 0 rfl) ?_
  refine lv_iload_n hx hb dX3_borrowed_1 rfl (lv_at hl 1 rfl) ?_
  refine lv_iload_n hx hb dX3_borrowed_2 rfl (lv_at hl 2 rfl) ?_
  refine mxx_Vr M w Th hxt (kX3_ledgerBehind l hfl D cy C ad e s.heap.size k d hCC hW hk hd) (cwV 2 M.1.2.2.2.2 gX3_borrowed_X3_ledgerBehind rfl rfl rfl (by decide +kernel) ⟨Nat.le_of_ble_eq_true rfl, Nat.le_of_ble_eq_true rfl⟩) (mo_rec M w (hB 0 (by decide)) (g := G cy ad e) (sh_0 cy ad (e 0)) rfl) rfl hl.1 rfl (Nat.le_of_ble_eq_true rfl) dX3_borrowed_3 ⟨by decide, by decide⟩ ⟨by decide, by decide⟩ (fun E u1 h => h) (fun r3 u1 H locs hp1 ha1 w => ?_)
  obtain ⟨⟨q3, q4⟩, rfl⟩ := hp1
  subst ha1
  have hpp := hW.p q3
  have hgw := GW_go hpp.a0 hpp.ch hpp.py hpp.lv (d + 1 - e (PB k) 0) (by have z := hpp.a0.1; omega)
  refine ex_get M w (hB 3 (by decide)) (sh_3 cy ad ((goC e k (d + 1 - e (PB k) 0)) 3)) rfl inX0 5 (by decide) f153 rfl dX3_borrowed_6 ?_
  refine vx_ret ?_
  exact mx_iret M w hr (v := (nI ((goC e k (d + 1 - e (PB k) 0)) 3 5))) ⟨⟨q3, q4⟩, rfl, rfl⟩ (by decide) (by decide) dX3_borrowed_9

set_option maxHeartbeats 4000000 in
set_option maxRecDepth 100000 in
/-- Leavebank.unpaid(person, day) -/
theorem kX3_unpaid (l : Launch) (hfl : l.stackTraces = false) (D : va_G) (cy : Nat → ClassId) (C : List Nat) (ad : Nat → Nat) (e : Nat → Nat → Nat) (sz : Nat) (k d : Nat) (hCC : CC (e 0 1) (e 0 3) C) (hW : CW e) (hk : k < 4294967296) (hd : d < 4294967296) : vx_Met l yX3_unpaid wsX3_unpaid ({ frames := 8, cells := 2, slots := 12, locals := 127 } : Room) (PreX D cy (C, ad, G cy ad e) sz [.ref (ad 0), .int (nI k), .int (nI d)]) (va_Qi (fun (r : Int32) (u : WT) => (k < e 0 1 ∧ d ≤ 3600) ∧ r = nI ((goC e k (d + 1 - e (PB k) 0)) 3 10) ∧ u = (C, ad, G cy ad (goC e k (d + 1 - e (PB k) 0)))) (WB D cy (AW (C, ad, G cy ad e) sz)) (AW (C, ad, G cy ad e) sz)) (vx_X (fun (z : String × WT) => (¬ k < e 0 1 ∧ z = (eIO, (C, ad, G cy ad e))) ∨ (k < e 0 1 ∧ ¬ (0 ≤ d ∧ d ≤ 3600) ∧ z = (eIA, (C, ad, G cy ad e)))) (XB D cy (AW (C, ad, G cy ad e) sz)) (AW (C, ad, G cy ad e) sz)) 2 12 (AW (C, ad, G cy ad e) sz) := by
  refine mxx_start (cc := cX3_unpaid) (maxL := 3) (ret := (some .int)) (by decide) rfl (Nat.le_of_ble_eq_true rfl) ?_
  intro p9 e9 s m args below meth c hsz hr hnm M w Th hxt ls hl
  have hx := M.1.1
  have hb := M.1.2.1
  have inX0 : ∀ w ∈ wsX00, w ∈ wsX3_unpaid := by decide +kernel
  have f168 : Cond.fieldLink RX3 168 RX0 "unpaidDays" "I" ∈ wsX3_unpaid := by decide +kernel
  have hB := hCC.B
  have hl : lv_has ls 3 [(0, .ref (ad 0)), (1, .int (nI k)), (2, .int (nI d))] := hl
  refine lv_aload_n hx hb dX3_unpaid_0 rfl (lv_at hl 0 rfl) ?_
  refine lv_iload_n hx hb dX3_unpaid_1 rfl (lv_at hl 1 rfl) ?_
  refine lv_iload_n hx hb dX3_unpaid_2 rfl (lv_at hl 2 rfl) ?_
  refine mxx_Vr M w Th hxt (kX3_ledgerBehind l hfl D cy C ad e s.heap.size k d hCC hW hk hd) (cwV 2 M.1.2.2.2.2 gX3_unpaid_X3_ledgerBehind rfl rfl rfl (by decide +kernel) ⟨Nat.le_of_ble_eq_true rfl, Nat.le_of_ble_eq_true rfl⟩) (mo_rec M w (hB 0 (by decide)) (g := G cy ad e) (sh_0 cy ad (e 0)) rfl) rfl hl.1 rfl (Nat.le_of_ble_eq_true rfl) dX3_unpaid_3 ⟨by decide, by decide⟩ ⟨by decide, by decide⟩ (fun E u1 h => h) (fun r3 u1 H locs hp1 ha1 w => ?_)
  obtain ⟨⟨q3, q4⟩, rfl⟩ := hp1
  subst ha1
  have hpp := hW.p q3
  have hgw := GW_go hpp.a0 hpp.ch hpp.py hpp.lv (d + 1 - e (PB k) 0) (by have z := hpp.a0.1; omega)
  refine ex_get M w (hB 3 (by decide)) (sh_3 cy ad ((goC e k (d + 1 - e (PB k) 0)) 3)) rfl inX0 10 (by decide) f168 rfl dX3_unpaid_6 ?_
  refine vx_ret ?_
  exact mx_iret M w hr (v := (nI ((goC e k (d + 1 - e (PB k) 0)) 3 10))) ⟨⟨q3, q4⟩, rfl, rfl⟩ (by decide) (by decide) dX3_unpaid_9

set_option maxHeartbeats 4000000 in
set_option maxRecDepth 100000 in
/-- Leavebank.nextExpiry(person, day) -/
theorem kX3_nextExpiry (l : Launch) (hfl : l.stackTraces = false) (D : va_G) (cy : Nat → ClassId) (C : List Nat) (ad : Nat → Nat) (e : Nat → Nat → Nat) (sz : Nat) (k d : Nat) (hCC : CC (e 0 1) (e 0 3) C) (hW : CW e) (hk : k < 4294967296) (hd : d < 4294967296) : vx_Met l yX3_nextExpiry wsX3_nextExpiry ({ frames := 8, cells := 2, slots := 12, locals := 127 } : Room) (PreX D cy (C, ad, G cy ad e) sz [.ref (ad 0), .int (nI k), .int (nI d)]) (va_Qi (fun (r : Int32) (u : WT) => (k < e 0 1 ∧ d ≤ 3600) ∧ r = fxC (goC e k (d + 1 - e (PB k) 0)) ∧ u = (C, ad, G cy ad (goC e k (d + 1 - e (PB k) 0)))) (WB D cy (AW (C, ad, G cy ad e) sz)) (AW (C, ad, G cy ad e) sz)) (vx_X (fun (z : String × WT) => (¬ k < e 0 1 ∧ z = (eIO, (C, ad, G cy ad e))) ∨ (k < e 0 1 ∧ ¬ (0 ≤ d ∧ d ≤ 3600) ∧ z = (eIA, (C, ad, G cy ad e)))) (XB D cy (AW (C, ad, G cy ad e) sz)) (AW (C, ad, G cy ad e) sz)) 2 12 (AW (C, ad, G cy ad e) sz) := by
  refine mxx_start (cc := cX3_nextExpiry) (maxL := 3) (ret := (some .int)) (by decide) rfl (Nat.le_of_ble_eq_true rfl) ?_
  intro p9 e9 s m args below meth c hsz hr hnm M w Th hxt ls hl
  have hx := M.1.1
  have hb := M.1.2.1
  have hB := hCC.B
  have hl : lv_has ls 3 [(0, .ref (ad 0)), (1, .int (nI k)), (2, .int (nI d))] := hl
  refine lv_aload_n hx hb dX3_nextExpiry_0 rfl (lv_at hl 0 rfl) ?_
  refine lv_iload_n hx hb dX3_nextExpiry_1 rfl (lv_at hl 1 rfl) ?_
  refine lv_iload_n hx hb dX3_nextExpiry_2 rfl (lv_at hl 2 rfl) ?_
  refine mxx_Vr M w Th hxt (kX3_ledgerBehind l hfl D cy C ad e s.heap.size k d hCC hW hk hd) (cwV 2 M.1.2.2.2.2 gX3_nextExpiry_X3_ledgerBehind rfl rfl rfl (by decide +kernel) ⟨Nat.le_of_ble_eq_true rfl, Nat.le_of_ble_eq_true rfl⟩) (mo_rec M w (hB 0 (by decide)) (g := G cy ad e) (sh_0 cy ad (e 0)) rfl) rfl hl.1 rfl (Nat.le_of_ble_eq_true rfl) dX3_nextExpiry_3 ⟨by decide, by decide⟩ ⟨by decide, by decide⟩ (fun E u1 h => h) (fun r3 u1 H locs hp1 ha1 w => ?_)
  obtain ⟨⟨q3, q4⟩, rfl⟩ := hp1
  subst ha1
  have hpp := hW.p q3
  have hgw := GW_go hpp.a0 hpp.ch hpp.py hpp.lv (d + 1 - e (PB k) 0) (by have z := hpp.a0.1; omega)
  refine mx_Vi M w (kX0_firstExpiry l D cy C ad (goC e k (d + 1 - e (PB k) 0)) H.size hB hgw.1) (cwV 0 M.1.2.2.2.2 gX3_nextExpiry_X0_firstExpiry rfl rfl rfl (by decide +kernel) ⟨Nat.le_of_ble_eq_true rfl, Nat.le_of_ble_eq_true rfl⟩) (mo_rec M w (hB 3 (by decide)) (g := G cy ad (goC e k (d + 1 - e (PB k) 0))) (sh_3 cy ad ((goC e k (d + 1 - e (PB k) 0)) 3)) rfl) rfl hl.1 rfl (Nat.le_of_ble_eq_true rfl) dX3_nextExpiry_6 ⟨by decide, by decide⟩ (fun r6 u1 H locs hp1 w => ?_)
  obtain ⟨rfl, rfl⟩ := hp1
  refine vx_ret ?_
  exact mx_iret M w hr (v := (fxC (goC e k (d + 1 - e (PB k) 0)))) ⟨⟨q3, q4⟩, rfl, rfl⟩ (by decide) (by decide) dX3_nextExpiry_9

set_option maxHeartbeats 4000000 in
set_option maxRecDepth 100000 in
/-- Leavebank.hours(person, day) -/
theorem kX3_hours (l : Launch) (hfl : l.stackTraces = false) (D : va_G) (cy : Nat → ClassId) (C : List Nat) (ad : Nat → Nat) (e : Nat → Nat → Nat) (sz : Nat) (k d : Nat) (hCC : CC (e 0 1) (e 0 3) C) (hW : CW e) (hk : k < 4294967296) (hd : d < 4294967296) : vx_Met l yX3_hours wsX3_hours ({ frames := 7, cells := 2, slots := 12, locals := 104 } : Room) (PreX D cy (C, ad, G cy ad e) sz [.ref (ad 0), .int (nI k), .int (nI d)]) (va_Qi (fun (r : Int32) (u : WT) => (k < e 0 1 ∧ e (PB k) 0 ≤ d ∧ d ≤ 3600) ∧ r = nI (hrC e k d) ∧ u = (C, ad, G cy ad e)) (WB D cy (AW (C, ad, G cy ad e) sz)) (AW (C, ad, G cy ad e) sz)) (vx_X (fun (z : String × WT) => (¬ k < e 0 1 ∧ z = (eIO, (C, ad, G cy ad e))) ∨ (k < e 0 1 ∧ ¬ (e (PB k) 0 ≤ d ∧ d ≤ 3600) ∧ z = (eIA, (C, ad, G cy ad e)))) (XB D cy (AW (C, ad, G cy ad e) sz)) (AW (C, ad, G cy ad e) sz)) 2 12 (AW (C, ad, G cy ad e) sz) := by
  refine mxx_start (cc := cX3_hours) (maxL := 4) (ret := (some .int)) (by decide) rfl (Nat.le_of_ble_eq_true rfl) ?_
  intro p9 e9 s m args below meth c hsz hr hnm M w Th hxt ls hl
  have hx := M.1.1
  have hb := M.1.2.1
  have inX1 : ∀ w ∈ wsX10, w ∈ wsX3_hours := by decide +kernel
  have f58 : Cond.fieldLink RX3 58 RX1 "firstDay" "I" ∈ wsX3_hours := by decide +kernel
  have hB := hCC.B
  have hl : lv_has ls 4 [(0, .ref (ad 0)), (1, .int (nI k)), (2, .int (nI d))] := hl
  refine lv_aload_n hx hb dX3_hours_0 rfl (lv_at hl 0 rfl) ?_
  refine lv_iload_n hx hb dX3_hours_1 rfl (lv_at hl 1 rfl) ?_
  refine mxx_Vr M w Th hxt (kX3_personAt l hfl D cy C ad e s.heap.size k hB hW hk) (cwV 1 M.1.2.2.2.2 gX3_hours_X3_personAt rfl rfl rfl (by decide +kernel) ⟨Nat.le_of_ble_eq_true rfl, Nat.le_of_ble_eq_true rfl⟩) (mo_rec M w (hB 0 (by decide)) (g := G cy ad e) (sh_0 cy ad (e 0)) rfl) rfl hl.1 rfl (Nat.le_of_ble_eq_true rfl) dX3_hours_2 ⟨by decide, by decide⟩ ⟨by decide, by decide⟩ (fun E u1 h => Or.inl h) (fun r2 u1 H locs hp1 ha1 w => ?_)
  obtain ⟨q2, rfl⟩ := hp1
  subst ha1
  have hp : k < 8 := by have z := hW.np; omega
  have hC := hCC.P q2
  have hpp := hW.p q2
  refine lv_astore_n (lv' := [(3, .ref (ad (PB k))), (0, .ref (ad 0)), (1, .int (nI k)), (2, .int (nI d))]) hx hb dX3_hours_5 rfl hl (by decide) rfl (fun ls hl => ?_)
  refine lv_aload_n hx hb dX3_hours_6 rfl (lv_at hl 0 rfl) ?_
  refine ex_get M w (show (PB k) ∈ C from hC 0 (by decide)) (sh_P0 cy ad (e (PB k)) hp) rfl inX1 0 (by decide) f58 rfl dX3_hours_7 ?_
  refine lv_iload_n hx hb dX3_hours_10 rfl (lv_at hl 3 rfl) ?_
  refine mxx_Sv M w Th hxt (kX3_checkDay l hfl D cy C ad e H.size (e (PB k) 0) d hpp.a0.1 hd) (va_cwS 2 M.1.2.2.2.2 gX3_hours_X3_checkDay rfl rfl rfl (by decide +kernel) ⟨Nat.le_of_ble_eq_true rfl, Nat.le_of_ble_eq_true rfl⟩) rfl hl.1 rfl (Nat.le_of_ble_eq_true rfl) dX3_hours_11 ⟨by decide, by decide⟩ ⟨by decide, by decide⟩ (fun E u1 h => Or.inr ⟨q2, h⟩) (fun u1 H locs hp1 w => ?_)
  obtain ⟨c11, rfl⟩ := hp1
  refine lv_aload_n hx hb dX3_hours_14 rfl (lv_at hl 0 rfl) ?_
  refine lv_iload_n hx hb dX3_hours_15 rfl (lv_at hl 3 rfl) ?_
  refine mx_Vi M w (kX1_hoursOn l D cy C ad e H.size k d hp hC hpp.ch c11.2) (cwV 1 M.1.2.2.2.2 gX3_hours_X1_hoursOn rfl rfl rfl (by decide +kernel) ⟨Nat.le_of_ble_eq_true rfl, Nat.le_of_ble_eq_true rfl⟩) (mo_rec M w (show (PB k) ∈ C from hC 0 (by decide)) (g := G cy ad e) (sh_P0 cy ad (e (PB k)) hp) rfl) rfl hl.1 rfl (Nat.le_of_ble_eq_true rfl) dX3_hours_16 ⟨by decide, by decide⟩ (fun r16 u1 H locs hp1 w => ?_)
  obtain ⟨rfl, rfl⟩ := hp1
  refine vx_ret ?_
  exact mx_iret M w hr (v := (nI (hrC e k d))) ⟨⟨q2, c11⟩, rfl, rfl⟩ (by decide) (by decide) dX3_hours_19

set_option maxHeartbeats 4000000 in
set_option maxRecDepth 100000 in
/-- Leavebank.onLeave(person, day) -/
theorem kX3_onLeave (l : Launch) (hfl : l.stackTraces = false) (D : va_G) (cy : Nat → ClassId) (C : List Nat) (ad : Nat → Nat) (e : Nat → Nat → Nat) (sz : Nat) (k d : Nat) (hCC : CC (e 0 1) (e 0 3) C) (hW : CW e) (hk : k < 4294967296) (hd : d < 4294967296) : vx_Met l yX3_onLeave wsX3_onLeave ({ frames := 7, cells := 2, slots := 12, locals := 104 } : Room) (PreX D cy (C, ad, G cy ad e) sz [.ref (ad 0), .int (nI k), .int (nI d)]) (va_Qi (fun (r : Int32) (u : WT) => (k < e 0 1 ∧ d ≤ 3600) ∧ r = nI (e (PB k + 8) d) ∧ u = (C, ad, G cy ad e)) (WB D cy (AW (C, ad, G cy ad e) sz)) (AW (C, ad, G cy ad e) sz)) (vx_X (fun (z : String × WT) => (¬ k < e 0 1 ∧ z = (eIO, (C, ad, G cy ad e))) ∨ (k < e 0 1 ∧ ¬ (0 ≤ d ∧ d ≤ 3600) ∧ z = (eIA, (C, ad, G cy ad e)))) (XB D cy (AW (C, ad, G cy ad e) sz)) (AW (C, ad, G cy ad e) sz)) 2 12 (AW (C, ad, G cy ad e) sz) := by
  refine mxx_start (cc := cX3_onLeave) (maxL := 4) (ret := (some .int)) (by decide) rfl (Nat.le_of_ble_eq_true rfl) ?_
  intro p9 e9 s m args below meth c hsz hr hnm M w Th hxt ls hl
  have hx := M.1.1
  have hb := M.1.2.1
  have hB := hCC.B
  have hl : lv_has ls 4 [(0, .ref (ad 0)), (1, .int (nI k)), (2, .int (nI d))] := hl
  refine lv_aload_n hx hb dX3_onLeave_0 rfl (lv_at hl 0 rfl) ?_
  refine lv_iload_n hx hb dX3_onLeave_1 rfl (lv_at hl 1 rfl) ?_
  refine mxx_Vr M w Th hxt (kX3_personAt l hfl D cy C ad e s.heap.size k hB hW hk) (cwV 1 M.1.2.2.2.2 gX3_onLeave_X3_personAt rfl rfl rfl (by decide +kernel) ⟨Nat.le_of_ble_eq_true rfl, Nat.le_of_ble_eq_true rfl⟩) (mo_rec M w (hB 0 (by decide)) (g := G cy ad e) (sh_0 cy ad (e 0)) rfl) rfl hl.1 rfl (Nat.le_of_ble_eq_true rfl) dX3_onLeave_2 ⟨by decide, by decide⟩ ⟨by decide, by decide⟩ (fun E u1 h => Or.inl h) (fun r2 u1 H locs hp1 ha1 w => ?_)
  obtain ⟨q2, rfl⟩ := hp1
  subst ha1
  have hp : k < 8 := by have z := hW.np; omega
  have hC := hCC.P q2
  have hpp := hW.p q2
  refine lv_astore_n (lv' := [(3, .ref (ad (PB k))), (0, .ref (ad 0)), (1, .int (nI k)), (2, .int (nI d))]) hx hb dX3_onLeave_5 rfl hl (by decide) rfl (fun ls hl => ?_)
  refine lv_iconst (v := nI 0) hx hb dX3_onLeave_6 (by decide) ?_
  refine lv_iload_n hx hb dX3_onLeave_7 rfl (lv_at hl 3 rfl) ?_
  refine mxx_Sv M w Th hxt (kX3_checkDay l hfl D cy C ad e H.size 0 d (by omega) hd) (va_cwS 2 M.1.2.2.2.2 gX3_onLeave_X3_checkDay rfl rfl rfl (by decide +kernel) ⟨Nat.le_of_ble_eq_true rfl, Nat.le_of_ble_eq_true rfl⟩) rfl hl.1 rfl (Nat.le_of_ble_eq_true rfl) dX3_onLeave_8 ⟨by decide, by decide⟩ ⟨by decide, by decide⟩ (fun E u1 h => Or.inr ⟨q2, h⟩) (fun u1 H locs hp1 w => ?_)
  obtain ⟨c8, rfl⟩ := hp1
  refine lv_aload_n hx hb dX3_onLeave_11 rfl (lv_at hl 0 rfl) ?_
  refine lv_iload_n hx hb dX3_onLeave_12 rfl (lv_at hl 3 rfl) ?_
  refine mx_Vi M w (kX1_leaveOn l D cy C ad e H.size k d hp hC c8.2) (cwV 1 M.1.2.2.2.2 gX3_onLeave_X1_leaveOn rfl rfl rfl (by decide +kernel) ⟨Nat.le_of_ble_eq_true rfl, Nat.le_of_ble_eq_true rfl⟩) (mo_rec M w (show (PB k) ∈ C from hC 0 (by decide)) (g := G cy ad e) (sh_P0 cy ad (e (PB k)) hp) rfl) rfl hl.1 rfl (Nat.le_of_ble_eq_true rfl) dX3_onLeave_13 ⟨by decide, by decide⟩ (fun r13 u1 H locs hp1 w => ?_)
  obtain ⟨rfl, rfl⟩ := hp1
  refine vx_ret ?_
  exact mx_iret M w hr (v := (nI (e (PB k + 8) d))) ⟨⟨q2, c8.2⟩, rfl, rfl⟩ (by decide) (by decide) dX3_onLeave_16

set_option maxHeartbeats 4000000 in
set_option maxRecDepth 100000 in
/-- Leavebank.today() -/
theorem kX3_today (l : Launch) (D : va_G) (cy : Nat → ClassId) (C : List Nat) (ad : Nat → Nat) (e : Nat → Nat → Nat) (sz : Nat)  (hB : ∀ k, k < 13 → k ∈ C) : Met l yX3_today wsX3_today ({ frames := 0, cells := 0, slots := 0, locals := 0 } : Room) (PreM D cy (C, ad, G cy ad e) sz [.ref (ad 0)]) (va_Qi (fun (r : Int32) (u : WT) => r = nI (e 0 6) ∧ u = (C, ad, G cy ad e)) (WB D cy (AW (C, ad, G cy ad e) sz)) (AW (C, ad, G cy ad e) sz)) 0 0 (AW (C, ad, G cy ad e) sz) := by
  refine mx_start (cc := cX3_today) (maxL := 1) (ret := (some .int)) (by decide) rfl (Nat.le_of_ble_eq_true rfl) ?_
  intro p9 e9 s m args below meth c hsz hr hnm M w ls hl
  have hx := M.1.1
  have hb := M.1.2.1
  have inX3 : ∀ w ∈ wsX30, w ∈ wsX3_today := by decide +kernel
  have f48 : Cond.fieldLink RX3 48 RX3 "currentDay" "I" ∈ wsX3_today := by decide +kernel
  have hl : lv_has ls 1 [(0, .ref (ad 0))] := hl
  refine lv_aload_n hx hb dX3_today_0 rfl (lv_at hl 0 rfl) ?_
  refine ex_get M w (hB 0 (by decide)) (sh_0 cy ad (e 0)) rfl inX3 6 (by decide) f48 rfl dX3_today_1 ?_
  exact mx_iret M w hr (v := (nI (e 0 6))) ⟨rfl, rfl⟩ (by decide) (by decide) dX3_today_4

set_option maxHeartbeats 4000000 in
set_option maxRecDepth 100000 in
/-- Leavebank.people() -/
theorem kX3_people (l : Launch) (D : va_G) (cy : Nat → ClassId) (C : List Nat) (ad : Nat → Nat) (e : Nat → Nat → Nat) (sz : Nat)  (hB : ∀ k, k < 13 → k ∈ C) : Met l yX3_people wsX3_people ({ frames := 0, cells := 0, slots := 0, locals := 0 } : Room) (PreM D cy (C, ad, G cy ad e) sz [.ref (ad 0)]) (va_Qi (fun (r : Int32) (u : WT) => r = nI (e 0 1) ∧ u = (C, ad, G cy ad e)) (WB D cy (AW (C, ad, G cy ad e) sz)) (AW (C, ad, G cy ad e) sz)) 0 0 (AW (C, ad, G cy ad e) sz) := by
  refine mx_start (cc := cX3_people) (maxL := 1) (ret := (some .int)) (by decide) rfl (Nat.le_of_ble_eq_true rfl) ?_
  intro p9 e9 s m args below meth c hsz hr hnm M w ls hl
  have hx := M.1.1
  have hb := M.1.2.1
  have inX3 : ∀ w ∈ wsX30, w ∈ wsX3_people := by decide +kernel
  have f39 : Cond.fieldLink RX3 39 RX3 "personCount" "I" ∈ wsX3_people := by decide +kernel
  have hl : lv_has ls 1 [(0, .ref (ad 0))] := hl
  refine lv_aload_n hx hb dX3_people_0 rfl (lv_at hl 0 rfl) ?_
  refine ex_get M w (hB 0 (by decide)) (sh_0 cy ad (e 0)) rfl inX3 1 (by decide) f39 rfl dX3_people_1 ?_
  exact mx_iret M w hr (v := (nI (e 0 1))) ⟨rfl, rfl⟩ (by decide) (by decide) dX3_people_4

set_option maxHeartbeats 4000000 in
set_option maxRecDepth 100000 in
/-- Leavebank.workingDaysAheadOf(day) -/
theorem kX3_workingDaysAheadOf (l : Launch) (D : va_G) (cy : Nat → ClassId) (C : List Nat) (ad : Nat → Nat) (e : Nat → Nat → Nat) (sz : Nat) (x : Nat) (hx9 : x ≤ 3601) : Met l yX3_workingDaysAheadOf wsX3_workingDaysAheadOf ({ frames := 1, cells := 0, slots := 0, locals := 14 } : Room) (PreM D cy (C, ad, G cy ad e) sz [.int (nI x)]) (va_Qi (fun (r : Int32) (u : WT) => r = nI (x / 7 * 5 + min (x % 7) 5) ∧ u = (C, ad, G cy ad e)) (WB D cy (AW (C, ad, G cy ad e) sz)) (AW (C, ad, G cy ad e) sz)) 0 0 (AW (C, ad, G cy ad e) sz) := by
  refine mx_start (cc := cX3_workingDaysAheadOf) (maxL := 2) (ret := (some .int)) (by decide) rfl (Nat.le_of_ble_eq_true rfl) ?_
  intro p9 e9 s m args below meth c hsz hr hnm M w ls hl
  have hx := M.1.1
  have hb := M.1.2.1
  have k187 : Cond.methodLink RX3 187 Lib.Math.min.name ∈ wsX3_workingDaysAheadOf := by decide +kernel
  have k187a : Cond.static Lib.Math.min.name ∈ wsX3_workingDaysAheadOf := by decide +kernel
  have k187b : Cond.initialized "java/lang/Math" ∈ wsX3_workingDaysAheadOf := by decide +kernel
  have k187c : Cond.code Lib.Math.min.name Lib.Math.min.code 2 (some .int) ∈ wsX3_workingDaysAheadOf := by decide +kernel
  have hl : lv_has ls 2 [(0, .int (nI x))] := hl
  refine lv_iload_n hx hb dX3_workingDaysAheadOf_0 rfl (lv_at hl 0 rfl) ?_
  refine lv_bipush (v := nI 7) hx hb dX3_workingDaysAheadOf_1 (by decide) ?_
  refine mi_div hx hb (by omega) (by decide) (by decide) dX3_workingDaysAheadOf_3 ?_
  refine lv_iconst (v := nI 5) hx hb dX3_workingDaysAheadOf_4 (by decide) ?_
  refine mi_mul hx hb dX3_workingDaysAheadOf_5 ?_
  refine lv_istore_n (lv' := [(1, .int (nI ((x / 7) * 5))), (0, .int (nI x))]) hx hb dX3_workingDaysAheadOf_6 rfl hl (by decide) rfl (fun ls hl => ?_)
  refine lv_iload_n hx hb dX3_workingDaysAheadOf_7 rfl (lv_at hl 0 rfl) ?_
  refine lv_iload_n hx hb dX3_workingDaysAheadOf_8 rfl (lv_at hl 1 rfl) ?_
  refine lv_bipush (v := nI 7) hx hb dX3_workingDaysAheadOf_9 (by decide) ?_
  refine mi_rem hx hb (by omega) (by decide) (by decide) dX3_workingDaysAheadOf_11 ?_
  refine lv_iconst (v := nI 5) hx hb dX3_workingDaysAheadOf_12 (by decide) ?_
  refine mi_min M hl.1 k187 k187a k187b k187c (by decide) (Nat.le_of_ble_eq_true rfl) (by decide) (by decide) (by omega) (by decide) dX3_workingDaysAheadOf_13 ?_
  refine mi_add hx hb dX3_workingDaysAheadOf_16 ?_
  exact mx_iret M w hr (v := (nI (((x / 7) * 5) + (min (x % 7) 5)))) ⟨rfl, rfl⟩ (by decide) (by decide) dX3_workingDaysAheadOf_17

set_option maxHeartbeats 4000000 in
set_option maxRecDepth 100000 in
/-- Leavebank.workingDays(first, last) -/
theorem kX3_workingDays (l : Launch) (hfl : l.stackTraces = false) (D : va_G) (cy : Nat → ClassId) (C : List Nat) (ad : Nat → Nat) (e : Nat → Nat → Nat) (sz : Nat) (f t : Nat) (hf : f < 4294967296) (ht : t < 4294967296) : vx_Met l yX3_workingDays wsX3_workingDays ({ frames := 7, cells := 1, slots := 6, locals := 104 } : Room) (PreX D cy (C, ad, G cy ad e) sz [.ref (ad 0), .int (nI f), .int (nI t)]) (va_Qi (fun (r : Int32) (u : WT) => (0 ≤ f ∧ f ≤ t ∧ t ≤ 3600) ∧ r = nI ((t + 1) / 7 * 5 + min ((t + 1) % 7) 5 - (f / 7 * 5 + min (f % 7) 5)) ∧ u = (C, ad, G cy ad e)) (WB D cy (AW (C, ad, G cy ad e) sz)) (AW (C, ad, G cy ad e) sz)) (vx_X (fun (z : String × WT) => ¬ (0 ≤ f ∧ f ≤ t ∧ t ≤ 3600) ∧ z = (eIA, (C, ad, G cy ad e))) (XB D cy (AW (C, ad, G cy ad e) sz)) (AW (C, ad, G cy ad e) sz)) 1 6 (AW (C, ad, G cy ad e) sz) := by
  refine mxx_start (cc := cX3_workingDays) (maxL := 3) (ret := (some .int)) (by decide) rfl (Nat.le_of_ble_eq_true rfl) ?_
  intro p9 e9 s m args below meth c hsz hr hnm M w Th hxt ls hl
  have hx := M.1.1
  have hb := M.1.2.1
  have hl : lv_has ls 3 [(0, .ref (ad 0)), (1, .int (nI f)), (2, .int (nI t))] := hl
  refine lv_iconst (v := nI 0) hx hb dX3_workingDays_0 (by decide) ?_
  refine lv_iload_n hx hb dX3_workingDays_1 rfl (lv_at hl 1 rfl) ?_
  refine lv_iload_n hx hb dX3_workingDays_2 rfl (lv_at hl 2 rfl) ?_
  refine mxx_Sv M w Th hxt (kX3_checkDays l hfl D cy C ad e s.heap.size 0 f t (by omega) hf ht) (va_cwS 3 M.1.2.2.2.2 gX3_workingDays_X3_checkDays rfl rfl rfl (by decide +kernel) ⟨Nat.le_of_ble_eq_true rfl, Nat.le_of_ble_eq_true rfl⟩) rfl hl.1 rfl (Nat.le_of_ble_eq_true rfl) dX3_workingDays_3 ⟨by decide, by decide⟩ ⟨by decide, by decide⟩ (fun E u1 h => h) (fun u1 H locs hp1 w => ?_)
  obtain ⟨c3, rfl⟩ := hp1
  refine lv_iload_n hx hb dX3_workingDays_6 rfl (lv_at hl 2 rfl) ?_
  refine lv_iconst (v := nI 1) hx hb dX3_workingDays_7 (by decide) ?_
  refine mi_add hx hb dX3_workingDays_8 ?_
  refine mx_Si M w (kX3_workingDaysAheadOf l D cy C ad e H.size (t + 1) (by omega)) (va_cwS 1 M.1.2.2.2.2 gX3_workingDays_X3_workingDaysAheadOf rfl rfl rfl (by decide +kernel) ⟨Nat.le_of_ble_eq_true rfl, Nat.le_of_ble_eq_true rfl⟩) rfl hl.1 rfl (Nat.le_of_ble_eq_true rfl) dX3_workingDays_9 ⟨by decide, by decide⟩ (fun r9 u1 H locs hp1 w => ?_)
  obtain ⟨rfl, rfl⟩ := hp1
  refine lv_iload_n hx hb dX3_workingDays_12 rfl (lv_at hl 1 rfl) ?_
  refine mx_Si M w (kX3_workingDaysAheadOf l D cy C ad e H.size f (by omega)) (va_cwS 1 M.1.2.2.2.2 gX3_workingDays_X3_workingDaysAheadOf rfl rfl rfl (by decide +kernel) ⟨Nat.le_of_ble_eq_true rfl, Nat.le_of_ble_eq_true rfl⟩) rfl hl.1 rfl (Nat.le_of_ble_eq_true rfl) dX3_workingDays_13 ⟨by decide, by decide⟩ (fun r13 u1 H locs hp1 w => ?_)
  obtain ⟨rfl, rfl⟩ := hp1
  refine mi_sub hx hb (by omega) dX3_workingDays_16 ?_
  refine vx_ret ?_
  exact mx_iret M w hr (v := (nI (((t + 1) / 7 * 5 + min ((t + 1) % 7) 5) - (f / 7 * 5 + min (f % 7) 5)))) ⟨c3, rfl, rfl⟩ (by decide) (by decide) dX3_workingDays_17

set_option maxHeartbeats 4000000 in
set_option maxRecDepth 100000 in
/-- Leavebank.pass(days) -/
theorem kX3_pass (l : Launch) (hfl : l.stackTraces = false) (D : va_G) (cy : Nat → ClassId) (C : List Nat) (ad : Nat → Nat) (e : Nat → Nat → Nat) (sz : Nat) (d : Nat) (hB : ∀ k, k < 13 → k ∈ C) (hW : CW e) (hd : d < 4294967296) : vx_Met l yX3_pass wsX3_pass ({ frames := 6, cells := 1, slots := 6, locals := 82 } : Room) (PreX D cy (C, ad, G cy ad e) sz [.ref (ad 0), .int (nI d)]) (va_Qi (fun (r : Int32) (u : WT) => ((1 ≤ d ∧ d ≤ 400) ∧ e 0 6 + d ≤ 3600) ∧ r = nI (e 0 6 + d) ∧ u = (C, ad, G cy ad (es e 0 6 (e 0 6 + d)))) (WB D cy (AW (C, ad, G cy ad e) sz)) (AW (C, ad, G cy ad e) sz)) (vx_X (fun (z : String × WT) => (¬ (1 ≤ d ∧ d ≤ 400) ∧ z = (eIA, (C, ad, G cy ad e))) ∨ ((1 ≤ d ∧ d ≤ 400) ∧ ¬ (e 0 6 + d ≤ 3600) ∧ z = (eIS, (C, ad, G cy ad e)))) (XB D cy (AW (C, ad, G cy ad e) sz)) (AW (C, ad, G cy ad e) sz)) 1 6 (AW (C, ad, G cy ad e) sz) := by
  refine mxx_start (cc := cX3_pass) (maxL := 2) (ret := (some .int)) (by decide) rfl (Nat.le_of_ble_eq_true rfl) ?_
  intro p9 e9 s m args below meth c hsz hr hnm M w Th hxt ls hl
  have hx := M.1.1
  have hb := M.1.2.1
  have inX3 : ∀ w ∈ wsX30, w ∈ wsX3_pass := by decide +kernel
  have f48 : Cond.fieldLink RX3 48 RX3 "currentDay" "I" ∈ wsX3_pass := by decide +kernel
  have hl : lv_has ls 2 [(0, .ref (ad 0)), (1, .int (nI d))] := hl
  refine lv_iload_n hx hb dX3_pass_0 rfl (lv_at hl 1 rfl) ?_
  refine lv_iconst (v := nI 1) hx hb dX3_pass_1 (by decide) ?_
  refine mw_lt hx hb hd (by decide) 12 dX3_pass_2 (by decide) (fun h2 => ?_) (fun h2 => ?_)
  · exact mx_throw M w Th hfl hxt (cls := eIA) (text := "days are out of range") (is := 139) (by decide +kernel) (show Cond.classLink RX3 28 eIA ∈ wsX3_pass by decide +kernel) (show Cond.initialized eIA ∈ wsX3_pass by decide +kernel) (by decide +kernel) rfl (show ∀ w ∈ (vx_atS RX3 32 eIA eUP).filter goodWord, w ∈ wsX3_pass by decide +kernel) (by decide +kernel) (by decide +kernel) hl.1 dX3_pass_12 dX3_pass_15 dX3_pass_16 dX3_pass_18 dX3_pass_21 (by decide) (Nat.le_of_ble_eq_true rfl) (by decide) (by decide) (Or.inl ⟨by omega, rfl⟩) (by decide) (by decide)
  · refine lv_iload_n hx hb dX3_pass_5 rfl (lv_at hl 1 rfl) ?_
    refine lv_sipush (v := nI 400) hx hb dX3_pass_6 (by decide) ?_
    refine mw_le hx hb hd (by decide) 22 dX3_pass_9 (by decide) (fun h9 => ?_) (fun h9 => ?_)
    · have q1 := hW.td
      refine lv_aload_n hx hb dX3_pass_22 rfl (lv_at hl 0 rfl) ?_
      refine ex_get M w (hB 0 (by decide)) (sh_0 cy ad (e 0)) rfl inX3 6 (by decide) f48 rfl dX3_pass_23 ?_
      refine lv_iload_n hx hb dX3_pass_26 rfl (lv_at hl 1 rfl) ?_
      refine mi_add hx hb dX3_pass_27 ?_
      refine lv_sipush (v := nI 3600) hx hb dX3_pass_28 (by decide) ?_
      refine mi_le hx hb (by omega) (by decide) 44 dX3_pass_31 (by decide) (fun h31 => ?_) (fun h31 => ?_)
      · refine lv_aload_n hx hb dX3_pass_44 rfl (lv_at hl 0 rfl) ?_
        refine lv_dup hx hb dX3_pass_45 rfl ?_
        refine ex_get M w (hB 0 (by decide)) (sh_0 cy ad (e 0)) rfl inX3 6 (by decide) f48 rfl dX3_pass_46 ?_
        refine lv_iload_n hx hb dX3_pass_49 rfl (lv_at hl 1 rfl) ?_
        refine mi_add hx hb dX3_pass_50 ?_
        refine ex_put M w (hB 0 (by decide)) (sh_0 cy ad (e 0)) rfl inX3 tyX3 tyX3_ok nmX3 6 (by decide) f48 rfl (v := ((e 0 6) + d)) rfl rfl (Nat.le_of_ble_eq_true rfl) (sh_0 cy ad _) dX3_pass_51 (fun H locs w => ?_)
        refine lv_aload_n hx hb dX3_pass_54 rfl (lv_at hl 0 rfl) ?_
        refine ex_get M w (hB 0 (by decide)) (sh_0 cy ad ((es e 0 6 ((e 0 6) + d)) 0)) rfl inX3 6 (by decide) f48 (congrArg (fun z => some (Value.int (nI z))) (es_same _ _ _ _)) dX3_pass_55 ?_
        refine vx_ret ?_
        exact mx_iret M w hr (v := (nI ((e 0 6) + d))) ⟨⟨by omega, by omega⟩, rfl, rfl⟩ (by decide) (by decide) dX3_pass_58
      · exact mx_throw M w Th hfl hxt (cls := eIS) (text := "today would be later than 3600") (is := 141) (by decide +kernel) (show Cond.classLink RX3 43 eIS ∈ wsX3_pass by decide +kernel) (show Cond.initialized eIS ∈ wsX3_pass by decide +kernel) (by decide +kernel) rfl (show ∀ w ∈ (vx_atS RX3 47 eIS eUP).filter goodWord, w ∈ wsX3_pass by decide +kernel) (by decide +kernel) (by decide +kernel) hl.1 dX3_pass_34 dX3_pass_37 dX3_pass_38 dX3_pass_40 dX3_pass_43 (by decide) (Nat.le_of_ble_eq_true rfl) (by decide) (by decide) (Or.inr ⟨by omega, by omega, rfl⟩) (by decide) (by decide)
    · exact mx_throw M w Th hfl hxt (cls := eIA) (text := "days are out of range") (is := 139) (by decide +kernel) (show Cond.classLink RX3 28 eIA ∈ wsX3_pass by decide +kernel) (show Cond.initialized eIA ∈ wsX3_pass by decide +kernel) (by decide +kernel) rfl (show ∀ w ∈ (vx_atS RX3 32 eIA eUP).filter goodWord, w ∈ wsX3_pass by decide +kernel) (by decide +kernel) (by decide +kernel) hl.1 dX3_pass_12 dX3_pass_15 dX3_pass_16 dX3_pass_18 dX3_pass_21 (by decide) (Nat.le_of_ble_eq_true rfl) (by decide) (by decide) (Or.inl ⟨by omega, rfl⟩) (by decide) (by decide)
