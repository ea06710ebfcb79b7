set_option maxHeartbeats 4000000 in
set_option maxRecDepth 100000 in
/-- LeavebankModel.in(v, low, high) -/
theorem kX4_in (l : Launch) (D : va_G) (cy : Nat → ClassId) (C : List Nat) (ad : Nat → Nat) (e : Nat → Nat → Nat) (sz : Nat) (v lo hi : Nat) (hv : v < 4294967296) (hlo : lo < 2147483648) (hhi : hi < 4294967296) : Met l yX4_in wsX4_in ({ frames := 0, cells := 0, slots := 0, locals := 0 } : Room) (PreM D cy (C, ad, G cy ad e) sz [.int (nI v), .int (nI lo), .int (nI hi)]) (va_Qi (fun (r : Int32) (u : WT) => r = nI (decide (lo ≤ v ∧ v ≤ hi ∧ hi < 2147483648)).toNat ∧ u = (C, ad, G cy ad e)) (WB D cy (AW (C, ad, G cy ad e) sz)) (AW (C, ad, G cy ad e) sz)) 0 0 (AW (C, ad, G cy ad e) sz) := by
  refine mx_start (cc := cX4_in) (maxL := 3) (ret := (some .boolean)) (by decide) rfl (Nat.le_of_ble_eq_true rfl) ?_
  intro p9 e9 s m args below meth c hsz hr hnm M w ls hl
  have hx := M.1.1
  have hb := M.1.2.1
  have hl : lv_has ls 3 [(0, .int (nI v)), (1, .int (nI lo)), (2, .int (nI hi))] := hl
  refine lv_iload_n hx hb dX4_in_0 rfl (lv_at hl 0 rfl) ?_
  refine lv_iload_n hx hb dX4_in_1 rfl (lv_at hl 1 rfl) ?_
  refine mw_lt hx hb hv (by omega) 14 dX4_in_2 (by decide) (fun h2 => ?_) (fun h2 => ?_)
  · refine lv_iconst (v := nI 0) hx hb dX4_in_14 (by decide) ?_
    exact mx_zret M w hr (v := (nI 0)) (by first | exact Or.inl rfl | exact Or.inr rfl) ⟨dec_f (by omega), rfl⟩ (by decide) (by decide) dX4_in_15
  · refine lv_iload_n hx hb dX4_in_5 rfl (lv_at hl 0 rfl) ?_
    refine lv_iload_n hx hb dX4_in_6 rfl (lv_at hl 2 rfl) ?_
    refine mw_gt2 hx hb (by omega) hhi 14 dX4_in_7 (by decide) (fun h7 => ?_) (fun h7 => ?_)
    · refine lv_iconst (v := nI 0) hx hb dX4_in_14 (by decide) ?_
      exact mx_zret M w hr (v := (nI 0)) (by first | exact Or.inl rfl | exact Or.inr rfl) ⟨dec_f (by omega), rfl⟩ (by decide) (by decide) dX4_in_15
    · refine lv_iconst (v := nI 1) hx hb dX4_in_10 (by decide) ?_
      refine lv_goto (tgt := 15) hx hb dX4_in_11 (by decide) ?_
      exact mx_zret M w hr (v := (nI 1)) (by first | exact Or.inl rfl | exact Or.inr rfl) ⟨dec_t (by omega), rfl⟩ (by decide) (by decide) dX4_in_15

set_option maxHeartbeats 4000000 in
set_option maxRecDepth 100000 in
/-- LeavebankModel.in(v, low, high), high not negative -/
theorem kX4_inS (l : Launch) (D : va_G) (cy : Nat → ClassId) (C : List Nat) (ad : Nat → Nat) (e : Nat → Nat → Nat) (sz : Nat) (v lo hi : Nat) (hv : v < 4294967296) (hlo : lo < 2147483648) (hhi : hi < 2147483648) : Met l yX4_in wsX4_in ({ frames := 0, cells := 0, slots := 0, locals := 0 } : Room) (PreM D cy (C, ad, G cy ad e) sz [.int (nI v), .int (nI lo), .int (nI hi)]) (va_Qi (fun (r : Int32) (u : WT) => r = nI (decide (lo ≤ v ∧ v ≤ hi)).toNat ∧ u = (C, ad, G cy ad e)) (WB D cy (AW (C, ad, G cy ad e) sz)) (AW (C, ad, G cy ad e) sz)) 0 0 (AW (C, ad, G cy ad e) sz) := by
  refine mx_start (cc := cX4_in) (maxL := 3) (ret := (some .boolean)) (by decide) rfl (Nat.le_of_ble_eq_true rfl) ?_
  intro p9 e9 s m args below meth c hsz hr hnm M w ls hl
  have hx := M.1.1
  have hb := M.1.2.1
  have hl : lv_has ls 3 [(0, .int (nI v)), (1, .int (nI lo)), (2, .int (nI hi))] := hl
  refine lv_iload_n hx hb dX4_in_0 rfl (lv_at hl 0 rfl) ?_
  refine lv_iload_n hx hb dX4_in_1 rfl (lv_at hl 1 rfl) ?_
  refine mw_lt hx hb hv (by omega) 14 dX4_in_2 (by decide) (fun h2 => ?_) (fun h2 => ?_)
  · refine lv_iconst (v := nI 0) hx hb dX4_in_14 (by decide) ?_
    exact mx_zret M w hr (v := (nI 0)) (by first | exact Or.inl rfl | exact Or.inr rfl) ⟨dec_f (by omega), rfl⟩ (by decide) (by decide) dX4_in_15
  · refine lv_iload_n hx hb dX4_in_5 rfl (lv_at hl 0 rfl) ?_
    refine lv_iload_n hx hb dX4_in_6 rfl (lv_at hl 2 rfl) ?_
    refine mw_gt hx hb hv (by omega) 14 dX4_in_7 (by decide) (fun h7 => ?_) (fun h7 => ?_)
    · refine lv_iconst (v := nI 0) hx hb dX4_in_14 (by decide) ?_
      exact mx_zret M w hr (v := (nI 0)) (by first | exact Or.inl rfl | exact Or.inr rfl) ⟨dec_f (by omega), rfl⟩ (by decide) (by decide) dX4_in_15
    · refine lv_iconst (v := nI 1) hx hb dX4_in_10 (by decide) ?_
      refine lv_goto (tgt := 15) hx hb dX4_in_11 (by decide) ?_
      exact mx_zret M w hr (v := (nI 1)) (by first | exact Or.inl rfl | exact Or.inr rfl) ⟨dec_t (by omega), rfl⟩ (by decide) (by decide) dX4_in_15

set_option maxHeartbeats 4000000 in
set_option maxRecDepth 100000 in
/-- LeavebankModel.isPerson(p) -/
theorem kX4_isPerson (l : Launch) (D : va_G) (cy : Nat → ClassId) (C : List Nat) (ad : Nat → Nat) (e : Nat → Nat → Nat) (sz : Nat) (k : Nat) (hB : ∀ k, k < 26 → k ∈ C) (hn8 : e 7 2 ≤ 8) (hk : k < 4294967296) : Met l yX4_isPerson wsX4_isPerson ({ frames := 1, cells := 0, slots := 0, locals := 22 } : Room) (PreM D cy (C, ad, G cy ad e) sz [.ref (ad 7), .int (nI k)]) (va_Qi (fun (r : Int32) (u : WT) => r = nI (decide (k < e 7 2)).toNat ∧ u = (C, ad, G cy ad e)) (WB D cy (AW (C, ad, G cy ad e) sz)) (AW (C, ad, G cy ad e) sz)) 0 0 (AW (C, ad, G cy ad e) sz) := by
  refine mx_start (cc := cX4_isPerson) (maxL := 2) (ret := (some .boolean)) (by decide) rfl (Nat.le_of_ble_eq_true rfl) ?_
  intro p9 e9 s m args below meth c hsz hr hnm M w ls hl
  have hx := M.1.1
  have hb := M.1.2.1
  have inX4 : ∀ w ∈ wsX40, w ∈ wsX4_isPerson := by decide +kernel
  have f69 : Cond.fieldLink RX4 69 RX4 "people" "I" ∈ wsX4_isPerson := by decide +kernel
  have hl : lv_has ls 2 [(0, .ref (ad 7)), (1, .int (nI k))] := hl
  refine lv_iload_n hx hb dX4_isPerson_0 rfl (lv_at hl 1 rfl) ?_
  refine lv_iconst (v := nI 0) hx hb dX4_isPerson_1 (by decide) ?_
  refine lv_aload_n hx hb dX4_isPerson_2 rfl (lv_at hl 0 rfl) ?_
  refine ex_get M w (hB 7 (by decide)) (sh_7 cy ad (e 7)) rfl inX4 2 (by decide) f69 rfl dX4_isPerson_3 ?_
  refine lv_iconst (v := nI 1) hx hb dX4_isPerson_6 (by decide) ?_
  refine lv_isub hx hb dX4_isPerson_7 ?_
  refine W.eq (congrArg (fun z => F0 m 8 ls (.int z :: [.int (nI 0), .int (nI k)])) (nI_wrap (a := e 7 2) (b := 1) (by decide))) ?_
  refine W.eq (g2 := F0 m 8 ls (.int (nI ((e 7 2 + 4294967295) % 4294967296)) :: [.int (nI 0), .int (nI k)])) rfl ?_
  refine mx_Si M w (kX4_in l D cy C ad e s.heap.size k 0 ((e 7 2 + 4294967295) % 4294967296) (by omega) (by omega) (by omega)) (va_cwS 3 M.1.2.2.2.2 gX4_isPerson_X4_in rfl rfl rfl (by decide +kernel) ⟨Nat.le_of_ble_eq_true rfl, Nat.le_of_ble_eq_true rfl⟩) rfl hl.1 rfl (Nat.le_of_ble_eq_true rfl) dX4_isPerson_8 ⟨by decide, by decide⟩ (fun r8 u1 H locs hp1 w => ?_)
  obtain ⟨rfl, rfl⟩ := hp1
  exact mx_zret M w hr (v := (nI ((decide (0 ≤ k ∧ k ≤ ((e 7 2 + 4294967295) % 4294967296) ∧ ((e 7 2 + 4294967295) % 4294967296) < 2147483648)).toNat))) (bt_z _) ⟨congrArg (fun z : Bool => nI z.toNat) (decide_eq_decide.mpr (by omega)), rfl⟩ (by decide) (by decide) dX4_isPerson_11

set_option maxHeartbeats 4000000 in
set_option maxRecDepth 100000 in
/-- LeavebankModel.areDays(p, first, last) -/
theorem kX4_areDays (l : Launch) (D : va_G) (cy : Nat → ClassId) (C : List Nat) (ad : Nat → Nat) (e : Nat → Nat → Nat) (sz : Nat) (k f t : Nat) (hB : ∀ k, k < 26 → k ∈ C) (hk8 : k < 8) (h8 : e 8 k ≤ 3600) (hf : f < 4294967296) (ht : t < 4294967296) : Met l yX4_areDays wsX4_areDays ({ frames := 1, cells := 0, slots := 0, locals := 22 } : Room) (PreM D cy (C, ad, G cy ad e) sz [.ref (ad 7), .int (nI k), .int (nI f), .int (nI t)]) (va_Qi (fun (r : Int32) (u : WT) => r = nI (decide (e 8 k ≤ f ∧ f ≤ t ∧ t ≤ 3600)).toNat ∧ u = (C, ad, G cy ad e)) (WB D cy (AW (C, ad, G cy ad e) sz)) (AW (C, ad, G cy ad e) sz)) 0 0 (AW (C, ad, G cy ad e) sz) := by
  refine mx_start (cc := cX4_areDays) (maxL := 4) (ret := (some .boolean)) (by decide) rfl (Nat.le_of_ble_eq_true rfl) ?_
  intro p9 e9 s m args below meth c hsz hr hnm M w ls hl
  have hx := M.1.1
  have hb := M.1.2.1
  have inX4 : ∀ w ∈ wsX40, w ∈ wsX4_areDays := by decide +kernel
  have f7 : Cond.fieldLink RX4 7 RX4 "start" "[I" ∈ wsX4_areDays := by decide +kernel
  have hl : lv_has ls 4 [(0, .ref (ad 7)), (1, .int (nI k)), (2, .int (nI f)), (3, .int (nI t))] := hl
  refine lv_iload_n hx hb dX4_areDays_0 rfl (lv_at hl 2 rfl) ?_
  refine lv_aload_n hx hb dX4_areDays_1 rfl (lv_at hl 0 rfl) ?_
  refine ex_get M w (hB 7 (by decide)) (sh_7 cy ad (e 7)) rfl inX4 3 (by decide) f7 rfl dX4_areDays_2 ?_
  refine lv_iload_n hx hb dX4_areDays_5 rfl (lv_at hl 1 rfl) ?_
  refine ex_iald M w (hB 8 (by decide)) (sh_8 cy ad) (by omega) (by decide) rfl dX4_areDays_6 ?_
  refine lv_sipush (v := nI 3600) hx hb dX4_areDays_7 (by decide) ?_
  refine mx_Si M w (kX4_inS l D cy C ad e s.heap.size f (e 8 k) 3600 (by omega) (by omega) (by omega)) (va_cwS 3 M.1.2.2.2.2 gX4_areDays_X4_in rfl rfl rfl (by decide +kernel) ⟨Nat.le_of_ble_eq_true rfl, Nat.le_of_ble_eq_true rfl⟩) rfl hl.1 rfl (Nat.le_of_ble_eq_true rfl) dX4_areDays_10 ⟨by decide, by decide⟩ (fun r10 u1 H locs hp1 w => ?_)
  obtain ⟨rfl, rfl⟩ := hp1
  refine mi_if_eq hx hb (bt_lt _) 31 dX4_areDays_13 (by decide) (fun h13 => ?_) (fun h13 => ?_)
  · refine lv_iconst (v := nI 0) hx hb dX4_areDays_31 (by decide) ?_
    exact mx_zret M w hr (v := (nI 0)) (by first | exact Or.inl rfl | exact Or.inr rfl) ⟨dec_f (by have z := of_decide_eq_false (bt_f h13); omega), rfl⟩ (by decide) (by decide) dX4_areDays_32
  · have q1 := of_decide_eq_true (bt_t h13)
    refine lv_iload_n hx hb dX4_areDays_16 rfl (lv_at hl 3 rfl) ?_
    refine lv_iload_n hx hb dX4_areDays_17 rfl (lv_at hl 2 rfl) ?_
    refine lv_sipush (v := nI 3600) hx hb dX4_areDays_18 (by decide) ?_
    refine mx_Si M w (kX4_inS l D cy C ad e H.size t f 3600 (by omega) (by omega) (by omega)) (va_cwS 3 M.1.2.2.2.2 gX4_areDays_X4_in rfl rfl rfl (by decide +kernel) ⟨Nat.le_of_ble_eq_true rfl, Nat.le_of_ble_eq_true rfl⟩) rfl hl.1 rfl (Nat.le_of_ble_eq_true rfl) dX4_areDays_21 ⟨by decide, by decide⟩ (fun r21 u1 H locs hp1 w => ?_)
    obtain ⟨rfl, rfl⟩ := hp1
    refine mi_if_eq hx hb (bt_lt _) 31 dX4_areDays_24 (by decide) (fun h24 => ?_) (fun h24 => ?_)
    · refine lv_iconst (v := nI 0) hx hb dX4_areDays_31 (by decide) ?_
      exact mx_zret M w hr (v := (nI 0)) (by first | exact Or.inl rfl | exact Or.inr rfl) ⟨dec_f (by have z := of_decide_eq_false (bt_f h24); omega), rfl⟩ (by decide) (by decide) dX4_areDays_32
    · refine lv_iconst (v := nI 1) hx hb dX4_areDays_27 (by decide) ?_
      refine lv_goto (tgt := 32) hx hb dX4_areDays_28 (by decide) ?_
      exact mx_zret M w hr (v := (nI 1)) (by first | exact Or.inl rfl | exact Or.inr rfl) ⟨dec_t (by have z := of_decide_eq_true (bt_t h24); omega), rfl⟩ (by decide) (by decide) dX4_areDays_32

set_option maxHeartbeats 4000000 in
set_option maxRecDepth 100000 in
/-- LeavebankModel.isWorking(day) -/
theorem kX4_isWorking (l : Launch) (D : va_G) (cy : Nat → ClassId) (C : List Nat) (ad : Nat → Nat) (e : Nat → Nat → Nat) (sz : Nat) (dy : Nat) (hd : dy < 2147483648) : Met l yX4_isWorking wsX4_isWorking ({ frames := 0, cells := 0, slots := 0, locals := 0 } : Room) (PreM D cy (C, ad, G cy ad e) sz [.int (nI dy)]) (va_Qi (fun (r : Int32) (u : WT) => r = nI (decide (dy % 7 < 5)).toNat ∧ u = (C, ad, G cy ad e)) (WB D cy (AW (C, ad, G cy ad e) sz)) (AW (C, ad, G cy ad e) sz)) 0 0 (AW (C, ad, G cy ad e) sz) := by
  refine mx_start (cc := cX4_isWorking) (maxL := 1) (ret := (some .boolean)) (by decide) rfl (Nat.le_of_ble_eq_true rfl) ?_
  intro p9 e9 s m args below meth c hsz hr hnm M w ls hl
  have hx := M.1.1
  have hb := M.1.2.1
  have hl : lv_has ls 1 [(0, .int (nI dy))] := hl
  refine lv_iload_n hx hb dX4_isWorking_0 rfl (lv_at hl 0 rfl) ?_
  refine lv_bipush (v := nI 7) hx hb dX4_isWorking_1 (by decide) ?_
  refine mi_rem hx hb (by omega) (by decide) (by decide) dX4_isWorking_3 ?_
  refine lv_iconst (v := nI 5) hx hb dX4_isWorking_4 (by decide) ?_
  refine mi_ge hx hb (by omega) (by decide) 12 dX4_isWorking_5 (by decide) (fun h5 => ?_) (fun h5 => ?_)
  · refine lv_iconst (v := nI 0) hx hb dX4_isWorking_12 (by decide) ?_
    exact mx_zret M w hr (v := (nI 0)) (by first | exact Or.inl rfl | exact Or.inr rfl) ⟨dec_f (by omega), rfl⟩ (by decide) (by decide) dX4_isWorking_13
  · refine lv_iconst (v := nI 1) hx hb dX4_isWorking_8 (by decide) ?_
    refine lv_goto (tgt := 13) hx hb dX4_isWorking_9 (by decide) ?_
    exact mx_zret M w hr (v := (nI 1)) (by first | exact Or.inl rfl | exact Or.inr rfl) ⟨dec_t (by omega), rfl⟩ (by decide) (by decide) dX4_isWorking_13

set_option maxHeartbeats 4000000 in
set_option maxRecDepth 100000 in
/-- LeavebankModel.hoursOn(p, day) -/
theorem kX4_hoursOn (l : Launch) (D : va_G) (cy : Nat → ClassId) (C : List Nat) (ad : Nat → Nat) (e : Nat → Nat → Nat) (sz : Nat) (k dy : Nat) (hB : ∀ k, k < 26 → k ∈ C) (hk8 : k < 8) (hP : MWp e k) (hd : dy ≤ 3600) : Met l yX4_hoursOn wsX4_hoursOn ({ frames := 0, cells := 0, slots := 0, locals := 0 } : Room) (PreM D cy (C, ad, G cy ad e) sz [.ref (ad 7), .int (nI k), .int (nI dy)]) (va_Qi (fun (r : Int32) (u : WT) => r = nI (hrM e k dy) ∧ u = (C, ad, G cy ad e)) (WB D cy (AW (C, ad, G cy ad e) sz)) (AW (C, ad, G cy ad e) sz)) 0 0 (AW (C, ad, G cy ad e) sz) := by
  refine mx_start (cc := cX4_hoursOn) (maxL := 7) (ret := (some .int)) (by decide) rfl (Nat.le_of_ble_eq_true rfl) ?_
  intro p9 e9 s m args below meth c hsz hr hnm M w ls hl
  have hx := M.1.1
  have hb := M.1.2.1
  have inX4 : ∀ w ∈ wsX40, w ∈ wsX4_hoursOn := by decide +kernel
  have f16 : Cond.fieldLink RX4 16 RX4 "hours" "[I" ∈ wsX4_hoursOn := by decide +kernel
  have f19 : Cond.fieldLink RX4 19 RX4 "changes" "[I" ∈ wsX4_hoursOn := by decide +kernel
  have f22 : Cond.fieldLink RX4 22 RX4 "changeDay" "[I" ∈ wsX4_hoursOn := by decide +kernel
  have f25 : Cond.fieldLink RX4 25 RX4 "changeHours" "[I" ∈ wsX4_hoursOn := by decide +kernel
  have hs1 := hP.2.2.2.1
  have hs2 := hP.2.2.2.2
  have cut16 : ∀ (n9 : Nat) (i : Nat) (la : Int32) (hh : Nat) (hi : i ≤ e 11 k) (hla : la = nI (hMn e k dy i).1 - 1) (hhh : hh = (hMn e k dy i).2) (_hm : e 11 k - i < n9) (H : Heap) (locs : List Loc), MO D (AW (C, ad, G cy ad e) sz) s.heap (C, ad, G cy ad e) H locs → ∀ (ls : Array Slot), lv_has ls 7 [(0, .ref (ad 7)), (1, .int (nI k)), (2, .int (nI dy)), (3, .int (nI hh)), (4, .int la), (5, .int (nI (10 * k + i)))] → W p9 l e9 ({ frames := 0, cells := 0, slots := 0, locals := 0 } : Room) s m args below meth c H locs 0 0 (MQ below (va_Qi (fun (r : Int32) (u : WT) => r = nI (hrM e k dy) ∧ u = (C, ad, G cy ad e)) (WB D cy (AW (C, ad, G cy ad e) sz)) (AW (C, ad, G cy ad e) sz)) args s 0 0 (AW (C, ad, G cy ad e) sz)) (F0 m 16 ls []) := by
    intro n9
    induction n9 with
    | zero => intro i la hh hi hla hhh _hm; exact absurd _hm (Nat.not_lt_zero _)
    | succ n9 ih =>
      intro i la hh hi hla hhh _hm H locs w ls hl
      refine lv_iload hx hb dX4_hoursOn_16 (lv_at hl 5 rfl) ?_
      refine lv_bipush (v := nI 10) hx hb dX4_hoursOn_18 (by decide) ?_
      refine lv_iload_n hx hb dX4_hoursOn_20 rfl (lv_at hl 1 rfl) ?_
      refine mi_mul hx hb dX4_hoursOn_21 ?_
      refine lv_aload_n hx hb dX4_hoursOn_22 rfl (lv_at hl 0 rfl) ?_
      refine ex_get M w (hB 7 (by decide)) (sh_7 cy ad (e 7)) rfl inX4 6 (by decide) f19 rfl dX4_hoursOn_23 ?_
      refine lv_iload_n hx hb dX4_hoursOn_26 rfl (lv_at hl 1 rfl) ?_
      refine ex_iald M w (hB 11 (by decide)) (sh_11 cy ad) (by omega) (by decide) rfl dX4_hoursOn_27 ?_
      refine mi_add hx hb dX4_hoursOn_28 ?_
      refine mi_ge hx hb (by omega) (by omega) 104 dX4_hoursOn_29 (by decide) (fun h29 => ?_) (fun h29 => ?_)
      · refine lv_iload_n hx hb dX4_hoursOn_104 rfl (lv_at hl 3 rfl) ?_
        exact mx_iret M w hr (v := (nI hh)) ⟨by rw [hhh]; unfold hrM hMn; rw [show e 11 k = i by omega], rfl⟩ (by decide) (by decide) dX4_hoursOn_105
      · have q1 := hs2 i (by omega)
        have q2 := hM_le e k dy i
        refine lv_aload_n hx hb dX4_hoursOn_32 rfl (lv_at hl 0 rfl) ?_
        refine ex_get M w (hB 7 (by decide)) (sh_7 cy ad (e 7)) rfl inX4 7 (by decide) f22 rfl dX4_hoursOn_33 ?_
        refine lv_iload hx hb dX4_hoursOn_36 (lv_at hl 5 rfl) ?_
        refine ex_iald M w (hB 12 (by decide)) (sh_12 cy ad) (by omega) (by decide) rfl dX4_hoursOn_38 ?_
        refine lv_iload_n hx hb dX4_hoursOn_39 rfl (lv_at hl 2 rfl) ?_
        refine mi_gt hx hb (by omega) (by omega) 59 dX4_hoursOn_40 (by decide) (fun h40 => ?_) (fun h40 => ?_)
        · refine lv_iconst (v := nI 0) hx hb dX4_hoursOn_59 (by decide) ?_
          refine lv_istore (lv' := [(6, .int (nI 0)), (0, .ref (ad 7)), (1, .int (nI k)), (2, .int (nI dy)), (3, .int (nI hh)), (4, .int la), (5, .int (nI (10 * k + i)))]) hx hb dX4_hoursOn_60 hl (by decide) rfl (fun ls hl => ?_)
          refine lv_iload hx hb dX4_hoursOn_62 (lv_at hl 0 rfl) ?_
          refine mi_if_eq hx hb (by decide) 77 dX4_hoursOn_64 (by decide) (fun h64 => ?_) (fun h64 => absurd h64 (by first | decide | omega))
          refine lv_iload_n hx hb dX4_hoursOn_77 rfl (lv_at hl 4 rfl) ?_
          refine lv_istore_n (lv' := [(3, .int (nI hh)), (6, .int (nI 0)), (0, .ref (ad 7)), (1, .int (nI k)), (2, .int (nI dy)), (4, .int la), (5, .int (nI (10 * k + i)))]) hx hb dX4_hoursOn_78 rfl hl (by decide) rfl (fun ls hl => ?_)
          refine lv_iload hx hb dX4_hoursOn_79 (lv_at hl 1 rfl) ?_
          refine mi_if_eq hx hb (by decide) 94 dX4_hoursOn_81 (by decide) (fun h81 => ?_) (fun h81 => absurd h81 (by first | decide | omega))
          refine lv_iload hx hb dX4_hoursOn_94 (lv_at hl 5 rfl) ?_
          refine lv_istore (lv' := [(4, .int la), (3, .int (nI hh)), (6, .int (nI 0)), (0, .ref (ad 7)), (1, .int (nI k)), (2, .int (nI dy)), (5, .int (nI (10 * k + i)))]) hx hb dX4_hoursOn_96 hl (by decide) rfl (fun ls hl => ?_)
          refine lv_iinc (v := nI (10 * k + i + 1)) (lv' := [(5, .int (nI (10 * k + i + 1))), (4, .int la), (3, .int (nI hh)), (6, .int (nI 0)), (0, .ref (ad 7)), (1, .int (nI k)), (2, .int (nI dy))]) hx hb dX4_hoursOn_98 hl (k := 6) rfl (nI_inc _ 1) (by decide) rfl (fun ls hl => ?_)
          refine lv_goto (tgt := 16) hx hb dX4_hoursOn_101 (by decide) ?_
          exact ih (i + 1) la hh (by omega) (by rw [hM_2 (by omega)]; exact hla) (by rw [hM_2 (by omega)]; exact hhh)  (by omega) _ _ w ls (lv_sub hl [4, 5, 6, 2, 1, 0] rfl)
        · refine lv_aload_n hx hb dX4_hoursOn_43 rfl (lv_at hl 0 rfl) ?_
          refine ex_get M w (hB 7 (by decide)) (sh_7 cy ad (e 7)) rfl inX4 7 (by decide) f22 rfl dX4_hoursOn_44 ?_
          refine lv_iload hx hb dX4_hoursOn_47 (lv_at hl 5 rfl) ?_
          refine ex_iald M w (hB 12 (by decide)) (sh_12 cy ad) (by omega) (by decide) rfl dX4_hoursOn_49 ?_
          refine lv_iload hx hb dX4_hoursOn_50 (lv_at hl 4 rfl) ?_
          refine lv_icmp_le (tgt := 59) hx hb dX4_hoursOn_52 (by decide) (fun h52 => ?_) (fun h52 => ?_)
          · refine lv_iconst (v := nI 0) hx hb dX4_hoursOn_59 (by decide) ?_
            refine lv_istore (lv' := [(6, .int (nI 0)), (0, .ref (ad 7)), (1, .int (nI k)), (2, .int (nI dy)), (3, .int (nI hh)), (4, .int la), (5, .int (nI (10 * k + i)))]) hx hb dX4_hoursOn_60 hl (by decide) rfl (fun ls hl => ?_)
            refine lv_iload hx hb dX4_hoursOn_62 (lv_at hl 0 rfl) ?_
            refine mi_if_eq hx hb (by decide) 77 dX4_hoursOn_64 (by decide) (fun h64 => ?_) (fun h64 => absurd h64 (by first | decide | omega))
            refine lv_iload_n hx hb dX4_hoursOn_77 rfl (lv_at hl 4 rfl) ?_
            refine lv_istore_n (lv' := [(3, .int (nI hh)), (6, .int (nI 0)), (0, .ref (ad 7)), (1, .int (nI k)), (2, .int (nI dy)), (4, .int la), (5, .int (nI (10 * k + i)))]) hx hb dX4_hoursOn_78 rfl hl (by decide) rfl (fun ls hl => ?_)
            refine lv_iload hx hb dX4_hoursOn_79 (lv_at hl 1 rfl) ?_
            refine mi_if_eq hx hb (by decide) 94 dX4_hoursOn_81 (by decide) (fun h81 => ?_) (fun h81 => absurd h81 (by first | decide | omega))
            refine lv_iload hx hb dX4_hoursOn_94 (lv_at hl 5 rfl) ?_
            refine lv_istore (lv' := [(4, .int la), (3, .int (nI hh)), (6, .int (nI 0)), (0, .ref (ad 7)), (1, .int (nI k)), (2, .int (nI dy)), (5, .int (nI (10 * k + i)))]) hx hb dX4_hoursOn_96 hl (by decide) rfl (fun ls hl => ?_)
            refine lv_iinc (v := nI (10 * k + i + 1)) (lv' := [(5, .int (nI (10 * k + i + 1))), (4, .int la), (3, .int (nI hh)), (6, .int (nI 0)), (0, .ref (ad 7)), (1, .int (nI k)), (2, .int (nI dy))]) hx hb dX4_hoursOn_98 hl (k := 6) rfl (nI_inc _ 1) (by decide) rfl (fun ls hl => ?_)
            refine lv_goto (tgt := 16) hx hb dX4_hoursOn_101 (by decide) ?_
            exact ih (i + 1) la hh (by omega) (by rw [hM_2 (fun z => by rw [hla] at h52; have z2 := (le_m1 (by omega) (by omega)).mp h52; omega)]; exact hla) (by rw [hM_2 (fun z => by rw [hla] at h52; have z2 := (le_m1 (by omega) (by omega)).mp h52; omega)]; exact hhh)  (by omega) _ _ w ls (lv_sub hl [4, 5, 6, 2, 1, 0] rfl)
          · refine lv_iconst (v := nI 1) hx hb dX4_hoursOn_55 (by decide) ?_
            refine lv_goto (tgt := 60) hx hb dX4_hoursOn_56 (by decide) ?_
            refine lv_istore (lv' := [(6, .int (nI 1)), (0, .ref (ad 7)), (1, .int (nI k)), (2, .int (nI dy)), (3, .int (nI hh)), (4, .int la), (5, .int (nI (10 * k + i)))]) hx hb dX4_hoursOn_60 hl (by decide) rfl (fun ls hl => ?_)
            refine lv_iload hx hb dX4_hoursOn_62 (lv_at hl 0 rfl) ?_
            refine mi_if_eq hx hb (by decide) 77 dX4_hoursOn_64 (by decide) (fun h64 => absurd h64 (by first | decide | omega)) (fun h64 => ?_)
            refine lv_aload_n hx hb dX4_hoursOn_67 rfl (lv_at hl 1 rfl) ?_
            refine ex_get M w (hB 7 (by decide)) (sh_7 cy ad (e 7)) rfl inX4 8 (by decide) f25 rfl dX4_hoursOn_68 ?_
            refine lv_iload hx hb dX4_hoursOn_71 (lv_at hl 6 rfl) ?_
            refine ex_iald M w (hB 13 (by decide)) (sh_13 cy ad) (by omega) (by decide) rfl dX4_hoursOn_73 ?_
            refine lv_goto (tgt := 78) hx hb dX4_hoursOn_74 (by decide) ?_
            refine lv_istore_n (lv' := [(3, .int (nI (e 13 (10 * k + i)))), (6, .int (nI 1)), (0, .ref (ad 7)), (1, .int (nI k)), (2, .int (nI dy)), (4, .int la), (5, .int (nI (10 * k + i)))]) hx hb dX4_hoursOn_78 rfl hl (by decide) rfl (fun ls hl => ?_)
            refine lv_iload hx hb dX4_hoursOn_79 (lv_at hl 1 rfl) ?_
            refine mi_if_eq hx hb (by decide) 94 dX4_hoursOn_81 (by decide) (fun h81 => absurd h81 (by first | decide | omega)) (fun h81 => ?_)
            refine lv_aload_n hx hb dX4_hoursOn_84 rfl (lv_at hl 2 rfl) ?_
            refine ex_get M w (hB 7 (by decide)) (sh_7 cy ad (e 7)) rfl inX4 7 (by decide) f22 rfl dX4_hoursOn_85 ?_
            refine lv_iload hx hb dX4_hoursOn_88 (lv_at hl 6 rfl) ?_
            refine ex_iald M w (hB 12 (by decide)) (sh_12 cy ad) (by omega) (by decide) rfl dX4_hoursOn_90 ?_
            refine lv_goto (tgt := 96) hx hb dX4_hoursOn_91 (by decide) ?_
            refine lv_istore (lv' := [(4, .int (nI (e 12 (10 * k + i)))), (3, .int (nI (e 13 (10 * k + i)))), (6, .int (nI 1)), (0, .ref (ad 7)), (1, .int (nI k)), (2, .int (nI dy)), (5, .int (nI (10 * k + i)))]) hx hb dX4_hoursOn_96 hl (by decide) rfl (fun ls hl => ?_)
            refine lv_iinc (v := nI (10 * k + i + 1)) (lv' := [(5, .int (nI (10 * k + i + 1))), (4, .int (nI (e 12 (10 * k + i)))), (3, .int (nI (e 13 (10 * k + i)))), (6, .int (nI 1)), (0, .ref (ad 7)), (1, .int (nI k)), (2, .int (nI dy))]) hx hb dX4_hoursOn_98 hl (k := 6) rfl (nI_inc _ 1) (by decide) rfl (fun ls hl => ?_)
            refine lv_goto (tgt := 16) hx hb dX4_hoursOn_101 (by decide) ?_
            exact ih (i + 1) _ _ (by omega) (by rw [hM_1 (by omega) (by rw [hla] at h52; rcases Nat.lt_or_ge (e 12 (10 * k + i)) (hMn e k dy i).1 with z | z <;> first | exact z | exact absurd ((le_m1 (by omega) (by omega)).mpr z) h52)]; exact (nI_pred _).symm) (by rw [hM_1 (by omega) (by rw [hla] at h52; rcases Nat.lt_or_ge (e 12 (10 * k + i)) (hMn e k dy i).1 with z | z <;> first | exact z | exact absurd ((le_m1 (by omega) (by omega)).mpr z) h52)])  (by omega) _ _ w ls (lv_sub hl [4, 5, 6, 2, 1, 0] rfl)
  have hl : lv_has ls 7 [(0, .ref (ad 7)), (1, .int (nI k)), (2, .int (nI dy))] := hl
  refine lv_aload_n hx hb dX4_hoursOn_0 rfl (lv_at hl 0 rfl) ?_
  refine ex_get M w (hB 7 (by decide)) (sh_7 cy ad (e 7)) rfl inX4 5 (by decide) f16 rfl dX4_hoursOn_1 ?_
  refine lv_iload_n hx hb dX4_hoursOn_4 rfl (lv_at hl 1 rfl) ?_
  refine ex_iald M w (hB 10 (by decide)) (sh_10 cy ad) (by omega) (by decide) rfl dX4_hoursOn_5 ?_
  refine lv_istore_n (lv' := [(3, .int (nI (e 10 k))), (0, .ref (ad 7)), (1, .int (nI k)), (2, .int (nI dy))]) hx hb dX4_hoursOn_6 rfl hl (by decide) rfl (fun ls hl => ?_)
  refine lv_iconst (v := (-1)) hx hb dX4_hoursOn_7 (by decide) ?_
  refine lv_istore (lv' := [(4, .int (-1)), (3, .int (nI (e 10 k))), (0, .ref (ad 7)), (1, .int (nI k)), (2, .int (nI dy))]) hx hb dX4_hoursOn_8 hl (by decide) rfl (fun ls hl => ?_)
  refine lv_bipush (v := nI 10) hx hb dX4_hoursOn_10 (by decide) ?_
  refine lv_iload_n hx hb dX4_hoursOn_12 rfl (lv_at hl 3 rfl) ?_
  refine mi_mul hx hb dX4_hoursOn_13 ?_
  refine lv_istore (lv' := [(5, .int (nI (10 * k))), (4, .int (-1)), (3, .int (nI (e 10 k))), (0, .ref (ad 7)), (1, .int (nI k)), (2, .int (nI dy))]) hx hb dX4_hoursOn_14 hl (by decide) rfl (fun ls hl => ?_)
  exact cut16 (e 11 k - 0 + 1) 0 _ _ (Nat.zero_le _) rfl rfl  (by omega) _ _ w ls (lv_sub hl [3, 4, 5, 2, 1, 0] rfl)

set_option maxHeartbeats 4000000 in
set_option maxRecDepth 100000 in
/-- LeavebankModel.isIll(p, day) -/
theorem kX4_isIll (l : Launch) (D : va_G) (cy : Nat → ClassId) (C : List Nat) (ad : Nat → Nat) (e : Nat → Nat → Nat) (sz : Nat) (p dy : Nat) (hB : ∀ k, k < 26 → k ∈ C) (hM : MW e) (hp8 : p < 8) (hd : dy ≤ 3600) : Met l yX4_isIll wsX4_isIll ({ frames := 1, cells := 0, slots := 0, locals := 22 } : Room) (PreM D cy (C, ad, G cy ad e) sz [.ref (ad 7), .int (nI p), .int (nI dy)]) (va_Qi (fun (r : Int32) (u : WT) => r = nI (illM e p dy).toNat ∧ u = (C, ad, G cy ad e)) (WB D cy (AW (C, ad, G cy ad e) sz)) (AW (C, ad, G cy ad e) sz)) 0 0 (AW (C, ad, G cy ad e) sz) := by
  refine mx_start (cc := cX4_isIll) (maxL := 5) (ret := (some .boolean)) (by decide) rfl (Nat.le_of_ble_eq_true rfl) ?_
  intro p9 e9 s m args below meth c hsz hr hnm M w ls hl
  have hx := M.1.1
  have hb := M.1.2.1
  have inX4 : ∀ w ∈ wsX40, w ∈ wsX4_isIll := by decide +kernel
  have f44 : Cond.fieldLink RX4 44 RX4 "ill" "[I" ∈ wsX4_isIll := by decide +kernel
  have f47 : Cond.fieldLink RX4 47 RX4 "illFrom" "[I" ∈ wsX4_isIll := by decide +kernel
  have f50 : Cond.fieldLink RX4 50 RX4 "illTo" "[I" ∈ wsX4_isIll := by decide +kernel
  have f76 : Cond.fieldLink RX4 76 RX4 "spells" "I" ∈ wsX4_isIll := by decide +kernel
  obtain ⟨⟨m1, m2, m3, m4, m5⟩, mr, ms, my, mp9⟩ := hM
  have cut5 : ∀ (n9 : Nat) (i : Nat) (b : Bool) (hi : i ≤ e 7 15) (hq : b = anyN (fun k => decide (e 19 k = p ∧ e 20 k ≤ dy ∧ dy ≤ e 21 k)) i) (_hm : e 7 15 - i < n9) (H : Heap) (locs : List Loc), MO D (AW (C, ad, G cy ad e) sz) s.heap (C, ad, G cy ad e) H locs → ∀ (ls : Array Slot), lv_has ls 5 [(0, .ref (ad 7)), (1, .int (nI p)), (2, .int (nI dy)), (3, .int (nI b.toNat)), (4, .int (nI i))] → W p9 l e9 ({ frames := 1, cells := 0, slots := 0, locals := 22 } : Room) s m args below meth c H locs 0 0 (MQ below (va_Qi (fun (r : Int32) (u : WT) => r = nI (illM e p dy).toNat ∧ u = (C, ad, G cy ad e)) (WB D cy (AW (C, ad, G cy ad e) sz)) (AW (C, ad, G cy ad e) sz)) args s 0 0 (AW (C, ad, G cy ad e) sz)) (F0 m 5 ls []) := by
    intro n9
    induction n9 with
    | zero => intro i b hi hq _hm; exact absurd _hm (Nat.not_lt_zero _)
    | succ n9 ih =>
      intro i b hi hq _hm H locs w ls hl
      refine lv_iload hx hb dX4_isIll_5 (lv_at hl 4 rfl) ?_
      refine lv_aload_n hx hb dX4_isIll_7 rfl (lv_at hl 0 rfl) ?_
      refine ex_get M w (hB 7 (by decide)) (sh_7 cy ad (e 7)) rfl inX4 15 (by decide) f76 rfl dX4_isIll_8 ?_
      refine mi_ge hx hb (by omega) (by omega) 62 dX4_isIll_11 (by decide) (fun h11 => ?_) (fun h11 => ?_)
      · refine lv_iload_n hx hb dX4_isIll_62 rfl (lv_at hl 3 rfl) ?_
        exact mx_zret M w hr (v := (nI b.toNat)) (bt_z _) ⟨by rw [hq]; unfold illM; rw [show e 7 15 = i by omega], rfl⟩ (by decide) (by decide) dX4_isIll_63
      · have q1 := ms i (by omega)
        obtain ⟨q3, q4, q5⟩ := q1
        refine lv_iload_n hx hb dX4_isIll_14 rfl (lv_at hl 3 rfl) ?_
        refine mi_if_ne hx hb (bt_lt _) 50 dX4_isIll_15 (by decide) (fun h15 => ?_) (fun h15 => ?_)
        · refine lv_iconst (v := nI 1) hx hb dX4_isIll_50 (by decide) ?_
          refine lv_goto (tgt := 55) hx hb dX4_isIll_51 (by decide) ?_
          refine lv_istore_n (lv' := [(3, .int (nI 1)), (0, .ref (ad 7)), (1, .int (nI p)), (2, .int (nI dy)), (4, .int (nI i))]) hx hb dX4_isIll_55 rfl hl (by decide) rfl (fun ls hl => ?_)
          refine lv_iinc (v := nI (i + 1)) (lv' := [(4, .int (nI (i + 1))), (3, .int (nI 1)), (0, .ref (ad 7)), (1, .int (nI p)), (2, .int (nI dy))]) hx hb dX4_isIll_56 hl (k := 4) rfl (nI_inc _ 1) (by decide) rfl (fun ls hl => ?_)
          refine lv_goto (tgt := 5) hx hb dX4_isIll_59 (by decide) ?_
          exact ih (i + 1) true (by omega) (anyS_1 hq (bt_t h15))  (by omega) _ _ w ls (lv_sub hl [2, 3, 4, 1, 0] rfl)
        · refine lv_aload_n hx hb dX4_isIll_18 rfl (lv_at hl 0 rfl) ?_
          refine ex_get M w (hB 7 (by decide)) (sh_7 cy ad (e 7)) rfl inX4 16 (by decide) f44 rfl dX4_isIll_19 ?_
          refine lv_iload hx hb dX4_isIll_22 (lv_at hl 4 rfl) ?_
          refine ex_iald M w (hB 19 (by decide)) (sh_19 cy ad) (by omega) (by decide) rfl dX4_isIll_24 ?_
          refine lv_iload_n hx hb dX4_isIll_25 rfl (lv_at hl 1 rfl) ?_
          refine mi_ne hx hb (by omega) (by omega) 54 dX4_isIll_26 (by decide) (fun h26 => ?_) (fun h26 => ?_)
          · refine lv_iconst (v := nI 0) hx hb dX4_isIll_54 (by decide) ?_
            refine lv_istore_n (lv' := [(3, .int (nI 0)), (0, .ref (ad 7)), (1, .int (nI p)), (2, .int (nI dy)), (4, .int (nI i))]) hx hb dX4_isIll_55 rfl hl (by decide) rfl (fun ls hl => ?_)
            refine lv_iinc (v := nI (i + 1)) (lv' := [(4, .int (nI (i + 1))), (3, .int (nI 0)), (0, .ref (ad 7)), (1, .int (nI p)), (2, .int (nI dy))]) hx hb dX4_isIll_56 hl (k := 4) rfl (nI_inc _ 1) (by decide) rfl (fun ls hl => ?_)
            refine lv_goto (tgt := 5) hx hb dX4_isIll_59 (by decide) ?_
            exact ih (i + 1) false (by omega) (anyS_0 hq (bt_f h15) (decide_eq_false (fun z => h26 z.1)))  (by omega) _ _ w ls (lv_sub hl [2, 3, 4, 1, 0] rfl)
          · refine lv_iload_n hx hb dX4_isIll_29 rfl (lv_at hl 2 rfl) ?_
            refine lv_aload_n hx hb dX4_isIll_30 rfl (lv_at hl 0 rfl) ?_
            refine ex_get M w (hB 7 (by decide)) (sh_7 cy ad (e 7)) rfl inX4 17 (by decide) f47 rfl dX4_isIll_31 ?_
            refine lv_iload hx hb dX4_isIll_34 (lv_at hl 4 rfl) ?_
            refine ex_iald M w (hB 20 (by decide)) (sh_20 cy ad) (by omega) (by decide) rfl dX4_isIll_36 ?_
            refine lv_aload_n hx hb dX4_isIll_37 rfl (lv_at hl 0 rfl) ?_
            refine ex_get M w (hB 7 (by decide)) (sh_7 cy ad (e 7)) rfl inX4 18 (by decide) f50 rfl dX4_isIll_38 ?_
            refine lv_iload hx hb dX4_isIll_41 (lv_at hl 4 rfl) ?_
            refine ex_iald M w (hB 21 (by decide)) (sh_21 cy ad) (by omega) (by decide) rfl dX4_isIll_43 ?_
            refine mx_Si M w (kX4_inS l D cy C ad e H.size dy (e 20 i) (e 21 i) (by omega) (by omega) (by omega)) (va_cwS 3 M.1.2.2.2.2 gX4_isIll_X4_in rfl rfl rfl (by decide +kernel) ⟨Nat.le_of_ble_eq_true rfl, Nat.le_of_ble_eq_true rfl⟩) rfl hl.1 rfl (Nat.le_of_ble_eq_true rfl) dX4_isIll_44 ⟨by decide, by decide⟩ (fun r44 u1 H locs hp1 w => ?_)
            obtain ⟨rfl, rfl⟩ := hp1
            refine mi_if_eq hx hb (bt_lt _) 54 dX4_isIll_47 (by decide) (fun h47 => ?_) (fun h47 => ?_)
            · refine lv_iconst (v := nI 0) hx hb dX4_isIll_54 (by decide) ?_
              refine lv_istore_n (lv' := [(3, .int (nI 0)), (0, .ref (ad 7)), (1, .int (nI p)), (2, .int (nI dy)), (4, .int (nI i))]) hx hb dX4_isIll_55 rfl hl (by decide) rfl (fun ls hl => ?_)
              refine lv_iinc (v := nI (i + 1)) (lv' := [(4, .int (nI (i + 1))), (3, .int (nI 0)), (0, .ref (ad 7)), (1, .int (nI p)), (2, .int (nI dy))]) hx hb dX4_isIll_56 hl (k := 4) rfl (nI_inc _ 1) (by decide) rfl (fun ls hl => ?_)
              refine lv_goto (tgt := 5) hx hb dX4_isIll_59 (by decide) ?_
              exact ih (i + 1) false (by omega) (anyS_0 hq (bt_f h15) (decide_eq_false (fun z => of_decide_eq_false (bt_f h47) z.2)))  (by omega) _ _ w ls (lv_sub hl [2, 3, 4, 1, 0] rfl)
            · refine lv_iconst (v := nI 1) hx hb dX4_isIll_50 (by decide) ?_
              refine lv_goto (tgt := 55) hx hb dX4_isIll_51 (by decide) ?_
              refine lv_istore_n (lv' := [(3, .int (nI 1)), (0, .ref (ad 7)), (1, .int (nI p)), (2, .int (nI dy)), (4, .int (nI i))]) hx hb dX4_isIll_55 rfl hl (by decide) rfl (fun ls hl => ?_)
              refine lv_iinc (v := nI (i + 1)) (lv' := [(4, .int (nI (i + 1))), (3, .int (nI 1)), (0, .ref (ad 7)), (1, .int (nI p)), (2, .int (nI dy))]) hx hb dX4_isIll_56 hl (k := 4) rfl (nI_inc _ 1) (by decide) rfl (fun ls hl => ?_)
              refine lv_goto (tgt := 5) hx hb dX4_isIll_59 (by decide) ?_
              exact ih (i + 1) true (by omega) (anyS_2 (decide_eq_true ⟨h26, of_decide_eq_true (bt_t h47)⟩))  (by omega) _ _ w ls (lv_sub hl [2, 3, 4, 1, 0] rfl)
  have hl : lv_has ls 5 [(0, .ref (ad 7)), (1, .int (nI p)), (2, .int (nI dy))] := hl
  refine lv_iconst (v := nI 0) hx hb dX4_isIll_0 (by decide) ?_
  refine lv_istore_n (lv' := [(3, .int (nI 0)), (0, .ref (ad 7)), (1, .int (nI p)), (2, .int (nI dy))]) hx hb dX4_isIll_1 rfl hl (by decide) rfl (fun ls hl => ?_)
  refine lv_iconst (v := nI 0) hx hb dX4_isIll_2 (by decide) ?_
  refine lv_istore (lv' := [(4, .int (nI 0)), (3, .int (nI 0)), (0, .ref (ad 7)), (1, .int (nI p)), (2, .int (nI dy))]) hx hb dX4_isIll_3 hl (by decide) rfl (fun ls hl => ?_)
  exact cut5 (e 7 15 - 0 + 1) 0 false (Nat.zero_le _) rfl  (by omega) _ _ w ls (lv_sub hl [2, 3, 4, 1, 0] rfl)

set_option maxHeartbeats 4000000 in
set_option maxRecDepth 100000 in
/-- LeavebankModel.leaveOn(p, day) -/
theorem kX4_leaveOn (l : Launch) (D : va_G) (cy : Nat → ClassId) (C : List Nat) (ad : Nat → Nat) (e : Nat → Nat → Nat) (sz : Nat) (p dy : Nat) (hB : ∀ k, k < 26 → k ∈ C) (hM : MW e) (hp8 : p < 8) (hd : dy ≤ 3600) : Met l yX4_leaveOn wsX4_leaveOn ({ frames := 2, cells := 0, slots := 0, locals := 46 } : Room) (PreM D cy (C, ad, G cy ad e) sz [.ref (ad 7), .int (nI p), .int (nI dy)]) (va_Qi (fun (r : Int32) (u : WT) => r = nI (lvM e p dy) ∧ u = (C, ad, G cy ad e)) (WB D cy (AW (C, ad, G cy ad e) sz)) (AW (C, ad, G cy ad e) sz)) 0 0 (AW (C, ad, G cy ad e) sz) := by
  refine mx_start (cc := cX4_leaveOn) (maxL := 7) (ret := (some .int)) (by decide) rfl (Nat.le_of_ble_eq_true rfl) ?_
  intro p9 e9 s m args below meth c hsz hr hnm M w ls hl
  have hx := M.1.1
  have hb := M.1.2.1
  have inX4 : ∀ w ∈ wsX40, w ∈ wsX4_leaveOn := by decide +kernel
  have f28 : Cond.fieldLink RX4 28 RX4 "who" "[I" ∈ wsX4_leaveOn := by decide +kernel
  have f31 : Cond.fieldLink RX4 31 RX4 "from" "[I" ∈ wsX4_leaveOn := by decide +kernel
  have f34 : Cond.fieldLink RX4 34 RX4 "to" "[I" ∈ wsX4_leaveOn := by decide +kernel
  have f37 : Cond.fieldLink RX4 37 RX4 "half" "[Z" ∈ wsX4_leaveOn := by decide +kernel
  have f41 : Cond.fieldLink RX4 41 RX4 "gone" "[Z" ∈ wsX4_leaveOn := by decide +kernel
  have f79 : Cond.fieldLink RX4 79 RX4 "requests" "I" ∈ wsX4_leaveOn := by decide +kernel
  obtain ⟨⟨m1, m2, m3, m4, m5⟩, mr, ms, my, mp9⟩ := id hM
  have cut5 : ∀ (n9 : Nat) (i kk : Nat) (hi : i ≤ e 7 9) (hk : kk = mxN (lvfM e p dy) i) (hk2 : kk ≤ 2) (_hm : e 7 9 - i < n9) (H : Heap) (locs : List Loc), MO D (AW (C, ad, G cy ad e) sz) s.heap (C, ad, G cy ad e) H locs → ∀ (ls : Array Slot), lv_has ls 7 [(0, .ref (ad 7)), (1, .int (nI p)), (2, .int (nI dy)), (3, .int (nI kk)), (4, .int (nI i))] → W p9 l e9 ({ frames := 2, cells := 0, slots := 0, locals := 46 } : Room) s m args below meth c H locs 0 0 (MQ below (va_Qi (fun (r : Int32) (u : WT) => r = nI (lvM e p dy) ∧ u = (C, ad, G cy ad e)) (WB D cy (AW (C, ad, G cy ad e) sz)) (AW (C, ad, G cy ad e) sz)) args s 0 0 (AW (C, ad, G cy ad e) sz)) (F0 m 5 ls []) := by
    intro n9
    induction n9 with
    | zero => intro i kk hi hk hk2 _hm; exact absurd _hm (Nat.not_lt_zero _)
    | succ n9 ih =>
      intro i kk hi hk hk2 _hm H locs w ls hl
      refine lv_iload hx hb dX4_leaveOn_5 (lv_at hl 4 rfl) ?_
      refine lv_aload_n hx hb dX4_leaveOn_7 rfl (lv_at hl 0 rfl) ?_
      refine ex_get M w (hB 7 (by decide)) (sh_7 cy ad (e 7)) rfl inX4 9 (by decide) f79 rfl dX4_leaveOn_8 ?_
      refine mi_ge hx hb (by omega) (by omega) 104 dX4_leaveOn_11 (by decide) (fun h11 => ?_) (fun h11 => ?_)
      · refine lv_iload_n hx hb dX4_leaveOn_104 rfl (lv_at hl 2 rfl) ?_
        refine mx_Si M w (kX4_isWorking l D cy C ad e H.size dy (by omega)) (va_cwS 1 M.1.2.2.2.2 gX4_leaveOn_X4_isWorking rfl rfl rfl (by decide +kernel) ⟨Nat.le_of_ble_eq_true rfl, Nat.le_of_ble_eq_true rfl⟩) rfl hl.1 rfl (Nat.le_of_ble_eq_true rfl) dX4_leaveOn_105 ⟨by decide, by decide⟩ (fun r105 u1 H locs hp1 w => ?_)
        obtain ⟨rfl, rfl⟩ := hp1
        refine mi_if_eq hx hb (bt_lt _) 124 dX4_leaveOn_108 (by decide) (fun h108 => ?_) (fun h108 => ?_)
        · refine lv_iconst (v := nI 0) hx hb dX4_leaveOn_124 (by decide) ?_
          exact mx_iret M w hr (v := (nI 0)) ⟨congrArg nI (show 0 = lvM e p dy by unfold lvM; rw [if_neg (fun z => of_decide_eq_false (bt_f h108) z.1)]), rfl⟩ (by decide) (by decide) dX4_leaveOn_125
        · refine lv_aload_n hx hb dX4_leaveOn_111 rfl (lv_at hl 0 rfl) ?_
          refine lv_iload_n hx hb dX4_leaveOn_112 rfl (lv_at hl 1 rfl) ?_
          refine lv_iload_n hx hb dX4_leaveOn_113 rfl (lv_at hl 2 rfl) ?_
          refine mx_Vi M w (kX4_isIll l D cy C ad e H.size p dy hB hM hp8 hd) (cwV 2 M.1.2.2.2.2 gX4_leaveOn_X4_isIll rfl rfl rfl (by decide +kernel) ⟨Nat.le_of_ble_eq_true rfl, Nat.le_of_ble_eq_true rfl⟩) (mo_rec M w (hB 7 (by decide)) (g := G cy ad e) (sh_7 cy ad (e 7)) rfl) rfl hl.1 rfl (Nat.le_of_ble_eq_true rfl) dX4_leaveOn_114 ⟨by decide, by decide⟩ (fun r114 u1 H locs hp1 w => ?_)
          obtain ⟨rfl, rfl⟩ := hp1
          refine mi_if_ne hx hb (bt_lt _) 124 dX4_leaveOn_117 (by decide) (fun h117 => ?_) (fun h117 => ?_)
          · refine lv_iconst (v := nI 0) hx hb dX4_leaveOn_124 (by decide) ?_
            exact mx_iret M w hr (v := (nI 0)) ⟨congrArg nI (show 0 = lvM e p dy by unfold lvM; rw [if_neg (fun z => by rw [bt_t h117] at z; cases z.2)]), rfl⟩ (by decide) (by decide) dX4_leaveOn_125
          · refine lv_iload_n hx hb dX4_leaveOn_120 rfl (lv_at hl 3 rfl) ?_
            refine lv_goto (tgt := 125) hx hb dX4_leaveOn_121 (by decide) ?_
            exact mx_iret M w hr (v := (nI kk)) ⟨congrArg nI (show kk = lvM e p dy by unfold lvM; rw [if_pos ⟨of_decide_eq_true (bt_t h108), bt_f h117⟩, show e 7 9 = i by omega]; exact hk), rfl⟩ (by decide) (by decide) dX4_leaveOn_125
      · have q1 := mr i (by omega)
        obtain ⟨q3, q4, q5, q6, q7⟩ := q1
        refine lv_aload_n hx hb dX4_leaveOn_14 rfl (lv_at hl 0 rfl) ?_
        refine ex_get M w (hB 7 (by decide)) (sh_7 cy ad (e 7)) rfl inX4 10 (by decide) f28 rfl dX4_leaveOn_15 ?_
        refine lv_iload hx hb dX4_leaveOn_18 (lv_at hl 4 rfl) ?_
        refine ex_iald M w (hB 14 (by decide)) (sh_14 cy ad) (by omega) (by decide) rfl dX4_leaveOn_20 ?_
        refine lv_iload_n hx hb dX4_leaveOn_21 rfl (lv_at hl 1 rfl) ?_
        refine mi_ne hx hb (by omega) (by omega) 60 dX4_leaveOn_22 (by decide) (fun h22 => ?_) (fun h22 => ?_)
        · refine lv_iconst (v := nI 0) hx hb dX4_leaveOn_60 (by decide) ?_
          refine lv_istore (lv' := [(5, .int (nI 0)), (0, .ref (ad 7)), (1, .int (nI p)), (2, .int (nI dy)), (3, .int (nI kk)), (4, .int (nI i))]) hx hb dX4_leaveOn_61 hl (by decide) rfl (fun ls hl => ?_)
          refine lv_aload_n hx hb dX4_leaveOn_63 rfl (lv_at hl 1 rfl) ?_
          refine ex_get M w (hB 7 (by decide)) (sh_7 cy ad (e 7)) rfl inX4 13 (by decide) f37 rfl dX4_leaveOn_64 ?_
          refine lv_iload hx hb dX4_leaveOn_67 (lv_at hl 5 rfl) ?_
          refine ex_zald M w (hB 17 (by decide)) (sh_17 cy ad) (by omega) (by decide) rfl dX4_leaveOn_69 ?_
          refine mi_if_eq hx hb (by omega) 77 dX4_leaveOn_70 (by decide) (fun h70 => ?_) (fun h70 => ?_)
          · refine lv_iconst (v := nI 2) hx hb dX4_leaveOn_77 (by decide) ?_
            refine lv_istore (lv' := [(6, .int (nI 2)), (5, .int (nI 0)), (0, .ref (ad 7)), (1, .int (nI p)), (2, .int (nI dy)), (3, .int (nI kk)), (4, .int (nI i))]) hx hb dX4_leaveOn_78 hl (by decide) rfl (fun ls hl => ?_)
            refine lv_iload hx hb dX4_leaveOn_80 (lv_at hl 1 rfl) ?_
            refine mi_if_eq hx hb (by decide) 96 dX4_leaveOn_82 (by decide) (fun h82 => ?_) (fun h82 => absurd h82 (by first | decide | omega))
            refine lv_iload_n hx hb dX4_leaveOn_96 rfl (lv_at hl 5 rfl) ?_
            refine lv_istore_n (lv' := [(3, .int (nI kk)), (6, .int (nI 2)), (5, .int (nI 0)), (0, .ref (ad 7)), (1, .int (nI p)), (2, .int (nI dy)), (4, .int (nI i))]) hx hb dX4_leaveOn_97 rfl hl (by decide) rfl (fun ls hl => ?_)
            refine lv_iinc (v := nI (i + 1)) (lv' := [(4, .int (nI (i + 1))), (3, .int (nI kk)), (6, .int (nI 2)), (5, .int (nI 0)), (0, .ref (ad 7)), (1, .int (nI p)), (2, .int (nI dy))]) hx hb dX4_leaveOn_98 hl (k := 6) rfl (nI_inc _ 1) (by decide) rfl (fun ls hl => ?_)
            refine lv_goto (tgt := 5) hx hb dX4_leaveOn_101 (by decide) ?_
            exact ih (i + 1) kk (by omega) (by rw [mxN_s, ← hk, lvfM_0 (fun z => h22 z.1)]; exact (Nat.max_eq_left (Nat.zero_le _)).symm) hk2  (by omega) _ _ w ls (lv_sub hl [4, 5, 6, 1, 0] rfl)
          · refine lv_iconst (v := nI 1) hx hb dX4_leaveOn_73 (by decide) ?_
            refine lv_goto (tgt := 78) hx hb dX4_leaveOn_74 (by decide) ?_
            refine lv_istore (lv' := [(6, .int (nI 1)), (5, .int (nI 0)), (0, .ref (ad 7)), (1, .int (nI p)), (2, .int (nI dy)), (3, .int (nI kk)), (4, .int (nI i))]) hx hb dX4_leaveOn_78 hl (by decide) rfl (fun ls hl => ?_)
            refine lv_iload hx hb dX4_leaveOn_80 (lv_at hl 1 rfl) ?_
            refine mi_if_eq hx hb (by decide) 96 dX4_leaveOn_82 (by decide) (fun h82 => ?_) (fun h82 => absurd h82 (by first | decide | omega))
            refine lv_iload_n hx hb dX4_leaveOn_96 rfl (lv_at hl 5 rfl) ?_
            refine lv_istore_n (lv' := [(3, .int (nI kk)), (6, .int (nI 1)), (5, .int (nI 0)), (0, .ref (ad 7)), (1, .int (nI p)), (2, .int (nI dy)), (4, .int (nI i))]) hx hb dX4_leaveOn_97 rfl hl (by decide) rfl (fun ls hl => ?_)
            refine lv_iinc (v := nI (i + 1)) (lv' := [(4, .int (nI (i + 1))), (3, .int (nI kk)), (6, .int (nI 1)), (5, .int (nI 0)), (0, .ref (ad 7)), (1, .int (nI p)), (2, .int (nI dy))]) hx hb dX4_leaveOn_98 hl (k := 6) rfl (nI_inc _ 1) (by decide) rfl (fun ls hl => ?_)
            refine lv_goto (tgt := 5) hx hb dX4_leaveOn_101 (by decide) ?_
            exact ih (i + 1) kk (by omega) (by rw [mxN_s, ← hk, lvfM_0 (fun z => h22 z.1)]; exact (Nat.max_eq_left (Nat.zero_le _)).symm) hk2  (by omega) _ _ w ls (lv_sub hl [4, 5, 6, 1, 0] rfl)
        · refine lv_aload_n hx hb dX4_leaveOn_25 rfl (lv_at hl 0 rfl) ?_
          refine ex_get M w (hB 7 (by decide)) (sh_7 cy ad (e 7)) rfl inX4 14 (by decide) f41 rfl dX4_leaveOn_26 ?_
          refine lv_iload hx hb dX4_leaveOn_29 (lv_at hl 4 rfl) ?_
          refine ex_zald M w (hB 18 (by decide)) (sh_18 cy ad) (by omega) (by decide) rfl dX4_leaveOn_31 ?_
          refine mi_if_ne hx hb (by omega) 60 dX4_leaveOn_32 (by decide) (fun h32 => ?_) (fun h32 => ?_)
          · refine lv_iconst (v := nI 0) hx hb dX4_leaveOn_60 (by decide) ?_
            refine lv_istore (lv' := [(5, .int (nI 0)), (0, .ref (ad 7)), (1, .int (nI p)), (2, .int (nI dy)), (3, .int (nI kk)), (4, .int (nI i))]) hx hb dX4_leaveOn_61 hl (by decide) rfl (fun ls hl => ?_)
            refine lv_aload_n hx hb dX4_leaveOn_63 rfl (lv_at hl 1 rfl) ?_
            refine ex_get M w (hB 7 (by decide)) (sh_7 cy ad (e 7)) rfl inX4 13 (by decide) f37 rfl dX4_leaveOn_64 ?_
            refine lv_iload hx hb dX4_leaveOn_67 (lv_at hl 5 rfl) ?_
            refine ex_zald M w (hB 17 (by decide)) (sh_17 cy ad) (by omega) (by decide) rfl dX4_leaveOn_69 ?_
            refine mi_if_eq hx hb (by omega) 77 dX4_leaveOn_70 (by decide) (fun h70 => ?_) (fun h70 => ?_)
            · refine lv_iconst (v := nI 2) hx hb dX4_leaveOn_77 (by decide) ?_
              refine lv_istore (lv' := [(6, .int (nI 2)), (5, .int (nI 0)), (0, .ref (ad 7)), (1, .int (nI p)), (2, .int (nI dy)), (3, .int (nI kk)), (4, .int (nI i))]) hx hb dX4_leaveOn_78 hl (by decide) rfl (fun ls hl => ?_)
              refine lv_iload hx hb dX4_leaveOn_80 (lv_at hl 1 rfl) ?_
              refine mi_if_eq hx hb (by decide) 96 dX4_leaveOn_82 (by decide) (fun h82 => ?_) (fun h82 => absurd h82 (by first | decide | omega))
              refine lv_iload_n hx hb dX4_leaveOn_96 rfl (lv_at hl 5 rfl) ?_
              refine lv_istore_n (lv' := [(3, .int (nI kk)), (6, .int (nI 2)), (5, .int (nI 0)), (0, .ref (ad 7)), (1, .int (nI p)), (2, .int (nI dy)), (4, .int (nI i))]) hx hb dX4_leaveOn_97 rfl hl (by decide) rfl (fun ls hl => ?_)
              refine lv_iinc (v := nI (i + 1)) (lv' := [(4, .int (nI (i + 1))), (3, .int (nI kk)), (6, .int (nI 2)), (5, .int (nI 0)), (0, .ref (ad 7)), (1, .int (nI p)), (2, .int (nI dy))]) hx hb dX4_leaveOn_98 hl (k := 6) rfl (nI_inc _ 1) (by decide) rfl (fun ls hl => ?_)
              refine lv_goto (tgt := 5) hx hb dX4_leaveOn_101 (by decide) ?_
              exact ih (i + 1) kk (by omega) (by rw [mxN_s, ← hk, lvfM_0 (fun z => h32 z.2.1)]; exact (Nat.max_eq_left (Nat.zero_le _)).symm) hk2  (by omega) _ _ w ls (lv_sub hl [4, 5, 6, 1, 0] rfl)
            · refine lv_iconst (v := nI 1) hx hb dX4_leaveOn_73 (by decide) ?_
              refine lv_goto (tgt := 78) hx hb dX4_leaveOn_74 (by decide) ?_
              refine lv_istore (lv' := [(6, .int (nI 1)), (5, .int (nI 0)), (0, .ref (ad 7)), (1, .int (nI p)), (2, .int (nI dy)), (3, .int (nI kk)), (4, .int (nI i))]) hx hb dX4_leaveOn_78 hl (by decide) rfl (fun ls hl => ?_)
              refine lv_iload hx hb dX4_leaveOn_80 (lv_at hl 1 rfl) ?_
              refine mi_if_eq hx hb (by decide) 96 dX4_leaveOn_82 (by decide) (fun h82 => ?_) (fun h82 => absurd h82 (by first | decide | omega))
              refine lv_iload_n hx hb dX4_leaveOn_96 rfl (lv_at hl 5 rfl) ?_
              refine lv_istore_n (lv' := [(3, .int (nI kk)), (6, .int (nI 1)), (5, .int (nI 0)), (0, .ref (ad 7)), (1, .int (nI p)), (2, .int (nI dy)), (4, .int (nI i))]) hx hb dX4_leaveOn_97 rfl hl (by decide) rfl (fun ls hl => ?_)
              refine lv_iinc (v := nI (i + 1)) (lv' := [(4, .int (nI (i + 1))), (3, .int (nI kk)), (6, .int (nI 1)), (5, .int (nI 0)), (0, .ref (ad 7)), (1, .int (nI p)), (2, .int (nI dy))]) hx hb dX4_leaveOn_98 hl (k := 6) rfl (nI_inc _ 1) (by decide) rfl (fun ls hl => ?_)
              refine lv_goto (tgt := 5) hx hb dX4_leaveOn_101 (by decide) ?_
              exact ih (i + 1) kk (by omega) (by rw [mxN_s, ← hk, lvfM_0 (fun z => h32 z.2.1)]; exact (Nat.max_eq_left (Nat.zero_le _)).symm) hk2  (by omega) _ _ w ls (lv_sub hl [4, 5, 6, 1, 0] rfl)
          · refine lv_iload_n hx hb dX4_leaveOn_35 rfl (lv_at hl 2 rfl) ?_
            refine lv_aload_n hx hb dX4_leaveOn_36 rfl (lv_at hl 0 rfl) ?_
            refine ex_get M w (hB 7 (by decide)) (sh_7 cy ad (e 7)) rfl inX4 11 (by decide) f31 rfl dX4_leaveOn_37 ?_
            refine lv_iload hx hb dX4_leaveOn_40 (lv_at hl 4 rfl) ?_
            refine ex_iald M w (hB 15 (by decide)) (sh_15 cy ad) (by omega) (by decide) rfl dX4_leaveOn_42 ?_
            refine lv_aload_n hx hb dX4_leaveOn_43 rfl (lv_at hl 0 rfl) ?_
            refine ex_get M w (hB 7 (by decide)) (sh_7 cy ad (e 7)) rfl inX4 12 (by decide) f34 rfl dX4_leaveOn_44 ?_
            refine lv_iload hx hb dX4_leaveOn_47 (lv_at hl 4 rfl) ?_
            refine ex_iald M w (hB 16 (by decide)) (sh_16 cy ad) (by omega) (by decide) rfl dX4_leaveOn_49 ?_
            refine mx_Si M w (kX4_inS l D cy C ad e H.size dy (e 15 i) (e 16 i) (by omega) (by omega) (by omega)) (va_cwS 3 M.1.2.2.2.2 gX4_leaveOn_X4_in rfl rfl rfl (by decide +kernel) ⟨Nat.le_of_ble_eq_true rfl, Nat.le_of_ble_eq_true rfl⟩) rfl hl.1 rfl (Nat.le_of_ble_eq_true rfl) dX4_leaveOn_50 ⟨by decide, by decide⟩ (fun r50 u1 H locs hp1 w => ?_)
            obtain ⟨rfl, rfl⟩ := hp1
            refine mi_if_eq hx hb (bt_lt _) 60 dX4_leaveOn_53 (by decide) (fun h53 => ?_) (fun h53 => ?_)
            · refine lv_iconst (v := nI 0) hx hb dX4_leaveOn_60 (by decide) ?_
              refine lv_istore (lv' := [(5, .int (nI 0)), (0, .ref (ad 7)), (1, .int (nI p)), (2, .int (nI dy)), (3, .int (nI kk)), (4, .int (nI i))]) hx hb dX4_leaveOn_61 hl (by decide) rfl (fun ls hl => ?_)
              refine lv_aload_n hx hb dX4_leaveOn_63 rfl (lv_at hl 1 rfl) ?_
              refine ex_get M w (hB 7 (by decide)) (sh_7 cy ad (e 7)) rfl inX4 13 (by decide) f37 rfl dX4_leaveOn_64 ?_
              refine lv_iload hx hb dX4_leaveOn_67 (lv_at hl 5 rfl) ?_
              refine ex_zald M w (hB 17 (by decide)) (sh_17 cy ad) (by omega) (by decide) rfl dX4_leaveOn_69 ?_
              refine mi_if_eq hx hb (by omega) 77 dX4_leaveOn_70 (by decide) (fun h70 => ?_) (fun h70 => ?_)
              · refine lv_iconst (v := nI 2) hx hb dX4_leaveOn_77 (by decide) ?_
                refine lv_istore (lv' := [(6, .int (nI 2)), (5, .int (nI 0)), (0, .ref (ad 7)), (1, .int (nI p)), (2, .int (nI dy)), (3, .int (nI kk)), (4, .int (nI i))]) hx hb dX4_leaveOn_78 hl (by decide) rfl (fun ls hl => ?_)
                refine lv_iload hx hb dX4_leaveOn_80 (lv_at hl 1 rfl) ?_
                refine mi_if_eq hx hb (by decide) 96 dX4_leaveOn_82 (by decide) (fun h82 => ?_) (fun h82 => absurd h82 (by first | decide | omega))
                refine lv_iload_n hx hb dX4_leaveOn_96 rfl (lv_at hl 5 rfl) ?_
                refine lv_istore_n (lv' := [(3, .int (nI kk)), (6, .int (nI 2)), (5, .int (nI 0)), (0, .ref (ad 7)), (1, .int (nI p)), (2, .int (nI dy)), (4, .int (nI i))]) hx hb dX4_leaveOn_97 rfl hl (by decide) rfl (fun ls hl => ?_)
                refine lv_iinc (v := nI (i + 1)) (lv' := [(4, .int (nI (i + 1))), (3, .int (nI kk)), (6, .int (nI 2)), (5, .int (nI 0)), (0, .ref (ad 7)), (1, .int (nI p)), (2, .int (nI dy))]) hx hb dX4_leaveOn_98 hl (k := 6) rfl (nI_inc _ 1) (by decide) rfl (fun ls hl => ?_)
                refine lv_goto (tgt := 5) hx hb dX4_leaveOn_101 (by decide) ?_
                exact ih (i + 1) kk (by omega) (by rw [mxN_s, ← hk, lvfM_0 (fun z => of_decide_eq_false (bt_f h53) z.2.2)]; exact (Nat.max_eq_left (Nat.zero_le _)).symm) hk2  (by omega) _ _ w ls (lv_sub hl [4, 5, 6, 1, 0] rfl)
              · refine lv_iconst (v := nI 1) hx hb dX4_leaveOn_73 (by decide) ?_
                refine lv_goto (tgt := 78) hx hb dX4_leaveOn_74 (by decide) ?_
                refine lv_istore (lv' := [(6, .int (nI 1)), (5, .int (nI 0)), (0, .ref (ad 7)), (1, .int (nI p)), (2, .int (nI dy)), (3, .int (nI kk)), (4, .int (nI i))]) hx hb dX4_leaveOn_78 hl (by decide) rfl (fun ls hl => ?_)
                refine lv_iload hx hb dX4_leaveOn_80 (lv_at hl 1 rfl) ?_
                refine mi_if_eq hx hb (by decide) 96 dX4_leaveOn_82 (by decide) (fun h82 => ?_) (fun h82 => absurd h82 (by first | decide | omega))
                refine lv_iload_n hx hb dX4_leaveOn_96 rfl (lv_at hl 5 rfl) ?_
                refine lv_istore_n (lv' := [(3, .int (nI kk)), (6, .int (nI 1)), (5, .int (nI 0)), (0, .ref (ad 7)), (1, .int (nI p)), (2, .int (nI dy)), (4, .int (nI i))]) hx hb dX4_leaveOn_97 rfl hl (by decide) rfl (fun ls hl => ?_)
                refine lv_iinc (v := nI (i + 1)) (lv' := [(4, .int (nI (i + 1))), (3, .int (nI kk)), (6, .int (nI 1)), (5, .int (nI 0)), (0, .ref (ad 7)), (1, .int (nI p)), (2, .int (nI dy))]) hx hb dX4_leaveOn_98 hl (k := 6) rfl (nI_inc _ 1) (by decide) rfl (fun ls hl => ?_)
                refine lv_goto (tgt := 5) hx hb dX4_leaveOn_101 (by decide) ?_
                exact ih (i + 1) kk (by omega) (by rw [mxN_s, ← hk, lvfM_0 (fun z => of_decide_eq_false (bt_f h53) z.2.2)]; exact (Nat.max_eq_left (Nat.zero_le _)).symm) hk2  (by omega) _ _ w ls (lv_sub hl [4, 5, 6, 1, 0] rfl)
            · refine lv_iconst (v := nI 1) hx hb dX4_leaveOn_56 (by decide) ?_
              refine lv_goto (tgt := 61) hx hb dX4_leaveOn_57 (by decide) ?_
              refine lv_istore (lv' := [(5, .int (nI 1)), (0, .ref (ad 7)), (1, .int (nI p)), (2, .int (nI dy)), (3, .int (nI kk)), (4, .int (nI i))]) hx hb dX4_leaveOn_61 hl (by decide) rfl (fun ls hl => ?_)
              refine lv_aload_n hx hb dX4_leaveOn_63 rfl (lv_at hl 1 rfl) ?_
              refine ex_get M w (hB 7 (by decide)) (sh_7 cy ad (e 7)) rfl inX4 13 (by decide) f37 rfl dX4_leaveOn_64 ?_
              refine lv_iload hx hb dX4_leaveOn_67 (lv_at hl 5 rfl) ?_
              refine ex_zald M w (hB 17 (by decide)) (sh_17 cy ad) (by omega) (by decide) rfl dX4_leaveOn_69 ?_
              refine mi_if_eq hx hb (by omega) 77 dX4_leaveOn_70 (by decide) (fun h70 => ?_) (fun h70 => ?_)
              · refine lv_iconst (v := nI 2) hx hb dX4_leaveOn_77 (by decide) ?_
                refine lv_istore (lv' := [(6, .int (nI 2)), (5, .int (nI 1)), (0, .ref (ad 7)), (1, .int (nI p)), (2, .int (nI dy)), (3, .int (nI kk)), (4, .int (nI i))]) hx hb dX4_leaveOn_78 hl (by decide) rfl (fun ls hl => ?_)
                refine lv_iload hx hb dX4_leaveOn_80 (lv_at hl 1 rfl) ?_
                refine mi_if_eq hx hb (by decide) 96 dX4_leaveOn_82 (by decide) (fun h82 => absurd h82 (by first | decide | omega)) (fun h82 => ?_)
                refine lv_iload hx hb dX4_leaveOn_85 (lv_at hl 0 rfl) ?_
                refine lv_iload_n hx hb dX4_leaveOn_87 rfl (lv_at hl 5 rfl) ?_
                refine mi_le hx hb (by decide) (by omega) 96 dX4_leaveOn_88 (by decide) (fun h88 => ?_) (fun h88 => ?_)
                · refine lv_iload_n hx hb dX4_leaveOn_96 rfl (lv_at hl 5 rfl) ?_
                  refine lv_istore_n (lv' := [(3, .int (nI kk)), (6, .int (nI 2)), (5, .int (nI 1)), (0, .ref (ad 7)), (1, .int (nI p)), (2, .int (nI dy)), (4, .int (nI i))]) hx hb dX4_leaveOn_97 rfl hl (by decide) rfl (fun ls hl => ?_)
                  refine lv_iinc (v := nI (i + 1)) (lv' := [(4, .int (nI (i + 1))), (3, .int (nI kk)), (6, .int (nI 2)), (5, .int (nI 1)), (0, .ref (ad 7)), (1, .int (nI p)), (2, .int (nI dy))]) hx hb dX4_leaveOn_98 hl (k := 6) rfl (nI_inc _ 1) (by decide) rfl (fun ls hl => ?_)
                  refine lv_goto (tgt := 5) hx hb dX4_leaveOn_101 (by decide) ?_
                  exact ih (i + 1) kk (by omega) (by rw [mxN_s, ← hk, lvfM_1 ⟨h22, h32, of_decide_eq_true (bt_t h53)⟩ h70]; omega) hk2  (by omega) _ _ w ls (lv_sub hl [4, 5, 6, 1, 0] rfl)
                · refine lv_iload hx hb dX4_leaveOn_91 (lv_at hl 0 rfl) ?_
                  refine lv_goto (tgt := 97) hx hb dX4_leaveOn_93 (by decide) ?_
                  refine lv_istore_n (lv' := [(3, .int (nI 2)), (6, .int (nI 2)), (5, .int (nI 1)), (0, .ref (ad 7)), (1, .int (nI p)), (2, .int (nI dy)), (4, .int (nI i))]) hx hb dX4_leaveOn_97 rfl hl (by decide) rfl (fun ls hl => ?_)
                  refine lv_iinc (v := nI (i + 1)) (lv' := [(4, .int (nI (i + 1))), (3, .int (nI 2)), (6, .int (nI 2)), (5, .int (nI 1)), (0, .ref (ad 7)), (1, .int (nI p)), (2, .int (nI dy))]) hx hb dX4_leaveOn_98 hl (k := 6) rfl (nI_inc _ 1) (by decide) rfl (fun ls hl => ?_)
                  refine lv_goto (tgt := 5) hx hb dX4_leaveOn_101 (by decide) ?_
                  exact ih (i + 1) 2 (by omega) (by rw [mxN_s, ← hk, lvfM_1 ⟨h22, h32, of_decide_eq_true (bt_t h53)⟩ h70]; omega) (by decide)  (by omega) _ _ w ls (lv_sub hl [4, 5, 6, 1, 0] rfl)
              · refine lv_iconst (v := nI 1) hx hb dX4_leaveOn_73 (by decide) ?_
                refine lv_goto (tgt := 78) hx hb dX4_leaveOn_74 (by decide) ?_
                refine lv_istore (lv' := [(6, .int (nI 1)), (5, .int (nI 1)), (0, .ref (ad 7)), (1, .int (nI p)), (2, .int (nI dy)), (3, .int (nI kk)), (4, .int (nI i))]) hx hb dX4_leaveOn_78 hl (by decide) rfl (fun ls hl => ?_)
                refine lv_iload hx hb dX4_leaveOn_80 (lv_at hl 1 rfl) ?_
                refine mi_if_eq hx hb (by decide) 96 dX4_leaveOn_82 (by decide) (fun h82 => absurd h82 (by first | decide | omega)) (fun h82 => ?_)
                refine lv_iload hx hb dX4_leaveOn_85 (lv_at hl 0 rfl) ?_
                refine lv_iload_n hx hb dX4_leaveOn_87 rfl (lv_at hl 5 rfl) ?_
                refine mi_le hx hb (by decide) (by omega) 96 dX4_leaveOn_88 (by decide) (fun h88 => ?_) (fun h88 => ?_)
                · refine lv_iload_n hx hb dX4_leaveOn_96 rfl (lv_at hl 5 rfl) ?_
                  refine lv_istore_n (lv' := [(3, .int (nI kk)), (6, .int (nI 1)), (5, .int (nI 1)), (0, .ref (ad 7)), (1, .int (nI p)), (2, .int (nI dy)), (4, .int (nI i))]) hx hb dX4_leaveOn_97 rfl hl (by decide) rfl (fun ls hl => ?_)
                  refine lv_iinc (v := nI (i + 1)) (lv' := [(4, .int (nI (i + 1))), (3, .int (nI kk)), (6, .int (nI 1)), (5, .int (nI 1)), (0, .ref (ad 7)), (1, .int (nI p)), (2, .int (nI dy))]) hx hb dX4_leaveOn_98 hl (k := 6) rfl (nI_inc _ 1) (by decide) rfl (fun ls hl => ?_)
                  refine lv_goto (tgt := 5) hx hb dX4_leaveOn_101 (by decide) ?_
                  exact ih (i + 1) kk (by omega) (by rw [mxN_s, ← hk, lvfM_2 ⟨h22, h32, of_decide_eq_true (bt_t h53)⟩ h70]; omega) hk2  (by omega) _ _ w ls (lv_sub hl [4, 5, 6, 1, 0] rfl)
                · refine lv_iload hx hb dX4_leaveOn_91 (lv_at hl 0 rfl) ?_
                  refine lv_goto (tgt := 97) hx hb dX4_leaveOn_93 (by decide) ?_
                  refine lv_istore_n (lv' := [(3, .int (nI 1)), (6, .int (nI 1)), (5, .int (nI 1)), (0, .ref (ad 7)), (1, .int (nI p)), (2, .int (nI dy)), (4, .int (nI i))]) hx hb dX4_leaveOn_97 rfl hl (by decide) rfl (fun ls hl => ?_)
                  refine lv_iinc (v := nI (i + 1)) (lv' := [(4, .int (nI (i + 1))), (3, .int (nI 1)), (6, .int (nI 1)), (5, .int (nI 1)), (0, .ref (ad 7)), (1, .int (nI p)), (2, .int (nI dy))]) hx hb dX4_leaveOn_98 hl (k := 6) rfl (nI_inc _ 1) (by decide) rfl (fun ls hl => ?_)
                  refine lv_goto (tgt := 5) hx hb dX4_leaveOn_101 (by decide) ?_
                  exact ih (i + 1) 1 (by omega) (by rw [mxN_s, ← hk, lvfM_2 ⟨h22, h32, of_decide_eq_true (bt_t h53)⟩ h70]; omega) (by decide)  (by omega) _ _ w ls (lv_sub hl [4, 5, 6, 1, 0] rfl)
  have hl : lv_has ls 7 [(0, .ref (ad 7)), (1, .int (nI p)), (2, .int (nI dy))] := hl
  refine lv_iconst (v := nI 0) hx hb dX4_leaveOn_0 (by decide) ?_
  refine lv_istore_n (lv' := [(3, .int (nI 0)), (0, .ref (ad 7)), (1, .int (nI p)), (2, .int (nI dy))]) hx hb dX4_leaveOn_1 rfl hl (by decide) rfl (fun ls hl => ?_)
  refine lv_iconst (v := nI 0) hx hb dX4_leaveOn_2 (by decide) ?_
  refine lv_istore (lv' := [(4, .int (nI 0)), (3, .int (nI 0)), (0, .ref (ad 7)), (1, .int (nI p)), (2, .int (nI dy))]) hx hb dX4_leaveOn_3 hl (by decide) rfl (fun ls hl => ?_)
  exact cut5 (e 7 9 - 0 + 1) 0 0 (Nat.zero_le _) rfl (by decide)  (by omega) _ _ w ls (lv_sub hl [2, 3, 4, 1, 0] rfl)

set_option maxHeartbeats 4000000 in
set_option maxRecDepth 100000 in
/-- LeavebankModel.inPools() -/
theorem kX4_inPools (l : Launch) (D : va_G) (cy : Nat → ClassId) (C : List Nat) (ad : Nat → Nat) (e : Nat → Nat → Nat) (sz : Nat)  (hB : ∀ k, k < 26 → k ∈ C) : Met l yX4_inPools wsX4_inPools ({ frames := 0, cells := 0, slots := 0, locals := 0 } : Room) (PreM D cy (C, ad, G cy ad e) sz [.ref (ad 7)]) (va_Qi (fun (r : Int32) (u : WT) => r = nI (totM e) ∧ u = (C, ad, G cy ad e)) (WB D cy (AW (C, ad, G cy ad e) sz)) (AW (C, ad, G cy ad e) sz)) 0 0 (AW (C, ad, G cy ad e) sz) := by
  refine mx_start (cc := cX4_inPools) (maxL := 3) (ret := (some .int)) (by decide) rfl (Nat.le_of_ble_eq_true rfl) ?_
  intro p9 e9 s m args below meth c hsz hr hnm M w ls hl
  have hx := M.1.1
  have hb := M.1.2.1
  have inX4 : ∀ w ∈ wsX40, w ∈ wsX4_inPools := by decide +kernel
  have f62 : Cond.fieldLink RX4 62 RX4 "pool" "[I" ∈ wsX4_inPools := by decide +kernel
  have cut4 : ∀ (n9 : Nat) (i sm : Nat) (hi : i ≤ 11) (hs : sm = smN (e 25) 0 i) (_hm : 11 - i < n9) (H : Heap) (locs : List Loc), MO D (AW (C, ad, G cy ad e) sz) s.heap (C, ad, G cy ad e) H locs → ∀ (ls : Array Slot), lv_has ls 3 [(0, .ref (ad 7)), (1, .int (nI sm)), (2, .int (nI i))] → W p9 l e9 ({ frames := 0, cells := 0, slots := 0, locals := 0 } : Room) s m args below meth c H locs 0 0 (MQ below (va_Qi (fun (r : Int32) (u : WT) => r = nI (totM e) ∧ u = (C, ad, G cy ad e)) (WB D cy (AW (C, ad, G cy ad e) sz)) (AW (C, ad, G cy ad e) sz)) args s 0 0 (AW (C, ad, G cy ad e) sz)) (F0 m 4 ls []) := by
    intro n9
    induction n9 with
    | zero => intro i sm hi hs _hm; exact absurd _hm (Nat.not_lt_zero _)
    | succ n9 ih =>
      intro i sm hi hs _hm H locs w ls hl
      refine lv_iload_n hx hb dX4_inPools_4 rfl (lv_at hl 2 rfl) ?_
      refine lv_bipush (v := nI 11) hx hb dX4_inPools_5 (by decide) ?_
      refine mi_ge hx hb (by omega) (by decide) 25 dX4_inPools_7 (by decide) (fun h7 => ?_) (fun h7 => ?_)
      · refine lv_iload_n hx hb dX4_inPools_25 rfl (lv_at hl 1 rfl) ?_
        exact mx_iret M w hr (v := (nI sm)) ⟨by rw [hs]; unfold totM; rw [show i = 11 by omega], rfl⟩ (by decide) (by decide) dX4_inPools_26
      · refine lv_iload_n hx hb dX4_inPools_10 rfl (lv_at hl 1 rfl) ?_
        refine lv_aload_n hx hb dX4_inPools_11 rfl (lv_at hl 0 rfl) ?_
        refine ex_get M w (hB 7 (by decide)) (sh_7 cy ad (e 7)) rfl inX4 23 (by decide) f62 rfl dX4_inPools_12 ?_
        refine lv_iload_n hx hb dX4_inPools_15 rfl (lv_at hl 2 rfl) ?_
        refine ex_iald M w (hB 25 (by decide)) (sh_25 cy ad) (by omega) (by decide) rfl dX4_inPools_16 ?_
        refine mi_add hx hb dX4_inPools_17 ?_
        refine lv_istore_n (lv' := [(1, .int (nI (sm + (e 25 i)))), (0, .ref (ad 7)), (2, .int (nI i))]) hx hb dX4_inPools_18 rfl hl (by decide) rfl (fun ls hl => ?_)
        refine lv_iinc (v := nI (i + 1)) (lv' := [(2, .int (nI (i + 1))), (1, .int (nI (sm + (e 25 i)))), (0, .ref (ad 7))]) hx hb dX4_inPools_19 hl (k := 2) rfl (nI_inc _ 1) (by decide) rfl (fun ls hl => ?_)
        refine lv_goto (tgt := 4) hx hb dX4_inPools_22 (by decide) ?_
        exact ih (i + 1) _ (by omega) (by rw [smN_0s, ← hs])  (by omega) _ _ w ls (lv_sub hl [2, 1, 0] rfl)
  have hl : lv_has ls 3 [(0, .ref (ad 7))] := hl
  refine lv_iconst (v := nI 0) hx hb dX4_inPools_0 (by decide) ?_
  refine lv_istore_n (lv' := [(1, .int (nI 0)), (0, .ref (ad 7))]) hx hb dX4_inPools_1 rfl hl (by decide) rfl (fun ls hl => ?_)
  refine lv_iconst (v := nI 0) hx hb dX4_inPools_2 (by decide) ?_
  refine lv_istore_n (lv' := [(2, .int (nI 0)), (1, .int (nI 0)), (0, .ref (ad 7))]) hx hb dX4_inPools_3 rfl hl (by decide) rfl (fun ls hl => ?_)
  exact cut4 (11 - 0 + 1) 0 0 (Nat.zero_le _) rfl  (by omega) _ _ w ls (lv_sub hl [2, 1, 0] rfl)

set_option maxHeartbeats 4000000 in
set_option maxRecDepth 100000 in
/-- LeavebankModel.draws(points) -/
theorem kX4_draws (l : Launch) (D : va_G) (cy : Nat → ClassId) (C : List Nat) (ad : Nat → Nat) (e : Nat → Nat → Nat) (sz : Nat) (pts : Nat) (hB : ∀ k, k < 26 → k ∈ C) (hpp : pts < 1000000000) (hPl : ∀ y, y < 11 → e 25 y ≤ 100000000) : Met l yX4_draws wsX4_draws ({ frames := 0, cells := 0, slots := 0, locals := 0 } : Room) (PreM D cy (C, ad, G cy ad e) sz [.ref (ad 7), .int (nI pts)]) (va_Qi (fun (r : Int32) (u : WT) => r = nI (min pts (totM e)) ∧ u = (C, ad, G cy ad (drwM e pts))) (WB D cy (AW (C, ad, G cy ad e) sz)) (AW (C, ad, G cy ad e) sz)) 0 0 (AW (C, ad, G cy ad e) sz) := by
  refine mx_start (cc := cX4_draws) (maxL := 5) (ret := (some .int)) (by decide) rfl (Nat.le_of_ble_eq_true rfl) ?_
  intro p9 e9 s m args below meth c hsz hr hnm M w ls hl
  have hx := M.1.1
  have hb := M.1.2.1
  have inX4 : ∀ w ∈ wsX40, w ∈ wsX4_draws := by decide +kernel
  have f62 : Cond.fieldLink RX4 62 RX4 "pool" "[I" ∈ wsX4_draws := by decide +kernel
  have cut4 : ∀ (n9 : Nat) (i left : Nat) (hi : i ≤ 11) (hl9 : left = pts - smN (e 25) 0 i) (_hm : 11 - i < n9) (H : Heap) (locs : List Loc), MO D (AW (C, ad, G cy ad e) sz) s.heap (C, ad, G cy ad (drwMn e pts i)) H locs → ∀ (ls : Array Slot), lv_has ls 5 [(0, .ref (ad 7)), (1, .int (nI pts)), (2, .int (nI left)), (3, .int (nI i))] → W p9 l e9 ({ frames := 0, cells := 0, slots := 0, locals := 0 } : Room) s m args below meth c H locs 0 0 (MQ below (va_Qi (fun (r : Int32) (u : WT) => r = nI (min pts (totM e)) ∧ u = (C, ad, G cy ad (drwM e pts))) (WB D cy (AW (C, ad, G cy ad e) sz)) (AW (C, ad, G cy ad e) sz)) args s 0 0 (AW (C, ad, G cy ad e) sz)) (F0 m 4 ls []) := by
    intro n9
    induction n9 with
    | zero => intro i left hi hl9 _hm; exact absurd _hm (Nat.not_lt_zero _)
    | succ n9 ih =>
      intro i left hi hl9 _hm H locs w ls hl
      refine lv_iload_n hx hb dX4_draws_4 rfl (lv_at hl 3 rfl) ?_
      refine lv_bipush (v := nI 11) hx hb dX4_draws_5 (by decide) ?_
      refine mi_ge hx hb (by omega) (by decide) 54 dX4_draws_7 (by decide) (fun h7 => ?_) (fun h7 => ?_)
      · refine lv_iload_n hx hb dX4_draws_54 rfl (lv_at hl 1 rfl) ?_
        refine lv_iload_n hx hb dX4_draws_55 rfl (lv_at hl 2 rfl) ?_
        refine mi_sub hx hb (by omega) dX4_draws_56 ?_
        exact mx_iret M w hr (v := (nI (pts - left))) ⟨congrArg nI (by unfold totM; rw [show i = 11 by omega] at hl9; omega), by rw [show i = 11 by omega]; rfl⟩ (by decide) (by decide) dX4_draws_57
      · have q1 := hPl i (by omega)
        refine lv_aload_n hx hb dX4_draws_10 rfl (lv_at hl 0 rfl) ?_
        refine ex_get M w (hB 7 (by decide)) (sh_7 cy ad ((drwMn e pts i) 7)) rfl inX4 23 (by decide) f62 rfl dX4_draws_11 ?_
        refine lv_iload_n hx hb dX4_draws_14 rfl (lv_at hl 3 rfl) ?_
        refine ex_iald M w (hB 25 (by decide)) (sh_25 cy ad) (by omega) (by decide) (drwMn_at e pts i) dX4_draws_15 ?_
        refine lv_iload_n hx hb dX4_draws_16 rfl (lv_at hl 2 rfl) ?_
        refine mi_ge hx hb (by omega) (by omega) 29 dX4_draws_17 (by decide) (fun h17 => ?_) (fun h17 => ?_)
        · refine lv_iload_n hx hb dX4_draws_29 rfl (lv_at hl 2 rfl) ?_
          refine lv_istore (lv' := [(4, .int (nI left)), (0, .ref (ad 7)), (1, .int (nI pts)), (2, .int (nI left)), (3, .int (nI i))]) hx hb dX4_draws_30 hl (by decide) rfl (fun ls hl => ?_)
          refine lv_aload_n hx hb dX4_draws_32 rfl (lv_at hl 1 rfl) ?_
          refine ex_get M w (hB 7 (by decide)) (sh_7 cy ad ((drwMn e pts i) 7)) rfl inX4 23 (by decide) f62 rfl dX4_draws_33 ?_
          refine lv_iload_n hx hb dX4_draws_36 rfl (lv_at hl 4 rfl) ?_
          refine lv_dup2_11 hx hb dX4_draws_37 rfl rfl ?_
          refine ex_iald M w (hB 25 (by decide)) (sh_25 cy ad) (by omega) (by decide) (drwMn_at e pts i) dX4_draws_38 ?_
          refine lv_iload hx hb dX4_draws_39 (lv_at hl 0 rfl) ?_
          refine mi_sub hx hb (by omega) dX4_draws_41 ?_
          refine ex_iast M w (hB 25 (by decide)) (sh_25 cy ad) (v := ((e 25 i) - left)) (by omega) (by decide) dX4_draws_42 (fun H locs w => ?_)
          refine lv_iload_n hx hb dX4_draws_43 rfl (lv_at hl 3 rfl) ?_
          refine lv_iload hx hb dX4_draws_44 (lv_at hl 0 rfl) ?_
          refine mi_sub hx hb (by omega) dX4_draws_46 ?_
          refine lv_istore_n (lv' := [(2, .int (nI (left - left))), (4, .int (nI left)), (0, .ref (ad 7)), (1, .int (nI pts)), (3, .int (nI i))]) hx hb dX4_draws_47 rfl hl (by decide) rfl (fun ls hl => ?_)
          refine lv_iinc (v := nI (i + 1)) (lv' := [(3, .int (nI (i + 1))), (2, .int (nI (left - left))), (4, .int (nI left)), (0, .ref (ad 7)), (1, .int (nI pts))]) hx hb dX4_draws_48 hl (k := 4) rfl (nI_inc _ 1) (by decide) rfl (fun ls hl => ?_)
          refine lv_goto (tgt := 4) hx hb dX4_draws_51 (by decide) ?_
          exact ih (i + 1) _ (by omega) (by rw [smN_0s]; omega)  (by omega) _ _ (by rw [drwMn_s e hl9 (by omega)] at w; exact w) ls (lv_sub hl [3, 4, 1, 0] rfl)
        · refine lv_aload_n hx hb dX4_draws_20 rfl (lv_at hl 0 rfl) ?_
          refine ex_get M w (hB 7 (by decide)) (sh_7 cy ad ((drwMn e pts i) 7)) rfl inX4 23 (by decide) f62 rfl dX4_draws_21 ?_
          refine lv_iload_n hx hb dX4_draws_24 rfl (lv_at hl 3 rfl) ?_
          refine ex_iald M w (hB 25 (by decide)) (sh_25 cy ad) (by omega) (by decide) (drwMn_at e pts i) dX4_draws_25 ?_
          refine lv_goto (tgt := 30) hx hb dX4_draws_26 (by decide) ?_
          refine lv_istore (lv' := [(4, .int (nI (e 25 i))), (0, .ref (ad 7)), (1, .int (nI pts)), (2, .int (nI left)), (3, .int (nI i))]) hx hb dX4_draws_30 hl (by decide) rfl (fun ls hl => ?_)
          refine lv_aload_n hx hb dX4_draws_32 rfl (lv_at hl 1 rfl) ?_
          refine ex_get M w (hB 7 (by decide)) (sh_7 cy ad ((drwMn e pts i) 7)) rfl inX4 23 (by decide) f62 rfl dX4_draws_33 ?_
          refine lv_iload_n hx hb dX4_draws_36 rfl (lv_at hl 4 rfl) ?_
          refine lv_dup2_11 hx hb dX4_draws_37 rfl rfl ?_
          refine ex_iald M w (hB 25 (by decide)) (sh_25 cy ad) (by omega) (by decide) (drwMn_at e pts i) dX4_draws_38 ?_
          refine lv_iload hx hb dX4_draws_39 (lv_at hl 0 rfl) ?_
          refine mi_sub hx hb (by omega) dX4_draws_41 ?_
          refine ex_iast M w (hB 25 (by decide)) (sh_25 cy ad) (v := ((e 25 i) - (e 25 i))) (by omega) (by decide) dX4_draws_42 (fun H locs w => ?_)
          refine lv_iload_n hx hb dX4_draws_43 rfl (lv_at hl 3 rfl) ?_
          refine lv_iload hx hb dX4_draws_44 (lv_at hl 0 rfl) ?_
          refine mi_sub hx hb (by omega) dX4_draws_46 ?_
          refine lv_istore_n (lv' := [(2, .int (nI (left - (e 25 i)))), (4, .int (nI (e 25 i))), (0, .ref (ad 7)), (1, .int (nI pts)), (3, .int (nI i))]) hx hb dX4_draws_47 rfl hl (by decide) rfl (fun ls hl => ?_)
          refine lv_iinc (v := nI (i + 1)) (lv' := [(3, .int (nI (i + 1))), (2, .int (nI (left - (e 25 i)))), (4, .int (nI (e 25 i))), (0, .ref (ad 7)), (1, .int (nI pts))]) hx hb dX4_draws_48 hl (k := 4) rfl (nI_inc _ 1) (by decide) rfl (fun ls hl => ?_)
          refine lv_goto (tgt := 4) hx hb dX4_draws_51 (by decide) ?_
          exact ih (i + 1) _ (by omega) (by rw [smN_0s]; omega)  (by omega) _ _ (by rw [drwMn_s e hl9 (by omega)] at w; exact w) ls (lv_sub hl [3, 4, 1, 0] rfl)
  have hl : lv_has ls 5 [(0, .ref (ad 7)), (1, .int (nI pts))] := hl
  refine lv_iload_n hx hb dX4_draws_0 rfl (lv_at hl 1 rfl) ?_
  refine lv_istore_n (lv' := [(2, .int (nI pts)), (0, .ref (ad 7)), (1, .int (nI pts))]) hx hb dX4_draws_1 rfl hl (by decide) rfl (fun ls hl => ?_)
  refine lv_iconst (v := nI 0) hx hb dX4_draws_2 (by decide) ?_
  refine lv_istore_n (lv' := [(3, .int (nI 0)), (2, .int (nI pts)), (0, .ref (ad 7)), (1, .int (nI pts))]) hx hb dX4_draws_3 rfl hl (by decide) rfl (fun ls hl => ?_)
  exact cut4 (11 - 0 + 1) 0 pts (Nat.zero_le _) rfl  (by omega) _ _ (by rw [drwMn_0]; exact w) ls (lv_sub hl [2, 3, 1, 0] rfl)

set_option maxHeartbeats 4000000 in
set_option maxRecDepth 100000 in
/-- LeavebankModel.earns(p, day) -/
theorem kX4_earns (l : Launch) (D : va_G) (cy : Nat → ClassId) (C : List Nat) (ad : Nat → Nat) (e : Nat → Nat → Nat) (sz : Nat) (p dy B9 : Nat) (hB : ∀ k, k < 26 → k ∈ C) (hp8 : p < 8) (hG : GM e p B9) (hB9 : B9 ≤ 50000000) (hd : dy ≤ 3600) (hsd : e 8 p + 30 ≤ dy) : Met l yX4_earns wsX4_earns ({ frames := 1, cells := 0, slots := 0, locals := 26 } : Room) (PreM D cy (C, ad, G cy ad e) sz [.ref (ad 7), .int (nI p), .int (nI dy)]) (va_Qv (fun (u : WT) => u = (C, ad, G cy ad (earnM e p dy))) (WB D cy (AW (C, ad, G cy ad e) sz)) (AW (C, ad, G cy ad e) sz)) 0 0 (AW (C, ad, G cy ad e) sz) := by
  refine mx_start (cc := cX4_earns) (maxL := 7) (ret := none) (by decide) rfl (Nat.le_of_ble_eq_true rfl) ?_
  intro p9 e9 s m args below meth c hsz hr hnm M w ls hl
  have hx := M.1.1
  have hb := M.1.2.1
  have inX4 : ∀ w ∈ wsX40, w ∈ wsX4_earns := by decide +kernel
  have f7 : Cond.fieldLink RX4 7 RX4 "start" "[I" ∈ wsX4_earns := by decide +kernel
  have f13 : Cond.fieldLink RX4 13 RX4 "right" "[I" ∈ wsX4_earns := by decide +kernel
  have f62 : Cond.fieldLink RX4 62 RX4 "pool" "[I" ∈ wsX4_earns := by decide +kernel
  have f94 : Cond.fieldLink RX4 94 RX4 "owed" "I" ∈ wsX4_earns := by decide +kernel
  have f97 : Cond.fieldLink RX4 97 RX4 "earnedSum" "I" ∈ wsX4_earns := by decide +kernel
  obtain ⟨g1, g2, g3, g4⟩ := id hG
  have q0 := g2.2.1
  have q1 := hrM_in g2 (dy - 1)
  have cut71 : ∀ (bk pts : Nat) (hpt : pts = ptsM e p dy) (hbk : bk = min (e 7 24) pts) (H : Heap) (locs : List Loc), MO D (AW (C, ad, G cy ad e) sz) s.heap (C, ad, G cy ad e) H locs → ∀ (ls : Array Slot), lv_has ls 7 [(0, .ref (ad 7)), (1, .int (nI p)), (2, .int (nI dy)), (5, .int (nI pts))] → W p9 l e9 ({ frames := 1, cells := 0, slots := 0, locals := 26 } : Room) s m args below meth c H locs 0 0 (MQ below (va_Qv (fun (u : WT) => u = (C, ad, G cy ad (earnM e p dy))) (WB D cy (AW (C, ad, G cy ad e) sz)) (AW (C, ad, G cy ad e) sz)) args s 0 0 (AW (C, ad, G cy ad e) sz)) (F0 m 71 ls [.int (nI bk)]) := by
    intro bk pts hpt hbk H locs w ls hl
    refine lv_istore (lv' := [(6, .int (nI bk)), (0, .ref (ad 7)), (1, .int (nI p)), (2, .int (nI dy)), (5, .int (nI pts))]) hx hb dX4_earns_71 hl (by decide) rfl (fun ls hl => ?_)
    have q3 := ptsM_le g2 dy
    refine lv_aload_n hx hb dX4_earns_73 rfl (lv_at hl 1 rfl) ?_
    refine lv_dup hx hb dX4_earns_74 rfl ?_
    refine ex_get M w (hB 7 (by decide)) (sh_7 cy ad (e 7)) rfl inX4 24 (by decide) f94 rfl dX4_earns_75 ?_
    refine lv_iload hx hb dX4_earns_78 (lv_at hl 0 rfl) ?_
    refine mi_sub hx hb (by omega) dX4_earns_80 ?_
    refine ex_put M w (hB 7 (by decide)) (sh_7 cy ad (e 7)) rfl inX4 tyX4 tyX4_ok nmX4 24 (by decide) f94 rfl (v := ((e 7 24) - bk)) rfl rfl (Nat.le_of_ble_eq_true rfl) (sh_7 cy ad _) dX4_earns_81 (fun H locs w => ?_)
    refine lv_aload_n hx hb dX4_earns_84 rfl (lv_at hl 1 rfl) ?_
    refine ex_get M w (hB 7 (by decide)) (sh_7 cy ad ((es e 7 24 ((e 7 24) - bk)) 7)) rfl inX4 23 (by decide) f62 rfl dX4_earns_85 ?_
    refine lv_iload_n hx hb dX4_earns_88 rfl (lv_at hl 3 rfl) ?_
    refine lv_iconst (v := nI 1) hx hb dX4_earns_89 (by decide) ?_
    refine mi_sub hx hb (by omega) dX4_earns_90 ?_
    refine lv_sipush (v := nI 360) hx hb dX4_earns_91 (by decide) ?_
    refine mi_div hx hb (by omega) (by decide) (by decide) dX4_earns_94 ?_
    refine lv_dup2_11 hx hb dX4_earns_95 rfl rfl ?_
    refine ex_iald M w (hB 25 (by decide)) (sh_25 cy ad) (by omega) (by decide) (es_ne _ _ (by first | omega | (unfold PB; omega) | (unfold RB; omega) | (unfold PB RB; omega))) dX4_earns_96 ?_
    refine lv_iload hx hb dX4_earns_97 (lv_at hl 4 rfl) ?_
    refine lv_iload hx hb dX4_earns_99 (lv_at hl 0 rfl) ?_
    refine mi_sub hx hb (by omega) dX4_earns_101 ?_
    refine mi_add hx hb dX4_earns_102 ?_
    refine ex_iast M w (hB 25 (by decide)) (sh_25 cy ad) (v := ((e 25 ((dy - 1) / 360)) + (pts - bk))) (by omega) (by decide) dX4_earns_103 (fun H locs w => ?_)
    refine lv_aload_n hx hb dX4_earns_104 rfl (lv_at hl 1 rfl) ?_
    refine lv_dup hx hb dX4_earns_105 rfl ?_
    refine ex_get M w (hB 7 (by decide)) (sh_7 cy ad ((es (es e 7 24 ((e 7 24) - bk)) 25 ((dy - 1) / 360) ((e 25 ((dy - 1) / 360)) + (pts - bk))) 7)) rfl inX4 25 (by decide) f97 (congrArg (fun z => some (Value.int (nI z))) ((es_ne _ _ (by first | omega | (unfold PB; omega) | (unfold RB; omega) | (unfold PB RB; omega))).trans (es_ne _ _ (by first | omega | (unfold PB; omega) | (unfold RB; omega) | (unfold PB RB; omega))))) dX4_earns_106 ?_
    refine lv_iload hx hb dX4_earns_109 (lv_at hl 4 rfl) ?_
    refine mi_add hx hb dX4_earns_111 ?_
    refine ex_put M w (hB 7 (by decide)) (sh_7 cy ad ((es (es e 7 24 ((e 7 24) - bk)) 25 ((dy - 1) / 360) ((e 25 ((dy - 1) / 360)) + (pts - bk))) 7)) rfl inX4 tyX4 tyX4_ok nmX4 25 (by decide) f97 rfl (v := ((e 7 25) + pts)) rfl rfl (Nat.le_of_ble_eq_true rfl) (sh_7 cy ad _) dX4_earns_112 (fun H locs w => ?_)
    exact mx_vret M w hr (by subst hbk; subst hpt; rfl) (by decide) (by decide) dX4_earns_115
  have cut35 : ∀ (mm : Nat) (hm : mm = min (2 * ((dy - e 8 p) / 360 / 3)) 10) (H : Heap) (locs : List Loc), MO D (AW (C, ad, G cy ad e) sz) s.heap (C, ad, G cy ad e) H locs → ∀ (ls : Array Slot), lv_has ls 7 [(0, .ref (ad 7)), (1, .int (nI p)), (2, .int (nI dy))] → W p9 l e9 ({ frames := 1, cells := 0, slots := 0, locals := 26 } : Room) s m args below meth c H locs 0 0 (MQ below (va_Qv (fun (u : WT) => u = (C, ad, G cy ad (earnM e p dy))) (WB D cy (AW (C, ad, G cy ad e) sz)) (AW (C, ad, G cy ad e) sz)) args s 0 0 (AW (C, ad, G cy ad e) sz)) (F0 m 35 ls [.int (nI mm), .int (nI (e 9 p))]) := by
    intro mm hm H locs w ls hl
    refine mi_add hx hb dX4_earns_35 ?_
    refine lv_istore (lv' := [(4, .int (nI ((e 9 p) + mm))), (0, .ref (ad 7)), (1, .int (nI p)), (2, .int (nI dy))]) hx hb dX4_earns_36 hl (by decide) rfl (fun ls hl => ?_)
    refine lv_iconst (v := nI 2) hx hb dX4_earns_38 (by decide) ?_
    refine lv_iload hx hb dX4_earns_39 (lv_at hl 0 rfl) ?_
    refine mi_mul hx hb dX4_earns_41 ?_
    refine lv_aload_n hx hb dX4_earns_42 rfl (lv_at hl 1 rfl) ?_
    refine lv_iload_n hx hb dX4_earns_43 rfl (lv_at hl 2 rfl) ?_
    refine lv_iload_n hx hb dX4_earns_44 rfl (lv_at hl 3 rfl) ?_
    refine lv_iconst (v := nI 1) hx hb dX4_earns_45 (by decide) ?_
    refine mi_sub hx hb (by omega) dX4_earns_46 ?_
    refine mx_Vi M w (kX4_hoursOn l D cy C ad e H.size p (dy - 1) hB hp8 g2 (by omega)) (cwV 2 M.1.2.2.2.2 gX4_earns_X4_hoursOn rfl rfl rfl (by decide +kernel) ⟨Nat.le_of_ble_eq_true rfl, Nat.le_of_ble_eq_true rfl⟩) (mo_rec M w (hB 7 (by decide)) (g := G cy ad e) (sh_7 cy ad (e 7)) rfl) rfl hl.1 rfl (Nat.le_of_ble_eq_true rfl) dX4_earns_47 ⟨by decide, by decide⟩ (fun r47 u1 H locs hp1 w => ?_)
    obtain ⟨rfl, rfl⟩ := hp1
    refine mi_mul hx hb dX4_earns_50 ?_
    refine lv_istore (lv' := [(5, .int (nI ((2 * ((e 9 p) + mm)) * (hrM e p (dy - 1))))), (4, .int (nI ((e 9 p) + mm))), (0, .ref (ad 7)), (1, .int (nI p)), (2, .int (nI dy))]) hx hb dX4_earns_51 hl (by decide) rfl (fun ls hl => ?_)
    have q2 : 2 * (e 9 p + mm) * hrM e p (dy - 1) ≤ 1800 := by
      have z := ptsM_le g2 dy
      unfold ptsM at z
      rw [← hm] at z
      exact z
    refine lv_aload_n hx hb dX4_earns_53 rfl (lv_at hl 2 rfl) ?_
    refine ex_get M w (hB 7 (by decide)) (sh_7 cy ad (e 7)) rfl inX4 24 (by decide) f94 rfl dX4_earns_54 ?_
    refine lv_iload hx hb dX4_earns_57 (lv_at hl 0 rfl) ?_
    refine mi_ge hx hb (by omega) (by omega) 69 dX4_earns_59 (by decide) (fun h59 => ?_) (fun h59 => ?_)
    · refine lv_iload hx hb dX4_earns_69 (lv_at hl 0 rfl) ?_
      exact cut71 _ _ (by unfold ptsM; rw [← hm]) (by omega)  _ _ w ls (lv_sub hl [2, 3, 4, 0] rfl)
    · refine lv_aload_n hx hb dX4_earns_62 rfl (lv_at hl 2 rfl) ?_
      refine ex_get M w (hB 7 (by decide)) (sh_7 cy ad (e 7)) rfl inX4 24 (by decide) f94 rfl dX4_earns_63 ?_
      refine lv_goto (tgt := 71) hx hb dX4_earns_66 (by decide) ?_
      exact cut71 _ _ (by unfold ptsM; rw [← hm]) (by omega)  _ _ w ls (lv_sub hl [2, 3, 4, 0] rfl)
  have hl : lv_has ls 7 [(0, .ref (ad 7)), (1, .int (nI p)), (2, .int (nI dy))] := hl
  refine lv_iconst (v := nI 2) hx hb dX4_earns_0 (by decide) ?_
  refine lv_iload_n hx hb dX4_earns_1 rfl (lv_at hl 2 rfl) ?_
  refine lv_aload_n hx hb dX4_earns_2 rfl (lv_at hl 0 rfl) ?_
  refine ex_get M w (hB 7 (by decide)) (sh_7 cy ad (e 7)) rfl inX4 3 (by decide) f7 rfl dX4_earns_3 ?_
  refine lv_iload_n hx hb dX4_earns_6 rfl (lv_at hl 1 rfl) ?_
  refine ex_iald M w (hB 8 (by decide)) (sh_8 cy ad) (by omega) (by decide) rfl dX4_earns_7 ?_
  refine mi_sub hx hb (by omega) dX4_earns_8 ?_
  refine lv_sipush (v := nI 360) hx hb dX4_earns_9 (by decide) ?_
  refine mi_div hx hb (by omega) (by decide) (by decide) dX4_earns_12 ?_
  refine lv_iconst (v := nI 3) hx hb dX4_earns_13 (by decide) ?_
  refine mi_div hx hb (by omega) (by decide) (by decide) dX4_earns_14 ?_
  refine mi_mul hx hb dX4_earns_15 ?_
  refine lv_istore_n (lv' := [(3, .int (nI (2 * (((dy - (e 8 p)) / 360) / 3)))), (0, .ref (ad 7)), (1, .int (nI p)), (2, .int (nI dy))]) hx hb dX4_earns_16 rfl hl (by decide) rfl (fun ls hl => ?_)
  refine lv_aload_n hx hb dX4_earns_17 rfl (lv_at hl 1 rfl) ?_
  refine ex_get M w (hB 7 (by decide)) (sh_7 cy ad (e 7)) rfl inX4 4 (by decide) f13 rfl dX4_earns_18 ?_
  refine lv_iload_n hx hb dX4_earns_21 rfl (lv_at hl 2 rfl) ?_
  refine ex_iald M w (hB 9 (by decide)) (sh_9 cy ad) (by omega) (by decide) rfl dX4_earns_22 ?_
  refine lv_iload_n hx hb dX4_earns_23 rfl (lv_at hl 0 rfl) ?_
  refine lv_bipush (v := nI 10) hx hb dX4_earns_24 (by decide) ?_
  refine mi_ge hx hb (by omega) (by decide) 33 dX4_earns_26 (by decide) (fun h26 => ?_) (fun h26 => ?_)
  · refine lv_bipush (v := nI 10) hx hb dX4_earns_33 (by decide) ?_
    exact cut35 _ (by omega)  _ _ w ls (lv_sub hl [1, 2, 3] rfl)
  · refine lv_iload_n hx hb dX4_earns_29 rfl (lv_at hl 0 rfl) ?_
    refine lv_goto (tgt := 35) hx hb dX4_earns_30 (by decide) ?_
    exact cut35 _ (by omega)  _ _ w ls (lv_sub hl [1, 2, 3] rfl)

set_option maxHeartbeats 4000000 in
set_option maxRecDepth 100000 in
/-- LeavebankModel.leaves(p, day) -/
theorem kX4_leaves (l : Launch) (D : va_G) (cy : Nat → ClassId) (C : List Nat) (ad : Nat → Nat) (e : Nat → Nat → Nat) (sz : Nat) (p dy B9 : Nat) (hB : ∀ k, k < 26 → k ∈ C) (hp8 : p < 8) (hG : GM e p B9) (hB9 : B9 ≤ 50000000) (hd : dy ≤ 3600) : Met l yX4_leaves wsX4_leaves ({ frames := 3, cells := 0, slots := 0, locals := 72 } : Room) (PreM D cy (C, ad, G cy ad e) sz [.ref (ad 7), .int (nI p), .int (nI dy)]) (va_Qv (fun (u : WT) => u = (C, ad, G cy ad (leavesM e (240 * lvM e p dy)))) (WB D cy (AW (C, ad, G cy ad e) sz)) (AW (C, ad, G cy ad e) sz)) 0 0 (AW (C, ad, G cy ad e) sz) := by
  refine mx_start (cc := cX4_leaves) (maxL := 5) (ret := none) (by decide) rfl (Nat.le_of_ble_eq_true rfl) ?_
  intro p9 e9 s m args below meth c hsz hr hnm M w ls hl
  have hx := M.1.1
  have hb := M.1.2.1
  have inX4 : ∀ w ∈ wsX40, w ∈ wsX4_leaves := by decide +kernel
  have f94 : Cond.fieldLink RX4 94 RX4 "owed" "I" ∈ wsX4_leaves := by decide +kernel
  have f107 : Cond.fieldLink RX4 107 RX4 "unpaidDays" "I" ∈ wsX4_leaves := by decide +kernel
  have f114 : Cond.fieldLink RX4 114 RX4 "takenSum" "I" ∈ wsX4_leaves := by decide +kernel
  obtain ⟨g1, g2, g3, g4⟩ := id hG
  have q0 := lvM_le e p dy
  have q1 := totM_le hG
  have cut49 : ∀  (hno : ¬ (totM e < (240 * lvM e p dy) ∧ 2400 < e 7 24 + (240 * lvM e p dy) - totM e)) (H : Heap) (locs : List Loc), MO D (AW (C, ad, G cy ad e) sz) s.heap (C, ad, G cy ad e) H locs → ∀ (ls : Array Slot), lv_has ls 5 [(0, .ref (ad 7)), (3, .int (nI (240 * lvM e p dy)))] → W p9 l e9 ({ frames := 3, cells := 0, slots := 0, locals := 72 } : Room) s m args below meth c H locs 0 0 (MQ below (va_Qv (fun (u : WT) => u = (C, ad, G cy ad (leavesM e (240 * lvM e p dy)))) (WB D cy (AW (C, ad, G cy ad e) sz)) (AW (C, ad, G cy ad e) sz)) args s 0 0 (AW (C, ad, G cy ad e) sz)) (F0 m 49 ls []) := by
    intro hno H locs w ls hl
    refine lv_aload_n hx hb dX4_leaves_49 rfl (lv_at hl 0 rfl) ?_
    refine lv_dup hx hb dX4_leaves_50 rfl ?_
    refine ex_get M w (hB 7 (by decide)) (sh_7 cy ad (e 7)) rfl inX4 24 (by decide) f94 rfl dX4_leaves_51 ?_
    refine lv_iload_n hx hb dX4_leaves_54 rfl (lv_at hl 1 rfl) ?_
    refine lv_aload_n hx hb dX4_leaves_55 rfl (lv_at hl 0 rfl) ?_
    refine lv_iload_n hx hb dX4_leaves_56 rfl (lv_at hl 1 rfl) ?_
    refine mx_Vi M w (kX4_draws l D cy C ad e H.size (240 * lvM e p dy) hB (by omega) (fun y hy => by have z := g4 y hy; omega)) (cwV 1 M.1.2.2.2.2 gX4_leaves_X4_draws rfl rfl rfl (by decide +kernel) ⟨Nat.le_of_ble_eq_true rfl, Nat.le_of_ble_eq_true rfl⟩) (mo_rec M w (hB 7 (by decide)) (g := G cy ad e) (sh_7 cy ad (e 7)) rfl) rfl hl.1 rfl (Nat.le_of_ble_eq_true rfl) dX4_leaves_57 ⟨by decide, by decide⟩ (fun r57 u1 H locs hp1 w => ?_)
    obtain ⟨rfl, rfl⟩ := hp1
    refine mi_sub hx hb (by omega) dX4_leaves_60 ?_
    refine mi_add hx hb dX4_leaves_61 ?_
    refine ex_put M w (hB 7 (by decide)) (sh_7 cy ad ((drwM e (240 * lvM e p dy)) 7)) rfl inX4 tyX4 tyX4_ok nmX4 24 (by decide) f94 rfl (v := ((e 7 24) + ((240 * lvM e p dy) - (min (240 * lvM e p dy) (totM e))))) rfl rfl (Nat.le_of_ble_eq_true rfl) (sh_7 cy ad _) dX4_leaves_62 (fun H locs w => ?_)
    refine lv_aload_n hx hb dX4_leaves_65 rfl (lv_at hl 0 rfl) ?_
    refine lv_dup hx hb dX4_leaves_66 rfl ?_
    refine ex_get M w (hB 7 (by decide)) (sh_7 cy ad ((es (drwM e (240 * lvM e p dy)) 7 24 ((e 7 24) + ((240 * lvM e p dy) - (min (240 * lvM e p dy) (totM e))))) 7)) rfl inX4 26 (by decide) f114 (congrArg (fun z => some (Value.int (nI z))) ((es_ne _ _ (by first | omega | (unfold PB; omega) | (unfold RB; omega) | (unfold PB RB; omega))).trans (drwM_off e (240 * lvM e p dy) (by decide) _))) dX4_leaves_67 ?_
    refine lv_iload_n hx hb dX4_leaves_70 rfl (lv_at hl 1 rfl) ?_
    refine mi_add hx hb dX4_leaves_71 ?_
    refine ex_put M w (hB 7 (by decide)) (sh_7 cy ad ((es (drwM e (240 * lvM e p dy)) 7 24 ((e 7 24) + ((240 * lvM e p dy) - (min (240 * lvM e p dy) (totM e))))) 7)) rfl inX4 tyX4 tyX4_ok nmX4 26 (by decide) f114 rfl (v := ((e 7 26) + (240 * lvM e p dy))) rfl rfl (Nat.le_of_ble_eq_true rfl) (sh_7 cy ad _) dX4_leaves_72 (fun H locs w => ?_)
    exact mx_vret M w hr (by unfold leavesM; rw [if_neg hno]) (by decide) (by decide) dX4_leaves_75
  have hl : lv_has ls 5 [(0, .ref (ad 7)), (1, .int (nI p)), (2, .int (nI dy))] := hl
  refine lv_sipush (v := nI 240) hx hb dX4_leaves_0 (by decide) ?_
  refine lv_aload_n hx hb dX4_leaves_3 rfl (lv_at hl 0 rfl) ?_
  refine lv_iload_n hx hb dX4_leaves_4 rfl (lv_at hl 1 rfl) ?_
  refine lv_iload_n hx hb dX4_leaves_5 rfl (lv_at hl 2 rfl) ?_
  refine mx_Vi M w (kX4_leaveOn l D cy C ad e s.heap.size p dy hB g1 hp8 hd) (cwV 2 M.1.2.2.2.2 gX4_leaves_X4_leaveOn rfl rfl rfl (by decide +kernel) ⟨Nat.le_of_ble_eq_true rfl, Nat.le_of_ble_eq_true rfl⟩) (mo_rec M w (hB 7 (by decide)) (g := G cy ad e) (sh_7 cy ad (e 7)) rfl) rfl hl.1 rfl (Nat.le_of_ble_eq_true rfl) dX4_leaves_6 ⟨by decide, by decide⟩ (fun r6 u1 H locs hp1 w => ?_)
  obtain ⟨rfl, rfl⟩ := hp1
  refine mi_mul hx hb dX4_leaves_9 ?_
  refine lv_istore_n (lv' := [(3, .int (nI (240 * (lvM e p dy)))), (0, .ref (ad 7)), (1, .int (nI p)), (2, .int (nI dy))]) hx hb dX4_leaves_10 rfl hl (by decide) rfl (fun ls hl => ?_)
  refine lv_aload_n hx hb dX4_leaves_11 rfl (lv_at hl 1 rfl) ?_
  refine mx_Vi M w (kX4_inPools l D cy C ad e H.size hB) (cwV 0 M.1.2.2.2.2 gX4_leaves_X4_inPools rfl rfl rfl (by decide +kernel) ⟨Nat.le_of_ble_eq_true rfl, Nat.le_of_ble_eq_true rfl⟩) (mo_rec M w (hB 7 (by decide)) (g := G cy ad e) (sh_7 cy ad (e 7)) rfl) rfl hl.1 rfl (Nat.le_of_ble_eq_true rfl) dX4_leaves_12 ⟨by decide, by decide⟩ (fun r12 u1 H locs hp1 w => ?_)
  obtain ⟨rfl, rfl⟩ := hp1
  refine lv_istore (lv' := [(4, .int (nI (totM e))), (3, .int (nI (240 * (lvM e p dy)))), (0, .ref (ad 7)), (1, .int (nI p)), (2, .int (nI dy))]) hx hb dX4_leaves_15 hl (by decide) rfl (fun ls hl => ?_)
  refine lv_iload_n hx hb dX4_leaves_17 rfl (lv_at hl 1 rfl) ?_
  refine lv_iload hx hb dX4_leaves_18 (lv_at hl 0 rfl) ?_
  refine mi_le hx hb (by omega) (by omega) 49 dX4_leaves_20 (by decide) (fun h20 => ?_) (fun h20 => ?_)
  · exact cut49 (by omega)  _ _ w ls (lv_sub hl [2, 1] rfl)
  · refine lv_aload_n hx hb dX4_leaves_23 rfl (lv_at hl 2 rfl) ?_
    refine ex_get M w (hB 7 (by decide)) (sh_7 cy ad (e 7)) rfl inX4 24 (by decide) f94 rfl dX4_leaves_24 ?_
    refine lv_iload_n hx hb dX4_leaves_27 rfl (lv_at hl 1 rfl) ?_
    refine mi_add hx hb dX4_leaves_28 ?_
    refine lv_iload hx hb dX4_leaves_29 (lv_at hl 0 rfl) ?_
    refine mi_sub hx hb (by omega) dX4_leaves_31 ?_
    refine lv_sipush (v := nI 2400) hx hb dX4_leaves_32 (by decide) ?_
    refine mi_le hx hb (by omega) (by decide) 49 dX4_leaves_35 (by decide) (fun h35 => ?_) (fun h35 => ?_)
    · exact cut49 (by omega)  _ _ w ls (lv_sub hl [2, 1] rfl)
    · refine lv_aload_n hx hb dX4_leaves_38 rfl (lv_at hl 2 rfl) ?_
      refine lv_dup hx hb dX4_leaves_39 rfl ?_
      refine ex_get M w (hB 7 (by decide)) (sh_7 cy ad (e 7)) rfl inX4 29 (by decide) f107 rfl dX4_leaves_40 ?_
      refine lv_iconst (v := nI 1) hx hb dX4_leaves_43 (by decide) ?_
      refine mi_add hx hb dX4_leaves_44 ?_
      refine ex_put M w (hB 7 (by decide)) (sh_7 cy ad (e 7)) rfl inX4 tyX4 tyX4_ok nmX4 29 (by decide) f107 rfl (v := ((e 7 29) + 1)) rfl rfl (Nat.le_of_ble_eq_true rfl) (sh_7 cy ad _) dX4_leaves_45 (fun H locs w => ?_)
      exact mx_vret M w hr (by unfold leavesM; rw [if_pos ⟨by omega, by omega⟩]) (by decide) (by decide) dX4_leaves_48
