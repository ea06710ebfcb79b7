set_option maxHeartbeats 4000000 in
set_option maxRecDepth 100000 in
/-- Leavebank.isWorkingDay(day) -/
theorem kX3_isWorkingDay (l : Launch) (D : va_G) (cy : Nat → ClassId) (C : List Nat) (ad : Nat → Nat) (e : Nat → Nat → Nat) (sz : Nat) (dy : Nat) (hd : dy < 2147483648) : Met l yX3_isWorkingDay wsX3_isWorkingDay ({ frames := 0, cells := 0, slots := 0, locals := 0 } : Room) (PreM D cy (C, ad, G cy ad e) sz [.int (nI dy)]) (va_Qi (fun (r : Int32) (u : WT) => r = nI (decide (dy % 7 < 5)).toNat ∧ u = (C, ad, G cy ad e)) (WB D cy (AW (C, ad, G cy ad e) sz)) (AW (C, ad, G cy ad e) sz)) 0 0 (AW (C, ad, G cy ad e) sz) := by
  refine mx_start (cc := cX3_isWorkingDay) (maxL := 1) (ret := (some .boolean)) (by decide) rfl (Nat.le_of_ble_eq_true rfl) ?_
  intro p9 e9 s m args below meth c hsz hr hnm M w ls hl
  have hx := M.1.1
  have hb := M.1.2.1
  have hl : lv_has ls 1 [(0, .int (nI dy))] := hl
  refine lv_iload_n hx hb dX3_isWorkingDay_0 rfl (lv_at hl 0 rfl) ?_
  refine lv_bipush (v := nI 7) hx hb dX3_isWorkingDay_1 (by decide) ?_
  refine mi_rem hx hb (by omega) (by decide) (by decide) dX3_isWorkingDay_3 ?_
  refine lv_iconst (v := nI 5) hx hb dX3_isWorkingDay_4 (by decide) ?_
  refine mi_ge hx hb (by omega) (by decide) 12 dX3_isWorkingDay_5 (by decide) (fun h5 => ?_) (fun h5 => ?_)
  · refine lv_iconst (v := nI 0) hx hb dX3_isWorkingDay_12 (by decide) ?_
    exact mx_zret M w hr (v := (nI 0)) (by first | exact Or.inl rfl | exact Or.inr rfl) ⟨bt_0 (decide_eq_false (by omega)), rfl⟩ (by decide) (by decide) dX3_isWorkingDay_13
  · refine lv_iconst (v := nI 1) hx hb dX3_isWorkingDay_8 (by decide) ?_
    refine lv_goto (tgt := 13) hx hb dX3_isWorkingDay_9 (by decide) ?_
    exact mx_zret M w hr (v := (nI 1)) (by first | exact Or.inl rfl | exact Or.inr rfl) ⟨bt_1 (decide_eq_true (by omega)), rfl⟩ (by decide) (by decide) dX3_isWorkingDay_13

set_option maxHeartbeats 4000000 in
set_option maxRecDepth 100000 in
/-- Request.holdsOn(day) -/
theorem kX2_holdsOn (l : Launch) (D : va_G) (cy : Nat → ClassId) (C : List Nat) (ad : Nat → Nat) (e : Nat → Nat → Nat) (sz : Nat) (q dy : Nat) (hR : RB q ∈ C) (hb2 : e (RB q) 2 ≤ 3600 ∧ e (RB q) 3 ≤ 3600 ∧ e (RB q) 4 ≤ 1 ∧ dy ≤ 3600) : Met l yX2_holdsOn wsX2_holdsOn ({ frames := 0, cells := 0, slots := 0, locals := 0 } : Room) (PreM D cy (C, ad, G cy ad e) sz [.ref (ad (RB q)), .int (nI dy)]) (va_Qi (fun (r : Int32) (u : WT) => r = nI (hldC e q dy).toNat ∧ u = (C, ad, G cy ad e)) (WB D cy (AW (C, ad, G cy ad e) sz)) (AW (C, ad, G cy ad e) sz)) 0 0 (AW (C, ad, G cy ad e) sz) := by
  refine mx_start (cc := cX2_holdsOn) (maxL := 2) (ret := (some .boolean)) (by decide) rfl (Nat.le_of_ble_eq_true rfl) ?_
  intro p9 e9 s m args below meth c hsz hr hnm M w ls hl
  have hx := M.1.1
  have hb := M.1.2.1
  have inX2 : ∀ w ∈ wsX20, w ∈ wsX2_holdsOn := by decide +kernel
  have f19 : Cond.fieldLink RX2 19 RX2 "firstDay" "I" ∈ wsX2_holdsOn := by decide +kernel
  have f22 : Cond.fieldLink RX2 22 RX2 "lastDay" "I" ∈ wsX2_holdsOn := by decide +kernel
  have f25 : Cond.fieldLink RX2 25 RX2 "isCancelled" "Z" ∈ wsX2_holdsOn := by decide +kernel
  have hl : lv_has ls 2 [(0, .ref (ad (RB q))), (1, .int (nI dy))] := hl
  refine lv_aload_n hx hb dX2_holdsOn_0 rfl (lv_at hl 0 rfl) ?_
  refine ex_get M w (hR) (sh_RB cy ad q (e (RB q))) rfl inX2 4 (by decide) f25 rfl dX2_holdsOn_1 ?_
  refine mi_if_ne hx hb (by omega) 27 dX2_holdsOn_4 (by decide) (fun h4 => ?_) (fun h4 => ?_)
  · refine lv_iconst (v := nI 0) hx hb dX2_holdsOn_27 (by decide) ?_
    exact mx_zret M w hr (v := (nI 0)) (by first | exact Or.inl rfl | exact Or.inr rfl) ⟨bt_0 (by unfold hldC; exact decide_eq_false (by omega)), rfl⟩ (by decide) (by decide) dX2_holdsOn_28
  · refine lv_aload_n hx hb dX2_holdsOn_7 rfl (lv_at hl 0 rfl) ?_
    refine ex_get M w (hR) (sh_RB cy ad q (e (RB q))) rfl inX2 2 (by decide) f19 rfl dX2_holdsOn_8 ?_
    refine lv_iload_n hx hb dX2_holdsOn_11 rfl (lv_at hl 1 rfl) ?_
    refine mi_gt hx hb (by omega) (by omega) 27 dX2_holdsOn_12 (by decide) (fun h12 => ?_) (fun h12 => ?_)
    · refine lv_iconst (v := nI 0) hx hb dX2_holdsOn_27 (by decide) ?_
      exact mx_zret M w hr (v := (nI 0)) (by first | exact Or.inl rfl | exact Or.inr rfl) ⟨bt_0 (by unfold hldC; exact decide_eq_false (by omega)), rfl⟩ (by decide) (by decide) dX2_holdsOn_28
    · refine lv_iload_n hx hb dX2_holdsOn_15 rfl (lv_at hl 1 rfl) ?_
      refine lv_aload_n hx hb dX2_holdsOn_16 rfl (lv_at hl 0 rfl) ?_
      refine ex_get M w (hR) (sh_RB cy ad q (e (RB q))) rfl inX2 3 (by decide) f22 rfl dX2_holdsOn_17 ?_
      refine mi_gt hx hb (by omega) (by omega) 27 dX2_holdsOn_20 (by decide) (fun h20 => ?_) (fun h20 => ?_)
      · refine lv_iconst (v := nI 0) hx hb dX2_holdsOn_27 (by decide) ?_
        exact mx_zret M w hr (v := (nI 0)) (by first | exact Or.inl rfl | exact Or.inr rfl) ⟨bt_0 (by unfold hldC; exact decide_eq_false (by omega)), rfl⟩ (by decide) (by decide) dX2_holdsOn_28
      · refine lv_iconst (v := nI 1) hx hb dX2_holdsOn_23 (by decide) ?_
        refine lv_goto (tgt := 28) hx hb dX2_holdsOn_24 (by decide) ?_
        exact mx_zret M w hr (v := (nI 1)) (by first | exact Or.inl rfl | exact Or.inr rfl) ⟨bt_1 (by unfold hldC; exact decide_eq_true (by omega)), rfl⟩ (by decide) (by decide) dX2_holdsOn_28

set_option maxHeartbeats 4000000 in
set_option maxRecDepth 100000 in
/-- Person.isSickOn(day) -/
theorem kX1_isSickOn (l : Launch) (D : va_G) (cy : Nat → ClassId) (C : List Nat) (ad : Nat → Nat) (e : Nat → Nat → Nat) (sz : Nat) (p dy : Nat) (hp : p < 8) (hC : ∀ k, k < 9 → PB p + k ∈ C) (hSp : PSp e p) (hd : dy ≤ 3600) : Met l yX1_isSickOn wsX1_isSickOn ({ frames := 0, cells := 0, slots := 0, locals := 0 } : Room) (PreM D cy (C, ad, G cy ad e) sz [.ref (ad (PB p)), .int (nI dy)]) (va_Qi (fun (r : Int32) (u : WT) => r = nI (sckC e p dy).toNat ∧ u = (C, ad, G cy ad e)) (WB D cy (AW (C, ad, G cy ad e) sz)) (AW (C, ad, G cy ad e) sz)) 0 0 (AW (C, ad, G cy ad e) sz) := by
  refine mx_start (cc := cX1_isSickOn) (maxL := 3) (ret := (some .boolean)) (by decide) rfl (Nat.le_of_ble_eq_true rfl) ?_
  intro p9 e9 s m args below meth c hsz hr hnm M w ls hl
  have hx := M.1.1
  have hb := M.1.2.1
  have inX1 : ∀ w ∈ wsX10, w ∈ wsX1_isSickOn := by decide +kernel
  have f24 : Cond.fieldLink RX1 24 RX1 "spellFirsts" "[I" ∈ wsX1_isSickOn := by decide +kernel
  have f27 : Cond.fieldLink RX1 27 RX1 "spellLasts" "[I" ∈ wsX1_isSickOn := by decide +kernel
  have f69 : Cond.fieldLink RX1 69 RX1 "ownSpellCount" "I" ∈ wsX1_isSickOn := by decide +kernel
  obtain ⟨hs1, hs2⟩ := hSp
  have cut2 : ∀ (n9 : Nat) (i : Nat) (hi : i ≤ e (PB p) 10) (hq : anyN (fun i => decide (e (PB p + 4) i ≤ dy ∧ dy ≤ e (PB p + 5) i)) i = false) (_hm : e (PB p) 10 - i < n9) (H : Heap) (locs : List Loc), MO D (AW (C, ad, G cy ad e) sz) s.heap (C, ad, G cy ad e) H locs → ∀ (ls : Array Slot), lv_has ls 3 [(0, .ref (ad (PB p))), (1, .int (nI dy)), (2, .int (nI i))] → W p9 l e9 ({ frames := 0, cells := 0, slots := 0, locals := 0 } : Room) s m args below meth c H locs 0 0 (MQ below (va_Qi (fun (r : Int32) (u : WT) => r = nI (sckC e p dy).toNat ∧ u = (C, ad, G cy ad e)) (WB D cy (AW (C, ad, G cy ad e) sz)) (AW (C, ad, G cy ad e) sz)) args s 0 0 (AW (C, ad, G cy ad e) sz)) (F0 m 2 ls []) := by
    intro n9
    induction n9 with
    | zero => intro i hi hq _hm; exact absurd _hm (Nat.not_lt_zero _)
    | succ n9 ih =>
      intro i hi hq _hm H locs w ls hl
      refine lv_iload_n hx hb dX1_isSickOn_2 rfl (lv_at hl 2 rfl) ?_
      refine lv_aload_n hx hb dX1_isSickOn_3 rfl (lv_at hl 0 rfl) ?_
      refine ex_get M w (show (PB p) ∈ C from hC 0 (by decide)) (sh_P0 cy ad (e (PB p)) hp) rfl inX1 10 (by decide) f69 rfl dX1_isSickOn_4 ?_
      refine mi_ge hx hb (by omega) (by omega) 38 dX1_isSickOn_7 (by decide) (fun h7 => ?_) (fun h7 => ?_)
      · refine lv_iconst (v := nI 0) hx hb dX1_isSickOn_38 (by decide) ?_
        exact mx_zret M w hr (v := (nI 0)) (by first | exact Or.inl rfl | exact Or.inr rfl) ⟨bt_0 (by unfold sckC; rw [show e (PB p) 10 = i by omega]; exact hq), rfl⟩ (by decide) (by decide) dX1_isSickOn_39
      · have q1 := hs2 i h7
        refine lv_aload_n hx hb dX1_isSickOn_10 rfl (lv_at hl 0 rfl) ?_
        refine ex_get M w (show (PB p) ∈ C from hC 0 (by decide)) (sh_P0 cy ad (e (PB p)) hp) rfl inX1 8 (by decide) f24 rfl dX1_isSickOn_11 ?_
        refine lv_iload_n hx hb dX1_isSickOn_14 rfl (lv_at hl 2 rfl) ?_
        refine ex_iald M w (hC 4 (by decide)) (fun v => sh_P4 cy ad v hp) (by omega) (by decide) rfl dX1_isSickOn_15 ?_
        refine lv_iload_n hx hb dX1_isSickOn_16 rfl (lv_at hl 1 rfl) ?_
        refine mi_gt hx hb (by omega) (by omega) 32 dX1_isSickOn_17 (by decide) (fun h17 => ?_) (fun h17 => ?_)
        · refine lv_iinc (v := nI (i + 1)) (lv' := [(2, .int (nI (i + 1))), (0, .ref (ad (PB p))), (1, .int (nI dy))]) hx hb dX1_isSickOn_32 hl (k := 2) rfl (nI_inc _ 1) (by decide) rfl (fun ls hl => ?_)
          refine lv_goto (tgt := 2) hx hb dX1_isSickOn_35 (by decide) ?_
          exact ih (i + 1) (by omega) (anyN_no hq (decide_eq_false (by omega)))  (by omega) _ _ w ls (lv_sub hl [1, 2, 0] rfl)
        · refine lv_iload_n hx hb dX1_isSickOn_20 rfl (lv_at hl 1 rfl) ?_
          refine lv_aload_n hx hb dX1_isSickOn_21 rfl (lv_at hl 0 rfl) ?_
          refine ex_get M w (show (PB p) ∈ C from hC 0 (by decide)) (sh_P0 cy ad (e (PB p)) hp) rfl inX1 9 (by decide) f27 rfl dX1_isSickOn_22 ?_
          refine lv_iload_n hx hb dX1_isSickOn_25 rfl (lv_at hl 2 rfl) ?_
          refine ex_iald M w (hC 5 (by decide)) (fun v => sh_P5 cy ad v hp) (by omega) (by decide) rfl dX1_isSickOn_26 ?_
          refine mi_gt hx hb (by omega) (by omega) 32 dX1_isSickOn_27 (by decide) (fun h27 => ?_) (fun h27 => ?_)
          · refine lv_iinc (v := nI (i + 1)) (lv' := [(2, .int (nI (i + 1))), (0, .ref (ad (PB p))), (1, .int (nI dy))]) hx hb dX1_isSickOn_32 hl (k := 2) rfl (nI_inc _ 1) (by decide) rfl (fun ls hl => ?_)
            refine lv_goto (tgt := 2) hx hb dX1_isSickOn_35 (by decide) ?_
            exact ih (i + 1) (by omega) (anyN_no hq (decide_eq_false (by omega)))  (by omega) _ _ w ls (lv_sub hl [1, 2, 0] rfl)
          · refine lv_iconst (v := nI 1) hx hb dX1_isSickOn_30 (by decide) ?_
            exact mx_zret M w hr (v := (nI 1)) (by first | exact Or.inl rfl | exact Or.inr rfl) ⟨bt_1 (anyN_hit h7 (decide_eq_true ⟨by omega, by omega⟩)), rfl⟩ (by decide) (by decide) dX1_isSickOn_31
  have hl : lv_has ls 3 [(0, .ref (ad (PB p))), (1, .int (nI dy))] := hl
  refine lv_iconst (v := nI 0) hx hb dX1_isSickOn_0 (by decide) ?_
  refine lv_istore_n (lv' := [(2, .int (nI 0)), (0, .ref (ad (PB p))), (1, .int (nI dy))]) hx hb dX1_isSickOn_1 rfl hl (by decide) rfl (fun ls hl => ?_)
  exact cut2 (e (PB p) 10 - 0 + 1) 0 (Nat.zero_le _) rfl  (by omega) _ _ w ls (lv_sub hl [1, 2, 0] rfl)
