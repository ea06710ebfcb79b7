/-! ===== the law: cell, low, expiry, sum, draw, hours, leave ===== -/
theorem rV_q0 (e : Nat → Nat → Nat) : e 6 0 = VV e 7 1 := rfl
theorem rV_q1 (e : Nat → Nat → Nat) : e 6 1 = VV e 7 2 := rfl
theorem rV_q2 (e : Nat → Nat → Nat) : e 6 2 = VV e 7 9 := rfl
theorem rV_q3 (e : Nat → Nat → Nat) : e 6 3 = VV e 7 15 := rfl
theorem rV_q4 (e : Nat → Nat → Nat) : e 6 4 = VV e 7 19 := rfl
theorem rV_8 {e : Nat → Nat → Nat} {p : Nat} (hp : p < 2) : e 7 (4 * p) = VV e 8 p := (show VV e 8 p = e 7 (4 * p) from if_pos hp).symm
theorem rV_9 {e : Nat → Nat → Nat} {p : Nat} (hp : p < 2) : e 7 (4 * p + 1) = VV e 9 p := (show VV e 9 p = e 7 (4 * p + 1) from if_pos hp).symm
theorem rV_10 {e : Nat → Nat → Nat} {p : Nat} (hp : p < 2) : e 7 (4 * p + 2) = VV e 10 p := (show VV e 10 p = e 7 (4 * p + 2) from if_pos hp).symm
theorem rV_11 {e : Nat → Nat → Nat} {p : Nat} (hp : p < 2) : e 7 (4 * p + 3) = VV e 11 p := (show VV e 11 p = e 7 (4 * p + 3) from if_pos hp).symm
theorem rV_12 (e : Nat → Nat → Nat) (p k : Nat) : e 7 (12 + 20 * p + 2 * k) = VV e 12 (10 * p + k) := congrArg (e 7) (show 12 + 20 * p + 2 * k = 12 + 2 * (10 * p + k) by omega)
theorem rV_13 (e : Nat → Nat → Nat) (p k : Nat) : e 7 (12 + 20 * p + 2 * k + 1) = VV e 13 (10 * p + k) := congrArg (e 7) (show 12 + 20 * p + 2 * k + 1 = 12 + 2 * (10 * p + k) + 1 by omega)
theorem rV_14 (e : Nat → Nat → Nat) (k : Nat) : e 8 (5 * k) = VV e 14 k := rfl
theorem rV_15 (e : Nat → Nat → Nat) (k : Nat) : e 8 (5 * k + 1) = VV e 15 k := rfl
theorem rV_16 (e : Nat → Nat → Nat) (k : Nat) : e 8 (5 * k + 2) = VV e 16 k := rfl
theorem rV_17 (e : Nat → Nat → Nat) (k : Nat) : e 8 (5 * k + 3) = VV e 17 k := rfl
theorem rV_18 (e : Nat → Nat → Nat) (k : Nat) : e 8 (5 * k + 4) = VV e 18 k := rfl
theorem rV_19 (e : Nat → Nat → Nat) (k : Nat) : e 9 (3 * k) = VV e 19 k := rfl
theorem rV_20 (e : Nat → Nat → Nat) (k : Nat) : e 9 (3 * k + 1) = VV e 20 k := rfl
theorem rV_21 (e : Nat → Nat → Nat) (k : Nat) : e 9 (3 * k + 2) = VV e 21 k := rfl
theorem rV_22 (e : Nat → Nat → Nat) (k : Nat) : e 10 (3 * k) = VV e 22 k := rfl
theorem rV_23 (e : Nat → Nat → Nat) (k : Nat) : e 10 (3 * k + 1) = VV e 23 k := rfl
theorem rV_24 (e : Nat → Nat → Nat) (k : Nat) : e 10 (3 * k + 2) = VV e 24 k := rfl

set_option maxHeartbeats 4000000 in
set_option maxRecDepth 100000 in
/-- LeavebankLaw.cell(s, k) -/
theorem kL_cell (l : Launch) (D : va_G) (cy : Nat → ClassId) (C : List Nat) (ad : Nat → Nat) (e : Nat → Nat → Nat) (sz : Nat) (b L k : Nat) (xs : Nat → Int32) (hL9 : L < 1000) (hk : k < 1000) : Met l yL_cell wsL_cell ({ frames := 0, cells := 0, slots := 0, locals := 0 } : Room) (PrC9 D cy (C, ad, G cy ad e) sz b L xs [.ref b, .int (nI k)]) (va_Qi (fun (r : Int32) (u : WT) => u = (C, ad, G cy ad e)) (WB D cy (AW (C, ad, G cy ad e) sz)) (AW (C, ad, G cy ad e) sz)) 0 0 (AW (C, ad, G cy ad e) sz) := by
  refine mxs_start (cc := cL_cell) (maxL := 2) (ret := (some .int)) (by decide) rfl (Nat.le_of_ble_eq_true rfl) ?_
  intro p9 e9 s m args below meth c hsz hr M w hX hbl hbA ls hl
  have hx := M.1.1
  have hb := M.1.2.1
  have hl : lv_has ls 2 [(0, .ref b), (1, .int (nI k))] := hl
  refine lv_iload_n hx hb dL_cell_0 rfl (lv_at hl 1 rfl) ?_
  refine lv_aload_n hx hb dL_cell_1 rfl (lv_at hl 0 rfl) ?_
  refine va_slen hx hb hX hbl hbA w.2.2 dL_cell_2 ?_
  refine mi_ge hx hb (by omega) (by omega) 12 dL_cell_3 (by decide) (fun h3 => ?_) (fun h3 => ?_)
  · refine lv_ldc (v := 47581) hx hb M.1.2.2.2.1 (M.1.2.2.2.2 _ (show Cond.constant RL 7 47581 ∈ wsL_cell by decide +kernel)) dL_cell_12 ?_
    refine lv_iload_n hx hb dL_cell_14 rfl (lv_at hl 1 rfl) ?_
    refine lv_bipush (v := nI 23) hx hb dL_cell_15 (by decide) ?_
    refine mi_add hx hb dL_cell_17 ?_
    refine lv_imul hx hb dL_cell_18 ?_
    refine lv_ldc (v := 2889705) hx hb M.1.2.2.2.1 (M.1.2.2.2.2 _ (show Cond.constant RL 8 2889705 ∈ wsL_cell by decide +kernel)) dL_cell_19 ?_
    refine lv_iadd hx hb dL_cell_21 ?_
    exact mx_iret M w hr (v := (((47581 : Int32) * (nI (k + 23))) + (2889705 : Int32))) rfl (by decide) (by decide) dL_cell_22
  · refine lv_aload_n hx hb dL_cell_6 rfl (lv_at hl 0 rfl) ?_
    refine lv_iload_n hx hb dL_cell_7 rfl (lv_at hl 1 rfl) ?_
    refine va_sld hx hb hX hbl hbA w.2.2 (vp_in_nI (by omega) (by omega)) dL_cell_8 ?_
    refine lv_goto (tgt := 22) hx hb dL_cell_9 (by decide) ?_
    exact mx_iret M w hr (v := (xs (nI k).toNatClampNeg)) rfl (by decide) (by decide) dL_cell_22

set_option maxHeartbeats 4000000 in
set_option maxRecDepth 100000 in
/-- LeavebankLaw.low(v, n) -/
theorem kL_low (l : Launch) (D : va_G) (cy : Nat → ClassId) (C : List Nat) (ad : Nat → Nat) (e : Nat → Nat → Nat) (sz : Nat) (v : Int32) (k : Nat) (hk : 0 < k) (hk2 : k < 2147483648) : Met l yL_low wsL_low ({ frames := 0, cells := 0, slots := 0, locals := 0 } : Room) (PreM D cy (C, ad, G cy ad e) sz [.int v, .int (nI k)]) (va_Qi (fun (r : Int32) (u : WT) => ∃ j, (j < k ∧ r = nI j) ∧ u = (C, ad, G cy ad e)) (WB D cy (AW (C, ad, G cy ad e) sz)) (AW (C, ad, G cy ad e) sz)) 0 0 (AW (C, ad, G cy ad e) sz) := by
  refine mx_start (cc := cL_low) (maxL := 2) (ret := (some .int)) (by decide) rfl (Nat.le_of_ble_eq_true rfl) ?_
  intro p9 e9 s m args below meth c hsz hr hnm M w ls hl
  have hx := M.1.1
  have hb := M.1.2.1
  obtain ⟨a9, ha9, hv9⟩ := low_and v
  have hl : lv_has ls 2 [(0, .int v), (1, .int (nI k))] := hl
  refine lv_iload_n hx hb dL_low_0 rfl (lv_at hl 0 rfl) ?_
  refine lv_ldc (v := 2147483647) hx hb M.1.2.2.2.1 (M.1.2.2.2.2 _ (show Cond.constant RL 9 2147483647 ∈ wsL_low by decide +kernel)) dL_low_1 ?_
  refine lv_iand hx hb dL_low_3 ?_
  refine W.eq (congrArg (fun z => F0 m 4 ls [.int z]) hv9) ?_
  refine lv_iload_n hx hb dL_low_4 rfl (lv_at hl 1 rfl) ?_
  refine mi_rem hx hb ha9 hk hk2 dL_low_5 ?_
  exact mx_iret M w hr (v := (nI (a9 % k))) ⟨_, ⟨Nat.mod_lt _ hk, rfl⟩, rfl⟩ (by decide) (by decide) dL_low_6

set_option maxHeartbeats 4000000 in
set_option maxRecDepth 100000 in
/-- LeavebankLaw.expiry(month) -/
theorem kL_expiry (l : Launch) (D : va_G) (cy : Nat → ClassId) (C : List Nat) (ad : Nat → Nat) (e : Nat → Nat → Nat) (sz : Nat) (k : Nat) (hk : 1 ≤ k) (hk2 : k ≤ 100) : Met l yL_expiry wsL_expiry ({ frames := 0, cells := 0, slots := 0, locals := 0 } : Room) (PreM D cy (C, ad, G cy ad e) sz [.int (nI k)]) (va_Qi (fun (r : Int32) (u : WT) => r = nI (exM k) ∧ u = (C, ad, G cy ad e)) (WB D cy (AW (C, ad, G cy ad e) sz)) (AW (C, ad, G cy ad e) sz)) 0 0 (AW (C, ad, G cy ad e) sz) := by
  refine mx_start (cc := cL_expiry) (maxL := 1) (ret := (some .int)) (by decide) rfl (Nat.le_of_ble_eq_true rfl) ?_
  intro p9 e9 s m args below meth c hsz hr hnm M w ls hl
  have hx := M.1.1
  have hb := M.1.2.1
  have hl : lv_has ls 1 [(0, .int (nI k))] := hl
  refine lv_bipush (v := nI 30) hx hb dL_expiry_0 (by decide) ?_
  refine lv_iload_n hx hb dL_expiry_2 rfl (lv_at hl 0 rfl) ?_
  refine mi_mul hx hb dL_expiry_3 ?_
  refine lv_iconst (v := nI 1) hx hb dL_expiry_4 (by decide) ?_
  refine mi_sub hx hb (by omega) dL_expiry_5 ?_
  refine lv_sipush (v := nI 360) hx hb dL_expiry_6 (by decide) ?_
  refine mi_div hx hb (by omega) (by decide) (by decide) dL_expiry_9 ?_
  refine lv_sipush (v := nI 360) hx hb dL_expiry_10 (by decide) ?_
  refine mi_mul hx hb dL_expiry_13 ?_
  refine lv_sipush (v := nI 450) hx hb dL_expiry_14 (by decide) ?_
  refine mi_add hx hb dL_expiry_17 ?_
  exact mx_iret M w hr (v := (nI (((((30 * k) - 1) / 360) * 360) + 450))) ⟨rfl, rfl⟩ (by decide) (by decide) dL_expiry_18

set_option maxHeartbeats 4000000 in
set_option maxRecDepth 100000 in
/-- LeavebankLaw.sum(l) -/
theorem kL_sum (l : Launch) (D : va_G) (cy : Nat → ClassId) (C : List Nat) (ad : Nat → Nat) (e : Nat → Nat → Nat) (sz : Nat)  (hB : ∀ k, k < 13 → k ∈ C) : Met l yL_sum wsL_sum ({ frames := 0, cells := 0, slots := 0, locals := 0 } : Room) (PreM D cy (C, ad, G cy ad e) sz [.ref (ad 11)]) (va_Qi (fun (r : Int32) (u : WT) => r = nI (totL e) ∧ u = (C, ad, G cy ad e)) (WB D cy (AW (C, ad, G cy ad e) sz)) (AW (C, ad, G cy ad e) sz)) 0 0 (AW (C, ad, G cy ad e) sz) := by
  refine mx_start (cc := cL_sum) (maxL := 3) (ret := (some .int)) (by decide) rfl (Nat.le_of_ble_eq_true rfl) ?_
  intro p9 e9 s m args below meth c hsz hr hnm M w ls hl
  have hx := M.1.1
  have hb := M.1.2.1
  have cut4 : ∀ (n9 : Nat) (sm k : Nat) (hk : k ≤ 64) (hs : sm = smN (e 11) 0 k) (_hm : 64 - k < n9) (H : Heap) (locs : List Loc), MO D (AW (C, ad, G cy ad e) sz) s.heap (C, ad, G cy ad e) H locs → ∀ (ls : Array Slot), lv_has ls 3 [(0, .ref (ad 11)), (1, .int (nI sm)), (2, .int (nI k))] → W p9 l e9 ({ frames := 0, cells := 0, slots := 0, locals := 0 } : Room) s m args below meth c H locs 0 0 (MQ below (va_Qi (fun (r : Int32) (u : WT) => r = nI (totL e) ∧ u = (C, ad, G cy ad e)) (WB D cy (AW (C, ad, G cy ad e) sz)) (AW (C, ad, G cy ad e) sz)) args s 0 0 (AW (C, ad, G cy ad e) sz)) (F0 m 4 ls []) := by
    intro n9
    induction n9 with
    | zero => intro sm k hk hs _hm; exact absurd _hm (Nat.not_lt_zero _)
    | succ n9 ih =>
      intro sm k hk hs _hm H locs w ls hl
      refine lv_iload_n hx hb dL_sum_4 rfl (lv_at hl 2 rfl) ?_
      refine lv_bipush (v := nI 64) hx hb dL_sum_5 (by decide) ?_
      refine mi_ge hx hb (by omega) (by decide) 22 dL_sum_7 (by decide) (fun h7 => ?_) (fun h7 => ?_)
      · refine lv_iload_n hx hb dL_sum_22 rfl (lv_at hl 1 rfl) ?_
        exact mx_iret M w hr (v := (nI sm)) ⟨by rw [hs]; unfold totL; rw [show k = 64 by omega], rfl⟩ (by decide) (by decide) dL_sum_23
      · refine lv_iload_n hx hb dL_sum_10 rfl (lv_at hl 1 rfl) ?_
        refine lv_aload_n hx hb dL_sum_11 rfl (lv_at hl 0 rfl) ?_
        refine lv_iload_n hx hb dL_sum_12 rfl (lv_at hl 2 rfl) ?_
        refine ex_iald M w (hB 11 (by decide)) (sh_11 cy ad) (by omega) (by decide) rfl dL_sum_13 ?_
        refine mi_add hx hb dL_sum_14 ?_
        refine lv_istore_n (lv' := [(1, .int (nI (sm + (e 11 k)))), (0, .ref (ad 11)), (2, .int (nI k))]) hx hb dL_sum_15 rfl hl (by decide) rfl (fun ls hl => ?_)
        refine lv_iinc (v := nI (k + 1)) (lv' := [(2, .int (nI (k + 1))), (1, .int (nI (sm + (e 11 k)))), (0, .ref (ad 11))]) hx hb dL_sum_16 hl (k := 2) rfl (nI_inc _ 1) (by decide) rfl (fun ls hl => ?_)
        refine lv_goto (tgt := 4) hx hb dL_sum_19 (by decide) ?_
        exact ih _ (k + 1) (by omega) (by rw [smN_0s, ← hs])  (by omega) _ _ w ls (lv_sub hl [2, 1, 0] rfl)
  have hl : lv_has ls 3 [(0, .ref (ad 11))] := hl
  refine lv_iconst (v := nI 0) hx hb dL_sum_0 (by decide) ?_
  refine lv_istore_n (lv' := [(1, .int (nI 0)), (0, .ref (ad 11))]) hx hb dL_sum_1 rfl hl (by decide) rfl (fun ls hl => ?_)
  refine lv_iconst (v := nI 0) hx hb dL_sum_2 (by decide) ?_
  refine lv_istore_n (lv' := [(2, .int (nI 0)), (1, .int (nI 0)), (0, .ref (ad 11))]) hx hb dL_sum_3 rfl hl (by decide) rfl (fun ls hl => ?_)
  exact cut4 (64 - 0 + 1) 0 0 (Nat.zero_le _) rfl  (by omega) _ _ w ls (lv_sub hl [2, 1, 0] rfl)

set_option maxHeartbeats 4000000 in
set_option maxRecDepth 100000 in
/-- LeavebankLaw.draw(points, l) -/
theorem kL_draw (l : Launch) (D : va_G) (cy : Nat → ClassId) (C : List Nat) (ad : Nat → Nat) (e : Nat → Nat → Nat) (sz : Nat) (pts : Nat) (hB : ∀ k, k < 13 → k ∈ C) (hpp : pts < 1000000000) (hPl : ∀ y, y < 64 → e 11 y < 1000000000) : Met l yL_draw wsL_draw ({ frames := 0, cells := 0, slots := 0, locals := 0 } : Room) (PreM D cy (C, ad, G cy ad e) sz [.int (nI pts), .ref (ad 11)]) (va_Qi (fun (r : Int32) (u : WT) => r = nI (min pts (totL e)) ∧ u = (C, ad, G cy ad (drwL e pts))) (WB D cy (AW (C, ad, G cy ad e) sz)) (AW (C, ad, G cy ad e) sz)) 0 0 (AW (C, ad, G cy ad e) sz) := by
  refine mx_start (cc := cL_draw) (maxL := 5) (ret := (some .int)) (by decide) rfl (Nat.le_of_ble_eq_true rfl) ?_
  intro p9 e9 s m args below meth c hsz hr hnm M w ls hl
  have hx := M.1.1
  have hb := M.1.2.1
  have cut4 : ∀ (n9 : Nat) (left k : Nat) (hk : k ≤ 64) (hl9 : left = pts - smN (e 11) 0 k) (_hm : 64 - k < n9) (H : Heap) (locs : List Loc), MO D (AW (C, ad, G cy ad e) sz) s.heap (C, ad, G cy ad (drwLn e pts k)) H locs → ∀ (ls : Array Slot), lv_has ls 5 [(0, .int (nI pts)), (1, .ref (ad 11)), (2, .int (nI left)), (3, .int (nI k))] → W p9 l e9 ({ frames := 0, cells := 0, slots := 0, locals := 0 } : Room) s m args below meth c H locs 0 0 (MQ below (va_Qi (fun (r : Int32) (u : WT) => r = nI (min pts (totL e)) ∧ u = (C, ad, G cy ad (drwL e pts))) (WB D cy (AW (C, ad, G cy ad e) sz)) (AW (C, ad, G cy ad e) sz)) args s 0 0 (AW (C, ad, G cy ad e) sz)) (F0 m 4 ls []) := by
    intro n9
    induction n9 with
    | zero => intro left k hk hl9 _hm; exact absurd _hm (Nat.not_lt_zero _)
    | succ n9 ih =>
      intro left k hk hl9 _hm H locs w ls hl
      refine lv_iload_n hx hb dL_draw_4 rfl (lv_at hl 3 rfl) ?_
      refine lv_bipush (v := nI 64) hx hb dL_draw_5 (by decide) ?_
      refine mi_ge hx hb (by omega) (by decide) 49 dL_draw_7 (by decide) (fun h7 => ?_) (fun h7 => ?_)
      · refine lv_iload_n hx hb dL_draw_49 rfl (lv_at hl 0 rfl) ?_
        refine lv_iload_n hx hb dL_draw_50 rfl (lv_at hl 2 rfl) ?_
        refine mi_sub hx hb (by omega) dL_draw_51 ?_
        exact mx_iret M w hr (v := (nI (pts - left))) ⟨congrArg nI (drwL_fin e hl9 (by omega) (by omega)).2, by rw [(drwL_fin e hl9 (by omega) (by omega)).1]⟩ (by decide) (by decide) dL_draw_52
      · refine lv_iload_n hx hb dL_draw_10 rfl (lv_at hl 2 rfl) ?_
        refine mi_if_le hx hb (by omega) 49 dL_draw_11 (by decide) (fun h11 => ?_) (fun h11 => ?_)
        · refine lv_iload_n hx hb dL_draw_49 rfl (lv_at hl 0 rfl) ?_
          refine lv_iload_n hx hb dL_draw_50 rfl (lv_at hl 2 rfl) ?_
          refine mi_sub hx hb (by omega) dL_draw_51 ?_
          exact mx_iret M w hr (v := (nI (pts - left))) ⟨congrArg nI (drwL_fin e hl9 (by omega) (by omega)).2, by rw [(drwL_fin e hl9 (by omega) (by omega)).1]⟩ (by decide) (by decide) dL_draw_52
        · have q1 := hPl k (by omega)
          refine lv_aload_n hx hb dL_draw_14 rfl (lv_at hl 1 rfl) ?_
          refine lv_iload_n hx hb dL_draw_15 rfl (lv_at hl 3 rfl) ?_
          refine ex_iald M w (hB 11 (by decide)) (sh_11 cy ad) (by omega) (by decide) (drwLn_at e pts k) dL_draw_16 ?_
          refine lv_iload_n hx hb dL_draw_17 rfl (lv_at hl 2 rfl) ?_
          refine mi_le hx hb (by omega) (by omega) 25 dL_draw_18 (by decide) (fun h18 => ?_) (fun h18 => ?_)
          · refine lv_aload_n hx hb dL_draw_25 rfl (lv_at hl 1 rfl) ?_
            refine lv_iload_n hx hb dL_draw_26 rfl (lv_at hl 3 rfl) ?_
            refine ex_iald M w (hB 11 (by decide)) (sh_11 cy ad) (by omega) (by decide) (drwLn_at e pts k) dL_draw_27 ?_
            refine lv_istore (lv' := [(4, .int (nI (e 11 k))), (0, .int (nI pts)), (1, .ref (ad 11)), (2, .int (nI left)), (3, .int (nI k))]) hx hb dL_draw_28 hl (by decide) rfl (fun ls hl => ?_)
            refine lv_aload_n hx hb dL_draw_30 rfl (lv_at hl 2 rfl) ?_
            refine lv_iload_n hx hb dL_draw_31 rfl (lv_at hl 4 rfl) ?_
            refine lv_dup2_11 hx hb dL_draw_32 rfl rfl ?_
            refine ex_iald M w (hB 11 (by decide)) (sh_11 cy ad) (by omega) (by decide) (drwLn_at e pts k) dL_draw_33 ?_
            refine lv_iload hx hb dL_draw_34 (lv_at hl 0 rfl) ?_
            refine mi_sub hx hb (by omega) dL_draw_36 ?_
            refine ex_iast M w (hB 11 (by decide)) (sh_11 cy ad) (v := ((e 11 k) - (e 11 k))) (by omega) (by decide) dL_draw_37 (fun H locs w => ?_)
            refine lv_iload_n hx hb dL_draw_38 rfl (lv_at hl 3 rfl) ?_
            refine lv_iload hx hb dL_draw_39 (lv_at hl 0 rfl) ?_
            refine mi_sub hx hb (by omega) dL_draw_41 ?_
            refine lv_istore_n (lv' := [(2, .int (nI (left - (e 11 k)))), (4, .int (nI (e 11 k))), (0, .int (nI pts)), (1, .ref (ad 11)), (3, .int (nI k))]) hx hb dL_draw_42 rfl hl (by decide) rfl (fun ls hl => ?_)
            refine lv_iinc (v := nI (k + 1)) (lv' := [(3, .int (nI (k + 1))), (2, .int (nI (left - (e 11 k)))), (4, .int (nI (e 11 k))), (0, .int (nI pts)), (1, .ref (ad 11))]) hx hb dL_draw_43 hl (k := 4) rfl (nI_inc _ 1) (by decide) rfl (fun ls hl => ?_)
            refine lv_goto (tgt := 4) hx hb dL_draw_46 (by decide) ?_
            exact ih _ (k + 1) (by omega) (by rw [smN_0s]; omega)  (by omega) _ _ (by rw [drwLn_s e hl9 (by omega)] at w; exact w) ls (lv_sub hl [3, 4, 1, 0] rfl)
          · refine lv_iload_n hx hb dL_draw_21 rfl (lv_at hl 2 rfl) ?_
            refine lv_goto (tgt := 28) hx hb dL_draw_22 (by decide) ?_
            refine lv_istore (lv' := [(4, .int (nI left)), (0, .int (nI pts)), (1, .ref (ad 11)), (2, .int (nI left)), (3, .int (nI k))]) hx hb dL_draw_28 hl (by decide) rfl (fun ls hl => ?_)
            refine lv_aload_n hx hb dL_draw_30 rfl (lv_at hl 2 rfl) ?_
            refine lv_iload_n hx hb dL_draw_31 rfl (lv_at hl 4 rfl) ?_
            refine lv_dup2_11 hx hb dL_draw_32 rfl rfl ?_
            refine ex_iald M w (hB 11 (by decide)) (sh_11 cy ad) (by omega) (by decide) (drwLn_at e pts k) dL_draw_33 ?_
            refine lv_iload hx hb dL_draw_34 (lv_at hl 0 rfl) ?_
            refine mi_sub hx hb (by omega) dL_draw_36 ?_
            refine ex_iast M w (hB 11 (by decide)) (sh_11 cy ad) (v := ((e 11 k) - left)) (by omega) (by decide) dL_draw_37 (fun H locs w => ?_)
            refine lv_iload_n hx hb dL_draw_38 rfl (lv_at hl 3 rfl) ?_
            refine lv_iload hx hb dL_draw_39 (lv_at hl 0 rfl) ?_
            refine mi_sub hx hb (by omega) dL_draw_41 ?_
            refine lv_istore_n (lv' := [(2, .int (nI (left - left))), (4, .int (nI left)), (0, .int (nI pts)), (1, .ref (ad 11)), (3, .int (nI k))]) hx hb dL_draw_42 rfl hl (by decide) rfl (fun ls hl => ?_)
            refine lv_iinc (v := nI (k + 1)) (lv' := [(3, .int (nI (k + 1))), (2, .int (nI (left - left))), (4, .int (nI left)), (0, .int (nI pts)), (1, .ref (ad 11))]) hx hb dL_draw_43 hl (k := 4) rfl (nI_inc _ 1) (by decide) rfl (fun ls hl => ?_)
            refine lv_goto (tgt := 4) hx hb dL_draw_46 (by decide) ?_
            exact ih _ (k + 1) (by omega) (by rw [smN_0s]; omega)  (by omega) _ _ (by rw [drwLn_s e hl9 (by omega)] at w; exact w) ls (lv_sub hl [3, 4, 1, 0] rfl)
  have hl : lv_has ls 5 [(0, .int (nI pts)), (1, .ref (ad 11))] := hl
  refine lv_iload_n hx hb dL_draw_0 rfl (lv_at hl 0 rfl) ?_
  refine lv_istore_n (lv' := [(2, .int (nI pts)), (0, .int (nI pts)), (1, .ref (ad 11))]) hx hb dL_draw_1 rfl hl (by decide) rfl (fun ls hl => ?_)
  refine lv_iconst (v := nI 0) hx hb dL_draw_2 (by decide) ?_
  refine lv_istore_n (lv' := [(3, .int (nI 0)), (2, .int (nI pts)), (0, .int (nI pts)), (1, .ref (ad 11))]) hx hb dL_draw_3 rfl hl (by decide) rfl (fun ls hl => ?_)
  exact cut4 (64 - 0 + 1) pts 0 (Nat.zero_le _) rfl  (by omega) _ _ (by rw [drwLn_0]; exact w) ls (lv_sub hl [2, 3, 1, 0] rfl)

def hQn (y : Nat → Nat → Nat) (p dy i : Nat) : Nat × Nat := hQ (fun i => y 12 (10 * p + i)) (fun i => y 13 (10 * p + i)) (y 10 p) dy i
theorem hQn_1 {y : Nat → Nat → Nat} {p dy i : Nat} (h : y 12 (10 * p + i) ≤ dy) (h2 : (hQn y p dy i).1 ≤ y 12 (10 * p + i) + 1) : hQn y p dy (i + 1) = (y 12 (10 * p + i) + 1, y 13 (10 * p + i)) := if_pos ⟨h, h2⟩
theorem hQn_2 {y : Nat → Nat → Nat} {p dy i : Nat} (h : ¬ (y 12 (10 * p + i) ≤ dy ∧ (hQn y p dy i).1 ≤ y 12 (10 * p + i) + 1)) : hQn y p dy (i + 1) = hQn y p dy i := if_neg h
theorem hQn_le (y : Nat → Nat → Nat) (p dy i : Nat) : (hQn y p dy i).1 ≤ dy + 1 := hQ_le

set_option maxHeartbeats 4000000 in
set_option maxRecDepth 100000 in
/-- LeavebankLaw.hours(p, day, h) -/
theorem kL_hours (l : Launch) (D : va_G) (cy : Nat → ClassId) (C : List Nat) (ad : Nat → Nat) (e : Nat → Nat → Nat) (sz : Nat) (p dy : Nat) (hB : ∀ k, k < 13 → k ∈ C) (hp : p < 2) (hM : MWp (VV e) p) (hD : RD (VV e) p) (hd : dy ≤ 3600) : Met l yL_hours wsL_hours ({ frames := 0, cells := 0, slots := 0, locals := 0 } : Room) (PreM D cy (C, ad, G cy ad e) sz [.int (nI p), .int (nI dy), .ref (ad 7)]) (va_Qi (fun (r : Int32) (u : WT) => r = nI (hrM (VV e) p dy) ∧ u = (C, ad, G cy ad e)) (WB D cy (AW (C, ad, G cy ad e) sz)) (AW (C, ad, G cy ad e) sz)) 0 0 (AW (C, ad, G cy ad e) sz) := by
  refine mx_start (cc := cL_hours) (maxL := 7) (ret := (some .int)) (by decide) rfl (Nat.le_of_ble_eq_true rfl) ?_
  intro p9 e9 s m args below meth c hsz hr hnm M w ls hl
  have hx := M.1.1
  have hb := M.1.2.1
  have hs1 := hM.2.2.2.1
  have hs2 := hM.2.2.2.2
  have cut14 : ∀ (n9 : Nat) (k : Nat) (la : Int32) (hh : Nat) (hk : k ≤ VV e 11 p) (hla : la = nI (hQn (VV e) p dy k).1 - 1) (hhh : hh = (hQn (VV e) p dy k).2) (_hm : VV e 11 p - k < n9) (H : Heap) (locs : List Loc), MO D (AW (C, ad, G cy ad e) sz) s.heap (C, ad, G cy ad e) H locs → ∀ (ls : Array Slot), lv_has ls 7 [(0, .int (nI p)), (1, .int (nI dy)), (2, .ref (ad 7)), (3, .int (nI hh)), (4, .int la), (5, .int (nI k))] → W p9 l e9 ({ frames := 0, cells := 0, slots := 0, locals := 0 } : Room) s m args below meth c H locs 0 0 (MQ below (va_Qi (fun (r : Int32) (u : WT) => r = nI (hrM (VV e) p dy) ∧ u = (C, ad, G cy ad e)) (WB D cy (AW (C, ad, G cy ad e) sz)) (AW (C, ad, G cy ad e) sz)) args s 0 0 (AW (C, ad, G cy ad e) sz)) (F0 m 14 ls []) := by
    intro n9
    induction n9 with
    | zero => intro k la hh hk hla hhh _hm; exact absurd _hm (Nat.not_lt_zero _)
    | succ n9 ih =>
      intro k la hh hk hla hhh _hm H locs w ls hl
      refine lv_iload hx hb dL_hours_14 (lv_at hl 5 rfl) ?_
      refine lv_aload_n hx hb dL_hours_16 rfl (lv_at hl 2 rfl) ?_
      refine lv_iconst (v := nI 4) hx hb dL_hours_17 (by decide) ?_
      refine lv_iload_n hx hb dL_hours_18 rfl (lv_at hl 0 rfl) ?_
      refine mi_mul hx hb dL_hours_19 ?_
      refine lv_iconst (v := nI 3) hx hb dL_hours_20 (by decide) ?_
      refine mi_add hx hb dL_hours_21 ?_
      refine ex_iald M w (hB 7 (by decide)) (sh_7 cy ad) (by omega) (by decide) (rV_11 (e := e) hp) dL_hours_22 ?_
      refine mi_ge hx hb (by omega) (by omega) 76 dL_hours_23 (by decide) (fun h23 => ?_) (fun h23 => ?_)
      · refine lv_iload_n hx hb dL_hours_76 rfl (lv_at hl 3 rfl) ?_
        exact mx_iret M w hr (v := (nI hh)) ⟨by rw [hhh, ← hrL_eq hD dy]; unfold hQn; rw [show VV e 11 p = k by omega], rfl⟩ (by decide) (by decide) dL_hours_77
      · have q1 := hs2 k (by omega)
        have q2 := hQn_le (VV e) p dy k
        refine lv_bipush (v := nI 12) hx hb dL_hours_26 (by decide) ?_
        refine lv_bipush (v := nI 20) hx hb dL_hours_28 (by decide) ?_
        refine lv_iload_n hx hb dL_hours_30 rfl (lv_at hl 0 rfl) ?_
        refine mi_mul hx hb dL_hours_31 ?_
        refine mi_add hx hb dL_hours_32 ?_
        refine lv_iconst (v := nI 2) hx hb dL_hours_33 (by decide) ?_
        refine lv_iload hx hb dL_hours_34 (lv_at hl 5 rfl) ?_
        refine mi_mul hx hb dL_hours_36 ?_
        refine mi_add hx hb dL_hours_37 ?_
        refine lv_istore (lv' := [(6, .int (nI ((12 + (20 * p)) + (2 * k)))), (0, .int (nI p)), (1, .int (nI dy)), (2, .ref (ad 7)), (3, .int (nI hh)), (4, .int la), (5, .int (nI k))]) hx hb dL_hours_38 hl (by decide) rfl (fun ls hl => ?_)
        refine lv_aload_n hx hb dL_hours_40 rfl (lv_at hl 3 rfl) ?_
        refine lv_iload hx hb dL_hours_41 (lv_at hl 0 rfl) ?_
        refine ex_iald M w (hB 7 (by decide)) (sh_7 cy ad) (by omega) (by decide) (rV_12 e p k) dL_hours_43 ?_
        refine lv_iload_n hx hb dL_hours_44 rfl (lv_at hl 2 rfl) ?_
        refine mi_gt hx hb (by omega) (by omega) 70 dL_hours_45 (by decide) (fun h45 => ?_) (fun h45 => ?_)
        · refine lv_iinc (v := nI (k + 1)) (lv' := [(5, .int (nI (k + 1))), (6, .int (nI ((12 + (20 * p)) + (2 * k)))), (0, .int (nI p)), (1, .int (nI dy)), (2, .ref (ad 7)), (3, .int (nI hh)), (4, .int la)]) hx hb dL_hours_70 hl (k := 6) rfl (nI_inc _ 1) (by decide) rfl (fun ls hl => ?_)
          refine lv_goto (tgt := 14) hx hb dL_hours_73 (by decide) ?_
          exact ih (k + 1) la hh (by omega) (by rw [hQn_2 (by omega)]; exact hla) (by rw [hQn_2 (by omega)]; exact hhh)  (by omega) _ _ w ls (lv_sub hl [2, 3, 4, 5, 6, 0] rfl)
        · refine lv_aload_n hx hb dL_hours_48 rfl (lv_at hl 3 rfl) ?_
          refine lv_iload hx hb dL_hours_49 (lv_at hl 0 rfl) ?_
          refine ex_iald M w (hB 7 (by decide)) (sh_7 cy ad) (by omega) (by decide) (rV_12 e p k) dL_hours_51 ?_
          refine lv_iload hx hb dL_hours_52 (lv_at hl 5 rfl) ?_
          refine lv_icmp_lt (tgt := 70) hx hb dL_hours_54 (by decide) (fun h54 => ?_) (fun h54 => ?_)
          · refine lv_iinc (v := nI (k + 1)) (lv' := [(5, .int (nI (k + 1))), (6, .int (nI ((12 + (20 * p)) + (2 * k)))), (0, .int (nI p)), (1, .int (nI dy)), (2, .ref (ad 7)), (3, .int (nI hh)), (4, .int la)]) hx hb dL_hours_70 hl (k := 6) rfl (nI_inc _ 1) (by decide) rfl (fun ls hl => ?_)
            refine lv_goto (tgt := 14) hx hb dL_hours_73 (by decide) ?_
            exact ih (k + 1) la hh (by omega) (by rw [hQn_2 (fun z => by rw [hla] at h54; have z2 := (lt_m1 (by omega) (by omega)).mp h54; omega)]; exact hla) (by rw [hQn_2 (fun z => by rw [hla] at h54; have z2 := (lt_m1 (by omega) (by omega)).mp h54; omega)]; exact hhh)  (by omega) _ _ w ls (lv_sub hl [2, 3, 4, 5, 6, 0] rfl)
          · refine lv_aload_n hx hb dL_hours_57 rfl (lv_at hl 3 rfl) ?_
            refine lv_iload hx hb dL_hours_58 (lv_at hl 0 rfl) ?_
            refine ex_iald M w (hB 7 (by decide)) (sh_7 cy ad) (by omega) (by decide) (rV_12 e p k) dL_hours_60 ?_
            refine lv_istore (lv' := [(4, .int (nI (VV e 12 (10 * p + k)))), (6, .int (nI ((12 + (20 * p)) + (2 * k)))), (0, .int (nI p)), (1, .int (nI dy)), (2, .ref (ad 7)), (3, .int (nI hh)), (5, .int (nI k))]) hx hb dL_hours_61 hl (by decide) rfl (fun ls hl => ?_)
            refine lv_aload_n hx hb dL_hours_63 rfl (lv_at hl 4 rfl) ?_
            refine lv_iload hx hb dL_hours_64 (lv_at hl 1 rfl) ?_
            refine lv_iconst (v := nI 1) hx hb dL_hours_66 (by decide) ?_
            refine mi_add hx hb dL_hours_67 ?_
            refine ex_iald M w (hB 7 (by decide)) (sh_7 cy ad) (by omega) (by decide) (rV_13 e p k) dL_hours_68 ?_
            refine lv_istore_n (lv' := [(3, .int (nI (VV e 13 (10 * p + k)))), (4, .int (nI (VV e 12 (10 * p + k)))), (6, .int (nI ((12 + (20 * p)) + (2 * k)))), (0, .int (nI p)), (1, .int (nI dy)), (2, .ref (ad 7)), (5, .int (nI k))]) hx hb dL_hours_69 rfl hl (by decide) rfl (fun ls hl => ?_)
            refine lv_iinc (v := nI (k + 1)) (lv' := [(5, .int (nI (k + 1))), (3, .int (nI (VV e 13 (10 * p + k)))), (4, .int (nI (VV e 12 (10 * p + k)))), (6, .int (nI ((12 + (20 * p)) + (2 * k)))), (0, .int (nI p)), (1, .int (nI dy)), (2, .ref (ad 7))]) hx hb dL_hours_70 hl (k := 6) rfl (nI_inc _ 1) (by decide) rfl (fun ls hl => ?_)
            refine lv_goto (tgt := 14) hx hb dL_hours_73 (by decide) ?_
            exact ih (k + 1) _ _ (by omega) (by rw [hQn_1 (by omega) (by rw [hla] at h54; rcases Nat.lt_or_ge (VV e 12 (10 * p + k) + 1) (hQn (VV e) p dy k).1 with z | z <;> first | exact z | exact absurd ((lt_m1 (by omega) (by omega)).mpr z) h54)]; exact (nI_pred _).symm) (by rw [hQn_1 (by omega) (by rw [hla] at h54; rcases Nat.lt_or_ge (VV e 12 (10 * p + k) + 1) (hQn (VV e) p dy k).1 with z | z <;> first | exact z | exact absurd ((lt_m1 (by omega) (by omega)).mpr z) h54)])  (by omega) _ _ w ls (lv_sub hl [4, 5, 6, 1, 2, 0] rfl)
  have hl : lv_has ls 7 [(0, .int (nI p)), (1, .int (nI dy)), (2, .ref (ad 7))] := hl
  refine lv_aload_n hx hb dL_hours_0 rfl (lv_at hl 2 rfl) ?_
  refine lv_iconst (v := nI 4) hx hb dL_hours_1 (by decide) ?_
  refine lv_iload_n hx hb dL_hours_2 rfl (lv_at hl 0 rfl) ?_
  refine mi_mul hx hb dL_hours_3 ?_
  refine lv_iconst (v := nI 2) hx hb dL_hours_4 (by decide) ?_
  refine mi_add hx hb dL_hours_5 ?_
  refine ex_iald M w (hB 7 (by decide)) (sh_7 cy ad) (by omega) (by decide) (rV_10 (e := e) hp) dL_hours_6 ?_
  refine lv_istore_n (lv' := [(3, .int (nI (VV e 10 p))), (0, .int (nI p)), (1, .int (nI dy)), (2, .ref (ad 7))]) hx hb dL_hours_7 rfl hl (by decide) rfl (fun ls hl => ?_)
  refine lv_iconst (v := (-1)) hx hb dL_hours_8 (by decide) ?_
  refine lv_istore (lv' := [(4, .int (-1)), (3, .int (nI (VV e 10 p))), (0, .int (nI p)), (1, .int (nI dy)), (2, .ref (ad 7))]) hx hb dL_hours_9 hl (by decide) rfl (fun ls hl => ?_)
  refine lv_iconst (v := nI 0) hx hb dL_hours_11 (by decide) ?_
  refine lv_istore (lv' := [(5, .int (nI 0)), (4, .int (-1)), (3, .int (nI (VV e 10 p))), (0, .int (nI p)), (1, .int (nI dy)), (2, .ref (ad 7))]) hx hb dL_hours_12 hl (by decide) rfl (fun ls hl => ?_)
  exact cut14 (VV e 11 p - 0 + 1) 0 _ _ (Nat.zero_le _) rfl rfl  (by omega) _ _ w ls (lv_sub hl [3, 4, 5, 2, 1, 0] rfl)

theorem or_1 {q : Nat → Bool} {a b : Bool} {i : Nat} (h : b = (a || anyN q i)) (hb : b = true) : true = (a || anyN q (i + 1)) := by
  rw [hb] at h
  show true = (a || (anyN q i || q i))
  rw [← Bool.or_assoc, ← h]; rfl
theorem or_2 {q : Nat → Bool} {a : Bool} {i : Nat} (h : q i = true) : true = (a || anyN q (i + 1)) := by
  show true = (a || (anyN q i || q i))
  rw [h, Bool.or_true, Bool.or_true]
theorem or_0 {q : Nat → Bool} {a b : Bool} {i : Nat} (h : b = (a || anyN q i)) (hb : b = false) (hq : q i = false) : false = (a || anyN q (i + 1)) := by
  rw [hb] at h
  show false = (a || (anyN q i || q i))
  rw [hq, Bool.or_false, ← h]
theorem lv_off {y : Nat → Nat → Nat} {p dy k : Nat} {b : Bool} (h : b = (decide (4 < dy % 7) || anyN (fun k => decide (y 19 k = p ∧ y 20 k ≤ dy ∧ dy ≤ y 21 k)) k)) (hb : b = true) (hk : y 7 15 = k) : 0 = lvM y p dy := by
  unfold lvM illM
  rw [hk]
  by_cases z : 4 < dy % 7
  · rw [if_neg (fun w => by omega)]
  · rw [hb, decide_eq_false z, Bool.false_or] at h
    rw [if_neg (fun w => by rw [← h] at w; cases w.2)]
theorem lv_on {y : Nat → Nat → Nat} {p dy k n v : Nat} {b b5 b6 : Bool} (h : b = (decide (4 < dy % 7) || anyN (fun k => decide (y 19 k = p ∧ y 20 k ≤ dy ∧ dy ≤ y 21 k)) k)) (hb : b = false) (hk : y 7 15 = k) (h5 : b5 = anyN (fun k => decide ((y 14 k = p ∧ y 18 k = 0 ∧ y 15 k ≤ dy ∧ dy ≤ y 16 k) ∧ ¬ y 17 k = 0)) n) (h6 : b6 = anyN (fun k => decide ((y 14 k = p ∧ y 18 k = 0 ∧ y 15 k ≤ dy ∧ dy ≤ y 16 k) ∧ y 17 k = 0)) n) (hn : y 7 9 = n) (hv : v = (if b6 = true then 2 else if b5 = true then 1 else 0)) : v = lvM y p dy := by
  unfold lvM illM
  rw [hk, hn, hv, h5, h6]
  rw [hb] at h
  have h1 : ¬ 4 < dy % 7 := fun z => by
    rw [decide_eq_true z] at h
    cases h
  rw [decide_eq_false h1, Bool.false_or] at h
  have h2 : dy % 7 < 5 ∧ anyN (fun k => decide (y 19 k = p ∧ y 20 k ≤ dy ∧ dy ≤ y 21 k)) k = false := ⟨by omega, h.symm⟩
  rw [if_pos h2, mx_2 n]

set_option maxHeartbeats 4000000 in
set_option maxRecDepth 100000 in
/-- LeavebankLaw.leave(p, day, r, i, q) -/
theorem kL_leave (l : Launch) (D : va_G) (cy : Nat → ClassId) (C : List Nat) (ad : Nat → Nat) (e : Nat → Nat → Nat) (sz : Nat) (p dy : Nat) (hB : ∀ k, k < 13 → k ∈ C) (hM : MW (VV e)) (hn2 : VV e 7 9 ≤ 12 ∧ VV e 7 15 ≤ 8) (hp8 : p < 8) (hd : dy ≤ 3600) : Met l yL_leave wsL_leave ({ frames := 0, cells := 0, slots := 0, locals := 0 } : Room) (PreM D cy (C, ad, G cy ad e) sz [.int (nI p), .int (nI dy), .ref (ad 8), .ref (ad 9), .ref (ad 6)]) (va_Qi (fun (r : Int32) (u : WT) => r = nI (lvM (VV e) p dy) ∧ u = (C, ad, G cy ad e)) (WB D cy (AW (C, ad, G cy ad e) sz)) (AW (C, ad, G cy ad e) sz)) 0 0 (AW (C, ad, G cy ad e) sz) := by
  refine mx_start (cc := cL_leave) (maxL := 10) (ret := (some .int)) (by decide) rfl (Nat.le_of_ble_eq_true rfl) ?_
  intro p9 e9 s m args below meth c hsz hr hnm M w ls hl
  have hx := M.1.1
  have hb := M.1.2.1
  obtain ⟨⟨m1, m2, m3, m4, m5⟩, mr, ms, my, mp9⟩ := id hM
  obtain ⟨hn3, hn4⟩ := hn2
  have cut151 : ∀ (n9 : Nat) (k : Nat) (b5 b6 b7 : Bool) (hk : k ≤ VV e 7 15) (h5 : b5 = anyN (fun k => decide ((VV e 14 k = p ∧ VV e 18 k = 0 ∧ VV e 15 k ≤ dy ∧ dy ≤ VV e 16 k) ∧ ¬ VV e 17 k = 0)) (VV e 7 9)) (h6 : b6 = anyN (fun k => decide ((VV e 14 k = p ∧ VV e 18 k = 0 ∧ VV e 15 k ≤ dy ∧ dy ≤ VV e 16 k) ∧ VV e 17 k = 0)) (VV e 7 9)) (h7 : b7 = (decide (4 < dy % 7) || anyN (fun k => decide (VV e 19 k = p ∧ VV e 20 k ≤ dy ∧ dy ≤ VV e 21 k)) k)) (_hm : VV e 7 15 - k < n9) (H : Heap) (locs : List Loc), MO D (AW (C, ad, G cy ad e) sz) s.heap (C, ad, G cy ad e) H locs → ∀ (ls : Array Slot), lv_has ls 10 [(0, .int (nI p)), (1, .int (nI dy)), (2, .ref (ad 8)), (3, .ref (ad 9)), (4, .ref (ad 6)), (5, .int (nI b5.toNat)), (6, .int (nI b6.toNat)), (7, .int (nI b7.toNat)), (8, .int (nI k))] → W p9 l e9 ({ frames := 0, cells := 0, slots := 0, locals := 0 } : Room) s m args below meth c H locs 0 0 (MQ below (va_Qi (fun (r : Int32) (u : WT) => r = nI (lvM (VV e) p dy) ∧ u = (C, ad, G cy ad e)) (WB D cy (AW (C, ad, G cy ad e) sz)) (AW (C, ad, G cy ad e) sz)) args s 0 0 (AW (C, ad, G cy ad e) sz)) (F0 m 151 ls []) := by
    intro n9
    induction n9 with
    | zero => intro k b5 b6 b7 hk h5 h6 h7 _hm; exact absurd _hm (Nat.not_lt_zero _)
    | succ n9 ih =>
      intro k b5 b6 b7 hk h5 h6 h7 _hm H locs w ls hl
      refine lv_iload hx hb dL_leave_151 (lv_at hl 8 rfl) ?_
      refine lv_aload hx hb dL_leave_153 (lv_at hl 4 rfl) ?_
      refine lv_iconst (v := nI 3) hx hb dL_leave_155 (by decide) ?_
      refine ex_iald M w (hB 6 (by decide)) (sh_6 cy ad) (by omega) (by decide) (rV_q3 e) dL_leave_156 ?_
      refine mi_ge hx hb (by omega) (by omega) 212 dL_leave_157 (by decide) (fun h157 => ?_) (fun h157 => ?_)
      · have hn9 : VV e 7 9 = VV e 7 9 := rfl
        refine lv_iload hx hb dL_leave_212 (lv_at hl 7 rfl) ?_
        refine mi_if_eq hx hb (bt_lt _) 221 dL_leave_214 (by decide) (fun h214 => ?_) (fun h214 => ?_)
        · refine lv_iload hx hb dL_leave_221 (lv_at hl 6 rfl) ?_
          refine mi_if_eq hx hb (bt_lt _) 230 dL_leave_223 (by decide) (fun h223 => ?_) (fun h223 => ?_)
          · refine lv_iload hx hb dL_leave_230 (lv_at hl 5 rfl) ?_
            refine mi_if_eq hx hb (bt_lt _) 239 dL_leave_232 (by decide) (fun h232 => ?_) (fun h232 => ?_)
            · refine lv_iconst (v := nI 0) hx hb dL_leave_239 (by decide) ?_
              exact mx_iret M w hr (v := (nI 0)) ⟨congrArg nI (lv_on h7 (bt_f h214) (by omega) h5 h6 hn9 (show (0 : Nat) = _ by rw [bt_f h223, bt_f h232]; rfl)), rfl⟩ (by decide) (by decide) dL_leave_240
            · refine lv_iconst (v := nI 1) hx hb dL_leave_235 (by decide) ?_
              refine lv_goto (tgt := 240) hx hb dL_leave_236 (by decide) ?_
              exact mx_iret M w hr (v := (nI 1)) ⟨congrArg nI (lv_on h7 (bt_f h214) (by omega) h5 h6 hn9 (show (1 : Nat) = _ by rw [bt_f h223, bt_t h232]; rfl)), rfl⟩ (by decide) (by decide) dL_leave_240
          · refine lv_iconst (v := nI 2) hx hb dL_leave_226 (by decide) ?_
            refine lv_goto (tgt := 240) hx hb dL_leave_227 (by decide) ?_
            exact mx_iret M w hr (v := (nI 2)) ⟨congrArg nI (lv_on h7 (bt_f h214) (by omega) h5 h6 hn9 (show (2 : Nat) = _ by rw [bt_t h223]; rfl)), rfl⟩ (by decide) (by decide) dL_leave_240
        · refine lv_iconst (v := nI 0) hx hb dL_leave_217 (by decide) ?_
          refine lv_goto (tgt := 240) hx hb dL_leave_218 (by decide) ?_
          exact mx_iret M w hr (v := (nI 0)) ⟨congrArg nI (lv_off h7 (bt_t h214) (by omega)), rfl⟩ (by decide) (by decide) dL_leave_240
      · refine lv_iload hx hb dL_leave_160 (lv_at hl 7 rfl) ?_
        refine mi_if_ne hx hb (bt_lt _) 199 dL_leave_162 (by decide) (fun h162 => ?_) (fun h162 => ?_)
        · refine lv_iconst (v := nI 1) hx hb dL_leave_199 (by decide) ?_
          refine lv_goto (tgt := 204) hx hb dL_leave_200 (by decide) ?_
          refine lv_istore (lv' := [(7, .int (nI 1)), (0, .int (nI p)), (1, .int (nI dy)), (2, .ref (ad 8)), (3, .ref (ad 9)), (4, .ref (ad 6)), (5, .int (nI b5.toNat)), (6, .int (nI b6.toNat)), (8, .int (nI k))]) hx hb dL_leave_204 hl (by decide) rfl (fun ls hl => ?_)
          refine lv_iinc (v := nI (k + 1)) (lv' := [(8, .int (nI (k + 1))), (7, .int (nI 1)), (0, .int (nI p)), (1, .int (nI dy)), (2, .ref (ad 8)), (3, .ref (ad 9)), (4, .ref (ad 6)), (5, .int (nI b5.toNat)), (6, .int (nI b6.toNat))]) hx hb dL_leave_206 hl (k := 8) rfl (nI_inc _ 1) (by decide) rfl (fun ls hl => ?_)
          refine lv_goto (tgt := 151) hx hb dL_leave_209 (by decide) ?_
          exact ih (k + 1) b5 b6 true (by omega) h5 h6 (or_1 h7 (bt_t h162))  (by omega) _ _ w ls (lv_sub hl [2, 3, 4, 5, 6, 7, 8, 1, 0] rfl)
        · obtain ⟨q3, q4, q5⟩ := ms k (by omega)
          refine lv_aload_n hx hb dL_leave_165 rfl (lv_at hl 3 rfl) ?_
          refine lv_iconst (v := nI 3) hx hb dL_leave_166 (by decide) ?_
          refine lv_iload hx hb dL_leave_167 (lv_at hl 8 rfl) ?_
          refine mi_mul hx hb dL_leave_169 ?_
          refine ex_iald M w (hB 9 (by decide)) (sh_9 cy ad) (by omega) (by decide) (rV_19 e k) dL_leave_170 ?_
          refine lv_iload_n hx hb dL_leave_171 rfl (lv_at hl 0 rfl) ?_
          refine mi_ne hx hb (by omega) (by omega) 203 dL_leave_172 (by decide) (fun h172 => ?_) (fun h172 => ?_)
          · refine lv_iconst (v := nI 0) hx hb dL_leave_203 (by decide) ?_
            refine lv_istore (lv' := [(7, .int (nI 0)), (0, .int (nI p)), (1, .int (nI dy)), (2, .ref (ad 8)), (3, .ref (ad 9)), (4, .ref (ad 6)), (5, .int (nI b5.toNat)), (6, .int (nI b6.toNat)), (8, .int (nI k))]) hx hb dL_leave_204 hl (by decide) rfl (fun ls hl => ?_)
            refine lv_iinc (v := nI (k + 1)) (lv' := [(8, .int (nI (k + 1))), (7, .int (nI 0)), (0, .int (nI p)), (1, .int (nI dy)), (2, .ref (ad 8)), (3, .ref (ad 9)), (4, .ref (ad 6)), (5, .int (nI b5.toNat)), (6, .int (nI b6.toNat))]) hx hb dL_leave_206 hl (k := 8) rfl (nI_inc _ 1) (by decide) rfl (fun ls hl => ?_)
            refine lv_goto (tgt := 151) hx hb dL_leave_209 (by decide) ?_
            exact ih (k + 1) b5 b6 false (by omega) h5 h6 (or_0 h7 (bt_f h162) (decide_eq_false (fun z => h172 z.1)))  (by omega) _ _ w ls (lv_sub hl [2, 3, 4, 5, 6, 7, 8, 1, 0] rfl)
          · refine lv_aload_n hx hb dL_leave_175 rfl (lv_at hl 3 rfl) ?_
            refine lv_iconst (v := nI 3) hx hb dL_leave_176 (by decide) ?_
            refine lv_iload hx hb dL_leave_177 (lv_at hl 8 rfl) ?_
            refine mi_mul hx hb dL_leave_179 ?_
            refine lv_iconst (v := nI 1) hx hb dL_leave_180 (by decide) ?_
            refine mi_add hx hb dL_leave_181 ?_
            refine ex_iald M w (hB 9 (by decide)) (sh_9 cy ad) (by omega) (by decide) (rV_20 e k) dL_leave_182 ?_
            refine lv_iload_n hx hb dL_leave_183 rfl (lv_at hl 1 rfl) ?_
            refine mi_gt hx hb (by omega) (by omega) 203 dL_leave_184 (by decide) (fun h184 => ?_) (fun h184 => ?_)
            · refine lv_iconst (v := nI 0) hx hb dL_leave_203 (by decide) ?_
              refine lv_istore (lv' := [(7, .int (nI 0)), (0, .int (nI p)), (1, .int (nI dy)), (2, .ref (ad 8)), (3, .ref (ad 9)), (4, .ref (ad 6)), (5, .int (nI b5.toNat)), (6, .int (nI b6.toNat)), (8, .int (nI k))]) hx hb dL_leave_204 hl (by decide) rfl (fun ls hl => ?_)
              refine lv_iinc (v := nI (k + 1)) (lv' := [(8, .int (nI (k + 1))), (7, .int (nI 0)), (0, .int (nI p)), (1, .int (nI dy)), (2, .ref (ad 8)), (3, .ref (ad 9)), (4, .ref (ad 6)), (5, .int (nI b5.toNat)), (6, .int (nI b6.toNat))]) hx hb dL_leave_206 hl (k := 8) rfl (nI_inc _ 1) (by decide) rfl (fun ls hl => ?_)
              refine lv_goto (tgt := 151) hx hb dL_leave_209 (by decide) ?_
              exact ih (k + 1) b5 b6 false (by omega) h5 h6 (or_0 h7 (bt_f h162) (decide_eq_false (fun z => by have := z.2.1; omega)))  (by omega) _ _ w ls (lv_sub hl [2, 3, 4, 5, 6, 7, 8, 1, 0] rfl)
            · refine lv_iload_n hx hb dL_leave_187 rfl (lv_at hl 1 rfl) ?_
              refine lv_aload_n hx hb dL_leave_188 rfl (lv_at hl 3 rfl) ?_
              refine lv_iconst (v := nI 3) hx hb dL_leave_189 (by decide) ?_
              refine lv_iload hx hb dL_leave_190 (lv_at hl 8 rfl) ?_
              refine mi_mul hx hb dL_leave_192 ?_
              refine lv_iconst (v := nI 2) hx hb dL_leave_193 (by decide) ?_
              refine mi_add hx hb dL_leave_194 ?_
              refine ex_iald M w (hB 9 (by decide)) (sh_9 cy ad) (by omega) (by decide) (rV_21 e k) dL_leave_195 ?_
              refine mi_gt hx hb (by omega) (by omega) 203 dL_leave_196 (by decide) (fun h196 => ?_) (fun h196 => ?_)
              · refine lv_iconst (v := nI 0) hx hb dL_leave_203 (by decide) ?_
                refine lv_istore (lv' := [(7, .int (nI 0)), (0, .int (nI p)), (1, .int (nI dy)), (2, .ref (ad 8)), (3, .ref (ad 9)), (4, .ref (ad 6)), (5, .int (nI b5.toNat)), (6, .int (nI b6.toNat)), (8, .int (nI k))]) hx hb dL_leave_204 hl (by decide) rfl (fun ls hl => ?_)
                refine lv_iinc (v := nI (k + 1)) (lv' := [(8, .int (nI (k + 1))), (7, .int (nI 0)), (0, .int (nI p)), (1, .int (nI dy)), (2, .ref (ad 8)), (3, .ref (ad 9)), (4, .ref (ad 6)), (5, .int (nI b5.toNat)), (6, .int (nI b6.toNat))]) hx hb dL_leave_206 hl (k := 8) rfl (nI_inc _ 1) (by decide) rfl (fun ls hl => ?_)
                refine lv_goto (tgt := 151) hx hb dL_leave_209 (by decide) ?_
                exact ih (k + 1) b5 b6 false (by omega) h5 h6 (or_0 h7 (bt_f h162) (decide_eq_false (fun z => by have := z.2.2; omega)))  (by omega) _ _ w ls (lv_sub hl [2, 3, 4, 5, 6, 7, 8, 1, 0] rfl)
              · refine lv_iconst (v := nI 1) hx hb dL_leave_199 (by decide) ?_
                refine lv_goto (tgt := 204) hx hb dL_leave_200 (by decide) ?_
                refine lv_istore (lv' := [(7, .int (nI 1)), (0, .int (nI p)), (1, .int (nI dy)), (2, .ref (ad 8)), (3, .ref (ad 9)), (4, .ref (ad 6)), (5, .int (nI b5.toNat)), (6, .int (nI b6.toNat)), (8, .int (nI k))]) hx hb dL_leave_204 hl (by decide) rfl (fun ls hl => ?_)
                refine lv_iinc (v := nI (k + 1)) (lv' := [(8, .int (nI (k + 1))), (7, .int (nI 1)), (0, .int (nI p)), (1, .int (nI dy)), (2, .ref (ad 8)), (3, .ref (ad 9)), (4, .ref (ad 6)), (5, .int (nI b5.toNat)), (6, .int (nI b6.toNat))]) hx hb dL_leave_206 hl (k := 8) rfl (nI_inc _ 1) (by decide) rfl (fun ls hl => ?_)
                refine lv_goto (tgt := 151) hx hb dL_leave_209 (by decide) ?_
                exact ih (k + 1) b5 b6 true (by omega) h5 h6 (or_2 (decide_eq_true ⟨h172, h184, h196⟩))  (by omega) _ _ w ls (lv_sub hl [2, 3, 4, 5, 6, 7, 8, 1, 0] rfl)
  have cut24 : ∀ (n9 : Nat) (k : Nat) (b5 b6 b7 : Bool) (hk : k ≤ VV e 7 9) (h5 : b5 = anyN (fun k => decide ((VV e 14 k = p ∧ VV e 18 k = 0 ∧ VV e 15 k ≤ dy ∧ dy ≤ VV e 16 k) ∧ ¬ VV e 17 k = 0)) k) (h6 : b6 = anyN (fun k => decide ((VV e 14 k = p ∧ VV e 18 k = 0 ∧ VV e 15 k ≤ dy ∧ dy ≤ VV e 16 k) ∧ VV e 17 k = 0)) k) (h7 : b7 = decide (4 < dy % 7)) (_hm : VV e 7 9 - k < n9) (H : Heap) (locs : List Loc), MO D (AW (C, ad, G cy ad e) sz) s.heap (C, ad, G cy ad e) H locs → ∀ (ls : Array Slot), lv_has ls 10 [(0, .int (nI p)), (1, .int (nI dy)), (2, .ref (ad 8)), (3, .ref (ad 9)), (4, .ref (ad 6)), (5, .int (nI b5.toNat)), (6, .int (nI b6.toNat)), (7, .int (nI b7.toNat)), (8, .int (nI k))] → W p9 l e9 ({ frames := 0, cells := 0, slots := 0, locals := 0 } : Room) s m args below meth c H locs 0 0 (MQ below (va_Qi (fun (r : Int32) (u : WT) => r = nI (lvM (VV e) p dy) ∧ u = (C, ad, G cy ad e)) (WB D cy (AW (C, ad, G cy ad e) sz)) (AW (C, ad, G cy ad e) sz)) args s 0 0 (AW (C, ad, G cy ad e) sz)) (F0 m 24 ls []) := by
    intro n9
    induction n9 with
    | zero => intro k b5 b6 b7 hk h5 h6 h7 _hm; exact absurd _hm (Nat.not_lt_zero _)
    | succ n9 ih =>
      intro k b5 b6 b7 hk h5 h6 h7 _hm H locs w ls hl
      have cut114 : ∀ (b5 b9 : Bool) (h5 : b5 = anyN (fun k => decide ((VV e 14 k = p ∧ VV e 18 k = 0 ∧ VV e 15 k ≤ dy ∧ dy ≤ VV e 16 k) ∧ ¬ VV e 17 k = 0)) (k + 1)) (h30 : k < VV e 7 9) (hb9 : b9 = decide (VV e 14 k = p ∧ VV e 18 k = 0 ∧ VV e 15 k ≤ dy ∧ dy ≤ VV e 16 k)) (H : Heap) (locs : List Loc), MO D (AW (C, ad, G cy ad e) sz) s.heap (C, ad, G cy ad e) H locs → ∀ (ls : Array Slot), lv_has ls 10 [(0, .int (nI p)), (1, .int (nI dy)), (2, .ref (ad 8)), (3, .ref (ad 9)), (4, .ref (ad 6)), (5, .int (nI b5.toNat)), (6, .int (nI b6.toNat)), (7, .int (nI b7.toNat)), (8, .int (nI k)), (9, .int (nI b9.toNat))] → W p9 l e9 ({ frames := 0, cells := 0, slots := 0, locals := 0 } : Room) s m args below meth c H locs 0 0 (MQ below (va_Qi (fun (r : Int32) (u : WT) => r = nI (lvM (VV e) p dy) ∧ u = (C, ad, G cy ad e)) (WB D cy (AW (C, ad, G cy ad e) sz)) (AW (C, ad, G cy ad e) sz)) args s 0 0 (AW (C, ad, G cy ad e) sz)) (F0 m 114 ls []) := by
        intro b5 b9 h5 h30 hb9 H locs w ls hl
        refine lv_iload hx hb dL_leave_114 (lv_at hl 6 rfl) ?_
        refine mi_if_ne hx hb (bt_lt _) 135 dL_leave_116 (by decide) (fun h116 => ?_) (fun h116 => ?_)
        · refine lv_iconst (v := nI 1) hx hb dL_leave_135 (by decide) ?_
          refine lv_goto (tgt := 140) hx hb dL_leave_136 (by decide) ?_
          refine lv_istore (lv' := [(6, .int (nI 1)), (0, .int (nI p)), (1, .int (nI dy)), (2, .ref (ad 8)), (3, .ref (ad 9)), (4, .ref (ad 6)), (5, .int (nI b5.toNat)), (7, .int (nI b7.toNat)), (8, .int (nI k)), (9, .int (nI b9.toNat))]) hx hb dL_leave_140 hl (by decide) rfl (fun ls hl => ?_)
          refine lv_iinc (v := nI (k + 1)) (lv' := [(8, .int (nI (k + 1))), (6, .int (nI 1)), (0, .int (nI p)), (1, .int (nI dy)), (2, .ref (ad 8)), (3, .ref (ad 9)), (4, .ref (ad 6)), (5, .int (nI b5.toNat)), (7, .int (nI b7.toNat)), (9, .int (nI b9.toNat))]) hx hb dL_leave_142 hl (k := 8) rfl (nI_inc _ 1) (by decide) rfl (fun ls hl => ?_)
          refine lv_goto (tgt := 24) hx hb dL_leave_145 (by decide) ?_
          exact ih (k + 1) b5 true b7 (by omega) h5 (anyS_1 h6 (bt_t h116)) h7  (by omega) _ _ w ls (lv_sub hl [2, 3, 4, 5, 6, 7, 1, 8, 0] rfl)
        · refine lv_iload hx hb dL_leave_119 (lv_at hl 9 rfl) ?_
          refine mi_if_eq hx hb (bt_lt _) 139 dL_leave_121 (by decide) (fun h121 => ?_) (fun h121 => ?_)
          · refine lv_iconst (v := nI 0) hx hb dL_leave_139 (by decide) ?_
            refine lv_istore (lv' := [(6, .int (nI 0)), (0, .int (nI p)), (1, .int (nI dy)), (2, .ref (ad 8)), (3, .ref (ad 9)), (4, .ref (ad 6)), (5, .int (nI b5.toNat)), (7, .int (nI b7.toNat)), (8, .int (nI k)), (9, .int (nI b9.toNat))]) hx hb dL_leave_140 hl (by decide) rfl (fun ls hl => ?_)
            refine lv_iinc (v := nI (k + 1)) (lv' := [(8, .int (nI (k + 1))), (6, .int (nI 0)), (0, .int (nI p)), (1, .int (nI dy)), (2, .ref (ad 8)), (3, .ref (ad 9)), (4, .ref (ad 6)), (5, .int (nI b5.toNat)), (7, .int (nI b7.toNat)), (9, .int (nI b9.toNat))]) hx hb dL_leave_142 hl (k := 8) rfl (nI_inc _ 1) (by decide) rfl (fun ls hl => ?_)
            refine lv_goto (tgt := 24) hx hb dL_leave_145 (by decide) ?_
            exact ih (k + 1) b5 false b7 (by omega) h5 (anyS_0 h6 (bt_f h116) (decide_eq_false (fun z => of_decide_eq_false (hb9.symm.trans (bt_f h121)) z.1))) h7  (by omega) _ _ w ls (lv_sub hl [2, 3, 4, 5, 6, 7, 1, 8, 0] rfl)
          · obtain ⟨q3, q4, q5, q6, q7⟩ := mr k (by omega)
            refine lv_aload_n hx hb dL_leave_124 rfl (lv_at hl 2 rfl) ?_
            refine lv_iconst (v := nI 5) hx hb dL_leave_125 (by decide) ?_
            refine lv_iload hx hb dL_leave_126 (lv_at hl 8 rfl) ?_
            refine mi_mul hx hb dL_leave_128 ?_
            refine lv_iconst (v := nI 3) hx hb dL_leave_129 (by decide) ?_
            refine mi_add hx hb dL_leave_130 ?_
            refine ex_iald M w (hB 8 (by decide)) (sh_8 cy ad) (by omega) (by decide) (rV_17 e k) dL_leave_131 ?_
            refine mi_if_ne hx hb (by omega) 139 dL_leave_132 (by decide) (fun h132 => ?_) (fun h132 => ?_)
            · refine lv_iconst (v := nI 0) hx hb dL_leave_139 (by decide) ?_
              refine lv_istore (lv' := [(6, .int (nI 0)), (0, .int (nI p)), (1, .int (nI dy)), (2, .ref (ad 8)), (3, .ref (ad 9)), (4, .ref (ad 6)), (5, .int (nI b5.toNat)), (7, .int (nI b7.toNat)), (8, .int (nI k)), (9, .int (nI b9.toNat))]) hx hb dL_leave_140 hl (by decide) rfl (fun ls hl => ?_)
              refine lv_iinc (v := nI (k + 1)) (lv' := [(8, .int (nI (k + 1))), (6, .int (nI 0)), (0, .int (nI p)), (1, .int (nI dy)), (2, .ref (ad 8)), (3, .ref (ad 9)), (4, .ref (ad 6)), (5, .int (nI b5.toNat)), (7, .int (nI b7.toNat)), (9, .int (nI b9.toNat))]) hx hb dL_leave_142 hl (k := 8) rfl (nI_inc _ 1) (by decide) rfl (fun ls hl => ?_)
              refine lv_goto (tgt := 24) hx hb dL_leave_145 (by decide) ?_
              exact ih (k + 1) b5 false b7 (by omega) h5 (anyS_0 h6 (bt_f h116) (decide_eq_false (fun z => h132 z.2))) h7  (by omega) _ _ w ls (lv_sub hl [2, 3, 4, 5, 6, 7, 1, 8, 0] rfl)
            · refine lv_iconst (v := nI 1) hx hb dL_leave_135 (by decide) ?_
              refine lv_goto (tgt := 140) hx hb dL_leave_136 (by decide) ?_
              refine lv_istore (lv' := [(6, .int (nI 1)), (0, .int (nI p)), (1, .int (nI dy)), (2, .ref (ad 8)), (3, .ref (ad 9)), (4, .ref (ad 6)), (5, .int (nI b5.toNat)), (7, .int (nI b7.toNat)), (8, .int (nI k)), (9, .int (nI b9.toNat))]) hx hb dL_leave_140 hl (by decide) rfl (fun ls hl => ?_)
              refine lv_iinc (v := nI (k + 1)) (lv' := [(8, .int (nI (k + 1))), (6, .int (nI 1)), (0, .int (nI p)), (1, .int (nI dy)), (2, .ref (ad 8)), (3, .ref (ad 9)), (4, .ref (ad 6)), (5, .int (nI b5.toNat)), (7, .int (nI b7.toNat)), (9, .int (nI b9.toNat))]) hx hb dL_leave_142 hl (k := 8) rfl (nI_inc _ 1) (by decide) rfl (fun ls hl => ?_)
              refine lv_goto (tgt := 24) hx hb dL_leave_145 (by decide) ?_
              exact ih (k + 1) b5 true b7 (by omega) h5 (anyS_2 (decide_eq_true ⟨of_decide_eq_true (hb9.symm.trans (bt_t h121)), h132⟩)) h7  (by omega) _ _ w ls (lv_sub hl [2, 3, 4, 5, 6, 7, 1, 8, 0] rfl)
      have cut85 : ∀ (b9 : Bool) (h30 : k < VV e 7 9) (hb9 : b9 = decide (VV e 14 k = p ∧ VV e 18 k = 0 ∧ VV e 15 k ≤ dy ∧ dy ≤ VV e 16 k)) (H : Heap) (locs : List Loc), MO D (AW (C, ad, G cy ad e) sz) s.heap (C, ad, G cy ad e) H locs → ∀ (ls : Array Slot), lv_has ls 10 [(0, .int (nI p)), (1, .int (nI dy)), (2, .ref (ad 8)), (3, .ref (ad 9)), (4, .ref (ad 6)), (5, .int (nI b5.toNat)), (6, .int (nI b6.toNat)), (7, .int (nI b7.toNat)), (8, .int (nI k)), (9, .int (nI b9.toNat))] → W p9 l e9 ({ frames := 0, cells := 0, slots := 0, locals := 0 } : Room) s m args below meth c H locs 0 0 (MQ below (va_Qi (fun (r : Int32) (u : WT) => r = nI (lvM (VV e) p dy) ∧ u = (C, ad, G cy ad e)) (WB D cy (AW (C, ad, G cy ad e) sz)) (AW (C, ad, G cy ad e) sz)) args s 0 0 (AW (C, ad, G cy ad e) sz)) (F0 m 85 ls []) := by
        intro b9 h30 hb9 H locs w ls hl
        refine lv_iload hx hb dL_leave_85 (lv_at hl 5 rfl) ?_
        refine mi_if_ne hx hb (bt_lt _) 107 dL_leave_87 (by decide) (fun h87 => ?_) (fun h87 => ?_)
        · refine lv_iconst (v := nI 1) hx hb dL_leave_107 (by decide) ?_
          refine lv_goto (tgt := 112) hx hb dL_leave_108 (by decide) ?_
          refine lv_istore (lv' := [(5, .int (nI 1)), (0, .int (nI p)), (1, .int (nI dy)), (2, .ref (ad 8)), (3, .ref (ad 9)), (4, .ref (ad 6)), (6, .int (nI b6.toNat)), (7, .int (nI b7.toNat)), (8, .int (nI k)), (9, .int (nI b9.toNat))]) hx hb dL_leave_112 hl (by decide) rfl (fun ls hl => ?_)
          exact cut114 true b9 (anyS_1 h5 (bt_t h87)) h30 hb9  _ _ w ls (lv_sub hl [1, 2, 3, 4, 5, 0, 6, 7, 8, 9] rfl)
        · refine lv_iload hx hb dL_leave_90 (lv_at hl 9 rfl) ?_
          refine mi_if_eq hx hb (bt_lt _) 111 dL_leave_92 (by decide) (fun h92 => ?_) (fun h92 => ?_)
          · refine lv_iconst (v := nI 0) hx hb dL_leave_111 (by decide) ?_
            refine lv_istore (lv' := [(5, .int (nI 0)), (0, .int (nI p)), (1, .int (nI dy)), (2, .ref (ad 8)), (3, .ref (ad 9)), (4, .ref (ad 6)), (6, .int (nI b6.toNat)), (7, .int (nI b7.toNat)), (8, .int (nI k)), (9, .int (nI b9.toNat))]) hx hb dL_leave_112 hl (by decide) rfl (fun ls hl => ?_)
            exact cut114 false b9 (anyS_0 h5 (bt_f h87) (decide_eq_false (fun z => of_decide_eq_false (hb9.symm.trans (bt_f h92)) z.1))) h30 hb9  _ _ w ls (lv_sub hl [1, 2, 3, 4, 5, 0, 6, 7, 8, 9] rfl)
          · obtain ⟨q3, q4, q5, q6, q7⟩ := mr k (by omega)
            refine lv_aload_n hx hb dL_leave_95 rfl (lv_at hl 2 rfl) ?_
            refine lv_iconst (v := nI 5) hx hb dL_leave_96 (by decide) ?_
            refine lv_iload hx hb dL_leave_97 (lv_at hl 8 rfl) ?_
            refine mi_mul hx hb dL_leave_99 ?_
            refine lv_iconst (v := nI 3) hx hb dL_leave_100 (by decide) ?_
            refine mi_add hx hb dL_leave_101 ?_
            refine ex_iald M w (hB 8 (by decide)) (sh_8 cy ad) (by omega) (by decide) (rV_17 e k) dL_leave_102 ?_
            refine lv_iconst (v := nI 1) hx hb dL_leave_103 (by decide) ?_
            refine mi_ne hx hb (by omega) (by decide) 111 dL_leave_104 (by decide) (fun h104 => ?_) (fun h104 => ?_)
            · refine lv_iconst (v := nI 0) hx hb dL_leave_111 (by decide) ?_
              refine lv_istore (lv' := [(5, .int (nI 0)), (0, .int (nI p)), (1, .int (nI dy)), (2, .ref (ad 8)), (3, .ref (ad 9)), (4, .ref (ad 6)), (6, .int (nI b6.toNat)), (7, .int (nI b7.toNat)), (8, .int (nI k)), (9, .int (nI b9.toNat))]) hx hb dL_leave_112 hl (by decide) rfl (fun ls hl => ?_)
              exact cut114 false b9 (anyS_0 h5 (bt_f h87) (decide_eq_false (fun z => z.2 (by omega)))) h30 hb9  _ _ w ls (lv_sub hl [1, 2, 3, 4, 5, 0, 6, 7, 8, 9] rfl)
            · refine lv_iconst (v := nI 1) hx hb dL_leave_107 (by decide) ?_
              refine lv_goto (tgt := 112) hx hb dL_leave_108 (by decide) ?_
              refine lv_istore (lv' := [(5, .int (nI 1)), (0, .int (nI p)), (1, .int (nI dy)), (2, .ref (ad 8)), (3, .ref (ad 9)), (4, .ref (ad 6)), (6, .int (nI b6.toNat)), (7, .int (nI b7.toNat)), (8, .int (nI k)), (9, .int (nI b9.toNat))]) hx hb dL_leave_112 hl (by decide) rfl (fun ls hl => ?_)
              exact cut114 true b9 (anyS_2 (decide_eq_true ⟨of_decide_eq_true (hb9.symm.trans (bt_t h92)), by omega⟩)) h30 hb9  _ _ w ls (lv_sub hl [1, 2, 3, 4, 5, 0, 6, 7, 8, 9] rfl)
      refine lv_iload hx hb dL_leave_24 (lv_at hl 8 rfl) ?_
      refine lv_aload hx hb dL_leave_26 (lv_at hl 4 rfl) ?_
      refine lv_iconst (v := nI 2) hx hb dL_leave_28 (by decide) ?_
      refine ex_iald M w (hB 6 (by decide)) (sh_6 cy ad) (by omega) (by decide) (rV_q2 e) dL_leave_29 ?_
      refine mi_ge hx hb (by omega) (by omega) 148 dL_leave_30 (by decide) (fun h30 => ?_) (fun h30 => ?_)
      · refine lv_iconst (v := nI 0) hx hb dL_leave_148 (by decide) ?_
        refine lv_istore (lv' := [(8, .int (nI 0)), (0, .int (nI p)), (1, .int (nI dy)), (2, .ref (ad 8)), (3, .ref (ad 9)), (4, .ref (ad 6)), (5, .int (nI b5.toNat)), (6, .int (nI b6.toNat)), (7, .int (nI b7.toNat))]) hx hb dL_leave_149 hl (by decide) rfl (fun ls hl => ?_)
        exact cut151 (VV e 7 15 - 0 + 1) 0 b5 b6 b7 (Nat.zero_le _) (by rw [show VV e 7 9 = k by omega]; exact h5) (by rw [show VV e 7 9 = k by omega]; exact h6) (by rw [h7]; exact (Bool.or_false _).symm)  (by omega) _ _ w ls (lv_sub hl [1, 2, 3, 4, 5, 6, 7, 8, 0] rfl)
      · obtain ⟨q3, q4, q5, q6, q7⟩ := mr k (by omega)
        refine lv_aload_n hx hb dL_leave_33 rfl (lv_at hl 2 rfl) ?_
        refine lv_iconst (v := nI 5) hx hb dL_leave_34 (by decide) ?_
        refine lv_iload hx hb dL_leave_35 (lv_at hl 8 rfl) ?_
        refine mi_mul hx hb dL_leave_37 ?_
        refine ex_iald M w (hB 8 (by decide)) (sh_8 cy ad) (by omega) (by decide) (rV_14 e k) dL_leave_38 ?_
        refine lv_iload_n hx hb dL_leave_39 rfl (lv_at hl 0 rfl) ?_
        refine mi_ne hx hb (by omega) (by omega) 82 dL_leave_40 (by decide) (fun h40 => ?_) (fun h40 => ?_)
        · refine lv_iconst (v := nI 0) hx hb dL_leave_82 (by decide) ?_
          refine lv_istore (lv' := [(9, .int (nI 0)), (0, .int (nI p)), (1, .int (nI dy)), (2, .ref (ad 8)), (3, .ref (ad 9)), (4, .ref (ad 6)), (5, .int (nI b5.toNat)), (6, .int (nI b6.toNat)), (7, .int (nI b7.toNat)), (8, .int (nI k))]) hx hb dL_leave_83 hl (by decide) rfl (fun ls hl => ?_)
          exact cut85 false (by omega) (decide_eq_false (fun z => h40 z.1)).symm  _ _ w ls (lv_sub hl [1, 2, 3, 4, 5, 6, 7, 8, 9, 0] rfl)
        · refine lv_aload_n hx hb dL_leave_43 rfl (lv_at hl 2 rfl) ?_
          refine lv_iconst (v := nI 5) hx hb dL_leave_44 (by decide) ?_
          refine lv_iload hx hb dL_leave_45 (lv_at hl 8 rfl) ?_
          refine mi_mul hx hb dL_leave_47 ?_
          refine lv_iconst (v := nI 4) hx hb dL_leave_48 (by decide) ?_
          refine mi_add hx hb dL_leave_49 ?_
          refine ex_iald M w (hB 8 (by decide)) (sh_8 cy ad) (by omega) (by decide) (rV_18 e k) dL_leave_50 ?_
          refine mi_if_ne hx hb (by omega) 82 dL_leave_51 (by decide) (fun h51 => ?_) (fun h51 => ?_)
          · refine lv_iconst (v := nI 0) hx hb dL_leave_82 (by decide) ?_
            refine lv_istore (lv' := [(9, .int (nI 0)), (0, .int (nI p)), (1, .int (nI dy)), (2, .ref (ad 8)), (3, .ref (ad 9)), (4, .ref (ad 6)), (5, .int (nI b5.toNat)), (6, .int (nI b6.toNat)), (7, .int (nI b7.toNat)), (8, .int (nI k))]) hx hb dL_leave_83 hl (by decide) rfl (fun ls hl => ?_)
            exact cut85 false (by omega) (decide_eq_false (fun z => h51 z.2.1)).symm  _ _ w ls (lv_sub hl [1, 2, 3, 4, 5, 6, 7, 8, 9, 0] rfl)
          · refine lv_aload_n hx hb dL_leave_54 rfl (lv_at hl 2 rfl) ?_
            refine lv_iconst (v := nI 5) hx hb dL_leave_55 (by decide) ?_
            refine lv_iload hx hb dL_leave_56 (lv_at hl 8 rfl) ?_
            refine mi_mul hx hb dL_leave_58 ?_
            refine lv_iconst (v := nI 1) hx hb dL_leave_59 (by decide) ?_
            refine mi_add hx hb dL_leave_60 ?_
            refine ex_iald M w (hB 8 (by decide)) (sh_8 cy ad) (by omega) (by decide) (rV_15 e k) dL_leave_61 ?_
            refine lv_iload_n hx hb dL_leave_62 rfl (lv_at hl 1 rfl) ?_
            refine mi_gt hx hb (by omega) (by omega) 82 dL_leave_63 (by decide) (fun h63 => ?_) (fun h63 => ?_)
            · refine lv_iconst (v := nI 0) hx hb dL_leave_82 (by decide) ?_
              refine lv_istore (lv' := [(9, .int (nI 0)), (0, .int (nI p)), (1, .int (nI dy)), (2, .ref (ad 8)), (3, .ref (ad 9)), (4, .ref (ad 6)), (5, .int (nI b5.toNat)), (6, .int (nI b6.toNat)), (7, .int (nI b7.toNat)), (8, .int (nI k))]) hx hb dL_leave_83 hl (by decide) rfl (fun ls hl => ?_)
              exact cut85 false (by omega) (decide_eq_false (fun z => by have := z.2.2.1; omega)).symm  _ _ w ls (lv_sub hl [1, 2, 3, 4, 5, 6, 7, 8, 9, 0] rfl)
            · refine lv_iload_n hx hb dL_leave_66 rfl (lv_at hl 1 rfl) ?_
              refine lv_aload_n hx hb dL_leave_67 rfl (lv_at hl 2 rfl) ?_
              refine lv_iconst (v := nI 5) hx hb dL_leave_68 (by decide) ?_
              refine lv_iload hx hb dL_leave_69 (lv_at hl 8 rfl) ?_
              refine mi_mul hx hb dL_leave_71 ?_
              refine lv_iconst (v := nI 2) hx hb dL_leave_72 (by decide) ?_
              refine mi_add hx hb dL_leave_73 ?_
              refine ex_iald M w (hB 8 (by decide)) (sh_8 cy ad) (by omega) (by decide) (rV_16 e k) dL_leave_74 ?_
              refine mi_gt hx hb (by omega) (by omega) 82 dL_leave_75 (by decide) (fun h75 => ?_) (fun h75 => ?_)
              · refine lv_iconst (v := nI 0) hx hb dL_leave_82 (by decide) ?_
                refine lv_istore (lv' := [(9, .int (nI 0)), (0, .int (nI p)), (1, .int (nI dy)), (2, .ref (ad 8)), (3, .ref (ad 9)), (4, .ref (ad 6)), (5, .int (nI b5.toNat)), (6, .int (nI b6.toNat)), (7, .int (nI b7.toNat)), (8, .int (nI k))]) hx hb dL_leave_83 hl (by decide) rfl (fun ls hl => ?_)
                exact cut85 false (by omega) (decide_eq_false (fun z => by have := z.2.2.2; omega)).symm  _ _ w ls (lv_sub hl [1, 2, 3, 4, 5, 6, 7, 8, 9, 0] rfl)
              · refine lv_iconst (v := nI 1) hx hb dL_leave_78 (by decide) ?_
                refine lv_goto (tgt := 83) hx hb dL_leave_79 (by decide) ?_
                refine lv_istore (lv' := [(9, .int (nI 1)), (0, .int (nI p)), (1, .int (nI dy)), (2, .ref (ad 8)), (3, .ref (ad 9)), (4, .ref (ad 6)), (5, .int (nI b5.toNat)), (6, .int (nI b6.toNat)), (7, .int (nI b7.toNat)), (8, .int (nI k))]) hx hb dL_leave_83 hl (by decide) rfl (fun ls hl => ?_)
                exact cut85 true (by omega) (decide_eq_true ⟨h40, h51, h63, h75⟩).symm  _ _ w ls (lv_sub hl [1, 2, 3, 4, 5, 6, 7, 8, 9, 0] rfl)
  have hl : lv_has ls 10 [(0, .int (nI p)), (1, .int (nI dy)), (2, .ref (ad 8)), (3, .ref (ad 9)), (4, .ref (ad 6))] := hl
  refine lv_iconst (v := nI 0) hx hb dL_leave_0 (by decide) ?_
  refine lv_istore (lv' := [(5, .int (nI 0)), (0, .int (nI p)), (1, .int (nI dy)), (2, .ref (ad 8)), (3, .ref (ad 9)), (4, .ref (ad 6))]) hx hb dL_leave_1 hl (by decide) rfl (fun ls hl => ?_)
  refine lv_iconst (v := nI 0) hx hb dL_leave_3 (by decide) ?_
  refine lv_istore (lv' := [(6, .int (nI 0)), (5, .int (nI 0)), (0, .int (nI p)), (1, .int (nI dy)), (2, .ref (ad 8)), (3, .ref (ad 9)), (4, .ref (ad 6))]) hx hb dL_leave_4 hl (by decide) rfl (fun ls hl => ?_)
  refine lv_iload_n hx hb dL_leave_6 rfl (lv_at hl 3 rfl) ?_
  refine lv_bipush (v := nI 7) hx hb dL_leave_7 (by decide) ?_
  refine mi_rem hx hb (by omega) (by decide) (by decide) dL_leave_9 ?_
  refine lv_iconst (v := nI 4) hx hb dL_leave_10 (by decide) ?_
  refine mi_le hx hb (by omega) (by decide) 18 dL_leave_11 (by decide) (fun h11 => ?_) (fun h11 => ?_)
  · refine lv_iconst (v := nI 0) hx hb dL_leave_18 (by decide) ?_
    refine lv_istore (lv' := [(7, .int (nI 0)), (6, .int (nI 0)), (5, .int (nI 0)), (0, .int (nI p)), (1, .int (nI dy)), (2, .ref (ad 8)), (3, .ref (ad 9)), (4, .ref (ad 6))]) hx hb dL_leave_19 hl (by decide) rfl (fun ls hl => ?_)
    refine lv_iconst (v := nI 0) hx hb dL_leave_21 (by decide) ?_
    refine lv_istore (lv' := [(8, .int (nI 0)), (7, .int (nI 0)), (6, .int (nI 0)), (5, .int (nI 0)), (0, .int (nI p)), (1, .int (nI dy)), (2, .ref (ad 8)), (3, .ref (ad 9)), (4, .ref (ad 6))]) hx hb dL_leave_22 hl (by decide) rfl (fun ls hl => ?_)
    exact cut24 (VV e 7 9 - 0 + 1) 0 false false false (Nat.zero_le _) rfl rfl (decide_eq_false (by omega)).symm  (by omega) _ _ w ls (lv_sub hl [4, 5, 6, 7, 8, 3, 2, 1, 0] rfl)
  · refine lv_iconst (v := nI 1) hx hb dL_leave_14 (by decide) ?_
    refine lv_goto (tgt := 19) hx hb dL_leave_15 (by decide) ?_
    refine lv_istore (lv' := [(7, .int (nI 1)), (6, .int (nI 0)), (5, .int (nI 0)), (0, .int (nI p)), (1, .int (nI dy)), (2, .ref (ad 8)), (3, .ref (ad 9)), (4, .ref (ad 6))]) hx hb dL_leave_19 hl (by decide) rfl (fun ls hl => ?_)
    refine lv_iconst (v := nI 0) hx hb dL_leave_21 (by decide) ?_
    refine lv_istore (lv' := [(8, .int (nI 0)), (7, .int (nI 1)), (6, .int (nI 0)), (5, .int (nI 0)), (0, .int (nI p)), (1, .int (nI dy)), (2, .ref (ad 8)), (3, .ref (ad 9)), (4, .ref (ad 6))]) hx hb dL_leave_22 hl (by decide) rfl (fun ls hl => ?_)
    exact cut24 (VV e 7 9 - 0 + 1) 0 false false true (Nat.zero_le _) rfl rfl (decide_eq_true (by omega)).symm  (by omega) _ _ w ls (lv_sub hl [4, 5, 6, 7, 8, 3, 2, 1, 0] rfl)
