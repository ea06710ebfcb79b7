/-! ===== the law's go ===== -/
theorem sub_le0 {a b : Nat} (ha : a < 1073741824) (hb : b < 1073741824) : nI a - nI b ≤ 0 ↔ a ≤ b := by
  rw [Int32.le_iff_toInt_le, pk_sub_toInt ha hb, show (0 : Int32).toInt = 0 from rfl]
  omega
theorem add_sub9 (x : Nat) {a b : Nat} (h : b ≤ a) : nI x + (nI a - nI b) = nI (x + (a - b)) := by rw [pk_sub h, nI_add]
theorem clrLn_0 (x : Nat → Nat → Nat) : clrLn x 0 0 = x := by
  funext c i
  exact if_neg (by omega)
theorem clrLn_s1 (x : Nat → Nat → Nat) (k : Nat) : es (clrLn x k 0) 11 k 0 = clrLn x (k + 1) 0 := by
  funext c i
  unfold es clrLn
  by_cases h : c = 11 ∧ i = k
  · rw [if_pos h, if_pos (by omega)]
  · rw [if_neg h]
    by_cases h2 : (c = 11 ∧ i < k) ∨ (c = 12 ∧ i < 0)
    · rw [if_pos h2, if_pos (by omega)]
    · rw [if_neg h2, if_neg (by omega)]
theorem clrLn_s2 (x : Nat → Nat → Nat) (k : Nat) : es (clrLn x 64 k) 12 k 0 = clrLn x 64 (k + 1) := by
  funext c i
  unfold es clrLn
  by_cases h : c = 12 ∧ i = k
  · rw [if_pos h, if_pos (by omega)]
  · rw [if_neg h]
    by_cases h2 : (c = 11 ∧ i < 64) ∨ (c = 12 ∧ i < k)
    · rw [if_pos h2, if_pos (by omega)]
    · rw [if_neg h2, if_neg (by omega)]
theorem exLn_0 (x : Nat → Nat → Nat) (d : Nat) : exLn x d 0 = x := by
  funext c i
  unfold exLn
  rw [if_neg (by omega)]
  by_cases z : c = 12 ∧ i = 3
  · rw [if_pos z, z.1, z.2]; rfl
  · rw [if_neg z]
theorem exLn_at (x : Nat → Nat → Nat) (d m : Nat) : exLn x d m 11 m = x 11 m := by
  unfold exLn
  rw [if_neg (by omega), if_neg (by omega)]
theorem exLn_s1 {x : Nat → Nat → Nat} {d m : Nat} (h : 0 < m ∧ exM m = d) : es (es (exLn x d m) 12 3 (exLn x d m 12 3 + x 11 m)) 11 m 0 = exLn x d (m + 1) := by
  funext c i
  by_cases h1 : c = 11 ∧ i = m
  · rw [es_at, if_pos h1]
    unfold exLn
    rw [h1.1, h1.2, if_pos ⟨rfl, by omega, h⟩]
  · rw [es_at, if_neg h1, es_at]
    by_cases h2 : c = 12 ∧ i = 3
    · rw [if_pos h2, h2.1, h2.2]
      unfold exLn
      rw [if_neg (fun z => absurd z.1 (by decide)), if_pos ⟨rfl, rfl⟩, if_neg (fun z => absurd z.1 (by decide)), if_pos ⟨rfl, rfl⟩, smN_0s, if_pos h, Nat.add_assoc]
    · rw [if_neg h2]
      unfold exLn
      by_cases h3 : c = 11 ∧ i < m ∧ 0 < i ∧ exM i = d
      · rw [if_pos h3, if_pos ⟨h3.1, by omega, h3.2.2⟩]
      · rw [if_neg h3, if_neg h2, if_neg (fun z => h3 ⟨z.1, by omega, z.2.2⟩), if_neg h2]
theorem exLn_s0 {x : Nat → Nat → Nat} {d m : Nat} (h : ¬ (0 < m ∧ exM m = d)) : es (es (exLn x d m) 12 3 (exLn x d m 12 3 + 0)) 11 m (x 11 m) = exLn x d (m + 1) := by
  funext c i
  by_cases h1 : c = 11 ∧ i = m
  · rw [es_at, if_pos h1]
    unfold exLn
    rw [h1.1, h1.2, if_neg (fun z => h z.2.2), if_neg (fun z => absurd z.1 (by decide))]
  · rw [es_at, if_neg h1, es_at]
    by_cases h2 : c = 12 ∧ i = 3
    · rw [if_pos h2, h2.1, h2.2]
      unfold exLn
      rw [if_neg (fun z => absurd z.1 (by decide)), if_pos ⟨rfl, rfl⟩, if_neg (fun z => absurd z.1 (by decide)), if_pos ⟨rfl, rfl⟩, smN_0s, if_neg h, Nat.add_assoc]
    · rw [if_neg h2]
      unfold exLn
      by_cases h3 : c = 11 ∧ i < m ∧ 0 < i ∧ exM i = d
      · rw [if_pos h3, if_pos ⟨h3.1, by omega, h3.2.2⟩]
      · rw [if_neg h3, if_neg h2, if_neg (fun z => h3 ⟨z.1, by omega, z.2.2⟩), if_neg h2]

set_option maxHeartbeats 4000000 in
set_option maxRecDepth 100000 in
/-- LeavebankLaw.go(p, last, h, r, i, o, l, t, q) -/
theorem kL_go (l : Launch) (D : va_G) (cy : Nat → ClassId) (C : List Nat) (ad : Nat → Nat) (e : Nat → Nat → Nat) (sz : Nat) (p t0 : Nat) (hB : ∀ k, k < 13 → k ∈ C) (hM : MW (VV e)) (hn2 : VV e 7 9 ≤ 12 ∧ VV e 7 15 ≤ 8 ∧ VV e 7 19 ≤ 10) (hp : p < 2) (hP : MWp (VV e) p) (hD : RD (VV e) p) (hs0 : VV e 8 p ≤ 1800) (ht : t0 < 1890) : Met l yL_go wsL_go ({ frames := 1, cells := 0, slots := 0, locals := 29 } : Room) (PreM D cy (C, ad, G cy ad e) sz [.int (nI p), .int (nI t0), .ref (ad 7), .ref (ad 8), .ref (ad 9), .ref (ad 10), .ref (ad 11), .ref (ad 12), .ref (ad 6)]) (va_Qv (fun (u : WT) => u = (C, ad, G cy ad (goL (VV e) e p (t0 + 1 - VV e 8 p)))) (WB D cy (AW (C, ad, G cy ad e) sz)) (AW (C, ad, G cy ad e) sz)) 0 0 (AW (C, ad, G cy ad e) sz) := by
  refine mx_start (cc := cL_go) (maxL := 14) (ret := none) (by decide) rfl (Nat.le_of_ble_eq_true rfl) ?_
  intro p9 e9 s m args below meth c hsz hr hnm M w ls hl
  have hx := M.1.1
  have hb := M.1.2.1
  obtain ⟨hn3, hn4, hn5⟩ := id hn2
  have cut51 : ∀ (n9 : Nat) (nn dy : Nat) (hdy : dy = VV e 8 p + nn) (hdl : dy ≤ t0 + 1 ∨ nn = 0) (_hm : 1902 - dy < n9) (H : Heap) (locs : List Loc), MO D (AW (C, ad, G cy ad e) sz) s.heap (C, ad, G cy ad (goL (VV e) e p nn)) H locs → ∀ (ls : Array Slot), lv_has ls 14 [(0, .int (nI p)), (1, .int (nI t0)), (2, .ref (ad 7)), (3, .ref (ad 8)), (4, .ref (ad 9)), (5, .ref (ad 10)), (6, .ref (ad 11)), (7, .ref (ad 12)), (8, .ref (ad 6)), (9, .int (nI dy))] → W p9 l e9 ({ frames := 1, cells := 0, slots := 0, locals := 29 } : Room) s m args below meth c H locs 0 0 (MQ below (va_Qv (fun (u : WT) => u = (C, ad, G cy ad (goL (VV e) e p (t0 + 1 - VV e 8 p)))) (WB D cy (AW (C, ad, G cy ad e) sz)) (AW (C, ad, G cy ad e) sz)) args s 0 0 (AW (C, ad, G cy ad e) sz)) (F0 m 51 ls []) := by
    intro n9
    induction n9 with
    | zero => intro nn dy hdy hdl _hm; exact absurd _hm (Nat.not_lt_zero _)
    | succ n9 ih =>
      intro nn dy hdy hdl _hm H locs w ls hl
      have hO : OffL e (goL (VV e) e p nn) := OffL_go _ _ _ _
      have hz : OffM (VV e) (goM (VV e) p nn) := OffM_go _ _ _
      have hnn : VV e 8 p + nn ≤ 1900 := by omega
      have hL : LL (goL (VV e) e p nn) (goM (VV e) p nn) dy := by rw [hdy]; exact LL_go (VV e) e p nn hnn
      have hG := GM_go hM hP nn
      have hO1 : OffL e (mthL (VV e) (goL (VV e) e p nn) p dy) := hO.tr (OffL_mth _ _ _ _)
      have hO2 : OffL e (expL (mthL (VV e) (goL (VV e) e p nn) p dy) dy) := hO1.tr (OffL_exp _ _)
      have hO3 : OffL e (takL (expL (mthL (VV e) (goL (VV e) e p nn) p dy) dy) (240 * lvM (VV e) p dy)) := hO2.tr (OffL_tak _ _)
      have q0 := hL.2.1.1
      have q0b := hG.2.2.1
      have qP := ptsM_le hP dy
      have qR := hP.2.1.2
      have qlv := lvM_le (VV e) p dy
      have hG1 := GM_mth hG dy
      have hG2 := GM_exp hG1 dy
      have hG3 := GM_leaves hG2 (240 * lvM (VV e) p dy)
      have cut438 : ∀  (h54 : dy ≤ t0) (H : Heap) (locs : List Loc), MO D (AW (C, ad, G cy ad e) sz) s.heap (C, ad, G cy ad (dayL (VV e) (goL (VV e) e p nn) p dy)) H locs → ∀ (ls : Array Slot), lv_has ls 14 [(0, .int (nI p)), (1, .int (nI t0)), (2, .ref (ad 7)), (3, .ref (ad 8)), (4, .ref (ad 9)), (5, .ref (ad 10)), (6, .ref (ad 11)), (7, .ref (ad 12)), (8, .ref (ad 6)), (9, .int (nI dy))] → W p9 l e9 ({ frames := 1, cells := 0, slots := 0, locals := 29 } : Room) s m args below meth c H locs 0 0 (MQ below (va_Qv (fun (u : WT) => u = (C, ad, G cy ad (goL (VV e) e p (t0 + 1 - VV e 8 p)))) (WB D cy (AW (C, ad, G cy ad e) sz)) (AW (C, ad, G cy ad e) sz)) args s 0 0 (AW (C, ad, G cy ad e) sz)) (F0 m 438 ls []) := by
        intro h54 H locs w ls hl
        refine lv_iinc (v := nI (dy + 1)) (lv' := [(9, .int (nI (dy + 1))), (0, .int (nI p)), (1, .int (nI t0)), (2, .ref (ad 7)), (3, .ref (ad 8)), (4, .ref (ad 9)), (5, .ref (ad 10)), (6, .ref (ad 11)), (7, .ref (ad 12)), (8, .ref (ad 6))]) hx hb dL_go_438 hl (k := 9) rfl (nI_inc _ 1) (by decide) rfl (fun ls hl => ?_)
        refine lv_goto (tgt := 51) hx hb dL_go_441 (by decide) ?_
        exact ih (nn + 1) (dy + 1) (by omega) (Or.inl (by omega))  (by omega) _ _ (by rw [show goL (VV e) e p (nn + 1) = (dayL (VV e) (goL (VV e) e p nn) p dy) by rw [hdy]; rfl]; exact w) ls (lv_sub hl [1, 2, 3, 4, 5, 6, 7, 8, 9, 0] rfl)
      have cut373 : ∀ (n9 : Nat) (k : Nat) (h54 : dy ≤ t0) (hk : k ≤ VV e 7 19) (_hm : VV e 7 19 - k < n9) (H : Heap) (locs : List Loc), MO D (AW (C, ad, G cy ad e) sz) s.heap (C, ad, G cy ad (payL (VV e) (takL (expL (mthL (VV e) (goL (VV e) e p nn) p dy) dy) (240 * lvM (VV e) p dy)) p dy k)) H locs → ∀ (ls : Array Slot), lv_has ls 14 [(0, .int (nI p)), (1, .int (nI t0)), (2, .ref (ad 7)), (3, .ref (ad 8)), (4, .ref (ad 9)), (5, .ref (ad 10)), (6, .ref (ad 11)), (7, .ref (ad 12)), (8, .ref (ad 6)), (9, .int (nI dy)), (13, .int (nI k))] → W p9 l e9 ({ frames := 1, cells := 0, slots := 0, locals := 29 } : Room) s m args below meth c H locs 0 0 (MQ below (va_Qv (fun (u : WT) => u = (C, ad, G cy ad (goL (VV e) e p (t0 + 1 - VV e 8 p)))) (WB D cy (AW (C, ad, G cy ad e) sz)) (AW (C, ad, G cy ad e) sz)) args s 0 0 (AW (C, ad, G cy ad e) sz)) (F0 m 373 ls []) := by
        intro n9
        induction n9 with
        | zero => intro k h54 hk _hm; exact absurd _hm (Nat.not_lt_zero _)
        | succ n9 ih =>
          intro k h54 hk _hm H locs w ls hl
          have hOk : OffL e (payL (VV e) (takL (expL (mthL (VV e) (goL (VV e) e p nn) p dy) dy) (240 * lvM (VV e) p dy)) p dy k) := hO3.tr (OffL_pay _ _ _ _ k)
          have hzx : OffM (VV e) (expM (mthM (goM (VV e) p nn) p dy) dy) := (hz.tr (OffM_mth _ _ _)).tr (OffM_exp _ _)
          have hLk : LL (payL (VV e) (takL (expL (mthL (VV e) (goL (VV e) e p nn) p dy) dy) (240 * lvM (VV e) p dy)) p dy k) (payM (leavesM (expM (mthM (goM (VV e) p nn) p dy) dy) (240 * lvM (VV e) p dy)) p dy k) (dy + 1) := LL_pay (hzx.tr (OffM_leaves _ _)) (LL_tak (LL_exp (LL_mth hz hL (by omega)) (by omega)) _) k
          have hGk := GM_pay hG3 dy k
          have hPlk : ∀ y, y < 64 → (payL (VV e) (takL (expL (mthL (VV e) (goL (VV e) e p nn) p dy) dy) (240 * lvM (VV e) p dy)) p dy k) 11 y < 1000000000 := fun y hy => by have := hLk.le hGk y hy; omega
          refine lv_iload hx hb dL_go_373 (lv_at hl 10 rfl) ?_
          refine lv_aload hx hb dL_go_375 (lv_at hl 8 rfl) ?_
          refine lv_iconst (v := nI 4) hx hb dL_go_377 (by decide) ?_
          refine ex_iald M w (hB 6 (by decide)) (sh_6 cy ad) (by omega) (by decide) (((congrFun (hOk 6 (by decide) (by decide)) _).trans (rV_q4 e))) dL_go_378 ?_
          refine mi_ge hx hb (by omega) (by omega) 438 dL_go_379 (by decide) (fun h379 => ?_) (fun h379 => ?_)
          · exact cut438 (by omega)  _ _ (by rw [show k = VV e 7 19 by omega] at w; exact w) ls (lv_sub hl [0, 1, 2, 3, 4, 5, 6, 7, 8, 9] rfl)
          · obtain ⟨q3, q4, q5⟩ := hM.2.2.2.1 k (by omega)
            refine lv_aload hx hb dL_go_382 (lv_at hl 7 rfl) ?_
            refine lv_iconst (v := nI 4) hx hb dL_go_384 (by decide) ?_
            refine lv_dup2_11 hx hb dL_go_385 rfl rfl ?_
            refine ex_iald M w (hB 12 (by decide)) (sh_12 cy ad) (by omega) (by decide) rfl dL_go_386 ?_
            refine lv_aload hx hb dL_go_387 (lv_at hl 5 rfl) ?_
            refine lv_iconst (v := nI 3) hx hb dL_go_389 (by decide) ?_
            refine lv_iload hx hb dL_go_390 (lv_at hl 10 rfl) ?_
            refine mi_mul hx hb dL_go_392 ?_
            refine ex_iald M w (hB 10 (by decide)) (sh_10 cy ad) (by omega) (by decide) (((congrFun (hOk 10 (by decide) (by decide)) _).trans (rV_22 e k))) dL_go_393 ?_
            refine lv_iload_n hx hb dL_go_394 rfl (lv_at hl 0 rfl) ?_
            refine mi_ne hx hb (by omega) (by omega) 429 dL_go_395 (by decide) (fun h395 => ?_) (fun h395 => ?_)
            · refine lv_iconst (v := nI 0) hx hb dL_go_429 (by decide) ?_
              refine mi_add hx hb dL_go_430 ?_
              refine ex_iast M w (hB 12 (by decide)) (sh_12 cy ad) (v := (((payL (VV e) (takL (expL (mthL (VV e) (goL (VV e) e p nn) p dy) dy) (240 * lvM (VV e) p dy)) p dy k) 12 4) + 0)) (by omega) (by decide) dL_go_431 (fun H locs w => ?_)
              refine lv_iinc (v := nI (k + 1)) (lv' := [(13, .int (nI (k + 1))), (0, .int (nI p)), (1, .int (nI t0)), (2, .ref (ad 7)), (3, .ref (ad 8)), (4, .ref (ad 9)), (5, .ref (ad 10)), (6, .ref (ad 11)), (7, .ref (ad 12)), (8, .ref (ad 6)), (9, .int (nI dy))]) hx hb dL_go_432 hl (k := 10) rfl (nI_inc _ 1) (by decide) rfl (fun ls hl => ?_)
              refine lv_goto (tgt := 373) hx hb dL_go_435 (by decide) ?_
              exact ih (k + 1) (by omega) (by omega)  (by omega) _ _ (by rw [es_id] at w; rw [show payL (VV e) (takL (expL (mthL (VV e) (goL (VV e) e p nn) p dy) dy) (240 * lvM (VV e) p dy)) p dy (k + 1) = (payL (VV e) (takL (expL (mthL (VV e) (goL (VV e) e p nn) p dy) dy) (240 * lvM (VV e) p dy)) p dy k) from if_neg (fun z => h395 z.1)]; exact w) ls (lv_sub hl [1, 2, 3, 4, 5, 6, 7, 8, 9, 10, 0] rfl)
            · refine lv_aload hx hb dL_go_398 (lv_at hl 5 rfl) ?_
              refine lv_iconst (v := nI 3) hx hb dL_go_400 (by decide) ?_
              refine lv_iload hx hb dL_go_401 (lv_at hl 10 rfl) ?_
              refine mi_mul hx hb dL_go_403 ?_
              refine lv_iconst (v := nI 1) hx hb dL_go_404 (by decide) ?_
              refine mi_add hx hb dL_go_405 ?_
              refine ex_iald M w (hB 10 (by decide)) (sh_10 cy ad) (by omega) (by decide) (((congrFun (hOk 10 (by decide) (by decide)) _).trans (rV_23 e k))) dL_go_406 ?_
              refine lv_iload hx hb dL_go_407 (lv_at hl 9 rfl) ?_
              refine mi_ne hx hb (by omega) (by omega) 429 dL_go_409 (by decide) (fun h409 => ?_) (fun h409 => ?_)
              · refine lv_iconst (v := nI 0) hx hb dL_go_429 (by decide) ?_
                refine mi_add hx hb dL_go_430 ?_
                refine ex_iast M w (hB 12 (by decide)) (sh_12 cy ad) (v := (((payL (VV e) (takL (expL (mthL (VV e) (goL (VV e) e p nn) p dy) dy) (240 * lvM (VV e) p dy)) p dy k) 12 4) + 0)) (by omega) (by decide) dL_go_431 (fun H locs w => ?_)
                refine lv_iinc (v := nI (k + 1)) (lv' := [(13, .int (nI (k + 1))), (0, .int (nI p)), (1, .int (nI t0)), (2, .ref (ad 7)), (3, .ref (ad 8)), (4, .ref (ad 9)), (5, .ref (ad 10)), (6, .ref (ad 11)), (7, .ref (ad 12)), (8, .ref (ad 6)), (9, .int (nI dy))]) hx hb dL_go_432 hl (k := 10) rfl (nI_inc _ 1) (by decide) rfl (fun ls hl => ?_)
                refine lv_goto (tgt := 373) hx hb dL_go_435 (by decide) ?_
                exact ih (k + 1) (by omega) (by omega)  (by omega) _ _ (by rw [es_id] at w; rw [show payL (VV e) (takL (expL (mthL (VV e) (goL (VV e) e p nn) p dy) dy) (240 * lvM (VV e) p dy)) p dy (k + 1) = (payL (VV e) (takL (expL (mthL (VV e) (goL (VV e) e p nn) p dy) dy) (240 * lvM (VV e) p dy)) p dy k) from if_neg (fun z => h409 z.2)]; exact w) ls (lv_sub hl [1, 2, 3, 4, 5, 6, 7, 8, 9, 10, 0] rfl)
              · refine lv_aload hx hb dL_go_412 (lv_at hl 5 rfl) ?_
                refine lv_iconst (v := nI 3) hx hb dL_go_414 (by decide) ?_
                refine lv_iload hx hb dL_go_415 (lv_at hl 10 rfl) ?_
                refine mi_mul hx hb dL_go_417 ?_
                refine lv_iconst (v := nI 2) hx hb dL_go_418 (by decide) ?_
                refine mi_add hx hb dL_go_419 ?_
                refine ex_iald M w (hB 10 (by decide)) (sh_10 cy ad) (by omega) (by decide) (((congrFun (hOk 10 (by decide) (by decide)) _).trans (rV_24 e k))) dL_go_420 ?_
                refine lv_aload hx hb dL_go_421 (lv_at hl 6 rfl) ?_
                refine mx_Si M w (kL_draw l D cy C ad (payL (VV e) (takL (expL (mthL (VV e) (goL (VV e) e p nn) p dy) dy) (240 * lvM (VV e) p dy)) p dy k) H.size (VV e 24 k) hB (by omega) hPlk) (va_cwS 2 M.1.2.2.2.2 gL_go_L_draw rfl rfl rfl (by decide +kernel) ⟨Nat.le_of_ble_eq_true rfl, Nat.le_of_ble_eq_true rfl⟩) rfl hl.1 rfl (Nat.le_of_ble_eq_true rfl) dL_go_423 ⟨by decide, by decide⟩ (fun r423 u1 H locs hp1 w => ?_)
                obtain ⟨rfl, rfl⟩ := hp1
                refine lv_goto (tgt := 430) hx hb dL_go_426 (by decide) ?_
                refine mi_add hx hb dL_go_430 ?_
                refine ex_iast M w (hB 12 (by decide)) (sh_12 cy ad) (v := (((payL (VV e) (takL (expL (mthL (VV e) (goL (VV e) e p nn) p dy) dy) (240 * lvM (VV e) p dy)) p dy k) 12 4) + (min (VV e 24 k) (totL (payL (VV e) (takL (expL (mthL (VV e) (goL (VV e) e p nn) p dy) dy) (240 * lvM (VV e) p dy)) p dy k))))) (by omega) (by decide) dL_go_431 (fun H locs w => ?_)
                refine lv_iinc (v := nI (k + 1)) (lv' := [(13, .int (nI (k + 1))), (0, .int (nI p)), (1, .int (nI t0)), (2, .ref (ad 7)), (3, .ref (ad 8)), (4, .ref (ad 9)), (5, .ref (ad 10)), (6, .ref (ad 11)), (7, .ref (ad 12)), (8, .ref (ad 6)), (9, .int (nI dy))]) hx hb dL_go_432 hl (k := 10) rfl (nI_inc _ 1) (by decide) rfl (fun ls hl => ?_)
                refine lv_goto (tgt := 373) hx hb dL_go_435 (by decide) ?_
                exact ih (k + 1) (by omega) (by omega)  (by omega) _ _ (by rw [show payL (VV e) (takL (expL (mthL (VV e) (goL (VV e) e p nn) p dy) dy) (240 * lvM (VV e) p dy)) p dy (k + 1) = _ from if_pos ⟨h395, h409⟩]; exact w) ls (lv_sub hl [1, 2, 3, 4, 5, 6, 7, 8, 9, 10, 0] rfl)
      have cut370 : ∀  (h54 : dy ≤ t0) (H : Heap) (locs : List Loc), MO D (AW (C, ad, G cy ad e) sz) s.heap (C, ad, G cy ad (takL (expL (mthL (VV e) (goL (VV e) e p nn) p dy) dy) (240 * lvM (VV e) p dy))) H locs → ∀ (ls : Array Slot), lv_has ls 14 [(0, .int (nI p)), (1, .int (nI t0)), (2, .ref (ad 7)), (3, .ref (ad 8)), (4, .ref (ad 9)), (5, .ref (ad 10)), (6, .ref (ad 11)), (7, .ref (ad 12)), (8, .ref (ad 6)), (9, .int (nI dy))] → W p9 l e9 ({ frames := 1, cells := 0, slots := 0, locals := 29 } : Room) s m args below meth c H locs 0 0 (MQ below (va_Qv (fun (u : WT) => u = (C, ad, G cy ad (goL (VV e) e p (t0 + 1 - VV e 8 p)))) (WB D cy (AW (C, ad, G cy ad e) sz)) (AW (C, ad, G cy ad e) sz)) args s 0 0 (AW (C, ad, G cy ad e) sz)) (F0 m 370 ls []) := by
        intro h54 H locs w ls hl
        refine lv_iconst (v := nI 0) hx hb dL_go_370 (by decide) ?_
        refine lv_istore (lv' := [(13, .int (nI 0)), (0, .int (nI p)), (1, .int (nI t0)), (2, .ref (ad 7)), (3, .ref (ad 8)), (4, .ref (ad 9)), (5, .ref (ad 10)), (6, .ref (ad 11)), (7, .ref (ad 12)), (8, .ref (ad 6)), (9, .int (nI dy))]) hx hb dL_go_371 hl (by decide) rfl (fun ls hl => ?_)
        exact cut373 (VV e 7 19 - 0 + 1) 0 (by omega) (Nat.zero_le _)  (by omega) _ _ w ls (lv_sub hl [1, 2, 3, 4, 5, 6, 7, 8, 9, 10, 0] rfl)
      have cut278 : ∀  (h54 : dy ≤ t0) (H : Heap) (locs : List Loc), MO D (AW (C, ad, G cy ad e) sz) s.heap (C, ad, G cy ad (expL (mthL (VV e) (goL (VV e) e p nn) p dy) dy)) H locs → ∀ (ls : Array Slot), lv_has ls 14 [(0, .int (nI p)), (1, .int (nI t0)), (2, .ref (ad 7)), (3, .ref (ad 8)), (4, .ref (ad 9)), (5, .ref (ad 10)), (6, .ref (ad 11)), (7, .ref (ad 12)), (8, .ref (ad 6)), (9, .int (nI dy)), (10, .int (nI (dy / 30)))] → W p9 l e9 ({ frames := 1, cells := 0, slots := 0, locals := 29 } : Room) s m args below meth c H locs 0 0 (MQ below (va_Qv (fun (u : WT) => u = (C, ad, G cy ad (goL (VV e) e p (t0 + 1 - VV e 8 p)))) (WB D cy (AW (C, ad, G cy ad e) sz)) (AW (C, ad, G cy ad e) sz)) args s 0 0 (AW (C, ad, G cy ad e) sz)) (F0 m 278 ls []) := by
        intro h54 H locs w ls hl
        have hL2 : LL (expL (mthL (VV e) (goL (VV e) e p nn) p dy) dy) (expM (mthM (goM (VV e) p nn) p dy) dy) (dy + 1) := LL_exp (LL_mth hz hL (by omega)) (by omega)
        have q7 := hL2.tot
        have q8 := totM_le hG2
        have q9 := hL2.2.1.1
        have q9b := hG2.2.2.1
        have hPl2 : ∀ y, y < 64 → (expL (mthL (VV e) (goL (VV e) e p nn) p dy) dy) 11 y < 1000000000 := fun y hy => by have := hL2.le hG2 y hy; omega
        refine lv_sipush (v := nI 240) hx hb dL_go_278 (by decide) ?_
        refine lv_iload_n hx hb dL_go_281 rfl (lv_at hl 0 rfl) ?_
        refine lv_iload hx hb dL_go_282 (lv_at hl 9 rfl) ?_
        refine lv_aload_n hx hb dL_go_284 rfl (lv_at hl 3 rfl) ?_
        refine lv_aload hx hb dL_go_285 (lv_at hl 4 rfl) ?_
        refine lv_aload hx hb dL_go_287 (lv_at hl 8 rfl) ?_
        refine mx_Si M w (kL_leave l D cy C ad (expL (mthL (VV e) (goL (VV e) e p nn) p dy) dy) H.size p dy hB (by rw [VV_off hO2]; exact hM) (by rw [VV_off hO2]; exact ⟨hn3, hn4⟩) (by omega) (by omega)) (va_cwS 5 M.1.2.2.2.2 gL_go_L_leave rfl rfl rfl (by decide +kernel) ⟨Nat.le_of_ble_eq_true rfl, Nat.le_of_ble_eq_true rfl⟩) rfl hl.1 rfl (Nat.le_of_ble_eq_true rfl) dL_go_289 ⟨by decide, by decide⟩ (fun r289 u1 H locs hp1 w => ?_)
        obtain ⟨rfl, rfl⟩ := hp1
        refine W.eq (congrArg (fun z => F0 m 292 ls (.int (nI z) :: [.int (nI 240)])) (congrArg (fun z => lvM z p dy) (VV_off hO2))) ?_
        refine mi_mul hx hb dL_go_292 ?_
        refine lv_istore (lv' := [(11, .int (nI (240 * (lvM (VV e) p dy)))), (0, .int (nI p)), (1, .int (nI t0)), (2, .ref (ad 7)), (3, .ref (ad 8)), (4, .ref (ad 9)), (5, .ref (ad 10)), (6, .ref (ad 11)), (7, .ref (ad 12)), (8, .ref (ad 6)), (9, .int (nI dy)), (10, .int (nI (dy / 30)))]) hx hb dL_go_293 hl (by decide) rfl (fun ls hl => ?_)
        refine lv_iload hx hb dL_go_295 (lv_at hl 0 rfl) ?_
        refine lv_aload hx hb dL_go_297 (lv_at hl 7 rfl) ?_
        refine mx_Si M w (kL_sum l D cy C ad (expL (mthL (VV e) (goL (VV e) e p nn) p dy) dy) H.size hB) (va_cwS 1 M.1.2.2.2.2 gL_go_L_sum rfl rfl rfl (by decide +kernel) ⟨Nat.le_of_ble_eq_true rfl, Nat.le_of_ble_eq_true rfl⟩) rfl hl.1 rfl (Nat.le_of_ble_eq_true rfl) dL_go_299 ⟨by decide, by decide⟩ (fun r299 u1 H locs hp1 w => ?_)
        obtain ⟨rfl, rfl⟩ := hp1
        refine lv_isub hx hb dL_go_302 ?_
        refine lv_istore (lv' := [(12, .int ((nI (240 * (lvM (VV e) p dy))) - (nI (totL (expL (mthL (VV e) (goL (VV e) e p nn) p dy) dy))))), (11, .int (nI (240 * (lvM (VV e) p dy)))), (0, .int (nI p)), (1, .int (nI t0)), (2, .ref (ad 7)), (3, .ref (ad 8)), (4, .ref (ad 9)), (5, .ref (ad 10)), (6, .ref (ad 11)), (7, .ref (ad 12)), (8, .ref (ad 6)), (9, .int (nI dy)), (10, .int (nI (dy / 30)))]) hx hb dL_go_303 hl (by decide) rfl (fun ls hl => ?_)
        refine lv_iload hx hb dL_go_305 (lv_at hl 1 rfl) ?_
        refine mi_if_le hx hb (by omega) 339 dL_go_307 (by decide) (fun h307 => ?_) (fun h307 => ?_)
        · refine lv_iload hx hb dL_go_339 (lv_at hl 1 rfl) ?_
          refine mi_if_le hx hb (by omega) 370 dL_go_341 (by decide) (fun h341 => ?_) (fun h341 => absurd h341 (by first | decide | omega))
          exact cut370 (by omega)  _ _ (by rw [show 240 * lvM (VV e) p dy = 0 by omega, takL_0]; exact w) ls (lv_sub hl [2, 3, 4, 5, 6, 7, 8, 9, 10, 11] rfl)
        · refine lv_iload hx hb dL_go_310 (lv_at hl 0 rfl) ?_
          refine lv_if_le (tgt := 339) hx hb dL_go_312 (by decide) (fun h312 => ?_) (fun h312 => ?_)
          · refine lv_iload hx hb dL_go_339 (lv_at hl 1 rfl) ?_
            refine mi_if_le hx hb (by omega) 370 dL_go_341 (by decide) (fun h341 => absurd h341 (by first | decide | omega)) (fun h341 => ?_)
            refine lv_aload hx hb dL_go_344 (lv_at hl 9 rfl) ?_
            refine lv_iconst (v := nI 0) hx hb dL_go_346 (by decide) ?_
            refine lv_dup2_11 hx hb dL_go_347 rfl rfl ?_
            refine ex_iald M w (hB 12 (by decide)) (sh_12 cy ad) (by omega) (by decide) rfl dL_go_348 ?_
            refine lv_iload hx hb dL_go_349 (lv_at hl 1 rfl) ?_
            refine lv_iload hx hb dL_go_351 (lv_at hl 1 rfl) ?_
            refine lv_aload hx hb dL_go_353 (lv_at hl 8 rfl) ?_
            refine mx_Si M w (kL_draw l D cy C ad (expL (mthL (VV e) (goL (VV e) e p nn) p dy) dy) H.size (240 * (lvM (VV e) p dy)) hB (by omega) hPl2) (va_cwS 2 M.1.2.2.2.2 gL_go_L_draw rfl rfl rfl (by decide +kernel) ⟨Nat.le_of_ble_eq_true rfl, Nat.le_of_ble_eq_true rfl⟩) rfl hl.1 rfl (Nat.le_of_ble_eq_true rfl) dL_go_355 ⟨by decide, by decide⟩ (fun r355 u1 H locs hp1 w => ?_)
            obtain ⟨rfl, rfl⟩ := hp1
            refine mi_sub hx hb (by omega) dL_go_358 ?_
            refine mi_add hx hb dL_go_359 ?_
            refine ex_iast M w (hB 12 (by decide)) (sh_12 cy ad) (v := (((expL (mthL (VV e) (goL (VV e) e p nn) p dy) dy) 12 0) + ((240 * (lvM (VV e) p dy)) - (min (240 * (lvM (VV e) p dy)) (totL (expL (mthL (VV e) (goL (VV e) e p nn) p dy) dy)))))) (by omega) (by decide) dL_go_360 (fun H locs w => ?_)
            refine lv_aload hx hb dL_go_361 (lv_at hl 9 rfl) ?_
            refine lv_iconst (v := nI 2) hx hb dL_go_363 (by decide) ?_
            refine lv_dup2_11 hx hb dL_go_364 rfl rfl ?_
            refine ex_iald M w (hB 12 (by decide)) (sh_12 cy ad) (by omega) (by decide) ((es_ne _ _ (by first | omega | (unfold PB; omega) | (unfold RB; omega) | (unfold PB RB; omega))).trans (drwL_off (expL (mthL (VV e) (goL (VV e) e p nn) p dy) dy) (240 * (lvM (VV e) p dy)) (by decide) _)) dL_go_365 ?_
            refine lv_iload hx hb dL_go_366 (lv_at hl 1 rfl) ?_
            refine mi_add hx hb dL_go_368 ?_
            refine ex_iast M w (hB 12 (by decide)) (sh_12 cy ad) (v := (((expL (mthL (VV e) (goL (VV e) e p nn) p dy) dy) 12 2) + (240 * (lvM (VV e) p dy)))) (by omega) (by decide) dL_go_369 (fun H locs w => ?_)
            exact cut370 (by omega)  _ _ (by rw [show (takL (expL (mthL (VV e) (goL (VV e) e p nn) p dy) dy) (240 * lvM (VV e) p dy)) = _ from if_neg (fun z => by have a := (sub_le0 (by omega) (by omega)).mp h312; omega)]; exact w) ls (lv_sub hl [2, 3, 4, 5, 6, 7, 8, 9, 10, 11] rfl)
          · have q3 : totL (expL (mthL (VV e) (goL (VV e) e p nn) p dy) dy) < 240 * lvM (VV e) p dy := by
              rcases Nat.lt_or_ge (totL (expL (mthL (VV e) (goL (VV e) e p nn) p dy) dy)) (240 * lvM (VV e) p dy) with z | z
              · exact z
              · exact absurd ((sub_le0 (by omega) (by omega)).mpr z) h312
            refine lv_aload hx hb dL_go_315 (lv_at hl 9 rfl) ?_
            refine lv_iconst (v := nI 0) hx hb dL_go_317 (by decide) ?_
            refine ex_iald M w (hB 12 (by decide)) (sh_12 cy ad) (by omega) (by decide) rfl dL_go_318 ?_
            refine lv_iload hx hb dL_go_319 (lv_at hl 0 rfl) ?_
            refine lv_iadd hx hb dL_go_321 ?_
            refine W.eq (congrArg (fun z => F0 m 322 ls (.int z :: [])) (add_sub9 _ (Nat.le_of_lt q3))) ?_
            refine lv_sipush (v := nI 2400) hx hb dL_go_322 (by decide) ?_
            refine mi_le hx hb (by omega) (by decide) 339 dL_go_325 (by decide) (fun h325 => ?_) (fun h325 => ?_)
            · refine lv_iload hx hb dL_go_339 (lv_at hl 1 rfl) ?_
              refine mi_if_le hx hb (by omega) 370 dL_go_341 (by decide) (fun h341 => absurd h341 (by first | decide | omega)) (fun h341 => ?_)
              refine lv_aload hx hb dL_go_344 (lv_at hl 9 rfl) ?_
              refine lv_iconst (v := nI 0) hx hb dL_go_346 (by decide) ?_
              refine lv_dup2_11 hx hb dL_go_347 rfl rfl ?_
              refine ex_iald M w (hB 12 (by decide)) (sh_12 cy ad) (by omega) (by decide) rfl dL_go_348 ?_
              refine lv_iload hx hb dL_go_349 (lv_at hl 1 rfl) ?_
              refine lv_iload hx hb dL_go_351 (lv_at hl 1 rfl) ?_
              refine lv_aload hx hb dL_go_353 (lv_at hl 8 rfl) ?_
              refine mx_Si M w (kL_draw l D cy C ad (expL (mthL (VV e) (goL (VV e) e p nn) p dy) dy) H.size (240 * (lvM (VV e) p dy)) hB (by omega) hPl2) (va_cwS 2 M.1.2.2.2.2 gL_go_L_draw rfl rfl rfl (by decide +kernel) ⟨Nat.le_of_ble_eq_true rfl, Nat.le_of_ble_eq_true rfl⟩) rfl hl.1 rfl (Nat.le_of_ble_eq_true rfl) dL_go_355 ⟨by decide, by decide⟩ (fun r355 u1 H locs hp1 w => ?_)
              obtain ⟨rfl, rfl⟩ := hp1
              refine mi_sub hx hb (by omega) dL_go_358 ?_
              refine mi_add hx hb dL_go_359 ?_
              refine ex_iast M w (hB 12 (by decide)) (sh_12 cy ad) (v := (((expL (mthL (VV e) (goL (VV e) e p nn) p dy) dy) 12 0) + ((240 * (lvM (VV e) p dy)) - (min (240 * (lvM (VV e) p dy)) (totL (expL (mthL (VV e) (goL (VV e) e p nn) p dy) dy)))))) (by omega) (by decide) dL_go_360 (fun H locs w => ?_)
              refine lv_aload hx hb dL_go_361 (lv_at hl 9 rfl) ?_
              refine lv_iconst (v := nI 2) hx hb dL_go_363 (by decide) ?_
              refine lv_dup2_11 hx hb dL_go_364 rfl rfl ?_
              refine ex_iald M w (hB 12 (by decide)) (sh_12 cy ad) (by omega) (by decide) ((es_ne _ _ (by first | omega | (unfold PB; omega) | (unfold RB; omega) | (unfold PB RB; omega))).trans (drwL_off (expL (mthL (VV e) (goL (VV e) e p nn) p dy) dy) (240 * (lvM (VV e) p dy)) (by decide) _)) dL_go_365 ?_
              refine lv_iload hx hb dL_go_366 (lv_at hl 1 rfl) ?_
              refine mi_add hx hb dL_go_368 ?_
              refine ex_iast M w (hB 12 (by decide)) (sh_12 cy ad) (v := (((expL (mthL (VV e) (goL (VV e) e p nn) p dy) dy) 12 2) + (240 * (lvM (VV e) p dy)))) (by omega) (by decide) dL_go_369 (fun H locs w => ?_)
              exact cut370 (by omega)  _ _ (by rw [show (takL (expL (mthL (VV e) (goL (VV e) e p nn) p dy) dy) (240 * lvM (VV e) p dy)) = _ from if_neg (fun z => by omega)]; exact w) ls (lv_sub hl [2, 3, 4, 5, 6, 7, 8, 9, 10, 11] rfl)
            · refine lv_aload hx hb dL_go_328 (lv_at hl 9 rfl) ?_
              refine lv_iconst (v := nI 5) hx hb dL_go_330 (by decide) ?_
              refine lv_dup2_11 hx hb dL_go_331 rfl rfl ?_
              refine ex_iald M w (hB 12 (by decide)) (sh_12 cy ad) (by omega) (by decide) rfl dL_go_332 ?_
              refine lv_iconst (v := nI 1) hx hb dL_go_333 (by decide) ?_
              refine mi_add hx hb dL_go_334 ?_
              refine ex_iast M w (hB 12 (by decide)) (sh_12 cy ad) (v := (((expL (mthL (VV e) (goL (VV e) e p nn) p dy) dy) 12 5) + 1)) (by omega) (by decide) dL_go_335 (fun H locs w => ?_)
              refine lv_goto (tgt := 370) hx hb dL_go_336 (by decide) ?_
              exact cut370 (by omega)  _ _ (by rw [show (takL (expL (mthL (VV e) (goL (VV e) e p nn) p dy) dy) (240 * lvM (VV e) p dy)) = _ from if_pos ⟨by omega, by omega⟩]; exact w) ls (lv_sub hl [2, 3, 4, 5, 6, 7, 8, 9, 10, 11] rfl)
      have cut193 : ∀ (n9 : Nat) (mo : Nat) (h54 : dy ≤ t0) (hm : mo ≤ 64) (hm0 : mo = 0 ∨ dy = 30 * (dy / 30)) (_hm : 64 - mo < n9) (H : Heap) (locs : List Loc), MO D (AW (C, ad, G cy ad e) sz) s.heap (C, ad, G cy ad (exLn (mthL (VV e) (goL (VV e) e p nn) p dy) dy mo)) H locs → ∀ (ls : Array Slot), lv_has ls 14 [(0, .int (nI p)), (1, .int (nI t0)), (2, .ref (ad 7)), (3, .ref (ad 8)), (4, .ref (ad 9)), (5, .ref (ad 10)), (6, .ref (ad 11)), (7, .ref (ad 12)), (8, .ref (ad 6)), (9, .int (nI dy)), (10, .int (nI (dy / 30))), (11, .int (nI mo))] → W p9 l e9 ({ frames := 1, cells := 0, slots := 0, locals := 29 } : Room) s m args below meth c H locs 0 0 (MQ below (va_Qv (fun (u : WT) => u = (C, ad, G cy ad (goL (VV e) e p (t0 + 1 - VV e 8 p)))) (WB D cy (AW (C, ad, G cy ad e) sz)) (AW (C, ad, G cy ad e) sz)) args s 0 0 (AW (C, ad, G cy ad e) sz)) (F0 m 193 ls []) := by
        intro n9
        induction n9 with
        | zero => intro mo h54 hm hm0 _hm; exact absurd _hm (Nat.not_lt_zero _)
        | succ n9 ih =>
          intro mo h54 hm hm0 _hm H locs w ls hl
          have cut232 : ∀ (ov : Nat) (h197 : mo < 64) (h207 : dy = 30 * (dy / 30)) (hov : (ov = 1 ∧ 0 < mo ∧ exM mo = dy) ∨ (ov = 0 ∧ ¬ (0 < mo ∧ exM mo = dy))) (H : Heap) (locs : List Loc), MO D (AW (C, ad, G cy ad e) sz) s.heap (C, ad, G cy ad (exLn (mthL (VV e) (goL (VV e) e p nn) p dy) dy mo)) H locs → ∀ (ls : Array Slot), lv_has ls 14 [(0, .int (nI p)), (1, .int (nI t0)), (2, .ref (ad 7)), (3, .ref (ad 8)), (4, .ref (ad 9)), (5, .ref (ad 10)), (6, .ref (ad 11)), (7, .ref (ad 12)), (8, .ref (ad 6)), (9, .int (nI dy)), (10, .int (nI (dy / 30))), (11, .int (nI mo)), (12, .int (nI ov))] → W p9 l e9 ({ frames := 1, cells := 0, slots := 0, locals := 29 } : Room) s m args below meth c H locs 0 0 (MQ below (va_Qv (fun (u : WT) => u = (C, ad, G cy ad (goL (VV e) e p (t0 + 1 - VV e 8 p)))) (WB D cy (AW (C, ad, G cy ad e) sz)) (AW (C, ad, G cy ad e) sz)) args s 0 0 (AW (C, ad, G cy ad e) sz)) (F0 m 232 ls []) := by
            intro ov h197 h207 hov H locs w ls hl
            refine lv_aload hx hb dL_go_232 (lv_at hl 7 rfl) ?_
            refine lv_iconst (v := nI 3) hx hb dL_go_234 (by decide) ?_
            refine lv_dup2_11 hx hb dL_go_235 rfl rfl ?_
            refine ex_iald M w (hB 12 (by decide)) (sh_12 cy ad) (by omega) (by decide) rfl dL_go_236 ?_
            refine lv_iload hx hb dL_go_237 (lv_at hl 12 rfl) ?_
            refine mi_if_eq hx hb (by omega) 250 dL_go_239 (by decide) (fun h239 => ?_) (fun h239 => ?_)
            · refine lv_iconst (v := nI 0) hx hb dL_go_250 (by decide) ?_
              refine mi_add hx hb dL_go_251 ?_
              refine ex_iast M w (hB 12 (by decide)) (sh_12 cy ad) (v := (((exLn (mthL (VV e) (goL (VV e) e p nn) p dy) dy mo) 12 3) + 0)) (by omega) (by decide) dL_go_252 (fun H locs w => ?_)
              refine lv_aload hx hb dL_go_253 (lv_at hl 6 rfl) ?_
              refine lv_iload hx hb dL_go_255 (lv_at hl 11 rfl) ?_
              refine lv_iload hx hb dL_go_257 (lv_at hl 12 rfl) ?_
              refine mi_if_eq hx hb (by omega) 266 dL_go_259 (by decide) (fun h259 => ?_) (fun h259 => absurd h259 (by first | decide | omega))
              refine lv_aload hx hb dL_go_266 (lv_at hl 6 rfl) ?_
              refine lv_iload hx hb dL_go_268 (lv_at hl 11 rfl) ?_
              refine ex_iald M w (hB 11 (by decide)) (sh_11 cy ad) (by omega) (by decide) ((es_ne _ _ (by first | omega | (unfold PB; omega) | (unfold RB; omega) | (unfold PB RB; omega))).trans (exLn_at _ dy mo)) dL_go_270 ?_
              refine ex_iast M w (hB 11 (by decide)) (sh_11 cy ad) (v := ((mthL (VV e) (goL (VV e) e p nn) p dy) 11 mo)) (by omega) (by decide) dL_go_271 (fun H locs w => ?_)
              refine lv_iinc (v := nI (mo + 1)) (lv' := [(11, .int (nI (mo + 1))), (0, .int (nI p)), (1, .int (nI t0)), (2, .ref (ad 7)), (3, .ref (ad 8)), (4, .ref (ad 9)), (5, .ref (ad 10)), (6, .ref (ad 11)), (7, .ref (ad 12)), (8, .ref (ad 6)), (9, .int (nI dy)), (10, .int (nI (dy / 30))), (12, .int (nI ov))]) hx hb dL_go_272 hl (k := 11) rfl (nI_inc _ 1) (by decide) rfl (fun ls hl => ?_)
              refine lv_goto (tgt := 193) hx hb dL_go_275 (by decide) ?_
              exact ih (mo + 1) (by omega) (by omega) (Or.inr h207)  (by omega) _ _ (by rw [exLn_s0 (by omega)] at w; exact w) ls (lv_sub hl [1, 2, 3, 4, 5, 6, 7, 8, 9, 10, 11, 0] rfl)
            · refine lv_aload hx hb dL_go_242 (lv_at hl 6 rfl) ?_
              refine lv_iload hx hb dL_go_244 (lv_at hl 11 rfl) ?_
              refine ex_iald M w (hB 11 (by decide)) (sh_11 cy ad) (by omega) (by decide) (exLn_at _ dy mo) dL_go_246 ?_
              refine lv_goto (tgt := 251) hx hb dL_go_247 (by decide) ?_
              refine mi_add hx hb dL_go_251 ?_
              refine ex_iast M w (hB 12 (by decide)) (sh_12 cy ad) (v := (((exLn (mthL (VV e) (goL (VV e) e p nn) p dy) dy mo) 12 3) + ((mthL (VV e) (goL (VV e) e p nn) p dy) 11 mo))) (by omega) (by decide) dL_go_252 (fun H locs w => ?_)
              refine lv_aload hx hb dL_go_253 (lv_at hl 6 rfl) ?_
              refine lv_iload hx hb dL_go_255 (lv_at hl 11 rfl) ?_
              refine lv_iload hx hb dL_go_257 (lv_at hl 12 rfl) ?_
              refine mi_if_eq hx hb (by omega) 266 dL_go_259 (by decide) (fun h259 => absurd h259 (by first | decide | omega)) (fun h259 => ?_)
              refine lv_iconst (v := nI 0) hx hb dL_go_262 (by decide) ?_
              refine lv_goto (tgt := 271) hx hb dL_go_263 (by decide) ?_
              refine ex_iast M w (hB 11 (by decide)) (sh_11 cy ad) (v := 0) (by omega) (by decide) dL_go_271 (fun H locs w => ?_)
              refine lv_iinc (v := nI (mo + 1)) (lv' := [(11, .int (nI (mo + 1))), (0, .int (nI p)), (1, .int (nI t0)), (2, .ref (ad 7)), (3, .ref (ad 8)), (4, .ref (ad 9)), (5, .ref (ad 10)), (6, .ref (ad 11)), (7, .ref (ad 12)), (8, .ref (ad 6)), (9, .int (nI dy)), (10, .int (nI (dy / 30))), (12, .int (nI ov))]) hx hb dL_go_272 hl (k := 11) rfl (nI_inc _ 1) (by decide) rfl (fun ls hl => ?_)
              refine lv_goto (tgt := 193) hx hb dL_go_275 (by decide) ?_
              exact ih (mo + 1) (by omega) (by omega) (Or.inr h207)  (by omega) _ _ (by rw [exLn_s1 (by omega)] at w; exact w) ls (lv_sub hl [1, 2, 3, 4, 5, 6, 7, 8, 9, 10, 11, 0] rfl)
          refine lv_iload hx hb dL_go_193 (lv_at hl 11 rfl) ?_
          refine lv_bipush (v := nI 64) hx hb dL_go_195 (by decide) ?_
          refine mi_ge hx hb (by omega) (by decide) 278 dL_go_197 (by decide) (fun h197 => ?_) (fun h197 => ?_)
          · exact cut278 (by omega)  _ _ (by rw [show mo = 64 by omega] at w; rw [show (expL (mthL (VV e) (goL (VV e) e p nn) p dy) dy) = exLn (mthL (VV e) (goL (VV e) e p nn) p dy) dy 64 from if_pos (by omega)]; exact w) ls (lv_sub hl [0, 1, 2, 3, 4, 5, 6, 7, 8, 9, 10] rfl)
          · refine lv_iload hx hb dL_go_200 (lv_at hl 9 rfl) ?_
            refine lv_bipush (v := nI 30) hx hb dL_go_202 (by decide) ?_
            refine lv_iload hx hb dL_go_204 (lv_at hl 10 rfl) ?_
            refine mi_mul hx hb dL_go_206 ?_
            refine mi_ne hx hb (by omega) (by omega) 278 dL_go_207 (by decide) (fun h207 => ?_) (fun h207 => ?_)
            · exact cut278 (by omega)  _ _ (by rw [show mo = 0 by omega, exLn_0] at w; rw [show (expL (mthL (VV e) (goL (VV e) e p nn) p dy) dy) = (mthL (VV e) (goL (VV e) e p nn) p dy) from if_neg (by omega)]; exact w) ls (lv_sub hl [0, 1, 2, 3, 4, 5, 6, 7, 8, 9, 10] rfl)
            · refine lv_iload hx hb dL_go_210 (lv_at hl 11 rfl) ?_
              refine mi_if_le hx hb (by omega) 229 dL_go_212 (by decide) (fun h212 => ?_) (fun h212 => ?_)
              · refine lv_iconst (v := nI 0) hx hb dL_go_229 (by decide) ?_
                refine lv_istore (lv' := [(12, .int (nI 0)), (0, .int (nI p)), (1, .int (nI t0)), (2, .ref (ad 7)), (3, .ref (ad 8)), (4, .ref (ad 9)), (5, .ref (ad 10)), (6, .ref (ad 11)), (7, .ref (ad 12)), (8, .ref (ad 6)), (9, .int (nI dy)), (10, .int (nI (dy / 30))), (11, .int (nI mo))]) hx hb dL_go_230 hl (by decide) rfl (fun ls hl => ?_)
                exact cut232 _ (by omega) (by omega) (Or.inr ⟨rfl, fun z => by omega⟩)  _ _ w ls (lv_sub hl [1, 2, 3, 4, 5, 6, 7, 8, 9, 10, 11, 12, 0] rfl)
              · refine lv_iload hx hb dL_go_215 (lv_at hl 11 rfl) ?_
                refine mx_Si M w (kL_expiry l D cy C ad (exLn (mthL (VV e) (goL (VV e) e p nn) p dy) dy mo) H.size mo (by omega) (by omega)) (va_cwS 1 M.1.2.2.2.2 gL_go_L_expiry rfl rfl rfl (by decide +kernel) ⟨Nat.le_of_ble_eq_true rfl, Nat.le_of_ble_eq_true rfl⟩) rfl hl.1 rfl (Nat.le_of_ble_eq_true rfl) dL_go_217 ⟨by decide, by decide⟩ (fun r217 u1 H locs hp1 w => ?_)
                obtain ⟨rfl, rfl⟩ := hp1
                refine lv_iload hx hb dL_go_220 (lv_at hl 9 rfl) ?_
                have q5 : exM mo ≤ 10000 := by unfold exM; omega
                refine mi_ne hx hb (by omega) (by omega) 229 dL_go_222 (by decide) (fun h222 => ?_) (fun h222 => ?_)
                · refine lv_iconst (v := nI 0) hx hb dL_go_229 (by decide) ?_
                  refine lv_istore (lv' := [(12, .int (nI 0)), (0, .int (nI p)), (1, .int (nI t0)), (2, .ref (ad 7)), (3, .ref (ad 8)), (4, .ref (ad 9)), (5, .ref (ad 10)), (6, .ref (ad 11)), (7, .ref (ad 12)), (8, .ref (ad 6)), (9, .int (nI dy)), (10, .int (nI (dy / 30))), (11, .int (nI mo))]) hx hb dL_go_230 hl (by decide) rfl (fun ls hl => ?_)
                  exact cut232 _ (by omega) (by omega) (Or.inr ⟨rfl, fun z => h222 z.2⟩)  _ _ w ls (lv_sub hl [1, 2, 3, 4, 5, 6, 7, 8, 9, 10, 11, 12, 0] rfl)
                · refine lv_iconst (v := nI 1) hx hb dL_go_225 (by decide) ?_
                  refine lv_goto (tgt := 230) hx hb dL_go_226 (by decide) ?_
                  refine lv_istore (lv' := [(12, .int (nI 1)), (0, .int (nI p)), (1, .int (nI t0)), (2, .ref (ad 7)), (3, .ref (ad 8)), (4, .ref (ad 9)), (5, .ref (ad 10)), (6, .ref (ad 11)), (7, .ref (ad 12)), (8, .ref (ad 6)), (9, .int (nI dy)), (10, .int (nI (dy / 30))), (11, .int (nI mo))]) hx hb dL_go_230 hl (by decide) rfl (fun ls hl => ?_)
                  exact cut232 _ (by omega) (by omega) (Or.inl ⟨rfl, by omega, h222⟩)  _ _ w ls (lv_sub hl [1, 2, 3, 4, 5, 6, 7, 8, 9, 10, 11, 12, 0] rfl)
      have cut190 : ∀  (h54 : dy ≤ t0) (H : Heap) (locs : List Loc), MO D (AW (C, ad, G cy ad e) sz) s.heap (C, ad, G cy ad (mthL (VV e) (goL (VV e) e p nn) p dy)) H locs → ∀ (ls : Array Slot), lv_has ls 14 [(0, .int (nI p)), (1, .int (nI t0)), (2, .ref (ad 7)), (3, .ref (ad 8)), (4, .ref (ad 9)), (5, .ref (ad 10)), (6, .ref (ad 11)), (7, .ref (ad 12)), (8, .ref (ad 6)), (9, .int (nI dy)), (10, .int (nI (dy / 30)))] → W p9 l e9 ({ frames := 1, cells := 0, slots := 0, locals := 29 } : Room) s m args below meth c H locs 0 0 (MQ below (va_Qv (fun (u : WT) => u = (C, ad, G cy ad (goL (VV e) e p (t0 + 1 - VV e 8 p)))) (WB D cy (AW (C, ad, G cy ad e) sz)) (AW (C, ad, G cy ad e) sz)) args s 0 0 (AW (C, ad, G cy ad e) sz)) (F0 m 190 ls []) := by
        intro h54 H locs w ls hl
        refine lv_iconst (v := nI 0) hx hb dL_go_190 (by decide) ?_
        refine lv_istore (lv' := [(11, .int (nI 0)), (0, .int (nI p)), (1, .int (nI t0)), (2, .ref (ad 7)), (3, .ref (ad 8)), (4, .ref (ad 9)), (5, .ref (ad 10)), (6, .ref (ad 11)), (7, .ref (ad 12)), (8, .ref (ad 6)), (9, .int (nI dy)), (10, .int (nI (dy / 30)))]) hx hb dL_go_191 hl (by decide) rfl (fun ls hl => ?_)
        exact cut193 (64 - 0 + 1) 0 (by omega) (by omega) (Or.inl rfl)  (by omega) _ _ (by rw [exLn_0]; exact w) ls (lv_sub hl [1, 2, 3, 4, 5, 6, 7, 8, 9, 10, 11, 0] rfl)
      have cut160 : ∀ (bk : Nat) (h84 : VV e 8 p + 30 ≤ dy) (h71 : dy = 30 * (dy / 30)) (h54 : dy ≤ t0) (hbk : bk = min ((goL (VV e) e p nn) 12 0) (ptsM (VV e) p dy)) (H : Heap) (locs : List Loc), MO D (AW (C, ad, G cy ad e) sz) s.heap (C, ad, G cy ad (goL (VV e) e p nn)) H locs → ∀ (ls : Array Slot), lv_has ls 14 [(0, .int (nI p)), (1, .int (nI t0)), (2, .ref (ad 7)), (3, .ref (ad 8)), (4, .ref (ad 9)), (5, .ref (ad 10)), (6, .ref (ad 11)), (7, .ref (ad 12)), (8, .ref (ad 6)), (9, .int (nI dy)), (10, .int (nI (dy / 30))), (12, .int (nI (ptsM (VV e) p dy)))] → W p9 l e9 ({ frames := 1, cells := 0, slots := 0, locals := 29 } : Room) s m args below meth c H locs 0 0 (MQ below (va_Qv (fun (u : WT) => u = (C, ad, G cy ad (goL (VV e) e p (t0 + 1 - VV e 8 p)))) (WB D cy (AW (C, ad, G cy ad e) sz)) (AW (C, ad, G cy ad e) sz)) args s 0 0 (AW (C, ad, G cy ad e) sz)) (F0 m 160 ls [.int (nI bk)]) := by
        intro bk h84 h71 h54 hbk H locs w ls hl
        refine lv_istore (lv' := [(13, .int (nI bk)), (0, .int (nI p)), (1, .int (nI t0)), (2, .ref (ad 7)), (3, .ref (ad 8)), (4, .ref (ad 9)), (5, .ref (ad 10)), (6, .ref (ad 11)), (7, .ref (ad 12)), (8, .ref (ad 6)), (9, .int (nI dy)), (10, .int (nI (dy / 30))), (12, .int (nI (ptsM (VV e) p dy)))]) hx hb dL_go_160 hl (by decide) rfl (fun ls hl => ?_)
        refine lv_aload hx hb dL_go_162 (lv_at hl 8 rfl) ?_
        refine lv_iconst (v := nI 0) hx hb dL_go_164 (by decide) ?_
        refine lv_dup2_11 hx hb dL_go_165 rfl rfl ?_
        refine ex_iald M w (hB 12 (by decide)) (sh_12 cy ad) (by omega) (by decide) rfl dL_go_166 ?_
        refine lv_iload hx hb dL_go_167 (lv_at hl 0 rfl) ?_
        refine mi_sub hx hb (by omega) dL_go_169 ?_
        refine ex_iast M w (hB 12 (by decide)) (sh_12 cy ad) (v := (((goL (VV e) e p nn) 12 0) - bk)) (by omega) (by decide) dL_go_170 (fun H locs w => ?_)
        refine lv_aload hx hb dL_go_171 (lv_at hl 7 rfl) ?_
        refine lv_iload hx hb dL_go_173 (lv_at hl 11 rfl) ?_
        refine lv_iload hx hb dL_go_175 (lv_at hl 12 rfl) ?_
        refine lv_iload hx hb dL_go_177 (lv_at hl 0 rfl) ?_
        refine mi_sub hx hb (by omega) dL_go_179 ?_
        refine ex_iast M w (hB 11 (by decide)) (sh_11 cy ad) (v := ((ptsM (VV e) p dy) - bk)) (by omega) (by decide) dL_go_180 (fun H locs w => ?_)
        refine lv_aload hx hb dL_go_181 (lv_at hl 8 rfl) ?_
        refine lv_iconst (v := nI 1) hx hb dL_go_183 (by decide) ?_
        refine lv_dup2_11 hx hb dL_go_184 rfl rfl ?_
        refine ex_iald M w (hB 12 (by decide)) (sh_12 cy ad) (by omega) (by decide) ((es_ne _ _ (by first | omega | (unfold PB; omega) | (unfold RB; omega) | (unfold PB RB; omega))).trans (es_ne _ _ (by first | omega | (unfold PB; omega) | (unfold RB; omega) | (unfold PB RB; omega)))) dL_go_185 ?_
        refine lv_iload hx hb dL_go_186 (lv_at hl 12 rfl) ?_
        refine mi_add hx hb dL_go_188 ?_
        refine ex_iast M w (hB 12 (by decide)) (sh_12 cy ad) (v := (((goL (VV e) e p nn) 12 1) + (ptsM (VV e) p dy))) (by omega) (by decide) dL_go_189 (fun H locs w => ?_)
        exact cut190 (by omega)  _ _ (by rw [hbk] at w; rw [show (mthL (VV e) (goL (VV e) e p nn) p dy) = _ from if_pos ⟨by omega, by omega⟩]; exact w) ls (lv_sub hl [1, 2, 3, 4, 5, 6, 7, 8, 9, 10, 11] rfl)
      have cut128 : ∀ (bn : Nat) (h84 : VV e 8 p + 30 ≤ dy) (h71 : dy = 30 * (dy / 30)) (h54 : dy ≤ t0) (hbn : bn = min (2 * (((dy - VV e 8 p) / 360) / 3)) 10) (H : Heap) (locs : List Loc), MO D (AW (C, ad, G cy ad e) sz) s.heap (C, ad, G cy ad (goL (VV e) e p nn)) H locs → ∀ (ls : Array Slot), lv_has ls 14 [(0, .int (nI p)), (1, .int (nI t0)), (2, .ref (ad 7)), (3, .ref (ad 8)), (4, .ref (ad 9)), (5, .ref (ad 10)), (6, .ref (ad 11)), (7, .ref (ad 12)), (8, .ref (ad 6)), (9, .int (nI dy)), (10, .int (nI (dy / 30)))] → W p9 l e9 ({ frames := 1, cells := 0, slots := 0, locals := 29 } : Room) s m args below meth c H locs 0 0 (MQ below (va_Qv (fun (u : WT) => u = (C, ad, G cy ad (goL (VV e) e p (t0 + 1 - VV e 8 p)))) (WB D cy (AW (C, ad, G cy ad e) sz)) (AW (C, ad, G cy ad e) sz)) args s 0 0 (AW (C, ad, G cy ad e) sz)) (F0 m 128 ls [.int (nI bn), .int (nI (VV e 9 p)), .int (nI 2)]) := by
        intro bn h84 h71 h54 hbn H locs w ls hl
        refine mi_add hx hb dL_go_128 ?_
        refine mi_mul hx hb dL_go_129 ?_
        refine lv_iload_n hx hb dL_go_130 rfl (lv_at hl 0 rfl) ?_
        refine lv_iload hx hb dL_go_131 (lv_at hl 9 rfl) ?_
        refine lv_iconst (v := nI 1) hx hb dL_go_133 (by decide) ?_
        refine mi_sub hx hb (by omega) dL_go_134 ?_
        refine lv_aload_n hx hb dL_go_135 rfl (lv_at hl 2 rfl) ?_
        refine mx_Si M w (kL_hours l D cy C ad (goL (VV e) e p nn) H.size p (dy - 1) hB hp (by rw [VV_off hO]; exact hP) (by rw [VV_off hO]; exact hD) (by omega)) (va_cwS 3 M.1.2.2.2.2 gL_go_L_hours rfl rfl rfl (by decide +kernel) ⟨Nat.le_of_ble_eq_true rfl, Nat.le_of_ble_eq_true rfl⟩) rfl hl.1 rfl (Nat.le_of_ble_eq_true rfl) dL_go_136 ⟨by decide, by decide⟩ (fun r136 u1 H locs hp1 w => ?_)
        obtain ⟨rfl, rfl⟩ := hp1
        refine W.eq (congrArg (fun z => F0 m 139 ls (.int (nI z) :: [.int (nI (2 * ((VV e 9 p) + bn)))])) (congrArg (fun z => hrM z p (dy - 1)) (VV_off hO))) ?_
        refine mi_mul hx hb dL_go_139 ?_
        refine W.eq (congrArg (fun z => F0 m 140 ls (.int (nI z) :: [])) (show 2 * (VV e 9 p + bn) * hrM (VV e) p (dy - 1) = ptsM (VV e) p dy by unfold ptsM; rw [← hbn])) ?_
        refine lv_istore (lv' := [(12, .int (nI (ptsM (VV e) p dy))), (0, .int (nI p)), (1, .int (nI t0)), (2, .ref (ad 7)), (3, .ref (ad 8)), (4, .ref (ad 9)), (5, .ref (ad 10)), (6, .ref (ad 11)), (7, .ref (ad 12)), (8, .ref (ad 6)), (9, .int (nI dy)), (10, .int (nI (dy / 30)))]) hx hb dL_go_140 hl (by decide) rfl (fun ls hl => ?_)
        refine lv_aload hx hb dL_go_142 (lv_at hl 8 rfl) ?_
        refine lv_iconst (v := nI 0) hx hb dL_go_144 (by decide) ?_
        refine ex_iald M w (hB 12 (by decide)) (sh_12 cy ad) (by omega) (by decide) rfl dL_go_145 ?_
        refine lv_iload hx hb dL_go_146 (lv_at hl 0 rfl) ?_
        refine mi_le hx hb (by omega) (by omega) 156 dL_go_148 (by decide) (fun h148 => ?_) (fun h148 => ?_)
        · refine lv_aload hx hb dL_go_156 (lv_at hl 8 rfl) ?_
          refine lv_iconst (v := nI 0) hx hb dL_go_158 (by decide) ?_
          refine ex_iald M w (hB 12 (by decide)) (sh_12 cy ad) (by omega) (by decide) rfl dL_go_159 ?_
          exact cut160 _ (by omega) (by omega) (by omega) (by omega)  _ _ w ls (lv_sub hl [1, 2, 3, 4, 5, 6, 7, 8, 9, 10, 11, 0] rfl)
        · refine lv_iload hx hb dL_go_151 (lv_at hl 0 rfl) ?_
          refine lv_goto (tgt := 160) hx hb dL_go_153 (by decide) ?_
          exact cut160 _ (by omega) (by omega) (by omega) (by omega)  _ _ w ls (lv_sub hl [1, 2, 3, 4, 5, 6, 7, 8, 9, 10, 11, 0] rfl)
      refine lv_iload hx hb dL_go_51 (lv_at hl 9 rfl) ?_
      refine lv_iload_n hx hb dL_go_53 rfl (lv_at hl 1 rfl) ?_
      refine mi_gt hx hb (by omega) (by omega) 444 dL_go_54 (by decide) (fun h54 => ?_) (fun h54 => ?_)
      · exact mx_vret M w hr (by rw [show t0 + 1 - VV e 8 p = nn by omega]) (by decide) (by decide) dL_go_444
      · refine lv_iload hx hb dL_go_57 (lv_at hl 9 rfl) ?_
        refine lv_bipush (v := nI 30) hx hb dL_go_59 (by decide) ?_
        refine mi_div hx hb (by omega) (by decide) (by decide) dL_go_61 ?_
        refine lv_istore (lv' := [(10, .int (nI (dy / 30))), (0, .int (nI p)), (1, .int (nI t0)), (2, .ref (ad 7)), (3, .ref (ad 8)), (4, .ref (ad 9)), (5, .ref (ad 10)), (6, .ref (ad 11)), (7, .ref (ad 12)), (8, .ref (ad 6)), (9, .int (nI dy))]) hx hb dL_go_62 hl (by decide) rfl (fun ls hl => ?_)
        refine lv_iload hx hb dL_go_64 (lv_at hl 10 rfl) ?_
        refine lv_bipush (v := nI 30) hx hb dL_go_66 (by decide) ?_
        refine lv_iload hx hb dL_go_68 (lv_at hl 0 rfl) ?_
        refine mi_mul hx hb dL_go_70 ?_
        refine mi_ne hx hb (by omega) (by omega) 190 dL_go_71 (by decide) (fun h71 => ?_) (fun h71 => ?_)
        · exact cut190 (by omega)  _ _ (by rw [show (mthL (VV e) (goL (VV e) e p nn) p dy) = (goL (VV e) e p nn) from if_neg (fun z => by omega)]; exact w) ls (lv_sub hl [1, 2, 3, 4, 5, 6, 7, 8, 9, 10, 0] rfl)
        · refine lv_iload hx hb dL_go_74 (lv_at hl 10 rfl) ?_
          refine lv_aload_n hx hb dL_go_76 rfl (lv_at hl 3 rfl) ?_
          refine lv_iconst (v := nI 4) hx hb dL_go_77 (by decide) ?_
          refine lv_iload_n hx hb dL_go_78 rfl (lv_at hl 1 rfl) ?_
          refine mi_mul hx hb dL_go_79 ?_
          refine ex_iald M w (hB 7 (by decide)) (sh_7 cy ad) (by omega) (by decide) (((congrFun (hO 7 (by decide) (by decide)) _).trans (rV_8 (e := e) hp))) dL_go_80 ?_
          refine lv_bipush (v := nI 30) hx hb dL_go_81 (by decide) ?_
          refine mi_add hx hb dL_go_83 ?_
          refine mi_lt hx hb (by omega) (by omega) 190 dL_go_84 (by decide) (fun h84 => ?_) (fun h84 => ?_)
          · exact cut190 (by omega)  _ _ (by rw [show (mthL (VV e) (goL (VV e) e p nn) p dy) = (goL (VV e) e p nn) from if_neg (fun z => by omega)]; exact w) ls (lv_sub hl [1, 2, 3, 4, 5, 6, 7, 8, 9, 10, 0] rfl)
          · refine lv_iload hx hb dL_go_87 (lv_at hl 10 rfl) ?_
            refine lv_aload_n hx hb dL_go_89 rfl (lv_at hl 3 rfl) ?_
            refine lv_iconst (v := nI 4) hx hb dL_go_90 (by decide) ?_
            refine lv_iload_n hx hb dL_go_91 rfl (lv_at hl 1 rfl) ?_
            refine mi_mul hx hb dL_go_92 ?_
            refine ex_iald M w (hB 7 (by decide)) (sh_7 cy ad) (by omega) (by decide) (((congrFun (hO 7 (by decide) (by decide)) _).trans (rV_8 (e := e) hp))) dL_go_93 ?_
            refine mi_sub hx hb (by omega) dL_go_94 ?_
            refine lv_sipush (v := nI 360) hx hb dL_go_95 (by decide) ?_
            refine mi_div hx hb (by omega) (by decide) (by decide) dL_go_98 ?_
            refine lv_istore (lv' := [(11, .int (nI ((dy - (VV e 8 p)) / 360))), (10, .int (nI (dy / 30))), (0, .int (nI p)), (1, .int (nI t0)), (2, .ref (ad 7)), (3, .ref (ad 8)), (4, .ref (ad 9)), (5, .ref (ad 10)), (6, .ref (ad 11)), (7, .ref (ad 12)), (8, .ref (ad 6)), (9, .int (nI dy))]) hx hb dL_go_99 hl (by decide) rfl (fun ls hl => ?_)
            refine lv_iconst (v := nI 2) hx hb dL_go_101 (by decide) ?_
            refine lv_aload_n hx hb dL_go_102 rfl (lv_at hl 4 rfl) ?_
            refine lv_iconst (v := nI 4) hx hb dL_go_103 (by decide) ?_
            refine lv_iload_n hx hb dL_go_104 rfl (lv_at hl 2 rfl) ?_
            refine mi_mul hx hb dL_go_105 ?_
            refine lv_iconst (v := nI 1) hx hb dL_go_106 (by decide) ?_
            refine mi_add hx hb dL_go_107 ?_
            refine ex_iald M w (hB 7 (by decide)) (sh_7 cy ad) (by omega) (by decide) (((congrFun (hO 7 (by decide) (by decide)) _).trans (rV_9 (e := e) hp))) dL_go_108 ?_
            refine lv_iload hx hb dL_go_109 (lv_at hl 0 rfl) ?_
            refine lv_iconst (v := nI 3) hx hb dL_go_111 (by decide) ?_
            refine mi_div hx hb (by omega) (by decide) (by decide) dL_go_112 ?_
            refine lv_iconst (v := nI 5) hx hb dL_go_113 (by decide) ?_
            refine mi_le hx hb (by omega) (by decide) 122 dL_go_114 (by decide) (fun h114 => ?_) (fun h114 => ?_)
            · refine lv_iconst (v := nI 2) hx hb dL_go_122 (by decide) ?_
              refine lv_iload hx hb dL_go_123 (lv_at hl 0 rfl) ?_
              refine lv_iconst (v := nI 3) hx hb dL_go_125 (by decide) ?_
              refine mi_div hx hb (by omega) (by decide) (by decide) dL_go_126 ?_
              refine mi_mul hx hb dL_go_127 ?_
              exact cut128 _ (by omega) (by omega) (by omega) (by omega)  _ _ w ls (lv_sub hl [2, 3, 4, 5, 6, 7, 8, 9, 10, 11, 1] rfl)
            · refine lv_bipush (v := nI 10) hx hb dL_go_117 (by decide) ?_
              refine lv_goto (tgt := 128) hx hb dL_go_119 (by decide) ?_
              exact cut128 _ (by omega) (by omega) (by omega) (by omega)  _ _ w ls (lv_sub hl [2, 3, 4, 5, 6, 7, 8, 9, 10, 11, 1] rfl)
  have cut25 : ∀ (n9 : Nat) (k : Nat) (hk : k ≤ 6) (_hm : 6 - k < n9) (H : Heap) (locs : List Loc), MO D (AW (C, ad, G cy ad e) sz) s.heap (C, ad, G cy ad (clrLn e 64 k)) H locs → ∀ (ls : Array Slot), lv_has ls 14 [(0, .int (nI p)), (1, .int (nI t0)), (2, .ref (ad 7)), (3, .ref (ad 8)), (4, .ref (ad 9)), (5, .ref (ad 10)), (6, .ref (ad 11)), (7, .ref (ad 12)), (8, .ref (ad 6)), (9, .int (nI k))] → W p9 l e9 ({ frames := 1, cells := 0, slots := 0, locals := 29 } : Room) s m args below meth c H locs 0 0 (MQ below (va_Qv (fun (u : WT) => u = (C, ad, G cy ad (goL (VV e) e p (t0 + 1 - VV e 8 p)))) (WB D cy (AW (C, ad, G cy ad e) sz)) (AW (C, ad, G cy ad e) sz)) args s 0 0 (AW (C, ad, G cy ad e) sz)) (F0 m 25 ls []) := by
    intro n9
    induction n9 with
    | zero => intro k hk _hm; exact absurd _hm (Nat.not_lt_zero _)
    | succ n9 ih =>
      intro k hk _hm H locs w ls hl
      refine lv_iload hx hb dL_go_25 (lv_at hl 9 rfl) ?_
      refine lv_bipush (v := nI 6) hx hb dL_go_27 (by decide) ?_
      refine mi_ge hx hb (by omega) (by decide) 44 dL_go_29 (by decide) (fun h29 => ?_) (fun h29 => ?_)
      · refine lv_aload_n hx hb dL_go_44 rfl (lv_at hl 2 rfl) ?_
        refine lv_iconst (v := nI 4) hx hb dL_go_45 (by decide) ?_
        refine lv_iload_n hx hb dL_go_46 rfl (lv_at hl 0 rfl) ?_
        refine mi_mul hx hb dL_go_47 ?_
        refine ex_iald M w (hB 7 (by decide)) (sh_7 cy ad) (by omega) (by decide) (((congrFun (OffL_clr e 64 k 7 (by decide) (by decide)) _).trans (rV_8 (e := e) hp))) dL_go_48 ?_
        refine lv_istore (lv' := [(9, .int (nI (VV e 8 p))), (0, .int (nI p)), (1, .int (nI t0)), (2, .ref (ad 7)), (3, .ref (ad 8)), (4, .ref (ad 9)), (5, .ref (ad 10)), (6, .ref (ad 11)), (7, .ref (ad 12)), (8, .ref (ad 6))]) hx hb dL_go_49 hl (by decide) rfl (fun ls hl => ?_)
        exact cut51 (1902 - VV e 8 p + 1) 0 (VV e 8 p) rfl (Or.inr rfl)  (by omega) _ _ (by rw [show k = 6 by omega] at w; exact w) ls (lv_sub hl [1, 2, 3, 4, 5, 6, 7, 8, 9, 0] rfl)
      · refine lv_aload hx hb dL_go_32 (lv_at hl 7 rfl) ?_
        refine lv_iload hx hb dL_go_34 (lv_at hl 9 rfl) ?_
        refine lv_iconst (v := nI 0) hx hb dL_go_36 (by decide) ?_
        refine ex_iast M w (hB 12 (by decide)) (sh_12 cy ad) (v := 0) (by omega) (by decide) dL_go_37 (fun H locs w => ?_)
        refine lv_iinc (v := nI (k + 1)) (lv' := [(9, .int (nI (k + 1))), (0, .int (nI p)), (1, .int (nI t0)), (2, .ref (ad 7)), (3, .ref (ad 8)), (4, .ref (ad 9)), (5, .ref (ad 10)), (6, .ref (ad 11)), (7, .ref (ad 12)), (8, .ref (ad 6))]) hx hb dL_go_38 hl (k := 9) rfl (nI_inc _ 1) (by decide) rfl (fun ls hl => ?_)
        refine lv_goto (tgt := 25) hx hb dL_go_41 (by decide) ?_
        exact ih (k + 1) (by omega)  (by omega) _ _ (by rw [clrLn_s2] at w; exact w) ls (lv_sub hl [1, 2, 3, 4, 5, 6, 7, 8, 9, 0] rfl)
  have cut3 : ∀ (n9 : Nat) (k : Nat) (hk : k ≤ 64) (_hm : 64 - k < n9) (H : Heap) (locs : List Loc), MO D (AW (C, ad, G cy ad e) sz) s.heap (C, ad, G cy ad (clrLn e k 0)) H locs → ∀ (ls : Array Slot), lv_has ls 14 [(0, .int (nI p)), (1, .int (nI t0)), (2, .ref (ad 7)), (3, .ref (ad 8)), (4, .ref (ad 9)), (5, .ref (ad 10)), (6, .ref (ad 11)), (7, .ref (ad 12)), (8, .ref (ad 6)), (9, .int (nI k))] → W p9 l e9 ({ frames := 1, cells := 0, slots := 0, locals := 29 } : Room) s m args below meth c H locs 0 0 (MQ below (va_Qv (fun (u : WT) => u = (C, ad, G cy ad (goL (VV e) e p (t0 + 1 - VV e 8 p)))) (WB D cy (AW (C, ad, G cy ad e) sz)) (AW (C, ad, G cy ad e) sz)) args s 0 0 (AW (C, ad, G cy ad e) sz)) (F0 m 3 ls []) := by
    intro n9
    induction n9 with
    | zero => intro k hk _hm; exact absurd _hm (Nat.not_lt_zero _)
    | succ n9 ih =>
      intro k hk _hm H locs w ls hl
      refine lv_iload hx hb dL_go_3 (lv_at hl 9 rfl) ?_
      refine lv_bipush (v := nI 64) hx hb dL_go_5 (by decide) ?_
      refine mi_ge hx hb (by omega) (by decide) 22 dL_go_7 (by decide) (fun h7 => ?_) (fun h7 => ?_)
      · refine lv_iconst (v := nI 0) hx hb dL_go_22 (by decide) ?_
        refine lv_istore (lv' := [(9, .int (nI 0)), (0, .int (nI p)), (1, .int (nI t0)), (2, .ref (ad 7)), (3, .ref (ad 8)), (4, .ref (ad 9)), (5, .ref (ad 10)), (6, .ref (ad 11)), (7, .ref (ad 12)), (8, .ref (ad 6))]) hx hb dL_go_23 hl (by decide) rfl (fun ls hl => ?_)
        exact cut25 (6 - 0 + 1) 0 (Nat.zero_le _)  (by omega) _ _ (by rw [show k = 64 by omega] at w; exact w) ls (lv_sub hl [1, 2, 3, 4, 5, 6, 7, 8, 9, 0] rfl)
      · refine lv_aload hx hb dL_go_10 (lv_at hl 6 rfl) ?_
        refine lv_iload hx hb dL_go_12 (lv_at hl 9 rfl) ?_
        refine lv_iconst (v := nI 0) hx hb dL_go_14 (by decide) ?_
        refine ex_iast M w (hB 11 (by decide)) (sh_11 cy ad) (v := 0) (by omega) (by decide) dL_go_15 (fun H locs w => ?_)
        refine lv_iinc (v := nI (k + 1)) (lv' := [(9, .int (nI (k + 1))), (0, .int (nI p)), (1, .int (nI t0)), (2, .ref (ad 7)), (3, .ref (ad 8)), (4, .ref (ad 9)), (5, .ref (ad 10)), (6, .ref (ad 11)), (7, .ref (ad 12)), (8, .ref (ad 6))]) hx hb dL_go_16 hl (k := 9) rfl (nI_inc _ 1) (by decide) rfl (fun ls hl => ?_)
        refine lv_goto (tgt := 3) hx hb dL_go_19 (by decide) ?_
        exact ih (k + 1) (by omega)  (by omega) _ _ (by rw [clrLn_s1] at w; exact w) ls (lv_sub hl [1, 2, 3, 4, 5, 6, 7, 8, 9, 0] rfl)
  have hl : lv_has ls 14 [(0, .int (nI p)), (1, .int (nI t0)), (2, .ref (ad 7)), (3, .ref (ad 8)), (4, .ref (ad 9)), (5, .ref (ad 10)), (6, .ref (ad 11)), (7, .ref (ad 12)), (8, .ref (ad 6))] := hl
  refine lv_iconst (v := nI 0) hx hb dL_go_0 (by decide) ?_
  refine lv_istore (lv' := [(9, .int (nI 0)), (0, .int (nI p)), (1, .int (nI t0)), (2, .ref (ad 7)), (3, .ref (ad 8)), (4, .ref (ad 9)), (5, .ref (ad 10)), (6, .ref (ad 11)), (7, .ref (ad 12)), (8, .ref (ad 6))]) hx hb dL_go_1 hl (by decide) rfl (fun ls hl => ?_)
  exact cut3 (64 - 0 + 1) 0 (Nat.zero_le _)  (by omega) _ _ (by rw [clrLn_0]; exact w) ls (lv_sub hl [1, 2, 3, 4, 5, 6, 7, 8, 9, 0] rfl)
