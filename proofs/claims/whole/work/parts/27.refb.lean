set_option maxHeartbeats 4000000 in
set_option maxRecDepth 100000 in
/-- LeavebankModel.dayOf(p, day) -/
theorem kX4_dayOf (l : Launch) (D : va_G) (cy : Nat → ClassId) (C : List Nat) (ad : Nat → Nat) (e : Nat → Nat → Nat) (sz : Nat) (p dy B9 : Nat) (hB : ∀ k, k < 26 → k ∈ C) (hp8 : p < 8) (hG : GM e p B9) (hB9 : B9 ≤ 40000000) (hd : dy ≤ 3600) (hsd : e 8 p ≤ dy) : Met l yX4_dayOf wsX4_dayOf ({ frames := 4, cells := 0, slots := 0, locals := 96 } : Room) (PreM D cy (C, ad, G cy ad e) sz [.ref (ad 7), .int (nI p), .int (nI dy)]) (va_Qv (fun (u : WT) => u = (C, ad, G cy ad (dayM e p dy))) (WB D cy (AW (C, ad, G cy ad e) sz)) (AW (C, ad, G cy ad e) sz)) 0 0 (AW (C, ad, G cy ad e) sz) := by
  refine mx_start (cc := cX4_dayOf) (maxL := 4) (ret := none) (by decide) rfl (Nat.le_of_ble_eq_true rfl) ?_
  intro p9 e9 s m args below meth c hsz hr hnm M w ls hl
  have hx := M.1.1
  have hb := M.1.2.1
  have inX4 : ∀ w ∈ wsX40, w ∈ wsX4_dayOf := by decide +kernel
  have f7 : Cond.fieldLink RX4 7 RX4 "start" "[I" ∈ wsX4_dayOf := by decide +kernel
  have f53 : Cond.fieldLink RX4 53 RX4 "payee" "[I" ∈ wsX4_dayOf := by decide +kernel
  have f56 : Cond.fieldLink RX4 56 RX4 "payDay" "[I" ∈ wsX4_dayOf := by decide +kernel
  have f59 : Cond.fieldLink RX4 59 RX4 "payPoints" "[I" ∈ wsX4_dayOf := by decide +kernel
  have f62 : Cond.fieldLink RX4 62 RX4 "pool" "[I" ∈ wsX4_dayOf := by decide +kernel
  have f121 : Cond.fieldLink RX4 121 RX4 "expiredSum" "I" ∈ wsX4_dayOf := by decide +kernel
  have f127 : Cond.fieldLink RX4 127 RX4 "payouts" "I" ∈ wsX4_dayOf := by decide +kernel
  have f130 : Cond.fieldLink RX4 130 RX4 "paidSum" "I" ∈ wsX4_dayOf := by decide +kernel
  obtain ⟨g1, g2, g3, g4⟩ := id hG
  have q0 := g2.1
  have q19 := g1.1.2.2.2.1
  have hO1 := OffM_mth e p dy
  have hO2 := hO1.tr (OffM_exp (mthM e p dy) dy)
  have hO3 := hO2.tr (OffM_leaves (expM (mthM e p dy) dy) (240 * lvM (expM (mthM e p dy) dy) p dy))
  have hG1 := GM_mth hG dy
  have hG2 := GM_exp hG1 dy
  have hG3 := GM_leaves hG2 (240 * lvM (expM (mthM e p dy) dy) p dy)
  have cut81 : ∀ (n9 : Nat) (i : Nat) (hi : i ≤ e 7 19) (_hm : e 7 19 - i < n9) (H : Heap) (locs : List Loc), MO D (AW (C, ad, G cy ad e) sz) s.heap (C, ad, G cy ad (payM (leavesM (expM (mthM e p dy) dy) (240 * lvM (expM (mthM e p dy) dy) p dy)) p dy i)) H locs → ∀ (ls : Array Slot), lv_has ls 4 [(0, .ref (ad 7)), (1, .int (nI p)), (2, .int (nI dy)), (3, .int (nI i))] → W p9 l e9 ({ frames := 4, cells := 0, slots := 0, locals := 96 } : Room) s m args below meth c H locs 0 0 (MQ below (va_Qv (fun (u : WT) => u = (C, ad, G cy ad (dayM e p dy))) (WB D cy (AW (C, ad, G cy ad e) sz)) (AW (C, ad, G cy ad e) sz)) args s 0 0 (AW (C, ad, G cy ad e) sz)) (F0 m 81 ls []) := by
    intro n9
    induction n9 with
    | zero => intro i hi _hm; exact absurd _hm (Nat.not_lt_zero _)
    | succ n9 ih =>
      intro i hi _hm H locs w ls hl
      have hOi : OffM e (payM (leavesM (expM (mthM e p dy) dy) (240 * lvM (expM (mthM e p dy) dy) p dy)) p dy i) := hO3.tr (OffM_pay (leavesM (expM (mthM e p dy) dy) (240 * lvM (expM (mthM e p dy) dy) p dy)) p dy i)
      refine lv_iload_n hx hb dX4_dayOf_81 rfl (lv_at hl 3 rfl) ?_
      refine lv_aload_n hx hb dX4_dayOf_82 rfl (lv_at hl 0 rfl) ?_
      refine ex_get M w (hB 7 (by decide)) (sh_7 cy ad ((payM (leavesM (expM (mthM e p dy) dy) (240 * lvM (expM (mthM e p dy) dy) p dy)) p dy i) 7)) rfl inX4 19 (by decide) f127 (congrArg (fun z => some (Value.int (nI z))) ((hOi).2 19 (by decide))) dX4_dayOf_83 ?_
      refine mi_ge hx hb (by omega) (by omega) 138 dX4_dayOf_86 (by decide) (fun h86 => ?_) (fun h86 => ?_)
      · exact mx_vret M w hr (by rw [show i = e 7 19 by omega, show dayM e p dy = payM (leavesM (expM (mthM e p dy) dy) (240 * lvM (expM (mthM e p dy) dy) p dy)) p dy (e 7 19) from rfl]) (by decide) (by decide) dX4_dayOf_138
      · have q2 := g1.2.2.2.1 i (by omega)
        have q3 := GM_pay hG3 dy i
        obtain ⟨q4, q5, q6⟩ := q2
        refine lv_aload_n hx hb dX4_dayOf_89 rfl (lv_at hl 0 rfl) ?_
        refine lv_dup hx hb dX4_dayOf_90 rfl ?_
        refine ex_get M w (hB 7 (by decide)) (sh_7 cy ad ((payM (leavesM (expM (mthM e p dy) dy) (240 * lvM (expM (mthM e p dy) dy) p dy)) p dy i) 7)) rfl inX4 28 (by decide) f130 rfl dX4_dayOf_91 ?_
        refine lv_aload_n hx hb dX4_dayOf_94 rfl (lv_at hl 0 rfl) ?_
        refine ex_get M w (hB 7 (by decide)) (sh_7 cy ad ((payM (leavesM (expM (mthM e p dy) dy) (240 * lvM (expM (mthM e p dy) dy) p dy)) p dy i) 7)) rfl inX4 20 (by decide) f53 rfl dX4_dayOf_95 ?_
        refine lv_iload_n hx hb dX4_dayOf_98 rfl (lv_at hl 3 rfl) ?_
        refine ex_iald M w (hB 22 (by decide)) (sh_22 cy ad) (by omega) (by decide) (congrFun ((hOi).1 22 (by decide) (by decide)) i) dX4_dayOf_99 ?_
        refine lv_iload_n hx hb dX4_dayOf_100 rfl (lv_at hl 1 rfl) ?_
        refine mi_ne hx hb (by omega) (by omega) 127 dX4_dayOf_101 (by decide) (fun h101 => ?_) (fun h101 => ?_)
        · refine lv_iconst (v := nI 0) hx hb dX4_dayOf_127 (by decide) ?_
          refine mi_add hx hb dX4_dayOf_128 ?_
          refine ex_put M w (hB 7 (by decide)) (sh_7 cy ad ((payM (leavesM (expM (mthM e p dy) dy) (240 * lvM (expM (mthM e p dy) dy) p dy)) p dy i) 7)) rfl inX4 tyX4 tyX4_ok nmX4 28 (by decide) f130 rfl (v := (((payM (leavesM (expM (mthM e p dy) dy) (240 * lvM (expM (mthM e p dy) dy) p dy)) p dy i) 7 28) + 0)) rfl rfl (Nat.le_of_ble_eq_true rfl) (sh_7 cy ad _) dX4_dayOf_129 (fun H locs w => ?_)
          refine lv_iinc (v := nI (i + 1)) (lv' := [(3, .int (nI (i + 1))), (0, .ref (ad 7)), (1, .int (nI p)), (2, .int (nI dy))]) hx hb dX4_dayOf_132 hl (k := 3) rfl (nI_inc _ 1) (by decide) rfl (fun ls hl => ?_)
          refine lv_goto (tgt := 81) hx hb dX4_dayOf_135 (by decide) ?_
          exact ih (i + 1) (by omega)  (by omega) _ _ (by rw [show payM (leavesM (expM (mthM e p dy) dy) (240 * lvM (expM (mthM e p dy) dy) p dy)) p dy (i + 1) = (payM (leavesM (expM (mthM e p dy) dy) (240 * lvM (expM (mthM e p dy) dy) p dy)) p dy i) from pays_0 hOi (fun z => h101 z.1)]; rw [es_id] at w; exact w) ls (lv_sub hl [1, 2, 3, 0] rfl)
        · refine lv_aload_n hx hb dX4_dayOf_104 rfl (lv_at hl 0 rfl) ?_
          refine ex_get M w (hB 7 (by decide)) (sh_7 cy ad ((payM (leavesM (expM (mthM e p dy) dy) (240 * lvM (expM (mthM e p dy) dy) p dy)) p dy i) 7)) rfl inX4 21 (by decide) f56 rfl dX4_dayOf_105 ?_
          refine lv_iload_n hx hb dX4_dayOf_108 rfl (lv_at hl 3 rfl) ?_
          refine ex_iald M w (hB 23 (by decide)) (sh_23 cy ad) (by omega) (by decide) (congrFun ((hOi).1 23 (by decide) (by decide)) i) dX4_dayOf_109 ?_
          refine lv_iload_n hx hb dX4_dayOf_110 rfl (lv_at hl 2 rfl) ?_
          refine mi_ne hx hb (by omega) (by omega) 127 dX4_dayOf_111 (by decide) (fun h111 => ?_) (fun h111 => ?_)
          · refine lv_iconst (v := nI 0) hx hb dX4_dayOf_127 (by decide) ?_
            refine mi_add hx hb dX4_dayOf_128 ?_
            refine ex_put M w (hB 7 (by decide)) (sh_7 cy ad ((payM (leavesM (expM (mthM e p dy) dy) (240 * lvM (expM (mthM e p dy) dy) p dy)) p dy i) 7)) rfl inX4 tyX4 tyX4_ok nmX4 28 (by decide) f130 rfl (v := (((payM (leavesM (expM (mthM e p dy) dy) (240 * lvM (expM (mthM e p dy) dy) p dy)) p dy i) 7 28) + 0)) rfl rfl (Nat.le_of_ble_eq_true rfl) (sh_7 cy ad _) dX4_dayOf_129 (fun H locs w => ?_)
            refine lv_iinc (v := nI (i + 1)) (lv' := [(3, .int (nI (i + 1))), (0, .ref (ad 7)), (1, .int (nI p)), (2, .int (nI dy))]) hx hb dX4_dayOf_132 hl (k := 3) rfl (nI_inc _ 1) (by decide) rfl (fun ls hl => ?_)
            refine lv_goto (tgt := 81) hx hb dX4_dayOf_135 (by decide) ?_
            exact ih (i + 1) (by omega)  (by omega) _ _ (by rw [show payM (leavesM (expM (mthM e p dy) dy) (240 * lvM (expM (mthM e p dy) dy) p dy)) p dy (i + 1) = (payM (leavesM (expM (mthM e p dy) dy) (240 * lvM (expM (mthM e p dy) dy) p dy)) p dy i) from pays_0 hOi (fun z => h111 z.2)]; rw [es_id] at w; exact w) ls (lv_sub hl [1, 2, 3, 0] rfl)
          · refine lv_aload_n hx hb dX4_dayOf_114 rfl (lv_at hl 0 rfl) ?_
            refine lv_aload_n hx hb dX4_dayOf_115 rfl (lv_at hl 0 rfl) ?_
            refine ex_get M w (hB 7 (by decide)) (sh_7 cy ad ((payM (leavesM (expM (mthM e p dy) dy) (240 * lvM (expM (mthM e p dy) dy) p dy)) p dy i) 7)) rfl inX4 22 (by decide) f59 rfl dX4_dayOf_116 ?_
            refine lv_iload_n hx hb dX4_dayOf_119 rfl (lv_at hl 3 rfl) ?_
            refine ex_iald M w (hB 24 (by decide)) (sh_24 cy ad) (by omega) (by decide) (congrFun ((hOi).1 24 (by decide) (by decide)) i) dX4_dayOf_120 ?_
            refine mx_Vi M w (kX4_draws l D cy C ad (payM (leavesM (expM (mthM e p dy) dy) (240 * lvM (expM (mthM e p dy) dy) p dy)) p dy i) H.size (e 24 i) hB (by omega) (fun y hy => by have z := q3.2.2.2 y hy; omega)) (cwV 1 M.1.2.2.2.2 gX4_dayOf_X4_draws rfl rfl rfl (by decide +kernel) ⟨Nat.le_of_ble_eq_true rfl, Nat.le_of_ble_eq_true rfl⟩) (mo_rec M w (hB 7 (by decide)) (g := G cy ad (payM (leavesM (expM (mthM e p dy) dy) (240 * lvM (expM (mthM e p dy) dy) p dy)) p dy i)) (sh_7 cy ad ((payM (leavesM (expM (mthM e p dy) dy) (240 * lvM (expM (mthM e p dy) dy) p dy)) p dy i) 7)) rfl) rfl hl.1 rfl (Nat.le_of_ble_eq_true rfl) dX4_dayOf_121 ⟨by decide, by decide⟩ (fun r121 u1 H locs hp1 w => ?_)
            obtain ⟨rfl, rfl⟩ := hp1
            refine lv_goto (tgt := 128) hx hb dX4_dayOf_124 (by decide) ?_
            refine mi_add hx hb dX4_dayOf_128 ?_
            refine ex_put M w (hB 7 (by decide)) (sh_7 cy ad ((drwM (payM (leavesM (expM (mthM e p dy) dy) (240 * lvM (expM (mthM e p dy) dy) p dy)) p dy i) (e 24 i)) 7)) rfl inX4 tyX4 tyX4_ok nmX4 28 (by decide) f130 rfl (v := (((payM (leavesM (expM (mthM e p dy) dy) (240 * lvM (expM (mthM e p dy) dy) p dy)) p dy i) 7 28) + (min (e 24 i) (totM (payM (leavesM (expM (mthM e p dy) dy) (240 * lvM (expM (mthM e p dy) dy) p dy)) p dy i))))) rfl rfl (Nat.le_of_ble_eq_true rfl) (sh_7 cy ad _) dX4_dayOf_129 (fun H locs w => ?_)
            refine lv_iinc (v := nI (i + 1)) (lv' := [(3, .int (nI (i + 1))), (0, .ref (ad 7)), (1, .int (nI p)), (2, .int (nI dy))]) hx hb dX4_dayOf_132 hl (k := 3) rfl (nI_inc _ 1) (by decide) rfl (fun ls hl => ?_)
            refine lv_goto (tgt := 81) hx hb dX4_dayOf_135 (by decide) ?_
            exact ih (i + 1) (by omega)  (by omega) _ _ (by rw [show payM (leavesM (expM (mthM e p dy) dy) (240 * lvM (expM (mthM e p dy) dy) p dy)) p dy (i + 1) = _ from pays_1 hOi h101 h111]; exact w) ls (lv_sub hl [1, 2, 3, 0] rfl)
  have cut73 : ∀   (H : Heap) (locs : List Loc), MO D (AW (C, ad, G cy ad e) sz) s.heap (C, ad, G cy ad (expM (mthM e p dy) dy)) H locs → ∀ (ls : Array Slot), lv_has ls 4 [(0, .ref (ad 7)), (1, .int (nI p)), (2, .int (nI dy))] → W p9 l e9 ({ frames := 4, cells := 0, slots := 0, locals := 96 } : Room) s m args below meth c H locs 0 0 (MQ below (va_Qv (fun (u : WT) => u = (C, ad, G cy ad (dayM e p dy))) (WB D cy (AW (C, ad, G cy ad e) sz)) (AW (C, ad, G cy ad e) sz)) args s 0 0 (AW (C, ad, G cy ad e) sz)) (F0 m 73 ls []) := by
    intro  H locs w ls hl
    refine lv_aload_n hx hb dX4_dayOf_73 rfl (lv_at hl 0 rfl) ?_
    refine lv_iload_n hx hb dX4_dayOf_74 rfl (lv_at hl 1 rfl) ?_
    refine lv_iload_n hx hb dX4_dayOf_75 rfl (lv_at hl 2 rfl) ?_
    refine mx_Vv M w (kX4_leaves l D cy C ad (expM (mthM e p dy) dy) H.size p dy (B9 + 1800) hB hp8 hG2 (by omega) hd) (cwV 2 M.1.2.2.2.2 gX4_dayOf_X4_leaves rfl rfl rfl (by decide +kernel) ⟨Nat.le_of_ble_eq_true rfl, Nat.le_of_ble_eq_true rfl⟩) (mo_rec M w (hB 7 (by decide)) (g := G cy ad (expM (mthM e p dy) dy)) (sh_7 cy ad ((expM (mthM e p dy) dy) 7)) rfl) rfl hl.1 rfl (Nat.le_of_ble_eq_true rfl) dX4_dayOf_76 ⟨by decide, by decide⟩ (fun u1 H locs hp1 w => ?_)
    obtain rfl := hp1
    refine lv_iconst (v := nI 0) hx hb dX4_dayOf_79 (by decide) ?_
    refine lv_istore_n (lv' := [(3, .int (nI 0)), (0, .ref (ad 7)), (1, .int (nI p)), (2, .int (nI dy))]) hx hb dX4_dayOf_80 rfl hl (by decide) rfl (fun ls hl => ?_)
    exact cut81 (e 7 19 - 0 + 1) 0 (Nat.zero_le _)  (by omega) _ _ w ls (lv_sub hl [1, 2, 3, 0] rfl)
  have cut26 : ∀   (H : Heap) (locs : List Loc), MO D (AW (C, ad, G cy ad e) sz) s.heap (C, ad, G cy ad (mthM e p dy)) H locs → ∀ (ls : Array Slot), lv_has ls 4 [(0, .ref (ad 7)), (1, .int (nI p)), (2, .int (nI dy))] → W p9 l e9 ({ frames := 4, cells := 0, slots := 0, locals := 96 } : Room) s m args below meth c H locs 0 0 (MQ below (va_Qv (fun (u : WT) => u = (C, ad, G cy ad (dayM e p dy))) (WB D cy (AW (C, ad, G cy ad e) sz)) (AW (C, ad, G cy ad e) sz)) args s 0 0 (AW (C, ad, G cy ad e) sz)) (F0 m 26 ls []) := by
    intro  H locs w ls hl
    refine lv_iload_n hx hb dX4_dayOf_26 rfl (lv_at hl 2 rfl) ?_
    refine lv_sipush (v := nI 360) hx hb dX4_dayOf_27 (by decide) ?_
    refine mi_rem hx hb (by omega) (by decide) (by decide) dX4_dayOf_30 ?_
    refine lv_bipush (v := nI 90) hx hb dX4_dayOf_31 (by decide) ?_
    refine mi_ne hx hb (by omega) (by decide) 73 dX4_dayOf_33 (by decide) (fun h33 => ?_) (fun h33 => ?_)
    · exact cut73  _ _ (by rw [show expM (mthM e p dy) dy = (mthM e p dy) from if_neg (fun z => h33 z.1)]; exact w) ls (lv_sub hl [0, 1, 2] rfl)
    · refine lv_iload_n hx hb dX4_dayOf_36 rfl (lv_at hl 2 rfl) ?_
      refine lv_sipush (v := nI 360) hx hb dX4_dayOf_37 (by decide) ?_
      refine mi_le hx hb (by omega) (by decide) 73 dX4_dayOf_40 (by decide) (fun h40 => ?_) (fun h40 => ?_)
      · exact cut73  _ _ (by rw [show expM (mthM e p dy) dy = (mthM e p dy) from if_neg (fun z => by omega)]; exact w) ls (lv_sub hl [0, 1, 2] rfl)
      · refine lv_iload_n hx hb dX4_dayOf_43 rfl (lv_at hl 2 rfl) ?_
        refine lv_sipush (v := nI 360) hx hb dX4_dayOf_44 (by decide) ?_
        refine mi_div hx hb (by omega) (by decide) (by decide) dX4_dayOf_47 ?_
        refine lv_iconst (v := nI 1) hx hb dX4_dayOf_48 (by decide) ?_
        refine mi_sub hx hb (by omega) dX4_dayOf_49 ?_
        refine lv_istore_n (lv' := [(3, .int (nI ((dy / 360) - 1))), (0, .ref (ad 7)), (1, .int (nI p)), (2, .int (nI dy))]) hx hb dX4_dayOf_50 rfl hl (by decide) rfl (fun ls hl => ?_)
        refine lv_aload_n hx hb dX4_dayOf_51 rfl (lv_at hl 1 rfl) ?_
        refine lv_dup hx hb dX4_dayOf_52 rfl ?_
        refine ex_get M w (hB 7 (by decide)) (sh_7 cy ad ((mthM e p dy) 7)) rfl inX4 27 (by decide) f121 rfl dX4_dayOf_53 ?_
        refine lv_aload_n hx hb dX4_dayOf_56 rfl (lv_at hl 1 rfl) ?_
        refine ex_get M w (hB 7 (by decide)) (sh_7 cy ad ((mthM e p dy) 7)) rfl inX4 23 (by decide) f62 rfl dX4_dayOf_57 ?_
        refine lv_iload_n hx hb dX4_dayOf_60 rfl (lv_at hl 0 rfl) ?_
        refine ex_iald M w (hB 25 (by decide)) (sh_25 cy ad) (by omega) (by decide) rfl dX4_dayOf_61 ?_
        refine mi_add hx hb dX4_dayOf_62 ?_
        refine ex_put M w (hB 7 (by decide)) (sh_7 cy ad ((mthM e p dy) 7)) rfl inX4 tyX4 tyX4_ok nmX4 27 (by decide) f121 rfl (v := (((mthM e p dy) 7 27) + ((mthM e p dy) 25 ((dy / 360) - 1)))) rfl rfl (Nat.le_of_ble_eq_true rfl) (sh_7 cy ad _) dX4_dayOf_63 (fun H locs w => ?_)
        refine lv_aload_n hx hb dX4_dayOf_66 rfl (lv_at hl 1 rfl) ?_
        refine ex_get M w (hB 7 (by decide)) (sh_7 cy ad ((es (mthM e p dy) 7 27 (((mthM e p dy) 7 27) + ((mthM e p dy) 25 ((dy / 360) - 1)))) 7)) rfl inX4 23 (by decide) f62 rfl dX4_dayOf_67 ?_
        refine lv_iload_n hx hb dX4_dayOf_70 rfl (lv_at hl 0 rfl) ?_
        refine lv_iconst (v := nI 0) hx hb dX4_dayOf_71 (by decide) ?_
        refine ex_iast M w (hB 25 (by decide)) (sh_25 cy ad) (v := 0) (by omega) (by decide) dX4_dayOf_72 (fun H locs w => ?_)
        exact cut73  _ _ (by rw [show expM (mthM e p dy) dy = _ from if_pos ⟨h33, h40⟩]; exact w) ls (lv_sub hl [1, 2, 3] rfl)
  have hl : lv_has ls 4 [(0, .ref (ad 7)), (1, .int (nI p)), (2, .int (nI dy))] := hl
  refine lv_iload_n hx hb dX4_dayOf_0 rfl (lv_at hl 2 rfl) ?_
  refine lv_bipush (v := nI 30) hx hb dX4_dayOf_1 (by decide) ?_
  refine mi_rem hx hb (by omega) (by decide) (by decide) dX4_dayOf_3 ?_
  refine mi_if_ne hx hb (by omega) 26 dX4_dayOf_4 (by decide) (fun h4 => ?_) (fun h4 => ?_)
  · exact cut26  _ _ (by rw [show mthM e p dy = e from if_neg (fun z => h4 z.1)]; exact w) ls (lv_sub hl [0, 1, 2] rfl)
  · refine lv_iload_n hx hb dX4_dayOf_7 rfl (lv_at hl 2 rfl) ?_
    refine lv_bipush (v := nI 30) hx hb dX4_dayOf_8 (by decide) ?_
    refine lv_isub hx hb dX4_dayOf_10 ?_
    refine lv_aload_n hx hb dX4_dayOf_11 rfl (lv_at hl 0 rfl) ?_
    refine ex_get M w (hB 7 (by decide)) (sh_7 cy ad (e 7)) rfl inX4 3 (by decide) f7 rfl dX4_dayOf_12 ?_
    refine lv_iload_n hx hb dX4_dayOf_15 rfl (lv_at hl 1 rfl) ?_
    refine ex_iald M w (hB 8 (by decide)) (sh_8 cy ad) (by omega) (by decide) rfl dX4_dayOf_16 ?_
    refine lv_icmp_lt (tgt := 26) hx hb dX4_dayOf_17 (by decide) (fun h17 => ?_) (fun h17 => ?_)
    · exact cut26  _ _ (by rw [show mthM e p dy = e from if_neg (fun z => by have z2 := (sub_lt (by omega) (by decide) (by omega)).mp h17; omega)]; exact w) ls (lv_sub hl [0, 1, 2] rfl)
    · refine lv_aload_n hx hb dX4_dayOf_20 rfl (lv_at hl 0 rfl) ?_
      refine lv_iload_n hx hb dX4_dayOf_21 rfl (lv_at hl 1 rfl) ?_
      refine lv_iload_n hx hb dX4_dayOf_22 rfl (lv_at hl 2 rfl) ?_
      have q1 : e 8 p + 30 ≤ dy := by have z := Nat.not_lt.mp (fun z => h17 ((sub_lt (by omega) (by decide) (by omega)).mpr z)); omega
      refine mx_Vv M w (kX4_earns l D cy C ad e s.heap.size p dy B9 hB hp8 hG (by omega) hd q1) (cwV 2 M.1.2.2.2.2 gX4_dayOf_X4_earns rfl rfl rfl (by decide +kernel) ⟨Nat.le_of_ble_eq_true rfl, Nat.le_of_ble_eq_true rfl⟩) (mo_rec M w (hB 7 (by decide)) (g := G cy ad e) (sh_7 cy ad (e 7)) rfl) rfl hl.1 rfl (Nat.le_of_ble_eq_true rfl) dX4_dayOf_23 ⟨by decide, by decide⟩ (fun u1 H locs hp1 w => ?_)
      obtain rfl := hp1
      exact cut26  _ _ (by rw [show mthM e p dy = earnM e p dy from if_pos ⟨h4, by have z := Nat.not_lt.mp (fun z => h17 ((sub_lt (by omega) (by decide) (by omega)).mpr z)); omega⟩]; exact w) ls (lv_sub hl [0, 1, 2] rfl)

set_option maxHeartbeats 4000000 in
set_option maxRecDepth 100000 in
/-- LeavebankModel.goes(p, last) -/
theorem kX4_goes (l : Launch) (D : va_G) (cy : Nat → ClassId) (C : List Nat) (ad : Nat → Nat) (e : Nat → Nat → Nat) (sz : Nat) (p t0 : Nat) (hB : ∀ k, k < 26 → k ∈ C) (hM : MW e) (hP : MWp e p) (hp8 : p < 8) (ht : t0 ≤ 3600) : Met l yX4_goes wsX4_goes ({ frames := 5, cells := 0, slots := 0, locals := 119 } : Room) (PreM D cy (C, ad, G cy ad e) sz [.ref (ad 7), .int (nI p), .int (nI t0)]) (va_Qv (fun (u : WT) => u = (C, ad, G cy ad (goM e p (t0 + 1 - e 8 p)))) (WB D cy (AW (C, ad, G cy ad e) sz)) (AW (C, ad, G cy ad e) sz)) 0 0 (AW (C, ad, G cy ad e) sz) := by
  refine mx_start (cc := cX4_goes) (maxL := 4) (ret := none) (by decide) rfl (Nat.le_of_ble_eq_true rfl) ?_
  intro p9 e9 s m args below meth c hsz hr hnm M w ls hl
  have hx := M.1.1
  have hb := M.1.2.1
  have inX4 : ∀ w ∈ wsX40, w ∈ wsX4_goes := by decide +kernel
  have f7 : Cond.fieldLink RX4 7 RX4 "start" "[I" ∈ wsX4_goes := by decide +kernel
  have f62 : Cond.fieldLink RX4 62 RX4 "pool" "[I" ∈ wsX4_goes := by decide +kernel
  have f94 : Cond.fieldLink RX4 94 RX4 "owed" "I" ∈ wsX4_goes := by decide +kernel
  have f97 : Cond.fieldLink RX4 97 RX4 "earnedSum" "I" ∈ wsX4_goes := by decide +kernel
  have f107 : Cond.fieldLink RX4 107 RX4 "unpaidDays" "I" ∈ wsX4_goes := by decide +kernel
  have f114 : Cond.fieldLink RX4 114 RX4 "takenSum" "I" ∈ wsX4_goes := by decide +kernel
  have f121 : Cond.fieldLink RX4 121 RX4 "expiredSum" "I" ∈ wsX4_goes := by decide +kernel
  have f130 : Cond.fieldLink RX4 130 RX4 "paidSum" "I" ∈ wsX4_goes := by decide +kernel
  have q0 := hP.1
  have cut58 : ∀ (n9 : Nat) (k dy : Nat) (hdy : dy = e 8 p + k) (hk : dy ≤ t0 + 1 ∨ k = 0) (_hm : 3602 - dy < n9) (H : Heap) (locs : List Loc), MO D (AW (C, ad, G cy ad e) sz) s.heap (C, ad, G cy ad (goM e p k)) H locs → ∀ (ls : Array Slot), lv_has ls 4 [(0, .ref (ad 7)), (1, .int (nI p)), (2, .int (nI t0)), (3, .int (nI dy))] → W p9 l e9 ({ frames := 5, cells := 0, slots := 0, locals := 119 } : Room) s m args below meth c H locs 0 0 (MQ below (va_Qv (fun (u : WT) => u = (C, ad, G cy ad (goM e p (t0 + 1 - e 8 p)))) (WB D cy (AW (C, ad, G cy ad e) sz)) (AW (C, ad, G cy ad e) sz)) args s 0 0 (AW (C, ad, G cy ad e) sz)) (F0 m 58 ls []) := by
    intro n9
    induction n9 with
    | zero => intro k dy hdy hk _hm; exact absurd _hm (Nat.not_lt_zero _)
    | succ n9 ih =>
      intro k dy hdy hk _hm H locs w ls hl
      refine lv_iload_n hx hb dX4_goes_58 rfl (lv_at hl 3 rfl) ?_
      refine lv_iload_n hx hb dX4_goes_59 rfl (lv_at hl 2 rfl) ?_
      refine mi_gt hx hb (by omega) (by omega) 75 dX4_goes_60 (by decide) (fun h60 => ?_) (fun h60 => ?_)
      · exact mx_vret M w hr (by rw [show k = t0 + 1 - e 8 p by omega]) (by decide) (by decide) dX4_goes_75
      · have hgk := GM_go hM hP k
        refine lv_aload_n hx hb dX4_goes_63 rfl (lv_at hl 0 rfl) ?_
        refine lv_iload_n hx hb dX4_goes_64 rfl (lv_at hl 1 rfl) ?_
        refine lv_iload_n hx hb dX4_goes_65 rfl (lv_at hl 3 rfl) ?_
        refine mx_Vv M w (kX4_dayOf l D cy C ad (goM e p k) H.size p dy (1800 * k) hB hp8 hgk (by omega) (by omega) (by rw [(OffM_go e p k).1 8 (by decide) (by decide)]; omega)) (cwV 2 M.1.2.2.2.2 gX4_goes_X4_dayOf rfl rfl rfl (by decide +kernel) ⟨Nat.le_of_ble_eq_true rfl, Nat.le_of_ble_eq_true rfl⟩) (mo_rec M w (hB 7 (by decide)) (g := G cy ad (goM e p k)) (sh_7 cy ad ((goM e p k) 7)) rfl) rfl hl.1 rfl (Nat.le_of_ble_eq_true rfl) dX4_goes_66 ⟨by decide, by decide⟩ (fun u1 H locs hp1 w => ?_)
        obtain rfl := hp1
        refine lv_iinc (v := nI (dy + 1)) (lv' := [(3, .int (nI (dy + 1))), (0, .ref (ad 7)), (1, .int (nI p)), (2, .int (nI t0))]) hx hb dX4_goes_69 hl (k := 3) rfl (nI_inc _ 1) (by decide) rfl (fun ls hl => ?_)
        refine lv_goto (tgt := 58) hx hb dX4_goes_72 (by decide) ?_
        exact ih (k + 1) (dy + 1) (by omega) (Or.inl (by omega))  (by omega) _ _ (by rw [show goM e p (k + 1) = dayM (goM e p k) p dy by rw [hdy]; rfl]; exact w) ls (lv_sub hl [1, 2, 3, 0] rfl)
  have cut2 : ∀ (n9 : Nat) (i : Nat) (hi : i ≤ 11) (_hm : 11 - i < n9) (H : Heap) (locs : List Loc), MO D (AW (C, ad, G cy ad e) sz) s.heap (C, ad, G cy ad (clrMn e i)) H locs → ∀ (ls : Array Slot), lv_has ls 4 [(0, .ref (ad 7)), (1, .int (nI p)), (2, .int (nI t0)), (3, .int (nI i))] → W p9 l e9 ({ frames := 5, cells := 0, slots := 0, locals := 119 } : Room) s m args below meth c H locs 0 0 (MQ below (va_Qv (fun (u : WT) => u = (C, ad, G cy ad (goM e p (t0 + 1 - e 8 p)))) (WB D cy (AW (C, ad, G cy ad e) sz)) (AW (C, ad, G cy ad e) sz)) args s 0 0 (AW (C, ad, G cy ad e) sz)) (F0 m 2 ls []) := by
    intro n9
    induction n9 with
    | zero => intro i hi _hm; exact absurd _hm (Nat.not_lt_zero _)
    | succ n9 ih =>
      intro i hi _hm H locs w ls hl
      refine lv_iload_n hx hb dX4_goes_2 rfl (lv_at hl 3 rfl) ?_
      refine lv_bipush (v := nI 11) hx hb dX4_goes_3 (by decide) ?_
      refine mi_ge hx hb (by omega) (by decide) 21 dX4_goes_5 (by decide) (fun h5 => ?_) (fun h5 => ?_)
      · rw [show i = 11 by omega] at w
        refine lv_aload_n hx hb dX4_goes_21 rfl (lv_at hl 0 rfl) ?_
        refine lv_iconst (v := nI 0) hx hb dX4_goes_22 (by decide) ?_
        refine ex_put M w (hB 7 (by decide)) (sh_7 cy ad ((clrMn e 11) 7)) rfl inX4 tyX4 tyX4_ok nmX4 24 (by decide) f94 rfl (v := 0) rfl rfl (Nat.le_of_ble_eq_true rfl) (sh_7 cy ad _) dX4_goes_23 (fun H locs w => ?_)
        refine lv_aload_n hx hb dX4_goes_26 rfl (lv_at hl 0 rfl) ?_
        refine lv_iconst (v := nI 0) hx hb dX4_goes_27 (by decide) ?_
        refine ex_put M w (hB 7 (by decide)) (sh_7 cy ad ((es (clrMn e 11) 7 24 0) 7)) rfl inX4 tyX4 tyX4_ok nmX4 25 (by decide) f97 rfl (v := 0) rfl rfl (Nat.le_of_ble_eq_true rfl) (sh_7 cy ad _) dX4_goes_28 (fun H locs w => ?_)
        refine lv_aload_n hx hb dX4_goes_31 rfl (lv_at hl 0 rfl) ?_
        refine lv_iconst (v := nI 0) hx hb dX4_goes_32 (by decide) ?_
        refine ex_put M w (hB 7 (by decide)) (sh_7 cy ad ((es (es (clrMn e 11) 7 24 0) 7 25 0) 7)) rfl inX4 tyX4 tyX4_ok nmX4 26 (by decide) f114 rfl (v := 0) rfl rfl (Nat.le_of_ble_eq_true rfl) (sh_7 cy ad _) dX4_goes_33 (fun H locs w => ?_)
        refine lv_aload_n hx hb dX4_goes_36 rfl (lv_at hl 0 rfl) ?_
        refine lv_iconst (v := nI 0) hx hb dX4_goes_37 (by decide) ?_
        refine ex_put M w (hB 7 (by decide)) (sh_7 cy ad ((es (es (es (clrMn e 11) 7 24 0) 7 25 0) 7 26 0) 7)) rfl inX4 tyX4 tyX4_ok nmX4 27 (by decide) f121 rfl (v := 0) rfl rfl (Nat.le_of_ble_eq_true rfl) (sh_7 cy ad _) dX4_goes_38 (fun H locs w => ?_)
        refine lv_aload_n hx hb dX4_goes_41 rfl (lv_at hl 0 rfl) ?_
        refine lv_iconst (v := nI 0) hx hb dX4_goes_42 (by decide) ?_
        refine ex_put M w (hB 7 (by decide)) (sh_7 cy ad ((es (es (es (es (clrMn e 11) 7 24 0) 7 25 0) 7 26 0) 7 27 0) 7)) rfl inX4 tyX4 tyX4_ok nmX4 28 (by decide) f130 rfl (v := 0) rfl rfl (Nat.le_of_ble_eq_true rfl) (sh_7 cy ad _) dX4_goes_43 (fun H locs w => ?_)
        refine lv_aload_n hx hb dX4_goes_46 rfl (lv_at hl 0 rfl) ?_
        refine lv_iconst (v := nI 0) hx hb dX4_goes_47 (by decide) ?_
        refine ex_put M w (hB 7 (by decide)) (sh_7 cy ad ((es (es (es (es (es (clrMn e 11) 7 24 0) 7 25 0) 7 26 0) 7 27 0) 7 28 0) 7)) rfl inX4 tyX4 tyX4_ok nmX4 29 (by decide) f107 rfl (v := 0) rfl rfl (Nat.le_of_ble_eq_true rfl) (sh_7 cy ad _) dX4_goes_48 (fun H locs w => ?_)
        refine lv_aload_n hx hb dX4_goes_51 rfl (lv_at hl 0 rfl) ?_
        refine ex_get M w (hB 7 (by decide)) (sh_7 cy ad ((es (es (es (es (es (es (clrMn e 11) 7 24 0) 7 25 0) 7 26 0) 7 27 0) 7 28 0) 7 29 0) 7)) rfl inX4 3 (by decide) f7 rfl dX4_goes_52 ?_
        refine lv_iload_n hx hb dX4_goes_55 rfl (lv_at hl 1 rfl) ?_
        refine ex_iald M w (hB 8 (by decide)) (sh_8 cy ad) (by omega) (by decide) ((es_ne _ _ (by first | omega | (unfold PB; omega) | (unfold RB; omega) | (unfold PB RB; omega))).trans ((es_ne _ _ (by first | omega | (unfold PB; omega) | (unfold RB; omega) | (unfold PB RB; omega))).trans ((es_ne _ _ (by first | omega | (unfold PB; omega) | (unfold RB; omega) | (unfold PB RB; omega))).trans ((es_ne _ _ (by first | omega | (unfold PB; omega) | (unfold RB; omega) | (unfold PB RB; omega))).trans ((es_ne _ _ (by first | omega | (unfold PB; omega) | (unfold RB; omega) | (unfold PB RB; omega))).trans ((es_ne _ _ (by first | omega | (unfold PB; omega) | (unfold RB; omega) | (unfold PB RB; omega))).trans (clrMn_off e 11 (by decide) _))))))) dX4_goes_56 ?_
        refine lv_istore_n (lv' := [(3, .int (nI (e 8 p))), (0, .ref (ad 7)), (1, .int (nI p)), (2, .int (nI t0))]) hx hb dX4_goes_57 rfl hl (by decide) rfl (fun ls hl => ?_)
        exact cut58 (3602 - e 8 p + 1) 0 (e 8 p) rfl (Or.inr rfl)  (by omega) _ _ (by rw [clrMn_end] at w; exact w) ls (lv_sub hl [1, 2, 3, 0] rfl)
      · refine lv_aload_n hx hb dX4_goes_8 rfl (lv_at hl 0 rfl) ?_
        refine ex_get M w (hB 7 (by decide)) (sh_7 cy ad ((clrMn e i) 7)) rfl inX4 23 (by decide) f62 rfl dX4_goes_9 ?_
        refine lv_iload_n hx hb dX4_goes_12 rfl (lv_at hl 3 rfl) ?_
        refine lv_iconst (v := nI 0) hx hb dX4_goes_13 (by decide) ?_
        refine ex_iast M w (hB 25 (by decide)) (sh_25 cy ad) (v := 0) (by omega) (by decide) dX4_goes_14 (fun H locs w => ?_)
        refine lv_iinc (v := nI (i + 1)) (lv' := [(3, .int (nI (i + 1))), (0, .ref (ad 7)), (1, .int (nI p)), (2, .int (nI t0))]) hx hb dX4_goes_15 hl (k := 3) rfl (nI_inc _ 1) (by decide) rfl (fun ls hl => ?_)
        refine lv_goto (tgt := 2) hx hb dX4_goes_18 (by decide) ?_
        exact ih (i + 1) (by omega)  (by omega) _ _ (by rw [clrMn_s] at w; exact w) ls (lv_sub hl [1, 2, 3, 0] rfl)
  have hl : lv_has ls 4 [(0, .ref (ad 7)), (1, .int (nI p)), (2, .int (nI t0))] := hl
  refine lv_iconst (v := nI 0) hx hb dX4_goes_0 (by decide) ?_
  refine lv_istore_n (lv' := [(3, .int (nI 0)), (0, .ref (ad 7)), (1, .int (nI p)), (2, .int (nI t0))]) hx hb dX4_goes_1 rfl hl (by decide) rfl (fun ls hl => ?_)
  exact cut2 (11 - 0 + 1) 0 (Nat.zero_le _)  (by omega) _ _ (by rw [clrMn_0]; exact w) ls (lv_sub hl [1, 2, 3, 0] rfl)

set_option maxHeartbeats 4000000 in
set_option maxRecDepth 100000 in
/-- LeavebankModel.thrown() -/
theorem kX4_thrown (l : Launch) (D : va_G) (cy : Nat → ClassId) (C : List Nat) (ad : Nat → Nat) (e : Nat → Nat → Nat) (sz : Nat)  (hB : ∀ k, k < 26 → k ∈ C) : Met l yX4_thrown wsX4_thrown ({ frames := 0, cells := 0, slots := 0, locals := 0 } : Room) (PreM D cy (C, ad, G cy ad e) sz [.ref (ad 7)]) (va_Qi (fun (r : Int32) (u : WT) => r = nI (e 7 0) ∧ u = (C, ad, G cy ad e)) (WB D cy (AW (C, ad, G cy ad e) sz)) (AW (C, ad, G cy ad e) sz)) 0 0 (AW (C, ad, G cy ad e) sz) := by
  refine mx_start (cc := cX4_thrown) (maxL := 1) (ret := (some .int)) (by decide) rfl (Nat.le_of_ble_eq_true rfl) ?_
  intro p9 e9 s m args below meth c hsz hr hnm M w ls hl
  have hx := M.1.1
  have hb := M.1.2.1
  have inX4 : ∀ w ∈ wsX40, w ∈ wsX4_thrown := by decide +kernel
  have f65 : Cond.fieldLink RX4 65 RX4 "thrown" "I" ∈ wsX4_thrown := by decide +kernel
  have hl : lv_has ls 1 [(0, .ref (ad 7))] := hl
  refine lv_aload_n hx hb dX4_thrown_0 rfl (lv_at hl 0 rfl) ?_
  refine ex_get M w (hB 7 (by decide)) (sh_7 cy ad (e 7)) rfl inX4 0 (by decide) f65 rfl dX4_thrown_1 ?_
  exact mx_iret M w hr (v := (nI (e 7 0))) ⟨rfl, rfl⟩ (by decide) (by decide) dX4_thrown_4

set_option maxHeartbeats 4000000 in
set_option maxRecDepth 100000 in
/-- LeavebankModel.fails(code) -/
theorem kX4_fails (l : Launch) (D : va_G) (cy : Nat → ClassId) (C : List Nat) (ad : Nat → Nat) (e : Nat → Nat → Nat) (sz : Nat) (v : Nat) (hB : ∀ k, k < 26 → k ∈ C) : Met l yX4_fails wsX4_fails ({ frames := 0, cells := 0, slots := 0, locals := 0 } : Room) (PreM D cy (C, ad, G cy ad e) sz [.ref (ad 7), .int (nI v)]) (va_Qi (fun (r : Int32) (u : WT) => r = nI 0 ∧ u = (C, ad, G cy ad (es e 7 0 v))) (WB D cy (AW (C, ad, G cy ad e) sz)) (AW (C, ad, G cy ad e) sz)) 0 0 (AW (C, ad, G cy ad e) sz) := by
  refine mx_start (cc := cX4_fails) (maxL := 2) (ret := (some .int)) (by decide) rfl (Nat.le_of_ble_eq_true rfl) ?_
  intro p9 e9 s m args below meth c hsz hr hnm M w ls hl
  have hx := M.1.1
  have hb := M.1.2.1
  have inX4 : ∀ w ∈ wsX40, w ∈ wsX4_fails := by decide +kernel
  have f65 : Cond.fieldLink RX4 65 RX4 "thrown" "I" ∈ wsX4_fails := by decide +kernel
  have hl : lv_has ls 2 [(0, .ref (ad 7)), (1, .int (nI v))] := hl
  refine lv_aload_n hx hb dX4_fails_0 rfl (lv_at hl 0 rfl) ?_
  refine lv_iload_n hx hb dX4_fails_1 rfl (lv_at hl 1 rfl) ?_
  refine ex_put M w (hB 7 (by decide)) (sh_7 cy ad (e 7)) rfl inX4 tyX4 tyX4_ok nmX4 0 (by decide) f65 rfl (v := v) rfl rfl (Nat.le_of_ble_eq_true rfl) (sh_7 cy ad _) dX4_fails_2 (fun H locs w => ?_)
  refine lv_iconst (v := nI 0) hx hb dX4_fails_5 (by decide) ?_
  exact mx_iret M w hr (v := (nI 0)) ⟨rfl, rfl⟩ (by decide) (by decide) dX4_fails_6
