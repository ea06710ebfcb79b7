set_option maxHeartbeats 4000000 in
set_option maxRecDepth 100000 in
/-- Person.hoursOn(day) -/
theorem kX1_hoursOn (l : Launch) (D : va_G) (cy : Nat → ClassId) (C : List Nat) (ad : Nat → Nat) (e : Nat → Nat → Nat) (sz : Nat) (p dy : Nat) (hp : p < 8) (hC : ∀ k, k < 9 → PB p + k ∈ C) (hCh : PCh e p) (hd : dy ≤ 3600) : Met l yX1_hoursOn wsX1_hoursOn ({ frames := 0, cells := 0, slots := 0, locals := 0 } : Room) (PreM D cy (C, ad, G cy ad e) sz [.ref (ad (PB p)), .int (nI dy)]) (va_Qi (fun (r : Int32) (u : WT) => r = nI (hrC e p dy) ∧ u = (C, ad, G cy ad e)) (WB D cy (AW (C, ad, G cy ad e) sz)) (AW (C, ad, G cy ad e) sz)) 0 0 (AW (C, ad, G cy ad e) sz) := by
  refine mx_start (cc := cX1_hoursOn) (maxL := 5) (ret := (some .int)) (by decide) rfl (Nat.le_of_ble_eq_true rfl) ?_
  intro p9 e9 s m args below meth c hsz hr hnm M w ls hl
  have hx := M.1.1
  have hb := M.1.2.1
  have inX1 : ∀ w ∈ wsX10, w ∈ wsX1_hoursOn := by decide +kernel
  have f9 : Cond.fieldLink RX1 9 RX1 "changeDays" "[I" ∈ wsX1_hoursOn := by decide +kernel
  have f15 : Cond.fieldLink RX1 15 RX1 "changeHours" "[I" ∈ wsX1_hoursOn := by decide +kernel
  have f46 : Cond.fieldLink RX1 46 RX1 "firstHours" "I" ∈ wsX1_hoursOn := by decide +kernel
  have f49 : Cond.fieldLink RX1 49 RX1 "changeCount" "I" ∈ wsX1_hoursOn := by decide +kernel
  obtain ⟨hs1, hs2⟩ := hCh
  have cut10 : ∀ (n9 : Nat) (i : Nat) (la : Int32) (hh : Nat) (hi : i ≤ e (PB p) 5) (hla : la = nI (hN (e (PB p + 1)) (e (PB p + 2)) (e (PB p) 2) dy i).1 - 1) (hhh : hh = (hN (e (PB p + 1)) (e (PB p + 2)) (e (PB p) 2) dy i).2) (_hm : e (PB p) 5 - i < n9) (H : Heap) (locs : List Loc), MO D (AW (C, ad, G cy ad e) sz) s.heap (C, ad, G cy ad e) H locs → ∀ (ls : Array Slot), lv_has ls 5 [(0, .ref (ad (PB p))), (1, .int (nI dy)), (2, .int la), (3, .int (nI hh)), (4, .int (nI i))] → W p9 l e9 ({ frames := 0, cells := 0, slots := 0, locals := 0 } : Room) s m args below meth c H locs 0 0 (MQ below (va_Qi (fun (r : Int32) (u : WT) => r = nI (hrC e p dy) ∧ u = (C, ad, G cy ad e)) (WB D cy (AW (C, ad, G cy ad e) sz)) (AW (C, ad, G cy ad e) sz)) args s 0 0 (AW (C, ad, G cy ad e) sz)) (F0 m 10 ls []) := by
    intro n9
    induction n9 with
    | zero => intro i la hh hi hla hhh _hm; exact absurd _hm (Nat.not_lt_zero _)
    | succ n9 ih =>
      intro i la hh hi hla hhh _hm H locs w ls hl
      refine lv_iload hx hb dX1_hoursOn_10 (lv_at hl 4 rfl) ?_
      refine lv_aload_n hx hb dX1_hoursOn_12 rfl (lv_at hl 0 rfl) ?_
      refine ex_get M w (show (PB p) ∈ C from hC 0 (by decide)) (sh_P0 cy ad (e (PB p)) hp) rfl inX1 5 (by decide) f49 rfl dX1_hoursOn_13 ?_
      refine mi_ge hx hb (by omega) (by omega) 63 dX1_hoursOn_16 (by decide) (fun h16 => ?_) (fun h16 => ?_)
      · refine lv_iload_n hx hb dX1_hoursOn_63 rfl (lv_at hl 3 rfl) ?_
        exact mx_iret M w hr (v := (nI hh)) ⟨by rw [hhh]; unfold hrC; rw [show e (PB p) 5 = i by omega], rfl⟩ (by decide) (by decide) dX1_hoursOn_64
      · have q1 := hs2 i h16
        have q2 := hN_le (cd := e (PB p + 1)) (ch := e (PB p + 2)) (h0 := e (PB p) 2) (day := dy) (n := i)
        refine lv_aload_n hx hb dX1_hoursOn_19 rfl (lv_at hl 0 rfl) ?_
        refine ex_get M w (show (PB p) ∈ C from hC 0 (by decide)) (sh_P0 cy ad (e (PB p)) hp) rfl inX1 3 (by decide) f9 rfl dX1_hoursOn_20 ?_
        refine lv_iload hx hb dX1_hoursOn_23 (lv_at hl 4 rfl) ?_
        refine ex_iald M w (hC 1 (by decide)) (fun v => sh_P1 cy ad v hp) (by omega) (by decide) rfl dX1_hoursOn_25 ?_
        refine lv_iload_n hx hb dX1_hoursOn_26 rfl (lv_at hl 1 rfl) ?_
        refine mi_gt hx hb (by omega) (by omega) 57 dX1_hoursOn_27 (by decide) (fun h27 => ?_) (fun h27 => ?_)
        · have e9 := hN_2 (e (PB p + 1)) (e (PB p + 2)) (e (PB p) 2) dy i (fun z => by omega)
          refine lv_iinc (v := nI (i + 1)) (lv' := [(4, .int (nI (i + 1))), (0, .ref (ad (PB p))), (1, .int (nI dy)), (2, .int la), (3, .int (nI hh))]) hx hb dX1_hoursOn_57 hl (k := 4) rfl (nI_inc _ 1) (by decide) rfl (fun ls hl => ?_)
          refine lv_goto (tgt := 10) hx hb dX1_hoursOn_60 (by decide) ?_
          exact ih (i + 1) la hh (by omega) (by rw [e9]; exact hla) (by rw [e9]; exact hhh)  (by omega) _ _ w ls (lv_sub hl [1, 2, 3, 4, 0] rfl)
        · refine lv_aload_n hx hb dX1_hoursOn_30 rfl (lv_at hl 0 rfl) ?_
          refine ex_get M w (show (PB p) ∈ C from hC 0 (by decide)) (sh_P0 cy ad (e (PB p)) hp) rfl inX1 3 (by decide) f9 rfl dX1_hoursOn_31 ?_
          refine lv_iload hx hb dX1_hoursOn_34 (lv_at hl 4 rfl) ?_
          refine ex_iald M w (hC 1 (by decide)) (fun v => sh_P1 cy ad v hp) (by omega) (by decide) rfl dX1_hoursOn_36 ?_
          refine lv_iload_n hx hb dX1_hoursOn_37 rfl (lv_at hl 2 rfl) ?_
          refine lv_icmp_le (tgt := 57) hx hb dX1_hoursOn_38 (by decide) (fun h38 => ?_) (fun h38 => ?_)
          · have e9 := hN_2 (e (PB p + 1)) (e (PB p + 2)) (e (PB p) 2) dy i (fun z => by rw [hla] at h38; have z2 := (le_m1 (by omega) (by omega)).mp h38; omega)
            refine lv_iinc (v := nI (i + 1)) (lv' := [(4, .int (nI (i + 1))), (0, .ref (ad (PB p))), (1, .int (nI dy)), (2, .int la), (3, .int (nI hh))]) hx hb dX1_hoursOn_57 hl (k := 4) rfl (nI_inc _ 1) (by decide) rfl (fun ls hl => ?_)
            refine lv_goto (tgt := 10) hx hb dX1_hoursOn_60 (by decide) ?_
            exact ih (i + 1) la hh (by omega) (by rw [e9]; exact hla) (by rw [e9]; exact hhh)  (by omega) _ _ w ls (lv_sub hl [1, 2, 3, 4, 0] rfl)
          · refine lv_aload_n hx hb dX1_hoursOn_41 rfl (lv_at hl 0 rfl) ?_
            refine ex_get M w (show (PB p) ∈ C from hC 0 (by decide)) (sh_P0 cy ad (e (PB p)) hp) rfl inX1 3 (by decide) f9 rfl dX1_hoursOn_42 ?_
            refine lv_iload hx hb dX1_hoursOn_45 (lv_at hl 4 rfl) ?_
            refine ex_iald M w (hC 1 (by decide)) (fun v => sh_P1 cy ad v hp) (by omega) (by decide) rfl dX1_hoursOn_47 ?_
            refine lv_istore_n (lv' := [(2, .int (nI (e (PB p + 1) i))), (0, .ref (ad (PB p))), (1, .int (nI dy)), (3, .int (nI hh)), (4, .int (nI i))]) hx hb dX1_hoursOn_48 rfl hl (by decide) rfl (fun ls hl => ?_)
            refine lv_aload_n hx hb dX1_hoursOn_49 rfl (lv_at hl 1 rfl) ?_
            refine ex_get M w (show (PB p) ∈ C from hC 0 (by decide)) (sh_P0 cy ad (e (PB p)) hp) rfl inX1 4 (by decide) f15 rfl dX1_hoursOn_50 ?_
            refine lv_iload hx hb dX1_hoursOn_53 (lv_at hl 4 rfl) ?_
            refine ex_iald M w (hC 2 (by decide)) (fun v => sh_P2 cy ad v hp) (by omega) (by decide) rfl dX1_hoursOn_55 ?_
            refine lv_istore_n (lv' := [(3, .int (nI (e (PB p + 2) i))), (2, .int (nI (e (PB p + 1) i))), (0, .ref (ad (PB p))), (1, .int (nI dy)), (4, .int (nI i))]) hx hb dX1_hoursOn_56 rfl hl (by decide) rfl (fun ls hl => ?_)
            have e9 := hN_1 (e (PB p + 1)) (e (PB p + 2)) (e (PB p) 2) dy i (by omega) (by rw [hla] at h38; rcases Nat.lt_or_ge (e (PB p + 1) i) (hN (e (PB p + 1)) (e (PB p + 2)) (e (PB p) 2) dy i).1 with z | z <;> first | exact z | exact absurd ((le_m1 (by omega) (by omega)).mpr z) h38)
            refine lv_iinc (v := nI (i + 1)) (lv' := [(4, .int (nI (i + 1))), (3, .int (nI (e (PB p + 2) i))), (2, .int (nI (e (PB p + 1) i))), (0, .ref (ad (PB p))), (1, .int (nI dy))]) hx hb dX1_hoursOn_57 hl (k := 4) rfl (nI_inc _ 1) (by decide) rfl (fun ls hl => ?_)
            refine lv_goto (tgt := 10) hx hb dX1_hoursOn_60 (by decide) ?_
            exact ih (i + 1) _ _ (by omega) (by rw [e9]; exact (nI_pred _).symm) (by rw [e9])  (by omega) _ _ w ls (lv_sub hl [3, 4, 2, 1, 0] rfl)
  have hl : lv_has ls 5 [(0, .ref (ad (PB p))), (1, .int (nI dy))] := hl
  refine lv_iconst (v := (-1)) hx hb dX1_hoursOn_0 (by decide) ?_
  refine lv_istore_n (lv' := [(2, .int (-1)), (0, .ref (ad (PB p))), (1, .int (nI dy))]) hx hb dX1_hoursOn_1 rfl hl (by decide) rfl (fun ls hl => ?_)
  refine lv_aload_n hx hb dX1_hoursOn_2 rfl (lv_at hl 1 rfl) ?_
  refine ex_get M w (show (PB p) ∈ C from hC 0 (by decide)) (sh_P0 cy ad (e (PB p)) hp) rfl inX1 2 (by decide) f46 rfl dX1_hoursOn_3 ?_
  refine lv_istore_n (lv' := [(3, .int (nI (e (PB p) 2))), (2, .int (-1)), (0, .ref (ad (PB p))), (1, .int (nI dy))]) hx hb dX1_hoursOn_6 rfl hl (by decide) rfl (fun ls hl => ?_)
  refine lv_iconst (v := nI 0) hx hb dX1_hoursOn_7 (by decide) ?_
  refine lv_istore (lv' := [(4, .int (nI 0)), (3, .int (nI (e (PB p) 2))), (2, .int (-1)), (0, .ref (ad (PB p))), (1, .int (nI dy))]) hx hb dX1_hoursOn_8 hl (by decide) rfl (fun ls hl => ?_)
  exact cut10 (e (PB p) 5 - 0 + 1) 0 _ _ (Nat.zero_le _) rfl rfl  (by omega) _ _ w ls (lv_sub hl [3, 4, 2, 1, 0] rfl)

set_option maxHeartbeats 4000000 in
set_option maxRecDepth 100000 in
/-- Person.leaveOn(day) -/
theorem kX1_leaveOn (l : Launch) (D : va_G) (cy : Nat → ClassId) (C : List Nat) (ad : Nat → Nat) (e : Nat → Nat → Nat) (sz : Nat) (p dy : Nat) (hp : p < 8) (hC : ∀ k, k < 9 → PB p + k ∈ C) (hd : dy ≤ 3600) : Met l yX1_leaveOn wsX1_leaveOn ({ frames := 0, cells := 0, slots := 0, locals := 0 } : Room) (PreM D cy (C, ad, G cy ad e) sz [.ref (ad (PB p)), .int (nI dy)]) (va_Qi (fun (r : Int32) (u : WT) => r = nI (e (PB p + 8) dy) ∧ u = (C, ad, G cy ad e)) (WB D cy (AW (C, ad, G cy ad e) sz)) (AW (C, ad, G cy ad e) sz)) 0 0 (AW (C, ad, G cy ad e) sz) := by
  refine mx_start (cc := cX1_leaveOn) (maxL := 2) (ret := (some .int)) (by decide) rfl (Nat.le_of_ble_eq_true rfl) ?_
  intro p9 e9 s m args below meth c hsz hr hnm M w ls hl
  have hx := M.1.1
  have hb := M.1.2.1
  have inX1 : ∀ w ∈ wsX10, w ∈ wsX1_leaveOn := by decide +kernel
  have f36 : Cond.fieldLink RX1 36 RX1 "leaveKinds" "[I" ∈ wsX1_leaveOn := by decide +kernel
  have hl : lv_has ls 2 [(0, .ref (ad (PB p))), (1, .int (nI dy))] := hl
  refine lv_iload_n hx hb dX1_leaveOn_0 rfl (lv_at hl 1 rfl) ?_
  refine mi_if_lt hx hb (by omega) 22 dX1_leaveOn_1 (by decide) (fun h => h.elim) (fun _ => ?_)
  refine lv_iload_n hx hb dX1_leaveOn_4 rfl (lv_at hl 1 rfl) ?_
  refine lv_aload_n hx hb dX1_leaveOn_5 rfl (lv_at hl 0 rfl) ?_
  refine ex_get M w (show (PB p) ∈ C from hC 0 (by decide)) (sh_P0 cy ad (e (PB p)) hp) rfl inX1 14 (by decide) f36 rfl dX1_leaveOn_6 ?_
  refine mx_alen M w (hC 8 (by decide)) 0 (g := G cy ad e) (sh_P8 cy ad _ hp) rfl (n := 3601) rfl dX1_leaveOn_9 ?_
  refine mi_ge hx hb (by omega) (by decide) 22 dX1_leaveOn_10 (by decide) (fun h10 => absurd h10 (by first | decide | omega)) (fun h10 => ?_)
  refine lv_aload_n hx hb dX1_leaveOn_13 rfl (lv_at hl 0 rfl) ?_
  refine ex_get M w (show (PB p) ∈ C from hC 0 (by decide)) (sh_P0 cy ad (e (PB p)) hp) rfl inX1 14 (by decide) f36 rfl dX1_leaveOn_14 ?_
  refine lv_iload_n hx hb dX1_leaveOn_17 rfl (lv_at hl 1 rfl) ?_
  refine ex_iald M w (hC 8 (by decide)) (fun v => sh_P8 cy ad v hp) (by omega) (by decide) rfl dX1_leaveOn_18 ?_
  refine lv_goto (tgt := 23) hx hb dX1_leaveOn_19 (by decide) ?_
  exact mx_iret M w hr (v := (nI (e (PB p + 8) dy))) ⟨rfl, rfl⟩ (by decide) (by decide) dX1_leaveOn_23

set_option maxHeartbeats 4000000 in
set_option maxRecDepth 100000 in
/-- Person.findLeave(day) -/
theorem kX1_findLeave (l : Launch) (D : va_G) (cy : Nat → ClassId) (C : List Nat) (ad : Nat → Nat) (e : Nat → Nat → Nat) (sz : Nat) (p dy nr : Nat) (hp : p < 8) (hC : ∀ k, k < 9 → PB p + k ∈ C) (hSp : PSp e p) (hRq : PRq e p nr) (hRC : ∀ q, q < nr → RB q ∈ C) (hRW : RW e nr) (hd : dy ≤ 3600) : Met l yX1_findLeave wsX1_findLeave ({ frames := 1, cells := 0, slots := 0, locals := 22 } : Room) (PreM D cy (C, ad, G cy ad e) sz [.ref (ad (PB p)), .int (nI dy)]) (va_Qi (fun (r : Int32) (u : WT) => r = nI (lvC e p dy) ∧ u = (C, ad, G cy ad e)) (WB D cy (AW (C, ad, G cy ad e) sz)) (AW (C, ad, G cy ad e) sz)) 0 0 (AW (C, ad, G cy ad e) sz) := by
  refine mx_start (cc := cX1_findLeave) (maxL := 5) (ret := (some .int)) (by decide) rfl (Nat.le_of_ble_eq_true rfl) ?_
  intro p9 e9 s m args below meth c hsz hr hnm M w ls hl
  have hx := M.1.1
  have hb := M.1.2.1
  have inX1 : ∀ w ∈ wsX10, w ∈ wsX1_findLeave := by decide +kernel
  have inX2 : ∀ w ∈ wsX20, w ∈ wsX1_findLeave := by decide +kernel
  have f20 : Cond.fieldLink RX1 20 RX1 "ownRequests" "[LLeavebank$Request;" ∈ wsX1_findLeave := by decide +kernel
  have f58 : Cond.fieldLink RX1 58 RX1 "ownRequestCount" "I" ∈ wsX1_findLeave := by decide +kernel
  have f89 : Cond.fieldLink RX1 89 RX2 "kind" "I" ∈ wsX1_findLeave := by decide +kernel
  have k52 : Cond.methodLink RX1 52 Lib.Math.max.name ∈ wsX1_findLeave := by decide +kernel
  have k52a : Cond.static Lib.Math.max.name ∈ wsX1_findLeave := by decide +kernel
  have k52b : Cond.initialized "java/lang/Math" ∈ wsX1_findLeave := by decide +kernel
  have k52c : Cond.code Lib.Math.max.name Lib.Math.max.code 2 (some .int) ∈ wsX1_findLeave := by decide +kernel
  obtain ⟨hr1, hr2⟩ := id hRq
  have cut21 : ∀ (n9 : Nat) (i k : Nat) (hi : i ≤ e (PB p) 7) (hk : k = mxN (lvfC e p dy) i) (hk2 : k ≤ 2) (hwd : dy % 7 < 5) (hsk : sckC e p dy = false) (_hm : e (PB p) 7 - i < n9) (H : Heap) (locs : List Loc), MO D (AW (C, ad, G cy ad e) sz) s.heap (C, ad, G cy ad e) H locs → ∀ (ls : Array Slot), lv_has ls 5 [(0, .ref (ad (PB p))), (1, .int (nI dy)), (2, .int (nI k)), (3, .int (nI i))] → W p9 l e9 ({ frames := 1, cells := 0, slots := 0, locals := 22 } : Room) s m args below meth c H locs 0 0 (MQ below (va_Qi (fun (r : Int32) (u : WT) => r = nI (lvC e p dy) ∧ u = (C, ad, G cy ad e)) (WB D cy (AW (C, ad, G cy ad e) sz)) (AW (C, ad, G cy ad e) sz)) args s 0 0 (AW (C, ad, G cy ad e) sz)) (F0 m 21 ls []) := by
    intro n9
    induction n9 with
    | zero => intro i k hi hk hk2 hwd hsk _hm; exact absurd _hm (Nat.not_lt_zero _)
    | succ n9 ih =>
      intro i k hi hk hk2 hwd hsk _hm H locs w ls hl
      refine lv_iload_n hx hb dX1_findLeave_21 rfl (lv_at hl 3 rfl) ?_
      refine lv_aload_n hx hb dX1_findLeave_22 rfl (lv_at hl 0 rfl) ?_
      refine ex_get M w (show (PB p) ∈ C from hC 0 (by decide)) (sh_P0 cy ad (e (PB p)) hp) rfl inX1 7 (by decide) f58 rfl dX1_findLeave_23 ?_
      refine mi_ge hx hb (by omega) (by omega) 67 dX1_findLeave_26 (by decide) (fun h26 => ?_) (fun h26 => ?_)
      · refine lv_iload_n hx hb dX1_findLeave_67 rfl (lv_at hl 2 rfl) ?_
        exact mx_iret M w hr (v := (nI k)) ⟨congrArg nI (show k = lvC e p dy by unfold lvC; rw [if_neg (fun z => z.elim (fun a => by omega) (fun a => by rw [hsk] at a; cases a)), show e (PB p) 7 = i by omega]; exact hk), rfl⟩ (by decide) (by decide) dX1_findLeave_68
      · have q1 := hr2 i h26
        have q2 := hRW (e (PB p + 3) i - 1) (by omega)
        refine lv_aload_n hx hb dX1_findLeave_29 rfl (lv_at hl 0 rfl) ?_
        refine ex_get M w (show (PB p) ∈ C from hC 0 (by decide)) (sh_P0 cy ad (e (PB p)) hp) rfl inX1 6 (by decide) f20 rfl dX1_findLeave_30 ?_
        refine lv_iload_n hx hb dX1_findLeave_33 rfl (lv_at hl 3 rfl) ?_
        refine mx_aldR M w (hC 3 (by decide)) (g := G cy ad e) (sh_P3 cy ad _ hp) (vp_in_nI (by omega) (by decide)) dX1_findLeave_34 ?_
        refine W.eq (congrArg (fun z => F0 m 35 ls (va_rf z :: [])) ((congrArg _ (nI_clamp (by omega))).trans (rfR_some (v := e (PB p + 3)) (j := i) (by omega)))) ?_
        refine lv_astore (lv' := [(4, .ref (ad (RB (e (PB p + 3) i - 1)))), (0, .ref (ad (PB p))), (1, .int (nI dy)), (2, .int (nI k)), (3, .int (nI i))]) hx hb dX1_findLeave_35 hl (by decide) rfl (fun ls hl => ?_)
        refine lv_aload hx hb dX1_findLeave_37 (lv_at hl 0 rfl) ?_
        refine lv_ifnull hx hb dX1_findLeave_39 ?_
        refine lv_aload hx hb dX1_findLeave_42 (lv_at hl 0 rfl) ?_
        refine lv_iload_n hx hb dX1_findLeave_44 rfl (lv_at hl 2 rfl) ?_
        refine mx_Vi M w (kX2_holdsOn l D cy C ad e H.size (e (PB p + 3) i - 1) dy (hRC (e (PB p + 3) i - 1) (by omega)) ⟨q2.2.1, q2.2.2.1, q2.2.2.2, hd⟩) (cwV 1 M.1.2.2.2.2 gX1_findLeave_X2_holdsOn rfl rfl rfl (by decide +kernel) ⟨Nat.le_of_ble_eq_true rfl, Nat.le_of_ble_eq_true rfl⟩) (mo_rec M w (hRC (e (PB p + 3) i - 1) (by omega)) (g := G cy ad e) (sh_RB cy ad (e (PB p + 3) i - 1) (e (RB (e (PB p + 3) i - 1)))) rfl) rfl hl.1 rfl (Nat.le_of_ble_eq_true rfl) dX1_findLeave_45 ⟨by decide, by decide⟩ (fun r45 u1 H locs hp1 w => ?_)
        obtain ⟨rfl, rfl⟩ := hp1
        refine mi_if_eq hx hb (bt_lt _) 61 dX1_findLeave_48 (by decide) (fun h48 => ?_) (fun h48 => ?_)
        · refine lv_iinc (v := nI (i + 1)) (lv' := [(3, .int (nI (i + 1))), (4, .ref (ad (RB (e (PB p + 3) i - 1)))), (0, .ref (ad (PB p))), (1, .int (nI dy)), (2, .int (nI k))]) hx hb dX1_findLeave_61 hl (k := 4) rfl (nI_inc _ 1) (by decide) rfl (fun ls hl => ?_)
          refine lv_goto (tgt := 21) hx hb dX1_findLeave_64 (by decide) ?_
          exact ih (i + 1) k (by omega) (by rw [mxN_s, ← hk, lvfC_0 (bt_f h48)]; exact (Nat.max_eq_left (Nat.zero_le _)).symm) (by omega) hwd hsk  (by omega) _ _ w ls (lv_sub hl [2, 3, 4, 0] rfl)
        · refine lv_iload_n hx hb dX1_findLeave_51 rfl (lv_at hl 3 rfl) ?_
          refine lv_aload hx hb dX1_findLeave_52 (lv_at hl 0 rfl) ?_
          refine ex_get M w (hRC (e (PB p + 3) i - 1) (by omega)) (sh_RB cy ad (e (PB p + 3) i - 1) (e (RB (e (PB p + 3) i - 1)))) rfl inX2 1 (by decide) f89 rfl dX1_findLeave_54 ?_
          refine mi_max M hl.1 k52 k52a k52b k52c (by decide) (Nat.le_of_ble_eq_true rfl) (by decide) (by decide) (by omega) (by omega) dX1_findLeave_57 ?_
          refine lv_istore_n (lv' := [(2, .int (nI (max k (e (RB (e (PB p + 3) i - 1)) 1)))), (4, .ref (ad (RB (e (PB p + 3) i - 1)))), (0, .ref (ad (PB p))), (1, .int (nI dy)), (3, .int (nI i))]) hx hb dX1_findLeave_60 rfl hl (by decide) rfl (fun ls hl => ?_)
          refine lv_iinc (v := nI (i + 1)) (lv' := [(3, .int (nI (i + 1))), (2, .int (nI (max k (e (RB (e (PB p + 3) i - 1)) 1)))), (4, .ref (ad (RB (e (PB p + 3) i - 1)))), (0, .ref (ad (PB p))), (1, .int (nI dy))]) hx hb dX1_findLeave_61 hl (k := 4) rfl (nI_inc _ 1) (by decide) rfl (fun ls hl => ?_)
          refine lv_goto (tgt := 21) hx hb dX1_findLeave_64 (by decide) ?_
          exact ih (i + 1) (max k (e (RB (e (PB p + 3) i - 1)) 1)) (by omega) (by rw [mxN_s, ← hk, lvfC_1 (bt_t h48)]) (by omega) hwd hsk  (by omega) _ _ w ls (lv_sub hl [3, 4, 1, 0] rfl)
  have hl : lv_has ls 5 [(0, .ref (ad (PB p))), (1, .int (nI dy))] := hl
  refine lv_iload_n hx hb dX1_findLeave_0 rfl (lv_at hl 1 rfl) ?_
  refine mx_SNi M w (kX3_isWorkingDay l D cy C ad e s.heap.size dy (by omega)) ⟨va_cnB 1 M.1.2.2.2.2 gX1_findLeave_X3_isWorkingDay_n79 rfl rfl rfl M.2.2.2.2.1 (M.1.2.2.2.2 _ (by decide +kernel)) (by decide +kernel) ⟨Nat.le_of_ble_eq_true rfl, Nat.le_of_ble_eq_true rfl⟩, M.1.2.2.2.2 _ (by decide +kernel), trivial⟩ rfl hl.1 rfl (Nat.le_of_ble_eq_true rfl) dX1_findLeave_1 ⟨by decide, by decide⟩ (fun r1 u1 H locs hp1 w => ?_)
  obtain ⟨rfl, rfl⟩ := hp1
  refine mi_if_eq hx hb (bt_lt _) 15 dX1_findLeave_4 (by decide) (fun h4 => ?_) (fun h4 => ?_)
  · refine lv_iconst (v := nI 0) hx hb dX1_findLeave_15 (by decide) ?_
    exact mx_iret M w hr (v := (nI 0)) ⟨congrArg nI (show 0 = lvC e p dy by unfold lvC; rw [if_pos (Or.inl (by have z := of_decide_eq_false (bt_f h4); omega))]), rfl⟩ (by decide) (by decide) dX1_findLeave_16
  · refine lv_aload_n hx hb dX1_findLeave_7 rfl (lv_at hl 0 rfl) ?_
    refine lv_iload_n hx hb dX1_findLeave_8 rfl (lv_at hl 1 rfl) ?_
    refine mx_Vi M w (kX1_isSickOn l D cy C ad e H.size p dy hp hC hSp hd) (cwV 1 M.1.2.2.2.2 gX1_findLeave_X1_isSickOn rfl rfl rfl (by decide +kernel) ⟨Nat.le_of_ble_eq_true rfl, Nat.le_of_ble_eq_true rfl⟩) (mo_rec M w (show (PB p) ∈ C from hC 0 (by decide)) (g := G cy ad e) (sh_P0 cy ad (e (PB p)) hp) rfl) rfl hl.1 rfl (Nat.le_of_ble_eq_true rfl) dX1_findLeave_9 ⟨by decide, by decide⟩ (fun r9 u1 H locs hp1 w => ?_)
    obtain ⟨rfl, rfl⟩ := hp1
    refine mi_if_eq hx hb (bt_lt _) 17 dX1_findLeave_12 (by decide) (fun h12 => ?_) (fun h12 => ?_)
    · refine lv_iconst (v := nI 0) hx hb dX1_findLeave_17 (by decide) ?_
      refine lv_istore_n (lv' := [(2, .int (nI 0)), (0, .ref (ad (PB p))), (1, .int (nI dy))]) hx hb dX1_findLeave_18 rfl hl (by decide) rfl (fun ls hl => ?_)
      refine lv_iconst (v := nI 0) hx hb dX1_findLeave_19 (by decide) ?_
      refine lv_istore_n (lv' := [(3, .int (nI 0)), (2, .int (nI 0)), (0, .ref (ad (PB p))), (1, .int (nI dy))]) hx hb dX1_findLeave_20 rfl hl (by decide) rfl (fun ls hl => ?_)
      exact cut21 (e (PB p) 7 - 0 + 1) 0 0 (Nat.zero_le _) rfl (by decide) (of_decide_eq_true (bt_t h4)) (bt_f h12)  (by omega) _ _ w ls (lv_sub hl [2, 3, 1, 0] rfl)
    · refine lv_iconst (v := nI 0) hx hb dX1_findLeave_15 (by decide) ?_
      exact mx_iret M w hr (v := (nI 0)) ⟨congrArg nI (show 0 = lvC e p dy by unfold lvC; rw [if_pos (Or.inr (bt_t h12))]), rfl⟩ (by decide) (by decide) dX1_findLeave_16

set_option maxHeartbeats 4000000 in
set_option maxRecDepth 100000 in
/-- Person.markLeave(first, last) -/
theorem kX1_markLeave (l : Launch) (D : va_G) (cy : Nat → ClassId) (C : List Nat) (ad : Nat → Nat) (e : Nat → Nat → Nat) (sz : Nat) (p f0 t0 nr : Nat) (hp : p < 8) (hC : ∀ k, k < 9 → PB p + k ∈ C) (hSp : PSp e p) (hRq : PRq e p nr) (hRC : ∀ q, q < nr → RB q ∈ C) (hRW : RW e nr) (hft : f0 ≤ t0) (ht : t0 ≤ 3600) : Met l yX1_markLeave wsX1_markLeave ({ frames := 2, cells := 0, slots := 0, locals := 46 } : Room) (PreM D cy (C, ad, G cy ad e) sz [.ref (ad (PB p)), .int (nI f0), .int (nI t0)]) (va_Qv (fun (u : WT) => u = (C, ad, G cy ad (mkC e p f0 (t0 + 1)))) (WB D cy (AW (C, ad, G cy ad e) sz)) (AW (C, ad, G cy ad e) sz)) 0 0 (AW (C, ad, G cy ad e) sz) := by
  refine mx_start (cc := cX1_markLeave) (maxL := 4) (ret := none) (by decide) rfl (Nat.le_of_ble_eq_true rfl) ?_
  intro p9 e9 s m args below meth c hsz hr hnm M w ls hl
  have hx := M.1.1
  have hb := M.1.2.1
  have inX1 : ∀ w ∈ wsX10, w ∈ wsX1_markLeave := by decide +kernel
  have f36 : Cond.fieldLink RX1 36 RX1 "leaveKinds" "[I" ∈ wsX1_markLeave := by decide +kernel
  have k52 : Cond.methodLink RX1 52 Lib.Math.max.name ∈ wsX1_markLeave := by decide +kernel
  have k52a : Cond.static Lib.Math.max.name ∈ wsX1_markLeave := by decide +kernel
  have k52b : Cond.initialized "java/lang/Math" ∈ wsX1_markLeave := by decide +kernel
  have k52c : Cond.code Lib.Math.max.name Lib.Math.max.code 2 (some .int) ∈ wsX1_markLeave := by decide +kernel
  have cut6 : ∀ (n9 : Nat) (i : Nat) (hi : f0 ≤ i) (hi2 : i ≤ t0 + 1) (_hm : 3602 - i < n9) (H : Heap) (locs : List Loc), MO D (AW (C, ad, G cy ad e) sz) s.heap (C, ad, G cy ad (mkC e p f0 i)) H locs → ∀ (ls : Array Slot), lv_has ls 4 [(0, .ref (ad (PB p))), (1, .int (nI f0)), (2, .int (nI t0)), (3, .int (nI i))] → W p9 l e9 ({ frames := 2, cells := 0, slots := 0, locals := 46 } : Room) s m args below meth c H locs 0 0 (MQ below (va_Qv (fun (u : WT) => u = (C, ad, G cy ad (mkC e p f0 (t0 + 1)))) (WB D cy (AW (C, ad, G cy ad e) sz)) (AW (C, ad, G cy ad e) sz)) args s 0 0 (AW (C, ad, G cy ad e) sz)) (F0 m 6 ls []) := by
    intro n9
    induction n9 with
    | zero => intro i hi hi2 _hm; exact absurd _hm (Nat.not_lt_zero _)
    | succ n9 ih =>
      intro i hi hi2 _hm H locs w ls hl
      refine lv_iload_n hx hb dX1_markLeave_6 rfl (lv_at hl 3 rfl) ?_
      refine lv_iload_n hx hb dX1_markLeave_7 rfl (lv_at hl 2 rfl) ?_
      refine mi_gt hx hb (by omega) (by omega) 37 dX1_markLeave_8 (by decide) (fun h8 => ?_) (fun h8 => ?_)
      · exact mx_vret M w hr (by rw [show i = t0 + 1 by omega]) (by decide) (by decide) dX1_markLeave_37
      · refine lv_iload_n hx hb dX1_markLeave_11 rfl (lv_at hl 3 rfl) ?_
        refine lv_aload_n hx hb dX1_markLeave_12 rfl (lv_at hl 0 rfl) ?_
        refine ex_get M w (show (PB p) ∈ C from hC 0 (by decide)) (sh_P0 cy ad ((mkC e p f0 i) (PB p)) hp) rfl inX1 14 (by decide) f36 rfl dX1_markLeave_13 ?_
        refine mx_alen M w (hC 8 (by decide)) 0 (g := G cy ad (mkC e p f0 i)) (sh_P8 cy ad _ hp) rfl (n := 3601) rfl dX1_markLeave_16 ?_
        refine mi_ge hx hb (by omega) (by decide) 37 dX1_markLeave_17 (by decide) (fun h17 => absurd h17 (by first | decide | omega)) (fun h17 => ?_)
        refine lv_aload_n hx hb dX1_markLeave_20 rfl (lv_at hl 0 rfl) ?_
        refine ex_get M w (show (PB p) ∈ C from hC 0 (by decide)) (sh_P0 cy ad ((mkC e p f0 i) (PB p)) hp) rfl inX1 14 (by decide) f36 rfl dX1_markLeave_21 ?_
        refine lv_iload_n hx hb dX1_markLeave_24 rfl (lv_at hl 3 rfl) ?_
        refine lv_aload_n hx hb dX1_markLeave_25 rfl (lv_at hl 0 rfl) ?_
        refine lv_iload_n hx hb dX1_markLeave_26 rfl (lv_at hl 3 rfl) ?_
        refine mx_Vi M w (kX1_findLeave l D cy C ad (mkC e p f0 i) H.size p i nr hp hC (hSp.eq (mkC_P e p f0 i)) (hRq.eq (mkC_P e p f0 i)) hRC (hRW.eq (mkC_R e hp f0 i)) (by omega)) (cwV 1 M.1.2.2.2.2 gX1_markLeave_X1_findLeave rfl rfl rfl (by decide +kernel) ⟨Nat.le_of_ble_eq_true rfl, Nat.le_of_ble_eq_true rfl⟩) (mo_rec M w (show (PB p) ∈ C from hC 0 (by decide)) (g := G cy ad (mkC e p f0 i)) (sh_P0 cy ad ((mkC e p f0 i) (PB p)) hp) rfl) rfl hl.1 rfl (Nat.le_of_ble_eq_true rfl) dX1_markLeave_27 ⟨by decide, by decide⟩ (fun r27 u1 H locs hp1 w => ?_)
        obtain ⟨rfl, rfl⟩ := hp1
        refine ex_iast M w (hC 8 (by decide)) (fun v => sh_P8 cy ad v hp) (v := (lvC (mkC e p f0 i) p i)) (by omega) (by decide) dX1_markLeave_30 (fun H locs w => ?_)
        refine lv_iinc (v := nI (i + 1)) (lv' := [(3, .int (nI (i + 1))), (0, .ref (ad (PB p))), (1, .int (nI f0)), (2, .int (nI t0))]) hx hb dX1_markLeave_31 hl (k := 3) rfl (nI_inc _ 1) (by decide) rfl (fun ls hl => ?_)
        refine lv_goto (tgt := 6) hx hb dX1_markLeave_34 (by decide) ?_
        exact ih (i + 1) (by omega) (by omega)  (by omega) _ _ (by rw [lvC_eq (mkC_P e p f0 i) (mkC_R e hp f0 i), mkC_s e p hi] at w; exact w) ls (lv_sub hl [1, 2, 3, 0] rfl)
  have hl : lv_has ls 4 [(0, .ref (ad (PB p))), (1, .int (nI f0)), (2, .int (nI t0))] := hl
  refine lv_iload_n hx hb dX1_markLeave_0 rfl (lv_at hl 1 rfl) ?_
  refine lv_iconst (v := nI 0) hx hb dX1_markLeave_1 (by decide) ?_
  refine mi_max M hl.1 k52 k52a k52b k52c (by decide) (Nat.le_of_ble_eq_true rfl) (by decide) (by decide) (by omega) (by decide) dX1_markLeave_2 ?_
  refine W.eq (congrArg (fun z => F0 m 5 ls (.int (nI z) :: [])) (Nat.max_eq_left (Nat.zero_le f0))) ?_
  refine lv_istore_n (lv' := [(3, .int (nI f0)), (0, .ref (ad (PB p))), (1, .int (nI f0)), (2, .int (nI t0))]) hx hb dX1_markLeave_5 rfl hl (by decide) rfl (fun ls hl => ?_)
  exact cut6 (3602 - f0 + 1) f0 (Nat.le_refl _) (by omega)  (by omega) _ _ (by rw [mkC_0]; exact w) ls (lv_sub hl [1, 2, 3, 0] rfl)

set_option maxHeartbeats 4000000 in
set_option maxRecDepth 100000 in
/-- Person.enterHours(day, hours) -/
theorem kX1_enterHours (l : Launch) (D : va_G) (cy : Nat → ClassId) (C : List Nat) (ad : Nat → Nat) (e : Nat → Nat → Nat) (sz : Nat) (p dy hh : Nat) (hp : p < 8) (hC : ∀ k, k < 9 → PB p + k ∈ C) (hCh : PCh e p) (hd : dy ≤ 3600) : Met l yX1_enterHours wsX1_enterHours ({ frames := 1, cells := 0, slots := 0, locals := 14 } : Room) (PreM D cy (C, ad, G cy ad e) sz [.ref (ad (PB p)), .int (nI dy), .int (nI hh)]) (va_Qi (fun (r : Int32) (u : WT) => r = nI (if (fiN (e (PB p + 1)) dy (e (PB p) 5)) < 10 then 1 else 0) ∧ u = (C, ad, G cy ad (if (fiN (e (PB p + 1)) dy (e (PB p) 5)) < 10 then ehC e p dy hh else e))) (WB D cy (AW (C, ad, G cy ad e) sz)) (AW (C, ad, G cy ad e) sz)) 0 0 (AW (C, ad, G cy ad e) sz) := by
  refine mx_start (cc := cX1_enterHours) (maxL := 4) (ret := (some .boolean)) (by decide) rfl (Nat.le_of_ble_eq_true rfl) ?_
  intro p9 e9 s m args below meth c hsz hr hnm M w ls hl
  have hx := M.1.1
  have hb := M.1.2.1
  have inX1 : ∀ w ∈ wsX10, w ∈ wsX1_enterHours := by decide +kernel
  have f9 : Cond.fieldLink RX1 9 RX1 "changeDays" "[I" ∈ wsX1_enterHours := by decide +kernel
  have f15 : Cond.fieldLink RX1 15 RX1 "changeHours" "[I" ∈ wsX1_enterHours := by decide +kernel
  have f49 : Cond.fieldLink RX1 49 RX1 "changeCount" "I" ∈ wsX1_enterHours := by decide +kernel
  have k52 : Cond.methodLink RX1 52 Lib.Math.max.name ∈ wsX1_enterHours := by decide +kernel
  have k52a : Cond.static Lib.Math.max.name ∈ wsX1_enterHours := by decide +kernel
  have k52b : Cond.initialized "java/lang/Math" ∈ wsX1_enterHours := by decide +kernel
  have k52c : Cond.code Lib.Math.max.name Lib.Math.max.code 2 (some .int) ∈ wsX1_enterHours := by decide +kernel
  obtain ⟨hs1, hs2⟩ := hCh
  have cut26 : ∀ (i : Nat) (hi : i ≤ e (PB p) 5) (hf : (fiN (e (PB p + 1)) dy (e (PB p) 5)) = i) (H : Heap) (locs : List Loc), MO D (AW (C, ad, G cy ad e) sz) s.heap (C, ad, G cy ad e) H locs → ∀ (ls : Array Slot), lv_has ls 4 [(0, .ref (ad (PB p))), (1, .int (nI dy)), (2, .int (nI hh)), (3, .int (nI i))] → W p9 l e9 ({ frames := 1, cells := 0, slots := 0, locals := 14 } : Room) s m args below meth c H locs 0 0 (MQ below (va_Qi (fun (r : Int32) (u : WT) => r = nI (if (fiN (e (PB p + 1)) dy (e (PB p) 5)) < 10 then 1 else 0) ∧ u = (C, ad, G cy ad (if (fiN (e (PB p + 1)) dy (e (PB p) 5)) < 10 then ehC e p dy hh else e))) (WB D cy (AW (C, ad, G cy ad e) sz)) (AW (C, ad, G cy ad e) sz)) args s 0 0 (AW (C, ad, G cy ad e) sz)) (F0 m 26 ls []) := by
    intro i hi hf H locs w ls hl
    refine lv_iload_n hx hb dX1_enterHours_26 rfl (lv_at hl 3 rfl) ?_
    refine lv_aload_n hx hb dX1_enterHours_27 rfl (lv_at hl 0 rfl) ?_
    refine ex_get M w (show (PB p) ∈ C from hC 0 (by decide)) (sh_P0 cy ad (e (PB p)) hp) rfl inX1 3 (by decide) f9 rfl dX1_enterHours_28 ?_
    refine mx_alen M w (hC 1 (by decide)) 0 (g := G cy ad e) (sh_P1 cy ad _ hp) rfl (n := 10) rfl dX1_enterHours_31 ?_
    refine mi_lt hx hb (by omega) (by decide) 37 dX1_enterHours_32 (by decide) (fun h32 => ?_) (fun h32 => ?_)
    · refine lv_aload_n hx hb dX1_enterHours_37 rfl (lv_at hl 0 rfl) ?_
      refine ex_get M w (show (PB p) ∈ C from hC 0 (by decide)) (sh_P0 cy ad (e (PB p)) hp) rfl inX1 3 (by decide) f9 rfl dX1_enterHours_38 ?_
      refine lv_iload_n hx hb dX1_enterHours_41 rfl (lv_at hl 3 rfl) ?_
      refine lv_iload_n hx hb dX1_enterHours_42 rfl (lv_at hl 1 rfl) ?_
      refine ex_iast M w (hC 1 (by decide)) (fun v => sh_P1 cy ad v hp) (v := dy) (by omega) (by decide) dX1_enterHours_43 (fun H locs w => ?_)
      refine lv_aload_n hx hb dX1_enterHours_44 rfl (lv_at hl 0 rfl) ?_
      refine ex_get M w (show (PB p) ∈ C from hC 0 (by decide)) (sh_P0 cy ad ((es e (PB p + 1) i dy) (PB p)) hp) rfl inX1 4 (by decide) f15 rfl dX1_enterHours_45 ?_
      refine lv_iload_n hx hb dX1_enterHours_48 rfl (lv_at hl 3 rfl) ?_
      refine lv_iload_n hx hb dX1_enterHours_49 rfl (lv_at hl 2 rfl) ?_
      refine ex_iast M w (hC 2 (by decide)) (fun v => sh_P2 cy ad v hp) (v := hh) (by omega) (by decide) dX1_enterHours_50 (fun H locs w => ?_)
      refine lv_aload_n hx hb dX1_enterHours_51 rfl (lv_at hl 0 rfl) ?_
      refine lv_aload_n hx hb dX1_enterHours_52 rfl (lv_at hl 0 rfl) ?_
      refine ex_get M w (show (PB p) ∈ C from hC 0 (by decide)) (sh_P0 cy ad ((es (es e (PB p + 1) i dy) (PB p + 2) i hh) (PB p)) hp) rfl inX1 5 (by decide) f49 (congrArg (fun z => some (Value.int (nI z))) ((es_ne _ _ (by first | omega | (unfold PB; omega) | (unfold RB; omega) | (unfold PB RB; omega))).trans (es_ne _ _ (by first | omega | (unfold PB; omega) | (unfold RB; omega) | (unfold PB RB; omega))))) dX1_enterHours_53 ?_
      refine lv_iload_n hx hb dX1_enterHours_56 rfl (lv_at hl 3 rfl) ?_
      refine lv_iconst (v := nI 1) hx hb dX1_enterHours_57 (by decide) ?_
      refine mi_add hx hb dX1_enterHours_58 ?_
      refine mi_max M hl.1 k52 k52a k52b k52c (by decide) (Nat.le_of_ble_eq_true rfl) (by decide) (by decide) (by omega) (by omega) dX1_enterHours_59 ?_
      refine ex_put M w (show (PB p) ∈ C from hC 0 (by decide)) (sh_P0 cy ad ((es (es e (PB p + 1) i dy) (PB p + 2) i hh) (PB p)) hp) rfl inX1 tyX1 tyX1_ok nmX1 5 (by decide) f49 rfl (v := (max (e (PB p) 5) (i + 1))) rfl rfl (Nat.le_of_ble_eq_true rfl) (sh_P0 cy ad _ hp) dX1_enterHours_62 (fun H locs w => ?_)
      refine lv_iconst (v := nI 1) hx hb dX1_enterHours_65 (by decide) ?_
      exact mx_zret M w hr (v := (nI 1)) (by first | exact Or.inl rfl | exact Or.inr rfl) ⟨by rw [if_pos (by omega)], by rw [if_pos (by omega)]; unfold ehC; rw [hf]⟩ (by decide) (by decide) dX1_enterHours_66
    · refine lv_iconst (v := nI 0) hx hb dX1_enterHours_35 (by decide) ?_
      exact mx_zret M w hr (v := (nI 0)) (by first | exact Or.inl rfl | exact Or.inr rfl) ⟨by rw [if_neg (by omega)], by rw [if_neg (by omega)]⟩ (by decide) (by decide) dX1_enterHours_36
  have cut2 : ∀ (n9 : Nat) (i : Nat) (hi : i ≤ e (PB p) 5) (hno : ∀ k, k < i → e (PB p + 1) k ≠ dy) (_hm : e (PB p) 5 - i < n9) (H : Heap) (locs : List Loc), MO D (AW (C, ad, G cy ad e) sz) s.heap (C, ad, G cy ad e) H locs → ∀ (ls : Array Slot), lv_has ls 4 [(0, .ref (ad (PB p))), (1, .int (nI dy)), (2, .int (nI hh)), (3, .int (nI i))] → W p9 l e9 ({ frames := 1, cells := 0, slots := 0, locals := 14 } : Room) s m args below meth c H locs 0 0 (MQ below (va_Qi (fun (r : Int32) (u : WT) => r = nI (if (fiN (e (PB p + 1)) dy (e (PB p) 5)) < 10 then 1 else 0) ∧ u = (C, ad, G cy ad (if (fiN (e (PB p + 1)) dy (e (PB p) 5)) < 10 then ehC e p dy hh else e))) (WB D cy (AW (C, ad, G cy ad e) sz)) (AW (C, ad, G cy ad e) sz)) args s 0 0 (AW (C, ad, G cy ad e) sz)) (F0 m 2 ls []) := by
    intro n9
    induction n9 with
    | zero => intro i hi hno _hm; exact absurd _hm (Nat.not_lt_zero _)
    | succ n9 ih =>
      intro i hi hno _hm H locs w ls hl
      refine lv_iload_n hx hb dX1_enterHours_2 rfl (lv_at hl 3 rfl) ?_
      refine lv_aload_n hx hb dX1_enterHours_3 rfl (lv_at hl 0 rfl) ?_
      refine ex_get M w (show (PB p) ∈ C from hC 0 (by decide)) (sh_P0 cy ad (e (PB p)) hp) rfl inX1 5 (by decide) f49 rfl dX1_enterHours_4 ?_
      refine mi_ge hx hb (by omega) (by omega) 26 dX1_enterHours_7 (by decide) (fun h7 => ?_) (fun h7 => ?_)
      · exact cut26 i (by omega) ((fiN_none (fun k hk => hno k (by omega))).trans (by omega))  _ _ w ls (lv_sub hl [0, 1, 2, 3] rfl)
      · have q1 := hs2 i h7
        refine lv_aload_n hx hb dX1_enterHours_10 rfl (lv_at hl 0 rfl) ?_
        refine ex_get M w (show (PB p) ∈ C from hC 0 (by decide)) (sh_P0 cy ad (e (PB p)) hp) rfl inX1 3 (by decide) f9 rfl dX1_enterHours_11 ?_
        refine lv_iload_n hx hb dX1_enterHours_14 rfl (lv_at hl 3 rfl) ?_
        refine ex_iald M w (hC 1 (by decide)) (fun v => sh_P1 cy ad v hp) (by omega) (by decide) rfl dX1_enterHours_15 ?_
        refine lv_iload_n hx hb dX1_enterHours_16 rfl (lv_at hl 1 rfl) ?_
        refine mi_eq hx hb (by omega) (by omega) 26 dX1_enterHours_17 (by decide) (fun h17 => ?_) (fun h17 => ?_)
        · exact cut26 i (by omega) (fiN_at h7 hno h17)  _ _ w ls (lv_sub hl [0, 1, 2, 3] rfl)
        · refine lv_iinc (v := nI (i + 1)) (lv' := [(3, .int (nI (i + 1))), (0, .ref (ad (PB p))), (1, .int (nI dy)), (2, .int (nI hh))]) hx hb dX1_enterHours_20 hl (k := 3) rfl (nI_inc _ 1) (by decide) rfl (fun ls hl => ?_)
          refine lv_goto (tgt := 2) hx hb dX1_enterHours_23 (by decide) ?_
          exact ih (i + 1) (by omega) (fun k hk => by rcases Nat.lt_or_ge k i with z | z; exact hno k z; rw [show k = i by omega]; exact h17)  (by omega) _ _ w ls (lv_sub hl [1, 2, 3, 0] rfl)
  have hl : lv_has ls 4 [(0, .ref (ad (PB p))), (1, .int (nI dy)), (2, .int (nI hh))] := hl
  refine lv_iconst (v := nI 0) hx hb dX1_enterHours_0 (by decide) ?_
  refine lv_istore_n (lv' := [(3, .int (nI 0)), (0, .ref (ad (PB p))), (1, .int (nI dy)), (2, .int (nI hh))]) hx hb dX1_enterHours_1 rfl hl (by decide) rfl (fun ls hl => ?_)
  exact cut2 (e (PB p) 5 - 0 + 1) 0 (Nat.zero_le _) (fun k hk => absurd hk (Nat.not_lt_zero k))  (by omega) _ _ w ls (lv_sub hl [1, 2, 3, 0] rfl)

set_option maxHeartbeats 4000000 in
set_option maxRecDepth 100000 in
/-- Person.enterRequest(entered) -/
theorem kX1_enterRequest (l : Launch) (D : va_G) (cy : Nat → ClassId) (C : List Nat) (ad : Nat → Nat) (e : Nat → Nat → Nat) (sz : Nat) (p q nr : Nat) (hp : p < 8) (hC : ∀ k, k < 9 → PB p + k ∈ C) (hSp : PSp e p) (hRq : PRq e p nr) (hRC : ∀ q, q < nr → RB q ∈ C) (hRW : RW e nr) (hq : q < nr) (hn : e (PB p) 7 < 40) (hft : e (RB q) 2 ≤ e (RB q) 3) : Met l yX1_enterRequest wsX1_enterRequest ({ frames := 3, cells := 0, slots := 0, locals := 69 } : Room) (PreM D cy (C, ad, G cy ad e) sz [.ref (ad (PB p)), .ref (ad (RB q))]) (va_Qv (fun (u : WT) => u = (C, ad, G cy ad (erC e p q))) (WB D cy (AW (C, ad, G cy ad e) sz)) (AW (C, ad, G cy ad e) sz)) 0 0 (AW (C, ad, G cy ad e) sz) := by
  refine mx_start (cc := cX1_enterRequest) (maxL := 2) (ret := none) (by decide) rfl (Nat.le_of_ble_eq_true rfl) ?_
  intro p9 e9 s m args below meth c hsz hr hnm M w ls hl
  have hx := M.1.1
  have hb := M.1.2.1
  have inX1 : ∀ w ∈ wsX10, w ∈ wsX1_enterRequest := by decide +kernel
  have inX2 : ∀ w ∈ wsX20, w ∈ wsX1_enterRequest := by decide +kernel
  have f20 : Cond.fieldLink RX1 20 RX1 "ownRequests" "[LLeavebank$Request;" ∈ wsX1_enterRequest := by decide +kernel
  have f58 : Cond.fieldLink RX1 58 RX1 "ownRequestCount" "I" ∈ wsX1_enterRequest := by decide +kernel
  have f61 : Cond.fieldLink RX1 61 RX2 "firstDay" "I" ∈ wsX1_enterRequest := by decide +kernel
  have f62 : Cond.fieldLink RX1 62 RX2 "lastDay" "I" ∈ wsX1_enterRequest := by decide +kernel
  have hqw := hRW q hq
  have hl : lv_has ls 2 [(0, .ref (ad (PB p))), (1, .ref (ad (RB q)))] := hl
  refine lv_aload_n hx hb dX1_enterRequest_0 rfl (lv_at hl 0 rfl) ?_
  refine ex_get M w (show (PB p) ∈ C from hC 0 (by decide)) (sh_P0 cy ad (e (PB p)) hp) rfl inX1 7 (by decide) f58 rfl dX1_enterRequest_1 ?_
  refine lv_aload_n hx hb dX1_enterRequest_4 rfl (lv_at hl 0 rfl) ?_
  refine ex_get M w (show (PB p) ∈ C from hC 0 (by decide)) (sh_P0 cy ad (e (PB p)) hp) rfl inX1 6 (by decide) f20 rfl dX1_enterRequest_5 ?_
  refine mx_alen M w (hC 3 (by decide)) 3 (g := G cy ad e) (sh_P3 cy ad _ hp) rfl (n := 40) rfl dX1_enterRequest_8 ?_
  refine mi_ge hx hb (by omega) (by decide) 44 dX1_enterRequest_9 (by decide) (fun h9 => absurd h9 (by first | decide | omega)) (fun h9 => ?_)
  refine lv_aload_n hx hb dX1_enterRequest_12 rfl (lv_at hl 0 rfl) ?_
  refine ex_get M w (show (PB p) ∈ C from hC 0 (by decide)) (sh_P0 cy ad (e (PB p)) hp) rfl inX1 6 (by decide) f20 rfl dX1_enterRequest_13 ?_
  refine lv_aload_n hx hb dX1_enterRequest_16 rfl (lv_at hl 0 rfl) ?_
  refine ex_get M w (show (PB p) ∈ C from hC 0 (by decide)) (sh_P0 cy ad (e (PB p)) hp) rfl inX1 7 (by decide) f58 rfl dX1_enterRequest_17 ?_
  refine lv_aload_n hx hb dX1_enterRequest_20 rfl (lv_at hl 1 rfl) ?_
  refine ex_astR M w (hC 3 (by decide)) (fun v => sh_P3 cy ad v hp) (q := q) (hRC q hq) (by omega) (by decide) dX1_enterRequest_21 (fun H locs w => ?_)
  refine lv_aload_n hx hb dX1_enterRequest_22 rfl (lv_at hl 0 rfl) ?_
  refine lv_dup hx hb dX1_enterRequest_23 rfl ?_
  refine ex_get M w (show (PB p) ∈ C from hC 0 (by decide)) (sh_P0 cy ad ((es e (PB p + 3) (e (PB p) 7) (q + 1)) (PB p)) hp) rfl inX1 7 (by decide) f58 (congrArg (fun z => some (Value.int (nI z))) (es_ne _ _ (by first | omega | (unfold PB; omega) | (unfold RB; omega) | (unfold PB RB; omega)))) dX1_enterRequest_24 ?_
  refine lv_iconst (v := nI 1) hx hb dX1_enterRequest_27 (by decide) ?_
  refine mi_add hx hb dX1_enterRequest_28 ?_
  refine ex_put M w (show (PB p) ∈ C from hC 0 (by decide)) (sh_P0 cy ad ((es e (PB p + 3) (e (PB p) 7) (q + 1)) (PB p)) hp) rfl inX1 tyX1 tyX1_ok nmX1 7 (by decide) f58 rfl (v := ((e (PB p) 7) + 1)) rfl rfl (Nat.le_of_ble_eq_true rfl) (sh_P0 cy ad _ hp) dX1_enterRequest_29 (fun H locs w => ?_)
  refine lv_aload_n hx hb dX1_enterRequest_32 rfl (lv_at hl 0 rfl) ?_
  refine lv_aload_n hx hb dX1_enterRequest_33 rfl (lv_at hl 1 rfl) ?_
  refine ex_get M w (hRC q hq) (sh_RB cy ad q ((es (es e (PB p + 3) (e (PB p) 7) (q + 1)) (PB p) 7 ((e (PB p) 7) + 1)) (RB q))) rfl inX2 2 (by decide) f61 (congrArg (fun z => some (Value.int (nI z))) ((es_ne _ _ (by first | omega | (unfold PB; omega) | (unfold RB; omega) | (unfold PB RB; omega))).trans (es_ne _ _ (by first | omega | (unfold PB; omega) | (unfold RB; omega) | (unfold PB RB; omega))))) dX1_enterRequest_34 ?_
  refine lv_aload_n hx hb dX1_enterRequest_37 rfl (lv_at hl 1 rfl) ?_
  refine ex_get M w (hRC q hq) (sh_RB cy ad q ((es (es e (PB p + 3) (e (PB p) 7) (q + 1)) (PB p) 7 ((e (PB p) 7) + 1)) (RB q))) rfl inX2 3 (by decide) f62 (congrArg (fun z => some (Value.int (nI z))) ((es_ne _ _ (by first | omega | (unfold PB; omega) | (unfold RB; omega) | (unfold PB RB; omega))).trans (es_ne _ _ (by first | omega | (unfold PB; omega) | (unfold RB; omega) | (unfold PB RB; omega))))) dX1_enterRequest_38 ?_
  refine mx_Vv M w (kX1_markLeave l D cy C ad (es (es e (PB p + 3) (e (PB p) 7) (q + 1)) (PB p) 7 ((e (PB p) 7) + 1)) H.size p (e (RB q) 2) (e (RB q) 3) nr hp hC (erC0_Sp q hSp) (erC0_Rq hRq hq hn) hRC (hRW.eq (erC0_R e hp q)) hft hqw.2.2.1) (cwV 2 M.1.2.2.2.2 gX1_enterRequest_X1_markLeave rfl rfl rfl (by decide +kernel) ⟨Nat.le_of_ble_eq_true rfl, Nat.le_of_ble_eq_true rfl⟩) (mo_rec M w (show (PB p) ∈ C from hC 0 (by decide)) (g := G cy ad (es (es e (PB p + 3) (e (PB p) 7) (q + 1)) (PB p) 7 ((e (PB p) 7) + 1))) (sh_P0 cy ad ((es (es e (PB p + 3) (e (PB p) 7) (q + 1)) (PB p) 7 ((e (PB p) 7) + 1)) (PB p)) hp) rfl) rfl hl.1 rfl (Nat.le_of_ble_eq_true rfl) dX1_enterRequest_41 ⟨by decide, by decide⟩ (fun u1 H locs hp1 w => ?_)
  obtain rfl := hp1
  exact mx_vret M w hr rfl (by decide) (by decide) dX1_enterRequest_44

set_option maxHeartbeats 4000000 in
set_option maxRecDepth 100000 in
/-- Person.enterSpell(first, last) -/
theorem kX1_enterSpell (l : Launch) (D : va_G) (cy : Nat → ClassId) (C : List Nat) (ad : Nat → Nat) (e : Nat → Nat → Nat) (sz : Nat) (p f0 t0 nr : Nat) (hp : p < 8) (hC : ∀ k, k < 9 → PB p + k ∈ C) (hSp : PSp e p) (hRq : PRq e p nr) (hRC : ∀ q, q < nr → RB q ∈ C) (hRW : RW e nr) (hn : e (PB p) 10 < 30) (hft : f0 ≤ t0) (ht : t0 ≤ 3600) : Met l yX1_enterSpell wsX1_enterSpell ({ frames := 3, cells := 0, slots := 0, locals := 69 } : Room) (PreM D cy (C, ad, G cy ad e) sz [.ref (ad (PB p)), .int (nI f0), .int (nI t0)]) (va_Qv (fun (u : WT) => u = (C, ad, G cy ad (esC e p f0 t0))) (WB D cy (AW (C, ad, G cy ad e) sz)) (AW (C, ad, G cy ad e) sz)) 0 0 (AW (C, ad, G cy ad e) sz) := by
  refine mx_start (cc := cX1_enterSpell) (maxL := 3) (ret := none) (by decide) rfl (Nat.le_of_ble_eq_true rfl) ?_
  intro p9 e9 s m args below meth c hsz hr hnm M w ls hl
  have hx := M.1.1
  have hb := M.1.2.1
  have inX1 : ∀ w ∈ wsX10, w ∈ wsX1_enterSpell := by decide +kernel
  have f24 : Cond.fieldLink RX1 24 RX1 "spellFirsts" "[I" ∈ wsX1_enterSpell := by decide +kernel
  have f27 : Cond.fieldLink RX1 27 RX1 "spellLasts" "[I" ∈ wsX1_enterSpell := by decide +kernel
  have f69 : Cond.fieldLink RX1 69 RX1 "ownSpellCount" "I" ∈ wsX1_enterSpell := by decide +kernel
  have hl : lv_has ls 3 [(0, .ref (ad (PB p))), (1, .int (nI f0)), (2, .int (nI t0))] := hl
  refine lv_aload_n hx hb dX1_enterSpell_0 rfl (lv_at hl 0 rfl) ?_
  refine ex_get M w (show (PB p) ∈ C from hC 0 (by decide)) (sh_P0 cy ad (e (PB p)) hp) rfl inX1 10 (by decide) f69 rfl dX1_enterSpell_1 ?_
  refine lv_aload_n hx hb dX1_enterSpell_4 rfl (lv_at hl 0 rfl) ?_
  refine ex_get M w (show (PB p) ∈ C from hC 0 (by decide)) (sh_P0 cy ad (e (PB p)) hp) rfl inX1 8 (by decide) f24 rfl dX1_enterSpell_5 ?_
  refine mx_alen M w (hC 4 (by decide)) 0 (g := G cy ad e) (sh_P4 cy ad _ hp) rfl (n := 30) rfl dX1_enterSpell_8 ?_
  refine mi_ge hx hb (by omega) (by decide) 48 dX1_enterSpell_9 (by decide) (fun h9 => absurd h9 (by first | decide | omega)) (fun h9 => ?_)
  refine lv_aload_n hx hb dX1_enterSpell_12 rfl (lv_at hl 0 rfl) ?_
  refine ex_get M w (show (PB p) ∈ C from hC 0 (by decide)) (sh_P0 cy ad (e (PB p)) hp) rfl inX1 8 (by decide) f24 rfl dX1_enterSpell_13 ?_
  refine lv_aload_n hx hb dX1_enterSpell_16 rfl (lv_at hl 0 rfl) ?_
  refine ex_get M w (show (PB p) ∈ C from hC 0 (by decide)) (sh_P0 cy ad (e (PB p)) hp) rfl inX1 10 (by decide) f69 rfl dX1_enterSpell_17 ?_
  refine lv_iload_n hx hb dX1_enterSpell_20 rfl (lv_at hl 1 rfl) ?_
  refine ex_iast M w (hC 4 (by decide)) (fun v => sh_P4 cy ad v hp) (v := f0) (by omega) (by decide) dX1_enterSpell_21 (fun H locs w => ?_)
  refine lv_aload_n hx hb dX1_enterSpell_22 rfl (lv_at hl 0 rfl) ?_
  refine ex_get M w (show (PB p) ∈ C from hC 0 (by decide)) (sh_P0 cy ad ((es e (PB p + 4) (e (PB p) 10) f0) (PB p)) hp) rfl inX1 9 (by decide) f27 rfl dX1_enterSpell_23 ?_
  refine lv_aload_n hx hb dX1_enterSpell_26 rfl (lv_at hl 0 rfl) ?_
  refine ex_get M w (show (PB p) ∈ C from hC 0 (by decide)) (sh_P0 cy ad ((es e (PB p + 4) (e (PB p) 10) f0) (PB p)) hp) rfl inX1 10 (by decide) f69 (congrArg (fun z => some (Value.int (nI z))) (es_ne _ _ (by first | omega | (unfold PB; omega) | (unfold RB; omega) | (unfold PB RB; omega)))) dX1_enterSpell_27 ?_
  refine lv_iload_n hx hb dX1_enterSpell_30 rfl (lv_at hl 2 rfl) ?_
  refine ex_iast M w (hC 5 (by decide)) (fun v => sh_P5 cy ad v hp) (v := t0) (by omega) (by decide) dX1_enterSpell_31 (fun H locs w => ?_)
  refine lv_aload_n hx hb dX1_enterSpell_32 rfl (lv_at hl 0 rfl) ?_
  refine lv_dup hx hb dX1_enterSpell_33 rfl ?_
  refine ex_get M w (show (PB p) ∈ C from hC 0 (by decide)) (sh_P0 cy ad ((es (es e (PB p + 4) (e (PB p) 10) f0) (PB p + 5) (e (PB p) 10) t0) (PB p)) hp) rfl inX1 10 (by decide) f69 (congrArg (fun z => some (Value.int (nI z))) ((es_ne _ _ (by first | omega | (unfold PB; omega) | (unfold RB; omega) | (unfold PB RB; omega))).trans (es_ne _ _ (by first | omega | (unfold PB; omega) | (unfold RB; omega) | (unfold PB RB; omega))))) dX1_enterSpell_34 ?_
  refine lv_iconst (v := nI 1) hx hb dX1_enterSpell_37 (by decide) ?_
  refine mi_add hx hb dX1_enterSpell_38 ?_
  refine ex_put M w (show (PB p) ∈ C from hC 0 (by decide)) (sh_P0 cy ad ((es (es e (PB p + 4) (e (PB p) 10) f0) (PB p + 5) (e (PB p) 10) t0) (PB p)) hp) rfl inX1 tyX1 tyX1_ok nmX1 10 (by decide) f69 rfl (v := ((e (PB p) 10) + 1)) rfl rfl (Nat.le_of_ble_eq_true rfl) (sh_P0 cy ad _ hp) dX1_enterSpell_39 (fun H locs w => ?_)
  refine lv_aload_n hx hb dX1_enterSpell_42 rfl (lv_at hl 0 rfl) ?_
  refine lv_iload_n hx hb dX1_enterSpell_43 rfl (lv_at hl 1 rfl) ?_
  refine lv_iload_n hx hb dX1_enterSpell_44 rfl (lv_at hl 2 rfl) ?_
  refine mx_Vv M w (kX1_markLeave l D cy C ad (es (es (es e (PB p + 4) (e (PB p) 10) f0) (PB p + 5) (e (PB p) 10) t0) (PB p) 10 ((e (PB p) 10) + 1)) H.size p f0 t0 nr hp hC (esC0_Sp hSp hn (by omega) ht) (esC0_Rq f0 t0 hRq) hRC (hRW.eq (esC0_R e hp f0 t0)) hft ht) (cwV 2 M.1.2.2.2.2 gX1_enterSpell_X1_markLeave rfl rfl rfl (by decide +kernel) ⟨Nat.le_of_ble_eq_true rfl, Nat.le_of_ble_eq_true rfl⟩) (mo_rec M w (show (PB p) ∈ C from hC 0 (by decide)) (g := G cy ad (es (es (es e (PB p + 4) (e (PB p) 10) f0) (PB p + 5) (e (PB p) 10) t0) (PB p) 10 ((e (PB p) 10) + 1))) (sh_P0 cy ad ((es (es (es e (PB p + 4) (e (PB p) 10) f0) (PB p + 5) (e (PB p) 10) t0) (PB p) 10 ((e (PB p) 10) + 1)) (PB p)) hp) rfl) rfl hl.1 rfl (Nat.le_of_ble_eq_true rfl) dX1_enterSpell_45 ⟨by decide, by decide⟩ (fun u1 H locs hp1 w => ?_)
  obtain rfl := hp1
  exact mx_vret M w hr rfl (by decide) (by decide) dX1_enterSpell_48

set_option maxHeartbeats 4000000 in
set_option maxRecDepth 100000 in
/-- Person.enterPayout(day, points) -/
theorem kX1_enterPayout (l : Launch) (D : va_G) (cy : Nat → ClassId) (C : List Nat) (ad : Nat → Nat) (e : Nat → Nat → Nat) (sz : Nat) (p dy pts : Nat) (hp : p < 8) (hC : ∀ k, k < 9 → PB p + k ∈ C) (hn : e (PB p) 13 < 20) : Met l yX1_enterPayout wsX1_enterPayout ({ frames := 0, cells := 0, slots := 0, locals := 0 } : Room) (PreM D cy (C, ad, G cy ad e) sz [.ref (ad (PB p)), .int (nI dy), .int (nI pts)]) (va_Qv (fun (u : WT) => u = (C, ad, G cy ad (epC e p dy pts))) (WB D cy (AW (C, ad, G cy ad e) sz)) (AW (C, ad, G cy ad e) sz)) 0 0 (AW (C, ad, G cy ad e) sz) := by
  refine mx_start (cc := cX1_enterPayout) (maxL := 3) (ret := none) (by decide) rfl (Nat.le_of_ble_eq_true rfl) ?_
  intro p9 e9 s m args below meth c hsz hr hnm M w ls hl
  have hx := M.1.1
  have hb := M.1.2.1
  have inX1 : ∀ w ∈ wsX10, w ∈ wsX1_enterPayout := by decide +kernel
  have f30 : Cond.fieldLink RX1 30 RX1 "payoutDays" "[I" ∈ wsX1_enterPayout := by decide +kernel
  have f33 : Cond.fieldLink RX1 33 RX1 "payoutPoints" "[I" ∈ wsX1_enterPayout := by decide +kernel
  have f72 : Cond.fieldLink RX1 72 RX1 "ownPayoutCount" "I" ∈ wsX1_enterPayout := by decide +kernel
  have hl : lv_has ls 3 [(0, .ref (ad (PB p))), (1, .int (nI dy)), (2, .int (nI pts))] := hl
  refine lv_aload_n hx hb dX1_enterPayout_0 rfl (lv_at hl 0 rfl) ?_
  refine ex_get M w (show (PB p) ∈ C from hC 0 (by decide)) (sh_P0 cy ad (e (PB p)) hp) rfl inX1 13 (by decide) f72 rfl dX1_enterPayout_1 ?_
  refine lv_aload_n hx hb dX1_enterPayout_4 rfl (lv_at hl 0 rfl) ?_
  refine ex_get M w (show (PB p) ∈ C from hC 0 (by decide)) (sh_P0 cy ad (e (PB p)) hp) rfl inX1 11 (by decide) f30 rfl dX1_enterPayout_5 ?_
  refine mx_alen M w (hC 6 (by decide)) 0 (g := G cy ad e) (sh_P6 cy ad _ hp) rfl (n := 20) rfl dX1_enterPayout_8 ?_
  refine mi_ge hx hb (by omega) (by decide) 42 dX1_enterPayout_9 (by decide) (fun h9 => absurd h9 (by first | decide | omega)) (fun h9 => ?_)
  refine lv_aload_n hx hb dX1_enterPayout_12 rfl (lv_at hl 0 rfl) ?_
  refine ex_get M w (show (PB p) ∈ C from hC 0 (by decide)) (sh_P0 cy ad (e (PB p)) hp) rfl inX1 11 (by decide) f30 rfl dX1_enterPayout_13 ?_
  refine lv_aload_n hx hb dX1_enterPayout_16 rfl (lv_at hl 0 rfl) ?_
  refine ex_get M w (show (PB p) ∈ C from hC 0 (by decide)) (sh_P0 cy ad (e (PB p)) hp) rfl inX1 13 (by decide) f72 rfl dX1_enterPayout_17 ?_
  refine lv_iload_n hx hb dX1_enterPayout_20 rfl (lv_at hl 1 rfl) ?_
  refine ex_iast M w (hC 6 (by decide)) (fun v => sh_P6 cy ad v hp) (v := dy) (by omega) (by decide) dX1_enterPayout_21 (fun H locs w => ?_)
  refine lv_aload_n hx hb dX1_enterPayout_22 rfl (lv_at hl 0 rfl) ?_
  refine ex_get M w (show (PB p) ∈ C from hC 0 (by decide)) (sh_P0 cy ad ((es e (PB p + 6) (e (PB p) 13) dy) (PB p)) hp) rfl inX1 12 (by decide) f33 rfl dX1_enterPayout_23 ?_
  refine lv_aload_n hx hb dX1_enterPayout_26 rfl (lv_at hl 0 rfl) ?_
  refine ex_get M w (show (PB p) ∈ C from hC 0 (by decide)) (sh_P0 cy ad ((es e (PB p + 6) (e (PB p) 13) dy) (PB p)) hp) rfl inX1 13 (by decide) f72 (congrArg (fun z => some (Value.int (nI z))) (es_ne _ _ (by first | omega | (unfold PB; omega) | (unfold RB; omega) | (unfold PB RB; omega)))) dX1_enterPayout_27 ?_
  refine lv_iload_n hx hb dX1_enterPayout_30 rfl (lv_at hl 2 rfl) ?_
  refine ex_iast M w (hC 7 (by decide)) (fun v => sh_P7 cy ad v hp) (v := pts) (by omega) (by decide) dX1_enterPayout_31 (fun H locs w => ?_)
  refine lv_aload_n hx hb dX1_enterPayout_32 rfl (lv_at hl 0 rfl) ?_
  refine lv_dup hx hb dX1_enterPayout_33 rfl ?_
  refine ex_get M w (show (PB p) ∈ C from hC 0 (by decide)) (sh_P0 cy ad ((es (es e (PB p + 6) (e (PB p) 13) dy) (PB p + 7) (e (PB p) 13) pts) (PB p)) hp) rfl inX1 13 (by decide) f72 (congrArg (fun z => some (Value.int (nI z))) ((es_ne _ _ (by first | omega | (unfold PB; omega) | (unfold RB; omega) | (unfold PB RB; omega))).trans (es_ne _ _ (by first | omega | (unfold PB; omega) | (unfold RB; omega) | (unfold PB RB; omega))))) dX1_enterPayout_34 ?_
  refine lv_iconst (v := nI 1) hx hb dX1_enterPayout_37 (by decide) ?_
  refine mi_add hx hb dX1_enterPayout_38 ?_
  refine ex_put M w (show (PB p) ∈ C from hC 0 (by decide)) (sh_P0 cy ad ((es (es e (PB p + 6) (e (PB p) 13) dy) (PB p + 7) (e (PB p) 13) pts) (PB p)) hp) rfl inX1 tyX1 tyX1_ok nmX1 13 (by decide) f72 rfl (v := ((e (PB p) 13) + 1)) rfl rfl (Nat.le_of_ble_eq_true rfl) (sh_P0 cy ad _ hp) dX1_enterPayout_39 (fun H locs w => ?_)
  exact mx_vret M w hr rfl (by decide) (by decide) dX1_enterPayout_42
