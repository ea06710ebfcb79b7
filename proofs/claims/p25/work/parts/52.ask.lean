/-! ===== the law's loop ===== -/
abbrev lvT (b : Nat) (ad : Nat → Nat) (i : Nat) : List (Nat × Value) := [(0, .ref b), (1, .ref (ad 0)), (2, .ref (ad 6)), (3, .ref (ad 7)), (4, .ref (ad 8)), (5, .ref (ad 9)), (6, .ref (ad 10)), (7, .ref (ad 11)), (8, .ref (ad 12)), (9, .int (nI i))]
theorem lvT_eq {C : List Nat} {ad ad1 : Nat → Nat} (had : ∀ c, c ∈ C → ad1 c = ad c) (hB : ∀ k, k < 13 → k ∈ C) (b i : Nat) : lvT b ad i = lvT b ad1 i := by
  unfold lvT
  rw [had 0 (hB 0 (by decide)), had 6 (hB 6 (by decide)), had 7 (hB 7 (by decide)), had 8 (hB 8 (by decide)), had 9 (hB 9 (by decide)), had 10 (hB 10 (by decide)), had 11 (hB 11 (by decide)), had 12 (hB 12 (by decide))]
/-- the law, from turn i on, n turns to go -/
def LK (p : Program) (l : Launch) (e9 : Env) (s : State) (m : MethodId) (below : List Frame) (meth : Method) (c : Code) (D : va_G) (cy : Nat → ClassId) (b i n : Nat) : Prop := ∀ (cells slots : Nat) (C : List Nat) (ad : Nat → Nat) (e : Nat → Nat → Nat) (H : Heap) (locs : List Loc) (ls : Array Slot), cells + 100 * n ≤ 600104 → slots + 5000 * n ≤ 7301314 → MO D (fun q : Nat => s.heap.size ≤ q) s.heap (C, ad, G cy ad e) H locs → IV e → CC (e 0 1) (e 0 3) C → 1 ≤ e 6 1 → lv_has ls 17 (lvT b ad i) → W p l e9 room_1 s m #[Value.ref b] below meth c H locs cells slots (lw_Z below #[Value.ref b] s) (F0 m 50 ls [])
theorem wd_1 {w f k : Nat} (h : w + f = k / 7 * 5 + min (k % 7) 5) (h5 : k % 7 < 5) : w + 1 + f = (k + 1) / 7 * 5 + min ((k + 1) % 7) 5 := by omega
theorem wd_0 {w f k : Nat} (h : w + f = k / 7 * 5 + min (k % 7) 5) (h5 : 5 ≤ k % 7) : w + 0 + f = (k + 1) / 7 * 5 + min ((k + 1) % 7) 5 := by omega

set_option maxHeartbeats 8000000 in
set_option maxRecDepth 100000 in
/-- the questions of a turn -/
theorem law_ask {p : Program} {l : Launch} {e9 : Env} {s : State} {m : MethodId} {below : List Frame} {meth : Method} {c : Code} {D : va_G} {cy : Nat → ClassId} {b L : Nat} {xs : Nat → Int32} (hfl : l.stackTraces = false) (M : MC p s m #[Value.ref b] meth c code wsL_law RL 17 D cy (fun q : Nat => s.heap.size ≤ q)) (Th : TH (fun q : Nat => s.heap.size ≤ q) s s.heap) (hNC : NC s) (hX : va_X b L xs s s.heap) (hbl : b < s.heap.size) (hL : L ≤ 260) {i9 n8 cells slots : Nat} {C : List Nat} {ad : Nat → Nat} {e : Nat → Nat → Nat} {H : Heap} {locs : List Loc} {ls : Array Slot} {z : Int32} (hk : LK p l e9 s m below meth c D cy b (i9 + 1) n8) (w : MO D (fun q : Nat => s.heap.size ≤ q) s.heap (C, ad, G cy ad e) H locs) (hI : IV e) (hCC : CC (e 0 1) (e 0 3) C) (hc : cells + 100 * n8 + 50 ≤ 600104) (hs : slots + 5000 * n8 + 300 ≤ 7301314) (h1 : 1 ≤ e 6 1) (hi9 : i9 < 70) (hl : lv_has ls 17 [(0, .ref b), (1, .ref (ad 0)), (2, .ref (ad 6)), (3, .ref (ad 7)), (4, .ref (ad 8)), (5, .ref (ad 9)), (6, .ref (ad 10)), (7, .ref (ad 11)), (8, .ref (ad 12)), (9, .int (nI i9)), (10, .int z)]) : W p l e9 room_1 s m #[Value.ref b] below meth c H locs cells slots (lw_Z below #[Value.ref b] s) (F0 m 525 ls []) := by
  have hx := M.1.1
  have hb := M.1.2.1
  have hB := hCC.B
  have hbA : ¬ (fun q : Nat => s.heap.size ≤ q) b := Nat.not_le.mpr hbl
  have hq2 := hI.2.2.2
  have hb3 := hI.b3
  have hv2 : VV e 7 2 = e 6 1 := rfl
  have hq0 : VV e 7 1 ≤ 1700 := hq2.1
  have hq3 : VV e 7 2 ≤ 2 := hq2.2.1
  have cut690 : ∀ (n9 : Nat) (e660 : Nat → Nat → Nat) (j532 dy to wk k cells slots : Nat) (hd : dy < 1890) (hI7 : IV e660) (hC7 : CC (e660 0 1) (e660 0 3) C) (h67 : e660 6 = e 6) (hc7 : cells + 100 * n8 + 2 ≤ 600104) (hs7 : slots + 5000 * n8 + 10 ≤ 7301314) (hto : dy ≤ to ∧ to < 2000) (hk9 : dy ≤ k ∧ k ≤ to + 1) (hwk : wk + (dy / 7 * 5 + min (dy % 7) 5) = k / 7 * 5 + min (k % 7) 5) (_hm : 2002 - k < n9) (H : Heap) (locs : List Loc), MO D (fun q : Nat => s.heap.size ≤ q) s.heap (C, ad, G cy ad e660) H locs → ∀ (ls : Array Slot), lv_has ls 17 [(0, .ref b), (1, .ref (ad 0)), (2, .ref (ad 6)), (3, .ref (ad 7)), (4, .ref (ad 8)), (5, .ref (ad 9)), (6, .ref (ad 10)), (7, .ref (ad 11)), (8, .ref (ad 12)), (9, .int (nI i9)), (10, .int z), (12, .int (nI j532)), (13, .int (nI dy)), (14, .int (nI wk)), (15, .int (nI to)), (16, .int (nI k))] → W p l e9 room_1 s m #[Value.ref b] below meth c H locs cells slots (lw_Z below #[Value.ref b] s) (F0 m 690 ls []) := by
    intro n9
    induction n9 with
    | zero => intro e660 j532 dy to wk k cells slots hd hI7 hC7 h67 hc7 hs7 hto hk9 hwk _hm; exact absurd _hm (Nat.not_lt_zero _)
    | succ n9 ih =>
      intro e660 j532 dy to wk k cells slots hd hI7 hC7 h67 hc7 hs7 hto hk9 hwk _hm H locs w ls hl
      refine lv_iload hx hb dL_law_690 (lv_at hl 15 rfl) ?_
      refine lv_iload hx hb dL_law_692 (lv_at hl 14 rfl) ?_
      refine mi_gt hx hb (by omega) (by omega) 722 dL_law_694 (by decide) (fun h694 => ?_) (fun h694 => ?_)
      · refine lv_aload_n hx hb dL_law_722 rfl (lv_at hl 1 rfl) ?_
        refine lv_iload hx hb dL_law_723 (lv_at hl 12 rfl) ?_
        refine lv_iload hx hb dL_law_725 (lv_at hl 14 rfl) ?_
        refine mxc_Vi M w Th (kX3_workingDays l hfl D cy C ad e660 H.size dy to (by omega) (by omega)) (cwV 2 M.1.2.2.2.2 gL_law_X3_workingDays rfl rfl rfl (by decide +kernel) ⟨Nat.le_of_ble_eq_true rfl, Nat.le_of_ble_eq_true rfl⟩) (mo_rec M w (hB 0 (by decide)) (g := G cy ad e660) (sh_0 cy ad (e660 0)) rfl) rfl hl.1 rfl (Nat.le_of_ble_eq_true rfl) dL_law_727 ⟨by show _ ≤ 600104; omega, by show _ ≤ 7301314; omega⟩ (fun E ce q9 u1 H locs hce hcv hcl hp9 w => ((hp9.1 ⟨Nat.zero_le _, by omega, by omega⟩).elim)) (fun r727 u1 H locs hp1 w => ?_)
        obtain ⟨hw9, rfl, rfl⟩ := hp1
        rw [show (to + 1) / 7 * 5 + min ((to + 1) % 7) 5 - (dy / 7 * 5 + min (dy % 7) 5) = wk by rw [show to + 1 = k by omega]; omega]
        refine lv_iload hx hb dL_law_730 (lv_at hl 13 rfl) ?_
        refine lv_icmp_eq (tgt := 737) hx hb dL_law_732 (by decide) (fun h732 => ?_) (fun h => absurd rfl h)
        refine lv_iinc (v := nI (i9 + 1)) (lv' := [(9, .int (nI (i9 + 1))), (0, .ref b), (1, .ref (ad 0)), (2, .ref (ad 6)), (3, .ref (ad 7)), (4, .ref (ad 8)), (5, .ref (ad 9)), (6, .ref (ad 10)), (7, .ref (ad 11)), (8, .ref (ad 12)), (10, .int z), (12, .int (nI j532)), (13, .int (nI dy)), (14, .int (nI wk)), (15, .int (nI to)), (16, .int (nI k))]) hx hb dL_law_737 hl (k := 9) rfl (nI_inc _ 1) (by decide) rfl (fun ls hl => ?_)
        refine lv_goto (tgt := 50) hx hb dL_law_740 (by decide) ?_
        exact hk _ _ _ _ _ _ _ ls (by omega) (by omega) w hI7 hC7 (by rw [h67]; exact h1) (lv_sub hl [1, 2, 3, 4, 5, 6, 7, 8, 9, 0] rfl)
      · refine lv_iload hx hb dL_law_697 (lv_at hl 13 rfl) ?_
        refine lv_iload hx hb dL_law_699 (lv_at hl 15 rfl) ?_
        refine lv_bipush (v := nI 7) hx hb dL_law_701 (by decide) ?_
        refine mi_rem hx hb (by omega) (by decide) (by decide) dL_law_703 ?_
        refine lv_iconst (v := nI 5) hx hb dL_law_704 (by decide) ?_
        refine mi_ge hx hb (by omega) (by decide) 712 dL_law_705 (by decide) (fun h705 => ?_) (fun h705 => ?_)
        · refine lv_iconst (v := nI 0) hx hb dL_law_712 (by decide) ?_
          refine mi_add hx hb dL_law_713 ?_
          refine lv_istore (lv' := [(14, .int (nI (wk + 0))), (0, .ref b), (1, .ref (ad 0)), (2, .ref (ad 6)), (3, .ref (ad 7)), (4, .ref (ad 8)), (5, .ref (ad 9)), (6, .ref (ad 10)), (7, .ref (ad 11)), (8, .ref (ad 12)), (9, .int (nI i9)), (10, .int z), (12, .int (nI j532)), (13, .int (nI dy)), (15, .int (nI to)), (16, .int (nI k))]) hx hb dL_law_714 hl (by decide) rfl (fun ls hl => ?_)
          refine lv_iinc (v := nI (k + 1)) (lv' := [(16, .int (nI (k + 1))), (14, .int (nI (wk + 0))), (0, .ref b), (1, .ref (ad 0)), (2, .ref (ad 6)), (3, .ref (ad 7)), (4, .ref (ad 8)), (5, .ref (ad 9)), (6, .ref (ad 10)), (7, .ref (ad 11)), (8, .ref (ad 12)), (9, .int (nI i9)), (10, .int z), (12, .int (nI j532)), (13, .int (nI dy)), (15, .int (nI to))]) hx hb dL_law_716 hl (k := 15) rfl (nI_inc _ 1) (by decide) rfl (fun ls hl => ?_)
          refine lv_goto (tgt := 690) hx hb dL_law_719 (by decide) ?_
          exact ih e660 j532 dy to _ (k + 1) _ _ hd hI7 hC7 h67 hc7 hs7 hto ⟨by omega, by omega⟩ (wd_0 hwk (by omega))  (by omega) _ _ w ls (lv_sub hl [2, 3, 4, 5, 6, 7, 8, 9, 10, 11, 12, 13, 14, 1, 15, 0] rfl)
        · refine lv_iconst (v := nI 1) hx hb dL_law_708 (by decide) ?_
          refine lv_goto (tgt := 713) hx hb dL_law_709 (by decide) ?_
          refine mi_add hx hb dL_law_713 ?_
          refine lv_istore (lv' := [(14, .int (nI (wk + 1))), (0, .ref b), (1, .ref (ad 0)), (2, .ref (ad 6)), (3, .ref (ad 7)), (4, .ref (ad 8)), (5, .ref (ad 9)), (6, .ref (ad 10)), (7, .ref (ad 11)), (8, .ref (ad 12)), (9, .int (nI i9)), (10, .int z), (12, .int (nI j532)), (13, .int (nI dy)), (15, .int (nI to)), (16, .int (nI k))]) hx hb dL_law_714 hl (by decide) rfl (fun ls hl => ?_)
          refine lv_iinc (v := nI (k + 1)) (lv' := [(16, .int (nI (k + 1))), (14, .int (nI (wk + 1))), (0, .ref b), (1, .ref (ad 0)), (2, .ref (ad 6)), (3, .ref (ad 7)), (4, .ref (ad 8)), (5, .ref (ad 9)), (6, .ref (ad 10)), (7, .ref (ad 11)), (8, .ref (ad 12)), (9, .int (nI i9)), (10, .int z), (12, .int (nI j532)), (13, .int (nI dy)), (15, .int (nI to))]) hx hb dL_law_716 hl (k := 15) rfl (nI_inc _ 1) (by decide) rfl (fun ls hl => ?_)
          refine lv_goto (tgt := 690) hx hb dL_law_719 (by decide) ?_
          exact ih e660 j532 dy to _ (k + 1) _ _ hd hI7 hC7 h67 hc7 hs7 hto ⟨by omega, by omega⟩ (wd_1 hwk (by omega))  (by omega) _ _ w ls (lv_sub hl [2, 3, 4, 5, 6, 7, 8, 9, 10, 11, 12, 13, 14, 1, 15, 0] rfl)
  have cut668 : ∀ (e660 : Nat → Nat → Nat) (j532 dy cells slots : Nat) (hd : dy < 1890) (hI7 : IV e660) (hC7 : CC (e660 0 1) (e660 0 3) C) (h67 : e660 6 = e 6) (hc7 : cells + 100 * n8 + 2 ≤ 600104) (hs7 : slots + 5000 * n8 + 10 ≤ 7301314) (H : Heap) (locs : List Loc), MO D (fun q : Nat => s.heap.size ≤ q) s.heap (C, ad, G cy ad e660) H locs → ∀ (ls : Array Slot), lv_has ls 17 [(0, .ref b), (1, .ref (ad 0)), (2, .ref (ad 6)), (3, .ref (ad 7)), (4, .ref (ad 8)), (5, .ref (ad 9)), (6, .ref (ad 10)), (7, .ref (ad 11)), (8, .ref (ad 12)), (9, .int (nI i9)), (10, .int z), (12, .int (nI j532)), (13, .int (nI dy))] → W p l e9 room_1 s m #[Value.ref b] below meth c H locs cells slots (lw_Z below #[Value.ref b] s) (F0 m 668 ls []) := by
    intro e660 j532 dy cells slots hd hI7 hC7 h67 hc7 hs7 H locs w ls hl
    have hB7 := hC7.B
    refine lv_iconst (v := nI 0) hx hb dL_law_668 (by decide) ?_
    refine lv_istore (lv' := [(14, .int (nI 0)), (0, .ref b), (1, .ref (ad 0)), (2, .ref (ad 6)), (3, .ref (ad 7)), (4, .ref (ad 8)), (5, .ref (ad 9)), (6, .ref (ad 10)), (7, .ref (ad 11)), (8, .ref (ad 12)), (9, .int (nI i9)), (10, .int z), (12, .int (nI j532)), (13, .int (nI dy))]) hx hb dL_law_669 hl (by decide) rfl (fun ls hl => ?_)
    refine lv_iload hx hb dL_law_671 (lv_at hl 13 rfl) ?_
    refine lv_iload hx hb dL_law_673 (lv_at hl 11 rfl) ?_
    refine lv_bipush (v := nI 13) hx hb dL_law_675 (by decide) ?_
    refine lv_ishr hx hb dL_law_677 ?_
    refine lv_bipush (v := nI 40) hx hb dL_law_678 (by decide) ?_
    refine mx_Si M w (kL_low l D cy C ad e660 H.size (z >>> ((nI 13) &&& 31)) 40 (by omega) (by omega)) (va_cwS 2 M.1.2.2.2.2 gL_law_L_low rfl rfl rfl (by decide +kernel) ⟨Nat.le_of_ble_eq_true rfl, Nat.le_of_ble_eq_true rfl⟩) rfl hl.1 rfl (Nat.le_of_ble_eq_true rfl) dL_law_680 ⟨by show _ ≤ 600104; omega, by show _ ≤ 7301314; omega⟩ (fun r680 u1 H locs hp1 w => ?_)
    obtain ⟨j680, ⟨q680, rfl⟩, rfl⟩ := hp1
    refine mi_add hx hb dL_law_683 ?_
    refine lv_istore (lv' := [(15, .int (nI (dy + j680))), (14, .int (nI 0)), (0, .ref b), (1, .ref (ad 0)), (2, .ref (ad 6)), (3, .ref (ad 7)), (4, .ref (ad 8)), (5, .ref (ad 9)), (6, .ref (ad 10)), (7, .ref (ad 11)), (8, .ref (ad 12)), (9, .int (nI i9)), (10, .int z), (12, .int (nI j532)), (13, .int (nI dy))]) hx hb dL_law_684 hl (by decide) rfl (fun ls hl => ?_)
    refine lv_iload hx hb dL_law_686 (lv_at hl 14 rfl) ?_
    refine lv_istore (lv' := [(16, .int (nI dy)), (15, .int (nI (dy + j680))), (14, .int (nI 0)), (0, .ref b), (1, .ref (ad 0)), (2, .ref (ad 6)), (3, .ref (ad 7)), (4, .ref (ad 8)), (5, .ref (ad 9)), (6, .ref (ad 10)), (7, .ref (ad 11)), (8, .ref (ad 12)), (9, .int (nI i9)), (10, .int z), (12, .int (nI j532)), (13, .int (nI dy))]) hx hb dL_law_688 hl (by decide) rfl (fun ls hl => ?_)
    exact cut690 (2002 - 0 + 1) e660 j532 dy _ 0 dy _ _ hd hI7 hC7 h67 hc7 hs7 ⟨by omega, by omega⟩ ⟨Nat.le_refl _, by omega⟩ (by omega)  (by omega) _ _ w ls (lv_sub hl [3, 4, 5, 6, 7, 8, 9, 10, 11, 12, 13, 14, 15, 2, 1, 0] rfl)
  have cut648 : ∀ (e605 : Nat → Nat → Nat) (j532 dy d2 cells slots : Nat) (q532 : j532 < VV e 7 2) (hd : dy < 1890) (hd2 : d2 < 1890) (hI6 : IV e605) (hC6 : CC (e605 0 1) (e605 0 3) C) (h66 : e605 6 = e 6) (hc6 : cells + 100 * n8 + 26 ≤ 600104) (hs6 : slots + 5000 * n8 + 150 ≤ 7301314) (H : Heap) (locs : List Loc), MO D (fun q : Nat => s.heap.size ≤ q) s.heap (C, ad, G cy ad e605) H locs → ∀ (ls : Array Slot), lv_has ls 17 [(0, .ref b), (1, .ref (ad 0)), (2, .ref (ad 6)), (3, .ref (ad 7)), (4, .ref (ad 8)), (5, .ref (ad 9)), (6, .ref (ad 10)), (7, .ref (ad 11)), (8, .ref (ad 12)), (9, .int (nI i9)), (10, .int z), (12, .int (nI j532)), (13, .int (nI dy))] → W p l e9 room_1 s m #[Value.ref b] below meth c H locs cells slots (lw_Z below #[Value.ref b] s) (F0 m 648 ls [.int (nI d2), .int (nI j532), .ref (ad 0)]) := by
    intro e605 j532 dy d2 cells slots q532 hd hd2 hI6 hC6 h66 hc6 hs6 H locs w ls hl
    refine lv_aload_n hx hb dL_law_648 rfl (lv_at hl 3 rfl) ?_
    refine lv_aload hx hb dL_law_649 (lv_at hl 4 rfl) ?_
    refine lv_aload hx hb dL_law_651 (lv_at hl 5 rfl) ?_
    refine lv_aload hx hb dL_law_653 (lv_at hl 6 rfl) ?_
    refine lv_aload hx hb dL_law_655 (lv_at hl 7 rfl) ?_
    refine lv_aload hx hb dL_law_657 (lv_at hl 8 rfl) ?_
    refine lv_aload_n hx hb dL_law_659 rfl (lv_at hl 2 rfl) ?_
    refine mxp_Si M w Th hNC (kL_isSo l hfl D cy C ad e605 H.size j532 d2 hB hC6 hI6 (by rw [h66]; exact q532) hd2) (va_cwS 10 M.1.2.2.2.2 gL_law_L_isSo rfl rfl rfl (by decide +kernel) ⟨Nat.le_of_ble_eq_true rfl, Nat.le_of_ble_eq_true rfl⟩) rfl hl.1 rfl (Nat.le_of_ble_eq_true rfl) dL_law_660 ⟨by show _ ≤ 600104; omega, by show _ ≤ 7301314; omega⟩ (fun r660 u1 H locs hp1 w => ?_)
    obtain ⟨rfl, e660, c660, rfl⟩ := hp1
    have hI7 := c660.iv hI6
    have hC7 : CC (e660 0 1) (e660 0 3) C := by rw [c660.e0]; exact hC6
    have h67 : e660 6 = e 6 := (c660.2.1 6 (by decide) (by decide)).trans h66
    refine mi_if_ne hx hb (by decide) 668 dL_law_663 (by decide) (fun h663 => ?_) (fun h663 => absurd h663 (by first | decide | omega))
    exact cut668 e660 j532 dy _ _ hd hI7 hC7 h67 (by omega) (by omega)  _ _ w ls (lv_sub hl [0, 1, 2, 3, 4, 5, 6, 7, 8, 9, 10, 11, 12] rfl)
  have cut568 : ∀ (j532 dy : Nat) (q532 : j532 < VV e 7 2) (hd : dy < 1890) (H : Heap) (locs : List Loc), MO D (fun q : Nat => s.heap.size ≤ q) s.heap (C, ad, G cy ad e) H locs → ∀ (ls : Array Slot), lv_has ls 17 [(0, .ref b), (1, .ref (ad 0)), (2, .ref (ad 6)), (3, .ref (ad 7)), (4, .ref (ad 8)), (5, .ref (ad 9)), (6, .ref (ad 10)), (7, .ref (ad 11)), (8, .ref (ad 12)), (9, .int (nI i9)), (10, .int z), (12, .int (nI j532)), (13, .int (nI dy))] → W p l e9 room_1 s m #[Value.ref b] below meth c H locs cells slots (lw_Z below #[Value.ref b] s) (F0 m 568 ls []) := by
    intro j532 dy q532 hd H locs w ls hl
    refine lv_aload_n hx hb dL_law_568 rfl (lv_at hl 1 rfl) ?_
    refine mx_Vi M w (kX3_today l D cy C ad e H.size hB) (cwV 0 M.1.2.2.2.2 gL_law_X3_today rfl rfl rfl (by decide +kernel) ⟨Nat.le_of_ble_eq_true rfl, Nat.le_of_ble_eq_true rfl⟩) (mo_rec M w (hB 0 (by decide)) (g := G cy ad e) (sh_0 cy ad (e 0)) rfl) rfl hl.1 rfl (Nat.le_of_ble_eq_true rfl) dL_law_569 ⟨by show _ ≤ 600104; omega, by show _ ≤ 7301314; omega⟩ (fun r569 u1 H locs hp1 w => ?_)
    obtain ⟨rfl, rfl⟩ := hp1
    rw [show e 0 6 = VV e 7 1 from hI.n6]
    refine lv_aload_n hx hb dL_law_572 rfl (lv_at hl 2 rfl) ?_
    refine lv_iconst (v := nI 0) hx hb dL_law_573 (by decide) ?_
    refine ex_iald M w (hB 6 (by decide)) (sh_6 cy ad) (by omega) (by decide) (rV_q0 e) dL_law_574 ?_
    refine lv_icmp_ne (tgt := 666) hx hb dL_law_575 (by decide) (fun h => absurd rfl h) (fun h575 => ?_)
    refine lv_aload_n hx hb dL_law_578 rfl (lv_at hl 1 rfl) ?_
    refine mx_Vi M w (kX3_people l D cy C ad e H.size hB) (cwV 0 M.1.2.2.2.2 gL_law_X3_people rfl rfl rfl (by decide +kernel) ⟨Nat.le_of_ble_eq_true rfl, Nat.le_of_ble_eq_true rfl⟩) (mo_rec M w (hB 0 (by decide)) (g := G cy ad e) (sh_0 cy ad (e 0)) rfl) rfl hl.1 rfl (Nat.le_of_ble_eq_true rfl) dL_law_579 ⟨by show _ ≤ 600104; omega, by show _ ≤ 7301314; omega⟩ (fun r579 u1 H locs hp1 w => ?_)
    obtain ⟨rfl, rfl⟩ := hp1
    rw [show e 0 1 = VV e 7 2 from hI.n1]
    refine lv_aload_n hx hb dL_law_582 rfl (lv_at hl 2 rfl) ?_
    refine lv_iconst (v := nI 1) hx hb dL_law_583 (by decide) ?_
    refine ex_iald M w (hB 6 (by decide)) (sh_6 cy ad) (by omega) (by decide) (rV_q1 e) dL_law_584 ?_
    refine lv_icmp_ne (tgt := 666) hx hb dL_law_585 (by decide) (fun h => absurd rfl h) (fun h585 => ?_)
    refine lv_aload_n hx hb dL_law_588 rfl (lv_at hl 1 rfl) ?_
    refine lv_iload hx hb dL_law_589 (lv_at hl 11 rfl) ?_
    refine lv_iload hx hb dL_law_591 (lv_at hl 12 rfl) ?_
    refine lv_aload_n hx hb dL_law_593 rfl (lv_at hl 3 rfl) ?_
    refine lv_aload hx hb dL_law_594 (lv_at hl 4 rfl) ?_
    refine lv_aload hx hb dL_law_596 (lv_at hl 5 rfl) ?_
    refine lv_aload hx hb dL_law_598 (lv_at hl 6 rfl) ?_
    refine lv_aload hx hb dL_law_600 (lv_at hl 7 rfl) ?_
    refine lv_aload hx hb dL_law_602 (lv_at hl 8 rfl) ?_
    refine lv_aload_n hx hb dL_law_604 rfl (lv_at hl 2 rfl) ?_
    refine mxp_Si M w Th hNC (kL_isSo l hfl D cy C ad e H.size j532 dy hB hCC hI q532 hd) (va_cwS 10 M.1.2.2.2.2 gL_law_L_isSo rfl rfl rfl (by decide +kernel) ⟨Nat.le_of_ble_eq_true rfl, Nat.le_of_ble_eq_true rfl⟩) rfl hl.1 rfl (Nat.le_of_ble_eq_true rfl) dL_law_605 ⟨by show _ ≤ 600104; omega, by show _ ≤ 7301314; omega⟩ (fun r605 u1 H locs hp1 w => ?_)
    obtain ⟨rfl, e605, c605, rfl⟩ := hp1
    have hI6 := c605.iv hI
    have hC6 : CC (e605 0 1) (e605 0 3) C := by rw [c605.e0]; exact hCC
    have h66 : e605 6 = e 6 := c605.2.1 6 (by decide) (by decide)
    refine mi_if_eq hx hb (by decide) 666 dL_law_608 (by decide) (fun h608 => absurd h608 (by first | decide | omega)) (fun h608 => ?_)
    refine lv_iload hx hb dL_law_611 (lv_at hl 9 rfl) ?_
    refine lv_iconst (v := nI 4) hx hb dL_law_613 (by decide) ?_
    refine mi_rem hx hb (by omega) (by decide) (by decide) dL_law_614 ?_
    refine mi_if_ne hx hb (by omega) 668 dL_law_615 (by decide) (fun h615 => ?_) (fun h615 => ?_)
    · exact cut668 e605 j532 dy _ _ hd hI6 hC6 h66 (by omega) (by omega)  _ _ w ls (lv_sub hl [0, 1, 2, 3, 4, 5, 6, 7, 8, 9, 10, 11, 12] rfl)
    · refine lv_aload_n hx hb dL_law_618 rfl (lv_at hl 1 rfl) ?_
      refine lv_iload hx hb dL_law_619 (lv_at hl 11 rfl) ?_
      refine lv_iload hx hb dL_law_621 (lv_at hl 12 rfl) ?_
      refine lv_iload hx hb dL_law_623 (lv_at hl 12 rfl) ?_
      refine lv_bipush (v := nI 30) hx hb dL_law_625 (by decide) ?_
      refine mi_rem hx hb (by omega) (by decide) (by decide) dL_law_627 ?_
      refine mi_add hx hb dL_law_628 ?_
      refine lv_sipush (v := nI 1890) hx hb dL_law_629 (by decide) ?_
      refine mi_ge hx hb (by omega) (by decide) 646 dL_law_632 (by decide) (fun h632 => ?_) (fun h632 => ?_)
      · refine lv_iload hx hb dL_law_646 (lv_at hl 12 rfl) ?_
        exact cut648 e605 j532 dy _ _ _ q532 hd (by omega) hI6 hC6 h66 (by omega) (by omega)  _ _ w ls (lv_sub hl [0, 1, 2, 3, 4, 5, 6, 7, 8, 9, 10, 11, 12] rfl)
      · refine lv_iload hx hb dL_law_635 (lv_at hl 12 rfl) ?_
        refine lv_iload hx hb dL_law_637 (lv_at hl 12 rfl) ?_
        refine lv_bipush (v := nI 30) hx hb dL_law_639 (by decide) ?_
        refine mi_rem hx hb (by omega) (by decide) (by decide) dL_law_641 ?_
        refine mi_add hx hb dL_law_642 ?_
        refine lv_goto (tgt := 648) hx hb dL_law_643 (by decide) ?_
        exact cut648 e605 j532 dy _ _ _ q532 hd (by omega) hI6 hC6 h66 (by omega) (by omega)  _ _ w ls (lv_sub hl [0, 1, 2, 3, 4, 5, 6, 7, 8, 9, 10, 11, 12] rfl)
  refine lv_iload hx hb dL_law_525 (lv_at hl 10 rfl) ?_
  refine lv_iconst (v := nI 5) hx hb dL_law_527 (by decide) ?_
  refine lv_ishr hx hb dL_law_528 ?_
  refine lv_aload_n hx hb dL_law_529 rfl (lv_at hl 2 rfl) ?_
  refine lv_iconst (v := nI 1) hx hb dL_law_530 (by decide) ?_
  refine ex_iald M w (hB 6 (by decide)) (sh_6 cy ad) (by omega) (by decide) (rV_q1 e) dL_law_531 ?_
  refine mx_Si M w (kL_low l D cy C ad e H.size (z >>> ((nI 5) &&& 31)) (VV e 7 2) (by omega) (by omega)) (va_cwS 2 M.1.2.2.2.2 gL_law_L_low rfl rfl rfl (by decide +kernel) ⟨Nat.le_of_ble_eq_true rfl, Nat.le_of_ble_eq_true rfl⟩) rfl hl.1 rfl (Nat.le_of_ble_eq_true rfl) dL_law_532 ⟨by show _ ≤ 600104; omega, by show _ ≤ 7301314; omega⟩ (fun r532 u1 H locs hp1 w => ?_)
  obtain ⟨j532, ⟨q532, rfl⟩, rfl⟩ := hp1
  refine lv_istore (lv' := [(12, .int (nI j532)), (0, .ref b), (1, .ref (ad 0)), (2, .ref (ad 6)), (3, .ref (ad 7)), (4, .ref (ad 8)), (5, .ref (ad 9)), (6, .ref (ad 10)), (7, .ref (ad 11)), (8, .ref (ad 12)), (9, .int (nI i9)), (10, .int z)]) hx hb dL_law_535 hl (by decide) rfl (fun ls hl => ?_)
  refine lv_iload hx hb dL_law_537 (lv_at hl 11 rfl) ?_
  refine lv_bipush (v := nI 8) hx hb dL_law_539 (by decide) ?_
  refine lv_ishr hx hb dL_law_541 ?_
  refine lv_iconst (v := nI 3) hx hb dL_law_542 (by decide) ?_
  refine mx_Si M w (kL_low l D cy C ad e H.size (z >>> ((nI 8) &&& 31)) 3 (by omega) (by omega)) (va_cwS 2 M.1.2.2.2.2 gL_law_L_low rfl rfl rfl (by decide +kernel) ⟨Nat.le_of_ble_eq_true rfl, Nat.le_of_ble_eq_true rfl⟩) rfl hl.1 rfl (Nat.le_of_ble_eq_true rfl) dL_law_543 ⟨by show _ ≤ 600104; omega, by show _ ≤ 7301314; omega⟩ (fun r543 u1 H locs hp1 w => ?_)
  obtain ⟨j543, ⟨q543, rfl⟩, rfl⟩ := hp1
  refine mi_if_ne hx hb (by omega) 555 dL_law_546 (by decide) (fun h546 => ?_) (fun h546 => ?_)
  · refine lv_iload hx hb dL_law_555 (lv_at hl 11 rfl) ?_
    refine lv_bipush (v := nI 8) hx hb dL_law_557 (by decide) ?_
    refine lv_ishr hx hb dL_law_559 ?_
    refine lv_sipush (v := nI 1890) hx hb dL_law_560 (by decide) ?_
    refine mx_Si M w (kL_low l D cy C ad e H.size (z >>> ((nI 8) &&& 31)) 1890 (by omega) (by omega)) (va_cwS 2 M.1.2.2.2.2 gL_law_L_low rfl rfl rfl (by decide +kernel) ⟨Nat.le_of_ble_eq_true rfl, Nat.le_of_ble_eq_true rfl⟩) rfl hl.1 rfl (Nat.le_of_ble_eq_true rfl) dL_law_563 ⟨by show _ ≤ 600104; omega, by show _ ≤ 7301314; omega⟩ (fun r563 u1 H locs hp1 w => ?_)
    obtain ⟨j563, ⟨q563, rfl⟩, rfl⟩ := hp1
    refine lv_istore (lv' := [(13, .int (nI j563)), (12, .int (nI j532)), (0, .ref b), (1, .ref (ad 0)), (2, .ref (ad 6)), (3, .ref (ad 7)), (4, .ref (ad 8)), (5, .ref (ad 9)), (6, .ref (ad 10)), (7, .ref (ad 11)), (8, .ref (ad 12)), (9, .int (nI i9)), (10, .int z)]) hx hb dL_law_566 hl (by decide) rfl (fun ls hl => ?_)
    exact cut568 _ _ q532 (by omega)  _ _ w ls (lv_sub hl [2, 3, 4, 5, 6, 7, 8, 9, 10, 11, 12, 1, 0] rfl)
  · refine lv_aload_n hx hb dL_law_549 rfl (lv_at hl 3 rfl) ?_
    refine lv_iconst (v := nI 0) hx hb dL_law_550 (by decide) ?_
    refine ex_iald M w (hB 6 (by decide)) (sh_6 cy ad) (by omega) (by decide) (rV_q0 e) dL_law_551 ?_
    refine lv_goto (tgt := 566) hx hb dL_law_552 (by decide) ?_
    refine lv_istore (lv' := [(13, .int (nI (VV e 7 1))), (12, .int (nI j532)), (0, .ref b), (1, .ref (ad 0)), (2, .ref (ad 6)), (3, .ref (ad 7)), (4, .ref (ad 8)), (5, .ref (ad 9)), (6, .ref (ad 10)), (7, .ref (ad 11)), (8, .ref (ad 12)), (9, .int (nI i9)), (10, .int z)]) hx hb dL_law_566 hl (by decide) rfl (fun ls hl => ?_)
    exact cut568 _ _ q532 (by omega)  _ _ w ls (lv_sub hl [2, 3, 4, 5, 6, 7, 8, 9, 10, 11, 12, 1, 0] rfl)
