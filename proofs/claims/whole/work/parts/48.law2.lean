/-! ===== the law: a call of the script, case by case ===== -/
section
variable {p : Program} {l : Launch} {e9 : Env} {s : State} {m : MethodId} {below : List Frame} {meth : Method} {c : Code} {H : Heap} {locs : List Loc} {cells slots : Nat} {Q : State → Prop}
variable {ls : Array Slot} {D : va_G} {cy : Nat → ClassId} {A : Nat → Prop} {C : List Nat} {ad : Nat → Nat} {e : Nat → Nat → Nat} {b L i : Nat} {xs : Nat → Int32}
set_option maxHeartbeats 4000000 in
set_option maxRecDepth 100000 in
theorem law_payOut (hfl : l.stackTraces = false) (M : MC p s m #[Value.ref b] meth c code wsL_law RL 7 D cy A) (Th : TH A s s.heap) (hN : NC s) (hX : va_X b L xs s s.heap) (hbl : b < s.heap.size) (hbA : ¬ A b) (hL : L ≤ 2560) (hi : i + 5 ≤ L) (w : MO D A s.heap (C, ad, G cy ad e) H locs) (hI : INV e) (hC : CC (e 0 1) (e 0 3) C) (hl : lv_has ls 7 (lvL b ad i)) (hc : cells + 11 ≤ 601024) (hs : slots + 3850 ≤ 7293034)
    (kk : ∀ (C2 : List Nat) (ad2 : Nat → Nat) (e2 : Nat → Nat → Nat) (H2 : Heap) (locs2 : List Loc) (ls2 : Array Slot), MO D A s.heap (C2, ad2, G cy ad2 e2) H2 locs2 → INV e2 → CC (e2 0 1) (e2 0 3) C2 → lv_has ls2 7 (lvL b ad2 i) → W p l e9 room_1 s m #[Value.ref b] below meth c H2 locs2 (cells + 11) (slots + 3850) Q (F0 m 1558 ls2 [])) : W p l e9 room_1 s m #[Value.ref b] below meth c H locs cells slots Q (F0 m 592 ls []) := by
  have hx := M.1.1
  have hb := M.1.2.1
  have hB := hC.B
  have hl : lv_has ls 7 [(0, .ref b), (1, .ref (ad 0)), (2, .ref (ad 7)), (3, .ref (ad 6)), (4, .int (nI i))] := hl
  obtain ⟨a1, ha1, x1⟩ := nI_all (xs (i + 1))
  obtain ⟨a2, ha2, x2⟩ := nI_all (xs (i + 2))
  refine lv_aload_n hx hb dL_law_592 rfl (lv_at hl 1 rfl) ?_
  refine la_arg M w hX hbl hbA hL hl 0 4 rfl rfl (k := 1) (show Int32.ofInt 1 = nI 1 from rfl) (by omega) x1 593 dL_law_593 dL_law_594 dL_law_596 dL_law_597 dL_law_598 ?_
  refine la_arg M w hX hbl hbA hL hl 0 4 rfl rfl (k := 2) (show Int32.ofInt 2 = nI 2 from rfl) (by omega) x2 599 dL_law_599 dL_law_600 dL_law_602 dL_law_603 dL_law_604 ?_
  refine lv_aload_n hx hb dL_law_605 rfl (lv_at hl 3 rfl) ?_
  refine mxw_SW M w Th hN (kL_payOut l hfl D cy C ad e H.size a1 a2 hC hI.1 ha1 ha2) (vx_cwSW 4 M.1.2.2.2.2 gL_law_L_payOut rfl rfl rfl (by decide +kernel) ⟨Nat.le_of_ble_eq_true rfl, Nat.le_of_ble_eq_true rfl⟩) rfl hl.1 rfl (Nat.le_of_ble_eq_true rfl) dL_law_606 ⟨by show cells + 4 ≤ 601024; omega, by show slots + 24 ≤ 7293034; omega⟩ (fun r u1 H locs hp w => ?_)
  obtain ⟨j, v, e1, C1, ad1, rfl, hj, had, rfl, hT⟩ := hp
  have h6 := lw_h6 e1 v j
  have h60 := lw_h60 e1 v j
  generalize (if j = 0 then es e1 6 0 (lK v) else e1) = e' at w h6 h60
  obtain ⟨hB1, hM1, hst⟩ := stp_payOut hI hC hT h6
  have hl : lv_has ls 7 [(0, .ref b), (1, .ref (ad1 0)), (2, .ref (ad1 7)), (3, .ref (ad1 6)), (4, .int (nI i))] := by
    have h9 := lvL_eq had hB b i
    unfold lvL at h9
    rw [h9] at hl
    exact hl
  refine lv_istore (lv' := [(5, .int (nI j)), (0, .ref b), (1, .ref (ad1 0)), (2, .ref (ad1 7)), (3, .ref (ad1 6)), (4, .int (nI i))]) hx hb dL_law_609 hl (by decide) rfl (fun ls hl => ?_)
  refine lv_aload_n hx hb dL_law_611 rfl (lv_at hl 3 rfl) ?_
  refine la_arg M w hX hbl hbA hL hl 1 5 rfl rfl (k := 1) (show Int32.ofInt 1 = nI 1 from rfl) (by omega) x1 612 dL_law_612 dL_law_613 dL_law_615 dL_law_616 dL_law_617 ?_
  refine la_arg M w hX hbl hbA hL hl 1 5 rfl rfl (k := 2) (show Int32.ofInt 2 = nI 2 from rfl) (by omega) x2 618 dL_law_618 dL_law_619 dL_law_621 dL_law_622 dL_law_623 ?_
  refine mx_Vi M w (kX4_payOut l D cy C1 ad1 e' H.size a1 a2 hB1 hM1 ha1 ha2) (cwV 2 M.1.2.2.2.2 gL_law_X4_payOut rfl rfl rfl (by decide +kernel) ⟨Nat.le_of_ble_eq_true rfl, Nat.le_of_ble_eq_true rfl⟩) (mo_rec M w (hB1 7 (by decide)) (g := G cy ad1 e') (sh_7 cy ad1 (e' 7)) rfl) rfl hl.1 rfl (Nat.le_of_ble_eq_true rfl) dL_law_624 ⟨by show cells + 4 + 0 ≤ 601024; omega, by show slots + 24 + 0 ≤ 7293034; omega⟩ (fun r u1 H locs hp w => ?_)
  obtain ⟨e2, rfl, hI2, hC2, q1, q2, q3⟩ := hst cy ad1 r u1 hp
  refine lv_istore (lv' := [(6, .int r), (5, .int (nI j)), (0, .ref b), (1, .ref (ad1 0)), (2, .ref (ad1 7)), (3, .ref (ad1 6)), (4, .int (nI i))]) hx hb dL_law_627 hl (by decide) rfl (fun ls hl => ?_)
  refine la_tail M w hB1 hj q1 q2 (fun z => by rw [q3]; exact h60 z) hl 4 5 1 0 rfl rfl rfl rfl (cwV 0 M.1.2.2.2.2 gL_law_X4_thrown rfl rfl rfl (by decide +kernel) ⟨Nat.le_of_ble_eq_true rfl, Nat.le_of_ble_eq_true rfl⟩) ⟨by show cells + 4 + 0 ≤ 601024; omega, by show slots + 24 + 0 ≤ 7293034; omega⟩ 629 1558 dL_law_629 dL_law_630 dL_law_633 dL_law_635 dL_law_640 dL_law_642 dL_law_645 dL_law_646 dL_law_647 dL_law_648 dL_law_650 dL_law_651 dL_law_652 dL_law_657 (by decide) (fun H locs w => ?_)
  refine W.widen (k := cells + 11) (n := slots + 3850) (by omega) (by omega) ?_
  exact kk C1 ad1 e2 H locs ls w hI2 hC2 (lv_sub hl [2, 3, 4, 5, 6] rfl)
set_option maxHeartbeats 4000000 in
set_option maxRecDepth 100000 in
theorem law_pass (hfl : l.stackTraces = false) (M : MC p s m #[Value.ref b] meth c code wsL_law RL 7 D cy A) (Th : TH A s s.heap) (hN : NC s) (hX : va_X b L xs s s.heap) (hbl : b < s.heap.size) (hbA : ¬ A b) (hL : L ≤ 2560) (hi : i + 5 ≤ L) (w : MO D A s.heap (C, ad, G cy ad e) H locs) (hI : INV e) (hC : CC (e 0 1) (e 0 3) C) (hl : lv_has ls 7 (lvL b ad i)) (hc : cells + 11 ≤ 601024) (hs : slots + 3850 ≤ 7293034)
    (kk : ∀ (C2 : List Nat) (ad2 : Nat → Nat) (e2 : Nat → Nat → Nat) (H2 : Heap) (locs2 : List Loc) (ls2 : Array Slot), MO D A s.heap (C2, ad2, G cy ad2 e2) H2 locs2 → INV e2 → CC (e2 0 1) (e2 0 3) C2 → lv_has ls2 7 (lvL b ad2 i) → W p l e9 room_1 s m #[Value.ref b] below meth c H2 locs2 (cells + 11) (slots + 3850) Q (F0 m 1558 ls2 [])) : W p l e9 room_1 s m #[Value.ref b] below meth c H locs cells slots Q (F0 m 660 ls []) := by
  have hx := M.1.1
  have hb := M.1.2.1
  have hB := hC.B
  have hl : lv_has ls 7 [(0, .ref b), (1, .ref (ad 0)), (2, .ref (ad 7)), (3, .ref (ad 6)), (4, .int (nI i))] := hl
  obtain ⟨a1, ha1, x1⟩ := nI_all (xs (i + 1))
  refine lv_aload_n hx hb dL_law_660 rfl (lv_at hl 1 rfl) ?_
  refine la_arg M w hX hbl hbA hL hl 0 4 rfl rfl (k := 1) (show Int32.ofInt 1 = nI 1 from rfl) (by omega) x1 661 dL_law_661 dL_law_662 dL_law_664 dL_law_665 dL_law_666 ?_
  refine lv_aload_n hx hb dL_law_667 rfl (lv_at hl 3 rfl) ?_
  refine mxw_SW M w Th hN (kL_pass l hfl D cy C ad e H.size a1 hC hI.1 ha1) (vx_cwSW 3 M.1.2.2.2.2 gL_law_L_pass rfl rfl rfl (by decide +kernel) ⟨Nat.le_of_ble_eq_true rfl, Nat.le_of_ble_eq_true rfl⟩) rfl hl.1 rfl (Nat.le_of_ble_eq_true rfl) dL_law_668 ⟨by show cells + 1 ≤ 601024; omega, by show slots + 6 ≤ 7293034; omega⟩ (fun r u1 H locs hp w => ?_)
  obtain ⟨j, v, e1, C1, ad1, rfl, hj, had, rfl, hT⟩ := hp
  have h6 := lw_h6 e1 v j
  have h60 := lw_h60 e1 v j
  generalize (if j = 0 then es e1 6 0 (lK v) else e1) = e' at w h6 h60
  obtain ⟨hB1, hM1, hst⟩ := stp_pass hI hC hT h6
  have hl : lv_has ls 7 [(0, .ref b), (1, .ref (ad1 0)), (2, .ref (ad1 7)), (3, .ref (ad1 6)), (4, .int (nI i))] := by
    have h9 := lvL_eq had hB b i
    unfold lvL at h9
    rw [h9] at hl
    exact hl
  refine lv_istore (lv' := [(5, .int (nI j)), (0, .ref b), (1, .ref (ad1 0)), (2, .ref (ad1 7)), (3, .ref (ad1 6)), (4, .int (nI i))]) hx hb dL_law_671 hl (by decide) rfl (fun ls hl => ?_)
  refine lv_aload_n hx hb dL_law_673 rfl (lv_at hl 3 rfl) ?_
  refine la_arg M w hX hbl hbA hL hl 1 5 rfl rfl (k := 1) (show Int32.ofInt 1 = nI 1 from rfl) (by omega) x1 674 dL_law_674 dL_law_675 dL_law_677 dL_law_678 dL_law_679 ?_
  refine mx_Vi M w (kX4_pass l D cy C1 ad1 e' H.size a1 hB1 hM1 ha1) (cwV 1 M.1.2.2.2.2 gL_law_X4_pass rfl rfl rfl (by decide +kernel) ⟨Nat.le_of_ble_eq_true rfl, Nat.le_of_ble_eq_true rfl⟩) (mo_rec M w (hB1 7 (by decide)) (g := G cy ad1 e') (sh_7 cy ad1 (e' 7)) rfl) rfl hl.1 rfl (Nat.le_of_ble_eq_true rfl) dL_law_680 ⟨by show cells + 1 + 0 ≤ 601024; omega, by show slots + 6 + 0 ≤ 7293034; omega⟩ (fun r u1 H locs hp w => ?_)
  obtain ⟨e2, rfl, hI2, hC2, q1, q2, q3⟩ := hst cy ad1 r u1 hp
  refine lv_istore (lv' := [(6, .int r), (5, .int (nI j)), (0, .ref b), (1, .ref (ad1 0)), (2, .ref (ad1 7)), (3, .ref (ad1 6)), (4, .int (nI i))]) hx hb dL_law_683 hl (by decide) rfl (fun ls hl => ?_)
  refine la_tail M w hB1 hj q1 q2 (fun z => by rw [q3]; exact h60 z) hl 4 5 1 0 rfl rfl rfl rfl (cwV 0 M.1.2.2.2.2 gL_law_X4_thrown rfl rfl rfl (by decide +kernel) ⟨Nat.le_of_ble_eq_true rfl, Nat.le_of_ble_eq_true rfl⟩) ⟨by show cells + 1 + 0 ≤ 601024; omega, by show slots + 6 + 0 ≤ 7293034; omega⟩ 685 1558 dL_law_685 dL_law_686 dL_law_689 dL_law_691 dL_law_696 dL_law_698 dL_law_701 dL_law_702 dL_law_703 dL_law_704 dL_law_706 dL_law_707 dL_law_708 dL_law_713 (by decide) (fun H locs w => ?_)
  refine W.widen (k := cells + 11) (n := slots + 3850) (by omega) (by omega) ?_
  exact kk C1 ad1 e2 H locs ls w hI2 hC2 (lv_sub hl [2, 3, 4, 5, 6] rfl)
set_option maxHeartbeats 4000000 in
set_option maxRecDepth 100000 in
theorem law_today (hfl : l.stackTraces = false) (M : MC p s m #[Value.ref b] meth c code wsL_law RL 7 D cy A) (Th : TH A s s.heap) (hN : NC s) (hX : va_X b L xs s s.heap) (hbl : b < s.heap.size) (hbA : ¬ A b) (hL : L ≤ 2560) (hi : i + 5 ≤ L) (w : MO D A s.heap (C, ad, G cy ad e) H locs) (hI : INV e) (hC : CC (e 0 1) (e 0 3) C) (hl : lv_has ls 7 (lvL b ad i)) (hc : cells + 11 ≤ 601024) (hs : slots + 3850 ≤ 7293034)
    (kk : ∀ (C2 : List Nat) (ad2 : Nat → Nat) (e2 : Nat → Nat → Nat) (H2 : Heap) (locs2 : List Loc) (ls2 : Array Slot), MO D A s.heap (C2, ad2, G cy ad2 e2) H2 locs2 → INV e2 → CC (e2 0 1) (e2 0 3) C2 → lv_has ls2 7 (lvL b ad2 i) → W p l e9 room_1 s m #[Value.ref b] below meth c H2 locs2 (cells + 11) (slots + 3850) Q (F0 m 1558 ls2 [])) : W p l e9 room_1 s m #[Value.ref b] below meth c H locs cells slots Q (F0 m 716 ls []) := by
  have hx := M.1.1
  have hb := M.1.2.1
  have hB := hC.B
  have hl : lv_has ls 7 [(0, .ref b), (1, .ref (ad 0)), (2, .ref (ad 7)), (3, .ref (ad 6)), (4, .int (nI i))] := hl
  refine lv_aload_n hx hb dL_law_716 rfl (lv_at hl 1 rfl) ?_
  refine mx_Vi M w (kX3_today l D cy C ad e H.size hB) (cwV 0 M.1.2.2.2.2 gL_law_X3_today rfl rfl rfl (by decide +kernel) ⟨Nat.le_of_ble_eq_true rfl, Nat.le_of_ble_eq_true rfl⟩) (mo_rec M w (hB 0 (by decide)) (g := G cy ad e) (sh_0 cy ad (e 0)) rfl) rfl hl.1 rfl (Nat.le_of_ble_eq_true rfl) dL_law_717 ⟨by show cells + 0 ≤ 601024; omega, by show slots + 0 ≤ 7293034; omega⟩ (fun r1 u1 H locs hp w => ?_)
  obtain ⟨rfl, rfl⟩ := hp
  refine lv_aload_n hx hb dL_law_720 rfl (lv_at hl 2 rfl) ?_
  refine mx_Vi M w (kX4_today l D cy C ad e H.size hB hI.2.1) (cwV 0 M.1.2.2.2.2 gL_law_X4_today rfl rfl rfl (by decide +kernel) ⟨Nat.le_of_ble_eq_true rfl, Nat.le_of_ble_eq_true rfl⟩) (mo_rec M w (hB 7 (by decide)) (g := G cy ad e) (sh_7 cy ad (e 7)) rfl) rfl hl.1 rfl (Nat.le_of_ble_eq_true rfl) dL_law_721 ⟨by show cells + 0 + 0 ≤ 601024; omega, by show slots + 0 + 0 ≤ 7293034; omega⟩ (fun r1 u1 H locs hp w => ?_)
  obtain ⟨rfl, rfl⟩ := hp
  have q1 : nI (e 0 6) = nI ((es e 7 0 0) 7 1) := congrArg nI ((hI.2.2.1.2.2.2.2).trans (es_ne e 0 (by omega)).symm)
  refine lv_icmp_eq (tgt := 1558) hx hb dL_law_724 (by decide) (fun _ => ?_) (fun h => absurd q1 h)
  refine W.widen (k := cells + 11) (n := slots + 3850) (by omega) (by omega) ?_
  exact kk C ad (es e 7 0 0) H locs ls w (hI.fr (XF_thr e 0) (YF_thr e 0) (es_ne e 0 (by omega))) (by rw [es_off e 0 0 (show (0 : Nat) ≠ 7 by decide)]; exact hC) hl
set_option maxHeartbeats 4000000 in
set_option maxRecDepth 100000 in
theorem law_people (hfl : l.stackTraces = false) (M : MC p s m #[Value.ref b] meth c code wsL_law RL 7 D cy A) (Th : TH A s s.heap) (hN : NC s) (hX : va_X b L xs s s.heap) (hbl : b < s.heap.size) (hbA : ¬ A b) (hL : L ≤ 2560) (hi : i + 5 ≤ L) (w : MO D A s.heap (C, ad, G cy ad e) H locs) (hI : INV e) (hC : CC (e 0 1) (e 0 3) C) (hl : lv_has ls 7 (lvL b ad i)) (hc : cells + 11 ≤ 601024) (hs : slots + 3850 ≤ 7293034)
    (kk : ∀ (C2 : List Nat) (ad2 : Nat → Nat) (e2 : Nat → Nat → Nat) (H2 : Heap) (locs2 : List Loc) (ls2 : Array Slot), MO D A s.heap (C2, ad2, G cy ad2 e2) H2 locs2 → INV e2 → CC (e2 0 1) (e2 0 3) C2 → lv_has ls2 7 (lvL b ad2 i) → W p l e9 room_1 s m #[Value.ref b] below meth c H2 locs2 (cells + 11) (slots + 3850) Q (F0 m 1558 ls2 [])) : W p l e9 room_1 s m #[Value.ref b] below meth c H locs cells slots Q (F0 m 729 ls []) := by
  have hx := M.1.1
  have hb := M.1.2.1
  have hB := hC.B
  have hl : lv_has ls 7 [(0, .ref b), (1, .ref (ad 0)), (2, .ref (ad 7)), (3, .ref (ad 6)), (4, .int (nI i))] := hl
  refine lv_aload_n hx hb dL_law_729 rfl (lv_at hl 1 rfl) ?_
  refine mx_Vi M w (kX3_people l D cy C ad e H.size hB) (cwV 0 M.1.2.2.2.2 gL_law_X3_people rfl rfl rfl (by decide +kernel) ⟨Nat.le_of_ble_eq_true rfl, Nat.le_of_ble_eq_true rfl⟩) (mo_rec M w (hB 0 (by decide)) (g := G cy ad e) (sh_0 cy ad (e 0)) rfl) rfl hl.1 rfl (Nat.le_of_ble_eq_true rfl) dL_law_730 ⟨by show cells + 0 ≤ 601024; omega, by show slots + 0 ≤ 7293034; omega⟩ (fun r1 u1 H locs hp w => ?_)
  obtain ⟨rfl, rfl⟩ := hp
  refine lv_aload_n hx hb dL_law_733 rfl (lv_at hl 2 rfl) ?_
  refine mx_Vi M w (kX4_people l D cy C ad e H.size hB hI.2.1) (cwV 0 M.1.2.2.2.2 gL_law_X4_people rfl rfl rfl (by decide +kernel) ⟨Nat.le_of_ble_eq_true rfl, Nat.le_of_ble_eq_true rfl⟩) (mo_rec M w (hB 7 (by decide)) (g := G cy ad e) (sh_7 cy ad (e 7)) rfl) rfl hl.1 rfl (Nat.le_of_ble_eq_true rfl) dL_law_734 ⟨by show cells + 0 + 0 ≤ 601024; omega, by show slots + 0 + 0 ≤ 7293034; omega⟩ (fun r1 u1 H locs hp w => ?_)
  obtain ⟨rfl, rfl⟩ := hp
  have q1 : nI (e 0 1) = nI ((es e 7 0 0) 7 2) := congrArg nI ((hI.2.2.1.1).trans (es_ne e 0 (by omega)).symm)
  refine lv_icmp_eq (tgt := 1558) hx hb dL_law_737 (by decide) (fun _ => ?_) (fun h => absurd q1 h)
  refine W.widen (k := cells + 11) (n := slots + 3850) (by omega) (by omega) ?_
  exact kk C ad (es e 7 0 0) H locs ls w (hI.fr (XF_thr e 0) (YF_thr e 0) (es_ne e 0 (by omega))) (by rw [es_off e 0 0 (show (0 : Nat) ≠ 7 by decide)]; exact hC) hl
set_option maxHeartbeats 4000000 in
set_option maxRecDepth 100000 in
theorem law_workingDays (hfl : l.stackTraces = false) (M : MC p s m #[Value.ref b] meth c code wsL_law RL 7 D cy A) (Th : TH A s s.heap) (hN : NC s) (hX : va_X b L xs s s.heap) (hbl : b < s.heap.size) (hbA : ¬ A b) (hL : L ≤ 2560) (hi : i + 5 ≤ L) (w : MO D A s.heap (C, ad, G cy ad e) H locs) (hI : INV e) (hC : CC (e 0 1) (e 0 3) C) (hl : lv_has ls 7 (lvL b ad i)) (hc : cells + 11 ≤ 601024) (hs : slots + 3850 ≤ 7293034)
    (kk : ∀ (C2 : List Nat) (ad2 : Nat → Nat) (e2 : Nat → Nat → Nat) (H2 : Heap) (locs2 : List Loc) (ls2 : Array Slot), MO D A s.heap (C2, ad2, G cy ad2 e2) H2 locs2 → INV e2 → CC (e2 0 1) (e2 0 3) C2 → lv_has ls2 7 (lvL b ad2 i) → W p l e9 room_1 s m #[Value.ref b] below meth c H2 locs2 (cells + 11) (slots + 3850) Q (F0 m 1558 ls2 [])) : W p l e9 room_1 s m #[Value.ref b] below meth c H locs cells slots Q (F0 m 742 ls []) := by
  have hx := M.1.1
  have hb := M.1.2.1
  have hB := hC.B
  have hl : lv_has ls 7 [(0, .ref b), (1, .ref (ad 0)), (2, .ref (ad 7)), (3, .ref (ad 6)), (4, .int (nI i))] := hl
  obtain ⟨a1, ha1, x1⟩ := nI_all (xs (i + 1))
  obtain ⟨a2, ha2, x2⟩ := nI_all (xs (i + 2))
  refine lv_aload_n hx hb dL_law_742 rfl (lv_at hl 1 rfl) ?_
  refine la_arg M w hX hbl hbA hL hl 0 4 rfl rfl (k := 1) (show Int32.ofInt 1 = nI 1 from rfl) (by omega) x1 743 dL_law_743 dL_law_744 dL_law_746 dL_law_747 dL_law_748 ?_
  refine la_arg M w hX hbl hbA hL hl 0 4 rfl rfl (k := 2) (show Int32.ofInt 2 = nI 2 from rfl) (by omega) x2 749 dL_law_749 dL_law_750 dL_law_752 dL_law_753 dL_law_754 ?_
  refine lv_aload_n hx hb dL_law_755 rfl (lv_at hl 3 rfl) ?_
  refine mxw_SW M w Th hN (kL_workingDays l hfl D cy C ad e H.size a1 a2 hC hI.1 ha1 ha2) (vx_cwSW 4 M.1.2.2.2.2 gL_law_L_workingDays rfl rfl rfl (by decide +kernel) ⟨Nat.le_of_ble_eq_true rfl, Nat.le_of_ble_eq_true rfl⟩) rfl hl.1 rfl (Nat.le_of_ble_eq_true rfl) dL_law_756 ⟨by show cells + 1 ≤ 601024; omega, by show slots + 6 ≤ 7293034; omega⟩ (fun r u1 H locs hp w => ?_)
  obtain ⟨j, v, e1, C1, ad1, rfl, hj, had, rfl, hT⟩ := hp
  have h6 := lw_h6 e1 v j
  have h60 := lw_h60 e1 v j
  generalize (if j = 0 then es e1 6 0 (lK v) else e1) = e' at w h6 h60
  obtain ⟨hB1, hM1, hst⟩ := stp_workingDays hI hC hT h6
  have hl : lv_has ls 7 [(0, .ref b), (1, .ref (ad1 0)), (2, .ref (ad1 7)), (3, .ref (ad1 6)), (4, .int (nI i))] := by
    have h9 := lvL_eq had hB b i
    unfold lvL at h9
    rw [h9] at hl
    exact hl
  refine lv_istore (lv' := [(5, .int (nI j)), (0, .ref b), (1, .ref (ad1 0)), (2, .ref (ad1 7)), (3, .ref (ad1 6)), (4, .int (nI i))]) hx hb dL_law_759 hl (by decide) rfl (fun ls hl => ?_)
  refine lv_aload_n hx hb dL_law_761 rfl (lv_at hl 3 rfl) ?_
  refine la_arg M w hX hbl hbA hL hl 1 5 rfl rfl (k := 1) (show Int32.ofInt 1 = nI 1 from rfl) (by omega) x1 762 dL_law_762 dL_law_763 dL_law_765 dL_law_766 dL_law_767 ?_
  refine la_arg M w hX hbl hbA hL hl 1 5 rfl rfl (k := 2) (show Int32.ofInt 2 = nI 2 from rfl) (by omega) x2 768 dL_law_768 dL_law_769 dL_law_771 dL_law_772 dL_law_773 ?_
  refine mx_Vi M w (kX4_workingDays l D cy C1 ad1 e' H.size a1 a2 hB1 hM1 ha1 ha2) (cwV 2 M.1.2.2.2.2 gL_law_X4_workingDays rfl rfl rfl (by decide +kernel) ⟨Nat.le_of_ble_eq_true rfl, Nat.le_of_ble_eq_true rfl⟩) (mo_rec M w (hB1 7 (by decide)) (g := G cy ad1 e') (sh_7 cy ad1 (e' 7)) rfl) rfl hl.1 rfl (Nat.le_of_ble_eq_true rfl) dL_law_774 ⟨by show cells + 1 + 0 ≤ 601024; omega, by show slots + 6 + 0 ≤ 7293034; omega⟩ (fun r u1 H locs hp w => ?_)
  obtain ⟨e2, rfl, hI2, hC2, q1, q2, q3⟩ := hst cy ad1 r u1 hp
  refine lv_istore (lv' := [(6, .int r), (5, .int (nI j)), (0, .ref b), (1, .ref (ad1 0)), (2, .ref (ad1 7)), (3, .ref (ad1 6)), (4, .int (nI i))]) hx hb dL_law_777 hl (by decide) rfl (fun ls hl => ?_)
  refine la_tail M w hB1 hj q1 q2 (fun z => by rw [q3]; exact h60 z) hl 4 5 1 0 rfl rfl rfl rfl (cwV 0 M.1.2.2.2.2 gL_law_X4_thrown rfl rfl rfl (by decide +kernel) ⟨Nat.le_of_ble_eq_true rfl, Nat.le_of_ble_eq_true rfl⟩) ⟨by show cells + 1 + 0 ≤ 601024; omega, by show slots + 6 + 0 ≤ 7293034; omega⟩ 779 1558 dL_law_779 dL_law_780 dL_law_783 dL_law_785 dL_law_790 dL_law_792 dL_law_795 dL_law_796 dL_law_797 dL_law_798 dL_law_800 dL_law_801 dL_law_802 dL_law_807 (by decide) (fun H locs w => ?_)
  refine W.widen (k := cells + 11) (n := slots + 3850) (by omega) (by omega) ?_
  exact kk C1 ad1 e2 H locs ls w hI2 hC2 (lv_sub hl [2, 3, 4, 5, 6] rfl)
set_option maxHeartbeats 4000000 in
set_option maxRecDepth 100000 in
theorem law_hours (hfl : l.stackTraces = false) (M : MC p s m #[Value.ref b] meth c code wsL_law RL 7 D cy A) (Th : TH A s s.heap) (hN : NC s) (hX : va_X b L xs s s.heap) (hbl : b < s.heap.size) (hbA : ¬ A b) (hL : L ≤ 2560) (hi : i + 5 ≤ L) (w : MO D A s.heap (C, ad, G cy ad e) H locs) (hI : INV e) (hC : CC (e 0 1) (e 0 3) C) (hl : lv_has ls 7 (lvL b ad i)) (hc : cells + 11 ≤ 601024) (hs : slots + 3850 ≤ 7293034)
    (kk : ∀ (C2 : List Nat) (ad2 : Nat → Nat) (e2 : Nat → Nat → Nat) (H2 : Heap) (locs2 : List Loc) (ls2 : Array Slot), MO D A s.heap (C2, ad2, G cy ad2 e2) H2 locs2 → INV e2 → CC (e2 0 1) (e2 0 3) C2 → lv_has ls2 7 (lvL b ad2 i) → W p l e9 room_1 s m #[Value.ref b] below meth c H2 locs2 (cells + 11) (slots + 3850) Q (F0 m 1558 ls2 [])) : W p l e9 room_1 s m #[Value.ref b] below meth c H locs cells slots Q (F0 m 810 ls []) := by
  have hx := M.1.1
  have hb := M.1.2.1
  have hB := hC.B
  have hl : lv_has ls 7 [(0, .ref b), (1, .ref (ad 0)), (2, .ref (ad 7)), (3, .ref (ad 6)), (4, .int (nI i))] := hl
  obtain ⟨a1, ha1, x1⟩ := nI_all (xs (i + 1))
  obtain ⟨a2, ha2, x2⟩ := nI_all (xs (i + 2))
  refine lv_aload_n hx hb dL_law_810 rfl (lv_at hl 1 rfl) ?_
  refine la_arg M w hX hbl hbA hL hl 0 4 rfl rfl (k := 1) (show Int32.ofInt 1 = nI 1 from rfl) (by omega) x1 811 dL_law_811 dL_law_812 dL_law_814 dL_law_815 dL_law_816 ?_
  refine la_arg M w hX hbl hbA hL hl 0 4 rfl rfl (k := 2) (show Int32.ofInt 2 = nI 2 from rfl) (by omega) x2 817 dL_law_817 dL_law_818 dL_law_820 dL_law_821 dL_law_822 ?_
  refine lv_aload_n hx hb dL_law_823 rfl (lv_at hl 3 rfl) ?_
  refine mxw_SW M w Th hN (kL_hours l hfl D cy C ad e H.size a1 a2 hC hI.1 ha1 ha2) (vx_cwSW 4 M.1.2.2.2.2 gL_law_L_hours rfl rfl rfl (by decide +kernel) ⟨Nat.le_of_ble_eq_true rfl, Nat.le_of_ble_eq_true rfl⟩) rfl hl.1 rfl (Nat.le_of_ble_eq_true rfl) dL_law_824 ⟨by show cells + 2 ≤ 601024; omega, by show slots + 12 ≤ 7293034; omega⟩ (fun r u1 H locs hp w => ?_)
  obtain ⟨j, v, e1, C1, ad1, rfl, hj, had, rfl, hT⟩ := hp
  have h6 := lw_h6 e1 v j
  have h60 := lw_h60 e1 v j
  generalize (if j = 0 then es e1 6 0 (lK v) else e1) = e' at w h6 h60
  obtain ⟨hB1, hM1, hst⟩ := stp_hours hI hC hT h6
  have hl : lv_has ls 7 [(0, .ref b), (1, .ref (ad1 0)), (2, .ref (ad1 7)), (3, .ref (ad1 6)), (4, .int (nI i))] := by
    have h9 := lvL_eq had hB b i
    unfold lvL at h9
    rw [h9] at hl
    exact hl
  refine lv_istore (lv' := [(5, .int (nI j)), (0, .ref b), (1, .ref (ad1 0)), (2, .ref (ad1 7)), (3, .ref (ad1 6)), (4, .int (nI i))]) hx hb dL_law_827 hl (by decide) rfl (fun ls hl => ?_)
  refine lv_aload_n hx hb dL_law_829 rfl (lv_at hl 3 rfl) ?_
  refine la_arg M w hX hbl hbA hL hl 1 5 rfl rfl (k := 1) (show Int32.ofInt 1 = nI 1 from rfl) (by omega) x1 830 dL_law_830 dL_law_831 dL_law_833 dL_law_834 dL_law_835 ?_
  refine la_arg M w hX hbl hbA hL hl 1 5 rfl rfl (k := 2) (show Int32.ofInt 2 = nI 2 from rfl) (by omega) x2 836 dL_law_836 dL_law_837 dL_law_839 dL_law_840 dL_law_841 ?_
  refine mx_Vi M w (kX4_hours l D cy C1 ad1 e' H.size a1 a2 hB1 hM1 ha1 ha2) (cwV 2 M.1.2.2.2.2 gL_law_X4_hours rfl rfl rfl (by decide +kernel) ⟨Nat.le_of_ble_eq_true rfl, Nat.le_of_ble_eq_true rfl⟩) (mo_rec M w (hB1 7 (by decide)) (g := G cy ad1 e') (sh_7 cy ad1 (e' 7)) rfl) rfl hl.1 rfl (Nat.le_of_ble_eq_true rfl) dL_law_842 ⟨by show cells + 2 + 0 ≤ 601024; omega, by show slots + 12 + 0 ≤ 7293034; omega⟩ (fun r u1 H locs hp w => ?_)
  obtain ⟨e2, rfl, hI2, hC2, q1, q2, q3⟩ := hst cy ad1 r u1 hp
  refine lv_istore (lv' := [(6, .int r), (5, .int (nI j)), (0, .ref b), (1, .ref (ad1 0)), (2, .ref (ad1 7)), (3, .ref (ad1 6)), (4, .int (nI i))]) hx hb dL_law_845 hl (by decide) rfl (fun ls hl => ?_)
  refine la_tail M w hB1 hj q1 q2 (fun z => by rw [q3]; exact h60 z) hl 4 5 1 0 rfl rfl rfl rfl (cwV 0 M.1.2.2.2.2 gL_law_X4_thrown rfl rfl rfl (by decide +kernel) ⟨Nat.le_of_ble_eq_true rfl, Nat.le_of_ble_eq_true rfl⟩) ⟨by show cells + 2 + 0 ≤ 601024; omega, by show slots + 12 + 0 ≤ 7293034; omega⟩ 847 1558 dL_law_847 dL_law_848 dL_law_851 dL_law_853 dL_law_858 dL_law_860 dL_law_863 dL_law_864 dL_law_865 dL_law_866 dL_law_868 dL_law_869 dL_law_870 dL_law_875 (by decide) (fun H locs w => ?_)
  refine W.widen (k := cells + 11) (n := slots + 3850) (by omega) (by omega) ?_
  exact kk C1 ad1 e2 H locs ls w hI2 hC2 (lv_sub hl [2, 3, 4, 5, 6] rfl)
end
