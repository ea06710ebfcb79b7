/-! ===== the law: a call of the script, case by case ===== -/
section
variable {p : Program} {l : Launch} {e9 : Env} {s : State} {m : MethodId} {below : List Frame} {meth : Method} {c : Code} {H : Heap} {locs : List Loc} {cells slots : Nat} {Q : State → Prop}
variable {ls : Array Slot} {D : va_G} {cy : Nat → ClassId} {A : Nat → Prop} {C : List Nat} {ad : Nat → Nat} {e : Nat → Nat → Nat} {b L i : Nat} {xs : Nat → Int32}
set_option maxHeartbeats 4000000 in
set_option maxRecDepth 100000 in
theorem law_onLeave (hfl : l.stackTraces = false) (M : MC p s m #[Value.ref b] meth c code wsL_law RL 7 D cy A) (Th : TH A s s.heap) (hN : NC s) (hX : va_X b L xs s s.heap) (hbl : b < s.heap.size) (hbA : ¬ A b) (hL : L ≤ 2560) (hi : i + 5 ≤ L) (w : MO D A s.heap (C, ad, G cy ad e) H locs) (hI : INV e) (hC : CC (e 0 1) (e 0 3) C) (hl : lv_has ls 7 (lvL b ad i)) (hc : cells + 11 ≤ 601024) (hs : slots + 3850 ≤ 7293034)
    (kk : ∀ (C2 : List Nat) (ad2 : Nat → Nat) (e2 : Nat → Nat → Nat) (H2 : Heap) (locs2 : List Loc) (ls2 : Array Slot), MO D A s.heap (C2, ad2, G cy ad2 e2) H2 locs2 → INV e2 → CC (e2 0 1) (e2 0 3) C2 → lv_has ls2 7 (lvL b ad2 i) → W p l e9 room_1 s m #[Value.ref b] below meth c H2 locs2 (cells + 11) (slots + 3850) Q (F0 m 1558 ls2 [])) : W p l e9 room_1 s m #[Value.ref b] below meth c H locs cells slots Q (F0 m 878 ls []) := by
  have hx := M.1.1
  have hb := M.1.2.1
  have hB := hC.B
  have hl : lv_has ls 7 [(0, .ref b), (1, .ref (ad 0)), (2, .ref (ad 7)), (3, .ref (ad 6)), (4, .int (nI i))] := hl
  obtain ⟨a1, ha1, x1⟩ := nI_all (xs (i + 1))
  obtain ⟨a2, ha2, x2⟩ := nI_all (xs (i + 2))
  refine lv_aload_n hx hb dL_law_878 rfl (lv_at hl 1 rfl) ?_
  refine la_arg M w hX hbl hbA hL hl 0 4 rfl rfl (k := 1) (show Int32.ofInt 1 = nI 1 from rfl) (by omega) x1 879 dL_law_879 dL_law_880 dL_law_882 dL_law_883 dL_law_884 ?_
  refine la_arg M w hX hbl hbA hL hl 0 4 rfl rfl (k := 2) (show Int32.ofInt 2 = nI 2 from rfl) (by omega) x2 885 dL_law_885 dL_law_886 dL_law_888 dL_law_889 dL_law_890 ?_
  refine lv_aload_n hx hb dL_law_891 rfl (lv_at hl 3 rfl) ?_
  refine mxw_SW M w Th hN (kL_onLeave l hfl D cy C ad e H.size a1 a2 hC hI.1 ha1 ha2) (vx_cwSW 4 M.1.2.2.2.2 gL_law_L_onLeave rfl rfl rfl (by decide +kernel) ⟨Nat.le_of_ble_eq_true rfl, Nat.le_of_ble_eq_true rfl⟩) rfl hl.1 rfl (Nat.le_of_ble_eq_true rfl) dL_law_892 ⟨by show cells + 2 ≤ 601024; omega, by show slots + 12 ≤ 7293034; omega⟩ (fun r u1 H locs hp w => ?_)
  obtain ⟨j, v, e1, C1, ad1, rfl, hj, had, rfl, hT⟩ := hp
  have h6 := lw_h6 e1 v j
  have h60 := lw_h60 e1 v j
  generalize (if j = 0 then es e1 6 0 (lK v) else e1) = e' at w h6 h60
  obtain ⟨hB1, hM1, hst⟩ := stp_onLeave hI hC hT h6
  have hl : lv_has ls 7 [(0, .ref b), (1, .ref (ad1 0)), (2, .ref (ad1 7)), (3, .ref (ad1 6)), (4, .int (nI i))] := by
    have h9 := lvL_eq had hB b i
    unfold lvL at h9
    rw [h9] at hl
    exact hl
  refine lv_istore (lv' := [(5, .int (nI j)), (0, .ref b), (1, .ref (ad1 0)), (2, .ref (ad1 7)), (3, .ref (ad1 6)), (4, .int (nI i))]) hx hb dL_law_895 hl (by decide) rfl (fun ls hl => ?_)
  refine lv_aload_n hx hb dL_law_897 rfl (lv_at hl 3 rfl) ?_
  refine la_arg M w hX hbl hbA hL hl 1 5 rfl rfl (k := 1) (show Int32.ofInt 1 = nI 1 from rfl) (by omega) x1 898 dL_law_898 dL_law_899 dL_law_901 dL_law_902 dL_law_903 ?_
  refine la_arg M w hX hbl hbA hL hl 1 5 rfl rfl (k := 2) (show Int32.ofInt 2 = nI 2 from rfl) (by omega) x2 904 dL_law_904 dL_law_905 dL_law_907 dL_law_908 dL_law_909 ?_
  refine mx_Vi M w (kX4_onLeave l D cy C1 ad1 e' H.size a1 a2 hB1 hM1 ha1 ha2) (cwV 2 M.1.2.2.2.2 gL_law_X4_onLeave rfl rfl rfl (by decide +kernel) ⟨Nat.le_of_ble_eq_true rfl, Nat.le_of_ble_eq_true rfl⟩) (mo_rec M w (hB1 7 (by decide)) (g := G cy ad1 e') (sh_7 cy ad1 (e' 7)) rfl) rfl hl.1 rfl (Nat.le_of_ble_eq_true rfl) dL_law_910 ⟨by show cells + 2 + 0 ≤ 601024; omega, by show slots + 12 + 0 ≤ 7293034; omega⟩ (fun r u1 H locs hp w => ?_)
  obtain ⟨e2, rfl, hI2, hC2, q1, q2, q3⟩ := hst cy ad1 r u1 hp
  refine lv_istore (lv' := [(6, .int r), (5, .int (nI j)), (0, .ref b), (1, .ref (ad1 0)), (2, .ref (ad1 7)), (3, .ref (ad1 6)), (4, .int (nI i))]) hx hb dL_law_913 hl (by decide) rfl (fun ls hl => ?_)
  refine la_tail M w hB1 hj q1 q2 (fun z => by rw [q3]; exact h60 z) hl 4 5 1 0 rfl rfl rfl rfl (cwV 0 M.1.2.2.2.2 gL_law_X4_thrown rfl rfl rfl (by decide +kernel) ⟨Nat.le_of_ble_eq_true rfl, Nat.le_of_ble_eq_true rfl⟩) ⟨by show cells + 2 + 0 ≤ 601024; omega, by show slots + 12 + 0 ≤ 7293034; omega⟩ 915 1558 dL_law_915 dL_law_916 dL_law_919 dL_law_921 dL_law_926 dL_law_928 dL_law_931 dL_law_932 dL_law_933 dL_law_934 dL_law_936 dL_law_937 dL_law_938 dL_law_943 (by decide) (fun H locs w => ?_)
  refine W.widen (k := cells + 11) (n := slots + 3850) (by omega) (by omega) ?_
  exact kk C1 ad1 e2 H locs ls w hI2 hC2 (lv_sub hl [2, 3, 4, 5, 6] rfl)
set_option maxHeartbeats 4000000 in
set_option maxRecDepth 100000 in
theorem law_balance (hfl : l.stackTraces = false) (M : MC p s m #[Value.ref b] meth c code wsL_law RL 7 D cy A) (Th : TH A s s.heap) (hN : NC s) (hX : va_X b L xs s s.heap) (hbl : b < s.heap.size) (hbA : ¬ A b) (hL : L ≤ 2560) (hi : i + 5 ≤ L) (w : MO D A s.heap (C, ad, G cy ad e) H locs) (hI : INV e) (hC : CC (e 0 1) (e 0 3) C) (hl : lv_has ls 7 (lvL b ad i)) (hc : cells + 11 ≤ 601024) (hs : slots + 3850 ≤ 7293034)
    (kk : ∀ (C2 : List Nat) (ad2 : Nat → Nat) (e2 : Nat → Nat → Nat) (H2 : Heap) (locs2 : List Loc) (ls2 : Array Slot), MO D A s.heap (C2, ad2, G cy ad2 e2) H2 locs2 → INV e2 → CC (e2 0 1) (e2 0 3) C2 → lv_has ls2 7 (lvL b ad2 i) → W p l e9 room_1 s m #[Value.ref b] below meth c H2 locs2 (cells + 11) (slots + 3850) Q (F0 m 1558 ls2 [])) : W p l e9 room_1 s m #[Value.ref b] below meth c H locs cells slots Q (F0 m 946 ls []) := by
  have hx := M.1.1
  have hb := M.1.2.1
  have hB := hC.B
  have hl : lv_has ls 7 [(0, .ref b), (1, .ref (ad 0)), (2, .ref (ad 7)), (3, .ref (ad 6)), (4, .int (nI i))] := hl
  obtain ⟨a1, ha1, x1⟩ := nI_all (xs (i + 1))
  obtain ⟨a2, ha2, x2⟩ := nI_all (xs (i + 2))
  refine lv_aload_n hx hb dL_law_946 rfl (lv_at hl 1 rfl) ?_
  refine la_arg M w hX hbl hbA hL hl 0 4 rfl rfl (k := 1) (show Int32.ofInt 1 = nI 1 from rfl) (by omega) x1 947 dL_law_947 dL_law_948 dL_law_950 dL_law_951 dL_law_952 ?_
  refine la_arg M w hX hbl hbA hL hl 0 4 rfl rfl (k := 2) (show Int32.ofInt 2 = nI 2 from rfl) (by omega) x2 953 dL_law_953 dL_law_954 dL_law_956 dL_law_957 dL_law_958 ?_
  refine lv_aload_n hx hb dL_law_959 rfl (lv_at hl 3 rfl) ?_
  refine mxw_SW M w Th hN (kL_balance l hfl D cy C ad e H.size a1 a2 hC hI.1 ha1 ha2) (vx_cwSW 4 M.1.2.2.2.2 gL_law_L_balance rfl rfl rfl (by decide +kernel) ⟨Nat.le_of_ble_eq_true rfl, Nat.le_of_ble_eq_true rfl⟩) rfl hl.1 rfl (Nat.le_of_ble_eq_true rfl) dL_law_960 ⟨by show cells + 2 ≤ 601024; omega, by show slots + 12 ≤ 7293034; omega⟩ (fun r u1 H locs hp w => ?_)
  obtain ⟨j, v, e1, C1, ad1, rfl, hj, had, rfl, hT⟩ := hp
  have h6 := lw_h6 e1 v j
  have h60 := lw_h60 e1 v j
  generalize (if j = 0 then es e1 6 0 (lK v) else e1) = e' at w h6 h60
  obtain ⟨hB1, hM1, hst⟩ := stp_balance hI hC hT h6
  have hl : lv_has ls 7 [(0, .ref b), (1, .ref (ad1 0)), (2, .ref (ad1 7)), (3, .ref (ad1 6)), (4, .int (nI i))] := by
    have h9 := lvL_eq had hB b i
    unfold lvL at h9
    rw [h9] at hl
    exact hl
  refine lv_istore (lv' := [(5, .int (nI j)), (0, .ref b), (1, .ref (ad1 0)), (2, .ref (ad1 7)), (3, .ref (ad1 6)), (4, .int (nI i))]) hx hb dL_law_963 hl (by decide) rfl (fun ls hl => ?_)
  refine lv_aload_n hx hb dL_law_965 rfl (lv_at hl 3 rfl) ?_
  refine la_arg M w hX hbl hbA hL hl 1 5 rfl rfl (k := 1) (show Int32.ofInt 1 = nI 1 from rfl) (by omega) x1 966 dL_law_966 dL_law_967 dL_law_969 dL_law_970 dL_law_971 ?_
  refine la_arg M w hX hbl hbA hL hl 1 5 rfl rfl (k := 2) (show Int32.ofInt 2 = nI 2 from rfl) (by omega) x2 972 dL_law_972 dL_law_973 dL_law_975 dL_law_976 dL_law_977 ?_
  refine mx_Vi M w (kX4_balance l D cy C1 ad1 e' H.size a1 a2 hB1 hM1 ha1 ha2) (cwV 2 M.1.2.2.2.2 gL_law_X4_balance rfl rfl rfl (by decide +kernel) ⟨Nat.le_of_ble_eq_true rfl, Nat.le_of_ble_eq_true rfl⟩) (mo_rec M w (hB1 7 (by decide)) (g := G cy ad1 e') (sh_7 cy ad1 (e' 7)) rfl) rfl hl.1 rfl (Nat.le_of_ble_eq_true rfl) dL_law_978 ⟨by show cells + 2 + 0 ≤ 601024; omega, by show slots + 12 + 0 ≤ 7293034; omega⟩ (fun r u1 H locs hp w => ?_)
  obtain ⟨e2, rfl, hI2, hC2, q1, q2, q3⟩ := hst cy ad1 r u1 hp
  refine lv_istore (lv' := [(6, .int r), (5, .int (nI j)), (0, .ref b), (1, .ref (ad1 0)), (2, .ref (ad1 7)), (3, .ref (ad1 6)), (4, .int (nI i))]) hx hb dL_law_981 hl (by decide) rfl (fun ls hl => ?_)
  refine la_tail M w hB1 hj q1 q2 (fun z => by rw [q3]; exact h60 z) hl 4 5 1 0 rfl rfl rfl rfl (cwV 0 M.1.2.2.2.2 gL_law_X4_thrown rfl rfl rfl (by decide +kernel) ⟨Nat.le_of_ble_eq_true rfl, Nat.le_of_ble_eq_true rfl⟩) ⟨by show cells + 2 + 0 ≤ 601024; omega, by show slots + 12 + 0 ≤ 7293034; omega⟩ 983 1558 dL_law_983 dL_law_984 dL_law_987 dL_law_989 dL_law_994 dL_law_996 dL_law_999 dL_law_1000 dL_law_1001 dL_law_1002 dL_law_1004 dL_law_1005 dL_law_1006 dL_law_1011 (by decide) (fun H locs w => ?_)
  refine W.widen (k := cells + 11) (n := slots + 3850) (by omega) (by omega) ?_
  exact kk C1 ad1 e2 H locs ls w hI2 hC2 (lv_sub hl [2, 3, 4, 5, 6] rfl)
set_option maxHeartbeats 4000000 in
set_option maxRecDepth 100000 in
theorem law_balanceBySums (hfl : l.stackTraces = false) (M : MC p s m #[Value.ref b] meth c code wsL_law RL 7 D cy A) (Th : TH A s s.heap) (hN : NC s) (hX : va_X b L xs s s.heap) (hbl : b < s.heap.size) (hbA : ¬ A b) (hL : L ≤ 2560) (hi : i + 5 ≤ L) (w : MO D A s.heap (C, ad, G cy ad e) H locs) (hI : INV e) (hC : CC (e 0 1) (e 0 3) C) (hl : lv_has ls 7 (lvL b ad i)) (hc : cells + 11 ≤ 601024) (hs : slots + 3850 ≤ 7293034)
    (kk : ∀ (C2 : List Nat) (ad2 : Nat → Nat) (e2 : Nat → Nat → Nat) (H2 : Heap) (locs2 : List Loc) (ls2 : Array Slot), MO D A s.heap (C2, ad2, G cy ad2 e2) H2 locs2 → INV e2 → CC (e2 0 1) (e2 0 3) C2 → lv_has ls2 7 (lvL b ad2 i) → W p l e9 room_1 s m #[Value.ref b] below meth c H2 locs2 (cells + 11) (slots + 3850) Q (F0 m 1558 ls2 [])) : W p l e9 room_1 s m #[Value.ref b] below meth c H locs cells slots Q (F0 m 1014 ls []) := by
  have hx := M.1.1
  have hb := M.1.2.1
  have hB := hC.B
  have hl : lv_has ls 7 [(0, .ref b), (1, .ref (ad 0)), (2, .ref (ad 7)), (3, .ref (ad 6)), (4, .int (nI i))] := hl
  obtain ⟨a1, ha1, x1⟩ := nI_all (xs (i + 1))
  obtain ⟨a2, ha2, x2⟩ := nI_all (xs (i + 2))
  refine lv_aload_n hx hb dL_law_1014 rfl (lv_at hl 1 rfl) ?_
  refine la_arg M w hX hbl hbA hL hl 0 4 rfl rfl (k := 1) (show Int32.ofInt 1 = nI 1 from rfl) (by omega) x1 1015 dL_law_1015 dL_law_1016 dL_law_1018 dL_law_1019 dL_law_1020 ?_
  refine la_arg M w hX hbl hbA hL hl 0 4 rfl rfl (k := 2) (show Int32.ofInt 2 = nI 2 from rfl) (by omega) x2 1021 dL_law_1021 dL_law_1022 dL_law_1024 dL_law_1025 dL_law_1026 ?_
  refine lv_aload_n hx hb dL_law_1027 rfl (lv_at hl 3 rfl) ?_
  refine mxw_SW M w Th hN (kL_balanceBySums l hfl D cy C ad e H.size a1 a2 hC hI.1 ha1 ha2) (vx_cwSW 4 M.1.2.2.2.2 gL_law_L_balanceBySums rfl rfl rfl (by decide +kernel) ⟨Nat.le_of_ble_eq_true rfl, Nat.le_of_ble_eq_true rfl⟩) rfl hl.1 rfl (Nat.le_of_ble_eq_true rfl) dL_law_1028 ⟨by show cells + 2 ≤ 601024; omega, by show slots + 12 ≤ 7293034; omega⟩ (fun r u1 H locs hp w => ?_)
  obtain ⟨j, v, e1, C1, ad1, rfl, hj, had, rfl, hT⟩ := hp
  have h6 := lw_h6 e1 v j
  have h60 := lw_h60 e1 v j
  generalize (if j = 0 then es e1 6 0 (lK v) else e1) = e' at w h6 h60
  obtain ⟨hB1, hM1, hst⟩ := stp_balanceBySums hI hC hT h6
  have hl : lv_has ls 7 [(0, .ref b), (1, .ref (ad1 0)), (2, .ref (ad1 7)), (3, .ref (ad1 6)), (4, .int (nI i))] := by
    have h9 := lvL_eq had hB b i
    unfold lvL at h9
    rw [h9] at hl
    exact hl
  refine lv_istore (lv' := [(5, .int (nI j)), (0, .ref b), (1, .ref (ad1 0)), (2, .ref (ad1 7)), (3, .ref (ad1 6)), (4, .int (nI i))]) hx hb dL_law_1031 hl (by decide) rfl (fun ls hl => ?_)
  refine lv_aload_n hx hb dL_law_1033 rfl (lv_at hl 3 rfl) ?_
  refine la_arg M w hX hbl hbA hL hl 1 5 rfl rfl (k := 1) (show Int32.ofInt 1 = nI 1 from rfl) (by omega) x1 1034 dL_law_1034 dL_law_1035 dL_law_1037 dL_law_1038 dL_law_1039 ?_
  refine la_arg M w hX hbl hbA hL hl 1 5 rfl rfl (k := 2) (show Int32.ofInt 2 = nI 2 from rfl) (by omega) x2 1040 dL_law_1040 dL_law_1041 dL_law_1043 dL_law_1044 dL_law_1045 ?_
  refine mx_Vi M w (kX4_balanceBySums l D cy C1 ad1 e' H.size a1 a2 hB1 hM1 ha1 ha2) (cwV 2 M.1.2.2.2.2 gL_law_X4_balanceBySums rfl rfl rfl (by decide +kernel) ⟨Nat.le_of_ble_eq_true rfl, Nat.le_of_ble_eq_true rfl⟩) (mo_rec M w (hB1 7 (by decide)) (g := G cy ad1 e') (sh_7 cy ad1 (e' 7)) rfl) rfl hl.1 rfl (Nat.le_of_ble_eq_true rfl) dL_law_1046 ⟨by show cells + 2 + 0 ≤ 601024; omega, by show slots + 12 + 0 ≤ 7293034; omega⟩ (fun r u1 H locs hp w => ?_)
  obtain ⟨e2, rfl, hI2, hC2, q1, q2, q3⟩ := hst cy ad1 r u1 hp
  refine lv_istore (lv' := [(6, .int r), (5, .int (nI j)), (0, .ref b), (1, .ref (ad1 0)), (2, .ref (ad1 7)), (3, .ref (ad1 6)), (4, .int (nI i))]) hx hb dL_law_1049 hl (by decide) rfl (fun ls hl => ?_)
  refine la_tail M w hB1 hj q1 q2 (fun z => by rw [q3]; exact h60 z) hl 4 5 1 0 rfl rfl rfl rfl (cwV 0 M.1.2.2.2.2 gL_law_X4_thrown rfl rfl rfl (by decide +kernel) ⟨Nat.le_of_ble_eq_true rfl, Nat.le_of_ble_eq_true rfl⟩) ⟨by show cells + 2 + 0 ≤ 601024; omega, by show slots + 12 + 0 ≤ 7293034; omega⟩ 1051 1558 dL_law_1051 dL_law_1052 dL_law_1055 dL_law_1057 dL_law_1062 dL_law_1064 dL_law_1067 dL_law_1068 dL_law_1069 dL_law_1070 dL_law_1072 dL_law_1073 dL_law_1074 dL_law_1079 (by decide) (fun H locs w => ?_)
  refine W.widen (k := cells + 11) (n := slots + 3850) (by omega) (by omega) ?_
  exact kk C1 ad1 e2 H locs ls w hI2 hC2 (lv_sub hl [2, 3, 4, 5, 6] rfl)
set_option maxHeartbeats 4000000 in
set_option maxRecDepth 100000 in
theorem law_earned (hfl : l.stackTraces = false) (M : MC p s m #[Value.ref b] meth c code wsL_law RL 7 D cy A) (Th : TH A s s.heap) (hN : NC s) (hX : va_X b L xs s s.heap) (hbl : b < s.heap.size) (hbA : ¬ A b) (hL : L ≤ 2560) (hi : i + 5 ≤ L) (w : MO D A s.heap (C, ad, G cy ad e) H locs) (hI : INV e) (hC : CC (e 0 1) (e 0 3) C) (hl : lv_has ls 7 (lvL b ad i)) (hc : cells + 11 ≤ 601024) (hs : slots + 3850 ≤ 7293034)
    (kk : ∀ (C2 : List Nat) (ad2 : Nat → Nat) (e2 : Nat → Nat → Nat) (H2 : Heap) (locs2 : List Loc) (ls2 : Array Slot), MO D A s.heap (C2, ad2, G cy ad2 e2) H2 locs2 → INV e2 → CC (e2 0 1) (e2 0 3) C2 → lv_has ls2 7 (lvL b ad2 i) → W p l e9 room_1 s m #[Value.ref b] below meth c H2 locs2 (cells + 11) (slots + 3850) Q (F0 m 1558 ls2 [])) : W p l e9 room_1 s m #[Value.ref b] below meth c H locs cells slots Q (F0 m 1082 ls []) := by
  have hx := M.1.1
  have hb := M.1.2.1
  have hB := hC.B
  have hl : lv_has ls 7 [(0, .ref b), (1, .ref (ad 0)), (2, .ref (ad 7)), (3, .ref (ad 6)), (4, .int (nI i))] := hl
  obtain ⟨a1, ha1, x1⟩ := nI_all (xs (i + 1))
  obtain ⟨a2, ha2, x2⟩ := nI_all (xs (i + 2))
  refine lv_aload_n hx hb dL_law_1082 rfl (lv_at hl 1 rfl) ?_
  refine la_arg M w hX hbl hbA hL hl 0 4 rfl rfl (k := 1) (show Int32.ofInt 1 = nI 1 from rfl) (by omega) x1 1083 dL_law_1083 dL_law_1084 dL_law_1086 dL_law_1087 dL_law_1088 ?_
  refine la_arg M w hX hbl hbA hL hl 0 4 rfl rfl (k := 2) (show Int32.ofInt 2 = nI 2 from rfl) (by omega) x2 1089 dL_law_1089 dL_law_1090 dL_law_1092 dL_law_1093 dL_law_1094 ?_
  refine lv_aload_n hx hb dL_law_1095 rfl (lv_at hl 3 rfl) ?_
  refine mxw_SW M w Th hN (kL_earned l hfl D cy C ad e H.size a1 a2 hC hI.1 ha1 ha2) (vx_cwSW 4 M.1.2.2.2.2 gL_law_L_earned rfl rfl rfl (by decide +kernel) ⟨Nat.le_of_ble_eq_true rfl, Nat.le_of_ble_eq_true rfl⟩) rfl hl.1 rfl (Nat.le_of_ble_eq_true rfl) dL_law_1096 ⟨by show cells + 2 ≤ 601024; omega, by show slots + 12 ≤ 7293034; omega⟩ (fun r u1 H locs hp w => ?_)
  obtain ⟨j, v, e1, C1, ad1, rfl, hj, had, rfl, hT⟩ := hp
  have h6 := lw_h6 e1 v j
  have h60 := lw_h60 e1 v j
  generalize (if j = 0 then es e1 6 0 (lK v) else e1) = e' at w h6 h60
  obtain ⟨hB1, hM1, hst⟩ := stp_earned hI hC hT h6
  have hl : lv_has ls 7 [(0, .ref b), (1, .ref (ad1 0)), (2, .ref (ad1 7)), (3, .ref (ad1 6)), (4, .int (nI i))] := by
    have h9 := lvL_eq had hB b i
    unfold lvL at h9
    rw [h9] at hl
    exact hl
  refine lv_istore (lv' := [(5, .int (nI j)), (0, .ref b), (1, .ref (ad1 0)), (2, .ref (ad1 7)), (3, .ref (ad1 6)), (4, .int (nI i))]) hx hb dL_law_1099 hl (by decide) rfl (fun ls hl => ?_)
  refine lv_aload_n hx hb dL_law_1101 rfl (lv_at hl 3 rfl) ?_
  refine la_arg M w hX hbl hbA hL hl 1 5 rfl rfl (k := 1) (show Int32.ofInt 1 = nI 1 from rfl) (by omega) x1 1102 dL_law_1102 dL_law_1103 dL_law_1105 dL_law_1106 dL_law_1107 ?_
  refine la_arg M w hX hbl hbA hL hl 1 5 rfl rfl (k := 2) (show Int32.ofInt 2 = nI 2 from rfl) (by omega) x2 1108 dL_law_1108 dL_law_1109 dL_law_1111 dL_law_1112 dL_law_1113 ?_
  refine mx_Vi M w (kX4_earned l D cy C1 ad1 e' H.size a1 a2 hB1 hM1 ha1 ha2) (cwV 2 M.1.2.2.2.2 gL_law_X4_earned rfl rfl rfl (by decide +kernel) ⟨Nat.le_of_ble_eq_true rfl, Nat.le_of_ble_eq_true rfl⟩) (mo_rec M w (hB1 7 (by decide)) (g := G cy ad1 e') (sh_7 cy ad1 (e' 7)) rfl) rfl hl.1 rfl (Nat.le_of_ble_eq_true rfl) dL_law_1114 ⟨by show cells + 2 + 0 ≤ 601024; omega, by show slots + 12 + 0 ≤ 7293034; omega⟩ (fun r u1 H locs hp w => ?_)
  obtain ⟨e2, rfl, hI2, hC2, q1, q2, q3⟩ := hst cy ad1 r u1 hp
  refine lv_istore (lv' := [(6, .int r), (5, .int (nI j)), (0, .ref b), (1, .ref (ad1 0)), (2, .ref (ad1 7)), (3, .ref (ad1 6)), (4, .int (nI i))]) hx hb dL_law_1117 hl (by decide) rfl (fun ls hl => ?_)
  refine la_tail M w hB1 hj q1 q2 (fun z => by rw [q3]; exact h60 z) hl 4 5 1 0 rfl rfl rfl rfl (cwV 0 M.1.2.2.2.2 gL_law_X4_thrown rfl rfl rfl (by decide +kernel) ⟨Nat.le_of_ble_eq_true rfl, Nat.le_of_ble_eq_true rfl⟩) ⟨by show cells + 2 + 0 ≤ 601024; omega, by show slots + 12 + 0 ≤ 7293034; omega⟩ 1119 1558 dL_law_1119 dL_law_1120 dL_law_1123 dL_law_1125 dL_law_1130 dL_law_1132 dL_law_1135 dL_law_1136 dL_law_1137 dL_law_1138 dL_law_1140 dL_law_1141 dL_law_1142 dL_law_1147 (by decide) (fun H locs w => ?_)
  refine W.widen (k := cells + 11) (n := slots + 3850) (by omega) (by omega) ?_
  exact kk C1 ad1 e2 H locs ls w hI2 hC2 (lv_sub hl [2, 3, 4, 5, 6] rfl)
set_option maxHeartbeats 4000000 in
set_option maxRecDepth 100000 in
theorem law_taken (hfl : l.stackTraces = false) (M : MC p s m #[Value.ref b] meth c code wsL_law RL 7 D cy A) (Th : TH A s s.heap) (hN : NC s) (hX : va_X b L xs s s.heap) (hbl : b < s.heap.size) (hbA : ¬ A b) (hL : L ≤ 2560) (hi : i + 5 ≤ L) (w : MO D A s.heap (C, ad, G cy ad e) H locs) (hI : INV e) (hC : CC (e 0 1) (e 0 3) C) (hl : lv_has ls 7 (lvL b ad i)) (hc : cells + 11 ≤ 601024) (hs : slots + 3850 ≤ 7293034)
    (kk : ∀ (C2 : List Nat) (ad2 : Nat → Nat) (e2 : Nat → Nat → Nat) (H2 : Heap) (locs2 : List Loc) (ls2 : Array Slot), MO D A s.heap (C2, ad2, G cy ad2 e2) H2 locs2 → INV e2 → CC (e2 0 1) (e2 0 3) C2 → lv_has ls2 7 (lvL b ad2 i) → W p l e9 room_1 s m #[Value.ref b] below meth c H2 locs2 (cells + 11) (slots + 3850) Q (F0 m 1558 ls2 [])) : W p l e9 room_1 s m #[Value.ref b] below meth c H locs cells slots Q (F0 m 1150 ls []) := by
  have hx := M.1.1
  have hb := M.1.2.1
  have hB := hC.B
  have hl : lv_has ls 7 [(0, .ref b), (1, .ref (ad 0)), (2, .ref (ad 7)), (3, .ref (ad 6)), (4, .int (nI i))] := hl
  obtain ⟨a1, ha1, x1⟩ := nI_all (xs (i + 1))
  obtain ⟨a2, ha2, x2⟩ := nI_all (xs (i + 2))
  refine lv_aload_n hx hb dL_law_1150 rfl (lv_at hl 1 rfl) ?_
  refine la_arg M w hX hbl hbA hL hl 0 4 rfl rfl (k := 1) (show Int32.ofInt 1 = nI 1 from rfl) (by omega) x1 1151 dL_law_1151 dL_law_1152 dL_law_1154 dL_law_1155 dL_law_1156 ?_
  refine la_arg M w hX hbl hbA hL hl 0 4 rfl rfl (k := 2) (show Int32.ofInt 2 = nI 2 from rfl) (by omega) x2 1157 dL_law_1157 dL_law_1158 dL_law_1160 dL_law_1161 dL_law_1162 ?_
  refine lv_aload_n hx hb dL_law_1163 rfl (lv_at hl 3 rfl) ?_
  refine mxw_SW M w Th hN (kL_taken l hfl D cy C ad e H.size a1 a2 hC hI.1 ha1 ha2) (vx_cwSW 4 M.1.2.2.2.2 gL_law_L_taken rfl rfl rfl (by decide +kernel) ⟨Nat.le_of_ble_eq_true rfl, Nat.le_of_ble_eq_true rfl⟩) rfl hl.1 rfl (Nat.le_of_ble_eq_true rfl) dL_law_1164 ⟨by show cells + 2 ≤ 601024; omega, by show slots + 12 ≤ 7293034; omega⟩ (fun r u1 H locs hp w => ?_)
  obtain ⟨j, v, e1, C1, ad1, rfl, hj, had, rfl, hT⟩ := hp
  have h6 := lw_h6 e1 v j
  have h60 := lw_h60 e1 v j
  generalize (if j = 0 then es e1 6 0 (lK v) else e1) = e' at w h6 h60
  obtain ⟨hB1, hM1, hst⟩ := stp_taken hI hC hT h6
  have hl : lv_has ls 7 [(0, .ref b), (1, .ref (ad1 0)), (2, .ref (ad1 7)), (3, .ref (ad1 6)), (4, .int (nI i))] := by
    have h9 := lvL_eq had hB b i
    unfold lvL at h9
    rw [h9] at hl
    exact hl
  refine lv_istore (lv' := [(5, .int (nI j)), (0, .ref b), (1, .ref (ad1 0)), (2, .ref (ad1 7)), (3, .ref (ad1 6)), (4, .int (nI i))]) hx hb dL_law_1167 hl (by decide) rfl (fun ls hl => ?_)
  refine lv_aload_n hx hb dL_law_1169 rfl (lv_at hl 3 rfl) ?_
  refine la_arg M w hX hbl hbA hL hl 1 5 rfl rfl (k := 1) (show Int32.ofInt 1 = nI 1 from rfl) (by omega) x1 1170 dL_law_1170 dL_law_1171 dL_law_1173 dL_law_1174 dL_law_1175 ?_
  refine la_arg M w hX hbl hbA hL hl 1 5 rfl rfl (k := 2) (show Int32.ofInt 2 = nI 2 from rfl) (by omega) x2 1176 dL_law_1176 dL_law_1177 dL_law_1179 dL_law_1180 dL_law_1181 ?_
  refine mx_Vi M w (kX4_taken l D cy C1 ad1 e' H.size a1 a2 hB1 hM1 ha1 ha2) (cwV 2 M.1.2.2.2.2 gL_law_X4_taken rfl rfl rfl (by decide +kernel) ⟨Nat.le_of_ble_eq_true rfl, Nat.le_of_ble_eq_true rfl⟩) (mo_rec M w (hB1 7 (by decide)) (g := G cy ad1 e') (sh_7 cy ad1 (e' 7)) rfl) rfl hl.1 rfl (Nat.le_of_ble_eq_true rfl) dL_law_1182 ⟨by show cells + 2 + 0 ≤ 601024; omega, by show slots + 12 + 0 ≤ 7293034; omega⟩ (fun r u1 H locs hp w => ?_)
  obtain ⟨e2, rfl, hI2, hC2, q1, q2, q3⟩ := hst cy ad1 r u1 hp
  refine lv_istore (lv' := [(6, .int r), (5, .int (nI j)), (0, .ref b), (1, .ref (ad1 0)), (2, .ref (ad1 7)), (3, .ref (ad1 6)), (4, .int (nI i))]) hx hb dL_law_1185 hl (by decide) rfl (fun ls hl => ?_)
  refine la_tail M w hB1 hj q1 q2 (fun z => by rw [q3]; exact h60 z) hl 4 5 1 0 rfl rfl rfl rfl (cwV 0 M.1.2.2.2.2 gL_law_X4_thrown rfl rfl rfl (by decide +kernel) ⟨Nat.le_of_ble_eq_true rfl, Nat.le_of_ble_eq_true rfl⟩) ⟨by show cells + 2 + 0 ≤ 601024; omega, by show slots + 12 + 0 ≤ 7293034; omega⟩ 1187 1558 dL_law_1187 dL_law_1188 dL_law_1191 dL_law_1193 dL_law_1198 dL_law_1200 dL_law_1203 dL_law_1204 dL_law_1205 dL_law_1206 dL_law_1208 dL_law_1209 dL_law_1210 dL_law_1215 (by decide) (fun H locs w => ?_)
  refine W.widen (k := cells + 11) (n := slots + 3850) (by omega) (by omega) ?_
  exact kk C1 ad1 e2 H locs ls w hI2 hC2 (lv_sub hl [2, 3, 4, 5, 6] rfl)
set_option maxHeartbeats 4000000 in
set_option maxRecDepth 100000 in
theorem law_expired (hfl : l.stackTraces = false) (M : MC p s m #[Value.ref b] meth c code wsL_law RL 7 D cy A) (Th : TH A s s.heap) (hN : NC s) (hX : va_X b L xs s s.heap) (hbl : b < s.heap.size) (hbA : ¬ A b) (hL : L ≤ 2560) (hi : i + 5 ≤ L) (w : MO D A s.heap (C, ad, G cy ad e) H locs) (hI : INV e) (hC : CC (e 0 1) (e 0 3) C) (hl : lv_has ls 7 (lvL b ad i)) (hc : cells + 11 ≤ 601024) (hs : slots + 3850 ≤ 7293034)
    (kk : ∀ (C2 : List Nat) (ad2 : Nat → Nat) (e2 : Nat → Nat → Nat) (H2 : Heap) (locs2 : List Loc) (ls2 : Array Slot), MO D A s.heap (C2, ad2, G cy ad2 e2) H2 locs2 → INV e2 → CC (e2 0 1) (e2 0 3) C2 → lv_has ls2 7 (lvL b ad2 i) → W p l e9 room_1 s m #[Value.ref b] below meth c H2 locs2 (cells + 11) (slots + 3850) Q (F0 m 1558 ls2 [])) : W p l e9 room_1 s m #[Value.ref b] below meth c H locs cells slots Q (F0 m 1218 ls []) := by
  have hx := M.1.1
  have hb := M.1.2.1
  have hB := hC.B
  have hl : lv_has ls 7 [(0, .ref b), (1, .ref (ad 0)), (2, .ref (ad 7)), (3, .ref (ad 6)), (4, .int (nI i))] := hl
  obtain ⟨a1, ha1, x1⟩ := nI_all (xs (i + 1))
  obtain ⟨a2, ha2, x2⟩ := nI_all (xs (i + 2))
  refine lv_aload_n hx hb dL_law_1218 rfl (lv_at hl 1 rfl) ?_
  refine la_arg M w hX hbl hbA hL hl 0 4 rfl rfl (k := 1) (show Int32.ofInt 1 = nI 1 from rfl) (by omega) x1 1219 dL_law_1219 dL_law_1220 dL_law_1222 dL_law_1223 dL_law_1224 ?_
  refine la_arg M w hX hbl hbA hL hl 0 4 rfl rfl (k := 2) (show Int32.ofInt 2 = nI 2 from rfl) (by omega) x2 1225 dL_law_1225 dL_law_1226 dL_law_1228 dL_law_1229 dL_law_1230 ?_
  refine lv_aload_n hx hb dL_law_1231 rfl (lv_at hl 3 rfl) ?_
  refine mxw_SW M w Th hN (kL_expired l hfl D cy C ad e H.size a1 a2 hC hI.1 ha1 ha2) (vx_cwSW 4 M.1.2.2.2.2 gL_law_L_expired rfl rfl rfl (by decide +kernel) ⟨Nat.le_of_ble_eq_true rfl, Nat.le_of_ble_eq_true rfl⟩) rfl hl.1 rfl (Nat.le_of_ble_eq_true rfl) dL_law_1232 ⟨by show cells + 2 ≤ 601024; omega, by show slots + 12 ≤ 7293034; omega⟩ (fun r u1 H locs hp w => ?_)
  obtain ⟨j, v, e1, C1, ad1, rfl, hj, had, rfl, hT⟩ := hp
  have h6 := lw_h6 e1 v j
  have h60 := lw_h60 e1 v j
  generalize (if j = 0 then es e1 6 0 (lK v) else e1) = e' at w h6 h60
  obtain ⟨hB1, hM1, hst⟩ := stp_expired hI hC hT h6
  have hl : lv_has ls 7 [(0, .ref b), (1, .ref (ad1 0)), (2, .ref (ad1 7)), (3, .ref (ad1 6)), (4, .int (nI i))] := by
    have h9 := lvL_eq had hB b i
    unfold lvL at h9
    rw [h9] at hl
    exact hl
  refine lv_istore (lv' := [(5, .int (nI j)), (0, .ref b), (1, .ref (ad1 0)), (2, .ref (ad1 7)), (3, .ref (ad1 6)), (4, .int (nI i))]) hx hb dL_law_1235 hl (by decide) rfl (fun ls hl => ?_)
  refine lv_aload_n hx hb dL_law_1237 rfl (lv_at hl 3 rfl) ?_
  refine la_arg M w hX hbl hbA hL hl 1 5 rfl rfl (k := 1) (show Int32.ofInt 1 = nI 1 from rfl) (by omega) x1 1238 dL_law_1238 dL_law_1239 dL_law_1241 dL_law_1242 dL_law_1243 ?_
  refine la_arg M w hX hbl hbA hL hl 1 5 rfl rfl (k := 2) (show Int32.ofInt 2 = nI 2 from rfl) (by omega) x2 1244 dL_law_1244 dL_law_1245 dL_law_1247 dL_law_1248 dL_law_1249 ?_
  refine mx_Vi M w (kX4_expired l D cy C1 ad1 e' H.size a1 a2 hB1 hM1 ha1 ha2) (cwV 2 M.1.2.2.2.2 gL_law_X4_expired rfl rfl rfl (by decide +kernel) ⟨Nat.le_of_ble_eq_true rfl, Nat.le_of_ble_eq_true rfl⟩) (mo_rec M w (hB1 7 (by decide)) (g := G cy ad1 e') (sh_7 cy ad1 (e' 7)) rfl) rfl hl.1 rfl (Nat.le_of_ble_eq_true rfl) dL_law_1250 ⟨by show cells + 2 + 0 ≤ 601024; omega, by show slots + 12 + 0 ≤ 7293034; omega⟩ (fun r u1 H locs hp w => ?_)
  obtain ⟨e2, rfl, hI2, hC2, q1, q2, q3⟩ := hst cy ad1 r u1 hp
  refine lv_istore (lv' := [(6, .int r), (5, .int (nI j)), (0, .ref b), (1, .ref (ad1 0)), (2, .ref (ad1 7)), (3, .ref (ad1 6)), (4, .int (nI i))]) hx hb dL_law_1253 hl (by decide) rfl (fun ls hl => ?_)
  refine la_tail M w hB1 hj q1 q2 (fun z => by rw [q3]; exact h60 z) hl 4 5 1 0 rfl rfl rfl rfl (cwV 0 M.1.2.2.2.2 gL_law_X4_thrown rfl rfl rfl (by decide +kernel) ⟨Nat.le_of_ble_eq_true rfl, Nat.le_of_ble_eq_true rfl⟩) ⟨by show cells + 2 + 0 ≤ 601024; omega, by show slots + 12 + 0 ≤ 7293034; omega⟩ 1255 1558 dL_law_1255 dL_law_1256 dL_law_1259 dL_law_1261 dL_law_1266 dL_law_1268 dL_law_1271 dL_law_1272 dL_law_1273 dL_law_1274 dL_law_1276 dL_law_1277 dL_law_1278 dL_law_1283 (by decide) (fun H locs w => ?_)
  refine W.widen (k := cells + 11) (n := slots + 3850) (by omega) (by omega) ?_
  exact kk C1 ad1 e2 H locs ls w hI2 hC2 (lv_sub hl [2, 3, 4, 5, 6] rfl)
end
