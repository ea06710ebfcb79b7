/-! ===== the law asks ===== -/
set_option maxHeartbeats 4000000 in
set_option maxRecDepth 100000 in
/-- LeavebankLaw.isSo(x, p, day, h, r, i, o, l, t, q) -/
theorem kL_isSo (l : Launch) (hfl : l.stackTraces = false) (D : va_G) (cy : Nat → ClassId) (C : List Nat) (ad : Nat → Nat) (e : Nat → Nat → Nat) (sz : Nat) (p dy : Nat) (hB : ∀ k, k < 13 → k ∈ C) (hCC : CC (e 0 1) (e 0 3) C) (hI : IV e) (hp : p < e 6 1) (dh : dy < 1890) : Met l yL_isSo wsL_isSo ({ frames := 9, cells := 22, slots := 132, locals := 150 } : Room) (PreW D cy (C, ad, G cy ad e) sz [.ref (ad 0), .int (nI p), .int (nI dy), .ref (ad 7), .ref (ad 8), .ref (ad 9), .ref (ad 10), .ref (ad 11), .ref (ad 12), .ref (ad 6)]) (va_Qi (fun (r : Int32) (u : WT) => r = nI 1 ∧ ∃ z, CH e z z ∧ u = (C, ad, G cy ad z)) (WB D cy (AW (C, ad, G cy ad e) sz)) (AW (C, ad, G cy ad e) sz)) 22 132 (AW (C, ad, G cy ad e) sz) := by
  refine mxp_start (cc := cL_isSo) (maxL := 12) (ret := (some .boolean)) (by decide) rfl (Nat.le_of_ble_eq_true rfl) ?_
  intro p9 e9 s m args below meth c hsz hr hnm M w Th hNC ls hl
  have hx := M.1.1
  have hb := M.1.2.1
  have hp2 := hI.two hp
  have hq6 := hI.2.2.2
  have cut25 : ∀ (n9 : Nat) (X : Nat → Nat → Nat) (k : Nat) (nx : Int32) (hX : X = goL (VV e) e p (dy + 1 - VV e 8 p)) (hk : k ≤ 63) (hnx : nx = fxT X (63 - k)) (_hm : k < n9) (H : Heap) (locs : List Loc), MO D (AW (C, ad, G cy ad e) sz) s.heap (C, ad, G cy ad X) H locs → ∀ (ls : Array Slot), lv_has ls 12 [(0, .ref (ad 0)), (1, .int (nI p)), (2, .int (nI dy)), (3, .ref (ad 7)), (4, .ref (ad 8)), (5, .ref (ad 9)), (6, .ref (ad 10)), (7, .ref (ad 11)), (8, .ref (ad 12)), (9, .ref (ad 6)), (10, .int nx), (11, .int (nI k))] → W p9 l e9 ({ frames := 9, cells := 22, slots := 132, locals := 150 } : Room) s m args below meth c H locs 0 0 (MQ below (va_Qi (fun (r : Int32) (u : WT) => r = nI 1 ∧ ∃ z, CH e z z ∧ u = (C, ad, G cy ad z)) (WB D cy (AW (C, ad, G cy ad e) sz)) (AW (C, ad, G cy ad e) sz)) args s 22 132 (AW (C, ad, G cy ad e) sz)) (F0 m 25 ls []) := by
    intro n9
    induction n9 with
    | zero => intro X k nx hX hk hnx _hm; exact absurd _hm (Nat.not_lt_zero _)
    | succ n9 ih =>
      intro X k nx hX hk hnx _hm H locs w ls hl
      have oX : OffL e X := by rw [hX]; exact OffL_go _ _ _ _
      have c0 := CH_X oX
      have hG := GM_go hI.2.1 (hI.mp hp) (dy + 1 - VV e 8 p)
      have h8 := hI.p8 hp
      have hLL : LL X (goM (VV e) p (dy + 1 - VV e 8 p)) (VV e 8 p + (dy + 1 - VV e 8 p)) := by rw [hX]; exact LL_go (VV e) e p _ (by omega)
      have hPl := hLL.le hG
      refine lv_iload hx hb dL_isSo_25 (lv_at hl 11 rfl) ?_
      refine mi_if_le hx hb (by omega) 56 dL_isSo_27 (by decide) (fun h27 => ?_) (fun h27 => ?_)
      · obtain rfl : nx = fxT X 63 := by rw [hnx, show 63 - k = 63 by omega]
        refine lv_aload hx hb dL_isSo_56 (lv_at hl 7 rfl) ?_
        refine mx_Si M w (kL_sum l D cy C ad X H.size hB) (va_cwS 1 M.1.2.2.2.2 gL_isSo_L_sum rfl rfl rfl (by decide +kernel) ⟨Nat.le_of_ble_eq_true rfl, Nat.le_of_ble_eq_true rfl⟩) rfl hl.1 rfl (Nat.le_of_ble_eq_true rfl) dL_isSo_58 ⟨by decide, by decide⟩ (fun r58 u1 H locs hp1 w => ?_)
        obtain ⟨rfl, rfl⟩ := hp1
        refine lv_aload hx hb dL_isSo_61 (lv_at hl 8 rfl) ?_
        refine lv_iconst (v := nI 0) hx hb dL_isSo_63 (by decide) ?_
        refine ex_iald M w (hB 12 (by decide)) (sh_12 cy ad) (by omega) (by decide) rfl dL_isSo_64 ?_
        refine lv_isub hx hb dL_isSo_65 ?_
        refine lv_istore (lv' := [(11, .int ((nI (totL X)) - (nI (X 12 0)))), (0, .ref (ad 0)), (1, .int (nI p)), (2, .int (nI dy)), (3, .ref (ad 7)), (4, .ref (ad 8)), (5, .ref (ad 9)), (6, .ref (ad 10)), (7, .ref (ad 11)), (8, .ref (ad 12)), (9, .ref (ad 6)), (10, .int (fxT X 63))]) hx hb dL_isSo_66 hl (by decide) rfl (fun ls hl => ?_)
        refine lv_aload_n hx hb dL_isSo_68 rfl (lv_at hl 1 rfl) ?_
        refine lv_iload_n hx hb dL_isSo_69 rfl (lv_at hl 2 rfl) ?_
        refine lv_iload_n hx hb dL_isSo_70 rfl (lv_at hl 3 rfl) ?_
        refine mxc_Vi M w Th (kX3_balance l hfl D cy C ad X H.size p dy (by rw [c0.e0]; exact hCC) (c0.iv hI).1 (by omega) (by omega)) (cwV 2 M.1.2.2.2.2 gL_isSo_X3_balance rfl rfl rfl (by decide +kernel) ⟨Nat.le_of_ble_eq_true rfl, Nat.le_of_ble_eq_true rfl⟩) (mo_rec M w (hB 0 (by decide)) (g := G cy ad X) (sh_0 cy ad (X 0)) rfl) rfl hl.1 rfl (Nat.le_of_ble_eq_true rfl) dL_isSo_71 ⟨by decide, by decide⟩ (fun E ce q9 u1 H locs hce hcv hcl hp9 w => (hp9.elim (fun h => (h.1 (show p < X 0 1 by rw [c0.e0, hI.n1]; exact hp)).elim) (fun h => (h.2.1 ⟨Nat.zero_le _, by omega⟩).elim))) (fun r71 u1 H locs hp1 w => ?_)
        obtain ⟨_, rfl, rfl⟩ := hp1
        have a71 := AK hI hp dh hX c0.1
        have c71 := CH_go c0 p (dy + 1 - X (PB p) 0)
        generalize hg71 : (goC X p (dy + 1 - X (PB p) 0)) = e71 at *
        obtain ⟨ak1, ak2, ak3, ak4, ak5, ak6, ak7, ak8, ak9⟩ := a71
        rw [ak1, ak2]
        refine lv_iload hx hb dL_isSo_74 (lv_at hl 0 rfl) ?_
        refine lv_icmp_ne (tgt := 227) hx hb dL_isSo_76 (by decide) (fun h => absurd rfl h) (fun h76 => ?_)
        refine lv_aload_n hx hb dL_isSo_79 rfl (lv_at hl 1 rfl) ?_
        refine lv_iload_n hx hb dL_isSo_80 rfl (lv_at hl 2 rfl) ?_
        refine lv_iload_n hx hb dL_isSo_81 rfl (lv_at hl 3 rfl) ?_
        refine mxc_Vi M w Th (kX3_balanceBySums l hfl D cy C ad e71 H.size p dy (by rw [c71.e0]; exact hCC) (c71.iv hI).1 (by omega) (by omega)) (cwV 2 M.1.2.2.2.2 gL_isSo_X3_balanceBySums rfl rfl rfl (by decide +kernel) ⟨Nat.le_of_ble_eq_true rfl, Nat.le_of_ble_eq_true rfl⟩) (mo_rec M w (hB 0 (by decide)) (g := G cy ad e71) (sh_0 cy ad (e71 0)) rfl) rfl hl.1 rfl (Nat.le_of_ble_eq_true rfl) dL_isSo_82 ⟨by decide, by decide⟩ (fun E ce q9 u1 H locs hce hcv hcl hp9 w => (hp9.elim (fun h => (h.1 (show p < e71 0 1 by rw [c71.e0, hI.n1]; exact hp)).elim) (fun h => (h.2.1 ⟨Nat.zero_le _, by omega⟩).elim))) (fun r82 u1 H locs hp1 w => ?_)
        obtain ⟨_, rfl, rfl⟩ := hp1
        have a82 := AK hI hp dh hX c71.1
        have c82 := CH_go c71 p (dy + 1 - e71 (PB p) 0)
        generalize hg82 : (goC e71 p (dy + 1 - e71 (PB p) 0)) = e82 at *
        obtain ⟨ak1, ak2, ak3, ak4, ak5, ak6, ak7, ak8, ak9⟩ := a82
        rw [ak9]
        refine lv_iload hx hb dL_isSo_85 (lv_at hl 0 rfl) ?_
        refine lv_icmp_ne (tgt := 227) hx hb dL_isSo_87 (by decide) (fun h => absurd rfl h) (fun h87 => ?_)
        refine lv_aload_n hx hb dL_isSo_90 rfl (lv_at hl 1 rfl) ?_
        refine lv_iload_n hx hb dL_isSo_91 rfl (lv_at hl 2 rfl) ?_
        refine lv_iload_n hx hb dL_isSo_92 rfl (lv_at hl 3 rfl) ?_
        refine mxc_Vi M w Th (kX3_borrowed l hfl D cy C ad e82 H.size p dy (by rw [c82.e0]; exact hCC) (c82.iv hI).1 (by omega) (by omega)) (cwV 2 M.1.2.2.2.2 gL_isSo_X3_borrowed rfl rfl rfl (by decide +kernel) ⟨Nat.le_of_ble_eq_true rfl, Nat.le_of_ble_eq_true rfl⟩) (mo_rec M w (hB 0 (by decide)) (g := G cy ad e82) (sh_0 cy ad (e82 0)) rfl) rfl hl.1 rfl (Nat.le_of_ble_eq_true rfl) dL_isSo_93 ⟨by decide, by decide⟩ (fun E ce q9 u1 H locs hce hcv hcl hp9 w => (hp9.elim (fun h => (h.1 (show p < e82 0 1 by rw [c82.e0, hI.n1]; exact hp)).elim) (fun h => (h.2.1 ⟨Nat.zero_le _, by omega⟩).elim))) (fun r93 u1 H locs hp1 w => ?_)
        obtain ⟨_, rfl, rfl⟩ := hp1
        have a93 := AK hI hp dh hX c82.1
        have c93 := CH_go c82 p (dy + 1 - e82 (PB p) 0)
        generalize hg93 : (goC e82 p (dy + 1 - e82 (PB p) 0)) = e93 at *
        obtain ⟨ak1, ak2, ak3, ak4, ak5, ak6, ak7, ak8, ak9⟩ := a93
        rw [ak2]
        refine lv_aload hx hb dL_isSo_96 (lv_at hl 9 rfl) ?_
        refine lv_iconst (v := nI 0) hx hb dL_isSo_98 (by decide) ?_
        refine ex_iald M w (hB 12 (by decide)) (sh_12 cy ad) (by omega) (by decide) (c93.at12 0) dL_isSo_99 ?_
        refine lv_icmp_ne (tgt := 227) hx hb dL_isSo_100 (by decide) (fun h => absurd rfl h) (fun h100 => ?_)
        refine lv_aload_n hx hb dL_isSo_103 rfl (lv_at hl 1 rfl) ?_
        refine lv_iload_n hx hb dL_isSo_104 rfl (lv_at hl 2 rfl) ?_
        refine lv_iload_n hx hb dL_isSo_105 rfl (lv_at hl 3 rfl) ?_
        refine mxc_Vi M w Th (kX3_earned l hfl D cy C ad e93 H.size p dy (by rw [c93.e0]; exact hCC) (c93.iv hI).1 (by omega) (by omega)) (cwV 2 M.1.2.2.2.2 gL_isSo_X3_earned rfl rfl rfl (by decide +kernel) ⟨Nat.le_of_ble_eq_true rfl, Nat.le_of_ble_eq_true rfl⟩) (mo_rec M w (hB 0 (by decide)) (g := G cy ad e93) (sh_0 cy ad (e93 0)) rfl) rfl hl.1 rfl (Nat.le_of_ble_eq_true rfl) dL_isSo_106 ⟨by decide, by decide⟩ (fun E ce q9 u1 H locs hce hcv hcl hp9 w => (hp9.elim (fun h => (h.1 (show p < e93 0 1 by rw [c93.e0, hI.n1]; exact hp)).elim) (fun h => (h.2.1 ⟨Nat.zero_le _, by omega⟩).elim))) (fun r106 u1 H locs hp1 w => ?_)
        obtain ⟨_, rfl, rfl⟩ := hp1
        have a106 := AK hI hp dh hX c93.1
        have c106 := CH_go c93 p (dy + 1 - e93 (PB p) 0)
        generalize hg106 : (goC e93 p (dy + 1 - e93 (PB p) 0)) = e106 at *
        obtain ⟨ak1, ak2, ak3, ak4, ak5, ak6, ak7, ak8, ak9⟩ := a106
        rw [ak3]
        refine lv_aload hx hb dL_isSo_109 (lv_at hl 9 rfl) ?_
        refine lv_iconst (v := nI 1) hx hb dL_isSo_111 (by decide) ?_
        refine ex_iald M w (hB 12 (by decide)) (sh_12 cy ad) (by omega) (by decide) (c106.at12 1) dL_isSo_112 ?_
        refine lv_icmp_ne (tgt := 227) hx hb dL_isSo_113 (by decide) (fun h => absurd rfl h) (fun h113 => ?_)
        refine lv_aload_n hx hb dL_isSo_116 rfl (lv_at hl 1 rfl) ?_
        refine lv_iload_n hx hb dL_isSo_117 rfl (lv_at hl 2 rfl) ?_
        refine lv_iload_n hx hb dL_isSo_118 rfl (lv_at hl 3 rfl) ?_
        refine mxc_Vi M w Th (kX3_taken l hfl D cy C ad e106 H.size p dy (by rw [c106.e0]; exact hCC) (c106.iv hI).1 (by omega) (by omega)) (cwV 2 M.1.2.2.2.2 gL_isSo_X3_taken rfl rfl rfl (by decide +kernel) ⟨Nat.le_of_ble_eq_true rfl, Nat.le_of_ble_eq_true rfl⟩) (mo_rec M w (hB 0 (by decide)) (g := G cy ad e106) (sh_0 cy ad (e106 0)) rfl) rfl hl.1 rfl (Nat.le_of_ble_eq_true rfl) dL_isSo_119 ⟨by decide, by decide⟩ (fun E ce q9 u1 H locs hce hcv hcl hp9 w => (hp9.elim (fun h => (h.1 (show p < e106 0 1 by rw [c106.e0, hI.n1]; exact hp)).elim) (fun h => (h.2.1 ⟨Nat.zero_le _, by omega⟩).elim))) (fun r119 u1 H locs hp1 w => ?_)
        obtain ⟨_, rfl, rfl⟩ := hp1
        have a119 := AK hI hp dh hX c106.1
        have c119 := CH_go c106 p (dy + 1 - e106 (PB p) 0)
        generalize hg119 : (goC e106 p (dy + 1 - e106 (PB p) 0)) = e119 at *
        obtain ⟨ak1, ak2, ak3, ak4, ak5, ak6, ak7, ak8, ak9⟩ := a119
        rw [ak4]
        refine lv_aload hx hb dL_isSo_122 (lv_at hl 9 rfl) ?_
        refine lv_iconst (v := nI 2) hx hb dL_isSo_124 (by decide) ?_
        refine ex_iald M w (hB 12 (by decide)) (sh_12 cy ad) (by omega) (by decide) (c119.at12 2) dL_isSo_125 ?_
        refine lv_icmp_ne (tgt := 227) hx hb dL_isSo_126 (by decide) (fun h => absurd rfl h) (fun h126 => ?_)
        refine lv_aload_n hx hb dL_isSo_129 rfl (lv_at hl 1 rfl) ?_
        refine lv_iload_n hx hb dL_isSo_130 rfl (lv_at hl 2 rfl) ?_
        refine lv_iload_n hx hb dL_isSo_131 rfl (lv_at hl 3 rfl) ?_
        refine mxc_Vi M w Th (kX3_expired l hfl D cy C ad e119 H.size p dy (by rw [c119.e0]; exact hCC) (c119.iv hI).1 (by omega) (by omega)) (cwV 2 M.1.2.2.2.2 gL_isSo_X3_expired rfl rfl rfl (by decide +kernel) ⟨Nat.le_of_ble_eq_true rfl, Nat.le_of_ble_eq_true rfl⟩) (mo_rec M w (hB 0 (by decide)) (g := G cy ad e119) (sh_0 cy ad (e119 0)) rfl) rfl hl.1 rfl (Nat.le_of_ble_eq_true rfl) dL_isSo_132 ⟨by decide, by decide⟩ (fun E ce q9 u1 H locs hce hcv hcl hp9 w => (hp9.elim (fun h => (h.1 (show p < e119 0 1 by rw [c119.e0, hI.n1]; exact hp)).elim) (fun h => (h.2.1 ⟨Nat.zero_le _, by omega⟩).elim))) (fun r132 u1 H locs hp1 w => ?_)
        obtain ⟨_, rfl, rfl⟩ := hp1
        have a132 := AK hI hp dh hX c119.1
        have c132 := CH_go c119 p (dy + 1 - e119 (PB p) 0)
        generalize hg132 : (goC e119 p (dy + 1 - e119 (PB p) 0)) = e132 at *
        obtain ⟨ak1, ak2, ak3, ak4, ak5, ak6, ak7, ak8, ak9⟩ := a132
        rw [ak5]
        refine lv_aload hx hb dL_isSo_135 (lv_at hl 9 rfl) ?_
        refine lv_iconst (v := nI 3) hx hb dL_isSo_137 (by decide) ?_
        refine ex_iald M w (hB 12 (by decide)) (sh_12 cy ad) (by omega) (by decide) (c132.at12 3) dL_isSo_138 ?_
        refine lv_icmp_ne (tgt := 227) hx hb dL_isSo_139 (by decide) (fun h => absurd rfl h) (fun h139 => ?_)
        refine lv_aload_n hx hb dL_isSo_142 rfl (lv_at hl 1 rfl) ?_
        refine lv_iload_n hx hb dL_isSo_143 rfl (lv_at hl 2 rfl) ?_
        refine lv_iload_n hx hb dL_isSo_144 rfl (lv_at hl 3 rfl) ?_
        refine mxc_Vi M w Th (kX3_paid l hfl D cy C ad e132 H.size p dy (by rw [c132.e0]; exact hCC) (c132.iv hI).1 (by omega) (by omega)) (cwV 2 M.1.2.2.2.2 gL_isSo_X3_paid rfl rfl rfl (by decide +kernel) ⟨Nat.le_of_ble_eq_true rfl, Nat.le_of_ble_eq_true rfl⟩) (mo_rec M w (hB 0 (by decide)) (g := G cy ad e132) (sh_0 cy ad (e132 0)) rfl) rfl hl.1 rfl (Nat.le_of_ble_eq_true rfl) dL_isSo_145 ⟨by decide, by decide⟩ (fun E ce q9 u1 H locs hce hcv hcl hp9 w => (hp9.elim (fun h => (h.1 (show p < e132 0 1 by rw [c132.e0, hI.n1]; exact hp)).elim) (fun h => (h.2.1 ⟨Nat.zero_le _, by omega⟩).elim))) (fun r145 u1 H locs hp1 w => ?_)
        obtain ⟨_, rfl, rfl⟩ := hp1
        have a145 := AK hI hp dh hX c132.1
        have c145 := CH_go c132 p (dy + 1 - e132 (PB p) 0)
        generalize hg145 : (goC e132 p (dy + 1 - e132 (PB p) 0)) = e145 at *
        obtain ⟨ak1, ak2, ak3, ak4, ak5, ak6, ak7, ak8, ak9⟩ := a145
        rw [ak6]
        refine lv_aload hx hb dL_isSo_148 (lv_at hl 9 rfl) ?_
        refine lv_iconst (v := nI 4) hx hb dL_isSo_150 (by decide) ?_
        refine ex_iald M w (hB 12 (by decide)) (sh_12 cy ad) (by omega) (by decide) (c145.at12 4) dL_isSo_151 ?_
        refine lv_icmp_ne (tgt := 227) hx hb dL_isSo_152 (by decide) (fun h => absurd rfl h) (fun h152 => ?_)
        refine lv_aload_n hx hb dL_isSo_155 rfl (lv_at hl 1 rfl) ?_
        refine lv_iload_n hx hb dL_isSo_156 rfl (lv_at hl 2 rfl) ?_
        refine lv_iload_n hx hb dL_isSo_157 rfl (lv_at hl 3 rfl) ?_
        refine mxc_Vi M w Th (kX3_unpaid l hfl D cy C ad e145 H.size p dy (by rw [c145.e0]; exact hCC) (c145.iv hI).1 (by omega) (by omega)) (cwV 2 M.1.2.2.2.2 gL_isSo_X3_unpaid rfl rfl rfl (by decide +kernel) ⟨Nat.le_of_ble_eq_true rfl, Nat.le_of_ble_eq_true rfl⟩) (mo_rec M w (hB 0 (by decide)) (g := G cy ad e145) (sh_0 cy ad (e145 0)) rfl) rfl hl.1 rfl (Nat.le_of_ble_eq_true rfl) dL_isSo_158 ⟨by decide, by decide⟩ (fun E ce q9 u1 H locs hce hcv hcl hp9 w => (hp9.elim (fun h => (h.1 (show p < e145 0 1 by rw [c145.e0, hI.n1]; exact hp)).elim) (fun h => (h.2.1 ⟨Nat.zero_le _, by omega⟩).elim))) (fun r158 u1 H locs hp1 w => ?_)
        obtain ⟨_, rfl, rfl⟩ := hp1
        have a158 := AK hI hp dh hX c145.1
        have c158 := CH_go c145 p (dy + 1 - e145 (PB p) 0)
        generalize hg158 : (goC e145 p (dy + 1 - e145 (PB p) 0)) = e158 at *
        obtain ⟨ak1, ak2, ak3, ak4, ak5, ak6, ak7, ak8, ak9⟩ := a158
        rw [ak7]
        refine lv_aload hx hb dL_isSo_161 (lv_at hl 9 rfl) ?_
        refine lv_iconst (v := nI 5) hx hb dL_isSo_163 (by decide) ?_
        refine ex_iald M w (hB 12 (by decide)) (sh_12 cy ad) (by omega) (by decide) (c158.at12 5) dL_isSo_164 ?_
        refine lv_icmp_ne (tgt := 227) hx hb dL_isSo_165 (by decide) (fun h => absurd rfl h) (fun h165 => ?_)
        refine lv_aload_n hx hb dL_isSo_168 rfl (lv_at hl 1 rfl) ?_
        refine lv_iload_n hx hb dL_isSo_169 rfl (lv_at hl 2 rfl) ?_
        refine lv_iload_n hx hb dL_isSo_170 rfl (lv_at hl 3 rfl) ?_
        refine mxc_Vi M w Th (kX3_nextExpiry l hfl D cy C ad e158 H.size p dy (by rw [c158.e0]; exact hCC) (c158.iv hI).1 (by omega) (by omega)) (cwV 2 M.1.2.2.2.2 gL_isSo_X3_nextExpiry rfl rfl rfl (by decide +kernel) ⟨Nat.le_of_ble_eq_true rfl, Nat.le_of_ble_eq_true rfl⟩) (mo_rec M w (hB 0 (by decide)) (g := G cy ad e158) (sh_0 cy ad (e158 0)) rfl) rfl hl.1 rfl (Nat.le_of_ble_eq_true rfl) dL_isSo_171 ⟨by decide, by decide⟩ (fun E ce q9 u1 H locs hce hcv hcl hp9 w => (hp9.elim (fun h => (h.1 (show p < e158 0 1 by rw [c158.e0, hI.n1]; exact hp)).elim) (fun h => (h.2.1 ⟨Nat.zero_le _, by omega⟩).elim))) (fun r171 u1 H locs hp1 w => ?_)
        obtain ⟨_, rfl, rfl⟩ := hp1
        have a171 := AK hI hp dh hX c158.1
        have c171 := CH_go c158 p (dy + 1 - e158 (PB p) 0)
        generalize hg171 : (goC e158 p (dy + 1 - e158 (PB p) 0)) = e171 at *
        obtain ⟨ak1, ak2, ak3, ak4, ak5, ak6, ak7, ak8, ak9⟩ := a171
        rw [ak8]
        refine lv_iload hx hb dL_isSo_174 (lv_at hl 11 rfl) ?_
        refine lv_icmp_ne (tgt := 227) hx hb dL_isSo_176 (by decide) (fun h => absurd rfl h) (fun h176 => ?_)
        refine lv_aload_n hx hb dL_isSo_179 rfl (lv_at hl 1 rfl) ?_
        refine lv_iload_n hx hb dL_isSo_180 rfl (lv_at hl 2 rfl) ?_
        refine lv_iload_n hx hb dL_isSo_181 rfl (lv_at hl 3 rfl) ?_
        refine mxc_Vi M w Th (kX3_onLeave l hfl D cy C ad e171 H.size p dy (by rw [c171.e0]; exact hCC) (c171.iv hI).1 (by omega) (by omega)) (cwV 2 M.1.2.2.2.2 gL_isSo_X3_onLeave rfl rfl rfl (by decide +kernel) ⟨Nat.le_of_ble_eq_true rfl, Nat.le_of_ble_eq_true rfl⟩) (mo_rec M w (hB 0 (by decide)) (g := G cy ad e171) (sh_0 cy ad (e171 0)) rfl) rfl hl.1 rfl (Nat.le_of_ble_eq_true rfl) dL_isSo_182 ⟨by decide, by decide⟩ (fun E ce q9 u1 H locs hce hcv hcl hp9 w => (hp9.elim (fun h => (h.1 (show p < e171 0 1 by rw [c171.e0, hI.n1]; exact hp)).elim) (fun h => (h.2.1 ⟨Nat.zero_le _, by omega⟩).elim))) (fun r182 u1 H locs hp1 w => ?_)
        obtain ⟨_, rfl, rfl⟩ := hp1
        rw [(c171.iv hI).lv (by rw [c171.2.1 6 (by decide) (by decide)]; exact hp) (by omega), c171.vv]
        refine lv_iload_n hx hb dL_isSo_185 rfl (lv_at hl 2 rfl) ?_
        refine lv_iload_n hx hb dL_isSo_186 rfl (lv_at hl 3 rfl) ?_
        refine lv_aload hx hb dL_isSo_187 (lv_at hl 5 rfl) ?_
        refine lv_aload hx hb dL_isSo_189 (lv_at hl 6 rfl) ?_
        refine lv_aload hx hb dL_isSo_191 (lv_at hl 10 rfl) ?_
        refine mx_Si M w (kL_leave l D cy C ad e171 H.size p dy hB (by rw [c171.vv]; exact hI.2.1) (by rw [c171.vv]; exact ⟨hI.b3.1, hI.b3.2.1⟩) (by omega) (by omega)) (va_cwS 5 M.1.2.2.2.2 gL_isSo_L_leave rfl rfl rfl (by decide +kernel) ⟨Nat.le_of_ble_eq_true rfl, Nat.le_of_ble_eq_true rfl⟩) rfl hl.1 rfl (Nat.le_of_ble_eq_true rfl) dL_isSo_193 ⟨by decide, by decide⟩ (fun r193 u1 H locs hp1 w => ?_)
        obtain ⟨rfl, rfl⟩ := hp1
        refine W.eq (congrArg (fun z => F0 m 196 ls (.int (nI z) :: [.int (nI (lvM (VV e) p dy))])) (congrArg (fun z => lvM z p dy) c171.vv)) ?_
        refine lv_icmp_ne (tgt := 227) hx hb dL_isSo_196 (by decide) (fun h => absurd rfl h) (fun h196 => ?_)
        refine lv_iload_n hx hb dL_isSo_199 rfl (lv_at hl 3 rfl) ?_
        refine lv_aload_n hx hb dL_isSo_200 rfl (lv_at hl 4 rfl) ?_
        refine lv_iconst (v := nI 4) hx hb dL_isSo_201 (by decide) ?_
        refine lv_iload_n hx hb dL_isSo_202 rfl (lv_at hl 2 rfl) ?_
        refine mi_mul hx hb dL_isSo_203 ?_
        refine ex_iald M w (hB 7 (by decide)) (sh_7 cy ad) (by omega) (by decide) (c171.p8 hp2) dL_isSo_204 ?_
        refine mi_lt hx hb (by omega) (by omega) 223 dL_isSo_205 (by decide) (fun h205 => ?_) (fun h205 => ?_)
        · refine lv_iconst (v := nI 1) hx hb dL_isSo_223 (by decide) ?_
          refine lv_goto (tgt := 228) hx hb dL_isSo_224 (by decide) ?_
          exact mx_zret M w hr (v := (nI 1)) (by first | exact Or.inl rfl | exact Or.inr rfl) ⟨rfl, _, ⟨c171.1, c171.2.1, rfl, rfl⟩, rfl⟩ (by decide) (by decide) dL_isSo_228
        · refine lv_aload_n hx hb dL_isSo_208 rfl (lv_at hl 1 rfl) ?_
          refine lv_iload_n hx hb dL_isSo_209 rfl (lv_at hl 2 rfl) ?_
          refine lv_iload_n hx hb dL_isSo_210 rfl (lv_at hl 3 rfl) ?_
          refine mxc_Vi M w Th (kX3_hours l hfl D cy C ad e171 H.size p dy (by rw [c171.e0]; exact hCC) (c171.iv hI).1 (by omega) (by omega)) (cwV 2 M.1.2.2.2.2 gL_isSo_X3_hours rfl rfl rfl (by decide +kernel) ⟨Nat.le_of_ble_eq_true rfl, Nat.le_of_ble_eq_true rfl⟩) (mo_rec M w (hB 0 (by decide)) (g := G cy ad e171) (sh_0 cy ad (e171 0)) rfl) rfl hl.1 rfl (Nat.le_of_ble_eq_true rfl) dL_isSo_211 ⟨by decide, by decide⟩ (fun E ce q9 u1 H locs hce hcv hcl hp9 w => (hp9.elim (fun h => (h.1 (show p < e171 0 1 by rw [c171.e0, hI.n1]; exact hp)).elim) (fun h => (h.2.1 (show e171 (PB p) 0 ≤ dy ∧ dy ≤ 3600 from ⟨by rw [show e171 (PB p) = e (PB p) from c171.1.P0 p, hI.pb hp]; exact h205, by omega⟩)).elim))) (fun r211 u1 H locs hp1 w => ?_)
          obtain ⟨_, rfl, rfl⟩ := hp1
          rw [(c171.iv hI).hr (by rw [c171.2.1 6 (by decide) (by decide)]; exact hp), c171.vv]
          refine lv_iload_n hx hb dL_isSo_214 rfl (lv_at hl 2 rfl) ?_
          refine lv_iload_n hx hb dL_isSo_215 rfl (lv_at hl 3 rfl) ?_
          refine lv_aload_n hx hb dL_isSo_216 rfl (lv_at hl 4 rfl) ?_
          refine mx_Si M w (kL_hours l D cy C ad e171 H.size p dy hB (hI.two hp) (by rw [c171.vv]; exact hI.mp hp) (by rw [c171.vv]; exact hI.rd hp) (by omega)) (va_cwS 3 M.1.2.2.2.2 gL_isSo_L_hours rfl rfl rfl (by decide +kernel) ⟨Nat.le_of_ble_eq_true rfl, Nat.le_of_ble_eq_true rfl⟩) rfl hl.1 rfl (Nat.le_of_ble_eq_true rfl) dL_isSo_217 ⟨by decide, by decide⟩ (fun r217 u1 H locs hp1 w => ?_)
          obtain ⟨rfl, rfl⟩ := hp1
          refine W.eq (congrArg (fun z => F0 m 220 ls (.int (nI z) :: [.int (nI (hrM (VV e) p dy))])) (congrArg (fun z => hrM z p dy) c171.vv)) ?_
          refine lv_icmp_ne (tgt := 227) hx hb dL_isSo_220 (by decide) (fun h => absurd rfl h) (fun h220 => ?_)
          refine lv_iconst (v := nI 1) hx hb dL_isSo_223 (by decide) ?_
          refine lv_goto (tgt := 228) hx hb dL_isSo_224 (by decide) ?_
          exact mx_zret M w hr (v := (nI 1)) (by first | exact Or.inl rfl | exact Or.inr rfl) ⟨rfl, _, ⟨c171.1, c171.2.1, rfl, rfl⟩, rfl⟩ (by decide) (by decide) dL_isSo_228
      · have q1 := hPl k (by omega)
        refine lv_aload hx hb dL_isSo_30 (lv_at hl 7 rfl) ?_
        refine lv_iload hx hb dL_isSo_32 (lv_at hl 11 rfl) ?_
        refine ex_iald M w (hB 11 (by decide)) (sh_11 cy ad) (by omega) (by decide) rfl dL_isSo_34 ?_
        refine mi_if_le hx hb (by omega) 46 dL_isSo_35 (by decide) (fun h35 => ?_) (fun h35 => ?_)
        · refine lv_iload hx hb dL_isSo_46 (lv_at hl 10 rfl) ?_
          refine lv_istore (lv' := [(10, .int nx), (0, .ref (ad 0)), (1, .int (nI p)), (2, .int (nI dy)), (3, .ref (ad 7)), (4, .ref (ad 8)), (5, .ref (ad 9)), (6, .ref (ad 10)), (7, .ref (ad 11)), (8, .ref (ad 12)), (9, .ref (ad 6)), (11, .int (nI k))]) hx hb dL_isSo_48 hl (by decide) rfl (fun ls hl => ?_)
          refine lv_iinc (v := nI (k - 1)) (lv' := [(11, .int (nI (k - 1))), (10, .int nx), (0, .ref (ad 0)), (1, .int (nI p)), (2, .int (nI dy)), (3, .ref (ad 7)), (4, .ref (ad 8)), (5, .ref (ad 9)), (6, .ref (ad 10)), (7, .ref (ad 11)), (8, .ref (ad 12)), (9, .ref (ad 6))]) hx hb dL_isSo_50 hl (k := 11) rfl (nI_dec1 (by omega)) (by decide) rfl (fun ls hl => ?_)
          refine lv_goto (tgt := 25) hx hb dL_isSo_53 (by decide) ?_
          exact ih X (k - 1) _ hX (by omega) (by rw [hnx]; exact fxT_0 ⟨by omega, hk⟩ h35)  (by omega) _ _ w ls (lv_sub hl [2, 3, 4, 5, 6, 7, 8, 9, 10, 11, 1, 0] rfl)
        · refine lv_iload hx hb dL_isSo_38 (lv_at hl 11 rfl) ?_
          refine mx_Si M w (kL_expiry l D cy C ad X H.size k (by omega) (by omega)) (va_cwS 1 M.1.2.2.2.2 gL_isSo_L_expiry rfl rfl rfl (by decide +kernel) ⟨Nat.le_of_ble_eq_true rfl, Nat.le_of_ble_eq_true rfl⟩) rfl hl.1 rfl (Nat.le_of_ble_eq_true rfl) dL_isSo_40 ⟨by decide, by decide⟩ (fun r40 u1 H locs hp1 w => ?_)
          obtain ⟨rfl, rfl⟩ := hp1
          refine lv_goto (tgt := 48) hx hb dL_isSo_43 (by decide) ?_
          refine lv_istore (lv' := [(10, .int (nI (exM k))), (0, .ref (ad 0)), (1, .int (nI p)), (2, .int (nI dy)), (3, .ref (ad 7)), (4, .ref (ad 8)), (5, .ref (ad 9)), (6, .ref (ad 10)), (7, .ref (ad 11)), (8, .ref (ad 12)), (9, .ref (ad 6)), (11, .int (nI k))]) hx hb dL_isSo_48 hl (by decide) rfl (fun ls hl => ?_)
          refine lv_iinc (v := nI (k - 1)) (lv' := [(11, .int (nI (k - 1))), (10, .int (nI (exM k))), (0, .ref (ad 0)), (1, .int (nI p)), (2, .int (nI dy)), (3, .ref (ad 7)), (4, .ref (ad 8)), (5, .ref (ad 9)), (6, .ref (ad 10)), (7, .ref (ad 11)), (8, .ref (ad 12)), (9, .ref (ad 6))]) hx hb dL_isSo_50 hl (k := 11) rfl (nI_dec1 (by omega)) (by decide) rfl (fun ls hl => ?_)
          refine lv_goto (tgt := 25) hx hb dL_isSo_53 (by decide) ?_
          exact ih X (k - 1) _ hX (by omega) (fxT_1 ⟨by omega, hk⟩ h35)  (by omega) _ _ w ls (lv_sub hl [2, 3, 4, 5, 6, 7, 8, 9, 10, 11, 1, 0] rfl)
  have hl : lv_has ls 12 [(0, .ref (ad 0)), (1, .int (nI p)), (2, .int (nI dy)), (3, .ref (ad 7)), (4, .ref (ad 8)), (5, .ref (ad 9)), (6, .ref (ad 10)), (7, .ref (ad 11)), (8, .ref (ad 12)), (9, .ref (ad 6))] := hl
  refine lv_iload_n hx hb dL_isSo_0 rfl (lv_at hl 1 rfl) ?_
  refine lv_iload_n hx hb dL_isSo_1 rfl (lv_at hl 2 rfl) ?_
  refine lv_aload_n hx hb dL_isSo_2 rfl (lv_at hl 3 rfl) ?_
  refine lv_aload hx hb dL_isSo_3 (lv_at hl 4 rfl) ?_
  refine lv_aload hx hb dL_isSo_5 (lv_at hl 5 rfl) ?_
  refine lv_aload hx hb dL_isSo_7 (lv_at hl 6 rfl) ?_
  refine lv_aload hx hb dL_isSo_9 (lv_at hl 7 rfl) ?_
  refine lv_aload hx hb dL_isSo_11 (lv_at hl 8 rfl) ?_
  refine lv_aload hx hb dL_isSo_13 (lv_at hl 9 rfl) ?_
  refine mx_Sv M w (kL_go l D cy C ad e s.heap.size p dy hB hI.2.1 hI.b3 (hI.two hp) (hI.mp hp) (hI.rd hp) (by have z := hI.p8 hp; omega) dh) (va_cwS 9 M.1.2.2.2.2 gL_isSo_L_go rfl rfl rfl (by decide +kernel) ⟨Nat.le_of_ble_eq_true rfl, Nat.le_of_ble_eq_true rfl⟩) rfl hl.1 rfl (Nat.le_of_ble_eq_true rfl) dL_isSo_15 ⟨by decide, by decide⟩ (fun u1 H locs hp1 w => ?_)
  obtain rfl := hp1
  obtain ⟨X, hX⟩ : ∃ z, z = goL (VV e) e p (dy + 1 - VV e 8 p) := ⟨_, rfl⟩
  rw [← hX] at w
  have oX : OffL e X := by rw [hX]; exact OffL_go _ _ _ _
  have c0 := CH_X oX
  refine lv_iconst (v := (-1)) hx hb dL_isSo_18 (by decide) ?_
  refine lv_istore (lv' := [(10, .int (-1)), (0, .ref (ad 0)), (1, .int (nI p)), (2, .int (nI dy)), (3, .ref (ad 7)), (4, .ref (ad 8)), (5, .ref (ad 9)), (6, .ref (ad 10)), (7, .ref (ad 11)), (8, .ref (ad 12)), (9, .ref (ad 6))]) hx hb dL_isSo_19 hl (by decide) rfl (fun ls hl => ?_)
  refine lv_bipush (v := nI 63) hx hb dL_isSo_21 (by decide) ?_
  refine lv_istore (lv' := [(11, .int (nI 63)), (10, .int (-1)), (0, .ref (ad 0)), (1, .int (nI p)), (2, .int (nI dy)), (3, .ref (ad 7)), (4, .ref (ad 8)), (5, .ref (ad 9)), (6, .ref (ad 10)), (7, .ref (ad 11)), (8, .ref (ad 12)), (9, .ref (ad 6))]) hx hb dL_isSo_23 hl (by decide) rfl (fun ls hl => ?_)
  exact cut25 (63 + 1) X 63 _ hX (by omega) rfl  (by omega) _ _ w ls (lv_sub hl [2, 3, 4, 5, 6, 7, 8, 9, 10, 11, 1, 0] rfl)
