/-! ===== the law sets hours ===== -/
set_option maxHeartbeats 4000000 in
set_option maxRecDepth 100000 in
/-- LeavebankLaw.hoursSet(x, p, day, tenths, h) -/
theorem kL_hoursSet (l : Launch) (hfl : l.stackTraces = false) (D : va_G) (cy : Nat → ClassId) (C : List Nat) (ad : Nat → Nat) (e : Nat → Nat → Nat) (sz : Nat) (p dy tn : Nat) (hB : ∀ k, k < 13 → k ∈ C) (hCC : CC (e 0 1) (e 0 3) C) (hI : IV e) (hp : p < e 6 1) (hd : VV e 8 p ≤ dy ∧ dy < 1800) (hh : 1 ≤ tn ∧ tn ≤ 10) : Met l yL_hoursSet wsL_hoursSet ({ frames := 9, cells := 4, slots := 24, locals := 155 } : Room) (PreW D cy (C, ad, G cy ad e) sz [.ref (ad 0), .int (nI p), .int (nI dy), .int (nI tn), .ref (ad 7)]) (va_Qi (fun (r : Int32) (u : WT) => r = nI 1 ∧ ST cy C ad e u) (WB D cy (AW (C, ad, G cy ad e) sz)) (AW (C, ad, G cy ad e) sz)) 4 24 (AW (C, ad, G cy ad e) sz) := by
  refine mxp_start (cc := cL_hoursSet) (maxL := 9) (ret := (some .boolean)) (by decide) rfl (Nat.le_of_ble_eq_true rfl) ?_
  intro p9 e9 s m args below meth c hsz hr hnm M w Th hNC ls hl
  have hx := M.1.1
  have hb := M.1.2.1
  have hp2 := hI.two hp
  have hP := hI.mp hp
  have hs1 := hP.2.2.2.1
  have hs2 := hP.2.2.2.2
  have cut112 : ∀ (la : Nat) (fr : Bool) (hla : la = laM (VV e) p dy (VV e 11 p)) (hfr : (fr = true ∧ la = VV e 11 p) ∨ (fr = false ∧ la < VV e 11 p)) (H : Heap) (locs : List Loc), MO D (AW (C, ad, G cy ad e) sz) s.heap (C, ad, G cy ad e) H locs → ∀ (ls : Array Slot), lv_has ls 9 [(0, .ref (ad 0)), (1, .int (nI p)), (2, .int (nI dy)), (3, .int (nI tn)), (4, .ref (ad 7)), (5, .int (nI ((12 + (20 * p)) + (2 * la)))), (6, .int (nI fr.toNat))] → W p9 l e9 ({ frames := 9, cells := 4, slots := 24, locals := 155 } : Room) s m args below meth c H locs 0 0 (MQ below (va_Qi (fun (r : Int32) (u : WT) => r = nI 1 ∧ ST cy C ad e u) (WB D cy (AW (C, ad, G cy ad e) sz)) (AW (C, ad, G cy ad e) sz)) args s 4 24 (AW (C, ad, G cy ad e) sz)) (F0 m 112 ls []) := by
    intro la fr hla hfr H locs w ls hl
    have hln : la ≤ VV e 11 p := by omega
    refine lv_iload hx hb dL_hoursSet_112 (lv_at hl 6 rfl) ?_
    refine mi_if_eq hx hb (bt_lt _) 135 dL_hoursSet_114 (by decide) (fun h114 => ?_) (fun h114 => ?_)
    · refine lv_iload_n hx hb dL_hoursSet_135 rfl (lv_at hl 1 rfl) ?_
      refine lv_iload_n hx hb dL_hoursSet_136 rfl (lv_at hl 2 rfl) ?_
      refine lv_aload hx hb dL_hoursSet_137 (lv_at hl 4 rfl) ?_
      refine mx_Si M w (kL_hours l D cy C ad e H.size p dy hB hp2 hP (hI.rd hp) (by omega)) (va_cwS 3 M.1.2.2.2.2 gL_hoursSet_L_hours rfl rfl rfl (by decide +kernel) ⟨Nat.le_of_ble_eq_true rfl, Nat.le_of_ble_eq_true rfl⟩) rfl hl.1 rfl (Nat.le_of_ble_eq_true rfl) dL_hoursSet_139 ⟨by decide, by decide⟩ (fun r139 u1 H locs hp1 w => ?_)
      obtain ⟨rfl, rfl⟩ := hp1
      refine lv_istore (lv' := [(7, .int (nI (hrM (VV e) p dy))), (0, .ref (ad 0)), (1, .int (nI p)), (2, .int (nI dy)), (3, .int (nI tn)), (4, .ref (ad 7)), (5, .int (nI ((12 + (20 * p)) + (2 * la)))), (6, .int (nI fr.toNat))]) hx hb dL_hoursSet_142 hl (by decide) rfl (fun ls hl => ?_)
      have hr9 := hrM_in hP dy
      refine lv_iload hx hb dL_hoursSet_144 (lv_at hl 0 rfl) ?_
      refine mi_if_le hx hb (by omega) 184 dL_hoursSet_146 (by decide) (fun h146 => by omega) (fun h146 => ?_)
      refine lv_aload hx hb dL_hoursSet_149 (lv_at hl 5 rfl) ?_
      refine lv_iload hx hb dL_hoursSet_151 (lv_at hl 6 rfl) ?_
      refine lv_iload_n hx hb dL_hoursSet_153 rfl (lv_at hl 3 rfl) ?_
      refine ex_iast M w (hB 7 (by decide)) (sh_7 cy ad) (v := dy) (by omega) (by decide) dL_hoursSet_154 (fun H locs w => ?_)
      refine lv_aload hx hb dL_hoursSet_155 (lv_at hl 5 rfl) ?_
      refine lv_iload hx hb dL_hoursSet_157 (lv_at hl 6 rfl) ?_
      refine lv_iconst (v := nI 1) hx hb dL_hoursSet_159 (by decide) ?_
      refine mi_add hx hb dL_hoursSet_160 ?_
      refine lv_iload_n hx hb dL_hoursSet_161 rfl (lv_at hl 4 rfl) ?_
      refine ex_iast M w (hB 7 (by decide)) (sh_7 cy ad) (v := tn) (by omega) (by decide) dL_hoursSet_162 (fun H locs w => ?_)
      refine lv_aload hx hb dL_hoursSet_163 (lv_at hl 5 rfl) ?_
      refine lv_iconst (v := nI 4) hx hb dL_hoursSet_165 (by decide) ?_
      refine lv_iload_n hx hb dL_hoursSet_166 rfl (lv_at hl 2 rfl) ?_
      refine mi_mul hx hb dL_hoursSet_167 ?_
      refine lv_iconst (v := nI 3) hx hb dL_hoursSet_168 (by decide) ?_
      refine mi_add hx hb dL_hoursSet_169 ?_
      refine lv_dup2_11 hx hb dL_hoursSet_170 rfl rfl ?_
      refine ex_iald M w (hB 7 (by decide)) (sh_7 cy ad) (by omega) (by decide) ((es_ne _ _ (by omega)).trans ((es_ne _ _ (by omega)).trans (rV_11 (e := e) hp2))) dL_hoursSet_171 ?_
      refine lv_iload hx hb dL_hoursSet_172 (lv_at hl 7 rfl) ?_
      refine mi_if_eq hx hb (bt_lt _) 181 dL_hoursSet_174 (by decide) (fun h174 => ?_) (fun h174 => absurd h174 (by first | decide | omega))
      refine lv_iconst (v := nI 0) hx hb dL_hoursSet_181 (by decide) ?_
      refine mi_add hx hb dL_hoursSet_182 ?_
      refine ex_iast M w (hB 7 (by decide)) (sh_7 cy ad) (v := ((VV e 11 p) + 0)) (by omega) (by decide) dL_hoursSet_183 (fun H locs w => ?_)
      have hf9 : fr = false := bt_f h114
      have hl9 : la < VV e 11 p := hfr.elim (fun z => absurd (z.1.symm.trans hf9) (by decide)) (fun z => z.2)
      obtain ⟨e1, he1⟩ : ∃ z, z = hsL e p (laM (VV e) p dy (VV e 11 p)) dy tn (VV e 11 p + (if laM (VV e) p dy (VV e 11 p) = VV e 11 p then 1 else 0)) := ⟨_, rfl⟩
      rw [show (es (es (es e 7 ((12 + (20 * p)) + (2 * la)) dy) 7 (((12 + (20 * p)) + (2 * la)) + 1) tn) 7 ((4 * p) + 3) ((VV e 11 p) + 0)) = e1 by rw [he1]; unfold hsL; rw [← hla, if_neg (by omega)]] at w
      have o1 : OffR e e1 := by rw [he1]; exact OffR_hs _ _ _ _ _ _
      have hb1 : e1 (PB p) 0 ≤ dy := by rw [o1.P0, hI.pb hp]; exact hd.1
      have hpz : p < e1 0 1 := by rw [o1.z, hI.n1]; exact hp
      have ft1 := hI.fi o1.xf hp dy
      have hr1 := hI.hx o1.xf hp dy
      have hIx := IV_hs (d := dy) (h := tn) hI hp (by omega) hh (by rw [← hla]; omega)
      rw [← he1] at hIx
      refine lv_aload_n hx hb dL_hoursSet_184 rfl (lv_at hl 1 rfl) ?_
      refine lv_iconst (v := nI 4) hx hb dL_hoursSet_185 (by decide) ?_
      refine lv_iload_n hx hb dL_hoursSet_186 rfl (lv_at hl 2 rfl) ?_
      refine lv_iload_n hx hb dL_hoursSet_187 rfl (lv_at hl 3 rfl) ?_
      refine lv_iload_n hx hb dL_hoursSet_188 rfl (lv_at hl 4 rfl) ?_
      refine lv_iconst (v := nI 0) hx hb dL_hoursSet_189 (by decide) ?_
      refine mxw_SW M w Th hNC (kL_calls4 l hfl D cy C ad e1 H.size p dy tn 0 hB (o1.cc hCC) (hI.1.fr o1.xf) ⟨⟨hpz, hb1, by omega⟩, hh⟩ (by omega)) (vx_cwSW 6 M.1.2.2.2.2 gL_hoursSet_L_calls rfl rfl rfl (by decide +kernel) ⟨Nat.le_of_ble_eq_true rfl, Nat.le_of_ble_eq_true rfl⟩) rfl hl.1 rfl (Nat.le_of_ble_eq_true rfl) dL_hoursSet_190 ⟨by decide, by decide⟩ (fun r190 u1 H locs hp1 w => ?_)
      obtain ⟨_, rfl, rfl⟩ := hp1.resolve_left (fun z => z.1 (by rw [ft1, ← hla]; omega))
      rw [hr1]
      refine lv_iload hx hb dL_hoursSet_193 (lv_at hl 0 rfl) ?_
      refine lv_icmp_ne (tgt := 202) hx hb dL_hoursSet_195 (by decide) (fun h => absurd rfl h) (fun h195 => ?_)
      refine lv_iconst (v := nI 1) hx hb dL_hoursSet_198 (by decide) ?_
      refine lv_goto (tgt := 203) hx hb dL_hoursSet_199 (by decide) ?_
      exact mx_zret M w hr (v := (nI 1)) (by first | exact Or.inl rfl | exact Or.inr rfl) ⟨rfl, ST_in hIx (by rw [ehC_lo _ _ _ _ (by decide)]; exact o1.cc hCC) (by rw [ehC_lo _ _ _ _ (by decide), he1]; unfold hsL; rw [es_off _ _ _ (by decide), es_off _ _ _ (by decide), es_off _ _ _ (by decide)])⟩ (by decide) (by decide) dL_hoursSet_203
    · refine lv_aload hx hb dL_hoursSet_117 (lv_at hl 4 rfl) ?_
      refine lv_iconst (v := nI 4) hx hb dL_hoursSet_119 (by decide) ?_
      refine lv_iload_n hx hb dL_hoursSet_120 rfl (lv_at hl 1 rfl) ?_
      refine mi_mul hx hb dL_hoursSet_121 ?_
      refine lv_iconst (v := nI 3) hx hb dL_hoursSet_122 (by decide) ?_
      refine mi_add hx hb dL_hoursSet_123 ?_
      refine ex_iald M w (hB 7 (by decide)) (sh_7 cy ad) (by omega) (by decide) (rV_11 (e := e) hp2) dL_hoursSet_124 ?_
      refine lv_bipush (v := nI 10) hx hb dL_hoursSet_125 (by decide) ?_
      refine mi_ne hx hb (by omega) (by decide) 135 dL_hoursSet_127 (by decide) (fun h127 => ?_) (fun h127 => ?_)
      · refine lv_iload_n hx hb dL_hoursSet_135 rfl (lv_at hl 1 rfl) ?_
        refine lv_iload_n hx hb dL_hoursSet_136 rfl (lv_at hl 2 rfl) ?_
        refine lv_aload hx hb dL_hoursSet_137 (lv_at hl 4 rfl) ?_
        refine mx_Si M w (kL_hours l D cy C ad e H.size p dy hB hp2 hP (hI.rd hp) (by omega)) (va_cwS 3 M.1.2.2.2.2 gL_hoursSet_L_hours rfl rfl rfl (by decide +kernel) ⟨Nat.le_of_ble_eq_true rfl, Nat.le_of_ble_eq_true rfl⟩) rfl hl.1 rfl (Nat.le_of_ble_eq_true rfl) dL_hoursSet_139 ⟨by decide, by decide⟩ (fun r139 u1 H locs hp1 w => ?_)
        obtain ⟨rfl, rfl⟩ := hp1
        refine lv_istore (lv' := [(7, .int (nI (hrM (VV e) p dy))), (0, .ref (ad 0)), (1, .int (nI p)), (2, .int (nI dy)), (3, .int (nI tn)), (4, .ref (ad 7)), (5, .int (nI ((12 + (20 * p)) + (2 * la)))), (6, .int (nI fr.toNat))]) hx hb dL_hoursSet_142 hl (by decide) rfl (fun ls hl => ?_)
        have hr9 := hrM_in hP dy
        refine lv_iload hx hb dL_hoursSet_144 (lv_at hl 0 rfl) ?_
        refine mi_if_le hx hb (by omega) 184 dL_hoursSet_146 (by decide) (fun h146 => by omega) (fun h146 => ?_)
        refine lv_aload hx hb dL_hoursSet_149 (lv_at hl 5 rfl) ?_
        refine lv_iload hx hb dL_hoursSet_151 (lv_at hl 6 rfl) ?_
        refine lv_iload_n hx hb dL_hoursSet_153 rfl (lv_at hl 3 rfl) ?_
        refine ex_iast M w (hB 7 (by decide)) (sh_7 cy ad) (v := dy) (by omega) (by decide) dL_hoursSet_154 (fun H locs w => ?_)
        refine lv_aload hx hb dL_hoursSet_155 (lv_at hl 5 rfl) ?_
        refine lv_iload hx hb dL_hoursSet_157 (lv_at hl 6 rfl) ?_
        refine lv_iconst (v := nI 1) hx hb dL_hoursSet_159 (by decide) ?_
        refine mi_add hx hb dL_hoursSet_160 ?_
        refine lv_iload_n hx hb dL_hoursSet_161 rfl (lv_at hl 4 rfl) ?_
        refine ex_iast M w (hB 7 (by decide)) (sh_7 cy ad) (v := tn) (by omega) (by decide) dL_hoursSet_162 (fun H locs w => ?_)
        refine lv_aload hx hb dL_hoursSet_163 (lv_at hl 5 rfl) ?_
        refine lv_iconst (v := nI 4) hx hb dL_hoursSet_165 (by decide) ?_
        refine lv_iload_n hx hb dL_hoursSet_166 rfl (lv_at hl 2 rfl) ?_
        refine mi_mul hx hb dL_hoursSet_167 ?_
        refine lv_iconst (v := nI 3) hx hb dL_hoursSet_168 (by decide) ?_
        refine mi_add hx hb dL_hoursSet_169 ?_
        refine lv_dup2_11 hx hb dL_hoursSet_170 rfl rfl ?_
        refine ex_iald M w (hB 7 (by decide)) (sh_7 cy ad) (by omega) (by decide) ((es_ne _ _ (by omega)).trans ((es_ne _ _ (by omega)).trans (rV_11 (e := e) hp2))) dL_hoursSet_171 ?_
        refine lv_iload hx hb dL_hoursSet_172 (lv_at hl 7 rfl) ?_
        refine mi_if_eq hx hb (bt_lt _) 181 dL_hoursSet_174 (by decide) (fun h174 => absurd h174 (by first | decide | omega)) (fun h174 => ?_)
        refine lv_iconst (v := nI 1) hx hb dL_hoursSet_177 (by decide) ?_
        refine lv_goto (tgt := 182) hx hb dL_hoursSet_178 (by decide) ?_
        refine mi_add hx hb dL_hoursSet_182 ?_
        refine ex_iast M w (hB 7 (by decide)) (sh_7 cy ad) (v := ((VV e 11 p) + 1)) (by omega) (by decide) dL_hoursSet_183 (fun H locs w => ?_)
        have hf9 : fr = true := bt_t h114
        have hl9 : la = VV e 11 p := hfr.elim (fun z => z.2) (fun z => absurd (z.1.symm.trans hf9) (by decide))
        obtain ⟨e1, he1⟩ : ∃ z, z = hsL e p (laM (VV e) p dy (VV e 11 p)) dy tn (VV e 11 p + (if laM (VV e) p dy (VV e 11 p) = VV e 11 p then 1 else 0)) := ⟨_, rfl⟩
        rw [show (es (es (es e 7 ((12 + (20 * p)) + (2 * la)) dy) 7 (((12 + (20 * p)) + (2 * la)) + 1) tn) 7 ((4 * p) + 3) ((VV e 11 p) + 1)) = e1 by rw [he1]; unfold hsL; rw [← hla, if_pos (by omega)]] at w
        have o1 : OffR e e1 := by rw [he1]; exact OffR_hs _ _ _ _ _ _
        have hb1 : e1 (PB p) 0 ≤ dy := by rw [o1.P0, hI.pb hp]; exact hd.1
        have hpz : p < e1 0 1 := by rw [o1.z, hI.n1]; exact hp
        have ft1 := hI.fi o1.xf hp dy
        have hr1 := hI.hx o1.xf hp dy
        have hIx := IV_hs (d := dy) (h := tn) hI hp (by omega) hh (by rw [← hla]; omega)
        rw [← he1] at hIx
        refine lv_aload_n hx hb dL_hoursSet_184 rfl (lv_at hl 1 rfl) ?_
        refine lv_iconst (v := nI 4) hx hb dL_hoursSet_185 (by decide) ?_
        refine lv_iload_n hx hb dL_hoursSet_186 rfl (lv_at hl 2 rfl) ?_
        refine lv_iload_n hx hb dL_hoursSet_187 rfl (lv_at hl 3 rfl) ?_
        refine lv_iload_n hx hb dL_hoursSet_188 rfl (lv_at hl 4 rfl) ?_
        refine lv_iconst (v := nI 0) hx hb dL_hoursSet_189 (by decide) ?_
        refine mxw_SW M w Th hNC (kL_calls4 l hfl D cy C ad e1 H.size p dy tn 0 hB (o1.cc hCC) (hI.1.fr o1.xf) ⟨⟨hpz, hb1, by omega⟩, hh⟩ (by omega)) (vx_cwSW 6 M.1.2.2.2.2 gL_hoursSet_L_calls rfl rfl rfl (by decide +kernel) ⟨Nat.le_of_ble_eq_true rfl, Nat.le_of_ble_eq_true rfl⟩) rfl hl.1 rfl (Nat.le_of_ble_eq_true rfl) dL_hoursSet_190 ⟨by decide, by decide⟩ (fun r190 u1 H locs hp1 w => ?_)
        obtain ⟨_, rfl, rfl⟩ := hp1.resolve_left (fun z => z.1 (by rw [ft1, ← hla]; omega))
        rw [hr1]
        refine lv_iload hx hb dL_hoursSet_193 (lv_at hl 0 rfl) ?_
        refine lv_icmp_ne (tgt := 202) hx hb dL_hoursSet_195 (by decide) (fun h => absurd rfl h) (fun h195 => ?_)
        refine lv_iconst (v := nI 1) hx hb dL_hoursSet_198 (by decide) ?_
        refine lv_goto (tgt := 203) hx hb dL_hoursSet_199 (by decide) ?_
        exact mx_zret M w hr (v := (nI 1)) (by first | exact Or.inl rfl | exact Or.inr rfl) ⟨rfl, ST_in hIx (by rw [ehC_lo _ _ _ _ (by decide)]; exact o1.cc hCC) (by rw [ehC_lo _ _ _ _ (by decide), he1]; unfold hsL; rw [es_off _ _ _ (by decide), es_off _ _ _ (by decide), es_off _ _ _ (by decide)])⟩ (by decide) (by decide) dL_hoursSet_203
      · refine lv_bipush (v := (-3)) hx hb dL_hoursSet_130 (by decide) ?_
        refine lv_goto (tgt := 142) hx hb dL_hoursSet_132 (by decide) ?_
        refine lv_istore (lv' := [(7, .int (-3)), (0, .ref (ad 0)), (1, .int (nI p)), (2, .int (nI dy)), (3, .int (nI tn)), (4, .ref (ad 7)), (5, .int (nI ((12 + (20 * p)) + (2 * la)))), (6, .int (nI fr.toNat))]) hx hb dL_hoursSet_142 hl (by decide) rfl (fun ls hl => ?_)
        have hr9 := hrM_in hP dy
        refine lv_iload hx hb dL_hoursSet_144 (lv_at hl 0 rfl) ?_
        refine lv_if_le (tgt := 184) hx hb dL_hoursSet_146 (by decide) (fun h146 => ?_) (fun h146 => absurd (by decide) h146)
        refine lv_aload_n hx hb dL_hoursSet_184 rfl (lv_at hl 1 rfl) ?_
        refine lv_iconst (v := nI 4) hx hb dL_hoursSet_185 (by decide) ?_
        refine lv_iload_n hx hb dL_hoursSet_186 rfl (lv_at hl 2 rfl) ?_
        refine lv_iload_n hx hb dL_hoursSet_187 rfl (lv_at hl 3 rfl) ?_
        refine lv_iload_n hx hb dL_hoursSet_188 rfl (lv_at hl 4 rfl) ?_
        refine lv_iconst (v := nI 0) hx hb dL_hoursSet_189 (by decide) ?_
        refine mxw_SW M w Th hNC (kL_calls4 l hfl D cy C ad e H.size p dy tn 0 hB hCC hI.1 ⟨⟨by rw [hI.n1]; exact hp, by rw [hI.pb hp]; exact hd.1, by omega⟩, hh⟩ (by omega)) (vx_cwSW 6 M.1.2.2.2.2 gL_hoursSet_L_calls rfl rfl rfl (by decide +kernel) ⟨Nat.le_of_ble_eq_true rfl, Nat.le_of_ble_eq_true rfl⟩) rfl hl.1 rfl (Nat.le_of_ble_eq_true rfl) dL_hoursSet_190 ⟨by decide, by decide⟩ (fun r190 u1 H locs hp1 w => ?_)
        obtain ⟨_, rfl, rfl⟩ := hp1.resolve_right (fun z => absurd z.1 (by rw [hI.fi (XF.rf e) hp dy, ← hla]; have z9 := bt_t h114; rcases hfr with q | q; omega; rw [q.1] at z9; cases z9))
        refine lv_iload hx hb dL_hoursSet_193 (lv_at hl 0 rfl) ?_
        refine lv_icmp_ne (tgt := 202) hx hb dL_hoursSet_195 (by decide) (fun h => absurd rfl h) (fun h195 => ?_)
        refine lv_iconst (v := nI 1) hx hb dL_hoursSet_198 (by decide) ?_
        refine lv_goto (tgt := 203) hx hb dL_hoursSet_199 (by decide) ?_
        exact mx_zret M w hr (v := (nI 1)) (by first | exact Or.inl rfl | exact Or.inr rfl) ⟨rfl, ST_in hI hCC rfl⟩ (by decide) (by decide) dL_hoursSet_203
  have cut26 : ∀ (n9 : Nat) (k la : Nat) (fr : Bool) (hk : k ≤ VV e 11 p) (hla : la = laM (VV e) p dy k) (hfr : (fr = true ∧ la = VV e 11 p) ∨ (fr = false ∧ la < VV e 11 p)) (_hm : VV e 11 p - k < n9) (H : Heap) (locs : List Loc), MO D (AW (C, ad, G cy ad e) sz) s.heap (C, ad, G cy ad e) H locs → ∀ (ls : Array Slot), lv_has ls 9 [(0, .ref (ad 0)), (1, .int (nI p)), (2, .int (nI dy)), (3, .int (nI tn)), (4, .ref (ad 7)), (5, .int (nI ((12 + (20 * p)) + (2 * la)))), (6, .int (nI fr.toNat)), (7, .int (nI k))] → W p9 l e9 ({ frames := 9, cells := 4, slots := 24, locals := 155 } : Room) s m args below meth c H locs 0 0 (MQ below (va_Qi (fun (r : Int32) (u : WT) => r = nI 1 ∧ ST cy C ad e u) (WB D cy (AW (C, ad, G cy ad e) sz)) (AW (C, ad, G cy ad e) sz)) args s 4 24 (AW (C, ad, G cy ad e) sz)) (F0 m 26 ls []) := by
    intro n9
    induction n9 with
    | zero => intro k la fr hk hla hfr _hm; exact absurd _hm (Nat.not_lt_zero _)
    | succ n9 ih =>
      intro k la fr hk hla hfr _hm H locs w ls hl
      refine lv_iload hx hb dL_hoursSet_26 (lv_at hl 7 rfl) ?_
      refine lv_aload hx hb dL_hoursSet_28 (lv_at hl 4 rfl) ?_
      refine lv_iconst (v := nI 4) hx hb dL_hoursSet_30 (by decide) ?_
      refine lv_iload_n hx hb dL_hoursSet_31 rfl (lv_at hl 1 rfl) ?_
      refine mi_mul hx hb dL_hoursSet_32 ?_
      refine lv_iconst (v := nI 3) hx hb dL_hoursSet_33 (by decide) ?_
      refine mi_add hx hb dL_hoursSet_34 ?_
      refine ex_iald M w (hB 7 (by decide)) (sh_7 cy ad) (by omega) (by decide) (rV_11 (e := e) hp2) dL_hoursSet_35 ?_
      refine mi_ge hx hb (by omega) (by omega) 112 dL_hoursSet_36 (by decide) (fun h36 => ?_) (fun h36 => ?_)
      · exact cut112 la fr (by rw [hla, show k = VV e 11 p by omega]) hfr  _ _ w ls (lv_sub hl [0, 1, 2, 3, 4, 5, 6] rfl)
      · have q1 := hs2 k (by omega)
        refine lv_aload hx hb dL_hoursSet_39 (lv_at hl 4 rfl) ?_
        refine lv_bipush (v := nI 12) hx hb dL_hoursSet_41 (by decide) ?_
        refine lv_bipush (v := nI 20) hx hb dL_hoursSet_43 (by decide) ?_
        refine lv_iload_n hx hb dL_hoursSet_45 rfl (lv_at hl 1 rfl) ?_
        refine mi_mul hx hb dL_hoursSet_46 ?_
        refine mi_add hx hb dL_hoursSet_47 ?_
        refine lv_iconst (v := nI 2) hx hb dL_hoursSet_48 (by decide) ?_
        refine lv_iload hx hb dL_hoursSet_49 (lv_at hl 7 rfl) ?_
        refine mi_mul hx hb dL_hoursSet_51 ?_
        refine mi_add hx hb dL_hoursSet_52 ?_
        refine ex_iald M w (hB 7 (by decide)) (sh_7 cy ad) (by omega) (by decide) (rV_12 e p k) dL_hoursSet_53 ?_
        refine lv_iload_n hx hb dL_hoursSet_54 rfl (lv_at hl 2 rfl) ?_
        refine mi_ne hx hb (by omega) (by omega) 62 dL_hoursSet_55 (by decide) (fun h55 => ?_) (fun h55 => ?_)
        · refine lv_iconst (v := nI 0) hx hb dL_hoursSet_62 (by decide) ?_
          refine lv_istore (lv' := [(8, .int (nI 0)), (0, .ref (ad 0)), (1, .int (nI p)), (2, .int (nI dy)), (3, .int (nI tn)), (4, .ref (ad 7)), (5, .int (nI ((12 + (20 * p)) + (2 * la)))), (6, .int (nI fr.toNat)), (7, .int (nI k))]) hx hb dL_hoursSet_63 hl (by decide) rfl (fun ls hl => ?_)
          refine lv_iload hx hb dL_hoursSet_65 (lv_at hl 0 rfl) ?_
          refine mi_if_eq hx hb (by decide) 85 dL_hoursSet_67 (by decide) (fun h67 => ?_) (fun h67 => absurd h67 (by first | decide | omega))
          refine lv_iload hx hb dL_hoursSet_85 (lv_at hl 6 rfl) ?_
          refine lv_istore (lv' := [(5, .int (nI ((12 + (20 * p)) + (2 * la)))), (8, .int (nI 0)), (0, .ref (ad 0)), (1, .int (nI p)), (2, .int (nI dy)), (3, .int (nI tn)), (4, .ref (ad 7)), (6, .int (nI fr.toNat)), (7, .int (nI k))]) hx hb dL_hoursSet_87 hl (by decide) rfl (fun ls hl => ?_)
          refine lv_iload hx hb dL_hoursSet_89 (lv_at hl 7 rfl) ?_
          refine mi_if_eq hx hb (bt_lt _) 103 dL_hoursSet_91 (by decide) (fun h91 => ?_) (fun h91 => ?_)
          · refine lv_iconst (v := nI 0) hx hb dL_hoursSet_103 (by decide) ?_
            refine lv_istore (lv' := [(6, .int (nI 0)), (5, .int (nI ((12 + (20 * p)) + (2 * la)))), (8, .int (nI 0)), (0, .ref (ad 0)), (1, .int (nI p)), (2, .int (nI dy)), (3, .int (nI tn)), (4, .ref (ad 7)), (7, .int (nI k))]) hx hb dL_hoursSet_104 hl (by decide) rfl (fun ls hl => ?_)
            refine lv_iinc (v := nI (k + 1)) (lv' := [(7, .int (nI (k + 1))), (6, .int (nI 0)), (5, .int (nI ((12 + (20 * p)) + (2 * la)))), (8, .int (nI 0)), (0, .ref (ad 0)), (1, .int (nI p)), (2, .int (nI dy)), (3, .int (nI tn)), (4, .ref (ad 7))]) hx hb dL_hoursSet_106 hl (k := 8) rfl (nI_inc _ 1) (by decide) rfl (fun ls hl => ?_)
            refine lv_goto (tgt := 26) hx hb dL_hoursSet_109 (by decide) ?_
            exact ih (k + 1) la false (by omega) (hla.trans (laM_0 (fun z => h55 (by omega))).symm) (hfr.elim (fun z => absurd h91 (by rw [z.1]; decide)) (fun z => Or.inr ⟨rfl, z.2⟩))  (by omega) _ _ w ls (lv_sub hl [4, 5, 6, 7, 8, 2, 1, 0] rfl)
          · refine lv_iload hx hb dL_hoursSet_94 (lv_at hl 1 rfl) ?_
            refine mi_if_ne hx hb (by decide) 103 dL_hoursSet_96 (by decide) (fun h96 => absurd h96 (by first | decide | omega)) (fun h96 => ?_)
            refine lv_iconst (v := nI 1) hx hb dL_hoursSet_99 (by decide) ?_
            refine lv_goto (tgt := 104) hx hb dL_hoursSet_100 (by decide) ?_
            refine lv_istore (lv' := [(6, .int (nI 1)), (5, .int (nI ((12 + (20 * p)) + (2 * la)))), (8, .int (nI 0)), (0, .ref (ad 0)), (1, .int (nI p)), (2, .int (nI dy)), (3, .int (nI tn)), (4, .ref (ad 7)), (7, .int (nI k))]) hx hb dL_hoursSet_104 hl (by decide) rfl (fun ls hl => ?_)
            refine lv_iinc (v := nI (k + 1)) (lv' := [(7, .int (nI (k + 1))), (6, .int (nI 1)), (5, .int (nI ((12 + (20 * p)) + (2 * la)))), (8, .int (nI 0)), (0, .ref (ad 0)), (1, .int (nI p)), (2, .int (nI dy)), (3, .int (nI tn)), (4, .ref (ad 7))]) hx hb dL_hoursSet_106 hl (k := 8) rfl (nI_inc _ 1) (by decide) rfl (fun ls hl => ?_)
            refine lv_goto (tgt := 26) hx hb dL_hoursSet_109 (by decide) ?_
            exact ih (k + 1) la true (by omega) (hla.trans (laM_0 (fun z => h55 (by omega))).symm) (hfr.elim (fun z => Or.inl ⟨rfl, z.2⟩) (fun z => absurd (show fr.toNat = 0 by rw [z.1]; rfl) h91))  (by omega) _ _ w ls (lv_sub hl [4, 5, 6, 7, 8, 2, 1, 0] rfl)
        · refine lv_iconst (v := nI 1) hx hb dL_hoursSet_58 (by decide) ?_
          refine lv_goto (tgt := 63) hx hb dL_hoursSet_59 (by decide) ?_
          refine lv_istore (lv' := [(8, .int (nI 1)), (0, .ref (ad 0)), (1, .int (nI p)), (2, .int (nI dy)), (3, .int (nI tn)), (4, .ref (ad 7)), (5, .int (nI ((12 + (20 * p)) + (2 * la)))), (6, .int (nI fr.toNat)), (7, .int (nI k))]) hx hb dL_hoursSet_63 hl (by decide) rfl (fun ls hl => ?_)
          refine lv_iload hx hb dL_hoursSet_65 (lv_at hl 0 rfl) ?_
          refine mi_if_eq hx hb (by decide) 85 dL_hoursSet_67 (by decide) (fun h67 => absurd h67 (by first | decide | omega)) (fun h67 => ?_)
          refine lv_bipush (v := nI 12) hx hb dL_hoursSet_70 (by decide) ?_
          refine lv_bipush (v := nI 20) hx hb dL_hoursSet_72 (by decide) ?_
          refine lv_iload_n hx hb dL_hoursSet_74 rfl (lv_at hl 2 rfl) ?_
          refine mi_mul hx hb dL_hoursSet_75 ?_
          refine mi_add hx hb dL_hoursSet_76 ?_
          refine lv_iconst (v := nI 2) hx hb dL_hoursSet_77 (by decide) ?_
          refine lv_iload hx hb dL_hoursSet_78 (lv_at hl 8 rfl) ?_
          refine mi_mul hx hb dL_hoursSet_80 ?_
          refine mi_add hx hb dL_hoursSet_81 ?_
          refine lv_goto (tgt := 87) hx hb dL_hoursSet_82 (by decide) ?_
          refine lv_istore (lv' := [(5, .int (nI ((12 + (20 * p)) + (2 * k)))), (8, .int (nI 1)), (0, .ref (ad 0)), (1, .int (nI p)), (2, .int (nI dy)), (3, .int (nI tn)), (4, .ref (ad 7)), (6, .int (nI fr.toNat)), (7, .int (nI k))]) hx hb dL_hoursSet_87 hl (by decide) rfl (fun ls hl => ?_)
          refine lv_iload hx hb dL_hoursSet_89 (lv_at hl 7 rfl) ?_
          refine mi_if_eq hx hb (bt_lt _) 103 dL_hoursSet_91 (by decide) (fun h91 => ?_) (fun h91 => ?_)
          · refine lv_iconst (v := nI 0) hx hb dL_hoursSet_103 (by decide) ?_
            refine lv_istore (lv' := [(6, .int (nI 0)), (5, .int (nI ((12 + (20 * p)) + (2 * k)))), (8, .int (nI 1)), (0, .ref (ad 0)), (1, .int (nI p)), (2, .int (nI dy)), (3, .int (nI tn)), (4, .ref (ad 7)), (7, .int (nI k))]) hx hb dL_hoursSet_104 hl (by decide) rfl (fun ls hl => ?_)
            refine lv_iinc (v := nI (k + 1)) (lv' := [(7, .int (nI (k + 1))), (6, .int (nI 0)), (5, .int (nI ((12 + (20 * p)) + (2 * k)))), (8, .int (nI 1)), (0, .ref (ad 0)), (1, .int (nI p)), (2, .int (nI dy)), (3, .int (nI tn)), (4, .ref (ad 7))]) hx hb dL_hoursSet_106 hl (k := 8) rfl (nI_inc _ 1) (by decide) rfl (fun ls hl => ?_)
            refine lv_goto (tgt := 26) hx hb dL_hoursSet_109 (by decide) ?_
            exact ih (k + 1) k false (by omega) (laM_1 (by omega)).symm (Or.inr ⟨rfl, by omega⟩)  (by omega) _ _ w ls (lv_sub hl [4, 5, 6, 7, 8, 2, 1, 0] rfl)
          · refine lv_iload hx hb dL_hoursSet_94 (lv_at hl 1 rfl) ?_
            refine mi_if_ne hx hb (by decide) 103 dL_hoursSet_96 (by decide) (fun h96 => ?_) (fun h96 => absurd h96 (by first | decide | omega))
            refine lv_iconst (v := nI 0) hx hb dL_hoursSet_103 (by decide) ?_
            refine lv_istore (lv' := [(6, .int (nI 0)), (5, .int (nI ((12 + (20 * p)) + (2 * k)))), (8, .int (nI 1)), (0, .ref (ad 0)), (1, .int (nI p)), (2, .int (nI dy)), (3, .int (nI tn)), (4, .ref (ad 7)), (7, .int (nI k))]) hx hb dL_hoursSet_104 hl (by decide) rfl (fun ls hl => ?_)
            refine lv_iinc (v := nI (k + 1)) (lv' := [(7, .int (nI (k + 1))), (6, .int (nI 0)), (5, .int (nI ((12 + (20 * p)) + (2 * k)))), (8, .int (nI 1)), (0, .ref (ad 0)), (1, .int (nI p)), (2, .int (nI dy)), (3, .int (nI tn)), (4, .ref (ad 7))]) hx hb dL_hoursSet_106 hl (k := 8) rfl (nI_inc _ 1) (by decide) rfl (fun ls hl => ?_)
            refine lv_goto (tgt := 26) hx hb dL_hoursSet_109 (by decide) ?_
            exact ih (k + 1) k false (by omega) (laM_1 (by omega)).symm (Or.inr ⟨rfl, by omega⟩)  (by omega) _ _ w ls (lv_sub hl [4, 5, 6, 7, 8, 2, 1, 0] rfl)
  have hl : lv_has ls 9 [(0, .ref (ad 0)), (1, .int (nI p)), (2, .int (nI dy)), (3, .int (nI tn)), (4, .ref (ad 7))] := hl
  refine lv_bipush (v := nI 12) hx hb dL_hoursSet_0 (by decide) ?_
  refine lv_bipush (v := nI 20) hx hb dL_hoursSet_2 (by decide) ?_
  refine lv_iload_n hx hb dL_hoursSet_4 rfl (lv_at hl 1 rfl) ?_
  refine mi_mul hx hb dL_hoursSet_5 ?_
  refine mi_add hx hb dL_hoursSet_6 ?_
  refine lv_iconst (v := nI 2) hx hb dL_hoursSet_7 (by decide) ?_
  refine lv_aload hx hb dL_hoursSet_8 (lv_at hl 4 rfl) ?_
  refine lv_iconst (v := nI 4) hx hb dL_hoursSet_10 (by decide) ?_
  refine lv_iload_n hx hb dL_hoursSet_11 rfl (lv_at hl 1 rfl) ?_
  refine mi_mul hx hb dL_hoursSet_12 ?_
  refine lv_iconst (v := nI 3) hx hb dL_hoursSet_13 (by decide) ?_
  refine mi_add hx hb dL_hoursSet_14 ?_
  refine ex_iald M w (hB 7 (by decide)) (sh_7 cy ad) (by omega) (by decide) (rV_11 (e := e) hp2) dL_hoursSet_15 ?_
  refine mi_mul hx hb dL_hoursSet_16 ?_
  refine mi_add hx hb dL_hoursSet_17 ?_
  refine lv_istore (lv' := [(5, .int (nI ((12 + (20 * p)) + (2 * (VV e 11 p))))), (0, .ref (ad 0)), (1, .int (nI p)), (2, .int (nI dy)), (3, .int (nI tn)), (4, .ref (ad 7))]) hx hb dL_hoursSet_18 hl (by decide) rfl (fun ls hl => ?_)
  refine lv_iconst (v := nI 1) hx hb dL_hoursSet_20 (by decide) ?_
  refine lv_istore (lv' := [(6, .int (nI 1)), (5, .int (nI ((12 + (20 * p)) + (2 * (VV e 11 p))))), (0, .ref (ad 0)), (1, .int (nI p)), (2, .int (nI dy)), (3, .int (nI tn)), (4, .ref (ad 7))]) hx hb dL_hoursSet_21 hl (by decide) rfl (fun ls hl => ?_)
  refine lv_iconst (v := nI 0) hx hb dL_hoursSet_23 (by decide) ?_
  refine lv_istore (lv' := [(7, .int (nI 0)), (6, .int (nI 1)), (5, .int (nI ((12 + (20 * p)) + (2 * (VV e 11 p))))), (0, .ref (ad 0)), (1, .int (nI p)), (2, .int (nI dy)), (3, .int (nI tn)), (4, .ref (ad 7))]) hx hb dL_hoursSet_24 hl (by decide) rfl (fun ls hl => ?_)
  exact cut26 (VV e 11 p - 0 + 1) 0 (VV e 11 p) true (Nat.zero_le _) rfl (Or.inl ⟨rfl, rfl⟩)  (by omega) _ _ w ls (lv_sub hl [3, 4, 5, 6, 7, 2, 1, 0] rfl)
