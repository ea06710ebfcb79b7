/-! ===== the law enters ===== -/
set_option maxHeartbeats 4000000 in
set_option maxRecDepth 100000 in
/-- LeavebankLaw.enters(x, z, h, r, i, q) -/
theorem kL_enters (l : Launch) (hfl : l.stackTraces = false) (D : va_G) (cy : Nat → ClassId) (C : List Nat) (ad : Nat → Nat) (e : Nat → Nat → Nat) (sz : Nat) (z : Int32) (hB : ∀ k, k < 13 → k ∈ C) (hCC : CC (e 0 1) (e 0 3) C) (hI : IV e) (hq1 : 1 ≤ e 6 1) : Met l yL_enters wsL_enters ({ frames := 9, cells := 4, slots := 24, locals := 157 } : Room) (PreW D cy (C, ad, G cy ad e) sz [.ref (ad 0), .int z, .ref (ad 7), .ref (ad 8), .ref (ad 9), .ref (ad 6)]) (va_Qi (fun (r : Int32) (u : WT) => r = nI 1 ∧ ST cy C ad e u) (WB D cy (AW (C, ad, G cy ad e) sz)) (AW (C, ad, G cy ad e) sz)) 4 24 (AW (C, ad, G cy ad e) sz) := by
  refine mxp_start (cc := cL_enters) (maxL := 13) (ret := (some .boolean)) (by decide) rfl (Nat.le_of_ble_eq_true rfl) ?_
  intro p9 e9 s m args below meth c hsz hr hnm M w Th hNC ls hl
  have hx := M.1.1
  have hb := M.1.2.1
  have hv2 : VV e 7 2 = e 6 1 := rfl
  have hq2 := hI.2.2.2
  have hb3 := hI.b3
  have hq0 : VV e 7 1 ≤ 1700 := hq2.1
  have hq3 : VV e 7 2 ≤ 2 := hq2.2.1
  have cut461 : ∀ (j7 f t : Nat) (q7 : j7 < VV e 7 2) (hf : VV e 8 j7 ≤ f ∧ f ≤ 1800) (ht : f ≤ t ∧ t ≤ 1860) (H : Heap) (locs : List Loc), MO D (AW (C, ad, G cy ad e) sz) s.heap (C, ad, G cy ad e) H locs → ∀ (ls : Array Slot), lv_has ls 13 [(0, .ref (ad 0)), (1, .int z), (2, .ref (ad 7)), (3, .ref (ad 8)), (4, .ref (ad 9)), (5, .ref (ad 6)), (6, .int (nI j7)), (7, .int (nI f)), (8, .int (nI t))] → W p9 l e9 ({ frames := 9, cells := 4, slots := 24, locals := 157 } : Room) s m args below meth c H locs 0 0 (MQ below (va_Qi (fun (r : Int32) (u : WT) => r = nI 1 ∧ ST cy C ad e u) (WB D cy (AW (C, ad, G cy ad e) sz)) (AW (C, ad, G cy ad e) sz)) args s 4 24 (AW (C, ad, G cy ad e) sz)) (F0 m 461 ls []) := by
    intro j7 f t q7 hf ht H locs w ls hl
    have hp7 : j7 < 2 := hI.two q7
    have h87 := hI.p8 q7
    refine lv_aload hx hb dL_enters_461 (lv_at hl 5 rfl) ?_
    refine lv_iconst (v := nI 3) hx hb dL_enters_463 (by decide) ?_
    refine ex_iald M w (hB 6 (by decide)) (sh_6 cy ad) (by omega) (by decide) (rV_q3 e) dL_enters_464 ?_
    refine lv_bipush (v := nI 8) hx hb dL_enters_465 (by decide) ?_
    refine mi_ge hx hb (by omega) (by decide) 540 dL_enters_467 (by decide) (fun h467 => ?_) (fun h467 => ?_)
    · refine lv_iconst (v := nI 1) hx hb dL_enters_540 (by decide) ?_
      exact mx_zret M w hr (v := (nI 1)) (by first | exact Or.inl rfl | exact Or.inr rfl) ⟨rfl, ST_in hI hCC rfl⟩ (by decide) (by decide) dL_enters_541
    · refine lv_aload hx hb dL_enters_470 (lv_at hl 4 rfl) ?_
      refine lv_iconst (v := nI 3) hx hb dL_enters_472 (by decide) ?_
      refine lv_aload hx hb dL_enters_473 (lv_at hl 5 rfl) ?_
      refine lv_iconst (v := nI 3) hx hb dL_enters_475 (by decide) ?_
      refine ex_iald M w (hB 6 (by decide)) (sh_6 cy ad) (by omega) (by decide) (rV_q3 e) dL_enters_476 ?_
      refine mi_mul hx hb dL_enters_477 ?_
      refine lv_iload hx hb dL_enters_478 (lv_at hl 6 rfl) ?_
      refine ex_iast M w (hB 9 (by decide)) (sh_9 cy ad) (v := j7) (by omega) (by decide) dL_enters_480 (fun H locs w => ?_)
      refine lv_aload hx hb dL_enters_481 (lv_at hl 4 rfl) ?_
      refine lv_iconst (v := nI 3) hx hb dL_enters_483 (by decide) ?_
      refine lv_aload hx hb dL_enters_484 (lv_at hl 5 rfl) ?_
      refine lv_iconst (v := nI 3) hx hb dL_enters_486 (by decide) ?_
      refine ex_iald M w (hB 6 (by decide)) (sh_6 cy ad) (by omega) (by decide) ((es_ne _ _ (by first | omega | (unfold PB; omega) | (unfold RB; omega) | (unfold PB RB; omega))).trans (rV_q3 e)) dL_enters_487 ?_
      refine mi_mul hx hb dL_enters_488 ?_
      refine lv_iconst (v := nI 1) hx hb dL_enters_489 (by decide) ?_
      refine mi_add hx hb dL_enters_490 ?_
      refine lv_iload hx hb dL_enters_491 (lv_at hl 7 rfl) ?_
      refine ex_iast M w (hB 9 (by decide)) (sh_9 cy ad) (v := f) (by omega) (by decide) dL_enters_493 (fun H locs w => ?_)
      refine lv_aload hx hb dL_enters_494 (lv_at hl 4 rfl) ?_
      refine lv_iconst (v := nI 3) hx hb dL_enters_496 (by decide) ?_
      refine lv_aload hx hb dL_enters_497 (lv_at hl 5 rfl) ?_
      refine lv_iconst (v := nI 3) hx hb dL_enters_499 (by decide) ?_
      refine ex_iald M w (hB 6 (by decide)) (sh_6 cy ad) (by omega) (by decide) ((es_ne _ _ (by first | omega | (unfold PB; omega) | (unfold RB; omega) | (unfold PB RB; omega))).trans ((es_ne _ _ (by first | omega | (unfold PB; omega) | (unfold RB; omega) | (unfold PB RB; omega))).trans (rV_q3 e))) dL_enters_500 ?_
      refine mi_mul hx hb dL_enters_501 ?_
      refine lv_iconst (v := nI 2) hx hb dL_enters_502 (by decide) ?_
      refine mi_add hx hb dL_enters_503 ?_
      refine lv_iload hx hb dL_enters_504 (lv_at hl 8 rfl) ?_
      refine ex_iast M w (hB 9 (by decide)) (sh_9 cy ad) (v := t) (by omega) (by decide) dL_enters_506 (fun H locs w => ?_)
      refine lv_aload hx hb dL_enters_507 (lv_at hl 5 rfl) ?_
      refine lv_iconst (v := nI 3) hx hb dL_enters_509 (by decide) ?_
      refine lv_dup2_11 hx hb dL_enters_510 rfl rfl ?_
      refine ex_iald M w (hB 6 (by decide)) (sh_6 cy ad) (by omega) (by decide) ((es_ne _ _ (by first | omega | (unfold PB; omega) | (unfold RB; omega) | (unfold PB RB; omega))).trans ((es_ne _ _ (by first | omega | (unfold PB; omega) | (unfold RB; omega) | (unfold PB RB; omega))).trans ((es_ne _ _ (by first | omega | (unfold PB; omega) | (unfold RB; omega) | (unfold PB RB; omega))).trans (rV_q3 e)))) dL_enters_511 ?_
      refine lv_iconst (v := nI 1) hx hb dL_enters_512 (by decide) ?_
      refine mi_add hx hb dL_enters_513 ?_
      refine ex_iast M w (hB 6 (by decide)) (sh_6 cy ad) (v := ((VV e 7 15) + 1)) (by omega) (by decide) dL_enters_514 (fun H locs w => ?_)
      obtain ⟨e1, he1⟩ : ∃ z, z = skL e (VV e 7 15) j7 f t := ⟨_, rfl⟩
      rw [show (es (es (es (es e 9 (3 * (VV e 7 15)) j7) 9 ((3 * (VV e 7 15)) + 1) f) 9 ((3 * (VV e 7 15)) + 2) t) 6 3 ((VV e 7 15) + 1)) = e1 from he1.symm] at w
      have o1 : OffR e e1 := by rw [he1]; exact OffR_sk _ _ _ _ _
      have hIx := IV_sk (k := j7) (f := f) (t := t) hI q7 ⟨ht.1, by omega⟩ h467
      rw [← he1] at hIx
      have hn1 : e1 0 4 = VV e 7 15 := by rw [o1.z, hI.n4]; rfl
      have hc9 := skC_0 e1 j7 f t
      have h63 : e1 6 3 = VV e 7 15 + 1 := by rw [he1]; exact es_same _ _ _ _
      have hCx : CC (skC e1 j7 f t 0 1) (skC e1 j7 f t 0 3) C := by rw [hc9.1, hc9.2]; exact o1.cc hCC
      have h6x : skC e1 j7 f t 6 1 = e 6 1 := by rw [skC_mid _ _ _ _ 6 (by decide) (by decide), he1]; unfold skL; simp [es]
      refine lv_aload_n hx hb dL_enters_515 rfl (lv_at hl 0 rfl) ?_
      refine lv_iconst (v := nI 2) hx hb dL_enters_516 (by decide) ?_
      refine lv_iload hx hb dL_enters_517 (lv_at hl 6 rfl) ?_
      refine lv_iload hx hb dL_enters_519 (lv_at hl 7 rfl) ?_
      refine lv_iload hx hb dL_enters_521 (lv_at hl 8 rfl) ?_
      refine lv_iconst (v := nI 0) hx hb dL_enters_523 (by decide) ?_
      refine mxw_SW M w Th hNC (kL_calls2 l hfl D cy C ad e1 H.size j7 f t 0 hB (o1.cc hCC) (hI.1.fr o1.xf) ⟨⟨by rw [o1.z, hI.n1]; exact q7, by rw [o1.P0, hI.pb q7]; exact hf.1, ht.1, by omega⟩, by omega⟩ (by omega)) (vx_cwSW 6 M.1.2.2.2.2 gL_enters_L_calls rfl rfl rfl (by decide +kernel) ⟨Nat.le_of_ble_eq_true rfl, Nat.le_of_ble_eq_true rfl⟩) rfl hl.1 rfl (Nat.le_of_ble_eq_true rfl) dL_enters_524 ⟨by decide, by decide⟩ (fun r524 u1 H locs hp1 w => ?_)
      obtain ⟨rfl, rfl⟩ := hp1
      rw [hn1]
      have w9 := w
      refine lv_aload hx hb dL_enters_527 (lv_at hl 5 rfl) ?_
      refine lv_iconst (v := nI 3) hx hb dL_enters_529 (by decide) ?_
      refine ex_iald M w (hB 6 (by decide)) (sh_6 cy ad) (by omega) (by decide) ((congrFun (skC_mid _ _ _ _ 6 (by decide) (by decide)) 3).trans h63) dL_enters_530 ?_
      refine lv_icmp_ne (tgt := 538) hx hb dL_enters_531 (by decide) (fun h => absurd rfl h) (fun h531 => ?_)
      refine lv_iconst (v := nI 1) hx hb dL_enters_534 (by decide) ?_
      refine lv_goto (tgt := 539) hx hb dL_enters_535 (by decide) ?_
      exact mx_zret M w hr (v := (nI 1)) (by first | exact Or.inl rfl | exact Or.inr rfl) ⟨rfl, ST_in hIx hCx h6x⟩ (by decide) (by decide) dL_enters_539
  have cut132 : ∀ (j7 f t hg9 : Nat) (q7 : j7 < VV e 7 2) (hf : VV e 8 j7 ≤ f ∧ f ≤ 1800) (ht : f ≤ t ∧ t ≤ 1860) (hh : hg9 ≤ 1) (H : Heap) (locs : List Loc), MO D (AW (C, ad, G cy ad e) sz) s.heap (C, ad, G cy ad e) H locs → ∀ (ls : Array Slot), lv_has ls 13 [(0, .ref (ad 0)), (1, .int z), (2, .ref (ad 7)), (3, .ref (ad 8)), (4, .ref (ad 9)), (5, .ref (ad 6)), (6, .int (nI j7)), (7, .int (nI f)), (8, .int (nI t)), (10, .int (nI hg9))] → W p9 l e9 ({ frames := 9, cells := 4, slots := 24, locals := 157 } : Room) s m args below meth c H locs 0 0 (MQ below (va_Qi (fun (r : Int32) (u : WT) => r = nI 1 ∧ ST cy C ad e u) (WB D cy (AW (C, ad, G cy ad e) sz)) (AW (C, ad, G cy ad e) sz)) args s 4 24 (AW (C, ad, G cy ad e) sz)) (F0 m 132 ls []) := by
    intro j7 f t hg9 q7 hf ht hh H locs w ls hl
    have hp7 : j7 < 2 := hI.two q7
    have h87 := hI.p8 q7
    refine lv_aload hx hb dL_enters_132 (lv_at hl 5 rfl) ?_
    refine lv_iconst (v := nI 2) hx hb dL_enters_134 (by decide) ?_
    refine ex_iald M w (hB 6 (by decide)) (sh_6 cy ad) (by omega) (by decide) (rV_q2 e) dL_enters_135 ?_
    refine lv_bipush (v := nI 12) hx hb dL_enters_136 (by decide) ?_
    refine mi_ne hx hb (by omega) (by decide) 146 dL_enters_138 (by decide) (fun h138 => ?_) (fun h138 => ?_)
    · refine lv_aload hx hb dL_enters_146 (lv_at hl 5 rfl) ?_
      refine lv_iconst (v := nI 2) hx hb dL_enters_148 (by decide) ?_
      refine ex_iald M w (hB 6 (by decide)) (sh_6 cy ad) (by omega) (by decide) (rV_q2 e) dL_enters_149 ?_
      refine lv_istore (lv' := [(11, .int (nI (VV e 7 9))), (0, .ref (ad 0)), (1, .int z), (2, .ref (ad 7)), (3, .ref (ad 8)), (4, .ref (ad 9)), (5, .ref (ad 6)), (6, .int (nI j7)), (7, .int (nI f)), (8, .int (nI t)), (10, .int (nI hg9))]) hx hb dL_enters_150 hl (by decide) rfl (fun ls hl => ?_)
      refine lv_iload hx hb dL_enters_152 (lv_at hl 0 rfl) ?_
      refine mi_if_lt hx hb (by omega) 220 dL_enters_154 (by decide) (fun h => h.elim) (fun _ => ?_)
      refine lv_aload_n hx hb dL_enters_157 rfl (lv_at hl 4 rfl) ?_
      refine lv_iconst (v := nI 5) hx hb dL_enters_158 (by decide) ?_
      refine lv_iload hx hb dL_enters_159 (lv_at hl 0 rfl) ?_
      refine mi_mul hx hb dL_enters_161 ?_
      refine lv_iload hx hb dL_enters_162 (lv_at hl 7 rfl) ?_
      refine ex_iast M w (hB 8 (by decide)) (sh_8 cy ad) (v := j7) (by omega) (by decide) dL_enters_164 (fun H locs w => ?_)
      refine lv_aload_n hx hb dL_enters_165 rfl (lv_at hl 4 rfl) ?_
      refine lv_iconst (v := nI 5) hx hb dL_enters_166 (by decide) ?_
      refine lv_iload hx hb dL_enters_167 (lv_at hl 0 rfl) ?_
      refine mi_mul hx hb dL_enters_169 ?_
      refine lv_iconst (v := nI 1) hx hb dL_enters_170 (by decide) ?_
      refine mi_add hx hb dL_enters_171 ?_
      refine lv_iload hx hb dL_enters_172 (lv_at hl 8 rfl) ?_
      refine ex_iast M w (hB 8 (by decide)) (sh_8 cy ad) (v := f) (by omega) (by decide) dL_enters_174 (fun H locs w => ?_)
      refine lv_aload_n hx hb dL_enters_175 rfl (lv_at hl 4 rfl) ?_
      refine lv_iconst (v := nI 5) hx hb dL_enters_176 (by decide) ?_
      refine lv_iload hx hb dL_enters_177 (lv_at hl 0 rfl) ?_
      refine mi_mul hx hb dL_enters_179 ?_
      refine lv_iconst (v := nI 2) hx hb dL_enters_180 (by decide) ?_
      refine mi_add hx hb dL_enters_181 ?_
      refine lv_iload hx hb dL_enters_182 (lv_at hl 9 rfl) ?_
      refine ex_iast M w (hB 8 (by decide)) (sh_8 cy ad) (v := t) (by omega) (by decide) dL_enters_184 (fun H locs w => ?_)
      refine lv_aload_n hx hb dL_enters_185 rfl (lv_at hl 4 rfl) ?_
      refine lv_iconst (v := nI 5) hx hb dL_enters_186 (by decide) ?_
      refine lv_iload hx hb dL_enters_187 (lv_at hl 0 rfl) ?_
      refine mi_mul hx hb dL_enters_189 ?_
      refine lv_iconst (v := nI 3) hx hb dL_enters_190 (by decide) ?_
      refine mi_add hx hb dL_enters_191 ?_
      refine lv_iload hx hb dL_enters_192 (lv_at hl 10 rfl) ?_
      refine mi_if_eq hx hb (by omega) 201 dL_enters_194 (by decide) (fun h194 => ?_) (fun h194 => ?_)
      · refine lv_iconst (v := nI 0) hx hb dL_enters_201 (by decide) ?_
        refine ex_iast M w (hB 8 (by decide)) (sh_8 cy ad) (v := 0) (by omega) (by decide) dL_enters_202 (fun H locs w => ?_)
        obtain rfl : hg9 = 0 := by omega
        refine lv_aload_n hx hb dL_enters_203 rfl (lv_at hl 4 rfl) ?_
        refine lv_iconst (v := nI 5) hx hb dL_enters_204 (by decide) ?_
        refine lv_iload hx hb dL_enters_205 (lv_at hl 0 rfl) ?_
        refine mi_mul hx hb dL_enters_207 ?_
        refine lv_iconst (v := nI 4) hx hb dL_enters_208 (by decide) ?_
        refine mi_add hx hb dL_enters_209 ?_
        refine lv_iconst (v := nI 0) hx hb dL_enters_210 (by decide) ?_
        refine ex_iast M w (hB 8 (by decide)) (sh_8 cy ad) (v := 0) (by omega) (by decide) dL_enters_211 (fun H locs w => ?_)
        refine lv_aload hx hb dL_enters_212 (lv_at hl 6 rfl) ?_
        refine lv_iconst (v := nI 2) hx hb dL_enters_214 (by decide) ?_
        refine lv_dup2_11 hx hb dL_enters_215 rfl rfl ?_
        refine ex_iald M w (hB 6 (by decide)) (sh_6 cy ad) (by omega) (by decide) ((es_ne _ _ (by first | omega | (unfold PB; omega) | (unfold RB; omega) | (unfold PB RB; omega))).trans ((es_ne _ _ (by first | omega | (unfold PB; omega) | (unfold RB; omega) | (unfold PB RB; omega))).trans ((es_ne _ _ (by first | omega | (unfold PB; omega) | (unfold RB; omega) | (unfold PB RB; omega))).trans ((es_ne _ _ (by first | omega | (unfold PB; omega) | (unfold RB; omega) | (unfold PB RB; omega))).trans ((es_ne _ _ (by first | omega | (unfold PB; omega) | (unfold RB; omega) | (unfold PB RB; omega))).trans (rV_q2 e)))))) dL_enters_216 ?_
        refine lv_iconst (v := nI 1) hx hb dL_enters_217 (by decide) ?_
        refine mi_add hx hb dL_enters_218 ?_
        refine ex_iast M w (hB 6 (by decide)) (sh_6 cy ad) (v := ((VV e 7 9) + 1)) (by omega) (by decide) dL_enters_219 (fun H locs w => ?_)
        obtain ⟨e1, he1⟩ : ∃ z, z = rqL e (VV e 7 9) j7 f t 0 := ⟨_, rfl⟩
        rw [show (es (es (es (es (es (es e 8 (5 * (VV e 7 9)) j7) 8 ((5 * (VV e 7 9)) + 1) f) 8 ((5 * (VV e 7 9)) + 2) t) 8 ((5 * (VV e 7 9)) + 3) 0) 8 ((5 * (VV e 7 9)) + 4) 0) 6 2 ((VV e 7 9) + 1)) = e1 from he1.symm] at w
        have o1 : OffR e e1 := by rw [he1]; exact OffR_rq _ _ _ _ _ _
        have hIx := IV_rq (k := j7) (f := f) (t := t) (h := 0) hI q7 ⟨hf.1, ht.1, by omega⟩ (by decide) (by omega)
        rw [← he1] at hIx
        have hn1 : e1 0 3 = VV e 7 9 := by rw [o1.z, hI.n3]; rfl
        have hc9 := reqC_0 e1 j7 f t 0
        refine lv_iload hx hb dL_enters_220 (lv_at hl 0 rfl) ?_
        refine mi_if_lt hx hb (by omega) 243 dL_enters_222 (by decide) (fun h => h.elim) (fun _ => ?_)
        refine lv_aload_n hx hb dL_enters_225 rfl (lv_at hl 1 rfl) ?_
        refine lv_iconst (v := nI 0) hx hb dL_enters_226 (by decide) ?_
        refine lv_iload hx hb dL_enters_227 (lv_at hl 7 rfl) ?_
        refine lv_iload hx hb dL_enters_229 (lv_at hl 8 rfl) ?_
        refine lv_iload hx hb dL_enters_231 (lv_at hl 9 rfl) ?_
        refine lv_iload hx hb dL_enters_233 (lv_at hl 10 rfl) ?_
        refine mxw_SW M w Th hNC (kL_calls0 l hfl D cy C ad e1 H.size j7 f t 0 hB (o1.cc hCC) (hI.1.fr o1.xf) ⟨⟨by rw [o1.z, hI.n1]; exact q7, by rw [o1.P0, hI.pb q7]; exact hf.1, ht.1, by omega⟩, by omega⟩ (by omega) (by decide)) (vx_cwSW 6 M.1.2.2.2.2 gL_enters_L_calls rfl rfl rfl (by decide +kernel) ⟨Nat.le_of_ble_eq_true rfl, Nat.le_of_ble_eq_true rfl⟩) rfl hl.1 rfl (Nat.le_of_ble_eq_true rfl) dL_enters_235 ⟨by decide, by decide⟩ (fun r235 u1 H locs hp1 w => ?_)
        obtain ⟨rfl, ad1, had, rfl⟩ := hp1
        rw [hn1]
        refine lv_iload hx hb dL_enters_238 (lv_at hl 0 rfl) ?_
        refine lv_icmp_ne (tgt := 247) hx hb dL_enters_240 (by decide) (fun h => absurd rfl h) (fun h240 => ?_)
        refine lv_iconst (v := nI 1) hx hb dL_enters_243 (by decide) ?_
        refine lv_goto (tgt := 248) hx hb dL_enters_244 (by decide) ?_
        exact mx_zret M w hr (v := (nI 1)) (by first | exact Or.inl rfl | exact Or.inr rfl) ⟨rfl, _, ad1, _, had, rfl, hIx, by rw [hc9.1, hc9.2]; exact (o1.cc hCC).addR, by rw [reqC_mid _ _ _ _ _ 6 (by decide) (by decide), he1]; unfold rqL; simp [es]⟩ (by decide) (by decide) dL_enters_248
      · refine lv_iconst (v := nI 1) hx hb dL_enters_197 (by decide) ?_
        refine lv_goto (tgt := 202) hx hb dL_enters_198 (by decide) ?_
        refine ex_iast M w (hB 8 (by decide)) (sh_8 cy ad) (v := 1) (by omega) (by decide) dL_enters_202 (fun H locs w => ?_)
        obtain rfl : hg9 = 1 := by omega
        refine lv_aload_n hx hb dL_enters_203 rfl (lv_at hl 4 rfl) ?_
        refine lv_iconst (v := nI 5) hx hb dL_enters_204 (by decide) ?_
        refine lv_iload hx hb dL_enters_205 (lv_at hl 0 rfl) ?_
        refine mi_mul hx hb dL_enters_207 ?_
        refine lv_iconst (v := nI 4) hx hb dL_enters_208 (by decide) ?_
        refine mi_add hx hb dL_enters_209 ?_
        refine lv_iconst (v := nI 0) hx hb dL_enters_210 (by decide) ?_
        refine ex_iast M w (hB 8 (by decide)) (sh_8 cy ad) (v := 0) (by omega) (by decide) dL_enters_211 (fun H locs w => ?_)
        refine lv_aload hx hb dL_enters_212 (lv_at hl 6 rfl) ?_
        refine lv_iconst (v := nI 2) hx hb dL_enters_214 (by decide) ?_
        refine lv_dup2_11 hx hb dL_enters_215 rfl rfl ?_
        refine ex_iald M w (hB 6 (by decide)) (sh_6 cy ad) (by omega) (by decide) ((es_ne _ _ (by first | omega | (unfold PB; omega) | (unfold RB; omega) | (unfold PB RB; omega))).trans ((es_ne _ _ (by first | omega | (unfold PB; omega) | (unfold RB; omega) | (unfold PB RB; omega))).trans ((es_ne _ _ (by first | omega | (unfold PB; omega) | (unfold RB; omega) | (unfold PB RB; omega))).trans ((es_ne _ _ (by first | omega | (unfold PB; omega) | (unfold RB; omega) | (unfold PB RB; omega))).trans ((es_ne _ _ (by first | omega | (unfold PB; omega) | (unfold RB; omega) | (unfold PB RB; omega))).trans (rV_q2 e)))))) dL_enters_216 ?_
        refine lv_iconst (v := nI 1) hx hb dL_enters_217 (by decide) ?_
        refine mi_add hx hb dL_enters_218 ?_
        refine ex_iast M w (hB 6 (by decide)) (sh_6 cy ad) (v := ((VV e 7 9) + 1)) (by omega) (by decide) dL_enters_219 (fun H locs w => ?_)
        obtain ⟨e1, he1⟩ : ∃ z, z = rqL e (VV e 7 9) j7 f t 1 := ⟨_, rfl⟩
        rw [show (es (es (es (es (es (es e 8 (5 * (VV e 7 9)) j7) 8 ((5 * (VV e 7 9)) + 1) f) 8 ((5 * (VV e 7 9)) + 2) t) 8 ((5 * (VV e 7 9)) + 3) 1) 8 ((5 * (VV e 7 9)) + 4) 0) 6 2 ((VV e 7 9) + 1)) = e1 from he1.symm] at w
        have o1 : OffR e e1 := by rw [he1]; exact OffR_rq _ _ _ _ _ _
        have hIx := IV_rq (k := j7) (f := f) (t := t) (h := 1) hI q7 ⟨hf.1, ht.1, by omega⟩ (by decide) (by omega)
        rw [← he1] at hIx
        have hn1 : e1 0 3 = VV e 7 9 := by rw [o1.z, hI.n3]; rfl
        have hc9 := reqC_0 e1 j7 f t 1
        refine lv_iload hx hb dL_enters_220 (lv_at hl 0 rfl) ?_
        refine mi_if_lt hx hb (by omega) 243 dL_enters_222 (by decide) (fun h => h.elim) (fun _ => ?_)
        refine lv_aload_n hx hb dL_enters_225 rfl (lv_at hl 1 rfl) ?_
        refine lv_iconst (v := nI 0) hx hb dL_enters_226 (by decide) ?_
        refine lv_iload hx hb dL_enters_227 (lv_at hl 7 rfl) ?_
        refine lv_iload hx hb dL_enters_229 (lv_at hl 8 rfl) ?_
        refine lv_iload hx hb dL_enters_231 (lv_at hl 9 rfl) ?_
        refine lv_iload hx hb dL_enters_233 (lv_at hl 10 rfl) ?_
        refine mxw_SW M w Th hNC (kL_calls0 l hfl D cy C ad e1 H.size j7 f t 1 hB (o1.cc hCC) (hI.1.fr o1.xf) ⟨⟨by rw [o1.z, hI.n1]; exact q7, by rw [o1.P0, hI.pb q7]; exact hf.1, ht.1, by omega⟩, by omega⟩ (by omega) (by decide)) (vx_cwSW 6 M.1.2.2.2.2 gL_enters_L_calls rfl rfl rfl (by decide +kernel) ⟨Nat.le_of_ble_eq_true rfl, Nat.le_of_ble_eq_true rfl⟩) rfl hl.1 rfl (Nat.le_of_ble_eq_true rfl) dL_enters_235 ⟨by decide, by decide⟩ (fun r235 u1 H locs hp1 w => ?_)
        obtain ⟨rfl, ad1, had, rfl⟩ := hp1
        rw [hn1]
        refine lv_iload hx hb dL_enters_238 (lv_at hl 0 rfl) ?_
        refine lv_icmp_ne (tgt := 247) hx hb dL_enters_240 (by decide) (fun h => absurd rfl h) (fun h240 => ?_)
        refine lv_iconst (v := nI 1) hx hb dL_enters_243 (by decide) ?_
        refine lv_goto (tgt := 248) hx hb dL_enters_244 (by decide) ?_
        exact mx_zret M w hr (v := (nI 1)) (by first | exact Or.inl rfl | exact Or.inr rfl) ⟨rfl, _, ad1, _, had, rfl, hIx, by rw [hc9.1, hc9.2]; exact (o1.cc hCC).addR, by rw [reqC_mid _ _ _ _ _ 6 (by decide) (by decide), he1]; unfold rqL; simp [es]⟩ (by decide) (by decide) dL_enters_248
    · refine lv_bipush (v := (-5)) hx hb dL_enters_141 (by decide) ?_
      refine lv_goto (tgt := 150) hx hb dL_enters_143 (by decide) ?_
      refine lv_istore (lv' := [(11, .int (-5)), (0, .ref (ad 0)), (1, .int z), (2, .ref (ad 7)), (3, .ref (ad 8)), (4, .ref (ad 9)), (5, .ref (ad 6)), (6, .int (nI j7)), (7, .int (nI f)), (8, .int (nI t)), (10, .int (nI hg9))]) hx hb dL_enters_150 hl (by decide) rfl (fun ls hl => ?_)
      refine lv_iload hx hb dL_enters_152 (lv_at hl 0 rfl) ?_
      refine lv_if_lt (tgt := 220) hx hb dL_enters_154 (by decide) (fun h154 => ?_) (fun h => absurd (by decide) h)
      refine lv_iload hx hb dL_enters_220 (lv_at hl 0 rfl) ?_
      refine lv_if_lt (tgt := 243) hx hb dL_enters_222 (by decide) (fun h222 => ?_) (fun h => absurd (by decide) h)
      refine lv_iconst (v := nI 1) hx hb dL_enters_243 (by decide) ?_
      refine lv_goto (tgt := 248) hx hb dL_enters_244 (by decide) ?_
      exact mx_zret M w hr (v := (nI 1)) (by first | exact Or.inl rfl | exact Or.inr rfl) ⟨rfl, ST_in hI hCC rfl⟩ (by decide) (by decide) dL_enters_248
  have cut100 : ∀ (j7 f t : Nat) (q7 : j7 < VV e 7 2) (hf : VV e 8 j7 ≤ f ∧ f ≤ 1800) (ht : f ≤ t ∧ t ≤ 1860) (H : Heap) (locs : List Loc), MO D (AW (C, ad, G cy ad e) sz) s.heap (C, ad, G cy ad e) H locs → ∀ (ls : Array Slot), lv_has ls 13 [(0, .ref (ad 0)), (1, .int z), (2, .ref (ad 7)), (3, .ref (ad 8)), (4, .ref (ad 9)), (5, .ref (ad 6)), (6, .int (nI j7)), (7, .int (nI f)), (8, .int (nI t))] → W p9 l e9 ({ frames := 9, cells := 4, slots := 24, locals := 157 } : Room) s m args below meth c H locs 0 0 (MQ below (va_Qi (fun (r : Int32) (u : WT) => r = nI 1 ∧ ST cy C ad e u) (WB D cy (AW (C, ad, G cy ad e) sz)) (AW (C, ad, G cy ad e) sz)) args s 4 24 (AW (C, ad, G cy ad e) sz)) (F0 m 100 ls []) := by
    intro j7 f t q7 hf ht H locs w ls hl
    have hp7 : j7 < 2 := hI.two q7
    have h87 := hI.p8 q7
    refine lv_iload_n hx hb dL_enters_100 rfl (lv_at hl 1 rfl) ?_
    refine lv_bipush (v := nI 9) hx hb dL_enters_101 (by decide) ?_
    refine mx_Si M w (kL_low l D cy C ad e H.size z 9 (by omega) (by omega)) (va_cwS 2 M.1.2.2.2.2 gL_enters_L_low rfl rfl rfl (by decide +kernel) ⟨Nat.le_of_ble_eq_true rfl, Nat.le_of_ble_eq_true rfl⟩) rfl hl.1 rfl (Nat.le_of_ble_eq_true rfl) dL_enters_103 ⟨by decide, by decide⟩ (fun r103 u1 H locs hp1 w => ?_)
    obtain ⟨j103, ⟨q103, rfl⟩, rfl⟩ := hp1
    refine lv_istore (lv' := [(9, .int (nI j103)), (0, .ref (ad 0)), (1, .int z), (2, .ref (ad 7)), (3, .ref (ad 8)), (4, .ref (ad 9)), (5, .ref (ad 6)), (6, .int (nI j7)), (7, .int (nI f)), (8, .int (nI t))]) hx hb dL_enters_106 hl (by decide) rfl (fun ls hl => ?_)
    refine lv_iload hx hb dL_enters_108 (lv_at hl 0 rfl) ?_
    refine lv_iconst (v := nI 4) hx hb dL_enters_110 (by decide) ?_
    refine mi_ge hx hb (by omega) (by decide) 249 dL_enters_111 (by decide) (fun h111 => ?_) (fun h111 => ?_)
    · refine lv_aload hx hb dL_enters_249 (lv_at hl 6 rfl) ?_
      refine lv_iconst (v := nI 2) hx hb dL_enters_251 (by decide) ?_
      refine ex_iald M w (hB 6 (by decide)) (sh_6 cy ad) (by omega) (by decide) (rV_q2 e) dL_enters_252 ?_
      refine mi_if_ne hx hb (by omega) 260 dL_enters_253 (by decide) (fun h253 => ?_) (fun h253 => ?_)
      · refine lv_iload_n hx hb dL_enters_260 rfl (lv_at hl 2 rfl) ?_
        refine lv_bipush (v := nI 11) hx hb dL_enters_261 (by decide) ?_
        refine lv_ishr hx hb dL_enters_263 ?_
        refine lv_aload hx hb dL_enters_264 (lv_at hl 6 rfl) ?_
        refine lv_iconst (v := nI 2) hx hb dL_enters_266 (by decide) ?_
        refine ex_iald M w (hB 6 (by decide)) (sh_6 cy ad) (by omega) (by decide) (rV_q2 e) dL_enters_267 ?_
        refine mx_Si M w (kL_low l D cy C ad e H.size (z >>> ((nI 11) &&& 31)) (VV e 7 9) (by omega) (by omega)) (va_cwS 2 M.1.2.2.2.2 gL_enters_L_low rfl rfl rfl (by decide +kernel) ⟨Nat.le_of_ble_eq_true rfl, Nat.le_of_ble_eq_true rfl⟩) rfl hl.1 rfl (Nat.le_of_ble_eq_true rfl) dL_enters_268 ⟨by decide, by decide⟩ (fun r268 u1 H locs hp1 w => ?_)
        obtain ⟨j268, ⟨q268, rfl⟩, rfl⟩ := hp1
        refine lv_istore (lv' := [(10, .int (nI j268)), (9, .int (nI j103)), (0, .ref (ad 0)), (1, .int z), (2, .ref (ad 7)), (3, .ref (ad 8)), (4, .ref (ad 9)), (5, .ref (ad 6)), (6, .int (nI j7)), (7, .int (nI f)), (8, .int (nI t))]) hx hb dL_enters_271 hl (by decide) rfl (fun ls hl => ?_)
        refine lv_iload hx hb dL_enters_273 (lv_at hl 1 rfl) ?_
        refine lv_bipush (v := nI 6) hx hb dL_enters_275 (by decide) ?_
        refine mi_ge hx hb (by omega) (by decide) 403 dL_enters_277 (by decide) (fun h277 => ?_) (fun h277 => ?_)
        · refine lv_iload hx hb dL_enters_403 (lv_at hl 1 rfl) ?_
          refine lv_bipush (v := nI 6) hx hb dL_enters_405 (by decide) ?_
          refine mi_ne hx hb (by omega) (by decide) 461 dL_enters_407 (by decide) (fun h407 => ?_) (fun h407 => ?_)
          · exact cut461 _ _ _ q7 hf ht  _ _ w ls (lv_sub hl [2, 3, 4, 5, 6, 7, 8, 9, 10] rfl)
          · refine lv_iload hx hb dL_enters_410 (lv_at hl 0 rfl) ?_
            refine mi_if_lt hx hb (by omega) 461 dL_enters_412 (by decide) (fun h => h.elim) (fun _ => ?_)
            have hw14 := (hI.qr q268).2
            have hp14 : VV e 14 j268 < 2 := hI.two hw14
            obtain ⟨m1, m2, m3, m4, m5⟩ := hI.mr q268
            refine lv_aload_n hx hb dL_enters_415 rfl (lv_at hl 5 rfl) ?_
            refine lv_iconst (v := nI 5) hx hb dL_enters_416 (by decide) ?_
            refine lv_iload hx hb dL_enters_417 (lv_at hl 0 rfl) ?_
            refine mi_mul hx hb dL_enters_419 ?_
            refine lv_iconst (v := nI 4) hx hb dL_enters_420 (by decide) ?_
            refine mi_add hx hb dL_enters_421 ?_
            refine ex_iald M w (hB 8 (by decide)) (sh_8 cy ad) (by omega) (by decide) (rV_18 e j268) dL_enters_422 ?_
            refine lv_iconst (v := nI 1) hx hb dL_enters_423 (by decide) ?_
            refine mi_ne hx hb (by omega) (by decide) 432 dL_enters_424 (by decide) (fun h424 => ?_) (fun h424 => ?_)
            · refine lv_iconst (v := nI 0) hx hb dL_enters_432 (by decide) ?_
              refine lv_istore (lv' := [(11, .int (nI 0)), (10, .int (nI j268)), (9, .int (nI j103)), (0, .ref (ad 0)), (1, .int z), (2, .ref (ad 7)), (3, .ref (ad 8)), (4, .ref (ad 9)), (5, .ref (ad 6)), (6, .int (nI j7)), (7, .int (nI f)), (8, .int (nI t))]) hx hb dL_enters_433 hl (by decide) rfl (fun ls hl => ?_)
              refine lv_aload_n hx hb dL_enters_435 rfl (lv_at hl 6 rfl) ?_
              refine lv_iconst (v := nI 5) hx hb dL_enters_436 (by decide) ?_
              refine lv_iload hx hb dL_enters_437 (lv_at hl 1 rfl) ?_
              refine mi_mul hx hb dL_enters_439 ?_
              refine lv_iconst (v := nI 4) hx hb dL_enters_440 (by decide) ?_
              refine mi_add hx hb dL_enters_441 ?_
              refine lv_iconst (v := nI 1) hx hb dL_enters_442 (by decide) ?_
              refine ex_iast M w (hB 8 (by decide)) (sh_8 cy ad) (v := 1) (by omega) (by decide) dL_enters_443 (fun H locs w => ?_)
              obtain ⟨e1, he1⟩ : ∃ z, z = cnL e j268 := ⟨_, rfl⟩
              rw [show (es e 8 ((5 * j268) + 4) 1) = e1 from he1.symm] at w
              have o1 : OffR e e1 := by rw [he1]; exact OffR_cn _ _
              have hIx := IV_cn (k := j268) hI q268
              rw [← he1] at hIx
              have qr := hI.qx o1.xf q268
              have hCx : CC (cnC e1 j268 0 1) (cnC e1 j268 0 3) C := by rw [cnC_0]; exact o1.cc hCC
              have h6x : cnC e1 j268 6 1 = e 6 1 := by rw [cnC_mid _ _ 6 (by decide) (by decide), he1]; unfold cnL; rw [es_off _ _ _ (by decide)]
              refine lv_aload_n hx hb dL_enters_444 rfl (lv_at hl 3 rfl) ?_
              refine lv_iload hx hb dL_enters_445 (lv_at hl 1 rfl) ?_
              refine mxw_SW M w Th hNC (kL_cancels l hfl D cy C ad e1 H.size j268 hB (o1.cc hCC) (hI.1.fr o1.xf) (by rw [o1.z, hI.n3]; exact q268) (by omega)) (vx_cwSW 2 M.1.2.2.2.2 gL_enters_L_cancels rfl rfl rfl (by decide +kernel) ⟨Nat.le_of_ble_eq_true rfl, Nat.le_of_ble_eq_true rfl⟩) rfl hl.1 rfl (Nat.le_of_ble_eq_true rfl) dL_enters_447 ⟨by decide, by decide⟩ (fun r447 u1 H locs hp1 w => ?_)
              obtain ⟨_, rfl, rfl⟩ := hp1.resolve_left (fun z => z.1 (by rw [qr.2.2.2.2.1]; omega))
              refine lv_iload hx hb dL_enters_450 (lv_at hl 0 rfl) ?_
              refine lv_icmp_ne (tgt := 459) hx hb dL_enters_452 (by decide) (fun h => absurd rfl h) (fun h452 => ?_)
              refine lv_iconst (v := nI 1) hx hb dL_enters_455 (by decide) ?_
              refine lv_goto (tgt := 460) hx hb dL_enters_456 (by decide) ?_
              exact mx_zret M w hr (v := (nI 1)) (by first | exact Or.inl rfl | exact Or.inr rfl) ⟨rfl, ST_in hIx hCx h6x⟩ (by decide) (by decide) dL_enters_460
            · refine lv_bipush (v := (-3)) hx hb dL_enters_427 (by decide) ?_
              refine lv_goto (tgt := 433) hx hb dL_enters_429 (by decide) ?_
              refine lv_istore (lv' := [(11, .int (-3)), (10, .int (nI j268)), (9, .int (nI j103)), (0, .ref (ad 0)), (1, .int z), (2, .ref (ad 7)), (3, .ref (ad 8)), (4, .ref (ad 9)), (5, .ref (ad 6)), (6, .int (nI j7)), (7, .int (nI f)), (8, .int (nI t))]) hx hb dL_enters_433 hl (by decide) rfl (fun ls hl => ?_)
              refine lv_aload_n hx hb dL_enters_435 rfl (lv_at hl 6 rfl) ?_
              refine lv_iconst (v := nI 5) hx hb dL_enters_436 (by decide) ?_
              refine lv_iload hx hb dL_enters_437 (lv_at hl 1 rfl) ?_
              refine mi_mul hx hb dL_enters_439 ?_
              refine lv_iconst (v := nI 4) hx hb dL_enters_440 (by decide) ?_
              refine mi_add hx hb dL_enters_441 ?_
              refine lv_iconst (v := nI 1) hx hb dL_enters_442 (by decide) ?_
              refine ex_iast M w (hB 8 (by decide)) (sh_8 cy ad) (v := 1) (by omega) (by decide) dL_enters_443 (fun H locs w => ?_)
              have qr := (hI.qr q268).1
              have o1 : OffR e e := OffR.rf e
              rw [show (es e 8 ((5 * j268) + 4) 1) = e from cnL_same (by omega)] at w
              refine lv_aload_n hx hb dL_enters_444 rfl (lv_at hl 3 rfl) ?_
              refine lv_iload hx hb dL_enters_445 (lv_at hl 1 rfl) ?_
              refine mxw_SW M w Th hNC (kL_cancels l hfl D cy C ad e H.size j268 hB (o1.cc hCC) (hI.1.fr o1.xf) (by rw [o1.z, hI.n3]; exact q268) (by omega)) (vx_cwSW 2 M.1.2.2.2.2 gL_enters_L_cancels rfl rfl rfl (by decide +kernel) ⟨Nat.le_of_ble_eq_true rfl, Nat.le_of_ble_eq_true rfl⟩) rfl hl.1 rfl (Nat.le_of_ble_eq_true rfl) dL_enters_447 ⟨by decide, by decide⟩ (fun r447 u1 H locs hp1 w => ?_)
              obtain ⟨_, rfl, rfl⟩ := hp1.resolve_right (fun z => absurd z.1 (by rw [qr.2.2.2.2.1]; omega))
              refine lv_iload hx hb dL_enters_450 (lv_at hl 0 rfl) ?_
              refine lv_icmp_ne (tgt := 459) hx hb dL_enters_452 (by decide) (fun h => absurd rfl h) (fun h452 => ?_)
              refine lv_iconst (v := nI 1) hx hb dL_enters_455 (by decide) ?_
              refine lv_goto (tgt := 460) hx hb dL_enters_456 (by decide) ?_
              exact mx_zret M w hr (v := (nI 1)) (by first | exact Or.inl rfl | exact Or.inr rfl) ⟨rfl, ST_in hI hCC rfl⟩ (by decide) (by decide) dL_enters_460
        · refine lv_iload hx hb dL_enters_280 (lv_at hl 0 rfl) ?_
          refine mi_if_lt hx hb (by omega) 403 dL_enters_282 (by decide) (fun h => h.elim) (fun _ => ?_)
          have hw14 := (hI.qr q268).2
          have hp14 : VV e 14 j268 < 2 := hI.two hw14
          have h8w := hI.p8 hw14
          obtain ⟨m1, m2, m3, m4, m5⟩ := hI.mr q268
          have qle := (hI.qr q268).1.2.2.2.2.2
          refine lv_iload hx hb dL_enters_285 (lv_at hl 9 rfl) ?_
          refine lv_aload_n hx hb dL_enters_287 rfl (lv_at hl 4 rfl) ?_
          refine lv_iconst (v := nI 4) hx hb dL_enters_288 (by decide) ?_
          refine lv_aload_n hx hb dL_enters_289 rfl (lv_at hl 5 rfl) ?_
          refine lv_iconst (v := nI 5) hx hb dL_enters_290 (by decide) ?_
          refine lv_iload hx hb dL_enters_291 (lv_at hl 0 rfl) ?_
          refine mi_mul hx hb dL_enters_293 ?_
          refine ex_iald M w (hB 8 (by decide)) (sh_8 cy ad) (by omega) (by decide) (rV_14 e j268) dL_enters_294 ?_
          refine mi_mul hx hb dL_enters_295 ?_
          refine ex_iald M w (hB 7 (by decide)) (sh_7 cy ad) (by omega) (by decide) (rV_8 (e := e) hp14) dL_enters_296 ?_
          refine mi_lt hx hb (by omega) (by omega) 304 dL_enters_297 (by decide) (fun h297 => ?_) (fun h297 => ?_)
          · refine lv_iconst (v := nI 0) hx hb dL_enters_304 (by decide) ?_
            refine lv_istore (lv' := [(11, .int (nI 0)), (10, .int (nI j268)), (9, .int (nI j103)), (0, .ref (ad 0)), (1, .int z), (2, .ref (ad 7)), (3, .ref (ad 8)), (4, .ref (ad 9)), (5, .ref (ad 6)), (6, .int (nI j7)), (7, .int (nI f)), (8, .int (nI t))]) hx hb dL_enters_305 hl (by decide) rfl (fun ls hl => ?_)
            refine lv_iload hx hb dL_enters_307 (lv_at hl 0 rfl) ?_
            refine mi_if_ne hx hb (by decide) 317 dL_enters_309 (by decide) (fun h309 => absurd h309 (by first | decide | omega)) (fun h309 => ?_)
            refine lv_bipush (v := (-2)) hx hb dL_enters_312 (by decide) ?_
            refine lv_goto (tgt := 353) hx hb dL_enters_314 (by decide) ?_
            refine lv_istore (lv' := [(12, .int (-2)), (11, .int (nI 0)), (10, .int (nI j268)), (9, .int (nI j103)), (0, .ref (ad 0)), (1, .int z), (2, .ref (ad 7)), (3, .ref (ad 8)), (4, .ref (ad 9)), (5, .ref (ad 6)), (6, .int (nI j7)), (7, .int (nI f)), (8, .int (nI t))]) hx hb dL_enters_353 hl (by decide) rfl (fun ls hl => ?_)
            refine lv_iload hx hb dL_enters_355 (lv_at hl 0 rfl) ?_
            refine lv_if_le (tgt := 380) hx hb dL_enters_357 (by decide) (fun h357 => ?_) (fun h => absurd (by decide) h)
            have qr := (hI.qr q268).1
            have o1 : OffR e e := OffR.rf e
            have f14 : e (PB (e (RB j268) 0)) 0 = VV e 8 (VV e 14 j268) := by rw [qr.1]; exact hI.pb hw14
            refine lv_aload_n hx hb dL_enters_380 rfl (lv_at hl 4 rfl) ?_
            refine lv_iconst (v := nI 1) hx hb dL_enters_381 (by decide) ?_
            refine lv_iload hx hb dL_enters_382 (lv_at hl 2 rfl) ?_
            refine lv_iload hx hb dL_enters_384 (lv_at hl 11 rfl) ?_
            refine lv_iload hx hb dL_enters_386 (lv_at hl 12 rfl) ?_
            refine lv_iconst (v := nI 0) hx hb dL_enters_388 (by decide) ?_
            refine mxw_SW M w Th hNC (kL_calls1 l hfl D cy C ad e H.size j268 f t 0 hB (o1.cc hCC) (hI.1.fr o1.xf) (by rw [o1.z, hI.n3]; exact q268) (by omega) (by omega) (by omega)) (vx_cwSW 6 M.1.2.2.2.2 gL_enters_L_calls rfl rfl rfl (by decide +kernel) ⟨Nat.le_of_ble_eq_true rfl, Nat.le_of_ble_eq_true rfl⟩) rfl hl.1 rfl (Nat.le_of_ble_eq_true rfl) dL_enters_389 ⟨by decide, by decide⟩ (fun r389 u1 H locs hp1 w => ?_)
            obtain ⟨_, rfl, rfl⟩ : _ ∧ _ ∧ _ := hp1.elim id (fun z => z.elim (fun y => absurd y.1 (by rw [f14]; omega)) (fun y => absurd y.1.1 (by rw [f14]; omega)))
            refine lv_iload hx hb dL_enters_392 (lv_at hl 0 rfl) ?_
            refine lv_icmp_ne (tgt := 401) hx hb dL_enters_394 (by decide) (fun h => absurd rfl h) (fun h394 => ?_)
            refine lv_iconst (v := nI 1) hx hb dL_enters_397 (by decide) ?_
            refine lv_goto (tgt := 402) hx hb dL_enters_398 (by decide) ?_
            exact mx_zret M w hr (v := (nI 1)) (by first | exact Or.inl rfl | exact Or.inr rfl) ⟨rfl, ST_in hI hCC rfl⟩ (by decide) (by decide) dL_enters_402
          · refine lv_iconst (v := nI 1) hx hb dL_enters_300 (by decide) ?_
            refine lv_goto (tgt := 305) hx hb dL_enters_301 (by decide) ?_
            refine lv_istore (lv' := [(11, .int (nI 1)), (10, .int (nI j268)), (9, .int (nI j103)), (0, .ref (ad 0)), (1, .int z), (2, .ref (ad 7)), (3, .ref (ad 8)), (4, .ref (ad 9)), (5, .ref (ad 6)), (6, .int (nI j7)), (7, .int (nI f)), (8, .int (nI t))]) hx hb dL_enters_305 hl (by decide) rfl (fun ls hl => ?_)
            refine lv_iload hx hb dL_enters_307 (lv_at hl 0 rfl) ?_
            refine mi_if_ne hx hb (by decide) 317 dL_enters_309 (by decide) (fun h309 => ?_) (fun h309 => absurd h309 (by first | decide | omega))
            refine lv_aload_n hx hb dL_enters_317 rfl (lv_at hl 6 rfl) ?_
            refine lv_iconst (v := nI 5) hx hb dL_enters_318 (by decide) ?_
            refine lv_iload hx hb dL_enters_319 (lv_at hl 1 rfl) ?_
            refine mi_mul hx hb dL_enters_321 ?_
            refine lv_iconst (v := nI 4) hx hb dL_enters_322 (by decide) ?_
            refine mi_add hx hb dL_enters_323 ?_
            refine ex_iald M w (hB 8 (by decide)) (sh_8 cy ad) (by omega) (by decide) (rV_18 e j268) dL_enters_324 ?_
            refine lv_iconst (v := nI 1) hx hb dL_enters_325 (by decide) ?_
            refine mi_ne hx hb (by omega) (by decide) 334 dL_enters_326 (by decide) (fun h326 => ?_) (fun h326 => ?_)
            · refine lv_aload_n hx hb dL_enters_334 rfl (lv_at hl 6 rfl) ?_
              refine lv_iconst (v := nI 5) hx hb dL_enters_335 (by decide) ?_
              refine lv_iload hx hb dL_enters_336 (lv_at hl 1 rfl) ?_
              refine mi_mul hx hb dL_enters_338 ?_
              refine lv_iconst (v := nI 2) hx hb dL_enters_339 (by decide) ?_
              refine mi_add hx hb dL_enters_340 ?_
              refine ex_iald M w (hB 8 (by decide)) (sh_8 cy ad) (by omega) (by decide) (rV_16 e j268) dL_enters_341 ?_
              refine lv_aload_n hx hb dL_enters_342 rfl (lv_at hl 6 rfl) ?_
              refine lv_iconst (v := nI 5) hx hb dL_enters_343 (by decide) ?_
              refine lv_iload hx hb dL_enters_344 (lv_at hl 1 rfl) ?_
              refine mi_mul hx hb dL_enters_346 ?_
              refine lv_iconst (v := nI 1) hx hb dL_enters_347 (by decide) ?_
              refine mi_add hx hb dL_enters_348 ?_
              refine ex_iald M w (hB 8 (by decide)) (sh_8 cy ad) (by omega) (by decide) (rV_15 e j268) dL_enters_349 ?_
              refine mi_sub hx hb (by omega) dL_enters_350 ?_
              refine lv_iconst (v := nI 1) hx hb dL_enters_351 (by decide) ?_
              refine mi_add hx hb dL_enters_352 ?_
              refine lv_istore (lv' := [(12, .int (nI (((VV e 16 j268) - (VV e 15 j268)) + 1))), (11, .int (nI 1)), (10, .int (nI j268)), (9, .int (nI j103)), (0, .ref (ad 0)), (1, .int z), (2, .ref (ad 7)), (3, .ref (ad 8)), (4, .ref (ad 9)), (5, .ref (ad 6)), (6, .int (nI j7)), (7, .int (nI f)), (8, .int (nI t))]) hx hb dL_enters_353 hl (by decide) rfl (fun ls hl => ?_)
              refine lv_iload hx hb dL_enters_355 (lv_at hl 0 rfl) ?_
              refine mi_if_le hx hb (by omega) 380 dL_enters_357 (by decide) (fun h => by omega) (fun h357 => ?_)
              refine lv_aload_n hx hb dL_enters_360 rfl (lv_at hl 7 rfl) ?_
              refine lv_iconst (v := nI 5) hx hb dL_enters_361 (by decide) ?_
              refine lv_iload hx hb dL_enters_362 (lv_at hl 2 rfl) ?_
              refine mi_mul hx hb dL_enters_364 ?_
              refine lv_iconst (v := nI 1) hx hb dL_enters_365 (by decide) ?_
              refine mi_add hx hb dL_enters_366 ?_
              refine lv_iload hx hb dL_enters_367 (lv_at hl 11 rfl) ?_
              refine ex_iast M w (hB 8 (by decide)) (sh_8 cy ad) (v := f) (by omega) (by decide) dL_enters_369 (fun H locs w => ?_)
              refine lv_aload_n hx hb dL_enters_370 rfl (lv_at hl 7 rfl) ?_
              refine lv_iconst (v := nI 5) hx hb dL_enters_371 (by decide) ?_
              refine lv_iload hx hb dL_enters_372 (lv_at hl 2 rfl) ?_
              refine mi_mul hx hb dL_enters_374 ?_
              refine lv_iconst (v := nI 2) hx hb dL_enters_375 (by decide) ?_
              refine mi_add hx hb dL_enters_376 ?_
              refine lv_iload hx hb dL_enters_377 (lv_at hl 12 rfl) ?_
              refine ex_iast M w (hB 8 (by decide)) (sh_8 cy ad) (v := t) (by omega) (by decide) dL_enters_379 (fun H locs w => ?_)
              obtain ⟨e1, he1⟩ : ∃ z, z = chL e j268 f t := ⟨_, rfl⟩
              rw [show (es (es e 8 ((5 * j268) + 1) f) 8 ((5 * j268) + 2) t) = e1 from he1.symm] at w
              have o1 : OffR e e1 := by rw [he1]; exact OffR_ch _ _ _ _
              have hIx := IV_ch (k := j268) (f := f) (t := t) hI q268 ⟨by omega, ht.1, by omega⟩
              rw [← he1] at hIx
              have qr := hI.qx o1.xf q268
              have f14 : e1 (PB (e1 (RB j268) 0)) 0 = VV e 8 (VV e 14 j268) := by rw [qr.1, o1.P0]; exact hI.pb hw14
              have hCx : CC (chC e1 j268 f t 0 1) (chC e1 j268 f t 0 3) C := by rw [chC_0]; exact o1.cc hCC
              have h6x : chC e1 j268 f t 6 1 = e 6 1 := by rw [chC_mid _ _ _ _ 6 (by decide) (by decide), he1]; unfold chL; rw [es_off _ _ _ (by decide), es_off _ _ _ (by decide)]
              refine lv_aload_n hx hb dL_enters_380 rfl (lv_at hl 4 rfl) ?_
              refine lv_iconst (v := nI 1) hx hb dL_enters_381 (by decide) ?_
              refine lv_iload hx hb dL_enters_382 (lv_at hl 2 rfl) ?_
              refine lv_iload hx hb dL_enters_384 (lv_at hl 11 rfl) ?_
              refine lv_iload hx hb dL_enters_386 (lv_at hl 12 rfl) ?_
              refine lv_iconst (v := nI 0) hx hb dL_enters_388 (by decide) ?_
              refine mxw_SW M w Th hNC (kL_calls1 l hfl D cy C ad e1 H.size j268 f t 0 hB (o1.cc hCC) (hI.1.fr o1.xf) (by rw [o1.z, hI.n3]; exact q268) (by omega) (by omega) (by omega)) (vx_cwSW 6 M.1.2.2.2.2 gL_enters_L_calls rfl rfl rfl (by decide +kernel) ⟨Nat.le_of_ble_eq_true rfl, Nat.le_of_ble_eq_true rfl⟩) rfl hl.1 rfl (Nat.le_of_ble_eq_true rfl) dL_enters_389 ⟨by decide, by decide⟩ (fun r389 u1 H locs hp1 w => ?_)
              obtain ⟨_, rfl, rfl⟩ : _ ∧ _ ∧ _ := hp1.elim (fun y => absurd (by rw [f14]; omega) y.1) (fun z => z.elim (fun y => absurd (by rw [qr.2.2.2.2.1]; omega) y.2.1) id)
              rw [qr.2.2.1, qr.2.2.2.1]
              refine lv_iload hx hb dL_enters_392 (lv_at hl 0 rfl) ?_
              refine lv_icmp_ne (tgt := 401) hx hb dL_enters_394 (by decide) (fun h => absurd rfl h) (fun h394 => ?_)
              refine lv_iconst (v := nI 1) hx hb dL_enters_397 (by decide) ?_
              refine lv_goto (tgt := 402) hx hb dL_enters_398 (by decide) ?_
              exact mx_zret M w hr (v := (nI 1)) (by first | exact Or.inl rfl | exact Or.inr rfl) ⟨rfl, ST_in hIx hCx h6x⟩ (by decide) (by decide) dL_enters_402
            · refine lv_bipush (v := (-3)) hx hb dL_enters_329 (by decide) ?_
              refine lv_goto (tgt := 353) hx hb dL_enters_331 (by decide) ?_
              refine lv_istore (lv' := [(12, .int (-3)), (11, .int (nI 1)), (10, .int (nI j268)), (9, .int (nI j103)), (0, .ref (ad 0)), (1, .int z), (2, .ref (ad 7)), (3, .ref (ad 8)), (4, .ref (ad 9)), (5, .ref (ad 6)), (6, .int (nI j7)), (7, .int (nI f)), (8, .int (nI t))]) hx hb dL_enters_353 hl (by decide) rfl (fun ls hl => ?_)
              refine lv_iload hx hb dL_enters_355 (lv_at hl 0 rfl) ?_
              refine lv_if_le (tgt := 380) hx hb dL_enters_357 (by decide) (fun h357 => ?_) (fun h => absurd (by decide) h)
              have qr := (hI.qr q268).1
              have o1 : OffR e e := OffR.rf e
              have f14 : e (PB (e (RB j268) 0)) 0 = VV e 8 (VV e 14 j268) := by rw [qr.1]; exact hI.pb hw14
              refine lv_aload_n hx hb dL_enters_380 rfl (lv_at hl 4 rfl) ?_
              refine lv_iconst (v := nI 1) hx hb dL_enters_381 (by decide) ?_
              refine lv_iload hx hb dL_enters_382 (lv_at hl 2 rfl) ?_
              refine lv_iload hx hb dL_enters_384 (lv_at hl 11 rfl) ?_
              refine lv_iload hx hb dL_enters_386 (lv_at hl 12 rfl) ?_
              refine lv_iconst (v := nI 0) hx hb dL_enters_388 (by decide) ?_
              refine mxw_SW M w Th hNC (kL_calls1 l hfl D cy C ad e H.size j268 f t 0 hB (o1.cc hCC) (hI.1.fr o1.xf) (by rw [o1.z, hI.n3]; exact q268) (by omega) (by omega) (by omega)) (vx_cwSW 6 M.1.2.2.2.2 gL_enters_L_calls rfl rfl rfl (by decide +kernel) ⟨Nat.le_of_ble_eq_true rfl, Nat.le_of_ble_eq_true rfl⟩) rfl hl.1 rfl (Nat.le_of_ble_eq_true rfl) dL_enters_389 ⟨by decide, by decide⟩ (fun r389 u1 H locs hp1 w => ?_)
              obtain ⟨_, _, rfl, rfl⟩ : _ ∧ _ ∧ _ ∧ _ := hp1.elim (fun y => absurd (by rw [f14]; omega) y.1) (fun z => z.elim id (fun y => absurd y.1.2 (by rw [qr.2.2.2.2.1]; omega)))
              refine lv_iload hx hb dL_enters_392 (lv_at hl 0 rfl) ?_
              refine lv_icmp_ne (tgt := 401) hx hb dL_enters_394 (by decide) (fun h => absurd rfl h) (fun h394 => ?_)
              refine lv_iconst (v := nI 1) hx hb dL_enters_397 (by decide) ?_
              refine lv_goto (tgt := 402) hx hb dL_enters_398 (by decide) ?_
              exact mx_zret M w hr (v := (nI 1)) (by first | exact Or.inl rfl | exact Or.inr rfl) ⟨rfl, ST_in hI hCC rfl⟩ (by decide) (by decide) dL_enters_402
      · refine lv_iconst (v := (-1)) hx hb dL_enters_256 (by decide) ?_
        refine lv_goto (tgt := 271) hx hb dL_enters_257 (by decide) ?_
        refine lv_istore (lv' := [(10, .int (-1)), (9, .int (nI j103)), (0, .ref (ad 0)), (1, .int z), (2, .ref (ad 7)), (3, .ref (ad 8)), (4, .ref (ad 9)), (5, .ref (ad 6)), (6, .int (nI j7)), (7, .int (nI f)), (8, .int (nI t))]) hx hb dL_enters_271 hl (by decide) rfl (fun ls hl => ?_)
        refine lv_iload hx hb dL_enters_273 (lv_at hl 1 rfl) ?_
        refine lv_bipush (v := nI 6) hx hb dL_enters_275 (by decide) ?_
        refine mi_ge hx hb (by omega) (by decide) 403 dL_enters_277 (by decide) (fun h277 => ?_) (fun h277 => ?_)
        · refine lv_iload hx hb dL_enters_403 (lv_at hl 1 rfl) ?_
          refine lv_bipush (v := nI 6) hx hb dL_enters_405 (by decide) ?_
          refine mi_ne hx hb (by omega) (by decide) 461 dL_enters_407 (by decide) (fun h407 => ?_) (fun h407 => ?_)
          · exact cut461 _ _ _ q7 hf ht  _ _ w ls (lv_sub hl [2, 3, 4, 5, 6, 7, 8, 9, 10] rfl)
          · refine lv_iload hx hb dL_enters_410 (lv_at hl 0 rfl) ?_
            refine lv_if_lt (tgt := 461) hx hb dL_enters_412 (by decide) (fun h412 => ?_) (fun h => absurd (by decide) h)
            exact cut461 _ _ _ q7 hf ht  _ _ w ls (lv_sub hl [2, 3, 4, 5, 6, 7, 8, 9, 10] rfl)
        · refine lv_iload hx hb dL_enters_280 (lv_at hl 0 rfl) ?_
          refine lv_if_lt (tgt := 403) hx hb dL_enters_282 (by decide) (fun h282 => ?_) (fun h => absurd (by decide) h)
          refine lv_iload hx hb dL_enters_403 (lv_at hl 1 rfl) ?_
          refine lv_bipush (v := nI 6) hx hb dL_enters_405 (by decide) ?_
          refine mi_ne hx hb (by omega) (by decide) 461 dL_enters_407 (by decide) (fun h407 => ?_) (fun h407 => ?_)
          · exact cut461 _ _ _ q7 hf ht  _ _ w ls (lv_sub hl [2, 3, 4, 5, 6, 7, 8, 9, 10] rfl)
          · refine lv_iload hx hb dL_enters_410 (lv_at hl 0 rfl) ?_
            refine lv_if_lt (tgt := 461) hx hb dL_enters_412 (by decide) (fun h412 => ?_) (fun h => absurd (by decide) h)
            exact cut461 _ _ _ q7 hf ht  _ _ w ls (lv_sub hl [2, 3, 4, 5, 6, 7, 8, 9, 10] rfl)
    · refine lv_iload_n hx hb dL_enters_114 rfl (lv_at hl 2 rfl) ?_
      refine lv_bipush (v := nI 11) hx hb dL_enters_115 (by decide) ?_
      refine lv_ishr hx hb dL_enters_117 ?_
      refine lv_iconst (v := nI 3) hx hb dL_enters_118 (by decide) ?_
      refine mx_Si M w (kL_low l D cy C ad e H.size (z >>> ((nI 11) &&& 31)) 3 (by omega) (by omega)) (va_cwS 2 M.1.2.2.2.2 gL_enters_L_low rfl rfl rfl (by decide +kernel) ⟨Nat.le_of_ble_eq_true rfl, Nat.le_of_ble_eq_true rfl⟩) rfl hl.1 rfl (Nat.le_of_ble_eq_true rfl) dL_enters_119 ⟨by decide, by decide⟩ (fun r119 u1 H locs hp1 w => ?_)
      obtain ⟨j119, ⟨q119, rfl⟩, rfl⟩ := hp1
      refine mi_if_ne hx hb (by omega) 129 dL_enters_122 (by decide) (fun h122 => ?_) (fun h122 => ?_)
      · refine lv_iconst (v := nI 0) hx hb dL_enters_129 (by decide) ?_
        refine lv_istore (lv' := [(10, .int (nI 0)), (9, .int (nI j103)), (0, .ref (ad 0)), (1, .int z), (2, .ref (ad 7)), (3, .ref (ad 8)), (4, .ref (ad 9)), (5, .ref (ad 6)), (6, .int (nI j7)), (7, .int (nI f)), (8, .int (nI t))]) hx hb dL_enters_130 hl (by decide) rfl (fun ls hl => ?_)
        exact cut132 _ _ _ _ q7 hf ht (by decide)  _ _ w ls (lv_sub hl [2, 3, 4, 5, 6, 7, 8, 9, 10, 0] rfl)
      · refine lv_iconst (v := nI 1) hx hb dL_enters_125 (by decide) ?_
        refine lv_goto (tgt := 130) hx hb dL_enters_126 (by decide) ?_
        refine lv_istore (lv' := [(10, .int (nI 1)), (9, .int (nI j103)), (0, .ref (ad 0)), (1, .int z), (2, .ref (ad 7)), (3, .ref (ad 8)), (4, .ref (ad 9)), (5, .ref (ad 6)), (6, .int (nI j7)), (7, .int (nI f)), (8, .int (nI t))]) hx hb dL_enters_130 hl (by decide) rfl (fun ls hl => ?_)
        exact cut132 _ _ _ _ q7 hf ht (by decide)  _ _ w ls (lv_sub hl [2, 3, 4, 5, 6, 7, 8, 9, 10, 0] rfl)
  have cut70 : ∀ (j7 f : Nat) (q7 : j7 < VV e 7 2) (hf : VV e 8 j7 ≤ f ∧ f ≤ 1800) (H : Heap) (locs : List Loc), MO D (AW (C, ad, G cy ad e) sz) s.heap (C, ad, G cy ad e) H locs → ∀ (ls : Array Slot), lv_has ls 13 [(0, .ref (ad 0)), (1, .int z), (2, .ref (ad 7)), (3, .ref (ad 8)), (4, .ref (ad 9)), (5, .ref (ad 6)), (6, .int (nI j7)), (7, .int (nI f))] → W p9 l e9 ({ frames := 9, cells := 4, slots := 24, locals := 157 } : Room) s m args below meth c H locs 0 0 (MQ below (va_Qi (fun (r : Int32) (u : WT) => r = nI 1 ∧ ST cy C ad e u) (WB D cy (AW (C, ad, G cy ad e) sz)) (AW (C, ad, G cy ad e) sz)) args s 4 24 (AW (C, ad, G cy ad e) sz)) (F0 m 70 ls []) := by
    intro j7 f q7 hf H locs w ls hl
    have hp7 : j7 < 2 := hI.two q7
    have h87 := hI.p8 q7
    refine lv_iload hx hb dL_enters_70 (lv_at hl 7 rfl) ?_
    refine lv_iload_n hx hb dL_enters_72 rfl (lv_at hl 1 rfl) ?_
    refine lv_bipush (v := nI 9) hx hb dL_enters_73 (by decide) ?_
    refine lv_ishr hx hb dL_enters_75 ?_
    refine lv_iload_n hx hb dL_enters_76 rfl (lv_at hl 1 rfl) ?_
    refine lv_bipush (v := nI 15) hx hb dL_enters_77 (by decide) ?_
    refine lv_ishr hx hb dL_enters_79 ?_
    refine lv_iconst (v := nI 3) hx hb dL_enters_80 (by decide) ?_
    refine mx_Si M w (kL_low l D cy C ad e H.size (z >>> ((nI 15) &&& 31)) 3 (by omega) (by omega)) (va_cwS 2 M.1.2.2.2.2 gL_enters_L_low rfl rfl rfl (by decide +kernel) ⟨Nat.le_of_ble_eq_true rfl, Nat.le_of_ble_eq_true rfl⟩) rfl hl.1 rfl (Nat.le_of_ble_eq_true rfl) dL_enters_81 ⟨by decide, by decide⟩ (fun r81 u1 H locs hp1 w => ?_)
    obtain ⟨j81, ⟨q81, rfl⟩, rfl⟩ := hp1
    refine mi_if_ne hx hb (by omega) 92 dL_enters_84 (by decide) (fun h84 => ?_) (fun h84 => ?_)
    · refine lv_bipush (v := nI 9) hx hb dL_enters_92 (by decide) ?_
      refine mx_Si M w (kL_low l D cy C ad e H.size (z >>> ((nI 9) &&& 31)) 9 (by omega) (by omega)) (va_cwS 2 M.1.2.2.2.2 gL_enters_L_low rfl rfl rfl (by decide +kernel) ⟨Nat.le_of_ble_eq_true rfl, Nat.le_of_ble_eq_true rfl⟩) rfl hl.1 rfl (Nat.le_of_ble_eq_true rfl) dL_enters_94 ⟨by decide, by decide⟩ (fun r94 u1 H locs hp1 w => ?_)
      obtain ⟨j94, ⟨q94, rfl⟩, rfl⟩ := hp1
      refine mi_add hx hb dL_enters_97 ?_
      refine lv_istore (lv' := [(8, .int (nI (f + j94))), (0, .ref (ad 0)), (1, .int z), (2, .ref (ad 7)), (3, .ref (ad 8)), (4, .ref (ad 9)), (5, .ref (ad 6)), (6, .int (nI j7)), (7, .int (nI f))]) hx hb dL_enters_98 hl (by decide) rfl (fun ls hl => ?_)
      exact cut100 _ _ _ q7 hf (by omega)  _ _ w ls (lv_sub hl [1, 2, 3, 4, 5, 6, 7, 8, 0] rfl)
    · refine lv_bipush (v := nI 60) hx hb dL_enters_87 (by decide) ?_
      refine lv_goto (tgt := 94) hx hb dL_enters_89 (by decide) ?_
      refine mx_Si M w (kL_low l D cy C ad e H.size (z >>> ((nI 9) &&& 31)) 60 (by omega) (by omega)) (va_cwS 2 M.1.2.2.2.2 gL_enters_L_low rfl rfl rfl (by decide +kernel) ⟨Nat.le_of_ble_eq_true rfl, Nat.le_of_ble_eq_true rfl⟩) rfl hl.1 rfl (Nat.le_of_ble_eq_true rfl) dL_enters_94 ⟨by decide, by decide⟩ (fun r94 u1 H locs hp1 w => ?_)
      obtain ⟨j94, ⟨q94, rfl⟩, rfl⟩ := hp1
      refine mi_add hx hb dL_enters_97 ?_
      refine lv_istore (lv' := [(8, .int (nI (f + j94))), (0, .ref (ad 0)), (1, .int z), (2, .ref (ad 7)), (3, .ref (ad 8)), (4, .ref (ad 9)), (5, .ref (ad 6)), (6, .int (nI j7)), (7, .int (nI f))]) hx hb dL_enters_98 hl (by decide) rfl (fun ls hl => ?_)
      exact cut100 _ _ _ q7 hf (by omega)  _ _ w ls (lv_sub hl [1, 2, 3, 4, 5, 6, 7, 8, 0] rfl)
  have cut52 : ∀ (j7 f0 : Nat) (q7 : j7 < VV e 7 2) (hf : VV e 8 j7 ≤ f0 ∧ f0 ≤ 4000) (H : Heap) (locs : List Loc), MO D (AW (C, ad, G cy ad e) sz) s.heap (C, ad, G cy ad e) H locs → ∀ (ls : Array Slot), lv_has ls 13 [(0, .ref (ad 0)), (1, .int z), (2, .ref (ad 7)), (3, .ref (ad 8)), (4, .ref (ad 9)), (5, .ref (ad 6)), (6, .int (nI j7)), (7, .int (nI f0))] → W p9 l e9 ({ frames := 9, cells := 4, slots := 24, locals := 157 } : Room) s m args below meth c H locs 0 0 (MQ below (va_Qi (fun (r : Int32) (u : WT) => r = nI 1 ∧ ST cy C ad e u) (WB D cy (AW (C, ad, G cy ad e) sz)) (AW (C, ad, G cy ad e) sz)) args s 4 24 (AW (C, ad, G cy ad e) sz)) (F0 m 52 ls []) := by
    intro j7 f0 q7 hf H locs w ls hl
    have hp7 : j7 < 2 := hI.two q7
    have h87 := hI.p8 q7
    refine lv_iload hx hb dL_enters_52 (lv_at hl 7 rfl) ?_
    refine lv_sipush (v := nI 1800) hx hb dL_enters_54 (by decide) ?_
    refine mi_le hx hb (by omega) (by decide) 66 dL_enters_57 (by decide) (fun h57 => ?_) (fun h57 => ?_)
    · refine lv_iload hx hb dL_enters_66 (lv_at hl 7 rfl) ?_
      refine lv_istore (lv' := [(7, .int (nI f0)), (0, .ref (ad 0)), (1, .int z), (2, .ref (ad 7)), (3, .ref (ad 8)), (4, .ref (ad 9)), (5, .ref (ad 6)), (6, .int (nI j7))]) hx hb dL_enters_68 hl (by decide) rfl (fun ls hl => ?_)
      exact cut70 _ _ q7 (by omega)  _ _ w ls (lv_sub hl [1, 2, 3, 4, 5, 6, 7, 0] rfl)
    · refine lv_sipush (v := nI 1800) hx hb dL_enters_60 (by decide) ?_
      refine lv_goto (tgt := 68) hx hb dL_enters_63 (by decide) ?_
      refine lv_istore (lv' := [(7, .int (nI 1800)), (0, .ref (ad 0)), (1, .int z), (2, .ref (ad 7)), (3, .ref (ad 8)), (4, .ref (ad 9)), (5, .ref (ad 6)), (6, .int (nI j7))]) hx hb dL_enters_68 hl (by decide) rfl (fun ls hl => ?_)
      exact cut70 _ _ q7 (by omega)  _ _ w ls (lv_sub hl [1, 2, 3, 4, 5, 6, 7, 0] rfl)
  have hl : lv_has ls 13 [(0, .ref (ad 0)), (1, .int z), (2, .ref (ad 7)), (3, .ref (ad 8)), (4, .ref (ad 9)), (5, .ref (ad 6))] := hl
  refine lv_iload_n hx hb dL_enters_0 rfl (lv_at hl 1 rfl) ?_
  refine lv_iconst (v := nI 5) hx hb dL_enters_1 (by decide) ?_
  refine lv_ishr hx hb dL_enters_2 ?_
  refine lv_aload hx hb dL_enters_3 (lv_at hl 5 rfl) ?_
  refine lv_iconst (v := nI 1) hx hb dL_enters_5 (by decide) ?_
  refine ex_iald M w (hB 6 (by decide)) (sh_6 cy ad) (by omega) (by decide) (rV_q1 e) dL_enters_6 ?_
  refine mx_Si M w (kL_low l D cy C ad e s.heap.size (z >>> ((nI 5) &&& 31)) (VV e 7 2) (by omega) (by omega)) (va_cwS 2 M.1.2.2.2.2 gL_enters_L_low rfl rfl rfl (by decide +kernel) ⟨Nat.le_of_ble_eq_true rfl, Nat.le_of_ble_eq_true rfl⟩) rfl hl.1 rfl (Nat.le_of_ble_eq_true rfl) dL_enters_7 ⟨by decide, by decide⟩ (fun r7 u1 H locs hp1 w => ?_)
  obtain ⟨j7, ⟨q7, rfl⟩, rfl⟩ := hp1
  refine lv_istore (lv' := [(6, .int (nI j7)), (0, .ref (ad 0)), (1, .int z), (2, .ref (ad 7)), (3, .ref (ad 8)), (4, .ref (ad 9)), (5, .ref (ad 6))]) hx hb dL_enters_10 hl (by decide) rfl (fun ls hl => ?_)
  have hp7 : j7 < 2 := hI.two q7
  have h87 := hI.p8 q7
  refine lv_aload_n hx hb dL_enters_12 rfl (lv_at hl 3 rfl) ?_
  refine lv_iconst (v := nI 4) hx hb dL_enters_13 (by decide) ?_
  refine lv_iload hx hb dL_enters_14 (lv_at hl 0 rfl) ?_
  refine mi_mul hx hb dL_enters_16 ?_
  refine ex_iald M w (hB 7 (by decide)) (sh_7 cy ad) (by omega) (by decide) (rV_8 (e := e) hp7) dL_enters_17 ?_
  refine lv_iload_n hx hb dL_enters_18 rfl (lv_at hl 2 rfl) ?_
  refine lv_bipush (v := nI 7) hx hb dL_enters_19 (by decide) ?_
  refine lv_ishr hx hb dL_enters_21 ?_
  refine lv_iload_n hx hb dL_enters_22 rfl (lv_at hl 2 rfl) ?_
  refine lv_bipush (v := nI 17) hx hb dL_enters_23 (by decide) ?_
  refine lv_ishr hx hb dL_enters_25 ?_
  refine lv_iconst (v := nI 2) hx hb dL_enters_26 (by decide) ?_
  refine mx_Si M w (kL_low l D cy C ad e H.size (z >>> ((nI 17) &&& 31)) 2 (by omega) (by omega)) (va_cwS 2 M.1.2.2.2.2 gL_enters_L_low rfl rfl rfl (by decide +kernel) ⟨Nat.le_of_ble_eq_true rfl, Nat.le_of_ble_eq_true rfl⟩) rfl hl.1 rfl (Nat.le_of_ble_eq_true rfl) dL_enters_27 ⟨by decide, by decide⟩ (fun r27 u1 H locs hp1 w => ?_)
  obtain ⟨j27, ⟨q27, rfl⟩, rfl⟩ := hp1
  refine mi_if_ne hx hb (by omega) 39 dL_enters_30 (by decide) (fun h30 => ?_) (fun h30 => ?_)
  · refine lv_aload hx hb dL_enters_39 (lv_at hl 6 rfl) ?_
    refine lv_iconst (v := nI 0) hx hb dL_enters_41 (by decide) ?_
    refine ex_iald M w (hB 6 (by decide)) (sh_6 cy ad) (by omega) (by decide) (rV_q0 e) dL_enters_42 ?_
    refine lv_bipush (v := nI 60) hx hb dL_enters_43 (by decide) ?_
    refine mi_add hx hb dL_enters_45 ?_
    refine mx_Si M w (kL_low l D cy C ad e H.size (z >>> ((nI 7) &&& 31)) ((VV e 7 1) + 60) (by omega) (by omega)) (va_cwS 2 M.1.2.2.2.2 gL_enters_L_low rfl rfl rfl (by decide +kernel) ⟨Nat.le_of_ble_eq_true rfl, Nat.le_of_ble_eq_true rfl⟩) rfl hl.1 rfl (Nat.le_of_ble_eq_true rfl) dL_enters_46 ⟨by decide, by decide⟩ (fun r46 u1 H locs hp1 w => ?_)
    obtain ⟨j46, ⟨q46, rfl⟩, rfl⟩ := hp1
    refine mi_add hx hb dL_enters_49 ?_
    refine lv_istore (lv' := [(7, .int (nI ((VV e 8 j7) + j46))), (6, .int (nI j7)), (0, .ref (ad 0)), (1, .int z), (2, .ref (ad 7)), (3, .ref (ad 8)), (4, .ref (ad 9)), (5, .ref (ad 6))]) hx hb dL_enters_50 hl (by decide) rfl (fun ls hl => ?_)
    exact cut52 _ _ q7 (by omega)  _ _ w ls (lv_sub hl [2, 3, 4, 5, 6, 7, 1, 0] rfl)
  · refine lv_sipush (v := nI 1500) hx hb dL_enters_33 (by decide) ?_
    refine lv_goto (tgt := 46) hx hb dL_enters_36 (by decide) ?_
    refine mx_Si M w (kL_low l D cy C ad e H.size (z >>> ((nI 7) &&& 31)) 1500 (by omega) (by omega)) (va_cwS 2 M.1.2.2.2.2 gL_enters_L_low rfl rfl rfl (by decide +kernel) ⟨Nat.le_of_ble_eq_true rfl, Nat.le_of_ble_eq_true rfl⟩) rfl hl.1 rfl (Nat.le_of_ble_eq_true rfl) dL_enters_46 ⟨by decide, by decide⟩ (fun r46 u1 H locs hp1 w => ?_)
    obtain ⟨j46, ⟨q46, rfl⟩, rfl⟩ := hp1
    refine mi_add hx hb dL_enters_49 ?_
    refine lv_istore (lv' := [(7, .int (nI ((VV e 8 j7) + j46))), (6, .int (nI j7)), (0, .ref (ad 0)), (1, .int z), (2, .ref (ad 7)), (3, .ref (ad 8)), (4, .ref (ad 9)), (5, .ref (ad 6))]) hx hb dL_enters_50 hl (by decide) rfl (fun ls hl => ?_)
    exact cut52 _ _ q7 (by omega)  _ _ w ls (lv_sub hl [2, 3, 4, 5, 6, 7, 1, 0] rfl)
