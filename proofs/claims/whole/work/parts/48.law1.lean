/-! ===== the law: a call of the script, case by case ===== -/
section
variable {p : Program} {l : Launch} {e9 : Env} {s : State} {m : MethodId} {below : List Frame} {meth : Method} {c : Code} {H : Heap} {locs : List Loc} {cells slots : Nat} {Q : State → Prop}
variable {ls : Array Slot} {D : va_G} {cy : Nat → ClassId} {A : Nat → Prop} {C : List Nat} {ad : Nat → Nat} {e : Nat → Nat → Nat} {b L i : Nat} {xs : Nat → Int32}
set_option maxHeartbeats 4000000 in
set_option maxRecDepth 100000 in
theorem law_addPerson (hfl : l.stackTraces = false) (M : MC p s m #[Value.ref b] meth c code wsL_law RL 7 D cy A) (Th : TH A s s.heap) (hN : NC s) (hX : va_X b L xs s s.heap) (hbl : b < s.heap.size) (hbA : ¬ A b) (hL : L ≤ 2560) (hi : i + 5 ≤ L) (w : MO D A s.heap (C, ad, G cy ad e) H locs) (hI : INV e) (hC : CC (e 0 1) (e 0 3) C) (hl : lv_has ls 7 (lvL b ad i)) (hc : cells + 11 ≤ 601024) (hs : slots + 3850 ≤ 7293034)
    (kk : ∀ (C2 : List Nat) (ad2 : Nat → Nat) (e2 : Nat → Nat → Nat) (H2 : Heap) (locs2 : List Loc) (ls2 : Array Slot), MO D A s.heap (C2, ad2, G cy ad2 e2) H2 locs2 → INV e2 → CC (e2 0 1) (e2 0 3) C2 → lv_has ls2 7 (lvL b ad2 i) → W p l e9 room_1 s m #[Value.ref b] below meth c H2 locs2 (cells + 11) (slots + 3850) Q (F0 m 1558 ls2 [])) : W p l e9 room_1 s m #[Value.ref b] below meth c H locs cells slots Q (F0 m 140 ls []) := by
  have hx := M.1.1
  have hb := M.1.2.1
  have hB := hC.B
  have hl : lv_has ls 7 [(0, .ref b), (1, .ref (ad 0)), (2, .ref (ad 7)), (3, .ref (ad 6)), (4, .int (nI i))] := hl
  obtain ⟨a1, ha1, x1⟩ := nI_all (xs (i + 1))
  obtain ⟨a2, ha2, x2⟩ := nI_all (xs (i + 2))
  refine lv_aload_n hx hb dL_law_140 rfl (lv_at hl 1 rfl) ?_
  refine la_arg M w hX hbl hbA hL hl 0 4 rfl rfl (k := 1) (show Int32.ofInt 1 = nI 1 from rfl) (by omega) x1 141 dL_law_141 dL_law_142 dL_law_144 dL_law_145 dL_law_146 ?_
  refine la_arg M w hX hbl hbA hL hl 0 4 rfl rfl (k := 2) (show Int32.ofInt 2 = nI 2 from rfl) (by omega) x2 147 dL_law_147 dL_law_148 dL_law_150 dL_law_151 dL_law_152 ?_
  refine lv_aload_n hx hb dL_law_153 rfl (lv_at hl 3 rfl) ?_
  refine mxw_SW M w Th hN (kL_addPerson l hfl D cy C ad e H.size a1 a2 hC hI.1 ha1 ha2) (vx_cwSW 4 M.1.2.2.2.2 gL_law_L_addPerson rfl rfl rfl (by decide +kernel) ⟨Nat.le_of_ble_eq_true rfl, Nat.le_of_ble_eq_true rfl⟩) rfl hl.1 rfl (Nat.le_of_ble_eq_true rfl) dL_law_154 ⟨by show cells + 11 ≤ 601024; omega, by show slots + 3850 ≤ 7293034; omega⟩ (fun r u1 H locs hp w => ?_)
  obtain ⟨j, v, e1, C1, ad1, rfl, hj, had, rfl, hT⟩ := hp
  have h6 := lw_h6 e1 v j
  have h60 := lw_h60 e1 v j
  generalize (if j = 0 then es e1 6 0 (lK v) else e1) = e' at w h6 h60
  obtain ⟨hB1, hM1, hst⟩ := stp_addPerson hI hC hT h6
  have hl : lv_has ls 7 [(0, .ref b), (1, .ref (ad1 0)), (2, .ref (ad1 7)), (3, .ref (ad1 6)), (4, .int (nI i))] := by
    have h9 := lvL_eq had hB b i
    unfold lvL at h9
    rw [h9] at hl
    exact hl
  refine lv_istore (lv' := [(5, .int (nI j)), (0, .ref b), (1, .ref (ad1 0)), (2, .ref (ad1 7)), (3, .ref (ad1 6)), (4, .int (nI i))]) hx hb dL_law_157 hl (by decide) rfl (fun ls hl => ?_)
  refine lv_aload_n hx hb dL_law_159 rfl (lv_at hl 3 rfl) ?_
  refine la_arg M w hX hbl hbA hL hl 1 5 rfl rfl (k := 1) (show Int32.ofInt 1 = nI 1 from rfl) (by omega) x1 160 dL_law_160 dL_law_161 dL_law_163 dL_law_164 dL_law_165 ?_
  refine la_arg M w hX hbl hbA hL hl 1 5 rfl rfl (k := 2) (show Int32.ofInt 2 = nI 2 from rfl) (by omega) x2 166 dL_law_166 dL_law_167 dL_law_169 dL_law_170 dL_law_171 ?_
  refine mx_Vi M w (kX4_addPerson l D cy C1 ad1 e' H.size a1 a2 hB1 hM1 ha1 ha2) (cwV 2 M.1.2.2.2.2 gL_law_X4_addPerson rfl rfl rfl (by decide +kernel) ⟨Nat.le_of_ble_eq_true rfl, Nat.le_of_ble_eq_true rfl⟩) (mo_rec M w (hB1 7 (by decide)) (g := G cy ad1 e') (sh_7 cy ad1 (e' 7)) rfl) rfl hl.1 rfl (Nat.le_of_ble_eq_true rfl) dL_law_172 ⟨by show cells + 11 + 0 ≤ 601024; omega, by show slots + 3850 + 0 ≤ 7293034; omega⟩ (fun r u1 H locs hp w => ?_)
  obtain ⟨e2, rfl, hI2, hC2, q1, q2, q3⟩ := hst cy ad1 r u1 hp
  refine lv_istore (lv' := [(6, .int r), (5, .int (nI j)), (0, .ref b), (1, .ref (ad1 0)), (2, .ref (ad1 7)), (3, .ref (ad1 6)), (4, .int (nI i))]) hx hb dL_law_175 hl (by decide) rfl (fun ls hl => ?_)
  refine la_tail M w hB1 hj q1 q2 (fun z => by rw [q3]; exact h60 z) hl 4 5 1 0 rfl rfl rfl rfl (cwV 0 M.1.2.2.2.2 gL_law_X4_thrown rfl rfl rfl (by decide +kernel) ⟨Nat.le_of_ble_eq_true rfl, Nat.le_of_ble_eq_true rfl⟩) ⟨by show cells + 11 + 0 ≤ 601024; omega, by show slots + 3850 + 0 ≤ 7293034; omega⟩ 177 1558 dL_law_177 dL_law_178 dL_law_181 dL_law_183 dL_law_188 dL_law_190 dL_law_193 dL_law_194 dL_law_195 dL_law_196 dL_law_198 dL_law_199 dL_law_200 dL_law_205 (by decide) (fun H locs w => ?_)
  refine W.widen (k := cells + 11) (n := slots + 3850) (by omega) (by omega) ?_
  exact kk C1 ad1 e2 H locs ls w hI2 hC2 (lv_sub hl [2, 3, 4, 5, 6] rfl)
set_option maxHeartbeats 4000000 in
set_option maxRecDepth 100000 in
theorem law_setHours (hfl : l.stackTraces = false) (M : MC p s m #[Value.ref b] meth c code wsL_law RL 7 D cy A) (Th : TH A s s.heap) (hN : NC s) (hX : va_X b L xs s s.heap) (hbl : b < s.heap.size) (hbA : ¬ A b) (hL : L ≤ 2560) (hi : i + 5 ≤ L) (w : MO D A s.heap (C, ad, G cy ad e) H locs) (hI : INV e) (hC : CC (e 0 1) (e 0 3) C) (hl : lv_has ls 7 (lvL b ad i)) (hc : cells + 11 ≤ 601024) (hs : slots + 3850 ≤ 7293034)
    (kk : ∀ (C2 : List Nat) (ad2 : Nat → Nat) (e2 : Nat → Nat → Nat) (H2 : Heap) (locs2 : List Loc) (ls2 : Array Slot), MO D A s.heap (C2, ad2, G cy ad2 e2) H2 locs2 → INV e2 → CC (e2 0 1) (e2 0 3) C2 → lv_has ls2 7 (lvL b ad2 i) → W p l e9 room_1 s m #[Value.ref b] below meth c H2 locs2 (cells + 11) (slots + 3850) Q (F0 m 1558 ls2 [])) : W p l e9 room_1 s m #[Value.ref b] below meth c H locs cells slots Q (F0 m 208 ls []) := by
  have hx := M.1.1
  have hb := M.1.2.1
  have hB := hC.B
  have hl : lv_has ls 7 [(0, .ref b), (1, .ref (ad 0)), (2, .ref (ad 7)), (3, .ref (ad 6)), (4, .int (nI i))] := hl
  obtain ⟨a1, ha1, x1⟩ := nI_all (xs (i + 1))
  obtain ⟨a2, ha2, x2⟩ := nI_all (xs (i + 2))
  obtain ⟨a3, ha3, x3⟩ := nI_all (xs (i + 3))
  refine lv_aload_n hx hb dL_law_208 rfl (lv_at hl 1 rfl) ?_
  refine la_arg M w hX hbl hbA hL hl 0 4 rfl rfl (k := 1) (show Int32.ofInt 1 = nI 1 from rfl) (by omega) x1 209 dL_law_209 dL_law_210 dL_law_212 dL_law_213 dL_law_214 ?_
  refine la_arg M w hX hbl hbA hL hl 0 4 rfl rfl (k := 2) (show Int32.ofInt 2 = nI 2 from rfl) (by omega) x2 215 dL_law_215 dL_law_216 dL_law_218 dL_law_219 dL_law_220 ?_
  refine la_arg M w hX hbl hbA hL hl 0 4 rfl rfl (k := 3) (show Int32.ofInt 3 = nI 3 from rfl) (by omega) x3 221 dL_law_221 dL_law_222 dL_law_224 dL_law_225 dL_law_226 ?_
  refine lv_aload_n hx hb dL_law_227 rfl (lv_at hl 3 rfl) ?_
  refine mxw_SW M w Th hN (kL_setHours l hfl D cy C ad e H.size a1 a2 a3 hC hI.1 ha1 ha2 ha3) (vx_cwSW 5 M.1.2.2.2.2 gL_law_L_setHours rfl rfl rfl (by decide +kernel) ⟨Nat.le_of_ble_eq_true rfl, Nat.le_of_ble_eq_true rfl⟩) rfl hl.1 rfl (Nat.le_of_ble_eq_true rfl) dL_law_228 ⟨by show cells + 4 ≤ 601024; omega, by show slots + 24 ≤ 7293034; omega⟩ (fun r u1 H locs hp w => ?_)
  obtain ⟨j, v, e1, C1, ad1, rfl, hj, had, rfl, hT⟩ := hp
  have h6 := lw_h6 e1 v j
  have h60 := lw_h60 e1 v j
  generalize (if j = 0 then es e1 6 0 (lK v) else e1) = e' at w h6 h60
  obtain ⟨hB1, hM1, hst⟩ := stp_setHours hI hC hT h6
  have hl : lv_has ls 7 [(0, .ref b), (1, .ref (ad1 0)), (2, .ref (ad1 7)), (3, .ref (ad1 6)), (4, .int (nI i))] := by
    have h9 := lvL_eq had hB b i
    unfold lvL at h9
    rw [h9] at hl
    exact hl
  refine lv_istore (lv' := [(5, .int (nI j)), (0, .ref b), (1, .ref (ad1 0)), (2, .ref (ad1 7)), (3, .ref (ad1 6)), (4, .int (nI i))]) hx hb dL_law_231 hl (by decide) rfl (fun ls hl => ?_)
  refine lv_aload_n hx hb dL_law_233 rfl (lv_at hl 3 rfl) ?_
  refine la_arg M w hX hbl hbA hL hl 1 5 rfl rfl (k := 1) (show Int32.ofInt 1 = nI 1 from rfl) (by omega) x1 234 dL_law_234 dL_law_235 dL_law_237 dL_law_238 dL_law_239 ?_
  refine la_arg M w hX hbl hbA hL hl 1 5 rfl rfl (k := 2) (show Int32.ofInt 2 = nI 2 from rfl) (by omega) x2 240 dL_law_240 dL_law_241 dL_law_243 dL_law_244 dL_law_245 ?_
  refine la_arg M w hX hbl hbA hL hl 1 5 rfl rfl (k := 3) (show Int32.ofInt 3 = nI 3 from rfl) (by omega) x3 246 dL_law_246 dL_law_247 dL_law_249 dL_law_250 dL_law_251 ?_
  refine mx_Vi M w (kX4_setHours l D cy C1 ad1 e' H.size a1 a2 a3 hB1 hM1 ha1 ha2 ha3) (cwV 3 M.1.2.2.2.2 gL_law_X4_setHours rfl rfl rfl (by decide +kernel) ⟨Nat.le_of_ble_eq_true rfl, Nat.le_of_ble_eq_true rfl⟩) (mo_rec M w (hB1 7 (by decide)) (g := G cy ad1 e') (sh_7 cy ad1 (e' 7)) rfl) rfl hl.1 rfl (Nat.le_of_ble_eq_true rfl) dL_law_252 ⟨by show cells + 4 + 0 ≤ 601024; omega, by show slots + 24 + 0 ≤ 7293034; omega⟩ (fun r u1 H locs hp w => ?_)
  obtain ⟨e2, rfl, hI2, hC2, q1, q2, q3⟩ := hst cy ad1 r u1 hp
  refine lv_istore (lv' := [(6, .int r), (5, .int (nI j)), (0, .ref b), (1, .ref (ad1 0)), (2, .ref (ad1 7)), (3, .ref (ad1 6)), (4, .int (nI i))]) hx hb dL_law_255 hl (by decide) rfl (fun ls hl => ?_)
  refine la_tail M w hB1 hj q1 q2 (fun z => by rw [q3]; exact h60 z) hl 4 5 1 0 rfl rfl rfl rfl (cwV 0 M.1.2.2.2.2 gL_law_X4_thrown rfl rfl rfl (by decide +kernel) ⟨Nat.le_of_ble_eq_true rfl, Nat.le_of_ble_eq_true rfl⟩) ⟨by show cells + 4 + 0 ≤ 601024; omega, by show slots + 24 + 0 ≤ 7293034; omega⟩ 257 1558 dL_law_257 dL_law_258 dL_law_261 dL_law_263 dL_law_268 dL_law_270 dL_law_273 dL_law_274 dL_law_275 dL_law_276 dL_law_278 dL_law_279 dL_law_280 dL_law_285 (by decide) (fun H locs w => ?_)
  refine W.widen (k := cells + 11) (n := slots + 3850) (by omega) (by omega) ?_
  exact kk C1 ad1 e2 H locs ls w hI2 hC2 (lv_sub hl [2, 3, 4, 5, 6] rfl)
set_option maxHeartbeats 4000000 in
set_option maxRecDepth 100000 in
theorem law_request (hfl : l.stackTraces = false) (M : MC p s m #[Value.ref b] meth c code wsL_law RL 7 D cy A) (Th : TH A s s.heap) (hN : NC s) (hX : va_X b L xs s s.heap) (hbl : b < s.heap.size) (hbA : ¬ A b) (hL : L ≤ 2560) (hi : i + 5 ≤ L) (w : MO D A s.heap (C, ad, G cy ad e) H locs) (hI : INV e) (hC : CC (e 0 1) (e 0 3) C) (hl : lv_has ls 7 (lvL b ad i)) (hc : cells + 11 ≤ 601024) (hs : slots + 3850 ≤ 7293034)
    (kk : ∀ (C2 : List Nat) (ad2 : Nat → Nat) (e2 : Nat → Nat → Nat) (H2 : Heap) (locs2 : List Loc) (ls2 : Array Slot), MO D A s.heap (C2, ad2, G cy ad2 e2) H2 locs2 → INV e2 → CC (e2 0 1) (e2 0 3) C2 → lv_has ls2 7 (lvL b ad2 i) → W p l e9 room_1 s m #[Value.ref b] below meth c H2 locs2 (cells + 11) (slots + 3850) Q (F0 m 1558 ls2 [])) : W p l e9 room_1 s m #[Value.ref b] below meth c H locs cells slots Q (F0 m 288 ls []) := by
  have hx := M.1.1
  have hb := M.1.2.1
  have hB := hC.B
  have hl : lv_has ls 7 [(0, .ref b), (1, .ref (ad 0)), (2, .ref (ad 7)), (3, .ref (ad 6)), (4, .int (nI i))] := hl
  obtain ⟨a1, ha1, x1⟩ := nI_all (xs (i + 1))
  obtain ⟨a2, ha2, x2⟩ := nI_all (xs (i + 2))
  obtain ⟨a3, ha3, x3⟩ := nI_all (xs (i + 3))
  obtain ⟨a4, ha4, x4⟩ := nI_all (xs (i + 4))
  refine lv_aload_n hx hb dL_law_288 rfl (lv_at hl 1 rfl) ?_
  refine la_arg M w hX hbl hbA hL hl 0 4 rfl rfl (k := 1) (show Int32.ofInt 1 = nI 1 from rfl) (by omega) x1 289 dL_law_289 dL_law_290 dL_law_292 dL_law_293 dL_law_294 ?_
  refine la_arg M w hX hbl hbA hL hl 0 4 rfl rfl (k := 2) (show Int32.ofInt 2 = nI 2 from rfl) (by omega) x2 295 dL_law_295 dL_law_296 dL_law_298 dL_law_299 dL_law_300 ?_
  refine la_arg M w hX hbl hbA hL hl 0 4 rfl rfl (k := 3) (show Int32.ofInt 3 = nI 3 from rfl) (by omega) x3 301 dL_law_301 dL_law_302 dL_law_304 dL_law_305 dL_law_306 ?_
  refine la_arg M w hX hbl hbA hL hl 0 4 rfl rfl (k := 4) (show Int32.ofInt 4 = nI 4 from rfl) (by omega) x4 307 dL_law_307 dL_law_308 dL_law_310 dL_law_311 dL_law_312 ?_
  refine la_bool hx hb ha4 313 dL_law_313 dL_law_316 dL_law_317 dL_law_320 ?_
  refine lv_aload_n hx hb dL_law_321 rfl (lv_at hl 3 rfl) ?_
  refine mxw_SW M w Th hN (kL_request l hfl D cy C ad e H.size a1 a2 a3 (if a4 = 0 then 0 else 1) hC hI.1 ha1 ha2 ha3 (show (if a4 = 0 then 0 else 1) ≤ 1 by split <;> omega)) (vx_cwSW 6 M.1.2.2.2.2 gL_law_L_request rfl rfl rfl (by decide +kernel) ⟨Nat.le_of_ble_eq_true rfl, Nat.le_of_ble_eq_true rfl⟩) rfl hl.1 rfl (Nat.le_of_ble_eq_true rfl) dL_law_322 ⟨by show cells + 4 ≤ 601024; omega, by show slots + 23 ≤ 7293034; omega⟩ (fun r u1 H locs hp w => ?_)
  obtain ⟨j, v, e1, C1, ad1, rfl, hj, had, rfl, hT⟩ := hp
  have h6 := lw_h6 e1 v j
  have h60 := lw_h60 e1 v j
  generalize (if j = 0 then es e1 6 0 (lK v) else e1) = e' at w h6 h60
  obtain ⟨hB1, hM1, hst⟩ := stp_request (show (if a4 = 0 then 0 else 1) ≤ 1 by split <;> omega) hI hC hT h6
  have hl : lv_has ls 7 [(0, .ref b), (1, .ref (ad1 0)), (2, .ref (ad1 7)), (3, .ref (ad1 6)), (4, .int (nI i))] := by
    have h9 := lvL_eq had hB b i
    unfold lvL at h9
    rw [h9] at hl
    exact hl
  refine lv_istore (lv' := [(5, .int (nI j)), (0, .ref b), (1, .ref (ad1 0)), (2, .ref (ad1 7)), (3, .ref (ad1 6)), (4, .int (nI i))]) hx hb dL_law_325 hl (by decide) rfl (fun ls hl => ?_)
  refine lv_aload_n hx hb dL_law_327 rfl (lv_at hl 3 rfl) ?_
  refine la_arg M w hX hbl hbA hL hl 1 5 rfl rfl (k := 1) (show Int32.ofInt 1 = nI 1 from rfl) (by omega) x1 328 dL_law_328 dL_law_329 dL_law_331 dL_law_332 dL_law_333 ?_
  refine la_arg M w hX hbl hbA hL hl 1 5 rfl rfl (k := 2) (show Int32.ofInt 2 = nI 2 from rfl) (by omega) x2 334 dL_law_334 dL_law_335 dL_law_337 dL_law_338 dL_law_339 ?_
  refine la_arg M w hX hbl hbA hL hl 1 5 rfl rfl (k := 3) (show Int32.ofInt 3 = nI 3 from rfl) (by omega) x3 340 dL_law_340 dL_law_341 dL_law_343 dL_law_344 dL_law_345 ?_
  refine la_arg M w hX hbl hbA hL hl 1 5 rfl rfl (k := 4) (show Int32.ofInt 4 = nI 4 from rfl) (by omega) x4 346 dL_law_346 dL_law_347 dL_law_349 dL_law_350 dL_law_351 ?_
  refine la_bool hx hb ha4 352 dL_law_352 dL_law_355 dL_law_356 dL_law_359 ?_
  refine mx_Vi M w (kX4_request l D cy C1 ad1 e' H.size a1 a2 a3 (if a4 = 0 then 0 else 1) hB1 hM1 ha1 ha2 ha3 (show (if a4 = 0 then 0 else 1) ≤ 1 by split <;> omega)) (cwV 4 M.1.2.2.2.2 gL_law_X4_request rfl rfl rfl (by decide +kernel) ⟨Nat.le_of_ble_eq_true rfl, Nat.le_of_ble_eq_true rfl⟩) (mo_rec M w (hB1 7 (by decide)) (g := G cy ad1 e') (sh_7 cy ad1 (e' 7)) rfl) rfl hl.1 rfl (Nat.le_of_ble_eq_true rfl) dL_law_360 ⟨by show cells + 4 + 0 ≤ 601024; omega, by show slots + 23 + 0 ≤ 7293034; omega⟩ (fun r u1 H locs hp w => ?_)
  obtain ⟨e2, rfl, hI2, hC2, q1, q2, q3⟩ := hst cy ad1 r u1 hp
  refine lv_istore (lv' := [(6, .int r), (5, .int (nI j)), (0, .ref b), (1, .ref (ad1 0)), (2, .ref (ad1 7)), (3, .ref (ad1 6)), (4, .int (nI i))]) hx hb dL_law_363 hl (by decide) rfl (fun ls hl => ?_)
  refine la_tail M w hB1 hj q1 q2 (fun z => by rw [q3]; exact h60 z) hl 4 5 1 0 rfl rfl rfl rfl (cwV 0 M.1.2.2.2.2 gL_law_X4_thrown rfl rfl rfl (by decide +kernel) ⟨Nat.le_of_ble_eq_true rfl, Nat.le_of_ble_eq_true rfl⟩) ⟨by show cells + 4 + 0 ≤ 601024; omega, by show slots + 23 + 0 ≤ 7293034; omega⟩ 365 1558 dL_law_365 dL_law_366 dL_law_369 dL_law_371 dL_law_376 dL_law_378 dL_law_381 dL_law_382 dL_law_383 dL_law_384 dL_law_386 dL_law_387 dL_law_388 dL_law_393 (by decide) (fun H locs w => ?_)
  refine W.widen (k := cells + 11) (n := slots + 3850) (by omega) (by omega) ?_
  exact kk C1 ad1 e2 H locs ls w hI2 hC2 (lv_sub hl [2, 3, 4, 5, 6] rfl)
set_option maxHeartbeats 4000000 in
set_option maxRecDepth 100000 in
theorem law_change (hfl : l.stackTraces = false) (M : MC p s m #[Value.ref b] meth c code wsL_law RL 7 D cy A) (Th : TH A s s.heap) (hN : NC s) (hX : va_X b L xs s s.heap) (hbl : b < s.heap.size) (hbA : ¬ A b) (hL : L ≤ 2560) (hi : i + 5 ≤ L) (w : MO D A s.heap (C, ad, G cy ad e) H locs) (hI : INV e) (hC : CC (e 0 1) (e 0 3) C) (hl : lv_has ls 7 (lvL b ad i)) (hc : cells + 11 ≤ 601024) (hs : slots + 3850 ≤ 7293034)
    (kk : ∀ (C2 : List Nat) (ad2 : Nat → Nat) (e2 : Nat → Nat → Nat) (H2 : Heap) (locs2 : List Loc) (ls2 : Array Slot), MO D A s.heap (C2, ad2, G cy ad2 e2) H2 locs2 → INV e2 → CC (e2 0 1) (e2 0 3) C2 → lv_has ls2 7 (lvL b ad2 i) → W p l e9 room_1 s m #[Value.ref b] below meth c H2 locs2 (cells + 11) (slots + 3850) Q (F0 m 1558 ls2 [])) : W p l e9 room_1 s m #[Value.ref b] below meth c H locs cells slots Q (F0 m 396 ls []) := by
  have hx := M.1.1
  have hb := M.1.2.1
  have hB := hC.B
  have hl : lv_has ls 7 [(0, .ref b), (1, .ref (ad 0)), (2, .ref (ad 7)), (3, .ref (ad 6)), (4, .int (nI i))] := hl
  obtain ⟨a1, ha1, x1⟩ := nI_all (xs (i + 1))
  obtain ⟨a2, ha2, x2⟩ := nI_all (xs (i + 2))
  obtain ⟨a3, ha3, x3⟩ := nI_all (xs (i + 3))
  refine lv_aload_n hx hb dL_law_396 rfl (lv_at hl 1 rfl) ?_
  refine la_arg M w hX hbl hbA hL hl 0 4 rfl rfl (k := 1) (show Int32.ofInt 1 = nI 1 from rfl) (by omega) x1 397 dL_law_397 dL_law_398 dL_law_400 dL_law_401 dL_law_402 ?_
  refine la_arg M w hX hbl hbA hL hl 0 4 rfl rfl (k := 2) (show Int32.ofInt 2 = nI 2 from rfl) (by omega) x2 403 dL_law_403 dL_law_404 dL_law_406 dL_law_407 dL_law_408 ?_
  refine la_arg M w hX hbl hbA hL hl 0 4 rfl rfl (k := 3) (show Int32.ofInt 3 = nI 3 from rfl) (by omega) x3 409 dL_law_409 dL_law_410 dL_law_412 dL_law_413 dL_law_414 ?_
  refine lv_aload_n hx hb dL_law_415 rfl (lv_at hl 3 rfl) ?_
  refine mxw_SW M w Th hN (kL_change l hfl D cy C ad e H.size a1 a2 a3 hC hI.1 ha1 ha2 ha3) (vx_cwSW 5 M.1.2.2.2.2 gL_law_L_change rfl rfl rfl (by decide +kernel) ⟨Nat.le_of_ble_eq_true rfl, Nat.le_of_ble_eq_true rfl⟩) rfl hl.1 rfl (Nat.le_of_ble_eq_true rfl) dL_law_416 ⟨by show cells + 3 ≤ 601024; omega, by show slots + 18 ≤ 7293034; omega⟩ (fun r u1 H locs hp w => ?_)
  obtain ⟨j, v, e1, C1, ad1, rfl, hj, had, rfl, hT⟩ := hp
  have h6 := lw_h6 e1 v j
  have h60 := lw_h60 e1 v j
  generalize (if j = 0 then es e1 6 0 (lK v) else e1) = e' at w h6 h60
  obtain ⟨hB1, hM1, hst⟩ := stp_change hI hC hT h6
  have hl : lv_has ls 7 [(0, .ref b), (1, .ref (ad1 0)), (2, .ref (ad1 7)), (3, .ref (ad1 6)), (4, .int (nI i))] := by
    have h9 := lvL_eq had hB b i
    unfold lvL at h9
    rw [h9] at hl
    exact hl
  refine lv_istore (lv' := [(5, .int (nI j)), (0, .ref b), (1, .ref (ad1 0)), (2, .ref (ad1 7)), (3, .ref (ad1 6)), (4, .int (nI i))]) hx hb dL_law_419 hl (by decide) rfl (fun ls hl => ?_)
  refine lv_aload_n hx hb dL_law_421 rfl (lv_at hl 3 rfl) ?_
  refine la_arg M w hX hbl hbA hL hl 1 5 rfl rfl (k := 1) (show Int32.ofInt 1 = nI 1 from rfl) (by omega) x1 422 dL_law_422 dL_law_423 dL_law_425 dL_law_426 dL_law_427 ?_
  refine la_arg M w hX hbl hbA hL hl 1 5 rfl rfl (k := 2) (show Int32.ofInt 2 = nI 2 from rfl) (by omega) x2 428 dL_law_428 dL_law_429 dL_law_431 dL_law_432 dL_law_433 ?_
  refine la_arg M w hX hbl hbA hL hl 1 5 rfl rfl (k := 3) (show Int32.ofInt 3 = nI 3 from rfl) (by omega) x3 434 dL_law_434 dL_law_435 dL_law_437 dL_law_438 dL_law_439 ?_
  refine mx_Vi M w (kX4_change l D cy C1 ad1 e' H.size a1 a2 a3 hB1 hM1.1 hM1.2 ha1 ha2 ha3) (cwV 3 M.1.2.2.2.2 gL_law_X4_change rfl rfl rfl (by decide +kernel) ⟨Nat.le_of_ble_eq_true rfl, Nat.le_of_ble_eq_true rfl⟩) (mo_rec M w (hB1 7 (by decide)) (g := G cy ad1 e') (sh_7 cy ad1 (e' 7)) rfl) rfl hl.1 rfl (Nat.le_of_ble_eq_true rfl) dL_law_440 ⟨by show cells + 3 + 0 ≤ 601024; omega, by show slots + 18 + 0 ≤ 7293034; omega⟩ (fun r u1 H locs hp w => ?_)
  obtain ⟨e2, rfl, hI2, hC2, q1, q2, q3⟩ := hst cy ad1 r u1 hp
  refine lv_istore (lv' := [(6, .int r), (5, .int (nI j)), (0, .ref b), (1, .ref (ad1 0)), (2, .ref (ad1 7)), (3, .ref (ad1 6)), (4, .int (nI i))]) hx hb dL_law_443 hl (by decide) rfl (fun ls hl => ?_)
  refine la_tail M w hB1 hj q1 q2 (fun z => by rw [q3]; exact h60 z) hl 4 5 1 0 rfl rfl rfl rfl (cwV 0 M.1.2.2.2.2 gL_law_X4_thrown rfl rfl rfl (by decide +kernel) ⟨Nat.le_of_ble_eq_true rfl, Nat.le_of_ble_eq_true rfl⟩) ⟨by show cells + 3 + 0 ≤ 601024; omega, by show slots + 18 + 0 ≤ 7293034; omega⟩ 445 1558 dL_law_445 dL_law_446 dL_law_449 dL_law_451 dL_law_456 dL_law_458 dL_law_461 dL_law_462 dL_law_463 dL_law_464 dL_law_466 dL_law_467 dL_law_468 dL_law_473 (by decide) (fun H locs w => ?_)
  refine W.widen (k := cells + 11) (n := slots + 3850) (by omega) (by omega) ?_
  exact kk C1 ad1 e2 H locs ls w hI2 hC2 (lv_sub hl [2, 3, 4, 5, 6] rfl)
set_option maxHeartbeats 4000000 in
set_option maxRecDepth 100000 in
theorem law_cancel (hfl : l.stackTraces = false) (M : MC p s m #[Value.ref b] meth c code wsL_law RL 7 D cy A) (Th : TH A s s.heap) (hN : NC s) (hX : va_X b L xs s s.heap) (hbl : b < s.heap.size) (hbA : ¬ A b) (hL : L ≤ 2560) (hi : i + 5 ≤ L) (w : MO D A s.heap (C, ad, G cy ad e) H locs) (hI : INV e) (hC : CC (e 0 1) (e 0 3) C) (hl : lv_has ls 7 (lvL b ad i)) (hc : cells + 11 ≤ 601024) (hs : slots + 3850 ≤ 7293034)
    (kk : ∀ (C2 : List Nat) (ad2 : Nat → Nat) (e2 : Nat → Nat → Nat) (H2 : Heap) (locs2 : List Loc) (ls2 : Array Slot), MO D A s.heap (C2, ad2, G cy ad2 e2) H2 locs2 → INV e2 → CC (e2 0 1) (e2 0 3) C2 → lv_has ls2 7 (lvL b ad2 i) → W p l e9 room_1 s m #[Value.ref b] below meth c H2 locs2 (cells + 11) (slots + 3850) Q (F0 m 1558 ls2 [])) : W p l e9 room_1 s m #[Value.ref b] below meth c H locs cells slots Q (F0 m 476 ls []) := by
  have hx := M.1.1
  have hb := M.1.2.1
  have hB := hC.B
  have hl : lv_has ls 7 [(0, .ref b), (1, .ref (ad 0)), (2, .ref (ad 7)), (3, .ref (ad 6)), (4, .int (nI i))] := hl
  obtain ⟨a1, ha1, x1⟩ := nI_all (xs (i + 1))
  refine lv_aload_n hx hb dL_law_476 rfl (lv_at hl 1 rfl) ?_
  refine la_arg M w hX hbl hbA hL hl 0 4 rfl rfl (k := 1) (show Int32.ofInt 1 = nI 1 from rfl) (by omega) x1 477 dL_law_477 dL_law_478 dL_law_480 dL_law_481 dL_law_482 ?_
  refine mxw_SW M w Th hN (kL_cancel l hfl D cy C ad e H.size a1 hC hI.1 ha1) (vx_cwSW 2 M.1.2.2.2.2 gL_law_L_cancel rfl rfl rfl (by decide +kernel) ⟨Nat.le_of_ble_eq_true rfl, Nat.le_of_ble_eq_true rfl⟩) rfl hl.1 rfl (Nat.le_of_ble_eq_true rfl) dL_law_483 ⟨by show cells + 2 ≤ 601024; omega, by show slots + 12 ≤ 7293034; omega⟩ (fun r u1 H locs hp w => ?_)
  obtain ⟨j, e1, C1, rfl, hj, rfl, hT⟩ := hp
  obtain ⟨hB1, hM1, hst⟩ := stp_cancel hI hC hT
  refine lv_istore (lv' := [(5, .int (nI j)), (0, .ref b), (1, .ref (ad 0)), (2, .ref (ad 7)), (3, .ref (ad 6)), (4, .int (nI i))]) hx hb dL_law_486 hl (by decide) rfl (fun ls hl => ?_)
  refine lv_aload_n hx hb dL_law_488 rfl (lv_at hl 3 rfl) ?_
  refine la_arg M w hX hbl hbA hL hl 1 5 rfl rfl (k := 1) (show Int32.ofInt 1 = nI 1 from rfl) (by omega) x1 489 dL_law_489 dL_law_490 dL_law_492 dL_law_493 dL_law_494 ?_
  refine mx_Vv M w (kX4_cancel l D cy C1 ad e1 H.size a1 hB1 hM1 ha1) (cwV 1 M.1.2.2.2.2 gL_law_X4_cancel rfl rfl rfl (by decide +kernel) ⟨Nat.le_of_ble_eq_true rfl, Nat.le_of_ble_eq_true rfl⟩) (mo_rec M w (hB1 7 (by decide)) (g := G cy ad e1) (sh_7 cy ad (e1 7)) rfl) rfl hl.1 rfl (Nat.le_of_ble_eq_true rfl) dL_law_495 ⟨by show cells + 2 + 0 ≤ 601024; omega, by show slots + 12 + 0 ≤ 7293034; omega⟩ (fun u1 H locs hp w => ?_)
  obtain ⟨e2, rfl, hI2, hC2, q1, q2, q3⟩ := hst cy ad u1 hp
  refine la_tailv M w hB1 q1 hl 3 0 rfl rfl (cwV 0 M.1.2.2.2.2 gL_law_X4_thrown rfl rfl rfl (by decide +kernel) ⟨Nat.le_of_ble_eq_true rfl, Nat.le_of_ble_eq_true rfl⟩) ⟨by show cells + 2 + 0 ≤ 601024; omega, by show slots + 12 + 0 ≤ 7293034; omega⟩ 498 1558 dL_law_498 dL_law_499 dL_law_502 dL_law_504 dL_law_509 (by decide) (fun H locs w => ?_)
  refine W.widen (k := cells + 11) (n := slots + 3850) (by omega) (by omega) ?_
  exact kk C1 ad e2 H locs ls w hI2 hC2 (lv_sub hl [1, 2, 3, 4, 5] rfl)
set_option maxHeartbeats 4000000 in
set_option maxRecDepth 100000 in
theorem law_sick (hfl : l.stackTraces = false) (M : MC p s m #[Value.ref b] meth c code wsL_law RL 7 D cy A) (Th : TH A s s.heap) (hN : NC s) (hX : va_X b L xs s s.heap) (hbl : b < s.heap.size) (hbA : ¬ A b) (hL : L ≤ 2560) (hi : i + 5 ≤ L) (w : MO D A s.heap (C, ad, G cy ad e) H locs) (hI : INV e) (hC : CC (e 0 1) (e 0 3) C) (hl : lv_has ls 7 (lvL b ad i)) (hc : cells + 11 ≤ 601024) (hs : slots + 3850 ≤ 7293034)
    (kk : ∀ (C2 : List Nat) (ad2 : Nat → Nat) (e2 : Nat → Nat → Nat) (H2 : Heap) (locs2 : List Loc) (ls2 : Array Slot), MO D A s.heap (C2, ad2, G cy ad2 e2) H2 locs2 → INV e2 → CC (e2 0 1) (e2 0 3) C2 → lv_has ls2 7 (lvL b ad2 i) → W p l e9 room_1 s m #[Value.ref b] below meth c H2 locs2 (cells + 11) (slots + 3850) Q (F0 m 1558 ls2 [])) : W p l e9 room_1 s m #[Value.ref b] below meth c H locs cells slots Q (F0 m 512 ls []) := by
  have hx := M.1.1
  have hb := M.1.2.1
  have hB := hC.B
  have hl : lv_has ls 7 [(0, .ref b), (1, .ref (ad 0)), (2, .ref (ad 7)), (3, .ref (ad 6)), (4, .int (nI i))] := hl
  obtain ⟨a1, ha1, x1⟩ := nI_all (xs (i + 1))
  obtain ⟨a2, ha2, x2⟩ := nI_all (xs (i + 2))
  obtain ⟨a3, ha3, x3⟩ := nI_all (xs (i + 3))
  refine lv_aload_n hx hb dL_law_512 rfl (lv_at hl 1 rfl) ?_
  refine la_arg M w hX hbl hbA hL hl 0 4 rfl rfl (k := 1) (show Int32.ofInt 1 = nI 1 from rfl) (by omega) x1 513 dL_law_513 dL_law_514 dL_law_516 dL_law_517 dL_law_518 ?_
  refine la_arg M w hX hbl hbA hL hl 0 4 rfl rfl (k := 2) (show Int32.ofInt 2 = nI 2 from rfl) (by omega) x2 519 dL_law_519 dL_law_520 dL_law_522 dL_law_523 dL_law_524 ?_
  refine la_arg M w hX hbl hbA hL hl 0 4 rfl rfl (k := 3) (show Int32.ofInt 3 = nI 3 from rfl) (by omega) x3 525 dL_law_525 dL_law_526 dL_law_528 dL_law_529 dL_law_530 ?_
  refine lv_aload_n hx hb dL_law_531 rfl (lv_at hl 3 rfl) ?_
  refine mxw_SW M w Th hN (kL_sick l hfl D cy C ad e H.size a1 a2 a3 hC hI.1 ha1 ha2 ha3) (vx_cwSW 5 M.1.2.2.2.2 gL_law_L_sick rfl rfl rfl (by decide +kernel) ⟨Nat.le_of_ble_eq_true rfl, Nat.le_of_ble_eq_true rfl⟩) rfl hl.1 rfl (Nat.le_of_ble_eq_true rfl) dL_law_532 ⟨by show cells + 3 ≤ 601024; omega, by show slots + 18 ≤ 7293034; omega⟩ (fun r u1 H locs hp w => ?_)
  obtain ⟨j, v, e1, C1, ad1, rfl, hj, had, rfl, hT⟩ := hp
  have h6 := lw_h6 e1 v j
  have h60 := lw_h60 e1 v j
  generalize (if j = 0 then es e1 6 0 (lK v) else e1) = e' at w h6 h60
  obtain ⟨hB1, hM1, hst⟩ := stp_sick hI hC hT h6
  have hl : lv_has ls 7 [(0, .ref b), (1, .ref (ad1 0)), (2, .ref (ad1 7)), (3, .ref (ad1 6)), (4, .int (nI i))] := by
    have h9 := lvL_eq had hB b i
    unfold lvL at h9
    rw [h9] at hl
    exact hl
  refine lv_istore (lv' := [(5, .int (nI j)), (0, .ref b), (1, .ref (ad1 0)), (2, .ref (ad1 7)), (3, .ref (ad1 6)), (4, .int (nI i))]) hx hb dL_law_535 hl (by decide) rfl (fun ls hl => ?_)
  refine lv_aload_n hx hb dL_law_537 rfl (lv_at hl 3 rfl) ?_
  refine la_arg M w hX hbl hbA hL hl 1 5 rfl rfl (k := 1) (show Int32.ofInt 1 = nI 1 from rfl) (by omega) x1 538 dL_law_538 dL_law_539 dL_law_541 dL_law_542 dL_law_543 ?_
  refine la_arg M w hX hbl hbA hL hl 1 5 rfl rfl (k := 2) (show Int32.ofInt 2 = nI 2 from rfl) (by omega) x2 544 dL_law_544 dL_law_545 dL_law_547 dL_law_548 dL_law_549 ?_
  refine la_arg M w hX hbl hbA hL hl 1 5 rfl rfl (k := 3) (show Int32.ofInt 3 = nI 3 from rfl) (by omega) x3 550 dL_law_550 dL_law_551 dL_law_553 dL_law_554 dL_law_555 ?_
  refine mx_Vi M w (kX4_sick l D cy C1 ad1 e' H.size a1 a2 a3 hB1 hM1 ha1 ha2 ha3) (cwV 3 M.1.2.2.2.2 gL_law_X4_sick rfl rfl rfl (by decide +kernel) ⟨Nat.le_of_ble_eq_true rfl, Nat.le_of_ble_eq_true rfl⟩) (mo_rec M w (hB1 7 (by decide)) (g := G cy ad1 e') (sh_7 cy ad1 (e' 7)) rfl) rfl hl.1 rfl (Nat.le_of_ble_eq_true rfl) dL_law_556 ⟨by show cells + 3 + 0 ≤ 601024; omega, by show slots + 18 + 0 ≤ 7293034; omega⟩ (fun r u1 H locs hp w => ?_)
  obtain ⟨e2, rfl, hI2, hC2, q1, q2, q3⟩ := hst cy ad1 r u1 hp
  refine lv_istore (lv' := [(6, .int r), (5, .int (nI j)), (0, .ref b), (1, .ref (ad1 0)), (2, .ref (ad1 7)), (3, .ref (ad1 6)), (4, .int (nI i))]) hx hb dL_law_559 hl (by decide) rfl (fun ls hl => ?_)
  refine la_tail M w hB1 hj q1 q2 (fun z => by rw [q3]; exact h60 z) hl 4 5 1 0 rfl rfl rfl rfl (cwV 0 M.1.2.2.2.2 gL_law_X4_thrown rfl rfl rfl (by decide +kernel) ⟨Nat.le_of_ble_eq_true rfl, Nat.le_of_ble_eq_true rfl⟩) ⟨by show cells + 3 + 0 ≤ 601024; omega, by show slots + 18 + 0 ≤ 7293034; omega⟩ 561 1558 dL_law_561 dL_law_562 dL_law_565 dL_law_567 dL_law_572 dL_law_574 dL_law_577 dL_law_578 dL_law_579 dL_law_580 dL_law_582 dL_law_583 dL_law_584 dL_law_589 (by decide) (fun H locs w => ?_)
  refine W.widen (k := cells + 11) (n := slots + 3850) (by omega) (by omega) ?_
  exact kk C1 ad1 e2 H locs ls w hI2 hC2 (lv_sub hl [2, 3, 4, 5, 6] rfl)
end
