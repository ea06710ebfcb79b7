/-! ===== the turns of the law ===== -/
set_option maxHeartbeats 8000000 in
set_option maxRecDepth 100000 in
/-- a turn that enters -/
theorem law_ent {p : Program} {l : Launch} {e9 : Env} {s : State} {m : MethodId} {below : List Frame} {meth : Method} {c : Code} {D : va_G} {cy : Nat → ClassId} {b L : Nat} {xs : Nat → Int32} (hfl : l.stackTraces = false) (M : MC p s m #[Value.ref b] meth c code wsL_law RL 17 D cy (fun q : Nat => s.heap.size ≤ q)) (Th : TH (fun q : Nat => s.heap.size ≤ q) s s.heap) (hNC : NC s) (hX : va_X b L xs s s.heap) (hbl : b < s.heap.size) (hL : L ≤ 260) {i9 n8 cells slots : Nat} {C : List Nat} {ad : Nat → Nat} {e : Nat → Nat → Nat} {H : Heap} {locs : List Loc} {ls : Array Slot} {z : Int32} (hk : LK p l e9 s m below meth c D cy b (i9 + 1) n8) (w : MO D (fun q : Nat => s.heap.size ≤ q) s.heap (C, ad, G cy ad e) H locs) (hI : IV e) (hCC : CC (e 0 1) (e 0 3) C) (hc : cells + 100 * n8 + 80 ≤ 600104) (hs : slots + 5000 * n8 + 4500 ≤ 7301314) (h1 : 1 ≤ e 6 1) (hi9 : i9 < 70) (hl : lv_has ls 17 [(0, .ref b), (1, .ref (ad 0)), (2, .ref (ad 6)), (3, .ref (ad 7)), (4, .ref (ad 8)), (5, .ref (ad 9)), (6, .ref (ad 10)), (7, .ref (ad 11)), (8, .ref (ad 12)), (9, .int (nI i9)), (10, .int z)]) : W p l e9 room_1 s m #[Value.ref b] below meth c H locs cells slots (lw_Z below #[Value.ref b] s) (F0 m 213 ls []) := by
  have hx := M.1.1
  have hb := M.1.2.1
  have hB := hCC.B
  have hbA : ¬ (fun q : Nat => s.heap.size ≤ q) b := Nat.not_le.mpr hbl
  have hq2 := hI.2.2.2
  have hb3 := hI.b3
  have hv2 : VV e 7 2 = e 6 1 := rfl
  have hq0 : VV e 7 1 ≤ 1700 := hq2.1
  have hq3 : VV e 7 2 ≤ 2 := hq2.2.1
  refine lv_aload_n hx hb dL_law_213 rfl (lv_at hl 1 rfl) ?_
  refine lv_iload hx hb dL_law_214 (lv_at hl 10 rfl) ?_
  refine lv_iconst (v := nI 3) hx hb dL_law_216 (by decide) ?_
  refine lv_ishr hx hb dL_law_217 ?_
  refine lv_aload_n hx hb dL_law_218 rfl (lv_at hl 3 rfl) ?_
  refine lv_aload hx hb dL_law_219 (lv_at hl 4 rfl) ?_
  refine lv_aload hx hb dL_law_221 (lv_at hl 5 rfl) ?_
  refine lv_aload_n hx hb dL_law_223 rfl (lv_at hl 2 rfl) ?_
  refine mxp_Si M w Th hNC (kL_enters l hfl D cy C ad e H.size (z >>> ((nI 3) &&& 31)) hB hCC hI h1) (va_cwS 6 M.1.2.2.2.2 gL_law_L_enters rfl rfl rfl (by decide +kernel) ⟨Nat.le_of_ble_eq_true rfl, Nat.le_of_ble_eq_true rfl⟩) rfl hl.1 rfl (Nat.le_of_ble_eq_true rfl) dL_law_224 ⟨by show _ ≤ 600104; omega, by show _ ≤ 7301314; omega⟩ (fun r224 u1 H locs hp1 w => ?_)
  obtain ⟨rfl, C1, ad1, e1, had, rfl, hI1, hC1, h61⟩ := hp1
  refine mi_if_ne hx hb (by decide) 525 dL_law_227 (by decide) (fun h227 => ?_) (fun h227 => absurd h227 (by first | decide | omega))
  rw [← had 0 (hB 0 (by decide)), ← had 6 (hB 6 (by decide)), ← had 7 (hB 7 (by decide)), ← had 8 (hB 8 (by decide)), ← had 9 (hB 9 (by decide)), ← had 10 (hB 10 (by decide)), ← had 11 (hB 11 (by decide)), ← had 12 (hB 12 (by decide))] at hl
  exact law_ask hfl M Th hNC hX hbl hL hk w hI1 hC1 (by omega) (by omega) (by rw [h61]; exact h1) hi9 (lv_sub hl [0, 1, 2, 3, 4, 5, 6, 7, 8, 9, 10] rfl)

set_option maxHeartbeats 8000000 in
set_option maxRecDepth 100000 in
/-- a turn that sets hours -/
theorem law_hset {p : Program} {l : Launch} {e9 : Env} {s : State} {m : MethodId} {below : List Frame} {meth : Method} {c : Code} {D : va_G} {cy : Nat → ClassId} {b L : Nat} {xs : Nat → Int32} (hfl : l.stackTraces = false) (M : MC p s m #[Value.ref b] meth c code wsL_law RL 17 D cy (fun q : Nat => s.heap.size ≤ q)) (Th : TH (fun q : Nat => s.heap.size ≤ q) s s.heap) (hNC : NC s) (hX : va_X b L xs s s.heap) (hbl : b < s.heap.size) (hL : L ≤ 260) {i9 n8 cells slots : Nat} {C : List Nat} {ad : Nat → Nat} {e : Nat → Nat → Nat} {H : Heap} {locs : List Loc} {ls : Array Slot} {z : Int32} {p12 : Nat} (hk : LK p l e9 s m below meth c D cy b (i9 + 1) n8) (w : MO D (fun q : Nat => s.heap.size ≤ q) s.heap (C, ad, G cy ad e) H locs) (hI : IV e) (hCC : CC (e 0 1) (e 0 3) C) (hc : cells + 100 * n8 + 80 ≤ 600104) (hs : slots + 5000 * n8 + 4500 ≤ 7301314) (h1 : 1 ≤ e 6 1) (q12 : p12 < e 6 1) (hi9 : i9 < 70) (hl : lv_has ls 17 [(0, .ref b), (1, .ref (ad 0)), (2, .ref (ad 6)), (3, .ref (ad 7)), (4, .ref (ad 8)), (5, .ref (ad 9)), (6, .ref (ad 10)), (7, .ref (ad 11)), (8, .ref (ad 12)), (9, .int (nI i9)), (10, .int z), (12, .int (nI p12))]) : W p l e9 room_1 s m #[Value.ref b] below meth c H locs cells slots (lw_Z below #[Value.ref b] s) (F0 m 238 ls []) := by
  have hx := M.1.1
  have hb := M.1.2.1
  have hB := hCC.B
  have hbA : ¬ (fun q : Nat => s.heap.size ≤ q) b := Nat.not_le.mpr hbl
  have hq2 := hI.2.2.2
  have hb3 := hI.b3
  have hv2 : VV e 7 2 = e 6 1 := rfl
  have hq0 : VV e 7 1 ≤ 1700 := hq2.1
  have hq3 : VV e 7 2 ≤ 2 := hq2.2.1
  have hp2 := hI.two q12
  have h812 := hI.p8 q12
  refine lv_aload_n hx hb dL_law_238 rfl (lv_at hl 3 rfl) ?_
  refine lv_iconst (v := nI 4) hx hb dL_law_239 (by decide) ?_
  refine lv_iload hx hb dL_law_240 (lv_at hl 11 rfl) ?_
  refine mi_mul hx hb dL_law_242 ?_
  refine ex_iald M w (hB 7 (by decide)) (sh_7 cy ad) (by omega) (by decide) (rV_8 (e := e) hp2) dL_law_243 ?_
  refine lv_iload hx hb dL_law_244 (lv_at hl 10 rfl) ?_
  refine lv_bipush (v := nI 7) hx hb dL_law_246 (by decide) ?_
  refine lv_ishr hx hb dL_law_248 ?_
  refine lv_sipush (v := nI 700) hx hb dL_law_249 (by decide) ?_
  refine mx_Si M w (kL_low l D cy C ad e H.size (z >>> ((nI 7) &&& 31)) 700 (by omega) (by omega)) (va_cwS 2 M.1.2.2.2.2 gL_law_L_low rfl rfl rfl (by decide +kernel) ⟨Nat.le_of_ble_eq_true rfl, Nat.le_of_ble_eq_true rfl⟩) rfl hl.1 rfl (Nat.le_of_ble_eq_true rfl) dL_law_252 ⟨by show _ ≤ 600104; omega, by show _ ≤ 7301314; omega⟩ (fun r252 u1 H locs hp1 w => ?_)
  obtain ⟨j252, ⟨q252, rfl⟩, rfl⟩ := hp1
  refine mi_add hx hb dL_law_255 ?_
  refine lv_istore (lv' := [(13, .int (nI ((VV e 8 p12) + j252))), (0, .ref b), (1, .ref (ad 0)), (2, .ref (ad 6)), (3, .ref (ad 7)), (4, .ref (ad 8)), (5, .ref (ad 9)), (6, .ref (ad 10)), (7, .ref (ad 11)), (8, .ref (ad 12)), (9, .int (nI i9)), (10, .int z), (12, .int (nI p12))]) hx hb dL_law_256 hl (by decide) rfl (fun ls hl => ?_)
  refine lv_iload hx hb dL_law_258 (lv_at hl 0 rfl) ?_
  refine lv_sipush (v := nI 1800) hx hb dL_law_260 (by decide) ?_
  refine mi_ge hx hb (by omega) (by decide) 292 dL_law_263 (by decide) (fun h263 => ?_) (fun h263 => ?_)
  · refine lv_goto (tgt := 525) hx hb dL_law_292 (by decide) ?_
    exact law_ask hfl M Th hNC hX hbl hL hk w hI hCC (by omega) (by omega) h1 hi9 (lv_sub hl [1, 2, 3, 4, 5, 6, 7, 8, 9, 10, 11] rfl)
  · refine lv_aload_n hx hb dL_law_266 rfl (lv_at hl 2 rfl) ?_
    refine lv_iload hx hb dL_law_267 (lv_at hl 12 rfl) ?_
    refine lv_iload hx hb dL_law_269 (lv_at hl 0 rfl) ?_
    refine lv_iconst (v := nI 1) hx hb dL_law_271 (by decide) ?_
    refine lv_iload hx hb dL_law_272 (lv_at hl 11 rfl) ?_
    refine lv_bipush (v := nI 12) hx hb dL_law_274 (by decide) ?_
    refine lv_ishr hx hb dL_law_276 ?_
    refine lv_bipush (v := nI 10) hx hb dL_law_277 (by decide) ?_
    refine mx_Si M w (kL_low l D cy C ad e H.size (z >>> ((nI 12) &&& 31)) 10 (by omega) (by omega)) (va_cwS 2 M.1.2.2.2.2 gL_law_L_low rfl rfl rfl (by decide +kernel) ⟨Nat.le_of_ble_eq_true rfl, Nat.le_of_ble_eq_true rfl⟩) rfl hl.1 rfl (Nat.le_of_ble_eq_true rfl) dL_law_279 ⟨by show _ ≤ 600104; omega, by show _ ≤ 7301314; omega⟩ (fun r279 u1 H locs hp1 w => ?_)
    obtain ⟨j279, ⟨q279, rfl⟩, rfl⟩ := hp1
    refine mi_add hx hb dL_law_282 ?_
    refine lv_aload_n hx hb dL_law_283 rfl (lv_at hl 4 rfl) ?_
    refine mxp_Si M w Th hNC (kL_hoursSet l hfl D cy C ad e H.size p12 ((VV e 8 p12) + j252) (1 + j279) hB hCC hI q12 ⟨by omega, by omega⟩ ⟨by omega, by omega⟩) (va_cwS 5 M.1.2.2.2.2 gL_law_L_hoursSet rfl rfl rfl (by decide +kernel) ⟨Nat.le_of_ble_eq_true rfl, Nat.le_of_ble_eq_true rfl⟩) rfl hl.1 rfl (Nat.le_of_ble_eq_true rfl) dL_law_284 ⟨by show _ ≤ 600104; omega, by show _ ≤ 7301314; omega⟩ (fun r284 u1 H locs hp1 w => ?_)
    obtain ⟨rfl, C1, ad1, e1, had, rfl, hI1, hC1, h61⟩ := hp1
    refine mi_if_ne hx hb (by decide) 292 dL_law_287 (by decide) (fun h287 => ?_) (fun h287 => absurd h287 (by first | decide | omega))
    refine lv_goto (tgt := 525) hx hb dL_law_292 (by decide) ?_
    rw [← had 0 (hB 0 (by decide)), ← had 6 (hB 6 (by decide)), ← had 7 (hB 7 (by decide)), ← had 8 (hB 8 (by decide)), ← had 9 (hB 9 (by decide)), ← had 10 (hB 10 (by decide)), ← had 11 (hB 11 (by decide)), ← had 12 (hB 12 (by decide))] at hl
    exact law_ask hfl M Th hNC hX hbl hL hk w hI1 hC1 (by omega) (by omega) (by rw [h61]; exact h1) hi9 (lv_sub hl [1, 2, 3, 4, 5, 6, 7, 8, 9, 10, 11] rfl)

set_option maxHeartbeats 8000000 in
set_option maxRecDepth 100000 in
/-- a turn that passes days -/
theorem law_pass {p : Program} {l : Launch} {e9 : Env} {s : State} {m : MethodId} {below : List Frame} {meth : Method} {c : Code} {D : va_G} {cy : Nat → ClassId} {b L : Nat} {xs : Nat → Int32} (hfl : l.stackTraces = false) (M : MC p s m #[Value.ref b] meth c code wsL_law RL 17 D cy (fun q : Nat => s.heap.size ≤ q)) (Th : TH (fun q : Nat => s.heap.size ≤ q) s s.heap) (hNC : NC s) (hX : va_X b L xs s s.heap) (hbl : b < s.heap.size) (hL : L ≤ 260) {i9 n8 cells slots : Nat} {C : List Nat} {ad : Nat → Nat} {e : Nat → Nat → Nat} {H : Heap} {locs : List Loc} {ls : Array Slot} {z : Int32} (hk : LK p l e9 s m below meth c D cy b (i9 + 1) n8) (w : MO D (fun q : Nat => s.heap.size ≤ q) s.heap (C, ad, G cy ad e) H locs) (hI : IV e) (hCC : CC (e 0 1) (e 0 3) C) (hc : cells + 100 * n8 + 80 ≤ 600104) (hs : slots + 5000 * n8 + 4500 ≤ 7301314) (h1 : 1 ≤ e 6 1) (hi9 : i9 < 70) (hl : lv_has ls 17 [(0, .ref b), (1, .ref (ad 0)), (2, .ref (ad 6)), (3, .ref (ad 7)), (4, .ref (ad 8)), (5, .ref (ad 9)), (6, .ref (ad 10)), (7, .ref (ad 11)), (8, .ref (ad 12)), (9, .int (nI i9)), (10, .int z)]) : W p l e9 room_1 s m #[Value.ref b] below meth c H locs cells slots (lw_Z below #[Value.ref b] s) (F0 m 448 ls []) := by
  have hx := M.1.1
  have hb := M.1.2.1
  have hB := hCC.B
  have hbA : ¬ (fun q : Nat => s.heap.size ≤ q) b := Nat.not_le.mpr hbl
  have hq2 := hI.2.2.2
  have hb3 := hI.b3
  have hv2 : VV e 7 2 = e 6 1 := rfl
  have hq0 : VV e 7 1 ≤ 1700 := hq2.1
  have hq3 : VV e 7 2 ≤ 2 := hq2.2.1
  have cut498 : ∀ (dd : Nat) (hdd : dd = 0 ∨ ((1 ≤ dd ∧ dd ≤ 100) ∧ VV e 7 1 + dd ≤ 1700)) (H : Heap) (locs : List Loc), MO D (fun q : Nat => s.heap.size ≤ q) s.heap (C, ad, G cy ad e) H locs → ∀ (ls : Array Slot), lv_has ls 17 [(0, .ref b), (1, .ref (ad 0)), (2, .ref (ad 6)), (3, .ref (ad 7)), (4, .ref (ad 8)), (5, .ref (ad 9)), (6, .ref (ad 10)), (7, .ref (ad 11)), (8, .ref (ad 12)), (9, .int (nI i9)), (10, .int z), (13, .int (nI dd))] → W p l e9 room_1 s m #[Value.ref b] below meth c H locs cells slots (lw_Z below #[Value.ref b] s) (F0 m 498 ls []) := by
    intro dd hdd H locs w ls hl
    refine lv_aload_n hx hb dL_law_498 rfl (lv_at hl 2 rfl) ?_
    refine lv_iconst (v := nI 0) hx hb dL_law_499 (by decide) ?_
    refine lv_dup2_11 hx hb dL_law_500 rfl rfl ?_
    refine ex_iald M w (hB 6 (by decide)) (sh_6 cy ad) (by omega) (by decide) (rV_q0 e) dL_law_501 ?_
    refine lv_iload hx hb dL_law_502 (lv_at hl 11 rfl) ?_
    refine mi_add hx hb dL_law_504 ?_
    refine ex_iast M w (hB 6 (by decide)) (sh_6 cy ad) (v := ((VV e 7 1) + dd)) (by omega) (by decide) dL_law_505 (fun H locs w => ?_)
    obtain ⟨e1, he1⟩ : ∃ z, z = (es e 6 0 ((VV e 7 1) + dd)) := ⟨_, rfl⟩
    rw [← he1] at w
    have o1 : OffR e e1 := by rw [he1]; exact (OffR.rf e).es (by omega)
    have h60 : e1 6 0 = VV e 7 1 + dd := by rw [he1]; exact es_same _ _ _ _
    have h06 : e1 0 6 = VV e 7 1 := by rw [o1.z]; exact hI.n6
    have hCC1 : CC (e1 0 1) (e1 0 3) C := o1.cc hCC
    refine lv_iload hx hb dL_law_506 (lv_at hl 11 rfl) ?_
    refine mi_if_le hx hb (by omega) 525 dL_law_508 (by decide) (fun h508 => ?_) (fun h508 => ?_)
    · rw [he1, show dd = 0 by omega, show es e 6 0 (VV e 7 1 + 0) = e from es_id e 6 0] at w
      exact law_ask hfl M Th hNC hX hbl hL hk w hI hCC (by omega) (by omega) h1 hi9 (lv_sub hl [0, 1, 2, 3, 4, 5, 6, 7, 8, 9, 10] rfl)
    · refine lv_aload_n hx hb dL_law_511 rfl (lv_at hl 1 rfl) ?_
      refine lv_iload hx hb dL_law_512 (lv_at hl 11 rfl) ?_
      refine mxc_Vi M w Th (kX3_pass l hfl D cy C ad e1 H.size dd (hCC1.B) (hI.1.fr o1.xf) (by omega)) (cwV 1 M.1.2.2.2.2 gL_law_X3_pass rfl rfl rfl (by decide +kernel) ⟨Nat.le_of_ble_eq_true rfl, Nat.le_of_ble_eq_true rfl⟩) (mo_rec M w (hB 0 (by decide)) (g := G cy ad e1) (sh_0 cy ad (e1 0)) rfl) rfl hl.1 rfl (Nat.le_of_ble_eq_true rfl) dL_law_514 ⟨by show _ ≤ 600104; omega, by show _ ≤ 7301314; omega⟩ (fun E ce q9 u1 H locs hce hcv hcl hp9 w => (hp9.elim (fun h => (h.1 (by rcases hdd with q | q; omega; exact ⟨q.1.1, by omega⟩)).elim) (fun h => (h.2.1 (by rw [h06]; omega)).elim))) (fun r514 u1 H locs hp1 w => ?_)
      obtain ⟨_, rfl, rfl⟩ := hp1
      rw [h06]
      rw [h06] at w
      refine lv_aload_n hx hb dL_law_517 rfl (lv_at hl 2 rfl) ?_
      refine lv_iconst (v := nI 0) hx hb dL_law_518 (by decide) ?_
      refine ex_iald M w (hB 6 (by decide)) (sh_6 cy ad) (by omega) (by decide) ((es_ne _ _ (by omega)).trans h60) dL_law_519 ?_
      refine lv_icmp_eq (tgt := 525) hx hb dL_law_520 (by decide) (fun h520 => ?_) (fun h => absurd rfl h)
      have hIx := IV_ps (d := dd) hI (by rcases hdd with q | q; omega; exact q.2)
      have e06 : e 0 6 = VV e 7 1 := hI.n6
      have hf : es (es e 6 0 (e 6 0 + dd)) 0 6 (e 0 6 + dd) = es e1 0 6 (VV e 7 1 + dd) := by rw [he1, e06]; rfl
      rw [hf] at hIx
      have hCx : CC (es e1 0 6 (VV e 7 1 + dd) 0 1) (es e1 0 6 (VV e 7 1 + dd) 0 3) C := by rw [es_ne _ _ (by omega), es_ne _ _ (by omega)]; exact hCC1
      have h6x : 1 ≤ es e1 0 6 (VV e 7 1 + dd) 6 1 := by rw [es_ne _ _ (by omega), he1, es_ne _ _ (by omega)]; exact h1
      exact law_ask hfl M Th hNC hX hbl hL hk w hIx hCx (by omega) (by omega) h6x hi9 (lv_sub hl [0, 1, 2, 3, 4, 5, 6, 7, 8, 9, 10] rfl)
  have cut478 : ∀ (ds : Nat) (hds : 1 ≤ ds ∧ ds ≤ 100) (H : Heap) (locs : List Loc), MO D (fun q : Nat => s.heap.size ≤ q) s.heap (C, ad, G cy ad e) H locs → ∀ (ls : Array Slot), lv_has ls 17 [(0, .ref b), (1, .ref (ad 0)), (2, .ref (ad 6)), (3, .ref (ad 7)), (4, .ref (ad 8)), (5, .ref (ad 9)), (6, .ref (ad 10)), (7, .ref (ad 11)), (8, .ref (ad 12)), (9, .int (nI i9)), (10, .int z), (13, .int (nI ds))] → W p l e9 room_1 s m #[Value.ref b] below meth c H locs cells slots (lw_Z below #[Value.ref b] s) (F0 m 478 ls []) := by
    intro ds hds H locs w ls hl
    refine lv_aload_n hx hb dL_law_478 rfl (lv_at hl 2 rfl) ?_
    refine lv_iconst (v := nI 0) hx hb dL_law_479 (by decide) ?_
    refine ex_iald M w (hB 6 (by decide)) (sh_6 cy ad) (by omega) (by decide) (rV_q0 e) dL_law_480 ?_
    refine lv_iload hx hb dL_law_481 (lv_at hl 11 rfl) ?_
    refine mi_add hx hb dL_law_483 ?_
    refine lv_sipush (v := nI 1700) hx hb dL_law_484 (by decide) ?_
    refine mi_le hx hb (by omega) (by decide) 494 dL_law_487 (by decide) (fun h487 => ?_) (fun h487 => ?_)
    · refine lv_iload hx hb dL_law_494 (lv_at hl 11 rfl) ?_
      refine lv_istore (lv' := [(13, .int (nI ds)), (0, .ref b), (1, .ref (ad 0)), (2, .ref (ad 6)), (3, .ref (ad 7)), (4, .ref (ad 8)), (5, .ref (ad 9)), (6, .ref (ad 10)), (7, .ref (ad 11)), (8, .ref (ad 12)), (9, .int (nI i9)), (10, .int z)]) hx hb dL_law_496 hl (by decide) rfl (fun ls hl => ?_)
      exact cut498 _ (by omega)  _ _ w ls (lv_sub hl [1, 2, 3, 4, 5, 6, 7, 8, 9, 10, 11, 0] rfl)
    · refine lv_iconst (v := nI 0) hx hb dL_law_490 (by decide) ?_
      refine lv_goto (tgt := 496) hx hb dL_law_491 (by decide) ?_
      refine lv_istore (lv' := [(13, .int (nI 0)), (0, .ref b), (1, .ref (ad 0)), (2, .ref (ad 6)), (3, .ref (ad 7)), (4, .ref (ad 8)), (5, .ref (ad 9)), (6, .ref (ad 10)), (7, .ref (ad 11)), (8, .ref (ad 12)), (9, .int (nI i9)), (10, .int z)]) hx hb dL_law_496 hl (by decide) rfl (fun ls hl => ?_)
      exact cut498 _ (by omega)  _ _ w ls (lv_sub hl [1, 2, 3, 4, 5, 6, 7, 8, 9, 10, 11, 0] rfl)
  refine lv_iconst (v := nI 1) hx hb dL_law_448 (by decide) ?_
  refine lv_iload hx hb dL_law_449 (lv_at hl 10 rfl) ?_
  refine lv_iconst (v := nI 5) hx hb dL_law_451 (by decide) ?_
  refine lv_ishr hx hb dL_law_452 ?_
  refine lv_iload hx hb dL_law_453 (lv_at hl 10 rfl) ?_
  refine lv_bipush (v := nI 17) hx hb dL_law_455 (by decide) ?_
  refine lv_ishr hx hb dL_law_457 ?_
  refine lv_iconst (v := nI 2) hx hb dL_law_458 (by decide) ?_
  refine mx_Si M w (kL_low l D cy C ad e H.size (z >>> ((nI 17) &&& 31)) 2 (by omega) (by omega)) (va_cwS 2 M.1.2.2.2.2 gL_law_L_low rfl rfl rfl (by decide +kernel) ⟨Nat.le_of_ble_eq_true rfl, Nat.le_of_ble_eq_true rfl⟩) rfl hl.1 rfl (Nat.le_of_ble_eq_true rfl) dL_law_459 ⟨by show _ ≤ 600104; omega, by show _ ≤ 7301314; omega⟩ (fun r459 u1 H locs hp1 w => ?_)
  obtain ⟨j459, ⟨q459, rfl⟩, rfl⟩ := hp1
  refine mi_if_ne hx hb (by omega) 470 dL_law_462 (by decide) (fun h462 => ?_) (fun h462 => ?_)
  · refine lv_bipush (v := nI 30) hx hb dL_law_470 (by decide) ?_
    refine mx_Si M w (kL_low l D cy C ad e H.size (z >>> ((nI 5) &&& 31)) 30 (by omega) (by omega)) (va_cwS 2 M.1.2.2.2.2 gL_law_L_low rfl rfl rfl (by decide +kernel) ⟨Nat.le_of_ble_eq_true rfl, Nat.le_of_ble_eq_true rfl⟩) rfl hl.1 rfl (Nat.le_of_ble_eq_true rfl) dL_law_472 ⟨by show _ ≤ 600104; omega, by show _ ≤ 7301314; omega⟩ (fun r472 u1 H locs hp1 w => ?_)
    obtain ⟨j472, ⟨q472, rfl⟩, rfl⟩ := hp1
    refine mi_add hx hb dL_law_475 ?_
    refine lv_istore (lv' := [(13, .int (nI (1 + j472))), (0, .ref b), (1, .ref (ad 0)), (2, .ref (ad 6)), (3, .ref (ad 7)), (4, .ref (ad 8)), (5, .ref (ad 9)), (6, .ref (ad 10)), (7, .ref (ad 11)), (8, .ref (ad 12)), (9, .int (nI i9)), (10, .int z)]) hx hb dL_law_476 hl (by decide) rfl (fun ls hl => ?_)
    exact cut478 _ (by omega)  _ _ w ls (lv_sub hl [1, 2, 3, 4, 5, 6, 7, 8, 9, 10, 11, 0] rfl)
  · refine lv_bipush (v := nI 100) hx hb dL_law_465 (by decide) ?_
    refine lv_goto (tgt := 472) hx hb dL_law_467 (by decide) ?_
    refine mx_Si M w (kL_low l D cy C ad e H.size (z >>> ((nI 5) &&& 31)) 100 (by omega) (by omega)) (va_cwS 2 M.1.2.2.2.2 gL_law_L_low rfl rfl rfl (by decide +kernel) ⟨Nat.le_of_ble_eq_true rfl, Nat.le_of_ble_eq_true rfl⟩) rfl hl.1 rfl (Nat.le_of_ble_eq_true rfl) dL_law_472 ⟨by show _ ≤ 600104; omega, by show _ ≤ 7301314; omega⟩ (fun r472 u1 H locs hp1 w => ?_)
    obtain ⟨j472, ⟨q472, rfl⟩, rfl⟩ := hp1
    refine mi_add hx hb dL_law_475 ?_
    refine lv_istore (lv' := [(13, .int (nI (1 + j472))), (0, .ref b), (1, .ref (ad 0)), (2, .ref (ad 6)), (3, .ref (ad 7)), (4, .ref (ad 8)), (5, .ref (ad 9)), (6, .ref (ad 10)), (7, .ref (ad 11)), (8, .ref (ad 12)), (9, .int (nI i9)), (10, .int z)]) hx hb dL_law_476 hl (by decide) rfl (fun ls hl => ?_)
    exact cut478 _ (by omega)  _ _ w ls (lv_sub hl [1, 2, 3, 4, 5, 6, 7, 8, 9, 10, 11, 0] rfl)

set_option maxHeartbeats 8000000 in
set_option maxRecDepth 100000 in
/-- a turn that pays out -/
theorem law_pay {p : Program} {l : Launch} {e9 : Env} {s : State} {m : MethodId} {below : List Frame} {meth : Method} {c : Code} {D : va_G} {cy : Nat → ClassId} {b L : Nat} {xs : Nat → Int32} (hfl : l.stackTraces = false) (M : MC p s m #[Value.ref b] meth c code wsL_law RL 17 D cy (fun q : Nat => s.heap.size ≤ q)) (Th : TH (fun q : Nat => s.heap.size ≤ q) s s.heap) (hNC : NC s) (hX : va_X b L xs s s.heap) (hbl : b < s.heap.size) (hL : L ≤ 260) {i9 n8 cells slots : Nat} {C : List Nat} {ad : Nat → Nat} {e : Nat → Nat → Nat} {H : Heap} {locs : List Loc} {ls : Array Slot} {z : Int32} {p12 : Nat} (hk : LK p l e9 s m below meth c D cy b (i9 + 1) n8) (w : MO D (fun q : Nat => s.heap.size ≤ q) s.heap (C, ad, G cy ad e) H locs) (hI : IV e) (hCC : CC (e 0 1) (e 0 3) C) (hc : cells + 100 * n8 + 80 ≤ 600104) (hs : slots + 5000 * n8 + 4500 ≤ 7301314) (h1 : 1 ≤ e 6 1) (q12 : p12 < e 6 1) (hq4 : VV e 7 19 < 10) (hi9 : i9 < 70) (hl : lv_has ls 17 [(0, .ref b), (1, .ref (ad 0)), (2, .ref (ad 6)), (3, .ref (ad 7)), (4, .ref (ad 8)), (5, .ref (ad 9)), (6, .ref (ad 10)), (7, .ref (ad 11)), (8, .ref (ad 12)), (9, .int (nI i9)), (10, .int z), (12, .int (nI p12))]) : W p l e9 room_1 s m #[Value.ref b] below meth c H locs cells slots (lw_Z below #[Value.ref b] s) (F0 m 310 ls []) := by
  have hx := M.1.1
  have hb := M.1.2.1
  have hB := hCC.B
  have hbA : ¬ (fun q : Nat => s.heap.size ≤ q) b := Nat.not_le.mpr hbl
  have hq2 := hI.2.2.2
  have hb3 := hI.b3
  have hv2 : VV e 7 2 = e 6 1 := rfl
  have hq0 : VV e 7 1 ≤ 1700 := hq2.1
  have hq3 : VV e 7 2 ≤ 2 := hq2.2.1
  have hp2 := hI.two q12
  have h812 := hI.p8 q12
  have cut343 : ∀ (pt : Nat) (hpt : 1 ≤ pt ∧ pt ≤ 20000) (H : Heap) (locs : List Loc), MO D (fun q : Nat => s.heap.size ≤ q) s.heap (C, ad, G cy ad e) H locs → ∀ (ls : Array Slot), lv_has ls 17 [(0, .ref b), (1, .ref (ad 0)), (2, .ref (ad 6)), (3, .ref (ad 7)), (4, .ref (ad 8)), (5, .ref (ad 9)), (6, .ref (ad 10)), (7, .ref (ad 11)), (8, .ref (ad 12)), (9, .int (nI i9)), (10, .int z), (12, .int (nI p12)), (13, .int (nI pt))] → W p l e9 room_1 s m #[Value.ref b] below meth c H locs cells slots (lw_Z below #[Value.ref b] s) (F0 m 343 ls []) := by
    intro pt hpt H locs w ls hl
    refine lv_iload hx hb dL_law_343 (lv_at hl 11 rfl) ?_
    refine lv_aload_n hx hb dL_law_345 rfl (lv_at hl 2 rfl) ?_
    refine lv_iconst (v := nI 0) hx hb dL_law_346 (by decide) ?_
    refine ex_iald M w (hB 6 (by decide)) (sh_6 cy ad) (by omega) (by decide) (rV_q0 e) dL_law_347 ?_
    refine lv_aload_n hx hb dL_law_348 rfl (lv_at hl 3 rfl) ?_
    refine lv_aload hx hb dL_law_349 (lv_at hl 4 rfl) ?_
    refine lv_aload hx hb dL_law_351 (lv_at hl 5 rfl) ?_
    refine lv_aload hx hb dL_law_353 (lv_at hl 6 rfl) ?_
    refine lv_aload hx hb dL_law_355 (lv_at hl 7 rfl) ?_
    refine lv_aload hx hb dL_law_357 (lv_at hl 8 rfl) ?_
    refine lv_aload_n hx hb dL_law_359 rfl (lv_at hl 2 rfl) ?_
    refine mx_Sv M w (kL_go l D cy C ad e H.size p12 (VV e 7 1) hB hI.2.1 hb3 hp2 (hI.mp q12) (hI.rd q12) (by omega) (by omega)) (va_cwS 9 M.1.2.2.2.2 gL_law_L_go rfl rfl rfl (by decide +kernel) ⟨Nat.le_of_ble_eq_true rfl, Nat.le_of_ble_eq_true rfl⟩) rfl hl.1 rfl (Nat.le_of_ble_eq_true rfl) dL_law_360 ⟨by show _ ≤ 600104; omega, by show _ ≤ 7301314; omega⟩ (fun u1 H locs hp1 w => ?_)
    obtain rfl := hp1
    obtain ⟨X, hX9⟩ : ∃ z, z = (goL (VV e) e p12 (VV e 7 1 + 1 - VV e 8 p12)) := ⟨_, rfl⟩
    rw [← hX9] at w
    have oX : OffL e X := by rw [hX9]; exact OffL_go _ _ _ _
    have xX : XF e X := (CH_X oX).1
    have hG := GM_go hI.2.1 (hI.mp q12) (VV e 7 1 + 1 - VV e 8 p12)
    have hLL : LL X (goM (VV e) p12 (VV e 7 1 + 1 - VV e 8 p12)) (VV e 8 p12 + (VV e 7 1 + 1 - VV e 8 p12)) := by rw [hX9]; exact LL_go (VV e) e p12 _ (by omega)
    have qt := hLL.tot
    have qm := totM_le hG
    refine lv_aload hx hb dL_law_363 (lv_at hl 7 rfl) ?_
    refine mx_Si M w (kL_sum l D cy C ad X H.size hB) (va_cwS 1 M.1.2.2.2.2 gL_law_L_sum rfl rfl rfl (by decide +kernel) ⟨Nat.le_of_ble_eq_true rfl, Nat.le_of_ble_eq_true rfl⟩) rfl hl.1 rfl (Nat.le_of_ble_eq_true rfl) dL_law_365 ⟨by show _ ≤ 600104; omega, by show _ ≤ 7301314; omega⟩ (fun r365 u1 H locs hp1 w => ?_)
    obtain ⟨rfl, rfl⟩ := hp1
    refine lv_iload hx hb dL_law_368 (lv_at hl 12 rfl) ?_
    refine mi_ge hx hb (by omega) (by omega) 378 dL_law_370 (by decide) (fun h370 => ?_) (fun h370 => ?_)
    · refine lv_aload_n hx hb dL_law_378 rfl (lv_at hl 2 rfl) ?_
      refine lv_iconst (v := nI 4) hx hb dL_law_379 (by decide) ?_
      refine ex_iald M w (hB 6 (by decide)) (sh_6 cy ad) (by omega) (by decide) ((congrFun (oX 6 (by decide) (by decide)) _).trans (rV_q4 e)) dL_law_380 ?_
      refine lv_istore (lv' := [(14, .int (nI (VV e 7 19))), (0, .ref b), (1, .ref (ad 0)), (2, .ref (ad 6)), (3, .ref (ad 7)), (4, .ref (ad 8)), (5, .ref (ad 9)), (6, .ref (ad 10)), (7, .ref (ad 11)), (8, .ref (ad 12)), (9, .int (nI i9)), (10, .int z), (12, .int (nI p12)), (13, .int (nI pt))]) hx hb dL_law_381 hl (by decide) rfl (fun ls hl => ?_)
      refine lv_iload hx hb dL_law_383 (lv_at hl 0 rfl) ?_
      refine mi_if_lt hx hb (by omega) 427 dL_law_385 (by decide) (fun h => h.elim) (fun _ => ?_)
      refine lv_aload hx hb dL_law_388 (lv_at hl 7 rfl) ?_
      refine lv_iconst (v := nI 3) hx hb dL_law_390 (by decide) ?_
      refine lv_iload hx hb dL_law_391 (lv_at hl 0 rfl) ?_
      refine mi_mul hx hb dL_law_393 ?_
      refine lv_iload hx hb dL_law_394 (lv_at hl 12 rfl) ?_
      refine ex_iast M w (hB 10 (by decide)) (sh_10 cy ad) (v := p12) (by omega) (by decide) dL_law_396 (fun H locs w => ?_)
      refine lv_aload hx hb dL_law_397 (lv_at hl 7 rfl) ?_
      refine lv_iconst (v := nI 3) hx hb dL_law_399 (by decide) ?_
      refine lv_iload hx hb dL_law_400 (lv_at hl 0 rfl) ?_
      refine mi_mul hx hb dL_law_402 ?_
      refine lv_iconst (v := nI 1) hx hb dL_law_403 (by decide) ?_
      refine mi_add hx hb dL_law_404 ?_
      refine lv_aload_n hx hb dL_law_405 rfl (lv_at hl 3 rfl) ?_
      refine lv_iconst (v := nI 0) hx hb dL_law_406 (by decide) ?_
      refine ex_iald M w (hB 6 (by decide)) (sh_6 cy ad) (by omega) (by decide) ((es_ne _ _ (by first | omega | (unfold PB; omega) | (unfold RB; omega) | (unfold PB RB; omega))).trans ((congrFun (oX 6 (by decide) (by decide)) _).trans (rV_q0 e))) dL_law_407 ?_
      refine ex_iast M w (hB 10 (by decide)) (sh_10 cy ad) (v := (VV e 7 1)) (by omega) (by decide) dL_law_408 (fun H locs w => ?_)
      refine lv_aload hx hb dL_law_409 (lv_at hl 7 rfl) ?_
      refine lv_iconst (v := nI 3) hx hb dL_law_411 (by decide) ?_
      refine lv_iload hx hb dL_law_412 (lv_at hl 0 rfl) ?_
      refine mi_mul hx hb dL_law_414 ?_
      refine lv_iconst (v := nI 2) hx hb dL_law_415 (by decide) ?_
      refine mi_add hx hb dL_law_416 ?_
      refine lv_iload hx hb dL_law_417 (lv_at hl 13 rfl) ?_
      refine ex_iast M w (hB 10 (by decide)) (sh_10 cy ad) (v := pt) (by omega) (by decide) dL_law_419 (fun H locs w => ?_)
      refine lv_aload_n hx hb dL_law_420 rfl (lv_at hl 3 rfl) ?_
      refine lv_iconst (v := nI 4) hx hb dL_law_421 (by decide) ?_
      refine lv_dup2_11 hx hb dL_law_422 rfl rfl ?_
      refine ex_iald M w (hB 6 (by decide)) (sh_6 cy ad) (by omega) (by decide) ((es_ne _ _ (by first | omega | (unfold PB; omega) | (unfold RB; omega) | (unfold PB RB; omega))).trans ((es_ne _ _ (by first | omega | (unfold PB; omega) | (unfold RB; omega) | (unfold PB RB; omega))).trans ((es_ne _ _ (by first | omega | (unfold PB; omega) | (unfold RB; omega) | (unfold PB RB; omega))).trans ((congrFun (oX 6 (by decide) (by decide)) _).trans (rV_q4 e))))) dL_law_423 ?_
      refine lv_iconst (v := nI 1) hx hb dL_law_424 (by decide) ?_
      refine mi_add hx hb dL_law_425 ?_
      refine ex_iast M w (hB 6 (by decide)) (sh_6 cy ad) (v := ((VV e 7 19) + 1)) (by omega) (by decide) dL_law_426 (fun H locs w => ?_)
      have x60 : X 6 0 = VV e 7 1 := congrFun (oX 6 (by decide) (by decide)) 0
      obtain ⟨e1, he1⟩ : ∃ z, z = pyL X (VV e 7 19) p12 pt := ⟨_, rfl⟩
      rw [show (es (es (es (es X 10 (3 * (VV e 7 19)) p12) 10 ((3 * (VV e 7 19)) + 1) (VV e 7 1)) 10 ((3 * (VV e 7 19)) + 2) pt) 6 4 ((VV e 7 19) + 1)) = e1 by rw [he1]; unfold pyL; rw [x60]] at w
      have o1 : OffR X e1 := by rw [he1]; exact OffR_py _ _ _ _
      have x1 : XF e e1 := xX.tr o1.xf
      have z1 : e1 0 = e 0 := x1 0 (Or.inl (by decide))
      have hCX : CC (e1 0 1) (e1 0 3) C := by rw [z1]; exact hCC
      have h06 : e1 0 6 = VV e 7 1 := by rw [z1]; exact hI.n6
      have ak : AKP X (goC e1 p12 (e1 0 6 + 1 - e1 (PB p12) 0)) := by rw [h06]; exact AK hI q12 (by omega) hX9 x1
      have h01 : p12 < e1 0 1 := by rw [z1, hI.n1]; exact q12
      have h05e : e1 0 5 = VV e 7 19 := by rw [z1]; exact hI.n5
      have h05 : e1 0 5 < 20 := by rw [h05e]; omega
      have hv1 : ∀ c, 6 ≤ c → c ≤ 10 → goC e1 p12 (e1 0 6 + 1 - e1 (PB p12) 0) c = pyL e (VV e 7 19) p12 pt c := fun c a b => by rw [Off_go e1 p12 _ c (by omega) (by omega) (by omega), he1]; exact pyL_congr (fun c a b => oX c (by omega) (by omega)) _ _ _ c a b
      have hIx := IV_py (h := pt) hI q12 (by omega) hq4 (x1.tr (XF_off (Off_go e1 p12 (e1 0 6 + 1 - e1 (PB p12) 0)))) hv1
      have hCx : CC (pyC (goC e1 p12 (e1 0 6 + 1 - e1 (PB p12) 0)) p12 pt 0 1) (pyC (goC e1 p12 (e1 0 6 + 1 - e1 (PB p12) 0)) p12 pt 0 3) C := by rw [(pyC_0 _ _ _).1, (pyC_0 _ _ _).2, Off_go e1 p12 _ 0 (by decide) (by decide) (by decide)]; exact hCX
      have h6x : pyC (goC e1 p12 (e1 0 6 + 1 - e1 (PB p12) 0)) p12 pt 6 1 = e 6 1 := by rw [pyC_mid _ _ _ 6 (by decide) (by decide), hv1 6 (by decide) (by decide)]; unfold pyL; rw [es_ne _ _ (by omega), es_off _ _ _ (by decide), es_off _ _ _ (by decide), es_off _ _ _ (by decide)]
      refine lv_aload_n hx hb dL_law_427 rfl (lv_at hl 2 rfl) ?_
      refine lv_iconst (v := nI 3) hx hb dL_law_428 (by decide) ?_
      refine lv_iload hx hb dL_law_429 (lv_at hl 12 rfl) ?_
      refine lv_iload hx hb dL_law_431 (lv_at hl 13 rfl) ?_
      refine lv_iconst (v := nI 0) hx hb dL_law_433 (by decide) ?_
      refine lv_iconst (v := nI 0) hx hb dL_law_434 (by decide) ?_
      refine mxw_SW M w Th hNC (kL_calls3 l hfl D cy C ad e1 H.size p12 pt 0 0 hB hCX (hI.1.fr x1) ⟨h01, hpt, h05⟩ (by omega)) (vx_cwSW 6 M.1.2.2.2.2 gL_law_L_calls rfl rfl rfl (by decide +kernel) ⟨Nat.le_of_ble_eq_true rfl, Nat.le_of_ble_eq_true rfl⟩) rfl hl.1 rfl (Nat.le_of_ble_eq_true rfl) dL_law_435 ⟨by show _ ≤ 600104; omega, by show _ ≤ 7301314; omega⟩ (fun r435 u1 H locs hp1 w => ?_)
      obtain ⟨_, rfl, rfl⟩ := hp1.resolve_left (fun z => absurd z.1 (by rw [ak.1]; omega))
      rw [pyC_go] at w
      rw [h05e]
      refine lv_iload hx hb dL_law_438 (lv_at hl 0 rfl) ?_
      refine lv_icmp_eq (tgt := 445) hx hb dL_law_440 (by decide) (fun h440 => ?_) (fun h => absurd rfl h)
      refine lv_goto (tgt := 525) hx hb dL_law_445 (by decide) ?_
      exact law_ask hfl M Th hNC hX hbl hL hk w hIx hCx (by omega) (by omega) (by rw [h6x]; exact h1) hi9 (lv_sub hl [1, 2, 3, 4, 5, 6, 7, 8, 9, 10, 11] rfl)
    · refine lv_bipush (v := (-3)) hx hb dL_law_373 (by decide) ?_
      refine lv_goto (tgt := 381) hx hb dL_law_375 (by decide) ?_
      refine lv_istore (lv' := [(14, .int (-3)), (0, .ref b), (1, .ref (ad 0)), (2, .ref (ad 6)), (3, .ref (ad 7)), (4, .ref (ad 8)), (5, .ref (ad 9)), (6, .ref (ad 10)), (7, .ref (ad 11)), (8, .ref (ad 12)), (9, .int (nI i9)), (10, .int z), (12, .int (nI p12)), (13, .int (nI pt))]) hx hb dL_law_381 hl (by decide) rfl (fun ls hl => ?_)
      refine lv_iload hx hb dL_law_383 (lv_at hl 0 rfl) ?_
      refine lv_if_lt (tgt := 427) hx hb dL_law_385 (by decide) (fun h385 => ?_) (fun h => absurd (by decide) h)
      have c0 := CH_X oX
      have hCX : CC (X 0 1) (X 0 3) C := by rw [c0.e0]; exact hCC
      have h06 : X 0 6 = VV e 7 1 := by rw [c0.e0]; exact hI.n6
      have ak : AKP X (goC X p12 (X 0 6 + 1 - X (PB p12) 0)) := by rw [h06]; exact AK hI q12 (by omega) hX9 xX
      have h01 : p12 < X 0 1 := by rw [c0.e0, hI.n1]; exact q12
      have h05 : X 0 5 < 20 := by rw [c0.e0, hI.n5]; exact Nat.lt_trans hq4 (by decide)
      refine lv_aload_n hx hb dL_law_427 rfl (lv_at hl 2 rfl) ?_
      refine lv_iconst (v := nI 3) hx hb dL_law_428 (by decide) ?_
      refine lv_iload hx hb dL_law_429 (lv_at hl 12 rfl) ?_
      refine lv_iload hx hb dL_law_431 (lv_at hl 13 rfl) ?_
      refine lv_iconst (v := nI 0) hx hb dL_law_433 (by decide) ?_
      refine lv_iconst (v := nI 0) hx hb dL_law_434 (by decide) ?_
      refine mxw_SW M w Th hNC (kL_calls3 l hfl D cy C ad X H.size p12 pt 0 0 hB hCX (hI.1.fr xX) ⟨h01, hpt, h05⟩ (by omega)) (vx_cwSW 6 M.1.2.2.2.2 gL_law_L_calls rfl rfl rfl (by decide +kernel) ⟨Nat.le_of_ble_eq_true rfl, Nat.le_of_ble_eq_true rfl⟩) rfl hl.1 rfl (Nat.le_of_ble_eq_true rfl) dL_law_435 ⟨by show _ ≤ 600104; omega, by show _ ≤ 7301314; omega⟩ (fun r435 u1 H locs hp1 w => ?_)
      obtain ⟨_, rfl, rfl⟩ := hp1.resolve_right (fun z => absurd z.1 (by rw [ak.1]; omega))
      have c9 := CH_go c0 p12 (X 0 6 + 1 - X (PB p12) 0)
      refine lv_iload hx hb dL_law_438 (lv_at hl 0 rfl) ?_
      refine lv_icmp_eq (tgt := 445) hx hb dL_law_440 (by decide) (fun h440 => ?_) (fun h => absurd rfl h)
      refine lv_goto (tgt := 525) hx hb dL_law_445 (by decide) ?_
      exact law_ask hfl M Th hNC hX hbl hL hk w (c9.iv hI) (by rw [c9.e0]; exact hCC) (by omega) (by omega) (by rw [c9.2.1 6 (by decide) (by decide)]; exact h1) hi9 (lv_sub hl [1, 2, 3, 4, 5, 6, 7, 8, 9, 10, 11] rfl)
  refine lv_iconst (v := nI 1) hx hb dL_law_310 (by decide) ?_
  refine lv_iload hx hb dL_law_311 (lv_at hl 10 rfl) ?_
  refine lv_bipush (v := nI 7) hx hb dL_law_313 (by decide) ?_
  refine lv_ishr hx hb dL_law_315 ?_
  refine lv_iload hx hb dL_law_316 (lv_at hl 10 rfl) ?_
  refine lv_bipush (v := nI 17) hx hb dL_law_318 (by decide) ?_
  refine lv_ishr hx hb dL_law_320 ?_
  refine lv_iconst (v := nI 2) hx hb dL_law_321 (by decide) ?_
  refine mx_Si M w (kL_low l D cy C ad e H.size (z >>> ((nI 17) &&& 31)) 2 (by omega) (by omega)) (va_cwS 2 M.1.2.2.2.2 gL_law_L_low rfl rfl rfl (by decide +kernel) ⟨Nat.le_of_ble_eq_true rfl, Nat.le_of_ble_eq_true rfl⟩) rfl hl.1 rfl (Nat.le_of_ble_eq_true rfl) dL_law_322 ⟨by show _ ≤ 600104; omega, by show _ ≤ 7301314; omega⟩ (fun r322 u1 H locs hp1 w => ?_)
  obtain ⟨j322, ⟨q322, rfl⟩, rfl⟩ := hp1
  refine mi_if_ne hx hb (by omega) 334 dL_law_325 (by decide) (fun h325 => ?_) (fun h325 => ?_)
  · refine lv_sipush (v := nI 900) hx hb dL_law_334 (by decide) ?_
    refine mx_Si M w (kL_low l D cy C ad e H.size (z >>> ((nI 7) &&& 31)) 900 (by omega) (by omega)) (va_cwS 2 M.1.2.2.2.2 gL_law_L_low rfl rfl rfl (by decide +kernel) ⟨Nat.le_of_ble_eq_true rfl, Nat.le_of_ble_eq_true rfl⟩) rfl hl.1 rfl (Nat.le_of_ble_eq_true rfl) dL_law_337 ⟨by show _ ≤ 600104; omega, by show _ ≤ 7301314; omega⟩ (fun r337 u1 H locs hp1 w => ?_)
    obtain ⟨j337, ⟨q337, rfl⟩, rfl⟩ := hp1
    refine mi_add hx hb dL_law_340 ?_
    refine lv_istore (lv' := [(13, .int (nI (1 + j337))), (0, .ref b), (1, .ref (ad 0)), (2, .ref (ad 6)), (3, .ref (ad 7)), (4, .ref (ad 8)), (5, .ref (ad 9)), (6, .ref (ad 10)), (7, .ref (ad 11)), (8, .ref (ad 12)), (9, .int (nI i9)), (10, .int z), (12, .int (nI p12))]) hx hb dL_law_341 hl (by decide) rfl (fun ls hl => ?_)
    exact cut343 _ (by omega)  _ _ w ls (lv_sub hl [1, 2, 3, 4, 5, 6, 7, 8, 9, 10, 11, 12, 0] rfl)
  · refine lv_sipush (v := nI 20000) hx hb dL_law_328 (by decide) ?_
    refine lv_goto (tgt := 337) hx hb dL_law_331 (by decide) ?_
    refine mx_Si M w (kL_low l D cy C ad e H.size (z >>> ((nI 7) &&& 31)) 20000 (by omega) (by omega)) (va_cwS 2 M.1.2.2.2.2 gL_law_L_low rfl rfl rfl (by decide +kernel) ⟨Nat.le_of_ble_eq_true rfl, Nat.le_of_ble_eq_true rfl⟩) rfl hl.1 rfl (Nat.le_of_ble_eq_true rfl) dL_law_337 ⟨by show _ ≤ 600104; omega, by show _ ≤ 7301314; omega⟩ (fun r337 u1 H locs hp1 w => ?_)
    obtain ⟨j337, ⟨q337, rfl⟩, rfl⟩ := hp1
    refine mi_add hx hb dL_law_340 ?_
    refine lv_istore (lv' := [(13, .int (nI (1 + j337))), (0, .ref b), (1, .ref (ad 0)), (2, .ref (ad 6)), (3, .ref (ad 7)), (4, .ref (ad 8)), (5, .ref (ad 9)), (6, .ref (ad 10)), (7, .ref (ad 11)), (8, .ref (ad 12)), (9, .int (nI i9)), (10, .int z), (12, .int (nI p12))]) hx hb dL_law_341 hl (by decide) rfl (fun ls hl => ?_)
    exact cut343 _ (by omega)  _ _ w ls (lv_sub hl [1, 2, 3, 4, 5, 6, 7, 8, 9, 10, 11, 12, 0] rfl)

set_option maxHeartbeats 8000000 in
set_option maxRecDepth 100000 in
/-- a turn that adds a person -/
theorem law_add {p : Program} {l : Launch} {e9 : Env} {s : State} {m : MethodId} {below : List Frame} {meth : Method} {c : Code} {D : va_G} {cy : Nat → ClassId} {b L : Nat} {xs : Nat → Int32} (hfl : l.stackTraces = false) (M : MC p s m #[Value.ref b] meth c code wsL_law RL 17 D cy (fun q : Nat => s.heap.size ≤ q)) (Th : TH (fun q : Nat => s.heap.size ≤ q) s s.heap) (hNC : NC s) (hX : va_X b L xs s s.heap) (hbl : b < s.heap.size) (hL : L ≤ 260) {i9 n8 cells slots : Nat} {C : List Nat} {ad : Nat → Nat} {e : Nat → Nat → Nat} {H : Heap} {locs : List Loc} {ls : Array Slot} {z : Int32} (hk : LK p l e9 s m below meth c D cy b (i9 + 1) n8) (w : MO D (fun q : Nat => s.heap.size ≤ q) s.heap (C, ad, G cy ad e) H locs) (hI : IV e) (hCC : CC (e 0 1) (e 0 3) C) (hc : cells + 100 * n8 + 80 ≤ 600104) (hs : slots + 5000 * n8 + 4500 ≤ 7301314) (hnp : VV e 7 2 < 2) (hi9 : i9 < 70) (hl : lv_has ls 17 [(0, .ref b), (1, .ref (ad 0)), (2, .ref (ad 6)), (3, .ref (ad 7)), (4, .ref (ad 8)), (5, .ref (ad 9)), (6, .ref (ad 10)), (7, .ref (ad 11)), (8, .ref (ad 12)), (9, .int (nI i9)), (10, .int z)]) : W p l e9 room_1 s m #[Value.ref b] below meth c H locs cells slots (lw_Z below #[Value.ref b] s) (F0 m 116 ls []) := by
  have hx := M.1.1
  have hb := M.1.2.1
  have hB := hCC.B
  have hbA : ¬ (fun q : Nat => s.heap.size ≤ q) b := Nat.not_le.mpr hbl
  have hq2 := hI.2.2.2
  have hb3 := hI.b3
  have hv2 : VV e 7 2 = e 6 1 := rfl
  have hq0 : VV e 7 1 ≤ 1700 := hq2.1
  have hq3 : VV e 7 2 ≤ 2 := hq2.2.1
  refine lv_aload_n hx hb dL_law_116 rfl (lv_at hl 3 rfl) ?_
  refine lv_iconst (v := nI 4) hx hb dL_law_117 (by decide) ?_
  refine lv_aload_n hx hb dL_law_118 rfl (lv_at hl 2 rfl) ?_
  refine lv_iconst (v := nI 1) hx hb dL_law_119 (by decide) ?_
  refine ex_iald M w (hB 6 (by decide)) (sh_6 cy ad) (by omega) (by decide) (rV_q1 e) dL_law_120 ?_
  refine mi_mul hx hb dL_law_121 ?_
  refine lv_aload_n hx hb dL_law_122 rfl (lv_at hl 2 rfl) ?_
  refine lv_iconst (v := nI 0) hx hb dL_law_123 (by decide) ?_
  refine ex_iald M w (hB 6 (by decide)) (sh_6 cy ad) (by omega) (by decide) (rV_q0 e) dL_law_124 ?_
  refine ex_iast M w (hB 7 (by decide)) (sh_7 cy ad) (v := (VV e 7 1)) (by omega) (by decide) dL_law_125 (fun H locs w => ?_)
  refine lv_aload_n hx hb dL_law_126 rfl (lv_at hl 3 rfl) ?_
  refine lv_iconst (v := nI 4) hx hb dL_law_127 (by decide) ?_
  refine lv_aload_n hx hb dL_law_128 rfl (lv_at hl 2 rfl) ?_
  refine lv_iconst (v := nI 1) hx hb dL_law_129 (by decide) ?_
  refine ex_iald M w (hB 6 (by decide)) (sh_6 cy ad) (by omega) (by decide) ((es_ne _ _ (by first | omega | (unfold PB; omega) | (unfold RB; omega) | (unfold PB RB; omega))).trans (rV_q1 e)) dL_law_130 ?_
  refine mi_mul hx hb dL_law_131 ?_
  refine lv_iconst (v := nI 1) hx hb dL_law_132 (by decide) ?_
  refine mi_add hx hb dL_law_133 ?_
  refine lv_bipush (v := nI 20) hx hb dL_law_134 (by decide) ?_
  refine lv_iload hx hb dL_law_136 (lv_at hl 10 rfl) ?_
  refine lv_iconst (v := nI 5) hx hb dL_law_138 (by decide) ?_
  refine lv_ishr hx hb dL_law_139 ?_
  refine lv_bipush (v := nI 61) hx hb dL_law_140 (by decide) ?_
  refine mx_Si M w (kL_low l D cy C ad (es e 7 (4 * (VV e 7 2)) (VV e 7 1)) H.size (z >>> ((nI 5) &&& 31)) 61 (by omega) (by omega)) (va_cwS 2 M.1.2.2.2.2 gL_law_L_low rfl rfl rfl (by decide +kernel) ⟨Nat.le_of_ble_eq_true rfl, Nat.le_of_ble_eq_true rfl⟩) rfl hl.1 rfl (Nat.le_of_ble_eq_true rfl) dL_law_142 ⟨by show _ ≤ 600104; omega, by show _ ≤ 7301314; omega⟩ (fun r142 u1 H locs hp1 w => ?_)
  obtain ⟨j142, ⟨q142, rfl⟩, rfl⟩ := hp1
  refine mi_add hx hb dL_law_145 ?_
  refine ex_iast M w (hB 7 (by decide)) (sh_7 cy ad) (v := (20 + j142)) (by omega) (by decide) dL_law_146 (fun H locs w => ?_)
  refine lv_aload_n hx hb dL_law_147 rfl (lv_at hl 3 rfl) ?_
  refine lv_iconst (v := nI 4) hx hb dL_law_148 (by decide) ?_
  refine lv_aload_n hx hb dL_law_149 rfl (lv_at hl 2 rfl) ?_
  refine lv_iconst (v := nI 1) hx hb dL_law_150 (by decide) ?_
  refine ex_iald M w (hB 6 (by decide)) (sh_6 cy ad) (by omega) (by decide) ((es_ne _ _ (by first | omega | (unfold PB; omega) | (unfold RB; omega) | (unfold PB RB; omega))).trans ((es_ne _ _ (by first | omega | (unfold PB; omega) | (unfold RB; omega) | (unfold PB RB; omega))).trans (rV_q1 e))) dL_law_151 ?_
  refine mi_mul hx hb dL_law_152 ?_
  refine lv_iconst (v := nI 2) hx hb dL_law_153 (by decide) ?_
  refine mi_add hx hb dL_law_154 ?_
  refine lv_iconst (v := nI 1) hx hb dL_law_155 (by decide) ?_
  refine lv_iload hx hb dL_law_156 (lv_at hl 10 rfl) ?_
  refine lv_bipush (v := nI 11) hx hb dL_law_158 (by decide) ?_
  refine lv_ishr hx hb dL_law_160 ?_
  refine lv_bipush (v := nI 10) hx hb dL_law_161 (by decide) ?_
  refine mx_Si M w (kL_low l D cy C ad (es (es e 7 (4 * (VV e 7 2)) (VV e 7 1)) 7 ((4 * (VV e 7 2)) + 1) (20 + j142)) H.size (z >>> ((nI 11) &&& 31)) 10 (by omega) (by omega)) (va_cwS 2 M.1.2.2.2.2 gL_law_L_low rfl rfl rfl (by decide +kernel) ⟨Nat.le_of_ble_eq_true rfl, Nat.le_of_ble_eq_true rfl⟩) rfl hl.1 rfl (Nat.le_of_ble_eq_true rfl) dL_law_163 ⟨by show _ ≤ 600104; omega, by show _ ≤ 7301314; omega⟩ (fun r163 u1 H locs hp1 w => ?_)
  obtain ⟨j163, ⟨q163, rfl⟩, rfl⟩ := hp1
  refine mi_add hx hb dL_law_166 ?_
  refine ex_iast M w (hB 7 (by decide)) (sh_7 cy ad) (v := (1 + j163)) (by omega) (by decide) dL_law_167 (fun H locs w => ?_)
  refine lv_aload_n hx hb dL_law_168 rfl (lv_at hl 2 rfl) ?_
  refine lv_iconst (v := nI 1) hx hb dL_law_169 (by decide) ?_
  refine lv_dup2_11 hx hb dL_law_170 rfl rfl ?_
  refine ex_iald M w (hB 6 (by decide)) (sh_6 cy ad) (by omega) (by decide) ((es_ne _ _ (by first | omega | (unfold PB; omega) | (unfold RB; omega) | (unfold PB RB; omega))).trans ((es_ne _ _ (by first | omega | (unfold PB; omega) | (unfold RB; omega) | (unfold PB RB; omega))).trans ((es_ne _ _ (by first | omega | (unfold PB; omega) | (unfold RB; omega) | (unfold PB RB; omega))).trans (rV_q1 e)))) dL_law_171 ?_
  refine lv_iconst (v := nI 1) hx hb dL_law_172 (by decide) ?_
  refine mi_add hx hb dL_law_173 ?_
  refine ex_iast M w (hB 6 (by decide)) (sh_6 cy ad) (v := ((VV e 7 2) + 1)) (by omega) (by decide) dL_law_174 (fun H locs w => ?_)
  obtain ⟨e1, he1⟩ : ∃ z, z = adL e (VV e 7 2) (20 + j142) (1 + j163) := ⟨_, rfl⟩
  rw [show (es (es (es (es e 7 (4 * (VV e 7 2)) (VV e 7 1)) 7 ((4 * (VV e 7 2)) + 1) (20 + j142)) 7 ((4 * (VV e 7 2)) + 2) (1 + j163)) 6 1 ((VV e 7 2) + 1)) = e1 from he1.symm] at w
  have o1 : OffR e e1 := by rw [he1]; exact OffR_ad _ _ _ _
  have h6e : e1 6 1 = VV e 7 2 + 1 := by rw [he1]; exact es_same _ _ _ _
  have hCC1 := o1.cc hCC
  have h01 : e1 0 1 = VV e 7 2 := by rw [o1.z]; exact hI.n1
  have ha1 : e1 7 (4 * (VV e 7 2 + 1) - 3) = 20 + j142 := by rw [he1, show 4 * (VV e 7 2 + 1) - 3 = 4 * VV e 7 2 + 1 by omega]; unfold adL; rw [es_ne _ _ (by omega), es_ne _ _ (by omega), es_same]
  have ha2 : e1 7 (4 * (VV e 7 2 + 1) - 2) = 1 + j163 := by rw [he1, show 4 * (VV e 7 2 + 1) - 2 = 4 * VV e 7 2 + 2 by omega]; unfold adL; rw [es_ne _ _ (by omega), es_same]
  refine lv_aload_n hx hb dL_law_175 rfl (lv_at hl 1 rfl) ?_
  refine lv_aload_n hx hb dL_law_176 rfl (lv_at hl 3 rfl) ?_
  refine lv_iconst (v := nI 4) hx hb dL_law_177 (by decide) ?_
  refine lv_aload_n hx hb dL_law_178 rfl (lv_at hl 2 rfl) ?_
  refine lv_iconst (v := nI 1) hx hb dL_law_179 (by decide) ?_
  refine ex_iald M w (hB 6 (by decide)) (sh_6 cy ad) (by omega) (by decide) (h6e) dL_law_180 ?_
  refine mi_mul hx hb dL_law_181 ?_
  refine lv_iconst (v := nI 3) hx hb dL_law_182 (by decide) ?_
  refine mi_sub hx hb (by omega) dL_law_183 ?_
  refine ex_iald M w (hB 7 (by decide)) (sh_7 cy ad) (by omega) (by decide) ha1 dL_law_184 ?_
  refine lv_aload_n hx hb dL_law_185 rfl (lv_at hl 3 rfl) ?_
  refine lv_iconst (v := nI 4) hx hb dL_law_186 (by decide) ?_
  refine lv_aload_n hx hb dL_law_187 rfl (lv_at hl 2 rfl) ?_
  refine lv_iconst (v := nI 1) hx hb dL_law_188 (by decide) ?_
  refine ex_iald M w (hB 6 (by decide)) (sh_6 cy ad) (by omega) (by decide) (h6e) dL_law_189 ?_
  refine mi_mul hx hb dL_law_190 ?_
  refine lv_iconst (v := nI 2) hx hb dL_law_191 (by decide) ?_
  refine mi_sub hx hb (by omega) dL_law_192 ?_
  refine ex_iald M w (hB 7 (by decide)) (sh_7 cy ad) (by omega) (by decide) ha2 dL_law_193 ?_
  refine mxc_Vi M w Th (kX3_addPerson l hfl D cy C ad e1 H.size (20 + j142) (1 + j163) hCC1 (hI.1.fr o1.xf) (by omega) (by omega)) (cwV 2 M.1.2.2.2.2 gL_law_X3_addPerson rfl rfl rfl (by decide +kernel) ⟨Nat.le_of_ble_eq_true rfl, Nat.le_of_ble_eq_true rfl⟩) (mo_rec M w (hB 0 (by decide)) (g := G cy ad e1) (sh_0 cy ad (e1 0)) rfl) rfl hl.1 rfl (Nat.le_of_ble_eq_true rfl) dL_law_194 ⟨by show _ ≤ 600104; omega, by show _ ≤ 7301314; omega⟩ (fun E ce q9 u1 H locs hce hcv hcl hp9 w => (hp9.elim (fun h => (h.1 ⟨⟨by omega, by omega⟩, by omega, by omega⟩).elim) (fun h => (h.2.1 (by rw [h01]; omega)).elim))) (fun r194 u1 H locs hp1 w => ?_)
  obtain ⟨_, rfl, ad1, had, rfl⟩ := hp1
  rw [h01]
  have hB1 : ∀ k, k < 13 → k ∈ c9 (e1 0 1) C := fun k hk => c9_in.mpr (Or.inl (hB k hk))
  have hIx := IV_ad (a := 20 + j142) (h := 1 + j163) hI hnp ⟨by omega, by omega⟩ ⟨by omega, by omega⟩
  rw [← he1] at hIx
  have hCx : CC (addC e1 (20 + j142) (1 + j163) 0 1) (addC e1 (20 + j142) (1 + j163) 0 3) (c9 (e1 0 1) C) := by rw [(addC_0 _ _ _).1, (addC_0 _ _ _).2]; exact hCC1.addP
  have h61 : addC e1 (20 + j142) (1 + j163) 6 1 = VV e 7 2 + 1 := by rw [addC_mid _ _ _ 6 (by decide) (by decide)]; exact h6e
  rw [← had 0 (hB 0 (by decide)), ← had 6 (hB 6 (by decide)), ← had 7 (hB 7 (by decide)), ← had 8 (hB 8 (by decide)), ← had 9 (hB 9 (by decide)), ← had 10 (hB 10 (by decide)), ← had 11 (hB 11 (by decide)), ← had 12 (hB 12 (by decide))] at hl
  refine lv_aload_n hx hb dL_law_197 rfl (lv_at hl 2 rfl) ?_
  refine lv_iconst (v := nI 1) hx hb dL_law_198 (by decide) ?_
  refine ex_iald M w (hB1 6 (by decide)) (sh_6 cy ad1) (by omega) (by decide) h61 dL_law_199 ?_
  refine lv_iconst (v := nI 1) hx hb dL_law_200 (by decide) ?_
  refine mi_sub hx hb (by omega) dL_law_201 ?_
  refine lv_icmp_eq (tgt := 525) hx hb dL_law_202 (by decide) (fun h202 => ?_) (fun h => absurd (congrArg nI (show VV e 7 2 = VV e 7 2 + 1 - 1 by omega)) h)
  exact law_ask hfl M Th hNC hX hbl hL hk w hIx hCx (by omega) (by omega) (by rw [h61]; omega) hi9 (lv_sub hl [0, 1, 2, 3, 4, 5, 6, 7, 8, 9, 10] rfl)

set_option maxHeartbeats 8000000 in
set_option maxRecDepth 100000 in
/-- a turn -/
theorem law_turn {p : Program} {l : Launch} {e9 : Env} {s : State} {m : MethodId} {below : List Frame} {meth : Method} {c : Code} {D : va_G} {cy : Nat → ClassId} {b L : Nat} {xs : Nat → Int32} (hfl : l.stackTraces = false) (M : MC p s m #[Value.ref b] meth c code wsL_law RL 17 D cy (fun q : Nat => s.heap.size ≤ q)) (Th : TH (fun q : Nat => s.heap.size ≤ q) s s.heap) (hNC : NC s) (hX : va_X b L xs s s.heap) (hbl : b < s.heap.size) (hL : L ≤ 260) {i9 n8 cells slots : Nat} {C : List Nat} {ad : Nat → Nat} {e : Nat → Nat → Nat} {H : Heap} {locs : List Loc} {ls : Array Slot} (hk : LK p l e9 s m below meth c D cy b (i9 + 1) n8) (w : MO D (fun q : Nat => s.heap.size ≤ q) s.heap (C, ad, G cy ad e) H locs) (hI : IV e) (hCC : CC (e 0 1) (e 0 3) C) (hc : cells + 100 * n8 + 100 ≤ 600104) (hs : slots + 5000 * n8 + 5000 ≤ 7301314) (hi9 : i9 < 70) (hl : lv_has ls 17 [(0, .ref b), (1, .ref (ad 0)), (2, .ref (ad 6)), (3, .ref (ad 7)), (4, .ref (ad 8)), (5, .ref (ad 9)), (6, .ref (ad 10)), (7, .ref (ad 11)), (8, .ref (ad 12)), (9, .int (nI i9))]) : W p l e9 room_1 s m #[Value.ref b] below meth c H locs cells slots (lw_Z below #[Value.ref b] s) (F0 m 50 ls []) := by
  have hx := M.1.1
  have hb := M.1.2.1
  have hB := hCC.B
  have hbA : ¬ (fun q : Nat => s.heap.size ≤ q) b := Nat.not_le.mpr hbl
  have hq2 := hI.2.2.2
  have hb3 := hI.b3
  have hv2 : VV e 7 2 = e 6 1 := rfl
  have hq0 : VV e 7 1 ≤ 1700 := hq2.1
  have hq3 : VV e 7 2 ≤ 2 := hq2.2.1
  have cut98 : ∀ (z : Int32) (j71 p12 cells slots : Nat) (q71 : j71 < 12) (hp9 : VV e 7 2 = 0 ∨ p12 < VV e 7 2) (hc : cells + 100 * n8 + 80 ≤ 600104) (hs : slots + 5000 * n8 + 4500 ≤ 7301314) (H : Heap) (locs : List Loc), MO D (fun q : Nat => s.heap.size ≤ q) s.heap (C, ad, G cy ad e) H locs → ∀ (ls : Array Slot), lv_has ls 17 [(0, .ref b), (1, .ref (ad 0)), (2, .ref (ad 6)), (3, .ref (ad 7)), (4, .ref (ad 8)), (5, .ref (ad 9)), (6, .ref (ad 10)), (7, .ref (ad 11)), (8, .ref (ad 12)), (9, .int (nI i9)), (10, .int z), (11, .int (nI j71)), (12, .int (nI p12))] → W p l e9 room_1 s m #[Value.ref b] below meth c H locs cells slots (lw_Z below #[Value.ref b] s) (F0 m 98 ls []) := by
    intro z j71 p12 cells slots q71 hp9 hc hs H locs w ls hl
    refine lv_aload_n hx hb dL_law_98 rfl (lv_at hl 2 rfl) ?_
    refine lv_iconst (v := nI 1) hx hb dL_law_99 (by decide) ?_
    refine ex_iald M w (hB 6 (by decide)) (sh_6 cy ad) (by omega) (by decide) (rV_q1 e) dL_law_100 ?_
    refine mi_if_eq hx hb (by omega) 116 dL_law_101 (by decide) (fun h101 => ?_) (fun h101 => ?_)
    · exact law_add hfl M Th hNC hX hbl hL hk w hI hCC (by omega) (by omega) (by omega) hi9 (lv_sub hl [0, 1, 2, 3, 4, 5, 6, 7, 8, 9, 10] rfl)
    · refine lv_iload hx hb dL_law_104 (lv_at hl 11 rfl) ?_
      refine mi_if_ne hx hb (by omega) 207 dL_law_106 (by decide) (fun h106 => ?_) (fun h106 => ?_)
      · refine lv_iload hx hb dL_law_207 (lv_at hl 11 rfl) ?_
        refine lv_iconst (v := nI 5) hx hb dL_law_209 (by decide) ?_
        refine mi_ge hx hb (by omega) (by decide) 232 dL_law_210 (by decide) (fun h210 => ?_) (fun h210 => ?_)
        · refine lv_iload hx hb dL_law_232 (lv_at hl 11 rfl) ?_
          refine lv_iconst (v := nI 5) hx hb dL_law_234 (by decide) ?_
          refine mi_ne hx hb (by omega) (by decide) 295 dL_law_235 (by decide) (fun h235 => ?_) (fun h235 => ?_)
          · refine lv_iload hx hb dL_law_295 (lv_at hl 11 rfl) ?_
            refine lv_bipush (v := nI 8) hx hb dL_law_297 (by decide) ?_
            refine mi_ge hx hb (by omega) (by decide) 448 dL_law_299 (by decide) (fun h299 => ?_) (fun h299 => ?_)
            · exact law_pass hfl M Th hNC hX hbl hL hk w hI hCC (by omega) (by omega) (by omega) hi9 (lv_sub hl [0, 1, 2, 3, 4, 5, 6, 7, 8, 9, 10] rfl)
            · refine lv_aload_n hx hb dL_law_302 rfl (lv_at hl 2 rfl) ?_
              refine lv_iconst (v := nI 4) hx hb dL_law_303 (by decide) ?_
              refine ex_iald M w (hB 6 (by decide)) (sh_6 cy ad) (by omega) (by decide) (rV_q4 e) dL_law_304 ?_
              refine lv_bipush (v := nI 10) hx hb dL_law_305 (by decide) ?_
              refine mi_ge hx hb (by omega) (by decide) 448 dL_law_307 (by decide) (fun h307 => ?_) (fun h307 => ?_)
              · exact law_pass hfl M Th hNC hX hbl hL hk w hI hCC (by omega) (by omega) (by omega) hi9 (lv_sub hl [0, 1, 2, 3, 4, 5, 6, 7, 8, 9, 10] rfl)
              · exact law_pay hfl M Th hNC hX hbl hL hk w hI hCC (by omega) (by omega) (by omega) (by omega) (by omega) hi9 (lv_sub hl [0, 1, 2, 3, 4, 5, 6, 7, 8, 9, 10, 12] rfl)
          · exact law_hset hfl M Th hNC hX hbl hL hk w hI hCC (by omega) (by omega) (by omega) (by omega) hi9 (lv_sub hl [0, 1, 2, 3, 4, 5, 6, 7, 8, 9, 10, 12] rfl)
        · exact law_ent hfl M Th hNC hX hbl hL hk w hI hCC (by omega) (by omega) (by omega) hi9 (lv_sub hl [0, 1, 2, 3, 4, 5, 6, 7, 8, 9, 10] rfl)
      · refine lv_aload_n hx hb dL_law_109 rfl (lv_at hl 2 rfl) ?_
        refine lv_iconst (v := nI 1) hx hb dL_law_110 (by decide) ?_
        refine ex_iald M w (hB 6 (by decide)) (sh_6 cy ad) (by omega) (by decide) (rV_q1 e) dL_law_111 ?_
        refine lv_iconst (v := nI 2) hx hb dL_law_112 (by decide) ?_
        refine mi_ge hx hb (by omega) (by decide) 207 dL_law_113 (by decide) (fun h113 => ?_) (fun h113 => ?_)
        · refine lv_iload hx hb dL_law_207 (lv_at hl 11 rfl) ?_
          refine lv_iconst (v := nI 5) hx hb dL_law_209 (by decide) ?_
          refine mi_ge hx hb (by omega) (by decide) 232 dL_law_210 (by decide) (fun h210 => ?_) (fun h210 => ?_)
          · refine lv_iload hx hb dL_law_232 (lv_at hl 11 rfl) ?_
            refine lv_iconst (v := nI 5) hx hb dL_law_234 (by decide) ?_
            refine mi_ne hx hb (by omega) (by decide) 295 dL_law_235 (by decide) (fun h235 => ?_) (fun h235 => ?_)
            · refine lv_iload hx hb dL_law_295 (lv_at hl 11 rfl) ?_
              refine lv_bipush (v := nI 8) hx hb dL_law_297 (by decide) ?_
              refine mi_ge hx hb (by omega) (by decide) 448 dL_law_299 (by decide) (fun h299 => ?_) (fun h299 => ?_)
              · exact law_pass hfl M Th hNC hX hbl hL hk w hI hCC (by omega) (by omega) (by omega) hi9 (lv_sub hl [0, 1, 2, 3, 4, 5, 6, 7, 8, 9, 10] rfl)
              · refine lv_aload_n hx hb dL_law_302 rfl (lv_at hl 2 rfl) ?_
                refine lv_iconst (v := nI 4) hx hb dL_law_303 (by decide) ?_
                refine ex_iald M w (hB 6 (by decide)) (sh_6 cy ad) (by omega) (by decide) (rV_q4 e) dL_law_304 ?_
                refine lv_bipush (v := nI 10) hx hb dL_law_305 (by decide) ?_
                refine mi_ge hx hb (by omega) (by decide) 448 dL_law_307 (by decide) (fun h307 => ?_) (fun h307 => ?_)
                · exact law_pass hfl M Th hNC hX hbl hL hk w hI hCC (by omega) (by omega) (by omega) hi9 (lv_sub hl [0, 1, 2, 3, 4, 5, 6, 7, 8, 9, 10] rfl)
                · exact law_pay hfl M Th hNC hX hbl hL hk w hI hCC (by omega) (by omega) (by omega) (by omega) (by omega) hi9 (lv_sub hl [0, 1, 2, 3, 4, 5, 6, 7, 8, 9, 10, 12] rfl)
            · exact law_hset hfl M Th hNC hX hbl hL hk w hI hCC (by omega) (by omega) (by omega) (by omega) hi9 (lv_sub hl [0, 1, 2, 3, 4, 5, 6, 7, 8, 9, 10, 12] rfl)
          · exact law_ent hfl M Th hNC hX hbl hL hk w hI hCC (by omega) (by omega) (by omega) hi9 (lv_sub hl [0, 1, 2, 3, 4, 5, 6, 7, 8, 9, 10] rfl)
        · exact law_add hfl M Th hNC hX hbl hL hk w hI hCC (by omega) (by omega) (by omega) hi9 (lv_sub hl [0, 1, 2, 3, 4, 5, 6, 7, 8, 9, 10] rfl)
  refine lv_iload hx hb dL_law_50 (lv_at hl 9 rfl) ?_
  refine lv_bipush (v := nI 70) hx hb dL_law_52 (by decide) ?_
  refine mi_ge hx hb (by omega) (by decide) 743 dL_law_54 (by decide) (fun h => by omega) (fun h54 => ?_)
  refine lv_aload_n hx hb dL_law_57 rfl (lv_at hl 0 rfl) ?_
  refine lv_iload hx hb dL_law_58 (lv_at hl 9 rfl) ?_
  refine mxs_Si M w hX hbl hbA (kL_cell l D cy C ad e H.size b L i9 xs (by omega) (by omega)) (va_cwS 2 M.1.2.2.2.2 gL_law_L_cell rfl rfl rfl (by decide +kernel) ⟨Nat.le_of_ble_eq_true rfl, Nat.le_of_ble_eq_true rfl⟩) rfl hl.1 rfl (Nat.le_of_ble_eq_true rfl) dL_law_60 ⟨by show _ ≤ 600104; omega, by show _ ≤ 7301314; omega⟩ (fun r60 u1 H locs hp1 w => ?_)
  obtain rfl := hp1
  refine lv_istore (lv' := [(10, .int r60), (0, .ref b), (1, .ref (ad 0)), (2, .ref (ad 6)), (3, .ref (ad 7)), (4, .ref (ad 8)), (5, .ref (ad 9)), (6, .ref (ad 10)), (7, .ref (ad 11)), (8, .ref (ad 12)), (9, .int (nI i9))]) hx hb dL_law_63 hl (by decide) rfl (fun ls hl => ?_)
  refine lv_iload hx hb dL_law_65 (lv_at hl 0 rfl) ?_
  refine lv_iconst (v := nI 1) hx hb dL_law_67 (by decide) ?_
  refine lv_ishr hx hb dL_law_68 ?_
  refine lv_bipush (v := nI 12) hx hb dL_law_69 (by decide) ?_
  refine mx_Si M w (kL_low l D cy C ad e H.size (r60 >>> ((nI 1) &&& 31)) 12 (by omega) (by omega)) (va_cwS 2 M.1.2.2.2.2 gL_law_L_low rfl rfl rfl (by decide +kernel) ⟨Nat.le_of_ble_eq_true rfl, Nat.le_of_ble_eq_true rfl⟩) rfl hl.1 rfl (Nat.le_of_ble_eq_true rfl) dL_law_71 ⟨by show _ ≤ 600104; omega, by show _ ≤ 7301314; omega⟩ (fun r71 u1 H locs hp1 w => ?_)
  obtain ⟨j71, ⟨q71, rfl⟩, rfl⟩ := hp1
  refine lv_istore (lv' := [(11, .int (nI j71)), (10, .int r60), (0, .ref b), (1, .ref (ad 0)), (2, .ref (ad 6)), (3, .ref (ad 7)), (4, .ref (ad 8)), (5, .ref (ad 9)), (6, .ref (ad 10)), (7, .ref (ad 11)), (8, .ref (ad 12)), (9, .int (nI i9))]) hx hb dL_law_74 hl (by decide) rfl (fun ls hl => ?_)
  refine lv_aload_n hx hb dL_law_76 rfl (lv_at hl 4 rfl) ?_
  refine lv_iconst (v := nI 1) hx hb dL_law_77 (by decide) ?_
  refine ex_iald M w (hB 6 (by decide)) (sh_6 cy ad) (by omega) (by decide) (rV_q1 e) dL_law_78 ?_
  refine mi_if_ne hx hb (by omega) 86 dL_law_79 (by decide) (fun h79 => ?_) (fun h79 => ?_)
  · refine lv_iload hx hb dL_law_86 (lv_at hl 1 rfl) ?_
    refine lv_iconst (v := nI 5) hx hb dL_law_88 (by decide) ?_
    refine lv_ishr hx hb dL_law_89 ?_
    refine lv_aload_n hx hb dL_law_90 rfl (lv_at hl 4 rfl) ?_
    refine lv_iconst (v := nI 1) hx hb dL_law_91 (by decide) ?_
    refine ex_iald M w (hB 6 (by decide)) (sh_6 cy ad) (by omega) (by decide) (rV_q1 e) dL_law_92 ?_
    refine mx_Si M w (kL_low l D cy C ad e H.size (r60 >>> ((nI 5) &&& 31)) (VV e 7 2) (by omega) (by omega)) (va_cwS 2 M.1.2.2.2.2 gL_law_L_low rfl rfl rfl (by decide +kernel) ⟨Nat.le_of_ble_eq_true rfl, Nat.le_of_ble_eq_true rfl⟩) rfl hl.1 rfl (Nat.le_of_ble_eq_true rfl) dL_law_93 ⟨by show _ ≤ 600104; omega, by show _ ≤ 7301314; omega⟩ (fun r93 u1 H locs hp1 w => ?_)
    obtain ⟨j93, ⟨q93, rfl⟩, rfl⟩ := hp1
    refine lv_istore (lv' := [(12, .int (nI j93)), (11, .int (nI j71)), (10, .int r60), (0, .ref b), (1, .ref (ad 0)), (2, .ref (ad 6)), (3, .ref (ad 7)), (4, .ref (ad 8)), (5, .ref (ad 9)), (6, .ref (ad 10)), (7, .ref (ad 11)), (8, .ref (ad 12)), (9, .int (nI i9))]) hx hb dL_law_96 hl (by decide) rfl (fun ls hl => ?_)
    exact cut98 _ _ _ _ _ q71 (by omega) (by omega) (by omega)  _ _ w ls (lv_sub hl [3, 4, 5, 6, 7, 8, 9, 10, 11, 12, 2, 1, 0] rfl)
  · refine lv_iconst (v := nI 0) hx hb dL_law_82 (by decide) ?_
    refine lv_goto (tgt := 96) hx hb dL_law_83 (by decide) ?_
    refine lv_istore (lv' := [(12, .int (nI 0)), (11, .int (nI j71)), (10, .int r60), (0, .ref b), (1, .ref (ad 0)), (2, .ref (ad 6)), (3, .ref (ad 7)), (4, .ref (ad 8)), (5, .ref (ad 9)), (6, .ref (ad 10)), (7, .ref (ad 11)), (8, .ref (ad 12)), (9, .int (nI i9))]) hx hb dL_law_96 hl (by decide) rfl (fun ls hl => ?_)
    exact cut98 _ _ _ _ _ q71 (by omega) (by omega) (by omega)  _ _ w ls (lv_sub hl [3, 4, 5, 6, 7, 8, 9, 10, 11, 12, 2, 1, 0] rfl)

set_option maxHeartbeats 4000000 in
set_option maxRecDepth 100000 in
/-- all turns -/
theorem law_loop {p : Program} {l : Launch} {e9 : Env} {s : State} {m : MethodId} {below : List Frame} {meth : Method} {c : Code} {D : va_G} {cy : Nat → ClassId} {b L : Nat} {xs : Nat → Int32} (hfl : l.stackTraces = false) (hr : meth.sig.returnType = ret) (M : MC p s m #[Value.ref b] meth c code wsL_law RL 17 D cy (fun q : Nat => s.heap.size ≤ q)) (Th : TH (fun q : Nat => s.heap.size ≤ q) s s.heap) (hNC : NC s) (hX : va_X b L xs s s.heap) (hbl : b < s.heap.size) (hL : L ≤ 260) : ∀ n i, i + n = 70 → LK p l e9 s m below meth c D cy b i n
  | 0, i, hi => by
    intro cells slots C ad e H locs ls hc hs w hI hCC h1 hl
    have hx := M.1.1
    have hb := M.1.2.1
    refine lv_iload hx hb dL_law_50 (lv_at hl 9 rfl) ?_
    refine lv_bipush (v := nI 70) hx hb dL_law_52 (by decide) ?_
    refine mi_ge hx hb (by omega) (by decide) 743 dL_law_54 (by decide) (fun h => ?_) (fun h => by omega)
    refine lv_iconst (v := 1) hx hb dL_law_743 (by decide) ?_
    refine va_forget (fun q hq => w.2.2.2.2 q hq) ?_
    refine W.widen (k := 600104) (n := 7301314) (by omega) (by omega) ?_
    exact lw_ret hx hb hr M.2.2.2.1 dL_law_744
  | n + 1, i, hi => by
    intro cells slots C ad e H locs ls hc hs w hI hCC h1 hl
    exact law_turn hfl M Th hNC hX hbl hL (law_loop hfl hr M Th hNC hX hbl hL n (i + 1) (by omega)) w hI hCC (by omega) (by omega) (by omega) hl
