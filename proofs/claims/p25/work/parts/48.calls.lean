/-! ===== the law calls ===== -/
set_option maxHeartbeats 4000000 in
set_option maxRecDepth 100000 in
/-- LeavebankLaw.calls, by request -/
theorem kL_calls0 (l : Launch) (hfl : l.stackTraces = false) (D : va_G) (cy : Nat → ClassId) (C : List Nat) (ad : Nat → Nat) (e : Nat → Nat → Nat) (sz : Nat) (k f t h : Nat) (hB : ∀ k, k < 13 → k ∈ C) (hCC : CC (e 0 1) (e 0 3) C) (hW : CW e) (hok : (k < e 0 1 ∧ (e (PB k) 0 ≤ f ∧ f ≤ t ∧ t ≤ 3600)) ∧ e 0 3 < 40) (hk9 : k < 4294967296) (hh : h ≤ 1) : Met l yL_calls wsL_calls ({ frames := 8, cells := 4, slots := 23, locals := 131 } : Room) (PreW D cy (C, ad, G cy ad e) sz [.ref (ad 0), .int (nI 0), .int (nI k), .int (nI f), .int (nI t), .int (nI h)]) (va_Qi (fun (r : Int32) (u : WT) => r = nI (e 0 3) ∧ ∃ ad', (∀ c, c ∈ C → ad' c = ad c) ∧ u = (C ++ [RB (e 0 3)], ad', G cy ad' (reqC e k f t h))) (WB D cy (AW (C, ad, G cy ad e) sz)) (AW (C, ad, G cy ad e) sz)) 4 23 (AW (C, ad, G cy ad e) sz) := by
  refine mxw_start (cc := cL_calls) (maxL := 7) (ret := (some .int)) (hh := [(0, 71, 72, 30), (0, 71, 77, 32), (0, 71, 82, 34)]) (by decide) rfl (Nat.le_of_ble_eq_true rfl) ?_
  intro p9 e9 s m args below meth c hsz hr M w Th hNC htab ls hl
  have hx := M.1.1
  have hb := M.1.2.1
  have hl : lv_has ls 7 [(0, .ref (ad 0)), (1, .int (nI 0)), (2, .int (nI k)), (3, .int (nI f)), (4, .int (nI t)), (5, .int (nI h))] := hl
  refine lv_iload_n hx hb dL_calls_0 rfl (lv_at hl 1 rfl) ?_
  refine mi_if_ne hx hb (by decide) 17 dL_calls_1 (by decide) (fun h1 => absurd h1 (by first | decide | omega)) (fun h1 => ?_)
  refine lv_aload_n hx hb dL_calls_4 rfl (lv_at hl 0 rfl) ?_
  refine lv_iload_n hx hb dL_calls_5 rfl (lv_at hl 2 rfl) ?_
  refine lv_iload_n hx hb dL_calls_6 rfl (lv_at hl 3 rfl) ?_
  refine lv_iload hx hb dL_calls_7 (lv_at hl 4 rfl) ?_
  refine lv_iload hx hb dL_calls_9 (lv_at hl 5 rfl) ?_
  refine mxc_Vi M w Th (kX3_request l hfl D cy C ad e s.heap.size k f t h hCC hW hk9 (by omega) (by omega) hh) (cwV 4 M.1.2.2.2.2 gL_calls_X3_request rfl rfl rfl (by decide +kernel) ⟨Nat.le_of_ble_eq_true rfl, Nat.le_of_ble_eq_true rfl⟩) (mo_rec M w (hB 0 (by decide)) (g := G cy ad e) (sh_0 cy ad (e 0)) rfl) rfl hl.1 rfl (Nat.le_of_ble_eq_true rfl) dL_calls_11 ⟨by decide, by decide⟩ (fun E ce q9 u1 H locs hce hcv hcl hp9 w => (hp9.elim (fun h => (h.1 hok.1.1).elim) (fun h => h.elim (fun h => (h.2.1 hok.1.2).elim) (fun h => (h.2.1 hok.2).elim)))) (fun r11 u1 H locs hp1 w => ?_)
  obtain ⟨_, rfl, ad1, had, rfl⟩ := hp1
  refine lv_goto (tgt := 71) hx hb dL_calls_14 (by decide) ?_
  exact mx_iret M w hr (v := _) ⟨rfl, ad1, had, rfl⟩ (by decide) (by decide) dL_calls_71

set_option maxHeartbeats 4000000 in
set_option maxRecDepth 100000 in
/-- LeavebankLaw.calls, by change -/
theorem kL_calls1 (l : Launch) (hfl : l.stackTraces = false) (D : va_G) (cy : Nat → ClassId) (C : List Nat) (ad : Nat → Nat) (e : Nat → Nat → Nat) (sz : Nat) (k f t h : Nat) (hB : ∀ k, k < 13 → k ∈ C) (hCC : CC (e 0 1) (e 0 3) C) (hW : CW e) (hk : k < e 0 3) (hk9 : k < 4294967296) (hf9 : f < 4294967296) (ht9 : t < 4294967296) : Met l yL_calls wsL_calls ({ frames := 8, cells := 3, slots := 18, locals := 130 } : Room) (PreW D cy (C, ad, G cy ad e) sz [.ref (ad 0), .int (nI 1), .int (nI k), .int (nI f), .int (nI t), .int (nI h)]) (va_Qi (fun (r : Int32) (u : WT) => (¬ (e (PB (e (RB k) 0)) 0 ≤ f ∧ f ≤ t ∧ t ≤ 3600) ∧ r = -2 ∧ u = (C, ad, G cy ad e)) ∨ ((e (PB (e (RB k) 0)) 0 ≤ f ∧ f ≤ t ∧ t ≤ 3600) ∧ ¬ e (RB k) 4 = 0 ∧ r = -3 ∧ u = (C, ad, G cy ad e)) ∨ (((e (PB (e (RB k) 0)) 0 ≤ f ∧ f ≤ t ∧ t ≤ 3600) ∧ e (RB k) 4 = 0) ∧ r = nI (e (RB k) 3 - e (RB k) 2 + 1) ∧ u = (C, ad, G cy ad (mkC (mkC (es (es e (RB k) 2 f) (RB k) 3 t) (e (RB k) 0) (e (RB k) 2) (e (RB k) 3 + 1)) (e (RB k) 0) f (t + 1))))) (WB D cy (AW (C, ad, G cy ad e) sz)) (AW (C, ad, G cy ad e) sz)) 3 18 (AW (C, ad, G cy ad e) sz) := by
  refine mxw_start (cc := cL_calls) (maxL := 7) (ret := (some .int)) (hh := [(0, 71, 72, 30), (0, 71, 77, 32), (0, 71, 82, 34)]) (by decide) rfl (Nat.le_of_ble_eq_true rfl) ?_
  intro p9 e9 s m args below meth c hsz hr M w Th hNC htab ls hl
  have hx := M.1.1
  have hb := M.1.2.1
  have hl : lv_has ls 7 [(0, .ref (ad 0)), (1, .int (nI 1)), (2, .int (nI k)), (3, .int (nI f)), (4, .int (nI t)), (5, .int (nI h))] := hl
  refine lv_iload_n hx hb dL_calls_0 rfl (lv_at hl 1 rfl) ?_
  refine mi_if_ne hx hb (by decide) 17 dL_calls_1 (by decide) (fun h1 => ?_) (fun h1 => absurd h1 (by first | decide | omega))
  refine lv_iload_n hx hb dL_calls_17 rfl (lv_at hl 1 rfl) ?_
  refine lv_iconst (v := nI 1) hx hb dL_calls_18 (by decide) ?_
  refine mi_ne hx hb (by decide) (by decide) 33 dL_calls_19 (by decide) (fun h19 => absurd h19 (by first | decide | omega)) (fun h19 => ?_)
  refine lv_aload_n hx hb dL_calls_22 rfl (lv_at hl 0 rfl) ?_
  refine lv_iload_n hx hb dL_calls_23 rfl (lv_at hl 2 rfl) ?_
  refine lv_iload_n hx hb dL_calls_24 rfl (lv_at hl 3 rfl) ?_
  refine lv_iload hx hb dL_calls_25 (lv_at hl 4 rfl) ?_
  refine mxc_Vi M w Th (kX3_change l hfl D cy C ad e s.heap.size k f t hCC hW hk9 hf9 ht9) (cwV 3 M.1.2.2.2.2 gL_calls_X3_change rfl rfl rfl (by decide +kernel) ⟨Nat.le_of_ble_eq_true rfl, Nat.le_of_ble_eq_true rfl⟩) (mo_rec M w (hB 0 (by decide)) (g := G cy ad e) (sh_0 cy ad (e 0)) rfl) rfl hl.1 rfl (Nat.le_of_ble_eq_true rfl) dL_calls_27 ⟨by decide, by decide⟩ (fun E ce q9 u1 H locs hce hcv hcl hp9 w => ?_) (fun r27 u1 H locs hp1 w => ?_)
  · rcases hp9 with h9 | ⟨c1, c2, h9⟩ | ⟨c1, c2, h9⟩
    · exact (h9.1 hk).elim
    · obtain ⟨rfl, rfl⟩ := Prod.mk.inj h9
      refine mxc_catch M Th 77 [⟨0, 71, 72, 30⟩] ⟨0, 71, 77, 32⟩ [⟨0, 71, 82, 34⟩] htab rfl (List.forall_mem_cons.mpr ⟨⟨by decide, eIO, show Cond.classLink RL 30 eIO ∈ wsL_calls by decide +kernel, hNC.1⟩, fun _ h => absurd h List.not_mem_nil⟩) (by decide) (by decide) (show Cond.classLink RL 32 eIA ∈ wsL_calls by decide +kernel) (by decide +kernel) hce hcv hcl ?_
      refine lv_astore (lv' := _) hx hb dL_calls_77 hl (by decide) rfl (fun ls hl => ?_)
      refine lv_bipush (v := (-2)) hx hb dL_calls_79 (by decide) ?_
      exact mx_iret M w hr (v := (-2)) (Or.inl ⟨c2, rfl, rfl⟩) (by decide) (by decide) dL_calls_81
    · obtain ⟨rfl, rfl⟩ := Prod.mk.inj h9
      refine mxc_catch M Th 82 [⟨0, 71, 72, 30⟩, ⟨0, 71, 77, 32⟩] ⟨0, 71, 82, 34⟩ [] htab rfl (List.forall_mem_cons.mpr ⟨⟨by decide, eIO, show Cond.classLink RL 30 eIO ∈ wsL_calls by decide +kernel, hNC.2.1⟩, List.forall_mem_cons.mpr ⟨⟨by decide, eIA, show Cond.classLink RL 32 eIA ∈ wsL_calls by decide +kernel, hNC.2.2⟩, fun _ h => absurd h List.not_mem_nil⟩⟩) (by decide) (by decide) (show Cond.classLink RL 34 eIS ∈ wsL_calls by decide +kernel) (by decide +kernel) hce hcv hcl ?_
      refine lv_astore (lv' := _) hx hb dL_calls_82 hl (by decide) rfl (fun ls hl => ?_)
      refine lv_bipush (v := (-3)) hx hb dL_calls_84 (by decide) ?_
      exact mx_iret M w hr (v := (-3)) (Or.inr (Or.inl ⟨c1.2, c2, rfl, rfl⟩)) (by decide) (by decide) dL_calls_86
  obtain ⟨c1, rfl, rfl⟩ := hp1
  refine lv_goto (tgt := 71) hx hb dL_calls_30 (by decide) ?_
  exact mx_iret M w hr (v := _) (Or.inr (Or.inr ⟨⟨c1.1.2, c1.2⟩, rfl, rfl⟩)) (by decide) (by decide) dL_calls_71

set_option maxHeartbeats 4000000 in
set_option maxRecDepth 100000 in
/-- LeavebankLaw.calls, by sick -/
theorem kL_calls2 (l : Launch) (hfl : l.stackTraces = false) (D : va_G) (cy : Nat → ClassId) (C : List Nat) (ad : Nat → Nat) (e : Nat → Nat → Nat) (sz : Nat) (k f t h : Nat) (hB : ∀ k, k < 13 → k ∈ C) (hCC : CC (e 0 1) (e 0 3) C) (hW : CW e) (hok : (k < e 0 1 ∧ (e (PB k) 0 ≤ f ∧ f ≤ t ∧ t ≤ 3600)) ∧ e 0 4 < 30) (hk9 : k < 4294967296) : Met l yL_calls wsL_calls ({ frames := 8, cells := 3, slots := 18, locals := 128 } : Room) (PreW D cy (C, ad, G cy ad e) sz [.ref (ad 0), .int (nI 2), .int (nI k), .int (nI f), .int (nI t), .int (nI h)]) (va_Qi (fun (r : Int32) (u : WT) => r = nI (e 0 4 + 1) ∧ u = (C, ad, G cy ad (es (esC e k f t) 0 4 (e 0 4 + 1)))) (WB D cy (AW (C, ad, G cy ad e) sz)) (AW (C, ad, G cy ad e) sz)) 3 18 (AW (C, ad, G cy ad e) sz) := by
  refine mxw_start (cc := cL_calls) (maxL := 7) (ret := (some .int)) (hh := [(0, 71, 72, 30), (0, 71, 77, 32), (0, 71, 82, 34)]) (by decide) rfl (Nat.le_of_ble_eq_true rfl) ?_
  intro p9 e9 s m args below meth c hsz hr M w Th hNC htab ls hl
  have hx := M.1.1
  have hb := M.1.2.1
  have hl : lv_has ls 7 [(0, .ref (ad 0)), (1, .int (nI 2)), (2, .int (nI k)), (3, .int (nI f)), (4, .int (nI t)), (5, .int (nI h))] := hl
  refine lv_iload_n hx hb dL_calls_0 rfl (lv_at hl 1 rfl) ?_
  refine mi_if_ne hx hb (by decide) 17 dL_calls_1 (by decide) (fun h1 => ?_) (fun h1 => absurd h1 (by first | decide | omega))
  refine lv_iload_n hx hb dL_calls_17 rfl (lv_at hl 1 rfl) ?_
  refine lv_iconst (v := nI 1) hx hb dL_calls_18 (by decide) ?_
  refine mi_ne hx hb (by decide) (by decide) 33 dL_calls_19 (by decide) (fun h19 => ?_) (fun h19 => absurd h19 (by first | decide | omega))
  refine lv_iload_n hx hb dL_calls_33 rfl (lv_at hl 1 rfl) ?_
  refine lv_iconst (v := nI 2) hx hb dL_calls_34 (by decide) ?_
  refine mi_ne hx hb (by decide) (by decide) 49 dL_calls_35 (by decide) (fun h35 => absurd h35 (by first | decide | omega)) (fun h35 => ?_)
  refine lv_aload_n hx hb dL_calls_38 rfl (lv_at hl 0 rfl) ?_
  refine lv_iload_n hx hb dL_calls_39 rfl (lv_at hl 2 rfl) ?_
  refine lv_iload_n hx hb dL_calls_40 rfl (lv_at hl 3 rfl) ?_
  refine lv_iload hx hb dL_calls_41 (lv_at hl 4 rfl) ?_
  refine mxc_Vi M w Th (kX3_sick l hfl D cy C ad e s.heap.size k f t hCC hW hk9 (by omega) (by omega)) (cwV 3 M.1.2.2.2.2 gL_calls_X3_sick rfl rfl rfl (by decide +kernel) ⟨Nat.le_of_ble_eq_true rfl, Nat.le_of_ble_eq_true rfl⟩) (mo_rec M w (hB 0 (by decide)) (g := G cy ad e) (sh_0 cy ad (e 0)) rfl) rfl hl.1 rfl (Nat.le_of_ble_eq_true rfl) dL_calls_43 ⟨by decide, by decide⟩ (fun E ce q9 u1 H locs hce hcv hcl hp9 w => (hp9.elim (fun h => (h.1 hok.1.1).elim) (fun h => h.elim (fun h => (h.2.1 hok.1.2).elim) (fun h => (h.2.1 hok.2).elim)))) (fun r43 u1 H locs hp1 w => ?_)
  obtain ⟨_, rfl, rfl⟩ := hp1
  refine lv_goto (tgt := 71) hx hb dL_calls_46 (by decide) ?_
  exact mx_iret M w hr (v := _) ⟨rfl, rfl⟩ (by decide) (by decide) dL_calls_71

set_option maxHeartbeats 4000000 in
set_option maxRecDepth 100000 in
/-- LeavebankLaw.calls, by payOut -/
theorem kL_calls3 (l : Launch) (hfl : l.stackTraces = false) (D : va_G) (cy : Nat → ClassId) (C : List Nat) (ad : Nat → Nat) (e : Nat → Nat → Nat) (sz : Nat) (k h f t : Nat) (hB : ∀ k, k < 13 → k ∈ C) (hCC : CC (e 0 1) (e 0 3) C) (hW : CW e) (hok : k < e 0 1 ∧ (1 ≤ h ∧ h ≤ 20000) ∧ e 0 5 < 20) (hk9 : k < 4294967296) : Met l yL_calls wsL_calls ({ frames := 8, cells := 4, slots := 24, locals := 128 } : Room) (PreW D cy (C, ad, G cy ad e) sz [.ref (ad 0), .int (nI 3), .int (nI k), .int (nI h), .int (nI f), .int (nI t)]) (va_Qi (fun (r : Int32) (u : WT) => (totC (goC e k (e 0 6 + 1 - e (PB k) 0)) < h ∧ r = -3 ∧ u = (C, ad, G cy ad (goC e k (e 0 6 + 1 - e (PB k) 0)))) ∨ (h ≤ totC (goC e k (e 0 6 + 1 - e (PB k) 0)) ∧ r = nI (e 0 5) ∧ u = (C, ad, G cy ad (es (epC (goC e k (e 0 6 + 1 - e (PB k) 0)) k (e 0 6) h) 0 5 (e 0 5 + 1))))) (WB D cy (AW (C, ad, G cy ad e) sz)) (AW (C, ad, G cy ad e) sz)) 4 24 (AW (C, ad, G cy ad e) sz) := by
  refine mxw_start (cc := cL_calls) (maxL := 7) (ret := (some .int)) (hh := [(0, 71, 72, 30), (0, 71, 77, 32), (0, 71, 82, 34)]) (by decide) rfl (Nat.le_of_ble_eq_true rfl) ?_
  intro p9 e9 s m args below meth c hsz hr M w Th hNC htab ls hl
  have hx := M.1.1
  have hb := M.1.2.1
  have hl : lv_has ls 7 [(0, .ref (ad 0)), (1, .int (nI 3)), (2, .int (nI k)), (3, .int (nI h)), (4, .int (nI f)), (5, .int (nI t))] := hl
  refine lv_iload_n hx hb dL_calls_0 rfl (lv_at hl 1 rfl) ?_
  refine mi_if_ne hx hb (by decide) 17 dL_calls_1 (by decide) (fun h1 => ?_) (fun h1 => absurd h1 (by first | decide | omega))
  refine lv_iload_n hx hb dL_calls_17 rfl (lv_at hl 1 rfl) ?_
  refine lv_iconst (v := nI 1) hx hb dL_calls_18 (by decide) ?_
  refine mi_ne hx hb (by decide) (by decide) 33 dL_calls_19 (by decide) (fun h19 => ?_) (fun h19 => absurd h19 (by first | decide | omega))
  refine lv_iload_n hx hb dL_calls_33 rfl (lv_at hl 1 rfl) ?_
  refine lv_iconst (v := nI 2) hx hb dL_calls_34 (by decide) ?_
  refine mi_ne hx hb (by decide) (by decide) 49 dL_calls_35 (by decide) (fun h35 => ?_) (fun h35 => absurd h35 (by first | decide | omega))
  refine lv_iload_n hx hb dL_calls_49 rfl (lv_at hl 1 rfl) ?_
  refine lv_iconst (v := nI 3) hx hb dL_calls_50 (by decide) ?_
  refine mi_ne hx hb (by decide) (by decide) 63 dL_calls_51 (by decide) (fun h51 => absurd h51 (by first | decide | omega)) (fun h51 => ?_)
  refine lv_aload_n hx hb dL_calls_54 rfl (lv_at hl 0 rfl) ?_
  refine lv_iload_n hx hb dL_calls_55 rfl (lv_at hl 2 rfl) ?_
  refine lv_iload_n hx hb dL_calls_56 rfl (lv_at hl 3 rfl) ?_
  refine mxc_Vi M w Th (kX3_payOut l hfl D cy C ad e s.heap.size k h hCC hW hk9 (by omega)) (cwV 2 M.1.2.2.2.2 gL_calls_X3_payOut rfl rfl rfl (by decide +kernel) ⟨Nat.le_of_ble_eq_true rfl, Nat.le_of_ble_eq_true rfl⟩) (mo_rec M w (hB 0 (by decide)) (g := G cy ad e) (sh_0 cy ad (e 0)) rfl) rfl hl.1 rfl (Nat.le_of_ble_eq_true rfl) dL_calls_57 ⟨by decide, by decide⟩ (fun E ce q9 u1 H locs hce hcv hcl hp9 w => ?_) (fun r57 u1 H locs hp1 w => ?_)
  · rcases hp9 with h9 | ⟨c1, c2, h9⟩ | ⟨c1, c2, h9⟩ | ⟨c1, c2, h9⟩
    · exact (h9.1 hok.1).elim
    · exact (c2 hok.2.1).elim
    · exact (c2 hok.2.2).elim
    · obtain ⟨rfl, rfl⟩ := Prod.mk.inj h9
      refine mxc_catch M Th 82 [⟨0, 71, 72, 30⟩, ⟨0, 71, 77, 32⟩] ⟨0, 71, 82, 34⟩ [] htab rfl (List.forall_mem_cons.mpr ⟨⟨by decide, eIO, show Cond.classLink RL 30 eIO ∈ wsL_calls by decide +kernel, hNC.2.1⟩, List.forall_mem_cons.mpr ⟨⟨by decide, eIA, show Cond.classLink RL 32 eIA ∈ wsL_calls by decide +kernel, hNC.2.2⟩, fun _ h => absurd h List.not_mem_nil⟩⟩) (by decide) (by decide) (show Cond.classLink RL 34 eIS ∈ wsL_calls by decide +kernel) (by decide +kernel) hce hcv hcl ?_
      refine lv_astore (lv' := _) hx hb dL_calls_82 hl (by decide) rfl (fun ls hl => ?_)
      refine lv_bipush (v := (-3)) hx hb dL_calls_84 (by decide) ?_
      exact mx_iret M w hr (v := (-3)) (Or.inl ⟨c2, rfl, rfl⟩) (by decide) (by decide) dL_calls_86
  obtain ⟨c1, rfl, rfl⟩ := hp1
  refine lv_goto (tgt := 71) hx hb dL_calls_60 (by decide) ?_
  exact mx_iret M w hr (v := _) (Or.inr ⟨c1.2.2, rfl, rfl⟩) (by decide) (by decide) dL_calls_71

set_option maxHeartbeats 4000000 in
set_option maxRecDepth 100000 in
/-- LeavebankLaw.calls, by setHours -/
theorem kL_calls4 (l : Launch) (hfl : l.stackTraces = false) (D : va_G) (cy : Nat → ClassId) (C : List Nat) (ad : Nat → Nat) (e : Nat → Nat → Nat) (sz : Nat) (k d h t : Nat) (hB : ∀ k, k < 13 → k ∈ C) (hCC : CC (e 0 1) (e 0 3) C) (hW : CW e) (hok : (k < e 0 1 ∧ e (PB k) 0 ≤ d ∧ d ≤ 3600) ∧ 1 ≤ h ∧ h ≤ 10) (hk9 : k < 4294967296) : Met l yL_calls wsL_calls ({ frames := 8, cells := 4, slots := 24, locals := 129 } : Room) (PreW D cy (C, ad, G cy ad e) sz [.ref (ad 0), .int (nI 4), .int (nI k), .int (nI d), .int (nI h), .int (nI t)]) (va_Qi (fun (r : Int32) (u : WT) => (¬ fiN (e (PB k + 1)) d (e (PB k) 5) < 10 ∧ r = -3 ∧ u = (C, ad, G cy ad e)) ∨ (fiN (e (PB k + 1)) d (e (PB k) 5) < 10 ∧ r = nI (hrC e k d) ∧ u = (C, ad, G cy ad (ehC e k d h)))) (WB D cy (AW (C, ad, G cy ad e) sz)) (AW (C, ad, G cy ad e) sz)) 4 24 (AW (C, ad, G cy ad e) sz) := by
  refine mxw_start (cc := cL_calls) (maxL := 7) (ret := (some .int)) (hh := [(0, 71, 72, 30), (0, 71, 77, 32), (0, 71, 82, 34)]) (by decide) rfl (Nat.le_of_ble_eq_true rfl) ?_
  intro p9 e9 s m args below meth c hsz hr M w Th hNC htab ls hl
  have hx := M.1.1
  have hb := M.1.2.1
  have hl : lv_has ls 7 [(0, .ref (ad 0)), (1, .int (nI 4)), (2, .int (nI k)), (3, .int (nI d)), (4, .int (nI h)), (5, .int (nI t))] := hl
  refine lv_iload_n hx hb dL_calls_0 rfl (lv_at hl 1 rfl) ?_
  refine mi_if_ne hx hb (by decide) 17 dL_calls_1 (by decide) (fun h1 => ?_) (fun h1 => absurd h1 (by first | decide | omega))
  refine lv_iload_n hx hb dL_calls_17 rfl (lv_at hl 1 rfl) ?_
  refine lv_iconst (v := nI 1) hx hb dL_calls_18 (by decide) ?_
  refine mi_ne hx hb (by decide) (by decide) 33 dL_calls_19 (by decide) (fun h19 => ?_) (fun h19 => absurd h19 (by first | decide | omega))
  refine lv_iload_n hx hb dL_calls_33 rfl (lv_at hl 1 rfl) ?_
  refine lv_iconst (v := nI 2) hx hb dL_calls_34 (by decide) ?_
  refine mi_ne hx hb (by decide) (by decide) 49 dL_calls_35 (by decide) (fun h35 => ?_) (fun h35 => absurd h35 (by first | decide | omega))
  refine lv_iload_n hx hb dL_calls_49 rfl (lv_at hl 1 rfl) ?_
  refine lv_iconst (v := nI 3) hx hb dL_calls_50 (by decide) ?_
  refine mi_ne hx hb (by decide) (by decide) 63 dL_calls_51 (by decide) (fun h51 => ?_) (fun h51 => absurd h51 (by first | decide | omega))
  refine lv_aload_n hx hb dL_calls_63 rfl (lv_at hl 0 rfl) ?_
  refine lv_iload_n hx hb dL_calls_64 rfl (lv_at hl 2 rfl) ?_
  refine lv_iload_n hx hb dL_calls_65 rfl (lv_at hl 3 rfl) ?_
  refine lv_iload hx hb dL_calls_66 (lv_at hl 4 rfl) ?_
  refine mxc_Vi M w Th (kX3_setHours l hfl D cy C ad e s.heap.size k d h hCC hW hk9 (by omega) (by omega)) (cwV 3 M.1.2.2.2.2 gL_calls_X3_setHours rfl rfl rfl (by decide +kernel) ⟨Nat.le_of_ble_eq_true rfl, Nat.le_of_ble_eq_true rfl⟩) (mo_rec M w (hB 0 (by decide)) (g := G cy ad e) (sh_0 cy ad (e 0)) rfl) rfl hl.1 rfl (Nat.le_of_ble_eq_true rfl) dL_calls_68 ⟨by decide, by decide⟩ (fun E ce q9 u1 H locs hce hcv hcl hp9 w => ?_) (fun r68 u1 H locs hp1 w => ?_)
  · rcases hp9 with h9 | ⟨c1, c2, h9⟩ | ⟨c1, c2, h9⟩ | ⟨c1, c2, h9⟩
    · exact (h9.1 hok.1.1).elim
    · exact (c2 hok.1.2).elim
    · exact (c2 hok.2).elim
    · obtain ⟨rfl, rfl⟩ := Prod.mk.inj h9
      refine mxc_catch M Th 82 [⟨0, 71, 72, 30⟩, ⟨0, 71, 77, 32⟩] ⟨0, 71, 82, 34⟩ [] htab rfl (List.forall_mem_cons.mpr ⟨⟨by decide, eIO, show Cond.classLink RL 30 eIO ∈ wsL_calls by decide +kernel, hNC.2.1⟩, List.forall_mem_cons.mpr ⟨⟨by decide, eIA, show Cond.classLink RL 32 eIA ∈ wsL_calls by decide +kernel, hNC.2.2⟩, fun _ h => absurd h List.not_mem_nil⟩⟩) (by decide) (by decide) (show Cond.classLink RL 34 eIS ∈ wsL_calls by decide +kernel) (by decide +kernel) hce hcv hcl ?_
      refine lv_astore (lv' := _) hx hb dL_calls_82 hl (by decide) rfl (fun ls hl => ?_)
      refine lv_bipush (v := (-3)) hx hb dL_calls_84 (by decide) ?_
      exact mx_iret M w hr (v := (-3)) (Or.inl ⟨c2, rfl, rfl⟩) (by decide) (by decide) dL_calls_86
  obtain ⟨c1, rfl, rfl⟩ := hp1
  exact mx_iret M w hr (v := _) (Or.inr ⟨c1.2.2, rfl, rfl⟩) (by decide) (by decide) dL_calls_71

set_option maxHeartbeats 4000000 in
set_option maxRecDepth 100000 in
/-- LeavebankLaw.cancels, by cancel -/
theorem kL_cancels (l : Launch) (hfl : l.stackTraces = false) (D : va_G) (cy : Nat → ClassId) (C : List Nat) (ad : Nat → Nat) (e : Nat → Nat → Nat) (sz : Nat) (k : Nat) (hB : ∀ k, k < 13 → k ∈ C) (hCC : CC (e 0 1) (e 0 3) C) (hW : CW e) (hk : k < e 0 3) (hk9 : k < 4294967296) : Met l yL_cancels wsL_cancels ({ frames := 8, cells := 2, slots := 12, locals := 126 } : Room) (PreW D cy (C, ad, G cy ad e) sz [.ref (ad 0), .int (nI k)]) (va_Qi (fun (r : Int32) (u : WT) => (¬ e (RB k) 4 = 0 ∧ r = -3 ∧ u = (C, ad, G cy ad e)) ∨ (e (RB k) 4 = 0 ∧ r = nI 0 ∧ u = (C, ad, G cy ad (mkC (es e (RB k) 4 1) (e (RB k) 0) (e (RB k) 2) (e (RB k) 3 + 1))))) (WB D cy (AW (C, ad, G cy ad e) sz)) (AW (C, ad, G cy ad e) sz)) 2 12 (AW (C, ad, G cy ad e) sz) := by
  refine mxw_start (cc := cL_cancels) (maxL := 3) (ret := (some .int)) (hh := [(0, 6, 7, 34)]) (by decide) rfl (Nat.le_of_ble_eq_true rfl) ?_
  intro p9 e9 s m args below meth c hsz hr M w Th hNC htab ls hl
  have hx := M.1.1
  have hb := M.1.2.1
  have hl : lv_has ls 3 [(0, .ref (ad 0)), (1, .int (nI k))] := hl
  refine lv_aload_n hx hb dL_cancels_0 rfl (lv_at hl 0 rfl) ?_
  refine lv_iload_n hx hb dL_cancels_1 rfl (lv_at hl 1 rfl) ?_
  refine mxc_Vv M w Th (kX3_cancel l hfl D cy C ad e s.heap.size k hCC hW hk9) (cwV 1 M.1.2.2.2.2 gL_cancels_X3_cancel rfl rfl rfl (by decide +kernel) ⟨Nat.le_of_ble_eq_true rfl, Nat.le_of_ble_eq_true rfl⟩) (mo_rec M w (hB 0 (by decide)) (g := G cy ad e) (sh_0 cy ad (e 0)) rfl) rfl hl.1 rfl (Nat.le_of_ble_eq_true rfl) dL_cancels_2 ⟨by decide, by decide⟩ (fun E ce q9 u1 H locs hce hcv hcl hp9 w => ?_) (fun u1 H locs hp1 w => ?_)
  · rcases hp9 with h9 | ⟨c1, c2, h9⟩
    · exact (h9.1 hk).elim
    · obtain ⟨rfl, rfl⟩ := Prod.mk.inj h9
      refine mxc_catch M Th 7 [] ⟨0, 6, 7, 34⟩ [] htab rfl (fun _ h => absurd h List.not_mem_nil) (by decide) (by decide) (show Cond.classLink RL 34 eIS ∈ wsL_cancels by decide +kernel) (by decide +kernel) hce hcv hcl ?_
      refine lv_astore_n (lv' := _) hx hb dL_cancels_7 rfl hl (by decide) rfl (fun ls hl => ?_)
      refine lv_bipush (v := (-3)) hx hb dL_cancels_8 (by decide) ?_
      exact mx_iret M w hr (v := (-3)) (Or.inl ⟨c2, rfl, rfl⟩) (by decide) (by decide) dL_cancels_10
  obtain ⟨c1, rfl⟩ := hp1
  refine lv_iconst (v := nI 0) hx hb dL_cancels_5 (by decide) ?_
  exact mx_iret M w hr (v := (nI 0)) (Or.inr ⟨c1.2, rfl, rfl⟩) (by decide) (by decide) dL_cancels_6
