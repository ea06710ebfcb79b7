set_option maxHeartbeats 4000000 in
set_option maxRecDepth 100000 in
/-- Ledger.<init>() -/
theorem kX0_init (l : Launch) (D : va_G) (cy : Nat → ClassId) (C : List Nat) (ad : Nat → Nat) (g : Nat → va_E) (sz : Nat)  (h0 : 3 ∈ C) (hfr : ∀ c, 3 ≤ c → c < 6 → c ≠ 3 → c ∉ C) (he : g 3 = .inr (0, [.null, .null, .int (nI 0), .int (nI 0), .int (nI 0), .int (nI 0), .int (nI 0), .int (nI 0), .int (nI 0), .int (nI 0), .int (nI 0)])) : Met l yX0_init wsX0_init ({ frames := 1, cells := 2, slots := 240, locals := 12 } : Room) (PreM D cy (C, ad, g) sz [.ref (ad 3)]) (va_Qv (fun (u : WT) => ∃ ad' g', (∀ c, c < 3 ∨ 6 ≤ c ∨ c = 3 → ad' c = ad c) ∧ (∀ c, c < 3 ∨ 6 ≤ c → g' c = g c) ∧ (∀ c, 3 ≤ c → c < 6 → g' c = sh cy ad' c (fun _ => 0)) ∧ u = (((C ++ [4]) ++ [5]), ad', g')) (WB D cy (AW (C, ad, g) sz)) (AW (C, ad, g) sz)) 2 240 (AW (C, ad, g) sz) := by
  refine mx_start (cc := cX0_init) (maxL := 1) (ret := none) (by decide) rfl (Nat.le_of_ble_eq_true rfl) ?_
  intro p9 e9 s m args below meth c hsz hr hnm M w ls hl
  have hx := M.1.1
  have hb := M.1.2.1
  have inX0 : ∀ w ∈ wsX00, w ∈ wsX0_init := by decide +kernel
  have f9 : Cond.fieldLink RX0 9 RX0 "lotPoints" "[I" ∈ wsX0_init := by decide +kernel
  have f15 : Cond.fieldLink RX0 15 RX0 "lotExpiries" "[I" ∈ wsX0_init := by decide +kernel
  have hl : lv_has ls 1 [(0, .ref (ad 3))] := hl
  obtain ⟨q0, hq0⟩ : ∃ z, z = ad 3 := ⟨_, rfl⟩
  rw [← hq0] at hl
  refine lv_aload_n hx hb dX0_init_0 rfl (lv_at hl 0 rfl) ?_
  refine W.objInit hx hb M.1.2.2.2.1 (M.1.2.2.2.2 _ (show Cond.methodLink RX0 3 objectInit ∈ wsX0_init by decide +kernel)) (M.1.2.2.2.2 _ (show Cond.instanceMethod objectInit ∈ wsX0_init by decide +kernel)) (M.1.2.2.2.2 _ (show Cond.code objectInit ⟨#[0xb1]⟩ 1 none ∈ wsX0_init by decide +kernel)) rfl (hl.1.trans M.1.2.2.1.symm) rfl dX0_init_1 (by decide) (Nat.le_of_ble_eq_true rfl) ?_
  refine W.eq (g2 := F0 m 4 ls []) rfl ?_
  refine lv_aload_n hx hb dX0_init_4 rfl (lv_at hl 0 rfl) ?_
  refine lv_bipush (v := nI 120) hx hb dX0_init_5 (by decide) ?_
  refine mx_newI M w 4 (hfr 4 (by decide) (by decide) (by decide)) (by decide +kernel) (n := 120) (by decide) (Nat.le_of_ble_eq_true rfl) (Nat.le_of_ble_eq_true rfl) dX0_init_7 (fun ad1 H had1 w => ?_)
  replace hq0 := hq0.trans (had1 _ (by first | omega | (unfold PB; omega) | (unfold RB; omega) | (unfold PB RB; omega))).symm
  obtain ⟨q1, hq1⟩ : ∃ z, z = ad1 4 := ⟨_, rfl⟩
  rw [← hq1]
  replace w : MO D (AW (C, ad, g) sz) s.heap ((C ++ [4]), ad1, (mu g 4 (.inl (cy 0, 120, .inl (fun _ => nI 0))))) H _ := w
  refine mx_putFq M w hq0 (in_app (h0)) (((mu_ne _ _ (by first | omega | (unfold PB; omega) | (unfold RB; omega) | (unfold PB RB; omega))).trans (he))) rfl inX0 tyX0 tyX0_ok nmX0 0 (by decide) f9 rfl hnm rfl (v := .ref q1) rfl rfl (Nat.le_of_ble_eq_true rfl) dX0_init_9 (fun H locs w => ?_)
  replace w : MO D (AW (C, ad, g) sz) s.heap ((C ++ [4]), ad1, (mu (mu g 4 (.inl (cy 0, 120, .inl (fun _ => nI 0)))) 3 (.inr (0, [.ref q1, .null, .int (nI 0), .int (nI 0), .int (nI 0), .int (nI 0), .int (nI 0), .int (nI 0), .int (nI 0), .int (nI 0), .int (nI 0)])))) H _ := w
  refine lv_aload_n hx hb dX0_init_12 rfl (lv_at hl 0 rfl) ?_
  refine lv_bipush (v := nI 120) hx hb dX0_init_13 (by decide) ?_
  refine mx_newI M w 5 (nin_app (hfr 5 (by decide) (by decide) (by decide)) (by first | omega | (unfold PB; omega) | (unfold RB; omega) | (unfold PB RB; omega))) (by decide +kernel) (n := 120) (by decide) (Nat.le_of_ble_eq_true rfl) (Nat.le_of_ble_eq_true rfl) dX0_init_15 (fun ad2 H had2 w => ?_)
  replace hq0 := hq0.trans (had2 _ (by first | omega | (unfold PB; omega) | (unfold RB; omega) | (unfold PB RB; omega))).symm
  replace hq1 := hq1.trans (had2 _ (by first | omega | (unfold PB; omega) | (unfold RB; omega) | (unfold PB RB; omega))).symm
  obtain ⟨q2, hq2⟩ : ∃ z, z = ad2 5 := ⟨_, rfl⟩
  rw [← hq2]
  replace w : MO D (AW (C, ad, g) sz) s.heap (((C ++ [4]) ++ [5]), ad2, (mu (mu (mu g 4 (.inl (cy 0, 120, .inl (fun _ => nI 0)))) 3 (.inr (0, [.ref q1, .null, .int (nI 0), .int (nI 0), .int (nI 0), .int (nI 0), .int (nI 0), .int (nI 0), .int (nI 0), .int (nI 0), .int (nI 0)]))) 5 (.inl (cy 0, 120, .inl (fun _ => nI 0))))) H _ := w
  refine mx_putFq M w hq0 (in_app (in_app (h0))) (((mu_ne _ _ (by first | omega | (unfold PB; omega) | (unfold RB; omega) | (unfold PB RB; omega))).trans (mu_same _ _ _))) rfl inX0 tyX0 tyX0_ok nmX0 1 (by decide) f15 rfl hnm rfl (v := .ref q2) rfl rfl (Nat.le_of_ble_eq_true rfl) dX0_init_17 (fun H locs w => ?_)
  replace w : MO D (AW (C, ad, g) sz) s.heap (((C ++ [4]) ++ [5]), ad2, (mu (mu (mu (mu g 4 (.inl (cy 0, 120, .inl (fun _ => nI 0)))) 3 (.inr (0, [.ref q1, .null, .int (nI 0), .int (nI 0), .int (nI 0), .int (nI 0), .int (nI 0), .int (nI 0), .int (nI 0), .int (nI 0), .int (nI 0)]))) 5 (.inl (cy 0, 120, .inl (fun _ => nI 0)))) 3 (.inr (0, [.ref q1, .ref q2, .int (nI 0), .int (nI 0), .int (nI 0), .int (nI 0), .int (nI 0), .int (nI 0), .int (nI 0), .int (nI 0), .int (nI 0)])))) H _ := w
  have kall : ∀ c, 3 ≤ c → c < 6 → (mu (mu (mu (mu g 4 (.inl (cy 0, 120, .inl (fun _ => nI 0)))) 3 (.inr (0, [.ref q1, .null, .int (nI 0), .int (nI 0), .int (nI 0), .int (nI 0), .int (nI 0), .int (nI 0), .int (nI 0), .int (nI 0), .int (nI 0)]))) 5 (.inl (cy 0, 120, .inl (fun _ => nI 0)))) 3 (.inr (0, [.ref q1, .ref q2, .int (nI 0), .int (nI 0), .int (nI 0), .int (nI 0), .int (nI 0), .int (nI 0), .int (nI 0), .int (nI 0), .int (nI 0)]))) c = sh cy ad2 c (fun _ => 0) := fun c h1 h2 => by
    have q : c = 3 ∨ c = 4 ∨ c = 5 := by omega
    rcases q with rfl | rfl | rfl
    · exact ((mu_same _ _ _)).trans (by rw [hq1, hq2]; rfl)
    · exact (((mu_ne _ _ (by first | omega | (unfold PB; omega) | (unfold RB; omega) | (unfold PB RB; omega))).trans ((mu_ne _ _ (by first | omega | (unfold PB; omega) | (unfold RB; omega) | (unfold PB RB; omega))).trans ((mu_ne _ _ (by first | omega | (unfold PB; omega) | (unfold RB; omega) | (unfold PB RB; omega))).trans (mu_same _ _ _))))).trans (by rw [sh_4]; rfl)
    · exact (((mu_ne _ _ (by first | omega | (unfold PB; omega) | (unfold RB; omega) | (unfold PB RB; omega))).trans (mu_same _ _ _))).trans (by rw [sh_5]; rfl)
  exact mx_vret M w hr ⟨ad2, _, fun c hc => (had2 c (by omega)).trans ((had1 c (by omega))), fun c hc => (mu_ne _ _ (by omega)).trans ((mu_ne _ _ (by omega)).trans ((mu_ne _ _ (by omega)).trans ((mu_ne _ _ (by omega))))), kall, rfl⟩ (by decide) (by decide) dX0_init_20

set_option maxHeartbeats 4000000 in
set_option maxRecDepth 100000 in
/-- Leavebank.<init>() -/
theorem kX3_init (l : Launch) (D : va_G) (cy : Nat → ClassId) (C : List Nat) (ad : Nat → Nat) (g : Nat → va_E) (sz : Nat)  (h0 : 0 ∈ C) (hfr : ∀ c, 0 ≤ c → c < 6 → c ≠ 0 → c ∉ C) (he : g 0 = .inr (3, [.null, .int (nI 0), .null, .int (nI 0), .int (nI 0), .int (nI 0), .int (nI 0), .null])) : Met l yX3_init wsX3_init ({ frames := 2, cells := 5, slots := 299, locals := 32 } : Room) (PreM D cy (C, ad, g) sz [.ref (ad 0)]) (va_Qv (fun (u : WT) => ∃ ad' g', (∀ c, c < 0 ∨ 6 ≤ c ∨ c = 0 → ad' c = ad c) ∧ (∀ c, c < 0 ∨ 6 ≤ c → g' c = g c) ∧ (∀ c, 0 ≤ c → c < 6 → g' c = sh cy ad' c (fun _ => 0)) ∧ u = ((((((C ++ [1]) ++ [2]) ++ [3]) ++ [4]) ++ [5]), ad', g')) (WB D cy (AW (C, ad, g) sz)) (AW (C, ad, g) sz)) 5 299 (AW (C, ad, g) sz) := by
  refine mx_start (cc := cX3_init) (maxL := 1) (ret := none) (by decide) rfl (Nat.le_of_ble_eq_true rfl) ?_
  intro p9 e9 s m args below meth c hsz hr hnm M w ls hl
  have hx := M.1.1
  have hb := M.1.2.1
  have inX0 : ∀ w ∈ wsX00, w ∈ wsX3_init := by decide +kernel
  have inX3 : ∀ w ∈ wsX30, w ∈ wsX3_init := by decide +kernel
  have f11 : Cond.fieldLink RX3 11 RX3 "persons" "[LLeavebank$Person;" ∈ wsX3_init := by decide +kernel
  have f17 : Cond.fieldLink RX3 17 RX3 "requests" "[LLeavebank$Request;" ∈ wsX3_init := by decide +kernel
  have f24 : Cond.fieldLink RX3 24 RX3 "ledger" "LLeavebank$Ledger;" ∈ wsX3_init := by decide +kernel
  have hl : lv_has ls 1 [(0, .ref (ad 0))] := hl
  obtain ⟨q0, hq0⟩ : ∃ z, z = ad 0 := ⟨_, rfl⟩
  rw [← hq0] at hl
  refine lv_aload_n hx hb dX3_init_0 rfl (lv_at hl 0 rfl) ?_
  refine W.objInit hx hb M.1.2.2.2.1 (M.1.2.2.2.2 _ (show Cond.methodLink RX3 3 objectInit ∈ wsX3_init by decide +kernel)) (M.1.2.2.2.2 _ (show Cond.instanceMethod objectInit ∈ wsX3_init by decide +kernel)) (M.1.2.2.2.2 _ (show Cond.code objectInit ⟨#[0xb1]⟩ 1 none ∈ wsX3_init by decide +kernel)) rfl (hl.1.trans M.1.2.2.1.symm) rfl dX3_init_1 (by decide) (Nat.le_of_ble_eq_true rfl) ?_
  refine W.eq (g2 := F0 m 4 ls []) rfl ?_
  refine lv_aload_n hx hb dX3_init_4 rfl (lv_at hl 0 rfl) ?_
  refine lv_bipush (v := nI 8) hx hb dX3_init_5 (by decide) ?_
  refine mx_newq M w 1 (hfr 1 (by decide) (by decide) (by decide)) 2 rfl (show Cond.classLink RX3 9 RX1 ∈ wsX3_init by decide +kernel) M.2.2.2.2.2.2.1 (n := 8) (by decide) (Nat.le_of_ble_eq_true rfl) (Nat.le_of_ble_eq_true rfl) dX3_init_7 (fun ad1 H had1 w => ?_)
  replace hq0 := hq0.trans (had1 _ (by first | omega | (unfold PB; omega) | (unfold RB; omega) | (unfold PB RB; omega))).symm
  obtain ⟨q1, hq1⟩ : ∃ z, z = ad1 1 := ⟨_, rfl⟩
  rw [← hq1]
  replace w : MO D (AW (C, ad, g) sz) s.heap ((C ++ [1]), ad1, (mu g 1 (.inl (cy 2, 8, .inr (.inr (.inr (.inr (fun _ => none)))))))) H _ := w
  refine mx_putFq M w hq0 (in_app (h0)) (((mu_ne _ _ (by first | omega | (unfold PB; omega) | (unfold RB; omega) | (unfold PB RB; omega))).trans (he))) rfl inX3 tyX3 tyX3_ok nmX3 0 (by decide) f11 rfl hnm rfl (v := .ref q1) rfl rfl (Nat.le_of_ble_eq_true rfl) dX3_init_10 (fun H locs w => ?_)
  replace w : MO D (AW (C, ad, g) sz) s.heap ((C ++ [1]), ad1, (mu (mu g 1 (.inl (cy 2, 8, .inr (.inr (.inr (.inr (fun _ => none))))))) 0 (.inr (3, [.ref q1, .int (nI 0), .null, .int (nI 0), .int (nI 0), .int (nI 0), .int (nI 0), .null])))) H _ := w
  refine lv_aload_n hx hb dX3_init_13 rfl (lv_at hl 0 rfl) ?_
  refine lv_bipush (v := nI 40) hx hb dX3_init_14 (by decide) ?_
  refine mx_newq M w 2 (nin_app (hfr 2 (by decide) (by decide) (by decide)) (by first | omega | (unfold PB; omega) | (unfold RB; omega) | (unfold PB RB; omega))) 3 rfl (show Cond.classLink RX3 15 RX2 ∈ wsX3_init by decide +kernel) M.2.2.2.2.2.2.2 (n := 40) (by decide) (Nat.le_of_ble_eq_true rfl) (Nat.le_of_ble_eq_true rfl) dX3_init_16 (fun ad2 H had2 w => ?_)
  replace hq0 := hq0.trans (had2 _ (by first | omega | (unfold PB; omega) | (unfold RB; omega) | (unfold PB RB; omega))).symm
  replace hq1 := hq1.trans (had2 _ (by first | omega | (unfold PB; omega) | (unfold RB; omega) | (unfold PB RB; omega))).symm
  obtain ⟨q2, hq2⟩ : ∃ z, z = ad2 2 := ⟨_, rfl⟩
  rw [← hq2]
  replace w : MO D (AW (C, ad, g) sz) s.heap (((C ++ [1]) ++ [2]), ad2, (mu (mu (mu g 1 (.inl (cy 2, 8, .inr (.inr (.inr (.inr (fun _ => none))))))) 0 (.inr (3, [.ref q1, .int (nI 0), .null, .int (nI 0), .int (nI 0), .int (nI 0), .int (nI 0), .null]))) 2 (.inl (cy 3, 40, .inr (.inr (.inr (.inr (fun _ => none)))))))) H _ := w
  refine mx_putFq M w hq0 (in_app (in_app (h0))) (((mu_ne _ _ (by first | omega | (unfold PB; omega) | (unfold RB; omega) | (unfold PB RB; omega))).trans (mu_same _ _ _))) rfl inX3 tyX3 tyX3_ok nmX3 2 (by decide) f17 rfl hnm rfl (v := .ref q2) rfl rfl (Nat.le_of_ble_eq_true rfl) dX3_init_19 (fun H locs w => ?_)
  replace w : MO D (AW (C, ad, g) sz) s.heap (((C ++ [1]) ++ [2]), ad2, (mu (mu (mu (mu g 1 (.inl (cy 2, 8, .inr (.inr (.inr (.inr (fun _ => none))))))) 0 (.inr (3, [.ref q1, .int (nI 0), .null, .int (nI 0), .int (nI 0), .int (nI 0), .int (nI 0), .null]))) 2 (.inl (cy 3, 40, .inr (.inr (.inr (.inr (fun _ => none))))))) 0 (.inr (3, [.ref q1, .int (nI 0), .ref q2, .int (nI 0), .int (nI 0), .int (nI 0), .int (nI 0), .null])))) H _ := w
  refine lv_aload_n hx hb dX3_init_22 rfl (lv_at hl 0 rfl) ?_
  refine mx_new M w 3 (nin_app (nin_app (hfr 3 (by decide) (by decide) (by decide)) (by first | omega | (unfold PB; omega) | (unfold RB; omega) | (unfold PB RB; omega))) (by first | omega | (unfold PB; omega) | (unfold RB; omega) | (unfold PB RB; omega))) (ci := 0) rfl inX0 tyX0 tyX0_ok (show Cond.classLink RX3 21 RX0 ∈ wsX3_init by decide +kernel) (by decide +kernel) (by decide +kernel) (fs := [.null, .null, .int (nI 0), .int (nI 0), .int (nI 0), .int (nI 0), .int (nI 0), .int (nI 0), .int (nI 0), .int (nI 0), .int (nI 0)]) hfsX0 (Nat.le_of_ble_eq_true rfl) (Nat.le_of_ble_eq_true rfl) dX3_init_23 (fun ad3 H had3 w => ?_)
  replace hq0 := hq0.trans (had3 _ (by first | omega | (unfold PB; omega) | (unfold RB; omega) | (unfold PB RB; omega))).symm
  replace hq1 := hq1.trans (had3 _ (by first | omega | (unfold PB; omega) | (unfold RB; omega) | (unfold PB RB; omega))).symm
  replace hq2 := hq2.trans (had3 _ (by first | omega | (unfold PB; omega) | (unfold RB; omega) | (unfold PB RB; omega))).symm
  obtain ⟨q3, hq3⟩ : ∃ z, z = ad3 3 := ⟨_, rfl⟩
  rw [← hq3]
  replace w : MO D (AW (C, ad, g) sz) s.heap ((((C ++ [1]) ++ [2]) ++ [3]), ad3, (mu (mu (mu (mu (mu g 1 (.inl (cy 2, 8, .inr (.inr (.inr (.inr (fun _ => none))))))) 0 (.inr (3, [.ref q1, .int (nI 0), .null, .int (nI 0), .int (nI 0), .int (nI 0), .int (nI 0), .null]))) 2 (.inl (cy 3, 40, .inr (.inr (.inr (.inr (fun _ => none))))))) 0 (.inr (3, [.ref q1, .int (nI 0), .ref q2, .int (nI 0), .int (nI 0), .int (nI 0), .int (nI 0), .null]))) 3 (.inr (0, [.null, .null, .int (nI 0), .int (nI 0), .int (nI 0), .int (nI 0), .int (nI 0), .int (nI 0), .int (nI 0), .int (nI 0), .int (nI 0)])))) H _ := w
  refine lv_dup hx hb dX3_init_26 rfl ?_
  refine mx_INv M w (b := q3) (As := []) (by rw [hq3]; exact kX0_init l D cy _ ad3 (mu (mu (mu (mu (mu g 1 (.inl (cy 2, 8, .inr (.inr (.inr (.inr (fun _ => none))))))) 0 (.inr (3, [.ref q1, .int (nI 0), .null, .int (nI 0), .int (nI 0), .int (nI 0), .int (nI 0), .null]))) 2 (.inl (cy 3, 40, .inr (.inr (.inr (.inr (fun _ => none))))))) 0 (.inr (3, [.ref q1, .int (nI 0), .ref q2, .int (nI 0), .int (nI 0), .int (nI 0), .int (nI 0), .null]))) 3 (.inr (0, [.null, .null, .int (nI 0), .int (nI 0), .int (nI 0), .int (nI 0), .int (nI 0), .int (nI 0), .int (nI 0), .int (nI 0), .int (nI 0)]))) H.size in_self (fun c h1 h2 h3 => nin_app (nin_app (nin_app (hfr c (by omega) (by omega) (by omega)) (by omega)) (by omega)) (by omega)) (mu_same _ _ _)) ⟨va_cnB 0 M.1.2.2.2.2 gX3_init_X0_init_n23 rfl rfl rfl M.2.2.2.2.2.1 (M.1.2.2.2.2 _ (by decide +kernel)) (by decide +kernel) ⟨Nat.le_of_ble_eq_true rfl, Nat.le_of_ble_eq_true rfl⟩, rfl, M.1.2.2.2.2 _ (by decide +kernel)⟩ rfl hl.1 rfl (Nat.le_of_ble_eq_true rfl) dX3_init_27 ⟨by decide, by decide⟩ (fun u1 H locs hp1 w => ?_)
  obtain ⟨ad4, g4, had4, hg4, hk4, rfl⟩ := hp1
  replace hq0 := hq0.trans (had4 _ (by omega)).symm
  replace hq1 := hq1.trans (had4 _ (by omega)).symm
  replace hq2 := hq2.trans (had4 _ (by omega)).symm
  replace hq3 := hq3.trans (had4 _ (by omega)).symm
  have he4 : g4 0 = .inr (3, [.ref q1, .int (nI 0), .ref q2, .int (nI 0), .int (nI 0), .int (nI 0), .int (nI 0), .null]) := (hg4 0 (by omega)).trans ((mu_ne _ _ (by first | omega | (unfold PB; omega) | (unfold RB; omega) | (unfold PB RB; omega))).trans (mu_same _ _ _))
  refine mx_putFq M w hq0 ((in_app (in_app (in_app (in_app (in_app h0)))))) ((he4)) rfl inX3 tyX3 tyX3_ok nmX3 7 (by decide) f24 rfl hnm rfl (v := .ref q3) rfl rfl (Nat.le_of_ble_eq_true rfl) dX3_init_30 (fun H locs w => ?_)
  replace w : MO D (AW (C, ad, g) sz) s.heap ((((((C ++ [1]) ++ [2]) ++ [3]) ++ [4]) ++ [5]), ad4, (mu g4 0 (.inr (3, [.ref q1, .int (nI 0), .ref q2, .int (nI 0), .int (nI 0), .int (nI 0), .int (nI 0), .ref q3])))) H _ := w
  have kall : ∀ c, 0 ≤ c → c < 6 → (mu g4 0 (.inr (3, [.ref q1, .int (nI 0), .ref q2, .int (nI 0), .int (nI 0), .int (nI 0), .int (nI 0), .ref q3]))) c = sh cy ad4 c (fun _ => 0) := fun c h1 h2 => by
    have q : c = 0 ∨ c = 1 ∨ c = 2 ∨ c = 3 ∨ c = 4 ∨ c = 5 := by omega
    rcases q with rfl | rfl | rfl | rfl | rfl | rfl
    · exact (mu_same _ _ _).trans (by rw [hq1, hq2, hq3]; rfl)
    · exact (mu_ne _ _ (by omega)).trans ((hg4 _ (by omega)).trans ((((mu_ne _ _ (by first | omega | (unfold PB; omega) | (unfold RB; omega) | (unfold PB RB; omega))).trans ((mu_ne _ _ (by first | omega | (unfold PB; omega) | (unfold RB; omega) | (unfold PB RB; omega))).trans ((mu_ne _ _ (by first | omega | (unfold PB; omega) | (unfold RB; omega) | (unfold PB RB; omega))).trans ((mu_ne _ _ (by first | omega | (unfold PB; omega) | (unfold RB; omega) | (unfold PB RB; omega))).trans (mu_same _ _ _)))))).trans (by rw [sh_1]; rfl)))
    · exact (mu_ne _ _ (by omega)).trans ((hg4 _ (by omega)).trans ((((mu_ne _ _ (by first | omega | (unfold PB; omega) | (unfold RB; omega) | (unfold PB RB; omega))).trans ((mu_ne _ _ (by first | omega | (unfold PB; omega) | (unfold RB; omega) | (unfold PB RB; omega))).trans (mu_same _ _ _)))).trans (by rw [sh_2]; rfl)))
    · exact (mu_ne _ _ (by omega)).trans (hk4 _ (by omega) (by omega))
    · exact (mu_ne _ _ (by omega)).trans (hk4 _ (by omega) (by omega))
    · exact (mu_ne _ _ (by omega)).trans (hk4 _ (by omega) (by omega))
  exact mx_vret M w hr ⟨ad4, _, fun c hc => (had4 c (by omega)).trans ((had3 c (by omega)).trans ((had2 c (by omega)).trans ((had1 c (by omega))))), fun c hc => (mu_ne _ _ (by omega)).trans ((hg4 c (by omega)).trans ((mu_ne _ _ (by omega)).trans ((mu_ne _ _ (by omega)).trans ((mu_ne _ _ (by omega)).trans ((mu_ne _ _ (by omega)).trans ((mu_ne _ _ (by omega)))))))), kall, rfl⟩ (by decide) (by decide) dX3_init_33
