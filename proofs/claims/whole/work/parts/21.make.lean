section MXG
variable {p : Program} {l : Launch} {e : Env} {R : Room} {s : State} {m : MethodId} {args : Array Value} {below : List Frame} {meth : Method} {c : Code} {H : Heap} {locs : List Loc} {cells slots : Nat} {Q : State → Prop}
variable {cc : ByteArray} {pc : Nat} {ls : Array Slot} {rest : List Value} {D : va_G} {cy : Nat → ClassId} {A : Nat → Prop} {Ts : List Cond} {own : String} {nL : Nat} {C : List Nat} {ad : Nat → Nat} {g : Nat → va_E}
theorem mx_getq (M : MC p s m args meth c cc Ts own nL D cy A) (w : MO D A s.heap (C, ad, g) H locs) {x q : Nat} (hq : q = ad x) (hx : x ∈ C) {ci : Nat} {fs : List Value} (he : g x = .inr (ci, fs)) {CN : String} {T : u_T} {N : Nat} (hc : vwCl[ci]? = some (CN, T, N)) (hin : ∀ w ∈ u_ws CN T N, w ∈ Ts) {index : Nat} (k : Nat) (hk : k < N) (hl : Cond.fieldLink own index (T k).1 (T k).2.1 (T k).2.2.1 ∈ Ts) {v : Value} (hv : fs[k]? = some v) (hdg : decode cc pc = .ok (.getfield index, 3))
    (kk : W p l e R s m args below meth c H locs cells slots Q (F0 m (pc + 3) ls (v :: rest))) : W p l e R s m args below meth c H locs cells slots Q (F0 m pc ls (.ref q :: rest)) := by
  subst hq
  exact mx_get M w hx he hc hin k hk hl hv hdg kk
end MXG

set_option maxHeartbeats 4000000 in
set_option maxRecDepth 100000 in
/-- Leavebank.addPerson(right, hours) -/
theorem kX3_addPerson (l : Launch) (hfl : l.stackTraces = false) (D : va_G) (cy : Nat → ClassId) (C : List Nat) (ad : Nat → Nat) (e : Nat → Nat → Nat) (sz : Nat) (k h : Nat) (hCC : CC (e 0 1) (e 0 3) C) (hW : CW e) (hk : k < 4294967296) (hh : h < 4294967296) : vx_Met l yX3_addPerson wsX3_addPerson ({ frames := 7, cells := 11, slots := 3850, locals := 102 } : Room) (PreX D cy (C, ad, G cy ad e) sz [.ref (ad 0), .int (nI k), .int (nI h)]) (va_Qi (fun (r : Int32) (u : WT) => ((20 ≤ k ∧ k ≤ 80) ∧ (1 ≤ h ∧ h ≤ 10) ∧ e 0 1 < 8) ∧ r = nI (e 0 1) ∧ ∃ ad', (∀ c, c ∈ C → ad' c = ad c) ∧ u = (c9 (e 0 1) C, ad', G cy ad' (addC e k h))) (WB D cy (AW (C, ad, G cy ad e) sz)) (AW (C, ad, G cy ad e) sz)) (vx_X (fun (z : String × WT) => (¬ ((20 ≤ k ∧ k ≤ 80) ∧ (1 ≤ h ∧ h ≤ 10)) ∧ z = (eIA, (C, ad, G cy ad e))) ∨ (((20 ≤ k ∧ k ≤ 80) ∧ (1 ≤ h ∧ h ≤ 10)) ∧ ¬ e 0 1 < 8 ∧ z = (eIS, (C, ad, G cy ad e)))) (XB D cy (AW (C, ad, G cy ad e) sz)) (AW (C, ad, G cy ad e) sz)) 11 3850 (AW (C, ad, G cy ad e) sz) := by
  refine mxx_start (cc := cX3_addPerson) (maxL := 4) (ret := (some .int)) (by decide) rfl (Nat.le_of_ble_eq_true rfl) ?_
  intro p9 e9 s m args below meth c hsz hr hnm M w Th hxt ls hl
  have hx := M.1.1
  have hb := M.1.2.1
  have inX1 : ∀ w ∈ wsX10, w ∈ wsX3_addPerson := by decide +kernel
  have inX3 : ∀ w ∈ wsX30, w ∈ wsX3_addPerson := by decide +kernel
  have f11 : Cond.fieldLink RX3 11 RX3 "persons" "[LLeavebank$Person;" ∈ wsX3_addPerson := by decide +kernel
  have f39 : Cond.fieldLink RX3 39 RX3 "personCount" "I" ∈ wsX3_addPerson := by decide +kernel
  have f48 : Cond.fieldLink RX3 48 RX3 "currentDay" "I" ∈ wsX3_addPerson := by decide +kernel
  have hB := hCC.B
  have hl : lv_has ls 4 [(0, .ref (ad 0)), (1, .int (nI k)), (2, .int (nI h))] := hl
  refine lv_iload_n hx hb dX3_addPerson_0 rfl (lv_at hl 1 rfl) ?_
  refine lv_bipush (v := nI 20) hx hb dX3_addPerson_1 (by decide) ?_
  refine mw_lt hx hb hk (by decide) 12 dX3_addPerson_3 (by decide) (fun h3 => ?_) (fun h3 => ?_)
  · exact mx_throw M w Th hfl hxt (cls := eIA) (text := "right is out of range") (is := 30) (by decide +kernel) (show Cond.classLink RX3 28 eIA ∈ wsX3_addPerson by decide +kernel) (show Cond.initialized eIA ∈ wsX3_addPerson by decide +kernel) (by decide +kernel) rfl (show ∀ w ∈ (vx_atS RX3 32 eIA eUP).filter goodWord, w ∈ wsX3_addPerson by decide +kernel) (by decide +kernel) (by decide +kernel) hl.1 dX3_addPerson_12 dX3_addPerson_15 dX3_addPerson_16 dX3_addPerson_18 dX3_addPerson_21 (by decide) (Nat.le_of_ble_eq_true rfl) (by decide) (by decide) (Or.inl ⟨by omega, rfl⟩) (by decide) (by decide)
  · refine lv_iload_n hx hb dX3_addPerson_6 rfl (lv_at hl 1 rfl) ?_
    refine lv_bipush (v := nI 80) hx hb dX3_addPerson_7 (by decide) ?_
    refine mw_le hx hb hk (by decide) 22 dX3_addPerson_9 (by decide) (fun h9 => ?_) (fun h9 => ?_)
    · refine lv_iload_n hx hb dX3_addPerson_22 rfl (lv_at hl 2 rfl) ?_
      refine mxx_Sv M w Th hxt (kX3_checkHours l hfl D cy C ad e s.heap.size h hh) (va_cwS 1 M.1.2.2.2.2 gX3_addPerson_X3_checkHours rfl rfl rfl (by decide +kernel) ⟨Nat.le_of_ble_eq_true rfl, Nat.le_of_ble_eq_true rfl⟩) rfl hl.1 rfl (Nat.le_of_ble_eq_true rfl) dX3_addPerson_23 ⟨by decide, by decide⟩ ⟨by decide, by decide⟩ (fun E u1 h9 => Or.inl ⟨fun z => h9.1 z.2, h9.2⟩) (fun u1 H locs hp1 w => ?_)
      obtain ⟨c23, rfl⟩ := hp1
      have q6 := hW.np
      refine lv_aload_n hx hb dX3_addPerson_26 rfl (lv_at hl 0 rfl) ?_
      refine ex_get M w (hB 0 (by decide)) (sh_0 cy ad (e 0)) rfl inX3 1 (by decide) f39 rfl dX3_addPerson_27 ?_
      refine lv_aload_n hx hb dX3_addPerson_30 rfl (lv_at hl 0 rfl) ?_
      refine ex_get M w (hB 0 (by decide)) (sh_0 cy ad (e 0)) rfl inX3 0 (by decide) f11 rfl dX3_addPerson_31 ?_
      refine mx_alen M w (hB 1 (by decide)) 2 (g := G cy ad e) (sh_1 cy ad _) rfl (n := 8) rfl dX3_addPerson_34 ?_
      refine mi_lt hx hb (by have z := hW.np; omega) (by decide) 48 dX3_addPerson_35 (by decide) (fun h35 => ?_) (fun h35 => ?_)
      · refine lv_aload_n hx hb dX3_addPerson_48 rfl (lv_at hl 0 rfl) ?_
        refine ex_get M w (hB 0 (by decide)) (sh_0 cy ad (e 0)) rfl inX3 1 (by decide) f39 rfl dX3_addPerson_49 ?_
        refine lv_istore_n (lv' := [(3, .int (nI (e 0 1))), (0, .ref (ad 0)), (1, .int (nI k)), (2, .int (nI h))]) hx hb dX3_addPerson_52 rfl hl (by decide) rfl (fun ls hl => ?_)
        refine lv_aload_n hx hb dX3_addPerson_53 rfl (lv_at hl 1 rfl) ?_
        refine ex_get M w (hB 0 (by decide)) (sh_0 cy ad (e 0)) rfl inX3 0 (by decide) f11 rfl dX3_addPerson_54 ?_
        refine lv_iload_n hx hb dX3_addPerson_57 rfl (lv_at hl 0 rfl) ?_
        have hn8 : e 0 1 < 8 := by omega
        have hfr := hCC.newP hn8
        obtain ⟨q0, hq0⟩ : ∃ z, z = ad 0 := ⟨_, rfl⟩
        obtain ⟨q1, hq1⟩ : ∃ z, z = ad 1 := ⟨_, rfl⟩
        rw [← hq0] at hl
        rw [← hq1]
        refine mx_new M w (PB (e 0 1)) (hfr 0 (by decide)) (ci := 1) rfl inX1 tyX1 tyX1_ok (show Cond.classLink RX3 9 RX1 ∈ wsX3_addPerson by decide +kernel) (by decide +kernel) (by decide +kernel) (fs := [.int (nI 0), .int (nI 0), .int (nI 0), .null, .null, .int (nI 0), .null, .int (nI 0), .null, .null, .int (nI 0), .null, .null, .int (nI 0), .null]) hfsX1 (Nat.le_of_ble_eq_true rfl) (Nat.le_of_ble_eq_true rfl) dX3_addPerson_58 (fun ad1 H had1 w => ?_)
        replace hq0 := hq0.trans (had1 0 (by first | omega | (unfold PB; omega) | (unfold RB; omega) | (unfold PB RB; omega))).symm
        replace hq1 := hq1.trans (had1 1 (by first | omega | (unfold PB; omega) | (unfold RB; omega) | (unfold PB RB; omega))).symm
        obtain ⟨q2, hq2⟩ : ∃ z, z = ad1 (PB (e 0 1)) := ⟨_, rfl⟩
        rw [← hq2]
        refine lv_dup hx hb dX3_addPerson_61 rfl ?_
        refine lv_aload_n hx hb dX3_addPerson_62 rfl (lv_at hl 1 rfl) ?_
        refine mx_getq M w hq0 (in_app (hB 0 (by decide))) ((mu_ne _ _ (by first | omega | (unfold PB; omega) | (unfold RB; omega) | (unfold PB RB; omega))).trans (sh_0 cy ad (e 0))) rfl inX3 6 (by decide) f48 rfl dX3_addPerson_63 ?_
        refine lv_iload_n hx hb dX3_addPerson_66 rfl (lv_at hl 2 rfl) ?_
        refine lv_iload_n hx hb dX3_addPerson_67 rfl (lv_at hl 3 rfl) ?_
        refine mx_Iv M w (b := q2) (by rw [hq2]; exact kX1_init l D cy _ ad1 (mu (G cy ad e) (PB (e 0 1)) (.inr (1, [.int (nI 0), .int (nI 0), .int (nI 0), .null, .null, .int (nI 0), .null, .int (nI 0), .null, .null, .int (nI 0), .null, .null, .int (nI 0), .null]))) H.size (e 0 1) (e 0 6) k h hn8 in_self (fun j hj hj0 => nin_app (hfr j hj) (by unfold PB; omega)) (mu_same _ _ _)) (cwI 3 M.1.2.2.2.2 gX3_addPerson_X1_init rfl rfl rfl (M.1.2.2.2.2 _ (by decide +kernel)) (M.1.2.2.2.2 _ (by decide +kernel)) (M.1.2.2.2.2 _ (by decide +kernel)) rfl (by decide +kernel) ⟨Nat.le_of_ble_eq_true rfl, Nat.le_of_ble_eq_true rfl⟩) rfl hl.1 rfl (Nat.le_of_ble_eq_true rfl) dX3_addPerson_68 ⟨by decide, by decide⟩ (fun u1 H locs hp1 w => ?_)
        obtain ⟨ad2, g2, had2, hg2, hk2, rfl⟩ := hp1
        have had3 : ∀ c, c ∈ C → ad2 c = ad c := fun c hc => (had2 c (fun j hj _ z => hfr j hj (z ▸ hc))).trans (had1 c (fun z => hfr 0 (by decide) (z ▸ hc)))
        replace w := MO_same w (G_addP (a := k) (h := h) hCC hW hn8 had3 (fun c hc => (hg2 c (fun j hj z => hfr j hj (z ▸ hc))).trans (mu_ne _ _ (fun z => hfr 0 (by decide) (z ▸ hc)))) hk2)
        replace hq0 : q0 = ad2 0 := hq0.trans (had2 0 (fun j hj _ => by unfold PB; omega)).symm
        replace hq1 : q1 = ad2 1 := hq1.trans (had2 1 (fun j hj _ => by unfold PB; omega)).symm
        replace hq2 : q2 = ad2 (PB (e 0 1)) := hq2.trans (had2 _ (fun j hj _ => by unfold PB; omega)).symm
        rw [hq0] at hl
        rw [hq1, hq2]
        obtain ⟨C0, hC0⟩ : ∃ z, z = C := ⟨_, rfl⟩
        have hp : e 0 1 < 8 := hn8
        have hC2 : CC (e 0 1 + 1) (e 0 3) (c9 (e 0 1) C) := hCC.addP
        replace hB := hC2.B
        have w9 := fun c : Nat => @anP_off e k h c
        have hposted : ∃ ad', (∀ c, c ∈ C → ad' c = ad c) ∧ (c9 (e 0 1) C, ad2, G cy ad2 (addC e k h)) = (c9 (e 0 1) C, ad', G cy ad' (addC e k h)) := ⟨ad2, had3, rfl⟩
        refine ex_astP M w (hB 1 (by decide)) (sh_1 cy ad2) (q := (e 0 1)) hp (c9_in.mpr (Or.inr ⟨Nat.le_refl _, by omega⟩)) (by omega) (by decide) dX3_addPerson_71 (fun H locs w => ?_)
        refine lv_aload_n hx hb dX3_addPerson_72 rfl (lv_at hl 1 rfl) ?_
        refine lv_iload_n hx hb dX3_addPerson_73 rfl (lv_at hl 0 rfl) ?_
        refine lv_iconst (v := nI 1) hx hb dX3_addPerson_74 (by decide) ?_
        refine mi_add hx hb dX3_addPerson_75 ?_
        refine ex_put M w (hB 0 (by decide)) (sh_0 cy ad2 ((es (anP e k h) 1 (e 0 1) ((e 0 1) + 1)) 0)) rfl inX3 tyX3 tyX3_ok nmX3 1 (by decide) f39 rfl (v := ((e 0 1) + 1)) rfl rfl (Nat.le_of_ble_eq_true rfl) (sh_0 cy ad2 _) dX3_addPerson_76 (fun H locs w => ?_)
        refine lv_iload_n hx hb dX3_addPerson_79 rfl (lv_at hl 0 rfl) ?_
        refine vx_ret ?_
        exact mx_iret M w hr (v := (nI (e 0 1))) ⟨⟨by omega, c23, hn8⟩, rfl, hposted⟩ (by decide) (by decide) dX3_addPerson_80
      · exact mx_throw M w Th hfl hxt (cls := eIS) (text := "there are 8 people") (is := 45) (by decide +kernel) (show Cond.classLink RX3 43 eIS ∈ wsX3_addPerson by decide +kernel) (show Cond.initialized eIS ∈ wsX3_addPerson by decide +kernel) (by decide +kernel) rfl (show ∀ w ∈ (vx_atS RX3 47 eIS eUP).filter goodWord, w ∈ wsX3_addPerson by decide +kernel) (by decide +kernel) (by decide +kernel) hl.1 dX3_addPerson_38 dX3_addPerson_41 dX3_addPerson_42 dX3_addPerson_44 dX3_addPerson_47 (by decide) (Nat.le_of_ble_eq_true rfl) (by decide) (by decide) (Or.inr ⟨⟨by omega, c23⟩, by omega, rfl⟩) (by decide) (by decide)
    · exact mx_throw M w Th hfl hxt (cls := eIA) (text := "right is out of range") (is := 30) (by decide +kernel) (show Cond.classLink RX3 28 eIA ∈ wsX3_addPerson by decide +kernel) (show Cond.initialized eIA ∈ wsX3_addPerson by decide +kernel) (by decide +kernel) rfl (show ∀ w ∈ (vx_atS RX3 32 eIA eUP).filter goodWord, w ∈ wsX3_addPerson by decide +kernel) (by decide +kernel) (by decide +kernel) hl.1 dX3_addPerson_12 dX3_addPerson_15 dX3_addPerson_16 dX3_addPerson_18 dX3_addPerson_21 (by decide) (Nat.le_of_ble_eq_true rfl) (by decide) (by decide) (Or.inl ⟨by omega, rfl⟩) (by decide) (by decide)
