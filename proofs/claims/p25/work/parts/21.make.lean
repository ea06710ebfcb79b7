section MXG
variable {p : Program} {l : Launch} {e : Env} {R : Room} {s : State} {m : MethodId} {args : Array Value} {below : List Frame} {meth : Method} {c : Code} {H : Heap} {locs : List Loc} {cells slots : Nat} {Q : State → Prop}
variable {cc : ByteArray} {pc : Nat} {ls : Array Slot} {rest : List Value} {D : va_G} {cy : Nat → ClassId} {A : Nat → Prop} {Ts : List Cond} {own : String} {nL : Nat} {C : List Nat} {ad : Nat → Nat} {g : Nat → va_E}
theorem mx_getq (M : MC p s m args meth c cc Ts own nL D cy A) (w : MO D A s.heap (C, ad, g) H locs) {x q : Nat} (hq : q = ad x) (hx : x ∈ C) {ci : Nat} {fs : List Value} (he : g x = .inr (ci, fs)) {CN : String} {T : u_T} {N : Nat} (hc : vwCl[ci]? = some (CN, T, N)) (hin : ∀ w ∈ u_ws CN T N, w ∈ Ts) {index : Nat} (k : Nat) (hk : k < N) (hl : Cond.fieldLink own index (T k).1 (T k).2.1 (T k).2.2.1 ∈ Ts) {v : Value} (hv : fs[k]? = some v) (hdg : decode cc pc = .ok (.getfield index, 3))
    (kk : W p l e R s m args below meth c H locs cells slots Q (F0 m (pc + 3) ls (v :: rest))) : W p l e R s m args below meth c H locs cells slots Q (F0 m pc ls (.ref q :: rest)) := by
  subst hq
  exact mx_get M w hx he hc hin k hk hl hv hdg kk
end MXG

set_option maxHeartbeats 4000000 in
set_option maxRecDepth 100000 in
/-- Leavebank.addPerson(right, hours) -/
theorem kX3_addPerson (l : Launch) (hfl : l.stackTraces = false) (D : va_G) (cy : Nat → ClassId) (C : List Nat) (ad : Nat → Nat) (e : Nat → Nat → Nat) (sz : Nat) (k h : Nat) (hCC : CC (e 0 1) (e 0 3) C) (hW : CW e) (hk : k < 4294967296) (hh : h < 4294967296) : vx_Met l yX3_addPerson wsX3_addPerson ({ frames := 7, cells := 11, slots := 3850, locals := 102 } : Room) (PreX D cy (C, ad, G cy ad e) sz [.ref (ad 0), .int (nI k), .int (nI h)]) (va_Qi (fun (r : Int32) (u : WT) => ((20 ≤ k ∧ k ≤ 80) ∧ (1 ≤ h ∧ h ≤ 10) ∧ e 0 1 < 8) ∧ r = nI (e 0 1) ∧ ∃ ad', (∀ c, c ∈ C → ad' c = ad c) ∧ u = (c9 (e 0 1) C, ad', G cy ad' (addC e k h))) (WB D cy (AW (C, ad, G cy ad e) sz)) (AW (C, ad, G cy ad e) sz)) (vx_X (fun (z : String × WT) => (¬ ((20 ≤ k ∧ k ≤ 80) ∧ (1 ≤ h ∧ h ≤ 10)) ∧ z = (eIA, (C, ad, G cy ad e))) ∨ (((20 ≤ k ∧ k ≤ 80) ∧ (1 ≤ h ∧ h ≤ 10)) ∧ ¬ e 0 1 < 8 ∧ z = (eIS, (C, ad, G cy ad e)))) (XB D cy (AW (C, ad, G cy ad e) sz)) (AW (C, ad, G cy ad e) sz)) 11 3850 (AW (C, ad, G cy ad e) sz) := by
  refine mxx_start (cc := cX3_addPerson) (maxL := 4) (ret := (some .int)) (by decide) rfl (Nat.le_of_ble_eq_true rfl) ?_
  intro p9 e9 s m args below meth c hsz hr hnm M w Th hxt ls hl
  have hx := M.1.1
  have hb := M.1.2.1
  have inX1 : ∀ w ∈ wsX10, w ∈ wsX3_addPerson := by decide +kernel
  have inX3 : ∀ w ∈ wsX30, w ∈ wsX3_addPerson := by decide +kernel
  have f11 : Cond.fieldLink RX3 11 RX3 "persons" "[LLeavebank$Person;" ∈ wsX3_addPerson := by decide +kernel
  have f39 : Cond.fieldLink RX3 39 RX3 "personCount" "I" ∈ wsX3_addPerson := by decide +kernel
  have f48 : Cond.fieldLink RX3 48 RX3 "currentDay" "I" ∈ wsX3_addPerson := by decide +kernel
  have hB := hCC.B
  have hl : lv_has ls 4 [(0, .ref (ad 0)), (1, .int (nI k)), (2, .int (nI h))] := hl
  refine lv_iload_n hx hb dX3_addPerson_0 rfl (lv_at hl 1 rfl) ?_
  refine lv_bipush (v := nI 20) hx hb dX3_addPerson_1 (by decide) ?_
  refine mw_lt hx hb hk (by decide) 12 dX3_addPerson_3 (by decide) (fun h3 => ?_) (fun h3 => ?_)
  · exact mx_throw M w Th hfl hxt (cls := eIA) (text := "right is out of range") (is := 30) (by decide +kernel) (show Cond.classLink RX3 28 eIA ∈ wsX3_addPerson by decide +kernel) (show Cond.initialized eIA ∈ wsX3_addPerson by decide +kernel) (by decide +kernel) rfl (show ∀ w ∈ (vx_atS RX3 32 eIA eUP).filter goodWord, w ∈ wsX3_addPerson by decide +kernel) (by decide +kernel) (by decide +kernel) hl.1 dX3_addPerson_12 dX3_addPerson_15 dX3_addPerson_16 dX3_addPerson_18 dX3_addPerson_21 (by decide) (Nat.le_of_ble_eq_true rfl) (by decide) (by decide) (Or.inl ⟨by omega, rfl⟩) (by decide) (by decide)
  · refine lv_iload_n hx hb dX3_addPerson_6 rfl (lv_at hl 1 rfl) ?_
    refine lv_bipush (v := nI 80) hx hb dX3_addPerson_7 (by decide) ?_
    refine mw_le hx hb hk (by decide) 22 dX3_addPerson_9 (by decide) (fun h9 => ?_) (fun h9 => ?_)
    · refine lv_iload_n hx hb dX3_addPerson_22 rfl (lv_at hl 2 rfl) ?_
      refine mxx_Sv M w Th hxt (kX3_checkHours l hfl D cy C ad e s.heap.size h hh) (va_cwS 1 M.1.2.2.2.2 gX3_addPerson_X3_checkHours rfl rfl rfl (by decide +kernel) ⟨Nat.le_of_ble_eq_true rfl, Nat.le_of_ble_eq_true rfl⟩) rfl hl.1 rfl (Nat.le_of_ble_eq_true rfl) dX3_addPerson_23 ⟨by decide, by decide⟩ ⟨by decide, by decide⟩ (fun E u1 h9 => Or.inl ⟨fun z => h9.1 z.2, h9.2⟩) (fun u1 H locs hp1 w => ?_)
      obtain ⟨c23, rfl⟩ := hp1
      have q6 := hW.np
      refine lv_aload_n hx hb dX3_addPerson_26 rfl (lv_at hl 0 rfl) ?_
      refine ex_get M w (hB 0 (by decide)) (sh_0 cy ad (e 0)) rfl inX3 1 (by decide) f39 rfl dX3_addPerson_27 ?_
      refine lv_aload_n hx hb dX3_addPerson_30 rfl (lv_at hl 0 rfl) ?_
      refine ex_get M w (hB 0 (by decide)) (sh_0 cy ad (e 0)) rfl inX3 0 (by decide) f11 rfl dX3_addPerson_31 ?_
      refine mx_alen M w (hB 1 (by decide)) 2 (g := G cy ad e) (sh_1 cy ad _) rfl (n := 8) rfl dX3_addPerson_34 ?_
      refine mi_lt hx hb (by have z := hW.np; omega) (by decide) 48 dX3_addPerson_35 (by decide) (fun h35 => ?_) (fun h35 => ?_)
      · refine lv_aload_n hx hb dX3_addPerson_48 rfl (lv_at hl 0 rfl) ?_
        refine ex_get M w (hB 0 (by decide)) (sh_0 cy ad (e 0)) rfl inX3 1 (by decide) f39 rfl dX3_addPerson_49 ?_
        refine lv_istore_n (lv' := [(3, .int (nI (e 0 1))), (0, .ref (ad 0)), (1, .int (nI k)), (2, .int (nI h))]) hx hb dX3_addPerson_52 rfl hl (by decide) rfl (fun ls hl => ?_)
        refine lv_aload_n hx hb dX3_addPerson_53 rfl (lv_at hl 1 rfl) ?_
        refine ex_get M w (hB 0 (by decide)) (sh_0 cy ad (e 0)) rfl inX3 0 (by decide) f11 rfl dX3_addPerson_54 ?_
        refine lv_iload_n hx hb dX3_addPerson_57 rfl (lv_at hl 0 rfl) ?_
        have hn8 : e 0 1 < 8 := by omega
        have hfr := hCC.newP hn8
        obtain ⟨q0, hq0⟩ : ∃ z, z = ad 0 := ⟨_, rfl⟩
        obtain ⟨q1, hq1⟩ : ∃ z, z = ad 1 := ⟨_, rfl⟩
        rw [← hq0] at hl
        rw [← hq1]
        refine mx_new M w (PB (e 0 1)) (hfr 0 (by decide)) (ci := 1) rfl inX1 tyX1 tyX1_ok (show Cond.classLink RX3 9 RX1 ∈ wsX3_addPerson by decide +kernel) (by decide +kernel) (by decide +kernel) (fs := [.int (nI 0), .int (nI 0), .int (nI 0), .null, .null, .int (nI 0), .null, .int (nI 0), .null, .null, .int (nI 0), .null, .null, .int (nI 0), .null]) hfsX1 (Nat.le_of_ble_eq_true rfl) (Nat.le_of_ble_eq_true rfl) dX3_addPerson_58 (fun ad1 H had1 w => ?_)
        replace hq0 := hq0.trans (had1 0 (by first | omega | (unfold PB; omega) | (unfold RB; omega) | (unfold PB RB; omega))).symm
        replace hq1 := hq1.trans (had1 1 (by first | omega | (unfold PB; omega) | (unfold RB; omega) | (unfold PB RB; omega))).symm
        obtain ⟨q2, hq2⟩ : ∃ z, z = ad1 (PB (e 0 1)) := ⟨_, rfl⟩
        rw [← hq2]
        refine lv_dup hx hb dX3_addPerson_61 rfl ?_
        refine lv_aload_n hx hb dX3_addPerson_62 rfl (lv_at hl 1 rfl) ?_
        refine mx_getq M w hq0 (in_app (hB 0 (by decide))) ((mu_ne _ _ (by first | omega | (unfold PB; omega) | (unfold RB; omega) | (unfold PB RB; omega))).trans (sh_0 cy ad (e 0))) rfl inX3 6 (by decide) f48 rfl dX3_addPerson_63 ?_
        refine lv_iload_n hx hb dX3_addPerson_66 rfl (lv_at hl 2 rfl) ?_
        refine lv_iload_n hx hb dX3_addPerson_67 rfl (lv_at hl 3 rfl) ?_
        refine mx_Iv M w (b := q2) (by rw [hq2]; exact kX1_init l D cy _ ad1 (mu (G cy ad e) (PB (e 0 1)) (.inr (1, [.int (nI 0), .int (nI 0), .int (nI 0), .null, .null, .int (nI 0), .null, .int (nI 0), .null, .null, .int (nI 0), .null, .null, .int (nI 0), .null]))) H.size (e 0 1) (e 0 6) k h hn8 in_self (fun j hj hj0 => nin_app (hfr j hj) (by unfold PB; omega)) (mu_same _ _ _)) (cwI 3 M.1.2.2.2.2 gX3_addPerson_X1_init rfl rfl rfl (M.1.2.2.2.2 _ (by decide +kernel)) (M.1.2.2.2.2 _ (by decide +kernel)) (M.1.2.2.2.2 _ (by decide +kernel)) rfl (by decide +kernel) ⟨Nat.le_of_ble_eq_true rfl, Nat.le_of_ble_eq_true rfl⟩) rfl hl.1 rfl (Nat.le_of_ble_eq_true rfl) dX3_addPerson_68 ⟨by decide, by decide⟩ (fun u1 H locs hp1 w => ?_)
        obtain ⟨ad2, g2, had2, hg2, hk2, rfl⟩ := hp1
        have had3 : ∀ c, c ∈ C → ad2 c = ad c := fun c hc => (had2 c (fun j hj _ z => hfr j hj (z ▸ hc))).trans (had1 c (fun z => hfr 0 (by decide) (z ▸ hc)))
        replace w := MO_same w (G_addP (a := k) (h := h) hCC hW hn8 had3 (fun c hc => (hg2 c (fun j hj z => hfr j hj (z ▸ hc))).trans (mu_ne _ _ (fun z => hfr 0 (by decide) (z ▸ hc)))) hk2)
        replace hq0 : q0 = ad2 0 := hq0.trans (had2 0 (fun j hj _ => by unfold PB; omega)).symm
        replace hq1 : q1 = ad2 1 := hq1.trans (had2 1 (fun j hj _ => by unfold PB; omega)).symm
        replace hq2 : q2 = ad2 (PB (e 0 1)) := hq2.trans (had2 _ (fun j hj _ => by unfold PB; omega)).symm
        rw [hq0] at hl
        rw [hq1, hq2]
        obtain ⟨C0, hC0⟩ : ∃ z, z = C := ⟨_, rfl⟩
        have hp : e 0 1 < 8 := hn8
        have hC2 : CC (e 0 1 + 1) (e 0 3) (c9 (e 0 1) C) := hCC.addP
        replace hB := hC2.B
        have w9 := fun c : Nat => @anP_off e k h c
        have hposted : ∃ ad', (∀ c, c ∈ C → ad' c = ad c) ∧ (c9 (e 0 1) C, ad2, G cy ad2 (addC e k h)) = (c9 (e 0 1) C, ad', G cy ad' (addC e k h)) := ⟨ad2, had3, rfl⟩
        refine ex_astP M w (hB 1 (by decide)) (sh_1 cy ad2) (q := (e 0 1)) hp (c9_in.mpr (Or.inr ⟨Nat.le_refl _, by omega⟩)) (by omega) (by decide) dX3_addPerson_71 (fun H locs w => ?_)
        refine lv_aload_n hx hb dX3_addPerson_72 rfl (lv_at hl 1 rfl) ?_
        refine lv_iload_n hx hb dX3_addPerson_73 rfl (lv_at hl 0 rfl) ?_
        refine lv_iconst (v := nI 1) hx hb dX3_addPerson_74 (by decide) ?_
        refine mi_add hx hb dX3_addPerson_75 ?_
        refine ex_put M w (hB 0 (by decide)) (sh_0 cy ad2 ((es (anP e k h) 1 (e 0 1) ((e 0 1) + 1)) 0)) rfl inX3 tyX3 tyX3_ok nmX3 1 (by decide) f39 rfl (v := ((e 0 1) + 1)) rfl rfl (Nat.le_of_ble_eq_true rfl) (sh_0 cy ad2 _) dX3_addPerson_76 (fun H locs w => ?_)
        refine lv_iload_n hx hb dX3_addPerson_79 rfl (lv_at hl 0 rfl) ?_
        refine vx_ret ?_
        exact mx_iret M w hr (v := (nI (e 0 1))) ⟨⟨by omega, c23, hn8⟩, rfl, hposted⟩ (by decide) (by decide) dX3_addPerson_80
      · exact mx_throw M w Th hfl hxt (cls := eIS) (text := "there are 8 people") (is := 45) (by decide +kernel) (show Cond.classLink RX3 43 eIS ∈ wsX3_addPerson by decide +kernel) (show Cond.initialized eIS ∈ wsX3_addPerson by decide +kernel) (by decide +kernel) rfl (show ∀ w ∈ (vx_atS RX3 47 eIS eUP).filter goodWord, w ∈ wsX3_addPerson by decide +kernel) (by decide +kernel) (by decide +kernel) hl.1 dX3_addPerson_38 dX3_addPerson_41 dX3_addPerson_42 dX3_addPerson_44 dX3_addPerson_47 (by decide) (Nat.le_of_ble_eq_true rfl) (by decide) (by decide) (Or.inr ⟨⟨by omega, c23⟩, by omega, rfl⟩) (by decide) (by decide)
    · exact mx_throw M w Th hfl hxt (cls := eIA) (text := "right is out of range") (is := 30) (by decide +kernel) (show Cond.classLink RX3 28 eIA ∈ wsX3_addPerson by decide +kernel) (show Cond.initialized eIA ∈ wsX3_addPerson by decide +kernel) (by decide +kernel) rfl (show ∀ w ∈ (vx_atS RX3 32 eIA eUP).filter goodWord, w ∈ wsX3_addPerson by decide +kernel) (by decide +kernel) (by decide +kernel) hl.1 dX3_addPerson_12 dX3_addPerson_15 dX3_addPerson_16 dX3_addPerson_18 dX3_addPerson_21 (by decide) (Nat.le_of_ble_eq_true rfl) (by decide) (by decide) (Or.inl ⟨by omega, rfl⟩) (by decide) (by decide)

theorem anR_at (e : Nat → Nat → Nat) (p f t h i : Nat) : anR e p f t h (RB (e 0 3)) i = (if i = 0 then p else if i = 1 then (if h = 0 then 2 else 1) else if i = 2 then f else if i = 3 then t else 0) := if_pos rfl
theorem anR_P {e : Nat → Nat → Nat} {p : Nat} (hp : p < 8) (k f t h : Nat) : EqP e (anR e k f t h) p := fun j hj => anR_off e k f t h (by unfold RB PB; omega)
theorem PRq_s {e : Nat → Nat → Nat} {p nr : Nat} (h : PRq e p nr) : PRq e p (nr + 1) := ⟨h.1, fun i hi => ⟨(h.2 i hi).1, Nat.le_succ_of_le (h.2 i hi).2⟩⟩
theorem RW_an {e : Nat → Nat → Nat} {k f t h : Nat} (hw : RW e (e 0 3)) (hf : f ≤ 3600) (ht : t ≤ 3600) : RW (anR e k f t h) (e 0 3 + 1) := fun q hq => by
  by_cases z : q = e 0 3
  · subst z
    rw [anR_at, anR_at, anR_at, anR_at]
    refine ⟨?_, hf, ht, Nat.zero_le 1⟩
    show (if h = 0 then 2 else 1) ≤ 2
    split <;> decide
  · rw [anR_off e k f t h (fun y => z (RB_inj.mp y))]
    exact hw q (by omega)

set_option maxHeartbeats 4000000 in
set_option maxRecDepth 100000 in
/-- Leavebank.request(person, first, last, isHalf) -/
theorem kX3_request (l : Launch) (hfl : l.stackTraces = false) (D : va_G) (cy : Nat → ClassId) (C : List Nat) (ad : Nat → Nat) (e : Nat → Nat → Nat) (sz : Nat) (k f t h : Nat) (hCC : CC (e 0 1) (e 0 3) C) (hW : CW e) (hk : k < 4294967296) (hf : f < 4294967296) (ht : t < 4294967296) (hh : h ≤ 1) : vx_Met l yX3_request wsX3_request ({ frames := 7, cells := 4, slots := 23, locals := 104 } : Room) (PreX D cy (C, ad, G cy ad e) sz [.ref (ad 0), .int (nI k), .int (nI f), .int (nI t), .int (nI h)]) (va_Qi (fun (r : Int32) (u : WT) => ((k < e 0 1 ∧ e (PB k) 0 ≤ f ∧ f ≤ t ∧ t ≤ 3600) ∧ e 0 3 < 40) ∧ r = nI (e 0 3) ∧ ∃ ad', (∀ c, c ∈ C → ad' c = ad c) ∧ u = (C ++ [RB (e 0 3)], ad', G cy ad' (reqC e k f t h))) (WB D cy (AW (C, ad, G cy ad e) sz)) (AW (C, ad, G cy ad e) sz)) (vx_X (fun (z : String × WT) => (¬ k < e 0 1 ∧ z = (eIO, (C, ad, G cy ad e))) ∨ (k < e 0 1 ∧ ¬ (e (PB k) 0 ≤ f ∧ f ≤ t ∧ t ≤ 3600) ∧ z = (eIA, (C, ad, G cy ad e))) ∨ ((k < e 0 1 ∧ e (PB k) 0 ≤ f ∧ f ≤ t ∧ t ≤ 3600) ∧ ¬ e 0 3 < 40 ∧ z = (eIS, (C, ad, G cy ad e)))) (XB D cy (AW (C, ad, G cy ad e) sz)) (AW (C, ad, G cy ad e) sz)) 4 23 (AW (C, ad, G cy ad e) sz) := by
  refine mxx_start (cc := cX3_request) (maxL := 8) (ret := (some .int)) (by decide) rfl (Nat.le_of_ble_eq_true rfl) ?_
  intro p9 e9 s m args below meth c hsz hr hnm M w Th hxt ls hl
  have hx := M.1.1
  have hb := M.1.2.1
  have inX1 : ∀ w ∈ wsX10, w ∈ wsX3_request := by decide +kernel
  have inX2 : ∀ w ∈ wsX20, w ∈ wsX3_request := by decide +kernel
  have inX3 : ∀ w ∈ wsX30, w ∈ wsX3_request := by decide +kernel
  have f17 : Cond.fieldLink RX3 17 RX3 "requests" "[LLeavebank$Request;" ∈ wsX3_request := by decide +kernel
  have f58 : Cond.fieldLink RX3 58 RX1 "firstDay" "I" ∈ wsX3_request := by decide +kernel
  have f78 : Cond.fieldLink RX3 78 RX3 "requestCount" "I" ∈ wsX3_request := by decide +kernel
  have hB := hCC.B
  have hl : lv_has ls 8 [(0, .ref (ad 0)), (1, .int (nI k)), (2, .int (nI f)), (3, .int (nI t)), (4, .int (nI h))] := hl
  refine lv_aload_n hx hb dX3_request_0 rfl (lv_at hl 0 rfl) ?_
  refine lv_iload_n hx hb dX3_request_1 rfl (lv_at hl 1 rfl) ?_
  refine mxx_Vr M w Th hxt (kX3_personAt l hfl D cy C ad e s.heap.size k hB hW hk) (cwV 1 M.1.2.2.2.2 gX3_request_X3_personAt rfl rfl rfl (by decide +kernel) ⟨Nat.le_of_ble_eq_true rfl, Nat.le_of_ble_eq_true rfl⟩) (mo_rec M w (hB 0 (by decide)) (g := G cy ad e) (sh_0 cy ad (e 0)) rfl) rfl hl.1 rfl (Nat.le_of_ble_eq_true rfl) dX3_request_2 ⟨by decide, by decide⟩ ⟨by decide, by decide⟩ (fun E u1 h9 => Or.inl h9) (fun r2 u1 H locs hp1 ha1 w => ?_)
  obtain ⟨q2, rfl⟩ := hp1
  subst ha1
  have hp : k < 8 := by have z := hW.np; omega
  have hC := hCC.P q2
  have hpp := hW.p q2
  have q2_ := q2
  refine lv_astore (lv' := [(5, .ref (ad (PB k))), (0, .ref (ad 0)), (1, .int (nI k)), (2, .int (nI f)), (3, .int (nI t)), (4, .int (nI h))]) hx hb dX3_request_5 hl (by decide) rfl (fun ls hl => ?_)
  refine lv_aload hx hb dX3_request_7 (lv_at hl 0 rfl) ?_
  refine ex_get M w (show (PB k) ∈ C from hC 0 (by decide)) (sh_P0 cy ad (e (PB k)) hp) rfl inX1 0 (by decide) f58 rfl dX3_request_9 ?_
  refine lv_iload_n hx hb dX3_request_12 rfl (lv_at hl 3 rfl) ?_
  refine lv_iload_n hx hb dX3_request_13 rfl (lv_at hl 4 rfl) ?_
  refine mxx_Sv M w Th hxt (kX3_checkDays l hfl D cy C ad e H.size (e (PB k) 0) f t hpp.a0.1 hf ht) (va_cwS 3 M.1.2.2.2.2 gX3_request_X3_checkDays rfl rfl rfl (by decide +kernel) ⟨Nat.le_of_ble_eq_true rfl, Nat.le_of_ble_eq_true rfl⟩) rfl hl.1 rfl (Nat.le_of_ble_eq_true rfl) dX3_request_14 ⟨by decide, by decide⟩ ⟨by decide, by decide⟩ (fun E u1 h9 => Or.inr (Or.inl ⟨q2, h9⟩)) (fun u1 H locs hp1 w => ?_)
  obtain ⟨c14, rfl⟩ := hp1
  have q6 := hW.nr
  refine lv_aload_n hx hb dX3_request_17 rfl (lv_at hl 1 rfl) ?_
  refine ex_get M w (hB 0 (by decide)) (sh_0 cy ad (e 0)) rfl inX3 3 (by decide) f78 rfl dX3_request_18 ?_
  refine lv_aload_n hx hb dX3_request_21 rfl (lv_at hl 1 rfl) ?_
  refine ex_get M w (hB 0 (by decide)) (sh_0 cy ad (e 0)) rfl inX3 2 (by decide) f17 rfl dX3_request_22 ?_
  refine mx_alen M w (hB 2 (by decide)) 3 (g := G cy ad e) (sh_2 cy ad _) rfl (n := 40) rfl dX3_request_25 ?_
  refine mi_lt hx hb (by omega) (by decide) 39 dX3_request_26 (by decide) (fun h26 => ?_) (fun h26 => ?_)
  · have hnr := hCC.newR hW.np
    have hPk : PB k ∈ C := hC 0 (by decide)
    obtain ⟨q0, hq0⟩ : ∃ z, z = ad 0 := ⟨_, rfl⟩
    obtain ⟨q5, hq5⟩ : ∃ z, z = ad (PB k) := ⟨_, rfl⟩
    rw [← hq0, ← hq5] at hl
    refine mx_new M w (RB (e 0 3)) hnr (ci := 2) rfl inX2 tyX2 tyX2_ok (show Cond.classLink RX3 15 RX2 ∈ wsX3_request by decide +kernel) (by decide +kernel) (by decide +kernel) (fs := [.null, .int (nI 0), .int (nI 0), .int (nI 0), .int (nI 0)]) hfsX2 (Nat.le_of_ble_eq_true rfl) (Nat.le_of_ble_eq_true rfl) dX3_request_39 (fun ad1 H had1 w => ?_)
    have had3 : ∀ c, c ∈ C → ad1 c = ad c := fun c hc => had1 c (fun z => hnr (z ▸ hc))
    replace hq0 := hq0.trans (had3 0 (hB 0 (by decide))).symm
    replace hq5 := hq5.trans (had3 _ hPk).symm
    obtain ⟨q2, hq2⟩ : ∃ z, z = ad1 (RB (e 0 3)) := ⟨_, rfl⟩
    rw [← hq2]
    refine lv_dup hx hb dX3_request_42 rfl ?_
    refine lv_aload hx hb dX3_request_43 (lv_at hl 0 rfl) ?_
    refine lv_iload_n hx hb dX3_request_45 rfl (lv_at hl 3 rfl) ?_
    refine lv_iload_n hx hb dX3_request_46 rfl (lv_at hl 4 rfl) ?_
    refine lv_iload hx hb dX3_request_47 (lv_at hl 5 rfl) ?_
    refine mx_Iv M w (b := q2) (As := [.ref q5, .int (nI f), .int (nI t), .int (nI h)]) (by rw [hq2, hq5]; exact kX2_init l D cy _ ad1 (mu (G cy ad e) (RB (e 0 3)) (.inr (2, [.null, .int (nI 0), .int (nI 0), .int (nI 0), .int (nI 0)]))) H.size (e 0 3) (PB k) f t h in_self hh (mu_same _ _ _)) (cwI 4 M.1.2.2.2.2 gX3_request_X2_init rfl rfl rfl (M.1.2.2.2.2 _ (by decide +kernel)) (M.1.2.2.2.2 _ (by decide +kernel)) (M.1.2.2.2.2 _ (by decide +kernel)) rfl (by decide +kernel) ⟨Nat.le_of_ble_eq_true rfl, Nat.le_of_ble_eq_true rfl⟩) rfl hl.1 rfl (Nat.le_of_ble_eq_true rfl) dX3_request_49 ⟨by decide, by decide⟩ (fun u1 H locs hp1 w => ?_)
    obtain ⟨g2, hg2, hk2, rfl⟩ := hp1
    replace w := MO_same w (G_addR (p := k) (f := f) (t := t) (h := h) hCC hW had3 (fun c hc => (hg2 c (fun z => hnr (z ▸ hc))).trans (mu_ne _ _ (fun z => hnr (z ▸ hc)))) hk2)
    rw [hq0, hq5] at hl
    rw [hq2]
    have hC2 : CC (e 0 1) (e 0 3 + 1) (C ++ [RB (e 0 3)]) := hCC.addR
    have hposted : ∃ ad', (∀ c, c ∈ C → ad' c = ad c) ∧ (C ++ [RB (e 0 3)], ad1, G cy ad1 (reqC e k f t h)) = (C ++ [RB (e 0 3)], ad', G cy ad' (reqC e k f t h)) := ⟨ad1, had3, rfl⟩
    replace hB := hC2.B
    replace hC := hC2.P q2_
    have hRC := hC2.R
    refine lv_astore (lv' := [(6, .ref (ad1 (RB (e 0 3)))), (5, .ref (ad1 (PB k))), (0, .ref (ad1 0)), (1, .int (nI k)), (2, .int (nI f)), (3, .int (nI t)), (4, .int (nI h))]) hx hb dX3_request_52 hl (by decide) rfl (fun ls hl => ?_)
    refine lv_aload hx hb dX3_request_54 (lv_at hl 1 rfl) ?_
    refine lv_aload hx hb dX3_request_56 (lv_at hl 0 rfl) ?_
    refine mx_Vv M w (kX1_enterRequest l D cy (C ++ [RB (e 0 3)]) ad1 (anR e k f t h) H.size k (e 0 3) (e 0 3 + 1) hp hC (hpp.sp.eq (anR_P hp k f t h)) (PRq_s (hpp.rq.eq (anR_P hp k f t h))) hRC (RW_an hW.rw' (by omega) c14.2.2) (Nat.lt_succ_self _) (by rw [(anR_P hp k f t h).at0]; have z := hpp.2.2.2.2.2.2.1; omega) (by rw [anR_at, anR_at]; exact c14.2.1)) (cwV 1 M.1.2.2.2.2 gX3_request_X1_enterRequest rfl rfl rfl (by decide +kernel) ⟨Nat.le_of_ble_eq_true rfl, Nat.le_of_ble_eq_true rfl⟩) (mo_rec M w (show (PB k) ∈ C ++ [RB (e 0 3)] from hC 0 (by decide)) (g := G cy ad1 (anR e k f t h)) (sh_P0 cy ad1 ((anR e k f t h) (PB k)) hp) rfl) rfl hl.1 rfl (Nat.le_of_ble_eq_true rfl) dX3_request_58 ⟨by decide, by decide⟩ (fun u1 H locs hp1 w => ?_)
    obtain rfl := hp1
    refine lv_aload_n hx hb dX3_request_61 rfl (lv_at hl 2 rfl) ?_
    refine ex_get M w (hB 0 (by decide)) (sh_0 cy ad1 ((erC (anR e k f t h) k (e 0 3)) 0)) rfl inX3 3 (by decide) f78 (congrArg (fun z => some (Value.int (nI z))) (congrFun ((erC_lo _ k _ (by decide)).trans (anR_off e k f t h (by first | omega | (unfold PB; omega) | (unfold RB; omega) | (unfold PB RB; omega)))) 3)) dX3_request_62 ?_
    refine lv_istore (lv' := [(7, .int (nI (e 0 3))), (6, .ref (ad1 (RB (e 0 3)))), (5, .ref (ad1 (PB k))), (0, .ref (ad1 0)), (1, .int (nI k)), (2, .int (nI f)), (3, .int (nI t)), (4, .int (nI h))]) hx hb dX3_request_65 hl (by decide) rfl (fun ls hl => ?_)
    refine lv_aload_n hx hb dX3_request_67 rfl (lv_at hl 3 rfl) ?_
    refine ex_get M w (hB 0 (by decide)) (sh_0 cy ad1 ((erC (anR e k f t h) k (e 0 3)) 0)) rfl inX3 2 (by decide) f17 rfl dX3_request_68 ?_
    refine lv_iload hx hb dX3_request_71 (lv_at hl 0 rfl) ?_
    refine lv_aload hx hb dX3_request_73 (lv_at hl 1 rfl) ?_
    refine ex_astR M w (hB 2 (by decide)) (sh_2 cy ad1) (q := (e 0 3)) in_self (by omega) (by decide) dX3_request_75 (fun H locs w => ?_)
    refine lv_aload_n hx hb dX3_request_76 rfl (lv_at hl 3 rfl) ?_
    refine lv_iload hx hb dX3_request_77 (lv_at hl 0 rfl) ?_
    refine lv_iconst (v := nI 1) hx hb dX3_request_79 (by decide) ?_
    refine mi_add hx hb dX3_request_80 ?_
    refine ex_put M w (hB 0 (by decide)) (sh_0 cy ad1 ((es (erC (anR e k f t h) k (e 0 3)) 2 (e 0 3) ((e 0 3) + 1)) 0)) rfl inX3 tyX3 tyX3_ok nmX3 3 (by decide) f78 rfl (v := ((e 0 3) + 1)) rfl rfl (Nat.le_of_ble_eq_true rfl) (sh_0 cy ad1 _) dX3_request_81 (fun H locs w => ?_)
    refine lv_iload hx hb dX3_request_84 (lv_at hl 0 rfl) ?_
    refine vx_ret ?_
    exact mx_iret M w hr (v := (nI (e 0 3))) ⟨⟨⟨q2_, c14⟩, by omega⟩, rfl, hposted⟩ (by decide) (by decide) dX3_request_86
  · exact mx_throw M w Th hfl hxt (cls := eIS) (text := "there are 40 requests") (is := 81) (by decide +kernel) (show Cond.classLink RX3 43 eIS ∈ wsX3_request by decide +kernel) (show Cond.initialized eIS ∈ wsX3_request by decide +kernel) (by decide +kernel) rfl (show ∀ w ∈ (vx_atS RX3 47 eIS eUP).filter goodWord, w ∈ wsX3_request by decide +kernel) (by decide +kernel) (by decide +kernel) hl.1 dX3_request_29 dX3_request_32 dX3_request_33 dX3_request_35 dX3_request_38 (by decide) (Nat.le_of_ble_eq_true rfl) (by decide) (by decide) (Or.inr (Or.inr ⟨⟨q2, c14⟩, by omega, rfl⟩)) (by decide) (by decide)
