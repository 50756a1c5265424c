def slW (q : Nat → Nat) (k : Nat → ClassId) (gd : Nat → Option Nat) (wd : Nat → Nat) (se : Nat → Nat) (pr : Nat) : va_W := [(q 1, .inr (1, [.ref (q 2), .ref (q 3), .ref (q 4), .int (nI pr)])), (q 2, .inl (k 2, 16, .inr (.inr (.inr (.inr gd))))), (q 3, .inl (k 1, 4, .inl (fun j => nI (wd j)))), (q 4, .inl (k 0, 4, .inl (fun j => nI (se j))))]
set_option maxHeartbeats 4000000 in
set_option maxRecDepth 100000 in
theorem c_RO_fixi (l : Launch) (D : va_G) (k : Nat → ClassId) (ao bo : Nat) (F : Nat → Nat) (x v : Nat) (hx9 : x < 256) : xw_i l y_RO_fix b_RO_fix 3 (some .boolean) { frames := 1, cells := 0, slots := 0, locals := 20 } D (kT k) (roW ao bo k F) [.ref ao, .int (nI x), .int (nI v)] (fun (r : Int32) (_ : Unit) => r = nI 1) (fun (_ : Unit) => (roW ao bo k (ss_up F x v))) := by
  refine xw_headi (by decide) (Nat.le_of_ble_eq_true rfl) ?_
  intro p e s m below meth c ls A hx hb hr hlocks hml hown hts hX hK hA hP hD hS hl
  have hown : s.vm.findClass "SlotScreen$Rom" = some m.cls := hown
  have hl : lv_has ls 3 [(0, .ref ao), (1, .int (nI x)), (2, .int (nI v))] := hl
  refine lv_iload_n hx hb d_RO_fix_0 rfl (lv_at hl 1 rfl) ?_
  refine kr_iN (As := [.int (nI x)]) (rest := []) ⟨hx, hb, hml, hown, hts⟩ (c_SS_isAddressN l D k x (by omega)) ⟨va_cnB 1 hts (gG w_132) rfl rfl rfl (hX.1 (.methodLinkNest "SlotScreen$Rom" 15 y_SS_isAddress "SlotScreen") (by unfold NWL; simp)) (hts _ w_1) (by decide +kernel) ⟨Nat.le_of_ble_eq_true rfl, Nat.le_of_ble_eq_true rfl⟩, hts _ w_131, trivial⟩ hK va_nil rfl hl.1 rfl (Nat.le_of_ble_eq_true rfl) d_RO_fix_1 ⟨Nat.zero_le _, Nat.zero_le _⟩ ?_
  refine lv_if_ne (tgt := 9) hx hb d_RO_fix_4 (by decide) (fun c1 => ?_) (fun c1 => ?_)
  · have c1 := mt (bI_0).mpr c1
    have c1 := Classical.not_not.mp c1
    refine lv_aload_n hx hb d_RO_fix_9 rfl (lv_at hl 0 rfl) ?_
    refine va_get (D := D) (ci := 6) (v := .ref bo) (C := R_RO) (T := T_RO) (N := 1) hx hb hts in_RO hown hK hP 0 rfl rfl 0 (by decide) (hts _ w_423) (fun _ h9 => h9) rfl d_RO_fix_10 ?_
    refine lv_iload_n hx hb d_RO_fix_13 rfl (lv_at hl 1 rfl) ?_
    refine lv_iload_n hx hb d_RO_fix_14 rfl (lv_at hl 2 rfl) ?_
    refine va_iast hx hb hK hP hD hS 1 0 rfl rfl (vp_in_nI (by omega) (by omega)) d_RO_fix_15 (fun H locs hP hD hS => ?_)
    rw [ss_upI F (k := x) (v := v) (by omega)] at hP hD
    have hP : va_P D vwCl (roW ao bo k (ss_up F x v)) _ := hP
    have hD : va_D A (roW ao bo k (ss_up F x v)) := hD
    refine lv_iconst (v := nI 1) hx hb d_RO_fix_16 (by decide +kernel) ?_
    exact rw_retz hx hb hr hlocks d_RO_fix_17 (by decide +kernel) hS () (rfl) hP
  · have c1 := (bI_0).mp c1
    exfalso; omega
set_option maxHeartbeats 4000000 in
set_option maxRecDepth 100000 in
theorem c_RO_fixo (l : Launch) (D : va_G) (k : Nat → ClassId) (ao bo : Nat) (F : Nat → Nat) (x : Int32) (v : Nat) (hx9 : ¬ (0 ≤ x.toInt ∧ x.toInt ≤ 255)) : xw_i l y_RO_fix b_RO_fix 3 (some .boolean) { frames := 1, cells := 0, slots := 0, locals := 20 } D (kT k) (roW ao bo k F) [.ref ao, .int x, .int (nI v)] (fun (r : Int32) (_ : Unit) => r = nI 0) (fun (_ : Unit) => (roW ao bo k F)) := by
  refine xw_headi (by decide) (Nat.le_of_ble_eq_true rfl) ?_
  intro p e s m below meth c ls A hx hb hr hlocks hml hown hts hX hK hA hP hD hS hl
  have hown : s.vm.findClass "SlotScreen$Rom" = some m.cls := hown
  have hl : lv_has ls 3 [(0, .ref ao), (1, .int x), (2, .int (nI v))] := hl
  refine lv_iload_n hx hb d_RO_fix_0 rfl (lv_at hl 1 rfl) ?_
  refine kr_iN (As := [.int x]) (rest := []) ⟨hx, hb, hml, hown, hts⟩ (c_SS_isAddress l D k x) ⟨va_cnB 1 hts (gG w_132) rfl rfl rfl (hX.1 (.methodLinkNest "SlotScreen$Rom" 15 y_SS_isAddress "SlotScreen") (by unfold NWL; simp)) (hts _ w_1) (by decide +kernel) ⟨Nat.le_of_ble_eq_true rfl, Nat.le_of_ble_eq_true rfl⟩, hts _ w_131, trivial⟩ hK va_nil rfl hl.1 rfl (Nat.le_of_ble_eq_true rfl) d_RO_fix_1 ⟨Nat.zero_le _, Nat.zero_le _⟩ ?_
  refine lv_if_ne (tgt := 9) hx hb d_RO_fix_4 (by decide) (fun c1 => ?_) (fun c1 => ?_)
  · have c1 := mt (bI_0).mpr c1
    have c1 := Classical.not_not.mp c1
    exfalso; omega
  · have c1 := (bI_0).mp c1
    refine lv_iconst (v := nI 0) hx hb d_RO_fix_7 (by decide +kernel) ?_
    exact rw_retz hx hb hr hlocks d_RO_fix_8 (by decide +kernel) hS () (rfl) hP
set_option maxHeartbeats 4000000 in
set_option maxRecDepth 100000 in
theorem c_SL_isWide (l : Launch) (D : va_G) (k : Nat → ClassId) (q : Nat → Nat) (gd : Nat → Option Nat) (wd : Nat → Nat) (se : Nat → Nat) (pr : Nat) (hwd : ∀ j, wd j < 2) (hse : ∀ j, se j < 256) (hpr : pr < 256) (j : Nat) (hj : j < 4) : ro_i l y_SL_isWide b_SL_isWide 2 (some .boolean) { frames := 0, cells := 0, slots := 0, locals := 0 } D (kT k) (slW q k gd wd se pr) [.ref (q 1), .int (nI j)] (nI (wd j)) := by
  refine ro_headi (by decide) (Nat.le_of_ble_eq_true rfl) ?_
  intro p e s m below meth c ls hx hb hr hlocks hml hown hts hP hK hl
  have hown : s.vm.findClass "SlotScreen$Slots" = some m.cls := hown
  have hl : lv_has ls 2 [(0, .ref (q 1)), (1, .int (nI j))] := hl
  refine lv_aload_n hx hb d_SL_isWide_0 rfl (lv_at hl 0 rfl) ?_
  refine va_get (D := D) (ci := 1) (v := .ref (q 3)) (C := R_SL) (T := T_SL) (N := 4) hx hb hts in_SL hown hK hP 0 rfl rfl 1 (by decide) (hts _ w_32) (fun _ h9 => h9) rfl d_SL_isWide_1 ?_
  refine lv_iload_n hx hb d_SL_isWide_4 rfl (lv_at hl 1 rfl) ?_
  refine va_zald hx hb hK hP 2 1 rfl rfl (vp_in_nI (by omega) (by omega)) d_SL_isWide_5 ?_
  refine ss_rt (y := nI (wd j)) (congrArg (fun z => nI (wd z)) (nI_clamp (by omega))) ?_
  have g1 := hwd j
  exact ro_retz hx hb hr hlocks d_SL_isWide_6 (nb_nI (hwd _)) (rfl)
set_option maxHeartbeats 4000000 in
set_option maxRecDepth 100000 in
theorem c_SL_makeWide (l : Launch) (D : va_G) (k : Nat → ClassId) (q : Nat → Nat) (gd : Nat → Option Nat) (wd : Nat → Nat) (se : Nat → Nat) (pr : Nat) (j : Nat) (hj : j < 4) : rw_v l y_SL_makeWide b_SL_makeWide 2 none { frames := 0, cells := 0, slots := 0, locals := 0 } D (kT k) (slW q k gd wd se pr) [.ref (q 1), .int (nI j)] (fun (_ : Unit) => True) (fun (_ : Unit) => (slW q k gd (ss_up wd j 1) se pr)) := by
  refine rw_headv (by decide) (Nat.le_of_ble_eq_true rfl) ?_
  intro p e s m below meth c ls A hx hb hr hlocks hml hown hts hK hA hP hD hS hl
  have hown : s.vm.findClass "SlotScreen$Slots" = some m.cls := hown
  have hl : lv_has ls 2 [(0, .ref (q 1)), (1, .int (nI j))] := hl
  refine lv_aload_n hx hb d_SL_makeWide_0 rfl (lv_at hl 0 rfl) ?_
  refine va_get (D := D) (ci := 1) (v := .ref (q 3)) (C := R_SL) (T := T_SL) (N := 4) hx hb hts in_SL hown hK hP 0 rfl rfl 1 (by decide) (hts _ w_32) (fun _ h9 => h9) rfl d_SL_makeWide_1 ?_
  refine lv_iload_n hx hb d_SL_makeWide_4 rfl (lv_at hl 1 rfl) ?_
  refine lv_iconst (v := nI 1) hx hb d_SL_makeWide_5 (by decide +kernel) ?_
  refine va_zast hx hb hK hP hD hS 2 1 rfl rfl (vp_in_nI (by omega) (by omega)) d_SL_makeWide_6 (fun H locs hP hD hS => ?_)
  rw [show vp_nar .boolean (nI 1) = nI 1 by decide +kernel] at hP hD
  rw [ss_upI wd (k := j) (v := 1) (by omega)] at hP hD
  have hP : va_P D vwCl (slW q k gd (ss_up wd j 1) se pr) _ := hP
  have hD : va_D A (slW q k gd (ss_up wd j 1) se pr) := hD
  exact rw_retv hx hb hr hlocks d_SL_makeWide_7 hS () (trivial) hP
set_option maxHeartbeats 4000000 in
set_option maxRecDepth 100000 in
theorem c_SL_hasPart (l : Launch) (D : va_G) (k : Nat → ClassId) (q : Nat → Nat) (gd : Nat → Option Nat) (wd : Nat → Nat) (se : Nat → Nat) (pr : Nat) (hwd : ∀ j, wd j < 2) (hse : ∀ j, se j < 256) (hpr : pr < 256) (s9 p9 : Nat) (hs9 : s9 < 4) (hp9 : p9 < 4) : ro_i l y_SL_hasPart b_SL_hasPart 3 (some .boolean) { frames := 0, cells := 0, slots := 0, locals := 0 } D (kT k) (slW q k gd wd se pr) [.ref (q 1), .int (nI s9), .int (nI p9)] (bI (p9 = 0 ∨ wd s9 = 1)) := by
  refine ro_headi (by decide) (Nat.le_of_ble_eq_true rfl) ?_
  intro p e s m below meth c ls hx hb hr hlocks hml hown hts hP hK hl
  have hown : s.vm.findClass "SlotScreen$Slots" = some m.cls := hown
  have hl : lv_has ls 3 [(0, .ref (q 1)), (1, .int (nI s9)), (2, .int (nI p9))] := hl
  refine lv_iload_n hx hb d_SL_hasPart_0 rfl (lv_at hl 2 rfl) ?_
  refine lv_if_eq (tgt := 13) hx hb d_SL_hasPart_1 (by decide) (fun c1 => ?_) (fun c1 => ?_)
  · have c1 := (n_eq0 (by omega)).mp c1
    refine lv_iconst (v := nI 1) hx hb d_SL_hasPart_13 (by decide +kernel) ?_
    refine lv_goto (tgt := 18) hx hb d_SL_hasPart_14 (by decide) ?_
    exact ro_retz hx hb hr hlocks d_SL_hasPart_18 (by decide +kernel) (bI_t (by omega))
  · have c1 := mt (n_eq0 (by omega)).mpr c1
    refine lv_aload_n hx hb d_SL_hasPart_4 rfl (lv_at hl 0 rfl) ?_
    refine va_get (D := D) (ci := 1) (v := .ref (q 3)) (C := R_SL) (T := T_SL) (N := 4) hx hb hts in_SL hown hK hP 0 rfl rfl 1 (by decide) (hts _ w_32) (fun _ h9 => h9) rfl d_SL_hasPart_5 ?_
    refine lv_iload_n hx hb d_SL_hasPart_8 rfl (lv_at hl 1 rfl) ?_
    refine va_zald hx hb hK hP 2 1 rfl rfl (vp_in_nI (by omega) (by omega)) d_SL_hasPart_9 ?_
    refine ss_rt (y := nI (wd s9)) (congrArg (fun z => nI (wd z)) (nI_clamp (by omega))) ?_
    have g2 := hwd s9
    refine lv_if_eq (tgt := 17) hx hb d_SL_hasPart_10 (by decide) (fun c3 => ?_) (fun c3 => ?_)
    · have c3 := (n_eq0 (by omega)).mp c3
      refine lv_iconst (v := nI 0) hx hb d_SL_hasPart_17 (by decide +kernel) ?_
      exact ro_retz hx hb hr hlocks d_SL_hasPart_18 (by decide +kernel) (bI_f (by omega))
    · have c3 := mt (n_eq0 (by omega)).mpr c3
      refine lv_iconst (v := nI 1) hx hb d_SL_hasPart_13 (by decide +kernel) ?_
      refine lv_goto (tgt := 18) hx hb d_SL_hasPart_14 (by decide) ?_
      exact ro_retz hx hb hr hlocks d_SL_hasPart_18 (by decide +kernel) (bI_t (by omega))
set_option maxHeartbeats 4000000 in
set_option maxRecDepth 100000 in
theorem c_SL_deviceIn (l : Launch) (D : va_G) (k : Nat → ClassId) (q : Nat → Nat) (gd : Nat → Option Nat) (wd : Nat → Nat) (se : Nat → Nat) (pr : Nat) (s9 p9 : Nat) (hs9 : s9 < 4) (hp9 : p9 < 4) : ro_q l y_SL_deviceIn b_SL_deviceIn 3 (some (.object "SlotScreen$Device")) { frames := 0, cells := 0, slots := 0, locals := 0 } D (kT k) (slW q k gd wd se pr) [.ref (q 1), .int (nI s9), .int (nI p9)] (gd (4 * s9 + p9)) := by
  refine ro_headq (by decide) (Nat.le_of_ble_eq_true rfl) ?_
  intro p e s m below meth c ls hx hb hr hlocks hml hown hts hP hK hl
  have hown : s.vm.findClass "SlotScreen$Slots" = some m.cls := hown
  have hl : lv_has ls 3 [(0, .ref (q 1)), (1, .int (nI s9)), (2, .int (nI p9))] := hl
  refine lv_aload_n hx hb d_SL_deviceIn_0 rfl (lv_at hl 0 rfl) ?_
  refine va_get (D := D) (ci := 1) (v := .ref (q 2)) (C := R_SL) (T := T_SL) (N := 4) hx hb hts in_SL hown hK hP 0 rfl rfl 0 (by decide) (hts _ w_31) (fun _ h9 => h9) rfl d_SL_deviceIn_1 ?_
  refine lv_iload_n hx hb d_SL_deviceIn_4 rfl (lv_at hl 1 rfl) ?_
  refine lv_iconst (v := nI 4) hx hb d_SL_deviceIn_5 (by decide +kernel) ?_
  refine lv_imul hx hb d_SL_deviceIn_6 ?_
  refine ss_rt (y := nI (s9 * 4)) (pk_mul _ _) ?_
  refine lv_iload_n hx hb d_SL_deviceIn_7 rfl (lv_at hl 2 rfl) ?_
  refine lv_iadd hx hb d_SL_deviceIn_8 ?_
  refine ss_rt (y := nI (s9 * 4 + p9)) (nI_add _ _) ?_
  refine va_aldq hx hb hK hP 1 2 rfl rfl (vp_in_nI (by omega) (by omega)) d_SL_deviceIn_9 ?_
  refine ss_rv (y := va_rf (gd (s9 * 4 + p9))) (congrArg (fun z => va_rf (gd z)) (nI_clamp (by omega))) ?_
  exact ro_retq hx hb hr hlocks d_SL_deviceIn_10 (by rw [Nat.mul_comm])
set_option maxHeartbeats 4000000 in
set_option maxRecDepth 100000 in
theorem c_SL_primary (l : Launch) (D : va_G) (k : Nat → ClassId) (q : Nat → Nat) (gd : Nat → Option Nat) (wd : Nat → Nat) (se : Nat → Nat) (pr : Nat) : ro_i l y_SL_primary b_SL_primary 1 (some .int) { frames := 0, cells := 0, slots := 0, locals := 0 } D (kT k) (slW q k gd wd se pr) [.ref (q 1)] (nI pr) := by
  refine ro_headi (by decide) (Nat.le_of_ble_eq_true rfl) ?_
  intro p e s m below meth c ls hx hb hr hlocks hml hown hts hP hK hl
  have hown : s.vm.findClass "SlotScreen$Slots" = some m.cls := hown
  have hl : lv_has ls 1 [(0, .ref (q 1))] := hl
  refine lv_aload_n hx hb d_SL_primary_0 rfl (lv_at hl 0 rfl) ?_
  refine va_get (D := D) (ci := 1) (v := .int (nI pr)) (C := R_SL) (T := T_SL) (N := 4) hx hb hts in_SL hown hK hP 0 rfl rfl 3 (by decide) (hts _ w_34) (fun _ h9 => h9) rfl d_SL_primary_1 ?_
  exact ro_reti hx hb hr hlocks d_SL_primary_4 (rfl)
set_option maxHeartbeats 4000000 in
set_option maxRecDepth 100000 in
theorem c_SL_setPrimary (l : Launch) (D : va_G) (k : Nat → ClassId) (q : Nat → Nat) (gd : Nat → Option Nat) (wd : Nat → Nat) (se : Nat → Nat) (pr : Nat) (v : Nat) : rw_v l y_SL_setPrimary b_SL_setPrimary 2 none { frames := 0, cells := 0, slots := 0, locals := 0 } D (kT k) (slW q k gd wd se pr) [.ref (q 1), .int (nI v)] (fun (_ : Unit) => True) (fun (_ : Unit) => (slW q k gd wd se v)) := by
  refine rw_headv (by decide) (Nat.le_of_ble_eq_true rfl) ?_
  intro p e s m below meth c ls A hx hb hr hlocks hml hown hts hK hA hP hD hS hl
  have hown : s.vm.findClass "SlotScreen$Slots" = some m.cls := hown
  have hl : lv_has ls 2 [(0, .ref (q 1)), (1, .int (nI v))] := hl
  refine lv_aload_n hx hb d_SL_setPrimary_0 rfl (lv_at hl 0 rfl) ?_
  refine lv_iload_n hx hb d_SL_setPrimary_1 rfl (lv_at hl 1 rfl) ?_
  refine va_put (D := D) (ci := 1) (v := .int (nI v)) (ty := .int) (C := R_SL) (T := T_SL) (N := 4) hx hb hts in_SL t_SL o_SL n_SL hown hK hP hD hS 0 rfl rfl 3 (by decide) (hts _ w_34) (fun _ h9 => h9) rfl (by decide +kernel) rfl rfl (Nat.le_of_ble_eq_true rfl) d_SL_setPrimary_2 (fun H locs hP hD hS => ?_)
  have hP : va_P D vwCl (slW q k gd wd se v) _ := hP
  have hD : va_D A (slW q k gd wd se v) := hD
  exact rw_retv hx hb hr hlocks d_SL_setPrimary_5 hS () (trivial) hP
set_option maxHeartbeats 4000000 in
set_option maxRecDepth 100000 in
theorem c_SL_secondaryOf (l : Launch) (D : va_G) (k : Nat → ClassId) (q : Nat → Nat) (gd : Nat → Option Nat) (wd : Nat → Nat) (se : Nat → Nat) (pr : Nat) (j : Nat) (hj : j < 4) : ro_i l y_SL_secondaryOf b_SL_secondaryOf 2 (some .int) { frames := 0, cells := 0, slots := 0, locals := 0 } D (kT k) (slW q k gd wd se pr) [.ref (q 1), .int (nI j)] (nI (se j)) := by
  refine ro_headi (by decide) (Nat.le_of_ble_eq_true rfl) ?_
  intro p e s m below meth c ls hx hb hr hlocks hml hown hts hP hK hl
  have hown : s.vm.findClass "SlotScreen$Slots" = some m.cls := hown
  have hl : lv_has ls 2 [(0, .ref (q 1)), (1, .int (nI j))] := hl
  refine lv_aload_n hx hb d_SL_secondaryOf_0 rfl (lv_at hl 0 rfl) ?_
  refine va_get (D := D) (ci := 1) (v := .ref (q 4)) (C := R_SL) (T := T_SL) (N := 4) hx hb hts in_SL hown hK hP 0 rfl rfl 2 (by decide) (hts _ w_33) (fun _ h9 => h9) rfl d_SL_secondaryOf_1 ?_
  refine lv_iload_n hx hb d_SL_secondaryOf_4 rfl (lv_at hl 1 rfl) ?_
  refine va_iald hx hb hK hP 3 0 rfl rfl (vp_in_nI (by omega) (by omega)) d_SL_secondaryOf_5 ?_
  refine ss_rt (y := nI (se j)) (congrArg (fun z => nI (se z)) (nI_clamp (by omega))) ?_
  exact ro_reti hx hb hr hlocks d_SL_secondaryOf_6 (rfl)
set_option maxHeartbeats 4000000 in
set_option maxRecDepth 100000 in
theorem c_SL_pageBits (l : Launch) (D : va_G) (k : Nat → ClassId) (n a : Nat) (hn : n < 256) (ha : a < 256) : ro_i l y_SL_pageBits b_SL_pageBits 3 (some .int) { frames := 0, cells := 0, slots := 0, locals := 0 } D (kT k) [] [.int (nI n), .int (nI a)] (nI (n / 4 ^ (a / 64) % 4)) := by
  refine ro_headi (by decide) (Nat.le_of_ble_eq_true rfl) ?_
  intro p e s m below meth c ls hx hb hr hlocks hml hown hts hP hK hl
  have hown : s.vm.findClass "SlotScreen$Slots" = some m.cls := hown
  have hl : lv_has ls 3 [(0, .int (nI n)), (1, .int (nI a))] := hl
  refine lv_iload_n hx hb d_SL_pageBits_0 rfl (lv_at hl 1 rfl) ?_
  refine lv_bipush (v := nI 64) hx hb d_SL_pageBits_1 (by decide +kernel) ?_
  refine lv_idiv hx hb d_SL_pageBits_3 (by first | decide +kernel | exact nI_ne0 (by omega) (by omega)) ?_
  refine ss_rt (y := nI (a / 64)) (pk_div (by omega) (by omega) (by omega)) ?_
  refine lv_istore_n (lv' := [(2, .int (nI (a / 64))), (0, .int (nI n)), (1, .int (nI a))]) hx hb d_SL_pageBits_4 rfl hl (by decide) rfl (fun ls hl => ?_)
  refine lv_iload_n hx hb d_SL_pageBits_5 rfl (lv_at hl 1 rfl) ?_
  refine lv_iconst (v := nI 2) hx hb d_SL_pageBits_6 (by decide +kernel) ?_
  refine lv_iload_n hx hb d_SL_pageBits_7 rfl (lv_at hl 0 rfl) ?_
  refine lv_imul hx hb d_SL_pageBits_8 ?_
  refine ss_rt (y := nI (2 * (a / 64))) (pk_mul _ _) ?_
  refine lv_ishr hx hb d_SL_pageBits_9 ?_
  refine ss_rt (y := nI (n / 4 ^ (a / 64))) ((ss_shr (by omega) (by omega)).trans (by rw [mpb])) ?_
  have g9 := mpw_le n (a / 64)
  refine lv_iconst (v := nI 3) hx hb d_SL_pageBits_10 (by decide +kernel) ?_
  refine lv_iand hx hb d_SL_pageBits_11 ?_
  refine ss_rt (y := nI ((n / 4 ^ (a / 64)) % 4)) (pk_andN (by omega) 2 (by decide +kernel)) ?_
  exact ro_reti hx hb hr hlocks d_SL_pageBits_12 (rfl)
set_option maxHeartbeats 4000000 in
set_option maxRecDepth 100000 in
theorem c_SL_slotAt (l : Launch) (D : va_G) (k : Nat → ClassId) (q : Nat → Nat) (gd : Nat → Option Nat) (wd : Nat → Nat) (se : Nat → Nat) (pr : Nat) (hpr : pr < 256) (a : Nat) (ha : a < 256) : ro_i l y_SL_slotAt b_SL_slotAt 2 (some .int) { frames := 1, cells := 0, slots := 0, locals := 22 } D (kT k) (slW q k gd wd se pr) [.ref (q 1), .int (nI a)] (nI (msl pr a)) := by
  refine ro_headi (by decide) (Nat.le_of_ble_eq_true rfl) ?_
  intro p e s m below meth c ls hx hb hr hlocks hml hown hts hP hK hl
  have hown : s.vm.findClass "SlotScreen$Slots" = some m.cls := hown
  have hl : lv_has ls 2 [(0, .ref (q 1)), (1, .int (nI a))] := hl
  refine lv_aload_n hx hb d_SL_slotAt_0 rfl (lv_at hl 0 rfl) ?_
  refine va_get (D := D) (ci := 1) (v := .int (nI pr)) (C := R_SL) (T := T_SL) (N := 4) hx hb hts in_SL hown hK hP 0 rfl rfl 3 (by decide) (hts _ w_34) (fun _ h9 => h9) rfl d_SL_slotAt_1 ?_
  refine lv_iload_n hx hb d_SL_slotAt_4 rfl (lv_at hl 1 rfl) ?_
  refine kr_iS (As := [.int (nI pr), .int (nI a)]) (rest := []) ⟨hx, hb, hml, hown, hts⟩ (c_SL_pageBits l D k pr a (by omega) (by omega)) (va_cwS 2 hts (gS w_460 w_461 w_2 w_462) rfl rfl rfl (by decide +kernel) ⟨Nat.le_of_ble_eq_true rfl, Nat.le_of_ble_eq_true rfl⟩) hK va_nil rfl hl.1 rfl (Nat.le_of_ble_eq_true rfl) d_SL_slotAt_5 ⟨Nat.zero_le _, Nat.zero_le _⟩ ?_
  exact ro_reti hx hb hr hlocks d_SL_slotAt_8 (rfl)
set_option maxHeartbeats 4000000 in
set_option maxRecDepth 100000 in
theorem c_SL_partAt (l : Launch) (D : va_G) (k : Nat → ClassId) (q : Nat → Nat) (gd : Nat → Option Nat) (wd : Nat → Nat) (se : Nat → Nat) (pr : Nat) (hwd : ∀ j, wd j < 2) (hse : ∀ j, se j < 256) (hpr : pr < 256) (s9 a : Nat) (hs9 : s9 < 4) (ha : a < 256) : ro_i l y_SL_partAt b_SL_partAt 3 (some .int) { frames := 1, cells := 0, slots := 0, locals := 22 } D (kT k) (slW q k gd wd se pr) [.ref (q 1), .int (nI s9), .int (nI a)] (nI (mpg wd se s9 a)) := by
  refine ro_headi (by decide) (Nat.le_of_ble_eq_true rfl) ?_
  intro p e s m below meth c ls hx hb hr hlocks hml hown hts hP hK hl
  have hown : s.vm.findClass "SlotScreen$Slots" = some m.cls := hown
  have hl : lv_has ls 3 [(0, .ref (q 1)), (1, .int (nI s9)), (2, .int (nI a))] := hl
  refine lv_aload_n hx hb d_SL_partAt_0 rfl (lv_at hl 0 rfl) ?_
  refine va_get (D := D) (ci := 1) (v := .ref (q 3)) (C := R_SL) (T := T_SL) (N := 4) hx hb hts in_SL hown hK hP 0 rfl rfl 1 (by decide) (hts _ w_32) (fun _ h9 => h9) rfl d_SL_partAt_1 ?_
  refine lv_iload_n hx hb d_SL_partAt_4 rfl (lv_at hl 1 rfl) ?_
  refine va_zald hx hb hK hP 2 1 rfl rfl (vp_in_nI (by omega) (by omega)) d_SL_partAt_5 ?_
  refine ss_rt (y := nI (wd s9)) (congrArg (fun z => nI (wd z)) (nI_clamp (by omega))) ?_
  have g1 := hwd s9
  refine lv_if_eq (tgt := 22) hx hb d_SL_partAt_6 (by decide) (fun c2 => ?_) (fun c2 => ?_)
  · have c2 := (n_eq0 (by omega)).mp c2
    refine lv_iconst (v := nI 0) hx hb d_SL_partAt_22 (by decide +kernel) ?_
    exact ro_reti hx hb hr hlocks d_SL_partAt_23 (by unfold mpg; first | rw [if_pos (by omega)] | rw [if_neg (by omega)])
  · have c2 := mt (n_eq0 (by omega)).mpr c2
    refine lv_aload_n hx hb d_SL_partAt_9 rfl (lv_at hl 0 rfl) ?_
    refine va_get (D := D) (ci := 1) (v := .ref (q 4)) (C := R_SL) (T := T_SL) (N := 4) hx hb hts in_SL hown hK hP 0 rfl rfl 2 (by decide) (hts _ w_33) (fun _ h9 => h9) rfl d_SL_partAt_10 ?_
    refine lv_iload_n hx hb d_SL_partAt_13 rfl (lv_at hl 1 rfl) ?_
    refine va_iald hx hb hK hP 3 0 rfl rfl (vp_in_nI (by omega) (by omega)) d_SL_partAt_14 ?_
    refine ss_rt (y := nI (se s9)) (congrArg (fun z => nI (se z)) (nI_clamp (by omega))) ?_
    have g3 := hse s9
    refine lv_iload_n hx hb d_SL_partAt_15 rfl (lv_at hl 2 rfl) ?_
    refine kr_iS (As := [.int (nI (se s9)), .int (nI a)]) (rest := []) ⟨hx, hb, hml, hown, hts⟩ (c_SL_pageBits l D k (se s9) a (by omega) (by omega)) (va_cwS 2 hts (gS w_460 w_461 w_2 w_462) rfl rfl rfl (by decide +kernel) ⟨Nat.le_of_ble_eq_true rfl, Nat.le_of_ble_eq_true rfl⟩) hK va_nil rfl hl.1 rfl (Nat.le_of_ble_eq_true rfl) d_SL_partAt_16 ⟨Nat.zero_le _, Nat.zero_le _⟩ ?_
    refine lv_goto (tgt := 23) hx hb d_SL_partAt_19 (by decide) ?_
    exact ro_reti hx hb hr hlocks d_SL_partAt_23 (by unfold mpg; first | rw [if_pos (by omega)] | rw [if_neg (by omega)])
