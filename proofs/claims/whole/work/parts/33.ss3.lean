set_option maxHeartbeats 4000000 in
set_option maxRecDepth 100000 in
theorem c_SS_widen (l : Launch) (D : va_G) (k : Nat → ClassId) (q : Nat → Nat) (gd : Nat → Option Nat) (wd : Nat → Nat) (se : Nat → Nat) (pr : Nat) (ln : Nat) (px : Nat → Nat) (cv : Nat) (co : Nat) (B : Nat → Nat) (R : Nat → Nat) (sx : Nat) (pt : Nat) (rd : Nat) (wt : Int32) (hwd : ∀ j, wd j < 2) (hse : ∀ j, se j < 256) (hpr : pr < 256) (j : Nat) (hj : j < 4) (h1 : wd j = 0) (hg : gd (4 * j + 0) = none) : rw_v l y_SS_widen b_SS_widen 2 none { frames := 1, cells := 0, slots := 0, locals := 22 } D (kT k) (ssW q k gd wd se pr ln px cv co B R sx pt rd wt) [.ref (q 0), .int (nI j)] (fun (_ : Unit) => True) (fun (_ : Unit) => (ssW q k gd (ss_up wd j 1) se pr ln px cv co B R sx pt rd wt)) := by
  refine rw_headv (by decide) (Nat.le_of_ble_eq_true rfl) ?_
  intro p e s m below meth c ls A hx hb hr hlocks hml hown hts hK hA hP hD hS hl
  have hown : s.vm.findClass "SlotScreen" = some m.cls := hown
  have hl : lv_has ls 2 [(0, .ref (q 0)), (1, .int (nI j))] := hl
  refine lv_iload_n hx hb d_SS_widen_0 rfl (lv_at hl 1 rfl) ?_
  refine kr_iS (As := [.int (nI j)]) (rest := []) ⟨hx, hb, hml, hown, hts⟩ (c_SS_isSlotN l D k j (by omega)) (va_cwS 1 hts (gS w_107 w_108 w_1 w_109) rfl rfl rfl (by decide +kernel) ⟨Nat.le_of_ble_eq_true rfl, Nat.le_of_ble_eq_true rfl⟩) hK va_nil rfl hl.1 rfl (Nat.le_of_ble_eq_true rfl) d_SS_widen_1 ⟨Nat.zero_le _, Nat.zero_le _⟩ ?_
  refine lv_if_ne (tgt := 17) hx hb d_SS_widen_4 (by decide) (fun c1 => ?_) (fun c1 => ?_)
  · have c1 := mt (bI_0).mpr c1
    have c1 := Classical.not_not.mp c1
    refine lv_aload_n hx hb d_SS_widen_17 rfl (lv_at hl 0 rfl) ?_
    refine va_get (D := D) (ci := 0) (v := .ref (q 1)) (C := R_SS) (T := T_SS) (N := 3) hx hb hts in_SS hown hK hP 0 rfl rfl 0 (by decide) (hts _ w_93) (fun _ h9 => h9) rfl d_SS_widen_18 ?_
    refine lv_iload_n hx hb d_SS_widen_21 rfl (lv_at hl 1 rfl) ?_
    have g2 := hwd j
    refine kr_iV (As := [.int (nI j)]) (rest := []) ⟨hx, hb, hml, hown, hts⟩ (c_SL_isWide l D k q gd wd se pr hwd hse (by omega) j (by omega)) (cwV 1 hts (gV w_270 w_271 w_272 w_2 w_273) rfl rfl rfl (by decide +kernel) ⟨Nat.le_of_ble_eq_true rfl, Nat.le_of_ble_eq_true rfl⟩) hK (hP.sub (ws' := (slW q k gd wd se pr)) [1, 2, 3, 4] rfl) (va_recv hK hP (ci := 1) (q0 := 1) rfl rfl) rfl hl.1 rfl (Nat.le_of_ble_eq_true rfl) d_SS_widen_22 ⟨Nat.zero_le _, Nat.zero_le _⟩ ?_
    refine lv_if_ne (tgt := 40) hx hb d_SS_widen_25 (by decide) (fun c3 => ?_) (fun c3 => ?_)
    · have c3 := mt (n_eq0 (by omega)).mpr c3
      exfalso; omega
    · have c3 := (n_eq0 (by omega)).mp c3
      refine lv_aload_n hx hb d_SS_widen_28 rfl (lv_at hl 0 rfl) ?_
      refine va_get (D := D) (ci := 0) (v := .ref (q 1)) (C := R_SS) (T := T_SS) (N := 3) hx hb hts in_SS hown hK hP 0 rfl rfl 0 (by decide) (hts _ w_93) (fun _ h9 => h9) rfl d_SS_widen_29 ?_
      refine lv_iload_n hx hb d_SS_widen_32 rfl (lv_at hl 1 rfl) ?_
      refine lv_iconst (v := nI 0) hx hb d_SS_widen_33 (by decide +kernel) ?_
      refine kr_qV (As := [.int (nI j), .int (nI 0)]) (rest := []) ⟨hx, hb, hml, hown, hts⟩ (c_SL_deviceIn l D k q gd wd se pr j 0 (by omega) (by omega)) (cwV 2 hts (gV w_116 w_117 w_118 w_2 w_119) rfl rfl rfl (by decide +kernel) ⟨Nat.le_of_ble_eq_true rfl, Nat.le_of_ble_eq_true rfl⟩) hK (hP.sub (ws' := (slW q k gd wd se pr)) [1, 2, 3, 4] rfl) (va_recv hK hP (ci := 1) (q0 := 1) rfl rfl) rfl hl.1 rfl (Nat.le_of_ble_eq_true rfl) d_SS_widen_34 ⟨Nat.zero_le _, Nat.zero_le _⟩ ?_
      refine ss_rv (y := .null) (by rw [hg]; rfl) ?_
      refine lv_ifnullN (tgt := 50) hx hb d_SS_widen_37 (by decide) ?_
      refine lv_aload_n hx hb d_SS_widen_50 rfl (lv_at hl 0 rfl) ?_
      refine va_get (D := D) (ci := 0) (v := .ref (q 1)) (C := R_SS) (T := T_SS) (N := 3) hx hb hts in_SS hown hK hP 0 rfl rfl 0 (by decide) (hts _ w_93) (fun _ h9 => h9) rfl d_SS_widen_51 ?_
      refine lv_iload_n hx hb d_SS_widen_54 rfl (lv_at hl 1 rfl) ?_
      have hPc := hP.sub (ws' := (slW q k gd wd se pr)) [1, 2, 3, 4] rfl
      have hDc := hD.sub (ws' := (slW q k gd wd se pr)) [1, 2, 3, 4] (by decide) rfl
      have hFc := rw_S hDc hS hA
      refine kw_vV (As := [.int (nI j)]) (rest := []) ⟨hx, hb, hml, hown, hts⟩ (c_SL_makeWide l D k q gd wd se pr j (by omega)) (cwV 1 hts (gV w_378 w_379 w_380 w_2 w_381) rfl rfl rfl (by decide +kernel) ⟨Nat.le_of_ble_eq_true rfl, Nat.le_of_ble_eq_true rfl⟩) hK hPc hDc hS hA (va_recv hK hP (ci := 1) (q0 := 1) rfl rfl) rfl hl.1 rfl (Nat.le_of_ble_eq_true rfl) d_SS_widen_55 ⟨Nat.zero_le _, Nat.zero_le _⟩ (fun u9 H9 locs _ hP1 hk1 hS9 => ?_)
      obtain ⟨hP, hD⟩ := rw_join (w := (slW q k gd wd se pr)) (w' := (slW q k gd (ss_up wd j 1) se pr)) (wr := [(q 0, .inr (0, [.ref (q 1), .ref (q 7), .ref (q 5)])), (q 5, .inr (3, [.ref (q 7), .ref (q 6), .int (nI ln), .long (lN cv), .long (lN co)])), (q 6, .inl (k 0, 2048, .inl (fun j => nI (px j)))), (q 7, .inr (2, [.ref (q 8), .ref (q 9), .int (nI sx), .int (nI pt), .int (nI rd), .int wt])), (q 8, .inl (k 0, 512, .inl (fun j => nI (B j)))), (q 9, .inl (k 0, 8, .inl (fun j => nI (R j))))]) hP hD [1, 2, 3, 4] [0, 5, 6, 7, 8, 9] rfl rfl (by decide) (by decide) (by decide) hk1 hFc hP1 rfl
      have hS := hS9
      clear hS9 hP1 hk1 hFc hPc hDc
      generalize H9 = H at hP hS ⊢
      have hP : va_P D vwCl (ssW q k gd (ss_up wd j 1) se pr ln px cv co B R sx pt rd wt) H := hP.sub [0, 6, 7, 8, 9, 1, 2, 3, 4, 5] rfl
      have hD : va_D A (ssW q k gd (ss_up wd j 1) se pr ln px cv co B R sx pt rd wt) := hD.sub [0, 6, 7, 8, 9, 1, 2, 3, 4, 5] (by decide) rfl
      exact rw_retv hx hb hr hlocks d_SS_widen_58 hS () (trivial) hP
  · have c1 := (bI_0).mp c1
    exfalso; omega
set_option maxHeartbeats 4000000 in
set_option maxRecDepth 100000 in
theorem c_SS_far (l : Launch) (D : va_G) (k : Nat → ClassId) (q : Nat → Nat) (gd : Nat → Option Nat) (wd : Nat → Nat) (se : Nat → Nat) (pr : Nat) (ln : Nat) (px : Nat → Nat) (cv : Nat) (co : Nat) (B : Nat → Nat) (R : Nat → Nat) (sx : Nat) (pt : Nat) (rd : Nat) (wt : Int32) (od : List Nat) (ad bd ed kd nb sh mb : Nat → Nat) (hwd : ∀ j, wd j < 2) (hse : ∀ j, se j < 256) (hpr : pr < 256) (hO : plO od gd ad kd nb sh) (hkd : ∀ j, kd j < 5) (hmb : ∀ j, mb j < 256) (s9 p9 a : Nat) (hs9 : s9 < 4) (hp9 : p9 < 4) (ha : a < 256) : xo_i l y_SS_far b_SS_far 4 (some .int) { frames := 3, cells := 0, slots := 0, locals := 85 } D (kT k) (ssW q k gd wd se pr ln px cv co B R sx pt rd wt ++ plW od k ad bd ed kd nb sh mb) [.ref (q 0), .int (nI s9), .int (nI p9), .int (nI a)] (nI (if a = 255 ∧ wd s9 = 1 then 255 - (se s9 % 64 + 64 * p9) else mget kd sh mb (4 * s9 + (if wd s9 = 1 then p9 else 0)) a)) := by
  refine xo_headi (by decide) (Nat.le_of_ble_eq_true rfl) ?_
  intro p e s m below meth c ls hx hb hr hlocks hml hown hts hX hP hK hl
  have hown : s.vm.findClass "SlotScreen" = some m.cls := hown
  have hl : lv_has ls 4 [(0, .ref (q 0)), (1, .int (nI s9)), (2, .int (nI p9)), (3, .int (nI a))] := hl
  refine lv_iload_n hx hb d_SS_far_0 rfl (lv_at hl 1 rfl) ?_
  refine kr_iS (As := [.int (nI s9)]) (rest := []) ⟨hx, hb, hml, hown, hts⟩ (c_SS_isSlotN l D k s9 (by omega)) (va_cwS 1 hts (gS w_107 w_108 w_1 w_109) rfl rfl rfl (by decide +kernel) ⟨Nat.le_of_ble_eq_true rfl, Nat.le_of_ble_eq_true rfl⟩) hK va_nil rfl hl.1 rfl (Nat.le_of_ble_eq_true rfl) d_SS_far_1 ⟨Nat.zero_le _, Nat.zero_le _⟩ ?_
  refine lv_if_eq (tgt := 21) hx hb d_SS_far_4 (by decide) (fun c1 => ?_) (fun c1 => ?_)
  · have c1 := (bI_0).mp c1
    exfalso; omega
  · have c1 := mt (bI_0).mpr c1
    have c1 := Classical.not_not.mp c1
    refine lv_iload_n hx hb d_SS_far_7 rfl (lv_at hl 2 rfl) ?_
    refine kr_iS (As := [.int (nI p9)]) (rest := []) ⟨hx, hb, hml, hown, hts⟩ (c_SS_isPartN l D k p9 (by omega)) (va_cwS 1 hts (gS w_110 w_111 w_1 w_112) rfl rfl rfl (by decide +kernel) ⟨Nat.le_of_ble_eq_true rfl, Nat.le_of_ble_eq_true rfl⟩) hK va_nil rfl hl.1 rfl (Nat.le_of_ble_eq_true rfl) d_SS_far_8 ⟨Nat.zero_le _, Nat.zero_le _⟩ ?_
    refine lv_if_eq (tgt := 21) hx hb d_SS_far_11 (by decide) (fun c2 => ?_) (fun c2 => ?_)
    · have c2 := (bI_0).mp c2
      exfalso; omega
    · have c2 := mt (bI_0).mpr c2
      have c2 := Classical.not_not.mp c2
      refine lv_iload_n hx hb d_SS_far_14 rfl (lv_at hl 3 rfl) ?_
      refine kr_iS (As := [.int (nI a)]) (rest := []) ⟨hx, hb, hml, hown, hts⟩ (c_SS_isAddressN l D k a (by omega)) (va_cwS 1 hts (gS w_454 w_131 w_1 w_132) rfl rfl rfl (by decide +kernel) ⟨Nat.le_of_ble_eq_true rfl, Nat.le_of_ble_eq_true rfl⟩) hK va_nil rfl hl.1 rfl (Nat.le_of_ble_eq_true rfl) d_SS_far_15 ⟨Nat.zero_le _, Nat.zero_le _⟩ ?_
      refine lv_if_ne (tgt := 31) hx hb d_SS_far_18 (by decide) (fun c3 => ?_) (fun c3 => ?_)
      · have c3 := mt (bI_0).mpr c3
        have c3 := Classical.not_not.mp c3
        refine lv_aload_n hx hb d_SS_far_31 rfl (lv_at hl 0 rfl) ?_
        refine va_get (D := D) (ci := 0) (v := .ref (q 1)) (C := R_SS) (T := T_SS) (N := 3) hx hb hts in_SS hown hK hP 0 rfl rfl 0 (by decide) (hts _ w_93) (fun _ h9 => h9) rfl d_SS_far_32 ?_
        refine lv_iload_n hx hb d_SS_far_35 rfl (lv_at hl 1 rfl) ?_
        refine lv_iload_n hx hb d_SS_far_36 rfl (lv_at hl 2 rfl) ?_
        refine lv_iload_n hx hb d_SS_far_37 rfl (lv_at hl 3 rfl) ?_
        have hP0 := hP
        have hPc : va_P D vwCl ((slW q k gd wd se pr) ++ plW od k ad bd ed kd nb sh mb) _ := ss_subP (a := [(q 0, .inr (0, [.ref (q 1), .ref (q 7), .ref (q 5)]))]) (b := (slW q k gd wd se pr)) (c := (scW q k ln px cv co B R sx pt rd wt)) hP
        refine kx_iV (As := [.int (nI s9), .int (nI p9), .int (nI a)]) (rest := []) ⟨hx, hb, hml, hown, hts⟩ (c_SL_byteIn l D k q gd wd se pr od ad bd ed kd nb sh mb hwd hse (by omega) hO hkd hmb s9 p9 a (by omega) (by omega) (by omega)) (cwV 3 hts (gV w_467 w_468 w_469 w_2 w_470) rfl rfl rfl (by decide +kernel) ⟨Nat.le_of_ble_eq_true rfl, Nat.le_of_ble_eq_true rfl⟩) hK hX hPc (va_recv hK hP (ci := 1) (q0 := 1) rfl rfl) rfl hl.1 rfl (Nat.le_of_ble_eq_true rfl) d_SS_far_38 ⟨Nat.zero_le _, Nat.zero_le _⟩ ?_
        exact ro_reti hx hb hr hlocks d_SS_far_41 (rfl)
      · have c3 := (bI_0).mp c3
        exfalso; omega
set_option maxHeartbeats 4000000 in
set_option maxRecDepth 100000 in
theorem c_SS_read (l : Launch) (D : va_G) (k : Nat → ClassId) (q : Nat → Nat) (gd : Nat → Option Nat) (wd : Nat → Nat) (se : Nat → Nat) (pr : Nat) (ln : Nat) (px : Nat → Nat) (cv : Nat) (co : Nat) (B : Nat → Nat) (R : Nat → Nat) (sx : Nat) (pt : Nat) (rd : Nat) (wt : Int32) (od : List Nat) (ad bd ed kd nb sh mb : Nat → Nat) (hwd : ∀ j, wd j < 2) (hse : ∀ j, se j < 256) (hpr : pr < 256) (hO : plO od gd ad kd nb sh) (hkd : ∀ j, kd j < 5) (hmb : ∀ j, mb j < 256) (a : Nat) (ha : a < 256) : xo_i l y_SS_read b_SS_read 3 (some .int) { frames := 3, cells := 0, slots := 0, locals := 85 } D (kT k) (ssW q k gd wd se pr ln px cv co B R sx pt rd wt ++ plW od k ad bd ed kd nb sh mb) [.ref (q 0), .int (nI a)] (nI (if a = 255 ∧ wd (msl pr a) = 1 then 255 - se (msl pr a) else mget kd sh mb (4 * msl pr a + mpg wd se (msl pr a) a) a)) := by
  refine xo_headi (by decide) (Nat.le_of_ble_eq_true rfl) ?_
  intro p e s m below meth c ls hx hb hr hlocks hml hown hts hX hP hK hl
  have hown : s.vm.findClass "SlotScreen" = some m.cls := hown
  have hl : lv_has ls 3 [(0, .ref (q 0)), (1, .int (nI a))] := hl
  refine lv_iload_n hx hb d_SS_read_0 rfl (lv_at hl 1 rfl) ?_
  refine kr_iS (As := [.int (nI a)]) (rest := []) ⟨hx, hb, hml, hown, hts⟩ (c_SS_isAddressN l D k a (by omega)) (va_cwS 1 hts (gS w_454 w_131 w_1 w_132) rfl rfl rfl (by decide +kernel) ⟨Nat.le_of_ble_eq_true rfl, Nat.le_of_ble_eq_true rfl⟩) hK va_nil rfl hl.1 rfl (Nat.le_of_ble_eq_true rfl) d_SS_read_1 ⟨Nat.zero_le _, Nat.zero_le _⟩ ?_
  refine lv_if_ne (tgt := 17) hx hb d_SS_read_4 (by decide) (fun c1 => ?_) (fun c1 => ?_)
  · have c1 := mt (bI_0).mpr c1
    have c1 := Classical.not_not.mp c1
    refine lv_aload_n hx hb d_SS_read_17 rfl (lv_at hl 0 rfl) ?_
    refine va_get (D := D) (ci := 0) (v := .ref (q 1)) (C := R_SS) (T := T_SS) (N := 3) hx hb hts in_SS hown hK hP 0 rfl rfl 0 (by decide) (hts _ w_93) (fun _ h9 => h9) rfl d_SS_read_18 ?_
    refine lv_iload_n hx hb d_SS_read_21 rfl (lv_at hl 1 rfl) ?_
    have g2 := msl_lt pr a
    refine kr_iV (As := [.int (nI a)]) (rest := []) ⟨hx, hb, hml, hown, hts⟩ (c_SL_slotAt l D k q gd wd se pr (by omega) a (by omega)) (cwV 1 hts (gV w_456 w_457 w_458 w_2 w_459) rfl rfl rfl (by decide +kernel) ⟨Nat.le_of_ble_eq_true rfl, Nat.le_of_ble_eq_true rfl⟩) hK (hP.sub (ws' := (slW q k gd wd se pr)) [1, 2, 3, 4] rfl) (va_recv hK hP (ci := 1) (q0 := 1) rfl rfl) rfl hl.1 rfl (Nat.le_of_ble_eq_true rfl) d_SS_read_22 ⟨Nat.zero_le _, Nat.zero_le _⟩ ?_
    refine lv_istore_n (lv' := [(2, .int (nI (msl pr a))), (0, .ref (q 0)), (1, .int (nI a))]) hx hb d_SS_read_25 rfl hl (by decide) rfl (fun ls hl => ?_)
    refine lv_aload_n hx hb d_SS_read_26 rfl (lv_at hl 1 rfl) ?_
    refine va_get (D := D) (ci := 0) (v := .ref (q 1)) (C := R_SS) (T := T_SS) (N := 3) hx hb hts in_SS hown hK hP 0 rfl rfl 0 (by decide) (hts _ w_93) (fun _ h9 => h9) rfl d_SS_read_27 ?_
    refine lv_iload_n hx hb d_SS_read_30 rfl (lv_at hl 0 rfl) ?_
    refine lv_aload_n hx hb d_SS_read_31 rfl (lv_at hl 1 rfl) ?_
    refine va_get (D := D) (ci := 0) (v := .ref (q 1)) (C := R_SS) (T := T_SS) (N := 3) hx hb hts in_SS hown hK hP 0 rfl rfl 0 (by decide) (hts _ w_93) (fun _ h9 => h9) rfl d_SS_read_32 ?_
    refine lv_iload_n hx hb d_SS_read_35 rfl (lv_at hl 0 rfl) ?_
    refine lv_iload_n hx hb d_SS_read_36 rfl (lv_at hl 2 rfl) ?_
    have g3 := mpg_lt wd se (msl pr a) a
    refine kr_iV (As := [.int (nI (msl pr a)), .int (nI a)]) (rest := [.int (nI (msl pr a)), .ref (q 1)]) ⟨hx, hb, hml, hown, hts⟩ (c_SL_partAt l D k q gd wd se pr hwd hse (by omega) (msl pr a) a (by omega) (by omega)) (cwV 2 hts (gV w_463 w_464 w_465 w_2 w_466) rfl rfl rfl (by decide +kernel) ⟨Nat.le_of_ble_eq_true rfl, Nat.le_of_ble_eq_true rfl⟩) hK (hP.sub (ws' := (slW q k gd wd se pr)) [1, 2, 3, 4] rfl) (va_recv hK hP (ci := 1) (q0 := 1) rfl rfl) rfl hl.1 rfl (Nat.le_of_ble_eq_true rfl) d_SS_read_37 ⟨Nat.zero_le _, Nat.zero_le _⟩ ?_
    refine lv_iload_n hx hb d_SS_read_40 rfl (lv_at hl 2 rfl) ?_
    have hP0 := hP
    have hPc : va_P D vwCl ((slW q k gd wd se pr) ++ plW od k ad bd ed kd nb sh mb) _ := ss_subP (a := [(q 0, .inr (0, [.ref (q 1), .ref (q 7), .ref (q 5)]))]) (b := (slW q k gd wd se pr)) (c := (scW q k ln px cv co B R sx pt rd wt)) hP
    refine kx_iV (As := [.int (nI (msl pr a)), .int (nI (mpg wd se (msl pr a) a)), .int (nI a)]) (rest := []) ⟨hx, hb, hml, hown, hts⟩ (c_SL_byteIn l D k q gd wd se pr od ad bd ed kd nb sh mb hwd hse (by omega) hO hkd hmb (msl pr a) (mpg wd se (msl pr a) a) a (by omega) (by omega) (by omega)) (cwV 3 hts (gV w_467 w_468 w_469 w_2 w_470) rfl rfl rfl (by decide +kernel) ⟨Nat.le_of_ble_eq_true rfl, Nat.le_of_ble_eq_true rfl⟩) hK hX hPc (va_recv hK hP (ci := 1) (q0 := 1) rfl rfl) rfl hl.1 rfl (Nat.le_of_ble_eq_true rfl) d_SS_read_41 ⟨Nat.zero_le _, Nat.zero_le _⟩ ?_
    exact ro_reti hx hb hr hlocks d_SS_read_44 (by rw [rd_eq kd sh mb (hse _)])
  · have c1 := (bI_0).mp c1
    exfalso; omega
set_option maxHeartbeats 4000000 in
set_option maxRecDepth 100000 in
theorem c_SS_writeS (l : Launch) (D : va_G) (k : Nat → ClassId) (q : Nat → Nat) (gd : Nat → Option Nat) (wd : Nat → Nat) (se : Nat → Nat) (pr : Nat) (ln : Nat) (px : Nat → Nat) (cv : Nat) (co : Nat) (B : Nat → Nat) (R : Nat → Nat) (sx : Nat) (pt : Nat) (rd : Nat) (wt : Int32) (od : List Nat) (ad bd ed kd nb sh mb : Nat → Nat) (hwd : ∀ j, wd j < 2) (hse : ∀ j, se j < 256) (hpr : pr < 256) (hO : plO od gd ad kd nb sh) (hkd : ∀ j, kd j < 5) (hmb : ∀ j, mb j < 256) (a v : Nat) (ha : a < 256) (hv : v < 256) (h1 : a = 255 ∧ wd (msl pr a) = 1) : xw_v l y_SS_write b_SS_write 3 none { frames := 3, cells := 0, slots := 0, locals := 86 } D (kT k) (ssW q k gd wd se pr ln px cv co B R sx pt rd wt ++ plW od k ad bd ed kd nb sh mb) [.ref (q 0), .int (nI a), .int (nI v)] (fun (_ : Unit) => True) (fun (_ : Unit) => (ssW q k gd wd (ss_up se (msl pr a) v) pr ln px cv co B R sx pt rd wt ++ plW od k ad bd ed kd nb sh mb)) := by
  refine xw_headv (by decide) (Nat.le_of_ble_eq_true rfl) ?_
  intro p e s m below meth c ls A hx hb hr hlocks hml hown hts hX hK hA hP hD hS hl
  have hown : s.vm.findClass "SlotScreen" = some m.cls := hown
  have hl : lv_has ls 3 [(0, .ref (q 0)), (1, .int (nI a)), (2, .int (nI v))] := hl
  refine lv_iload_n hx hb d_SS_write_0 rfl (lv_at hl 1 rfl) ?_
  refine kr_iS (As := [.int (nI a)]) (rest := []) ⟨hx, hb, hml, hown, hts⟩ (c_SS_isAddressN l D k a (by omega)) (va_cwS 1 hts (gS w_454 w_131 w_1 w_132) rfl rfl rfl (by decide +kernel) ⟨Nat.le_of_ble_eq_true rfl, Nat.le_of_ble_eq_true rfl⟩) hK va_nil rfl hl.1 rfl (Nat.le_of_ble_eq_true rfl) d_SS_write_1 ⟨Nat.zero_le _, Nat.zero_le _⟩ ?_
  refine lv_if_eq (tgt := 14) hx hb d_SS_write_4 (by decide) (fun c1 => ?_) (fun c1 => ?_)
  · have c1 := (bI_0).mp c1
    exfalso; omega
  · have c1 := mt (bI_0).mpr c1
    have c1 := Classical.not_not.mp c1
    refine lv_iload_n hx hb d_SS_write_7 rfl (lv_at hl 2 rfl) ?_
    refine kr_iS (As := [.int (nI v)]) (rest := []) ⟨hx, hb, hml, hown, hts⟩ (c_SS_isByteN l D k v (by omega)) (va_cwS 1 hts (gS w_113 w_114 w_1 w_115) rfl rfl rfl (by decide +kernel) ⟨Nat.le_of_ble_eq_true rfl, Nat.le_of_ble_eq_true rfl⟩) hK va_nil rfl hl.1 rfl (Nat.le_of_ble_eq_true rfl) d_SS_write_8 ⟨Nat.zero_le _, Nat.zero_le _⟩ ?_
    refine lv_if_ne (tgt := 24) hx hb d_SS_write_11 (by decide) (fun c2 => ?_) (fun c2 => ?_)
    · have c2 := mt (bI_0).mpr c2
      have c2 := Classical.not_not.mp c2
      refine lv_aload_n hx hb d_SS_write_24 rfl (lv_at hl 0 rfl) ?_
      refine va_get (D := D) (ci := 0) (v := .ref (q 1)) (C := R_SS) (T := T_SS) (N := 3) hx hb hts in_SS hown hK hP 0 rfl rfl 0 (by decide) (hts _ w_93) (fun _ h9 => h9) rfl d_SS_write_25 ?_
      refine lv_iload_n hx hb d_SS_write_28 rfl (lv_at hl 1 rfl) ?_
      refine lv_iload_n hx hb d_SS_write_29 rfl (lv_at hl 2 rfl) ?_
      have hPc : va_P D vwCl ((slW q k gd wd se pr) ++ plW od k ad bd ed kd nb sh mb) _ := ss_subP (a := [(q 0, .inr (0, [.ref (q 1), .ref (q 7), .ref (q 5)]))]) (b := (slW q k gd wd se pr)) (c := (scW q k ln px cv co B R sx pt rd wt)) hP
      have hDc : va_D A ((slW q k gd wd se pr) ++ plW od k ad bd ed kd nb sh mb) := ss_subD (a := [(q 0, .inr (0, [.ref (q 1), .ref (q 7), .ref (q 5)]))]) (b := (slW q k gd wd se pr)) (c := (scW q k ln px cv co B R sx pt rd wt)) hD
      refine kxw_vV (As := [.int (nI a), .int (nI v)]) (rest := []) ⟨hx, hb, hml, hown, hts⟩ (c_SL_storeS l D k q gd wd se pr od ad bd ed kd nb sh mb hwd hse (by omega) hO hkd hmb a v (by omega) (by omega) h1) (cwV 2 hts (gV w_498 w_499 w_500 w_2 w_501) rfl rfl rfl (by decide +kernel) ⟨Nat.le_of_ble_eq_true rfl, Nat.le_of_ble_eq_true rfl⟩) hK hX hPc hDc hS hA (va_recv hK hP (ci := 1) (q0 := 1) rfl rfl) rfl hl.1 rfl (Nat.le_of_ble_eq_true rfl) d_SS_write_30 ⟨Nat.zero_le _, Nat.zero_le _⟩ (fun _ H9 locs _ hP1 hk1 hS9 => ?_)
      have hP : va_P D vwCl (ssW q k gd wd (ss_up se (msl pr a) v) pr ln px cv co B R sx pt rd wt ++ plW od k ad bd ed kd nb sh mb) H9 := ss_fr (a := [(q 0, .inr (0, [.ref (q 1), .ref (q 7), .ref (q 5)]))]) (b := (slW q k gd wd se pr)) (c := (scW q k ln px cv co B R sx pt rd wt)) (b' := (slW q k gd wd (ss_up se (msl pr a) v) pr)) hP hD hk1 hP1
      have hD : va_D A (ssW q k gd wd (ss_up se (msl pr a) v) pr ln px cv co B R sx pt rd wt ++ plW od k ad bd ed kd nb sh mb) := rw_same hD (ss_ad rfl _ _ _ _ _ _ _ _ _ _ _)
      have hS := hS9
      generalize H9 = H at hP hS ⊢
      exact rw_retv hx hb hr hlocks d_SS_write_33 hS () (trivial) hP
    · have c2 := (bI_0).mp c2
      exfalso; omega
set_option maxHeartbeats 4000000 in
set_option maxRecDepth 100000 in
theorem c_SS_write1 (l : Launch) (D : va_G) (k : Nat → ClassId) (q : Nat → Nat) (gd : Nat → Option Nat) (wd : Nat → Nat) (se : Nat → Nat) (pr : Nat) (ln : Nat) (px : Nat → Nat) (cv : Nat) (co : Nat) (B : Nat → Nat) (R : Nat → Nat) (sx : Nat) (pt : Nat) (rd : Nat) (wt : Int32) (od : List Nat) (ad bd ed kd nb sh mb : Nat → Nat) (hwd : ∀ j, wd j < 2) (hse : ∀ j, se j < 256) (hpr : pr < 256) (hO : plO od gd ad kd nb sh) (hkd : ∀ j, kd j < 5) (hmb : ∀ j, mb j < 256) (a v : Nat) (ha : a < 256) (hv : v < 256) (h1 : ¬ (a = 255 ∧ wd (msl pr a) = 1)) (hk : kd (4 * msl pr a + mpg wd se (msl pr a) a) = 1) : xw_v l y_SS_write b_SS_write 3 none { frames := 3, cells := 0, slots := 0, locals := 86 } D (kT k) (ssW q k gd wd se pr ln px cv co B R sx pt rd wt ++ plW od k ad bd ed kd nb sh mb) [.ref (q 0), .int (nI a), .int (nI v)] (fun (_ : Unit) => True) (fun (_ : Unit) => (ssW q k gd wd se pr ln px cv co B R sx pt rd wt ++ plW od k ad bd ed kd nb sh (ss_up mb (256 * (4 * msl pr a + mpg wd se (msl pr a) a) + a) v))) := by
  refine xw_headv (by decide) (Nat.le_of_ble_eq_true rfl) ?_
  intro p e s m below meth c ls A hx hb hr hlocks hml hown hts hX hK hA hP hD hS hl
  have hown : s.vm.findClass "SlotScreen" = some m.cls := hown
  have hl : lv_has ls 3 [(0, .ref (q 0)), (1, .int (nI a)), (2, .int (nI v))] := hl
  refine lv_iload_n hx hb d_SS_write_0 rfl (lv_at hl 1 rfl) ?_
  refine kr_iS (As := [.int (nI a)]) (rest := []) ⟨hx, hb, hml, hown, hts⟩ (c_SS_isAddressN l D k a (by omega)) (va_cwS 1 hts (gS w_454 w_131 w_1 w_132) rfl rfl rfl (by decide +kernel) ⟨Nat.le_of_ble_eq_true rfl, Nat.le_of_ble_eq_true rfl⟩) hK va_nil rfl hl.1 rfl (Nat.le_of_ble_eq_true rfl) d_SS_write_1 ⟨Nat.zero_le _, Nat.zero_le _⟩ ?_
  refine lv_if_eq (tgt := 14) hx hb d_SS_write_4 (by decide) (fun c1 => ?_) (fun c1 => ?_)
  · have c1 := (bI_0).mp c1
    exfalso; omega
  · have c1 := mt (bI_0).mpr c1
    have c1 := Classical.not_not.mp c1
    refine lv_iload_n hx hb d_SS_write_7 rfl (lv_at hl 2 rfl) ?_
    refine kr_iS (As := [.int (nI v)]) (rest := []) ⟨hx, hb, hml, hown, hts⟩ (c_SS_isByteN l D k v (by omega)) (va_cwS 1 hts (gS w_113 w_114 w_1 w_115) rfl rfl rfl (by decide +kernel) ⟨Nat.le_of_ble_eq_true rfl, Nat.le_of_ble_eq_true rfl⟩) hK va_nil rfl hl.1 rfl (Nat.le_of_ble_eq_true rfl) d_SS_write_8 ⟨Nat.zero_le _, Nat.zero_le _⟩ ?_
    refine lv_if_ne (tgt := 24) hx hb d_SS_write_11 (by decide) (fun c2 => ?_) (fun c2 => ?_)
    · have c2 := mt (bI_0).mpr c2
      have c2 := Classical.not_not.mp c2
      refine lv_aload_n hx hb d_SS_write_24 rfl (lv_at hl 0 rfl) ?_
      refine va_get (D := D) (ci := 0) (v := .ref (q 1)) (C := R_SS) (T := T_SS) (N := 3) hx hb hts in_SS hown hK hP 0 rfl rfl 0 (by decide) (hts _ w_93) (fun _ h9 => h9) rfl d_SS_write_25 ?_
      refine lv_iload_n hx hb d_SS_write_28 rfl (lv_at hl 1 rfl) ?_
      refine lv_iload_n hx hb d_SS_write_29 rfl (lv_at hl 2 rfl) ?_
      have hPc : va_P D vwCl ((slW q k gd wd se pr) ++ plW od k ad bd ed kd nb sh mb) _ := ss_subP (a := [(q 0, .inr (0, [.ref (q 1), .ref (q 7), .ref (q 5)]))]) (b := (slW q k gd wd se pr)) (c := (scW q k ln px cv co B R sx pt rd wt)) hP
      have hDc : va_D A ((slW q k gd wd se pr) ++ plW od k ad bd ed kd nb sh mb) := ss_subD (a := [(q 0, .inr (0, [.ref (q 1), .ref (q 7), .ref (q 5)]))]) (b := (slW q k gd wd se pr)) (c := (scW q k ln px cv co B R sx pt rd wt)) hD
      refine kxw_vV (As := [.int (nI a), .int (nI v)]) (rest := []) ⟨hx, hb, hml, hown, hts⟩ (c_SL_store1 l D k q gd wd se pr od ad bd ed kd nb sh mb hwd hse (by omega) hO hkd hmb a v (by omega) (by omega) h1 hk) (cwV 2 hts (gV w_498 w_499 w_500 w_2 w_501) rfl rfl rfl (by decide +kernel) ⟨Nat.le_of_ble_eq_true rfl, Nat.le_of_ble_eq_true rfl⟩) hK hX hPc hDc hS hA (va_recv hK hP (ci := 1) (q0 := 1) rfl rfl) rfl hl.1 rfl (Nat.le_of_ble_eq_true rfl) d_SS_write_30 ⟨Nat.zero_le _, Nat.zero_le _⟩ (fun _ H9 locs _ hP1 hk1 hS9 => ?_)
      have hP : va_P D vwCl (ssW q k gd wd se pr ln px cv co B R sx pt rd wt ++ plW od k ad bd ed kd nb sh (ss_up mb (256 * (4 * msl pr a + mpg wd se (msl pr a) a) + a) v)) H9 := ss_fr (a := [(q 0, .inr (0, [.ref (q 1), .ref (q 7), .ref (q 5)]))]) (b := (slW q k gd wd se pr)) (c := (scW q k ln px cv co B R sx pt rd wt)) (b' := (slW q k gd wd se pr)) hP hD hk1 hP1
      have hD : va_D A (ssW q k gd wd se pr ln px cv co B R sx pt rd wt ++ plW od k ad bd ed kd nb sh (ss_up mb (256 * (4 * msl pr a + mpg wd se (msl pr a) a) + a) v)) := rw_same hD (ss_ad rfl _ _ _ _ _ _ _ _ _ _ _)
      have hS := hS9
      generalize H9 = H at hP hS ⊢
      exact rw_retv hx hb hr hlocks d_SS_write_33 hS () (trivial) hP
    · have c2 := (bI_0).mp c2
      exfalso; omega
set_option maxHeartbeats 4000000 in
set_option maxRecDepth 100000 in
theorem c_SS_write4 (l : Launch) (D : va_G) (k : Nat → ClassId) (q : Nat → Nat) (gd : Nat → Option Nat) (wd : Nat → Nat) (se : Nat → Nat) (pr : Nat) (ln : Nat) (px : Nat → Nat) (cv : Nat) (co : Nat) (B : Nat → Nat) (R : Nat → Nat) (sx : Nat) (pt : Nat) (rd : Nat) (wt : Int32) (od : List Nat) (ad bd ed kd nb sh mb : Nat → Nat) (hwd : ∀ j, wd j < 2) (hse : ∀ j, se j < 256) (hpr : pr < 256) (hO : plO od gd ad kd nb sh) (hkd : ∀ j, kd j < 5) (hmb : ∀ j, mb j < 256) (a v : Nat) (ha : a < 256) (hv : v < 256) (h1 : ¬ (a = 255 ∧ wd (msl pr a) = 1)) (hk : kd (4 * msl pr a + mpg wd se (msl pr a) a) = 4) : xw_v l y_SS_write b_SS_write 3 none { frames := 3, cells := 0, slots := 0, locals := 86 } D (kT k) (ssW q k gd wd se pr ln px cv co B R sx pt rd wt ++ plW od k ad bd ed kd nb sh mb) [.ref (q 0), .int (nI a), .int (nI v)] (fun (_ : Unit) => True) (fun (_ : Unit) => (ssW q k gd wd se pr ln px cv co B R sx pt rd wt ++ plW od k ad bd ed kd nb sh (ss_up mb (256 * (4 * msl pr a + mpg wd se (msl pr a) a) + a % 64) v))) := by
  refine xw_headv (by decide) (Nat.le_of_ble_eq_true rfl) ?_
  intro p e s m below meth c ls A hx hb hr hlocks hml hown hts hX hK hA hP hD hS hl
  have hown : s.vm.findClass "SlotScreen" = some m.cls := hown
  have hl : lv_has ls 3 [(0, .ref (q 0)), (1, .int (nI a)), (2, .int (nI v))] := hl
  refine lv_iload_n hx hb d_SS_write_0 rfl (lv_at hl 1 rfl) ?_
  refine kr_iS (As := [.int (nI a)]) (rest := []) ⟨hx, hb, hml, hown, hts⟩ (c_SS_isAddressN l D k a (by omega)) (va_cwS 1 hts (gS w_454 w_131 w_1 w_132) rfl rfl rfl (by decide +kernel) ⟨Nat.le_of_ble_eq_true rfl, Nat.le_of_ble_eq_true rfl⟩) hK va_nil rfl hl.1 rfl (Nat.le_of_ble_eq_true rfl) d_SS_write_1 ⟨Nat.zero_le _, Nat.zero_le _⟩ ?_
  refine lv_if_eq (tgt := 14) hx hb d_SS_write_4 (by decide) (fun c1 => ?_) (fun c1 => ?_)
  · have c1 := (bI_0).mp c1
    exfalso; omega
  · have c1 := mt (bI_0).mpr c1
    have c1 := Classical.not_not.mp c1
    refine lv_iload_n hx hb d_SS_write_7 rfl (lv_at hl 2 rfl) ?_
    refine kr_iS (As := [.int (nI v)]) (rest := []) ⟨hx, hb, hml, hown, hts⟩ (c_SS_isByteN l D k v (by omega)) (va_cwS 1 hts (gS w_113 w_114 w_1 w_115) rfl rfl rfl (by decide +kernel) ⟨Nat.le_of_ble_eq_true rfl, Nat.le_of_ble_eq_true rfl⟩) hK va_nil rfl hl.1 rfl (Nat.le_of_ble_eq_true rfl) d_SS_write_8 ⟨Nat.zero_le _, Nat.zero_le _⟩ ?_
    refine lv_if_ne (tgt := 24) hx hb d_SS_write_11 (by decide) (fun c2 => ?_) (fun c2 => ?_)
    · have c2 := mt (bI_0).mpr c2
      have c2 := Classical.not_not.mp c2
      refine lv_aload_n hx hb d_SS_write_24 rfl (lv_at hl 0 rfl) ?_
      refine va_get (D := D) (ci := 0) (v := .ref (q 1)) (C := R_SS) (T := T_SS) (N := 3) hx hb hts in_SS hown hK hP 0 rfl rfl 0 (by decide) (hts _ w_93) (fun _ h9 => h9) rfl d_SS_write_25 ?_
      refine lv_iload_n hx hb d_SS_write_28 rfl (lv_at hl 1 rfl) ?_
      refine lv_iload_n hx hb d_SS_write_29 rfl (lv_at hl 2 rfl) ?_
      have hPc : va_P D vwCl ((slW q k gd wd se pr) ++ plW od k ad bd ed kd nb sh mb) _ := ss_subP (a := [(q 0, .inr (0, [.ref (q 1), .ref (q 7), .ref (q 5)]))]) (b := (slW q k gd wd se pr)) (c := (scW q k ln px cv co B R sx pt rd wt)) hP
      have hDc : va_D A ((slW q k gd wd se pr) ++ plW od k ad bd ed kd nb sh mb) := ss_subD (a := [(q 0, .inr (0, [.ref (q 1), .ref (q 7), .ref (q 5)]))]) (b := (slW q k gd wd se pr)) (c := (scW q k ln px cv co B R sx pt rd wt)) hD
      refine kxw_vV (As := [.int (nI a), .int (nI v)]) (rest := []) ⟨hx, hb, hml, hown, hts⟩ (c_SL_store4 l D k q gd wd se pr od ad bd ed kd nb sh mb hwd hse (by omega) hO hkd hmb a v (by omega) (by omega) h1 hk) (cwV 2 hts (gV w_498 w_499 w_500 w_2 w_501) rfl rfl rfl (by decide +kernel) ⟨Nat.le_of_ble_eq_true rfl, Nat.le_of_ble_eq_true rfl⟩) hK hX hPc hDc hS hA (va_recv hK hP (ci := 1) (q0 := 1) rfl rfl) rfl hl.1 rfl (Nat.le_of_ble_eq_true rfl) d_SS_write_30 ⟨Nat.zero_le _, Nat.zero_le _⟩ (fun _ H9 locs _ hP1 hk1 hS9 => ?_)
      have hP : va_P D vwCl (ssW q k gd wd se pr ln px cv co B R sx pt rd wt ++ plW od k ad bd ed kd nb sh (ss_up mb (256 * (4 * msl pr a + mpg wd se (msl pr a) a) + a % 64) v)) H9 := ss_fr (a := [(q 0, .inr (0, [.ref (q 1), .ref (q 7), .ref (q 5)]))]) (b := (slW q k gd wd se pr)) (c := (scW q k ln px cv co B R sx pt rd wt)) (b' := (slW q k gd wd se pr)) hP hD hk1 hP1
      have hD : va_D A (ssW q k gd wd se pr ln px cv co B R sx pt rd wt ++ plW od k ad bd ed kd nb sh (ss_up mb (256 * (4 * msl pr a + mpg wd se (msl pr a) a) + a % 64) v)) := rw_same hD (ss_ad rfl _ _ _ _ _ _ _ _ _ _ _)
      have hS := hS9
      generalize H9 = H at hP hS ⊢
      exact rw_retv hx hb hr hlocks d_SS_write_33 hS () (trivial) hP
    · have c2 := (bI_0).mp c2
      exfalso; omega
set_option maxHeartbeats 4000000 in
set_option maxRecDepth 100000 in
theorem c_SS_write3 (l : Launch) (D : va_G) (k : Nat → ClassId) (q : Nat → Nat) (gd : Nat → Option Nat) (wd : Nat → Nat) (se : Nat → Nat) (pr : Nat) (ln : Nat) (px : Nat → Nat) (cv : Nat) (co : Nat) (B : Nat → Nat) (R : Nat → Nat) (sx : Nat) (pt : Nat) (rd : Nat) (wt : Int32) (od : List Nat) (ad bd ed kd nb sh mb : Nat → Nat) (hwd : ∀ j, wd j < 2) (hse : ∀ j, se j < 256) (hpr : pr < 256) (hO : plO od gd ad kd nb sh) (hkd : ∀ j, kd j < 5) (hmb : ∀ j, mb j < 256) (a v : Nat) (ha : a < 256) (hv : v < 256) (h1 : ¬ (a = 255 ∧ wd (msl pr a) = 1)) (hk : kd (4 * msl pr a + mpg wd se (msl pr a) a) = 3) (h2 : 64 ≤ a ∧ a ≤ 191) : xw_v l y_SS_write b_SS_write 3 none { frames := 3, cells := 0, slots := 0, locals := 86 } D (kT k) (ssW q k gd wd se pr ln px cv co B R sx pt rd wt ++ plW od k ad bd ed kd nb sh mb) [.ref (q 0), .int (nI a), .int (nI v)] (fun (_ : Unit) => True) (fun (_ : Unit) => (ssW q k gd wd se pr ln px cv co B R sx pt rd wt ++ plW od k ad bd ed kd nb (ss_up sh (4 * (4 * msl pr a + mpg wd se (msl pr a) a) + (a - 64) / 32) (v % nb (4 * msl pr a + mpg wd se (msl pr a) a))) mb)) := by
  refine xw_headv (by decide) (Nat.le_of_ble_eq_true rfl) ?_
  intro p e s m below meth c ls A hx hb hr hlocks hml hown hts hX hK hA hP hD hS hl
  have hown : s.vm.findClass "SlotScreen" = some m.cls := hown
  have hl : lv_has ls 3 [(0, .ref (q 0)), (1, .int (nI a)), (2, .int (nI v))] := hl
  refine lv_iload_n hx hb d_SS_write_0 rfl (lv_at hl 1 rfl) ?_
  refine kr_iS (As := [.int (nI a)]) (rest := []) ⟨hx, hb, hml, hown, hts⟩ (c_SS_isAddressN l D k a (by omega)) (va_cwS 1 hts (gS w_454 w_131 w_1 w_132) rfl rfl rfl (by decide +kernel) ⟨Nat.le_of_ble_eq_true rfl, Nat.le_of_ble_eq_true rfl⟩) hK va_nil rfl hl.1 rfl (Nat.le_of_ble_eq_true rfl) d_SS_write_1 ⟨Nat.zero_le _, Nat.zero_le _⟩ ?_
  refine lv_if_eq (tgt := 14) hx hb d_SS_write_4 (by decide) (fun c1 => ?_) (fun c1 => ?_)
  · have c1 := (bI_0).mp c1
    exfalso; omega
  · have c1 := mt (bI_0).mpr c1
    have c1 := Classical.not_not.mp c1
    refine lv_iload_n hx hb d_SS_write_7 rfl (lv_at hl 2 rfl) ?_
    refine kr_iS (As := [.int (nI v)]) (rest := []) ⟨hx, hb, hml, hown, hts⟩ (c_SS_isByteN l D k v (by omega)) (va_cwS 1 hts (gS w_113 w_114 w_1 w_115) rfl rfl rfl (by decide +kernel) ⟨Nat.le_of_ble_eq_true rfl, Nat.le_of_ble_eq_true rfl⟩) hK va_nil rfl hl.1 rfl (Nat.le_of_ble_eq_true rfl) d_SS_write_8 ⟨Nat.zero_le _, Nat.zero_le _⟩ ?_
    refine lv_if_ne (tgt := 24) hx hb d_SS_write_11 (by decide) (fun c2 => ?_) (fun c2 => ?_)
    · have c2 := mt (bI_0).mpr c2
      have c2 := Classical.not_not.mp c2
      refine lv_aload_n hx hb d_SS_write_24 rfl (lv_at hl 0 rfl) ?_
      refine va_get (D := D) (ci := 0) (v := .ref (q 1)) (C := R_SS) (T := T_SS) (N := 3) hx hb hts in_SS hown hK hP 0 rfl rfl 0 (by decide) (hts _ w_93) (fun _ h9 => h9) rfl d_SS_write_25 ?_
      refine lv_iload_n hx hb d_SS_write_28 rfl (lv_at hl 1 rfl) ?_
      refine lv_iload_n hx hb d_SS_write_29 rfl (lv_at hl 2 rfl) ?_
      have hPc : va_P D vwCl ((slW q k gd wd se pr) ++ plW od k ad bd ed kd nb sh mb) _ := ss_subP (a := [(q 0, .inr (0, [.ref (q 1), .ref (q 7), .ref (q 5)]))]) (b := (slW q k gd wd se pr)) (c := (scW q k ln px cv co B R sx pt rd wt)) hP
      have hDc : va_D A ((slW q k gd wd se pr) ++ plW od k ad bd ed kd nb sh mb) := ss_subD (a := [(q 0, .inr (0, [.ref (q 1), .ref (q 7), .ref (q 5)]))]) (b := (slW q k gd wd se pr)) (c := (scW q k ln px cv co B R sx pt rd wt)) hD
      refine kxw_vV (As := [.int (nI a), .int (nI v)]) (rest := []) ⟨hx, hb, hml, hown, hts⟩ (c_SL_store3 l D k q gd wd se pr od ad bd ed kd nb sh mb hwd hse (by omega) hO hkd hmb a v (by omega) (by omega) h1 hk h2) (cwV 2 hts (gV w_498 w_499 w_500 w_2 w_501) rfl rfl rfl (by decide +kernel) ⟨Nat.le_of_ble_eq_true rfl, Nat.le_of_ble_eq_true rfl⟩) hK hX hPc hDc hS hA (va_recv hK hP (ci := 1) (q0 := 1) rfl rfl) rfl hl.1 rfl (Nat.le_of_ble_eq_true rfl) d_SS_write_30 ⟨Nat.zero_le _, Nat.zero_le _⟩ (fun _ H9 locs _ hP1 hk1 hS9 => ?_)
      have hP : va_P D vwCl (ssW q k gd wd se pr ln px cv co B R sx pt rd wt ++ plW od k ad bd ed kd nb (ss_up sh (4 * (4 * msl pr a + mpg wd se (msl pr a) a) + (a - 64) / 32) (v % nb (4 * msl pr a + mpg wd se (msl pr a) a))) mb) H9 := ss_fr (a := [(q 0, .inr (0, [.ref (q 1), .ref (q 7), .ref (q 5)]))]) (b := (slW q k gd wd se pr)) (c := (scW q k ln px cv co B R sx pt rd wt)) (b' := (slW q k gd wd se pr)) hP hD hk1 hP1
      have hD : va_D A (ssW q k gd wd se pr ln px cv co B R sx pt rd wt ++ plW od k ad bd ed kd nb (ss_up sh (4 * (4 * msl pr a + mpg wd se (msl pr a) a) + (a - 64) / 32) (v % nb (4 * msl pr a + mpg wd se (msl pr a) a))) mb) := rw_same hD (ss_ad rfl _ _ _ _ _ _ _ _ _ _ _)
      have hS := hS9
      generalize H9 = H at hP hS ⊢
      exact rw_retv hx hb hr hlocks d_SS_write_33 hS () (trivial) hP
    · have c2 := (bI_0).mp c2
      exfalso; omega
set_option maxHeartbeats 4000000 in
set_option maxRecDepth 100000 in
theorem c_SS_writeo (l : Launch) (D : va_G) (k : Nat → ClassId) (q : Nat → Nat) (gd : Nat → Option Nat) (wd : Nat → Nat) (se : Nat → Nat) (pr : Nat) (ln : Nat) (px : Nat → Nat) (cv : Nat) (co : Nat) (B : Nat → Nat) (R : Nat → Nat) (sx : Nat) (pt : Nat) (rd : Nat) (wt : Int32) (od : List Nat) (ad bd ed kd nb sh mb : Nat → Nat) (hwd : ∀ j, wd j < 2) (hse : ∀ j, se j < 256) (hpr : pr < 256) (hO : plO od gd ad kd nb sh) (hkd : ∀ j, kd j < 5) (hmb : ∀ j, mb j < 256) (a v : Nat) (ha : a < 256) (hv : v < 256) (h1 : ¬ (a = 255 ∧ wd (msl pr a) = 1)) (hk : kd (4 * msl pr a + mpg wd se (msl pr a) a) = 0 ∨ kd (4 * msl pr a + mpg wd se (msl pr a) a) = 2 ∨ (kd (4 * msl pr a + mpg wd se (msl pr a) a) = 3 ∧ ¬ (64 ≤ a ∧ a ≤ 191))) : xw_v l y_SS_write b_SS_write 3 none { frames := 3, cells := 0, slots := 0, locals := 86 } D (kT k) (ssW q k gd wd se pr ln px cv co B R sx pt rd wt ++ plW od k ad bd ed kd nb sh mb) [.ref (q 0), .int (nI a), .int (nI v)] (fun (_ : Unit) => True) (fun (_ : Unit) => (ssW q k gd wd se pr ln px cv co B R sx pt rd wt ++ plW od k ad bd ed kd nb sh mb)) := by
  refine xw_headv (by decide) (Nat.le_of_ble_eq_true rfl) ?_
  intro p e s m below meth c ls A hx hb hr hlocks hml hown hts hX hK hA hP hD hS hl
  have hown : s.vm.findClass "SlotScreen" = some m.cls := hown
  have hl : lv_has ls 3 [(0, .ref (q 0)), (1, .int (nI a)), (2, .int (nI v))] := hl
  refine lv_iload_n hx hb d_SS_write_0 rfl (lv_at hl 1 rfl) ?_
  refine kr_iS (As := [.int (nI a)]) (rest := []) ⟨hx, hb, hml, hown, hts⟩ (c_SS_isAddressN l D k a (by omega)) (va_cwS 1 hts (gS w_454 w_131 w_1 w_132) rfl rfl rfl (by decide +kernel) ⟨Nat.le_of_ble_eq_true rfl, Nat.le_of_ble_eq_true rfl⟩) hK va_nil rfl hl.1 rfl (Nat.le_of_ble_eq_true rfl) d_SS_write_1 ⟨Nat.zero_le _, Nat.zero_le _⟩ ?_
  refine lv_if_eq (tgt := 14) hx hb d_SS_write_4 (by decide) (fun c1 => ?_) (fun c1 => ?_)
  · have c1 := (bI_0).mp c1
    exfalso; omega
  · have c1 := mt (bI_0).mpr c1
    have c1 := Classical.not_not.mp c1
    refine lv_iload_n hx hb d_SS_write_7 rfl (lv_at hl 2 rfl) ?_
    refine kr_iS (As := [.int (nI v)]) (rest := []) ⟨hx, hb, hml, hown, hts⟩ (c_SS_isByteN l D k v (by omega)) (va_cwS 1 hts (gS w_113 w_114 w_1 w_115) rfl rfl rfl (by decide +kernel) ⟨Nat.le_of_ble_eq_true rfl, Nat.le_of_ble_eq_true rfl⟩) hK va_nil rfl hl.1 rfl (Nat.le_of_ble_eq_true rfl) d_SS_write_8 ⟨Nat.zero_le _, Nat.zero_le _⟩ ?_
    refine lv_if_ne (tgt := 24) hx hb d_SS_write_11 (by decide) (fun c2 => ?_) (fun c2 => ?_)
    · have c2 := mt (bI_0).mpr c2
      have c2 := Classical.not_not.mp c2
      refine lv_aload_n hx hb d_SS_write_24 rfl (lv_at hl 0 rfl) ?_
      refine va_get (D := D) (ci := 0) (v := .ref (q 1)) (C := R_SS) (T := T_SS) (N := 3) hx hb hts in_SS hown hK hP 0 rfl rfl 0 (by decide) (hts _ w_93) (fun _ h9 => h9) rfl d_SS_write_25 ?_
      refine lv_iload_n hx hb d_SS_write_28 rfl (lv_at hl 1 rfl) ?_
      refine lv_iload_n hx hb d_SS_write_29 rfl (lv_at hl 2 rfl) ?_
      have hPc : va_P D vwCl ((slW q k gd wd se pr) ++ plW od k ad bd ed kd nb sh mb) _ := ss_subP (a := [(q 0, .inr (0, [.ref (q 1), .ref (q 7), .ref (q 5)]))]) (b := (slW q k gd wd se pr)) (c := (scW q k ln px cv co B R sx pt rd wt)) hP
      have hDc : va_D A ((slW q k gd wd se pr) ++ plW od k ad bd ed kd nb sh mb) := ss_subD (a := [(q 0, .inr (0, [.ref (q 1), .ref (q 7), .ref (q 5)]))]) (b := (slW q k gd wd se pr)) (c := (scW q k ln px cv co B R sx pt rd wt)) hD
      refine kxw_vV (As := [.int (nI a), .int (nI v)]) (rest := []) ⟨hx, hb, hml, hown, hts⟩ (c_SL_storeo l D k q gd wd se pr od ad bd ed kd nb sh mb hwd hse (by omega) hO hkd hmb a v (by omega) (by omega) h1 hk) (cwV 2 hts (gV w_498 w_499 w_500 w_2 w_501) rfl rfl rfl (by decide +kernel) ⟨Nat.le_of_ble_eq_true rfl, Nat.le_of_ble_eq_true rfl⟩) hK hX hPc hDc hS hA (va_recv hK hP (ci := 1) (q0 := 1) rfl rfl) rfl hl.1 rfl (Nat.le_of_ble_eq_true rfl) d_SS_write_30 ⟨Nat.zero_le _, Nat.zero_le _⟩ (fun _ H9 locs _ hP1 hk1 hS9 => ?_)
      have hP : va_P D vwCl (ssW q k gd wd se pr ln px cv co B R sx pt rd wt ++ plW od k ad bd ed kd nb sh mb) H9 := ss_fr (a := [(q 0, .inr (0, [.ref (q 1), .ref (q 7), .ref (q 5)]))]) (b := (slW q k gd wd se pr)) (c := (scW q k ln px cv co B R sx pt rd wt)) (b' := (slW q k gd wd se pr)) hP hD hk1 hP1
      have hD : va_D A (ssW q k gd wd se pr ln px cv co B R sx pt rd wt ++ plW od k ad bd ed kd nb sh mb) := rw_same hD (ss_ad rfl _ _ _ _ _ _ _ _ _ _ _)
      have hS := hS9
      generalize H9 = H at hP hS ⊢
      exact rw_retv hx hb hr hlocks d_SS_write_33 hS () (trivial) hP
    · have c2 := (bI_0).mp c2
      exfalso; omega
