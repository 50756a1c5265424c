def ssW (q : Nat → Nat) (k : Nat → ClassId) (gd : Nat → Option Nat) (wd : Nat → Nat) (se : Nat → Nat) (pr : Nat) (ln : Nat) (px : Nat → Nat) (cv : Nat) (co : Nat) (B : Nat → Nat) (R : Nat → Nat) (sx : Nat) (pt : Nat) (rd : Nat) (wt : Int32) : va_W := [(q 0, .inr (0, [.ref (q 1), .ref (q 7), .ref (q 5)])), (q 1, .inr (1, [.ref (q 2), .ref (q 3), .ref (q 4), .int (nI pr)])), (q 2, .inl (k 2, 16, .inr (.inr (.inr (.inr gd))))), (q 3, .inl (k 1, 4, .inl (fun j => nI (wd j)))), (q 4, .inl (k 0, 4, .inl (fun j => nI (se j)))), (q 5, .inr (3, [.ref (q 7), .ref (q 6), .int (nI ln), .long (lN cv), .long (lN co)])), (q 6, .inl (k 0, 2048, .inl (fun j => nI (px j)))), (q 7, .inr (2, [.ref (q 8), .ref (q 9), .int (nI sx), .int (nI pt), .int (nI rd), .int wt])), (q 8, .inl (k 0, 512, .inl (fun j => nI (B j)))), (q 9, .inl (k 0, 8, .inl (fun j => nI (R j))))]
set_option maxHeartbeats 4000000 in
set_option maxRecDepth 100000 in
theorem c_SS_in0 (l : Launch) (D : va_G) (k : Nat → ClassId) (q : Nat → Nat) (gd : Nat → Option Nat) (wd : Nat → Nat) (se : Nat → Nat) (pr : Nat) (ln : Nat) (px : Nat → Nat) (cv : Nat) (co : Nat) (B : Nat → Nat) (R : Nat → Nat) (sx : Nat) (pt : Nat) (rd : Nat) (wt : Int32) (hpt : pt < 512) : rw_i l y_SS_in b_SS_in 2 (some .int) { frames := 2, cells := 0, slots := 0, locals := 41 } D (kT k) (ssW q k gd wd se pr ln px cv co B R sx pt rd wt) [.ref (q 0), .int (nI 0)] (fun (r : Int32) (_ : Unit) => r = nI rd) (fun (_ : Unit) => (ssW q k gd wd se pr ln px cv co B R sx ((pt + 1) % 512) (B pt) (-1))) := by
  refine rw_headi (by decide) (Nat.le_of_ble_eq_true rfl) ?_
  intro p e s m below meth c ls A hx hb hr hlocks hml hown hts hK hA hP hD hS hl
  have hown : s.vm.findClass "SlotScreen" = some m.cls := hown
  have hl : lv_has ls 2 [(0, .ref (q 0)), (1, .int (nI 0))] := hl
  refine lv_iload_n hx hb d_SS_in_0 rfl (lv_at hl 1 rfl) ?_
  have t9 : (nI 0).toInt = ((0 : Nat) : Int) := nI_toInt (by omega)
  by_cases c2 : 0 = 0
  · refine lv_tableIn (off := 27) (tgt := 28) hx hb d_SS_in_1 (by rw [t9]; omega) (by rw [t9]; omega) (by rw [t9, show ((0 : Nat) : Int) = 0 from (by omega)]; decide) (by decide) ?_
    refine lv_aload_n hx hb d_SS_in_28 rfl (lv_at hl 0 rfl) ?_
    refine va_get (D := D) (ci := 0) (v := .ref (q 7)) (C := R_SS) (T := T_SS) (N := 3) hx hb hts in_SS hown hK hP 0 rfl rfl 1 (by decide) (hts _ w_94) (fun _ h9 => h9) rfl d_SS_in_29 ?_
    have hPc := hP.sub (ws' := (chW q k B R sx pt rd wt)) [7, 8, 9] rfl
    have hDc := hD.sub (ws' := (chW q k B R sx pt rd wt)) [7, 8, 9] (by decide) rfl
    have hFc := rw_S hDc hS hA
    refine kw_iV (As := []) (rest := []) ⟨hx, hb, hml, hown, hts⟩ (c_CH_takeData l D k q B R sx pt rd wt (by omega)) (cwV 0 hts (gV w_138 w_139 w_140 w_3 w_141) rfl rfl rfl (by decide +kernel) ⟨Nat.le_of_ble_eq_true rfl, Nat.le_of_ble_eq_true rfl⟩) hK hPc hDc hS hA (va_recv hK hP (ci := 2) (q0 := 7) rfl rfl) rfl hl.1 rfl (Nat.le_of_ble_eq_true rfl) d_SS_in_32 ⟨Nat.zero_le _, Nat.zero_le _⟩ (fun _ u9 H9 locs h9 hP1 hk1 hS9 => ?_)
    subst h9
    obtain ⟨hP, hD⟩ := rw_join (w := (chW q k B R sx pt rd wt)) (w' := (chW q k B R sx ((pt + 1) % 512) (B pt) (-1))) (wr := [(q 0, .inr (0, [.ref (q 1), .ref (q 7), .ref (q 5)])), (q 1, .inr (1, [.ref (q 2), .ref (q 3), .ref (q 4), .int (nI pr)])), (q 2, .inl (k 2, 16, .inr (.inr (.inr (.inr gd))))), (q 3, .inl (k 1, 4, .inl (fun j => nI (wd j)))), (q 4, .inl (k 0, 4, .inl (fun j => nI (se j)))), (q 5, .inr (3, [.ref (q 7), .ref (q 6), .int (nI ln), .long (lN cv), .long (lN co)])), (q 6, .inl (k 0, 2048, .inl (fun j => nI (px j))))]) hP hD [7, 8, 9] [0, 1, 2, 3, 4, 5, 6] rfl rfl (by decide) (by decide) (by decide) hk1 hFc hP1 rfl
    have hS := hS9
    clear hS9 hP1 hk1 hFc hPc hDc
    generalize H9 = H at hP hS ⊢
    have hP : va_P D vwCl (ssW q k gd wd se pr ln px cv co B R sx ((pt + 1) % 512) (B pt) (-1)) H := hP.sub [0, 1, 2, 3, 4, 5, 6, 7, 8, 9] rfl
    have hD : va_D A (ssW q k gd wd se pr ln px cv co B R sx ((pt + 1) % 512) (B pt) (-1)) := hD.sub [0, 1, 2, 3, 4, 5, 6, 7, 8, 9] (by decide) rfl
    exact rw_reti hx hb hr hlocks d_SS_in_35 hS () (rfl) hP
  exfalso; omega
set_option maxHeartbeats 4000000 in
set_option maxRecDepth 100000 in
theorem c_SS_in1 (l : Launch) (D : va_G) (k : Nat → ClassId) (q : Nat → Nat) (gd : Nat → Option Nat) (wd : Nat → Nat) (se : Nat → Nat) (pr : Nat) (ln : Nat) (px : Nat → Nat) (cv : Nat) (co : Nat) (B : Nat → Nat) (R : Nat → Nat) (sx : Nat) (pt : Nat) (rd : Nat) (wt : Int32) (hsx : sx < 256) : rw_i l y_SS_in b_SS_in 2 (some .int) { frames := 2, cells := 0, slots := 0, locals := 41 } D (kT k) (ssW q k gd wd se pr ln px cv co B R sx pt rd wt) [.ref (q 0), .int (nI 1)] (fun (r : Int32) (_ : Unit) => r = nI sx) (fun (_ : Unit) => (ssW q k gd wd se pr ln px cv co B R (sx % 32) pt rd (-1))) := by
  refine rw_headi (by decide) (Nat.le_of_ble_eq_true rfl) ?_
  intro p e s m below meth c ls A hx hb hr hlocks hml hown hts hK hA hP hD hS hl
  have hown : s.vm.findClass "SlotScreen" = some m.cls := hown
  have hl : lv_has ls 2 [(0, .ref (q 0)), (1, .int (nI 1))] := hl
  refine lv_iload_n hx hb d_SS_in_0 rfl (lv_at hl 1 rfl) ?_
  have t9 : (nI 1).toInt = ((1 : Nat) : Int) := nI_toInt (by omega)
  by_cases c2 : 1 = 1
  · refine lv_tableIn (off := 35) (tgt := 36) hx hb d_SS_in_1 (by rw [t9]; omega) (by rw [t9]; omega) (by rw [t9, show ((1 : Nat) : Int) = 1 from (by omega)]; decide) (by decide) ?_
    refine lv_aload_n hx hb d_SS_in_36 rfl (lv_at hl 0 rfl) ?_
    refine va_get (D := D) (ci := 0) (v := .ref (q 7)) (C := R_SS) (T := T_SS) (N := 3) hx hb hts in_SS hown hK hP 0 rfl rfl 1 (by decide) (hts _ w_94) (fun _ h9 => h9) rfl d_SS_in_37 ?_
    have hPc := hP.sub (ws' := (chW q k B R sx pt rd wt)) [7, 8, 9] rfl
    have hDc := hD.sub (ws' := (chW q k B R sx pt rd wt)) [7, 8, 9] (by decide) rfl
    have hFc := rw_S hDc hS hA
    refine kw_iV (As := []) (rest := []) ⟨hx, hb, hml, hown, hts⟩ (c_CH_takeStatus l D k q B R sx pt rd wt (by omega)) (cwV 0 hts (gV w_146 w_147 w_148 w_3 w_149) rfl rfl rfl (by decide +kernel) ⟨Nat.le_of_ble_eq_true rfl, Nat.le_of_ble_eq_true rfl⟩) hK hPc hDc hS hA (va_recv hK hP (ci := 2) (q0 := 7) rfl rfl) rfl hl.1 rfl (Nat.le_of_ble_eq_true rfl) d_SS_in_40 ⟨Nat.zero_le _, Nat.zero_le _⟩ (fun _ u9 H9 locs h9 hP1 hk1 hS9 => ?_)
    subst h9
    obtain ⟨hP, hD⟩ := rw_join (w := (chW q k B R sx pt rd wt)) (w' := (chW q k B R (sx % 32) pt rd (-1))) (wr := [(q 0, .inr (0, [.ref (q 1), .ref (q 7), .ref (q 5)])), (q 1, .inr (1, [.ref (q 2), .ref (q 3), .ref (q 4), .int (nI pr)])), (q 2, .inl (k 2, 16, .inr (.inr (.inr (.inr gd))))), (q 3, .inl (k 1, 4, .inl (fun j => nI (wd j)))), (q 4, .inl (k 0, 4, .inl (fun j => nI (se j)))), (q 5, .inr (3, [.ref (q 7), .ref (q 6), .int (nI ln), .long (lN cv), .long (lN co)])), (q 6, .inl (k 0, 2048, .inl (fun j => nI (px j))))]) hP hD [7, 8, 9] [0, 1, 2, 3, 4, 5, 6] rfl rfl (by decide) (by decide) (by decide) hk1 hFc hP1 rfl
    have hS := hS9
    clear hS9 hP1 hk1 hFc hPc hDc
    generalize H9 = H at hP hS ⊢
    have hP : va_P D vwCl (ssW q k gd wd se pr ln px cv co B R (sx % 32) pt rd (-1)) H := hP.sub [0, 1, 2, 3, 4, 5, 6, 7, 8, 9] rfl
    have hD : va_D A (ssW q k gd wd se pr ln px cv co B R (sx % 32) pt rd (-1)) := hD.sub [0, 1, 2, 3, 4, 5, 6, 7, 8, 9] (by decide) rfl
    exact rw_reti hx hb hr hlocks d_SS_in_43 hS () (rfl) hP
  exfalso; omega
set_option maxHeartbeats 4000000 in
set_option maxRecDepth 100000 in
theorem c_SS_in2 (l : Launch) (D : va_G) (k : Nat → ClassId) (q : Nat → Nat) (gd : Nat → Option Nat) (wd : Nat → Nat) (se : Nat → Nat) (pr : Nat) (ln : Nat) (px : Nat → Nat) (cv : Nat) (co : Nat) (B : Nat → Nat) (R : Nat → Nat) (sx : Nat) (pt : Nat) (rd : Nat) (wt : Int32) : rw_i l y_SS_in b_SS_in 2 (some .int) { frames := 2, cells := 0, slots := 0, locals := 41 } D (kT k) (ssW q k gd wd se pr ln px cv co B R sx pt rd wt) [.ref (q 0), .int (nI 2)] (fun (r : Int32) (_ : Unit) => r = nI pr) (fun (_ : Unit) => (ssW q k gd wd se pr ln px cv co B R sx pt rd wt)) := by
  refine rw_headi (by decide) (Nat.le_of_ble_eq_true rfl) ?_
  intro p e s m below meth c ls A hx hb hr hlocks hml hown hts hK hA hP hD hS hl
  have hown : s.vm.findClass "SlotScreen" = some m.cls := hown
  have hl : lv_has ls 2 [(0, .ref (q 0)), (1, .int (nI 2))] := hl
  refine lv_iload_n hx hb d_SS_in_0 rfl (lv_at hl 1 rfl) ?_
  have t9 : (nI 2).toInt = ((2 : Nat) : Int) := nI_toInt (by omega)
  by_cases c2 : 2 = 2
  · refine lv_tableIn (off := 43) (tgt := 44) hx hb d_SS_in_1 (by rw [t9]; omega) (by rw [t9]; omega) (by rw [t9, show ((2 : Nat) : Int) = 2 from (by omega)]; decide) (by decide) ?_
    refine lv_aload_n hx hb d_SS_in_44 rfl (lv_at hl 0 rfl) ?_
    refine va_get (D := D) (ci := 0) (v := .ref (q 1)) (C := R_SS) (T := T_SS) (N := 3) hx hb hts in_SS hown hK hP 0 rfl rfl 0 (by decide) (hts _ w_93) (fun _ h9 => h9) rfl d_SS_in_45 ?_
    refine kr_iV (As := []) (rest := []) ⟨hx, hb, hml, hown, hts⟩ (c_SL_primary l D k q gd wd se pr) (cwV 0 hts (gV w_150 w_151 w_152 w_2 w_153) rfl rfl rfl (by decide +kernel) ⟨Nat.le_of_ble_eq_true rfl, Nat.le_of_ble_eq_true rfl⟩) hK (hP.sub (ws' := (slW q k gd wd se pr)) [1, 2, 3, 4] rfl) (va_recv hK hP (ci := 1) (q0 := 1) rfl rfl) rfl hl.1 rfl (Nat.le_of_ble_eq_true rfl) d_SS_in_48 ⟨Nat.zero_le _, Nat.zero_le _⟩ ?_
    exact rw_reti hx hb hr hlocks d_SS_in_51 hS () (rfl) hP
  exfalso; omega
set_option maxHeartbeats 4000000 in
set_option maxRecDepth 100000 in
theorem c_SS_ino (l : Launch) (D : va_G) (k : Nat → ClassId) (q : Nat → Nat) (gd : Nat → Option Nat) (wd : Nat → Nat) (se : Nat → Nat) (pr : Nat) (ln : Nat) (px : Nat → Nat) (cv : Nat) (co : Nat) (B : Nat → Nat) (R : Nat → Nat) (sx : Nat) (pt : Nat) (rd : Nat) (wt : Int32) (x : Int32) (hx9 : x.toInt ≠ 0 ∧ x.toInt ≠ 1 ∧ x.toInt ≠ 2) : rw_i l y_SS_in b_SS_in 2 (some .int) { frames := 2, cells := 0, slots := 0, locals := 41 } D (kT k) (ssW q k gd wd se pr ln px cv co B R sx pt rd wt) [.ref (q 0), .int x] (fun (r : Int32) (_ : Unit) => r = nI 255) (fun (_ : Unit) => (ssW q k gd wd se pr ln px cv co B R sx pt rd wt)) := by
  refine rw_headi (by decide) (Nat.le_of_ble_eq_true rfl) ?_
  intro p e s m below meth c ls A hx hb hr hlocks hml hown hts hK hA hP hD hS hl
  have hown : s.vm.findClass "SlotScreen" = some m.cls := hown
  have hl : lv_has ls 2 [(0, .ref (q 0)), (1, .int x)] := hl
  refine lv_iload_n hx hb d_SS_in_0 rfl (lv_at hl 1 rfl) ?_
  have t9 : (x).toInt = (x).toInt := rfl
  refine lv_tableOut (tgt := 52) hx hb d_SS_in_1 (by rw [t9]; omega) (by decide) ?_
  refine lv_sipush (v := nI 255) hx hb d_SS_in_52 (by decide +kernel) ?_
  exact rw_reti hx hb hr hlocks d_SS_in_55 hS () (rfl) hP
set_option maxHeartbeats 4000000 in
set_option maxRecDepth 100000 in
theorem c_SS_outb (l : Launch) (D : va_G) (k : Nat → ClassId) (q : Nat → Nat) (gd : Nat → Option Nat) (wd : Nat → Nat) (se : Nat → Nat) (pr : Nat) (ln : Nat) (px : Nat → Nat) (cv : Nat) (co : Nat) (B : Nat → Nat) (R : Nat → Nat) (sx : Nat) (pt : Nat) (rd : Nat) (wt : Int32) (x v : Int32) (hv : v.toInt < 0 ∨ 255 < v.toInt) : rw_i l y_SS_out b_SS_out 3 (some .boolean) { frames := 2, cells := 0, slots := 0, locals := 42 } D (kT k) (ssW q k gd wd se pr ln px cv co B R sx pt rd wt) [.ref (q 0), .int x, .int v] (fun (r : Int32) (_ : Unit) => r = nI 0) (fun (_ : Unit) => (ssW q k gd wd se pr ln px cv co B R sx pt rd wt)) := by
  refine rw_headi (by decide) (Nat.le_of_ble_eq_true rfl) ?_
  intro p e s m below meth c ls A hx hb hr hlocks hml hown hts hK hA hP hD hS hl
  have hown : s.vm.findClass "SlotScreen" = some m.cls := hown
  have hl : lv_has ls 3 [(0, .ref (q 0)), (1, .int x), (2, .int v)] := hl
  refine lv_iload_n hx hb d_SS_out_0 rfl (lv_at hl 2 rfl) ?_
  refine kr_iS (As := [.int v]) (rest := []) ⟨hx, hb, hml, hown, hts⟩ (c_SS_isByte l D k v) (va_cwS 1 hts (gS w_113 w_114 w_1 w_115) rfl rfl rfl (by decide +kernel) ⟨Nat.le_of_ble_eq_true rfl, Nat.le_of_ble_eq_true rfl⟩) hK va_nil rfl hl.1 rfl (Nat.le_of_ble_eq_true rfl) d_SS_out_1 ⟨Nat.zero_le _, Nat.zero_le _⟩ ?_
  refine lv_if_ne (tgt := 9) hx hb d_SS_out_4 (by decide) (fun c1 => ?_) (fun c1 => ?_)
  · have c1 := mt (bI_0).mpr c1
    have c1 := Classical.not_not.mp c1
    exfalso; omega
  · have c1 := (bI_0).mp c1
    refine lv_iconst (v := nI 0) hx hb d_SS_out_7 (by decide +kernel) ?_
    exact rw_retz hx hb hr hlocks d_SS_out_8 (by decide +kernel) hS () (rfl) hP
set_option maxHeartbeats 4000000 in
set_option maxRecDepth 100000 in
theorem c_SS_outo (l : Launch) (D : va_G) (k : Nat → ClassId) (q : Nat → Nat) (gd : Nat → Option Nat) (wd : Nat → Nat) (se : Nat → Nat) (pr : Nat) (ln : Nat) (px : Nat → Nat) (cv : Nat) (co : Nat) (B : Nat → Nat) (R : Nat → Nat) (sx : Nat) (pt : Nat) (rd : Nat) (wt : Int32) (x : Int32) (v : Nat) (hv : v < 256) (hx9 : x.toInt ≠ 0 ∧ x.toInt ≠ 1 ∧ x.toInt ≠ 2) : rw_i l y_SS_out b_SS_out 3 (some .boolean) { frames := 2, cells := 0, slots := 0, locals := 42 } D (kT k) (ssW q k gd wd se pr ln px cv co B R sx pt rd wt) [.ref (q 0), .int x, .int (nI v)] (fun (r : Int32) (_ : Unit) => r = nI 1) (fun (_ : Unit) => (ssW q k gd wd se pr ln px cv co B R sx pt rd wt)) := by
  refine rw_headi (by decide) (Nat.le_of_ble_eq_true rfl) ?_
  intro p e s m below meth c ls A hx hb hr hlocks hml hown hts hK hA hP hD hS hl
  have hown : s.vm.findClass "SlotScreen" = some m.cls := hown
  have hl : lv_has ls 3 [(0, .ref (q 0)), (1, .int x), (2, .int (nI v))] := hl
  refine lv_iload_n hx hb d_SS_out_0 rfl (lv_at hl 2 rfl) ?_
  refine kr_iS (As := [.int (nI v)]) (rest := []) ⟨hx, hb, hml, hown, hts⟩ (c_SS_isByteN l D k v (by omega)) (va_cwS 1 hts (gS w_113 w_114 w_1 w_115) rfl rfl rfl (by decide +kernel) ⟨Nat.le_of_ble_eq_true rfl, Nat.le_of_ble_eq_true rfl⟩) hK va_nil rfl hl.1 rfl (Nat.le_of_ble_eq_true rfl) d_SS_out_1 ⟨Nat.zero_le _, Nat.zero_le _⟩ ?_
  refine lv_if_ne (tgt := 9) hx hb d_SS_out_4 (by decide) (fun c1 => ?_) (fun c1 => ?_)
  · have c1 := mt (bI_0).mpr c1
    have c1 := Classical.not_not.mp c1
    refine lv_iload_n hx hb d_SS_out_9 rfl (lv_at hl 1 rfl) ?_
    have t9 : (x).toInt = (x).toInt := rfl
    refine lv_tableOut (tgt := 69) hx hb d_SS_out_10 (by rw [t9]; omega) (by decide) ?_
    refine lv_iconst (v := nI 1) hx hb d_SS_out_69 (by decide +kernel) ?_
    exact rw_retz hx hb hr hlocks d_SS_out_70 (by decide +kernel) hS () (rfl) hP
  · have c1 := (bI_0).mp c1
    exfalso; omega
set_option maxHeartbeats 4000000 in
set_option maxRecDepth 100000 in
theorem c_SS_out0 (l : Launch) (D : va_G) (k : Nat → ClassId) (q : Nat → Nat) (gd : Nat → Option Nat) (wd : Nat → Nat) (se : Nat → Nat) (pr : Nat) (ln : Nat) (px : Nat → Nat) (cv : Nat) (co : Nat) (B : Nat → Nat) (R : Nat → Nat) (sx : Nat) (pt : Nat) (rd : Nat) (wt : Int32) (v : Nat) (hv : v < 256) (hpt : pt < 512) : rw_i l y_SS_out b_SS_out 3 (some .boolean) { frames := 2, cells := 0, slots := 0, locals := 42 } D (kT k) (ssW q k gd wd se pr ln px cv co B R sx pt rd wt) [.ref (q 0), .int (nI 0), .int (nI v)] (fun (r : Int32) (_ : Unit) => r = nI 1) (fun (_ : Unit) => (ssW q k gd wd se pr ln px cv co (ss_up B pt v) R sx ((pt + 1) % 512) v (-1))) := by
  refine rw_headi (by decide) (Nat.le_of_ble_eq_true rfl) ?_
  intro p e s m below meth c ls A hx hb hr hlocks hml hown hts hK hA hP hD hS hl
  have hown : s.vm.findClass "SlotScreen" = some m.cls := hown
  have hl : lv_has ls 3 [(0, .ref (q 0)), (1, .int (nI 0)), (2, .int (nI v))] := hl
  refine lv_iload_n hx hb d_SS_out_0 rfl (lv_at hl 2 rfl) ?_
  refine kr_iS (As := [.int (nI v)]) (rest := []) ⟨hx, hb, hml, hown, hts⟩ (c_SS_isByteN l D k v (by omega)) (va_cwS 1 hts (gS w_113 w_114 w_1 w_115) rfl rfl rfl (by decide +kernel) ⟨Nat.le_of_ble_eq_true rfl, Nat.le_of_ble_eq_true rfl⟩) hK va_nil rfl hl.1 rfl (Nat.le_of_ble_eq_true rfl) d_SS_out_1 ⟨Nat.zero_le _, Nat.zero_le _⟩ ?_
  refine lv_if_ne (tgt := 9) hx hb d_SS_out_4 (by decide) (fun c1 => ?_) (fun c1 => ?_)
  · have c1 := mt (bI_0).mpr c1
    have c1 := Classical.not_not.mp c1
    refine lv_iload_n hx hb d_SS_out_9 rfl (lv_at hl 1 rfl) ?_
    have t9 : (nI 0).toInt = ((0 : Nat) : Int) := nI_toInt (by omega)
    by_cases c3 : 0 = 0
    · refine lv_tableIn (off := 26) (tgt := 36) hx hb d_SS_out_10 (by rw [t9]; omega) (by rw [t9]; omega) (by rw [t9, show ((0 : Nat) : Int) = 0 from (by omega)]; decide) (by decide) ?_
      refine lv_aload_n hx hb d_SS_out_36 rfl (lv_at hl 0 rfl) ?_
      refine va_get (D := D) (ci := 0) (v := .ref (q 7)) (C := R_SS) (T := T_SS) (N := 3) hx hb hts in_SS hown hK hP 0 rfl rfl 1 (by decide) (hts _ w_94) (fun _ h9 => h9) rfl d_SS_out_37 ?_
      refine lv_iload_n hx hb d_SS_out_40 rfl (lv_at hl 2 rfl) ?_
      have hPc := hP.sub (ws' := (chW q k B R sx pt rd wt)) [7, 8, 9] rfl
      have hDc := hD.sub (ws' := (chW q k B R sx pt rd wt)) [7, 8, 9] (by decide) rfl
      have hFc := rw_S hDc hS hA
      refine kw_vV (As := [.int (nI v)]) (rest := []) ⟨hx, hb, hml, hown, hts⟩ (c_CH_giveData l D k q B R sx pt rd wt (by omega) v (by omega)) (cwV 1 hts (gV w_158 w_159 w_160 w_3 w_161) rfl rfl rfl (by decide +kernel) ⟨Nat.le_of_ble_eq_true rfl, Nat.le_of_ble_eq_true rfl⟩) hK hPc hDc hS hA (va_recv hK hP (ci := 2) (q0 := 7) rfl rfl) rfl hl.1 rfl (Nat.le_of_ble_eq_true rfl) d_SS_out_41 ⟨Nat.zero_le _, Nat.zero_le _⟩ (fun u9 H9 locs _ hP1 hk1 hS9 => ?_)
      obtain ⟨hP, hD⟩ := rw_join (w := (chW q k B R sx pt rd wt)) (w' := (chW q k (ss_up B pt v) R sx ((pt + 1) % 512) v (-1))) (wr := [(q 0, .inr (0, [.ref (q 1), .ref (q 7), .ref (q 5)])), (q 1, .inr (1, [.ref (q 2), .ref (q 3), .ref (q 4), .int (nI pr)])), (q 2, .inl (k 2, 16, .inr (.inr (.inr (.inr gd))))), (q 3, .inl (k 1, 4, .inl (fun j => nI (wd j)))), (q 4, .inl (k 0, 4, .inl (fun j => nI (se j)))), (q 5, .inr (3, [.ref (q 7), .ref (q 6), .int (nI ln), .long (lN cv), .long (lN co)])), (q 6, .inl (k 0, 2048, .inl (fun j => nI (px j))))]) hP hD [7, 8, 9] [0, 1, 2, 3, 4, 5, 6] rfl rfl (by decide) (by decide) (by decide) hk1 hFc hP1 rfl
      have hS := hS9
      clear hS9 hP1 hk1 hFc hPc hDc
      generalize H9 = H at hP hS ⊢
      have hP : va_P D vwCl (ssW q k gd wd se pr ln px cv co (ss_up B pt v) R sx ((pt + 1) % 512) v (-1)) H := hP.sub [0, 1, 2, 3, 4, 5, 6, 7, 8, 9] rfl
      have hD : va_D A (ssW q k gd wd se pr ln px cv co (ss_up B pt v) R sx ((pt + 1) % 512) v (-1)) := hD.sub [0, 1, 2, 3, 4, 5, 6, 7, 8, 9] (by decide) rfl
      refine lv_goto (tgt := 69) hx hb d_SS_out_44 (by decide) ?_
      refine lv_iconst (v := nI 1) hx hb d_SS_out_69 (by decide +kernel) ?_
      exact rw_retz hx hb hr hlocks d_SS_out_70 (by decide +kernel) hS () (rfl) hP
    exfalso; omega
  · have c1 := (bI_0).mp c1
    exfalso; omega
set_option maxHeartbeats 4000000 in
set_option maxRecDepth 100000 in
theorem c_SS_out2 (l : Launch) (D : va_G) (k : Nat → ClassId) (q : Nat → Nat) (gd : Nat → Option Nat) (wd : Nat → Nat) (se : Nat → Nat) (pr : Nat) (ln : Nat) (px : Nat → Nat) (cv : Nat) (co : Nat) (B : Nat → Nat) (R : Nat → Nat) (sx : Nat) (pt : Nat) (rd : Nat) (wt : Int32) (v : Nat) (hv : v < 256) : rw_i l y_SS_out b_SS_out 3 (some .boolean) { frames := 2, cells := 0, slots := 0, locals := 42 } D (kT k) (ssW q k gd wd se pr ln px cv co B R sx pt rd wt) [.ref (q 0), .int (nI 2), .int (nI v)] (fun (r : Int32) (_ : Unit) => r = nI 1) (fun (_ : Unit) => (ssW q k gd wd se v ln px cv co B R sx pt rd wt)) := by
  refine rw_headi (by decide) (Nat.le_of_ble_eq_true rfl) ?_
  intro p e s m below meth c ls A hx hb hr hlocks hml hown hts hK hA hP hD hS hl
  have hown : s.vm.findClass "SlotScreen" = some m.cls := hown
  have hl : lv_has ls 3 [(0, .ref (q 0)), (1, .int (nI 2)), (2, .int (nI v))] := hl
  refine lv_iload_n hx hb d_SS_out_0 rfl (lv_at hl 2 rfl) ?_
  refine kr_iS (As := [.int (nI v)]) (rest := []) ⟨hx, hb, hml, hown, hts⟩ (c_SS_isByteN l D k v (by omega)) (va_cwS 1 hts (gS w_113 w_114 w_1 w_115) rfl rfl rfl (by decide +kernel) ⟨Nat.le_of_ble_eq_true rfl, Nat.le_of_ble_eq_true rfl⟩) hK va_nil rfl hl.1 rfl (Nat.le_of_ble_eq_true rfl) d_SS_out_1 ⟨Nat.zero_le _, Nat.zero_le _⟩ ?_
  refine lv_if_ne (tgt := 9) hx hb d_SS_out_4 (by decide) (fun c1 => ?_) (fun c1 => ?_)
  · have c1 := mt (bI_0).mpr c1
    have c1 := Classical.not_not.mp c1
    refine lv_iload_n hx hb d_SS_out_9 rfl (lv_at hl 1 rfl) ?_
    have t9 : (nI 2).toInt = ((2 : Nat) : Int) := nI_toInt (by omega)
    by_cases c3 : 2 = 2
    · refine lv_tableIn (off := 48) (tgt := 58) hx hb d_SS_out_10 (by rw [t9]; omega) (by rw [t9]; omega) (by rw [t9, show ((2 : Nat) : Int) = 2 from (by omega)]; decide) (by decide) ?_
      refine lv_aload_n hx hb d_SS_out_58 rfl (lv_at hl 0 rfl) ?_
      refine va_get (D := D) (ci := 0) (v := .ref (q 1)) (C := R_SS) (T := T_SS) (N := 3) hx hb hts in_SS hown hK hP 0 rfl rfl 0 (by decide) (hts _ w_93) (fun _ h9 => h9) rfl d_SS_out_59 ?_
      refine lv_iload_n hx hb d_SS_out_62 rfl (lv_at hl 2 rfl) ?_
      have hPc := hP.sub (ws' := (slW q k gd wd se pr)) [1, 2, 3, 4] rfl
      have hDc := hD.sub (ws' := (slW q k gd wd se pr)) [1, 2, 3, 4] (by decide) rfl
      have hFc := rw_S hDc hS hA
      refine kw_vV (As := [.int (nI v)]) (rest := []) ⟨hx, hb, hml, hown, hts⟩ (c_SL_setPrimary l D k q gd wd se pr v) (cwV 1 hts (gV w_166 w_167 w_168 w_2 w_169) rfl rfl rfl (by decide +kernel) ⟨Nat.le_of_ble_eq_true rfl, Nat.le_of_ble_eq_true rfl⟩) hK hPc hDc hS hA (va_recv hK hP (ci := 1) (q0 := 1) rfl rfl) rfl hl.1 rfl (Nat.le_of_ble_eq_true rfl) d_SS_out_63 ⟨Nat.zero_le _, Nat.zero_le _⟩ (fun u9 H9 locs _ hP1 hk1 hS9 => ?_)
      obtain ⟨hP, hD⟩ := rw_join (w := (slW q k gd wd se pr)) (w' := (slW q k gd wd se v)) (wr := [(q 0, .inr (0, [.ref (q 1), .ref (q 7), .ref (q 5)])), (q 5, .inr (3, [.ref (q 7), .ref (q 6), .int (nI ln), .long (lN cv), .long (lN co)])), (q 6, .inl (k 0, 2048, .inl (fun j => nI (px j)))), (q 7, .inr (2, [.ref (q 8), .ref (q 9), .int (nI sx), .int (nI pt), .int (nI rd), .int wt])), (q 8, .inl (k 0, 512, .inl (fun j => nI (B j)))), (q 9, .inl (k 0, 8, .inl (fun j => nI (R j))))]) hP hD [1, 2, 3, 4] [0, 5, 6, 7, 8, 9] rfl rfl (by decide) (by decide) (by decide) hk1 hFc hP1 rfl
      have hS := hS9
      clear hS9 hP1 hk1 hFc hPc hDc
      generalize H9 = H at hP hS ⊢
      have hP : va_P D vwCl (ssW q k gd wd se v ln px cv co B R sx pt rd wt) H := hP.sub [0, 6, 7, 8, 9, 1, 2, 3, 4, 5] rfl
      have hD : va_D A (ssW q k gd wd se v ln px cv co B R sx pt rd wt) := hD.sub [0, 6, 7, 8, 9, 1, 2, 3, 4, 5] (by decide) rfl
      refine lv_goto (tgt := 69) hx hb d_SS_out_66 (by decide) ?_
      refine lv_iconst (v := nI 1) hx hb d_SS_out_69 (by decide +kernel) ?_
      exact rw_retz hx hb hr hlocks d_SS_out_70 (by decide +kernel) hS () (rfl) hP
    exfalso; omega
  · have c1 := (bI_0).mp c1
    exfalso; omega
set_option maxHeartbeats 4000000 in
set_option maxRecDepth 100000 in
theorem c_SS_out1N (l : Launch) (D : va_G) (k : Nat → ClassId) (q : Nat → Nat) (gd : Nat → Option Nat) (wd : Nat → Nat) (se : Nat → Nat) (pr : Nat) (ln : Nat) (px : Nat → Nat) (cv : Nat) (co : Nat) (B : Nat → Nat) (R : Nat → Nat) (sx : Nat) (pt : Nat) (rd : Nat) (v : Nat) (hv : v < 256) : rw_i l y_SS_out b_SS_out 3 (some .boolean) { frames := 2, cells := 0, slots := 0, locals := 42 } D (kT k) (ssW q k gd wd se pr ln px cv co B R sx pt rd (-1)) [.ref (q 0), .int (nI 1), .int (nI v)] (fun (r : Int32) (_ : Unit) => r = nI 1) (fun (_ : Unit) => (ssW q k gd wd se pr ln px cv co B R sx pt rd (nI v))) := by
  refine rw_headi (by decide) (Nat.le_of_ble_eq_true rfl) ?_
  intro p e s m below meth c ls A hx hb hr hlocks hml hown hts hK hA hP hD hS hl
  have hown : s.vm.findClass "SlotScreen" = some m.cls := hown
  have hl : lv_has ls 3 [(0, .ref (q 0)), (1, .int (nI 1)), (2, .int (nI v))] := hl
  refine lv_iload_n hx hb d_SS_out_0 rfl (lv_at hl 2 rfl) ?_
  refine kr_iS (As := [.int (nI v)]) (rest := []) ⟨hx, hb, hml, hown, hts⟩ (c_SS_isByteN l D k v (by omega)) (va_cwS 1 hts (gS w_113 w_114 w_1 w_115) rfl rfl rfl (by decide +kernel) ⟨Nat.le_of_ble_eq_true rfl, Nat.le_of_ble_eq_true rfl⟩) hK va_nil rfl hl.1 rfl (Nat.le_of_ble_eq_true rfl) d_SS_out_1 ⟨Nat.zero_le _, Nat.zero_le _⟩ ?_
  refine lv_if_ne (tgt := 9) hx hb d_SS_out_4 (by decide) (fun c1 => ?_) (fun c1 => ?_)
  · have c1 := mt (bI_0).mpr c1
    have c1 := Classical.not_not.mp c1
    refine lv_iload_n hx hb d_SS_out_9 rfl (lv_at hl 1 rfl) ?_
    have t9 : (nI 1).toInt = ((1 : Nat) : Int) := nI_toInt (by omega)
    by_cases c3 : 1 = 1
    · refine lv_tableIn (off := 37) (tgt := 47) hx hb d_SS_out_10 (by rw [t9]; omega) (by rw [t9]; omega) (by rw [t9, show ((1 : Nat) : Int) = 1 from (by omega)]; decide) (by decide) ?_
      refine lv_aload_n hx hb d_SS_out_47 rfl (lv_at hl 0 rfl) ?_
      refine va_get (D := D) (ci := 0) (v := .ref (q 7)) (C := R_SS) (T := T_SS) (N := 3) hx hb hts in_SS hown hK hP 0 rfl rfl 1 (by decide) (hts _ w_94) (fun _ h9 => h9) rfl d_SS_out_48 ?_
      refine lv_iload_n hx hb d_SS_out_51 rfl (lv_at hl 2 rfl) ?_
      have hPc := hP.sub (ws' := (chW q k B R sx pt rd (-1))) [7, 8, 9] rfl
      have hDc := hD.sub (ws' := (chW q k B R sx pt rd (-1))) [7, 8, 9] (by decide) rfl
      have hFc := rw_S hDc hS hA
      refine kw_vV (As := [.int (nI v)]) (rest := []) ⟨hx, hb, hml, hown, hts⟩ (c_CH_giveControlN l D k q B R sx pt rd v (by omega)) (cwV 1 hts (gV w_162 w_163 w_164 w_3 w_165) rfl rfl rfl (by decide +kernel) ⟨Nat.le_of_ble_eq_true rfl, Nat.le_of_ble_eq_true rfl⟩) hK hPc hDc hS hA (va_recv hK hP (ci := 2) (q0 := 7) rfl rfl) rfl hl.1 rfl (Nat.le_of_ble_eq_true rfl) d_SS_out_52 ⟨Nat.zero_le _, Nat.zero_le _⟩ (fun u9 H9 locs _ hP1 hk1 hS9 => ?_)
      obtain ⟨hP, hD⟩ := rw_join (w := (chW q k B R sx pt rd (-1))) (w' := (chW q k B R sx pt rd (nI v))) (wr := [(q 0, .inr (0, [.ref (q 1), .ref (q 7), .ref (q 5)])), (q 1, .inr (1, [.ref (q 2), .ref (q 3), .ref (q 4), .int (nI pr)])), (q 2, .inl (k 2, 16, .inr (.inr (.inr (.inr gd))))), (q 3, .inl (k 1, 4, .inl (fun j => nI (wd j)))), (q 4, .inl (k 0, 4, .inl (fun j => nI (se j)))), (q 5, .inr (3, [.ref (q 7), .ref (q 6), .int (nI ln), .long (lN cv), .long (lN co)])), (q 6, .inl (k 0, 2048, .inl (fun j => nI (px j))))]) hP hD [7, 8, 9] [0, 1, 2, 3, 4, 5, 6] rfl rfl (by decide) (by decide) (by decide) hk1 hFc hP1 rfl
      have hS := hS9
      clear hS9 hP1 hk1 hFc hPc hDc
      generalize H9 = H at hP hS ⊢
      have hP : va_P D vwCl (ssW q k gd wd se pr ln px cv co B R sx pt rd (nI v)) H := hP.sub [0, 1, 2, 3, 4, 5, 6, 7, 8, 9] rfl
      have hD : va_D A (ssW q k gd wd se pr ln px cv co B R sx pt rd (nI v)) := hD.sub [0, 1, 2, 3, 4, 5, 6, 7, 8, 9] (by decide) rfl
      refine lv_goto (tgt := 69) hx hb d_SS_out_55 (by decide) ?_
      refine lv_iconst (v := nI 1) hx hb d_SS_out_69 (by decide +kernel) ?_
      exact rw_retz hx hb hr hlocks d_SS_out_70 (by decide +kernel) hS () (rfl) hP
    exfalso; omega
  · have c1 := (bI_0).mp c1
    exfalso; omega
set_option maxHeartbeats 4000000 in
set_option maxRecDepth 100000 in
theorem c_SS_out1R (l : Launch) (D : va_G) (k : Nat → ClassId) (q : Nat → Nat) (gd : Nat → Option Nat) (wd : Nat → Nat) (se : Nat → Nat) (pr : Nat) (ln : Nat) (px : Nat → Nat) (cv : Nat) (co : Nat) (B : Nat → Nat) (R : Nat → Nat) (sx : Nat) (pt : Nat) (rd : Nat) (a : Nat) (ha : a < 256) (v : Nat) (hv : v < 256) (h1 : 127 < v) : rw_i l y_SS_out b_SS_out 3 (some .boolean) { frames := 2, cells := 0, slots := 0, locals := 42 } D (kT k) (ssW q k gd wd se pr ln px cv co B R sx pt rd (nI a)) [.ref (q 0), .int (nI 1), .int (nI v)] (fun (r : Int32) (_ : Unit) => r = nI 1) (fun (_ : Unit) => (ssW q k gd wd se pr ln px cv co B (ss_up R (v % 8) a) sx pt rd (-1))) := by
  refine rw_headi (by decide) (Nat.le_of_ble_eq_true rfl) ?_
  intro p e s m below meth c ls A hx hb hr hlocks hml hown hts hK hA hP hD hS hl
  have hown : s.vm.findClass "SlotScreen" = some m.cls := hown
  have hl : lv_has ls 3 [(0, .ref (q 0)), (1, .int (nI 1)), (2, .int (nI v))] := hl
  refine lv_iload_n hx hb d_SS_out_0 rfl (lv_at hl 2 rfl) ?_
  refine kr_iS (As := [.int (nI v)]) (rest := []) ⟨hx, hb, hml, hown, hts⟩ (c_SS_isByteN l D k v (by omega)) (va_cwS 1 hts (gS w_113 w_114 w_1 w_115) rfl rfl rfl (by decide +kernel) ⟨Nat.le_of_ble_eq_true rfl, Nat.le_of_ble_eq_true rfl⟩) hK va_nil rfl hl.1 rfl (Nat.le_of_ble_eq_true rfl) d_SS_out_1 ⟨Nat.zero_le _, Nat.zero_le _⟩ ?_
  refine lv_if_ne (tgt := 9) hx hb d_SS_out_4 (by decide) (fun c1 => ?_) (fun c1 => ?_)
  · have c1 := mt (bI_0).mpr c1
    have c1 := Classical.not_not.mp c1
    refine lv_iload_n hx hb d_SS_out_9 rfl (lv_at hl 1 rfl) ?_
    have t9 : (nI 1).toInt = ((1 : Nat) : Int) := nI_toInt (by omega)
    by_cases c3 : 1 = 1
    · refine lv_tableIn (off := 37) (tgt := 47) hx hb d_SS_out_10 (by rw [t9]; omega) (by rw [t9]; omega) (by rw [t9, show ((1 : Nat) : Int) = 1 from (by omega)]; decide) (by decide) ?_
      refine lv_aload_n hx hb d_SS_out_47 rfl (lv_at hl 0 rfl) ?_
      refine va_get (D := D) (ci := 0) (v := .ref (q 7)) (C := R_SS) (T := T_SS) (N := 3) hx hb hts in_SS hown hK hP 0 rfl rfl 1 (by decide) (hts _ w_94) (fun _ h9 => h9) rfl d_SS_out_48 ?_
      refine lv_iload_n hx hb d_SS_out_51 rfl (lv_at hl 2 rfl) ?_
      have hPc := hP.sub (ws' := (chW q k B R sx pt rd (nI a))) [7, 8, 9] rfl
      have hDc := hD.sub (ws' := (chW q k B R sx pt rd (nI a))) [7, 8, 9] (by decide) rfl
      have hFc := rw_S hDc hS hA
      refine kw_vV (As := [.int (nI v)]) (rest := []) ⟨hx, hb, hml, hown, hts⟩ (c_CH_giveControlR l D k q B R sx pt rd a v (by omega) (by omega) (by omega)) (cwV 1 hts (gV w_162 w_163 w_164 w_3 w_165) rfl rfl rfl (by decide +kernel) ⟨Nat.le_of_ble_eq_true rfl, Nat.le_of_ble_eq_true rfl⟩) hK hPc hDc hS hA (va_recv hK hP (ci := 2) (q0 := 7) rfl rfl) rfl hl.1 rfl (Nat.le_of_ble_eq_true rfl) d_SS_out_52 ⟨Nat.zero_le _, Nat.zero_le _⟩ (fun u9 H9 locs _ hP1 hk1 hS9 => ?_)
      obtain ⟨hP, hD⟩ := rw_join (w := (chW q k B R sx pt rd (nI a))) (w' := (chW q k B (ss_up R (v % 8) a) sx pt rd (-1))) (wr := [(q 0, .inr (0, [.ref (q 1), .ref (q 7), .ref (q 5)])), (q 1, .inr (1, [.ref (q 2), .ref (q 3), .ref (q 4), .int (nI pr)])), (q 2, .inl (k 2, 16, .inr (.inr (.inr (.inr gd))))), (q 3, .inl (k 1, 4, .inl (fun j => nI (wd j)))), (q 4, .inl (k 0, 4, .inl (fun j => nI (se j)))), (q 5, .inr (3, [.ref (q 7), .ref (q 6), .int (nI ln), .long (lN cv), .long (lN co)])), (q 6, .inl (k 0, 2048, .inl (fun j => nI (px j))))]) hP hD [7, 8, 9] [0, 1, 2, 3, 4, 5, 6] rfl rfl (by decide) (by decide) (by decide) hk1 hFc hP1 rfl
      have hS := hS9
      clear hS9 hP1 hk1 hFc hPc hDc
      generalize H9 = H at hP hS ⊢
      have hP : va_P D vwCl (ssW q k gd wd se pr ln px cv co B (ss_up R (v % 8) a) sx pt rd (-1)) H := hP.sub [0, 1, 2, 3, 4, 5, 6, 7, 8, 9] rfl
      have hD : va_D A (ssW q k gd wd se pr ln px cv co B (ss_up R (v % 8) a) sx pt rd (-1)) := hD.sub [0, 1, 2, 3, 4, 5, 6, 7, 8, 9] (by decide) rfl
      refine lv_goto (tgt := 69) hx hb d_SS_out_55 (by decide) ?_
      refine lv_iconst (v := nI 1) hx hb d_SS_out_69 (by decide +kernel) ?_
      exact rw_retz hx hb hr hlocks d_SS_out_70 (by decide +kernel) hS () (rfl) hP
    exfalso; omega
  · have c1 := (bI_0).mp c1
    exfalso; omega
set_option maxHeartbeats 4000000 in
set_option maxRecDepth 100000 in
theorem c_SS_out1P (l : Launch) (D : va_G) (k : Nat → ClassId) (q : Nat → Nat) (gd : Nat → Option Nat) (wd : Nat → Nat) (se : Nat → Nat) (pr : Nat) (ln : Nat) (px : Nat → Nat) (cv : Nat) (co : Nat) (B : Nat → Nat) (R : Nat → Nat) (sx : Nat) (pt : Nat) (rd : Nat) (a : Nat) (ha : a < 256) (v : Nat) (hv : v < 256) (h1 : v ≤ 127) (h2 : 64 ≤ v) : rw_i l y_SS_out b_SS_out 3 (some .boolean) { frames := 2, cells := 0, slots := 0, locals := 42 } D (kT k) (ssW q k gd wd se pr ln px cv co B R sx pt rd (nI a)) [.ref (q 0), .int (nI 1), .int (nI v)] (fun (r : Int32) (_ : Unit) => r = nI 1) (fun (_ : Unit) => (ssW q k gd wd se pr ln px cv co B R sx (a + 256 * (v % 2)) rd (-1))) := by
  refine rw_headi (by decide) (Nat.le_of_ble_eq_true rfl) ?_
  intro p e s m below meth c ls A hx hb hr hlocks hml hown hts hK hA hP hD hS hl
  have hown : s.vm.findClass "SlotScreen" = some m.cls := hown
  have hl : lv_has ls 3 [(0, .ref (q 0)), (1, .int (nI 1)), (2, .int (nI v))] := hl
  refine lv_iload_n hx hb d_SS_out_0 rfl (lv_at hl 2 rfl) ?_
  refine kr_iS (As := [.int (nI v)]) (rest := []) ⟨hx, hb, hml, hown, hts⟩ (c_SS_isByteN l D k v (by omega)) (va_cwS 1 hts (gS w_113 w_114 w_1 w_115) rfl rfl rfl (by decide +kernel) ⟨Nat.le_of_ble_eq_true rfl, Nat.le_of_ble_eq_true rfl⟩) hK va_nil rfl hl.1 rfl (Nat.le_of_ble_eq_true rfl) d_SS_out_1 ⟨Nat.zero_le _, Nat.zero_le _⟩ ?_
  refine lv_if_ne (tgt := 9) hx hb d_SS_out_4 (by decide) (fun c1 => ?_) (fun c1 => ?_)
  · have c1 := mt (bI_0).mpr c1
    have c1 := Classical.not_not.mp c1
    refine lv_iload_n hx hb d_SS_out_9 rfl (lv_at hl 1 rfl) ?_
    have t9 : (nI 1).toInt = ((1 : Nat) : Int) := nI_toInt (by omega)
    by_cases c3 : 1 = 1
    · refine lv_tableIn (off := 37) (tgt := 47) hx hb d_SS_out_10 (by rw [t9]; omega) (by rw [t9]; omega) (by rw [t9, show ((1 : Nat) : Int) = 1 from (by omega)]; decide) (by decide) ?_
      refine lv_aload_n hx hb d_SS_out_47 rfl (lv_at hl 0 rfl) ?_
      refine va_get (D := D) (ci := 0) (v := .ref (q 7)) (C := R_SS) (T := T_SS) (N := 3) hx hb hts in_SS hown hK hP 0 rfl rfl 1 (by decide) (hts _ w_94) (fun _ h9 => h9) rfl d_SS_out_48 ?_
      refine lv_iload_n hx hb d_SS_out_51 rfl (lv_at hl 2 rfl) ?_
      have hPc := hP.sub (ws' := (chW q k B R sx pt rd (nI a))) [7, 8, 9] rfl
      have hDc := hD.sub (ws' := (chW q k B R sx pt rd (nI a))) [7, 8, 9] (by decide) rfl
      have hFc := rw_S hDc hS hA
      refine kw_vV (As := [.int (nI v)]) (rest := []) ⟨hx, hb, hml, hown, hts⟩ (c_CH_giveControlP l D k q B R sx pt rd a v (by omega) (by omega) (by omega) (by omega)) (cwV 1 hts (gV w_162 w_163 w_164 w_3 w_165) rfl rfl rfl (by decide +kernel) ⟨Nat.le_of_ble_eq_true rfl, Nat.le_of_ble_eq_true rfl⟩) hK hPc hDc hS hA (va_recv hK hP (ci := 2) (q0 := 7) rfl rfl) rfl hl.1 rfl (Nat.le_of_ble_eq_true rfl) d_SS_out_52 ⟨Nat.zero_le _, Nat.zero_le _⟩ (fun u9 H9 locs _ hP1 hk1 hS9 => ?_)
      obtain ⟨hP, hD⟩ := rw_join (w := (chW q k B R sx pt rd (nI a))) (w' := (chW q k B R sx (a + 256 * (v % 2)) rd (-1))) (wr := [(q 0, .inr (0, [.ref (q 1), .ref (q 7), .ref (q 5)])), (q 1, .inr (1, [.ref (q 2), .ref (q 3), .ref (q 4), .int (nI pr)])), (q 2, .inl (k 2, 16, .inr (.inr (.inr (.inr gd))))), (q 3, .inl (k 1, 4, .inl (fun j => nI (wd j)))), (q 4, .inl (k 0, 4, .inl (fun j => nI (se j)))), (q 5, .inr (3, [.ref (q 7), .ref (q 6), .int (nI ln), .long (lN cv), .long (lN co)])), (q 6, .inl (k 0, 2048, .inl (fun j => nI (px j))))]) hP hD [7, 8, 9] [0, 1, 2, 3, 4, 5, 6] rfl rfl (by decide) (by decide) (by decide) hk1 hFc hP1 rfl
      have hS := hS9
      clear hS9 hP1 hk1 hFc hPc hDc
      generalize H9 = H at hP hS ⊢
      have hP : va_P D vwCl (ssW q k gd wd se pr ln px cv co B R sx (a + 256 * (v % 2)) rd (-1)) H := hP.sub [0, 1, 2, 3, 4, 5, 6, 7, 8, 9] rfl
      have hD : va_D A (ssW q k gd wd se pr ln px cv co B R sx (a + 256 * (v % 2)) rd (-1)) := hD.sub [0, 1, 2, 3, 4, 5, 6, 7, 8, 9] (by decide) rfl
      refine lv_goto (tgt := 69) hx hb d_SS_out_55 (by decide) ?_
      refine lv_iconst (v := nI 1) hx hb d_SS_out_69 (by decide +kernel) ?_
      exact rw_retz hx hb hr hlocks d_SS_out_70 (by decide +kernel) hS () (rfl) hP
    exfalso; omega
  · have c1 := (bI_0).mp c1
    exfalso; omega
set_option maxHeartbeats 4000000 in
set_option maxRecDepth 100000 in
theorem c_SS_out1F (l : Launch) (D : va_G) (k : Nat → ClassId) (q : Nat → Nat) (gd : Nat → Option Nat) (wd : Nat → Nat) (se : Nat → Nat) (pr : Nat) (ln : Nat) (px : Nat → Nat) (cv : Nat) (co : Nat) (B : Nat → Nat) (R : Nat → Nat) (sx : Nat) (pt : Nat) (rd : Nat) (a : Nat) (ha : a < 256) (v : Nat) (hv : v < 256) (h2 : v < 64) : rw_i l y_SS_out b_SS_out 3 (some .boolean) { frames := 2, cells := 0, slots := 0, locals := 42 } D (kT k) (ssW q k gd wd se pr ln px cv co B R sx pt rd (nI a)) [.ref (q 0), .int (nI 1), .int (nI v)] (fun (r : Int32) (_ : Unit) => r = nI 1) (fun (_ : Unit) => (ssW q k gd wd se pr ln px cv co B R sx ((a + 256 * (v % 2) + 1) % 512) (B (a + 256 * (v % 2))) (-1))) := by
  refine rw_headi (by decide) (Nat.le_of_ble_eq_true rfl) ?_
  intro p e s m below meth c ls A hx hb hr hlocks hml hown hts hK hA hP hD hS hl
  have hown : s.vm.findClass "SlotScreen" = some m.cls := hown
  have hl : lv_has ls 3 [(0, .ref (q 0)), (1, .int (nI 1)), (2, .int (nI v))] := hl
  refine lv_iload_n hx hb d_SS_out_0 rfl (lv_at hl 2 rfl) ?_
  refine kr_iS (As := [.int (nI v)]) (rest := []) ⟨hx, hb, hml, hown, hts⟩ (c_SS_isByteN l D k v (by omega)) (va_cwS 1 hts (gS w_113 w_114 w_1 w_115) rfl rfl rfl (by decide +kernel) ⟨Nat.le_of_ble_eq_true rfl, Nat.le_of_ble_eq_true rfl⟩) hK va_nil rfl hl.1 rfl (Nat.le_of_ble_eq_true rfl) d_SS_out_1 ⟨Nat.zero_le _, Nat.zero_le _⟩ ?_
  refine lv_if_ne (tgt := 9) hx hb d_SS_out_4 (by decide) (fun c1 => ?_) (fun c1 => ?_)
  · have c1 := mt (bI_0).mpr c1
    have c1 := Classical.not_not.mp c1
    refine lv_iload_n hx hb d_SS_out_9 rfl (lv_at hl 1 rfl) ?_
    have t9 : (nI 1).toInt = ((1 : Nat) : Int) := nI_toInt (by omega)
    by_cases c3 : 1 = 1
    · refine lv_tableIn (off := 37) (tgt := 47) hx hb d_SS_out_10 (by rw [t9]; omega) (by rw [t9]; omega) (by rw [t9, show ((1 : Nat) : Int) = 1 from (by omega)]; decide) (by decide) ?_
      refine lv_aload_n hx hb d_SS_out_47 rfl (lv_at hl 0 rfl) ?_
      refine va_get (D := D) (ci := 0) (v := .ref (q 7)) (C := R_SS) (T := T_SS) (N := 3) hx hb hts in_SS hown hK hP 0 rfl rfl 1 (by decide) (hts _ w_94) (fun _ h9 => h9) rfl d_SS_out_48 ?_
      refine lv_iload_n hx hb d_SS_out_51 rfl (lv_at hl 2 rfl) ?_
      have hPc := hP.sub (ws' := (chW q k B R sx pt rd (nI a))) [7, 8, 9] rfl
      have hDc := hD.sub (ws' := (chW q k B R sx pt rd (nI a))) [7, 8, 9] (by decide) rfl
      have hFc := rw_S hDc hS hA
      refine kw_vV (As := [.int (nI v)]) (rest := []) ⟨hx, hb, hml, hown, hts⟩ (c_CH_giveControlF l D k q B R sx pt rd a v (by omega) (by omega) (by omega)) (cwV 1 hts (gV w_162 w_163 w_164 w_3 w_165) rfl rfl rfl (by decide +kernel) ⟨Nat.le_of_ble_eq_true rfl, Nat.le_of_ble_eq_true rfl⟩) hK hPc hDc hS hA (va_recv hK hP (ci := 2) (q0 := 7) rfl rfl) rfl hl.1 rfl (Nat.le_of_ble_eq_true rfl) d_SS_out_52 ⟨Nat.zero_le _, Nat.zero_le _⟩ (fun u9 H9 locs _ hP1 hk1 hS9 => ?_)
      obtain ⟨hP, hD⟩ := rw_join (w := (chW q k B R sx pt rd (nI a))) (w' := (chW q k B R sx ((a + 256 * (v % 2) + 1) % 512) (B (a + 256 * (v % 2))) (-1))) (wr := [(q 0, .inr (0, [.ref (q 1), .ref (q 7), .ref (q 5)])), (q 1, .inr (1, [.ref (q 2), .ref (q 3), .ref (q 4), .int (nI pr)])), (q 2, .inl (k 2, 16, .inr (.inr (.inr (.inr gd))))), (q 3, .inl (k 1, 4, .inl (fun j => nI (wd j)))), (q 4, .inl (k 0, 4, .inl (fun j => nI (se j)))), (q 5, .inr (3, [.ref (q 7), .ref (q 6), .int (nI ln), .long (lN cv), .long (lN co)])), (q 6, .inl (k 0, 2048, .inl (fun j => nI (px j))))]) hP hD [7, 8, 9] [0, 1, 2, 3, 4, 5, 6] rfl rfl (by decide) (by decide) (by decide) hk1 hFc hP1 rfl
      have hS := hS9
      clear hS9 hP1 hk1 hFc hPc hDc
      generalize H9 = H at hP hS ⊢
      have hP : va_P D vwCl (ssW q k gd wd se pr ln px cv co B R sx ((a + 256 * (v % 2) + 1) % 512) (B (a + 256 * (v % 2))) (-1)) H := hP.sub [0, 1, 2, 3, 4, 5, 6, 7, 8, 9] rfl
      have hD : va_D A (ssW q k gd wd se pr ln px cv co B R sx ((a + 256 * (v % 2) + 1) % 512) (B (a + 256 * (v % 2))) (-1)) := hD.sub [0, 1, 2, 3, 4, 5, 6, 7, 8, 9] (by decide) rfl
      refine lv_goto (tgt := 69) hx hb d_SS_out_55 (by decide) ?_
      refine lv_iconst (v := nI 1) hx hb d_SS_out_69 (by decide +kernel) ?_
      exact rw_retz hx hb hr hlocks d_SS_out_70 (by decide +kernel) hS () (rfl) hP
    exfalso; omega
  · have c1 := (bI_0).mp c1
    exfalso; omega
