set_option maxHeartbeats 4000000 in
set_option maxRecDepth 100000 in
theorem c_SS_scan_off (l : Launch) (D : va_G) (k : Nat → ClassId) (q : Nat → Nat) (gd : Nat → Option Nat) (wd : Nat → Nat) (se : Nat → Nat) (pr : Nat) (ln : Nat) (px : Nat → Nat) (cv : Nat) (co : Nat) (B : Nat → Nat) (R : Nat → Nat) (sx : Nat) (pt : Nat) (rd : Nat) (wt : Int32) (hB : ∀ j, B j < 256) (hR : ∀ j, R j < 256) (hln : ln < 32) (hsx : sx < 256) (hon : ¬ R 1 / 2 ^ 6 % 2 = 1) : rw_i l y_SS_scan b_SS_scan 1 (some .int) { frames := 6, cells := 0, slots := 0, locals := 144 } D (kT k) (ssW q k gd wd se pr ln px cv co B R sx pt rd wt) [.ref (q 0)] (fun (r : Int32) (_ : Unit) => r = nI ln) (fun (_ : Unit) => (ssW q k gd wd se pr ((ln + 1) % 32) (dln (fun _ => R 7 % 16) ln 64 px) cv co B R (if ln = 31 then ss_so 128 (sx) else sx) pt rd wt)) := by
  refine rw_headi (by decide) (Nat.le_of_ble_eq_true rfl) ?_
  intro p e s m below meth c ls A hx hb hr hlocks hml hown hts hK hA hP hD hS hl
  have hown : s.vm.findClass "SlotScreen" = some m.cls := hown
  have hl : lv_has ls 1 [(0, .ref (q 0))] := hl
  refine lv_aload_n hx hb d_SS_scan_0 rfl (lv_at hl 0 rfl) ?_
  refine va_get (D := D) (ci := 0) (v := .ref (q 5)) (C := R_SS) (T := T_SS) (N := 3) hx hb hts in_SS hown hK hP 0 rfl rfl 2 (by decide) (hts _ w_95) (fun _ h9 => h9) rfl d_SS_scan_1 ?_
  have hPc := hP.sub (ws' := (scW q k ln px cv co B R sx pt rd wt)) [5, 6, 7, 8, 9] rfl
  have hDc := hD.sub (ws' := (scW q k ln px cv co B R sx pt rd wt)) [5, 6, 7, 8, 9] (by decide) rfl
  have hFc := rw_S hDc hS hA
  refine kw_iV (As := []) (rest := []) ⟨hx, hb, hml, hown, hts⟩ (c_SC_next_off l D k q ln px cv co B R sx pt rd wt hB hR (by omega) (by omega) hon) (cwV 0 hts (gV w_174 w_175 w_176 w_4 w_177) rfl rfl rfl (by decide +kernel) ⟨Nat.le_of_ble_eq_true rfl, Nat.le_of_ble_eq_true rfl⟩) hK hPc hDc hS hA (va_recv hK hP (ci := 3) (q0 := 5) rfl rfl) rfl hl.1 rfl (Nat.le_of_ble_eq_true rfl) d_SS_scan_4 ⟨Nat.zero_le _, Nat.zero_le _⟩ (fun _ u9 H9 locs h9 hP1 hk1 hS9 => ?_)
  subst h9
  obtain ⟨hP, hD⟩ := rw_join (w := (scW q k ln px cv co B R sx pt rd wt)) (w' := (scW q k ((ln + 1) % 32) (dln (fun _ => R 7 % 16) ln 64 px) cv co B R (if ln = 31 then ss_so 128 (sx) else sx) pt rd wt)) (wr := [(q 0, .inr (0, [.ref (q 1), .ref (q 7), .ref (q 5)])), (q 1, .inr (1, [.ref (q 2), .ref (q 3), .ref (q 4), .int (nI pr)])), (q 2, .inl (k 2, 16, .inr (.inr (.inr (.inr gd))))), (q 3, .inl (k 1, 4, .inl (fun j => nI (wd j)))), (q 4, .inl (k 0, 4, .inl (fun j => nI (se j))))]) hP hD [5, 6, 7, 8, 9] [0, 1, 2, 3, 4] rfl rfl (by decide) (by decide) (by decide) hk1 hFc hP1 rfl
  have hS := hS9
  clear hS9 hP1 hk1 hFc hPc hDc
  generalize H9 = H at hP hS ⊢
  have hP : va_P D vwCl (ssW q k gd wd se pr ((ln + 1) % 32) (dln (fun _ => R 7 % 16) ln 64 px) cv co B R (if ln = 31 then ss_so 128 (sx) else sx) pt rd wt) H := hP.sub [0, 1, 2, 3, 4, 5, 6, 7, 8, 9] rfl
  have hD : va_D A (ssW q k gd wd se pr ((ln + 1) % 32) (dln (fun _ => R 7 % 16) ln 64 px) cv co B R (if ln = 31 then ss_so 128 (sx) else sx) pt rd wt) := hD.sub [0, 1, 2, 3, 4, 5, 6, 7, 8, 9] (by decide) rfl
  exact rw_reti hx hb hr hlocks d_SS_scan_7 hS () (rfl) hP
set_option maxHeartbeats 4000000 in
set_option maxRecDepth 100000 in
theorem c_SS_scan_on (l : Launch) (D : va_G) (k : Nat → ClassId) (q : Nat → Nat) (gd : Nat → Option Nat) (wd : Nat → Nat) (se : Nat → Nat) (pr : Nat) (ln : Nat) (px : Nat → Nat) (cv : Nat) (co : Nat) (B : Nat → Nat) (R : Nat → Nat) (sx : Nat) (pt : Nat) (rd : Nat) (wt : Int32) (hB : ∀ j, B j < 256) (hR : ∀ j, R j < 256) (hln : ln < 32) (hsx : sx < 256) (hon : R 1 / 2 ^ 6 % 2 = 1) : rw_i l y_SS_scan b_SS_scan 1 (some .int) { frames := 6, cells := 0, slots := 0, locals := 144 } D (kT k) (ssW q k gd wd se pr ln px cv co B R sx pt rd wt) [.ref (q 0)] (fun (r : Int32) (_ : Nat × Nat) => r = nI ln) (fun (u : Nat × Nat) => (ssW q k gd wd se pr ((ln + 1) % 32) (dln (dpx B R ln) ln 64 px) u.1 u.2 B R (if ln = 31 then ss_so 128 (dts (dtc B R ln 8 64) (d5f B R ln sx 8)) else dts (dtc B R ln 8 64) (d5f B R ln sx 8)) pt rd wt)) := by
  refine rw_headi (by decide) (Nat.le_of_ble_eq_true rfl) ?_
  intro p e s m below meth c ls A hx hb hr hlocks hml hown hts hK hA hP hD hS hl
  have hown : s.vm.findClass "SlotScreen" = some m.cls := hown
  have hl : lv_has ls 1 [(0, .ref (q 0))] := hl
  refine lv_aload_n hx hb d_SS_scan_0 rfl (lv_at hl 0 rfl) ?_
  refine va_get (D := D) (ci := 0) (v := .ref (q 5)) (C := R_SS) (T := T_SS) (N := 3) hx hb hts in_SS hown hK hP 0 rfl rfl 2 (by decide) (hts _ w_95) (fun _ h9 => h9) rfl d_SS_scan_1 ?_
  have hPc := hP.sub (ws' := (scW q k ln px cv co B R sx pt rd wt)) [5, 6, 7, 8, 9] rfl
  have hDc := hD.sub (ws' := (scW q k ln px cv co B R sx pt rd wt)) [5, 6, 7, 8, 9] (by decide) rfl
  have hFc := rw_S hDc hS hA
  refine kw_iV (As := []) (rest := []) ⟨hx, hb, hml, hown, hts⟩ (c_SC_next_on l D k q ln px cv co B R sx pt rd wt hB hR (by omega) (by omega) hon) (cwV 0 hts (gV w_174 w_175 w_176 w_4 w_177) rfl rfl rfl (by decide +kernel) ⟨Nat.le_of_ble_eq_true rfl, Nat.le_of_ble_eq_true rfl⟩) hK hPc hDc hS hA (va_recv hK hP (ci := 3) (q0 := 5) rfl rfl) rfl hl.1 rfl (Nat.le_of_ble_eq_true rfl) d_SS_scan_4 ⟨Nat.zero_le _, Nat.zero_le _⟩ (fun _ u9 H9 locs h9 hP1 hk1 hS9 => ?_)
  subst h9
  obtain ⟨cvA, coA⟩ := u9
  obtain ⟨hP, hD⟩ := rw_join (w := (scW q k ln px cv co B R sx pt rd wt)) (w' := (scW q k ((ln + 1) % 32) (dln (dpx B R ln) ln 64 px) cvA coA B R (if ln = 31 then ss_so 128 (dts (dtc B R ln 8 64) (d5f B R ln sx 8)) else dts (dtc B R ln 8 64) (d5f B R ln sx 8)) pt rd wt)) (wr := [(q 0, .inr (0, [.ref (q 1), .ref (q 7), .ref (q 5)])), (q 1, .inr (1, [.ref (q 2), .ref (q 3), .ref (q 4), .int (nI pr)])), (q 2, .inl (k 2, 16, .inr (.inr (.inr (.inr gd))))), (q 3, .inl (k 1, 4, .inl (fun j => nI (wd j)))), (q 4, .inl (k 0, 4, .inl (fun j => nI (se j))))]) hP hD [5, 6, 7, 8, 9] [0, 1, 2, 3, 4] rfl rfl (by decide) (by decide) (by decide) hk1 hFc hP1 rfl
  have hS := hS9
  clear hS9 hP1 hk1 hFc hPc hDc
  generalize H9 = H at hP hS ⊢
  have hP : va_P D vwCl (ssW q k gd wd se pr ((ln + 1) % 32) (dln (dpx B R ln) ln 64 px) cvA coA B R (if ln = 31 then ss_so 128 (dts (dtc B R ln 8 64) (d5f B R ln sx 8)) else dts (dtc B R ln 8 64) (d5f B R ln sx 8)) pt rd wt) H := hP.sub [0, 1, 2, 3, 4, 5, 6, 7, 8, 9] rfl
  have hD : va_D A (ssW q k gd wd se pr ((ln + 1) % 32) (dln (dpx B R ln) ln 64 px) cvA coA B R (if ln = 31 then ss_so 128 (dts (dtc B R ln 8 64) (d5f B R ln sx 8)) else dts (dtc B R ln 8 64) (d5f B R ln sx 8)) pt rd wt) := hD.sub [0, 1, 2, 3, 4, 5, 6, 7, 8, 9] (by decide) rfl
  exact rw_reti hx hb hr hlocks d_SS_scan_7 hS (cvA, coA) (rfl) hP
set_option maxHeartbeats 4000000 in
set_option maxRecDepth 100000 in
theorem c_SS_pixel (l : Launch) (D : va_G) (k : Nat → ClassId) (q : Nat → Nat) (gd : Nat → Option Nat) (wd : Nat → Nat) (se : Nat → Nat) (pr : Nat) (ln : Nat) (px : Nat → Nat) (cv : Nat) (co : Nat) (B : Nat → Nat) (R : Nat → Nat) (sx : Nat) (pt : Nat) (rd : Nat) (wt : Int32) (x y : Nat) (hx9 : x < 64) (hy9 : y < 32) : ro_i l y_SS_pixel b_SS_pixel 3 (some .int) { frames := 1, cells := 0, slots := 0, locals := 22 } D (kT k) (ssW q k gd wd se pr ln px cv co B R sx pt rd wt) [.ref (q 0), .int (nI x), .int (nI y)] (nI (px (64 * y + x))) := by
  refine ro_headi (by decide) (Nat.le_of_ble_eq_true rfl) ?_
  intro p e s m below meth c ls hx hb hr hlocks hml hown hts hP hK hl
  have hown : s.vm.findClass "SlotScreen" = some m.cls := hown
  have hl : lv_has ls 3 [(0, .ref (q 0)), (1, .int (nI x)), (2, .int (nI y))] := hl
  refine lv_aload_n hx hb d_SS_pixel_0 rfl (lv_at hl 0 rfl) ?_
  refine va_get (D := D) (ci := 0) (v := .ref (q 5)) (C := R_SS) (T := T_SS) (N := 3) hx hb hts in_SS hown hK hP 0 rfl rfl 2 (by decide) (hts _ w_95) (fun _ h9 => h9) rfl d_SS_pixel_1 ?_
  refine lv_iload_n hx hb d_SS_pixel_4 rfl (lv_at hl 1 rfl) ?_
  refine lv_iload_n hx hb d_SS_pixel_5 rfl (lv_at hl 2 rfl) ?_
  refine kr_iV (As := [.int (nI x), .int (nI y)]) (rest := []) ⟨hx, hb, hml, hown, hts⟩ (c_SC_colorAt l D k q ln px cv co B R sx pt rd wt x y (by omega) (by omega)) (cwV 2 hts (gV w_249 w_250 w_251 w_4 w_252) rfl rfl rfl (by decide +kernel) ⟨Nat.le_of_ble_eq_true rfl, Nat.le_of_ble_eq_true rfl⟩) hK (hP.sub (ws' := (scW q k ln px cv co B R sx pt rd wt)) [5, 6, 7, 8, 9] rfl) (va_recv hK hP (ci := 3) (q0 := 5) rfl rfl) rfl hl.1 rfl (Nat.le_of_ble_eq_true rfl) d_SS_pixel_6 ⟨Nat.zero_le _, Nat.zero_le _⟩ ?_
  exact ro_reti hx hb hr hlocks d_SS_pixel_9 (rfl)
set_option maxHeartbeats 4000000 in
set_option maxRecDepth 100000 in
theorem c_SS_pixelb (l : Launch) (D : va_G) (k : Nat → ClassId) (q : Nat → Nat) (gd : Nat → Option Nat) (wd : Nat → Nat) (se : Nat → Nat) (pr : Nat) (ln : Nat) (px : Nat → Nat) (cv : Nat) (co : Nat) (B : Nat → Nat) (R : Nat → Nat) (sx : Nat) (pt : Nat) (rd : Nat) (wt : Int32) (x y : Int32) (hx9 : ¬ (0 ≤ x.toInt ∧ x.toInt ≤ 63 ∧ 0 ≤ y.toInt ∧ y.toInt ≤ 31)) : ro_i l y_SS_pixel b_SS_pixel 3 (some .int) { frames := 1, cells := 0, slots := 0, locals := 22 } D (kT k) (ssW q k gd wd se pr ln px cv co B R sx pt rd wt) [.ref (q 0), .int x, .int y] (-1) := by
  refine ro_headi (by decide) (Nat.le_of_ble_eq_true rfl) ?_
  intro p e s m below meth c ls hx hb hr hlocks hml hown hts hP hK hl
  have hown : s.vm.findClass "SlotScreen" = some m.cls := hown
  have hl : lv_has ls 3 [(0, .ref (q 0)), (1, .int x), (2, .int y)] := hl
  refine lv_aload_n hx hb d_SS_pixel_0 rfl (lv_at hl 0 rfl) ?_
  refine va_get (D := D) (ci := 0) (v := .ref (q 5)) (C := R_SS) (T := T_SS) (N := 3) hx hb hts in_SS hown hK hP 0 rfl rfl 2 (by decide) (hts _ w_95) (fun _ h9 => h9) rfl d_SS_pixel_1 ?_
  refine lv_iload_n hx hb d_SS_pixel_4 rfl (lv_at hl 1 rfl) ?_
  refine lv_iload_n hx hb d_SS_pixel_5 rfl (lv_at hl 2 rfl) ?_
  refine kr_iV (As := [.int x, .int y]) (rest := []) ⟨hx, hb, hml, hown, hts⟩ (c_SC_colorAtb l D k q ln px cv co B R sx pt rd wt x y hx9) (cwV 2 hts (gV w_249 w_250 w_251 w_4 w_252) rfl rfl rfl (by decide +kernel) ⟨Nat.le_of_ble_eq_true rfl, Nat.le_of_ble_eq_true rfl⟩) hK (hP.sub (ws' := (scW q k ln px cv co B R sx pt rd wt)) [5, 6, 7, 8, 9] rfl) (va_recv hK hP (ci := 3) (q0 := 5) rfl rfl) rfl hl.1 rfl (Nat.le_of_ble_eq_true rfl) d_SS_pixel_6 ⟨Nat.zero_le _, Nat.zero_le _⟩ ?_
  exact ro_reti hx hb hr hlocks d_SS_pixel_9 (rfl)
set_option maxHeartbeats 4000000 in
set_option maxRecDepth 100000 in
theorem c_SS_video (l : Launch) (D : va_G) (k : Nat → ClassId) (q : Nat → Nat) (gd : Nat → Option Nat) (wd : Nat → Nat) (se : Nat → Nat) (pr : Nat) (ln : Nat) (px : Nat → Nat) (cv : Nat) (co : Nat) (B : Nat → Nat) (R : Nat → Nat) (sx : Nat) (pt : Nat) (rd : Nat) (wt : Int32) (hB : ∀ j, B j < 256) (hR : ∀ j, R j < 256) (x : Nat) (hx9 : x < 512) : ro_i l y_SS_video b_SS_video 2 (some .int) { frames := 1, cells := 0, slots := 0, locals := 21 } D (kT k) (ssW q k gd wd se pr ln px cv co B R sx pt rd wt) [.ref (q 0), .int (nI x)] (nI (B x)) := by
  refine ro_headi (by decide) (Nat.le_of_ble_eq_true rfl) ?_
  intro p e s m below meth c ls hx hb hr hlocks hml hown hts hP hK hl
  have hown : s.vm.findClass "SlotScreen" = some m.cls := hown
  have hl : lv_has ls 2 [(0, .ref (q 0)), (1, .int (nI x))] := hl
  refine lv_iload_n hx hb d_SS_video_0 rfl (lv_at hl 1 rfl) ?_
  refine lv_if_lt (tgt := 22) hx hb d_SS_video_1 (by decide) (fun c1 => ?_) (fun c1 => ?_)
  · have c1 := (n_lt0 (by omega)).mp c1
    exfalso; omega
  · have c1 := mt (n_lt0 (by omega)).mpr c1
    refine lv_iload_n hx hb d_SS_video_4 rfl (lv_at hl 1 rfl) ?_
    refine lv_sipush (v := nI 512) hx hb d_SS_video_5 (by decide +kernel) ?_
    refine lv_icmp_ge (tgt := 22) hx hb d_SS_video_8 (by decide) (fun c2 => ?_) (fun c2 => ?_)
    · have c2 := (nI_leI (by omega) (by omega)).mp c2
      exfalso; omega
    · have c2 := mt (nI_leI (by omega) (by omega)).mpr c2
      refine lv_aload_n hx hb d_SS_video_11 rfl (lv_at hl 0 rfl) ?_
      refine va_get (D := D) (ci := 0) (v := .ref (q 7)) (C := R_SS) (T := T_SS) (N := 3) hx hb hts in_SS hown hK hP 0 rfl rfl 1 (by decide) (hts _ w_94) (fun _ h9 => h9) rfl d_SS_video_12 ?_
      refine lv_iload_n hx hb d_SS_video_15 rfl (lv_at hl 1 rfl) ?_
      have g3 := hB x
      refine kr_iV (As := [.int (nI x)]) (rest := []) ⟨hx, hb, hml, hown, hts⟩ (c_CH_byteAt l D k q B R sx pt rd wt x (by omega)) (cwV 1 hts (gV w_257 w_195 w_196 w_3 w_197) rfl rfl rfl (by decide +kernel) ⟨Nat.le_of_ble_eq_true rfl, Nat.le_of_ble_eq_true rfl⟩) hK (hP.sub (ws' := (chW q k B R sx pt rd wt)) [7, 8, 9] rfl) (va_recv hK hP (ci := 2) (q0 := 7) rfl rfl) rfl hl.1 rfl (Nat.le_of_ble_eq_true rfl) d_SS_video_16 ⟨Nat.zero_le _, Nat.zero_le _⟩ ?_
      refine lv_goto (tgt := 23) hx hb d_SS_video_19 (by decide) ?_
      exact ro_reti hx hb hr hlocks d_SS_video_23 (rfl)
set_option maxHeartbeats 4000000 in
set_option maxRecDepth 100000 in
theorem c_SS_videob (l : Launch) (D : va_G) (k : Nat → ClassId) (q : Nat → Nat) (gd : Nat → Option Nat) (wd : Nat → Nat) (se : Nat → Nat) (pr : Nat) (ln : Nat) (px : Nat → Nat) (cv : Nat) (co : Nat) (B : Nat → Nat) (R : Nat → Nat) (sx : Nat) (pt : Nat) (rd : Nat) (wt : Int32) (x : Int32) (hx9 : ¬ (0 ≤ x.toInt ∧ x.toInt ≤ 511)) : ro_i l y_SS_video b_SS_video 2 (some .int) { frames := 1, cells := 0, slots := 0, locals := 21 } D (kT k) (ssW q k gd wd se pr ln px cv co B R sx pt rd wt) [.ref (q 0), .int x] (-1) := by
  refine ro_headi (by decide) (Nat.le_of_ble_eq_true rfl) ?_
  intro p e s m below meth c ls hx hb hr hlocks hml hown hts hP hK hl
  have hown : s.vm.findClass "SlotScreen" = some m.cls := hown
  have hl : lv_has ls 2 [(0, .ref (q 0)), (1, .int x)] := hl
  refine lv_iload_n hx hb d_SS_video_0 rfl (lv_at hl 1 rfl) ?_
  refine lv_if_lt (tgt := 22) hx hb d_SS_video_1 (by decide) (fun c1 => ?_) (fun c1 => ?_)
  · have c1 := (z_lt0).mp c1
    refine lv_iconst (v := (-1)) hx hb d_SS_video_22 (by decide +kernel) ?_
    exact ro_reti hx hb hr hlocks d_SS_video_23 (rfl)
  · have c1 := mt (z_lt0).mpr c1
    refine lv_iload_n hx hb d_SS_video_4 rfl (lv_at hl 1 rfl) ?_
    refine lv_sipush (v := nI 512) hx hb d_SS_video_5 (by decide +kernel) ?_
    refine lv_icmp_ge (tgt := 22) hx hb d_SS_video_8 (by decide) (fun c2 => ?_) (fun c2 => ?_)
    · have c2 := (nz_le (by omega)).mp c2
      refine lv_iconst (v := (-1)) hx hb d_SS_video_22 (by decide +kernel) ?_
      exact ro_reti hx hb hr hlocks d_SS_video_23 (rfl)
    · have c2 := mt (nz_le (by omega)).mpr c2
      exfalso; omega
set_option maxHeartbeats 4000000 in
set_option maxRecDepth 100000 in
theorem c_SS_chipr (l : Launch) (D : va_G) (k : Nat → ClassId) (q : Nat → Nat) (gd : Nat → Option Nat) (wd : Nat → Nat) (se : Nat → Nat) (pr : Nat) (ln : Nat) (px : Nat → Nat) (cv : Nat) (co : Nat) (B : Nat → Nat) (R : Nat → Nat) (sx : Nat) (pt : Nat) (rd : Nat) (wt : Int32) (x : Nat) (hx9 : x < 8) : ro_i l y_SS_chip b_SS_chip 2 (some .int) { frames := 1, cells := 0, slots := 0, locals := 21 } D (kT k) (ssW q k gd wd se pr ln px cv co B R sx pt rd wt) [.ref (q 0), .int (nI x)] (nI (R x)) := by
  refine ro_headi (by decide) (Nat.le_of_ble_eq_true rfl) ?_
  intro p e s m below meth c ls hx hb hr hlocks hml hown hts hP hK hl
  have hown : s.vm.findClass "SlotScreen" = some m.cls := hown
  have hl : lv_has ls 2 [(0, .ref (q 0)), (1, .int (nI x))] := hl
  refine lv_aload_n hx hb d_SS_chip_0 rfl (lv_at hl 0 rfl) ?_
  refine va_get (D := D) (ci := 0) (v := .ref (q 7)) (C := R_SS) (T := T_SS) (N := 3) hx hb hts in_SS hown hK hP 0 rfl rfl 1 (by decide) (hts _ w_94) (fun _ h9 => h9) rfl d_SS_chip_1 ?_
  refine lv_iload_n hx hb d_SS_chip_4 rfl (lv_at hl 1 rfl) ?_
  refine kr_iV (As := [.int (nI x)]) (rest := []) ⟨hx, hb, hml, hown, hts⟩ (c_CH_valuer l D k q B R sx pt rd wt x (by omega)) (cwV 1 hts (gV w_262 w_263 w_264 w_3 w_265) rfl rfl rfl (by decide +kernel) ⟨Nat.le_of_ble_eq_true rfl, Nat.le_of_ble_eq_true rfl⟩) hK (hP.sub (ws' := (chW q k B R sx pt rd wt)) [7, 8, 9] rfl) (va_recv hK hP (ci := 2) (q0 := 7) rfl rfl) rfl hl.1 rfl (Nat.le_of_ble_eq_true rfl) d_SS_chip_5 ⟨Nat.zero_le _, Nat.zero_le _⟩ ?_
  exact ro_reti hx hb hr hlocks d_SS_chip_8 (rfl)
set_option maxHeartbeats 4000000 in
set_option maxRecDepth 100000 in
theorem c_SS_chip8 (l : Launch) (D : va_G) (k : Nat → ClassId) (q : Nat → Nat) (gd : Nat → Option Nat) (wd : Nat → Nat) (se : Nat → Nat) (pr : Nat) (ln : Nat) (px : Nat → Nat) (cv : Nat) (co : Nat) (B : Nat → Nat) (R : Nat → Nat) (sx : Nat) (pt : Nat) (rd : Nat) (wt : Int32) : ro_i l y_SS_chip b_SS_chip 2 (some .int) { frames := 1, cells := 0, slots := 0, locals := 21 } D (kT k) (ssW q k gd wd se pr ln px cv co B R sx pt rd wt) [.ref (q 0), .int (nI 8)] (nI sx) := by
  refine ro_headi (by decide) (Nat.le_of_ble_eq_true rfl) ?_
  intro p e s m below meth c ls hx hb hr hlocks hml hown hts hP hK hl
  have hown : s.vm.findClass "SlotScreen" = some m.cls := hown
  have hl : lv_has ls 2 [(0, .ref (q 0)), (1, .int (nI 8))] := hl
  refine lv_aload_n hx hb d_SS_chip_0 rfl (lv_at hl 0 rfl) ?_
  refine va_get (D := D) (ci := 0) (v := .ref (q 7)) (C := R_SS) (T := T_SS) (N := 3) hx hb hts in_SS hown hK hP 0 rfl rfl 1 (by decide) (hts _ w_94) (fun _ h9 => h9) rfl d_SS_chip_1 ?_
  refine lv_iload_n hx hb d_SS_chip_4 rfl (lv_at hl 1 rfl) ?_
  refine kr_iV (As := [.int (nI 8)]) (rest := []) ⟨hx, hb, hml, hown, hts⟩ (c_CH_value8 l D k q B R sx pt rd wt ) (cwV 1 hts (gV w_262 w_263 w_264 w_3 w_265) rfl rfl rfl (by decide +kernel) ⟨Nat.le_of_ble_eq_true rfl, Nat.le_of_ble_eq_true rfl⟩) hK (hP.sub (ws' := (chW q k B R sx pt rd wt)) [7, 8, 9] rfl) (va_recv hK hP (ci := 2) (q0 := 7) rfl rfl) rfl hl.1 rfl (Nat.le_of_ble_eq_true rfl) d_SS_chip_5 ⟨Nat.zero_le _, Nat.zero_le _⟩ ?_
  exact ro_reti hx hb hr hlocks d_SS_chip_8 (rfl)
set_option maxHeartbeats 4000000 in
set_option maxRecDepth 100000 in
theorem c_SS_chip9 (l : Launch) (D : va_G) (k : Nat → ClassId) (q : Nat → Nat) (gd : Nat → Option Nat) (wd : Nat → Nat) (se : Nat → Nat) (pr : Nat) (ln : Nat) (px : Nat → Nat) (cv : Nat) (co : Nat) (B : Nat → Nat) (R : Nat → Nat) (sx : Nat) (pt : Nat) (rd : Nat) (wt : Int32) : ro_i l y_SS_chip b_SS_chip 2 (some .int) { frames := 1, cells := 0, slots := 0, locals := 21 } D (kT k) (ssW q k gd wd se pr ln px cv co B R sx pt rd wt) [.ref (q 0), .int (nI 9)] (nI pt) := by
  refine ro_headi (by decide) (Nat.le_of_ble_eq_true rfl) ?_
  intro p e s m below meth c ls hx hb hr hlocks hml hown hts hP hK hl
  have hown : s.vm.findClass "SlotScreen" = some m.cls := hown
  have hl : lv_has ls 2 [(0, .ref (q 0)), (1, .int (nI 9))] := hl
  refine lv_aload_n hx hb d_SS_chip_0 rfl (lv_at hl 0 rfl) ?_
  refine va_get (D := D) (ci := 0) (v := .ref (q 7)) (C := R_SS) (T := T_SS) (N := 3) hx hb hts in_SS hown hK hP 0 rfl rfl 1 (by decide) (hts _ w_94) (fun _ h9 => h9) rfl d_SS_chip_1 ?_
  refine lv_iload_n hx hb d_SS_chip_4 rfl (lv_at hl 1 rfl) ?_
  refine kr_iV (As := [.int (nI 9)]) (rest := []) ⟨hx, hb, hml, hown, hts⟩ (c_CH_value9 l D k q B R sx pt rd wt ) (cwV 1 hts (gV w_262 w_263 w_264 w_3 w_265) rfl rfl rfl (by decide +kernel) ⟨Nat.le_of_ble_eq_true rfl, Nat.le_of_ble_eq_true rfl⟩) hK (hP.sub (ws' := (chW q k B R sx pt rd wt)) [7, 8, 9] rfl) (va_recv hK hP (ci := 2) (q0 := 7) rfl rfl) rfl hl.1 rfl (Nat.le_of_ble_eq_true rfl) d_SS_chip_5 ⟨Nat.zero_le _, Nat.zero_le _⟩ ?_
  exact ro_reti hx hb hr hlocks d_SS_chip_8 (rfl)
set_option maxHeartbeats 4000000 in
set_option maxRecDepth 100000 in
theorem c_SS_chip10 (l : Launch) (D : va_G) (k : Nat → ClassId) (q : Nat → Nat) (gd : Nat → Option Nat) (wd : Nat → Nat) (se : Nat → Nat) (pr : Nat) (ln : Nat) (px : Nat → Nat) (cv : Nat) (co : Nat) (B : Nat → Nat) (R : Nat → Nat) (sx : Nat) (pt : Nat) (rd : Nat) (wt : Int32) : ro_i l y_SS_chip b_SS_chip 2 (some .int) { frames := 1, cells := 0, slots := 0, locals := 21 } D (kT k) (ssW q k gd wd se pr ln px cv co B R sx pt rd wt) [.ref (q 0), .int (nI 10)] (nI rd) := by
  refine ro_headi (by decide) (Nat.le_of_ble_eq_true rfl) ?_
  intro p e s m below meth c ls hx hb hr hlocks hml hown hts hP hK hl
  have hown : s.vm.findClass "SlotScreen" = some m.cls := hown
  have hl : lv_has ls 2 [(0, .ref (q 0)), (1, .int (nI 10))] := hl
  refine lv_aload_n hx hb d_SS_chip_0 rfl (lv_at hl 0 rfl) ?_
  refine va_get (D := D) (ci := 0) (v := .ref (q 7)) (C := R_SS) (T := T_SS) (N := 3) hx hb hts in_SS hown hK hP 0 rfl rfl 1 (by decide) (hts _ w_94) (fun _ h9 => h9) rfl d_SS_chip_1 ?_
  refine lv_iload_n hx hb d_SS_chip_4 rfl (lv_at hl 1 rfl) ?_
  refine kr_iV (As := [.int (nI 10)]) (rest := []) ⟨hx, hb, hml, hown, hts⟩ (c_CH_value10 l D k q B R sx pt rd wt ) (cwV 1 hts (gV w_262 w_263 w_264 w_3 w_265) rfl rfl rfl (by decide +kernel) ⟨Nat.le_of_ble_eq_true rfl, Nat.le_of_ble_eq_true rfl⟩) hK (hP.sub (ws' := (chW q k B R sx pt rd wt)) [7, 8, 9] rfl) (va_recv hK hP (ci := 2) (q0 := 7) rfl rfl) rfl hl.1 rfl (Nat.le_of_ble_eq_true rfl) d_SS_chip_5 ⟨Nat.zero_le _, Nat.zero_le _⟩ ?_
  exact ro_reti hx hb hr hlocks d_SS_chip_8 (rfl)
set_option maxHeartbeats 4000000 in
set_option maxRecDepth 100000 in
theorem c_SS_chip11 (l : Launch) (D : va_G) (k : Nat → ClassId) (q : Nat → Nat) (gd : Nat → Option Nat) (wd : Nat → Nat) (se : Nat → Nat) (pr : Nat) (ln : Nat) (px : Nat → Nat) (cv : Nat) (co : Nat) (B : Nat → Nat) (R : Nat → Nat) (sx : Nat) (pt : Nat) (rd : Nat) (wt : Int32) : ro_i l y_SS_chip b_SS_chip 2 (some .int) { frames := 1, cells := 0, slots := 0, locals := 21 } D (kT k) (ssW q k gd wd se pr ln px cv co B R sx pt rd wt) [.ref (q 0), .int (nI 11)] wt := by
  refine ro_headi (by decide) (Nat.le_of_ble_eq_true rfl) ?_
  intro p e s m below meth c ls hx hb hr hlocks hml hown hts hP hK hl
  have hown : s.vm.findClass "SlotScreen" = some m.cls := hown
  have hl : lv_has ls 2 [(0, .ref (q 0)), (1, .int (nI 11))] := hl
  refine lv_aload_n hx hb d_SS_chip_0 rfl (lv_at hl 0 rfl) ?_
  refine va_get (D := D) (ci := 0) (v := .ref (q 7)) (C := R_SS) (T := T_SS) (N := 3) hx hb hts in_SS hown hK hP 0 rfl rfl 1 (by decide) (hts _ w_94) (fun _ h9 => h9) rfl d_SS_chip_1 ?_
  refine lv_iload_n hx hb d_SS_chip_4 rfl (lv_at hl 1 rfl) ?_
  refine kr_iV (As := [.int (nI 11)]) (rest := []) ⟨hx, hb, hml, hown, hts⟩ (c_CH_value11 l D k q B R sx pt rd wt ) (cwV 1 hts (gV w_262 w_263 w_264 w_3 w_265) rfl rfl rfl (by decide +kernel) ⟨Nat.le_of_ble_eq_true rfl, Nat.le_of_ble_eq_true rfl⟩) hK (hP.sub (ws' := (chW q k B R sx pt rd wt)) [7, 8, 9] rfl) (va_recv hK hP (ci := 2) (q0 := 7) rfl rfl) rfl hl.1 rfl (Nat.le_of_ble_eq_true rfl) d_SS_chip_5 ⟨Nat.zero_le _, Nat.zero_le _⟩ ?_
  exact ro_reti hx hb hr hlocks d_SS_chip_8 (rfl)
set_option maxHeartbeats 4000000 in
set_option maxRecDepth 100000 in
theorem c_SS_chipb (l : Launch) (D : va_G) (k : Nat → ClassId) (q : Nat → Nat) (gd : Nat → Option Nat) (wd : Nat → Nat) (se : Nat → Nat) (pr : Nat) (ln : Nat) (px : Nat → Nat) (cv : Nat) (co : Nat) (B : Nat → Nat) (R : Nat → Nat) (sx : Nat) (pt : Nat) (rd : Nat) (wt : Int32) (x : Int32) (hx9 : ¬ (0 ≤ x.toInt ∧ x.toInt ≤ 11)) : ro_i l y_SS_chip b_SS_chip 2 (some .int) { frames := 1, cells := 0, slots := 0, locals := 21 } D (kT k) (ssW q k gd wd se pr ln px cv co B R sx pt rd wt) [.ref (q 0), .int x] (-1) := by
  refine ro_headi (by decide) (Nat.le_of_ble_eq_true rfl) ?_
  intro p e s m below meth c ls hx hb hr hlocks hml hown hts hP hK hl
  have hown : s.vm.findClass "SlotScreen" = some m.cls := hown
  have hl : lv_has ls 2 [(0, .ref (q 0)), (1, .int x)] := hl
  refine lv_aload_n hx hb d_SS_chip_0 rfl (lv_at hl 0 rfl) ?_
  refine va_get (D := D) (ci := 0) (v := .ref (q 7)) (C := R_SS) (T := T_SS) (N := 3) hx hb hts in_SS hown hK hP 0 rfl rfl 1 (by decide) (hts _ w_94) (fun _ h9 => h9) rfl d_SS_chip_1 ?_
  refine lv_iload_n hx hb d_SS_chip_4 rfl (lv_at hl 1 rfl) ?_
  refine kr_iV (As := [.int x]) (rest := []) ⟨hx, hb, hml, hown, hts⟩ (c_CH_valueb l D k q B R sx pt rd wt x hx9) (cwV 1 hts (gV w_262 w_263 w_264 w_3 w_265) rfl rfl rfl (by decide +kernel) ⟨Nat.le_of_ble_eq_true rfl, Nat.le_of_ble_eq_true rfl⟩) hK (hP.sub (ws' := (chW q k B R sx pt rd wt)) [7, 8, 9] rfl) (va_recv hK hP (ci := 2) (q0 := 7) rfl rfl) rfl hl.1 rfl (Nat.le_of_ble_eq_true rfl) d_SS_chip_5 ⟨Nat.zero_le _, Nat.zero_le _⟩ ?_
  exact ro_reti hx hb hr hlocks d_SS_chip_8 (rfl)
set_option maxHeartbeats 4000000 in
set_option maxRecDepth 100000 in
theorem c_SS_secondary (l : Launch) (D : va_G) (k : Nat → ClassId) (q : Nat → Nat) (gd : Nat → Option Nat) (wd : Nat → Nat) (se : Nat → Nat) (pr : Nat) (ln : Nat) (px : Nat → Nat) (cv : Nat) (co : Nat) (B : Nat → Nat) (R : Nat → Nat) (sx : Nat) (pt : Nat) (rd : Nat) (wt : Int32) (hwd : ∀ j, wd j < 2) (hse : ∀ j, se j < 256) (hpr : pr < 256) (x : Nat) (hx9 : x < 4) (hw : wd x = 1) : ro_i l y_SS_secondary b_SS_secondary 2 (some .int) { frames := 1, cells := 0, slots := 0, locals := 21 } D (kT k) (ssW q k gd wd se pr ln px cv co B R sx pt rd wt) [.ref (q 0), .int (nI x)] (nI (se x)) := by
  refine ro_headi (by decide) (Nat.le_of_ble_eq_true rfl) ?_
  intro p e s m below meth c ls hx hb hr hlocks hml hown hts hP hK hl
  have hown : s.vm.findClass "SlotScreen" = some m.cls := hown
  have hl : lv_has ls 2 [(0, .ref (q 0)), (1, .int (nI x))] := hl
  refine lv_iload_n hx hb d_SS_secondary_0 rfl (lv_at hl 1 rfl) ?_
  refine kr_iS (As := [.int (nI x)]) (rest := []) ⟨hx, hb, hml, hown, hts⟩ (c_SS_isSlotN l D k x (by omega)) (va_cwS 1 hts (gS w_107 w_108 w_1 w_109) rfl rfl rfl (by decide +kernel) ⟨Nat.le_of_ble_eq_true rfl, Nat.le_of_ble_eq_true rfl⟩) hK va_nil rfl hl.1 rfl (Nat.le_of_ble_eq_true rfl) d_SS_secondary_1 ⟨Nat.zero_le _, Nat.zero_le _⟩ ?_
  refine lv_if_eq (tgt := 29) hx hb d_SS_secondary_4 (by decide) (fun c1 => ?_) (fun c1 => ?_)
  · have c1 := (bI_0).mp c1
    exfalso; omega
  · have c1 := mt (bI_0).mpr c1
    have c1 := Classical.not_not.mp c1
    refine lv_aload_n hx hb d_SS_secondary_7 rfl (lv_at hl 0 rfl) ?_
    refine va_get (D := D) (ci := 0) (v := .ref (q 1)) (C := R_SS) (T := T_SS) (N := 3) hx hb hts in_SS hown hK hP 0 rfl rfl 0 (by decide) (hts _ w_93) (fun _ h9 => h9) rfl d_SS_secondary_8 ?_
    refine lv_iload_n hx hb d_SS_secondary_11 rfl (lv_at hl 1 rfl) ?_
    have g2 := hwd x
    refine kr_iV (As := [.int (nI x)]) (rest := []) ⟨hx, hb, hml, hown, hts⟩ (c_SL_isWide l D k q gd wd se pr hwd hse (by omega) x (by omega)) (cwV 1 hts (gV w_270 w_271 w_272 w_2 w_273) rfl rfl rfl (by decide +kernel) ⟨Nat.le_of_ble_eq_true rfl, Nat.le_of_ble_eq_true rfl⟩) hK (hP.sub (ws' := (slW q k gd wd se pr)) [1, 2, 3, 4] rfl) (va_recv hK hP (ci := 1) (q0 := 1) rfl rfl) rfl hl.1 rfl (Nat.le_of_ble_eq_true rfl) d_SS_secondary_12 ⟨Nat.zero_le _, Nat.zero_le _⟩ ?_
    refine lv_if_eq (tgt := 29) hx hb d_SS_secondary_15 (by decide) (fun c3 => ?_) (fun c3 => ?_)
    · have c3 := (n_eq0 (by omega)).mp c3
      exfalso; omega
    · have c3 := mt (n_eq0 (by omega)).mpr c3
      refine lv_aload_n hx hb d_SS_secondary_18 rfl (lv_at hl 0 rfl) ?_
      refine va_get (D := D) (ci := 0) (v := .ref (q 1)) (C := R_SS) (T := T_SS) (N := 3) hx hb hts in_SS hown hK hP 0 rfl rfl 0 (by decide) (hts _ w_93) (fun _ h9 => h9) rfl d_SS_secondary_19 ?_
      refine lv_iload_n hx hb d_SS_secondary_22 rfl (lv_at hl 1 rfl) ?_
      refine kr_iV (As := [.int (nI x)]) (rest := []) ⟨hx, hb, hml, hown, hts⟩ (c_SL_secondaryOf l D k q gd wd se pr x (by omega)) (cwV 1 hts (gV w_274 w_275 w_276 w_2 w_277) rfl rfl rfl (by decide +kernel) ⟨Nat.le_of_ble_eq_true rfl, Nat.le_of_ble_eq_true rfl⟩) hK (hP.sub (ws' := (slW q k gd wd se pr)) [1, 2, 3, 4] rfl) (va_recv hK hP (ci := 1) (q0 := 1) rfl rfl) rfl hl.1 rfl (Nat.le_of_ble_eq_true rfl) d_SS_secondary_23 ⟨Nat.zero_le _, Nat.zero_le _⟩ ?_
      refine lv_goto (tgt := 30) hx hb d_SS_secondary_26 (by decide) ?_
      exact ro_reti hx hb hr hlocks d_SS_secondary_30 (rfl)
set_option maxHeartbeats 4000000 in
set_option maxRecDepth 100000 in
theorem c_SS_secondary0 (l : Launch) (D : va_G) (k : Nat → ClassId) (q : Nat → Nat) (gd : Nat → Option Nat) (wd : Nat → Nat) (se : Nat → Nat) (pr : Nat) (ln : Nat) (px : Nat → Nat) (cv : Nat) (co : Nat) (B : Nat → Nat) (R : Nat → Nat) (sx : Nat) (pt : Nat) (rd : Nat) (wt : Int32) (hwd : ∀ j, wd j < 2) (hse : ∀ j, se j < 256) (hpr : pr < 256) (x : Nat) (hx9 : x < 4) (hw : wd x ≠ 1) : ro_i l y_SS_secondary b_SS_secondary 2 (some .int) { frames := 1, cells := 0, slots := 0, locals := 21 } D (kT k) (ssW q k gd wd se pr ln px cv co B R sx pt rd wt) [.ref (q 0), .int (nI x)] (-1) := by
  refine ro_headi (by decide) (Nat.le_of_ble_eq_true rfl) ?_
  intro p e s m below meth c ls hx hb hr hlocks hml hown hts hP hK hl
  have hown : s.vm.findClass "SlotScreen" = some m.cls := hown
  have hl : lv_has ls 2 [(0, .ref (q 0)), (1, .int (nI x))] := hl
  refine lv_iload_n hx hb d_SS_secondary_0 rfl (lv_at hl 1 rfl) ?_
  refine kr_iS (As := [.int (nI x)]) (rest := []) ⟨hx, hb, hml, hown, hts⟩ (c_SS_isSlotN l D k x (by omega)) (va_cwS 1 hts (gS w_107 w_108 w_1 w_109) rfl rfl rfl (by decide +kernel) ⟨Nat.le_of_ble_eq_true rfl, Nat.le_of_ble_eq_true rfl⟩) hK va_nil rfl hl.1 rfl (Nat.le_of_ble_eq_true rfl) d_SS_secondary_1 ⟨Nat.zero_le _, Nat.zero_le _⟩ ?_
  refine lv_if_eq (tgt := 29) hx hb d_SS_secondary_4 (by decide) (fun c1 => ?_) (fun c1 => ?_)
  · have c1 := (bI_0).mp c1
    exfalso; omega
  · have c1 := mt (bI_0).mpr c1
    have c1 := Classical.not_not.mp c1
    refine lv_aload_n hx hb d_SS_secondary_7 rfl (lv_at hl 0 rfl) ?_
    refine va_get (D := D) (ci := 0) (v := .ref (q 1)) (C := R_SS) (T := T_SS) (N := 3) hx hb hts in_SS hown hK hP 0 rfl rfl 0 (by decide) (hts _ w_93) (fun _ h9 => h9) rfl d_SS_secondary_8 ?_
    refine lv_iload_n hx hb d_SS_secondary_11 rfl (lv_at hl 1 rfl) ?_
    have g2 := hwd x
    refine kr_iV (As := [.int (nI x)]) (rest := []) ⟨hx, hb, hml, hown, hts⟩ (c_SL_isWide l D k q gd wd se pr hwd hse (by omega) x (by omega)) (cwV 1 hts (gV w_270 w_271 w_272 w_2 w_273) rfl rfl rfl (by decide +kernel) ⟨Nat.le_of_ble_eq_true rfl, Nat.le_of_ble_eq_true rfl⟩) hK (hP.sub (ws' := (slW q k gd wd se pr)) [1, 2, 3, 4] rfl) (va_recv hK hP (ci := 1) (q0 := 1) rfl rfl) rfl hl.1 rfl (Nat.le_of_ble_eq_true rfl) d_SS_secondary_12 ⟨Nat.zero_le _, Nat.zero_le _⟩ ?_
    refine lv_if_eq (tgt := 29) hx hb d_SS_secondary_15 (by decide) (fun c3 => ?_) (fun c3 => ?_)
    · have c3 := (n_eq0 (by omega)).mp c3
      refine lv_iconst (v := (-1)) hx hb d_SS_secondary_29 (by decide +kernel) ?_
      exact ro_reti hx hb hr hlocks d_SS_secondary_30 (rfl)
    · have c3 := mt (n_eq0 (by omega)).mpr c3
      exfalso; omega
set_option maxHeartbeats 4000000 in
set_option maxRecDepth 100000 in
theorem c_SS_secondaryb (l : Launch) (D : va_G) (k : Nat → ClassId) (q : Nat → Nat) (gd : Nat → Option Nat) (wd : Nat → Nat) (se : Nat → Nat) (pr : Nat) (ln : Nat) (px : Nat → Nat) (cv : Nat) (co : Nat) (B : Nat → Nat) (R : Nat → Nat) (sx : Nat) (pt : Nat) (rd : Nat) (wt : Int32) (x : Int32) (hx9 : ¬ (0 ≤ x.toInt ∧ x.toInt ≤ 3)) : ro_i l y_SS_secondary b_SS_secondary 2 (some .int) { frames := 1, cells := 0, slots := 0, locals := 21 } D (kT k) (ssW q k gd wd se pr ln px cv co B R sx pt rd wt) [.ref (q 0), .int x] (-1) := by
  refine ro_headi (by decide) (Nat.le_of_ble_eq_true rfl) ?_
  intro p e s m below meth c ls hx hb hr hlocks hml hown hts hP hK hl
  have hown : s.vm.findClass "SlotScreen" = some m.cls := hown
  have hl : lv_has ls 2 [(0, .ref (q 0)), (1, .int x)] := hl
  refine lv_iload_n hx hb d_SS_secondary_0 rfl (lv_at hl 1 rfl) ?_
  refine kr_iS (As := [.int x]) (rest := []) ⟨hx, hb, hml, hown, hts⟩ (c_SS_isSlot l D k x) (va_cwS 1 hts (gS w_107 w_108 w_1 w_109) rfl rfl rfl (by decide +kernel) ⟨Nat.le_of_ble_eq_true rfl, Nat.le_of_ble_eq_true rfl⟩) hK va_nil rfl hl.1 rfl (Nat.le_of_ble_eq_true rfl) d_SS_secondary_1 ⟨Nat.zero_le _, Nat.zero_le _⟩ ?_
  refine lv_if_eq (tgt := 29) hx hb d_SS_secondary_4 (by decide) (fun c1 => ?_) (fun c1 => ?_)
  · have c1 := (bI_0).mp c1
    refine lv_iconst (v := (-1)) hx hb d_SS_secondary_29 (by decide +kernel) ?_
    exact ro_reti hx hb hr hlocks d_SS_secondary_30 (rfl)
  · have c1 := mt (bI_0).mpr c1
    have c1 := Classical.not_not.mp c1
    exfalso; omega
set_option maxHeartbeats 4000000 in
set_option maxRecDepth 100000 in
theorem c_SS_calls (l : Launch) (D : va_G) (k : Nat → ClassId) (q : Nat → Nat) (gd : Nat → Option Nat) (wd : Nat → Nat) (se : Nat → Nat) (pr : Nat) (ln : Nat) (px : Nat → Nat) (cv : Nat) (co : Nat) (B : Nat → Nat) (R : Nat → Nat) (sx : Nat) (pt : Nat) (rd : Nat) (wt : Int32) (hB : ∀ j, B j < 256) (hR : ∀ j, R j < 256) (hsx : sx < 256) : ro_i l y_SS_calls b_SS_calls 1 (some .boolean) { frames := 1, cells := 0, slots := 0, locals := 20 } D (kT k) (ssW q k gd wd se pr ln px cv co B R sx pt rd wt) [.ref (q 0)] (bI (R 1 / 32 % 2 = 1 ∧ 127 < sx)) := by
  refine ro_headi (by decide) (Nat.le_of_ble_eq_true rfl) ?_
  intro p e s m below meth c ls hx hb hr hlocks hml hown hts hP hK hl
  have hown : s.vm.findClass "SlotScreen" = some m.cls := hown
  have hl : lv_has ls 1 [(0, .ref (q 0))] := hl
  refine lv_aload_n hx hb d_SS_calls_0 rfl (lv_at hl 0 rfl) ?_
  refine va_get (D := D) (ci := 0) (v := .ref (q 7)) (C := R_SS) (T := T_SS) (N := 3) hx hb hts in_SS hown hK hP 0 rfl rfl 1 (by decide) (hts _ w_94) (fun _ h9 => h9) rfl d_SS_calls_1 ?_
  refine kr_iV (As := []) (rest := []) ⟨hx, hb, hml, hown, hts⟩ (c_CH_wantsAttention l D k q B R sx pt rd wt hB hR (by omega)) (cwV 0 hts (gV w_282 w_283 w_284 w_3 w_285) rfl rfl rfl (by decide +kernel) ⟨Nat.le_of_ble_eq_true rfl, Nat.le_of_ble_eq_true rfl⟩) hK (hP.sub (ws' := (chW q k B R sx pt rd wt)) [7, 8, 9] rfl) (va_recv hK hP (ci := 2) (q0 := 7) rfl rfl) rfl hl.1 rfl (Nat.le_of_ble_eq_true rfl) d_SS_calls_4 ⟨Nat.zero_le _, Nat.zero_le _⟩ ?_
  exact ro_retz hx hb hr hlocks d_SS_calls_7 nb_bI (rfl)
