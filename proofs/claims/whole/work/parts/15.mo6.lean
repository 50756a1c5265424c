set_option maxHeartbeats 4000000 in
set_option maxRecDepth 100000 in
theorem c_MO_pixel (l : Launch) (D : va_G) (k : Nat → ClassId) (q : Nat → Nat) (cd : Int32) (wd : Nat → Nat) (se : Nat → Nat) (kd : Nat → Nat) (bn : Nat → Int32) (sh : Nat → Nat) (mb : Nat → Nat) (pr : Nat) (B : Nat → Nat) (R : Nat → Nat) (sx : Nat) (pt : Nat) (rd : Nat) (wt : Int32) (ln : Nat) (px : Nat → Nat) (x y : Nat) (hx9 : x < 64) (hy9 : y < 32) : rw_i l y_MO_pixel b_MO_pixel 3 (some .int) { frames := 1, cells := 0, slots := 0, locals := 22 } D (kT k) (mW q k cd wd se kd bn sh mb pr B R sx pt rd wt ln px) [.ref (q 0), .int (nI x), .int (nI y)] (fun (r : Int32) (_ : Unit) => r = nI (px (64 * y + x))) (fun (_ : Unit) => (mW q k (nI 0) wd se kd bn sh mb pr B R sx pt rd wt ln px)) := by
  refine rw_headi (by decide) (Nat.le_of_ble_eq_true rfl) ?_
  intro p e s m below meth c ls A hx hb hr hlocks hml hown hts hK hA hP hD hS hl
  have hown : s.vm.findClass "SlotScreenModel" = some m.cls := hown
  have hl : lv_has ls 3 [(0, .ref (q 0)), (1, .int (nI x)), (2, .int (nI y))] := hl
  refine lv_aload_n hx hb d_MO_pixel_0 rfl (lv_at hl 0 rfl) ?_
  refine lv_iconst (v := nI 0) hx hb d_MO_pixel_1 (by decide +kernel) ?_
  refine va_put (D := D) (ci := 7) (v := .int (nI 0)) (ty := .int) (C := R_MO) (T := T_MO) (N := 16) hx hb hts in_MO t_MO o_MO n_MO hown hK hP hD hS 0 rfl rfl 0 (by decide) (hts _ w_530) (fun _ h9 => h9) rfl (by decide +kernel) rfl rfl (Nat.le_of_ble_eq_true rfl) d_MO_pixel_2 (fun H locs hP hD hS => ?_)
  have hP : va_P D vwCl (mW q k (nI 0) wd se kd bn sh mb pr B R sx pt rd wt ln px) H := hP
  have hD : va_D A (mW q k (nI 0) wd se kd bn sh mb pr B R sx pt rd wt ln px) := hD
  refine lv_iload_n hx hb d_MO_pixel_5 rfl (lv_at hl 1 rfl) ?_
  refine lv_iconst (v := nI 0) hx hb d_MO_pixel_6 (by decide +kernel) ?_
  refine lv_bipush (v := nI 63) hx hb d_MO_pixel_7 (by decide +kernel) ?_
  refine kr_iS (As := [.int (nI x), .int (nI 0), .int (nI 63)]) (rest := []) ⟨hx, hb, hml, hown, hts⟩ (c_MO_within l D k x 0 63 (by omega) (by omega) (by omega)) (va_cwS 3 hts (gS w_587 w_588 w_5 w_589) rfl rfl rfl (by decide +kernel) ⟨Nat.le_of_ble_eq_true rfl, Nat.le_of_ble_eq_true rfl⟩) hK va_nil rfl hl.1 rfl (Nat.le_of_ble_eq_true rfl) d_MO_pixel_9 ⟨Nat.zero_le _, Nat.zero_le _⟩ ?_
  refine lv_if_eq (tgt := 39) hx hb d_MO_pixel_12 (by decide) (fun c1 => ?_) (fun c1 => ?_)
  · have c1 := (bI_0).mp c1
    exfalso; omega
  · have c1 := mt (bI_0).mpr c1
    have c1 := Classical.not_not.mp c1
    refine lv_iload_n hx hb d_MO_pixel_15 rfl (lv_at hl 2 rfl) ?_
    refine lv_iconst (v := nI 0) hx hb d_MO_pixel_16 (by decide +kernel) ?_
    refine lv_bipush (v := nI 31) hx hb d_MO_pixel_17 (by decide +kernel) ?_
    refine kr_iS (As := [.int (nI y), .int (nI 0), .int (nI 31)]) (rest := []) ⟨hx, hb, hml, hown, hts⟩ (c_MO_within l D k y 0 31 (by omega) (by omega) (by omega)) (va_cwS 3 hts (gS w_587 w_588 w_5 w_589) rfl rfl rfl (by decide +kernel) ⟨Nat.le_of_ble_eq_true rfl, Nat.le_of_ble_eq_true rfl⟩) hK va_nil rfl hl.1 rfl (Nat.le_of_ble_eq_true rfl) d_MO_pixel_19 ⟨Nat.zero_le _, Nat.zero_le _⟩ ?_
    refine lv_if_eq (tgt := 39) hx hb d_MO_pixel_22 (by decide) (fun c2 => ?_) (fun c2 => ?_)
    · have c2 := (bI_0).mp c2
      exfalso; omega
    · have c2 := mt (bI_0).mpr c2
      have c2 := Classical.not_not.mp c2
      refine lv_aload_n hx hb d_MO_pixel_25 rfl (lv_at hl 0 rfl) ?_
      refine va_get (D := D) (ci := 7) (v := .ref (q 9)) (C := R_MO) (T := T_MO) (N := 16) hx hb hts in_MO hown hK hP 0 rfl rfl 15 (by decide) (hts _ w_545) (fun _ h9 => h9) rfl d_MO_pixel_26 ?_
      refine lv_bipush (v := nI 64) hx hb d_MO_pixel_29 (by decide +kernel) ?_
      refine lv_iload_n hx hb d_MO_pixel_31 rfl (lv_at hl 2 rfl) ?_
      refine lv_imul hx hb d_MO_pixel_32 ?_
      refine ss_rt (y := nI (64 * y)) (pk_mul _ _) ?_
      refine lv_iload_n hx hb d_MO_pixel_33 rfl (lv_at hl 1 rfl) ?_
      refine lv_iadd hx hb d_MO_pixel_34 ?_
      refine ss_rt (y := nI (64 * y + x)) (nI_add _ _) ?_
      refine va_iald hx hb hK hP 9 0 rfl rfl (vp_in_nI (by omega) (by omega)) d_MO_pixel_35 ?_
      refine ss_rt (y := nI (px (64 * y + x))) (congrArg (fun z => nI (px z)) (nI_clamp (by omega))) ?_
      refine lv_goto (tgt := 40) hx hb d_MO_pixel_36 (by decide) ?_
      exact rw_reti hx hb hr hlocks d_MO_pixel_40 hS () (rfl) hP
set_option maxHeartbeats 4000000 in
set_option maxRecDepth 100000 in
theorem c_MO_pixelb (l : Launch) (D : va_G) (k : Nat → ClassId) (q : Nat → Nat) (cd : Int32) (wd : Nat → Nat) (se : Nat → Nat) (kd : Nat → Nat) (bn : Nat → Int32) (sh : Nat → Nat) (mb : Nat → Nat) (pr : Nat) (B : Nat → Nat) (R : Nat → Nat) (sx : Nat) (pt : Nat) (rd : Nat) (wt : Int32) (ln : Nat) (px : Nat → Nat) (x y : Int32) (hx9 : ¬ (0 ≤ x.toInt ∧ x.toInt ≤ 63 ∧ 0 ≤ y.toInt ∧ y.toInt ≤ 31)) : rw_i l y_MO_pixel b_MO_pixel 3 (some .int) { frames := 1, cells := 0, slots := 0, locals := 22 } D (kT k) (mW q k cd wd se kd bn sh mb pr B R sx pt rd wt ln px) [.ref (q 0), .int x, .int y] (fun (r : Int32) (_ : Unit) => r = (-1)) (fun (_ : Unit) => (mW q k (nI 0) wd se kd bn sh mb pr B R sx pt rd wt ln px)) := by
  refine rw_headi (by decide) (Nat.le_of_ble_eq_true rfl) ?_
  intro p e s m below meth c ls A hx hb hr hlocks hml hown hts hK hA hP hD hS hl
  have hown : s.vm.findClass "SlotScreenModel" = some m.cls := hown
  have hl : lv_has ls 3 [(0, .ref (q 0)), (1, .int x), (2, .int y)] := hl
  refine lv_aload_n hx hb d_MO_pixel_0 rfl (lv_at hl 0 rfl) ?_
  refine lv_iconst (v := nI 0) hx hb d_MO_pixel_1 (by decide +kernel) ?_
  refine va_put (D := D) (ci := 7) (v := .int (nI 0)) (ty := .int) (C := R_MO) (T := T_MO) (N := 16) hx hb hts in_MO t_MO o_MO n_MO hown hK hP hD hS 0 rfl rfl 0 (by decide) (hts _ w_530) (fun _ h9 => h9) rfl (by decide +kernel) rfl rfl (Nat.le_of_ble_eq_true rfl) d_MO_pixel_2 (fun H locs hP hD hS => ?_)
  have hP : va_P D vwCl (mW q k (nI 0) wd se kd bn sh mb pr B R sx pt rd wt ln px) H := hP
  have hD : va_D A (mW q k (nI 0) wd se kd bn sh mb pr B R sx pt rd wt ln px) := hD
  refine lv_iload_n hx hb d_MO_pixel_5 rfl (lv_at hl 1 rfl) ?_
  refine lv_iconst (v := nI 0) hx hb d_MO_pixel_6 (by decide +kernel) ?_
  refine lv_bipush (v := nI 63) hx hb d_MO_pixel_7 (by decide +kernel) ?_
  refine kr_iS (As := [.int x, .int (nI 0), .int (nI 63)]) (rest := []) ⟨hx, hb, hml, hown, hts⟩ (c_MO_withinZ l D k x 0 63 (by omega) (by omega)) (va_cwS 3 hts (gS w_587 w_588 w_5 w_589) rfl rfl rfl (by decide +kernel) ⟨Nat.le_of_ble_eq_true rfl, Nat.le_of_ble_eq_true rfl⟩) hK va_nil rfl hl.1 rfl (Nat.le_of_ble_eq_true rfl) d_MO_pixel_9 ⟨Nat.zero_le _, Nat.zero_le _⟩ ?_
  refine lv_if_eq (tgt := 39) hx hb d_MO_pixel_12 (by decide) (fun c1 => ?_) (fun c1 => ?_)
  · have c1 := (bI_0).mp c1
    refine lv_iconst (v := (-1)) hx hb d_MO_pixel_39 (by decide +kernel) ?_
    exact rw_reti hx hb hr hlocks d_MO_pixel_40 hS () (rfl) hP
  · have c1 := mt (bI_0).mpr c1
    have c1 := Classical.not_not.mp c1
    refine lv_iload_n hx hb d_MO_pixel_15 rfl (lv_at hl 2 rfl) ?_
    refine lv_iconst (v := nI 0) hx hb d_MO_pixel_16 (by decide +kernel) ?_
    refine lv_bipush (v := nI 31) hx hb d_MO_pixel_17 (by decide +kernel) ?_
    refine kr_iS (As := [.int y, .int (nI 0), .int (nI 31)]) (rest := []) ⟨hx, hb, hml, hown, hts⟩ (c_MO_withinZ l D k y 0 31 (by omega) (by omega)) (va_cwS 3 hts (gS w_587 w_588 w_5 w_589) rfl rfl rfl (by decide +kernel) ⟨Nat.le_of_ble_eq_true rfl, Nat.le_of_ble_eq_true rfl⟩) hK va_nil rfl hl.1 rfl (Nat.le_of_ble_eq_true rfl) d_MO_pixel_19 ⟨Nat.zero_le _, Nat.zero_le _⟩ ?_
    refine lv_if_eq (tgt := 39) hx hb d_MO_pixel_22 (by decide) (fun c2 => ?_) (fun c2 => ?_)
    · have c2 := (bI_0).mp c2
      refine lv_iconst (v := (-1)) hx hb d_MO_pixel_39 (by decide +kernel) ?_
      exact rw_reti hx hb hr hlocks d_MO_pixel_40 hS () (rfl) hP
    · have c2 := mt (bI_0).mpr c2
      have c2 := Classical.not_not.mp c2
      exfalso; omega
set_option maxHeartbeats 4000000 in
set_option maxRecDepth 100000 in
theorem c_MO_video (l : Launch) (D : va_G) (k : Nat → ClassId) (q : Nat → Nat) (cd : Int32) (wd : Nat → Nat) (se : Nat → Nat) (kd : Nat → Nat) (bn : Nat → Int32) (sh : Nat → Nat) (mb : Nat → Nat) (pr : Nat) (B : Nat → Nat) (R : Nat → Nat) (sx : Nat) (pt : Nat) (rd : Nat) (wt : Int32) (ln : Nat) (px : Nat → Nat) (x : Nat) (hx9 : x < 512) : rw_i l y_MO_video b_MO_video 2 (some .int) { frames := 1, cells := 0, slots := 0, locals := 22 } D (kT k) (mW q k cd wd se kd bn sh mb pr B R sx pt rd wt ln px) [.ref (q 0), .int (nI x)] (fun (r : Int32) (_ : Unit) => r = nI (B x)) (fun (_ : Unit) => (mW q k (nI 0) wd se kd bn sh mb pr B R sx pt rd wt ln px)) := by
  refine rw_headi (by decide) (Nat.le_of_ble_eq_true rfl) ?_
  intro p e s m below meth c ls A hx hb hr hlocks hml hown hts hK hA hP hD hS hl
  have hown : s.vm.findClass "SlotScreenModel" = some m.cls := hown
  have hl : lv_has ls 2 [(0, .ref (q 0)), (1, .int (nI x))] := hl
  refine lv_aload_n hx hb d_MO_video_0 rfl (lv_at hl 0 rfl) ?_
  refine lv_iconst (v := nI 0) hx hb d_MO_video_1 (by decide +kernel) ?_
  refine va_put (D := D) (ci := 7) (v := .int (nI 0)) (ty := .int) (C := R_MO) (T := T_MO) (N := 16) hx hb hts in_MO t_MO o_MO n_MO hown hK hP hD hS 0 rfl rfl 0 (by decide) (hts _ w_530) (fun _ h9 => h9) rfl (by decide +kernel) rfl rfl (Nat.le_of_ble_eq_true rfl) d_MO_video_2 (fun H locs hP hD hS => ?_)
  have hP : va_P D vwCl (mW q k (nI 0) wd se kd bn sh mb pr B R sx pt rd wt ln px) H := hP
  have hD : va_D A (mW q k (nI 0) wd se kd bn sh mb pr B R sx pt rd wt ln px) := hD
  refine lv_iload_n hx hb d_MO_video_5 rfl (lv_at hl 1 rfl) ?_
  refine lv_iconst (v := nI 0) hx hb d_MO_video_6 (by decide +kernel) ?_
  refine lv_sipush (v := nI 511) hx hb d_MO_video_7 (by decide +kernel) ?_
  refine kr_iS (As := [.int (nI x), .int (nI 0), .int (nI 511)]) (rest := []) ⟨hx, hb, hml, hown, hts⟩ (c_MO_within l D k x 0 511 (by omega) (by omega) (by omega)) (va_cwS 3 hts (gS w_587 w_588 w_5 w_589) rfl rfl rfl (by decide +kernel) ⟨Nat.le_of_ble_eq_true rfl, Nat.le_of_ble_eq_true rfl⟩) hK va_nil rfl hl.1 rfl (Nat.le_of_ble_eq_true rfl) d_MO_video_10 ⟨Nat.zero_le _, Nat.zero_le _⟩ ?_
  refine lv_if_eq (tgt := 25) hx hb d_MO_video_13 (by decide) (fun c1 => ?_) (fun c1 => ?_)
  · have c1 := (bI_0).mp c1
    exfalso; omega
  · have c1 := mt (bI_0).mpr c1
    have c1 := Classical.not_not.mp c1
    refine lv_aload_n hx hb d_MO_video_16 rfl (lv_at hl 0 rfl) ?_
    refine va_get (D := D) (ci := 7) (v := .ref (q 7)) (C := R_MO) (T := T_MO) (N := 16) hx hb hts in_MO hown hK hP 0 rfl rfl 8 (by decide) (hts _ w_538) (fun _ h9 => h9) rfl d_MO_video_17 ?_
    refine lv_iload_n hx hb d_MO_video_20 rfl (lv_at hl 1 rfl) ?_
    refine va_iald hx hb hK hP 7 0 rfl rfl (vp_in_nI (by omega) (by omega)) d_MO_video_21 ?_
    refine ss_rt (y := nI (B x)) (congrArg (fun z => nI (B z)) (nI_clamp (by omega))) ?_
    refine lv_goto (tgt := 26) hx hb d_MO_video_22 (by decide) ?_
    exact rw_reti hx hb hr hlocks d_MO_video_26 hS () (rfl) hP
set_option maxHeartbeats 4000000 in
set_option maxRecDepth 100000 in
theorem c_MO_videob (l : Launch) (D : va_G) (k : Nat → ClassId) (q : Nat → Nat) (cd : Int32) (wd : Nat → Nat) (se : Nat → Nat) (kd : Nat → Nat) (bn : Nat → Int32) (sh : Nat → Nat) (mb : Nat → Nat) (pr : Nat) (B : Nat → Nat) (R : Nat → Nat) (sx : Nat) (pt : Nat) (rd : Nat) (wt : Int32) (ln : Nat) (px : Nat → Nat) (x : Int32) (hx9 : ¬ (0 ≤ x.toInt ∧ x.toInt ≤ 511)) : rw_i l y_MO_video b_MO_video 2 (some .int) { frames := 1, cells := 0, slots := 0, locals := 22 } D (kT k) (mW q k cd wd se kd bn sh mb pr B R sx pt rd wt ln px) [.ref (q 0), .int x] (fun (r : Int32) (_ : Unit) => r = (-1)) (fun (_ : Unit) => (mW q k (nI 0) wd se kd bn sh mb pr B R sx pt rd wt ln px)) := by
  refine rw_headi (by decide) (Nat.le_of_ble_eq_true rfl) ?_
  intro p e s m below meth c ls A hx hb hr hlocks hml hown hts hK hA hP hD hS hl
  have hown : s.vm.findClass "SlotScreenModel" = some m.cls := hown
  have hl : lv_has ls 2 [(0, .ref (q 0)), (1, .int x)] := hl
  refine lv_aload_n hx hb d_MO_video_0 rfl (lv_at hl 0 rfl) ?_
  refine lv_iconst (v := nI 0) hx hb d_MO_video_1 (by decide +kernel) ?_
  refine va_put (D := D) (ci := 7) (v := .int (nI 0)) (ty := .int) (C := R_MO) (T := T_MO) (N := 16) hx hb hts in_MO t_MO o_MO n_MO hown hK hP hD hS 0 rfl rfl 0 (by decide) (hts _ w_530) (fun _ h9 => h9) rfl (by decide +kernel) rfl rfl (Nat.le_of_ble_eq_true rfl) d_MO_video_2 (fun H locs hP hD hS => ?_)
  have hP : va_P D vwCl (mW q k (nI 0) wd se kd bn sh mb pr B R sx pt rd wt ln px) H := hP
  have hD : va_D A (mW q k (nI 0) wd se kd bn sh mb pr B R sx pt rd wt ln px) := hD
  refine lv_iload_n hx hb d_MO_video_5 rfl (lv_at hl 1 rfl) ?_
  refine lv_iconst (v := nI 0) hx hb d_MO_video_6 (by decide +kernel) ?_
  refine lv_sipush (v := nI 511) hx hb d_MO_video_7 (by decide +kernel) ?_
  refine kr_iS (As := [.int x, .int (nI 0), .int (nI 511)]) (rest := []) ⟨hx, hb, hml, hown, hts⟩ (c_MO_withinZ l D k x 0 511 (by omega) (by omega)) (va_cwS 3 hts (gS w_587 w_588 w_5 w_589) rfl rfl rfl (by decide +kernel) ⟨Nat.le_of_ble_eq_true rfl, Nat.le_of_ble_eq_true rfl⟩) hK va_nil rfl hl.1 rfl (Nat.le_of_ble_eq_true rfl) d_MO_video_10 ⟨Nat.zero_le _, Nat.zero_le _⟩ ?_
  refine lv_if_eq (tgt := 25) hx hb d_MO_video_13 (by decide) (fun c1 => ?_) (fun c1 => ?_)
  · have c1 := (bI_0).mp c1
    refine lv_iconst (v := (-1)) hx hb d_MO_video_25 (by decide +kernel) ?_
    exact rw_reti hx hb hr hlocks d_MO_video_26 hS () (rfl) hP
  · have c1 := mt (bI_0).mpr c1
    have c1 := Classical.not_not.mp c1
    exfalso; omega
set_option maxHeartbeats 4000000 in
set_option maxRecDepth 100000 in
theorem c_MO_chipr (l : Launch) (D : va_G) (k : Nat → ClassId) (q : Nat → Nat) (cd : Int32) (wd : Nat → Nat) (se : Nat → Nat) (kd : Nat → Nat) (bn : Nat → Int32) (sh : Nat → Nat) (mb : Nat → Nat) (pr : Nat) (B : Nat → Nat) (R : Nat → Nat) (sx : Nat) (pt : Nat) (rd : Nat) (wt : Int32) (ln : Nat) (px : Nat → Nat) (x : Nat) (hx9 : x < 8) : rw_i l y_MO_chip b_MO_chip 2 (some .int) { frames := 1, cells := 0, slots := 0, locals := 22 } D (kT k) (mW q k cd wd se kd bn sh mb pr B R sx pt rd wt ln px) [.ref (q 0), .int (nI x)] (fun (r : Int32) (_ : Unit) => r = nI (R x)) (fun (_ : Unit) => (mW q k (nI 0) wd se kd bn sh mb pr B R sx pt rd wt ln px)) := by
  refine rw_headi (by decide) (Nat.le_of_ble_eq_true rfl) ?_
  intro p e s m below meth c ls A hx hb hr hlocks hml hown hts hK hA hP hD hS hl
  have hown : s.vm.findClass "SlotScreenModel" = some m.cls := hown
  have hl : lv_has ls 2 [(0, .ref (q 0)), (1, .int (nI x))] := hl
  refine lv_aload_n hx hb d_MO_chip_0 rfl (lv_at hl 0 rfl) ?_
  refine lv_iconst (v := nI 0) hx hb d_MO_chip_1 (by decide +kernel) ?_
  refine va_put (D := D) (ci := 7) (v := .int (nI 0)) (ty := .int) (C := R_MO) (T := T_MO) (N := 16) hx hb hts in_MO t_MO o_MO n_MO hown hK hP hD hS 0 rfl rfl 0 (by decide) (hts _ w_530) (fun _ h9 => h9) rfl (by decide +kernel) rfl rfl (Nat.le_of_ble_eq_true rfl) d_MO_chip_2 (fun H locs hP hD hS => ?_)
  have hP : va_P D vwCl (mW q k (nI 0) wd se kd bn sh mb pr B R sx pt rd wt ln px) H := hP
  have hD : va_D A (mW q k (nI 0) wd se kd bn sh mb pr B R sx pt rd wt ln px) := hD
  refine lv_iload_n hx hb d_MO_chip_5 rfl (lv_at hl 1 rfl) ?_
  refine lv_iconst (v := nI 0) hx hb d_MO_chip_6 (by decide +kernel) ?_
  refine lv_bipush (v := nI 7) hx hb d_MO_chip_7 (by decide +kernel) ?_
  refine kr_iS (As := [.int (nI x), .int (nI 0), .int (nI 7)]) (rest := []) ⟨hx, hb, hml, hown, hts⟩ (c_MO_within l D k x 0 7 (by omega) (by omega) (by omega)) (va_cwS 3 hts (gS w_587 w_588 w_5 w_589) rfl rfl rfl (by decide +kernel) ⟨Nat.le_of_ble_eq_true rfl, Nat.le_of_ble_eq_true rfl⟩) hK va_nil rfl hl.1 rfl (Nat.le_of_ble_eq_true rfl) d_MO_chip_9 ⟨Nat.zero_le _, Nat.zero_le _⟩ ?_
  refine lv_if_eq (tgt := 22) hx hb d_MO_chip_12 (by decide) (fun c1 => ?_) (fun c1 => ?_)
  · have c1 := (bI_0).mp c1
    exfalso; omega
  · have c1 := mt (bI_0).mpr c1
    have c1 := Classical.not_not.mp c1
    refine lv_aload_n hx hb d_MO_chip_15 rfl (lv_at hl 0 rfl) ?_
    refine va_get (D := D) (ci := 7) (v := .ref (q 8)) (C := R_MO) (T := T_MO) (N := 16) hx hb hts in_MO hown hK hP 0 rfl rfl 9 (by decide) (hts _ w_539) (fun _ h9 => h9) rfl d_MO_chip_16 ?_
    refine lv_iload_n hx hb d_MO_chip_19 rfl (lv_at hl 1 rfl) ?_
    refine va_iald hx hb hK hP 8 0 rfl rfl (vp_in_nI (by omega) (by omega)) d_MO_chip_20 ?_
    refine ss_rt (y := nI (R x)) (congrArg (fun z => nI (R z)) (nI_clamp (by omega))) ?_
    exact rw_reti hx hb hr hlocks d_MO_chip_21 hS () (rfl) hP
set_option maxHeartbeats 4000000 in
set_option maxRecDepth 100000 in
theorem c_MO_chip8 (l : Launch) (D : va_G) (k : Nat → ClassId) (q : Nat → Nat) (cd : Int32) (wd : Nat → Nat) (se : Nat → Nat) (kd : Nat → Nat) (bn : Nat → Int32) (sh : Nat → Nat) (mb : Nat → Nat) (pr : Nat) (B : Nat → Nat) (R : Nat → Nat) (sx : Nat) (pt : Nat) (rd : Nat) (wt : Int32) (ln : Nat) (px : Nat → Nat) : rw_i l y_MO_chip b_MO_chip 2 (some .int) { frames := 1, cells := 0, slots := 0, locals := 22 } D (kT k) (mW q k cd wd se kd bn sh mb pr B R sx pt rd wt ln px) [.ref (q 0), .int (nI 8)] (fun (r : Int32) (_ : Unit) => r = nI sx) (fun (_ : Unit) => (mW q k (nI 0) wd se kd bn sh mb pr B R sx pt rd wt ln px)) := by
  refine rw_headi (by decide) (Nat.le_of_ble_eq_true rfl) ?_
  intro p e s m below meth c ls A hx hb hr hlocks hml hown hts hK hA hP hD hS hl
  have hown : s.vm.findClass "SlotScreenModel" = some m.cls := hown
  have hl : lv_has ls 2 [(0, .ref (q 0)), (1, .int (nI 8))] := hl
  refine lv_aload_n hx hb d_MO_chip_0 rfl (lv_at hl 0 rfl) ?_
  refine lv_iconst (v := nI 0) hx hb d_MO_chip_1 (by decide +kernel) ?_
  refine va_put (D := D) (ci := 7) (v := .int (nI 0)) (ty := .int) (C := R_MO) (T := T_MO) (N := 16) hx hb hts in_MO t_MO o_MO n_MO hown hK hP hD hS 0 rfl rfl 0 (by decide) (hts _ w_530) (fun _ h9 => h9) rfl (by decide +kernel) rfl rfl (Nat.le_of_ble_eq_true rfl) d_MO_chip_2 (fun H locs hP hD hS => ?_)
  have hP : va_P D vwCl (mW q k (nI 0) wd se kd bn sh mb pr B R sx pt rd wt ln px) H := hP
  have hD : va_D A (mW q k (nI 0) wd se kd bn sh mb pr B R sx pt rd wt ln px) := hD
  refine lv_iload_n hx hb d_MO_chip_5 rfl (lv_at hl 1 rfl) ?_
  refine lv_iconst (v := nI 0) hx hb d_MO_chip_6 (by decide +kernel) ?_
  refine lv_bipush (v := nI 7) hx hb d_MO_chip_7 (by decide +kernel) ?_
  refine kr_iS (As := [.int (nI 8), .int (nI 0), .int (nI 7)]) (rest := []) ⟨hx, hb, hml, hown, hts⟩ (c_MO_within l D k 8 0 7 (by omega) (by omega) (by omega)) (va_cwS 3 hts (gS w_587 w_588 w_5 w_589) rfl rfl rfl (by decide +kernel) ⟨Nat.le_of_ble_eq_true rfl, Nat.le_of_ble_eq_true rfl⟩) hK va_nil rfl hl.1 rfl (Nat.le_of_ble_eq_true rfl) d_MO_chip_9 ⟨Nat.zero_le _, Nat.zero_le _⟩ ?_
  refine lv_if_eq (tgt := 22) hx hb d_MO_chip_12 (by decide) (fun c1 => ?_) (fun c1 => ?_)
  · have c1 := (bI_0).mp c1
    refine lv_iload_n hx hb d_MO_chip_22 rfl (lv_at hl 1 rfl) ?_
    refine lv_bipush (v := nI 8) hx hb d_MO_chip_23 (by decide +kernel) ?_
    refine lv_icmp_ne (tgt := 35) hx hb d_MO_chip_25 (by decide) (fun c2 => ?_) (fun c2 => ?_)
    · have c2 := mt (nI_eq (by omega) (by omega)).mpr c2
      exfalso; omega
    · have c2 := (nI_eq (by omega) (by omega)).mp c2
      refine lv_aload_n hx hb d_MO_chip_28 rfl (lv_at hl 0 rfl) ?_
      refine va_get (D := D) (ci := 7) (v := .int (nI sx)) (C := R_MO) (T := T_MO) (N := 16) hx hb hts in_MO hown hK hP 0 rfl rfl 10 (by decide) (hts _ w_540) (fun _ h9 => h9) rfl d_MO_chip_29 ?_
      refine lv_goto (tgt := 75) hx hb d_MO_chip_32 (by decide) ?_
      exact rw_reti hx hb hr hlocks d_MO_chip_75 hS () (rfl) hP
  · have c1 := mt (bI_0).mpr c1
    have c1 := Classical.not_not.mp c1
    exfalso; omega
set_option maxHeartbeats 4000000 in
set_option maxRecDepth 100000 in
theorem c_MO_chip9 (l : Launch) (D : va_G) (k : Nat → ClassId) (q : Nat → Nat) (cd : Int32) (wd : Nat → Nat) (se : Nat → Nat) (kd : Nat → Nat) (bn : Nat → Int32) (sh : Nat → Nat) (mb : Nat → Nat) (pr : Nat) (B : Nat → Nat) (R : Nat → Nat) (sx : Nat) (pt : Nat) (rd : Nat) (wt : Int32) (ln : Nat) (px : Nat → Nat) : rw_i l y_MO_chip b_MO_chip 2 (some .int) { frames := 1, cells := 0, slots := 0, locals := 22 } D (kT k) (mW q k cd wd se kd bn sh mb pr B R sx pt rd wt ln px) [.ref (q 0), .int (nI 9)] (fun (r : Int32) (_ : Unit) => r = nI pt) (fun (_ : Unit) => (mW q k (nI 0) wd se kd bn sh mb pr B R sx pt rd wt ln px)) := by
  refine rw_headi (by decide) (Nat.le_of_ble_eq_true rfl) ?_
  intro p e s m below meth c ls A hx hb hr hlocks hml hown hts hK hA hP hD hS hl
  have hown : s.vm.findClass "SlotScreenModel" = some m.cls := hown
  have hl : lv_has ls 2 [(0, .ref (q 0)), (1, .int (nI 9))] := hl
  refine lv_aload_n hx hb d_MO_chip_0 rfl (lv_at hl 0 rfl) ?_
  refine lv_iconst (v := nI 0) hx hb d_MO_chip_1 (by decide +kernel) ?_
  refine va_put (D := D) (ci := 7) (v := .int (nI 0)) (ty := .int) (C := R_MO) (T := T_MO) (N := 16) hx hb hts in_MO t_MO o_MO n_MO hown hK hP hD hS 0 rfl rfl 0 (by decide) (hts _ w_530) (fun _ h9 => h9) rfl (by decide +kernel) rfl rfl (Nat.le_of_ble_eq_true rfl) d_MO_chip_2 (fun H locs hP hD hS => ?_)
  have hP : va_P D vwCl (mW q k (nI 0) wd se kd bn sh mb pr B R sx pt rd wt ln px) H := hP
  have hD : va_D A (mW q k (nI 0) wd se kd bn sh mb pr B R sx pt rd wt ln px) := hD
  refine lv_iload_n hx hb d_MO_chip_5 rfl (lv_at hl 1 rfl) ?_
  refine lv_iconst (v := nI 0) hx hb d_MO_chip_6 (by decide +kernel) ?_
  refine lv_bipush (v := nI 7) hx hb d_MO_chip_7 (by decide +kernel) ?_
  refine kr_iS (As := [.int (nI 9), .int (nI 0), .int (nI 7)]) (rest := []) ⟨hx, hb, hml, hown, hts⟩ (c_MO_within l D k 9 0 7 (by omega) (by omega) (by omega)) (va_cwS 3 hts (gS w_587 w_588 w_5 w_589) rfl rfl rfl (by decide +kernel) ⟨Nat.le_of_ble_eq_true rfl, Nat.le_of_ble_eq_true rfl⟩) hK va_nil rfl hl.1 rfl (Nat.le_of_ble_eq_true rfl) d_MO_chip_9 ⟨Nat.zero_le _, Nat.zero_le _⟩ ?_
  refine lv_if_eq (tgt := 22) hx hb d_MO_chip_12 (by decide) (fun c1 => ?_) (fun c1 => ?_)
  · have c1 := (bI_0).mp c1
    refine lv_iload_n hx hb d_MO_chip_22 rfl (lv_at hl 1 rfl) ?_
    refine lv_bipush (v := nI 8) hx hb d_MO_chip_23 (by decide +kernel) ?_
    refine lv_icmp_ne (tgt := 35) hx hb d_MO_chip_25 (by decide) (fun c2 => ?_) (fun c2 => ?_)
    · have c2 := mt (nI_eq (by omega) (by omega)).mpr c2
      refine lv_iload_n hx hb d_MO_chip_35 rfl (lv_at hl 1 rfl) ?_
      refine lv_bipush (v := nI 9) hx hb d_MO_chip_36 (by decide +kernel) ?_
      refine lv_icmp_ne (tgt := 48) hx hb d_MO_chip_38 (by decide) (fun c3 => ?_) (fun c3 => ?_)
      · have c3 := mt (nI_eq (by omega) (by omega)).mpr c3
        exfalso; omega
      · have c3 := (nI_eq (by omega) (by omega)).mp c3
        refine lv_aload_n hx hb d_MO_chip_41 rfl (lv_at hl 0 rfl) ?_
        refine va_get (D := D) (ci := 7) (v := .int (nI pt)) (C := R_MO) (T := T_MO) (N := 16) hx hb hts in_MO hown hK hP 0 rfl rfl 11 (by decide) (hts _ w_541) (fun _ h9 => h9) rfl d_MO_chip_42 ?_
        refine lv_goto (tgt := 75) hx hb d_MO_chip_45 (by decide) ?_
        exact rw_reti hx hb hr hlocks d_MO_chip_75 hS () (rfl) hP
    · have c2 := (nI_eq (by omega) (by omega)).mp c2
      exfalso; omega
  · have c1 := mt (bI_0).mpr c1
    have c1 := Classical.not_not.mp c1
    exfalso; omega
set_option maxHeartbeats 4000000 in
set_option maxRecDepth 100000 in
theorem c_MO_chip10 (l : Launch) (D : va_G) (k : Nat → ClassId) (q : Nat → Nat) (cd : Int32) (wd : Nat → Nat) (se : Nat → Nat) (kd : Nat → Nat) (bn : Nat → Int32) (sh : Nat → Nat) (mb : Nat → Nat) (pr : Nat) (B : Nat → Nat) (R : Nat → Nat) (sx : Nat) (pt : Nat) (rd : Nat) (wt : Int32) (ln : Nat) (px : Nat → Nat) : rw_i l y_MO_chip b_MO_chip 2 (some .int) { frames := 1, cells := 0, slots := 0, locals := 22 } D (kT k) (mW q k cd wd se kd bn sh mb pr B R sx pt rd wt ln px) [.ref (q 0), .int (nI 10)] (fun (r : Int32) (_ : Unit) => r = nI rd) (fun (_ : Unit) => (mW q k (nI 0) wd se kd bn sh mb pr B R sx pt rd wt ln px)) := by
  refine rw_headi (by decide) (Nat.le_of_ble_eq_true rfl) ?_
  intro p e s m below meth c ls A hx hb hr hlocks hml hown hts hK hA hP hD hS hl
  have hown : s.vm.findClass "SlotScreenModel" = some m.cls := hown
  have hl : lv_has ls 2 [(0, .ref (q 0)), (1, .int (nI 10))] := hl
  refine lv_aload_n hx hb d_MO_chip_0 rfl (lv_at hl 0 rfl) ?_
  refine lv_iconst (v := nI 0) hx hb d_MO_chip_1 (by decide +kernel) ?_
  refine va_put (D := D) (ci := 7) (v := .int (nI 0)) (ty := .int) (C := R_MO) (T := T_MO) (N := 16) hx hb hts in_MO t_MO o_MO n_MO hown hK hP hD hS 0 rfl rfl 0 (by decide) (hts _ w_530) (fun _ h9 => h9) rfl (by decide +kernel) rfl rfl (Nat.le_of_ble_eq_true rfl) d_MO_chip_2 (fun H locs hP hD hS => ?_)
  have hP : va_P D vwCl (mW q k (nI 0) wd se kd bn sh mb pr B R sx pt rd wt ln px) H := hP
  have hD : va_D A (mW q k (nI 0) wd se kd bn sh mb pr B R sx pt rd wt ln px) := hD
  refine lv_iload_n hx hb d_MO_chip_5 rfl (lv_at hl 1 rfl) ?_
  refine lv_iconst (v := nI 0) hx hb d_MO_chip_6 (by decide +kernel) ?_
  refine lv_bipush (v := nI 7) hx hb d_MO_chip_7 (by decide +kernel) ?_
  refine kr_iS (As := [.int (nI 10), .int (nI 0), .int (nI 7)]) (rest := []) ⟨hx, hb, hml, hown, hts⟩ (c_MO_within l D k 10 0 7 (by omega) (by omega) (by omega)) (va_cwS 3 hts (gS w_587 w_588 w_5 w_589) rfl rfl rfl (by decide +kernel) ⟨Nat.le_of_ble_eq_true rfl, Nat.le_of_ble_eq_true rfl⟩) hK va_nil rfl hl.1 rfl (Nat.le_of_ble_eq_true rfl) d_MO_chip_9 ⟨Nat.zero_le _, Nat.zero_le _⟩ ?_
  refine lv_if_eq (tgt := 22) hx hb d_MO_chip_12 (by decide) (fun c1 => ?_) (fun c1 => ?_)
  · have c1 := (bI_0).mp c1
    refine lv_iload_n hx hb d_MO_chip_22 rfl (lv_at hl 1 rfl) ?_
    refine lv_bipush (v := nI 8) hx hb d_MO_chip_23 (by decide +kernel) ?_
    refine lv_icmp_ne (tgt := 35) hx hb d_MO_chip_25 (by decide) (fun c2 => ?_) (fun c2 => ?_)
    · have c2 := mt (nI_eq (by omega) (by omega)).mpr c2
      refine lv_iload_n hx hb d_MO_chip_35 rfl (lv_at hl 1 rfl) ?_
      refine lv_bipush (v := nI 9) hx hb d_MO_chip_36 (by decide +kernel) ?_
      refine lv_icmp_ne (tgt := 48) hx hb d_MO_chip_38 (by decide) (fun c3 => ?_) (fun c3 => ?_)
      · have c3 := mt (nI_eq (by omega) (by omega)).mpr c3
        refine lv_iload_n hx hb d_MO_chip_48 rfl (lv_at hl 1 rfl) ?_
        refine lv_bipush (v := nI 10) hx hb d_MO_chip_49 (by decide +kernel) ?_
        refine lv_icmp_ne (tgt := 61) hx hb d_MO_chip_51 (by decide) (fun c4 => ?_) (fun c4 => ?_)
        · have c4 := mt (nI_eq (by omega) (by omega)).mpr c4
          exfalso; omega
        · have c4 := (nI_eq (by omega) (by omega)).mp c4
          refine lv_aload_n hx hb d_MO_chip_54 rfl (lv_at hl 0 rfl) ?_
          refine va_get (D := D) (ci := 7) (v := .int (nI rd)) (C := R_MO) (T := T_MO) (N := 16) hx hb hts in_MO hown hK hP 0 rfl rfl 12 (by decide) (hts _ w_542) (fun _ h9 => h9) rfl d_MO_chip_55 ?_
          refine lv_goto (tgt := 75) hx hb d_MO_chip_58 (by decide) ?_
          exact rw_reti hx hb hr hlocks d_MO_chip_75 hS () (rfl) hP
      · have c3 := (nI_eq (by omega) (by omega)).mp c3
        exfalso; omega
    · have c2 := (nI_eq (by omega) (by omega)).mp c2
      exfalso; omega
  · have c1 := mt (bI_0).mpr c1
    have c1 := Classical.not_not.mp c1
    exfalso; omega
set_option maxHeartbeats 4000000 in
set_option maxRecDepth 100000 in
theorem c_MO_chip11 (l : Launch) (D : va_G) (k : Nat → ClassId) (q : Nat → Nat) (cd : Int32) (wd : Nat → Nat) (se : Nat → Nat) (kd : Nat → Nat) (bn : Nat → Int32) (sh : Nat → Nat) (mb : Nat → Nat) (pr : Nat) (B : Nat → Nat) (R : Nat → Nat) (sx : Nat) (pt : Nat) (rd : Nat) (wt : Int32) (ln : Nat) (px : Nat → Nat) : rw_i l y_MO_chip b_MO_chip 2 (some .int) { frames := 1, cells := 0, slots := 0, locals := 22 } D (kT k) (mW q k cd wd se kd bn sh mb pr B R sx pt rd wt ln px) [.ref (q 0), .int (nI 11)] (fun (r : Int32) (_ : Unit) => r = wt) (fun (_ : Unit) => (mW q k (nI 0) wd se kd bn sh mb pr B R sx pt rd wt ln px)) := by
  refine rw_headi (by decide) (Nat.le_of_ble_eq_true rfl) ?_
  intro p e s m below meth c ls A hx hb hr hlocks hml hown hts hK hA hP hD hS hl
  have hown : s.vm.findClass "SlotScreenModel" = some m.cls := hown
  have hl : lv_has ls 2 [(0, .ref (q 0)), (1, .int (nI 11))] := hl
  refine lv_aload_n hx hb d_MO_chip_0 rfl (lv_at hl 0 rfl) ?_
  refine lv_iconst (v := nI 0) hx hb d_MO_chip_1 (by decide +kernel) ?_
  refine va_put (D := D) (ci := 7) (v := .int (nI 0)) (ty := .int) (C := R_MO) (T := T_MO) (N := 16) hx hb hts in_MO t_MO o_MO n_MO hown hK hP hD hS 0 rfl rfl 0 (by decide) (hts _ w_530) (fun _ h9 => h9) rfl (by decide +kernel) rfl rfl (Nat.le_of_ble_eq_true rfl) d_MO_chip_2 (fun H locs hP hD hS => ?_)
  have hP : va_P D vwCl (mW q k (nI 0) wd se kd bn sh mb pr B R sx pt rd wt ln px) H := hP
  have hD : va_D A (mW q k (nI 0) wd se kd bn sh mb pr B R sx pt rd wt ln px) := hD
  refine lv_iload_n hx hb d_MO_chip_5 rfl (lv_at hl 1 rfl) ?_
  refine lv_iconst (v := nI 0) hx hb d_MO_chip_6 (by decide +kernel) ?_
  refine lv_bipush (v := nI 7) hx hb d_MO_chip_7 (by decide +kernel) ?_
  refine kr_iS (As := [.int (nI 11), .int (nI 0), .int (nI 7)]) (rest := []) ⟨hx, hb, hml, hown, hts⟩ (c_MO_within l D k 11 0 7 (by omega) (by omega) (by omega)) (va_cwS 3 hts (gS w_587 w_588 w_5 w_589) rfl rfl rfl (by decide +kernel) ⟨Nat.le_of_ble_eq_true rfl, Nat.le_of_ble_eq_true rfl⟩) hK va_nil rfl hl.1 rfl (Nat.le_of_ble_eq_true rfl) d_MO_chip_9 ⟨Nat.zero_le _, Nat.zero_le _⟩ ?_
  refine lv_if_eq (tgt := 22) hx hb d_MO_chip_12 (by decide) (fun c1 => ?_) (fun c1 => ?_)
  · have c1 := (bI_0).mp c1
    refine lv_iload_n hx hb d_MO_chip_22 rfl (lv_at hl 1 rfl) ?_
    refine lv_bipush (v := nI 8) hx hb d_MO_chip_23 (by decide +kernel) ?_
    refine lv_icmp_ne (tgt := 35) hx hb d_MO_chip_25 (by decide) (fun c2 => ?_) (fun c2 => ?_)
    · have c2 := mt (nI_eq (by omega) (by omega)).mpr c2
      refine lv_iload_n hx hb d_MO_chip_35 rfl (lv_at hl 1 rfl) ?_
      refine lv_bipush (v := nI 9) hx hb d_MO_chip_36 (by decide +kernel) ?_
      refine lv_icmp_ne (tgt := 48) hx hb d_MO_chip_38 (by decide) (fun c3 => ?_) (fun c3 => ?_)
      · have c3 := mt (nI_eq (by omega) (by omega)).mpr c3
        refine lv_iload_n hx hb d_MO_chip_48 rfl (lv_at hl 1 rfl) ?_
        refine lv_bipush (v := nI 10) hx hb d_MO_chip_49 (by decide +kernel) ?_
        refine lv_icmp_ne (tgt := 61) hx hb d_MO_chip_51 (by decide) (fun c4 => ?_) (fun c4 => ?_)
        · have c4 := mt (nI_eq (by omega) (by omega)).mpr c4
          refine lv_iload_n hx hb d_MO_chip_61 rfl (lv_at hl 1 rfl) ?_
          refine lv_bipush (v := nI 11) hx hb d_MO_chip_62 (by decide +kernel) ?_
          refine lv_icmp_ne (tgt := 74) hx hb d_MO_chip_64 (by decide) (fun c5 => ?_) (fun c5 => ?_)
          · have c5 := mt (nI_eq (by omega) (by omega)).mpr c5
            exfalso; omega
          · have c5 := (nI_eq (by omega) (by omega)).mp c5
            refine lv_aload_n hx hb d_MO_chip_67 rfl (lv_at hl 0 rfl) ?_
            refine va_get (D := D) (ci := 7) (v := .int wt) (C := R_MO) (T := T_MO) (N := 16) hx hb hts in_MO hown hK hP 0 rfl rfl 13 (by decide) (hts _ w_543) (fun _ h9 => h9) rfl d_MO_chip_68 ?_
            refine lv_goto (tgt := 75) hx hb d_MO_chip_71 (by decide) ?_
            exact rw_reti hx hb hr hlocks d_MO_chip_75 hS () (rfl) hP
        · have c4 := (nI_eq (by omega) (by omega)).mp c4
          exfalso; omega
      · have c3 := (nI_eq (by omega) (by omega)).mp c3
        exfalso; omega
    · have c2 := (nI_eq (by omega) (by omega)).mp c2
      exfalso; omega
  · have c1 := mt (bI_0).mpr c1
    have c1 := Classical.not_not.mp c1
    exfalso; omega
set_option maxHeartbeats 4000000 in
set_option maxRecDepth 100000 in
theorem c_MO_chipb (l : Launch) (D : va_G) (k : Nat → ClassId) (q : Nat → Nat) (cd : Int32) (wd : Nat → Nat) (se : Nat → Nat) (kd : Nat → Nat) (bn : Nat → Int32) (sh : Nat → Nat) (mb : Nat → Nat) (pr : Nat) (B : Nat → Nat) (R : Nat → Nat) (sx : Nat) (pt : Nat) (rd : Nat) (wt : Int32) (ln : Nat) (px : Nat → Nat) (x : Int32) (hx9 : ¬ (0 ≤ x.toInt ∧ x.toInt ≤ 11)) : rw_i l y_MO_chip b_MO_chip 2 (some .int) { frames := 1, cells := 0, slots := 0, locals := 22 } D (kT k) (mW q k cd wd se kd bn sh mb pr B R sx pt rd wt ln px) [.ref (q 0), .int x] (fun (r : Int32) (_ : Unit) => r = (-1)) (fun (_ : Unit) => (mW q k (nI 0) wd se kd bn sh mb pr B R sx pt rd wt ln px)) := by
  refine rw_headi (by decide) (Nat.le_of_ble_eq_true rfl) ?_
  intro p e s m below meth c ls A hx hb hr hlocks hml hown hts hK hA hP hD hS hl
  have hown : s.vm.findClass "SlotScreenModel" = some m.cls := hown
  have hl : lv_has ls 2 [(0, .ref (q 0)), (1, .int x)] := hl
  refine lv_aload_n hx hb d_MO_chip_0 rfl (lv_at hl 0 rfl) ?_
  refine lv_iconst (v := nI 0) hx hb d_MO_chip_1 (by decide +kernel) ?_
  refine va_put (D := D) (ci := 7) (v := .int (nI 0)) (ty := .int) (C := R_MO) (T := T_MO) (N := 16) hx hb hts in_MO t_MO o_MO n_MO hown hK hP hD hS 0 rfl rfl 0 (by decide) (hts _ w_530) (fun _ h9 => h9) rfl (by decide +kernel) rfl rfl (Nat.le_of_ble_eq_true rfl) d_MO_chip_2 (fun H locs hP hD hS => ?_)
  have hP : va_P D vwCl (mW q k (nI 0) wd se kd bn sh mb pr B R sx pt rd wt ln px) H := hP
  have hD : va_D A (mW q k (nI 0) wd se kd bn sh mb pr B R sx pt rd wt ln px) := hD
  refine lv_iload_n hx hb d_MO_chip_5 rfl (lv_at hl 1 rfl) ?_
  refine lv_iconst (v := nI 0) hx hb d_MO_chip_6 (by decide +kernel) ?_
  refine lv_bipush (v := nI 7) hx hb d_MO_chip_7 (by decide +kernel) ?_
  refine kr_iS (As := [.int x, .int (nI 0), .int (nI 7)]) (rest := []) ⟨hx, hb, hml, hown, hts⟩ (c_MO_withinZ l D k x 0 7 (by omega) (by omega)) (va_cwS 3 hts (gS w_587 w_588 w_5 w_589) rfl rfl rfl (by decide +kernel) ⟨Nat.le_of_ble_eq_true rfl, Nat.le_of_ble_eq_true rfl⟩) hK va_nil rfl hl.1 rfl (Nat.le_of_ble_eq_true rfl) d_MO_chip_9 ⟨Nat.zero_le _, Nat.zero_le _⟩ ?_
  refine lv_if_eq (tgt := 22) hx hb d_MO_chip_12 (by decide) (fun c1 => ?_) (fun c1 => ?_)
  · have c1 := (bI_0).mp c1
    refine lv_iload_n hx hb d_MO_chip_22 rfl (lv_at hl 1 rfl) ?_
    refine lv_bipush (v := nI 8) hx hb d_MO_chip_23 (by decide +kernel) ?_
    refine lv_icmp_ne (tgt := 35) hx hb d_MO_chip_25 (by decide) (fun c2 => ?_) (fun c2 => ?_)
    · have c2 := mt (zn_eq (by omega)).mpr c2
      refine lv_iload_n hx hb d_MO_chip_35 rfl (lv_at hl 1 rfl) ?_
      refine lv_bipush (v := nI 9) hx hb d_MO_chip_36 (by decide +kernel) ?_
      refine lv_icmp_ne (tgt := 48) hx hb d_MO_chip_38 (by decide) (fun c3 => ?_) (fun c3 => ?_)
      · have c3 := mt (zn_eq (by omega)).mpr c3
        refine lv_iload_n hx hb d_MO_chip_48 rfl (lv_at hl 1 rfl) ?_
        refine lv_bipush (v := nI 10) hx hb d_MO_chip_49 (by decide +kernel) ?_
        refine lv_icmp_ne (tgt := 61) hx hb d_MO_chip_51 (by decide) (fun c4 => ?_) (fun c4 => ?_)
        · have c4 := mt (zn_eq (by omega)).mpr c4
          refine lv_iload_n hx hb d_MO_chip_61 rfl (lv_at hl 1 rfl) ?_
          refine lv_bipush (v := nI 11) hx hb d_MO_chip_62 (by decide +kernel) ?_
          refine lv_icmp_ne (tgt := 74) hx hb d_MO_chip_64 (by decide) (fun c5 => ?_) (fun c5 => ?_)
          · have c5 := mt (zn_eq (by omega)).mpr c5
            refine lv_iconst (v := (-1)) hx hb d_MO_chip_74 (by decide +kernel) ?_
            exact rw_reti hx hb hr hlocks d_MO_chip_75 hS () (rfl) hP
          · have c5 := (zn_eq (by omega)).mp c5
            exfalso; omega
        · have c4 := (zn_eq (by omega)).mp c4
          exfalso; omega
      · have c3 := (zn_eq (by omega)).mp c3
        exfalso; omega
    · have c2 := (zn_eq (by omega)).mp c2
      exfalso; omega
  · have c1 := mt (bI_0).mpr c1
    have c1 := Classical.not_not.mp c1
    exfalso; omega
set_option maxHeartbeats 4000000 in
set_option maxRecDepth 100000 in
theorem c_MO_secondary (l : Launch) (D : va_G) (k : Nat → ClassId) (q : Nat → Nat) (cd : Int32) (wd : Nat → Nat) (se : Nat → Nat) (kd : Nat → Nat) (bn : Nat → Int32) (sh : Nat → Nat) (mb : Nat → Nat) (pr : Nat) (B : Nat → Nat) (R : Nat → Nat) (sx : Nat) (pt : Nat) (rd : Nat) (wt : Int32) (ln : Nat) (px : Nat → Nat) (j : Nat) (hj : j < 4) (h1 : wd j = 1) : rw_i l y_MO_secondary b_MO_secondary 2 (some .int) { frames := 1, cells := 0, slots := 0, locals := 22 } D (kT k) (mW q k cd wd se kd bn sh mb pr B R sx pt rd wt ln px) [.ref (q 0), .int (nI j)] (fun (r : Int32) (_ : Unit) => r = nI (se j)) (fun (_ : Unit) => (mW q k (nI 0) wd se kd bn sh mb pr B R sx pt rd wt ln px)) := by
  refine rw_headi (by decide) (Nat.le_of_ble_eq_true rfl) ?_
  intro p e s m below meth c ls A hx hb hr hlocks hml hown hts hK hA hP hD hS hl
  have hown : s.vm.findClass "SlotScreenModel" = some m.cls := hown
  have hl : lv_has ls 2 [(0, .ref (q 0)), (1, .int (nI j))] := hl
  refine lv_aload_n hx hb d_MO_secondary_0 rfl (lv_at hl 0 rfl) ?_
  refine lv_iconst (v := nI 0) hx hb d_MO_secondary_1 (by decide +kernel) ?_
  refine va_put (D := D) (ci := 7) (v := .int (nI 0)) (ty := .int) (C := R_MO) (T := T_MO) (N := 16) hx hb hts in_MO t_MO o_MO n_MO hown hK hP hD hS 0 rfl rfl 0 (by decide) (hts _ w_530) (fun _ h9 => h9) rfl (by decide +kernel) rfl rfl (Nat.le_of_ble_eq_true rfl) d_MO_secondary_2 (fun H locs hP hD hS => ?_)
  have hP : va_P D vwCl (mW q k (nI 0) wd se kd bn sh mb pr B R sx pt rd wt ln px) H := hP
  have hD : va_D A (mW q k (nI 0) wd se kd bn sh mb pr B R sx pt rd wt ln px) := hD
  refine lv_iload_n hx hb d_MO_secondary_5 rfl (lv_at hl 1 rfl) ?_
  refine lv_iconst (v := nI 0) hx hb d_MO_secondary_6 (by decide +kernel) ?_
  refine lv_iconst (v := nI 3) hx hb d_MO_secondary_7 (by decide +kernel) ?_
  refine kr_iS (As := [.int (nI j), .int (nI 0), .int (nI 3)]) (rest := []) ⟨hx, hb, hml, hown, hts⟩ (c_MO_within l D k j 0 3 (by omega) (by omega) (by omega)) (va_cwS 3 hts (gS w_587 w_588 w_5 w_589) rfl rfl rfl (by decide +kernel) ⟨Nat.le_of_ble_eq_true rfl, Nat.le_of_ble_eq_true rfl⟩) hK va_nil rfl hl.1 rfl (Nat.le_of_ble_eq_true rfl) d_MO_secondary_8 ⟨Nat.zero_le _, Nat.zero_le _⟩ ?_
  refine lv_if_eq (tgt := 32) hx hb d_MO_secondary_11 (by decide) (fun c1 => ?_) (fun c1 => ?_)
  · have c1 := (bI_0).mp c1
    exfalso; omega
  · have c1 := mt (bI_0).mpr c1
    have c1 := Classical.not_not.mp c1
    refine lv_aload_n hx hb d_MO_secondary_14 rfl (lv_at hl 0 rfl) ?_
    refine va_get (D := D) (ci := 7) (v := .ref (q 1)) (C := R_MO) (T := T_MO) (N := 16) hx hb hts in_MO hown hK hP 0 rfl rfl 1 (by decide) (hts _ w_531) (fun _ h9 => h9) rfl d_MO_secondary_15 ?_
    refine lv_iload_n hx hb d_MO_secondary_18 rfl (lv_at hl 1 rfl) ?_
    refine va_zald hx hb hK hP 1 1 rfl rfl (vp_in_nI (by omega) (by omega)) d_MO_secondary_19 ?_
    refine ss_rt (y := nI (wd j)) (congrArg (fun z => nI (wd z)) (nI_clamp (by omega))) ?_
    refine lv_if_eq (tgt := 32) hx hb d_MO_secondary_20 (by decide) (fun c2 => ?_) (fun c2 => ?_)
    · have c2 := (n_eq0 (by omega)).mp c2
      exfalso; omega
    · have c2 := mt (n_eq0 (by omega)).mpr c2
      refine lv_aload_n hx hb d_MO_secondary_23 rfl (lv_at hl 0 rfl) ?_
      refine va_get (D := D) (ci := 7) (v := .ref (q 2)) (C := R_MO) (T := T_MO) (N := 16) hx hb hts in_MO hown hK hP 0 rfl rfl 2 (by decide) (hts _ w_532) (fun _ h9 => h9) rfl d_MO_secondary_24 ?_
      refine lv_iload_n hx hb d_MO_secondary_27 rfl (lv_at hl 1 rfl) ?_
      refine va_iald hx hb hK hP 2 0 rfl rfl (vp_in_nI (by omega) (by omega)) d_MO_secondary_28 ?_
      refine ss_rt (y := nI (se j)) (congrArg (fun z => nI (se z)) (nI_clamp (by omega))) ?_
      refine lv_goto (tgt := 33) hx hb d_MO_secondary_29 (by decide) ?_
      exact rw_reti hx hb hr hlocks d_MO_secondary_33 hS () (rfl) hP
set_option maxHeartbeats 4000000 in
set_option maxRecDepth 100000 in
theorem c_MO_secondary0 (l : Launch) (D : va_G) (k : Nat → ClassId) (q : Nat → Nat) (cd : Int32) (wd : Nat → Nat) (se : Nat → Nat) (kd : Nat → Nat) (bn : Nat → Int32) (sh : Nat → Nat) (mb : Nat → Nat) (pr : Nat) (B : Nat → Nat) (R : Nat → Nat) (sx : Nat) (pt : Nat) (rd : Nat) (wt : Int32) (ln : Nat) (px : Nat → Nat) (j : Nat) (hj : j < 4) (h1 : wd j = 0) : rw_i l y_MO_secondary b_MO_secondary 2 (some .int) { frames := 1, cells := 0, slots := 0, locals := 22 } D (kT k) (mW q k cd wd se kd bn sh mb pr B R sx pt rd wt ln px) [.ref (q 0), .int (nI j)] (fun (r : Int32) (_ : Unit) => r = (-1)) (fun (_ : Unit) => (mW q k (nI 0) wd se kd bn sh mb pr B R sx pt rd wt ln px)) := by
  refine rw_headi (by decide) (Nat.le_of_ble_eq_true rfl) ?_
  intro p e s m below meth c ls A hx hb hr hlocks hml hown hts hK hA hP hD hS hl
  have hown : s.vm.findClass "SlotScreenModel" = some m.cls := hown
  have hl : lv_has ls 2 [(0, .ref (q 0)), (1, .int (nI j))] := hl
  refine lv_aload_n hx hb d_MO_secondary_0 rfl (lv_at hl 0 rfl) ?_
  refine lv_iconst (v := nI 0) hx hb d_MO_secondary_1 (by decide +kernel) ?_
  refine va_put (D := D) (ci := 7) (v := .int (nI 0)) (ty := .int) (C := R_MO) (T := T_MO) (N := 16) hx hb hts in_MO t_MO o_MO n_MO hown hK hP hD hS 0 rfl rfl 0 (by decide) (hts _ w_530) (fun _ h9 => h9) rfl (by decide +kernel) rfl rfl (Nat.le_of_ble_eq_true rfl) d_MO_secondary_2 (fun H locs hP hD hS => ?_)
  have hP : va_P D vwCl (mW q k (nI 0) wd se kd bn sh mb pr B R sx pt rd wt ln px) H := hP
  have hD : va_D A (mW q k (nI 0) wd se kd bn sh mb pr B R sx pt rd wt ln px) := hD
  refine lv_iload_n hx hb d_MO_secondary_5 rfl (lv_at hl 1 rfl) ?_
  refine lv_iconst (v := nI 0) hx hb d_MO_secondary_6 (by decide +kernel) ?_
  refine lv_iconst (v := nI 3) hx hb d_MO_secondary_7 (by decide +kernel) ?_
  refine kr_iS (As := [.int (nI j), .int (nI 0), .int (nI 3)]) (rest := []) ⟨hx, hb, hml, hown, hts⟩ (c_MO_within l D k j 0 3 (by omega) (by omega) (by omega)) (va_cwS 3 hts (gS w_587 w_588 w_5 w_589) rfl rfl rfl (by decide +kernel) ⟨Nat.le_of_ble_eq_true rfl, Nat.le_of_ble_eq_true rfl⟩) hK va_nil rfl hl.1 rfl (Nat.le_of_ble_eq_true rfl) d_MO_secondary_8 ⟨Nat.zero_le _, Nat.zero_le _⟩ ?_
  refine lv_if_eq (tgt := 32) hx hb d_MO_secondary_11 (by decide) (fun c1 => ?_) (fun c1 => ?_)
  · have c1 := (bI_0).mp c1
    exfalso; omega
  · have c1 := mt (bI_0).mpr c1
    have c1 := Classical.not_not.mp c1
    refine lv_aload_n hx hb d_MO_secondary_14 rfl (lv_at hl 0 rfl) ?_
    refine va_get (D := D) (ci := 7) (v := .ref (q 1)) (C := R_MO) (T := T_MO) (N := 16) hx hb hts in_MO hown hK hP 0 rfl rfl 1 (by decide) (hts _ w_531) (fun _ h9 => h9) rfl d_MO_secondary_15 ?_
    refine lv_iload_n hx hb d_MO_secondary_18 rfl (lv_at hl 1 rfl) ?_
    refine va_zald hx hb hK hP 1 1 rfl rfl (vp_in_nI (by omega) (by omega)) d_MO_secondary_19 ?_
    refine ss_rt (y := nI (wd j)) (congrArg (fun z => nI (wd z)) (nI_clamp (by omega))) ?_
    refine lv_if_eq (tgt := 32) hx hb d_MO_secondary_20 (by decide) (fun c2 => ?_) (fun c2 => ?_)
    · have c2 := (n_eq0 (by omega)).mp c2
      refine lv_iconst (v := (-1)) hx hb d_MO_secondary_32 (by decide +kernel) ?_
      exact rw_reti hx hb hr hlocks d_MO_secondary_33 hS () (rfl) hP
    · have c2 := mt (n_eq0 (by omega)).mpr c2
      exfalso; omega
set_option maxHeartbeats 4000000 in
set_option maxRecDepth 100000 in
theorem c_MO_secondaryb (l : Launch) (D : va_G) (k : Nat → ClassId) (q : Nat → Nat) (cd : Int32) (wd : Nat → Nat) (se : Nat → Nat) (kd : Nat → Nat) (bn : Nat → Int32) (sh : Nat → Nat) (mb : Nat → Nat) (pr : Nat) (B : Nat → Nat) (R : Nat → Nat) (sx : Nat) (pt : Nat) (rd : Nat) (wt : Int32) (ln : Nat) (px : Nat → Nat) (x : Int32) (hx9 : ¬ (0 ≤ x.toInt ∧ x.toInt ≤ 3)) : rw_i l y_MO_secondary b_MO_secondary 2 (some .int) { frames := 1, cells := 0, slots := 0, locals := 22 } D (kT k) (mW q k cd wd se kd bn sh mb pr B R sx pt rd wt ln px) [.ref (q 0), .int x] (fun (r : Int32) (_ : Unit) => r = (-1)) (fun (_ : Unit) => (mW q k (nI 0) wd se kd bn sh mb pr B R sx pt rd wt ln px)) := by
  refine rw_headi (by decide) (Nat.le_of_ble_eq_true rfl) ?_
  intro p e s m below meth c ls A hx hb hr hlocks hml hown hts hK hA hP hD hS hl
  have hown : s.vm.findClass "SlotScreenModel" = some m.cls := hown
  have hl : lv_has ls 2 [(0, .ref (q 0)), (1, .int x)] := hl
  refine lv_aload_n hx hb d_MO_secondary_0 rfl (lv_at hl 0 rfl) ?_
  refine lv_iconst (v := nI 0) hx hb d_MO_secondary_1 (by decide +kernel) ?_
  refine va_put (D := D) (ci := 7) (v := .int (nI 0)) (ty := .int) (C := R_MO) (T := T_MO) (N := 16) hx hb hts in_MO t_MO o_MO n_MO hown hK hP hD hS 0 rfl rfl 0 (by decide) (hts _ w_530) (fun _ h9 => h9) rfl (by decide +kernel) rfl rfl (Nat.le_of_ble_eq_true rfl) d_MO_secondary_2 (fun H locs hP hD hS => ?_)
  have hP : va_P D vwCl (mW q k (nI 0) wd se kd bn sh mb pr B R sx pt rd wt ln px) H := hP
  have hD : va_D A (mW q k (nI 0) wd se kd bn sh mb pr B R sx pt rd wt ln px) := hD
  refine lv_iload_n hx hb d_MO_secondary_5 rfl (lv_at hl 1 rfl) ?_
  refine lv_iconst (v := nI 0) hx hb d_MO_secondary_6 (by decide +kernel) ?_
  refine lv_iconst (v := nI 3) hx hb d_MO_secondary_7 (by decide +kernel) ?_
  refine kr_iS (As := [.int x, .int (nI 0), .int (nI 3)]) (rest := []) ⟨hx, hb, hml, hown, hts⟩ (c_MO_withinZ l D k x 0 3 (by omega) (by omega)) (va_cwS 3 hts (gS w_587 w_588 w_5 w_589) rfl rfl rfl (by decide +kernel) ⟨Nat.le_of_ble_eq_true rfl, Nat.le_of_ble_eq_true rfl⟩) hK va_nil rfl hl.1 rfl (Nat.le_of_ble_eq_true rfl) d_MO_secondary_8 ⟨Nat.zero_le _, Nat.zero_le _⟩ ?_
  refine lv_if_eq (tgt := 32) hx hb d_MO_secondary_11 (by decide) (fun c1 => ?_) (fun c1 => ?_)
  · have c1 := (bI_0).mp c1
    refine lv_iconst (v := (-1)) hx hb d_MO_secondary_32 (by decide +kernel) ?_
    exact rw_reti hx hb hr hlocks d_MO_secondary_33 hS () (rfl) hP
  · have c1 := mt (bI_0).mpr c1
    have c1 := Classical.not_not.mp c1
    exfalso; omega
set_option maxHeartbeats 4000000 in
set_option maxRecDepth 100000 in
theorem c_MO_calls (l : Launch) (D : va_G) (k : Nat → ClassId) (q : Nat → Nat) (cd : Int32) (wd : Nat → Nat) (se : Nat → Nat) (kd : Nat → Nat) (bn : Nat → Int32) (sh : Nat → Nat) (mb : Nat → Nat) (pr : Nat) (B : Nat → Nat) (R : Nat → Nat) (sx : Nat) (pt : Nat) (rd : Nat) (wt : Int32) (ln : Nat) (px : Nat → Nat) (hB : ∀ j, B j < 256) (hR : ∀ j, R j < 256) (hsx : sx < 256) : rw_i l y_MO_calls b_MO_calls 1 (some .boolean) { frames := 1, cells := 0, slots := 0, locals := 22 } D (kT k) (mW q k cd wd se kd bn sh mb pr B R sx pt rd wt ln px) [.ref (q 0)] (fun (r : Int32) (_ : Unit) => r = bI (R 1 / 32 % 2 = 1 ∧ 127 < sx)) (fun (_ : Unit) => (mW q k (nI 0) wd se kd bn sh mb pr B R sx pt rd wt ln px)) := by
  refine rw_headi (by decide) (Nat.le_of_ble_eq_true rfl) ?_
  intro p e s m below meth c ls A hx hb hr hlocks hml hown hts hK hA hP hD hS hl
  have hown : s.vm.findClass "SlotScreenModel" = some m.cls := hown
  have hl : lv_has ls 1 [(0, .ref (q 0))] := hl
  refine lv_aload_n hx hb d_MO_calls_0 rfl (lv_at hl 0 rfl) ?_
  refine lv_iconst (v := nI 0) hx hb d_MO_calls_1 (by decide +kernel) ?_
  refine va_put (D := D) (ci := 7) (v := .int (nI 0)) (ty := .int) (C := R_MO) (T := T_MO) (N := 16) hx hb hts in_MO t_MO o_MO n_MO hown hK hP hD hS 0 rfl rfl 0 (by decide) (hts _ w_530) (fun _ h9 => h9) rfl (by decide +kernel) rfl rfl (Nat.le_of_ble_eq_true rfl) d_MO_calls_2 (fun H locs hP hD hS => ?_)
  have hP : va_P D vwCl (mW q k (nI 0) wd se kd bn sh mb pr B R sx pt rd wt ln px) H := hP
  have hD : va_D A (mW q k (nI 0) wd se kd bn sh mb pr B R sx pt rd wt ln px) := hD
  refine lv_aload_n hx hb d_MO_calls_5 rfl (lv_at hl 0 rfl) ?_
  refine lv_aload_n hx hb d_MO_calls_6 rfl (lv_at hl 0 rfl) ?_
  refine va_get (D := D) (ci := 7) (v := .ref (q 8)) (C := R_MO) (T := T_MO) (N := 16) hx hb hts in_MO hown hK hP 0 rfl rfl 9 (by decide) (hts _ w_539) (fun _ h9 => h9) rfl d_MO_calls_7 ?_
  refine lv_iconst (v := nI 1) hx hb d_MO_calls_10 (by decide +kernel) ?_
  refine va_iald hx hb hK hP 8 0 rfl rfl (vp_in_nI (by omega) (by omega)) d_MO_calls_11 ?_
  refine ss_rt (y := nI (R 1)) (congrArg (fun z => nI (R z)) (nI_clamp (by omega))) ?_
  have g1 := hR 1
  refine lv_iconst (v := nI 5) hx hb d_MO_calls_12 (by decide +kernel) ?_
  refine kr_iV (As := [.int (nI (R 1)), .int (nI 5)]) (rest := []) ⟨hx, hb, hml, hown, hts⟩ (c_MO_bit l D k q (nI 0) wd se kd bn sh mb pr B R sx pt rd wt ln px (R 1) 5 (by omega) (by omega)) (cwV 2 hts (gV w_653 w_655 w_p20 w_5 w_656) rfl rfl rfl (by decide +kernel) ⟨Nat.le_of_ble_eq_true rfl, Nat.le_of_ble_eq_true rfl⟩) hK hP (va_recv hK hP (ci := 7) (q0 := 0) rfl rfl) rfl hl.1 rfl (Nat.le_of_ble_eq_true rfl) d_MO_calls_13 ⟨Nat.zero_le _, Nat.zero_le _⟩ ?_
  refine lv_if_eq (tgt := 32) hx hb d_MO_calls_16 (by decide) (fun c2 => ?_) (fun c2 => ?_)
  · have c2 := (bI_0).mp c2
    refine lv_iconst (v := nI 0) hx hb d_MO_calls_32 (by decide +kernel) ?_
    exact rw_retz hx hb hr hlocks d_MO_calls_33 (by decide +kernel) hS () (bI_f (by omega)) hP
  · have c2 := mt (bI_0).mpr c2
    have c2 := Classical.not_not.mp c2
    refine lv_aload_n hx hb d_MO_calls_19 rfl (lv_at hl 0 rfl) ?_
    refine va_get (D := D) (ci := 7) (v := .int (nI sx)) (C := R_MO) (T := T_MO) (N := 16) hx hb hts in_MO hown hK hP 0 rfl rfl 10 (by decide) (hts _ w_540) (fun _ h9 => h9) rfl d_MO_calls_20 ?_
    refine lv_bipush (v := nI 127) hx hb d_MO_calls_23 (by decide +kernel) ?_
    refine lv_icmp_le (tgt := 32) hx hb d_MO_calls_25 (by decide) (fun c3 => ?_) (fun c3 => ?_)
    · have c3 := (nI_leI (by omega) (by omega)).mp c3
      refine lv_iconst (v := nI 0) hx hb d_MO_calls_32 (by decide +kernel) ?_
      exact rw_retz hx hb hr hlocks d_MO_calls_33 (by decide +kernel) hS () (bI_f (by omega)) hP
    · have c3 := mt (nI_leI (by omega) (by omega)).mpr c3
      refine lv_iconst (v := nI 1) hx hb d_MO_calls_28 (by decide +kernel) ?_
      refine lv_goto (tgt := 33) hx hb d_MO_calls_29 (by decide) ?_
      exact rw_retz hx hb hr hlocks d_MO_calls_33 (by decide +kernel) hS () (bI_t (by omega)) hP
set_option maxHeartbeats 4000000 in
set_option maxRecDepth 100000 in
theorem c_MO_thrown (l : Launch) (D : va_G) (k : Nat → ClassId) (q : Nat → Nat) (cd : Int32) (wd : Nat → Nat) (se : Nat → Nat) (kd : Nat → Nat) (bn : Nat → Int32) (sh : Nat → Nat) (mb : Nat → Nat) (pr : Nat) (B : Nat → Nat) (R : Nat → Nat) (sx : Nat) (pt : Nat) (rd : Nat) (wt : Int32) (ln : Nat) (px : Nat → Nat) : ro_i l y_MO_thrown b_MO_thrown 1 (some .int) { frames := 0, cells := 0, slots := 0, locals := 0 } D (kT k) (mW q k cd wd se kd bn sh mb pr B R sx pt rd wt ln px) [.ref (q 0)] cd := by
  refine ro_headi (by decide) (Nat.le_of_ble_eq_true rfl) ?_
  intro p e s m below meth c ls hx hb hr hlocks hml hown hts hP hK hl
  have hown : s.vm.findClass "SlotScreenModel" = some m.cls := hown
  have hl : lv_has ls 1 [(0, .ref (q 0))] := hl
  refine lv_aload_n hx hb d_MO_thrown_0 rfl (lv_at hl 0 rfl) ?_
  refine va_get (D := D) (ci := 7) (v := .int cd) (C := R_MO) (T := T_MO) (N := 16) hx hb hts in_MO hown hK hP 0 rfl rfl 0 (by decide) (hts _ w_530) (fun _ h9 => h9) rfl d_MO_thrown_1 ?_
  exact ro_reti hx hb hr hlocks d_MO_thrown_4 (rfl)
set_option maxHeartbeats 4000000 in
set_option maxRecDepth 100000 in
theorem c_MO_color (l : Launch) (D : va_G) (k : Nat → ClassId) (q : Nat → Nat) (cd : Int32) (wd : Nat → Nat) (se : Nat → Nat) (kd : Nat → Nat) (bn : Nat → Int32) (sh : Nat → Nat) (mb : Nat → Nat) (pr : Nat) (B : Nat → Nat) (R : Nat → Nat) (sx : Nat) (pt : Nat) (rd : Nat) (wt : Int32) (ln : Nat) (px : Nat → Nat) (hB : ∀ j, B j < 256) (hR : ∀ j, R j < 256) (hsx : sx < 256) (hln : ln < 32) (x : Nat) (hx9 : x < 64) : rw_i l y_MO_color b_MO_color 8 (some .int) { frames := 4, cells := 0, slots := 0, locals := 90 } D (kT k) (mW q k cd wd se kd bn sh mb pr B R sx pt rd wt ln px) [.ref (q 0), .int (nI x), .int (nI (dmo B R))] (fun (r : Int32) (_ : Unit) => r = nI (dpx B R ln x)) (fun (_ : Unit) => (mW q k cd wd se kd bn sh mb pr B R (dts (decide (1 < dht B R ln x 8)) sx) pt rd wt ln px)) := by
  refine rw_headi (by decide) (Nat.le_of_ble_eq_true rfl) ?_
  intro p e s m below meth c ls A hx hb hr hlocks hml hown hts hK hA hP hD hS hl
  have hown : s.vm.findClass "SlotScreenModel" = some m.cls := hown
  have hl : lv_has ls 8 [(0, .ref (q 0)), (1, .int (nI x)), (2, .int (nI (dmo B R)))] := hl
  have z1 := dmo_le B R
  refine lv_iconst (v := nI 0) hx hb d_MO_color_0 (by decide +kernel) ?_
  refine lv_istore_n (lv' := [(3, .int (nI 0)), (0, .ref (q 0)), (1, .int (nI x)), (2, .int (nI (dmo B R)))]) hx hb d_MO_color_1 rfl hl (by decide) rfl (fun ls hl => ?_)
  refine lv_iconst (v := nI 0) hx hb d_MO_color_2 (by decide +kernel) ?_
  refine lv_istore (lv' := [(4, .int (nI 0)), (3, .int (nI 0)), (0, .ref (q 0)), (1, .int (nI x)), (2, .int (nI (dmo B R)))]) hx hb d_MO_color_3 hl (by decide) rfl (fun ls hl => ?_)
  refine lv_iconst (v := nI 0) hx hb d_MO_color_5 (by decide +kernel) ?_
  refine lv_istore (lv' := [(5, .int (nI 0)), (4, .int (nI 0)), (3, .int (nI 0)), (0, .ref (q 0)), (1, .int (nI x)), (2, .int (nI (dmo B R)))]) hx hb d_MO_color_6 hl (by decide) rfl (fun ls hl => ?_)
  refine lv_iconst (v := nI 0) hx hb d_MO_color_8 (by decide +kernel) ?_
  refine lv_istore (lv' := [(6, .int (nI 0)), (5, .int (nI 0)), (4, .int (nI 0)), (3, .int (nI 0)), (0, .ref (q 0)), (1, .int (nI x)), (2, .int (nI (dmo B R)))]) hx hb d_MO_color_9 hl (by decide) rfl (fun ls hl => ?_)
  have loop : ∀ (j9 i : Nat), i + j9 = 8 → (hi : i ≤ dmo B R ∧ dct B R ln i ≤ 4) → ∀ (H : Heap) (locs : List Loc), va_P D vwCl (mW q k cd wd se kd bn sh mb pr B R sx pt rd wt ln px) H → va_D A (mW q k cd wd se kd bn sh mb pr B R sx pt rd wt ln px) → va_S A s.heap H locs → ∀ (ls : Array Slot), lv_has ls 8 [(6, .int (nI i)), (5, .int (nI (dct B R ln i))), (4, .int (nI (dht B R ln x i))), (3, .int (nI (dcl B R ln x i))), (0, .ref (q 0)), (1, .int (nI x)), (2, .int (nI (dmo B R)))] → W p l e (headSpec (wsG y_MO_color b_MO_color 8 (some .int)) { frames := 4, cells := 0, slots := 0, locals := 90 }).room s m ([.ref (q 0), .int (nI x), .int (nI (dmo B R))] : List Value).toArray below meth c H locs 0 0 (MQ below (rw_Qi D (fun (r : Int32) (_ : Unit) => r = nI (dpx B R ln x)) (fun (_ : Unit) => (mW q k cd wd se kd bn sh mb pr B R (dts (decide (1 < dht B R ln x 8)) sx) pt rd wt ln px)) A) ([.ref (q 0), .int (nI x), .int (nI (dmo B R))] : List Value).toArray s 0 0 A) (F0 m 11 ls []) := by
    intro j9
    induction j9 with
    | zero =>
      intro i h9 hi H locs hP hD hS ls hl
      have hht : dht B R ln x i ≤ i := dht_le B R ln x i
      have hcl : dcl B R ln x i < 16 := dcl_lt B R ln x i
      refine lv_iload hx hb d_MO_color_11 (lv_at hl 0 rfl) ?_
      refine lv_iload_n hx hb d_MO_color_13 rfl (lv_at hl 6 rfl) ?_
      refine lv_icmp_ge (tgt := 85) hx hb d_MO_color_14 (by decide) (fun c1 => ?_) (fun c1 => ?_)
      · have c1 := (nI_leI (by omega) (by omega)).mp c1
        have hend := dht_end (B := B) (R := R) (L := ln) x (k := i) (by omega) (by omega)
        refine lv_iload hx hb d_MO_color_85 (lv_at hl 2 rfl) ?_
        refine lv_iconst (v := nI 1) hx hb d_MO_color_87 (by decide +kernel) ?_
        refine lv_icmp_le (tgt := 102) hx hb d_MO_color_88 (by decide) (fun c2 => ?_) (fun c2 => ?_)
        · have c2 := (nI_leI (by omega) (by omega)).mp c2
          refine lv_iload_n hx hb d_MO_color_102 rfl (lv_at hl 3 rfl) ?_
          refine lv_if_ne (tgt := 116) hx hb d_MO_color_103 (by decide) (fun c3 => ?_) (fun c3 => ?_)
          · have c3 := mt (n_eq0 (by omega)).mpr c3
            refine lv_iload_n hx hb d_MO_color_116 rfl (lv_at hl 3 rfl) ?_
            refine lv_if_ne (tgt := 133) hx hb d_MO_color_117 (by decide) (fun c4 => ?_) (fun c4 => ?_)
            · have c4 := mt (n_eq0 (by omega)).mpr c4
              refine lv_iload_n hx hb d_MO_color_133 rfl (lv_at hl 3 rfl) ?_
              exact rw_reti hx hb hr hlocks d_MO_color_134 hS () (by first | (exfalso; omega) | (unfold dpx; rw [hend.2, if_neg (by omega)]) | (unfold dpx dob; rw [hend.2, if_pos (by omega), if_neg (by omega)]) | (unfold dpx dob; rw [hend.2, if_pos (by omega), if_pos (by omega)])) (by rw [show (dts (decide (1 < dht B R ln x 8)) sx) = sx from by first | (exfalso; omega) | (unfold dts; rw [hend.1, decide_eq_true (by omega), if_pos rfl]) | (unfold dts; rw [hend.1, decide_eq_false (by omega), if_neg (by decide)])]; exact hP)
            · have c4 := (n_eq0 (by omega)).mp c4
              refine lv_aload_n hx hb d_MO_color_120 rfl (lv_at hl 4 rfl) ?_
              refine va_get (D := D) (ci := 7) (v := .ref (q 8)) (C := R_MO) (T := T_MO) (N := 16) hx hb hts in_MO hown hK hP 0 rfl rfl 9 (by decide) (hts _ w_539) (fun _ h9 => h9) rfl d_MO_color_121 ?_
              refine lv_bipush (v := nI 7) hx hb d_MO_color_124 (by decide +kernel) ?_
              refine va_iald hx hb hK hP 8 0 rfl rfl (vp_in_nI (by omega) (by omega)) d_MO_color_126 ?_
              refine ss_rt (y := nI (R 7)) (congrArg (fun z => nI (R z)) (nI_clamp (by omega))) ?_
              have g5 := hR 7
              refine lv_bipush (v := nI 16) hx hb d_MO_color_127 (by decide +kernel) ?_
              refine lv_irem hx hb d_MO_color_129 (by first | decide +kernel | exact nI_ne0 (by omega) (by omega)) ?_
              refine ss_rt (y := nI ((R 7) % 16)) (pk_rem (by omega) (by omega) (by omega)) ?_
              refine lv_goto (tgt := 134) hx hb d_MO_color_130 (by decide) ?_
              exact rw_reti hx hb hr hlocks d_MO_color_134 hS () (by first | (exfalso; omega) | (unfold dpx; rw [hend.2, if_neg (by omega)]) | (unfold dpx dob; rw [hend.2, if_pos (by omega), if_neg (by omega)]) | (unfold dpx dob; rw [hend.2, if_pos (by omega), if_pos (by omega)])) (by rw [show (dts (decide (1 < dht B R ln x 8)) sx) = sx from by first | (exfalso; omega) | (unfold dts; rw [hend.1, decide_eq_true (by omega), if_pos rfl]) | (unfold dts; rw [hend.1, decide_eq_false (by omega), if_neg (by decide)])]; exact hP)
          · have c3 := (n_eq0 (by omega)).mp c3
            refine lv_aload_n hx hb d_MO_color_106 rfl (lv_at hl 4 rfl) ?_
            refine lv_iload_n hx hb d_MO_color_107 rfl (lv_at hl 5 rfl) ?_
            refine lv_aload_n hx hb d_MO_color_108 rfl (lv_at hl 4 rfl) ?_
            refine va_get (D := D) (ci := 7) (v := .int (nI ln)) (C := R_MO) (T := T_MO) (N := 16) hx hb hts in_MO hown hK hP 0 rfl rfl 14 (by decide) (hts _ w_544) (fun _ h9 => h9) rfl d_MO_color_109 ?_
            have g6 := dtl_lt (R := R) hB x ln
            refine kr_iV (As := [.int (nI x), .int (nI ln)]) (rest := []) ⟨hx, hb, hml, hown, hts⟩ (c_MO_tile l D k q cd wd se kd bn sh mb pr B R sx pt rd wt ln px hB hR x ln (by omega) (by omega)) (cwV 2 hts (gV w_689 w_691 w_p29 w_5 w_692) rfl rfl rfl (by decide +kernel) ⟨Nat.le_of_ble_eq_true rfl, Nat.le_of_ble_eq_true rfl⟩) hK hP (va_recv hK hP (ci := 7) (q0 := 0) rfl rfl) rfl hl.1 rfl (Nat.le_of_ble_eq_true rfl) d_MO_color_112 ⟨Nat.zero_le _, Nat.zero_le _⟩ ?_
            refine lv_istore_n (lv' := [(3, .int (nI (dtl B R x ln))), (6, .int (nI i)), (5, .int (nI (dct B R ln i))), (4, .int (nI (dht B R ln x i))), (0, .ref (q 0)), (1, .int (nI x)), (2, .int (nI (dmo B R)))]) hx hb d_MO_color_115 rfl hl (by decide) rfl (fun ls hl => ?_)
            refine lv_iload_n hx hb d_MO_color_116 rfl (lv_at hl 0 rfl) ?_
            refine lv_if_ne (tgt := 133) hx hb d_MO_color_117 (by decide) (fun c7 => ?_) (fun c7 => ?_)
            · have c7 := mt (n_eq0 (by omega)).mpr c7
              refine lv_iload_n hx hb d_MO_color_133 rfl (lv_at hl 0 rfl) ?_
              exact rw_reti hx hb hr hlocks d_MO_color_134 hS () (by first | (exfalso; omega) | (unfold dpx; rw [hend.2, if_neg (by omega)]) | (unfold dpx dob; rw [hend.2, if_pos (by omega), if_neg (by omega)]) | (unfold dpx dob; rw [hend.2, if_pos (by omega), if_pos (by omega)])) (by rw [show (dts (decide (1 < dht B R ln x 8)) sx) = sx from by first | (exfalso; omega) | (unfold dts; rw [hend.1, decide_eq_true (by omega), if_pos rfl]) | (unfold dts; rw [hend.1, decide_eq_false (by omega), if_neg (by decide)])]; exact hP)
            · have c7 := (n_eq0 (by omega)).mp c7
              refine lv_aload_n hx hb d_MO_color_120 rfl (lv_at hl 4 rfl) ?_
              refine va_get (D := D) (ci := 7) (v := .ref (q 8)) (C := R_MO) (T := T_MO) (N := 16) hx hb hts in_MO hown hK hP 0 rfl rfl 9 (by decide) (hts _ w_539) (fun _ h9 => h9) rfl d_MO_color_121 ?_
              refine lv_bipush (v := nI 7) hx hb d_MO_color_124 (by decide +kernel) ?_
              refine va_iald hx hb hK hP 8 0 rfl rfl (vp_in_nI (by omega) (by omega)) d_MO_color_126 ?_
              refine ss_rt (y := nI (R 7)) (congrArg (fun z => nI (R z)) (nI_clamp (by omega))) ?_
              have g8 := hR 7
              refine lv_bipush (v := nI 16) hx hb d_MO_color_127 (by decide +kernel) ?_
              refine lv_irem hx hb d_MO_color_129 (by first | decide +kernel | exact nI_ne0 (by omega) (by omega)) ?_
              refine ss_rt (y := nI ((R 7) % 16)) (pk_rem (by omega) (by omega) (by omega)) ?_
              refine lv_goto (tgt := 134) hx hb d_MO_color_130 (by decide) ?_
              exact rw_reti hx hb hr hlocks d_MO_color_134 hS () (by first | (exfalso; omega) | (unfold dpx; rw [hend.2, if_neg (by omega)]) | (unfold dpx dob; rw [hend.2, if_pos (by omega), if_neg (by omega)]) | (unfold dpx dob; rw [hend.2, if_pos (by omega), if_pos (by omega)])) (by rw [show (dts (decide (1 < dht B R ln x 8)) sx) = sx from by first | (exfalso; omega) | (unfold dts; rw [hend.1, decide_eq_true (by omega), if_pos rfl]) | (unfold dts; rw [hend.1, decide_eq_false (by omega), if_neg (by decide)])]; exact hP)
        · have c2 := mt (nI_leI (by omega) (by omega)).mpr c2
          refine lv_aload_n hx hb d_MO_color_91 rfl (lv_at hl 4 rfl) ?_
          refine lv_aload_n hx hb d_MO_color_92 rfl (lv_at hl 4 rfl) ?_
          refine va_get (D := D) (ci := 7) (v := .int (nI sx)) (C := R_MO) (T := T_MO) (N := 16) hx hb hts in_MO hown hK hP 0 rfl rfl 10 (by decide) (hts _ w_540) (fun _ h9 => h9) rfl d_MO_color_93 ?_
          refine lv_bipush (v := nI 32) hx hb d_MO_color_96 (by decide +kernel) ?_
          refine lv_ior hx hb d_MO_color_98 ?_
          refine ss_rt (y := nI (ss_so 32 sx)) (ss_or32 _ hsx) ?_
          refine va_put (D := D) (ci := 7) (v := .int (nI (ss_so 32 sx))) (ty := .int) (C := R_MO) (T := T_MO) (N := 16) hx hb hts in_MO t_MO o_MO n_MO hown hK hP hD hS 0 rfl rfl 10 (by decide) (hts _ w_540) (fun _ h9 => h9) rfl (by decide +kernel) rfl rfl (Nat.le_of_ble_eq_true rfl) d_MO_color_99 (fun H locs hP hD hS => ?_)
          have hP : va_P D vwCl (mW q k cd wd se kd bn sh mb pr B R (ss_so 32 sx) pt rd wt ln px) H := hP
          have hD : va_D A (mW q k cd wd se kd bn sh mb pr B R (ss_so 32 sx) pt rd wt ln px) := hD
          refine lv_iload_n hx hb d_MO_color_102 rfl (lv_at hl 3 rfl) ?_
          refine lv_if_ne (tgt := 116) hx hb d_MO_color_103 (by decide) (fun c9 => ?_) (fun c9 => ?_)
          · have c9 := mt (n_eq0 (by omega)).mpr c9
            refine lv_iload_n hx hb d_MO_color_116 rfl (lv_at hl 3 rfl) ?_
            refine lv_if_ne (tgt := 133) hx hb d_MO_color_117 (by decide) (fun c10 => ?_) (fun c10 => ?_)
            · have c10 := mt (n_eq0 (by omega)).mpr c10
              refine lv_iload_n hx hb d_MO_color_133 rfl (lv_at hl 3 rfl) ?_
              exact rw_reti hx hb hr hlocks d_MO_color_134 hS () (by first | (exfalso; omega) | (unfold dpx; rw [hend.2, if_neg (by omega)]) | (unfold dpx dob; rw [hend.2, if_pos (by omega), if_neg (by omega)]) | (unfold dpx dob; rw [hend.2, if_pos (by omega), if_pos (by omega)])) (by rw [show (dts (decide (1 < dht B R ln x 8)) sx) = (ss_so 32 sx) from by first | (exfalso; omega) | (unfold dts; rw [hend.1, decide_eq_true (by omega), if_pos rfl]) | (unfold dts; rw [hend.1, decide_eq_false (by omega), if_neg (by decide)])]; exact hP)
            · have c10 := (n_eq0 (by omega)).mp c10
              refine lv_aload_n hx hb d_MO_color_120 rfl (lv_at hl 4 rfl) ?_
              refine va_get (D := D) (ci := 7) (v := .ref (q 8)) (C := R_MO) (T := T_MO) (N := 16) hx hb hts in_MO hown hK hP 0 rfl rfl 9 (by decide) (hts _ w_539) (fun _ h9 => h9) rfl d_MO_color_121 ?_
              refine lv_bipush (v := nI 7) hx hb d_MO_color_124 (by decide +kernel) ?_
              refine va_iald hx hb hK hP 8 0 rfl rfl (vp_in_nI (by omega) (by omega)) d_MO_color_126 ?_
              refine ss_rt (y := nI (R 7)) (congrArg (fun z => nI (R z)) (nI_clamp (by omega))) ?_
              have g11 := hR 7
              refine lv_bipush (v := nI 16) hx hb d_MO_color_127 (by decide +kernel) ?_
              refine lv_irem hx hb d_MO_color_129 (by first | decide +kernel | exact nI_ne0 (by omega) (by omega)) ?_
              refine ss_rt (y := nI ((R 7) % 16)) (pk_rem (by omega) (by omega) (by omega)) ?_
              refine lv_goto (tgt := 134) hx hb d_MO_color_130 (by decide) ?_
              exact rw_reti hx hb hr hlocks d_MO_color_134 hS () (by first | (exfalso; omega) | (unfold dpx; rw [hend.2, if_neg (by omega)]) | (unfold dpx dob; rw [hend.2, if_pos (by omega), if_neg (by omega)]) | (unfold dpx dob; rw [hend.2, if_pos (by omega), if_pos (by omega)])) (by rw [show (dts (decide (1 < dht B R ln x 8)) sx) = (ss_so 32 sx) from by first | (exfalso; omega) | (unfold dts; rw [hend.1, decide_eq_true (by omega), if_pos rfl]) | (unfold dts; rw [hend.1, decide_eq_false (by omega), if_neg (by decide)])]; exact hP)
          · have c9 := (n_eq0 (by omega)).mp c9
            refine lv_aload_n hx hb d_MO_color_106 rfl (lv_at hl 4 rfl) ?_
            refine lv_iload_n hx hb d_MO_color_107 rfl (lv_at hl 5 rfl) ?_
            refine lv_aload_n hx hb d_MO_color_108 rfl (lv_at hl 4 rfl) ?_
            refine va_get (D := D) (ci := 7) (v := .int (nI ln)) (C := R_MO) (T := T_MO) (N := 16) hx hb hts in_MO hown hK hP 0 rfl rfl 14 (by decide) (hts _ w_544) (fun _ h9 => h9) rfl d_MO_color_109 ?_
            have g12 := dtl_lt (R := R) hB x ln
            refine kr_iV (As := [.int (nI x), .int (nI ln)]) (rest := []) ⟨hx, hb, hml, hown, hts⟩ (c_MO_tile l D k q cd wd se kd bn sh mb pr B R (ss_so 32 sx) pt rd wt ln px hB hR x ln (by omega) (by omega)) (cwV 2 hts (gV w_689 w_691 w_p29 w_5 w_692) rfl rfl rfl (by decide +kernel) ⟨Nat.le_of_ble_eq_true rfl, Nat.le_of_ble_eq_true rfl⟩) hK hP (va_recv hK hP (ci := 7) (q0 := 0) rfl rfl) rfl hl.1 rfl (Nat.le_of_ble_eq_true rfl) d_MO_color_112 ⟨Nat.zero_le _, Nat.zero_le _⟩ ?_
            refine lv_istore_n (lv' := [(3, .int (nI (dtl B R x ln))), (6, .int (nI i)), (5, .int (nI (dct B R ln i))), (4, .int (nI (dht B R ln x i))), (0, .ref (q 0)), (1, .int (nI x)), (2, .int (nI (dmo B R)))]) hx hb d_MO_color_115 rfl hl (by decide) rfl (fun ls hl => ?_)
            refine lv_iload_n hx hb d_MO_color_116 rfl (lv_at hl 0 rfl) ?_
            refine lv_if_ne (tgt := 133) hx hb d_MO_color_117 (by decide) (fun c13 => ?_) (fun c13 => ?_)
            · have c13 := mt (n_eq0 (by omega)).mpr c13
              refine lv_iload_n hx hb d_MO_color_133 rfl (lv_at hl 0 rfl) ?_
              exact rw_reti hx hb hr hlocks d_MO_color_134 hS () (by first | (exfalso; omega) | (unfold dpx; rw [hend.2, if_neg (by omega)]) | (unfold dpx dob; rw [hend.2, if_pos (by omega), if_neg (by omega)]) | (unfold dpx dob; rw [hend.2, if_pos (by omega), if_pos (by omega)])) (by rw [show (dts (decide (1 < dht B R ln x 8)) sx) = (ss_so 32 sx) from by first | (exfalso; omega) | (unfold dts; rw [hend.1, decide_eq_true (by omega), if_pos rfl]) | (unfold dts; rw [hend.1, decide_eq_false (by omega), if_neg (by decide)])]; exact hP)
            · have c13 := (n_eq0 (by omega)).mp c13
              refine lv_aload_n hx hb d_MO_color_120 rfl (lv_at hl 4 rfl) ?_
              refine va_get (D := D) (ci := 7) (v := .ref (q 8)) (C := R_MO) (T := T_MO) (N := 16) hx hb hts in_MO hown hK hP 0 rfl rfl 9 (by decide) (hts _ w_539) (fun _ h9 => h9) rfl d_MO_color_121 ?_
              refine lv_bipush (v := nI 7) hx hb d_MO_color_124 (by decide +kernel) ?_
              refine va_iald hx hb hK hP 8 0 rfl rfl (vp_in_nI (by omega) (by omega)) d_MO_color_126 ?_
              refine ss_rt (y := nI (R 7)) (congrArg (fun z => nI (R z)) (nI_clamp (by omega))) ?_
              have g14 := hR 7
              refine lv_bipush (v := nI 16) hx hb d_MO_color_127 (by decide +kernel) ?_
              refine lv_irem hx hb d_MO_color_129 (by first | decide +kernel | exact nI_ne0 (by omega) (by omega)) ?_
              refine ss_rt (y := nI ((R 7) % 16)) (pk_rem (by omega) (by omega) (by omega)) ?_
              refine lv_goto (tgt := 134) hx hb d_MO_color_130 (by decide) ?_
              exact rw_reti hx hb hr hlocks d_MO_color_134 hS () (by first | (exfalso; omega) | (unfold dpx; rw [hend.2, if_neg (by omega)]) | (unfold dpx dob; rw [hend.2, if_pos (by omega), if_neg (by omega)]) | (unfold dpx dob; rw [hend.2, if_pos (by omega), if_pos (by omega)])) (by rw [show (dts (decide (1 < dht B R ln x 8)) sx) = (ss_so 32 sx) from by first | (exfalso; omega) | (unfold dts; rw [hend.1, decide_eq_true (by omega), if_pos rfl]) | (unfold dts; rw [hend.1, decide_eq_false (by omega), if_neg (by decide)])]; exact hP)
      · have c1 := mt (nI_leI (by omega) (by omega)).mpr c1
        exfalso; omega
    | succ j9 ih =>
      intro i h9 hi H locs hP hD hS ls hl
      have hht : dht B R ln x i ≤ i := dht_le B R ln x i
      have hcl : dcl B R ln x i < 16 := dcl_lt B R ln x i
      refine lv_iload hx hb d_MO_color_11 (lv_at hl 0 rfl) ?_
      refine lv_iload_n hx hb d_MO_color_13 rfl (lv_at hl 6 rfl) ?_
      refine lv_icmp_ge (tgt := 85) hx hb d_MO_color_14 (by decide) (fun c15 => ?_) (fun c15 => ?_)
      · have c15 := (nI_leI (by omega) (by omega)).mp c15
        have hend := dht_end (B := B) (R := R) (L := ln) x (k := i) (by omega) (by omega)
        refine lv_iload hx hb d_MO_color_85 (lv_at hl 2 rfl) ?_
        refine lv_iconst (v := nI 1) hx hb d_MO_color_87 (by decide +kernel) ?_
        refine lv_icmp_le (tgt := 102) hx hb d_MO_color_88 (by decide) (fun c16 => ?_) (fun c16 => ?_)
        · have c16 := (nI_leI (by omega) (by omega)).mp c16
          refine lv_iload_n hx hb d_MO_color_102 rfl (lv_at hl 3 rfl) ?_
          refine lv_if_ne (tgt := 116) hx hb d_MO_color_103 (by decide) (fun c17 => ?_) (fun c17 => ?_)
          · have c17 := mt (n_eq0 (by omega)).mpr c17
            refine lv_iload_n hx hb d_MO_color_116 rfl (lv_at hl 3 rfl) ?_
            refine lv_if_ne (tgt := 133) hx hb d_MO_color_117 (by decide) (fun c18 => ?_) (fun c18 => ?_)
            · have c18 := mt (n_eq0 (by omega)).mpr c18
              refine lv_iload_n hx hb d_MO_color_133 rfl (lv_at hl 3 rfl) ?_
              exact rw_reti hx hb hr hlocks d_MO_color_134 hS () (by first | (exfalso; omega) | (unfold dpx; rw [hend.2, if_neg (by omega)]) | (unfold dpx dob; rw [hend.2, if_pos (by omega), if_neg (by omega)]) | (unfold dpx dob; rw [hend.2, if_pos (by omega), if_pos (by omega)])) (by rw [show (dts (decide (1 < dht B R ln x 8)) sx) = sx from by first | (exfalso; omega) | (unfold dts; rw [hend.1, decide_eq_true (by omega), if_pos rfl]) | (unfold dts; rw [hend.1, decide_eq_false (by omega), if_neg (by decide)])]; exact hP)
            · have c18 := (n_eq0 (by omega)).mp c18
              refine lv_aload_n hx hb d_MO_color_120 rfl (lv_at hl 4 rfl) ?_
              refine va_get (D := D) (ci := 7) (v := .ref (q 8)) (C := R_MO) (T := T_MO) (N := 16) hx hb hts in_MO hown hK hP 0 rfl rfl 9 (by decide) (hts _ w_539) (fun _ h9 => h9) rfl d_MO_color_121 ?_
              refine lv_bipush (v := nI 7) hx hb d_MO_color_124 (by decide +kernel) ?_
              refine va_iald hx hb hK hP 8 0 rfl rfl (vp_in_nI (by omega) (by omega)) d_MO_color_126 ?_
              refine ss_rt (y := nI (R 7)) (congrArg (fun z => nI (R z)) (nI_clamp (by omega))) ?_
              have g19 := hR 7
              refine lv_bipush (v := nI 16) hx hb d_MO_color_127 (by decide +kernel) ?_
              refine lv_irem hx hb d_MO_color_129 (by first | decide +kernel | exact nI_ne0 (by omega) (by omega)) ?_
              refine ss_rt (y := nI ((R 7) % 16)) (pk_rem (by omega) (by omega) (by omega)) ?_
              refine lv_goto (tgt := 134) hx hb d_MO_color_130 (by decide) ?_
              exact rw_reti hx hb hr hlocks d_MO_color_134 hS () (by first | (exfalso; omega) | (unfold dpx; rw [hend.2, if_neg (by omega)]) | (unfold dpx dob; rw [hend.2, if_pos (by omega), if_neg (by omega)]) | (unfold dpx dob; rw [hend.2, if_pos (by omega), if_pos (by omega)])) (by rw [show (dts (decide (1 < dht B R ln x 8)) sx) = sx from by first | (exfalso; omega) | (unfold dts; rw [hend.1, decide_eq_true (by omega), if_pos rfl]) | (unfold dts; rw [hend.1, decide_eq_false (by omega), if_neg (by decide)])]; exact hP)
          · have c17 := (n_eq0 (by omega)).mp c17
            refine lv_aload_n hx hb d_MO_color_106 rfl (lv_at hl 4 rfl) ?_
            refine lv_iload_n hx hb d_MO_color_107 rfl (lv_at hl 5 rfl) ?_
            refine lv_aload_n hx hb d_MO_color_108 rfl (lv_at hl 4 rfl) ?_
            refine va_get (D := D) (ci := 7) (v := .int (nI ln)) (C := R_MO) (T := T_MO) (N := 16) hx hb hts in_MO hown hK hP 0 rfl rfl 14 (by decide) (hts _ w_544) (fun _ h9 => h9) rfl d_MO_color_109 ?_
            have g20 := dtl_lt (R := R) hB x ln
            refine kr_iV (As := [.int (nI x), .int (nI ln)]) (rest := []) ⟨hx, hb, hml, hown, hts⟩ (c_MO_tile l D k q cd wd se kd bn sh mb pr B R sx pt rd wt ln px hB hR x ln (by omega) (by omega)) (cwV 2 hts (gV w_689 w_691 w_p29 w_5 w_692) rfl rfl rfl (by decide +kernel) ⟨Nat.le_of_ble_eq_true rfl, Nat.le_of_ble_eq_true rfl⟩) hK hP (va_recv hK hP (ci := 7) (q0 := 0) rfl rfl) rfl hl.1 rfl (Nat.le_of_ble_eq_true rfl) d_MO_color_112 ⟨Nat.zero_le _, Nat.zero_le _⟩ ?_
            refine lv_istore_n (lv' := [(3, .int (nI (dtl B R x ln))), (6, .int (nI i)), (5, .int (nI (dct B R ln i))), (4, .int (nI (dht B R ln x i))), (0, .ref (q 0)), (1, .int (nI x)), (2, .int (nI (dmo B R)))]) hx hb d_MO_color_115 rfl hl (by decide) rfl (fun ls hl => ?_)
            refine lv_iload_n hx hb d_MO_color_116 rfl (lv_at hl 0 rfl) ?_
            refine lv_if_ne (tgt := 133) hx hb d_MO_color_117 (by decide) (fun c21 => ?_) (fun c21 => ?_)
            · have c21 := mt (n_eq0 (by omega)).mpr c21
              refine lv_iload_n hx hb d_MO_color_133 rfl (lv_at hl 0 rfl) ?_
              exact rw_reti hx hb hr hlocks d_MO_color_134 hS () (by first | (exfalso; omega) | (unfold dpx; rw [hend.2, if_neg (by omega)]) | (unfold dpx dob; rw [hend.2, if_pos (by omega), if_neg (by omega)]) | (unfold dpx dob; rw [hend.2, if_pos (by omega), if_pos (by omega)])) (by rw [show (dts (decide (1 < dht B R ln x 8)) sx) = sx from by first | (exfalso; omega) | (unfold dts; rw [hend.1, decide_eq_true (by omega), if_pos rfl]) | (unfold dts; rw [hend.1, decide_eq_false (by omega), if_neg (by decide)])]; exact hP)
            · have c21 := (n_eq0 (by omega)).mp c21
              refine lv_aload_n hx hb d_MO_color_120 rfl (lv_at hl 4 rfl) ?_
              refine va_get (D := D) (ci := 7) (v := .ref (q 8)) (C := R_MO) (T := T_MO) (N := 16) hx hb hts in_MO hown hK hP 0 rfl rfl 9 (by decide) (hts _ w_539) (fun _ h9 => h9) rfl d_MO_color_121 ?_
              refine lv_bipush (v := nI 7) hx hb d_MO_color_124 (by decide +kernel) ?_
              refine va_iald hx hb hK hP 8 0 rfl rfl (vp_in_nI (by omega) (by omega)) d_MO_color_126 ?_
              refine ss_rt (y := nI (R 7)) (congrArg (fun z => nI (R z)) (nI_clamp (by omega))) ?_
              have g22 := hR 7
              refine lv_bipush (v := nI 16) hx hb d_MO_color_127 (by decide +kernel) ?_
              refine lv_irem hx hb d_MO_color_129 (by first | decide +kernel | exact nI_ne0 (by omega) (by omega)) ?_
              refine ss_rt (y := nI ((R 7) % 16)) (pk_rem (by omega) (by omega) (by omega)) ?_
              refine lv_goto (tgt := 134) hx hb d_MO_color_130 (by decide) ?_
              exact rw_reti hx hb hr hlocks d_MO_color_134 hS () (by first | (exfalso; omega) | (unfold dpx; rw [hend.2, if_neg (by omega)]) | (unfold dpx dob; rw [hend.2, if_pos (by omega), if_neg (by omega)]) | (unfold dpx dob; rw [hend.2, if_pos (by omega), if_pos (by omega)])) (by rw [show (dts (decide (1 < dht B R ln x 8)) sx) = sx from by first | (exfalso; omega) | (unfold dts; rw [hend.1, decide_eq_true (by omega), if_pos rfl]) | (unfold dts; rw [hend.1, decide_eq_false (by omega), if_neg (by decide)])]; exact hP)
        · have c16 := mt (nI_leI (by omega) (by omega)).mpr c16
          refine lv_aload_n hx hb d_MO_color_91 rfl (lv_at hl 4 rfl) ?_
          refine lv_aload_n hx hb d_MO_color_92 rfl (lv_at hl 4 rfl) ?_
          refine va_get (D := D) (ci := 7) (v := .int (nI sx)) (C := R_MO) (T := T_MO) (N := 16) hx hb hts in_MO hown hK hP 0 rfl rfl 10 (by decide) (hts _ w_540) (fun _ h9 => h9) rfl d_MO_color_93 ?_
          refine lv_bipush (v := nI 32) hx hb d_MO_color_96 (by decide +kernel) ?_
          refine lv_ior hx hb d_MO_color_98 ?_
          refine ss_rt (y := nI (ss_so 32 sx)) (ss_or32 _ hsx) ?_
          refine va_put (D := D) (ci := 7) (v := .int (nI (ss_so 32 sx))) (ty := .int) (C := R_MO) (T := T_MO) (N := 16) hx hb hts in_MO t_MO o_MO n_MO hown hK hP hD hS 0 rfl rfl 10 (by decide) (hts _ w_540) (fun _ h9 => h9) rfl (by decide +kernel) rfl rfl (Nat.le_of_ble_eq_true rfl) d_MO_color_99 (fun H locs hP hD hS => ?_)
          have hP : va_P D vwCl (mW q k cd wd se kd bn sh mb pr B R (ss_so 32 sx) pt rd wt ln px) H := hP
          have hD : va_D A (mW q k cd wd se kd bn sh mb pr B R (ss_so 32 sx) pt rd wt ln px) := hD
          refine lv_iload_n hx hb d_MO_color_102 rfl (lv_at hl 3 rfl) ?_
          refine lv_if_ne (tgt := 116) hx hb d_MO_color_103 (by decide) (fun c23 => ?_) (fun c23 => ?_)
          · have c23 := mt (n_eq0 (by omega)).mpr c23
            refine lv_iload_n hx hb d_MO_color_116 rfl (lv_at hl 3 rfl) ?_
            refine lv_if_ne (tgt := 133) hx hb d_MO_color_117 (by decide) (fun c24 => ?_) (fun c24 => ?_)
            · have c24 := mt (n_eq0 (by omega)).mpr c24
              refine lv_iload_n hx hb d_MO_color_133 rfl (lv_at hl 3 rfl) ?_
              exact rw_reti hx hb hr hlocks d_MO_color_134 hS () (by first | (exfalso; omega) | (unfold dpx; rw [hend.2, if_neg (by omega)]) | (unfold dpx dob; rw [hend.2, if_pos (by omega), if_neg (by omega)]) | (unfold dpx dob; rw [hend.2, if_pos (by omega), if_pos (by omega)])) (by rw [show (dts (decide (1 < dht B R ln x 8)) sx) = (ss_so 32 sx) from by first | (exfalso; omega) | (unfold dts; rw [hend.1, decide_eq_true (by omega), if_pos rfl]) | (unfold dts; rw [hend.1, decide_eq_false (by omega), if_neg (by decide)])]; exact hP)
            · have c24 := (n_eq0 (by omega)).mp c24
              refine lv_aload_n hx hb d_MO_color_120 rfl (lv_at hl 4 rfl) ?_
              refine va_get (D := D) (ci := 7) (v := .ref (q 8)) (C := R_MO) (T := T_MO) (N := 16) hx hb hts in_MO hown hK hP 0 rfl rfl 9 (by decide) (hts _ w_539) (fun _ h9 => h9) rfl d_MO_color_121 ?_
              refine lv_bipush (v := nI 7) hx hb d_MO_color_124 (by decide +kernel) ?_
              refine va_iald hx hb hK hP 8 0 rfl rfl (vp_in_nI (by omega) (by omega)) d_MO_color_126 ?_
              refine ss_rt (y := nI (R 7)) (congrArg (fun z => nI (R z)) (nI_clamp (by omega))) ?_
              have g25 := hR 7
              refine lv_bipush (v := nI 16) hx hb d_MO_color_127 (by decide +kernel) ?_
              refine lv_irem hx hb d_MO_color_129 (by first | decide +kernel | exact nI_ne0 (by omega) (by omega)) ?_
              refine ss_rt (y := nI ((R 7) % 16)) (pk_rem (by omega) (by omega) (by omega)) ?_
              refine lv_goto (tgt := 134) hx hb d_MO_color_130 (by decide) ?_
              exact rw_reti hx hb hr hlocks d_MO_color_134 hS () (by first | (exfalso; omega) | (unfold dpx; rw [hend.2, if_neg (by omega)]) | (unfold dpx dob; rw [hend.2, if_pos (by omega), if_neg (by omega)]) | (unfold dpx dob; rw [hend.2, if_pos (by omega), if_pos (by omega)])) (by rw [show (dts (decide (1 < dht B R ln x 8)) sx) = (ss_so 32 sx) from by first | (exfalso; omega) | (unfold dts; rw [hend.1, decide_eq_true (by omega), if_pos rfl]) | (unfold dts; rw [hend.1, decide_eq_false (by omega), if_neg (by decide)])]; exact hP)
          · have c23 := (n_eq0 (by omega)).mp c23
            refine lv_aload_n hx hb d_MO_color_106 rfl (lv_at hl 4 rfl) ?_
            refine lv_iload_n hx hb d_MO_color_107 rfl (lv_at hl 5 rfl) ?_
            refine lv_aload_n hx hb d_MO_color_108 rfl (lv_at hl 4 rfl) ?_
            refine va_get (D := D) (ci := 7) (v := .int (nI ln)) (C := R_MO) (T := T_MO) (N := 16) hx hb hts in_MO hown hK hP 0 rfl rfl 14 (by decide) (hts _ w_544) (fun _ h9 => h9) rfl d_MO_color_109 ?_
            have g26 := dtl_lt (R := R) hB x ln
            refine kr_iV (As := [.int (nI x), .int (nI ln)]) (rest := []) ⟨hx, hb, hml, hown, hts⟩ (c_MO_tile l D k q cd wd se kd bn sh mb pr B R (ss_so 32 sx) pt rd wt ln px hB hR x ln (by omega) (by omega)) (cwV 2 hts (gV w_689 w_691 w_p29 w_5 w_692) rfl rfl rfl (by decide +kernel) ⟨Nat.le_of_ble_eq_true rfl, Nat.le_of_ble_eq_true rfl⟩) hK hP (va_recv hK hP (ci := 7) (q0 := 0) rfl rfl) rfl hl.1 rfl (Nat.le_of_ble_eq_true rfl) d_MO_color_112 ⟨Nat.zero_le _, Nat.zero_le _⟩ ?_
            refine lv_istore_n (lv' := [(3, .int (nI (dtl B R x ln))), (6, .int (nI i)), (5, .int (nI (dct B R ln i))), (4, .int (nI (dht B R ln x i))), (0, .ref (q 0)), (1, .int (nI x)), (2, .int (nI (dmo B R)))]) hx hb d_MO_color_115 rfl hl (by decide) rfl (fun ls hl => ?_)
            refine lv_iload_n hx hb d_MO_color_116 rfl (lv_at hl 0 rfl) ?_
            refine lv_if_ne (tgt := 133) hx hb d_MO_color_117 (by decide) (fun c27 => ?_) (fun c27 => ?_)
            · have c27 := mt (n_eq0 (by omega)).mpr c27
              refine lv_iload_n hx hb d_MO_color_133 rfl (lv_at hl 0 rfl) ?_
              exact rw_reti hx hb hr hlocks d_MO_color_134 hS () (by first | (exfalso; omega) | (unfold dpx; rw [hend.2, if_neg (by omega)]) | (unfold dpx dob; rw [hend.2, if_pos (by omega), if_neg (by omega)]) | (unfold dpx dob; rw [hend.2, if_pos (by omega), if_pos (by omega)])) (by rw [show (dts (decide (1 < dht B R ln x 8)) sx) = (ss_so 32 sx) from by first | (exfalso; omega) | (unfold dts; rw [hend.1, decide_eq_true (by omega), if_pos rfl]) | (unfold dts; rw [hend.1, decide_eq_false (by omega), if_neg (by decide)])]; exact hP)
            · have c27 := (n_eq0 (by omega)).mp c27
              refine lv_aload_n hx hb d_MO_color_120 rfl (lv_at hl 4 rfl) ?_
              refine va_get (D := D) (ci := 7) (v := .ref (q 8)) (C := R_MO) (T := T_MO) (N := 16) hx hb hts in_MO hown hK hP 0 rfl rfl 9 (by decide) (hts _ w_539) (fun _ h9 => h9) rfl d_MO_color_121 ?_
              refine lv_bipush (v := nI 7) hx hb d_MO_color_124 (by decide +kernel) ?_
              refine va_iald hx hb hK hP 8 0 rfl rfl (vp_in_nI (by omega) (by omega)) d_MO_color_126 ?_
              refine ss_rt (y := nI (R 7)) (congrArg (fun z => nI (R z)) (nI_clamp (by omega))) ?_
              have g28 := hR 7
              refine lv_bipush (v := nI 16) hx hb d_MO_color_127 (by decide +kernel) ?_
              refine lv_irem hx hb d_MO_color_129 (by first | decide +kernel | exact nI_ne0 (by omega) (by omega)) ?_
              refine ss_rt (y := nI ((R 7) % 16)) (pk_rem (by omega) (by omega) (by omega)) ?_
              refine lv_goto (tgt := 134) hx hb d_MO_color_130 (by decide) ?_
              exact rw_reti hx hb hr hlocks d_MO_color_134 hS () (by first | (exfalso; omega) | (unfold dpx; rw [hend.2, if_neg (by omega)]) | (unfold dpx dob; rw [hend.2, if_pos (by omega), if_neg (by omega)]) | (unfold dpx dob; rw [hend.2, if_pos (by omega), if_pos (by omega)])) (by rw [show (dts (decide (1 < dht B R ln x 8)) sx) = (ss_so 32 sx) from by first | (exfalso; omega) | (unfold dts; rw [hend.1, decide_eq_true (by omega), if_pos rfl]) | (unfold dts; rw [hend.1, decide_eq_false (by omega), if_neg (by decide)])]; exact hP)
      · have c15 := mt (nI_leI (by omega) (by omega)).mpr c15
        refine lv_iload hx hb d_MO_color_17 (lv_at hl 1 rfl) ?_
        refine lv_iconst (v := nI 4) hx hb d_MO_color_19 (by decide +kernel) ?_
        refine lv_icmp_ge (tgt := 85) hx hb d_MO_color_20 (by decide) (fun c29 => ?_) (fun c29 => ?_)
        · have c29 := (nI_leI (by omega) (by omega)).mp c29
          have hend := dht_end (B := B) (R := R) (L := ln) x (k := i) (by omega) (by omega)
          refine lv_iload hx hb d_MO_color_85 (lv_at hl 2 rfl) ?_
          refine lv_iconst (v := nI 1) hx hb d_MO_color_87 (by decide +kernel) ?_
          refine lv_icmp_le (tgt := 102) hx hb d_MO_color_88 (by decide) (fun c30 => ?_) (fun c30 => ?_)
          · have c30 := (nI_leI (by omega) (by omega)).mp c30
            refine lv_iload_n hx hb d_MO_color_102 rfl (lv_at hl 3 rfl) ?_
            refine lv_if_ne (tgt := 116) hx hb d_MO_color_103 (by decide) (fun c31 => ?_) (fun c31 => ?_)
            · have c31 := mt (n_eq0 (by omega)).mpr c31
              refine lv_iload_n hx hb d_MO_color_116 rfl (lv_at hl 3 rfl) ?_
              refine lv_if_ne (tgt := 133) hx hb d_MO_color_117 (by decide) (fun c32 => ?_) (fun c32 => ?_)
              · have c32 := mt (n_eq0 (by omega)).mpr c32
                refine lv_iload_n hx hb d_MO_color_133 rfl (lv_at hl 3 rfl) ?_
                exact rw_reti hx hb hr hlocks d_MO_color_134 hS () (by first | (exfalso; omega) | (unfold dpx; rw [hend.2, if_neg (by omega)]) | (unfold dpx dob; rw [hend.2, if_pos (by omega), if_neg (by omega)]) | (unfold dpx dob; rw [hend.2, if_pos (by omega), if_pos (by omega)])) (by rw [show (dts (decide (1 < dht B R ln x 8)) sx) = sx from by first | (exfalso; omega) | (unfold dts; rw [hend.1, decide_eq_true (by omega), if_pos rfl]) | (unfold dts; rw [hend.1, decide_eq_false (by omega), if_neg (by decide)])]; exact hP)
              · have c32 := (n_eq0 (by omega)).mp c32
                refine lv_aload_n hx hb d_MO_color_120 rfl (lv_at hl 4 rfl) ?_
                refine va_get (D := D) (ci := 7) (v := .ref (q 8)) (C := R_MO) (T := T_MO) (N := 16) hx hb hts in_MO hown hK hP 0 rfl rfl 9 (by decide) (hts _ w_539) (fun _ h9 => h9) rfl d_MO_color_121 ?_
                refine lv_bipush (v := nI 7) hx hb d_MO_color_124 (by decide +kernel) ?_
                refine va_iald hx hb hK hP 8 0 rfl rfl (vp_in_nI (by omega) (by omega)) d_MO_color_126 ?_
                refine ss_rt (y := nI (R 7)) (congrArg (fun z => nI (R z)) (nI_clamp (by omega))) ?_
                have g33 := hR 7
                refine lv_bipush (v := nI 16) hx hb d_MO_color_127 (by decide +kernel) ?_
                refine lv_irem hx hb d_MO_color_129 (by first | decide +kernel | exact nI_ne0 (by omega) (by omega)) ?_
                refine ss_rt (y := nI ((R 7) % 16)) (pk_rem (by omega) (by omega) (by omega)) ?_
                refine lv_goto (tgt := 134) hx hb d_MO_color_130 (by decide) ?_
                exact rw_reti hx hb hr hlocks d_MO_color_134 hS () (by first | (exfalso; omega) | (unfold dpx; rw [hend.2, if_neg (by omega)]) | (unfold dpx dob; rw [hend.2, if_pos (by omega), if_neg (by omega)]) | (unfold dpx dob; rw [hend.2, if_pos (by omega), if_pos (by omega)])) (by rw [show (dts (decide (1 < dht B R ln x 8)) sx) = sx from by first | (exfalso; omega) | (unfold dts; rw [hend.1, decide_eq_true (by omega), if_pos rfl]) | (unfold dts; rw [hend.1, decide_eq_false (by omega), if_neg (by decide)])]; exact hP)
            · have c31 := (n_eq0 (by omega)).mp c31
              refine lv_aload_n hx hb d_MO_color_106 rfl (lv_at hl 4 rfl) ?_
              refine lv_iload_n hx hb d_MO_color_107 rfl (lv_at hl 5 rfl) ?_
              refine lv_aload_n hx hb d_MO_color_108 rfl (lv_at hl 4 rfl) ?_
              refine va_get (D := D) (ci := 7) (v := .int (nI ln)) (C := R_MO) (T := T_MO) (N := 16) hx hb hts in_MO hown hK hP 0 rfl rfl 14 (by decide) (hts _ w_544) (fun _ h9 => h9) rfl d_MO_color_109 ?_
              have g34 := dtl_lt (R := R) hB x ln
              refine kr_iV (As := [.int (nI x), .int (nI ln)]) (rest := []) ⟨hx, hb, hml, hown, hts⟩ (c_MO_tile l D k q cd wd se kd bn sh mb pr B R sx pt rd wt ln px hB hR x ln (by omega) (by omega)) (cwV 2 hts (gV w_689 w_691 w_p29 w_5 w_692) rfl rfl rfl (by decide +kernel) ⟨Nat.le_of_ble_eq_true rfl, Nat.le_of_ble_eq_true rfl⟩) hK hP (va_recv hK hP (ci := 7) (q0 := 0) rfl rfl) rfl hl.1 rfl (Nat.le_of_ble_eq_true rfl) d_MO_color_112 ⟨Nat.zero_le _, Nat.zero_le _⟩ ?_
              refine lv_istore_n (lv' := [(3, .int (nI (dtl B R x ln))), (6, .int (nI i)), (5, .int (nI (dct B R ln i))), (4, .int (nI (dht B R ln x i))), (0, .ref (q 0)), (1, .int (nI x)), (2, .int (nI (dmo B R)))]) hx hb d_MO_color_115 rfl hl (by decide) rfl (fun ls hl => ?_)
              refine lv_iload_n hx hb d_MO_color_116 rfl (lv_at hl 0 rfl) ?_
              refine lv_if_ne (tgt := 133) hx hb d_MO_color_117 (by decide) (fun c35 => ?_) (fun c35 => ?_)
              · have c35 := mt (n_eq0 (by omega)).mpr c35
                refine lv_iload_n hx hb d_MO_color_133 rfl (lv_at hl 0 rfl) ?_
                exact rw_reti hx hb hr hlocks d_MO_color_134 hS () (by first | (exfalso; omega) | (unfold dpx; rw [hend.2, if_neg (by omega)]) | (unfold dpx dob; rw [hend.2, if_pos (by omega), if_neg (by omega)]) | (unfold dpx dob; rw [hend.2, if_pos (by omega), if_pos (by omega)])) (by rw [show (dts (decide (1 < dht B R ln x 8)) sx) = sx from by first | (exfalso; omega) | (unfold dts; rw [hend.1, decide_eq_true (by omega), if_pos rfl]) | (unfold dts; rw [hend.1, decide_eq_false (by omega), if_neg (by decide)])]; exact hP)
              · have c35 := (n_eq0 (by omega)).mp c35
                refine lv_aload_n hx hb d_MO_color_120 rfl (lv_at hl 4 rfl) ?_
                refine va_get (D := D) (ci := 7) (v := .ref (q 8)) (C := R_MO) (T := T_MO) (N := 16) hx hb hts in_MO hown hK hP 0 rfl rfl 9 (by decide) (hts _ w_539) (fun _ h9 => h9) rfl d_MO_color_121 ?_
                refine lv_bipush (v := nI 7) hx hb d_MO_color_124 (by decide +kernel) ?_
                refine va_iald hx hb hK hP 8 0 rfl rfl (vp_in_nI (by omega) (by omega)) d_MO_color_126 ?_
                refine ss_rt (y := nI (R 7)) (congrArg (fun z => nI (R z)) (nI_clamp (by omega))) ?_
                have g36 := hR 7
                refine lv_bipush (v := nI 16) hx hb d_MO_color_127 (by decide +kernel) ?_
                refine lv_irem hx hb d_MO_color_129 (by first | decide +kernel | exact nI_ne0 (by omega) (by omega)) ?_
                refine ss_rt (y := nI ((R 7) % 16)) (pk_rem (by omega) (by omega) (by omega)) ?_
                refine lv_goto (tgt := 134) hx hb d_MO_color_130 (by decide) ?_
                exact rw_reti hx hb hr hlocks d_MO_color_134 hS () (by first | (exfalso; omega) | (unfold dpx; rw [hend.2, if_neg (by omega)]) | (unfold dpx dob; rw [hend.2, if_pos (by omega), if_neg (by omega)]) | (unfold dpx dob; rw [hend.2, if_pos (by omega), if_pos (by omega)])) (by rw [show (dts (decide (1 < dht B R ln x 8)) sx) = sx from by first | (exfalso; omega) | (unfold dts; rw [hend.1, decide_eq_true (by omega), if_pos rfl]) | (unfold dts; rw [hend.1, decide_eq_false (by omega), if_neg (by decide)])]; exact hP)
          · have c30 := mt (nI_leI (by omega) (by omega)).mpr c30
            refine lv_aload_n hx hb d_MO_color_91 rfl (lv_at hl 4 rfl) ?_
            refine lv_aload_n hx hb d_MO_color_92 rfl (lv_at hl 4 rfl) ?_
            refine va_get (D := D) (ci := 7) (v := .int (nI sx)) (C := R_MO) (T := T_MO) (N := 16) hx hb hts in_MO hown hK hP 0 rfl rfl 10 (by decide) (hts _ w_540) (fun _ h9 => h9) rfl d_MO_color_93 ?_
            refine lv_bipush (v := nI 32) hx hb d_MO_color_96 (by decide +kernel) ?_
            refine lv_ior hx hb d_MO_color_98 ?_
            refine ss_rt (y := nI (ss_so 32 sx)) (ss_or32 _ hsx) ?_
            refine va_put (D := D) (ci := 7) (v := .int (nI (ss_so 32 sx))) (ty := .int) (C := R_MO) (T := T_MO) (N := 16) hx hb hts in_MO t_MO o_MO n_MO hown hK hP hD hS 0 rfl rfl 10 (by decide) (hts _ w_540) (fun _ h9 => h9) rfl (by decide +kernel) rfl rfl (Nat.le_of_ble_eq_true rfl) d_MO_color_99 (fun H locs hP hD hS => ?_)
            have hP : va_P D vwCl (mW q k cd wd se kd bn sh mb pr B R (ss_so 32 sx) pt rd wt ln px) H := hP
            have hD : va_D A (mW q k cd wd se kd bn sh mb pr B R (ss_so 32 sx) pt rd wt ln px) := hD
            refine lv_iload_n hx hb d_MO_color_102 rfl (lv_at hl 3 rfl) ?_
            refine lv_if_ne (tgt := 116) hx hb d_MO_color_103 (by decide) (fun c37 => ?_) (fun c37 => ?_)
            · have c37 := mt (n_eq0 (by omega)).mpr c37
              refine lv_iload_n hx hb d_MO_color_116 rfl (lv_at hl 3 rfl) ?_
              refine lv_if_ne (tgt := 133) hx hb d_MO_color_117 (by decide) (fun c38 => ?_) (fun c38 => ?_)
              · have c38 := mt (n_eq0 (by omega)).mpr c38
                refine lv_iload_n hx hb d_MO_color_133 rfl (lv_at hl 3 rfl) ?_
                exact rw_reti hx hb hr hlocks d_MO_color_134 hS () (by first | (exfalso; omega) | (unfold dpx; rw [hend.2, if_neg (by omega)]) | (unfold dpx dob; rw [hend.2, if_pos (by omega), if_neg (by omega)]) | (unfold dpx dob; rw [hend.2, if_pos (by omega), if_pos (by omega)])) (by rw [show (dts (decide (1 < dht B R ln x 8)) sx) = (ss_so 32 sx) from by first | (exfalso; omega) | (unfold dts; rw [hend.1, decide_eq_true (by omega), if_pos rfl]) | (unfold dts; rw [hend.1, decide_eq_false (by omega), if_neg (by decide)])]; exact hP)
              · have c38 := (n_eq0 (by omega)).mp c38
                refine lv_aload_n hx hb d_MO_color_120 rfl (lv_at hl 4 rfl) ?_
                refine va_get (D := D) (ci := 7) (v := .ref (q 8)) (C := R_MO) (T := T_MO) (N := 16) hx hb hts in_MO hown hK hP 0 rfl rfl 9 (by decide) (hts _ w_539) (fun _ h9 => h9) rfl d_MO_color_121 ?_
                refine lv_bipush (v := nI 7) hx hb d_MO_color_124 (by decide +kernel) ?_
                refine va_iald hx hb hK hP 8 0 rfl rfl (vp_in_nI (by omega) (by omega)) d_MO_color_126 ?_
                refine ss_rt (y := nI (R 7)) (congrArg (fun z => nI (R z)) (nI_clamp (by omega))) ?_
                have g39 := hR 7
                refine lv_bipush (v := nI 16) hx hb d_MO_color_127 (by decide +kernel) ?_
                refine lv_irem hx hb d_MO_color_129 (by first | decide +kernel | exact nI_ne0 (by omega) (by omega)) ?_
                refine ss_rt (y := nI ((R 7) % 16)) (pk_rem (by omega) (by omega) (by omega)) ?_
                refine lv_goto (tgt := 134) hx hb d_MO_color_130 (by decide) ?_
                exact rw_reti hx hb hr hlocks d_MO_color_134 hS () (by first | (exfalso; omega) | (unfold dpx; rw [hend.2, if_neg (by omega)]) | (unfold dpx dob; rw [hend.2, if_pos (by omega), if_neg (by omega)]) | (unfold dpx dob; rw [hend.2, if_pos (by omega), if_pos (by omega)])) (by rw [show (dts (decide (1 < dht B R ln x 8)) sx) = (ss_so 32 sx) from by first | (exfalso; omega) | (unfold dts; rw [hend.1, decide_eq_true (by omega), if_pos rfl]) | (unfold dts; rw [hend.1, decide_eq_false (by omega), if_neg (by decide)])]; exact hP)
            · have c37 := (n_eq0 (by omega)).mp c37
              refine lv_aload_n hx hb d_MO_color_106 rfl (lv_at hl 4 rfl) ?_
              refine lv_iload_n hx hb d_MO_color_107 rfl (lv_at hl 5 rfl) ?_
              refine lv_aload_n hx hb d_MO_color_108 rfl (lv_at hl 4 rfl) ?_
              refine va_get (D := D) (ci := 7) (v := .int (nI ln)) (C := R_MO) (T := T_MO) (N := 16) hx hb hts in_MO hown hK hP 0 rfl rfl 14 (by decide) (hts _ w_544) (fun _ h9 => h9) rfl d_MO_color_109 ?_
              have g40 := dtl_lt (R := R) hB x ln
              refine kr_iV (As := [.int (nI x), .int (nI ln)]) (rest := []) ⟨hx, hb, hml, hown, hts⟩ (c_MO_tile l D k q cd wd se kd bn sh mb pr B R (ss_so 32 sx) pt rd wt ln px hB hR x ln (by omega) (by omega)) (cwV 2 hts (gV w_689 w_691 w_p29 w_5 w_692) rfl rfl rfl (by decide +kernel) ⟨Nat.le_of_ble_eq_true rfl, Nat.le_of_ble_eq_true rfl⟩) hK hP (va_recv hK hP (ci := 7) (q0 := 0) rfl rfl) rfl hl.1 rfl (Nat.le_of_ble_eq_true rfl) d_MO_color_112 ⟨Nat.zero_le _, Nat.zero_le _⟩ ?_
              refine lv_istore_n (lv' := [(3, .int (nI (dtl B R x ln))), (6, .int (nI i)), (5, .int (nI (dct B R ln i))), (4, .int (nI (dht B R ln x i))), (0, .ref (q 0)), (1, .int (nI x)), (2, .int (nI (dmo B R)))]) hx hb d_MO_color_115 rfl hl (by decide) rfl (fun ls hl => ?_)
              refine lv_iload_n hx hb d_MO_color_116 rfl (lv_at hl 0 rfl) ?_
              refine lv_if_ne (tgt := 133) hx hb d_MO_color_117 (by decide) (fun c41 => ?_) (fun c41 => ?_)
              · have c41 := mt (n_eq0 (by omega)).mpr c41
                refine lv_iload_n hx hb d_MO_color_133 rfl (lv_at hl 0 rfl) ?_
                exact rw_reti hx hb hr hlocks d_MO_color_134 hS () (by first | (exfalso; omega) | (unfold dpx; rw [hend.2, if_neg (by omega)]) | (unfold dpx dob; rw [hend.2, if_pos (by omega), if_neg (by omega)]) | (unfold dpx dob; rw [hend.2, if_pos (by omega), if_pos (by omega)])) (by rw [show (dts (decide (1 < dht B R ln x 8)) sx) = (ss_so 32 sx) from by first | (exfalso; omega) | (unfold dts; rw [hend.1, decide_eq_true (by omega), if_pos rfl]) | (unfold dts; rw [hend.1, decide_eq_false (by omega), if_neg (by decide)])]; exact hP)
              · have c41 := (n_eq0 (by omega)).mp c41
                refine lv_aload_n hx hb d_MO_color_120 rfl (lv_at hl 4 rfl) ?_
                refine va_get (D := D) (ci := 7) (v := .ref (q 8)) (C := R_MO) (T := T_MO) (N := 16) hx hb hts in_MO hown hK hP 0 rfl rfl 9 (by decide) (hts _ w_539) (fun _ h9 => h9) rfl d_MO_color_121 ?_
                refine lv_bipush (v := nI 7) hx hb d_MO_color_124 (by decide +kernel) ?_
                refine va_iald hx hb hK hP 8 0 rfl rfl (vp_in_nI (by omega) (by omega)) d_MO_color_126 ?_
                refine ss_rt (y := nI (R 7)) (congrArg (fun z => nI (R z)) (nI_clamp (by omega))) ?_
                have g42 := hR 7
                refine lv_bipush (v := nI 16) hx hb d_MO_color_127 (by decide +kernel) ?_
                refine lv_irem hx hb d_MO_color_129 (by first | decide +kernel | exact nI_ne0 (by omega) (by omega)) ?_
                refine ss_rt (y := nI ((R 7) % 16)) (pk_rem (by omega) (by omega) (by omega)) ?_
                refine lv_goto (tgt := 134) hx hb d_MO_color_130 (by decide) ?_
                exact rw_reti hx hb hr hlocks d_MO_color_134 hS () (by first | (exfalso; omega) | (unfold dpx; rw [hend.2, if_neg (by omega)]) | (unfold dpx dob; rw [hend.2, if_pos (by omega), if_neg (by omega)]) | (unfold dpx dob; rw [hend.2, if_pos (by omega), if_pos (by omega)])) (by rw [show (dts (decide (1 < dht B R ln x 8)) sx) = (ss_so 32 sx) from by first | (exfalso; omega) | (unfold dts; rw [hend.1, decide_eq_true (by omega), if_pos rfl]) | (unfold dts; rw [hend.1, decide_eq_false (by omega), if_neg (by decide)])]; exact hP)
        · have c29 := mt (nI_leI (by omega) (by omega)).mpr c29
          by_cases hd : don B R ln i = true
          · skip
            have g43 := drw_lt hd
            have g44 := dsd_or R
            refine lv_aload_n hx hb d_MO_color_23 rfl (lv_at hl 4 rfl) ?_
            refine lv_iload hx hb d_MO_color_24 (lv_at hl 0 rfl) ?_
            refine lv_aload_n hx hb d_MO_color_26 rfl (lv_at hl 4 rfl) ?_
            refine va_get (D := D) (ci := 7) (v := .int (nI ln)) (C := R_MO) (T := T_MO) (N := 16) hx hb hts in_MO hown hK hP 0 rfl rfl 14 (by decide) (hts _ w_544) (fun _ h9 => h9) rfl d_MO_color_27 ?_
            refine kr_iV (As := [.int (nI i), .int (nI ln)]) (rest := []) ⟨hx, hb, hml, hown, hts⟩ (c_MO_rowOn_t l D k q cd wd se kd bn sh mb pr B R sx pt rd wt ln px hB hR i ln (by omega) (by omega) (by assumption)) (cwV 2 hts (gV w_669 w_671 w_p24 w_5 w_672) rfl rfl rfl (by decide +kernel) ⟨Nat.le_of_ble_eq_true rfl, Nat.le_of_ble_eq_true rfl⟩) hK hP (va_recv hK hP (ci := 7) (q0 := 0) rfl rfl) rfl hl.1 rfl (Nat.le_of_ble_eq_true rfl) d_MO_color_30 ⟨Nat.zero_le _, Nat.zero_le _⟩ ?_
            refine lv_istore (lv' := [(7, .int (nI (drw B R ln i))), (6, .int (nI i)), (5, .int (nI (dct B R ln i))), (4, .int (nI (dht B R ln x i))), (3, .int (nI (dcl B R ln x i))), (0, .ref (q 0)), (1, .int (nI x)), (2, .int (nI (dmo B R)))]) hx hb d_MO_color_33 hl (by decide) rfl (fun ls hl => ?_)
            refine lv_iload hx hb d_MO_color_35 (lv_at hl 0 rfl) ?_
            refine lv_if_ge (tgt := 43) hx hb d_MO_color_37 (by decide) (fun c45 => ?_) (fun c45 => ?_)
            · have c45 := (n_ge0 (by omega)).mp c45
              refine lv_iinc (v := nI (dct B R ln i + 1)) (lv' := [(5, .int (nI (dct B R ln i + 1))), (7, .int (nI (drw B R ln i))), (6, .int (nI i)), (4, .int (nI (dht B R ln x i))), (3, .int (nI (dcl B R ln x i))), (0, .ref (q 0)), (1, .int (nI x)), (2, .int (nI (dmo B R)))]) hx hb d_MO_color_43 hl (k := 2) rfl (nI_1 _) (by decide) rfl (fun ls hl => ?_)
              refine lv_aload_n hx hb d_MO_color_46 rfl (lv_at hl 5 rfl) ?_
              refine lv_iload hx hb d_MO_color_47 (lv_at hl 2 rfl) ?_
              refine lv_iload hx hb d_MO_color_49 (lv_at hl 1 rfl) ?_
              refine lv_iload_n hx hb d_MO_color_51 rfl (lv_at hl 6 rfl) ?_
              refine kr_iV (As := [.int (nI i), .int (nI (drw B R ln i)), .int (nI x)]) (rest := []) ⟨hx, hb, hml, hown, hts⟩ (c_MO_has l D k q cd wd se kd bn sh mb pr B R sx pt rd wt ln px hB hR i x (by omega) (by omega) (by assumption)) (cwV 3 hts (gV w_685 w_687 w_p28 w_5 w_688) rfl rfl rfl (by decide +kernel) ⟨Nat.le_of_ble_eq_true rfl, Nat.le_of_ble_eq_true rfl⟩) hK hP (va_recv hK hP (ci := 7) (q0 := 0) rfl rfl) rfl hl.1 rfl (Nat.le_of_ble_eq_true rfl) d_MO_color_52 ⟨Nat.zero_le _, Nat.zero_le _⟩ ?_
              refine lv_if_ne (tgt := 61) hx hb d_MO_color_55 (by decide) (fun c46 => ?_) (fun c46 => ?_)
              · have c46 := mt (bI_0).mpr c46
                have c46 := Classical.not_not.mp c46
                refine lv_iinc (v := nI (dht B R ln x i + 1)) (lv' := [(4, .int (nI (dht B R ln x i + 1))), (5, .int (nI (dct B R ln i + 1))), (7, .int (nI (drw B R ln i))), (6, .int (nI i)), (3, .int (nI (dcl B R ln x i))), (0, .ref (q 0)), (1, .int (nI x)), (2, .int (nI (dmo B R)))]) hx hb d_MO_color_61 hl (k := 3) rfl (nI_1 _) (by decide) rfl (fun ls hl => ?_)
                refine lv_iload_n hx hb d_MO_color_64 rfl (lv_at hl 4 rfl) ?_
                refine lv_if_ne (tgt := 79) hx hb d_MO_color_65 (by decide) (fun c47 => ?_) (fun c47 => ?_)
                · have c47 := mt (n_eq0 (by omega)).mpr c47
                  refine lv_iinc (v := nI (i + 1)) (lv' := [(6, .int (nI (i + 1))), (4, .int (nI (dht B R ln x i + 1))), (5, .int (nI (dct B R ln i + 1))), (7, .int (nI (drw B R ln i))), (3, .int (nI (dcl B R ln x i))), (0, .ref (q 0)), (1, .int (nI x)), (2, .int (nI (dmo B R)))]) hx hb d_MO_color_79 hl (k := 3) rfl (nI_1 _) (by decide) rfl (fun ls hl => ?_)
                  refine lv_goto (tgt := 11) hx hb d_MO_color_82 (by decide) ?_
                  rw [← st_ct hd, ← st_hit hd (by omega) (by omega) (by assumption), ← st_c1 (by omega)] at hl
                  exact ih (i + 1) (by omega) ⟨by omega, by first | (rw [st_ct hd]; omega) | (rw [(st_off hd x).1]; omega)⟩ _ _ hP hD hS ls (lv_sub hl [0, 2, 1, 4, 5, 6, 7] rfl)
                · have c47 := (n_eq0 (by omega)).mp c47
                  refine lv_aload_n hx hb d_MO_color_68 rfl (lv_at hl 5 rfl) ?_
                  refine lv_iload hx hb d_MO_color_69 (lv_at hl 3 rfl) ?_
                  refine lv_iconst (v := nI 3) hx hb d_MO_color_71 (by decide +kernel) ?_
                  have g48 := hB (32 * (R 5 % 16) + 4 * i + 3)
                  have g49 : dsp B R i 3 < 256 := hB _
                  refine kr_iV (As := [.int (nI i), .int (nI 3)]) (rest := []) ⟨hx, hb, hml, hown, hts⟩ (c_MO_sprite l D k q cd wd se kd bn sh mb pr B R sx pt rd wt ln px hB hR i 3 (by omega) (by omega)) (cwV 2 hts (gV w_661 w_663 w_p22 w_5 w_664) rfl rfl rfl (by decide +kernel) ⟨Nat.le_of_ble_eq_true rfl, Nat.le_of_ble_eq_true rfl⟩) hK hP (va_recv hK hP (ci := 7) (q0 := 0) rfl rfl) rfl hl.1 rfl (Nat.le_of_ble_eq_true rfl) d_MO_color_72 ⟨Nat.zero_le _, Nat.zero_le _⟩ ?_
                  refine lv_bipush (v := nI 16) hx hb d_MO_color_75 (by decide +kernel) ?_
                  refine lv_irem hx hb d_MO_color_77 (by first | decide +kernel | exact nI_ne0 (by omega) (by omega)) ?_
                  refine ss_rt (y := nI ((dsp B R i 3) % 16)) (pk_rem (by omega) (by omega) (by omega)) ?_
                  refine lv_istore_n (lv' := [(3, .int (nI ((dsp B R i 3) % 16))), (4, .int (nI (dht B R ln x i + 1))), (5, .int (nI (dct B R ln i + 1))), (7, .int (nI (drw B R ln i))), (6, .int (nI i)), (0, .ref (q 0)), (1, .int (nI x)), (2, .int (nI (dmo B R)))]) hx hb d_MO_color_78 rfl hl (by decide) rfl (fun ls hl => ?_)
                  refine lv_iinc (v := nI (i + 1)) (lv' := [(6, .int (nI (i + 1))), (3, .int (nI ((dsp B R i 3) % 16))), (4, .int (nI (dht B R ln x i + 1))), (5, .int (nI (dct B R ln i + 1))), (7, .int (nI (drw B R ln i))), (0, .ref (q 0)), (1, .int (nI x)), (2, .int (nI (dmo B R)))]) hx hb d_MO_color_79 hl (k := 4) rfl (nI_1 _) (by decide) rfl (fun ls hl => ?_)
                  refine lv_goto (tgt := 11) hx hb d_MO_color_82 (by decide) ?_
                  rw [← st_ct hd, ← st_hit hd (by omega) (by omega) (by assumption), ← st_c0 hd (by omega) (by omega) (by assumption) (by omega)] at hl
                  exact ih (i + 1) (by omega) ⟨by omega, by first | (rw [st_ct hd]; omega) | (rw [(st_off hd x).1]; omega)⟩ _ _ hP hD hS ls (lv_sub hl [0, 3, 2, 1, 5, 6, 7] rfl)
              · have c46 := (bI_0).mp c46
                refine lv_goto (tgt := 79) hx hb d_MO_color_58 (by decide) ?_
                refine lv_iinc (v := nI (i + 1)) (lv' := [(6, .int (nI (i + 1))), (5, .int (nI (dct B R ln i + 1))), (7, .int (nI (drw B R ln i))), (4, .int (nI (dht B R ln x i))), (3, .int (nI (dcl B R ln x i))), (0, .ref (q 0)), (1, .int (nI x)), (2, .int (nI (dmo B R)))]) hx hb d_MO_color_79 hl (k := 2) rfl (nI_1 _) (by decide) rfl (fun ls hl => ?_)
                refine lv_goto (tgt := 11) hx hb d_MO_color_82 (by decide) ?_
                rw [← st_ct hd, ← (st_no (by assumption)).1, ← (st_no (by assumption)).2] at hl
                exact ih (i + 1) (by omega) ⟨by omega, by first | (rw [st_ct hd]; omega) | (rw [(st_off hd x).1]; omega)⟩ _ _ hP hD hS ls (lv_sub hl [0, 1, 3, 4, 5, 6, 7] rfl)
            · have c45 := mt (n_ge0 (by omega)).mpr c45
              exfalso; omega
          · skip
            refine lv_aload_n hx hb d_MO_color_23 rfl (lv_at hl 4 rfl) ?_
            refine lv_iload hx hb d_MO_color_24 (lv_at hl 0 rfl) ?_
            refine lv_aload_n hx hb d_MO_color_26 rfl (lv_at hl 4 rfl) ?_
            refine va_get (D := D) (ci := 7) (v := .int (nI ln)) (C := R_MO) (T := T_MO) (N := 16) hx hb hts in_MO hown hK hP 0 rfl rfl 14 (by decide) (hts _ w_544) (fun _ h9 => h9) rfl d_MO_color_27 ?_
            refine kr_iV (As := [.int (nI i), .int (nI ln)]) (rest := []) ⟨hx, hb, hml, hown, hts⟩ (c_MO_rowOn_f l D k q cd wd se kd bn sh mb pr B R sx pt rd wt ln px hB hR i ln (by omega) (by omega) (by assumption)) (cwV 2 hts (gV w_669 w_671 w_p24 w_5 w_672) rfl rfl rfl (by decide +kernel) ⟨Nat.le_of_ble_eq_true rfl, Nat.le_of_ble_eq_true rfl⟩) hK hP (va_recv hK hP (ci := 7) (q0 := 0) rfl rfl) rfl hl.1 rfl (Nat.le_of_ble_eq_true rfl) d_MO_color_30 ⟨Nat.zero_le _, Nat.zero_le _⟩ ?_
            refine lv_istore (lv' := [(7, .int (-1)), (6, .int (nI i)), (5, .int (nI (dct B R ln i))), (4, .int (nI (dht B R ln x i))), (3, .int (nI (dcl B R ln x i))), (0, .ref (q 0)), (1, .int (nI x)), (2, .int (nI (dmo B R)))]) hx hb d_MO_color_33 hl (by decide) rfl (fun ls hl => ?_)
            refine lv_iload hx hb d_MO_color_35 (lv_at hl 0 rfl) ?_
            refine lv_if_ge (tgt := 43) hx hb d_MO_color_37 (by decide) (fun c50 => ?_) (fun c50 => ?_)
            · have c50 := (z_ge0).mp c50
              exact absurd c50 (by decide +kernel)
            · have c50 := mt (z_ge0).mpr c50
              refine lv_goto (tgt := 79) hx hb d_MO_color_40 (by decide) ?_
              refine lv_iinc (v := nI (i + 1)) (lv' := [(6, .int (nI (i + 1))), (7, .int (-1)), (5, .int (nI (dct B R ln i))), (4, .int (nI (dht B R ln x i))), (3, .int (nI (dcl B R ln x i))), (0, .ref (q 0)), (1, .int (nI x)), (2, .int (nI (dmo B R)))]) hx hb d_MO_color_79 hl (k := 1) rfl (nI_1 _) (by decide) rfl (fun ls hl => ?_)
              refine lv_goto (tgt := 11) hx hb d_MO_color_82 (by decide) ?_
              rw [← (st_off hd x).1, ← (st_off hd x).2.1, ← (st_off hd x).2.2] at hl
              exact ih (i + 1) (by omega) ⟨by omega, by first | (rw [st_ct hd]; omega) | (rw [(st_off hd x).1]; omega)⟩ _ _ hP hD hS ls (lv_sub hl [0, 2, 3, 4, 5, 6, 7] rfl)
  exact loop (8 - 0) 0 (by omega) ⟨by omega, by simp [dct]⟩ _ _ hP hD hS ls (lv_sub hl [0, 1, 2, 3, 4, 5, 6] rfl)
