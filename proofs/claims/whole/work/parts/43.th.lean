set_option maxHeartbeats 4000000 in
set_option maxRecDepth 100000 in
theorem t_SS_widenb (l : Launch) (hl9 : l.stackTraces = false) (D : va_G) (k : Nat → ClassId) (q : Nat → Nat) (gd : Nat → Option Nat) (wd : Nat → Nat) (se : Nat → Nat) (pr : Nat) (ln : Nat) (px : Nat → Nat) (cv : Nat) (co : Nat) (B : Nat → Nat) (R : Nat → Nat) (sx : Nat) (pt : Nat) (rd : Nat) (wt : Int32) (x : Int32) (hx9 : ¬ (0 ≤ x.toInt ∧ x.toInt ≤ 3)) : th "java/lang/IllegalArgumentException" l y_SS_widen b_SS_widen 2 none { frames := 6, cells := 1, slots := 6, locals := 82 } D (kT k) (ssW q k gd wd se pr ln px cv co B R sx pt rd wt) [.ref (q 0), .int x] := by
  refine th_head (by decide) (Nat.le_of_ble_eq_true rfl) ?_
  intro p e s m below meth c ls hx hb hlocks hml hown htab hts hT hU hP hK hl
  have hown : s.vm.findClass "SlotScreen" = some m.cls := hown
  have hl : lv_has ls 2 [(0, .ref (q 0)), (1, .int x)] := hl
  refine lv_iload_n hx hb d_SS_widen_0 rfl (lv_at hl 1 rfl) ?_
  refine kr_iS (As := [.int x]) (rest := []) ⟨hx, hb, hml, hown, hts⟩ (c_SS_isSlot l D k x) (va_cwS 1 hts (gS w_107 w_108 w_1 w_109) rfl rfl rfl (by decide +kernel) ⟨Nat.le_of_ble_eq_true rfl, Nat.le_of_ble_eq_true rfl⟩) hK va_nil rfl hl.1 rfl (Nat.le_of_ble_eq_true rfl) d_SS_widen_1 ⟨Nat.zero_le _, Nat.zero_le _⟩ ?_
  refine lv_if_ne (tgt := 17) hx hb d_SS_widen_4 (by decide) (fun c1 => ?_) (fun c1 => ?_)
  · have c1 := mt (bI_0).mpr c1
    have c1 := Classical.not_not.mp c1
    exfalso; omega
  · have c1 := (bI_0).mp c1
    obtain ⟨sa, hstr⟩ := hT.2.1 (38, "no such slot") (by unfold STL; simp)
    exact th_throw (cls := "java/lang/IllegalArgumentException") hx hb hl9 hown (by decide) (hts _ w_295) (hts _ w_9) hstr (ow_all ow_a hts hT hU) (by rw [hml]; exact hl.1) d_SS_widen_7 d_SS_widen_10 d_SS_widen_11 d_SS_widen_13 d_SS_widen_16 htab (by show 5 < 6; omega) (Nat.le_of_ble_eq_true rfl) (Nat.le_of_ble_eq_true rfl) (Nat.le_of_ble_eq_true rfl) hlocks
set_option maxHeartbeats 4000000 in
set_option maxRecDepth 100000 in
theorem t_SS_widen1 (l : Launch) (hl9 : l.stackTraces = false) (D : va_G) (k : Nat → ClassId) (q : Nat → Nat) (gd : Nat → Option Nat) (wd : Nat → Nat) (se : Nat → Nat) (pr : Nat) (ln : Nat) (px : Nat → Nat) (cv : Nat) (co : Nat) (B : Nat → Nat) (R : Nat → Nat) (sx : Nat) (pt : Nat) (rd : Nat) (wt : Int32) (hwd : ∀ j, wd j < 2) (hse : ∀ j, se j < 256) (hpr : pr < 256) (j : Nat) (hj : j < 4) (h1 : wd j = 1) : th "java/lang/IllegalStateException" l y_SS_widen b_SS_widen 2 none { frames := 6, cells := 1, slots := 6, locals := 82 } D (kT k) (ssW q k gd wd se pr ln px cv co B R sx pt rd wt) [.ref (q 0), .int (nI j)] := by
  refine th_head (by decide) (Nat.le_of_ble_eq_true rfl) ?_
  intro p e s m below meth c ls hx hb hlocks hml hown htab hts hT hU hP hK hl
  have hown : s.vm.findClass "SlotScreen" = some m.cls := hown
  have hl : lv_has ls 2 [(0, .ref (q 0)), (1, .int (nI j))] := hl
  refine lv_iload_n hx hb d_SS_widen_0 rfl (lv_at hl 1 rfl) ?_
  refine kr_iS (As := [.int (nI j)]) (rest := []) ⟨hx, hb, hml, hown, hts⟩ (c_SS_isSlotN l D k j (by omega)) (va_cwS 1 hts (gS w_107 w_108 w_1 w_109) rfl rfl rfl (by decide +kernel) ⟨Nat.le_of_ble_eq_true rfl, Nat.le_of_ble_eq_true rfl⟩) hK va_nil rfl hl.1 rfl (Nat.le_of_ble_eq_true rfl) d_SS_widen_1 ⟨Nat.zero_le _, Nat.zero_le _⟩ ?_
  refine lv_if_ne (tgt := 17) hx hb d_SS_widen_4 (by decide) (fun c1 => ?_) (fun c1 => ?_)
  · have c1 := mt (bI_0).mpr c1
    have c1 := Classical.not_not.mp c1
    refine lv_aload_n hx hb d_SS_widen_17 rfl (lv_at hl 0 rfl) ?_
    refine va_get (D := D) (ci := 0) (v := .ref (q 1)) (C := R_SS) (T := T_SS) (N := 3) hx hb hts in_SS hown hK hP 0 rfl rfl 0 (by decide) (hts _ w_93) (fun _ h9 => h9) rfl d_SS_widen_18 ?_
    refine lv_iload_n hx hb d_SS_widen_21 rfl (lv_at hl 1 rfl) ?_
    have g2 := hwd j
    refine kr_iV (As := [.int (nI j)]) (rest := []) ⟨hx, hb, hml, hown, hts⟩ (c_SL_isWide l D k q gd wd se pr hwd hse (by omega) j (by omega)) (cwV 1 hts (gV w_270 w_271 w_272 w_2 w_273) rfl rfl rfl (by decide +kernel) ⟨Nat.le_of_ble_eq_true rfl, Nat.le_of_ble_eq_true rfl⟩) hK (hP.sub (ws' := (slW q k gd wd se pr)) [1, 2, 3, 4] rfl) (va_recv hK hP (ci := 1) (q0 := 1) rfl rfl) rfl hl.1 rfl (Nat.le_of_ble_eq_true rfl) d_SS_widen_22 ⟨Nat.zero_le _, Nat.zero_le _⟩ ?_
    refine lv_if_ne (tgt := 40) hx hb d_SS_widen_25 (by decide) (fun c3 => ?_) (fun c3 => ?_)
    · have c3 := mt (n_eq0 (by omega)).mpr c3
      obtain ⟨sa, hstr⟩ := hT.2.1 (52, "the slot is wide or has a device") (by unfold STL; simp)
      exact th_throw (cls := "java/lang/IllegalStateException") hx hb hl9 hown (by decide) (hts _ w_362) (hts _ w_10) hstr (ow_all ow_s hts hT hU) (by rw [hml]; exact hl.1) d_SS_widen_40 d_SS_widen_43 d_SS_widen_44 d_SS_widen_46 d_SS_widen_49 htab (by show 5 < 6; omega) (Nat.le_of_ble_eq_true rfl) (Nat.le_of_ble_eq_true rfl) (Nat.le_of_ble_eq_true rfl) hlocks
    · have c3 := (n_eq0 (by omega)).mp c3
      exfalso; omega
  · have c1 := (bI_0).mp c1
    exfalso; omega
set_option maxHeartbeats 4000000 in
set_option maxRecDepth 100000 in
theorem t_SS_widen2 (l : Launch) (hl9 : l.stackTraces = false) (D : va_G) (k : Nat → ClassId) (q : Nat → Nat) (gd : Nat → Option Nat) (wd : Nat → Nat) (se : Nat → Nat) (pr : Nat) (ln : Nat) (px : Nat → Nat) (cv : Nat) (co : Nat) (B : Nat → Nat) (R : Nat → Nat) (sx : Nat) (pt : Nat) (rd : Nat) (wt : Int32) (hwd : ∀ j, wd j < 2) (hse : ∀ j, se j < 256) (hpr : pr < 256) (j : Nat) (hj : j < 4) (h1 : wd j = 0) (a9 : Nat) (hg : gd (4 * j + 0) = some a9) : th "java/lang/IllegalStateException" l y_SS_widen b_SS_widen 2 none { frames := 6, cells := 1, slots := 6, locals := 82 } D (kT k) (ssW q k gd wd se pr ln px cv co B R sx pt rd wt) [.ref (q 0), .int (nI j)] := by
  refine th_head (by decide) (Nat.le_of_ble_eq_true rfl) ?_
  intro p e s m below meth c ls hx hb hlocks hml hown htab hts hT hU hP hK hl
  have hown : s.vm.findClass "SlotScreen" = some m.cls := hown
  have hl : lv_has ls 2 [(0, .ref (q 0)), (1, .int (nI j))] := hl
  refine lv_iload_n hx hb d_SS_widen_0 rfl (lv_at hl 1 rfl) ?_
  refine kr_iS (As := [.int (nI j)]) (rest := []) ⟨hx, hb, hml, hown, hts⟩ (c_SS_isSlotN l D k j (by omega)) (va_cwS 1 hts (gS w_107 w_108 w_1 w_109) rfl rfl rfl (by decide +kernel) ⟨Nat.le_of_ble_eq_true rfl, Nat.le_of_ble_eq_true rfl⟩) hK va_nil rfl hl.1 rfl (Nat.le_of_ble_eq_true rfl) d_SS_widen_1 ⟨Nat.zero_le _, Nat.zero_le _⟩ ?_
  refine lv_if_ne (tgt := 17) hx hb d_SS_widen_4 (by decide) (fun c1 => ?_) (fun c1 => ?_)
  · have c1 := mt (bI_0).mpr c1
    have c1 := Classical.not_not.mp c1
    refine lv_aload_n hx hb d_SS_widen_17 rfl (lv_at hl 0 rfl) ?_
    refine va_get (D := D) (ci := 0) (v := .ref (q 1)) (C := R_SS) (T := T_SS) (N := 3) hx hb hts in_SS hown hK hP 0 rfl rfl 0 (by decide) (hts _ w_93) (fun _ h9 => h9) rfl d_SS_widen_18 ?_
    refine lv_iload_n hx hb d_SS_widen_21 rfl (lv_at hl 1 rfl) ?_
    have g2 := hwd j
    refine kr_iV (As := [.int (nI j)]) (rest := []) ⟨hx, hb, hml, hown, hts⟩ (c_SL_isWide l D k q gd wd se pr hwd hse (by omega) j (by omega)) (cwV 1 hts (gV w_270 w_271 w_272 w_2 w_273) rfl rfl rfl (by decide +kernel) ⟨Nat.le_of_ble_eq_true rfl, Nat.le_of_ble_eq_true rfl⟩) hK (hP.sub (ws' := (slW q k gd wd se pr)) [1, 2, 3, 4] rfl) (va_recv hK hP (ci := 1) (q0 := 1) rfl rfl) rfl hl.1 rfl (Nat.le_of_ble_eq_true rfl) d_SS_widen_22 ⟨Nat.zero_le _, Nat.zero_le _⟩ ?_
    refine lv_if_ne (tgt := 40) hx hb d_SS_widen_25 (by decide) (fun c3 => ?_) (fun c3 => ?_)
    · have c3 := mt (n_eq0 (by omega)).mpr c3
      exfalso; omega
    · have c3 := (n_eq0 (by omega)).mp c3
      refine lv_aload_n hx hb d_SS_widen_28 rfl (lv_at hl 0 rfl) ?_
      refine va_get (D := D) (ci := 0) (v := .ref (q 1)) (C := R_SS) (T := T_SS) (N := 3) hx hb hts in_SS hown hK hP 0 rfl rfl 0 (by decide) (hts _ w_93) (fun _ h9 => h9) rfl d_SS_widen_29 ?_
      refine lv_iload_n hx hb d_SS_widen_32 rfl (lv_at hl 1 rfl) ?_
      refine lv_iconst (v := nI 0) hx hb d_SS_widen_33 (by decide +kernel) ?_
      refine kr_qV (As := [.int (nI j), .int (nI 0)]) (rest := []) ⟨hx, hb, hml, hown, hts⟩ (c_SL_deviceIn l D k q gd wd se pr j 0 (by omega) (by omega)) (cwV 2 hts (gV w_116 w_117 w_118 w_2 w_119) rfl rfl rfl (by decide +kernel) ⟨Nat.le_of_ble_eq_true rfl, Nat.le_of_ble_eq_true rfl⟩) hK (hP.sub (ws' := (slW q k gd wd se pr)) [1, 2, 3, 4] rfl) (va_recv hK hP (ci := 1) (q0 := 1) rfl rfl) rfl hl.1 rfl (Nat.le_of_ble_eq_true rfl) d_SS_widen_34 ⟨Nat.zero_le _, Nat.zero_le _⟩ ?_
      refine ss_rv (y := .ref a9) (by rw [hg]; rfl) ?_
      refine lv_ifnull hx hb d_SS_widen_37 ?_
      obtain ⟨sa, hstr⟩ := hT.2.1 (52, "the slot is wide or has a device") (by unfold STL; simp)
      exact th_throw (cls := "java/lang/IllegalStateException") hx hb hl9 hown (by decide) (hts _ w_362) (hts _ w_10) hstr (ow_all ow_s hts hT hU) (by rw [hml]; exact hl.1) d_SS_widen_40 d_SS_widen_43 d_SS_widen_44 d_SS_widen_46 d_SS_widen_49 htab (by show 5 < 6; omega) (Nat.le_of_ble_eq_true rfl) (Nat.le_of_ble_eq_true rfl) (Nat.le_of_ble_eq_true rfl) hlocks
  · have c1 := (bI_0).mp c1
    exfalso; omega
set_option maxHeartbeats 4000000 in
set_option maxRecDepth 100000 in
theorem t_SS_plugb (l : Launch) (hl9 : l.stackTraces = false) (D : va_G) (k : Nat → ClassId) (q : Nat → Nat) (gd : Nat → Option Nat) (wd : Nat → Nat) (se : Nat → Nat) (pr : Nat) (ln : Nat) (px : Nat → Nat) (cv : Nat) (co : Nat) (B : Nat → Nat) (R : Nat → Nat) (sx : Nat) (pt : Nat) (rd : Nat) (wt : Int32) (x y z b : Int32) (hx9 : ¬ (0 ≤ x.toInt ∧ x.toInt ≤ 3 ∧ 0 ≤ y.toInt ∧ y.toInt ≤ 3 ∧ 1 ≤ z.toInt ∧ z.toInt ≤ 4 ∧ (z.toInt = 3 → 1 ≤ b.toInt ∧ b.toInt ≤ 8))) : th "java/lang/IllegalArgumentException" l y_SS_plug b_SS_plug 5 none { frames := 6, cells := 1, slots := 6, locals := 82 } D (kT k) (ssW q k gd wd se pr ln px cv co B R sx pt rd wt) [.ref (q 0), .int x, .int y, .int z, .int b] := by
  refine th_head (by decide) (Nat.le_of_ble_eq_true rfl) ?_
  intro p e s m below meth c ls hx hb hlocks hml hown htab hts hT hU hP hK hl
  have hown : s.vm.findClass "SlotScreen" = some m.cls := hown
  have hl : lv_has ls 5 [(0, .ref (q 0)), (1, .int x), (2, .int y), (3, .int z), (4, .int b)] := hl
  refine lv_iload_n hx hb d_SS_plug_0 rfl (lv_at hl 1 rfl) ?_
  refine kr_iS (As := [.int x]) (rest := []) ⟨hx, hb, hml, hown, hts⟩ (c_SS_isSlot l D k x) (va_cwS 1 hts (gS w_107 w_108 w_1 w_109) rfl rfl rfl (by decide +kernel) ⟨Nat.le_of_ble_eq_true rfl, Nat.le_of_ble_eq_true rfl⟩) hK va_nil rfl hl.1 rfl (Nat.le_of_ble_eq_true rfl) d_SS_plug_1 ⟨Nat.zero_le _, Nat.zero_le _⟩ ?_
  refine lv_if_eq (tgt := 23) hx hb d_SS_plug_4 (by decide) (fun c1 => ?_) (fun c1 => ?_)
  · have c1 := (bI_0).mp c1
    obtain ⟨sa, hstr⟩ := hT.2.1 (66, "no such slot, part or device") (by unfold STL; simp)
    exact th_throw (cls := "java/lang/IllegalArgumentException") hx hb hl9 hown (by decide) (hts _ w_295) (hts _ w_9) hstr (ow_all ow_a hts hT hU) (by rw [hml]; exact hl.1) d_SS_plug_23 d_SS_plug_26 d_SS_plug_27 d_SS_plug_29 d_SS_plug_32 htab (by show 5 < 6; omega) (Nat.le_of_ble_eq_true rfl) (Nat.le_of_ble_eq_true rfl) (Nat.le_of_ble_eq_true rfl) hlocks
  · have c1 := mt (bI_0).mpr c1
    have c1 := Classical.not_not.mp c1
    refine lv_iload_n hx hb d_SS_plug_7 rfl (lv_at hl 2 rfl) ?_
    refine kr_iS (As := [.int y]) (rest := []) ⟨hx, hb, hml, hown, hts⟩ (c_SS_isPart l D k y) (va_cwS 1 hts (gS w_110 w_111 w_1 w_112) rfl rfl rfl (by decide +kernel) ⟨Nat.le_of_ble_eq_true rfl, Nat.le_of_ble_eq_true rfl⟩) hK va_nil rfl hl.1 rfl (Nat.le_of_ble_eq_true rfl) d_SS_plug_8 ⟨Nat.zero_le _, Nat.zero_le _⟩ ?_
    refine lv_if_eq (tgt := 23) hx hb d_SS_plug_11 (by decide) (fun c2 => ?_) (fun c2 => ?_)
    · have c2 := (bI_0).mp c2
      obtain ⟨sa, hstr⟩ := hT.2.1 (66, "no such slot, part or device") (by unfold STL; simp)
      exact th_throw (cls := "java/lang/IllegalArgumentException") hx hb hl9 hown (by decide) (hts _ w_295) (hts _ w_9) hstr (ow_all ow_a hts hT hU) (by rw [hml]; exact hl.1) d_SS_plug_23 d_SS_plug_26 d_SS_plug_27 d_SS_plug_29 d_SS_plug_32 htab (by show 5 < 6; omega) (Nat.le_of_ble_eq_true rfl) (Nat.le_of_ble_eq_true rfl) (Nat.le_of_ble_eq_true rfl) hlocks
    · have c2 := mt (bI_0).mpr c2
      have c2 := Classical.not_not.mp c2
      refine lv_iload_n hx hb d_SS_plug_14 rfl (lv_at hl 3 rfl) ?_
      refine lv_iload hx hb d_SS_plug_15 (lv_at hl 4 rfl) ?_
      refine kr_iS (As := [.int z, .int b]) (rest := []) ⟨hx, hb, hml, hown, hts⟩ (c_SS_isDevice l D k z b) (va_cwS 2 hts (gS w_389 w_390 w_1 w_391) rfl rfl rfl (by decide +kernel) ⟨Nat.le_of_ble_eq_true rfl, Nat.le_of_ble_eq_true rfl⟩) hK va_nil rfl hl.1 rfl (Nat.le_of_ble_eq_true rfl) d_SS_plug_17 ⟨Nat.zero_le _, Nat.zero_le _⟩ ?_
      refine lv_if_ne (tgt := 33) hx hb d_SS_plug_20 (by decide) (fun c3 => ?_) (fun c3 => ?_)
      · have c3 := mt (bI_0).mpr c3
        have c3 := Classical.not_not.mp c3
        exfalso; omega
      · have c3 := (bI_0).mp c3
        obtain ⟨sa, hstr⟩ := hT.2.1 (66, "no such slot, part or device") (by unfold STL; simp)
        exact th_throw (cls := "java/lang/IllegalArgumentException") hx hb hl9 hown (by decide) (hts _ w_295) (hts _ w_9) hstr (ow_all ow_a hts hT hU) (by rw [hml]; exact hl.1) d_SS_plug_23 d_SS_plug_26 d_SS_plug_27 d_SS_plug_29 d_SS_plug_32 htab (by show 5 < 6; omega) (Nat.le_of_ble_eq_true rfl) (Nat.le_of_ble_eq_true rfl) (Nat.le_of_ble_eq_true rfl) hlocks
set_option maxHeartbeats 4000000 in
set_option maxRecDepth 100000 in
theorem t_SS_plug1 (l : Launch) (hl9 : l.stackTraces = false) (D : va_G) (k : Nat → ClassId) (q : Nat → Nat) (gd : Nat → Option Nat) (wd : Nat → Nat) (se : Nat → Nat) (pr : Nat) (ln : Nat) (px : Nat → Nat) (cv : Nat) (co : Nat) (B : Nat → Nat) (R : Nat → Nat) (sx : Nat) (pt : Nat) (rd : Nat) (wt : Int32) (hwd : ∀ j, wd j < 2) (hse : ∀ j, se j < 256) (hpr : pr < 256) (s9 p9 kk : Nat) (hs9 : s9 < 4) (hp9 : p9 < 4) (b : Int32) (hk1 : 1 ≤ kk) (hk2 : kk ≤ 4) (hk3 : kk = 3 → 1 ≤ b.toInt ∧ b.toInt ≤ 8) (h1 : wd s9 = 0 ∧ 0 < p9) : th "java/lang/IllegalStateException" l y_SS_plug b_SS_plug 5 none { frames := 6, cells := 1, slots := 6, locals := 82 } D (kT k) (ssW q k gd wd se pr ln px cv co B R sx pt rd wt) [.ref (q 0), .int (nI s9), .int (nI p9), .int (nI kk), .int b] := by
  refine th_head (by decide) (Nat.le_of_ble_eq_true rfl) ?_
  intro p e s m below meth c ls hx hb hlocks hml hown htab hts hT hU hP hK hl
  have hown : s.vm.findClass "SlotScreen" = some m.cls := hown
  have hl : lv_has ls 5 [(0, .ref (q 0)), (1, .int (nI s9)), (2, .int (nI p9)), (3, .int (nI kk)), (4, .int b)] := hl
  refine lv_iload_n hx hb d_SS_plug_0 rfl (lv_at hl 1 rfl) ?_
  refine kr_iS (As := [.int (nI s9)]) (rest := []) ⟨hx, hb, hml, hown, hts⟩ (c_SS_isSlotN l D k s9 (by omega)) (va_cwS 1 hts (gS w_107 w_108 w_1 w_109) rfl rfl rfl (by decide +kernel) ⟨Nat.le_of_ble_eq_true rfl, Nat.le_of_ble_eq_true rfl⟩) hK va_nil rfl hl.1 rfl (Nat.le_of_ble_eq_true rfl) d_SS_plug_1 ⟨Nat.zero_le _, Nat.zero_le _⟩ ?_
  refine lv_if_eq (tgt := 23) hx hb d_SS_plug_4 (by decide) (fun c1 => ?_) (fun c1 => ?_)
  · have c1 := (bI_0).mp c1
    exfalso; omega
  · have c1 := mt (bI_0).mpr c1
    have c1 := Classical.not_not.mp c1
    refine lv_iload_n hx hb d_SS_plug_7 rfl (lv_at hl 2 rfl) ?_
    refine kr_iS (As := [.int (nI p9)]) (rest := []) ⟨hx, hb, hml, hown, hts⟩ (c_SS_isPartN l D k p9 (by omega)) (va_cwS 1 hts (gS w_110 w_111 w_1 w_112) rfl rfl rfl (by decide +kernel) ⟨Nat.le_of_ble_eq_true rfl, Nat.le_of_ble_eq_true rfl⟩) hK va_nil rfl hl.1 rfl (Nat.le_of_ble_eq_true rfl) d_SS_plug_8 ⟨Nat.zero_le _, Nat.zero_le _⟩ ?_
    refine lv_if_eq (tgt := 23) hx hb d_SS_plug_11 (by decide) (fun c2 => ?_) (fun c2 => ?_)
    · have c2 := (bI_0).mp c2
      exfalso; omega
    · have c2 := mt (bI_0).mpr c2
      have c2 := Classical.not_not.mp c2
      refine lv_iload_n hx hb d_SS_plug_14 rfl (lv_at hl 3 rfl) ?_
      refine lv_iload hx hb d_SS_plug_15 (lv_at hl 4 rfl) ?_
      refine kr_iS (As := [.int (nI kk), .int b]) (rest := []) ⟨hx, hb, hml, hown, hts⟩ (c_SS_isDeviceN l D k kk (by omega) b) (va_cwS 2 hts (gS w_389 w_390 w_1 w_391) rfl rfl rfl (by decide +kernel) ⟨Nat.le_of_ble_eq_true rfl, Nat.le_of_ble_eq_true rfl⟩) hK va_nil rfl hl.1 rfl (Nat.le_of_ble_eq_true rfl) d_SS_plug_17 ⟨Nat.zero_le _, Nat.zero_le _⟩ ?_
      refine lv_if_ne (tgt := 33) hx hb d_SS_plug_20 (by decide) (fun c3 => ?_) (fun c3 => ?_)
      · have c3 := mt (bI_0).mpr c3
        have c3 := Classical.not_not.mp c3
        refine lv_aload_n hx hb d_SS_plug_33 rfl (lv_at hl 0 rfl) ?_
        refine va_get (D := D) (ci := 0) (v := .ref (q 1)) (C := R_SS) (T := T_SS) (N := 3) hx hb hts in_SS hown hK hP 0 rfl rfl 0 (by decide) (hts _ w_93) (fun _ h9 => h9) rfl d_SS_plug_34 ?_
        refine lv_iload_n hx hb d_SS_plug_37 rfl (lv_at hl 1 rfl) ?_
        refine lv_iload_n hx hb d_SS_plug_38 rfl (lv_at hl 2 rfl) ?_
        refine kr_iV (As := [.int (nI s9), .int (nI p9)]) (rest := []) ⟨hx, hb, hml, hown, hts⟩ (c_SL_hasPart l D k q gd wd se pr hwd hse (by omega) s9 p9 (by omega) (by omega)) (cwV 2 hts (gV w_393 w_394 w_395 w_2 w_396) rfl rfl rfl (by decide +kernel) ⟨Nat.le_of_ble_eq_true rfl, Nat.le_of_ble_eq_true rfl⟩) hK (hP.sub (ws' := (slW q k gd wd se pr)) [1, 2, 3, 4] rfl) (va_recv hK hP (ci := 1) (q0 := 1) rfl rfl) rfl hl.1 rfl (Nat.le_of_ble_eq_true rfl) d_SS_plug_39 ⟨Nat.zero_le _, Nat.zero_le _⟩ ?_
        refine lv_if_eq (tgt := 57) hx hb d_SS_plug_42 (by decide) (fun c4 => ?_) (fun c4 => ?_)
        · have c4 := (bI_0).mp c4
          obtain ⟨sa, hstr⟩ := hT.2.1 (71, "the slot hasn't that part, or it is taken") (by unfold STL; simp)
          exact th_throw (cls := "java/lang/IllegalStateException") hx hb hl9 hown (by decide) (hts _ w_362) (hts _ w_10) hstr (ow_all ow_s hts hT hU) (by rw [hml]; exact hl.1) d_SS_plug_57 d_SS_plug_60 d_SS_plug_61 d_SS_plug_63 d_SS_plug_66 htab (by show 5 < 6; omega) (Nat.le_of_ble_eq_true rfl) (Nat.le_of_ble_eq_true rfl) (Nat.le_of_ble_eq_true rfl) hlocks
        · have c4 := mt (bI_0).mpr c4
          have c4 := Classical.not_not.mp c4
          exfalso; omega
      · have c3 := (bI_0).mp c3
        exfalso; omega
set_option maxHeartbeats 4000000 in
set_option maxRecDepth 100000 in
theorem t_SS_plug2 (l : Launch) (hl9 : l.stackTraces = false) (D : va_G) (k : Nat → ClassId) (q : Nat → Nat) (gd : Nat → Option Nat) (wd : Nat → Nat) (se : Nat → Nat) (pr : Nat) (ln : Nat) (px : Nat → Nat) (cv : Nat) (co : Nat) (B : Nat → Nat) (R : Nat → Nat) (sx : Nat) (pt : Nat) (rd : Nat) (wt : Int32) (hwd : ∀ j, wd j < 2) (hse : ∀ j, se j < 256) (hpr : pr < 256) (s9 p9 kk : Nat) (hs9 : s9 < 4) (hp9 : p9 < 4) (b : Int32) (hk1 : 1 ≤ kk) (hk2 : kk ≤ 4) (hk3 : kk = 3 → 1 ≤ b.toInt ∧ b.toInt ≤ 8) (h1 : p9 = 0 ∨ wd s9 = 1) (a9 : Nat) (hg : gd (4 * s9 + p9) = some a9) : th "java/lang/IllegalStateException" l y_SS_plug b_SS_plug 5 none { frames := 6, cells := 1, slots := 6, locals := 82 } D (kT k) (ssW q k gd wd se pr ln px cv co B R sx pt rd wt) [.ref (q 0), .int (nI s9), .int (nI p9), .int (nI kk), .int b] := by
  refine th_head (by decide) (Nat.le_of_ble_eq_true rfl) ?_
  intro p e s m below meth c ls hx hb hlocks hml hown htab hts hT hU hP hK hl
  have hown : s.vm.findClass "SlotScreen" = some m.cls := hown
  have hl : lv_has ls 5 [(0, .ref (q 0)), (1, .int (nI s9)), (2, .int (nI p9)), (3, .int (nI kk)), (4, .int b)] := hl
  refine lv_iload_n hx hb d_SS_plug_0 rfl (lv_at hl 1 rfl) ?_
  refine kr_iS (As := [.int (nI s9)]) (rest := []) ⟨hx, hb, hml, hown, hts⟩ (c_SS_isSlotN l D k s9 (by omega)) (va_cwS 1 hts (gS w_107 w_108 w_1 w_109) rfl rfl rfl (by decide +kernel) ⟨Nat.le_of_ble_eq_true rfl, Nat.le_of_ble_eq_true rfl⟩) hK va_nil rfl hl.1 rfl (Nat.le_of_ble_eq_true rfl) d_SS_plug_1 ⟨Nat.zero_le _, Nat.zero_le _⟩ ?_
  refine lv_if_eq (tgt := 23) hx hb d_SS_plug_4 (by decide) (fun c1 => ?_) (fun c1 => ?_)
  · have c1 := (bI_0).mp c1
    exfalso; omega
  · have c1 := mt (bI_0).mpr c1
    have c1 := Classical.not_not.mp c1
    refine lv_iload_n hx hb d_SS_plug_7 rfl (lv_at hl 2 rfl) ?_
    refine kr_iS (As := [.int (nI p9)]) (rest := []) ⟨hx, hb, hml, hown, hts⟩ (c_SS_isPartN l D k p9 (by omega)) (va_cwS 1 hts (gS w_110 w_111 w_1 w_112) rfl rfl rfl (by decide +kernel) ⟨Nat.le_of_ble_eq_true rfl, Nat.le_of_ble_eq_true rfl⟩) hK va_nil rfl hl.1 rfl (Nat.le_of_ble_eq_true rfl) d_SS_plug_8 ⟨Nat.zero_le _, Nat.zero_le _⟩ ?_
    refine lv_if_eq (tgt := 23) hx hb d_SS_plug_11 (by decide) (fun c2 => ?_) (fun c2 => ?_)
    · have c2 := (bI_0).mp c2
      exfalso; omega
    · have c2 := mt (bI_0).mpr c2
      have c2 := Classical.not_not.mp c2
      refine lv_iload_n hx hb d_SS_plug_14 rfl (lv_at hl 3 rfl) ?_
      refine lv_iload hx hb d_SS_plug_15 (lv_at hl 4 rfl) ?_
      refine kr_iS (As := [.int (nI kk), .int b]) (rest := []) ⟨hx, hb, hml, hown, hts⟩ (c_SS_isDeviceN l D k kk (by omega) b) (va_cwS 2 hts (gS w_389 w_390 w_1 w_391) rfl rfl rfl (by decide +kernel) ⟨Nat.le_of_ble_eq_true rfl, Nat.le_of_ble_eq_true rfl⟩) hK va_nil rfl hl.1 rfl (Nat.le_of_ble_eq_true rfl) d_SS_plug_17 ⟨Nat.zero_le _, Nat.zero_le _⟩ ?_
      refine lv_if_ne (tgt := 33) hx hb d_SS_plug_20 (by decide) (fun c3 => ?_) (fun c3 => ?_)
      · have c3 := mt (bI_0).mpr c3
        have c3 := Classical.not_not.mp c3
        refine lv_aload_n hx hb d_SS_plug_33 rfl (lv_at hl 0 rfl) ?_
        refine va_get (D := D) (ci := 0) (v := .ref (q 1)) (C := R_SS) (T := T_SS) (N := 3) hx hb hts in_SS hown hK hP 0 rfl rfl 0 (by decide) (hts _ w_93) (fun _ h9 => h9) rfl d_SS_plug_34 ?_
        refine lv_iload_n hx hb d_SS_plug_37 rfl (lv_at hl 1 rfl) ?_
        refine lv_iload_n hx hb d_SS_plug_38 rfl (lv_at hl 2 rfl) ?_
        refine kr_iV (As := [.int (nI s9), .int (nI p9)]) (rest := []) ⟨hx, hb, hml, hown, hts⟩ (c_SL_hasPart l D k q gd wd se pr hwd hse (by omega) s9 p9 (by omega) (by omega)) (cwV 2 hts (gV w_393 w_394 w_395 w_2 w_396) rfl rfl rfl (by decide +kernel) ⟨Nat.le_of_ble_eq_true rfl, Nat.le_of_ble_eq_true rfl⟩) hK (hP.sub (ws' := (slW q k gd wd se pr)) [1, 2, 3, 4] rfl) (va_recv hK hP (ci := 1) (q0 := 1) rfl rfl) rfl hl.1 rfl (Nat.le_of_ble_eq_true rfl) d_SS_plug_39 ⟨Nat.zero_le _, Nat.zero_le _⟩ ?_
        refine lv_if_eq (tgt := 57) hx hb d_SS_plug_42 (by decide) (fun c4 => ?_) (fun c4 => ?_)
        · have c4 := (bI_0).mp c4
          exfalso; omega
        · have c4 := mt (bI_0).mpr c4
          have c4 := Classical.not_not.mp c4
          refine lv_aload_n hx hb d_SS_plug_45 rfl (lv_at hl 0 rfl) ?_
          refine va_get (D := D) (ci := 0) (v := .ref (q 1)) (C := R_SS) (T := T_SS) (N := 3) hx hb hts in_SS hown hK hP 0 rfl rfl 0 (by decide) (hts _ w_93) (fun _ h9 => h9) rfl d_SS_plug_46 ?_
          refine lv_iload_n hx hb d_SS_plug_49 rfl (lv_at hl 1 rfl) ?_
          refine lv_iload_n hx hb d_SS_plug_50 rfl (lv_at hl 2 rfl) ?_
          refine kr_qV (As := [.int (nI s9), .int (nI p9)]) (rest := []) ⟨hx, hb, hml, hown, hts⟩ (c_SL_deviceIn l D k q gd wd se pr s9 p9 (by omega) (by omega)) (cwV 2 hts (gV w_116 w_117 w_118 w_2 w_119) rfl rfl rfl (by decide +kernel) ⟨Nat.le_of_ble_eq_true rfl, Nat.le_of_ble_eq_true rfl⟩) hK (hP.sub (ws' := (slW q k gd wd se pr)) [1, 2, 3, 4] rfl) (va_recv hK hP (ci := 1) (q0 := 1) rfl rfl) rfl hl.1 rfl (Nat.le_of_ble_eq_true rfl) d_SS_plug_51 ⟨Nat.zero_le _, Nat.zero_le _⟩ ?_
          refine ss_rv (y := .ref a9) (by rw [hg]; rfl) ?_
          refine lv_ifnull hx hb d_SS_plug_54 ?_
          obtain ⟨sa, hstr⟩ := hT.2.1 (71, "the slot hasn't that part, or it is taken") (by unfold STL; simp)
          exact th_throw (cls := "java/lang/IllegalStateException") hx hb hl9 hown (by decide) (hts _ w_362) (hts _ w_10) hstr (ow_all ow_s hts hT hU) (by rw [hml]; exact hl.1) d_SS_plug_57 d_SS_plug_60 d_SS_plug_61 d_SS_plug_63 d_SS_plug_66 htab (by show 5 < 6; omega) (Nat.le_of_ble_eq_true rfl) (Nat.le_of_ble_eq_true rfl) (Nat.le_of_ble_eq_true rfl) hlocks
      · have c3 := (bI_0).mp c3
        exfalso; omega
set_option maxHeartbeats 4000000 in
set_option maxRecDepth 100000 in
theorem t_SS_readb (l : Launch) (hl9 : l.stackTraces = false) (D : va_G) (k : Nat → ClassId) (q : Nat → Nat) (gd : Nat → Option Nat) (wd : Nat → Nat) (se : Nat → Nat) (pr : Nat) (ln : Nat) (px : Nat → Nat) (cv : Nat) (co : Nat) (B : Nat → Nat) (R : Nat → Nat) (sx : Nat) (pt : Nat) (rd : Nat) (wt : Int32) (x : Int32) (hx9 : ¬ (0 ≤ x.toInt ∧ x.toInt ≤ 255)) : th "java/lang/IllegalArgumentException" l y_SS_read b_SS_read 3 (some .int) { frames := 6, cells := 1, slots := 6, locals := 82 } D (kT k) (ssW q k gd wd se pr ln px cv co B R sx pt rd wt) [.ref (q 0), .int x] := by
  refine th_head (by decide) (Nat.le_of_ble_eq_true rfl) ?_
  intro p e s m below meth c ls hx hb hlocks hml hown htab hts hT hU hP hK hl
  have hown : s.vm.findClass "SlotScreen" = some m.cls := hown
  have hl : lv_has ls 3 [(0, .ref (q 0)), (1, .int x)] := hl
  refine lv_iload_n hx hb d_SS_read_0 rfl (lv_at hl 1 rfl) ?_
  refine kr_iS (As := [.int x]) (rest := []) ⟨hx, hb, hml, hown, hts⟩ (c_SS_isAddress l D k x) (va_cwS 1 hts (gS w_454 w_131 w_1 w_132) rfl rfl rfl (by decide +kernel) ⟨Nat.le_of_ble_eq_true rfl, Nat.le_of_ble_eq_true rfl⟩) hK va_nil rfl hl.1 rfl (Nat.le_of_ble_eq_true rfl) d_SS_read_1 ⟨Nat.zero_le _, Nat.zero_le _⟩ ?_
  refine lv_if_ne (tgt := 17) hx hb d_SS_read_4 (by decide) (fun c1 => ?_) (fun c1 => ?_)
  · have c1 := mt (bI_0).mpr c1
    have c1 := Classical.not_not.mp c1
    exfalso; omega
  · have c1 := (bI_0).mp c1
    obtain ⟨sa, hstr⟩ := hT.2.1 (91, "no such address") (by unfold STL; simp)
    exact th_throw (cls := "java/lang/IllegalArgumentException") hx hb hl9 hown (by decide) (hts _ w_295) (hts _ w_9) hstr (ow_all ow_a hts hT hU) (by rw [hml]; exact hl.1) d_SS_read_7 d_SS_read_10 d_SS_read_11 d_SS_read_13 d_SS_read_16 htab (by show 5 < 6; omega) (Nat.le_of_ble_eq_true rfl) (Nat.le_of_ble_eq_true rfl) (Nat.le_of_ble_eq_true rfl) hlocks
set_option maxHeartbeats 4000000 in
set_option maxRecDepth 100000 in
theorem t_SS_writeb (l : Launch) (hl9 : l.stackTraces = false) (D : va_G) (k : Nat → ClassId) (q : Nat → Nat) (gd : Nat → Option Nat) (wd : Nat → Nat) (se : Nat → Nat) (pr : Nat) (ln : Nat) (px : Nat → Nat) (cv : Nat) (co : Nat) (B : Nat → Nat) (R : Nat → Nat) (sx : Nat) (pt : Nat) (rd : Nat) (wt : Int32) (x y : Int32) (hx9 : ¬ (0 ≤ x.toInt ∧ x.toInt ≤ 255 ∧ 0 ≤ y.toInt ∧ y.toInt ≤ 255)) : th "java/lang/IllegalArgumentException" l y_SS_write b_SS_write 3 none { frames := 6, cells := 1, slots := 6, locals := 82 } D (kT k) (ssW q k gd wd se pr ln px cv co B R sx pt rd wt) [.ref (q 0), .int x, .int y] := by
  refine th_head (by decide) (Nat.le_of_ble_eq_true rfl) ?_
  intro p e s m below meth c ls hx hb hlocks hml hown htab hts hT hU hP hK hl
  have hown : s.vm.findClass "SlotScreen" = some m.cls := hown
  have hl : lv_has ls 3 [(0, .ref (q 0)), (1, .int x), (2, .int y)] := hl
  refine lv_iload_n hx hb d_SS_write_0 rfl (lv_at hl 1 rfl) ?_
  refine kr_iS (As := [.int x]) (rest := []) ⟨hx, hb, hml, hown, hts⟩ (c_SS_isAddress l D k x) (va_cwS 1 hts (gS w_454 w_131 w_1 w_132) rfl rfl rfl (by decide +kernel) ⟨Nat.le_of_ble_eq_true rfl, Nat.le_of_ble_eq_true rfl⟩) hK va_nil rfl hl.1 rfl (Nat.le_of_ble_eq_true rfl) d_SS_write_1 ⟨Nat.zero_le _, Nat.zero_le _⟩ ?_
  refine lv_if_eq (tgt := 14) hx hb d_SS_write_4 (by decide) (fun c1 => ?_) (fun c1 => ?_)
  · have c1 := (bI_0).mp c1
    obtain ⟨sa, hstr⟩ := hT.2.1 (105, "no such address, or no byte") (by unfold STL; simp)
    exact th_throw (cls := "java/lang/IllegalArgumentException") hx hb hl9 hown (by decide) (hts _ w_295) (hts _ w_9) hstr (ow_all ow_a hts hT hU) (by rw [hml]; exact hl.1) d_SS_write_14 d_SS_write_17 d_SS_write_18 d_SS_write_20 d_SS_write_23 htab (by show 5 < 6; omega) (Nat.le_of_ble_eq_true rfl) (Nat.le_of_ble_eq_true rfl) (Nat.le_of_ble_eq_true rfl) hlocks
  · have c1 := mt (bI_0).mpr c1
    have c1 := Classical.not_not.mp c1
    refine lv_iload_n hx hb d_SS_write_7 rfl (lv_at hl 2 rfl) ?_
    refine kr_iS (As := [.int y]) (rest := []) ⟨hx, hb, hml, hown, hts⟩ (c_SS_isByte l D k y) (va_cwS 1 hts (gS w_113 w_114 w_1 w_115) rfl rfl rfl (by decide +kernel) ⟨Nat.le_of_ble_eq_true rfl, Nat.le_of_ble_eq_true rfl⟩) hK va_nil rfl hl.1 rfl (Nat.le_of_ble_eq_true rfl) d_SS_write_8 ⟨Nat.zero_le _, Nat.zero_le _⟩ ?_
    refine lv_if_ne (tgt := 24) hx hb d_SS_write_11 (by decide) (fun c2 => ?_) (fun c2 => ?_)
    · have c2 := mt (bI_0).mpr c2
      have c2 := Classical.not_not.mp c2
      exfalso; omega
    · have c2 := (bI_0).mp c2
      obtain ⟨sa, hstr⟩ := hT.2.1 (105, "no such address, or no byte") (by unfold STL; simp)
      exact th_throw (cls := "java/lang/IllegalArgumentException") hx hb hl9 hown (by decide) (hts _ w_295) (hts _ w_9) hstr (ow_all ow_a hts hT hU) (by rw [hml]; exact hl.1) d_SS_write_14 d_SS_write_17 d_SS_write_18 d_SS_write_20 d_SS_write_23 htab (by show 5 < 6; omega) (Nat.le_of_ble_eq_true rfl) (Nat.le_of_ble_eq_true rfl) (Nat.le_of_ble_eq_true rfl) hlocks
set_option maxHeartbeats 4000000 in
set_option maxRecDepth 100000 in
theorem t_SS_farb (l : Launch) (hl9 : l.stackTraces = false) (D : va_G) (k : Nat → ClassId) (q : Nat → Nat) (gd : Nat → Option Nat) (wd : Nat → Nat) (se : Nat → Nat) (pr : Nat) (ln : Nat) (px : Nat → Nat) (cv : Nat) (co : Nat) (B : Nat → Nat) (R : Nat → Nat) (sx : Nat) (pt : Nat) (rd : Nat) (wt : Int32) (x y z : Int32) (hx9 : ¬ (0 ≤ x.toInt ∧ x.toInt ≤ 3 ∧ 0 ≤ y.toInt ∧ y.toInt ≤ 3 ∧ 0 ≤ z.toInt ∧ z.toInt ≤ 255)) : th "java/lang/IllegalArgumentException" l y_SS_far b_SS_far 4 (some .int) { frames := 6, cells := 1, slots := 6, locals := 82 } D (kT k) (ssW q k gd wd se pr ln px cv co B R sx pt rd wt) [.ref (q 0), .int x, .int y, .int z] := by
  refine th_head (by decide) (Nat.le_of_ble_eq_true rfl) ?_
  intro p e s m below meth c ls hx hb hlocks hml hown htab hts hT hU hP hK hl
  have hown : s.vm.findClass "SlotScreen" = some m.cls := hown
  have hl : lv_has ls 4 [(0, .ref (q 0)), (1, .int x), (2, .int y), (3, .int z)] := hl
  refine lv_iload_n hx hb d_SS_far_0 rfl (lv_at hl 1 rfl) ?_
  refine kr_iS (As := [.int x]) (rest := []) ⟨hx, hb, hml, hown, hts⟩ (c_SS_isSlot l D k x) (va_cwS 1 hts (gS w_107 w_108 w_1 w_109) rfl rfl rfl (by decide +kernel) ⟨Nat.le_of_ble_eq_true rfl, Nat.le_of_ble_eq_true rfl⟩) hK va_nil rfl hl.1 rfl (Nat.le_of_ble_eq_true rfl) d_SS_far_1 ⟨Nat.zero_le _, Nat.zero_le _⟩ ?_
  refine lv_if_eq (tgt := 21) hx hb d_SS_far_4 (by decide) (fun c1 => ?_) (fun c1 => ?_)
  · have c1 := (bI_0).mp c1
    obtain ⟨sa, hstr⟩ := hT.2.1 (111, "no such slot, part or address") (by unfold STL; simp)
    exact th_throw (cls := "java/lang/IllegalArgumentException") hx hb hl9 hown (by decide) (hts _ w_295) (hts _ w_9) hstr (ow_all ow_a hts hT hU) (by rw [hml]; exact hl.1) d_SS_far_21 d_SS_far_24 d_SS_far_25 d_SS_far_27 d_SS_far_30 htab (by show 5 < 6; omega) (Nat.le_of_ble_eq_true rfl) (Nat.le_of_ble_eq_true rfl) (Nat.le_of_ble_eq_true rfl) hlocks
  · have c1 := mt (bI_0).mpr c1
    have c1 := Classical.not_not.mp c1
    refine lv_iload_n hx hb d_SS_far_7 rfl (lv_at hl 2 rfl) ?_
    refine kr_iS (As := [.int y]) (rest := []) ⟨hx, hb, hml, hown, hts⟩ (c_SS_isPart l D k y) (va_cwS 1 hts (gS w_110 w_111 w_1 w_112) rfl rfl rfl (by decide +kernel) ⟨Nat.le_of_ble_eq_true rfl, Nat.le_of_ble_eq_true rfl⟩) hK va_nil rfl hl.1 rfl (Nat.le_of_ble_eq_true rfl) d_SS_far_8 ⟨Nat.zero_le _, Nat.zero_le _⟩ ?_
    refine lv_if_eq (tgt := 21) hx hb d_SS_far_11 (by decide) (fun c2 => ?_) (fun c2 => ?_)
    · have c2 := (bI_0).mp c2
      obtain ⟨sa, hstr⟩ := hT.2.1 (111, "no such slot, part or address") (by unfold STL; simp)
      exact th_throw (cls := "java/lang/IllegalArgumentException") hx hb hl9 hown (by decide) (hts _ w_295) (hts _ w_9) hstr (ow_all ow_a hts hT hU) (by rw [hml]; exact hl.1) d_SS_far_21 d_SS_far_24 d_SS_far_25 d_SS_far_27 d_SS_far_30 htab (by show 5 < 6; omega) (Nat.le_of_ble_eq_true rfl) (Nat.le_of_ble_eq_true rfl) (Nat.le_of_ble_eq_true rfl) hlocks
    · have c2 := mt (bI_0).mpr c2
      have c2 := Classical.not_not.mp c2
      refine lv_iload_n hx hb d_SS_far_14 rfl (lv_at hl 3 rfl) ?_
      refine kr_iS (As := [.int z]) (rest := []) ⟨hx, hb, hml, hown, hts⟩ (c_SS_isAddress l D k z) (va_cwS 1 hts (gS w_454 w_131 w_1 w_132) rfl rfl rfl (by decide +kernel) ⟨Nat.le_of_ble_eq_true rfl, Nat.le_of_ble_eq_true rfl⟩) hK va_nil rfl hl.1 rfl (Nat.le_of_ble_eq_true rfl) d_SS_far_15 ⟨Nat.zero_le _, Nat.zero_le _⟩ ?_
      refine lv_if_ne (tgt := 31) hx hb d_SS_far_18 (by decide) (fun c3 => ?_) (fun c3 => ?_)
      · have c3 := mt (bI_0).mpr c3
        have c3 := Classical.not_not.mp c3
        exfalso; omega
      · have c3 := (bI_0).mp c3
        obtain ⟨sa, hstr⟩ := hT.2.1 (111, "no such slot, part or address") (by unfold STL; simp)
        exact th_throw (cls := "java/lang/IllegalArgumentException") hx hb hl9 hown (by decide) (hts _ w_295) (hts _ w_9) hstr (ow_all ow_a hts hT hU) (by rw [hml]; exact hl.1) d_SS_far_21 d_SS_far_24 d_SS_far_25 d_SS_far_27 d_SS_far_30 htab (by show 5 < 6; omega) (Nat.le_of_ble_eq_true rfl) (Nat.le_of_ble_eq_true rfl) (Nat.le_of_ble_eq_true rfl) hlocks
