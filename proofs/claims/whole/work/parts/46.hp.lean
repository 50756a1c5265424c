set_option maxHeartbeats 4000000 in
set_option maxRecDepth 100000 in
theorem h_widenb (l : Launch) (hl9 : l.stackTraces = false) (D : va_G) (k : Nat → ClassId) (q : Nat → Nat) (gd : Nat → Option Nat) (wd : Nat → Nat) (se : Nat → Nat) (pr : Nat) (ln : Nat) (px : Nat → Nat) (cv : Nat) (co : Nat) (B : Nat → Nat) (R : Nat → Nat) (sx : Nat) (pt : Nat) (rd : Nat) (wt : Int32) (od : List Nat) (ad bd ed kd nb sh mb : Nat → Nat) (x : Int32) (hx9 : ¬ (0 ≤ x.toInt ∧ x.toInt ≤ 3)) : hp_i l y_LW_widen b_LW_widen 3 [(0, 5, 8, 13), (0, 5, 11, 15)] { frames := 7, cells := 3, slots := 263, locals := 160 } D (kT k) ((ssW q k gd wd se pr ln px cv co B R sx pt rd wt) ++ (plW od k ad bd ed kd nb sh mb)) [.ref (q 0), .int x] (fun (r : Int32) (_ : Unit) => r = nI 1) (fun (_ : Unit) => ((ssW q k gd wd se pr ln px cv co B R sx pt rd wt) ++ (plW od k ad bd ed kd nb sh mb))) := by
  refine hp_head (by decide) (Nat.le_of_ble_eq_true rfl) ?_
  intro p e s m below meth c ls A hx hb hr hlocks hml hown htab hts hX hT hU hK hA hP hD hS hl
  have hown : s.vm.findClass "SlotScreenLaw" = some m.cls := hown
  have hl : lv_has ls 3 [(0, .ref (q 0)), (1, .int x)] := hl
  refine lv_aload_n hx hb d_LW_widen_0 rfl (lv_at hl 0 rfl) ?_
  refine lv_iload_n hx hb d_LW_widen_1 rfl (lv_at hl 1 rfl) ?_
  have hPc : va_P D vwCl (ssW q k gd wd se pr ln px cv co B R sx pt rd wt) _ := va_subP (a := []) (b := (ssW q k gd wd se pr ln px cv co B R sx pt rd wt)) (c := (plW od k ad bd ed kd nb sh mb)) hP
  refine kt_A htab (by decide) (by decide) (hts _ w_289) (As := [.int x]) (rest := []) ⟨hx, hb, hml, hown, hts⟩ (t_SS_widenb l hl9 D k q gd wd se pr ln px cv co B R sx pt rd wt x hx9) (cwV 1 hts (gV w_291 w_292 w_293 w_1 w_294) rfl rfl rfl (by decide +kernel) ⟨Nat.le_of_ble_eq_true rfl, Nat.le_of_ble_eq_true rfl⟩) hK hT hU hPc hS (va_recv hK hPc (ci := 0) (q0 := 0) rfl rfl) rfl hl.1 rfl (Nat.le_of_ble_eq_true rfl) d_LW_widen_2 ⟨by show 0 + 1 ≤ 3; omega, by show 0 + 6 ≤ 263; omega⟩ (fun q9 H9 z1 z2 => ?_)
  have hP := va_old hP z2
  have hS := va_Sold hS z1 z2
  clear z1 z2 hPc
  generalize H9 = H at hP hS ⊢
  have hP : va_P D vwCl ((ssW q k gd wd se pr ln px cv co B R sx pt rd wt) ++ (plW od k ad bd ed kd nb sh mb)) _ := hP
  have hD : va_D A ((ssW q k gd wd se pr ln px cv co B R sx pt rd wt) ++ (plW od k ad bd ed kd nb sh mb)) := hD
  refine lv_astore_n (lv' := [(2, .ref q9), (0, .ref (q 0)), (1, .int x)]) hx hb d_LW_widen_8 rfl hl (by decide) rfl (fun ls hl => ?_)
  refine lv_iconst (v := nI 1) hx hb d_LW_widen_9 (by decide +kernel) ?_
  exact hp_ret hx hb hr hlocks d_LW_widen_10 (by show 0 + 1 ≤ 3; omega) (by show 0 + 6 ≤ 263; omega) hS () rfl hP hD
set_option maxHeartbeats 4000000 in
set_option maxRecDepth 100000 in
theorem h_widen1 (l : Launch) (hl9 : l.stackTraces = false) (D : va_G) (k : Nat → ClassId) (q : Nat → Nat) (gd : Nat → Option Nat) (wd : Nat → Nat) (se : Nat → Nat) (pr : Nat) (ln : Nat) (px : Nat → Nat) (cv : Nat) (co : Nat) (B : Nat → Nat) (R : Nat → Nat) (sx : Nat) (pt : Nat) (rd : Nat) (wt : Int32) (od : List Nat) (ad bd ed kd nb sh mb : Nat → Nat) (hwd : ∀ j, wd j < 2) (hse : ∀ j, se j < 256) (hpr : pr < 256) (j : Nat) (hj : j < 4) (h1 : wd j = 1) : hp_i l y_LW_widen b_LW_widen 3 [(0, 5, 8, 13), (0, 5, 11, 15)] { frames := 7, cells := 3, slots := 263, locals := 160 } D (kT k) ((ssW q k gd wd se pr ln px cv co B R sx pt rd wt) ++ (plW od k ad bd ed kd nb sh mb)) [.ref (q 0), .int (nI j)] (fun (r : Int32) (_ : Unit) => r = nI 2) (fun (_ : Unit) => ((ssW q k gd wd se pr ln px cv co B R sx pt rd wt) ++ (plW od k ad bd ed kd nb sh mb))) := by
  refine hp_head (by decide) (Nat.le_of_ble_eq_true rfl) ?_
  intro p e s m below meth c ls A hx hb hr hlocks hml hown htab hts hX hT hU hK hA hP hD hS hl
  have hown : s.vm.findClass "SlotScreenLaw" = some m.cls := hown
  have hl : lv_has ls 3 [(0, .ref (q 0)), (1, .int (nI j))] := hl
  refine lv_aload_n hx hb d_LW_widen_0 rfl (lv_at hl 0 rfl) ?_
  refine lv_iload_n hx hb d_LW_widen_1 rfl (lv_at hl 1 rfl) ?_
  have hPc : va_P D vwCl (ssW q k gd wd se pr ln px cv co B R sx pt rd wt) _ := va_subP (a := []) (b := (ssW q k gd wd se pr ln px cv co B R sx pt rd wt)) (c := (plW od k ad bd ed kd nb sh mb)) hP
  refine kt_B htab (by decide) (by decide) (hts _ w_289) (hts _ w_290) (As := [.int (nI j)]) (rest := []) ⟨hx, hb, hml, hown, hts⟩ (t_SS_widen1 l hl9 D k q gd wd se pr ln px cv co B R sx pt rd wt hwd hse hpr j hj h1) (cwV 1 hts (gV w_291 w_292 w_293 w_1 w_294) rfl rfl rfl (by decide +kernel) ⟨Nat.le_of_ble_eq_true rfl, Nat.le_of_ble_eq_true rfl⟩) hK hT hU hPc hS (va_recv hK hPc (ci := 0) (q0 := 0) rfl rfl) rfl hl.1 rfl (Nat.le_of_ble_eq_true rfl) d_LW_widen_2 ⟨by show 0 + 1 ≤ 3; omega, by show 0 + 6 ≤ 263; omega⟩ (fun q9 H9 z1 z2 => ?_)
  have hP := va_old hP z2
  have hS := va_Sold hS z1 z2
  clear z1 z2 hPc
  generalize H9 = H at hP hS ⊢
  have hP : va_P D vwCl ((ssW q k gd wd se pr ln px cv co B R sx pt rd wt) ++ (plW od k ad bd ed kd nb sh mb)) _ := hP
  have hD : va_D A ((ssW q k gd wd se pr ln px cv co B R sx pt rd wt) ++ (plW od k ad bd ed kd nb sh mb)) := hD
  refine lv_astore_n (lv' := [(2, .ref q9), (0, .ref (q 0)), (1, .int (nI j))]) hx hb d_LW_widen_11 rfl hl (by decide) rfl (fun ls hl => ?_)
  refine lv_iconst (v := nI 2) hx hb d_LW_widen_12 (by decide +kernel) ?_
  exact hp_ret hx hb hr hlocks d_LW_widen_13 (by show 0 + 1 ≤ 3; omega) (by show 0 + 6 ≤ 263; omega) hS () rfl hP hD
set_option maxHeartbeats 4000000 in
set_option maxRecDepth 100000 in
theorem h_widen2 (l : Launch) (hl9 : l.stackTraces = false) (D : va_G) (k : Nat → ClassId) (q : Nat → Nat) (gd : Nat → Option Nat) (wd : Nat → Nat) (se : Nat → Nat) (pr : Nat) (ln : Nat) (px : Nat → Nat) (cv : Nat) (co : Nat) (B : Nat → Nat) (R : Nat → Nat) (sx : Nat) (pt : Nat) (rd : Nat) (wt : Int32) (od : List Nat) (ad bd ed kd nb sh mb : Nat → Nat) (hwd : ∀ j, wd j < 2) (hse : ∀ j, se j < 256) (hpr : pr < 256) (j : Nat) (hj : j < 4) (h1 : wd j = 0) (a9 : Nat) (hg : gd (4 * j + 0) = some a9) : hp_i l y_LW_widen b_LW_widen 3 [(0, 5, 8, 13), (0, 5, 11, 15)] { frames := 7, cells := 3, slots := 263, locals := 160 } D (kT k) ((ssW q k gd wd se pr ln px cv co B R sx pt rd wt) ++ (plW od k ad bd ed kd nb sh mb)) [.ref (q 0), .int (nI j)] (fun (r : Int32) (_ : Unit) => r = nI 2) (fun (_ : Unit) => ((ssW q k gd wd se pr ln px cv co B R sx pt rd wt) ++ (plW od k ad bd ed kd nb sh mb))) := by
  refine hp_head (by decide) (Nat.le_of_ble_eq_true rfl) ?_
  intro p e s m below meth c ls A hx hb hr hlocks hml hown htab hts hX hT hU hK hA hP hD hS hl
  have hown : s.vm.findClass "SlotScreenLaw" = some m.cls := hown
  have hl : lv_has ls 3 [(0, .ref (q 0)), (1, .int (nI j))] := hl
  refine lv_aload_n hx hb d_LW_widen_0 rfl (lv_at hl 0 rfl) ?_
  refine lv_iload_n hx hb d_LW_widen_1 rfl (lv_at hl 1 rfl) ?_
  have hPc : va_P D vwCl (ssW q k gd wd se pr ln px cv co B R sx pt rd wt) _ := va_subP (a := []) (b := (ssW q k gd wd se pr ln px cv co B R sx pt rd wt)) (c := (plW od k ad bd ed kd nb sh mb)) hP
  refine kt_B htab (by decide) (by decide) (hts _ w_289) (hts _ w_290) (As := [.int (nI j)]) (rest := []) ⟨hx, hb, hml, hown, hts⟩ (t_SS_widen2 l hl9 D k q gd wd se pr ln px cv co B R sx pt rd wt hwd hse hpr j hj h1 a9 hg) (cwV 1 hts (gV w_291 w_292 w_293 w_1 w_294) rfl rfl rfl (by decide +kernel) ⟨Nat.le_of_ble_eq_true rfl, Nat.le_of_ble_eq_true rfl⟩) hK hT hU hPc hS (va_recv hK hPc (ci := 0) (q0 := 0) rfl rfl) rfl hl.1 rfl (Nat.le_of_ble_eq_true rfl) d_LW_widen_2 ⟨by show 0 + 1 ≤ 3; omega, by show 0 + 6 ≤ 263; omega⟩ (fun q9 H9 z1 z2 => ?_)
  have hP := va_old hP z2
  have hS := va_Sold hS z1 z2
  clear z1 z2 hPc
  generalize H9 = H at hP hS ⊢
  have hP : va_P D vwCl ((ssW q k gd wd se pr ln px cv co B R sx pt rd wt) ++ (plW od k ad bd ed kd nb sh mb)) _ := hP
  have hD : va_D A ((ssW q k gd wd se pr ln px cv co B R sx pt rd wt) ++ (plW od k ad bd ed kd nb sh mb)) := hD
  refine lv_astore_n (lv' := [(2, .ref q9), (0, .ref (q 0)), (1, .int (nI j))]) hx hb d_LW_widen_11 rfl hl (by decide) rfl (fun ls hl => ?_)
  refine lv_iconst (v := nI 2) hx hb d_LW_widen_12 (by decide +kernel) ?_
  exact hp_ret hx hb hr hlocks d_LW_widen_13 (by show 0 + 1 ≤ 3; omega) (by show 0 + 6 ≤ 263; omega) hS () rfl hP hD
set_option maxHeartbeats 4000000 in
set_option maxRecDepth 100000 in
theorem h_widen (l : Launch) (hl9 : l.stackTraces = false) (D : va_G) (k : Nat → ClassId) (q : Nat → Nat) (gd : Nat → Option Nat) (wd : Nat → Nat) (se : Nat → Nat) (pr : Nat) (ln : Nat) (px : Nat → Nat) (cv : Nat) (co : Nat) (B : Nat → Nat) (R : Nat → Nat) (sx : Nat) (pt : Nat) (rd : Nat) (wt : Int32) (od : List Nat) (ad bd ed kd nb sh mb : Nat → Nat) (hwd : ∀ j, wd j < 2) (hse : ∀ j, se j < 256) (hpr : pr < 256) (j : Nat) (hj : j < 4) (h1 : wd j = 0) (hg : gd (4 * j + 0) = none) : hp_i l y_LW_widen b_LW_widen 3 [(0, 5, 8, 13), (0, 5, 11, 15)] { frames := 7, cells := 3, slots := 263, locals := 160 } D (kT k) ((ssW q k gd wd se pr ln px cv co B R sx pt rd wt) ++ (plW od k ad bd ed kd nb sh mb)) [.ref (q 0), .int (nI j)] (fun (r : Int32) (_ : Unit) => r = nI 0) (fun (_ : Unit) => ((ssW q k gd (ss_up wd j 1) se pr ln px cv co B R sx pt rd wt) ++ (plW od k ad bd ed kd nb sh mb))) := by
  refine hp_head (by decide) (Nat.le_of_ble_eq_true rfl) ?_
  intro p e s m below meth c ls A hx hb hr hlocks hml hown htab hts hX hT hU hK hA hP hD hS hl
  have hown : s.vm.findClass "SlotScreenLaw" = some m.cls := hown
  have hl : lv_has ls 3 [(0, .ref (q 0)), (1, .int (nI j))] := hl
  refine lv_aload_n hx hb d_LW_widen_0 rfl (lv_at hl 0 rfl) ?_
  refine lv_iload_n hx hb d_LW_widen_1 rfl (lv_at hl 1 rfl) ?_
  have hPc := va_subP (a := []) (b := (ssW q k gd wd se pr ln px cv co B R sx pt rd wt)) (c := (plW od k ad bd ed kd nb sh mb)) hP
  have hDc := va_subD (a := []) (b := (ssW q k gd wd se pr ln px cv co B R sx pt rd wt)) (c := (plW od k ad bd ed kd nb sh mb)) hD
  refine kw_vV (As := [.int (nI j)]) (rest := []) ⟨hx, hb, hml, hown, hts⟩ (c_SS_widen l D k q gd wd se pr ln px cv co B R sx pt rd wt hwd hse hpr j hj h1 hg) (cwV 1 hts (gV w_291 w_292 w_293 w_1 w_294) rfl rfl rfl (by decide +kernel) ⟨Nat.le_of_ble_eq_true rfl, Nat.le_of_ble_eq_true rfl⟩) hK hPc hDc hS hA (va_recv hK hPc (ci := 0) (q0 := 0) rfl rfl) rfl hl.1 rfl (Nat.le_of_ble_eq_true rfl) d_LW_widen_2 ⟨Nat.zero_le _, Nat.zero_le _⟩ (fun _ H9 locs _ hP1 hk1 hS9 => ?_)
  obtain ⟨hP, hD⟩ := fr_mid (a := []) (b := (ssW q k gd wd se pr ln px cv co B R sx pt rd wt)) (c := (plW od k ad bd ed kd nb sh mb)) (b' := (ssW q k gd (ss_up wd j 1) se pr ln px cv co B R sx pt rd wt)) hP hD hk1 (fun q h => hA q (Nat.le_trans hS.1 h)) hP1 (rw_same hDc.self rfl)
  have hS := hS9
  generalize H9 = H at hP hS ⊢
  have hP : va_P D vwCl ((ssW q k gd (ss_up wd j 1) se pr ln px cv co B R sx pt rd wt) ++ (plW od k ad bd ed kd nb sh mb)) _ := hP
  have hD : va_D A ((ssW q k gd (ss_up wd j 1) se pr ln px cv co B R sx pt rd wt) ++ (plW od k ad bd ed kd nb sh mb)) := hD
  refine lv_goto (tgt := 14) hx hb d_LW_widen_5 (by decide) ?_
  refine lv_iconst (v := nI 0) hx hb d_LW_widen_14 (by decide +kernel) ?_
  exact hp_ret hx hb hr hlocks d_LW_widen_15 (by show 0 ≤ 3; omega) (by show 0 ≤ 263; omega) hS () rfl hP hD
set_option maxHeartbeats 4000000 in
set_option maxRecDepth 100000 in
theorem h_plugb (l : Launch) (hl9 : l.stackTraces = false) (D : va_G) (k : Nat → ClassId) (q : Nat → Nat) (gd : Nat → Option Nat) (wd : Nat → Nat) (se : Nat → Nat) (pr : Nat) (ln : Nat) (px : Nat → Nat) (cv : Nat) (co : Nat) (B : Nat → Nat) (R : Nat → Nat) (sx : Nat) (pt : Nat) (rd : Nat) (wt : Int32) (od : List Nat) (ad bd ed kd nb sh mb : Nat → Nat) (x y z b : Int32) (hx9 : ¬ (0 ≤ x.toInt ∧ x.toInt ≤ 3 ∧ 0 ≤ y.toInt ∧ y.toInt ≤ 3 ∧ 1 ≤ z.toInt ∧ z.toInt ≤ 4 ∧ (z.toInt = 3 → 1 ≤ b.toInt ∧ b.toInt ≤ 8))) : hp_i l y_LW_plug b_LW_plug 6 [(0, 9, 12, 13), (0, 9, 16, 15)] { frames := 7, cells := 3, slots := 263, locals := 160 } D (kT k) ((ssW q k gd wd se pr ln px cv co B R sx pt rd wt) ++ (plW od k ad bd ed kd nb sh mb)) [.ref (q 0), .int x, .int y, .int z, .int b] (fun (r : Int32) (_ : Unit) => r = nI 1) (fun (_ : Unit) => ((ssW q k gd wd se pr ln px cv co B R sx pt rd wt) ++ (plW od k ad bd ed kd nb sh mb))) := by
  refine hp_head (by decide) (Nat.le_of_ble_eq_true rfl) ?_
  intro p e s m below meth c ls A hx hb hr hlocks hml hown htab hts hX hT hU hK hA hP hD hS hl
  have hown : s.vm.findClass "SlotScreenLaw" = some m.cls := hown
  have hl : lv_has ls 6 [(0, .ref (q 0)), (1, .int x), (2, .int y), (3, .int z), (4, .int b)] := hl
  refine lv_aload_n hx hb d_LW_plug_0 rfl (lv_at hl 0 rfl) ?_
  refine lv_iload_n hx hb d_LW_plug_1 rfl (lv_at hl 1 rfl) ?_
  refine lv_iload_n hx hb d_LW_plug_2 rfl (lv_at hl 2 rfl) ?_
  refine lv_iload_n hx hb d_LW_plug_3 rfl (lv_at hl 3 rfl) ?_
  refine lv_iload hx hb d_LW_plug_4 (lv_at hl 4 rfl) ?_
  have hPc : va_P D vwCl (ssW q k gd wd se pr ln px cv co B R sx pt rd wt) _ := va_subP (a := []) (b := (ssW q k gd wd se pr ln px cv co B R sx pt rd wt)) (c := (plW od k ad bd ed kd nb sh mb)) hP
  refine kt_A htab (by decide) (by decide) (hts _ w_289) (As := [.int x, .int y, .int z, .int b]) (rest := []) ⟨hx, hb, hml, hown, hts⟩ (t_SS_plugb l hl9 D k q gd wd se pr ln px cv co B R sx pt rd wt x y z b hx9) (cwV 4 hts (gV w_385 w_386 w_387 w_1 w_388) rfl rfl rfl (by decide +kernel) ⟨Nat.le_of_ble_eq_true rfl, Nat.le_of_ble_eq_true rfl⟩) hK hT hU hPc hS (va_recv hK hPc (ci := 0) (q0 := 0) rfl rfl) rfl hl.1 rfl (Nat.le_of_ble_eq_true rfl) d_LW_plug_6 ⟨by show 0 + 1 ≤ 3; omega, by show 0 + 6 ≤ 263; omega⟩ (fun q9 H9 z1 z2 => ?_)
  have hP := va_old hP z2
  have hS := va_Sold hS z1 z2
  clear z1 z2 hPc
  generalize H9 = H at hP hS ⊢
  have hP : va_P D vwCl ((ssW q k gd wd se pr ln px cv co B R sx pt rd wt) ++ (plW od k ad bd ed kd nb sh mb)) _ := hP
  have hD : va_D A ((ssW q k gd wd se pr ln px cv co B R sx pt rd wt) ++ (plW od k ad bd ed kd nb sh mb)) := hD
  refine lv_astore (lv' := [(5, .ref q9), (0, .ref (q 0)), (1, .int x), (2, .int y), (3, .int z), (4, .int b)]) hx hb d_LW_plug_12 hl (by decide) rfl (fun ls hl => ?_)
  refine lv_iconst (v := nI 1) hx hb d_LW_plug_14 (by decide +kernel) ?_
  exact hp_ret hx hb hr hlocks d_LW_plug_15 (by show 0 + 1 ≤ 3; omega) (by show 0 + 6 ≤ 263; omega) hS () rfl hP hD
set_option maxHeartbeats 4000000 in
set_option maxRecDepth 100000 in
theorem h_plug1 (l : Launch) (hl9 : l.stackTraces = false) (D : va_G) (k : Nat → ClassId) (q : Nat → Nat) (gd : Nat → Option Nat) (wd : Nat → Nat) (se : Nat → Nat) (pr : Nat) (ln : Nat) (px : Nat → Nat) (cv : Nat) (co : Nat) (B : Nat → Nat) (R : Nat → Nat) (sx : Nat) (pt : Nat) (rd : Nat) (wt : Int32) (od : List Nat) (ad bd ed kd nb sh mb : Nat → Nat) (hwd : ∀ j, wd j < 2) (hse : ∀ j, se j < 256) (hpr : pr < 256) (s9 p9 kk : Nat) (hs9 : s9 < 4) (hp9 : p9 < 4) (b : Int32) (hk1 : 1 ≤ kk) (hk2 : kk ≤ 4) (hk3 : kk = 3 → 1 ≤ b.toInt ∧ b.toInt ≤ 8) (h1 : wd s9 = 0 ∧ 0 < p9) : hp_i l y_LW_plug b_LW_plug 6 [(0, 9, 12, 13), (0, 9, 16, 15)] { frames := 7, cells := 3, slots := 263, locals := 160 } D (kT k) ((ssW q k gd wd se pr ln px cv co B R sx pt rd wt) ++ (plW od k ad bd ed kd nb sh mb)) [.ref (q 0), .int (nI s9), .int (nI p9), .int (nI kk), .int b] (fun (r : Int32) (_ : Unit) => r = nI 2) (fun (_ : Unit) => ((ssW q k gd wd se pr ln px cv co B R sx pt rd wt) ++ (plW od k ad bd ed kd nb sh mb))) := by
  refine hp_head (by decide) (Nat.le_of_ble_eq_true rfl) ?_
  intro p e s m below meth c ls A hx hb hr hlocks hml hown htab hts hX hT hU hK hA hP hD hS hl
  have hown : s.vm.findClass "SlotScreenLaw" = some m.cls := hown
  have hl : lv_has ls 6 [(0, .ref (q 0)), (1, .int (nI s9)), (2, .int (nI p9)), (3, .int (nI kk)), (4, .int b)] := hl
  refine lv_aload_n hx hb d_LW_plug_0 rfl (lv_at hl 0 rfl) ?_
  refine lv_iload_n hx hb d_LW_plug_1 rfl (lv_at hl 1 rfl) ?_
  refine lv_iload_n hx hb d_LW_plug_2 rfl (lv_at hl 2 rfl) ?_
  refine lv_iload_n hx hb d_LW_plug_3 rfl (lv_at hl 3 rfl) ?_
  refine lv_iload hx hb d_LW_plug_4 (lv_at hl 4 rfl) ?_
  have hPc : va_P D vwCl (ssW q k gd wd se pr ln px cv co B R sx pt rd wt) _ := va_subP (a := []) (b := (ssW q k gd wd se pr ln px cv co B R sx pt rd wt)) (c := (plW od k ad bd ed kd nb sh mb)) hP
  refine kt_B htab (by decide) (by decide) (hts _ w_289) (hts _ w_290) (As := [.int (nI s9), .int (nI p9), .int (nI kk), .int b]) (rest := []) ⟨hx, hb, hml, hown, hts⟩ (t_SS_plug1 l hl9 D k q gd wd se pr ln px cv co B R sx pt rd wt hwd hse hpr s9 p9 kk hs9 hp9 b hk1 hk2 hk3 h1) (cwV 4 hts (gV w_385 w_386 w_387 w_1 w_388) rfl rfl rfl (by decide +kernel) ⟨Nat.le_of_ble_eq_true rfl, Nat.le_of_ble_eq_true rfl⟩) hK hT hU hPc hS (va_recv hK hPc (ci := 0) (q0 := 0) rfl rfl) rfl hl.1 rfl (Nat.le_of_ble_eq_true rfl) d_LW_plug_6 ⟨by show 0 + 1 ≤ 3; omega, by show 0 + 6 ≤ 263; omega⟩ (fun q9 H9 z1 z2 => ?_)
  have hP := va_old hP z2
  have hS := va_Sold hS z1 z2
  clear z1 z2 hPc
  generalize H9 = H at hP hS ⊢
  have hP : va_P D vwCl ((ssW q k gd wd se pr ln px cv co B R sx pt rd wt) ++ (plW od k ad bd ed kd nb sh mb)) _ := hP
  have hD : va_D A ((ssW q k gd wd se pr ln px cv co B R sx pt rd wt) ++ (plW od k ad bd ed kd nb sh mb)) := hD
  refine lv_astore (lv' := [(5, .ref q9), (0, .ref (q 0)), (1, .int (nI s9)), (2, .int (nI p9)), (3, .int (nI kk)), (4, .int b)]) hx hb d_LW_plug_16 hl (by decide) rfl (fun ls hl => ?_)
  refine lv_iconst (v := nI 2) hx hb d_LW_plug_18 (by decide +kernel) ?_
  exact hp_ret hx hb hr hlocks d_LW_plug_19 (by show 0 + 1 ≤ 3; omega) (by show 0 + 6 ≤ 263; omega) hS () rfl hP hD
set_option maxHeartbeats 4000000 in
set_option maxRecDepth 100000 in
theorem h_plug2 (l : Launch) (hl9 : l.stackTraces = false) (D : va_G) (k : Nat → ClassId) (q : Nat → Nat) (gd : Nat → Option Nat) (wd : Nat → Nat) (se : Nat → Nat) (pr : Nat) (ln : Nat) (px : Nat → Nat) (cv : Nat) (co : Nat) (B : Nat → Nat) (R : Nat → Nat) (sx : Nat) (pt : Nat) (rd : Nat) (wt : Int32) (od : List Nat) (ad bd ed kd nb sh mb : Nat → Nat) (hwd : ∀ j, wd j < 2) (hse : ∀ j, se j < 256) (hpr : pr < 256) (s9 p9 kk : Nat) (hs9 : s9 < 4) (hp9 : p9 < 4) (b : Int32) (hk1 : 1 ≤ kk) (hk2 : kk ≤ 4) (hk3 : kk = 3 → 1 ≤ b.toInt ∧ b.toInt ≤ 8) (h1 : p9 = 0 ∨ wd s9 = 1) (a9 : Nat) (hg : gd (4 * s9 + p9) = some a9) : hp_i l y_LW_plug b_LW_plug 6 [(0, 9, 12, 13), (0, 9, 16, 15)] { frames := 7, cells := 3, slots := 263, locals := 160 } D (kT k) ((ssW q k gd wd se pr ln px cv co B R sx pt rd wt) ++ (plW od k ad bd ed kd nb sh mb)) [.ref (q 0), .int (nI s9), .int (nI p9), .int (nI kk), .int b] (fun (r : Int32) (_ : Unit) => r = nI 2) (fun (_ : Unit) => ((ssW q k gd wd se pr ln px cv co B R sx pt rd wt) ++ (plW od k ad bd ed kd nb sh mb))) := by
  refine hp_head (by decide) (Nat.le_of_ble_eq_true rfl) ?_
  intro p e s m below meth c ls A hx hb hr hlocks hml hown htab hts hX hT hU hK hA hP hD hS hl
  have hown : s.vm.findClass "SlotScreenLaw" = some m.cls := hown
  have hl : lv_has ls 6 [(0, .ref (q 0)), (1, .int (nI s9)), (2, .int (nI p9)), (3, .int (nI kk)), (4, .int b)] := hl
  refine lv_aload_n hx hb d_LW_plug_0 rfl (lv_at hl 0 rfl) ?_
  refine lv_iload_n hx hb d_LW_plug_1 rfl (lv_at hl 1 rfl) ?_
  refine lv_iload_n hx hb d_LW_plug_2 rfl (lv_at hl 2 rfl) ?_
  refine lv_iload_n hx hb d_LW_plug_3 rfl (lv_at hl 3 rfl) ?_
  refine lv_iload hx hb d_LW_plug_4 (lv_at hl 4 rfl) ?_
  have hPc : va_P D vwCl (ssW q k gd wd se pr ln px cv co B R sx pt rd wt) _ := va_subP (a := []) (b := (ssW q k gd wd se pr ln px cv co B R sx pt rd wt)) (c := (plW od k ad bd ed kd nb sh mb)) hP
  refine kt_B htab (by decide) (by decide) (hts _ w_289) (hts _ w_290) (As := [.int (nI s9), .int (nI p9), .int (nI kk), .int b]) (rest := []) ⟨hx, hb, hml, hown, hts⟩ (t_SS_plug2 l hl9 D k q gd wd se pr ln px cv co B R sx pt rd wt hwd hse hpr s9 p9 kk hs9 hp9 b hk1 hk2 hk3 h1 a9 hg) (cwV 4 hts (gV w_385 w_386 w_387 w_1 w_388) rfl rfl rfl (by decide +kernel) ⟨Nat.le_of_ble_eq_true rfl, Nat.le_of_ble_eq_true rfl⟩) hK hT hU hPc hS (va_recv hK hPc (ci := 0) (q0 := 0) rfl rfl) rfl hl.1 rfl (Nat.le_of_ble_eq_true rfl) d_LW_plug_6 ⟨by show 0 + 1 ≤ 3; omega, by show 0 + 6 ≤ 263; omega⟩ (fun q9 H9 z1 z2 => ?_)
  have hP := va_old hP z2
  have hS := va_Sold hS z1 z2
  clear z1 z2 hPc
  generalize H9 = H at hP hS ⊢
  have hP : va_P D vwCl ((ssW q k gd wd se pr ln px cv co B R sx pt rd wt) ++ (plW od k ad bd ed kd nb sh mb)) _ := hP
  have hD : va_D A ((ssW q k gd wd se pr ln px cv co B R sx pt rd wt) ++ (plW od k ad bd ed kd nb sh mb)) := hD
  refine lv_astore (lv' := [(5, .ref q9), (0, .ref (q 0)), (1, .int (nI s9)), (2, .int (nI p9)), (3, .int (nI kk)), (4, .int b)]) hx hb d_LW_plug_16 hl (by decide) rfl (fun ls hl => ?_)
  refine lv_iconst (v := nI 2) hx hb d_LW_plug_18 (by decide +kernel) ?_
  exact hp_ret hx hb hr hlocks d_LW_plug_19 (by show 0 + 1 ≤ 3; omega) (by show 0 + 6 ≤ 263; omega) hS () rfl hP hD
set_option maxHeartbeats 4000000 in
set_option maxRecDepth 100000 in
theorem h_plugK1 (l : Launch) (hl9 : l.stackTraces = false) (D : va_G) (k : Nat → ClassId) (q : Nat → Nat) (gd : Nat → Option Nat) (wd : Nat → Nat) (se : Nat → Nat) (pr : Nat) (ln : Nat) (px : Nat → Nat) (cv : Nat) (co : Nat) (B : Nat → Nat) (R : Nat → Nat) (sx : Nat) (pt : Nat) (rd : Nat) (wt : Int32) (od : List Nat) (ad bd ed kd nb sh mb : Nat → Nat) (hwd : ∀ j, wd j < 2) (hse : ∀ j, se j < 256) (hpr : pr < 256) (hkd : ∀ j, kd j < 5) (hO : plO od gd ad kd nb sh) (s9 p9 : Nat) (hs9 : s9 < 4) (hp9 : p9 < 4) (b : Int32) (h1 : wd s9 = 1 ∨ p9 = 0) (h2 : kd (4 * s9 + p9) = 0) (hz : ∀ j, j < 256 → mb (256 * (4 * s9 + p9) + j) = 0) : hp_i l y_LW_plug b_LW_plug 6 [(0, 9, 12, 13), (0, 9, 16, 15)] { frames := 7, cells := 3, slots := 263, locals := 160 } D (kT k) ((ssW q k gd wd se pr ln px cv co B R sx pt rd wt) ++ (plW od k ad bd ed kd nb sh mb)) [.ref (q 0), .int (nI s9), .int (nI p9), .int (nI 1), .int b] (fun (r : Int32) (_ : Nat × Nat × Nat) => r = nI 0) (fun (u : Nat × Nat × Nat) => ssW q k (va_up gd (4 * s9 + p9) (some u.1)) wd se pr ln px cv co B R sx pt rd wt ++ plW (od ++ [(4 * s9 + p9)]) k (ss_up ad (4 * s9 + p9) u.1) (ss_up bd (4 * s9 + p9) u.2.1) (ss_up ed (4 * s9 + p9) u.2.2) (ss_up kd (4 * s9 + p9) 1) nb sh mb) := by
  refine hp_head (by decide) (Nat.le_of_ble_eq_true rfl) ?_
  intro p e s m below meth c ls A hx hb hr hlocks hml hown htab hts hX hT hU hK hA hP hD hS hl
  have hown : s.vm.findClass "SlotScreenLaw" = some m.cls := hown
  have hl : lv_has ls 6 [(0, .ref (q 0)), (1, .int (nI s9)), (2, .int (nI p9)), (3, .int (nI 1)), (4, .int b)] := hl
  refine lv_aload_n hx hb d_LW_plug_0 rfl (lv_at hl 0 rfl) ?_
  refine lv_iload_n hx hb d_LW_plug_1 rfl (lv_at hl 1 rfl) ?_
  refine lv_iload_n hx hb d_LW_plug_2 rfl (lv_at hl 2 rfl) ?_
  refine lv_iload_n hx hb d_LW_plug_3 rfl (lv_at hl 3 rfl) ?_
  refine lv_iload hx hb d_LW_plug_4 (lv_at hl 4 rfl) ?_
  refine kn_vV (As := [.int (nI s9), .int (nI p9), .int (nI 1), .int b]) (rest := []) ⟨hx, hb, hml, hown, hts⟩ (c_SS_plug1 l D k q gd wd se pr ln px cv co B R sx pt rd wt od ad bd ed kd nb sh mb hwd hse hpr hkd hO s9 p9 hs9 hp9 b h1 h2 hz) (cwV 4 hts (gV w_385 w_386 w_387 w_1 w_388) rfl rfl rfl (by decide +kernel) ⟨Nat.le_of_ble_eq_true rfl, Nat.le_of_ble_eq_true rfl⟩) hK hX hP hD hS hA (va_recv hK hP (ci := 0) (q0 := 0) rfl rfl) rfl hl.1 rfl (Nat.le_of_ble_eq_true rfl) d_LW_plug_6 ⟨by show 0 + 3 ≤ 3; omega, by show 0 + 263 ≤ 263; omega⟩ (fun u9 H9 locs hp9 hP1 hD1 hk1 hS9 => ?_)
  obtain ⟨hP, hD⟩ := fr_tl (a := []) hP hD hk1 (fun q h => hA q (Nat.le_trans hS.1 h)) hP1 hD1
  have hS := hS9
  generalize H9 = H at hP hS ⊢
  refine lv_goto (tgt := 20) hx hb d_LW_plug_9 (by decide) ?_
  refine lv_iconst (v := nI 0) hx hb d_LW_plug_20 (by decide +kernel) ?_
  exact hp_ret hx hb hr hlocks d_LW_plug_21 (by show 0 + 3 ≤ 3; omega) (by show 0 + 263 ≤ 263; omega) hS u9 rfl hP hD
set_option maxHeartbeats 4000000 in
set_option maxRecDepth 100000 in
theorem h_plugK2 (l : Launch) (hl9 : l.stackTraces = false) (D : va_G) (k : Nat → ClassId) (q : Nat → Nat) (gd : Nat → Option Nat) (wd : Nat → Nat) (se : Nat → Nat) (pr : Nat) (ln : Nat) (px : Nat → Nat) (cv : Nat) (co : Nat) (B : Nat → Nat) (R : Nat → Nat) (sx : Nat) (pt : Nat) (rd : Nat) (wt : Int32) (od : List Nat) (ad bd ed kd nb sh mb : Nat → Nat) (hwd : ∀ j, wd j < 2) (hse : ∀ j, se j < 256) (hpr : pr < 256) (hkd : ∀ j, kd j < 5) (hO : plO od gd ad kd nb sh) (s9 p9 : Nat) (hs9 : s9 < 4) (hp9 : p9 < 4) (b : Int32) (h1 : wd s9 = 1 ∨ p9 = 0) (h2 : kd (4 * s9 + p9) = 0) (hz : ∀ j, j < 256 → mb (256 * (4 * s9 + p9) + j) = 0) : hp_i l y_LW_plug b_LW_plug 6 [(0, 9, 12, 13), (0, 9, 16, 15)] { frames := 7, cells := 3, slots := 263, locals := 160 } D (kT k) ((ssW q k gd wd se pr ln px cv co B R sx pt rd wt) ++ (plW od k ad bd ed kd nb sh mb)) [.ref (q 0), .int (nI s9), .int (nI p9), .int (nI 2), .int b] (fun (r : Int32) (_ : Nat × Nat × Nat) => r = nI 0) (fun (u : Nat × Nat × Nat) => ssW q k (va_up gd (4 * s9 + p9) (some u.1)) wd se pr ln px cv co B R sx pt rd wt ++ plW (od ++ [(4 * s9 + p9)]) k (ss_up ad (4 * s9 + p9) u.1) (ss_up bd (4 * s9 + p9) u.2.1) (ss_up ed (4 * s9 + p9) u.2.2) (ss_up kd (4 * s9 + p9) 2) nb sh mb) := by
  refine hp_head (by decide) (Nat.le_of_ble_eq_true rfl) ?_
  intro p e s m below meth c ls A hx hb hr hlocks hml hown htab hts hX hT hU hK hA hP hD hS hl
  have hown : s.vm.findClass "SlotScreenLaw" = some m.cls := hown
  have hl : lv_has ls 6 [(0, .ref (q 0)), (1, .int (nI s9)), (2, .int (nI p9)), (3, .int (nI 2)), (4, .int b)] := hl
  refine lv_aload_n hx hb d_LW_plug_0 rfl (lv_at hl 0 rfl) ?_
  refine lv_iload_n hx hb d_LW_plug_1 rfl (lv_at hl 1 rfl) ?_
  refine lv_iload_n hx hb d_LW_plug_2 rfl (lv_at hl 2 rfl) ?_
  refine lv_iload_n hx hb d_LW_plug_3 rfl (lv_at hl 3 rfl) ?_
  refine lv_iload hx hb d_LW_plug_4 (lv_at hl 4 rfl) ?_
  refine kn_vV (As := [.int (nI s9), .int (nI p9), .int (nI 2), .int b]) (rest := []) ⟨hx, hb, hml, hown, hts⟩ (c_SS_plug2 l D k q gd wd se pr ln px cv co B R sx pt rd wt od ad bd ed kd nb sh mb hwd hse hpr hkd hO s9 p9 hs9 hp9 b h1 h2 hz) (cwV 4 hts (gV w_385 w_386 w_387 w_1 w_388) rfl rfl rfl (by decide +kernel) ⟨Nat.le_of_ble_eq_true rfl, Nat.le_of_ble_eq_true rfl⟩) hK hX hP hD hS hA (va_recv hK hP (ci := 0) (q0 := 0) rfl rfl) rfl hl.1 rfl (Nat.le_of_ble_eq_true rfl) d_LW_plug_6 ⟨by show 0 + 3 ≤ 3; omega, by show 0 + 263 ≤ 263; omega⟩ (fun u9 H9 locs hp9 hP1 hD1 hk1 hS9 => ?_)
  obtain ⟨hP, hD⟩ := fr_tl (a := []) hP hD hk1 (fun q h => hA q (Nat.le_trans hS.1 h)) hP1 hD1
  have hS := hS9
  generalize H9 = H at hP hS ⊢
  refine lv_goto (tgt := 20) hx hb d_LW_plug_9 (by decide) ?_
  refine lv_iconst (v := nI 0) hx hb d_LW_plug_20 (by decide +kernel) ?_
  exact hp_ret hx hb hr hlocks d_LW_plug_21 (by show 0 + 3 ≤ 3; omega) (by show 0 + 263 ≤ 263; omega) hS u9 rfl hP hD
set_option maxHeartbeats 4000000 in
set_option maxRecDepth 100000 in
theorem h_plugK3 (l : Launch) (hl9 : l.stackTraces = false) (D : va_G) (k : Nat → ClassId) (q : Nat → Nat) (gd : Nat → Option Nat) (wd : Nat → Nat) (se : Nat → Nat) (pr : Nat) (ln : Nat) (px : Nat → Nat) (cv : Nat) (co : Nat) (B : Nat → Nat) (R : Nat → Nat) (sx : Nat) (pt : Nat) (rd : Nat) (wt : Int32) (od : List Nat) (ad bd ed kd nb sh mb : Nat → Nat) (hwd : ∀ j, wd j < 2) (hse : ∀ j, se j < 256) (hpr : pr < 256) (hkd : ∀ j, kd j < 5) (hO : plO od gd ad kd nb sh) (s9 p9 : Nat) (hs9 : s9 < 4) (hp9 : p9 < 4) (n : Nat) (hn1 : 1 ≤ n) (hn2 : n ≤ 8) (h1 : wd s9 = 1 ∨ p9 = 0) (h2 : kd (4 * s9 + p9) = 0) (hz : ∀ j, j < 256 → mb (256 * (4 * s9 + p9) + j) = 0) : hp_i l y_LW_plug b_LW_plug 6 [(0, 9, 12, 13), (0, 9, 16, 15)] { frames := 7, cells := 3, slots := 263, locals := 160 } D (kT k) ((ssW q k gd wd se pr ln px cv co B R sx pt rd wt) ++ (plW od k ad bd ed kd nb sh mb)) [.ref (q 0), .int (nI s9), .int (nI p9), .int (nI 3), .int (nI n)] (fun (r : Int32) (_ : Nat × Nat × Nat) => r = nI 0) (fun (u : Nat × Nat × Nat) => ssW q k (va_up gd (4 * s9 + p9) (some u.1)) wd se pr ln px cv co B R sx pt rd wt ++ plW (od ++ [(4 * s9 + p9)]) k (ss_up ad (4 * s9 + p9) u.1) (ss_up bd (4 * s9 + p9) u.2.1) (ss_up ed (4 * s9 + p9) u.2.2) (ss_up kd (4 * s9 + p9) 3) (ss_up nb (4 * s9 + p9) n) (mshn sh (4 * s9 + p9) n 4) mb) := by
  refine hp_head (by decide) (Nat.le_of_ble_eq_true rfl) ?_
  intro p e s m below meth c ls A hx hb hr hlocks hml hown htab hts hX hT hU hK hA hP hD hS hl
  have hown : s.vm.findClass "SlotScreenLaw" = some m.cls := hown
  have hl : lv_has ls 6 [(0, .ref (q 0)), (1, .int (nI s9)), (2, .int (nI p9)), (3, .int (nI 3)), (4, .int (nI n))] := hl
  refine lv_aload_n hx hb d_LW_plug_0 rfl (lv_at hl 0 rfl) ?_
  refine lv_iload_n hx hb d_LW_plug_1 rfl (lv_at hl 1 rfl) ?_
  refine lv_iload_n hx hb d_LW_plug_2 rfl (lv_at hl 2 rfl) ?_
  refine lv_iload_n hx hb d_LW_plug_3 rfl (lv_at hl 3 rfl) ?_
  refine lv_iload hx hb d_LW_plug_4 (lv_at hl 4 rfl) ?_
  refine kn_vV (As := [.int (nI s9), .int (nI p9), .int (nI 3), .int (nI n)]) (rest := []) ⟨hx, hb, hml, hown, hts⟩ (c_SS_plug3 l D k q gd wd se pr ln px cv co B R sx pt rd wt od ad bd ed kd nb sh mb hwd hse hpr hkd hO s9 p9 hs9 hp9 n hn1 hn2 h1 h2 hz) (cwV 4 hts (gV w_385 w_386 w_387 w_1 w_388) rfl rfl rfl (by decide +kernel) ⟨Nat.le_of_ble_eq_true rfl, Nat.le_of_ble_eq_true rfl⟩) hK hX hP hD hS hA (va_recv hK hP (ci := 0) (q0 := 0) rfl rfl) rfl hl.1 rfl (Nat.le_of_ble_eq_true rfl) d_LW_plug_6 ⟨by show 0 + 3 ≤ 3; omega, by show 0 + 263 ≤ 263; omega⟩ (fun u9 H9 locs hp9 hP1 hD1 hk1 hS9 => ?_)
  obtain ⟨hP, hD⟩ := fr_tl (a := []) hP hD hk1 (fun q h => hA q (Nat.le_trans hS.1 h)) hP1 hD1
  have hS := hS9
  generalize H9 = H at hP hS ⊢
  refine lv_goto (tgt := 20) hx hb d_LW_plug_9 (by decide) ?_
  refine lv_iconst (v := nI 0) hx hb d_LW_plug_20 (by decide +kernel) ?_
  exact hp_ret hx hb hr hlocks d_LW_plug_21 (by show 0 + 3 ≤ 3; omega) (by show 0 + 263 ≤ 263; omega) hS u9 rfl hP hD
set_option maxHeartbeats 4000000 in
set_option maxRecDepth 100000 in
theorem h_plugK4 (l : Launch) (hl9 : l.stackTraces = false) (D : va_G) (k : Nat → ClassId) (q : Nat → Nat) (gd : Nat → Option Nat) (wd : Nat → Nat) (se : Nat → Nat) (pr : Nat) (ln : Nat) (px : Nat → Nat) (cv : Nat) (co : Nat) (B : Nat → Nat) (R : Nat → Nat) (sx : Nat) (pt : Nat) (rd : Nat) (wt : Int32) (od : List Nat) (ad bd ed kd nb sh mb : Nat → Nat) (hwd : ∀ j, wd j < 2) (hse : ∀ j, se j < 256) (hpr : pr < 256) (hkd : ∀ j, kd j < 5) (hO : plO od gd ad kd nb sh) (s9 p9 : Nat) (hs9 : s9 < 4) (hp9 : p9 < 4) (b : Int32) (h1 : wd s9 = 1 ∨ p9 = 0) (h2 : kd (4 * s9 + p9) = 0) (hz : ∀ j, j < 256 → mb (256 * (4 * s9 + p9) + j) = 0) : hp_i l y_LW_plug b_LW_plug 6 [(0, 9, 12, 13), (0, 9, 16, 15)] { frames := 7, cells := 3, slots := 263, locals := 160 } D (kT k) ((ssW q k gd wd se pr ln px cv co B R sx pt rd wt) ++ (plW od k ad bd ed kd nb sh mb)) [.ref (q 0), .int (nI s9), .int (nI p9), .int (nI 4), .int b] (fun (r : Int32) (_ : Nat × Nat × Nat) => r = nI 0) (fun (u : Nat × Nat × Nat) => ssW q k (va_up gd (4 * s9 + p9) (some u.1)) wd se pr ln px cv co B R sx pt rd wt ++ plW (od ++ [(4 * s9 + p9)]) k (ss_up ad (4 * s9 + p9) u.1) (ss_up bd (4 * s9 + p9) u.2.1) (ss_up ed (4 * s9 + p9) u.2.2) (ss_up kd (4 * s9 + p9) 4) nb sh mb) := by
  refine hp_head (by decide) (Nat.le_of_ble_eq_true rfl) ?_
  intro p e s m below meth c ls A hx hb hr hlocks hml hown htab hts hX hT hU hK hA hP hD hS hl
  have hown : s.vm.findClass "SlotScreenLaw" = some m.cls := hown
  have hl : lv_has ls 6 [(0, .ref (q 0)), (1, .int (nI s9)), (2, .int (nI p9)), (3, .int (nI 4)), (4, .int b)] := hl
  refine lv_aload_n hx hb d_LW_plug_0 rfl (lv_at hl 0 rfl) ?_
  refine lv_iload_n hx hb d_LW_plug_1 rfl (lv_at hl 1 rfl) ?_
  refine lv_iload_n hx hb d_LW_plug_2 rfl (lv_at hl 2 rfl) ?_
  refine lv_iload_n hx hb d_LW_plug_3 rfl (lv_at hl 3 rfl) ?_
  refine lv_iload hx hb d_LW_plug_4 (lv_at hl 4 rfl) ?_
  refine kn_vV (As := [.int (nI s9), .int (nI p9), .int (nI 4), .int b]) (rest := []) ⟨hx, hb, hml, hown, hts⟩ (c_SS_plug4 l D k q gd wd se pr ln px cv co B R sx pt rd wt od ad bd ed kd nb sh mb hwd hse hpr hkd hO s9 p9 hs9 hp9 b h1 h2 hz) (cwV 4 hts (gV w_385 w_386 w_387 w_1 w_388) rfl rfl rfl (by decide +kernel) ⟨Nat.le_of_ble_eq_true rfl, Nat.le_of_ble_eq_true rfl⟩) hK hX hP hD hS hA (va_recv hK hP (ci := 0) (q0 := 0) rfl rfl) rfl hl.1 rfl (Nat.le_of_ble_eq_true rfl) d_LW_plug_6 ⟨by show 0 + 3 ≤ 3; omega, by show 0 + 263 ≤ 263; omega⟩ (fun u9 H9 locs hp9 hP1 hD1 hk1 hS9 => ?_)
  obtain ⟨hP, hD⟩ := fr_tl (a := []) hP hD hk1 (fun q h => hA q (Nat.le_trans hS.1 h)) hP1 hD1
  have hS := hS9
  generalize H9 = H at hP hS ⊢
  refine lv_goto (tgt := 20) hx hb d_LW_plug_9 (by decide) ?_
  refine lv_iconst (v := nI 0) hx hb d_LW_plug_20 (by decide +kernel) ?_
  exact hp_ret hx hb hr hlocks d_LW_plug_21 (by show 0 + 3 ≤ 3; omega) (by show 0 + 263 ≤ 263; omega) hS u9 rfl hP hD
set_option maxHeartbeats 4000000 in
set_option maxRecDepth 100000 in
theorem h_readb (l : Launch) (hl9 : l.stackTraces = false) (D : va_G) (k : Nat → ClassId) (q : Nat → Nat) (gd : Nat → Option Nat) (wd : Nat → Nat) (se : Nat → Nat) (pr : Nat) (ln : Nat) (px : Nat → Nat) (cv : Nat) (co : Nat) (B : Nat → Nat) (R : Nat → Nat) (sx : Nat) (pt : Nat) (rd : Nat) (wt : Int32) (od : List Nat) (ad bd ed kd nb sh mb : Nat → Nat) (ob : Nat) (of : Nat → Int64) (x : Int32) (hx9 : ¬ (0 ≤ x.toInt ∧ x.toInt ≤ 255)) : hp_i l y_LW_read b_LW_read 4 [(0, 9, 12, 13)] { frames := 7, cells := 3, slots := 263, locals := 160 } D (kT k) ([(ob, .inl (k 3, 1, .inr (.inl of)))] ++ ((ssW q k gd wd se pr ln px cv co B R sx pt rd wt) ++ (plW od k ad bd ed kd nb sh mb))) [.ref (q 0), .int x, .ref ob] (fun (r : Int32) (_ : Unit) => r = nI 1) (fun (_ : Unit) => ([(ob, .inl (k 3, 1, .inr (.inl of)))] ++ ((ssW q k gd wd se pr ln px cv co B R sx pt rd wt) ++ (plW od k ad bd ed kd nb sh mb)))) := by
  refine hp_head (by decide) (Nat.le_of_ble_eq_true rfl) ?_
  intro p e s m below meth c ls A hx hb hr hlocks hml hown htab hts hX hT hU hK hA hP hD hS hl
  have hown : s.vm.findClass "SlotScreenLaw" = some m.cls := hown
  have hl : lv_has ls 4 [(0, .ref (q 0)), (1, .int x), (2, .ref ob)] := hl
  refine lv_aload_n hx hb d_LW_read_0 rfl (lv_at hl 2 rfl) ?_
  refine lv_iconst (v := nI 0) hx hb d_LW_read_1 (by decide +kernel) ?_
  refine lv_aload_n hx hb d_LW_read_2 rfl (lv_at hl 0 rfl) ?_
  refine lv_iload_n hx hb d_LW_read_3 rfl (lv_at hl 1 rfl) ?_
  have hPc : va_P D vwCl (ssW q k gd wd se pr ln px cv co B R sx pt rd wt) _ := va_subP (a := [(ob, .inl (k 3, 1, .inr (.inl of)))]) (b := (ssW q k gd wd se pr ln px cv co B R sx pt rd wt)) (c := (plW od k ad bd ed kd nb sh mb)) hP
  refine kt_A htab (by decide) (by decide) (hts _ w_289) (As := [.int x]) (rest := [.int (nI 0), .ref ob]) ⟨hx, hb, hml, hown, hts⟩ (t_SS_readb l hl9 D k q gd wd se pr ln px cv co B R sx pt rd wt x hx9) (cwV 1 hts (gV w_450 w_451 w_452 w_1 w_453) rfl rfl rfl (by decide +kernel) ⟨Nat.le_of_ble_eq_true rfl, Nat.le_of_ble_eq_true rfl⟩) hK hT hU hPc hS (va_recv hK hPc (ci := 0) (q0 := 0) rfl rfl) rfl hl.1 rfl (Nat.le_of_ble_eq_true rfl) d_LW_read_4 ⟨by show 0 + 1 ≤ 3; omega, by show 0 + 6 ≤ 263; omega⟩ (fun q9 H9 z1 z2 => ?_)
  have hP := va_old hP z2
  have hS := va_Sold hS z1 z2
  clear z1 z2 hPc
  generalize H9 = H at hP hS ⊢
  have hP : va_P D vwCl ([(ob, .inl (k 3, 1, .inr (.inl of)))] ++ ((ssW q k gd wd se pr ln px cv co B R sx pt rd wt) ++ (plW od k ad bd ed kd nb sh mb))) _ := hP
  have hD : va_D A ([(ob, .inl (k 3, 1, .inr (.inl of)))] ++ ((ssW q k gd wd se pr ln px cv co B R sx pt rd wt) ++ (plW od k ad bd ed kd nb sh mb))) := hD
  refine lv_astore_n (lv' := [(3, .ref q9), (0, .ref (q 0)), (1, .int x), (2, .ref ob)]) hx hb d_LW_read_12 rfl hl (by decide) rfl (fun ls hl => ?_)
  refine lv_iconst (v := nI 1) hx hb d_LW_read_13 (by decide +kernel) ?_
  exact hp_ret hx hb hr hlocks d_LW_read_14 (by show 0 + 1 ≤ 3; omega) (by show 0 + 6 ≤ 263; omega) hS () rfl hP hD
set_option maxHeartbeats 4000000 in
set_option maxRecDepth 100000 in
theorem h_read (l : Launch) (hl9 : l.stackTraces = false) (D : va_G) (k : Nat → ClassId) (q : Nat → Nat) (gd : Nat → Option Nat) (wd : Nat → Nat) (se : Nat → Nat) (pr : Nat) (ln : Nat) (px : Nat → Nat) (cv : Nat) (co : Nat) (B : Nat → Nat) (R : Nat → Nat) (sx : Nat) (pt : Nat) (rd : Nat) (wt : Int32) (od : List Nat) (ad bd ed kd nb sh mb : Nat → Nat) (ob : Nat) (of : Nat → Int64) (hwd : ∀ j, wd j < 2) (hse : ∀ j, se j < 256) (hpr : pr < 256) (hO : plO od gd ad kd nb sh) (hkd : ∀ j, kd j < 5) (hmb : ∀ j, mb j < 256) (a : Nat) (ha : a < 256) : hp_i l y_LW_read b_LW_read 4 [(0, 9, 12, 13)] { frames := 7, cells := 3, slots := 263, locals := 160 } D (kT k) ([(ob, .inl (k 3, 1, .inr (.inl of)))] ++ ((ssW q k gd wd se pr ln px cv co B R sx pt rd wt) ++ (plW od k ad bd ed kd nb sh mb))) [.ref (q 0), .int (nI a), .ref ob] (fun (r : Int32) (_ : Unit) => r = nI 0) (fun (_ : Unit) => ([(ob, .inl (k 3, 1, .inr (.inl (vp_updL of 0 (nI (if a = 255 ∧ wd (msl pr a) = 1 then 255 - se (msl pr a) else mget kd sh mb (4 * msl pr a + mpg wd se (msl pr a) a) a)).toInt64))))] ++ (ssW q k gd wd se pr ln px cv co B R sx pt rd wt ++ plW od k ad bd ed kd nb sh mb))) := by
  refine hp_head (by decide) (Nat.le_of_ble_eq_true rfl) ?_
  intro p e s m below meth c ls A hx hb hr hlocks hml hown htab hts hX hT hU hK hA hP hD hS hl
  have hown : s.vm.findClass "SlotScreenLaw" = some m.cls := hown
  have hl : lv_has ls 4 [(0, .ref (q 0)), (1, .int (nI a)), (2, .ref ob)] := hl
  refine lv_aload_n hx hb d_LW_read_0 rfl (lv_at hl 2 rfl) ?_
  refine lv_iconst (v := nI 0) hx hb d_LW_read_1 (by decide +kernel) ?_
  refine lv_aload_n hx hb d_LW_read_2 rfl (lv_at hl 0 rfl) ?_
  refine lv_iload_n hx hb d_LW_read_3 rfl (lv_at hl 1 rfl) ?_
  have hPc := va_tlP (a := [(ob, .inl (k 3, 1, .inr (.inl of)))]) hP
  refine kx_iV (As := [.int (nI a)]) (rest := [.int (nI 0), .ref ob]) ⟨hx, hb, hml, hown, hts⟩ (c_SS_read l D k q gd wd se pr ln px cv co B R sx pt rd wt od ad bd ed kd nb sh mb hwd hse hpr hO hkd hmb a ha) (cwV 1 hts (gV w_450 w_451 w_452 w_1 w_453) rfl rfl rfl (by decide +kernel) ⟨Nat.le_of_ble_eq_true rfl, Nat.le_of_ble_eq_true rfl⟩) hK hX hPc (va_recv hK hPc (ci := 0) (q0 := 0) rfl rfl) rfl hl.1 rfl (Nat.le_of_ble_eq_true rfl) d_LW_read_4 ⟨Nat.zero_le _, Nat.zero_le _⟩ ?_
  refine lv_i2l (v := (nI (if a = 255 ∧ wd (msl pr a) = 1 then 255 - se (msl pr a) else mget kd sh mb (4 * msl pr a + mpg wd se (msl pr a) a) a)).toInt64) hx hb d_LW_read_7 rfl ?_
  refine va_last hx hb hK hP hD hS 0 3 rfl rfl (vp_in_nI (by omega) (by omega)) d_LW_read_8 (fun H locs hP hD hS => ?_)
  have hP : va_P D vwCl ([(ob, .inl (k 3, 1, .inr (.inl (vp_updL of 0 (nI (if a = 255 ∧ wd (msl pr a) = 1 then 255 - se (msl pr a) else mget kd sh mb (4 * msl pr a + mpg wd se (msl pr a) a) a)).toInt64))))] ++ ((ssW q k gd wd se pr ln px cv co B R sx pt rd wt) ++ (plW od k ad bd ed kd nb sh mb))) _ := hP
  have hD : va_D A ([(ob, .inl (k 3, 1, .inr (.inl (vp_updL of 0 (nI (if a = 255 ∧ wd (msl pr a) = 1 then 255 - se (msl pr a) else mget kd sh mb (4 * msl pr a + mpg wd se (msl pr a) a) a)).toInt64))))] ++ ((ssW q k gd wd se pr ln px cv co B R sx pt rd wt) ++ (plW od k ad bd ed kd nb sh mb))) := hD
  refine lv_goto (tgt := 15) hx hb d_LW_read_9 (by decide) ?_
  refine lv_iconst (v := nI 0) hx hb d_LW_read_15 (by decide +kernel) ?_
  exact hp_ret hx hb hr hlocks d_LW_read_16 (by show 0 ≤ 3; omega) (by show 0 ≤ 263; omega) hS () rfl hP hD
set_option maxHeartbeats 4000000 in
set_option maxRecDepth 100000 in
theorem h_writeb (l : Launch) (hl9 : l.stackTraces = false) (D : va_G) (k : Nat → ClassId) (q : Nat → Nat) (gd : Nat → Option Nat) (wd : Nat → Nat) (se : Nat → Nat) (pr : Nat) (ln : Nat) (px : Nat → Nat) (cv : Nat) (co : Nat) (B : Nat → Nat) (R : Nat → Nat) (sx : Nat) (pt : Nat) (rd : Nat) (wt : Int32) (od : List Nat) (ad bd ed kd nb sh mb : Nat → Nat) (x y : Int32) (hx9 : ¬ (0 ≤ x.toInt ∧ x.toInt ≤ 255 ∧ 0 ≤ y.toInt ∧ y.toInt ≤ 255)) : hp_i l y_LW_write b_LW_write 4 [(0, 6, 9, 13)] { frames := 7, cells := 3, slots := 263, locals := 160 } D (kT k) ((ssW q k gd wd se pr ln px cv co B R sx pt rd wt) ++ (plW od k ad bd ed kd nb sh mb)) [.ref (q 0), .int x, .int y] (fun (r : Int32) (_ : Unit) => r = nI 1) (fun (_ : Unit) => ((ssW q k gd wd se pr ln px cv co B R sx pt rd wt) ++ (plW od k ad bd ed kd nb sh mb))) := by
  refine hp_head (by decide) (Nat.le_of_ble_eq_true rfl) ?_
  intro p e s m below meth c ls A hx hb hr hlocks hml hown htab hts hX hT hU hK hA hP hD hS hl
  have hown : s.vm.findClass "SlotScreenLaw" = some m.cls := hown
  have hl : lv_has ls 4 [(0, .ref (q 0)), (1, .int x), (2, .int y)] := hl
  refine lv_aload_n hx hb d_LW_write_0 rfl (lv_at hl 0 rfl) ?_
  refine lv_iload_n hx hb d_LW_write_1 rfl (lv_at hl 1 rfl) ?_
  refine lv_iload_n hx hb d_LW_write_2 rfl (lv_at hl 2 rfl) ?_
  have hPc : va_P D vwCl (ssW q k gd wd se pr ln px cv co B R sx pt rd wt) _ := va_subP (a := []) (b := (ssW q k gd wd se pr ln px cv co B R sx pt rd wt)) (c := (plW od k ad bd ed kd nb sh mb)) hP
  refine kt_A htab (by decide) (by decide) (hts _ w_289) (As := [.int x, .int y]) (rest := []) ⟨hx, hb, hml, hown, hts⟩ (t_SS_writeb l hl9 D k q gd wd se pr ln px cv co B R sx pt rd wt x y hx9) (cwV 2 hts (gV w_493 w_494 w_495 w_1 w_496) rfl rfl rfl (by decide +kernel) ⟨Nat.le_of_ble_eq_true rfl, Nat.le_of_ble_eq_true rfl⟩) hK hT hU hPc hS (va_recv hK hPc (ci := 0) (q0 := 0) rfl rfl) rfl hl.1 rfl (Nat.le_of_ble_eq_true rfl) d_LW_write_3 ⟨by show 0 + 1 ≤ 3; omega, by show 0 + 6 ≤ 263; omega⟩ (fun q9 H9 z1 z2 => ?_)
  have hP := va_old hP z2
  have hS := va_Sold hS z1 z2
  clear z1 z2 hPc
  generalize H9 = H at hP hS ⊢
  have hP : va_P D vwCl ((ssW q k gd wd se pr ln px cv co B R sx pt rd wt) ++ (plW od k ad bd ed kd nb sh mb)) _ := hP
  have hD : va_D A ((ssW q k gd wd se pr ln px cv co B R sx pt rd wt) ++ (plW od k ad bd ed kd nb sh mb)) := hD
  refine lv_astore_n (lv' := [(3, .ref q9), (0, .ref (q 0)), (1, .int x), (2, .int y)]) hx hb d_LW_write_9 rfl hl (by decide) rfl (fun ls hl => ?_)
  refine lv_iconst (v := nI 1) hx hb d_LW_write_10 (by decide +kernel) ?_
  exact hp_ret hx hb hr hlocks d_LW_write_11 (by show 0 + 1 ≤ 3; omega) (by show 0 + 6 ≤ 263; omega) hS () rfl hP hD
set_option maxHeartbeats 4000000 in
set_option maxRecDepth 100000 in
theorem h_writeS (l : Launch) (hl9 : l.stackTraces = false) (D : va_G) (k : Nat → ClassId) (q : Nat → Nat) (gd : Nat → Option Nat) (wd : Nat → Nat) (se : Nat → Nat) (pr : Nat) (ln : Nat) (px : Nat → Nat) (cv : Nat) (co : Nat) (B : Nat → Nat) (R : Nat → Nat) (sx : Nat) (pt : Nat) (rd : Nat) (wt : Int32) (od : List Nat) (ad bd ed kd nb sh mb : Nat → Nat) (hwd : ∀ j, wd j < 2) (hse : ∀ j, se j < 256) (hpr : pr < 256) (hO : plO od gd ad kd nb sh) (hkd : ∀ j, kd j < 5) (hmb : ∀ j, mb j < 256) (a v : Nat) (ha : a < 256) (hv : v < 256) (h1 : a = 255 ∧ wd (msl pr a) = 1) : hp_i l y_LW_write b_LW_write 4 [(0, 6, 9, 13)] { frames := 7, cells := 3, slots := 263, locals := 160 } D (kT k) ((ssW q k gd wd se pr ln px cv co B R sx pt rd wt) ++ (plW od k ad bd ed kd nb sh mb)) [.ref (q 0), .int (nI a), .int (nI v)] (fun (r : Int32) (_ : Unit) => r = nI 0) (fun (_ : Unit) => ((ssW q k gd wd (ss_up se (msl pr a) v) pr ln px cv co B R sx pt rd wt) ++ (plW od k ad bd ed kd nb sh mb))) := by
  refine hp_head (by decide) (Nat.le_of_ble_eq_true rfl) ?_
  intro p e s m below meth c ls A hx hb hr hlocks hml hown htab hts hX hT hU hK hA hP hD hS hl
  have hown : s.vm.findClass "SlotScreenLaw" = some m.cls := hown
  have hl : lv_has ls 4 [(0, .ref (q 0)), (1, .int (nI a)), (2, .int (nI v))] := hl
  refine lv_aload_n hx hb d_LW_write_0 rfl (lv_at hl 0 rfl) ?_
  refine lv_iload_n hx hb d_LW_write_1 rfl (lv_at hl 1 rfl) ?_
  refine lv_iload_n hx hb d_LW_write_2 rfl (lv_at hl 2 rfl) ?_
  refine kxw_vV (As := [.int (nI a), .int (nI v)]) (rest := []) ⟨hx, hb, hml, hown, hts⟩ (c_SS_writeS l D k q gd wd se pr ln px cv co B R sx pt rd wt od ad bd ed kd nb sh mb hwd hse hpr hO hkd hmb a v ha hv h1) (cwV 2 hts (gV w_493 w_494 w_495 w_1 w_496) rfl rfl rfl (by decide +kernel) ⟨Nat.le_of_ble_eq_true rfl, Nat.le_of_ble_eq_true rfl⟩) hK hX hP hD hS hA (va_recv hK hP (ci := 0) (q0 := 0) rfl rfl) rfl hl.1 rfl (Nat.le_of_ble_eq_true rfl) d_LW_write_3 ⟨Nat.zero_le _, Nat.zero_le _⟩ (fun _ H9 locs _ hP1 hk1 hS9 => ?_)
  have hP : va_P D vwCl ((ssW q k gd wd (ss_up se (msl pr a) v) pr ln px cv co B R sx pt rd wt) ++ (plW od k ad bd ed kd nb sh mb)) H9 := hP1
  have hD : va_D A ((ssW q k gd wd (ss_up se (msl pr a) v) pr ln px cv co B R sx pt rd wt) ++ (plW od k ad bd ed kd nb sh mb)) := rw_same hD (ss_ad rfl _ _ _ _ _ _ _ _ _ _ _)
  have hS := hS9
  generalize H9 = H at hP hS ⊢
  refine lv_goto (tgt := 12) hx hb d_LW_write_6 (by decide) ?_
  refine lv_iconst (v := nI 0) hx hb d_LW_write_12 (by decide +kernel) ?_
  exact hp_ret hx hb hr hlocks d_LW_write_13 (by show 0 ≤ 3; omega) (by show 0 ≤ 263; omega) hS () rfl hP hD
set_option maxHeartbeats 4000000 in
set_option maxRecDepth 100000 in
theorem h_write1 (l : Launch) (hl9 : l.stackTraces = false) (D : va_G) (k : Nat → ClassId) (q : Nat → Nat) (gd : Nat → Option Nat) (wd : Nat → Nat) (se : Nat → Nat) (pr : Nat) (ln : Nat) (px : Nat → Nat) (cv : Nat) (co : Nat) (B : Nat → Nat) (R : Nat → Nat) (sx : Nat) (pt : Nat) (rd : Nat) (wt : Int32) (od : List Nat) (ad bd ed kd nb sh mb : Nat → Nat) (hwd : ∀ j, wd j < 2) (hse : ∀ j, se j < 256) (hpr : pr < 256) (hO : plO od gd ad kd nb sh) (hkd : ∀ j, kd j < 5) (hmb : ∀ j, mb j < 256) (a v : Nat) (ha : a < 256) (hv : v < 256) (h1 : ¬ (a = 255 ∧ wd (msl pr a) = 1)) (hk : kd (4 * msl pr a + mpg wd se (msl pr a) a) = 1) : hp_i l y_LW_write b_LW_write 4 [(0, 6, 9, 13)] { frames := 7, cells := 3, slots := 263, locals := 160 } D (kT k) ((ssW q k gd wd se pr ln px cv co B R sx pt rd wt) ++ (plW od k ad bd ed kd nb sh mb)) [.ref (q 0), .int (nI a), .int (nI v)] (fun (r : Int32) (_ : Unit) => r = nI 0) (fun (_ : Unit) => ((ssW q k gd wd se pr ln px cv co B R sx pt rd wt) ++ (plW od k ad bd ed kd nb sh (ss_up mb (256 * (4 * msl pr a + mpg wd se (msl pr a) a) + a) v)))) := by
  refine hp_head (by decide) (Nat.le_of_ble_eq_true rfl) ?_
  intro p e s m below meth c ls A hx hb hr hlocks hml hown htab hts hX hT hU hK hA hP hD hS hl
  have hown : s.vm.findClass "SlotScreenLaw" = some m.cls := hown
  have hl : lv_has ls 4 [(0, .ref (q 0)), (1, .int (nI a)), (2, .int (nI v))] := hl
  refine lv_aload_n hx hb d_LW_write_0 rfl (lv_at hl 0 rfl) ?_
  refine lv_iload_n hx hb d_LW_write_1 rfl (lv_at hl 1 rfl) ?_
  refine lv_iload_n hx hb d_LW_write_2 rfl (lv_at hl 2 rfl) ?_
  refine kxw_vV (As := [.int (nI a), .int (nI v)]) (rest := []) ⟨hx, hb, hml, hown, hts⟩ (c_SS_write1 l D k q gd wd se pr ln px cv co B R sx pt rd wt od ad bd ed kd nb sh mb hwd hse hpr hO hkd hmb a v ha hv h1 hk) (cwV 2 hts (gV w_493 w_494 w_495 w_1 w_496) rfl rfl rfl (by decide +kernel) ⟨Nat.le_of_ble_eq_true rfl, Nat.le_of_ble_eq_true rfl⟩) hK hX hP hD hS hA (va_recv hK hP (ci := 0) (q0 := 0) rfl rfl) rfl hl.1 rfl (Nat.le_of_ble_eq_true rfl) d_LW_write_3 ⟨Nat.zero_le _, Nat.zero_le _⟩ (fun _ H9 locs _ hP1 hk1 hS9 => ?_)
  have hP : va_P D vwCl ((ssW q k gd wd se pr ln px cv co B R sx pt rd wt) ++ (plW od k ad bd ed kd nb sh (ss_up mb (256 * (4 * msl pr a + mpg wd se (msl pr a) a) + a) v))) H9 := hP1
  have hD : va_D A ((ssW q k gd wd se pr ln px cv co B R sx pt rd wt) ++ (plW od k ad bd ed kd nb sh (ss_up mb (256 * (4 * msl pr a + mpg wd se (msl pr a) a) + a) v))) := rw_same hD (ss_ad rfl _ _ _ _ _ _ _ _ _ _ _)
  have hS := hS9
  generalize H9 = H at hP hS ⊢
  refine lv_goto (tgt := 12) hx hb d_LW_write_6 (by decide) ?_
  refine lv_iconst (v := nI 0) hx hb d_LW_write_12 (by decide +kernel) ?_
  exact hp_ret hx hb hr hlocks d_LW_write_13 (by show 0 ≤ 3; omega) (by show 0 ≤ 263; omega) hS () rfl hP hD
set_option maxHeartbeats 4000000 in
set_option maxRecDepth 100000 in
theorem h_write4 (l : Launch) (hl9 : l.stackTraces = false) (D : va_G) (k : Nat → ClassId) (q : Nat → Nat) (gd : Nat → Option Nat) (wd : Nat → Nat) (se : Nat → Nat) (pr : Nat) (ln : Nat) (px : Nat → Nat) (cv : Nat) (co : Nat) (B : Nat → Nat) (R : Nat → Nat) (sx : Nat) (pt : Nat) (rd : Nat) (wt : Int32) (od : List Nat) (ad bd ed kd nb sh mb : Nat → Nat) (hwd : ∀ j, wd j < 2) (hse : ∀ j, se j < 256) (hpr : pr < 256) (hO : plO od gd ad kd nb sh) (hkd : ∀ j, kd j < 5) (hmb : ∀ j, mb j < 256) (a v : Nat) (ha : a < 256) (hv : v < 256) (h1 : ¬ (a = 255 ∧ wd (msl pr a) = 1)) (hk : kd (4 * msl pr a + mpg wd se (msl pr a) a) = 4) : hp_i l y_LW_write b_LW_write 4 [(0, 6, 9, 13)] { frames := 7, cells := 3, slots := 263, locals := 160 } D (kT k) ((ssW q k gd wd se pr ln px cv co B R sx pt rd wt) ++ (plW od k ad bd ed kd nb sh mb)) [.ref (q 0), .int (nI a), .int (nI v)] (fun (r : Int32) (_ : Unit) => r = nI 0) (fun (_ : Unit) => ((ssW q k gd wd se pr ln px cv co B R sx pt rd wt) ++ (plW od k ad bd ed kd nb sh (ss_up mb (256 * (4 * msl pr a + mpg wd se (msl pr a) a) + a % 64) v)))) := by
  refine hp_head (by decide) (Nat.le_of_ble_eq_true rfl) ?_
  intro p e s m below meth c ls A hx hb hr hlocks hml hown htab hts hX hT hU hK hA hP hD hS hl
  have hown : s.vm.findClass "SlotScreenLaw" = some m.cls := hown
  have hl : lv_has ls 4 [(0, .ref (q 0)), (1, .int (nI a)), (2, .int (nI v))] := hl
  refine lv_aload_n hx hb d_LW_write_0 rfl (lv_at hl 0 rfl) ?_
  refine lv_iload_n hx hb d_LW_write_1 rfl (lv_at hl 1 rfl) ?_
  refine lv_iload_n hx hb d_LW_write_2 rfl (lv_at hl 2 rfl) ?_
  refine kxw_vV (As := [.int (nI a), .int (nI v)]) (rest := []) ⟨hx, hb, hml, hown, hts⟩ (c_SS_write4 l D k q gd wd se pr ln px cv co B R sx pt rd wt od ad bd ed kd nb sh mb hwd hse hpr hO hkd hmb a v ha hv h1 hk) (cwV 2 hts (gV w_493 w_494 w_495 w_1 w_496) rfl rfl rfl (by decide +kernel) ⟨Nat.le_of_ble_eq_true rfl, Nat.le_of_ble_eq_true rfl⟩) hK hX hP hD hS hA (va_recv hK hP (ci := 0) (q0 := 0) rfl rfl) rfl hl.1 rfl (Nat.le_of_ble_eq_true rfl) d_LW_write_3 ⟨Nat.zero_le _, Nat.zero_le _⟩ (fun _ H9 locs _ hP1 hk1 hS9 => ?_)
  have hP : va_P D vwCl ((ssW q k gd wd se pr ln px cv co B R sx pt rd wt) ++ (plW od k ad bd ed kd nb sh (ss_up mb (256 * (4 * msl pr a + mpg wd se (msl pr a) a) + a % 64) v))) H9 := hP1
  have hD : va_D A ((ssW q k gd wd se pr ln px cv co B R sx pt rd wt) ++ (plW od k ad bd ed kd nb sh (ss_up mb (256 * (4 * msl pr a + mpg wd se (msl pr a) a) + a % 64) v))) := rw_same hD (ss_ad rfl _ _ _ _ _ _ _ _ _ _ _)
  have hS := hS9
  generalize H9 = H at hP hS ⊢
  refine lv_goto (tgt := 12) hx hb d_LW_write_6 (by decide) ?_
  refine lv_iconst (v := nI 0) hx hb d_LW_write_12 (by decide +kernel) ?_
  exact hp_ret hx hb hr hlocks d_LW_write_13 (by show 0 ≤ 3; omega) (by show 0 ≤ 263; omega) hS () rfl hP hD
set_option maxHeartbeats 4000000 in
set_option maxRecDepth 100000 in
theorem h_write3 (l : Launch) (hl9 : l.stackTraces = false) (D : va_G) (k : Nat → ClassId) (q : Nat → Nat) (gd : Nat → Option Nat) (wd : Nat → Nat) (se : Nat → Nat) (pr : Nat) (ln : Nat) (px : Nat → Nat) (cv : Nat) (co : Nat) (B : Nat → Nat) (R : Nat → Nat) (sx : Nat) (pt : Nat) (rd : Nat) (wt : Int32) (od : List Nat) (ad bd ed kd nb sh mb : Nat → Nat) (hwd : ∀ j, wd j < 2) (hse : ∀ j, se j < 256) (hpr : pr < 256) (hO : plO od gd ad kd nb sh) (hkd : ∀ j, kd j < 5) (hmb : ∀ j, mb j < 256) (a v : Nat) (ha : a < 256) (hv : v < 256) (h1 : ¬ (a = 255 ∧ wd (msl pr a) = 1)) (hk : kd (4 * msl pr a + mpg wd se (msl pr a) a) = 3) (h2 : 64 ≤ a ∧ a ≤ 191) : hp_i l y_LW_write b_LW_write 4 [(0, 6, 9, 13)] { frames := 7, cells := 3, slots := 263, locals := 160 } D (kT k) ((ssW q k gd wd se pr ln px cv co B R sx pt rd wt) ++ (plW od k ad bd ed kd nb sh mb)) [.ref (q 0), .int (nI a), .int (nI v)] (fun (r : Int32) (_ : Unit) => r = nI 0) (fun (_ : Unit) => ((ssW q k gd wd se pr ln px cv co B R sx pt rd wt) ++ (plW od k ad bd ed kd nb (ss_up sh (4 * (4 * msl pr a + mpg wd se (msl pr a) a) + (a - 64) / 32) (v % nb (4 * msl pr a + mpg wd se (msl pr a) a))) mb))) := by
  refine hp_head (by decide) (Nat.le_of_ble_eq_true rfl) ?_
  intro p e s m below meth c ls A hx hb hr hlocks hml hown htab hts hX hT hU hK hA hP hD hS hl
  have hown : s.vm.findClass "SlotScreenLaw" = some m.cls := hown
  have hl : lv_has ls 4 [(0, .ref (q 0)), (1, .int (nI a)), (2, .int (nI v))] := hl
  refine lv_aload_n hx hb d_LW_write_0 rfl (lv_at hl 0 rfl) ?_
  refine lv_iload_n hx hb d_LW_write_1 rfl (lv_at hl 1 rfl) ?_
  refine lv_iload_n hx hb d_LW_write_2 rfl (lv_at hl 2 rfl) ?_
  refine kxw_vV (As := [.int (nI a), .int (nI v)]) (rest := []) ⟨hx, hb, hml, hown, hts⟩ (c_SS_write3 l D k q gd wd se pr ln px cv co B R sx pt rd wt od ad bd ed kd nb sh mb hwd hse hpr hO hkd hmb a v ha hv h1 hk h2) (cwV 2 hts (gV w_493 w_494 w_495 w_1 w_496) rfl rfl rfl (by decide +kernel) ⟨Nat.le_of_ble_eq_true rfl, Nat.le_of_ble_eq_true rfl⟩) hK hX hP hD hS hA (va_recv hK hP (ci := 0) (q0 := 0) rfl rfl) rfl hl.1 rfl (Nat.le_of_ble_eq_true rfl) d_LW_write_3 ⟨Nat.zero_le _, Nat.zero_le _⟩ (fun _ H9 locs _ hP1 hk1 hS9 => ?_)
  have hP : va_P D vwCl ((ssW q k gd wd se pr ln px cv co B R sx pt rd wt) ++ (plW od k ad bd ed kd nb (ss_up sh (4 * (4 * msl pr a + mpg wd se (msl pr a) a) + (a - 64) / 32) (v % nb (4 * msl pr a + mpg wd se (msl pr a) a))) mb)) H9 := hP1
  have hD : va_D A ((ssW q k gd wd se pr ln px cv co B R sx pt rd wt) ++ (plW od k ad bd ed kd nb (ss_up sh (4 * (4 * msl pr a + mpg wd se (msl pr a) a) + (a - 64) / 32) (v % nb (4 * msl pr a + mpg wd se (msl pr a) a))) mb)) := rw_same hD (ss_ad rfl _ _ _ _ _ _ _ _ _ _ _)
  have hS := hS9
  generalize H9 = H at hP hS ⊢
  refine lv_goto (tgt := 12) hx hb d_LW_write_6 (by decide) ?_
  refine lv_iconst (v := nI 0) hx hb d_LW_write_12 (by decide +kernel) ?_
  exact hp_ret hx hb hr hlocks d_LW_write_13 (by show 0 ≤ 3; omega) (by show 0 ≤ 263; omega) hS () rfl hP hD
set_option maxHeartbeats 4000000 in
set_option maxRecDepth 100000 in
theorem h_writeo (l : Launch) (hl9 : l.stackTraces = false) (D : va_G) (k : Nat → ClassId) (q : Nat → Nat) (gd : Nat → Option Nat) (wd : Nat → Nat) (se : Nat → Nat) (pr : Nat) (ln : Nat) (px : Nat → Nat) (cv : Nat) (co : Nat) (B : Nat → Nat) (R : Nat → Nat) (sx : Nat) (pt : Nat) (rd : Nat) (wt : Int32) (od : List Nat) (ad bd ed kd nb sh mb : Nat → Nat) (hwd : ∀ j, wd j < 2) (hse : ∀ j, se j < 256) (hpr : pr < 256) (hO : plO od gd ad kd nb sh) (hkd : ∀ j, kd j < 5) (hmb : ∀ j, mb j < 256) (a v : Nat) (ha : a < 256) (hv : v < 256) (h1 : ¬ (a = 255 ∧ wd (msl pr a) = 1)) (hk : kd (4 * msl pr a + mpg wd se (msl pr a) a) = 0 ∨ kd (4 * msl pr a + mpg wd se (msl pr a) a) = 2 ∨ (kd (4 * msl pr a + mpg wd se (msl pr a) a) = 3 ∧ ¬ (64 ≤ a ∧ a ≤ 191))) : hp_i l y_LW_write b_LW_write 4 [(0, 6, 9, 13)] { frames := 7, cells := 3, slots := 263, locals := 160 } D (kT k) ((ssW q k gd wd se pr ln px cv co B R sx pt rd wt) ++ (plW od k ad bd ed kd nb sh mb)) [.ref (q 0), .int (nI a), .int (nI v)] (fun (r : Int32) (_ : Unit) => r = nI 0) (fun (_ : Unit) => ((ssW q k gd wd se pr ln px cv co B R sx pt rd wt) ++ (plW od k ad bd ed kd nb sh mb))) := by
  refine hp_head (by decide) (Nat.le_of_ble_eq_true rfl) ?_
  intro p e s m below meth c ls A hx hb hr hlocks hml hown htab hts hX hT hU hK hA hP hD hS hl
  have hown : s.vm.findClass "SlotScreenLaw" = some m.cls := hown
  have hl : lv_has ls 4 [(0, .ref (q 0)), (1, .int (nI a)), (2, .int (nI v))] := hl
  refine lv_aload_n hx hb d_LW_write_0 rfl (lv_at hl 0 rfl) ?_
  refine lv_iload_n hx hb d_LW_write_1 rfl (lv_at hl 1 rfl) ?_
  refine lv_iload_n hx hb d_LW_write_2 rfl (lv_at hl 2 rfl) ?_
  refine kxw_vV (As := [.int (nI a), .int (nI v)]) (rest := []) ⟨hx, hb, hml, hown, hts⟩ (c_SS_writeo l D k q gd wd se pr ln px cv co B R sx pt rd wt od ad bd ed kd nb sh mb hwd hse hpr hO hkd hmb a v ha hv h1 hk) (cwV 2 hts (gV w_493 w_494 w_495 w_1 w_496) rfl rfl rfl (by decide +kernel) ⟨Nat.le_of_ble_eq_true rfl, Nat.le_of_ble_eq_true rfl⟩) hK hX hP hD hS hA (va_recv hK hP (ci := 0) (q0 := 0) rfl rfl) rfl hl.1 rfl (Nat.le_of_ble_eq_true rfl) d_LW_write_3 ⟨Nat.zero_le _, Nat.zero_le _⟩ (fun _ H9 locs _ hP1 hk1 hS9 => ?_)
  have hP : va_P D vwCl ((ssW q k gd wd se pr ln px cv co B R sx pt rd wt) ++ (plW od k ad bd ed kd nb sh mb)) H9 := hP1
  have hD : va_D A ((ssW q k gd wd se pr ln px cv co B R sx pt rd wt) ++ (plW od k ad bd ed kd nb sh mb)) := rw_same hD (ss_ad rfl _ _ _ _ _ _ _ _ _ _ _)
  have hS := hS9
  generalize H9 = H at hP hS ⊢
  refine lv_goto (tgt := 12) hx hb d_LW_write_6 (by decide) ?_
  refine lv_iconst (v := nI 0) hx hb d_LW_write_12 (by decide +kernel) ?_
  exact hp_ret hx hb hr hlocks d_LW_write_13 (by show 0 ≤ 3; omega) (by show 0 ≤ 263; omega) hS () rfl hP hD
set_option maxHeartbeats 4000000 in
set_option maxRecDepth 100000 in
theorem h_farb (l : Launch) (hl9 : l.stackTraces = false) (D : va_G) (k : Nat → ClassId) (q : Nat → Nat) (gd : Nat → Option Nat) (wd : Nat → Nat) (se : Nat → Nat) (pr : Nat) (ln : Nat) (px : Nat → Nat) (cv : Nat) (co : Nat) (B : Nat → Nat) (R : Nat → Nat) (sx : Nat) (pt : Nat) (rd : Nat) (wt : Int32) (od : List Nat) (ad bd ed kd nb sh mb : Nat → Nat) (ob : Nat) (of : Nat → Int64) (x y z : Int32) (hx9 : ¬ (0 ≤ x.toInt ∧ x.toInt ≤ 3 ∧ 0 ≤ y.toInt ∧ y.toInt ≤ 3 ∧ 0 ≤ z.toInt ∧ z.toInt ≤ 255)) : hp_i l y_LW_far b_LW_far 6 [(0, 12, 15, 13)] { frames := 7, cells := 3, slots := 263, locals := 160 } D (kT k) ([(ob, .inl (k 3, 1, .inr (.inl of)))] ++ ((ssW q k gd wd se pr ln px cv co B R sx pt rd wt) ++ (plW od k ad bd ed kd nb sh mb))) [.ref (q 0), .int x, .int y, .int z, .ref ob] (fun (r : Int32) (_ : Unit) => r = nI 1) (fun (_ : Unit) => ([(ob, .inl (k 3, 1, .inr (.inl of)))] ++ ((ssW q k gd wd se pr ln px cv co B R sx pt rd wt) ++ (plW od k ad bd ed kd nb sh mb)))) := by
  refine hp_head (by decide) (Nat.le_of_ble_eq_true rfl) ?_
  intro p e s m below meth c ls A hx hb hr hlocks hml hown htab hts hX hT hU hK hA hP hD hS hl
  have hown : s.vm.findClass "SlotScreenLaw" = some m.cls := hown
  have hl : lv_has ls 6 [(0, .ref (q 0)), (1, .int x), (2, .int y), (3, .int z), (4, .ref ob)] := hl
  refine lv_aload hx hb d_LW_far_0 (lv_at hl 4 rfl) ?_
  refine lv_iconst (v := nI 0) hx hb d_LW_far_2 (by decide +kernel) ?_
  refine lv_aload_n hx hb d_LW_far_3 rfl (lv_at hl 0 rfl) ?_
  refine lv_iload_n hx hb d_LW_far_4 rfl (lv_at hl 1 rfl) ?_
  refine lv_iload_n hx hb d_LW_far_5 rfl (lv_at hl 2 rfl) ?_
  refine lv_iload_n hx hb d_LW_far_6 rfl (lv_at hl 3 rfl) ?_
  have hPc : va_P D vwCl (ssW q k gd wd se pr ln px cv co B R sx pt rd wt) _ := va_subP (a := [(ob, .inl (k 3, 1, .inr (.inl of)))]) (b := (ssW q k gd wd se pr ln px cv co B R sx pt rd wt)) (c := (plW od k ad bd ed kd nb sh mb)) hP
  refine kt_A htab (by decide) (by decide) (hts _ w_289) (As := [.int x, .int y, .int z]) (rest := [.int (nI 0), .ref ob]) ⟨hx, hb, hml, hown, hts⟩ (t_SS_farb l hl9 D k q gd wd se pr ln px cv co B R sx pt rd wt x y z hx9) (cwV 3 hts (gV w_519 w_520 w_521 w_1 w_522) rfl rfl rfl (by decide +kernel) ⟨Nat.le_of_ble_eq_true rfl, Nat.le_of_ble_eq_true rfl⟩) hK hT hU hPc hS (va_recv hK hPc (ci := 0) (q0 := 0) rfl rfl) rfl hl.1 rfl (Nat.le_of_ble_eq_true rfl) d_LW_far_7 ⟨by show 0 + 1 ≤ 3; omega, by show 0 + 6 ≤ 263; omega⟩ (fun q9 H9 z1 z2 => ?_)
  have hP := va_old hP z2
  have hS := va_Sold hS z1 z2
  clear z1 z2 hPc
  generalize H9 = H at hP hS ⊢
  have hP : va_P D vwCl ([(ob, .inl (k 3, 1, .inr (.inl of)))] ++ ((ssW q k gd wd se pr ln px cv co B R sx pt rd wt) ++ (plW od k ad bd ed kd nb sh mb))) _ := hP
  have hD : va_D A ([(ob, .inl (k 3, 1, .inr (.inl of)))] ++ ((ssW q k gd wd se pr ln px cv co B R sx pt rd wt) ++ (plW od k ad bd ed kd nb sh mb))) := hD
  refine lv_astore (lv' := [(5, .ref q9), (0, .ref (q 0)), (1, .int x), (2, .int y), (3, .int z), (4, .ref ob)]) hx hb d_LW_far_15 hl (by decide) rfl (fun ls hl => ?_)
  refine lv_iconst (v := nI 1) hx hb d_LW_far_17 (by decide +kernel) ?_
  exact hp_ret hx hb hr hlocks d_LW_far_18 (by show 0 + 1 ≤ 3; omega) (by show 0 + 6 ≤ 263; omega) hS () rfl hP hD
set_option maxHeartbeats 4000000 in
set_option maxRecDepth 100000 in
theorem h_far (l : Launch) (hl9 : l.stackTraces = false) (D : va_G) (k : Nat → ClassId) (q : Nat → Nat) (gd : Nat → Option Nat) (wd : Nat → Nat) (se : Nat → Nat) (pr : Nat) (ln : Nat) (px : Nat → Nat) (cv : Nat) (co : Nat) (B : Nat → Nat) (R : Nat → Nat) (sx : Nat) (pt : Nat) (rd : Nat) (wt : Int32) (od : List Nat) (ad bd ed kd nb sh mb : Nat → Nat) (ob : Nat) (of : Nat → Int64) (hwd : ∀ j, wd j < 2) (hse : ∀ j, se j < 256) (hpr : pr < 256) (hO : plO od gd ad kd nb sh) (hkd : ∀ j, kd j < 5) (hmb : ∀ j, mb j < 256) (s9 p9 a : Nat) (hs9 : s9 < 4) (hp9 : p9 < 4) (ha : a < 256) : hp_i l y_LW_far b_LW_far 6 [(0, 12, 15, 13)] { frames := 7, cells := 3, slots := 263, locals := 160 } D (kT k) ([(ob, .inl (k 3, 1, .inr (.inl of)))] ++ ((ssW q k gd wd se pr ln px cv co B R sx pt rd wt) ++ (plW od k ad bd ed kd nb sh mb))) [.ref (q 0), .int (nI s9), .int (nI p9), .int (nI a), .ref ob] (fun (r : Int32) (_ : Unit) => r = nI 0) (fun (_ : Unit) => ([(ob, .inl (k 3, 1, .inr (.inl (vp_updL of 0 (nI (if a = 255 ∧ wd s9 = 1 then 255 - (se s9 % 64 + 64 * p9) else mget kd sh mb (4 * s9 + (if wd s9 = 1 then p9 else 0)) a)).toInt64))))] ++ (ssW q k gd wd se pr ln px cv co B R sx pt rd wt ++ plW od k ad bd ed kd nb sh mb))) := by
  refine hp_head (by decide) (Nat.le_of_ble_eq_true rfl) ?_
  intro p e s m below meth c ls A hx hb hr hlocks hml hown htab hts hX hT hU hK hA hP hD hS hl
  have hown : s.vm.findClass "SlotScreenLaw" = some m.cls := hown
  have hl : lv_has ls 6 [(0, .ref (q 0)), (1, .int (nI s9)), (2, .int (nI p9)), (3, .int (nI a)), (4, .ref ob)] := hl
  refine lv_aload hx hb d_LW_far_0 (lv_at hl 4 rfl) ?_
  refine lv_iconst (v := nI 0) hx hb d_LW_far_2 (by decide +kernel) ?_
  refine lv_aload_n hx hb d_LW_far_3 rfl (lv_at hl 0 rfl) ?_
  refine lv_iload_n hx hb d_LW_far_4 rfl (lv_at hl 1 rfl) ?_
  refine lv_iload_n hx hb d_LW_far_5 rfl (lv_at hl 2 rfl) ?_
  refine lv_iload_n hx hb d_LW_far_6 rfl (lv_at hl 3 rfl) ?_
  have hPc := va_tlP (a := [(ob, .inl (k 3, 1, .inr (.inl of)))]) hP
  refine kx_iV (As := [.int (nI s9), .int (nI p9), .int (nI a)]) (rest := [.int (nI 0), .ref ob]) ⟨hx, hb, hml, hown, hts⟩ (c_SS_far l D k q gd wd se pr ln px cv co B R sx pt rd wt od ad bd ed kd nb sh mb hwd hse hpr hO hkd hmb s9 p9 a hs9 hp9 ha) (cwV 3 hts (gV w_519 w_520 w_521 w_1 w_522) rfl rfl rfl (by decide +kernel) ⟨Nat.le_of_ble_eq_true rfl, Nat.le_of_ble_eq_true rfl⟩) hK hX hPc (va_recv hK hPc (ci := 0) (q0 := 0) rfl rfl) rfl hl.1 rfl (Nat.le_of_ble_eq_true rfl) d_LW_far_7 ⟨Nat.zero_le _, Nat.zero_le _⟩ ?_
  refine lv_i2l (v := (nI (if a = 255 ∧ wd s9 = 1 then 255 - (se s9 % 64 + 64 * p9) else mget kd sh mb (4 * s9 + (if wd s9 = 1 then p9 else 0)) a)).toInt64) hx hb d_LW_far_10 rfl ?_
  refine va_last hx hb hK hP hD hS 0 3 rfl rfl (vp_in_nI (by omega) (by omega)) d_LW_far_11 (fun H locs hP hD hS => ?_)
  have hP : va_P D vwCl ([(ob, .inl (k 3, 1, .inr (.inl (vp_updL of 0 (nI (if a = 255 ∧ wd s9 = 1 then 255 - (se s9 % 64 + 64 * p9) else mget kd sh mb (4 * s9 + (if wd s9 = 1 then p9 else 0)) a)).toInt64))))] ++ ((ssW q k gd wd se pr ln px cv co B R sx pt rd wt) ++ (plW od k ad bd ed kd nb sh mb))) _ := hP
  have hD : va_D A ([(ob, .inl (k 3, 1, .inr (.inl (vp_updL of 0 (nI (if a = 255 ∧ wd s9 = 1 then 255 - (se s9 % 64 + 64 * p9) else mget kd sh mb (4 * s9 + (if wd s9 = 1 then p9 else 0)) a)).toInt64))))] ++ ((ssW q k gd wd se pr ln px cv co B R sx pt rd wt) ++ (plW od k ad bd ed kd nb sh mb))) := hD
  refine lv_goto (tgt := 19) hx hb d_LW_far_12 (by decide) ?_
  refine lv_iconst (v := nI 0) hx hb d_LW_far_19 (by decide +kernel) ?_
  exact hp_ret hx hb hr hlocks d_LW_far_20 (by show 0 ≤ 3; omega) (by show 0 ≤ 263; omega) hS () rfl hP hD
