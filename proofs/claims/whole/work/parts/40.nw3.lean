set_option maxHeartbeats 4000000 in
set_option maxRecDepth 100000 in
theorem c_SL_put (l : Launch) (D : va_G) (k : Nat → ClassId) (q : Nat → Nat) (gd : Nat → Option Nat) (wd : Nat → Nat) (se : Nat → Nat) (pr : Nat) (nd : va_W) (v ci : Nat) (fs : List Value) (r9 : vw_C) (hc : vwCl[ci]? = some r9) (hca : Cond.castable r9.1 "SlotScreen$Device" ∈ NWL) (h0 : nd[0]? = some (v, .inr (ci, fs))) (s9 p9 : Nat) (hs9 : s9 < 4) (hp9 : p9 < 4) : xw_v l y_SL_put b_SL_put 4 none { frames := 0, cells := 0, slots := 0, locals := 0 } D (kT k) (slW q k gd wd se pr ++ nd) [.ref (q 1), .int (nI s9), .int (nI p9), .ref v] (fun (_ : Unit) => True) (fun (_ : Unit) => (slW q k (va_up gd (4 * s9 + p9) (some v)) wd se pr ++ nd)) := by
  refine xw_headv (by decide) (Nat.le_of_ble_eq_true rfl) ?_
  intro p e s m below meth c ls A hx hb hr hlocks hml hown hts hX hK hA hP hD hS hl
  have hown : s.vm.findClass "SlotScreen$Slots" = some m.cls := hown
  have hl : lv_has ls 4 [(0, .ref (q 1)), (1, .int (nI s9)), (2, .int (nI p9)), (3, .ref v)] := hl
  refine lv_aload_n hx hb d_SL_put_0 rfl (lv_at hl 0 rfl) ?_
  refine va_get (D := D) (ci := 1) (v := .ref (q 2)) (C := R_SL) (T := T_SL) (N := 4) hx hb hts in_SL hown hK hP 0 rfl rfl 0 (by decide) (hts _ w_31) (fun _ h9 => h9) rfl d_SL_put_1 ?_
  refine lv_iload_n hx hb d_SL_put_4 rfl (lv_at hl 1 rfl) ?_
  refine lv_iconst (v := nI 4) hx hb d_SL_put_5 (by decide +kernel) ?_
  refine lv_imul hx hb d_SL_put_6 ?_
  refine ss_rt (y := nI (s9 * 4)) (pk_mul _ _) ?_
  refine lv_iload_n hx hb d_SL_put_7 rfl (lv_at hl 2 rfl) ?_
  refine lv_iadd hx hb d_SL_put_8 ?_
  refine ss_rt (y := nI (4 * s9 + p9)) (by rw [nI_add, Nat.mul_comm s9 4]) ?_
  refine lv_aload_n hx hb d_SL_put_9 rfl (lv_at hl 3 rfl) ?_
  refine va_astqO hx hb hK hP hD hS 1 2 4 ci rfl rfl (hX.1 _ hca) h0 hc (vp_in_nI (by omega) (by omega)) d_SL_put_10 (fun H locs hP hD hS => ?_)
  rw [nI_clamp (by omega)] at hP hD
  have hP : va_P D vwCl (slW q k (va_up gd (4 * s9 + p9) (some v)) wd se pr ++ nd) _ := hP
  have hD : va_D A (slW q k (va_up gd (4 * s9 + p9) (some v)) wd se pr ++ nd) := hD
  exact rw_retv hx hb hr hlocks d_SL_put_11 hS () (trivial) hP
set_option maxHeartbeats 4000000 in
set_option maxRecDepth 100000 in
theorem c_SS_plug1 (l : Launch) (D : va_G) (k : Nat → ClassId) (q : Nat → Nat) (gd : Nat → Option Nat) (wd : Nat → Nat) (se : Nat → Nat) (pr : Nat) (ln : Nat) (px : Nat → Nat) (cv : Nat) (co : Nat) (B : Nat → Nat) (R : Nat → Nat) (sx : Nat) (pt : Nat) (rd : Nat) (wt : Int32) (od : List Nat) (ad bd ed kd nb sh mb : Nat → Nat) (hwd : ∀ j, wd j < 2) (hse : ∀ j, se j < 256) (hpr : pr < 256) (hkd : ∀ j, kd j < 5) (hO : plO od gd ad kd nb sh) (s9 p9 : Nat) (hs9 : s9 < 4) (hp9 : p9 < 4) (b : Int32) (h1 : wd s9 = 1 ∨ p9 = 0) (h2 : kd (4 * s9 + p9) = 0) (hz : ∀ j, j < 256 → mb (256 * (4 * s9 + p9) + j) = 0) : nw_v l y_SS_plug b_SS_plug 5 none { frames := 4, cells := 3, slots := 263, locals := 77 } D (kT k) (ssW q k gd wd se pr ln px cv co B R sx pt rd wt ++ plW od k ad bd ed kd nb sh mb) [.ref (q 0), .int (nI s9), .int (nI p9), .int (nI 1), .int b] (fun (_ : Nat × Nat × Nat) => True) (fun (u : Nat × Nat × Nat) => ssW q k (va_up gd (4 * s9 + p9) (some u.1)) wd se pr ln px cv co B R sx pt rd wt ++ plW (od ++ [(4 * s9 + p9)]) k (ss_up ad (4 * s9 + p9) u.1) (ss_up bd (4 * s9 + p9) u.2.1) (ss_up ed (4 * s9 + p9) u.2.2) (ss_up kd (4 * s9 + p9) 1) nb sh mb) := by
  refine nw_headv (by decide) (Nat.le_of_ble_eq_true rfl) ?_
  intro p e s m below meth c ls A hx hb hr hlocks hml hown hin hts hX hK hA hP hD hS hl
  have hown : s.vm.findClass "SlotScreen" = some m.cls := hown
  have hl : lv_has ls 5 [(0, .ref (q 0)), (1, .int (nI s9)), (2, .int (nI p9)), (3, .int (nI 1)), (4, .int b)] := hl
  refine lv_iload_n hx hb d_SS_plug_0 rfl (lv_at hl 1 rfl) ?_
  refine kr_iS (As := [.int (nI s9)]) (rest := []) ⟨hx, hb, hml, hown, hts⟩ (c_SS_isSlotN l D k s9 (by omega)) (va_cwS 1 hts (gS w_107 w_108 w_1 w_109) rfl rfl rfl (by decide +kernel) ⟨Nat.le_of_ble_eq_true rfl, Nat.le_of_ble_eq_true rfl⟩) hK va_nil rfl hl.1 rfl (Nat.le_of_ble_eq_true rfl) d_SS_plug_1 ⟨Nat.zero_le _, Nat.zero_le _⟩ ?_
  refine lv_if_eq (tgt := 23) hx hb d_SS_plug_4 (by decide) (fun c1 => ?_) (fun c1 => ?_)
  · have c1 := (bI_0).mp c1
    exfalso; omega
  · have c1 := mt (bI_0).mpr c1
    have c1 := Classical.not_not.mp c1
    refine lv_iload_n hx hb d_SS_plug_7 rfl (lv_at hl 2 rfl) ?_
    refine kr_iS (As := [.int (nI p9)]) (rest := []) ⟨hx, hb, hml, hown, hts⟩ (c_SS_isPartN l D k p9 (by omega)) (va_cwS 1 hts (gS w_110 w_111 w_1 w_112) rfl rfl rfl (by decide +kernel) ⟨Nat.le_of_ble_eq_true rfl, Nat.le_of_ble_eq_true rfl⟩) hK va_nil rfl hl.1 rfl (Nat.le_of_ble_eq_true rfl) d_SS_plug_8 ⟨Nat.zero_le _, Nat.zero_le _⟩ ?_
    refine lv_if_eq (tgt := 23) hx hb d_SS_plug_11 (by decide) (fun c2 => ?_) (fun c2 => ?_)
    · have c2 := (bI_0).mp c2
      exfalso; omega
    · have c2 := mt (bI_0).mpr c2
      have c2 := Classical.not_not.mp c2
      refine lv_iload_n hx hb d_SS_plug_14 rfl (lv_at hl 3 rfl) ?_
      refine lv_iload hx hb d_SS_plug_15 (lv_at hl 4 rfl) ?_
      refine kr_iS (As := [.int (nI 1), .int b]) (rest := []) ⟨hx, hb, hml, hown, hts⟩ (c_SS_isDeviceN l D k 1 (by omega) b) (va_cwS 2 hts (gS w_389 w_390 w_1 w_391) rfl rfl rfl (by decide +kernel) ⟨Nat.le_of_ble_eq_true rfl, Nat.le_of_ble_eq_true rfl⟩) hK va_nil rfl hl.1 rfl (Nat.le_of_ble_eq_true rfl) d_SS_plug_17 ⟨Nat.zero_le _, Nat.zero_le _⟩ ?_
      refine lv_if_ne (tgt := 33) hx hb d_SS_plug_20 (by decide) (fun c3 => ?_) (fun c3 => ?_)
      · have c3 := mt (bI_0).mpr c3
        have c3 := Classical.not_not.mp c3
        refine lv_aload_n hx hb d_SS_plug_33 rfl (lv_at hl 0 rfl) ?_
        refine va_get (D := D) (ci := 0) (v := .ref (q 1)) (C := R_SS) (T := T_SS) (N := 3) hx hb hts in_SS hown hK hP 0 rfl rfl 0 (by decide) (hts _ w_93) (fun _ h9 => h9) rfl d_SS_plug_34 ?_
        refine lv_iload_n hx hb d_SS_plug_37 rfl (lv_at hl 1 rfl) ?_
        refine lv_iload_n hx hb d_SS_plug_38 rfl (lv_at hl 2 rfl) ?_
        refine kr_iV (As := [.int (nI s9), .int (nI p9)]) (rest := []) ⟨hx, hb, hml, hown, hts⟩ (c_SL_hasPart l D k q gd wd se pr hwd hse (by omega) s9 p9 (by omega) (by omega)) (cwV 2 hts (gV w_393 w_394 w_395 w_2 w_396) rfl rfl rfl (by decide +kernel) ⟨Nat.le_of_ble_eq_true rfl, Nat.le_of_ble_eq_true rfl⟩) hK (hP.sub (ws' := (slW q k gd wd se pr)) [1, 2, 3, 4] rfl) (va_recv hK hP (ci := 1) (q0 := 1) rfl rfl) rfl hl.1 rfl (Nat.le_of_ble_eq_true rfl) d_SS_plug_39 ⟨Nat.zero_le _, Nat.zero_le _⟩ ?_
        refine lv_if_eq (tgt := 57) hx hb d_SS_plug_42 (by decide) (fun c4 => ?_) (fun c4 => ?_)
        · have c4 := (bI_0).mp c4
          exfalso; omega
        · have c4 := mt (bI_0).mpr c4
          have c4 := Classical.not_not.mp c4
          refine lv_aload_n hx hb d_SS_plug_45 rfl (lv_at hl 0 rfl) ?_
          refine va_get (D := D) (ci := 0) (v := .ref (q 1)) (C := R_SS) (T := T_SS) (N := 3) hx hb hts in_SS hown hK hP 0 rfl rfl 0 (by decide) (hts _ w_93) (fun _ h9 => h9) rfl d_SS_plug_46 ?_
          refine lv_iload_n hx hb d_SS_plug_49 rfl (lv_at hl 1 rfl) ?_
          refine lv_iload_n hx hb d_SS_plug_50 rfl (lv_at hl 2 rfl) ?_
          refine kr_qV (As := [.int (nI s9), .int (nI p9)]) (rest := []) ⟨hx, hb, hml, hown, hts⟩ (c_SL_deviceIn l D k q gd wd se pr s9 p9 (by omega) (by omega)) (cwV 2 hts (gV w_116 w_117 w_118 w_2 w_119) rfl rfl rfl (by decide +kernel) ⟨Nat.le_of_ble_eq_true rfl, Nat.le_of_ble_eq_true rfl⟩) hK (hP.sub (ws' := (slW q k gd wd se pr)) [1, 2, 3, 4] rfl) (va_recv hK hP (ci := 1) (q0 := 1) rfl rfl) rfl hl.1 rfl (Nat.le_of_ble_eq_true rfl) d_SS_plug_51 ⟨Nat.zero_le _, Nat.zero_le _⟩ ?_
          have hg := hO.1 (4 * s9 + p9) (by omega)
          refine ss_rv (y := .null) (by rw [hg, if_pos h2]; rfl) ?_
          refine lv_ifnullN (tgt := 67) hx hb d_SS_plug_54 (by decide) ?_
          refine lv_aload_n hx hb d_SS_plug_67 rfl (lv_at hl 0 rfl) ?_
          refine va_get (D := D) (ci := 0) (v := .ref (q 1)) (C := R_SS) (T := T_SS) (N := 3) hx hb hts in_SS hown hK hP 0 rfl rfl 0 (by decide) (hts _ w_93) (fun _ h9 => h9) rfl d_SS_plug_68 ?_
          refine lv_iload_n hx hb d_SS_plug_71 rfl (lv_at hl 1 rfl) ?_
          refine lv_iload_n hx hb d_SS_plug_72 rfl (lv_at hl 2 rfl) ?_
          refine lv_iload_n hx hb d_SS_plug_73 rfl (lv_at hl 3 rfl) ?_
          refine lv_iload hx hb d_SS_plug_74 (lv_at hl 4 rfl) ?_
          refine kn_rS (As := [.int (nI 1), .int b]) (rest := [.int (nI p9), .int (nI s9), .ref (q 1)]) ⟨hx, hb, hml, hown, hts⟩ (c_SS_newDevice1 l D k b) (va_cwS 2 hts (gS w_398 w_399 w_1 w_400) rfl rfl rfl (by decide +kernel) ⟨Nat.le_of_ble_eq_true rfl, Nat.le_of_ble_eq_true rfl⟩) hK hX hS hA rfl hl.1 rfl (Nat.le_of_ble_eq_true rfl) d_SS_plug_76 ⟨by show 0 + 3 ≤ 3; omega, by show 0 + 263 ≤ 263; omega⟩ (fun u9 a9 H9 locs _ hP1 hD1 hk1 hS9 => ?_)
          obtain ⟨b9, rfl⟩ : ∃ z, z = u9 := ⟨_, rfl⟩
          obtain ⟨hP, hD⟩ := nw_app (w1 := raW a9 b9 k 256 255 (fun _ => 0)) hP hD hk1 hP1 hD1 (fun q h => hA q (Nat.le_trans hS.1 h))
          clear hS hP1 hD1 hk1
          have hS := hS9
          clear hS9
          generalize H9 = H at hP hS ⊢
          have hPc : va_P D vwCl (slW q k gd wd se pr ++ raW a9 b9 k 256 255 (fun _ => 0)) H := ss_subP (a := [(q 0, .inr (0, [.ref (q 1), .ref (q 7), .ref (q 5)]))]) (b := slW q k gd wd se pr) (c := (scW q k ln px cv co B R sx pt rd wt) ++ plW od k ad bd ed kd nb sh mb) (p := raW a9 b9 k 256 255 (fun _ => 0)) hP
          have hDc : va_D A (slW q k gd wd se pr ++ raW a9 b9 k 256 255 (fun _ => 0)) := ss_subD (a := [(q 0, .inr (0, [.ref (q 1), .ref (q 7), .ref (q 5)]))]) (b := slW q k gd wd se pr) (c := (scW q k ln px cv co B R sx pt rd wt) ++ plW od k ad bd ed kd nb sh mb) (p := raW a9 b9 k 256 255 (fun _ => 0)) hD
          refine kxw_vV (As := [.int (nI s9), .int (nI p9), .ref a9]) (rest := []) ⟨hx, hb, hml, hown, hts⟩ (c_SL_put l D k q gd wd se pr (raW a9 b9 k 256 255 (fun _ => 0)) a9 5 [.ref b9, .int (nI 255)] _ rfl (by unfold NWL; simp) rfl s9 p9 (by omega) (by omega)) (cwV 3 hts (gV w_443 w_444 w_445 w_2 w_446) rfl rfl rfl (by decide +kernel) ⟨Nat.le_of_ble_eq_true rfl, Nat.le_of_ble_eq_true rfl⟩) hK hX hPc hDc hS hA (va_recv hK hP (ci := 1) (q0 := 1) rfl rfl) rfl hl.1 rfl (Nat.le_of_ble_eq_true rfl) d_SS_plug_79 ⟨by show 0 + 3 ≤ 3; omega, by show 0 + 263 ≤ 263; omega⟩ (fun _ H9 locs _ hP1 hk1 hS9 => ?_)
          have hP2 : va_P D vwCl ((ssW q k (va_up gd (4 * s9 + p9) (some a9)) wd se pr ln px cv co B R sx pt rd wt ++ plW od k ad bd ed kd nb sh mb) ++ raW a9 b9 k 256 255 (fun _ => 0)) H9 := ss_fr (a := [(q 0, .inr (0, [.ref (q 1), .ref (q 7), .ref (q 5)]))]) (b := slW q k gd wd se pr) (c := (scW q k ln px cv co B R sx pt rd wt) ++ plW od k ad bd ed kd nb sh mb) (p := raW a9 b9 k 256 255 (fun _ => 0)) (b' := slW q k (va_up gd (4 * s9 + p9) (some a9)) wd se pr) (p' := raW a9 b9 k 256 255 (fun _ => 0)) hP hD hk1 hP1
          have hD2 : va_D A ((ssW q k (va_up gd (4 * s9 + p9) (some a9)) wd se pr ln px cv co B R sx pt rd wt ++ plW od k ad bd ed kd nb sh mb) ++ raW a9 b9 k 256 255 (fun _ => 0)) := rw_same hD rfl
          have hno : (4 * s9 + p9) ∉ od := fun z => ((hO.2.1 _).mp z).2 h2
          have hpa : ssW q k (va_up gd (4 * s9 + p9) (some a9)) wd se pr ln px cv co B R sx pt rd wt ++ plW (od ++ [(4 * s9 + p9)]) k (ss_up ad (4 * s9 + p9) a9) (ss_up bd (4 * s9 + p9) b9) (ss_up ed (4 * s9 + p9) 0) (ss_up kd (4 * s9 + p9) 1) nb sh mb = (ssW q k (va_up gd (4 * s9 + p9) (some a9)) wd se pr ln px cv co B R sx pt rd wt ++ plW od k ad bd ed kd nb sh mb) ++ raW a9 b9 k 256 255 (fun _ => 0) := pl_add (fun e he => dv_oth (fun z => hno (z ▸ he))) (by rw [dvW_1 (by rw [ss_up_s])]; simp only [ss_up_s]; rw [sft_z (fun j hj => hz j (by omega))])
          exact nw_retv hx hb hr hlocks d_SS_plug_82 (by show 0 + 3 ≤ 3; omega) (by show 0 + 263 ≤ 263; omega) hS9 (a9, b9, 0) trivial (by show va_P D vwCl (ssW q k (va_up gd (4 * s9 + p9) (some a9)) wd se pr ln px cv co B R sx pt rd wt ++ plW (od ++ [(4 * s9 + p9)]) k (ss_up ad (4 * s9 + p9) a9) (ss_up bd (4 * s9 + p9) b9) (ss_up ed (4 * s9 + p9) 0) (ss_up kd (4 * s9 + p9) 1) nb sh mb) H9; rw [hpa]; exact hP2) (by show va_D A (ssW q k (va_up gd (4 * s9 + p9) (some a9)) wd se pr ln px cv co B R sx pt rd wt ++ plW (od ++ [(4 * s9 + p9)]) k (ss_up ad (4 * s9 + p9) a9) (ss_up bd (4 * s9 + p9) b9) (ss_up ed (4 * s9 + p9) 0) (ss_up kd (4 * s9 + p9) 1) nb sh mb); rw [hpa]; exact hD2)
      · have c3 := (bI_0).mp c3
        exfalso; omega
set_option maxHeartbeats 4000000 in
set_option maxRecDepth 100000 in
theorem c_SS_plug2 (l : Launch) (D : va_G) (k : Nat → ClassId) (q : Nat → Nat) (gd : Nat → Option Nat) (wd : Nat → Nat) (se : Nat → Nat) (pr : Nat) (ln : Nat) (px : Nat → Nat) (cv : Nat) (co : Nat) (B : Nat → Nat) (R : Nat → Nat) (sx : Nat) (pt : Nat) (rd : Nat) (wt : Int32) (od : List Nat) (ad bd ed kd nb sh mb : Nat → Nat) (hwd : ∀ j, wd j < 2) (hse : ∀ j, se j < 256) (hpr : pr < 256) (hkd : ∀ j, kd j < 5) (hO : plO od gd ad kd nb sh) (s9 p9 : Nat) (hs9 : s9 < 4) (hp9 : p9 < 4) (b : Int32) (h1 : wd s9 = 1 ∨ p9 = 0) (h2 : kd (4 * s9 + p9) = 0) (hz : ∀ j, j < 256 → mb (256 * (4 * s9 + p9) + j) = 0) : nw_v l y_SS_plug b_SS_plug 5 none { frames := 4, cells := 3, slots := 263, locals := 77 } D (kT k) (ssW q k gd wd se pr ln px cv co B R sx pt rd wt ++ plW od k ad bd ed kd nb sh mb) [.ref (q 0), .int (nI s9), .int (nI p9), .int (nI 2), .int b] (fun (_ : Nat × Nat × Nat) => True) (fun (u : Nat × Nat × Nat) => ssW q k (va_up gd (4 * s9 + p9) (some u.1)) wd se pr ln px cv co B R sx pt rd wt ++ plW (od ++ [(4 * s9 + p9)]) k (ss_up ad (4 * s9 + p9) u.1) (ss_up bd (4 * s9 + p9) u.2.1) (ss_up ed (4 * s9 + p9) u.2.2) (ss_up kd (4 * s9 + p9) 2) nb sh mb) := by
  refine nw_headv (by decide) (Nat.le_of_ble_eq_true rfl) ?_
  intro p e s m below meth c ls A hx hb hr hlocks hml hown hin hts hX hK hA hP hD hS hl
  have hown : s.vm.findClass "SlotScreen" = some m.cls := hown
  have hl : lv_has ls 5 [(0, .ref (q 0)), (1, .int (nI s9)), (2, .int (nI p9)), (3, .int (nI 2)), (4, .int b)] := hl
  refine lv_iload_n hx hb d_SS_plug_0 rfl (lv_at hl 1 rfl) ?_
  refine kr_iS (As := [.int (nI s9)]) (rest := []) ⟨hx, hb, hml, hown, hts⟩ (c_SS_isSlotN l D k s9 (by omega)) (va_cwS 1 hts (gS w_107 w_108 w_1 w_109) rfl rfl rfl (by decide +kernel) ⟨Nat.le_of_ble_eq_true rfl, Nat.le_of_ble_eq_true rfl⟩) hK va_nil rfl hl.1 rfl (Nat.le_of_ble_eq_true rfl) d_SS_plug_1 ⟨Nat.zero_le _, Nat.zero_le _⟩ ?_
  refine lv_if_eq (tgt := 23) hx hb d_SS_plug_4 (by decide) (fun c1 => ?_) (fun c1 => ?_)
  · have c1 := (bI_0).mp c1
    exfalso; omega
  · have c1 := mt (bI_0).mpr c1
    have c1 := Classical.not_not.mp c1
    refine lv_iload_n hx hb d_SS_plug_7 rfl (lv_at hl 2 rfl) ?_
    refine kr_iS (As := [.int (nI p9)]) (rest := []) ⟨hx, hb, hml, hown, hts⟩ (c_SS_isPartN l D k p9 (by omega)) (va_cwS 1 hts (gS w_110 w_111 w_1 w_112) rfl rfl rfl (by decide +kernel) ⟨Nat.le_of_ble_eq_true rfl, Nat.le_of_ble_eq_true rfl⟩) hK va_nil rfl hl.1 rfl (Nat.le_of_ble_eq_true rfl) d_SS_plug_8 ⟨Nat.zero_le _, Nat.zero_le _⟩ ?_
    refine lv_if_eq (tgt := 23) hx hb d_SS_plug_11 (by decide) (fun c2 => ?_) (fun c2 => ?_)
    · have c2 := (bI_0).mp c2
      exfalso; omega
    · have c2 := mt (bI_0).mpr c2
      have c2 := Classical.not_not.mp c2
      refine lv_iload_n hx hb d_SS_plug_14 rfl (lv_at hl 3 rfl) ?_
      refine lv_iload hx hb d_SS_plug_15 (lv_at hl 4 rfl) ?_
      refine kr_iS (As := [.int (nI 2), .int b]) (rest := []) ⟨hx, hb, hml, hown, hts⟩ (c_SS_isDeviceN l D k 2 (by omega) b) (va_cwS 2 hts (gS w_389 w_390 w_1 w_391) rfl rfl rfl (by decide +kernel) ⟨Nat.le_of_ble_eq_true rfl, Nat.le_of_ble_eq_true rfl⟩) hK va_nil rfl hl.1 rfl (Nat.le_of_ble_eq_true rfl) d_SS_plug_17 ⟨Nat.zero_le _, Nat.zero_le _⟩ ?_
      refine lv_if_ne (tgt := 33) hx hb d_SS_plug_20 (by decide) (fun c3 => ?_) (fun c3 => ?_)
      · have c3 := mt (bI_0).mpr c3
        have c3 := Classical.not_not.mp c3
        refine lv_aload_n hx hb d_SS_plug_33 rfl (lv_at hl 0 rfl) ?_
        refine va_get (D := D) (ci := 0) (v := .ref (q 1)) (C := R_SS) (T := T_SS) (N := 3) hx hb hts in_SS hown hK hP 0 rfl rfl 0 (by decide) (hts _ w_93) (fun _ h9 => h9) rfl d_SS_plug_34 ?_
        refine lv_iload_n hx hb d_SS_plug_37 rfl (lv_at hl 1 rfl) ?_
        refine lv_iload_n hx hb d_SS_plug_38 rfl (lv_at hl 2 rfl) ?_
        refine kr_iV (As := [.int (nI s9), .int (nI p9)]) (rest := []) ⟨hx, hb, hml, hown, hts⟩ (c_SL_hasPart l D k q gd wd se pr hwd hse (by omega) s9 p9 (by omega) (by omega)) (cwV 2 hts (gV w_393 w_394 w_395 w_2 w_396) rfl rfl rfl (by decide +kernel) ⟨Nat.le_of_ble_eq_true rfl, Nat.le_of_ble_eq_true rfl⟩) hK (hP.sub (ws' := (slW q k gd wd se pr)) [1, 2, 3, 4] rfl) (va_recv hK hP (ci := 1) (q0 := 1) rfl rfl) rfl hl.1 rfl (Nat.le_of_ble_eq_true rfl) d_SS_plug_39 ⟨Nat.zero_le _, Nat.zero_le _⟩ ?_
        refine lv_if_eq (tgt := 57) hx hb d_SS_plug_42 (by decide) (fun c4 => ?_) (fun c4 => ?_)
        · have c4 := (bI_0).mp c4
          exfalso; omega
        · have c4 := mt (bI_0).mpr c4
          have c4 := Classical.not_not.mp c4
          refine lv_aload_n hx hb d_SS_plug_45 rfl (lv_at hl 0 rfl) ?_
          refine va_get (D := D) (ci := 0) (v := .ref (q 1)) (C := R_SS) (T := T_SS) (N := 3) hx hb hts in_SS hown hK hP 0 rfl rfl 0 (by decide) (hts _ w_93) (fun _ h9 => h9) rfl d_SS_plug_46 ?_
          refine lv_iload_n hx hb d_SS_plug_49 rfl (lv_at hl 1 rfl) ?_
          refine lv_iload_n hx hb d_SS_plug_50 rfl (lv_at hl 2 rfl) ?_
          refine kr_qV (As := [.int (nI s9), .int (nI p9)]) (rest := []) ⟨hx, hb, hml, hown, hts⟩ (c_SL_deviceIn l D k q gd wd se pr s9 p9 (by omega) (by omega)) (cwV 2 hts (gV w_116 w_117 w_118 w_2 w_119) rfl rfl rfl (by decide +kernel) ⟨Nat.le_of_ble_eq_true rfl, Nat.le_of_ble_eq_true rfl⟩) hK (hP.sub (ws' := (slW q k gd wd se pr)) [1, 2, 3, 4] rfl) (va_recv hK hP (ci := 1) (q0 := 1) rfl rfl) rfl hl.1 rfl (Nat.le_of_ble_eq_true rfl) d_SS_plug_51 ⟨Nat.zero_le _, Nat.zero_le _⟩ ?_
          have hg := hO.1 (4 * s9 + p9) (by omega)
          refine ss_rv (y := .null) (by rw [hg, if_pos h2]; rfl) ?_
          refine lv_ifnullN (tgt := 67) hx hb d_SS_plug_54 (by decide) ?_
          refine lv_aload_n hx hb d_SS_plug_67 rfl (lv_at hl 0 rfl) ?_
          refine va_get (D := D) (ci := 0) (v := .ref (q 1)) (C := R_SS) (T := T_SS) (N := 3) hx hb hts in_SS hown hK hP 0 rfl rfl 0 (by decide) (hts _ w_93) (fun _ h9 => h9) rfl d_SS_plug_68 ?_
          refine lv_iload_n hx hb d_SS_plug_71 rfl (lv_at hl 1 rfl) ?_
          refine lv_iload_n hx hb d_SS_plug_72 rfl (lv_at hl 2 rfl) ?_
          refine lv_iload_n hx hb d_SS_plug_73 rfl (lv_at hl 3 rfl) ?_
          refine lv_iload hx hb d_SS_plug_74 (lv_at hl 4 rfl) ?_
          refine kn_rS (As := [.int (nI 2), .int b]) (rest := [.int (nI p9), .int (nI s9), .ref (q 1)]) ⟨hx, hb, hml, hown, hts⟩ (c_SS_newDevice2 l D k b) (va_cwS 2 hts (gS w_398 w_399 w_1 w_400) rfl rfl rfl (by decide +kernel) ⟨Nat.le_of_ble_eq_true rfl, Nat.le_of_ble_eq_true rfl⟩) hK hX hS hA rfl hl.1 rfl (Nat.le_of_ble_eq_true rfl) d_SS_plug_76 ⟨by show 0 + 3 ≤ 3; omega, by show 0 + 263 ≤ 263; omega⟩ (fun u9 a9 H9 locs _ hP1 hD1 hk1 hS9 => ?_)
          obtain ⟨b9, rfl⟩ : ∃ z, z = u9 := ⟨_, rfl⟩
          obtain ⟨hP, hD⟩ := nw_app (w1 := roW a9 b9 k (fun _ => 0)) hP hD hk1 hP1 hD1 (fun q h => hA q (Nat.le_trans hS.1 h))
          clear hS hP1 hD1 hk1
          have hS := hS9
          clear hS9
          generalize H9 = H at hP hS ⊢
          have hPc : va_P D vwCl (slW q k gd wd se pr ++ roW a9 b9 k (fun _ => 0)) H := ss_subP (a := [(q 0, .inr (0, [.ref (q 1), .ref (q 7), .ref (q 5)]))]) (b := slW q k gd wd se pr) (c := (scW q k ln px cv co B R sx pt rd wt) ++ plW od k ad bd ed kd nb sh mb) (p := roW a9 b9 k (fun _ => 0)) hP
          have hDc : va_D A (slW q k gd wd se pr ++ roW a9 b9 k (fun _ => 0)) := ss_subD (a := [(q 0, .inr (0, [.ref (q 1), .ref (q 7), .ref (q 5)]))]) (b := slW q k gd wd se pr) (c := (scW q k ln px cv co B R sx pt rd wt) ++ plW od k ad bd ed kd nb sh mb) (p := roW a9 b9 k (fun _ => 0)) hD
          refine kxw_vV (As := [.int (nI s9), .int (nI p9), .ref a9]) (rest := []) ⟨hx, hb, hml, hown, hts⟩ (c_SL_put l D k q gd wd se pr (roW a9 b9 k (fun _ => 0)) a9 6 [.ref b9] _ rfl (by unfold NWL; simp) rfl s9 p9 (by omega) (by omega)) (cwV 3 hts (gV w_443 w_444 w_445 w_2 w_446) rfl rfl rfl (by decide +kernel) ⟨Nat.le_of_ble_eq_true rfl, Nat.le_of_ble_eq_true rfl⟩) hK hX hPc hDc hS hA (va_recv hK hP (ci := 1) (q0 := 1) rfl rfl) rfl hl.1 rfl (Nat.le_of_ble_eq_true rfl) d_SS_plug_79 ⟨by show 0 + 3 ≤ 3; omega, by show 0 + 263 ≤ 263; omega⟩ (fun _ H9 locs _ hP1 hk1 hS9 => ?_)
          have hP2 : va_P D vwCl ((ssW q k (va_up gd (4 * s9 + p9) (some a9)) wd se pr ln px cv co B R sx pt rd wt ++ plW od k ad bd ed kd nb sh mb) ++ roW a9 b9 k (fun _ => 0)) H9 := ss_fr (a := [(q 0, .inr (0, [.ref (q 1), .ref (q 7), .ref (q 5)]))]) (b := slW q k gd wd se pr) (c := (scW q k ln px cv co B R sx pt rd wt) ++ plW od k ad bd ed kd nb sh mb) (p := roW a9 b9 k (fun _ => 0)) (b' := slW q k (va_up gd (4 * s9 + p9) (some a9)) wd se pr) (p' := roW a9 b9 k (fun _ => 0)) hP hD hk1 hP1
          have hD2 : va_D A ((ssW q k (va_up gd (4 * s9 + p9) (some a9)) wd se pr ln px cv co B R sx pt rd wt ++ plW od k ad bd ed kd nb sh mb) ++ roW a9 b9 k (fun _ => 0)) := rw_same hD rfl
          have hno : (4 * s9 + p9) ∉ od := fun z => ((hO.2.1 _).mp z).2 h2
          have hpa : ssW q k (va_up gd (4 * s9 + p9) (some a9)) wd se pr ln px cv co B R sx pt rd wt ++ plW (od ++ [(4 * s9 + p9)]) k (ss_up ad (4 * s9 + p9) a9) (ss_up bd (4 * s9 + p9) b9) (ss_up ed (4 * s9 + p9) 0) (ss_up kd (4 * s9 + p9) 2) nb sh mb = (ssW q k (va_up gd (4 * s9 + p9) (some a9)) wd se pr ln px cv co B R sx pt rd wt ++ plW od k ad bd ed kd nb sh mb) ++ roW a9 b9 k (fun _ => 0) := pl_add (fun e he => dv_oth (fun z => hno (z ▸ he))) (by rw [dvW_2 (by rw [ss_up_s])]; simp only [ss_up_s]; rw [sft_z (fun j hj => hz j (by omega))])
          exact nw_retv hx hb hr hlocks d_SS_plug_82 (by show 0 + 3 ≤ 3; omega) (by show 0 + 263 ≤ 263; omega) hS9 (a9, b9, 0) trivial (by show va_P D vwCl (ssW q k (va_up gd (4 * s9 + p9) (some a9)) wd se pr ln px cv co B R sx pt rd wt ++ plW (od ++ [(4 * s9 + p9)]) k (ss_up ad (4 * s9 + p9) a9) (ss_up bd (4 * s9 + p9) b9) (ss_up ed (4 * s9 + p9) 0) (ss_up kd (4 * s9 + p9) 2) nb sh mb) H9; rw [hpa]; exact hP2) (by show va_D A (ssW q k (va_up gd (4 * s9 + p9) (some a9)) wd se pr ln px cv co B R sx pt rd wt ++ plW (od ++ [(4 * s9 + p9)]) k (ss_up ad (4 * s9 + p9) a9) (ss_up bd (4 * s9 + p9) b9) (ss_up ed (4 * s9 + p9) 0) (ss_up kd (4 * s9 + p9) 2) nb sh mb); rw [hpa]; exact hD2)
      · have c3 := (bI_0).mp c3
        exfalso; omega
set_option maxHeartbeats 4000000 in
set_option maxRecDepth 100000 in
theorem c_SS_plug3 (l : Launch) (D : va_G) (k : Nat → ClassId) (q : Nat → Nat) (gd : Nat → Option Nat) (wd : Nat → Nat) (se : Nat → Nat) (pr : Nat) (ln : Nat) (px : Nat → Nat) (cv : Nat) (co : Nat) (B : Nat → Nat) (R : Nat → Nat) (sx : Nat) (pt : Nat) (rd : Nat) (wt : Int32) (od : List Nat) (ad bd ed kd nb sh mb : Nat → Nat) (hwd : ∀ j, wd j < 2) (hse : ∀ j, se j < 256) (hpr : pr < 256) (hkd : ∀ j, kd j < 5) (hO : plO od gd ad kd nb sh) (s9 p9 : Nat) (hs9 : s9 < 4) (hp9 : p9 < 4) (n : Nat) (hn1 : 1 ≤ n) (hn2 : n ≤ 8) (h1 : wd s9 = 1 ∨ p9 = 0) (h2 : kd (4 * s9 + p9) = 0) (hz : ∀ j, j < 256 → mb (256 * (4 * s9 + p9) + j) = 0) : nw_v l y_SS_plug b_SS_plug 5 none { frames := 4, cells := 3, slots := 263, locals := 77 } D (kT k) (ssW q k gd wd se pr ln px cv co B R sx pt rd wt ++ plW od k ad bd ed kd nb sh mb) [.ref (q 0), .int (nI s9), .int (nI p9), .int (nI 3), .int (nI n)] (fun (_ : Nat × Nat × Nat) => True) (fun (u : Nat × Nat × Nat) => ssW q k (va_up gd (4 * s9 + p9) (some u.1)) wd se pr ln px cv co B R sx pt rd wt ++ plW (od ++ [(4 * s9 + p9)]) k (ss_up ad (4 * s9 + p9) u.1) (ss_up bd (4 * s9 + p9) u.2.1) (ss_up ed (4 * s9 + p9) u.2.2) (ss_up kd (4 * s9 + p9) 3) (ss_up nb (4 * s9 + p9) n) (mshn sh (4 * s9 + p9) n 4) mb) := by
  refine nw_headv (by decide) (Nat.le_of_ble_eq_true rfl) ?_
  intro p e s m below meth c ls A hx hb hr hlocks hml hown hin hts hX hK hA hP hD hS hl
  have hown : s.vm.findClass "SlotScreen" = some m.cls := hown
  have hl : lv_has ls 5 [(0, .ref (q 0)), (1, .int (nI s9)), (2, .int (nI p9)), (3, .int (nI 3)), (4, .int (nI n))] := hl
  refine lv_iload_n hx hb d_SS_plug_0 rfl (lv_at hl 1 rfl) ?_
  refine kr_iS (As := [.int (nI s9)]) (rest := []) ⟨hx, hb, hml, hown, hts⟩ (c_SS_isSlotN l D k s9 (by omega)) (va_cwS 1 hts (gS w_107 w_108 w_1 w_109) rfl rfl rfl (by decide +kernel) ⟨Nat.le_of_ble_eq_true rfl, Nat.le_of_ble_eq_true rfl⟩) hK va_nil rfl hl.1 rfl (Nat.le_of_ble_eq_true rfl) d_SS_plug_1 ⟨Nat.zero_le _, Nat.zero_le _⟩ ?_
  refine lv_if_eq (tgt := 23) hx hb d_SS_plug_4 (by decide) (fun c1 => ?_) (fun c1 => ?_)
  · have c1 := (bI_0).mp c1
    exfalso; omega
  · have c1 := mt (bI_0).mpr c1
    have c1 := Classical.not_not.mp c1
    refine lv_iload_n hx hb d_SS_plug_7 rfl (lv_at hl 2 rfl) ?_
    refine kr_iS (As := [.int (nI p9)]) (rest := []) ⟨hx, hb, hml, hown, hts⟩ (c_SS_isPartN l D k p9 (by omega)) (va_cwS 1 hts (gS w_110 w_111 w_1 w_112) rfl rfl rfl (by decide +kernel) ⟨Nat.le_of_ble_eq_true rfl, Nat.le_of_ble_eq_true rfl⟩) hK va_nil rfl hl.1 rfl (Nat.le_of_ble_eq_true rfl) d_SS_plug_8 ⟨Nat.zero_le _, Nat.zero_le _⟩ ?_
    refine lv_if_eq (tgt := 23) hx hb d_SS_plug_11 (by decide) (fun c2 => ?_) (fun c2 => ?_)
    · have c2 := (bI_0).mp c2
      exfalso; omega
    · have c2 := mt (bI_0).mpr c2
      have c2 := Classical.not_not.mp c2
      refine lv_iload_n hx hb d_SS_plug_14 rfl (lv_at hl 3 rfl) ?_
      refine lv_iload hx hb d_SS_plug_15 (lv_at hl 4 rfl) ?_
      refine kr_iS (As := [.int (nI 3), .int (nI n)]) (rest := []) ⟨hx, hb, hml, hown, hts⟩ (c_SS_isDeviceM l D k 3 (by omega) n (by omega)) (va_cwS 2 hts (gS w_389 w_390 w_1 w_391) rfl rfl rfl (by decide +kernel) ⟨Nat.le_of_ble_eq_true rfl, Nat.le_of_ble_eq_true rfl⟩) hK va_nil rfl hl.1 rfl (Nat.le_of_ble_eq_true rfl) d_SS_plug_17 ⟨Nat.zero_le _, Nat.zero_le _⟩ ?_
      refine lv_if_ne (tgt := 33) hx hb d_SS_plug_20 (by decide) (fun c3 => ?_) (fun c3 => ?_)
      · have c3 := mt (bI_0).mpr c3
        have c3 := Classical.not_not.mp c3
        refine lv_aload_n hx hb d_SS_plug_33 rfl (lv_at hl 0 rfl) ?_
        refine va_get (D := D) (ci := 0) (v := .ref (q 1)) (C := R_SS) (T := T_SS) (N := 3) hx hb hts in_SS hown hK hP 0 rfl rfl 0 (by decide) (hts _ w_93) (fun _ h9 => h9) rfl d_SS_plug_34 ?_
        refine lv_iload_n hx hb d_SS_plug_37 rfl (lv_at hl 1 rfl) ?_
        refine lv_iload_n hx hb d_SS_plug_38 rfl (lv_at hl 2 rfl) ?_
        refine kr_iV (As := [.int (nI s9), .int (nI p9)]) (rest := []) ⟨hx, hb, hml, hown, hts⟩ (c_SL_hasPart l D k q gd wd se pr hwd hse (by omega) s9 p9 (by omega) (by omega)) (cwV 2 hts (gV w_393 w_394 w_395 w_2 w_396) rfl rfl rfl (by decide +kernel) ⟨Nat.le_of_ble_eq_true rfl, Nat.le_of_ble_eq_true rfl⟩) hK (hP.sub (ws' := (slW q k gd wd se pr)) [1, 2, 3, 4] rfl) (va_recv hK hP (ci := 1) (q0 := 1) rfl rfl) rfl hl.1 rfl (Nat.le_of_ble_eq_true rfl) d_SS_plug_39 ⟨Nat.zero_le _, Nat.zero_le _⟩ ?_
        refine lv_if_eq (tgt := 57) hx hb d_SS_plug_42 (by decide) (fun c4 => ?_) (fun c4 => ?_)
        · have c4 := (bI_0).mp c4
          exfalso; omega
        · have c4 := mt (bI_0).mpr c4
          have c4 := Classical.not_not.mp c4
          refine lv_aload_n hx hb d_SS_plug_45 rfl (lv_at hl 0 rfl) ?_
          refine va_get (D := D) (ci := 0) (v := .ref (q 1)) (C := R_SS) (T := T_SS) (N := 3) hx hb hts in_SS hown hK hP 0 rfl rfl 0 (by decide) (hts _ w_93) (fun _ h9 => h9) rfl d_SS_plug_46 ?_
          refine lv_iload_n hx hb d_SS_plug_49 rfl (lv_at hl 1 rfl) ?_
          refine lv_iload_n hx hb d_SS_plug_50 rfl (lv_at hl 2 rfl) ?_
          refine kr_qV (As := [.int (nI s9), .int (nI p9)]) (rest := []) ⟨hx, hb, hml, hown, hts⟩ (c_SL_deviceIn l D k q gd wd se pr s9 p9 (by omega) (by omega)) (cwV 2 hts (gV w_116 w_117 w_118 w_2 w_119) rfl rfl rfl (by decide +kernel) ⟨Nat.le_of_ble_eq_true rfl, Nat.le_of_ble_eq_true rfl⟩) hK (hP.sub (ws' := (slW q k gd wd se pr)) [1, 2, 3, 4] rfl) (va_recv hK hP (ci := 1) (q0 := 1) rfl rfl) rfl hl.1 rfl (Nat.le_of_ble_eq_true rfl) d_SS_plug_51 ⟨Nat.zero_le _, Nat.zero_le _⟩ ?_
          have hg := hO.1 (4 * s9 + p9) (by omega)
          refine ss_rv (y := .null) (by rw [hg, if_pos h2]; rfl) ?_
          refine lv_ifnullN (tgt := 67) hx hb d_SS_plug_54 (by decide) ?_
          refine lv_aload_n hx hb d_SS_plug_67 rfl (lv_at hl 0 rfl) ?_
          refine va_get (D := D) (ci := 0) (v := .ref (q 1)) (C := R_SS) (T := T_SS) (N := 3) hx hb hts in_SS hown hK hP 0 rfl rfl 0 (by decide) (hts _ w_93) (fun _ h9 => h9) rfl d_SS_plug_68 ?_
          refine lv_iload_n hx hb d_SS_plug_71 rfl (lv_at hl 1 rfl) ?_
          refine lv_iload_n hx hb d_SS_plug_72 rfl (lv_at hl 2 rfl) ?_
          refine lv_iload_n hx hb d_SS_plug_73 rfl (lv_at hl 3 rfl) ?_
          refine lv_iload hx hb d_SS_plug_74 (lv_at hl 4 rfl) ?_
          refine kn_rS (As := [.int (nI 3), .int (nI n)]) (rest := [.int (nI p9), .int (nI s9), .ref (q 1)]) ⟨hx, hb, hml, hown, hts⟩ (c_SS_newDevice3 l D k n hn1 hn2) (va_cwS 2 hts (gS w_398 w_399 w_1 w_400) rfl rfl rfl (by decide +kernel) ⟨Nat.le_of_ble_eq_true rfl, Nat.le_of_ble_eq_true rfl⟩) hK hX hS hA rfl hl.1 rfl (Nat.le_of_ble_eq_true rfl) d_SS_plug_76 ⟨by show 0 + 3 ≤ 3; omega, by show 0 + 263 ≤ 263; omega⟩ (fun u9 a9 H9 locs _ hP1 hD1 hk1 hS9 => ?_)
          obtain ⟨c9, b9⟩ := u9
          obtain ⟨hP, hD⟩ := nw_app (w1 := bkW a9 b9 c9 k n (fun _ => 0) (bkG n 4)) hP hD hk1 hP1 hD1 (fun q h => hA q (Nat.le_trans hS.1 h))
          clear hS hP1 hD1 hk1
          have hS := hS9
          clear hS9
          generalize H9 = H at hP hS ⊢
          have hPc : va_P D vwCl (slW q k gd wd se pr ++ bkW a9 b9 c9 k n (fun _ => 0) (bkG n 4)) H := ss_subP (a := [(q 0, .inr (0, [.ref (q 1), .ref (q 7), .ref (q 5)]))]) (b := slW q k gd wd se pr) (c := (scW q k ln px cv co B R sx pt rd wt) ++ plW od k ad bd ed kd nb sh mb) (p := bkW a9 b9 c9 k n (fun _ => 0) (bkG n 4)) hP
          have hDc : va_D A (slW q k gd wd se pr ++ bkW a9 b9 c9 k n (fun _ => 0) (bkG n 4)) := ss_subD (a := [(q 0, .inr (0, [.ref (q 1), .ref (q 7), .ref (q 5)]))]) (b := slW q k gd wd se pr) (c := (scW q k ln px cv co B R sx pt rd wt) ++ plW od k ad bd ed kd nb sh mb) (p := bkW a9 b9 c9 k n (fun _ => 0) (bkG n 4)) hD
          refine kxw_vV (As := [.int (nI s9), .int (nI p9), .ref a9]) (rest := []) ⟨hx, hb, hml, hown, hts⟩ (c_SL_put l D k q gd wd se pr (bkW a9 b9 c9 k n (fun _ => 0) (bkG n 4)) a9 4 [.int (nI n), .ref b9, .ref c9] _ rfl (by unfold NWL; simp) rfl s9 p9 (by omega) (by omega)) (cwV 3 hts (gV w_443 w_444 w_445 w_2 w_446) rfl rfl rfl (by decide +kernel) ⟨Nat.le_of_ble_eq_true rfl, Nat.le_of_ble_eq_true rfl⟩) hK hX hPc hDc hS hA (va_recv hK hP (ci := 1) (q0 := 1) rfl rfl) rfl hl.1 rfl (Nat.le_of_ble_eq_true rfl) d_SS_plug_79 ⟨by show 0 + 3 ≤ 3; omega, by show 0 + 263 ≤ 263; omega⟩ (fun _ H9 locs _ hP1 hk1 hS9 => ?_)
          have hP2 : va_P D vwCl ((ssW q k (va_up gd (4 * s9 + p9) (some a9)) wd se pr ln px cv co B R sx pt rd wt ++ plW od k ad bd ed kd nb sh mb) ++ bkW a9 b9 c9 k n (fun _ => 0) (bkG n 4)) H9 := ss_fr (a := [(q 0, .inr (0, [.ref (q 1), .ref (q 7), .ref (q 5)]))]) (b := slW q k gd wd se pr) (c := (scW q k ln px cv co B R sx pt rd wt) ++ plW od k ad bd ed kd nb sh mb) (p := bkW a9 b9 c9 k n (fun _ => 0) (bkG n 4)) (b' := slW q k (va_up gd (4 * s9 + p9) (some a9)) wd se pr) (p' := bkW a9 b9 c9 k n (fun _ => 0) (bkG n 4)) hP hD hk1 hP1
          have hD2 : va_D A ((ssW q k (va_up gd (4 * s9 + p9) (some a9)) wd se pr ln px cv co B R sx pt rd wt ++ plW od k ad bd ed kd nb sh mb) ++ bkW a9 b9 c9 k n (fun _ => 0) (bkG n 4)) := rw_same hD rfl
          have hno : (4 * s9 + p9) ∉ od := fun z => ((hO.2.1 _).mp z).2 h2
          have hpa : ssW q k (va_up gd (4 * s9 + p9) (some a9)) wd se pr ln px cv co B R sx pt rd wt ++ plW (od ++ [(4 * s9 + p9)]) k (ss_up ad (4 * s9 + p9) a9) (ss_up bd (4 * s9 + p9) b9) (ss_up ed (4 * s9 + p9) c9) (ss_up kd (4 * s9 + p9) 3) (ss_up nb (4 * s9 + p9) n) (mshn sh (4 * s9 + p9) n 4) mb = (ssW q k (va_up gd (4 * s9 + p9) (some a9)) wd se pr ln px cv co B R sx pt rd wt ++ plW od k ad bd ed kd nb sh mb) ++ bkW a9 b9 c9 k n (fun _ => 0) (bkG n 4) := pl_add (fun e he => dv_ot3 (fun z => hno (z ▸ he))) (by rw [dvW_3 (by rw [ss_up_s])]; simp only [ss_up_s]; rw [sft_m, sft_z (fun j hj => hz j (by omega))])
          exact nw_retv hx hb hr hlocks d_SS_plug_82 (by show 0 + 3 ≤ 3; omega) (by show 0 + 263 ≤ 263; omega) hS9 (a9, b9, c9) trivial (by show va_P D vwCl (ssW q k (va_up gd (4 * s9 + p9) (some a9)) wd se pr ln px cv co B R sx pt rd wt ++ plW (od ++ [(4 * s9 + p9)]) k (ss_up ad (4 * s9 + p9) a9) (ss_up bd (4 * s9 + p9) b9) (ss_up ed (4 * s9 + p9) c9) (ss_up kd (4 * s9 + p9) 3) (ss_up nb (4 * s9 + p9) n) (mshn sh (4 * s9 + p9) n 4) mb) H9; rw [hpa]; exact hP2) (by show va_D A (ssW q k (va_up gd (4 * s9 + p9) (some a9)) wd se pr ln px cv co B R sx pt rd wt ++ plW (od ++ [(4 * s9 + p9)]) k (ss_up ad (4 * s9 + p9) a9) (ss_up bd (4 * s9 + p9) b9) (ss_up ed (4 * s9 + p9) c9) (ss_up kd (4 * s9 + p9) 3) (ss_up nb (4 * s9 + p9) n) (mshn sh (4 * s9 + p9) n 4) mb); rw [hpa]; exact hD2)
      · have c3 := (bI_0).mp c3
        exfalso; omega
set_option maxHeartbeats 4000000 in
set_option maxRecDepth 100000 in
theorem c_SS_plug4 (l : Launch) (D : va_G) (k : Nat → ClassId) (q : Nat → Nat) (gd : Nat → Option Nat) (wd : Nat → Nat) (se : Nat → Nat) (pr : Nat) (ln : Nat) (px : Nat → Nat) (cv : Nat) (co : Nat) (B : Nat → Nat) (R : Nat → Nat) (sx : Nat) (pt : Nat) (rd : Nat) (wt : Int32) (od : List Nat) (ad bd ed kd nb sh mb : Nat → Nat) (hwd : ∀ j, wd j < 2) (hse : ∀ j, se j < 256) (hpr : pr < 256) (hkd : ∀ j, kd j < 5) (hO : plO od gd ad kd nb sh) (s9 p9 : Nat) (hs9 : s9 < 4) (hp9 : p9 < 4) (b : Int32) (h1 : wd s9 = 1 ∨ p9 = 0) (h2 : kd (4 * s9 + p9) = 0) (hz : ∀ j, j < 256 → mb (256 * (4 * s9 + p9) + j) = 0) : nw_v l y_SS_plug b_SS_plug 5 none { frames := 4, cells := 3, slots := 263, locals := 77 } D (kT k) (ssW q k gd wd se pr ln px cv co B R sx pt rd wt ++ plW od k ad bd ed kd nb sh mb) [.ref (q 0), .int (nI s9), .int (nI p9), .int (nI 4), .int b] (fun (_ : Nat × Nat × Nat) => True) (fun (u : Nat × Nat × Nat) => ssW q k (va_up gd (4 * s9 + p9) (some u.1)) wd se pr ln px cv co B R sx pt rd wt ++ plW (od ++ [(4 * s9 + p9)]) k (ss_up ad (4 * s9 + p9) u.1) (ss_up bd (4 * s9 + p9) u.2.1) (ss_up ed (4 * s9 + p9) u.2.2) (ss_up kd (4 * s9 + p9) 4) nb sh mb) := by
  refine nw_headv (by decide) (Nat.le_of_ble_eq_true rfl) ?_
  intro p e s m below meth c ls A hx hb hr hlocks hml hown hin hts hX hK hA hP hD hS hl
  have hown : s.vm.findClass "SlotScreen" = some m.cls := hown
  have hl : lv_has ls 5 [(0, .ref (q 0)), (1, .int (nI s9)), (2, .int (nI p9)), (3, .int (nI 4)), (4, .int b)] := hl
  refine lv_iload_n hx hb d_SS_plug_0 rfl (lv_at hl 1 rfl) ?_
  refine kr_iS (As := [.int (nI s9)]) (rest := []) ⟨hx, hb, hml, hown, hts⟩ (c_SS_isSlotN l D k s9 (by omega)) (va_cwS 1 hts (gS w_107 w_108 w_1 w_109) rfl rfl rfl (by decide +kernel) ⟨Nat.le_of_ble_eq_true rfl, Nat.le_of_ble_eq_true rfl⟩) hK va_nil rfl hl.1 rfl (Nat.le_of_ble_eq_true rfl) d_SS_plug_1 ⟨Nat.zero_le _, Nat.zero_le _⟩ ?_
  refine lv_if_eq (tgt := 23) hx hb d_SS_plug_4 (by decide) (fun c1 => ?_) (fun c1 => ?_)
  · have c1 := (bI_0).mp c1
    exfalso; omega
  · have c1 := mt (bI_0).mpr c1
    have c1 := Classical.not_not.mp c1
    refine lv_iload_n hx hb d_SS_plug_7 rfl (lv_at hl 2 rfl) ?_
    refine kr_iS (As := [.int (nI p9)]) (rest := []) ⟨hx, hb, hml, hown, hts⟩ (c_SS_isPartN l D k p9 (by omega)) (va_cwS 1 hts (gS w_110 w_111 w_1 w_112) rfl rfl rfl (by decide +kernel) ⟨Nat.le_of_ble_eq_true rfl, Nat.le_of_ble_eq_true rfl⟩) hK va_nil rfl hl.1 rfl (Nat.le_of_ble_eq_true rfl) d_SS_plug_8 ⟨Nat.zero_le _, Nat.zero_le _⟩ ?_
    refine lv_if_eq (tgt := 23) hx hb d_SS_plug_11 (by decide) (fun c2 => ?_) (fun c2 => ?_)
    · have c2 := (bI_0).mp c2
      exfalso; omega
    · have c2 := mt (bI_0).mpr c2
      have c2 := Classical.not_not.mp c2
      refine lv_iload_n hx hb d_SS_plug_14 rfl (lv_at hl 3 rfl) ?_
      refine lv_iload hx hb d_SS_plug_15 (lv_at hl 4 rfl) ?_
      refine kr_iS (As := [.int (nI 4), .int b]) (rest := []) ⟨hx, hb, hml, hown, hts⟩ (c_SS_isDeviceN l D k 4 (by omega) b) (va_cwS 2 hts (gS w_389 w_390 w_1 w_391) rfl rfl rfl (by decide +kernel) ⟨Nat.le_of_ble_eq_true rfl, Nat.le_of_ble_eq_true rfl⟩) hK va_nil rfl hl.1 rfl (Nat.le_of_ble_eq_true rfl) d_SS_plug_17 ⟨Nat.zero_le _, Nat.zero_le _⟩ ?_
      refine lv_if_ne (tgt := 33) hx hb d_SS_plug_20 (by decide) (fun c3 => ?_) (fun c3 => ?_)
      · have c3 := mt (bI_0).mpr c3
        have c3 := Classical.not_not.mp c3
        refine lv_aload_n hx hb d_SS_plug_33 rfl (lv_at hl 0 rfl) ?_
        refine va_get (D := D) (ci := 0) (v := .ref (q 1)) (C := R_SS) (T := T_SS) (N := 3) hx hb hts in_SS hown hK hP 0 rfl rfl 0 (by decide) (hts _ w_93) (fun _ h9 => h9) rfl d_SS_plug_34 ?_
        refine lv_iload_n hx hb d_SS_plug_37 rfl (lv_at hl 1 rfl) ?_
        refine lv_iload_n hx hb d_SS_plug_38 rfl (lv_at hl 2 rfl) ?_
        refine kr_iV (As := [.int (nI s9), .int (nI p9)]) (rest := []) ⟨hx, hb, hml, hown, hts⟩ (c_SL_hasPart l D k q gd wd se pr hwd hse (by omega) s9 p9 (by omega) (by omega)) (cwV 2 hts (gV w_393 w_394 w_395 w_2 w_396) rfl rfl rfl (by decide +kernel) ⟨Nat.le_of_ble_eq_true rfl, Nat.le_of_ble_eq_true rfl⟩) hK (hP.sub (ws' := (slW q k gd wd se pr)) [1, 2, 3, 4] rfl) (va_recv hK hP (ci := 1) (q0 := 1) rfl rfl) rfl hl.1 rfl (Nat.le_of_ble_eq_true rfl) d_SS_plug_39 ⟨Nat.zero_le _, Nat.zero_le _⟩ ?_
        refine lv_if_eq (tgt := 57) hx hb d_SS_plug_42 (by decide) (fun c4 => ?_) (fun c4 => ?_)
        · have c4 := (bI_0).mp c4
          exfalso; omega
        · have c4 := mt (bI_0).mpr c4
          have c4 := Classical.not_not.mp c4
          refine lv_aload_n hx hb d_SS_plug_45 rfl (lv_at hl 0 rfl) ?_
          refine va_get (D := D) (ci := 0) (v := .ref (q 1)) (C := R_SS) (T := T_SS) (N := 3) hx hb hts in_SS hown hK hP 0 rfl rfl 0 (by decide) (hts _ w_93) (fun _ h9 => h9) rfl d_SS_plug_46 ?_
          refine lv_iload_n hx hb d_SS_plug_49 rfl (lv_at hl 1 rfl) ?_
          refine lv_iload_n hx hb d_SS_plug_50 rfl (lv_at hl 2 rfl) ?_
          refine kr_qV (As := [.int (nI s9), .int (nI p9)]) (rest := []) ⟨hx, hb, hml, hown, hts⟩ (c_SL_deviceIn l D k q gd wd se pr s9 p9 (by omega) (by omega)) (cwV 2 hts (gV w_116 w_117 w_118 w_2 w_119) rfl rfl rfl (by decide +kernel) ⟨Nat.le_of_ble_eq_true rfl, Nat.le_of_ble_eq_true rfl⟩) hK (hP.sub (ws' := (slW q k gd wd se pr)) [1, 2, 3, 4] rfl) (va_recv hK hP (ci := 1) (q0 := 1) rfl rfl) rfl hl.1 rfl (Nat.le_of_ble_eq_true rfl) d_SS_plug_51 ⟨Nat.zero_le _, Nat.zero_le _⟩ ?_
          have hg := hO.1 (4 * s9 + p9) (by omega)
          refine ss_rv (y := .null) (by rw [hg, if_pos h2]; rfl) ?_
          refine lv_ifnullN (tgt := 67) hx hb d_SS_plug_54 (by decide) ?_
          refine lv_aload_n hx hb d_SS_plug_67 rfl (lv_at hl 0 rfl) ?_
          refine va_get (D := D) (ci := 0) (v := .ref (q 1)) (C := R_SS) (T := T_SS) (N := 3) hx hb hts in_SS hown hK hP 0 rfl rfl 0 (by decide) (hts _ w_93) (fun _ h9 => h9) rfl d_SS_plug_68 ?_
          refine lv_iload_n hx hb d_SS_plug_71 rfl (lv_at hl 1 rfl) ?_
          refine lv_iload_n hx hb d_SS_plug_72 rfl (lv_at hl 2 rfl) ?_
          refine lv_iload_n hx hb d_SS_plug_73 rfl (lv_at hl 3 rfl) ?_
          refine lv_iload hx hb d_SS_plug_74 (lv_at hl 4 rfl) ?_
          refine kn_rS (As := [.int (nI 4), .int b]) (rest := [.int (nI p9), .int (nI s9), .ref (q 1)]) ⟨hx, hb, hml, hown, hts⟩ (c_SS_newDevice4 l D k b) (va_cwS 2 hts (gS w_398 w_399 w_1 w_400) rfl rfl rfl (by decide +kernel) ⟨Nat.le_of_ble_eq_true rfl, Nat.le_of_ble_eq_true rfl⟩) hK hX hS hA rfl hl.1 rfl (Nat.le_of_ble_eq_true rfl) d_SS_plug_76 ⟨by show 0 + 3 ≤ 3; omega, by show 0 + 263 ≤ 263; omega⟩ (fun u9 a9 H9 locs _ hP1 hD1 hk1 hS9 => ?_)
          obtain ⟨b9, rfl⟩ : ∃ z, z = u9 := ⟨_, rfl⟩
          obtain ⟨hP, hD⟩ := nw_app (w1 := raW a9 b9 k 64 63 (fun _ => 0)) hP hD hk1 hP1 hD1 (fun q h => hA q (Nat.le_trans hS.1 h))
          clear hS hP1 hD1 hk1
          have hS := hS9
          clear hS9
          generalize H9 = H at hP hS ⊢
          have hPc : va_P D vwCl (slW q k gd wd se pr ++ raW a9 b9 k 64 63 (fun _ => 0)) H := ss_subP (a := [(q 0, .inr (0, [.ref (q 1), .ref (q 7), .ref (q 5)]))]) (b := slW q k gd wd se pr) (c := (scW q k ln px cv co B R sx pt rd wt) ++ plW od k ad bd ed kd nb sh mb) (p := raW a9 b9 k 64 63 (fun _ => 0)) hP
          have hDc : va_D A (slW q k gd wd se pr ++ raW a9 b9 k 64 63 (fun _ => 0)) := ss_subD (a := [(q 0, .inr (0, [.ref (q 1), .ref (q 7), .ref (q 5)]))]) (b := slW q k gd wd se pr) (c := (scW q k ln px cv co B R sx pt rd wt) ++ plW od k ad bd ed kd nb sh mb) (p := raW a9 b9 k 64 63 (fun _ => 0)) hD
          refine kxw_vV (As := [.int (nI s9), .int (nI p9), .ref a9]) (rest := []) ⟨hx, hb, hml, hown, hts⟩ (c_SL_put l D k q gd wd se pr (raW a9 b9 k 64 63 (fun _ => 0)) a9 5 [.ref b9, .int (nI 63)] _ rfl (by unfold NWL; simp) rfl s9 p9 (by omega) (by omega)) (cwV 3 hts (gV w_443 w_444 w_445 w_2 w_446) rfl rfl rfl (by decide +kernel) ⟨Nat.le_of_ble_eq_true rfl, Nat.le_of_ble_eq_true rfl⟩) hK hX hPc hDc hS hA (va_recv hK hP (ci := 1) (q0 := 1) rfl rfl) rfl hl.1 rfl (Nat.le_of_ble_eq_true rfl) d_SS_plug_79 ⟨by show 0 + 3 ≤ 3; omega, by show 0 + 263 ≤ 263; omega⟩ (fun _ H9 locs _ hP1 hk1 hS9 => ?_)
          have hP2 : va_P D vwCl ((ssW q k (va_up gd (4 * s9 + p9) (some a9)) wd se pr ln px cv co B R sx pt rd wt ++ plW od k ad bd ed kd nb sh mb) ++ raW a9 b9 k 64 63 (fun _ => 0)) H9 := ss_fr (a := [(q 0, .inr (0, [.ref (q 1), .ref (q 7), .ref (q 5)]))]) (b := slW q k gd wd se pr) (c := (scW q k ln px cv co B R sx pt rd wt) ++ plW od k ad bd ed kd nb sh mb) (p := raW a9 b9 k 64 63 (fun _ => 0)) (b' := slW q k (va_up gd (4 * s9 + p9) (some a9)) wd se pr) (p' := raW a9 b9 k 64 63 (fun _ => 0)) hP hD hk1 hP1
          have hD2 : va_D A ((ssW q k (va_up gd (4 * s9 + p9) (some a9)) wd se pr ln px cv co B R sx pt rd wt ++ plW od k ad bd ed kd nb sh mb) ++ raW a9 b9 k 64 63 (fun _ => 0)) := rw_same hD rfl
          have hno : (4 * s9 + p9) ∉ od := fun z => ((hO.2.1 _).mp z).2 h2
          have hpa : ssW q k (va_up gd (4 * s9 + p9) (some a9)) wd se pr ln px cv co B R sx pt rd wt ++ plW (od ++ [(4 * s9 + p9)]) k (ss_up ad (4 * s9 + p9) a9) (ss_up bd (4 * s9 + p9) b9) (ss_up ed (4 * s9 + p9) 0) (ss_up kd (4 * s9 + p9) 4) nb sh mb = (ssW q k (va_up gd (4 * s9 + p9) (some a9)) wd se pr ln px cv co B R sx pt rd wt ++ plW od k ad bd ed kd nb sh mb) ++ raW a9 b9 k 64 63 (fun _ => 0) := pl_add (fun e he => dv_oth (fun z => hno (z ▸ he))) (by rw [dvW_4 (by rw [ss_up_s])]; simp only [ss_up_s]; rw [sft_z (fun j hj => hz j (by omega))])
          exact nw_retv hx hb hr hlocks d_SS_plug_82 (by show 0 + 3 ≤ 3; omega) (by show 0 + 263 ≤ 263; omega) hS9 (a9, b9, 0) trivial (by show va_P D vwCl (ssW q k (va_up gd (4 * s9 + p9) (some a9)) wd se pr ln px cv co B R sx pt rd wt ++ plW (od ++ [(4 * s9 + p9)]) k (ss_up ad (4 * s9 + p9) a9) (ss_up bd (4 * s9 + p9) b9) (ss_up ed (4 * s9 + p9) 0) (ss_up kd (4 * s9 + p9) 4) nb sh mb) H9; rw [hpa]; exact hP2) (by show va_D A (ssW q k (va_up gd (4 * s9 + p9) (some a9)) wd se pr ln px cv co B R sx pt rd wt ++ plW (od ++ [(4 * s9 + p9)]) k (ss_up ad (4 * s9 + p9) a9) (ss_up bd (4 * s9 + p9) b9) (ss_up ed (4 * s9 + p9) 0) (ss_up kd (4 * s9 + p9) 4) nb sh mb); rw [hpa]; exact hD2)
      · have c3 := (bI_0).mp c3
        exfalso; omega
