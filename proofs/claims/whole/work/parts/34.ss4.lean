set_option maxHeartbeats 4000000 in
set_option maxRecDepth 100000 in
theorem c_SS_burnb (l : Launch) (D : va_G) (k : Nat → ClassId) (q : Nat → Nat) (gd : Nat → Option Nat) (wd : Nat → Nat) (se : Nat → Nat) (pr : Nat) (ln : Nat) (px : Nat → Nat) (cv : Nat) (co : Nat) (B : Nat → Nat) (R : Nat → Nat) (sx : Nat) (pt : Nat) (rd : Nat) (wt : Int32) (x y z v : Int32) (hx9 : ¬ (0 ≤ x.toInt ∧ x.toInt ≤ 3 ∧ 0 ≤ y.toInt ∧ y.toInt ≤ 3 ∧ 0 ≤ v.toInt ∧ v.toInt ≤ 255)) : rw_i l y_SS_burn b_SS_burn 6 (some .boolean) { frames := 2, cells := 0, slots := 0, locals := 62 } D (kT k) (ssW q k gd wd se pr ln px cv co B R sx pt rd wt) [.ref (q 0), .int x, .int y, .int z, .int v] (fun (r : Int32) (_ : Unit) => r = nI 0) (fun (_ : Unit) => (ssW q k gd wd se pr ln px cv co B R sx pt rd wt)) := by
  refine rw_headi (by decide) (Nat.le_of_ble_eq_true rfl) ?_
  intro p e s m below meth c ls A hx hb hr hlocks hml hown hts hK hA hP hD hS hl
  have hown : s.vm.findClass "SlotScreen" = some m.cls := hown
  have hl : lv_has ls 6 [(0, .ref (q 0)), (1, .int x), (2, .int y), (3, .int z), (4, .int v)] := hl
  refine lv_iload_n hx hb d_SS_burn_0 rfl (lv_at hl 1 rfl) ?_
  refine kr_iS (As := [.int x]) (rest := []) ⟨hx, hb, hml, hown, hts⟩ (c_SS_isSlot l D k x) (va_cwS 1 hts (gS w_107 w_108 w_1 w_109) rfl rfl rfl (by decide +kernel) ⟨Nat.le_of_ble_eq_true rfl, Nat.le_of_ble_eq_true rfl⟩) hK va_nil rfl hl.1 rfl (Nat.le_of_ble_eq_true rfl) d_SS_burn_1 ⟨Nat.zero_le _, Nat.zero_le _⟩ ?_
  refine lv_if_eq (tgt := 22) hx hb d_SS_burn_4 (by decide) (fun c1 => ?_) (fun c1 => ?_)
  · have c1 := (bI_0).mp c1
    refine lv_iconst (v := nI 0) hx hb d_SS_burn_22 (by decide +kernel) ?_
    exact rw_retz hx hb hr hlocks d_SS_burn_23 (by decide +kernel) hS () (rfl) hP
  · have c1 := mt (bI_0).mpr c1
    have c1 := Classical.not_not.mp c1
    refine lv_iload_n hx hb d_SS_burn_7 rfl (lv_at hl 2 rfl) ?_
    refine kr_iS (As := [.int y]) (rest := []) ⟨hx, hb, hml, hown, hts⟩ (c_SS_isPart l D k y) (va_cwS 1 hts (gS w_110 w_111 w_1 w_112) rfl rfl rfl (by decide +kernel) ⟨Nat.le_of_ble_eq_true rfl, Nat.le_of_ble_eq_true rfl⟩) hK va_nil rfl hl.1 rfl (Nat.le_of_ble_eq_true rfl) d_SS_burn_8 ⟨Nat.zero_le _, Nat.zero_le _⟩ ?_
    refine lv_if_eq (tgt := 22) hx hb d_SS_burn_11 (by decide) (fun c2 => ?_) (fun c2 => ?_)
    · have c2 := (bI_0).mp c2
      refine lv_iconst (v := nI 0) hx hb d_SS_burn_22 (by decide +kernel) ?_
      exact rw_retz hx hb hr hlocks d_SS_burn_23 (by decide +kernel) hS () (rfl) hP
    · have c2 := mt (bI_0).mpr c2
      have c2 := Classical.not_not.mp c2
      refine lv_iload hx hb d_SS_burn_14 (lv_at hl 4 rfl) ?_
      refine kr_iS (As := [.int v]) (rest := []) ⟨hx, hb, hml, hown, hts⟩ (c_SS_isByte l D k v) (va_cwS 1 hts (gS w_113 w_114 w_1 w_115) rfl rfl rfl (by decide +kernel) ⟨Nat.le_of_ble_eq_true rfl, Nat.le_of_ble_eq_true rfl⟩) hK va_nil rfl hl.1 rfl (Nat.le_of_ble_eq_true rfl) d_SS_burn_16 ⟨Nat.zero_le _, Nat.zero_le _⟩ ?_
      refine lv_if_ne (tgt := 24) hx hb d_SS_burn_19 (by decide) (fun c3 => ?_) (fun c3 => ?_)
      · have c3 := mt (bI_0).mpr c3
        have c3 := Classical.not_not.mp c3
        exfalso; omega
      · have c3 := (bI_0).mp c3
        refine lv_iconst (v := nI 0) hx hb d_SS_burn_22 (by decide +kernel) ?_
        exact rw_retz hx hb hr hlocks d_SS_burn_23 (by decide +kernel) hS () (rfl) hP
set_option maxHeartbeats 4000000 in
set_option maxRecDepth 100000 in
theorem c_SS_burn2 (l : Launch) (D : va_G) (k : Nat → ClassId) (q : Nat → Nat) (gd : Nat → Option Nat) (wd : Nat → Nat) (se : Nat → Nat) (pr : Nat) (ln : Nat) (px : Nat → Nat) (cv : Nat) (co : Nat) (B : Nat → Nat) (R : Nat → Nat) (sx : Nat) (pt : Nat) (rd : Nat) (wt : Int32) (od : List Nat) (ad bd ed kd nb sh mb : Nat → Nat) (hwd : ∀ j, wd j < 2) (hse : ∀ j, se j < 256) (hpr : pr < 256) (hO : plO od gd ad kd nb sh) (hkd : ∀ j, kd j < 5) (hmb : ∀ j, mb j < 256) (s9 p9 v : Nat) (hs9 : s9 < 4) (hp9 : p9 < 4) (hv : v < 256) (hk : kd (4 * s9 + p9) = 2) (x : Nat) (hx9 : x < 256) : xw_i l y_SS_burn b_SS_burn 6 (some .boolean) { frames := 2, cells := 0, slots := 0, locals := 62 } D (kT k) (ssW q k gd wd se pr ln px cv co B R sx pt rd wt ++ plW od k ad bd ed kd nb sh mb) [.ref (q 0), .int (nI s9), .int (nI p9), .int (nI x), .int (nI v)] (fun (r : Int32) (_ : Unit) => r = nI 1) (fun (_ : Unit) => (ssW q k gd wd se pr ln px cv co B R sx pt rd wt ++ plW od k ad bd ed kd nb sh (ss_up mb (256 * (4 * s9 + p9) + x) v))) := by
  refine xw_headi (by decide) (Nat.le_of_ble_eq_true rfl) ?_
  intro p e s m below meth c ls A hx hb hr hlocks hml hown hts hX hK hA hP hD hS hl
  have hown : s.vm.findClass "SlotScreen" = some m.cls := hown
  have hl : lv_has ls 6 [(0, .ref (q 0)), (1, .int (nI s9)), (2, .int (nI p9)), (3, .int (nI x)), (4, .int (nI v))] := hl
  refine lv_iload_n hx hb d_SS_burn_0 rfl (lv_at hl 1 rfl) ?_
  refine kr_iS (As := [.int (nI s9)]) (rest := []) ⟨hx, hb, hml, hown, hts⟩ (c_SS_isSlotN l D k s9 (by omega)) (va_cwS 1 hts (gS w_107 w_108 w_1 w_109) rfl rfl rfl (by decide +kernel) ⟨Nat.le_of_ble_eq_true rfl, Nat.le_of_ble_eq_true rfl⟩) hK va_nil rfl hl.1 rfl (Nat.le_of_ble_eq_true rfl) d_SS_burn_1 ⟨Nat.zero_le _, Nat.zero_le _⟩ ?_
  refine lv_if_eq (tgt := 22) hx hb d_SS_burn_4 (by decide) (fun c1 => ?_) (fun c1 => ?_)
  · have c1 := (bI_0).mp c1
    exfalso; omega
  · have c1 := mt (bI_0).mpr c1
    have c1 := Classical.not_not.mp c1
    refine lv_iload_n hx hb d_SS_burn_7 rfl (lv_at hl 2 rfl) ?_
    refine kr_iS (As := [.int (nI p9)]) (rest := []) ⟨hx, hb, hml, hown, hts⟩ (c_SS_isPartN l D k p9 (by omega)) (va_cwS 1 hts (gS w_110 w_111 w_1 w_112) rfl rfl rfl (by decide +kernel) ⟨Nat.le_of_ble_eq_true rfl, Nat.le_of_ble_eq_true rfl⟩) hK va_nil rfl hl.1 rfl (Nat.le_of_ble_eq_true rfl) d_SS_burn_8 ⟨Nat.zero_le _, Nat.zero_le _⟩ ?_
    refine lv_if_eq (tgt := 22) hx hb d_SS_burn_11 (by decide) (fun c2 => ?_) (fun c2 => ?_)
    · have c2 := (bI_0).mp c2
      exfalso; omega
    · have c2 := mt (bI_0).mpr c2
      have c2 := Classical.not_not.mp c2
      refine lv_iload hx hb d_SS_burn_14 (lv_at hl 4 rfl) ?_
      refine kr_iS (As := [.int (nI v)]) (rest := []) ⟨hx, hb, hml, hown, hts⟩ (c_SS_isByteN l D k v (by omega)) (va_cwS 1 hts (gS w_113 w_114 w_1 w_115) rfl rfl rfl (by decide +kernel) ⟨Nat.le_of_ble_eq_true rfl, Nat.le_of_ble_eq_true rfl⟩) hK va_nil rfl hl.1 rfl (Nat.le_of_ble_eq_true rfl) d_SS_burn_16 ⟨Nat.zero_le _, Nat.zero_le _⟩ ?_
      refine lv_if_ne (tgt := 24) hx hb d_SS_burn_19 (by decide) (fun c3 => ?_) (fun c3 => ?_)
      · have c3 := mt (bI_0).mpr c3
        have c3 := Classical.not_not.mp c3
        refine lv_aload_n hx hb d_SS_burn_24 rfl (lv_at hl 0 rfl) ?_
        refine va_get (D := D) (ci := 0) (v := .ref (q 1)) (C := R_SS) (T := T_SS) (N := 3) hx hb hts in_SS hown hK hP 0 rfl rfl 0 (by decide) (hts _ w_93) (fun _ h9 => h9) rfl d_SS_burn_25 ?_
        refine lv_iload_n hx hb d_SS_burn_28 rfl (lv_at hl 1 rfl) ?_
        refine lv_iload_n hx hb d_SS_burn_29 rfl (lv_at hl 2 rfl) ?_
        refine kr_qV (As := [.int (nI s9), .int (nI p9)]) (rest := []) ⟨hx, hb, hml, hown, hts⟩ (c_SL_deviceIn l D k q gd wd se pr s9 p9 (by omega) (by omega)) (cwV 2 hts (gV w_116 w_117 w_118 w_2 w_119) rfl rfl rfl (by decide +kernel) ⟨Nat.le_of_ble_eq_true rfl, Nat.le_of_ble_eq_true rfl⟩) hK (hP.sub (ws' := (slW q k gd wd se pr)) [1, 2, 3, 4] rfl) (va_recv hK hP (ci := 1) (q0 := 1) rfl rfl) rfl hl.1 rfl (Nat.le_of_ble_eq_true rfl) d_SS_burn_30 ⟨Nat.zero_le _, Nat.zero_le _⟩ ?_
        have hg := hO.1 (4 * s9 + p9) (by omega)
        have hk5 := hkd (4 * s9 + p9)
        by_cases h0 : kd (4 * s9 + p9) = 0
        · refine ss_rv (y := .null) (by rw [hg, if_pos h0]; rfl) ?_
          refine lv_astoreN (lv' := [(5, .null), (0, .ref (q 0)), (1, .int (nI s9)), (2, .int (nI p9)), (3, .int (nI x)), (4, .int (nI v))]) hx hb d_SS_burn_33 hl (by decide) rfl (fun ls hl => ?_)
          refine lv_aloadN hx hb d_SS_burn_35 (lv_at hl 0 rfl) ?_
          refine lv_ifnullN (tgt := 55) hx hb d_SS_burn_37 (by decide) ?_
          exfalso; omega
        have hdo : (4 * s9 + p9) ∈ od := (hO.2.1 _).mpr ⟨by omega, h0⟩
        have hin : ∀ x ∈ dvW k ad bd ed kd nb sh mb (4 * s9 + p9), x ∈ (ssW q k gd wd se pr ln px cv co B R sx pt rd wt ++ plW od k ad bd ed kd nb sh mb) := fun x hx => List.mem_append_right _ (plW_in hdo x hx)
        refine ss_rv (y := .ref (ad (4 * s9 + p9))) (by rw [hg, if_neg h0]; rfl) ?_
        by_cases h_1 : kd (4 * s9 + p9) = 1
        · skip
          refine lv_astore (lv' := [(5, .ref (ad (4 * s9 + p9))), (0, .ref (q 0)), (1, .int (nI s9)), (2, .int (nI p9)), (3, .int (nI x)), (4, .int (nI v))]) hx hb d_SS_burn_33 hl (by decide) rfl (fun ls hl => ?_)
          refine lv_aload hx hb d_SS_burn_35 (lv_at hl 0 rfl) ?_
          refine lv_ifnull hx hb d_SS_burn_37 ?_
          refine lv_aload hx hb d_SS_burn_40 (lv_at hl 0 rfl) ?_
          refine lv_iload_n hx hb d_SS_burn_42 rfl (lv_at hl 4 rfl) ?_
          refine lv_iload hx hb d_SS_burn_43 (lv_at hl 5 rfl) ?_
          exfalso; omega
        by_cases h_2 : kd (4 * s9 + p9) = 2
        · skip
          refine lv_astore (lv' := [(5, .ref (ad (4 * s9 + p9))), (0, .ref (q 0)), (1, .int (nI s9)), (2, .int (nI p9)), (3, .int (nI x)), (4, .int (nI v))]) hx hb d_SS_burn_33 hl (by decide) rfl (fun ls hl => ?_)
          refine lv_aload hx hb d_SS_burn_35 (lv_at hl 0 rfl) ?_
          refine lv_ifnull hx hb d_SS_burn_37 ?_
          refine lv_aload hx hb d_SS_burn_40 (lv_at hl 0 rfl) ?_
          refine lv_iload_n hx hb d_SS_burn_42 rfl (lv_at hl 4 rfl) ?_
          refine lv_iload hx hb d_SS_burn_43 (lv_at hl 5 rfl) ?_
          have hPd := va_mem hP (fun x hx => hin x ((dvW_2 h_2).symm ▸ hx))
          have hDd : va_D A _ := (dvW_2 h_2) ▸ va_Dm hD hdo
          refine kxw_iU (As := [.int (nI x), .int (nI v)]) (rest := []) ⟨hx, hb, hml, hown, hts⟩ (c_RO_fixi l D k (ad (4 * s9 + p9)) (bd (4 * s9 + p9)) (sft mb (256 * (4 * s9 + p9)) 256) x v (by omega)) (va_cwO (owner := "SlotScreen$Device") (x := y_DV_fix) 2 hts (gO w_120 w_122 w_121 w_127 w_128 w_13 w_129) rfl rfl rfl w_133 (by decide +kernel) ⟨Nat.le_of_ble_eq_true rfl, Nat.le_of_ble_eq_true rfl⟩) hK hX hPd hDd hS hA (va_recv hK hPd (ci := 6) (q0 := 0) rfl rfl) rfl hl.1 rfl (Nat.le_of_ble_eq_true rfl) d_SS_burn_45 ⟨Nat.zero_le _, Nat.zero_le _⟩ (fun _ _ H9 locs h9 hP1 hk1 hS9 => ?_)
          subst h9
          rw [← dvW_2 (k := k) (ad := ad) (bd := bd) (ed := ed) (nb := nb) (sh := sh) (mb := mb) h_2] at hk1
          rw [sft_u (by omega), ← dvW_2 (k := k) (ad := ad) (bd := bd) (ed := ed) (nb := nb) (sh := sh) h_2] at hP1
          obtain ⟨hP, hD⟩ := pl_mb hO hP hD hdo (by omega) hk1 hP1
          have hS := hS9
          generalize H9 = H at hP hS ⊢
          have hP : va_P D vwCl (ssW q k gd wd se pr ln px cv co B R sx pt rd wt ++ plW od k ad bd ed kd nb sh (ss_up mb (256 * (4 * s9 + p9) + x) v)) H := hP
          have hD : va_D A (ssW q k gd wd se pr ln px cv co B R sx pt rd wt ++ plW od k ad bd ed kd nb sh (ss_up mb (256 * (4 * s9 + p9) + x) v)) := hD
          refine lv_if_eq (tgt := 55) hx hb d_SS_burn_48 (by decide) (fun c4 => ?_) (fun c4 => ?_)
          · have c4 := (n_eq0 (by omega)).mp c4
            exfalso; omega
          · have c4 := mt (n_eq0 (by omega)).mpr c4
            refine lv_iconst (v := nI 1) hx hb d_SS_burn_51 (by decide +kernel) ?_
            refine lv_goto (tgt := 56) hx hb d_SS_burn_52 (by decide) ?_
            exact rw_retz hx hb hr hlocks d_SS_burn_56 (by decide +kernel) hS () (rfl) hP
        by_cases h_3 : kd (4 * s9 + p9) = 3
        · skip
          obtain ⟨hn1, hn2, hn3⟩ := hO.2.2.2 (4 * s9 + p9) (by omega) h_3
          refine lv_astore (lv' := [(5, .ref (ad (4 * s9 + p9))), (0, .ref (q 0)), (1, .int (nI s9)), (2, .int (nI p9)), (3, .int (nI x)), (4, .int (nI v))]) hx hb d_SS_burn_33 hl (by decide) rfl (fun ls hl => ?_)
          refine lv_aload hx hb d_SS_burn_35 (lv_at hl 0 rfl) ?_
          refine lv_ifnull hx hb d_SS_burn_37 ?_
          refine lv_aload hx hb d_SS_burn_40 (lv_at hl 0 rfl) ?_
          refine lv_iload_n hx hb d_SS_burn_42 rfl (lv_at hl 4 rfl) ?_
          refine lv_iload hx hb d_SS_burn_43 (lv_at hl 5 rfl) ?_
          exfalso; omega
        have h_4 : kd (4 * s9 + p9) = 4 := by omega
        refine lv_astore (lv' := [(5, .ref (ad (4 * s9 + p9))), (0, .ref (q 0)), (1, .int (nI s9)), (2, .int (nI p9)), (3, .int (nI x)), (4, .int (nI v))]) hx hb d_SS_burn_33 hl (by decide) rfl (fun ls hl => ?_)
        refine lv_aload hx hb d_SS_burn_35 (lv_at hl 0 rfl) ?_
        refine lv_ifnull hx hb d_SS_burn_37 ?_
        refine lv_aload hx hb d_SS_burn_40 (lv_at hl 0 rfl) ?_
        refine lv_iload_n hx hb d_SS_burn_42 rfl (lv_at hl 4 rfl) ?_
        refine lv_iload hx hb d_SS_burn_43 (lv_at hl 5 rfl) ?_
        exfalso; omega
      · have c3 := (bI_0).mp c3
        exfalso; omega
set_option maxHeartbeats 4000000 in
set_option maxRecDepth 100000 in
theorem c_SS_burn3 (l : Launch) (D : va_G) (k : Nat → ClassId) (q : Nat → Nat) (gd : Nat → Option Nat) (wd : Nat → Nat) (se : Nat → Nat) (pr : Nat) (ln : Nat) (px : Nat → Nat) (cv : Nat) (co : Nat) (B : Nat → Nat) (R : Nat → Nat) (sx : Nat) (pt : Nat) (rd : Nat) (wt : Int32) (od : List Nat) (ad bd ed kd nb sh mb : Nat → Nat) (hwd : ∀ j, wd j < 2) (hse : ∀ j, se j < 256) (hpr : pr < 256) (hO : plO od gd ad kd nb sh) (hkd : ∀ j, kd j < 5) (hmb : ∀ j, mb j < 256) (s9 p9 v : Nat) (hs9 : s9 < 4) (hp9 : p9 < 4) (hv : v < 256) (hk : kd (4 * s9 + p9) = 3) (x : Nat) (hx9 : x < 32 * nb (4 * s9 + p9)) : xw_i l y_SS_burn b_SS_burn 6 (some .boolean) { frames := 2, cells := 0, slots := 0, locals := 62 } D (kT k) (ssW q k gd wd se pr ln px cv co B R sx pt rd wt ++ plW od k ad bd ed kd nb sh mb) [.ref (q 0), .int (nI s9), .int (nI p9), .int (nI x), .int (nI v)] (fun (r : Int32) (_ : Unit) => r = nI 1) (fun (_ : Unit) => (ssW q k gd wd se pr ln px cv co B R sx pt rd wt ++ plW od k ad bd ed kd nb sh (ss_up mb (256 * (4 * s9 + p9) + x) v))) := by
  refine xw_headi (by decide) (Nat.le_of_ble_eq_true rfl) ?_
  intro p e s m below meth c ls A hx hb hr hlocks hml hown hts hX hK hA hP hD hS hl
  have hown : s.vm.findClass "SlotScreen" = some m.cls := hown
  have hl : lv_has ls 6 [(0, .ref (q 0)), (1, .int (nI s9)), (2, .int (nI p9)), (3, .int (nI x)), (4, .int (nI v))] := hl
  refine lv_iload_n hx hb d_SS_burn_0 rfl (lv_at hl 1 rfl) ?_
  refine kr_iS (As := [.int (nI s9)]) (rest := []) ⟨hx, hb, hml, hown, hts⟩ (c_SS_isSlotN l D k s9 (by omega)) (va_cwS 1 hts (gS w_107 w_108 w_1 w_109) rfl rfl rfl (by decide +kernel) ⟨Nat.le_of_ble_eq_true rfl, Nat.le_of_ble_eq_true rfl⟩) hK va_nil rfl hl.1 rfl (Nat.le_of_ble_eq_true rfl) d_SS_burn_1 ⟨Nat.zero_le _, Nat.zero_le _⟩ ?_
  refine lv_if_eq (tgt := 22) hx hb d_SS_burn_4 (by decide) (fun c1 => ?_) (fun c1 => ?_)
  · have c1 := (bI_0).mp c1
    exfalso; omega
  · have c1 := mt (bI_0).mpr c1
    have c1 := Classical.not_not.mp c1
    refine lv_iload_n hx hb d_SS_burn_7 rfl (lv_at hl 2 rfl) ?_
    refine kr_iS (As := [.int (nI p9)]) (rest := []) ⟨hx, hb, hml, hown, hts⟩ (c_SS_isPartN l D k p9 (by omega)) (va_cwS 1 hts (gS w_110 w_111 w_1 w_112) rfl rfl rfl (by decide +kernel) ⟨Nat.le_of_ble_eq_true rfl, Nat.le_of_ble_eq_true rfl⟩) hK va_nil rfl hl.1 rfl (Nat.le_of_ble_eq_true rfl) d_SS_burn_8 ⟨Nat.zero_le _, Nat.zero_le _⟩ ?_
    refine lv_if_eq (tgt := 22) hx hb d_SS_burn_11 (by decide) (fun c2 => ?_) (fun c2 => ?_)
    · have c2 := (bI_0).mp c2
      exfalso; omega
    · have c2 := mt (bI_0).mpr c2
      have c2 := Classical.not_not.mp c2
      refine lv_iload hx hb d_SS_burn_14 (lv_at hl 4 rfl) ?_
      refine kr_iS (As := [.int (nI v)]) (rest := []) ⟨hx, hb, hml, hown, hts⟩ (c_SS_isByteN l D k v (by omega)) (va_cwS 1 hts (gS w_113 w_114 w_1 w_115) rfl rfl rfl (by decide +kernel) ⟨Nat.le_of_ble_eq_true rfl, Nat.le_of_ble_eq_true rfl⟩) hK va_nil rfl hl.1 rfl (Nat.le_of_ble_eq_true rfl) d_SS_burn_16 ⟨Nat.zero_le _, Nat.zero_le _⟩ ?_
      refine lv_if_ne (tgt := 24) hx hb d_SS_burn_19 (by decide) (fun c3 => ?_) (fun c3 => ?_)
      · have c3 := mt (bI_0).mpr c3
        have c3 := Classical.not_not.mp c3
        refine lv_aload_n hx hb d_SS_burn_24 rfl (lv_at hl 0 rfl) ?_
        refine va_get (D := D) (ci := 0) (v := .ref (q 1)) (C := R_SS) (T := T_SS) (N := 3) hx hb hts in_SS hown hK hP 0 rfl rfl 0 (by decide) (hts _ w_93) (fun _ h9 => h9) rfl d_SS_burn_25 ?_
        refine lv_iload_n hx hb d_SS_burn_28 rfl (lv_at hl 1 rfl) ?_
        refine lv_iload_n hx hb d_SS_burn_29 rfl (lv_at hl 2 rfl) ?_
        refine kr_qV (As := [.int (nI s9), .int (nI p9)]) (rest := []) ⟨hx, hb, hml, hown, hts⟩ (c_SL_deviceIn l D k q gd wd se pr s9 p9 (by omega) (by omega)) (cwV 2 hts (gV w_116 w_117 w_118 w_2 w_119) rfl rfl rfl (by decide +kernel) ⟨Nat.le_of_ble_eq_true rfl, Nat.le_of_ble_eq_true rfl⟩) hK (hP.sub (ws' := (slW q k gd wd se pr)) [1, 2, 3, 4] rfl) (va_recv hK hP (ci := 1) (q0 := 1) rfl rfl) rfl hl.1 rfl (Nat.le_of_ble_eq_true rfl) d_SS_burn_30 ⟨Nat.zero_le _, Nat.zero_le _⟩ ?_
        have hg := hO.1 (4 * s9 + p9) (by omega)
        have hk5 := hkd (4 * s9 + p9)
        by_cases h0 : kd (4 * s9 + p9) = 0
        · refine ss_rv (y := .null) (by rw [hg, if_pos h0]; rfl) ?_
          refine lv_astoreN (lv' := [(5, .null), (0, .ref (q 0)), (1, .int (nI s9)), (2, .int (nI p9)), (3, .int (nI x)), (4, .int (nI v))]) hx hb d_SS_burn_33 hl (by decide) rfl (fun ls hl => ?_)
          refine lv_aloadN hx hb d_SS_burn_35 (lv_at hl 0 rfl) ?_
          refine lv_ifnullN (tgt := 55) hx hb d_SS_burn_37 (by decide) ?_
          exfalso; omega
        have hdo : (4 * s9 + p9) ∈ od := (hO.2.1 _).mpr ⟨by omega, h0⟩
        have hin : ∀ x ∈ dvW k ad bd ed kd nb sh mb (4 * s9 + p9), x ∈ (ssW q k gd wd se pr ln px cv co B R sx pt rd wt ++ plW od k ad bd ed kd nb sh mb) := fun x hx => List.mem_append_right _ (plW_in hdo x hx)
        refine ss_rv (y := .ref (ad (4 * s9 + p9))) (by rw [hg, if_neg h0]; rfl) ?_
        by_cases h_1 : kd (4 * s9 + p9) = 1
        · skip
          refine lv_astore (lv' := [(5, .ref (ad (4 * s9 + p9))), (0, .ref (q 0)), (1, .int (nI s9)), (2, .int (nI p9)), (3, .int (nI x)), (4, .int (nI v))]) hx hb d_SS_burn_33 hl (by decide) rfl (fun ls hl => ?_)
          refine lv_aload hx hb d_SS_burn_35 (lv_at hl 0 rfl) ?_
          refine lv_ifnull hx hb d_SS_burn_37 ?_
          refine lv_aload hx hb d_SS_burn_40 (lv_at hl 0 rfl) ?_
          refine lv_iload_n hx hb d_SS_burn_42 rfl (lv_at hl 4 rfl) ?_
          refine lv_iload hx hb d_SS_burn_43 (lv_at hl 5 rfl) ?_
          exfalso; omega
        by_cases h_2 : kd (4 * s9 + p9) = 2
        · skip
          refine lv_astore (lv' := [(5, .ref (ad (4 * s9 + p9))), (0, .ref (q 0)), (1, .int (nI s9)), (2, .int (nI p9)), (3, .int (nI x)), (4, .int (nI v))]) hx hb d_SS_burn_33 hl (by decide) rfl (fun ls hl => ?_)
          refine lv_aload hx hb d_SS_burn_35 (lv_at hl 0 rfl) ?_
          refine lv_ifnull hx hb d_SS_burn_37 ?_
          refine lv_aload hx hb d_SS_burn_40 (lv_at hl 0 rfl) ?_
          refine lv_iload_n hx hb d_SS_burn_42 rfl (lv_at hl 4 rfl) ?_
          refine lv_iload hx hb d_SS_burn_43 (lv_at hl 5 rfl) ?_
          exfalso; omega
        by_cases h_3 : kd (4 * s9 + p9) = 3
        · skip
          obtain ⟨hn1, hn2, hn3⟩ := hO.2.2.2 (4 * s9 + p9) (by omega) h_3
          refine lv_astore (lv' := [(5, .ref (ad (4 * s9 + p9))), (0, .ref (q 0)), (1, .int (nI s9)), (2, .int (nI p9)), (3, .int (nI x)), (4, .int (nI v))]) hx hb d_SS_burn_33 hl (by decide) rfl (fun ls hl => ?_)
          refine lv_aload hx hb d_SS_burn_35 (lv_at hl 0 rfl) ?_
          refine lv_ifnull hx hb d_SS_burn_37 ?_
          refine lv_aload hx hb d_SS_burn_40 (lv_at hl 0 rfl) ?_
          refine lv_iload_n hx hb d_SS_burn_42 rfl (lv_at hl 4 rfl) ?_
          refine lv_iload hx hb d_SS_burn_43 (lv_at hl 5 rfl) ?_
          have hPd := va_mem hP (fun x hx => hin x ((dvW_3 h_3).symm ▸ hx))
          have hDd : va_D A _ := (dvW_3 h_3) ▸ va_Dm hD hdo
          refine kw_iU (As := [.int (nI x), .int (nI v)]) (rest := []) ⟨hx, hb, hml, hown, hts⟩ (c_BK_fixi l D k (ad (4 * s9 + p9)) (bd (4 * s9 + p9)) (ed (4 * s9 + p9)) (nb (4 * s9 + p9)) (sft mb (256 * (4 * s9 + p9)) (32 * nb (4 * s9 + p9))) (sft sh (4 * (4 * s9 + p9)) 4) hn1 hn2 x v (by omega)) (va_cwO (owner := "SlotScreen$Device") (x := y_DV_fix) 2 hts (gO w_120 w_122 w_121 w_123 w_124 w_14 w_125) rfl rfl rfl w_133 (by decide +kernel) ⟨Nat.le_of_ble_eq_true rfl, Nat.le_of_ble_eq_true rfl⟩) hK hPd hDd hS hA (va_recv hK hPd (ci := 4) (q0 := 0) rfl rfl) rfl hl.1 rfl (Nat.le_of_ble_eq_true rfl) d_SS_burn_45 ⟨Nat.zero_le _, Nat.zero_le _⟩ (fun _ _ H9 locs h9 hP1 hk1 hS9 => ?_)
          subst h9
          rw [← dvW_3 (k := k) (ad := ad) (bd := bd) (ed := ed) (nb := nb) (sh := sh) (mb := mb) h_3] at hk1
          rw [sft_u (by omega), ← dvW_3 (k := k) (ad := ad) (bd := bd) (ed := ed) (nb := nb) (sh := sh) h_3] at hP1
          obtain ⟨hP, hD⟩ := pl_mb hO hP hD hdo (by omega) hk1 hP1
          have hS := hS9
          generalize H9 = H at hP hS ⊢
          have hP : va_P D vwCl (ssW q k gd wd se pr ln px cv co B R sx pt rd wt ++ plW od k ad bd ed kd nb sh (ss_up mb (256 * (4 * s9 + p9) + x) v)) H := hP
          have hD : va_D A (ssW q k gd wd se pr ln px cv co B R sx pt rd wt ++ plW od k ad bd ed kd nb sh (ss_up mb (256 * (4 * s9 + p9) + x) v)) := hD
          refine lv_if_eq (tgt := 55) hx hb d_SS_burn_48 (by decide) (fun c4 => ?_) (fun c4 => ?_)
          · have c4 := (n_eq0 (by omega)).mp c4
            exfalso; omega
          · have c4 := mt (n_eq0 (by omega)).mpr c4
            refine lv_iconst (v := nI 1) hx hb d_SS_burn_51 (by decide +kernel) ?_
            refine lv_goto (tgt := 56) hx hb d_SS_burn_52 (by decide) ?_
            exact rw_retz hx hb hr hlocks d_SS_burn_56 (by decide +kernel) hS () (rfl) hP
        have h_4 : kd (4 * s9 + p9) = 4 := by omega
        refine lv_astore (lv' := [(5, .ref (ad (4 * s9 + p9))), (0, .ref (q 0)), (1, .int (nI s9)), (2, .int (nI p9)), (3, .int (nI x)), (4, .int (nI v))]) hx hb d_SS_burn_33 hl (by decide) rfl (fun ls hl => ?_)
        refine lv_aload hx hb d_SS_burn_35 (lv_at hl 0 rfl) ?_
        refine lv_ifnull hx hb d_SS_burn_37 ?_
        refine lv_aload hx hb d_SS_burn_40 (lv_at hl 0 rfl) ?_
        refine lv_iload_n hx hb d_SS_burn_42 rfl (lv_at hl 4 rfl) ?_
        refine lv_iload hx hb d_SS_burn_43 (lv_at hl 5 rfl) ?_
        exfalso; omega
      · have c3 := (bI_0).mp c3
        exfalso; omega
set_option maxHeartbeats 4000000 in
set_option maxRecDepth 100000 in
theorem c_SS_burno (l : Launch) (D : va_G) (k : Nat → ClassId) (q : Nat → Nat) (gd : Nat → Option Nat) (wd : Nat → Nat) (se : Nat → Nat) (pr : Nat) (ln : Nat) (px : Nat → Nat) (cv : Nat) (co : Nat) (B : Nat → Nat) (R : Nat → Nat) (sx : Nat) (pt : Nat) (rd : Nat) (wt : Int32) (od : List Nat) (ad bd ed kd nb sh mb : Nat → Nat) (hwd : ∀ j, wd j < 2) (hse : ∀ j, se j < 256) (hpr : pr < 256) (hO : plO od gd ad kd nb sh) (hkd : ∀ j, kd j < 5) (hmb : ∀ j, mb j < 256) (s9 p9 v : Nat) (hs9 : s9 < 4) (hp9 : p9 < 4) (hv : v < 256) (x : Int32) (hk : (kd (4 * s9 + p9) = 2 → ¬ (0 ≤ x.toInt ∧ x.toInt ≤ 255)) ∧ (kd (4 * s9 + p9) = 3 → ¬ (0 ≤ x.toInt ∧ x.toInt < 32 * (nb (4 * s9 + p9) : Int)))) : xw_i l y_SS_burn b_SS_burn 6 (some .boolean) { frames := 2, cells := 0, slots := 0, locals := 62 } D (kT k) (ssW q k gd wd se pr ln px cv co B R sx pt rd wt ++ plW od k ad bd ed kd nb sh mb) [.ref (q 0), .int (nI s9), .int (nI p9), .int x, .int (nI v)] (fun (r : Int32) (_ : Unit) => r = nI 0) (fun (_ : Unit) => (ssW q k gd wd se pr ln px cv co B R sx pt rd wt ++ plW od k ad bd ed kd nb sh mb)) := by
  refine xw_headi (by decide) (Nat.le_of_ble_eq_true rfl) ?_
  intro p e s m below meth c ls A hx hb hr hlocks hml hown hts hX hK hA hP hD hS hl
  have hown : s.vm.findClass "SlotScreen" = some m.cls := hown
  have hl : lv_has ls 6 [(0, .ref (q 0)), (1, .int (nI s9)), (2, .int (nI p9)), (3, .int x), (4, .int (nI v))] := hl
  refine lv_iload_n hx hb d_SS_burn_0 rfl (lv_at hl 1 rfl) ?_
  refine kr_iS (As := [.int (nI s9)]) (rest := []) ⟨hx, hb, hml, hown, hts⟩ (c_SS_isSlotN l D k s9 (by omega)) (va_cwS 1 hts (gS w_107 w_108 w_1 w_109) rfl rfl rfl (by decide +kernel) ⟨Nat.le_of_ble_eq_true rfl, Nat.le_of_ble_eq_true rfl⟩) hK va_nil rfl hl.1 rfl (Nat.le_of_ble_eq_true rfl) d_SS_burn_1 ⟨Nat.zero_le _, Nat.zero_le _⟩ ?_
  refine lv_if_eq (tgt := 22) hx hb d_SS_burn_4 (by decide) (fun c1 => ?_) (fun c1 => ?_)
  · have c1 := (bI_0).mp c1
    exfalso; omega
  · have c1 := mt (bI_0).mpr c1
    have c1 := Classical.not_not.mp c1
    refine lv_iload_n hx hb d_SS_burn_7 rfl (lv_at hl 2 rfl) ?_
    refine kr_iS (As := [.int (nI p9)]) (rest := []) ⟨hx, hb, hml, hown, hts⟩ (c_SS_isPartN l D k p9 (by omega)) (va_cwS 1 hts (gS w_110 w_111 w_1 w_112) rfl rfl rfl (by decide +kernel) ⟨Nat.le_of_ble_eq_true rfl, Nat.le_of_ble_eq_true rfl⟩) hK va_nil rfl hl.1 rfl (Nat.le_of_ble_eq_true rfl) d_SS_burn_8 ⟨Nat.zero_le _, Nat.zero_le _⟩ ?_
    refine lv_if_eq (tgt := 22) hx hb d_SS_burn_11 (by decide) (fun c2 => ?_) (fun c2 => ?_)
    · have c2 := (bI_0).mp c2
      exfalso; omega
    · have c2 := mt (bI_0).mpr c2
      have c2 := Classical.not_not.mp c2
      refine lv_iload hx hb d_SS_burn_14 (lv_at hl 4 rfl) ?_
      refine kr_iS (As := [.int (nI v)]) (rest := []) ⟨hx, hb, hml, hown, hts⟩ (c_SS_isByteN l D k v (by omega)) (va_cwS 1 hts (gS w_113 w_114 w_1 w_115) rfl rfl rfl (by decide +kernel) ⟨Nat.le_of_ble_eq_true rfl, Nat.le_of_ble_eq_true rfl⟩) hK va_nil rfl hl.1 rfl (Nat.le_of_ble_eq_true rfl) d_SS_burn_16 ⟨Nat.zero_le _, Nat.zero_le _⟩ ?_
      refine lv_if_ne (tgt := 24) hx hb d_SS_burn_19 (by decide) (fun c3 => ?_) (fun c3 => ?_)
      · have c3 := mt (bI_0).mpr c3
        have c3 := Classical.not_not.mp c3
        refine lv_aload_n hx hb d_SS_burn_24 rfl (lv_at hl 0 rfl) ?_
        refine va_get (D := D) (ci := 0) (v := .ref (q 1)) (C := R_SS) (T := T_SS) (N := 3) hx hb hts in_SS hown hK hP 0 rfl rfl 0 (by decide) (hts _ w_93) (fun _ h9 => h9) rfl d_SS_burn_25 ?_
        refine lv_iload_n hx hb d_SS_burn_28 rfl (lv_at hl 1 rfl) ?_
        refine lv_iload_n hx hb d_SS_burn_29 rfl (lv_at hl 2 rfl) ?_
        refine kr_qV (As := [.int (nI s9), .int (nI p9)]) (rest := []) ⟨hx, hb, hml, hown, hts⟩ (c_SL_deviceIn l D k q gd wd se pr s9 p9 (by omega) (by omega)) (cwV 2 hts (gV w_116 w_117 w_118 w_2 w_119) rfl rfl rfl (by decide +kernel) ⟨Nat.le_of_ble_eq_true rfl, Nat.le_of_ble_eq_true rfl⟩) hK (hP.sub (ws' := (slW q k gd wd se pr)) [1, 2, 3, 4] rfl) (va_recv hK hP (ci := 1) (q0 := 1) rfl rfl) rfl hl.1 rfl (Nat.le_of_ble_eq_true rfl) d_SS_burn_30 ⟨Nat.zero_le _, Nat.zero_le _⟩ ?_
        have hg := hO.1 (4 * s9 + p9) (by omega)
        have hk5 := hkd (4 * s9 + p9)
        by_cases h0 : kd (4 * s9 + p9) = 0
        · refine ss_rv (y := .null) (by rw [hg, if_pos h0]; rfl) ?_
          refine lv_astoreN (lv' := [(5, .null), (0, .ref (q 0)), (1, .int (nI s9)), (2, .int (nI p9)), (3, .int x), (4, .int (nI v))]) hx hb d_SS_burn_33 hl (by decide) rfl (fun ls hl => ?_)
          refine lv_aloadN hx hb d_SS_burn_35 (lv_at hl 0 rfl) ?_
          refine lv_ifnullN (tgt := 55) hx hb d_SS_burn_37 (by decide) ?_
          refine lv_iconst (v := nI 0) hx hb d_SS_burn_55 (by decide +kernel) ?_
          exact rw_retz hx hb hr hlocks d_SS_burn_56 (by decide +kernel) hS () (rfl) hP
        have hdo : (4 * s9 + p9) ∈ od := (hO.2.1 _).mpr ⟨by omega, h0⟩
        have hin : ∀ x ∈ dvW k ad bd ed kd nb sh mb (4 * s9 + p9), x ∈ (ssW q k gd wd se pr ln px cv co B R sx pt rd wt ++ plW od k ad bd ed kd nb sh mb) := fun x hx => List.mem_append_right _ (plW_in hdo x hx)
        refine ss_rv (y := .ref (ad (4 * s9 + p9))) (by rw [hg, if_neg h0]; rfl) ?_
        by_cases h_1 : kd (4 * s9 + p9) = 1
        · skip
          refine lv_astore (lv' := [(5, .ref (ad (4 * s9 + p9))), (0, .ref (q 0)), (1, .int (nI s9)), (2, .int (nI p9)), (3, .int x), (4, .int (nI v))]) hx hb d_SS_burn_33 hl (by decide) rfl (fun ls hl => ?_)
          refine lv_aload hx hb d_SS_burn_35 (lv_at hl 0 rfl) ?_
          refine lv_ifnull hx hb d_SS_burn_37 ?_
          refine lv_aload hx hb d_SS_burn_40 (lv_at hl 0 rfl) ?_
          refine lv_iload_n hx hb d_SS_burn_42 rfl (lv_at hl 4 rfl) ?_
          refine lv_iload hx hb d_SS_burn_43 (lv_at hl 5 rfl) ?_
          have hPd := va_mem hP (fun x hx => hin x ((dvW_1 h_1).symm ▸ hx))
          refine kr_iU (As := [.int x, .int (nI v)]) (rest := []) ⟨hx, hb, hml, hown, hts⟩ (c_DV_fix256 l D k (ad (4 * s9 + p9)) (bd (4 * s9 + p9)) (sft mb (256 * (4 * s9 + p9)) 256) x (nI v)) (va_cwU (owner := "SlotScreen$Device") (x := y_DV_fix) 2 hts (gU w_120 w_122 w_126 w_121 w_11 w_133) rfl rfl rfl rfl (by decide +kernel) ⟨Nat.le_of_ble_eq_true rfl, Nat.le_of_ble_eq_true rfl⟩) hK hPd (va_recv hK hPd (ci := 5) (q0 := 0) rfl rfl) rfl hl.1 rfl (Nat.le_of_ble_eq_true rfl) d_SS_burn_45 ⟨Nat.zero_le _, Nat.zero_le _⟩ ?_
          refine lv_if_eq (tgt := 55) hx hb d_SS_burn_48 (by decide) (fun c4 => ?_) (fun c4 => ?_)
          · have c4 := (n_eq0 (by omega)).mp c4
            refine lv_iconst (v := nI 0) hx hb d_SS_burn_55 (by decide +kernel) ?_
            exact rw_retz hx hb hr hlocks d_SS_burn_56 (by decide +kernel) hS () (rfl) hP
          · have c4 := mt (n_eq0 (by omega)).mpr c4
            exfalso; omega
        by_cases h_2 : kd (4 * s9 + p9) = 2
        · skip
          refine lv_astore (lv' := [(5, .ref (ad (4 * s9 + p9))), (0, .ref (q 0)), (1, .int (nI s9)), (2, .int (nI p9)), (3, .int x), (4, .int (nI v))]) hx hb d_SS_burn_33 hl (by decide) rfl (fun ls hl => ?_)
          refine lv_aload hx hb d_SS_burn_35 (lv_at hl 0 rfl) ?_
          refine lv_ifnull hx hb d_SS_burn_37 ?_
          refine lv_aload hx hb d_SS_burn_40 (lv_at hl 0 rfl) ?_
          refine lv_iload_n hx hb d_SS_burn_42 rfl (lv_at hl 4 rfl) ?_
          refine lv_iload hx hb d_SS_burn_43 (lv_at hl 5 rfl) ?_
          have hPd := va_mem hP (fun x hx => hin x ((dvW_2 h_2).symm ▸ hx))
          have hDd : va_D A _ := (dvW_2 h_2) ▸ va_Dm hD hdo
          refine kxw_iU (As := [.int x, .int (nI v)]) (rest := []) ⟨hx, hb, hml, hown, hts⟩ (c_RO_fixo l D k (ad (4 * s9 + p9)) (bd (4 * s9 + p9)) (sft mb (256 * (4 * s9 + p9)) 256) x v (by omega)) (va_cwO (owner := "SlotScreen$Device") (x := y_DV_fix) 2 hts (gO w_120 w_122 w_121 w_127 w_128 w_13 w_129) rfl rfl rfl w_133 (by decide +kernel) ⟨Nat.le_of_ble_eq_true rfl, Nat.le_of_ble_eq_true rfl⟩) hK hX hPd hDd hS hA (va_recv hK hPd (ci := 6) (q0 := 0) rfl rfl) rfl hl.1 rfl (Nat.le_of_ble_eq_true rfl) d_SS_burn_45 ⟨Nat.zero_le _, Nat.zero_le _⟩ (fun _ _ H9 locs h9 hP1 hk1 hS9 => ?_)
          subst h9
          rw [← dvW_2 (k := k) (ad := ad) (bd := bd) (ed := ed) (nb := nb) (sh := sh) (mb := mb) h_2] at hk1
          rw [← dvW_2 (k := k) (ad := ad) (bd := bd) (ed := ed) (nb := nb) (sh := sh) (mb := mb) h_2] at hP1
          have hP := pl_fr (dv' := dvW k ad bd ed kd nb sh mb) hP hD hdo (fun _ _ _ => rfl) hk1 hP1
          have hS := hS9
          generalize H9 = H at hP hS ⊢
          have hP : va_P D vwCl (ssW q k gd wd se pr ln px cv co B R sx pt rd wt ++ plW od k ad bd ed kd nb sh mb) H := hP
          have hD : va_D A (ssW q k gd wd se pr ln px cv co B R sx pt rd wt ++ plW od k ad bd ed kd nb sh mb) := hD
          refine lv_if_eq (tgt := 55) hx hb d_SS_burn_48 (by decide) (fun c5 => ?_) (fun c5 => ?_)
          · have c5 := (n_eq0 (by omega)).mp c5
            refine lv_iconst (v := nI 0) hx hb d_SS_burn_55 (by decide +kernel) ?_
            exact rw_retz hx hb hr hlocks d_SS_burn_56 (by decide +kernel) hS () (rfl) hP
          · have c5 := mt (n_eq0 (by omega)).mpr c5
            exfalso; omega
        by_cases h_3 : kd (4 * s9 + p9) = 3
        · skip
          obtain ⟨hn1, hn2, hn3⟩ := hO.2.2.2 (4 * s9 + p9) (by omega) h_3
          refine lv_astore (lv' := [(5, .ref (ad (4 * s9 + p9))), (0, .ref (q 0)), (1, .int (nI s9)), (2, .int (nI p9)), (3, .int x), (4, .int (nI v))]) hx hb d_SS_burn_33 hl (by decide) rfl (fun ls hl => ?_)
          refine lv_aload hx hb d_SS_burn_35 (lv_at hl 0 rfl) ?_
          refine lv_ifnull hx hb d_SS_burn_37 ?_
          refine lv_aload hx hb d_SS_burn_40 (lv_at hl 0 rfl) ?_
          refine lv_iload_n hx hb d_SS_burn_42 rfl (lv_at hl 4 rfl) ?_
          refine lv_iload hx hb d_SS_burn_43 (lv_at hl 5 rfl) ?_
          have hPd := va_mem hP (fun x hx => hin x ((dvW_3 h_3).symm ▸ hx))
          have hDd : va_D A _ := (dvW_3 h_3) ▸ va_Dm hD hdo
          refine kw_iU (As := [.int x, .int (nI v)]) (rest := []) ⟨hx, hb, hml, hown, hts⟩ (c_BK_fixo l D k (ad (4 * s9 + p9)) (bd (4 * s9 + p9)) (ed (4 * s9 + p9)) (nb (4 * s9 + p9)) (sft mb (256 * (4 * s9 + p9)) (32 * nb (4 * s9 + p9))) (sft sh (4 * (4 * s9 + p9)) 4) hn1 hn2 x v (by omega)) (va_cwO (owner := "SlotScreen$Device") (x := y_DV_fix) 2 hts (gO w_120 w_122 w_121 w_123 w_124 w_14 w_125) rfl rfl rfl w_133 (by decide +kernel) ⟨Nat.le_of_ble_eq_true rfl, Nat.le_of_ble_eq_true rfl⟩) hK hPd hDd hS hA (va_recv hK hPd (ci := 4) (q0 := 0) rfl rfl) rfl hl.1 rfl (Nat.le_of_ble_eq_true rfl) d_SS_burn_45 ⟨Nat.zero_le _, Nat.zero_le _⟩ (fun _ _ H9 locs h9 hP1 hk1 hS9 => ?_)
          subst h9
          rw [← dvW_3 (k := k) (ad := ad) (bd := bd) (ed := ed) (nb := nb) (sh := sh) (mb := mb) h_3] at hk1
          rw [← dvW_3 (k := k) (ad := ad) (bd := bd) (ed := ed) (nb := nb) (sh := sh) (mb := mb) h_3] at hP1
          have hP := pl_fr (dv' := dvW k ad bd ed kd nb sh mb) hP hD hdo (fun _ _ _ => rfl) hk1 hP1
          have hS := hS9
          generalize H9 = H at hP hS ⊢
          have hP : va_P D vwCl (ssW q k gd wd se pr ln px cv co B R sx pt rd wt ++ plW od k ad bd ed kd nb sh mb) H := hP
          have hD : va_D A (ssW q k gd wd se pr ln px cv co B R sx pt rd wt ++ plW od k ad bd ed kd nb sh mb) := hD
          refine lv_if_eq (tgt := 55) hx hb d_SS_burn_48 (by decide) (fun c6 => ?_) (fun c6 => ?_)
          · have c6 := (n_eq0 (by omega)).mp c6
            refine lv_iconst (v := nI 0) hx hb d_SS_burn_55 (by decide +kernel) ?_
            exact rw_retz hx hb hr hlocks d_SS_burn_56 (by decide +kernel) hS () (rfl) hP
          · have c6 := mt (n_eq0 (by omega)).mpr c6
            exfalso; omega
        have h_4 : kd (4 * s9 + p9) = 4 := by omega
        refine lv_astore (lv' := [(5, .ref (ad (4 * s9 + p9))), (0, .ref (q 0)), (1, .int (nI s9)), (2, .int (nI p9)), (3, .int x), (4, .int (nI v))]) hx hb d_SS_burn_33 hl (by decide) rfl (fun ls hl => ?_)
        refine lv_aload hx hb d_SS_burn_35 (lv_at hl 0 rfl) ?_
        refine lv_ifnull hx hb d_SS_burn_37 ?_
        refine lv_aload hx hb d_SS_burn_40 (lv_at hl 0 rfl) ?_
        refine lv_iload_n hx hb d_SS_burn_42 rfl (lv_at hl 4 rfl) ?_
        refine lv_iload hx hb d_SS_burn_43 (lv_at hl 5 rfl) ?_
        have hPd := va_mem hP (fun x hx => hin x ((dvW_4 h_4).symm ▸ hx))
        refine kr_iU (As := [.int x, .int (nI v)]) (rest := []) ⟨hx, hb, hml, hown, hts⟩ (c_DV_fix64 l D k (ad (4 * s9 + p9)) (bd (4 * s9 + p9)) (sft mb (256 * (4 * s9 + p9)) 64) x (nI v)) (va_cwU (owner := "SlotScreen$Device") (x := y_DV_fix) 2 hts (gU w_120 w_122 w_126 w_121 w_11 w_133) rfl rfl rfl rfl (by decide +kernel) ⟨Nat.le_of_ble_eq_true rfl, Nat.le_of_ble_eq_true rfl⟩) hK hPd (va_recv hK hPd (ci := 5) (q0 := 0) rfl rfl) rfl hl.1 rfl (Nat.le_of_ble_eq_true rfl) d_SS_burn_45 ⟨Nat.zero_le _, Nat.zero_le _⟩ ?_
        refine lv_if_eq (tgt := 55) hx hb d_SS_burn_48 (by decide) (fun c7 => ?_) (fun c7 => ?_)
        · have c7 := (n_eq0 (by omega)).mp c7
          refine lv_iconst (v := nI 0) hx hb d_SS_burn_55 (by decide +kernel) ?_
          exact rw_retz hx hb hr hlocks d_SS_burn_56 (by decide +kernel) hS () (rfl) hP
        · have c7 := mt (n_eq0 (by omega)).mpr c7
          exfalso; omega
      · have c3 := (bI_0).mp c3
        exfalso; omega
