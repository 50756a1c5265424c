set_option maxHeartbeats 4000000 in
set_option maxRecDepth 100000 in
theorem c_SL_byteIn (l : Launch) (D : va_G) (k : Nat → ClassId) (q : Nat → Nat) (gd : Nat → Option Nat) (wd : Nat → Nat) (se : Nat → Nat) (pr : Nat) (od : List Nat) (ad bd ed kd nb sh mb : Nat → Nat) (hwd : ∀ j, wd j < 2) (hse : ∀ j, se j < 256) (hpr : pr < 256) (hO : plO od gd ad kd nb sh) (hkd : ∀ j, kd j < 5) (hmb : ∀ j, mb j < 256) (s9 p9 a : Nat) (hs9 : s9 < 4) (hp9 : p9 < 4) (ha : a < 256) : xo_i l y_SL_byteIn b_SL_byteIn 5 (some .int) { frames := 2, cells := 0, slots := 0, locals := 61 } D (kT k) (slW q k gd wd se pr ++ plW od k ad bd ed kd nb sh mb) [.ref (q 1), .int (nI s9), .int (nI p9), .int (nI a)] (nI (if a = 255 ∧ wd s9 = 1 then 255 - (se s9 % 64 + 64 * p9) else mget kd sh mb (4 * s9 + (if wd s9 = 1 then p9 else 0)) a)) := by
  refine xo_headi (by decide) (Nat.le_of_ble_eq_true rfl) ?_
  intro p e s m below meth c ls hx hb hr hlocks hml hown hts hX hP hK hl
  have hown : s.vm.findClass "SlotScreen$Slots" = some m.cls := hown
  have hl : lv_has ls 5 [(0, .ref (q 1)), (1, .int (nI s9)), (2, .int (nI p9)), (3, .int (nI a))] := hl
  refine lv_aload_n hx hb d_SL_byteIn_0 rfl (lv_at hl 0 rfl) ?_
  refine va_get (D := D) (ci := 1) (v := .ref (q 3)) (C := R_SL) (T := T_SL) (N := 4) hx hb hts in_SL hown hK hP 0 rfl rfl 1 (by decide) (hts _ w_32) (fun _ h9 => h9) rfl d_SL_byteIn_1 ?_
  refine lv_iload_n hx hb d_SL_byteIn_4 rfl (lv_at hl 1 rfl) ?_
  refine va_zald hx hb hK hP 2 1 rfl rfl (vp_in_nI (by omega) (by omega)) d_SL_byteIn_5 ?_
  refine ss_rt (y := nI (wd s9)) (congrArg (fun z => nI (wd z)) (nI_clamp (by omega))) ?_
  have g1 := hwd s9
  refine lv_if_eq (tgt := 35) hx hb d_SL_byteIn_6 (by decide) (fun c2 => ?_) (fun c2 => ?_)
  · have c2 := (n_eq0 (by omega)).mp c2
    refine lv_aload_n hx hb d_SL_byteIn_35 rfl (lv_at hl 0 rfl) ?_
    refine lv_iload_n hx hb d_SL_byteIn_36 rfl (lv_at hl 1 rfl) ?_
    refine lv_aload_n hx hb d_SL_byteIn_37 rfl (lv_at hl 0 rfl) ?_
    refine va_get (D := D) (ci := 1) (v := .ref (q 3)) (C := R_SL) (T := T_SL) (N := 4) hx hb hts in_SL hown hK hP 0 rfl rfl 1 (by decide) (hts _ w_32) (fun _ h9 => h9) rfl d_SL_byteIn_38 ?_
    refine lv_iload_n hx hb d_SL_byteIn_41 rfl (lv_at hl 1 rfl) ?_
    refine va_zald hx hb hK hP 2 1 rfl rfl (vp_in_nI (by omega) (by omega)) d_SL_byteIn_42 ?_
    refine ss_rt (y := nI (wd s9)) (congrArg (fun z => nI (wd z)) (nI_clamp (by omega))) ?_
    have g3 := hwd s9
    refine lv_if_eq (tgt := 50) hx hb d_SL_byteIn_43 (by decide) (fun c4 => ?_) (fun c4 => ?_)
    · have c4 := (n_eq0 (by omega)).mp c4
      refine lv_iconst (v := nI 0) hx hb d_SL_byteIn_50 (by decide +kernel) ?_
      refine kr_qV (As := [.int (nI s9), .int (nI 0)]) (rest := []) ⟨hx, hb, hml, hown, hts⟩ (c_SL_deviceIn l D k q gd wd se pr s9 0 (by omega) (by omega)) (cwV 2 hts (gV w_471 w_117 w_118 w_2 w_119) rfl rfl rfl (by decide +kernel) ⟨Nat.le_of_ble_eq_true rfl, Nat.le_of_ble_eq_true rfl⟩) hK (hP.sub (ws' := (slW q k gd wd se pr)) [0, 1, 2, 3] rfl) (va_recv hK hP (ci := 1) (q0 := 0) rfl rfl) rfl hl.1 rfl (Nat.le_of_ble_eq_true rfl) d_SL_byteIn_51 ⟨Nat.zero_le _, Nat.zero_le _⟩ ?_
      have hg := hO.1 (4 * s9 + 0) (by omega)
      have hk5 := hkd (4 * s9 + 0)
      by_cases h0 : kd (4 * s9 + 0) = 0
      · refine ss_rv (y := .null) (by rw [hg, if_pos h0]; rfl) ?_
        refine lv_astoreN (lv' := [(4, .null), (0, .ref (q 1)), (1, .int (nI s9)), (2, .int (nI p9)), (3, .int (nI a))]) hx hb d_SL_byteIn_54 hl (by decide) rfl (fun ls hl => ?_)
        refine lv_aloadN hx hb d_SL_byteIn_56 (lv_at hl 0 rfl) ?_
        refine lv_ifnonnullN hx hb d_SL_byteIn_58 ?_
        refine lv_sipush (v := nI 255) hx hb d_SL_byteIn_61 (by decide +kernel) ?_
        refine lv_goto (tgt := 73) hx hb d_SL_byteIn_64 (by decide) ?_
        exact ro_reti hx hb hr hlocks d_SL_byteIn_73 (by rw [if_neg (by omega)]; (first | rw [if_pos (show wd s9 = 1 by omega)] | rw [if_neg (show ¬ wd s9 = 1 by omega)]); unfold mget; rw [if_neg (by omega), if_neg (by omega), if_neg (by omega)])
      have hdo : (4 * s9 + 0) ∈ od := (hO.2.1 _).mpr ⟨by omega, h0⟩
      have hin : ∀ x ∈ dvW k ad bd ed kd nb sh mb (4 * s9 + 0), x ∈ (slW q k gd wd se pr ++ plW od k ad bd ed kd nb sh mb) := fun x hx => List.mem_append_right _ (plW_in hdo x hx)
      refine ss_rv (y := .ref (ad (4 * s9 + 0))) (by rw [hg, if_neg h0]; rfl) ?_
      by_cases h_1 : kd (4 * s9 + 0) = 1
      · skip
        refine lv_astore (lv' := [(4, .ref (ad (4 * s9 + 0))), (0, .ref (q 1)), (1, .int (nI s9)), (2, .int (nI p9)), (3, .int (nI a))]) hx hb d_SL_byteIn_54 hl (by decide) rfl (fun ls hl => ?_)
        refine lv_aload hx hb d_SL_byteIn_56 (lv_at hl 0 rfl) ?_
        refine lv_ifnonnull (tgt := 67) hx hb d_SL_byteIn_58 (by decide) ?_
        refine lv_aload hx hb d_SL_byteIn_67 (lv_at hl 0 rfl) ?_
        refine lv_iload_n hx hb d_SL_byteIn_69 rfl (lv_at hl 4 rfl) ?_
        have hPd := va_mem hP (fun x hx => hin x ((dvW_1 h_1).symm ▸ hx))
        refine kr_iU (As := [.int (nI a)]) (rest := []) ⟨hx, hb, hml, hown, hts⟩ (c_RA_byteAt256 l D k (ad (4 * s9 + 0)) (bd (4 * s9 + 0)) (sft mb (256 * (4 * s9 + 0)) 256) a (by omega)) (va_cwA (owner := "SlotScreen$Device") (x := y_DV_byteAt) 1 hts (gU w_472 w_474 w_484 w_485 w_12 w_486) rfl rfl rfl (hX.1 (.declares y_DV_byteAt) (by unfold NWL; simp)) (by decide +kernel) ⟨Nat.le_of_ble_eq_true rfl, Nat.le_of_ble_eq_true rfl⟩) hK hPd (va_recv hK hPd (ci := 5) (q0 := 0) rfl rfl) rfl hl.1 rfl (Nat.le_of_ble_eq_true rfl) d_SL_byteIn_70 ⟨Nat.zero_le _, Nat.zero_le _⟩ ?_
        refine ss_rt (y := nI (mb (256 * (4 * s9 + 0) + a))) (by rw [sft_i (by omega)]) ?_
        exact ro_reti hx hb hr hlocks d_SL_byteIn_73 (by rw [if_neg (by omega)]; (first | rw [if_pos (show wd s9 = 1 by omega)] | rw [if_neg (show ¬ wd s9 = 1 by omega)]); unfold mget; rw [if_pos (by omega)])
      by_cases h_2 : kd (4 * s9 + 0) = 2
      · skip
        refine lv_astore (lv' := [(4, .ref (ad (4 * s9 + 0))), (0, .ref (q 1)), (1, .int (nI s9)), (2, .int (nI p9)), (3, .int (nI a))]) hx hb d_SL_byteIn_54 hl (by decide) rfl (fun ls hl => ?_)
        refine lv_aload hx hb d_SL_byteIn_56 (lv_at hl 0 rfl) ?_
        refine lv_ifnonnull (tgt := 67) hx hb d_SL_byteIn_58 (by decide) ?_
        refine lv_aload hx hb d_SL_byteIn_67 (lv_at hl 0 rfl) ?_
        refine lv_iload_n hx hb d_SL_byteIn_69 rfl (lv_at hl 4 rfl) ?_
        have hPd := va_mem hP (fun x hx => hin x ((dvW_2 h_2).symm ▸ hx))
        refine kr_iU (As := [.int (nI a)]) (rest := []) ⟨hx, hb, hml, hown, hts⟩ (c_RO_byteAt l D k (ad (4 * s9 + 0)) (bd (4 * s9 + 0)) (sft mb (256 * (4 * s9 + 0)) 256) a (by omega)) (va_cwA (owner := "SlotScreen$Device") (x := y_DV_byteAt) 1 hts (gU w_472 w_474 w_487 w_488 w_13 w_489) rfl rfl rfl (hX.1 (.declares y_DV_byteAt) (by unfold NWL; simp)) (by decide +kernel) ⟨Nat.le_of_ble_eq_true rfl, Nat.le_of_ble_eq_true rfl⟩) hK hPd (va_recv hK hPd (ci := 6) (q0 := 0) rfl rfl) rfl hl.1 rfl (Nat.le_of_ble_eq_true rfl) d_SL_byteIn_70 ⟨Nat.zero_le _, Nat.zero_le _⟩ ?_
        refine ss_rt (y := nI (mb (256 * (4 * s9 + 0) + a))) (by rw [sft_i (by omega)]) ?_
        exact ro_reti hx hb hr hlocks d_SL_byteIn_73 (by rw [if_neg (by omega)]; (first | rw [if_pos (show wd s9 = 1 by omega)] | rw [if_neg (show ¬ wd s9 = 1 by omega)]); unfold mget; rw [if_pos (by omega)])
      by_cases h_3 : kd (4 * s9 + 0) = 3
      · skip
        obtain ⟨hn1, hn2, hn3⟩ := hO.2.2.2 (4 * s9 + 0) (by omega) h_3
        refine lv_astore (lv' := [(4, .ref (ad (4 * s9 + 0))), (0, .ref (q 1)), (1, .int (nI s9)), (2, .int (nI p9)), (3, .int (nI a))]) hx hb d_SL_byteIn_54 hl (by decide) rfl (fun ls hl => ?_)
        refine lv_aload hx hb d_SL_byteIn_56 (lv_at hl 0 rfl) ?_
        refine lv_ifnonnull (tgt := 67) hx hb d_SL_byteIn_58 (by decide) ?_
        refine lv_aload hx hb d_SL_byteIn_67 (lv_at hl 0 rfl) ?_
        refine lv_iload_n hx hb d_SL_byteIn_69 rfl (lv_at hl 4 rfl) ?_
        have hPd := va_mem hP (fun x hx => hin x ((dvW_3 h_3).symm ▸ hx))
        have g3 := hn3 ((a - 64) / 32)
        by_cases hw : 64 ≤ a ∧ a ≤ 191
        · skip
          refine kr_iU (As := [.int (nI a)]) (rest := []) ⟨hx, hb, hml, hown, hts⟩ (c_BK_byteAti l D k (ad (4 * s9 + 0)) (bd (4 * s9 + 0)) (ed (4 * s9 + 0)) (nb (4 * s9 + 0)) (sft mb (256 * (4 * s9 + 0)) (32 * nb (4 * s9 + 0))) (sft sh (4 * (4 * s9 + 0)) 4) hn1 hn2 a (by omega) hw (by rw [sft_i (by omega)]; exact g3 (by omega))) (va_cwA (owner := "SlotScreen$Device") (x := y_DV_byteAt) 1 hts (gU w_472 w_474 w_475 w_476 w_14 w_477) rfl rfl rfl (hX.1 (.declares y_DV_byteAt) (by unfold NWL; simp)) (by decide +kernel) ⟨Nat.le_of_ble_eq_true rfl, Nat.le_of_ble_eq_true rfl⟩) hK hPd (va_recv hK hPd (ci := 4) (q0 := 0) rfl rfl) rfl hl.1 rfl (Nat.le_of_ble_eq_true rfl) d_SL_byteIn_70 ⟨Nat.zero_le _, Nat.zero_le _⟩ ?_
          refine ss_rt (y := nI (mb (256 * (4 * s9 + 0) + (sh (4 * (4 * s9 + 0) + (a - 64) / 32) * 32 + a % 32)))) (by have g4 := g3 (by omega); rw [sft_i (f := sh) (by omega), sft_i (by omega)]) ?_
          exact ro_reti hx hb hr hlocks d_SL_byteIn_73 (by rw [if_neg (by omega)]; (first | rw [if_pos (show wd s9 = 1 by omega)] | rw [if_neg (show ¬ wd s9 = 1 by omega)]); unfold mget; rw [if_neg (by omega), if_pos (by omega), if_pos hw]; congr 2; rw [show 4 * (4 * s9 + 0) + a / 32 - 2 = 4 * (4 * s9 + 0) + (a - 64) / 32 by omega]; omega)
        · skip
          refine kr_iU (As := [.int (nI a)]) (rest := []) ⟨hx, hb, hml, hown, hts⟩ (c_BK_byteAto l D k (ad (4 * s9 + 0)) (bd (4 * s9 + 0)) (ed (4 * s9 + 0)) (nb (4 * s9 + 0)) (sft mb (256 * (4 * s9 + 0)) (32 * nb (4 * s9 + 0))) (sft sh (4 * (4 * s9 + 0)) 4) a (by omega) hw) (va_cwA (owner := "SlotScreen$Device") (x := y_DV_byteAt) 1 hts (gU w_472 w_474 w_475 w_476 w_14 w_477) rfl rfl rfl (hX.1 (.declares y_DV_byteAt) (by unfold NWL; simp)) (by decide +kernel) ⟨Nat.le_of_ble_eq_true rfl, Nat.le_of_ble_eq_true rfl⟩) hK hPd (va_recv hK hPd (ci := 4) (q0 := 0) rfl rfl) rfl hl.1 rfl (Nat.le_of_ble_eq_true rfl) d_SL_byteIn_70 ⟨Nat.zero_le _, Nat.zero_le _⟩ ?_
          exact ro_reti hx hb hr hlocks d_SL_byteIn_73 (by rw [if_neg (by omega)]; (first | rw [if_pos (show wd s9 = 1 by omega)] | rw [if_neg (show ¬ wd s9 = 1 by omega)]); unfold mget; rw [if_neg (by omega), if_pos (by omega), if_neg hw])
      have h_4 : kd (4 * s9 + 0) = 4 := by omega
      refine lv_astore (lv' := [(4, .ref (ad (4 * s9 + 0))), (0, .ref (q 1)), (1, .int (nI s9)), (2, .int (nI p9)), (3, .int (nI a))]) hx hb d_SL_byteIn_54 hl (by decide) rfl (fun ls hl => ?_)
      refine lv_aload hx hb d_SL_byteIn_56 (lv_at hl 0 rfl) ?_
      refine lv_ifnonnull (tgt := 67) hx hb d_SL_byteIn_58 (by decide) ?_
      refine lv_aload hx hb d_SL_byteIn_67 (lv_at hl 0 rfl) ?_
      refine lv_iload_n hx hb d_SL_byteIn_69 rfl (lv_at hl 4 rfl) ?_
      have hPd := va_mem hP (fun x hx => hin x ((dvW_4 h_4).symm ▸ hx))
      refine kr_iU (As := [.int (nI a)]) (rest := []) ⟨hx, hb, hml, hown, hts⟩ (c_RA_byteAt64 l D k (ad (4 * s9 + 0)) (bd (4 * s9 + 0)) (sft mb (256 * (4 * s9 + 0)) 64) a (by omega)) (va_cwA (owner := "SlotScreen$Device") (x := y_DV_byteAt) 1 hts (gU w_472 w_474 w_484 w_485 w_12 w_486) rfl rfl rfl (hX.1 (.declares y_DV_byteAt) (by unfold NWL; simp)) (by decide +kernel) ⟨Nat.le_of_ble_eq_true rfl, Nat.le_of_ble_eq_true rfl⟩) hK hPd (va_recv hK hPd (ci := 5) (q0 := 0) rfl rfl) rfl hl.1 rfl (Nat.le_of_ble_eq_true rfl) d_SL_byteIn_70 ⟨Nat.zero_le _, Nat.zero_le _⟩ ?_
      refine ss_rt (y := nI (mb (256 * (4 * s9 + 0) + a % 64))) (by rw [sft_i (by omega)]) ?_
      exact ro_reti hx hb hr hlocks d_SL_byteIn_73 (by rw [if_neg (by omega)]; (first | rw [if_pos (show wd s9 = 1 by omega)] | rw [if_neg (show ¬ wd s9 = 1 by omega)]); unfold mget; rw [if_neg (by omega), if_neg (by omega), if_pos (by omega)])
    · have c4 := mt (n_eq0 (by omega)).mpr c4
      exfalso; omega
  · have c2 := mt (n_eq0 (by omega)).mpr c2
    refine lv_iload_n hx hb d_SL_byteIn_9 rfl (lv_at hl 3 rfl) ?_
    refine lv_sipush (v := nI 255) hx hb d_SL_byteIn_10 (by decide +kernel) ?_
    refine lv_icmp_ne (tgt := 35) hx hb d_SL_byteIn_13 (by decide) (fun c5 => ?_) (fun c5 => ?_)
    · have c5 := mt (nI_eq (by omega) (by omega)).mpr c5
      refine lv_aload_n hx hb d_SL_byteIn_35 rfl (lv_at hl 0 rfl) ?_
      refine lv_iload_n hx hb d_SL_byteIn_36 rfl (lv_at hl 1 rfl) ?_
      refine lv_aload_n hx hb d_SL_byteIn_37 rfl (lv_at hl 0 rfl) ?_
      refine va_get (D := D) (ci := 1) (v := .ref (q 3)) (C := R_SL) (T := T_SL) (N := 4) hx hb hts in_SL hown hK hP 0 rfl rfl 1 (by decide) (hts _ w_32) (fun _ h9 => h9) rfl d_SL_byteIn_38 ?_
      refine lv_iload_n hx hb d_SL_byteIn_41 rfl (lv_at hl 1 rfl) ?_
      refine va_zald hx hb hK hP 2 1 rfl rfl (vp_in_nI (by omega) (by omega)) d_SL_byteIn_42 ?_
      refine ss_rt (y := nI (wd s9)) (congrArg (fun z => nI (wd z)) (nI_clamp (by omega))) ?_
      have g6 := hwd s9
      refine lv_if_eq (tgt := 50) hx hb d_SL_byteIn_43 (by decide) (fun c7 => ?_) (fun c7 => ?_)
      · have c7 := (n_eq0 (by omega)).mp c7
        exfalso; omega
      · have c7 := mt (n_eq0 (by omega)).mpr c7
        refine lv_iload_n hx hb d_SL_byteIn_46 rfl (lv_at hl 2 rfl) ?_
        refine lv_goto (tgt := 51) hx hb d_SL_byteIn_47 (by decide) ?_
        refine kr_qV (As := [.int (nI s9), .int (nI p9)]) (rest := []) ⟨hx, hb, hml, hown, hts⟩ (c_SL_deviceIn l D k q gd wd se pr s9 p9 (by omega) (by omega)) (cwV 2 hts (gV w_471 w_117 w_118 w_2 w_119) rfl rfl rfl (by decide +kernel) ⟨Nat.le_of_ble_eq_true rfl, Nat.le_of_ble_eq_true rfl⟩) hK (hP.sub (ws' := (slW q k gd wd se pr)) [0, 1, 2, 3] rfl) (va_recv hK hP (ci := 1) (q0 := 0) rfl rfl) rfl hl.1 rfl (Nat.le_of_ble_eq_true rfl) d_SL_byteIn_51 ⟨Nat.zero_le _, Nat.zero_le _⟩ ?_
        have hg := hO.1 (4 * s9 + p9) (by omega)
        have hk5 := hkd (4 * s9 + p9)
        by_cases h0 : kd (4 * s9 + p9) = 0
        · refine ss_rv (y := .null) (by rw [hg, if_pos h0]; rfl) ?_
          refine lv_astoreN (lv' := [(4, .null), (0, .ref (q 1)), (1, .int (nI s9)), (2, .int (nI p9)), (3, .int (nI a))]) hx hb d_SL_byteIn_54 hl (by decide) rfl (fun ls hl => ?_)
          refine lv_aloadN hx hb d_SL_byteIn_56 (lv_at hl 0 rfl) ?_
          refine lv_ifnonnullN hx hb d_SL_byteIn_58 ?_
          refine lv_sipush (v := nI 255) hx hb d_SL_byteIn_61 (by decide +kernel) ?_
          refine lv_goto (tgt := 73) hx hb d_SL_byteIn_64 (by decide) ?_
          exact ro_reti hx hb hr hlocks d_SL_byteIn_73 (by rw [if_neg (by omega)]; (first | rw [if_pos (show wd s9 = 1 by omega)] | rw [if_neg (show ¬ wd s9 = 1 by omega)]); unfold mget; rw [if_neg (by omega), if_neg (by omega), if_neg (by omega)])
        have hdo : (4 * s9 + p9) ∈ od := (hO.2.1 _).mpr ⟨by omega, h0⟩
        have hin : ∀ x ∈ dvW k ad bd ed kd nb sh mb (4 * s9 + p9), x ∈ (slW q k gd wd se pr ++ plW od k ad bd ed kd nb sh mb) := fun x hx => List.mem_append_right _ (plW_in hdo x hx)
        refine ss_rv (y := .ref (ad (4 * s9 + p9))) (by rw [hg, if_neg h0]; rfl) ?_
        by_cases h_1 : kd (4 * s9 + p9) = 1
        · skip
          refine lv_astore (lv' := [(4, .ref (ad (4 * s9 + p9))), (0, .ref (q 1)), (1, .int (nI s9)), (2, .int (nI p9)), (3, .int (nI a))]) hx hb d_SL_byteIn_54 hl (by decide) rfl (fun ls hl => ?_)
          refine lv_aload hx hb d_SL_byteIn_56 (lv_at hl 0 rfl) ?_
          refine lv_ifnonnull (tgt := 67) hx hb d_SL_byteIn_58 (by decide) ?_
          refine lv_aload hx hb d_SL_byteIn_67 (lv_at hl 0 rfl) ?_
          refine lv_iload_n hx hb d_SL_byteIn_69 rfl (lv_at hl 4 rfl) ?_
          have hPd := va_mem hP (fun x hx => hin x ((dvW_1 h_1).symm ▸ hx))
          refine kr_iU (As := [.int (nI a)]) (rest := []) ⟨hx, hb, hml, hown, hts⟩ (c_RA_byteAt256 l D k (ad (4 * s9 + p9)) (bd (4 * s9 + p9)) (sft mb (256 * (4 * s9 + p9)) 256) a (by omega)) (va_cwA (owner := "SlotScreen$Device") (x := y_DV_byteAt) 1 hts (gU w_472 w_474 w_484 w_485 w_12 w_486) rfl rfl rfl (hX.1 (.declares y_DV_byteAt) (by unfold NWL; simp)) (by decide +kernel) ⟨Nat.le_of_ble_eq_true rfl, Nat.le_of_ble_eq_true rfl⟩) hK hPd (va_recv hK hPd (ci := 5) (q0 := 0) rfl rfl) rfl hl.1 rfl (Nat.le_of_ble_eq_true rfl) d_SL_byteIn_70 ⟨Nat.zero_le _, Nat.zero_le _⟩ ?_
          refine ss_rt (y := nI (mb (256 * (4 * s9 + p9) + a))) (by rw [sft_i (by omega)]) ?_
          exact ro_reti hx hb hr hlocks d_SL_byteIn_73 (by rw [if_neg (by omega)]; (first | rw [if_pos (show wd s9 = 1 by omega)] | rw [if_neg (show ¬ wd s9 = 1 by omega)]); unfold mget; rw [if_pos (by omega)])
        by_cases h_2 : kd (4 * s9 + p9) = 2
        · skip
          refine lv_astore (lv' := [(4, .ref (ad (4 * s9 + p9))), (0, .ref (q 1)), (1, .int (nI s9)), (2, .int (nI p9)), (3, .int (nI a))]) hx hb d_SL_byteIn_54 hl (by decide) rfl (fun ls hl => ?_)
          refine lv_aload hx hb d_SL_byteIn_56 (lv_at hl 0 rfl) ?_
          refine lv_ifnonnull (tgt := 67) hx hb d_SL_byteIn_58 (by decide) ?_
          refine lv_aload hx hb d_SL_byteIn_67 (lv_at hl 0 rfl) ?_
          refine lv_iload_n hx hb d_SL_byteIn_69 rfl (lv_at hl 4 rfl) ?_
          have hPd := va_mem hP (fun x hx => hin x ((dvW_2 h_2).symm ▸ hx))
          refine kr_iU (As := [.int (nI a)]) (rest := []) ⟨hx, hb, hml, hown, hts⟩ (c_RO_byteAt l D k (ad (4 * s9 + p9)) (bd (4 * s9 + p9)) (sft mb (256 * (4 * s9 + p9)) 256) a (by omega)) (va_cwA (owner := "SlotScreen$Device") (x := y_DV_byteAt) 1 hts (gU w_472 w_474 w_487 w_488 w_13 w_489) rfl rfl rfl (hX.1 (.declares y_DV_byteAt) (by unfold NWL; simp)) (by decide +kernel) ⟨Nat.le_of_ble_eq_true rfl, Nat.le_of_ble_eq_true rfl⟩) hK hPd (va_recv hK hPd (ci := 6) (q0 := 0) rfl rfl) rfl hl.1 rfl (Nat.le_of_ble_eq_true rfl) d_SL_byteIn_70 ⟨Nat.zero_le _, Nat.zero_le _⟩ ?_
          refine ss_rt (y := nI (mb (256 * (4 * s9 + p9) + a))) (by rw [sft_i (by omega)]) ?_
          exact ro_reti hx hb hr hlocks d_SL_byteIn_73 (by rw [if_neg (by omega)]; (first | rw [if_pos (show wd s9 = 1 by omega)] | rw [if_neg (show ¬ wd s9 = 1 by omega)]); unfold mget; rw [if_pos (by omega)])
        by_cases h_3 : kd (4 * s9 + p9) = 3
        · skip
          obtain ⟨hn1, hn2, hn3⟩ := hO.2.2.2 (4 * s9 + p9) (by omega) h_3
          refine lv_astore (lv' := [(4, .ref (ad (4 * s9 + p9))), (0, .ref (q 1)), (1, .int (nI s9)), (2, .int (nI p9)), (3, .int (nI a))]) hx hb d_SL_byteIn_54 hl (by decide) rfl (fun ls hl => ?_)
          refine lv_aload hx hb d_SL_byteIn_56 (lv_at hl 0 rfl) ?_
          refine lv_ifnonnull (tgt := 67) hx hb d_SL_byteIn_58 (by decide) ?_
          refine lv_aload hx hb d_SL_byteIn_67 (lv_at hl 0 rfl) ?_
          refine lv_iload_n hx hb d_SL_byteIn_69 rfl (lv_at hl 4 rfl) ?_
          have hPd := va_mem hP (fun x hx => hin x ((dvW_3 h_3).symm ▸ hx))
          have g3 := hn3 ((a - 64) / 32)
          by_cases hw : 64 ≤ a ∧ a ≤ 191
          · skip
            refine kr_iU (As := [.int (nI a)]) (rest := []) ⟨hx, hb, hml, hown, hts⟩ (c_BK_byteAti l D k (ad (4 * s9 + p9)) (bd (4 * s9 + p9)) (ed (4 * s9 + p9)) (nb (4 * s9 + p9)) (sft mb (256 * (4 * s9 + p9)) (32 * nb (4 * s9 + p9))) (sft sh (4 * (4 * s9 + p9)) 4) hn1 hn2 a (by omega) hw (by rw [sft_i (by omega)]; exact g3 (by omega))) (va_cwA (owner := "SlotScreen$Device") (x := y_DV_byteAt) 1 hts (gU w_472 w_474 w_475 w_476 w_14 w_477) rfl rfl rfl (hX.1 (.declares y_DV_byteAt) (by unfold NWL; simp)) (by decide +kernel) ⟨Nat.le_of_ble_eq_true rfl, Nat.le_of_ble_eq_true rfl⟩) hK hPd (va_recv hK hPd (ci := 4) (q0 := 0) rfl rfl) rfl hl.1 rfl (Nat.le_of_ble_eq_true rfl) d_SL_byteIn_70 ⟨Nat.zero_le _, Nat.zero_le _⟩ ?_
            refine ss_rt (y := nI (mb (256 * (4 * s9 + p9) + (sh (4 * (4 * s9 + p9) + (a - 64) / 32) * 32 + a % 32)))) (by have g4 := g3 (by omega); rw [sft_i (f := sh) (by omega), sft_i (by omega)]) ?_
            exact ro_reti hx hb hr hlocks d_SL_byteIn_73 (by rw [if_neg (by omega)]; (first | rw [if_pos (show wd s9 = 1 by omega)] | rw [if_neg (show ¬ wd s9 = 1 by omega)]); unfold mget; rw [if_neg (by omega), if_pos (by omega), if_pos hw]; congr 2; rw [show 4 * (4 * s9 + p9) + a / 32 - 2 = 4 * (4 * s9 + p9) + (a - 64) / 32 by omega]; omega)
          · skip
            refine kr_iU (As := [.int (nI a)]) (rest := []) ⟨hx, hb, hml, hown, hts⟩ (c_BK_byteAto l D k (ad (4 * s9 + p9)) (bd (4 * s9 + p9)) (ed (4 * s9 + p9)) (nb (4 * s9 + p9)) (sft mb (256 * (4 * s9 + p9)) (32 * nb (4 * s9 + p9))) (sft sh (4 * (4 * s9 + p9)) 4) a (by omega) hw) (va_cwA (owner := "SlotScreen$Device") (x := y_DV_byteAt) 1 hts (gU w_472 w_474 w_475 w_476 w_14 w_477) rfl rfl rfl (hX.1 (.declares y_DV_byteAt) (by unfold NWL; simp)) (by decide +kernel) ⟨Nat.le_of_ble_eq_true rfl, Nat.le_of_ble_eq_true rfl⟩) hK hPd (va_recv hK hPd (ci := 4) (q0 := 0) rfl rfl) rfl hl.1 rfl (Nat.le_of_ble_eq_true rfl) d_SL_byteIn_70 ⟨Nat.zero_le _, Nat.zero_le _⟩ ?_
            exact ro_reti hx hb hr hlocks d_SL_byteIn_73 (by rw [if_neg (by omega)]; (first | rw [if_pos (show wd s9 = 1 by omega)] | rw [if_neg (show ¬ wd s9 = 1 by omega)]); unfold mget; rw [if_neg (by omega), if_pos (by omega), if_neg hw])
        have h_4 : kd (4 * s9 + p9) = 4 := by omega
        refine lv_astore (lv' := [(4, .ref (ad (4 * s9 + p9))), (0, .ref (q 1)), (1, .int (nI s9)), (2, .int (nI p9)), (3, .int (nI a))]) hx hb d_SL_byteIn_54 hl (by decide) rfl (fun ls hl => ?_)
        refine lv_aload hx hb d_SL_byteIn_56 (lv_at hl 0 rfl) ?_
        refine lv_ifnonnull (tgt := 67) hx hb d_SL_byteIn_58 (by decide) ?_
        refine lv_aload hx hb d_SL_byteIn_67 (lv_at hl 0 rfl) ?_
        refine lv_iload_n hx hb d_SL_byteIn_69 rfl (lv_at hl 4 rfl) ?_
        have hPd := va_mem hP (fun x hx => hin x ((dvW_4 h_4).symm ▸ hx))
        refine kr_iU (As := [.int (nI a)]) (rest := []) ⟨hx, hb, hml, hown, hts⟩ (c_RA_byteAt64 l D k (ad (4 * s9 + p9)) (bd (4 * s9 + p9)) (sft mb (256 * (4 * s9 + p9)) 64) a (by omega)) (va_cwA (owner := "SlotScreen$Device") (x := y_DV_byteAt) 1 hts (gU w_472 w_474 w_484 w_485 w_12 w_486) rfl rfl rfl (hX.1 (.declares y_DV_byteAt) (by unfold NWL; simp)) (by decide +kernel) ⟨Nat.le_of_ble_eq_true rfl, Nat.le_of_ble_eq_true rfl⟩) hK hPd (va_recv hK hPd (ci := 5) (q0 := 0) rfl rfl) rfl hl.1 rfl (Nat.le_of_ble_eq_true rfl) d_SL_byteIn_70 ⟨Nat.zero_le _, Nat.zero_le _⟩ ?_
        refine ss_rt (y := nI (mb (256 * (4 * s9 + p9) + a % 64))) (by rw [sft_i (by omega)]) ?_
        exact ro_reti hx hb hr hlocks d_SL_byteIn_73 (by rw [if_neg (by omega)]; (first | rw [if_pos (show wd s9 = 1 by omega)] | rw [if_neg (show ¬ wd s9 = 1 by omega)]); unfold mget; rw [if_neg (by omega), if_neg (by omega), if_pos (by omega)])
    · have c5 := (nI_eq (by omega) (by omega)).mp c5
      refine lv_sipush (v := nI 255) hx hb d_SL_byteIn_16 (by decide +kernel) ?_
      refine lv_aload_n hx hb d_SL_byteIn_19 rfl (lv_at hl 0 rfl) ?_
      refine va_get (D := D) (ci := 1) (v := .ref (q 4)) (C := R_SL) (T := T_SL) (N := 4) hx hb hts in_SL hown hK hP 0 rfl rfl 2 (by decide) (hts _ w_33) (fun _ h9 => h9) rfl d_SL_byteIn_20 ?_
      refine lv_iload_n hx hb d_SL_byteIn_23 rfl (lv_at hl 1 rfl) ?_
      refine va_iald hx hb hK hP 3 0 rfl rfl (vp_in_nI (by omega) (by omega)) d_SL_byteIn_24 ?_
      refine ss_rt (y := nI (se s9)) (congrArg (fun z => nI (se z)) (nI_clamp (by omega))) ?_
      have g8 := hse s9
      refine lv_bipush (v := nI 63) hx hb d_SL_byteIn_25 (by decide +kernel) ?_
      refine lv_iand hx hb d_SL_byteIn_27 ?_
      refine ss_rt (y := nI ((se s9) % 64)) (pk_andN (by omega) 6 (by decide +kernel)) ?_
      refine lv_iload_n hx hb d_SL_byteIn_28 rfl (lv_at hl 2 rfl) ?_
      refine lv_bipush (v := nI 6) hx hb d_SL_byteIn_29 (by decide +kernel) ?_
      refine lv_ishl hx hb d_SL_byteIn_31 ?_
      refine ss_rt (y := nI (p9 * 64)) (ss_shl (k := 6) (by omega) (by omega)) ?_
      refine lv_ior hx hb d_SL_byteIn_32 ?_
      refine ss_rt (y := nI (se s9 % 64 + 64 * p9)) (ss_sec _ (by omega) _ (by omega)) ?_
      refine lv_isub hx hb d_SL_byteIn_33 ?_
      refine ss_rt (y := nI (255 - (se s9 % 64 + 64 * p9))) (pk_sub (by omega)) ?_
      exact ro_reti hx hb hr hlocks d_SL_byteIn_34 (by rw [if_pos (by omega)])
set_option maxHeartbeats 4000000 in
set_option maxRecDepth 100000 in
theorem c_SL_storeS (l : Launch) (D : va_G) (k : Nat → ClassId) (q : Nat → Nat) (gd : Nat → Option Nat) (wd : Nat → Nat) (se : Nat → Nat) (pr : Nat) (od : List Nat) (ad bd ed kd nb sh mb : Nat → Nat) (hwd : ∀ j, wd j < 2) (hse : ∀ j, se j < 256) (hpr : pr < 256) (hO : plO od gd ad kd nb sh) (hkd : ∀ j, kd j < 5) (hmb : ∀ j, mb j < 256) (a v : Nat) (ha : a < 256) (hv : v < 256) (h1 : a = 255 ∧ wd (msl pr a) = 1) : xw_v l y_SL_store b_SL_store 5 none { frames := 2, cells := 0, slots := 0, locals := 62 } D (kT k) (slW q k gd wd se pr ++ plW od k ad bd ed kd nb sh mb) [.ref (q 1), .int (nI a), .int (nI v)] (fun (_ : Unit) => True) (fun (_ : Unit) => (slW q k gd wd (ss_up se (msl pr a) v) pr ++ plW od k ad bd ed kd nb sh mb)) := by
  refine xw_headv (by decide) (Nat.le_of_ble_eq_true rfl) ?_
  intro p e s m below meth c ls A hx hb hr hlocks hml hown hts hX hK hA hP hD hS hl
  have hown : s.vm.findClass "SlotScreen$Slots" = some m.cls := hown
  have hl : lv_has ls 5 [(0, .ref (q 1)), (1, .int (nI a)), (2, .int (nI v))] := hl
  have z1 := msl_lt pr a
  have z2 := mpg_lt wd se (msl pr a) a
  refine lv_aload_n hx hb d_SL_store_0 rfl (lv_at hl 0 rfl) ?_
  refine lv_iload_n hx hb d_SL_store_1 rfl (lv_at hl 1 rfl) ?_
  have g1 := msl_lt pr a
  refine kr_iV (As := [.int (nI a)]) (rest := []) ⟨hx, hb, hml, hown, hts⟩ (c_SL_slotAt l D k q gd wd se pr (by omega) a (by omega)) (cwV 1 hts (gV w_502 w_457 w_458 w_2 w_459) rfl rfl rfl (by decide +kernel) ⟨Nat.le_of_ble_eq_true rfl, Nat.le_of_ble_eq_true rfl⟩) hK (hP.sub (ws' := (slW q k gd wd se pr)) [0, 1, 2, 3] rfl) (va_recv hK hP (ci := 1) (q0 := 0) rfl rfl) rfl hl.1 rfl (Nat.le_of_ble_eq_true rfl) d_SL_store_2 ⟨Nat.zero_le _, Nat.zero_le _⟩ ?_
  refine lv_istore_n (lv' := [(3, .int (nI (msl pr a))), (0, .ref (q 1)), (1, .int (nI a)), (2, .int (nI v))]) hx hb d_SL_store_5 rfl hl (by decide) rfl (fun ls hl => ?_)
  refine lv_aload_n hx hb d_SL_store_6 rfl (lv_at hl 1 rfl) ?_
  refine va_get (D := D) (ci := 1) (v := .ref (q 3)) (C := R_SL) (T := T_SL) (N := 4) hx hb hts in_SL hown hK hP 0 rfl rfl 1 (by decide) (hts _ w_32) (fun _ h9 => h9) rfl d_SL_store_7 ?_
  refine lv_iload_n hx hb d_SL_store_10 rfl (lv_at hl 0 rfl) ?_
  refine va_zald hx hb hK hP 2 1 rfl rfl (vp_in_nI (by omega) (by omega)) d_SL_store_11 ?_
  refine ss_rt (y := nI (wd (msl pr a))) (congrArg (fun z => nI (wd z)) (nI_clamp (by omega))) ?_
  have g2 := hwd (msl pr a)
  refine lv_if_eq (tgt := 30) hx hb d_SL_store_12 (by decide) (fun c3 => ?_) (fun c3 => ?_)
  · have c3 := (n_eq0 (by omega)).mp c3
    exfalso; omega
  · have c3 := mt (n_eq0 (by omega)).mpr c3
    refine lv_iload_n hx hb d_SL_store_15 rfl (lv_at hl 2 rfl) ?_
    refine lv_sipush (v := nI 255) hx hb d_SL_store_16 (by decide +kernel) ?_
    refine lv_icmp_ne (tgt := 30) hx hb d_SL_store_19 (by decide) (fun c4 => ?_) (fun c4 => ?_)
    · have c4 := mt (nI_eq (by omega) (by omega)).mpr c4
      exfalso; omega
    · have c4 := (nI_eq (by omega) (by omega)).mp c4
      refine lv_aload_n hx hb d_SL_store_22 rfl (lv_at hl 1 rfl) ?_
      refine va_get (D := D) (ci := 1) (v := .ref (q 4)) (C := R_SL) (T := T_SL) (N := 4) hx hb hts in_SL hown hK hP 0 rfl rfl 2 (by decide) (hts _ w_33) (fun _ h9 => h9) rfl d_SL_store_23 ?_
      refine lv_iload_n hx hb d_SL_store_26 rfl (lv_at hl 0 rfl) ?_
      refine lv_iload_n hx hb d_SL_store_27 rfl (lv_at hl 3 rfl) ?_
      refine va_iast hx hb hK hP hD hS 3 0 rfl rfl (vp_in_nI (by omega) (by omega)) d_SL_store_28 (fun H locs hP hD hS => ?_)
      rw [ss_upI se (k := (msl pr a)) (v := v) (by omega)] at hP hD
      have hP : va_P D vwCl (slW q k gd wd (ss_up se (msl pr a) v) pr ++ plW od k ad bd ed kd nb sh mb) _ := hP
      have hD : va_D A (slW q k gd wd (ss_up se (msl pr a) v) pr ++ plW od k ad bd ed kd nb sh mb) := hD
      exact rw_retv hx hb hr hlocks d_SL_store_29 hS () (trivial) hP
set_option maxHeartbeats 4000000 in
set_option maxRecDepth 100000 in
theorem c_SL_store1 (l : Launch) (D : va_G) (k : Nat → ClassId) (q : Nat → Nat) (gd : Nat → Option Nat) (wd : Nat → Nat) (se : Nat → Nat) (pr : Nat) (od : List Nat) (ad bd ed kd nb sh mb : Nat → Nat) (hwd : ∀ j, wd j < 2) (hse : ∀ j, se j < 256) (hpr : pr < 256) (hO : plO od gd ad kd nb sh) (hkd : ∀ j, kd j < 5) (hmb : ∀ j, mb j < 256) (a v : Nat) (ha : a < 256) (hv : v < 256) (h1 : ¬ (a = 255 ∧ wd (msl pr a) = 1)) (hk : kd (4 * msl pr a + mpg wd se (msl pr a) a) = 1) : xw_v l y_SL_store b_SL_store 5 none { frames := 2, cells := 0, slots := 0, locals := 62 } D (kT k) (slW q k gd wd se pr ++ plW od k ad bd ed kd nb sh mb) [.ref (q 1), .int (nI a), .int (nI v)] (fun (_ : Unit) => True) (fun (_ : Unit) => (slW q k gd wd se pr ++ plW od k ad bd ed kd nb sh (ss_up mb (256 * (4 * msl pr a + mpg wd se (msl pr a) a) + a) v))) := by
  refine xw_headv (by decide) (Nat.le_of_ble_eq_true rfl) ?_
  intro p e s m below meth c ls A hx hb hr hlocks hml hown hts hX hK hA hP hD hS hl
  have hown : s.vm.findClass "SlotScreen$Slots" = some m.cls := hown
  have hl : lv_has ls 5 [(0, .ref (q 1)), (1, .int (nI a)), (2, .int (nI v))] := hl
  have z1 := msl_lt pr a
  have z2 := mpg_lt wd se (msl pr a) a
  refine lv_aload_n hx hb d_SL_store_0 rfl (lv_at hl 0 rfl) ?_
  refine lv_iload_n hx hb d_SL_store_1 rfl (lv_at hl 1 rfl) ?_
  have g1 := msl_lt pr a
  refine kr_iV (As := [.int (nI a)]) (rest := []) ⟨hx, hb, hml, hown, hts⟩ (c_SL_slotAt l D k q gd wd se pr (by omega) a (by omega)) (cwV 1 hts (gV w_502 w_457 w_458 w_2 w_459) rfl rfl rfl (by decide +kernel) ⟨Nat.le_of_ble_eq_true rfl, Nat.le_of_ble_eq_true rfl⟩) hK (hP.sub (ws' := (slW q k gd wd se pr)) [0, 1, 2, 3] rfl) (va_recv hK hP (ci := 1) (q0 := 0) rfl rfl) rfl hl.1 rfl (Nat.le_of_ble_eq_true rfl) d_SL_store_2 ⟨Nat.zero_le _, Nat.zero_le _⟩ ?_
  refine lv_istore_n (lv' := [(3, .int (nI (msl pr a))), (0, .ref (q 1)), (1, .int (nI a)), (2, .int (nI v))]) hx hb d_SL_store_5 rfl hl (by decide) rfl (fun ls hl => ?_)
  refine lv_aload_n hx hb d_SL_store_6 rfl (lv_at hl 1 rfl) ?_
  refine va_get (D := D) (ci := 1) (v := .ref (q 3)) (C := R_SL) (T := T_SL) (N := 4) hx hb hts in_SL hown hK hP 0 rfl rfl 1 (by decide) (hts _ w_32) (fun _ h9 => h9) rfl d_SL_store_7 ?_
  refine lv_iload_n hx hb d_SL_store_10 rfl (lv_at hl 0 rfl) ?_
  refine va_zald hx hb hK hP 2 1 rfl rfl (vp_in_nI (by omega) (by omega)) d_SL_store_11 ?_
  refine ss_rt (y := nI (wd (msl pr a))) (congrArg (fun z => nI (wd z)) (nI_clamp (by omega))) ?_
  have g2 := hwd (msl pr a)
  refine lv_if_eq (tgt := 30) hx hb d_SL_store_12 (by decide) (fun c3 => ?_) (fun c3 => ?_)
  · have c3 := (n_eq0 (by omega)).mp c3
    refine lv_aload_n hx hb d_SL_store_30 rfl (lv_at hl 1 rfl) ?_
    refine lv_iload_n hx hb d_SL_store_31 rfl (lv_at hl 0 rfl) ?_
    refine lv_aload_n hx hb d_SL_store_32 rfl (lv_at hl 1 rfl) ?_
    refine lv_iload_n hx hb d_SL_store_33 rfl (lv_at hl 0 rfl) ?_
    refine lv_iload_n hx hb d_SL_store_34 rfl (lv_at hl 2 rfl) ?_
    have g4 := mpg_lt wd se (msl pr a) a
    refine kr_iV (As := [.int (nI (msl pr a)), .int (nI a)]) (rest := [.int (nI (msl pr a)), .ref (q 1)]) ⟨hx, hb, hml, hown, hts⟩ (c_SL_partAt l D k q gd wd se pr hwd hse (by omega) (msl pr a) a (by omega) (by omega)) (cwV 2 hts (gV w_503 w_464 w_465 w_2 w_466) rfl rfl rfl (by decide +kernel) ⟨Nat.le_of_ble_eq_true rfl, Nat.le_of_ble_eq_true rfl⟩) hK (hP.sub (ws' := (slW q k gd wd se pr)) [0, 1, 2, 3] rfl) (va_recv hK hP (ci := 1) (q0 := 0) rfl rfl) rfl hl.1 rfl (Nat.le_of_ble_eq_true rfl) d_SL_store_35 ⟨Nat.zero_le _, Nat.zero_le _⟩ ?_
    refine kr_qV (As := [.int (nI (msl pr a)), .int (nI (mpg wd se (msl pr a) a))]) (rest := []) ⟨hx, hb, hml, hown, hts⟩ (c_SL_deviceIn l D k q gd wd se pr (msl pr a) (mpg wd se (msl pr a) a) (by omega) (by omega)) (cwV 2 hts (gV w_471 w_117 w_118 w_2 w_119) rfl rfl rfl (by decide +kernel) ⟨Nat.le_of_ble_eq_true rfl, Nat.le_of_ble_eq_true rfl⟩) hK (hP.sub (ws' := (slW q k gd wd se pr)) [0, 1, 2, 3] rfl) (va_recv hK hP (ci := 1) (q0 := 0) rfl rfl) rfl hl.1 rfl (Nat.le_of_ble_eq_true rfl) d_SL_store_38 ⟨Nat.zero_le _, Nat.zero_le _⟩ ?_
    have hg := hO.1 (4 * (msl pr a) + (mpg wd se (msl pr a) a)) (by omega)
    have hk5 := hkd (4 * (msl pr a) + (mpg wd se (msl pr a) a))
    by_cases h0 : kd (4 * (msl pr a) + (mpg wd se (msl pr a) a)) = 0
    · refine ss_rv (y := .null) (by rw [hg, if_pos h0]; rfl) ?_
      refine lv_astoreN (lv' := [(4, .null), (3, .int (nI (msl pr a))), (0, .ref (q 1)), (1, .int (nI a)), (2, .int (nI v))]) hx hb d_SL_store_41 hl (by decide) rfl (fun ls hl => ?_)
      refine lv_aloadN hx hb d_SL_store_43 (lv_at hl 0 rfl) ?_
      refine lv_ifnullN (tgt := 55) hx hb d_SL_store_45 (by decide) ?_
      exact rw_retv hx hb hr hlocks d_SL_store_55 hS () (trivial) (by first | exact hP | (exfalso; omega))
    have hdo : (4 * (msl pr a) + (mpg wd se (msl pr a) a)) ∈ od := (hO.2.1 _).mpr ⟨by omega, h0⟩
    have hin : ∀ x ∈ dvW k ad bd ed kd nb sh mb (4 * (msl pr a) + (mpg wd se (msl pr a) a)), x ∈ (slW q k gd wd se pr ++ plW od k ad bd ed kd nb sh mb) := fun x hx => List.mem_append_right _ (plW_in hdo x hx)
    refine ss_rv (y := .ref (ad (4 * (msl pr a) + (mpg wd se (msl pr a) a)))) (by rw [hg, if_neg h0]; rfl) ?_
    by_cases h_1 : kd (4 * (msl pr a) + (mpg wd se (msl pr a) a)) = 1
    · skip
      refine lv_astore (lv' := [(4, .ref (ad (4 * (msl pr a) + (mpg wd se (msl pr a) a)))), (3, .int (nI (msl pr a))), (0, .ref (q 1)), (1, .int (nI a)), (2, .int (nI v))]) hx hb d_SL_store_41 hl (by decide) rfl (fun ls hl => ?_)
      refine lv_aload hx hb d_SL_store_43 (lv_at hl 0 rfl) ?_
      refine lv_ifnull hx hb d_SL_store_45 ?_
      refine lv_aload hx hb d_SL_store_48 (lv_at hl 0 rfl) ?_
      refine lv_iload_n hx hb d_SL_store_50 rfl (lv_at hl 3 rfl) ?_
      refine lv_iload_n hx hb d_SL_store_51 rfl (lv_at hl 4 rfl) ?_
      have hPd := va_mem hP (fun x hx => hin x ((dvW_1 h_1).symm ▸ hx))
      have hDd : va_D A _ := (dvW_1 h_1) ▸ va_Dm hD hdo
      refine kw_vU (As := [.int (nI a), .int (nI v)]) (rest := []) ⟨hx, hb, hml, hown, hts⟩ (c_RA_store256 l D k (ad (4 * (msl pr a) + (mpg wd se (msl pr a) a))) (bd (4 * (msl pr a) + (mpg wd se (msl pr a) a))) (sft mb (256 * (4 * (msl pr a) + (mpg wd se (msl pr a) a))) 256) a v (by omega) (by omega)) (va_cwA (owner := "SlotScreen$Device") (x := y_DV_store) 2 hts (gU w_504 w_506 w_510 w_511 w_12 w_512) rfl rfl rfl (hX.1 (.declares y_DV_store) (by unfold NWL; simp)) (by decide +kernel) ⟨Nat.le_of_ble_eq_true rfl, Nat.le_of_ble_eq_true rfl⟩) hK hPd hDd hS hA (va_recv hK hPd (ci := 5) (q0 := 0) rfl rfl) rfl hl.1 rfl (Nat.le_of_ble_eq_true rfl) d_SL_store_52 ⟨Nat.zero_le _, Nat.zero_le _⟩ (fun _ H9 locs _ hP1 hk1 hS9 => ?_)
      rw [← dvW_1 (k := k) (ad := ad) (bd := bd) (ed := ed) (nb := nb) (sh := sh) (mb := mb) h_1] at hk1
      rw [sft_u (by omega), ← dvW_1 (k := k) (ad := ad) (bd := bd) (ed := ed) (nb := nb) (sh := sh) h_1] at hP1
      obtain ⟨hP, hD⟩ := pl_mb hO hP hD hdo (by omega) hk1 hP1
      have hS := hS9
      generalize H9 = H at hP hS ⊢
      have hP : va_P D vwCl (slW q k gd wd se pr ++ plW od k ad bd ed kd nb sh (ss_up mb (256 * (4 * (msl pr a) + (mpg wd se (msl pr a) a)) + a) v)) H := hP
      have hD : va_D A (slW q k gd wd se pr ++ plW od k ad bd ed kd nb sh (ss_up mb (256 * (4 * (msl pr a) + (mpg wd se (msl pr a) a)) + a) v)) := hD
      exact rw_retv hx hb hr hlocks d_SL_store_55 hS () (trivial) (by first | exact hP | (exfalso; omega))
    by_cases h_2 : kd (4 * (msl pr a) + (mpg wd se (msl pr a) a)) = 2
    · skip
      refine lv_astore (lv' := [(4, .ref (ad (4 * (msl pr a) + (mpg wd se (msl pr a) a)))), (3, .int (nI (msl pr a))), (0, .ref (q 1)), (1, .int (nI a)), (2, .int (nI v))]) hx hb d_SL_store_41 hl (by decide) rfl (fun ls hl => ?_)
      refine lv_aload hx hb d_SL_store_43 (lv_at hl 0 rfl) ?_
      refine lv_ifnull hx hb d_SL_store_45 ?_
      refine lv_aload hx hb d_SL_store_48 (lv_at hl 0 rfl) ?_
      refine lv_iload_n hx hb d_SL_store_50 rfl (lv_at hl 3 rfl) ?_
      refine lv_iload_n hx hb d_SL_store_51 rfl (lv_at hl 4 rfl) ?_
      have hPd := va_mem hP (fun x hx => hin x ((dvW_2 h_2).symm ▸ hx))
      have hDd : va_D A _ := (dvW_2 h_2) ▸ va_Dm hD hdo
      refine kw_vU (As := [.int (nI a), .int (nI v)]) (rest := []) ⟨hx, hb, hml, hown, hts⟩ (c_RO_store l D k (ad (4 * (msl pr a) + (mpg wd se (msl pr a) a))) (bd (4 * (msl pr a) + (mpg wd se (msl pr a) a))) (sft mb (256 * (4 * (msl pr a) + (mpg wd se (msl pr a) a))) 256) (nI a) (nI v)) (va_cwA (owner := "SlotScreen$Device") (x := y_DV_store) 2 hts (gU w_504 w_506 w_513 w_514 w_13 w_515) rfl rfl rfl (hX.1 (.declares y_DV_store) (by unfold NWL; simp)) (by decide +kernel) ⟨Nat.le_of_ble_eq_true rfl, Nat.le_of_ble_eq_true rfl⟩) hK hPd hDd hS hA (va_recv hK hPd (ci := 6) (q0 := 0) rfl rfl) rfl hl.1 rfl (Nat.le_of_ble_eq_true rfl) d_SL_store_52 ⟨Nat.zero_le _, Nat.zero_le _⟩ (fun _ H9 locs _ hP1 hk1 hS9 => ?_)
      rw [← dvW_2 (k := k) (ad := ad) (bd := bd) (ed := ed) (nb := nb) (sh := sh) (mb := mb) h_2] at hk1
      rw [← dvW_2 (k := k) (ad := ad) (bd := bd) (ed := ed) (nb := nb) (sh := sh) (mb := mb) h_2] at hP1
      have hP := pl_fr (dv' := dvW k ad bd ed kd nb sh mb) hP hD hdo (fun _ _ _ => rfl) hk1 hP1
      have hS := hS9
      generalize H9 = H at hP hS ⊢
      have hP : va_P D vwCl (slW q k gd wd se pr ++ plW od k ad bd ed kd nb sh mb) H := hP
      have hD : va_D A (slW q k gd wd se pr ++ plW od k ad bd ed kd nb sh mb) := hD
      exact rw_retv hx hb hr hlocks d_SL_store_55 hS () (trivial) (by first | exact hP | (exfalso; omega))
    by_cases h_3 : kd (4 * (msl pr a) + (mpg wd se (msl pr a) a)) = 3
    · skip
      obtain ⟨hn1, hn2, hn3⟩ := hO.2.2.2 (4 * (msl pr a) + (mpg wd se (msl pr a) a)) (by omega) h_3
      refine lv_astore (lv' := [(4, .ref (ad (4 * (msl pr a) + (mpg wd se (msl pr a) a)))), (3, .int (nI (msl pr a))), (0, .ref (q 1)), (1, .int (nI a)), (2, .int (nI v))]) hx hb d_SL_store_41 hl (by decide) rfl (fun ls hl => ?_)
      refine lv_aload hx hb d_SL_store_43 (lv_at hl 0 rfl) ?_
      refine lv_ifnull hx hb d_SL_store_45 ?_
      refine lv_aload hx hb d_SL_store_48 (lv_at hl 0 rfl) ?_
      refine lv_iload_n hx hb d_SL_store_50 rfl (lv_at hl 3 rfl) ?_
      refine lv_iload_n hx hb d_SL_store_51 rfl (lv_at hl 4 rfl) ?_
      have hPd := va_mem hP (fun x hx => hin x ((dvW_3 h_3).symm ▸ hx))
      have hDd : va_D A _ := (dvW_3 h_3) ▸ va_Dm hD hdo
      by_cases hw : 64 ≤ a ∧ a ≤ 191
      · skip
        have hPd := va_mem hP (fun x hx => hin x ((dvW_3 h_3).symm ▸ hx))
        have hDd : va_D A _ := (dvW_3 h_3) ▸ va_Dm hD hdo
        refine kw_vU (As := [.int (nI a), .int (nI v)]) (rest := []) ⟨hx, hb, hml, hown, hts⟩ (c_BK_storei l D k (ad (4 * (msl pr a) + (mpg wd se (msl pr a) a))) (bd (4 * (msl pr a) + (mpg wd se (msl pr a) a))) (ed (4 * (msl pr a) + (mpg wd se (msl pr a) a))) (nb (4 * (msl pr a) + (mpg wd se (msl pr a) a))) (sft mb (256 * (4 * (msl pr a) + (mpg wd se (msl pr a) a))) (32 * nb (4 * (msl pr a) + (mpg wd se (msl pr a) a)))) (sft sh (4 * (4 * (msl pr a) + (mpg wd se (msl pr a) a))) 4) hn1 hn2 a v (by omega) (by omega) hw) (va_cwA (owner := "SlotScreen$Device") (x := y_DV_store) 2 hts (gU w_504 w_506 w_507 w_508 w_14 w_509) rfl rfl rfl (hX.1 (.declares y_DV_store) (by unfold NWL; simp)) (by decide +kernel) ⟨Nat.le_of_ble_eq_true rfl, Nat.le_of_ble_eq_true rfl⟩) hK hPd hDd hS hA (va_recv hK hPd (ci := 4) (q0 := 0) rfl rfl) rfl hl.1 rfl (Nat.le_of_ble_eq_true rfl) d_SL_store_52 ⟨Nat.zero_le _, Nat.zero_le _⟩ (fun _ H9 locs _ hP1 hk1 hS9 => ?_)
        rw [← dvW_3 (k := k) (ad := ad) (bd := bd) (ed := ed) (nb := nb) (sh := sh) (mb := mb) h_3] at hk1
        rw [sft_u (f := sh) (by omega), ← dvW_3 (k := k) (ad := ad) (bd := bd) (ed := ed) (nb := nb) (mb := mb) h_3] at hP1
        obtain ⟨hP, hD⟩ := pl_sh hP hD hdo (by omega) hk1 hP1
        have hS := hS9
        generalize H9 = H at hP hS ⊢
        have hP : va_P D vwCl (slW q k gd wd se pr ++ plW od k ad bd ed kd nb (ss_up sh (4 * (4 * (msl pr a) + (mpg wd se (msl pr a) a)) + ((a - 64) / 32)) (v % nb (4 * (msl pr a) + (mpg wd se (msl pr a) a)))) mb) H := hP
        have hD : va_D A (slW q k gd wd se pr ++ plW od k ad bd ed kd nb (ss_up sh (4 * (4 * (msl pr a) + (mpg wd se (msl pr a) a)) + ((a - 64) / 32)) (v % nb (4 * (msl pr a) + (mpg wd se (msl pr a) a)))) mb) := hD
        exact rw_retv hx hb hr hlocks d_SL_store_55 hS () (trivial) (by first | exact hP | (exfalso; omega))
      · skip
        have hPd := va_mem hP (fun x hx => hin x ((dvW_3 h_3).symm ▸ hx))
        have hDd : va_D A _ := (dvW_3 h_3) ▸ va_Dm hD hdo
        refine kw_vU (As := [.int (nI a), .int (nI v)]) (rest := []) ⟨hx, hb, hml, hown, hts⟩ (c_BK_storeo l D k (ad (4 * (msl pr a) + (mpg wd se (msl pr a) a))) (bd (4 * (msl pr a) + (mpg wd se (msl pr a) a))) (ed (4 * (msl pr a) + (mpg wd se (msl pr a) a))) (nb (4 * (msl pr a) + (mpg wd se (msl pr a) a))) (sft mb (256 * (4 * (msl pr a) + (mpg wd se (msl pr a) a))) (32 * nb (4 * (msl pr a) + (mpg wd se (msl pr a) a)))) (sft sh (4 * (4 * (msl pr a) + (mpg wd se (msl pr a) a))) 4) a v (by omega) (by omega) hw) (va_cwA (owner := "SlotScreen$Device") (x := y_DV_store) 2 hts (gU w_504 w_506 w_507 w_508 w_14 w_509) rfl rfl rfl (hX.1 (.declares y_DV_store) (by unfold NWL; simp)) (by decide +kernel) ⟨Nat.le_of_ble_eq_true rfl, Nat.le_of_ble_eq_true rfl⟩) hK hPd hDd hS hA (va_recv hK hPd (ci := 4) (q0 := 0) rfl rfl) rfl hl.1 rfl (Nat.le_of_ble_eq_true rfl) d_SL_store_52 ⟨Nat.zero_le _, Nat.zero_le _⟩ (fun _ H9 locs _ hP1 hk1 hS9 => ?_)
        rw [← dvW_3 (k := k) (ad := ad) (bd := bd) (ed := ed) (nb := nb) (sh := sh) (mb := mb) h_3] at hk1
        rw [← dvW_3 (k := k) (ad := ad) (bd := bd) (ed := ed) (nb := nb) (sh := sh) (mb := mb) h_3] at hP1
        have hP := pl_fr (dv' := dvW k ad bd ed kd nb sh mb) hP hD hdo (fun _ _ _ => rfl) hk1 hP1
        have hS := hS9
        generalize H9 = H at hP hS ⊢
        have hP : va_P D vwCl (slW q k gd wd se pr ++ plW od k ad bd ed kd nb sh mb) H := hP
        have hD : va_D A (slW q k gd wd se pr ++ plW od k ad bd ed kd nb sh mb) := hD
        exact rw_retv hx hb hr hlocks d_SL_store_55 hS () (trivial) (by first | exact hP | (exfalso; omega))
    have h_4 : kd (4 * (msl pr a) + (mpg wd se (msl pr a) a)) = 4 := by omega
    refine lv_astore (lv' := [(4, .ref (ad (4 * (msl pr a) + (mpg wd se (msl pr a) a)))), (3, .int (nI (msl pr a))), (0, .ref (q 1)), (1, .int (nI a)), (2, .int (nI v))]) hx hb d_SL_store_41 hl (by decide) rfl (fun ls hl => ?_)
    refine lv_aload hx hb d_SL_store_43 (lv_at hl 0 rfl) ?_
    refine lv_ifnull hx hb d_SL_store_45 ?_
    refine lv_aload hx hb d_SL_store_48 (lv_at hl 0 rfl) ?_
    refine lv_iload_n hx hb d_SL_store_50 rfl (lv_at hl 3 rfl) ?_
    refine lv_iload_n hx hb d_SL_store_51 rfl (lv_at hl 4 rfl) ?_
    have hPd := va_mem hP (fun x hx => hin x ((dvW_4 h_4).symm ▸ hx))
    have hDd : va_D A _ := (dvW_4 h_4) ▸ va_Dm hD hdo
    refine kw_vU (As := [.int (nI a), .int (nI v)]) (rest := []) ⟨hx, hb, hml, hown, hts⟩ (c_RA_store64 l D k (ad (4 * (msl pr a) + (mpg wd se (msl pr a) a))) (bd (4 * (msl pr a) + (mpg wd se (msl pr a) a))) (sft mb (256 * (4 * (msl pr a) + (mpg wd se (msl pr a) a))) 64) a v (by omega) (by omega)) (va_cwA (owner := "SlotScreen$Device") (x := y_DV_store) 2 hts (gU w_504 w_506 w_510 w_511 w_12 w_512) rfl rfl rfl (hX.1 (.declares y_DV_store) (by unfold NWL; simp)) (by decide +kernel) ⟨Nat.le_of_ble_eq_true rfl, Nat.le_of_ble_eq_true rfl⟩) hK hPd hDd hS hA (va_recv hK hPd (ci := 5) (q0 := 0) rfl rfl) rfl hl.1 rfl (Nat.le_of_ble_eq_true rfl) d_SL_store_52 ⟨Nat.zero_le _, Nat.zero_le _⟩ (fun _ H9 locs _ hP1 hk1 hS9 => ?_)
    rw [← dvW_4 (k := k) (ad := ad) (bd := bd) (ed := ed) (nb := nb) (sh := sh) (mb := mb) h_4] at hk1
    rw [sft_u (by omega), ← dvW_4 (k := k) (ad := ad) (bd := bd) (ed := ed) (nb := nb) (sh := sh) h_4] at hP1
    obtain ⟨hP, hD⟩ := pl_mb hO hP hD hdo (by omega) hk1 hP1
    have hS := hS9
    generalize H9 = H at hP hS ⊢
    have hP : va_P D vwCl (slW q k gd wd se pr ++ plW od k ad bd ed kd nb sh (ss_up mb (256 * (4 * (msl pr a) + (mpg wd se (msl pr a) a)) + (a % 64)) v)) H := hP
    have hD : va_D A (slW q k gd wd se pr ++ plW od k ad bd ed kd nb sh (ss_up mb (256 * (4 * (msl pr a) + (mpg wd se (msl pr a) a)) + (a % 64)) v)) := hD
    exact rw_retv hx hb hr hlocks d_SL_store_55 hS () (trivial) (by first | exact hP | (exfalso; omega))
  · have c3 := mt (n_eq0 (by omega)).mpr c3
    refine lv_iload_n hx hb d_SL_store_15 rfl (lv_at hl 2 rfl) ?_
    refine lv_sipush (v := nI 255) hx hb d_SL_store_16 (by decide +kernel) ?_
    refine lv_icmp_ne (tgt := 30) hx hb d_SL_store_19 (by decide) (fun c5 => ?_) (fun c5 => ?_)
    · have c5 := mt (nI_eq (by omega) (by omega)).mpr c5
      refine lv_aload_n hx hb d_SL_store_30 rfl (lv_at hl 1 rfl) ?_
      refine lv_iload_n hx hb d_SL_store_31 rfl (lv_at hl 0 rfl) ?_
      refine lv_aload_n hx hb d_SL_store_32 rfl (lv_at hl 1 rfl) ?_
      refine lv_iload_n hx hb d_SL_store_33 rfl (lv_at hl 0 rfl) ?_
      refine lv_iload_n hx hb d_SL_store_34 rfl (lv_at hl 2 rfl) ?_
      have g6 := mpg_lt wd se (msl pr a) a
      refine kr_iV (As := [.int (nI (msl pr a)), .int (nI a)]) (rest := [.int (nI (msl pr a)), .ref (q 1)]) ⟨hx, hb, hml, hown, hts⟩ (c_SL_partAt l D k q gd wd se pr hwd hse (by omega) (msl pr a) a (by omega) (by omega)) (cwV 2 hts (gV w_503 w_464 w_465 w_2 w_466) rfl rfl rfl (by decide +kernel) ⟨Nat.le_of_ble_eq_true rfl, Nat.le_of_ble_eq_true rfl⟩) hK (hP.sub (ws' := (slW q k gd wd se pr)) [0, 1, 2, 3] rfl) (va_recv hK hP (ci := 1) (q0 := 0) rfl rfl) rfl hl.1 rfl (Nat.le_of_ble_eq_true rfl) d_SL_store_35 ⟨Nat.zero_le _, Nat.zero_le _⟩ ?_
      refine kr_qV (As := [.int (nI (msl pr a)), .int (nI (mpg wd se (msl pr a) a))]) (rest := []) ⟨hx, hb, hml, hown, hts⟩ (c_SL_deviceIn l D k q gd wd se pr (msl pr a) (mpg wd se (msl pr a) a) (by omega) (by omega)) (cwV 2 hts (gV w_471 w_117 w_118 w_2 w_119) rfl rfl rfl (by decide +kernel) ⟨Nat.le_of_ble_eq_true rfl, Nat.le_of_ble_eq_true rfl⟩) hK (hP.sub (ws' := (slW q k gd wd se pr)) [0, 1, 2, 3] rfl) (va_recv hK hP (ci := 1) (q0 := 0) rfl rfl) rfl hl.1 rfl (Nat.le_of_ble_eq_true rfl) d_SL_store_38 ⟨Nat.zero_le _, Nat.zero_le _⟩ ?_
      have hg := hO.1 (4 * (msl pr a) + (mpg wd se (msl pr a) a)) (by omega)
      have hk5 := hkd (4 * (msl pr a) + (mpg wd se (msl pr a) a))
      by_cases h0 : kd (4 * (msl pr a) + (mpg wd se (msl pr a) a)) = 0
      · refine ss_rv (y := .null) (by rw [hg, if_pos h0]; rfl) ?_
        refine lv_astoreN (lv' := [(4, .null), (3, .int (nI (msl pr a))), (0, .ref (q 1)), (1, .int (nI a)), (2, .int (nI v))]) hx hb d_SL_store_41 hl (by decide) rfl (fun ls hl => ?_)
        refine lv_aloadN hx hb d_SL_store_43 (lv_at hl 0 rfl) ?_
        refine lv_ifnullN (tgt := 55) hx hb d_SL_store_45 (by decide) ?_
        exact rw_retv hx hb hr hlocks d_SL_store_55 hS () (trivial) (by first | exact hP | (exfalso; omega))
      have hdo : (4 * (msl pr a) + (mpg wd se (msl pr a) a)) ∈ od := (hO.2.1 _).mpr ⟨by omega, h0⟩
      have hin : ∀ x ∈ dvW k ad bd ed kd nb sh mb (4 * (msl pr a) + (mpg wd se (msl pr a) a)), x ∈ (slW q k gd wd se pr ++ plW od k ad bd ed kd nb sh mb) := fun x hx => List.mem_append_right _ (plW_in hdo x hx)
      refine ss_rv (y := .ref (ad (4 * (msl pr a) + (mpg wd se (msl pr a) a)))) (by rw [hg, if_neg h0]; rfl) ?_
      by_cases h_1 : kd (4 * (msl pr a) + (mpg wd se (msl pr a) a)) = 1
      · skip
        refine lv_astore (lv' := [(4, .ref (ad (4 * (msl pr a) + (mpg wd se (msl pr a) a)))), (3, .int (nI (msl pr a))), (0, .ref (q 1)), (1, .int (nI a)), (2, .int (nI v))]) hx hb d_SL_store_41 hl (by decide) rfl (fun ls hl => ?_)
        refine lv_aload hx hb d_SL_store_43 (lv_at hl 0 rfl) ?_
        refine lv_ifnull hx hb d_SL_store_45 ?_
        refine lv_aload hx hb d_SL_store_48 (lv_at hl 0 rfl) ?_
        refine lv_iload_n hx hb d_SL_store_50 rfl (lv_at hl 3 rfl) ?_
        refine lv_iload_n hx hb d_SL_store_51 rfl (lv_at hl 4 rfl) ?_
        have hPd := va_mem hP (fun x hx => hin x ((dvW_1 h_1).symm ▸ hx))
        have hDd : va_D A _ := (dvW_1 h_1) ▸ va_Dm hD hdo
        refine kw_vU (As := [.int (nI a), .int (nI v)]) (rest := []) ⟨hx, hb, hml, hown, hts⟩ (c_RA_store256 l D k (ad (4 * (msl pr a) + (mpg wd se (msl pr a) a))) (bd (4 * (msl pr a) + (mpg wd se (msl pr a) a))) (sft mb (256 * (4 * (msl pr a) + (mpg wd se (msl pr a) a))) 256) a v (by omega) (by omega)) (va_cwA (owner := "SlotScreen$Device") (x := y_DV_store) 2 hts (gU w_504 w_506 w_510 w_511 w_12 w_512) rfl rfl rfl (hX.1 (.declares y_DV_store) (by unfold NWL; simp)) (by decide +kernel) ⟨Nat.le_of_ble_eq_true rfl, Nat.le_of_ble_eq_true rfl⟩) hK hPd hDd hS hA (va_recv hK hPd (ci := 5) (q0 := 0) rfl rfl) rfl hl.1 rfl (Nat.le_of_ble_eq_true rfl) d_SL_store_52 ⟨Nat.zero_le _, Nat.zero_le _⟩ (fun _ H9 locs _ hP1 hk1 hS9 => ?_)
        rw [← dvW_1 (k := k) (ad := ad) (bd := bd) (ed := ed) (nb := nb) (sh := sh) (mb := mb) h_1] at hk1
        rw [sft_u (by omega), ← dvW_1 (k := k) (ad := ad) (bd := bd) (ed := ed) (nb := nb) (sh := sh) h_1] at hP1
        obtain ⟨hP, hD⟩ := pl_mb hO hP hD hdo (by omega) hk1 hP1
        have hS := hS9
        generalize H9 = H at hP hS ⊢
        have hP : va_P D vwCl (slW q k gd wd se pr ++ plW od k ad bd ed kd nb sh (ss_up mb (256 * (4 * (msl pr a) + (mpg wd se (msl pr a) a)) + a) v)) H := hP
        have hD : va_D A (slW q k gd wd se pr ++ plW od k ad bd ed kd nb sh (ss_up mb (256 * (4 * (msl pr a) + (mpg wd se (msl pr a) a)) + a) v)) := hD
        exact rw_retv hx hb hr hlocks d_SL_store_55 hS () (trivial) (by first | exact hP | (exfalso; omega))
      by_cases h_2 : kd (4 * (msl pr a) + (mpg wd se (msl pr a) a)) = 2
      · skip
        refine lv_astore (lv' := [(4, .ref (ad (4 * (msl pr a) + (mpg wd se (msl pr a) a)))), (3, .int (nI (msl pr a))), (0, .ref (q 1)), (1, .int (nI a)), (2, .int (nI v))]) hx hb d_SL_store_41 hl (by decide) rfl (fun ls hl => ?_)
        refine lv_aload hx hb d_SL_store_43 (lv_at hl 0 rfl) ?_
        refine lv_ifnull hx hb d_SL_store_45 ?_
        refine lv_aload hx hb d_SL_store_48 (lv_at hl 0 rfl) ?_
        refine lv_iload_n hx hb d_SL_store_50 rfl (lv_at hl 3 rfl) ?_
        refine lv_iload_n hx hb d_SL_store_51 rfl (lv_at hl 4 rfl) ?_
        have hPd := va_mem hP (fun x hx => hin x ((dvW_2 h_2).symm ▸ hx))
        have hDd : va_D A _ := (dvW_2 h_2) ▸ va_Dm hD hdo
        refine kw_vU (As := [.int (nI a), .int (nI v)]) (rest := []) ⟨hx, hb, hml, hown, hts⟩ (c_RO_store l D k (ad (4 * (msl pr a) + (mpg wd se (msl pr a) a))) (bd (4 * (msl pr a) + (mpg wd se (msl pr a) a))) (sft mb (256 * (4 * (msl pr a) + (mpg wd se (msl pr a) a))) 256) (nI a) (nI v)) (va_cwA (owner := "SlotScreen$Device") (x := y_DV_store) 2 hts (gU w_504 w_506 w_513 w_514 w_13 w_515) rfl rfl rfl (hX.1 (.declares y_DV_store) (by unfold NWL; simp)) (by decide +kernel) ⟨Nat.le_of_ble_eq_true rfl, Nat.le_of_ble_eq_true rfl⟩) hK hPd hDd hS hA (va_recv hK hPd (ci := 6) (q0 := 0) rfl rfl) rfl hl.1 rfl (Nat.le_of_ble_eq_true rfl) d_SL_store_52 ⟨Nat.zero_le _, Nat.zero_le _⟩ (fun _ H9 locs _ hP1 hk1 hS9 => ?_)
        rw [← dvW_2 (k := k) (ad := ad) (bd := bd) (ed := ed) (nb := nb) (sh := sh) (mb := mb) h_2] at hk1
        rw [← dvW_2 (k := k) (ad := ad) (bd := bd) (ed := ed) (nb := nb) (sh := sh) (mb := mb) h_2] at hP1
        have hP := pl_fr (dv' := dvW k ad bd ed kd nb sh mb) hP hD hdo (fun _ _ _ => rfl) hk1 hP1
        have hS := hS9
        generalize H9 = H at hP hS ⊢
        have hP : va_P D vwCl (slW q k gd wd se pr ++ plW od k ad bd ed kd nb sh mb) H := hP
        have hD : va_D A (slW q k gd wd se pr ++ plW od k ad bd ed kd nb sh mb) := hD
        exact rw_retv hx hb hr hlocks d_SL_store_55 hS () (trivial) (by first | exact hP | (exfalso; omega))
      by_cases h_3 : kd (4 * (msl pr a) + (mpg wd se (msl pr a) a)) = 3
      · skip
        obtain ⟨hn1, hn2, hn3⟩ := hO.2.2.2 (4 * (msl pr a) + (mpg wd se (msl pr a) a)) (by omega) h_3
        refine lv_astore (lv' := [(4, .ref (ad (4 * (msl pr a) + (mpg wd se (msl pr a) a)))), (3, .int (nI (msl pr a))), (0, .ref (q 1)), (1, .int (nI a)), (2, .int (nI v))]) hx hb d_SL_store_41 hl (by decide) rfl (fun ls hl => ?_)
        refine lv_aload hx hb d_SL_store_43 (lv_at hl 0 rfl) ?_
        refine lv_ifnull hx hb d_SL_store_45 ?_
        refine lv_aload hx hb d_SL_store_48 (lv_at hl 0 rfl) ?_
        refine lv_iload_n hx hb d_SL_store_50 rfl (lv_at hl 3 rfl) ?_
        refine lv_iload_n hx hb d_SL_store_51 rfl (lv_at hl 4 rfl) ?_
        have hPd := va_mem hP (fun x hx => hin x ((dvW_3 h_3).symm ▸ hx))
        have hDd : va_D A _ := (dvW_3 h_3) ▸ va_Dm hD hdo
        by_cases hw : 64 ≤ a ∧ a ≤ 191
        · skip
          have hPd := va_mem hP (fun x hx => hin x ((dvW_3 h_3).symm ▸ hx))
          have hDd : va_D A _ := (dvW_3 h_3) ▸ va_Dm hD hdo
          refine kw_vU (As := [.int (nI a), .int (nI v)]) (rest := []) ⟨hx, hb, hml, hown, hts⟩ (c_BK_storei l D k (ad (4 * (msl pr a) + (mpg wd se (msl pr a) a))) (bd (4 * (msl pr a) + (mpg wd se (msl pr a) a))) (ed (4 * (msl pr a) + (mpg wd se (msl pr a) a))) (nb (4 * (msl pr a) + (mpg wd se (msl pr a) a))) (sft mb (256 * (4 * (msl pr a) + (mpg wd se (msl pr a) a))) (32 * nb (4 * (msl pr a) + (mpg wd se (msl pr a) a)))) (sft sh (4 * (4 * (msl pr a) + (mpg wd se (msl pr a) a))) 4) hn1 hn2 a v (by omega) (by omega) hw) (va_cwA (owner := "SlotScreen$Device") (x := y_DV_store) 2 hts (gU w_504 w_506 w_507 w_508 w_14 w_509) rfl rfl rfl (hX.1 (.declares y_DV_store) (by unfold NWL; simp)) (by decide +kernel) ⟨Nat.le_of_ble_eq_true rfl, Nat.le_of_ble_eq_true rfl⟩) hK hPd hDd hS hA (va_recv hK hPd (ci := 4) (q0 := 0) rfl rfl) rfl hl.1 rfl (Nat.le_of_ble_eq_true rfl) d_SL_store_52 ⟨Nat.zero_le _, Nat.zero_le _⟩ (fun _ H9 locs _ hP1 hk1 hS9 => ?_)
          rw [← dvW_3 (k := k) (ad := ad) (bd := bd) (ed := ed) (nb := nb) (sh := sh) (mb := mb) h_3] at hk1
          rw [sft_u (f := sh) (by omega), ← dvW_3 (k := k) (ad := ad) (bd := bd) (ed := ed) (nb := nb) (mb := mb) h_3] at hP1
          obtain ⟨hP, hD⟩ := pl_sh hP hD hdo (by omega) hk1 hP1
          have hS := hS9
          generalize H9 = H at hP hS ⊢
          have hP : va_P D vwCl (slW q k gd wd se pr ++ plW od k ad bd ed kd nb (ss_up sh (4 * (4 * (msl pr a) + (mpg wd se (msl pr a) a)) + ((a - 64) / 32)) (v % nb (4 * (msl pr a) + (mpg wd se (msl pr a) a)))) mb) H := hP
          have hD : va_D A (slW q k gd wd se pr ++ plW od k ad bd ed kd nb (ss_up sh (4 * (4 * (msl pr a) + (mpg wd se (msl pr a) a)) + ((a - 64) / 32)) (v % nb (4 * (msl pr a) + (mpg wd se (msl pr a) a)))) mb) := hD
          exact rw_retv hx hb hr hlocks d_SL_store_55 hS () (trivial) (by first | exact hP | (exfalso; omega))
        · skip
          have hPd := va_mem hP (fun x hx => hin x ((dvW_3 h_3).symm ▸ hx))
          have hDd : va_D A _ := (dvW_3 h_3) ▸ va_Dm hD hdo
          refine kw_vU (As := [.int (nI a), .int (nI v)]) (rest := []) ⟨hx, hb, hml, hown, hts⟩ (c_BK_storeo l D k (ad (4 * (msl pr a) + (mpg wd se (msl pr a) a))) (bd (4 * (msl pr a) + (mpg wd se (msl pr a) a))) (ed (4 * (msl pr a) + (mpg wd se (msl pr a) a))) (nb (4 * (msl pr a) + (mpg wd se (msl pr a) a))) (sft mb (256 * (4 * (msl pr a) + (mpg wd se (msl pr a) a))) (32 * nb (4 * (msl pr a) + (mpg wd se (msl pr a) a)))) (sft sh (4 * (4 * (msl pr a) + (mpg wd se (msl pr a) a))) 4) a v (by omega) (by omega) hw) (va_cwA (owner := "SlotScreen$Device") (x := y_DV_store) 2 hts (gU w_504 w_506 w_507 w_508 w_14 w_509) rfl rfl rfl (hX.1 (.declares y_DV_store) (by unfold NWL; simp)) (by decide +kernel) ⟨Nat.le_of_ble_eq_true rfl, Nat.le_of_ble_eq_true rfl⟩) hK hPd hDd hS hA (va_recv hK hPd (ci := 4) (q0 := 0) rfl rfl) rfl hl.1 rfl (Nat.le_of_ble_eq_true rfl) d_SL_store_52 ⟨Nat.zero_le _, Nat.zero_le _⟩ (fun _ H9 locs _ hP1 hk1 hS9 => ?_)
          rw [← dvW_3 (k := k) (ad := ad) (bd := bd) (ed := ed) (nb := nb) (sh := sh) (mb := mb) h_3] at hk1
          rw [← dvW_3 (k := k) (ad := ad) (bd := bd) (ed := ed) (nb := nb) (sh := sh) (mb := mb) h_3] at hP1
          have hP := pl_fr (dv' := dvW k ad bd ed kd nb sh mb) hP hD hdo (fun _ _ _ => rfl) hk1 hP1
          have hS := hS9
          generalize H9 = H at hP hS ⊢
          have hP : va_P D vwCl (slW q k gd wd se pr ++ plW od k ad bd ed kd nb sh mb) H := hP
          have hD : va_D A (slW q k gd wd se pr ++ plW od k ad bd ed kd nb sh mb) := hD
          exact rw_retv hx hb hr hlocks d_SL_store_55 hS () (trivial) (by first | exact hP | (exfalso; omega))
      have h_4 : kd (4 * (msl pr a) + (mpg wd se (msl pr a) a)) = 4 := by omega
      refine lv_astore (lv' := [(4, .ref (ad (4 * (msl pr a) + (mpg wd se (msl pr a) a)))), (3, .int (nI (msl pr a))), (0, .ref (q 1)), (1, .int (nI a)), (2, .int (nI v))]) hx hb d_SL_store_41 hl (by decide) rfl (fun ls hl => ?_)
      refine lv_aload hx hb d_SL_store_43 (lv_at hl 0 rfl) ?_
      refine lv_ifnull hx hb d_SL_store_45 ?_
      refine lv_aload hx hb d_SL_store_48 (lv_at hl 0 rfl) ?_
      refine lv_iload_n hx hb d_SL_store_50 rfl (lv_at hl 3 rfl) ?_
      refine lv_iload_n hx hb d_SL_store_51 rfl (lv_at hl 4 rfl) ?_
      have hPd := va_mem hP (fun x hx => hin x ((dvW_4 h_4).symm ▸ hx))
      have hDd : va_D A _ := (dvW_4 h_4) ▸ va_Dm hD hdo
      refine kw_vU (As := [.int (nI a), .int (nI v)]) (rest := []) ⟨hx, hb, hml, hown, hts⟩ (c_RA_store64 l D k (ad (4 * (msl pr a) + (mpg wd se (msl pr a) a))) (bd (4 * (msl pr a) + (mpg wd se (msl pr a) a))) (sft mb (256 * (4 * (msl pr a) + (mpg wd se (msl pr a) a))) 64) a v (by omega) (by omega)) (va_cwA (owner := "SlotScreen$Device") (x := y_DV_store) 2 hts (gU w_504 w_506 w_510 w_511 w_12 w_512) rfl rfl rfl (hX.1 (.declares y_DV_store) (by unfold NWL; simp)) (by decide +kernel) ⟨Nat.le_of_ble_eq_true rfl, Nat.le_of_ble_eq_true rfl⟩) hK hPd hDd hS hA (va_recv hK hPd (ci := 5) (q0 := 0) rfl rfl) rfl hl.1 rfl (Nat.le_of_ble_eq_true rfl) d_SL_store_52 ⟨Nat.zero_le _, Nat.zero_le _⟩ (fun _ H9 locs _ hP1 hk1 hS9 => ?_)
      rw [← dvW_4 (k := k) (ad := ad) (bd := bd) (ed := ed) (nb := nb) (sh := sh) (mb := mb) h_4] at hk1
      rw [sft_u (by omega), ← dvW_4 (k := k) (ad := ad) (bd := bd) (ed := ed) (nb := nb) (sh := sh) h_4] at hP1
      obtain ⟨hP, hD⟩ := pl_mb hO hP hD hdo (by omega) hk1 hP1
      have hS := hS9
      generalize H9 = H at hP hS ⊢
      have hP : va_P D vwCl (slW q k gd wd se pr ++ plW od k ad bd ed kd nb sh (ss_up mb (256 * (4 * (msl pr a) + (mpg wd se (msl pr a) a)) + (a % 64)) v)) H := hP
      have hD : va_D A (slW q k gd wd se pr ++ plW od k ad bd ed kd nb sh (ss_up mb (256 * (4 * (msl pr a) + (mpg wd se (msl pr a) a)) + (a % 64)) v)) := hD
      exact rw_retv hx hb hr hlocks d_SL_store_55 hS () (trivial) (by first | exact hP | (exfalso; omega))
    · have c5 := (nI_eq (by omega) (by omega)).mp c5
      exfalso; omega
set_option maxHeartbeats 4000000 in
set_option maxRecDepth 100000 in
theorem c_SL_store4 (l : Launch) (D : va_G) (k : Nat → ClassId) (q : Nat → Nat) (gd : Nat → Option Nat) (wd : Nat → Nat) (se : Nat → Nat) (pr : Nat) (od : List Nat) (ad bd ed kd nb sh mb : Nat → Nat) (hwd : ∀ j, wd j < 2) (hse : ∀ j, se j < 256) (hpr : pr < 256) (hO : plO od gd ad kd nb sh) (hkd : ∀ j, kd j < 5) (hmb : ∀ j, mb j < 256) (a v : Nat) (ha : a < 256) (hv : v < 256) (h1 : ¬ (a = 255 ∧ wd (msl pr a) = 1)) (hk : kd (4 * msl pr a + mpg wd se (msl pr a) a) = 4) : xw_v l y_SL_store b_SL_store 5 none { frames := 2, cells := 0, slots := 0, locals := 62 } D (kT k) (slW q k gd wd se pr ++ plW od k ad bd ed kd nb sh mb) [.ref (q 1), .int (nI a), .int (nI v)] (fun (_ : Unit) => True) (fun (_ : Unit) => (slW q k gd wd se pr ++ plW od k ad bd ed kd nb sh (ss_up mb (256 * (4 * msl pr a + mpg wd se (msl pr a) a) + a % 64) v))) := by
  refine xw_headv (by decide) (Nat.le_of_ble_eq_true rfl) ?_
  intro p e s m below meth c ls A hx hb hr hlocks hml hown hts hX hK hA hP hD hS hl
  have hown : s.vm.findClass "SlotScreen$Slots" = some m.cls := hown
  have hl : lv_has ls 5 [(0, .ref (q 1)), (1, .int (nI a)), (2, .int (nI v))] := hl
  have z1 := msl_lt pr a
  have z2 := mpg_lt wd se (msl pr a) a
  refine lv_aload_n hx hb d_SL_store_0 rfl (lv_at hl 0 rfl) ?_
  refine lv_iload_n hx hb d_SL_store_1 rfl (lv_at hl 1 rfl) ?_
  have g1 := msl_lt pr a
  refine kr_iV (As := [.int (nI a)]) (rest := []) ⟨hx, hb, hml, hown, hts⟩ (c_SL_slotAt l D k q gd wd se pr (by omega) a (by omega)) (cwV 1 hts (gV w_502 w_457 w_458 w_2 w_459) rfl rfl rfl (by decide +kernel) ⟨Nat.le_of_ble_eq_true rfl, Nat.le_of_ble_eq_true rfl⟩) hK (hP.sub (ws' := (slW q k gd wd se pr)) [0, 1, 2, 3] rfl) (va_recv hK hP (ci := 1) (q0 := 0) rfl rfl) rfl hl.1 rfl (Nat.le_of_ble_eq_true rfl) d_SL_store_2 ⟨Nat.zero_le _, Nat.zero_le _⟩ ?_
  refine lv_istore_n (lv' := [(3, .int (nI (msl pr a))), (0, .ref (q 1)), (1, .int (nI a)), (2, .int (nI v))]) hx hb d_SL_store_5 rfl hl (by decide) rfl (fun ls hl => ?_)
  refine lv_aload_n hx hb d_SL_store_6 rfl (lv_at hl 1 rfl) ?_
  refine va_get (D := D) (ci := 1) (v := .ref (q 3)) (C := R_SL) (T := T_SL) (N := 4) hx hb hts in_SL hown hK hP 0 rfl rfl 1 (by decide) (hts _ w_32) (fun _ h9 => h9) rfl d_SL_store_7 ?_
  refine lv_iload_n hx hb d_SL_store_10 rfl (lv_at hl 0 rfl) ?_
  refine va_zald hx hb hK hP 2 1 rfl rfl (vp_in_nI (by omega) (by omega)) d_SL_store_11 ?_
  refine ss_rt (y := nI (wd (msl pr a))) (congrArg (fun z => nI (wd z)) (nI_clamp (by omega))) ?_
  have g2 := hwd (msl pr a)
  refine lv_if_eq (tgt := 30) hx hb d_SL_store_12 (by decide) (fun c3 => ?_) (fun c3 => ?_)
  · have c3 := (n_eq0 (by omega)).mp c3
    refine lv_aload_n hx hb d_SL_store_30 rfl (lv_at hl 1 rfl) ?_
    refine lv_iload_n hx hb d_SL_store_31 rfl (lv_at hl 0 rfl) ?_
    refine lv_aload_n hx hb d_SL_store_32 rfl (lv_at hl 1 rfl) ?_
    refine lv_iload_n hx hb d_SL_store_33 rfl (lv_at hl 0 rfl) ?_
    refine lv_iload_n hx hb d_SL_store_34 rfl (lv_at hl 2 rfl) ?_
    have g4 := mpg_lt wd se (msl pr a) a
    refine kr_iV (As := [.int (nI (msl pr a)), .int (nI a)]) (rest := [.int (nI (msl pr a)), .ref (q 1)]) ⟨hx, hb, hml, hown, hts⟩ (c_SL_partAt l D k q gd wd se pr hwd hse (by omega) (msl pr a) a (by omega) (by omega)) (cwV 2 hts (gV w_503 w_464 w_465 w_2 w_466) rfl rfl rfl (by decide +kernel) ⟨Nat.le_of_ble_eq_true rfl, Nat.le_of_ble_eq_true rfl⟩) hK (hP.sub (ws' := (slW q k gd wd se pr)) [0, 1, 2, 3] rfl) (va_recv hK hP (ci := 1) (q0 := 0) rfl rfl) rfl hl.1 rfl (Nat.le_of_ble_eq_true rfl) d_SL_store_35 ⟨Nat.zero_le _, Nat.zero_le _⟩ ?_
    refine kr_qV (As := [.int (nI (msl pr a)), .int (nI (mpg wd se (msl pr a) a))]) (rest := []) ⟨hx, hb, hml, hown, hts⟩ (c_SL_deviceIn l D k q gd wd se pr (msl pr a) (mpg wd se (msl pr a) a) (by omega) (by omega)) (cwV 2 hts (gV w_471 w_117 w_118 w_2 w_119) rfl rfl rfl (by decide +kernel) ⟨Nat.le_of_ble_eq_true rfl, Nat.le_of_ble_eq_true rfl⟩) hK (hP.sub (ws' := (slW q k gd wd se pr)) [0, 1, 2, 3] rfl) (va_recv hK hP (ci := 1) (q0 := 0) rfl rfl) rfl hl.1 rfl (Nat.le_of_ble_eq_true rfl) d_SL_store_38 ⟨Nat.zero_le _, Nat.zero_le _⟩ ?_
    have hg := hO.1 (4 * (msl pr a) + (mpg wd se (msl pr a) a)) (by omega)
    have hk5 := hkd (4 * (msl pr a) + (mpg wd se (msl pr a) a))
    by_cases h0 : kd (4 * (msl pr a) + (mpg wd se (msl pr a) a)) = 0
    · refine ss_rv (y := .null) (by rw [hg, if_pos h0]; rfl) ?_
      refine lv_astoreN (lv' := [(4, .null), (3, .int (nI (msl pr a))), (0, .ref (q 1)), (1, .int (nI a)), (2, .int (nI v))]) hx hb d_SL_store_41 hl (by decide) rfl (fun ls hl => ?_)
      refine lv_aloadN hx hb d_SL_store_43 (lv_at hl 0 rfl) ?_
      refine lv_ifnullN (tgt := 55) hx hb d_SL_store_45 (by decide) ?_
      exact rw_retv hx hb hr hlocks d_SL_store_55 hS () (trivial) (by first | exact hP | (exfalso; omega))
    have hdo : (4 * (msl pr a) + (mpg wd se (msl pr a) a)) ∈ od := (hO.2.1 _).mpr ⟨by omega, h0⟩
    have hin : ∀ x ∈ dvW k ad bd ed kd nb sh mb (4 * (msl pr a) + (mpg wd se (msl pr a) a)), x ∈ (slW q k gd wd se pr ++ plW od k ad bd ed kd nb sh mb) := fun x hx => List.mem_append_right _ (plW_in hdo x hx)
    refine ss_rv (y := .ref (ad (4 * (msl pr a) + (mpg wd se (msl pr a) a)))) (by rw [hg, if_neg h0]; rfl) ?_
    by_cases h_1 : kd (4 * (msl pr a) + (mpg wd se (msl pr a) a)) = 1
    · skip
      refine lv_astore (lv' := [(4, .ref (ad (4 * (msl pr a) + (mpg wd se (msl pr a) a)))), (3, .int (nI (msl pr a))), (0, .ref (q 1)), (1, .int (nI a)), (2, .int (nI v))]) hx hb d_SL_store_41 hl (by decide) rfl (fun ls hl => ?_)
      refine lv_aload hx hb d_SL_store_43 (lv_at hl 0 rfl) ?_
      refine lv_ifnull hx hb d_SL_store_45 ?_
      refine lv_aload hx hb d_SL_store_48 (lv_at hl 0 rfl) ?_
      refine lv_iload_n hx hb d_SL_store_50 rfl (lv_at hl 3 rfl) ?_
      refine lv_iload_n hx hb d_SL_store_51 rfl (lv_at hl 4 rfl) ?_
      have hPd := va_mem hP (fun x hx => hin x ((dvW_1 h_1).symm ▸ hx))
      have hDd : va_D A _ := (dvW_1 h_1) ▸ va_Dm hD hdo
      refine kw_vU (As := [.int (nI a), .int (nI v)]) (rest := []) ⟨hx, hb, hml, hown, hts⟩ (c_RA_store256 l D k (ad (4 * (msl pr a) + (mpg wd se (msl pr a) a))) (bd (4 * (msl pr a) + (mpg wd se (msl pr a) a))) (sft mb (256 * (4 * (msl pr a) + (mpg wd se (msl pr a) a))) 256) a v (by omega) (by omega)) (va_cwA (owner := "SlotScreen$Device") (x := y_DV_store) 2 hts (gU w_504 w_506 w_510 w_511 w_12 w_512) rfl rfl rfl (hX.1 (.declares y_DV_store) (by unfold NWL; simp)) (by decide +kernel) ⟨Nat.le_of_ble_eq_true rfl, Nat.le_of_ble_eq_true rfl⟩) hK hPd hDd hS hA (va_recv hK hPd (ci := 5) (q0 := 0) rfl rfl) rfl hl.1 rfl (Nat.le_of_ble_eq_true rfl) d_SL_store_52 ⟨Nat.zero_le _, Nat.zero_le _⟩ (fun _ H9 locs _ hP1 hk1 hS9 => ?_)
      rw [← dvW_1 (k := k) (ad := ad) (bd := bd) (ed := ed) (nb := nb) (sh := sh) (mb := mb) h_1] at hk1
      rw [sft_u (by omega), ← dvW_1 (k := k) (ad := ad) (bd := bd) (ed := ed) (nb := nb) (sh := sh) h_1] at hP1
      obtain ⟨hP, hD⟩ := pl_mb hO hP hD hdo (by omega) hk1 hP1
      have hS := hS9
      generalize H9 = H at hP hS ⊢
      have hP : va_P D vwCl (slW q k gd wd se pr ++ plW od k ad bd ed kd nb sh (ss_up mb (256 * (4 * (msl pr a) + (mpg wd se (msl pr a) a)) + a) v)) H := hP
      have hD : va_D A (slW q k gd wd se pr ++ plW od k ad bd ed kd nb sh (ss_up mb (256 * (4 * (msl pr a) + (mpg wd se (msl pr a) a)) + a) v)) := hD
      exact rw_retv hx hb hr hlocks d_SL_store_55 hS () (trivial) (by first | exact hP | (exfalso; omega))
    by_cases h_2 : kd (4 * (msl pr a) + (mpg wd se (msl pr a) a)) = 2
    · skip
      refine lv_astore (lv' := [(4, .ref (ad (4 * (msl pr a) + (mpg wd se (msl pr a) a)))), (3, .int (nI (msl pr a))), (0, .ref (q 1)), (1, .int (nI a)), (2, .int (nI v))]) hx hb d_SL_store_41 hl (by decide) rfl (fun ls hl => ?_)
      refine lv_aload hx hb d_SL_store_43 (lv_at hl 0 rfl) ?_
      refine lv_ifnull hx hb d_SL_store_45 ?_
      refine lv_aload hx hb d_SL_store_48 (lv_at hl 0 rfl) ?_
      refine lv_iload_n hx hb d_SL_store_50 rfl (lv_at hl 3 rfl) ?_
      refine lv_iload_n hx hb d_SL_store_51 rfl (lv_at hl 4 rfl) ?_
      have hPd := va_mem hP (fun x hx => hin x ((dvW_2 h_2).symm ▸ hx))
      have hDd : va_D A _ := (dvW_2 h_2) ▸ va_Dm hD hdo
      refine kw_vU (As := [.int (nI a), .int (nI v)]) (rest := []) ⟨hx, hb, hml, hown, hts⟩ (c_RO_store l D k (ad (4 * (msl pr a) + (mpg wd se (msl pr a) a))) (bd (4 * (msl pr a) + (mpg wd se (msl pr a) a))) (sft mb (256 * (4 * (msl pr a) + (mpg wd se (msl pr a) a))) 256) (nI a) (nI v)) (va_cwA (owner := "SlotScreen$Device") (x := y_DV_store) 2 hts (gU w_504 w_506 w_513 w_514 w_13 w_515) rfl rfl rfl (hX.1 (.declares y_DV_store) (by unfold NWL; simp)) (by decide +kernel) ⟨Nat.le_of_ble_eq_true rfl, Nat.le_of_ble_eq_true rfl⟩) hK hPd hDd hS hA (va_recv hK hPd (ci := 6) (q0 := 0) rfl rfl) rfl hl.1 rfl (Nat.le_of_ble_eq_true rfl) d_SL_store_52 ⟨Nat.zero_le _, Nat.zero_le _⟩ (fun _ H9 locs _ hP1 hk1 hS9 => ?_)
      rw [← dvW_2 (k := k) (ad := ad) (bd := bd) (ed := ed) (nb := nb) (sh := sh) (mb := mb) h_2] at hk1
      rw [← dvW_2 (k := k) (ad := ad) (bd := bd) (ed := ed) (nb := nb) (sh := sh) (mb := mb) h_2] at hP1
      have hP := pl_fr (dv' := dvW k ad bd ed kd nb sh mb) hP hD hdo (fun _ _ _ => rfl) hk1 hP1
      have hS := hS9
      generalize H9 = H at hP hS ⊢
      have hP : va_P D vwCl (slW q k gd wd se pr ++ plW od k ad bd ed kd nb sh mb) H := hP
      have hD : va_D A (slW q k gd wd se pr ++ plW od k ad bd ed kd nb sh mb) := hD
      exact rw_retv hx hb hr hlocks d_SL_store_55 hS () (trivial) (by first | exact hP | (exfalso; omega))
    by_cases h_3 : kd (4 * (msl pr a) + (mpg wd se (msl pr a) a)) = 3
    · skip
      obtain ⟨hn1, hn2, hn3⟩ := hO.2.2.2 (4 * (msl pr a) + (mpg wd se (msl pr a) a)) (by omega) h_3
      refine lv_astore (lv' := [(4, .ref (ad (4 * (msl pr a) + (mpg wd se (msl pr a) a)))), (3, .int (nI (msl pr a))), (0, .ref (q 1)), (1, .int (nI a)), (2, .int (nI v))]) hx hb d_SL_store_41 hl (by decide) rfl (fun ls hl => ?_)
      refine lv_aload hx hb d_SL_store_43 (lv_at hl 0 rfl) ?_
      refine lv_ifnull hx hb d_SL_store_45 ?_
      refine lv_aload hx hb d_SL_store_48 (lv_at hl 0 rfl) ?_
      refine lv_iload_n hx hb d_SL_store_50 rfl (lv_at hl 3 rfl) ?_
      refine lv_iload_n hx hb d_SL_store_51 rfl (lv_at hl 4 rfl) ?_
      have hPd := va_mem hP (fun x hx => hin x ((dvW_3 h_3).symm ▸ hx))
      have hDd : va_D A _ := (dvW_3 h_3) ▸ va_Dm hD hdo
      by_cases hw : 64 ≤ a ∧ a ≤ 191
      · skip
        have hPd := va_mem hP (fun x hx => hin x ((dvW_3 h_3).symm ▸ hx))
        have hDd : va_D A _ := (dvW_3 h_3) ▸ va_Dm hD hdo
        refine kw_vU (As := [.int (nI a), .int (nI v)]) (rest := []) ⟨hx, hb, hml, hown, hts⟩ (c_BK_storei l D k (ad (4 * (msl pr a) + (mpg wd se (msl pr a) a))) (bd (4 * (msl pr a) + (mpg wd se (msl pr a) a))) (ed (4 * (msl pr a) + (mpg wd se (msl pr a) a))) (nb (4 * (msl pr a) + (mpg wd se (msl pr a) a))) (sft mb (256 * (4 * (msl pr a) + (mpg wd se (msl pr a) a))) (32 * nb (4 * (msl pr a) + (mpg wd se (msl pr a) a)))) (sft sh (4 * (4 * (msl pr a) + (mpg wd se (msl pr a) a))) 4) hn1 hn2 a v (by omega) (by omega) hw) (va_cwA (owner := "SlotScreen$Device") (x := y_DV_store) 2 hts (gU w_504 w_506 w_507 w_508 w_14 w_509) rfl rfl rfl (hX.1 (.declares y_DV_store) (by unfold NWL; simp)) (by decide +kernel) ⟨Nat.le_of_ble_eq_true rfl, Nat.le_of_ble_eq_true rfl⟩) hK hPd hDd hS hA (va_recv hK hPd (ci := 4) (q0 := 0) rfl rfl) rfl hl.1 rfl (Nat.le_of_ble_eq_true rfl) d_SL_store_52 ⟨Nat.zero_le _, Nat.zero_le _⟩ (fun _ H9 locs _ hP1 hk1 hS9 => ?_)
        rw [← dvW_3 (k := k) (ad := ad) (bd := bd) (ed := ed) (nb := nb) (sh := sh) (mb := mb) h_3] at hk1
        rw [sft_u (f := sh) (by omega), ← dvW_3 (k := k) (ad := ad) (bd := bd) (ed := ed) (nb := nb) (mb := mb) h_3] at hP1
        obtain ⟨hP, hD⟩ := pl_sh hP hD hdo (by omega) hk1 hP1
        have hS := hS9
        generalize H9 = H at hP hS ⊢
        have hP : va_P D vwCl (slW q k gd wd se pr ++ plW od k ad bd ed kd nb (ss_up sh (4 * (4 * (msl pr a) + (mpg wd se (msl pr a) a)) + ((a - 64) / 32)) (v % nb (4 * (msl pr a) + (mpg wd se (msl pr a) a)))) mb) H := hP
        have hD : va_D A (slW q k gd wd se pr ++ plW od k ad bd ed kd nb (ss_up sh (4 * (4 * (msl pr a) + (mpg wd se (msl pr a) a)) + ((a - 64) / 32)) (v % nb (4 * (msl pr a) + (mpg wd se (msl pr a) a)))) mb) := hD
        exact rw_retv hx hb hr hlocks d_SL_store_55 hS () (trivial) (by first | exact hP | (exfalso; omega))
      · skip
        have hPd := va_mem hP (fun x hx => hin x ((dvW_3 h_3).symm ▸ hx))
        have hDd : va_D A _ := (dvW_3 h_3) ▸ va_Dm hD hdo
        refine kw_vU (As := [.int (nI a), .int (nI v)]) (rest := []) ⟨hx, hb, hml, hown, hts⟩ (c_BK_storeo l D k (ad (4 * (msl pr a) + (mpg wd se (msl pr a) a))) (bd (4 * (msl pr a) + (mpg wd se (msl pr a) a))) (ed (4 * (msl pr a) + (mpg wd se (msl pr a) a))) (nb (4 * (msl pr a) + (mpg wd se (msl pr a) a))) (sft mb (256 * (4 * (msl pr a) + (mpg wd se (msl pr a) a))) (32 * nb (4 * (msl pr a) + (mpg wd se (msl pr a) a)))) (sft sh (4 * (4 * (msl pr a) + (mpg wd se (msl pr a) a))) 4) a v (by omega) (by omega) hw) (va_cwA (owner := "SlotScreen$Device") (x := y_DV_store) 2 hts (gU w_504 w_506 w_507 w_508 w_14 w_509) rfl rfl rfl (hX.1 (.declares y_DV_store) (by unfold NWL; simp)) (by decide +kernel) ⟨Nat.le_of_ble_eq_true rfl, Nat.le_of_ble_eq_true rfl⟩) hK hPd hDd hS hA (va_recv hK hPd (ci := 4) (q0 := 0) rfl rfl) rfl hl.1 rfl (Nat.le_of_ble_eq_true rfl) d_SL_store_52 ⟨Nat.zero_le _, Nat.zero_le _⟩ (fun _ H9 locs _ hP1 hk1 hS9 => ?_)
        rw [← dvW_3 (k := k) (ad := ad) (bd := bd) (ed := ed) (nb := nb) (sh := sh) (mb := mb) h_3] at hk1
        rw [← dvW_3 (k := k) (ad := ad) (bd := bd) (ed := ed) (nb := nb) (sh := sh) (mb := mb) h_3] at hP1
        have hP := pl_fr (dv' := dvW k ad bd ed kd nb sh mb) hP hD hdo (fun _ _ _ => rfl) hk1 hP1
        have hS := hS9
        generalize H9 = H at hP hS ⊢
        have hP : va_P D vwCl (slW q k gd wd se pr ++ plW od k ad bd ed kd nb sh mb) H := hP
        have hD : va_D A (slW q k gd wd se pr ++ plW od k ad bd ed kd nb sh mb) := hD
        exact rw_retv hx hb hr hlocks d_SL_store_55 hS () (trivial) (by first | exact hP | (exfalso; omega))
    have h_4 : kd (4 * (msl pr a) + (mpg wd se (msl pr a) a)) = 4 := by omega
    refine lv_astore (lv' := [(4, .ref (ad (4 * (msl pr a) + (mpg wd se (msl pr a) a)))), (3, .int (nI (msl pr a))), (0, .ref (q 1)), (1, .int (nI a)), (2, .int (nI v))]) hx hb d_SL_store_41 hl (by decide) rfl (fun ls hl => ?_)
    refine lv_aload hx hb d_SL_store_43 (lv_at hl 0 rfl) ?_
    refine lv_ifnull hx hb d_SL_store_45 ?_
    refine lv_aload hx hb d_SL_store_48 (lv_at hl 0 rfl) ?_
    refine lv_iload_n hx hb d_SL_store_50 rfl (lv_at hl 3 rfl) ?_
    refine lv_iload_n hx hb d_SL_store_51 rfl (lv_at hl 4 rfl) ?_
    have hPd := va_mem hP (fun x hx => hin x ((dvW_4 h_4).symm ▸ hx))
    have hDd : va_D A _ := (dvW_4 h_4) ▸ va_Dm hD hdo
    refine kw_vU (As := [.int (nI a), .int (nI v)]) (rest := []) ⟨hx, hb, hml, hown, hts⟩ (c_RA_store64 l D k (ad (4 * (msl pr a) + (mpg wd se (msl pr a) a))) (bd (4 * (msl pr a) + (mpg wd se (msl pr a) a))) (sft mb (256 * (4 * (msl pr a) + (mpg wd se (msl pr a) a))) 64) a v (by omega) (by omega)) (va_cwA (owner := "SlotScreen$Device") (x := y_DV_store) 2 hts (gU w_504 w_506 w_510 w_511 w_12 w_512) rfl rfl rfl (hX.1 (.declares y_DV_store) (by unfold NWL; simp)) (by decide +kernel) ⟨Nat.le_of_ble_eq_true rfl, Nat.le_of_ble_eq_true rfl⟩) hK hPd hDd hS hA (va_recv hK hPd (ci := 5) (q0 := 0) rfl rfl) rfl hl.1 rfl (Nat.le_of_ble_eq_true rfl) d_SL_store_52 ⟨Nat.zero_le _, Nat.zero_le _⟩ (fun _ H9 locs _ hP1 hk1 hS9 => ?_)
    rw [← dvW_4 (k := k) (ad := ad) (bd := bd) (ed := ed) (nb := nb) (sh := sh) (mb := mb) h_4] at hk1
    rw [sft_u (by omega), ← dvW_4 (k := k) (ad := ad) (bd := bd) (ed := ed) (nb := nb) (sh := sh) h_4] at hP1
    obtain ⟨hP, hD⟩ := pl_mb hO hP hD hdo (by omega) hk1 hP1
    have hS := hS9
    generalize H9 = H at hP hS ⊢
    have hP : va_P D vwCl (slW q k gd wd se pr ++ plW od k ad bd ed kd nb sh (ss_up mb (256 * (4 * (msl pr a) + (mpg wd se (msl pr a) a)) + (a % 64)) v)) H := hP
    have hD : va_D A (slW q k gd wd se pr ++ plW od k ad bd ed kd nb sh (ss_up mb (256 * (4 * (msl pr a) + (mpg wd se (msl pr a) a)) + (a % 64)) v)) := hD
    exact rw_retv hx hb hr hlocks d_SL_store_55 hS () (trivial) (by first | exact hP | (exfalso; omega))
  · have c3 := mt (n_eq0 (by omega)).mpr c3
    refine lv_iload_n hx hb d_SL_store_15 rfl (lv_at hl 2 rfl) ?_
    refine lv_sipush (v := nI 255) hx hb d_SL_store_16 (by decide +kernel) ?_
    refine lv_icmp_ne (tgt := 30) hx hb d_SL_store_19 (by decide) (fun c5 => ?_) (fun c5 => ?_)
    · have c5 := mt (nI_eq (by omega) (by omega)).mpr c5
      refine lv_aload_n hx hb d_SL_store_30 rfl (lv_at hl 1 rfl) ?_
      refine lv_iload_n hx hb d_SL_store_31 rfl (lv_at hl 0 rfl) ?_
      refine lv_aload_n hx hb d_SL_store_32 rfl (lv_at hl 1 rfl) ?_
      refine lv_iload_n hx hb d_SL_store_33 rfl (lv_at hl 0 rfl) ?_
      refine lv_iload_n hx hb d_SL_store_34 rfl (lv_at hl 2 rfl) ?_
      have g6 := mpg_lt wd se (msl pr a) a
      refine kr_iV (As := [.int (nI (msl pr a)), .int (nI a)]) (rest := [.int (nI (msl pr a)), .ref (q 1)]) ⟨hx, hb, hml, hown, hts⟩ (c_SL_partAt l D k q gd wd se pr hwd hse (by omega) (msl pr a) a (by omega) (by omega)) (cwV 2 hts (gV w_503 w_464 w_465 w_2 w_466) rfl rfl rfl (by decide +kernel) ⟨Nat.le_of_ble_eq_true rfl, Nat.le_of_ble_eq_true rfl⟩) hK (hP.sub (ws' := (slW q k gd wd se pr)) [0, 1, 2, 3] rfl) (va_recv hK hP (ci := 1) (q0 := 0) rfl rfl) rfl hl.1 rfl (Nat.le_of_ble_eq_true rfl) d_SL_store_35 ⟨Nat.zero_le _, Nat.zero_le _⟩ ?_
      refine kr_qV (As := [.int (nI (msl pr a)), .int (nI (mpg wd se (msl pr a) a))]) (rest := []) ⟨hx, hb, hml, hown, hts⟩ (c_SL_deviceIn l D k q gd wd se pr (msl pr a) (mpg wd se (msl pr a) a) (by omega) (by omega)) (cwV 2 hts (gV w_471 w_117 w_118 w_2 w_119) rfl rfl rfl (by decide +kernel) ⟨Nat.le_of_ble_eq_true rfl, Nat.le_of_ble_eq_true rfl⟩) hK (hP.sub (ws' := (slW q k gd wd se pr)) [0, 1, 2, 3] rfl) (va_recv hK hP (ci := 1) (q0 := 0) rfl rfl) rfl hl.1 rfl (Nat.le_of_ble_eq_true rfl) d_SL_store_38 ⟨Nat.zero_le _, Nat.zero_le _⟩ ?_
      have hg := hO.1 (4 * (msl pr a) + (mpg wd se (msl pr a) a)) (by omega)
      have hk5 := hkd (4 * (msl pr a) + (mpg wd se (msl pr a) a))
      by_cases h0 : kd (4 * (msl pr a) + (mpg wd se (msl pr a) a)) = 0
      · refine ss_rv (y := .null) (by rw [hg, if_pos h0]; rfl) ?_
        refine lv_astoreN (lv' := [(4, .null), (3, .int (nI (msl pr a))), (0, .ref (q 1)), (1, .int (nI a)), (2, .int (nI v))]) hx hb d_SL_store_41 hl (by decide) rfl (fun ls hl => ?_)
        refine lv_aloadN hx hb d_SL_store_43 (lv_at hl 0 rfl) ?_
        refine lv_ifnullN (tgt := 55) hx hb d_SL_store_45 (by decide) ?_
        exact rw_retv hx hb hr hlocks d_SL_store_55 hS () (trivial) (by first | exact hP | (exfalso; omega))
      have hdo : (4 * (msl pr a) + (mpg wd se (msl pr a) a)) ∈ od := (hO.2.1 _).mpr ⟨by omega, h0⟩
      have hin : ∀ x ∈ dvW k ad bd ed kd nb sh mb (4 * (msl pr a) + (mpg wd se (msl pr a) a)), x ∈ (slW q k gd wd se pr ++ plW od k ad bd ed kd nb sh mb) := fun x hx => List.mem_append_right _ (plW_in hdo x hx)
      refine ss_rv (y := .ref (ad (4 * (msl pr a) + (mpg wd se (msl pr a) a)))) (by rw [hg, if_neg h0]; rfl) ?_
      by_cases h_1 : kd (4 * (msl pr a) + (mpg wd se (msl pr a) a)) = 1
      · skip
        refine lv_astore (lv' := [(4, .ref (ad (4 * (msl pr a) + (mpg wd se (msl pr a) a)))), (3, .int (nI (msl pr a))), (0, .ref (q 1)), (1, .int (nI a)), (2, .int (nI v))]) hx hb d_SL_store_41 hl (by decide) rfl (fun ls hl => ?_)
        refine lv_aload hx hb d_SL_store_43 (lv_at hl 0 rfl) ?_
        refine lv_ifnull hx hb d_SL_store_45 ?_
        refine lv_aload hx hb d_SL_store_48 (lv_at hl 0 rfl) ?_
        refine lv_iload_n hx hb d_SL_store_50 rfl (lv_at hl 3 rfl) ?_
        refine lv_iload_n hx hb d_SL_store_51 rfl (lv_at hl 4 rfl) ?_
        have hPd := va_mem hP (fun x hx => hin x ((dvW_1 h_1).symm ▸ hx))
        have hDd : va_D A _ := (dvW_1 h_1) ▸ va_Dm hD hdo
        refine kw_vU (As := [.int (nI a), .int (nI v)]) (rest := []) ⟨hx, hb, hml, hown, hts⟩ (c_RA_store256 l D k (ad (4 * (msl pr a) + (mpg wd se (msl pr a) a))) (bd (4 * (msl pr a) + (mpg wd se (msl pr a) a))) (sft mb (256 * (4 * (msl pr a) + (mpg wd se (msl pr a) a))) 256) a v (by omega) (by omega)) (va_cwA (owner := "SlotScreen$Device") (x := y_DV_store) 2 hts (gU w_504 w_506 w_510 w_511 w_12 w_512) rfl rfl rfl (hX.1 (.declares y_DV_store) (by unfold NWL; simp)) (by decide +kernel) ⟨Nat.le_of_ble_eq_true rfl, Nat.le_of_ble_eq_true rfl⟩) hK hPd hDd hS hA (va_recv hK hPd (ci := 5) (q0 := 0) rfl rfl) rfl hl.1 rfl (Nat.le_of_ble_eq_true rfl) d_SL_store_52 ⟨Nat.zero_le _, Nat.zero_le _⟩ (fun _ H9 locs _ hP1 hk1 hS9 => ?_)
        rw [← dvW_1 (k := k) (ad := ad) (bd := bd) (ed := ed) (nb := nb) (sh := sh) (mb := mb) h_1] at hk1
        rw [sft_u (by omega), ← dvW_1 (k := k) (ad := ad) (bd := bd) (ed := ed) (nb := nb) (sh := sh) h_1] at hP1
        obtain ⟨hP, hD⟩ := pl_mb hO hP hD hdo (by omega) hk1 hP1
        have hS := hS9
        generalize H9 = H at hP hS ⊢
        have hP : va_P D vwCl (slW q k gd wd se pr ++ plW od k ad bd ed kd nb sh (ss_up mb (256 * (4 * (msl pr a) + (mpg wd se (msl pr a) a)) + a) v)) H := hP
        have hD : va_D A (slW q k gd wd se pr ++ plW od k ad bd ed kd nb sh (ss_up mb (256 * (4 * (msl pr a) + (mpg wd se (msl pr a) a)) + a) v)) := hD
        exact rw_retv hx hb hr hlocks d_SL_store_55 hS () (trivial) (by first | exact hP | (exfalso; omega))
      by_cases h_2 : kd (4 * (msl pr a) + (mpg wd se (msl pr a) a)) = 2
      · skip
        refine lv_astore (lv' := [(4, .ref (ad (4 * (msl pr a) + (mpg wd se (msl pr a) a)))), (3, .int (nI (msl pr a))), (0, .ref (q 1)), (1, .int (nI a)), (2, .int (nI v))]) hx hb d_SL_store_41 hl (by decide) rfl (fun ls hl => ?_)
        refine lv_aload hx hb d_SL_store_43 (lv_at hl 0 rfl) ?_
        refine lv_ifnull hx hb d_SL_store_45 ?_
        refine lv_aload hx hb d_SL_store_48 (lv_at hl 0 rfl) ?_
        refine lv_iload_n hx hb d_SL_store_50 rfl (lv_at hl 3 rfl) ?_
        refine lv_iload_n hx hb d_SL_store_51 rfl (lv_at hl 4 rfl) ?_
        have hPd := va_mem hP (fun x hx => hin x ((dvW_2 h_2).symm ▸ hx))
        have hDd : va_D A _ := (dvW_2 h_2) ▸ va_Dm hD hdo
        refine kw_vU (As := [.int (nI a), .int (nI v)]) (rest := []) ⟨hx, hb, hml, hown, hts⟩ (c_RO_store l D k (ad (4 * (msl pr a) + (mpg wd se (msl pr a) a))) (bd (4 * (msl pr a) + (mpg wd se (msl pr a) a))) (sft mb (256 * (4 * (msl pr a) + (mpg wd se (msl pr a) a))) 256) (nI a) (nI v)) (va_cwA (owner := "SlotScreen$Device") (x := y_DV_store) 2 hts (gU w_504 w_506 w_513 w_514 w_13 w_515) rfl rfl rfl (hX.1 (.declares y_DV_store) (by unfold NWL; simp)) (by decide +kernel) ⟨Nat.le_of_ble_eq_true rfl, Nat.le_of_ble_eq_true rfl⟩) hK hPd hDd hS hA (va_recv hK hPd (ci := 6) (q0 := 0) rfl rfl) rfl hl.1 rfl (Nat.le_of_ble_eq_true rfl) d_SL_store_52 ⟨Nat.zero_le _, Nat.zero_le _⟩ (fun _ H9 locs _ hP1 hk1 hS9 => ?_)
        rw [← dvW_2 (k := k) (ad := ad) (bd := bd) (ed := ed) (nb := nb) (sh := sh) (mb := mb) h_2] at hk1
        rw [← dvW_2 (k := k) (ad := ad) (bd := bd) (ed := ed) (nb := nb) (sh := sh) (mb := mb) h_2] at hP1
        have hP := pl_fr (dv' := dvW k ad bd ed kd nb sh mb) hP hD hdo (fun _ _ _ => rfl) hk1 hP1
        have hS := hS9
        generalize H9 = H at hP hS ⊢
        have hP : va_P D vwCl (slW q k gd wd se pr ++ plW od k ad bd ed kd nb sh mb) H := hP
        have hD : va_D A (slW q k gd wd se pr ++ plW od k ad bd ed kd nb sh mb) := hD
        exact rw_retv hx hb hr hlocks d_SL_store_55 hS () (trivial) (by first | exact hP | (exfalso; omega))
      by_cases h_3 : kd (4 * (msl pr a) + (mpg wd se (msl pr a) a)) = 3
      · skip
        obtain ⟨hn1, hn2, hn3⟩ := hO.2.2.2 (4 * (msl pr a) + (mpg wd se (msl pr a) a)) (by omega) h_3
        refine lv_astore (lv' := [(4, .ref (ad (4 * (msl pr a) + (mpg wd se (msl pr a) a)))), (3, .int (nI (msl pr a))), (0, .ref (q 1)), (1, .int (nI a)), (2, .int (nI v))]) hx hb d_SL_store_41 hl (by decide) rfl (fun ls hl => ?_)
        refine lv_aload hx hb d_SL_store_43 (lv_at hl 0 rfl) ?_
        refine lv_ifnull hx hb d_SL_store_45 ?_
        refine lv_aload hx hb d_SL_store_48 (lv_at hl 0 rfl) ?_
        refine lv_iload_n hx hb d_SL_store_50 rfl (lv_at hl 3 rfl) ?_
        refine lv_iload_n hx hb d_SL_store_51 rfl (lv_at hl 4 rfl) ?_
        have hPd := va_mem hP (fun x hx => hin x ((dvW_3 h_3).symm ▸ hx))
        have hDd : va_D A _ := (dvW_3 h_3) ▸ va_Dm hD hdo
        by_cases hw : 64 ≤ a ∧ a ≤ 191
        · skip
          have hPd := va_mem hP (fun x hx => hin x ((dvW_3 h_3).symm ▸ hx))
          have hDd : va_D A _ := (dvW_3 h_3) ▸ va_Dm hD hdo
          refine kw_vU (As := [.int (nI a), .int (nI v)]) (rest := []) ⟨hx, hb, hml, hown, hts⟩ (c_BK_storei l D k (ad (4 * (msl pr a) + (mpg wd se (msl pr a) a))) (bd (4 * (msl pr a) + (mpg wd se (msl pr a) a))) (ed (4 * (msl pr a) + (mpg wd se (msl pr a) a))) (nb (4 * (msl pr a) + (mpg wd se (msl pr a) a))) (sft mb (256 * (4 * (msl pr a) + (mpg wd se (msl pr a) a))) (32 * nb (4 * (msl pr a) + (mpg wd se (msl pr a) a)))) (sft sh (4 * (4 * (msl pr a) + (mpg wd se (msl pr a) a))) 4) hn1 hn2 a v (by omega) (by omega) hw) (va_cwA (owner := "SlotScreen$Device") (x := y_DV_store) 2 hts (gU w_504 w_506 w_507 w_508 w_14 w_509) rfl rfl rfl (hX.1 (.declares y_DV_store) (by unfold NWL; simp)) (by decide +kernel) ⟨Nat.le_of_ble_eq_true rfl, Nat.le_of_ble_eq_true rfl⟩) hK hPd hDd hS hA (va_recv hK hPd (ci := 4) (q0 := 0) rfl rfl) rfl hl.1 rfl (Nat.le_of_ble_eq_true rfl) d_SL_store_52 ⟨Nat.zero_le _, Nat.zero_le _⟩ (fun _ H9 locs _ hP1 hk1 hS9 => ?_)
          rw [← dvW_3 (k := k) (ad := ad) (bd := bd) (ed := ed) (nb := nb) (sh := sh) (mb := mb) h_3] at hk1
          rw [sft_u (f := sh) (by omega), ← dvW_3 (k := k) (ad := ad) (bd := bd) (ed := ed) (nb := nb) (mb := mb) h_3] at hP1
          obtain ⟨hP, hD⟩ := pl_sh hP hD hdo (by omega) hk1 hP1
          have hS := hS9
          generalize H9 = H at hP hS ⊢
          have hP : va_P D vwCl (slW q k gd wd se pr ++ plW od k ad bd ed kd nb (ss_up sh (4 * (4 * (msl pr a) + (mpg wd se (msl pr a) a)) + ((a - 64) / 32)) (v % nb (4 * (msl pr a) + (mpg wd se (msl pr a) a)))) mb) H := hP
          have hD : va_D A (slW q k gd wd se pr ++ plW od k ad bd ed kd nb (ss_up sh (4 * (4 * (msl pr a) + (mpg wd se (msl pr a) a)) + ((a - 64) / 32)) (v % nb (4 * (msl pr a) + (mpg wd se (msl pr a) a)))) mb) := hD
          exact rw_retv hx hb hr hlocks d_SL_store_55 hS () (trivial) (by first | exact hP | (exfalso; omega))
        · skip
          have hPd := va_mem hP (fun x hx => hin x ((dvW_3 h_3).symm ▸ hx))
          have hDd : va_D A _ := (dvW_3 h_3) ▸ va_Dm hD hdo
          refine kw_vU (As := [.int (nI a), .int (nI v)]) (rest := []) ⟨hx, hb, hml, hown, hts⟩ (c_BK_storeo l D k (ad (4 * (msl pr a) + (mpg wd se (msl pr a) a))) (bd (4 * (msl pr a) + (mpg wd se (msl pr a) a))) (ed (4 * (msl pr a) + (mpg wd se (msl pr a) a))) (nb (4 * (msl pr a) + (mpg wd se (msl pr a) a))) (sft mb (256 * (4 * (msl pr a) + (mpg wd se (msl pr a) a))) (32 * nb (4 * (msl pr a) + (mpg wd se (msl pr a) a)))) (sft sh (4 * (4 * (msl pr a) + (mpg wd se (msl pr a) a))) 4) a v (by omega) (by omega) hw) (va_cwA (owner := "SlotScreen$Device") (x := y_DV_store) 2 hts (gU w_504 w_506 w_507 w_508 w_14 w_509) rfl rfl rfl (hX.1 (.declares y_DV_store) (by unfold NWL; simp)) (by decide +kernel) ⟨Nat.le_of_ble_eq_true rfl, Nat.le_of_ble_eq_true rfl⟩) hK hPd hDd hS hA (va_recv hK hPd (ci := 4) (q0 := 0) rfl rfl) rfl hl.1 rfl (Nat.le_of_ble_eq_true rfl) d_SL_store_52 ⟨Nat.zero_le _, Nat.zero_le _⟩ (fun _ H9 locs _ hP1 hk1 hS9 => ?_)
          rw [← dvW_3 (k := k) (ad := ad) (bd := bd) (ed := ed) (nb := nb) (sh := sh) (mb := mb) h_3] at hk1
          rw [← dvW_3 (k := k) (ad := ad) (bd := bd) (ed := ed) (nb := nb) (sh := sh) (mb := mb) h_3] at hP1
          have hP := pl_fr (dv' := dvW k ad bd ed kd nb sh mb) hP hD hdo (fun _ _ _ => rfl) hk1 hP1
          have hS := hS9
          generalize H9 = H at hP hS ⊢
          have hP : va_P D vwCl (slW q k gd wd se pr ++ plW od k ad bd ed kd nb sh mb) H := hP
          have hD : va_D A (slW q k gd wd se pr ++ plW od k ad bd ed kd nb sh mb) := hD
          exact rw_retv hx hb hr hlocks d_SL_store_55 hS () (trivial) (by first | exact hP | (exfalso; omega))
      have h_4 : kd (4 * (msl pr a) + (mpg wd se (msl pr a) a)) = 4 := by omega
      refine lv_astore (lv' := [(4, .ref (ad (4 * (msl pr a) + (mpg wd se (msl pr a) a)))), (3, .int (nI (msl pr a))), (0, .ref (q 1)), (1, .int (nI a)), (2, .int (nI v))]) hx hb d_SL_store_41 hl (by decide) rfl (fun ls hl => ?_)
      refine lv_aload hx hb d_SL_store_43 (lv_at hl 0 rfl) ?_
      refine lv_ifnull hx hb d_SL_store_45 ?_
      refine lv_aload hx hb d_SL_store_48 (lv_at hl 0 rfl) ?_
      refine lv_iload_n hx hb d_SL_store_50 rfl (lv_at hl 3 rfl) ?_
      refine lv_iload_n hx hb d_SL_store_51 rfl (lv_at hl 4 rfl) ?_
      have hPd := va_mem hP (fun x hx => hin x ((dvW_4 h_4).symm ▸ hx))
      have hDd : va_D A _ := (dvW_4 h_4) ▸ va_Dm hD hdo
      refine kw_vU (As := [.int (nI a), .int (nI v)]) (rest := []) ⟨hx, hb, hml, hown, hts⟩ (c_RA_store64 l D k (ad (4 * (msl pr a) + (mpg wd se (msl pr a) a))) (bd (4 * (msl pr a) + (mpg wd se (msl pr a) a))) (sft mb (256 * (4 * (msl pr a) + (mpg wd se (msl pr a) a))) 64) a v (by omega) (by omega)) (va_cwA (owner := "SlotScreen$Device") (x := y_DV_store) 2 hts (gU w_504 w_506 w_510 w_511 w_12 w_512) rfl rfl rfl (hX.1 (.declares y_DV_store) (by unfold NWL; simp)) (by decide +kernel) ⟨Nat.le_of_ble_eq_true rfl, Nat.le_of_ble_eq_true rfl⟩) hK hPd hDd hS hA (va_recv hK hPd (ci := 5) (q0 := 0) rfl rfl) rfl hl.1 rfl (Nat.le_of_ble_eq_true rfl) d_SL_store_52 ⟨Nat.zero_le _, Nat.zero_le _⟩ (fun _ H9 locs _ hP1 hk1 hS9 => ?_)
      rw [← dvW_4 (k := k) (ad := ad) (bd := bd) (ed := ed) (nb := nb) (sh := sh) (mb := mb) h_4] at hk1
      rw [sft_u (by omega), ← dvW_4 (k := k) (ad := ad) (bd := bd) (ed := ed) (nb := nb) (sh := sh) h_4] at hP1
      obtain ⟨hP, hD⟩ := pl_mb hO hP hD hdo (by omega) hk1 hP1
      have hS := hS9
      generalize H9 = H at hP hS ⊢
      have hP : va_P D vwCl (slW q k gd wd se pr ++ plW od k ad bd ed kd nb sh (ss_up mb (256 * (4 * (msl pr a) + (mpg wd se (msl pr a) a)) + (a % 64)) v)) H := hP
      have hD : va_D A (slW q k gd wd se pr ++ plW od k ad bd ed kd nb sh (ss_up mb (256 * (4 * (msl pr a) + (mpg wd se (msl pr a) a)) + (a % 64)) v)) := hD
      exact rw_retv hx hb hr hlocks d_SL_store_55 hS () (trivial) (by first | exact hP | (exfalso; omega))
    · have c5 := (nI_eq (by omega) (by omega)).mp c5
      exfalso; omega
set_option maxHeartbeats 4000000 in
set_option maxRecDepth 100000 in
theorem c_SL_store3 (l : Launch) (D : va_G) (k : Nat → ClassId) (q : Nat → Nat) (gd : Nat → Option Nat) (wd : Nat → Nat) (se : Nat → Nat) (pr : Nat) (od : List Nat) (ad bd ed kd nb sh mb : Nat → Nat) (hwd : ∀ j, wd j < 2) (hse : ∀ j, se j < 256) (hpr : pr < 256) (hO : plO od gd ad kd nb sh) (hkd : ∀ j, kd j < 5) (hmb : ∀ j, mb j < 256) (a v : Nat) (ha : a < 256) (hv : v < 256) (h1 : ¬ (a = 255 ∧ wd (msl pr a) = 1)) (hk : kd (4 * msl pr a + mpg wd se (msl pr a) a) = 3) (h2 : 64 ≤ a ∧ a ≤ 191) : xw_v l y_SL_store b_SL_store 5 none { frames := 2, cells := 0, slots := 0, locals := 62 } D (kT k) (slW q k gd wd se pr ++ plW od k ad bd ed kd nb sh mb) [.ref (q 1), .int (nI a), .int (nI v)] (fun (_ : Unit) => True) (fun (_ : Unit) => (slW q k gd wd se pr ++ plW od k ad bd ed kd nb (ss_up sh (4 * (4 * msl pr a + mpg wd se (msl pr a) a) + (a - 64) / 32) (v % nb (4 * msl pr a + mpg wd se (msl pr a) a))) mb)) := by
  refine xw_headv (by decide) (Nat.le_of_ble_eq_true rfl) ?_
  intro p e s m below meth c ls A hx hb hr hlocks hml hown hts hX hK hA hP hD hS hl
  have hown : s.vm.findClass "SlotScreen$Slots" = some m.cls := hown
  have hl : lv_has ls 5 [(0, .ref (q 1)), (1, .int (nI a)), (2, .int (nI v))] := hl
  have z1 := msl_lt pr a
  have z2 := mpg_lt wd se (msl pr a) a
  refine lv_aload_n hx hb d_SL_store_0 rfl (lv_at hl 0 rfl) ?_
  refine lv_iload_n hx hb d_SL_store_1 rfl (lv_at hl 1 rfl) ?_
  have g1 := msl_lt pr a
  refine kr_iV (As := [.int (nI a)]) (rest := []) ⟨hx, hb, hml, hown, hts⟩ (c_SL_slotAt l D k q gd wd se pr (by omega) a (by omega)) (cwV 1 hts (gV w_502 w_457 w_458 w_2 w_459) rfl rfl rfl (by decide +kernel) ⟨Nat.le_of_ble_eq_true rfl, Nat.le_of_ble_eq_true rfl⟩) hK (hP.sub (ws' := (slW q k gd wd se pr)) [0, 1, 2, 3] rfl) (va_recv hK hP (ci := 1) (q0 := 0) rfl rfl) rfl hl.1 rfl (Nat.le_of_ble_eq_true rfl) d_SL_store_2 ⟨Nat.zero_le _, Nat.zero_le _⟩ ?_
  refine lv_istore_n (lv' := [(3, .int (nI (msl pr a))), (0, .ref (q 1)), (1, .int (nI a)), (2, .int (nI v))]) hx hb d_SL_store_5 rfl hl (by decide) rfl (fun ls hl => ?_)
  refine lv_aload_n hx hb d_SL_store_6 rfl (lv_at hl 1 rfl) ?_
  refine va_get (D := D) (ci := 1) (v := .ref (q 3)) (C := R_SL) (T := T_SL) (N := 4) hx hb hts in_SL hown hK hP 0 rfl rfl 1 (by decide) (hts _ w_32) (fun _ h9 => h9) rfl d_SL_store_7 ?_
  refine lv_iload_n hx hb d_SL_store_10 rfl (lv_at hl 0 rfl) ?_
  refine va_zald hx hb hK hP 2 1 rfl rfl (vp_in_nI (by omega) (by omega)) d_SL_store_11 ?_
  refine ss_rt (y := nI (wd (msl pr a))) (congrArg (fun z => nI (wd z)) (nI_clamp (by omega))) ?_
  have g2 := hwd (msl pr a)
  refine lv_if_eq (tgt := 30) hx hb d_SL_store_12 (by decide) (fun c3 => ?_) (fun c3 => ?_)
  · have c3 := (n_eq0 (by omega)).mp c3
    refine lv_aload_n hx hb d_SL_store_30 rfl (lv_at hl 1 rfl) ?_
    refine lv_iload_n hx hb d_SL_store_31 rfl (lv_at hl 0 rfl) ?_
    refine lv_aload_n hx hb d_SL_store_32 rfl (lv_at hl 1 rfl) ?_
    refine lv_iload_n hx hb d_SL_store_33 rfl (lv_at hl 0 rfl) ?_
    refine lv_iload_n hx hb d_SL_store_34 rfl (lv_at hl 2 rfl) ?_
    have g4 := mpg_lt wd se (msl pr a) a
    refine kr_iV (As := [.int (nI (msl pr a)), .int (nI a)]) (rest := [.int (nI (msl pr a)), .ref (q 1)]) ⟨hx, hb, hml, hown, hts⟩ (c_SL_partAt l D k q gd wd se pr hwd hse (by omega) (msl pr a) a (by omega) (by omega)) (cwV 2 hts (gV w_503 w_464 w_465 w_2 w_466) rfl rfl rfl (by decide +kernel) ⟨Nat.le_of_ble_eq_true rfl, Nat.le_of_ble_eq_true rfl⟩) hK (hP.sub (ws' := (slW q k gd wd se pr)) [0, 1, 2, 3] rfl) (va_recv hK hP (ci := 1) (q0 := 0) rfl rfl) rfl hl.1 rfl (Nat.le_of_ble_eq_true rfl) d_SL_store_35 ⟨Nat.zero_le _, Nat.zero_le _⟩ ?_
    refine kr_qV (As := [.int (nI (msl pr a)), .int (nI (mpg wd se (msl pr a) a))]) (rest := []) ⟨hx, hb, hml, hown, hts⟩ (c_SL_deviceIn l D k q gd wd se pr (msl pr a) (mpg wd se (msl pr a) a) (by omega) (by omega)) (cwV 2 hts (gV w_471 w_117 w_118 w_2 w_119) rfl rfl rfl (by decide +kernel) ⟨Nat.le_of_ble_eq_true rfl, Nat.le_of_ble_eq_true rfl⟩) hK (hP.sub (ws' := (slW q k gd wd se pr)) [0, 1, 2, 3] rfl) (va_recv hK hP (ci := 1) (q0 := 0) rfl rfl) rfl hl.1 rfl (Nat.le_of_ble_eq_true rfl) d_SL_store_38 ⟨Nat.zero_le _, Nat.zero_le _⟩ ?_
    have hg := hO.1 (4 * (msl pr a) + (mpg wd se (msl pr a) a)) (by omega)
    have hk5 := hkd (4 * (msl pr a) + (mpg wd se (msl pr a) a))
    by_cases h0 : kd (4 * (msl pr a) + (mpg wd se (msl pr a) a)) = 0
    · refine ss_rv (y := .null) (by rw [hg, if_pos h0]; rfl) ?_
      refine lv_astoreN (lv' := [(4, .null), (3, .int (nI (msl pr a))), (0, .ref (q 1)), (1, .int (nI a)), (2, .int (nI v))]) hx hb d_SL_store_41 hl (by decide) rfl (fun ls hl => ?_)
      refine lv_aloadN hx hb d_SL_store_43 (lv_at hl 0 rfl) ?_
      refine lv_ifnullN (tgt := 55) hx hb d_SL_store_45 (by decide) ?_
      exact rw_retv hx hb hr hlocks d_SL_store_55 hS () (trivial) (by first | exact hP | (exfalso; omega))
    have hdo : (4 * (msl pr a) + (mpg wd se (msl pr a) a)) ∈ od := (hO.2.1 _).mpr ⟨by omega, h0⟩
    have hin : ∀ x ∈ dvW k ad bd ed kd nb sh mb (4 * (msl pr a) + (mpg wd se (msl pr a) a)), x ∈ (slW q k gd wd se pr ++ plW od k ad bd ed kd nb sh mb) := fun x hx => List.mem_append_right _ (plW_in hdo x hx)
    refine ss_rv (y := .ref (ad (4 * (msl pr a) + (mpg wd se (msl pr a) a)))) (by rw [hg, if_neg h0]; rfl) ?_
    by_cases h_1 : kd (4 * (msl pr a) + (mpg wd se (msl pr a) a)) = 1
    · skip
      refine lv_astore (lv' := [(4, .ref (ad (4 * (msl pr a) + (mpg wd se (msl pr a) a)))), (3, .int (nI (msl pr a))), (0, .ref (q 1)), (1, .int (nI a)), (2, .int (nI v))]) hx hb d_SL_store_41 hl (by decide) rfl (fun ls hl => ?_)
      refine lv_aload hx hb d_SL_store_43 (lv_at hl 0 rfl) ?_
      refine lv_ifnull hx hb d_SL_store_45 ?_
      refine lv_aload hx hb d_SL_store_48 (lv_at hl 0 rfl) ?_
      refine lv_iload_n hx hb d_SL_store_50 rfl (lv_at hl 3 rfl) ?_
      refine lv_iload_n hx hb d_SL_store_51 rfl (lv_at hl 4 rfl) ?_
      have hPd := va_mem hP (fun x hx => hin x ((dvW_1 h_1).symm ▸ hx))
      have hDd : va_D A _ := (dvW_1 h_1) ▸ va_Dm hD hdo
      refine kw_vU (As := [.int (nI a), .int (nI v)]) (rest := []) ⟨hx, hb, hml, hown, hts⟩ (c_RA_store256 l D k (ad (4 * (msl pr a) + (mpg wd se (msl pr a) a))) (bd (4 * (msl pr a) + (mpg wd se (msl pr a) a))) (sft mb (256 * (4 * (msl pr a) + (mpg wd se (msl pr a) a))) 256) a v (by omega) (by omega)) (va_cwA (owner := "SlotScreen$Device") (x := y_DV_store) 2 hts (gU w_504 w_506 w_510 w_511 w_12 w_512) rfl rfl rfl (hX.1 (.declares y_DV_store) (by unfold NWL; simp)) (by decide +kernel) ⟨Nat.le_of_ble_eq_true rfl, Nat.le_of_ble_eq_true rfl⟩) hK hPd hDd hS hA (va_recv hK hPd (ci := 5) (q0 := 0) rfl rfl) rfl hl.1 rfl (Nat.le_of_ble_eq_true rfl) d_SL_store_52 ⟨Nat.zero_le _, Nat.zero_le _⟩ (fun _ H9 locs _ hP1 hk1 hS9 => ?_)
      rw [← dvW_1 (k := k) (ad := ad) (bd := bd) (ed := ed) (nb := nb) (sh := sh) (mb := mb) h_1] at hk1
      rw [sft_u (by omega), ← dvW_1 (k := k) (ad := ad) (bd := bd) (ed := ed) (nb := nb) (sh := sh) h_1] at hP1
      obtain ⟨hP, hD⟩ := pl_mb hO hP hD hdo (by omega) hk1 hP1
      have hS := hS9
      generalize H9 = H at hP hS ⊢
      have hP : va_P D vwCl (slW q k gd wd se pr ++ plW od k ad bd ed kd nb sh (ss_up mb (256 * (4 * (msl pr a) + (mpg wd se (msl pr a) a)) + a) v)) H := hP
      have hD : va_D A (slW q k gd wd se pr ++ plW od k ad bd ed kd nb sh (ss_up mb (256 * (4 * (msl pr a) + (mpg wd se (msl pr a) a)) + a) v)) := hD
      exact rw_retv hx hb hr hlocks d_SL_store_55 hS () (trivial) (by first | exact hP | (exfalso; omega))
    by_cases h_2 : kd (4 * (msl pr a) + (mpg wd se (msl pr a) a)) = 2
    · skip
      refine lv_astore (lv' := [(4, .ref (ad (4 * (msl pr a) + (mpg wd se (msl pr a) a)))), (3, .int (nI (msl pr a))), (0, .ref (q 1)), (1, .int (nI a)), (2, .int (nI v))]) hx hb d_SL_store_41 hl (by decide) rfl (fun ls hl => ?_)
      refine lv_aload hx hb d_SL_store_43 (lv_at hl 0 rfl) ?_
      refine lv_ifnull hx hb d_SL_store_45 ?_
      refine lv_aload hx hb d_SL_store_48 (lv_at hl 0 rfl) ?_
      refine lv_iload_n hx hb d_SL_store_50 rfl (lv_at hl 3 rfl) ?_
      refine lv_iload_n hx hb d_SL_store_51 rfl (lv_at hl 4 rfl) ?_
      have hPd := va_mem hP (fun x hx => hin x ((dvW_2 h_2).symm ▸ hx))
      have hDd : va_D A _ := (dvW_2 h_2) ▸ va_Dm hD hdo
      refine kw_vU (As := [.int (nI a), .int (nI v)]) (rest := []) ⟨hx, hb, hml, hown, hts⟩ (c_RO_store l D k (ad (4 * (msl pr a) + (mpg wd se (msl pr a) a))) (bd (4 * (msl pr a) + (mpg wd se (msl pr a) a))) (sft mb (256 * (4 * (msl pr a) + (mpg wd se (msl pr a) a))) 256) (nI a) (nI v)) (va_cwA (owner := "SlotScreen$Device") (x := y_DV_store) 2 hts (gU w_504 w_506 w_513 w_514 w_13 w_515) rfl rfl rfl (hX.1 (.declares y_DV_store) (by unfold NWL; simp)) (by decide +kernel) ⟨Nat.le_of_ble_eq_true rfl, Nat.le_of_ble_eq_true rfl⟩) hK hPd hDd hS hA (va_recv hK hPd (ci := 6) (q0 := 0) rfl rfl) rfl hl.1 rfl (Nat.le_of_ble_eq_true rfl) d_SL_store_52 ⟨Nat.zero_le _, Nat.zero_le _⟩ (fun _ H9 locs _ hP1 hk1 hS9 => ?_)
      rw [← dvW_2 (k := k) (ad := ad) (bd := bd) (ed := ed) (nb := nb) (sh := sh) (mb := mb) h_2] at hk1
      rw [← dvW_2 (k := k) (ad := ad) (bd := bd) (ed := ed) (nb := nb) (sh := sh) (mb := mb) h_2] at hP1
      have hP := pl_fr (dv' := dvW k ad bd ed kd nb sh mb) hP hD hdo (fun _ _ _ => rfl) hk1 hP1
      have hS := hS9
      generalize H9 = H at hP hS ⊢
      have hP : va_P D vwCl (slW q k gd wd se pr ++ plW od k ad bd ed kd nb sh mb) H := hP
      have hD : va_D A (slW q k gd wd se pr ++ plW od k ad bd ed kd nb sh mb) := hD
      exact rw_retv hx hb hr hlocks d_SL_store_55 hS () (trivial) (by first | exact hP | (exfalso; omega))
    by_cases h_3 : kd (4 * (msl pr a) + (mpg wd se (msl pr a) a)) = 3
    · skip
      obtain ⟨hn1, hn2, hn3⟩ := hO.2.2.2 (4 * (msl pr a) + (mpg wd se (msl pr a) a)) (by omega) h_3
      refine lv_astore (lv' := [(4, .ref (ad (4 * (msl pr a) + (mpg wd se (msl pr a) a)))), (3, .int (nI (msl pr a))), (0, .ref (q 1)), (1, .int (nI a)), (2, .int (nI v))]) hx hb d_SL_store_41 hl (by decide) rfl (fun ls hl => ?_)
      refine lv_aload hx hb d_SL_store_43 (lv_at hl 0 rfl) ?_
      refine lv_ifnull hx hb d_SL_store_45 ?_
      refine lv_aload hx hb d_SL_store_48 (lv_at hl 0 rfl) ?_
      refine lv_iload_n hx hb d_SL_store_50 rfl (lv_at hl 3 rfl) ?_
      refine lv_iload_n hx hb d_SL_store_51 rfl (lv_at hl 4 rfl) ?_
      have hPd := va_mem hP (fun x hx => hin x ((dvW_3 h_3).symm ▸ hx))
      have hDd : va_D A _ := (dvW_3 h_3) ▸ va_Dm hD hdo
      by_cases hw : 64 ≤ a ∧ a ≤ 191
      · skip
        have hPd := va_mem hP (fun x hx => hin x ((dvW_3 h_3).symm ▸ hx))
        have hDd : va_D A _ := (dvW_3 h_3) ▸ va_Dm hD hdo
        refine kw_vU (As := [.int (nI a), .int (nI v)]) (rest := []) ⟨hx, hb, hml, hown, hts⟩ (c_BK_storei l D k (ad (4 * (msl pr a) + (mpg wd se (msl pr a) a))) (bd (4 * (msl pr a) + (mpg wd se (msl pr a) a))) (ed (4 * (msl pr a) + (mpg wd se (msl pr a) a))) (nb (4 * (msl pr a) + (mpg wd se (msl pr a) a))) (sft mb (256 * (4 * (msl pr a) + (mpg wd se (msl pr a) a))) (32 * nb (4 * (msl pr a) + (mpg wd se (msl pr a) a)))) (sft sh (4 * (4 * (msl pr a) + (mpg wd se (msl pr a) a))) 4) hn1 hn2 a v (by omega) (by omega) hw) (va_cwA (owner := "SlotScreen$Device") (x := y_DV_store) 2 hts (gU w_504 w_506 w_507 w_508 w_14 w_509) rfl rfl rfl (hX.1 (.declares y_DV_store) (by unfold NWL; simp)) (by decide +kernel) ⟨Nat.le_of_ble_eq_true rfl, Nat.le_of_ble_eq_true rfl⟩) hK hPd hDd hS hA (va_recv hK hPd (ci := 4) (q0 := 0) rfl rfl) rfl hl.1 rfl (Nat.le_of_ble_eq_true rfl) d_SL_store_52 ⟨Nat.zero_le _, Nat.zero_le _⟩ (fun _ H9 locs _ hP1 hk1 hS9 => ?_)
        rw [← dvW_3 (k := k) (ad := ad) (bd := bd) (ed := ed) (nb := nb) (sh := sh) (mb := mb) h_3] at hk1
        rw [sft_u (f := sh) (by omega), ← dvW_3 (k := k) (ad := ad) (bd := bd) (ed := ed) (nb := nb) (mb := mb) h_3] at hP1
        obtain ⟨hP, hD⟩ := pl_sh hP hD hdo (by omega) hk1 hP1
        have hS := hS9
        generalize H9 = H at hP hS ⊢
        have hP : va_P D vwCl (slW q k gd wd se pr ++ plW od k ad bd ed kd nb (ss_up sh (4 * (4 * (msl pr a) + (mpg wd se (msl pr a) a)) + ((a - 64) / 32)) (v % nb (4 * (msl pr a) + (mpg wd se (msl pr a) a)))) mb) H := hP
        have hD : va_D A (slW q k gd wd se pr ++ plW od k ad bd ed kd nb (ss_up sh (4 * (4 * (msl pr a) + (mpg wd se (msl pr a) a)) + ((a - 64) / 32)) (v % nb (4 * (msl pr a) + (mpg wd se (msl pr a) a)))) mb) := hD
        exact rw_retv hx hb hr hlocks d_SL_store_55 hS () (trivial) (by first | exact hP | (exfalso; omega))
      · skip
        have hPd := va_mem hP (fun x hx => hin x ((dvW_3 h_3).symm ▸ hx))
        have hDd : va_D A _ := (dvW_3 h_3) ▸ va_Dm hD hdo
        refine kw_vU (As := [.int (nI a), .int (nI v)]) (rest := []) ⟨hx, hb, hml, hown, hts⟩ (c_BK_storeo l D k (ad (4 * (msl pr a) + (mpg wd se (msl pr a) a))) (bd (4 * (msl pr a) + (mpg wd se (msl pr a) a))) (ed (4 * (msl pr a) + (mpg wd se (msl pr a) a))) (nb (4 * (msl pr a) + (mpg wd se (msl pr a) a))) (sft mb (256 * (4 * (msl pr a) + (mpg wd se (msl pr a) a))) (32 * nb (4 * (msl pr a) + (mpg wd se (msl pr a) a)))) (sft sh (4 * (4 * (msl pr a) + (mpg wd se (msl pr a) a))) 4) a v (by omega) (by omega) hw) (va_cwA (owner := "SlotScreen$Device") (x := y_DV_store) 2 hts (gU w_504 w_506 w_507 w_508 w_14 w_509) rfl rfl rfl (hX.1 (.declares y_DV_store) (by unfold NWL; simp)) (by decide +kernel) ⟨Nat.le_of_ble_eq_true rfl, Nat.le_of_ble_eq_true rfl⟩) hK hPd hDd hS hA (va_recv hK hPd (ci := 4) (q0 := 0) rfl rfl) rfl hl.1 rfl (Nat.le_of_ble_eq_true rfl) d_SL_store_52 ⟨Nat.zero_le _, Nat.zero_le _⟩ (fun _ H9 locs _ hP1 hk1 hS9 => ?_)
        rw [← dvW_3 (k := k) (ad := ad) (bd := bd) (ed := ed) (nb := nb) (sh := sh) (mb := mb) h_3] at hk1
        rw [← dvW_3 (k := k) (ad := ad) (bd := bd) (ed := ed) (nb := nb) (sh := sh) (mb := mb) h_3] at hP1
        have hP := pl_fr (dv' := dvW k ad bd ed kd nb sh mb) hP hD hdo (fun _ _ _ => rfl) hk1 hP1
        have hS := hS9
        generalize H9 = H at hP hS ⊢
        have hP : va_P D vwCl (slW q k gd wd se pr ++ plW od k ad bd ed kd nb sh mb) H := hP
        have hD : va_D A (slW q k gd wd se pr ++ plW od k ad bd ed kd nb sh mb) := hD
        exact rw_retv hx hb hr hlocks d_SL_store_55 hS () (trivial) (by first | exact hP | (exfalso; omega))
    have h_4 : kd (4 * (msl pr a) + (mpg wd se (msl pr a) a)) = 4 := by omega
    refine lv_astore (lv' := [(4, .ref (ad (4 * (msl pr a) + (mpg wd se (msl pr a) a)))), (3, .int (nI (msl pr a))), (0, .ref (q 1)), (1, .int (nI a)), (2, .int (nI v))]) hx hb d_SL_store_41 hl (by decide) rfl (fun ls hl => ?_)
    refine lv_aload hx hb d_SL_store_43 (lv_at hl 0 rfl) ?_
    refine lv_ifnull hx hb d_SL_store_45 ?_
    refine lv_aload hx hb d_SL_store_48 (lv_at hl 0 rfl) ?_
    refine lv_iload_n hx hb d_SL_store_50 rfl (lv_at hl 3 rfl) ?_
    refine lv_iload_n hx hb d_SL_store_51 rfl (lv_at hl 4 rfl) ?_
    have hPd := va_mem hP (fun x hx => hin x ((dvW_4 h_4).symm ▸ hx))
    have hDd : va_D A _ := (dvW_4 h_4) ▸ va_Dm hD hdo
    refine kw_vU (As := [.int (nI a), .int (nI v)]) (rest := []) ⟨hx, hb, hml, hown, hts⟩ (c_RA_store64 l D k (ad (4 * (msl pr a) + (mpg wd se (msl pr a) a))) (bd (4 * (msl pr a) + (mpg wd se (msl pr a) a))) (sft mb (256 * (4 * (msl pr a) + (mpg wd se (msl pr a) a))) 64) a v (by omega) (by omega)) (va_cwA (owner := "SlotScreen$Device") (x := y_DV_store) 2 hts (gU w_504 w_506 w_510 w_511 w_12 w_512) rfl rfl rfl (hX.1 (.declares y_DV_store) (by unfold NWL; simp)) (by decide +kernel) ⟨Nat.le_of_ble_eq_true rfl, Nat.le_of_ble_eq_true rfl⟩) hK hPd hDd hS hA (va_recv hK hPd (ci := 5) (q0 := 0) rfl rfl) rfl hl.1 rfl (Nat.le_of_ble_eq_true rfl) d_SL_store_52 ⟨Nat.zero_le _, Nat.zero_le _⟩ (fun _ H9 locs _ hP1 hk1 hS9 => ?_)
    rw [← dvW_4 (k := k) (ad := ad) (bd := bd) (ed := ed) (nb := nb) (sh := sh) (mb := mb) h_4] at hk1
    rw [sft_u (by omega), ← dvW_4 (k := k) (ad := ad) (bd := bd) (ed := ed) (nb := nb) (sh := sh) h_4] at hP1
    obtain ⟨hP, hD⟩ := pl_mb hO hP hD hdo (by omega) hk1 hP1
    have hS := hS9
    generalize H9 = H at hP hS ⊢
    have hP : va_P D vwCl (slW q k gd wd se pr ++ plW od k ad bd ed kd nb sh (ss_up mb (256 * (4 * (msl pr a) + (mpg wd se (msl pr a) a)) + (a % 64)) v)) H := hP
    have hD : va_D A (slW q k gd wd se pr ++ plW od k ad bd ed kd nb sh (ss_up mb (256 * (4 * (msl pr a) + (mpg wd se (msl pr a) a)) + (a % 64)) v)) := hD
    exact rw_retv hx hb hr hlocks d_SL_store_55 hS () (trivial) (by first | exact hP | (exfalso; omega))
  · have c3 := mt (n_eq0 (by omega)).mpr c3
    refine lv_iload_n hx hb d_SL_store_15 rfl (lv_at hl 2 rfl) ?_
    refine lv_sipush (v := nI 255) hx hb d_SL_store_16 (by decide +kernel) ?_
    refine lv_icmp_ne (tgt := 30) hx hb d_SL_store_19 (by decide) (fun c5 => ?_) (fun c5 => ?_)
    · have c5 := mt (nI_eq (by omega) (by omega)).mpr c5
      refine lv_aload_n hx hb d_SL_store_30 rfl (lv_at hl 1 rfl) ?_
      refine lv_iload_n hx hb d_SL_store_31 rfl (lv_at hl 0 rfl) ?_
      refine lv_aload_n hx hb d_SL_store_32 rfl (lv_at hl 1 rfl) ?_
      refine lv_iload_n hx hb d_SL_store_33 rfl (lv_at hl 0 rfl) ?_
      refine lv_iload_n hx hb d_SL_store_34 rfl (lv_at hl 2 rfl) ?_
      have g6 := mpg_lt wd se (msl pr a) a
      refine kr_iV (As := [.int (nI (msl pr a)), .int (nI a)]) (rest := [.int (nI (msl pr a)), .ref (q 1)]) ⟨hx, hb, hml, hown, hts⟩ (c_SL_partAt l D k q gd wd se pr hwd hse (by omega) (msl pr a) a (by omega) (by omega)) (cwV 2 hts (gV w_503 w_464 w_465 w_2 w_466) rfl rfl rfl (by decide +kernel) ⟨Nat.le_of_ble_eq_true rfl, Nat.le_of_ble_eq_true rfl⟩) hK (hP.sub (ws' := (slW q k gd wd se pr)) [0, 1, 2, 3] rfl) (va_recv hK hP (ci := 1) (q0 := 0) rfl rfl) rfl hl.1 rfl (Nat.le_of_ble_eq_true rfl) d_SL_store_35 ⟨Nat.zero_le _, Nat.zero_le _⟩ ?_
      refine kr_qV (As := [.int (nI (msl pr a)), .int (nI (mpg wd se (msl pr a) a))]) (rest := []) ⟨hx, hb, hml, hown, hts⟩ (c_SL_deviceIn l D k q gd wd se pr (msl pr a) (mpg wd se (msl pr a) a) (by omega) (by omega)) (cwV 2 hts (gV w_471 w_117 w_118 w_2 w_119) rfl rfl rfl (by decide +kernel) ⟨Nat.le_of_ble_eq_true rfl, Nat.le_of_ble_eq_true rfl⟩) hK (hP.sub (ws' := (slW q k gd wd se pr)) [0, 1, 2, 3] rfl) (va_recv hK hP (ci := 1) (q0 := 0) rfl rfl) rfl hl.1 rfl (Nat.le_of_ble_eq_true rfl) d_SL_store_38 ⟨Nat.zero_le _, Nat.zero_le _⟩ ?_
      have hg := hO.1 (4 * (msl pr a) + (mpg wd se (msl pr a) a)) (by omega)
      have hk5 := hkd (4 * (msl pr a) + (mpg wd se (msl pr a) a))
      by_cases h0 : kd (4 * (msl pr a) + (mpg wd se (msl pr a) a)) = 0
      · refine ss_rv (y := .null) (by rw [hg, if_pos h0]; rfl) ?_
        refine lv_astoreN (lv' := [(4, .null), (3, .int (nI (msl pr a))), (0, .ref (q 1)), (1, .int (nI a)), (2, .int (nI v))]) hx hb d_SL_store_41 hl (by decide) rfl (fun ls hl => ?_)
        refine lv_aloadN hx hb d_SL_store_43 (lv_at hl 0 rfl) ?_
        refine lv_ifnullN (tgt := 55) hx hb d_SL_store_45 (by decide) ?_
        exact rw_retv hx hb hr hlocks d_SL_store_55 hS () (trivial) (by first | exact hP | (exfalso; omega))
      have hdo : (4 * (msl pr a) + (mpg wd se (msl pr a) a)) ∈ od := (hO.2.1 _).mpr ⟨by omega, h0⟩
      have hin : ∀ x ∈ dvW k ad bd ed kd nb sh mb (4 * (msl pr a) + (mpg wd se (msl pr a) a)), x ∈ (slW q k gd wd se pr ++ plW od k ad bd ed kd nb sh mb) := fun x hx => List.mem_append_right _ (plW_in hdo x hx)
      refine ss_rv (y := .ref (ad (4 * (msl pr a) + (mpg wd se (msl pr a) a)))) (by rw [hg, if_neg h0]; rfl) ?_
      by_cases h_1 : kd (4 * (msl pr a) + (mpg wd se (msl pr a) a)) = 1
      · skip
        refine lv_astore (lv' := [(4, .ref (ad (4 * (msl pr a) + (mpg wd se (msl pr a) a)))), (3, .int (nI (msl pr a))), (0, .ref (q 1)), (1, .int (nI a)), (2, .int (nI v))]) hx hb d_SL_store_41 hl (by decide) rfl (fun ls hl => ?_)
        refine lv_aload hx hb d_SL_store_43 (lv_at hl 0 rfl) ?_
        refine lv_ifnull hx hb d_SL_store_45 ?_
        refine lv_aload hx hb d_SL_store_48 (lv_at hl 0 rfl) ?_
        refine lv_iload_n hx hb d_SL_store_50 rfl (lv_at hl 3 rfl) ?_
        refine lv_iload_n hx hb d_SL_store_51 rfl (lv_at hl 4 rfl) ?_
        have hPd := va_mem hP (fun x hx => hin x ((dvW_1 h_1).symm ▸ hx))
        have hDd : va_D A _ := (dvW_1 h_1) ▸ va_Dm hD hdo
        refine kw_vU (As := [.int (nI a), .int (nI v)]) (rest := []) ⟨hx, hb, hml, hown, hts⟩ (c_RA_store256 l D k (ad (4 * (msl pr a) + (mpg wd se (msl pr a) a))) (bd (4 * (msl pr a) + (mpg wd se (msl pr a) a))) (sft mb (256 * (4 * (msl pr a) + (mpg wd se (msl pr a) a))) 256) a v (by omega) (by omega)) (va_cwA (owner := "SlotScreen$Device") (x := y_DV_store) 2 hts (gU w_504 w_506 w_510 w_511 w_12 w_512) rfl rfl rfl (hX.1 (.declares y_DV_store) (by unfold NWL; simp)) (by decide +kernel) ⟨Nat.le_of_ble_eq_true rfl, Nat.le_of_ble_eq_true rfl⟩) hK hPd hDd hS hA (va_recv hK hPd (ci := 5) (q0 := 0) rfl rfl) rfl hl.1 rfl (Nat.le_of_ble_eq_true rfl) d_SL_store_52 ⟨Nat.zero_le _, Nat.zero_le _⟩ (fun _ H9 locs _ hP1 hk1 hS9 => ?_)
        rw [← dvW_1 (k := k) (ad := ad) (bd := bd) (ed := ed) (nb := nb) (sh := sh) (mb := mb) h_1] at hk1
        rw [sft_u (by omega), ← dvW_1 (k := k) (ad := ad) (bd := bd) (ed := ed) (nb := nb) (sh := sh) h_1] at hP1
        obtain ⟨hP, hD⟩ := pl_mb hO hP hD hdo (by omega) hk1 hP1
        have hS := hS9
        generalize H9 = H at hP hS ⊢
        have hP : va_P D vwCl (slW q k gd wd se pr ++ plW od k ad bd ed kd nb sh (ss_up mb (256 * (4 * (msl pr a) + (mpg wd se (msl pr a) a)) + a) v)) H := hP
        have hD : va_D A (slW q k gd wd se pr ++ plW od k ad bd ed kd nb sh (ss_up mb (256 * (4 * (msl pr a) + (mpg wd se (msl pr a) a)) + a) v)) := hD
        exact rw_retv hx hb hr hlocks d_SL_store_55 hS () (trivial) (by first | exact hP | (exfalso; omega))
      by_cases h_2 : kd (4 * (msl pr a) + (mpg wd se (msl pr a) a)) = 2
      · skip
        refine lv_astore (lv' := [(4, .ref (ad (4 * (msl pr a) + (mpg wd se (msl pr a) a)))), (3, .int (nI (msl pr a))), (0, .ref (q 1)), (1, .int (nI a)), (2, .int (nI v))]) hx hb d_SL_store_41 hl (by decide) rfl (fun ls hl => ?_)
        refine lv_aload hx hb d_SL_store_43 (lv_at hl 0 rfl) ?_
        refine lv_ifnull hx hb d_SL_store_45 ?_
        refine lv_aload hx hb d_SL_store_48 (lv_at hl 0 rfl) ?_
        refine lv_iload_n hx hb d_SL_store_50 rfl (lv_at hl 3 rfl) ?_
        refine lv_iload_n hx hb d_SL_store_51 rfl (lv_at hl 4 rfl) ?_
        have hPd := va_mem hP (fun x hx => hin x ((dvW_2 h_2).symm ▸ hx))
        have hDd : va_D A _ := (dvW_2 h_2) ▸ va_Dm hD hdo
        refine kw_vU (As := [.int (nI a), .int (nI v)]) (rest := []) ⟨hx, hb, hml, hown, hts⟩ (c_RO_store l D k (ad (4 * (msl pr a) + (mpg wd se (msl pr a) a))) (bd (4 * (msl pr a) + (mpg wd se (msl pr a) a))) (sft mb (256 * (4 * (msl pr a) + (mpg wd se (msl pr a) a))) 256) (nI a) (nI v)) (va_cwA (owner := "SlotScreen$Device") (x := y_DV_store) 2 hts (gU w_504 w_506 w_513 w_514 w_13 w_515) rfl rfl rfl (hX.1 (.declares y_DV_store) (by unfold NWL; simp)) (by decide +kernel) ⟨Nat.le_of_ble_eq_true rfl, Nat.le_of_ble_eq_true rfl⟩) hK hPd hDd hS hA (va_recv hK hPd (ci := 6) (q0 := 0) rfl rfl) rfl hl.1 rfl (Nat.le_of_ble_eq_true rfl) d_SL_store_52 ⟨Nat.zero_le _, Nat.zero_le _⟩ (fun _ H9 locs _ hP1 hk1 hS9 => ?_)
        rw [← dvW_2 (k := k) (ad := ad) (bd := bd) (ed := ed) (nb := nb) (sh := sh) (mb := mb) h_2] at hk1
        rw [← dvW_2 (k := k) (ad := ad) (bd := bd) (ed := ed) (nb := nb) (sh := sh) (mb := mb) h_2] at hP1
        have hP := pl_fr (dv' := dvW k ad bd ed kd nb sh mb) hP hD hdo (fun _ _ _ => rfl) hk1 hP1
        have hS := hS9
        generalize H9 = H at hP hS ⊢
        have hP : va_P D vwCl (slW q k gd wd se pr ++ plW od k ad bd ed kd nb sh mb) H := hP
        have hD : va_D A (slW q k gd wd se pr ++ plW od k ad bd ed kd nb sh mb) := hD
        exact rw_retv hx hb hr hlocks d_SL_store_55 hS () (trivial) (by first | exact hP | (exfalso; omega))
      by_cases h_3 : kd (4 * (msl pr a) + (mpg wd se (msl pr a) a)) = 3
      · skip
        obtain ⟨hn1, hn2, hn3⟩ := hO.2.2.2 (4 * (msl pr a) + (mpg wd se (msl pr a) a)) (by omega) h_3
        refine lv_astore (lv' := [(4, .ref (ad (4 * (msl pr a) + (mpg wd se (msl pr a) a)))), (3, .int (nI (msl pr a))), (0, .ref (q 1)), (1, .int (nI a)), (2, .int (nI v))]) hx hb d_SL_store_41 hl (by decide) rfl (fun ls hl => ?_)
        refine lv_aload hx hb d_SL_store_43 (lv_at hl 0 rfl) ?_
        refine lv_ifnull hx hb d_SL_store_45 ?_
        refine lv_aload hx hb d_SL_store_48 (lv_at hl 0 rfl) ?_
        refine lv_iload_n hx hb d_SL_store_50 rfl (lv_at hl 3 rfl) ?_
        refine lv_iload_n hx hb d_SL_store_51 rfl (lv_at hl 4 rfl) ?_
        have hPd := va_mem hP (fun x hx => hin x ((dvW_3 h_3).symm ▸ hx))
        have hDd : va_D A _ := (dvW_3 h_3) ▸ va_Dm hD hdo
        by_cases hw : 64 ≤ a ∧ a ≤ 191
        · skip
          have hPd := va_mem hP (fun x hx => hin x ((dvW_3 h_3).symm ▸ hx))
          have hDd : va_D A _ := (dvW_3 h_3) ▸ va_Dm hD hdo
          refine kw_vU (As := [.int (nI a), .int (nI v)]) (rest := []) ⟨hx, hb, hml, hown, hts⟩ (c_BK_storei l D k (ad (4 * (msl pr a) + (mpg wd se (msl pr a) a))) (bd (4 * (msl pr a) + (mpg wd se (msl pr a) a))) (ed (4 * (msl pr a) + (mpg wd se (msl pr a) a))) (nb (4 * (msl pr a) + (mpg wd se (msl pr a) a))) (sft mb (256 * (4 * (msl pr a) + (mpg wd se (msl pr a) a))) (32 * nb (4 * (msl pr a) + (mpg wd se (msl pr a) a)))) (sft sh (4 * (4 * (msl pr a) + (mpg wd se (msl pr a) a))) 4) hn1 hn2 a v (by omega) (by omega) hw) (va_cwA (owner := "SlotScreen$Device") (x := y_DV_store) 2 hts (gU w_504 w_506 w_507 w_508 w_14 w_509) rfl rfl rfl (hX.1 (.declares y_DV_store) (by unfold NWL; simp)) (by decide +kernel) ⟨Nat.le_of_ble_eq_true rfl, Nat.le_of_ble_eq_true rfl⟩) hK hPd hDd hS hA (va_recv hK hPd (ci := 4) (q0 := 0) rfl rfl) rfl hl.1 rfl (Nat.le_of_ble_eq_true rfl) d_SL_store_52 ⟨Nat.zero_le _, Nat.zero_le _⟩ (fun _ H9 locs _ hP1 hk1 hS9 => ?_)
          rw [← dvW_3 (k := k) (ad := ad) (bd := bd) (ed := ed) (nb := nb) (sh := sh) (mb := mb) h_3] at hk1
          rw [sft_u (f := sh) (by omega), ← dvW_3 (k := k) (ad := ad) (bd := bd) (ed := ed) (nb := nb) (mb := mb) h_3] at hP1
          obtain ⟨hP, hD⟩ := pl_sh hP hD hdo (by omega) hk1 hP1
          have hS := hS9
          generalize H9 = H at hP hS ⊢
          have hP : va_P D vwCl (slW q k gd wd se pr ++ plW od k ad bd ed kd nb (ss_up sh (4 * (4 * (msl pr a) + (mpg wd se (msl pr a) a)) + ((a - 64) / 32)) (v % nb (4 * (msl pr a) + (mpg wd se (msl pr a) a)))) mb) H := hP
          have hD : va_D A (slW q k gd wd se pr ++ plW od k ad bd ed kd nb (ss_up sh (4 * (4 * (msl pr a) + (mpg wd se (msl pr a) a)) + ((a - 64) / 32)) (v % nb (4 * (msl pr a) + (mpg wd se (msl pr a) a)))) mb) := hD
          exact rw_retv hx hb hr hlocks d_SL_store_55 hS () (trivial) (by first | exact hP | (exfalso; omega))
        · skip
          have hPd := va_mem hP (fun x hx => hin x ((dvW_3 h_3).symm ▸ hx))
          have hDd : va_D A _ := (dvW_3 h_3) ▸ va_Dm hD hdo
          refine kw_vU (As := [.int (nI a), .int (nI v)]) (rest := []) ⟨hx, hb, hml, hown, hts⟩ (c_BK_storeo l D k (ad (4 * (msl pr a) + (mpg wd se (msl pr a) a))) (bd (4 * (msl pr a) + (mpg wd se (msl pr a) a))) (ed (4 * (msl pr a) + (mpg wd se (msl pr a) a))) (nb (4 * (msl pr a) + (mpg wd se (msl pr a) a))) (sft mb (256 * (4 * (msl pr a) + (mpg wd se (msl pr a) a))) (32 * nb (4 * (msl pr a) + (mpg wd se (msl pr a) a)))) (sft sh (4 * (4 * (msl pr a) + (mpg wd se (msl pr a) a))) 4) a v (by omega) (by omega) hw) (va_cwA (owner := "SlotScreen$Device") (x := y_DV_store) 2 hts (gU w_504 w_506 w_507 w_508 w_14 w_509) rfl rfl rfl (hX.1 (.declares y_DV_store) (by unfold NWL; simp)) (by decide +kernel) ⟨Nat.le_of_ble_eq_true rfl, Nat.le_of_ble_eq_true rfl⟩) hK hPd hDd hS hA (va_recv hK hPd (ci := 4) (q0 := 0) rfl rfl) rfl hl.1 rfl (Nat.le_of_ble_eq_true rfl) d_SL_store_52 ⟨Nat.zero_le _, Nat.zero_le _⟩ (fun _ H9 locs _ hP1 hk1 hS9 => ?_)
          rw [← dvW_3 (k := k) (ad := ad) (bd := bd) (ed := ed) (nb := nb) (sh := sh) (mb := mb) h_3] at hk1
          rw [← dvW_3 (k := k) (ad := ad) (bd := bd) (ed := ed) (nb := nb) (sh := sh) (mb := mb) h_3] at hP1
          have hP := pl_fr (dv' := dvW k ad bd ed kd nb sh mb) hP hD hdo (fun _ _ _ => rfl) hk1 hP1
          have hS := hS9
          generalize H9 = H at hP hS ⊢
          have hP : va_P D vwCl (slW q k gd wd se pr ++ plW od k ad bd ed kd nb sh mb) H := hP
          have hD : va_D A (slW q k gd wd se pr ++ plW od k ad bd ed kd nb sh mb) := hD
          exact rw_retv hx hb hr hlocks d_SL_store_55 hS () (trivial) (by first | exact hP | (exfalso; omega))
      have h_4 : kd (4 * (msl pr a) + (mpg wd se (msl pr a) a)) = 4 := by omega
      refine lv_astore (lv' := [(4, .ref (ad (4 * (msl pr a) + (mpg wd se (msl pr a) a)))), (3, .int (nI (msl pr a))), (0, .ref (q 1)), (1, .int (nI a)), (2, .int (nI v))]) hx hb d_SL_store_41 hl (by decide) rfl (fun ls hl => ?_)
      refine lv_aload hx hb d_SL_store_43 (lv_at hl 0 rfl) ?_
      refine lv_ifnull hx hb d_SL_store_45 ?_
      refine lv_aload hx hb d_SL_store_48 (lv_at hl 0 rfl) ?_
      refine lv_iload_n hx hb d_SL_store_50 rfl (lv_at hl 3 rfl) ?_
      refine lv_iload_n hx hb d_SL_store_51 rfl (lv_at hl 4 rfl) ?_
      have hPd := va_mem hP (fun x hx => hin x ((dvW_4 h_4).symm ▸ hx))
      have hDd : va_D A _ := (dvW_4 h_4) ▸ va_Dm hD hdo
      refine kw_vU (As := [.int (nI a), .int (nI v)]) (rest := []) ⟨hx, hb, hml, hown, hts⟩ (c_RA_store64 l D k (ad (4 * (msl pr a) + (mpg wd se (msl pr a) a))) (bd (4 * (msl pr a) + (mpg wd se (msl pr a) a))) (sft mb (256 * (4 * (msl pr a) + (mpg wd se (msl pr a) a))) 64) a v (by omega) (by omega)) (va_cwA (owner := "SlotScreen$Device") (x := y_DV_store) 2 hts (gU w_504 w_506 w_510 w_511 w_12 w_512) rfl rfl rfl (hX.1 (.declares y_DV_store) (by unfold NWL; simp)) (by decide +kernel) ⟨Nat.le_of_ble_eq_true rfl, Nat.le_of_ble_eq_true rfl⟩) hK hPd hDd hS hA (va_recv hK hPd (ci := 5) (q0 := 0) rfl rfl) rfl hl.1 rfl (Nat.le_of_ble_eq_true rfl) d_SL_store_52 ⟨Nat.zero_le _, Nat.zero_le _⟩ (fun _ H9 locs _ hP1 hk1 hS9 => ?_)
      rw [← dvW_4 (k := k) (ad := ad) (bd := bd) (ed := ed) (nb := nb) (sh := sh) (mb := mb) h_4] at hk1
      rw [sft_u (by omega), ← dvW_4 (k := k) (ad := ad) (bd := bd) (ed := ed) (nb := nb) (sh := sh) h_4] at hP1
      obtain ⟨hP, hD⟩ := pl_mb hO hP hD hdo (by omega) hk1 hP1
      have hS := hS9
      generalize H9 = H at hP hS ⊢
      have hP : va_P D vwCl (slW q k gd wd se pr ++ plW od k ad bd ed kd nb sh (ss_up mb (256 * (4 * (msl pr a) + (mpg wd se (msl pr a) a)) + (a % 64)) v)) H := hP
      have hD : va_D A (slW q k gd wd se pr ++ plW od k ad bd ed kd nb sh (ss_up mb (256 * (4 * (msl pr a) + (mpg wd se (msl pr a) a)) + (a % 64)) v)) := hD
      exact rw_retv hx hb hr hlocks d_SL_store_55 hS () (trivial) (by first | exact hP | (exfalso; omega))
    · have c5 := (nI_eq (by omega) (by omega)).mp c5
      exfalso; omega
set_option maxHeartbeats 4000000 in
set_option maxRecDepth 100000 in
theorem c_SL_storeo (l : Launch) (D : va_G) (k : Nat → ClassId) (q : Nat → Nat) (gd : Nat → Option Nat) (wd : Nat → Nat) (se : Nat → Nat) (pr : Nat) (od : List Nat) (ad bd ed kd nb sh mb : Nat → Nat) (hwd : ∀ j, wd j < 2) (hse : ∀ j, se j < 256) (hpr : pr < 256) (hO : plO od gd ad kd nb sh) (hkd : ∀ j, kd j < 5) (hmb : ∀ j, mb j < 256) (a v : Nat) (ha : a < 256) (hv : v < 256) (h1 : ¬ (a = 255 ∧ wd (msl pr a) = 1)) (hk : kd (4 * msl pr a + mpg wd se (msl pr a) a) = 0 ∨ kd (4 * msl pr a + mpg wd se (msl pr a) a) = 2 ∨ (kd (4 * msl pr a + mpg wd se (msl pr a) a) = 3 ∧ ¬ (64 ≤ a ∧ a ≤ 191))) : xw_v l y_SL_store b_SL_store 5 none { frames := 2, cells := 0, slots := 0, locals := 62 } D (kT k) (slW q k gd wd se pr ++ plW od k ad bd ed kd nb sh mb) [.ref (q 1), .int (nI a), .int (nI v)] (fun (_ : Unit) => True) (fun (_ : Unit) => (slW q k gd wd se pr ++ plW od k ad bd ed kd nb sh mb)) := by
  refine xw_headv (by decide) (Nat.le_of_ble_eq_true rfl) ?_
  intro p e s m below meth c ls A hx hb hr hlocks hml hown hts hX hK hA hP hD hS hl
  have hown : s.vm.findClass "SlotScreen$Slots" = some m.cls := hown
  have hl : lv_has ls 5 [(0, .ref (q 1)), (1, .int (nI a)), (2, .int (nI v))] := hl
  have z1 := msl_lt pr a
  have z2 := mpg_lt wd se (msl pr a) a
  refine lv_aload_n hx hb d_SL_store_0 rfl (lv_at hl 0 rfl) ?_
  refine lv_iload_n hx hb d_SL_store_1 rfl (lv_at hl 1 rfl) ?_
  have g1 := msl_lt pr a
  refine kr_iV (As := [.int (nI a)]) (rest := []) ⟨hx, hb, hml, hown, hts⟩ (c_SL_slotAt l D k q gd wd se pr (by omega) a (by omega)) (cwV 1 hts (gV w_502 w_457 w_458 w_2 w_459) rfl rfl rfl (by decide +kernel) ⟨Nat.le_of_ble_eq_true rfl, Nat.le_of_ble_eq_true rfl⟩) hK (hP.sub (ws' := (slW q k gd wd se pr)) [0, 1, 2, 3] rfl) (va_recv hK hP (ci := 1) (q0 := 0) rfl rfl) rfl hl.1 rfl (Nat.le_of_ble_eq_true rfl) d_SL_store_2 ⟨Nat.zero_le _, Nat.zero_le _⟩ ?_
  refine lv_istore_n (lv' := [(3, .int (nI (msl pr a))), (0, .ref (q 1)), (1, .int (nI a)), (2, .int (nI v))]) hx hb d_SL_store_5 rfl hl (by decide) rfl (fun ls hl => ?_)
  refine lv_aload_n hx hb d_SL_store_6 rfl (lv_at hl 1 rfl) ?_
  refine va_get (D := D) (ci := 1) (v := .ref (q 3)) (C := R_SL) (T := T_SL) (N := 4) hx hb hts in_SL hown hK hP 0 rfl rfl 1 (by decide) (hts _ w_32) (fun _ h9 => h9) rfl d_SL_store_7 ?_
  refine lv_iload_n hx hb d_SL_store_10 rfl (lv_at hl 0 rfl) ?_
  refine va_zald hx hb hK hP 2 1 rfl rfl (vp_in_nI (by omega) (by omega)) d_SL_store_11 ?_
  refine ss_rt (y := nI (wd (msl pr a))) (congrArg (fun z => nI (wd z)) (nI_clamp (by omega))) ?_
  have g2 := hwd (msl pr a)
  refine lv_if_eq (tgt := 30) hx hb d_SL_store_12 (by decide) (fun c3 => ?_) (fun c3 => ?_)
  · have c3 := (n_eq0 (by omega)).mp c3
    refine lv_aload_n hx hb d_SL_store_30 rfl (lv_at hl 1 rfl) ?_
    refine lv_iload_n hx hb d_SL_store_31 rfl (lv_at hl 0 rfl) ?_
    refine lv_aload_n hx hb d_SL_store_32 rfl (lv_at hl 1 rfl) ?_
    refine lv_iload_n hx hb d_SL_store_33 rfl (lv_at hl 0 rfl) ?_
    refine lv_iload_n hx hb d_SL_store_34 rfl (lv_at hl 2 rfl) ?_
    have g4 := mpg_lt wd se (msl pr a) a
    refine kr_iV (As := [.int (nI (msl pr a)), .int (nI a)]) (rest := [.int (nI (msl pr a)), .ref (q 1)]) ⟨hx, hb, hml, hown, hts⟩ (c_SL_partAt l D k q gd wd se pr hwd hse (by omega) (msl pr a) a (by omega) (by omega)) (cwV 2 hts (gV w_503 w_464 w_465 w_2 w_466) rfl rfl rfl (by decide +kernel) ⟨Nat.le_of_ble_eq_true rfl, Nat.le_of_ble_eq_true rfl⟩) hK (hP.sub (ws' := (slW q k gd wd se pr)) [0, 1, 2, 3] rfl) (va_recv hK hP (ci := 1) (q0 := 0) rfl rfl) rfl hl.1 rfl (Nat.le_of_ble_eq_true rfl) d_SL_store_35 ⟨Nat.zero_le _, Nat.zero_le _⟩ ?_
    refine kr_qV (As := [.int (nI (msl pr a)), .int (nI (mpg wd se (msl pr a) a))]) (rest := []) ⟨hx, hb, hml, hown, hts⟩ (c_SL_deviceIn l D k q gd wd se pr (msl pr a) (mpg wd se (msl pr a) a) (by omega) (by omega)) (cwV 2 hts (gV w_471 w_117 w_118 w_2 w_119) rfl rfl rfl (by decide +kernel) ⟨Nat.le_of_ble_eq_true rfl, Nat.le_of_ble_eq_true rfl⟩) hK (hP.sub (ws' := (slW q k gd wd se pr)) [0, 1, 2, 3] rfl) (va_recv hK hP (ci := 1) (q0 := 0) rfl rfl) rfl hl.1 rfl (Nat.le_of_ble_eq_true rfl) d_SL_store_38 ⟨Nat.zero_le _, Nat.zero_le _⟩ ?_
    have hg := hO.1 (4 * (msl pr a) + (mpg wd se (msl pr a) a)) (by omega)
    have hk5 := hkd (4 * (msl pr a) + (mpg wd se (msl pr a) a))
    by_cases h0 : kd (4 * (msl pr a) + (mpg wd se (msl pr a) a)) = 0
    · refine ss_rv (y := .null) (by rw [hg, if_pos h0]; rfl) ?_
      refine lv_astoreN (lv' := [(4, .null), (3, .int (nI (msl pr a))), (0, .ref (q 1)), (1, .int (nI a)), (2, .int (nI v))]) hx hb d_SL_store_41 hl (by decide) rfl (fun ls hl => ?_)
      refine lv_aloadN hx hb d_SL_store_43 (lv_at hl 0 rfl) ?_
      refine lv_ifnullN (tgt := 55) hx hb d_SL_store_45 (by decide) ?_
      exact rw_retv hx hb hr hlocks d_SL_store_55 hS () (trivial) hP
    have hdo : (4 * (msl pr a) + (mpg wd se (msl pr a) a)) ∈ od := (hO.2.1 _).mpr ⟨by omega, h0⟩
    have hin : ∀ x ∈ dvW k ad bd ed kd nb sh mb (4 * (msl pr a) + (mpg wd se (msl pr a) a)), x ∈ (slW q k gd wd se pr ++ plW od k ad bd ed kd nb sh mb) := fun x hx => List.mem_append_right _ (plW_in hdo x hx)
    refine ss_rv (y := .ref (ad (4 * (msl pr a) + (mpg wd se (msl pr a) a)))) (by rw [hg, if_neg h0]; rfl) ?_
    by_cases h_1 : kd (4 * (msl pr a) + (mpg wd se (msl pr a) a)) = 1
    · skip
      refine lv_astore (lv' := [(4, .ref (ad (4 * (msl pr a) + (mpg wd se (msl pr a) a)))), (3, .int (nI (msl pr a))), (0, .ref (q 1)), (1, .int (nI a)), (2, .int (nI v))]) hx hb d_SL_store_41 hl (by decide) rfl (fun ls hl => ?_)
      refine lv_aload hx hb d_SL_store_43 (lv_at hl 0 rfl) ?_
      refine lv_ifnull hx hb d_SL_store_45 ?_
      refine lv_aload hx hb d_SL_store_48 (lv_at hl 0 rfl) ?_
      refine lv_iload_n hx hb d_SL_store_50 rfl (lv_at hl 3 rfl) ?_
      refine lv_iload_n hx hb d_SL_store_51 rfl (lv_at hl 4 rfl) ?_
      have hPd := va_mem hP (fun x hx => hin x ((dvW_1 h_1).symm ▸ hx))
      have hDd : va_D A _ := (dvW_1 h_1) ▸ va_Dm hD hdo
      refine kw_vU (As := [.int (nI a), .int (nI v)]) (rest := []) ⟨hx, hb, hml, hown, hts⟩ (c_RA_store256 l D k (ad (4 * (msl pr a) + (mpg wd se (msl pr a) a))) (bd (4 * (msl pr a) + (mpg wd se (msl pr a) a))) (sft mb (256 * (4 * (msl pr a) + (mpg wd se (msl pr a) a))) 256) a v (by omega) (by omega)) (va_cwA (owner := "SlotScreen$Device") (x := y_DV_store) 2 hts (gU w_504 w_506 w_510 w_511 w_12 w_512) rfl rfl rfl (hX.1 (.declares y_DV_store) (by unfold NWL; simp)) (by decide +kernel) ⟨Nat.le_of_ble_eq_true rfl, Nat.le_of_ble_eq_true rfl⟩) hK hPd hDd hS hA (va_recv hK hPd (ci := 5) (q0 := 0) rfl rfl) rfl hl.1 rfl (Nat.le_of_ble_eq_true rfl) d_SL_store_52 ⟨Nat.zero_le _, Nat.zero_le _⟩ (fun _ H9 locs _ hP1 hk1 hS9 => ?_)
      rw [← dvW_1 (k := k) (ad := ad) (bd := bd) (ed := ed) (nb := nb) (sh := sh) (mb := mb) h_1] at hk1
      rw [sft_u (by omega), ← dvW_1 (k := k) (ad := ad) (bd := bd) (ed := ed) (nb := nb) (sh := sh) h_1] at hP1
      obtain ⟨hP, hD⟩ := pl_mb hO hP hD hdo (by omega) hk1 hP1
      have hS := hS9
      generalize H9 = H at hP hS ⊢
      have hP : va_P D vwCl (slW q k gd wd se pr ++ plW od k ad bd ed kd nb sh (ss_up mb (256 * (4 * (msl pr a) + (mpg wd se (msl pr a) a)) + a) v)) H := hP
      have hD : va_D A (slW q k gd wd se pr ++ plW od k ad bd ed kd nb sh (ss_up mb (256 * (4 * (msl pr a) + (mpg wd se (msl pr a) a)) + a) v)) := hD
      exact rw_retv hx hb hr hlocks d_SL_store_55 hS () (trivial) (by first | exact hP | (exfalso; omega))
    by_cases h_2 : kd (4 * (msl pr a) + (mpg wd se (msl pr a) a)) = 2
    · skip
      refine lv_astore (lv' := [(4, .ref (ad (4 * (msl pr a) + (mpg wd se (msl pr a) a)))), (3, .int (nI (msl pr a))), (0, .ref (q 1)), (1, .int (nI a)), (2, .int (nI v))]) hx hb d_SL_store_41 hl (by decide) rfl (fun ls hl => ?_)
      refine lv_aload hx hb d_SL_store_43 (lv_at hl 0 rfl) ?_
      refine lv_ifnull hx hb d_SL_store_45 ?_
      refine lv_aload hx hb d_SL_store_48 (lv_at hl 0 rfl) ?_
      refine lv_iload_n hx hb d_SL_store_50 rfl (lv_at hl 3 rfl) ?_
      refine lv_iload_n hx hb d_SL_store_51 rfl (lv_at hl 4 rfl) ?_
      have hPd := va_mem hP (fun x hx => hin x ((dvW_2 h_2).symm ▸ hx))
      have hDd : va_D A _ := (dvW_2 h_2) ▸ va_Dm hD hdo
      refine kw_vU (As := [.int (nI a), .int (nI v)]) (rest := []) ⟨hx, hb, hml, hown, hts⟩ (c_RO_store l D k (ad (4 * (msl pr a) + (mpg wd se (msl pr a) a))) (bd (4 * (msl pr a) + (mpg wd se (msl pr a) a))) (sft mb (256 * (4 * (msl pr a) + (mpg wd se (msl pr a) a))) 256) (nI a) (nI v)) (va_cwA (owner := "SlotScreen$Device") (x := y_DV_store) 2 hts (gU w_504 w_506 w_513 w_514 w_13 w_515) rfl rfl rfl (hX.1 (.declares y_DV_store) (by unfold NWL; simp)) (by decide +kernel) ⟨Nat.le_of_ble_eq_true rfl, Nat.le_of_ble_eq_true rfl⟩) hK hPd hDd hS hA (va_recv hK hPd (ci := 6) (q0 := 0) rfl rfl) rfl hl.1 rfl (Nat.le_of_ble_eq_true rfl) d_SL_store_52 ⟨Nat.zero_le _, Nat.zero_le _⟩ (fun _ H9 locs _ hP1 hk1 hS9 => ?_)
      rw [← dvW_2 (k := k) (ad := ad) (bd := bd) (ed := ed) (nb := nb) (sh := sh) (mb := mb) h_2] at hk1
      rw [← dvW_2 (k := k) (ad := ad) (bd := bd) (ed := ed) (nb := nb) (sh := sh) (mb := mb) h_2] at hP1
      have hP := pl_fr (dv' := dvW k ad bd ed kd nb sh mb) hP hD hdo (fun _ _ _ => rfl) hk1 hP1
      have hS := hS9
      generalize H9 = H at hP hS ⊢
      have hP : va_P D vwCl (slW q k gd wd se pr ++ plW od k ad bd ed kd nb sh mb) H := hP
      have hD : va_D A (slW q k gd wd se pr ++ plW od k ad bd ed kd nb sh mb) := hD
      exact rw_retv hx hb hr hlocks d_SL_store_55 hS () (trivial) hP
    by_cases h_3 : kd (4 * (msl pr a) + (mpg wd se (msl pr a) a)) = 3
    · skip
      obtain ⟨hn1, hn2, hn3⟩ := hO.2.2.2 (4 * (msl pr a) + (mpg wd se (msl pr a) a)) (by omega) h_3
      refine lv_astore (lv' := [(4, .ref (ad (4 * (msl pr a) + (mpg wd se (msl pr a) a)))), (3, .int (nI (msl pr a))), (0, .ref (q 1)), (1, .int (nI a)), (2, .int (nI v))]) hx hb d_SL_store_41 hl (by decide) rfl (fun ls hl => ?_)
      refine lv_aload hx hb d_SL_store_43 (lv_at hl 0 rfl) ?_
      refine lv_ifnull hx hb d_SL_store_45 ?_
      refine lv_aload hx hb d_SL_store_48 (lv_at hl 0 rfl) ?_
      refine lv_iload_n hx hb d_SL_store_50 rfl (lv_at hl 3 rfl) ?_
      refine lv_iload_n hx hb d_SL_store_51 rfl (lv_at hl 4 rfl) ?_
      have hPd := va_mem hP (fun x hx => hin x ((dvW_3 h_3).symm ▸ hx))
      have hDd : va_D A _ := (dvW_3 h_3) ▸ va_Dm hD hdo
      by_cases hw : 64 ≤ a ∧ a ≤ 191
      · skip
        have hPd := va_mem hP (fun x hx => hin x ((dvW_3 h_3).symm ▸ hx))
        have hDd : va_D A _ := (dvW_3 h_3) ▸ va_Dm hD hdo
        refine kw_vU (As := [.int (nI a), .int (nI v)]) (rest := []) ⟨hx, hb, hml, hown, hts⟩ (c_BK_storei l D k (ad (4 * (msl pr a) + (mpg wd se (msl pr a) a))) (bd (4 * (msl pr a) + (mpg wd se (msl pr a) a))) (ed (4 * (msl pr a) + (mpg wd se (msl pr a) a))) (nb (4 * (msl pr a) + (mpg wd se (msl pr a) a))) (sft mb (256 * (4 * (msl pr a) + (mpg wd se (msl pr a) a))) (32 * nb (4 * (msl pr a) + (mpg wd se (msl pr a) a)))) (sft sh (4 * (4 * (msl pr a) + (mpg wd se (msl pr a) a))) 4) hn1 hn2 a v (by omega) (by omega) hw) (va_cwA (owner := "SlotScreen$Device") (x := y_DV_store) 2 hts (gU w_504 w_506 w_507 w_508 w_14 w_509) rfl rfl rfl (hX.1 (.declares y_DV_store) (by unfold NWL; simp)) (by decide +kernel) ⟨Nat.le_of_ble_eq_true rfl, Nat.le_of_ble_eq_true rfl⟩) hK hPd hDd hS hA (va_recv hK hPd (ci := 4) (q0 := 0) rfl rfl) rfl hl.1 rfl (Nat.le_of_ble_eq_true rfl) d_SL_store_52 ⟨Nat.zero_le _, Nat.zero_le _⟩ (fun _ H9 locs _ hP1 hk1 hS9 => ?_)
        rw [← dvW_3 (k := k) (ad := ad) (bd := bd) (ed := ed) (nb := nb) (sh := sh) (mb := mb) h_3] at hk1
        rw [sft_u (f := sh) (by omega), ← dvW_3 (k := k) (ad := ad) (bd := bd) (ed := ed) (nb := nb) (mb := mb) h_3] at hP1
        obtain ⟨hP, hD⟩ := pl_sh hP hD hdo (by omega) hk1 hP1
        have hS := hS9
        generalize H9 = H at hP hS ⊢
        have hP : va_P D vwCl (slW q k gd wd se pr ++ plW od k ad bd ed kd nb (ss_up sh (4 * (4 * (msl pr a) + (mpg wd se (msl pr a) a)) + ((a - 64) / 32)) (v % nb (4 * (msl pr a) + (mpg wd se (msl pr a) a)))) mb) H := hP
        have hD : va_D A (slW q k gd wd se pr ++ plW od k ad bd ed kd nb (ss_up sh (4 * (4 * (msl pr a) + (mpg wd se (msl pr a) a)) + ((a - 64) / 32)) (v % nb (4 * (msl pr a) + (mpg wd se (msl pr a) a)))) mb) := hD
        exact rw_retv hx hb hr hlocks d_SL_store_55 hS () (trivial) (by first | exact hP | (exfalso; omega))
      · skip
        have hPd := va_mem hP (fun x hx => hin x ((dvW_3 h_3).symm ▸ hx))
        have hDd : va_D A _ := (dvW_3 h_3) ▸ va_Dm hD hdo
        refine kw_vU (As := [.int (nI a), .int (nI v)]) (rest := []) ⟨hx, hb, hml, hown, hts⟩ (c_BK_storeo l D k (ad (4 * (msl pr a) + (mpg wd se (msl pr a) a))) (bd (4 * (msl pr a) + (mpg wd se (msl pr a) a))) (ed (4 * (msl pr a) + (mpg wd se (msl pr a) a))) (nb (4 * (msl pr a) + (mpg wd se (msl pr a) a))) (sft mb (256 * (4 * (msl pr a) + (mpg wd se (msl pr a) a))) (32 * nb (4 * (msl pr a) + (mpg wd se (msl pr a) a)))) (sft sh (4 * (4 * (msl pr a) + (mpg wd se (msl pr a) a))) 4) a v (by omega) (by omega) hw) (va_cwA (owner := "SlotScreen$Device") (x := y_DV_store) 2 hts (gU w_504 w_506 w_507 w_508 w_14 w_509) rfl rfl rfl (hX.1 (.declares y_DV_store) (by unfold NWL; simp)) (by decide +kernel) ⟨Nat.le_of_ble_eq_true rfl, Nat.le_of_ble_eq_true rfl⟩) hK hPd hDd hS hA (va_recv hK hPd (ci := 4) (q0 := 0) rfl rfl) rfl hl.1 rfl (Nat.le_of_ble_eq_true rfl) d_SL_store_52 ⟨Nat.zero_le _, Nat.zero_le _⟩ (fun _ H9 locs _ hP1 hk1 hS9 => ?_)
        rw [← dvW_3 (k := k) (ad := ad) (bd := bd) (ed := ed) (nb := nb) (sh := sh) (mb := mb) h_3] at hk1
        rw [← dvW_3 (k := k) (ad := ad) (bd := bd) (ed := ed) (nb := nb) (sh := sh) (mb := mb) h_3] at hP1
        have hP := pl_fr (dv' := dvW k ad bd ed kd nb sh mb) hP hD hdo (fun _ _ _ => rfl) hk1 hP1
        have hS := hS9
        generalize H9 = H at hP hS ⊢
        have hP : va_P D vwCl (slW q k gd wd se pr ++ plW od k ad bd ed kd nb sh mb) H := hP
        have hD : va_D A (slW q k gd wd se pr ++ plW od k ad bd ed kd nb sh mb) := hD
        exact rw_retv hx hb hr hlocks d_SL_store_55 hS () (trivial) hP
    have h_4 : kd (4 * (msl pr a) + (mpg wd se (msl pr a) a)) = 4 := by omega
    refine lv_astore (lv' := [(4, .ref (ad (4 * (msl pr a) + (mpg wd se (msl pr a) a)))), (3, .int (nI (msl pr a))), (0, .ref (q 1)), (1, .int (nI a)), (2, .int (nI v))]) hx hb d_SL_store_41 hl (by decide) rfl (fun ls hl => ?_)
    refine lv_aload hx hb d_SL_store_43 (lv_at hl 0 rfl) ?_
    refine lv_ifnull hx hb d_SL_store_45 ?_
    refine lv_aload hx hb d_SL_store_48 (lv_at hl 0 rfl) ?_
    refine lv_iload_n hx hb d_SL_store_50 rfl (lv_at hl 3 rfl) ?_
    refine lv_iload_n hx hb d_SL_store_51 rfl (lv_at hl 4 rfl) ?_
    have hPd := va_mem hP (fun x hx => hin x ((dvW_4 h_4).symm ▸ hx))
    have hDd : va_D A _ := (dvW_4 h_4) ▸ va_Dm hD hdo
    refine kw_vU (As := [.int (nI a), .int (nI v)]) (rest := []) ⟨hx, hb, hml, hown, hts⟩ (c_RA_store64 l D k (ad (4 * (msl pr a) + (mpg wd se (msl pr a) a))) (bd (4 * (msl pr a) + (mpg wd se (msl pr a) a))) (sft mb (256 * (4 * (msl pr a) + (mpg wd se (msl pr a) a))) 64) a v (by omega) (by omega)) (va_cwA (owner := "SlotScreen$Device") (x := y_DV_store) 2 hts (gU w_504 w_506 w_510 w_511 w_12 w_512) rfl rfl rfl (hX.1 (.declares y_DV_store) (by unfold NWL; simp)) (by decide +kernel) ⟨Nat.le_of_ble_eq_true rfl, Nat.le_of_ble_eq_true rfl⟩) hK hPd hDd hS hA (va_recv hK hPd (ci := 5) (q0 := 0) rfl rfl) rfl hl.1 rfl (Nat.le_of_ble_eq_true rfl) d_SL_store_52 ⟨Nat.zero_le _, Nat.zero_le _⟩ (fun _ H9 locs _ hP1 hk1 hS9 => ?_)
    rw [← dvW_4 (k := k) (ad := ad) (bd := bd) (ed := ed) (nb := nb) (sh := sh) (mb := mb) h_4] at hk1
    rw [sft_u (by omega), ← dvW_4 (k := k) (ad := ad) (bd := bd) (ed := ed) (nb := nb) (sh := sh) h_4] at hP1
    obtain ⟨hP, hD⟩ := pl_mb hO hP hD hdo (by omega) hk1 hP1
    have hS := hS9
    generalize H9 = H at hP hS ⊢
    have hP : va_P D vwCl (slW q k gd wd se pr ++ plW od k ad bd ed kd nb sh (ss_up mb (256 * (4 * (msl pr a) + (mpg wd se (msl pr a) a)) + (a % 64)) v)) H := hP
    have hD : va_D A (slW q k gd wd se pr ++ plW od k ad bd ed kd nb sh (ss_up mb (256 * (4 * (msl pr a) + (mpg wd se (msl pr a) a)) + (a % 64)) v)) := hD
    exact rw_retv hx hb hr hlocks d_SL_store_55 hS () (trivial) (by first | exact hP | (exfalso; omega))
  · have c3 := mt (n_eq0 (by omega)).mpr c3
    refine lv_iload_n hx hb d_SL_store_15 rfl (lv_at hl 2 rfl) ?_
    refine lv_sipush (v := nI 255) hx hb d_SL_store_16 (by decide +kernel) ?_
    refine lv_icmp_ne (tgt := 30) hx hb d_SL_store_19 (by decide) (fun c5 => ?_) (fun c5 => ?_)
    · have c5 := mt (nI_eq (by omega) (by omega)).mpr c5
      refine lv_aload_n hx hb d_SL_store_30 rfl (lv_at hl 1 rfl) ?_
      refine lv_iload_n hx hb d_SL_store_31 rfl (lv_at hl 0 rfl) ?_
      refine lv_aload_n hx hb d_SL_store_32 rfl (lv_at hl 1 rfl) ?_
      refine lv_iload_n hx hb d_SL_store_33 rfl (lv_at hl 0 rfl) ?_
      refine lv_iload_n hx hb d_SL_store_34 rfl (lv_at hl 2 rfl) ?_
      have g6 := mpg_lt wd se (msl pr a) a
      refine kr_iV (As := [.int (nI (msl pr a)), .int (nI a)]) (rest := [.int (nI (msl pr a)), .ref (q 1)]) ⟨hx, hb, hml, hown, hts⟩ (c_SL_partAt l D k q gd wd se pr hwd hse (by omega) (msl pr a) a (by omega) (by omega)) (cwV 2 hts (gV w_503 w_464 w_465 w_2 w_466) rfl rfl rfl (by decide +kernel) ⟨Nat.le_of_ble_eq_true rfl, Nat.le_of_ble_eq_true rfl⟩) hK (hP.sub (ws' := (slW q k gd wd se pr)) [0, 1, 2, 3] rfl) (va_recv hK hP (ci := 1) (q0 := 0) rfl rfl) rfl hl.1 rfl (Nat.le_of_ble_eq_true rfl) d_SL_store_35 ⟨Nat.zero_le _, Nat.zero_le _⟩ ?_
      refine kr_qV (As := [.int (nI (msl pr a)), .int (nI (mpg wd se (msl pr a) a))]) (rest := []) ⟨hx, hb, hml, hown, hts⟩ (c_SL_deviceIn l D k q gd wd se pr (msl pr a) (mpg wd se (msl pr a) a) (by omega) (by omega)) (cwV 2 hts (gV w_471 w_117 w_118 w_2 w_119) rfl rfl rfl (by decide +kernel) ⟨Nat.le_of_ble_eq_true rfl, Nat.le_of_ble_eq_true rfl⟩) hK (hP.sub (ws' := (slW q k gd wd se pr)) [0, 1, 2, 3] rfl) (va_recv hK hP (ci := 1) (q0 := 0) rfl rfl) rfl hl.1 rfl (Nat.le_of_ble_eq_true rfl) d_SL_store_38 ⟨Nat.zero_le _, Nat.zero_le _⟩ ?_
      have hg := hO.1 (4 * (msl pr a) + (mpg wd se (msl pr a) a)) (by omega)
      have hk5 := hkd (4 * (msl pr a) + (mpg wd se (msl pr a) a))
      by_cases h0 : kd (4 * (msl pr a) + (mpg wd se (msl pr a) a)) = 0
      · refine ss_rv (y := .null) (by rw [hg, if_pos h0]; rfl) ?_
        refine lv_astoreN (lv' := [(4, .null), (3, .int (nI (msl pr a))), (0, .ref (q 1)), (1, .int (nI a)), (2, .int (nI v))]) hx hb d_SL_store_41 hl (by decide) rfl (fun ls hl => ?_)
        refine lv_aloadN hx hb d_SL_store_43 (lv_at hl 0 rfl) ?_
        refine lv_ifnullN (tgt := 55) hx hb d_SL_store_45 (by decide) ?_
        exact rw_retv hx hb hr hlocks d_SL_store_55 hS () (trivial) hP
      have hdo : (4 * (msl pr a) + (mpg wd se (msl pr a) a)) ∈ od := (hO.2.1 _).mpr ⟨by omega, h0⟩
      have hin : ∀ x ∈ dvW k ad bd ed kd nb sh mb (4 * (msl pr a) + (mpg wd se (msl pr a) a)), x ∈ (slW q k gd wd se pr ++ plW od k ad bd ed kd nb sh mb) := fun x hx => List.mem_append_right _ (plW_in hdo x hx)
      refine ss_rv (y := .ref (ad (4 * (msl pr a) + (mpg wd se (msl pr a) a)))) (by rw [hg, if_neg h0]; rfl) ?_
      by_cases h_1 : kd (4 * (msl pr a) + (mpg wd se (msl pr a) a)) = 1
      · skip
        refine lv_astore (lv' := [(4, .ref (ad (4 * (msl pr a) + (mpg wd se (msl pr a) a)))), (3, .int (nI (msl pr a))), (0, .ref (q 1)), (1, .int (nI a)), (2, .int (nI v))]) hx hb d_SL_store_41 hl (by decide) rfl (fun ls hl => ?_)
        refine lv_aload hx hb d_SL_store_43 (lv_at hl 0 rfl) ?_
        refine lv_ifnull hx hb d_SL_store_45 ?_
        refine lv_aload hx hb d_SL_store_48 (lv_at hl 0 rfl) ?_
        refine lv_iload_n hx hb d_SL_store_50 rfl (lv_at hl 3 rfl) ?_
        refine lv_iload_n hx hb d_SL_store_51 rfl (lv_at hl 4 rfl) ?_
        have hPd := va_mem hP (fun x hx => hin x ((dvW_1 h_1).symm ▸ hx))
        have hDd : va_D A _ := (dvW_1 h_1) ▸ va_Dm hD hdo
        refine kw_vU (As := [.int (nI a), .int (nI v)]) (rest := []) ⟨hx, hb, hml, hown, hts⟩ (c_RA_store256 l D k (ad (4 * (msl pr a) + (mpg wd se (msl pr a) a))) (bd (4 * (msl pr a) + (mpg wd se (msl pr a) a))) (sft mb (256 * (4 * (msl pr a) + (mpg wd se (msl pr a) a))) 256) a v (by omega) (by omega)) (va_cwA (owner := "SlotScreen$Device") (x := y_DV_store) 2 hts (gU w_504 w_506 w_510 w_511 w_12 w_512) rfl rfl rfl (hX.1 (.declares y_DV_store) (by unfold NWL; simp)) (by decide +kernel) ⟨Nat.le_of_ble_eq_true rfl, Nat.le_of_ble_eq_true rfl⟩) hK hPd hDd hS hA (va_recv hK hPd (ci := 5) (q0 := 0) rfl rfl) rfl hl.1 rfl (Nat.le_of_ble_eq_true rfl) d_SL_store_52 ⟨Nat.zero_le _, Nat.zero_le _⟩ (fun _ H9 locs _ hP1 hk1 hS9 => ?_)
        rw [← dvW_1 (k := k) (ad := ad) (bd := bd) (ed := ed) (nb := nb) (sh := sh) (mb := mb) h_1] at hk1
        rw [sft_u (by omega), ← dvW_1 (k := k) (ad := ad) (bd := bd) (ed := ed) (nb := nb) (sh := sh) h_1] at hP1
        obtain ⟨hP, hD⟩ := pl_mb hO hP hD hdo (by omega) hk1 hP1
        have hS := hS9
        generalize H9 = H at hP hS ⊢
        have hP : va_P D vwCl (slW q k gd wd se pr ++ plW od k ad bd ed kd nb sh (ss_up mb (256 * (4 * (msl pr a) + (mpg wd se (msl pr a) a)) + a) v)) H := hP
        have hD : va_D A (slW q k gd wd se pr ++ plW od k ad bd ed kd nb sh (ss_up mb (256 * (4 * (msl pr a) + (mpg wd se (msl pr a) a)) + a) v)) := hD
        exact rw_retv hx hb hr hlocks d_SL_store_55 hS () (trivial) (by first | exact hP | (exfalso; omega))
      by_cases h_2 : kd (4 * (msl pr a) + (mpg wd se (msl pr a) a)) = 2
      · skip
        refine lv_astore (lv' := [(4, .ref (ad (4 * (msl pr a) + (mpg wd se (msl pr a) a)))), (3, .int (nI (msl pr a))), (0, .ref (q 1)), (1, .int (nI a)), (2, .int (nI v))]) hx hb d_SL_store_41 hl (by decide) rfl (fun ls hl => ?_)
        refine lv_aload hx hb d_SL_store_43 (lv_at hl 0 rfl) ?_
        refine lv_ifnull hx hb d_SL_store_45 ?_
        refine lv_aload hx hb d_SL_store_48 (lv_at hl 0 rfl) ?_
        refine lv_iload_n hx hb d_SL_store_50 rfl (lv_at hl 3 rfl) ?_
        refine lv_iload_n hx hb d_SL_store_51 rfl (lv_at hl 4 rfl) ?_
        have hPd := va_mem hP (fun x hx => hin x ((dvW_2 h_2).symm ▸ hx))
        have hDd : va_D A _ := (dvW_2 h_2) ▸ va_Dm hD hdo
        refine kw_vU (As := [.int (nI a), .int (nI v)]) (rest := []) ⟨hx, hb, hml, hown, hts⟩ (c_RO_store l D k (ad (4 * (msl pr a) + (mpg wd se (msl pr a) a))) (bd (4 * (msl pr a) + (mpg wd se (msl pr a) a))) (sft mb (256 * (4 * (msl pr a) + (mpg wd se (msl pr a) a))) 256) (nI a) (nI v)) (va_cwA (owner := "SlotScreen$Device") (x := y_DV_store) 2 hts (gU w_504 w_506 w_513 w_514 w_13 w_515) rfl rfl rfl (hX.1 (.declares y_DV_store) (by unfold NWL; simp)) (by decide +kernel) ⟨Nat.le_of_ble_eq_true rfl, Nat.le_of_ble_eq_true rfl⟩) hK hPd hDd hS hA (va_recv hK hPd (ci := 6) (q0 := 0) rfl rfl) rfl hl.1 rfl (Nat.le_of_ble_eq_true rfl) d_SL_store_52 ⟨Nat.zero_le _, Nat.zero_le _⟩ (fun _ H9 locs _ hP1 hk1 hS9 => ?_)
        rw [← dvW_2 (k := k) (ad := ad) (bd := bd) (ed := ed) (nb := nb) (sh := sh) (mb := mb) h_2] at hk1
        rw [← dvW_2 (k := k) (ad := ad) (bd := bd) (ed := ed) (nb := nb) (sh := sh) (mb := mb) h_2] at hP1
        have hP := pl_fr (dv' := dvW k ad bd ed kd nb sh mb) hP hD hdo (fun _ _ _ => rfl) hk1 hP1
        have hS := hS9
        generalize H9 = H at hP hS ⊢
        have hP : va_P D vwCl (slW q k gd wd se pr ++ plW od k ad bd ed kd nb sh mb) H := hP
        have hD : va_D A (slW q k gd wd se pr ++ plW od k ad bd ed kd nb sh mb) := hD
        exact rw_retv hx hb hr hlocks d_SL_store_55 hS () (trivial) hP
      by_cases h_3 : kd (4 * (msl pr a) + (mpg wd se (msl pr a) a)) = 3
      · skip
        obtain ⟨hn1, hn2, hn3⟩ := hO.2.2.2 (4 * (msl pr a) + (mpg wd se (msl pr a) a)) (by omega) h_3
        refine lv_astore (lv' := [(4, .ref (ad (4 * (msl pr a) + (mpg wd se (msl pr a) a)))), (3, .int (nI (msl pr a))), (0, .ref (q 1)), (1, .int (nI a)), (2, .int (nI v))]) hx hb d_SL_store_41 hl (by decide) rfl (fun ls hl => ?_)
        refine lv_aload hx hb d_SL_store_43 (lv_at hl 0 rfl) ?_
        refine lv_ifnull hx hb d_SL_store_45 ?_
        refine lv_aload hx hb d_SL_store_48 (lv_at hl 0 rfl) ?_
        refine lv_iload_n hx hb d_SL_store_50 rfl (lv_at hl 3 rfl) ?_
        refine lv_iload_n hx hb d_SL_store_51 rfl (lv_at hl 4 rfl) ?_
        have hPd := va_mem hP (fun x hx => hin x ((dvW_3 h_3).symm ▸ hx))
        have hDd : va_D A _ := (dvW_3 h_3) ▸ va_Dm hD hdo
        by_cases hw : 64 ≤ a ∧ a ≤ 191
        · skip
          have hPd := va_mem hP (fun x hx => hin x ((dvW_3 h_3).symm ▸ hx))
          have hDd : va_D A _ := (dvW_3 h_3) ▸ va_Dm hD hdo
          refine kw_vU (As := [.int (nI a), .int (nI v)]) (rest := []) ⟨hx, hb, hml, hown, hts⟩ (c_BK_storei l D k (ad (4 * (msl pr a) + (mpg wd se (msl pr a) a))) (bd (4 * (msl pr a) + (mpg wd se (msl pr a) a))) (ed (4 * (msl pr a) + (mpg wd se (msl pr a) a))) (nb (4 * (msl pr a) + (mpg wd se (msl pr a) a))) (sft mb (256 * (4 * (msl pr a) + (mpg wd se (msl pr a) a))) (32 * nb (4 * (msl pr a) + (mpg wd se (msl pr a) a)))) (sft sh (4 * (4 * (msl pr a) + (mpg wd se (msl pr a) a))) 4) hn1 hn2 a v (by omega) (by omega) hw) (va_cwA (owner := "SlotScreen$Device") (x := y_DV_store) 2 hts (gU w_504 w_506 w_507 w_508 w_14 w_509) rfl rfl rfl (hX.1 (.declares y_DV_store) (by unfold NWL; simp)) (by decide +kernel) ⟨Nat.le_of_ble_eq_true rfl, Nat.le_of_ble_eq_true rfl⟩) hK hPd hDd hS hA (va_recv hK hPd (ci := 4) (q0 := 0) rfl rfl) rfl hl.1 rfl (Nat.le_of_ble_eq_true rfl) d_SL_store_52 ⟨Nat.zero_le _, Nat.zero_le _⟩ (fun _ H9 locs _ hP1 hk1 hS9 => ?_)
          rw [← dvW_3 (k := k) (ad := ad) (bd := bd) (ed := ed) (nb := nb) (sh := sh) (mb := mb) h_3] at hk1
          rw [sft_u (f := sh) (by omega), ← dvW_3 (k := k) (ad := ad) (bd := bd) (ed := ed) (nb := nb) (mb := mb) h_3] at hP1
          obtain ⟨hP, hD⟩ := pl_sh hP hD hdo (by omega) hk1 hP1
          have hS := hS9
          generalize H9 = H at hP hS ⊢
          have hP : va_P D vwCl (slW q k gd wd se pr ++ plW od k ad bd ed kd nb (ss_up sh (4 * (4 * (msl pr a) + (mpg wd se (msl pr a) a)) + ((a - 64) / 32)) (v % nb (4 * (msl pr a) + (mpg wd se (msl pr a) a)))) mb) H := hP
          have hD : va_D A (slW q k gd wd se pr ++ plW od k ad bd ed kd nb (ss_up sh (4 * (4 * (msl pr a) + (mpg wd se (msl pr a) a)) + ((a - 64) / 32)) (v % nb (4 * (msl pr a) + (mpg wd se (msl pr a) a)))) mb) := hD
          exact rw_retv hx hb hr hlocks d_SL_store_55 hS () (trivial) (by first | exact hP | (exfalso; omega))
        · skip
          have hPd := va_mem hP (fun x hx => hin x ((dvW_3 h_3).symm ▸ hx))
          have hDd : va_D A _ := (dvW_3 h_3) ▸ va_Dm hD hdo
          refine kw_vU (As := [.int (nI a), .int (nI v)]) (rest := []) ⟨hx, hb, hml, hown, hts⟩ (c_BK_storeo l D k (ad (4 * (msl pr a) + (mpg wd se (msl pr a) a))) (bd (4 * (msl pr a) + (mpg wd se (msl pr a) a))) (ed (4 * (msl pr a) + (mpg wd se (msl pr a) a))) (nb (4 * (msl pr a) + (mpg wd se (msl pr a) a))) (sft mb (256 * (4 * (msl pr a) + (mpg wd se (msl pr a) a))) (32 * nb (4 * (msl pr a) + (mpg wd se (msl pr a) a)))) (sft sh (4 * (4 * (msl pr a) + (mpg wd se (msl pr a) a))) 4) a v (by omega) (by omega) hw) (va_cwA (owner := "SlotScreen$Device") (x := y_DV_store) 2 hts (gU w_504 w_506 w_507 w_508 w_14 w_509) rfl rfl rfl (hX.1 (.declares y_DV_store) (by unfold NWL; simp)) (by decide +kernel) ⟨Nat.le_of_ble_eq_true rfl, Nat.le_of_ble_eq_true rfl⟩) hK hPd hDd hS hA (va_recv hK hPd (ci := 4) (q0 := 0) rfl rfl) rfl hl.1 rfl (Nat.le_of_ble_eq_true rfl) d_SL_store_52 ⟨Nat.zero_le _, Nat.zero_le _⟩ (fun _ H9 locs _ hP1 hk1 hS9 => ?_)
          rw [← dvW_3 (k := k) (ad := ad) (bd := bd) (ed := ed) (nb := nb) (sh := sh) (mb := mb) h_3] at hk1
          rw [← dvW_3 (k := k) (ad := ad) (bd := bd) (ed := ed) (nb := nb) (sh := sh) (mb := mb) h_3] at hP1
          have hP := pl_fr (dv' := dvW k ad bd ed kd nb sh mb) hP hD hdo (fun _ _ _ => rfl) hk1 hP1
          have hS := hS9
          generalize H9 = H at hP hS ⊢
          have hP : va_P D vwCl (slW q k gd wd se pr ++ plW od k ad bd ed kd nb sh mb) H := hP
          have hD : va_D A (slW q k gd wd se pr ++ plW od k ad bd ed kd nb sh mb) := hD
          exact rw_retv hx hb hr hlocks d_SL_store_55 hS () (trivial) hP
      have h_4 : kd (4 * (msl pr a) + (mpg wd se (msl pr a) a)) = 4 := by omega
      refine lv_astore (lv' := [(4, .ref (ad (4 * (msl pr a) + (mpg wd se (msl pr a) a)))), (3, .int (nI (msl pr a))), (0, .ref (q 1)), (1, .int (nI a)), (2, .int (nI v))]) hx hb d_SL_store_41 hl (by decide) rfl (fun ls hl => ?_)
      refine lv_aload hx hb d_SL_store_43 (lv_at hl 0 rfl) ?_
      refine lv_ifnull hx hb d_SL_store_45 ?_
      refine lv_aload hx hb d_SL_store_48 (lv_at hl 0 rfl) ?_
      refine lv_iload_n hx hb d_SL_store_50 rfl (lv_at hl 3 rfl) ?_
      refine lv_iload_n hx hb d_SL_store_51 rfl (lv_at hl 4 rfl) ?_
      have hPd := va_mem hP (fun x hx => hin x ((dvW_4 h_4).symm ▸ hx))
      have hDd : va_D A _ := (dvW_4 h_4) ▸ va_Dm hD hdo
      refine kw_vU (As := [.int (nI a), .int (nI v)]) (rest := []) ⟨hx, hb, hml, hown, hts⟩ (c_RA_store64 l D k (ad (4 * (msl pr a) + (mpg wd se (msl pr a) a))) (bd (4 * (msl pr a) + (mpg wd se (msl pr a) a))) (sft mb (256 * (4 * (msl pr a) + (mpg wd se (msl pr a) a))) 64) a v (by omega) (by omega)) (va_cwA (owner := "SlotScreen$Device") (x := y_DV_store) 2 hts (gU w_504 w_506 w_510 w_511 w_12 w_512) rfl rfl rfl (hX.1 (.declares y_DV_store) (by unfold NWL; simp)) (by decide +kernel) ⟨Nat.le_of_ble_eq_true rfl, Nat.le_of_ble_eq_true rfl⟩) hK hPd hDd hS hA (va_recv hK hPd (ci := 5) (q0 := 0) rfl rfl) rfl hl.1 rfl (Nat.le_of_ble_eq_true rfl) d_SL_store_52 ⟨Nat.zero_le _, Nat.zero_le _⟩ (fun _ H9 locs _ hP1 hk1 hS9 => ?_)
      rw [← dvW_4 (k := k) (ad := ad) (bd := bd) (ed := ed) (nb := nb) (sh := sh) (mb := mb) h_4] at hk1
      rw [sft_u (by omega), ← dvW_4 (k := k) (ad := ad) (bd := bd) (ed := ed) (nb := nb) (sh := sh) h_4] at hP1
      obtain ⟨hP, hD⟩ := pl_mb hO hP hD hdo (by omega) hk1 hP1
      have hS := hS9
      generalize H9 = H at hP hS ⊢
      have hP : va_P D vwCl (slW q k gd wd se pr ++ plW od k ad bd ed kd nb sh (ss_up mb (256 * (4 * (msl pr a) + (mpg wd se (msl pr a) a)) + (a % 64)) v)) H := hP
      have hD : va_D A (slW q k gd wd se pr ++ plW od k ad bd ed kd nb sh (ss_up mb (256 * (4 * (msl pr a) + (mpg wd se (msl pr a) a)) + (a % 64)) v)) := hD
      exact rw_retv hx hb hr hlocks d_SL_store_55 hS () (trivial) (by first | exact hP | (exfalso; omega))
    · have c5 := (nI_eq (by omega) (by omega)).mp c5
      exfalso; omega
