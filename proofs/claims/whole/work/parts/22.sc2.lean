set_option maxHeartbeats 4000000 in
set_option maxRecDepth 100000 in
theorem c_SC_drawTiles (l : Launch) (D : va_G) (k : Nat → ClassId) (q : Nat → Nat) (ln : Nat) (px : Nat → Nat) (cv : Nat) (co : Nat) (B : Nat → Nat) (R : Nat → Nat) (sx : Nat) (pt : Nat) (rd : Nat) (wt : Int32) (hB : ∀ j, B j < 256) (hR : ∀ j, R j < 256) (hln : ln < 32) : rw_v l y_SC_drawTiles b_SC_drawTiles 9 none { frames := 4, cells := 0, slots := 0, locals := 88 } D (kT k) (scW q k ln px cv co B R sx pt rd wt) [.ref (q 5), .int (nI ln)] (fun (_ : Unit) => True) (fun (_ : Unit) => (scW q k ln (dln (fun x => dob R (dtl B R x ln)) ln 64 px) cv co B R sx pt rd wt)) := by
  refine rw_headv (by decide) (Nat.le_of_ble_eq_true rfl) ?_
  intro p e s m below meth c ls A hx hb hr hlocks hml hown hts hK hA hP hD hS hl
  have hown : s.vm.findClass "SlotScreen$Screen" = some m.cls := hown
  have hl : lv_has ls 9 [(0, .ref (q 5)), (1, .int (nI ln))] := hl
  refine lv_bipush (v := nI 32) hx hb d_SC_drawTiles_0 (by decide +kernel) ?_
  refine lv_aload_n hx hb d_SC_drawTiles_2 rfl (lv_at hl 0 rfl) ?_
  refine va_get (D := D) (ci := 3) (v := .ref (q 7)) (C := R_SC) (T := T_SC) (N := 5) hx hb hts in_SC hown hK hP 0 rfl rfl 0 (by decide) (hts _ w_77) (fun _ h9 => h9) rfl d_SC_drawTiles_3 ?_
  refine lv_iconst (v := nI 2) hx hb d_SC_drawTiles_6 (by decide +kernel) ?_
  have g1 := hR 2
  refine kr_iV (As := [.int (nI 2)]) (rest := [.int (nI 32)]) ⟨hx, hb, hml, hown, hts⟩ (c_CH_register l D k q B R sx pt rd wt 2 (by omega)) (cwV 1 hts (gV w_178 w_179 w_180 w_3 w_181) rfl rfl rfl (by decide +kernel) ⟨Nat.le_of_ble_eq_true rfl, Nat.le_of_ble_eq_true rfl⟩) hK (hP.sub (ws' := (chW q k B R sx pt rd wt)) [2, 3, 4] rfl) (va_recv hK hP (ci := 2) (q0 := 2) rfl rfl) rfl hl.1 rfl (Nat.le_of_ble_eq_true rfl) d_SC_drawTiles_7 ⟨Nat.zero_le _, Nat.zero_le _⟩ ?_
  refine lv_bipush (v := nI 16) hx hb d_SC_drawTiles_10 (by decide +kernel) ?_
  refine lv_irem hx hb d_SC_drawTiles_12 (by first | decide +kernel | exact nI_ne0 (by omega) (by omega)) ?_
  refine ss_rt (y := nI ((R 2) % 16)) (pk_rem (by omega) (by omega) (by omega)) ?_
  refine lv_imul hx hb d_SC_drawTiles_13 ?_
  refine ss_rt (y := nI (32 * ((R 2) % 16))) (pk_mul _ _) ?_
  refine lv_iload_n hx hb d_SC_drawTiles_14 rfl (lv_at hl 1 rfl) ?_
  refine lv_bipush (v := nI 8) hx hb d_SC_drawTiles_15 (by decide +kernel) ?_
  refine lv_idiv hx hb d_SC_drawTiles_17 (by first | decide +kernel | exact nI_ne0 (by omega) (by omega)) ?_
  refine ss_rt (y := nI (ln / 8)) (pk_div (by omega) (by omega) (by omega)) ?_
  refine lv_bipush (v := nI 8) hx hb d_SC_drawTiles_18 (by decide +kernel) ?_
  refine lv_imul hx hb d_SC_drawTiles_20 ?_
  refine ss_rt (y := nI ((ln / 8) * 8)) (pk_mul _ _) ?_
  refine lv_iadd hx hb d_SC_drawTiles_21 ?_
  refine ss_rt (y := nI (32 * ((R 2) % 16) + ((ln / 8) * 8))) (nI_add _ _) ?_
  refine lv_istore_n (lv' := [(2, .int (nI (32 * ((R 2) % 16) + ((ln / 8) * 8)))), (0, .ref (q 5)), (1, .int (nI ln))]) hx hb d_SC_drawTiles_22 rfl hl (by decide) rfl (fun ls hl => ?_)
  refine lv_iconst (v := nI 4) hx hb d_SC_drawTiles_23 (by decide +kernel) ?_
  refine lv_aload_n hx hb d_SC_drawTiles_24 rfl (lv_at hl 1 rfl) ?_
  refine va_get (D := D) (ci := 3) (v := .ref (q 7)) (C := R_SC) (T := T_SC) (N := 5) hx hb hts in_SC hown hK hP 0 rfl rfl 0 (by decide) (hts _ w_77) (fun _ h9 => h9) rfl d_SC_drawTiles_25 ?_
  refine lv_iconst (v := nI 3) hx hb d_SC_drawTiles_28 (by decide +kernel) ?_
  have g2 := hR 3
  refine kr_iV (As := [.int (nI 3)]) (rest := [.int (nI 4)]) ⟨hx, hb, hml, hown, hts⟩ (c_CH_register l D k q B R sx pt rd wt 3 (by omega)) (cwV 1 hts (gV w_178 w_179 w_180 w_3 w_181) rfl rfl rfl (by decide +kernel) ⟨Nat.le_of_ble_eq_true rfl, Nat.le_of_ble_eq_true rfl⟩) hK (hP.sub (ws' := (chW q k B R sx pt rd wt)) [2, 3, 4] rfl) (va_recv hK hP (ci := 2) (q0 := 2) rfl rfl) rfl hl.1 rfl (Nat.le_of_ble_eq_true rfl) d_SC_drawTiles_29 ⟨Nat.zero_le _, Nat.zero_le _⟩ ?_
  refine lv_sipush (v := nI 128) hx hb d_SC_drawTiles_32 (by decide +kernel) ?_
  refine lv_irem hx hb d_SC_drawTiles_35 (by first | decide +kernel | exact nI_ne0 (by omega) (by omega)) ?_
  refine ss_rt (y := nI ((R 3) % 128)) (pk_rem (by omega) (by omega) (by omega)) ?_
  refine lv_imul hx hb d_SC_drawTiles_36 ?_
  refine ss_rt (y := nI (4 * ((R 3) % 128))) (pk_mul _ _) ?_
  refine lv_istore_n (lv' := [(3, .int (nI (4 * ((R 3) % 128)))), (2, .int (nI (32 * ((R 2) % 16) + ((ln / 8) * 8)))), (0, .ref (q 5)), (1, .int (nI ln))]) hx hb d_SC_drawTiles_37 rfl hl (by decide) rfl (fun ls hl => ?_)
  refine lv_sipush (v := nI 256) hx hb d_SC_drawTiles_38 (by decide +kernel) ?_
  refine lv_aload_n hx hb d_SC_drawTiles_41 rfl (lv_at hl 2 rfl) ?_
  refine va_get (D := D) (ci := 3) (v := .ref (q 7)) (C := R_SC) (T := T_SC) (N := 5) hx hb hts in_SC hown hK hP 0 rfl rfl 0 (by decide) (hts _ w_77) (fun _ h9 => h9) rfl d_SC_drawTiles_42 ?_
  refine lv_iconst (v := nI 4) hx hb d_SC_drawTiles_45 (by decide +kernel) ?_
  have g3 := hR 4
  refine kr_iV (As := [.int (nI 4)]) (rest := [.int (nI 256)]) ⟨hx, hb, hml, hown, hts⟩ (c_CH_register l D k q B R sx pt rd wt 4 (by omega)) (cwV 1 hts (gV w_178 w_179 w_180 w_3 w_181) rfl rfl rfl (by decide +kernel) ⟨Nat.le_of_ble_eq_true rfl, Nat.le_of_ble_eq_true rfl⟩) hK (hP.sub (ws' := (chW q k B R sx pt rd wt)) [2, 3, 4] rfl) (va_recv hK hP (ci := 2) (q0 := 2) rfl rfl) rfl hl.1 rfl (Nat.le_of_ble_eq_true rfl) d_SC_drawTiles_46 ⟨Nat.zero_le _, Nat.zero_le _⟩ ?_
  refine lv_iconst (v := nI 2) hx hb d_SC_drawTiles_49 (by decide +kernel) ?_
  refine lv_irem hx hb d_SC_drawTiles_50 (by first | decide +kernel | exact nI_ne0 (by omega) (by omega)) ?_
  refine ss_rt (y := nI ((R 4) % 2)) (pk_rem (by omega) (by omega) (by omega)) ?_
  refine lv_imul hx hb d_SC_drawTiles_51 ?_
  refine ss_rt (y := nI (256 * ((R 4) % 2))) (pk_mul _ _) ?_
  refine lv_iload_n hx hb d_SC_drawTiles_52 rfl (lv_at hl 3 rfl) ?_
  refine lv_bipush (v := nI 8) hx hb d_SC_drawTiles_53 (by decide +kernel) ?_
  refine lv_irem hx hb d_SC_drawTiles_55 (by first | decide +kernel | exact nI_ne0 (by omega) (by omega)) ?_
  refine ss_rt (y := nI (ln % 8)) (pk_rem (by omega) (by omega) (by omega)) ?_
  refine lv_iadd hx hb d_SC_drawTiles_56 ?_
  refine ss_rt (y := nI (256 * ((R 4) % 2) + (ln % 8))) (nI_add _ _) ?_
  refine lv_istore (lv' := [(4, .int (nI (256 * ((R 4) % 2) + (ln % 8)))), (3, .int (nI (4 * ((R 3) % 128)))), (2, .int (nI (32 * ((R 2) % 16) + ((ln / 8) * 8)))), (0, .ref (q 5)), (1, .int (nI ln))]) hx hb d_SC_drawTiles_57 hl (by decide) rfl (fun ls hl => ?_)
  refine lv_iconst (v := nI 0) hx hb d_SC_drawTiles_59 (by decide +kernel) ?_
  refine lv_istore (lv' := [(5, .int (nI 0)), (4, .int (nI (256 * ((R 4) % 2) + (ln % 8)))), (3, .int (nI (4 * ((R 3) % 128)))), (2, .int (nI (32 * ((R 2) % 16) + ((ln / 8) * 8)))), (0, .ref (q 5)), (1, .int (nI ln))]) hx hb d_SC_drawTiles_60 hl (by decide) rfl (fun ls hl => ?_)
  have loop : ∀ (j9 t : Nat), t + j9 = 8 → ∀ (H : Heap) (locs : List Loc), va_P D vwCl (scW q k ln (dln (fun x => dob R (dtl B R x ln)) ln (8 * t) px) cv co B R sx pt rd wt) H → va_D A (scW q k ln (dln (fun x => dob R (dtl B R x ln)) ln (8 * t) px) cv co B R sx pt rd wt) → va_S A s.heap H locs → ∀ (ls : Array Slot), lv_has ls 9 [(5, .int (nI t)), (4, .int (nI (256 * (R 4 % 2) + ln % 8))), (3, .int (nI (4 * (R 3 % 128)))), (2, .int (nI (32 * (R 2 % 16) + ln / 8 * 8))), (0, .ref (q 5)), (1, .int (nI ln))] → W p l e (headSpec (wsG y_SC_drawTiles b_SC_drawTiles 9 none) { frames := 4, cells := 0, slots := 0, locals := 88 }).room s m ([.ref (q 5), .int (nI ln)] : List Value).toArray below meth c H locs 0 0 (MQ below (rw_Qv D (fun (_ : Unit) => True) (fun (_ : Unit) => (scW q k ln (dln (fun x => dob R (dtl B R x ln)) ln 64 px) cv co B R sx pt rd wt)) A) ([.ref (q 5), .int (nI ln)] : List Value).toArray s 0 0 A) (F0 m 62 ls []) := by
    intro j9
    induction j9 with
    | zero =>
      intro t h9 H locs hP hD hS ls hl
      obtain rfl : t = 8 := by omega
      refine lv_iload hx hb d_SC_drawTiles_62 (lv_at hl 0 rfl) ?_
      refine lv_bipush (v := nI 8) hx hb d_SC_drawTiles_64 (by decide +kernel) ?_
      refine lv_icmp_ge (tgt := 142) hx hb d_SC_drawTiles_66 (by decide) (fun c4 => ?_) (fun c4 => ?_)
      · have c4 := (nI_leI (by omega) (by omega)).mp c4
        exact rw_retv hx hb hr hlocks d_SC_drawTiles_142 hS () (trivial) (by rw [show (dln (fun x => dob R (dtl B R x ln)) ln 64 px) = (dln (fun x => dob R (dtl B R x ln)) ln (8 * 8) px) from by first | rfl | omega]; exact hP)
      · have c4 := mt (nI_leI (by omega) (by omega)).mpr c4
        exfalso; omega
    | succ j9 ih =>
      intro t h9 H locs hP hD hS ls hl
      refine lv_iload hx hb d_SC_drawTiles_62 (lv_at hl 0 rfl) ?_
      refine lv_bipush (v := nI 8) hx hb d_SC_drawTiles_64 (by decide +kernel) ?_
      refine lv_icmp_ge (tgt := 142) hx hb d_SC_drawTiles_66 (by decide) (fun c5 => ?_) (fun c5 => ?_)
      · have c5 := (nI_leI (by omega) (by omega)).mp c5
        exfalso; omega
      · have c5 := mt (nI_leI (by omega) (by omega)).mpr c5
        refine lv_aload_n hx hb d_SC_drawTiles_69 rfl (lv_at hl 4 rfl) ?_
        refine va_get (D := D) (ci := 3) (v := .ref (q 7)) (C := R_SC) (T := T_SC) (N := 5) hx hb hts in_SC hown hK hP 0 rfl rfl 0 (by decide) (hts _ w_77) (fun _ h9 => h9) rfl d_SC_drawTiles_70 ?_
        refine lv_iload_n hx hb d_SC_drawTiles_73 rfl (lv_at hl 3 rfl) ?_
        refine lv_iload hx hb d_SC_drawTiles_74 (lv_at hl 0 rfl) ?_
        refine lv_iadd hx hb d_SC_drawTiles_76 ?_
        refine ss_rt (y := nI (32 * (R 2 % 16) + ln / 8 * 8 + t)) (nI_add _ _) ?_
        have g6 := hB (32 * (R 2 % 16) + ln / 8 * 8 + t)
        refine kr_iV (As := [.int (nI (32 * (R 2 % 16) + ln / 8 * 8 + t))]) (rest := []) ⟨hx, hb, hml, hown, hts⟩ (c_CH_byteAt l D k q B R sx pt rd wt (32 * (R 2 % 16) + ln / 8 * 8 + t) (by omega)) (cwV 1 hts (gV w_194 w_195 w_196 w_3 w_197) rfl rfl rfl (by decide +kernel) ⟨Nat.le_of_ble_eq_true rfl, Nat.le_of_ble_eq_true rfl⟩) hK (hP.sub (ws' := (chW q k B R sx pt rd wt)) [2, 3, 4] rfl) (va_recv hK hP (ci := 2) (q0 := 2) rfl rfl) rfl hl.1 rfl (Nat.le_of_ble_eq_true rfl) d_SC_drawTiles_77 ⟨Nat.zero_le _, Nat.zero_le _⟩ ?_
        refine lv_bipush (v := nI 32) hx hb d_SC_drawTiles_80 (by decide +kernel) ?_
        refine lv_irem hx hb d_SC_drawTiles_82 (by first | decide +kernel | exact nI_ne0 (by omega) (by omega)) ?_
        refine ss_rt (y := nI ((B (32 * (R 2 % 16) + ln / 8 * 8 + t)) % 32)) (pk_rem (by omega) (by omega) (by omega)) ?_
        refine ss_rt (y := nI (dnm B R (8 * t) ln)) (by unfold dnm; rw [show 8 * t / 8 = t by omega]) ?_
        have g1x := dnm_lt B R (8 * t) ln
        refine lv_istore (lv' := [(6, .int (nI (dnm B R (8 * t) ln))), (5, .int (nI t)), (4, .int (nI (256 * (R 4 % 2) + ln % 8))), (3, .int (nI (4 * (R 3 % 128)))), (2, .int (nI (32 * (R 2 % 16) + ln / 8 * 8))), (0, .ref (q 5)), (1, .int (nI ln))]) hx hb d_SC_drawTiles_83 hl (by decide) rfl (fun ls hl => ?_)
        refine lv_aload_n hx hb d_SC_drawTiles_85 rfl (lv_at hl 5 rfl) ?_
        refine va_get (D := D) (ci := 3) (v := .ref (q 7)) (C := R_SC) (T := T_SC) (N := 5) hx hb hts in_SC hown hK hP 0 rfl rfl 0 (by decide) (hts _ w_77) (fun _ h9 => h9) rfl d_SC_drawTiles_86 ?_
        refine lv_iload hx hb d_SC_drawTiles_89 (lv_at hl 2 rfl) ?_
        refine lv_bipush (v := nI 8) hx hb d_SC_drawTiles_91 (by decide +kernel) ?_
        refine lv_iload hx hb d_SC_drawTiles_93 (lv_at hl 0 rfl) ?_
        refine lv_imul hx hb d_SC_drawTiles_95 ?_
        refine ss_rt (y := nI (8 * (dnm B R (8 * t) ln))) (pk_mul _ _) ?_
        refine lv_iadd hx hb d_SC_drawTiles_96 ?_
        refine ss_rt (y := nI (256 * (R 4 % 2) + ln % 8 + (8 * (dnm B R (8 * t) ln)))) (nI_add _ _) ?_
        have g7 := hB (256 * (R 4 % 2) + ln % 8 + (8 * (dnm B R (8 * t) ln)))
        refine kr_iV (As := [.int (nI (256 * (R 4 % 2) + ln % 8 + (8 * (dnm B R (8 * t) ln))))]) (rest := []) ⟨hx, hb, hml, hown, hts⟩ (c_CH_byteAt l D k q B R sx pt rd wt (256 * (R 4 % 2) + ln % 8 + (8 * (dnm B R (8 * t) ln))) (by omega)) (cwV 1 hts (gV w_194 w_195 w_196 w_3 w_197) rfl rfl rfl (by decide +kernel) ⟨Nat.le_of_ble_eq_true rfl, Nat.le_of_ble_eq_true rfl⟩) hK (hP.sub (ws' := (chW q k B R sx pt rd wt)) [2, 3, 4] rfl) (va_recv hK hP (ci := 2) (q0 := 2) rfl rfl) rfl hl.1 rfl (Nat.le_of_ble_eq_true rfl) d_SC_drawTiles_97 ⟨Nat.zero_le _, Nat.zero_le _⟩ ?_
        refine lv_istore (lv' := [(7, .int (nI (B (256 * (R 4 % 2) + ln % 8 + (8 * (dnm B R (8 * t) ln)))))), (6, .int (nI (dnm B R (8 * t) ln))), (5, .int (nI t)), (4, .int (nI (256 * (R 4 % 2) + ln % 8))), (3, .int (nI (4 * (R 3 % 128)))), (2, .int (nI (32 * (R 2 % 16) + ln / 8 * 8))), (0, .ref (q 5)), (1, .int (nI ln))]) hx hb d_SC_drawTiles_100 hl (by decide) rfl (fun ls hl => ?_)
        refine lv_aload_n hx hb d_SC_drawTiles_102 rfl (lv_at hl 6 rfl) ?_
        refine va_get (D := D) (ci := 3) (v := .ref (q 7)) (C := R_SC) (T := T_SC) (N := 5) hx hb hts in_SC hown hK hP 0 rfl rfl 0 (by decide) (hts _ w_77) (fun _ h9 => h9) rfl d_SC_drawTiles_103 ?_
        refine lv_iload_n hx hb d_SC_drawTiles_106 rfl (lv_at hl 4 rfl) ?_
        refine lv_iload hx hb d_SC_drawTiles_107 (lv_at hl 1 rfl) ?_
        refine lv_bipush (v := nI 8) hx hb d_SC_drawTiles_109 (by decide +kernel) ?_
        refine lv_idiv hx hb d_SC_drawTiles_111 (by first | decide +kernel | exact nI_ne0 (by omega) (by omega)) ?_
        refine ss_rt (y := nI ((dnm B R (8 * t) ln) / 8)) (pk_div (by omega) (by omega) (by omega)) ?_
        refine lv_iadd hx hb d_SC_drawTiles_112 ?_
        refine ss_rt (y := nI (4 * (R 3 % 128) + ((dnm B R (8 * t) ln) / 8))) (nI_add _ _) ?_
        have g8 := hB (4 * (R 3 % 128) + ((dnm B R (8 * t) ln) / 8))
        refine kr_iV (As := [.int (nI (4 * (R 3 % 128) + ((dnm B R (8 * t) ln) / 8)))]) (rest := []) ⟨hx, hb, hml, hown, hts⟩ (c_CH_byteAt l D k q B R sx pt rd wt (4 * (R 3 % 128) + ((dnm B R (8 * t) ln) / 8)) (by omega)) (cwV 1 hts (gV w_194 w_195 w_196 w_3 w_197) rfl rfl rfl (by decide +kernel) ⟨Nat.le_of_ble_eq_true rfl, Nat.le_of_ble_eq_true rfl⟩) hK (hP.sub (ws' := (chW q k B R sx pt rd wt)) [2, 3, 4] rfl) (va_recv hK hP (ci := 2) (q0 := 2) rfl rfl) rfl hl.1 rfl (Nat.le_of_ble_eq_true rfl) d_SC_drawTiles_113 ⟨Nat.zero_le _, Nat.zero_le _⟩ ?_
        refine lv_istore (lv' := [(8, .int (nI (B (4 * (R 3 % 128) + ((dnm B R (8 * t) ln) / 8))))), (7, .int (nI (B (256 * (R 4 % 2) + ln % 8 + (8 * (dnm B R (8 * t) ln)))))), (6, .int (nI (dnm B R (8 * t) ln))), (5, .int (nI t)), (4, .int (nI (256 * (R 4 % 2) + ln % 8))), (3, .int (nI (4 * (R 3 % 128)))), (2, .int (nI (32 * (R 2 % 16) + ln / 8 * 8))), (0, .ref (q 5)), (1, .int (nI ln))]) hx hb d_SC_drawTiles_116 hl (by decide) rfl (fun ls hl => ?_)
        refine lv_aload_n hx hb d_SC_drawTiles_118 rfl (lv_at hl 7 rfl) ?_
        refine lv_iload_n hx hb d_SC_drawTiles_119 rfl (lv_at hl 8 rfl) ?_
        refine lv_bipush (v := nI 64) hx hb d_SC_drawTiles_120 (by decide +kernel) ?_
        refine lv_imul hx hb d_SC_drawTiles_122 ?_
        refine ss_rt (y := nI (ln * 64)) (pk_mul _ _) ?_
        refine lv_iload hx hb d_SC_drawTiles_123 (lv_at hl 3 rfl) ?_
        refine lv_bipush (v := nI 8) hx hb d_SC_drawTiles_125 (by decide +kernel) ?_
        refine lv_imul hx hb d_SC_drawTiles_127 ?_
        refine ss_rt (y := nI (t * 8)) (pk_mul _ _) ?_
        refine lv_iadd hx hb d_SC_drawTiles_128 ?_
        refine ss_rt (y := nI (ln * 64 + (t * 8))) (nI_add _ _) ?_
        refine lv_iload hx hb d_SC_drawTiles_129 (lv_at hl 1 rfl) ?_
        refine lv_iload hx hb d_SC_drawTiles_131 (lv_at hl 0 rfl) ?_
        refine kw_vV (As := [.int (nI (ln * 64 + (t * 8))), .int (nI (B (256 * (R 4 % 2) + ln % 8 + (8 * (dnm B R (8 * t) ln))))), .int (nI (B (4 * (R 3 % 128) + ((dnm B R (8 * t) ln) / 8))))]) (rest := []) ⟨hx, hb, hml, hown, hts⟩ (c_SC_drawTileRow l D k q ln px cv co B R sx pt rd wt hB hR (by omega) t (B (256 * (R 4 % 2) + ln % 8 + (8 * (dnm B R (8 * t) ln)))) (B (4 * (R 3 % 128) + ((dnm B R (8 * t) ln) / 8))) (by omega) rfl rfl) (cwV 3 hts (gV w_198 w_200 w_p4 w_4 w_201) rfl rfl rfl (by decide +kernel) ⟨Nat.le_of_ble_eq_true rfl, Nat.le_of_ble_eq_true rfl⟩) hK hP hD hS hA (va_recv hK hP (ci := 3) (q0 := 0) rfl rfl) rfl hl.1 rfl (Nat.le_of_ble_eq_true rfl) d_SC_drawTiles_133 ⟨Nat.zero_le _, Nat.zero_le _⟩ (fun _ H locs _ hP _ hS => ?_)
        have hD : va_D A (scW q k ln (dln (fun x => dob R (dtl B R x ln)) ln (8 * (t + 1)) px) cv co B R sx pt rd wt) := rw_same hD rfl
        have hP : va_P D vwCl (scW q k ln (dln (fun x => dob R (dtl B R x ln)) ln (8 * (t + 1)) px) cv co B R sx pt rd wt) H := hP
        refine lv_iinc (v := nI (t + 1)) (lv' := [(5, .int (nI (t + 1))), (8, .int (nI (B (4 * (R 3 % 128) + ((dnm B R (8 * t) ln) / 8))))), (7, .int (nI (B (256 * (R 4 % 2) + ln % 8 + (8 * (dnm B R (8 * t) ln)))))), (6, .int (nI (dnm B R (8 * t) ln))), (4, .int (nI (256 * (R 4 % 2) + ln % 8))), (3, .int (nI (4 * (R 3 % 128)))), (2, .int (nI (32 * (R 2 % 16) + ln / 8 * 8))), (0, .ref (q 5)), (1, .int (nI ln))]) hx hb d_SC_drawTiles_136 hl (k := 3) rfl (nI_1 _) (by decide) rfl (fun ls hl => ?_)
        refine lv_goto (tgt := 62) hx hb d_SC_drawTiles_139 (by decide) ?_
        exact ih (t + 1) (by omega) _ _ hP hD hS ls (lv_sub hl [0, 4, 5, 6, 7, 8] rfl)
  rw [← dln_0 (fun x => dob R (dtl B R x ln)) ln px] at hP hD
  have hP : va_P D vwCl (scW q k ln (dln (fun x => dob R (dtl B R x ln)) ln (8 * 0) px) cv co B R sx pt rd wt) _ := hP
  have hD : va_D A (scW q k ln (dln (fun x => dob R (dtl B R x ln)) ln (8 * 0) px) cv co B R sx pt rd wt) := hD
  exact loop (8 - 0) 0 (by omega) _ _ hP hD hS ls (lv_sub hl [0, 1, 2, 3, 4, 5] rfl)
set_option maxHeartbeats 4000000 in
set_option maxRecDepth 100000 in
theorem c_SC_coverPixel (l : Launch) (D : va_G) (k : Nat → ClassId) (q : Nat → Nat) (ln : Nat) (px : Nat → Nat) (cv : Nat) (co : Nat) (B : Nat → Nat) (R : Nat → Nat) (sx : Nat) (pt : Nat) (rd : Nat) (wt : Int32) (hln : ln < 32) (hsx : sx < 256) (hcv : cv < 2 ^ 64) (hco : co < 2 ^ 64) (x c9 : Nat) (hx9 : x < 64) (hc9 : c9 < 16) : rw_v l y_SC_coverPixel b_SC_coverPixel 6 none { frames := 1, cells := 0, slots := 0, locals := 20 } D (kT k) (scW q k ln px cv co B R sx pt rd wt) [.ref (q 5), .int (nI ln), .int (nI x), .int (nI c9)] (fun (_ : Unit) => True) (fun (_ : Unit) => (scW q k ln (if c9 ≠ 0 ∧ co.testBit x = false then ss_up px (64 * ln + x) c9 else px) (cv ||| 2 ^ x) (if c9 ≠ 0 ∧ co.testBit x = false then co ||| 2 ^ x else co) B R (if cv.testBit x = true then ss_so 32 sx else sx) pt rd wt)) := by
  refine rw_headv (by decide) (Nat.le_of_ble_eq_true rfl) ?_
  intro p e s m below meth c ls A hx hb hr hlocks hml hown hts hK hA hP hD hS hl
  have hown : s.vm.findClass "SlotScreen$Screen" = some m.cls := hown
  have hl : lv_has ls 6 [(0, .ref (q 5)), (1, .int (nI ln)), (2, .int (nI x)), (3, .int (nI c9))] := hl
  refine lv_lconst (v := lN 1) hx hb d_SC_coverPixel_0 (by decide +kernel) ?_
  refine lv_iload_n hx hb d_SC_coverPixel_1 rfl (lv_at hl 2 rfl) ?_
  refine lv_lshl (v := lN (2 ^ x)) hx hb d_SC_coverPixel_2 (ss_l1 (by omega)) ?_
  refine lv_lstore (lv' := [(4, .long (lN (2 ^ x))), (0, .ref (q 5)), (1, .int (nI ln)), (2, .int (nI x)), (3, .int (nI c9))]) hx hb d_SC_coverPixel_3 hl (by decide) rfl (fun ls hl => ?_)
  refine lv_aload_n hx hb d_SC_coverPixel_5 rfl (lv_at hl 1 rfl) ?_
  refine va_get (D := D) (ci := 3) (v := .long (lN cv)) (C := R_SC) (T := T_SC) (N := 5) hx hb hts in_SC hown hK hP 0 rfl rfl 3 (by decide) (hts _ w_80) (fun _ h9 => h9) rfl d_SC_coverPixel_6 ?_
  refine lv_lload hx hb d_SC_coverPixel_9 (lv_at hl 0 rfl) ?_
  refine lv_land hx hb d_SC_coverPixel_11 ?_
  refine ss_rl (y := lN (cv &&& (2 ^ x))) (wb_and (by first | assumption | exact ss_p64 (by omega)) (by first | assumption | exact ss_p64 (by omega))) ?_
  refine lv_lconst (v := lN 0) hx hb d_SC_coverPixel_12 (by decide +kernel) ?_
  refine W.lcmp hx hb d_SC_coverPixel_13 ?_
  refine lv_if_eq (tgt := 24) hx hb d_SC_coverPixel_14 (by decide) (fun c1 => ?_) (fun c1 => ?_)
  · have c1 := (ss_cv (by first | assumption | omega) (by omega)).mp c1
    refine lv_aload_n hx hb d_SC_coverPixel_24 rfl (lv_at hl 1 rfl) ?_
    refine lv_dup hx hb d_SC_coverPixel_25 rfl ?_
    refine va_get (D := D) (ci := 3) (v := .long (lN cv)) (C := R_SC) (T := T_SC) (N := 5) hx hb hts in_SC hown hK hP 0 rfl rfl 3 (by decide) (hts _ w_80) (fun _ h9 => h9) rfl d_SC_coverPixel_26 ?_
    refine lv_lload hx hb d_SC_coverPixel_29 (lv_at hl 0 rfl) ?_
    refine lv_lor hx hb d_SC_coverPixel_31 ?_
    refine ss_rl (y := lN (cv ||| (2 ^ x))) (wb_or (by first | assumption | exact ss_p64 (by omega)) (by first | assumption | exact ss_p64 (by omega))) ?_
    refine va_put (D := D) (ci := 3) (v := .long (lN (cv ||| (2 ^ x)))) (ty := .long) (C := R_SC) (T := T_SC) (N := 5) hx hb hts in_SC t_SC o_SC n_SC hown hK hP hD hS 0 rfl rfl 3 (by decide) (hts _ w_80) (fun _ h9 => h9) rfl (by decide +kernel) rfl rfl (Nat.le_of_ble_eq_true rfl) d_SC_coverPixel_32 (fun H locs hP hD hS => ?_)
    have hP : va_P D vwCl (scW q k ln px (cv ||| (2 ^ x)) co B R sx pt rd wt) _ := hP
    have hD : va_D A (scW q k ln px (cv ||| (2 ^ x)) co B R sx pt rd wt) := hD
    refine lv_iload_n hx hb d_SC_coverPixel_35 rfl (lv_at hl 4 rfl) ?_
    refine lv_if_eq (tgt := 74) hx hb d_SC_coverPixel_36 (by decide) (fun c2 => ?_) (fun c2 => ?_)
    · have c2 := (n_eq0 (by omega)).mp c2
      exact rw_retv hx hb hr hlocks d_SC_coverPixel_74 hS () (trivial) (by rw [if_neg (show ¬ (c9 ≠ 0 ∧ co.testBit x = false) from fun z9 => by first | (have z8 := z9.1; omega) | (have z8 := z9.2; simp_all)), if_neg (show ¬ (c9 ≠ 0 ∧ co.testBit x = false) from fun z9 => by first | (have z8 := z9.1; omega) | (have z8 := z9.2; simp_all))]; rw [if_neg (by simp_all)]; exact hP)
    · have c2 := mt (n_eq0 (by omega)).mpr c2
      refine lv_aload_n hx hb d_SC_coverPixel_39 rfl (lv_at hl 1 rfl) ?_
      refine va_get (D := D) (ci := 3) (v := .long (lN co)) (C := R_SC) (T := T_SC) (N := 5) hx hb hts in_SC hown hK hP 0 rfl rfl 4 (by decide) (hts _ w_81) (fun _ h9 => h9) rfl d_SC_coverPixel_40 ?_
      refine lv_lload hx hb d_SC_coverPixel_43 (lv_at hl 0 rfl) ?_
      refine lv_land hx hb d_SC_coverPixel_45 ?_
      refine ss_rl (y := lN (co &&& (2 ^ x))) (wb_and (by first | assumption | exact ss_p64 (by omega)) (by first | assumption | exact ss_p64 (by omega))) ?_
      refine lv_lconst (v := lN 0) hx hb d_SC_coverPixel_46 (by decide +kernel) ?_
      refine W.lcmp hx hb d_SC_coverPixel_47 ?_
      refine lv_if_ne (tgt := 74) hx hb d_SC_coverPixel_48 (by decide) (fun c3 => ?_) (fun c3 => ?_)
      · have c3 := mt (ss_cv (by first | assumption | omega) (by omega)).mpr c3
        have c3 := ss_nf c3
        exact rw_retv hx hb hr hlocks d_SC_coverPixel_74 hS () (trivial) (by rw [if_neg (show ¬ (c9 ≠ 0 ∧ co.testBit x = false) from fun z9 => by first | (have z8 := z9.1; omega) | (have z8 := z9.2; simp_all)), if_neg (show ¬ (c9 ≠ 0 ∧ co.testBit x = false) from fun z9 => by first | (have z8 := z9.1; omega) | (have z8 := z9.2; simp_all))]; rw [if_neg (by simp_all)]; exact hP)
      · have c3 := (ss_cv (by first | assumption | omega) (by omega)).mp c3
        refine lv_aload_n hx hb d_SC_coverPixel_51 rfl (lv_at hl 1 rfl) ?_
        refine lv_dup hx hb d_SC_coverPixel_52 rfl ?_
        refine va_get (D := D) (ci := 3) (v := .long (lN co)) (C := R_SC) (T := T_SC) (N := 5) hx hb hts in_SC hown hK hP 0 rfl rfl 4 (by decide) (hts _ w_81) (fun _ h9 => h9) rfl d_SC_coverPixel_53 ?_
        refine lv_lload hx hb d_SC_coverPixel_56 (lv_at hl 0 rfl) ?_
        refine lv_lor hx hb d_SC_coverPixel_58 ?_
        refine ss_rl (y := lN (co ||| (2 ^ x))) (wb_or (by first | assumption | exact ss_p64 (by omega)) (by first | assumption | exact ss_p64 (by omega))) ?_
        refine va_put (D := D) (ci := 3) (v := .long (lN (co ||| (2 ^ x)))) (ty := .long) (C := R_SC) (T := T_SC) (N := 5) hx hb hts in_SC t_SC o_SC n_SC hown hK hP hD hS 0 rfl rfl 4 (by decide) (hts _ w_81) (fun _ h9 => h9) rfl (by decide +kernel) rfl rfl (Nat.le_of_ble_eq_true rfl) d_SC_coverPixel_59 (fun H locs hP hD hS => ?_)
        have hP : va_P D vwCl (scW q k ln px (cv ||| (2 ^ x)) (co ||| (2 ^ x)) B R sx pt rd wt) _ := hP
        have hD : va_D A (scW q k ln px (cv ||| (2 ^ x)) (co ||| (2 ^ x)) B R sx pt rd wt) := hD
        refine lv_aload_n hx hb d_SC_coverPixel_62 rfl (lv_at hl 1 rfl) ?_
        refine va_get (D := D) (ci := 3) (v := .ref (q 6)) (C := R_SC) (T := T_SC) (N := 5) hx hb hts in_SC hown hK hP 0 rfl rfl 1 (by decide) (hts _ w_78) (fun _ h9 => h9) rfl d_SC_coverPixel_63 ?_
        refine lv_iload_n hx hb d_SC_coverPixel_66 rfl (lv_at hl 2 rfl) ?_
        refine lv_bipush (v := nI 64) hx hb d_SC_coverPixel_67 (by decide +kernel) ?_
        refine lv_imul hx hb d_SC_coverPixel_69 ?_
        refine ss_rt (y := nI (ln * 64)) (pk_mul _ _) ?_
        refine lv_iload_n hx hb d_SC_coverPixel_70 rfl (lv_at hl 3 rfl) ?_
        refine lv_iadd hx hb d_SC_coverPixel_71 ?_
        refine ss_rt (y := nI (ln * 64 + x)) (nI_add _ _) ?_
        refine lv_iload_n hx hb d_SC_coverPixel_72 rfl (lv_at hl 4 rfl) ?_
        refine va_iast hx hb hK hP hD hS 1 0 rfl rfl (vp_in_nI (by omega) (by omega)) d_SC_coverPixel_73 (fun H locs hP hD hS => ?_)
        rw [ss_upI px (k := (ln * 64 + x)) (v := c9) (by omega)] at hP hD
        have hP : va_P D vwCl (scW q k ln (ss_up px (ln * 64 + x) c9) (cv ||| (2 ^ x)) (co ||| (2 ^ x)) B R sx pt rd wt) _ := hP
        have hD : va_D A (scW q k ln (ss_up px (ln * 64 + x) c9) (cv ||| (2 ^ x)) (co ||| (2 ^ x)) B R sx pt rd wt) := hD
        exact rw_retv hx hb hr hlocks d_SC_coverPixel_74 hS () (trivial) (by rw [if_pos (show c9 ≠ 0 ∧ co.testBit x = false from ⟨by omega, by assumption⟩), if_pos (show c9 ≠ 0 ∧ co.testBit x = false from ⟨by omega, by assumption⟩), Nat.mul_comm 64 ln]; rw [if_neg (by simp_all)]; exact hP)
  · have c1 := mt (ss_cv (by first | assumption | omega) (by omega)).mpr c1
    have c1 := ss_nf c1
    refine lv_aload_n hx hb d_SC_coverPixel_17 rfl (lv_at hl 1 rfl) ?_
    refine va_get (D := D) (ci := 3) (v := .ref (q 7)) (C := R_SC) (T := T_SC) (N := 5) hx hb hts in_SC hown hK hP 0 rfl rfl 0 (by decide) (hts _ w_77) (fun _ h9 => h9) rfl d_SC_coverPixel_18 ?_
    have hPc := hP.sub (ws' := (chW q k B R sx pt rd wt)) [2, 3, 4] rfl
    have hDc := hD.sub (ws' := (chW q k B R sx pt rd wt)) [2, 3, 4] (by decide) rfl
    have hFc := rw_S hDc hS hA
    refine kw_vV (As := []) (rest := []) ⟨hx, hb, hml, hown, hts⟩ (c_CH_noteTouch l D k q B R sx pt rd wt (by omega)) (cwV 0 hts (gV w_237 w_238 w_239 w_3 w_240) rfl rfl rfl (by decide +kernel) ⟨Nat.le_of_ble_eq_true rfl, Nat.le_of_ble_eq_true rfl⟩) hK hPc hDc hS hA (va_recv hK hP (ci := 2) (q0 := 2) rfl rfl) rfl hl.1 rfl (Nat.le_of_ble_eq_true rfl) d_SC_coverPixel_21 ⟨Nat.zero_le _, Nat.zero_le _⟩ (fun _ H9 locs _ hP1 hk1 hS9 => ?_)
    obtain ⟨hP, hD⟩ := rw_join (w := (chW q k B R sx pt rd wt)) (w' := (chW q k B R (ss_so 32 sx) pt rd wt)) (wr := (scH q k ln px cv co)) hP hD [2, 3, 4] [0, 1] rfl rfl (by decide) (by decide) (by decide) hk1 hFc hP1 rfl
    have hS := hS9
    clear hS9 hP1 hk1 hFc hPc hDc
    generalize H9 = H at hP hS ⊢
    have hP : va_P D vwCl (scW q k ln px cv co B R (ss_so 32 sx) pt rd wt) H := hP
    have hD : va_D A (scW q k ln px cv co B R (ss_so 32 sx) pt rd wt) := hD
    refine lv_aload_n hx hb d_SC_coverPixel_24 rfl (lv_at hl 1 rfl) ?_
    refine lv_dup hx hb d_SC_coverPixel_25 rfl ?_
    refine va_get (D := D) (ci := 3) (v := .long (lN cv)) (C := R_SC) (T := T_SC) (N := 5) hx hb hts in_SC hown hK hP 0 rfl rfl 3 (by decide) (hts _ w_80) (fun _ h9 => h9) rfl d_SC_coverPixel_26 ?_
    refine lv_lload hx hb d_SC_coverPixel_29 (lv_at hl 0 rfl) ?_
    refine lv_lor hx hb d_SC_coverPixel_31 ?_
    refine ss_rl (y := lN (cv ||| (2 ^ x))) (wb_or (by first | assumption | exact ss_p64 (by omega)) (by first | assumption | exact ss_p64 (by omega))) ?_
    refine va_put (D := D) (ci := 3) (v := .long (lN (cv ||| (2 ^ x)))) (ty := .long) (C := R_SC) (T := T_SC) (N := 5) hx hb hts in_SC t_SC o_SC n_SC hown hK hP hD hS 0 rfl rfl 3 (by decide) (hts _ w_80) (fun _ h9 => h9) rfl (by decide +kernel) rfl rfl (Nat.le_of_ble_eq_true rfl) d_SC_coverPixel_32 (fun H locs hP hD hS => ?_)
    have hP : va_P D vwCl (scW q k ln px (cv ||| (2 ^ x)) co B R (ss_so 32 sx) pt rd wt) _ := hP
    have hD : va_D A (scW q k ln px (cv ||| (2 ^ x)) co B R (ss_so 32 sx) pt rd wt) := hD
    refine lv_iload_n hx hb d_SC_coverPixel_35 rfl (lv_at hl 4 rfl) ?_
    refine lv_if_eq (tgt := 74) hx hb d_SC_coverPixel_36 (by decide) (fun c4 => ?_) (fun c4 => ?_)
    · have c4 := (n_eq0 (by omega)).mp c4
      exact rw_retv hx hb hr hlocks d_SC_coverPixel_74 hS () (trivial) (by rw [if_neg (show ¬ (c9 ≠ 0 ∧ co.testBit x = false) from fun z9 => by first | (have z8 := z9.1; omega) | (have z8 := z9.2; simp_all)), if_neg (show ¬ (c9 ≠ 0 ∧ co.testBit x = false) from fun z9 => by first | (have z8 := z9.1; omega) | (have z8 := z9.2; simp_all))]; rw [if_pos (by assumption)]; exact hP)
    · have c4 := mt (n_eq0 (by omega)).mpr c4
      refine lv_aload_n hx hb d_SC_coverPixel_39 rfl (lv_at hl 1 rfl) ?_
      refine va_get (D := D) (ci := 3) (v := .long (lN co)) (C := R_SC) (T := T_SC) (N := 5) hx hb hts in_SC hown hK hP 0 rfl rfl 4 (by decide) (hts _ w_81) (fun _ h9 => h9) rfl d_SC_coverPixel_40 ?_
      refine lv_lload hx hb d_SC_coverPixel_43 (lv_at hl 0 rfl) ?_
      refine lv_land hx hb d_SC_coverPixel_45 ?_
      refine ss_rl (y := lN (co &&& (2 ^ x))) (wb_and (by first | assumption | exact ss_p64 (by omega)) (by first | assumption | exact ss_p64 (by omega))) ?_
      refine lv_lconst (v := lN 0) hx hb d_SC_coverPixel_46 (by decide +kernel) ?_
      refine W.lcmp hx hb d_SC_coverPixel_47 ?_
      refine lv_if_ne (tgt := 74) hx hb d_SC_coverPixel_48 (by decide) (fun c5 => ?_) (fun c5 => ?_)
      · have c5 := mt (ss_cv (by first | assumption | omega) (by omega)).mpr c5
        have c5 := ss_nf c5
        exact rw_retv hx hb hr hlocks d_SC_coverPixel_74 hS () (trivial) (by rw [if_neg (show ¬ (c9 ≠ 0 ∧ co.testBit x = false) from fun z9 => by first | (have z8 := z9.1; omega) | (have z8 := z9.2; simp_all)), if_neg (show ¬ (c9 ≠ 0 ∧ co.testBit x = false) from fun z9 => by first | (have z8 := z9.1; omega) | (have z8 := z9.2; simp_all))]; rw [if_pos (by assumption)]; exact hP)
      · have c5 := (ss_cv (by first | assumption | omega) (by omega)).mp c5
        refine lv_aload_n hx hb d_SC_coverPixel_51 rfl (lv_at hl 1 rfl) ?_
        refine lv_dup hx hb d_SC_coverPixel_52 rfl ?_
        refine va_get (D := D) (ci := 3) (v := .long (lN co)) (C := R_SC) (T := T_SC) (N := 5) hx hb hts in_SC hown hK hP 0 rfl rfl 4 (by decide) (hts _ w_81) (fun _ h9 => h9) rfl d_SC_coverPixel_53 ?_
        refine lv_lload hx hb d_SC_coverPixel_56 (lv_at hl 0 rfl) ?_
        refine lv_lor hx hb d_SC_coverPixel_58 ?_
        refine ss_rl (y := lN (co ||| (2 ^ x))) (wb_or (by first | assumption | exact ss_p64 (by omega)) (by first | assumption | exact ss_p64 (by omega))) ?_
        refine va_put (D := D) (ci := 3) (v := .long (lN (co ||| (2 ^ x)))) (ty := .long) (C := R_SC) (T := T_SC) (N := 5) hx hb hts in_SC t_SC o_SC n_SC hown hK hP hD hS 0 rfl rfl 4 (by decide) (hts _ w_81) (fun _ h9 => h9) rfl (by decide +kernel) rfl rfl (Nat.le_of_ble_eq_true rfl) d_SC_coverPixel_59 (fun H locs hP hD hS => ?_)
        have hP : va_P D vwCl (scW q k ln px (cv ||| (2 ^ x)) (co ||| (2 ^ x)) B R (ss_so 32 sx) pt rd wt) _ := hP
        have hD : va_D A (scW q k ln px (cv ||| (2 ^ x)) (co ||| (2 ^ x)) B R (ss_so 32 sx) pt rd wt) := hD
        refine lv_aload_n hx hb d_SC_coverPixel_62 rfl (lv_at hl 1 rfl) ?_
        refine va_get (D := D) (ci := 3) (v := .ref (q 6)) (C := R_SC) (T := T_SC) (N := 5) hx hb hts in_SC hown hK hP 0 rfl rfl 1 (by decide) (hts _ w_78) (fun _ h9 => h9) rfl d_SC_coverPixel_63 ?_
        refine lv_iload_n hx hb d_SC_coverPixel_66 rfl (lv_at hl 2 rfl) ?_
        refine lv_bipush (v := nI 64) hx hb d_SC_coverPixel_67 (by decide +kernel) ?_
        refine lv_imul hx hb d_SC_coverPixel_69 ?_
        refine ss_rt (y := nI (ln * 64)) (pk_mul _ _) ?_
        refine lv_iload_n hx hb d_SC_coverPixel_70 rfl (lv_at hl 3 rfl) ?_
        refine lv_iadd hx hb d_SC_coverPixel_71 ?_
        refine ss_rt (y := nI (ln * 64 + x)) (nI_add _ _) ?_
        refine lv_iload_n hx hb d_SC_coverPixel_72 rfl (lv_at hl 4 rfl) ?_
        refine va_iast hx hb hK hP hD hS 1 0 rfl rfl (vp_in_nI (by omega) (by omega)) d_SC_coverPixel_73 (fun H locs hP hD hS => ?_)
        rw [ss_upI px (k := (ln * 64 + x)) (v := c9) (by omega)] at hP hD
        have hP : va_P D vwCl (scW q k ln (ss_up px (ln * 64 + x) c9) (cv ||| (2 ^ x)) (co ||| (2 ^ x)) B R (ss_so 32 sx) pt rd wt) _ := hP
        have hD : va_D A (scW q k ln (ss_up px (ln * 64 + x) c9) (cv ||| (2 ^ x)) (co ||| (2 ^ x)) B R (ss_so 32 sx) pt rd wt) := hD
        exact rw_retv hx hb hr hlocks d_SC_coverPixel_74 hS () (trivial) (by rw [if_pos (show c9 ≠ 0 ∧ co.testBit x = false from ⟨by omega, by assumption⟩), if_pos (show c9 ≠ 0 ∧ co.testBit x = false from ⟨by omega, by assumption⟩), Nat.mul_comm 64 ln]; rw [if_pos (by assumption)]; exact hP)
