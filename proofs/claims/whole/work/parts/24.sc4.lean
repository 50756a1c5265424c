set_option maxHeartbeats 4000000 in
set_option maxRecDepth 100000 in
theorem c_SC_drawSprites (l : Launch) (D : va_G) (k : Nat → ClassId) (q : Nat → Nat) (ln : Nat) (px : Nat → Nat) (cv : Nat) (co : Nat) (B : Nat → Nat) (R : Nat → Nat) (sx : Nat) (pt : Nat) (rd : Nat) (wt : Int32) (hB : ∀ j, B j < 256) (hR : ∀ j, R j < 256) (hln : ln < 32) (hsx : sx < 256) : rw_v l y_SC_drawSprites b_SC_drawSprites 9 none { frames := 4, cells := 0, slots := 0, locals := 95 } D (kT k) (scW q k ln px cv co B R sx pt rd wt) [.ref (q 5), .int (nI ln)] (fun (_ : Nat × Nat) => True) (fun (u : Nat × Nat) => scW q k ln (dPF B R ln px) u.1 u.2 B R (dts (dtc B R ln 8 64) (d5f B R ln sx 8)) pt rd wt) := by
  refine rw_headv (by decide) (Nat.le_of_ble_eq_true rfl) ?_
  intro p e s m below meth c ls A hx hb hr hlocks hml hown hts hK hA hP hD hS hl
  have hown : s.vm.findClass "SlotScreen$Screen" = some m.cls := hown
  have hl : lv_has ls 9 [(0, .ref (q 5)), (1, .int (nI ln))] := hl
  have z1 := dsz_le R
  have z2 := dtm_le R
  have z5 := dmo_le B R
  refine lv_aload_n hx hb d_SC_drawSprites_0 rfl (lv_at hl 0 rfl) ?_
  refine lv_lconst (v := lN 0) hx hb d_SC_drawSprites_1 (by decide +kernel) ?_
  refine va_put (D := D) (ci := 3) (v := .long (lN 0)) (ty := .long) (C := R_SC) (T := T_SC) (N := 5) hx hb hts in_SC t_SC o_SC n_SC hown hK hP hD hS 0 rfl rfl 3 (by decide) (hts _ w_80) (fun _ h9 => h9) rfl (by decide +kernel) rfl rfl (Nat.le_of_ble_eq_true rfl) d_SC_drawSprites_2 (fun H locs hP hD hS => ?_)
  have hP : va_P D vwCl (scW q k ln px 0 co B R sx pt rd wt) _ := hP
  have hD : va_D A (scW q k ln px 0 co B R sx pt rd wt) := hD
  refine lv_aload_n hx hb d_SC_drawSprites_5 rfl (lv_at hl 0 rfl) ?_
  refine lv_lconst (v := lN 0) hx hb d_SC_drawSprites_6 (by decide +kernel) ?_
  refine va_put (D := D) (ci := 3) (v := .long (lN 0)) (ty := .long) (C := R_SC) (T := T_SC) (N := 5) hx hb hts in_SC t_SC o_SC n_SC hown hK hP hD hS 0 rfl rfl 4 (by decide) (hts _ w_81) (fun _ h9 => h9) rfl (by decide +kernel) rfl rfl (Nat.le_of_ble_eq_true rfl) d_SC_drawSprites_7 (fun H locs hP hD hS => ?_)
  have hP : va_P D vwCl (scW q k ln px 0 0 B R sx pt rd wt) _ := hP
  have hD : va_D A (scW q k ln px 0 0 B R sx pt rd wt) := hD
  refine lv_bipush (v := nI 32) hx hb d_SC_drawSprites_10 (by decide +kernel) ?_
  refine lv_aload_n hx hb d_SC_drawSprites_12 rfl (lv_at hl 0 rfl) ?_
  refine va_get (D := D) (ci := 3) (v := .ref (q 7)) (C := R_SC) (T := T_SC) (N := 5) hx hb hts in_SC hown hK hP 0 rfl rfl 0 (by decide) (hts _ w_77) (fun _ h9 => h9) rfl d_SC_drawSprites_13 ?_
  refine lv_iconst (v := nI 5) hx hb d_SC_drawSprites_16 (by decide +kernel) ?_
  have g1 := hR 5
  refine kr_iV (As := [.int (nI 5)]) (rest := [.int (nI 32)]) ⟨hx, hb, hml, hown, hts⟩ (c_CH_register l D k q B R sx pt rd wt 5 (by omega)) (cwV 1 hts (gV w_178 w_179 w_180 w_3 w_181) rfl rfl rfl (by decide +kernel) ⟨Nat.le_of_ble_eq_true rfl, Nat.le_of_ble_eq_true rfl⟩) hK (hP.sub (ws' := (chW q k B R sx pt rd wt)) [2, 3, 4] rfl) (va_recv hK hP (ci := 2) (q0 := 2) rfl rfl) rfl hl.1 rfl (Nat.le_of_ble_eq_true rfl) d_SC_drawSprites_17 ⟨Nat.zero_le _, Nat.zero_le _⟩ ?_
  refine lv_bipush (v := nI 16) hx hb d_SC_drawSprites_20 (by decide +kernel) ?_
  refine lv_irem hx hb d_SC_drawSprites_22 (by first | decide +kernel | exact nI_ne0 (by omega) (by omega)) ?_
  refine ss_rt (y := nI ((R 5) % 16)) (pk_rem (by omega) (by omega) (by omega)) ?_
  refine lv_imul hx hb d_SC_drawSprites_23 ?_
  refine ss_rt (y := nI (32 * ((R 5) % 16))) (pk_mul _ _) ?_
  refine lv_istore_n (lv' := [(2, .int (nI (32 * ((R 5) % 16)))), (0, .ref (q 5)), (1, .int (nI ln))]) hx hb d_SC_drawSprites_24 rfl hl (by decide) rfl (fun ls hl => ?_)
  refine lv_aload_n hx hb d_SC_drawSprites_25 rfl (lv_at hl 1 rfl) ?_
  refine kr_iV (As := []) (rest := []) ⟨hx, hb, hml, hown, hts⟩ (c_SC_spriteSide l D k q ln px 0 0 B R sx pt rd wt hB hR) (cwV 0 hts (gV w_210 w_212 w_p7 w_4 w_213) rfl rfl rfl (by decide +kernel) ⟨Nat.le_of_ble_eq_true rfl, Nat.le_of_ble_eq_true rfl⟩) hK hP (va_recv hK hP (ci := 3) (q0 := 0) rfl rfl) rfl hl.1 rfl (Nat.le_of_ble_eq_true rfl) d_SC_drawSprites_26 ⟨Nat.zero_le _, Nat.zero_le _⟩ ?_
  refine lv_aload_n hx hb d_SC_drawSprites_29 rfl (lv_at hl 1 rfl) ?_
  refine kr_iV (As := []) (rest := [.int (nI (dsd R))]) ⟨hx, hb, hml, hown, hts⟩ (c_SC_spriteZoom l D k q ln px 0 0 B R sx pt rd wt hB hR) (cwV 0 hts (gV w_214 w_216 w_p8 w_4 w_217) rfl rfl rfl (by decide +kernel) ⟨Nat.le_of_ble_eq_true rfl, Nat.le_of_ble_eq_true rfl⟩) hK hP (va_recv hK hP (ci := 3) (q0 := 0) rfl rfl) rfl hl.1 rfl (Nat.le_of_ble_eq_true rfl) d_SC_drawSprites_30 ⟨Nat.zero_le _, Nat.zero_le _⟩ ?_
  refine lv_imul hx hb d_SC_drawSprites_33 ?_
  refine ss_rt (y := nI ((dsd R) * (dtm R))) (pk_mul _ _) ?_
  refine ss_rt (y := nI (dsz R)) (rfl) ?_
  refine lv_istore_n (lv' := [(3, .int (nI (dsz R))), (2, .int (nI (32 * ((R 5) % 16)))), (0, .ref (q 5)), (1, .int (nI ln))]) hx hb d_SC_drawSprites_34 rfl hl (by decide) rfl (fun ls hl => ?_)
  refine lv_iconst (v := nI 0) hx hb d_SC_drawSprites_35 (by decide +kernel) ?_
  refine lv_istore (lv' := [(4, .int (nI 0)), (3, .int (nI (dsz R))), (2, .int (nI (32 * ((R 5) % 16)))), (0, .ref (q 5)), (1, .int (nI ln))]) hx hb d_SC_drawSprites_36 hl (by decide) rfl (fun ls hl => ?_)
  refine lv_iconst (v := nI 0) hx hb d_SC_drawSprites_38 (by decide +kernel) ?_
  refine lv_istore (lv' := [(5, .int (nI 0)), (4, .int (nI 0)), (3, .int (nI (dsz R))), (2, .int (nI (32 * ((R 5) % 16)))), (0, .ref (q 5)), (1, .int (nI ln))]) hx hb d_SC_drawSprites_39 hl (by decide) rfl (fun ls hl => ?_)
  have loop : ∀ (j9 z : Nat), z + j9 = 8 → ∀ (cv9 : Nat), ∀ (co9 : Nat), ∀ (sx9 : Nat), ∀ (px9 : Nat → Nat), (hI : dIv (fun x => dht B R ln x z) (fun x => dcl B R ln x z) ln px sx cv9 co9 sx9 px9) → (hm : z ≤ dmo B R ∧ dct B R ln z ≤ 4) → ∀ (H : Heap) (locs : List Loc), va_P D vwCl (scW q k ln px9 cv9 co9 B R sx9 pt rd wt) H → va_D A (scW q k ln px9 cv9 co9 B R sx9 pt rd wt) → va_S A s.heap H locs → ∀ (ls : Array Slot), lv_has ls 9 [(5, .int (nI z)), (4, .int (nI (dct B R ln z))), (3, .int (nI (dsz R))), (2, .int (nI (32 * (R 5 % 16)))), (0, .ref (q 5)), (1, .int (nI ln))] → W p l e (headSpec (wsG y_SC_drawSprites b_SC_drawSprites 9 none) { frames := 4, cells := 0, slots := 0, locals := 95 }).room s m ([.ref (q 5), .int (nI ln)] : List Value).toArray below meth c H locs 0 0 (MQ below (rw_Qv D (fun (_ : Nat × Nat) => True) (fun (u : Nat × Nat) => scW q k ln (dPF B R ln px) u.1 u.2 B R (dts (dtc B R ln 8 64) (d5f B R ln sx 8)) pt rd wt) A) ([.ref (q 5), .int (nI ln)] : List Value).toArray s 0 0 A) (F0 m 41 ls []) := by
    intro j9
    induction j9 with
    | zero =>
      intro z h9 cv9 co9 sx9 px9 hI hm H locs hP hD hS ls hl
      have hs9 := dIv_sx hI hsx
      refine lv_iload hx hb d_SC_drawSprites_41 (lv_at hl 0 rfl) ?_
      refine lv_bipush (v := nI 8) hx hb d_SC_drawSprites_43 (by decide +kernel) ?_
      refine lv_icmp_ge (tgt := 138) hx hb d_SC_drawSprites_45 (by decide) (fun c2 => ?_) (fun c2 => ?_)
      · have c2 := (nI_leI (by omega) (by omega)).mp c2
        exact rw_retv hx hb hr hlocks d_SC_drawSprites_138 hS (cv9, co9) (trivial) (by rw [d5f_y (z := z) (by first | omega | exact dmo_ge (by omega)) (by omega) (by omega), ← (dIv_fin hI (by omega) (Or.inl (by first | omega | exact dmo_ge (by omega)))).1, ← (dIv_fin hI (by omega) (Or.inl (by first | omega | exact dmo_ge (by omega)))).2]; exact hP)
      · have c2 := mt (nI_leI (by omega) (by omega)).mpr c2
        exfalso; omega
    | succ j9 ih =>
      intro z h9 cv9 co9 sx9 px9 hI hm H locs hP hD hS ls hl
      have hs9 := dIv_sx hI hsx
      refine lv_iload hx hb d_SC_drawSprites_41 (lv_at hl 0 rfl) ?_
      refine lv_bipush (v := nI 8) hx hb d_SC_drawSprites_43 (by decide +kernel) ?_
      refine lv_icmp_ge (tgt := 138) hx hb d_SC_drawSprites_45 (by decide) (fun c3 => ?_) (fun c3 => ?_)
      · have c3 := (nI_leI (by omega) (by omega)).mp c3
        exfalso; omega
      · have c3 := mt (nI_leI (by omega) (by omega)).mpr c3
        refine lv_iload_n hx hb d_SC_drawSprites_48 rfl (lv_at hl 3 rfl) ?_
        refine lv_iconst (v := nI 4) hx hb d_SC_drawSprites_49 (by decide +kernel) ?_
        refine lv_iload hx hb d_SC_drawSprites_50 (lv_at hl 0 rfl) ?_
        refine lv_imul hx hb d_SC_drawSprites_52 ?_
        refine ss_rt (y := nI (4 * z)) (pk_mul _ _) ?_
        refine lv_iadd hx hb d_SC_drawSprites_53 ?_
        refine ss_rt (y := nI (32 * (R 5 % 16) + (4 * z))) (nI_add _ _) ?_
        refine lv_istore (lv' := [(6, .int (nI (32 * (R 5 % 16) + (4 * z)))), (5, .int (nI z)), (4, .int (nI (dct B R ln z))), (3, .int (nI (dsz R))), (2, .int (nI (32 * (R 5 % 16)))), (0, .ref (q 5)), (1, .int (nI ln))]) hx hb d_SC_drawSprites_54 hl (by decide) rfl (fun ls hl => ?_)
        refine lv_aload_n hx hb d_SC_drawSprites_56 rfl (lv_at hl 5 rfl) ?_
        refine va_get (D := D) (ci := 3) (v := .ref (q 7)) (C := R_SC) (T := T_SC) (N := 5) hx hb hts in_SC hown hK hP 0 rfl rfl 0 (by decide) (hts _ w_77) (fun _ h9 => h9) rfl d_SC_drawSprites_57 ?_
        refine lv_iload hx hb d_SC_drawSprites_60 (lv_at hl 0 rfl) ?_
        have g4 := hB (32 * (R 5 % 16) + (4 * z))
        refine kr_iV (As := [.int (nI (32 * (R 5 % 16) + (4 * z)))]) (rest := []) ⟨hx, hb, hml, hown, hts⟩ (c_CH_byteAt l D k q B R sx9 pt rd wt (32 * (R 5 % 16) + (4 * z)) (by omega)) (cwV 1 hts (gV w_194 w_195 w_196 w_3 w_197) rfl rfl rfl (by decide +kernel) ⟨Nat.le_of_ble_eq_true rfl, Nat.le_of_ble_eq_true rfl⟩) hK (hP.sub (ws' := (chW q k B R sx9 pt rd wt)) [2, 3, 4] rfl) (va_recv hK hP (ci := 2) (q0 := 2) rfl rfl) rfl hl.1 rfl (Nat.le_of_ble_eq_true rfl) d_SC_drawSprites_62 ⟨Nat.zero_le _, Nat.zero_le _⟩ ?_
        refine ss_rt (y := nI (dsp B R z 0)) (rfl) ?_
        have g5 : dsp B R z 0 < 256 := hB _
        refine lv_istore (lv' := [(7, .int (nI (dsp B R z 0))), (6, .int (nI (32 * (R 5 % 16) + (4 * z)))), (5, .int (nI z)), (4, .int (nI (dct B R ln z))), (3, .int (nI (dsz R))), (2, .int (nI (32 * (R 5 % 16)))), (0, .ref (q 5)), (1, .int (nI ln))]) hx hb d_SC_drawSprites_65 hl (by decide) rfl (fun ls hl => ?_)
        refine lv_iload hx hb d_SC_drawSprites_67 (lv_at hl 0 rfl) ?_
        refine lv_sipush (v := nI 208) hx hb d_SC_drawSprites_69 (by decide +kernel) ?_
        refine lv_icmp_ne (tgt := 76) hx hb d_SC_drawSprites_72 (by decide) (fun c6 => ?_) (fun c6 => ?_)
        · have c6 := mt (nI_eq (by omega) (by omega)).mpr c6
          have hzm := dmo_lt (B := B) (R := R) (z := z) (by omega) (by omega) (by omega)
          by_cases ht : dsp B R z 0 < 224
          · skip
            refine lv_iload_n hx hb d_SC_drawSprites_76 rfl (lv_at hl 7 rfl) ?_
            refine lv_iload hx hb d_SC_drawSprites_77 (lv_at hl 0 rfl) ?_
            refine kr_iS (As := [.int (nI (dsp B R z 0))]) (rest := [.int (nI ln)]) ⟨hx, hb, hml, hown, hts⟩ (c_SC_topA l D k (dsp B R z 0) (by omega)) (va_cwS 1 hts (gS w_218 w_219 w_4 w_220) rfl rfl rfl (by decide +kernel) ⟨Nat.le_of_ble_eq_true rfl, Nat.le_of_ble_eq_true rfl⟩) hK va_nil rfl hl.1 rfl (Nat.le_of_ble_eq_true rfl) d_SC_drawSprites_79 ⟨Nat.zero_le _, Nat.zero_le _⟩ ?_
            refine lv_isub hx hb d_SC_drawSprites_82 ?_
            refine ss_rt (y := iI ((ln : Nat) - (dsp B R z 0 + 1 : Nat) : Int)) (iI_nn _ _) ?_
            refine lv_istore (lv' := [(8, .int (iI ((ln : Nat) - (dsp B R z 0 + 1 : Nat) : Int))), (7, .int (nI (dsp B R z 0))), (6, .int (nI (32 * (R 5 % 16) + (4 * z)))), (5, .int (nI z)), (4, .int (nI (dct B R ln z))), (3, .int (nI (dsz R))), (2, .int (nI (32 * (R 5 % 16)))), (0, .ref (q 5)), (1, .int (nI ln))]) hx hb d_SC_drawSprites_83 hl (by decide) rfl (fun ls hl => ?_)
            refine lv_iload hx hb d_SC_drawSprites_85 (lv_at hl 0 rfl) ?_
            refine lv_if_lt (tgt := 132) hx hb d_SC_drawSprites_87 (by decide) (fun c7 => ?_) (fun c7 => ?_)
            · have c7 := (z_lt0).mp c7
              rw [iI_t (by omega) (by omega)] at c7
              have hnd : ¬ don B R ln z = true := don_f (by rw [if_pos ht]; omega)
              refine lv_iinc (v := nI (z + 1)) (lv' := [(5, .int (nI (z + 1))), (8, .int (iI ((ln : Nat) - (dsp B R z 0 + 1 : Nat) : Int))), (7, .int (nI (dsp B R z 0))), (6, .int (nI (32 * (R 5 % 16) + (4 * z)))), (4, .int (nI (dct B R ln z))), (3, .int (nI (dsz R))), (2, .int (nI (32 * (R 5 % 16)))), (0, .ref (q 5)), (1, .int (nI ln))]) hx hb d_SC_drawSprites_132 hl (k := 3) rfl (nI_1 _) (by decide) rfl (fun ls hl => ?_)
              refine lv_goto (tgt := 41) hx hb d_SC_drawSprites_135 (by decide) ?_
              rw [← (st_off hnd 0).1] at hl
              exact ih (z + 1) (by omega) cv9 co9 sx9 px9 (dIv_cg hI (fun x _ => (st_off hnd x).2.1) (fun x _ => (st_off hnd x).2.2)) ⟨by omega, by rw [(st_off hnd 0).1]; omega⟩ _ _ hP hD hS ls (lv_sub hl [0, 4, 5, 6, 7, 8] rfl)
            · have c7 := mt (z_lt0).mpr c7
              rw [iI_t (by omega) (by omega)] at c7
              refine lv_iload hx hb d_SC_drawSprites_90 (lv_at hl 0 rfl) ?_
              refine lv_iload_n hx hb d_SC_drawSprites_92 rfl (lv_at hl 5 rfl) ?_
              refine lv_icmp_lt (tgt := 99) hx hb d_SC_drawSprites_93 (by decide) (fun c8 => ?_) (fun c8 => ?_)
              · have c8 := (zn_lt (by omega)).mp c8
                rw [iI_t (by omega) (by omega)] at c8
                have hd : don B R ln z = true := don_t (by rw [if_pos ht]; omega)
                have e8 : iI ((ln : Nat) - (dsp B R z 0 + 1 : Nat) : Int) = nI (dbl B R ln z) := iI_n (by rw [dbl_1 ht]; omega)
                rw [e8] at hl
                have g9 := (drw_lt hd).1
                have g10 := dsd_or R
                refine lv_iload hx hb d_SC_drawSprites_99 (lv_at hl 4 rfl) ?_
                refine lv_iconst (v := nI 4) hx hb d_SC_drawSprites_101 (by decide +kernel) ?_
                refine lv_icmp_ne (tgt := 115) hx hb d_SC_drawSprites_102 (by decide) (fun c11 => ?_) (fun c11 => ?_)
                · have c11 := mt (nI_eq (by omega) (by omega)).mpr c11
                  refine lv_iinc (v := nI (dct B R ln z + 1)) (lv' := [(4, .int (nI (dct B R ln z + 1))), (8, .int (nI (dbl B R ln z))), (7, .int (nI (dsp B R z 0))), (6, .int (nI (32 * (R 5 % 16) + (4 * z)))), (5, .int (nI z)), (3, .int (nI (dsz R))), (2, .int (nI (32 * (R 5 % 16)))), (0, .ref (q 5)), (1, .int (nI ln))]) hx hb d_SC_drawSprites_115 hl (k := 4) rfl (nI_1 _) (by decide) rfl (fun ls hl => ?_)
                  refine lv_aload_n hx hb d_SC_drawSprites_118 rfl (lv_at hl 7 rfl) ?_
                  refine lv_iload_n hx hb d_SC_drawSprites_119 rfl (lv_at hl 8 rfl) ?_
                  refine lv_iload hx hb d_SC_drawSprites_120 (lv_at hl 3 rfl) ?_
                  refine lv_iload hx hb d_SC_drawSprites_122 (lv_at hl 1 rfl) ?_
                  refine lv_aload_n hx hb d_SC_drawSprites_124 rfl (lv_at hl 7 rfl) ?_
                  refine kr_iV (As := []) (rest := [.int (nI (dbl B R ln z)), .int (nI (32 * (R 5 % 16) + (4 * z))), .int (nI ln), .ref (q 5)]) ⟨hx, hb, hml, hown, hts⟩ (c_SC_spriteZoom l D k q ln px9 cv9 co9 B R sx9 pt rd wt hB hR) (cwV 0 hts (gV w_214 w_216 w_p8 w_4 w_217) rfl rfl rfl (by decide +kernel) ⟨Nat.le_of_ble_eq_true rfl, Nat.le_of_ble_eq_true rfl⟩) hK hP (va_recv hK hP (ci := 3) (q0 := 0) rfl rfl) rfl hl.1 rfl (Nat.le_of_ble_eq_true rfl) d_SC_drawSprites_125 ⟨Nat.zero_le _, Nat.zero_le _⟩ ?_
                  refine lv_idiv hx hb d_SC_drawSprites_128 (by first | decide +kernel | exact nI_ne0 (by omega) (by omega)) ?_
                  refine ss_rt (y := nI ((dbl B R ln z) / (dtm R))) (pk_div (by omega) (by omega) (by omega)) ?_
                  have g12 := Nat.div_le_self (dbl B R ln z) (dtm R)
                  refine ss_rt (y := nI (drw B R ln z)) (rfl) ?_
                  refine kw_vV (As := [.int (nI ln), .int (nI (32 * (R 5 % 16) + (4 * z))), .int (nI (drw B R ln z))]) (rest := []) ⟨hx, hb, hml, hown, hts⟩ (c_SC_drawSpriteRow l D k q ln px9 cv9 co9 B R sx9 pt rd wt hB hR (by omega) px sx hsx z (by omega) hd (ddr_t hd (by omega) (by omega)) hI) (cwV 3 hts (gV w_225 w_227 w_p9 w_4 w_228) rfl rfl rfl (by decide +kernel) ⟨Nat.le_of_ble_eq_true rfl, Nat.le_of_ble_eq_true rfl⟩) hK hP hD hS hA (va_recv hK hP (ci := 3) (q0 := 0) rfl rfl) rfl hl.1 rfl (Nat.le_of_ble_eq_true rfl) d_SC_drawSprites_129 ⟨Nat.zero_le _, Nat.zero_le _⟩ (fun u H locs hI2 hP _ hS => ?_)
                  obtain ⟨cvA, coA, sxA, pxA⟩ := u
                  have hD : va_D A (scW q k ln pxA cvA coA B R sxA pt rd wt) := rw_same hD rfl
                  have hP : va_P D vwCl (scW q k ln pxA cvA coA B R sxA pt rd wt) H := hP
                  refine lv_iinc (v := nI (z + 1)) (lv' := [(5, .int (nI (z + 1))), (4, .int (nI (dct B R ln z + 1))), (8, .int (nI (dbl B R ln z))), (7, .int (nI (dsp B R z 0))), (6, .int (nI (32 * (R 5 % 16) + (4 * z)))), (3, .int (nI (dsz R))), (2, .int (nI (32 * (R 5 % 16)))), (0, .ref (q 5)), (1, .int (nI ln))]) hx hb d_SC_drawSprites_132 hl (k := 4) rfl (nI_1 _) (by decide) rfl (fun ls hl => ?_)
                  refine lv_goto (tgt := 41) hx hb d_SC_drawSprites_135 (by decide) ?_
                  rw [← st_ct hd] at hl
                  exact ih (z + 1) (by omega) cvA coA sxA pxA hI2 ⟨by omega, by rw [st_ct hd]; omega⟩ _ _ hP hD hS ls (lv_sub hl [0, 1, 5, 6, 7, 8] rfl)
                · have c11 := (nI_eq (by omega) (by omega)).mp c11
                  refine lv_aload_n hx hb d_SC_drawSprites_105 rfl (lv_at hl 7 rfl) ?_
                  refine va_get (D := D) (ci := 3) (v := .ref (q 7)) (C := R_SC) (T := T_SC) (N := 5) hx hb hts in_SC hown hK hP 0 rfl rfl 0 (by decide) (hts _ w_77) (fun _ h9 => h9) rfl d_SC_drawSprites_106 ?_
                  refine lv_iload hx hb d_SC_drawSprites_109 (lv_at hl 3 rfl) ?_
                  have hPc := hP.sub (ws' := (chW q k B R sx9 pt rd wt)) [2, 3, 4] rfl
                  have hDc := hD.sub (ws' := (chW q k B R sx9 pt rd wt)) [2, 3, 4] (by decide) rfl
                  have hFc := rw_S hDc hS hA
                  refine kw_vV (As := [.int (nI z)]) (rest := []) ⟨hx, hb, hml, hown, hts⟩ (c_CH_noteFifth l D k q B R sx9 pt rd wt (by omega) z (by omega)) (cwV 1 hts (gV w_221 w_222 w_223 w_3 w_224) rfl rfl rfl (by decide +kernel) ⟨Nat.le_of_ble_eq_true rfl, Nat.le_of_ble_eq_true rfl⟩) hK hPc hDc hS hA (va_recv hK hP (ci := 2) (q0 := 2) rfl rfl) rfl hl.1 rfl (Nat.le_of_ble_eq_true rfl) d_SC_drawSprites_111 ⟨Nat.zero_le _, Nat.zero_le _⟩ (fun _ H9 locs _ hP1 hk1 hS9 => ?_)
                  obtain ⟨hP, hD⟩ := rw_join (w := (chW q k B R sx9 pt rd wt)) (w' := (chW q k B R (dff sx9 z) pt rd wt)) (wr := (scH q k ln px9 cv9 co9)) hP hD [2, 3, 4] [0, 1] rfl rfl (by decide) (by decide) (by decide) hk1 hFc hP1 rfl
                  have hS := hS9
                  clear hS9 hP1 hk1 hFc hPc hDc
                  generalize H9 = H at hP hS ⊢
                  have hP : va_P D vwCl (scW q k ln px9 cv9 co9 B R (dff sx9 z) pt rd wt) H := hP
                  have hD : va_D A (scW q k ln px9 cv9 co9 B R (dff sx9 z) pt rd wt) := hD
                  exact rw_retv hx hb hr hlocks d_SC_drawSprites_114 hS (cv9, co9) (trivial) (by rw [d5f_x (z := z) (by omega) hd (by omega), ← (dIv_fin hI (by omega) (Or.inr (by omega))).1, ← dts_ff hsx (by omega), ← (dIv_fin hI (by omega) (Or.inr (by omega))).2]; exact hP)
              · have c8 := mt (zn_lt (by omega)).mpr c8
                rw [iI_t (by omega) (by omega)] at c8
                refine lv_goto (tgt := 132) hx hb d_SC_drawSprites_96 (by decide) ?_
                have hnd : ¬ don B R ln z = true := don_f (by rw [if_pos ht]; omega)
                refine lv_iinc (v := nI (z + 1)) (lv' := [(5, .int (nI (z + 1))), (8, .int (iI ((ln : Nat) - (dsp B R z 0 + 1 : Nat) : Int))), (7, .int (nI (dsp B R z 0))), (6, .int (nI (32 * (R 5 % 16) + (4 * z)))), (4, .int (nI (dct B R ln z))), (3, .int (nI (dsz R))), (2, .int (nI (32 * (R 5 % 16)))), (0, .ref (q 5)), (1, .int (nI ln))]) hx hb d_SC_drawSprites_132 hl (k := 3) rfl (nI_1 _) (by decide) rfl (fun ls hl => ?_)
                refine lv_goto (tgt := 41) hx hb d_SC_drawSprites_135 (by decide) ?_
                rw [← (st_off hnd 0).1] at hl
                exact ih (z + 1) (by omega) cv9 co9 sx9 px9 (dIv_cg hI (fun x _ => (st_off hnd x).2.1) (fun x _ => (st_off hnd x).2.2)) ⟨by omega, by rw [(st_off hnd 0).1]; omega⟩ _ _ hP hD hS ls (lv_sub hl [0, 4, 5, 6, 7, 8] rfl)
          · skip
            refine lv_iload_n hx hb d_SC_drawSprites_76 rfl (lv_at hl 7 rfl) ?_
            refine lv_iload hx hb d_SC_drawSprites_77 (lv_at hl 0 rfl) ?_
            refine kr_iS (As := [.int (nI (dsp B R z 0))]) (rest := [.int (nI ln)]) ⟨hx, hb, hml, hown, hts⟩ (c_SC_topB l D k (dsp B R z 0) (by omega) (by omega)) (va_cwS 1 hts (gS w_218 w_219 w_4 w_220) rfl rfl rfl (by decide +kernel) ⟨Nat.le_of_ble_eq_true rfl, Nat.le_of_ble_eq_true rfl⟩) hK va_nil rfl hl.1 rfl (Nat.le_of_ble_eq_true rfl) d_SC_drawSprites_79 ⟨Nat.zero_le _, Nat.zero_le _⟩ ?_
            refine lv_isub hx hb d_SC_drawSprites_82 ?_
            refine ss_rt (y := iI (((ln : Nat) : Int) - ((dsp B R z 0 : Nat) - (255 : Nat) : Int))) (iI_sn _ _) ?_
            refine lv_istore (lv' := [(8, .int (iI (((ln : Nat) : Int) - ((dsp B R z 0 : Nat) - (255 : Nat) : Int)))), (7, .int (nI (dsp B R z 0))), (6, .int (nI (32 * (R 5 % 16) + (4 * z)))), (5, .int (nI z)), (4, .int (nI (dct B R ln z))), (3, .int (nI (dsz R))), (2, .int (nI (32 * (R 5 % 16)))), (0, .ref (q 5)), (1, .int (nI ln))]) hx hb d_SC_drawSprites_83 hl (by decide) rfl (fun ls hl => ?_)
            refine lv_iload hx hb d_SC_drawSprites_85 (lv_at hl 0 rfl) ?_
            refine lv_if_lt (tgt := 132) hx hb d_SC_drawSprites_87 (by decide) (fun c13 => ?_) (fun c13 => ?_)
            · have c13 := (z_lt0).mp c13
              rw [iI_t (by omega) (by omega)] at c13
              have hnd : ¬ don B R ln z = true := don_f (by rw [if_neg ht]; omega)
              refine lv_iinc (v := nI (z + 1)) (lv' := [(5, .int (nI (z + 1))), (8, .int (iI (((ln : Nat) : Int) - ((dsp B R z 0 : Nat) - (255 : Nat) : Int)))), (7, .int (nI (dsp B R z 0))), (6, .int (nI (32 * (R 5 % 16) + (4 * z)))), (4, .int (nI (dct B R ln z))), (3, .int (nI (dsz R))), (2, .int (nI (32 * (R 5 % 16)))), (0, .ref (q 5)), (1, .int (nI ln))]) hx hb d_SC_drawSprites_132 hl (k := 3) rfl (nI_1 _) (by decide) rfl (fun ls hl => ?_)
              refine lv_goto (tgt := 41) hx hb d_SC_drawSprites_135 (by decide) ?_
              rw [← (st_off hnd 0).1] at hl
              exact ih (z + 1) (by omega) cv9 co9 sx9 px9 (dIv_cg hI (fun x _ => (st_off hnd x).2.1) (fun x _ => (st_off hnd x).2.2)) ⟨by omega, by rw [(st_off hnd 0).1]; omega⟩ _ _ hP hD hS ls (lv_sub hl [0, 4, 5, 6, 7, 8] rfl)
            · have c13 := mt (z_lt0).mpr c13
              rw [iI_t (by omega) (by omega)] at c13
              refine lv_iload hx hb d_SC_drawSprites_90 (lv_at hl 0 rfl) ?_
              refine lv_iload_n hx hb d_SC_drawSprites_92 rfl (lv_at hl 5 rfl) ?_
              refine lv_icmp_lt (tgt := 99) hx hb d_SC_drawSprites_93 (by decide) (fun c14 => ?_) (fun c14 => ?_)
              · have c14 := (zn_lt (by omega)).mp c14
                rw [iI_t (by omega) (by omega)] at c14
                have hd : don B R ln z = true := don_t (by rw [if_neg ht]; omega)
                have e8 : iI (((ln : Nat) : Int) - ((dsp B R z 0 : Nat) - (255 : Nat) : Int)) = nI (dbl B R ln z) := iI_n (by rw [dbl_2 ht]; omega)
                rw [e8] at hl
                have g15 := (drw_lt hd).1
                have g16 := dsd_or R
                refine lv_iload hx hb d_SC_drawSprites_99 (lv_at hl 4 rfl) ?_
                refine lv_iconst (v := nI 4) hx hb d_SC_drawSprites_101 (by decide +kernel) ?_
                refine lv_icmp_ne (tgt := 115) hx hb d_SC_drawSprites_102 (by decide) (fun c17 => ?_) (fun c17 => ?_)
                · have c17 := mt (nI_eq (by omega) (by omega)).mpr c17
                  refine lv_iinc (v := nI (dct B R ln z + 1)) (lv' := [(4, .int (nI (dct B R ln z + 1))), (8, .int (nI (dbl B R ln z))), (7, .int (nI (dsp B R z 0))), (6, .int (nI (32 * (R 5 % 16) + (4 * z)))), (5, .int (nI z)), (3, .int (nI (dsz R))), (2, .int (nI (32 * (R 5 % 16)))), (0, .ref (q 5)), (1, .int (nI ln))]) hx hb d_SC_drawSprites_115 hl (k := 4) rfl (nI_1 _) (by decide) rfl (fun ls hl => ?_)
                  refine lv_aload_n hx hb d_SC_drawSprites_118 rfl (lv_at hl 7 rfl) ?_
                  refine lv_iload_n hx hb d_SC_drawSprites_119 rfl (lv_at hl 8 rfl) ?_
                  refine lv_iload hx hb d_SC_drawSprites_120 (lv_at hl 3 rfl) ?_
                  refine lv_iload hx hb d_SC_drawSprites_122 (lv_at hl 1 rfl) ?_
                  refine lv_aload_n hx hb d_SC_drawSprites_124 rfl (lv_at hl 7 rfl) ?_
                  refine kr_iV (As := []) (rest := [.int (nI (dbl B R ln z)), .int (nI (32 * (R 5 % 16) + (4 * z))), .int (nI ln), .ref (q 5)]) ⟨hx, hb, hml, hown, hts⟩ (c_SC_spriteZoom l D k q ln px9 cv9 co9 B R sx9 pt rd wt hB hR) (cwV 0 hts (gV w_214 w_216 w_p8 w_4 w_217) rfl rfl rfl (by decide +kernel) ⟨Nat.le_of_ble_eq_true rfl, Nat.le_of_ble_eq_true rfl⟩) hK hP (va_recv hK hP (ci := 3) (q0 := 0) rfl rfl) rfl hl.1 rfl (Nat.le_of_ble_eq_true rfl) d_SC_drawSprites_125 ⟨Nat.zero_le _, Nat.zero_le _⟩ ?_
                  refine lv_idiv hx hb d_SC_drawSprites_128 (by first | decide +kernel | exact nI_ne0 (by omega) (by omega)) ?_
                  refine ss_rt (y := nI ((dbl B R ln z) / (dtm R))) (pk_div (by omega) (by omega) (by omega)) ?_
                  have g18 := Nat.div_le_self (dbl B R ln z) (dtm R)
                  refine ss_rt (y := nI (drw B R ln z)) (rfl) ?_
                  refine kw_vV (As := [.int (nI ln), .int (nI (32 * (R 5 % 16) + (4 * z))), .int (nI (drw B R ln z))]) (rest := []) ⟨hx, hb, hml, hown, hts⟩ (c_SC_drawSpriteRow l D k q ln px9 cv9 co9 B R sx9 pt rd wt hB hR (by omega) px sx hsx z (by omega) hd (ddr_t hd (by omega) (by omega)) hI) (cwV 3 hts (gV w_225 w_227 w_p9 w_4 w_228) rfl rfl rfl (by decide +kernel) ⟨Nat.le_of_ble_eq_true rfl, Nat.le_of_ble_eq_true rfl⟩) hK hP hD hS hA (va_recv hK hP (ci := 3) (q0 := 0) rfl rfl) rfl hl.1 rfl (Nat.le_of_ble_eq_true rfl) d_SC_drawSprites_129 ⟨Nat.zero_le _, Nat.zero_le _⟩ (fun u H locs hI2 hP _ hS => ?_)
                  obtain ⟨cvA, coA, sxA, pxA⟩ := u
                  have hD : va_D A (scW q k ln pxA cvA coA B R sxA pt rd wt) := rw_same hD rfl
                  have hP : va_P D vwCl (scW q k ln pxA cvA coA B R sxA pt rd wt) H := hP
                  refine lv_iinc (v := nI (z + 1)) (lv' := [(5, .int (nI (z + 1))), (4, .int (nI (dct B R ln z + 1))), (8, .int (nI (dbl B R ln z))), (7, .int (nI (dsp B R z 0))), (6, .int (nI (32 * (R 5 % 16) + (4 * z)))), (3, .int (nI (dsz R))), (2, .int (nI (32 * (R 5 % 16)))), (0, .ref (q 5)), (1, .int (nI ln))]) hx hb d_SC_drawSprites_132 hl (k := 4) rfl (nI_1 _) (by decide) rfl (fun ls hl => ?_)
                  refine lv_goto (tgt := 41) hx hb d_SC_drawSprites_135 (by decide) ?_
                  rw [← st_ct hd] at hl
                  exact ih (z + 1) (by omega) cvA coA sxA pxA hI2 ⟨by omega, by rw [st_ct hd]; omega⟩ _ _ hP hD hS ls (lv_sub hl [0, 1, 5, 6, 7, 8] rfl)
                · have c17 := (nI_eq (by omega) (by omega)).mp c17
                  refine lv_aload_n hx hb d_SC_drawSprites_105 rfl (lv_at hl 7 rfl) ?_
                  refine va_get (D := D) (ci := 3) (v := .ref (q 7)) (C := R_SC) (T := T_SC) (N := 5) hx hb hts in_SC hown hK hP 0 rfl rfl 0 (by decide) (hts _ w_77) (fun _ h9 => h9) rfl d_SC_drawSprites_106 ?_
                  refine lv_iload hx hb d_SC_drawSprites_109 (lv_at hl 3 rfl) ?_
                  have hPc := hP.sub (ws' := (chW q k B R sx9 pt rd wt)) [2, 3, 4] rfl
                  have hDc := hD.sub (ws' := (chW q k B R sx9 pt rd wt)) [2, 3, 4] (by decide) rfl
                  have hFc := rw_S hDc hS hA
                  refine kw_vV (As := [.int (nI z)]) (rest := []) ⟨hx, hb, hml, hown, hts⟩ (c_CH_noteFifth l D k q B R sx9 pt rd wt (by omega) z (by omega)) (cwV 1 hts (gV w_221 w_222 w_223 w_3 w_224) rfl rfl rfl (by decide +kernel) ⟨Nat.le_of_ble_eq_true rfl, Nat.le_of_ble_eq_true rfl⟩) hK hPc hDc hS hA (va_recv hK hP (ci := 2) (q0 := 2) rfl rfl) rfl hl.1 rfl (Nat.le_of_ble_eq_true rfl) d_SC_drawSprites_111 ⟨Nat.zero_le _, Nat.zero_le _⟩ (fun _ H9 locs _ hP1 hk1 hS9 => ?_)
                  obtain ⟨hP, hD⟩ := rw_join (w := (chW q k B R sx9 pt rd wt)) (w' := (chW q k B R (dff sx9 z) pt rd wt)) (wr := (scH q k ln px9 cv9 co9)) hP hD [2, 3, 4] [0, 1] rfl rfl (by decide) (by decide) (by decide) hk1 hFc hP1 rfl
                  have hS := hS9
                  clear hS9 hP1 hk1 hFc hPc hDc
                  generalize H9 = H at hP hS ⊢
                  have hP : va_P D vwCl (scW q k ln px9 cv9 co9 B R (dff sx9 z) pt rd wt) H := hP
                  have hD : va_D A (scW q k ln px9 cv9 co9 B R (dff sx9 z) pt rd wt) := hD
                  exact rw_retv hx hb hr hlocks d_SC_drawSprites_114 hS (cv9, co9) (trivial) (by rw [d5f_x (z := z) (by omega) hd (by omega), ← (dIv_fin hI (by omega) (Or.inr (by omega))).1, ← dts_ff hsx (by omega), ← (dIv_fin hI (by omega) (Or.inr (by omega))).2]; exact hP)
              · have c14 := mt (zn_lt (by omega)).mpr c14
                rw [iI_t (by omega) (by omega)] at c14
                refine lv_goto (tgt := 132) hx hb d_SC_drawSprites_96 (by decide) ?_
                have hnd : ¬ don B R ln z = true := don_f (by rw [if_neg ht]; omega)
                refine lv_iinc (v := nI (z + 1)) (lv' := [(5, .int (nI (z + 1))), (8, .int (iI (((ln : Nat) : Int) - ((dsp B R z 0 : Nat) - (255 : Nat) : Int)))), (7, .int (nI (dsp B R z 0))), (6, .int (nI (32 * (R 5 % 16) + (4 * z)))), (4, .int (nI (dct B R ln z))), (3, .int (nI (dsz R))), (2, .int (nI (32 * (R 5 % 16)))), (0, .ref (q 5)), (1, .int (nI ln))]) hx hb d_SC_drawSprites_132 hl (k := 3) rfl (nI_1 _) (by decide) rfl (fun ls hl => ?_)
                refine lv_goto (tgt := 41) hx hb d_SC_drawSprites_135 (by decide) ?_
                rw [← (st_off hnd 0).1] at hl
                exact ih (z + 1) (by omega) cv9 co9 sx9 px9 (dIv_cg hI (fun x _ => (st_off hnd x).2.1) (fun x _ => (st_off hnd x).2.2)) ⟨by omega, by rw [(st_off hnd 0).1]; omega⟩ _ _ hP hD hS ls (lv_sub hl [0, 4, 5, 6, 7, 8] rfl)
        · have c6 := (nI_eq (by omega) (by omega)).mp c6
          exact rw_retv hx hb hr hlocks d_SC_drawSprites_75 hS (cv9, co9) (trivial) (by rw [d5f_y (z := z) (by first | omega | exact dmo_ge (by omega)) (by omega) (by omega), ← (dIv_fin hI (by omega) (Or.inl (by first | omega | exact dmo_ge (by omega)))).1, ← (dIv_fin hI (by omega) (Or.inl (by first | omega | exact dmo_ge (by omega)))).2]; exact hP)
  exact loop (8 - 0) 0 (by omega) 0 0 sx px dIv_0 ⟨by omega, by simp [dct]⟩ _ _ hP hD hS ls (lv_sub hl [0, 1, 2, 3, 4, 5] rfl)
set_option maxHeartbeats 4000000 in
set_option maxRecDepth 100000 in
theorem c_SC_next_off (l : Launch) (D : va_G) (k : Nat → ClassId) (q : Nat → Nat) (ln : Nat) (px : Nat → Nat) (cv : Nat) (co : Nat) (B : Nat → Nat) (R : Nat → Nat) (sx : Nat) (pt : Nat) (rd : Nat) (wt : Int32) (hB : ∀ j, B j < 256) (hR : ∀ j, R j < 256) (hln : ln < 32) (hsx : sx < 256) (hon : ¬ R 1 / 2 ^ 6 % 2 = 1) : rw_i l y_SC_drawNextLine b_SC_drawNextLine 2 (some .int) { frames := 5, cells := 0, slots := 0, locals := 123 } D (kT k) (scW q k ln px cv co B R sx pt rd wt) [.ref (q 5)] (fun (r : Int32) (_ : Unit) => r = nI ln) (fun (_ : Unit) => (scW q k ((ln + 1) % 32) (dln (fun _ => R 7 % 16) ln 64 px) cv co B R (if ln = 31 then ss_so 128 (sx) else sx) pt rd wt)) := by
  refine rw_headi (by decide) (Nat.le_of_ble_eq_true rfl) ?_
  intro p e s m below meth c ls A hx hb hr hlocks hml hown hts hK hA hP hD hS hl
  have hown : s.vm.findClass "SlotScreen$Screen" = some m.cls := hown
  have hl : lv_has ls 2 [(0, .ref (q 5))] := hl
  refine lv_aload_n hx hb d_SC_drawNextLine_0 rfl (lv_at hl 0 rfl) ?_
  refine va_get (D := D) (ci := 3) (v := .int (nI ln)) (C := R_SC) (T := T_SC) (N := 5) hx hb hts in_SC hown hK hP 0 rfl rfl 2 (by decide) (hts _ w_79) (fun _ h9 => h9) rfl d_SC_drawNextLine_1 ?_
  refine lv_istore_n (lv' := [(1, .int (nI ln)), (0, .ref (q 5))]) hx hb d_SC_drawNextLine_4 rfl hl (by decide) rfl (fun ls hl => ?_)
  refine lv_aload_n hx hb d_SC_drawNextLine_5 rfl (lv_at hl 1 rfl) ?_
  refine va_get (D := D) (ci := 3) (v := .ref (q 7)) (C := R_SC) (T := T_SC) (N := 5) hx hb hts in_SC hown hK hP 0 rfl rfl 0 (by decide) (hts _ w_77) (fun _ h9 => h9) rfl d_SC_drawNextLine_6 ?_
  refine lv_iconst (v := nI 1) hx hb d_SC_drawNextLine_9 (by decide +kernel) ?_
  have g1 := hR 1
  refine kr_iV (As := [.int (nI 1)]) (rest := []) ⟨hx, hb, hml, hown, hts⟩ (c_CH_register l D k q B R sx pt rd wt 1 (by omega)) (cwV 1 hts (gV w_178 w_179 w_180 w_3 w_181) rfl rfl rfl (by decide +kernel) ⟨Nat.le_of_ble_eq_true rfl, Nat.le_of_ble_eq_true rfl⟩) hK (hP.sub (ws' := (chW q k B R sx pt rd wt)) [2, 3, 4] rfl) (va_recv hK hP (ci := 2) (q0 := 2) rfl rfl) rfl hl.1 rfl (Nat.le_of_ble_eq_true rfl) d_SC_drawNextLine_10 ⟨Nat.zero_le _, Nat.zero_le _⟩ ?_
  refine lv_bipush (v := nI 64) hx hb d_SC_drawNextLine_13 (by decide +kernel) ?_
  refine lv_iand hx hb d_SC_drawNextLine_15 ?_
  refine ss_rt (y := nI (R 1 / 64 % 2 * 64)) (ss_and64 _ (by omega)) ?_
  refine lv_if_ne (tgt := 27) hx hb d_SC_drawNextLine_16 (by decide) (fun c2 => ?_) (fun c2 => ?_)
  · have c2 := mt (n_eq0 (by omega)).mpr c2
    exfalso; omega
  · have c2 := (n_eq0 (by omega)).mp c2
    refine lv_aload_n hx hb d_SC_drawNextLine_19 rfl (lv_at hl 1 rfl) ?_
    refine lv_iload_n hx hb d_SC_drawNextLine_20 rfl (lv_at hl 0 rfl) ?_
    refine kw_vV (As := [.int (nI ln)]) (rest := []) ⟨hx, hb, hml, hown, hts⟩ (c_SC_drawBack l D k q ln px cv co B R sx pt rd wt hB hR (by omega)) (cwV 1 hts (gV w_182 w_184 w_p1 w_4 w_185) rfl rfl rfl (by decide +kernel) ⟨Nat.le_of_ble_eq_true rfl, Nat.le_of_ble_eq_true rfl⟩) hK hP hD hS hA (va_recv hK hP (ci := 3) (q0 := 0) rfl rfl) rfl hl.1 rfl (Nat.le_of_ble_eq_true rfl) d_SC_drawNextLine_21 ⟨Nat.zero_le _, Nat.zero_le _⟩ (fun _ H locs _ hP _ hS => ?_)
    have hD : va_D A (scW q k ln (dln (fun _ => R 7 % 16) ln 64 px) cv co B R sx pt rd wt) := rw_same hD rfl
    have hP : va_P D vwCl (scW q k ln (dln (fun _ => R 7 % 16) ln 64 px) cv co B R sx pt rd wt) H := hP
    refine lv_goto (tgt := 37) hx hb d_SC_drawNextLine_24 (by decide) ?_
    refine lv_aload_n hx hb d_SC_drawNextLine_37 rfl (lv_at hl 1 rfl) ?_
    refine lv_iload_n hx hb d_SC_drawNextLine_38 rfl (lv_at hl 0 rfl) ?_
    refine lv_iconst (v := nI 1) hx hb d_SC_drawNextLine_39 (by decide +kernel) ?_
    refine lv_iadd hx hb d_SC_drawNextLine_40 ?_
    refine ss_rt (y := nI (ln + 1)) (nI_add _ _) ?_
    refine lv_bipush (v := nI 32) hx hb d_SC_drawNextLine_41 (by decide +kernel) ?_
    refine lv_irem hx hb d_SC_drawNextLine_43 (by first | decide +kernel | exact nI_ne0 (by omega) (by omega)) ?_
    refine ss_rt (y := nI ((ln + 1) % 32)) (pk_rem (by omega) (by omega) (by omega)) ?_
    refine va_put (D := D) (ci := 3) (v := .int (nI ((ln + 1) % 32))) (ty := .int) (C := R_SC) (T := T_SC) (N := 5) hx hb hts in_SC t_SC o_SC n_SC hown hK hP hD hS 0 rfl rfl 2 (by decide) (hts _ w_79) (fun _ h9 => h9) rfl (by decide +kernel) rfl rfl (Nat.le_of_ble_eq_true rfl) d_SC_drawNextLine_44 (fun H locs hP hD hS => ?_)
    have hP : va_P D vwCl (scW q k ((ln + 1) % 32) (dln (fun _ => R 7 % 16) ln 64 px) cv co B R sx pt rd wt) _ := hP
    have hD : va_D A (scW q k ((ln + 1) % 32) (dln (fun _ => R 7 % 16) ln 64 px) cv co B R sx pt rd wt) := hD
    refine lv_aload_n hx hb d_SC_drawNextLine_47 rfl (lv_at hl 1 rfl) ?_
    refine va_get (D := D) (ci := 3) (v := .int (nI ((ln + 1) % 32))) (C := R_SC) (T := T_SC) (N := 5) hx hb hts in_SC hown hK hP 0 rfl rfl 2 (by decide) (hts _ w_79) (fun _ h9 => h9) rfl d_SC_drawNextLine_48 ?_
    refine lv_if_ne (tgt := 61) hx hb d_SC_drawNextLine_51 (by decide) (fun c3 => ?_) (fun c3 => ?_)
    · have c3 := mt (n_eq0 (by omega)).mpr c3
      refine lv_iload_n hx hb d_SC_drawNextLine_61 rfl (lv_at hl 0 rfl) ?_
      exact rw_reti hx hb hr hlocks d_SC_drawNextLine_62 hS () (rfl) (by rw [show (if ln = 31 then ss_so 128 (sx) else sx) = sx from by first | rw [if_pos (by omega)] | rw [if_neg (by omega)]]; exact hP)
    · have c3 := (n_eq0 (by omega)).mp c3
      refine lv_aload_n hx hb d_SC_drawNextLine_54 rfl (lv_at hl 1 rfl) ?_
      refine va_get (D := D) (ci := 3) (v := .ref (q 7)) (C := R_SC) (T := T_SC) (N := 5) hx hb hts in_SC hown hK hP 0 rfl rfl 0 (by decide) (hts _ w_77) (fun _ h9 => h9) rfl d_SC_drawNextLine_55 ?_
      have hPc := hP.sub (ws' := (chW q k B R sx pt rd wt)) [2, 3, 4] rfl
      have hDc := hD.sub (ws' := (chW q k B R sx pt rd wt)) [2, 3, 4] (by decide) rfl
      have hFc := rw_S hDc hS hA
      refine kw_vV (As := []) (rest := []) ⟨hx, hb, hml, hown, hts⟩ (c_CH_noteFrame l D k q B R sx pt rd wt (by omega)) (cwV 0 hts (gV w_241 w_242 w_243 w_3 w_244) rfl rfl rfl (by decide +kernel) ⟨Nat.le_of_ble_eq_true rfl, Nat.le_of_ble_eq_true rfl⟩) hK hPc hDc hS hA (va_recv hK hP (ci := 2) (q0 := 2) rfl rfl) rfl hl.1 rfl (Nat.le_of_ble_eq_true rfl) d_SC_drawNextLine_58 ⟨Nat.zero_le _, Nat.zero_le _⟩ (fun _ H9 locs _ hP1 hk1 hS9 => ?_)
      obtain ⟨hP, hD⟩ := rw_join (w := (chW q k B R sx pt rd wt)) (w' := (chW q k B R (ss_so 128 sx) pt rd wt)) (wr := (scH q k ((ln + 1) % 32) (dln (fun _ => R 7 % 16) ln 64 px) cv co)) hP hD [2, 3, 4] [0, 1] rfl rfl (by decide) (by decide) (by decide) hk1 hFc hP1 rfl
      have hS := hS9
      clear hS9 hP1 hk1 hFc hPc hDc
      generalize H9 = H at hP hS ⊢
      have hP : va_P D vwCl (scW q k ((ln + 1) % 32) (dln (fun _ => R 7 % 16) ln 64 px) cv co B R (ss_so 128 sx) pt rd wt) H := hP
      have hD : va_D A (scW q k ((ln + 1) % 32) (dln (fun _ => R 7 % 16) ln 64 px) cv co B R (ss_so 128 sx) pt rd wt) := hD
      refine lv_iload_n hx hb d_SC_drawNextLine_61 rfl (lv_at hl 0 rfl) ?_
      exact rw_reti hx hb hr hlocks d_SC_drawNextLine_62 hS () (rfl) (by rw [show (if ln = 31 then ss_so 128 (sx) else sx) = (ss_so 128 sx) from by first | rw [if_pos (by omega)] | rw [if_neg (by omega)]]; exact hP)
set_option maxHeartbeats 4000000 in
set_option maxRecDepth 100000 in
theorem c_SC_next_on (l : Launch) (D : va_G) (k : Nat → ClassId) (q : Nat → Nat) (ln : Nat) (px : Nat → Nat) (cv : Nat) (co : Nat) (B : Nat → Nat) (R : Nat → Nat) (sx : Nat) (pt : Nat) (rd : Nat) (wt : Int32) (hB : ∀ j, B j < 256) (hR : ∀ j, R j < 256) (hln : ln < 32) (hsx : sx < 256) (hon : R 1 / 2 ^ 6 % 2 = 1) : rw_i l y_SC_drawNextLine b_SC_drawNextLine 2 (some .int) { frames := 5, cells := 0, slots := 0, locals := 123 } D (kT k) (scW q k ln px cv co B R sx pt rd wt) [.ref (q 5)] (fun (r : Int32) (_ : Nat × Nat) => r = nI ln) (fun (u : Nat × Nat) => scW q k ((ln + 1) % 32) (dln (dpx B R ln) ln 64 px) u.1 u.2 B R (if ln = 31 then ss_so 128 (dts (dtc B R ln 8 64) (d5f B R ln sx 8)) else dts (dtc B R ln 8 64) (d5f B R ln sx 8)) pt rd wt) := by
  refine rw_headi (by decide) (Nat.le_of_ble_eq_true rfl) ?_
  intro p e s m below meth c ls A hx hb hr hlocks hml hown hts hK hA hP hD hS hl
  have hown : s.vm.findClass "SlotScreen$Screen" = some m.cls := hown
  have hl : lv_has ls 2 [(0, .ref (q 5))] := hl
  refine lv_aload_n hx hb d_SC_drawNextLine_0 rfl (lv_at hl 0 rfl) ?_
  refine va_get (D := D) (ci := 3) (v := .int (nI ln)) (C := R_SC) (T := T_SC) (N := 5) hx hb hts in_SC hown hK hP 0 rfl rfl 2 (by decide) (hts _ w_79) (fun _ h9 => h9) rfl d_SC_drawNextLine_1 ?_
  refine lv_istore_n (lv' := [(1, .int (nI ln)), (0, .ref (q 5))]) hx hb d_SC_drawNextLine_4 rfl hl (by decide) rfl (fun ls hl => ?_)
  refine lv_aload_n hx hb d_SC_drawNextLine_5 rfl (lv_at hl 1 rfl) ?_
  refine va_get (D := D) (ci := 3) (v := .ref (q 7)) (C := R_SC) (T := T_SC) (N := 5) hx hb hts in_SC hown hK hP 0 rfl rfl 0 (by decide) (hts _ w_77) (fun _ h9 => h9) rfl d_SC_drawNextLine_6 ?_
  refine lv_iconst (v := nI 1) hx hb d_SC_drawNextLine_9 (by decide +kernel) ?_
  have g1 := hR 1
  refine kr_iV (As := [.int (nI 1)]) (rest := []) ⟨hx, hb, hml, hown, hts⟩ (c_CH_register l D k q B R sx pt rd wt 1 (by omega)) (cwV 1 hts (gV w_178 w_179 w_180 w_3 w_181) rfl rfl rfl (by decide +kernel) ⟨Nat.le_of_ble_eq_true rfl, Nat.le_of_ble_eq_true rfl⟩) hK (hP.sub (ws' := (chW q k B R sx pt rd wt)) [2, 3, 4] rfl) (va_recv hK hP (ci := 2) (q0 := 2) rfl rfl) rfl hl.1 rfl (Nat.le_of_ble_eq_true rfl) d_SC_drawNextLine_10 ⟨Nat.zero_le _, Nat.zero_le _⟩ ?_
  refine lv_bipush (v := nI 64) hx hb d_SC_drawNextLine_13 (by decide +kernel) ?_
  refine lv_iand hx hb d_SC_drawNextLine_15 ?_
  refine ss_rt (y := nI (R 1 / 64 % 2 * 64)) (ss_and64 _ (by omega)) ?_
  refine lv_if_ne (tgt := 27) hx hb d_SC_drawNextLine_16 (by decide) (fun c2 => ?_) (fun c2 => ?_)
  · have c2 := mt (n_eq0 (by omega)).mpr c2
    refine lv_aload_n hx hb d_SC_drawNextLine_27 rfl (lv_at hl 1 rfl) ?_
    refine lv_iload_n hx hb d_SC_drawNextLine_28 rfl (lv_at hl 0 rfl) ?_
    refine kw_vV (As := [.int (nI ln)]) (rest := []) ⟨hx, hb, hml, hown, hts⟩ (c_SC_drawTiles l D k q ln px cv co B R sx pt rd wt hB hR (by omega)) (cwV 1 hts (gV w_190 w_192 w_p3 w_4 w_193) rfl rfl rfl (by decide +kernel) ⟨Nat.le_of_ble_eq_true rfl, Nat.le_of_ble_eq_true rfl⟩) hK hP hD hS hA (va_recv hK hP (ci := 3) (q0 := 0) rfl rfl) rfl hl.1 rfl (Nat.le_of_ble_eq_true rfl) d_SC_drawNextLine_29 ⟨Nat.zero_le _, Nat.zero_le _⟩ (fun _ H locs _ hP _ hS => ?_)
    have hD : va_D A (scW q k ln (dln (fun x => dob R (dtl B R x ln)) ln 64 px) cv co B R sx pt rd wt) := rw_same hD rfl
    have hP : va_P D vwCl (scW q k ln (dln (fun x => dob R (dtl B R x ln)) ln 64 px) cv co B R sx pt rd wt) H := hP
    refine lv_aload_n hx hb d_SC_drawNextLine_32 rfl (lv_at hl 1 rfl) ?_
    refine lv_iload_n hx hb d_SC_drawNextLine_33 rfl (lv_at hl 0 rfl) ?_
    refine kw_vV (As := [.int (nI ln)]) (rest := []) ⟨hx, hb, hml, hown, hts⟩ (c_SC_drawSprites l D k q ln (dln (fun x => dob R (dtl B R x ln)) ln 64 px) cv co B R sx pt rd wt hB hR (by omega) (by omega)) (cwV 1 hts (gV w_206 w_208 w_p6 w_4 w_209) rfl rfl rfl (by decide +kernel) ⟨Nat.le_of_ble_eq_true rfl, Nat.le_of_ble_eq_true rfl⟩) hK hP hD hS hA (va_recv hK hP (ci := 3) (q0 := 0) rfl rfl) rfl hl.1 rfl (Nat.le_of_ble_eq_true rfl) d_SC_drawNextLine_34 ⟨Nat.zero_le _, Nat.zero_le _⟩ (fun u H locs _ hP _ hS => ?_)
    obtain ⟨cvA, coA⟩ := u
    have hD : va_D A (scW q k ln (dPF B R ln (dln (fun x => dob R (dtl B R x ln)) ln 64 px)) cvA coA B R (dts (dtc B R ln 8 64) (d5f B R ln sx 8)) pt rd wt) := rw_same hD rfl
    have hP : va_P D vwCl (scW q k ln (dPF B R ln (dln (fun x => dob R (dtl B R x ln)) ln 64 px)) cvA coA B R (dts (dtc B R ln 8 64) (d5f B R ln sx 8)) pt rd wt) H := hP
    have f5 := d5f_lt (B := B) (R := R) (L := ln) hsx 8 (by omega)
    have f6 := dts_lt (b := dtc B R ln 8 64) f5
    refine lv_aload_n hx hb d_SC_drawNextLine_37 rfl (lv_at hl 1 rfl) ?_
    refine lv_iload_n hx hb d_SC_drawNextLine_38 rfl (lv_at hl 0 rfl) ?_
    refine lv_iconst (v := nI 1) hx hb d_SC_drawNextLine_39 (by decide +kernel) ?_
    refine lv_iadd hx hb d_SC_drawNextLine_40 ?_
    refine ss_rt (y := nI (ln + 1)) (nI_add _ _) ?_
    refine lv_bipush (v := nI 32) hx hb d_SC_drawNextLine_41 (by decide +kernel) ?_
    refine lv_irem hx hb d_SC_drawNextLine_43 (by first | decide +kernel | exact nI_ne0 (by omega) (by omega)) ?_
    refine ss_rt (y := nI ((ln + 1) % 32)) (pk_rem (by omega) (by omega) (by omega)) ?_
    refine va_put (D := D) (ci := 3) (v := .int (nI ((ln + 1) % 32))) (ty := .int) (C := R_SC) (T := T_SC) (N := 5) hx hb hts in_SC t_SC o_SC n_SC hown hK hP hD hS 0 rfl rfl 2 (by decide) (hts _ w_79) (fun _ h9 => h9) rfl (by decide +kernel) rfl rfl (Nat.le_of_ble_eq_true rfl) d_SC_drawNextLine_44 (fun H locs hP hD hS => ?_)
    have hP : va_P D vwCl (scW q k ((ln + 1) % 32) (dPF B R ln (dln (fun x => dob R (dtl B R x ln)) ln 64 px)) cvA coA B R (dts (dtc B R ln 8 64) (d5f B R ln sx 8)) pt rd wt) _ := hP
    have hD : va_D A (scW q k ((ln + 1) % 32) (dPF B R ln (dln (fun x => dob R (dtl B R x ln)) ln 64 px)) cvA coA B R (dts (dtc B R ln 8 64) (d5f B R ln sx 8)) pt rd wt) := hD
    refine lv_aload_n hx hb d_SC_drawNextLine_47 rfl (lv_at hl 1 rfl) ?_
    refine va_get (D := D) (ci := 3) (v := .int (nI ((ln + 1) % 32))) (C := R_SC) (T := T_SC) (N := 5) hx hb hts in_SC hown hK hP 0 rfl rfl 2 (by decide) (hts _ w_79) (fun _ h9 => h9) rfl d_SC_drawNextLine_48 ?_
    refine lv_if_ne (tgt := 61) hx hb d_SC_drawNextLine_51 (by decide) (fun c3 => ?_) (fun c3 => ?_)
    · have c3 := mt (n_eq0 (by omega)).mpr c3
      refine lv_iload_n hx hb d_SC_drawNextLine_61 rfl (lv_at hl 0 rfl) ?_
      exact rw_reti hx hb hr hlocks d_SC_drawNextLine_62 hS (cvA, coA) (rfl) (by rw [if_neg (by omega), ← dPF_px]; exact hP)
    · have c3 := (n_eq0 (by omega)).mp c3
      refine lv_aload_n hx hb d_SC_drawNextLine_54 rfl (lv_at hl 1 rfl) ?_
      refine va_get (D := D) (ci := 3) (v := .ref (q 7)) (C := R_SC) (T := T_SC) (N := 5) hx hb hts in_SC hown hK hP 0 rfl rfl 0 (by decide) (hts _ w_77) (fun _ h9 => h9) rfl d_SC_drawNextLine_55 ?_
      have hPc := hP.sub (ws' := (chW q k B R (dts (dtc B R ln 8 64) (d5f B R ln sx 8)) pt rd wt)) [2, 3, 4] rfl
      have hDc := hD.sub (ws' := (chW q k B R (dts (dtc B R ln 8 64) (d5f B R ln sx 8)) pt rd wt)) [2, 3, 4] (by decide) rfl
      have hFc := rw_S hDc hS hA
      refine kw_vV (As := []) (rest := []) ⟨hx, hb, hml, hown, hts⟩ (c_CH_noteFrame l D k q B R (dts (dtc B R ln 8 64) (d5f B R ln sx 8)) pt rd wt (by omega)) (cwV 0 hts (gV w_241 w_242 w_243 w_3 w_244) rfl rfl rfl (by decide +kernel) ⟨Nat.le_of_ble_eq_true rfl, Nat.le_of_ble_eq_true rfl⟩) hK hPc hDc hS hA (va_recv hK hP (ci := 2) (q0 := 2) rfl rfl) rfl hl.1 rfl (Nat.le_of_ble_eq_true rfl) d_SC_drawNextLine_58 ⟨Nat.zero_le _, Nat.zero_le _⟩ (fun _ H9 locs _ hP1 hk1 hS9 => ?_)
      obtain ⟨hP, hD⟩ := rw_join (w := (chW q k B R (dts (dtc B R ln 8 64) (d5f B R ln sx 8)) pt rd wt)) (w' := (chW q k B R (ss_so 128 (dts (dtc B R ln 8 64) (d5f B R ln sx 8))) pt rd wt)) (wr := (scH q k ((ln + 1) % 32) (dPF B R ln (dln (fun x => dob R (dtl B R x ln)) ln 64 px)) cvA coA)) hP hD [2, 3, 4] [0, 1] rfl rfl (by decide) (by decide) (by decide) hk1 hFc hP1 rfl
      have hS := hS9
      clear hS9 hP1 hk1 hFc hPc hDc
      generalize H9 = H at hP hS ⊢
      have hP : va_P D vwCl (scW q k ((ln + 1) % 32) (dPF B R ln (dln (fun x => dob R (dtl B R x ln)) ln 64 px)) cvA coA B R (ss_so 128 (dts (dtc B R ln 8 64) (d5f B R ln sx 8))) pt rd wt) H := hP
      have hD : va_D A (scW q k ((ln + 1) % 32) (dPF B R ln (dln (fun x => dob R (dtl B R x ln)) ln 64 px)) cvA coA B R (ss_so 128 (dts (dtc B R ln 8 64) (d5f B R ln sx 8))) pt rd wt) := hD
      refine lv_iload_n hx hb d_SC_drawNextLine_61 rfl (lv_at hl 0 rfl) ?_
      exact rw_reti hx hb hr hlocks d_SC_drawNextLine_62 hS (cvA, coA) (rfl) (by rw [if_pos (by omega), ← dPF_px]; exact hP)
  · have c2 := (n_eq0 (by omega)).mp c2
    exfalso; omega
