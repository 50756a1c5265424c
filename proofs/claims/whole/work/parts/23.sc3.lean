set_option maxHeartbeats 4000000 in
set_option maxRecDepth 100000 in
theorem c_SC_drawSpriteRow (l : Launch) (D : va_G) (k : Nat → ClassId) (q : Nat → Nat) (ln : Nat) (px : Nat → Nat) (cv : Nat) (co : Nat) (B : Nat → Nat) (R : Nat → Nat) (sx : Nat) (pt : Nat) (rd : Nat) (wt : Int32) (hB : ∀ j, B j < 256) (hR : ∀ j, R j < 256) (hln : ln < 32) (px0 : Nat → Nat) (sx0 : Nat) (hs0 : sx0 < 256) (z : Nat) (hz : z < 8) (hd : don B R ln z = true) (hdr : ddr B R ln z = true) (hI : dIv (fun x => dht B R ln x z) (fun x => dcl B R ln x z) ln px0 sx0 cv co sx px) : rw_v l y_SC_drawSpriteRow b_SC_drawSpriteRow 11 none { frames := 3, cells := 0, slots := 0, locals := 65 } D (kT k) (scW q k ln px cv co B R sx pt rd wt) [.ref (q 5), .int (nI ln), .int (nI (32 * (R 5 % 16) + 4 * z)), .int (nI (drw B R ln z))] (fun (u : Nat × Nat × Nat × (Nat → Nat)) => dIv (fun x => dht B R ln x (z + 1)) (fun x => dcl B R ln x (z + 1)) ln px0 sx0 u.1 u.2.1 u.2.2.1 u.2.2.2) (fun (u : Nat × Nat × Nat × (Nat → Nat)) => scW q k ln u.2.2.2 u.1 u.2.1 B R u.2.2.1 pt rd wt) := by
  refine rw_headv (by decide) (Nat.le_of_ble_eq_true rfl) ?_
  intro p e s m below meth c ls A hx hb hr hlocks hml hown hts hK hA hP hD hS hl
  have hown : s.vm.findClass "SlotScreen$Screen" = some m.cls := hown
  have hl : lv_has ls 11 [(0, .ref (q 5)), (1, .int (nI ln)), (2, .int (nI (32 * (R 5 % 16) + 4 * z))), (3, .int (nI (drw B R ln z)))] := hl
  have z1 := dsz_le R
  have z2 := dtm_le R
  have z3 := (drw_lt hd).2
  have z4 := dsd_or R
  refine lv_aload_n hx hb d_SC_drawSpriteRow_0 rfl (lv_at hl 0 rfl) ?_
  refine va_get (D := D) (ci := 3) (v := .ref (q 7)) (C := R_SC) (T := T_SC) (N := 5) hx hb hts in_SC hown hK hP 0 rfl rfl 0 (by decide) (hts _ w_77) (fun _ h9 => h9) rfl d_SC_drawSpriteRow_1 ?_
  refine lv_iload_n hx hb d_SC_drawSpriteRow_4 rfl (lv_at hl 2 rfl) ?_
  refine lv_iconst (v := nI 3) hx hb d_SC_drawSpriteRow_5 (by decide +kernel) ?_
  refine lv_iadd hx hb d_SC_drawSpriteRow_6 ?_
  refine ss_rt (y := nI (32 * (R 5 % 16) + 4 * z + 3)) (nI_add _ _) ?_
  have g1 := hB (32 * (R 5 % 16) + 4 * z + 3)
  refine kr_iV (As := [.int (nI (32 * (R 5 % 16) + 4 * z + 3))]) (rest := []) ⟨hx, hb, hml, hown, hts⟩ (c_CH_byteAt l D k q B R sx pt rd wt (32 * (R 5 % 16) + 4 * z + 3) (by omega)) (cwV 1 hts (gV w_194 w_195 w_196 w_3 w_197) rfl rfl rfl (by decide +kernel) ⟨Nat.le_of_ble_eq_true rfl, Nat.le_of_ble_eq_true rfl⟩) hK (hP.sub (ws' := (chW q k B R sx pt rd wt)) [2, 3, 4] rfl) (va_recv hK hP (ci := 2) (q0 := 2) rfl rfl) rfl hl.1 rfl (Nat.le_of_ble_eq_true rfl) d_SC_drawSpriteRow_7 ⟨Nat.zero_le _, Nat.zero_le _⟩ ?_
  refine ss_rt (y := nI (dsp B R z 3)) (rfl) ?_
  have g2 : dsp B R z 3 < 256 := hB _
  refine lv_istore (lv' := [(4, .int (nI (dsp B R z 3))), (0, .ref (q 5)), (1, .int (nI ln)), (2, .int (nI (32 * (R 5 % 16) + 4 * z))), (3, .int (nI (drw B R ln z)))]) hx hb d_SC_drawSpriteRow_10 hl (by decide) rfl (fun ls hl => ?_)
  refine lv_aload_n hx hb d_SC_drawSpriteRow_12 rfl (lv_at hl 1 rfl) ?_
  refine va_get (D := D) (ci := 3) (v := .ref (q 7)) (C := R_SC) (T := T_SC) (N := 5) hx hb hts in_SC hown hK hP 0 rfl rfl 0 (by decide) (hts _ w_77) (fun _ h9 => h9) rfl d_SC_drawSpriteRow_13 ?_
  refine lv_iload_n hx hb d_SC_drawSpriteRow_16 rfl (lv_at hl 3 rfl) ?_
  refine lv_iconst (v := nI 1) hx hb d_SC_drawSpriteRow_17 (by decide +kernel) ?_
  refine lv_iadd hx hb d_SC_drawSpriteRow_18 ?_
  refine ss_rt (y := nI (32 * (R 5 % 16) + 4 * z + 1)) (nI_add _ _) ?_
  have g3 := hB (32 * (R 5 % 16) + 4 * z + 1)
  refine kr_iV (As := [.int (nI (32 * (R 5 % 16) + 4 * z + 1))]) (rest := []) ⟨hx, hb, hml, hown, hts⟩ (c_CH_byteAt l D k q B R sx pt rd wt (32 * (R 5 % 16) + 4 * z + 1) (by omega)) (cwV 1 hts (gV w_194 w_195 w_196 w_3 w_197) rfl rfl rfl (by decide +kernel) ⟨Nat.le_of_ble_eq_true rfl, Nat.le_of_ble_eq_true rfl⟩) hK (hP.sub (ws' := (chW q k B R sx pt rd wt)) [2, 3, 4] rfl) (va_recv hK hP (ci := 2) (q0 := 2) rfl rfl) rfl hl.1 rfl (Nat.le_of_ble_eq_true rfl) d_SC_drawSpriteRow_19 ⟨Nat.zero_le _, Nat.zero_le _⟩ ?_
  refine ss_rt (y := nI (dsp B R z 1)) (rfl) ?_
  have g4 : dsp B R z 1 < 256 := hB _
  refine lv_iload hx hb d_SC_drawSpriteRow_22 (lv_at hl 0 rfl) ?_
  refine lv_sipush (v := nI 128) hx hb d_SC_drawSpriteRow_24 (by decide +kernel) ?_
  refine lv_icmp_lt (tgt := 35) hx hb d_SC_drawSpriteRow_27 (by decide) (fun c5 => ?_) (fun c5 => ?_)
  · have c5 := (nI_ltI (by omega) (by omega)).mp c5
    have hof : dof B R z = 0 := by unfold dof; rw [if_neg (by omega)]
    refine lv_iconst (v := nI 0) hx hb d_SC_drawSpriteRow_35 (by decide +kernel) ?_
    refine lv_isub hx hb d_SC_drawSpriteRow_36 ?_
    refine ss_rt (y := nI (dsp B R z 1)) (pk_sub (by omega)) ?_
    refine lv_istore (lv' := [(5, .int (nI (dsp B R z 1))), (4, .int (nI (dsp B R z 3))), (0, .ref (q 5)), (1, .int (nI ln)), (2, .int (nI (32 * (R 5 % 16) + 4 * z))), (3, .int (nI (drw B R ln z)))]) hx hb d_SC_drawSpriteRow_37 hl (by decide) rfl (fun ls hl => ?_)
    refine lv_aload_n hx hb d_SC_drawSpriteRow_39 rfl (lv_at hl 2 rfl) ?_
    refine lv_aload_n hx hb d_SC_drawSpriteRow_40 rfl (lv_at hl 2 rfl) ?_
    refine va_get (D := D) (ci := 3) (v := .ref (q 7)) (C := R_SC) (T := T_SC) (N := 5) hx hb hts in_SC hown hK hP 0 rfl rfl 0 (by decide) (hts _ w_77) (fun _ h9 => h9) rfl d_SC_drawSpriteRow_41 ?_
    refine lv_iload_n hx hb d_SC_drawSpriteRow_44 rfl (lv_at hl 4 rfl) ?_
    refine lv_iconst (v := nI 2) hx hb d_SC_drawSpriteRow_45 (by decide +kernel) ?_
    refine lv_iadd hx hb d_SC_drawSpriteRow_46 ?_
    refine ss_rt (y := nI (32 * (R 5 % 16) + 4 * z + 2)) (nI_add _ _) ?_
    have g6 := hB (32 * (R 5 % 16) + 4 * z + 2)
    refine kr_iV (As := [.int (nI (32 * (R 5 % 16) + 4 * z + 2))]) (rest := [.ref (q 5)]) ⟨hx, hb, hml, hown, hts⟩ (c_CH_byteAt l D k q B R sx pt rd wt (32 * (R 5 % 16) + 4 * z + 2) (by omega)) (cwV 1 hts (gV w_194 w_195 w_196 w_3 w_197) rfl rfl rfl (by decide +kernel) ⟨Nat.le_of_ble_eq_true rfl, Nat.le_of_ble_eq_true rfl⟩) hK (hP.sub (ws' := (chW q k B R sx pt rd wt)) [2, 3, 4] rfl) (va_recv hK hP (ci := 2) (q0 := 2) rfl rfl) rfl hl.1 rfl (Nat.le_of_ble_eq_true rfl) d_SC_drawSpriteRow_47 ⟨Nat.zero_le _, Nat.zero_le _⟩ ?_
    refine ss_rt (y := nI (dsp B R z 2)) (rfl) ?_
    have g7 : dsp B R z 2 < 256 := hB _
    refine lv_bipush (v := nI 16) hx hb d_SC_drawSpriteRow_50 (by decide +kernel) ?_
    refine lv_irem hx hb d_SC_drawSpriteRow_52 (by first | decide +kernel | exact nI_ne0 (by omega) (by omega)) ?_
    refine ss_rt (y := nI ((dsp B R z 2) % 16)) (pk_rem (by omega) (by omega) (by omega)) ?_
    refine lv_iload_n hx hb d_SC_drawSpriteRow_53 rfl (lv_at hl 5 rfl) ?_
    have g8 := dsb_lt (R := R) hB ln z
    refine kr_iV (As := [.int (nI ((dsp B R z 2) % 16)), .int (nI (drw B R ln z))]) (rest := []) ⟨hx, hb, hml, hown, hts⟩ (c_SC_spriteBits l D k q ln px cv co B R sx pt rd wt hB hR z (by omega) (by assumption)) (cwV 2 hts (gV w_229 w_231 w_p10 w_4 w_232) rfl rfl rfl (by decide +kernel) ⟨Nat.le_of_ble_eq_true rfl, Nat.le_of_ble_eq_true rfl⟩) hK hP (va_recv hK hP (ci := 3) (q0 := 0) rfl rfl) rfl hl.1 rfl (Nat.le_of_ble_eq_true rfl) d_SC_drawSpriteRow_54 ⟨Nat.zero_le _, Nat.zero_le _⟩ ?_
    refine lv_istore (lv' := [(6, .int (nI (dsb B R ln z))), (5, .int (nI (dsp B R z 1))), (4, .int (nI (dsp B R z 3))), (0, .ref (q 5)), (1, .int (nI ln)), (2, .int (nI (32 * (R 5 % 16) + 4 * z))), (3, .int (nI (drw B R ln z)))]) hx hb d_SC_drawSpriteRow_57 hl (by decide) rfl (fun ls hl => ?_)
    refine lv_aload_n hx hb d_SC_drawSpriteRow_59 rfl (lv_at hl 3 rfl) ?_
    refine kr_iV (As := []) (rest := []) ⟨hx, hb, hml, hown, hts⟩ (c_SC_spriteSide l D k q ln px cv co B R sx pt rd wt hB hR) (cwV 0 hts (gV w_210 w_212 w_p7 w_4 w_213) rfl rfl rfl (by decide +kernel) ⟨Nat.le_of_ble_eq_true rfl, Nat.le_of_ble_eq_true rfl⟩) hK hP (va_recv hK hP (ci := 3) (q0 := 0) rfl rfl) rfl hl.1 rfl (Nat.le_of_ble_eq_true rfl) d_SC_drawSpriteRow_60 ⟨Nat.zero_le _, Nat.zero_le _⟩ ?_
    refine lv_istore (lv' := [(7, .int (nI (dsd R))), (6, .int (nI (dsb B R ln z))), (5, .int (nI (dsp B R z 1))), (4, .int (nI (dsp B R z 3))), (0, .ref (q 5)), (1, .int (nI ln)), (2, .int (nI (32 * (R 5 % 16) + 4 * z))), (3, .int (nI (drw B R ln z)))]) hx hb d_SC_drawSpriteRow_63 hl (by decide) rfl (fun ls hl => ?_)
    refine lv_aload_n hx hb d_SC_drawSpriteRow_65 rfl (lv_at hl 4 rfl) ?_
    refine kr_iV (As := []) (rest := []) ⟨hx, hb, hml, hown, hts⟩ (c_SC_spriteZoom l D k q ln px cv co B R sx pt rd wt hB hR) (cwV 0 hts (gV w_214 w_216 w_p8 w_4 w_217) rfl rfl rfl (by decide +kernel) ⟨Nat.le_of_ble_eq_true rfl, Nat.le_of_ble_eq_true rfl⟩) hK hP (va_recv hK hP (ci := 3) (q0 := 0) rfl rfl) rfl hl.1 rfl (Nat.le_of_ble_eq_true rfl) d_SC_drawSpriteRow_66 ⟨Nat.zero_le _, Nat.zero_le _⟩ ?_
    refine lv_istore (lv' := [(8, .int (nI (dtm R))), (7, .int (nI (dsd R))), (6, .int (nI (dsb B R ln z))), (5, .int (nI (dsp B R z 1))), (4, .int (nI (dsp B R z 3))), (0, .ref (q 5)), (1, .int (nI ln)), (2, .int (nI (32 * (R 5 % 16) + 4 * z))), (3, .int (nI (drw B R ln z)))]) hx hb d_SC_drawSpriteRow_69 hl (by decide) rfl (fun ls hl => ?_)
    refine lv_iconst (v := nI 0) hx hb d_SC_drawSpriteRow_71 (by decide +kernel) ?_
    refine lv_istore (lv' := [(9, .int (nI 0)), (8, .int (nI (dtm R))), (7, .int (nI (dsd R))), (6, .int (nI (dsb B R ln z))), (5, .int (nI (dsp B R z 1))), (4, .int (nI (dsp B R z 3))), (0, .ref (q 5)), (1, .int (nI ln)), (2, .int (nI (32 * (R 5 % 16) + 4 * z))), (3, .int (nI (drw B R ln z)))]) hx hb d_SC_drawSpriteRow_72 hl (by decide) rfl (fun ls hl => ?_)
    have loop : ∀ (j9 c1 : Nat), c1 + j9 = dsz R → ∀ (cv9 : Nat), ∀ (co9 : Nat), ∀ (sx9 : Nat), ∀ (px9 : Nat → Nat), (hI : dIv (dhc B R ln z c1) (dkc B R ln z c1) ln px0 sx0 cv9 co9 sx9 px9) → ∀ (H : Heap) (locs : List Loc), va_P D vwCl (scW q k ln px9 cv9 co9 B R sx9 pt rd wt) H → va_D A (scW q k ln px9 cv9 co9 B R sx9 pt rd wt) → va_S A s.heap H locs → ∀ (ls : Array Slot), lv_has ls 11 [(9, .int (nI c1)), (8, .int (nI (dtm R))), (7, .int (nI (dsd R))), (6, .int (nI (dsb B R ln z))), (5, .int (nI (dsp B R z 1))), (4, .int (nI (dsp B R z 3))), (0, .ref (q 5)), (1, .int (nI ln)), (2, .int (nI (32 * (R 5 % 16) + 4 * z))), (3, .int (nI (drw B R ln z)))] → W p l e (headSpec (wsG y_SC_drawSpriteRow b_SC_drawSpriteRow 11 none) { frames := 3, cells := 0, slots := 0, locals := 65 }).room s m ([.ref (q 5), .int (nI ln), .int (nI (32 * (R 5 % 16) + 4 * z)), .int (nI (drw B R ln z))] : List Value).toArray below meth c H locs 0 0 (MQ below (rw_Qv D (fun (u : Nat × Nat × Nat × (Nat → Nat)) => dIv (fun x => dht B R ln x (z + 1)) (fun x => dcl B R ln x (z + 1)) ln px0 sx0 u.1 u.2.1 u.2.2.1 u.2.2.2) (fun (u : Nat × Nat × Nat × (Nat → Nat)) => scW q k ln u.2.2.2 u.1 u.2.1 B R u.2.2.1 pt rd wt) A) ([.ref (q 5), .int (nI ln), .int (nI (32 * (R 5 % 16) + 4 * z)), .int (nI (drw B R ln z))] : List Value).toArray s 0 0 A) (F0 m 74 ls []) := by
      intro j9
      induction j9 with
      | zero =>
        intro c1 h9 cv9 co9 sx9 px9 hI H locs hP hD hS ls hl
        refine lv_iload hx hb d_SC_drawSpriteRow_74 (lv_at hl 0 rfl) ?_
        refine lv_iload hx hb d_SC_drawSpriteRow_76 (lv_at hl 2 rfl) ?_
        refine lv_iload hx hb d_SC_drawSpriteRow_78 (lv_at hl 1 rfl) ?_
        refine lv_imul hx hb d_SC_drawSpriteRow_80 ?_
        refine ss_rt (y := nI ((dsd R) * (dtm R))) (pk_mul _ _) ?_
        refine ss_rt (y := nI (dsz R)) (rfl) ?_
        refine lv_icmp_ge (tgt := 140) hx hb d_SC_drawSpriteRow_81 (by decide) (fun c9 => ?_) (fun c9 => ?_)
        · have c9 := (nI_leI (by omega) (by omega)).mp c9
          exact rw_retv hx hb hr hlocks d_SC_drawSpriteRow_140 hS (cv9, co9, sx9, px9) (dIv_e ((show c1 = dsz R by omega) ▸ hI) hdr) hP
        · have c9 := mt (nI_leI (by omega) (by omega)).mpr c9
          exfalso; omega
      | succ j9 ih =>
        intro c1 h9 cv9 co9 sx9 px9 hI H locs hP hD hS ls hl
        have z7 := dcd (R := R) (c := c1) (by omega)
        refine lv_iload hx hb d_SC_drawSpriteRow_74 (lv_at hl 0 rfl) ?_
        refine lv_iload hx hb d_SC_drawSpriteRow_76 (lv_at hl 2 rfl) ?_
        refine lv_iload hx hb d_SC_drawSpriteRow_78 (lv_at hl 1 rfl) ?_
        refine lv_imul hx hb d_SC_drawSpriteRow_80 ?_
        refine ss_rt (y := nI ((dsd R) * (dtm R))) (pk_mul _ _) ?_
        refine ss_rt (y := nI (dsz R)) (rfl) ?_
        refine lv_icmp_ge (tgt := 140) hx hb d_SC_drawSpriteRow_81 (by decide) (fun c10 => ?_) (fun c10 => ?_)
        · have c10 := (nI_leI (by omega) (by omega)).mp c10
          exfalso; omega
        · have c10 := mt (nI_leI (by omega) (by omega)).mpr c10
          refine lv_iload hx hb d_SC_drawSpriteRow_84 (lv_at hl 4 rfl) ?_
          refine lv_iload hx hb d_SC_drawSpriteRow_86 (lv_at hl 0 rfl) ?_
          refine lv_iadd hx hb d_SC_drawSpriteRow_88 ?_
          refine ss_rt (y := nI (dsp B R z 1 + c1)) (nI_add _ _) ?_
          refine lv_istore (lv' := [(10, .int (nI (dsp B R z 1 + c1))), (9, .int (nI c1)), (8, .int (nI (dtm R))), (7, .int (nI (dsd R))), (6, .int (nI (dsb B R ln z))), (5, .int (nI (dsp B R z 1))), (4, .int (nI (dsp B R z 3))), (0, .ref (q 5)), (1, .int (nI ln)), (2, .int (nI (32 * (R 5 % 16) + 4 * z))), (3, .int (nI (drw B R ln z)))]) hx hb d_SC_drawSpriteRow_89 hl (by decide) rfl (fun ls hl => ?_)
          refine lv_iload hx hb d_SC_drawSpriteRow_91 (lv_at hl 0 rfl) ?_
          refine lv_if_lt (tgt := 134) hx hb d_SC_drawSpriteRow_93 (by decide) (fun c11 => ?_) (fun c11 => ?_)
          · have c11 := (n_lt0 (by omega)).mp c11
            refine lv_iinc (v := nI (c1 + 1)) (lv' := [(9, .int (nI (c1 + 1))), (10, .int (nI (dsp B R z 1 + c1))), (8, .int (nI (dtm R))), (7, .int (nI (dsd R))), (6, .int (nI (dsb B R ln z))), (5, .int (nI (dsp B R z 1))), (4, .int (nI (dsp B R z 3))), (0, .ref (q 5)), (1, .int (nI ln)), (2, .int (nI (32 * (R 5 % 16) + 4 * z))), (3, .int (nI (drw B R ln z)))]) hx hb d_SC_drawSpriteRow_134 hl (k := 1) rfl (nI_1 _) (by decide) rfl (fun ls hl => ?_)
            refine lv_goto (tgt := 74) hx hb d_SC_drawSpriteRow_137 (by decide) ?_
            exact ih (c1 + 1) (by omega) cv9 co9 sx9 px9 (by first | exact dIv_ou hI (fun x9 h8 => by omega) | exact dIv_nb hI hB (by omega) (by assumption)) _ _ hP hD hS ls (lv_sub hl [0, 2, 3, 4, 5, 6, 7, 8, 9, 10] rfl)
          · have c11 := mt (n_lt0 (by omega)).mpr c11
            refine lv_iload hx hb d_SC_drawSpriteRow_96 (lv_at hl 0 rfl) ?_
            refine lv_bipush (v := nI 64) hx hb d_SC_drawSpriteRow_98 (by decide +kernel) ?_
            refine lv_icmp_ge (tgt := 134) hx hb d_SC_drawSpriteRow_100 (by decide) (fun c12 => ?_) (fun c12 => ?_)
            · have c12 := (nI_leI (by omega) (by omega)).mp c12
              refine lv_iinc (v := nI (c1 + 1)) (lv' := [(9, .int (nI (c1 + 1))), (10, .int (nI (dsp B R z 1 + c1))), (8, .int (nI (dtm R))), (7, .int (nI (dsd R))), (6, .int (nI (dsb B R ln z))), (5, .int (nI (dsp B R z 1))), (4, .int (nI (dsp B R z 3))), (0, .ref (q 5)), (1, .int (nI ln)), (2, .int (nI (32 * (R 5 % 16) + 4 * z))), (3, .int (nI (drw B R ln z)))]) hx hb d_SC_drawSpriteRow_134 hl (k := 1) rfl (nI_1 _) (by decide) rfl (fun ls hl => ?_)
              refine lv_goto (tgt := 74) hx hb d_SC_drawSpriteRow_137 (by decide) ?_
              exact ih (c1 + 1) (by omega) cv9 co9 sx9 px9 (by first | exact dIv_ou hI (fun x9 h8 => by omega) | exact dIv_nb hI hB (by omega) (by assumption)) _ _ hP hD hS ls (lv_sub hl [0, 2, 3, 4, 5, 6, 7, 8, 9, 10] rfl)
            · have c12 := mt (nI_leI (by omega) (by omega)).mpr c12
              refine lv_iload hx hb d_SC_drawSpriteRow_103 (lv_at hl 4 rfl) ?_
              refine lv_iload hx hb d_SC_drawSpriteRow_105 (lv_at hl 3 rfl) ?_
              refine lv_iconst (v := nI 1) hx hb d_SC_drawSpriteRow_107 (by decide +kernel) ?_
              refine lv_isub hx hb d_SC_drawSpriteRow_108 ?_
              refine ss_rt (y := nI (dsd R - 1)) (pk_sub (by omega)) ?_
              refine lv_iload hx hb d_SC_drawSpriteRow_109 (lv_at hl 1 rfl) ?_
              refine lv_iload hx hb d_SC_drawSpriteRow_111 (lv_at hl 2 rfl) ?_
              refine lv_idiv hx hb d_SC_drawSpriteRow_113 (by first | decide +kernel | exact nI_ne0 (by omega) (by omega)) ?_
              refine ss_rt (y := nI (c1 / (dtm R))) (pk_div (by omega) (by omega) (by omega)) ?_
              have g13 := Nat.div_le_self c1 (dtm R)
              refine lv_isub hx hb d_SC_drawSpriteRow_114 ?_
              refine ss_rt (y := nI (dsd R - 1 - (c1 / (dtm R)))) (pk_sub (by omega)) ?_
              refine lv_ishr hx hb d_SC_drawSpriteRow_115 ?_
              refine ss_rt (y := nI (dsb B R ln z / 2 ^ (dsd R - 1 - c1 / dtm R))) (ss_shr (by omega) (Nat.lt_of_le_of_lt (Nat.le_trans (Nat.sub_le _ _) (Nat.sub_le _ _)) (by omega))) ?_
              refine lv_iconst (v := nI 1) hx hb d_SC_drawSpriteRow_116 (by decide +kernel) ?_
              refine lv_iand hx hb d_SC_drawSpriteRow_117 ?_
              refine ss_rt (y := nI (dsb B R ln z / 2 ^ (dsd R - 1 - c1 / dtm R) % 2)) (pk_andN (Nat.lt_of_le_of_lt (Nat.div_le_self _ _) (by omega)) 1 (by decide +kernel)) ?_
              refine lv_iconst (v := nI 1) hx hb d_SC_drawSpriteRow_118 (by decide +kernel) ?_
              refine lv_icmp_ne (tgt := 134) hx hb d_SC_drawSpriteRow_119 (by decide) (fun c14 => ?_) (fun c14 => ?_)
              · have c14 := mt (nI_eq (by omega) (by omega)).mpr c14
                refine lv_iinc (v := nI (c1 + 1)) (lv' := [(9, .int (nI (c1 + 1))), (10, .int (nI (dsp B R z 1 + c1))), (8, .int (nI (dtm R))), (7, .int (nI (dsd R))), (6, .int (nI (dsb B R ln z))), (5, .int (nI (dsp B R z 1))), (4, .int (nI (dsp B R z 3))), (0, .ref (q 5)), (1, .int (nI ln)), (2, .int (nI (32 * (R 5 % 16) + 4 * z))), (3, .int (nI (drw B R ln z)))]) hx hb d_SC_drawSpriteRow_134 hl (k := 1) rfl (nI_1 _) (by decide) rfl (fun ls hl => ?_)
                refine lv_goto (tgt := 74) hx hb d_SC_drawSpriteRow_137 (by decide) ?_
                exact ih (c1 + 1) (by omega) cv9 co9 sx9 px9 (by first | exact dIv_ou hI (fun x9 h8 => by omega) | exact dIv_nb hI hB (by omega) (by assumption)) _ _ hP hD hS ls (lv_sub hl [0, 2, 3, 4, 5, 6, 7, 8, 9, 10] rfl)
              · have c14 := (nI_eq (by omega) (by omega)).mp c14
                refine lv_aload_n hx hb d_SC_drawSpriteRow_122 rfl (lv_at hl 7 rfl) ?_
                refine lv_iload_n hx hb d_SC_drawSpriteRow_123 rfl (lv_at hl 8 rfl) ?_
                refine lv_iload hx hb d_SC_drawSpriteRow_124 (lv_at hl 0 rfl) ?_
                refine lv_iload hx hb d_SC_drawSpriteRow_126 (lv_at hl 6 rfl) ?_
                refine lv_bipush (v := nI 16) hx hb d_SC_drawSpriteRow_128 (by decide +kernel) ?_
                refine lv_irem hx hb d_SC_drawSpriteRow_130 (by first | decide +kernel | exact nI_ne0 (by omega) (by omega)) ?_
                refine ss_rt (y := nI ((dsp B R z 3) % 16)) (pk_rem (by omega) (by omega) (by omega)) ?_
                refine kw_vV (As := [.int (nI ln), .int (nI (dsp B R z 1 + c1)), .int (nI ((dsp B R z 3) % 16))]) (rest := []) ⟨hx, hb, hml, hown, hts⟩ (c_SC_coverPixel l D k q ln px9 cv9 co9 B R sx9 pt rd wt (by omega) (dIv_sx hI hs0) hI.1 hI.2.1 (dsp B R z 1 + c1) ((dsp B R z 3) % 16) (by omega) (by omega)) (cwV 3 hts (gV w_233 w_235 w_p11 w_4 w_236) rfl rfl rfl (by decide +kernel) ⟨Nat.le_of_ble_eq_true rfl, Nat.le_of_ble_eq_true rfl⟩) hK hP hD hS hA (va_recv hK hP (ci := 3) (q0 := 0) rfl rfl) rfl hl.1 rfl (Nat.le_of_ble_eq_true rfl) d_SC_drawSpriteRow_131 ⟨Nat.zero_le _, Nat.zero_le _⟩ (fun _ H locs _ hP _ hS => ?_)
                have hD : va_D A (scW q k ln (if (dsp B R z 3) % 16 ≠ 0 ∧ co9.testBit (dsp B R z 1 + c1) = false then ss_up px9 (64 * ln + (dsp B R z 1 + c1)) ((dsp B R z 3) % 16) else px9) (cv9 ||| 2 ^ (dsp B R z 1 + c1)) (if (dsp B R z 3) % 16 ≠ 0 ∧ co9.testBit (dsp B R z 1 + c1) = false then co9 ||| 2 ^ (dsp B R z 1 + c1) else co9) B R (if cv9.testBit (dsp B R z 1 + c1) = true then ss_so 32 sx9 else sx9) pt rd wt) := rw_same hD rfl
                have hP : va_P D vwCl (scW q k ln (if (dsp B R z 3) % 16 ≠ 0 ∧ co9.testBit (dsp B R z 1 + c1) = false then ss_up px9 (64 * ln + (dsp B R z 1 + c1)) ((dsp B R z 3) % 16) else px9) (cv9 ||| 2 ^ (dsp B R z 1 + c1)) (if (dsp B R z 3) % 16 ≠ 0 ∧ co9.testBit (dsp B R z 1 + c1) = false then co9 ||| 2 ^ (dsp B R z 1 + c1) else co9) B R (if cv9.testBit (dsp B R z 1 + c1) = true then ss_so 32 sx9 else sx9) pt rd wt) H := hP
                refine lv_iinc (v := nI (c1 + 1)) (lv' := [(9, .int (nI (c1 + 1))), (10, .int (nI (dsp B R z 1 + c1))), (8, .int (nI (dtm R))), (7, .int (nI (dsd R))), (6, .int (nI (dsb B R ln z))), (5, .int (nI (dsp B R z 1))), (4, .int (nI (dsp B R z 3))), (0, .ref (q 5)), (1, .int (nI ln)), (2, .int (nI (32 * (R 5 % 16) + 4 * z))), (3, .int (nI (drw B R ln z)))]) hx hb d_SC_drawSpriteRow_134 hl (k := 1) rfl (nI_1 _) (by decide) rfl (fun ls hl => ?_)
                refine lv_goto (tgt := 74) hx hb d_SC_drawSpriteRow_137 (by decide) ?_
                exact ih (c1 + 1) (by omega) (cv9 ||| 2 ^ (dsp B R z 1 + c1)) (if (dsp B R z 3) % 16 ≠ 0 ∧ co9.testBit (dsp B R z 1 + c1) = false then co9 ||| 2 ^ (dsp B R z 1 + c1) else co9) (if cv9.testBit (dsp B R z 1 + c1) = true then ss_so 32 sx9 else sx9) (if (dsp B R z 3) % 16 ≠ 0 ∧ co9.testBit (dsp B R z 1 + c1) = false then ss_up px9 (64 * ln + (dsp B R z 1 + c1)) ((dsp B R z 3) % 16) else px9) (dIv_hit hI hs0 (x := (dsp B R z 1 + c1)) (by omega) (by omega) ((dhs_bit (c := c1) hB (by omega) (by omega)).mpr (by assumption))) _ _ hP hD hS ls (lv_sub hl [0, 2, 3, 4, 5, 6, 7, 8, 9, 10] rfl)
    exact loop (dsz R - 0) 0 (by omega) cv co sx px (dIv_b hI) _ _ hP hD hS ls (lv_sub hl [0, 1, 2, 3, 4, 5, 6, 7, 8, 9] rfl)
  · have c5 := mt (nI_ltI (by omega) (by omega)).mpr c5
    have hof : dof B R z = 32 := by unfold dof; rw [if_pos (by omega)]
    refine lv_bipush (v := nI 32) hx hb d_SC_drawSpriteRow_30 (by decide +kernel) ?_
    refine lv_goto (tgt := 36) hx hb d_SC_drawSpriteRow_32 (by decide) ?_
    refine lv_isub hx hb d_SC_drawSpriteRow_36 ?_
    refine ss_rt (y := iI ((dsp B R z 1 : Nat) - (32 : Nat) : Int)) (iI_nn _ _) ?_
    refine lv_istore (lv' := [(5, .int (iI ((dsp B R z 1 : Nat) - (32 : Nat) : Int))), (4, .int (nI (dsp B R z 3))), (0, .ref (q 5)), (1, .int (nI ln)), (2, .int (nI (32 * (R 5 % 16) + 4 * z))), (3, .int (nI (drw B R ln z)))]) hx hb d_SC_drawSpriteRow_37 hl (by decide) rfl (fun ls hl => ?_)
    refine lv_aload_n hx hb d_SC_drawSpriteRow_39 rfl (lv_at hl 2 rfl) ?_
    refine lv_aload_n hx hb d_SC_drawSpriteRow_40 rfl (lv_at hl 2 rfl) ?_
    refine va_get (D := D) (ci := 3) (v := .ref (q 7)) (C := R_SC) (T := T_SC) (N := 5) hx hb hts in_SC hown hK hP 0 rfl rfl 0 (by decide) (hts _ w_77) (fun _ h9 => h9) rfl d_SC_drawSpriteRow_41 ?_
    refine lv_iload_n hx hb d_SC_drawSpriteRow_44 rfl (lv_at hl 4 rfl) ?_
    refine lv_iconst (v := nI 2) hx hb d_SC_drawSpriteRow_45 (by decide +kernel) ?_
    refine lv_iadd hx hb d_SC_drawSpriteRow_46 ?_
    refine ss_rt (y := nI (32 * (R 5 % 16) + 4 * z + 2)) (nI_add _ _) ?_
    have g15 := hB (32 * (R 5 % 16) + 4 * z + 2)
    refine kr_iV (As := [.int (nI (32 * (R 5 % 16) + 4 * z + 2))]) (rest := [.ref (q 5)]) ⟨hx, hb, hml, hown, hts⟩ (c_CH_byteAt l D k q B R sx pt rd wt (32 * (R 5 % 16) + 4 * z + 2) (by omega)) (cwV 1 hts (gV w_194 w_195 w_196 w_3 w_197) rfl rfl rfl (by decide +kernel) ⟨Nat.le_of_ble_eq_true rfl, Nat.le_of_ble_eq_true rfl⟩) hK (hP.sub (ws' := (chW q k B R sx pt rd wt)) [2, 3, 4] rfl) (va_recv hK hP (ci := 2) (q0 := 2) rfl rfl) rfl hl.1 rfl (Nat.le_of_ble_eq_true rfl) d_SC_drawSpriteRow_47 ⟨Nat.zero_le _, Nat.zero_le _⟩ ?_
    refine ss_rt (y := nI (dsp B R z 2)) (rfl) ?_
    have g16 : dsp B R z 2 < 256 := hB _
    refine lv_bipush (v := nI 16) hx hb d_SC_drawSpriteRow_50 (by decide +kernel) ?_
    refine lv_irem hx hb d_SC_drawSpriteRow_52 (by first | decide +kernel | exact nI_ne0 (by omega) (by omega)) ?_
    refine ss_rt (y := nI ((dsp B R z 2) % 16)) (pk_rem (by omega) (by omega) (by omega)) ?_
    refine lv_iload_n hx hb d_SC_drawSpriteRow_53 rfl (lv_at hl 5 rfl) ?_
    have g17 := dsb_lt (R := R) hB ln z
    refine kr_iV (As := [.int (nI ((dsp B R z 2) % 16)), .int (nI (drw B R ln z))]) (rest := []) ⟨hx, hb, hml, hown, hts⟩ (c_SC_spriteBits l D k q ln px cv co B R sx pt rd wt hB hR z (by omega) (by assumption)) (cwV 2 hts (gV w_229 w_231 w_p10 w_4 w_232) rfl rfl rfl (by decide +kernel) ⟨Nat.le_of_ble_eq_true rfl, Nat.le_of_ble_eq_true rfl⟩) hK hP (va_recv hK hP (ci := 3) (q0 := 0) rfl rfl) rfl hl.1 rfl (Nat.le_of_ble_eq_true rfl) d_SC_drawSpriteRow_54 ⟨Nat.zero_le _, Nat.zero_le _⟩ ?_
    refine lv_istore (lv' := [(6, .int (nI (dsb B R ln z))), (5, .int (iI ((dsp B R z 1 : Nat) - (32 : Nat) : Int))), (4, .int (nI (dsp B R z 3))), (0, .ref (q 5)), (1, .int (nI ln)), (2, .int (nI (32 * (R 5 % 16) + 4 * z))), (3, .int (nI (drw B R ln z)))]) hx hb d_SC_drawSpriteRow_57 hl (by decide) rfl (fun ls hl => ?_)
    refine lv_aload_n hx hb d_SC_drawSpriteRow_59 rfl (lv_at hl 3 rfl) ?_
    refine kr_iV (As := []) (rest := []) ⟨hx, hb, hml, hown, hts⟩ (c_SC_spriteSide l D k q ln px cv co B R sx pt rd wt hB hR) (cwV 0 hts (gV w_210 w_212 w_p7 w_4 w_213) rfl rfl rfl (by decide +kernel) ⟨Nat.le_of_ble_eq_true rfl, Nat.le_of_ble_eq_true rfl⟩) hK hP (va_recv hK hP (ci := 3) (q0 := 0) rfl rfl) rfl hl.1 rfl (Nat.le_of_ble_eq_true rfl) d_SC_drawSpriteRow_60 ⟨Nat.zero_le _, Nat.zero_le _⟩ ?_
    refine lv_istore (lv' := [(7, .int (nI (dsd R))), (6, .int (nI (dsb B R ln z))), (5, .int (iI ((dsp B R z 1 : Nat) - (32 : Nat) : Int))), (4, .int (nI (dsp B R z 3))), (0, .ref (q 5)), (1, .int (nI ln)), (2, .int (nI (32 * (R 5 % 16) + 4 * z))), (3, .int (nI (drw B R ln z)))]) hx hb d_SC_drawSpriteRow_63 hl (by decide) rfl (fun ls hl => ?_)
    refine lv_aload_n hx hb d_SC_drawSpriteRow_65 rfl (lv_at hl 4 rfl) ?_
    refine kr_iV (As := []) (rest := []) ⟨hx, hb, hml, hown, hts⟩ (c_SC_spriteZoom l D k q ln px cv co B R sx pt rd wt hB hR) (cwV 0 hts (gV w_214 w_216 w_p8 w_4 w_217) rfl rfl rfl (by decide +kernel) ⟨Nat.le_of_ble_eq_true rfl, Nat.le_of_ble_eq_true rfl⟩) hK hP (va_recv hK hP (ci := 3) (q0 := 0) rfl rfl) rfl hl.1 rfl (Nat.le_of_ble_eq_true rfl) d_SC_drawSpriteRow_66 ⟨Nat.zero_le _, Nat.zero_le _⟩ ?_
    refine lv_istore (lv' := [(8, .int (nI (dtm R))), (7, .int (nI (dsd R))), (6, .int (nI (dsb B R ln z))), (5, .int (iI ((dsp B R z 1 : Nat) - (32 : Nat) : Int))), (4, .int (nI (dsp B R z 3))), (0, .ref (q 5)), (1, .int (nI ln)), (2, .int (nI (32 * (R 5 % 16) + 4 * z))), (3, .int (nI (drw B R ln z)))]) hx hb d_SC_drawSpriteRow_69 hl (by decide) rfl (fun ls hl => ?_)
    refine lv_iconst (v := nI 0) hx hb d_SC_drawSpriteRow_71 (by decide +kernel) ?_
    refine lv_istore (lv' := [(9, .int (nI 0)), (8, .int (nI (dtm R))), (7, .int (nI (dsd R))), (6, .int (nI (dsb B R ln z))), (5, .int (iI ((dsp B R z 1 : Nat) - (32 : Nat) : Int))), (4, .int (nI (dsp B R z 3))), (0, .ref (q 5)), (1, .int (nI ln)), (2, .int (nI (32 * (R 5 % 16) + 4 * z))), (3, .int (nI (drw B R ln z)))]) hx hb d_SC_drawSpriteRow_72 hl (by decide) rfl (fun ls hl => ?_)
    have loop : ∀ (j9 c1 : Nat), c1 + j9 = dsz R → ∀ (cv9 : Nat), ∀ (co9 : Nat), ∀ (sx9 : Nat), ∀ (px9 : Nat → Nat), (hI : dIv (dhc B R ln z c1) (dkc B R ln z c1) ln px0 sx0 cv9 co9 sx9 px9) → ∀ (H : Heap) (locs : List Loc), va_P D vwCl (scW q k ln px9 cv9 co9 B R sx9 pt rd wt) H → va_D A (scW q k ln px9 cv9 co9 B R sx9 pt rd wt) → va_S A s.heap H locs → ∀ (ls : Array Slot), lv_has ls 11 [(9, .int (nI c1)), (8, .int (nI (dtm R))), (7, .int (nI (dsd R))), (6, .int (nI (dsb B R ln z))), (5, .int (iI ((dsp B R z 1 : Nat) - (32 : Nat) : Int))), (4, .int (nI (dsp B R z 3))), (0, .ref (q 5)), (1, .int (nI ln)), (2, .int (nI (32 * (R 5 % 16) + 4 * z))), (3, .int (nI (drw B R ln z)))] → W p l e (headSpec (wsG y_SC_drawSpriteRow b_SC_drawSpriteRow 11 none) { frames := 3, cells := 0, slots := 0, locals := 65 }).room s m ([.ref (q 5), .int (nI ln), .int (nI (32 * (R 5 % 16) + 4 * z)), .int (nI (drw B R ln z))] : List Value).toArray below meth c H locs 0 0 (MQ below (rw_Qv D (fun (u : Nat × Nat × Nat × (Nat → Nat)) => dIv (fun x => dht B R ln x (z + 1)) (fun x => dcl B R ln x (z + 1)) ln px0 sx0 u.1 u.2.1 u.2.2.1 u.2.2.2) (fun (u : Nat × Nat × Nat × (Nat → Nat)) => scW q k ln u.2.2.2 u.1 u.2.1 B R u.2.2.1 pt rd wt) A) ([.ref (q 5), .int (nI ln), .int (nI (32 * (R 5 % 16) + 4 * z)), .int (nI (drw B R ln z))] : List Value).toArray s 0 0 A) (F0 m 74 ls []) := by
      intro j9
      induction j9 with
      | zero =>
        intro c1 h9 cv9 co9 sx9 px9 hI H locs hP hD hS ls hl
        refine lv_iload hx hb d_SC_drawSpriteRow_74 (lv_at hl 0 rfl) ?_
        refine lv_iload hx hb d_SC_drawSpriteRow_76 (lv_at hl 2 rfl) ?_
        refine lv_iload hx hb d_SC_drawSpriteRow_78 (lv_at hl 1 rfl) ?_
        refine lv_imul hx hb d_SC_drawSpriteRow_80 ?_
        refine ss_rt (y := nI ((dsd R) * (dtm R))) (pk_mul _ _) ?_
        refine ss_rt (y := nI (dsz R)) (rfl) ?_
        refine lv_icmp_ge (tgt := 140) hx hb d_SC_drawSpriteRow_81 (by decide) (fun c18 => ?_) (fun c18 => ?_)
        · have c18 := (nI_leI (by omega) (by omega)).mp c18
          exact rw_retv hx hb hr hlocks d_SC_drawSpriteRow_140 hS (cv9, co9, sx9, px9) (dIv_e ((show c1 = dsz R by omega) ▸ hI) hdr) hP
        · have c18 := mt (nI_leI (by omega) (by omega)).mpr c18
          exfalso; omega
      | succ j9 ih =>
        intro c1 h9 cv9 co9 sx9 px9 hI H locs hP hD hS ls hl
        have z7 := dcd (R := R) (c := c1) (by omega)
        refine lv_iload hx hb d_SC_drawSpriteRow_74 (lv_at hl 0 rfl) ?_
        refine lv_iload hx hb d_SC_drawSpriteRow_76 (lv_at hl 2 rfl) ?_
        refine lv_iload hx hb d_SC_drawSpriteRow_78 (lv_at hl 1 rfl) ?_
        refine lv_imul hx hb d_SC_drawSpriteRow_80 ?_
        refine ss_rt (y := nI ((dsd R) * (dtm R))) (pk_mul _ _) ?_
        refine ss_rt (y := nI (dsz R)) (rfl) ?_
        refine lv_icmp_ge (tgt := 140) hx hb d_SC_drawSpriteRow_81 (by decide) (fun c19 => ?_) (fun c19 => ?_)
        · have c19 := (nI_leI (by omega) (by omega)).mp c19
          exfalso; omega
        · have c19 := mt (nI_leI (by omega) (by omega)).mpr c19
          refine lv_iload hx hb d_SC_drawSpriteRow_84 (lv_at hl 4 rfl) ?_
          refine lv_iload hx hb d_SC_drawSpriteRow_86 (lv_at hl 0 rfl) ?_
          refine lv_iadd hx hb d_SC_drawSpriteRow_88 ?_
          refine ss_rt (y := iI (((dsp B R z 1 : Nat) - (32 : Nat) : Int) + (c1 : Nat))) (iI_an _ _) ?_
          refine lv_istore (lv' := [(10, .int (iI (((dsp B R z 1 : Nat) - (32 : Nat) : Int) + (c1 : Nat)))), (9, .int (nI c1)), (8, .int (nI (dtm R))), (7, .int (nI (dsd R))), (6, .int (nI (dsb B R ln z))), (5, .int (iI ((dsp B R z 1 : Nat) - (32 : Nat) : Int))), (4, .int (nI (dsp B R z 3))), (0, .ref (q 5)), (1, .int (nI ln)), (2, .int (nI (32 * (R 5 % 16) + 4 * z))), (3, .int (nI (drw B R ln z)))]) hx hb d_SC_drawSpriteRow_89 hl (by decide) rfl (fun ls hl => ?_)
          refine lv_iload hx hb d_SC_drawSpriteRow_91 (lv_at hl 0 rfl) ?_
          refine lv_if_lt (tgt := 134) hx hb d_SC_drawSpriteRow_93 (by decide) (fun c20 => ?_) (fun c20 => ?_)
          · have c20 := (z_lt0).mp c20
            rw [iI_t (by omega) (by omega)] at c20
            refine lv_iinc (v := nI (c1 + 1)) (lv' := [(9, .int (nI (c1 + 1))), (10, .int (iI (((dsp B R z 1 : Nat) - (32 : Nat) : Int) + (c1 : Nat)))), (8, .int (nI (dtm R))), (7, .int (nI (dsd R))), (6, .int (nI (dsb B R ln z))), (5, .int (iI ((dsp B R z 1 : Nat) - (32 : Nat) : Int))), (4, .int (nI (dsp B R z 3))), (0, .ref (q 5)), (1, .int (nI ln)), (2, .int (nI (32 * (R 5 % 16) + 4 * z))), (3, .int (nI (drw B R ln z)))]) hx hb d_SC_drawSpriteRow_134 hl (k := 1) rfl (nI_1 _) (by decide) rfl (fun ls hl => ?_)
            refine lv_goto (tgt := 74) hx hb d_SC_drawSpriteRow_137 (by decide) ?_
            exact ih (c1 + 1) (by omega) cv9 co9 sx9 px9 (by first | exact dIv_ou hI (fun x9 h8 => by omega) | exact dIv_nb hI hB (by omega) (by assumption)) _ _ hP hD hS ls (lv_sub hl [0, 2, 3, 4, 5, 6, 7, 8, 9, 10] rfl)
          · have c20 := mt (z_lt0).mpr c20
            rw [iI_t (by omega) (by omega)] at c20
            refine lv_iload hx hb d_SC_drawSpriteRow_96 (lv_at hl 0 rfl) ?_
            refine lv_bipush (v := nI 64) hx hb d_SC_drawSpriteRow_98 (by decide +kernel) ?_
            refine lv_icmp_ge (tgt := 134) hx hb d_SC_drawSpriteRow_100 (by decide) (fun c21 => ?_) (fun c21 => ?_)
            · have c21 := (nz_le (by omega)).mp c21
              rw [iI_t (by omega) (by omega)] at c21
              refine lv_iinc (v := nI (c1 + 1)) (lv' := [(9, .int (nI (c1 + 1))), (10, .int (iI (((dsp B R z 1 : Nat) - (32 : Nat) : Int) + (c1 : Nat)))), (8, .int (nI (dtm R))), (7, .int (nI (dsd R))), (6, .int (nI (dsb B R ln z))), (5, .int (iI ((dsp B R z 1 : Nat) - (32 : Nat) : Int))), (4, .int (nI (dsp B R z 3))), (0, .ref (q 5)), (1, .int (nI ln)), (2, .int (nI (32 * (R 5 % 16) + 4 * z))), (3, .int (nI (drw B R ln z)))]) hx hb d_SC_drawSpriteRow_134 hl (k := 1) rfl (nI_1 _) (by decide) rfl (fun ls hl => ?_)
              refine lv_goto (tgt := 74) hx hb d_SC_drawSpriteRow_137 (by decide) ?_
              exact ih (c1 + 1) (by omega) cv9 co9 sx9 px9 (by first | exact dIv_ou hI (fun x9 h8 => by omega) | exact dIv_nb hI hB (by omega) (by assumption)) _ _ hP hD hS ls (lv_sub hl [0, 2, 3, 4, 5, 6, 7, 8, 9, 10] rfl)
            · have c21 := mt (nz_le (by omega)).mpr c21
              rw [iI_t (by omega) (by omega)] at c21
              have ex : iI (((dsp B R z 1 : Nat) - (32 : Nat) : Int) + (c1 : Nat)) = nI (dsp B R z 1 + c1 - 32) := iI_n (by omega)
              rw [ex] at hl
              refine lv_iload hx hb d_SC_drawSpriteRow_103 (lv_at hl 4 rfl) ?_
              refine lv_iload hx hb d_SC_drawSpriteRow_105 (lv_at hl 3 rfl) ?_
              refine lv_iconst (v := nI 1) hx hb d_SC_drawSpriteRow_107 (by decide +kernel) ?_
              refine lv_isub hx hb d_SC_drawSpriteRow_108 ?_
              refine ss_rt (y := nI (dsd R - 1)) (pk_sub (by omega)) ?_
              refine lv_iload hx hb d_SC_drawSpriteRow_109 (lv_at hl 1 rfl) ?_
              refine lv_iload hx hb d_SC_drawSpriteRow_111 (lv_at hl 2 rfl) ?_
              refine lv_idiv hx hb d_SC_drawSpriteRow_113 (by first | decide +kernel | exact nI_ne0 (by omega) (by omega)) ?_
              refine ss_rt (y := nI (c1 / (dtm R))) (pk_div (by omega) (by omega) (by omega)) ?_
              have g22 := Nat.div_le_self c1 (dtm R)
              refine lv_isub hx hb d_SC_drawSpriteRow_114 ?_
              refine ss_rt (y := nI (dsd R - 1 - (c1 / (dtm R)))) (pk_sub (by omega)) ?_
              refine lv_ishr hx hb d_SC_drawSpriteRow_115 ?_
              refine ss_rt (y := nI (dsb B R ln z / 2 ^ (dsd R - 1 - c1 / dtm R))) (ss_shr (by omega) (Nat.lt_of_le_of_lt (Nat.le_trans (Nat.sub_le _ _) (Nat.sub_le _ _)) (by omega))) ?_
              refine lv_iconst (v := nI 1) hx hb d_SC_drawSpriteRow_116 (by decide +kernel) ?_
              refine lv_iand hx hb d_SC_drawSpriteRow_117 ?_
              refine ss_rt (y := nI (dsb B R ln z / 2 ^ (dsd R - 1 - c1 / dtm R) % 2)) (pk_andN (Nat.lt_of_le_of_lt (Nat.div_le_self _ _) (by omega)) 1 (by decide +kernel)) ?_
              refine lv_iconst (v := nI 1) hx hb d_SC_drawSpriteRow_118 (by decide +kernel) ?_
              refine lv_icmp_ne (tgt := 134) hx hb d_SC_drawSpriteRow_119 (by decide) (fun c23 => ?_) (fun c23 => ?_)
              · have c23 := mt (nI_eq (by omega) (by omega)).mpr c23
                refine lv_iinc (v := nI (c1 + 1)) (lv' := [(9, .int (nI (c1 + 1))), (10, .int (nI (dsp B R z 1 + c1 - 32))), (8, .int (nI (dtm R))), (7, .int (nI (dsd R))), (6, .int (nI (dsb B R ln z))), (5, .int (iI ((dsp B R z 1 : Nat) - (32 : Nat) : Int))), (4, .int (nI (dsp B R z 3))), (0, .ref (q 5)), (1, .int (nI ln)), (2, .int (nI (32 * (R 5 % 16) + 4 * z))), (3, .int (nI (drw B R ln z)))]) hx hb d_SC_drawSpriteRow_134 hl (k := 1) rfl (nI_1 _) (by decide) rfl (fun ls hl => ?_)
                refine lv_goto (tgt := 74) hx hb d_SC_drawSpriteRow_137 (by decide) ?_
                exact ih (c1 + 1) (by omega) cv9 co9 sx9 px9 (by first | exact dIv_ou hI (fun x9 h8 => by omega) | exact dIv_nb hI hB (by omega) (by assumption)) _ _ hP hD hS ls (lv_sub hl [0, 2, 3, 4, 5, 6, 7, 8, 9, 10] rfl)
              · have c23 := (nI_eq (by omega) (by omega)).mp c23
                refine lv_aload_n hx hb d_SC_drawSpriteRow_122 rfl (lv_at hl 7 rfl) ?_
                refine lv_iload_n hx hb d_SC_drawSpriteRow_123 rfl (lv_at hl 8 rfl) ?_
                refine lv_iload hx hb d_SC_drawSpriteRow_124 (lv_at hl 0 rfl) ?_
                refine lv_iload hx hb d_SC_drawSpriteRow_126 (lv_at hl 6 rfl) ?_
                refine lv_bipush (v := nI 16) hx hb d_SC_drawSpriteRow_128 (by decide +kernel) ?_
                refine lv_irem hx hb d_SC_drawSpriteRow_130 (by first | decide +kernel | exact nI_ne0 (by omega) (by omega)) ?_
                refine ss_rt (y := nI ((dsp B R z 3) % 16)) (pk_rem (by omega) (by omega) (by omega)) ?_
                refine kw_vV (As := [.int (nI ln), .int (nI (dsp B R z 1 + c1 - 32)), .int (nI ((dsp B R z 3) % 16))]) (rest := []) ⟨hx, hb, hml, hown, hts⟩ (c_SC_coverPixel l D k q ln px9 cv9 co9 B R sx9 pt rd wt (by omega) (dIv_sx hI hs0) hI.1 hI.2.1 (dsp B R z 1 + c1 - 32) ((dsp B R z 3) % 16) (by omega) (by omega)) (cwV 3 hts (gV w_233 w_235 w_p11 w_4 w_236) rfl rfl rfl (by decide +kernel) ⟨Nat.le_of_ble_eq_true rfl, Nat.le_of_ble_eq_true rfl⟩) hK hP hD hS hA (va_recv hK hP (ci := 3) (q0 := 0) rfl rfl) rfl hl.1 rfl (Nat.le_of_ble_eq_true rfl) d_SC_drawSpriteRow_131 ⟨Nat.zero_le _, Nat.zero_le _⟩ (fun _ H locs _ hP _ hS => ?_)
                have hD : va_D A (scW q k ln (if (dsp B R z 3) % 16 ≠ 0 ∧ co9.testBit (dsp B R z 1 + c1 - 32) = false then ss_up px9 (64 * ln + (dsp B R z 1 + c1 - 32)) ((dsp B R z 3) % 16) else px9) (cv9 ||| 2 ^ (dsp B R z 1 + c1 - 32)) (if (dsp B R z 3) % 16 ≠ 0 ∧ co9.testBit (dsp B R z 1 + c1 - 32) = false then co9 ||| 2 ^ (dsp B R z 1 + c1 - 32) else co9) B R (if cv9.testBit (dsp B R z 1 + c1 - 32) = true then ss_so 32 sx9 else sx9) pt rd wt) := rw_same hD rfl
                have hP : va_P D vwCl (scW q k ln (if (dsp B R z 3) % 16 ≠ 0 ∧ co9.testBit (dsp B R z 1 + c1 - 32) = false then ss_up px9 (64 * ln + (dsp B R z 1 + c1 - 32)) ((dsp B R z 3) % 16) else px9) (cv9 ||| 2 ^ (dsp B R z 1 + c1 - 32)) (if (dsp B R z 3) % 16 ≠ 0 ∧ co9.testBit (dsp B R z 1 + c1 - 32) = false then co9 ||| 2 ^ (dsp B R z 1 + c1 - 32) else co9) B R (if cv9.testBit (dsp B R z 1 + c1 - 32) = true then ss_so 32 sx9 else sx9) pt rd wt) H := hP
                refine lv_iinc (v := nI (c1 + 1)) (lv' := [(9, .int (nI (c1 + 1))), (10, .int (nI (dsp B R z 1 + c1 - 32))), (8, .int (nI (dtm R))), (7, .int (nI (dsd R))), (6, .int (nI (dsb B R ln z))), (5, .int (iI ((dsp B R z 1 : Nat) - (32 : Nat) : Int))), (4, .int (nI (dsp B R z 3))), (0, .ref (q 5)), (1, .int (nI ln)), (2, .int (nI (32 * (R 5 % 16) + 4 * z))), (3, .int (nI (drw B R ln z)))]) hx hb d_SC_drawSpriteRow_134 hl (k := 1) rfl (nI_1 _) (by decide) rfl (fun ls hl => ?_)
                refine lv_goto (tgt := 74) hx hb d_SC_drawSpriteRow_137 (by decide) ?_
                exact ih (c1 + 1) (by omega) (cv9 ||| 2 ^ (dsp B R z 1 + c1 - 32)) (if (dsp B R z 3) % 16 ≠ 0 ∧ co9.testBit (dsp B R z 1 + c1 - 32) = false then co9 ||| 2 ^ (dsp B R z 1 + c1 - 32) else co9) (if cv9.testBit (dsp B R z 1 + c1 - 32) = true then ss_so 32 sx9 else sx9) (if (dsp B R z 3) % 16 ≠ 0 ∧ co9.testBit (dsp B R z 1 + c1 - 32) = false then ss_up px9 (64 * ln + (dsp B R z 1 + c1 - 32)) ((dsp B R z 3) % 16) else px9) (dIv_hit hI hs0 (x := (dsp B R z 1 + c1 - 32)) (by omega) (by omega) ((dhs_bit (c := c1) hB (by omega) (by omega)).mpr (by assumption))) _ _ hP hD hS ls (lv_sub hl [0, 2, 3, 4, 5, 6, 7, 8, 9, 10] rfl)
    exact loop (dsz R - 0) 0 (by omega) cv co sx px (dIv_b hI) _ _ hP hD hS ls (lv_sub hl [0, 1, 2, 3, 4, 5, 6, 7, 8, 9] rfl)
