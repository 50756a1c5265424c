set_option maxHeartbeats 4000000 in
set_option maxRecDepth 100000 in
theorem c_MO_rowOn (l : Launch) (D : va_G) (k : Nat → ClassId) (q : Nat → Nat) (cd : Int32) (wd : Nat → Nat) (se : Nat → Nat) (kd : Nat → Nat) (bn : Nat → Int32) (sh : Nat → Nat) (mb : Nat → Nat) (pr : Nat) (B : Nat → Nat) (R : Nat → Nat) (sx : Nat) (pt : Nat) (rd : Nat) (wt : Int32) (ln : Nat) (px : Nat → Nat) (hB : ∀ j, B j < 256) (hR : ∀ j, R j < 256) (z y : Nat) (hz : z < 8) (hy : y < 32) : ro_i l y_MO_rowOn b_MO_rowOn 4 (some .int) { frames := 3, cells := 0, slots := 0, locals := 62 } D (kT k) (mW q k cd wd se kd bn sh mb pr B R sx pt rd wt ln px) [.ref (q 0), .int (nI z), .int (nI y)] (if don B R y z = true then nI (drw B R y z) else -1) := by
  refine ro_headi (by decide) (Nat.le_of_ble_eq_true rfl) ?_
  intro p e s m below meth c ls hx hb hr hlocks hml hown hts hP hK hl
  have hown : s.vm.findClass "SlotScreenModel" = some m.cls := hown
  have hl : lv_has ls 4 [(0, .ref (q 0)), (1, .int (nI z)), (2, .int (nI y))] := hl
  have z1 := dsz_le R
  have z2 := dtm_le R
  refine lv_aload_n hx hb d_MO_rowOn_0 rfl (lv_at hl 0 rfl) ?_
  refine lv_iload_n hx hb d_MO_rowOn_1 rfl (lv_at hl 1 rfl) ?_
  refine lv_iconst (v := nI 0) hx hb d_MO_rowOn_2 (by decide +kernel) ?_
  have g1 := hB (32 * (R 5 % 16) + 4 * z + 0)
  have g2 : dsp B R z 0 < 256 := hB _
  refine kr_iV (As := [.int (nI z), .int (nI 0)]) (rest := []) ⟨hx, hb, hml, hown, hts⟩ (c_MO_sprite l D k q cd wd se kd bn sh mb pr B R sx pt rd wt ln px hB hR z 0 (by omega) (by omega)) (cwV 2 hts (gV w_661 w_663 w_p22 w_5 w_664) rfl rfl rfl (by decide +kernel) ⟨Nat.le_of_ble_eq_true rfl, Nat.le_of_ble_eq_true rfl⟩) hK hP (va_recv hK hP (ci := 7) (q0 := 0) rfl rfl) rfl hl.1 rfl (Nat.le_of_ble_eq_true rfl) d_MO_rowOn_3 ⟨Nat.zero_le _, Nat.zero_le _⟩ ?_
  refine lv_sipush (v := nI 224) hx hb d_MO_rowOn_6 (by decide +kernel) ?_
  refine lv_icmp_ge (tgt := 23) hx hb d_MO_rowOn_9 (by decide) (fun c3 => ?_) (fun c3 => ?_)
  · have c3 := (nI_leI (by omega) (by omega)).mp c3
    refine lv_aload_n hx hb d_MO_rowOn_23 rfl (lv_at hl 0 rfl) ?_
    refine lv_iload_n hx hb d_MO_rowOn_24 rfl (lv_at hl 1 rfl) ?_
    refine lv_iconst (v := nI 0) hx hb d_MO_rowOn_25 (by decide +kernel) ?_
    have g4 := hB (32 * (R 5 % 16) + 4 * z + 0)
    have g5 : dsp B R z 0 < 256 := hB _
    refine kr_iV (As := [.int (nI z), .int (nI 0)]) (rest := []) ⟨hx, hb, hml, hown, hts⟩ (c_MO_sprite l D k q cd wd se kd bn sh mb pr B R sx pt rd wt ln px hB hR z 0 (by omega) (by omega)) (cwV 2 hts (gV w_661 w_663 w_p22 w_5 w_664) rfl rfl rfl (by decide +kernel) ⟨Nat.le_of_ble_eq_true rfl, Nat.le_of_ble_eq_true rfl⟩) hK hP (va_recv hK hP (ci := 7) (q0 := 0) rfl rfl) rfl hl.1 rfl (Nat.le_of_ble_eq_true rfl) d_MO_rowOn_26 ⟨Nat.zero_le _, Nat.zero_le _⟩ ?_
    refine lv_sipush (v := nI 255) hx hb d_MO_rowOn_29 (by decide +kernel) ?_
    refine lv_isub hx hb d_MO_rowOn_32 ?_
    refine ss_rt (y := iI ((dsp B R z 0 : Nat) - (255 : Nat) : Int)) (iI_nn _ _) ?_
    refine lv_istore_n (lv' := [(3, .int (iI ((dsp B R z 0 : Nat) - (255 : Nat) : Int))), (0, .ref (q 0)), (1, .int (nI z)), (2, .int (nI y))]) hx hb d_MO_rowOn_33 rfl hl (by decide) rfl (fun ls hl => ?_)
    refine lv_iload_n hx hb d_MO_rowOn_34 rfl (lv_at hl 3 rfl) ?_
    refine lv_iload_n hx hb d_MO_rowOn_35 rfl (lv_at hl 0 rfl) ?_
    refine lv_icmp_lt (tgt := 60) hx hb d_MO_rowOn_36 (by decide) (fun c6 => ?_) (fun c6 => ?_)
    · have c6 := (nz_lt (by omega)).mp c6
      rw [iI_t (by omega) (by omega)] at c6
      refine lv_iconst (v := (-1)) hx hb d_MO_rowOn_60 (by decide +kernel) ?_
      exact ro_reti hx hb hr hlocks d_MO_rowOn_61 ((if_neg (don_f (by first | (rw [if_pos (by omega)]; omega) | (rw [if_neg (by omega)]; omega)))).symm)
    · have c6 := mt (nz_lt (by omega)).mpr c6
      rw [iI_t (by omega) (by omega)] at c6
      refine lv_iload_n hx hb d_MO_rowOn_39 rfl (lv_at hl 3 rfl) ?_
      refine lv_iload_n hx hb d_MO_rowOn_40 rfl (lv_at hl 0 rfl) ?_
      refine lv_aload_n hx hb d_MO_rowOn_41 rfl (lv_at hl 1 rfl) ?_
      refine kr_iV (As := []) (rest := [.int (iI ((dsp B R z 0 : Nat) - (255 : Nat) : Int)), .int (nI y)]) ⟨hx, hb, hml, hown, hts⟩ (c_MO_size l D k q cd wd se kd bn sh mb pr B R sx pt rd wt ln px hB hR) (cwV 0 hts (gV w_673 w_675 w_p25 w_5 w_676) rfl rfl rfl (by decide +kernel) ⟨Nat.le_of_ble_eq_true rfl, Nat.le_of_ble_eq_true rfl⟩) hK hP (va_recv hK hP (ci := 7) (q0 := 0) rfl rfl) rfl hl.1 rfl (Nat.le_of_ble_eq_true rfl) d_MO_rowOn_42 ⟨Nat.zero_le _, Nat.zero_le _⟩ ?_
      refine lv_iadd hx hb d_MO_rowOn_45 ?_
      refine ss_rt (y := iI (((dsp B R z 0 : Nat) - (255 : Nat) : Int) + (dsz R : Nat))) (iI_an _ _) ?_
      refine lv_icmp_ge (tgt := 60) hx hb d_MO_rowOn_46 (by decide) (fun c7 => ?_) (fun c7 => ?_)
      · have c7 := (zn_le (by omega)).mp c7
        rw [iI_t (by omega) (by omega)] at c7
        refine lv_iconst (v := (-1)) hx hb d_MO_rowOn_60 (by decide +kernel) ?_
        exact ro_reti hx hb hr hlocks d_MO_rowOn_61 ((if_neg (don_f (by first | (rw [if_pos (by omega)]; omega) | (rw [if_neg (by omega)]; omega)))).symm)
      · have c7 := mt (zn_le (by omega)).mpr c7
        rw [iI_t (by omega) (by omega)] at c7
        refine lv_iload_n hx hb d_MO_rowOn_49 rfl (lv_at hl 3 rfl) ?_
        refine lv_iload_n hx hb d_MO_rowOn_50 rfl (lv_at hl 0 rfl) ?_
        refine lv_isub hx hb d_MO_rowOn_51 ?_
        refine ss_rt (y := nI (y + 255 - dsp B R z 0)) ((iI_sn _ _).trans (iI_n (by omega))) ?_
        refine lv_aload_n hx hb d_MO_rowOn_52 rfl (lv_at hl 1 rfl) ?_
        refine kr_iV (As := []) (rest := [.int (nI (y + 255 - dsp B R z 0))]) ⟨hx, hb, hml, hown, hts⟩ (c_MO_times l D k q cd wd se kd bn sh mb pr B R sx pt rd wt ln px hB hR) (cwV 0 hts (gV w_677 w_679 w_p26 w_5 w_680) rfl rfl rfl (by decide +kernel) ⟨Nat.le_of_ble_eq_true rfl, Nat.le_of_ble_eq_true rfl⟩) hK hP (va_recv hK hP (ci := 7) (q0 := 0) rfl rfl) rfl hl.1 rfl (Nat.le_of_ble_eq_true rfl) d_MO_rowOn_53 ⟨Nat.zero_le _, Nat.zero_le _⟩ ?_
        refine lv_idiv hx hb d_MO_rowOn_56 (by first | decide +kernel | exact nI_ne0 (by omega) (by omega)) ?_
        refine ss_rt (y := nI ((y + 255 - dsp B R z 0) / (dtm R))) (pk_div (by omega) (by omega) (by omega)) ?_
        have g8 := Nat.div_le_self (y + 255 - dsp B R z 0) (dtm R)
        refine lv_goto (tgt := 61) hx hb d_MO_rowOn_57 (by decide) ?_
        exact ro_reti hx hb hr hlocks d_MO_rowOn_61 (by rw [if_pos (don_t (by first | (rw [if_pos (by omega)]; omega) | (rw [if_neg (by omega)]; omega)))]; first | rw [drw_1 (by omega)] | rw [drw_2 (by omega)])
  · have c3 := mt (nI_leI (by omega) (by omega)).mpr c3
    refine lv_aload_n hx hb d_MO_rowOn_12 rfl (lv_at hl 0 rfl) ?_
    refine lv_iload_n hx hb d_MO_rowOn_13 rfl (lv_at hl 1 rfl) ?_
    refine lv_iconst (v := nI 0) hx hb d_MO_rowOn_14 (by decide +kernel) ?_
    have g9 := hB (32 * (R 5 % 16) + 4 * z + 0)
    have g10 : dsp B R z 0 < 256 := hB _
    refine kr_iV (As := [.int (nI z), .int (nI 0)]) (rest := []) ⟨hx, hb, hml, hown, hts⟩ (c_MO_sprite l D k q cd wd se kd bn sh mb pr B R sx pt rd wt ln px hB hR z 0 (by omega) (by omega)) (cwV 2 hts (gV w_661 w_663 w_p22 w_5 w_664) rfl rfl rfl (by decide +kernel) ⟨Nat.le_of_ble_eq_true rfl, Nat.le_of_ble_eq_true rfl⟩) hK hP (va_recv hK hP (ci := 7) (q0 := 0) rfl rfl) rfl hl.1 rfl (Nat.le_of_ble_eq_true rfl) d_MO_rowOn_15 ⟨Nat.zero_le _, Nat.zero_le _⟩ ?_
    refine lv_iconst (v := nI 1) hx hb d_MO_rowOn_18 (by decide +kernel) ?_
    refine lv_iadd hx hb d_MO_rowOn_19 ?_
    refine ss_rt (y := nI (dsp B R z 0 + 1)) (nI_add _ _) ?_
    refine lv_goto (tgt := 33) hx hb d_MO_rowOn_20 (by decide) ?_
    refine lv_istore_n (lv' := [(3, .int (nI (dsp B R z 0 + 1))), (0, .ref (q 0)), (1, .int (nI z)), (2, .int (nI y))]) hx hb d_MO_rowOn_33 rfl hl (by decide) rfl (fun ls hl => ?_)
    refine lv_iload_n hx hb d_MO_rowOn_34 rfl (lv_at hl 3 rfl) ?_
    refine lv_iload_n hx hb d_MO_rowOn_35 rfl (lv_at hl 0 rfl) ?_
    refine lv_icmp_lt (tgt := 60) hx hb d_MO_rowOn_36 (by decide) (fun c11 => ?_) (fun c11 => ?_)
    · have c11 := (nI_ltI (by omega) (by omega)).mp c11
      refine lv_iconst (v := (-1)) hx hb d_MO_rowOn_60 (by decide +kernel) ?_
      exact ro_reti hx hb hr hlocks d_MO_rowOn_61 ((if_neg (don_f (by first | (rw [if_pos (by omega)]; omega) | (rw [if_neg (by omega)]; omega)))).symm)
    · have c11 := mt (nI_ltI (by omega) (by omega)).mpr c11
      refine lv_iload_n hx hb d_MO_rowOn_39 rfl (lv_at hl 3 rfl) ?_
      refine lv_iload_n hx hb d_MO_rowOn_40 rfl (lv_at hl 0 rfl) ?_
      refine lv_aload_n hx hb d_MO_rowOn_41 rfl (lv_at hl 1 rfl) ?_
      refine kr_iV (As := []) (rest := [.int (nI (dsp B R z 0 + 1)), .int (nI y)]) ⟨hx, hb, hml, hown, hts⟩ (c_MO_size l D k q cd wd se kd bn sh mb pr B R sx pt rd wt ln px hB hR) (cwV 0 hts (gV w_673 w_675 w_p25 w_5 w_676) rfl rfl rfl (by decide +kernel) ⟨Nat.le_of_ble_eq_true rfl, Nat.le_of_ble_eq_true rfl⟩) hK hP (va_recv hK hP (ci := 7) (q0 := 0) rfl rfl) rfl hl.1 rfl (Nat.le_of_ble_eq_true rfl) d_MO_rowOn_42 ⟨Nat.zero_le _, Nat.zero_le _⟩ ?_
      refine lv_iadd hx hb d_MO_rowOn_45 ?_
      refine ss_rt (y := nI (dsp B R z 0 + 1 + (dsz R))) (nI_add _ _) ?_
      refine lv_icmp_ge (tgt := 60) hx hb d_MO_rowOn_46 (by decide) (fun c12 => ?_) (fun c12 => ?_)
      · have c12 := (nI_leI (by omega) (by omega)).mp c12
        refine lv_iconst (v := (-1)) hx hb d_MO_rowOn_60 (by decide +kernel) ?_
        exact ro_reti hx hb hr hlocks d_MO_rowOn_61 ((if_neg (don_f (by first | (rw [if_pos (by omega)]; omega) | (rw [if_neg (by omega)]; omega)))).symm)
      · have c12 := mt (nI_leI (by omega) (by omega)).mpr c12
        refine lv_iload_n hx hb d_MO_rowOn_49 rfl (lv_at hl 3 rfl) ?_
        refine lv_iload_n hx hb d_MO_rowOn_50 rfl (lv_at hl 0 rfl) ?_
        refine lv_isub hx hb d_MO_rowOn_51 ?_
        refine ss_rt (y := nI (y - (dsp B R z 0 + 1))) (pk_sub (by omega)) ?_
        refine lv_aload_n hx hb d_MO_rowOn_52 rfl (lv_at hl 1 rfl) ?_
        refine kr_iV (As := []) (rest := [.int (nI (y - (dsp B R z 0 + 1)))]) ⟨hx, hb, hml, hown, hts⟩ (c_MO_times l D k q cd wd se kd bn sh mb pr B R sx pt rd wt ln px hB hR) (cwV 0 hts (gV w_677 w_679 w_p26 w_5 w_680) rfl rfl rfl (by decide +kernel) ⟨Nat.le_of_ble_eq_true rfl, Nat.le_of_ble_eq_true rfl⟩) hK hP (va_recv hK hP (ci := 7) (q0 := 0) rfl rfl) rfl hl.1 rfl (Nat.le_of_ble_eq_true rfl) d_MO_rowOn_53 ⟨Nat.zero_le _, Nat.zero_le _⟩ ?_
        refine lv_idiv hx hb d_MO_rowOn_56 (by first | decide +kernel | exact nI_ne0 (by omega) (by omega)) ?_
        refine ss_rt (y := nI ((y - (dsp B R z 0 + 1)) / (dtm R))) (pk_div (by omega) (by omega) (by omega)) ?_
        have g13 := Nat.div_le_self (y - (dsp B R z 0 + 1)) (dtm R)
        refine lv_goto (tgt := 61) hx hb d_MO_rowOn_57 (by decide) ?_
        exact ro_reti hx hb hr hlocks d_MO_rowOn_61 (by rw [if_pos (don_t (by first | (rw [if_pos (by omega)]; omega) | (rw [if_neg (by omega)]; omega)))]; first | rw [drw_1 (by omega)] | rw [drw_2 (by omega)])
set_option maxHeartbeats 4000000 in
set_option maxRecDepth 100000 in
theorem c_MO_there (l : Launch) (D : va_G) (k : Nat → ClassId) (q : Nat → Nat) (cd : Int32) (wd : Nat → Nat) (se : Nat → Nat) (kd : Nat → Nat) (bn : Nat → Int32) (sh : Nat → Nat) (mb : Nat → Nat) (pr : Nat) (B : Nat → Nat) (R : Nat → Nat) (sx : Nat) (pt : Nat) (rd : Nat) (wt : Int32) (ln : Nat) (px : Nat → Nat) (hB : ∀ j, B j < 256) (hR : ∀ j, R j < 256) : ro_i l y_MO_there b_MO_there 2 (some .int) { frames := 1, cells := 0, slots := 0, locals := 22 } D (kT k) (mW q k cd wd se kd bn sh mb pr B R sx pt rd wt ln px) [.ref (q 0)] (nI (dmo B R)) := by
  refine ro_headi (by decide) (Nat.le_of_ble_eq_true rfl) ?_
  intro p e s m below meth c ls hx hb hr hlocks hml hown hts hP hK hl
  have hown : s.vm.findClass "SlotScreenModel" = some m.cls := hown
  have hl : lv_has ls 2 [(0, .ref (q 0))] := hl
  refine lv_iconst (v := nI 0) hx hb d_MO_there_0 (by decide +kernel) ?_
  refine lv_istore_n (lv' := [(1, .int (nI 0)), (0, .ref (q 0))]) hx hb d_MO_there_1 rfl hl (by decide) rfl (fun ls hl => ?_)
  have loop : ∀ (j9 i : Nat), i + j9 = 8 → (hn : ∀ j, j < i → dsp B R j 0 ≠ 208) → ∀ (ls : Array Slot), lv_has ls 2 [(1, .int (nI i)), (0, .ref (q 0))] → W p l e (headSpec (wsG y_MO_there b_MO_there 2 (some .int)) { frames := 1, cells := 0, slots := 0, locals := 22 }).room s m ([.ref (q 0)] : List Value).toArray below meth c s.heap [] 0 0 (MQ below (vp_Si (fun x => x = nI (dmo B R))) ([.ref (q 0)] : List Value).toArray s 0 0 (fun _ => False)) (F0 m 2 ls []) := by
    intro j9
    induction j9 with
    | zero =>
      intro i h9 hn ls hl
      refine lv_iload_n hx hb d_MO_there_2 rfl (lv_at hl 0 rfl) ?_
      refine lv_bipush (v := nI 8) hx hb d_MO_there_3 (by decide +kernel) ?_
      refine lv_icmp_ge (tgt := 26) hx hb d_MO_there_5 (by decide) (fun c1 => ?_) (fun c1 => ?_)
      · have c1 := (nI_leI (by omega) (by omega)).mp c1
        refine lv_iload_n hx hb d_MO_there_26 rfl (lv_at hl 0 rfl) ?_
        exact ro_reti hx hb hr hlocks d_MO_there_27 (by have e9 := dth_from (fun k => dsp B R k 0) i (8 - i) hn; rw [show i + (8 - i) = 8 by omega] at e9; unfold dmo; rw [e9]; rw [show 8 - i = 0 by omega, dth])
      · have c1 := mt (nI_leI (by omega) (by omega)).mpr c1
        exact absurd c1 (by omega)
    | succ j9 ih =>
      intro i h9 hn ls hl
      refine lv_iload_n hx hb d_MO_there_2 rfl (lv_at hl 0 rfl) ?_
      refine lv_bipush (v := nI 8) hx hb d_MO_there_3 (by decide +kernel) ?_
      refine lv_icmp_ge (tgt := 26) hx hb d_MO_there_5 (by decide) (fun c2 => ?_) (fun c2 => ?_)
      · have c2 := (nI_leI (by omega) (by omega)).mp c2
        exact absurd c2 (by omega)
      · have c2 := mt (nI_leI (by omega) (by omega)).mpr c2
        refine lv_aload_n hx hb d_MO_there_8 rfl (lv_at hl 1 rfl) ?_
        refine lv_iload_n hx hb d_MO_there_9 rfl (lv_at hl 0 rfl) ?_
        refine lv_iconst (v := nI 0) hx hb d_MO_there_10 (by decide +kernel) ?_
        have g3 := hB (32 * (R 5 % 16) + 4 * i + 0)
        have g4 : dsp B R i 0 < 256 := hB _
        refine kr_iV (As := [.int (nI i), .int (nI 0)]) (rest := []) ⟨hx, hb, hml, hown, hts⟩ (c_MO_sprite l D k q cd wd se kd bn sh mb pr B R sx pt rd wt ln px hB hR i 0 (by omega) (by omega)) (cwV 2 hts (gV w_661 w_663 w_p22 w_5 w_664) rfl rfl rfl (by decide +kernel) ⟨Nat.le_of_ble_eq_true rfl, Nat.le_of_ble_eq_true rfl⟩) hK hP (va_recv hK hP (ci := 7) (q0 := 0) rfl rfl) rfl hl.1 rfl (Nat.le_of_ble_eq_true rfl) d_MO_there_11 ⟨Nat.zero_le _, Nat.zero_le _⟩ ?_
        refine lv_sipush (v := nI 208) hx hb d_MO_there_14 (by decide +kernel) ?_
        refine lv_icmp_eq (tgt := 26) hx hb d_MO_there_17 (by decide) (fun c5 => ?_) (fun c5 => ?_)
        · have c5 := (nI_eq (by omega) (by omega)).mp c5
          refine lv_iload_n hx hb d_MO_there_26 rfl (lv_at hl 0 rfl) ?_
          exact ro_reti hx hb hr hlocks d_MO_there_27 (by have e9 := dth_from (fun k => dsp B R k 0) i (8 - i) hn; rw [show i + (8 - i) = 8 by omega] at e9; unfold dmo; rw [e9]; rw [show 8 - i = j9 + 1 by omega, dth, if_pos (by omega)])
        · have c5 := mt (nI_eq (by omega) (by omega)).mpr c5
          refine lv_iinc (v := nI (i + 1)) (lv' := [(1, .int (nI (i + 1))), (0, .ref (q 0))]) hx hb d_MO_there_20 hl (k := 0) rfl (nI_1 _) (by decide) rfl (fun ls hl => ?_)
          refine lv_goto (tgt := 2) hx hb d_MO_there_23 (by decide) ?_
          exact ih (i + 1) (by omega) (lt_s (p := fun j => dsp B R j 0 ≠ 208) hn (show dsp B R i 0 ≠ 208 by omega)) ls (lv_sub hl [0, 1] rfl)
  exact loop (8 - 0) 0 (by omega) (fun j hj => by omega) ls (lv_sub hl [0, 1] rfl)
set_option maxHeartbeats 4000000 in
set_option maxRecDepth 100000 in
theorem c_MO_tile (l : Launch) (D : va_G) (k : Nat → ClassId) (q : Nat → Nat) (cd : Int32) (wd : Nat → Nat) (se : Nat → Nat) (kd : Nat → Nat) (bn : Nat → Int32) (sh : Nat → Nat) (mb : Nat → Nat) (pr : Nat) (B : Nat → Nat) (R : Nat → Nat) (sx : Nat) (pt : Nat) (rd : Nat) (wt : Int32) (ln : Nat) (px : Nat → Nat) (hB : ∀ j, B j < 256) (hR : ∀ j, R j < 256) (x y : Nat) (hx9 : x < 64) (hy : y < 32) : ro_i l y_MO_tile b_MO_tile 6 (some .int) { frames := 1, cells := 0, slots := 0, locals := 22 } D (kT k) (mW q k cd wd se kd bn sh mb pr B R sx pt rd wt ln px) [.ref (q 0), .int (nI x), .int (nI y)] (nI (dtl B R x y)) := by
  refine ro_headi (by decide) (Nat.le_of_ble_eq_true rfl) ?_
  intro p e s m below meth c ls hx hb hr hlocks hml hown hts hP hK hl
  have hown : s.vm.findClass "SlotScreenModel" = some m.cls := hown
  have hl : lv_has ls 6 [(0, .ref (q 0)), (1, .int (nI x)), (2, .int (nI y))] := hl
  refine lv_aload_n hx hb d_MO_tile_0 rfl (lv_at hl 0 rfl) ?_
  refine va_get (D := D) (ci := 7) (v := .ref (q 7)) (C := R_MO) (T := T_MO) (N := 16) hx hb hts in_MO hown hK hP 0 rfl rfl 8 (by decide) (hts _ w_538) (fun _ h9 => h9) rfl d_MO_tile_1 ?_
  refine lv_bipush (v := nI 32) hx hb d_MO_tile_4 (by decide +kernel) ?_
  refine lv_aload_n hx hb d_MO_tile_6 rfl (lv_at hl 0 rfl) ?_
  refine va_get (D := D) (ci := 7) (v := .ref (q 8)) (C := R_MO) (T := T_MO) (N := 16) hx hb hts in_MO hown hK hP 0 rfl rfl 9 (by decide) (hts _ w_539) (fun _ h9 => h9) rfl d_MO_tile_7 ?_
  refine lv_iconst (v := nI 2) hx hb d_MO_tile_10 (by decide +kernel) ?_
  refine va_iald hx hb hK hP 8 0 rfl rfl (vp_in_nI (by omega) (by omega)) d_MO_tile_11 ?_
  refine ss_rt (y := nI (R 2)) (congrArg (fun z => nI (R z)) (nI_clamp (by omega))) ?_
  have g1 := hR 2
  refine lv_bipush (v := nI 16) hx hb d_MO_tile_12 (by decide +kernel) ?_
  refine lv_irem hx hb d_MO_tile_14 (by first | decide +kernel | exact nI_ne0 (by omega) (by omega)) ?_
  refine ss_rt (y := nI ((R 2) % 16)) (pk_rem (by omega) (by omega) (by omega)) ?_
  refine lv_imul hx hb d_MO_tile_15 ?_
  refine ss_rt (y := nI (32 * ((R 2) % 16))) (pk_mul _ _) ?_
  refine lv_iload_n hx hb d_MO_tile_16 rfl (lv_at hl 2 rfl) ?_
  refine lv_bipush (v := nI 8) hx hb d_MO_tile_17 (by decide +kernel) ?_
  refine lv_idiv hx hb d_MO_tile_19 (by first | decide +kernel | exact nI_ne0 (by omega) (by omega)) ?_
  refine ss_rt (y := nI (y / 8)) (pk_div (by omega) (by omega) (by omega)) ?_
  refine lv_bipush (v := nI 8) hx hb d_MO_tile_20 (by decide +kernel) ?_
  refine lv_imul hx hb d_MO_tile_22 ?_
  refine ss_rt (y := nI ((y / 8) * 8)) (pk_mul _ _) ?_
  refine lv_iadd hx hb d_MO_tile_23 ?_
  refine ss_rt (y := nI (32 * ((R 2) % 16) + ((y / 8) * 8))) (nI_add _ _) ?_
  refine lv_iload_n hx hb d_MO_tile_24 rfl (lv_at hl 1 rfl) ?_
  refine lv_bipush (v := nI 8) hx hb d_MO_tile_25 (by decide +kernel) ?_
  refine lv_idiv hx hb d_MO_tile_27 (by first | decide +kernel | exact nI_ne0 (by omega) (by omega)) ?_
  refine ss_rt (y := nI (x / 8)) (pk_div (by omega) (by omega) (by omega)) ?_
  refine lv_iadd hx hb d_MO_tile_28 ?_
  refine ss_rt (y := nI (32 * ((R 2) % 16) + ((y / 8) * 8) + (x / 8))) (nI_add _ _) ?_
  refine va_iald hx hb hK hP 7 0 rfl rfl (vp_in_nI (by omega) (by omega)) d_MO_tile_29 ?_
  refine ss_rt (y := nI (B (32 * ((R 2) % 16) + ((y / 8) * 8) + (x / 8)))) (congrArg (fun z => nI (B z)) (nI_clamp (by omega))) ?_
  have g2 := hB (32 * ((R 2) % 16) + ((y / 8) * 8) + (x / 8))
  refine lv_bipush (v := nI 32) hx hb d_MO_tile_30 (by decide +kernel) ?_
  refine lv_irem hx hb d_MO_tile_32 (by first | decide +kernel | exact nI_ne0 (by omega) (by omega)) ?_
  refine ss_rt (y := nI ((B (32 * ((R 2) % 16) + ((y / 8) * 8) + (x / 8))) % 32)) (pk_rem (by omega) (by omega) (by omega)) ?_
  refine lv_istore_n (lv' := [(3, .int (nI ((B (32 * ((R 2) % 16) + ((y / 8) * 8) + (x / 8))) % 32))), (0, .ref (q 0)), (1, .int (nI x)), (2, .int (nI y))]) hx hb d_MO_tile_33 rfl hl (by decide) rfl (fun ls hl => ?_)
  refine lv_aload_n hx hb d_MO_tile_34 rfl (lv_at hl 1 rfl) ?_
  refine va_get (D := D) (ci := 7) (v := .ref (q 7)) (C := R_MO) (T := T_MO) (N := 16) hx hb hts in_MO hown hK hP 0 rfl rfl 8 (by decide) (hts _ w_538) (fun _ h9 => h9) rfl d_MO_tile_35 ?_
  refine lv_sipush (v := nI 256) hx hb d_MO_tile_38 (by decide +kernel) ?_
  refine lv_aload_n hx hb d_MO_tile_41 rfl (lv_at hl 1 rfl) ?_
  refine va_get (D := D) (ci := 7) (v := .ref (q 8)) (C := R_MO) (T := T_MO) (N := 16) hx hb hts in_MO hown hK hP 0 rfl rfl 9 (by decide) (hts _ w_539) (fun _ h9 => h9) rfl d_MO_tile_42 ?_
  refine lv_iconst (v := nI 4) hx hb d_MO_tile_45 (by decide +kernel) ?_
  refine va_iald hx hb hK hP 8 0 rfl rfl (vp_in_nI (by omega) (by omega)) d_MO_tile_46 ?_
  refine ss_rt (y := nI (R 4)) (congrArg (fun z => nI (R z)) (nI_clamp (by omega))) ?_
  have g3 := hR 4
  refine lv_iconst (v := nI 2) hx hb d_MO_tile_47 (by decide +kernel) ?_
  refine lv_irem hx hb d_MO_tile_48 (by first | decide +kernel | exact nI_ne0 (by omega) (by omega)) ?_
  refine ss_rt (y := nI ((R 4) % 2)) (pk_rem (by omega) (by omega) (by omega)) ?_
  refine lv_imul hx hb d_MO_tile_49 ?_
  refine ss_rt (y := nI (256 * ((R 4) % 2))) (pk_mul _ _) ?_
  refine lv_bipush (v := nI 8) hx hb d_MO_tile_50 (by decide +kernel) ?_
  refine lv_iload_n hx hb d_MO_tile_52 rfl (lv_at hl 0 rfl) ?_
  refine lv_imul hx hb d_MO_tile_53 ?_
  refine ss_rt (y := nI (8 * ((B (32 * ((R 2) % 16) + ((y / 8) * 8) + (x / 8))) % 32))) (pk_mul _ _) ?_
  refine lv_iadd hx hb d_MO_tile_54 ?_
  refine ss_rt (y := nI (256 * ((R 4) % 2) + (8 * ((B (32 * ((R 2) % 16) + ((y / 8) * 8) + (x / 8))) % 32)))) (nI_add _ _) ?_
  refine lv_iload_n hx hb d_MO_tile_55 rfl (lv_at hl 3 rfl) ?_
  refine lv_bipush (v := nI 8) hx hb d_MO_tile_56 (by decide +kernel) ?_
  refine lv_irem hx hb d_MO_tile_58 (by first | decide +kernel | exact nI_ne0 (by omega) (by omega)) ?_
  refine ss_rt (y := nI (y % 8)) (pk_rem (by omega) (by omega) (by omega)) ?_
  refine lv_iadd hx hb d_MO_tile_59 ?_
  refine ss_rt (y := nI (256 * ((R 4) % 2) + (8 * ((B (32 * ((R 2) % 16) + ((y / 8) * 8) + (x / 8))) % 32)) + (y % 8))) (nI_add _ _) ?_
  refine va_iald hx hb hK hP 7 0 rfl rfl (vp_in_nI (by omega) (by omega)) d_MO_tile_60 ?_
  refine ss_rt (y := nI (B (256 * ((R 4) % 2) + (8 * ((B (32 * ((R 2) % 16) + ((y / 8) * 8) + (x / 8))) % 32)) + (y % 8)))) (congrArg (fun z => nI (B z)) (nI_clamp (by omega))) ?_
  have g4 := hB (256 * ((R 4) % 2) + (8 * ((B (32 * ((R 2) % 16) + ((y / 8) * 8) + (x / 8))) % 32)) + (y % 8))
  refine lv_istore (lv' := [(4, .int (nI (B (256 * ((R 4) % 2) + (8 * ((B (32 * ((R 2) % 16) + ((y / 8) * 8) + (x / 8))) % 32)) + (y % 8))))), (3, .int (nI ((B (32 * ((R 2) % 16) + ((y / 8) * 8) + (x / 8))) % 32))), (0, .ref (q 0)), (1, .int (nI x)), (2, .int (nI y))]) hx hb d_MO_tile_61 hl (by decide) rfl (fun ls hl => ?_)
  refine lv_aload_n hx hb d_MO_tile_63 rfl (lv_at hl 2 rfl) ?_
  refine va_get (D := D) (ci := 7) (v := .ref (q 7)) (C := R_MO) (T := T_MO) (N := 16) hx hb hts in_MO hown hK hP 0 rfl rfl 8 (by decide) (hts _ w_538) (fun _ h9 => h9) rfl d_MO_tile_64 ?_
  refine lv_iconst (v := nI 4) hx hb d_MO_tile_67 (by decide +kernel) ?_
  refine lv_aload_n hx hb d_MO_tile_68 rfl (lv_at hl 2 rfl) ?_
  refine va_get (D := D) (ci := 7) (v := .ref (q 8)) (C := R_MO) (T := T_MO) (N := 16) hx hb hts in_MO hown hK hP 0 rfl rfl 9 (by decide) (hts _ w_539) (fun _ h9 => h9) rfl d_MO_tile_69 ?_
  refine lv_iconst (v := nI 3) hx hb d_MO_tile_72 (by decide +kernel) ?_
  refine va_iald hx hb hK hP 8 0 rfl rfl (vp_in_nI (by omega) (by omega)) d_MO_tile_73 ?_
  refine ss_rt (y := nI (R 3)) (congrArg (fun z => nI (R z)) (nI_clamp (by omega))) ?_
  have g5 := hR 3
  refine lv_sipush (v := nI 128) hx hb d_MO_tile_74 (by decide +kernel) ?_
  refine lv_irem hx hb d_MO_tile_77 (by first | decide +kernel | exact nI_ne0 (by omega) (by omega)) ?_
  refine ss_rt (y := nI ((R 3) % 128)) (pk_rem (by omega) (by omega) (by omega)) ?_
  refine lv_imul hx hb d_MO_tile_78 ?_
  refine ss_rt (y := nI (4 * ((R 3) % 128))) (pk_mul _ _) ?_
  refine lv_iload_n hx hb d_MO_tile_79 rfl (lv_at hl 1 rfl) ?_
  refine lv_bipush (v := nI 8) hx hb d_MO_tile_80 (by decide +kernel) ?_
  refine lv_idiv hx hb d_MO_tile_82 (by first | decide +kernel | exact nI_ne0 (by omega) (by omega)) ?_
  refine ss_rt (y := nI (((B (32 * ((R 2) % 16) + ((y / 8) * 8) + (x / 8))) % 32) / 8)) (pk_div (by omega) (by omega) (by omega)) ?_
  refine lv_iadd hx hb d_MO_tile_83 ?_
  refine ss_rt (y := nI (4 * ((R 3) % 128) + (((B (32 * ((R 2) % 16) + ((y / 8) * 8) + (x / 8))) % 32) / 8))) (nI_add _ _) ?_
  refine va_iald hx hb hK hP 7 0 rfl rfl (vp_in_nI (by omega) (by omega)) d_MO_tile_84 ?_
  refine ss_rt (y := nI (B (4 * ((R 3) % 128) + (((B (32 * ((R 2) % 16) + ((y / 8) * 8) + (x / 8))) % 32) / 8)))) (congrArg (fun z => nI (B z)) (nI_clamp (by omega))) ?_
  have g6 := hB (4 * ((R 3) % 128) + (((B (32 * ((R 2) % 16) + ((y / 8) * 8) + (x / 8))) % 32) / 8))
  refine lv_istore (lv' := [(5, .int (nI (B (4 * ((R 3) % 128) + (((B (32 * ((R 2) % 16) + ((y / 8) * 8) + (x / 8))) % 32) / 8))))), (4, .int (nI (B (256 * ((R 4) % 2) + (8 * ((B (32 * ((R 2) % 16) + ((y / 8) * 8) + (x / 8))) % 32)) + (y % 8))))), (3, .int (nI ((B (32 * ((R 2) % 16) + ((y / 8) * 8) + (x / 8))) % 32))), (0, .ref (q 0)), (1, .int (nI x)), (2, .int (nI y))]) hx hb d_MO_tile_85 hl (by decide) rfl (fun ls hl => ?_)
  refine lv_aload_n hx hb d_MO_tile_87 rfl (lv_at hl 3 rfl) ?_
  refine lv_iload hx hb d_MO_tile_88 (lv_at hl 1 rfl) ?_
  refine lv_bipush (v := nI 7) hx hb d_MO_tile_90 (by decide +kernel) ?_
  refine lv_iload_n hx hb d_MO_tile_92 rfl (lv_at hl 4 rfl) ?_
  refine lv_bipush (v := nI 8) hx hb d_MO_tile_93 (by decide +kernel) ?_
  refine lv_irem hx hb d_MO_tile_95 (by first | decide +kernel | exact nI_ne0 (by omega) (by omega)) ?_
  refine ss_rt (y := nI (x % 8)) (pk_rem (by omega) (by omega) (by omega)) ?_
  refine lv_isub hx hb d_MO_tile_96 ?_
  refine ss_rt (y := nI (7 - (x % 8))) (pk_sub (by omega)) ?_
  refine kr_iV (As := [.int (nI (B (256 * ((R 4) % 2) + (8 * ((B (32 * ((R 2) % 16) + ((y / 8) * 8) + (x / 8))) % 32)) + (y % 8)))), .int (nI (7 - (x % 8)))]) (rest := []) ⟨hx, hb, hml, hown, hts⟩ (c_MO_bit l D k q cd wd se kd bn sh mb pr B R sx pt rd wt ln px (B (256 * ((R 4) % 2) + (8 * ((B (32 * ((R 2) % 16) + ((y / 8) * 8) + (x / 8))) % 32)) + (y % 8))) (7 - (x % 8)) (by omega) (by omega)) (cwV 2 hts (gV w_653 w_655 w_p20 w_5 w_656) rfl rfl rfl (by decide +kernel) ⟨Nat.le_of_ble_eq_true rfl, Nat.le_of_ble_eq_true rfl⟩) hK hP (va_recv hK hP (ci := 7) (q0 := 0) rfl rfl) rfl hl.1 rfl (Nat.le_of_ble_eq_true rfl) d_MO_tile_97 ⟨Nat.zero_le _, Nat.zero_le _⟩ ?_
  refine lv_if_eq (tgt := 111) hx hb d_MO_tile_100 (by decide) (fun c7 => ?_) (fun c7 => ?_)
  · have c7 := (bI_0).mp c7
    refine lv_iload hx hb d_MO_tile_111 (lv_at hl 0 rfl) ?_
    refine lv_bipush (v := nI 16) hx hb d_MO_tile_113 (by decide +kernel) ?_
    refine lv_irem hx hb d_MO_tile_115 (by first | decide +kernel | exact nI_ne0 (by omega) (by omega)) ?_
    refine ss_rt (y := nI ((B (4 * ((R 3) % 128) + (((B (32 * ((R 2) % 16) + ((y / 8) * 8) + (x / 8))) % 32) / 8))) % 16)) (pk_rem (by omega) (by omega) (by omega)) ?_
    exact ro_reti hx hb hr hlocks d_MO_tile_116 (by unfold dtl dnm; first | rw [if_pos (by assumption)] | rw [if_neg (by assumption)])
  · have c7 := mt (bI_0).mpr c7
    have c7 := Classical.not_not.mp c7
    refine lv_iload hx hb d_MO_tile_103 (lv_at hl 0 rfl) ?_
    refine lv_bipush (v := nI 16) hx hb d_MO_tile_105 (by decide +kernel) ?_
    refine lv_idiv hx hb d_MO_tile_107 (by first | decide +kernel | exact nI_ne0 (by omega) (by omega)) ?_
    refine ss_rt (y := nI ((B (4 * ((R 3) % 128) + (((B (32 * ((R 2) % 16) + ((y / 8) * 8) + (x / 8))) % 32) / 8))) / 16)) (pk_div (by omega) (by omega) (by omega)) ?_
    refine lv_goto (tgt := 116) hx hb d_MO_tile_108 (by decide) ?_
    exact ro_reti hx hb hr hlocks d_MO_tile_116 (by unfold dtl dnm; first | rw [if_pos (by assumption)] | rw [if_neg (by assumption)])
set_option maxHeartbeats 4000000 in
set_option maxRecDepth 100000 in
theorem c_MO_has (l : Launch) (D : va_G) (k : Nat → ClassId) (q : Nat → Nat) (cd : Int32) (wd : Nat → Nat) (se : Nat → Nat) (kd : Nat → Nat) (bn : Nat → Int32) (sh : Nat → Nat) (mb : Nat → Nat) (pr : Nat) (B : Nat → Nat) (R : Nat → Nat) (sx : Nat) (pt : Nat) (rd : Nat) (wt : Int32) (ln : Nat) (px : Nat → Nat) (hB : ∀ j, B j < 256) (hR : ∀ j, R j < 256) (z x : Nat) (hz : z < 8) (hx9 : x < 64) (hd : don B R ln z = true) : ro_i l y_MO_has b_MO_has 9 (some .boolean) { frames := 3, cells := 0, slots := 0, locals := 62 } D (kT k) (mW q k cd wd se kd bn sh mb pr B R sx pt rd wt ln px) [.ref (q 0), .int (nI z), .int (nI (drw B R ln z)), .int (nI x)] (bI (dhs B R ln z x = true)) := by
  refine ro_headi (by decide) (Nat.le_of_ble_eq_true rfl) ?_
  intro p e s m below meth c ls hx hb hr hlocks hml hown hts hP hK hl
  have hown : s.vm.findClass "SlotScreenModel" = some m.cls := hown
  have hl : lv_has ls 9 [(0, .ref (q 0)), (1, .int (nI z)), (2, .int (nI (drw B R ln z))), (3, .int (nI x))] := hl
  have z1 := dsz_le R
  have z2 := dtm_le R
  have z3 := (drw_lt hd).2
  have z4 := dsd_or R
  refine lv_aload_n hx hb d_MO_has_0 rfl (lv_at hl 0 rfl) ?_
  refine lv_iload_n hx hb d_MO_has_1 rfl (lv_at hl 1 rfl) ?_
  refine lv_iconst (v := nI 1) hx hb d_MO_has_2 (by decide +kernel) ?_
  have g1 := hB (32 * (R 5 % 16) + 4 * z + 1)
  have g2 : dsp B R z 1 < 256 := hB _
  refine kr_iV (As := [.int (nI z), .int (nI 1)]) (rest := []) ⟨hx, hb, hml, hown, hts⟩ (c_MO_sprite l D k q cd wd se kd bn sh mb pr B R sx pt rd wt ln px hB hR z 1 (by omega) (by omega)) (cwV 2 hts (gV w_661 w_663 w_p22 w_5 w_664) rfl rfl rfl (by decide +kernel) ⟨Nat.le_of_ble_eq_true rfl, Nat.le_of_ble_eq_true rfl⟩) hK hP (va_recv hK hP (ci := 7) (q0 := 0) rfl rfl) rfl hl.1 rfl (Nat.le_of_ble_eq_true rfl) d_MO_has_3 ⟨Nat.zero_le _, Nat.zero_le _⟩ ?_
  refine lv_aload_n hx hb d_MO_has_6 rfl (lv_at hl 0 rfl) ?_
  refine lv_iload_n hx hb d_MO_has_7 rfl (lv_at hl 1 rfl) ?_
  refine lv_iconst (v := nI 3) hx hb d_MO_has_8 (by decide +kernel) ?_
  have g3 := hB (32 * (R 5 % 16) + 4 * z + 3)
  have g4 : dsp B R z 3 < 256 := hB _
  refine kr_iV (As := [.int (nI z), .int (nI 3)]) (rest := [.int (nI (dsp B R z 1))]) ⟨hx, hb, hml, hown, hts⟩ (c_MO_sprite l D k q cd wd se kd bn sh mb pr B R sx pt rd wt ln px hB hR z 3 (by omega) (by omega)) (cwV 2 hts (gV w_661 w_663 w_p22 w_5 w_664) rfl rfl rfl (by decide +kernel) ⟨Nat.le_of_ble_eq_true rfl, Nat.le_of_ble_eq_true rfl⟩) hK hP (va_recv hK hP (ci := 7) (q0 := 0) rfl rfl) rfl hl.1 rfl (Nat.le_of_ble_eq_true rfl) d_MO_has_9 ⟨Nat.zero_le _, Nat.zero_le _⟩ ?_
  refine lv_bipush (v := nI 127) hx hb d_MO_has_12 (by decide +kernel) ?_
  refine lv_icmp_le (tgt := 22) hx hb d_MO_has_14 (by decide) (fun c5 => ?_) (fun c5 => ?_)
  · have c5 := (nI_leI (by omega) (by omega)).mp c5
    have hof : dof B R z = 0 := by unfold dof; rw [if_neg (by omega)]
    refine lv_iconst (v := nI 0) hx hb d_MO_has_22 (by decide +kernel) ?_
    refine lv_isub hx hb d_MO_has_23 ?_
    refine ss_rt (y := nI (dsp B R z 1)) (pk_sub (by omega)) ?_
    refine lv_istore (lv' := [(4, .int (nI (dsp B R z 1))), (0, .ref (q 0)), (1, .int (nI z)), (2, .int (nI (drw B R ln z))), (3, .int (nI x))]) hx hb d_MO_has_24 hl (by decide) rfl (fun ls hl => ?_)
    refine lv_iload_n hx hb d_MO_has_26 rfl (lv_at hl 4 rfl) ?_
    refine lv_iload hx hb d_MO_has_27 (lv_at hl 0 rfl) ?_
    refine lv_icmp_lt (tgt := 43) hx hb d_MO_has_29 (by decide) (fun c6 => ?_) (fun c6 => ?_)
    · have c6 := (nI_ltI (by omega) (by omega)).mp c6
      refine lv_iconst (v := nI 0) hx hb d_MO_has_43 (by decide +kernel) ?_
      exact ro_retz hx hb hr hlocks d_MO_has_44 (by decide +kernel) (bI_f (dhs_o (by omega)))
    · have c6 := mt (nI_ltI (by omega) (by omega)).mpr c6
      refine lv_iload_n hx hb d_MO_has_32 rfl (lv_at hl 4 rfl) ?_
      refine lv_iload hx hb d_MO_has_33 (lv_at hl 0 rfl) ?_
      refine lv_aload_n hx hb d_MO_has_35 rfl (lv_at hl 1 rfl) ?_
      refine kr_iV (As := []) (rest := [.int (nI (dsp B R z 1)), .int (nI x)]) ⟨hx, hb, hml, hown, hts⟩ (c_MO_size l D k q cd wd se kd bn sh mb pr B R sx pt rd wt ln px hB hR) (cwV 0 hts (gV w_673 w_675 w_p25 w_5 w_676) rfl rfl rfl (by decide +kernel) ⟨Nat.le_of_ble_eq_true rfl, Nat.le_of_ble_eq_true rfl⟩) hK hP (va_recv hK hP (ci := 7) (q0 := 0) rfl rfl) rfl hl.1 rfl (Nat.le_of_ble_eq_true rfl) d_MO_has_36 ⟨Nat.zero_le _, Nat.zero_le _⟩ ?_
      refine lv_iadd hx hb d_MO_has_39 ?_
      refine ss_rt (y := nI (dsp B R z 1 + (dsz R))) (nI_add _ _) ?_
      refine lv_icmp_lt (tgt := 45) hx hb d_MO_has_40 (by decide) (fun c7 => ?_) (fun c7 => ?_)
      · have c7 := (nI_ltI (by omega) (by omega)).mp c7
        refine lv_iload_n hx hb d_MO_has_45 rfl (lv_at hl 4 rfl) ?_
        refine lv_iload hx hb d_MO_has_46 (lv_at hl 0 rfl) ?_
        refine lv_isub hx hb d_MO_has_48 ?_
        refine ss_rt (y := nI (x - dsp B R z 1)) (pk_sub (by omega)) ?_
        refine lv_aload_n hx hb d_MO_has_49 rfl (lv_at hl 1 rfl) ?_
        refine kr_iV (As := []) (rest := [.int (nI (x - dsp B R z 1))]) ⟨hx, hb, hml, hown, hts⟩ (c_MO_times l D k q cd wd se kd bn sh mb pr B R sx pt rd wt ln px hB hR) (cwV 0 hts (gV w_677 w_679 w_p26 w_5 w_680) rfl rfl rfl (by decide +kernel) ⟨Nat.le_of_ble_eq_true rfl, Nat.le_of_ble_eq_true rfl⟩) hK hP (va_recv hK hP (ci := 7) (q0 := 0) rfl rfl) rfl hl.1 rfl (Nat.le_of_ble_eq_true rfl) d_MO_has_50 ⟨Nat.zero_le _, Nat.zero_le _⟩ ?_
        refine lv_idiv hx hb d_MO_has_53 (by first | decide +kernel | exact nI_ne0 (by omega) (by omega)) ?_
        refine ss_rt (y := nI ((x - dsp B R z 1) / (dtm R))) (pk_div (by omega) (by omega) (by omega)) ?_
        have g8 := Nat.div_le_self (x - dsp B R z 1) (dtm R)
        refine lv_istore (lv' := [(5, .int (nI ((x - dsp B R z 1) / (dtm R)))), (4, .int (nI (dsp B R z 1))), (0, .ref (q 0)), (1, .int (nI z)), (2, .int (nI (drw B R ln z))), (3, .int (nI x))]) hx hb d_MO_has_54 hl (by decide) rfl (fun ls hl => ?_)
        refine lv_aload_n hx hb d_MO_has_56 rfl (lv_at hl 2 rfl) ?_
        refine lv_iload_n hx hb d_MO_has_57 rfl (lv_at hl 3 rfl) ?_
        refine lv_iconst (v := nI 2) hx hb d_MO_has_58 (by decide +kernel) ?_
        have g9 := hB (32 * (R 5 % 16) + 4 * z + 2)
        have g10 : dsp B R z 2 < 256 := hB _
        refine kr_iV (As := [.int (nI z), .int (nI 2)]) (rest := []) ⟨hx, hb, hml, hown, hts⟩ (c_MO_sprite l D k q cd wd se kd bn sh mb pr B R sx pt rd wt ln px hB hR z 2 (by omega) (by omega)) (cwV 2 hts (gV w_661 w_663 w_p22 w_5 w_664) rfl rfl rfl (by decide +kernel) ⟨Nat.le_of_ble_eq_true rfl, Nat.le_of_ble_eq_true rfl⟩) hK hP (va_recv hK hP (ci := 7) (q0 := 0) rfl rfl) rfl hl.1 rfl (Nat.le_of_ble_eq_true rfl) d_MO_has_59 ⟨Nat.zero_le _, Nat.zero_le _⟩ ?_
        refine lv_bipush (v := nI 16) hx hb d_MO_has_62 (by decide +kernel) ?_
        refine lv_irem hx hb d_MO_has_64 (by first | decide +kernel | exact nI_ne0 (by omega) (by omega)) ?_
        refine ss_rt (y := nI ((dsp B R z 2) % 16)) (pk_rem (by omega) (by omega) (by omega)) ?_
        refine lv_istore (lv' := [(6, .int (nI ((dsp B R z 2) % 16))), (5, .int (nI ((x - dsp B R z 1) / (dtm R)))), (4, .int (nI (dsp B R z 1))), (0, .ref (q 0)), (1, .int (nI z)), (2, .int (nI (drw B R ln z))), (3, .int (nI x))]) hx hb d_MO_has_65 hl (by decide) rfl (fun ls hl => ?_)
        refine lv_sipush (v := nI 128) hx hb d_MO_has_67 (by decide +kernel) ?_
        refine lv_aload_n hx hb d_MO_has_70 rfl (lv_at hl 3 rfl) ?_
        refine va_get (D := D) (ci := 7) (v := .ref (q 8)) (C := R_MO) (T := T_MO) (N := 16) hx hb hts in_MO hown hK hP 0 rfl rfl 9 (by decide) (hts _ w_539) (fun _ h9 => h9) rfl d_MO_has_71 ?_
        refine lv_bipush (v := nI 6) hx hb d_MO_has_74 (by decide +kernel) ?_
        refine va_iald hx hb hK hP 8 0 rfl rfl (vp_in_nI (by omega) (by omega)) d_MO_has_76 ?_
        refine ss_rt (y := nI (R 6)) (congrArg (fun z => nI (R z)) (nI_clamp (by omega))) ?_
        have g11 := hR 6
        refine lv_iconst (v := nI 4) hx hb d_MO_has_77 (by decide +kernel) ?_
        refine lv_irem hx hb d_MO_has_78 (by first | decide +kernel | exact nI_ne0 (by omega) (by omega)) ?_
        refine ss_rt (y := nI ((R 6) % 4)) (pk_rem (by omega) (by omega) (by omega)) ?_
        refine lv_imul hx hb d_MO_has_79 ?_
        refine ss_rt (y := nI (128 * ((R 6) % 4))) (pk_mul _ _) ?_
        refine lv_istore (lv' := [(7, .int (nI (128 * ((R 6) % 4)))), (6, .int (nI ((dsp B R z 2) % 16))), (5, .int (nI ((x - dsp B R z 1) / (dtm R)))), (4, .int (nI (dsp B R z 1))), (0, .ref (q 0)), (1, .int (nI z)), (2, .int (nI (drw B R ln z))), (3, .int (nI x))]) hx hb d_MO_has_80 hl (by decide) rfl (fun ls hl => ?_)
        refine lv_aload_n hx hb d_MO_has_82 rfl (lv_at hl 4 rfl) ?_
        refine lv_aload_n hx hb d_MO_has_83 rfl (lv_at hl 4 rfl) ?_
        refine va_get (D := D) (ci := 7) (v := .ref (q 8)) (C := R_MO) (T := T_MO) (N := 16) hx hb hts in_MO hown hK hP 0 rfl rfl 9 (by decide) (hts _ w_539) (fun _ h9 => h9) rfl d_MO_has_84 ?_
        refine lv_iconst (v := nI 1) hx hb d_MO_has_87 (by decide +kernel) ?_
        refine va_iald hx hb hK hP 8 0 rfl rfl (vp_in_nI (by omega) (by omega)) d_MO_has_88 ?_
        refine ss_rt (y := nI (R 1)) (congrArg (fun z => nI (R z)) (nI_clamp (by omega))) ?_
        have g12 := hR 1
        refine lv_iconst (v := nI 1) hx hb d_MO_has_89 (by decide +kernel) ?_
        refine kr_iV (As := [.int (nI (R 1)), .int (nI 1)]) (rest := []) ⟨hx, hb, hml, hown, hts⟩ (c_MO_bit l D k q cd wd se kd bn sh mb pr B R sx pt rd wt ln px (R 1) 1 (by omega) (by omega)) (cwV 2 hts (gV w_653 w_655 w_p20 w_5 w_656) rfl rfl rfl (by decide +kernel) ⟨Nat.le_of_ble_eq_true rfl, Nat.le_of_ble_eq_true rfl⟩) hK hP (va_recv hK hP (ci := 7) (q0 := 0) rfl rfl) rfl hl.1 rfl (Nat.le_of_ble_eq_true rfl) d_MO_has_90 ⟨Nat.zero_le _, Nat.zero_le _⟩ ?_
        refine lv_if_eq (tgt := 127) hx hb d_MO_has_93 (by decide) (fun c13 => ?_) (fun c13 => ?_)
        · have c13 := (bI_0).mp c13
          have z5 : ¬ dsd R = 16 := by unfold dsd; rw [if_neg (by omega)]; omega
          refine lv_iload hx hb d_MO_has_127 (lv_at hl 0 rfl) ?_
          refine lv_bipush (v := nI 8) hx hb d_MO_has_129 (by decide +kernel) ?_
          refine lv_iload hx hb d_MO_has_131 (lv_at hl 1 rfl) ?_
          refine lv_imul hx hb d_MO_has_133 ?_
          refine ss_rt (y := nI (8 * ((dsp B R z 2) % 16))) (pk_mul _ _) ?_
          refine lv_iadd hx hb d_MO_has_134 ?_
          refine ss_rt (y := nI (128 * ((R 6) % 4) + (8 * ((dsp B R z 2) % 16)))) (nI_add _ _) ?_
          refine lv_iload_n hx hb d_MO_has_135 rfl (lv_at hl 6 rfl) ?_
          refine lv_iadd hx hb d_MO_has_136 ?_
          refine ss_rt (y := nI (128 * ((R 6) % 4) + (8 * ((dsp B R z 2) % 16)) + (drw B R ln z))) (nI_add _ _) ?_
          refine lv_istore (lv' := [(8, .int (nI (128 * ((R 6) % 4) + (8 * ((dsp B R z 2) % 16)) + (drw B R ln z)))), (7, .int (nI (128 * ((R 6) % 4)))), (6, .int (nI ((dsp B R z 2) % 16))), (5, .int (nI ((x - dsp B R z 1) / (dtm R)))), (4, .int (nI (dsp B R z 1))), (0, .ref (q 0)), (1, .int (nI z)), (2, .int (nI (drw B R ln z))), (3, .int (nI x))]) hx hb d_MO_has_137 hl (by decide) rfl (fun ls hl => ?_)
          refine lv_aload_n hx hb d_MO_has_139 rfl (lv_at hl 5 rfl) ?_
          refine lv_aload_n hx hb d_MO_has_140 rfl (lv_at hl 5 rfl) ?_
          refine va_get (D := D) (ci := 7) (v := .ref (q 7)) (C := R_MO) (T := T_MO) (N := 16) hx hb hts in_MO hown hK hP 0 rfl rfl 8 (by decide) (hts _ w_538) (fun _ h9 => h9) rfl d_MO_has_141 ?_
          refine lv_iload hx hb d_MO_has_144 (lv_at hl 0 rfl) ?_
          refine va_iald hx hb hK hP 7 0 rfl rfl (vp_in_nI (by omega) (by omega)) d_MO_has_146 ?_
          refine ss_rt (y := nI (B (128 * ((R 6) % 4) + (8 * ((dsp B R z 2) % 16)) + (drw B R ln z)))) (congrArg (fun z => nI (B z)) (nI_clamp (by omega))) ?_
          have g14 := hB (128 * ((R 6) % 4) + (8 * ((dsp B R z 2) % 16)) + (drw B R ln z))
          refine lv_bipush (v := nI 7) hx hb d_MO_has_147 (by decide +kernel) ?_
          refine lv_iload hx hb d_MO_has_149 (lv_at hl 3 rfl) ?_
          refine lv_bipush (v := nI 8) hx hb d_MO_has_151 (by decide +kernel) ?_
          refine lv_irem hx hb d_MO_has_153 (by first | decide +kernel | exact nI_ne0 (by omega) (by omega)) ?_
          refine ss_rt (y := nI (((x - dsp B R z 1) / (dtm R)) % 8)) (pk_rem (by omega) (by omega) (by omega)) ?_
          refine lv_isub hx hb d_MO_has_154 ?_
          refine ss_rt (y := nI (7 - (((x - dsp B R z 1) / (dtm R)) % 8))) (pk_sub (by omega)) ?_
          refine kr_iV (As := [.int (nI (B (128 * ((R 6) % 4) + (8 * ((dsp B R z 2) % 16)) + (drw B R ln z)))), .int (nI (7 - (((x - dsp B R z 1) / (dtm R)) % 8)))]) (rest := []) ⟨hx, hb, hml, hown, hts⟩ (c_MO_bit l D k q cd wd se kd bn sh mb pr B R sx pt rd wt ln px (B (128 * ((R 6) % 4) + (8 * ((dsp B R z 2) % 16)) + (drw B R ln z))) (7 - (((x - dsp B R z 1) / (dtm R)) % 8)) (by omega) (by omega)) (cwV 2 hts (gV w_653 w_655 w_p20 w_5 w_656) rfl rfl rfl (by decide +kernel) ⟨Nat.le_of_ble_eq_true rfl, Nat.le_of_ble_eq_true rfl⟩) hK hP (va_recv hK hP (ci := 7) (q0 := 0) rfl rfl) rfl hl.1 rfl (Nat.le_of_ble_eq_true rfl) d_MO_has_155 ⟨Nat.zero_le _, Nat.zero_le _⟩ ?_
          exact ro_retz hx hb hr hlocks d_MO_has_158 nb_bI (bI_c (by rw [dhs_i (by omega) (by omega)]; unfold dcc dat; rw [hof]; (try simp only [Nat.add_zero]); (first | rw [if_pos z5] | rw [if_neg z5]); all_goals (first | rw [if_pos (by omega)] | rw [if_neg (by omega)]); all_goals exact Iff.rfl))
        · have c13 := mt (bI_0).mpr c13
          have c13 := Classical.not_not.mp c13
          have z5 : dsd R = 16 := by unfold dsd; rw [if_pos (by omega)]
          refine lv_iload hx hb d_MO_has_96 (lv_at hl 0 rfl) ?_
          refine lv_bipush (v := nI 8) hx hb d_MO_has_98 (by decide +kernel) ?_
          refine lv_iload hx hb d_MO_has_100 (lv_at hl 1 rfl) ?_
          refine lv_iconst (v := nI 4) hx hb d_MO_has_102 (by decide +kernel) ?_
          refine lv_idiv hx hb d_MO_has_103 (by first | decide +kernel | exact nI_ne0 (by omega) (by omega)) ?_
          refine ss_rt (y := nI (((dsp B R z 2) % 16) / 4)) (pk_div (by omega) (by omega) (by omega)) ?_
          refine lv_iconst (v := nI 4) hx hb d_MO_has_104 (by decide +kernel) ?_
          refine lv_imul hx hb d_MO_has_105 ?_
          refine ss_rt (y := nI ((((dsp B R z 2) % 16) / 4) * 4)) (pk_mul _ _) ?_
          refine lv_imul hx hb d_MO_has_106 ?_
          refine ss_rt (y := nI (8 * ((((dsp B R z 2) % 16) / 4) * 4))) (pk_mul _ _) ?_
          refine lv_iadd hx hb d_MO_has_107 ?_
          refine ss_rt (y := nI (128 * ((R 6) % 4) + (8 * ((((dsp B R z 2) % 16) / 4) * 4)))) (nI_add _ _) ?_
          refine lv_iload_n hx hb d_MO_has_108 rfl (lv_at hl 6 rfl) ?_
          refine lv_iadd hx hb d_MO_has_109 ?_
          refine ss_rt (y := nI (128 * ((R 6) % 4) + (8 * ((((dsp B R z 2) % 16) / 4) * 4)) + (drw B R ln z))) (nI_add _ _) ?_
          refine lv_iload hx hb d_MO_has_110 (lv_at hl 2 rfl) ?_
          refine lv_bipush (v := nI 7) hx hb d_MO_has_112 (by decide +kernel) ?_
          refine lv_icmp_le (tgt := 122) hx hb d_MO_has_114 (by decide) (fun c15 => ?_) (fun c15 => ?_)
          · have c15 := (nI_leI (by omega) (by omega)).mp c15
            refine lv_iconst (v := nI 0) hx hb d_MO_has_122 (by decide +kernel) ?_
            refine lv_iadd hx hb d_MO_has_123 ?_
            refine ss_rt (y := nI (128 * ((R 6) % 4) + (8 * ((((dsp B R z 2) % 16) / 4) * 4)) + (drw B R ln z) + 0)) (nI_add _ _) ?_
            refine lv_goto (tgt := 137) hx hb d_MO_has_124 (by decide) ?_
            refine lv_istore (lv' := [(8, .int (nI (128 * ((R 6) % 4) + (8 * ((((dsp B R z 2) % 16) / 4) * 4)) + (drw B R ln z) + 0))), (7, .int (nI (128 * ((R 6) % 4)))), (6, .int (nI ((dsp B R z 2) % 16))), (5, .int (nI ((x - dsp B R z 1) / (dtm R)))), (4, .int (nI (dsp B R z 1))), (0, .ref (q 0)), (1, .int (nI z)), (2, .int (nI (drw B R ln z))), (3, .int (nI x))]) hx hb d_MO_has_137 hl (by decide) rfl (fun ls hl => ?_)
            refine lv_aload_n hx hb d_MO_has_139 rfl (lv_at hl 5 rfl) ?_
            refine lv_aload_n hx hb d_MO_has_140 rfl (lv_at hl 5 rfl) ?_
            refine va_get (D := D) (ci := 7) (v := .ref (q 7)) (C := R_MO) (T := T_MO) (N := 16) hx hb hts in_MO hown hK hP 0 rfl rfl 8 (by decide) (hts _ w_538) (fun _ h9 => h9) rfl d_MO_has_141 ?_
            refine lv_iload hx hb d_MO_has_144 (lv_at hl 0 rfl) ?_
            refine va_iald hx hb hK hP 7 0 rfl rfl (vp_in_nI (by omega) (by omega)) d_MO_has_146 ?_
            refine ss_rt (y := nI (B (128 * ((R 6) % 4) + (8 * ((((dsp B R z 2) % 16) / 4) * 4)) + (drw B R ln z) + 0))) (congrArg (fun z => nI (B z)) (nI_clamp (by omega))) ?_
            have g16 := hB (128 * ((R 6) % 4) + (8 * ((((dsp B R z 2) % 16) / 4) * 4)) + (drw B R ln z) + 0)
            refine lv_bipush (v := nI 7) hx hb d_MO_has_147 (by decide +kernel) ?_
            refine lv_iload hx hb d_MO_has_149 (lv_at hl 3 rfl) ?_
            refine lv_bipush (v := nI 8) hx hb d_MO_has_151 (by decide +kernel) ?_
            refine lv_irem hx hb d_MO_has_153 (by first | decide +kernel | exact nI_ne0 (by omega) (by omega)) ?_
            refine ss_rt (y := nI (((x - dsp B R z 1) / (dtm R)) % 8)) (pk_rem (by omega) (by omega) (by omega)) ?_
            refine lv_isub hx hb d_MO_has_154 ?_
            refine ss_rt (y := nI (7 - (((x - dsp B R z 1) / (dtm R)) % 8))) (pk_sub (by omega)) ?_
            refine kr_iV (As := [.int (nI (B (128 * ((R 6) % 4) + (8 * ((((dsp B R z 2) % 16) / 4) * 4)) + (drw B R ln z) + 0))), .int (nI (7 - (((x - dsp B R z 1) / (dtm R)) % 8)))]) (rest := []) ⟨hx, hb, hml, hown, hts⟩ (c_MO_bit l D k q cd wd se kd bn sh mb pr B R sx pt rd wt ln px (B (128 * ((R 6) % 4) + (8 * ((((dsp B R z 2) % 16) / 4) * 4)) + (drw B R ln z) + 0)) (7 - (((x - dsp B R z 1) / (dtm R)) % 8)) (by omega) (by omega)) (cwV 2 hts (gV w_653 w_655 w_p20 w_5 w_656) rfl rfl rfl (by decide +kernel) ⟨Nat.le_of_ble_eq_true rfl, Nat.le_of_ble_eq_true rfl⟩) hK hP (va_recv hK hP (ci := 7) (q0 := 0) rfl rfl) rfl hl.1 rfl (Nat.le_of_ble_eq_true rfl) d_MO_has_155 ⟨Nat.zero_le _, Nat.zero_le _⟩ ?_
            exact ro_retz hx hb hr hlocks d_MO_has_158 nb_bI (bI_c (by rw [dhs_i (by omega) (by omega)]; unfold dcc dat; rw [hof]; (try simp only [Nat.add_zero]); (first | rw [if_pos z5] | rw [if_neg z5]); all_goals (first | rw [if_pos (by omega)] | rw [if_neg (by omega)]); all_goals exact Iff.rfl))
          · have c15 := mt (nI_leI (by omega) (by omega)).mpr c15
            refine lv_bipush (v := nI 16) hx hb d_MO_has_117 (by decide +kernel) ?_
            refine lv_goto (tgt := 123) hx hb d_MO_has_119 (by decide) ?_
            refine lv_iadd hx hb d_MO_has_123 ?_
            refine ss_rt (y := nI (128 * ((R 6) % 4) + (8 * ((((dsp B R z 2) % 16) / 4) * 4)) + (drw B R ln z) + 16)) (nI_add _ _) ?_
            refine lv_goto (tgt := 137) hx hb d_MO_has_124 (by decide) ?_
            refine lv_istore (lv' := [(8, .int (nI (128 * ((R 6) % 4) + (8 * ((((dsp B R z 2) % 16) / 4) * 4)) + (drw B R ln z) + 16))), (7, .int (nI (128 * ((R 6) % 4)))), (6, .int (nI ((dsp B R z 2) % 16))), (5, .int (nI ((x - dsp B R z 1) / (dtm R)))), (4, .int (nI (dsp B R z 1))), (0, .ref (q 0)), (1, .int (nI z)), (2, .int (nI (drw B R ln z))), (3, .int (nI x))]) hx hb d_MO_has_137 hl (by decide) rfl (fun ls hl => ?_)
            refine lv_aload_n hx hb d_MO_has_139 rfl (lv_at hl 5 rfl) ?_
            refine lv_aload_n hx hb d_MO_has_140 rfl (lv_at hl 5 rfl) ?_
            refine va_get (D := D) (ci := 7) (v := .ref (q 7)) (C := R_MO) (T := T_MO) (N := 16) hx hb hts in_MO hown hK hP 0 rfl rfl 8 (by decide) (hts _ w_538) (fun _ h9 => h9) rfl d_MO_has_141 ?_
            refine lv_iload hx hb d_MO_has_144 (lv_at hl 0 rfl) ?_
            refine va_iald hx hb hK hP 7 0 rfl rfl (vp_in_nI (by omega) (by omega)) d_MO_has_146 ?_
            refine ss_rt (y := nI (B (128 * ((R 6) % 4) + (8 * ((((dsp B R z 2) % 16) / 4) * 4)) + (drw B R ln z) + 16))) (congrArg (fun z => nI (B z)) (nI_clamp (by omega))) ?_
            have g17 := hB (128 * ((R 6) % 4) + (8 * ((((dsp B R z 2) % 16) / 4) * 4)) + (drw B R ln z) + 16)
            refine lv_bipush (v := nI 7) hx hb d_MO_has_147 (by decide +kernel) ?_
            refine lv_iload hx hb d_MO_has_149 (lv_at hl 3 rfl) ?_
            refine lv_bipush (v := nI 8) hx hb d_MO_has_151 (by decide +kernel) ?_
            refine lv_irem hx hb d_MO_has_153 (by first | decide +kernel | exact nI_ne0 (by omega) (by omega)) ?_
            refine ss_rt (y := nI (((x - dsp B R z 1) / (dtm R)) % 8)) (pk_rem (by omega) (by omega) (by omega)) ?_
            refine lv_isub hx hb d_MO_has_154 ?_
            refine ss_rt (y := nI (7 - (((x - dsp B R z 1) / (dtm R)) % 8))) (pk_sub (by omega)) ?_
            refine kr_iV (As := [.int (nI (B (128 * ((R 6) % 4) + (8 * ((((dsp B R z 2) % 16) / 4) * 4)) + (drw B R ln z) + 16))), .int (nI (7 - (((x - dsp B R z 1) / (dtm R)) % 8)))]) (rest := []) ⟨hx, hb, hml, hown, hts⟩ (c_MO_bit l D k q cd wd se kd bn sh mb pr B R sx pt rd wt ln px (B (128 * ((R 6) % 4) + (8 * ((((dsp B R z 2) % 16) / 4) * 4)) + (drw B R ln z) + 16)) (7 - (((x - dsp B R z 1) / (dtm R)) % 8)) (by omega) (by omega)) (cwV 2 hts (gV w_653 w_655 w_p20 w_5 w_656) rfl rfl rfl (by decide +kernel) ⟨Nat.le_of_ble_eq_true rfl, Nat.le_of_ble_eq_true rfl⟩) hK hP (va_recv hK hP (ci := 7) (q0 := 0) rfl rfl) rfl hl.1 rfl (Nat.le_of_ble_eq_true rfl) d_MO_has_155 ⟨Nat.zero_le _, Nat.zero_le _⟩ ?_
            exact ro_retz hx hb hr hlocks d_MO_has_158 nb_bI (bI_c (by rw [dhs_i (by omega) (by omega)]; unfold dcc dat; rw [hof]; (try simp only [Nat.add_zero]); (first | rw [if_pos z5] | rw [if_neg z5]); all_goals (first | rw [if_pos (by omega)] | rw [if_neg (by omega)]); all_goals exact Iff.rfl))
      · have c7 := mt (nI_ltI (by omega) (by omega)).mpr c7
        refine lv_iconst (v := nI 0) hx hb d_MO_has_43 (by decide +kernel) ?_
        exact ro_retz hx hb hr hlocks d_MO_has_44 (by decide +kernel) (bI_f (dhs_o (by omega)))
  · have c5 := mt (nI_leI (by omega) (by omega)).mpr c5
    have hof : dof B R z = 32 := by unfold dof; rw [if_pos (by omega)]
    refine lv_bipush (v := nI 32) hx hb d_MO_has_17 (by decide +kernel) ?_
    refine lv_goto (tgt := 23) hx hb d_MO_has_19 (by decide) ?_
    refine lv_isub hx hb d_MO_has_23 ?_
    refine ss_rt (y := iI ((dsp B R z 1 : Nat) - (32 : Nat) : Int)) (iI_nn _ _) ?_
    refine lv_istore (lv' := [(4, .int (iI ((dsp B R z 1 : Nat) - (32 : Nat) : Int))), (0, .ref (q 0)), (1, .int (nI z)), (2, .int (nI (drw B R ln z))), (3, .int (nI x))]) hx hb d_MO_has_24 hl (by decide) rfl (fun ls hl => ?_)
    refine lv_iload_n hx hb d_MO_has_26 rfl (lv_at hl 4 rfl) ?_
    refine lv_iload hx hb d_MO_has_27 (lv_at hl 0 rfl) ?_
    refine lv_icmp_lt (tgt := 43) hx hb d_MO_has_29 (by decide) (fun c18 => ?_) (fun c18 => ?_)
    · have c18 := (nz_lt (by omega)).mp c18
      rw [iI_t (by omega) (by omega)] at c18
      refine lv_iconst (v := nI 0) hx hb d_MO_has_43 (by decide +kernel) ?_
      exact ro_retz hx hb hr hlocks d_MO_has_44 (by decide +kernel) (bI_f (dhs_o (by omega)))
    · have c18 := mt (nz_lt (by omega)).mpr c18
      rw [iI_t (by omega) (by omega)] at c18
      refine lv_iload_n hx hb d_MO_has_32 rfl (lv_at hl 4 rfl) ?_
      refine lv_iload hx hb d_MO_has_33 (lv_at hl 0 rfl) ?_
      refine lv_aload_n hx hb d_MO_has_35 rfl (lv_at hl 1 rfl) ?_
      refine kr_iV (As := []) (rest := [.int (iI ((dsp B R z 1 : Nat) - (32 : Nat) : Int)), .int (nI x)]) ⟨hx, hb, hml, hown, hts⟩ (c_MO_size l D k q cd wd se kd bn sh mb pr B R sx pt rd wt ln px hB hR) (cwV 0 hts (gV w_673 w_675 w_p25 w_5 w_676) rfl rfl rfl (by decide +kernel) ⟨Nat.le_of_ble_eq_true rfl, Nat.le_of_ble_eq_true rfl⟩) hK hP (va_recv hK hP (ci := 7) (q0 := 0) rfl rfl) rfl hl.1 rfl (Nat.le_of_ble_eq_true rfl) d_MO_has_36 ⟨Nat.zero_le _, Nat.zero_le _⟩ ?_
      refine lv_iadd hx hb d_MO_has_39 ?_
      refine ss_rt (y := iI (((dsp B R z 1 : Nat) - (32 : Nat) : Int) + (dsz R : Nat))) (iI_an _ _) ?_
      refine lv_icmp_lt (tgt := 45) hx hb d_MO_has_40 (by decide) (fun c19 => ?_) (fun c19 => ?_)
      · have c19 := (nz_lt (by omega)).mp c19
        rw [iI_t (by omega) (by omega)] at c19
        refine lv_iload_n hx hb d_MO_has_45 rfl (lv_at hl 4 rfl) ?_
        refine lv_iload hx hb d_MO_has_46 (lv_at hl 0 rfl) ?_
        refine lv_isub hx hb d_MO_has_48 ?_
        refine ss_rt (y := nI (x + 32 - dsp B R z 1)) ((iI_sn _ _).trans (iI_n (by omega))) ?_
        refine lv_aload_n hx hb d_MO_has_49 rfl (lv_at hl 1 rfl) ?_
        refine kr_iV (As := []) (rest := [.int (nI (x + 32 - dsp B R z 1))]) ⟨hx, hb, hml, hown, hts⟩ (c_MO_times l D k q cd wd se kd bn sh mb pr B R sx pt rd wt ln px hB hR) (cwV 0 hts (gV w_677 w_679 w_p26 w_5 w_680) rfl rfl rfl (by decide +kernel) ⟨Nat.le_of_ble_eq_true rfl, Nat.le_of_ble_eq_true rfl⟩) hK hP (va_recv hK hP (ci := 7) (q0 := 0) rfl rfl) rfl hl.1 rfl (Nat.le_of_ble_eq_true rfl) d_MO_has_50 ⟨Nat.zero_le _, Nat.zero_le _⟩ ?_
        refine lv_idiv hx hb d_MO_has_53 (by first | decide +kernel | exact nI_ne0 (by omega) (by omega)) ?_
        refine ss_rt (y := nI ((x + 32 - dsp B R z 1) / (dtm R))) (pk_div (by omega) (by omega) (by omega)) ?_
        have g20 := Nat.div_le_self (x + 32 - dsp B R z 1) (dtm R)
        refine lv_istore (lv' := [(5, .int (nI ((x + 32 - dsp B R z 1) / (dtm R)))), (4, .int (iI ((dsp B R z 1 : Nat) - (32 : Nat) : Int))), (0, .ref (q 0)), (1, .int (nI z)), (2, .int (nI (drw B R ln z))), (3, .int (nI x))]) hx hb d_MO_has_54 hl (by decide) rfl (fun ls hl => ?_)
        refine lv_aload_n hx hb d_MO_has_56 rfl (lv_at hl 2 rfl) ?_
        refine lv_iload_n hx hb d_MO_has_57 rfl (lv_at hl 3 rfl) ?_
        refine lv_iconst (v := nI 2) hx hb d_MO_has_58 (by decide +kernel) ?_
        have g21 := hB (32 * (R 5 % 16) + 4 * z + 2)
        have g22 : dsp B R z 2 < 256 := hB _
        refine kr_iV (As := [.int (nI z), .int (nI 2)]) (rest := []) ⟨hx, hb, hml, hown, hts⟩ (c_MO_sprite l D k q cd wd se kd bn sh mb pr B R sx pt rd wt ln px hB hR z 2 (by omega) (by omega)) (cwV 2 hts (gV w_661 w_663 w_p22 w_5 w_664) rfl rfl rfl (by decide +kernel) ⟨Nat.le_of_ble_eq_true rfl, Nat.le_of_ble_eq_true rfl⟩) hK hP (va_recv hK hP (ci := 7) (q0 := 0) rfl rfl) rfl hl.1 rfl (Nat.le_of_ble_eq_true rfl) d_MO_has_59 ⟨Nat.zero_le _, Nat.zero_le _⟩ ?_
        refine lv_bipush (v := nI 16) hx hb d_MO_has_62 (by decide +kernel) ?_
        refine lv_irem hx hb d_MO_has_64 (by first | decide +kernel | exact nI_ne0 (by omega) (by omega)) ?_
        refine ss_rt (y := nI ((dsp B R z 2) % 16)) (pk_rem (by omega) (by omega) (by omega)) ?_
        refine lv_istore (lv' := [(6, .int (nI ((dsp B R z 2) % 16))), (5, .int (nI ((x + 32 - dsp B R z 1) / (dtm R)))), (4, .int (iI ((dsp B R z 1 : Nat) - (32 : Nat) : Int))), (0, .ref (q 0)), (1, .int (nI z)), (2, .int (nI (drw B R ln z))), (3, .int (nI x))]) hx hb d_MO_has_65 hl (by decide) rfl (fun ls hl => ?_)
        refine lv_sipush (v := nI 128) hx hb d_MO_has_67 (by decide +kernel) ?_
        refine lv_aload_n hx hb d_MO_has_70 rfl (lv_at hl 3 rfl) ?_
        refine va_get (D := D) (ci := 7) (v := .ref (q 8)) (C := R_MO) (T := T_MO) (N := 16) hx hb hts in_MO hown hK hP 0 rfl rfl 9 (by decide) (hts _ w_539) (fun _ h9 => h9) rfl d_MO_has_71 ?_
        refine lv_bipush (v := nI 6) hx hb d_MO_has_74 (by decide +kernel) ?_
        refine va_iald hx hb hK hP 8 0 rfl rfl (vp_in_nI (by omega) (by omega)) d_MO_has_76 ?_
        refine ss_rt (y := nI (R 6)) (congrArg (fun z => nI (R z)) (nI_clamp (by omega))) ?_
        have g23 := hR 6
        refine lv_iconst (v := nI 4) hx hb d_MO_has_77 (by decide +kernel) ?_
        refine lv_irem hx hb d_MO_has_78 (by first | decide +kernel | exact nI_ne0 (by omega) (by omega)) ?_
        refine ss_rt (y := nI ((R 6) % 4)) (pk_rem (by omega) (by omega) (by omega)) ?_
        refine lv_imul hx hb d_MO_has_79 ?_
        refine ss_rt (y := nI (128 * ((R 6) % 4))) (pk_mul _ _) ?_
        refine lv_istore (lv' := [(7, .int (nI (128 * ((R 6) % 4)))), (6, .int (nI ((dsp B R z 2) % 16))), (5, .int (nI ((x + 32 - dsp B R z 1) / (dtm R)))), (4, .int (iI ((dsp B R z 1 : Nat) - (32 : Nat) : Int))), (0, .ref (q 0)), (1, .int (nI z)), (2, .int (nI (drw B R ln z))), (3, .int (nI x))]) hx hb d_MO_has_80 hl (by decide) rfl (fun ls hl => ?_)
        refine lv_aload_n hx hb d_MO_has_82 rfl (lv_at hl 4 rfl) ?_
        refine lv_aload_n hx hb d_MO_has_83 rfl (lv_at hl 4 rfl) ?_
        refine va_get (D := D) (ci := 7) (v := .ref (q 8)) (C := R_MO) (T := T_MO) (N := 16) hx hb hts in_MO hown hK hP 0 rfl rfl 9 (by decide) (hts _ w_539) (fun _ h9 => h9) rfl d_MO_has_84 ?_
        refine lv_iconst (v := nI 1) hx hb d_MO_has_87 (by decide +kernel) ?_
        refine va_iald hx hb hK hP 8 0 rfl rfl (vp_in_nI (by omega) (by omega)) d_MO_has_88 ?_
        refine ss_rt (y := nI (R 1)) (congrArg (fun z => nI (R z)) (nI_clamp (by omega))) ?_
        have g24 := hR 1
        refine lv_iconst (v := nI 1) hx hb d_MO_has_89 (by decide +kernel) ?_
        refine kr_iV (As := [.int (nI (R 1)), .int (nI 1)]) (rest := []) ⟨hx, hb, hml, hown, hts⟩ (c_MO_bit l D k q cd wd se kd bn sh mb pr B R sx pt rd wt ln px (R 1) 1 (by omega) (by omega)) (cwV 2 hts (gV w_653 w_655 w_p20 w_5 w_656) rfl rfl rfl (by decide +kernel) ⟨Nat.le_of_ble_eq_true rfl, Nat.le_of_ble_eq_true rfl⟩) hK hP (va_recv hK hP (ci := 7) (q0 := 0) rfl rfl) rfl hl.1 rfl (Nat.le_of_ble_eq_true rfl) d_MO_has_90 ⟨Nat.zero_le _, Nat.zero_le _⟩ ?_
        refine lv_if_eq (tgt := 127) hx hb d_MO_has_93 (by decide) (fun c25 => ?_) (fun c25 => ?_)
        · have c25 := (bI_0).mp c25
          have z5 : ¬ dsd R = 16 := by unfold dsd; rw [if_neg (by omega)]; omega
          refine lv_iload hx hb d_MO_has_127 (lv_at hl 0 rfl) ?_
          refine lv_bipush (v := nI 8) hx hb d_MO_has_129 (by decide +kernel) ?_
          refine lv_iload hx hb d_MO_has_131 (lv_at hl 1 rfl) ?_
          refine lv_imul hx hb d_MO_has_133 ?_
          refine ss_rt (y := nI (8 * ((dsp B R z 2) % 16))) (pk_mul _ _) ?_
          refine lv_iadd hx hb d_MO_has_134 ?_
          refine ss_rt (y := nI (128 * ((R 6) % 4) + (8 * ((dsp B R z 2) % 16)))) (nI_add _ _) ?_
          refine lv_iload_n hx hb d_MO_has_135 rfl (lv_at hl 6 rfl) ?_
          refine lv_iadd hx hb d_MO_has_136 ?_
          refine ss_rt (y := nI (128 * ((R 6) % 4) + (8 * ((dsp B R z 2) % 16)) + (drw B R ln z))) (nI_add _ _) ?_
          refine lv_istore (lv' := [(8, .int (nI (128 * ((R 6) % 4) + (8 * ((dsp B R z 2) % 16)) + (drw B R ln z)))), (7, .int (nI (128 * ((R 6) % 4)))), (6, .int (nI ((dsp B R z 2) % 16))), (5, .int (nI ((x + 32 - dsp B R z 1) / (dtm R)))), (4, .int (iI ((dsp B R z 1 : Nat) - (32 : Nat) : Int))), (0, .ref (q 0)), (1, .int (nI z)), (2, .int (nI (drw B R ln z))), (3, .int (nI x))]) hx hb d_MO_has_137 hl (by decide) rfl (fun ls hl => ?_)
          refine lv_aload_n hx hb d_MO_has_139 rfl (lv_at hl 5 rfl) ?_
          refine lv_aload_n hx hb d_MO_has_140 rfl (lv_at hl 5 rfl) ?_
          refine va_get (D := D) (ci := 7) (v := .ref (q 7)) (C := R_MO) (T := T_MO) (N := 16) hx hb hts in_MO hown hK hP 0 rfl rfl 8 (by decide) (hts _ w_538) (fun _ h9 => h9) rfl d_MO_has_141 ?_
          refine lv_iload hx hb d_MO_has_144 (lv_at hl 0 rfl) ?_
          refine va_iald hx hb hK hP 7 0 rfl rfl (vp_in_nI (by omega) (by omega)) d_MO_has_146 ?_
          refine ss_rt (y := nI (B (128 * ((R 6) % 4) + (8 * ((dsp B R z 2) % 16)) + (drw B R ln z)))) (congrArg (fun z => nI (B z)) (nI_clamp (by omega))) ?_
          have g26 := hB (128 * ((R 6) % 4) + (8 * ((dsp B R z 2) % 16)) + (drw B R ln z))
          refine lv_bipush (v := nI 7) hx hb d_MO_has_147 (by decide +kernel) ?_
          refine lv_iload hx hb d_MO_has_149 (lv_at hl 3 rfl) ?_
          refine lv_bipush (v := nI 8) hx hb d_MO_has_151 (by decide +kernel) ?_
          refine lv_irem hx hb d_MO_has_153 (by first | decide +kernel | exact nI_ne0 (by omega) (by omega)) ?_
          refine ss_rt (y := nI (((x + 32 - dsp B R z 1) / (dtm R)) % 8)) (pk_rem (by omega) (by omega) (by omega)) ?_
          refine lv_isub hx hb d_MO_has_154 ?_
          refine ss_rt (y := nI (7 - (((x + 32 - dsp B R z 1) / (dtm R)) % 8))) (pk_sub (by omega)) ?_
          refine kr_iV (As := [.int (nI (B (128 * ((R 6) % 4) + (8 * ((dsp B R z 2) % 16)) + (drw B R ln z)))), .int (nI (7 - (((x + 32 - dsp B R z 1) / (dtm R)) % 8)))]) (rest := []) ⟨hx, hb, hml, hown, hts⟩ (c_MO_bit l D k q cd wd se kd bn sh mb pr B R sx pt rd wt ln px (B (128 * ((R 6) % 4) + (8 * ((dsp B R z 2) % 16)) + (drw B R ln z))) (7 - (((x + 32 - dsp B R z 1) / (dtm R)) % 8)) (by omega) (by omega)) (cwV 2 hts (gV w_653 w_655 w_p20 w_5 w_656) rfl rfl rfl (by decide +kernel) ⟨Nat.le_of_ble_eq_true rfl, Nat.le_of_ble_eq_true rfl⟩) hK hP (va_recv hK hP (ci := 7) (q0 := 0) rfl rfl) rfl hl.1 rfl (Nat.le_of_ble_eq_true rfl) d_MO_has_155 ⟨Nat.zero_le _, Nat.zero_le _⟩ ?_
          exact ro_retz hx hb hr hlocks d_MO_has_158 nb_bI (bI_c (by rw [dhs_i (by omega) (by omega)]; unfold dcc dat; rw [hof]; (try simp only [Nat.add_zero]); (first | rw [if_pos z5] | rw [if_neg z5]); all_goals (first | rw [if_pos (by omega)] | rw [if_neg (by omega)]); all_goals exact Iff.rfl))
        · have c25 := mt (bI_0).mpr c25
          have c25 := Classical.not_not.mp c25
          have z5 : dsd R = 16 := by unfold dsd; rw [if_pos (by omega)]
          refine lv_iload hx hb d_MO_has_96 (lv_at hl 0 rfl) ?_
          refine lv_bipush (v := nI 8) hx hb d_MO_has_98 (by decide +kernel) ?_
          refine lv_iload hx hb d_MO_has_100 (lv_at hl 1 rfl) ?_
          refine lv_iconst (v := nI 4) hx hb d_MO_has_102 (by decide +kernel) ?_
          refine lv_idiv hx hb d_MO_has_103 (by first | decide +kernel | exact nI_ne0 (by omega) (by omega)) ?_
          refine ss_rt (y := nI (((dsp B R z 2) % 16) / 4)) (pk_div (by omega) (by omega) (by omega)) ?_
          refine lv_iconst (v := nI 4) hx hb d_MO_has_104 (by decide +kernel) ?_
          refine lv_imul hx hb d_MO_has_105 ?_
          refine ss_rt (y := nI ((((dsp B R z 2) % 16) / 4) * 4)) (pk_mul _ _) ?_
          refine lv_imul hx hb d_MO_has_106 ?_
          refine ss_rt (y := nI (8 * ((((dsp B R z 2) % 16) / 4) * 4))) (pk_mul _ _) ?_
          refine lv_iadd hx hb d_MO_has_107 ?_
          refine ss_rt (y := nI (128 * ((R 6) % 4) + (8 * ((((dsp B R z 2) % 16) / 4) * 4)))) (nI_add _ _) ?_
          refine lv_iload_n hx hb d_MO_has_108 rfl (lv_at hl 6 rfl) ?_
          refine lv_iadd hx hb d_MO_has_109 ?_
          refine ss_rt (y := nI (128 * ((R 6) % 4) + (8 * ((((dsp B R z 2) % 16) / 4) * 4)) + (drw B R ln z))) (nI_add _ _) ?_
          refine lv_iload hx hb d_MO_has_110 (lv_at hl 2 rfl) ?_
          refine lv_bipush (v := nI 7) hx hb d_MO_has_112 (by decide +kernel) ?_
          refine lv_icmp_le (tgt := 122) hx hb d_MO_has_114 (by decide) (fun c27 => ?_) (fun c27 => ?_)
          · have c27 := (nI_leI (by omega) (by omega)).mp c27
            refine lv_iconst (v := nI 0) hx hb d_MO_has_122 (by decide +kernel) ?_
            refine lv_iadd hx hb d_MO_has_123 ?_
            refine ss_rt (y := nI (128 * ((R 6) % 4) + (8 * ((((dsp B R z 2) % 16) / 4) * 4)) + (drw B R ln z) + 0)) (nI_add _ _) ?_
            refine lv_goto (tgt := 137) hx hb d_MO_has_124 (by decide) ?_
            refine lv_istore (lv' := [(8, .int (nI (128 * ((R 6) % 4) + (8 * ((((dsp B R z 2) % 16) / 4) * 4)) + (drw B R ln z) + 0))), (7, .int (nI (128 * ((R 6) % 4)))), (6, .int (nI ((dsp B R z 2) % 16))), (5, .int (nI ((x + 32 - dsp B R z 1) / (dtm R)))), (4, .int (iI ((dsp B R z 1 : Nat) - (32 : Nat) : Int))), (0, .ref (q 0)), (1, .int (nI z)), (2, .int (nI (drw B R ln z))), (3, .int (nI x))]) hx hb d_MO_has_137 hl (by decide) rfl (fun ls hl => ?_)
            refine lv_aload_n hx hb d_MO_has_139 rfl (lv_at hl 5 rfl) ?_
            refine lv_aload_n hx hb d_MO_has_140 rfl (lv_at hl 5 rfl) ?_
            refine va_get (D := D) (ci := 7) (v := .ref (q 7)) (C := R_MO) (T := T_MO) (N := 16) hx hb hts in_MO hown hK hP 0 rfl rfl 8 (by decide) (hts _ w_538) (fun _ h9 => h9) rfl d_MO_has_141 ?_
            refine lv_iload hx hb d_MO_has_144 (lv_at hl 0 rfl) ?_
            refine va_iald hx hb hK hP 7 0 rfl rfl (vp_in_nI (by omega) (by omega)) d_MO_has_146 ?_
            refine ss_rt (y := nI (B (128 * ((R 6) % 4) + (8 * ((((dsp B R z 2) % 16) / 4) * 4)) + (drw B R ln z) + 0))) (congrArg (fun z => nI (B z)) (nI_clamp (by omega))) ?_
            have g28 := hB (128 * ((R 6) % 4) + (8 * ((((dsp B R z 2) % 16) / 4) * 4)) + (drw B R ln z) + 0)
            refine lv_bipush (v := nI 7) hx hb d_MO_has_147 (by decide +kernel) ?_
            refine lv_iload hx hb d_MO_has_149 (lv_at hl 3 rfl) ?_
            refine lv_bipush (v := nI 8) hx hb d_MO_has_151 (by decide +kernel) ?_
            refine lv_irem hx hb d_MO_has_153 (by first | decide +kernel | exact nI_ne0 (by omega) (by omega)) ?_
            refine ss_rt (y := nI (((x + 32 - dsp B R z 1) / (dtm R)) % 8)) (pk_rem (by omega) (by omega) (by omega)) ?_
            refine lv_isub hx hb d_MO_has_154 ?_
            refine ss_rt (y := nI (7 - (((x + 32 - dsp B R z 1) / (dtm R)) % 8))) (pk_sub (by omega)) ?_
            refine kr_iV (As := [.int (nI (B (128 * ((R 6) % 4) + (8 * ((((dsp B R z 2) % 16) / 4) * 4)) + (drw B R ln z) + 0))), .int (nI (7 - (((x + 32 - dsp B R z 1) / (dtm R)) % 8)))]) (rest := []) ⟨hx, hb, hml, hown, hts⟩ (c_MO_bit l D k q cd wd se kd bn sh mb pr B R sx pt rd wt ln px (B (128 * ((R 6) % 4) + (8 * ((((dsp B R z 2) % 16) / 4) * 4)) + (drw B R ln z) + 0)) (7 - (((x + 32 - dsp B R z 1) / (dtm R)) % 8)) (by omega) (by omega)) (cwV 2 hts (gV w_653 w_655 w_p20 w_5 w_656) rfl rfl rfl (by decide +kernel) ⟨Nat.le_of_ble_eq_true rfl, Nat.le_of_ble_eq_true rfl⟩) hK hP (va_recv hK hP (ci := 7) (q0 := 0) rfl rfl) rfl hl.1 rfl (Nat.le_of_ble_eq_true rfl) d_MO_has_155 ⟨Nat.zero_le _, Nat.zero_le _⟩ ?_
            exact ro_retz hx hb hr hlocks d_MO_has_158 nb_bI (bI_c (by rw [dhs_i (by omega) (by omega)]; unfold dcc dat; rw [hof]; (try simp only [Nat.add_zero]); (first | rw [if_pos z5] | rw [if_neg z5]); all_goals (first | rw [if_pos (by omega)] | rw [if_neg (by omega)]); all_goals exact Iff.rfl))
          · have c27 := mt (nI_leI (by omega) (by omega)).mpr c27
            refine lv_bipush (v := nI 16) hx hb d_MO_has_117 (by decide +kernel) ?_
            refine lv_goto (tgt := 123) hx hb d_MO_has_119 (by decide) ?_
            refine lv_iadd hx hb d_MO_has_123 ?_
            refine ss_rt (y := nI (128 * ((R 6) % 4) + (8 * ((((dsp B R z 2) % 16) / 4) * 4)) + (drw B R ln z) + 16)) (nI_add _ _) ?_
            refine lv_goto (tgt := 137) hx hb d_MO_has_124 (by decide) ?_
            refine lv_istore (lv' := [(8, .int (nI (128 * ((R 6) % 4) + (8 * ((((dsp B R z 2) % 16) / 4) * 4)) + (drw B R ln z) + 16))), (7, .int (nI (128 * ((R 6) % 4)))), (6, .int (nI ((dsp B R z 2) % 16))), (5, .int (nI ((x + 32 - dsp B R z 1) / (dtm R)))), (4, .int (iI ((dsp B R z 1 : Nat) - (32 : Nat) : Int))), (0, .ref (q 0)), (1, .int (nI z)), (2, .int (nI (drw B R ln z))), (3, .int (nI x))]) hx hb d_MO_has_137 hl (by decide) rfl (fun ls hl => ?_)
            refine lv_aload_n hx hb d_MO_has_139 rfl (lv_at hl 5 rfl) ?_
            refine lv_aload_n hx hb d_MO_has_140 rfl (lv_at hl 5 rfl) ?_
            refine va_get (D := D) (ci := 7) (v := .ref (q 7)) (C := R_MO) (T := T_MO) (N := 16) hx hb hts in_MO hown hK hP 0 rfl rfl 8 (by decide) (hts _ w_538) (fun _ h9 => h9) rfl d_MO_has_141 ?_
            refine lv_iload hx hb d_MO_has_144 (lv_at hl 0 rfl) ?_
            refine va_iald hx hb hK hP 7 0 rfl rfl (vp_in_nI (by omega) (by omega)) d_MO_has_146 ?_
            refine ss_rt (y := nI (B (128 * ((R 6) % 4) + (8 * ((((dsp B R z 2) % 16) / 4) * 4)) + (drw B R ln z) + 16))) (congrArg (fun z => nI (B z)) (nI_clamp (by omega))) ?_
            have g29 := hB (128 * ((R 6) % 4) + (8 * ((((dsp B R z 2) % 16) / 4) * 4)) + (drw B R ln z) + 16)
            refine lv_bipush (v := nI 7) hx hb d_MO_has_147 (by decide +kernel) ?_
            refine lv_iload hx hb d_MO_has_149 (lv_at hl 3 rfl) ?_
            refine lv_bipush (v := nI 8) hx hb d_MO_has_151 (by decide +kernel) ?_
            refine lv_irem hx hb d_MO_has_153 (by first | decide +kernel | exact nI_ne0 (by omega) (by omega)) ?_
            refine ss_rt (y := nI (((x + 32 - dsp B R z 1) / (dtm R)) % 8)) (pk_rem (by omega) (by omega) (by omega)) ?_
            refine lv_isub hx hb d_MO_has_154 ?_
            refine ss_rt (y := nI (7 - (((x + 32 - dsp B R z 1) / (dtm R)) % 8))) (pk_sub (by omega)) ?_
            refine kr_iV (As := [.int (nI (B (128 * ((R 6) % 4) + (8 * ((((dsp B R z 2) % 16) / 4) * 4)) + (drw B R ln z) + 16))), .int (nI (7 - (((x + 32 - dsp B R z 1) / (dtm R)) % 8)))]) (rest := []) ⟨hx, hb, hml, hown, hts⟩ (c_MO_bit l D k q cd wd se kd bn sh mb pr B R sx pt rd wt ln px (B (128 * ((R 6) % 4) + (8 * ((((dsp B R z 2) % 16) / 4) * 4)) + (drw B R ln z) + 16)) (7 - (((x + 32 - dsp B R z 1) / (dtm R)) % 8)) (by omega) (by omega)) (cwV 2 hts (gV w_653 w_655 w_p20 w_5 w_656) rfl rfl rfl (by decide +kernel) ⟨Nat.le_of_ble_eq_true rfl, Nat.le_of_ble_eq_true rfl⟩) hK hP (va_recv hK hP (ci := 7) (q0 := 0) rfl rfl) rfl hl.1 rfl (Nat.le_of_ble_eq_true rfl) d_MO_has_155 ⟨Nat.zero_le _, Nat.zero_le _⟩ ?_
            exact ro_retz hx hb hr hlocks d_MO_has_158 nb_bI (bI_c (by rw [dhs_i (by omega) (by omega)]; unfold dcc dat; rw [hof]; (try simp only [Nat.add_zero]); (first | rw [if_pos z5] | rw [if_neg z5]); all_goals (first | rw [if_pos (by omega)] | rw [if_neg (by omega)]); all_goals exact Iff.rfl))
      · have c19 := mt (nz_lt (by omega)).mpr c19
        rw [iI_t (by omega) (by omega)] at c19
        refine lv_iconst (v := nI 0) hx hb d_MO_has_43 (by decide +kernel) ?_
        exact ro_retz hx hb hr hlocks d_MO_has_44 (by decide +kernel) (bI_f (dhs_o (by omega)))
theorem c_MO_rowOn_t (l : Launch) (D : va_G) (k : Nat → ClassId) (q : Nat → Nat) (cd : Int32) (wd : Nat → Nat) (se : Nat → Nat) (kd : Nat → Nat) (bn : Nat → Int32) (sh : Nat → Nat) (mb : Nat → Nat) (pr : Nat) (B : Nat → Nat) (R : Nat → Nat) (sx : Nat) (pt : Nat) (rd : Nat) (wt : Int32) (ln : Nat) (px : Nat → Nat) (hB : ∀ j, B j < 256) (hR : ∀ j, R j < 256) (z y : Nat) (hz : z < 8) (hy : y < 32) (hd : don B R y z = true) : ro_i l y_MO_rowOn b_MO_rowOn 4 (some .int) { frames := 3, cells := 0, slots := 0, locals := 62 } D (kT k) (mW q k cd wd se kd bn sh mb pr B R sx pt rd wt ln px) [.ref (q 0), .int (nI z), .int (nI y)] (nI (drw B R y z)) := by
  have h := c_MO_rowOn l D k q cd wd se kd bn sh mb pr B R sx pt rd wt ln px hB hR z y hz hy
  rw [if_pos hd] at h
  exact h
theorem c_MO_rowOn_f (l : Launch) (D : va_G) (k : Nat → ClassId) (q : Nat → Nat) (cd : Int32) (wd : Nat → Nat) (se : Nat → Nat) (kd : Nat → Nat) (bn : Nat → Int32) (sh : Nat → Nat) (mb : Nat → Nat) (pr : Nat) (B : Nat → Nat) (R : Nat → Nat) (sx : Nat) (pt : Nat) (rd : Nat) (wt : Int32) (ln : Nat) (px : Nat → Nat) (hB : ∀ j, B j < 256) (hR : ∀ j, R j < 256) (z y : Nat) (hz : z < 8) (hy : y < 32) (hd : ¬ don B R y z = true) : ro_i l y_MO_rowOn b_MO_rowOn 4 (some .int) { frames := 3, cells := 0, slots := 0, locals := 62 } D (kT k) (mW q k cd wd se kd bn sh mb pr B R sx pt rd wt ln px) [.ref (q 0), .int (nI z), .int (nI y)] (-1) := by
  have h := c_MO_rowOn l D k q cd wd se kd bn sh mb pr B R sx pt rd wt ln px hB hR z y hz hy
  rw [if_neg hd] at h
  exact h
