set_option maxHeartbeats 4000000 in
set_option maxRecDepth 100000 in
theorem c_SC_colorAt (l : Launch) (D : va_G) (k : Nat → ClassId) (q : Nat → Nat) (ln : Nat) (px : Nat → Nat) (cv : Nat) (co : Nat) (B : Nat → Nat) (R : Nat → Nat) (sx : Nat) (pt : Nat) (rd : Nat) (wt : Int32) (x y : Nat) (hx9 : x < 64) (hy9 : y < 32) : ro_i l y_SC_colorAt b_SC_colorAt 3 (some .int) { frames := 0, cells := 0, slots := 0, locals := 0 } D (kT k) (scW q k ln px cv co B R sx pt rd wt) [.ref (q 5), .int (nI x), .int (nI y)] (nI (px (64 * y + x))) := by
  refine ro_headi (by decide) (Nat.le_of_ble_eq_true rfl) ?_
  intro p e s m below meth c ls hx hb hr hlocks hml hown hts hP hK hl
  have hown : s.vm.findClass "SlotScreen$Screen" = some m.cls := hown
  have hl : lv_has ls 3 [(0, .ref (q 5)), (1, .int (nI x)), (2, .int (nI y))] := hl
  refine lv_iload_n hx hb d_SC_colorAt_0 rfl (lv_at hl 1 rfl) ?_
  refine lv_if_lt (tgt := 20) hx hb d_SC_colorAt_1 (by decide) (fun c1 => ?_) (fun c1 => ?_)
  · have c1 := (n_lt0 (by omega)).mp c1
    exfalso; omega
  · have c1 := mt (n_lt0 (by omega)).mpr c1
    refine lv_iload_n hx hb d_SC_colorAt_4 rfl (lv_at hl 1 rfl) ?_
    refine lv_bipush (v := nI 64) hx hb d_SC_colorAt_5 (by decide +kernel) ?_
    refine lv_icmp_ge (tgt := 20) hx hb d_SC_colorAt_7 (by decide) (fun c2 => ?_) (fun c2 => ?_)
    · have c2 := (nI_leI (by omega) (by omega)).mp c2
      exfalso; omega
    · have c2 := mt (nI_leI (by omega) (by omega)).mpr c2
      refine lv_iload_n hx hb d_SC_colorAt_10 rfl (lv_at hl 2 rfl) ?_
      refine lv_if_lt (tgt := 20) hx hb d_SC_colorAt_11 (by decide) (fun c3 => ?_) (fun c3 => ?_)
      · have c3 := (n_lt0 (by omega)).mp c3
        exfalso; omega
      · have c3 := mt (n_lt0 (by omega)).mpr c3
        refine lv_iload_n hx hb d_SC_colorAt_14 rfl (lv_at hl 2 rfl) ?_
        refine lv_bipush (v := nI 32) hx hb d_SC_colorAt_15 (by decide +kernel) ?_
        refine lv_icmp_lt (tgt := 22) hx hb d_SC_colorAt_17 (by decide) (fun c4 => ?_) (fun c4 => ?_)
        · have c4 := (nI_ltI (by omega) (by omega)).mp c4
          refine lv_aload_n hx hb d_SC_colorAt_22 rfl (lv_at hl 0 rfl) ?_
          refine va_get (D := D) (ci := 3) (v := .ref (q 6)) (C := R_SC) (T := T_SC) (N := 5) hx hb hts in_SC hown hK hP 0 rfl rfl 1 (by decide) (hts _ w_78) (fun _ h9 => h9) rfl d_SC_colorAt_23 ?_
          refine lv_iload_n hx hb d_SC_colorAt_26 rfl (lv_at hl 2 rfl) ?_
          refine lv_bipush (v := nI 64) hx hb d_SC_colorAt_27 (by decide +kernel) ?_
          refine lv_imul hx hb d_SC_colorAt_29 ?_
          refine ss_rt (y := nI (y * 64)) (pk_mul _ _) ?_
          refine lv_iload_n hx hb d_SC_colorAt_30 rfl (lv_at hl 1 rfl) ?_
          refine lv_iadd hx hb d_SC_colorAt_31 ?_
          refine ss_rt (y := nI (y * 64 + x)) (nI_add _ _) ?_
          refine va_iald hx hb hK hP 1 0 rfl rfl (vp_in_nI (by omega) (by omega)) d_SC_colorAt_32 ?_
          refine ss_rt (y := nI (px (y * 64 + x))) (congrArg (fun z => nI (px z)) (nI_clamp (by omega))) ?_
          exact ro_reti hx hb hr hlocks d_SC_colorAt_33 (by rw [Nat.mul_comm y 64])
        · have c4 := mt (nI_ltI (by omega) (by omega)).mpr c4
          exfalso; omega
set_option maxHeartbeats 4000000 in
set_option maxRecDepth 100000 in
theorem c_SC_colorAtb (l : Launch) (D : va_G) (k : Nat → ClassId) (q : Nat → Nat) (ln : Nat) (px : Nat → Nat) (cv : Nat) (co : Nat) (B : Nat → Nat) (R : Nat → Nat) (sx : Nat) (pt : Nat) (rd : Nat) (wt : Int32) (x y : Int32) (hx9 : ¬ (0 ≤ x.toInt ∧ x.toInt ≤ 63 ∧ 0 ≤ y.toInt ∧ y.toInt ≤ 31)) : ro_i l y_SC_colorAt b_SC_colorAt 3 (some .int) { frames := 0, cells := 0, slots := 0, locals := 0 } D (kT k) (scW q k ln px cv co B R sx pt rd wt) [.ref (q 5), .int x, .int y] (-1) := by
  refine ro_headi (by decide) (Nat.le_of_ble_eq_true rfl) ?_
  intro p e s m below meth c ls hx hb hr hlocks hml hown hts hP hK hl
  have hown : s.vm.findClass "SlotScreen$Screen" = some m.cls := hown
  have hl : lv_has ls 3 [(0, .ref (q 5)), (1, .int x), (2, .int y)] := hl
  refine lv_iload_n hx hb d_SC_colorAt_0 rfl (lv_at hl 1 rfl) ?_
  refine lv_if_lt (tgt := 20) hx hb d_SC_colorAt_1 (by decide) (fun c1 => ?_) (fun c1 => ?_)
  · have c1 := (z_lt0).mp c1
    refine lv_iconst (v := (-1)) hx hb d_SC_colorAt_20 (by decide +kernel) ?_
    exact ro_reti hx hb hr hlocks d_SC_colorAt_21 (rfl)
  · have c1 := mt (z_lt0).mpr c1
    refine lv_iload_n hx hb d_SC_colorAt_4 rfl (lv_at hl 1 rfl) ?_
    refine lv_bipush (v := nI 64) hx hb d_SC_colorAt_5 (by decide +kernel) ?_
    refine lv_icmp_ge (tgt := 20) hx hb d_SC_colorAt_7 (by decide) (fun c2 => ?_) (fun c2 => ?_)
    · have c2 := (nz_le (by omega)).mp c2
      refine lv_iconst (v := (-1)) hx hb d_SC_colorAt_20 (by decide +kernel) ?_
      exact ro_reti hx hb hr hlocks d_SC_colorAt_21 (rfl)
    · have c2 := mt (nz_le (by omega)).mpr c2
      refine lv_iload_n hx hb d_SC_colorAt_10 rfl (lv_at hl 2 rfl) ?_
      refine lv_if_lt (tgt := 20) hx hb d_SC_colorAt_11 (by decide) (fun c3 => ?_) (fun c3 => ?_)
      · have c3 := (z_lt0).mp c3
        refine lv_iconst (v := (-1)) hx hb d_SC_colorAt_20 (by decide +kernel) ?_
        exact ro_reti hx hb hr hlocks d_SC_colorAt_21 (rfl)
      · have c3 := mt (z_lt0).mpr c3
        refine lv_iload_n hx hb d_SC_colorAt_14 rfl (lv_at hl 2 rfl) ?_
        refine lv_bipush (v := nI 32) hx hb d_SC_colorAt_15 (by decide +kernel) ?_
        refine lv_icmp_lt (tgt := 22) hx hb d_SC_colorAt_17 (by decide) (fun c4 => ?_) (fun c4 => ?_)
        · have c4 := (zn_lt (by omega)).mp c4
          exfalso; omega
        · have c4 := mt (zn_lt (by omega)).mpr c4
          refine lv_iconst (v := (-1)) hx hb d_SC_colorAt_20 (by decide +kernel) ?_
          exact ro_reti hx hb hr hlocks d_SC_colorAt_21 (rfl)
set_option maxHeartbeats 4000000 in
set_option maxRecDepth 100000 in
theorem c_SC_backColor (l : Launch) (D : va_G) (k : Nat → ClassId) (q : Nat → Nat) (ln : Nat) (px : Nat → Nat) (cv : Nat) (co : Nat) (B : Nat → Nat) (R : Nat → Nat) (sx : Nat) (pt : Nat) (rd : Nat) (wt : Int32) (hB : ∀ j, B j < 256) (hR : ∀ j, R j < 256) : ro_i l y_SC_backColor b_SC_backColor 1 (some .int) { frames := 1, cells := 0, slots := 0, locals := 21 } D (kT k) (scW q k ln px cv co B R sx pt rd wt) [.ref (q 5)] (nI (R 7 % 16)) := by
  refine ro_headi (by decide) (Nat.le_of_ble_eq_true rfl) ?_
  intro p e s m below meth c ls hx hb hr hlocks hml hown hts hP hK hl
  have hown : s.vm.findClass "SlotScreen$Screen" = some m.cls := hown
  have hl : lv_has ls 1 [(0, .ref (q 5))] := hl
  refine lv_aload_n hx hb d_SC_backColor_0 rfl (lv_at hl 0 rfl) ?_
  refine va_get (D := D) (ci := 3) (v := .ref (q 7)) (C := R_SC) (T := T_SC) (N := 5) hx hb hts in_SC hown hK hP 0 rfl rfl 0 (by decide) (hts _ w_77) (fun _ h9 => h9) rfl d_SC_backColor_1 ?_
  refine lv_bipush (v := nI 7) hx hb d_SC_backColor_4 (by decide +kernel) ?_
  have g1 := hR 7
  refine kr_iV (As := [.int (nI 7)]) (rest := []) ⟨hx, hb, hml, hown, hts⟩ (c_CH_register l D k q B R sx pt rd wt 7 (by omega)) (cwV 1 hts (gV w_178 w_179 w_180 w_3 w_181) rfl rfl rfl (by decide +kernel) ⟨Nat.le_of_ble_eq_true rfl, Nat.le_of_ble_eq_true rfl⟩) hK (hP.sub (ws' := (chW q k B R sx pt rd wt)) [2, 3, 4] rfl) (va_recv hK hP (ci := 2) (q0 := 2) rfl rfl) rfl hl.1 rfl (Nat.le_of_ble_eq_true rfl) d_SC_backColor_6 ⟨Nat.zero_le _, Nat.zero_le _⟩ ?_
  refine lv_bipush (v := nI 16) hx hb d_SC_backColor_9 (by decide +kernel) ?_
  refine lv_irem hx hb d_SC_backColor_11 (by first | decide +kernel | exact nI_ne0 (by omega) (by omega)) ?_
  refine ss_rt (y := nI ((R 7) % 16)) (pk_rem (by omega) (by omega) (by omega)) ?_
  exact ro_reti hx hb hr hlocks d_SC_backColor_12 (rfl)
set_option maxHeartbeats 4000000 in
set_option maxRecDepth 100000 in
theorem c_SC_orBack (l : Launch) (D : va_G) (k : Nat → ClassId) (q : Nat → Nat) (ln : Nat) (px : Nat → Nat) (cv : Nat) (co : Nat) (B : Nat → Nat) (R : Nat → Nat) (sx : Nat) (pt : Nat) (rd : Nat) (wt : Int32) (hB : ∀ j, B j < 256) (hR : ∀ j, R j < 256) (x : Nat) (hx9 : x < 16) : ro_i l y_SC_orBack b_SC_orBack 2 (some .int) { frames := 2, cells := 0, slots := 0, locals := 41 } D (kT k) (scW q k ln px cv co B R sx pt rd wt) [.ref (q 5), .int (nI x)] (nI (dob R x)) := by
  refine ro_headi (by decide) (Nat.le_of_ble_eq_true rfl) ?_
  intro p e s m below meth c ls hx hb hr hlocks hml hown hts hP hK hl
  have hown : s.vm.findClass "SlotScreen$Screen" = some m.cls := hown
  have hl : lv_has ls 2 [(0, .ref (q 5)), (1, .int (nI x))] := hl
  refine lv_iload_n hx hb d_SC_orBack_0 rfl (lv_at hl 1 rfl) ?_
  refine lv_if_ne (tgt := 11) hx hb d_SC_orBack_1 (by decide) (fun c1 => ?_) (fun c1 => ?_)
  · have c1 := mt (n_eq0 (by omega)).mpr c1
    refine lv_iload_n hx hb d_SC_orBack_11 rfl (lv_at hl 1 rfl) ?_
    exact ro_reti hx hb hr hlocks d_SC_orBack_12 (by unfold dob; first | rw [if_pos (by omega)] | rw [if_neg (by omega)])
  · have c1 := (n_eq0 (by omega)).mp c1
    refine lv_aload_n hx hb d_SC_orBack_4 rfl (lv_at hl 0 rfl) ?_
    refine kr_iV (As := []) (rest := []) ⟨hx, hb, hml, hown, hts⟩ (c_SC_backColor l D k q ln px cv co B R sx pt rd wt hB hR) (cwV 0 hts (gV w_186 w_188 w_p2 w_4 w_189) rfl rfl rfl (by decide +kernel) ⟨Nat.le_of_ble_eq_true rfl, Nat.le_of_ble_eq_true rfl⟩) hK hP (va_recv hK hP (ci := 3) (q0 := 0) rfl rfl) rfl hl.1 rfl (Nat.le_of_ble_eq_true rfl) d_SC_orBack_5 ⟨Nat.zero_le _, Nat.zero_le _⟩ ?_
    refine lv_goto (tgt := 12) hx hb d_SC_orBack_8 (by decide) ?_
    exact ro_reti hx hb hr hlocks d_SC_orBack_12 (by unfold dob; first | rw [if_pos (by omega)] | rw [if_neg (by omega)])
set_option maxHeartbeats 4000000 in
set_option maxRecDepth 100000 in
theorem c_SC_spriteSide (l : Launch) (D : va_G) (k : Nat → ClassId) (q : Nat → Nat) (ln : Nat) (px : Nat → Nat) (cv : Nat) (co : Nat) (B : Nat → Nat) (R : Nat → Nat) (sx : Nat) (pt : Nat) (rd : Nat) (wt : Int32) (hB : ∀ j, B j < 256) (hR : ∀ j, R j < 256) : ro_i l y_SC_spriteSide b_SC_spriteSide 1 (some .int) { frames := 1, cells := 0, slots := 0, locals := 21 } D (kT k) (scW q k ln px cv co B R sx pt rd wt) [.ref (q 5)] (nI (dsd R)) := by
  refine ro_headi (by decide) (Nat.le_of_ble_eq_true rfl) ?_
  intro p e s m below meth c ls hx hb hr hlocks hml hown hts hP hK hl
  have hown : s.vm.findClass "SlotScreen$Screen" = some m.cls := hown
  have hl : lv_has ls 1 [(0, .ref (q 5))] := hl
  refine lv_aload_n hx hb d_SC_spriteSide_0 rfl (lv_at hl 0 rfl) ?_
  refine va_get (D := D) (ci := 3) (v := .ref (q 7)) (C := R_SC) (T := T_SC) (N := 5) hx hb hts in_SC hown hK hP 0 rfl rfl 0 (by decide) (hts _ w_77) (fun _ h9 => h9) rfl d_SC_spriteSide_1 ?_
  refine lv_iconst (v := nI 1) hx hb d_SC_spriteSide_4 (by decide +kernel) ?_
  have g1 := hR 1
  refine kr_iV (As := [.int (nI 1)]) (rest := []) ⟨hx, hb, hml, hown, hts⟩ (c_CH_register l D k q B R sx pt rd wt 1 (by omega)) (cwV 1 hts (gV w_178 w_179 w_180 w_3 w_181) rfl rfl rfl (by decide +kernel) ⟨Nat.le_of_ble_eq_true rfl, Nat.le_of_ble_eq_true rfl⟩) hK (hP.sub (ws' := (chW q k B R sx pt rd wt)) [2, 3, 4] rfl) (va_recv hK hP (ci := 2) (q0 := 2) rfl rfl) rfl hl.1 rfl (Nat.le_of_ble_eq_true rfl) d_SC_spriteSide_5 ⟨Nat.zero_le _, Nat.zero_le _⟩ ?_
  refine lv_iconst (v := nI 2) hx hb d_SC_spriteSide_8 (by decide +kernel) ?_
  refine lv_iand hx hb d_SC_spriteSide_9 ?_
  refine ss_rt (y := nI (R 1 / 2 % 2 * 2)) (ss_and2 _ (by omega)) ?_
  refine lv_if_ne (tgt := 18) hx hb d_SC_spriteSide_10 (by decide) (fun c2 => ?_) (fun c2 => ?_)
  · have c2 := mt (n_eq0 (by omega)).mpr c2
    refine lv_bipush (v := nI 16) hx hb d_SC_spriteSide_18 (by decide +kernel) ?_
    exact ro_reti hx hb hr hlocks d_SC_spriteSide_20 (by unfold dsd; first | rw [if_pos (by omega)] | rw [if_neg (by omega)])
  · have c2 := (n_eq0 (by omega)).mp c2
    refine lv_bipush (v := nI 8) hx hb d_SC_spriteSide_13 (by decide +kernel) ?_
    refine lv_goto (tgt := 20) hx hb d_SC_spriteSide_15 (by decide) ?_
    exact ro_reti hx hb hr hlocks d_SC_spriteSide_20 (by unfold dsd; first | rw [if_pos (by omega)] | rw [if_neg (by omega)])
set_option maxHeartbeats 4000000 in
set_option maxRecDepth 100000 in
theorem c_SC_spriteZoom (l : Launch) (D : va_G) (k : Nat → ClassId) (q : Nat → Nat) (ln : Nat) (px : Nat → Nat) (cv : Nat) (co : Nat) (B : Nat → Nat) (R : Nat → Nat) (sx : Nat) (pt : Nat) (rd : Nat) (wt : Int32) (hB : ∀ j, B j < 256) (hR : ∀ j, R j < 256) : ro_i l y_SC_spriteZoom b_SC_spriteZoom 1 (some .int) { frames := 1, cells := 0, slots := 0, locals := 21 } D (kT k) (scW q k ln px cv co B R sx pt rd wt) [.ref (q 5)] (nI (dtm R)) := by
  refine ro_headi (by decide) (Nat.le_of_ble_eq_true rfl) ?_
  intro p e s m below meth c ls hx hb hr hlocks hml hown hts hP hK hl
  have hown : s.vm.findClass "SlotScreen$Screen" = some m.cls := hown
  have hl : lv_has ls 1 [(0, .ref (q 5))] := hl
  refine lv_aload_n hx hb d_SC_spriteZoom_0 rfl (lv_at hl 0 rfl) ?_
  refine va_get (D := D) (ci := 3) (v := .ref (q 7)) (C := R_SC) (T := T_SC) (N := 5) hx hb hts in_SC hown hK hP 0 rfl rfl 0 (by decide) (hts _ w_77) (fun _ h9 => h9) rfl d_SC_spriteZoom_1 ?_
  refine lv_iconst (v := nI 1) hx hb d_SC_spriteZoom_4 (by decide +kernel) ?_
  have g1 := hR 1
  refine kr_iV (As := [.int (nI 1)]) (rest := []) ⟨hx, hb, hml, hown, hts⟩ (c_CH_register l D k q B R sx pt rd wt 1 (by omega)) (cwV 1 hts (gV w_178 w_179 w_180 w_3 w_181) rfl rfl rfl (by decide +kernel) ⟨Nat.le_of_ble_eq_true rfl, Nat.le_of_ble_eq_true rfl⟩) hK (hP.sub (ws' := (chW q k B R sx pt rd wt)) [2, 3, 4] rfl) (va_recv hK hP (ci := 2) (q0 := 2) rfl rfl) rfl hl.1 rfl (Nat.le_of_ble_eq_true rfl) d_SC_spriteZoom_5 ⟨Nat.zero_le _, Nat.zero_le _⟩ ?_
  refine lv_iconst (v := nI 1) hx hb d_SC_spriteZoom_8 (by decide +kernel) ?_
  refine lv_iand hx hb d_SC_spriteZoom_9 ?_
  refine ss_rt (y := nI ((R 1) % 2)) (pk_andN (by omega) 1 (by decide +kernel)) ?_
  refine lv_if_ne (tgt := 17) hx hb d_SC_spriteZoom_10 (by decide) (fun c2 => ?_) (fun c2 => ?_)
  · have c2 := mt (n_eq0 (by omega)).mpr c2
    refine lv_iconst (v := nI 2) hx hb d_SC_spriteZoom_17 (by decide +kernel) ?_
    exact ro_reti hx hb hr hlocks d_SC_spriteZoom_18 (by unfold dtm; first | rw [if_pos (by omega)] | rw [if_neg (by omega)])
  · have c2 := (n_eq0 (by omega)).mp c2
    refine lv_iconst (v := nI 1) hx hb d_SC_spriteZoom_13 (by decide +kernel) ?_
    refine lv_goto (tgt := 18) hx hb d_SC_spriteZoom_14 (by decide) ?_
    exact ro_reti hx hb hr hlocks d_SC_spriteZoom_18 (by unfold dtm; first | rw [if_pos (by omega)] | rw [if_neg (by omega)])
set_option maxHeartbeats 4000000 in
set_option maxRecDepth 100000 in
theorem c_SC_topA (l : Launch) (D : va_G) (k : Nat → ClassId) (y : Nat) (hy : y < 224) : ro_i l y_SC_topLine b_SC_topLine 1 (some .int) { frames := 0, cells := 0, slots := 0, locals := 0 } D (kT k) [] [.int (nI y)] (nI (y + 1)) := by
  refine ro_headi (by decide) (Nat.le_of_ble_eq_true rfl) ?_
  intro p e s m below meth c ls hx hb hr hlocks hml hown hts hP hK hl
  have hown : s.vm.findClass "SlotScreen$Screen" = some m.cls := hown
  have hl : lv_has ls 1 [(0, .int (nI y))] := hl
  refine lv_iload_n hx hb d_SC_topLine_0 rfl (lv_at hl 0 rfl) ?_
  refine lv_sipush (v := nI 224) hx hb d_SC_topLine_1 (by decide +kernel) ?_
  refine lv_icmp_ge (tgt := 13) hx hb d_SC_topLine_4 (by decide) (fun c1 => ?_) (fun c1 => ?_)
  · have c1 := (nI_leI (by omega) (by omega)).mp c1
    exfalso; omega
  · have c1 := mt (nI_leI (by omega) (by omega)).mpr c1
    refine lv_iload_n hx hb d_SC_topLine_7 rfl (lv_at hl 0 rfl) ?_
    refine lv_iconst (v := nI 1) hx hb d_SC_topLine_8 (by decide +kernel) ?_
    refine lv_iadd hx hb d_SC_topLine_9 ?_
    refine ss_rt (y := nI (y + 1)) (nI_add _ _) ?_
    refine lv_goto (tgt := 18) hx hb d_SC_topLine_10 (by decide) ?_
    exact ro_reti hx hb hr hlocks d_SC_topLine_18 (rfl)
set_option maxHeartbeats 4000000 in
set_option maxRecDepth 100000 in
theorem c_SC_topB (l : Launch) (D : va_G) (k : Nat → ClassId) (y : Nat) (hy : y < 256) (hy2 : 224 ≤ y) : ro_i l y_SC_topLine b_SC_topLine 1 (some .int) { frames := 0, cells := 0, slots := 0, locals := 0 } D (kT k) [] [.int (nI y)] (iI ((y : Nat) - (255 : Nat) : Int)) := by
  refine ro_headi (by decide) (Nat.le_of_ble_eq_true rfl) ?_
  intro p e s m below meth c ls hx hb hr hlocks hml hown hts hP hK hl
  have hown : s.vm.findClass "SlotScreen$Screen" = some m.cls := hown
  have hl : lv_has ls 1 [(0, .int (nI y))] := hl
  refine lv_iload_n hx hb d_SC_topLine_0 rfl (lv_at hl 0 rfl) ?_
  refine lv_sipush (v := nI 224) hx hb d_SC_topLine_1 (by decide +kernel) ?_
  refine lv_icmp_ge (tgt := 13) hx hb d_SC_topLine_4 (by decide) (fun c1 => ?_) (fun c1 => ?_)
  · have c1 := (nI_leI (by omega) (by omega)).mp c1
    refine lv_iload_n hx hb d_SC_topLine_13 rfl (lv_at hl 0 rfl) ?_
    refine lv_sipush (v := nI 255) hx hb d_SC_topLine_14 (by decide +kernel) ?_
    refine lv_isub hx hb d_SC_topLine_17 ?_
    refine ss_rt (y := iI ((y : Nat) - (255 : Nat) : Int)) (iI_nn _ _) ?_
    exact ro_reti hx hb hr hlocks d_SC_topLine_18 (rfl)
  · have c1 := mt (nI_leI (by omega) (by omega)).mpr c1
    exfalso; omega
set_option maxHeartbeats 4000000 in
set_option maxRecDepth 100000 in
theorem c_SC_spriteBits (l : Launch) (D : va_G) (k : Nat → ClassId) (q : Nat → Nat) (ln : Nat) (px : Nat → Nat) (cv : Nat) (co : Nat) (B : Nat → Nat) (R : Nat → Nat) (sx : Nat) (pt : Nat) (rd : Nat) (wt : Int32) (hB : ∀ j, B j < 256) (hR : ∀ j, R j < 256) (z : Nat) (hz : z < 8) (hd : don B R ln z = true) : ro_i l y_SC_spriteBits b_SC_spriteBits 5 (some .int) { frames := 2, cells := 0, slots := 0, locals := 41 } D (kT k) (scW q k ln px cv co B R sx pt rd wt) [.ref (q 5), .int (nI (dsp B R z 2 % 16)), .int (nI (drw B R ln z))] (nI (dsb B R ln z)) := by
  refine ro_headi (by decide) (Nat.le_of_ble_eq_true rfl) ?_
  intro p e s m below meth c ls hx hb hr hlocks hml hown hts hP hK hl
  have hown : s.vm.findClass "SlotScreen$Screen" = some m.cls := hown
  have hl : lv_has ls 5 [(0, .ref (q 5)), (1, .int (nI (dsp B R z 2 % 16))), (2, .int (nI (drw B R ln z)))] := hl
  have z3 := (drw_lt hd).2
  have z4 := dsd_or R
  refine lv_sipush (v := nI 128) hx hb d_SC_spriteBits_0 (by decide +kernel) ?_
  refine lv_aload_n hx hb d_SC_spriteBits_3 rfl (lv_at hl 0 rfl) ?_
  refine va_get (D := D) (ci := 3) (v := .ref (q 7)) (C := R_SC) (T := T_SC) (N := 5) hx hb hts in_SC hown hK hP 0 rfl rfl 0 (by decide) (hts _ w_77) (fun _ h9 => h9) rfl d_SC_spriteBits_4 ?_
  refine lv_bipush (v := nI 6) hx hb d_SC_spriteBits_7 (by decide +kernel) ?_
  have g1 := hR 6
  refine kr_iV (As := [.int (nI 6)]) (rest := [.int (nI 128)]) ⟨hx, hb, hml, hown, hts⟩ (c_CH_register l D k q B R sx pt rd wt 6 (by omega)) (cwV 1 hts (gV w_178 w_179 w_180 w_3 w_181) rfl rfl rfl (by decide +kernel) ⟨Nat.le_of_ble_eq_true rfl, Nat.le_of_ble_eq_true rfl⟩) hK (hP.sub (ws' := (chW q k B R sx pt rd wt)) [2, 3, 4] rfl) (va_recv hK hP (ci := 2) (q0 := 2) rfl rfl) rfl hl.1 rfl (Nat.le_of_ble_eq_true rfl) d_SC_spriteBits_9 ⟨Nat.zero_le _, Nat.zero_le _⟩ ?_
  refine lv_iconst (v := nI 4) hx hb d_SC_spriteBits_12 (by decide +kernel) ?_
  refine lv_irem hx hb d_SC_spriteBits_13 (by first | decide +kernel | exact nI_ne0 (by omega) (by omega)) ?_
  refine ss_rt (y := nI ((R 6) % 4)) (pk_rem (by omega) (by omega) (by omega)) ?_
  refine lv_imul hx hb d_SC_spriteBits_14 ?_
  refine ss_rt (y := nI (128 * ((R 6) % 4))) (pk_mul _ _) ?_
  refine lv_iload_n hx hb d_SC_spriteBits_15 rfl (lv_at hl 2 rfl) ?_
  refine lv_iadd hx hb d_SC_spriteBits_16 ?_
  refine ss_rt (y := nI (128 * ((R 6) % 4) + (drw B R ln z))) (nI_add _ _) ?_
  refine lv_istore_n (lv' := [(3, .int (nI (128 * ((R 6) % 4) + (drw B R ln z)))), (0, .ref (q 5)), (1, .int (nI (dsp B R z 2 % 16))), (2, .int (nI (drw B R ln z)))]) hx hb d_SC_spriteBits_17 rfl hl (by decide) rfl (fun ls hl => ?_)
  refine lv_aload_n hx hb d_SC_spriteBits_18 rfl (lv_at hl 1 rfl) ?_
  refine kr_iV (As := []) (rest := []) ⟨hx, hb, hml, hown, hts⟩ (c_SC_spriteSide l D k q ln px cv co B R sx pt rd wt hB hR) (cwV 0 hts (gV w_210 w_212 w_p7 w_4 w_213) rfl rfl rfl (by decide +kernel) ⟨Nat.le_of_ble_eq_true rfl, Nat.le_of_ble_eq_true rfl⟩) hK hP (va_recv hK hP (ci := 3) (q0 := 0) rfl rfl) rfl hl.1 rfl (Nat.le_of_ble_eq_true rfl) d_SC_spriteBits_19 ⟨Nat.zero_le _, Nat.zero_le _⟩ ?_
  refine lv_bipush (v := nI 8) hx hb d_SC_spriteBits_22 (by decide +kernel) ?_
  refine lv_icmp_ne (tgt := 41) hx hb d_SC_spriteBits_24 (by decide) (fun c2 => ?_) (fun c2 => ?_)
  · have c2 := mt (nI_eq (by omega) (by omega)).mpr c2
    refine lv_iload_n hx hb d_SC_spriteBits_41 rfl (lv_at hl 0 rfl) ?_
    refine lv_bipush (v := nI 8) hx hb d_SC_spriteBits_42 (by decide +kernel) ?_
    refine lv_iload_n hx hb d_SC_spriteBits_44 rfl (lv_at hl 2 rfl) ?_
    refine lv_bipush (v := (-4)) hx hb d_SC_spriteBits_45 (by decide +kernel) ?_
    refine lv_iand hx hb d_SC_spriteBits_47 ?_
    refine ss_rt (y := nI (dsp B R z 2 % 16 / 4 * 4)) (ss_andm4 _ (by omega)) ?_
    refine lv_imul hx hb d_SC_spriteBits_48 ?_
    refine ss_rt (y := nI (8 * (dsp B R z 2 % 16 / 4 * 4))) (pk_mul _ _) ?_
    refine lv_iadd hx hb d_SC_spriteBits_49 ?_
    refine ss_rt (y := nI (128 * ((R 6) % 4) + (drw B R ln z) + (8 * (dsp B R z 2 % 16 / 4 * 4)))) (nI_add _ _) ?_
    refine lv_istore (lv' := [(4, .int (nI (128 * ((R 6) % 4) + (drw B R ln z) + (8 * (dsp B R z 2 % 16 / 4 * 4))))), (3, .int (nI (128 * ((R 6) % 4) + (drw B R ln z)))), (0, .ref (q 5)), (1, .int (nI (dsp B R z 2 % 16))), (2, .int (nI (drw B R ln z)))]) hx hb d_SC_spriteBits_50 hl (by decide) rfl (fun ls hl => ?_)
    refine lv_aload_n hx hb d_SC_spriteBits_52 rfl (lv_at hl 2 rfl) ?_
    refine va_get (D := D) (ci := 3) (v := .ref (q 7)) (C := R_SC) (T := T_SC) (N := 5) hx hb hts in_SC hown hK hP 0 rfl rfl 0 (by decide) (hts _ w_77) (fun _ h9 => h9) rfl d_SC_spriteBits_53 ?_
    refine lv_iload hx hb d_SC_spriteBits_56 (lv_at hl 0 rfl) ?_
    have g3 := hB (128 * ((R 6) % 4) + (drw B R ln z) + (8 * (dsp B R z 2 % 16 / 4 * 4)))
    refine kr_iV (As := [.int (nI (128 * ((R 6) % 4) + (drw B R ln z) + (8 * (dsp B R z 2 % 16 / 4 * 4))))]) (rest := []) ⟨hx, hb, hml, hown, hts⟩ (c_CH_byteAt l D k q B R sx pt rd wt (128 * ((R 6) % 4) + (drw B R ln z) + (8 * (dsp B R z 2 % 16 / 4 * 4))) (by omega)) (cwV 1 hts (gV w_194 w_195 w_196 w_3 w_197) rfl rfl rfl (by decide +kernel) ⟨Nat.le_of_ble_eq_true rfl, Nat.le_of_ble_eq_true rfl⟩) hK (hP.sub (ws' := (chW q k B R sx pt rd wt)) [2, 3, 4] rfl) (va_recv hK hP (ci := 2) (q0 := 2) rfl rfl) rfl hl.1 rfl (Nat.le_of_ble_eq_true rfl) d_SC_spriteBits_58 ⟨Nat.zero_le _, Nat.zero_le _⟩ ?_
    refine lv_bipush (v := nI 8) hx hb d_SC_spriteBits_61 (by decide +kernel) ?_
    refine lv_ishl hx hb d_SC_spriteBits_63 ?_
    refine ss_rt (y := nI ((B (128 * ((R 6) % 4) + (drw B R ln z) + (8 * (dsp B R z 2 % 16 / 4 * 4)))) * 2 ^ 8)) (ss_shl (k := 8) (by omega) (by omega)) ?_
    refine lv_aload_n hx hb d_SC_spriteBits_64 rfl (lv_at hl 2 rfl) ?_
    refine va_get (D := D) (ci := 3) (v := .ref (q 7)) (C := R_SC) (T := T_SC) (N := 5) hx hb hts in_SC hown hK hP 0 rfl rfl 0 (by decide) (hts _ w_77) (fun _ h9 => h9) rfl d_SC_spriteBits_65 ?_
    refine lv_iload hx hb d_SC_spriteBits_68 (lv_at hl 0 rfl) ?_
    refine lv_bipush (v := nI 16) hx hb d_SC_spriteBits_70 (by decide +kernel) ?_
    refine lv_iadd hx hb d_SC_spriteBits_72 ?_
    refine ss_rt (y := nI (128 * ((R 6) % 4) + (drw B R ln z) + (8 * (dsp B R z 2 % 16 / 4 * 4)) + 16)) (nI_add _ _) ?_
    have g4 := hB (128 * ((R 6) % 4) + (drw B R ln z) + (8 * (dsp B R z 2 % 16 / 4 * 4)) + 16)
    refine kr_iV (As := [.int (nI (128 * ((R 6) % 4) + (drw B R ln z) + (8 * (dsp B R z 2 % 16 / 4 * 4)) + 16))]) (rest := [.int (nI ((B (128 * ((R 6) % 4) + (drw B R ln z) + (8 * (dsp B R z 2 % 16 / 4 * 4)))) * 2 ^ 8))]) ⟨hx, hb, hml, hown, hts⟩ (c_CH_byteAt l D k q B R sx pt rd wt (128 * ((R 6) % 4) + (drw B R ln z) + (8 * (dsp B R z 2 % 16 / 4 * 4)) + 16) (by omega)) (cwV 1 hts (gV w_194 w_195 w_196 w_3 w_197) rfl rfl rfl (by decide +kernel) ⟨Nat.le_of_ble_eq_true rfl, Nat.le_of_ble_eq_true rfl⟩) hK (hP.sub (ws' := (chW q k B R sx pt rd wt)) [2, 3, 4] rfl) (va_recv hK hP (ci := 2) (q0 := 2) rfl rfl) rfl hl.1 rfl (Nat.le_of_ble_eq_true rfl) d_SC_spriteBits_73 ⟨Nat.zero_le _, Nat.zero_le _⟩ ?_
    refine lv_ior hx hb d_SC_spriteBits_76 ?_
    refine ss_rt (y := nI ((B (128 * ((R 6) % 4) + (drw B R ln z) + (8 * (dsp B R z 2 % 16 / 4 * 4)))) * 256 + (B (128 * ((R 6) % 4) + (drw B R ln z) + (8 * (dsp B R z 2 % 16 / 4 * 4)) + 16)))) (ss_sb (by omega)) ?_
    exact ro_reti hx hb hr hlocks d_SC_spriteBits_77 (by unfold dsb; first | rw [if_pos (by omega)] | rw [if_neg (by omega)])
  · have c2 := (nI_eq (by omega) (by omega)).mp c2
    refine lv_aload_n hx hb d_SC_spriteBits_27 rfl (lv_at hl 1 rfl) ?_
    refine va_get (D := D) (ci := 3) (v := .ref (q 7)) (C := R_SC) (T := T_SC) (N := 5) hx hb hts in_SC hown hK hP 0 rfl rfl 0 (by decide) (hts _ w_77) (fun _ h9 => h9) rfl d_SC_spriteBits_28 ?_
    refine lv_iload_n hx hb d_SC_spriteBits_31 rfl (lv_at hl 0 rfl) ?_
    refine lv_bipush (v := nI 8) hx hb d_SC_spriteBits_32 (by decide +kernel) ?_
    refine lv_iload_n hx hb d_SC_spriteBits_34 rfl (lv_at hl 2 rfl) ?_
    refine lv_imul hx hb d_SC_spriteBits_35 ?_
    refine ss_rt (y := nI (8 * (dsp B R z 2 % 16))) (pk_mul _ _) ?_
    refine lv_iadd hx hb d_SC_spriteBits_36 ?_
    refine ss_rt (y := nI (128 * ((R 6) % 4) + (drw B R ln z) + (8 * (dsp B R z 2 % 16)))) (nI_add _ _) ?_
    have g5 := hB (128 * ((R 6) % 4) + (drw B R ln z) + (8 * (dsp B R z 2 % 16)))
    refine kr_iV (As := [.int (nI (128 * ((R 6) % 4) + (drw B R ln z) + (8 * (dsp B R z 2 % 16))))]) (rest := []) ⟨hx, hb, hml, hown, hts⟩ (c_CH_byteAt l D k q B R sx pt rd wt (128 * ((R 6) % 4) + (drw B R ln z) + (8 * (dsp B R z 2 % 16))) (by omega)) (cwV 1 hts (gV w_194 w_195 w_196 w_3 w_197) rfl rfl rfl (by decide +kernel) ⟨Nat.le_of_ble_eq_true rfl, Nat.le_of_ble_eq_true rfl⟩) hK (hP.sub (ws' := (chW q k B R sx pt rd wt)) [2, 3, 4] rfl) (va_recv hK hP (ci := 2) (q0 := 2) rfl rfl) rfl hl.1 rfl (Nat.le_of_ble_eq_true rfl) d_SC_spriteBits_37 ⟨Nat.zero_le _, Nat.zero_le _⟩ ?_
    exact ro_reti hx hb hr hlocks d_SC_spriteBits_40 (by unfold dsb; first | rw [if_pos (by omega)] | rw [if_neg (by omega)])
set_option maxHeartbeats 4000000 in
set_option maxRecDepth 100000 in
theorem c_SC_drawBack (l : Launch) (D : va_G) (k : Nat → ClassId) (q : Nat → Nat) (ln : Nat) (px : Nat → Nat) (cv : Nat) (co : Nat) (B : Nat → Nat) (R : Nat → Nat) (sx : Nat) (pt : Nat) (rd : Nat) (wt : Int32) (hB : ∀ j, B j < 256) (hR : ∀ j, R j < 256) (hln : ln < 32) : rw_v l y_SC_drawBack b_SC_drawBack 4 none { frames := 2, cells := 0, slots := 0, locals := 41 } D (kT k) (scW q k ln px cv co B R sx pt rd wt) [.ref (q 5), .int (nI ln)] (fun (_ : Unit) => True) (fun (_ : Unit) => (scW q k ln (dln (fun _ => R 7 % 16) ln 64 px) cv co B R sx pt rd wt)) := by
  refine rw_headv (by decide) (Nat.le_of_ble_eq_true rfl) ?_
  intro p e s m below meth c ls A hx hb hr hlocks hml hown hts hK hA hP hD hS hl
  have hown : s.vm.findClass "SlotScreen$Screen" = some m.cls := hown
  have hl : lv_has ls 4 [(0, .ref (q 5)), (1, .int (nI ln))] := hl
  have g9 := hR 7
  refine lv_aload_n hx hb d_SC_drawBack_0 rfl (lv_at hl 0 rfl) ?_
  refine kr_iV (As := []) (rest := []) ⟨hx, hb, hml, hown, hts⟩ (c_SC_backColor l D k q ln px cv co B R sx pt rd wt hB hR) (cwV 0 hts (gV w_186 w_188 w_p2 w_4 w_189) rfl rfl rfl (by decide +kernel) ⟨Nat.le_of_ble_eq_true rfl, Nat.le_of_ble_eq_true rfl⟩) hK hP (va_recv hK hP (ci := 3) (q0 := 0) rfl rfl) rfl hl.1 rfl (Nat.le_of_ble_eq_true rfl) d_SC_drawBack_1 ⟨Nat.zero_le _, Nat.zero_le _⟩ ?_
  refine lv_istore_n (lv' := [(2, .int (nI (R 7 % 16))), (0, .ref (q 5)), (1, .int (nI ln))]) hx hb d_SC_drawBack_4 rfl hl (by decide) rfl (fun ls hl => ?_)
  refine lv_iconst (v := nI 0) hx hb d_SC_drawBack_5 (by decide +kernel) ?_
  refine lv_istore_n (lv' := [(3, .int (nI 0)), (2, .int (nI (R 7 % 16))), (0, .ref (q 5)), (1, .int (nI ln))]) hx hb d_SC_drawBack_6 rfl hl (by decide) rfl (fun ls hl => ?_)
  have loop : ∀ (j9 i : Nat), i + j9 = 64 → ∀ (H : Heap) (locs : List Loc), va_P D vwCl (scW q k ln (dln (fun _ => R 7 % 16) ln i px) cv co B R sx pt rd wt) H → va_D A (scW q k ln (dln (fun _ => R 7 % 16) ln i px) cv co B R sx pt rd wt) → va_S A s.heap H locs → ∀ (ls : Array Slot), lv_has ls 4 [(3, .int (nI i)), (2, .int (nI (R 7 % 16))), (0, .ref (q 5)), (1, .int (nI ln))] → W p l e (headSpec (wsG y_SC_drawBack b_SC_drawBack 4 none) { frames := 2, cells := 0, slots := 0, locals := 41 }).room s m ([.ref (q 5), .int (nI ln)] : List Value).toArray below meth c H locs 0 0 (MQ below (rw_Qv D (fun (_ : Unit) => True) (fun (_ : Unit) => (scW q k ln (dln (fun _ => R 7 % 16) ln 64 px) cv co B R sx pt rd wt)) A) ([.ref (q 5), .int (nI ln)] : List Value).toArray s 0 0 A) (F0 m 7 ls []) := by
    intro j9
    induction j9 with
    | zero =>
      intro i h9 H locs hP hD hS ls hl
      obtain rfl : i = 64 := by omega
      refine lv_iload_n hx hb d_SC_drawBack_7 rfl (lv_at hl 0 rfl) ?_
      refine lv_bipush (v := nI 64) hx hb d_SC_drawBack_8 (by decide +kernel) ?_
      refine lv_icmp_ge (tgt := 31) hx hb d_SC_drawBack_10 (by decide) (fun c1 => ?_) (fun c1 => ?_)
      · have c1 := (nI_leI (by omega) (by omega)).mp c1
        exact rw_retv hx hb hr hlocks d_SC_drawBack_31 hS () (trivial) hP
      · have c1 := mt (nI_leI (by omega) (by omega)).mpr c1
        exfalso; omega
    | succ j9 ih =>
      intro i h9 H locs hP hD hS ls hl
      refine lv_iload_n hx hb d_SC_drawBack_7 rfl (lv_at hl 0 rfl) ?_
      refine lv_bipush (v := nI 64) hx hb d_SC_drawBack_8 (by decide +kernel) ?_
      refine lv_icmp_ge (tgt := 31) hx hb d_SC_drawBack_10 (by decide) (fun c2 => ?_) (fun c2 => ?_)
      · have c2 := (nI_leI (by omega) (by omega)).mp c2
        exfalso; omega
      · have c2 := mt (nI_leI (by omega) (by omega)).mpr c2
        refine lv_aload_n hx hb d_SC_drawBack_13 rfl (lv_at hl 2 rfl) ?_
        refine va_get (D := D) (ci := 3) (v := .ref (q 6)) (C := R_SC) (T := T_SC) (N := 5) hx hb hts in_SC hown hK hP 0 rfl rfl 1 (by decide) (hts _ w_78) (fun _ h9 => h9) rfl d_SC_drawBack_14 ?_
        refine lv_iload_n hx hb d_SC_drawBack_17 rfl (lv_at hl 3 rfl) ?_
        refine lv_bipush (v := nI 64) hx hb d_SC_drawBack_18 (by decide +kernel) ?_
        refine lv_imul hx hb d_SC_drawBack_20 ?_
        refine ss_rt (y := nI (ln * 64)) (pk_mul _ _) ?_
        refine lv_iload_n hx hb d_SC_drawBack_21 rfl (lv_at hl 0 rfl) ?_
        refine lv_iadd hx hb d_SC_drawBack_22 ?_
        refine ss_rt (y := nI (ln * 64 + i)) (nI_add _ _) ?_
        refine lv_iload_n hx hb d_SC_drawBack_23 rfl (lv_at hl 1 rfl) ?_
        refine va_iast hx hb hK hP hD hS 1 0 rfl rfl (vp_in_nI (by omega) (by omega)) d_SC_drawBack_24 (fun H locs hP hD hS => ?_)
        rw [ss_upI (dln (fun _ => R 7 % 16) ln i px) (k := (ln * 64 + i)) (v := (R 7 % 16)) (by omega)] at hP hD
        have hP : va_P D vwCl (scW q k ln (ss_up (dln (fun _ => R 7 % 16) ln i px) (ln * 64 + i) (R 7 % 16)) cv co B R sx pt rd wt) _ := hP
        have hD : va_D A (scW q k ln (ss_up (dln (fun _ => R 7 % 16) ln i px) (ln * 64 + i) (R 7 % 16)) cv co B R sx pt rd wt) := hD
        refine lv_iinc (v := nI (i + 1)) (lv' := [(3, .int (nI (i + 1))), (2, .int (nI (R 7 % 16))), (0, .ref (q 5)), (1, .int (nI ln))]) hx hb d_SC_drawBack_25 hl (k := 0) rfl (nI_1 _) (by decide) rfl (fun ls hl => ?_)
        refine lv_goto (tgt := 7) hx hb d_SC_drawBack_28 (by decide) ?_
        rw [Nat.mul_comm ln 64, show ss_up (dln (fun _ => R 7 % 16) ln i px) (64 * ln + i) (R 7 % 16) = dln (fun _ => R 7 % 16) ln (i + 1) px from dln_s (fun _ => R 7 % 16) ln i px] at hP hD
        exact ih (i + 1) (by omega) _ _ hP hD hS ls (lv_sub hl [0, 1, 2, 3] rfl)
  rw [← dln_0 (fun _ => R 7 % 16) ln px] at hP hD
  exact loop (64 - 0) 0 (by omega) _ _ hP hD hS ls (lv_sub hl [0, 1, 2, 3] rfl)
set_option maxHeartbeats 4000000 in
set_option maxRecDepth 100000 in
theorem c_SC_drawTileRow (l : Launch) (D : va_G) (k : Nat → ClassId) (q : Nat → Nat) (ln : Nat) (px : Nat → Nat) (cv : Nat) (co : Nat) (B : Nat → Nat) (R : Nat → Nat) (sx : Nat) (pt : Nat) (rd : Nat) (wt : Int32) (hB : ∀ j, B j < 256) (hR : ∀ j, R j < 256) (hln : ln < 32) (t pn pa : Nat) (ht : t < 8) (hpn : pn = B (256 * (R 4 % 2) + ln % 8 + 8 * dnm B R (8 * t) ln)) (hpa : pa = B (4 * (R 3 % 128) + dnm B R (8 * t) ln / 8)) : rw_v l y_SC_drawTileRow b_SC_drawTileRow 7 none { frames := 3, cells := 0, slots := 0, locals := 62 } D (kT k) (scW q k ln (dln (fun x => dob R (dtl B R x ln)) ln (8 * t) px) cv co B R sx pt rd wt) [.ref (q 5), .int (nI (ln * 64 + t * 8)), .int (nI pn), .int (nI pa)] (fun (_ : Unit) => True) (fun (_ : Unit) => (scW q k ln (dln (fun x => dob R (dtl B R x ln)) ln (8 * (t + 1)) px) cv co B R sx pt rd wt)) := by
  refine rw_headv (by decide) (Nat.le_of_ble_eq_true rfl) ?_
  intro p e s m below meth c ls A hx hb hr hlocks hml hown hts hK hA hP hD hS hl
  have hown : s.vm.findClass "SlotScreen$Screen" = some m.cls := hown
  have hl : lv_has ls 7 [(0, .ref (q 5)), (1, .int (nI (ln * 64 + t * 8))), (2, .int (nI pn)), (3, .int (nI pa))] := hl
  have g8 : pa < 256 := by rw [hpa]; exact hB _
  have g9 : pn < 256 := by rw [hpn]; exact hB _
  have g7 := dob_lt (R := R) (c := pa % 16) (by omega)
  have g6 := dob_lt (R := R) (c := pa / 16) (by omega)
  refine lv_aload_n hx hb d_SC_drawTileRow_0 rfl (lv_at hl 0 rfl) ?_
  refine lv_iload_n hx hb d_SC_drawTileRow_1 rfl (lv_at hl 3 rfl) ?_
  refine lv_bipush (v := nI 16) hx hb d_SC_drawTileRow_2 (by decide +kernel) ?_
  refine lv_idiv hx hb d_SC_drawTileRow_4 (by first | decide +kernel | exact nI_ne0 (by omega) (by omega)) ?_
  refine ss_rt (y := nI (pa / 16)) (pk_div (by omega) (by omega) (by omega)) ?_
  refine kr_iV (As := [.int (nI (pa / 16))]) (rest := []) ⟨hx, hb, hml, hown, hts⟩ (c_SC_orBack l D k q ln (dln (fun x => dob R (dtl B R x ln)) ln (8 * t) px) cv co B R sx pt rd wt hB hR (pa / 16) (by omega)) (cwV 1 hts (gV w_202 w_204 w_p5 w_4 w_205) rfl rfl rfl (by decide +kernel) ⟨Nat.le_of_ble_eq_true rfl, Nat.le_of_ble_eq_true rfl⟩) hK hP (va_recv hK hP (ci := 3) (q0 := 0) rfl rfl) rfl hl.1 rfl (Nat.le_of_ble_eq_true rfl) d_SC_drawTileRow_5 ⟨Nat.zero_le _, Nat.zero_le _⟩ ?_
  refine lv_istore (lv' := [(4, .int (nI (dob R (pa / 16)))), (0, .ref (q 5)), (1, .int (nI (ln * 64 + t * 8))), (2, .int (nI pn)), (3, .int (nI pa))]) hx hb d_SC_drawTileRow_8 hl (by decide) rfl (fun ls hl => ?_)
  refine lv_aload_n hx hb d_SC_drawTileRow_10 rfl (lv_at hl 1 rfl) ?_
  refine lv_iload_n hx hb d_SC_drawTileRow_11 rfl (lv_at hl 4 rfl) ?_
  refine lv_bipush (v := nI 16) hx hb d_SC_drawTileRow_12 (by decide +kernel) ?_
  refine lv_irem hx hb d_SC_drawTileRow_14 (by first | decide +kernel | exact nI_ne0 (by omega) (by omega)) ?_
  refine ss_rt (y := nI (pa % 16)) (pk_rem (by omega) (by omega) (by omega)) ?_
  refine kr_iV (As := [.int (nI (pa % 16))]) (rest := []) ⟨hx, hb, hml, hown, hts⟩ (c_SC_orBack l D k q ln (dln (fun x => dob R (dtl B R x ln)) ln (8 * t) px) cv co B R sx pt rd wt hB hR (pa % 16) (by omega)) (cwV 1 hts (gV w_202 w_204 w_p5 w_4 w_205) rfl rfl rfl (by decide +kernel) ⟨Nat.le_of_ble_eq_true rfl, Nat.le_of_ble_eq_true rfl⟩) hK hP (va_recv hK hP (ci := 3) (q0 := 0) rfl rfl) rfl hl.1 rfl (Nat.le_of_ble_eq_true rfl) d_SC_drawTileRow_15 ⟨Nat.zero_le _, Nat.zero_le _⟩ ?_
  refine lv_istore (lv' := [(5, .int (nI (dob R (pa % 16)))), (4, .int (nI (dob R (pa / 16)))), (0, .ref (q 5)), (1, .int (nI (ln * 64 + t * 8))), (2, .int (nI pn)), (3, .int (nI pa))]) hx hb d_SC_drawTileRow_18 hl (by decide) rfl (fun ls hl => ?_)
  refine lv_iconst (v := nI 0) hx hb d_SC_drawTileRow_20 (by decide +kernel) ?_
  refine lv_istore (lv' := [(6, .int (nI 0)), (5, .int (nI (dob R (pa % 16)))), (4, .int (nI (dob R (pa / 16)))), (0, .ref (q 5)), (1, .int (nI (ln * 64 + t * 8))), (2, .int (nI pn)), (3, .int (nI pa))]) hx hb d_SC_drawTileRow_21 hl (by decide) rfl (fun ls hl => ?_)
  have loop : ∀ (j9 i : Nat), i + j9 = 8 → ∀ (H : Heap) (locs : List Loc), va_P D vwCl (scW q k ln (dln (fun x => dob R (dtl B R x ln)) ln (8 * t + i) px) cv co B R sx pt rd wt) H → va_D A (scW q k ln (dln (fun x => dob R (dtl B R x ln)) ln (8 * t + i) px) cv co B R sx pt rd wt) → va_S A s.heap H locs → ∀ (ls : Array Slot), lv_has ls 7 [(6, .int (nI i)), (5, .int (nI (dob R (pa % 16)))), (4, .int (nI (dob R (pa / 16)))), (0, .ref (q 5)), (1, .int (nI (ln * 64 + t * 8))), (2, .int (nI pn)), (3, .int (nI pa))] → W p l e (headSpec (wsG y_SC_drawTileRow b_SC_drawTileRow 7 none) { frames := 3, cells := 0, slots := 0, locals := 62 }).room s m ([.ref (q 5), .int (nI (ln * 64 + t * 8)), .int (nI pn), .int (nI pa)] : List Value).toArray below meth c H locs 0 0 (MQ below (rw_Qv D (fun (_ : Unit) => True) (fun (_ : Unit) => (scW q k ln (dln (fun x => dob R (dtl B R x ln)) ln (8 * (t + 1)) px) cv co B R sx pt rd wt)) A) ([.ref (q 5), .int (nI (ln * 64 + t * 8)), .int (nI pn), .int (nI pa)] : List Value).toArray s 0 0 A) (F0 m 23 ls []) := by
    intro j9
    induction j9 with
    | zero =>
      intro i h9 H locs hP hD hS ls hl
      obtain rfl : i = 8 := by omega
      refine lv_iload hx hb d_SC_drawTileRow_23 (lv_at hl 0 rfl) ?_
      refine lv_bipush (v := nI 8) hx hb d_SC_drawTileRow_25 (by decide +kernel) ?_
      refine lv_icmp_ge (tgt := 65) hx hb d_SC_drawTileRow_27 (by decide) (fun c1 => ?_) (fun c1 => ?_)
      · have c1 := (nI_leI (by omega) (by omega)).mp c1
        exact rw_retv hx hb hr hlocks d_SC_drawTileRow_65 hS () (trivial) (by rw [show (dln (fun x => dob R (dtl B R x ln)) ln (8 * (t + 1)) px) = (dln (fun x => dob R (dtl B R x ln)) ln (8 * t + 8) px) from by rw [show 8 * (t + 1) = 8 * t + 8 by omega]]; exact hP)
      · have c1 := mt (nI_leI (by omega) (by omega)).mpr c1
        exfalso; omega
    | succ j9 ih =>
      intro i h9 H locs hP hD hS ls hl
      refine lv_iload hx hb d_SC_drawTileRow_23 (lv_at hl 0 rfl) ?_
      refine lv_bipush (v := nI 8) hx hb d_SC_drawTileRow_25 (by decide +kernel) ?_
      refine lv_icmp_ge (tgt := 65) hx hb d_SC_drawTileRow_27 (by decide) (fun c2 => ?_) (fun c2 => ?_)
      · have c2 := (nI_leI (by omega) (by omega)).mp c2
        exfalso; omega
      · have c2 := mt (nI_leI (by omega) (by omega)).mpr c2
        refine lv_aload_n hx hb d_SC_drawTileRow_30 rfl (lv_at hl 3 rfl) ?_
        refine va_get (D := D) (ci := 3) (v := .ref (q 6)) (C := R_SC) (T := T_SC) (N := 5) hx hb hts in_SC hown hK hP 0 rfl rfl 1 (by decide) (hts _ w_78) (fun _ h9 => h9) rfl d_SC_drawTileRow_31 ?_
        refine lv_iload_n hx hb d_SC_drawTileRow_34 rfl (lv_at hl 4 rfl) ?_
        refine lv_iload hx hb d_SC_drawTileRow_35 (lv_at hl 0 rfl) ?_
        refine lv_iadd hx hb d_SC_drawTileRow_37 ?_
        refine ss_rt (y := nI (ln * 64 + t * 8 + i)) (nI_add _ _) ?_
        refine lv_iload_n hx hb d_SC_drawTileRow_38 rfl (lv_at hl 5 rfl) ?_
        refine lv_bipush (v := nI 7) hx hb d_SC_drawTileRow_39 (by decide +kernel) ?_
        refine lv_iload hx hb d_SC_drawTileRow_41 (lv_at hl 0 rfl) ?_
        refine lv_isub hx hb d_SC_drawTileRow_43 ?_
        refine ss_rt (y := nI (7 - i)) (pk_sub (by omega)) ?_
        refine lv_ishr hx hb d_SC_drawTileRow_44 ?_
        refine ss_rt (y := nI (pn / 2 ^ (7 - i))) (ss_shr (by omega) (by omega)) ?_
        refine lv_iconst (v := nI 1) hx hb d_SC_drawTileRow_45 (by decide +kernel) ?_
        refine lv_iand hx hb d_SC_drawTileRow_46 ?_
        refine ss_rt (y := nI (pn / 2 ^ (7 - i) % 2)) (pk_andN (Nat.lt_of_le_of_lt (Nat.div_le_self _ _) (by omega)) 1 (by decide +kernel)) ?_
        refine lv_iconst (v := nI 1) hx hb d_SC_drawTileRow_47 (by decide +kernel) ?_
        refine lv_icmp_ne (tgt := 56) hx hb d_SC_drawTileRow_48 (by decide) (fun c3 => ?_) (fun c3 => ?_)
        · have c3 := mt (nI_eq (by omega) (by omega)).mpr c3
          refine lv_iload hx hb d_SC_drawTileRow_56 (lv_at hl 1 rfl) ?_
          refine va_iast hx hb hK hP hD hS 1 0 rfl rfl (vp_in_nI (by omega) (by omega)) d_SC_drawTileRow_58 (fun H locs hP hD hS => ?_)
          rw [ss_upI (dln (fun x => dob R (dtl B R x ln)) ln (8 * t + i) px) (k := (ln * 64 + t * 8 + i)) (v := (dob R (pa % 16))) (by omega)] at hP hD
          have hP : va_P D vwCl (scW q k ln (ss_up (dln (fun x => dob R (dtl B R x ln)) ln (8 * t + i) px) (ln * 64 + t * 8 + i) (dob R (pa % 16))) cv co B R sx pt rd wt) _ := hP
          have hD : va_D A (scW q k ln (ss_up (dln (fun x => dob R (dtl B R x ln)) ln (8 * t + i) px) (ln * 64 + t * 8 + i) (dob R (pa % 16))) cv co B R sx pt rd wt) := hD
          refine lv_iinc (v := nI (i + 1)) (lv' := [(6, .int (nI (i + 1))), (5, .int (nI (dob R (pa % 16)))), (4, .int (nI (dob R (pa / 16)))), (0, .ref (q 5)), (1, .int (nI (ln * 64 + t * 8))), (2, .int (nI pn)), (3, .int (nI pa))]) hx hb d_SC_drawTileRow_59 hl (k := 0) rfl (nI_1 _) (by decide) rfl (fun ls hl => ?_)
          refine lv_goto (tgt := 23) hx hb d_SC_drawTileRow_62 (by decide) ?_
          have e9 : dob R (pa % 16) = (fun x => dob R (dtl B R x ln)) (8 * t + i) := dtp2 ht (by omega) hpn hpa (by assumption)
          rw [show ln * 64 + t * 8 + i = 64 * ln + (8 * t + i) by omega, e9, dln_s] at hP hD
          exact ih (i + 1) (by omega) _ _ hP hD hS ls (lv_sub hl [0, 1, 2, 3, 4, 5, 6] rfl)
        · have c3 := (nI_eq (by omega) (by omega)).mp c3
          refine lv_iload hx hb d_SC_drawTileRow_51 (lv_at hl 2 rfl) ?_
          refine lv_goto (tgt := 58) hx hb d_SC_drawTileRow_53 (by decide) ?_
          refine va_iast hx hb hK hP hD hS 1 0 rfl rfl (vp_in_nI (by omega) (by omega)) d_SC_drawTileRow_58 (fun H locs hP hD hS => ?_)
          rw [ss_upI (dln (fun x => dob R (dtl B R x ln)) ln (8 * t + i) px) (k := (ln * 64 + t * 8 + i)) (v := (dob R (pa / 16))) (by omega)] at hP hD
          have hP : va_P D vwCl (scW q k ln (ss_up (dln (fun x => dob R (dtl B R x ln)) ln (8 * t + i) px) (ln * 64 + t * 8 + i) (dob R (pa / 16))) cv co B R sx pt rd wt) _ := hP
          have hD : va_D A (scW q k ln (ss_up (dln (fun x => dob R (dtl B R x ln)) ln (8 * t + i) px) (ln * 64 + t * 8 + i) (dob R (pa / 16))) cv co B R sx pt rd wt) := hD
          refine lv_iinc (v := nI (i + 1)) (lv' := [(6, .int (nI (i + 1))), (5, .int (nI (dob R (pa % 16)))), (4, .int (nI (dob R (pa / 16)))), (0, .ref (q 5)), (1, .int (nI (ln * 64 + t * 8))), (2, .int (nI pn)), (3, .int (nI pa))]) hx hb d_SC_drawTileRow_59 hl (k := 0) rfl (nI_1 _) (by decide) rfl (fun ls hl => ?_)
          refine lv_goto (tgt := 23) hx hb d_SC_drawTileRow_62 (by decide) ?_
          have e9 : dob R (pa / 16) = (fun x => dob R (dtl B R x ln)) (8 * t + i) := dtp1 ht (by omega) hpn hpa (by assumption)
          rw [show ln * 64 + t * 8 + i = 64 * ln + (8 * t + i) by omega, e9, dln_s] at hP hD
          exact ih (i + 1) (by omega) _ _ hP hD hS ls (lv_sub hl [0, 1, 2, 3, 4, 5, 6] rfl)
  have hP : va_P D vwCl (scW q k ln (dln (fun x => dob R (dtl B R x ln)) ln (8 * t + 0) px) cv co B R sx pt rd wt) _ := hP
  have hD : va_D A (scW q k ln (dln (fun x => dob R (dtl B R x ln)) ln (8 * t + 0) px) cv co B R sx pt rd wt) := hD
  exact loop (8 - 0) 0 (by omega) _ _ hP hD hS ls (lv_sub hl [0, 1, 2, 3, 4, 5, 6] rfl)
